/-! the law: its cases -/
section LQC
variable {p : Program} {l : Launch} {e : Env} {s : State} {m : MethodId} {below : List Frame} {meth : Method} {c : Code} {σ : Nat → Nat} {D : va_G} {cy : ClassId} {b L : Nat} {xs : Nat → Int32} {qa qb : Nat → Nat} {Q : State → Prop} {i n : Int} {S : SX5} {M : SX6}
set_option maxHeartbeats 4000000 in
set_option maxRecDepth 100000 in
theorem lq_letter (C : lq_C p s m c b σ D cy) (X : lq_X s b L xs) (hi : 0 ≤ i ∧ i + 4 ≤ L) (hn : 0 ≤ n ∧ n ≤ 9000) (hI : Inv n S M) (k : ∀ S' M', Inv (n + 9) S' M' → cv_V p l e room_1 s m #[Value.ref b] below meth c 4 D (lq_A s) Q 64 4242 (wX5 qa cy S' ++ wX6 qb cy M') 760 (lq_lv i qa qb b) []) : cv_V p l e room_1 s m #[Value.ref b] below meth c 4 D (lq_A s) Q 64 4242 (wX5 qa cy S ++ wX6 qb cy M) 148 (lq_lv i qa qb b) [] := by
  obtain ⟨r, S', M', e1, e2, hJ⟩ := B_letter ⟨hn.1, by omega⟩ hI (xs (ii i + ii 1).toNatClampNeg)
  refine cv_aload_n (i := 1) (q := 149) 1 C dL_law_148 rfl rfl rfl ?_
  refine lq_rd (q := 154) 1 (by omega) C X hi dL_law_149 dL_law_150 dL_law_151 dL_law_152 dL_law_153 rfl ?_
  refine lq_5 (n := 1) (As := [.int (xs (ii i + ii 1).toNatClampNeg)]) (st := []) (q := 157) C (KX5_letter (res := (r, S')) qa S (xs (ii i + ii 1).toNatClampNeg) e1) gL_law_X5_letter rfl ⟨rfl, rfl⟩ (by decide +kernel) rfl ⟨(Nat.le_of_ble_eq_true rfl), (Nat.le_of_ble_eq_true rfl)⟩ rfl (Nat.le_of_ble_eq_true rfl) dL_law_154 rfl ?_
  refine cv_aload_n (i := 2) (q := 158) 2 C dL_law_157 rfl rfl rfl ?_
  refine lq_rd (q := 163) 1 (by omega) C X hi dL_law_158 dL_law_159 dL_law_160 dL_law_161 dL_law_162 rfl ?_
  refine lq_6 (n := 1) (As := [.int (xs (ii i + ii 1).toNatClampNeg)]) (st := [.int r]) (q := 166) C (KX6_letter (res := (r, M')) qb M (xs (ii i + ii 1).toNatClampNeg) e2) gL_law_X6_letter rfl ⟨rfl, rfl⟩ (by decide +kernel) rfl ⟨(Nat.le_of_ble_eq_true rfl), (Nat.le_of_ble_eq_true rfl)⟩ rfl (Nat.le_of_ble_eq_true rfl) dL_law_163 rfl ?_
  exact cv_icmp_eq (tgt := 760) (q := 169) C dL_law_166 (by decide) rfl (fun _ => k S' M' (Inv_mono hJ (by omega))) (fun h => absurd rfl h)
set_option maxHeartbeats 4000000 in
set_option maxRecDepth 100000 in
theorem lq_blank (C : lq_C p s m c b σ D cy) (X : lq_X s b L xs) (hi : 0 ≤ i ∧ i + 4 ≤ L) (hn : 0 ≤ n ∧ n ≤ 9000) (hI : Inv n S M) (k : ∀ S' M', Inv (n + 9) S' M' → cv_V p l e room_1 s m #[Value.ref b] below meth c 4 D (lq_A s) Q 64 4242 (wX5 qa cy S' ++ wX6 qb cy M') 760 (lq_lv i qa qb b) []) : cv_V p l e room_1 s m #[Value.ref b] below meth c 4 D (lq_A s) Q 64 4242 (wX5 qa cy S ++ wX6 qb cy M) 171 (lq_lv i qa qb b) [] := by
  obtain ⟨r, S', M', e1, e2, hJ⟩ := B_blank ⟨hn.1, by omega⟩ hI
  refine cv_aload_n (i := 1) (q := 172) 1 C dL_law_171 rfl rfl rfl ?_
  refine lq_5 (n := 0) (As := []) (st := []) (q := 175) C (KX5_blank (res := (r, S')) qa S e1) gL_law_X5_blank rfl ⟨rfl, rfl⟩ (by decide +kernel) rfl ⟨(Nat.le_of_ble_eq_true rfl), (Nat.le_of_ble_eq_true rfl)⟩ rfl (Nat.le_of_ble_eq_true rfl) dL_law_172 rfl ?_
  refine cv_aload_n (i := 2) (q := 176) 2 C dL_law_175 rfl rfl rfl ?_
  refine lq_6 (n := 0) (As := []) (st := [.int r]) (q := 179) C (KX6_blank (res := (r, M')) qb M e2) gL_law_X6_blank rfl ⟨rfl, rfl⟩ (by decide +kernel) rfl ⟨(Nat.le_of_ble_eq_true rfl), (Nat.le_of_ble_eq_true rfl)⟩ rfl (Nat.le_of_ble_eq_true rfl) dL_law_176 rfl ?_
  exact cv_icmp_eq (tgt := 760) (q := 182) C dL_law_179 (by decide) rfl (fun _ => k S' M' (Inv_mono hJ (by omega))) (fun h => absurd rfl h)
set_option maxHeartbeats 4000000 in
set_option maxRecDepth 100000 in
theorem lq_fault (C : lq_C p s m c b σ D cy) (X : lq_X s b L xs) (hi : 0 ≤ i ∧ i + 4 ≤ L) (hn : 0 ≤ n ∧ n ≤ 9000) (hI : Inv n S M) (k : ∀ S' M', Inv (n + 9) S' M' → cv_V p l e room_1 s m #[Value.ref b] below meth c 4 D (lq_A s) Q 64 4242 (wX5 qa cy S' ++ wX6 qb cy M') 760 (lq_lv i qa qb b) []) : cv_V p l e room_1 s m #[Value.ref b] below meth c 4 D (lq_A s) Q 64 4242 (wX5 qa cy S ++ wX6 qb cy M) 184 (lq_lv i qa qb b) [] := by
  obtain ⟨r, e1, e2⟩ := B_fault hI
  refine cv_aload_n (i := 1) (q := 185) 1 C dL_law_184 rfl rfl rfl ?_
  refine lq_5 (n := 0) (As := []) (st := []) (q := 188) C (KX5_fault (res := r) qa S e1) gL_law_X5_fault rfl ⟨rfl, rfl⟩ (by decide +kernel) rfl ⟨(Nat.le_of_ble_eq_true rfl), (Nat.le_of_ble_eq_true rfl)⟩ rfl (Nat.le_of_ble_eq_true rfl) dL_law_185 rfl ?_
  refine cv_aload_n (i := 2) (q := 189) 2 C dL_law_188 rfl rfl rfl ?_
  refine lq_6 (n := 0) (As := []) (st := [.int r]) (q := 192) C (KX6_fault (res := r) qb M e2) gL_law_X6_fault rfl ⟨rfl, rfl⟩ (by decide +kernel) rfl ⟨(Nat.le_of_ble_eq_true rfl), (Nat.le_of_ble_eq_true rfl)⟩ rfl (Nat.le_of_ble_eq_true rfl) dL_law_189 rfl ?_
  exact cv_icmp_eq (tgt := 760) (q := 195) C dL_law_192 (by decide) rfl (fun _ => k S M (Inv_mono hI (by omega))) (fun h => absurd rfl h)
set_option maxHeartbeats 4000000 in
set_option maxRecDepth 100000 in
theorem lq_shelf (C : lq_C p s m c b σ D cy) (X : lq_X s b L xs) (hi : 0 ≤ i ∧ i + 4 ≤ L) (hn : 0 ≤ n ∧ n ≤ 9000) (hI : Inv n S M) (k : ∀ S' M', Inv (n + 9) S' M' → cv_V p l e room_1 s m #[Value.ref b] below meth c 4 D (lq_A s) Q 64 4242 (wX5 qa cy S' ++ wX6 qb cy M') 760 (lq_lv i qa qb b) []) : cv_V p l e room_1 s m #[Value.ref b] below meth c 4 D (lq_A s) Q 64 4242 (wX5 qa cy S ++ wX6 qb cy M) 197 (lq_lv i qa qb b) [] := by
  obtain ⟨r, S', M', e1, e2, hJ⟩ := B_shelf hn hI
  refine cv_aload_n (i := 1) (q := 198) 1 C dL_law_197 rfl rfl rfl ?_
  refine lq_5 (n := 0) (As := []) (st := []) (q := 201) C (KX5_shelf (res := (r, S')) qa S e1) gL_law_X5_shelf rfl ⟨rfl, rfl⟩ (by decide +kernel) rfl ⟨(Nat.le_of_ble_eq_true rfl), (Nat.le_of_ble_eq_true rfl)⟩ rfl (Nat.le_of_ble_eq_true rfl) dL_law_198 rfl ?_
  refine cv_aload_n (i := 2) (q := 202) 2 C dL_law_201 rfl rfl rfl ?_
  refine lq_6 (n := 0) (As := []) (st := [.int r]) (q := 205) C (KX6_shelf (res := (r, M')) qb M e2) gL_law_X6_shelf rfl ⟨rfl, rfl⟩ (by decide +kernel) rfl ⟨(Nat.le_of_ble_eq_true rfl), (Nat.le_of_ble_eq_true rfl)⟩ rfl (Nat.le_of_ble_eq_true rfl) dL_law_202 rfl ?_
  exact cv_icmp_eq (tgt := 760) (q := 208) C dL_law_205 (by decide) rfl (fun _ => k S' M' hJ) (fun h => absurd rfl h)
set_option maxHeartbeats 4000000 in
set_option maxRecDepth 100000 in
theorem lq_entry (C : lq_C p s m c b σ D cy) (X : lq_X s b L xs) (hi : 0 ≤ i ∧ i + 4 ≤ L) (hn : 0 ≤ n ∧ n ≤ 9000) (hI : Inv n S M) (k : ∀ S' M', Inv (n + 9) S' M' → cv_V p l e room_1 s m #[Value.ref b] below meth c 4 D (lq_A s) Q 64 4242 (wX5 qa cy S' ++ wX6 qb cy M') 760 (lq_lv i qa qb b) []) : cv_V p l e room_1 s m #[Value.ref b] below meth c 4 D (lq_A s) Q 64 4242 (wX5 qa cy S ++ wX6 qb cy M) 210 (lq_lv i qa qb b) [] := by
  obtain ⟨r, S', e1, e2, hJ⟩ := B_entry ⟨hn.1, by omega⟩ hI (xs (ii i + ii 1).toNatClampNeg) (xs (ii i + ii 2).toNatClampNeg)
  refine cv_aload_n (i := 1) (q := 211) 1 C dL_law_210 rfl rfl rfl ?_
  refine lq_rd (q := 216) 1 (by omega) C X hi dL_law_211 dL_law_212 dL_law_213 dL_law_214 dL_law_215 rfl ?_
  refine lq_rd (q := 221) 2 (by omega) C X hi dL_law_216 dL_law_217 dL_law_218 dL_law_219 dL_law_220 rfl ?_
  refine lq_5 (n := 2) (As := [.int (xs (ii i + ii 1).toNatClampNeg), .int (xs (ii i + ii 2).toNatClampNeg)]) (st := []) (q := 224) C (KX5_entry (res := (r, S')) qa S (xs (ii i + ii 1).toNatClampNeg) (xs (ii i + ii 2).toNatClampNeg) e1) gL_law_X5_entry rfl ⟨rfl, rfl⟩ (by decide +kernel) rfl ⟨(Nat.le_of_ble_eq_true rfl), (Nat.le_of_ble_eq_true rfl)⟩ rfl (Nat.le_of_ble_eq_true rfl) dL_law_221 rfl ?_
  refine cv_aload_n (i := 2) (q := 225) 2 C dL_law_224 rfl rfl rfl ?_
  refine lq_rd (q := 230) 1 (by omega) C X hi dL_law_225 dL_law_226 dL_law_227 dL_law_228 dL_law_229 rfl ?_
  refine lq_rd (q := 235) 2 (by omega) C X hi dL_law_230 dL_law_231 dL_law_232 dL_law_233 dL_law_234 rfl ?_
  refine lq_6 (n := 2) (As := [.int (xs (ii i + ii 1).toNatClampNeg), .int (xs (ii i + ii 2).toNatClampNeg)]) (st := [.int r]) (q := 238) C (KX6_entry (res := r) qb M (xs (ii i + ii 1).toNatClampNeg) (xs (ii i + ii 2).toNatClampNeg) e2) gL_law_X6_entry rfl ⟨rfl, rfl⟩ (by decide +kernel) rfl ⟨(Nat.le_of_ble_eq_true rfl), (Nat.le_of_ble_eq_true rfl)⟩ rfl (Nat.le_of_ble_eq_true rfl) dL_law_235 rfl ?_
  exact cv_icmp_eq (tgt := 760) (q := 241) C dL_law_238 (by decide) rfl (fun _ => k S' M (Inv_mono hJ (by omega))) (fun h => absurd rfl h)
set_option maxHeartbeats 4000000 in
set_option maxRecDepth 100000 in
theorem lq_as (C : lq_C p s m c b σ D cy) (X : lq_X s b L xs) (hi : 0 ≤ i ∧ i + 4 ≤ L) (hn : 0 ≤ n ∧ n ≤ 9000) (hI : Inv n S M) (k : ∀ S' M', Inv (n + 9) S' M' → cv_V p l e room_1 s m #[Value.ref b] below meth c 4 D (lq_A s) Q 64 4242 (wX5 qa cy S' ++ wX6 qb cy M') 760 (lq_lv i qa qb b) []) : cv_V p l e room_1 s m #[Value.ref b] below meth c 4 D (lq_A s) Q 64 4242 (wX5 qa cy S ++ wX6 qb cy M) 243 (lq_lv i qa qb b) [] := by
  obtain ⟨r, e1, e2⟩ := B_as ⟨hn.1, by omega⟩ hI (xs (ii i + ii 1).toNatClampNeg) (xs (ii i + ii 2).toNatClampNeg)
  refine cv_aload_n (i := 1) (q := 244) 1 C dL_law_243 rfl rfl rfl ?_
  refine lq_rd (q := 249) 1 (by omega) C X hi dL_law_244 dL_law_245 dL_law_246 dL_law_247 dL_law_248 rfl ?_
  refine lq_rd (q := 254) 2 (by omega) C X hi dL_law_249 dL_law_250 dL_law_251 dL_law_252 dL_law_253 rfl ?_
  refine lq_5 (n := 2) (As := [.int (xs (ii i + ii 1).toNatClampNeg), .int (xs (ii i + ii 2).toNatClampNeg)]) (st := []) (q := 257) C (KX5_as (res := r) qa S (xs (ii i + ii 1).toNatClampNeg) (xs (ii i + ii 2).toNatClampNeg) e1) gL_law_X5_as rfl ⟨rfl, rfl⟩ (by decide +kernel) rfl ⟨(Nat.le_of_ble_eq_true rfl), (Nat.le_of_ble_eq_true rfl)⟩ rfl (Nat.le_of_ble_eq_true rfl) dL_law_254 rfl ?_
  refine cv_aload_n (i := 2) (q := 258) 2 C dL_law_257 rfl rfl rfl ?_
  refine lq_rd (q := 263) 1 (by omega) C X hi dL_law_258 dL_law_259 dL_law_260 dL_law_261 dL_law_262 rfl ?_
  refine lq_rd (q := 268) 2 (by omega) C X hi dL_law_263 dL_law_264 dL_law_265 dL_law_266 dL_law_267 rfl ?_
  refine lq_6 (n := 2) (As := [.int (xs (ii i + ii 1).toNatClampNeg), .int (xs (ii i + ii 2).toNatClampNeg)]) (st := [.int r]) (q := 271) C (KX6_as (res := r) qb M (xs (ii i + ii 1).toNatClampNeg) (xs (ii i + ii 2).toNatClampNeg) e2) gL_law_X6_as rfl ⟨rfl, rfl⟩ (by decide +kernel) rfl ⟨(Nat.le_of_ble_eq_true rfl), (Nat.le_of_ble_eq_true rfl)⟩ rfl (Nat.le_of_ble_eq_true rfl) dL_law_268 rfl ?_
  exact cv_icmp_eq (tgt := 760) (q := 274) C dL_law_271 (by decide) rfl (fun _ => k S M (Inv_mono hI (by omega))) (fun h => absurd rfl h)
set_option maxHeartbeats 4000000 in
set_option maxRecDepth 100000 in
theorem lq_at (C : lq_C p s m c b σ D cy) (X : lq_X s b L xs) (hi : 0 ≤ i ∧ i + 4 ≤ L) (hn : 0 ≤ n ∧ n ≤ 9000) (hI : Inv n S M) (k : ∀ S' M', Inv (n + 9) S' M' → cv_V p l e room_1 s m #[Value.ref b] below meth c 4 D (lq_A s) Q 64 4242 (wX5 qa cy S' ++ wX6 qb cy M') 760 (lq_lv i qa qb b) []) : cv_V p l e room_1 s m #[Value.ref b] below meth c 4 D (lq_A s) Q 64 4242 (wX5 qa cy S ++ wX6 qb cy M) 276 (lq_lv i qa qb b) [] := by
  obtain ⟨r, e1, e2⟩ := B_at ⟨hn.1, by omega⟩ hI (xs (ii i + ii 1).toNatClampNeg)
  refine cv_aload_n (i := 1) (q := 277) 1 C dL_law_276 rfl rfl rfl ?_
  refine lq_rd (q := 282) 1 (by omega) C X hi dL_law_277 dL_law_278 dL_law_279 dL_law_280 dL_law_281 rfl ?_
  refine lq_5 (n := 1) (As := [.int (xs (ii i + ii 1).toNatClampNeg)]) (st := []) (q := 285) C (KX5_at (res := r) qa S (xs (ii i + ii 1).toNatClampNeg) e1) gL_law_X5_at rfl ⟨rfl, rfl⟩ (by decide +kernel) rfl ⟨(Nat.le_of_ble_eq_true rfl), (Nat.le_of_ble_eq_true rfl)⟩ rfl (Nat.le_of_ble_eq_true rfl) dL_law_282 rfl ?_
  refine cv_aload_n (i := 2) (q := 286) 2 C dL_law_285 rfl rfl rfl ?_
  refine lq_rd (q := 291) 1 (by omega) C X hi dL_law_286 dL_law_287 dL_law_288 dL_law_289 dL_law_290 rfl ?_
  refine lq_6 (n := 1) (As := [.int (xs (ii i + ii 1).toNatClampNeg)]) (st := [.int r]) (q := 294) C (KX6_at (res := r) qb M (xs (ii i + ii 1).toNatClampNeg) e2) gL_law_X6_at rfl ⟨rfl, rfl⟩ (by decide +kernel) rfl ⟨(Nat.le_of_ble_eq_true rfl), (Nat.le_of_ble_eq_true rfl)⟩ rfl (Nat.le_of_ble_eq_true rfl) dL_law_291 rfl ?_
  exact cv_icmp_eq (tgt := 760) (q := 297) C dL_law_294 (by decide) rfl (fun _ => k S M (Inv_mono hI (by omega))) (fun h => absurd rfl h)
set_option maxHeartbeats 4000000 in
set_option maxRecDepth 100000 in
theorem lq_next (C : lq_C p s m c b σ D cy) (X : lq_X s b L xs) (hi : 0 ≤ i ∧ i + 4 ≤ L) (hn : 0 ≤ n ∧ n ≤ 9000) (hI : Inv n S M) (k : ∀ S' M', Inv (n + 9) S' M' → cv_V p l e room_1 s m #[Value.ref b] below meth c 4 D (lq_A s) Q 64 4242 (wX5 qa cy S' ++ wX6 qb cy M') 760 (lq_lv i qa qb b) []) : cv_V p l e room_1 s m #[Value.ref b] below meth c 4 D (lq_A s) Q 64 4242 (wX5 qa cy S ++ wX6 qb cy M) 299 (lq_lv i qa qb b) [] := by
  obtain ⟨r, e1, e2⟩ := B_next ⟨hn.1, by omega⟩ hI (xs (ii i + ii 1).toNatClampNeg)
  refine cv_aload_n (i := 1) (q := 300) 1 C dL_law_299 rfl rfl rfl ?_
  refine lq_rd (q := 305) 1 (by omega) C X hi dL_law_300 dL_law_301 dL_law_302 dL_law_303 dL_law_304 rfl ?_
  refine lq_5 (n := 1) (As := [.int (xs (ii i + ii 1).toNatClampNeg)]) (st := []) (q := 308) C (KX5_next (res := r) qa S (xs (ii i + ii 1).toNatClampNeg) e1) gL_law_X5_next rfl ⟨rfl, rfl⟩ (by decide +kernel) rfl ⟨(Nat.le_of_ble_eq_true rfl), (Nat.le_of_ble_eq_true rfl)⟩ rfl (Nat.le_of_ble_eq_true rfl) dL_law_305 rfl ?_
  refine cv_aload_n (i := 2) (q := 309) 2 C dL_law_308 rfl rfl rfl ?_
  refine lq_rd (q := 314) 1 (by omega) C X hi dL_law_309 dL_law_310 dL_law_311 dL_law_312 dL_law_313 rfl ?_
  refine lq_6 (n := 1) (As := [.int (xs (ii i + ii 1).toNatClampNeg)]) (st := [.int r]) (q := 317) C (KX6_next (res := r) qb M (xs (ii i + ii 1).toNatClampNeg) e2) gL_law_X6_next rfl ⟨rfl, rfl⟩ (by decide +kernel) rfl ⟨(Nat.le_of_ble_eq_true rfl), (Nat.le_of_ble_eq_true rfl)⟩ rfl (Nat.le_of_ble_eq_true rfl) dL_law_314 rfl ?_
  exact cv_icmp_eq (tgt := 760) (q := 320) C dL_law_317 (by decide) rfl (fun _ => k S M (Inv_mono hI (by omega))) (fun h => absurd rfl h)
set_option maxHeartbeats 4000000 in
set_option maxRecDepth 100000 in
theorem lq_put (C : lq_C p s m c b σ D cy) (X : lq_X s b L xs) (hi : 0 ≤ i ∧ i + 4 ≤ L) (hn : 0 ≤ n ∧ n ≤ 9000) (hI : Inv n S M) (k : ∀ S' M', Inv (n + 9) S' M' → cv_V p l e room_1 s m #[Value.ref b] below meth c 4 D (lq_A s) Q 64 4242 (wX5 qa cy S' ++ wX6 qb cy M') 760 (lq_lv i qa qb b) []) : cv_V p l e room_1 s m #[Value.ref b] below meth c 4 D (lq_A s) Q 64 4242 (wX5 qa cy S ++ wX6 qb cy M) 322 (lq_lv i qa qb b) [] := by
  obtain ⟨r, S', M', e1, e2, hJ⟩ := B_put ⟨hn.1, by omega⟩ hI (xs (ii i + ii 1).toNatClampNeg) (xs (ii i + ii 2).toNatClampNeg) (xs (ii i + ii 3).toNatClampNeg)
  refine cv_aload_n (i := 1) (q := 323) 1 C dL_law_322 rfl rfl rfl ?_
  refine lq_rd (q := 328) 1 (by omega) C X hi dL_law_323 dL_law_324 dL_law_325 dL_law_326 dL_law_327 rfl ?_
  refine lq_rd (q := 333) 2 (by omega) C X hi dL_law_328 dL_law_329 dL_law_330 dL_law_331 dL_law_332 rfl ?_
  refine lq_rd (q := 338) 3 (by omega) C X hi dL_law_333 dL_law_334 dL_law_335 dL_law_336 dL_law_337 rfl ?_
  refine lq_5 (n := 3) (As := [.int (xs (ii i + ii 1).toNatClampNeg), .int (xs (ii i + ii 2).toNatClampNeg), .int (xs (ii i + ii 3).toNatClampNeg)]) (st := []) (q := 341) C (KX5_put (res := (r, S')) qa S (xs (ii i + ii 1).toNatClampNeg) (xs (ii i + ii 2).toNatClampNeg) (xs (ii i + ii 3).toNatClampNeg) e1) gL_law_X5_put rfl ⟨rfl, rfl⟩ (by decide +kernel) rfl ⟨(Nat.le_of_ble_eq_true rfl), (Nat.le_of_ble_eq_true rfl)⟩ rfl (Nat.le_of_ble_eq_true rfl) dL_law_338 rfl ?_
  refine cv_aload_n (i := 2) (q := 342) 2 C dL_law_341 rfl rfl rfl ?_
  refine lq_rd (q := 347) 1 (by omega) C X hi dL_law_342 dL_law_343 dL_law_344 dL_law_345 dL_law_346 rfl ?_
  refine lq_rd (q := 352) 2 (by omega) C X hi dL_law_347 dL_law_348 dL_law_349 dL_law_350 dL_law_351 rfl ?_
  refine lq_rd (q := 357) 3 (by omega) C X hi dL_law_352 dL_law_353 dL_law_354 dL_law_355 dL_law_356 rfl ?_
  refine lq_6 (n := 3) (As := [.int (xs (ii i + ii 1).toNatClampNeg), .int (xs (ii i + ii 2).toNatClampNeg), .int (xs (ii i + ii 3).toNatClampNeg)]) (st := [.int r]) (q := 360) C (KX6_put (res := (r, M')) qb M (xs (ii i + ii 1).toNatClampNeg) (xs (ii i + ii 2).toNatClampNeg) (xs (ii i + ii 3).toNatClampNeg) e2) gL_law_X6_put rfl ⟨rfl, rfl⟩ (by decide +kernel) rfl ⟨(Nat.le_of_ble_eq_true rfl), (Nat.le_of_ble_eq_true rfl)⟩ rfl (Nat.le_of_ble_eq_true rfl) dL_law_357 rfl ?_
  exact cv_icmp_eq (tgt := 760) (q := 363) C dL_law_360 (by decide) rfl (fun _ => k S' M' (Inv_mono hJ (by omega))) (fun h => absurd rfl h)
end LQC
