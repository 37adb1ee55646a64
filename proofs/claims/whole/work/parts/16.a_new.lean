/-! constructors: a world that grows -/
/-- behind a constructor: the object and what it made, at some addresses -/
def cv_Qn (D : va_G) (tys : List (ClassId × FieldType)) (h0 : Nat) (w : (Nat → Nat) → va_W) (A : Nat → Prop) : Array Value → State → Outcome → State → Prop := fun _ st oc t => (∃ q : Nat → Nat, q 0 = h0 ∧ oc = .returned none ∧ va_P D vwCl (w q) t.heap ∧ va_K D vwCl tys t ∧ va_D A (w q)) ∧ va_F A st t
def cv_N (l : Launch) (y : MethodName) (wsy : List Cond) (rm : Room) (σ : Nat → Nat) (D : va_G) (tys : List (ClassId × FieldType)) (h0 : Nat) (wc : va_W) (w : (Nat → Nat) → va_W) (mc ms : Nat) : Prop := ∀ sz : Nat, Met l y wsy rm (cv_Pc σ D tys [.ref h0] wc sz) (cv_Qn D tys h0 w (va_A wc sz)) mc ms (va_A wc sz)
section CVN
variable {p : Program} {l : Launch} {e : Env} {R : Room} {s : State} {m : MethodId} {args : Array Value} {below : List Frame} {meth : Method} {c : Code}
variable {cc : ByteArray} {nL : Nat} {own : String} {Ts : List Cond} {σ : Nat → Nat} {D : va_G} {tys : List (ClassId × FieldType)} {A : Nat → Prop} {Q : State → Prop} {cells slots : Nat} {ws : va_W} {pc : Nat} {lv : List (Nat × Value)} {st : List Value} {q : Nat}
theorem cv_objI {idx a : Nat} (C : cv_C p s m args c cc nL own Ts σ D tys A) (hlink : Cond.methodLink own idx objectInit ∈ Ts) (hinst : Cond.instanceMethod objectInit ∈ Ts) (hcode : Cond.code objectInit ⟨#[0xb1]⟩ 1 none ∈ Ts) (hfr : 1 ≤ R.frames) (hlo : (st.map fun v => v.category).sum + 12 ≤ R.locals) (d : decode cc pc = .ok (.invokespecial idx, 3)) (hq : pc + 3 = q) (k : cv_V p l e R s m args below meth c nL D A Q cells slots ws q lv st) : cv_V p l e R s m args below meth c nL D A Q cells slots ws pc lv (.ref a :: st) := by
  subst hq
  intro H locs ls hP hD hS hl
  refine W.objInit C.1 C.2.1 C.2.2.2.1 (C.2.2.2.2.1 _ hlink) (C.2.2.2.2.1 _ hinst) (C.2.2.2.2.1 _ hcode) (g := F0 m pc ls (.ref a :: st)) rfl (by rw [C.2.2.1]; exact hl.1) rfl d hfr (by show 2 * 0 + _ + 12 ≤ _; omega) ?_
  exact W.eq (g2 := F0 m (pc + 3) ls st) rfl (k H locs ls hP hD hS hl)
theorem cv_newo {C0 : String} {T : u_T} {N ci index c1 s1 : Nat} {fs : List Value} (C : cv_C p s m args c cc nL own Ts σ D tys A) (hin : ∀ w ∈ u_ws C0 T N, w ∈ Ts) (ty : Nat → FieldType) (hty : ∀ k, k < N → parseFieldDescriptor (T k).2.2.1 = some (ty k)) (hcl : Cond.classLink own index C0 ∈ Ts) (hinst : Cond.instantiable C0 N ∈ Ts) (hini : Cond.initialized C0 ∈ Ts) (hc : vwCl[ci]? = some (C0, T, N)) (hfs : ∀ j, j < N → defaultValue (ty j) = vp_V fs j) (h1 : cells + 1 = c1) (h2 : slots + N = s1) (hcells : c1 ≤ R.cells) (hslots : s1 ≤ R.slots) (d : decode cc pc = .ok (.new index, 3)) (hq : pc + 3 = q)
    (k : ∀ a : Nat, cv_V p l e R s m args below meth c nL D A Q c1 s1 (ws ++ [(a, .inr (ci, fs))]) q lv (.ref a :: st)) : cv_V p l e R s m args below meth c nL D A Q cells slots ws pc lv st := by
  subst hq; subst h1; subst h2
  exact fun H locs ls hP hD hS hl => va_new C.1 C.2.1 C.2.2.2.2.1 hin ty hty C.2.2.2.1 (C.2.2.2.2.1 _ hcl) (C.2.2.2.2.1 _ hinst) (C.2.2.2.2.1 _ hini) C.2.2.2.2.2.1 hP hD hS C.2.2.2.2.2.2.1 hc hfs hcells hslots d (fun a H1 hP1 hD1 hS1 => k a H1 locs ls hP1 hD1 hS1 hl)
theorem cv_newi {cA : ClassId} {n : Int32} {N c1 s1 : Nat} (t0 : Nat) (C : cv_C p s m args c cc nL own Ts σ D tys A) (harr : Cond.arrayClass .int ∈ Ts) (ht : tys[t0]? = some (cA, .int)) (hn : ¬ n < 0) (hN : n.toNatClampNeg = N) (hby : N * componentBytes .int ≤ 536870912) (h1 : cells + 1 = c1) (h2 : slots + N = s1) (hcells : c1 ≤ R.cells) (hslots : s1 ≤ R.slots) (d : decode cc pc = .ok (.newarray .int, 2)) (hq : pc + 2 = q)
    (k : ∀ a : Nat, cv_V p l e R s m args below meth c nL D A Q c1 s1 (ws ++ [(a, .inl (cA, N, .inl (fun _ => 0)))]) q lv (.ref a :: st)) : cv_V p l e R s m args below meth c nL D A Q cells slots ws pc lv (.int n :: st) := by
  subst hq; subst h1; subst h2
  intro H locs ls hP hD hS hl
  refine va_newa (atype := .int) (ty := .int) C.1 C.2.1 (C.2.2.2.2.1 _ harr) rfl C.2.2.2.2.2.1 hP hD hS C.2.2.2.2.2.2.1 (a0 := (N, .inl (fun _ => 0))) (fun _ => rfl) hn hN hby hcells hslots d (fun a cB H1 hK1 hP1 hD1 hS1 => ?_)
  have g1 : s.vm.findClass ("[" ++ FieldType.int.toString) = some cA := (C.2.2.2.2.2.1.2 t0 _ ht).2
  have g2 : s.vm.findClass ("[" ++ FieldType.int.toString) = some cB := (hK1.2 tys.length (cB, .int) (by simp)).2
  have e1 : cA = cB := Option.some.inj (g1.symm.trans g2)
  rw [← e1] at hP1 hD1
  exact k a H1 locs ls hP1 hD1 hS1 hl
theorem cv_putF {C0 : String} {T : u_T} {N ci index a : Nat} {fs : List Value} {v : Value} {ty : FieldType} {ws' : va_W} (C : cv_C p s m args c cc nL own Ts σ D tys A) (hin : ∀ w ∈ u_ws C0 T N, w ∈ Ts) (ty0 : Nat → FieldType) (hty : ∀ k, k < N → parseFieldDescriptor (T k).2.2.1 = some (ty0 k)) (hnm : ∀ a, a < N → ∀ b, b < N → a ≠ b → (T a).2.1 ≠ (T b).2.1) (hmn : meth.name = "<init>") (q0 : Nat) (he : ws[q0]? = some (a, .inr (ci, fs))) (hc : vwCl[ci]? = some (C0, T, N)) (k0 : Nat) (hk : k0 < N) (hlink : Cond.fieldLink own index own (T k0).2.1 (T k0).2.2.1 ∈ Ts) (hr : (T k0).1 = own) (hfin : (T k0).2.2.2 = true) (hd : parseFieldDescriptor (T k0).2.2.1 = some ty) (hn : narrow ty v = v) (hfit : fits ty v = true) (hl0 : k0 < fs.length) (d : decode cc pc = .ok (.putfield index, 3)) (hq : pc + 3 = q) (hws : ws.set q0 (a, .inr (ci, fs.set k0 v)) = ws') (k : cv_V p l e R s m args below meth c nL D A Q cells slots ws' q lv st) : cv_V p l e R s m args below meth c nL D A Q cells slots ws pc lv (v :: .ref a :: st) := by
  subst hq; subst hws
  exact fun H locs ls hP hD hS hl => va_putF C.1 C.2.1 C.2.2.2.2.1 hin ty0 hty hnm C.2.2.2.1 C.2.2.2.2.2.1 hP hD hS q0 he hc k0 hk (C.2.2.2.2.1 _ hlink) (fun _ h => by rw [hr] at h; exact h) hfin hmn hr hd hn hfit hl0 d (fun H1 locs1 hP1 hD1 hS1 => k H1 locs1 ls hP1 hD1 hS1 hl)
theorem cv_nret {mc ms h0 : Nat} {w : (Nat → Nat) → va_W} (q' : Nat → Nat) (C : cv_C p s m args c cc nL own Ts σ D tys A) (hr : meth.sig.returnType = none) (hlocks : meth.locks = false) (hq0 : q' 0 = h0) (hw : w q' = ws) (d : decode cc pc = .ok (.return_, 1)) : cv_V p l e R s m args below meth c nL D A (MQ below (cv_Qn D tys h0 w A) args s mc ms A) mc ms ws pc lv [] :=
  fun H locs ls hP hD hS hl => W.vret C.1 C.2.1 hr (fun t ht hW => ⟨⟨q', hq0, rfl, by rw [ht, hw]; exact hP, va_K.moved hW.alike C.2.2.2.2.2.1, by rw [hw]; exact hD⟩, hS.F ht⟩) hS.2.2 d hlocks
/-- behind a call of a constructor -/
theorem cv_goI {a mc ms c1 s1 : Nat} {wc wr : va_W} {w : (Nat → Nat) → va_W} (C : cv_C p s m args c cc nL own Ts σ D tys A)
    (run : ∀ (H : Heap) (locs : List Loc) (ls : Array Slot), ls.size = nL → PreS s H (cv_Pc σ D tys [.ref a] wc H.size) [.ref a] → va_Run p l e R s m args below meth c H locs cells slots mc ms (F0 m pc ls (.ref a :: st)) st (cv_Qn D tys a w (va_A wc H.size) #[.ref a]) (va_A wc H.size))
    (isC isR : List Nat) (hC : isC.map (fun i => ws[i]?) = wc.map some) (hR : isR.map (fun i => ws[i]?) = wr.map some) (hn : va_nd isR = true) (hnC : va_nd isC = true) (hdis : ∀ i ∈ isR, i ∉ isC) (h1 : cells + mc = c1) (h2 : slots + ms = s1) (hq : pc + 3 = q)
    (k : ∀ q' : Nat → Nat, q' 0 = a → cv_V p l e R s m args below meth c nL D A Q c1 s1 (wr ++ w q') q lv st) : cv_V p l e R s m args below meth c nL D A Q cells slots ws pc lv (.ref a :: st) := by
  subst hq; subst h1; subst h2
  intro H locs ls hP hD hS hl
  have hPc : va_P D vwCl wc H := hP.sub isC (cv_fm hC)
  have hDc : va_D A wc := hD.sub isC hnC hC
  have hF : ∀ q, va_A wc H.size q → A q := va_free hD hS C.2.2.2.2.2.2.1 isC hC
  have hpre : PreS s H (cv_Pc σ D tys [.ref a] wc H.size) [.ref a] := ⟨cv_Pc.blind, fun U hU hW => ⟨rfl, by rw [hU], by rw [hU]; exact hPc, va_K.moved hW.alike C.2.2.2.2.2.1, hDc.weaken (fun _ _ _ _ => trivial), C.2.2.2.2.2.2.2.go hW (fun a h1 h2 => by rw [hU]; exact hS.2.1 a h1 h2) hF⟩⟩
  intro T hT X
  obtain ⟨v, st₀, t, T', L, h0, X', hL, e1, e2, ⟨⟨q', hq', hv, hP1, hK1, hD1⟩, hz, hk⟩, go⟩ := run H locs ls hl.1 hpre T hT X
  cases hv
  rw [h0] at hz hk
  obtain ⟨hP2, hD2⟩ := va_join hP hD isC isR hC hR hn hdis hk hF hP1 hD1
  have hS2 : va_S A s.heap t.heap (locs ++ L) := ⟨Nat.le_trans hS.1 hz, fun q h1 h2 => by rw [hk q (Nat.lt_of_lt_of_le h1 hS.1) (fun z => h2 (hF q z))]; exact hS.2.1 q h1 h2, fun x hx => (List.mem_append.mp hx).elim (hS.2.2 x) (fun h => hF _ (hL x h))⟩
  obtain ⟨t2, a1, b1⟩ := k q' hq' t.heap (locs ++ L) ls hP2 hD2 hS2 hl T' e1 X'
  exact ⟨t2, go t2 a1, b1⟩
variable {y : MethodName} {bytes : ByteArray} {maxL index a mc ms : Nat} {wsy wsy' : List Cond} {rm : Room} {wc : va_W} {w : (Nat → Nat) → va_W}
/-- a private constructor of a nest mate -/
theorem cv_rin {host : String} (C : cv_C p s m args c cc nL own Ts σ D tys A) (hM : cv_N l y wsy rm σ D tys a wc w mc ms) (hg : GoodIn Ts wsy) (hnw : va_Nw (.methodLinkNest own index y host) s) (hins : Cond.instanceMethod y ∈ Ts) (hini : Cond.initialized y.cls ∈ Ts) (hw : wsy = Cond.code y bytes maxL none :: wsy') (hrc : rm.cells = mc ∧ rm.slots = ms) (hy1 : y.name = "<init>")
    (hd : y.cls ≠ "java/lang/invoke/MethodHandle" ∧ y.cls ≠ "java/lang/invoke/VarHandle" ∧ (parseMethodDescriptor y.desc).map (fun d => d.parameters.length) = some 0) (hR : rm.frames + 1 ≤ R.frames ∧ 8 + (maxL + 11) + rm.locals ≤ R.locals) (hwd : (st.map fun v => v.category).sum ≤ 8) (d : decode cc pc = .ok (.invokespecial index, 3)) (hf : cells + mc ≤ R.cells ∧ slots + ms ≤ R.slots) :
    ∀ (H : Heap) (locs : List Loc) (ls : Array Slot), ls.size = nL → PreS s H (cv_Pc σ D tys [.ref a] wc H.size) [.ref a] → va_Run p l e R s m args below meth c H locs cells slots mc ms (F0 m pc ls (.ref a :: st)) st (cv_Qn D tys a w (va_A wc H.size) #[.ref a]) (va_A wc H.size) := by
  intro H locs ls hls hpre
  exact va_runIN (As := []) ⟨C.1, C.2.1, C.2.2.1, C.2.2.2.1, C.2.2.2.2.1⟩ (hM H.size) ⟨va_cnB 0 C.2.2.2.2.1 hg hw hrc.1 hrc.2 hnw (C.2.2.2.2.1 _ hini) hd hR, hy1, C.2.2.2.2.1 _ hins⟩ hpre rfl rfl hls rfl (lv_room hwd) d hf
/-- a constructor -/
theorem cv_ri (C : cv_C p s m args c cc nL own Ts σ D tys A) (hM : cv_N l y wsy rm σ D tys a wc w mc ms) (hg : GoodIn Ts wsy) (hlk : Cond.methodLink own index y ∈ Ts) (hins : Cond.instanceMethod y ∈ Ts) (hini : Cond.initialized y.cls ∈ Ts) (hw : wsy = Cond.code y bytes maxL none :: wsy') (hrc : rm.cells = mc ∧ rm.slots = ms) (hy1 : y.name = "<init>")
    (hd : y.cls ≠ "java/lang/invoke/MethodHandle" ∧ y.cls ≠ "java/lang/invoke/VarHandle" ∧ (parseMethodDescriptor y.desc).map (fun d => d.parameters.length) = some 0) (hR : rm.frames + 1 ≤ R.frames ∧ 8 + (maxL + 11) + rm.locals ≤ R.locals) (hwd : (st.map fun v => v.category).sum ≤ 8) (d : decode cc pc = .ok (.invokespecial index, 3)) (hf : cells + mc ≤ R.cells ∧ slots + ms ≤ R.slots) :
    ∀ (H : Heap) (locs : List Loc) (ls : Array Slot), ls.size = nL → PreS s H (cv_Pc σ D tys [.ref a] wc H.size) [.ref a] → va_Run p l e R s m args below meth c H locs cells slots mc ms (F0 m pc ls (.ref a :: st)) st (cv_Qn D tys a w (va_A wc H.size) #[.ref a]) (va_A wc H.size) := by
  intro H locs ls hls hpre
  exact va_runI (As := []) ⟨C.1, C.2.1, C.2.2.1, C.2.2.2.1, C.2.2.2.2.1⟩ (hM H.size) (cwI 0 C.2.2.2.2.1 hg hw hrc.1 hrc.2 (C.2.2.2.2.1 _ hini) (C.2.2.2.2.1 _ hlk) (C.2.2.2.2.1 _ hins) hy1 hd hR) hpre rfl rfl hls rfl (lv_room hwd) d hf
end CVN
/-- a constructor's contract out of a walk of its body -/
theorem cv_N.of {l : Launch} {y : MethodName} {wsy wsy' : List Cond} {rm : Room} {σ : Nat → Nat} {D : va_G} {tys : List (ClassId × FieldType)} {h0 : Nat} {wc : va_W} {w : (Nat → Nat) → va_W} {mc ms : Nat} {cc : ByteArray} {own : String} (hy : plainName y.cls = true) (ho : y.cls = own) (hnm : y.name = "<init>") (hw : wsy = Cond.code y cc 1 none :: wsy')
    (body : ∀ (p : Program) (e : Env) (s : State) (m : MethodId) (args : Array Value) (below : List Frame) (meth : Method) (c : Code) (A : Nat → Prop), cv_C p s m args c cc 1 own wsy σ D tys A → meth.sig.returnType = none → meth.locks = false → meth.name = "<init>" → cv_V p l e rm s m args below meth c 1 D A (MQ below (cv_Qn D tys h0 w A) args s mc ms A) 0 0 wc 0 [(0, .ref h0)] []) : cv_N l y wsy rm σ D tys h0 wc w mc ms := by
  intro sz
  refine Met.ofW (cc := cc) (maxL := 1) (ret := none) hy hw ?_
  intro p e s m args below meth c s₁ B hml hv
  obtain ⟨rfl, hsz, hP, hK, hD0, hst⟩ := hv
  subst hsz
  subst ho
  have hl := lv_entry [Value.ref h0] (n := 1) (Nat.le_of_ble_eq_true rfl)
  rw [lg_entry_eq]
  exact body p e s m [Value.ref h0].toArray below meth c (va_A wc s.heap.size) ⟨B.exec, B.bytes, hml, findClass_of_methodNamed B.named, atoms_spec (ws := wsy) B.pre, hK, fun q h => Or.inr h, hst⟩ B.returns B.notSynchronized ((name_of_methodNamed B.named B.method).1.trans hnm) s.heap [] _ hP hD0.self va_S.rf hl
