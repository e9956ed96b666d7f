/-! RUN: a walk's judgement over an abstract heap (address -> content), beside the machine's own W: locals as a list by their places, one heap relation for all methods. -/
abbrev AE : Type := (Nat × vp_A) ⊕ (Nat × List Value)
abbrev AH : Type := Nat × (Nat → Option AE)
def toE (cA : Nat → ClassId) : AE → va_E
  | .inl q => .inl (cA q.1, q.2)
  | .inr o => .inr o
def hput (h : AH) (a : Nat) (e : AE) : AH := (h.1, fun q => if q = a then some e else h.2 q)
def hnew (h : AH) (e : AE) : AH := (h.1 + 1, fun q => if q = h.1 then some e else h.2 q)
theorem hput_1 (h : AH) (a : Nat) (e : AE) : (hput h a e).1 = h.1 := rfl
theorem hnew_1 (h : AH) (e : AE) : (hnew h e).1 = h.1 + 1 := rfl
theorem hput_at (h : AH) (a : Nat) (e : AE) : (hput h a e).2 a = some e := by simp [hput]
theorem hput_ne (h : AH) {a b : Nat} (e : AE) (n : b ≠ a) : (hput h a e).2 b = h.2 b := by simp [hput, n]
theorem hnew_at (h : AH) (e : AE) : (hnew h e).2 h.1 = some e := by simp [hnew]
theorem hnew_ne (h : AH) {b : Nat} (e : AE) (n : b ≠ h.1) : (hnew h e).2 b = h.2 b := by simp [hnew, n]
def atys (cA : Nat → ClassId) : List (ClassId × FieldType) := [(cA 0, .int), (cA 1, .int), (cA 2, .object RX7), (cA 3, .object RX8)]
def Nst (U : State) : Prop := va_Nw (.methodLinkNest RX9 9 yX8_init RX9) U ∧ va_Nw (.methodLinkNest RX1 17 yX0_init RX9) U ∧ va_Nw (.methodLinkNest RX3 17 yX8_init RX9) U ∧ va_Nw (.methodLinkNest RX9 25 yX4_init RX9) U ∧ va_Nw (.methodLinkNest RX9 32 yX6_init RX9) U ∧ va_AO RX7 U ∧ va_AO RX8 U
theorem Nst.warm {s U : State} (hW : s.WarmedH U.vm) (h : Nst s) : Nst U :=
  ⟨h.1.warmM hW, h.2.1.warmM hW, h.2.2.1.warmM hW, h.2.2.2.1.warmM hW, h.2.2.2.2.1.warmM hW, h.2.2.2.2.2.1.moved hW.alike, h.2.2.2.2.2.2.moved hW.alike⟩
theorem Nst.same {s U : State} (e : s.vm = U.vm) (h : Nst s) : Nst U :=
  ⟨h.1.same rfl e, h.2.1.same rfl e, h.2.2.1.same rfl e, h.2.2.2.1.same rfl e, h.2.2.2.2.1.same rfl e, h.2.2.2.2.2.1.moved (e ▸ Vm.Alike.refl s.vm), h.2.2.2.2.2.2.moved (e ▸ Vm.Alike.refl s.vm)⟩
def KK (D : va_G) (cA : Nat → ClassId) (U : State) : Prop := va_K D vwCl (atys cA) U ∧ Nst U
theorem KK.warm {D : va_G} {cA : Nat → ClassId} {s U : State} (hW : s.WarmedH U.vm) (h : KK D cA s) : KK D cA U := ⟨h.1.moved hW.alike, h.2.warm hW⟩
theorem KK.same {D : va_G} {cA : Nat → ClassId} {s U : State} (e : s.vm = U.vm) (h : KK D cA s) : KK D cA U := ⟨h.1.moved (e ▸ Vm.Alike.refl s.vm), h.2.same e⟩
def Rh (D : va_G) (cA : Nat → ClassId) (N0 : Nat) (h : AH) (H : Heap) : Prop := H.size = h.1 ∧ ∀ (a : Nat) (e : AE), h.2 a = some e → N0 ≤ a ∧ va_at D vwCl (a, toE cA e) H
theorem Rh.put {D : va_G} {cA : Nat → ClassId} {N0 : Nat} {h : AH} {H H1 : Heap} {a : Nat} {e : AE} (hR : Rh D cA N0 h H) (ha : N0 ≤ a) (he : va_at D vwCl (a, toE cA e) H1) (z : H1.size = H.size) (oq : ∀ q : Nat, q ≠ a → H1[q]? = H[q]?) : Rh D cA N0 (hput h a e) H1 := by
  refine ⟨z.trans hR.1, fun b e' hb => ?_⟩
  by_cases hab : b = a
  · subst hab
    rw [hput_at] at hb
    cases hb
    exact ⟨ha, he⟩
  · rw [hput_ne _ _ hab] at hb
    exact ⟨(hR.2 b e' hb).1, (hR.2 b e' hb).2.kept (oq b hab)⟩
theorem Rh.new {D : va_G} {cA : Nat → ClassId} {N0 : Nat} {h : AH} {H H1 : Heap} {e : AE} (hR : Rh D cA N0 h H) (hN : N0 ≤ H.size) (he : va_at D vwCl (H.size, toE cA e) H1) (z : H1.size = H.size + 1) (oq : ∀ q : Nat, q < H.size → H1[q]? = H[q]?) : Rh D cA N0 (hnew h e) H1 := by
  refine ⟨by rw [z, hR.1]; rfl, fun b e' hb => ?_⟩
  by_cases hab : b = h.1
  · subst hab
    rw [hnew_at] at hb
    cases hb
    rw [← hR.1]
    exact ⟨hN, he⟩
  · rw [hnew_ne _ _ hab] at hb
    exact ⟨(hR.2 b e' hb).1, (hR.2 b e' hb).2.kept (oq b (hR.2 b e' hb).2.lt)⟩
/-- the locals by their places -/
def enc : Nat → List (Option Value) → List (Nat × Value)
  | _, [] => []
  | i, none :: r => enc (i + 1) r
  | i, some v :: r => (i, v) :: enc (i + 1) r
theorem enc_mem : ∀ (L : List (Option Value)) (i j : Nat) (w : Value), (j, w) ∈ enc i L ↔ i ≤ j ∧ L[j - i]? = some (some w)
  | [], i, j, w => by simp [enc]
  | none :: r, i, j, w => by
    simp only [enc]
    rw [enc_mem r (i + 1) j w]
    constructor
    · rintro ⟨h1, h2⟩
      refine ⟨by omega, ?_⟩
      rw [show j - i = (j - (i + 1)) + 1 by omega, List.getElem?_cons_succ]
      exact h2
    · rintro ⟨h1, h2⟩
      have hne : j ≠ i := by
        intro e
        subst e
        simp at h2
      refine ⟨by omega, ?_⟩
      rw [show j - i = (j - (i + 1)) + 1 by omega, List.getElem?_cons_succ] at h2
      exact h2
  | some v :: r, i, j, w => by
    simp only [enc, List.mem_cons, Prod.mk.injEq]
    rw [enc_mem r (i + 1) j w]
    constructor
    · rintro (⟨h1, h2⟩ | ⟨h1, h2⟩)
      · subst h1; subst h2
        exact ⟨Nat.le_refl _, by simp⟩
      · refine ⟨by omega, ?_⟩
        rw [show j - i = (j - (i + 1)) + 1 by omega, List.getElem?_cons_succ]
        exact h2
    · rintro ⟨h1, h2⟩
      by_cases hji : j = i
      · subst hji
        rw [Nat.sub_self, List.getElem?_cons_zero] at h2
        simp only [Option.some.injEq] at h2
        exact Or.inl ⟨rfl, h2.symm⟩
      · right
        refine ⟨by omega, ?_⟩
        rw [show j - i = (j - (i + 1)) + 1 by omega, List.getElem?_cons_succ] at h2
        exact h2
def LH (ls : Array Slot) (nL : Nat) (L : List (Option Value)) : Prop := lv_has ls nL (enc 0 L)
def c1 : List (Option Value) → Bool
  | [] => true
  | none :: r => c1 r
  | some v :: r => v.category == 1 && c1 r
theorem c1_mem : ∀ (L : List (Option Value)), c1 L = true → ∀ w : Value, some w ∈ L → w.category = 1
  | [], _, w, h => by simp at h
  | none :: r, hc, w, h => by
    rcases List.mem_cons.mp h with h1 | h1
    · cases h1
    · exact c1_mem r hc w h1
  | some v :: r, hc, w, h => by
    simp only [c1, Bool.and_eq_true, beq_iff_eq] at hc
    rcases List.mem_cons.mp h with h1 | h1
    · cases h1
      exact hc.1
    · exact c1_mem r hc.2 w h1
theorem LH.at {ls : Array Slot} {nL : Nat} {L : List (Option Value)} (h : LH ls nL L) {i : Nat} {v : Value} (hi : L[i]? = some (some v)) : ls[i]? = some (.val v) :=
  h.2.2 (i, v) ((enc_mem L 0 i v).mpr ⟨Nat.zero_le _, hi⟩)
theorem LH.set {ls' : Array Slot} {nL i : Nat} {L : List (Option Value)} {v : Value} (hc : c1 L = true) (hi : i < L.length) (h' : lv_has ls' nL ((i, v) :: (enc 0 L).filter (fun q => !(q.1 == i) && !(q.1 + 1 == i && q.2.category == 2)))) : LH ls' nL (L.set i (some v)) := by
  refine ⟨h'.1, h'.2.1, fun q hq => h'.2.2 q ?_⟩
  obtain ⟨j, w⟩ := q
  have hj := ((enc_mem _ 0 j w).mp hq).2
  rw [Nat.sub_zero] at hj
  by_cases hji : j = i
  · subst hji
    rw [List.getElem?_set_self hi] at hj
    simp only [Option.some.injEq] at hj
    rw [← hj]
    exact List.mem_cons_self
  · rw [List.getElem?_set_ne (Ne.symm hji)] at hj
    refine List.mem_cons_of_mem _ (List.mem_filter.mpr ⟨(enc_mem L 0 j w).mpr ⟨Nat.zero_le _, hj⟩, ?_⟩)
    have h1 := c1_mem L hc w (List.mem_of_getElem? hj)
    simp [hji, h1]
/-- how a method ends: an answer and a heap -/
def Qg (D : va_G) (cA : Nat → ClassId) (N0 : Nat) (post : Option Value → AH → Prop) : Array Value → State → Outcome → State → Prop := fun _ st oc t => (∃ (r : Option Value) (h' : AH), oc = .returned r ∧ post r h' ∧ Rh D cA N0 h' t.heap) ∧ va_F (fun q => N0 ≤ q) st t

/-- what stands all along a method's walk -/
def Cx (D : va_G) (cA : Nat → ClassId) (N0 : Nat) (own : String) (cc : ByteArray) (nL : Nat) (ret : Option FieldType) (nm : String) (X : State → Prop) (p : Program) (s : State) (m : MethodId) (args : Array Value) (meth : Method) (c : Code) : Prop :=
  p.tables.exec = Jvm.exec ∧ c.code = cc ∧ c.maxLocals = nL ∧ meth.sig.returnType = ret ∧ meth.locks = false ∧ s.vm.findClass own = some m.cls ∧ meth.name = nm ∧ (∀ w ∈ WSa, w.before args s = true) ∧ KK D cA s ∧ N0 ≤ s.heap.size ∧ X s
def Run (l : Launch) (D : va_G) (cA : Nat → ClassId) (N0 : Nat) (own : String) (cc : ByteArray) (nL : Nat) (ret : Option FieldType) (nm : String) (R : Room) (X : State → Prop) (F : List Frame → Array Value → State → State → Prop) (h : AH) (k n pc : Nat) (L : List (Option Value)) (st : List Value) : Prop :=
  ∀ (p : Program) (e : Env) (s : State) (m : MethodId) (args : Array Value) (below : List Frame) (meth : Method) (c : Code) (H : Heap) (locs : List Loc) (ls : Array Slot),
    Cx D cA N0 own cc nL ret nm X p s m args meth c → Rh D cA N0 h H → va_S (fun q => N0 ≤ q) s.heap H locs → LH ls nL L → W p l e R s m args below meth c H locs k n (F below args s) (F0 m pc ls st)
/-- a method: its name, code, number of locals, what it returns -/
abbrev MI : Type := MethodName × ByteArray × Nat × Option FieldType
abbrev rmD (d mc ms : Nat) : Room := { frames := d, cells := mc, slots := ms, locals := 36 * d }
def Spec (l : Launch) (D : va_G) (cA : Nat → ClassId) (N0 : Nat) (M : MI) (d mc ms : Nat) (args : List Value) (h : AH) (post : Option Value → AH → Prop) : Prop :=
  Met l M.1 (Cond.code M.1 M.2.1 M.2.2.1 M.2.2.2 :: WSa) (rmD d mc ms) (va_Pc args (fun U => Rh D cA N0 h U.heap ∧ KK D cA U ∧ N0 ≤ U.heap.size)) (Qg D cA N0 post) mc ms (fun q => N0 ≤ q)
abbrev FM (D : va_G) (cA : Nat → ClassId) (N0 : Nat) (post : Option Value → AH → Prop) (mc ms : Nat) : List Frame → Array Value → State → State → Prop := fun below args s => MQ below (Qg D cA N0 post) args s mc ms (fun q => N0 ≤ q)
abbrev RunM (l : Launch) (D : va_G) (cA : Nat → ClassId) (N0 : Nat) (M : MI) (d mc ms : Nat) (post : Option Value → AH → Prop) : AH → Nat → Nat → Nat → List (Option Value) → List Value → Prop :=
  Run l D cA N0 M.1.cls M.2.1 M.2.2.1 M.2.2.2 M.1.name (rmD d mc ms) (fun _ => True) (FM D cA N0 post mc ms)
theorem Spec.of {l : Launch} {D : va_G} {cA : Nat → ClassId} {N0 : Nat} {M : MI} {d mc ms : Nat} {args : List Value} {h : AH} {post : Option Value → AH → Prop} {L : List (Option Value)} (hy : plainName M.1.cls = true) (hL : enc 0 L = lv_args 0 args) (hlen : (lg_sl args).length ≤ M.2.2.1)
    (k : RunM l D cA N0 M d mc ms post h 0 0 0 L []) : Spec l D cA N0 M d mc ms args h post := by
  refine Met.ofW (cc := M.2.1) (maxL := M.2.2.1) (ret := M.2.2.2) hy rfl ?_
  intro p e s m a below meth c s₁ B hml hv
  obtain ⟨rfl, hR, hK, hN⟩ := hv
  have hts := atoms_spec (ws := Cond.code M.1 M.2.1 M.2.2.1 M.2.2.2 :: WSa) B.pre
  have hown : s.vm.findClass M.1.cls = some m.cls := findClass_of_methodNamed B.named
  have hl := lv_entry args (n := M.2.2.1) hlen
  rw [lg_entry_eq]
  exact k p e s m args.toArray below meth c s.heap [] _ ⟨B.exec, B.bytes, hml, B.returns, B.notSynchronized, hown, (name_of_methodNamed B.named B.method).1, fun w hw => hts w (List.mem_cons_of_mem _ hw), hK, hN, trivial⟩ hR va_S.rf (by rw [LH, hL]; exact hl)
section RR
variable {l : Launch} {D : va_G} {cA : Nat → ClassId} {N0 : Nat} {own : String} {cc : ByteArray} {nL : Nat} {ret : Option FieldType} {nm : String} {R : Room} {X : State → Prop} {F : List Frame → Array Value → State → State → Prop} {h : AH} {k n pc : Nat} {L : List (Option Value)} {st : List Value}
theorem R_iconst {z : Int} {v : Int32} (hd : decode cc pc = .ok (.iconst z, 1)) (hv : Int32.ofInt z = v) (kk : Run l D cA N0 own cc nL ret nm R X F h k n (pc + 1) L (.int v :: st)) : Run l D cA N0 own cc nL ret nm R X F h k n (pc) L (st) := by
  intro p e s m args below meth c H locs ls Cc hR hS hL
  obtain ⟨hx, hb, hml, hrt, hlk, hown, hnm, hts, hK, hN, hX⟩ := id Cc
  exact lv_iconst hx hb hd hv (kk p e s m args below meth c H locs ls Cc hR hS hL)
theorem R_bipush {z : Int} {v : Int32} (hd : decode cc pc = .ok (.bipush z, 2)) (hv : (Int8.ofInt z).toInt32 = v) (kk : Run l D cA N0 own cc nL ret nm R X F h k n (pc + 2) L (.int v :: st)) : Run l D cA N0 own cc nL ret nm R X F h k n (pc) L (st) := by
  intro p e s m args below meth c H locs ls Cc hR hS hL
  obtain ⟨hx, hb, hml, hrt, hlk, hown, hnm, hts, hK, hN, hX⟩ := id Cc
  exact lv_bipush hx hb hd hv (kk p e s m args below meth c H locs ls Cc hR hS hL)
theorem R_sipush {z : Int} {v : Int32} (hd : decode cc pc = .ok (.sipush z, 3)) (hv : (Int16.ofInt z).toInt32 = v) (kk : Run l D cA N0 own cc nL ret nm R X F h k n (pc + 3) L (.int v :: st)) : Run l D cA N0 own cc nL ret nm R X F h k n (pc) L (st) := by
  intro p e s m args below meth c H locs ls Cc hR hS hL
  obtain ⟨hx, hb, hml, hrt, hlk, hown, hnm, hts, hK, hN, hX⟩ := id Cc
  exact lv_sipush hx hb hd hv (kk p e s m args below meth c H locs ls Cc hR hS hL)
theorem R_lconst {z : Fin 2} {v : Int64} (hd : decode cc pc = .ok (.lconst z, 1)) (hv : Int64.ofNat (z : Nat) = v) (kk : Run l D cA N0 own cc nL ret nm R X F h k n (pc + 1) L (.long v :: st)) : Run l D cA N0 own cc nL ret nm R X F h k n (pc) L (st) := by
  intro p e s m args below meth c H locs ls Cc hR hS hL
  obtain ⟨hx, hb, hml, hrt, hlk, hown, hnm, hts, hK, hN, hX⟩ := id Cc
  exact lv_lconst hx hb hd hv (kk p e s m args below meth c H locs ls Cc hR hS hL)
theorem R_ldc {i : Nat} {v : Int32} (hd : decode cc pc = .ok (.ldc i, 2)) (hw : Cond.constant own i v ∈ WSa) (kk : Run l D cA N0 own cc nL ret nm R X F h k n (pc + 2) L (.int v :: st)) : Run l D cA N0 own cc nL ret nm R X F h k n (pc) L (st) := by
  intro p e s m args below meth c H locs ls Cc hR hS hL
  obtain ⟨hx, hb, hml, hrt, hlk, hown, hnm, hts, hK, hN, hX⟩ := id Cc
  exact lv_ldc hx hb hown (hts _ hw) hd (kk p e s m args below meth c H locs ls Cc hR hS hL)
theorem R_ldcw {i : Nat} {v : Int32} (hd : decode cc pc = .ok (.ldc_w i, 3)) (hw : Cond.constant own i v ∈ WSa) (kk : Run l D cA N0 own cc nL ret nm R X F h k n (pc + 3) L (.int v :: st)) : Run l D cA N0 own cc nL ret nm R X F h k n (pc) L (st) := by
  intro p e s m args below meth c H locs ls Cc hR hS hL
  obtain ⟨hx, hb, hml, hrt, hlk, hown, hnm, hts, hK, hN, hX⟩ := id Cc
  exact lv_ldcw hx hb hown (hts _ hw) hd (kk p e s m args below meth c H locs ls Cc hR hS hL)
theorem R_ldc2 {i : Nat} {v : Int64} (hd : decode cc pc = .ok (.ldc2_w i, 3)) (hw : Cond.constantLong own i v ∈ WSa) (kk : Run l D cA N0 own cc nL ret nm R X F h k n (pc + 3) L (.long v :: st)) : Run l D cA N0 own cc nL ret nm R X F h k n (pc) L (st) := by
  intro p e s m args below meth c H locs ls Cc hR hS hL
  obtain ⟨hx, hb, hml, hrt, hlk, hown, hnm, hts, hK, hN, hX⟩ := id Cc
  exact lv_ldc2 hx hb hown (hts _ hw) hd (kk p e s m args below meth c H locs ls Cc hR hS hL)
theorem R_null (hd : decode cc pc = .ok (.aconst_null, 1)) (kk : Run l D cA N0 own cc nL ret nm R X F h k n (pc + 1) L (.null :: st)) : Run l D cA N0 own cc nL ret nm R X F h k n (pc) L (st) := by
  intro p e s m args below meth c H locs ls Cc hR hS hL
  obtain ⟨hx, hb, hml, hrt, hlk, hown, hnm, hts, hK, hN, hX⟩ := id Cc
  exact lv_null hx hb hd (kk p e s m args below meth c H locs ls Cc hR hS hL)
theorem R_iload_nG {j : Fin 4} {x : Int32} (hd : decode cc pc = .ok (.iload_n j, 1)) (hj : L[(j : Nat)]? = some (some (.int x))) (kk : Run l D cA N0 own cc nL ret nm R X F h k n (pc + 1) L (.int x :: st)) : Run l D cA N0 own cc nL ret nm R X F h k n (pc) L (st) := by
  intro p e s m args below meth c H locs ls Cc hR hS hL
  obtain ⟨hx, hb, hml, hrt, hlk, hown, hnm, hts, hK, hN, hX⟩ := id Cc
  exact lv_iload_n hx hb hd rfl (hL.at hj) (kk p e s m args below meth c H locs ls Cc hR hS hL)
theorem R_iloadG {j : Nat} {x : Int32} (hd : decode cc pc = .ok (.iload j, 2)) (hj : L[j]? = some (some (.int x))) (kk : Run l D cA N0 own cc nL ret nm R X F h k n (pc + 2) L (.int x :: st)) : Run l D cA N0 own cc nL ret nm R X F h k n (pc) L (st) := by
  intro p e s m args below meth c H locs ls Cc hR hS hL
  obtain ⟨hx, hb, hml, hrt, hlk, hown, hnm, hts, hK, hN, hX⟩ := id Cc
  exact lv_iload hx hb hd (hL.at hj) (kk p e s m args below meth c H locs ls Cc hR hS hL)
theorem R_lload_nG {j : Fin 4} {x : Int64} (hd : decode cc pc = .ok (.lload_n j, 1)) (hj : L[(j : Nat)]? = some (some (.long x))) (kk : Run l D cA N0 own cc nL ret nm R X F h k n (pc + 1) L (.long x :: st)) : Run l D cA N0 own cc nL ret nm R X F h k n (pc) L (st) := by
  intro p e s m args below meth c H locs ls Cc hR hS hL
  obtain ⟨hx, hb, hml, hrt, hlk, hown, hnm, hts, hK, hN, hX⟩ := id Cc
  exact lv_lload_n hx hb hd rfl (hL.at hj) (kk p e s m args below meth c H locs ls Cc hR hS hL)
theorem R_lloadG {j : Nat} {x : Int64} (hd : decode cc pc = .ok (.lload j, 2)) (hj : L[j]? = some (some (.long x))) (kk : Run l D cA N0 own cc nL ret nm R X F h k n (pc + 2) L (.long x :: st)) : Run l D cA N0 own cc nL ret nm R X F h k n (pc) L (st) := by
  intro p e s m args below meth c H locs ls Cc hR hS hL
  obtain ⟨hx, hb, hml, hrt, hlk, hown, hnm, hts, hK, hN, hX⟩ := id Cc
  exact lv_lload hx hb hd (hL.at hj) (kk p e s m args below meth c H locs ls Cc hR hS hL)
theorem R_aload_nG {j : Fin 4} {x : Nat} (hd : decode cc pc = .ok (.aload_n j, 1)) (hj : L[(j : Nat)]? = some (some (.ref x))) (kk : Run l D cA N0 own cc nL ret nm R X F h k n (pc + 1) L (.ref x :: st)) : Run l D cA N0 own cc nL ret nm R X F h k n (pc) L (st) := by
  intro p e s m args below meth c H locs ls Cc hR hS hL
  obtain ⟨hx, hb, hml, hrt, hlk, hown, hnm, hts, hK, hN, hX⟩ := id Cc
  exact lv_aload_n hx hb hd rfl (hL.at hj) (kk p e s m args below meth c H locs ls Cc hR hS hL)
theorem R_aloadG {j : Nat} {x : Nat} (hd : decode cc pc = .ok (.aload j, 2)) (hj : L[j]? = some (some (.ref x))) (kk : Run l D cA N0 own cc nL ret nm R X F h k n (pc + 2) L (.ref x :: st)) : Run l D cA N0 own cc nL ret nm R X F h k n (pc) L (st) := by
  intro p e s m args below meth c H locs ls Cc hR hS hL
  obtain ⟨hx, hb, hml, hrt, hlk, hown, hnm, hts, hK, hN, hX⟩ := id Cc
  exact lv_aload hx hb hd (hL.at hj) (kk p e s m args below meth c H locs ls Cc hR hS hL)
theorem R_aload_nNG {j : Fin 4} (hd : decode cc pc = .ok (.aload_n j, 1)) (hj : L[(j : Nat)]? = some (some .null)) (kk : Run l D cA N0 own cc nL ret nm R X F h k n (pc + 1) L (.null :: st)) : Run l D cA N0 own cc nL ret nm R X F h k n (pc) L (st) := by
  intro p e s m args below meth c H locs ls Cc hR hS hL
  obtain ⟨hx, hb, hml, hrt, hlk, hown, hnm, hts, hK, hN, hX⟩ := id Cc
  exact lv_aload_nN hx hb hd rfl (hL.at hj) (kk p e s m args below meth c H locs ls Cc hR hS hL)
theorem R_aloadNG {j : Nat} (hd : decode cc pc = .ok (.aload j, 2)) (hj : L[j]? = some (some .null)) (kk : Run l D cA N0 own cc nL ret nm R X F h k n (pc + 2) L (.null :: st)) : Run l D cA N0 own cc nL ret nm R X F h k n (pc) L (st) := by
  intro p e s m args below meth c H locs ls Cc hR hS hL
  obtain ⟨hx, hb, hml, hrt, hlk, hown, hnm, hts, hK, hN, hX⟩ := id Cc
  exact lv_aloadN hx hb hd (hL.at hj) (kk p e s m args below meth c H locs ls Cc hR hS hL)
theorem R_istore_nG {j : Fin 4} {x : Int32} (hd : decode cc pc = .ok (.istore_n j, 1)) (hc : c1 L = true) (hi : (j : Nat) < L.length) (hn : (j : Nat) < nL) (kk : Run l D cA N0 own cc nL ret nm R X F h k n (pc + 1) (L.set (j : Nat) (some (.int x))) (st)) : Run l D cA N0 own cc nL ret nm R X F h k n (pc) L (.int x :: st) := by
  intro p e s m args below meth c H locs ls Cc hR hS hL
  obtain ⟨hx, hb, hml, hrt, hlk, hown, hnm, hts, hK, hN, hX⟩ := id Cc
  exact lv_istore_n hx hb hd rfl hL hn rfl (fun ls' h' => kk p e s m args below meth c H locs ls' Cc hR hS (LH.set hc hi h'))
theorem R_istoreG {j : Nat} {x : Int32} (hd : decode cc pc = .ok (.istore j, 2)) (hc : c1 L = true) (hi : (j : Nat) < L.length) (hn : (j : Nat) < nL) (kk : Run l D cA N0 own cc nL ret nm R X F h k n (pc + 2) (L.set (j : Nat) (some (.int x))) (st)) : Run l D cA N0 own cc nL ret nm R X F h k n (pc) L (.int x :: st) := by
  intro p e s m args below meth c H locs ls Cc hR hS hL
  obtain ⟨hx, hb, hml, hrt, hlk, hown, hnm, hts, hK, hN, hX⟩ := id Cc
  exact lv_istore hx hb hd hL hn rfl (fun ls' h' => kk p e s m args below meth c H locs ls' Cc hR hS (LH.set hc hi h'))
theorem R_astore_nG {j : Fin 4} {x : Nat} (hd : decode cc pc = .ok (.astore_n j, 1)) (hc : c1 L = true) (hi : (j : Nat) < L.length) (hn : (j : Nat) < nL) (kk : Run l D cA N0 own cc nL ret nm R X F h k n (pc + 1) (L.set (j : Nat) (some (.ref x))) (st)) : Run l D cA N0 own cc nL ret nm R X F h k n (pc) L (.ref x :: st) := by
  intro p e s m args below meth c H locs ls Cc hR hS hL
  obtain ⟨hx, hb, hml, hrt, hlk, hown, hnm, hts, hK, hN, hX⟩ := id Cc
  exact lv_astore_n hx hb hd rfl hL hn rfl (fun ls' h' => kk p e s m args below meth c H locs ls' Cc hR hS (LH.set hc hi h'))
theorem R_astoreG {j : Nat} {x : Nat} (hd : decode cc pc = .ok (.astore j, 2)) (hc : c1 L = true) (hi : (j : Nat) < L.length) (hn : (j : Nat) < nL) (kk : Run l D cA N0 own cc nL ret nm R X F h k n (pc + 2) (L.set (j : Nat) (some (.ref x))) (st)) : Run l D cA N0 own cc nL ret nm R X F h k n (pc) L (.ref x :: st) := by
  intro p e s m args below meth c H locs ls Cc hR hS hL
  obtain ⟨hx, hb, hml, hrt, hlk, hown, hnm, hts, hK, hN, hX⟩ := id Cc
  exact lv_astore hx hb hd hL hn rfl (fun ls' h' => kk p e s m args below meth c H locs ls' Cc hR hS (LH.set hc hi h'))
theorem R_astoreN_nG {j : Fin 4} (hd : decode cc pc = .ok (.astore_n j, 1)) (hc : c1 L = true) (hi : (j : Nat) < L.length) (hn : (j : Nat) < nL) (kk : Run l D cA N0 own cc nL ret nm R X F h k n (pc + 1) (L.set (j : Nat) (some (.null))) (st)) : Run l D cA N0 own cc nL ret nm R X F h k n (pc) L (.null :: st) := by
  intro p e s m args below meth c H locs ls Cc hR hS hL
  obtain ⟨hx, hb, hml, hrt, hlk, hown, hnm, hts, hK, hN, hX⟩ := id Cc
  exact lv_astore_nN hx hb hd rfl hL hn rfl (fun ls' h' => kk p e s m args below meth c H locs ls' Cc hR hS (LH.set hc hi h'))
theorem R_astoreNG {j : Nat} (hd : decode cc pc = .ok (.astore j, 2)) (hc : c1 L = true) (hi : (j : Nat) < L.length) (hn : (j : Nat) < nL) (kk : Run l D cA N0 own cc nL ret nm R X F h k n (pc + 2) (L.set (j : Nat) (some (.null))) (st)) : Run l D cA N0 own cc nL ret nm R X F h k n (pc) L (.null :: st) := by
  intro p e s m args below meth c H locs ls Cc hR hS hL
  obtain ⟨hx, hb, hml, hrt, hlk, hown, hnm, hts, hK, hN, hX⟩ := id Cc
  exact lv_astoreN hx hb hd hL hn rfl (fun ls' h' => kk p e s m args below meth c H locs ls' Cc hR hS (LH.set hc hi h'))
theorem R_iincG {j : Nat} {z : Int} {x v : Int32} (hd : decode cc pc = .ok (.iinc j z, 3)) (hj : L[j]? = some (some (.int x))) (hv : x + Int32.ofInt z = v) (hc : c1 L = true) (hn : j < nL) (kk : Run l D cA N0 own cc nL ret nm R X F h k n (pc + 3) (L.set j (some (.int v))) (st)) : Run l D cA N0 own cc nL ret nm R X F h k n (pc) L (st) := by
  intro p e s m args below meth c H locs ls Cc hR hS hL
  obtain ⟨hx, hb, hml, hrt, hlk, hown, hnm, hts, hK, hN, hX⟩ := id Cc
  obtain ⟨q, hq⟩ := List.getElem?_of_mem ((enc_mem L 0 j (.int x)).mpr ⟨Nat.zero_le _, hj⟩)
  exact lv_iinc hx hb hd hL hq hv hn rfl (fun ls' h' => kk p e s m args below meth c H locs ls' Cc hR hS (LH.set hc (List.getElem?_eq_some_iff.mp hj).1 h'))
theorem R_iload_n0 {x : Int32} (hd : decode cc pc = .ok (.iload_n 0, 1)) (kk : Run l D cA N0 own cc nL ret nm R X F h k n (pc + 1) (some (.int x) :: L) (.int x :: st)) : Run l D cA N0 own cc nL ret nm R X F h k n (pc) (some (.int x) :: L) (st) := R_iload_nG hd rfl kk
theorem R_iload0 {x : Int32} (hd : decode cc pc = .ok (.iload 0, 2)) (kk : Run l D cA N0 own cc nL ret nm R X F h k n (pc + 2) (some (.int x) :: L) (.int x :: st)) : Run l D cA N0 own cc nL ret nm R X F h k n (pc) (some (.int x) :: L) (st) := R_iloadG hd rfl kk
theorem R_aload_n0 {x : Nat} (hd : decode cc pc = .ok (.aload_n 0, 1)) (kk : Run l D cA N0 own cc nL ret nm R X F h k n (pc + 1) (some (.ref x) :: L) (.ref x :: st)) : Run l D cA N0 own cc nL ret nm R X F h k n (pc) (some (.ref x) :: L) (st) := R_aload_nG hd rfl kk
theorem R_aload0 {x : Nat} (hd : decode cc pc = .ok (.aload 0, 2)) (kk : Run l D cA N0 own cc nL ret nm R X F h k n (pc + 2) (some (.ref x) :: L) (.ref x :: st)) : Run l D cA N0 own cc nL ret nm R X F h k n (pc) (some (.ref x) :: L) (st) := R_aloadG hd rfl kk
theorem R_lload_n0 {x : Int64} (hd : decode cc pc = .ok (.lload_n 0, 1)) (kk : Run l D cA N0 own cc nL ret nm R X F h k n (pc + 1) (some (.long x) :: L) (.long x :: st)) : Run l D cA N0 own cc nL ret nm R X F h k n (pc) (some (.long x) :: L) (st) := R_lload_nG hd rfl kk
theorem R_lload0 {x : Int64} (hd : decode cc pc = .ok (.lload 0, 2)) (kk : Run l D cA N0 own cc nL ret nm R X F h k n (pc + 2) (some (.long x) :: L) (.long x :: st)) : Run l D cA N0 own cc nL ret nm R X F h k n (pc) (some (.long x) :: L) (st) := R_lloadG hd rfl kk
theorem R_aloadN_n0 (hd : decode cc pc = .ok (.aload_n 0, 1)) (kk : Run l D cA N0 own cc nL ret nm R X F h k n (pc + 1) (some .null :: L) (.null :: st)) : Run l D cA N0 own cc nL ret nm R X F h k n (pc) (some .null :: L) (st) := R_aload_nNG hd rfl kk
theorem R_istore_n0 {o : Option Value} {x : Int32} (hd : decode cc pc = .ok (.istore_n 0, 1)) (hc : c1 (o :: L) = true) (hn : 0 < nL) (kk : Run l D cA N0 own cc nL ret nm R X F h k n (pc + 1) (some (.int x) :: L) (st)) : Run l D cA N0 own cc nL ret nm R X F h k n (pc) (o :: L) (.int x :: st) := R_istore_nG hd hc (by simp only [List.length_cons]; show _ < _ + 1; omega) hn kk
theorem R_astore_n0 {o : Option Value} {x : Nat} (hd : decode cc pc = .ok (.astore_n 0, 1)) (hc : c1 (o :: L) = true) (hn : 0 < nL) (kk : Run l D cA N0 own cc nL ret nm R X F h k n (pc + 1) (some (.ref x) :: L) (st)) : Run l D cA N0 own cc nL ret nm R X F h k n (pc) (o :: L) (.ref x :: st) := R_astore_nG hd hc (by simp only [List.length_cons]; show _ < _ + 1; omega) hn kk
theorem R_astoreN_n0 {o : Option Value} (hd : decode cc pc = .ok (.astore_n 0, 1)) (hc : c1 (o :: L) = true) (hn : 0 < nL) (kk : Run l D cA N0 own cc nL ret nm R X F h k n (pc + 1) (some (.null) :: L) (st)) : Run l D cA N0 own cc nL ret nm R X F h k n (pc) (o :: L) (.null :: st) := R_astoreN_nG hd hc (by simp only [List.length_cons]; show _ < _ + 1; omega) hn kk
theorem R_aloadN0 (hd : decode cc pc = .ok (.aload 0, 2)) (kk : Run l D cA N0 own cc nL ret nm R X F h k n (pc + 2) (some .null :: L) (.null :: st)) : Run l D cA N0 own cc nL ret nm R X F h k n (pc) (some .null :: L) (st) := R_aloadNG hd rfl kk
theorem R_istore0 {o : Option Value} {x : Int32} (hd : decode cc pc = .ok (.istore 0, 2)) (hc : c1 (o :: L) = true) (hn : 0 < nL) (kk : Run l D cA N0 own cc nL ret nm R X F h k n (pc + 2) (some (.int x) :: L) (st)) : Run l D cA N0 own cc nL ret nm R X F h k n (pc) (o :: L) (.int x :: st) := R_istoreG hd hc (by simp only [List.length_cons]; show _ < _ + 1; omega) hn kk
theorem R_astore0 {o : Option Value} {x : Nat} (hd : decode cc pc = .ok (.astore 0, 2)) (hc : c1 (o :: L) = true) (hn : 0 < nL) (kk : Run l D cA N0 own cc nL ret nm R X F h k n (pc + 2) (some (.ref x) :: L) (st)) : Run l D cA N0 own cc nL ret nm R X F h k n (pc) (o :: L) (.ref x :: st) := R_astoreG hd hc (by simp only [List.length_cons]; show _ < _ + 1; omega) hn kk
theorem R_astoreN0 {o : Option Value} (hd : decode cc pc = .ok (.astore 0, 2)) (hc : c1 (o :: L) = true) (hn : 0 < nL) (kk : Run l D cA N0 own cc nL ret nm R X F h k n (pc + 2) (some (.null) :: L) (st)) : Run l D cA N0 own cc nL ret nm R X F h k n (pc) (o :: L) (.null :: st) := R_astoreNG hd hc (by simp only [List.length_cons]; show _ < _ + 1; omega) hn kk
theorem R_iinc0 {x : Int32} {z : Int} (hd : decode cc pc = .ok (.iinc 0 z, 3)) (hc : c1 (some (.int x) :: L) = true) (hn : 0 < nL) (kk : Run l D cA N0 own cc nL ret nm R X F h k n (pc + 3) (some (.int (x + Int32.ofInt z)) :: L) (st)) : Run l D cA N0 own cc nL ret nm R X F h k n (pc) (some (.int x) :: L) (st) := R_iincG hd rfl rfl hc hn kk
theorem R_iload_n1 {a0 : Option Value} {x : Int32} (hd : decode cc pc = .ok (.iload_n 1, 1)) (kk : Run l D cA N0 own cc nL ret nm R X F h k n (pc + 1) (a0 :: some (.int x) :: L) (.int x :: st)) : Run l D cA N0 own cc nL ret nm R X F h k n (pc) (a0 :: some (.int x) :: L) (st) := R_iload_nG hd rfl kk
theorem R_iload1 {a0 : Option Value} {x : Int32} (hd : decode cc pc = .ok (.iload 1, 2)) (kk : Run l D cA N0 own cc nL ret nm R X F h k n (pc + 2) (a0 :: some (.int x) :: L) (.int x :: st)) : Run l D cA N0 own cc nL ret nm R X F h k n (pc) (a0 :: some (.int x) :: L) (st) := R_iloadG hd rfl kk
theorem R_aload_n1 {a0 : Option Value} {x : Nat} (hd : decode cc pc = .ok (.aload_n 1, 1)) (kk : Run l D cA N0 own cc nL ret nm R X F h k n (pc + 1) (a0 :: some (.ref x) :: L) (.ref x :: st)) : Run l D cA N0 own cc nL ret nm R X F h k n (pc) (a0 :: some (.ref x) :: L) (st) := R_aload_nG hd rfl kk
theorem R_aload1 {a0 : Option Value} {x : Nat} (hd : decode cc pc = .ok (.aload 1, 2)) (kk : Run l D cA N0 own cc nL ret nm R X F h k n (pc + 2) (a0 :: some (.ref x) :: L) (.ref x :: st)) : Run l D cA N0 own cc nL ret nm R X F h k n (pc) (a0 :: some (.ref x) :: L) (st) := R_aloadG hd rfl kk
theorem R_aloadN_n1 {a0 : Option Value} (hd : decode cc pc = .ok (.aload_n 1, 1)) (kk : Run l D cA N0 own cc nL ret nm R X F h k n (pc + 1) (a0 :: some .null :: L) (.null :: st)) : Run l D cA N0 own cc nL ret nm R X F h k n (pc) (a0 :: some .null :: L) (st) := R_aload_nNG hd rfl kk
theorem R_istore_n1 {a0 : Option Value} {o : Option Value} {x : Int32} (hd : decode cc pc = .ok (.istore_n 1, 1)) (hc : c1 (a0 :: o :: L) = true) (hn : 1 < nL) (kk : Run l D cA N0 own cc nL ret nm R X F h k n (pc + 1) (a0 :: some (.int x) :: L) (st)) : Run l D cA N0 own cc nL ret nm R X F h k n (pc) (a0 :: o :: L) (.int x :: st) := R_istore_nG hd hc (by simp only [List.length_cons]; show _ < _ + 1; omega) hn kk
theorem R_astore_n1 {a0 : Option Value} {o : Option Value} {x : Nat} (hd : decode cc pc = .ok (.astore_n 1, 1)) (hc : c1 (a0 :: o :: L) = true) (hn : 1 < nL) (kk : Run l D cA N0 own cc nL ret nm R X F h k n (pc + 1) (a0 :: some (.ref x) :: L) (st)) : Run l D cA N0 own cc nL ret nm R X F h k n (pc) (a0 :: o :: L) (.ref x :: st) := R_astore_nG hd hc (by simp only [List.length_cons]; show _ < _ + 1; omega) hn kk
theorem R_astoreN_n1 {a0 : Option Value} {o : Option Value} (hd : decode cc pc = .ok (.astore_n 1, 1)) (hc : c1 (a0 :: o :: L) = true) (hn : 1 < nL) (kk : Run l D cA N0 own cc nL ret nm R X F h k n (pc + 1) (a0 :: some (.null) :: L) (st)) : Run l D cA N0 own cc nL ret nm R X F h k n (pc) (a0 :: o :: L) (.null :: st) := R_astoreN_nG hd hc (by simp only [List.length_cons]; show _ < _ + 1; omega) hn kk
theorem R_aloadN1 {a0 : Option Value} (hd : decode cc pc = .ok (.aload 1, 2)) (kk : Run l D cA N0 own cc nL ret nm R X F h k n (pc + 2) (a0 :: some .null :: L) (.null :: st)) : Run l D cA N0 own cc nL ret nm R X F h k n (pc) (a0 :: some .null :: L) (st) := R_aloadNG hd rfl kk
theorem R_istore1 {a0 : Option Value} {o : Option Value} {x : Int32} (hd : decode cc pc = .ok (.istore 1, 2)) (hc : c1 (a0 :: o :: L) = true) (hn : 1 < nL) (kk : Run l D cA N0 own cc nL ret nm R X F h k n (pc + 2) (a0 :: some (.int x) :: L) (st)) : Run l D cA N0 own cc nL ret nm R X F h k n (pc) (a0 :: o :: L) (.int x :: st) := R_istoreG hd hc (by simp only [List.length_cons]; show _ < _ + 1; omega) hn kk
theorem R_astore1 {a0 : Option Value} {o : Option Value} {x : Nat} (hd : decode cc pc = .ok (.astore 1, 2)) (hc : c1 (a0 :: o :: L) = true) (hn : 1 < nL) (kk : Run l D cA N0 own cc nL ret nm R X F h k n (pc + 2) (a0 :: some (.ref x) :: L) (st)) : Run l D cA N0 own cc nL ret nm R X F h k n (pc) (a0 :: o :: L) (.ref x :: st) := R_astoreG hd hc (by simp only [List.length_cons]; show _ < _ + 1; omega) hn kk
theorem R_astoreN1 {a0 : Option Value} {o : Option Value} (hd : decode cc pc = .ok (.astore 1, 2)) (hc : c1 (a0 :: o :: L) = true) (hn : 1 < nL) (kk : Run l D cA N0 own cc nL ret nm R X F h k n (pc + 2) (a0 :: some (.null) :: L) (st)) : Run l D cA N0 own cc nL ret nm R X F h k n (pc) (a0 :: o :: L) (.null :: st) := R_astoreNG hd hc (by simp only [List.length_cons]; show _ < _ + 1; omega) hn kk
theorem R_iinc1 {a0 : Option Value} {x : Int32} {z : Int} (hd : decode cc pc = .ok (.iinc 1 z, 3)) (hc : c1 (a0 :: some (.int x) :: L) = true) (hn : 1 < nL) (kk : Run l D cA N0 own cc nL ret nm R X F h k n (pc + 3) (a0 :: some (.int (x + Int32.ofInt z)) :: L) (st)) : Run l D cA N0 own cc nL ret nm R X F h k n (pc) (a0 :: some (.int x) :: L) (st) := R_iincG hd rfl rfl hc hn kk
theorem R_iload_n2 {a0 a1 : Option Value} {x : Int32} (hd : decode cc pc = .ok (.iload_n 2, 1)) (kk : Run l D cA N0 own cc nL ret nm R X F h k n (pc + 1) (a0 :: a1 :: some (.int x) :: L) (.int x :: st)) : Run l D cA N0 own cc nL ret nm R X F h k n (pc) (a0 :: a1 :: some (.int x) :: L) (st) := R_iload_nG hd rfl kk
theorem R_iload2 {a0 a1 : Option Value} {x : Int32} (hd : decode cc pc = .ok (.iload 2, 2)) (kk : Run l D cA N0 own cc nL ret nm R X F h k n (pc + 2) (a0 :: a1 :: some (.int x) :: L) (.int x :: st)) : Run l D cA N0 own cc nL ret nm R X F h k n (pc) (a0 :: a1 :: some (.int x) :: L) (st) := R_iloadG hd rfl kk
theorem R_aload_n2 {a0 a1 : Option Value} {x : Nat} (hd : decode cc pc = .ok (.aload_n 2, 1)) (kk : Run l D cA N0 own cc nL ret nm R X F h k n (pc + 1) (a0 :: a1 :: some (.ref x) :: L) (.ref x :: st)) : Run l D cA N0 own cc nL ret nm R X F h k n (pc) (a0 :: a1 :: some (.ref x) :: L) (st) := R_aload_nG hd rfl kk
theorem R_aload2 {a0 a1 : Option Value} {x : Nat} (hd : decode cc pc = .ok (.aload 2, 2)) (kk : Run l D cA N0 own cc nL ret nm R X F h k n (pc + 2) (a0 :: a1 :: some (.ref x) :: L) (.ref x :: st)) : Run l D cA N0 own cc nL ret nm R X F h k n (pc) (a0 :: a1 :: some (.ref x) :: L) (st) := R_aloadG hd rfl kk
theorem R_lload_n2 {a0 a1 : Option Value} {x : Int64} (hd : decode cc pc = .ok (.lload_n 2, 1)) (kk : Run l D cA N0 own cc nL ret nm R X F h k n (pc + 1) (a0 :: a1 :: some (.long x) :: L) (.long x :: st)) : Run l D cA N0 own cc nL ret nm R X F h k n (pc) (a0 :: a1 :: some (.long x) :: L) (st) := R_lload_nG hd rfl kk
theorem R_lload2 {a0 a1 : Option Value} {x : Int64} (hd : decode cc pc = .ok (.lload 2, 2)) (kk : Run l D cA N0 own cc nL ret nm R X F h k n (pc + 2) (a0 :: a1 :: some (.long x) :: L) (.long x :: st)) : Run l D cA N0 own cc nL ret nm R X F h k n (pc) (a0 :: a1 :: some (.long x) :: L) (st) := R_lloadG hd rfl kk
theorem R_aloadN_n2 {a0 a1 : Option Value} (hd : decode cc pc = .ok (.aload_n 2, 1)) (kk : Run l D cA N0 own cc nL ret nm R X F h k n (pc + 1) (a0 :: a1 :: some .null :: L) (.null :: st)) : Run l D cA N0 own cc nL ret nm R X F h k n (pc) (a0 :: a1 :: some .null :: L) (st) := R_aload_nNG hd rfl kk
theorem R_istore_n2 {a0 a1 : Option Value} {o : Option Value} {x : Int32} (hd : decode cc pc = .ok (.istore_n 2, 1)) (hc : c1 (a0 :: a1 :: o :: L) = true) (hn : 2 < nL) (kk : Run l D cA N0 own cc nL ret nm R X F h k n (pc + 1) (a0 :: a1 :: some (.int x) :: L) (st)) : Run l D cA N0 own cc nL ret nm R X F h k n (pc) (a0 :: a1 :: o :: L) (.int x :: st) := R_istore_nG hd hc (by simp only [List.length_cons]; show _ < _ + 1; omega) hn kk
theorem R_astore_n2 {a0 a1 : Option Value} {o : Option Value} {x : Nat} (hd : decode cc pc = .ok (.astore_n 2, 1)) (hc : c1 (a0 :: a1 :: o :: L) = true) (hn : 2 < nL) (kk : Run l D cA N0 own cc nL ret nm R X F h k n (pc + 1) (a0 :: a1 :: some (.ref x) :: L) (st)) : Run l D cA N0 own cc nL ret nm R X F h k n (pc) (a0 :: a1 :: o :: L) (.ref x :: st) := R_astore_nG hd hc (by simp only [List.length_cons]; show _ < _ + 1; omega) hn kk
theorem R_astoreN_n2 {a0 a1 : Option Value} {o : Option Value} (hd : decode cc pc = .ok (.astore_n 2, 1)) (hc : c1 (a0 :: a1 :: o :: L) = true) (hn : 2 < nL) (kk : Run l D cA N0 own cc nL ret nm R X F h k n (pc + 1) (a0 :: a1 :: some (.null) :: L) (st)) : Run l D cA N0 own cc nL ret nm R X F h k n (pc) (a0 :: a1 :: o :: L) (.null :: st) := R_astoreN_nG hd hc (by simp only [List.length_cons]; show _ < _ + 1; omega) hn kk
theorem R_aloadN2 {a0 a1 : Option Value} (hd : decode cc pc = .ok (.aload 2, 2)) (kk : Run l D cA N0 own cc nL ret nm R X F h k n (pc + 2) (a0 :: a1 :: some .null :: L) (.null :: st)) : Run l D cA N0 own cc nL ret nm R X F h k n (pc) (a0 :: a1 :: some .null :: L) (st) := R_aloadNG hd rfl kk
theorem R_istore2 {a0 a1 : Option Value} {o : Option Value} {x : Int32} (hd : decode cc pc = .ok (.istore 2, 2)) (hc : c1 (a0 :: a1 :: o :: L) = true) (hn : 2 < nL) (kk : Run l D cA N0 own cc nL ret nm R X F h k n (pc + 2) (a0 :: a1 :: some (.int x) :: L) (st)) : Run l D cA N0 own cc nL ret nm R X F h k n (pc) (a0 :: a1 :: o :: L) (.int x :: st) := R_istoreG hd hc (by simp only [List.length_cons]; show _ < _ + 1; omega) hn kk
theorem R_astore2 {a0 a1 : Option Value} {o : Option Value} {x : Nat} (hd : decode cc pc = .ok (.astore 2, 2)) (hc : c1 (a0 :: a1 :: o :: L) = true) (hn : 2 < nL) (kk : Run l D cA N0 own cc nL ret nm R X F h k n (pc + 2) (a0 :: a1 :: some (.ref x) :: L) (st)) : Run l D cA N0 own cc nL ret nm R X F h k n (pc) (a0 :: a1 :: o :: L) (.ref x :: st) := R_astoreG hd hc (by simp only [List.length_cons]; show _ < _ + 1; omega) hn kk
theorem R_astoreN2 {a0 a1 : Option Value} {o : Option Value} (hd : decode cc pc = .ok (.astore 2, 2)) (hc : c1 (a0 :: a1 :: o :: L) = true) (hn : 2 < nL) (kk : Run l D cA N0 own cc nL ret nm R X F h k n (pc + 2) (a0 :: a1 :: some (.null) :: L) (st)) : Run l D cA N0 own cc nL ret nm R X F h k n (pc) (a0 :: a1 :: o :: L) (.null :: st) := R_astoreNG hd hc (by simp only [List.length_cons]; show _ < _ + 1; omega) hn kk
theorem R_iinc2 {a0 a1 : Option Value} {x : Int32} {z : Int} (hd : decode cc pc = .ok (.iinc 2 z, 3)) (hc : c1 (a0 :: a1 :: some (.int x) :: L) = true) (hn : 2 < nL) (kk : Run l D cA N0 own cc nL ret nm R X F h k n (pc + 3) (a0 :: a1 :: some (.int (x + Int32.ofInt z)) :: L) (st)) : Run l D cA N0 own cc nL ret nm R X F h k n (pc) (a0 :: a1 :: some (.int x) :: L) (st) := R_iincG hd rfl rfl hc hn kk
theorem R_iload_n3 {a0 a1 a2 : Option Value} {x : Int32} (hd : decode cc pc = .ok (.iload_n 3, 1)) (kk : Run l D cA N0 own cc nL ret nm R X F h k n (pc + 1) (a0 :: a1 :: a2 :: some (.int x) :: L) (.int x :: st)) : Run l D cA N0 own cc nL ret nm R X F h k n (pc) (a0 :: a1 :: a2 :: some (.int x) :: L) (st) := R_iload_nG hd rfl kk
theorem R_iload3 {a0 a1 a2 : Option Value} {x : Int32} (hd : decode cc pc = .ok (.iload 3, 2)) (kk : Run l D cA N0 own cc nL ret nm R X F h k n (pc + 2) (a0 :: a1 :: a2 :: some (.int x) :: L) (.int x :: st)) : Run l D cA N0 own cc nL ret nm R X F h k n (pc) (a0 :: a1 :: a2 :: some (.int x) :: L) (st) := R_iloadG hd rfl kk
theorem R_aload_n3 {a0 a1 a2 : Option Value} {x : Nat} (hd : decode cc pc = .ok (.aload_n 3, 1)) (kk : Run l D cA N0 own cc nL ret nm R X F h k n (pc + 1) (a0 :: a1 :: a2 :: some (.ref x) :: L) (.ref x :: st)) : Run l D cA N0 own cc nL ret nm R X F h k n (pc) (a0 :: a1 :: a2 :: some (.ref x) :: L) (st) := R_aload_nG hd rfl kk
theorem R_aload3 {a0 a1 a2 : Option Value} {x : Nat} (hd : decode cc pc = .ok (.aload 3, 2)) (kk : Run l D cA N0 own cc nL ret nm R X F h k n (pc + 2) (a0 :: a1 :: a2 :: some (.ref x) :: L) (.ref x :: st)) : Run l D cA N0 own cc nL ret nm R X F h k n (pc) (a0 :: a1 :: a2 :: some (.ref x) :: L) (st) := R_aloadG hd rfl kk
theorem R_aloadN_n3 {a0 a1 a2 : Option Value} (hd : decode cc pc = .ok (.aload_n 3, 1)) (kk : Run l D cA N0 own cc nL ret nm R X F h k n (pc + 1) (a0 :: a1 :: a2 :: some .null :: L) (.null :: st)) : Run l D cA N0 own cc nL ret nm R X F h k n (pc) (a0 :: a1 :: a2 :: some .null :: L) (st) := R_aload_nNG hd rfl kk
theorem R_istore_n3 {a0 a1 a2 : Option Value} {o : Option Value} {x : Int32} (hd : decode cc pc = .ok (.istore_n 3, 1)) (hc : c1 (a0 :: a1 :: a2 :: o :: L) = true) (hn : 3 < nL) (kk : Run l D cA N0 own cc nL ret nm R X F h k n (pc + 1) (a0 :: a1 :: a2 :: some (.int x) :: L) (st)) : Run l D cA N0 own cc nL ret nm R X F h k n (pc) (a0 :: a1 :: a2 :: o :: L) (.int x :: st) := R_istore_nG hd hc (by simp only [List.length_cons]; show _ < _ + 1; omega) hn kk
theorem R_astore_n3 {a0 a1 a2 : Option Value} {o : Option Value} {x : Nat} (hd : decode cc pc = .ok (.astore_n 3, 1)) (hc : c1 (a0 :: a1 :: a2 :: o :: L) = true) (hn : 3 < nL) (kk : Run l D cA N0 own cc nL ret nm R X F h k n (pc + 1) (a0 :: a1 :: a2 :: some (.ref x) :: L) (st)) : Run l D cA N0 own cc nL ret nm R X F h k n (pc) (a0 :: a1 :: a2 :: o :: L) (.ref x :: st) := R_astore_nG hd hc (by simp only [List.length_cons]; show _ < _ + 1; omega) hn kk
theorem R_astoreN_n3 {a0 a1 a2 : Option Value} {o : Option Value} (hd : decode cc pc = .ok (.astore_n 3, 1)) (hc : c1 (a0 :: a1 :: a2 :: o :: L) = true) (hn : 3 < nL) (kk : Run l D cA N0 own cc nL ret nm R X F h k n (pc + 1) (a0 :: a1 :: a2 :: some (.null) :: L) (st)) : Run l D cA N0 own cc nL ret nm R X F h k n (pc) (a0 :: a1 :: a2 :: o :: L) (.null :: st) := R_astoreN_nG hd hc (by simp only [List.length_cons]; show _ < _ + 1; omega) hn kk
theorem R_aloadN3 {a0 a1 a2 : Option Value} (hd : decode cc pc = .ok (.aload 3, 2)) (kk : Run l D cA N0 own cc nL ret nm R X F h k n (pc + 2) (a0 :: a1 :: a2 :: some .null :: L) (.null :: st)) : Run l D cA N0 own cc nL ret nm R X F h k n (pc) (a0 :: a1 :: a2 :: some .null :: L) (st) := R_aloadNG hd rfl kk
theorem R_istore3 {a0 a1 a2 : Option Value} {o : Option Value} {x : Int32} (hd : decode cc pc = .ok (.istore 3, 2)) (hc : c1 (a0 :: a1 :: a2 :: o :: L) = true) (hn : 3 < nL) (kk : Run l D cA N0 own cc nL ret nm R X F h k n (pc + 2) (a0 :: a1 :: a2 :: some (.int x) :: L) (st)) : Run l D cA N0 own cc nL ret nm R X F h k n (pc) (a0 :: a1 :: a2 :: o :: L) (.int x :: st) := R_istoreG hd hc (by simp only [List.length_cons]; show _ < _ + 1; omega) hn kk
theorem R_astore3 {a0 a1 a2 : Option Value} {o : Option Value} {x : Nat} (hd : decode cc pc = .ok (.astore 3, 2)) (hc : c1 (a0 :: a1 :: a2 :: o :: L) = true) (hn : 3 < nL) (kk : Run l D cA N0 own cc nL ret nm R X F h k n (pc + 2) (a0 :: a1 :: a2 :: some (.ref x) :: L) (st)) : Run l D cA N0 own cc nL ret nm R X F h k n (pc) (a0 :: a1 :: a2 :: o :: L) (.ref x :: st) := R_astoreG hd hc (by simp only [List.length_cons]; show _ < _ + 1; omega) hn kk
theorem R_astoreN3 {a0 a1 a2 : Option Value} {o : Option Value} (hd : decode cc pc = .ok (.astore 3, 2)) (hc : c1 (a0 :: a1 :: a2 :: o :: L) = true) (hn : 3 < nL) (kk : Run l D cA N0 own cc nL ret nm R X F h k n (pc + 2) (a0 :: a1 :: a2 :: some (.null) :: L) (st)) : Run l D cA N0 own cc nL ret nm R X F h k n (pc) (a0 :: a1 :: a2 :: o :: L) (.null :: st) := R_astoreNG hd hc (by simp only [List.length_cons]; show _ < _ + 1; omega) hn kk
theorem R_iinc3 {a0 a1 a2 : Option Value} {x : Int32} {z : Int} (hd : decode cc pc = .ok (.iinc 3 z, 3)) (hc : c1 (a0 :: a1 :: a2 :: some (.int x) :: L) = true) (hn : 3 < nL) (kk : Run l D cA N0 own cc nL ret nm R X F h k n (pc + 3) (a0 :: a1 :: a2 :: some (.int (x + Int32.ofInt z)) :: L) (st)) : Run l D cA N0 own cc nL ret nm R X F h k n (pc) (a0 :: a1 :: a2 :: some (.int x) :: L) (st) := R_iincG hd rfl rfl hc hn kk
theorem R_iload4 {a0 a1 a2 a3 : Option Value} {x : Int32} (hd : decode cc pc = .ok (.iload 4, 2)) (kk : Run l D cA N0 own cc nL ret nm R X F h k n (pc + 2) (a0 :: a1 :: a2 :: a3 :: some (.int x) :: L) (.int x :: st)) : Run l D cA N0 own cc nL ret nm R X F h k n (pc) (a0 :: a1 :: a2 :: a3 :: some (.int x) :: L) (st) := R_iloadG hd rfl kk
theorem R_aload4 {a0 a1 a2 a3 : Option Value} {x : Nat} (hd : decode cc pc = .ok (.aload 4, 2)) (kk : Run l D cA N0 own cc nL ret nm R X F h k n (pc + 2) (a0 :: a1 :: a2 :: a3 :: some (.ref x) :: L) (.ref x :: st)) : Run l D cA N0 own cc nL ret nm R X F h k n (pc) (a0 :: a1 :: a2 :: a3 :: some (.ref x) :: L) (st) := R_aloadG hd rfl kk
theorem R_lload4 {a0 a1 a2 a3 : Option Value} {x : Int64} (hd : decode cc pc = .ok (.lload 4, 2)) (kk : Run l D cA N0 own cc nL ret nm R X F h k n (pc + 2) (a0 :: a1 :: a2 :: a3 :: some (.long x) :: L) (.long x :: st)) : Run l D cA N0 own cc nL ret nm R X F h k n (pc) (a0 :: a1 :: a2 :: a3 :: some (.long x) :: L) (st) := R_lloadG hd rfl kk
theorem R_aloadN4 {a0 a1 a2 a3 : Option Value} (hd : decode cc pc = .ok (.aload 4, 2)) (kk : Run l D cA N0 own cc nL ret nm R X F h k n (pc + 2) (a0 :: a1 :: a2 :: a3 :: some .null :: L) (.null :: st)) : Run l D cA N0 own cc nL ret nm R X F h k n (pc) (a0 :: a1 :: a2 :: a3 :: some .null :: L) (st) := R_aloadNG hd rfl kk
theorem R_istore4 {a0 a1 a2 a3 : Option Value} {o : Option Value} {x : Int32} (hd : decode cc pc = .ok (.istore 4, 2)) (hc : c1 (a0 :: a1 :: a2 :: a3 :: o :: L) = true) (hn : 4 < nL) (kk : Run l D cA N0 own cc nL ret nm R X F h k n (pc + 2) (a0 :: a1 :: a2 :: a3 :: some (.int x) :: L) (st)) : Run l D cA N0 own cc nL ret nm R X F h k n (pc) (a0 :: a1 :: a2 :: a3 :: o :: L) (.int x :: st) := R_istoreG hd hc (by simp only [List.length_cons]; show _ < _ + 1; omega) hn kk
theorem R_astore4 {a0 a1 a2 a3 : Option Value} {o : Option Value} {x : Nat} (hd : decode cc pc = .ok (.astore 4, 2)) (hc : c1 (a0 :: a1 :: a2 :: a3 :: o :: L) = true) (hn : 4 < nL) (kk : Run l D cA N0 own cc nL ret nm R X F h k n (pc + 2) (a0 :: a1 :: a2 :: a3 :: some (.ref x) :: L) (st)) : Run l D cA N0 own cc nL ret nm R X F h k n (pc) (a0 :: a1 :: a2 :: a3 :: o :: L) (.ref x :: st) := R_astoreG hd hc (by simp only [List.length_cons]; show _ < _ + 1; omega) hn kk
theorem R_astoreN4 {a0 a1 a2 a3 : Option Value} {o : Option Value} (hd : decode cc pc = .ok (.astore 4, 2)) (hc : c1 (a0 :: a1 :: a2 :: a3 :: o :: L) = true) (hn : 4 < nL) (kk : Run l D cA N0 own cc nL ret nm R X F h k n (pc + 2) (a0 :: a1 :: a2 :: a3 :: some (.null) :: L) (st)) : Run l D cA N0 own cc nL ret nm R X F h k n (pc) (a0 :: a1 :: a2 :: a3 :: o :: L) (.null :: st) := R_astoreNG hd hc (by simp only [List.length_cons]; show _ < _ + 1; omega) hn kk
theorem R_iinc4 {a0 a1 a2 a3 : Option Value} {x : Int32} {z : Int} (hd : decode cc pc = .ok (.iinc 4 z, 3)) (hc : c1 (a0 :: a1 :: a2 :: a3 :: some (.int x) :: L) = true) (hn : 4 < nL) (kk : Run l D cA N0 own cc nL ret nm R X F h k n (pc + 3) (a0 :: a1 :: a2 :: a3 :: some (.int (x + Int32.ofInt z)) :: L) (st)) : Run l D cA N0 own cc nL ret nm R X F h k n (pc) (a0 :: a1 :: a2 :: a3 :: some (.int x) :: L) (st) := R_iincG hd rfl rfl hc hn kk
theorem R_iload5 {a0 a1 a2 a3 a4 : Option Value} {x : Int32} (hd : decode cc pc = .ok (.iload 5, 2)) (kk : Run l D cA N0 own cc nL ret nm R X F h k n (pc + 2) (a0 :: a1 :: a2 :: a3 :: a4 :: some (.int x) :: L) (.int x :: st)) : Run l D cA N0 own cc nL ret nm R X F h k n (pc) (a0 :: a1 :: a2 :: a3 :: a4 :: some (.int x) :: L) (st) := R_iloadG hd rfl kk
theorem R_aload5 {a0 a1 a2 a3 a4 : Option Value} {x : Nat} (hd : decode cc pc = .ok (.aload 5, 2)) (kk : Run l D cA N0 own cc nL ret nm R X F h k n (pc + 2) (a0 :: a1 :: a2 :: a3 :: a4 :: some (.ref x) :: L) (.ref x :: st)) : Run l D cA N0 own cc nL ret nm R X F h k n (pc) (a0 :: a1 :: a2 :: a3 :: a4 :: some (.ref x) :: L) (st) := R_aloadG hd rfl kk
theorem R_aloadN5 {a0 a1 a2 a3 a4 : Option Value} (hd : decode cc pc = .ok (.aload 5, 2)) (kk : Run l D cA N0 own cc nL ret nm R X F h k n (pc + 2) (a0 :: a1 :: a2 :: a3 :: a4 :: some .null :: L) (.null :: st)) : Run l D cA N0 own cc nL ret nm R X F h k n (pc) (a0 :: a1 :: a2 :: a3 :: a4 :: some .null :: L) (st) := R_aloadNG hd rfl kk
theorem R_istore5 {a0 a1 a2 a3 a4 : Option Value} {o : Option Value} {x : Int32} (hd : decode cc pc = .ok (.istore 5, 2)) (hc : c1 (a0 :: a1 :: a2 :: a3 :: a4 :: o :: L) = true) (hn : 5 < nL) (kk : Run l D cA N0 own cc nL ret nm R X F h k n (pc + 2) (a0 :: a1 :: a2 :: a3 :: a4 :: some (.int x) :: L) (st)) : Run l D cA N0 own cc nL ret nm R X F h k n (pc) (a0 :: a1 :: a2 :: a3 :: a4 :: o :: L) (.int x :: st) := R_istoreG hd hc (by simp only [List.length_cons]; show _ < _ + 1; omega) hn kk
theorem R_astore5 {a0 a1 a2 a3 a4 : Option Value} {o : Option Value} {x : Nat} (hd : decode cc pc = .ok (.astore 5, 2)) (hc : c1 (a0 :: a1 :: a2 :: a3 :: a4 :: o :: L) = true) (hn : 5 < nL) (kk : Run l D cA N0 own cc nL ret nm R X F h k n (pc + 2) (a0 :: a1 :: a2 :: a3 :: a4 :: some (.ref x) :: L) (st)) : Run l D cA N0 own cc nL ret nm R X F h k n (pc) (a0 :: a1 :: a2 :: a3 :: a4 :: o :: L) (.ref x :: st) := R_astoreG hd hc (by simp only [List.length_cons]; show _ < _ + 1; omega) hn kk
theorem R_astoreN5 {a0 a1 a2 a3 a4 : Option Value} {o : Option Value} (hd : decode cc pc = .ok (.astore 5, 2)) (hc : c1 (a0 :: a1 :: a2 :: a3 :: a4 :: o :: L) = true) (hn : 5 < nL) (kk : Run l D cA N0 own cc nL ret nm R X F h k n (pc + 2) (a0 :: a1 :: a2 :: a3 :: a4 :: some (.null) :: L) (st)) : Run l D cA N0 own cc nL ret nm R X F h k n (pc) (a0 :: a1 :: a2 :: a3 :: a4 :: o :: L) (.null :: st) := R_astoreNG hd hc (by simp only [List.length_cons]; show _ < _ + 1; omega) hn kk
theorem R_iinc5 {a0 a1 a2 a3 a4 : Option Value} {x : Int32} {z : Int} (hd : decode cc pc = .ok (.iinc 5 z, 3)) (hc : c1 (a0 :: a1 :: a2 :: a3 :: a4 :: some (.int x) :: L) = true) (hn : 5 < nL) (kk : Run l D cA N0 own cc nL ret nm R X F h k n (pc + 3) (a0 :: a1 :: a2 :: a3 :: a4 :: some (.int (x + Int32.ofInt z)) :: L) (st)) : Run l D cA N0 own cc nL ret nm R X F h k n (pc) (a0 :: a1 :: a2 :: a3 :: a4 :: some (.int x) :: L) (st) := R_iincG hd rfl rfl hc hn kk
theorem R_iload6 {a0 a1 a2 a3 a4 a5 : Option Value} {x : Int32} (hd : decode cc pc = .ok (.iload 6, 2)) (kk : Run l D cA N0 own cc nL ret nm R X F h k n (pc + 2) (a0 :: a1 :: a2 :: a3 :: a4 :: a5 :: some (.int x) :: L) (.int x :: st)) : Run l D cA N0 own cc nL ret nm R X F h k n (pc) (a0 :: a1 :: a2 :: a3 :: a4 :: a5 :: some (.int x) :: L) (st) := R_iloadG hd rfl kk
theorem R_aload6 {a0 a1 a2 a3 a4 a5 : Option Value} {x : Nat} (hd : decode cc pc = .ok (.aload 6, 2)) (kk : Run l D cA N0 own cc nL ret nm R X F h k n (pc + 2) (a0 :: a1 :: a2 :: a3 :: a4 :: a5 :: some (.ref x) :: L) (.ref x :: st)) : Run l D cA N0 own cc nL ret nm R X F h k n (pc) (a0 :: a1 :: a2 :: a3 :: a4 :: a5 :: some (.ref x) :: L) (st) := R_aloadG hd rfl kk
theorem R_aloadN6 {a0 a1 a2 a3 a4 a5 : Option Value} (hd : decode cc pc = .ok (.aload 6, 2)) (kk : Run l D cA N0 own cc nL ret nm R X F h k n (pc + 2) (a0 :: a1 :: a2 :: a3 :: a4 :: a5 :: some .null :: L) (.null :: st)) : Run l D cA N0 own cc nL ret nm R X F h k n (pc) (a0 :: a1 :: a2 :: a3 :: a4 :: a5 :: some .null :: L) (st) := R_aloadNG hd rfl kk
theorem R_istore6 {a0 a1 a2 a3 a4 a5 : Option Value} {o : Option Value} {x : Int32} (hd : decode cc pc = .ok (.istore 6, 2)) (hc : c1 (a0 :: a1 :: a2 :: a3 :: a4 :: a5 :: o :: L) = true) (hn : 6 < nL) (kk : Run l D cA N0 own cc nL ret nm R X F h k n (pc + 2) (a0 :: a1 :: a2 :: a3 :: a4 :: a5 :: some (.int x) :: L) (st)) : Run l D cA N0 own cc nL ret nm R X F h k n (pc) (a0 :: a1 :: a2 :: a3 :: a4 :: a5 :: o :: L) (.int x :: st) := R_istoreG hd hc (by simp only [List.length_cons]; show _ < _ + 1; omega) hn kk
theorem R_astore6 {a0 a1 a2 a3 a4 a5 : Option Value} {o : Option Value} {x : Nat} (hd : decode cc pc = .ok (.astore 6, 2)) (hc : c1 (a0 :: a1 :: a2 :: a3 :: a4 :: a5 :: o :: L) = true) (hn : 6 < nL) (kk : Run l D cA N0 own cc nL ret nm R X F h k n (pc + 2) (a0 :: a1 :: a2 :: a3 :: a4 :: a5 :: some (.ref x) :: L) (st)) : Run l D cA N0 own cc nL ret nm R X F h k n (pc) (a0 :: a1 :: a2 :: a3 :: a4 :: a5 :: o :: L) (.ref x :: st) := R_astoreG hd hc (by simp only [List.length_cons]; show _ < _ + 1; omega) hn kk
theorem R_astoreN6 {a0 a1 a2 a3 a4 a5 : Option Value} {o : Option Value} (hd : decode cc pc = .ok (.astore 6, 2)) (hc : c1 (a0 :: a1 :: a2 :: a3 :: a4 :: a5 :: o :: L) = true) (hn : 6 < nL) (kk : Run l D cA N0 own cc nL ret nm R X F h k n (pc + 2) (a0 :: a1 :: a2 :: a3 :: a4 :: a5 :: some (.null) :: L) (st)) : Run l D cA N0 own cc nL ret nm R X F h k n (pc) (a0 :: a1 :: a2 :: a3 :: a4 :: a5 :: o :: L) (.null :: st) := R_astoreNG hd hc (by simp only [List.length_cons]; show _ < _ + 1; omega) hn kk
theorem R_iinc6 {a0 a1 a2 a3 a4 a5 : Option Value} {x : Int32} {z : Int} (hd : decode cc pc = .ok (.iinc 6 z, 3)) (hc : c1 (a0 :: a1 :: a2 :: a3 :: a4 :: a5 :: some (.int x) :: L) = true) (hn : 6 < nL) (kk : Run l D cA N0 own cc nL ret nm R X F h k n (pc + 3) (a0 :: a1 :: a2 :: a3 :: a4 :: a5 :: some (.int (x + Int32.ofInt z)) :: L) (st)) : Run l D cA N0 own cc nL ret nm R X F h k n (pc) (a0 :: a1 :: a2 :: a3 :: a4 :: a5 :: some (.int x) :: L) (st) := R_iincG hd rfl rfl hc hn kk
theorem R_iload7 {a0 a1 a2 a3 a4 a5 a6 : Option Value} {x : Int32} (hd : decode cc pc = .ok (.iload 7, 2)) (kk : Run l D cA N0 own cc nL ret nm R X F h k n (pc + 2) (a0 :: a1 :: a2 :: a3 :: a4 :: a5 :: a6 :: some (.int x) :: L) (.int x :: st)) : Run l D cA N0 own cc nL ret nm R X F h k n (pc) (a0 :: a1 :: a2 :: a3 :: a4 :: a5 :: a6 :: some (.int x) :: L) (st) := R_iloadG hd rfl kk
theorem R_aload7 {a0 a1 a2 a3 a4 a5 a6 : Option Value} {x : Nat} (hd : decode cc pc = .ok (.aload 7, 2)) (kk : Run l D cA N0 own cc nL ret nm R X F h k n (pc + 2) (a0 :: a1 :: a2 :: a3 :: a4 :: a5 :: a6 :: some (.ref x) :: L) (.ref x :: st)) : Run l D cA N0 own cc nL ret nm R X F h k n (pc) (a0 :: a1 :: a2 :: a3 :: a4 :: a5 :: a6 :: some (.ref x) :: L) (st) := R_aloadG hd rfl kk
theorem R_aloadN7 {a0 a1 a2 a3 a4 a5 a6 : Option Value} (hd : decode cc pc = .ok (.aload 7, 2)) (kk : Run l D cA N0 own cc nL ret nm R X F h k n (pc + 2) (a0 :: a1 :: a2 :: a3 :: a4 :: a5 :: a6 :: some .null :: L) (.null :: st)) : Run l D cA N0 own cc nL ret nm R X F h k n (pc) (a0 :: a1 :: a2 :: a3 :: a4 :: a5 :: a6 :: some .null :: L) (st) := R_aloadNG hd rfl kk
theorem R_istore7 {a0 a1 a2 a3 a4 a5 a6 : Option Value} {o : Option Value} {x : Int32} (hd : decode cc pc = .ok (.istore 7, 2)) (hc : c1 (a0 :: a1 :: a2 :: a3 :: a4 :: a5 :: a6 :: o :: L) = true) (hn : 7 < nL) (kk : Run l D cA N0 own cc nL ret nm R X F h k n (pc + 2) (a0 :: a1 :: a2 :: a3 :: a4 :: a5 :: a6 :: some (.int x) :: L) (st)) : Run l D cA N0 own cc nL ret nm R X F h k n (pc) (a0 :: a1 :: a2 :: a3 :: a4 :: a5 :: a6 :: o :: L) (.int x :: st) := R_istoreG hd hc (by simp only [List.length_cons]; show _ < _ + 1; omega) hn kk
theorem R_astore7 {a0 a1 a2 a3 a4 a5 a6 : Option Value} {o : Option Value} {x : Nat} (hd : decode cc pc = .ok (.astore 7, 2)) (hc : c1 (a0 :: a1 :: a2 :: a3 :: a4 :: a5 :: a6 :: o :: L) = true) (hn : 7 < nL) (kk : Run l D cA N0 own cc nL ret nm R X F h k n (pc + 2) (a0 :: a1 :: a2 :: a3 :: a4 :: a5 :: a6 :: some (.ref x) :: L) (st)) : Run l D cA N0 own cc nL ret nm R X F h k n (pc) (a0 :: a1 :: a2 :: a3 :: a4 :: a5 :: a6 :: o :: L) (.ref x :: st) := R_astoreG hd hc (by simp only [List.length_cons]; show _ < _ + 1; omega) hn kk
theorem R_astoreN7 {a0 a1 a2 a3 a4 a5 a6 : Option Value} {o : Option Value} (hd : decode cc pc = .ok (.astore 7, 2)) (hc : c1 (a0 :: a1 :: a2 :: a3 :: a4 :: a5 :: a6 :: o :: L) = true) (hn : 7 < nL) (kk : Run l D cA N0 own cc nL ret nm R X F h k n (pc + 2) (a0 :: a1 :: a2 :: a3 :: a4 :: a5 :: a6 :: some (.null) :: L) (st)) : Run l D cA N0 own cc nL ret nm R X F h k n (pc) (a0 :: a1 :: a2 :: a3 :: a4 :: a5 :: a6 :: o :: L) (.null :: st) := R_astoreNG hd hc (by simp only [List.length_cons]; show _ < _ + 1; omega) hn kk
theorem R_iinc7 {a0 a1 a2 a3 a4 a5 a6 : Option Value} {x : Int32} {z : Int} (hd : decode cc pc = .ok (.iinc 7 z, 3)) (hc : c1 (a0 :: a1 :: a2 :: a3 :: a4 :: a5 :: a6 :: some (.int x) :: L) = true) (hn : 7 < nL) (kk : Run l D cA N0 own cc nL ret nm R X F h k n (pc + 3) (a0 :: a1 :: a2 :: a3 :: a4 :: a5 :: a6 :: some (.int (x + Int32.ofInt z)) :: L) (st)) : Run l D cA N0 own cc nL ret nm R X F h k n (pc) (a0 :: a1 :: a2 :: a3 :: a4 :: a5 :: a6 :: some (.int x) :: L) (st) := R_iincG hd rfl rfl hc hn kk
theorem R_iload8 {a0 a1 a2 a3 a4 a5 a6 a7 : Option Value} {x : Int32} (hd : decode cc pc = .ok (.iload 8, 2)) (kk : Run l D cA N0 own cc nL ret nm R X F h k n (pc + 2) (a0 :: a1 :: a2 :: a3 :: a4 :: a5 :: a6 :: a7 :: some (.int x) :: L) (.int x :: st)) : Run l D cA N0 own cc nL ret nm R X F h k n (pc) (a0 :: a1 :: a2 :: a3 :: a4 :: a5 :: a6 :: a7 :: some (.int x) :: L) (st) := R_iloadG hd rfl kk
theorem R_aload8 {a0 a1 a2 a3 a4 a5 a6 a7 : Option Value} {x : Nat} (hd : decode cc pc = .ok (.aload 8, 2)) (kk : Run l D cA N0 own cc nL ret nm R X F h k n (pc + 2) (a0 :: a1 :: a2 :: a3 :: a4 :: a5 :: a6 :: a7 :: some (.ref x) :: L) (.ref x :: st)) : Run l D cA N0 own cc nL ret nm R X F h k n (pc) (a0 :: a1 :: a2 :: a3 :: a4 :: a5 :: a6 :: a7 :: some (.ref x) :: L) (st) := R_aloadG hd rfl kk
theorem R_aloadN8 {a0 a1 a2 a3 a4 a5 a6 a7 : Option Value} (hd : decode cc pc = .ok (.aload 8, 2)) (kk : Run l D cA N0 own cc nL ret nm R X F h k n (pc + 2) (a0 :: a1 :: a2 :: a3 :: a4 :: a5 :: a6 :: a7 :: some .null :: L) (.null :: st)) : Run l D cA N0 own cc nL ret nm R X F h k n (pc) (a0 :: a1 :: a2 :: a3 :: a4 :: a5 :: a6 :: a7 :: some .null :: L) (st) := R_aloadNG hd rfl kk
theorem R_istore8 {a0 a1 a2 a3 a4 a5 a6 a7 : Option Value} {o : Option Value} {x : Int32} (hd : decode cc pc = .ok (.istore 8, 2)) (hc : c1 (a0 :: a1 :: a2 :: a3 :: a4 :: a5 :: a6 :: a7 :: o :: L) = true) (hn : 8 < nL) (kk : Run l D cA N0 own cc nL ret nm R X F h k n (pc + 2) (a0 :: a1 :: a2 :: a3 :: a4 :: a5 :: a6 :: a7 :: some (.int x) :: L) (st)) : Run l D cA N0 own cc nL ret nm R X F h k n (pc) (a0 :: a1 :: a2 :: a3 :: a4 :: a5 :: a6 :: a7 :: o :: L) (.int x :: st) := R_istoreG hd hc (by simp only [List.length_cons]; show _ < _ + 1; omega) hn kk
theorem R_astore8 {a0 a1 a2 a3 a4 a5 a6 a7 : Option Value} {o : Option Value} {x : Nat} (hd : decode cc pc = .ok (.astore 8, 2)) (hc : c1 (a0 :: a1 :: a2 :: a3 :: a4 :: a5 :: a6 :: a7 :: o :: L) = true) (hn : 8 < nL) (kk : Run l D cA N0 own cc nL ret nm R X F h k n (pc + 2) (a0 :: a1 :: a2 :: a3 :: a4 :: a5 :: a6 :: a7 :: some (.ref x) :: L) (st)) : Run l D cA N0 own cc nL ret nm R X F h k n (pc) (a0 :: a1 :: a2 :: a3 :: a4 :: a5 :: a6 :: a7 :: o :: L) (.ref x :: st) := R_astoreG hd hc (by simp only [List.length_cons]; show _ < _ + 1; omega) hn kk
theorem R_astoreN8 {a0 a1 a2 a3 a4 a5 a6 a7 : Option Value} {o : Option Value} (hd : decode cc pc = .ok (.astore 8, 2)) (hc : c1 (a0 :: a1 :: a2 :: a3 :: a4 :: a5 :: a6 :: a7 :: o :: L) = true) (hn : 8 < nL) (kk : Run l D cA N0 own cc nL ret nm R X F h k n (pc + 2) (a0 :: a1 :: a2 :: a3 :: a4 :: a5 :: a6 :: a7 :: some (.null) :: L) (st)) : Run l D cA N0 own cc nL ret nm R X F h k n (pc) (a0 :: a1 :: a2 :: a3 :: a4 :: a5 :: a6 :: a7 :: o :: L) (.null :: st) := R_astoreNG hd hc (by simp only [List.length_cons]; show _ < _ + 1; omega) hn kk
theorem R_iinc8 {a0 a1 a2 a3 a4 a5 a6 a7 : Option Value} {x : Int32} {z : Int} (hd : decode cc pc = .ok (.iinc 8 z, 3)) (hc : c1 (a0 :: a1 :: a2 :: a3 :: a4 :: a5 :: a6 :: a7 :: some (.int x) :: L) = true) (hn : 8 < nL) (kk : Run l D cA N0 own cc nL ret nm R X F h k n (pc + 3) (a0 :: a1 :: a2 :: a3 :: a4 :: a5 :: a6 :: a7 :: some (.int (x + Int32.ofInt z)) :: L) (st)) : Run l D cA N0 own cc nL ret nm R X F h k n (pc) (a0 :: a1 :: a2 :: a3 :: a4 :: a5 :: a6 :: a7 :: some (.int x) :: L) (st) := R_iincG hd rfl rfl hc hn kk
theorem R_iload9 {a0 a1 a2 a3 a4 a5 a6 a7 a8 : Option Value} {x : Int32} (hd : decode cc pc = .ok (.iload 9, 2)) (kk : Run l D cA N0 own cc nL ret nm R X F h k n (pc + 2) (a0 :: a1 :: a2 :: a3 :: a4 :: a5 :: a6 :: a7 :: a8 :: some (.int x) :: L) (.int x :: st)) : Run l D cA N0 own cc nL ret nm R X F h k n (pc) (a0 :: a1 :: a2 :: a3 :: a4 :: a5 :: a6 :: a7 :: a8 :: some (.int x) :: L) (st) := R_iloadG hd rfl kk
theorem R_aload9 {a0 a1 a2 a3 a4 a5 a6 a7 a8 : Option Value} {x : Nat} (hd : decode cc pc = .ok (.aload 9, 2)) (kk : Run l D cA N0 own cc nL ret nm R X F h k n (pc + 2) (a0 :: a1 :: a2 :: a3 :: a4 :: a5 :: a6 :: a7 :: a8 :: some (.ref x) :: L) (.ref x :: st)) : Run l D cA N0 own cc nL ret nm R X F h k n (pc) (a0 :: a1 :: a2 :: a3 :: a4 :: a5 :: a6 :: a7 :: a8 :: some (.ref x) :: L) (st) := R_aloadG hd rfl kk
theorem R_aloadN9 {a0 a1 a2 a3 a4 a5 a6 a7 a8 : Option Value} (hd : decode cc pc = .ok (.aload 9, 2)) (kk : Run l D cA N0 own cc nL ret nm R X F h k n (pc + 2) (a0 :: a1 :: a2 :: a3 :: a4 :: a5 :: a6 :: a7 :: a8 :: some .null :: L) (.null :: st)) : Run l D cA N0 own cc nL ret nm R X F h k n (pc) (a0 :: a1 :: a2 :: a3 :: a4 :: a5 :: a6 :: a7 :: a8 :: some .null :: L) (st) := R_aloadNG hd rfl kk
theorem R_istore9 {a0 a1 a2 a3 a4 a5 a6 a7 a8 : Option Value} {o : Option Value} {x : Int32} (hd : decode cc pc = .ok (.istore 9, 2)) (hc : c1 (a0 :: a1 :: a2 :: a3 :: a4 :: a5 :: a6 :: a7 :: a8 :: o :: L) = true) (hn : 9 < nL) (kk : Run l D cA N0 own cc nL ret nm R X F h k n (pc + 2) (a0 :: a1 :: a2 :: a3 :: a4 :: a5 :: a6 :: a7 :: a8 :: some (.int x) :: L) (st)) : Run l D cA N0 own cc nL ret nm R X F h k n (pc) (a0 :: a1 :: a2 :: a3 :: a4 :: a5 :: a6 :: a7 :: a8 :: o :: L) (.int x :: st) := R_istoreG hd hc (by simp only [List.length_cons]; show _ < _ + 1; omega) hn kk
theorem R_astore9 {a0 a1 a2 a3 a4 a5 a6 a7 a8 : Option Value} {o : Option Value} {x : Nat} (hd : decode cc pc = .ok (.astore 9, 2)) (hc : c1 (a0 :: a1 :: a2 :: a3 :: a4 :: a5 :: a6 :: a7 :: a8 :: o :: L) = true) (hn : 9 < nL) (kk : Run l D cA N0 own cc nL ret nm R X F h k n (pc + 2) (a0 :: a1 :: a2 :: a3 :: a4 :: a5 :: a6 :: a7 :: a8 :: some (.ref x) :: L) (st)) : Run l D cA N0 own cc nL ret nm R X F h k n (pc) (a0 :: a1 :: a2 :: a3 :: a4 :: a5 :: a6 :: a7 :: a8 :: o :: L) (.ref x :: st) := R_astoreG hd hc (by simp only [List.length_cons]; show _ < _ + 1; omega) hn kk
theorem R_astoreN9 {a0 a1 a2 a3 a4 a5 a6 a7 a8 : Option Value} {o : Option Value} (hd : decode cc pc = .ok (.astore 9, 2)) (hc : c1 (a0 :: a1 :: a2 :: a3 :: a4 :: a5 :: a6 :: a7 :: a8 :: o :: L) = true) (hn : 9 < nL) (kk : Run l D cA N0 own cc nL ret nm R X F h k n (pc + 2) (a0 :: a1 :: a2 :: a3 :: a4 :: a5 :: a6 :: a7 :: a8 :: some (.null) :: L) (st)) : Run l D cA N0 own cc nL ret nm R X F h k n (pc) (a0 :: a1 :: a2 :: a3 :: a4 :: a5 :: a6 :: a7 :: a8 :: o :: L) (.null :: st) := R_astoreNG hd hc (by simp only [List.length_cons]; show _ < _ + 1; omega) hn kk
theorem R_iinc9 {a0 a1 a2 a3 a4 a5 a6 a7 a8 : Option Value} {x : Int32} {z : Int} (hd : decode cc pc = .ok (.iinc 9 z, 3)) (hc : c1 (a0 :: a1 :: a2 :: a3 :: a4 :: a5 :: a6 :: a7 :: a8 :: some (.int x) :: L) = true) (hn : 9 < nL) (kk : Run l D cA N0 own cc nL ret nm R X F h k n (pc + 3) (a0 :: a1 :: a2 :: a3 :: a4 :: a5 :: a6 :: a7 :: a8 :: some (.int (x + Int32.ofInt z)) :: L) (st)) : Run l D cA N0 own cc nL ret nm R X F h k n (pc) (a0 :: a1 :: a2 :: a3 :: a4 :: a5 :: a6 :: a7 :: a8 :: some (.int x) :: L) (st) := R_iincG hd rfl rfl hc hn kk
theorem R_iload10 {a0 a1 a2 a3 a4 a5 a6 a7 a8 a9 : Option Value} {x : Int32} (hd : decode cc pc = .ok (.iload 10, 2)) (kk : Run l D cA N0 own cc nL ret nm R X F h k n (pc + 2) (a0 :: a1 :: a2 :: a3 :: a4 :: a5 :: a6 :: a7 :: a8 :: a9 :: some (.int x) :: L) (.int x :: st)) : Run l D cA N0 own cc nL ret nm R X F h k n (pc) (a0 :: a1 :: a2 :: a3 :: a4 :: a5 :: a6 :: a7 :: a8 :: a9 :: some (.int x) :: L) (st) := R_iloadG hd rfl kk
theorem R_aload10 {a0 a1 a2 a3 a4 a5 a6 a7 a8 a9 : Option Value} {x : Nat} (hd : decode cc pc = .ok (.aload 10, 2)) (kk : Run l D cA N0 own cc nL ret nm R X F h k n (pc + 2) (a0 :: a1 :: a2 :: a3 :: a4 :: a5 :: a6 :: a7 :: a8 :: a9 :: some (.ref x) :: L) (.ref x :: st)) : Run l D cA N0 own cc nL ret nm R X F h k n (pc) (a0 :: a1 :: a2 :: a3 :: a4 :: a5 :: a6 :: a7 :: a8 :: a9 :: some (.ref x) :: L) (st) := R_aloadG hd rfl kk
theorem R_aloadN10 {a0 a1 a2 a3 a4 a5 a6 a7 a8 a9 : Option Value} (hd : decode cc pc = .ok (.aload 10, 2)) (kk : Run l D cA N0 own cc nL ret nm R X F h k n (pc + 2) (a0 :: a1 :: a2 :: a3 :: a4 :: a5 :: a6 :: a7 :: a8 :: a9 :: some .null :: L) (.null :: st)) : Run l D cA N0 own cc nL ret nm R X F h k n (pc) (a0 :: a1 :: a2 :: a3 :: a4 :: a5 :: a6 :: a7 :: a8 :: a9 :: some .null :: L) (st) := R_aloadNG hd rfl kk
theorem R_istore10 {a0 a1 a2 a3 a4 a5 a6 a7 a8 a9 : Option Value} {o : Option Value} {x : Int32} (hd : decode cc pc = .ok (.istore 10, 2)) (hc : c1 (a0 :: a1 :: a2 :: a3 :: a4 :: a5 :: a6 :: a7 :: a8 :: a9 :: o :: L) = true) (hn : 10 < nL) (kk : Run l D cA N0 own cc nL ret nm R X F h k n (pc + 2) (a0 :: a1 :: a2 :: a3 :: a4 :: a5 :: a6 :: a7 :: a8 :: a9 :: some (.int x) :: L) (st)) : Run l D cA N0 own cc nL ret nm R X F h k n (pc) (a0 :: a1 :: a2 :: a3 :: a4 :: a5 :: a6 :: a7 :: a8 :: a9 :: o :: L) (.int x :: st) := R_istoreG hd hc (by simp only [List.length_cons]; show _ < _ + 1; omega) hn kk
theorem R_astore10 {a0 a1 a2 a3 a4 a5 a6 a7 a8 a9 : Option Value} {o : Option Value} {x : Nat} (hd : decode cc pc = .ok (.astore 10, 2)) (hc : c1 (a0 :: a1 :: a2 :: a3 :: a4 :: a5 :: a6 :: a7 :: a8 :: a9 :: o :: L) = true) (hn : 10 < nL) (kk : Run l D cA N0 own cc nL ret nm R X F h k n (pc + 2) (a0 :: a1 :: a2 :: a3 :: a4 :: a5 :: a6 :: a7 :: a8 :: a9 :: some (.ref x) :: L) (st)) : Run l D cA N0 own cc nL ret nm R X F h k n (pc) (a0 :: a1 :: a2 :: a3 :: a4 :: a5 :: a6 :: a7 :: a8 :: a9 :: o :: L) (.ref x :: st) := R_astoreG hd hc (by simp only [List.length_cons]; show _ < _ + 1; omega) hn kk
theorem R_astoreN10 {a0 a1 a2 a3 a4 a5 a6 a7 a8 a9 : Option Value} {o : Option Value} (hd : decode cc pc = .ok (.astore 10, 2)) (hc : c1 (a0 :: a1 :: a2 :: a3 :: a4 :: a5 :: a6 :: a7 :: a8 :: a9 :: o :: L) = true) (hn : 10 < nL) (kk : Run l D cA N0 own cc nL ret nm R X F h k n (pc + 2) (a0 :: a1 :: a2 :: a3 :: a4 :: a5 :: a6 :: a7 :: a8 :: a9 :: some (.null) :: L) (st)) : Run l D cA N0 own cc nL ret nm R X F h k n (pc) (a0 :: a1 :: a2 :: a3 :: a4 :: a5 :: a6 :: a7 :: a8 :: a9 :: o :: L) (.null :: st) := R_astoreNG hd hc (by simp only [List.length_cons]; show _ < _ + 1; omega) hn kk
theorem R_iinc10 {a0 a1 a2 a3 a4 a5 a6 a7 a8 a9 : Option Value} {x : Int32} {z : Int} (hd : decode cc pc = .ok (.iinc 10 z, 3)) (hc : c1 (a0 :: a1 :: a2 :: a3 :: a4 :: a5 :: a6 :: a7 :: a8 :: a9 :: some (.int x) :: L) = true) (hn : 10 < nL) (kk : Run l D cA N0 own cc nL ret nm R X F h k n (pc + 3) (a0 :: a1 :: a2 :: a3 :: a4 :: a5 :: a6 :: a7 :: a8 :: a9 :: some (.int (x + Int32.ofInt z)) :: L) (st)) : Run l D cA N0 own cc nL ret nm R X F h k n (pc) (a0 :: a1 :: a2 :: a3 :: a4 :: a5 :: a6 :: a7 :: a8 :: a9 :: some (.int x) :: L) (st) := R_iincG hd rfl rfl hc hn kk
theorem R_iadd {x y : Int32} (hd : decode cc pc = .ok (.iadd, 1)) (kk : Run l D cA N0 own cc nL ret nm R X F h k n (pc + 1) L (.int (x + y) :: st)) : Run l D cA N0 own cc nL ret nm R X F h k n (pc) L (.int y :: .int x :: st) := by
  intro p e s m args below meth c H locs ls Cc hR hS hL
  obtain ⟨hx, hb, hml, hrt, hlk, hown, hnm, hts, hK, hN, hX⟩ := id Cc
  exact lv_iadd hx hb hd (kk p e s m args below meth c H locs ls Cc hR hS hL)
theorem R_isub {x y : Int32} (hd : decode cc pc = .ok (.isub, 1)) (kk : Run l D cA N0 own cc nL ret nm R X F h k n (pc + 1) L (.int (x - y) :: st)) : Run l D cA N0 own cc nL ret nm R X F h k n (pc) L (.int y :: .int x :: st) := by
  intro p e s m args below meth c H locs ls Cc hR hS hL
  obtain ⟨hx, hb, hml, hrt, hlk, hown, hnm, hts, hK, hN, hX⟩ := id Cc
  exact lv_isub hx hb hd (kk p e s m args below meth c H locs ls Cc hR hS hL)
theorem R_imul {x y : Int32} (hd : decode cc pc = .ok (.imul, 1)) (kk : Run l D cA N0 own cc nL ret nm R X F h k n (pc + 1) L (.int (x * y) :: st)) : Run l D cA N0 own cc nL ret nm R X F h k n (pc) L (.int y :: .int x :: st) := by
  intro p e s m args below meth c H locs ls Cc hR hS hL
  obtain ⟨hx, hb, hml, hrt, hlk, hown, hnm, hts, hK, hN, hX⟩ := id Cc
  exact lv_imul hx hb hd (kk p e s m args below meth c H locs ls Cc hR hS hL)
theorem R_iand {x y : Int32} (hd : decode cc pc = .ok (.iand, 1)) (kk : Run l D cA N0 own cc nL ret nm R X F h k n (pc + 1) L (.int (x &&& y) :: st)) : Run l D cA N0 own cc nL ret nm R X F h k n (pc) L (.int y :: .int x :: st) := by
  intro p e s m args below meth c H locs ls Cc hR hS hL
  obtain ⟨hx, hb, hml, hrt, hlk, hown, hnm, hts, hK, hN, hX⟩ := id Cc
  exact lv_iand hx hb hd (kk p e s m args below meth c H locs ls Cc hR hS hL)
theorem R_ior {x y : Int32} (hd : decode cc pc = .ok (.ior, 1)) (kk : Run l D cA N0 own cc nL ret nm R X F h k n (pc + 1) L (.int (x ||| y) :: st)) : Run l D cA N0 own cc nL ret nm R X F h k n (pc) L (.int y :: .int x :: st) := by
  intro p e s m args below meth c H locs ls Cc hR hS hL
  obtain ⟨hx, hb, hml, hrt, hlk, hown, hnm, hts, hK, hN, hX⟩ := id Cc
  exact lv_ior hx hb hd (kk p e s m args below meth c H locs ls Cc hR hS hL)
theorem R_ixor {x y : Int32} (hd : decode cc pc = .ok (.ixor, 1)) (kk : Run l D cA N0 own cc nL ret nm R X F h k n (pc + 1) L (.int (x ^^^ y) :: st)) : Run l D cA N0 own cc nL ret nm R X F h k n (pc) L (.int y :: .int x :: st) := by
  intro p e s m args below meth c H locs ls Cc hR hS hL
  obtain ⟨hx, hb, hml, hrt, hlk, hown, hnm, hts, hK, hN, hX⟩ := id Cc
  exact lv_ixor hx hb hd (kk p e s m args below meth c H locs ls Cc hR hS hL)
theorem R_ishl {x y : Int32} (hd : decode cc pc = .ok (.ishl, 1)) (kk : Run l D cA N0 own cc nL ret nm R X F h k n (pc + 1) L (.int (x <<< (y &&& 31)) :: st)) : Run l D cA N0 own cc nL ret nm R X F h k n (pc) L (.int y :: .int x :: st) := by
  intro p e s m args below meth c H locs ls Cc hR hS hL
  obtain ⟨hx, hb, hml, hrt, hlk, hown, hnm, hts, hK, hN, hX⟩ := id Cc
  exact lv_ishl hx hb hd (kk p e s m args below meth c H locs ls Cc hR hS hL)
theorem R_ishr {x y : Int32} (hd : decode cc pc = .ok (.ishr, 1)) (kk : Run l D cA N0 own cc nL ret nm R X F h k n (pc + 1) L (.int (x >>> (y &&& 31)) :: st)) : Run l D cA N0 own cc nL ret nm R X F h k n (pc) L (.int y :: .int x :: st) := by
  intro p e s m args below meth c H locs ls Cc hR hS hL
  obtain ⟨hx, hb, hml, hrt, hlk, hown, hnm, hts, hK, hN, hX⟩ := id Cc
  exact lv_ishr hx hb hd (kk p e s m args below meth c H locs ls Cc hR hS hL)
theorem R_iushr {x y : Int32} (hd : decode cc pc = .ok (.iushr, 1)) (kk : Run l D cA N0 own cc nL ret nm R X F h k n (pc + 1) L (.int ((x.toUInt32 >>> (y.toUInt32 &&& Int32.toUInt32 31)).toInt32) :: st)) : Run l D cA N0 own cc nL ret nm R X F h k n (pc) L (.int y :: .int x :: st) := by
  intro p e s m args below meth c H locs ls Cc hR hS hL
  obtain ⟨hx, hb, hml, hrt, hlk, hown, hnm, hts, hK, hN, hX⟩ := id Cc
  exact lv_iushr hx hb hd rfl (kk p e s m args below meth c H locs ls Cc hR hS hL)
theorem R_idiv {x y : Int32} (hd : decode cc pc = .ok (.idiv, 1)) (hy : ¬ y = 0) (kk : Run l D cA N0 own cc nL ret nm R X F h k n (pc + 1) L (.int (x / y) :: st)) : Run l D cA N0 own cc nL ret nm R X F h k n (pc) L (.int y :: .int x :: st) := by
  intro p e s m args below meth c H locs ls Cc hR hS hL
  obtain ⟨hx, hb, hml, hrt, hlk, hown, hnm, hts, hK, hN, hX⟩ := id Cc
  exact lv_idiv hx hb hd hy (kk p e s m args below meth c H locs ls Cc hR hS hL)
theorem R_irem {x y : Int32} (hd : decode cc pc = .ok (.irem, 1)) (hy : ¬ y = 0) (kk : Run l D cA N0 own cc nL ret nm R X F h k n (pc + 1) L (.int (x - x / y * y) :: st)) : Run l D cA N0 own cc nL ret nm R X F h k n (pc) L (.int y :: .int x :: st) := by
  intro p e s m args below meth c H locs ls Cc hR hS hL
  obtain ⟨hx, hb, hml, hrt, hlk, hown, hnm, hts, hK, hN, hX⟩ := id Cc
  exact lv_irem hx hb hd hy (kk p e s m args below meth c H locs ls Cc hR hS hL)
theorem R_i2l {x : Int32} (hd : decode cc pc = .ok (.i2l, 1)) (kk : Run l D cA N0 own cc nL ret nm R X F h k n (pc + 1) L (.long x.toInt64 :: st)) : Run l D cA N0 own cc nL ret nm R X F h k n (pc) L (.int x :: st) := by
  intro p e s m args below meth c H locs ls Cc hR hS hL
  obtain ⟨hx, hb, hml, hrt, hlk, hown, hnm, hts, hK, hN, hX⟩ := id Cc
  exact lv_i2l hx hb hd rfl (kk p e s m args below meth c H locs ls Cc hR hS hL)
theorem R_lcmp {x y : Int64} (hd : decode cc pc = .ok (.lcmp, 1)) (kk : Run l D cA N0 own cc nL ret nm R X F h k n (pc + 1) L (.int (lg_cmp x y) :: st)) : Run l D cA N0 own cc nL ret nm R X F h k n (pc) L (.long y :: .long x :: st) := by
  intro p e s m args below meth c H locs ls Cc hR hS hL
  obtain ⟨hx, hb, hml, hrt, hlk, hown, hnm, hts, hK, hN, hX⟩ := id Cc
  exact W.lcmp hx hb hd (kk p e s m args below meth c H locs ls Cc hR hS hL)
theorem R_pop {v : Value} (hd : decode cc pc = .ok (.pop, 1)) (hv : v.category = 1) (kk : Run l D cA N0 own cc nL ret nm R X F h k n (pc + 1) L (st)) : Run l D cA N0 own cc nL ret nm R X F h k n (pc) L (v :: st) := by
  intro p e s m args below meth c H locs ls Cc hR hS hL
  obtain ⟨hx, hb, hml, hrt, hlk, hown, hnm, hts, hK, hN, hX⟩ := id Cc
  exact lv_pop hx hb hd hv (kk p e s m args below meth c H locs ls Cc hR hS hL)
theorem R_dup {v : Value} (hd : decode cc pc = .ok (.dup, 1)) (hv : v.category = 1) (kk : Run l D cA N0 own cc nL ret nm R X F h k n (pc + 1) L (v :: v :: st)) : Run l D cA N0 own cc nL ret nm R X F h k n (pc) L (v :: st) := by
  intro p e s m args below meth c H locs ls Cc hR hS hL
  obtain ⟨hx, hb, hml, hrt, hlk, hown, hnm, hts, hK, hN, hX⟩ := id Cc
  exact lv_dup hx hb hd hv (kk p e s m args below meth c H locs ls Cc hR hS hL)
theorem R_dup2 {v w : Value} (hd : decode cc pc = .ok (.dup2, 1)) (hv : v.category = 1) (hw : w.category = 1) (kk : Run l D cA N0 own cc nL ret nm R X F h k n (pc + 1) L (v :: w :: v :: w :: st)) : Run l D cA N0 own cc nL ret nm R X F h k n (pc) L (v :: w :: st) := by
  intro p e s m args below meth c H locs ls Cc hR hS hL
  obtain ⟨hx, hb, hml, hrt, hlk, hown, hnm, hts, hK, hN, hX⟩ := id Cc
  exact lv_dup2_11 hx hb hd hv hw (kk p e s m args below meth c H locs ls Cc hR hS hL)
theorem R_goto {off : Int} (tgt : Nat) (hd : decode cc pc = .ok (.goto off, 3)) (ht : (pc : Int) + off = (tgt : Int)) (kk : Run l D cA N0 own cc nL ret nm R X F h k n (tgt) L (st)) : Run l D cA N0 own cc nL ret nm R X F h k n (pc) L (st) := by
  intro p e s m args below meth c H locs ls Cc hR hS hL
  obtain ⟨hx, hb, hml, hrt, hlk, hown, hnm, hts, hK, hN, hX⟩ := id Cc
  exact lv_goto hx hb hd ht (kk p e s m args below meth c H locs ls Cc hR hS hL)
theorem R_if_eq {x : Int32} {off : Int} (tgt : Nat) (hd : decode cc pc = .ok (.ifCond .eq off, 3)) (ht : (pc : Int) + off = (tgt : Int)) (kt : x = 0 → Run l D cA N0 own cc nL ret nm R X F h k n (tgt) L (st)) (kf : ¬ x = 0 → Run l D cA N0 own cc nL ret nm R X F h k n (pc + 3) L (st)) : Run l D cA N0 own cc nL ret nm R X F h k n (pc) L (.int x :: st) := by
  intro p e s m args below meth c H locs ls Cc hR hS hL
  obtain ⟨hx, hb, hml, hrt, hlk, hown, hnm, hts, hK, hN, hX⟩ := id Cc
  exact lv_if_eq hx hb hd ht (fun q => kt q p e s m args below meth c H locs ls Cc hR hS hL) (fun q => kf q p e s m args below meth c H locs ls Cc hR hS hL)
theorem R_icmp_eq {x y : Int32} {off : Int} (tgt : Nat) (hd : decode cc pc = .ok (.if_icmp .eq off, 3)) (ht : (pc : Int) + off = (tgt : Int)) (kt : x = y → Run l D cA N0 own cc nL ret nm R X F h k n (tgt) L (st)) (kf : ¬ x = y → Run l D cA N0 own cc nL ret nm R X F h k n (pc + 3) L (st)) : Run l D cA N0 own cc nL ret nm R X F h k n (pc) L (.int y :: .int x :: st) := by
  intro p e s m args below meth c H locs ls Cc hR hS hL
  obtain ⟨hx, hb, hml, hrt, hlk, hown, hnm, hts, hK, hN, hX⟩ := id Cc
  exact lv_icmp_eq hx hb hd ht (fun q => kt q p e s m args below meth c H locs ls Cc hR hS hL) (fun q => kf q p e s m args below meth c H locs ls Cc hR hS hL)
theorem R_if_ne {x : Int32} {off : Int} (tgt : Nat) (hd : decode cc pc = .ok (.ifCond .ne off, 3)) (ht : (pc : Int) + off = (tgt : Int)) (kt : ¬ x = 0 → Run l D cA N0 own cc nL ret nm R X F h k n (tgt) L (st)) (kf : x = 0 → Run l D cA N0 own cc nL ret nm R X F h k n (pc + 3) L (st)) : Run l D cA N0 own cc nL ret nm R X F h k n (pc) L (.int x :: st) := by
  intro p e s m args below meth c H locs ls Cc hR hS hL
  obtain ⟨hx, hb, hml, hrt, hlk, hown, hnm, hts, hK, hN, hX⟩ := id Cc
  exact lv_if_ne hx hb hd ht (fun q => kt q p e s m args below meth c H locs ls Cc hR hS hL) (fun q => kf q p e s m args below meth c H locs ls Cc hR hS hL)
theorem R_icmp_ne {x y : Int32} {off : Int} (tgt : Nat) (hd : decode cc pc = .ok (.if_icmp .ne off, 3)) (ht : (pc : Int) + off = (tgt : Int)) (kt : ¬ x = y → Run l D cA N0 own cc nL ret nm R X F h k n (tgt) L (st)) (kf : x = y → Run l D cA N0 own cc nL ret nm R X F h k n (pc + 3) L (st)) : Run l D cA N0 own cc nL ret nm R X F h k n (pc) L (.int y :: .int x :: st) := by
  intro p e s m args below meth c H locs ls Cc hR hS hL
  obtain ⟨hx, hb, hml, hrt, hlk, hown, hnm, hts, hK, hN, hX⟩ := id Cc
  exact lv_icmp_ne hx hb hd ht (fun q => kt q p e s m args below meth c H locs ls Cc hR hS hL) (fun q => kf q p e s m args below meth c H locs ls Cc hR hS hL)
theorem R_if_lt {x : Int32} {off : Int} (tgt : Nat) (hd : decode cc pc = .ok (.ifCond .lt off, 3)) (ht : (pc : Int) + off = (tgt : Int)) (kt : x < 0 → Run l D cA N0 own cc nL ret nm R X F h k n (tgt) L (st)) (kf : ¬ x < 0 → Run l D cA N0 own cc nL ret nm R X F h k n (pc + 3) L (st)) : Run l D cA N0 own cc nL ret nm R X F h k n (pc) L (.int x :: st) := by
  intro p e s m args below meth c H locs ls Cc hR hS hL
  obtain ⟨hx, hb, hml, hrt, hlk, hown, hnm, hts, hK, hN, hX⟩ := id Cc
  exact lv_if_lt hx hb hd ht (fun q => kt q p e s m args below meth c H locs ls Cc hR hS hL) (fun q => kf q p e s m args below meth c H locs ls Cc hR hS hL)
theorem R_icmp_lt {x y : Int32} {off : Int} (tgt : Nat) (hd : decode cc pc = .ok (.if_icmp .lt off, 3)) (ht : (pc : Int) + off = (tgt : Int)) (kt : x < y → Run l D cA N0 own cc nL ret nm R X F h k n (tgt) L (st)) (kf : ¬ x < y → Run l D cA N0 own cc nL ret nm R X F h k n (pc + 3) L (st)) : Run l D cA N0 own cc nL ret nm R X F h k n (pc) L (.int y :: .int x :: st) := by
  intro p e s m args below meth c H locs ls Cc hR hS hL
  obtain ⟨hx, hb, hml, hrt, hlk, hown, hnm, hts, hK, hN, hX⟩ := id Cc
  exact lv_icmp_lt hx hb hd ht (fun q => kt q p e s m args below meth c H locs ls Cc hR hS hL) (fun q => kf q p e s m args below meth c H locs ls Cc hR hS hL)
theorem R_if_ge {x : Int32} {off : Int} (tgt : Nat) (hd : decode cc pc = .ok (.ifCond .ge off, 3)) (ht : (pc : Int) + off = (tgt : Int)) (kt : 0 ≤ x → Run l D cA N0 own cc nL ret nm R X F h k n (tgt) L (st)) (kf : ¬ 0 ≤ x → Run l D cA N0 own cc nL ret nm R X F h k n (pc + 3) L (st)) : Run l D cA N0 own cc nL ret nm R X F h k n (pc) L (.int x :: st) := by
  intro p e s m args below meth c H locs ls Cc hR hS hL
  obtain ⟨hx, hb, hml, hrt, hlk, hown, hnm, hts, hK, hN, hX⟩ := id Cc
  exact lv_if_ge hx hb hd ht (fun q => kt q p e s m args below meth c H locs ls Cc hR hS hL) (fun q => kf q p e s m args below meth c H locs ls Cc hR hS hL)
theorem R_icmp_ge {x y : Int32} {off : Int} (tgt : Nat) (hd : decode cc pc = .ok (.if_icmp .ge off, 3)) (ht : (pc : Int) + off = (tgt : Int)) (kt : y ≤ x → Run l D cA N0 own cc nL ret nm R X F h k n (tgt) L (st)) (kf : ¬ y ≤ x → Run l D cA N0 own cc nL ret nm R X F h k n (pc + 3) L (st)) : Run l D cA N0 own cc nL ret nm R X F h k n (pc) L (.int y :: .int x :: st) := by
  intro p e s m args below meth c H locs ls Cc hR hS hL
  obtain ⟨hx, hb, hml, hrt, hlk, hown, hnm, hts, hK, hN, hX⟩ := id Cc
  exact lv_icmp_ge hx hb hd ht (fun q => kt q p e s m args below meth c H locs ls Cc hR hS hL) (fun q => kf q p e s m args below meth c H locs ls Cc hR hS hL)
theorem R_if_gt {x : Int32} {off : Int} (tgt : Nat) (hd : decode cc pc = .ok (.ifCond .gt off, 3)) (ht : (pc : Int) + off = (tgt : Int)) (kt : 0 < x → Run l D cA N0 own cc nL ret nm R X F h k n (tgt) L (st)) (kf : ¬ 0 < x → Run l D cA N0 own cc nL ret nm R X F h k n (pc + 3) L (st)) : Run l D cA N0 own cc nL ret nm R X F h k n (pc) L (.int x :: st) := by
  intro p e s m args below meth c H locs ls Cc hR hS hL
  obtain ⟨hx, hb, hml, hrt, hlk, hown, hnm, hts, hK, hN, hX⟩ := id Cc
  exact lv_if_gt hx hb hd ht (fun q => kt q p e s m args below meth c H locs ls Cc hR hS hL) (fun q => kf q p e s m args below meth c H locs ls Cc hR hS hL)
theorem R_icmp_gt {x y : Int32} {off : Int} (tgt : Nat) (hd : decode cc pc = .ok (.if_icmp .gt off, 3)) (ht : (pc : Int) + off = (tgt : Int)) (kt : y < x → Run l D cA N0 own cc nL ret nm R X F h k n (tgt) L (st)) (kf : ¬ y < x → Run l D cA N0 own cc nL ret nm R X F h k n (pc + 3) L (st)) : Run l D cA N0 own cc nL ret nm R X F h k n (pc) L (.int y :: .int x :: st) := by
  intro p e s m args below meth c H locs ls Cc hR hS hL
  obtain ⟨hx, hb, hml, hrt, hlk, hown, hnm, hts, hK, hN, hX⟩ := id Cc
  exact lv_icmp_gt hx hb hd ht (fun q => kt q p e s m args below meth c H locs ls Cc hR hS hL) (fun q => kf q p e s m args below meth c H locs ls Cc hR hS hL)
theorem R_if_le {x : Int32} {off : Int} (tgt : Nat) (hd : decode cc pc = .ok (.ifCond .le off, 3)) (ht : (pc : Int) + off = (tgt : Int)) (kt : x ≤ 0 → Run l D cA N0 own cc nL ret nm R X F h k n (tgt) L (st)) (kf : ¬ x ≤ 0 → Run l D cA N0 own cc nL ret nm R X F h k n (pc + 3) L (st)) : Run l D cA N0 own cc nL ret nm R X F h k n (pc) L (.int x :: st) := by
  intro p e s m args below meth c H locs ls Cc hR hS hL
  obtain ⟨hx, hb, hml, hrt, hlk, hown, hnm, hts, hK, hN, hX⟩ := id Cc
  exact lv_if_le hx hb hd ht (fun q => kt q p e s m args below meth c H locs ls Cc hR hS hL) (fun q => kf q p e s m args below meth c H locs ls Cc hR hS hL)
theorem R_icmp_le {x y : Int32} {off : Int} (tgt : Nat) (hd : decode cc pc = .ok (.if_icmp .le off, 3)) (ht : (pc : Int) + off = (tgt : Int)) (kt : x ≤ y → Run l D cA N0 own cc nL ret nm R X F h k n (tgt) L (st)) (kf : ¬ x ≤ y → Run l D cA N0 own cc nL ret nm R X F h k n (pc + 3) L (st)) : Run l D cA N0 own cc nL ret nm R X F h k n (pc) L (.int y :: .int x :: st) := by
  intro p e s m args below meth c H locs ls Cc hR hS hL
  obtain ⟨hx, hb, hml, hrt, hlk, hown, hnm, hts, hK, hN, hX⟩ := id Cc
  exact lv_icmp_le hx hb hd ht (fun q => kt q p e s m args below meth c H locs ls Cc hR hS hL) (fun q => kf q p e s m args below meth c H locs ls Cc hR hS hL)
theorem R_ifnull {x : Nat} {off : Int} (hd : decode cc pc = .ok (.ifnull off, 3)) (kk : Run l D cA N0 own cc nL ret nm R X F h k n (pc + 3) L (st)) : Run l D cA N0 own cc nL ret nm R X F h k n (pc) L (.ref x :: st) := by
  intro p e s m args below meth c H locs ls Cc hR hS hL
  obtain ⟨hx, hb, hml, hrt, hlk, hown, hnm, hts, hK, hN, hX⟩ := id Cc
  exact lv_ifnull hx hb hd (kk p e s m args below meth c H locs ls Cc hR hS hL)
theorem R_ifnonnull {x : Nat} {off : Int} (tgt : Nat) (hd : decode cc pc = .ok (.ifnonnull off, 3)) (ht : (pc : Int) + off = (tgt : Int)) (kk : Run l D cA N0 own cc nL ret nm R X F h k n (tgt) L (st)) : Run l D cA N0 own cc nL ret nm R X F h k n (pc) L (.ref x :: st) := by
  intro p e s m args below meth c H locs ls Cc hR hS hL
  obtain ⟨hx, hb, hml, hrt, hlk, hown, hnm, hts, hK, hN, hX⟩ := id Cc
  exact lv_ifnonnull hx hb hd ht (kk p e s m args below meth c H locs ls Cc hR hS hL)
theorem R_ifnullN {off : Int} (tgt : Nat) (hd : decode cc pc = .ok (.ifnull off, 3)) (ht : (pc : Int) + off = (tgt : Int)) (kk : Run l D cA N0 own cc nL ret nm R X F h k n (tgt) L (st)) : Run l D cA N0 own cc nL ret nm R X F h k n (pc) L (.null :: st) := by
  intro p e s m args below meth c H locs ls Cc hR hS hL
  obtain ⟨hx, hb, hml, hrt, hlk, hown, hnm, hts, hK, hN, hX⟩ := id Cc
  exact lv_ifnullN hx hb hd ht (kk p e s m args below meth c H locs ls Cc hR hS hL)
theorem R_ifnonnullN {off : Int} (hd : decode cc pc = .ok (.ifnonnull off, 3)) (kk : Run l D cA N0 own cc nL ret nm R X F h k n (pc + 3) L (st)) : Run l D cA N0 own cc nL ret nm R X F h k n (pc) L (.null :: st) := by
  intro p e s m args below meth c H locs ls Cc hR hS hL
  obtain ⟨hx, hb, hml, hrt, hlk, hown, hnm, hts, hK, hN, hX⟩ := id Cc
  exact lv_ifnonnullN hx hb hd (kk p e s m args below meth c H locs ls Cc hR hS hL)
theorem R_tableOut {dflt lo hi : Int} {offs : Array Int} {len : Nat} {x : Int32} (tgt : Nat) (hd : decode cc pc = .ok (.tableswitch dflt lo hi offs, len)) (hq : x.toInt < lo ∨ hi < x.toInt) (ht : (pc : Int) + dflt = (tgt : Int)) (kk : Run l D cA N0 own cc nL ret nm R X F h k n (tgt) L (st)) : Run l D cA N0 own cc nL ret nm R X F h k n (pc) L (.int x :: st) := by
  intro p e s m args below meth c H locs ls Cc hR hS hL
  obtain ⟨hx, hb, hml, hrt, hlk, hown, hnm, hts, hK, hN, hX⟩ := id Cc
  exact lv_tableOut hx hb hd hq ht (kk p e s m args below meth c H locs ls Cc hR hS hL)
theorem R_tableIn {dflt lo hi : Int} {offs : Array Int} {len : Nat} {x : Int32} {off : Int} (tgt : Nat) (hd : decode cc pc = .ok (.tableswitch dflt lo hi offs, len)) (h1 : ¬ x.toInt < lo) (h2 : ¬ hi < x.toInt) (ho : offs[(x.toInt - lo).toNat]? = some off) (ht : (pc : Int) + off = (tgt : Int)) (kk : Run l D cA N0 own cc nL ret nm R X F h k n (tgt) L (st)) : Run l D cA N0 own cc nL ret nm R X F h k n (pc) L (.int x :: st) := by
  intro p e s m args below meth c H locs ls Cc hR hS hL
  obtain ⟨hx, hb, hml, hrt, hlk, hown, hnm, hts, hK, hN, hX⟩ := id Cc
  exact lv_tableIn hx hb hd h1 h2 ho ht (kk p e s m args below meth c H locs ls Cc hR hS hL)
theorem R_widen {k2 n2 : Nat} (h1 : k ≤ k2) (h2 : n ≤ n2) (kk : Run l D cA N0 own cc nL ret nm R X F h k2 n2 (pc) L (st)) : Run l D cA N0 own cc nL ret nm R X F h k n (pc) L (st) := by
  intro p e s m args below meth c H locs ls Cc hR hS hL
  obtain ⟨hx, hb, hml, hrt, hlk, hown, hnm, hts, hK, hN, hX⟩ := id Cc
  exact W.widen h1 h2 (kk p e s m args below meth c H locs ls Cc hR hS hL)
theorem Rh.one {D : va_G} {cA : Nat → ClassId} {N0 : Nat} {h : AH} {H : Heap} (hR : Rh D cA N0 h H) {a : Nat} {e0 : AE} (ha : h.2 a = some e0) : va_P D vwCl [(a, toE cA e0)] H := fun q0 q hq => by
  have hz : q0 < 1 := (List.getElem?_eq_some_iff.mp hq).1
  rw [show q0 = 0 by omega] at hq
  cases hq
  exact (hR.2 a e0 ha).2
theorem R_get {a ci i idx N : Nat} {T : u_T} {C : String} {fs : List Value} {v : Value} (hd : decode cc pc = .ok (.getfield idx, 3)) (hw : Cond.fieldLink own idx (T i).1 (T i).2.1 (T i).2.2.1 ∈ WSa) (hc : vwCl[ci]? = some (C, T, N)) (hin : ∀ w ∈ u_ws C T N, w ∈ WSa) (hi : i < N) (ha : h.2 a = some (.inr (ci, fs))) (hv : fs[i]? = some v) (kk : Run l D cA N0 own cc nL ret nm R X F h k n (pc + 3) L (v :: st)) : Run l D cA N0 own cc nL ret nm R X F h k n (pc) L (.ref a :: st) := by
  intro p e s m args below meth c H locs ls Cc hR hS hL
  obtain ⟨hx, hb, hml, hrt, hlk, hown, hnm, hts, hK, hN, hX⟩ := id Cc
  exact va_get hx hb hts hin hown hK.1 (hR.one ha) 0 rfl hc i hi (hts _ hw) (fun _ q => q) hv hd (kk p e s m args below meth c H locs ls Cc hR hS hL)
theorem R_put {a ci i idx N : Nat} {T : u_T} {C : String} {fs : List Value} {v : Value} {ty : Nat → FieldType} (hd : decode cc pc = .ok (.putfield idx, 3)) (hw : Cond.fieldLink own idx (T i).1 (T i).2.1 (T i).2.2.1 ∈ WSa) (hc : vwCl[ci]? = some (C, T, N)) (hin : ∀ w ∈ u_ws C T N, w ∈ WSa) (hty : ∀ j, j < N → parseFieldDescriptor (T j).2.2.1 = some (ty j)) (hap : ∀ a, a < N → ∀ b, b < N → a ≠ b → (T a).2.1 ≠ (T b).2.1) (hi : i < N) (hfin : (T i).2.2.2 = false) (hnar : narrow (ty i) v = v) (hfit : fits (ty i) v = true) (ha : h.2 a = some (.inr (ci, fs))) (hl : i < fs.length) (kk : Run l D cA N0 own cc nL ret nm R X F (hput h a (.inr (ci, fs.set i v))) k n (pc + 3) L (st)) : Run l D cA N0 own cc nL ret nm R X F h k n (pc) L (v :: .ref a :: st) := by
  intro p e s m args below meth c H locs ls Cc hR hS hL
  obtain ⟨hx, hb, hml, hrt, hlk, hown, hnm, hts, hK, hN, hX⟩ := id Cc
  have hap2 := va_apart (own := own) hts hin ty hty hap hK.1 hc
  obtain ⟨hNa, r, h1, cell, q1, q2, q3, q4⟩ := hR.2 a _ ha
  have hr : r = (C, T, N) := Option.some.inj (h1.symm.trans hc)
  subst hr
  obtain ⟨hSi, hfc, kC, hkC, hkind⟩ := hK.1.1 ci _ hc
  obtain ⟨cf, kf, fi, f, hif, hsl⟩ := hSi i hi
  have hty2 := hty i hi
  have hlay := hts _ (hin _ (u_in_lay hi))
  unfold u_lay at hlay
  rw [if_neg (by rw [hfin]; decide)] at hlay
  refine W.putK hx hb (f := f) ⟨hown, hts _ hw, ⟨_, _, _, hif⟩, (u_facts hfc hkC (u_lays hts hin hi) hif).1⟩ (by rw [q2]; exact u_store hfc hkC hkind hlay hif hty2 hnar hfit) q1 q3 (by rw [hsl]; exact k2_hasslot (q4 i hi)) rfl rfl hd fun H' e1 e2 e3 => ?_
  rw [hsl] at e1 ⊢
  exact kk p e s m args below meth c H' _ ls Cc (hR.put hNa ⟨_, hc, t_OB.to (V := updV (vp_V fs) i v) ⟨_, e1, q2, q3, t_set q4 hap2 hi v⟩ (fun j _ => vp_updV_set hl v j)⟩ e2 e3) (hS.put e2 e3 hNa) hL
theorem R_putF {a ci i idx N : Nat} {T : u_T} {C : String} {fs : List Value} {v : Value} {ty : Nat → FieldType} (hd : decode cc pc = .ok (.putfield idx, 3)) (hw : Cond.fieldLink own idx (T i).1 (T i).2.1 (T i).2.2.1 ∈ WSa) (hc : vwCl[ci]? = some (C, T, N)) (hin : ∀ w ∈ u_ws C T N, w ∈ WSa) (hty : ∀ j, j < N → parseFieldDescriptor (T j).2.2.1 = some (ty j)) (hap : ∀ a, a < N → ∀ b, b < N → a ≠ b → (T a).2.1 ≠ (T b).2.1) (hi : i < N) (hfin : (T i).2.2.2 = true) (hnm0 : nm = "<init>") (hdecl : (T i).1 = own) (hnar : narrow (ty i) v = v) (hfit : fits (ty i) v = true) (ha : h.2 a = some (.inr (ci, fs))) (hl : i < fs.length) (kk : Run l D cA N0 own cc nL ret nm R X F (hput h a (.inr (ci, fs.set i v))) k n (pc + 3) L (st)) : Run l D cA N0 own cc nL ret nm R X F h k n (pc) L (v :: .ref a :: st) := by
  intro p e s m args below meth c H locs ls Cc hR hS hL
  obtain ⟨hx, hb, hml, hrt, hlk, hown, hnm, hts, hK, hN, hX⟩ := id Cc
  have hap2 := va_apart (own := own) hts hin ty hty hap hK.1 hc
  obtain ⟨hNa, r, h1, cell, q1, q2, q3, q4⟩ := hR.2 a _ ha
  have hr : r = (C, T, N) := Option.some.inj (h1.symm.trans hc)
  subst hr
  obtain ⟨hSi, hfc, kC, hkC, hkind⟩ := hK.1.1 ci _ hc
  obtain ⟨cf, kf, fi, f, hif, hsl⟩ := hSi i hi
  have hty2 := hty i hi
  have hlay := hts _ (hin _ (u_in_lay hi))
  unfold u_lay at hlay
  rw [if_pos hfin] at hlay
  have hcf : m.cls = cf := by
    obtain ⟨_, _, c', _, _, _, -, -, hf', -, -, -, hown2, -⟩ := Cond.laysFinal_spec hlay
    have e1 : c' = cf := by have := hif.symm.trans hf'; simp at this; exact this.1.symm
    rw [hdecl] at hown2
    rw [← e1]; exact Option.some.inj (hown.symm.trans hown2)
  refine W.putFinK hx hb hown (hts _ hw) hif (u_facts hfc hkC (u_lays hts hin hi) hif).1 hcf (hnm.trans hnm0) (by rw [q2]; exact u_fits hfc hkC hkind (Or.inr hlay) hif hty2 hnar hfit) q1 q3 (by rw [hsl]; exact k2_hasslot (q4 i hi)) rfl rfl hd fun H' e1 e2 e3 => ?_
  rw [hsl] at e1 ⊢
  exact kk p e s m args below meth c H' _ ls Cc (hR.put hNa ⟨_, hc, t_OB.to (V := updV (vp_V fs) i v) ⟨_, e1, q2, q3, t_set q4 hap2 hi v⟩ (fun j _ => vp_updV_set hl v j)⟩ e2 e3) (hS.put e2 e3 hNa) hL
theorem R_alen {a t : Nat} {x : vp_A} {v : Int32} (hd : decode cc pc = .ok (.arraylength, 1)) (ha : h.2 a = some (.inl (t, x))) (ht : t < 4) (hv : Int32.ofNat x.1 = v) (kk : Run l D cA N0 own cc nL ret nm R X F h k n (pc + 1) L (.int v :: st)) : Run l D cA N0 own cc nL ret nm R X F h k n (pc) L (.ref a :: st) := by
  intro p e s m args below meth c H locs ls Cc hR hS hL
  obtain ⟨hx, hb, hml, hrt, hlk, hown, hnm, hts, hK, hN, hX⟩ := id Cc
  have h4 : ∃ ty, (atys cA)[t]? = some (cA t, ty) := by
    rcases (by omega : t = 0 ∨ t = 1 ∨ t = 2 ∨ t = 3) with q | q | q | q <;> subst q <;> exact ⟨_, rfl⟩
  obtain ⟨ty, h4⟩ := h4
  exact va_alen hx hb hK.1 (hR.one ha) 0 t rfl h4 hv hd (kk p e s m args below meth c H locs ls Cc hR hS hL)
theorem R_iald {a N : Nat} {f : Nat → Int32} {j : Int32} (hd : decode cc pc = .ok (.iaload, 1)) (ha : h.2 a = some (.inl (0, N, .inl f))) (hj : vp_in j N) (kk : Run l D cA N0 own cc nL ret nm R X F h k n (pc + 1) L (.int (f j.toNatClampNeg) :: st)) : Run l D cA N0 own cc nL ret nm R X F h k n (pc) L (.int j :: .ref a :: st) := by
  intro p e s m args below meth c H locs ls Cc hR hS hL
  obtain ⟨hx, hb, hml, hrt, hlk, hown, hnm, hts, hK, hN, hX⟩ := id Cc
  exact va_iald hx hb hK.1 (hR.one ha) 0 0 rfl rfl hj hd (kk p e s m args below meth c H locs ls Cc hR hS hL)
theorem R_aald2 {a N : Nat} {f : Nat → Option Nat} {j : Int32} (hd : decode cc pc = .ok (.aaload, 1)) (ha : h.2 a = some (.inl (2, N, .inr (.inr (.inr (.inr f)))))) (hj : vp_in j N) (kk : Run l D cA N0 own cc nL ret nm R X F h k n (pc + 1) L (va_rf (f j.toNatClampNeg) :: st)) : Run l D cA N0 own cc nL ret nm R X F h k n (pc) L (.int j :: .ref a :: st) := by
  intro p e s m args below meth c H locs ls Cc hR hS hL
  obtain ⟨hx, hb, hml, hrt, hlk, hown, hnm, hts, hK, hN, hX⟩ := id Cc
  exact va_aldq (C := RX7) hx hb hK.1 (hR.one ha) 0 2 rfl rfl hj hd (kk p e s m args below meth c H locs ls Cc hR hS hL)
theorem R_aald3 {a N : Nat} {f : Nat → Option Nat} {j : Int32} (hd : decode cc pc = .ok (.aaload, 1)) (ha : h.2 a = some (.inl (3, N, .inr (.inr (.inr (.inr f)))))) (hj : vp_in j N) (kk : Run l D cA N0 own cc nL ret nm R X F h k n (pc + 1) L (va_rf (f j.toNatClampNeg) :: st)) : Run l D cA N0 own cc nL ret nm R X F h k n (pc) L (.int j :: .ref a :: st) := by
  intro p e s m args below meth c H locs ls Cc hR hS hL
  obtain ⟨hx, hb, hml, hrt, hlk, hown, hnm, hts, hK, hN, hX⟩ := id Cc
  exact va_aldq (C := RX8) hx hb hK.1 (hR.one ha) 0 3 rfl rfl hj hd (kk p e s m args below meth c H locs ls Cc hR hS hL)
theorem R_iast {a N : Nat} {f : Nat → Int32} {j x : Int32} (hd : decode cc pc = .ok (.iastore, 1)) (ha : h.2 a = some (.inl (0, N, .inl f))) (hj : vp_in j N) (kk : Run l D cA N0 own cc nL ret nm R X F (hput h a (.inl (0, N, .inl (upd f j.toNatClampNeg x)))) k n (pc + 1) L (st)) : Run l D cA N0 own cc nL ret nm R X F h k n (pc) L (.int x :: .int j :: .ref a :: st) := by
  intro p e s m args below meth c H locs ls Cc hR hS hL
  obtain ⟨hx, hb, hml, hrt, hlk, hown, hnm, hts, hK, hN, hX⟩ := id Cc
  have hNa := (hR.2 a _ ha).1
  refine W.iast hx hb (hR.2 a _ ha).2 ((hK.1.2 0 _ rfl).1 N (fun j => .int (f j))) (fun q => by cases q) (by show ¬ (j < 0 ∨ (arrV _ _ _).slots.size ≤ _); rw [arrV_size]; exact hj) rfl rfl hd fun H1 e1 z oq => ?_
  refine kk p e s m args below meth c H1 _ ls Cc (hR.put hNa ?_ z oq) (hS.put z oq hNa) hL
  show H1[a]? = some (vp_cell _ _)
  rw [e1]
  show some ((vp_cell _ (N, .inl f)).setSlot _ _) = _
  rw [vp_cell_i, vp_cell_i, arrV_store]
  congr 2
  funext q
  by_cases hq : q = j.toNatClampNeg
  · subst hq
    simp [updV, upd]
  · simp [updV, upd, hq]
theorem R_aast2 {a N v : Nat} {f : Nat → Option Nat} {fs : List Value} {j : Int32} (hd : decode cc pc = .ok (.aastore, 1)) (ha : h.2 a = some (.inl (2, N, .inr (.inr (.inr (.inr f)))))) (hj : vp_in j N) (hv : h.2 v = some (.inr (5, fs))) (kk : Run l D cA N0 own cc nL ret nm R X F (hput h a (.inl (2, N, .inr (.inr (.inr (.inr (va_up f j.toNatClampNeg (some v)))))))) k n (pc + 1) L (st)) : Run l D cA N0 own cc nL ret nm R X F h k n (pc) L (.ref v :: .int j :: .ref a :: st) := by
  intro p e s m args below meth c H locs ls Cc hR hS hL
  obtain ⟨hx, hb, hml, hrt, hlk, hown, hnm, hts, hK, hN, hX⟩ := id Cc
  have hNa := (hR.2 a _ ha).1
  have hlt : j.toNatClampNeg < N := Nat.not_le.mp fun q => hj (Or.inr q)
  have h0 : ¬ j < 0 := fun q => hj (Or.inl q)
  obtain ⟨-, r', hr', cellV, g1, g2, g3, -⟩ := hR.2 v _ hv
  have hcls := (hK.1.1 5 _ rfl).2
  obtain ⟨kA, comp, k1, k2, k3, -⟩ := (hK.1.2 2 _ rfl).2
  have hcomp : comp = D.1 5 := Option.some.inj (k3.symm.trans hcls.1)
  subst hcomp
  obtain ⟨kC, hkC, -⟩ := hcls.2
  refine W.aast hx hb (hR.2 a _ ha).2 (fun q h => by cases h) (fun h => by cases h) k1 k2 rfl hkC ⟨h0, by show _ < (arrV _ _ _).slots.size; rw [arrV_size]; exact hlt⟩ g1 (fun q h => by rw [g3] at h; cases h) (by rw [g2]; exact hkC) (by rw [g2]; exact va_assign hcls) rfl rfl hd fun H1 e1 z oq => ?_
  refine kk p e s m args below meth c H1 _ ls Cc (hR.put hNa ?_ z oq) (hS.put z oq hNa) hL
  show H1[a]? = some (vp_cell _ _)
  rw [e1]
  show some ((vp_cell _ (N, .inr (.inr (.inr (.inr f))))).setSlot _ _) = _
  rw [vp_cell_q, vp_cell_q, arrV_store]
  congr 2
  funext q
  by_cases hq : q = j.toNatClampNeg
  · subst hq
    simp [updV, va_up, va_rf]
  · simp [updV, va_up, hq]
theorem R_aast3 {a N v : Nat} {f : Nat → Option Nat} {fs : List Value} {j : Int32} (hd : decode cc pc = .ok (.aastore, 1)) (ha : h.2 a = some (.inl (3, N, .inr (.inr (.inr (.inr f)))))) (hj : vp_in j N) (hv : h.2 v = some (.inr (6, fs))) (kk : Run l D cA N0 own cc nL ret nm R X F (hput h a (.inl (3, N, .inr (.inr (.inr (.inr (va_up f j.toNatClampNeg (some v)))))))) k n (pc + 1) L (st)) : Run l D cA N0 own cc nL ret nm R X F h k n (pc) L (.ref v :: .int j :: .ref a :: st) := by
  intro p e s m args below meth c H locs ls Cc hR hS hL
  obtain ⟨hx, hb, hml, hrt, hlk, hown, hnm, hts, hK, hN, hX⟩ := id Cc
  have hNa := (hR.2 a _ ha).1
  have hlt : j.toNatClampNeg < N := Nat.not_le.mp fun q => hj (Or.inr q)
  have h0 : ¬ j < 0 := fun q => hj (Or.inl q)
  obtain ⟨-, r', hr', cellV, g1, g2, g3, -⟩ := hR.2 v _ hv
  have hcls := (hK.1.1 6 _ rfl).2
  obtain ⟨kA, comp, k1, k2, k3, -⟩ := (hK.1.2 3 _ rfl).2
  have hcomp : comp = D.1 6 := Option.some.inj (k3.symm.trans hcls.1)
  subst hcomp
  obtain ⟨kC, hkC, -⟩ := hcls.2
  refine W.aast hx hb (hR.2 a _ ha).2 (fun q h => by cases h) (fun h => by cases h) k1 k2 rfl hkC ⟨h0, by show _ < (arrV _ _ _).slots.size; rw [arrV_size]; exact hlt⟩ g1 (fun q h => by rw [g3] at h; cases h) (by rw [g2]; exact hkC) (by rw [g2]; exact va_assign hcls) rfl rfl hd fun H1 e1 z oq => ?_
  refine kk p e s m args below meth c H1 _ ls Cc (hR.put hNa ?_ z oq) (hS.put z oq hNa) hL
  show H1[a]? = some (vp_cell _ _)
  rw [e1]
  show some ((vp_cell _ (N, .inr (.inr (.inr (.inr f))))).setSlot _ _) = _
  rw [vp_cell_q, vp_cell_q, arrV_store]
  congr 2
  funext q
  by_cases hq : q = j.toNatClampNeg
  · subst hq
    simp [updV, va_up, va_rf]
  · simp [updV, va_up, hq]
theorem vsp {N0 : Nat} {H0 H H1 : Heap} {locs : List Loc} (hS : va_S (fun q => N0 ≤ q) H0 H locs) (z : H1.size = H.size + 1) (o1 : ∀ q : Nat, q < H.size → H1[q]? = H[q]?) : va_S (fun q => N0 ≤ q) H0 H1 locs :=
  ⟨Nat.le_trans hS.1 (by omega), fun x h1 h2 => (o1 x (Nat.lt_of_lt_of_le h1 hS.1)).trans (hS.2.1 x h1 h2), hS.2.2⟩
theorem R_new {C : String} {T : u_T} {N ci idx : Nat} {fs : List Value} {ty : Nat → FieldType} (hd : decode cc pc = .ok (.new idx, 3)) (hw1 : Cond.classLink own idx C ∈ WSa) (hw2 : Cond.instantiable C N ∈ WSa) (hw3 : Cond.initialized C ∈ WSa) (hc : vwCl[ci]? = some (C, T, N)) (hin : ∀ w ∈ u_ws C T N, w ∈ WSa) (hty : ∀ j, j < N → parseFieldDescriptor (T j).2.2.1 = some (ty j)) (hfs : ∀ j, j < N → defaultValue (ty j) = vp_V fs j) (hcells : k + 1 ≤ R.cells) (hslots : n + N ≤ R.slots) (kk : Run l D cA N0 own cc nL ret nm R X F (hnew h (.inr (ci, fs))) (k + 1) (n + N) (pc + 3) L (.ref h.1 :: st)) : Run l D cA N0 own cc nL ret nm R X F h k n (pc) L (st) := by
  intro p e s m args below meth c H locs ls Cc hR hS hL
  obtain ⟨hx, hb, hml, hrt, hlk, hown, hnm, hts, hK, hN, hX⟩ := id Cc
  have hKn := hK.1.1 ci _ hc
  refine W.newcK hx hb hown (hts _ hw1) (hts _ hw2) (hts _ hw3) rfl hd hcells hslots hKn.2.1 rfl fun H1 kC hkC e1 z1 o1 => ?_
  have hz : H.size = h.1 := hR.1
  have hq := kk p e s m args below meth c H1 locs ls Cc (hR.new (Nat.le_trans hN hS.1) ⟨_, hc, (u_born ty hts hin hKn hkC e1 hty).to hfs⟩ z1 o1) (vsp hS z1 o1) hL
  rw [← hz] at hq
  exact hq
theorem R_newi {x : Int32} {N : Nat} (hd : decode cc pc = .ok (.newarray .int, 2)) (hw : Cond.arrayClass .int ∈ WSa) (hn : ¬ x < 0) (hNx : x.toNatClampNeg = N) (hby : N * componentBytes .int ≤ 536870912) (hcells : k + 1 ≤ R.cells) (hslots : n + N ≤ R.slots) (kk : Run l D cA N0 own cc nL ret nm R X F (hnew h (.inl (0, N, .inl (fun _ => 0)))) (k + 1) (n + N) (pc + 2) L (.ref h.1 :: st)) : Run l D cA N0 own cc nL ret nm R X F h k n (pc) L (.int x :: st) := by
  intro p e s m args below meth c H locs ls Cc hR hS hL
  obtain ⟨hx, hb, hml, hrt, hlk, hown, hnm, hts, hK, hN, hX⟩ := id Cc
  refine va_newaK (atype := .int) hx hb (hts _ hw) rfl hd rfl hn hNx hby hcells hslots rfl fun H1 cA1 e1 z1 o1 hAr hNm => ?_
  have hz : H.size = h.1 := hR.1
  have hRA := (hK.1.2 0 _ rfl).2
  have hcA : cA1 = cA 0 := Option.some.inj (hNm.symm.trans hRA)
  subst hcA
  have hq := kk p e s m args below meth c H1 locs ls Cc (hR.new (Nat.le_trans hN hS.1) (by show H1[H.size]? = some (vp_cell _ _); rw [e1]; rfl) z1 o1) (vsp hS z1 o1) hL
  rw [← hz] at hq
  exact hq
theorem R_newq2 {x : Int32} {N idx : Nat} (hd : decode cc pc = .ok (.anewarray idx, 3)) (hw : Cond.classLink own idx RX7 ∈ WSa) (hn : ¬ x < 0) (hNx : x.toNatClampNeg = N) (hby : N * 4 ≤ 536870912) (hcells : k + 1 ≤ R.cells) (hslots : n + N ≤ R.slots) (kk : Run l D cA N0 own cc nL ret nm R X F (hnew h (.inl (2, N, .inr (.inr (.inr (.inr (fun _ => none))))))) (k + 1) (n + N) (pc + 3) L (.ref h.1 :: st)) : Run l D cA N0 own cc nL ret nm R X F h k n (pc) L (.int x :: st) := by
  intro p e s m args below meth c H locs ls Cc hR hS hL
  obtain ⟨hx, hb, hml, hrt, hlk, hown, hnm, hts, hK, hN, hX⟩ := id Cc
  subst hNx
  refine W.anew hx hb hown (hts _ hw) (va_AO.use hK.2.2.2.2.2.2.1) rfl hd rfl hn hby hcells hslots fun cA1 kA comp f1 f2 f3 f4 => ?_
  generalize hH1 : H.push ({ cls := cA1, slots := Array.replicate x.toNatClampNeg .null, vm := .none } : Cell) = H1
  have z1 : H1.size = H.size + 1 := by rw [← hH1, Array.size_push]
  have e1 : H1[H.size]? = some (arrV cA1 x.toNatClampNeg (fun _ => .null)) := by rw [← hH1, Array.getElem?_push_size, ← arrV_new]
  have o1 : ∀ q : Nat, q < H.size → H1[q]? = H[q]? := fun q hq => by rw [← hH1, Array.getElem?_push, if_neg (Nat.ne_of_lt hq)]
  have hz : H.size = h.1 := hR.1
  obtain ⟨kA2, comp2, g1, g2, g3, g4⟩ := (hK.1.2 2 _ rfl).2
  have hcA : cA1 = cA 2 := Option.some.inj (f1.symm.trans g4)
  subst hcA
  have hq := kk p e s m args below meth c H1 locs ls Cc (hR.new (Nat.le_trans hN hS.1) (by show H1[H.size]? = some (vp_cell _ _); rw [e1]; rfl) z1 o1) (vsp hS z1 o1) hL
  rw [← hz] at hq
  exact hq
theorem R_newq3 {x : Int32} {N idx : Nat} (hd : decode cc pc = .ok (.anewarray idx, 3)) (hw : Cond.classLink own idx RX8 ∈ WSa) (hn : ¬ x < 0) (hNx : x.toNatClampNeg = N) (hby : N * 4 ≤ 536870912) (hcells : k + 1 ≤ R.cells) (hslots : n + N ≤ R.slots) (kk : Run l D cA N0 own cc nL ret nm R X F (hnew h (.inl (3, N, .inr (.inr (.inr (.inr (fun _ => none))))))) (k + 1) (n + N) (pc + 3) L (.ref h.1 :: st)) : Run l D cA N0 own cc nL ret nm R X F h k n (pc) L (.int x :: st) := by
  intro p e s m args below meth c H locs ls Cc hR hS hL
  obtain ⟨hx, hb, hml, hrt, hlk, hown, hnm, hts, hK, hN, hX⟩ := id Cc
  subst hNx
  refine W.anew hx hb hown (hts _ hw) (va_AO.use hK.2.2.2.2.2.2.2) rfl hd rfl hn hby hcells hslots fun cA1 kA comp f1 f2 f3 f4 => ?_
  generalize hH1 : H.push ({ cls := cA1, slots := Array.replicate x.toNatClampNeg .null, vm := .none } : Cell) = H1
  have z1 : H1.size = H.size + 1 := by rw [← hH1, Array.size_push]
  have e1 : H1[H.size]? = some (arrV cA1 x.toNatClampNeg (fun _ => .null)) := by rw [← hH1, Array.getElem?_push_size, ← arrV_new]
  have o1 : ∀ q : Nat, q < H.size → H1[q]? = H[q]? := fun q hq => by rw [← hH1, Array.getElem?_push, if_neg (Nat.ne_of_lt hq)]
  have hz : H.size = h.1 := hR.1
  obtain ⟨kA2, comp2, g1, g2, g3, g4⟩ := (hK.1.2 3 _ rfl).2
  have hcA : cA1 = cA 3 := Option.some.inj (f1.symm.trans g4)
  subst hcA
  have hq := kk p e s m args below meth c H1 locs ls Cc (hR.new (Nat.le_trans hN hS.1) (by show H1[H.size]? = some (vp_cell _ _); rw [e1]; rfl) z1 o1) (vsp hS z1 o1) hL
  rw [← hz] at hq
  exact hq
theorem R_objInit {a idx : Nat} (hd : decode cc pc = .ok (.invokespecial idx, 3)) (hw : Cond.methodLink own idx objectInit ∈ WSa) (hi : Cond.instanceMethod objectInit ∈ WSa) (hcd : Cond.code objectInit ⟨#[0xb1]⟩ 1 none ∈ WSa) (hn : L.length = nL) (hf : 1 ≤ R.frames) (hlo : (st.map fun v => v.category).sum + 12 ≤ R.locals) (kk : Run l D cA N0 own cc nL ret nm R X F h k n (pc + 3) L (st)) : Run l D cA N0 own cc nL ret nm R X F h k n (pc) L (.ref a :: st) := by
  intro p e s m args below meth c H locs ls Cc hR hS hL
  obtain ⟨hx, hb, hml, hrt, hlk, hown, hnm, hts, hK, hN, hX⟩ := id Cc
  exact W.objInit hx hb hown (hts _ hw) (hts _ hi) (hts _ hcd) rfl (by rw [hml]; exact hL.1) rfl hd hf (by show 2 * 0 + _ + 12 ≤ _; omega) (kk p e s m args below meth c H locs ls Cc hR hS hL)
theorem R_copy {a0 a1 n0 n1 idx : Nat} {f g : Nat → Int32} {sp dp z : Int32} (hd : decode cc pc = .ok (.invokestatic idx, 3)) (hw1 : Cond.methodLink own idx arraycopyName ∈ WSa) (hw2 : Cond.native arraycopyName ∈ WSa) (hw3 : Cond.static arraycopyName ∈ WSa) (hw4 : Cond.initialized "java/lang/System" ∈ WSa) (h0 : h.2 a0 = some (.inl (0, n0, .inl f))) (h1 : h.2 a1 = some (.inl (0, n1, .inl g))) (hne : a0 ≠ a1) (g1 : ¬ sp < 0) (g2 : ¬ dp < 0) (g3 : ¬ z < 0) (g4 : sp.toNatClampNeg + z.toNatClampNeg ≤ n0) (g5 : dp.toNatClampNeg + z.toNatClampNeg ≤ n1) (hf : 1 ≤ R.frames) (hlo : (st.map fun v => v.category).sum + (nativeFrameWords "java/lang/System" "arraycopy" 5 + 11) ≤ R.locals) (kk : Run l D cA N0 own cc nL ret nm R X F (hput h a1 (.inl (0, n1, .inl (va_cpy f g sp.toNatClampNeg dp.toNatClampNeg z.toNatClampNeg)))) k n (pc + 3) L (st)) : Run l D cA N0 own cc nL ret nm R X F h k n (pc) L (.int z :: .int dp :: .ref a1 :: .int sp :: .ref a0 :: st) := by
  intro p e s m args below meth c H locs ls Cc hR hS hL
  obtain ⟨hx, hb, hml, hrt, hlk, hown, hnm, hts, hK, hN, hX⟩ := id Cc
  have hNa := (hR.2 a1 _ h1).1
  have nn : ∀ z : Int32, ¬ z < 0 → z.toInt = (z.toNatClampNeg : Int) := by
    intro z hz
    have hz0 : (0 : Int) ≤ z.toInt := by
      have := Int32.not_lt.mp hz
      simpa using Int32.le_iff_toInt_le.mp this
    show z.toInt = ((z.toInt.toNat : Nat) : Int)
    omega
  intro T hT XX
  have hc0 : H[a0]? = some (vp_cell (cA 0) (n0, .inl f)) := (hR.2 a0 _ h0).2
  have hc1 : H[a1]? = some (vp_cell (cA 0) (n1, .inl g)) := (hR.2 a1 _ h1).2
  obtain ⟨-, k0, hk0, cm0, hkk0⟩ := (hK.1.2 0 _ rfl).1 n0 (fun j => .int (f j))
  obtain ⟨-, k1, hk1, cm1, hkk1⟩ := (hK.1.2 0 _ rfl).1 n1 (fun j => .int (g j))
  obtain ⟨vm', X', step⟩ := XX.arraycopy hx hown (hts _ hw1) (hts _ hw2) (hts _ hw3) (hts _ hw4) (src := a0) (dst := a1) (cs := vp_cell (cA 0) (n0, .inl f)) (cd := vp_cell (cA 0) (n1, .inl g)) (srcPos := sp) (destPos := dp) (n := z) (by rw [hT]; exact hc0) (by rw [hT]; exact hc1)
    (fun _ h => by cases h) (fun _ h => by cases h) (fun h => by cases h) (fun h => by cases h) hk0 hk1 hkk0 hkk1 (by simp [refKind]) g1 g2 g3
    (by rw [nn sp g1, nn z g3]; show ¬ _ > ((arrV (cA 0) n0 (fun j => .int (f j))).slots.size : Int); rw [arrV_size]; omega)
    (by rw [nn dp g2, nn z g3]; show ¬ _ > ((arrV (cA 0) n1 (fun j => .int (g j))).slots.size : Int); rw [arrV_size]; omega)
    (fun vm₁ _ i hi => by
      have e : (vp_cell (cA 0) (n0, .inl f)).slots.getD (sp.toNatClampNeg + i) .null = .int (f (sp.toNatClampNeg + i)) := by
        show (arrV (cA 0) n0 (fun j => .int (f j))).slots.getD _ _ = _
        rw [Array.getD_eq_getD_getElem?, arrV_read _ _ (by omega)]
        rfl
      refine ⟨?_, ?_⟩
      · rw [e]
        rfl
      · rw [e]
        exact trivial)
    (g := F0 m pc ls (.int z :: .int dp :: .ref a1 :: .int sp :: .ref a0 :: st)) rfl (by rw [hml]; exact hL.1) (rest := st) rfl (by rw [hb]; exact hd) hf (by show 2 * 0 + _ + _ ≤ _; omega)
  have e1 : copied (vp_cell (cA 0) (n0, .inl f)) (vp_cell (cA 0) (n1, .inl g)) sp dp z = vp_cell (cA 0) (n1, .inl (va_cpy f g sp.toNatClampNeg dp.toNatClampNeg z.toNatClampNeg)) := va_copied (fun z => .int z) (cA 0) (cA 0) f g g4
  rw [e1] at X' step
  have hl : a1 < H.size := (Array.getElem?_eq_some_iff.mp hc1).1
  have hheap : ((T.setVm vm').setCell a1 (vp_cell (cA 0) (n1, .inl (va_cpy f g sp.toNatClampNeg dp.toNatClampNeg z.toNatClampNeg)))).heap = H.setIfInBounds a1 (vp_cell (cA 0) (n1, .inl (va_cpy f g sp.toNatClampNeg dp.toNatClampNeg z.toNatClampNeg))) := by rw [← hT]; rfl
  have oq : ∀ q : Nat, q ≠ a1 → (H.setIfInBounds a1 (vp_cell (cA 0) (n1, .inl (va_cpy f g sp.toNatClampNeg dp.toNatClampNeg z.toNatClampNeg))))[q]? = H[q]? := fun q hq => by simp [Array.getElem?_setIfInBounds, Ne.symm hq]
  obtain ⟨t, b1, b2⟩ := kk p e s m args below meth c _ _ ls Cc (hR.put hNa (show (H.setIfInBounds a1 _)[a1]? = some _ by simp [Array.getElem?_setIfInBounds, hl]) (by simp) oq) ⟨by simp; exact hS.1, fun q q1 q2 => by
      rw [oq q (fun e => q2 (by rw [e]; exact hNa))]
      exact hS.2.1 q q1 q2, fun q hq => by
      rcases List.mem_append.mp hq with h | h
      · exact hS.2.2 q h
      · obtain ⟨y, -, hy⟩ := List.mem_map.mp h
        rw [← hy]
        exact hNa⟩ hL _ hheap X'
  exact ⟨t, step t b1, b2⟩
end RR
