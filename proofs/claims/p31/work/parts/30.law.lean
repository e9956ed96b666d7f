/-! THE CLAIM OUT OF ONE WALK OF THE LAW'S BODY. Your part is whole_start (and what it stands on); all else here is the same for every law, but numbers. -/
def R_law : String := "WindCardShipsLaw"
def lw_P (b : Addr) (xs : List Int32) (args : Array Value) (s : State) : Prop := args = #[.ref b] ∧ s.IntsAt b xs ∧ xs.length ≤ 260 ∧ (Jvm.Cond.and given_1 narrow_1).before args s = true
def lw_Q (_ : Array Value) (s : State) (o : Outcome) (t : State) : Prop := o = .returned (some (.int 1)) ∧ Framed s o t [] 600000 7302250
def lw_Z (below : List Frame) (a : Array Value) (s : State) : State → Prop := fun t => ∃ o, t.status = .running ∧ Ended t below o ∧ lw_Q a s o t
/-- the law's own end, with 1 on the stack, nothing written that was there before, its room as the claim has it -/
theorem lw_ret {p : Program} {l : Launch} {e : Env} {s : State} {m : MethodId} {below : List Frame} {meth : Method} {c : Code} {b : Nat} (hx : p.tables.exec = Jvm.exec) (hb : c.code = code) (hr : meth.sig.returnType = ret) (hlocks : meth.locks = false) {pc : Nat} {H : Heap} {ls : Array Slot} (hdg : decode code pc = .ok (.ireturn, 1)) : W p l e room_1 s m #[Value.ref b] below meth c H [] 600000 7302250 (lw_Z below #[Value.ref b] s) (F0 m pc ls [.int 1]) := by
  intro T hT X
  obtain ⟨fs, hret, hrun, hended, hW, hframe⟩ := X.leave (v := some (.int 1)) (hlocks := hlocks) (fun h => by rw [hr] at h; cases h)
  have hmeth' : T.vm.method? m = some meth := X.method'
  refine ⟨T.setFrames fs, ?_, .returned (some (.int 1)), hrun, hended, rfl, ⟨_, rfl⟩, hW, hframe⟩
  jvm_step X.here [X.here.top, hx, hb, hdg, hmeth', hr, ret, narrow_b1]
  (try refine ⟨rfl, ?_⟩); (try refine ⟨rfl, ?_⟩)
  first | (intro acts; rw [hret _ acts rfl rfl rfl]) | rw [hret _ _ rfl rfl rfl]
  exact Steps.refl _
/-- what holds at the law's entry: the machine, the code, the tables' words (any of lw_tbl by 'hts w (by decide +kernel)'), the script of L ints xs at the cell b, what the Statement gives of the start (any of its parts by flat_of_before) -/
def lw_At (p : Program) (s : State) (m : MethodId) (meth : Method) (c : Code) (b L : Nat) (xs : Nat → Int32) : Prop :=
  p.tables.exec = Jvm.exec ∧ c.code = code ∧ meth.sig.returnType = ret ∧ c.maxLocals = 5 ∧ s.vm.findClass R_law = some m.cls ∧ (∀ w ∈ lw_tbl, w.before #[Value.ref b] s = true) ∧ va_X b L xs s s.heap ∧ b < s.heap.size ∧ meth.locks = false ∧ (Jvm.Cond.and given_1 narrow_1).before #[Value.ref b] s = true
theorem CAt.self {h : AH} {w : Nat} {C : Cm} (q : CAt h w C) : h.2 w = some (.inr (7, ob7 (CA w) (fun _ => 0))) := by
  obtain ⟨r, A, X, a, q1, O, B, hC, _, _⟩ := q
  exact hC.1
/-- the tables, as a walk wants them -/
theorem kk_arr {s : State} {args : Array Value} {t : FieldType} (h : (Cond.arrayClass t).before args s = true) : ∃ c, ArrOfT s c t ∧ s.vm.findClass ("[" ++ t.toString) = some c := by
  obtain ⟨c, k, comp, h1, h2, h3⟩ := Cond.arrayClass_spec h
  exact ⟨c, fun n z => ⟨fun k h => (by cases h), k, h2, comp, h3⟩, h1⟩
theorem kk_ref {s : State} {args : Array Value} {C : String} (h : (Cond.arrayOver (.object C)).before args s = true) : ∃ c, ArrOfT s c (.object C) ∧ va_RA s c (.object C) := by
  obtain ⟨comp, c, k, h1, h2, h3, h4, h5⟩ := Cond.arrayOver_spec h
  exact ⟨c, fun n z => ⟨fun k h => (by cases h), k, h3, comp, h4⟩, k, comp, h3, h4, h1, h5⟩
theorem lw_at (i : Nat) {w : Cond} (h : lw_tbl[i]? = some w) : w ∈ lw_tbl := List.mem_of_getElem? h
theorem kk_start {s : State} {args : Array Value} (ht : ∀ w ∈ lw_tbl, w.before args s = true) : ∃ (D : va_G) (cA : Nat → ClassId), KK D cA s := by
  have hts := wsa_ok ht
  obtain ⟨c0, i0, k0⟩ := u_known (C := RX0) (T := TX0) (N := 3) hts inXW0 (hts _ kw55)
  obtain ⟨c1, i1, k1⟩ := u_known (C := RX1) (T := TX1) (N := 10) hts inXW1 (hts _ kw49)
  obtain ⟨c2, i2, k2⟩ := u_known (C := RX3) (T := TX3) (N := 3) hts inXW2 (hts _ kw177)
  obtain ⟨c3, i3, k3⟩ := u_known (C := RX4) (T := TX4) (N := 7) hts inXW3 (hts _ kw196)
  obtain ⟨c4, i4, k4⟩ := u_known (C := RX6) (T := TX6) (N := 4) hts inXW4 (hts _ kw219)
  obtain ⟨c5, i5, k5⟩ := u_known (C := RX7) (T := TX7) (N := 12) hts inXW5 (hts _ kw75)
  obtain ⟨c6, i6, k6⟩ := u_known (C := RX8) (T := TX8) (N := 4) hts inXW6 (hts _ kw43)
  obtain ⟨c7, i7, k7⟩ := u_known (C := RX9) (T := TX9) (N := 4) hts inXW7 (hts _ kw35)
  obtain ⟨a0, b0, d0⟩ := kk_arr (hts _ kw129)
  obtain ⟨a2, b2, d2⟩ := kk_ref (C := RX7) (ht _ (lw_at 74 (by decide +kernel)))
  obtain ⟨a3, b3, d3⟩ := kk_ref (C := RX8) (ht _ (lw_at 183 (by decide +kernel)))
  refine ⟨(fun k => if k = 0 then c0 else if k = 1 then c1 else if k = 2 then c2 else if k = 3 then c3 else if k = 4 then c4 else if k = 5 then c5 else if k = 6 then c6 else c7, fun k => if k = 0 then i0 else if k = 1 then i1 else if k = 2 then i2 else if k = 3 then i3 else if k = 4 then i4 else if k = 5 then i5 else if k = 6 then i6 else i7), fun k => if k = 0 then a0 else if k = 1 then a0 else if k = 2 then a2 else a3, ⟨fun k q hq => ?_, fun k q hq => ?_⟩, ?_⟩
  · match k, hq with
    | 0, hq => cases hq; exact k0
    | 1, hq => cases hq; exact k1
    | 2, hq => cases hq; exact k2
    | 3, hq => cases hq; exact k3
    | 4, hq => cases hq; exact k4
    | 5, hq => cases hq; exact k5
    | 6, hq => cases hq; exact k6
    | 7, hq => cases hq; exact k7
    | k + 8, hq => simp [vwCl] at hq
  · match k, hq with
    | 0, hq => cases hq; exact ⟨b0, d0⟩
    | 1, hq => cases hq; exact ⟨b0, d0⟩
    | 2, hq => cases hq; exact ⟨b2, d2⟩
    | 3, hq => cases hq; exact ⟨b3, d3⟩
    | k + 4, hq => simp [atys] at hq
  · exact ⟨va_Nw.of rfl (ht _ (lw_at 44 (by decide +kernel))), va_Nw.of rfl (ht _ (lw_at 56 (by decide +kernel))), va_Nw.of rfl (ht _ (lw_at 184 (by decide +kernel))), va_Nw.of rfl (ht _ (lw_at 197 (by decide +kernel))), va_Nw.of rfl (ht _ (lw_at 220 (by decide +kernel))), va_AO.of (ht _ (lw_at 74 (by decide +kernel))), va_AO.of (ht _ (lw_at 183 (by decide +kernel)))⟩
/-! the law's own: its script, its end -/
def XP (b L : Nat) (xs : Nat → Int32) (N0 : Nat) : State → Prop := fun s => va_X b L xs s s.heap ∧ b < N0
def XL (b L : Nat) (xs : Nat → Int32) (N0 : Nat) : State → Prop := fun s => va_X b L xs s s.heap ∧ b < s.heap.size ∧ N0 = s.heap.size
theorem XL.xp {b L : Nat} {xs : Nat → Int32} {N0 : Nat} (s : State) (h : XL b L xs N0 s) : XP b L xs N0 s := ⟨h.1, by rw [h.2.2]; exact h.2.1⟩
def FL (b : Nat) : List Frame → Array Value → State → State → Prop := fun below args s t => args = #[Value.ref b] → lw_Z below #[Value.ref b] s t
abbrev RunL (l : Launch) (D : va_G) (cA : Nat → ClassId) (N0 : Nat) (nm : String) (b L : Nat) (xs : Nat → Int32) : AH → Nat → Nat → Nat → List (Option Value) → List Value → Prop := Run l D cA N0 RL cL_law 5 ret nm room_1 (XL b L xs N0) (FL b)
/-- a contract of a method that is given the script -/
def SpecX (l : Launch) (D : va_G) (cA : Nat → ClassId) (N0 : Nat) (M : MI) (d mc ms : Nat) (b Ln : Nat) (xs : Nat → Int32) (args : List Value) (h : AH) (post : Option Value → AH → Prop) : Prop :=
  Met l M.1 (Cond.code M.1 M.2.1 M.2.2.1 M.2.2.2 :: WSa) (rmD d mc ms) (va_Pc args (fun U => Rh D cA N0 h U.heap ∧ KK D cA U ∧ N0 ≤ U.heap.size ∧ XP b Ln xs N0 U)) (Qg D cA N0 post) mc ms (fun q => N0 ≤ q)
abbrev RunX (l : Launch) (D : va_G) (cA : Nat → ClassId) (N0 : Nat) (M : MI) (d mc ms : Nat) (b Ln : Nat) (xs : Nat → Int32) (post : Option Value → AH → Prop) : AH → Nat → Nat → Nat → List (Option Value) → List Value → Prop :=
  Run l D cA N0 M.1.cls M.2.1 M.2.2.1 M.2.2.2 M.1.name (rmD d mc ms) (XP b Ln xs N0) (FM D cA N0 post mc ms)
theorem SpecX.of {l : Launch} {D : va_G} {cA : Nat → ClassId} {N0 : Nat} {M : MI} {d mc ms b Ln : Nat} {xs : Nat → Int32} {args : List Value} {h : AH} {post : Option Value → AH → Prop} {L : List (Option Value)} (hy : plainName M.1.cls = true) (hL : enc 0 L = lv_args 0 args) (hlen : (lg_sl args).length ≤ M.2.2.1)
    (k : RunX l D cA N0 M d mc ms b Ln xs post h 0 0 0 L []) : SpecX l D cA N0 M d mc ms b Ln xs args h post := by
  refine Met.ofW (cc := M.2.1) (maxL := M.2.2.1) (ret := M.2.2.2) hy rfl ?_
  intro p e s m a below meth c s₁ B hml hv
  obtain ⟨rfl, hR, hK, hN, hX⟩ := hv
  have hts := atoms_spec (ws := Cond.code M.1 M.2.1 M.2.2.1 M.2.2.2 :: WSa) B.pre
  have hown : s.vm.findClass M.1.cls = some m.cls := findClass_of_methodNamed B.named
  have hl := lv_entry args (n := M.2.2.1) hlen
  rw [lg_entry_eq]
  exact k p e s m args.toArray below meth c s.heap [] _ ⟨B.exec, B.bytes, hml, B.returns, B.notSynchronized, hown, (name_of_methodNamed B.named B.method).1, fun w hw => hts w (List.mem_cons_of_mem _ hw), hK, hN, hX⟩ hR va_S.rf (by rw [LH, hL]; exact hl)
theorem pre_blindX {D : va_G} {cA : Nat → ClassId} {N0 b Ln : Nat} {xs : Nat → Int32} {h : AH} {av : List Value} : FrameBlind (va_Pc av (fun U => Rh D cA N0 h U.heap ∧ KK D cA U ∧ N0 ≤ U.heap.size ∧ XP b Ln xs N0 U)) := fun a U g mk q => ⟨q.1, q.2.1, KK.same (s := U) (U := U.calling g mk a) rfl q.2.2.1, q.2.2.2.1, va_X.moved (u := U) (U := U.calling g mk a) (Vm.Alike.refl U.vm) q.2.2.2.2.1, q.2.2.2.2.2⟩
section LV30
variable {l : Launch} {D : va_G} {cA : Nat → ClassId} {N0 : Nat} {own : String} {cc : ByteArray} {nL : Nat} {ret : Option FieldType} {nm : String} {R : Room} {X : State → Prop} {F : List Frame → Array Value → State → State → Prop} {h : AH} {k n pc : Nat} {L : List (Option Value)} {st : List Value} {b Ln : Nat} {xs : Nat → Int32}
theorem R_slen (hXP : ∀ s, X s → XP b Ln xs N0 s) (hd : decode cc pc = .ok (.arraylength, 1)) (kk : Run l D cA N0 own cc nL ret nm R X F h k n (pc + 1) L (.int (nI Ln) :: st)) : Run l D cA N0 own cc nL ret nm R X F h k n pc L (.ref b :: st) := by
  intro p e s m args below meth c H locs ls C hR hS hL
  obtain ⟨hx, hb, hml, hrt, hlk, hown, hnm, hts, hK, hN, hX⟩ := id C
  obtain ⟨x1, x2⟩ := hXP s hX
  exact va_slen hx hb x1 (Nat.lt_of_lt_of_le x2 hN) (Nat.not_le.mpr x2) hS hd (kk p e s m args below meth c H locs ls C hR hS hL)
theorem R_sld {i : Nat} (hXP : ∀ s, X s → XP b Ln xs N0 s) (hd : decode cc pc = .ok (.iaload, 1)) (hi : i < Ln) (hL2 : Ln < 2 ^ 31) (kk : Run l D cA N0 own cc nL ret nm R X F h k n (pc + 1) L (.int (xs i) :: st)) : Run l D cA N0 own cc nL ret nm R X F h k n pc L (.int (nI i) :: .ref b :: st) := by
  intro p e s m args below meth c H locs ls C hR hS hL
  obtain ⟨hx, hb, hml, hrt, hlk, hown, hnm, hts, hK, hN, hX⟩ := id C
  obtain ⟨x1, x2⟩ := hXP s hX
  refine va_sld hx hb x1 (Nat.lt_of_lt_of_le x2 hN) (Nat.not_le.mpr x2) hS (in_n hi hL2) hd ?_
  rw [nI_clamp (show i < 2 ^ 31 by omega)]
  exact kk p e s m args below meth c H locs ls C hR hS hL
theorem R_callSX2 {M : MI} {idx d mc ms : Nat} {b0 b1 : Value} {post : Option Value → AH → Prop} (hXP : ∀ s, X s → XP b Ln xs N0 s) (hcal : Cal M 2) (hlink : Cond.methodLink own idx M.1 ∈ WSa) (hst : Cond.static M.1 ∈ WSa) (hd : decode cc pc = .ok (.invokestatic idx, 3)) (hsp : SpecX l D cA N0 M d mc ms b Ln xs [b0, b1] h post) (hrm : Rm R k n d mc ms M.2.2.1) (hcat : (st.map fun v => v.category).sum ≤ 8)
    (kk : ∀ (r : Option Value) (h' : AH), post r h' → Run l D cA N0 own cc nL ret nm R X F h' (k + mc) (n + ms) (pc + 3) L (r.toList ++ st)) : Run l D cA N0 own cc nL ret nm R X F h k n pc L (b1 :: b0 :: st) := by
  intro p e s m args below meth c H locs ls C hR hS hL
  obtain ⟨hx, hb, hml, hrt, hlk, hown, hnm, hts, hK, hN, hX⟩ := id C
  obtain ⟨x1, x2⟩ := hXP s hX
  obtain ⟨hy, hcode, hini⟩ := hcal
  have hG := wsa_sub hcode
  refine R_back (M := M) kk C hR hS hL (va_runS (As := [b0, b1]) (rest := st) ⟨hx, hb, hml, hown, hts⟩ hsp ⟨callB_of 2 hts hG rfl rfl rfl (hts _ hini) (hts _ hlink) hy hrm.1, hts _ hst⟩ ⟨pre_blindX, fun U hU hW => ⟨rfl, by rw [hU]; exact hR, hK.warm hW, by rw [hU]; exact Nat.le_trans hN hS.1, by rw [hU]; exact va_X.moved hW.alike (x1.kept (hS.2.1 b (Nat.lt_of_lt_of_le x2 hN) (Nat.not_le.mpr x2))), x2⟩⟩ rfl rfl hL.1 rfl (lv_room hcat) hd hrm.2)
end LV30
section LV30b
variable {l : Launch} {D : va_G} {cA : Nat → ClassId} {N0 : Nat} {nm : String} {b L : Nat} {xs : Nat → Int32} {h : AH} {k n pc : Nat} {Ls : List (Option Value)} {st : List Value}
theorem R_lawret (hd : decode cL_law pc = .ok (.ireturn, 1)) (hk : k ≤ 600000) (hn : n ≤ 7302250) : RunL l D cA N0 nm b L xs h k n pc Ls [.int 1] := by
  intro p e s m args below meth c H locs ls C hR hS hL
  obtain ⟨hx, hb, hml, hrt, hlk, hown, hnm, hts, hK, hN, hX, hbl, hN0⟩ := id C
  by_cases ha : args = #[Value.ref b]
  · subst ha
    refine va_forget (fun q hq => by rw [← hN0]; exact hS.2.2 q hq) (W.widen hk hn ?_)
    intro T hT X
    obtain ⟨t, t1, t2⟩ := lw_ret (l := l) (e := e) (below := below) (H := H) (ls := ls) hx hb hrt hlk hd T hT X
    exact ⟨t, t1, fun _ => t2⟩
  · intro T hT X
    exact ⟨_, Steps.refl _, fun z => absurd z ha⟩
end LV30b
