/-! THE CLAIM OUT OF ONE WALK OF THE LAW'S BODY. Your part is whole_start (and what it stands on); all else here is the same for every law, but numbers. -/
def R_law : String := "WindCardShipsLaw"
def lw_P (b : Addr) (xs : List Int32) (args : Array Value) (s : State) : Prop := args = #[.ref b] ∧ s.IntsAt b xs ∧ xs.length ≤ 3584 ∧ (Jvm.Cond.and given_1 narrow_1).before args s = true
def lw_Q (_ : Array Value) (s : State) (o : Outcome) (t : State) : Prop := o = .returned (some (.int 1)) ∧ Framed s o t [] 600000 7302250
def lw_Z (below : List Frame) (a : Array Value) (s : State) : State → Prop := fun t => ∃ o, t.status = .running ∧ Ended t below o ∧ lw_Q a s o t
/-- the law's own end, with 1 on the stack, nothing written that was there before, its room as the claim has it -/
theorem lw_ret {p : Program} {l : Launch} {e : Env} {s : State} {m : MethodId} {below : List Frame} {meth : Method} {c : Code} {b : Nat} (hx : p.tables.exec = Jvm.exec) (hb : c.code = code) (hr : meth.sig.returnType = ret) (hlocks : meth.locks = false) {pc : Nat} {H : Heap} {ls : Array Slot} (hdg : decode code pc = .ok (.ireturn, 1)) : W p l e room_1 s m #[Value.ref b] below meth c H [] 600000 7302250 (lw_Z below #[Value.ref b] s) (F0 m pc ls [.int 1]) := by
  intro T hT X
  obtain ⟨fs, hret, hrun, hended, hW, hframe⟩ := X.leave (v := some (.int 1)) (hlocks := hlocks) (fun h => by rw [hr] at h; cases h)
  have hmeth' : T.vm.method? m = some meth := X.method'
  refine ⟨T.setFrames fs, ?_, .returned (some (.int 1)), hrun, hended, rfl, ⟨_, rfl⟩, hW, hframe⟩
  jvm_step X.here [X.here.top, hx, hb, hdg, hmeth', hr, ret, narrow_b1]
  (try refine ⟨rfl, ?_⟩); (try refine ⟨rfl, ?_⟩)
  first | (intro acts; rw [hret _ acts rfl rfl rfl]) | rw [hret _ _ rfl rfl rfl]
  exact Steps.refl _
/-- what holds at the law's entry: the machine, the code, the tables' words (any of lw_tbl by 'hts w (by decide +kernel)'), the script of L ints xs at the cell b, what the Statement gives of the start (any of its parts by flat_of_before) -/
def lw_At (p : Program) (s : State) (m : MethodId) (meth : Method) (c : Code) (b L : Nat) (xs : Nat → Int32) : Prop :=
  p.tables.exec = Jvm.exec ∧ c.code = code ∧ meth.sig.returnType = ret ∧ c.maxLocals = 4 ∧ s.vm.findClass R_law = some m.cls ∧ (∀ w ∈ lw_tbl, w.before #[Value.ref b] s = true) ∧ va_X b L xs s s.heap ∧ b < s.heap.size ∧ meth.locks = false ∧ (Jvm.Cond.and given_1 narrow_1).before #[Value.ref b] s = true
/-! THE LAW: what it begins with -/
theorem s00_hi {j : Nat} (hj : 10 ≤ j) : s00 j = 0 := by
  unfold s00
  rw [zk_s, zk_s]
  show z_in1 (z_in1 _ 0) 1 j = 0
  unfold z_in1
  rw [pk_un (by omega), pk_un (by omega), pk_un (by omega), pk_un (by omega), pk_un (by omega), pk_un (by omega), pk_un (by omega)]
theorem RG_0 : RG 0 0 G0 s00 := by
  refine ⟨by decide, rfl, s00_hi (by decide), ⟨0, by decide, rfl⟩, by decide, Or.inl rfl, by decide, ⟨0, by decide, rfl⟩, by decide, ⟨2, by decide, by decide, rfl⟩, by decide, by decide, fun c hc => ?_, fun j hj => ⟨Or.inl rfl, s00_hi (by omega)⟩, fun i hi => ⟨⟨0, by decide, rfl⟩, ⟨0, by decide, rfl⟩, ⟨0, by decide, rfl⟩, ⟨0, by decide, rfl⟩, ⟨0, by decide, rfl⟩, ⟨0, by decide, rfl⟩, ⟨0, by decide, rfl⟩, Or.inl rfl, ⟨0, by decide, rfl⟩, ⟨0, by decide, rfl⟩, ⟨0, by decide, rfl⟩⟩, fun i hi => absurd hi (Nat.not_lt_zero i), fun i _ _ => ⟨rfl, rfl, rfl, rfl, rfl⟩, fun i hi => Or.inr ⟨0, by decide, s00_hi (by omega)⟩⟩
  rcases (by omega : c = 0 ∨ c = 1) with rfl | rfl
  · exact ⟨63, by decide, by decide, by decide, by decide, ⟨10, by decide, by decide⟩, by decide, Or.inl ⟨by decide, by decide⟩⟩
  · exact ⟨63, by decide, by decide, by decide, by decide, ⟨10, by decide, by decide⟩, by decide, Or.inl ⟨by decide, by decide⟩⟩
theorem RC_0 : RC 0 C0 M0 :=
  ⟨⟨⟨0, RG_0⟩, ⟨0, 0, by decide, by decide, s00_hi (j := 181) (by decide), s00_hi (j := 182) (by decide), by decide, fun z => absurd z (by decide), fun z => absurd z (by decide)⟩, Or.inl rfl, Or.inl rfl⟩, Nat.zero_le 6, rfl, fun j hj => absurd hj (Nat.not_lt_zero j), Nat.zero_le 100, rfl, rfl, rfl⟩
theorem CAt.keep {h h1 : AH} {w : Nat} {C : Cm} (q : CAt h w C) (e : ∀ x, w ≤ x → x < w + 329 → h1.2 x = h.2 x) : CAt h1 w C := by
  obtain ⟨r, A, X, a, q1, O, B, ⟨c1, c2, c3, c4, c5, c6, c7, c8⟩, hW, hV⟩ := q
  refine ⟨r, A, X, a, q1, O, B, ⟨by rw [e _ (by omega) (by omega)]; exact c1, c2.keep (fun x z1 z2 => e x (by omega) (by omega)), by rw [e _ (by omega) (by omega)]; exact c3, by rw [e _ (by omega) (by omega)]; exact c4, fun j hj => ?_, by rw [e _ (by omega) (by omega)]; exact c6, by rw [e _ (by omega) (by omega)]; exact c7, c8.keep (fun x z1 z2 => e x (by omega) (by omega))⟩, hW, hV⟩
  have := hW.rng hj
  exact (c5 j hj).keep (fun x z1 z2 => e x (by omega) (by omega))
theorem CAt.self {h : AH} {w : Nat} {C : Cm} (q : CAt h w C) : h.2 w = some (.inr (7, ob7 (CA w) (fun _ => 0))) := by
  obtain ⟨r, A, X, a, q1, O, B, hC, _, _⟩ := q
  exact hC.1
theorem CAt.bz {h : AH} {w : Nat} {C : Cm} (q : CAt h w C) {j : Nat} (hj : j < C.2.1) : sBz (C.2.2.1 j) := by
  obtain ⟨r, A, X, a, q1, O, B, hC, hW, hV⟩ := q
  rw [← hV j hj]
  exact hW.2.2.2.2.2.2 j (by have := hW.1; omega)
theorem MAt.keep {h h1 : AH} {u : Nat} {M : Mm} (q : MAt h u M) (e : ∀ x, u ≤ x → x < u + 7 → h1.2 x = h.2 x) : MAt h1 u M := fun o h0 h3 => by
  rw [e _ (by omega) (by omega)]; exact q o h0 h3
/-- the tables, as a walk wants them -/
theorem kk_arr {s : State} {args : Array Value} {t : FieldType} (h : (Cond.arrayClass t).before args s = true) : ∃ c, ArrOfT s c t ∧ s.vm.findClass ("[" ++ t.toString) = some c := by
  obtain ⟨c, k, comp, h1, h2, h3⟩ := Cond.arrayClass_spec h
  exact ⟨c, fun n z => ⟨fun k h => (by cases h), k, h2, comp, h3⟩, h1⟩
theorem kk_ref {s : State} {args : Array Value} {C : String} (h : (Cond.arrayOver (.object C)).before args s = true) : ∃ c, ArrOfT s c (.object C) ∧ va_RA s c (.object C) := by
  obtain ⟨comp, c, k, h1, h2, h3, h4, h5⟩ := Cond.arrayOver_spec h
  exact ⟨c, fun n z => ⟨fun k h => (by cases h), k, h3, comp, h4⟩, k, comp, h3, h4, h1, h5⟩
theorem lw_at (i : Nat) {w : Cond} (h : lw_tbl[i]? = some w) : w ∈ lw_tbl := List.mem_of_getElem? h
theorem kk_start {s : State} {args : Array Value} (ht : ∀ w ∈ lw_tbl, w.before args s = true) : ∃ (D : va_G) (cA : Nat → ClassId), KK D cA s := by
  have hts := wsa_ok ht
  obtain ⟨c0, i0, k0⟩ := u_known (C := RX0) (T := TX0) (N := 3) hts inXW0 (hts _ kw92)
  obtain ⟨c1, i1, k1⟩ := u_known (C := RX1) (T := TX1) (N := 10) hts inXW1 (hts _ kw86)
  obtain ⟨c2, i2, k2⟩ := u_known (C := RX3) (T := TX3) (N := 3) hts inXW2 (hts _ kw214)
  obtain ⟨c3, i3, k3⟩ := u_known (C := RX4) (T := TX4) (N := 7) hts inXW3 (hts _ kw233)
  obtain ⟨c4, i4, k4⟩ := u_known (C := RX6) (T := TX6) (N := 4) hts inXW4 (hts _ kw261)
  obtain ⟨c5, i5, k5⟩ := u_known (C := RX7) (T := TX7) (N := 12) hts inXW5 (hts _ kw112)
  obtain ⟨c6, i6, k6⟩ := u_known (C := RX8) (T := TX8) (N := 4) hts inXW6 (hts _ kw80)
  obtain ⟨c7, i7, k7⟩ := u_known (C := RX9) (T := TX9) (N := 4) hts inXW7 (hts _ kw72)
  obtain ⟨c8, i8, k8⟩ := u_known (C := RX10) (T := TX10) (N := 13) hts inXW8 (hts _ kw838)
  obtain ⟨a0, b0, d0⟩ := kk_arr (hts _ kw166)
  obtain ⟨a1, b1, d1⟩ := kk_arr (hts _ kw883)
  obtain ⟨a2, b2, d2⟩ := kk_ref (C := RX7) (ht _ (lw_at 111 (by decide +kernel)))
  obtain ⟨a3, b3, d3⟩ := kk_ref (C := RX8) (ht _ (lw_at 220 (by decide +kernel)))
  refine ⟨(fun k => if k = 0 then c0 else if k = 1 then c1 else if k = 2 then c2 else if k = 3 then c3 else if k = 4 then c4 else if k = 5 then c5 else if k = 6 then c6 else if k = 7 then c7 else c8, fun k => if k = 0 then i0 else if k = 1 then i1 else if k = 2 then i2 else if k = 3 then i3 else if k = 4 then i4 else if k = 5 then i5 else if k = 6 then i6 else if k = 7 then i7 else i8), fun k => if k = 0 then a0 else if k = 1 then a1 else if k = 2 then a2 else a3, ⟨fun k q hq => ?_, fun k q hq => ?_⟩, ?_⟩
  · match k, hq with
    | 0, hq => cases hq; exact k0
    | 1, hq => cases hq; exact k1
    | 2, hq => cases hq; exact k2
    | 3, hq => cases hq; exact k3
    | 4, hq => cases hq; exact k4
    | 5, hq => cases hq; exact k5
    | 6, hq => cases hq; exact k6
    | 7, hq => cases hq; exact k7
    | 8, hq => cases hq; exact k8
    | k + 9, hq => simp [vwCl] at hq
  · match k, hq with
    | 0, hq => cases hq; exact ⟨b0, d0⟩
    | 1, hq => cases hq; exact ⟨b1, d1⟩
    | 2, hq => cases hq; exact ⟨b2, d2⟩
    | 3, hq => cases hq; exact ⟨b3, d3⟩
    | k + 4, hq => simp [atys] at hq
  · exact ⟨va_Nw.of rfl (ht _ (lw_at 81 (by decide +kernel))), va_Nw.of rfl (ht _ (lw_at 93 (by decide +kernel))), va_Nw.of rfl (ht _ (lw_at 221 (by decide +kernel))), va_Nw.of rfl (ht _ (lw_at 234 (by decide +kernel))), va_Nw.of rfl (ht _ (lw_at 262 (by decide +kernel))), va_AO.of (ht _ (lw_at 111 (by decide +kernel))), va_AO.of (ht _ (lw_at 220 (by decide +kernel)))⟩
/-! the law's own: its script, its end -/
def XL (b L : Nat) (xs : Nat → Int32) (N0 : Nat) : State → Prop := fun s => va_X b L xs s s.heap ∧ b < s.heap.size ∧ N0 = s.heap.size
def FL (b : Nat) : List Frame → Array Value → State → State → Prop := fun below args s t => args = #[Value.ref b] → lw_Z below #[Value.ref b] s t
abbrev RunL (l : Launch) (D : va_G) (cA : Nat → ClassId) (N0 : Nat) (nm : String) (b L : Nat) (xs : Nat → Int32) : AH → Nat → Nat → Nat → List (Option Value) → List Value → Prop := Run l D cA N0 RL cL_law 4 ret nm room_1 (XL b L xs N0) (FL b)
section LV60
variable {l : Launch} {D : va_G} {cA : Nat → ClassId} {N0 : Nat} {nm : String} {b L : Nat} {xs : Nat → Int32} {h : AH} {k n pc : Nat} {Ls : List (Option Value)} {st : List Value}
theorem R_slen (hd : decode cL_law pc = .ok (.arraylength, 1)) (kk : RunL l D cA N0 nm b L xs h k n (pc + 1) Ls (.int (nI L) :: st)) : RunL l D cA N0 nm b L xs h k n pc Ls (.ref b :: st) := by
  intro p e s m args below meth c H locs ls C hR hS hL
  obtain ⟨hx, hb, hml, hrt, hlk, hown, hnm, hts, hK, hN, hX, hbl, hN0⟩ := id C
  exact va_slen hx hb hX hbl (by rw [hN0]; exact Nat.not_le.mpr hbl) hS hd (kk p e s m args below meth c H locs ls C hR hS hL)
theorem R_sld {i : Nat} (hd : decode cL_law pc = .ok (.iaload, 1)) (hi : i < L) (hL2 : L < 2 ^ 31) (kk : RunL l D cA N0 nm b L xs h k n (pc + 1) Ls (.int (xs i) :: st)) : RunL l D cA N0 nm b L xs h k n pc Ls (.int (nI i) :: .ref b :: st) := by
  intro p e s m args below meth c H locs ls C hR hS hL
  obtain ⟨hx, hb, hml, hrt, hlk, hown, hnm, hts, hK, hN, hX, hbl, hN0⟩ := id C
  refine va_sld hx hb hX hbl (by rw [hN0]; exact Nat.not_le.mpr hbl) hS (in_n hi hL2) hd ?_
  rw [nI_clamp (show i < 2 ^ 31 by omega)]
  exact kk p e s m args below meth c H locs ls C hR hS hL
theorem R_lawret (hd : decode cL_law pc = .ok (.ireturn, 1)) (hk : k ≤ 600000) (hn : n ≤ 7302250) : RunL l D cA N0 nm b L xs h k n pc Ls [.int 1] := by
  intro p e s m args below meth c H locs ls C hR hS hL
  obtain ⟨hx, hb, hml, hrt, hlk, hown, hnm, hts, hK, hN, hX, hbl, hN0⟩ := id C
  by_cases ha : args = #[Value.ref b]
  · subst ha
    refine va_forget (fun q hq => by rw [← hN0]; exact hS.2.2 q hq) (W.widen hk hn ?_)
    intro T hT X
    obtain ⟨t, t1, t2⟩ := lw_ret (l := l) (e := e) (below := below) (H := H) (ls := ls) hx hb hrt hlk hd T hT X
    exact ⟨t, t1, fun _ => t2⟩
  · intro T hT X
    exact ⟨_, Steps.refl _, fun z => absurd z ha⟩
end LV60
