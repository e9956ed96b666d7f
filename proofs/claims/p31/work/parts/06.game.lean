/-! THE GAME of the class: a value G for its thirteen cells, and what its reading methods answer -/
abbrev Gm : Type := (Nat → Int32) × (Nat → Int32) × (Nat → Nat → Int32)
def gz : Nat → Nat := fun _ => 0
def gA (g : Nat) : Nat → Nat := fun k => g + (k - 5)
def sad (g i : Nat) : Nat := g + 5 + i
def shF (G : Gm) (i : Nat) : Nat → Int32 := fun j => if j = 0 then nI i else G.2.2 i j
def cF (G : Gm) (c : Nat) : Nat → Int32 := fun j => G.1 (6 + 3 * c + j)
def gmAt (g : Nat) (G : Gm) (o : Nat) : AE :=
  if o = 0 then .inr (1, ob1 (gA g) G.1)
  else if o = 1 then .inr (0, ob0 gz (cF G 0))
  else if o = 2 then .inr (0, ob0 gz (cF G 1))
  else if o = 3 then .inl (0, 81, .inl G.2.1)
  else if o = 4 then .inl (2, 8, .inr (.inr (.inr (.inr (fun j => some (sad g j))))))
  else .inr (5, ob5 gz (shF G (o - 5)))
def GmAt (h : AH) (g : Nat) (G : Gm) : Prop := ∀ o, o < 13 → h.2 (g + o) = some (gmAt g G o)
def gput (h : AH) (g : Nat) (G : Gm) : AH := (h.1, fun q => if g ≤ q ∧ q < g + 13 then some (gmAt g G (q - g)) else h.2 q)
def cad (g : Nat) (x : Int32) : Nat := if x = 0 then gA g 6 else gA g 7
def cix (x : Int32) : Nat := if x = 0 then 0 else 1
section GMS
variable {h : AH} {g : Nat} {G : Gm}
theorem GmAt.o0 (hG : GmAt h g G) : h.2 g = some (.inr (1, ob1 (gA g) G.1)) := hG 0 (by decide)
theorem GmAt.c0 (hG : GmAt h g G) : h.2 (gA g 6) = some (.inr (0, ob0 gz (cF G 0))) := hG 1 (by decide)
theorem GmAt.c1 (hG : GmAt h g G) : h.2 (gA g 7) = some (.inr (0, ob0 gz (cF G 1))) := hG 2 (by decide)
theorem GmAt.is (hG : GmAt h g G) : h.2 (gA g 8) = some (.inl (0, 81, .inl G.2.1)) := hG 3 (by decide)
theorem GmAt.sa (hG : GmAt h g G) : h.2 (gA g 9) = some (.inl (2, 8, .inr (.inr (.inr (.inr (fun j => some (sad g j))))))) := hG 4 (by decide)
theorem GmAt.sh (hG : GmAt h g G) {i : Nat} (hi : i < 8) : h.2 (sad g i) = some (.inr (5, ob5 gz (shF G i))) := by
  have q := hG (5 + i) (by omega)
  rw [← Nat.add_assoc] at q
  rw [sad, q]
  simp [gmAt, show ¬ 5 + i = 1 by omega, show ¬ 5 + i = 2 by omega, show ¬ 5 + i = 3 by omega, show ¬ 5 + i = 4 by omega]
theorem GmAt.cp (hG : GmAt h g G) (x : Int32) : h.2 (cad g x) = some (.inr (0, ob0 gz (cF G (cix x)))) := by
  unfold cad cix
  by_cases q : x = 0
  · rw [if_pos q, if_pos q]; exact hG.c0
  · rw [if_neg q, if_neg q]; exact hG.c1
theorem gput_at (h : AH) (g : Nat) (G : Gm) : GmAt (gput h g G) g G := fun o ho => by
  simp only [gput]
  rw [if_pos ⟨by omega, by omega⟩, Nat.add_sub_cancel_left]
theorem gput_out (h : AH) (g : Nat) (G : Gm) {q : Nat} (hq : q < g ∨ g + 13 ≤ q) : (gput h g G).2 q = h.2 q := by
  simp only [gput]
  rw [if_neg (by omega)]
theorem gput_self (hG : GmAt h g G) : gput h g G = h := by
  obtain ⟨z, f⟩ := h
  simp only [gput]
  congr 1
  funext q
  by_cases hq : g ≤ q ∧ q < g + 13
  · rw [if_pos hq]
    have := hG (q - g) (by omega)
    rw [show g + (q - g) = q by omega] at this
    exact this.symm
  · rw [if_neg hq]
theorem gput_gput (h : AH) (g : Nat) (G1 G2 : Gm) : gput (gput h g G1) g G2 = gput h g G2 := by
  simp only [gput]
  congr 1
  funext q
  by_cases hq : g ≤ q ∧ q < g + 13 <;> simp [hq]
/-- one cell of a game is written -/
theorem gput_one (hG : GmAt h g G) {G' : Gm} {o : Nat} (ho : o < 13) (hs : ∀ o', o' < 13 → o' ≠ o → gmAt g G' o' = gmAt g G o') : hput h (g + o) (gmAt g G' o) = gput h g G' := by
  simp only [gput, hput]
  congr 1
  funext q
  by_cases hq : g ≤ q ∧ q < g + 13
  · rw [if_pos hq]
    by_cases hqo : q = g + o
    · rw [if_pos hqo, hqo, Nat.add_sub_cancel_left]
    · rw [if_neg hqo, hs (q - g) (by omega) (by omega)]
      have := hG (q - g) (by omega)
      rw [show g + (q - g) = q by omega] at this
      exact this
  · rw [if_neg hq, if_neg (by omega)]
def sG (G : Gm) (k : Nat) (v : Int32) : Gm := (upd G.1 k v, G.2)
def sI (G : Gm) (f : Nat → Int32) : Gm := (G.1, f, G.2.2)
def sS (G : Gm) (i : Nat) (F : Nat → Int32) : Gm := (G.1, G.2.1, fun a => if a = i then F else G.2.2 a)
def sC (G : Gm) (c : Nat) (F : Nat → Int32) : Gm := (fun j => if 6 + 3 * c ≤ j ∧ j < 9 + 3 * c then F (j - (6 + 3 * c)) else G.1 j, G.2)
theorem ob1_ext {A : Nat → Nat} {F1 F2 : Nat → Int32} (e : ∀ j, j < 6 → F1 j = F2 j) : ob1 A F1 = ob1 A F2 := by
  simp only [ob1, e 0 (by decide), e 1 (by decide), e 2 (by decide), e 3 (by decide), e 4 (by decide), e 5 (by decide)]
theorem ob0_ext {A1 A2 : Nat → Nat} {F1 F2 : Nat → Int32} (e : ∀ j, j < 3 → F1 j = F2 j) : ob0 A1 F1 = ob0 A2 F2 := by
  simp only [ob0, e 0 (by decide), e 1 (by decide), e 2 (by decide)]
theorem ob5_ext {A1 A2 : Nat → Nat} {F1 F2 : Nat → Int32} (e : ∀ j, j < 12 → F1 j = F2 j) : ob5 A1 F1 = ob5 A2 F2 := by
  simp only [ob5, e 0 (by decide), e 1 (by decide), e 2 (by decide), e 3 (by decide), e 4 (by decide), e 5 (by decide), e 6 (by decide), e 7 (by decide), e 8 (by decide), e 9 (by decide), e 10 (by decide), e 11 (by decide)]
theorem cF_sG {k : Nat} {v : Int32} (hk : k < 6) (c : Nat) : cF (sG G k v) c = cF G c := by
  funext j
  simp only [cF, sG, upd]
  rw [if_neg (by omega)]
theorem hput_g (hG : GmAt h g G) {k : Nat} {v : Int32} (hk : k < 6) : hput h g (.inr (1, ob1 (gA g) (upd G.1 k v))) = gput h g (sG G k v) := by
  have q := gput_one hG (G' := sG G k v) (o := 0) (by decide) (fun o' h1 h2 => by
    simp only [gmAt, cF_sG hk, if_neg h2]
    rfl)
  exact q
theorem hput_i (hG : GmAt h g G) {f : Nat → Int32} : hput h (gA g 8) (.inl (0, 81, .inl f)) = gput h g (sI G f) := by
  have q := gput_one hG (G' := sI G f) (o := 3) (by decide) (fun o' h1 h2 => by
    simp only [gmAt, if_neg h2]
    rfl)
  exact q
theorem gmAt_sh {o : Nat} (ho : 5 ≤ o) : gmAt g G o = .inr (5, ob5 gz (shF G (o - 5))) := by
  simp only [gmAt]
  rw [if_neg (by omega), if_neg (by omega), if_neg (by omega), if_neg (by omega), if_neg (by omega)]
theorem shF_sS {i : Nat} {F : Nat → Int32} (h0 : F 0 = nI i) : shF (sS G i F) i = F := by
  funext j
  simp only [shF, sS]
  by_cases hj : j = 0
  · rw [if_pos hj, hj, h0]
  · simp [hj]
theorem shF_sS' {i a : Nat} {F : Nat → Int32} (h : a ≠ i) : shF (sS G i F) a = shF G a := by
  funext j
  simp only [shF, sS, if_neg h]
theorem hput_s (hG : GmAt h g G) {i : Nat} (hi : i < 8) {A : Nat → Nat} {F : Nat → Int32} (h0 : F 0 = nI i) : hput h (sad g i) (.inr (5, ob5 A F)) = gput h g (sS G i F) := by
  have q := gput_one hG (G' := sS G i F) (o := 5 + i) (by omega) (fun o' h1 h2 => by
    by_cases h5 : o' < 5
    · rcases (by omega : o' = 0 ∨ o' = 1 ∨ o' = 2 ∨ o' = 3 ∨ o' = 4) with e | e | e | e | e <;> subst e <;> rfl
    · rw [gmAt_sh (by omega), gmAt_sh (by omega), shF_sS' (by omega)])
  rw [gmAt_sh (by omega), show 5 + i - 5 = i by omega, shF_sS h0, ← Nat.add_assoc] at q
  exact q
theorem cF_sC {c : Nat} {F : Nat → Int32} {j : Nat} (hj : j < 3) : cF (sC G c F) c j = F j := by
  simp only [cF, sC]
  rw [if_pos ⟨by omega, by omega⟩]
  congr 1
  omega
theorem cF_sC' {c c' : Nat} {F : Nat → Int32} {j : Nat} (hj : j < 3) (h : c' ≠ c) : cF (sC G c F) c' j = cF G c' j := by
  simp only [cF, sC]
  rw [if_neg (by omega)]
theorem sC_ob1 {c : Nat} {F : Nat → Int32} : ob1 (gA g) (sC G c F).1 = ob1 (gA g) G.1 := ob1_ext (fun j hj => by simp only [sC]; rw [if_neg (by omega)])
theorem hput_c0 (hG : GmAt h g G) {A : Nat → Nat} {F : Nat → Int32} : hput h (gA g 6) (.inr (0, ob0 A F)) = gput h g (sC G 0 F) := by
  have q := gput_one hG (G' := sC G 0 F) (o := 1) (by decide) (fun o' h1 h2 => by
    simp only [gmAt]
    rw [show ob0 gz (cF (sC G 0 F) 1) = ob0 gz (cF G 1) from ob0_ext (fun j hj => cF_sC' hj (by decide))]
    rw [if_neg h2, if_neg h2, sC_ob1]
    rfl)
  rw [show gmAt g (sC G 0 F) 1 = .inr (0, ob0 A F) from congrArg (fun z => (Sum.inr (0, z) : AE)) (ob0_ext (fun j hj => cF_sC hj))] at q
  exact q
theorem hput_c1 (hG : GmAt h g G) {A : Nat → Nat} {F : Nat → Int32} : hput h (gA g 7) (.inr (0, ob0 A F)) = gput h g (sC G 1 F) := by
  have q := gput_one hG (G' := sC G 1 F) (o := 2) (by decide) (fun o' h1 h2 => by
    simp only [gmAt]
    rw [show ob0 gz (cF (sC G 1 F) 0) = ob0 gz (cF G 0) from ob0_ext (fun j hj => cF_sC' hj (by decide))]
    rw [show ob1 (gA g) (sC G 1 F).1 = ob1 (gA g) G.1 from ob1_ext (fun j hj => by simp only [sC]; rw [if_neg (by omega)])]
    by_cases h0 : o' = 0
    · rw [if_pos h0, if_pos h0]
    · rw [if_neg h0, if_neg h0, if_neg h2, if_neg h2]
      rfl)
  rw [show gmAt g (sC G 1 F) 2 = .inr (0, ob0 A F) from congrArg (fun z => (Sum.inr (0, z) : AE)) (ob0_ext (fun j hj => cF_sC hj))] at q
  exact q
theorem hput_c (hG : GmAt h g G) (x : Int32) {A : Nat → Nat} {F : Nat → Int32} : hput h (cad g x) (.inr (0, ob0 A F)) = gput h g (sC G (cix x) F) := by
  unfold cad cix
  by_cases q : x = 0
  · rw [if_pos q, if_pos q]; exact hput_c0 hG
  · rw [if_neg q, if_neg q]; exact hput_c1 hG
end GMS
/-- the first place where p holds, among n from i on -/
def ff (p : Nat → Bool) : Nat → Nat → Option Nat
  | _, 0 => none
  | i, n + 1 => if p i then some i else ff p (i + 1) n
theorem ff_cases (p : Nat → Bool) : ∀ (n i : Nat), ff p i n = none ∨ ∃ j, i ≤ j ∧ j < i + n ∧ p j = true ∧ ff p i n = some j
  | 0, i => Or.inl rfl
  | n + 1, i => by
    by_cases q : p i = true
    · exact Or.inr ⟨i, Nat.le_refl _, by omega, q, by simp [ff, q]⟩
    · rcases ff_cases p n (i + 1) with h | ⟨j, h1, h2, h3, h4⟩
      · exact Or.inl (by simp [ff, q, h])
      · exact Or.inr ⟨j, by omega, by omega, h3, by simp [ff, q, h4]⟩
def kf (f : Int32 → Nat → Int32) : Int32 → Nat → Nat → Int32
  | a, _, 0 => a
  | a, i, n + 1 => kf f (f a i) (i + 1) n

section RS
variable {l : Launch} {D : va_G} {cA : Nat → ClassId} {N0 : Nat} {own : String} {cc : ByteArray} {nL : Nat} {ret : Option FieldType} {nm : String} {R : Room} {X : State → Prop} {F : List Frame → Array Value → State → State → Prop} {h : AH} {k n pc : Nat} {L : List (Option Value)} {st : List Value}
theorem in_n {i N : Nat} (hi : i < N) (hN : N < 2 ^ 31) : vp_in (nI i) N := vp_in_nI hi hN
theorem R_ship {a g i : Nat} (hd : decode cc pc = .ok (.aaload, 1)) (ha : h.2 a = some (.inl (2, 8, .inr (.inr (.inr (.inr (fun j => some (sad g j)))))))) (hi : i < 8) (kk : Run l D cA N0 own cc nL ret nm R X F h k n (pc + 1) L (.ref (sad g i) :: st)) : Run l D cA N0 own cc nL ret nm R X F h k n pc L (.int (nI i) :: .ref a :: st) := by
  refine R_aald2 hd ha (vp_in_nI hi (by decide)) ?_
  rw [nI_clamp (show i < 2 ^ 31 by omega)]
  exact kk
theorem R_iastF {a N : Nat} {f : Nat → Int32} {j x : Int32} (hd : decode cc pc = .ok (.iastore, 1)) (ha : h.2 a = some (.inl (0, N, .inl f))) (hj : vp_in j N) (kk : ∀ h1 : AH, h1 = hput h a (.inl (0, N, .inl (upd f j.toNatClampNeg x))) → h1.2 a = some (.inl (0, N, .inl (upd f j.toNatClampNeg x))) → Run l D cA N0 own cc nL ret nm R X F h1 k n (pc + 1) L st) : Run l D cA N0 own cc nL ret nm R X F h k n pc L (.int x :: .int j :: .ref a :: st) := R_iast hd ha hj (kk _ rfl (hput_at h a _))
end RS
theorem in_x {x : Int32} {N : Nat} (hN : N < 2 ^ 31) (h0 : 0 ≤ x) (h1 : x < nI N) : vp_in x N := by
  obtain ⟨i, hi, rfl⟩ := i_nI h0 h1 hN
  exact vp_in_nI hi hN
def k_isl (G : Gm) (x : Int32) : Bool := decide ((0 ≤ x ∧ x < 81) ∧ G.2.1 x.toNatClampNeg = 1)
theorem k_isl_t {G : Gm} {x : Int32} (h : (0 ≤ x ∧ x < 81) ∧ G.2.1 x.toNatClampNeg = 1) : k_isl G x = true := decide_eq_true h
theorem k_isl_f {G : Gm} {x : Int32} (h : ¬ ((0 ≤ x ∧ x < 81) ∧ G.2.1 x.toNatClampNeg = 1)) : ¬ k_isl G x = true := fun z => h (of_decide_eq_true z)
def k_hit (G : Gm) (x : Int32) (i : Nat) : Bool := decide (0 < shF G i 4 ∧ shF G i 2 = x)
def k_on (G : Gm) (x : Int32) : Option Nat := ff (k_hit G x) 0 8
def k_val (G : Gm) (x : Int32) : Bool := decide (0 ≤ x ∧ x < G.1 4 ∧ x < 8)
def k_known (G : Gm) (x : Int32) : Option Nat := if k_val G x = true then some x.toNatClampNeg else none
def k_free (G : Gm) (x : Int32) : Bool := decide ((0 ≤ x ∧ x < 81) ∧ ¬ k_isl G x = true ∧ k_on G x = none)
def k_ahead (G : Gm) (i : Nat) (x d : Int32) : Int32 := if (k_next x d = shF G i 2 ∧ ¬ k_next x d = -9) ∨ k_free G (k_next x d) = true then k_next x d else -9
def k_cont (G : Gm) (x : Int32) : Int32 := if k_isl G x = true then 8 else match k_on G x with
  | none => -9
  | some i => shF G i 0
def k_told (G : Gm) : Int32 := if G.1 1 = 0 then (if cF G 0 1 = -9 then 0 else 1) + (if cF G 1 1 = -9 then 0 else 2) else 3
def k_dir (G : Gm) (s : Int32) : Int32 := G.1 2 + s - (G.1 2 + s) / 6 * 6
def k_str (s : Int32) : Int32 := s - s / 3 * 3 + 1
def k_now (G : Gm) (i : Nat) : Int32 := k_steps (shF G i) (G.1 2) (G.1 3)
def k_al (G : Gm) (d : Int32) (v : Nat) : Nat → Int32 → Int32 → Int32
  | 0, _, _ => 0
  | n + 1, q, x => if k_next x d = -9 ∨ k_isl G (k_next x d) = true then 0 else match k_on G (k_next x d) with
    | some j => if shF G j 0 = shF G v 0 then q else 0
    | none => k_al G d v n (q + Int32.ofInt 1) (k_next x d)
def k_along (G : Gm) (x d : Int32) (v : Nat) : Int32 := k_al G d v 3 1 x
def k_shot (G : Gm) (i : Nat) (s : Int32) (v : Nat) : Int32 := if ¬ 0 < shF G i 4 ∨ shF G i 1 = shF G v 1 then 0 else
  let d := shF G i 3 + (if s = 0 then 4 else 1)
  let a := k_along G (shF G i 2) (d - d / 6 * 6) v
  if a = 0 then k_along G (shF G i 2) (d + 1 - (d + 1) / 6 * 6) v else a
def k_targets (G : Gm) (i : Nat) (s : Int32) : Int32 := kf (fun a j => if k_shot G i s j = 0 then a else a ||| 1 <<< (shF G j 0 &&& 31)) 0 0 8
def k_threats (G : Gm) (v : Nat) : Int32 := kf (fun a j => if k_shot G j 0 v = 0 ∧ k_shot G j 1 v = 0 then a else a ||| 1 <<< (shF G j 0 &&& 31)) 0 0 8
def k_isls (G : Gm) : Int32 := kf (fun a j => a + G.2.1 j) 0 0 81
def k_fleet (G : Gm) (c : Int32) : Int32 := kf (fun a j => if 0 < shF G j 4 ∧ shF G j 1 = c then a ||| 1 <<< (shF G j 0 &&& 31) else a) 0 0 8
def k_hulls (G : Gm) (c : Int32) : Int32 := kf (fun a j => if 0 < shF G j 4 ∧ shF G j 1 = c then a + shF G j 4 else a) 0 0 8
def k_strength (G : Gm) (c : Int32) : Int32 := kf (fun a j => if 0 < shF G j 4 ∧ shF G j 1 = c then a + (6 * shF G j 4 + 4 * shF G j 6 + shF G j 7 * shF G j 5) else a) 0 0 8 / 8
theorem kf_s (f : Int32 → Nat → Int32) (a : Int32) (i n : Nat) : kf f a i (n + 1) = kf f (f a i) (i + 1) n := rfl
theorem ff_s (p : Nat → Bool) (i n : Nat) : ff p i (n + 1) = if p i then some i else ff p (i + 1) n := rfl
theorem k_on_cases (G : Gm) (x : Int32) : k_on G x = none ∨ ∃ j, j < 8 ∧ k_hit G x j = true ∧ k_on G x = some j := by
  rcases ff_cases (k_hit G x) 8 0 with q | ⟨j, h1, h2, h3, h4⟩
  · exact Or.inl q
  · exact Or.inr ⟨j, by omega, h3, h4⟩
theorem k_known_cases (G : Gm) (x : Int32) : (¬ k_val G x = true ∧ k_known G x = none) ∨ ∃ j, j < 8 ∧ x = nI j ∧ k_val G x = true ∧ k_known G x = some j := by
  by_cases q : k_val G x = true
  · have q' := of_decide_eq_true q
    obtain ⟨j, hj, e⟩ := i_nI q'.1 (show x < nI 8 from q'.2.2) (by decide)
    refine Or.inr ⟨j, hj, e, q, ?_⟩
    rw [k_known, if_pos q, e, nI_clamp (by omega)]
  · exact Or.inl ⟨q, if_neg q⟩
section LV6
variable {l : Launch} {D : va_G} {cA : Nat → ClassId} {N0 : Nat} {h : AH} {g : Nat} {G : Gm}
set_option maxHeartbeats 4000000 in
set_option maxRecDepth 100000 in
theorem c_X1_turn (hG : GmAt h g G)  : Spec l D cA N0 m_X1_turn 0 0 0 [.ref g] h (fun r h' => r = some (.int (G.1 0)) ∧ h' = h) := by
  refine Spec.of (L := [some (.ref g)]) (by decide) rfl (Nat.le_of_ble_eq_true rfl) ?_
  have go := hG.o0
  have gc0 := hG.c0
  have gc1 := hG.c1
  have gi := hG.is
  have gs := hG.sa
  refine R_aload_n0 (pc := 0) dX1_turn_0 ?_
  refine G_X1_40 (pc := 1) dX1_turn_1 (by assumption) ?_
  refine R_iret (pc := 4) rfl rfl dX1_turn_4 ?_
  exact ⟨rfl, rfl⟩

set_option maxHeartbeats 4000000 in
set_option maxRecDepth 100000 in
theorem c_X1_captainOf (hG : GmAt h g G) {x : Int32} : Spec l D cA N0 m_X1_captainOf 0 0 0 [.ref g, .int x] h (fun r h' => r = some (.ref (cad g x)) ∧ h' = h) := by
  refine Spec.of (L := [some (.ref g), some (.int x)]) (by decide) rfl (Nat.le_of_ble_eq_true rfl) ?_
  have go := hG.o0
  have gc0 := hG.c0
  have gc1 := hG.c1
  have gi := hG.is
  have gs := hG.sa
  refine R_iload_n1 (pc := 0) dX1_captainOf_0 ?_
  refine R_if_ne (pc := 1) 11 dX1_captainOf_1 (by decide) (fun c_1 => ?_) (fun c_1 => ?_)
  · skip
    refine R_aload_n0 (pc := 11) dX1_captainOf_11 ?_
    refine G_X1_22 (pc := 12) dX1_captainOf_12 (by assumption) ?_
    refine R_aret (pc := 15) rfl (Or.inr ⟨_, rfl⟩) dX1_captainOf_15 ?_
    exact ⟨by simp only [cad, c_1, reduceCtorEq, if_true, if_false, reduceIte, and_true, true_and, and_false, false_and, and_self, or_true, true_or, or_false, false_or, or_self, not_true, not_false_iff], rfl⟩
  · skip
    refine R_aload_n0 (pc := 4) dX1_captainOf_4 ?_
    refine G_X1_18 (pc := 5) dX1_captainOf_5 (by assumption) ?_
    refine R_goto (pc := 8) 15 dX1_captainOf_8 (by decide) ?_
    refine R_aret (pc := 15) rfl (Or.inr ⟨_, rfl⟩) dX1_captainOf_15 ?_
    exact ⟨by simp only [cad, c_1, reduceCtorEq, if_true, if_false, reduceIte, and_true, true_and, and_false, false_and, and_self, or_true, true_or, or_false, false_or, or_self, not_true, not_false_iff], rfl⟩

set_option maxHeartbeats 4000000 in
set_option maxRecDepth 100000 in
theorem c_X1_known (hG : GmAt h g G) {x : Int32} : Spec l D cA N0 m_X1_known 0 0 0 [.ref g, .int x] h (fun r h' => (∃ z, z = (k_known G x).map (sad g) ∧ r = some (va_rf z)) ∧ h' = h) := by
  refine Spec.of (L := [some (.ref g), some (.int x)]) (by decide) rfl (Nat.le_of_ble_eq_true rfl) ?_
  have go := hG.o0
  have gc0 := hG.c0
  have gc1 := hG.c1
  have gi := hG.is
  have gs := hG.sa
  refine R_iload_n1 (pc := 0) dX1_known_0 ?_
  refine R_if_lt (pc := 1) 30 dX1_known_1 (by decide) (fun c_1 => ?_) (fun c_1 => ?_)
  · skip
    have d_1 := Int32.not_le.mpr c_1
    refine R_null (pc := 30) dX1_known_30 ?_
    refine R_aret (pc := 31) rfl (Or.inl rfl) dX1_known_31 ?_
    first
      | exact ⟨⟨_, rfl, by rw [k_known, if_neg (fun q => by have q := of_decide_eq_true q; first | exact d_1 q.1 | exact d_9 q.2.1 | exact d_18 q.2.2)]; rfl⟩, rfl⟩
      | exact ⟨⟨_, rfl, by rw [k_known, if_pos (show k_val G _ = true from decide_eq_true ⟨d_1, d_9, d_18⟩), nI_clamp (by omega)]; rfl⟩, rfl⟩
  · skip
    have d_1 := Int32.not_lt.mp c_1
    refine R_iload_n1 (pc := 4) dX1_known_4 ?_
    refine R_aload_n0 (pc := 5) dX1_known_5 ?_
    refine G_X1_50 (pc := 6) dX1_known_6 (by assumption) ?_
    refine R_icmp_ge (pc := 9) 30 dX1_known_9 (by decide) (fun c_9 => ?_) (fun c_9 => ?_)
    · skip
      have d_9 := Int32.not_lt.mpr c_9
      refine R_null (pc := 30) dX1_known_30 ?_
      refine R_aret (pc := 31) rfl (Or.inl rfl) dX1_known_31 ?_
      first
        | exact ⟨⟨_, rfl, by rw [k_known, if_neg (fun q => by have q := of_decide_eq_true q; first | exact d_1 q.1 | exact d_9 q.2.1 | exact d_18 q.2.2)]; rfl⟩, rfl⟩
        | exact ⟨⟨_, rfl, by rw [k_known, if_pos (show k_val G _ = true from decide_eq_true ⟨d_1, d_9, d_18⟩), nI_clamp (by omega)]; rfl⟩, rfl⟩
    · skip
      have d_9 := Int32.not_le.mp c_9
      refine R_iload_n1 (pc := 12) dX1_known_12 ?_
      refine R_aload_n0 (pc := 13) dX1_known_13 ?_
      refine G_X1_33 (pc := 14) dX1_known_14 (by assumption) ?_
      refine R_alen (pc := 17) (v := 8) dX1_known_17 (by assumption) (by decide) rfl ?_
      refine R_icmp_ge (pc := 18) 30 dX1_known_18 (by decide) (fun c_18 => ?_) (fun c_18 => ?_)
      · skip
        have d_18 := Int32.not_lt.mpr c_18
        refine R_null (pc := 30) dX1_known_30 ?_
        refine R_aret (pc := 31) rfl (Or.inl rfl) dX1_known_31 ?_
        first
          | exact ⟨⟨_, rfl, by rw [k_known, if_neg (fun q => by have q := of_decide_eq_true q; first | exact d_1 q.1 | exact d_9 q.2.1 | exact d_18 q.2.2)]; rfl⟩, rfl⟩
          | exact ⟨⟨_, rfl, by rw [k_known, if_pos (show k_val G _ = true from decide_eq_true ⟨d_1, d_9, d_18⟩), nI_clamp (by omega)]; rfl⟩, rfl⟩
      · skip
        have d_18 := Int32.not_le.mp c_18
        obtain ⟨i, hi, hx⟩ := i_nI d_1 (show x < nI 8 from d_18) (by decide)
        subst hx
        refine R_aload_n0 (pc := 21) dX1_known_21 ?_
        refine G_X1_33 (pc := 22) dX1_known_22 (by assumption) ?_
        refine R_iload_n1 (pc := 25) dX1_known_25 ?_
        refine R_ship (pc := 26) dX1_known_26 (by assumption) (by assumption) ?_
        refine R_goto (pc := 27) 31 dX1_known_27 (by decide) ?_
        refine R_aret (pc := 31) rfl (Or.inr ⟨_, rfl⟩) dX1_known_31 ?_
        first
          | exact ⟨⟨_, rfl, by rw [k_known, if_neg (fun q => by have q := of_decide_eq_true q; first | exact d_1 q.1 | exact d_9 q.2.1 | exact d_18 q.2.2)]; rfl⟩, rfl⟩
          | exact ⟨⟨_, rfl, by rw [k_known, if_pos (show k_val G _ = true from decide_eq_true ⟨d_1, d_9, d_18⟩), nI_clamp (by omega)]; rfl⟩, rfl⟩

set_option maxHeartbeats 4000000 in
set_option maxRecDepth 100000 in
theorem L_X1_shipOn (hG : GmAt h g G) {x : Int32} : ∀ (n i : Nat), i + n = 8 → True → RunM l D cA N0 m_X1_shipOn 1 0 0 (fun r h' => (∃ z, z = (ff (k_hit G x) i n).map (sad g) ∧ r = some (va_rf z)) ∧ h' = h) h 0 0 11 [some (.ref g), some (.int x), some (.ref (gA g 9)), some (.int 8), some (.int (nI i)), none] [] := by
  intro n
  induction n with
  | zero =>
    intro i hin hinv 
    have hie : i = 8 := by omega
    subst hie
    have go := hG.o0
    have gc0 := hG.c0
    have gc1 := hG.c1
    have gi := hG.is
    have gs := hG.sa
    refine R_iload4 (pc := 11) dX1_shipOn_11 ?_
    refine R_iload_n3 (pc := 13) dX1_shipOn_13 ?_
    refine R_icmp_ge (pc := 14) 49 dX1_shipOn_14 (by decide) (fun c_14 => ?_) (fun c_14 => absurd (by decide) c_14)
    refine R_null (pc := 49) dX1_shipOn_49 ?_
    refine R_aret (pc := 50) rfl (Or.inl rfl) dX1_shipOn_50 ?_
    exact ⟨⟨_, rfl, rfl⟩, rfl⟩
  | succ n ih =>
    intro i hin hinv 
    have hlt : i < 8 := by omega
    have go := hG.o0
    have gc0 := hG.c0
    have gc1 := hG.c1
    have gi := hG.is
    have gs := hG.sa
    refine R_iload4 (pc := 11) dX1_shipOn_11 ?_
    refine R_iload_n3 (pc := 13) dX1_shipOn_13 ?_
    refine R_icmp_ge (pc := 14) 49 dX1_shipOn_14 (by decide) (fun c_14 => absurd c_14 (nI_ge hlt (by decide))) (fun c_14 => ?_)
    refine R_aload_n2 (pc := 17) dX1_shipOn_17 ?_
    refine R_iload4 (pc := 18) dX1_shipOn_18 ?_
    refine R_ship (pc := 20) dX1_shipOn_20 (by assumption) (by assumption) ?_
    have fsi := hG.sh hlt
    refine R_astore5 (pc := 21) dX1_shipOn_21 rfl (by decide) ?_
    refine R_aload5 (pc := 23) dX1_shipOn_23 ?_
    refine R_callV0 (pc := 25) (T := TX7) cal_X7_floats kw369 kw370 kw371 dX1_shipOn_25 (c_X7_floats (by assumption)) (by decide) (Nat.le_of_ble_eq_true rfl) (ci := 5) rfl (by assumption) ?_
    rintro _ _ ⟨rfl, rfl⟩
    refine R_ifb_eq (pc := 28) 43 dX1_shipOn_28 (by decide) (fun c_28 => ?_) (fun c_28 => ?_)
    · skip
      refine R_iinc4 (pc := 43) dX1_shipOn_43 rfl (by decide) ?_
      refine R_goto (pc := 46) 11 dX1_shipOn_46 (by decide) ?_
      rw [nI_s]
      refine R_weak (by repeat (first | exact trivial | refine ⟨rfl, ?_⟩ | refine ⟨trivial, ?_⟩)) (R_post (fun a h1 q1 => ?_) (ih (i + 1) (by omega) trivial))
      rw [ff_s, if_neg (by simp only [k_hit, decide_eq_true_eq]; exact fun z => by first | exact c_28 z.1 | exact c_37 z.2)]
      exact q1
    · skip
      refine R_aload5 (pc := 31) dX1_shipOn_31 ?_
      refine G_X1_73 (pc := 33) dX1_shipOn_33 (by assumption) ?_
      refine R_iload_n1 (pc := 36) dX1_shipOn_36 ?_
      refine R_icmp_ne (pc := 37) 43 dX1_shipOn_37 (by decide) (fun c_37 => ?_) (fun c_37 => ?_)
      · skip
        refine R_iinc4 (pc := 43) dX1_shipOn_43 rfl (by decide) ?_
        refine R_goto (pc := 46) 11 dX1_shipOn_46 (by decide) ?_
        rw [nI_s]
        refine R_weak (by repeat (first | exact trivial | refine ⟨rfl, ?_⟩ | refine ⟨trivial, ?_⟩)) (R_post (fun a h1 q1 => ?_) (ih (i + 1) (by omega) trivial))
        rw [ff_s, if_neg (by simp only [k_hit, decide_eq_true_eq]; exact fun z => by first | exact c_28 z.1 | exact c_37 z.2)]
        exact q1
      · skip
        refine R_aload5 (pc := 40) dX1_shipOn_40 ?_
        refine R_aret (pc := 42) rfl (Or.inr ⟨_, rfl⟩) dX1_shipOn_42 ?_
        exact ⟨⟨_, rfl, by rw [ff_s, if_pos (by simp only [k_hit, decide_eq_true_eq]; exact ⟨c_28, c_37⟩)]; rfl⟩, rfl⟩

set_option maxHeartbeats 4000000 in
set_option maxRecDepth 100000 in
theorem c_X1_shipOn (hG : GmAt h g G) {x : Int32} : Spec l D cA N0 m_X1_shipOn 1 0 0 [.ref g, .int x] h (fun r h' => (∃ z, z = (k_on G x).map (sad g) ∧ r = some (va_rf z)) ∧ h' = h) := by
  refine Spec.of (L := [some (.ref g), some (.int x), none, none, none, none]) (by decide) rfl (Nat.le_of_ble_eq_true rfl) ?_
  have go := hG.o0
  have gc0 := hG.c0
  have gc1 := hG.c1
  have gi := hG.is
  have gs := hG.sa
  refine R_aload_n0 (pc := 0) dX1_shipOn_0 ?_
  refine G_X1_33 (pc := 1) dX1_shipOn_1 (by assumption) ?_
  refine R_astore_n2 (pc := 4) dX1_shipOn_4 rfl (by decide) ?_
  refine R_aload_n2 (pc := 5) dX1_shipOn_5 ?_
  refine R_alen (pc := 6) (v := 8) dX1_shipOn_6 (by assumption) (by decide) rfl ?_
  refine R_istore_n3 (pc := 7) dX1_shipOn_7 rfl (by decide) ?_
  refine R_iconst (pc := 8) (v := 0) dX1_shipOn_8 (by decide) ?_
  refine R_istore4 (pc := 9) dX1_shipOn_9 rfl (by decide) ?_
  exact L_X1_shipOn hG 8 0 rfl trivial

set_option maxHeartbeats 4000000 in
set_option maxRecDepth 100000 in
theorem c_X1_isIsland (hG : GmAt h g G) {x : Int32} : Spec l D cA N0 m_X1_isIsland 1 0 0 [.ref g, .int x] h (fun r h' => r = some (.int (bI (k_isl G x = true))) ∧ h' = h) := by
  refine Spec.of (L := [some (.ref g), some (.int x)]) (by decide) rfl (Nat.le_of_ble_eq_true rfl) ?_
  have go := hG.o0
  have gc0 := hG.c0
  have gc1 := hG.c1
  have gi := hG.is
  have gs := hG.sa
  refine R_iload_n1 (pc := 0) dX1_isIsland_0 ?_
  refine R_callS1 (pc := 1) cal_X2_exists kw404 kw405 dX1_isIsland_1 c_X2_exists (by decide) (Nat.le_of_ble_eq_true rfl) ?_
  rintro _ _ ⟨rfl, rfl⟩
  refine R_ifb_eq (pc := 4) 21 dX1_isIsland_4 (by decide) (fun c_4 => ?_) (fun c_4 => ?_)
  · skip
    refine R_iconst (pc := 21) (v := 0) dX1_isIsland_21 (by decide) ?_
    refine R_iret (pc := 22) rfl rfl dX1_isIsland_22 ?_
    first
      | exact ⟨by rw [bI_t (k_isl_t ⟨c_4, c_14⟩)], rfl⟩
      | exact ⟨by rw [bI_f (k_isl_f (fun q => by first | exact c_4 q.1 | exact c_14 q.2))], rfl⟩
  · skip
    refine R_aload_n0 (pc := 7) dX1_isIsland_7 ?_
    refine G_X1_27 (pc := 8) dX1_isIsland_8 (by assumption) ?_
    refine R_iload_n1 (pc := 11) dX1_isIsland_11 ?_
    refine R_iald (pc := 12) dX1_isIsland_12 (by assumption) (in_x (by decide) c_4.1 (show x < nI 81 from c_4.2)) ?_
    refine R_iconst (pc := 13) (v := 1) dX1_isIsland_13 (by decide) ?_
    refine R_icmp_ne (pc := 14) 21 dX1_isIsland_14 (by decide) (fun c_14 => ?_) (fun c_14 => ?_)
    · skip
      refine R_iconst (pc := 21) (v := 0) dX1_isIsland_21 (by decide) ?_
      refine R_iret (pc := 22) rfl rfl dX1_isIsland_22 ?_
      first
        | exact ⟨by rw [bI_t (k_isl_t ⟨c_4, c_14⟩)], rfl⟩
        | exact ⟨by rw [bI_f (k_isl_f (fun q => by first | exact c_4 q.1 | exact c_14 q.2))], rfl⟩
    · skip
      refine R_iconst (pc := 17) (v := 1) dX1_isIsland_17 (by decide) ?_
      refine R_goto (pc := 18) 22 dX1_isIsland_18 (by decide) ?_
      refine R_iret (pc := 22) rfl rfl dX1_isIsland_22 ?_
      first
        | exact ⟨by rw [bI_t (k_isl_t ⟨c_4, c_14⟩)], rfl⟩
        | exact ⟨by rw [bI_f (k_isl_f (fun q => by first | exact c_4 q.1 | exact c_14 q.2))], rfl⟩

set_option maxHeartbeats 4000000 in
set_option maxRecDepth 100000 in
theorem c_X1_isFree (hG : GmAt h g G) {x : Int32} : Spec l D cA N0 m_X1_isFree 2 0 0 [.ref g, .int x] h (fun r h' => r = some (.int (bI (k_free G x = true))) ∧ h' = h) := by
  refine Spec.of (L := [some (.ref g), some (.int x)]) (by decide) rfl (Nat.le_of_ble_eq_true rfl) ?_
  have go := hG.o0
  have gc0 := hG.c0
  have gc1 := hG.c1
  have gi := hG.is
  have gs := hG.sa
  refine R_iload_n1 (pc := 0) dX1_isFree_0 ?_
  refine R_callS1 (pc := 1) cal_X2_exists kw404 kw405 dX1_isFree_1 c_X2_exists (by decide) (Nat.le_of_ble_eq_true rfl) ?_
  rintro _ _ ⟨rfl, rfl⟩
  refine R_ifb_eq (pc := 4) 27 dX1_isFree_4 (by decide) (fun c_4 => ?_) (fun c_4 => ?_)
  · skip
    refine R_iconst (pc := 27) (v := 0) dX1_isFree_27 (by decide) ?_
    refine R_iret (pc := 28) rfl rfl dX1_isFree_28 ?_
    exact ⟨by rw [bI_f (fun q => by have q := of_decide_eq_true q; exact c_4 q.1)], rfl⟩
  · skip
    refine R_aload_n0 (pc := 7) dX1_isFree_7 ?_
    refine R_iload_n1 (pc := 8) dX1_isFree_8 ?_
    refine R_callV1 (pc := 9) (T := TX1) cal_X1_isIsland kw420 kw422 kw8 dX1_isFree_9 (c_X1_isIsland (by assumption)) (by decide) (Nat.le_of_ble_eq_true rfl) (ci := 1) rfl (by assumption) ?_
    rintro _ _ ⟨rfl, rfl⟩
    refine R_ifb_ne (pc := 12) 27 dX1_isFree_12 (by decide) (fun c_12 => ?_) (fun c_12 => ?_)
    · skip
      refine R_iconst (pc := 27) (v := 0) dX1_isFree_27 (by decide) ?_
      refine R_iret (pc := 28) rfl rfl dX1_isFree_28 ?_
      exact ⟨by rw [bI_f (fun q => by have q := of_decide_eq_true q; exact q.2.1 c_12)], rfl⟩
    · skip
      refine R_aload_n0 (pc := 15) dX1_isFree_15 ?_
      refine R_iload_n1 (pc := 16) dX1_isFree_16 ?_
      refine R_callV1 (pc := 17) (T := TX1) cal_X1_shipOn kw407 kw409 kw7 dX1_isFree_17 (c_X1_shipOn (by assumption)) (by decide) (Nat.le_of_ble_eq_true rfl) (ci := 1) rfl (by assumption) ?_
      rintro _ _ ⟨⟨z17, hz17, rfl⟩, rfl⟩
      rcases k_on_cases _ _ with oz17 | ⟨o17, ol17, oh17, oz17⟩ <;> (rw [oz17] at hz17; subst hz17)
      · skip
        refine R_ifnonnullN (pc := 20) dX1_isFree_20 ?_
        refine R_iconst (pc := 23) (v := 1) dX1_isFree_23 (by decide) ?_
        refine R_goto (pc := 24) 28 dX1_isFree_24 (by decide) ?_
        refine R_iret (pc := 28) rfl rfl dX1_isFree_28 ?_
        exact ⟨by rw [bI_t (show k_free G x = true from decide_eq_true ⟨c_4, c_12, oz17⟩)], rfl⟩
      · skip
        have og17 := hG.sh ol17
        refine R_ifnonnull (pc := 20) 27 dX1_isFree_20 (by decide) ?_
        refine R_iconst (pc := 27) (v := 0) dX1_isFree_27 (by decide) ?_
        refine R_iret (pc := 28) rfl rfl dX1_isFree_28 ?_
        exact ⟨by rw [bI_f (fun q => by have q := of_decide_eq_true q; (rw [oz17] at q; cases q.2.2))], rfl⟩

set_option maxHeartbeats 4000000 in
set_option maxRecDepth 100000 in
theorem c_X1_hexAhead (hG : GmAt h g G) {i : Nat} (hi : i < 8) {x y : Int32} : Spec l D cA N0 m_X1_hexAhead 3 0 0 [.ref g, .ref (sad g i), .int x, .int y] h (fun r h' => r = some (.int (k_ahead G i x y)) ∧ h' = h) := by
  refine Spec.of (L := [some (.ref g), some (.ref (sad g i)), some (.int x), some (.int y), none, none]) (by decide) rfl (Nat.le_of_ble_eq_true rfl) ?_
  have go := hG.o0
  have gc0 := hG.c0
  have gc1 := hG.c1
  have gi := hG.is
  have gs := hG.sa
  have gsh := hG.sh hi
  refine R_iload_n2 (pc := 0) dX1_hexAhead_0 ?_
  refine R_iload_n3 (pc := 1) dX1_hexAhead_1 ?_
  refine R_callS2 (pc := 2) cal_X2_next kw509 kw510 dX1_hexAhead_2 c_X2_next (by decide) (Nat.le_of_ble_eq_true rfl) ?_
  rintro _ _ ⟨rfl, rfl⟩
  refine R_istore4 (pc := 5) dX1_hexAhead_5 rfl (by decide) ?_
  refine R_iload4 (pc := 7) dX1_hexAhead_7 ?_
  refine R_aload_n1 (pc := 9) dX1_hexAhead_9 ?_
  refine G_X1_73 (pc := 10) dX1_hexAhead_10 (by assumption) ?_
  refine R_icmp_ne (pc := 13) 27 dX1_hexAhead_13 (by decide) (fun c_13 => ?_) (fun c_13 => ?_)
  · skip
    refine R_iconst (pc := 27) (v := 0) dX1_hexAhead_27 (by decide) ?_
    refine R_istore5 (pc := 28) dX1_hexAhead_28 rfl (by decide) ?_
    refine R_iload5 (pc := 30) dX1_hexAhead_30 ?_
    refine R_if_ne (pc := 32) 44 dX1_hexAhead_32 (by decide) (fun c0 => False.elim (by revert c0; decide)) (fun _ => ?_)
    refine R_aload_n0 (pc := 35) dX1_hexAhead_35 ?_
    refine R_iload4 (pc := 36) dX1_hexAhead_36 ?_
    refine R_callV1 (pc := 38) (T := TX1) cal_X1_isFree kw436 kw438 kw9 dX1_hexAhead_38 (c_X1_isFree (by assumption)) (by decide) (Nat.le_of_ble_eq_true rfl) (ci := 1) rfl (by assumption) ?_
    rintro _ _ ⟨rfl, rfl⟩
    refine R_ifb_eq (pc := 41) 49 dX1_hexAhead_41 (by decide) (fun c_41 => ?_) (fun c_41 => ?_)
    · skip
      refine R_bipush (pc := 49) (v := (-9)) dX1_hexAhead_49 (by decide) ?_
      refine R_iret (pc := 51) rfl rfl dX1_hexAhead_51 ?_
      exact ⟨by unfold k_ahead; rw [if_neg (fun z => z.elim (fun w => c_13 w.1) c_41)], rfl⟩
    · skip
      refine R_iload4 (pc := 44) dX1_hexAhead_44 ?_
      refine R_goto (pc := 46) 51 dX1_hexAhead_46 (by decide) ?_
      refine R_iret (pc := 51) rfl rfl dX1_hexAhead_51 ?_
      exact ⟨by unfold k_ahead; rw [if_pos (Or.inr c_41)], rfl⟩
  · skip
    refine R_iload4 (pc := 16) dX1_hexAhead_16 ?_
    refine R_bipush (pc := 18) (v := (-9)) dX1_hexAhead_18 (by decide) ?_
    refine R_icmp_eq (pc := 20) 27 dX1_hexAhead_20 (by decide) (fun c_20 => ?_) (fun c_20 => ?_)
    · skip
      refine R_iconst (pc := 27) (v := 0) dX1_hexAhead_27 (by decide) ?_
      refine R_istore5 (pc := 28) dX1_hexAhead_28 rfl (by decide) ?_
      refine R_iload5 (pc := 30) dX1_hexAhead_30 ?_
      refine R_if_ne (pc := 32) 44 dX1_hexAhead_32 (by decide) (fun c0 => False.elim (by revert c0; decide)) (fun _ => ?_)
      refine R_aload_n0 (pc := 35) dX1_hexAhead_35 ?_
      refine R_iload4 (pc := 36) dX1_hexAhead_36 ?_
      refine R_callV1 (pc := 38) (T := TX1) cal_X1_isFree kw436 kw438 kw9 dX1_hexAhead_38 (c_X1_isFree (by assumption)) (by decide) (Nat.le_of_ble_eq_true rfl) (ci := 1) rfl (by assumption) ?_
      rintro _ _ ⟨rfl, rfl⟩
      refine R_ifb_eq (pc := 41) 49 dX1_hexAhead_41 (by decide) (fun c_41 => ?_) (fun c_41 => ?_)
      · skip
        refine R_bipush (pc := 49) (v := (-9)) dX1_hexAhead_49 (by decide) ?_
        refine R_iret (pc := 51) rfl rfl dX1_hexAhead_51 ?_
        exact ⟨by unfold k_ahead; rw [if_neg (fun z => z.elim (fun w => w.2 c_20) c_41)], rfl⟩
      · skip
        refine R_iload4 (pc := 44) dX1_hexAhead_44 ?_
        refine R_goto (pc := 46) 51 dX1_hexAhead_46 (by decide) ?_
        refine R_iret (pc := 51) rfl rfl dX1_hexAhead_51 ?_
        exact ⟨by unfold k_ahead; rw [if_pos (Or.inr c_41)], rfl⟩
    · skip
      refine R_iconst (pc := 23) (v := 1) dX1_hexAhead_23 (by decide) ?_
      refine R_goto (pc := 24) 28 dX1_hexAhead_24 (by decide) ?_
      refine R_istore5 (pc := 28) dX1_hexAhead_28 rfl (by decide) ?_
      refine R_iload5 (pc := 30) dX1_hexAhead_30 ?_
      refine R_if_ne (pc := 32) 44 dX1_hexAhead_32 (by decide) (fun _ => ?_) (fun c0 => False.elim (by revert c0; decide))
      refine R_iload4 (pc := 44) dX1_hexAhead_44 ?_
      refine R_goto (pc := 46) 51 dX1_hexAhead_46 (by decide) ?_
      refine R_iret (pc := 51) rfl rfl dX1_hexAhead_51 ?_
      exact ⟨by unfold k_ahead; rw [if_pos (Or.inl ⟨c_13, c_20⟩)], rfl⟩

set_option maxHeartbeats 4000000 in
set_option maxRecDepth 100000 in
theorem c_X1_contentOf (hG : GmAt h g G) {x : Int32} : Spec l D cA N0 m_X1_contentOf 2 0 0 [.ref g, .int x] h (fun r h' => r = some (.int (k_cont G x)) ∧ h' = h) := by
  refine Spec.of (L := [some (.ref g), some (.int x), none]) (by decide) rfl (Nat.le_of_ble_eq_true rfl) ?_
  have go := hG.o0
  have gc0 := hG.c0
  have gc1 := hG.c1
  have gi := hG.is
  have gs := hG.sa
  refine R_aload_n0 (pc := 0) dX1_contentOf_0 ?_
  refine R_iload_n1 (pc := 1) dX1_contentOf_1 ?_
  refine R_callV1 (pc := 2) (T := TX1) cal_X1_isIsland kw420 kw422 kw8 dX1_contentOf_2 (c_X1_isIsland (by assumption)) (by decide) (Nat.le_of_ble_eq_true rfl) (ci := 1) rfl (by assumption) ?_
  rintro _ _ ⟨rfl, rfl⟩
  refine R_ifb_eq (pc := 5) 11 dX1_contentOf_5 (by decide) (fun c_5 => ?_) (fun c_5 => ?_)
  · skip
    refine R_aload_n0 (pc := 11) dX1_contentOf_11 ?_
    refine R_iload_n1 (pc := 12) dX1_contentOf_12 ?_
    refine R_callV1 (pc := 13) (T := TX1) cal_X1_shipOn kw407 kw409 kw7 dX1_contentOf_13 (c_X1_shipOn (by assumption)) (by decide) (Nat.le_of_ble_eq_true rfl) (ci := 1) rfl (by assumption) ?_
    rintro _ _ ⟨⟨z13, hz13, rfl⟩, rfl⟩
    rcases k_on_cases _ _ with oz13 | ⟨o13, ol13, oh13, oz13⟩ <;> (rw [oz13] at hz13; subst hz13)
    · skip
      refine R_astoreN_n2 (pc := 16) dX1_contentOf_16 rfl (by decide) ?_
      refine R_aloadN_n2 (pc := 17) dX1_contentOf_17 ?_
      refine R_ifnonnullN (pc := 18) dX1_contentOf_18 ?_
      refine R_bipush (pc := 21) (v := (-9)) dX1_contentOf_21 (by decide) ?_
      refine R_goto (pc := 23) 30 dX1_contentOf_23 (by decide) ?_
      refine R_iret (pc := 30) rfl rfl dX1_contentOf_30 ?_
      exact ⟨by first | (rw [k_cont, if_pos c_5]; done) | (rw [k_cont, if_neg c_5, oz13]), rfl⟩
    · skip
      have og13 := hG.sh ol13
      refine R_astore_n2 (pc := 16) dX1_contentOf_16 rfl (by decide) ?_
      refine R_aload_n2 (pc := 17) dX1_contentOf_17 ?_
      refine R_ifnonnull (pc := 18) 26 dX1_contentOf_18 (by decide) ?_
      refine R_aload_n2 (pc := 26) dX1_contentOf_26 ?_
      refine G_X1_94 (pc := 27) dX1_contentOf_27 (by assumption) ?_
      refine R_iret (pc := 30) rfl rfl dX1_contentOf_30 ?_
      exact ⟨by first | (rw [k_cont, if_pos c_5]; done) | (rw [k_cont, if_neg c_5, oz13]), rfl⟩
  · skip
    refine R_bipush (pc := 8) (v := 8) dX1_contentOf_8 (by decide) ?_
    refine R_iret (pc := 10) rfl rfl dX1_contentOf_10 ?_
    exact ⟨by first | (rw [k_cont, if_pos c_5]; done) | (rw [k_cont, if_neg c_5, oz13]), rfl⟩

set_option maxHeartbeats 4000000 in
set_option maxRecDepth 100000 in
theorem c_X1_toldSet (hG : GmAt h g G)  : Spec l D cA N0 m_X1_toldSet 0 0 0 [.ref g] h (fun r h' => r = some (.int (k_told G)) ∧ h' = h) := by
  refine Spec.of (L := [some (.ref g)]) (by decide) rfl (Nat.le_of_ble_eq_true rfl) ?_
  have go := hG.o0
  have gc0 := hG.c0
  have gc1 := hG.c1
  have gi := hG.is
  have gs := hG.sa
  refine R_aload_n0 (pc := 0) dX1_toldSet_0 ?_
  refine G_X1_43 (pc := 1) dX1_toldSet_1 (by assumption) ?_
  refine R_if_eq (pc := 4) 9 dX1_toldSet_4 (by decide) (fun c_4 => ?_) (fun c_4 => ?_)
  · skip
    refine R_aload_n0 (pc := 9) dX1_toldSet_9 ?_
    refine G_X1_18 (pc := 10) dX1_toldSet_10 (by assumption) ?_
    refine G_X1_133 (pc := 13) dX1_toldSet_13 (by assumption) ?_
    refine R_bipush (pc := 16) (v := (-9)) dX1_toldSet_16 (by decide) ?_
    refine R_icmp_ne (pc := 18) 25 dX1_toldSet_18 (by decide) (fun c_18 => ?_) (fun c_18 => ?_)
    · skip
      refine R_iconst (pc := 25) (v := 1) dX1_toldSet_25 (by decide) ?_
      refine R_aload_n0 (pc := 26) dX1_toldSet_26 ?_
      refine G_X1_22 (pc := 27) dX1_toldSet_27 (by assumption) ?_
      refine G_X1_133 (pc := 30) dX1_toldSet_30 (by assumption) ?_
      refine R_bipush (pc := 33) (v := (-9)) dX1_toldSet_33 (by decide) ?_
      refine R_icmp_ne (pc := 35) 42 dX1_toldSet_35 (by decide) (fun c_35 => ?_) (fun c_35 => ?_)
      · skip
        refine R_iconst (pc := 42) (v := 2) dX1_toldSet_42 (by decide) ?_
        refine R_iadd (pc := 43) dX1_toldSet_43 ?_
        refine R_iret (pc := 44) rfl rfl dX1_toldSet_44 ?_
        exact ⟨by simp only [k_told, c_4, c_18, c_35, reduceCtorEq, if_true, if_false, reduceIte, and_true, true_and, and_false, false_and, and_self, or_true, true_or, or_false, false_or, or_self, not_true, not_false_iff] <;> rfl, rfl⟩
      · skip
        refine R_iconst (pc := 38) (v := 0) dX1_toldSet_38 (by decide) ?_
        refine R_goto (pc := 39) 43 dX1_toldSet_39 (by decide) ?_
        refine R_iadd (pc := 43) dX1_toldSet_43 ?_
        refine R_iret (pc := 44) rfl rfl dX1_toldSet_44 ?_
        exact ⟨by simp only [k_told, c_4, c_18, c_35, reduceCtorEq, if_true, if_false, reduceIte, and_true, true_and, and_false, false_and, and_self, or_true, true_or, or_false, false_or, or_self, not_true, not_false_iff] <;> rfl, rfl⟩
    · skip
      refine R_iconst (pc := 21) (v := 0) dX1_toldSet_21 (by decide) ?_
      refine R_goto (pc := 22) 26 dX1_toldSet_22 (by decide) ?_
      refine R_aload_n0 (pc := 26) dX1_toldSet_26 ?_
      refine G_X1_22 (pc := 27) dX1_toldSet_27 (by assumption) ?_
      refine G_X1_133 (pc := 30) dX1_toldSet_30 (by assumption) ?_
      refine R_bipush (pc := 33) (v := (-9)) dX1_toldSet_33 (by decide) ?_
      refine R_icmp_ne (pc := 35) 42 dX1_toldSet_35 (by decide) (fun c_35 => ?_) (fun c_35 => ?_)
      · skip
        refine R_iconst (pc := 42) (v := 2) dX1_toldSet_42 (by decide) ?_
        refine R_iadd (pc := 43) dX1_toldSet_43 ?_
        refine R_iret (pc := 44) rfl rfl dX1_toldSet_44 ?_
        exact ⟨by simp only [k_told, c_4, c_18, c_35, reduceCtorEq, if_true, if_false, reduceIte, and_true, true_and, and_false, false_and, and_self, or_true, true_or, or_false, false_or, or_self, not_true, not_false_iff] <;> rfl, rfl⟩
      · skip
        refine R_iconst (pc := 38) (v := 0) dX1_toldSet_38 (by decide) ?_
        refine R_goto (pc := 39) 43 dX1_toldSet_39 (by decide) ?_
        refine R_iadd (pc := 43) dX1_toldSet_43 ?_
        refine R_iret (pc := 44) rfl rfl dX1_toldSet_44 ?_
        exact ⟨by simp only [k_told, c_4, c_18, c_35, reduceCtorEq, if_true, if_false, reduceIte, and_true, true_and, and_false, false_and, and_self, or_true, true_or, or_false, false_or, or_self, not_true, not_false_iff] <;> rfl, rfl⟩
  · skip
    refine R_iconst (pc := 7) (v := 3) dX1_toldSet_7 (by decide) ?_
    refine R_iret (pc := 8) rfl rfl dX1_toldSet_8 ?_
    exact ⟨by simp only [k_told, c_4, reduceCtorEq, if_true, if_false, reduceIte, and_true, true_and, and_false, false_and, and_self, or_true, true_or, or_false, false_or, or_self, not_true, not_false_iff] <;> rfl, rfl⟩

set_option maxHeartbeats 4000000 in
set_option maxRecDepth 100000 in
theorem c_X1_directionBy (hG : GmAt h g G) {x : Int32} : Spec l D cA N0 m_X1_directionBy 0 0 0 [.ref g, .int x] h (fun r h' => r = some (.int (k_dir G x)) ∧ h' = h) := by
  refine Spec.of (L := [some (.ref g), some (.int x)]) (by decide) rfl (Nat.le_of_ble_eq_true rfl) ?_
  have go := hG.o0
  have gc0 := hG.c0
  have gc1 := hG.c1
  have gi := hG.is
  have gs := hG.sa
  refine R_aload_n0 (pc := 0) dX1_directionBy_0 ?_
  refine G_X1_47 (pc := 1) dX1_directionBy_1 (by assumption) ?_
  refine R_iload_n1 (pc := 4) dX1_directionBy_4 ?_
  refine R_iadd (pc := 5) dX1_directionBy_5 ?_
  refine R_bipush (pc := 6) (v := 6) dX1_directionBy_6 (by decide) ?_
  refine R_irem (pc := 8) dX1_directionBy_8 (by decide) ?_
  refine R_iret (pc := 9) rfl rfl dX1_directionBy_9 ?_
  exact ⟨rfl, rfl⟩

set_option maxHeartbeats 4000000 in
set_option maxRecDepth 100000 in
theorem c_X1_strengthBy {x : Int32} : Spec l D cA N0 m_X1_strengthBy 0 0 0 [.int x] h (fun r h' => r = some (.int (k_str x)) ∧ h' = h) := by
  refine Spec.of (L := [some (.int x)]) (by decide) rfl (Nat.le_of_ble_eq_true rfl) ?_
  refine R_iload_n0 (pc := 0) dX1_strengthBy_0 ?_
  refine R_iconst (pc := 1) (v := 3) dX1_strengthBy_1 (by decide) ?_
  refine R_irem (pc := 2) dX1_strengthBy_2 (by decide) ?_
  refine R_iconst (pc := 3) (v := 1) dX1_strengthBy_3 (by decide) ?_
  refine R_iadd (pc := 4) dX1_strengthBy_4 ?_
  refine R_iret (pc := 5) rfl rfl dX1_strengthBy_5 ?_
  exact ⟨rfl, rfl⟩

set_option maxHeartbeats 4000000 in
set_option maxRecDepth 100000 in
theorem c_X1_stepsNow (hG : GmAt h g G) {i : Nat} (hi : i < 8) : Spec l D cA N0 m_X1_stepsNow 2 0 0 [.ref g, .ref (sad g i)] h (fun r h' => r = some (.int (k_now G i)) ∧ h' = h) := by
  refine Spec.of (L := [some (.ref g), some (.ref (sad g i))]) (by decide) rfl (Nat.le_of_ble_eq_true rfl) ?_
  have go := hG.o0
  have gc0 := hG.c0
  have gc1 := hG.c1
  have gi := hG.is
  have gs := hG.sa
  have gsh := hG.sh hi
  refine R_aload_n1 (pc := 0) dX1_stepsNow_0 ?_
  refine R_aload_n0 (pc := 1) dX1_stepsNow_1 ?_
  refine G_X1_47 (pc := 2) dX1_stepsNow_2 (by assumption) ?_
  refine R_aload_n0 (pc := 5) dX1_stepsNow_5 ?_
  refine G_X1_9 (pc := 6) dX1_stepsNow_6 (by assumption) ?_
  refine R_callV2 (pc := 9) (T := TX7) cal_X7_stepsBy kw453 kw454 kw455 dX1_stepsNow_9 (c_X7_stepsBy (by assumption)) (by decide) (Nat.le_of_ble_eq_true rfl) (ci := 5) rfl (by assumption) ?_
  rintro _ _ ⟨rfl, rfl⟩
  refine R_iret (pc := 12) rfl rfl dX1_stepsNow_12 ?_
  exact ⟨rfl, rfl⟩

end LV6
