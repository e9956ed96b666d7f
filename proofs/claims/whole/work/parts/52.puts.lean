/-! THE TIE: one field of a ship (laid by puts.py) -/
section TK
variable {T sn : Nat} {dn : Nat → Int32 → Int32} {G : Gm} {s : Nat → Int32}
theorem RGd.pCap (h : RGd T sn dn G s) {a : Nat} (ha : a < sn) {v : Int32} (hv : nB v 2) : RGd T sn dn (sF G a 1 (v)) (px s a 0 (v)) := by
  have hn := h.n
  have hp := h.shp a (by omega)
  have hr := h.shr a ha
  have e : ∀ l, l < 11 → l ≠ 0 → gx (px s a 0 (v)) a l = gx s a l := fun l h1 h2 => gx_px (by decide) h1 h2
  refine h.put (Nat.le_refl T) ha (by decide) (by decide) (fun _ _ _ => rfl) ⟨hv, hp.2.1, hp.2.2.1, hp.2.2.2.1, hp.2.2.2.2.1, hp.2.2.2.2.2.1, hp.2.2.2.2.2.2.1, hp.2.2.2.2.2.2.2.1, hp.2.2.2.2.2.2.2.2.1, hp.2.2.2.2.2.2.2.2.2.1, hp.2.2.2.2.2.2.2.2.2.2⟩ ⟨?_, ?_, ?_, ?_, ?_, ?_, ?_, ?_, ?_, ?_, ?_⟩
  · rw [gx_pxe]; rfl
  · rw [e 1 (by decide) (by decide)]; exact hr.2.1
  · rw [e 2 (by decide) (by decide)]; exact hr.2.2.1
  · rw [e 3 (by decide) (by decide)]; exact hr.2.2.2.1
  · rw [e 4 (by decide) (by decide)]; exact hr.2.2.2.2.1
  · rw [e 5 (by decide) (by decide)]; exact hr.2.2.2.2.2.1
  · rw [e 6 (by decide) (by decide)]; exact hr.2.2.2.2.2.2.1
  · rw [e 7 (by decide) (by decide)]; exact hr.2.2.2.2.2.2.2.1
  · rw [e 8 (by decide) (by decide)]; exact hr.2.2.2.2.2.2.2.2.1
  · rw [e 9 (by decide) (by decide)]; exact hr.2.2.2.2.2.2.2.2.2.1
  · rw [e 10 (by decide) (by decide)]; exact hr.2.2.2.2.2.2.2.2.2.2
theorem RGd.pHex (h : RGd T sn dn G s) {a : Nat} (ha : a < sn) {v : Int32} (hv : nB v 81) (hf : ¬ shF G a 4 = 0) : RGd T sn dn (sF G a 2 (v)) (px s a 1 (v)) := by
  have hn := h.n
  have hp := h.shp a (by omega)
  have hr := h.shr a ha
  have e : ∀ l, l < 11 → l ≠ 1 → gx (px s a 1 (v)) a l = gx s a l := fun l h1 h2 => gx_px (by decide) h1 h2
  refine h.put (Nat.le_refl T) ha (by decide) (by decide) (fun _ _ _ => rfl) ⟨hp.1, hv, hp.2.2.1, hp.2.2.2.1, hp.2.2.2.2.1, hp.2.2.2.2.2.1, hp.2.2.2.2.2.2.1, hp.2.2.2.2.2.2.2.1, hp.2.2.2.2.2.2.2.2.1, hp.2.2.2.2.2.2.2.2.2.1, hp.2.2.2.2.2.2.2.2.2.2⟩ ⟨?_, ?_, ?_, ?_, ?_, ?_, ?_, ?_, ?_, ?_, ?_⟩
  · rw [e 0 (by decide) (by decide)]; exact hr.1
  · rw [gx_pxe]; exact (if_neg hf).symm
  · rw [e 2 (by decide) (by decide)]; exact hr.2.2.1
  · rw [e 3 (by decide) (by decide)]; exact hr.2.2.2.1
  · rw [e 4 (by decide) (by decide)]; exact hr.2.2.2.2.1
  · rw [e 5 (by decide) (by decide)]; exact hr.2.2.2.2.2.1
  · rw [e 6 (by decide) (by decide)]; exact hr.2.2.2.2.2.2.1
  · rw [e 7 (by decide) (by decide)]; exact hr.2.2.2.2.2.2.2.1
  · rw [e 8 (by decide) (by decide)]; exact hr.2.2.2.2.2.2.2.2.1
  · rw [e 9 (by decide) (by decide)]; exact hr.2.2.2.2.2.2.2.2.2.1
  · rw [e 10 (by decide) (by decide)]; exact hr.2.2.2.2.2.2.2.2.2.2
theorem RGd.pHdg (h : RGd T sn dn G s) {a : Nat} (ha : a < sn) {v : Int32} (hv : nB v 6) : RGd T sn dn (sF G a 3 (v)) (px s a 2 (v)) := by
  have hn := h.n
  have hp := h.shp a (by omega)
  have hr := h.shr a ha
  have e : ∀ l, l < 11 → l ≠ 2 → gx (px s a 2 (v)) a l = gx s a l := fun l h1 h2 => gx_px (by decide) h1 h2
  refine h.put (Nat.le_refl T) ha (by decide) (by decide) (fun _ _ _ => rfl) ⟨hp.1, hp.2.1, hv, hp.2.2.2.1, hp.2.2.2.2.1, hp.2.2.2.2.2.1, hp.2.2.2.2.2.2.1, hp.2.2.2.2.2.2.2.1, hp.2.2.2.2.2.2.2.2.1, hp.2.2.2.2.2.2.2.2.2.1, hp.2.2.2.2.2.2.2.2.2.2⟩ ⟨?_, ?_, ?_, ?_, ?_, ?_, ?_, ?_, ?_, ?_, ?_⟩
  · rw [e 0 (by decide) (by decide)]; exact hr.1
  · rw [e 1 (by decide) (by decide)]; exact hr.2.1
  · rw [gx_pxe]; rfl
  · rw [e 3 (by decide) (by decide)]; exact hr.2.2.2.1
  · rw [e 4 (by decide) (by decide)]; exact hr.2.2.2.2.1
  · rw [e 5 (by decide) (by decide)]; exact hr.2.2.2.2.2.1
  · rw [e 6 (by decide) (by decide)]; exact hr.2.2.2.2.2.2.1
  · rw [e 7 (by decide) (by decide)]; exact hr.2.2.2.2.2.2.2.1
  · rw [e 8 (by decide) (by decide)]; exact hr.2.2.2.2.2.2.2.2.1
  · rw [e 9 (by decide) (by decide)]; exact hr.2.2.2.2.2.2.2.2.2.1
  · rw [e 10 (by decide) (by decide)]; exact hr.2.2.2.2.2.2.2.2.2.2
theorem RGd.pHull (h : RGd T sn dn G s) {a : Nat} (ha : a < sn) {v : Int32} (hv : nB v 21) (h0 : ¬ v = 0) (hf : ¬ shF G a 4 = 0) : RGd T sn dn (sF G a 4 (v)) (px s a 3 (v)) := by
  have hn := h.n
  have hp := h.shp a (by omega)
  have hr := h.shr a ha
  have e : ∀ l, l < 11 → l ≠ 3 → gx (px s a 3 (v)) a l = gx s a l := fun l h1 h2 => gx_px (by decide) h1 h2
  refine h.put (Nat.le_refl T) ha (by decide) (by decide) (fun _ _ _ => rfl) ⟨hp.1, hp.2.1, hp.2.2.1, hv, hp.2.2.2.2.1, hp.2.2.2.2.2.1, hp.2.2.2.2.2.2.1, hp.2.2.2.2.2.2.2.1, hp.2.2.2.2.2.2.2.2.1, hp.2.2.2.2.2.2.2.2.2.1, hp.2.2.2.2.2.2.2.2.2.2⟩ ⟨?_, ?_, ?_, ?_, ?_, ?_, ?_, ?_, ?_, ?_, ?_⟩
  · rw [e 0 (by decide) (by decide)]; exact hr.1
  · rw [e 1 (by decide) (by decide)]; exact hr.2.1.trans ((if_neg hf).trans (if_neg h0).symm)
  · rw [e 2 (by decide) (by decide)]; exact hr.2.2.1
  · rw [gx_pxe]; rfl
  · rw [e 4 (by decide) (by decide)]; exact hr.2.2.2.2.1
  · rw [e 5 (by decide) (by decide)]; exact hr.2.2.2.2.2.1
  · rw [e 6 (by decide) (by decide)]; exact hr.2.2.2.2.2.2.1
  · rw [e 7 (by decide) (by decide)]; exact hr.2.2.2.2.2.2.2.1
  · rw [e 8 (by decide) (by decide)]; exact hr.2.2.2.2.2.2.2.2.1
  · rw [e 9 (by decide) (by decide)]; exact hr.2.2.2.2.2.2.2.2.2.1
  · rw [e 10 (by decide) (by decide)]; exact hr.2.2.2.2.2.2.2.2.2.2
theorem RGd.pSail (h : RGd T sn dn G s) {a : Nat} (ha : a < sn) {v : Int32} (hv : nB v 9) : RGd T sn dn (sF G a 5 (v)) (px s a 4 (v)) := by
  have hn := h.n
  have hp := h.shp a (by omega)
  have hr := h.shr a ha
  have e : ∀ l, l < 11 → l ≠ 4 → gx (px s a 4 (v)) a l = gx s a l := fun l h1 h2 => gx_px (by decide) h1 h2
  refine h.put (Nat.le_refl T) ha (by decide) (by decide) (fun _ _ _ => rfl) ⟨hp.1, hp.2.1, hp.2.2.1, hp.2.2.2.1, hv, hp.2.2.2.2.2.1, hp.2.2.2.2.2.2.1, hp.2.2.2.2.2.2.2.1, hp.2.2.2.2.2.2.2.2.1, hp.2.2.2.2.2.2.2.2.2.1, hp.2.2.2.2.2.2.2.2.2.2⟩ ⟨?_, ?_, ?_, ?_, ?_, ?_, ?_, ?_, ?_, ?_, ?_⟩
  · rw [e 0 (by decide) (by decide)]; exact hr.1
  · rw [e 1 (by decide) (by decide)]; exact hr.2.1
  · rw [e 2 (by decide) (by decide)]; exact hr.2.2.1
  · rw [e 3 (by decide) (by decide)]; exact hr.2.2.2.1
  · rw [gx_pxe]; rfl
  · rw [e 5 (by decide) (by decide)]; exact hr.2.2.2.2.2.1
  · rw [e 6 (by decide) (by decide)]; exact hr.2.2.2.2.2.2.1
  · rw [e 7 (by decide) (by decide)]; exact hr.2.2.2.2.2.2.2.1
  · rw [e 8 (by decide) (by decide)]; exact hr.2.2.2.2.2.2.2.2.1
  · rw [e 9 (by decide) (by decide)]; exact hr.2.2.2.2.2.2.2.2.2.1
  · rw [e 10 (by decide) (by decide)]; exact hr.2.2.2.2.2.2.2.2.2.2
theorem RGd.pCrew (h : RGd T sn dn G s) {a : Nat} (ha : a < sn) {v : Int32} (hv : nB v 41) : RGd T sn dn (sF G a 6 (v)) (px s a 5 (v)) := by
  have hn := h.n
  have hp := h.shp a (by omega)
  have hr := h.shr a ha
  have e : ∀ l, l < 11 → l ≠ 5 → gx (px s a 5 (v)) a l = gx s a l := fun l h1 h2 => gx_px (by decide) h1 h2
  refine h.put (Nat.le_refl T) ha (by decide) (by decide) (fun _ _ _ => rfl) ⟨hp.1, hp.2.1, hp.2.2.1, hp.2.2.2.1, hp.2.2.2.2.1, hv, hp.2.2.2.2.2.2.1, hp.2.2.2.2.2.2.2.1, hp.2.2.2.2.2.2.2.2.1, hp.2.2.2.2.2.2.2.2.2.1, hp.2.2.2.2.2.2.2.2.2.2⟩ ⟨?_, ?_, ?_, ?_, ?_, ?_, ?_, ?_, ?_, ?_, ?_⟩
  · rw [e 0 (by decide) (by decide)]; exact hr.1
  · rw [e 1 (by decide) (by decide)]; exact hr.2.1
  · rw [e 2 (by decide) (by decide)]; exact hr.2.2.1
  · rw [e 3 (by decide) (by decide)]; exact hr.2.2.2.1
  · rw [e 4 (by decide) (by decide)]; exact hr.2.2.2.2.1
  · rw [gx_pxe]; rfl
  · rw [e 6 (by decide) (by decide)]; exact hr.2.2.2.2.2.2.1
  · rw [e 7 (by decide) (by decide)]; exact hr.2.2.2.2.2.2.2.1
  · rw [e 8 (by decide) (by decide)]; exact hr.2.2.2.2.2.2.2.2.1
  · rw [e 9 (by decide) (by decide)]; exact hr.2.2.2.2.2.2.2.2.2.1
  · rw [e 10 (by decide) (by decide)]; exact hr.2.2.2.2.2.2.2.2.2.2
theorem RGd.pGuns (h : RGd T sn dn G s) {a : Nat} (ha : a < sn) {v : Int32} (hv : nB v 10) : RGd T sn dn (sF G a 7 (v)) (px s a 6 (v)) := by
  have hn := h.n
  have hp := h.shp a (by omega)
  have hr := h.shr a ha
  have e : ∀ l, l < 11 → l ≠ 6 → gx (px s a 6 (v)) a l = gx s a l := fun l h1 h2 => gx_px (by decide) h1 h2
  refine h.put (Nat.le_refl T) ha (by decide) (by decide) (fun _ _ _ => rfl) ⟨hp.1, hp.2.1, hp.2.2.1, hp.2.2.2.1, hp.2.2.2.2.1, hp.2.2.2.2.2.1, hv, hp.2.2.2.2.2.2.2.1, hp.2.2.2.2.2.2.2.2.1, hp.2.2.2.2.2.2.2.2.2.1, hp.2.2.2.2.2.2.2.2.2.2⟩ ⟨?_, ?_, ?_, ?_, ?_, ?_, ?_, ?_, ?_, ?_, ?_⟩
  · rw [e 0 (by decide) (by decide)]; exact hr.1
  · rw [e 1 (by decide) (by decide)]; exact hr.2.1
  · rw [e 2 (by decide) (by decide)]; exact hr.2.2.1
  · rw [e 3 (by decide) (by decide)]; exact hr.2.2.2.1
  · rw [e 4 (by decide) (by decide)]; exact hr.2.2.2.2.1
  · rw [e 5 (by decide) (by decide)]; exact hr.2.2.2.2.2.1
  · rw [gx_pxe]; rfl
  · rw [e 7 (by decide) (by decide)]; exact hr.2.2.2.2.2.2.2.1
  · rw [e 8 (by decide) (by decide)]; exact hr.2.2.2.2.2.2.2.2.1
  · rw [e 9 (by decide) (by decide)]; exact hr.2.2.2.2.2.2.2.2.2.1
  · rw [e 10 (by decide) (by decide)]; exact hr.2.2.2.2.2.2.2.2.2.2
theorem RGd.pLeft (h : RGd T sn dn G s) {a : Nat} (ha : a < sn) {t : Nat} (ht : t ≤ T) : RGd T sn dn (sF G a 9 (nI (t + 2))) (px s a 8 (nI t)) := by
  have hn := h.n
  have hp := h.shp a (by omega)
  have hr := h.shr a ha
  have e : ∀ l, l < 11 → l ≠ 8 → gx (px s a 8 (nI t)) a l = gx s a l := fun l h1 h2 => gx_px (by decide) h1 h2
  refine h.put (Nat.le_refl T) ha (by decide) (by decide) (fun _ _ _ => rfl) ⟨hp.1, hp.2.1, hp.2.2.1, hp.2.2.2.1, hp.2.2.2.2.1, hp.2.2.2.2.2.1, hp.2.2.2.2.2.2.1, hp.2.2.2.2.2.2.2.1, ⟨t + 2, by omega, rfl⟩, hp.2.2.2.2.2.2.2.2.2.1, hp.2.2.2.2.2.2.2.2.2.2⟩ ⟨?_, ?_, ?_, ?_, ?_, ?_, ?_, ?_, ?_, ?_, ?_⟩
  · rw [e 0 (by decide) (by decide)]; exact hr.1
  · rw [e 1 (by decide) (by decide)]; exact hr.2.1
  · rw [e 2 (by decide) (by decide)]; exact hr.2.2.1
  · rw [e 3 (by decide) (by decide)]; exact hr.2.2.2.1
  · rw [e 4 (by decide) (by decide)]; exact hr.2.2.2.2.1
  · rw [e 5 (by decide) (by decide)]; exact hr.2.2.2.2.2.1
  · rw [e 6 (by decide) (by decide)]; exact hr.2.2.2.2.2.2.1
  · rw [e 7 (by decide) (by decide)]; exact hr.2.2.2.2.2.2.2.1
  · rw [gx_pxe]; exact Or.inr ⟨t, ht, rfl, rfl⟩
  · rw [e 9 (by decide) (by decide)]; exact hr.2.2.2.2.2.2.2.2.2.1
  · rw [e 10 (by decide) (by decide)]; exact hr.2.2.2.2.2.2.2.2.2.2
theorem RGd.pRight (h : RGd T sn dn G s) {a : Nat} (ha : a < sn) {t : Nat} (ht : t ≤ T) : RGd T sn dn (sF G a 10 (nI (t + 2))) (px s a 9 (nI t)) := by
  have hn := h.n
  have hp := h.shp a (by omega)
  have hr := h.shr a ha
  have e : ∀ l, l < 11 → l ≠ 9 → gx (px s a 9 (nI t)) a l = gx s a l := fun l h1 h2 => gx_px (by decide) h1 h2
  refine h.put (Nat.le_refl T) ha (by decide) (by decide) (fun _ _ _ => rfl) ⟨hp.1, hp.2.1, hp.2.2.1, hp.2.2.2.1, hp.2.2.2.2.1, hp.2.2.2.2.2.1, hp.2.2.2.2.2.2.1, hp.2.2.2.2.2.2.2.1, hp.2.2.2.2.2.2.2.2.1, ⟨t + 2, by omega, rfl⟩, hp.2.2.2.2.2.2.2.2.2.2⟩ ⟨?_, ?_, ?_, ?_, ?_, ?_, ?_, ?_, ?_, ?_, ?_⟩
  · rw [e 0 (by decide) (by decide)]; exact hr.1
  · rw [e 1 (by decide) (by decide)]; exact hr.2.1
  · rw [e 2 (by decide) (by decide)]; exact hr.2.2.1
  · rw [e 3 (by decide) (by decide)]; exact hr.2.2.2.1
  · rw [e 4 (by decide) (by decide)]; exact hr.2.2.2.2.1
  · rw [e 5 (by decide) (by decide)]; exact hr.2.2.2.2.2.1
  · rw [e 6 (by decide) (by decide)]; exact hr.2.2.2.2.2.2.1
  · rw [e 7 (by decide) (by decide)]; exact hr.2.2.2.2.2.2.2.1
  · rw [e 8 (by decide) (by decide)]; exact hr.2.2.2.2.2.2.2.2.1
  · rw [gx_pxe]; exact Or.inr ⟨t, ht, rfl, rfl⟩
  · rw [e 10 (by decide) (by decide)]; exact hr.2.2.2.2.2.2.2.2.2.2
theorem RGd.pDone (h : RGd T sn dn G s) {a : Nat} (ha : a < sn) {v : Int32} (hv : nB v 8) : RGd T sn dn (sF G a 11 (v)) (px s a 10 (dn a v)) := by
  have hn := h.n
  have hp := h.shp a (by omega)
  have hr := h.shr a ha
  have e : ∀ l, l < 11 → l ≠ 10 → gx (px s a 10 (dn a v)) a l = gx s a l := fun l h1 h2 => gx_px (by decide) h1 h2
  refine h.put (Nat.le_refl T) ha (by decide) (by decide) (fun _ _ _ => rfl) ⟨hp.1, hp.2.1, hp.2.2.1, hp.2.2.2.1, hp.2.2.2.2.1, hp.2.2.2.2.2.1, hp.2.2.2.2.2.2.1, hp.2.2.2.2.2.2.2.1, hp.2.2.2.2.2.2.2.2.1, hp.2.2.2.2.2.2.2.2.2.1, hv⟩ ⟨?_, ?_, ?_, ?_, ?_, ?_, ?_, ?_, ?_, ?_, ?_⟩
  · rw [e 0 (by decide) (by decide)]; exact hr.1
  · rw [e 1 (by decide) (by decide)]; exact hr.2.1
  · rw [e 2 (by decide) (by decide)]; exact hr.2.2.1
  · rw [e 3 (by decide) (by decide)]; exact hr.2.2.2.1
  · rw [e 4 (by decide) (by decide)]; exact hr.2.2.2.2.1
  · rw [e 5 (by decide) (by decide)]; exact hr.2.2.2.2.2.1
  · rw [e 6 (by decide) (by decide)]; exact hr.2.2.2.2.2.2.1
  · rw [e 7 (by decide) (by decide)]; exact hr.2.2.2.2.2.2.2.1
  · rw [e 8 (by decide) (by decide)]; exact hr.2.2.2.2.2.2.2.2.1
  · rw [e 9 (by decide) (by decide)]; exact hr.2.2.2.2.2.2.2.2.2.1
  · rw [gx_pxe]; rfl
end TK
