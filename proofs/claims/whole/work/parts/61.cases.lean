/-! THE LAW: its cases -/
section LV61
variable {l : Launch} {D : va_G} {cA : Nat → ClassId} {N0 : Nat} {nm : String} {b L : Nat} {xs : Nat → Int32} {h : AH} {k n w u i T : Nat} {C : Cm} {M : Mm}
theorem RGd.fx {sn : Nat} {dn : Nat → Int32 → Int32} {G : Gm} {s : Nat → Int32} (h : RGd T sn dn G s) : ∀ e, e < sn → 0 ≤ gx s e 1 → ∃ g, g < 81 ∧ gx s e 1 = nI g := fun e he hf => by
  have hn := h.n
  obtain ⟨g, hg, eg⟩ := (h.shp e (by omega)).2.1
  exact ⟨g, hg, (h.hx he ((h.fl he).mp hf)).trans eg⟩
theorem RGd.xr {sn : Nat} {dn : Nat → Int32 → Int32} {G : Gm} {s : Nat → Int32} (h : RGd T sn dn G s) : IC G := fun j hj => by
  obtain ⟨g, hg, eg⟩ := (h.shp j hj).2.1
  rw [eg]
  exact ⟨nI_pos' (by omega), (nI_ltI (b := 81) (by omega) (by decide)).mpr hg⟩
theorem RGd.nw {sn : Nat} {dn : Nat → Int32 → Int32} {G : Gm} {s : Nat → Int32} (h : RGd T sn dn G s) : ∀ j, j < 8 → k_now G j ≤ 6 := fun j hj => by
  obtain ⟨q, hq, eq⟩ := h.nowB hj
  rw [eq]
  exact (nI_leI (b := 6) (by omega) (by decide)).mpr hq
theorem RGd.hd {sn : Nat} {dn : Nat → Int32 → Int32} {G : Gm} {s : Nat → Int32} (h : RGd T sn dn G s) : ∀ j, j < 8 → hdg G j < 6 ∧ shF G j 3 = nI (hdg G j) := fun j hj => by
  obtain ⟨_, d0, _, hd, _, h3, hh⟩ := h.st hj
  rw [hh]
  exact ⟨hd, h3⟩
set_option maxHeartbeats 4000000 in
set_option maxRecDepth 100000 in
theorem law_setIsland (hk : k ≤ 600000) (hnn : n ≤ 7302250) (hL31 : L < 2 ^ 31) (hC : CAt h w C) (hM : MAt h u M) (hR : RC T C M) (hT : T + 101 < 2 ^ 29) (hiL : i + 7 ≤ L) (hwu : w + 329 ≤ u) (kk : ∀ (h2 : AH) (C2 : Cm) (M2 : Mm), CAt h2 w C2 → MAt h2 u M2 → RC (T + 101) C2 M2 → RunL l D cA N0 nm b L xs h2 k n 996 [some (.ref b), some (.ref w), some (.ref u), some (.int (nI i))] []) : RunL l D cA N0 nm b L xs h k n 160 [some (.ref b), some (.ref w), some (.ref u), some (.int (nI i))] [] := by
  obtain ⟨sn, hG⟩ := hR.1.1
  have hn := hG.n
  have hsn : M.2.1 10 = nI sn := hG.s10
  have hz : sBz C.1 := ⟨hG.mv, hR.1.2.2.1, hR.1.2.2.2⟩
  have hm6 : C.2.1 ≤ 6 := hR.2.1
  have hmu : M.1 3 = nI C.2.1 := hR.2.2.1
  have hl1 : C.2.2.2.2 ≤ 100 := hR.2.2.2.2.1
  have hml : M.1 4 = nI C.2.2.2.2 := hR.2.2.2.2.2.1
  have hrn : M.1 6 = 0 := hR.2.2.2.2.2.2.2
  have hcp : ∀ e, e < sn → ∃ c, c < 2 ∧ gx M.2.1 e 0 = nI c := fun e he => (hG.iz.2.2.2 e he).1
  have hxr := hG.xr
  have hnw := hG.nw
  have hhd := hG.hd
  have hfx := hG.fx
  refine R_aload_n1 (pc := 160) dL_law_160 ?_
  refine R_aload_n0 (pc := 161) dL_law_161 ?_
  refine R_iload_n3 (pc := 162) dL_law_162 ?_
  refine R_iconst (pc := 163) (v := 1) dL_law_163 (by decide) ?_
  refine R_iadd (pc := 164) dL_law_164 ?_
  rw [show nI i + 1 = nI (i + 1) from nI_add i 1]
  refine R_sld (pc := 165) dL_law_165 (by omega) hL31 ?_
  refine R_aload_n0 (pc := 166) dL_law_166 ?_
  refine R_iload_n3 (pc := 167) dL_law_167 ?_
  refine R_iconst (pc := 168) (v := 2) dL_law_168 (by decide) ?_
  refine R_iadd (pc := 169) dL_law_169 ?_
  rw [show nI i + 2 = nI (i + 2) from nI_add i 2]
  refine R_sld (pc := 170) dL_law_170 (by omega) hL31 ?_
  refine R_callV2 (pc := 171) (T := TX9) cal_X9_setIsland kw292 kw293 kw294 dL_law_171 (c_X9_setIsland hC hz) ⟨by decide, by show _ ≤ 600000; omega, by show _ ≤ 7302250; omega⟩ (Nat.le_of_ble_eq_true rfl) (ci := 7) rfl hC.self ?_
  rintro _ h1 ⟨rfl, hC1, hF1⟩
  have hM1 : MAt h1 u M := hM.keep (fun x z1 z2 => hF1.2 x (by omega))
  refine R_aload_n2 (pc := 174) dL_law_174 ?_
  refine R_aload_n0 (pc := 175) dL_law_175 ?_
  refine R_iload_n3 (pc := 176) dL_law_176 ?_
  refine R_iconst (pc := 177) (v := 1) dL_law_177 (by decide) ?_
  refine R_iadd (pc := 178) dL_law_178 ?_
  rw [show nI i + 1 = nI (i + 1) from nI_add i 1]
  refine R_sld (pc := 179) dL_law_179 (by omega) hL31 ?_
  refine R_aload_n0 (pc := 180) dL_law_180 ?_
  refine R_iload_n3 (pc := 181) dL_law_181 ?_
  refine R_iconst (pc := 182) (v := 2) dL_law_182 (by decide) ?_
  refine R_iadd (pc := 183) dL_law_183 ?_
  rw [show nI i + 2 = nI (i + 2) from nI_add i 2]
  refine R_sld (pc := 184) dL_law_184 (by omega) hL31 ?_
  refine R_callV2 (pc := 185) (T := TX10) cal_X10_setIsland kw884 kw885 kw886 dL_law_185 (c_X10_setIsland hM1 hn hsn hm6 hmu) ⟨by decide, by show _ ≤ 600000; omega, by show _ ≤ 7302250; omega⟩ (Nat.le_of_ble_eq_true rfl) (ci := 8) rfl hM1.o ?_
  rintro _ h2 ⟨rfl, M2, e2, s2⟩
  have hM2 : MAt h2 u M2 := by rw [e2]; exact mput_at _ _ _
  have hC2 := hC1.keep (h1 := h2) (fun x z1 z2 => by rw [e2]; exact mput_out (Or.inl (by omega)))
  have ha := hR.act (U := T + 101) (by omega) ((sim_island hG C.2.1 (xs (i + 1)) (xs (i + 2))).mono (by omega))
  refine R_icmp_eq (pc := 188) 996 dL_law_188 (by decide) (fun c_188 => ?_) (fun c_188 => absurd ha.1 c_188)
  exact kk _ _ _ hC2 hM2 (ha.2.ms s2)

set_option maxHeartbeats 4000000 in
set_option maxRecDepth 100000 in
theorem law_addShip (hk : k ≤ 600000) (hnn : n ≤ 7302250) (hL31 : L < 2 ^ 31) (hC : CAt h w C) (hM : MAt h u M) (hR : RC T C M) (hT : T + 101 < 2 ^ 29) (hiL : i + 7 ≤ L) (hwu : w + 329 ≤ u) (kk : ∀ (h2 : AH) (C2 : Cm) (M2 : Mm), CAt h2 w C2 → MAt h2 u M2 → RC (T + 101) C2 M2 → RunL l D cA N0 nm b L xs h2 k n 996 [some (.ref b), some (.ref w), some (.ref u), some (.int (nI i))] []) : RunL l D cA N0 nm b L xs h k n 193 [some (.ref b), some (.ref w), some (.ref u), some (.int (nI i))] [] := by
  obtain ⟨sn, hG⟩ := hR.1.1
  have hn := hG.n
  have hsn : M.2.1 10 = nI sn := hG.s10
  have hz : sBz C.1 := ⟨hG.mv, hR.1.2.2.1, hR.1.2.2.2⟩
  have hm6 : C.2.1 ≤ 6 := hR.2.1
  have hmu : M.1 3 = nI C.2.1 := hR.2.2.1
  have hl1 : C.2.2.2.2 ≤ 100 := hR.2.2.2.2.1
  have hml : M.1 4 = nI C.2.2.2.2 := hR.2.2.2.2.2.1
  have hrn : M.1 6 = 0 := hR.2.2.2.2.2.2.2
  have hcp : ∀ e, e < sn → ∃ c, c < 2 ∧ gx M.2.1 e 0 = nI c := fun e he => (hG.iz.2.2.2 e he).1
  have hxr := hG.xr
  have hnw := hG.nw
  have hhd := hG.hd
  have hfx := hG.fx
  refine R_aload_n1 (pc := 193) dL_law_193 ?_
  refine R_aload_n0 (pc := 194) dL_law_194 ?_
  refine R_iload_n3 (pc := 195) dL_law_195 ?_
  refine R_iconst (pc := 196) (v := 1) dL_law_196 (by decide) ?_
  refine R_iadd (pc := 197) dL_law_197 ?_
  rw [show nI i + 1 = nI (i + 1) from nI_add i 1]
  refine R_sld (pc := 198) dL_law_198 (by omega) hL31 ?_
  refine R_aload_n0 (pc := 199) dL_law_199 ?_
  refine R_iload_n3 (pc := 200) dL_law_200 ?_
  refine R_iconst (pc := 201) (v := 2) dL_law_201 (by decide) ?_
  refine R_iadd (pc := 202) dL_law_202 ?_
  rw [show nI i + 2 = nI (i + 2) from nI_add i 2]
  refine R_sld (pc := 203) dL_law_203 (by omega) hL31 ?_
  refine R_aload_n0 (pc := 204) dL_law_204 ?_
  refine R_iload_n3 (pc := 205) dL_law_205 ?_
  refine R_iconst (pc := 206) (v := 3) dL_law_206 (by decide) ?_
  refine R_iadd (pc := 207) dL_law_207 ?_
  rw [show nI i + 3 = nI (i + 3) from nI_add i 3]
  refine R_sld (pc := 208) dL_law_208 (by omega) hL31 ?_
  refine R_aload_n0 (pc := 209) dL_law_209 ?_
  refine R_iload_n3 (pc := 210) dL_law_210 ?_
  refine R_iconst (pc := 211) (v := 4) dL_law_211 (by decide) ?_
  refine R_iadd (pc := 212) dL_law_212 ?_
  rw [show nI i + 4 = nI (i + 4) from nI_add i 4]
  refine R_sld (pc := 213) dL_law_213 (by omega) hL31 ?_
  refine R_aload_n0 (pc := 214) dL_law_214 ?_
  refine R_iload_n3 (pc := 215) dL_law_215 ?_
  refine R_iconst (pc := 216) (v := 5) dL_law_216 (by decide) ?_
  refine R_iadd (pc := 217) dL_law_217 ?_
  rw [show nI i + 5 = nI (i + 5) from nI_add i 5]
  refine R_sld (pc := 218) dL_law_218 (by omega) hL31 ?_
  refine R_aload_n0 (pc := 219) dL_law_219 ?_
  refine R_iload_n3 (pc := 220) dL_law_220 ?_
  refine R_bipush (pc := 221) (v := 6) dL_law_221 (by decide) ?_
  refine R_iadd (pc := 223) dL_law_223 ?_
  rw [show nI i + 6 = nI (i + 6) from nI_add i 6]
  refine R_sld (pc := 224) dL_law_224 (by omega) hL31 ?_
  refine R_callV6 (pc := 225) (T := TX9) cal_X9_addShip kw345 kw346 kw347 dL_law_225 (c_X9_addShip hC hz hn hG.k4) ⟨by decide, by show _ ≤ 600000; omega, by show _ ≤ 7302250; omega⟩ (Nat.le_of_ble_eq_true rfl) (ci := 7) rfl hC.self ?_
  rintro _ h1 ⟨rfl, hC1, hF1⟩
  have hM1 : MAt h1 u M := hM.keep (fun x z1 z2 => hF1.2 x (by omega))
  refine R_aload_n2 (pc := 228) dL_law_228 ?_
  refine R_aload_n0 (pc := 229) dL_law_229 ?_
  refine R_iload_n3 (pc := 230) dL_law_230 ?_
  refine R_iconst (pc := 231) (v := 1) dL_law_231 (by decide) ?_
  refine R_iadd (pc := 232) dL_law_232 ?_
  rw [show nI i + 1 = nI (i + 1) from nI_add i 1]
  refine R_sld (pc := 233) dL_law_233 (by omega) hL31 ?_
  refine R_aload_n0 (pc := 234) dL_law_234 ?_
  refine R_iload_n3 (pc := 235) dL_law_235 ?_
  refine R_iconst (pc := 236) (v := 2) dL_law_236 (by decide) ?_
  refine R_iadd (pc := 237) dL_law_237 ?_
  rw [show nI i + 2 = nI (i + 2) from nI_add i 2]
  refine R_sld (pc := 238) dL_law_238 (by omega) hL31 ?_
  refine R_aload_n0 (pc := 239) dL_law_239 ?_
  refine R_iload_n3 (pc := 240) dL_law_240 ?_
  refine R_iconst (pc := 241) (v := 3) dL_law_241 (by decide) ?_
  refine R_iadd (pc := 242) dL_law_242 ?_
  rw [show nI i + 3 = nI (i + 3) from nI_add i 3]
  refine R_sld (pc := 243) dL_law_243 (by omega) hL31 ?_
  refine R_aload_n0 (pc := 244) dL_law_244 ?_
  refine R_iload_n3 (pc := 245) dL_law_245 ?_
  refine R_iconst (pc := 246) (v := 4) dL_law_246 (by decide) ?_
  refine R_iadd (pc := 247) dL_law_247 ?_
  rw [show nI i + 4 = nI (i + 4) from nI_add i 4]
  refine R_sld (pc := 248) dL_law_248 (by omega) hL31 ?_
  refine R_aload_n0 (pc := 249) dL_law_249 ?_
  refine R_iload_n3 (pc := 250) dL_law_250 ?_
  refine R_iconst (pc := 251) (v := 5) dL_law_251 (by decide) ?_
  refine R_iadd (pc := 252) dL_law_252 ?_
  rw [show nI i + 5 = nI (i + 5) from nI_add i 5]
  refine R_sld (pc := 253) dL_law_253 (by omega) hL31 ?_
  refine R_aload_n0 (pc := 254) dL_law_254 ?_
  refine R_iload_n3 (pc := 255) dL_law_255 ?_
  refine R_bipush (pc := 256) (v := 6) dL_law_256 (by decide) ?_
  refine R_iadd (pc := 258) dL_law_258 ?_
  rw [show nI i + 6 = nI (i + 6) from nI_add i 6]
  refine R_sld (pc := 259) dL_law_259 (by omega) hL31 ?_
  refine R_callV6 (pc := 260) (T := TX10) cal_X10_addShip kw915 kw916 kw917 dL_law_260 (c_X10_addShip hM1 hn hsn hm6 hmu) ⟨by decide, by show _ ≤ 600000; omega, by show _ ≤ 7302250; omega⟩ (Nat.le_of_ble_eq_true rfl) (ci := 8) rfl hM1.o ?_
  rintro _ h2 ⟨rfl, M2, e2, s2⟩
  have hM2 : MAt h2 u M2 := by rw [e2]; exact mput_at _ _ _
  have hC2 := hC1.keep (h1 := h2) (fun x z1 z2 => by rw [e2]; exact mput_out (Or.inl (by omega)))
  have ha := hR.act (U := T + 101) (by omega) ((sim_launch hG C.2.1 (xs (i + 1)) (xs (i + 2)) (xs (i + 3)) (xs (i + 4)) (xs (i + 5)) (xs (i + 6))).mono (by omega))
  refine R_icmp_eq (pc := 263) 996 dL_law_263 (by decide) (fun c_263 => ?_) (fun c_263 => absurd ha.1 c_263)
  exact kk _ _ _ hC2 hM2 (ha.2.ms s2)

set_option maxHeartbeats 4000000 in
set_option maxRecDepth 100000 in
theorem law_setTimber (hk : k ≤ 600000) (hnn : n ≤ 7302250) (hL31 : L < 2 ^ 31) (hC : CAt h w C) (hM : MAt h u M) (hR : RC T C M) (hT : T + 101 < 2 ^ 29) (hiL : i + 7 ≤ L) (hwu : w + 329 ≤ u) (kk : ∀ (h2 : AH) (C2 : Cm) (M2 : Mm), CAt h2 w C2 → MAt h2 u M2 → RC (T + 101) C2 M2 → RunL l D cA N0 nm b L xs h2 k n 996 [some (.ref b), some (.ref w), some (.ref u), some (.int (nI i))] []) : RunL l D cA N0 nm b L xs h k n 268 [some (.ref b), some (.ref w), some (.ref u), some (.int (nI i))] [] := by
  obtain ⟨sn, hG⟩ := hR.1.1
  have hn := hG.n
  have hsn : M.2.1 10 = nI sn := hG.s10
  have hz : sBz C.1 := ⟨hG.mv, hR.1.2.2.1, hR.1.2.2.2⟩
  have hm6 : C.2.1 ≤ 6 := hR.2.1
  have hmu : M.1 3 = nI C.2.1 := hR.2.2.1
  have hl1 : C.2.2.2.2 ≤ 100 := hR.2.2.2.2.1
  have hml : M.1 4 = nI C.2.2.2.2 := hR.2.2.2.2.2.1
  have hrn : M.1 6 = 0 := hR.2.2.2.2.2.2.2
  have hcp : ∀ e, e < sn → ∃ c, c < 2 ∧ gx M.2.1 e 0 = nI c := fun e he => (hG.iz.2.2.2 e he).1
  have hxr := hG.xr
  have hnw := hG.nw
  have hhd := hG.hd
  have hfx := hG.fx
  refine R_aload_n1 (pc := 268) dL_law_268 ?_
  refine R_aload_n0 (pc := 269) dL_law_269 ?_
  refine R_iload_n3 (pc := 270) dL_law_270 ?_
  refine R_iconst (pc := 271) (v := 1) dL_law_271 (by decide) ?_
  refine R_iadd (pc := 272) dL_law_272 ?_
  rw [show nI i + 1 = nI (i + 1) from nI_add i 1]
  refine R_sld (pc := 273) dL_law_273 (by omega) hL31 ?_
  refine R_aload_n0 (pc := 274) dL_law_274 ?_
  refine R_iload_n3 (pc := 275) dL_law_275 ?_
  refine R_iconst (pc := 276) (v := 2) dL_law_276 (by decide) ?_
  refine R_iadd (pc := 277) dL_law_277 ?_
  rw [show nI i + 2 = nI (i + 2) from nI_add i 2]
  refine R_sld (pc := 278) dL_law_278 (by omega) hL31 ?_
  refine R_callV2 (pc := 279) (T := TX9) cal_X9_setTimber kw367 kw368 kw369 dL_law_279 (c_X9_setTimber hC hz) ⟨by decide, by show _ ≤ 600000; omega, by show _ ≤ 7302250; omega⟩ (Nat.le_of_ble_eq_true rfl) (ci := 7) rfl hC.self ?_
  rintro _ h1 ⟨rfl, hC1, hF1⟩
  have hM1 : MAt h1 u M := hM.keep (fun x z1 z2 => hF1.2 x (by omega))
  refine R_aload_n2 (pc := 282) dL_law_282 ?_
  refine R_aload_n0 (pc := 283) dL_law_283 ?_
  refine R_iload_n3 (pc := 284) dL_law_284 ?_
  refine R_iconst (pc := 285) (v := 1) dL_law_285 (by decide) ?_
  refine R_iadd (pc := 286) dL_law_286 ?_
  rw [show nI i + 1 = nI (i + 1) from nI_add i 1]
  refine R_sld (pc := 287) dL_law_287 (by omega) hL31 ?_
  refine R_aload_n0 (pc := 288) dL_law_288 ?_
  refine R_iload_n3 (pc := 289) dL_law_289 ?_
  refine R_iconst (pc := 290) (v := 2) dL_law_290 (by decide) ?_
  refine R_iadd (pc := 291) dL_law_291 ?_
  rw [show nI i + 2 = nI (i + 2) from nI_add i 2]
  refine R_sld (pc := 292) dL_law_292 (by omega) hL31 ?_
  refine R_callV2 (pc := 293) (T := TX10) cal_X10_setTimber kw934 kw935 kw936 dL_law_293 (c_X10_setTimber hM1 hm6 hmu) ⟨by decide, by show _ ≤ 600000; omega, by show _ ≤ 7302250; omega⟩ (Nat.le_of_ble_eq_true rfl) (ci := 8) rfl hM1.o ?_
  rintro _ h2 ⟨rfl, M2, e2, s2⟩
  have hM2 : MAt h2 u M2 := by rw [e2]; exact mput_at _ _ _
  have hC2 := hC1.keep (h1 := h2) (fun x z1 z2 => by rw [e2]; exact mput_out (Or.inl (by omega)))
  have ha := hR.act (U := T + 101) (by omega) ((sim_timber hG C.2.1 (xs (i + 1)) (xs (i + 2))).mono (by omega))
  refine R_icmp_eq (pc := 296) 996 dL_law_296 (by decide) (fun c_296 => ?_) (fun c_296 => absurd ha.1 c_296)
  exact kk _ _ _ hC2 hM2 (ha.2.ms s2)

set_option maxHeartbeats 4000000 in
set_option maxRecDepth 100000 in
theorem law_tell (hk : k ≤ 600000) (hnn : n ≤ 7302250) (hL31 : L < 2 ^ 31) (hC : CAt h w C) (hM : MAt h u M) (hR : RC T C M) (hT : T + 101 < 2 ^ 29) (hiL : i + 7 ≤ L) (hwu : w + 329 ≤ u) (kk : ∀ (h2 : AH) (C2 : Cm) (M2 : Mm), CAt h2 w C2 → MAt h2 u M2 → RC (T + 101) C2 M2 → RunL l D cA N0 nm b L xs h2 k n 996 [some (.ref b), some (.ref w), some (.ref u), some (.int (nI i))] []) : RunL l D cA N0 nm b L xs h k n 301 [some (.ref b), some (.ref w), some (.ref u), some (.int (nI i))] [] := by
  obtain ⟨sn, hG⟩ := hR.1.1
  have hn := hG.n
  have hsn : M.2.1 10 = nI sn := hG.s10
  have hz : sBz C.1 := ⟨hG.mv, hR.1.2.2.1, hR.1.2.2.2⟩
  have hm6 : C.2.1 ≤ 6 := hR.2.1
  have hmu : M.1 3 = nI C.2.1 := hR.2.2.1
  have hl1 : C.2.2.2.2 ≤ 100 := hR.2.2.2.2.1
  have hml : M.1 4 = nI C.2.2.2.2 := hR.2.2.2.2.2.1
  have hrn : M.1 6 = 0 := hR.2.2.2.2.2.2.2
  have hcp : ∀ e, e < sn → ∃ c, c < 2 ∧ gx M.2.1 e 0 = nI c := fun e he => (hG.iz.2.2.2 e he).1
  have hxr := hG.xr
  have hnw := hG.nw
  have hhd := hG.hd
  have hfx := hG.fx
  refine R_aload_n1 (pc := 301) dL_law_301 ?_
  refine R_aload_n0 (pc := 302) dL_law_302 ?_
  refine R_iload_n3 (pc := 303) dL_law_303 ?_
  refine R_iconst (pc := 304) (v := 1) dL_law_304 (by decide) ?_
  refine R_iadd (pc := 305) dL_law_305 ?_
  rw [show nI i + 1 = nI (i + 1) from nI_add i 1]
  refine R_sld (pc := 306) dL_law_306 (by omega) hL31 ?_
  refine R_aload_n0 (pc := 307) dL_law_307 ?_
  refine R_iload_n3 (pc := 308) dL_law_308 ?_
  refine R_iconst (pc := 309) (v := 2) dL_law_309 (by decide) ?_
  refine R_iadd (pc := 310) dL_law_310 ?_
  rw [show nI i + 2 = nI (i + 2) from nI_add i 2]
  refine R_sld (pc := 311) dL_law_311 (by omega) hL31 ?_
  refine R_callV2 (pc := 312) (T := TX9) cal_X9_tell kw379 kw380 kw381 dL_law_312 (c_X9_tell hC hz) ⟨by decide, by show _ ≤ 600000; omega, by show _ ≤ 7302250; omega⟩ (Nat.le_of_ble_eq_true rfl) (ci := 7) rfl hC.self ?_
  rintro _ h1 ⟨rfl, hC1, hF1⟩
  have hM1 : MAt h1 u M := hM.keep (fun x z1 z2 => hF1.2 x (by omega))
  refine R_aload_n2 (pc := 315) dL_law_315 ?_
  refine R_aload_n0 (pc := 316) dL_law_316 ?_
  refine R_iload_n3 (pc := 317) dL_law_317 ?_
  refine R_iconst (pc := 318) (v := 1) dL_law_318 (by decide) ?_
  refine R_iadd (pc := 319) dL_law_319 ?_
  rw [show nI i + 1 = nI (i + 1) from nI_add i 1]
  refine R_sld (pc := 320) dL_law_320 (by omega) hL31 ?_
  refine R_aload_n0 (pc := 321) dL_law_321 ?_
  refine R_iload_n3 (pc := 322) dL_law_322 ?_
  refine R_iconst (pc := 323) (v := 2) dL_law_323 (by decide) ?_
  refine R_iadd (pc := 324) dL_law_324 ?_
  rw [show nI i + 2 = nI (i + 2) from nI_add i 2]
  refine R_sld (pc := 325) dL_law_325 (by omega) hL31 ?_
  refine R_callV2 (pc := 326) (T := TX10) cal_X10_tell kw939 kw940 kw941 dL_law_326 (c_X10_tell hM1 hm6 hmu) ⟨by decide, by show _ ≤ 600000; omega, by show _ ≤ 7302250; omega⟩ (Nat.le_of_ble_eq_true rfl) (ci := 8) rfl hM1.o ?_
  rintro _ h2 ⟨rfl, M2, e2, s2⟩
  have hM2 : MAt h2 u M2 := by rw [e2]; exact mput_at _ _ _
  have hC2 := hC1.keep (h1 := h2) (fun x z1 z2 => by rw [e2]; exact mput_out (Or.inl (by omega)))
  have ha := hR.act (U := T + 101) (by omega) ((sim_tell hG C.2.1 (xs (i + 1)) (xs (i + 2))).mono (by omega))
  refine R_icmp_eq (pc := 329) 996 dL_law_329 (by decide) (fun c_329 => ?_) (fun c_329 => absurd ha.1 c_329)
  exact kk _ _ _ hC2 hM2 (ha.2.ms s2)

set_option maxHeartbeats 4000000 in
set_option maxRecDepth 100000 in
theorem law_sail (hk : k ≤ 600000) (hnn : n ≤ 7302250) (hL31 : L < 2 ^ 31) (hC : CAt h w C) (hM : MAt h u M) (hR : RC T C M) (hT : T + 101 < 2 ^ 29) (hiL : i + 7 ≤ L) (hwu : w + 329 ≤ u) (kk : ∀ (h2 : AH) (C2 : Cm) (M2 : Mm), CAt h2 w C2 → MAt h2 u M2 → RC (T + 101) C2 M2 → RunL l D cA N0 nm b L xs h2 k n 996 [some (.ref b), some (.ref w), some (.ref u), some (.int (nI i))] []) : RunL l D cA N0 nm b L xs h k n 334 [some (.ref b), some (.ref w), some (.ref u), some (.int (nI i))] [] := by
  obtain ⟨sn, hG⟩ := hR.1.1
  have hn := hG.n
  have hsn : M.2.1 10 = nI sn := hG.s10
  have hz : sBz C.1 := ⟨hG.mv, hR.1.2.2.1, hR.1.2.2.2⟩
  have hm6 : C.2.1 ≤ 6 := hR.2.1
  have hmu : M.1 3 = nI C.2.1 := hR.2.2.1
  have hl1 : C.2.2.2.2 ≤ 100 := hR.2.2.2.2.1
  have hml : M.1 4 = nI C.2.2.2.2 := hR.2.2.2.2.2.1
  have hrn : M.1 6 = 0 := hR.2.2.2.2.2.2.2
  have hcp : ∀ e, e < sn → ∃ c, c < 2 ∧ gx M.2.1 e 0 = nI c := fun e he => (hG.iz.2.2.2 e he).1
  have hxr := hG.xr
  have hnw := hG.nw
  have hhd := hG.hd
  have hfx := hG.fx
  refine R_aload_n1 (pc := 334) dL_law_334 ?_
  refine R_aload_n0 (pc := 335) dL_law_335 ?_
  refine R_iload_n3 (pc := 336) dL_law_336 ?_
  refine R_iconst (pc := 337) (v := 1) dL_law_337 (by decide) ?_
  refine R_iadd (pc := 338) dL_law_338 ?_
  rw [show nI i + 1 = nI (i + 1) from nI_add i 1]
  refine R_sld (pc := 339) dL_law_339 (by omega) hL31 ?_
  refine R_aload_n0 (pc := 340) dL_law_340 ?_
  refine R_iload_n3 (pc := 341) dL_law_341 ?_
  refine R_iconst (pc := 342) (v := 2) dL_law_342 (by decide) ?_
  refine R_iadd (pc := 343) dL_law_343 ?_
  rw [show nI i + 2 = nI (i + 2) from nI_add i 2]
  refine R_sld (pc := 344) dL_law_344 (by omega) hL31 ?_
  refine R_callV2 (pc := 345) (T := TX9) cal_X9_sail kw415 kw416 kw417 dL_law_345 (c_X9_sail hC hz) ⟨by decide, by show _ ≤ 600000; omega, by show _ ≤ 7302250; omega⟩ (Nat.le_of_ble_eq_true rfl) (ci := 7) rfl hC.self ?_
  rintro _ h1 ⟨rfl, hC1, hF1⟩
  have hM1 : MAt h1 u M := hM.keep (fun x z1 z2 => hF1.2 x (by omega))
  refine R_aload_n2 (pc := 348) dL_law_348 ?_
  refine R_aload_n0 (pc := 349) dL_law_349 ?_
  refine R_iload_n3 (pc := 350) dL_law_350 ?_
  refine R_iconst (pc := 351) (v := 1) dL_law_351 (by decide) ?_
  refine R_iadd (pc := 352) dL_law_352 ?_
  rw [show nI i + 1 = nI (i + 1) from nI_add i 1]
  refine R_sld (pc := 353) dL_law_353 (by omega) hL31 ?_
  refine R_aload_n0 (pc := 354) dL_law_354 ?_
  refine R_iload_n3 (pc := 355) dL_law_355 ?_
  refine R_iconst (pc := 356) (v := 2) dL_law_356 (by decide) ?_
  refine R_iadd (pc := 357) dL_law_357 ?_
  rw [show nI i + 2 = nI (i + 2) from nI_add i 2]
  refine R_sld (pc := 358) dL_law_358 (by omega) hL31 ?_
  refine R_callV2 (pc := 359) (T := TX10) cal_X10_sail kw950 kw951 kw952 dL_law_359 (c_X10_sail hM1 hn hsn hm6 hmu) ⟨by decide, by show _ ≤ 600000; omega, by show _ ≤ 7302250; omega⟩ (Nat.le_of_ble_eq_true rfl) (ci := 8) rfl hM1.o ?_
  rintro _ h2 ⟨rfl, M2, e2, s2⟩
  have hM2 : MAt h2 u M2 := by rw [e2]; exact mput_at _ _ _
  have hC2 := hC1.keep (h1 := h2) (fun x z1 z2 => by rw [e2]; exact mput_out (Or.inl (by omega)))
  have ha := hR.act (U := T + 101) (by omega) ((sim_sail hG C.2.1 (xs (i + 1)) (xs (i + 2))).mono (by omega))
  refine R_icmp_eq (pc := 362) 996 dL_law_362 (by decide) (fun c_362 => ?_) (fun c_362 => absurd ha.1 c_362)
  exact kk _ _ _ hC2 hM2 (ha.2.ms s2)

set_option maxHeartbeats 4000000 in
set_option maxRecDepth 100000 in
theorem law_fire (hk : k ≤ 600000) (hnn : n ≤ 7302250) (hL31 : L < 2 ^ 31) (hC : CAt h w C) (hM : MAt h u M) (hR : RC T C M) (hT : T + 101 < 2 ^ 29) (hiL : i + 7 ≤ L) (hwu : w + 329 ≤ u) (kk : ∀ (h2 : AH) (C2 : Cm) (M2 : Mm), CAt h2 w C2 → MAt h2 u M2 → RC (T + 101) C2 M2 → RunL l D cA N0 nm b L xs h2 k n 996 [some (.ref b), some (.ref w), some (.ref u), some (.int (nI i))] []) : RunL l D cA N0 nm b L xs h k n 367 [some (.ref b), some (.ref w), some (.ref u), some (.int (nI i))] [] := by
  obtain ⟨sn, hG⟩ := hR.1.1
  have hn := hG.n
  have hsn : M.2.1 10 = nI sn := hG.s10
  have hz : sBz C.1 := ⟨hG.mv, hR.1.2.2.1, hR.1.2.2.2⟩
  have hm6 : C.2.1 ≤ 6 := hR.2.1
  have hmu : M.1 3 = nI C.2.1 := hR.2.2.1
  have hl1 : C.2.2.2.2 ≤ 100 := hR.2.2.2.2.1
  have hml : M.1 4 = nI C.2.2.2.2 := hR.2.2.2.2.2.1
  have hrn : M.1 6 = 0 := hR.2.2.2.2.2.2.2
  have hcp : ∀ e, e < sn → ∃ c, c < 2 ∧ gx M.2.1 e 0 = nI c := fun e he => (hG.iz.2.2.2 e he).1
  have hxr := hG.xr
  have hnw := hG.nw
  have hhd := hG.hd
  have hfx := hG.fx
  refine R_aload_n1 (pc := 367) dL_law_367 ?_
  refine R_aload_n0 (pc := 368) dL_law_368 ?_
  refine R_iload_n3 (pc := 369) dL_law_369 ?_
  refine R_iconst (pc := 370) (v := 1) dL_law_370 (by decide) ?_
  refine R_iadd (pc := 371) dL_law_371 ?_
  rw [show nI i + 1 = nI (i + 1) from nI_add i 1]
  refine R_sld (pc := 372) dL_law_372 (by omega) hL31 ?_
  refine R_aload_n0 (pc := 373) dL_law_373 ?_
  refine R_iload_n3 (pc := 374) dL_law_374 ?_
  refine R_iconst (pc := 375) (v := 2) dL_law_375 (by decide) ?_
  refine R_iadd (pc := 376) dL_law_376 ?_
  rw [show nI i + 2 = nI (i + 2) from nI_add i 2]
  refine R_sld (pc := 377) dL_law_377 (by omega) hL31 ?_
  refine R_aload_n0 (pc := 378) dL_law_378 ?_
  refine R_iload_n3 (pc := 379) dL_law_379 ?_
  refine R_iconst (pc := 380) (v := 3) dL_law_380 (by decide) ?_
  refine R_iadd (pc := 381) dL_law_381 ?_
  rw [show nI i + 3 = nI (i + 3) from nI_add i 3]
  refine R_sld (pc := 382) dL_law_382 (by omega) hL31 ?_
  refine R_callV3 (pc := 383) (T := TX9) cal_X9_fire kw477 kw478 kw479 dL_law_383 (c_X9_fire hC hz) ⟨by decide, by show _ ≤ 600000; omega, by show _ ≤ 7302250; omega⟩ (Nat.le_of_ble_eq_true rfl) (ci := 7) rfl hC.self ?_
  rintro _ h1 ⟨rfl, hC1, hF1⟩
  have hM1 : MAt h1 u M := hM.keep (fun x z1 z2 => hF1.2 x (by omega))
  refine R_aload_n2 (pc := 386) dL_law_386 ?_
  refine R_aload_n0 (pc := 387) dL_law_387 ?_
  refine R_iload_n3 (pc := 388) dL_law_388 ?_
  refine R_iconst (pc := 389) (v := 1) dL_law_389 (by decide) ?_
  refine R_iadd (pc := 390) dL_law_390 ?_
  rw [show nI i + 1 = nI (i + 1) from nI_add i 1]
  refine R_sld (pc := 391) dL_law_391 (by omega) hL31 ?_
  refine R_aload_n0 (pc := 392) dL_law_392 ?_
  refine R_iload_n3 (pc := 393) dL_law_393 ?_
  refine R_iconst (pc := 394) (v := 2) dL_law_394 (by decide) ?_
  refine R_iadd (pc := 395) dL_law_395 ?_
  rw [show nI i + 2 = nI (i + 2) from nI_add i 2]
  refine R_sld (pc := 396) dL_law_396 (by omega) hL31 ?_
  refine R_aload_n0 (pc := 397) dL_law_397 ?_
  refine R_iload_n3 (pc := 398) dL_law_398 ?_
  refine R_iconst (pc := 399) (v := 3) dL_law_399 (by decide) ?_
  refine R_iadd (pc := 400) dL_law_400 ?_
  rw [show nI i + 3 = nI (i + 3) from nI_add i 3]
  refine R_sld (pc := 401) dL_law_401 (by omega) hL31 ?_
  refine R_callV3 (pc := 402) (T := TX10) cal_X10_fire kw981 kw982 kw983 dL_law_402 (c_X10_fire hM1 hn hsn hm6 hmu hG.wok) ⟨by decide, by show _ ≤ 600000; omega, by show _ ≤ 7302250; omega⟩ (Nat.le_of_ble_eq_true rfl) (ci := 8) rfl hM1.o ?_
  rintro _ h2 ⟨rfl, M2, e2, s2⟩
  have hM2 : MAt h2 u M2 := by rw [e2]; exact mput_at _ _ _
  have hC2 := hC1.keep (h1 := h2) (fun x z1 z2 => by rw [e2]; exact mput_out (Or.inl (by omega)))
  have ha := hR.act (U := T + 101) (by omega) ((sim_fire (by omega) hG C.2.1 (xs (i + 1)) (xs (i + 2)) (xs (i + 3))).mono (by omega))
  refine R_icmp_eq (pc := 405) 996 dL_law_405 (by decide) (fun c_405 => ?_) (fun c_405 => absurd ha.1 c_405)
  exact kk _ _ _ hC2 hM2 (ha.2.ms s2)

set_option maxHeartbeats 4000000 in
set_option maxRecDepth 100000 in
theorem law_grapple (hk : k ≤ 600000) (hnn : n ≤ 7302250) (hL31 : L < 2 ^ 31) (hC : CAt h w C) (hM : MAt h u M) (hR : RC T C M) (hT : T + 101 < 2 ^ 29) (hiL : i + 7 ≤ L) (hwu : w + 329 ≤ u) (kk : ∀ (h2 : AH) (C2 : Cm) (M2 : Mm), CAt h2 w C2 → MAt h2 u M2 → RC (T + 101) C2 M2 → RunL l D cA N0 nm b L xs h2 k n 996 [some (.ref b), some (.ref w), some (.ref u), some (.int (nI i))] []) : RunL l D cA N0 nm b L xs h k n 410 [some (.ref b), some (.ref w), some (.ref u), some (.int (nI i))] [] := by
  obtain ⟨sn, hG⟩ := hR.1.1
  have hn := hG.n
  have hsn : M.2.1 10 = nI sn := hG.s10
  have hz : sBz C.1 := ⟨hG.mv, hR.1.2.2.1, hR.1.2.2.2⟩
  have hm6 : C.2.1 ≤ 6 := hR.2.1
  have hmu : M.1 3 = nI C.2.1 := hR.2.2.1
  have hl1 : C.2.2.2.2 ≤ 100 := hR.2.2.2.2.1
  have hml : M.1 4 = nI C.2.2.2.2 := hR.2.2.2.2.2.1
  have hrn : M.1 6 = 0 := hR.2.2.2.2.2.2.2
  have hcp : ∀ e, e < sn → ∃ c, c < 2 ∧ gx M.2.1 e 0 = nI c := fun e he => (hG.iz.2.2.2 e he).1
  have hxr := hG.xr
  have hnw := hG.nw
  have hhd := hG.hd
  have hfx := hG.fx
  refine R_aload_n1 (pc := 410) dL_law_410 ?_
  refine R_aload_n0 (pc := 411) dL_law_411 ?_
  refine R_iload_n3 (pc := 412) dL_law_412 ?_
  refine R_iconst (pc := 413) (v := 1) dL_law_413 (by decide) ?_
  refine R_iadd (pc := 414) dL_law_414 ?_
  rw [show nI i + 1 = nI (i + 1) from nI_add i 1]
  refine R_sld (pc := 415) dL_law_415 (by omega) hL31 ?_
  refine R_aload_n0 (pc := 416) dL_law_416 ?_
  refine R_iload_n3 (pc := 417) dL_law_417 ?_
  refine R_iconst (pc := 418) (v := 2) dL_law_418 (by decide) ?_
  refine R_iadd (pc := 419) dL_law_419 ?_
  rw [show nI i + 2 = nI (i + 2) from nI_add i 2]
  refine R_sld (pc := 420) dL_law_420 (by omega) hL31 ?_
  refine R_callV2 (pc := 421) (T := TX9) cal_X9_grapple kw519 kw520 kw521 dL_law_421 (c_X9_grapple hC hz hxr) ⟨by decide, by show _ ≤ 600000; omega, by show _ ≤ 7302250; omega⟩ (Nat.le_of_ble_eq_true rfl) (ci := 7) rfl hC.self ?_
  rintro _ h1 ⟨rfl, hC1, hF1⟩
  have hM1 : MAt h1 u M := hM.keep (fun x z1 z2 => hF1.2 x (by omega))
  refine R_aload_n2 (pc := 424) dL_law_424 ?_
  refine R_aload_n0 (pc := 425) dL_law_425 ?_
  refine R_iload_n3 (pc := 426) dL_law_426 ?_
  refine R_iconst (pc := 427) (v := 1) dL_law_427 (by decide) ?_
  refine R_iadd (pc := 428) dL_law_428 ?_
  rw [show nI i + 1 = nI (i + 1) from nI_add i 1]
  refine R_sld (pc := 429) dL_law_429 (by omega) hL31 ?_
  refine R_aload_n0 (pc := 430) dL_law_430 ?_
  refine R_iload_n3 (pc := 431) dL_law_431 ?_
  refine R_iconst (pc := 432) (v := 2) dL_law_432 (by decide) ?_
  refine R_iadd (pc := 433) dL_law_433 ?_
  rw [show nI i + 2 = nI (i + 2) from nI_add i 2]
  refine R_sld (pc := 434) dL_law_434 (by omega) hL31 ?_
  refine R_callV2 (pc := 435) (T := TX10) cal_X10_grapple kw1013 kw1014 kw1015 dL_law_435 (c_X10_grapple hM1 hn hsn hm6 hmu) ⟨by decide, by show _ ≤ 600000; omega, by show _ ≤ 7302250; omega⟩ (Nat.le_of_ble_eq_true rfl) (ci := 8) rfl hM1.o ?_
  rintro _ h2 ⟨rfl, M2, e2, s2⟩
  have hM2 : MAt h2 u M2 := by rw [e2]; exact mput_at _ _ _
  have hC2 := hC1.keep (h1 := h2) (fun x z1 z2 => by rw [e2]; exact mput_out (Or.inl (by omega)))
  have ha := hR.act (U := T + 101) (by omega) ((sim_grap hG C.2.1 (xs (i + 1)) (xs (i + 2))).mono (by omega))
  refine R_icmp_eq (pc := 438) 996 dL_law_438 (by decide) (fun c_438 => ?_) (fun c_438 => absurd ha.1 c_438)
  exact kk _ _ _ hC2 hM2 (ha.2.ms s2)

set_option maxHeartbeats 4000000 in
set_option maxRecDepth 100000 in
theorem law_cut (hk : k ≤ 600000) (hnn : n ≤ 7302250) (hL31 : L < 2 ^ 31) (hC : CAt h w C) (hM : MAt h u M) (hR : RC T C M) (hT : T + 101 < 2 ^ 29) (hiL : i + 7 ≤ L) (hwu : w + 329 ≤ u) (kk : ∀ (h2 : AH) (C2 : Cm) (M2 : Mm), CAt h2 w C2 → MAt h2 u M2 → RC (T + 101) C2 M2 → RunL l D cA N0 nm b L xs h2 k n 996 [some (.ref b), some (.ref w), some (.ref u), some (.int (nI i))] []) : RunL l D cA N0 nm b L xs h k n 443 [some (.ref b), some (.ref w), some (.ref u), some (.int (nI i))] [] := by
  obtain ⟨sn, hG⟩ := hR.1.1
  have hn := hG.n
  have hsn : M.2.1 10 = nI sn := hG.s10
  have hz : sBz C.1 := ⟨hG.mv, hR.1.2.2.1, hR.1.2.2.2⟩
  have hm6 : C.2.1 ≤ 6 := hR.2.1
  have hmu : M.1 3 = nI C.2.1 := hR.2.2.1
  have hl1 : C.2.2.2.2 ≤ 100 := hR.2.2.2.2.1
  have hml : M.1 4 = nI C.2.2.2.2 := hR.2.2.2.2.2.1
  have hrn : M.1 6 = 0 := hR.2.2.2.2.2.2.2
  have hcp : ∀ e, e < sn → ∃ c, c < 2 ∧ gx M.2.1 e 0 = nI c := fun e he => (hG.iz.2.2.2 e he).1
  have hxr := hG.xr
  have hnw := hG.nw
  have hhd := hG.hd
  have hfx := hG.fx
  refine R_aload_n1 (pc := 443) dL_law_443 ?_
  refine R_aload_n0 (pc := 444) dL_law_444 ?_
  refine R_iload_n3 (pc := 445) dL_law_445 ?_
  refine R_iconst (pc := 446) (v := 1) dL_law_446 (by decide) ?_
  refine R_iadd (pc := 447) dL_law_447 ?_
  rw [show nI i + 1 = nI (i + 1) from nI_add i 1]
  refine R_sld (pc := 448) dL_law_448 (by omega) hL31 ?_
  refine R_callV1 (pc := 449) (T := TX9) cal_X9_cut kw532 kw533 kw534 dL_law_449 (c_X9_cut hC hz) ⟨by decide, by show _ ≤ 600000; omega, by show _ ≤ 7302250; omega⟩ (Nat.le_of_ble_eq_true rfl) (ci := 7) rfl hC.self ?_
  rintro _ h1 ⟨rfl, hC1, hF1⟩
  have hM1 : MAt h1 u M := hM.keep (fun x z1 z2 => hF1.2 x (by omega))
  refine R_aload_n2 (pc := 452) dL_law_452 ?_
  refine R_aload_n0 (pc := 453) dL_law_453 ?_
  refine R_iload_n3 (pc := 454) dL_law_454 ?_
  refine R_iconst (pc := 455) (v := 1) dL_law_455 (by decide) ?_
  refine R_iadd (pc := 456) dL_law_456 ?_
  rw [show nI i + 1 = nI (i + 1) from nI_add i 1]
  refine R_sld (pc := 457) dL_law_457 (by omega) hL31 ?_
  refine R_callV1 (pc := 458) (T := TX10) cal_X10_cut kw1020 kw1021 kw1022 dL_law_458 (c_X10_cut hM1 hn hsn hm6 hmu hG.wok) ⟨by decide, by show _ ≤ 600000; omega, by show _ ≤ 7302250; omega⟩ (Nat.le_of_ble_eq_true rfl) (ci := 8) rfl hM1.o ?_
  rintro _ h2 ⟨rfl, M2, e2, s2⟩
  have hM2 : MAt h2 u M2 := by rw [e2]; exact mput_at _ _ _
  have hC2 := hC1.keep (h1 := h2) (fun x z1 z2 => by rw [e2]; exact mput_out (Or.inl (by omega)))
  have ha := hR.act (U := T + 101) (by omega) ((sim_cut hG C.2.1 (xs (i + 1))).mono (by omega))
  refine R_icmp_eq (pc := 461) 996 dL_law_461 (by decide) (fun c_461 => ?_) (fun c_461 => absurd ha.1 c_461)
  exact kk _ _ _ hC2 hM2 (ha.2.ms s2)

set_option maxHeartbeats 4000000 in
set_option maxRecDepth 100000 in
theorem law_repair (hk : k ≤ 600000) (hnn : n ≤ 7302250) (hL31 : L < 2 ^ 31) (hC : CAt h w C) (hM : MAt h u M) (hR : RC T C M) (hT : T + 101 < 2 ^ 29) (hiL : i + 7 ≤ L) (hwu : w + 329 ≤ u) (kk : ∀ (h2 : AH) (C2 : Cm) (M2 : Mm), CAt h2 w C2 → MAt h2 u M2 → RC (T + 101) C2 M2 → RunL l D cA N0 nm b L xs h2 k n 996 [some (.ref b), some (.ref w), some (.ref u), some (.int (nI i))] []) : RunL l D cA N0 nm b L xs h k n 466 [some (.ref b), some (.ref w), some (.ref u), some (.int (nI i))] [] := by
  obtain ⟨sn, hG⟩ := hR.1.1
  have hn := hG.n
  have hsn : M.2.1 10 = nI sn := hG.s10
  have hz : sBz C.1 := ⟨hG.mv, hR.1.2.2.1, hR.1.2.2.2⟩
  have hm6 : C.2.1 ≤ 6 := hR.2.1
  have hmu : M.1 3 = nI C.2.1 := hR.2.2.1
  have hl1 : C.2.2.2.2 ≤ 100 := hR.2.2.2.2.1
  have hml : M.1 4 = nI C.2.2.2.2 := hR.2.2.2.2.2.1
  have hrn : M.1 6 = 0 := hR.2.2.2.2.2.2.2
  have hcp : ∀ e, e < sn → ∃ c, c < 2 ∧ gx M.2.1 e 0 = nI c := fun e he => (hG.iz.2.2.2 e he).1
  have hxr := hG.xr
  have hnw := hG.nw
  have hhd := hG.hd
  have hfx := hG.fx
  refine R_aload_n1 (pc := 466) dL_law_466 ?_
  refine R_aload_n0 (pc := 467) dL_law_467 ?_
  refine R_iload_n3 (pc := 468) dL_law_468 ?_
  refine R_iconst (pc := 469) (v := 1) dL_law_469 (by decide) ?_
  refine R_iadd (pc := 470) dL_law_470 ?_
  rw [show nI i + 1 = nI (i + 1) from nI_add i 1]
  refine R_sld (pc := 471) dL_law_471 (by omega) hL31 ?_
  refine R_aload_n0 (pc := 472) dL_law_472 ?_
  refine R_iload_n3 (pc := 473) dL_law_473 ?_
  refine R_iconst (pc := 474) (v := 2) dL_law_474 (by decide) ?_
  refine R_iadd (pc := 475) dL_law_475 ?_
  rw [show nI i + 2 = nI (i + 2) from nI_add i 2]
  refine R_sld (pc := 476) dL_law_476 (by omega) hL31 ?_
  refine R_callV2 (pc := 477) (T := TX9) cal_X9_repair kw540 kw541 kw542 dL_law_477 (c_X9_repair hC hz) ⟨by decide, by show _ ≤ 600000; omega, by show _ ≤ 7302250; omega⟩ (Nat.le_of_ble_eq_true rfl) (ci := 7) rfl hC.self ?_
  rintro _ h1 ⟨rfl, hC1, hF1⟩
  have hM1 : MAt h1 u M := hM.keep (fun x z1 z2 => hF1.2 x (by omega))
  refine R_aload_n2 (pc := 480) dL_law_480 ?_
  refine R_aload_n0 (pc := 481) dL_law_481 ?_
  refine R_iload_n3 (pc := 482) dL_law_482 ?_
  refine R_iconst (pc := 483) (v := 1) dL_law_483 (by decide) ?_
  refine R_iadd (pc := 484) dL_law_484 ?_
  rw [show nI i + 1 = nI (i + 1) from nI_add i 1]
  refine R_sld (pc := 485) dL_law_485 (by omega) hL31 ?_
  refine R_aload_n0 (pc := 486) dL_law_486 ?_
  refine R_iload_n3 (pc := 487) dL_law_487 ?_
  refine R_iconst (pc := 488) (v := 2) dL_law_488 (by decide) ?_
  refine R_iadd (pc := 489) dL_law_489 ?_
  rw [show nI i + 2 = nI (i + 2) from nI_add i 2]
  refine R_sld (pc := 490) dL_law_490 (by omega) hL31 ?_
  refine R_callV2 (pc := 491) (T := TX10) cal_X10_repair kw1024 kw1025 kw1026 dL_law_491 (c_X10_repair hM1 hn hsn hm6 hmu hcp) ⟨by decide, by show _ ≤ 600000; omega, by show _ ≤ 7302250; omega⟩ (Nat.le_of_ble_eq_true rfl) (ci := 8) rfl hM1.o ?_
  rintro _ h2 ⟨rfl, M2, e2, s2⟩
  have hM2 : MAt h2 u M2 := by rw [e2]; exact mput_at _ _ _
  have hC2 := hC1.keep (h1 := h2) (fun x z1 z2 => by rw [e2]; exact mput_out (Or.inl (by omega)))
  have ha := hR.act (U := T + 101) (by omega) ((sim_rep hG C.2.1 (xs (i + 1)) (xs (i + 2))).mono (by omega))
  refine R_icmp_eq (pc := 494) 996 dL_law_494 (by decide) (fun c_494 => ?_) (fun c_494 => absurd ha.1 c_494)
  exact kk _ _ _ hC2 hM2 (ha.2.ms s2)

set_option maxHeartbeats 4000000 in
set_option maxRecDepth 100000 in
theorem law_end (hk : k ≤ 600000) (hnn : n ≤ 7302250) (hL31 : L < 2 ^ 31) (hC : CAt h w C) (hM : MAt h u M) (hR : RC T C M) (hT : T + 101 < 2 ^ 29) (hiL : i + 7 ≤ L) (hwu : w + 329 ≤ u) (kk : ∀ (h2 : AH) (C2 : Cm) (M2 : Mm), CAt h2 w C2 → MAt h2 u M2 → RC (T + 101) C2 M2 → RunL l D cA N0 nm b L xs h2 k n 996 [some (.ref b), some (.ref w), some (.ref u), some (.int (nI i))] []) : RunL l D cA N0 nm b L xs h k n 499 [some (.ref b), some (.ref w), some (.ref u), some (.int (nI i))] [] := by
  obtain ⟨sn, hG⟩ := hR.1.1
  have hn := hG.n
  have hsn : M.2.1 10 = nI sn := hG.s10
  have hz : sBz C.1 := ⟨hG.mv, hR.1.2.2.1, hR.1.2.2.2⟩
  have hm6 : C.2.1 ≤ 6 := hR.2.1
  have hmu : M.1 3 = nI C.2.1 := hR.2.2.1
  have hl1 : C.2.2.2.2 ≤ 100 := hR.2.2.2.2.1
  have hml : M.1 4 = nI C.2.2.2.2 := hR.2.2.2.2.2.1
  have hrn : M.1 6 = 0 := hR.2.2.2.2.2.2.2
  have hcp : ∀ e, e < sn → ∃ c, c < 2 ∧ gx M.2.1 e 0 = nI c := fun e he => (hG.iz.2.2.2 e he).1
  have hxr := hG.xr
  have hnw := hG.nw
  have hhd := hG.hd
  have hfx := hG.fx
  refine R_aload_n1 (pc := 499) dL_law_499 ?_
  refine R_callV0 (pc := 500) (T := TX9) cal_X9_end kw552 kw553 kw554 dL_law_500 (c_X9_end hC hz) ⟨by decide, by show _ ≤ 600000; omega, by show _ ≤ 7302250; omega⟩ (Nat.le_of_ble_eq_true rfl) (ci := 7) rfl hC.self ?_
  rintro _ h1 ⟨rfl, hC1, hF1⟩
  have hM1 : MAt h1 u M := hM.keep (fun x z1 z2 => hF1.2 x (by omega))
  refine R_aload_n2 (pc := 503) dL_law_503 ?_
  refine R_callV0 (pc := 504) (T := TX10) cal_X10_end kw1033 kw1034 kw1035 dL_law_504 (c_X10_end hM1 hn hsn hm6 hmu hG.wok) ⟨by decide, by show _ ≤ 600000; omega, by show _ ≤ 7302250; omega⟩ (Nat.le_of_ble_eq_true rfl) (ci := 8) rfl hM1.o ?_
  rintro _ h2 ⟨rfl, M2, e2, s2⟩
  have hM2 : MAt h2 u M2 := by rw [e2]; exact mput_at _ _ _
  have hC2 := hC1.keep (h1 := h2) (fun x z1 z2 => by rw [e2]; exact mput_out (Or.inl (by omega)))
  have ha := hR.act (U := T + 101) (by omega) ((sim_end (by omega) hG C.2.1 ).mono (by omega))
  refine R_icmp_eq (pc := 507) 996 dL_law_507 (by decide) (fun c_507 => ?_) (fun c_507 => absurd ha.1 c_507)
  exact kk _ _ _ hC2 hM2 (ha.2.ms s2)

set_option maxHeartbeats 4000000 in
set_option maxRecDepth 100000 in
theorem law_take (hk : k ≤ 600000) (hnn : n ≤ 7302250) (hL31 : L < 2 ^ 31) (hC : CAt h w C) (hM : MAt h u M) (hR : RC T C M) (hT : T + 101 < 2 ^ 29) (hiL : i + 7 ≤ L) (hwu : w + 329 ≤ u) (kk : ∀ (h2 : AH) (C2 : Cm) (M2 : Mm), CAt h2 w C2 → MAt h2 u M2 → RC (T + 101) C2 M2 → RunL l D cA N0 nm b L xs h2 k n 996 [some (.ref b), some (.ref w), some (.ref u), some (.int (nI i))] []) : RunL l D cA N0 nm b L xs h k n 512 [some (.ref b), some (.ref w), some (.ref u), some (.int (nI i))] [] := by
  obtain ⟨sn, hG⟩ := hR.1.1
  have hn := hG.n
  have hsn : M.2.1 10 = nI sn := hG.s10
  have hz : sBz C.1 := ⟨hG.mv, hR.1.2.2.1, hR.1.2.2.2⟩
  have hm6 : C.2.1 ≤ 6 := hR.2.1
  have hmu : M.1 3 = nI C.2.1 := hR.2.2.1
  have hl1 : C.2.2.2.2 ≤ 100 := hR.2.2.2.2.1
  have hml : M.1 4 = nI C.2.2.2.2 := hR.2.2.2.2.2.1
  have hrn : M.1 6 = 0 := hR.2.2.2.2.2.2.2
  have hcp : ∀ e, e < sn → ∃ c, c < 2 ∧ gx M.2.1 e 0 = nI c := fun e he => (hG.iz.2.2.2 e he).1
  have hxr := hG.xr
  have hnw := hG.nw
  have hhd := hG.hd
  have hfx := hG.fx
  refine R_aload_n1 (pc := 512) dL_law_512 ?_
  refine R_aload_n0 (pc := 513) dL_law_513 ?_
  refine R_iload_n3 (pc := 514) dL_law_514 ?_
  refine R_iconst (pc := 515) (v := 1) dL_law_515 (by decide) ?_
  refine R_iadd (pc := 516) dL_law_516 ?_
  rw [show nI i + 1 = nI (i + 1) from nI_add i 1]
  refine R_sld (pc := 517) dL_law_517 (by omega) hL31 ?_
  refine R_callV1 (pc := 518) (T := TX9) cal_X9_take kw569 kw570 kw571 dL_law_518 (c_X9_take hC hz) ⟨by decide, by show _ ≤ 600000; omega, by show _ ≤ 7302250; omega⟩ (Nat.le_of_ble_eq_true rfl) (ci := 7) rfl hC.self ?_
  rintro _ h1 ⟨rfl, hC1, hF1⟩
  have hM1 : MAt h1 u M := hM.keep (fun x z1 z2 => hF1.2 x (by omega))
  refine R_aload_n2 (pc := 521) dL_law_521 ?_
  refine R_aload_n0 (pc := 522) dL_law_522 ?_
  refine R_iload_n3 (pc := 523) dL_law_523 ?_
  refine R_iconst (pc := 524) (v := 1) dL_law_524 (by decide) ?_
  refine R_iadd (pc := 525) dL_law_525 ?_
  rw [show nI i + 1 = nI (i + 1) from nI_add i 1]
  refine R_sld (pc := 526) dL_law_526 (by omega) hL31 ?_
  refine R_callV1 (pc := 527) (T := TX10) cal_X10_take kw1041 kw1042 kw1043 dL_law_527 (c_X10_take hM1 hm6 hmu) ⟨by decide, by show _ ≤ 600000; omega, by show _ ≤ 7302250; omega⟩ (Nat.le_of_ble_eq_true rfl) (ci := 8) rfl hM1.o ?_
  rintro _ h2 ⟨rfl, M2, e2, s2⟩
  have hM2 : MAt h2 u M2 := by rw [e2]; exact mput_at _ _ _
  have hC2 := hC1.keep (h1 := h2) (fun x z1 z2 => by rw [e2]; exact mput_out (Or.inl (by omega)))
  have ha := tie_take (by omega) hR (xs (i + 1))
  refine R_icmp_eq (pc := 530) 996 dL_law_530 (by decide) (fun c_530 => ?_) (fun c_530 => absurd ha.1 c_530)
  exact kk _ _ _ hC2 hM2 ((ha.2.mono (by omega)).ms s2)

set_option maxHeartbeats 4000000 in
set_option maxRecDepth 100000 in
theorem law_restore (hk : k ≤ 600000) (hnn : n ≤ 7302250) (hL31 : L < 2 ^ 31) (hC : CAt h w C) (hM : MAt h u M) (hR : RC T C M) (hT : T + 101 < 2 ^ 29) (hiL : i + 7 ≤ L) (hwu : w + 329 ≤ u) (kk : ∀ (h2 : AH) (C2 : Cm) (M2 : Mm), CAt h2 w C2 → MAt h2 u M2 → RC (T + 101) C2 M2 → RunL l D cA N0 nm b L xs h2 k n 996 [some (.ref b), some (.ref w), some (.ref u), some (.int (nI i))] []) : RunL l D cA N0 nm b L xs h k n 535 [some (.ref b), some (.ref w), some (.ref u), some (.int (nI i))] [] := by
  obtain ⟨sn, hG⟩ := hR.1.1
  have hn := hG.n
  have hsn : M.2.1 10 = nI sn := hG.s10
  have hz : sBz C.1 := ⟨hG.mv, hR.1.2.2.1, hR.1.2.2.2⟩
  have hm6 : C.2.1 ≤ 6 := hR.2.1
  have hmu : M.1 3 = nI C.2.1 := hR.2.2.1
  have hl1 : C.2.2.2.2 ≤ 100 := hR.2.2.2.2.1
  have hml : M.1 4 = nI C.2.2.2.2 := hR.2.2.2.2.2.1
  have hrn : M.1 6 = 0 := hR.2.2.2.2.2.2.2
  have hcp : ∀ e, e < sn → ∃ c, c < 2 ∧ gx M.2.1 e 0 = nI c := fun e he => (hG.iz.2.2.2 e he).1
  have hxr := hG.xr
  have hnw := hG.nw
  have hhd := hG.hd
  have hfx := hG.fx
  refine R_aload_n1 (pc := 535) dL_law_535 ?_
  refine R_aload_n0 (pc := 536) dL_law_536 ?_
  refine R_iload_n3 (pc := 537) dL_law_537 ?_
  refine R_iconst (pc := 538) (v := 1) dL_law_538 (by decide) ?_
  refine R_iadd (pc := 539) dL_law_539 ?_
  rw [show nI i + 1 = nI (i + 1) from nI_add i 1]
  refine R_sld (pc := 540) dL_law_540 (by omega) hL31 ?_
  refine R_callV1 (pc := 541) (T := TX9) cal_X9_restore kw585 kw586 kw587 dL_law_541 (c_X9_restore hC hz) ⟨by decide, by show _ ≤ 600000; omega, by show _ ≤ 7302250; omega⟩ (Nat.le_of_ble_eq_true rfl) (ci := 7) rfl hC.self ?_
  rintro _ h1 ⟨rfl, hC1, hF1⟩
  have hM1 : MAt h1 u M := hM.keep (fun x z1 z2 => hF1.2 x (by omega))
  refine R_aload_n2 (pc := 544) dL_law_544 ?_
  refine R_aload_n0 (pc := 545) dL_law_545 ?_
  refine R_iload_n3 (pc := 546) dL_law_546 ?_
  refine R_iconst (pc := 547) (v := 1) dL_law_547 (by decide) ?_
  refine R_iadd (pc := 548) dL_law_548 ?_
  rw [show nI i + 1 = nI (i + 1) from nI_add i 1]
  refine R_sld (pc := 549) dL_law_549 (by omega) hL31 ?_
  refine R_callV1 (pc := 550) (T := TX10) cal_X10_restore kw1045 kw1046 kw1047 dL_law_550 (c_X10_restore hM1 hm6 hmu) ⟨by decide, by show _ ≤ 600000; omega, by show _ ≤ 7302250; omega⟩ (Nat.le_of_ble_eq_true rfl) (ci := 8) rfl hM1.o ?_
  rintro _ h2 ⟨rfl, M2, e2, s2⟩
  have hM2 : MAt h2 u M2 := by rw [e2]; exact mput_at _ _ _
  have hC2 := hC1.keep (h1 := h2) (fun x z1 z2 => by rw [e2]; exact mput_out (Or.inl (by omega)))
  have ha := tie_restore (by omega) hR (xs (i + 1))
  refine R_icmp_eq (pc := 553) 996 dL_law_553 (by decide) (fun c_553 => ?_) (fun c_553 => absurd ha.1 c_553)
  exact kk _ _ _ hC2 hM2 ((ha.2.mono (by omega)).ms s2)

set_option maxHeartbeats 4000000 in
set_option maxRecDepth 100000 in
theorem law_undo (hk : k ≤ 600000) (hnn : n ≤ 7302250) (hL31 : L < 2 ^ 31) (hC : CAt h w C) (hM : MAt h u M) (hR : RC T C M) (hT : T + 101 < 2 ^ 29) (hiL : i + 7 ≤ L) (hwu : w + 329 ≤ u) (kk : ∀ (h2 : AH) (C2 : Cm) (M2 : Mm), CAt h2 w C2 → MAt h2 u M2 → RC (T + 101) C2 M2 → RunL l D cA N0 nm b L xs h2 k n 996 [some (.ref b), some (.ref w), some (.ref u), some (.int (nI i))] []) : RunL l D cA N0 nm b L xs h k n 558 [some (.ref b), some (.ref w), some (.ref u), some (.int (nI i))] [] := by
  obtain ⟨sn, hG⟩ := hR.1.1
  have hn := hG.n
  have hsn : M.2.1 10 = nI sn := hG.s10
  have hz : sBz C.1 := ⟨hG.mv, hR.1.2.2.1, hR.1.2.2.2⟩
  have hm6 : C.2.1 ≤ 6 := hR.2.1
  have hmu : M.1 3 = nI C.2.1 := hR.2.2.1
  have hl1 : C.2.2.2.2 ≤ 100 := hR.2.2.2.2.1
  have hml : M.1 4 = nI C.2.2.2.2 := hR.2.2.2.2.2.1
  have hrn : M.1 6 = 0 := hR.2.2.2.2.2.2.2
  have hcp : ∀ e, e < sn → ∃ c, c < 2 ∧ gx M.2.1 e 0 = nI c := fun e he => (hG.iz.2.2.2 e he).1
  have hxr := hG.xr
  have hnw := hG.nw
  have hhd := hG.hd
  have hfx := hG.fx
  refine R_aload_n1 (pc := 558) dL_law_558 ?_
  refine R_callV0 (pc := 559) (T := TX9) cal_X9_undo kw593 kw594 kw595 dL_law_559 (c_X9_undo hC) ⟨by decide, by show _ ≤ 600000; omega, by show _ ≤ 7302250; omega⟩ (Nat.le_of_ble_eq_true rfl) (ci := 7) rfl hC.self ?_
  rintro _ h1 ⟨rfl, hC1, hF1⟩
  have hM1 : MAt h1 u M := hM.keep (fun x z1 z2 => hF1.2 x (by omega))
  refine R_aload_n2 (pc := 562) dL_law_562 ?_
  refine R_callV0 (pc := 563) (T := TX10) cal_X10_undo kw1049 kw1050 kw1051 dL_law_563 (c_X10_undo hM1 hm6 hmu) ⟨by decide, by show _ ≤ 600000; omega, by show _ ≤ 7302250; omega⟩ (Nat.le_of_ble_eq_true rfl) (ci := 8) rfl hM1.o ?_
  rintro _ h2 ⟨rfl, M2, e2, s2⟩
  have hM2 : MAt h2 u M2 := by rw [e2]; exact mput_at _ _ _
  have hC2 := hC1.keep (h1 := h2) (fun x z1 z2 => by rw [e2]; exact mput_out (Or.inl (by omega)))
  have ha := tie_undo hR
  refine R_icmp_eq (pc := 566) 996 dL_law_566 (by decide) (fun c_566 => ?_) (fun c_566 => absurd ha.1 c_566)
  exact kk _ _ _ hC2 hM2 ((ha.2.mono (by omega)).ms s2)

set_option maxHeartbeats 4000000 in
set_option maxRecDepth 100000 in
theorem law_append (hk : k ≤ 600000) (hnn : n ≤ 7302250) (hL31 : L < 2 ^ 31) (hC : CAt h w C) (hM : MAt h u M) (hR : RC T C M) (hT : T + 101 < 2 ^ 29) (hiL : i + 7 ≤ L) (hwu : w + 329 ≤ u) (kk : ∀ (h2 : AH) (C2 : Cm) (M2 : Mm), CAt h2 w C2 → MAt h2 u M2 → RC (T + 101) C2 M2 → RunL l D cA N0 nm b L xs h2 k n 996 [some (.ref b), some (.ref w), some (.ref u), some (.int (nI i))] []) : RunL l D cA N0 nm b L xs h k n 571 [some (.ref b), some (.ref w), some (.ref u), some (.int (nI i))] [] := by
  obtain ⟨sn, hG⟩ := hR.1.1
  have hn := hG.n
  have hsn : M.2.1 10 = nI sn := hG.s10
  have hz : sBz C.1 := ⟨hG.mv, hR.1.2.2.1, hR.1.2.2.2⟩
  have hm6 : C.2.1 ≤ 6 := hR.2.1
  have hmu : M.1 3 = nI C.2.1 := hR.2.2.1
  have hl1 : C.2.2.2.2 ≤ 100 := hR.2.2.2.2.1
  have hml : M.1 4 = nI C.2.2.2.2 := hR.2.2.2.2.2.1
  have hrn : M.1 6 = 0 := hR.2.2.2.2.2.2.2
  have hcp : ∀ e, e < sn → ∃ c, c < 2 ∧ gx M.2.1 e 0 = nI c := fun e he => (hG.iz.2.2.2 e he).1
  have hxr := hG.xr
  have hnw := hG.nw
  have hhd := hG.hd
  have hfx := hG.fx
  refine R_aload_n1 (pc := 571) dL_law_571 ?_
  refine R_aload_n0 (pc := 572) dL_law_572 ?_
  refine R_iload_n3 (pc := 573) dL_law_573 ?_
  refine R_iconst (pc := 574) (v := 1) dL_law_574 (by decide) ?_
  refine R_iadd (pc := 575) dL_law_575 ?_
  rw [show nI i + 1 = nI (i + 1) from nI_add i 1]
  refine R_sld (pc := 576) dL_law_576 (by omega) hL31 ?_
  refine R_callV1 (pc := 577) (T := TX9) cal_X9_append kw601 kw602 kw603 dL_law_577 (c_X9_append hC) ⟨by decide, by show _ ≤ 600000; omega, by show _ ≤ 7302250; omega⟩ (Nat.le_of_ble_eq_true rfl) (ci := 7) rfl hC.self ?_
  rintro _ h1 ⟨rfl, hC1, hF1⟩
  have hM1 : MAt h1 u M := hM.keep (fun x z1 z2 => hF1.2 x (by omega))
  refine R_aload_n2 (pc := 580) dL_law_580 ?_
  refine R_aload_n0 (pc := 581) dL_law_581 ?_
  refine R_iload_n3 (pc := 582) dL_law_582 ?_
  refine R_iconst (pc := 583) (v := 1) dL_law_583 (by decide) ?_
  refine R_iadd (pc := 584) dL_law_584 ?_
  rw [show nI i + 1 = nI (i + 1) from nI_add i 1]
  refine R_sld (pc := 585) dL_law_585 (by omega) hL31 ?_
  refine R_callV1 (pc := 586) (T := TX10) cal_X10_append kw1053 kw1054 kw1055 dL_law_586 (c_X10_append hM1 hl1 hml) ⟨by decide, by show _ ≤ 600000; omega, by show _ ≤ 7302250; omega⟩ (Nat.le_of_ble_eq_true rfl) (ci := 8) rfl hM1.o ?_
  rintro _ h2 ⟨rfl, M2, e2, s2⟩
  have hM2 : MAt h2 u M2 := by rw [e2]; exact mput_at _ _ _
  have hC2 := hC1.keep (h1 := h2) (fun x z1 z2 => by rw [e2]; exact mput_out (Or.inl (by omega)))
  have ha := tie_append hR (xs (i + 1))
  refine R_icmp_eq (pc := 589) 996 dL_law_589 (by decide) (fun c_589 => ?_) (fun c_589 => absurd ha.1 c_589)
  exact kk _ _ _ hC2 hM2 ((ha.2.mono (by omega)).ms s2)

set_option maxHeartbeats 4000000 in
set_option maxRecDepth 100000 in
theorem law_clearText (hk : k ≤ 600000) (hnn : n ≤ 7302250) (hL31 : L < 2 ^ 31) (hC : CAt h w C) (hM : MAt h u M) (hR : RC T C M) (hT : T + 101 < 2 ^ 29) (hiL : i + 7 ≤ L) (hwu : w + 329 ≤ u) (kk : ∀ (h2 : AH) (C2 : Cm) (M2 : Mm), CAt h2 w C2 → MAt h2 u M2 → RC (T + 101) C2 M2 → RunL l D cA N0 nm b L xs h2 k n 996 [some (.ref b), some (.ref w), some (.ref u), some (.int (nI i))] []) : RunL l D cA N0 nm b L xs h k n 594 [some (.ref b), some (.ref w), some (.ref u), some (.int (nI i))] [] := by
  obtain ⟨sn, hG⟩ := hR.1.1
  have hn := hG.n
  have hsn : M.2.1 10 = nI sn := hG.s10
  have hz : sBz C.1 := ⟨hG.mv, hR.1.2.2.1, hR.1.2.2.2⟩
  have hm6 : C.2.1 ≤ 6 := hR.2.1
  have hmu : M.1 3 = nI C.2.1 := hR.2.2.1
  have hl1 : C.2.2.2.2 ≤ 100 := hR.2.2.2.2.1
  have hml : M.1 4 = nI C.2.2.2.2 := hR.2.2.2.2.2.1
  have hrn : M.1 6 = 0 := hR.2.2.2.2.2.2.2
  have hcp : ∀ e, e < sn → ∃ c, c < 2 ∧ gx M.2.1 e 0 = nI c := fun e he => (hG.iz.2.2.2 e he).1
  have hxr := hG.xr
  have hnw := hG.nw
  have hhd := hG.hd
  have hfx := hG.fx
  refine R_aload_n1 (pc := 594) dL_law_594 ?_
  refine R_callV0 (pc := 595) (T := TX9) cal_X9_clearText kw609 kw610 kw611 dL_law_595 (c_X9_clearText hC) ⟨by decide, by show _ ≤ 600000; omega, by show _ ≤ 7302250; omega⟩ (Nat.le_of_ble_eq_true rfl) (ci := 7) rfl hC.self ?_
  rintro _ h1 ⟨rfl, hC1, hF1⟩
  have hM1 : MAt h1 u M := hM.keep (fun x z1 z2 => hF1.2 x (by omega))
  refine R_aload_n2 (pc := 598) dL_law_598 ?_
  refine R_callV0 (pc := 599) (T := TX10) cal_X10_clearText kw1058 kw1059 kw1060 dL_law_599 (c_X10_clearText hM1 hml) ⟨by decide, by show _ ≤ 600000; omega, by show _ ≤ 7302250; omega⟩ (Nat.le_of_ble_eq_true rfl) (ci := 8) rfl hM1.o ?_
  rintro _ h2 ⟨rfl, M2, e2, s2⟩
  have hM2 : MAt h2 u M2 := by rw [e2]; exact mput_at _ _ _
  have hC2 := hC1.keep (h1 := h2) (fun x z1 z2 => by rw [e2]; exact mput_out (Or.inl (by omega)))
  have ha := tie_clear hR
  refine R_icmp_eq (pc := 602) 996 dL_law_602 (by decide) (fun c_602 => ?_) (fun c_602 => absurd rfl c_602)
  exact kk _ _ _ hC2 hM2 ((ha.2.mono (by omega)).ms s2)

set_option maxHeartbeats 4000000 in
set_option maxRecDepth 100000 in
theorem law_carryOut (hk : k ≤ 600000) (hnn : n ≤ 7302250) (hL31 : L < 2 ^ 31) (hC : CAt h w C) (hM : MAt h u M) (hR : RC T C M) (hT : T + 101 < 2 ^ 29) (hiL : i + 7 ≤ L) (hwu : w + 329 ≤ u) (kk : ∀ (h2 : AH) (C2 : Cm) (M2 : Mm), CAt h2 w C2 → MAt h2 u M2 → RC (T + 101) C2 M2 → RunL l D cA N0 nm b L xs h2 k n 996 [some (.ref b), some (.ref w), some (.ref u), some (.int (nI i))] []) : RunL l D cA N0 nm b L xs h k n 607 [some (.ref b), some (.ref w), some (.ref u), some (.int (nI i))] [] := by
  obtain ⟨sn, hG⟩ := hR.1.1
  have hn := hG.n
  have hsn : M.2.1 10 = nI sn := hG.s10
  have hz : sBz C.1 := ⟨hG.mv, hR.1.2.2.1, hR.1.2.2.2⟩
  have hm6 : C.2.1 ≤ 6 := hR.2.1
  have hmu : M.1 3 = nI C.2.1 := hR.2.2.1
  have hl1 : C.2.2.2.2 ≤ 100 := hR.2.2.2.2.1
  have hml : M.1 4 = nI C.2.2.2.2 := hR.2.2.2.2.2.1
  have hrn : M.1 6 = 0 := hR.2.2.2.2.2.2.2
  have hcp : ∀ e, e < sn → ∃ c, c < 2 ∧ gx M.2.1 e 0 = nI c := fun e he => (hG.iz.2.2.2 e he).1
  have hxr := hG.xr
  have hnw := hG.nw
  have hhd := hG.hd
  have hfx := hG.fx
  refine R_aload_n1 (pc := 607) dL_law_607 ?_
  refine R_callV0 (pc := 608) (T := TX9) cal_X9_carryOut kw617 kw618 kw619 dL_law_608 (c_X9_carryOut hC hz (I := IC) (fun _ q => q) ic_obey hxr) ⟨by decide, by show _ ≤ 600000; omega, by show _ ≤ 7302250; omega⟩ (Nat.le_of_ble_eq_true rfl) (ci := 7) rfl hC.self ?_
  rintro _ h1 ⟨rfl, hC1, hF1⟩
  have hM1 : MAt h1 u M := hM.keep (fun x z1 z2 => hF1.2 x (by omega))
  refine R_aload_n2 (pc := 611) dL_law_611 ?_
  refine R_callV0 (pc := 612) (T := TX10) cal_X10_carryOut kw1062 kw1063 kw1064 dL_law_612 (c_X10_carryOut hM1 hl1 hml hm6 hmu hrn (I := IZ sn) (fun s q => ⟨sn, q.1, q.2.1, q.2.2.1, fun e he => (q.2.2.2 e he).1⟩) (fun s x nu q => iz_zso q x nu) hG.iz) ⟨by decide, by show _ ≤ 600000; omega, by show _ ≤ 7302250; omega⟩ (Nat.le_of_ble_eq_true rfl) (ci := 8) rfl hM1.o ?_
  rintro _ h2 ⟨rfl, M2, e2, s2⟩
  have hM2 : MAt h2 u M2 := by rw [e2]; exact mput_at _ _ _
  have hC2 := hC1.keep (h1 := h2) (fun x z1 z2 => by rw [e2]; exact mput_out (Or.inl (by omega)))
  have ha := tie_carry (by omega) hR
  refine R_icmp_eq (pc := 615) 996 dL_law_615 (by decide) (fun c_615 => ?_) (fun c_615 => absurd ha.1 c_615)
  exact kk _ _ _ hC2 hM2 (ha.2.ms s2)

set_option maxHeartbeats 4000000 in
set_option maxRecDepth 100000 in
theorem law_count (hk : k ≤ 600000) (hnn : n ≤ 7302250) (hL31 : L < 2 ^ 31) (hC : CAt h w C) (hM : MAt h u M) (hR : RC T C M) (hT : T + 101 < 2 ^ 29) (hiL : i + 7 ≤ L) (hwu : w + 329 ≤ u) (kk : ∀ (h2 : AH) (C2 : Cm) (M2 : Mm), CAt h2 w C2 → MAt h2 u M2 → RC (T + 101) C2 M2 → RunL l D cA N0 nm b L xs h2 k n 996 [some (.ref b), some (.ref w), some (.ref u), some (.int (nI i))] []) : RunL l D cA N0 nm b L xs h k n 620 [some (.ref b), some (.ref w), some (.ref u), some (.int (nI i))] [] := by
  obtain ⟨sn, hG⟩ := hR.1.1
  have hn := hG.n
  have hsn : M.2.1 10 = nI sn := hG.s10
  have hz : sBz C.1 := ⟨hG.mv, hR.1.2.2.1, hR.1.2.2.2⟩
  have hm6 : C.2.1 ≤ 6 := hR.2.1
  have hmu : M.1 3 = nI C.2.1 := hR.2.2.1
  have hl1 : C.2.2.2.2 ≤ 100 := hR.2.2.2.2.1
  have hml : M.1 4 = nI C.2.2.2.2 := hR.2.2.2.2.2.1
  have hrn : M.1 6 = 0 := hR.2.2.2.2.2.2.2
  have hcp : ∀ e, e < sn → ∃ c, c < 2 ∧ gx M.2.1 e 0 = nI c := fun e he => (hG.iz.2.2.2 e he).1
  have hxr := hG.xr
  have hnw := hG.nw
  have hhd := hG.hd
  have hfx := hG.fx
  refine R_aload_n1 (pc := 620) dL_law_620 ?_
  refine R_aload_n0 (pc := 621) dL_law_621 ?_
  refine R_iload_n3 (pc := 622) dL_law_622 ?_
  refine R_iconst (pc := 623) (v := 1) dL_law_623 (by decide) ?_
  refine R_iadd (pc := 624) dL_law_624 ?_
  rw [show nI i + 1 = nI (i + 1) from nI_add i 1]
  refine R_sld (pc := 625) dL_law_625 (by omega) hL31 ?_
  refine R_callV1 (pc := 626) (T := TX9) cal_X9_count kw677 kw678 kw679 dL_law_626 (c_X9_count hC) ⟨by decide, by show _ ≤ 600000; omega, by show _ ≤ 7302250; omega⟩ (Nat.le_of_ble_eq_true rfl) (ci := 7) rfl hC.self ?_
  rintro _ h1 ⟨rfl, hC1, hF1⟩
  have hM1 : MAt h1 u M := hM.keep (fun x z1 z2 => hF1.2 x (by omega))
  refine R_aload_n2 (pc := 629) dL_law_629 ?_
  refine R_aload_n0 (pc := 630) dL_law_630 ?_
  refine R_iload_n3 (pc := 631) dL_law_631 ?_
  refine R_iconst (pc := 632) (v := 1) dL_law_632 (by decide) ?_
  refine R_iadd (pc := 633) dL_law_633 ?_
  rw [show nI i + 1 = nI (i + 1) from nI_add i 1]
  refine R_sld (pc := 634) dL_law_634 (by omega) hL31 ?_
  refine R_callV1 (pc := 635) (T := TX10) cal_X10_count kw1104 kw1105 kw1106 dL_law_635 (c_X10_count hM1 hn hsn) ⟨by decide, by show _ ≤ 600000; omega, by show _ ≤ 7302250; omega⟩ (Nat.le_of_ble_eq_true rfl) (ci := 8) rfl hM1.o ?_
  rintro _ h2 ⟨rfl, M2, e2, s2⟩
  have hM2 : MAt h2 u M2 := by rw [e2]; exact mput_at _ _ _
  have hC2 := hC1.keep (h1 := h2) (fun x z1 z2 => by rw [e2]; exact mput_out (Or.inl (by omega)))
  have ha := tie_count hR hG (xs (i + 1))
  refine R_icmp_eq (pc := 638) 996 dL_law_638 (by decide) (fun c_638 => ?_) (fun c_638 => absurd ha c_638)
  exact kk _ _ _ hC2 hM2 ((hR.mono (by omega)).ms s2)

set_option maxHeartbeats 4000000 in
set_option maxRecDepth 100000 in
theorem law_captain (hk : k ≤ 600000) (hnn : n ≤ 7302250) (hL31 : L < 2 ^ 31) (hC : CAt h w C) (hM : MAt h u M) (hR : RC T C M) (hT : T + 101 < 2 ^ 29) (hiL : i + 7 ≤ L) (hwu : w + 329 ≤ u) (kk : ∀ (h2 : AH) (C2 : Cm) (M2 : Mm), CAt h2 w C2 → MAt h2 u M2 → RC (T + 101) C2 M2 → RunL l D cA N0 nm b L xs h2 k n 996 [some (.ref b), some (.ref w), some (.ref u), some (.int (nI i))] []) : RunL l D cA N0 nm b L xs h k n 643 [some (.ref b), some (.ref w), some (.ref u), some (.int (nI i))] [] := by
  obtain ⟨sn, hG⟩ := hR.1.1
  have hn := hG.n
  have hsn : M.2.1 10 = nI sn := hG.s10
  have hz : sBz C.1 := ⟨hG.mv, hR.1.2.2.1, hR.1.2.2.2⟩
  have hm6 : C.2.1 ≤ 6 := hR.2.1
  have hmu : M.1 3 = nI C.2.1 := hR.2.2.1
  have hl1 : C.2.2.2.2 ≤ 100 := hR.2.2.2.2.1
  have hml : M.1 4 = nI C.2.2.2.2 := hR.2.2.2.2.2.1
  have hrn : M.1 6 = 0 := hR.2.2.2.2.2.2.2
  have hcp : ∀ e, e < sn → ∃ c, c < 2 ∧ gx M.2.1 e 0 = nI c := fun e he => (hG.iz.2.2.2 e he).1
  have hxr := hG.xr
  have hnw := hG.nw
  have hhd := hG.hd
  have hfx := hG.fx
  refine R_aload_n1 (pc := 643) dL_law_643 ?_
  refine R_aload_n0 (pc := 644) dL_law_644 ?_
  refine R_iload_n3 (pc := 645) dL_law_645 ?_
  refine R_iconst (pc := 646) (v := 1) dL_law_646 (by decide) ?_
  refine R_iadd (pc := 647) dL_law_647 ?_
  rw [show nI i + 1 = nI (i + 1) from nI_add i 1]
  refine R_sld (pc := 648) dL_law_648 (by omega) hL31 ?_
  refine R_aload_n0 (pc := 649) dL_law_649 ?_
  refine R_iload_n3 (pc := 650) dL_law_650 ?_
  refine R_iconst (pc := 651) (v := 2) dL_law_651 (by decide) ?_
  refine R_iadd (pc := 652) dL_law_652 ?_
  rw [show nI i + 2 = nI (i + 2) from nI_add i 2]
  refine R_sld (pc := 653) dL_law_653 (by omega) hL31 ?_
  refine R_callV2 (pc := 654) (T := TX9) cal_X9_captain kw703 kw704 kw705 dL_law_654 (c_X9_captain hC) ⟨by decide, by show _ ≤ 600000; omega, by show _ ≤ 7302250; omega⟩ (Nat.le_of_ble_eq_true rfl) (ci := 7) rfl hC.self ?_
  rintro _ h1 ⟨rfl, hC1, hF1⟩
  have hM1 : MAt h1 u M := hM.keep (fun x z1 z2 => hF1.2 x (by omega))
  refine R_aload_n2 (pc := 657) dL_law_657 ?_
  refine R_aload_n0 (pc := 658) dL_law_658 ?_
  refine R_iload_n3 (pc := 659) dL_law_659 ?_
  refine R_iconst (pc := 660) (v := 1) dL_law_660 (by decide) ?_
  refine R_iadd (pc := 661) dL_law_661 ?_
  rw [show nI i + 1 = nI (i + 1) from nI_add i 1]
  refine R_sld (pc := 662) dL_law_662 (by omega) hL31 ?_
  refine R_aload_n0 (pc := 663) dL_law_663 ?_
  refine R_iload_n3 (pc := 664) dL_law_664 ?_
  refine R_iconst (pc := 665) (v := 2) dL_law_665 (by decide) ?_
  refine R_iadd (pc := 666) dL_law_666 ?_
  rw [show nI i + 2 = nI (i + 2) from nI_add i 2]
  refine R_sld (pc := 667) dL_law_667 (by omega) hL31 ?_
  refine R_callV2 (pc := 668) (T := TX10) cal_X10_captain kw1112 kw1113 kw1114 dL_law_668 (c_X10_captain hM1 hn hsn) ⟨by decide, by show _ ≤ 600000; omega, by show _ ≤ 7302250; omega⟩ (Nat.le_of_ble_eq_true rfl) (ci := 8) rfl hM1.o ?_
  rintro _ h2 ⟨rfl, M2, e2, s2⟩
  have hM2 : MAt h2 u M2 := by rw [e2]; exact mput_at _ _ _
  have hC2 := hC1.keep (h1 := h2) (fun x z1 z2 => by rw [e2]; exact mput_out (Or.inl (by omega)))
  have ha := tie_cap hG (xs (i + 1)) (xs (i + 2))
  refine R_icmp_eq (pc := 671) 996 dL_law_671 (by decide) (fun c_671 => ?_) (fun c_671 => absurd ha c_671)
  exact kk _ _ _ hC2 hM2 ((hR.mono (by omega)).ms s2)

set_option maxHeartbeats 4000000 in
set_option maxRecDepth 100000 in
theorem law_ship (hk : k ≤ 600000) (hnn : n ≤ 7302250) (hL31 : L < 2 ^ 31) (hC : CAt h w C) (hM : MAt h u M) (hR : RC T C M) (hT : T + 101 < 2 ^ 29) (hiL : i + 7 ≤ L) (hwu : w + 329 ≤ u) (kk : ∀ (h2 : AH) (C2 : Cm) (M2 : Mm), CAt h2 w C2 → MAt h2 u M2 → RC (T + 101) C2 M2 → RunL l D cA N0 nm b L xs h2 k n 996 [some (.ref b), some (.ref w), some (.ref u), some (.int (nI i))] []) : RunL l D cA N0 nm b L xs h k n 676 [some (.ref b), some (.ref w), some (.ref u), some (.int (nI i))] [] := by
  obtain ⟨sn, hG⟩ := hR.1.1
  have hn := hG.n
  have hsn : M.2.1 10 = nI sn := hG.s10
  have hz : sBz C.1 := ⟨hG.mv, hR.1.2.2.1, hR.1.2.2.2⟩
  have hm6 : C.2.1 ≤ 6 := hR.2.1
  have hmu : M.1 3 = nI C.2.1 := hR.2.2.1
  have hl1 : C.2.2.2.2 ≤ 100 := hR.2.2.2.2.1
  have hml : M.1 4 = nI C.2.2.2.2 := hR.2.2.2.2.2.1
  have hrn : M.1 6 = 0 := hR.2.2.2.2.2.2.2
  have hcp : ∀ e, e < sn → ∃ c, c < 2 ∧ gx M.2.1 e 0 = nI c := fun e he => (hG.iz.2.2.2 e he).1
  have hxr := hG.xr
  have hnw := hG.nw
  have hhd := hG.hd
  have hfx := hG.fx
  refine R_aload_n1 (pc := 676) dL_law_676 ?_
  refine R_aload_n0 (pc := 677) dL_law_677 ?_
  refine R_iload_n3 (pc := 678) dL_law_678 ?_
  refine R_iconst (pc := 679) (v := 1) dL_law_679 (by decide) ?_
  refine R_iadd (pc := 680) dL_law_680 ?_
  rw [show nI i + 1 = nI (i + 1) from nI_add i 1]
  refine R_sld (pc := 681) dL_law_681 (by omega) hL31 ?_
  refine R_aload_n0 (pc := 682) dL_law_682 ?_
  refine R_iload_n3 (pc := 683) dL_law_683 ?_
  refine R_iconst (pc := 684) (v := 2) dL_law_684 (by decide) ?_
  refine R_iadd (pc := 685) dL_law_685 ?_
  rw [show nI i + 2 = nI (i + 2) from nI_add i 2]
  refine R_sld (pc := 686) dL_law_686 (by omega) hL31 ?_
  refine R_callV2 (pc := 687) (T := TX9) cal_X9_ship kw716 kw717 kw718 dL_law_687 (c_X9_ship hC) ⟨by decide, by show _ ≤ 600000; omega, by show _ ≤ 7302250; omega⟩ (Nat.le_of_ble_eq_true rfl) (ci := 7) rfl hC.self ?_
  rintro _ h1 ⟨rfl, hC1, hF1⟩
  have hM1 : MAt h1 u M := hM.keep (fun x z1 z2 => hF1.2 x (by omega))
  refine R_aload_n2 (pc := 690) dL_law_690 ?_
  refine R_aload_n0 (pc := 691) dL_law_691 ?_
  refine R_iload_n3 (pc := 692) dL_law_692 ?_
  refine R_iconst (pc := 693) (v := 1) dL_law_693 (by decide) ?_
  refine R_iadd (pc := 694) dL_law_694 ?_
  rw [show nI i + 1 = nI (i + 1) from nI_add i 1]
  refine R_sld (pc := 695) dL_law_695 (by omega) hL31 ?_
  refine R_aload_n0 (pc := 696) dL_law_696 ?_
  refine R_iload_n3 (pc := 697) dL_law_697 ?_
  refine R_iconst (pc := 698) (v := 2) dL_law_698 (by decide) ?_
  refine R_iadd (pc := 699) dL_law_699 ?_
  rw [show nI i + 2 = nI (i + 2) from nI_add i 2]
  refine R_sld (pc := 700) dL_law_700 (by omega) hL31 ?_
  refine R_callV2 (pc := 701) (T := TX10) cal_X10_ship kw1117 kw1118 kw1119 dL_law_701 (c_X10_ship hM1 hn hsn) ⟨by decide, by show _ ≤ 600000; omega, by show _ ≤ 7302250; omega⟩ (Nat.le_of_ble_eq_true rfl) (ci := 8) rfl hM1.o ?_
  rintro _ h2 ⟨rfl, M2, e2, s2⟩
  have hM2 : MAt h2 u M2 := by rw [e2]; exact mput_at _ _ _
  have hC2 := hC1.keep (h1 := h2) (fun x z1 z2 => by rw [e2]; exact mput_out (Or.inl (by omega)))
  have ha := tie_ship (by omega) hG (xs (i + 1)) (xs (i + 2))
  refine R_icmp_eq (pc := 704) 996 dL_law_704 (by decide) (fun c_704 => ?_) (fun c_704 => absurd ha c_704)
  exact kk _ _ _ hC2 hM2 ((hR.mono (by omega)).ms s2)

set_option maxHeartbeats 4000000 in
set_option maxRecDepth 100000 in
theorem law_on (hk : k ≤ 600000) (hnn : n ≤ 7302250) (hL31 : L < 2 ^ 31) (hC : CAt h w C) (hM : MAt h u M) (hR : RC T C M) (hT : T + 101 < 2 ^ 29) (hiL : i + 7 ≤ L) (hwu : w + 329 ≤ u) (kk : ∀ (h2 : AH) (C2 : Cm) (M2 : Mm), CAt h2 w C2 → MAt h2 u M2 → RC (T + 101) C2 M2 → RunL l D cA N0 nm b L xs h2 k n 996 [some (.ref b), some (.ref w), some (.ref u), some (.int (nI i))] []) : RunL l D cA N0 nm b L xs h k n 709 [some (.ref b), some (.ref w), some (.ref u), some (.int (nI i))] [] := by
  obtain ⟨sn, hG⟩ := hR.1.1
  have hn := hG.n
  have hsn : M.2.1 10 = nI sn := hG.s10
  have hz : sBz C.1 := ⟨hG.mv, hR.1.2.2.1, hR.1.2.2.2⟩
  have hm6 : C.2.1 ≤ 6 := hR.2.1
  have hmu : M.1 3 = nI C.2.1 := hR.2.2.1
  have hl1 : C.2.2.2.2 ≤ 100 := hR.2.2.2.2.1
  have hml : M.1 4 = nI C.2.2.2.2 := hR.2.2.2.2.2.1
  have hrn : M.1 6 = 0 := hR.2.2.2.2.2.2.2
  have hcp : ∀ e, e < sn → ∃ c, c < 2 ∧ gx M.2.1 e 0 = nI c := fun e he => (hG.iz.2.2.2 e he).1
  have hxr := hG.xr
  have hnw := hG.nw
  have hhd := hG.hd
  have hfx := hG.fx
  refine R_aload_n1 (pc := 709) dL_law_709 ?_
  refine R_aload_n0 (pc := 710) dL_law_710 ?_
  refine R_iload_n3 (pc := 711) dL_law_711 ?_
  refine R_iconst (pc := 712) (v := 1) dL_law_712 (by decide) ?_
  refine R_iadd (pc := 713) dL_law_713 ?_
  rw [show nI i + 1 = nI (i + 1) from nI_add i 1]
  refine R_sld (pc := 714) dL_law_714 (by omega) hL31 ?_
  refine R_callV1 (pc := 715) (T := TX9) cal_X9_on kw729 kw730 kw731 dL_law_715 (c_X9_on hC) ⟨by decide, by show _ ≤ 600000; omega, by show _ ≤ 7302250; omega⟩ (Nat.le_of_ble_eq_true rfl) (ci := 7) rfl hC.self ?_
  rintro _ h1 ⟨rfl, hC1, hF1⟩
  have hM1 : MAt h1 u M := hM.keep (fun x z1 z2 => hF1.2 x (by omega))
  refine R_aload_n2 (pc := 718) dL_law_718 ?_
  refine R_aload_n0 (pc := 719) dL_law_719 ?_
  refine R_iload_n3 (pc := 720) dL_law_720 ?_
  refine R_iconst (pc := 721) (v := 1) dL_law_721 (by decide) ?_
  refine R_iadd (pc := 722) dL_law_722 ?_
  rw [show nI i + 1 = nI (i + 1) from nI_add i 1]
  refine R_sld (pc := 723) dL_law_723 (by omega) hL31 ?_
  refine R_callV1 (pc := 724) (T := TX10) cal_X10_on kw1122 kw1123 kw1124 dL_law_724 (c_X10_on hM1 hn hsn) ⟨by decide, by show _ ≤ 600000; omega, by show _ ≤ 7302250; omega⟩ (Nat.le_of_ble_eq_true rfl) (ci := 8) rfl hM1.o ?_
  rintro _ h2 ⟨rfl, M2, e2, s2⟩
  have hM2 : MAt h2 u M2 := by rw [e2]; exact mput_at _ _ _
  have hC2 := hC1.keep (h1 := h2) (fun x z1 z2 => by rw [e2]; exact mput_out (Or.inl (by omega)))
  have ha := tie_on hG (xs (i + 1))
  refine R_icmp_eq (pc := 727) 996 dL_law_727 (by decide) (fun c_727 => ?_) (fun c_727 => absurd ha c_727)
  exact kk _ _ _ hC2 hM2 ((hR.mono (by omega)).ms s2)

set_option maxHeartbeats 4000000 in
set_option maxRecDepth 100000 in
theorem law_targets (hk : k ≤ 600000) (hnn : n ≤ 7302250) (hL31 : L < 2 ^ 31) (hC : CAt h w C) (hM : MAt h u M) (hR : RC T C M) (hT : T + 101 < 2 ^ 29) (hiL : i + 7 ≤ L) (hwu : w + 329 ≤ u) (kk : ∀ (h2 : AH) (C2 : Cm) (M2 : Mm), CAt h2 w C2 → MAt h2 u M2 → RC (T + 101) C2 M2 → RunL l D cA N0 nm b L xs h2 k n 996 [some (.ref b), some (.ref w), some (.ref u), some (.int (nI i))] []) : RunL l D cA N0 nm b L xs h k n 732 [some (.ref b), some (.ref w), some (.ref u), some (.int (nI i))] [] := by
  obtain ⟨sn, hG⟩ := hR.1.1
  have hn := hG.n
  have hsn : M.2.1 10 = nI sn := hG.s10
  have hz : sBz C.1 := ⟨hG.mv, hR.1.2.2.1, hR.1.2.2.2⟩
  have hm6 : C.2.1 ≤ 6 := hR.2.1
  have hmu : M.1 3 = nI C.2.1 := hR.2.2.1
  have hl1 : C.2.2.2.2 ≤ 100 := hR.2.2.2.2.1
  have hml : M.1 4 = nI C.2.2.2.2 := hR.2.2.2.2.2.1
  have hrn : M.1 6 = 0 := hR.2.2.2.2.2.2.2
  have hcp : ∀ e, e < sn → ∃ c, c < 2 ∧ gx M.2.1 e 0 = nI c := fun e he => (hG.iz.2.2.2 e he).1
  have hxr := hG.xr
  have hnw := hG.nw
  have hhd := hG.hd
  have hfx := hG.fx
  refine R_aload_n1 (pc := 732) dL_law_732 ?_
  refine R_aload_n0 (pc := 733) dL_law_733 ?_
  refine R_iload_n3 (pc := 734) dL_law_734 ?_
  refine R_iconst (pc := 735) (v := 1) dL_law_735 (by decide) ?_
  refine R_iadd (pc := 736) dL_law_736 ?_
  rw [show nI i + 1 = nI (i + 1) from nI_add i 1]
  refine R_sld (pc := 737) dL_law_737 (by omega) hL31 ?_
  refine R_aload_n0 (pc := 738) dL_law_738 ?_
  refine R_iload_n3 (pc := 739) dL_law_739 ?_
  refine R_iconst (pc := 740) (v := 2) dL_law_740 (by decide) ?_
  refine R_iadd (pc := 741) dL_law_741 ?_
  rw [show nI i + 2 = nI (i + 2) from nI_add i 2]
  refine R_sld (pc := 742) dL_law_742 (by omega) hL31 ?_
  refine R_callV2 (pc := 743) (T := TX9) cal_X9_targets kw738 kw739 kw740 dL_law_743 (c_X9_targets hC) ⟨by decide, by show _ ≤ 600000; omega, by show _ ≤ 7302250; omega⟩ (Nat.le_of_ble_eq_true rfl) (ci := 7) rfl hC.self ?_
  rintro _ h1 ⟨rfl, hC1, hF1⟩
  have hM1 : MAt h1 u M := hM.keep (fun x z1 z2 => hF1.2 x (by omega))
  refine R_aload_n2 (pc := 746) dL_law_746 ?_
  refine R_aload_n0 (pc := 747) dL_law_747 ?_
  refine R_iload_n3 (pc := 748) dL_law_748 ?_
  refine R_iconst (pc := 749) (v := 1) dL_law_749 (by decide) ?_
  refine R_iadd (pc := 750) dL_law_750 ?_
  rw [show nI i + 1 = nI (i + 1) from nI_add i 1]
  refine R_sld (pc := 751) dL_law_751 (by omega) hL31 ?_
  refine R_aload_n0 (pc := 752) dL_law_752 ?_
  refine R_iload_n3 (pc := 753) dL_law_753 ?_
  refine R_iconst (pc := 754) (v := 2) dL_law_754 (by decide) ?_
  refine R_iadd (pc := 755) dL_law_755 ?_
  rw [show nI i + 2 = nI (i + 2) from nI_add i 2]
  refine R_sld (pc := 756) dL_law_756 (by omega) hL31 ?_
  refine R_callV2 (pc := 757) (T := TX10) cal_X10_targets kw1126 kw1127 kw1128 dL_law_757 (c_X10_targets hM1 hn hsn) ⟨by decide, by show _ ≤ 600000; omega, by show _ ≤ 7302250; omega⟩ (Nat.le_of_ble_eq_true rfl) (ci := 8) rfl hM1.o ?_
  rintro _ h2 ⟨rfl, M2, e2, s2⟩
  have hM2 : MAt h2 u M2 := by rw [e2]; exact mput_at _ _ _
  have hC2 := hC1.keep (h1 := h2) (fun x z1 z2 => by rw [e2]; exact mput_out (Or.inl (by omega)))
  have ha := tie_targets hG (xs (i + 1)) (xs (i + 2))
  refine R_icmp_eq (pc := 760) 996 dL_law_760 (by decide) (fun c_760 => ?_) (fun c_760 => absurd ha c_760)
  exact kk _ _ _ hC2 hM2 ((hR.mono (by omega)).ms s2)

set_option maxHeartbeats 4000000 in
set_option maxRecDepth 100000 in
theorem law_hits (hk : k ≤ 600000) (hnn : n ≤ 7302250) (hL31 : L < 2 ^ 31) (hC : CAt h w C) (hM : MAt h u M) (hR : RC T C M) (hT : T + 101 < 2 ^ 29) (hiL : i + 7 ≤ L) (hwu : w + 329 ≤ u) (kk : ∀ (h2 : AH) (C2 : Cm) (M2 : Mm), CAt h2 w C2 → MAt h2 u M2 → RC (T + 101) C2 M2 → RunL l D cA N0 nm b L xs h2 k n 996 [some (.ref b), some (.ref w), some (.ref u), some (.int (nI i))] []) : RunL l D cA N0 nm b L xs h k n 765 [some (.ref b), some (.ref w), some (.ref u), some (.int (nI i))] [] := by
  obtain ⟨sn, hG⟩ := hR.1.1
  have hn := hG.n
  have hsn : M.2.1 10 = nI sn := hG.s10
  have hz : sBz C.1 := ⟨hG.mv, hR.1.2.2.1, hR.1.2.2.2⟩
  have hm6 : C.2.1 ≤ 6 := hR.2.1
  have hmu : M.1 3 = nI C.2.1 := hR.2.2.1
  have hl1 : C.2.2.2.2 ≤ 100 := hR.2.2.2.2.1
  have hml : M.1 4 = nI C.2.2.2.2 := hR.2.2.2.2.2.1
  have hrn : M.1 6 = 0 := hR.2.2.2.2.2.2.2
  have hcp : ∀ e, e < sn → ∃ c, c < 2 ∧ gx M.2.1 e 0 = nI c := fun e he => (hG.iz.2.2.2 e he).1
  have hxr := hG.xr
  have hnw := hG.nw
  have hhd := hG.hd
  have hfx := hG.fx
  refine R_aload_n1 (pc := 765) dL_law_765 ?_
  refine R_aload_n0 (pc := 766) dL_law_766 ?_
  refine R_iload_n3 (pc := 767) dL_law_767 ?_
  refine R_iconst (pc := 768) (v := 1) dL_law_768 (by decide) ?_
  refine R_iadd (pc := 769) dL_law_769 ?_
  rw [show nI i + 1 = nI (i + 1) from nI_add i 1]
  refine R_sld (pc := 770) dL_law_770 (by omega) hL31 ?_
  refine R_aload_n0 (pc := 771) dL_law_771 ?_
  refine R_iload_n3 (pc := 772) dL_law_772 ?_
  refine R_iconst (pc := 773) (v := 2) dL_law_773 (by decide) ?_
  refine R_iadd (pc := 774) dL_law_774 ?_
  rw [show nI i + 2 = nI (i + 2) from nI_add i 2]
  refine R_sld (pc := 775) dL_law_775 (by omega) hL31 ?_
  refine R_aload_n0 (pc := 776) dL_law_776 ?_
  refine R_iload_n3 (pc := 777) dL_law_777 ?_
  refine R_iconst (pc := 778) (v := 3) dL_law_778 (by decide) ?_
  refine R_iadd (pc := 779) dL_law_779 ?_
  rw [show nI i + 3 = nI (i + 3) from nI_add i 3]
  refine R_sld (pc := 780) dL_law_780 (by omega) hL31 ?_
  refine R_callV3 (pc := 781) (T := TX9) cal_X9_hits kw747 kw748 kw749 dL_law_781 (c_X9_hits hC) ⟨by decide, by show _ ≤ 600000; omega, by show _ ≤ 7302250; omega⟩ (Nat.le_of_ble_eq_true rfl) (ci := 7) rfl hC.self ?_
  rintro _ h1 ⟨rfl, hC1, hF1⟩
  have hM1 : MAt h1 u M := hM.keep (fun x z1 z2 => hF1.2 x (by omega))
  refine R_aload_n2 (pc := 784) dL_law_784 ?_
  refine R_aload_n0 (pc := 785) dL_law_785 ?_
  refine R_iload_n3 (pc := 786) dL_law_786 ?_
  refine R_iconst (pc := 787) (v := 1) dL_law_787 (by decide) ?_
  refine R_iadd (pc := 788) dL_law_788 ?_
  rw [show nI i + 1 = nI (i + 1) from nI_add i 1]
  refine R_sld (pc := 789) dL_law_789 (by omega) hL31 ?_
  refine R_aload_n0 (pc := 790) dL_law_790 ?_
  refine R_iload_n3 (pc := 791) dL_law_791 ?_
  refine R_iconst (pc := 792) (v := 2) dL_law_792 (by decide) ?_
  refine R_iadd (pc := 793) dL_law_793 ?_
  rw [show nI i + 2 = nI (i + 2) from nI_add i 2]
  refine R_sld (pc := 794) dL_law_794 (by omega) hL31 ?_
  refine R_aload_n0 (pc := 795) dL_law_795 ?_
  refine R_iload_n3 (pc := 796) dL_law_796 ?_
  refine R_iconst (pc := 797) (v := 3) dL_law_797 (by decide) ?_
  refine R_iadd (pc := 798) dL_law_798 ?_
  rw [show nI i + 3 = nI (i + 3) from nI_add i 3]
  refine R_sld (pc := 799) dL_law_799 (by omega) hL31 ?_
  refine R_callV3 (pc := 800) (T := TX10) cal_X10_hits kw1130 kw1131 kw1132 dL_law_800 (c_X10_hits hM1 hn hsn) ⟨by decide, by show _ ≤ 600000; omega, by show _ ≤ 7302250; omega⟩ (Nat.le_of_ble_eq_true rfl) (ci := 8) rfl hM1.o ?_
  rintro _ h2 ⟨rfl, M2, e2, s2⟩
  have hM2 : MAt h2 u M2 := by rw [e2]; exact mput_at _ _ _
  have hC2 := hC1.keep (h1 := h2) (fun x z1 z2 => by rw [e2]; exact mput_out (Or.inl (by omega)))
  have ha := tie_hits hG (xs (i + 1)) (xs (i + 2)) (xs (i + 3))
  refine R_icmp_eq (pc := 803) 996 dL_law_803 (by decide) (fun c_803 => ?_) (fun c_803 => absurd ha c_803)
  exact kk _ _ _ hC2 hM2 ((hR.mono (by omega)).ms s2)

set_option maxHeartbeats 4000000 in
set_option maxRecDepth 100000 in
theorem law_way (hk : k ≤ 600000) (hnn : n ≤ 7302250) (hL31 : L < 2 ^ 31) (hC : CAt h w C) (hM : MAt h u M) (hR : RC T C M) (hT : T + 101 < 2 ^ 29) (hiL : i + 7 ≤ L) (hwu : w + 329 ≤ u) (kk : ∀ (h2 : AH) (C2 : Cm) (M2 : Mm), CAt h2 w C2 → MAt h2 u M2 → RC (T + 101) C2 M2 → RunL l D cA N0 nm b L xs h2 k n 996 [some (.ref b), some (.ref w), some (.ref u), some (.int (nI i))] []) : RunL l D cA N0 nm b L xs h k n 808 [some (.ref b), some (.ref w), some (.ref u), some (.int (nI i))] [] := by
  obtain ⟨sn, hG⟩ := hR.1.1
  have hn := hG.n
  have hsn : M.2.1 10 = nI sn := hG.s10
  have hz : sBz C.1 := ⟨hG.mv, hR.1.2.2.1, hR.1.2.2.2⟩
  have hm6 : C.2.1 ≤ 6 := hR.2.1
  have hmu : M.1 3 = nI C.2.1 := hR.2.2.1
  have hl1 : C.2.2.2.2 ≤ 100 := hR.2.2.2.2.1
  have hml : M.1 4 = nI C.2.2.2.2 := hR.2.2.2.2.2.1
  have hrn : M.1 6 = 0 := hR.2.2.2.2.2.2.2
  have hcp : ∀ e, e < sn → ∃ c, c < 2 ∧ gx M.2.1 e 0 = nI c := fun e he => (hG.iz.2.2.2 e he).1
  have hxr := hG.xr
  have hnw := hG.nw
  have hhd := hG.hd
  have hfx := hG.fx
  refine R_aload_n1 (pc := 808) dL_law_808 ?_
  refine R_aload_n0 (pc := 809) dL_law_809 ?_
  refine R_iload_n3 (pc := 810) dL_law_810 ?_
  refine R_iconst (pc := 811) (v := 1) dL_law_811 (by decide) ?_
  refine R_iadd (pc := 812) dL_law_812 ?_
  rw [show nI i + 1 = nI (i + 1) from nI_add i 1]
  refine R_sld (pc := 813) dL_law_813 (by omega) hL31 ?_
  refine R_aload_n0 (pc := 814) dL_law_814 ?_
  refine R_iload_n3 (pc := 815) dL_law_815 ?_
  refine R_iconst (pc := 816) (v := 2) dL_law_816 (by decide) ?_
  refine R_iadd (pc := 817) dL_law_817 ?_
  rw [show nI i + 2 = nI (i + 2) from nI_add i 2]
  refine R_sld (pc := 818) dL_law_818 (by omega) hL31 ?_
  refine R_aload_n0 (pc := 819) dL_law_819 ?_
  refine R_iload_n3 (pc := 820) dL_law_820 ?_
  refine R_iconst (pc := 821) (v := 3) dL_law_821 (by decide) ?_
  refine R_iadd (pc := 822) dL_law_822 ?_
  rw [show nI i + 3 = nI (i + 3) from nI_add i 3]
  refine R_sld (pc := 823) dL_law_823 (by omega) hL31 ?_
  refine R_callV3 (pc := 824) (T := TX9) cal_X9_way kw753 kw754 kw755 dL_law_824 (c_X9_way hC hnw hhd) ⟨by decide, by show _ ≤ 600000; omega, by show _ ≤ 7302250; omega⟩ (Nat.le_of_ble_eq_true rfl) (ci := 7) rfl hC.self ?_
  rintro _ h1 ⟨⟨Q, rfl⟩, hC1, hF1⟩
  have hM1 : MAt h1 u M := hM.keep (fun x z1 z2 => hF1.2 x (by omega))
  refine R_aload_n2 (pc := 827) dL_law_827 ?_
  refine R_aload_n0 (pc := 828) dL_law_828 ?_
  refine R_iload_n3 (pc := 829) dL_law_829 ?_
  refine R_iconst (pc := 830) (v := 1) dL_law_830 (by decide) ?_
  refine R_iadd (pc := 831) dL_law_831 ?_
  rw [show nI i + 1 = nI (i + 1) from nI_add i 1]
  refine R_sld (pc := 832) dL_law_832 (by omega) hL31 ?_
  refine R_aload_n0 (pc := 833) dL_law_833 ?_
  refine R_iload_n3 (pc := 834) dL_law_834 ?_
  refine R_iconst (pc := 835) (v := 2) dL_law_835 (by decide) ?_
  refine R_iadd (pc := 836) dL_law_836 ?_
  rw [show nI i + 2 = nI (i + 2) from nI_add i 2]
  refine R_sld (pc := 837) dL_law_837 (by omega) hL31 ?_
  refine R_aload_n0 (pc := 838) dL_law_838 ?_
  refine R_iload_n3 (pc := 839) dL_law_839 ?_
  refine R_iconst (pc := 840) (v := 3) dL_law_840 (by decide) ?_
  refine R_iadd (pc := 841) dL_law_841 ?_
  rw [show nI i + 3 = nI (i + 3) from nI_add i 3]
  refine R_sld (pc := 842) dL_law_842 (by omega) hL31 ?_
  refine R_callV3 (pc := 843) (T := TX10) cal_X10_way kw1134 kw1135 kw1136 dL_law_843 (c_X10_way hM1 hn hsn) ⟨by decide, by show _ ≤ 600000; omega, by show _ ≤ 7302250; omega⟩ (Nat.le_of_ble_eq_true rfl) (ci := 8) rfl hM1.o ?_
  rintro _ h2 ⟨rfl, M2, e2, s2⟩
  have hM2 : MAt h2 u M2 := by rw [e2]; exact mput_at _ _ _
  have hC2 := hC1.keep (h1 := h2) (fun x z1 z2 => by rw [e2]; exact mput_out (Or.inl (by omega)))
  have ha := tie_way hG Q (xs (i + 1)) (xs (i + 2)) (xs (i + 3))
  refine R_icmp_eq (pc := 846) 996 dL_law_846 (by decide) (fun c_846 => ?_) (fun c_846 => absurd ha c_846)
  exact kk _ _ _ hC2 hM2 ((hR.mono (by omega)).ms s2)

set_option maxHeartbeats 4000000 in
set_option maxRecDepth 100000 in
theorem law_reach (hk : k ≤ 600000) (hnn : n ≤ 7302250) (hL31 : L < 2 ^ 31) (hC : CAt h w C) (hM : MAt h u M) (hR : RC T C M) (hT : T + 101 < 2 ^ 29) (hiL : i + 7 ≤ L) (hwu : w + 329 ≤ u) (kk : ∀ (h2 : AH) (C2 : Cm) (M2 : Mm), CAt h2 w C2 → MAt h2 u M2 → RC (T + 101) C2 M2 → RunL l D cA N0 nm b L xs h2 k n 996 [some (.ref b), some (.ref w), some (.ref u), some (.int (nI i))] []) : RunL l D cA N0 nm b L xs h k n 851 [some (.ref b), some (.ref w), some (.ref u), some (.int (nI i))] [] := by
  obtain ⟨sn, hG⟩ := hR.1.1
  have hn := hG.n
  have hsn : M.2.1 10 = nI sn := hG.s10
  have hz : sBz C.1 := ⟨hG.mv, hR.1.2.2.1, hR.1.2.2.2⟩
  have hm6 : C.2.1 ≤ 6 := hR.2.1
  have hmu : M.1 3 = nI C.2.1 := hR.2.2.1
  have hl1 : C.2.2.2.2 ≤ 100 := hR.2.2.2.2.1
  have hml : M.1 4 = nI C.2.2.2.2 := hR.2.2.2.2.2.1
  have hrn : M.1 6 = 0 := hR.2.2.2.2.2.2.2
  have hcp : ∀ e, e < sn → ∃ c, c < 2 ∧ gx M.2.1 e 0 = nI c := fun e he => (hG.iz.2.2.2 e he).1
  have hxr := hG.xr
  have hnw := hG.nw
  have hhd := hG.hd
  have hfx := hG.fx
  refine R_aload_n1 (pc := 851) dL_law_851 ?_
  refine R_aload_n0 (pc := 852) dL_law_852 ?_
  refine R_iload_n3 (pc := 853) dL_law_853 ?_
  refine R_iconst (pc := 854) (v := 1) dL_law_854 (by decide) ?_
  refine R_iadd (pc := 855) dL_law_855 ?_
  rw [show nI i + 1 = nI (i + 1) from nI_add i 1]
  refine R_sld (pc := 856) dL_law_856 (by omega) hL31 ?_
  refine R_callV1 (pc := 857) (T := TX9) cal_X9_reach kw790 kw791 kw792 dL_law_857 (c_X9_reach hC hnw hhd) ⟨by decide, by show _ ≤ 600000; omega, by show _ ≤ 7302250; omega⟩ (Nat.le_of_ble_eq_true rfl) (ci := 7) rfl hC.self ?_
  rintro _ h1 ⟨⟨Q, rfl⟩, hC1, hF1⟩
  have hM1 : MAt h1 u M := hM.keep (fun x z1 z2 => hF1.2 x (by omega))
  refine R_aload_n2 (pc := 860) dL_law_860 ?_
  refine R_aload_n0 (pc := 861) dL_law_861 ?_
  refine R_iload_n3 (pc := 862) dL_law_862 ?_
  refine R_iconst (pc := 863) (v := 1) dL_law_863 (by decide) ?_
  refine R_iadd (pc := 864) dL_law_864 ?_
  rw [show nI i + 1 = nI (i + 1) from nI_add i 1]
  refine R_sld (pc := 865) dL_law_865 (by omega) hL31 ?_
  refine R_callV1 (pc := 866) (T := TX10) cal_X10_reach kw1145 kw1146 kw1147 dL_law_866 (c_X10_reach hM1 hn hsn hfx) ⟨by decide, by show _ ≤ 600000; omega, by show _ ≤ 7302250; omega⟩ (Nat.le_of_ble_eq_true rfl) (ci := 8) rfl hM1.o ?_
  rintro _ h2 ⟨⟨c0, hc0, rfl⟩, M2, e2, s2⟩
  have hM2 : MAt h2 u M2 := by rw [e2]; exact mput_at _ _ _
  have hC2 := hC1.keep (h1 := h2) (fun x z1 z2 => by rw [e2]; exact mput_out (Or.inl (by omega)))
  have ha := tie_reach hG Q (xs (i + 1)) c0 hc0
  refine R_icmp_eq (pc := 869) 996 dL_law_869 (by decide) (fun c_869 => ?_) (fun c_869 => absurd ha c_869)
  exact kk _ _ _ hC2 hM2 ((hR.mono (by omega)).ms s2)

set_option maxHeartbeats 4000000 in
set_option maxRecDepth 100000 in
theorem law_windBy (hk : k ≤ 600000) (hnn : n ≤ 7302250) (hL31 : L < 2 ^ 31) (hC : CAt h w C) (hM : MAt h u M) (hR : RC T C M) (hT : T + 101 < 2 ^ 29) (hiL : i + 7 ≤ L) (hwu : w + 329 ≤ u) (kk : ∀ (h2 : AH) (C2 : Cm) (M2 : Mm), CAt h2 w C2 → MAt h2 u M2 → RC (T + 101) C2 M2 → RunL l D cA N0 nm b L xs h2 k n 996 [some (.ref b), some (.ref w), some (.ref u), some (.int (nI i))] []) : RunL l D cA N0 nm b L xs h k n 874 [some (.ref b), some (.ref w), some (.ref u), some (.int (nI i))] [] := by
  obtain ⟨sn, hG⟩ := hR.1.1
  have hn := hG.n
  have hsn : M.2.1 10 = nI sn := hG.s10
  have hz : sBz C.1 := ⟨hG.mv, hR.1.2.2.1, hR.1.2.2.2⟩
  have hm6 : C.2.1 ≤ 6 := hR.2.1
  have hmu : M.1 3 = nI C.2.1 := hR.2.2.1
  have hl1 : C.2.2.2.2 ≤ 100 := hR.2.2.2.2.1
  have hml : M.1 4 = nI C.2.2.2.2 := hR.2.2.2.2.2.1
  have hrn : M.1 6 = 0 := hR.2.2.2.2.2.2.2
  have hcp : ∀ e, e < sn → ∃ c, c < 2 ∧ gx M.2.1 e 0 = nI c := fun e he => (hG.iz.2.2.2 e he).1
  have hxr := hG.xr
  have hnw := hG.nw
  have hhd := hG.hd
  have hfx := hG.fx
  refine R_aload_n1 (pc := 874) dL_law_874 ?_
  refine R_aload_n0 (pc := 875) dL_law_875 ?_
  refine R_iload_n3 (pc := 876) dL_law_876 ?_
  refine R_iconst (pc := 877) (v := 1) dL_law_877 (by decide) ?_
  refine R_iadd (pc := 878) dL_law_878 ?_
  rw [show nI i + 1 = nI (i + 1) from nI_add i 1]
  refine R_sld (pc := 879) dL_law_879 (by omega) hL31 ?_
  refine R_aload_n0 (pc := 880) dL_law_880 ?_
  refine R_iload_n3 (pc := 881) dL_law_881 ?_
  refine R_iconst (pc := 882) (v := 2) dL_law_882 (by decide) ?_
  refine R_iadd (pc := 883) dL_law_883 ?_
  rw [show nI i + 2 = nI (i + 2) from nI_add i 2]
  refine R_sld (pc := 884) dL_law_884 (by omega) hL31 ?_
  refine R_callV2 (pc := 885) (T := TX9) cal_X9_windBy kw798 kw799 kw800 dL_law_885 (c_X9_windBy hC) ⟨by decide, by show _ ≤ 600000; omega, by show _ ≤ 7302250; omega⟩ (Nat.le_of_ble_eq_true rfl) (ci := 7) rfl hC.self ?_
  rintro _ h1 ⟨rfl, hC1, hF1⟩
  have hM1 : MAt h1 u M := hM.keep (fun x z1 z2 => hF1.2 x (by omega))
  refine R_aload_n2 (pc := 888) dL_law_888 ?_
  refine R_aload_n0 (pc := 889) dL_law_889 ?_
  refine R_iload_n3 (pc := 890) dL_law_890 ?_
  refine R_iconst (pc := 891) (v := 1) dL_law_891 (by decide) ?_
  refine R_iadd (pc := 892) dL_law_892 ?_
  rw [show nI i + 1 = nI (i + 1) from nI_add i 1]
  refine R_sld (pc := 893) dL_law_893 (by omega) hL31 ?_
  refine R_aload_n0 (pc := 894) dL_law_894 ?_
  refine R_iload_n3 (pc := 895) dL_law_895 ?_
  refine R_iconst (pc := 896) (v := 2) dL_law_896 (by decide) ?_
  refine R_iadd (pc := 897) dL_law_897 ?_
  rw [show nI i + 2 = nI (i + 2) from nI_add i 2]
  refine R_sld (pc := 898) dL_law_898 (by omega) hL31 ?_
  refine R_callV2 (pc := 899) (T := TX10) cal_X10_windBy kw1149 kw1150 kw1151 dL_law_899 (c_X10_windBy hM1 ) ⟨by decide, by show _ ≤ 600000; omega, by show _ ≤ 7302250; omega⟩ (Nat.le_of_ble_eq_true rfl) (ci := 8) rfl hM1.o ?_
  rintro _ _ ⟨rfl, rfl⟩
  have ha := tie_wind hG (xs (i + 1)) (xs (i + 2))
  refine R_icmp_eq (pc := 902) 996 dL_law_902 (by decide) (fun c_902 => ?_) (fun c_902 => absurd ha c_902)
  exact kk _ _ _ hC1 hM1 (hR.mono (by omega))

set_option maxHeartbeats 4000000 in
set_option maxRecDepth 100000 in
theorem law_bestCard (hk : k ≤ 600000) (hnn : n ≤ 7302250) (hL31 : L < 2 ^ 31) (hC : CAt h w C) (hM : MAt h u M) (hR : RC T C M) (hT : T + 101 < 2 ^ 29) (hiL : i + 7 ≤ L) (hwu : w + 329 ≤ u) (kk : ∀ (h2 : AH) (C2 : Cm) (M2 : Mm), CAt h2 w C2 → MAt h2 u M2 → RC (T + 101) C2 M2 → RunL l D cA N0 nm b L xs h2 k n 996 [some (.ref b), some (.ref w), some (.ref u), some (.int (nI i))] []) : RunL l D cA N0 nm b L xs h k n 907 [some (.ref b), some (.ref w), some (.ref u), some (.int (nI i))] [] := by
  obtain ⟨sn, hG⟩ := hR.1.1
  have hn := hG.n
  have hsn : M.2.1 10 = nI sn := hG.s10
  have hz : sBz C.1 := ⟨hG.mv, hR.1.2.2.1, hR.1.2.2.2⟩
  have hm6 : C.2.1 ≤ 6 := hR.2.1
  have hmu : M.1 3 = nI C.2.1 := hR.2.2.1
  have hl1 : C.2.2.2.2 ≤ 100 := hR.2.2.2.2.1
  have hml : M.1 4 = nI C.2.2.2.2 := hR.2.2.2.2.2.1
  have hrn : M.1 6 = 0 := hR.2.2.2.2.2.2.2
  have hcp : ∀ e, e < sn → ∃ c, c < 2 ∧ gx M.2.1 e 0 = nI c := fun e he => (hG.iz.2.2.2 e he).1
  have hxr := hG.xr
  have hnw := hG.nw
  have hhd := hG.hd
  have hfx := hG.fx
  refine R_aload_n1 (pc := 907) dL_law_907 ?_
  refine R_aload_n0 (pc := 908) dL_law_908 ?_
  refine R_iload_n3 (pc := 909) dL_law_909 ?_
  refine R_iconst (pc := 910) (v := 1) dL_law_910 (by decide) ?_
  refine R_iadd (pc := 911) dL_law_911 ?_
  rw [show nI i + 1 = nI (i + 1) from nI_add i 1]
  refine R_sld (pc := 912) dL_law_912 (by omega) hL31 ?_
  refine R_aload_n0 (pc := 913) dL_law_913 ?_
  refine R_iload_n3 (pc := 914) dL_law_914 ?_
  refine R_iconst (pc := 915) (v := 2) dL_law_915 (by decide) ?_
  refine R_iadd (pc := 916) dL_law_916 ?_
  rw [show nI i + 2 = nI (i + 2) from nI_add i 2]
  refine R_sld (pc := 917) dL_law_917 (by omega) hL31 ?_
  refine R_aload_n0 (pc := 918) dL_law_918 ?_
  refine R_iload_n3 (pc := 919) dL_law_919 ?_
  refine R_iconst (pc := 920) (v := 3) dL_law_920 (by decide) ?_
  refine R_iadd (pc := 921) dL_law_921 ?_
  rw [show nI i + 3 = nI (i + 3) from nI_add i 3]
  refine R_sld (pc := 922) dL_law_922 (by omega) hL31 ?_
  refine R_callV3 (pc := 923) (T := TX9) cal_X9_bestCard kw805 kw806 kw807 dL_law_923 (c_X9_bestCard hC hnw hhd) ⟨by decide, by show _ ≤ 600000; omega, by show _ ≤ 7302250; omega⟩ (Nat.le_of_ble_eq_true rfl) (ci := 7) rfl hC.self ?_
  rintro _ h1 ⟨⟨Q, rfl⟩, hC1, hF1⟩
  have hM1 : MAt h1 u M := hM.keep (fun x z1 z2 => hF1.2 x (by omega))
  refine R_aload_n2 (pc := 926) dL_law_926 ?_
  refine R_aload_n0 (pc := 927) dL_law_927 ?_
  refine R_iload_n3 (pc := 928) dL_law_928 ?_
  refine R_iconst (pc := 929) (v := 1) dL_law_929 (by decide) ?_
  refine R_iadd (pc := 930) dL_law_930 ?_
  rw [show nI i + 1 = nI (i + 1) from nI_add i 1]
  refine R_sld (pc := 931) dL_law_931 (by omega) hL31 ?_
  refine R_aload_n0 (pc := 932) dL_law_932 ?_
  refine R_iload_n3 (pc := 933) dL_law_933 ?_
  refine R_iconst (pc := 934) (v := 2) dL_law_934 (by decide) ?_
  refine R_iadd (pc := 935) dL_law_935 ?_
  rw [show nI i + 2 = nI (i + 2) from nI_add i 2]
  refine R_sld (pc := 936) dL_law_936 (by omega) hL31 ?_
  refine R_aload_n0 (pc := 937) dL_law_937 ?_
  refine R_iload_n3 (pc := 938) dL_law_938 ?_
  refine R_iconst (pc := 939) (v := 3) dL_law_939 (by decide) ?_
  refine R_iadd (pc := 940) dL_law_940 ?_
  rw [show nI i + 3 = nI (i + 3) from nI_add i 3]
  refine R_sld (pc := 941) dL_law_941 (by omega) hL31 ?_
  refine R_callV3 (pc := 942) (T := TX10) cal_X10_bestCard kw1153 kw1154 kw1155 dL_law_942 (c_X10_bestCard hM1 hn hsn hcp) ⟨by decide, by show _ ≤ 600000; omega, by show _ ≤ 7302250; omega⟩ (Nat.le_of_ble_eq_true rfl) (ci := 8) rfl hM1.o ?_
  rintro _ h2 ⟨rfl, M2, e2, s2⟩
  have hM2 : MAt h2 u M2 := by rw [e2]; exact mput_at _ _ _
  have hC2 := hC1.keep (h1 := h2) (fun x z1 z2 => by rw [e2]; exact mput_out (Or.inl (by omega)))
  have ha := tie_best hG Q (xs (i + 1)) (xs (i + 2)) (xs (i + 3))
  refine R_icmp_eq (pc := 945) 996 dL_law_945 (by decide) (fun c_945 => ?_) (fun c_945 => absurd ha c_945)
  exact kk _ _ _ hC2 hM2 ((hR.mono (by omega)).ms s2)

set_option maxHeartbeats 4000000 in
set_option maxRecDepth 100000 in
theorem law_threats (hk : k ≤ 600000) (hnn : n ≤ 7302250) (hL31 : L < 2 ^ 31) (hC : CAt h w C) (hM : MAt h u M) (hR : RC T C M) (hT : T + 101 < 2 ^ 29) (hiL : i + 7 ≤ L) (hwu : w + 329 ≤ u) (kk : ∀ (h2 : AH) (C2 : Cm) (M2 : Mm), CAt h2 w C2 → MAt h2 u M2 → RC (T + 101) C2 M2 → RunL l D cA N0 nm b L xs h2 k n 996 [some (.ref b), some (.ref w), some (.ref u), some (.int (nI i))] []) : RunL l D cA N0 nm b L xs h k n 950 [some (.ref b), some (.ref w), some (.ref u), some (.int (nI i))] [] := by
  obtain ⟨sn, hG⟩ := hR.1.1
  have hn := hG.n
  have hsn : M.2.1 10 = nI sn := hG.s10
  have hz : sBz C.1 := ⟨hG.mv, hR.1.2.2.1, hR.1.2.2.2⟩
  have hm6 : C.2.1 ≤ 6 := hR.2.1
  have hmu : M.1 3 = nI C.2.1 := hR.2.2.1
  have hl1 : C.2.2.2.2 ≤ 100 := hR.2.2.2.2.1
  have hml : M.1 4 = nI C.2.2.2.2 := hR.2.2.2.2.2.1
  have hrn : M.1 6 = 0 := hR.2.2.2.2.2.2.2
  have hcp : ∀ e, e < sn → ∃ c, c < 2 ∧ gx M.2.1 e 0 = nI c := fun e he => (hG.iz.2.2.2 e he).1
  have hxr := hG.xr
  have hnw := hG.nw
  have hhd := hG.hd
  have hfx := hG.fx
  refine R_aload_n1 (pc := 950) dL_law_950 ?_
  refine R_aload_n0 (pc := 951) dL_law_951 ?_
  refine R_iload_n3 (pc := 952) dL_law_952 ?_
  refine R_iconst (pc := 953) (v := 1) dL_law_953 (by decide) ?_
  refine R_iadd (pc := 954) dL_law_954 ?_
  rw [show nI i + 1 = nI (i + 1) from nI_add i 1]
  refine R_sld (pc := 955) dL_law_955 (by omega) hL31 ?_
  refine R_callV1 (pc := 956) (T := TX9) cal_X9_threats kw821 kw822 kw823 dL_law_956 (c_X9_threats hC) ⟨by decide, by show _ ≤ 600000; omega, by show _ ≤ 7302250; omega⟩ (Nat.le_of_ble_eq_true rfl) (ci := 7) rfl hC.self ?_
  rintro _ h1 ⟨rfl, hC1, hF1⟩
  have hM1 : MAt h1 u M := hM.keep (fun x z1 z2 => hF1.2 x (by omega))
  refine R_aload_n2 (pc := 959) dL_law_959 ?_
  refine R_aload_n0 (pc := 960) dL_law_960 ?_
  refine R_iload_n3 (pc := 961) dL_law_961 ?_
  refine R_iconst (pc := 962) (v := 1) dL_law_962 (by decide) ?_
  refine R_iadd (pc := 963) dL_law_963 ?_
  rw [show nI i + 1 = nI (i + 1) from nI_add i 1]
  refine R_sld (pc := 964) dL_law_964 (by omega) hL31 ?_
  refine R_callV1 (pc := 965) (T := TX10) cal_X10_threats kw1162 kw1163 kw1164 dL_law_965 (c_X10_threats hM1 hn hsn) ⟨by decide, by show _ ≤ 600000; omega, by show _ ≤ 7302250; omega⟩ (Nat.le_of_ble_eq_true rfl) (ci := 8) rfl hM1.o ?_
  rintro _ h2 ⟨rfl, M2, e2, s2⟩
  have hM2 : MAt h2 u M2 := by rw [e2]; exact mput_at _ _ _
  have hC2 := hC1.keep (h1 := h2) (fun x z1 z2 => by rw [e2]; exact mput_out (Or.inl (by omega)))
  have ha := tie_threats hG (xs (i + 1))
  refine R_icmp_eq (pc := 968) 996 dL_law_968 (by decide) (fun c_968 => ?_) (fun c_968 => absurd ha c_968)
  exact kk _ _ _ hC2 hM2 ((hR.mono (by omega)).ms s2)

set_option maxHeartbeats 4000000 in
set_option maxRecDepth 100000 in
theorem law_strength (hk : k ≤ 600000) (hnn : n ≤ 7302250) (hL31 : L < 2 ^ 31) (hC : CAt h w C) (hM : MAt h u M) (hR : RC T C M) (hT : T + 101 < 2 ^ 29) (hiL : i + 7 ≤ L) (hwu : w + 329 ≤ u) (kk : ∀ (h2 : AH) (C2 : Cm) (M2 : Mm), CAt h2 w C2 → MAt h2 u M2 → RC (T + 101) C2 M2 → RunL l D cA N0 nm b L xs h2 k n 996 [some (.ref b), some (.ref w), some (.ref u), some (.int (nI i))] []) : RunL l D cA N0 nm b L xs h k n 973 [some (.ref b), some (.ref w), some (.ref u), some (.int (nI i))] [] := by
  obtain ⟨sn, hG⟩ := hR.1.1
  have hn := hG.n
  have hsn : M.2.1 10 = nI sn := hG.s10
  have hz : sBz C.1 := ⟨hG.mv, hR.1.2.2.1, hR.1.2.2.2⟩
  have hm6 : C.2.1 ≤ 6 := hR.2.1
  have hmu : M.1 3 = nI C.2.1 := hR.2.2.1
  have hl1 : C.2.2.2.2 ≤ 100 := hR.2.2.2.2.1
  have hml : M.1 4 = nI C.2.2.2.2 := hR.2.2.2.2.2.1
  have hrn : M.1 6 = 0 := hR.2.2.2.2.2.2.2
  have hcp : ∀ e, e < sn → ∃ c, c < 2 ∧ gx M.2.1 e 0 = nI c := fun e he => (hG.iz.2.2.2 e he).1
  have hxr := hG.xr
  have hnw := hG.nw
  have hhd := hG.hd
  have hfx := hG.fx
  refine R_aload_n1 (pc := 973) dL_law_973 ?_
  refine R_aload_n0 (pc := 974) dL_law_974 ?_
  refine R_iload_n3 (pc := 975) dL_law_975 ?_
  refine R_iconst (pc := 976) (v := 1) dL_law_976 (by decide) ?_
  refine R_iadd (pc := 977) dL_law_977 ?_
  rw [show nI i + 1 = nI (i + 1) from nI_add i 1]
  refine R_sld (pc := 978) dL_law_978 (by omega) hL31 ?_
  refine R_callV1 (pc := 979) (T := TX9) cal_X9_strength kw829 kw830 kw831 dL_law_979 (c_X9_strength hC) ⟨by decide, by show _ ≤ 600000; omega, by show _ ≤ 7302250; omega⟩ (Nat.le_of_ble_eq_true rfl) (ci := 7) rfl hC.self ?_
  rintro _ h1 ⟨rfl, hC1, hF1⟩
  have hM1 : MAt h1 u M := hM.keep (fun x z1 z2 => hF1.2 x (by omega))
  refine R_aload_n2 (pc := 982) dL_law_982 ?_
  refine R_aload_n0 (pc := 983) dL_law_983 ?_
  refine R_iload_n3 (pc := 984) dL_law_984 ?_
  refine R_iconst (pc := 985) (v := 1) dL_law_985 (by decide) ?_
  refine R_iadd (pc := 986) dL_law_986 ?_
  rw [show nI i + 1 = nI (i + 1) from nI_add i 1]
  refine R_sld (pc := 987) dL_law_987 (by omega) hL31 ?_
  refine R_callV1 (pc := 988) (T := TX10) cal_X10_strength kw1166 kw1167 kw1168 dL_law_988 (c_X10_strength hM1 hn hsn) ⟨by decide, by show _ ≤ 600000; omega, by show _ ≤ 7302250; omega⟩ (Nat.le_of_ble_eq_true rfl) (ci := 8) rfl hM1.o ?_
  rintro _ h2 ⟨rfl, M2, e2, s2⟩
  have hM2 : MAt h2 u M2 := by rw [e2]; exact mput_at _ _ _
  have hC2 := hC1.keep (h1 := h2) (fun x z1 z2 => by rw [e2]; exact mput_out (Or.inl (by omega)))
  have ha := tie_strength hG (xs (i + 1))
  refine R_icmp_eq (pc := 991) 996 dL_law_991 (by decide) (fun c_991 => ?_) (fun c_991 => absurd ha c_991)
  exact kk _ _ _ hC2 hM2 ((hR.mono (by omega)).ms s2)

end LV61
