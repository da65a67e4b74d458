/-- what holds ahead of the j-th call -/
def LI (j m : Nat) (hh : ab_H) (S : SS) (us : Nat × Nat) : Prop := PX VX m hh S ∧ PM VX j hh S ∧ S_ok S ∧ us.1 ≤ 200 + 5 * j ∧ us.2 ≤ 600000 + 1537 * j
abbrev lQ : Option Value → Nat → ab_H → Prop := fun r _ _ => r = some (.int 1)
abbrev lL (j : Nat) : List (Option Value) := [some (.ref 0), some (.ref 1), some (.ref 56), some (.int (nI (6 * j)))]
theorem lc_0 (l : Launch) {L : Nat} {xs : Nat → Int32} (hL : L ≤ 384) {j : Nat} (hj : 6 * j + 6 ≤ L) {m : Nat} {hh : ab_H} {S : SS} {us : Nat × Nat} (li : LI j m hh S us) (nxt : ∀ hh2 m2 S2 us2, LI (j + 1) m2 hh2 S2 us2 → ab_W Y_law (some (L, xs)) l lQ 1215 (lL j) [] m2 hh2 us2) : ab_W Y_law (some (L, xs)) l lQ 180 (lL j) [] m hh us := by
  obtain ⟨hX, hM, ok, u1, u2⟩ := li
  refine aw_aload_n d_law_180 rfl ?_
  refine aw_aload_n d_law_181 rfl ?_
  refine aw_iload_n d_law_182 rfl ?_
  refine aw_iconst (v := nI 1) d_law_183 (by decide) ?_
  refine aw_iadd d_law_184 ?_
  rw [nI_add]
  refine aw_ialoadX d_law_185 rfl (vp_in_nI (by omega) (by omega)) ?_
  refine aw_aload_n d_law_186 rfl ?_
  refine aw_iload_n d_law_187 rfl ?_
  refine aw_iconst (v := nI 2) d_law_188 (by decide) ?_
  refine aw_iadd d_law_189 ?_
  rw [nI_add]
  refine aw_ialoadX d_law_190 rfl (vp_in_nI (by omega) (by omega)) ?_
  refine aw_aload_n d_law_191 rfl ?_
  refine aw_iload_n d_law_192 rfl ?_
  refine aw_iconst (v := nI 3) d_law_193 (by decide) ?_
  refine aw_iadd d_law_194 ?_
  rw [nI_add]
  refine aw_ialoadX d_law_195 rfl (vp_in_nI (by omega) (by omega)) ?_
  refine aw_v0 (a := 1) d_law_196 k_Law_13 ok_Coat_person rfl ⟨rfl, rfl⟩ cl_Coat hX.1.1 (x_person hX ok  (xs (nI (6 * j + 1)).toNatClampNeg) (xs (nI (6 * j + 2)).toNatClampNeg) (xs (nI (6 * j + 3)).toNatClampNeg)) rfl rfl (Nat.le_of_ble_eq_true rfl) (fun r m2 h2 z => ?_)
  obtain ⟨v1, S1, rfl, hr1, hX1, hm1, hf1⟩ := z
  have hM1 := hM.fr hf1
  obtain ⟨⟨tab, la, at_, wr, ve, fs, ft, m0, _⟩, _⟩ := id hM1
  show ab_W _ _ _ _ 199 _ [.int v1] _ _ _
  refine aw_aload_n d_law_199 rfl ?_
  refine aw_aload_n d_law_200 rfl ?_
  refine aw_iload_n d_law_201 rfl ?_
  refine aw_iconst (v := nI 1) d_law_202 (by decide) ?_
  refine aw_iadd d_law_203 ?_
  rw [nI_add]
  refine aw_ialoadX d_law_204 rfl (vp_in_nI (by omega) (by omega)) ?_
  refine aw_aload_n d_law_205 rfl ?_
  refine aw_iload_n d_law_206 rfl ?_
  refine aw_iconst (v := nI 2) d_law_207 (by decide) ?_
  refine aw_iadd d_law_208 ?_
  rw [nI_add]
  refine aw_ialoadX d_law_209 rfl (vp_in_nI (by omega) (by omega)) ?_
  refine aw_aload_n d_law_210 rfl ?_
  refine aw_iload_n d_law_211 rfl ?_
  refine aw_iconst (v := nI 3) d_law_212 (by decide) ?_
  refine aw_iadd d_law_213 ?_
  rw [nI_add]
  refine aw_ialoadX d_law_214 rfl (vp_in_nI (by omega) (by omega)) ?_
  refine aw_v0 (a := 56) d_law_215 k_Law_17 ok_M_person rfl ⟨rfl, rfl⟩ cl_Model m0 (y_person hM1 ok (by omega)  (xs (nI (6 * j + 1)).toNatClampNeg) (xs (nI (6 * j + 2)).toNatClampNeg) (xs (nI (6 * j + 3)).toNatClampNeg)) rfl rfl (Nat.le_of_ble_eq_true rfl) (fun r m2 h2 z => ?_)
  obtain ⟨v2, S2, rfl, hr2, hM2, em2, hf2⟩ := z
  rw [em2]
  have hX2 := hX1.fr hf2
  show ab_W _ _ _ _ 218 _ [.int v2, .int v1] _ _ _
  refine aw_icmp_eq (tgt := 1215) d_law_218 (by decide) (fun c218 => ?_) (fun c218 => ?_)
  · first
      | (have eS : S2 = S1 := congrArg Prod.snd (hr2.trans hr1.symm)
         rw [eS] at hM2
         exact nxt _ _ S1 _ ⟨hX2, hM2, by rw [show S1 = _ from congrArg Prod.snd hr1]; exact k_person ok _ _ _, by omega, by omega⟩)
  · first
      | exact absurd (congrArg Prod.fst (hr1.trans hr2.symm)) c218
theorem lc_1 (l : Launch) {L : Nat} {xs : Nat → Int32} (hL : L ≤ 384) {j : Nat} (hj : 6 * j + 6 ≤ L) {m : Nat} {hh : ab_H} {S : SS} {us : Nat × Nat} (li : LI j m hh S us) (nxt : ∀ hh2 m2 S2 us2, LI (j + 1) m2 hh2 S2 us2 → ab_W Y_law (some (L, xs)) l lQ 1215 (lL j) [] m2 hh2 us2) : ab_W Y_law (some (L, xs)) l lQ 223 (lL j) [] m hh us := by
  obtain ⟨hX, hM, ok, u1, u2⟩ := li
  refine aw_aload_n d_law_223 rfl ?_
  refine aw_aload_n d_law_224 rfl ?_
  refine aw_iload_n d_law_225 rfl ?_
  refine aw_iconst (v := nI 1) d_law_226 (by decide) ?_
  refine aw_iadd d_law_227 ?_
  rw [nI_add]
  refine aw_ialoadX d_law_228 rfl (vp_in_nI (by omega) (by omega)) ?_
  refine aw_aload_n d_law_229 rfl ?_
  refine aw_iload_n d_law_230 rfl ?_
  refine aw_iconst (v := nI 2) d_law_231 (by decide) ?_
  refine aw_iadd d_law_232 ?_
  rw [nI_add]
  refine aw_ialoadX d_law_233 rfl (vp_in_nI (by omega) (by omega)) ?_
  refine aw_v0 (a := 1) d_law_234 k_Law_18 ok_Coat_told rfl ⟨rfl, rfl⟩ cl_Coat hX.1.1 (x_told hX ok  (xs (nI (6 * j + 1)).toNatClampNeg) (xs (nI (6 * j + 2)).toNatClampNeg)) rfl rfl (Nat.le_of_ble_eq_true rfl) (fun r m2 h2 z => ?_)
  obtain ⟨v1, S1, rfl, hr1, hX1, hm1, hf1⟩ := z
  have hM1 := hM.fr hf1
  obtain ⟨⟨tab, la, at_, wr, ve, fs, ft, m0, _⟩, _⟩ := id hM1
  show ab_W _ _ _ _ 237 _ [.int v1] _ _ _
  refine aw_aload_n d_law_237 rfl ?_
  refine aw_aload_n d_law_238 rfl ?_
  refine aw_iload_n d_law_239 rfl ?_
  refine aw_iconst (v := nI 1) d_law_240 (by decide) ?_
  refine aw_iadd d_law_241 ?_
  rw [nI_add]
  refine aw_ialoadX d_law_242 rfl (vp_in_nI (by omega) (by omega)) ?_
  refine aw_aload_n d_law_243 rfl ?_
  refine aw_iload_n d_law_244 rfl ?_
  refine aw_iconst (v := nI 2) d_law_245 (by decide) ?_
  refine aw_iadd d_law_246 ?_
  rw [nI_add]
  refine aw_ialoadX d_law_247 rfl (vp_in_nI (by omega) (by omega)) ?_
  refine aw_v0 (a := 56) d_law_248 k_Law_22 ok_M_told rfl ⟨rfl, rfl⟩ cl_Model m0 (y_told hM1 ok (by omega)  (xs (nI (6 * j + 1)).toNatClampNeg) (xs (nI (6 * j + 2)).toNatClampNeg)) rfl rfl (Nat.le_of_ble_eq_true rfl) (fun r m2 h2 z => ?_)
  obtain ⟨v2, S2, rfl, hr2, hM2, em2, hf2⟩ := z
  rw [em2]
  have hX2 := hX1.fr hf2
  show ab_W _ _ _ _ 251 _ [.int v2, .int v1] _ _ _
  refine aw_icmp_eq (tgt := 1215) d_law_251 (by decide) (fun c251 => ?_) (fun c251 => ?_)
  · first
      | (have eS : S2 = S1 := congrArg Prod.snd (hr2.trans hr1.symm)
         rw [eS] at hM2
         exact nxt _ _ S1 _ ⟨hX2, hM2, by rw [show S1 = _ from congrArg Prod.snd hr1]; exact ok, by omega, by omega⟩)
  · first
      | exact absurd (congrArg Prod.fst (hr1.trans hr2.symm)) c251
theorem lc_2 (l : Launch) {L : Nat} {xs : Nat → Int32} (hL : L ≤ 384) {j : Nat} (hj : 6 * j + 6 ≤ L) {m : Nat} {hh : ab_H} {S : SS} {us : Nat × Nat} (li : LI j m hh S us) (nxt : ∀ hh2 m2 S2 us2, LI (j + 1) m2 hh2 S2 us2 → ab_W Y_law (some (L, xs)) l lQ 1215 (lL j) [] m2 hh2 us2) : ab_W Y_law (some (L, xs)) l lQ 256 (lL j) [] m hh us := by
  obtain ⟨hX, hM, ok, u1, u2⟩ := li
  refine aw_aload_n d_law_256 rfl ?_
  refine aw_aload_n d_law_257 rfl ?_
  refine aw_iload_n d_law_258 rfl ?_
  refine aw_iconst (v := nI 1) d_law_259 (by decide) ?_
  refine aw_iadd d_law_260 ?_
  rw [nI_add]
  refine aw_ialoadX d_law_261 rfl (vp_in_nI (by omega) (by omega)) ?_
  refine aw_aload_n d_law_262 rfl ?_
  refine aw_iload_n d_law_263 rfl ?_
  refine aw_iconst (v := nI 2) d_law_264 (by decide) ?_
  refine aw_iadd d_law_265 ?_
  rw [nI_add]
  refine aw_ialoadX d_law_266 rfl (vp_in_nI (by omega) (by omega)) ?_
  refine aw_v0 (a := 1) d_law_267 k_Law_23 ok_Coat_marks rfl ⟨rfl, rfl⟩ cl_Coat hX.1.1 (x_marks hX ok VX_ok (xs (nI (6 * j + 1)).toNatClampNeg) (xs (nI (6 * j + 2)).toNatClampNeg)) rfl rfl (Nat.le_of_ble_eq_true rfl) (fun r m2 h2 z => ?_)
  obtain ⟨v1, S1, rfl, hr1, hX1, hm1, hf1⟩ := z
  have hM1 := hM.fr hf1
  obtain ⟨⟨tab, la, at_, wr, ve, fs, ft, m0, _⟩, _⟩ := id hM1
  show ab_W _ _ _ _ 270 _ [.int v1] _ _ _
  refine aw_aload_n d_law_270 rfl ?_
  refine aw_aload_n d_law_271 rfl ?_
  refine aw_iload_n d_law_272 rfl ?_
  refine aw_iconst (v := nI 1) d_law_273 (by decide) ?_
  refine aw_iadd d_law_274 ?_
  rw [nI_add]
  refine aw_ialoadX d_law_275 rfl (vp_in_nI (by omega) (by omega)) ?_
  refine aw_aload_n d_law_276 rfl ?_
  refine aw_iload_n d_law_277 rfl ?_
  refine aw_iconst (v := nI 2) d_law_278 (by decide) ?_
  refine aw_iadd d_law_279 ?_
  rw [nI_add]
  refine aw_ialoadX d_law_280 rfl (vp_in_nI (by omega) (by omega)) ?_
  refine aw_v0 (a := 56) d_law_281 k_Law_26 ok_M_marks rfl ⟨rfl, rfl⟩ cl_Model m0 (y_marks hM1 ok (by omega) VX_ok (xs (nI (6 * j + 1)).toNatClampNeg) (xs (nI (6 * j + 2)).toNatClampNeg)) rfl rfl (Nat.le_of_ble_eq_true rfl) (fun r m2 h2 z => ?_)
  obtain ⟨v2, S2, rfl, hr2, hM2, em2, hf2⟩ := z
  rw [em2]
  have hX2 := hX1.fr hf2
  show ab_W _ _ _ _ 284 _ [.int v2, .int v1] _ _ _
  refine aw_icmp_eq (tgt := 1215) d_law_284 (by decide) (fun c284 => ?_) (fun c284 => ?_)
  · first
      | (have eS : S2 = S1 := congrArg Prod.snd (hr2.trans hr1.symm)
         rw [eS] at hM2
         exact nxt _ _ S1 _ ⟨hX2, hM2, by rw [show S1 = _ from congrArg Prod.snd hr1]; exact k_marks ok _ _, by omega, by omega⟩)
  · first
      | exact absurd (congrArg Prod.fst (hr1.trans hr2.symm)) c284
theorem lc_3 (l : Launch) {L : Nat} {xs : Nat → Int32} (hL : L ≤ 384) {j : Nat} (hj : 6 * j + 6 ≤ L) {m : Nat} {hh : ab_H} {S : SS} {us : Nat × Nat} (li : LI j m hh S us) (nxt : ∀ hh2 m2 S2 us2, LI (j + 1) m2 hh2 S2 us2 → ab_W Y_law (some (L, xs)) l lQ 1215 (lL j) [] m2 hh2 us2) : ab_W Y_law (some (L, xs)) l lQ 289 (lL j) [] m hh us := by
  obtain ⟨hX, hM, ok, u1, u2⟩ := li
  refine aw_aload_n d_law_289 rfl ?_
  refine aw_aload_n d_law_290 rfl ?_
  refine aw_iload_n d_law_291 rfl ?_
  refine aw_iconst (v := nI 1) d_law_292 (by decide) ?_
  refine aw_iadd d_law_293 ?_
  rw [nI_add]
  refine aw_ialoadX d_law_294 rfl (vp_in_nI (by omega) (by omega)) ?_
  refine aw_aload_n d_law_295 rfl ?_
  refine aw_iload_n d_law_296 rfl ?_
  refine aw_iconst (v := nI 2) d_law_297 (by decide) ?_
  refine aw_iadd d_law_298 ?_
  rw [nI_add]
  refine aw_ialoadX d_law_299 rfl (vp_in_nI (by omega) (by omega)) ?_
  refine aw_aload_n d_law_300 rfl ?_
  refine aw_iload_n d_law_301 rfl ?_
  refine aw_iconst (v := nI 3) d_law_302 (by decide) ?_
  refine aw_iadd d_law_303 ?_
  rw [nI_add]
  refine aw_ialoadX d_law_304 rfl (vp_in_nI (by omega) (by omega)) ?_
  refine aw_v0 (a := 1) d_law_305 k_Law_27 ok_Coat_likes rfl ⟨rfl, rfl⟩ cl_Coat hX.1.1 (x_likes hX ok VX_ok (xs (nI (6 * j + 1)).toNatClampNeg) (xs (nI (6 * j + 2)).toNatClampNeg) (xs (nI (6 * j + 3)).toNatClampNeg)) rfl rfl (Nat.le_of_ble_eq_true rfl) (fun r m2 h2 z => ?_)
  obtain ⟨v1, S1, rfl, hr1, hX1, hm1, hf1⟩ := z
  have hM1 := hM.fr hf1
  obtain ⟨⟨tab, la, at_, wr, ve, fs, ft, m0, _⟩, _⟩ := id hM1
  show ab_W _ _ _ _ 308 _ [.int v1] _ _ _
  refine aw_aload_n d_law_308 rfl ?_
  refine aw_aload_n d_law_309 rfl ?_
  refine aw_iload_n d_law_310 rfl ?_
  refine aw_iconst (v := nI 1) d_law_311 (by decide) ?_
  refine aw_iadd d_law_312 ?_
  rw [nI_add]
  refine aw_ialoadX d_law_313 rfl (vp_in_nI (by omega) (by omega)) ?_
  refine aw_aload_n d_law_314 rfl ?_
  refine aw_iload_n d_law_315 rfl ?_
  refine aw_iconst (v := nI 2) d_law_316 (by decide) ?_
  refine aw_iadd d_law_317 ?_
  rw [nI_add]
  refine aw_ialoadX d_law_318 rfl (vp_in_nI (by omega) (by omega)) ?_
  refine aw_aload_n d_law_319 rfl ?_
  refine aw_iload_n d_law_320 rfl ?_
  refine aw_iconst (v := nI 3) d_law_321 (by decide) ?_
  refine aw_iadd d_law_322 ?_
  rw [nI_add]
  refine aw_ialoadX d_law_323 rfl (vp_in_nI (by omega) (by omega)) ?_
  refine aw_v0 (a := 56) d_law_324 k_Law_30 ok_M_likes rfl ⟨rfl, rfl⟩ cl_Model m0 (y_likes hM1 ok (by omega) VX_ok (xs (nI (6 * j + 1)).toNatClampNeg) (xs (nI (6 * j + 2)).toNatClampNeg) (xs (nI (6 * j + 3)).toNatClampNeg)) rfl rfl (Nat.le_of_ble_eq_true rfl) (fun r m2 h2 z => ?_)
  obtain ⟨v2, S2, rfl, hr2, hM2, em2, hf2⟩ := z
  rw [em2]
  have hX2 := hX1.fr hf2
  show ab_W _ _ _ _ 327 _ [.int v2, .int v1] _ _ _
  refine aw_icmp_eq (tgt := 1215) d_law_327 (by decide) (fun c327 => ?_) (fun c327 => ?_)
  · first
      | (have eS : S2 = S1 := congrArg Prod.snd (hr2.trans hr1.symm)
         rw [eS] at hM2
         exact nxt _ _ S1 _ ⟨hX2, hM2, by rw [show S1 = _ from congrArg Prod.snd hr1]; exact k_likes ok _ _ _, by omega, by omega⟩)
  · first
      | exact absurd (congrArg Prod.fst (hr1.trans hr2.symm)) c327
theorem lc_4 (l : Launch) {L : Nat} {xs : Nat → Int32} (hL : L ≤ 384) {j : Nat} (hj : 6 * j + 6 ≤ L) {m : Nat} {hh : ab_H} {S : SS} {us : Nat × Nat} (li : LI j m hh S us) (nxt : ∀ hh2 m2 S2 us2, LI (j + 1) m2 hh2 S2 us2 → ab_W Y_law (some (L, xs)) l lQ 1215 (lL j) [] m2 hh2 us2) : ab_W Y_law (some (L, xs)) l lQ 332 (lL j) [] m hh us := by
  obtain ⟨hX, hM, ok, u1, u2⟩ := li
  refine aw_aload_n d_law_332 rfl ?_
  refine aw_aload_n d_law_333 rfl ?_
  refine aw_iload_n d_law_334 rfl ?_
  refine aw_iconst (v := nI 1) d_law_335 (by decide) ?_
  refine aw_iadd d_law_336 ?_
  rw [nI_add]
  refine aw_ialoadX d_law_337 rfl (vp_in_nI (by omega) (by omega)) ?_
  refine aw_aload_n d_law_338 rfl ?_
  refine aw_iload_n d_law_339 rfl ?_
  refine aw_iconst (v := nI 2) d_law_340 (by decide) ?_
  refine aw_iadd d_law_341 ?_
  rw [nI_add]
  refine aw_ialoadX d_law_342 rfl (vp_in_nI (by omega) (by omega)) ?_
  refine aw_if_eq (tgt := 350) d_law_343 (by decide) (fun c343 => ?_) (fun c343 => ?_)
  · refine aw_iconst (v := nI 0) d_law_350 (by decide) ?_
    refine aw_v0 (a := 1) d_law_351 k_Law_31 ok_Coat_wont rfl ⟨rfl, rfl⟩ cl_Coat hX.1.1 (x_wont hX ok  (xs (nI (6 * j + 1)).toNatClampNeg) (nI 0)) rfl rfl (Nat.le_of_ble_eq_true rfl) (fun r m2 h2 z => ?_)
    obtain ⟨v1, S1, rfl, hr1, hX1, hm1, hf1⟩ := z
    have hM1 := hM.fr hf1
    obtain ⟨⟨tab, la, at_, wr, ve, fs, ft, m0, _⟩, _⟩ := id hM1
    show ab_W _ _ _ _ 354 _ [.int v1] _ _ _
    refine aw_aload_n d_law_354 rfl ?_
    refine aw_aload_n d_law_355 rfl ?_
    refine aw_iload_n d_law_356 rfl ?_
    refine aw_iconst (v := nI 1) d_law_357 (by decide) ?_
    refine aw_iadd d_law_358 ?_
    rw [nI_add]
    refine aw_ialoadX d_law_359 rfl (vp_in_nI (by omega) (by omega)) ?_
    refine aw_aload_n d_law_360 rfl ?_
    refine aw_iload_n d_law_361 rfl ?_
    refine aw_iconst (v := nI 2) d_law_362 (by decide) ?_
    refine aw_iadd d_law_363 ?_
    rw [nI_add]
    refine aw_ialoadX d_law_364 rfl (vp_in_nI (by omega) (by omega)) ?_
    refine aw_if_eq (tgt := 372) d_law_365 (by decide) (fun c365 => ?_) (fun c365 => ?_)
    · refine aw_iconst (v := nI 0) d_law_372 (by decide) ?_
      refine aw_v0 (a := 56) d_law_373 k_Law_35 ok_M_wont rfl ⟨rfl, rfl⟩ cl_Model m0 (y_wont hM1 ok (by omega)  (xs (nI (6 * j + 1)).toNatClampNeg) (nI 0)) rfl rfl (Nat.le_of_ble_eq_true rfl) (fun r m2 h2 z => ?_)
      obtain ⟨v2, S2, rfl, hr2, hM2, em2, hf2⟩ := z
      rw [em2]
      have hX2 := hX1.fr hf2
      show ab_W _ _ _ _ 376 _ [.int v2, .int v1] _ _ _
      refine aw_icmp_eq (tgt := 1215) d_law_376 (by decide) (fun c376 => ?_) (fun c376 => ?_)
      · first
          | exact absurd c343 c365
          | exact absurd c365 c343
          | (have eS : S2 = S1 := congrArg Prod.snd (hr2.trans hr1.symm)
             rw [eS] at hM2
             exact nxt _ _ S1 _ ⟨hX2, hM2, by rw [show S1 = _ from congrArg Prod.snd hr1]; exact k_wont ok _ _, by omega, by omega⟩)
      · first
          | exact absurd c343 c365
          | exact absurd c365 c343
          | exact absurd (congrArg Prod.fst (hr1.trans hr2.symm)) c376
    · refine aw_iconst (v := nI 1) d_law_368 (by decide) ?_
      refine aw_goto (tgt := 373) d_law_369 (by decide) ?_
      refine aw_v0 (a := 56) d_law_373 k_Law_35 ok_M_wont rfl ⟨rfl, rfl⟩ cl_Model m0 (y_wont hM1 ok (by omega)  (xs (nI (6 * j + 1)).toNatClampNeg) (nI 1)) rfl rfl (Nat.le_of_ble_eq_true rfl) (fun r m2 h2 z => ?_)
      obtain ⟨v2, S2, rfl, hr2, hM2, em2, hf2⟩ := z
      rw [em2]
      have hX2 := hX1.fr hf2
      show ab_W _ _ _ _ 376 _ [.int v2, .int v1] _ _ _
      refine aw_icmp_eq (tgt := 1215) d_law_376 (by decide) (fun c376 => ?_) (fun c376 => ?_)
      · first
          | exact absurd c343 c365
          | exact absurd c365 c343
          | (have eS : S2 = S1 := congrArg Prod.snd (hr2.trans hr1.symm)
             rw [eS] at hM2
             exact nxt _ _ S1 _ ⟨hX2, hM2, by rw [show S1 = _ from congrArg Prod.snd hr1]; exact k_wont ok _ _, by omega, by omega⟩)
      · first
          | exact absurd c343 c365
          | exact absurd c365 c343
          | exact absurd (congrArg Prod.fst (hr1.trans hr2.symm)) c376
  · refine aw_iconst (v := nI 1) d_law_346 (by decide) ?_
    refine aw_goto (tgt := 351) d_law_347 (by decide) ?_
    refine aw_v0 (a := 1) d_law_351 k_Law_31 ok_Coat_wont rfl ⟨rfl, rfl⟩ cl_Coat hX.1.1 (x_wont hX ok  (xs (nI (6 * j + 1)).toNatClampNeg) (nI 1)) rfl rfl (Nat.le_of_ble_eq_true rfl) (fun r m2 h2 z => ?_)
    obtain ⟨v1, S1, rfl, hr1, hX1, hm1, hf1⟩ := z
    have hM1 := hM.fr hf1
    obtain ⟨⟨tab, la, at_, wr, ve, fs, ft, m0, _⟩, _⟩ := id hM1
    show ab_W _ _ _ _ 354 _ [.int v1] _ _ _
    refine aw_aload_n d_law_354 rfl ?_
    refine aw_aload_n d_law_355 rfl ?_
    refine aw_iload_n d_law_356 rfl ?_
    refine aw_iconst (v := nI 1) d_law_357 (by decide) ?_
    refine aw_iadd d_law_358 ?_
    rw [nI_add]
    refine aw_ialoadX d_law_359 rfl (vp_in_nI (by omega) (by omega)) ?_
    refine aw_aload_n d_law_360 rfl ?_
    refine aw_iload_n d_law_361 rfl ?_
    refine aw_iconst (v := nI 2) d_law_362 (by decide) ?_
    refine aw_iadd d_law_363 ?_
    rw [nI_add]
    refine aw_ialoadX d_law_364 rfl (vp_in_nI (by omega) (by omega)) ?_
    refine aw_if_eq (tgt := 372) d_law_365 (by decide) (fun c365 => ?_) (fun c365 => ?_)
    · refine aw_iconst (v := nI 0) d_law_372 (by decide) ?_
      refine aw_v0 (a := 56) d_law_373 k_Law_35 ok_M_wont rfl ⟨rfl, rfl⟩ cl_Model m0 (y_wont hM1 ok (by omega)  (xs (nI (6 * j + 1)).toNatClampNeg) (nI 0)) rfl rfl (Nat.le_of_ble_eq_true rfl) (fun r m2 h2 z => ?_)
      obtain ⟨v2, S2, rfl, hr2, hM2, em2, hf2⟩ := z
      rw [em2]
      have hX2 := hX1.fr hf2
      show ab_W _ _ _ _ 376 _ [.int v2, .int v1] _ _ _
      refine aw_icmp_eq (tgt := 1215) d_law_376 (by decide) (fun c376 => ?_) (fun c376 => ?_)
      · first
          | exact absurd c343 c365
          | exact absurd c365 c343
          | (have eS : S2 = S1 := congrArg Prod.snd (hr2.trans hr1.symm)
             rw [eS] at hM2
             exact nxt _ _ S1 _ ⟨hX2, hM2, by rw [show S1 = _ from congrArg Prod.snd hr1]; exact k_wont ok _ _, by omega, by omega⟩)
      · first
          | exact absurd c343 c365
          | exact absurd c365 c343
          | exact absurd (congrArg Prod.fst (hr1.trans hr2.symm)) c376
    · refine aw_iconst (v := nI 1) d_law_368 (by decide) ?_
      refine aw_goto (tgt := 373) d_law_369 (by decide) ?_
      refine aw_v0 (a := 56) d_law_373 k_Law_35 ok_M_wont rfl ⟨rfl, rfl⟩ cl_Model m0 (y_wont hM1 ok (by omega)  (xs (nI (6 * j + 1)).toNatClampNeg) (nI 1)) rfl rfl (Nat.le_of_ble_eq_true rfl) (fun r m2 h2 z => ?_)
      obtain ⟨v2, S2, rfl, hr2, hM2, em2, hf2⟩ := z
      rw [em2]
      have hX2 := hX1.fr hf2
      show ab_W _ _ _ _ 376 _ [.int v2, .int v1] _ _ _
      refine aw_icmp_eq (tgt := 1215) d_law_376 (by decide) (fun c376 => ?_) (fun c376 => ?_)
      · first
          | exact absurd c343 c365
          | exact absurd c365 c343
          | (have eS : S2 = S1 := congrArg Prod.snd (hr2.trans hr1.symm)
             rw [eS] at hM2
             exact nxt _ _ S1 _ ⟨hX2, hM2, by rw [show S1 = _ from congrArg Prod.snd hr1]; exact k_wont ok _ _, by omega, by omega⟩)
      · first
          | exact absurd c343 c365
          | exact absurd c365 c343
          | exact absurd (congrArg Prod.fst (hr1.trans hr2.symm)) c376
theorem lc_5 (l : Launch) {L : Nat} {xs : Nat → Int32} (hL : L ≤ 384) {j : Nat} (hj : 6 * j + 6 ≤ L) {m : Nat} {hh : ab_H} {S : SS} {us : Nat × Nat} (li : LI j m hh S us) (nxt : ∀ hh2 m2 S2 us2, LI (j + 1) m2 hh2 S2 us2 → ab_W Y_law (some (L, xs)) l lQ 1215 (lL j) [] m2 hh2 us2) : ab_W Y_law (some (L, xs)) l lQ 381 (lL j) [] m hh us := by
  obtain ⟨hX, hM, ok, u1, u2⟩ := li
  refine aw_aload_n d_law_381 rfl ?_
  refine aw_aload_n d_law_382 rfl ?_
  refine aw_iload_n d_law_383 rfl ?_
  refine aw_iconst (v := nI 1) d_law_384 (by decide) ?_
  refine aw_iadd d_law_385 ?_
  rw [nI_add]
  refine aw_ialoadX d_law_386 rfl (vp_in_nI (by omega) (by omega)) ?_
  refine aw_aload_n d_law_387 rfl ?_
  refine aw_iload_n d_law_388 rfl ?_
  refine aw_iconst (v := nI 2) d_law_389 (by decide) ?_
  refine aw_iadd d_law_390 ?_
  rw [nI_add]
  refine aw_ialoadX d_law_391 rfl (vp_in_nI (by omega) (by omega)) ?_
  refine aw_aload_n d_law_392 rfl ?_
  refine aw_iload_n d_law_393 rfl ?_
  refine aw_iconst (v := nI 3) d_law_394 (by decide) ?_
  refine aw_iadd d_law_395 ?_
  rw [nI_add]
  refine aw_ialoadX d_law_396 rfl (vp_in_nI (by omega) (by omega)) ?_
  refine aw_v0 (a := 1) d_law_397 k_Law_36 ok_Coat_table rfl ⟨rfl, rfl⟩ cl_Coat hX.1.1 (x_table hX ok  (xs (nI (6 * j + 1)).toNatClampNeg) (xs (nI (6 * j + 2)).toNatClampNeg) (xs (nI (6 * j + 3)).toNatClampNeg)) rfl rfl (Nat.le_of_ble_eq_true rfl) (fun r m2 h2 z => ?_)
  obtain ⟨v1, S1, rfl, hr1, hX1, hm1, hf1⟩ := z
  have hM1 := hM.fr hf1
  obtain ⟨⟨tab, la, at_, wr, ve, fs, ft, m0, _⟩, _⟩ := id hM1
  show ab_W _ _ _ _ 400 _ [.int v1] _ _ _
  refine aw_aload_n d_law_400 rfl ?_
  refine aw_aload_n d_law_401 rfl ?_
  refine aw_iload_n d_law_402 rfl ?_
  refine aw_iconst (v := nI 1) d_law_403 (by decide) ?_
  refine aw_iadd d_law_404 ?_
  rw [nI_add]
  refine aw_ialoadX d_law_405 rfl (vp_in_nI (by omega) (by omega)) ?_
  refine aw_aload_n d_law_406 rfl ?_
  refine aw_iload_n d_law_407 rfl ?_
  refine aw_iconst (v := nI 2) d_law_408 (by decide) ?_
  refine aw_iadd d_law_409 ?_
  rw [nI_add]
  refine aw_ialoadX d_law_410 rfl (vp_in_nI (by omega) (by omega)) ?_
  refine aw_aload_n d_law_411 rfl ?_
  refine aw_iload_n d_law_412 rfl ?_
  refine aw_iconst (v := nI 3) d_law_413 (by decide) ?_
  refine aw_iadd d_law_414 ?_
  rw [nI_add]
  refine aw_ialoadX d_law_415 rfl (vp_in_nI (by omega) (by omega)) ?_
  refine aw_v0 (a := 56) d_law_416 k_Law_39 ok_M_table rfl ⟨rfl, rfl⟩ cl_Model m0 (y_table hM1 ok (by omega) VX_ok (xs (nI (6 * j + 1)).toNatClampNeg) (xs (nI (6 * j + 2)).toNatClampNeg) (xs (nI (6 * j + 3)).toNatClampNeg)) rfl rfl (Nat.le_of_ble_eq_true rfl) (fun r m2 h2 z => ?_)
  obtain ⟨v2, S2, rfl, hr2, hM2, em2, hf2⟩ := z
  rw [em2]
  have hX2 := hX1.fr hf2
  show ab_W _ _ _ _ 419 _ [.int v2, .int v1] _ _ _
  refine aw_icmp_eq (tgt := 1215) d_law_419 (by decide) (fun c419 => ?_) (fun c419 => ?_)
  · first
      | (have eS : S2 = S1 := congrArg Prod.snd (hr2.trans hr1.symm)
         rw [eS] at hM2
         exact nxt _ _ S1 _ ⟨hX2, hM2, by rw [show S1 = _ from congrArg Prod.snd hr1]; exact k_table ok _ _ _, by omega, by omega⟩)
  · first
      | exact absurd (congrArg Prod.fst (hr1.trans hr2.symm)) c419
theorem lc_6 (l : Launch) {L : Nat} {xs : Nat → Int32} (hL : L ≤ 384) {j : Nat} (hj : 6 * j + 6 ≤ L) {m : Nat} {hh : ab_H} {S : SS} {us : Nat × Nat} (li : LI j m hh S us) (nxt : ∀ hh2 m2 S2 us2, LI (j + 1) m2 hh2 S2 us2 → ab_W Y_law (some (L, xs)) l lQ 1215 (lL j) [] m2 hh2 us2) : ab_W Y_law (some (L, xs)) l lQ 424 (lL j) [] m hh us := by
  obtain ⟨hX, hM, ok, u1, u2⟩ := li
  refine aw_aload_n d_law_424 rfl ?_
  refine aw_aload_n d_law_425 rfl ?_
  refine aw_iload_n d_law_426 rfl ?_
  refine aw_iconst (v := nI 1) d_law_427 (by decide) ?_
  refine aw_iadd d_law_428 ?_
  rw [nI_add]
  refine aw_ialoadX d_law_429 rfl (vp_in_nI (by omega) (by omega)) ?_
  refine aw_aload_n d_law_430 rfl ?_
  refine aw_iload_n d_law_431 rfl ?_
  refine aw_iconst (v := nI 2) d_law_432 (by decide) ?_
  refine aw_iadd d_law_433 ?_
  rw [nI_add]
  refine aw_ialoadX d_law_434 rfl (vp_in_nI (by omega) (by omega)) ?_
  refine aw_v0 (a := 1) d_law_435 k_Law_40 ok_Coat_inn rfl ⟨rfl, rfl⟩ cl_Coat hX.1.1 (x_inn hX ok  (xs (nI (6 * j + 1)).toNatClampNeg) (xs (nI (6 * j + 2)).toNatClampNeg)) rfl rfl (Nat.le_of_ble_eq_true rfl) (fun r m2 h2 z => ?_)
  obtain ⟨v1, S1, rfl, hr1, hX1, hm1, hf1⟩ := z
  have hM1 := hM.fr hf1
  obtain ⟨⟨tab, la, at_, wr, ve, fs, ft, m0, _⟩, _⟩ := id hM1
  show ab_W _ _ _ _ 438 _ [.int v1] _ _ _
  refine aw_aload_n d_law_438 rfl ?_
  refine aw_aload_n d_law_439 rfl ?_
  refine aw_iload_n d_law_440 rfl ?_
  refine aw_iconst (v := nI 1) d_law_441 (by decide) ?_
  refine aw_iadd d_law_442 ?_
  rw [nI_add]
  refine aw_ialoadX d_law_443 rfl (vp_in_nI (by omega) (by omega)) ?_
  refine aw_aload_n d_law_444 rfl ?_
  refine aw_iload_n d_law_445 rfl ?_
  refine aw_iconst (v := nI 2) d_law_446 (by decide) ?_
  refine aw_iadd d_law_447 ?_
  rw [nI_add]
  refine aw_ialoadX d_law_448 rfl (vp_in_nI (by omega) (by omega)) ?_
  refine aw_v0 (a := 56) d_law_449 k_Law_43 ok_M_inn rfl ⟨rfl, rfl⟩ cl_Model m0 (y_inn hM1 ok (by omega)  (xs (nI (6 * j + 1)).toNatClampNeg) (xs (nI (6 * j + 2)).toNatClampNeg)) rfl rfl (Nat.le_of_ble_eq_true rfl) (fun r m2 h2 z => ?_)
  obtain ⟨v2, S2, rfl, hr2, hM2, em2, hf2⟩ := z
  rw [em2]
  have hX2 := hX1.fr hf2
  show ab_W _ _ _ _ 452 _ [.int v2, .int v1] _ _ _
  refine aw_icmp_eq (tgt := 1215) d_law_452 (by decide) (fun c452 => ?_) (fun c452 => ?_)
  · first
      | (have eS : S2 = S1 := congrArg Prod.snd (hr2.trans hr1.symm)
         rw [eS] at hM2
         exact nxt _ _ S1 _ ⟨hX2, hM2, by rw [show S1 = _ from congrArg Prod.snd hr1]; exact k_inn ok _ _, by omega, by omega⟩)
  · first
      | exact absurd (congrArg Prod.fst (hr1.trans hr2.symm)) c452
theorem lc_7 (l : Launch) {L : Nat} {xs : Nat → Int32} (hL : L ≤ 384) {j : Nat} (hj : 6 * j + 6 ≤ L) {m : Nat} {hh : ab_H} {S : SS} {us : Nat × Nat} (li : LI j m hh S us) (nxt : ∀ hh2 m2 S2 us2, LI (j + 1) m2 hh2 S2 us2 → ab_W Y_law (some (L, xs)) l lQ 1215 (lL j) [] m2 hh2 us2) : ab_W Y_law (some (L, xs)) l lQ 457 (lL j) [] m hh us := by
  obtain ⟨hX, hM, ok, u1, u2⟩ := li
  refine aw_aload_n d_law_457 rfl ?_
  refine aw_aload_n d_law_458 rfl ?_
  refine aw_iload_n d_law_459 rfl ?_
  refine aw_iconst (v := nI 1) d_law_460 (by decide) ?_
  refine aw_iadd d_law_461 ?_
  rw [nI_add]
  refine aw_ialoadX d_law_462 rfl (vp_in_nI (by omega) (by omega)) ?_
  refine aw_aload_n d_law_463 rfl ?_
  refine aw_iload_n d_law_464 rfl ?_
  refine aw_iconst (v := nI 2) d_law_465 (by decide) ?_
  refine aw_iadd d_law_466 ?_
  rw [nI_add]
  refine aw_ialoadX d_law_467 rfl (vp_in_nI (by omega) (by omega)) ?_
  refine aw_v0 (a := 1) d_law_468 k_Law_44 ok_Coat_set rfl ⟨rfl, rfl⟩ cl_Coat hX.1.1 (x_set hX ok  (xs (nI (6 * j + 1)).toNatClampNeg) (xs (nI (6 * j + 2)).toNatClampNeg)) rfl rfl (Nat.le_of_ble_eq_true rfl) (fun r m2 h2 z => ?_)
  obtain ⟨v1, S1, rfl, hr1, hX1, hm1, hf1⟩ := z
  have hM1 := hM.fr hf1
  obtain ⟨⟨tab, la, at_, wr, ve, fs, ft, m0, _⟩, _⟩ := id hM1
  show ab_W _ _ _ _ 471 _ [.int v1] _ _ _
  refine aw_aload_n d_law_471 rfl ?_
  refine aw_aload_n d_law_472 rfl ?_
  refine aw_iload_n d_law_473 rfl ?_
  refine aw_iconst (v := nI 1) d_law_474 (by decide) ?_
  refine aw_iadd d_law_475 ?_
  rw [nI_add]
  refine aw_ialoadX d_law_476 rfl (vp_in_nI (by omega) (by omega)) ?_
  refine aw_aload_n d_law_477 rfl ?_
  refine aw_iload_n d_law_478 rfl ?_
  refine aw_iconst (v := nI 2) d_law_479 (by decide) ?_
  refine aw_iadd d_law_480 ?_
  rw [nI_add]
  refine aw_ialoadX d_law_481 rfl (vp_in_nI (by omega) (by omega)) ?_
  refine aw_v0 (a := 56) d_law_482 k_Law_47 ok_M_set rfl ⟨rfl, rfl⟩ cl_Model m0 (y_set hM1 ok (by omega)  (xs (nI (6 * j + 1)).toNatClampNeg) (xs (nI (6 * j + 2)).toNatClampNeg)) rfl rfl (Nat.le_of_ble_eq_true rfl) (fun r m2 h2 z => ?_)
  obtain ⟨v2, S2, rfl, hr2, hM2, em2, hf2⟩ := z
  rw [em2]
  have hX2 := hX1.fr hf2
  show ab_W _ _ _ _ 485 _ [.int v2, .int v1] _ _ _
  refine aw_icmp_eq (tgt := 1215) d_law_485 (by decide) (fun c485 => ?_) (fun c485 => ?_)
  · first
      | (have eS : S2 = S1 := congrArg Prod.snd (hr2.trans hr1.symm)
         rw [eS] at hM2
         exact nxt _ _ S1 _ ⟨hX2, hM2, by rw [show S1 = _ from congrArg Prod.snd hr1]; exact k_set ok _ _, by omega, by omega⟩)
  · first
      | exact absurd (congrArg Prod.fst (hr1.trans hr2.symm)) c485
theorem lc_8 (l : Launch) {L : Nat} {xs : Nat → Int32} (hL : L ≤ 384) {j : Nat} (hj : 6 * j + 6 ≤ L) {m : Nat} {hh : ab_H} {S : SS} {us : Nat × Nat} (li : LI j m hh S us) (nxt : ∀ hh2 m2 S2 us2, LI (j + 1) m2 hh2 S2 us2 → ab_W Y_law (some (L, xs)) l lQ 1215 (lL j) [] m2 hh2 us2) : ab_W Y_law (some (L, xs)) l lQ 490 (lL j) [] m hh us := by
  obtain ⟨hX, hM, ok, u1, u2⟩ := li
  refine aw_aload_n d_law_490 rfl ?_
  refine aw_aload_n d_law_491 rfl ?_
  refine aw_iload_n d_law_492 rfl ?_
  refine aw_iconst (v := nI 1) d_law_493 (by decide) ?_
  refine aw_iadd d_law_494 ?_
  rw [nI_add]
  refine aw_ialoadX d_law_495 rfl (vp_in_nI (by omega) (by omega)) ?_
  refine aw_v0 (a := 1) d_law_496 k_Law_48 ok_Coat_count rfl ⟨rfl, rfl⟩ cl_Coat hX.1.1 (x_count hX ok  (xs (nI (6 * j + 1)).toNatClampNeg)) rfl rfl (Nat.le_of_ble_eq_true rfl) (fun r m2 h2 z => ?_)
  obtain ⟨v1, S1, rfl, hr1, hX1, hm1, hf1⟩ := z
  have hM1 := hM.fr hf1
  obtain ⟨⟨tab, la, at_, wr, ve, fs, ft, m0, _⟩, _⟩ := id hM1
  show ab_W _ _ _ _ 499 _ [.int v1] _ _ _
  refine aw_aload_n d_law_499 rfl ?_
  refine aw_aload_n d_law_500 rfl ?_
  refine aw_iload_n d_law_501 rfl ?_
  refine aw_iconst (v := nI 1) d_law_502 (by decide) ?_
  refine aw_iadd d_law_503 ?_
  rw [nI_add]
  refine aw_ialoadX d_law_504 rfl (vp_in_nI (by omega) (by omega)) ?_
  refine aw_v0 (a := 56) d_law_505 k_Law_52 ok_M_count rfl ⟨rfl, rfl⟩ cl_Model m0 (y_count hM1 ok (by omega)  (xs (nI (6 * j + 1)).toNatClampNeg)) rfl rfl (Nat.le_of_ble_eq_true rfl) (fun r m2 h2 z => ?_)
  obtain ⟨v2, S2, rfl, hr2, hM2, em2, hf2⟩ := z
  rw [em2]
  have hX2 := hX1.fr hf2
  show ab_W _ _ _ _ 508 _ [.int v2, .int v1] _ _ _
  refine aw_icmp_eq (tgt := 1215) d_law_508 (by decide) (fun c508 => ?_) (fun c508 => ?_)
  · first
      | (have eS : S2 = S1 := congrArg Prod.snd (hr2.trans hr1.symm)
         rw [eS] at hM2
         exact nxt _ _ S1 _ ⟨hX2, hM2, by rw [show S1 = _ from congrArg Prod.snd hr1]; exact ok, by omega, by omega⟩)
  · first
      | exact absurd (congrArg Prod.fst (hr1.trans hr2.symm)) c508
theorem lc_9 (l : Launch) {L : Nat} {xs : Nat → Int32} (hL : L ≤ 384) {j : Nat} (hj : 6 * j + 6 ≤ L) {m : Nat} {hh : ab_H} {S : SS} {us : Nat × Nat} (li : LI j m hh S us) (nxt : ∀ hh2 m2 S2 us2, LI (j + 1) m2 hh2 S2 us2 → ab_W Y_law (some (L, xs)) l lQ 1215 (lL j) [] m2 hh2 us2) : ab_W Y_law (some (L, xs)) l lQ 513 (lL j) [] m hh us := by
  obtain ⟨hX, hM, ok, u1, u2⟩ := li
  refine aw_aload_n d_law_513 rfl ?_
  refine aw_aload_n d_law_514 rfl ?_
  refine aw_iload_n d_law_515 rfl ?_
  refine aw_iconst (v := nI 1) d_law_516 (by decide) ?_
  refine aw_iadd d_law_517 ?_
  rw [nI_add]
  refine aw_ialoadX d_law_518 rfl (vp_in_nI (by omega) (by omega)) ?_
  refine aw_v0 (a := 1) d_law_519 k_Law_53 ok_Coat_meet rfl ⟨rfl, rfl⟩ cl_Coat hX.1.1 (x_meet hX ok  (xs (nI (6 * j + 1)).toNatClampNeg)) rfl rfl (Nat.le_of_ble_eq_true rfl) (fun r m2 h2 z => ?_)
  obtain ⟨v1, S1, rfl, hr1, hX1, hm1, hf1⟩ := z
  have hM1 := hM.fr hf1
  obtain ⟨⟨tab, la, at_, wr, ve, fs, ft, m0, _⟩, _⟩ := id hM1
  show ab_W _ _ _ _ 522 _ [.int v1] _ _ _
  refine aw_aload_n d_law_522 rfl ?_
  refine aw_aload_n d_law_523 rfl ?_
  refine aw_iload_n d_law_524 rfl ?_
  refine aw_iconst (v := nI 1) d_law_525 (by decide) ?_
  refine aw_iadd d_law_526 ?_
  rw [nI_add]
  refine aw_ialoadX d_law_527 rfl (vp_in_nI (by omega) (by omega)) ?_
  refine aw_v0 (a := 56) d_law_528 k_Law_56 ok_M_meet rfl ⟨rfl, rfl⟩ cl_Model m0 (y_meet hM1 ok (by omega) VX_ok (xs (nI (6 * j + 1)).toNatClampNeg)) rfl rfl (Nat.le_of_ble_eq_true rfl) (fun r m2 h2 z => ?_)
  obtain ⟨v2, S2, rfl, hr2, hM2, em2, hf2⟩ := z
  rw [em2]
  have hX2 := hX1.fr hf2
  show ab_W _ _ _ _ 531 _ [.int v2, .int v1] _ _ _
  refine aw_icmp_eq (tgt := 1215) d_law_531 (by decide) (fun c531 => ?_) (fun c531 => ?_)
  · first
      | (have eS : S2 = S1 := congrArg Prod.snd (hr2.trans hr1.symm)
         rw [eS] at hM2
         exact nxt _ _ S1 _ ⟨hX2, hM2, by rw [show S1 = _ from congrArg Prod.snd hr1]; exact k_meet ok _, by omega, by omega⟩)
  · first
      | exact absurd (congrArg Prod.fst (hr1.trans hr2.symm)) c531
theorem lc_10 (l : Launch) {L : Nat} {xs : Nat → Int32} (hL : L ≤ 384) {j : Nat} (hj : 6 * j + 6 ≤ L) {m : Nat} {hh : ab_H} {S : SS} {us : Nat × Nat} (li : LI j m hh S us) (nxt : ∀ hh2 m2 S2 us2, LI (j + 1) m2 hh2 S2 us2 → ab_W Y_law (some (L, xs)) l lQ 1215 (lL j) [] m2 hh2 us2) : ab_W Y_law (some (L, xs)) l lQ 536 (lL j) [] m hh us := by
  obtain ⟨hX, hM, ok, u1, u2⟩ := li
  refine aw_aload_n d_law_536 rfl ?_
  refine aw_v0 (a := 1) d_law_537 k_Law_57 ok_Coat_well rfl ⟨rfl, rfl⟩ cl_Coat hX.1.1 (x_well hX ok  ) rfl rfl (Nat.le_of_ble_eq_true rfl) (fun r m2 h2 z => ?_)
  obtain ⟨v1, S1, rfl, hr1, hX1, hm1, hf1⟩ := z
  have hM1 := hM.fr hf1
  obtain ⟨⟨tab, la, at_, wr, ve, fs, ft, m0, _⟩, _⟩ := id hM1
  show ab_W _ _ _ _ 540 _ [.int v1] _ _ _
  refine aw_aload_n d_law_540 rfl ?_
  refine aw_v0 (a := 56) d_law_541 k_Law_61 ok_M_well rfl ⟨rfl, rfl⟩ cl_Model m0 (y_well hM1 ok (by omega)  ) rfl rfl (Nat.le_of_ble_eq_true rfl) (fun r m2 h2 z => ?_)
  obtain ⟨v2, S2, rfl, hr2, hM2, em2, hf2⟩ := z
  rw [em2]
  have hX2 := hX1.fr hf2
  show ab_W _ _ _ _ 544 _ [.int v2, .int v1] _ _ _
  refine aw_icmp_eq (tgt := 1215) d_law_544 (by decide) (fun c544 => ?_) (fun c544 => ?_)
  · first
      | (have eS : S2 = S1 := congrArg Prod.snd (hr2.trans hr1.symm)
         rw [eS] at hM2
         exact nxt _ _ S1 _ ⟨hX2, hM2, by rw [show S1 = _ from congrArg Prod.snd hr1]; exact ok, by omega, by omega⟩)
  · first
      | exact absurd (congrArg Prod.fst (hr1.trans hr2.symm)) c544
theorem lc_11 (l : Launch) {L : Nat} {xs : Nat → Int32} (hL : L ≤ 384) {j : Nat} (hj : 6 * j + 6 ≤ L) {m : Nat} {hh : ab_H} {S : SS} {us : Nat × Nat} (li : LI j m hh S us) (nxt : ∀ hh2 m2 S2 us2, LI (j + 1) m2 hh2 S2 us2 → ab_W Y_law (some (L, xs)) l lQ 1215 (lL j) [] m2 hh2 us2) : ab_W Y_law (some (L, xs)) l lQ 549 (lL j) [] m hh us := by
  obtain ⟨hX, hM, ok, u1, u2⟩ := li
  refine aw_aload_n d_law_549 rfl ?_
  refine aw_v0 (a := 1) d_law_550 k_Law_62 ok_Coat_fewest rfl ⟨rfl, rfl⟩ cl_Coat hX.1.1 (x_fewest hX ok  ) rfl rfl (Nat.le_of_ble_eq_true rfl) (fun r m2 h2 z => ?_)
  obtain ⟨v1, S1, rfl, hr1, hX1, hm1, hf1⟩ := z
  have hM1 := hM.fr hf1
  obtain ⟨⟨tab, la, at_, wr, ve, fs, ft, m0, _⟩, _⟩ := id hM1
  show ab_W _ _ _ _ 553 _ [.int v1] _ _ _
  refine aw_aload_n d_law_553 rfl ?_
  refine aw_v0 (a := 56) d_law_554 k_Law_65 ok_M_fewest rfl ⟨rfl, rfl⟩ cl_Model m0 (y_fewest hM1 ok (by omega) rfl ) rfl rfl (Nat.le_of_ble_eq_true rfl) (fun r m2 h2 z => ?_)
  obtain ⟨v2, S2, rfl, hr2, hM2, em2, hf2⟩ := z
  rw [em2]
  have hX2 := hX1.fr hf2
  show ab_W _ _ _ _ 557 _ [.int v2, .int v1] _ _ _
  refine aw_icmp_eq (tgt := 1215) d_law_557 (by decide) (fun c557 => ?_) (fun c557 => ?_)
  · first
      | (have eS : S2 = S1 := hr2.2.trans hr1.2.symm
         rw [eS] at hM2
         exact nxt _ _ S1 _ ⟨hX2, hM2, by rw [hr1.2]; exact ok, by omega, by omega⟩)
  · first
      | exact absurd (hr1.1.eq hr2.1) c557
theorem lc_12 (l : Launch) {L : Nat} {xs : Nat → Int32} (hL : L ≤ 384) {j : Nat} (hj : 6 * j + 6 ≤ L) {m : Nat} {hh : ab_H} {S : SS} {us : Nat × Nat} (li : LI j m hh S us) (nxt : ∀ hh2 m2 S2 us2, LI (j + 1) m2 hh2 S2 us2 → ab_W Y_law (some (L, xs)) l lQ 1215 (lL j) [] m2 hh2 us2) : ab_W Y_law (some (L, xs)) l lQ 562 (lL j) [] m hh us := by
  obtain ⟨hX, hM, ok, u1, u2⟩ := li
  refine aw_aload_n d_law_562 rfl ?_
  refine aw_aload_n d_law_563 rfl ?_
  refine aw_iload_n d_law_564 rfl ?_
  refine aw_iconst (v := nI 1) d_law_565 (by decide) ?_
  refine aw_iadd d_law_566 ?_
  rw [nI_add]
  refine aw_ialoadX d_law_567 rfl (vp_in_nI (by omega) (by omega)) ?_
  refine aw_v0 (a := 1) d_law_568 k_Law_66 ok_Coat_plan rfl ⟨rfl, rfl⟩ cl_Coat hX.1.1 (x_plan hX ok rfl (xs (nI (6 * j + 1)).toNatClampNeg)) rfl rfl (Nat.le_of_ble_eq_true rfl) (fun r m2 h2 z => ?_)
  obtain ⟨v1, S1, rfl, hr1, hX1, hm1, hf1⟩ := z
  have hM1 := hM.fr hf1
  obtain ⟨⟨tab, la, at_, wr, ve, fs, ft, m0, _⟩, _⟩ := id hM1
  show ab_W _ _ _ _ 571 _ [.int v1] _ _ _
  refine aw_aload_n d_law_571 rfl ?_
  refine aw_aload_n d_law_572 rfl ?_
  refine aw_iload_n d_law_573 rfl ?_
  refine aw_iconst (v := nI 1) d_law_574 (by decide) ?_
  refine aw_iadd d_law_575 ?_
  rw [nI_add]
  refine aw_ialoadX d_law_576 rfl (vp_in_nI (by omega) (by omega)) ?_
  refine aw_v0 (a := 56) d_law_577 k_Law_69 ok_M_plan rfl ⟨rfl, rfl⟩ cl_Model m0 (y_plan hM1 ok (by omega) rfl (xs (nI (6 * j + 1)).toNatClampNeg)) rfl rfl (Nat.le_of_ble_eq_true rfl) (fun r m2 h2 z => ?_)
  obtain ⟨v2, S2, rfl, hr2, hM2, em2, hf2⟩ := z
  rw [em2]
  have hX2 := hX1.fr hf2
  show ab_W _ _ _ _ 580 _ [.int v2, .int v1] _ _ _
  refine aw_icmp_eq (tgt := 1215) d_law_580 (by decide) (fun c580 => ?_) (fun c580 => ?_)
  · first
      | (have eS : S2 = S1 := hr2.2.trans hr1.2.symm
         rw [eS] at hM2
         exact nxt _ _ S1 _ ⟨hX2, hM2, by rw [hr1.2]; exact ok, by omega, by omega⟩)
  · first
      | exact absurd (hr1.1.eq hr2.1) c580
theorem lc_13 (l : Launch) {L : Nat} {xs : Nat → Int32} (hL : L ≤ 384) {j : Nat} (hj : 6 * j + 6 ≤ L) {m : Nat} {hh : ab_H} {S : SS} {us : Nat × Nat} (li : LI j m hh S us) (nxt : ∀ hh2 m2 S2 us2, LI (j + 1) m2 hh2 S2 us2 → ab_W Y_law (some (L, xs)) l lQ 1215 (lL j) [] m2 hh2 us2) : ab_W Y_law (some (L, xs)) l lQ 585 (lL j) [] m hh us := by
  obtain ⟨hX, hM, ok, u1, u2⟩ := li
  refine aw_aload_n d_law_585 rfl ?_
  refine aw_aload_n d_law_586 rfl ?_
  refine aw_iload_n d_law_587 rfl ?_
  refine aw_iconst (v := nI 1) d_law_588 (by decide) ?_
  refine aw_iadd d_law_589 ?_
  rw [nI_add]
  refine aw_ialoadX d_law_590 rfl (vp_in_nI (by omega) (by omega)) ?_
  refine aw_v0 (a := 1) d_law_591 k_Law_70 ok_Coat_atOnce rfl ⟨rfl, rfl⟩ cl_Coat hX.1.1 (x_atOnce hX ok rfl (xs (nI (6 * j + 1)).toNatClampNeg)) rfl rfl (Nat.le_of_ble_eq_true rfl) (fun r m2 h2 z => ?_)
  obtain ⟨v1, S1, rfl, hr1, hX1, hm1, hf1⟩ := z
  have hM1 := hM.fr hf1
  obtain ⟨⟨tab, la, at_, wr, ve, fs, ft, m0, _⟩, _⟩ := id hM1
  show ab_W _ _ _ _ 594 _ [.int v1] _ _ _
  refine aw_aload_n d_law_594 rfl ?_
  refine aw_aload_n d_law_595 rfl ?_
  refine aw_iload_n d_law_596 rfl ?_
  refine aw_iconst (v := nI 1) d_law_597 (by decide) ?_
  refine aw_iadd d_law_598 ?_
  rw [nI_add]
  refine aw_ialoadX d_law_599 rfl (vp_in_nI (by omega) (by omega)) ?_
  refine aw_v0 (a := 56) d_law_600 k_Law_73 ok_M_atOnce rfl ⟨rfl, rfl⟩ cl_Model m0 (y_atOnce hM1 ok (by omega)  (xs (nI (6 * j + 1)).toNatClampNeg)) rfl rfl (Nat.le_of_ble_eq_true rfl) (fun r m2 h2 z => ?_)
  obtain ⟨v2, S2, rfl, hr2, hM2, em2, hf2⟩ := z
  rw [em2]
  have hX2 := hX1.fr hf2
  show ab_W _ _ _ _ 603 _ [.int v2, .int v1] _ _ _
  refine aw_icmp_eq (tgt := 1215) d_law_603 (by decide) (fun c603 => ?_) (fun c603 => ?_)
  · first
      | (have eS : S2 = S1 := hr2.2.trans hr1.2.symm
         rw [eS] at hM2
         exact nxt _ _ S1 _ ⟨hX2, hM2, by rw [hr1.2]; exact ok, by omega, by omega⟩)
  · first
      | exact absurd (hr1.1.eq hr2.1) c603
theorem lc_14 (l : Launch) {L : Nat} {xs : Nat → Int32} (hL : L ≤ 384) {j : Nat} (hj : 6 * j + 6 ≤ L) {m : Nat} {hh : ab_H} {S : SS} {us : Nat × Nat} (li : LI j m hh S us) (nxt : ∀ hh2 m2 S2 us2, LI (j + 1) m2 hh2 S2 us2 → ab_W Y_law (some (L, xs)) l lQ 1215 (lL j) [] m2 hh2 us2) : ab_W Y_law (some (L, xs)) l lQ 608 (lL j) [] m hh us := by
  obtain ⟨hX, hM, ok, u1, u2⟩ := li
  refine aw_aload_n d_law_608 rfl ?_
  refine aw_aload_n d_law_609 rfl ?_
  refine aw_iload_n d_law_610 rfl ?_
  refine aw_iconst (v := nI 1) d_law_611 (by decide) ?_
  refine aw_iadd d_law_612 ?_
  rw [nI_add]
  refine aw_ialoadX d_law_613 rfl (vp_in_nI (by omega) (by omega)) ?_
  refine aw_i2l d_law_614 ?_
  refine aw_bipush (v := nI 32) d_law_615 (by decide) ?_
  refine aw_lshl d_law_617 ?_
  refine aw_aload_n d_law_618 rfl ?_
  refine aw_iload_n d_law_619 rfl ?_
  refine aw_iconst (v := nI 2) d_law_620 (by decide) ?_
  refine aw_iadd d_law_621 ?_
  rw [nI_add]
  refine aw_ialoadX d_law_622 rfl (vp_in_nI (by omega) (by omega)) ?_
  refine aw_i2l d_law_623 ?_
  refine aw_ldc2 (v := lN 4294967295) d_law_624 k_Law_74 ?_
  refine aw_land d_law_627 ?_
  refine aw_lor d_law_628 ?_
  refine aw_aload_n d_law_629 rfl ?_
  refine aw_iload_n d_law_630 rfl ?_
  refine aw_iconst (v := nI 3) d_law_631 (by decide) ?_
  refine aw_iadd d_law_632 ?_
  rw [nI_add]
  refine aw_ialoadX d_law_633 rfl (vp_in_nI (by omega) (by omega)) ?_
  refine aw_v0 (a := 1) d_law_634 k_Law_76 ok_Coat_type rfl ⟨rfl, rfl⟩ cl_Coat hX.1.1 (x_type hX ok  ((((xs (nI (6 * j + 1)).toNatClampNeg).toInt64) <<< ((nI 32).toInt64 &&& 63)) ||| (((xs (nI (6 * j + 2)).toNatClampNeg).toInt64) &&& (lN 4294967295))) (xs (nI (6 * j + 3)).toNatClampNeg)) rfl rfl (Nat.le_of_ble_eq_true rfl) (fun r m2 h2 z => ?_)
  obtain ⟨v1, S1, rfl, hr1, hX1, hm1, hf1⟩ := z
  have hM1 := hM.fr hf1
  obtain ⟨⟨tab, la, at_, wr, ve, fs, ft, m0, _⟩, _⟩ := id hM1
  show ab_W _ _ _ _ 637 _ [.int v1] _ _ _
  refine aw_aload_n d_law_637 rfl ?_
  refine aw_aload_n d_law_638 rfl ?_
  refine aw_iload_n d_law_639 rfl ?_
  refine aw_iconst (v := nI 1) d_law_640 (by decide) ?_
  refine aw_iadd d_law_641 ?_
  rw [nI_add]
  refine aw_ialoadX d_law_642 rfl (vp_in_nI (by omega) (by omega)) ?_
  refine aw_i2l d_law_643 ?_
  refine aw_bipush (v := nI 32) d_law_644 (by decide) ?_
  refine aw_lshl d_law_646 ?_
  refine aw_aload_n d_law_647 rfl ?_
  refine aw_iload_n d_law_648 rfl ?_
  refine aw_iconst (v := nI 2) d_law_649 (by decide) ?_
  refine aw_iadd d_law_650 ?_
  rw [nI_add]
  refine aw_ialoadX d_law_651 rfl (vp_in_nI (by omega) (by omega)) ?_
  refine aw_i2l d_law_652 ?_
  refine aw_ldc2 (v := lN 4294967295) d_law_653 k_Law_74 ?_
  refine aw_land d_law_656 ?_
  refine aw_lor d_law_657 ?_
  refine aw_aload_n d_law_658 rfl ?_
  refine aw_iload_n d_law_659 rfl ?_
  refine aw_iconst (v := nI 3) d_law_660 (by decide) ?_
  refine aw_iadd d_law_661 ?_
  rw [nI_add]
  refine aw_ialoadX d_law_662 rfl (vp_in_nI (by omega) (by omega)) ?_
  refine aw_v0 (a := 56) d_law_663 k_Law_80 ok_M_type rfl ⟨rfl, rfl⟩ cl_Model m0 (y_type hM1 ok (by omega)  ((((xs (nI (6 * j + 1)).toNatClampNeg).toInt64) <<< ((nI 32).toInt64 &&& 63)) ||| (((xs (nI (6 * j + 2)).toNatClampNeg).toInt64) &&& (lN 4294967295))) (xs (nI (6 * j + 3)).toNatClampNeg)) rfl rfl (Nat.le_of_ble_eq_true rfl) (fun r m2 h2 z => ?_)
  obtain ⟨v2, S2, rfl, hr2, hM2, em2, hf2⟩ := z
  rw [em2]
  have hX2 := hX1.fr hf2
  show ab_W _ _ _ _ 666 _ [.int v2, .int v1] _ _ _
  refine aw_icmp_eq (tgt := 1215) d_law_666 (by decide) (fun c666 => ?_) (fun c666 => ?_)
  · first
      | (have eS : S2 = S1 := congrArg Prod.snd (hr2.trans hr1.symm)
         rw [eS] at hM2
         exact nxt _ _ S1 _ ⟨hX2, hM2, by rw [show S1 = _ from congrArg Prod.snd hr1]; exact k_typ ok _ _, by omega, by omega⟩)
  · first
      | exact absurd (congrArg Prod.fst (hr1.trans hr2.symm)) c666
theorem lc_15 (l : Launch) {L : Nat} {xs : Nat → Int32} (hL : L ≤ 384) {j : Nat} (hj : 6 * j + 6 ≤ L) {m : Nat} {hh : ab_H} {S : SS} {us : Nat × Nat} (li : LI j m hh S us) (nxt : ∀ hh2 m2 S2 us2, LI (j + 1) m2 hh2 S2 us2 → ab_W Y_law (some (L, xs)) l lQ 1215 (lL j) [] m2 hh2 us2) : ab_W Y_law (some (L, xs)) l lQ 671 (lL j) [] m hh us := by
  obtain ⟨hX, hM, ok, u1, u2⟩ := li
  refine aw_aload_n d_law_671 rfl ?_
  refine aw_v0 (a := 1) d_law_672 k_Law_81 ok_Coat_facts rfl ⟨rfl, rfl⟩ cl_Coat hX.1.1 (x_facts hX ok VX_ok ) rfl rfl (Nat.le_of_ble_eq_true rfl) (fun r m2 h2 z => ?_)
  obtain ⟨v1, S1, rfl, hr1, hX1, hm1, hf1⟩ := z
  have hM1 := hM.fr hf1
  obtain ⟨⟨tab, la, at_, wr, ve, fs, ft, m0, _⟩, _⟩ := id hM1
  show ab_W _ _ _ _ 675 _ [.int v1] _ _ _
  refine aw_aload_n d_law_675 rfl ?_
  refine aw_v0 (a := 56) d_law_676 k_Law_84 ok_M_facts rfl ⟨rfl, rfl⟩ cl_Model m0 (y_facts hM1 ok (by omega) VX_ok ) rfl rfl (Nat.le_of_ble_eq_true rfl) (fun r m2 h2 z => ?_)
  obtain ⟨v2, S2, rfl, hr2, hM2, em2, hf2⟩ := z
  rw [em2]
  have hX2 := hX1.fr hf2
  show ab_W _ _ _ _ 679 _ [.int v2, .int v1] _ _ _
  refine aw_icmp_eq (tgt := 1215) d_law_679 (by decide) (fun c679 => ?_) (fun c679 => ?_)
  · first
      | (have eS : S2 = S1 := congrArg Prod.snd (hr2.trans hr1.symm)
         rw [eS] at hM2
         exact nxt _ _ S1 _ ⟨hX2, hM2, by rw [show S1 = _ from congrArg Prod.snd hr1]; exact k_facts ok, by omega, by omega⟩)
  · first
      | exact absurd (congrArg Prod.fst (hr1.trans hr2.symm)) c679
theorem lc_16 (l : Launch) {L : Nat} {xs : Nat → Int32} (hL : L ≤ 384) {j : Nat} (hj : 6 * j + 6 ≤ L) {m : Nat} {hh : ab_H} {S : SS} {us : Nat × Nat} (li : LI j m hh S us) (nxt : ∀ hh2 m2 S2 us2, LI (j + 1) m2 hh2 S2 us2 → ab_W Y_law (some (L, xs)) l lQ 1215 (lL j) [] m2 hh2 us2) : ab_W Y_law (some (L, xs)) l lQ 684 (lL j) [] m hh us := by
  obtain ⟨hX, hM, ok, u1, u2⟩ := li
  refine aw_aload_n d_law_684 rfl ?_
  refine aw_v0 (a := 1) d_law_685 k_Law_85 ok_Coat_forget rfl ⟨rfl, rfl⟩ cl_Coat hX.1.1 (x_forget hX ok VX_ok ) rfl rfl (Nat.le_of_ble_eq_true rfl) (fun r m2 h2 z => ?_)
  obtain ⟨v1, S1, rfl, hr1, hX1, hm1, hf1⟩ := z
  have hM1 := hM.fr hf1
  obtain ⟨⟨tab, la, at_, wr, ve, fs, ft, m0, _⟩, _⟩ := id hM1
  show ab_W _ _ _ _ 688 _ [.int v1] _ _ _
  refine aw_aload_n d_law_688 rfl ?_
  refine aw_v0 (a := 56) d_law_689 k_Law_88 ok_M_forget rfl ⟨rfl, rfl⟩ cl_Model m0 (y_forget hM1 ok (by omega) VX_ok ) rfl rfl (Nat.le_of_ble_eq_true rfl) (fun r m2 h2 z => ?_)
  obtain ⟨v2, S2, rfl, hr2, hM2, em2, hf2⟩ := z
  rw [em2]
  have hX2 := hX1.fr hf2
  show ab_W _ _ _ _ 692 _ [.int v2, .int v1] _ _ _
  refine aw_icmp_eq (tgt := 1215) d_law_692 (by decide) (fun c692 => ?_) (fun c692 => ?_)
  · first
      | (have eS : S2 = S1 := congrArg Prod.snd (hr2.trans hr1.symm)
         rw [eS] at hM2
         exact nxt _ _ S1 _ ⟨hX2, hM2, by rw [show S1 = _ from congrArg Prod.snd hr1]; exact k_forget ok, by omega, by omega⟩)
  · first
      | exact absurd (congrArg Prod.fst (hr1.trans hr2.symm)) c692
theorem lc_17 (l : Launch) {L : Nat} {xs : Nat → Int32} (hL : L ≤ 384) {j : Nat} (hj : 6 * j + 6 ≤ L) {m : Nat} {hh : ab_H} {S : SS} {us : Nat × Nat} (li : LI j m hh S us) (nxt : ∀ hh2 m2 S2 us2, LI (j + 1) m2 hh2 S2 us2 → ab_W Y_law (some (L, xs)) l lQ 1215 (lL j) [] m2 hh2 us2) : ab_W Y_law (some (L, xs)) l lQ 697 (lL j) [] m hh us := by
  obtain ⟨hX, hM, ok, u1, u2⟩ := li
  refine aw_aload_n d_law_697 rfl ?_
  refine aw_aload_n d_law_698 rfl ?_
  refine aw_iload_n d_law_699 rfl ?_
  refine aw_iconst (v := nI 1) d_law_700 (by decide) ?_
  refine aw_iadd d_law_701 ?_
  rw [nI_add]
  refine aw_ialoadX d_law_702 rfl (vp_in_nI (by omega) (by omega)) ?_
  refine aw_aload_n d_law_703 rfl ?_
  refine aw_iload_n d_law_704 rfl ?_
  refine aw_iconst (v := nI 2) d_law_705 (by decide) ?_
  refine aw_iadd d_law_706 ?_
  rw [nI_add]
  refine aw_ialoadX d_law_707 rfl (vp_in_nI (by omega) (by omega)) ?_
  refine aw_v0 (a := 1) d_law_708 k_Law_89 ok_Coat_may rfl ⟨rfl, rfl⟩ cl_Coat hX.1.1 (x_may hX ok  (xs (nI (6 * j + 1)).toNatClampNeg) (xs (nI (6 * j + 2)).toNatClampNeg)) rfl rfl (Nat.le_of_ble_eq_true rfl) (fun r m2 h2 z => ?_)
  obtain ⟨v1, S1, rfl, hr1, hX1, hm1, hf1⟩ := z
  have hM1 := hM.fr hf1
  obtain ⟨⟨tab, la, at_, wr, ve, fs, ft, m0, _⟩, _⟩ := id hM1
  show ab_W _ _ _ _ 711 _ [.int v1] _ _ _
  refine aw_aload_n d_law_711 rfl ?_
  refine aw_aload_n d_law_712 rfl ?_
  refine aw_iload_n d_law_713 rfl ?_
  refine aw_iconst (v := nI 1) d_law_714 (by decide) ?_
  refine aw_iadd d_law_715 ?_
  rw [nI_add]
  refine aw_ialoadX d_law_716 rfl (vp_in_nI (by omega) (by omega)) ?_
  refine aw_aload_n d_law_717 rfl ?_
  refine aw_iload_n d_law_718 rfl ?_
  refine aw_iconst (v := nI 2) d_law_719 (by decide) ?_
  refine aw_iadd d_law_720 ?_
  rw [nI_add]
  refine aw_ialoadX d_law_721 rfl (vp_in_nI (by omega) (by omega)) ?_
  refine aw_v0 (a := 56) d_law_722 k_Law_92 ok_M_may rfl ⟨rfl, rfl⟩ cl_Model m0 (y_may hM1 ok (by omega)  (xs (nI (6 * j + 1)).toNatClampNeg) (xs (nI (6 * j + 2)).toNatClampNeg)) rfl rfl (Nat.le_of_ble_eq_true rfl) (fun r m2 h2 z => ?_)
  obtain ⟨v2, S2, rfl, hr2, hM2, em2, hf2⟩ := z
  rw [em2]
  have hX2 := hX1.fr hf2
  show ab_W _ _ _ _ 725 _ [.int v2, .int v1] _ _ _
  refine aw_icmp_eq (tgt := 1215) d_law_725 (by decide) (fun c725 => ?_) (fun c725 => ?_)
  · first
      | (have eS : S2 = S1 := congrArg Prod.snd (hr2.trans hr1.symm)
         rw [eS] at hM2
         exact nxt _ _ S1 _ ⟨hX2, hM2, by rw [show S1 = _ from congrArg Prod.snd hr1]; show S_ok (Prod.snd _); rw [k_may]; exact ok, by omega, by omega⟩)
  · first
      | exact absurd (congrArg Prod.fst (hr1.trans hr2.symm)) c725
theorem lc_18 (l : Launch) {L : Nat} {xs : Nat → Int32} (hL : L ≤ 384) {j : Nat} (hj : 6 * j + 6 ≤ L) {m : Nat} {hh : ab_H} {S : SS} {us : Nat × Nat} (li : LI j m hh S us) (nxt : ∀ hh2 m2 S2 us2, LI (j + 1) m2 hh2 S2 us2 → ab_W Y_law (some (L, xs)) l lQ 1215 (lL j) [] m2 hh2 us2) : ab_W Y_law (some (L, xs)) l lQ 730 (lL j) [] m hh us := by
  obtain ⟨hX, hM, ok, u1, u2⟩ := li
  refine aw_aload_n d_law_730 rfl ?_
  refine aw_v0 (a := 1) d_law_731 k_Law_93 ok_Coat_worlds rfl ⟨rfl, rfl⟩ cl_Coat hX.1.1 (x_worlds hX ok  ) rfl rfl (Nat.le_of_ble_eq_true rfl) (fun r m2 h2 z => ?_)
  obtain ⟨v1, S1, rfl, hr1, hX1, hm1, hf1⟩ := z
  have hM1 := hM.fr hf1
  obtain ⟨⟨tab, la, at_, wr, ve, fs, ft, m0, _⟩, _⟩ := id hM1
  show ab_W _ _ _ _ 734 _ [.int v1] _ _ _
  refine aw_aload_n d_law_734 rfl ?_
  refine aw_v0 (a := 56) d_law_735 k_Law_96 ok_M_worlds rfl ⟨rfl, rfl⟩ cl_Model m0 (y_worlds hM1 ok (by omega)  ) rfl rfl (Nat.le_of_ble_eq_true rfl) (fun r m2 h2 z => ?_)
  obtain ⟨v2, S2, rfl, hr2, hM2, em2, hf2⟩ := z
  rw [em2]
  have hX2 := hX1.fr hf2
  show ab_W _ _ _ _ 738 _ [.int v2, .int v1] _ _ _
  refine aw_icmp_eq (tgt := 1215) d_law_738 (by decide) (fun c738 => ?_) (fun c738 => ?_)
  · first
      | (have eS : S2 = S1 := congrArg Prod.snd (hr2.trans hr1.symm)
         rw [eS] at hM2
         exact nxt _ _ S1 _ ⟨hX2, hM2, by rw [show S1 = _ from congrArg Prod.snd hr1]; exact ok, by omega, by omega⟩)
  · first
      | exact absurd (congrArg Prod.fst (hr1.trans hr2.symm)) c738
theorem lc_19 (l : Launch) {L : Nat} {xs : Nat → Int32} (hL : L ≤ 384) {j : Nat} (hj : 6 * j + 6 ≤ L) {m : Nat} {hh : ab_H} {S : SS} {us : Nat × Nat} (li : LI j m hh S us) (nxt : ∀ hh2 m2 S2 us2, LI (j + 1) m2 hh2 S2 us2 → ab_W Y_law (some (L, xs)) l lQ 1215 (lL j) [] m2 hh2 us2) : ab_W Y_law (some (L, xs)) l lQ 743 (lL j) [] m hh us := by
  obtain ⟨hX, hM, ok, u1, u2⟩ := li
  refine aw_aload_n d_law_743 rfl ?_
  refine aw_aload_n d_law_744 rfl ?_
  refine aw_iload_n d_law_745 rfl ?_
  refine aw_iconst (v := nI 1) d_law_746 (by decide) ?_
  refine aw_iadd d_law_747 ?_
  rw [nI_add]
  refine aw_ialoadX d_law_748 rfl (vp_in_nI (by omega) (by omega)) ?_
  refine aw_v0 (a := 1) d_law_749 k_Law_97 ok_Coat_sure rfl ⟨rfl, rfl⟩ cl_Coat hX.1.1 (x_sure hX ok  (xs (nI (6 * j + 1)).toNatClampNeg)) rfl rfl (Nat.le_of_ble_eq_true rfl) (fun r m2 h2 z => ?_)
  obtain ⟨v1, S1, rfl, hr1, hX1, hm1, hf1⟩ := z
  have hM1 := hM.fr hf1
  obtain ⟨⟨tab, la, at_, wr, ve, fs, ft, m0, _⟩, _⟩ := id hM1
  show ab_W _ _ _ _ 752 _ [.int v1] _ _ _
  refine aw_aload_n d_law_752 rfl ?_
  refine aw_aload_n d_law_753 rfl ?_
  refine aw_iload_n d_law_754 rfl ?_
  refine aw_iconst (v := nI 1) d_law_755 (by decide) ?_
  refine aw_iadd d_law_756 ?_
  rw [nI_add]
  refine aw_ialoadX d_law_757 rfl (vp_in_nI (by omega) (by omega)) ?_
  refine aw_v0 (a := 56) d_law_758 k_Law_100 ok_M_sure rfl ⟨rfl, rfl⟩ cl_Model m0 (y_sure hM1 ok (by omega)  (xs (nI (6 * j + 1)).toNatClampNeg)) rfl rfl (Nat.le_of_ble_eq_true rfl) (fun r m2 h2 z => ?_)
  obtain ⟨v2, S2, rfl, hr2, hM2, em2, hf2⟩ := z
  rw [em2]
  have hX2 := hX1.fr hf2
  show ab_W _ _ _ _ 761 _ [.int v2, .int v1] _ _ _
  refine aw_icmp_eq (tgt := 1215) d_law_761 (by decide) (fun c761 => ?_) (fun c761 => ?_)
  · first
      | (have eS : S2 = S1 := congrArg Prod.snd (hr2.trans hr1.symm)
         rw [eS] at hM2
         exact nxt _ _ S1 _ ⟨hX2, hM2, by rw [show S1 = _ from congrArg Prod.snd hr1]; show S_ok (Prod.snd _); rw [k_sure]; exact ok, by omega, by omega⟩)
  · first
      | exact absurd (congrArg Prod.fst (hr1.trans hr2.symm)) c761
theorem lc_20 (l : Launch) {L : Nat} {xs : Nat → Int32} (hL : L ≤ 384) {j : Nat} (hj : 6 * j + 6 ≤ L) {m : Nat} {hh : ab_H} {S : SS} {us : Nat × Nat} (li : LI j m hh S us) (nxt : ∀ hh2 m2 S2 us2, LI (j + 1) m2 hh2 S2 us2 → ab_W Y_law (some (L, xs)) l lQ 1215 (lL j) [] m2 hh2 us2) : ab_W Y_law (some (L, xs)) l lQ 766 (lL j) [] m hh us := by
  obtain ⟨hX, hM, ok, u1, u2⟩ := li
  refine aw_aload_n d_law_766 rfl ?_
  refine aw_aload_n d_law_767 rfl ?_
  refine aw_iload_n d_law_768 rfl ?_
  refine aw_iconst (v := nI 1) d_law_769 (by decide) ?_
  refine aw_iadd d_law_770 ?_
  rw [nI_add]
  refine aw_ialoadX d_law_771 rfl (vp_in_nI (by omega) (by omega)) ?_
  refine aw_v0 (a := 1) d_law_772 k_Law_101 ok_Coat_next rfl ⟨rfl, rfl⟩ cl_Coat hX.1.1 (x_next hX ok  (xs (nI (6 * j + 1)).toNatClampNeg)) rfl rfl (Nat.le_of_ble_eq_true rfl) (fun r m2 h2 z => ?_)
  obtain ⟨v1, S1, rfl, hr1, hX1, hm1, hf1⟩ := z
  have hM1 := hM.fr hf1
  obtain ⟨⟨tab, la, at_, wr, ve, fs, ft, m0, _⟩, _⟩ := id hM1
  show ab_W _ _ _ _ 775 _ [.int v1] _ _ _
  refine aw_aload_n d_law_775 rfl ?_
  refine aw_aload_n d_law_776 rfl ?_
  refine aw_iload_n d_law_777 rfl ?_
  refine aw_iconst (v := nI 1) d_law_778 (by decide) ?_
  refine aw_iadd d_law_779 ?_
  rw [nI_add]
  refine aw_ialoadX d_law_780 rfl (vp_in_nI (by omega) (by omega)) ?_
  refine aw_v0 (a := 56) d_law_781 k_Law_104 ok_M_next rfl ⟨rfl, rfl⟩ cl_Model m0 (y_next hM1 ok (by omega)  (xs (nI (6 * j + 1)).toNatClampNeg)) rfl rfl (Nat.le_of_ble_eq_true rfl) (fun r m2 h2 z => ?_)
  obtain ⟨v2, S2, rfl, hr2, hM2, em2, hf2⟩ := z
  rw [em2]
  have hX2 := hX1.fr hf2
  show ab_W _ _ _ _ 784 _ [.int v2, .int v1] _ _ _
  refine aw_icmp_eq (tgt := 1215) d_law_784 (by decide) (fun c784 => ?_) (fun c784 => ?_)
  · first
      | (have eS : S2 = S1 := congrArg Prod.snd (hr2.trans hr1.symm)
         rw [eS] at hM2
         exact nxt _ _ S1 _ ⟨hX2, hM2, by rw [show S1 = _ from congrArg Prod.snd hr1]; show S_ok (Prod.snd _); rw [k_next]; exact ok, by omega, by omega⟩)
  · first
      | exact absurd (congrArg Prod.fst (hr1.trans hr2.symm)) c784
theorem lc_21 (l : Launch) {L : Nat} {xs : Nat → Int32} (hL : L ≤ 384) {j : Nat} (hj : 6 * j + 6 ≤ L) {m : Nat} {hh : ab_H} {S : SS} {us : Nat × Nat} (li : LI j m hh S us) (nxt : ∀ hh2 m2 S2 us2, LI (j + 1) m2 hh2 S2 us2 → ab_W Y_law (some (L, xs)) l lQ 1215 (lL j) [] m2 hh2 us2) : ab_W Y_law (some (L, xs)) l lQ 789 (lL j) [] m hh us := by
  obtain ⟨hX, hM, ok, u1, u2⟩ := li
  refine aw_aload_n d_law_789 rfl ?_
  refine aw_aload_n d_law_790 rfl ?_
  refine aw_iload_n d_law_791 rfl ?_
  refine aw_iconst (v := nI 1) d_law_792 (by decide) ?_
  refine aw_iadd d_law_793 ?_
  rw [nI_add]
  refine aw_ialoadX d_law_794 rfl (vp_in_nI (by omega) (by omega)) ?_
  refine aw_aload_n d_law_795 rfl ?_
  refine aw_iload_n d_law_796 rfl ?_
  refine aw_iconst (v := nI 2) d_law_797 (by decide) ?_
  refine aw_iadd d_law_798 ?_
  rw [nI_add]
  refine aw_ialoadX d_law_799 rfl (vp_in_nI (by omega) (by omega)) ?_
  refine aw_invv (a := 1) d_law_800 k_Law_105 ok_Coat_explained rfl cl_Coat hX.1.1 rfl rfl (Nat.le_of_ble_eq_true rfl) ⟨show us.1 + 5 ≤ 600000 by omega, show us.2 + 1537 ≤ 7302250 by omega⟩ (x_explained hX ok rfl (xs (nI (6 * j + 1)).toNatClampNeg) (xs (nI (6 * j + 2)).toNatClampNeg)) (fun r m2 h2 z => ?_)
  obtain ⟨v1, S1, rfl, hr1, hX1, hm1, hf1⟩ := z
  have hM1 := hM.fr hf1
  obtain ⟨⟨tab, la, at_, wr, ve, fs, ft, m0, _⟩, _⟩ := id hM1
  show ab_W _ _ _ _ 803 _ [.int v1] _ _ _
  refine aw_aload_n d_law_803 rfl ?_
  refine aw_aload_n d_law_804 rfl ?_
  refine aw_iload_n d_law_805 rfl ?_
  refine aw_iconst (v := nI 1) d_law_806 (by decide) ?_
  refine aw_iadd d_law_807 ?_
  rw [nI_add]
  refine aw_ialoadX d_law_808 rfl (vp_in_nI (by omega) (by omega)) ?_
  refine aw_aload_n d_law_809 rfl ?_
  refine aw_iload_n d_law_810 rfl ?_
  refine aw_iconst (v := nI 2) d_law_811 (by decide) ?_
  refine aw_iadd d_law_812 ?_
  rw [nI_add]
  refine aw_ialoadX d_law_813 rfl (vp_in_nI (by omega) (by omega)) ?_
  refine aw_v0 (a := 56) d_law_814 k_Law_108 ok_M_explained rfl ⟨rfl, rfl⟩ cl_Model m0 (y_explained hM1 ok (by omega)  (xs (nI (6 * j + 1)).toNatClampNeg) (xs (nI (6 * j + 2)).toNatClampNeg)) rfl rfl (Nat.le_of_ble_eq_true rfl) (fun r m2 h2 z => ?_)
  obtain ⟨v2, S2, rfl, hr2, hM2, em2, hf2⟩ := z
  rw [em2]
  have hX2 := hX1.fr hf2
  show ab_W _ _ _ _ 817 _ [.int v2, .int v1] _ _ _
  refine aw_icmp_eq (tgt := 1215) d_law_817 (by decide) (fun c817 => ?_) (fun c817 => ?_)
  · first
      | (have eS : S2 = S1 := congrArg Prod.snd (hr2.trans hr1.symm)
         rw [eS] at hM2
         exact nxt _ _ S1 _ ⟨hX2, hM2, by rw [show S1 = _ from congrArg Prod.snd hr1]; show S_ok (Prod.snd _); rw [k_explained]; exact ok, by show us.1 + 5 ≤ _; omega, by show us.2 + 1537 ≤ _; omega⟩)
  · first
      | exact absurd (congrArg Prod.fst (hr1.trans hr2.symm)) c817
theorem lc_22 (l : Launch) {L : Nat} {xs : Nat → Int32} (hL : L ≤ 384) {j : Nat} (hj : 6 * j + 6 ≤ L) {m : Nat} {hh : ab_H} {S : SS} {us : Nat × Nat} (li : LI j m hh S us) (nxt : ∀ hh2 m2 S2 us2, LI (j + 1) m2 hh2 S2 us2 → ab_W Y_law (some (L, xs)) l lQ 1215 (lL j) [] m2 hh2 us2) : ab_W Y_law (some (L, xs)) l lQ 822 (lL j) [] m hh us := by
  obtain ⟨hX, hM, ok, u1, u2⟩ := li
  refine aw_aload_n d_law_822 rfl ?_
  refine aw_aload_n d_law_823 rfl ?_
  refine aw_iload_n d_law_824 rfl ?_
  refine aw_iconst (v := nI 1) d_law_825 (by decide) ?_
  refine aw_iadd d_law_826 ?_
  rw [nI_add]
  refine aw_ialoadX d_law_827 rfl (vp_in_nI (by omega) (by omega)) ?_
  refine aw_aload_n d_law_828 rfl ?_
  refine aw_iload_n d_law_829 rfl ?_
  refine aw_iconst (v := nI 2) d_law_830 (by decide) ?_
  refine aw_iadd d_law_831 ?_
  rw [nI_add]
  refine aw_ialoadX d_law_832 rfl (vp_in_nI (by omega) (by omega)) ?_
  refine aw_aload_n d_law_833 rfl ?_
  refine aw_iload_n d_law_834 rfl ?_
  refine aw_iconst (v := nI 3) d_law_835 (by decide) ?_
  refine aw_iadd d_law_836 ?_
  rw [nI_add]
  refine aw_ialoadX d_law_837 rfl (vp_in_nI (by omega) (by omega)) ?_
  refine aw_v0 (a := 1) d_law_838 k_Law_109 ok_Coat_fear rfl ⟨rfl, rfl⟩ cl_Coat hX.1.1 (x_fear hX ok  (xs (nI (6 * j + 1)).toNatClampNeg) (xs (nI (6 * j + 2)).toNatClampNeg) (xs (nI (6 * j + 3)).toNatClampNeg)) rfl rfl (Nat.le_of_ble_eq_true rfl) (fun r m2 h2 z => ?_)
  obtain ⟨v1, S1, rfl, hr1, hX1, hm1, hf1⟩ := z
  have hM1 := hM.fr hf1
  obtain ⟨⟨tab, la, at_, wr, ve, fs, ft, m0, _⟩, _⟩ := id hM1
  show ab_W _ _ _ _ 841 _ [.int v1] _ _ _
  refine aw_aload_n d_law_841 rfl ?_
  refine aw_aload_n d_law_842 rfl ?_
  refine aw_iload_n d_law_843 rfl ?_
  refine aw_iconst (v := nI 1) d_law_844 (by decide) ?_
  refine aw_iadd d_law_845 ?_
  rw [nI_add]
  refine aw_ialoadX d_law_846 rfl (vp_in_nI (by omega) (by omega)) ?_
  refine aw_aload_n d_law_847 rfl ?_
  refine aw_iload_n d_law_848 rfl ?_
  refine aw_iconst (v := nI 2) d_law_849 (by decide) ?_
  refine aw_iadd d_law_850 ?_
  rw [nI_add]
  refine aw_ialoadX d_law_851 rfl (vp_in_nI (by omega) (by omega)) ?_
  refine aw_aload_n d_law_852 rfl ?_
  refine aw_iload_n d_law_853 rfl ?_
  refine aw_iconst (v := nI 3) d_law_854 (by decide) ?_
  refine aw_iadd d_law_855 ?_
  rw [nI_add]
  refine aw_ialoadX d_law_856 rfl (vp_in_nI (by omega) (by omega)) ?_
  refine aw_v0 (a := 56) d_law_857 k_Law_112 ok_M_fear rfl ⟨rfl, rfl⟩ cl_Model m0 (y_fear hM1 ok (by omega) VX_ok (xs (nI (6 * j + 1)).toNatClampNeg) (xs (nI (6 * j + 2)).toNatClampNeg) (xs (nI (6 * j + 3)).toNatClampNeg)) rfl rfl (Nat.le_of_ble_eq_true rfl) (fun r m2 h2 z => ?_)
  obtain ⟨v2, S2, rfl, hr2, hM2, em2, hf2⟩ := z
  rw [em2]
  have hX2 := hX1.fr hf2
  show ab_W _ _ _ _ 860 _ [.int v2, .int v1] _ _ _
  refine aw_icmp_eq (tgt := 1215) d_law_860 (by decide) (fun c860 => ?_) (fun c860 => ?_)
  · first
      | (have eS : S2 = S1 := congrArg Prod.snd (hr2.trans hr1.symm)
         rw [eS] at hM2
         exact nxt _ _ S1 _ ⟨hX2, hM2, by rw [show S1 = _ from congrArg Prod.snd hr1]; exact k_fear ok _ _ _, by omega, by omega⟩)
  · first
      | exact absurd (congrArg Prod.fst (hr1.trans hr2.symm)) c860
theorem lc_23 (l : Launch) {L : Nat} {xs : Nat → Int32} (hL : L ≤ 384) {j : Nat} (hj : 6 * j + 6 ≤ L) {m : Nat} {hh : ab_H} {S : SS} {us : Nat × Nat} (li : LI j m hh S us) (nxt : ∀ hh2 m2 S2 us2, LI (j + 1) m2 hh2 S2 us2 → ab_W Y_law (some (L, xs)) l lQ 1215 (lL j) [] m2 hh2 us2) : ab_W Y_law (some (L, xs)) l lQ 865 (lL j) [] m hh us := by
  obtain ⟨hX, hM, ok, u1, u2⟩ := li
  refine aw_aload_n d_law_865 rfl ?_
  refine aw_aload_n d_law_866 rfl ?_
  refine aw_iload_n d_law_867 rfl ?_
  refine aw_iconst (v := nI 1) d_law_868 (by decide) ?_
  refine aw_iadd d_law_869 ?_
  rw [nI_add]
  refine aw_ialoadX d_law_870 rfl (vp_in_nI (by omega) (by omega)) ?_
  refine aw_aload_n d_law_871 rfl ?_
  refine aw_iload_n d_law_872 rfl ?_
  refine aw_iconst (v := nI 2) d_law_873 (by decide) ?_
  refine aw_iadd d_law_874 ?_
  rw [nI_add]
  refine aw_ialoadX d_law_875 rfl (vp_in_nI (by omega) (by omega)) ?_
  refine aw_aload_n d_law_876 rfl ?_
  refine aw_iload_n d_law_877 rfl ?_
  refine aw_iconst (v := nI 3) d_law_878 (by decide) ?_
  refine aw_iadd d_law_879 ?_
  rw [nI_add]
  refine aw_ialoadX d_law_880 rfl (vp_in_nI (by omega) (by omega)) ?_
  refine aw_aload_n d_law_881 rfl ?_
  refine aw_iload_n d_law_882 rfl ?_
  refine aw_iconst (v := nI 4) d_law_883 (by decide) ?_
  refine aw_iadd d_law_884 ?_
  rw [nI_add]
  refine aw_ialoadX d_law_885 rfl (vp_in_nI (by omega) (by omega)) ?_
  refine aw_v0 (a := 1) d_law_886 k_Law_113 ok_Coat_harm rfl ⟨rfl, rfl⟩ cl_Coat hX.1.1 (x_harm hX ok  (xs (nI (6 * j + 1)).toNatClampNeg) (xs (nI (6 * j + 2)).toNatClampNeg) (xs (nI (6 * j + 3)).toNatClampNeg) (xs (nI (6 * j + 4)).toNatClampNeg)) rfl rfl (Nat.le_of_ble_eq_true rfl) (fun r m2 h2 z => ?_)
  obtain ⟨v1, S1, rfl, hr1, hX1, hm1, hf1⟩ := z
  have hM1 := hM.fr hf1
  obtain ⟨⟨tab, la, at_, wr, ve, fs, ft, m0, _⟩, _⟩ := id hM1
  show ab_W _ _ _ _ 889 _ [.int v1] _ _ _
  refine aw_aload_n d_law_889 rfl ?_
  refine aw_aload_n d_law_890 rfl ?_
  refine aw_iload_n d_law_891 rfl ?_
  refine aw_iconst (v := nI 1) d_law_892 (by decide) ?_
  refine aw_iadd d_law_893 ?_
  rw [nI_add]
  refine aw_ialoadX d_law_894 rfl (vp_in_nI (by omega) (by omega)) ?_
  refine aw_aload_n d_law_895 rfl ?_
  refine aw_iload_n d_law_896 rfl ?_
  refine aw_iconst (v := nI 2) d_law_897 (by decide) ?_
  refine aw_iadd d_law_898 ?_
  rw [nI_add]
  refine aw_ialoadX d_law_899 rfl (vp_in_nI (by omega) (by omega)) ?_
  refine aw_aload_n d_law_900 rfl ?_
  refine aw_iload_n d_law_901 rfl ?_
  refine aw_iconst (v := nI 3) d_law_902 (by decide) ?_
  refine aw_iadd d_law_903 ?_
  rw [nI_add]
  refine aw_ialoadX d_law_904 rfl (vp_in_nI (by omega) (by omega)) ?_
  refine aw_aload_n d_law_905 rfl ?_
  refine aw_iload_n d_law_906 rfl ?_
  refine aw_iconst (v := nI 4) d_law_907 (by decide) ?_
  refine aw_iadd d_law_908 ?_
  rw [nI_add]
  refine aw_ialoadX d_law_909 rfl (vp_in_nI (by omega) (by omega)) ?_
  refine aw_v0 (a := 56) d_law_910 k_Law_117 ok_M_harm rfl ⟨rfl, rfl⟩ cl_Model m0 (y_harm hM1 ok (by omega)  (xs (nI (6 * j + 1)).toNatClampNeg) (xs (nI (6 * j + 2)).toNatClampNeg) (xs (nI (6 * j + 3)).toNatClampNeg) (xs (nI (6 * j + 4)).toNatClampNeg)) rfl rfl (Nat.le_of_ble_eq_true rfl) (fun r m2 h2 z => ?_)
  obtain ⟨v2, S2, rfl, hr2, hM2, em2, hf2⟩ := z
  rw [em2]
  have hX2 := hX1.fr hf2
  show ab_W _ _ _ _ 913 _ [.int v2, .int v1] _ _ _
  refine aw_icmp_eq (tgt := 1215) d_law_913 (by decide) (fun c913 => ?_) (fun c913 => ?_)
  · first
      | (have eS : S2 = S1 := congrArg Prod.snd (hr2.trans hr1.symm)
         rw [eS] at hM2
         exact nxt _ _ S1 _ ⟨hX2, hM2, by rw [show S1 = _ from congrArg Prod.snd hr1]; show S_ok (Prod.snd _); rw [k_harm]; exact ok, by omega, by omega⟩)
  · first
      | exact absurd (congrArg Prod.fst (hr1.trans hr2.symm)) c913
theorem lc_24 (l : Launch) {L : Nat} {xs : Nat → Int32} (hL : L ≤ 384) {j : Nat} (hj : 6 * j + 6 ≤ L) {m : Nat} {hh : ab_H} {S : SS} {us : Nat × Nat} (li : LI j m hh S us) (nxt : ∀ hh2 m2 S2 us2, LI (j + 1) m2 hh2 S2 us2 → ab_W Y_law (some (L, xs)) l lQ 1215 (lL j) [] m2 hh2 us2) : ab_W Y_law (some (L, xs)) l lQ 918 (lL j) [] m hh us := by
  obtain ⟨hX, hM, ok, u1, u2⟩ := li
  refine aw_aload_n d_law_918 rfl ?_
  refine aw_aload_n d_law_919 rfl ?_
  refine aw_iload_n d_law_920 rfl ?_
  refine aw_iconst (v := nI 1) d_law_921 (by decide) ?_
  refine aw_iadd d_law_922 ?_
  rw [nI_add]
  refine aw_ialoadX d_law_923 rfl (vp_in_nI (by omega) (by omega)) ?_
  refine aw_v0 (a := 1) d_law_924 k_Law_118 ok_Coat_best rfl ⟨rfl, rfl⟩ cl_Coat hX.1.1 (x_best hX ok rfl (xs (nI (6 * j + 1)).toNatClampNeg)) rfl rfl (Nat.le_of_ble_eq_true rfl) (fun r m2 h2 z => ?_)
  obtain ⟨v1, S1, rfl, hr1, hX1, hm1, hf1⟩ := z
  have hM1 := hM.fr hf1
  obtain ⟨⟨tab, la, at_, wr, ve, fs, ft, m0, _⟩, _⟩ := id hM1
  show ab_W _ _ _ _ 927 _ [.int v1] _ _ _
  refine aw_aload_n d_law_927 rfl ?_
  refine aw_aload_n d_law_928 rfl ?_
  refine aw_iload_n d_law_929 rfl ?_
  refine aw_iconst (v := nI 1) d_law_930 (by decide) ?_
  refine aw_iadd d_law_931 ?_
  rw [nI_add]
  refine aw_ialoadX d_law_932 rfl (vp_in_nI (by omega) (by omega)) ?_
  refine aw_v0 (a := 56) d_law_933 k_Law_121 ok_M_best rfl ⟨rfl, rfl⟩ cl_Model m0 (y_best hM1 ok (by omega)  (xs (nI (6 * j + 1)).toNatClampNeg)) rfl rfl (Nat.le_of_ble_eq_true rfl) (fun r m2 h2 z => ?_)
  obtain ⟨v2, S2, rfl, hr2, hM2, em2, hf2⟩ := z
  rw [em2]
  have hX2 := hX1.fr hf2
  show ab_W _ _ _ _ 936 _ [.int v2, .int v1] _ _ _
  refine aw_icmp_eq (tgt := 1215) d_law_936 (by decide) (fun c936 => ?_) (fun c936 => ?_)
  · first
      | (have eS : S2 = S1 := congrArg Prod.snd (hr2.trans hr1.symm)
         rw [eS] at hM2
         exact nxt _ _ S1 _ ⟨hX2, hM2, by rw [show S1 = _ from congrArg Prod.snd hr1]; show S_ok (Prod.snd _); rw [k_best]; exact ok, by omega, by omega⟩)
  · first
      | exact absurd (congrArg Prod.fst (hr1.trans hr2.symm)) c936
theorem lc_25 (l : Launch) {L : Nat} {xs : Nat → Int32} (hL : L ≤ 384) {j : Nat} (hj : 6 * j + 6 ≤ L) {m : Nat} {hh : ab_H} {S : SS} {us : Nat × Nat} (li : LI j m hh S us) (nxt : ∀ hh2 m2 S2 us2, LI (j + 1) m2 hh2 S2 us2 → ab_W Y_law (some (L, xs)) l lQ 1215 (lL j) [] m2 hh2 us2) : ab_W Y_law (some (L, xs)) l lQ 941 (lL j) [] m hh us := by
  obtain ⟨hX, hM, ok, u1, u2⟩ := li
  refine aw_aload_n d_law_941 rfl ?_
  refine aw_aload_n d_law_942 rfl ?_
  refine aw_iload_n d_law_943 rfl ?_
  refine aw_iconst (v := nI 1) d_law_944 (by decide) ?_
  refine aw_iadd d_law_945 ?_
  rw [nI_add]
  refine aw_ialoadX d_law_946 rfl (vp_in_nI (by omega) (by omega)) ?_
  refine aw_v0 (a := 1) d_law_947 k_Law_122 ok_Coat_trade rfl ⟨rfl, rfl⟩ cl_Coat hX.1.1 (x_trade hX ok  (xs (nI (6 * j + 1)).toNatClampNeg)) rfl rfl (Nat.le_of_ble_eq_true rfl) (fun r m2 h2 z => ?_)
  obtain ⟨v1, S1, rfl, hr1, hX1, hm1, hf1⟩ := z
  have hM1 := hM.fr hf1
  obtain ⟨⟨tab, la, at_, wr, ve, fs, ft, m0, _⟩, _⟩ := id hM1
  show ab_W _ _ _ _ 950 _ [.int v1] _ _ _
  refine aw_aload_n d_law_950 rfl ?_
  refine aw_aload_n d_law_951 rfl ?_
  refine aw_iload_n d_law_952 rfl ?_
  refine aw_iconst (v := nI 1) d_law_953 (by decide) ?_
  refine aw_iadd d_law_954 ?_
  rw [nI_add]
  refine aw_ialoadX d_law_955 rfl (vp_in_nI (by omega) (by omega)) ?_
  refine aw_v0 (a := 56) d_law_956 k_Law_125 ok_M_trade rfl ⟨rfl, rfl⟩ cl_Model m0 (y_trade hM1 ok (by omega)  (xs (nI (6 * j + 1)).toNatClampNeg)) rfl rfl (Nat.le_of_ble_eq_true rfl) (fun r m2 h2 z => ?_)
  obtain ⟨v2, S2, rfl, hr2, hM2, em2, hf2⟩ := z
  rw [em2]
  have hX2 := hX1.fr hf2
  show ab_W _ _ _ _ 959 _ [.int v2, .int v1] _ _ _
  refine aw_icmp_eq (tgt := 1215) d_law_959 (by decide) (fun c959 => ?_) (fun c959 => ?_)
  · first
      | (have eS : S2 = S1 := congrArg Prod.snd (hr2.trans hr1.symm)
         rw [eS] at hM2
         exact nxt _ _ S1 _ ⟨hX2, hM2, by rw [show S1 = _ from congrArg Prod.snd hr1]; show S_ok (Prod.snd _); rw [k_trade]; exact ok, by omega, by omega⟩)
  · first
      | exact absurd (congrArg Prod.fst (hr1.trans hr2.symm)) c959
theorem lc_26 (l : Launch) {L : Nat} {xs : Nat → Int32} (hL : L ≤ 384) {j : Nat} (hj : 6 * j + 6 ≤ L) {m : Nat} {hh : ab_H} {S : SS} {us : Nat × Nat} (li : LI j m hh S us) (nxt : ∀ hh2 m2 S2 us2, LI (j + 1) m2 hh2 S2 us2 → ab_W Y_law (some (L, xs)) l lQ 1215 (lL j) [] m2 hh2 us2) : ab_W Y_law (some (L, xs)) l lQ 964 (lL j) [] m hh us := by
  obtain ⟨hX, hM, ok, u1, u2⟩ := li
  refine aw_aload_n d_law_964 rfl ?_
  refine aw_aload_n d_law_965 rfl ?_
  refine aw_iload_n d_law_966 rfl ?_
  refine aw_iconst (v := nI 1) d_law_967 (by decide) ?_
  refine aw_iadd d_law_968 ?_
  rw [nI_add]
  refine aw_ialoadX d_law_969 rfl (vp_in_nI (by omega) (by omega)) ?_
  refine aw_aload_n d_law_970 rfl ?_
  refine aw_iload_n d_law_971 rfl ?_
  refine aw_iconst (v := nI 2) d_law_972 (by decide) ?_
  refine aw_iadd d_law_973 ?_
  rw [nI_add]
  refine aw_ialoadX d_law_974 rfl (vp_in_nI (by omega) (by omega)) ?_
  refine aw_aload_n d_law_975 rfl ?_
  refine aw_iload_n d_law_976 rfl ?_
  refine aw_iconst (v := nI 3) d_law_977 (by decide) ?_
  refine aw_iadd d_law_978 ?_
  rw [nI_add]
  refine aw_ialoadX d_law_979 rfl (vp_in_nI (by omega) (by omega)) ?_
  refine aw_v0 (a := 1) d_law_980 k_Law_126 ok_Coat_blocks rfl ⟨rfl, rfl⟩ cl_Coat hX.1.1 (x_blocks hX ok  (xs (nI (6 * j + 1)).toNatClampNeg) (xs (nI (6 * j + 2)).toNatClampNeg) (xs (nI (6 * j + 3)).toNatClampNeg)) rfl rfl (Nat.le_of_ble_eq_true rfl) (fun r m2 h2 z => ?_)
  obtain ⟨v1, S1, rfl, hr1, hX1, hm1, hf1⟩ := z
  have hM1 := hM.fr hf1
  obtain ⟨⟨tab, la, at_, wr, ve, fs, ft, m0, _⟩, _⟩ := id hM1
  show ab_W _ _ _ _ 983 _ [.int v1] _ _ _
  refine aw_aload_n d_law_983 rfl ?_
  refine aw_aload_n d_law_984 rfl ?_
  refine aw_iload_n d_law_985 rfl ?_
  refine aw_iconst (v := nI 1) d_law_986 (by decide) ?_
  refine aw_iadd d_law_987 ?_
  rw [nI_add]
  refine aw_ialoadX d_law_988 rfl (vp_in_nI (by omega) (by omega)) ?_
  refine aw_aload_n d_law_989 rfl ?_
  refine aw_iload_n d_law_990 rfl ?_
  refine aw_iconst (v := nI 2) d_law_991 (by decide) ?_
  refine aw_iadd d_law_992 ?_
  rw [nI_add]
  refine aw_ialoadX d_law_993 rfl (vp_in_nI (by omega) (by omega)) ?_
  refine aw_aload_n d_law_994 rfl ?_
  refine aw_iload_n d_law_995 rfl ?_
  refine aw_iconst (v := nI 3) d_law_996 (by decide) ?_
  refine aw_iadd d_law_997 ?_
  rw [nI_add]
  refine aw_ialoadX d_law_998 rfl (vp_in_nI (by omega) (by omega)) ?_
  refine aw_v0 (a := 56) d_law_999 k_Law_129 ok_M_blocks rfl ⟨rfl, rfl⟩ cl_Model m0 (y_blocks hM1 ok (by omega)  (xs (nI (6 * j + 1)).toNatClampNeg) (xs (nI (6 * j + 2)).toNatClampNeg) (xs (nI (6 * j + 3)).toNatClampNeg)) rfl rfl (Nat.le_of_ble_eq_true rfl) (fun r m2 h2 z => ?_)
  obtain ⟨v2, S2, rfl, hr2, hM2, em2, hf2⟩ := z
  rw [em2]
  have hX2 := hX1.fr hf2
  show ab_W _ _ _ _ 1002 _ [.int v2, .int v1] _ _ _
  refine aw_icmp_eq (tgt := 1215) d_law_1002 (by decide) (fun c1002 => ?_) (fun c1002 => ?_)
  · first
      | (have eS : S2 = S1 := congrArg Prod.snd (hr2.trans hr1.symm)
         rw [eS] at hM2
         exact nxt _ _ S1 _ ⟨hX2, hM2, by rw [show S1 = _ from congrArg Prod.snd hr1]; show S_ok (Prod.snd _); rw [k_blocks]; exact ok, by omega, by omega⟩)
  · first
      | exact absurd (congrArg Prod.fst (hr1.trans hr2.symm)) c1002
theorem lc_27 (l : Launch) {L : Nat} {xs : Nat → Int32} (hL : L ≤ 384) {j : Nat} (hj : 6 * j + 6 ≤ L) {m : Nat} {hh : ab_H} {S : SS} {us : Nat × Nat} (li : LI j m hh S us) (nxt : ∀ hh2 m2 S2 us2, LI (j + 1) m2 hh2 S2 us2 → ab_W Y_law (some (L, xs)) l lQ 1215 (lL j) [] m2 hh2 us2) : ab_W Y_law (some (L, xs)) l lQ 1007 (lL j) [] m hh us := by
  obtain ⟨hX, hM, ok, u1, u2⟩ := li
  refine aw_aload_n d_law_1007 rfl ?_
  refine aw_v0 (a := 1) d_law_1008 k_Law_130 ok_Coat_image rfl ⟨rfl, rfl⟩ cl_Coat hX.1.1 (x_image hX ok  ) rfl rfl (Nat.le_of_ble_eq_true rfl) (fun r m2 h2 z => ?_)
  obtain ⟨v1, S1, rfl, hr1, hX1, hm1, hf1⟩ := z
  have hM1 := hM.fr hf1
  obtain ⟨⟨tab, la, at_, wr, ve, fs, ft, m0, _⟩, _⟩ := id hM1
  show ab_W _ _ _ _ 1011 _ [.int v1] _ _ _
  refine aw_aload_n d_law_1011 rfl ?_
  refine aw_v0 (a := 56) d_law_1012 k_Law_133 ok_M_image rfl ⟨rfl, rfl⟩ cl_Model m0 (y_image hM1 ok (by omega)  ) rfl rfl (Nat.le_of_ble_eq_true rfl) (fun r m2 h2 z => ?_)
  obtain ⟨v2, S2, rfl, hr2, hM2, em2, hf2⟩ := z
  rw [em2]
  have hX2 := hX1.fr hf2
  show ab_W _ _ _ _ 1015 _ [.int v2, .int v1] _ _ _
  refine aw_icmp_eq (tgt := 1215) d_law_1015 (by decide) (fun c1015 => ?_) (fun c1015 => ?_)
  · first
      | (have eS : S2 = S1 := congrArg Prod.snd (hr2.trans hr1.symm)
         rw [eS] at hM2
         exact nxt _ _ S1 _ ⟨hX2, hM2, by rw [show S1 = _ from congrArg Prod.snd hr1]; exact k_image ok, by omega, by omega⟩)
  · first
      | exact absurd (congrArg Prod.fst (hr1.trans hr2.symm)) c1015
theorem lc_28 (l : Launch) {L : Nat} {xs : Nat → Int32} (hL : L ≤ 384) {j : Nat} (hj : 6 * j + 6 ≤ L) {m : Nat} {hh : ab_H} {S : SS} {us : Nat × Nat} (li : LI j m hh S us) (nxt : ∀ hh2 m2 S2 us2, LI (j + 1) m2 hh2 S2 us2 → ab_W Y_law (some (L, xs)) l lQ 1215 (lL j) [] m2 hh2 us2) : ab_W Y_law (some (L, xs)) l lQ 1020 (lL j) [] m hh us := by
  obtain ⟨hX, hM, ok, u1, u2⟩ := li
  refine aw_aload_n d_law_1020 rfl ?_
  refine aw_v0 (a := 1) d_law_1021 k_Law_134 ok_Coat_restore rfl ⟨rfl, rfl⟩ cl_Coat hX.1.1 (x_restore hX ok  ) rfl rfl (Nat.le_of_ble_eq_true rfl) (fun r m2 h2 z => ?_)
  obtain ⟨v1, S1, rfl, hr1, hX1, hm1, hf1⟩ := z
  have hM1 := hM.fr hf1
  obtain ⟨⟨tab, la, at_, wr, ve, fs, ft, m0, _⟩, _⟩ := id hM1
  show ab_W _ _ _ _ 1024 _ [.int v1] _ _ _
  refine aw_aload_n d_law_1024 rfl ?_
  refine aw_v0 (a := 56) d_law_1025 k_Law_137 ok_M_restore rfl ⟨rfl, rfl⟩ cl_Model m0 (y_restore hM1 ok (by omega)  ) rfl rfl (Nat.le_of_ble_eq_true rfl) (fun r m2 h2 z => ?_)
  obtain ⟨v2, S2, rfl, hr2, hM2, em2, hf2⟩ := z
  rw [em2]
  have hX2 := hX1.fr hf2
  show ab_W _ _ _ _ 1028 _ [.int v2, .int v1] _ _ _
  refine aw_icmp_eq (tgt := 1215) d_law_1028 (by decide) (fun c1028 => ?_) (fun c1028 => ?_)
  · first
      | (have eS : S2 = S1 := congrArg Prod.snd (hr2.trans hr1.symm)
         rw [eS] at hM2
         exact nxt _ _ S1 _ ⟨hX2, hM2, by rw [show S1 = _ from congrArg Prod.snd hr1]; exact k_restore ok, by omega, by omega⟩)
  · first
      | exact absurd (congrArg Prod.fst (hr1.trans hr2.symm)) c1028
theorem lc_29 (l : Launch) {L : Nat} {xs : Nat → Int32} (hL : L ≤ 384) {j : Nat} (hj : 6 * j + 6 ≤ L) {m : Nat} {hh : ab_H} {S : SS} {us : Nat × Nat} (li : LI j m hh S us) (nxt : ∀ hh2 m2 S2 us2, LI (j + 1) m2 hh2 S2 us2 → ab_W Y_law (some (L, xs)) l lQ 1215 (lL j) [] m2 hh2 us2) : ab_W Y_law (some (L, xs)) l lQ 1033 (lL j) [] m hh us := by
  obtain ⟨hX, hM, ok, u1, u2⟩ := li
  refine aw_aload_n d_law_1033 rfl ?_
  refine aw_aload_n d_law_1034 rfl ?_
  refine aw_iload_n d_law_1035 rfl ?_
  refine aw_iconst (v := nI 1) d_law_1036 (by decide) ?_
  refine aw_iadd d_law_1037 ?_
  rw [nI_add]
  refine aw_ialoadX d_law_1038 rfl (vp_in_nI (by omega) (by omega)) ?_
  refine aw_aload_n d_law_1039 rfl ?_
  refine aw_iload_n d_law_1040 rfl ?_
  refine aw_iconst (v := nI 2) d_law_1041 (by decide) ?_
  refine aw_iadd d_law_1042 ?_
  rw [nI_add]
  refine aw_ialoadX d_law_1043 rfl (vp_in_nI (by omega) (by omega)) ?_
  refine aw_aload_n d_law_1044 rfl ?_
  refine aw_iload_n d_law_1045 rfl ?_
  refine aw_iconst (v := nI 3) d_law_1046 (by decide) ?_
  refine aw_iadd d_law_1047 ?_
  rw [nI_add]
  refine aw_ialoadX d_law_1048 rfl (vp_in_nI (by omega) (by omega)) ?_
  refine aw_v0 (a := 1) d_law_1049 k_Law_138 ok_Coat_sheet rfl ⟨rfl, rfl⟩ cl_Coat hX.1.1 (x_sheet hX ok  (xs (nI (6 * j + 1)).toNatClampNeg) (xs (nI (6 * j + 2)).toNatClampNeg) (xs (nI (6 * j + 3)).toNatClampNeg)) rfl rfl (Nat.le_of_ble_eq_true rfl) (fun r m2 h2 z => ?_)
  obtain ⟨v1, S1, rfl, hr1, hX1, hm1, hf1⟩ := z
  have hM1 := hM.fr hf1
  obtain ⟨⟨tab, la, at_, wr, ve, fs, ft, m0, _⟩, _⟩ := id hM1
  show ab_W _ _ _ _ 1052 _ [.int v1] _ _ _
  refine aw_aload_n d_law_1052 rfl ?_
  refine aw_aload_n d_law_1053 rfl ?_
  refine aw_iload_n d_law_1054 rfl ?_
  refine aw_iconst (v := nI 1) d_law_1055 (by decide) ?_
  refine aw_iadd d_law_1056 ?_
  rw [nI_add]
  refine aw_ialoadX d_law_1057 rfl (vp_in_nI (by omega) (by omega)) ?_
  refine aw_aload_n d_law_1058 rfl ?_
  refine aw_iload_n d_law_1059 rfl ?_
  refine aw_iconst (v := nI 2) d_law_1060 (by decide) ?_
  refine aw_iadd d_law_1061 ?_
  rw [nI_add]
  refine aw_ialoadX d_law_1062 rfl (vp_in_nI (by omega) (by omega)) ?_
  refine aw_aload_n d_law_1063 rfl ?_
  refine aw_iload_n d_law_1064 rfl ?_
  refine aw_iconst (v := nI 3) d_law_1065 (by decide) ?_
  refine aw_iadd d_law_1066 ?_
  rw [nI_add]
  refine aw_ialoadX d_law_1067 rfl (vp_in_nI (by omega) (by omega)) ?_
  refine aw_v0 (a := 56) d_law_1068 k_Law_141 ok_M_sheet rfl ⟨rfl, rfl⟩ cl_Model m0 (y_sheet hM1 ok (by omega)  (xs (nI (6 * j + 1)).toNatClampNeg) (xs (nI (6 * j + 2)).toNatClampNeg) (xs (nI (6 * j + 3)).toNatClampNeg)) rfl rfl (Nat.le_of_ble_eq_true rfl) (fun r m2 h2 z => ?_)
  obtain ⟨v2, S2, rfl, hr2, hM2, em2, hf2⟩ := z
  rw [em2]
  have hX2 := hX1.fr hf2
  show ab_W _ _ _ _ 1071 _ [.int v2, .int v1] _ _ _
  refine aw_icmp_eq (tgt := 1215) d_law_1071 (by decide) (fun c1071 => ?_) (fun c1071 => ?_)
  · first
      | (have eS : S2 = S1 := congrArg Prod.snd (hr2.trans hr1.symm)
         rw [eS] at hM2
         exact nxt _ _ S1 _ ⟨hX2, hM2, by rw [show S1 = _ from congrArg Prod.snd hr1]; exact k_sheet ok _ _ _, by omega, by omega⟩)
  · first
      | exact absurd (congrArg Prod.fst (hr1.trans hr2.symm)) c1071
theorem lc_30 (l : Launch) {L : Nat} {xs : Nat → Int32} (hL : L ≤ 384) {j : Nat} (hj : 6 * j + 6 ≤ L) {m : Nat} {hh : ab_H} {S : SS} {us : Nat × Nat} (li : LI j m hh S us) (nxt : ∀ hh2 m2 S2 us2, LI (j + 1) m2 hh2 S2 us2 → ab_W Y_law (some (L, xs)) l lQ 1215 (lL j) [] m2 hh2 us2) : ab_W Y_law (some (L, xs)) l lQ 1076 (lL j) [] m hh us := by
  obtain ⟨hX, hM, ok, u1, u2⟩ := li
  refine aw_aload_n d_law_1076 rfl ?_
  refine aw_aload_n d_law_1077 rfl ?_
  refine aw_iload_n d_law_1078 rfl ?_
  refine aw_iconst (v := nI 1) d_law_1079 (by decide) ?_
  refine aw_iadd d_law_1080 ?_
  rw [nI_add]
  refine aw_ialoadX d_law_1081 rfl (vp_in_nI (by omega) (by omega)) ?_
  refine aw_v0 (a := 1) d_law_1082 k_Law_142 ok_Coat_drop rfl ⟨rfl, rfl⟩ cl_Coat hX.1.1 (x_drop hX ok  (xs (nI (6 * j + 1)).toNatClampNeg)) rfl rfl (Nat.le_of_ble_eq_true rfl) (fun r m2 h2 z => ?_)
  obtain ⟨v1, S1, rfl, hr1, hX1, hm1, hf1⟩ := z
  have hM1 := hM.fr hf1
  obtain ⟨⟨tab, la, at_, wr, ve, fs, ft, m0, _⟩, _⟩ := id hM1
  show ab_W _ _ _ _ 1085 _ [.int v1] _ _ _
  refine aw_aload_n d_law_1085 rfl ?_
  refine aw_aload_n d_law_1086 rfl ?_
  refine aw_iload_n d_law_1087 rfl ?_
  refine aw_iconst (v := nI 1) d_law_1088 (by decide) ?_
  refine aw_iadd d_law_1089 ?_
  rw [nI_add]
  refine aw_ialoadX d_law_1090 rfl (vp_in_nI (by omega) (by omega)) ?_
  refine aw_v0 (a := 56) d_law_1091 k_Law_145 ok_M_drop rfl ⟨rfl, rfl⟩ cl_Model m0 (y_drop hM1 ok (by omega)  (xs (nI (6 * j + 1)).toNatClampNeg)) rfl rfl (Nat.le_of_ble_eq_true rfl) (fun r m2 h2 z => ?_)
  obtain ⟨v2, S2, rfl, hr2, hM2, em2, hf2⟩ := z
  rw [em2]
  have hX2 := hX1.fr hf2
  show ab_W _ _ _ _ 1094 _ [.int v2, .int v1] _ _ _
  refine aw_icmp_eq (tgt := 1215) d_law_1094 (by decide) (fun c1094 => ?_) (fun c1094 => ?_)
  · first
      | (have eS : S2 = S1 := congrArg Prod.snd (hr2.trans hr1.symm)
         rw [eS] at hM2
         exact nxt _ _ S1 _ ⟨hX2, hM2, by rw [show S1 = _ from congrArg Prod.snd hr1]; exact k_drop ok _, by omega, by omega⟩)
  · first
      | exact absurd (congrArg Prod.fst (hr1.trans hr2.symm)) c1094
theorem lc_31 (l : Launch) {L : Nat} {xs : Nat → Int32} (hL : L ≤ 384) {j : Nat} (hj : 6 * j + 6 ≤ L) {m : Nat} {hh : ab_H} {S : SS} {us : Nat × Nat} (li : LI j m hh S us) (nxt : ∀ hh2 m2 S2 us2, LI (j + 1) m2 hh2 S2 us2 → ab_W Y_law (some (L, xs)) l lQ 1215 (lL j) [] m2 hh2 us2) : ab_W Y_law (some (L, xs)) l lQ 1099 (lL j) [] m hh us := by
  obtain ⟨hX, hM, ok, u1, u2⟩ := li
  refine aw_aload_n d_law_1099 rfl ?_
  refine aw_aload_n d_law_1100 rfl ?_
  refine aw_iload_n d_law_1101 rfl ?_
  refine aw_iconst (v := nI 1) d_law_1102 (by decide) ?_
  refine aw_iadd d_law_1103 ?_
  rw [nI_add]
  refine aw_ialoadX d_law_1104 rfl (vp_in_nI (by omega) (by omega)) ?_
  refine aw_aload_n d_law_1105 rfl ?_
  refine aw_iload_n d_law_1106 rfl ?_
  refine aw_iconst (v := nI 2) d_law_1107 (by decide) ?_
  refine aw_iadd d_law_1108 ?_
  rw [nI_add]
  refine aw_ialoadX d_law_1109 rfl (vp_in_nI (by omega) (by omega)) ?_
  refine aw_aload_n d_law_1110 rfl ?_
  refine aw_iload_n d_law_1111 rfl ?_
  refine aw_iconst (v := nI 3) d_law_1112 (by decide) ?_
  refine aw_iadd d_law_1113 ?_
  rw [nI_add]
  refine aw_ialoadX d_law_1114 rfl (vp_in_nI (by omega) (by omega)) ?_
  refine aw_aload_n d_law_1115 rfl ?_
  refine aw_iload_n d_law_1116 rfl ?_
  refine aw_iconst (v := nI 4) d_law_1117 (by decide) ?_
  refine aw_iadd d_law_1118 ?_
  rw [nI_add]
  refine aw_ialoadX d_law_1119 rfl (vp_in_nI (by omega) (by omega)) ?_
  refine aw_v0 (a := 1) d_law_1120 k_Law_146 ok_Coat_item rfl ⟨rfl, rfl⟩ cl_Coat hX.1.1 (x_item hX ok  (xs (nI (6 * j + 1)).toNatClampNeg) (xs (nI (6 * j + 2)).toNatClampNeg) (xs (nI (6 * j + 3)).toNatClampNeg) (xs (nI (6 * j + 4)).toNatClampNeg)) rfl rfl (Nat.le_of_ble_eq_true rfl) (fun r m2 h2 z => ?_)
  obtain ⟨v1, S1, rfl, hr1, hX1, hm1, hf1⟩ := z
  have hM1 := hM.fr hf1
  obtain ⟨⟨tab, la, at_, wr, ve, fs, ft, m0, _⟩, _⟩ := id hM1
  show ab_W _ _ _ _ 1123 _ [.int v1] _ _ _
  refine aw_aload_n d_law_1123 rfl ?_
  refine aw_aload_n d_law_1124 rfl ?_
  refine aw_iload_n d_law_1125 rfl ?_
  refine aw_iconst (v := nI 1) d_law_1126 (by decide) ?_
  refine aw_iadd d_law_1127 ?_
  rw [nI_add]
  refine aw_ialoadX d_law_1128 rfl (vp_in_nI (by omega) (by omega)) ?_
  refine aw_aload_n d_law_1129 rfl ?_
  refine aw_iload_n d_law_1130 rfl ?_
  refine aw_iconst (v := nI 2) d_law_1131 (by decide) ?_
  refine aw_iadd d_law_1132 ?_
  rw [nI_add]
  refine aw_ialoadX d_law_1133 rfl (vp_in_nI (by omega) (by omega)) ?_
  refine aw_aload_n d_law_1134 rfl ?_
  refine aw_iload_n d_law_1135 rfl ?_
  refine aw_iconst (v := nI 3) d_law_1136 (by decide) ?_
  refine aw_iadd d_law_1137 ?_
  rw [nI_add]
  refine aw_ialoadX d_law_1138 rfl (vp_in_nI (by omega) (by omega)) ?_
  refine aw_aload_n d_law_1139 rfl ?_
  refine aw_iload_n d_law_1140 rfl ?_
  refine aw_iconst (v := nI 4) d_law_1141 (by decide) ?_
  refine aw_iadd d_law_1142 ?_
  rw [nI_add]
  refine aw_ialoadX d_law_1143 rfl (vp_in_nI (by omega) (by omega)) ?_
  refine aw_v0 (a := 56) d_law_1144 k_Law_149 ok_M_item rfl ⟨rfl, rfl⟩ cl_Model m0 (y_item hM1 ok (by omega)  (xs (nI (6 * j + 1)).toNatClampNeg) (xs (nI (6 * j + 2)).toNatClampNeg) (xs (nI (6 * j + 3)).toNatClampNeg) (xs (nI (6 * j + 4)).toNatClampNeg)) rfl rfl (Nat.le_of_ble_eq_true rfl) (fun r m2 h2 z => ?_)
  obtain ⟨v2, S2, rfl, hr2, hM2, em2, hf2⟩ := z
  rw [em2]
  have hX2 := hX1.fr hf2
  show ab_W _ _ _ _ 1147 _ [.int v2, .int v1] _ _ _
  refine aw_icmp_eq (tgt := 1215) d_law_1147 (by decide) (fun c1147 => ?_) (fun c1147 => ?_)
  · first
      | (have eS : S2 = S1 := congrArg Prod.snd (hr2.trans hr1.symm)
         rw [eS] at hM2
         exact nxt _ _ S1 _ ⟨hX2, hM2, by rw [show S1 = _ from congrArg Prod.snd hr1]; exact k_item ok _ _ _ _, by omega, by omega⟩)
  · first
      | exact absurd (congrArg Prod.fst (hr1.trans hr2.symm)) c1147
theorem lc_32 (l : Launch) {L : Nat} {xs : Nat → Int32} (hL : L ≤ 384) {j : Nat} (hj : 6 * j + 6 ≤ L) {m : Nat} {hh : ab_H} {S : SS} {us : Nat × Nat} (li : LI j m hh S us) (nxt : ∀ hh2 m2 S2 us2, LI (j + 1) m2 hh2 S2 us2 → ab_W Y_law (some (L, xs)) l lQ 1215 (lL j) [] m2 hh2 us2) : ab_W Y_law (some (L, xs)) l lQ 1152 (lL j) [] m hh us := by
  obtain ⟨hX, hM, ok, u1, u2⟩ := li
  refine aw_aload_n d_law_1152 rfl ?_
  refine aw_aload_n d_law_1153 rfl ?_
  refine aw_iload_n d_law_1154 rfl ?_
  refine aw_iconst (v := nI 1) d_law_1155 (by decide) ?_
  refine aw_iadd d_law_1156 ?_
  rw [nI_add]
  refine aw_ialoadX d_law_1157 rfl (vp_in_nI (by omega) (by omega)) ?_
  refine aw_aload_n d_law_1158 rfl ?_
  refine aw_iload_n d_law_1159 rfl ?_
  refine aw_iconst (v := nI 2) d_law_1160 (by decide) ?_
  refine aw_iadd d_law_1161 ?_
  rw [nI_add]
  refine aw_ialoadX d_law_1162 rfl (vp_in_nI (by omega) (by omega)) ?_
  refine aw_aload_n d_law_1163 rfl ?_
  refine aw_iload_n d_law_1164 rfl ?_
  refine aw_iconst (v := nI 3) d_law_1165 (by decide) ?_
  refine aw_iadd d_law_1166 ?_
  rw [nI_add]
  refine aw_ialoadX d_law_1167 rfl (vp_in_nI (by omega) (by omega)) ?_
  refine aw_aload_n d_law_1168 rfl ?_
  refine aw_iload_n d_law_1169 rfl ?_
  refine aw_iconst (v := nI 4) d_law_1170 (by decide) ?_
  refine aw_iadd d_law_1171 ?_
  rw [nI_add]
  refine aw_ialoadX d_law_1172 rfl (vp_in_nI (by omega) (by omega)) ?_
  refine aw_aload_n d_law_1173 rfl ?_
  refine aw_iload_n d_law_1174 rfl ?_
  refine aw_iconst (v := nI 5) d_law_1175 (by decide) ?_
  refine aw_iadd d_law_1176 ?_
  rw [nI_add]
  refine aw_ialoadX d_law_1177 rfl (vp_in_nI (by omega) (by omega)) ?_
  refine aw_v0 (a := 1) d_law_1178 k_Law_150 ok_Coat_copy rfl ⟨rfl, rfl⟩ cl_Coat hX.1.1 (x_copy hX ok  (xs (nI (6 * j + 1)).toNatClampNeg) (xs (nI (6 * j + 2)).toNatClampNeg) (xs (nI (6 * j + 3)).toNatClampNeg) (xs (nI (6 * j + 4)).toNatClampNeg) (xs (nI (6 * j + 5)).toNatClampNeg)) rfl rfl (Nat.le_of_ble_eq_true rfl) (fun r m2 h2 z => ?_)
  obtain ⟨v1, S1, rfl, hr1, hX1, hm1, hf1⟩ := z
  have hM1 := hM.fr hf1
  obtain ⟨⟨tab, la, at_, wr, ve, fs, ft, m0, _⟩, _⟩ := id hM1
  show ab_W _ _ _ _ 1181 _ [.int v1] _ _ _
  refine aw_aload_n d_law_1181 rfl ?_
  refine aw_aload_n d_law_1182 rfl ?_
  refine aw_iload_n d_law_1183 rfl ?_
  refine aw_iconst (v := nI 1) d_law_1184 (by decide) ?_
  refine aw_iadd d_law_1185 ?_
  rw [nI_add]
  refine aw_ialoadX d_law_1186 rfl (vp_in_nI (by omega) (by omega)) ?_
  refine aw_aload_n d_law_1187 rfl ?_
  refine aw_iload_n d_law_1188 rfl ?_
  refine aw_iconst (v := nI 2) d_law_1189 (by decide) ?_
  refine aw_iadd d_law_1190 ?_
  rw [nI_add]
  refine aw_ialoadX d_law_1191 rfl (vp_in_nI (by omega) (by omega)) ?_
  refine aw_aload_n d_law_1192 rfl ?_
  refine aw_iload_n d_law_1193 rfl ?_
  refine aw_iconst (v := nI 3) d_law_1194 (by decide) ?_
  refine aw_iadd d_law_1195 ?_
  rw [nI_add]
  refine aw_ialoadX d_law_1196 rfl (vp_in_nI (by omega) (by omega)) ?_
  refine aw_aload_n d_law_1197 rfl ?_
  refine aw_iload_n d_law_1198 rfl ?_
  refine aw_iconst (v := nI 4) d_law_1199 (by decide) ?_
  refine aw_iadd d_law_1200 ?_
  rw [nI_add]
  refine aw_ialoadX d_law_1201 rfl (vp_in_nI (by omega) (by omega)) ?_
  refine aw_aload_n d_law_1202 rfl ?_
  refine aw_iload_n d_law_1203 rfl ?_
  refine aw_iconst (v := nI 5) d_law_1204 (by decide) ?_
  refine aw_iadd d_law_1205 ?_
  rw [nI_add]
  refine aw_ialoadX d_law_1206 rfl (vp_in_nI (by omega) (by omega)) ?_
  refine aw_v0 (a := 56) d_law_1207 k_Law_154 ok_M_copy rfl ⟨rfl, rfl⟩ cl_Model m0 (y_copy hM1 ok (by omega)  (xs (nI (6 * j + 1)).toNatClampNeg) (xs (nI (6 * j + 2)).toNatClampNeg) (xs (nI (6 * j + 3)).toNatClampNeg) (xs (nI (6 * j + 4)).toNatClampNeg) (xs (nI (6 * j + 5)).toNatClampNeg)) rfl rfl (Nat.le_of_ble_eq_true rfl) (fun r m2 h2 z => ?_)
  obtain ⟨v2, S2, rfl, hr2, hM2, em2, hf2⟩ := z
  rw [em2]
  have hX2 := hX1.fr hf2
  show ab_W _ _ _ _ 1210 _ [.int v2, .int v1] _ _ _
  refine aw_icmp_eq (tgt := 1215) d_law_1210 (by decide) (fun c1210 => ?_) (fun c1210 => ?_)
  · first
      | (have eS : S2 = S1 := congrArg Prod.snd (hr2.trans hr1.symm)
         rw [eS] at hM2
         exact nxt _ _ S1 _ ⟨hX2, hM2, by rw [show S1 = _ from congrArg Prod.snd hr1]; exact k_copy ok _ _ _ _ _, by omega, by omega⟩)
  · first
      | exact absurd (congrArg Prod.fst (hr1.trans hr2.symm)) c1210
