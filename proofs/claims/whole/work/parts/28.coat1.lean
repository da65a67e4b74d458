/-- changed(): what is stored is known no more -/
theorem c_changed {V : VV} {m : Nat} {h : ab_H} {S : SS} (p : PXw V m h S) : ab_C Y_Coat_changed [.ref 1] m h (fun r m2 h2 => r = none ∧ m2 = m ∧ PX V m h2 S ∧ ∀ k, 56 ≤ k → k ≤ 88 → h2 k = h k) := by
  obtain ⟨p0, p1, p2, p3, ⟨NP, kn, pmi, pme, nv, bo, go, li, sz, g, q0, q1, q2, q3, q4, q5, q6, q7, q8, q9, q10, q11, q12, q13⟩, ⟨ND, kd, da, dmi, d0, d1, d2, d3⟩, ⟨NR, kr, gr, su, gR, r0, r1, r2, r3, r4⟩, p7⟩ := p
  refine ab_C.of (L := [some (.ref 1)]) rfl rfl (Nat.le_of_ble_eq_true rfl) (fun l => ?_)
  refine aw_aload_n d_Coat_changed_0 rfl ?_
  refine aw_get (k := 7) d_Coat_changed_1 cl_Coat k_Coat_47 (by decide) p0.1 rfl ?_
  refine aw_iconst (v := nI 0) d_Coat_changed_4 (by decide) ?_
  refine aw_put (k := 0) (fs' := [.int (nI 0), .int pmi, .int pme, .ref 36, nv, .int bo, .int go, .int li, .ref 37, .ref 38, .ref 39, .ref 40, .ref 41, .ref 45, .ref 46]) d_Coat_changed_5 cl_Planner k_Coat_202 (by decide) rfl ⟨by decide, by decide⟩ q0 (Nat.le_of_ble_eq_true rfl) rfl ?_
  refine aw_aload_n d_Coat_changed_8 rfl ?_
  refine aw_get (k := 8) d_Coat_changed_9 cl_Coat k_Coat_54 (by decide) p0.1 rfl ?_
  refine aw_iconst (v := nI 0) d_Coat_changed_12 (by decide) ?_
  refine aw_put (k := 0) (fs' := [.int (nI 0), .int da, .int dmi, .ref 48, .ref 49]) d_Coat_changed_13 cl_Days k_Coat_215 (by decide) rfl ⟨by decide, by decide⟩ d0 (Nat.le_of_ble_eq_true rfl) rfl ?_
  refine aw_aload_n d_Coat_changed_16 rfl ?_
  refine aw_get (k := 9) d_Coat_changed_17 cl_Coat k_Coat_61 (by decide) p0.1 rfl ?_
  refine aw_iconst (v := nI 0) d_Coat_changed_20 (by decide) ?_
  refine aw_put (k := 0) (fs' := [.int (nI 0), .int gr, .int su, .ref 51, .ref 52, .ref 53]) d_Coat_changed_21 cl_Rail k_Coat_288 (by decide) rfl ⟨by decide, by decide⟩ r0 (Nat.le_of_ble_eq_true rfl) rfl ?_
  refine aw_return d_Coat_changed_24 rfl ?_
  refine ⟨rfl, rfl, ⟨p0.fr ?_, p1.fr ?_, p2.fr ?_, p3.fr ?_, ?_, ?_, ?_, p7.fr ?_⟩, ?_⟩
  iterate 4 exact fun k _ _ => by rw [ab_set_ne (by omega), ab_set_ne (by omega), ab_set_ne (by omega)]
  · exact ⟨false, pmi, pme, nv, bo, go, li, sz, g, rfl, q1, q2, q3, q4, q5, q6, q7, q8, q9, q10, q11, q12, fun q => absurd q (by decide)⟩
  · exact ⟨false, da, dmi, rfl, d1, d2, fun q => absurd q (by decide)⟩
  · exact ⟨false, gr, su, gR, rfl, r1, r2, r3, fun q => absurd q (by decide)⟩
  · exact fun k _ => by rw [ab_set_ne (by omega), ab_set_ne (by omega), ab_set_ne (by omega)]
  · exact fun k _ _ => by rw [ab_set_ne (by omega), ab_set_ne (by omega), ab_set_ne (by omega)]
