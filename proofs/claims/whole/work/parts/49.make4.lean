theorem mi_l1 (l : Launch) {Q : Option Value → Nat → ab_H → Prop} {m : Nat} {h : ab_H} {us : Nat × Nat} (h0 : h 56 = oM 0 0 2 3 0 0 0 (nI 0) (-1) 0 0 0 0 false) (kk : ∀ g : Nat → Int32, (∀ i, i < 4 → g i = (-1)) → ab_W Y_M_init none l Q 297 [some (.ref 56), some (.int (nI 4))] [] m (ab_set h 85 (.inl (4, g))) us) : ∀ (k j : Nat) (g : Nat → Int32), j + k = 4 → (∀ i, i < j → g i = (-1)) → ab_W Y_M_init none l Q 279 [some (.ref 56), some (.int (nI j))] [] m (ab_set h 85 (.inl (4, g))) us
  | 0, j, g, hj, e => by
    have hj2 : j = 4 := by omega
    subst hj2
    refine aw_iload_n d_M_init_279 rfl ?_
    refine aw_iconst (v := nI 4) d_M_init_280 (by decide) ?_
    refine aw_icmp_ge (tgt := 297) d_M_init_281 (by decide) (fun c281 => ?_) (fun c281 => ?_)
    · exact kk g e
    · exact absurd (Int32.le_refl _) c281
  | k + 1, j, g, hj, e => by
    refine aw_iload_n d_M_init_279 rfl ?_
    refine aw_iconst (v := nI 4) d_M_init_280 (by decide) ?_
    refine aw_icmp_ge (tgt := 297) d_M_init_281 (by decide) (fun c281 => ?_) (fun c281 => ?_)
    · exact absurd c281 (nI_ge (by omega) (by decide))
    · refine aw_aload_n d_M_init_284 rfl ?_
      refine aw_get (k := 42) d_M_init_285 cl_Model k_M_106 (by decide) h0 rfl ?_
      refine aw_iload_n d_M_init_288 rfl ?_
      refine aw_iconst (v := (-1)) d_M_init_289 (by decide) ?_
      refine aw_iastoreN d_M_init_290 rfl (by omega) (by decide) ?_
      refine aw_iinc (v := nI (j + 1)) (L' := [some (.ref 56), some (.int (nI (j + 1)))]) d_M_init_291 rfl (nI_1 _) ⟨by decide, rfl⟩ rfl ?_
      refine aw_goto (tgt := 279) d_M_init_294 (by decide) ?_
      rw [ab_set_set]
      exact mi_l1 l h0 kk k (j + 1) _ (by omega) (fun i hi => by
        by_cases q : i = j
        · subst q; exact pk_us
        · rw [pk_un q]; exact e i (by omega))
theorem mi_l2 (l : Launch) {Q : Option Value → Nat → ab_H → Prop} {m : Nat} {h : ab_H} {us : Nat × Nat} (h0 : h 56 = oM 0 0 2 3 0 0 0 (nI 0) (-1) 0 0 0 0 false) (kk : ∀ g : Nat → Int32, (∀ i, i < 36 → g i = nI 5) → ab_W Y_M_init none l Q 318 [some (.ref 56), some (.int (nI 36))] [] m (ab_set h 61 (.inl (36, g))) us) : ∀ (k j : Nat) (g : Nat → Int32), j + k = 36 → (∀ i, i < j → g i = nI 5) → ab_W Y_M_init none l Q 299 [some (.ref 56), some (.int (nI j))] [] m (ab_set h 61 (.inl (36, g))) us
  | 0, j, g, hj, e => by
    have hj2 : j = 36 := by omega
    subst hj2
    refine aw_iload_n d_M_init_299 rfl ?_
    refine aw_bipush (v := nI 36) d_M_init_300 (by decide) ?_
    refine aw_icmp_ge (tgt := 318) d_M_init_302 (by decide) (fun c302 => ?_) (fun c302 => ?_)
    · exact kk g e
    · exact absurd (Int32.le_refl _) c302
  | k + 1, j, g, hj, e => by
    refine aw_iload_n d_M_init_299 rfl ?_
    refine aw_bipush (v := nI 36) d_M_init_300 (by decide) ?_
    refine aw_icmp_ge (tgt := 318) d_M_init_302 (by decide) (fun c302 => ?_) (fun c302 => ?_)
    · exact absurd c302 (nI_ge (by omega) (by decide))
    · refine aw_aload_n d_M_init_305 rfl ?_
      refine aw_get (k := 5) d_M_init_306 cl_Model k_M_22 (by decide) h0 rfl ?_
      refine aw_iload_n d_M_init_309 rfl ?_
      refine aw_iconst (v := nI 5) d_M_init_310 (by decide) ?_
      refine aw_iastoreN d_M_init_311 rfl (by omega) (by decide) ?_
      refine aw_iinc (v := nI (j + 1)) (L' := [some (.ref 56), some (.int (nI (j + 1)))]) d_M_init_312 rfl (nI_1 _) ⟨by decide, rfl⟩ rfl ?_
      refine aw_goto (tgt := 299) d_M_init_315 (by decide) ?_
      rw [ab_set_set]
      exact mi_l2 l h0 kk k (j + 1) _ (by omega) (fun i hi => by
        by_cases q : i = j
        · subst q; exact pk_us
        · rw [pk_un q]; exact e i (by omega))
theorem c_M_init {V : VV} {h : ab_H} (h0 : h 56 = .inr (.inr (10, [.int 0, .null, .null, .null, .null, .null, .null, .null, .int 0, .null, .null, .int 0, .int 0, .int 0, .int 0, .null, .null, .int 0, .null, .null, .null, .null, .null, .null, .null, .int 0, .int 0, .null, .null, .int 0, .int 0, .int 0, .null, .null, .int 0, .null, .null, .null, .null, .null, .null, .int 0, .null, .null, .null, .null]))) : ab_C Y_M_init [.ref 56] 56 h (fun r m2 h2 => r = none ∧ m2 = 88 ∧ PM V 0 h2 S0 ∧ ∀ k, (k < 56 ∨ 88 < k) → h2 k = h k) := by
  refine ab_C.of (L := [some (.ref 56), none]) rfl rfl (Nat.le_of_ble_eq_true rfl) (fun l => ?_)
  refine aw_aload_n d_M_init_0 rfl ?_
  refine aw_objinit d_M_init_1 k_M_1 ⟨by decide, Nat.le_of_ble_eq_true rfl⟩ ?_
  refine aw_aload_n d_M_init_4 rfl ?_
  refine aw_bipush (v := nI 6) d_M_init_5 (by decide) ?_
  refine aw_newarray (N := 6) d_M_init_7 (by decide) (by decide) (by decide) ⟨by decide, by decide⟩ ?_
  refine aw_putF (k := 1) (fs' := [.int 0, .ref 57, .null, .null, .null, .null, .null, .null, .int 0, .null, .null, .int 0, .int 0, .int 0, .int 0, .null, .null, .int 0, .null, .null, .null, .null, .null, .null, .null, .int 0, .int 0, .null, .null, .int 0, .int 0, .int 0, .null, .null, .int 0, .null, .null, .null, .null, .null, .null, .int 0, .null, .null, .null, .null]) d_M_init_9 cl_Model k_M_7 (by decide) rfl rfl rfl ⟨rfl, rfl⟩ h0 (Nat.le_of_ble_eq_true rfl) rfl ?_
  refine aw_aload_n d_M_init_12 rfl ?_
  refine aw_bipush (v := nI 6) d_M_init_13 (by decide) ?_
  refine aw_newarray (N := 6) d_M_init_15 (by decide) (by decide) (by decide) ⟨by decide, by decide⟩ ?_
  refine aw_putF (k := 2) (fs' := [.int 0, .ref 57, .ref 58, .null, .null, .null, .null, .null, .int 0, .null, .null, .int 0, .int 0, .int 0, .int 0, .null, .null, .int 0, .null, .null, .null, .null, .null, .null, .null, .int 0, .int 0, .null, .null, .int 0, .int 0, .int 0, .null, .null, .int 0, .null, .null, .null, .null, .null, .null, .int 0, .null, .null, .null, .null]) d_M_init_17 cl_Model k_M_13 (by decide) rfl rfl rfl ⟨rfl, rfl⟩ rfl (Nat.le_of_ble_eq_true rfl) rfl ?_
  refine aw_aload_n d_M_init_20 rfl ?_
  refine aw_bipush (v := nI 6) d_M_init_21 (by decide) ?_
  refine aw_newarray (N := 6) d_M_init_23 (by decide) (by decide) (by decide) ⟨by decide, by decide⟩ ?_
  refine aw_putF (k := 3) (fs' := [.int 0, .ref 57, .ref 58, .ref 59, .null, .null, .null, .null, .int 0, .null, .null, .int 0, .int 0, .int 0, .int 0, .null, .null, .int 0, .null, .null, .null, .null, .null, .null, .null, .int 0, .int 0, .null, .null, .int 0, .int 0, .int 0, .null, .null, .int 0, .null, .null, .null, .null, .null, .null, .int 0, .null, .null, .null, .null]) d_M_init_25 cl_Model k_M_16 (by decide) rfl rfl rfl ⟨rfl, rfl⟩ rfl (Nat.le_of_ble_eq_true rfl) rfl ?_
  refine aw_aload_n d_M_init_28 rfl ?_
  refine aw_bipush (v := nI 6) d_M_init_29 (by decide) ?_
  refine aw_newarray (N := 6) d_M_init_31 (by decide) (by decide) (by decide) ⟨by decide, by decide⟩ ?_
  refine aw_putF (k := 4) (fs' := [.int 0, .ref 57, .ref 58, .ref 59, .ref 60, .null, .null, .null, .int 0, .null, .null, .int 0, .int 0, .int 0, .int 0, .null, .null, .int 0, .null, .null, .null, .null, .null, .null, .null, .int 0, .int 0, .null, .null, .int 0, .int 0, .int 0, .null, .null, .int 0, .null, .null, .null, .null, .null, .null, .int 0, .null, .null, .null, .null]) d_M_init_33 cl_Model k_M_19 (by decide) rfl rfl rfl ⟨rfl, rfl⟩ rfl (Nat.le_of_ble_eq_true rfl) rfl ?_
  refine aw_aload_n d_M_init_36 rfl ?_
  refine aw_bipush (v := nI 36) d_M_init_37 (by decide) ?_
  refine aw_newarray (N := 36) d_M_init_39 (by decide) (by decide) (by decide) ⟨by decide, by decide⟩ ?_
  refine aw_putF (k := 5) (fs' := [.int 0, .ref 57, .ref 58, .ref 59, .ref 60, .ref 61, .null, .null, .int 0, .null, .null, .int 0, .int 0, .int 0, .int 0, .null, .null, .int 0, .null, .null, .null, .null, .null, .null, .null, .int 0, .int 0, .null, .null, .int 0, .int 0, .int 0, .null, .null, .int 0, .null, .null, .null, .null, .null, .null, .int 0, .null, .null, .null, .null]) d_M_init_41 cl_Model k_M_22 (by decide) rfl rfl rfl ⟨rfl, rfl⟩ rfl (Nat.le_of_ble_eq_true rfl) rfl ?_
  refine aw_aload_n d_M_init_44 rfl ?_
  refine aw_bipush (v := nI 6) d_M_init_45 (by decide) ?_
  refine aw_newarray (N := 6) d_M_init_47 (by decide) (by decide) (by decide) ⟨by decide, by decide⟩ ?_
  refine aw_putF (k := 6) (fs' := [.int 0, .ref 57, .ref 58, .ref 59, .ref 60, .ref 61, .ref 62, .null, .int 0, .null, .null, .int 0, .int 0, .int 0, .int 0, .null, .null, .int 0, .null, .null, .null, .null, .null, .null, .null, .int 0, .int 0, .null, .null, .int 0, .int 0, .int 0, .null, .null, .int 0, .null, .null, .null, .null, .null, .null, .int 0, .null, .null, .null, .null]) d_M_init_49 cl_Model k_M_25 (by decide) rfl rfl rfl ⟨rfl, rfl⟩ rfl (Nat.le_of_ble_eq_true rfl) rfl ?_
  refine aw_aload_n d_M_init_52 rfl ?_
  refine aw_bipush (v := nI 6) d_M_init_53 (by decide) ?_
  refine aw_newarray (N := 6) d_M_init_55 (by decide) (by decide) (by decide) ⟨by decide, by decide⟩ ?_
  refine aw_putF (k := 7) (fs' := [.int 0, .ref 57, .ref 58, .ref 59, .ref 60, .ref 61, .ref 62, .ref 63, .int 0, .null, .null, .int 0, .int 0, .int 0, .int 0, .null, .null, .int 0, .null, .null, .null, .null, .null, .null, .null, .int 0, .int 0, .null, .null, .int 0, .int 0, .int 0, .null, .null, .int 0, .null, .null, .null, .null, .null, .null, .int 0, .null, .null, .null, .null]) d_M_init_57 cl_Model k_M_28 (by decide) rfl rfl rfl ⟨rfl, rfl⟩ rfl (Nat.le_of_ble_eq_true rfl) rfl ?_
  refine aw_aload_n d_M_init_60 rfl ?_
  refine aw_iconst (v := nI 4) d_M_init_61 (by decide) ?_
  refine aw_newarray (N := 4) d_M_init_62 (by decide) (by decide) (by decide) ⟨by decide, by decide⟩ ?_
  refine aw_putF (k := 9) (fs' := [.int 0, .ref 57, .ref 58, .ref 59, .ref 60, .ref 61, .ref 62, .ref 63, .int 0, .ref 64, .null, .int 0, .int 0, .int 0, .int 0, .null, .null, .int 0, .null, .null, .null, .null, .null, .null, .null, .int 0, .int 0, .null, .null, .int 0, .int 0, .int 0, .null, .null, .int 0, .null, .null, .null, .null, .null, .null, .int 0, .null, .null, .null, .null]) d_M_init_64 cl_Model k_M_31 (by decide) rfl rfl rfl ⟨rfl, rfl⟩ rfl (Nat.le_of_ble_eq_true rfl) rfl ?_
  refine aw_aload_n d_M_init_67 rfl ?_
  refine aw_iconst (v := nI 4) d_M_init_68 (by decide) ?_
  refine aw_newarray (N := 4) d_M_init_69 (by decide) (by decide) (by decide) ⟨by decide, by decide⟩ ?_
  refine aw_putF (k := 10) (fs' := [.int 0, .ref 57, .ref 58, .ref 59, .ref 60, .ref 61, .ref 62, .ref 63, .int 0, .ref 64, .ref 65, .int 0, .int 0, .int 0, .int 0, .null, .null, .int 0, .null, .null, .null, .null, .null, .null, .null, .int 0, .int 0, .null, .null, .int 0, .int 0, .int 0, .null, .null, .int 0, .null, .null, .null, .null, .null, .null, .int 0, .null, .null, .null, .null]) d_M_init_71 cl_Model k_M_34 (by decide) rfl rfl rfl ⟨rfl, rfl⟩ rfl (Nat.le_of_ble_eq_true rfl) rfl ?_
  refine aw_aload_n d_M_init_74 rfl ?_
  refine aw_iconst (v := nI 2) d_M_init_75 (by decide) ?_
  refine aw_put (k := 11) (fs' := [.int 0, .ref 57, .ref 58, .ref 59, .ref 60, .ref 61, .ref 62, .ref 63, .int 0, .ref 64, .ref 65, .int (nI 2), .int 0, .int 0, .int 0, .null, .null, .int 0, .null, .null, .null, .null, .null, .null, .null, .int 0, .int 0, .null, .null, .int 0, .int 0, .int 0, .null, .null, .int 0, .null, .null, .null, .null, .null, .null, .int 0, .null, .null, .null, .null]) d_M_init_76 cl_Model k_M_37 (by decide) rfl ⟨rfl, rfl⟩ rfl (Nat.le_of_ble_eq_true rfl) rfl ?_
  refine aw_aload_n d_M_init_79 rfl ?_
  refine aw_iconst (v := nI 3) d_M_init_80 (by decide) ?_
  refine aw_put (k := 12) (fs' := [.int 0, .ref 57, .ref 58, .ref 59, .ref 60, .ref 61, .ref 62, .ref 63, .int 0, .ref 64, .ref 65, .int (nI 2), .int (nI 3), .int 0, .int 0, .null, .null, .int 0, .null, .null, .null, .null, .null, .null, .null, .int 0, .int 0, .null, .null, .int 0, .int 0, .int 0, .null, .null, .int 0, .null, .null, .null, .null, .null, .null, .int 0, .null, .null, .null, .null]) d_M_init_81 cl_Model k_M_41 (by decide) rfl ⟨rfl, rfl⟩ rfl (Nat.le_of_ble_eq_true rfl) rfl ?_
  refine aw_aload_n d_M_init_84 rfl ?_
  refine aw_bipush (v := nI 6) d_M_init_85 (by decide) ?_
  refine aw_newarray (N := 6) d_M_init_87 (by decide) (by decide) (by decide) ⟨by decide, by decide⟩ ?_
  refine aw_putF (k := 15) (fs' := [.int 0, .ref 57, .ref 58, .ref 59, .ref 60, .ref 61, .ref 62, .ref 63, .int 0, .ref 64, .ref 65, .int (nI 2), .int (nI 3), .int 0, .int 0, .ref 66, .null, .int 0, .null, .null, .null, .null, .null, .null, .null, .int 0, .int 0, .null, .null, .int 0, .int 0, .int 0, .null, .null, .int 0, .null, .null, .null, .null, .null, .null, .int 0, .null, .null, .null, .null]) d_M_init_89 cl_Model k_M_44 (by decide) rfl rfl rfl ⟨rfl, rfl⟩ rfl (Nat.le_of_ble_eq_true rfl) rfl ?_
  refine aw_aload_n d_M_init_92 rfl ?_
  refine aw_bipush (v := nI 6) d_M_init_93 (by decide) ?_
  refine aw_newarray (N := 6) d_M_init_95 (by decide) (by decide) (by decide) ⟨by decide, by decide⟩ ?_
  refine aw_putF (k := 16) (fs' := [.int 0, .ref 57, .ref 58, .ref 59, .ref 60, .ref 61, .ref 62, .ref 63, .int 0, .ref 64, .ref 65, .int (nI 2), .int (nI 3), .int 0, .int 0, .ref 66, .ref 67, .int 0, .null, .null, .null, .null, .null, .null, .null, .int 0, .int 0, .null, .null, .int 0, .int 0, .int 0, .null, .null, .int 0, .null, .null, .null, .null, .null, .null, .int 0, .null, .null, .null, .null]) d_M_init_97 cl_Model k_M_47 (by decide) rfl rfl rfl ⟨rfl, rfl⟩ rfl (Nat.le_of_ble_eq_true rfl) rfl ?_
  refine aw_aload_n d_M_init_100 rfl ?_
  refine aw_sipush (v := nI 4320) d_M_init_101 (by decide) ?_
  refine aw_newarray (N := 4320) d_M_init_104 (by decide) (by decide) (by decide) ⟨by decide, by decide⟩ ?_
  refine aw_putF (k := 18) (fs' := [.int 0, .ref 57, .ref 58, .ref 59, .ref 60, .ref 61, .ref 62, .ref 63, .int 0, .ref 64, .ref 65, .int (nI 2), .int (nI 3), .int 0, .int 0, .ref 66, .ref 67, .int 0, .ref 68, .null, .null, .null, .null, .null, .null, .int 0, .int 0, .null, .null, .int 0, .int 0, .int 0, .null, .null, .int 0, .null, .null, .null, .null, .null, .null, .int 0, .null, .null, .null, .null]) d_M_init_106 cl_Model k_M_50 (by decide) rfl rfl rfl ⟨rfl, rfl⟩ rfl (Nat.le_of_ble_eq_true rfl) rfl ?_
  refine aw_aload_n d_M_init_109 rfl ?_
  refine aw_ldc (v := nI 46656) d_M_init_110 k_M_53 ?_
  refine aw_newarray (N := 46656) d_M_init_112 (by decide) (by decide) (by decide) ⟨by decide, by decide⟩ ?_
  refine aw_putF (k := 19) (fs' := [.int 0, .ref 57, .ref 58, .ref 59, .ref 60, .ref 61, .ref 62, .ref 63, .int 0, .ref 64, .ref 65, .int (nI 2), .int (nI 3), .int 0, .int 0, .ref 66, .ref 67, .int 0, .ref 68, .ref 69, .null, .null, .null, .null, .null, .int 0, .int 0, .null, .null, .int 0, .int 0, .int 0, .null, .null, .int 0, .null, .null, .null, .null, .null, .null, .int 0, .null, .null, .null, .null]) d_M_init_114 cl_Model k_M_54 (by decide) rfl rfl rfl ⟨rfl, rfl⟩ rfl (Nat.le_of_ble_eq_true rfl) rfl ?_
  refine aw_aload_n d_M_init_117 rfl ?_
  refine aw_sipush (v := nI 720) d_M_init_118 (by decide) ?_
  refine aw_newarray (N := 720) d_M_init_121 (by decide) (by decide) (by decide) ⟨by decide, by decide⟩ ?_
  refine aw_putF (k := 20) (fs' := [.int 0, .ref 57, .ref 58, .ref 59, .ref 60, .ref 61, .ref 62, .ref 63, .int 0, .ref 64, .ref 65, .int (nI 2), .int (nI 3), .int 0, .int 0, .ref 66, .ref 67, .int 0, .ref 68, .ref 69, .ref 70, .null, .null, .null, .null, .int 0, .int 0, .null, .null, .int 0, .int 0, .int 0, .null, .null, .int 0, .null, .null, .null, .null, .null, .null, .int 0, .null, .null, .null, .null]) d_M_init_123 cl_Model k_M_57 (by decide) rfl rfl rfl ⟨rfl, rfl⟩ rfl (Nat.le_of_ble_eq_true rfl) rfl ?_
  refine aw_aload_n d_M_init_126 rfl ?_
  refine aw_sipush (v := nI 720) d_M_init_127 (by decide) ?_
  refine aw_newarray (N := 720) d_M_init_130 (by decide) (by decide) (by decide) ⟨by decide, by decide⟩ ?_
  refine aw_putF (k := 21) (fs' := [.int 0, .ref 57, .ref 58, .ref 59, .ref 60, .ref 61, .ref 62, .ref 63, .int 0, .ref 64, .ref 65, .int (nI 2), .int (nI 3), .int 0, .int 0, .ref 66, .ref 67, .int 0, .ref 68, .ref 69, .ref 70, .ref 71, .null, .null, .null, .int 0, .int 0, .null, .null, .int 0, .int 0, .int 0, .null, .null, .int 0, .null, .null, .null, .null, .null, .null, .int 0, .null, .null, .null, .null]) d_M_init_132 cl_Model k_M_60 (by decide) rfl rfl rfl ⟨rfl, rfl⟩ rfl (Nat.le_of_ble_eq_true rfl) rfl ?_
  refine aw_aload_n d_M_init_135 rfl ?_
  refine aw_bipush (v := nI 6) d_M_init_136 (by decide) ?_
  refine aw_newarray (N := 6) d_M_init_138 (by decide) (by decide) (by decide) ⟨by decide, by decide⟩ ?_
  refine aw_putF (k := 22) (fs' := [.int 0, .ref 57, .ref 58, .ref 59, .ref 60, .ref 61, .ref 62, .ref 63, .int 0, .ref 64, .ref 65, .int (nI 2), .int (nI 3), .int 0, .int 0, .ref 66, .ref 67, .int 0, .ref 68, .ref 69, .ref 70, .ref 71, .ref 72, .null, .null, .int 0, .int 0, .null, .null, .int 0, .int 0, .int 0, .null, .null, .int 0, .null, .null, .null, .null, .null, .null, .int 0, .null, .null, .null, .null]) d_M_init_140 cl_Model k_M_63 (by decide) rfl rfl rfl ⟨rfl, rfl⟩ rfl (Nat.le_of_ble_eq_true rfl) rfl ?_
  refine aw_aload_n d_M_init_143 rfl ?_
  refine aw_ldc (v := nI 214560) d_M_init_144 k_M_66 ?_
  refine aw_newarray (N := 214560) d_M_init_146 (by decide) (by decide) (by decide) ⟨by decide, by decide⟩ ?_
  refine aw_putF (k := 23) (fs' := [.int 0, .ref 57, .ref 58, .ref 59, .ref 60, .ref 61, .ref 62, .ref 63, .int 0, .ref 64, .ref 65, .int (nI 2), .int (nI 3), .int 0, .int 0, .ref 66, .ref 67, .int 0, .ref 68, .ref 69, .ref 70, .ref 71, .ref 72, .ref 73, .null, .int 0, .int 0, .null, .null, .int 0, .int 0, .int 0, .null, .null, .int 0, .null, .null, .null, .null, .null, .null, .int 0, .null, .null, .null, .null]) d_M_init_148 cl_Model k_M_67 (by decide) rfl rfl rfl ⟨rfl, rfl⟩ rfl (Nat.le_of_ble_eq_true rfl) rfl ?_
  refine aw_aload_n d_M_init_151 rfl ?_
  refine aw_ldc (v := nI 214560) d_M_init_152 k_M_66 ?_
  refine aw_newarray (N := 214560) d_M_init_154 (by decide) (by decide) (by decide) ⟨by decide, by decide⟩ ?_
  refine aw_putF (k := 24) (fs' := [.int 0, .ref 57, .ref 58, .ref 59, .ref 60, .ref 61, .ref 62, .ref 63, .int 0, .ref 64, .ref 65, .int (nI 2), .int (nI 3), .int 0, .int 0, .ref 66, .ref 67, .int 0, .ref 68, .ref 69, .ref 70, .ref 71, .ref 72, .ref 73, .ref 74, .int 0, .int 0, .null, .null, .int 0, .int 0, .int 0, .null, .null, .int 0, .null, .null, .null, .null, .null, .null, .int 0, .null, .null, .null, .null]) d_M_init_156 cl_Model k_M_70 (by decide) rfl rfl rfl ⟨rfl, rfl⟩ rfl (Nat.le_of_ble_eq_true rfl) rfl ?_
  refine aw_aload_n d_M_init_159 rfl ?_
  refine aw_iconst (v := (-1)) d_M_init_160 (by decide) ?_
  refine aw_put (k := 26) (fs' := [.int 0, .ref 57, .ref 58, .ref 59, .ref 60, .ref 61, .ref 62, .ref 63, .int 0, .ref 64, .ref 65, .int (nI 2), .int (nI 3), .int 0, .int 0, .ref 66, .ref 67, .int 0, .ref 68, .ref 69, .ref 70, .ref 71, .ref 72, .ref 73, .ref 74, .int 0, .int (-1), .null, .null, .int 0, .int 0, .int 0, .null, .null, .int 0, .null, .null, .null, .null, .null, .null, .int 0, .null, .null, .null, .null]) d_M_init_161 cl_Model k_M_73 (by decide) rfl ⟨rfl, rfl⟩ rfl (Nat.le_of_ble_eq_true rfl) rfl ?_
  refine aw_aload_n d_M_init_164 rfl ?_
  refine aw_bipush (v := nI 6) d_M_init_165 (by decide) ?_
  refine aw_newarray (N := 6) d_M_init_167 (by decide) (by decide) (by decide) ⟨by decide, by decide⟩ ?_
  refine aw_putF (k := 27) (fs' := [.int 0, .ref 57, .ref 58, .ref 59, .ref 60, .ref 61, .ref 62, .ref 63, .int 0, .ref 64, .ref 65, .int (nI 2), .int (nI 3), .int 0, .int 0, .ref 66, .ref 67, .int 0, .ref 68, .ref 69, .ref 70, .ref 71, .ref 72, .ref 73, .ref 74, .int 0, .int (-1), .ref 75, .null, .int 0, .int 0, .int 0, .null, .null, .int 0, .null, .null, .null, .null, .null, .null, .int 0, .null, .null, .null, .null]) d_M_init_169 cl_Model k_M_76 (by decide) rfl rfl rfl ⟨rfl, rfl⟩ rfl (Nat.le_of_ble_eq_true rfl) rfl ?_
  refine aw_aload_n d_M_init_172 rfl ?_
  refine aw_bipush (v := nI 100) d_M_init_173 (by decide) ?_
  refine aw_newarray (N := 100) d_M_init_175 (by decide) (by decide) (by decide) ⟨by decide, by decide⟩ ?_
  refine aw_putF (k := 28) (fs' := [.int 0, .ref 57, .ref 58, .ref 59, .ref 60, .ref 61, .ref 62, .ref 63, .int 0, .ref 64, .ref 65, .int (nI 2), .int (nI 3), .int 0, .int 0, .ref 66, .ref 67, .int 0, .ref 68, .ref 69, .ref 70, .ref 71, .ref 72, .ref 73, .ref 74, .int 0, .int (-1), .ref 75, .ref 76, .int 0, .int 0, .int 0, .null, .null, .int 0, .null, .null, .null, .null, .null, .null, .int 0, .null, .null, .null, .null]) d_M_init_177 cl_Model k_M_79 (by decide) rfl rfl rfl ⟨rfl, rfl⟩ rfl (Nat.le_of_ble_eq_true rfl) rfl ?_
  refine aw_aload_n d_M_init_180 rfl ?_
  refine aw_bipush (v := nI 6) d_M_init_181 (by decide) ?_
  refine aw_newarray (N := 6) d_M_init_183 (by decide) (by decide) (by decide) ⟨by decide, by decide⟩ ?_
  refine aw_putF (k := 32) (fs' := [.int 0, .ref 57, .ref 58, .ref 59, .ref 60, .ref 61, .ref 62, .ref 63, .int 0, .ref 64, .ref 65, .int (nI 2), .int (nI 3), .int 0, .int 0, .ref 66, .ref 67, .int 0, .ref 68, .ref 69, .ref 70, .ref 71, .ref 72, .ref 73, .ref 74, .int 0, .int (-1), .ref 75, .ref 76, .int 0, .int 0, .int 0, .ref 77, .null, .int 0, .null, .null, .null, .null, .null, .null, .int 0, .null, .null, .null, .null]) d_M_init_185 cl_Model k_M_82 (by decide) rfl rfl rfl ⟨rfl, rfl⟩ rfl (Nat.le_of_ble_eq_true rfl) rfl ?_
  refine aw_aload_n d_M_init_188 rfl ?_
  refine aw_bipush (v := nI 36) d_M_init_189 (by decide) ?_
  refine aw_newarray (N := 36) d_M_init_191 (by decide) (by decide) (by decide) ⟨by decide, by decide⟩ ?_
  refine aw_putF (k := 33) (fs' := [.int 0, .ref 57, .ref 58, .ref 59, .ref 60, .ref 61, .ref 62, .ref 63, .int 0, .ref 64, .ref 65, .int (nI 2), .int (nI 3), .int 0, .int 0, .ref 66, .ref 67, .int 0, .ref 68, .ref 69, .ref 70, .ref 71, .ref 72, .ref 73, .ref 74, .int 0, .int (-1), .ref 75, .ref 76, .int 0, .int 0, .int 0, .ref 77, .ref 78, .int 0, .null, .null, .null, .null, .null, .null, .int 0, .null, .null, .null, .null]) d_M_init_193 cl_Model k_M_85 (by decide) rfl rfl rfl ⟨rfl, rfl⟩ rfl (Nat.le_of_ble_eq_true rfl) rfl ?_
  refine aw_aload_n d_M_init_196 rfl ?_
  refine aw_bipush (v := nI 6) d_M_init_197 (by decide) ?_
  refine aw_newarray (N := 6) d_M_init_199 (by decide) (by decide) (by decide) ⟨by decide, by decide⟩ ?_
  refine aw_putF (k := 35) (fs' := [.int 0, .ref 57, .ref 58, .ref 59, .ref 60, .ref 61, .ref 62, .ref 63, .int 0, .ref 64, .ref 65, .int (nI 2), .int (nI 3), .int 0, .int 0, .ref 66, .ref 67, .int 0, .ref 68, .ref 69, .ref 70, .ref 71, .ref 72, .ref 73, .ref 74, .int 0, .int (-1), .ref 75, .ref 76, .int 0, .int 0, .int 0, .ref 77, .ref 78, .int 0, .ref 79, .null, .null, .null, .null, .null, .int 0, .null, .null, .null, .null]) d_M_init_201 cl_Model k_M_88 (by decide) rfl rfl rfl ⟨rfl, rfl⟩ rfl (Nat.le_of_ble_eq_true rfl) rfl ?_
  refine aw_aload_n d_M_init_204 rfl ?_
  refine aw_sipush (v := nI 720) d_M_init_205 (by decide) ?_
  refine aw_newarray (N := 720) d_M_init_208 (by decide) (by decide) (by decide) ⟨by decide, by decide⟩ ?_
  refine aw_putF (k := 36) (fs' := [.int 0, .ref 57, .ref 58, .ref 59, .ref 60, .ref 61, .ref 62, .ref 63, .int 0, .ref 64, .ref 65, .int (nI 2), .int (nI 3), .int 0, .int 0, .ref 66, .ref 67, .int 0, .ref 68, .ref 69, .ref 70, .ref 71, .ref 72, .ref 73, .ref 74, .int 0, .int (-1), .ref 75, .ref 76, .int 0, .int 0, .int 0, .ref 77, .ref 78, .int 0, .ref 79, .ref 80, .null, .null, .null, .null, .int 0, .null, .null, .null, .null]) d_M_init_210 cl_Model k_M_91 (by decide) rfl rfl rfl ⟨rfl, rfl⟩ rfl (Nat.le_of_ble_eq_true rfl) rfl ?_
  refine aw_aload_n d_M_init_213 rfl ?_
  refine aw_sipush (v := nI 720) d_M_init_214 (by decide) ?_
  refine aw_newarray (N := 720) d_M_init_217 (by decide) (by decide) (by decide) ⟨by decide, by decide⟩ ?_
  refine aw_putF (k := 37) (fs' := [.int 0, .ref 57, .ref 58, .ref 59, .ref 60, .ref 61, .ref 62, .ref 63, .int 0, .ref 64, .ref 65, .int (nI 2), .int (nI 3), .int 0, .int 0, .ref 66, .ref 67, .int 0, .ref 68, .ref 69, .ref 70, .ref 71, .ref 72, .ref 73, .ref 74, .int 0, .int (-1), .ref 75, .ref 76, .int 0, .int 0, .int 0, .ref 77, .ref 78, .int 0, .ref 79, .ref 80, .ref 81, .null, .null, .null, .int 0, .null, .null, .null, .null]) d_M_init_219 cl_Model k_M_94 (by decide) rfl rfl rfl ⟨rfl, rfl⟩ rfl (Nat.le_of_ble_eq_true rfl) rfl ?_
  refine aw_aload_n d_M_init_222 rfl ?_
  refine aw_bipush (v := nI 6) d_M_init_223 (by decide) ?_
  refine aw_newarray (N := 6) d_M_init_225 (by decide) (by decide) (by decide) ⟨by decide, by decide⟩ ?_
  refine aw_putF (k := 38) (fs' := [.int 0, .ref 57, .ref 58, .ref 59, .ref 60, .ref 61, .ref 62, .ref 63, .int 0, .ref 64, .ref 65, .int (nI 2), .int (nI 3), .int 0, .int 0, .ref 66, .ref 67, .int 0, .ref 68, .ref 69, .ref 70, .ref 71, .ref 72, .ref 73, .ref 74, .int 0, .int (-1), .ref 75, .ref 76, .int 0, .int 0, .int 0, .ref 77, .ref 78, .int 0, .ref 79, .ref 80, .ref 81, .ref 82, .null, .null, .int 0, .null, .null, .null, .null]) d_M_init_227 cl_Model k_M_97 (by decide) rfl rfl rfl ⟨rfl, rfl⟩ rfl (Nat.le_of_ble_eq_true rfl) rfl ?_
  refine aw_aload_n d_M_init_230 rfl ?_
  refine aw_bipush (v := nI 6) d_M_init_231 (by decide) ?_
  refine aw_newarray (N := 6) d_M_init_233 (by decide) (by decide) (by decide) ⟨by decide, by decide⟩ ?_
  refine aw_putF (k := 39) (fs' := [.int 0, .ref 57, .ref 58, .ref 59, .ref 60, .ref 61, .ref 62, .ref 63, .int 0, .ref 64, .ref 65, .int (nI 2), .int (nI 3), .int 0, .int 0, .ref 66, .ref 67, .int 0, .ref 68, .ref 69, .ref 70, .ref 71, .ref 72, .ref 73, .ref 74, .int 0, .int (-1), .ref 75, .ref 76, .int 0, .int 0, .int 0, .ref 77, .ref 78, .int 0, .ref 79, .ref 80, .ref 81, .ref 82, .ref 83, .null, .int 0, .null, .null, .null, .null]) d_M_init_235 cl_Model k_M_100 (by decide) rfl rfl rfl ⟨rfl, rfl⟩ rfl (Nat.le_of_ble_eq_true rfl) rfl ?_
  refine aw_aload_n d_M_init_238 rfl ?_
  refine aw_sipush (v := nI 128) d_M_init_239 (by decide) ?_
  refine aw_newarray (N := 128) d_M_init_242 (by decide) (by decide) (by decide) ⟨by decide, by decide⟩ ?_
  refine aw_putF (k := 40) (fs' := [.int 0, .ref 57, .ref 58, .ref 59, .ref 60, .ref 61, .ref 62, .ref 63, .int 0, .ref 64, .ref 65, .int (nI 2), .int (nI 3), .int 0, .int 0, .ref 66, .ref 67, .int 0, .ref 68, .ref 69, .ref 70, .ref 71, .ref 72, .ref 73, .ref 74, .int 0, .int (-1), .ref 75, .ref 76, .int 0, .int 0, .int 0, .ref 77, .ref 78, .int 0, .ref 79, .ref 80, .ref 81, .ref 82, .ref 83, .ref 84, .int 0, .null, .null, .null, .null]) d_M_init_244 cl_Model k_M_103 (by decide) rfl rfl rfl ⟨rfl, rfl⟩ rfl (Nat.le_of_ble_eq_true rfl) rfl ?_
  refine aw_aload_n d_M_init_247 rfl ?_
  refine aw_iconst (v := nI 4) d_M_init_248 (by decide) ?_
  refine aw_newarray (N := 4) d_M_init_249 (by decide) (by decide) (by decide) ⟨by decide, by decide⟩ ?_
  refine aw_putF (k := 42) (fs' := [.int 0, .ref 57, .ref 58, .ref 59, .ref 60, .ref 61, .ref 62, .ref 63, .int 0, .ref 64, .ref 65, .int (nI 2), .int (nI 3), .int 0, .int 0, .ref 66, .ref 67, .int 0, .ref 68, .ref 69, .ref 70, .ref 71, .ref 72, .ref 73, .ref 74, .int 0, .int (-1), .ref 75, .ref 76, .int 0, .int 0, .int 0, .ref 77, .ref 78, .int 0, .ref 79, .ref 80, .ref 81, .ref 82, .ref 83, .ref 84, .int 0, .ref 85, .null, .null, .null]) d_M_init_251 cl_Model k_M_106 (by decide) rfl rfl rfl ⟨rfl, rfl⟩ rfl (Nat.le_of_ble_eq_true rfl) rfl ?_
  refine aw_aload_n d_M_init_254 rfl ?_
  refine aw_iconst (v := nI 4) d_M_init_255 (by decide) ?_
  refine aw_newarray (N := 4) d_M_init_256 (by decide) (by decide) (by decide) ⟨by decide, by decide⟩ ?_
  refine aw_putF (k := 43) (fs' := [.int 0, .ref 57, .ref 58, .ref 59, .ref 60, .ref 61, .ref 62, .ref 63, .int 0, .ref 64, .ref 65, .int (nI 2), .int (nI 3), .int 0, .int 0, .ref 66, .ref 67, .int 0, .ref 68, .ref 69, .ref 70, .ref 71, .ref 72, .ref 73, .ref 74, .int 0, .int (-1), .ref 75, .ref 76, .int 0, .int 0, .int 0, .ref 77, .ref 78, .int 0, .ref 79, .ref 80, .ref 81, .ref 82, .ref 83, .ref 84, .int 0, .ref 85, .ref 86, .null, .null]) d_M_init_258 cl_Model k_M_109 (by decide) rfl rfl rfl ⟨rfl, rfl⟩ rfl (Nat.le_of_ble_eq_true rfl) rfl ?_
  refine aw_aload_n d_M_init_261 rfl ?_
  refine aw_bipush (v := nI 96) d_M_init_262 (by decide) ?_
  refine aw_newarray (N := 96) d_M_init_264 (by decide) (by decide) (by decide) ⟨by decide, by decide⟩ ?_
  refine aw_putF (k := 44) (fs' := [.int 0, .ref 57, .ref 58, .ref 59, .ref 60, .ref 61, .ref 62, .ref 63, .int 0, .ref 64, .ref 65, .int (nI 2), .int (nI 3), .int 0, .int 0, .ref 66, .ref 67, .int 0, .ref 68, .ref 69, .ref 70, .ref 71, .ref 72, .ref 73, .ref 74, .int 0, .int (-1), .ref 75, .ref 76, .int 0, .int 0, .int 0, .ref 77, .ref 78, .int 0, .ref 79, .ref 80, .ref 81, .ref 82, .ref 83, .ref 84, .int 0, .ref 85, .ref 86, .ref 87, .null]) d_M_init_266 cl_Model k_M_112 (by decide) rfl rfl rfl ⟨rfl, rfl⟩ rfl (Nat.le_of_ble_eq_true rfl) rfl ?_
  refine aw_aload_n d_M_init_269 rfl ?_
  refine aw_bipush (v := nI 24) d_M_init_270 (by decide) ?_
  refine aw_newarray (N := 24) d_M_init_272 (by decide) (by decide) (by decide) ⟨by decide, by decide⟩ ?_
  refine aw_putF (k := 45) (fs' := [.int 0, .ref 57, .ref 58, .ref 59, .ref 60, .ref 61, .ref 62, .ref 63, .int 0, .ref 64, .ref 65, .int (nI 2), .int (nI 3), .int 0, .int 0, .ref 66, .ref 67, .int 0, .ref 68, .ref 69, .ref 70, .ref 71, .ref 72, .ref 73, .ref 74, .int 0, .int (-1), .ref 75, .ref 76, .int 0, .int 0, .int 0, .ref 77, .ref 78, .int 0, .ref 79, .ref 80, .ref 81, .ref 82, .ref 83, .ref 84, .int 0, .ref 85, .ref 86, .ref 87, .ref 88]) d_M_init_274 cl_Model k_M_115 (by decide) rfl rfl rfl ⟨rfl, rfl⟩ rfl (Nat.le_of_ble_eq_true rfl) rfl ?_
  refine aw_iconst (v := nI 0) d_M_init_277 (by decide) ?_
  refine aw_istore_n (L' := [some (.ref 56), some (.int (nI 0))]) d_M_init_278 ⟨by decide, rfl⟩ rfl ?_
  suffices H : ∀ hm : ab_H, hm 56 = oM 0 0 2 3 0 0 0 (nI 0) (-1) 0 0 0 0 false → rw_ hm 57 6 (fun _ => 0) → rw_ hm 58 6 (fun _ => 0) → rw_ hm 59 6 (fun _ => 0) → ra_ hm 60 6 → hm 61 = .inl (36, fun _ => 0) → ra_ hm 62 6 → ra_ hm 63 6 → rw_ hm 64 4 (fun _ => 0) → rw_ hm 65 4 (fun _ => 0) → rw_ hm 79 6 (fun _ => 0) → hm 85 = .inl (4, fun _ => 0) → hm 86 = .inl (4, fun _ => 0) → hm 87 = .inl (96, fun _ => 0) → ra_ hm 88 24 → PMr hm → ra_ hm 73 214560 → ra_ hm 74 214560 → ra_ hm 76 100 → ra_ hm 84 128 → (∀ k, (k < 56 ∨ 88 < k) → hm k = h k) → ab_W Y_M_init none l (fun r m2 h2 => r = none ∧ m2 = 88 ∧ PM V 0 h2 S0 ∧ ∀ k, (k < 56 ∨ 88 < k) → h2 k = h k) 279 [some (.ref 56), some (.int (nI 0))] [] 88 hm (32, 483496) from
    H _ rfl ⟨_, rfl, fun k hk => rfl⟩ ⟨_, rfl, fun k hk => rfl⟩ ⟨_, rfl, fun k hk => rfl⟩ ⟨_, rfl⟩ rfl ⟨_, rfl⟩ ⟨_, rfl⟩ ⟨_, rfl, fun k hk => rfl⟩ ⟨_, rfl, fun k hk => rfl⟩ ⟨_, rfl, fun k hk => rfl⟩ rfl rfl rfl ⟨_, rfl⟩ ⟨⟨_, rfl⟩, ⟨_, rfl⟩, ⟨_, rfl⟩, ⟨_, rfl⟩, ⟨_, rfl⟩, ⟨_, rfl⟩, ⟨_, rfl⟩, ⟨_, rfl⟩, ⟨_, rfl⟩, ⟨_, rfl⟩, ⟨_, rfl⟩, ⟨_, rfl⟩, ⟨_, rfl⟩, ⟨_, rfl⟩⟩ ⟨_, rfl⟩ ⟨_, rfl⟩ ⟨_, rfl⟩ ⟨_, rfl⟩ (fun k hk => by simp only [ab_set]; repeat rw [if_neg (by omega)])
  intro hm u56 u57 u58 u59 u60 u61 u62 u63 u64 u65 u79 u85 u86 u87 u88 ur u73 u74 u76 u84 uf
  rw [← ab_set_eq u85]
  refine mi_l1 l u56 (fun g1 e1 => ?_) 4 0 _ rfl (fun i hi => absurd hi (Nat.not_lt_zero _))
  refine aw_iconst (v := nI 0) d_M_init_297 (by decide) ?_
  refine aw_istore_n (L' := [some (.ref 56), some (.int (nI 0))]) d_M_init_298 ⟨by decide, rfl⟩ rfl ?_
  rw [← ab_set_eq (h := ab_set hm 85 (.inl (4, g1))) (a := 61) u61]
  refine mi_l2 l (h := ab_set hm 85 (.inl (4, g1))) u56 (fun g2 e2 => ?_) 36 0 _ rfl (fun i hi => absurd hi (Nat.not_lt_zero _))
  refine aw_return d_M_init_318 rfl ?_
  obtain ⟨a0, a1, a2, a3, a4, a5, a6, a7, a8, a9, a10, a11, a12, a13⟩ := ur
  obtain ⟨b73, c73⟩ := u73
  obtain ⟨b74, c74⟩ := u74
  obtain ⟨b60, c60⟩ := u60
  obtain ⟨b62, c62⟩ := u62
  obtain ⟨b63, c63⟩ := u63
  obtain ⟨b76, c76⟩ := u76
  obtain ⟨b84, c84⟩ := u84
  refine ⟨rfl, rfl, ⟨⟨0, (-1), 0, 0, 0, b73, b74, u56, Nat.le_refl _, by decide, Or.inl rfl, c73, c74, Or.inl rfl⟩, ⟨u57, u58, u59, ⟨b60, c60, fun k hk => absurd hk (Nat.not_lt_zero _)⟩, ⟨g2, rfl, e2⟩, ⟨b62, c62, fun k hk => absurd hk (Nat.not_lt_zero _)⟩, ⟨b63, c63, fun k hk => absurd hk (Nat.not_lt_zero _)⟩, u64, u65, u79⟩, ⟨b76, c76, fun k hk => absurd hk (Nat.not_lt_zero _)⟩, ⟨⟨g1, rfl, e1⟩, ⟨_, u86, fun k hk => rfl⟩, ⟨_, u87, fun s k hs hk => rfl⟩, u88⟩, ⟨a0, a1, a2, a3, a4, a5, a6, a7, a8, a9, a10, a11, a12, a13⟩, ⟨b84, c84, fun K hK => by cases hK⟩⟩, fun k hk => ?_⟩
  rw [ab_set_ne (by omega), ab_set_ne (by omega)]
  exact uf k hk
