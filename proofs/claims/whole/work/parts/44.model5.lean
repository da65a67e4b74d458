theorem l_keeps {X : ab_X} {l : Launch} {Q : Option Value → Nat → ab_H → Prop} {m : Nat} {h : ab_H} {us : Nat × Nat} {a n at9 : Nat} {f g : Nat → Int32} (hne : a ≠ 84) (ha : h a = .inl (n, f)) (hn : at9 + n ≤ 128)
    (ex : ab_W Y_M_keeps X l Q 22 [some (.ref a), some (.ref 84), some (.int (nI at9)), some (.int (nI n))] [] m (ab_set h 84 (.inl (128, fb_put g f at9 n))) us) :
    ∀ k i, i + k = n → ab_W Y_M_keeps X l Q 2 [some (.ref a), some (.ref 84), some (.int (nI at9)), some (.int (nI i))] [] m (ab_set h 84 (.inl (128, fb_put g f at9 i))) us := by
  intro k
  induction k with
  | zero =>
    intro i hi
    have hi : i = n := by omega
    subst hi
    have ha2 : ab_set h 84 (.inl (128, fb_put g f at9 i)) a = .inl (i, f) := (ab_set_ne hne).trans ha
    refine aw_iload_n d_M_keeps_2 rfl ?_
    refine aw_aload_n d_M_keeps_3 rfl ?_
    refine aw_alen d_M_keeps_4 ha2 ?_
    refine aw_icmp_ge (tgt := 22) d_M_keeps_5 (by decide) (fun c5 => ?_) (fun c5 => ?_)
    · exact ex
    · exact absurd (Int32.le_refl _) c5
  | succ k ih =>
    intro i hi
    have ha2 : ab_set h 84 (.inl (128, fb_put g f at9 i)) a = .inl (n, f) := (ab_set_ne hne).trans ha
    refine aw_iload_n d_M_keeps_2 rfl ?_
    refine aw_aload_n d_M_keeps_3 rfl ?_
    refine aw_alen d_M_keeps_4 ha2 ?_
    refine aw_icmp_ge (tgt := 22) d_M_keeps_5 (by decide) (fun c5 => ?_) (fun c5 => ?_)
    · exact absurd c5 (nI_ge (by omega) (by omega))
    · refine aw_aload_n d_M_keeps_8 rfl ?_
      refine aw_iload_n d_M_keeps_9 rfl ?_
      refine aw_iload_n d_M_keeps_10 rfl ?_
      refine aw_iadd d_M_keeps_11 ?_
      rw [nI_add]
      refine aw_aload_n d_M_keeps_12 rfl ?_
      refine aw_iload_n d_M_keeps_13 rfl ?_
      refine aw_ialoadN d_M_keeps_14 ha2 (by omega) (by omega) ?_
      refine aw_iastoreN d_M_keeps_15 rfl (by omega) (by decide) ?_
      rw [ab_set_set, fb_put_succ]
      refine aw_iinc (v := nI (i + 1)) (L' := [some (.ref a), some (.ref 84), some (.int (nI at9)), some (.int (nI (i + 1)))]) d_M_keeps_16 rfl (nI_1 _) ⟨by decide, rfl⟩ rfl ?_
      refine aw_goto (tgt := 2) d_M_keeps_19 (by decide) ?_
      exact ih (i + 1) (by omega)
theorem c_keeps {m : Nat} {h : ab_H} {a n at9 : Nat} {f g : Nat → Int32} (hne : a ≠ 84) (ha : h a = .inl (n, f)) (hg : h 84 = .inl (128, g)) (hn : at9 + n ≤ 128) : ab_D Y_M_keeps [.ref a, .ref 84, .int (nI at9)] m h (some (.int (nI (at9 + n)))) m (ab_set h 84 (.inl (128, fb_put g f at9 n))) := by
  refine ab_C.of (L := [some (.ref a), some (.ref 84), some (.int (nI at9)), none]) rfl rfl (Nat.le_of_ble_eq_true rfl) (fun l => ?_)
  refine aw_iconst (v := nI 0) d_M_keeps_0 (by decide) ?_
  refine aw_istore_n (L' := [some (.ref a), some (.ref 84), some (.int (nI at9)), some (.int (nI 0))]) d_M_keeps_1 ⟨by decide, rfl⟩ rfl ?_
  have e0 : ab_set h 84 (.inl (128, fb_put g f at9 0)) = h := by rw [fb_put_0]; exact ab_set_eq hg
  have ha2 : ab_set h 84 (.inl (128, fb_put g f at9 n)) a = .inl (n, f) := (ab_set_ne hne).trans ha
  have lp := l_keeps (X := none) (l := l) (Q := fun r' m' h' => r' = some (.int (nI (at9 + n))) ∧ m' = m ∧ h' = ab_set h 84 (.inl (128, fb_put g f at9 n))) (m := m) (h := h) (us := (0, 0)) (g := g) hne ha hn ?_ n 0 (by omega)
  · rw [e0] at lp
    exact lp
  · refine aw_iload_n d_M_keeps_22 rfl ?_
    refine aw_aload_n d_M_keeps_23 rfl ?_
    refine aw_alen d_M_keeps_24 ha2 ?_
    refine aw_iadd d_M_keeps_25 ?_
    rw [show Int32.ofNat n = nI n from rfl, nI_add]
    refine aw_ireturn d_M_keeps_26 rfl rfl ?_
    exact ⟨rfl, rfl, rfl⟩
theorem l_gives {X : ab_X} {l : Launch} {Q : Option Value → Nat → ab_H → Prop} {m : Nat} {h : ab_H} {us : Nat × Nat} {a n at9 : Nat} {f g : Nat → Int32} (hne : a ≠ 84) (hg : h 84 = .inl (128, g)) (hn : at9 + n ≤ 128)
    (ex : ab_W Y_M_gives X l Q 22 [some (.ref 84), some (.int (nI at9)), some (.ref a), some (.int (nI n))] [] m (ab_set h a (.inl (n, fa_fill (fun k => g (at9 + k)) f n))) us) :
    ∀ k i, i + k = n → ab_W Y_M_gives X l Q 2 [some (.ref 84), some (.int (nI at9)), some (.ref a), some (.int (nI i))] [] m (ab_set h a (.inl (n, fa_fill (fun k => g (at9 + k)) f i))) us := by
  intro k
  induction k with
  | zero =>
    intro i hi
    have hi : i = n := by omega
    subst hi
    refine aw_iload_n d_M_gives_2 rfl ?_
    refine aw_aload_n d_M_gives_3 rfl ?_
    refine aw_alen d_M_gives_4 (ab_set_self h a _) ?_
    refine aw_icmp_ge (tgt := 22) d_M_gives_5 (by decide) (fun c5 => ?_) (fun c5 => ?_)
    · exact ex
    · exact absurd (Int32.le_refl _) c5
  | succ k ih =>
    intro i hi
    have hg2 : ab_set h a (.inl (n, fa_fill (fun k => g (at9 + k)) f i)) 84 = .inl (128, g) := (ab_set_ne hne.symm).trans hg
    have e : upd (fa_fill (fun k => g (at9 + k)) f i) i (g (at9 + i)) = fa_fill (fun k => g (at9 + k)) f (i + 1) := fa_fill_succ (fun k => g (at9 + k)) f i
    refine aw_iload_n d_M_gives_2 rfl ?_
    refine aw_aload_n d_M_gives_3 rfl ?_
    refine aw_alen d_M_gives_4 (ab_set_self h a _) ?_
    refine aw_icmp_ge (tgt := 22) d_M_gives_5 (by decide) (fun c5 => ?_) (fun c5 => ?_)
    · exact absurd c5 (nI_ge (by omega) (by omega))
    · refine aw_aload_n d_M_gives_8 rfl ?_
      refine aw_iload_n d_M_gives_9 rfl ?_
      refine aw_aload_n d_M_gives_10 rfl ?_
      refine aw_iload_n d_M_gives_11 rfl ?_
      refine aw_iload_n d_M_gives_12 rfl ?_
      refine aw_iadd d_M_gives_13 ?_
      rw [nI_add]
      refine aw_ialoadN d_M_gives_14 hg2 (by omega) (by decide) ?_
      refine aw_iastoreN d_M_gives_15 (ab_set_self h a _) (by omega) (by omega) ?_
      rw [ab_set_set, e]
      refine aw_iinc (v := nI (i + 1)) (L' := [some (.ref 84), some (.int (nI at9)), some (.ref a), some (.int (nI (i + 1)))]) d_M_gives_16 rfl (nI_1 _) ⟨by decide, rfl⟩ rfl ?_
      refine aw_goto (tgt := 2) d_M_gives_19 (by decide) ?_
      exact ih (i + 1) (by omega)
theorem c_gives {m : Nat} {h : ab_H} {a n at9 : Nat} {f g : Nat → Int32} (hne : a ≠ 84) (ha : h a = .inl (n, f)) (hg : h 84 = .inl (128, g)) (hn : at9 + n ≤ 128) : ab_D Y_M_gives [.ref 84, .int (nI at9), .ref a] m h (some (.int (nI (at9 + n)))) m (ab_set h a (.inl (n, fa_fill (fun k => g (at9 + k)) f n))) := by
  refine ab_C.of (L := [some (.ref 84), some (.int (nI at9)), some (.ref a), none]) rfl rfl (Nat.le_of_ble_eq_true rfl) (fun l => ?_)
  refine aw_iconst (v := nI 0) d_M_gives_0 (by decide) ?_
  refine aw_istore_n (L' := [some (.ref 84), some (.int (nI at9)), some (.ref a), some (.int (nI 0))]) d_M_gives_1 ⟨by decide, rfl⟩ rfl ?_
  have e0 : ab_set h a (.inl (n, fa_fill (fun k => g (at9 + k)) f 0)) = h := by rw [fa_fill_0]; exact ab_set_eq ha
  have lp := l_gives (X := none) (l := l) (Q := fun r' m' h' => r' = some (.int (nI (at9 + n))) ∧ m' = m ∧ h' = ab_set h a (.inl (n, fa_fill (fun k => g (at9 + k)) f n))) (m := m) (h := h) (us := (0, 0)) (f := f) hne hg hn ?_ n 0 (by omega)
  · rw [e0] at lp
    exact lp
  · refine aw_iload_n d_M_gives_22 rfl ?_
    refine aw_aload_n d_M_gives_23 rfl ?_
    refine aw_alen d_M_gives_24 (ab_set_self h a _) ?_
    refine aw_iadd d_M_gives_25 ?_
    rw [show Int32.ofNat n = nI n from rfl, nI_add]
    refine aw_ireturn d_M_gives_26 rfl rfl ?_
    exact ⟨rfl, rfl, rfl⟩
theorem y_image {V : VV} {m c : Nat} {h : ab_H} {S : SS} (hM : PM V c h S) (ok : S_ok S) (hc : c < 900)   : CM V Y_M_image [] m c h (fun r S2 => (r, S2) = sp_image S) := by
  obtain ⟨⟨tab, la, at_, wr, ve, fs, ft, m0, m1, m2, m3, m4, m5, m6⟩, ⟨n0, n1, n2, n3, n4, n5, n6, n7, n8, n9⟩, q1, q2, q3, q4⟩ := id hM
  have hn6 : N_n (S_N S) ≤ 6 := ok.1.1
  have hnT := nI_toInt (show N_n (S_N S) < 2 ^ 31 by omega)
  refine ab_C.of (L := [some (.ref 56), none]) rfl rfl (Nat.le_of_ble_eq_true rfl) (fun l => ?_)
  obtain ⟨gI, hI, aI⟩ := id q4
  obtain ⟨gx, hx, ax⟩ := id n0
  obtain ⟨gy, hy, ay⟩ := id n1
  obtain ⟨gm, hm, am⟩ := id n2
  obtain ⟨gh, hh, ah⟩ := id n3
  obtain ⟨gl, hl, al⟩ := id n4
  obtain ⟨gw, hw, aw⟩ := id n5
  obtain ⟨ga, ha, aa⟩ := id n6
  obtain ⟨gi, hi, ai⟩ := id n7
  obtain ⟨gj, hj, aj⟩ := id n8
  obtain ⟨gf, hf, af⟩ := id n9
  refine aw_aload_n d_M_image_0 rfl ?_
  refine aw_get (k := 1) d_M_image_1 cl_Model k_M_7 (by decide) m0 rfl ?_
  refine aw_aload_n d_M_image_4 rfl ?_
  refine aw_get (k := 40) d_M_image_5 cl_Model k_M_103 (by decide) m0 rfl ?_
  refine aw_iconst (v := nI 0) d_M_image_8 (by decide) ?_
  refine aw_s0i d_M_image_9 k_M_331 ok_M_keeps rfl ⟨rfl, rfl⟩ (c_keeps (a := 57) (n := 6) (f := gx) (at9 := 0) (by decide) hx hI (by decide)) rfl rfl (Nat.le_of_ble_eq_true rfl) ?_
  refine aw_istore_n (L' := [some (.ref 56), some (.int (nI 6))]) d_M_image_12 ⟨by decide, rfl⟩ rfl ?_
  refine aw_aload_n d_M_image_13 rfl ?_
  refine aw_get (k := 2) d_M_image_14 cl_Model k_M_13 (by decide) m0 rfl ?_
  refine aw_aload_n d_M_image_17 rfl ?_
  refine aw_get (k := 40) d_M_image_18 cl_Model k_M_103 (by decide) m0 rfl ?_
  refine aw_iload_n d_M_image_21 rfl ?_
  refine aw_s0i d_M_image_22 k_M_331 ok_M_keeps rfl ⟨rfl, rfl⟩ (c_keeps (a := 58) (n := 6) (f := gy) (at9 := 6) (by decide) hy rfl (by decide)) rfl rfl (Nat.le_of_ble_eq_true rfl) ?_
  refine aw_istore_n (L' := [some (.ref 56), some (.int (nI 12))]) d_M_image_25 ⟨by decide, rfl⟩ rfl ?_
  refine aw_aload_n d_M_image_26 rfl ?_
  refine aw_get (k := 3) d_M_image_27 cl_Model k_M_16 (by decide) m0 rfl ?_
  refine aw_aload_n d_M_image_30 rfl ?_
  refine aw_get (k := 40) d_M_image_31 cl_Model k_M_103 (by decide) m0 rfl ?_
  refine aw_iload_n d_M_image_34 rfl ?_
  refine aw_s0i d_M_image_35 k_M_331 ok_M_keeps rfl ⟨rfl, rfl⟩ (c_keeps (a := 59) (n := 6) (f := gm) (at9 := 12) (by decide) hm rfl (by decide)) rfl rfl (Nat.le_of_ble_eq_true rfl) ?_
  refine aw_istore_n (L' := [some (.ref 56), some (.int (nI 18))]) d_M_image_38 ⟨by decide, rfl⟩ rfl ?_
  refine aw_aload_n d_M_image_39 rfl ?_
  refine aw_get (k := 4) d_M_image_40 cl_Model k_M_19 (by decide) m0 rfl ?_
  refine aw_aload_n d_M_image_43 rfl ?_
  refine aw_get (k := 40) d_M_image_44 cl_Model k_M_103 (by decide) m0 rfl ?_
  refine aw_iload_n d_M_image_47 rfl ?_
  refine aw_s0i d_M_image_48 k_M_331 ok_M_keeps rfl ⟨rfl, rfl⟩ (c_keeps (a := 60) (n := 6) (f := gh) (at9 := 18) (by decide) hh rfl (by decide)) rfl rfl (Nat.le_of_ble_eq_true rfl) ?_
  refine aw_istore_n (L' := [some (.ref 56), some (.int (nI 24))]) d_M_image_51 ⟨by decide, rfl⟩ rfl ?_
  refine aw_aload_n d_M_image_52 rfl ?_
  refine aw_get (k := 5) d_M_image_53 cl_Model k_M_22 (by decide) m0 rfl ?_
  refine aw_aload_n d_M_image_56 rfl ?_
  refine aw_get (k := 40) d_M_image_57 cl_Model k_M_103 (by decide) m0 rfl ?_
  refine aw_iload_n d_M_image_60 rfl ?_
  refine aw_s0i d_M_image_61 k_M_331 ok_M_keeps rfl ⟨rfl, rfl⟩ (c_keeps (a := 61) (n := 36) (f := gl) (at9 := 24) (by decide) hl rfl (by decide)) rfl rfl (Nat.le_of_ble_eq_true rfl) ?_
  refine aw_istore_n (L' := [some (.ref 56), some (.int (nI 60))]) d_M_image_64 ⟨by decide, rfl⟩ rfl ?_
  refine aw_aload_n d_M_image_65 rfl ?_
  refine aw_get (k := 6) d_M_image_66 cl_Model k_M_25 (by decide) m0 rfl ?_
  refine aw_aload_n d_M_image_69 rfl ?_
  refine aw_get (k := 40) d_M_image_70 cl_Model k_M_103 (by decide) m0 rfl ?_
  refine aw_iload_n d_M_image_73 rfl ?_
  refine aw_s0i d_M_image_74 k_M_331 ok_M_keeps rfl ⟨rfl, rfl⟩ (c_keeps (a := 62) (n := 6) (f := gw) (at9 := 60) (by decide) hw rfl (by decide)) rfl rfl (Nat.le_of_ble_eq_true rfl) ?_
  refine aw_istore_n (L' := [some (.ref 56), some (.int (nI 66))]) d_M_image_77 ⟨by decide, rfl⟩ rfl ?_
  refine aw_aload_n d_M_image_78 rfl ?_
  refine aw_get (k := 7) d_M_image_79 cl_Model k_M_28 (by decide) m0 rfl ?_
  refine aw_aload_n d_M_image_82 rfl ?_
  refine aw_get (k := 40) d_M_image_83 cl_Model k_M_103 (by decide) m0 rfl ?_
  refine aw_iload_n d_M_image_86 rfl ?_
  refine aw_s0i d_M_image_87 k_M_331 ok_M_keeps rfl ⟨rfl, rfl⟩ (c_keeps (a := 63) (n := 6) (f := ga) (at9 := 66) (by decide) ha rfl (by decide)) rfl rfl (Nat.le_of_ble_eq_true rfl) ?_
  refine aw_istore_n (L' := [some (.ref 56), some (.int (nI 72))]) d_M_image_90 ⟨by decide, rfl⟩ rfl ?_
  refine aw_aload_n d_M_image_91 rfl ?_
  refine aw_get (k := 9) d_M_image_92 cl_Model k_M_31 (by decide) m0 rfl ?_
  refine aw_aload_n d_M_image_95 rfl ?_
  refine aw_get (k := 40) d_M_image_96 cl_Model k_M_103 (by decide) m0 rfl ?_
  refine aw_iload_n d_M_image_99 rfl ?_
  refine aw_s0i d_M_image_100 k_M_331 ok_M_keeps rfl ⟨rfl, rfl⟩ (c_keeps (a := 64) (n := 4) (f := gi) (at9 := 72) (by decide) hi rfl (by decide)) rfl rfl (Nat.le_of_ble_eq_true rfl) ?_
  refine aw_istore_n (L' := [some (.ref 56), some (.int (nI 76))]) d_M_image_103 ⟨by decide, rfl⟩ rfl ?_
  refine aw_aload_n d_M_image_104 rfl ?_
  refine aw_get (k := 10) d_M_image_105 cl_Model k_M_34 (by decide) m0 rfl ?_
  refine aw_aload_n d_M_image_108 rfl ?_
  refine aw_get (k := 40) d_M_image_109 cl_Model k_M_103 (by decide) m0 rfl ?_
  refine aw_iload_n d_M_image_112 rfl ?_
  refine aw_s0i d_M_image_113 k_M_331 ok_M_keeps rfl ⟨rfl, rfl⟩ (c_keeps (a := 65) (n := 4) (f := gj) (at9 := 76) (by decide) hj rfl (by decide)) rfl rfl (Nat.le_of_ble_eq_true rfl) ?_
  refine aw_istore_n (L' := [some (.ref 56), some (.int (nI 80))]) d_M_image_116 ⟨by decide, rfl⟩ rfl ?_
  refine aw_aload_n d_M_image_117 rfl ?_
  refine aw_get (k := 35) d_M_image_118 cl_Model k_M_88 (by decide) m0 rfl ?_
  refine aw_aload_n d_M_image_121 rfl ?_
  refine aw_get (k := 40) d_M_image_122 cl_Model k_M_103 (by decide) m0 rfl ?_
  refine aw_iload_n d_M_image_125 rfl ?_
  refine aw_s0i d_M_image_126 k_M_331 ok_M_keeps rfl ⟨rfl, rfl⟩ (c_keeps (a := 79) (n := 6) (f := gf) (at9 := 80) (by decide) hf rfl (by decide)) rfl rfl (Nat.le_of_ble_eq_true rfl) ?_
  refine aw_istore_n (L' := [some (.ref 56), some (.int (nI 86))]) d_M_image_129 ⟨by decide, rfl⟩ rfl ?_
  refine aw_aload_n d_M_image_130 rfl ?_
  refine aw_get (k := 40) d_M_image_131 cl_Model k_M_103 (by decide) m0 rfl ?_
  refine aw_iload_n d_M_image_134 rfl ?_
  refine aw_aload_n d_M_image_135 rfl ?_
  refine aw_get (k := 0) d_M_image_136 cl_Model k_M_118 (by decide) m0 rfl ?_
  refine aw_iastoreN d_M_image_139 rfl (by omega) (by decide) ?_
  refine aw_aload_n d_M_image_140 rfl ?_
  refine aw_get (k := 40) d_M_image_141 cl_Model k_M_103 (by decide) m0 rfl ?_
  refine aw_iload_n d_M_image_144 rfl ?_
  refine aw_iconst (v := nI 1) d_M_image_145 (by decide) ?_
  refine aw_iadd d_M_image_146 ?_
  rw [nI_add]
  refine aw_aload_n d_M_image_147 rfl ?_
  refine aw_get (k := 8) d_M_image_148 cl_Model k_M_174 (by decide) m0 rfl ?_
  refine aw_iastoreN d_M_image_151 rfl (by omega) (by decide) ?_
  refine aw_aload_n d_M_image_152 rfl ?_
  refine aw_get (k := 40) d_M_image_153 cl_Model k_M_103 (by decide) m0 rfl ?_
  refine aw_iload_n d_M_image_156 rfl ?_
  refine aw_iconst (v := nI 2) d_M_image_157 (by decide) ?_
  refine aw_iadd d_M_image_158 ?_
  rw [nI_add]
  refine aw_aload_n d_M_image_159 rfl ?_
  refine aw_get (k := 11) d_M_image_160 cl_Model k_M_37 (by decide) m0 rfl ?_
  refine aw_iastoreN d_M_image_163 rfl (by omega) (by decide) ?_
  refine aw_aload_n d_M_image_164 rfl ?_
  refine aw_get (k := 40) d_M_image_165 cl_Model k_M_103 (by decide) m0 rfl ?_
  refine aw_iload_n d_M_image_168 rfl ?_
  refine aw_iconst (v := nI 3) d_M_image_169 (by decide) ?_
  refine aw_iadd d_M_image_170 ?_
  rw [nI_add]
  refine aw_aload_n d_M_image_171 rfl ?_
  refine aw_get (k := 12) d_M_image_172 cl_Model k_M_41 (by decide) m0 rfl ?_
  refine aw_iastoreN d_M_image_175 rfl (by omega) (by decide) ?_
  refine aw_aload_n d_M_image_176 rfl ?_
  refine aw_get (k := 40) d_M_image_177 cl_Model k_M_103 (by decide) m0 rfl ?_
  refine aw_iload_n d_M_image_180 rfl ?_
  refine aw_iconst (v := nI 4) d_M_image_181 (by decide) ?_
  refine aw_iadd d_M_image_182 ?_
  rw [nI_add]
  refine aw_aload_n d_M_image_183 rfl ?_
  refine aw_get (k := 13) d_M_image_184 cl_Model k_M_181 (by decide) m0 rfl ?_
  refine aw_iastoreN d_M_image_187 rfl (by omega) (by decide) ?_
  refine aw_aload_n d_M_image_188 rfl ?_
  refine aw_get (k := 40) d_M_image_189 cl_Model k_M_103 (by decide) m0 rfl ?_
  refine aw_iload_n d_M_image_192 rfl ?_
  refine aw_iconst (v := nI 5) d_M_image_193 (by decide) ?_
  refine aw_iadd d_M_image_194 ?_
  rw [nI_add]
  refine aw_aload_n d_M_image_195 rfl ?_
  refine aw_get (k := 14) d_M_image_196 cl_Model k_M_184 (by decide) m0 rfl ?_
  refine aw_iastoreN d_M_image_199 rfl (by omega) (by decide) ?_
  refine aw_aload_n d_M_image_200 rfl ?_
  refine aw_get (k := 40) d_M_image_201 cl_Model k_M_103 (by decide) m0 rfl ?_
  refine aw_iload_n d_M_image_204 rfl ?_
  refine aw_bipush (v := nI 6) d_M_image_205 (by decide) ?_
  refine aw_iadd d_M_image_207 ?_
  rw [nI_add]
  refine aw_aload_n d_M_image_208 rfl ?_
  refine aw_get (k := 34) d_M_image_209 cl_Model k_M_187 (by decide) m0 rfl ?_
  refine aw_iastoreN d_M_image_212 rfl (by omega) (by decide) ?_
  refine aw_aload_n d_M_image_213 rfl ?_
  refine aw_iconst (v := nI 1) d_M_image_214 (by decide) ?_
  refine aw_put (k := 41) (fs' := [.int (nI (N_n (S_N S))), .ref 57, .ref 58, .ref 59, .ref 60, .ref 61, .ref 62, .ref 63, .int (nI (N_ns (S_N S))), .ref 64, .ref 65, .int (nI (N_ra (S_N S))), .int (nI (N_se (S_N S))), .int (N_me (S_N S)), .int (N_mi (S_N S)), .ref 66, .ref 67, .int tab, .ref 68, .ref 69, .ref 70, .ref 71, .ref 72, .ref 73, .ref 74, .int (nI ve), .int la, .ref 75, .ref 76, .int (nI (S_tl S)), .int at_, .int wr, .ref 77, .ref 78, .int (nI (N_fe (S_N S))), .ref 79, .ref 80, .ref 81, .ref 82, .ref 83, .ref 84, .int (nI 1), .ref 85, .ref 86, .ref 87, .ref 88]) d_M_image_215 cl_Model k_M_335 (by decide) rfl ⟨by decide, by decide⟩ m0 (Nat.le_of_ble_eq_true rfl) rfl ?_
  refine aw_iconst (v := nI 1) d_M_image_218 (by decide) ?_
  refine aw_ireturn d_M_image_219 rfl rfl ?_
  refine ⟨_, S_K_ S (some (S_N S)), rfl, rfl, ⟨⟨tab, la, at_, wr, ve, fs, ft, rfl, by omega, by omega, m3, m4, m5, m6⟩, ⟨n0, n1, n2, n3, n4, n5, n6, n7, n8, n9⟩, q1, q2, q3, ⟨_, rfl, fun K hK => ?_⟩⟩, rfl, fun k hk => by simp only [ab_set]; repeat rw [if_neg (by omega)]⟩
  cases hK
  refine ⟨fun k hk => ⟨?_, ?_, ?_⟩, fun k hk => ⟨?_, ?_, ?_⟩, fun k hk => ?_, fun k hk => ⟨?_, ?_⟩, fun k hk => ?_, ?_, ?_, ?_, ?_, ?_, ?_, ?_⟩
  · refine Eq.trans ?_ (ax k hk)
    have hk6 : k < 36 := by first | omega | exact Nat.lt_of_lt_of_le hk (by have : N_n (S_N S) ≤ 6 := hn6; omega)
    first | have hk5 : k < 6 := (by first | omega | exact Nat.lt_of_lt_of_le hk hn6) | skip
    simp only [fb_put, upd]
    repeat (first | rw [if_pos (by omega)] | rw [if_neg (by omega)])
    first | rfl | (congr 1; omega)
  · refine Eq.trans ?_ (ay k hk)
    have hk6 : k < 36 := by first | omega | exact Nat.lt_of_lt_of_le hk (by have : N_n (S_N S) ≤ 6 := hn6; omega)
    first | have hk5 : k < 6 := (by first | omega | exact Nat.lt_of_lt_of_le hk hn6) | skip
    simp only [fb_put, upd]
    repeat (first | rw [if_pos (by omega)] | rw [if_neg (by omega)])
    first | rfl | (congr 1; omega)
  · refine Eq.trans ?_ (am k hk)
    have hk6 : k < 36 := by first | omega | exact Nat.lt_of_lt_of_le hk (by have : N_n (S_N S) ≤ 6 := hn6; omega)
    first | have hk5 : k < 6 := (by first | omega | exact Nat.lt_of_lt_of_le hk hn6) | skip
    simp only [fb_put, upd]
    repeat (first | rw [if_pos (by omega)] | rw [if_neg (by omega)])
    first | rfl | (congr 1; omega)
  · refine Eq.trans ?_ (ah k hk)
    have hk6 : k < 36 := by first | omega | exact Nat.lt_of_lt_of_le hk (by have : N_n (S_N S) ≤ 6 := hn6; omega)
    first | have hk5 : k < 6 := (by first | omega | exact Nat.lt_of_lt_of_le hk hn6) | skip
    simp only [fb_put, upd]
    repeat (first | rw [if_pos (by omega)] | rw [if_neg (by omega)])
    first | rfl | (congr 1; omega)
  · refine Eq.trans ?_ (aw k hk)
    have hk6 : k < 36 := by first | omega | exact Nat.lt_of_lt_of_le hk (by have : N_n (S_N S) ≤ 6 := hn6; omega)
    first | have hk5 : k < 6 := (by first | omega | exact Nat.lt_of_lt_of_le hk hn6) | skip
    simp only [fb_put, upd]
    repeat (first | rw [if_pos (by omega)] | rw [if_neg (by omega)])
    first | rfl | (congr 1; omega)
  · refine Eq.trans ?_ (aa k hk)
    have hk6 : k < 36 := by first | omega | exact Nat.lt_of_lt_of_le hk (by have : N_n (S_N S) ≤ 6 := hn6; omega)
    first | have hk5 : k < 6 := (by first | omega | exact Nat.lt_of_lt_of_le hk hn6) | skip
    simp only [fb_put, upd]
    repeat (first | rw [if_pos (by omega)] | rw [if_neg (by omega)])
    first | rfl | (congr 1; omega)
  · refine Eq.trans ?_ (al k hk)
    have hk6 : k < 36 := by first | omega | exact Nat.lt_of_lt_of_le hk (by have : N_n (S_N S) ≤ 6 := hn6; omega)
    first | have hk5 : k < 6 := (by first | omega | exact Nat.lt_of_lt_of_le hk hn6) | skip
    simp only [fb_put, upd]
    repeat (first | rw [if_pos (by omega)] | rw [if_neg (by omega)])
    first | rfl | (congr 1; omega)
  · refine Eq.trans ?_ (ai k hk)
    have hk6 : k < 36 := by first | omega | exact Nat.lt_of_lt_of_le hk (by have : N_n (S_N S) ≤ 6 := hn6; omega)
    first | have hk5 : k < 6 := (by first | omega | exact Nat.lt_of_lt_of_le hk hn6) | skip
    simp only [fb_put, upd]
    repeat (first | rw [if_pos (by omega)] | rw [if_neg (by omega)])
    first | rfl | (congr 1; omega)
  · refine Eq.trans ?_ (aj k hk)
    have hk6 : k < 36 := by first | omega | exact Nat.lt_of_lt_of_le hk (by have : N_n (S_N S) ≤ 6 := hn6; omega)
    first | have hk5 : k < 6 := (by first | omega | exact Nat.lt_of_lt_of_le hk hn6) | skip
    simp only [fb_put, upd]
    repeat (first | rw [if_pos (by omega)] | rw [if_neg (by omega)])
    first | rfl | (congr 1; omega)
  · refine Eq.trans ?_ (af k hk)
    have hk6 : k < 36 := by first | omega | exact Nat.lt_of_lt_of_le hk (by have : N_n (S_N S) ≤ 6 := hn6; omega)
    first | have hk5 : k < 6 := (by first | omega | exact Nat.lt_of_lt_of_le hk hn6) | skip
    simp only [fb_put, upd]
    repeat (first | rw [if_pos (by omega)] | rw [if_neg (by omega)])
    first | rfl | (congr 1; omega)
  all_goals rfl
theorem y_restore {V : VV} {m c : Nat} {h : ab_H} {S : SS} (hM : PM V c h S) (ok : S_ok S) (hc : c < 900)   : CM V Y_M_restore [] m c h (fun r S2 => (r, S2) = sp_restore S) := by
  obtain ⟨⟨tab, la, at_, wr, ve, fs, ft, m0, m1, m2, m3, m4, m5, m6⟩, ⟨n0, n1, n2, n3, n4, n5, n6, n7, n8, n9⟩, q1, q2, q3, q4⟩ := id hM
  have hn6 : N_n (S_N S) ≤ 6 := ok.1.1
  have hnT := nI_toInt (show N_n (S_N S) < 2 ^ 31 by omega)
  refine ab_C.of (L := [some (.ref 56), none]) rfl rfl (Nat.le_of_ble_eq_true rfl) (fun l => ?_)
  obtain ⟨gI, hI, aI⟩ := id q4
  obtain ⟨gx, hx, ax⟩ := id n0
  obtain ⟨gy, hy, ay⟩ := id n1
  obtain ⟨gm, hm, am⟩ := id n2
  obtain ⟨gh, hh, ah⟩ := id n3
  obtain ⟨gl, hl, al⟩ := id n4
  obtain ⟨gw, hw, aw⟩ := id n5
  obtain ⟨ga, ha, aa⟩ := id n6
  obtain ⟨gi, hi, ai⟩ := id n7
  obtain ⟨gj, hj, aj⟩ := id n8
  obtain ⟨gf, hf, af⟩ := id n9
  refine aw_aload_n d_M_restore_0 rfl ?_
  refine aw_get (k := 41) d_M_restore_1 cl_Model k_M_335 (by decide) m0 rfl ?_
  refine aw_if_ne (tgt := 10) d_M_restore_4 (by decide) (fun c4 => ?_) (fun c4 => ?_)
  · have hsm := ab_bl_1.mp c4
    obtain ⟨K, hK⟩ := Option.isSome_iff_exists.mp hsm
    obtain ⟨i1, i2, i3, i4, i5, i6, i7, i8, i9, i10, i11, i12⟩ := aI K hK
    refine aw_aload_n d_M_restore_10 rfl ?_
    refine aw_get (k := 40) d_M_restore_11 cl_Model k_M_103 (by decide) m0 rfl ?_
    refine aw_iconst (v := nI 0) d_M_restore_14 (by decide) ?_
    refine aw_aload_n d_M_restore_15 rfl ?_
    refine aw_get (k := 1) d_M_restore_16 cl_Model k_M_7 (by decide) m0 rfl ?_
    refine aw_s0i d_M_restore_19 k_M_338 ok_M_gives rfl ⟨rfl, rfl⟩ (c_gives (a := 57) (n := 6) (f := gx) (at9 := 0) (by decide) hx hI (by decide)) rfl rfl (Nat.le_of_ble_eq_true rfl) ?_
    refine aw_istore_n (L' := [some (.ref 56), some (.int (nI 6))]) d_M_restore_22 ⟨by decide, rfl⟩ rfl ?_
    refine aw_aload_n d_M_restore_23 rfl ?_
    refine aw_get (k := 40) d_M_restore_24 cl_Model k_M_103 (by decide) m0 rfl ?_
    refine aw_iload_n d_M_restore_27 rfl ?_
    refine aw_aload_n d_M_restore_28 rfl ?_
    refine aw_get (k := 2) d_M_restore_29 cl_Model k_M_13 (by decide) m0 rfl ?_
    refine aw_s0i d_M_restore_32 k_M_338 ok_M_gives rfl ⟨rfl, rfl⟩ (c_gives (a := 58) (n := 6) (f := gy) (at9 := 6) (by decide) hy hI (by decide)) rfl rfl (Nat.le_of_ble_eq_true rfl) ?_
    refine aw_istore_n (L' := [some (.ref 56), some (.int (nI 12))]) d_M_restore_35 ⟨by decide, rfl⟩ rfl ?_
    refine aw_aload_n d_M_restore_36 rfl ?_
    refine aw_get (k := 40) d_M_restore_37 cl_Model k_M_103 (by decide) m0 rfl ?_
    refine aw_iload_n d_M_restore_40 rfl ?_
    refine aw_aload_n d_M_restore_41 rfl ?_
    refine aw_get (k := 3) d_M_restore_42 cl_Model k_M_16 (by decide) m0 rfl ?_
    refine aw_s0i d_M_restore_45 k_M_338 ok_M_gives rfl ⟨rfl, rfl⟩ (c_gives (a := 59) (n := 6) (f := gm) (at9 := 12) (by decide) hm hI (by decide)) rfl rfl (Nat.le_of_ble_eq_true rfl) ?_
    refine aw_istore_n (L' := [some (.ref 56), some (.int (nI 18))]) d_M_restore_48 ⟨by decide, rfl⟩ rfl ?_
    refine aw_aload_n d_M_restore_49 rfl ?_
    refine aw_get (k := 40) d_M_restore_50 cl_Model k_M_103 (by decide) m0 rfl ?_
    refine aw_iload_n d_M_restore_53 rfl ?_
    refine aw_aload_n d_M_restore_54 rfl ?_
    refine aw_get (k := 4) d_M_restore_55 cl_Model k_M_19 (by decide) m0 rfl ?_
    refine aw_s0i d_M_restore_58 k_M_338 ok_M_gives rfl ⟨rfl, rfl⟩ (c_gives (a := 60) (n := 6) (f := gh) (at9 := 18) (by decide) hh hI (by decide)) rfl rfl (Nat.le_of_ble_eq_true rfl) ?_
    refine aw_istore_n (L' := [some (.ref 56), some (.int (nI 24))]) d_M_restore_61 ⟨by decide, rfl⟩ rfl ?_
    refine aw_aload_n d_M_restore_62 rfl ?_
    refine aw_get (k := 40) d_M_restore_63 cl_Model k_M_103 (by decide) m0 rfl ?_
    refine aw_iload_n d_M_restore_66 rfl ?_
    refine aw_aload_n d_M_restore_67 rfl ?_
    refine aw_get (k := 5) d_M_restore_68 cl_Model k_M_22 (by decide) m0 rfl ?_
    refine aw_s0i d_M_restore_71 k_M_338 ok_M_gives rfl ⟨rfl, rfl⟩ (c_gives (a := 61) (n := 36) (f := gl) (at9 := 24) (by decide) hl hI (by decide)) rfl rfl (Nat.le_of_ble_eq_true rfl) ?_
    refine aw_istore_n (L' := [some (.ref 56), some (.int (nI 60))]) d_M_restore_74 ⟨by decide, rfl⟩ rfl ?_
    refine aw_aload_n d_M_restore_75 rfl ?_
    refine aw_get (k := 40) d_M_restore_76 cl_Model k_M_103 (by decide) m0 rfl ?_
    refine aw_iload_n d_M_restore_79 rfl ?_
    refine aw_aload_n d_M_restore_80 rfl ?_
    refine aw_get (k := 6) d_M_restore_81 cl_Model k_M_25 (by decide) m0 rfl ?_
    refine aw_s0i d_M_restore_84 k_M_338 ok_M_gives rfl ⟨rfl, rfl⟩ (c_gives (a := 62) (n := 6) (f := gw) (at9 := 60) (by decide) hw hI (by decide)) rfl rfl (Nat.le_of_ble_eq_true rfl) ?_
    refine aw_istore_n (L' := [some (.ref 56), some (.int (nI 66))]) d_M_restore_87 ⟨by decide, rfl⟩ rfl ?_
    refine aw_aload_n d_M_restore_88 rfl ?_
    refine aw_get (k := 40) d_M_restore_89 cl_Model k_M_103 (by decide) m0 rfl ?_
    refine aw_iload_n d_M_restore_92 rfl ?_
    refine aw_aload_n d_M_restore_93 rfl ?_
    refine aw_get (k := 7) d_M_restore_94 cl_Model k_M_28 (by decide) m0 rfl ?_
    refine aw_s0i d_M_restore_97 k_M_338 ok_M_gives rfl ⟨rfl, rfl⟩ (c_gives (a := 63) (n := 6) (f := ga) (at9 := 66) (by decide) ha hI (by decide)) rfl rfl (Nat.le_of_ble_eq_true rfl) ?_
    refine aw_istore_n (L' := [some (.ref 56), some (.int (nI 72))]) d_M_restore_100 ⟨by decide, rfl⟩ rfl ?_
    refine aw_aload_n d_M_restore_101 rfl ?_
    refine aw_get (k := 40) d_M_restore_102 cl_Model k_M_103 (by decide) m0 rfl ?_
    refine aw_iload_n d_M_restore_105 rfl ?_
    refine aw_aload_n d_M_restore_106 rfl ?_
    refine aw_get (k := 9) d_M_restore_107 cl_Model k_M_31 (by decide) m0 rfl ?_
    refine aw_s0i d_M_restore_110 k_M_338 ok_M_gives rfl ⟨rfl, rfl⟩ (c_gives (a := 64) (n := 4) (f := gi) (at9 := 72) (by decide) hi hI (by decide)) rfl rfl (Nat.le_of_ble_eq_true rfl) ?_
    refine aw_istore_n (L' := [some (.ref 56), some (.int (nI 76))]) d_M_restore_113 ⟨by decide, rfl⟩ rfl ?_
    refine aw_aload_n d_M_restore_114 rfl ?_
    refine aw_get (k := 40) d_M_restore_115 cl_Model k_M_103 (by decide) m0 rfl ?_
    refine aw_iload_n d_M_restore_118 rfl ?_
    refine aw_aload_n d_M_restore_119 rfl ?_
    refine aw_get (k := 10) d_M_restore_120 cl_Model k_M_34 (by decide) m0 rfl ?_
    refine aw_s0i d_M_restore_123 k_M_338 ok_M_gives rfl ⟨rfl, rfl⟩ (c_gives (a := 65) (n := 4) (f := gj) (at9 := 76) (by decide) hj hI (by decide)) rfl rfl (Nat.le_of_ble_eq_true rfl) ?_
    refine aw_istore_n (L' := [some (.ref 56), some (.int (nI 80))]) d_M_restore_126 ⟨by decide, rfl⟩ rfl ?_
    refine aw_aload_n d_M_restore_127 rfl ?_
    refine aw_get (k := 40) d_M_restore_128 cl_Model k_M_103 (by decide) m0 rfl ?_
    refine aw_iload_n d_M_restore_131 rfl ?_
    refine aw_aload_n d_M_restore_132 rfl ?_
    refine aw_get (k := 35) d_M_restore_133 cl_Model k_M_88 (by decide) m0 rfl ?_
    refine aw_s0i d_M_restore_136 k_M_338 ok_M_gives rfl ⟨rfl, rfl⟩ (c_gives (a := 79) (n := 6) (f := gf) (at9 := 80) (by decide) hf hI (by decide)) rfl rfl (Nat.le_of_ble_eq_true rfl) ?_
    refine aw_istore_n (L' := [some (.ref 56), some (.int (nI 86))]) d_M_restore_139 ⟨by decide, rfl⟩ rfl ?_
    refine aw_aload_n d_M_restore_140 rfl ?_
    refine aw_aload_n d_M_restore_141 rfl ?_
    refine aw_get (k := 40) d_M_restore_142 cl_Model k_M_103 (by decide) m0 rfl ?_
    refine aw_iload_n d_M_restore_145 rfl ?_
    refine aw_ialoadN d_M_restore_146 hI (by omega) (by decide) ?_
    rw [i6]
    refine aw_put (k := 0) (fs' := [.int (nI (N_n K)), .ref 57, .ref 58, .ref 59, .ref 60, .ref 61, .ref 62, .ref 63, .int (nI (N_ns (S_N S))), .ref 64, .ref 65, .int (nI (N_ra (S_N S))), .int (nI (N_se (S_N S))), .int (N_me (S_N S)), .int (N_mi (S_N S)), .ref 66, .ref 67, .int tab, .ref 68, .ref 69, .ref 70, .ref 71, .ref 72, .ref 73, .ref 74, .int (nI ve), .int la, .ref 75, .ref 76, .int (nI (S_tl S)), .int at_, .int wr, .ref 77, .ref 78, .int (nI (N_fe (S_N S))), .ref 79, .ref 80, .ref 81, .ref 82, .ref 83, .ref 84, .int (ab_bl (S_K S).isSome), .ref 85, .ref 86, .ref 87, .ref 88]) d_M_restore_147 cl_Model k_M_118 (by decide) rfl ⟨rfl, rfl⟩ m0 (Nat.le_of_ble_eq_true rfl) rfl ?_
    refine aw_aload_n d_M_restore_150 rfl ?_
    refine aw_aload_n d_M_restore_151 rfl ?_
    refine aw_get (k := 40) d_M_restore_152 cl_Model k_M_103 (by decide) rfl rfl ?_
    refine aw_iload_n d_M_restore_155 rfl ?_
    refine aw_iconst (v := nI 1) d_M_restore_156 (by decide) ?_
    refine aw_iadd d_M_restore_157 ?_
    rw [nI_add]
    refine aw_ialoadN d_M_restore_158 hI (by omega) (by decide) ?_
    rw [i7]
    refine aw_put (k := 8) (fs' := [.int (nI (N_n K)), .ref 57, .ref 58, .ref 59, .ref 60, .ref 61, .ref 62, .ref 63, .int (nI (N_ns K)), .ref 64, .ref 65, .int (nI (N_ra (S_N S))), .int (nI (N_se (S_N S))), .int (N_me (S_N S)), .int (N_mi (S_N S)), .ref 66, .ref 67, .int tab, .ref 68, .ref 69, .ref 70, .ref 71, .ref 72, .ref 73, .ref 74, .int (nI ve), .int la, .ref 75, .ref 76, .int (nI (S_tl S)), .int at_, .int wr, .ref 77, .ref 78, .int (nI (N_fe (S_N S))), .ref 79, .ref 80, .ref 81, .ref 82, .ref 83, .ref 84, .int (ab_bl (S_K S).isSome), .ref 85, .ref 86, .ref 87, .ref 88]) d_M_restore_159 cl_Model k_M_174 (by decide) rfl ⟨rfl, rfl⟩ rfl (Nat.le_of_ble_eq_true rfl) rfl ?_
    refine aw_aload_n d_M_restore_162 rfl ?_
    refine aw_aload_n d_M_restore_163 rfl ?_
    refine aw_get (k := 40) d_M_restore_164 cl_Model k_M_103 (by decide) rfl rfl ?_
    refine aw_iload_n d_M_restore_167 rfl ?_
    refine aw_iconst (v := nI 2) d_M_restore_168 (by decide) ?_
    refine aw_iadd d_M_restore_169 ?_
    rw [nI_add]
    refine aw_ialoadN d_M_restore_170 hI (by omega) (by decide) ?_
    rw [i8]
    refine aw_put (k := 11) (fs' := [.int (nI (N_n K)), .ref 57, .ref 58, .ref 59, .ref 60, .ref 61, .ref 62, .ref 63, .int (nI (N_ns K)), .ref 64, .ref 65, .int (nI (N_ra K)), .int (nI (N_se (S_N S))), .int (N_me (S_N S)), .int (N_mi (S_N S)), .ref 66, .ref 67, .int tab, .ref 68, .ref 69, .ref 70, .ref 71, .ref 72, .ref 73, .ref 74, .int (nI ve), .int la, .ref 75, .ref 76, .int (nI (S_tl S)), .int at_, .int wr, .ref 77, .ref 78, .int (nI (N_fe (S_N S))), .ref 79, .ref 80, .ref 81, .ref 82, .ref 83, .ref 84, .int (ab_bl (S_K S).isSome), .ref 85, .ref 86, .ref 87, .ref 88]) d_M_restore_171 cl_Model k_M_37 (by decide) rfl ⟨rfl, rfl⟩ rfl (Nat.le_of_ble_eq_true rfl) rfl ?_
    refine aw_aload_n d_M_restore_174 rfl ?_
    refine aw_aload_n d_M_restore_175 rfl ?_
    refine aw_get (k := 40) d_M_restore_176 cl_Model k_M_103 (by decide) rfl rfl ?_
    refine aw_iload_n d_M_restore_179 rfl ?_
    refine aw_iconst (v := nI 3) d_M_restore_180 (by decide) ?_
    refine aw_iadd d_M_restore_181 ?_
    rw [nI_add]
    refine aw_ialoadN d_M_restore_182 hI (by omega) (by decide) ?_
    rw [i9]
    refine aw_put (k := 12) (fs' := [.int (nI (N_n K)), .ref 57, .ref 58, .ref 59, .ref 60, .ref 61, .ref 62, .ref 63, .int (nI (N_ns K)), .ref 64, .ref 65, .int (nI (N_ra K)), .int (nI (N_se K)), .int (N_me (S_N S)), .int (N_mi (S_N S)), .ref 66, .ref 67, .int tab, .ref 68, .ref 69, .ref 70, .ref 71, .ref 72, .ref 73, .ref 74, .int (nI ve), .int la, .ref 75, .ref 76, .int (nI (S_tl S)), .int at_, .int wr, .ref 77, .ref 78, .int (nI (N_fe (S_N S))), .ref 79, .ref 80, .ref 81, .ref 82, .ref 83, .ref 84, .int (ab_bl (S_K S).isSome), .ref 85, .ref 86, .ref 87, .ref 88]) d_M_restore_183 cl_Model k_M_41 (by decide) rfl ⟨rfl, rfl⟩ rfl (Nat.le_of_ble_eq_true rfl) rfl ?_
    refine aw_aload_n d_M_restore_186 rfl ?_
    refine aw_aload_n d_M_restore_187 rfl ?_
    refine aw_get (k := 40) d_M_restore_188 cl_Model k_M_103 (by decide) rfl rfl ?_
    refine aw_iload_n d_M_restore_191 rfl ?_
    refine aw_iconst (v := nI 4) d_M_restore_192 (by decide) ?_
    refine aw_iadd d_M_restore_193 ?_
    rw [nI_add]
    refine aw_ialoadN d_M_restore_194 hI (by omega) (by decide) ?_
    rw [i10]
    refine aw_put (k := 13) (fs' := [.int (nI (N_n K)), .ref 57, .ref 58, .ref 59, .ref 60, .ref 61, .ref 62, .ref 63, .int (nI (N_ns K)), .ref 64, .ref 65, .int (nI (N_ra K)), .int (nI (N_se K)), .int (N_me K), .int (N_mi (S_N S)), .ref 66, .ref 67, .int tab, .ref 68, .ref 69, .ref 70, .ref 71, .ref 72, .ref 73, .ref 74, .int (nI ve), .int la, .ref 75, .ref 76, .int (nI (S_tl S)), .int at_, .int wr, .ref 77, .ref 78, .int (nI (N_fe (S_N S))), .ref 79, .ref 80, .ref 81, .ref 82, .ref 83, .ref 84, .int (ab_bl (S_K S).isSome), .ref 85, .ref 86, .ref 87, .ref 88]) d_M_restore_195 cl_Model k_M_181 (by decide) rfl ⟨rfl, rfl⟩ rfl (Nat.le_of_ble_eq_true rfl) rfl ?_
    refine aw_aload_n d_M_restore_198 rfl ?_
    refine aw_aload_n d_M_restore_199 rfl ?_
    refine aw_get (k := 40) d_M_restore_200 cl_Model k_M_103 (by decide) rfl rfl ?_
    refine aw_iload_n d_M_restore_203 rfl ?_
    refine aw_iconst (v := nI 5) d_M_restore_204 (by decide) ?_
    refine aw_iadd d_M_restore_205 ?_
    rw [nI_add]
    refine aw_ialoadN d_M_restore_206 hI (by omega) (by decide) ?_
    rw [i11]
    refine aw_put (k := 14) (fs' := [.int (nI (N_n K)), .ref 57, .ref 58, .ref 59, .ref 60, .ref 61, .ref 62, .ref 63, .int (nI (N_ns K)), .ref 64, .ref 65, .int (nI (N_ra K)), .int (nI (N_se K)), .int (N_me K), .int (N_mi K), .ref 66, .ref 67, .int tab, .ref 68, .ref 69, .ref 70, .ref 71, .ref 72, .ref 73, .ref 74, .int (nI ve), .int la, .ref 75, .ref 76, .int (nI (S_tl S)), .int at_, .int wr, .ref 77, .ref 78, .int (nI (N_fe (S_N S))), .ref 79, .ref 80, .ref 81, .ref 82, .ref 83, .ref 84, .int (ab_bl (S_K S).isSome), .ref 85, .ref 86, .ref 87, .ref 88]) d_M_restore_207 cl_Model k_M_184 (by decide) rfl ⟨rfl, rfl⟩ rfl (Nat.le_of_ble_eq_true rfl) rfl ?_
    refine aw_aload_n d_M_restore_210 rfl ?_
    refine aw_aload_n d_M_restore_211 rfl ?_
    refine aw_get (k := 40) d_M_restore_212 cl_Model k_M_103 (by decide) rfl rfl ?_
    refine aw_iload_n d_M_restore_215 rfl ?_
    refine aw_bipush (v := nI 6) d_M_restore_216 (by decide) ?_
    refine aw_iadd d_M_restore_218 ?_
    rw [nI_add]
    refine aw_ialoadN d_M_restore_219 hI (by omega) (by decide) ?_
    rw [i12]
    refine aw_put (k := 34) (fs' := [.int (nI (N_n K)), .ref 57, .ref 58, .ref 59, .ref 60, .ref 61, .ref 62, .ref 63, .int (nI (N_ns K)), .ref 64, .ref 65, .int (nI (N_ra K)), .int (nI (N_se K)), .int (N_me K), .int (N_mi K), .ref 66, .ref 67, .int tab, .ref 68, .ref 69, .ref 70, .ref 71, .ref 72, .ref 73, .ref 74, .int (nI ve), .int la, .ref 75, .ref 76, .int (nI (S_tl S)), .int at_, .int wr, .ref 77, .ref 78, .int (nI (N_fe K)), .ref 79, .ref 80, .ref 81, .ref 82, .ref 83, .ref 84, .int (ab_bl (S_K S).isSome), .ref 85, .ref 86, .ref 87, .ref 88]) d_M_restore_220 cl_Model k_M_187 (by decide) rfl ⟨rfl, rfl⟩ rfl (Nat.le_of_ble_eq_true rfl) rfl ?_
    refine aw_aload_n d_M_restore_223 rfl ?_
    refine aw_dup d_M_restore_224 rfl ?_
    refine aw_get (k := 25) d_M_restore_225 cl_Model k_M_133 (by decide) rfl rfl ?_
    refine aw_iconst (v := nI 1) d_M_restore_228 (by decide) ?_
    refine aw_iadd d_M_restore_229 ?_
    rw [nI_add]
    refine aw_put (k := 25) (fs' := [.int (nI (N_n K)), .ref 57, .ref 58, .ref 59, .ref 60, .ref 61, .ref 62, .ref 63, .int (nI (N_ns K)), .ref 64, .ref 65, .int (nI (N_ra K)), .int (nI (N_se K)), .int (N_me K), .int (N_mi K), .ref 66, .ref 67, .int tab, .ref 68, .ref 69, .ref 70, .ref 71, .ref 72, .ref 73, .ref 74, .int (nI (ve + 1)), .int la, .ref 75, .ref 76, .int (nI (S_tl S)), .int at_, .int wr, .ref 77, .ref 78, .int (nI (N_fe K)), .ref 79, .ref 80, .ref 81, .ref 82, .ref 83, .ref 84, .int (ab_bl (S_K S).isSome), .ref 85, .ref 86, .ref 87, .ref 88]) d_M_restore_230 cl_Model k_M_133 (by decide) rfl ⟨rfl, rfl⟩ rfl (Nat.le_of_ble_eq_true rfl) rfl ?_
    refine aw_iconst (v := nI 1) d_M_restore_233 (by decide) ?_
    refine aw_ireturn d_M_restore_234 rfl rfl ?_
    have hK6 : N_n K ≤ 6 := (ok.2.1 K hK).1
    refine ⟨_, S_N_ S K, rfl, ?_, ⟨⟨tab, la, at_, wr, ve + 1, fs, ft, rfl, by omega, by omega, m3, m4, m5, la_up m6⟩, ⟨⟨_, rfl, fun k hk => by rw [fa_fill_in hk]; exact (by rw [Nat.zero_add]; exact (i1 k hk).1)⟩, ⟨_, rfl, fun k hk => by rw [fa_fill_in hk]; exact (i1 k hk).2.1⟩, ⟨_, rfl, fun k hk => by rw [fa_fill_in hk]; exact (i1 k hk).2.2⟩, ⟨_, rfl, fun k hk => by rw [fa_fill_in (Nat.lt_of_lt_of_le hk hK6)]; exact (i2 k hk).1⟩, ⟨_, rfl, fun k hk => by rw [fa_fill_in hk]; exact i3 k hk⟩, ⟨_, rfl, fun k hk => by rw [fa_fill_in (Nat.lt_of_lt_of_le hk hK6)]; exact (i2 k hk).2.1⟩, ⟨_, rfl, fun k hk => by rw [fa_fill_in (Nat.lt_of_lt_of_le hk hK6)]; exact (i2 k hk).2.2⟩, ⟨_, rfl, fun k hk => by rw [fa_fill_in hk]; exact (i4 k hk).1⟩, ⟨_, rfl, fun k hk => by rw [fa_fill_in hk]; exact (i4 k hk).2⟩, ⟨_, rfl, fun k hk => by rw [fa_fill_in hk]; exact i5 k hk⟩⟩, q1, q2, q3, q4⟩, rfl, fun k hk => by simp only [ab_set]; repeat rw [if_neg (by omega)]⟩
    unfold sp_restore
    rw [hK]
    rfl
  · refine aw_bipush (v := (-4)) d_M_restore_7 (by decide) ?_
    refine aw_ireturn d_M_restore_9 rfl rfl ?_
    refine ⟨_, S, rfl, ?_, ⟨⟨tab, la, at_, wr, ve, fs, ft, m0, by omega, by omega, m3, m4, m5, m6⟩, ⟨n0, n1, n2, n3, n4, n5, n6, n7, n8, n9⟩, q1, q2, q3, q4⟩, rfl, fun k _ => rfl⟩
    have hsm := ab_bl_0.mp c4
    unfold sp_restore
    cases hK : S_K S with
    | none => rfl
    | some K => rw [hK] at hsm; exact absurd hsm (by simp)
