theorem ab_sw (x : Int32) (hi : Nat) (hh : hi < 2 ^ 31 - 1) : (x.toInt < 0 ∨ (hi : Int) < x.toInt) ∨ ∃ j, j ≤ hi ∧ x = nI j := by
  by_cases h1 : x.toInt < 0
  · exact Or.inl (Or.inl h1)
  · by_cases h2 : (hi : Int) < x.toInt
    · exact Or.inl (Or.inr h2)
    · refine Or.inr ⟨cl x, ?_, cl_of (by omega)⟩
      have := cl_int (x := x) (by omega)
      omega
def sp_told (S : SS) (a what : Int32) : Int32 :=
  if ir a 0 (N_n (S_N S) - 1 : Int) then
    (if what = nI 0 then nI (N_x (S_N S) (cl a)) else if what = nI 1 then nI (N_y (S_N S) (cl a)) else if what = nI 2 then nI (N_mk (S_N S) (cl a)) else if what = nI 3 then nI (N_t (S_N S) (cl a))
     else if what = nI 4 then nI (iv (N_t (S_N S)) (cl a)) else if what = nI 5 then nI (N_w (S_N S) / 2 ^ cl a % 2) else if what = nI 6 then nI (tz (rg (N_t (S_N S)) (cl a))) else if what = nI 7 then nI (pop (rg (N_t (S_N S)) (cl a))) else -1)
  else -1
def sp_count (S : SS) (what : Int32) : Int32 :=
  if what = nI 0 then nI (N_n (S_N S)) else if what = nI 1 then nI (ast (N_t (S_N S)) (N_n (S_N S))) else if what = nI 2 then nI (rgs (N_t (S_N S)) (N_n (S_N S))) else if what = nI 3 then nI (rgm (N_t (S_N S)) (N_n (S_N S)))
  else if what = nI 4 then nI (N_ns (S_N S)) else if what = nI 5 then N_me (S_N S) else if what = nI 6 then N_mi (S_N S) else if what = nI 7 then nI (N_fe (S_N S)) else -1
def wel (N : NS) : Bool := ow (N_t N) (bnd (N_n N) (N_w N) (N_t N))
def sp_well (S : SS) : Int32 := ab_bl (wel (S_N S))
theorem sw_out {x : Int32} {hi : Nat} (h : x.toInt < 0 ∨ (hi : Int) < x.toInt) (hh : hi < 2 ^ 31 - 1) : ∀ k, k ≤ hi → ¬ x = nI k := by
  intro k hk e
  subst e
  rw [nI_toInt (by omega)] at h
  omega
theorem N_ok.w6 {N : NS} (h : N_ok N) : N_w N < 64 := two_le6 h.1 h.2.2.2.2.1
theorem x_told {V : VV} {m : Nat} {h : ab_H} {S : SS} (hX : PX V m h S) (ok : S_ok S)  (a what : Int32) : CX V Y_Coat_told [.int a, .int what] m h (fun r S2 => (r, S2) = (sp_told S a what, S)) := by
  obtain ⟨⟨a0, ⟨n0, n1, n2, n3, n4, n5, n6, n7, n8⟩, a2⟩, p1, p2, p3, p4, p5, p6, p7⟩ := id hX
  have hn6 : N_n (S_N S) ≤ 6 := ok.1.1
  have hnT := nI_toInt (show N_n (S_N S) < 2 ^ 31 by omega)
  have hpm := ok.1.pm
  have hw6 := ok.1.w6
  refine ab_C.of (L := [some (.ref 1), some (.int a), some (.int what), none]) rfl rfl (Nat.le_of_ble_eq_true rfl) (fun l => ?_)
  obtain ⟨gx, hx, ax⟩ := n1
  obtain ⟨gy, hy, ay⟩ := n2
  obtain ⟨gm, hm, am⟩ := n3
  refine aw_aload_n d_Coat_told_0 rfl ?_
  refine aw_get (k := 0) d_Coat_told_1 cl_Coat k_Coat_10 (by decide) a0 rfl ?_
  refine aw_iload_n d_Coat_told_4 rfl ?_
  refine aw_v0i d_Coat_told_5 k_Coat_93 ok_Night_isPerson rfl ⟨rfl, rfl⟩ cl_Night n0 (c_isPerson n0 a) rfl rfl (Nat.le_of_ble_eq_true rfl) ?_
  refine aw_if_ne (tgt := 13) d_Coat_told_8 (by decide) (fun c8 => ?_) (fun c8 => ?_)
  · obtain ⟨j, hj, rfl⟩ := ab_rng (by omega) (ab_bl_1.mp c8)
    have rl := (rg_t hpm (show j < 6 by omega)).2.2.1
    have hjT := nI_toInt (show j < 2 ^ 31 by omega)
    refine aw_aload_n d_Coat_told_13 rfl ?_
    refine aw_get (k := 0) d_Coat_told_14 cl_Coat k_Coat_10 (by decide) a0 rfl ?_
    refine aw_get (k := 6) d_Coat_told_17 cl_Night k_Coat_96 (by decide) n0 rfl ?_
    refine aw_iload_n d_Coat_told_20 rfl ?_
    refine aw_s0i d_Coat_told_21 k_Coat_99 ok_Rows_ring rfl ⟨rfl, rfl⟩ (c_ring hpm (show j < 6 by omega)) rfl rfl (Nat.le_of_ble_eq_true rfl) ?_
    refine aw_istore_n (L' := [some (.ref 1), some (.int (nI j)), some (.int what), some (.int (nI (rg (N_t (S_N S)) j)))]) d_Coat_told_24 ⟨by decide, rfl⟩ rfl ?_
    refine aw_iload_n d_Coat_told_25 rfl ?_
    rcases ab_sw what 7 (by decide) with c26 | ⟨j26, hj26, ej26⟩
    · refine aw_tableOut (tgt := 148) d_Coat_told_26 c26 (by decide) ?_
      refine aw_iconst (v := (-1)) d_Coat_told_148 (by decide) ?_
      refine aw_ireturn d_Coat_told_149 rfl rfl ?_
      refine ⟨_, S, rfl, ?_, hX, Nat.le_refl _, fun k _ _ => rfl⟩
      unfold sp_told
      rw [if_pos ⟨by omega, by omega⟩, cl_nI (show j < 2 ^ 31 by omega)]
      rw [if_neg (sw_out c26 (by decide) 0 (by decide))]
      rw [if_neg (sw_out c26 (by decide) 1 (by decide))]
      rw [if_neg (sw_out c26 (by decide) 2 (by decide))]
      rw [if_neg (sw_out c26 (by decide) 3 (by decide))]
      rw [if_neg (sw_out c26 (by decide) 4 (by decide))]
      rw [if_neg (sw_out c26 (by decide) 5 (by decide))]
      rw [if_neg (sw_out c26 (by decide) 6 (by decide))]
      rw [if_neg (sw_out c26 (by decide) 7 (by decide))]
      
    · match j26, hj26, ej26 with
      | 0, _, ej26 =>
        subst ej26
        refine aw_tableIn (tgt := 72) (off := 46) d_Coat_told_26 ⟨by decide, by decide⟩ (by decide) (by decide) ?_
        refine aw_aload_n d_Coat_told_72 rfl ?_
        refine aw_get (k := 0) d_Coat_told_73 cl_Coat k_Coat_10 (by decide) a0 rfl ?_
        refine aw_get (k := 1) d_Coat_told_76 cl_Night k_Coat_105 (by decide) n0 rfl ?_
        refine aw_iload_n d_Coat_told_79 rfl ?_
        refine aw_ialoadN d_Coat_told_80 hx (by omega) (by decide) ?_
        refine aw_ireturn d_Coat_told_81 rfl rfl ?_
        refine ⟨_, S, rfl, ?_, hX, Nat.le_refl _, fun k _ _ => rfl⟩
        unfold sp_told
        rw [if_pos ⟨by omega, by omega⟩, cl_nI (show j < 2 ^ 31 by omega)]
        rw [if_pos rfl]
        rw [ax j (by omega)]
      | 1, _, ej26 =>
        subst ej26
        refine aw_tableIn (tgt := 82) (off := 56) d_Coat_told_26 ⟨by decide, by decide⟩ (by decide) (by decide) ?_
        refine aw_aload_n d_Coat_told_82 rfl ?_
        refine aw_get (k := 0) d_Coat_told_83 cl_Coat k_Coat_10 (by decide) a0 rfl ?_
        refine aw_get (k := 2) d_Coat_told_86 cl_Night k_Coat_108 (by decide) n0 rfl ?_
        refine aw_iload_n d_Coat_told_89 rfl ?_
        refine aw_ialoadN d_Coat_told_90 hy (by omega) (by decide) ?_
        refine aw_ireturn d_Coat_told_91 rfl rfl ?_
        refine ⟨_, S, rfl, ?_, hX, Nat.le_refl _, fun k _ _ => rfl⟩
        unfold sp_told
        rw [if_pos ⟨by omega, by omega⟩, cl_nI (show j < 2 ^ 31 by omega)]
        rw [if_neg (by decide)]
        rw [if_pos rfl]
        rw [ay j (by omega)]
      | 2, _, ej26 =>
        subst ej26
        refine aw_tableIn (tgt := 92) (off := 66) d_Coat_told_26 ⟨by decide, by decide⟩ (by decide) (by decide) ?_
        refine aw_aload_n d_Coat_told_92 rfl ?_
        refine aw_get (k := 0) d_Coat_told_93 cl_Coat k_Coat_10 (by decide) a0 rfl ?_
        refine aw_get (k := 3) d_Coat_told_96 cl_Night k_Coat_111 (by decide) n0 rfl ?_
        refine aw_iload_n d_Coat_told_99 rfl ?_
        refine aw_ialoadN d_Coat_told_100 hm (by omega) (by decide) ?_
        refine aw_ireturn d_Coat_told_101 rfl rfl ?_
        refine ⟨_, S, rfl, ?_, hX, Nat.le_refl _, fun k _ _ => rfl⟩
        unfold sp_told
        rw [if_pos ⟨by omega, by omega⟩, cl_nI (show j < 2 ^ 31 by omega)]
        rw [if_neg (by decide)]
        rw [if_neg (by decide)]
        rw [if_pos rfl]
        rw [am j (by omega)]
      | 3, _, ej26 =>
        subst ej26
        refine aw_tableIn (tgt := 102) (off := 76) d_Coat_told_26 ⟨by decide, by decide⟩ (by decide) (by decide) ?_
        refine aw_aload_n d_Coat_told_102 rfl ?_
        refine aw_get (k := 0) d_Coat_told_103 cl_Coat k_Coat_10 (by decide) a0 rfl ?_
        refine aw_get (k := 6) d_Coat_told_106 cl_Night k_Coat_96 (by decide) n0 rfl ?_
        refine aw_iload_n d_Coat_told_109 rfl ?_
        refine aw_s0i d_Coat_told_110 k_Coat_114 ok_Rows_at rfl ⟨rfl, rfl⟩ (c_at hpm.lt8 (show j < 6 by omega)) rfl rfl (Nat.le_of_ble_eq_true rfl) ?_
        refine aw_ireturn d_Coat_told_113 rfl rfl ?_
        refine ⟨_, S, rfl, ?_, hX, Nat.le_refl _, fun k _ _ => rfl⟩
        unfold sp_told
        rw [if_pos ⟨by omega, by omega⟩, cl_nI (show j < 2 ^ 31 by omega)]
        rw [if_neg (by decide)]
        rw [if_neg (by decide)]
        rw [if_neg (by decide)]
        rw [if_pos rfl]
        
      | 4, _, ej26 =>
        subst ej26
        refine aw_tableIn (tgt := 114) (off := 88) d_Coat_told_26 ⟨by decide, by decide⟩ (by decide) (by decide) ?_
        refine aw_aload_n d_Coat_told_114 rfl ?_
        refine aw_get (k := 0) d_Coat_told_115 cl_Coat k_Coat_10 (by decide) a0 rfl ?_
        refine aw_get (k := 6) d_Coat_told_118 cl_Night k_Coat_96 (by decide) n0 rfl ?_
        refine aw_iload_n d_Coat_told_121 rfl ?_
        refine aw_s0i d_Coat_told_122 k_Coat_117 ok_Rows_placeOf rfl ⟨rfl, rfl⟩ (c_placeOf hpm (show j < 6 by omega)) rfl rfl (Nat.le_of_ble_eq_true rfl) ?_
        refine aw_ireturn d_Coat_told_125 rfl rfl ?_
        refine ⟨_, S, rfl, ?_, hX, Nat.le_refl _, fun k _ _ => rfl⟩
        unfold sp_told
        rw [if_pos ⟨by omega, by omega⟩, cl_nI (show j < 2 ^ 31 by omega)]
        rw [if_neg (by decide)]
        rw [if_neg (by decide)]
        rw [if_neg (by decide)]
        rw [if_neg (by decide)]
        rw [if_pos rfl]
        
      | 5, _, ej26 =>
        subst ej26
        refine aw_tableIn (tgt := 126) (off := 100) d_Coat_told_26 ⟨by decide, by decide⟩ (by decide) (by decide) ?_
        refine aw_aload_n d_Coat_told_126 rfl ?_
        refine aw_get (k := 0) d_Coat_told_127 cl_Coat k_Coat_10 (by decide) a0 rfl ?_
        refine aw_get (k := 7) d_Coat_told_130 cl_Night k_Coat_120 (by decide) n0 rfl ?_
        refine aw_iload_n d_Coat_told_133 rfl ?_
        refine aw_ishr d_Coat_told_134 ?_
        refine aw_iconst (v := nI 1) d_Coat_told_135 (by decide) ?_
        refine aw_iand d_Coat_told_136 ?_
        rw [b_at (by omega) (by omega)]
        refine aw_ireturn d_Coat_told_137 rfl rfl ?_
        refine ⟨_, S, rfl, ?_, hX, Nat.le_refl _, fun k _ _ => rfl⟩
        unfold sp_told
        rw [if_pos ⟨by omega, by omega⟩, cl_nI (show j < 2 ^ 31 by omega)]
        rw [if_neg (by decide)]
        rw [if_neg (by decide)]
        rw [if_neg (by decide)]
        rw [if_neg (by decide)]
        rw [if_neg (by decide)]
        rw [if_pos rfl]
        
      | 6, _, ej26 =>
        subst ej26
        refine aw_tableIn (tgt := 138) (off := 112) d_Coat_told_26 ⟨by decide, by decide⟩ (by decide) (by decide) ?_
        refine aw_iload_n d_Coat_told_138 rfl ?_
        refine aw_s0i d_Coat_told_139 k_Coat_123 ok_JI_numberOfTrailingZeros rfl ⟨rfl, rfl⟩ (c_ntz _ rl) rfl rfl (Nat.le_of_ble_eq_true rfl) ?_
        refine aw_ireturn d_Coat_told_142 rfl rfl ?_
        refine ⟨_, S, rfl, ?_, hX, Nat.le_refl _, fun k _ _ => rfl⟩
        unfold sp_told
        rw [if_pos ⟨by omega, by omega⟩, cl_nI (show j < 2 ^ 31 by omega)]
        rw [if_neg (by decide)]
        rw [if_neg (by decide)]
        rw [if_neg (by decide)]
        rw [if_neg (by decide)]
        rw [if_neg (by decide)]
        rw [if_neg (by decide)]
        rw [if_pos rfl]
        
      | 7, _, ej26 =>
        subst ej26
        refine aw_tableIn (tgt := 143) (off := 117) d_Coat_told_26 ⟨by decide, by decide⟩ (by decide) (by decide) ?_
        refine aw_iload_n d_Coat_told_143 rfl ?_
        refine aw_s0i d_Coat_told_144 k_Coat_129 ok_JI_bitCount rfl ⟨rfl, rfl⟩ (c_bitCount _ rl) rfl rfl (Nat.le_of_ble_eq_true rfl) ?_
        refine aw_ireturn d_Coat_told_147 rfl rfl ?_
        refine ⟨_, S, rfl, ?_, hX, Nat.le_refl _, fun k _ _ => rfl⟩
        unfold sp_told
        rw [if_pos ⟨by omega, by omega⟩, cl_nI (show j < 2 ^ 31 by omega)]
        rw [if_neg (by decide)]
        rw [if_neg (by decide)]
        rw [if_neg (by decide)]
        rw [if_neg (by decide)]
        rw [if_neg (by decide)]
        rw [if_neg (by decide)]
        rw [if_neg (by decide)]
        rw [if_pos rfl]
        
      | k + 8, hj26, _ => exact absurd hj26 (by omega)
  · refine aw_iconst (v := (-1)) d_Coat_told_11 (by decide) ?_
    refine aw_ireturn d_Coat_told_12 rfl rfl ?_
    refine ⟨_, S, rfl, ?_, hX, Nat.le_refl _, fun k _ _ => rfl⟩
    unfold sp_told
    rw [if_neg]
    intro q
    obtain ⟨q1, q2⟩ := q
    have c := ab_bl_0.mp c8
    simp only [Bool.and_eq_false_iff, Bool.not_eq_false', decide_eq_true_eq, fa_lt, fa_le, hnT, Int32.toInt_zero] at c
    omega
theorem x_count {V : VV} {m : Nat} {h : ab_H} {S : SS} (hX : PX V m h S) (ok : S_ok S)  (what : Int32) : CX V Y_Coat_count [.int what] m h (fun r S2 => (r, S2) = (sp_count S what, S)) := by
  obtain ⟨⟨a0, ⟨n0, n1, n2, n3, n4, n5, n6, n7, n8⟩, a2⟩, p1, p2, p3, p4, p5, p6, p7⟩ := id hX
  have hn6 : N_n (S_N S) ≤ 6 := ok.1.1
  have hnT := nI_toInt (show N_n (S_N S) < 2 ^ 31 by omega)
  have hpm := ok.1.pm
  have hw6 := ok.1.w6
  refine ab_C.of (L := [some (.ref 1), some (.int what)]) rfl rfl (Nat.le_of_ble_eq_true rfl) (fun l => ?_)
  refine aw_iload_n d_Coat_count_0 rfl ?_
  rcases ab_sw what 7 (by decide) with c1 | ⟨j1, hj1, ej1⟩
  · refine aw_tableOut (tgt := 112) d_Coat_count_1 c1 (by decide) ?_
    refine aw_iconst (v := (-1)) d_Coat_count_112 (by decide) ?_
    refine aw_ireturn d_Coat_count_113 rfl rfl ?_
    refine ⟨_, S, rfl, ?_, hX, Nat.le_refl _, fun k _ _ => rfl⟩
    unfold sp_count
    rw [if_neg (sw_out c1 (by decide) 0 (by decide))]
    rw [if_neg (sw_out c1 (by decide) 1 (by decide))]
    rw [if_neg (sw_out c1 (by decide) 2 (by decide))]
    rw [if_neg (sw_out c1 (by decide) 3 (by decide))]
    rw [if_neg (sw_out c1 (by decide) 4 (by decide))]
    rw [if_neg (sw_out c1 (by decide) 5 (by decide))]
    rw [if_neg (sw_out c1 (by decide) 6 (by decide))]
    rw [if_neg (sw_out c1 (by decide) 7 (by decide))]
    
  · match j1, hj1, ej1 with
    | 0, _, ej1 =>
      subst ej1
      refine aw_tableIn (tgt := 48) (off := 47) d_Coat_count_1 ⟨by decide, by decide⟩ (by decide) (by decide) ?_
      refine aw_aload_n d_Coat_count_48 rfl ?_
      refine aw_get (k := 0) d_Coat_count_49 cl_Coat k_Coat_10 (by decide) a0 rfl ?_
      refine aw_get (k := 0) d_Coat_count_52 cl_Night k_Coat_82 (by decide) n0 rfl ?_
      refine aw_ireturn d_Coat_count_55 rfl rfl ?_
      refine ⟨_, S, rfl, ?_, hX, Nat.le_refl _, fun k _ _ => rfl⟩
      unfold sp_count
      rw [if_pos rfl]
      
    | 1, _, ej1 =>
      subst ej1
      refine aw_tableIn (tgt := 56) (off := 55) d_Coat_count_1 ⟨by decide, by decide⟩ (by decide) (by decide) ?_
      refine aw_aload_n d_Coat_count_56 rfl ?_
      refine aw_get (k := 0) d_Coat_count_57 cl_Coat k_Coat_10 (by decide) a0 rfl ?_
      refine aw_v0i d_Coat_count_60 k_Coat_146 ok_Night_astray rfl ⟨rfl, rfl⟩ cl_Night n0 (c_astray n0 hn6 hpm) rfl rfl (Nat.le_of_ble_eq_true rfl) ?_
      refine aw_ireturn d_Coat_count_63 rfl rfl ?_
      refine ⟨_, S, rfl, ?_, hX, Nat.le_refl _, fun k _ _ => rfl⟩
      unfold sp_count
      rw [if_neg (by decide)]
      rw [if_pos rfl]
      
    | 2, _, ej1 =>
      subst ej1
      refine aw_tableIn (tgt := 64) (off := 63) d_Coat_count_1 ⟨by decide, by decide⟩ (by decide) (by decide) ?_
      refine aw_aload_n d_Coat_count_64 rfl ?_
      refine aw_get (k := 0) d_Coat_count_65 cl_Coat k_Coat_10 (by decide) a0 rfl ?_
      refine aw_v0i d_Coat_count_68 k_Coat_165 ok_Night_rings rfl ⟨rfl, rfl⟩ cl_Night n0 (c_rings n0 hn6 hpm) rfl rfl (Nat.le_of_ble_eq_true rfl) ?_
      refine aw_ireturn d_Coat_count_71 rfl rfl ?_
      refine ⟨_, S, rfl, ?_, hX, Nat.le_refl _, fun k _ _ => rfl⟩
      unfold sp_count
      rw [if_neg (by decide)]
      rw [if_neg (by decide)]
      rw [if_pos rfl]
      
    | 3, _, ej1 =>
      subst ej1
      refine aw_tableIn (tgt := 72) (off := 71) d_Coat_count_1 ⟨by decide, by decide⟩ (by decide) (by decide) ?_
      refine aw_aload_n d_Coat_count_72 rfl ?_
      refine aw_get (k := 0) d_Coat_count_73 cl_Coat k_Coat_10 (by decide) a0 rfl ?_
      refine aw_v0i d_Coat_count_76 k_Coat_168 ok_Night_greatestRing rfl ⟨rfl, rfl⟩ cl_Night n0 (c_greatestRing n0 hn6 hpm) rfl rfl (Nat.le_of_ble_eq_true rfl) ?_
      refine aw_ireturn d_Coat_count_79 rfl rfl ?_
      refine ⟨_, S, rfl, ?_, hX, Nat.le_refl _, fun k _ _ => rfl⟩
      unfold sp_count
      rw [if_neg (by decide)]
      rw [if_neg (by decide)]
      rw [if_neg (by decide)]
      rw [if_pos rfl]
      
    | 4, _, ej1 =>
      subst ej1
      refine aw_tableIn (tgt := 80) (off := 79) d_Coat_count_1 ⟨by decide, by decide⟩ (by decide) (by decide) ?_
      refine aw_aload_n d_Coat_count_80 rfl ?_
      refine aw_get (k := 0) d_Coat_count_81 cl_Coat k_Coat_10 (by decide) a0 rfl ?_
      refine aw_get (k := 8) d_Coat_count_84 cl_Night k_Coat_150 (by decide) n0 rfl ?_
      refine aw_ireturn d_Coat_count_87 rfl rfl ?_
      refine ⟨_, S, rfl, ?_, hX, Nat.le_refl _, fun k _ _ => rfl⟩
      unfold sp_count
      rw [if_neg (by decide)]
      rw [if_neg (by decide)]
      rw [if_neg (by decide)]
      rw [if_neg (by decide)]
      rw [if_pos rfl]
      
    | 5, _, ej1 =>
      subst ej1
      refine aw_tableIn (tgt := 88) (off := 87) d_Coat_count_1 ⟨by decide, by decide⟩ (by decide) (by decide) ?_
      refine aw_aload_n d_Coat_count_88 rfl ?_
      refine aw_get (k := 0) d_Coat_count_89 cl_Coat k_Coat_10 (by decide) a0 rfl ?_
      refine aw_get (k := 13) d_Coat_count_92 cl_Night k_Coat_171 (by decide) n0 rfl ?_
      refine aw_ireturn d_Coat_count_95 rfl rfl ?_
      refine ⟨_, S, rfl, ?_, hX, Nat.le_refl _, fun k _ _ => rfl⟩
      unfold sp_count
      rw [if_neg (by decide)]
      rw [if_neg (by decide)]
      rw [if_neg (by decide)]
      rw [if_neg (by decide)]
      rw [if_neg (by decide)]
      rw [if_pos rfl]
      
    | 6, _, ej1 =>
      subst ej1
      refine aw_tableIn (tgt := 96) (off := 95) d_Coat_count_1 ⟨by decide, by decide⟩ (by decide) (by decide) ?_
      refine aw_aload_n d_Coat_count_96 rfl ?_
      refine aw_get (k := 0) d_Coat_count_97 cl_Coat k_Coat_10 (by decide) a0 rfl ?_
      refine aw_get (k := 14) d_Coat_count_100 cl_Night k_Coat_174 (by decide) n0 rfl ?_
      refine aw_ireturn d_Coat_count_103 rfl rfl ?_
      refine ⟨_, S, rfl, ?_, hX, Nat.le_refl _, fun k _ _ => rfl⟩
      unfold sp_count
      rw [if_neg (by decide)]
      rw [if_neg (by decide)]
      rw [if_neg (by decide)]
      rw [if_neg (by decide)]
      rw [if_neg (by decide)]
      rw [if_neg (by decide)]
      rw [if_pos rfl]
      
    | 7, _, ej1 =>
      subst ej1
      refine aw_tableIn (tgt := 104) (off := 103) d_Coat_count_1 ⟨by decide, by decide⟩ (by decide) (by decide) ?_
      refine aw_aload_n d_Coat_count_104 rfl ?_
      refine aw_get (k := 0) d_Coat_count_105 cl_Coat k_Coat_10 (by decide) a0 rfl ?_
      refine aw_get (k := 15) d_Coat_count_108 cl_Night k_Coat_177 (by decide) n0 rfl ?_
      refine aw_ireturn d_Coat_count_111 rfl rfl ?_
      refine ⟨_, S, rfl, ?_, hX, Nat.le_refl _, fun k _ _ => rfl⟩
      unfold sp_count
      rw [if_neg (by decide)]
      rw [if_neg (by decide)]
      rw [if_neg (by decide)]
      rw [if_neg (by decide)]
      rw [if_neg (by decide)]
      rw [if_neg (by decide)]
      rw [if_neg (by decide)]
      rw [if_pos rfl]
      
    | k + 8, hj1, _ => exact absurd hj1 (by omega)
theorem x_well {V : VV} {m : Nat} {h : ab_H} {S : SS} (hX : PX V m h S) (ok : S_ok S)   : CX V Y_Coat_well [] m h (fun r S2 => (r, S2) = (sp_well S, S)) := by
  obtain ⟨⟨a0, ⟨n0, n1, n2, n3, n4, n5, n6, n7, n8⟩, a2⟩, p1, p2, p3, p4, p5, p6, p7⟩ := id hX
  have hn6 : N_n (S_N S) ≤ 6 := ok.1.1
  have hnT := nI_toInt (show N_n (S_N S) < 2 ^ 31 by omega)
  have hpm := ok.1.pm
  have hw6 := ok.1.w6
  refine ab_C.of (L := [some (.ref 1)]) rfl rfl (Nat.le_of_ble_eq_true rfl) (fun l => ?_)
  refine aw_aload_n d_Coat_well_0 rfl ?_
  refine aw_get (k := 0) d_Coat_well_1 cl_Coat k_Coat_10 (by decide) a0 rfl ?_
  refine aw_get (k := 6) d_Coat_well_4 cl_Night k_Coat_96 (by decide) n0 rfl ?_
  refine aw_aload_n d_Coat_well_7 rfl ?_
  refine aw_get (k := 0) d_Coat_well_8 cl_Coat k_Coat_10 (by decide) a0 rfl ?_
  refine aw_v0i d_Coat_well_11 k_Coat_193 ok_Night_bound rfl ⟨rfl, rfl⟩ cl_Night n0 (c_bound n0 hn6 hpm hw6) rfl rfl (Nat.le_of_ble_eq_true rfl) ?_
  refine aw_s0i d_Coat_well_14 k_Coat_196 ok_Rows_areOwn rfl ⟨rfl, rfl⟩ (c_areOwn hpm (Nat.lt_trans (bnd_lt _ _ _ hn6) (by decide))) rfl rfl (Nat.le_of_ble_eq_true rfl) ?_
  refine aw_if_eq (tgt := 24) d_Coat_well_17 (by decide) (fun c17 => ?_) (fun c17 => ?_)
  · refine aw_iconst (v := nI 0) d_Coat_well_24 (by decide) ?_
    refine aw_ireturn d_Coat_well_25 rfl rfl ?_
    refine ⟨_, S, rfl, ?_, hX, Nat.le_refl _, fun k _ _ => rfl⟩
    unfold sp_well wel
    first
      | (rw [ab_bl_0.mp c17]; rfl)
      | (rw [ab_bl_1.mp c17]; rfl)
  · refine aw_iconst (v := nI 1) d_Coat_well_20 (by decide) ?_
    refine aw_goto (tgt := 25) d_Coat_well_21 (by decide) ?_
    refine aw_ireturn d_Coat_well_25 rfl rfl ?_
    refine ⟨_, S, rfl, ?_, hX, Nat.le_refl _, fun k _ _ => rfl⟩
    unfold sp_well wel
    first
      | (rw [ab_bl_0.mp c17]; rfl)
      | (rw [ab_bl_1.mp c17]; rfl)
