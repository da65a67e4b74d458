theorem or_pk {t : Nat → Nat} (h : ∀ k, k < 6 → t k < 8) {k v : Nat} (hk : k < 6) (hv : v < 8) (h0 : t k = 0) : nI (pk t) ||| nI v <<< ((nI 3 * nI k) &&& 31) = nI (pk (ud t k v)) := by
  have e0 := wi_pk h hk (show 0 < 8 by decide)
  have ez : nI 0 <<< ((nI 3 * nI k) &&& 31) = nI 0 := by rw [wi_val k hk 0 (by decide), Nat.mul_zero]
  have eu : ud t k 0 = t := by
    funext q
    unfold ud
    split
    · rename_i z; rw [z, h0]
    · rfl
  rw [ez, eu] at e0
  have e1 : nI (pk t) &&& ((nI 7 <<< ((nI 3 * nI k) &&& 31)) ^^^ (-1)) = nI (pk t) := by
    rw [show nI 0 = (0 : Int32) from rfl, Int32.or_zero] at e0
    exact e0
  have e2 := wi_pk h hk hv
  rw [e1] at e2
  exact e2
theorem pk_cong {t u : Nat → Nat} (h : ∀ k, k < 6 → t k = u k) : pk t = pk u := by
  unfold pk
  rw [h 0 (by decide), h 1 (by decide), h 2 (by decide), h 3 (by decide), h 4 (by decide), h 5 (by decide)]
theorem rk_cong {t u : Nat → Nat} (h : ∀ k, k < 6 → t k = u k) : rk t = rk u := by
  unfold rk
  rw [h 0 (by decide), h 1 (by decide), h 2 (by decide), h 3 (by decide), h 4 (by decide), h 5 (by decide)]
theorem pk_d {t : Nat → Nat} (h : ∀ k, k < 6 → t k < 8) : pk t % 8 = t 0 ∧ pk t / 2 ^ 3 % 8 = t 1 ∧ pk t / 2 ^ 6 % 8 = t 2 ∧ pk t / 2 ^ 9 % 8 = t 3 ∧ pk t / 2 ^ 12 % 8 = t 4 ∧ pk t / 2 ^ 15 % 8 = t 5 := by
  have h0 := h 0 (by decide)
  have h1 := h 1 (by decide)
  have h2 := h 2 (by decide)
  have h3 := h 3 (by decide)
  have h4 := h 4 (by decide)
  have h5 := h 5 (by decide)
  unfold pk
  omega
theorem fa_7 (n : Nat) : nI n &&& nI 7 = nI (n % 8) := fa_mask n 3
theorem lt1_le (a b : Nat) : lt1 a b ≤ 1 := by unfold lt1; split <;> omega
theorem lt1_y {a b : Nat} (h : b < a) : nI 1 = nI (lt1 a b) := by unfold lt1; rw [if_pos h]
theorem lt1_n {a b : Nat} (h : ¬ b < a) : nI 0 = nI (lt1 a b) := by unfold lt1; rw [if_neg h]
theorem c_rank {m : Nat} {h : ab_H} {x : Nat → Nat} (hx : Pm x) : ab_D Y_Rows_rank [.int (nI (pk x))] m h (some (.int (nI (rk x)))) m h := by
  refine ab_C.of (L := [some (.int (nI (pk x))), none, none, none, none, none, none, none, none, none]) rfl rfl (Nat.le_of_ble_eq_true rfl) (fun l => ?_)
  have l0 := hx.1 0 (by decide)
  have l1 := hx.1 1 (by decide)
  have l2 := hx.1 2 (by decide)
  have l3 := hx.1 3 (by decide)
  have l4 := hx.1 4 (by decide)
  have l5 := hx.1 5 (by decide)
  have hpk := pkb_lt hx.lt8
  obtain ⟨d0, d1, d2, d3, d4, d5⟩ := pk_d hx.lt8
  have n02 := hx.ne (show 0 < 6 by decide) (show 2 < 6 by decide) (by decide)
  have n12 := hx.ne (show 1 < 6 by decide) (show 2 < 6 by decide) (by decide)
  have n01 := hx.ne (show 0 < 6 by decide) (show 1 < 6 by decide) (by decide)
  have h2a : lt1 (x 2) (x 0) ≤ x 2 := by unfold lt1; split <;> omega
  have h2b : lt1 (x 2) (x 1) ≤ x 2 - lt1 (x 2) (x 0) := by unfold lt1; split <;> split <;> omega
  have j5 : ab_W Y_Rows_rank none l (fun r m2 h2 => r = some (.int (nI (rk x))) ∧ m2 = m ∧ h2 = h) 146 [some (.int (nI (pk x))), some (.int (nI (x 0))), some (.int (nI (x 1))), some (.int (nI (x 2))), some (.int (nI (x 3))), some (.int (nI (x 4))), some (.int (nI (x 5))), some (.int (nI (x 1 - lt1 (x 1) (x 0)))), some (.int (nI (x 2 - lt1 (x 2) (x 0) - lt1 (x 2) (x 1)))), some (.int (nI (lt1 (x 3) (x 4) + lt1 (x 3) (x 5))))] [.int (nI (lt1 (x 4) (x 5))), .int (nI (120 * x 0 + 24 * (x 1 - lt1 (x 1) (x 0)) + 6 * (x 2 - lt1 (x 2) (x 0) - lt1 (x 2) (x 1)) + 2 * (lt1 (x 3) (x 4) + lt1 (x 3) (x 5))))] m h (0, 0) := by
    refine aw_iadd d_Rows_rank_146 ?_
    refine aw_ireturn d_Rows_rank_147 rfl rfl ?_
    exact ⟨by rw [nI_add]; rfl, rfl, rfl⟩
  have j4 : ab_W Y_Rows_rank none l (fun r m2 h2 => r = some (.int (nI (rk x))) ∧ m2 = m ∧ h2 = h) 110 [some (.int (nI (pk x))), some (.int (nI (x 0))), some (.int (nI (x 1))), some (.int (nI (x 2))), some (.int (nI (x 3))), some (.int (nI (x 4))), some (.int (nI (x 5))), some (.int (nI (x 1 - lt1 (x 1) (x 0)))), some (.int (nI (x 2 - lt1 (x 2) (x 0) - lt1 (x 2) (x 1)))), none] [.int (nI (lt1 (x 3) (x 5))), .int (nI (lt1 (x 3) (x 4)))] m h (0, 0) := by
    refine aw_iadd d_Rows_rank_110 ?_
    rw [nI_add]
    refine aw_istore (L' := [some (.int (nI (pk x))), some (.int (nI (x 0))), some (.int (nI (x 1))), some (.int (nI (x 2))), some (.int (nI (x 3))), some (.int (nI (x 4))), some (.int (nI (x 5))), some (.int (nI (x 1 - lt1 (x 1) (x 0)))), some (.int (nI (x 2 - lt1 (x 2) (x 0) - lt1 (x 2) (x 1)))), some (.int (nI (lt1 (x 3) (x 4) + lt1 (x 3) (x 5))))]) d_Rows_rank_111 ⟨by decide, rfl⟩ rfl ?_
    refine aw_bipush (v := nI 120) d_Rows_rank_113 (by decide) ?_
    refine aw_iload_n d_Rows_rank_115 rfl ?_
    refine aw_imul d_Rows_rank_116 ?_
    refine aw_bipush (v := nI 24) d_Rows_rank_117 (by decide) ?_
    refine aw_iload d_Rows_rank_119 rfl ?_
    refine aw_imul d_Rows_rank_121 ?_
    refine aw_iadd d_Rows_rank_122 ?_
    refine aw_bipush (v := nI 6) d_Rows_rank_123 (by decide) ?_
    refine aw_iload d_Rows_rank_125 rfl ?_
    refine aw_imul d_Rows_rank_127 ?_
    refine aw_iadd d_Rows_rank_128 ?_
    refine aw_iconst (v := nI 2) d_Rows_rank_129 (by decide) ?_
    refine aw_iload d_Rows_rank_130 rfl ?_
    refine aw_imul d_Rows_rank_132 ?_
    refine aw_iadd d_Rows_rank_133 ?_
    rw [pk_mul, pk_mul, nI_add, pk_mul, nI_add, pk_mul, nI_add]
    refine aw_iload d_Rows_rank_134 rfl ?_
    refine aw_iload d_Rows_rank_136 rfl ?_
    refine aw_icmp_le (tgt := 145) d_Rows_rank_138 (by decide) (fun c138 => ?_) (fun c138 => ?_)
    · refine aw_iconst (v := nI 0) d_Rows_rank_145 (by decide) ?_
      first
        | exact aw_is (lt1_y (Nat.not_le.mp (fun z => c138 (nI_le z (by omega))))) j5
        | exact aw_is (lt1_n (Nat.not_lt.mpr ((nI_leI (by omega) (by omega)).mp c138))) j5
    · refine aw_iconst (v := nI 1) d_Rows_rank_141 (by decide) ?_
      refine aw_goto (tgt := 146) d_Rows_rank_142 (by decide) ?_
      first
        | exact aw_is (lt1_y (Nat.not_le.mp (fun z => c138 (nI_le z (by omega))))) j5
        | exact aw_is (lt1_n (Nat.not_lt.mpr ((nI_leI (by omega) (by omega)).mp c138))) j5
  have j3 : ab_W Y_Rows_rank none l (fun r m2 h2 => r = some (.int (nI (rk x))) ∧ m2 = m ∧ h2 = h) 98 [some (.int (nI (pk x))), some (.int (nI (x 0))), some (.int (nI (x 1))), some (.int (nI (x 2))), some (.int (nI (x 3))), some (.int (nI (x 4))), some (.int (nI (x 5))), some (.int (nI (x 1 - lt1 (x 1) (x 0)))), some (.int (nI (x 2 - lt1 (x 2) (x 0) - lt1 (x 2) (x 1)))), none] [.int (nI (lt1 (x 3) (x 4)))] m h (0, 0) := by
    refine aw_iload d_Rows_rank_98 rfl ?_
    refine aw_iload d_Rows_rank_100 rfl ?_
    refine aw_icmp_le (tgt := 109) d_Rows_rank_102 (by decide) (fun c102 => ?_) (fun c102 => ?_)
    · refine aw_iconst (v := nI 0) d_Rows_rank_109 (by decide) ?_
      first
        | exact aw_is (lt1_y (Nat.not_le.mp (fun z => c102 (nI_le z (by omega))))) j4
        | exact aw_is (lt1_n (Nat.not_lt.mpr ((nI_leI (by omega) (by omega)).mp c102))) j4
    · refine aw_iconst (v := nI 1) d_Rows_rank_105 (by decide) ?_
      refine aw_goto (tgt := 110) d_Rows_rank_106 (by decide) ?_
      first
        | exact aw_is (lt1_y (Nat.not_le.mp (fun z => c102 (nI_le z (by omega))))) j4
        | exact aw_is (lt1_n (Nat.not_lt.mpr ((nI_leI (by omega) (by omega)).mp c102))) j4
  have j2 : ab_W Y_Rows_rank none l (fun r m2 h2 => r = some (.int (nI (rk x))) ∧ m2 = m ∧ h2 = h) 83 [some (.int (nI (pk x))), some (.int (nI (x 0))), some (.int (nI (x 1))), some (.int (nI (x 2))), some (.int (nI (x 3))), some (.int (nI (x 4))), some (.int (nI (x 5))), some (.int (nI (x 1 - lt1 (x 1) (x 0)))), none, none] [.int (nI (lt1 (x 2) (x 1))), .int (nI (x 2 - lt1 (x 2) (x 0)))] m h (0, 0) := by
    refine aw_isub d_Rows_rank_83 ?_
    rw [pk_sub h2b]
    refine aw_istore (L' := [some (.int (nI (pk x))), some (.int (nI (x 0))), some (.int (nI (x 1))), some (.int (nI (x 2))), some (.int (nI (x 3))), some (.int (nI (x 4))), some (.int (nI (x 5))), some (.int (nI (x 1 - lt1 (x 1) (x 0)))), some (.int (nI (x 2 - lt1 (x 2) (x 0) - lt1 (x 2) (x 1)))), none]) d_Rows_rank_84 ⟨by decide, rfl⟩ rfl ?_
    refine aw_iload d_Rows_rank_86 rfl ?_
    refine aw_iload d_Rows_rank_88 rfl ?_
    refine aw_icmp_le (tgt := 97) d_Rows_rank_90 (by decide) (fun c90 => ?_) (fun c90 => ?_)
    · refine aw_iconst (v := nI 0) d_Rows_rank_97 (by decide) ?_
      first
        | exact aw_is (lt1_y (Nat.not_le.mp (fun z => c90 (nI_le z (by omega))))) j3
        | exact aw_is (lt1_n (Nat.not_lt.mpr ((nI_leI (by omega) (by omega)).mp c90))) j3
    · refine aw_iconst (v := nI 1) d_Rows_rank_93 (by decide) ?_
      refine aw_goto (tgt := 98) d_Rows_rank_94 (by decide) ?_
      first
        | exact aw_is (lt1_y (Nat.not_le.mp (fun z => c90 (nI_le z (by omega))))) j3
        | exact aw_is (lt1_n (Nat.not_lt.mpr ((nI_leI (by omega) (by omega)).mp c90))) j3
  have j1 : ab_W Y_Rows_rank none l (fun r m2 h2 => r = some (.int (nI (rk x))) ∧ m2 = m ∧ h2 = h) 72 [some (.int (nI (pk x))), some (.int (nI (x 0))), some (.int (nI (x 1))), some (.int (nI (x 2))), some (.int (nI (x 3))), some (.int (nI (x 4))), some (.int (nI (x 5))), some (.int (nI (x 1 - lt1 (x 1) (x 0)))), none, none] [.int (nI (lt1 (x 2) (x 0))), .int (nI (x 2))] m h (0, 0) := by
    refine aw_isub d_Rows_rank_72 ?_
    rw [pk_sub h2a]
    refine aw_iload_n d_Rows_rank_73 rfl ?_
    refine aw_iload_n d_Rows_rank_74 rfl ?_
    refine aw_icmp_le (tgt := 82) d_Rows_rank_75 (by decide) (fun c75 => ?_) (fun c75 => ?_)
    · refine aw_iconst (v := nI 0) d_Rows_rank_82 (by decide) ?_
      first
        | exact aw_is (lt1_y (Nat.not_le.mp (fun z => c75 (nI_le z (by omega))))) j2
        | exact aw_is (lt1_n (Nat.not_lt.mpr ((nI_leI (by omega) (by omega)).mp c75))) j2
    · refine aw_iconst (v := nI 1) d_Rows_rank_78 (by decide) ?_
      refine aw_goto (tgt := 83) d_Rows_rank_79 (by decide) ?_
      first
        | exact aw_is (lt1_y (Nat.not_le.mp (fun z => c75 (nI_le z (by omega))))) j2
        | exact aw_is (lt1_n (Nat.not_lt.mpr ((nI_leI (by omega) (by omega)).mp c75))) j2
  have j0 : ab_W Y_Rows_rank none l (fun r m2 h2 => r = some (.int (nI (rk x))) ∧ m2 = m ∧ h2 = h) 59 [some (.int (nI (pk x))), some (.int (nI (x 0))), some (.int (nI (x 1))), some (.int (nI (x 2))), some (.int (nI (x 3))), some (.int (nI (x 4))), some (.int (nI (x 5))), none, none, none] [.int (nI (x 1 - lt1 (x 1) (x 0)))] m h (0, 0) := by
    refine aw_istore (L' := [some (.int (nI (pk x))), some (.int (nI (x 0))), some (.int (nI (x 1))), some (.int (nI (x 2))), some (.int (nI (x 3))), some (.int (nI (x 4))), some (.int (nI (x 5))), some (.int (nI (x 1 - lt1 (x 1) (x 0)))), none, none]) d_Rows_rank_59 ⟨by decide, rfl⟩ rfl ?_
    refine aw_iload_n d_Rows_rank_61 rfl ?_
    refine aw_iload_n d_Rows_rank_62 rfl ?_
    refine aw_iload_n d_Rows_rank_63 rfl ?_
    refine aw_icmp_le (tgt := 71) d_Rows_rank_64 (by decide) (fun c64 => ?_) (fun c64 => ?_)
    · refine aw_iconst (v := nI 0) d_Rows_rank_71 (by decide) ?_
      first
        | exact aw_is (lt1_y (Nat.not_le.mp (fun z => c64 (nI_le z (by omega))))) j1
        | exact aw_is (lt1_n (Nat.not_lt.mpr ((nI_leI (by omega) (by omega)).mp c64))) j1
    · refine aw_iconst (v := nI 1) d_Rows_rank_67 (by decide) ?_
      refine aw_goto (tgt := 72) d_Rows_rank_68 (by decide) ?_
      first
        | exact aw_is (lt1_y (Nat.not_le.mp (fun z => c64 (nI_le z (by omega))))) j1
        | exact aw_is (lt1_n (Nat.not_lt.mpr ((nI_leI (by omega) (by omega)).mp c64))) j1
  refine aw_iload_n d_Rows_rank_0 rfl ?_
  refine aw_bipush (v := nI 7) d_Rows_rank_1 (by decide) ?_
  refine aw_iand d_Rows_rank_3 ?_
  rw [fa_7, d0]
  refine aw_istore_n (L' := [some (.int (nI (pk x))), some (.int (nI (x 0))), none, none, none, none, none, none, none, none]) d_Rows_rank_4 ⟨by decide, rfl⟩ rfl ?_
  refine aw_iload_n d_Rows_rank_5 rfl ?_
  refine aw_iconst (v := nI 3) d_Rows_rank_6 (by decide) ?_
  refine aw_ishr d_Rows_rank_7 ?_
  refine aw_bipush (v := nI 7) d_Rows_rank_8 (by decide) ?_
  refine aw_iand d_Rows_rank_10 ?_
  rw [b_shr (by omega) (by omega), fa_7, d1]
  refine aw_istore_n (L' := [some (.int (nI (pk x))), some (.int (nI (x 0))), some (.int (nI (x 1))), none, none, none, none, none, none, none]) d_Rows_rank_11 ⟨by decide, rfl⟩ rfl ?_
  refine aw_iload_n d_Rows_rank_12 rfl ?_
  refine aw_bipush (v := nI 6) d_Rows_rank_13 (by decide) ?_
  refine aw_ishr d_Rows_rank_15 ?_
  refine aw_bipush (v := nI 7) d_Rows_rank_16 (by decide) ?_
  refine aw_iand d_Rows_rank_18 ?_
  rw [b_shr (by omega) (by omega), fa_7, d2]
  refine aw_istore_n (L' := [some (.int (nI (pk x))), some (.int (nI (x 0))), some (.int (nI (x 1))), some (.int (nI (x 2))), none, none, none, none, none, none]) d_Rows_rank_19 ⟨by decide, rfl⟩ rfl ?_
  refine aw_iload_n d_Rows_rank_20 rfl ?_
  refine aw_bipush (v := nI 9) d_Rows_rank_21 (by decide) ?_
  refine aw_ishr d_Rows_rank_23 ?_
  refine aw_bipush (v := nI 7) d_Rows_rank_24 (by decide) ?_
  refine aw_iand d_Rows_rank_26 ?_
  rw [b_shr (by omega) (by omega), fa_7, d3]
  refine aw_istore (L' := [some (.int (nI (pk x))), some (.int (nI (x 0))), some (.int (nI (x 1))), some (.int (nI (x 2))), some (.int (nI (x 3))), none, none, none, none, none]) d_Rows_rank_27 ⟨by decide, rfl⟩ rfl ?_
  refine aw_iload_n d_Rows_rank_29 rfl ?_
  refine aw_bipush (v := nI 12) d_Rows_rank_30 (by decide) ?_
  refine aw_ishr d_Rows_rank_32 ?_
  refine aw_bipush (v := nI 7) d_Rows_rank_33 (by decide) ?_
  refine aw_iand d_Rows_rank_35 ?_
  rw [b_shr (by omega) (by omega), fa_7, d4]
  refine aw_istore (L' := [some (.int (nI (pk x))), some (.int (nI (x 0))), some (.int (nI (x 1))), some (.int (nI (x 2))), some (.int (nI (x 3))), some (.int (nI (x 4))), none, none, none, none]) d_Rows_rank_36 ⟨by decide, rfl⟩ rfl ?_
  refine aw_iload_n d_Rows_rank_38 rfl ?_
  refine aw_bipush (v := nI 15) d_Rows_rank_39 (by decide) ?_
  refine aw_ishr d_Rows_rank_41 ?_
  refine aw_bipush (v := nI 7) d_Rows_rank_42 (by decide) ?_
  refine aw_iand d_Rows_rank_44 ?_
  rw [b_shr (by omega) (by omega), fa_7, d5]
  refine aw_istore (L' := [some (.int (nI (pk x))), some (.int (nI (x 0))), some (.int (nI (x 1))), some (.int (nI (x 2))), some (.int (nI (x 3))), some (.int (nI (x 4))), some (.int (nI (x 5))), none, none, none]) d_Rows_rank_45 ⟨by decide, rfl⟩ rfl ?_
  refine aw_iload_n d_Rows_rank_47 rfl ?_
  refine aw_iload_n d_Rows_rank_48 rfl ?_
  refine aw_icmp_le (tgt := 58) d_Rows_rank_49 (by decide) (fun c49 => ?_) (fun c49 => ?_)
  · refine aw_iload_n d_Rows_rank_58 rfl ?_
    first
      | (have c := Nat.not_le.mp (fun z => c49 (nI_le z (by omega)))
         refine aw_is (y := nI (x 1 - lt1 (x 1) (x 0))) ?_ j0
         rw [pk_sub (by omega)]
         unfold lt1
         rw [if_pos c])
      | (have c := (nI_leI (by omega) (by omega)).mp c49
         refine aw_is (y := nI (x 1 - lt1 (x 1) (x 0))) ?_ j0
         unfold lt1
         rw [if_neg (by omega), Nat.sub_zero])
  · refine aw_iload_n d_Rows_rank_52 rfl ?_
    refine aw_iconst (v := nI 1) d_Rows_rank_53 (by decide) ?_
    refine aw_isub d_Rows_rank_54 ?_
    refine aw_goto (tgt := 59) d_Rows_rank_55 (by decide) ?_
    first
      | (have c := Nat.not_le.mp (fun z => c49 (nI_le z (by omega)))
         refine aw_is (y := nI (x 1 - lt1 (x 1) (x 0))) ?_ j0
         rw [pk_sub (by omega)]
         unfold lt1
         rw [if_pos c])
      | (have c := (nI_leI (by omega) (by omega)).mp c49
         refine aw_is (y := nI (x 1 - lt1 (x 1) (x 0))) ?_ j0
         unfold lt1
         rw [if_neg (by omega), Nat.sub_zero])
def dn (s : Nat) (x : Nat → Nat) (j : Nat) : Nat → Nat := fun q => if tvs s q < j then x (tvs s q) else 0
def rn (s : Nat) (x : Nat → Nat) (j : Nat) : Nat → Nat := fun q => if q < j then tgs s (x q) else 0
theorem dn_s {n K s : Nat} (hn : n ≤ 6) (h : isl n K s = true) (x : Nat → Nat) (j : Nat) : ud (dn s x j) (tgs s j) (x j) = dn s x (j + 1) := by
  obtain ⟨a, b, c, d, e, f⟩ := isl_t hn h
  funext q
  unfold ud dn
  by_cases z : q = tgs s j
  · rw [if_pos z, z, e, if_pos (by omega)]
  · rw [if_neg z]
    have ne : ¬ tvs s q = j := fun y => z (by rw [← y, f])
    by_cases y : tvs s q < j
    · rw [if_pos y, if_pos (by omega)]
    · rw [if_neg y, if_neg (by omega)]
theorem rn_s (s : Nat) (x : Nat → Nat) (j : Nat) : ud (rn s x j) j (tgs s (x j)) = rn s x (j + 1) := by
  funext q
  unfold ud rn
  by_cases z : q = j
  · rw [if_pos z, z, if_pos (by omega)]
  · rw [if_neg z]
    by_cases y : q < j
    · rw [if_pos y, if_pos (by omega)]
    · rw [if_neg y, if_neg (by omega)]
theorem c_done {m : Nat} {h : ab_H} {n K s : Nat} (hn : n ≤ 6) (hs : isl n K s = true) {x : Nat → Nat} (hx : Pm x) : ab_D Y_Slips_done [.int (nI (pk x)), .int (nI (pk (tgs s)))] m h (some (.int (nI (pk (ed s x))))) m (h) := by
  refine ab_C.of (L := [some (.int (nI (pk x))), some (.int (nI (pk (tgs s)))), none, none]) rfl rfl (Nat.le_of_ble_eq_true rfl) (fun l => ?_)
  obtain ⟨ta, tb, tc, td, te, tf⟩ := isl_t hn hs
  have loop : ∀ kf j, j + kf = 6 → ab_W Y_Slips_done none l (fun r m2 h2 => r = some (.int (nI (pk (ed s x)))) ∧ m2 = m ∧ h2 = h) 4 [some (.int (nI (pk x))), some (.int (nI (pk (tgs s)))), some (.int (nI (pk (dn s x (j))))), some (.int (nI (3 * j)))] [] m (h) (0, 0) := by
    intro kf
    induction kf with
    | zero =>
      intro j hj 
      have hjn : 6 = j := by omega
      subst hjn
      refine aw_iload_n d_Slips_done_4 rfl ?_
      refine aw_bipush (v := nI 18) d_Slips_done_5 (by decide) ?_
      refine aw_icmp_ge (tgt := 34) d_Slips_done_7 (by decide) (fun c7 => ?_) (fun c7 => ?_)
      · refine aw_iload_n d_Slips_done_34 rfl ?_
        refine aw_ireturn d_Slips_done_35 rfl rfl ?_
        exact ⟨by rw [pk_cong (t := dn s x 6) (u := ed s x) (fun k hk => if_pos (tb.1 k hk))], rfl, rfl⟩
      · exact absurd (Int32.le_refl _) c7
    | succ kf ih =>
      intro j hj 
      refine aw_iload_n d_Slips_done_4 rfl ?_
      refine aw_bipush (v := nI 18) d_Slips_done_5 (by decide) ?_
      refine aw_icmp_ge (tgt := 34) d_Slips_done_7 (by decide) (fun c7 => ?_) (fun c7 => ?_)
      · exact absurd c7 (nI_ge (by omega) (by omega))
      · refine aw_iload_n d_Slips_done_10 rfl ?_
        refine aw_iload_n d_Slips_done_11 rfl ?_
        refine aw_iload_n d_Slips_done_12 rfl ?_
        refine aw_ishr d_Slips_done_13 ?_
        refine aw_bipush (v := nI 7) d_Slips_done_14 (by decide) ?_
        refine aw_iand d_Slips_done_16 ?_
        rw [show nI (3 * j) = nI 3 * nI j from (pk_mul 3 j).symm, at_pk hx.lt8 (show j < 6 by omega)]
        refine aw_iconst (v := nI 3) d_Slips_done_17 (by decide) ?_
        refine aw_iload_n d_Slips_done_18 rfl ?_
        refine aw_iload_n d_Slips_done_19 rfl ?_
        refine aw_ishr d_Slips_done_20 ?_
        refine aw_bipush (v := nI 7) d_Slips_done_21 (by decide) ?_
        refine aw_iand d_Slips_done_23 ?_
        rw [at_pk ta.lt8 (show j < 6 by omega)]
        refine aw_imul d_Slips_done_24 ?_
        refine aw_ishl d_Slips_done_25 ?_
        refine aw_ior d_Slips_done_26 ?_
        rw [or_pk (t := dn s x j) (fun k hk => by
          unfold dn
          split
          · exact hx.lt8 _ (tb.1 k hk)
          · decide) (ta.1 j (by omega)) (hx.lt8 j (by omega)) (by unfold dn; rw [te, if_neg (Nat.lt_irrefl _)]), show nI 3 * nI j = nI (3 * j) from pk_mul 3 j]
        refine aw_istore_n (L' := [some (.int (nI (pk x))), some (.int (nI (pk (tgs s)))), some (.int (nI (pk (ud (dn s x j) (tgs s j) (x j))))), some (.int (nI (3 * j)))]) d_Slips_done_27 ⟨by decide, rfl⟩ rfl ?_
        obtain ⟨v28, ev28⟩ : ∃ z : Int32, z = nI (3 * j) + Int32.ofInt (3) := ⟨_, rfl⟩
        refine aw_iinc (v := v28) (L' := [some (.int (nI (pk x))), some (.int (nI (pk (tgs s)))), some (.int (nI (pk (ud (dn s x j) (tgs s j) (x j))))), some (.int v28)]) d_Slips_done_28 rfl ev28.symm ⟨by decide, rfl⟩ rfl ?_
        refine aw_goto (tgt := 4) d_Slips_done_31 (by decide) ?_
        rw [dn_s hn hs, ev28, show nI (3 * j) + Int32.ofInt 3 = nI (3 * (j + 1)) by rw [show Int32.ofInt 3 = nI 3 from rfl, nI_add, Nat.mul_add]]
        exact ih (j + 1) (by omega)
  refine aw_iconst (v := nI 0) d_Slips_done_0 (by decide) ?_
  refine aw_istore_n (L' := [some (.int (nI (pk x))), some (.int (nI (pk (tgs s)))), some (.int (nI 0)), none]) d_Slips_done_1 ⟨by decide, rfl⟩ rfl ?_
  refine aw_iconst (v := nI 0) d_Slips_done_2 (by decide) ?_
  refine aw_istore_n (L' := [some (.int (nI (pk x))), some (.int (nI (pk (tgs s)))), some (.int (nI 0)), some (.int (nI 0))]) d_Slips_done_3 ⟨by decide, rfl⟩ rfl ?_
  exact loop 6 0 (by omega)
theorem c_renamed {m : Nat} {h : ab_H} {n K s : Nat} (hn : n ≤ 6) (hs : isl n K s = true) {x : Nat → Nat} (hx : Pm x) : ab_D Y_Slips_renamed [.int (nI (pk x)), .int (nI (pk (tgs s)))] m h (some (.int (nI (pk (ren s x))))) m (h) := by
  refine ab_C.of (L := [some (.int (nI (pk x))), some (.int (nI (pk (tgs s)))), none, none]) rfl rfl (Nat.le_of_ble_eq_true rfl) (fun l => ?_)
  obtain ⟨ta, tb, tc, td, te, tf⟩ := isl_t hn hs
  have loop : ∀ kf j, j + kf = 6 → ab_W Y_Slips_renamed none l (fun r m2 h2 => r = some (.int (nI (pk (ren s x)))) ∧ m2 = m ∧ h2 = h) 4 [some (.int (nI (pk x))), some (.int (nI (pk (tgs s)))), some (.int (nI (pk (rn s x (j))))), some (.int (nI (j)))] [] m (h) (0, 0) := by
    intro kf
    induction kf with
    | zero =>
      intro j hj 
      have hjn : 6 = j := by omega
      subst hjn
      refine aw_iload_n d_Slips_renamed_4 rfl ?_
      refine aw_bipush (v := nI 6) d_Slips_renamed_5 (by decide) ?_
      refine aw_icmp_ge (tgt := 32) d_Slips_renamed_7 (by decide) (fun c7 => ?_) (fun c7 => ?_)
      · refine aw_iload_n d_Slips_renamed_32 rfl ?_
        refine aw_ireturn d_Slips_renamed_33 rfl rfl ?_
        exact ⟨by rw [pk_cong (t := rn s x 6) (u := ren s x) (fun k hk => if_pos hk)], rfl, rfl⟩
      · exact absurd (Int32.le_refl _) c7
    | succ kf ih =>
      intro j hj 
      refine aw_iload_n d_Slips_renamed_4 rfl ?_
      refine aw_bipush (v := nI 6) d_Slips_renamed_5 (by decide) ?_
      refine aw_icmp_ge (tgt := 32) d_Slips_renamed_7 (by decide) (fun c7 => ?_) (fun c7 => ?_)
      · exact absurd c7 (nI_ge (by omega) (by omega))
      · refine aw_iload_n d_Slips_renamed_10 rfl ?_
        refine aw_iload_n d_Slips_renamed_11 rfl ?_
        refine aw_iload_n d_Slips_renamed_12 rfl ?_
        refine aw_iload_n d_Slips_renamed_13 rfl ?_
        refine aw_s0i d_Slips_renamed_14 k_Slips_43 ok_Rows_at rfl ⟨rfl, rfl⟩ (c_at hx.lt8 (show j < 6 by omega)) rfl rfl (Nat.le_of_ble_eq_true rfl) ?_
        refine aw_s0i d_Slips_renamed_17 k_Slips_43 ok_Rows_at rfl ⟨rfl, rfl⟩ (c_at ta.lt8 (hx.1 j (by omega))) rfl rfl (Nat.le_of_ble_eq_true rfl) ?_
        refine aw_iconst (v := nI 3) d_Slips_renamed_20 (by decide) ?_
        refine aw_iload_n d_Slips_renamed_21 rfl ?_
        refine aw_imul d_Slips_renamed_22 ?_
        refine aw_ishl d_Slips_renamed_23 ?_
        refine aw_ior d_Slips_renamed_24 ?_
        rw [or_pk (t := rn s x j) (fun k hk => by
          unfold rn
          split
          · exact ta.lt8 _ (hx.1 k hk)
          · decide) (show j < 6 by omega) (ta.lt8 _ (hx.1 j (by omega))) (by unfold rn; rw [if_neg (Nat.lt_irrefl _)])]
        refine aw_istore_n (L' := [some (.int (nI (pk x))), some (.int (nI (pk (tgs s)))), some (.int (nI (pk (ud (rn s x j) j (tgs s (x j)))))), some (.int (nI (j)))]) d_Slips_renamed_25 ⟨by decide, rfl⟩ rfl ?_
        refine aw_iinc (v := nI ((j) + 1)) (L' := [some (.int (nI (pk x))), some (.int (nI (pk (tgs s)))), some (.int (nI (pk (ud (rn s x j) j (tgs s (x j)))))), some (.int (nI ((j) + 1)))]) d_Slips_renamed_26 rfl (nI_1 _) ⟨by decide, rfl⟩ rfl ?_
        refine aw_goto (tgt := 4) d_Slips_renamed_29 (by decide) ?_
        rw [rn_s]
        exact ih (j + 1) (by omega)
  refine aw_iconst (v := nI 0) d_Slips_renamed_0 (by decide) ?_
  refine aw_istore_n (L' := [some (.int (nI (pk x))), some (.int (nI (pk (tgs s)))), some (.int (nI 0)), none]) d_Slips_renamed_1 ⟨by decide, rfl⟩ rfl ?_
  refine aw_iconst (v := nI 0) d_Slips_renamed_2 (by decide) ?_
  refine aw_istore_n (L' := [some (.int (nI (pk x))), some (.int (nI (pk (tgs s)))), some (.int (nI 0)), some (.int (nI 0))]) d_Slips_renamed_3 ⟨by decide, rfl⟩ rfl ?_
  exact loop 6 0 (by omega)
