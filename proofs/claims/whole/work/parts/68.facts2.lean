section CLS
variable {n : Nat} {mk g : Nat → Nat} {len a : Nat} {d : Nat → Nat}
theorem cls_1 (h : ¬ (97 ≤ sg g len (a1 g len a) ∧ sg g len (a1 g len a) < 97 + n)) : cls n mk g len a d = (false, a1 g len a, d) := if_pos h
theorem cls_2 (h : 97 ≤ sg g len (a1 g len a) ∧ sg g len (a1 g len a) < 97 + n) (h2 : opc (sg g len (a2 g len a)) = false) : cls n mk g len a d = (false, a2 g len a, d) := by
  unfold cls
  rw [if_neg (fun q => q h), if_pos (by rw [h2]; decide)]
theorem cls_3 (h : 97 ≤ sg g len (a1 g len a) ∧ sg g len (a1 g len a) < 97 + n) (h2 : opc (sg g len (a2 g len a)) = true) (h3 : ok3 n (sg g len (a2 g len a)) (sg g len (a3 g len a)) = false) : cls n mk g len a d = (false, a3 g len a, d) := by
  unfold cls
  rw [if_neg (fun q => q h), if_neg (fun q => q h2), if_pos (by rw [h3]; decide)]
theorem cls_4 (h : 97 ≤ sg g len (a1 g len a) ∧ sg g len (a1 g len a) < 97 + n) (h2 : opc (sg g len (a2 g len a)) = true) (h3 : ok3 n (sg g len (a2 g len a)) (sg g len (a3 g len a)) = true) : cls n mk g len a d = (true, a3 g len a + 1, ud d (sg g len (a1 g len a) - 97) (ndr (d (sg g len (a1 g len a) - 97)) (sg g len (a2 g len a)) (cts mk n (sg g len (a2 g len a)) (sg g len (a3 g len a))))) := by
  unfold cls
  rw [if_neg (fun q => q h), if_neg (fun q => q h2), if_neg (fun q => q h3)]
theorem sg_lt {b : Nat} (hb : 1 ≤ b) (h : b ≤ sg g len a) : a < len := by
  refine Nat.not_le.mp fun z => ?_
  rw [sg, if_neg (by omega)] at h
  omega
end CLS
/-- a draft: bits beyond the people stand for nothing -/
def DRq (gd : Nat → Int32) (n : Nat) (d : Nat → Nat) : Prop := ∀ k, k < n → ∃ b, b < 64 ∧ gd k = nI b ∧ b % 2 ^ n = d k
theorem DRq.up {gd : Nat → Int32} {n : Nat} {d : Nat → Nat} (h : DRq gd n d) {j b : Nat} (hb : b < 64) {v : Nat} (e : b % 2 ^ n = v) : DRq (upd gd j (nI b)) n (ud d j v) := by
  intro k hk
  by_cases q : k = j
  · subst q
    exact ⟨b, hb, pk_us, by rw [ud_s]; exact e⟩
  · rw [pk_un q, ud_n q]
    exact h k hk
theorem c_readClause {m : Nat} {h : ab_H} {N : NS} (hX : NX h 2 N) (ok : N_ok N) {len a : Nat} (hT : h 20 = oT len (nI a)) {G : Nat → Int32} (hG : h 21 = .inl (100, G)) {g : Nat → Nat} (hl : len ≤ 100) (ag : ∀ k, k < len → G k = nI (g k)) (hg : ∀ k, k < len → g k < 127) (ha : a ≤ len) {gd : Nat → Int32} (hD : h 22 = .inl (6, gd)) {d : Nat → Nat} (hdr : DRq gd (N_n N) d) : ab_C Y_Tape_readClause [.ref 20, .ref 2] m h (fun r m2 h2 => r = some (.int (ab_bl (cls (N_n N) (N_mk N) g len a d).1)) ∧ m2 = m ∧ ∃ gd2 : Nat → Int32, h2 = ab_set (ab_set h 20 (oT len (nI (cls (N_n N) (N_mk N) g len a d).2.1))) 22 (.inl (6, gd2)) ∧ DRq gd2 (N_n N) (cls (N_n N) (N_mk N) g len a d).2.2) := by
  obtain ⟨n0, ⟨gx, hx, ax⟩, ⟨gy, hy, ay⟩, ⟨gm, hm, am⟩, ⟨gl, hl9, al⟩, ⟨ga, ha9, aa⟩, ⟨gi, hi, ai⟩, ⟨gj, hj0, aj⟩, ⟨gf, hf0, af⟩⟩ := id hX
  have hn6 : N_n N ≤ 6 := ok.1
  have hns : N_ns N ≤ 4 := ok.2.2.2.2.2.2.2.2.1
  have hpm := ok.pm
  have hw6 := ok.w6
  have hfx := ok.2.2.1
  have bx := ok.2.2.2.2.2.1
  have bi := ok.2.2.2.2.2.2.2.2.2.1
  have h1l : a1 g len a ≤ len := (lk_le ha).2
  refine ab_C.of (L := [some (.ref 20), some (.ref 2), none, none, none, none, none]) rfl rfl (Nat.le_of_ble_eq_true rfl) (fun l => ?_)
  refine aw_aload_n d_Tape_readClause_0 rfl ?_
  refine aw_v0i (a := 20) d_Tape_readClause_1 k_Tape_44 ok_Tape_look rfl ⟨rfl, rfl⟩ cl_Tape hT (c_look hT hG hl ag hg ha) rfl rfl (Nat.le_of_ble_eq_true rfl) ?_
  refine aw_bipush (v := nI 97) d_Tape_readClause_4 (by decide) ?_
  refine aw_isub d_Tape_readClause_6 ?_
  refine aw_topi (fun v7 ev7 => ?_)
  refine aw_istore_n (L' := [some (.ref 20), some (.ref 2), some (.int v7), none, none, none, none]) d_Tape_readClause_7 ⟨by decide, rfl⟩ rfl ?_
  refine aw_aload_n d_Tape_readClause_8 rfl ?_
  refine aw_iload_n d_Tape_readClause_9 rfl ?_
  refine aw_v0i (a := 2) d_Tape_readClause_10 k_Tape_48 ok_Night_isPerson rfl ⟨rfl, rfl⟩ cl_Night n0 (c_isPerson (h := ab_set h 20 (oT len (nI (a1 g len a)))) n0 v7) rfl rfl (Nat.le_of_ble_eq_true rfl) ?_
  refine aw_if_ne (tgt := 18) d_Tape_readClause_13 (by decide) (fun c13 => ?_) (fun c13 => ?_)
  · have s1 : 97 ≤ sg g len (a1 g len a) ∧ sg g len (a1 g len a) < 97 + N_n N := by
      have c := ab_bl_1.mp c13
      rw [ev7, lv_in hg (by decide) (by decide) (by omega)] at c
      exact of_decide_eq_true c
    obtain rfl : v7 = nI (sg g len (a1 g len a) - 97) := by rw [ev7]; exact lv_val hg (by decide) (by decide) s1.1
    have l1 : a1 g len a < len := sg_lt (by decide) s1.1
    have h2l : a2 g len a ≤ len := (lk_le (show a1 g len a + 1 ≤ len by omega)).2
    refine aw_aload_n d_Tape_readClause_18 rfl ?_
    refine aw_dup d_Tape_readClause_19 rfl ?_
    refine aw_get (k := 1) d_Tape_readClause_20 cl_Tape k_Tape_33 (by decide) rfl rfl ?_
    refine aw_iconst (v := nI 1) d_Tape_readClause_23 (by decide) ?_
    refine aw_iadd d_Tape_readClause_24 ?_
    rw [nI_add]
    refine aw_put (k := 1) (fs' := [.int (nI len), .int (nI (a1 g len a + 1)), .ref 21, .ref 22]) d_Tape_readClause_25 cl_Tape k_Tape_33 (by decide) rfl ⟨rfl, rfl⟩ rfl (Nat.le_of_ble_eq_true rfl) rfl ?_
    rw [ab_set_set]
    refine aw_aload_n d_Tape_readClause_28 rfl ?_
    refine aw_v0i (a := 20) d_Tape_readClause_29 k_Tape_44 ok_Tape_look rfl ⟨rfl, rfl⟩ cl_Tape rfl (c_look (h := ab_set h 20 (oT len (nI (a1 g len a + 1)))) (a := a1 g len a + 1) rfl hG hl ag hg (by omega)) rfl rfl (Nat.le_of_ble_eq_true rfl) ?_
    rw [ab_set_set]
    refine aw_topi (fun v32 ev32 => ?_)
    refine aw_istore_n (L' := [some (.ref 20), some (.ref 2), some (.int (nI (sg g len (a1 g len a) - 97))), some (.int v32), none, none, none]) d_Tape_readClause_32 ⟨by decide, rfl⟩ rfl ?_
    refine aw_iload_n d_Tape_readClause_33 rfl ?_
    refine aw_bipush (v := nI 61) d_Tape_readClause_34 (by decide) ?_
    refine aw_icmp_eq (tgt := 45) d_Tape_readClause_36 (by decide) (fun c36 => ?_) (fun c36 => ?_)
    · have s2 : (sg g len (a2 g len a)) = 61 := (lv_c hg (by decide) (by decide)).mp (ev32.symm.trans c36)
      have o2 : opc (sg g len (a2 g len a)) = true := by rw [s2]; rfl
      have l2 : a2 g len a < len := sg_lt (b := 1) (by decide) (by rw [s2]; decide)
      have h3l : a3 g len a ≤ len := (lk_le (show a2 g len a + 1 ≤ len by omega)).2
      have k3 : ok3 (N_n N) (sg g len (a2 g len a)) (sg g len (a3 g len a)) = decide (97 ≤ (sg g len (a3 g len a)) ∧ (sg g len (a3 g len a)) < 97 + N_n N) := by rw [s2]; rfl
      rw [c36]
      refine aw_iconst (v := nI 1) d_Tape_readClause_45 (by decide) ?_
      refine aw_goto (tgt := 50) d_Tape_readClause_46 (by decide) ?_
      refine aw_istore (L' := [some (.ref 20), some (.ref 2), some (.int (nI ((sg g len (a1 g len a)) - 97))), some (.int (nI 61)), some (.int (nI 1)), none, none]) d_Tape_readClause_50 ⟨by decide, rfl⟩ rfl ?_
      refine aw_iload d_Tape_readClause_52 rfl ?_
      refine aw_if_ne (tgt := 71) d_Tape_readClause_54 (by decide) (fun c54 => ?_) (fun c54 => ?_)
      · refine aw_aload_n d_Tape_readClause_71 rfl ?_
        refine aw_dup d_Tape_readClause_72 rfl ?_
        refine aw_get (k := 1) d_Tape_readClause_73 cl_Tape k_Tape_33 (by decide) rfl rfl ?_
        refine aw_iconst (v := nI 1) d_Tape_readClause_76 (by decide) ?_
        refine aw_iadd d_Tape_readClause_77 ?_
        rw [nI_add]
        refine aw_put (k := 1) (fs' := [.int (nI len), .int (nI (a2 g len a + 1)), .ref 21, .ref 22]) d_Tape_readClause_78 cl_Tape k_Tape_33 (by decide) rfl ⟨rfl, rfl⟩ rfl (Nat.le_of_ble_eq_true rfl) rfl ?_
        rw [ab_set_set]
        refine aw_aload_n d_Tape_readClause_81 rfl ?_
        refine aw_v0i (a := 20) d_Tape_readClause_82 k_Tape_44 ok_Tape_look rfl ⟨rfl, rfl⟩ cl_Tape rfl (c_look (h := ab_set h 20 (oT len (nI (a2 g len a + 1)))) (a := a2 g len a + 1) rfl hG hl ag hg (by omega)) rfl rfl (Nat.le_of_ble_eq_true rfl) ?_
        rw [ab_set_set]
        refine aw_iload d_Tape_readClause_85 rfl ?_
        refine aw_if_eq (tgt := 95) d_Tape_readClause_87 (by decide) (fun c87 => ?_) (fun c87 => ?_)
        · first | exact absurd c87 (by decide) | exact absurd (by decide) c87
        · refine aw_bipush (v := nI 97) d_Tape_readClause_90 (by decide) ?_
          refine aw_goto (tgt := 97) d_Tape_readClause_92 (by decide) ?_
          refine aw_isub d_Tape_readClause_97 ?_
          refine aw_topi (fun v98 ev98 => ?_)
          refine aw_istore (L' := [some (.ref 20), some (.ref 2), some (.int (nI ((sg g len (a1 g len a)) - 97))), some (.int (nI 61)), some (.int (nI 1)), some (.int v98), none]) d_Tape_readClause_98 ⟨by decide, rfl⟩ rfl ?_
          refine aw_iload d_Tape_readClause_100 rfl ?_
          refine aw_if_eq (tgt := 117) d_Tape_readClause_102 (by decide) (fun c102 => ?_) (fun c102 => ?_)
          · first | exact absurd c102 (by decide) | exact absurd (by decide) c102
          · refine aw_aload_n d_Tape_readClause_105 rfl ?_
            refine aw_iload d_Tape_readClause_106 rfl ?_
            refine aw_v0i (a := 2) d_Tape_readClause_108 k_Tape_48 ok_Night_isPerson rfl ⟨rfl, rfl⟩ cl_Night n0 (c_isPerson (h := ab_set h 20 (oT len (nI (a3 g len a)))) n0 v98) rfl rfl (Nat.le_of_ble_eq_true rfl) ?_
            refine aw_if_ne (tgt := 131) d_Tape_readClause_111 (by decide) (fun c111 => ?_) (fun c111 => ?_)
            · have s3 : 97 ≤ (sg g len (a3 g len a)) ∧ (sg g len (a3 g len a)) < 97 + N_n N := by
                have c := ab_bl_1.mp c111
                rw [ev98, lv_in hg (by decide) (by decide) (by omega)] at c
                exact of_decide_eq_true c
              have e3 : ok3 (N_n N) (sg g len (a2 g len a)) (sg g len (a3 g len a)) = true := by rw [k3]; exact decide_eq_true s3
              obtain rfl : v98 = nI ((sg g len (a3 g len a)) - 97) := by rw [ev98]; exact lv_val hg (by decide) (by decide) s3.1
              have l3 : a3 g len a < len := sg_lt (by decide) s3.1
              refine aw_aload_n d_Tape_readClause_131 rfl ?_
              refine aw_dup d_Tape_readClause_132 rfl ?_
              refine aw_get (k := 1) d_Tape_readClause_133 cl_Tape k_Tape_33 (by decide) rfl rfl ?_
              refine aw_iconst (v := nI 1) d_Tape_readClause_136 (by decide) ?_
              refine aw_iadd d_Tape_readClause_137 ?_
              rw [nI_add]
              refine aw_put (k := 1) (fs' := [.int (nI len), .int (nI (a3 g len a + 1)), .ref 21, .ref 22]) d_Tape_readClause_138 cl_Tape k_Tape_33 (by decide) rfl ⟨rfl, rfl⟩ rfl (Nat.le_of_ble_eq_true rfl) rfl ?_
              rw [ab_set_set]
              refine aw_iload d_Tape_readClause_141 rfl ?_
              refine aw_if_eq (tgt := 153) d_Tape_readClause_143 (by decide) (fun c143 => ?_) (fun c143 => ?_)
              · first | exact absurd c143 (by decide) | exact absurd (by decide) c143
              · refine aw_iconst (v := nI 1) d_Tape_readClause_146 (by decide) ?_
                refine aw_iload d_Tape_readClause_147 rfl ?_
                refine aw_ishl d_Tape_readClause_149 ?_
                rw [b_one (by omega)]
                refine aw_goto (tgt := 159) d_Tape_readClause_150 (by decide) ?_
                refine aw_istore (L' := [some (.ref 20), some (.ref 2), some (.int (nI ((sg g len (a1 g len a)) - 97))), some (.int (nI 61)), some (.int (nI 1)), some (.int (nI ((sg g len (a3 g len a)) - 97))), some (.int (nI (2 ^ ((sg g len (a3 g len a)) - 97))))]) d_Tape_readClause_159 ⟨by decide, rfl⟩ rfl ?_
                have hct : 2 ^ ((sg g len (a3 g len a)) - 97) < 64 := p6_lt (by omega)
                obtain ⟨bd, hbd, ebd, mbd⟩ := hdr ((sg g len (a1 g len a)) - 97) (by omega)
                refine aw_aload_n d_Tape_readClause_161 rfl ?_
                refine aw_get (k := 3) d_Tape_readClause_162 cl_Tape k_Tape_15 (by decide) rfl rfl ?_
                refine aw_iload_n d_Tape_readClause_165 rfl ?_
                refine aw_dup2 d_Tape_readClause_166 rfl rfl ?_
                refine aw_ialoadN d_Tape_readClause_167 hD (by omega) (by decide) ?_
                refine aw_iload_n d_Tape_readClause_168 rfl ?_
                refine aw_bipush (v := nI 61) d_Tape_readClause_169 (by decide) ?_
                refine aw_icmp_eq (tgt := 180) d_Tape_readClause_171 (by decide) (fun c171 => ?_) (fun c171 => ?_)
                · refine aw_iload d_Tape_readClause_180 rfl ?_
                  refine aw_goto (tgt := 189) d_Tape_readClause_182 (by decide) ?_
                  refine aw_iand d_Tape_readClause_189 ?_
                  rw [ebd]
                  refine aw_is (y := nI (bd &&& (2 ^ ((sg g len (a3 g len a)) - 97)))) ?_ ?_
                  · exact fa_and _ _
                  refine aw_iastoreN d_Tape_readClause_190 hD (by omega) (by decide) ?_
                  refine aw_iconst (v := nI 1) d_Tape_readClause_191 (by decide) ?_
                  refine aw_ireturn d_Tape_readClause_192 rfl (by decide) ?_
                  rw [cls_4 s1 o2 e3]
                  refine ⟨rfl, rfl, _, rfl, ?_⟩
                  refine DRq.up hdr (and_63 hbd) ?_
                  rw [s2]
                  show (_ : Nat) = d ((sg g len (a1 g len a)) - 97) &&& (2 ^ ((sg g len (a3 g len a)) - 97))
                  rw [and_modp, mbd]
                · first | exact absurd c171 (by decide) | exact absurd (by decide) c171
            · refine aw_goto (tgt := 129) d_Tape_readClause_114 (by decide) ?_
              refine aw_iconst (v := nI 0) d_Tape_readClause_129 (by decide) ?_
              refine aw_ireturn d_Tape_readClause_130 rfl (by decide) ?_
              have e3 : ok3 (N_n N) (sg g len (a2 g len a)) (sg g len (a3 g len a)) = false := by
                rw [k3]
                refine decide_eq_false fun z => ?_
                have c := ab_bl_0.mp c111
                rw [ev98, lv_in hg (by decide) (by decide) (by omega)] at c
                exact of_decide_eq_false c z
              rw [cls_3 s1 o2 e3]
              exact ⟨rfl, rfl, gd, (ab_set_eq (h := ab_set h 20 _) (a := 22) hD).symm, hdr⟩
      · first | exact absurd c54 (by decide) | exact absurd (by decide) c54
    · refine aw_iload_n d_Tape_readClause_39 rfl ?_
      refine aw_bipush (v := nI 33) d_Tape_readClause_40 (by decide) ?_
      refine aw_icmp_ne (tgt := 49) d_Tape_readClause_42 (by decide) (fun c42 => ?_) (fun c42 => ?_)
      · refine aw_iconst (v := nI 0) d_Tape_readClause_49 (by decide) ?_
        refine aw_istore (L' := [some (.ref 20), some (.ref 2), some (.int (nI (sg g len (a1 g len a) - 97))), some (.int v32), some (.int (nI 0)), none, none]) d_Tape_readClause_50 ⟨by decide, rfl⟩ rfl ?_
        refine aw_iload d_Tape_readClause_52 rfl ?_
        refine aw_if_ne (tgt := 71) d_Tape_readClause_54 (by decide) (fun c54 => ?_) (fun c54 => ?_)
        · first | exact absurd c54 (by decide) | exact absurd (by decide) c54
        · refine aw_iload_n d_Tape_readClause_57 rfl ?_
          refine aw_bipush (v := nI 43) d_Tape_readClause_58 (by decide) ?_
          refine aw_icmp_eq (tgt := 71) d_Tape_readClause_60 (by decide) (fun c60 => ?_) (fun c60 => ?_)
          · have s2 : (sg g len (a2 g len a)) = 43 := (lv_c hg (by decide) (by decide)).mp (ev32.symm.trans c60)
            have o2 : opc (sg g len (a2 g len a)) = true := by rw [s2]; rfl
            have l2 : a2 g len a < len := sg_lt (b := 1) (by decide) (by rw [s2]; decide)
            have h3l : a3 g len a ≤ len := (lk_le (show a2 g len a + 1 ≤ len by omega)).2
            have k3 : ok3 (N_n N) (sg g len (a2 g len a)) (sg g len (a3 g len a)) = decide (49 ≤ (sg g len (a3 g len a)) ∧ (sg g len (a3 g len a)) < 49 + 6) := by rw [s2]; rfl
            rw [c60]
            refine aw_aload_n d_Tape_readClause_71 rfl ?_
            refine aw_dup d_Tape_readClause_72 rfl ?_
            refine aw_get (k := 1) d_Tape_readClause_73 cl_Tape k_Tape_33 (by decide) rfl rfl ?_
            refine aw_iconst (v := nI 1) d_Tape_readClause_76 (by decide) ?_
            refine aw_iadd d_Tape_readClause_77 ?_
            rw [nI_add]
            refine aw_put (k := 1) (fs' := [.int (nI len), .int (nI (a2 g len a + 1)), .ref 21, .ref 22]) d_Tape_readClause_78 cl_Tape k_Tape_33 (by decide) rfl ⟨rfl, rfl⟩ rfl (Nat.le_of_ble_eq_true rfl) rfl ?_
            rw [ab_set_set]
            refine aw_aload_n d_Tape_readClause_81 rfl ?_
            refine aw_v0i (a := 20) d_Tape_readClause_82 k_Tape_44 ok_Tape_look rfl ⟨rfl, rfl⟩ cl_Tape rfl (c_look (h := ab_set h 20 (oT len (nI (a2 g len a + 1)))) (a := a2 g len a + 1) rfl hG hl ag hg (by omega)) rfl rfl (Nat.le_of_ble_eq_true rfl) ?_
            rw [ab_set_set]
            refine aw_iload d_Tape_readClause_85 rfl ?_
            refine aw_if_eq (tgt := 95) d_Tape_readClause_87 (by decide) (fun c87 => ?_) (fun c87 => ?_)
            · refine aw_bipush (v := nI 49) d_Tape_readClause_95 (by decide) ?_
              refine aw_isub d_Tape_readClause_97 ?_
              refine aw_topi (fun v98 ev98 => ?_)
              refine aw_istore (L' := [some (.ref 20), some (.ref 2), some (.int (nI ((sg g len (a1 g len a)) - 97))), some (.int (nI 43)), some (.int (nI 0)), some (.int v98), none]) d_Tape_readClause_98 ⟨by decide, rfl⟩ rfl ?_
              refine aw_iload d_Tape_readClause_100 rfl ?_
              refine aw_if_eq (tgt := 117) d_Tape_readClause_102 (by decide) (fun c102 => ?_) (fun c102 => ?_)
              · refine aw_iload d_Tape_readClause_117 rfl ?_
                refine aw_if_lt (tgt := 129) d_Tape_readClause_119 (by decide) (fun c119 => ?_) (fun c119 => ?_)
                · refine aw_iconst (v := nI 0) d_Tape_readClause_129 (by decide) ?_
                  refine aw_ireturn d_Tape_readClause_130 rfl (by decide) ?_
                  have e3 : ok3 (N_n N) (sg g len (a2 g len a)) (sg g len (a3 g len a)) = false := by
                    rw [k3]
                    refine decide_eq_false fun z => ?_
                    have e9 := lv_val (a := a3 g len a) hg (show 49 < 127 by decide) (by decide) z.1
                    rw [show a3 g len a = lk g len (a2 g len a + 1) from rfl] at e9 z
                    first
                      | (rw [ev98, e9] at c119
                         exact absurd c119 (nI_n0 (by omega)))
                      | (rw [ev98, e9] at c126
                         exact c126 (nI_lt (by omega) (by decide)))
                  rw [cls_3 s1 o2 e3]
                  exact ⟨rfl, rfl, gd, (ab_set_eq (h := ab_set h 20 _) (a := 22) hD).symm, hdr⟩
                · refine aw_iload d_Tape_readClause_122 rfl ?_
                  refine aw_bipush (v := nI 6) d_Tape_readClause_124 (by decide) ?_
                  refine aw_icmp_lt (tgt := 131) d_Tape_readClause_126 (by decide) (fun c126 => ?_) (fun c126 => ?_)
                  · have s3 : 49 ≤ (sg g len (a3 g len a)) ∧ (sg g len (a3 g len a)) < 49 + 6 := by
                      have h1 := lvs_ (a := a3 g len a) (b := 49) hg (by decide) (by decide)
                      rw [fa_lt, ev98, Int32.toInt_zero] at c119
                      rw [fa_lt, ev98, ti6] at c126
                      rw [show a3 g len a = lk g len (a2 g len a + 1) from rfl] at h1 ⊢
                      rw [h1] at c119 c126
                      unfold sg
                      split at c119
                      · next z => rw [if_pos z]; rw [if_pos z] at c126; omega
                      · omega
                    have e3 : ok3 (N_n N) (sg g len (a2 g len a)) (sg g len (a3 g len a)) = true := by rw [k3]; exact decide_eq_true s3
                    obtain rfl : v98 = nI ((sg g len (a3 g len a)) - 49) := by rw [ev98]; exact lv_val hg (by decide) (by decide) s3.1
                    have l3 : a3 g len a < len := sg_lt (by decide) s3.1
                    refine aw_aload_n d_Tape_readClause_131 rfl ?_
                    refine aw_dup d_Tape_readClause_132 rfl ?_
                    refine aw_get (k := 1) d_Tape_readClause_133 cl_Tape k_Tape_33 (by decide) rfl rfl ?_
                    refine aw_iconst (v := nI 1) d_Tape_readClause_136 (by decide) ?_
                    refine aw_iadd d_Tape_readClause_137 ?_
                    rw [nI_add]
                    refine aw_put (k := 1) (fs' := [.int (nI len), .int (nI (a3 g len a + 1)), .ref 21, .ref 22]) d_Tape_readClause_138 cl_Tape k_Tape_33 (by decide) rfl ⟨rfl, rfl⟩ rfl (Nat.le_of_ble_eq_true rfl) rfl ?_
                    rw [ab_set_set]
                    refine aw_iload d_Tape_readClause_141 rfl ?_
                    refine aw_if_eq (tgt := 153) d_Tape_readClause_143 (by decide) (fun c143 => ?_) (fun c143 => ?_)
                    · refine aw_aload_n d_Tape_readClause_153 rfl ?_
                      refine aw_iload d_Tape_readClause_154 rfl ?_
                      refine aw_v0i (a := 2) d_Tape_readClause_156 k_Tape_52 ok_Night_marked rfl ⟨rfl, rfl⟩ cl_Night n0 (c_marked (h := ab_set h 20 (oT len (nI (a3 g len a + 1)))) (hX.fr (fun k _ _ => ab_set_ne (by omega))) ok (show ((sg g len (a3 g len a)) - 49) < 6 by omega)) rfl rfl (Nat.le_of_ble_eq_true rfl) ?_
                      refine aw_istore (L' := [some (.ref 20), some (.ref 2), some (.int (nI ((sg g len (a1 g len a)) - 97))), some (.int (nI 43)), some (.int (nI 0)), some (.int (nI ((sg g len (a3 g len a)) - 49))), some (.int (nI (mkb (N_mk N) ((sg g len (a3 g len a)) - 49) (N_n N))))]) d_Tape_readClause_159 ⟨by decide, rfl⟩ rfl ?_
                      have hct : mkb (N_mk N) ((sg g len (a3 g len a)) - 49) (N_n N) < 64 := two_le6 hn6 (mkb_lt _ _ _)
                      obtain ⟨bd, hbd, ebd, mbd⟩ := hdr ((sg g len (a1 g len a)) - 97) (by omega)
                      refine aw_aload_n d_Tape_readClause_161 rfl ?_
                      refine aw_get (k := 3) d_Tape_readClause_162 cl_Tape k_Tape_15 (by decide) rfl rfl ?_
                      refine aw_iload_n d_Tape_readClause_165 rfl ?_
                      refine aw_dup2 d_Tape_readClause_166 rfl rfl ?_
                      refine aw_ialoadN d_Tape_readClause_167 hD (by omega) (by decide) ?_
                      refine aw_iload_n d_Tape_readClause_168 rfl ?_
                      refine aw_bipush (v := nI 61) d_Tape_readClause_169 (by decide) ?_
                      refine aw_icmp_eq (tgt := 180) d_Tape_readClause_171 (by decide) (fun c171 => ?_) (fun c171 => ?_)
                      · first | exact absurd c171 (by decide) | exact absurd (by decide) c171
                      · refine aw_iload_n d_Tape_readClause_174 rfl ?_
                        refine aw_bipush (v := nI 43) d_Tape_readClause_175 (by decide) ?_
                        refine aw_icmp_ne (tgt := 185) d_Tape_readClause_177 (by decide) (fun c177 => ?_) (fun c177 => ?_)
                        · first | exact absurd c177 (by decide) | exact absurd (by decide) c177
                        · refine aw_iload d_Tape_readClause_180 rfl ?_
                          refine aw_goto (tgt := 189) d_Tape_readClause_182 (by decide) ?_
                          refine aw_iand d_Tape_readClause_189 ?_
                          rw [ebd]
                          refine aw_is (y := nI (bd &&& (mkb (N_mk N) ((sg g len (a3 g len a)) - 49) (N_n N)))) ?_ ?_
                          · exact fa_and _ _
                          refine aw_iastoreN d_Tape_readClause_190 hD (by omega) (by decide) ?_
                          refine aw_iconst (v := nI 1) d_Tape_readClause_191 (by decide) ?_
                          refine aw_ireturn d_Tape_readClause_192 rfl (by decide) ?_
                          rw [cls_4 s1 o2 e3]
                          refine ⟨rfl, rfl, _, rfl, ?_⟩
                          refine DRq.up hdr (and_63 hbd) ?_
                          rw [s2]
                          show (_ : Nat) = d ((sg g len (a1 g len a)) - 97) &&& (mkb (N_mk N) ((sg g len (a3 g len a)) - 49) (N_n N))
                          rw [and_modp, mbd]
                    · first | exact absurd c143 (by decide) | exact absurd (by decide) c143
                  · refine aw_iconst (v := nI 0) d_Tape_readClause_129 (by decide) ?_
                    refine aw_ireturn d_Tape_readClause_130 rfl (by decide) ?_
                    have e3 : ok3 (N_n N) (sg g len (a2 g len a)) (sg g len (a3 g len a)) = false := by
                      rw [k3]
                      refine decide_eq_false fun z => ?_
                      have e9 := lv_val (a := a3 g len a) hg (show 49 < 127 by decide) (by decide) z.1
                      rw [show a3 g len a = lk g len (a2 g len a + 1) from rfl] at e9 z
                      first
                        | (rw [ev98, e9] at c119
                           exact absurd c119 (nI_n0 (by omega)))
                        | (rw [ev98, e9] at c126
                           exact c126 (nI_lt (by omega) (by decide)))
                    rw [cls_3 s1 o2 e3]
                    exact ⟨rfl, rfl, gd, (ab_set_eq (h := ab_set h 20 _) (a := 22) hD).symm, hdr⟩
              · first | exact absurd c102 (by decide) | exact absurd (by decide) c102
            · first | exact absurd c87 (by decide) | exact absurd (by decide) c87
          · refine aw_iload_n d_Tape_readClause_63 rfl ?_
            refine aw_bipush (v := nI 45) d_Tape_readClause_64 (by decide) ?_
            refine aw_icmp_eq (tgt := 71) d_Tape_readClause_66 (by decide) (fun c66 => ?_) (fun c66 => ?_)
            · have s2 : (sg g len (a2 g len a)) = 45 := (lv_c hg (by decide) (by decide)).mp (ev32.symm.trans c66)
              have o2 : opc (sg g len (a2 g len a)) = true := by rw [s2]; rfl
              have l2 : a2 g len a < len := sg_lt (b := 1) (by decide) (by rw [s2]; decide)
              have h3l : a3 g len a ≤ len := (lk_le (show a2 g len a + 1 ≤ len by omega)).2
              have k3 : ok3 (N_n N) (sg g len (a2 g len a)) (sg g len (a3 g len a)) = decide (49 ≤ (sg g len (a3 g len a)) ∧ (sg g len (a3 g len a)) < 49 + 6) := by rw [s2]; rfl
              rw [c66]
              refine aw_aload_n d_Tape_readClause_71 rfl ?_
              refine aw_dup d_Tape_readClause_72 rfl ?_
              refine aw_get (k := 1) d_Tape_readClause_73 cl_Tape k_Tape_33 (by decide) rfl rfl ?_
              refine aw_iconst (v := nI 1) d_Tape_readClause_76 (by decide) ?_
              refine aw_iadd d_Tape_readClause_77 ?_
              rw [nI_add]
              refine aw_put (k := 1) (fs' := [.int (nI len), .int (nI (a2 g len a + 1)), .ref 21, .ref 22]) d_Tape_readClause_78 cl_Tape k_Tape_33 (by decide) rfl ⟨rfl, rfl⟩ rfl (Nat.le_of_ble_eq_true rfl) rfl ?_
              rw [ab_set_set]
              refine aw_aload_n d_Tape_readClause_81 rfl ?_
              refine aw_v0i (a := 20) d_Tape_readClause_82 k_Tape_44 ok_Tape_look rfl ⟨rfl, rfl⟩ cl_Tape rfl (c_look (h := ab_set h 20 (oT len (nI (a2 g len a + 1)))) (a := a2 g len a + 1) rfl hG hl ag hg (by omega)) rfl rfl (Nat.le_of_ble_eq_true rfl) ?_
              rw [ab_set_set]
              refine aw_iload d_Tape_readClause_85 rfl ?_
              refine aw_if_eq (tgt := 95) d_Tape_readClause_87 (by decide) (fun c87 => ?_) (fun c87 => ?_)
              · refine aw_bipush (v := nI 49) d_Tape_readClause_95 (by decide) ?_
                refine aw_isub d_Tape_readClause_97 ?_
                refine aw_topi (fun v98 ev98 => ?_)
                refine aw_istore (L' := [some (.ref 20), some (.ref 2), some (.int (nI ((sg g len (a1 g len a)) - 97))), some (.int (nI 45)), some (.int (nI 0)), some (.int v98), none]) d_Tape_readClause_98 ⟨by decide, rfl⟩ rfl ?_
                refine aw_iload d_Tape_readClause_100 rfl ?_
                refine aw_if_eq (tgt := 117) d_Tape_readClause_102 (by decide) (fun c102 => ?_) (fun c102 => ?_)
                · refine aw_iload d_Tape_readClause_117 rfl ?_
                  refine aw_if_lt (tgt := 129) d_Tape_readClause_119 (by decide) (fun c119 => ?_) (fun c119 => ?_)
                  · refine aw_iconst (v := nI 0) d_Tape_readClause_129 (by decide) ?_
                    refine aw_ireturn d_Tape_readClause_130 rfl (by decide) ?_
                    have e3 : ok3 (N_n N) (sg g len (a2 g len a)) (sg g len (a3 g len a)) = false := by
                      rw [k3]
                      refine decide_eq_false fun z => ?_
                      have e9 := lv_val (a := a3 g len a) hg (show 49 < 127 by decide) (by decide) z.1
                      rw [show a3 g len a = lk g len (a2 g len a + 1) from rfl] at e9 z
                      first
                        | (rw [ev98, e9] at c119
                           exact absurd c119 (nI_n0 (by omega)))
                        | (rw [ev98, e9] at c126
                           exact c126 (nI_lt (by omega) (by decide)))
                    rw [cls_3 s1 o2 e3]
                    exact ⟨rfl, rfl, gd, (ab_set_eq (h := ab_set h 20 _) (a := 22) hD).symm, hdr⟩
                  · refine aw_iload d_Tape_readClause_122 rfl ?_
                    refine aw_bipush (v := nI 6) d_Tape_readClause_124 (by decide) ?_
                    refine aw_icmp_lt (tgt := 131) d_Tape_readClause_126 (by decide) (fun c126 => ?_) (fun c126 => ?_)
                    · have s3 : 49 ≤ (sg g len (a3 g len a)) ∧ (sg g len (a3 g len a)) < 49 + 6 := by
                        have h1 := lvs_ (a := a3 g len a) (b := 49) hg (by decide) (by decide)
                        rw [fa_lt, ev98, Int32.toInt_zero] at c119
                        rw [fa_lt, ev98, ti6] at c126
                        rw [show a3 g len a = lk g len (a2 g len a + 1) from rfl] at h1 ⊢
                        rw [h1] at c119 c126
                        unfold sg
                        split at c119
                        · next z => rw [if_pos z]; rw [if_pos z] at c126; omega
                        · omega
                      have e3 : ok3 (N_n N) (sg g len (a2 g len a)) (sg g len (a3 g len a)) = true := by rw [k3]; exact decide_eq_true s3
                      obtain rfl : v98 = nI ((sg g len (a3 g len a)) - 49) := by rw [ev98]; exact lv_val hg (by decide) (by decide) s3.1
                      have l3 : a3 g len a < len := sg_lt (by decide) s3.1
                      refine aw_aload_n d_Tape_readClause_131 rfl ?_
                      refine aw_dup d_Tape_readClause_132 rfl ?_
                      refine aw_get (k := 1) d_Tape_readClause_133 cl_Tape k_Tape_33 (by decide) rfl rfl ?_
                      refine aw_iconst (v := nI 1) d_Tape_readClause_136 (by decide) ?_
                      refine aw_iadd d_Tape_readClause_137 ?_
                      rw [nI_add]
                      refine aw_put (k := 1) (fs' := [.int (nI len), .int (nI (a3 g len a + 1)), .ref 21, .ref 22]) d_Tape_readClause_138 cl_Tape k_Tape_33 (by decide) rfl ⟨rfl, rfl⟩ rfl (Nat.le_of_ble_eq_true rfl) rfl ?_
                      rw [ab_set_set]
                      refine aw_iload d_Tape_readClause_141 rfl ?_
                      refine aw_if_eq (tgt := 153) d_Tape_readClause_143 (by decide) (fun c143 => ?_) (fun c143 => ?_)
                      · refine aw_aload_n d_Tape_readClause_153 rfl ?_
                        refine aw_iload d_Tape_readClause_154 rfl ?_
                        refine aw_v0i (a := 2) d_Tape_readClause_156 k_Tape_52 ok_Night_marked rfl ⟨rfl, rfl⟩ cl_Night n0 (c_marked (h := ab_set h 20 (oT len (nI (a3 g len a + 1)))) (hX.fr (fun k _ _ => ab_set_ne (by omega))) ok (show ((sg g len (a3 g len a)) - 49) < 6 by omega)) rfl rfl (Nat.le_of_ble_eq_true rfl) ?_
                        refine aw_istore (L' := [some (.ref 20), some (.ref 2), some (.int (nI ((sg g len (a1 g len a)) - 97))), some (.int (nI 45)), some (.int (nI 0)), some (.int (nI ((sg g len (a3 g len a)) - 49))), some (.int (nI (mkb (N_mk N) ((sg g len (a3 g len a)) - 49) (N_n N))))]) d_Tape_readClause_159 ⟨by decide, rfl⟩ rfl ?_
                        have hct : mkb (N_mk N) ((sg g len (a3 g len a)) - 49) (N_n N) < 64 := two_le6 hn6 (mkb_lt _ _ _)
                        obtain ⟨bd, hbd, ebd, mbd⟩ := hdr ((sg g len (a1 g len a)) - 97) (by omega)
                        refine aw_aload_n d_Tape_readClause_161 rfl ?_
                        refine aw_get (k := 3) d_Tape_readClause_162 cl_Tape k_Tape_15 (by decide) rfl rfl ?_
                        refine aw_iload_n d_Tape_readClause_165 rfl ?_
                        refine aw_dup2 d_Tape_readClause_166 rfl rfl ?_
                        refine aw_ialoadN d_Tape_readClause_167 hD (by omega) (by decide) ?_
                        refine aw_iload_n d_Tape_readClause_168 rfl ?_
                        refine aw_bipush (v := nI 61) d_Tape_readClause_169 (by decide) ?_
                        refine aw_icmp_eq (tgt := 180) d_Tape_readClause_171 (by decide) (fun c171 => ?_) (fun c171 => ?_)
                        · first | exact absurd c171 (by decide) | exact absurd (by decide) c171
                        · refine aw_iload_n d_Tape_readClause_174 rfl ?_
                          refine aw_bipush (v := nI 43) d_Tape_readClause_175 (by decide) ?_
                          refine aw_icmp_ne (tgt := 185) d_Tape_readClause_177 (by decide) (fun c177 => ?_) (fun c177 => ?_)
                          · refine aw_iload d_Tape_readClause_185 rfl ?_
                            refine aw_iconst (v := (-1)) d_Tape_readClause_187 (by decide) ?_
                            refine aw_ixor d_Tape_readClause_188 ?_
                            refine aw_iand d_Tape_readClause_189 ?_
                            rw [ebd]
                            refine aw_is (y := nI (bd &&& (63 ^^^ (mkb (N_mk N) ((sg g len (a3 g len a)) - 49) (N_n N))))) ?_ ?_
                            · exact b_andn _ hbd _ hct
                            refine aw_iastoreN d_Tape_readClause_190 hD (by omega) (by decide) ?_
                            refine aw_iconst (v := nI 1) d_Tape_readClause_191 (by decide) ?_
                            refine aw_ireturn d_Tape_readClause_192 rfl (by decide) ?_
                            rw [cls_4 s1 o2 e3]
                            refine ⟨rfl, rfl, _, rfl, ?_⟩
                            refine DRq.up hdr (and_63 hbd) ?_
                            rw [s2]
                            show (_ : Nat) = d ((sg g len (a1 g len a)) - 97) &&& (63 ^^^ (mkb (N_mk N) ((sg g len (a3 g len a)) - 49) (N_n N)))
                            rw [and_modp, mbd]
                          · first | exact absurd c177 (by decide) | exact absurd (by decide) c177
                      · first | exact absurd c143 (by decide) | exact absurd (by decide) c143
                    · refine aw_iconst (v := nI 0) d_Tape_readClause_129 (by decide) ?_
                      refine aw_ireturn d_Tape_readClause_130 rfl (by decide) ?_
                      have e3 : ok3 (N_n N) (sg g len (a2 g len a)) (sg g len (a3 g len a)) = false := by
                        rw [k3]
                        refine decide_eq_false fun z => ?_
                        have e9 := lv_val (a := a3 g len a) hg (show 49 < 127 by decide) (by decide) z.1
                        rw [show a3 g len a = lk g len (a2 g len a + 1) from rfl] at e9 z
                        first
                          | (rw [ev98, e9] at c119
                             exact absurd c119 (nI_n0 (by omega)))
                          | (rw [ev98, e9] at c126
                             exact c126 (nI_lt (by omega) (by decide)))
                      rw [cls_3 s1 o2 e3]
                      exact ⟨rfl, rfl, gd, (ab_set_eq (h := ab_set h 20 _) (a := 22) hD).symm, hdr⟩
                · first | exact absurd c102 (by decide) | exact absurd (by decide) c102
              · first | exact absurd c87 (by decide) | exact absurd (by decide) c87
            · refine aw_iconst (v := nI 0) d_Tape_readClause_69 (by decide) ?_
              refine aw_ireturn d_Tape_readClause_70 rfl (by decide) ?_
              have o2 : opc (sg g len (a2 g len a)) = false := by
                have q : ∀ c, 0 < c → c < 2 ^ 31 → ¬ v32 = nI c → ¬ sg g len (a2 g len a) = c := fun c h0 hc hv z => hv (ev32.trans ((lv_c hg h0 hc).mpr z))
                simp only [opc, Bool.or_eq_false_iff, beq_eq_false_iff_ne, ne_eq]
                exact ⟨⟨⟨q 61 (by decide) (by decide) c36, q 33 (by decide) (by decide) c42⟩, q 43 (by decide) (by decide) c60⟩, q 45 (by decide) (by decide) c66⟩
              rw [cls_2 s1 o2]
              exact ⟨rfl, rfl, gd, (ab_set_eq (h := ab_set h 20 _) (a := 22) hD).symm, hdr⟩
      · have s2 : (sg g len (a2 g len a)) = 33 := (lv_c hg (by decide) (by decide)).mp (ev32.symm.trans c42)
        have o2 : opc (sg g len (a2 g len a)) = true := by rw [s2]; rfl
        have l2 : a2 g len a < len := sg_lt (b := 1) (by decide) (by rw [s2]; decide)
        have h3l : a3 g len a ≤ len := (lk_le (show a2 g len a + 1 ≤ len by omega)).2
        have k3 : ok3 (N_n N) (sg g len (a2 g len a)) (sg g len (a3 g len a)) = decide (97 ≤ (sg g len (a3 g len a)) ∧ (sg g len (a3 g len a)) < 97 + N_n N) := by rw [s2]; rfl
        rw [c42]
        refine aw_iconst (v := nI 1) d_Tape_readClause_45 (by decide) ?_
        refine aw_goto (tgt := 50) d_Tape_readClause_46 (by decide) ?_
        refine aw_istore (L' := [some (.ref 20), some (.ref 2), some (.int (nI ((sg g len (a1 g len a)) - 97))), some (.int (nI 33)), some (.int (nI 1)), none, none]) d_Tape_readClause_50 ⟨by decide, rfl⟩ rfl ?_
        refine aw_iload d_Tape_readClause_52 rfl ?_
        refine aw_if_ne (tgt := 71) d_Tape_readClause_54 (by decide) (fun c54 => ?_) (fun c54 => ?_)
        · refine aw_aload_n d_Tape_readClause_71 rfl ?_
          refine aw_dup d_Tape_readClause_72 rfl ?_
          refine aw_get (k := 1) d_Tape_readClause_73 cl_Tape k_Tape_33 (by decide) rfl rfl ?_
          refine aw_iconst (v := nI 1) d_Tape_readClause_76 (by decide) ?_
          refine aw_iadd d_Tape_readClause_77 ?_
          rw [nI_add]
          refine aw_put (k := 1) (fs' := [.int (nI len), .int (nI (a2 g len a + 1)), .ref 21, .ref 22]) d_Tape_readClause_78 cl_Tape k_Tape_33 (by decide) rfl ⟨rfl, rfl⟩ rfl (Nat.le_of_ble_eq_true rfl) rfl ?_
          rw [ab_set_set]
          refine aw_aload_n d_Tape_readClause_81 rfl ?_
          refine aw_v0i (a := 20) d_Tape_readClause_82 k_Tape_44 ok_Tape_look rfl ⟨rfl, rfl⟩ cl_Tape rfl (c_look (h := ab_set h 20 (oT len (nI (a2 g len a + 1)))) (a := a2 g len a + 1) rfl hG hl ag hg (by omega)) rfl rfl (Nat.le_of_ble_eq_true rfl) ?_
          rw [ab_set_set]
          refine aw_iload d_Tape_readClause_85 rfl ?_
          refine aw_if_eq (tgt := 95) d_Tape_readClause_87 (by decide) (fun c87 => ?_) (fun c87 => ?_)
          · first | exact absurd c87 (by decide) | exact absurd (by decide) c87
          · refine aw_bipush (v := nI 97) d_Tape_readClause_90 (by decide) ?_
            refine aw_goto (tgt := 97) d_Tape_readClause_92 (by decide) ?_
            refine aw_isub d_Tape_readClause_97 ?_
            refine aw_topi (fun v98 ev98 => ?_)
            refine aw_istore (L' := [some (.ref 20), some (.ref 2), some (.int (nI ((sg g len (a1 g len a)) - 97))), some (.int (nI 33)), some (.int (nI 1)), some (.int v98), none]) d_Tape_readClause_98 ⟨by decide, rfl⟩ rfl ?_
            refine aw_iload d_Tape_readClause_100 rfl ?_
            refine aw_if_eq (tgt := 117) d_Tape_readClause_102 (by decide) (fun c102 => ?_) (fun c102 => ?_)
            · first | exact absurd c102 (by decide) | exact absurd (by decide) c102
            · refine aw_aload_n d_Tape_readClause_105 rfl ?_
              refine aw_iload d_Tape_readClause_106 rfl ?_
              refine aw_v0i (a := 2) d_Tape_readClause_108 k_Tape_48 ok_Night_isPerson rfl ⟨rfl, rfl⟩ cl_Night n0 (c_isPerson (h := ab_set h 20 (oT len (nI (a3 g len a)))) n0 v98) rfl rfl (Nat.le_of_ble_eq_true rfl) ?_
              refine aw_if_ne (tgt := 131) d_Tape_readClause_111 (by decide) (fun c111 => ?_) (fun c111 => ?_)
              · have s3 : 97 ≤ (sg g len (a3 g len a)) ∧ (sg g len (a3 g len a)) < 97 + N_n N := by
                  have c := ab_bl_1.mp c111
                  rw [ev98, lv_in hg (by decide) (by decide) (by omega)] at c
                  exact of_decide_eq_true c
                have e3 : ok3 (N_n N) (sg g len (a2 g len a)) (sg g len (a3 g len a)) = true := by rw [k3]; exact decide_eq_true s3
                obtain rfl : v98 = nI ((sg g len (a3 g len a)) - 97) := by rw [ev98]; exact lv_val hg (by decide) (by decide) s3.1
                have l3 : a3 g len a < len := sg_lt (by decide) s3.1
                refine aw_aload_n d_Tape_readClause_131 rfl ?_
                refine aw_dup d_Tape_readClause_132 rfl ?_
                refine aw_get (k := 1) d_Tape_readClause_133 cl_Tape k_Tape_33 (by decide) rfl rfl ?_
                refine aw_iconst (v := nI 1) d_Tape_readClause_136 (by decide) ?_
                refine aw_iadd d_Tape_readClause_137 ?_
                rw [nI_add]
                refine aw_put (k := 1) (fs' := [.int (nI len), .int (nI (a3 g len a + 1)), .ref 21, .ref 22]) d_Tape_readClause_138 cl_Tape k_Tape_33 (by decide) rfl ⟨rfl, rfl⟩ rfl (Nat.le_of_ble_eq_true rfl) rfl ?_
                rw [ab_set_set]
                refine aw_iload d_Tape_readClause_141 rfl ?_
                refine aw_if_eq (tgt := 153) d_Tape_readClause_143 (by decide) (fun c143 => ?_) (fun c143 => ?_)
                · first | exact absurd c143 (by decide) | exact absurd (by decide) c143
                · refine aw_iconst (v := nI 1) d_Tape_readClause_146 (by decide) ?_
                  refine aw_iload d_Tape_readClause_147 rfl ?_
                  refine aw_ishl d_Tape_readClause_149 ?_
                  rw [b_one (by omega)]
                  refine aw_goto (tgt := 159) d_Tape_readClause_150 (by decide) ?_
                  refine aw_istore (L' := [some (.ref 20), some (.ref 2), some (.int (nI ((sg g len (a1 g len a)) - 97))), some (.int (nI 33)), some (.int (nI 1)), some (.int (nI ((sg g len (a3 g len a)) - 97))), some (.int (nI (2 ^ ((sg g len (a3 g len a)) - 97))))]) d_Tape_readClause_159 ⟨by decide, rfl⟩ rfl ?_
                  have hct : 2 ^ ((sg g len (a3 g len a)) - 97) < 64 := p6_lt (by omega)
                  obtain ⟨bd, hbd, ebd, mbd⟩ := hdr ((sg g len (a1 g len a)) - 97) (by omega)
                  refine aw_aload_n d_Tape_readClause_161 rfl ?_
                  refine aw_get (k := 3) d_Tape_readClause_162 cl_Tape k_Tape_15 (by decide) rfl rfl ?_
                  refine aw_iload_n d_Tape_readClause_165 rfl ?_
                  refine aw_dup2 d_Tape_readClause_166 rfl rfl ?_
                  refine aw_ialoadN d_Tape_readClause_167 hD (by omega) (by decide) ?_
                  refine aw_iload_n d_Tape_readClause_168 rfl ?_
                  refine aw_bipush (v := nI 61) d_Tape_readClause_169 (by decide) ?_
                  refine aw_icmp_eq (tgt := 180) d_Tape_readClause_171 (by decide) (fun c171 => ?_) (fun c171 => ?_)
                  · first | exact absurd c171 (by decide) | exact absurd (by decide) c171
                  · refine aw_iload_n d_Tape_readClause_174 rfl ?_
                    refine aw_bipush (v := nI 43) d_Tape_readClause_175 (by decide) ?_
                    refine aw_icmp_ne (tgt := 185) d_Tape_readClause_177 (by decide) (fun c177 => ?_) (fun c177 => ?_)
                    · refine aw_iload d_Tape_readClause_185 rfl ?_
                      refine aw_iconst (v := (-1)) d_Tape_readClause_187 (by decide) ?_
                      refine aw_ixor d_Tape_readClause_188 ?_
                      refine aw_iand d_Tape_readClause_189 ?_
                      rw [ebd]
                      refine aw_is (y := nI (bd &&& (63 ^^^ (2 ^ ((sg g len (a3 g len a)) - 97))))) ?_ ?_
                      · exact b_andn _ hbd _ hct
                      refine aw_iastoreN d_Tape_readClause_190 hD (by omega) (by decide) ?_
                      refine aw_iconst (v := nI 1) d_Tape_readClause_191 (by decide) ?_
                      refine aw_ireturn d_Tape_readClause_192 rfl (by decide) ?_
                      rw [cls_4 s1 o2 e3]
                      refine ⟨rfl, rfl, _, rfl, ?_⟩
                      refine DRq.up hdr (and_63 hbd) ?_
                      rw [s2]
                      show (_ : Nat) = d ((sg g len (a1 g len a)) - 97) &&& (63 ^^^ (2 ^ ((sg g len (a3 g len a)) - 97)))
                      rw [and_modp, mbd]
                    · first | exact absurd c177 (by decide) | exact absurd (by decide) c177
              · refine aw_goto (tgt := 129) d_Tape_readClause_114 (by decide) ?_
                refine aw_iconst (v := nI 0) d_Tape_readClause_129 (by decide) ?_
                refine aw_ireturn d_Tape_readClause_130 rfl (by decide) ?_
                have e3 : ok3 (N_n N) (sg g len (a2 g len a)) (sg g len (a3 g len a)) = false := by
                  rw [k3]
                  refine decide_eq_false fun z => ?_
                  have c := ab_bl_0.mp c111
                  rw [ev98, lv_in hg (by decide) (by decide) (by omega)] at c
                  exact of_decide_eq_false c z
                rw [cls_3 s1 o2 e3]
                exact ⟨rfl, rfl, gd, (ab_set_eq (h := ab_set h 20 _) (a := 22) hD).symm, hdr⟩
        · first | exact absurd c54 (by decide) | exact absurd (by decide) c54
  · refine aw_iconst (v := nI 0) d_Tape_readClause_16 (by decide) ?_
    refine aw_ireturn d_Tape_readClause_17 rfl (by decide) ?_
    have s1 : ¬ (97 ≤ sg g len (a1 g len a) ∧ sg g len (a1 g len a) < 97 + N_n N) := by
      have c := ab_bl_0.mp c13
      rw [ev7, lv_in hg (by decide) (by decide) (by omega)] at c
      exact of_decide_eq_false c
    rw [cls_1 s1]
    exact ⟨rfl, rfl, gd, (ab_set_eq (h := ab_set h 20 _) (a := 22) hD).symm, hdr⟩
