theorem c_here {m : Nat} {h : ab_H} {n ns ra se : Nat} {me mi tab ve la : Int32} {len : Nat} {fe : Nat} {kp : Bool} {wr : Int32} {a : Nat} (hM : h 56 = oM n ns ra se me mi tab ve la len (nI a) (wr) fe kp) {G : Nat → Int32} (hG : h 76 = .inl (100, G)) {g : Nat → Nat} (hl : len ≤ 100) (ag : ∀ k, k < len → G k = nI (g k)) (hg : ∀ k, k < len → g k < 127) (ha : a ≤ len) : ab_D Y_M_here [.ref 56] m h (some (.int (nI (sg g len (lk g len a))))) m (ab_set h 56 (oM n ns ra se me mi tab ve la len (nI (lk g len a)) (wr) fe kp)) := by
  refine ab_C.of (L := [some (.ref 56)]) rfl rfl (Nat.le_of_ble_eq_true rfl) (fun l => ?_)
  have loop : ∀ f b, f + b = len → sk g len f b = lk g len a → ab_W Y_M_here none l (fun r m2 h2 => r = some (.int (nI (sg g len (lk g len a)))) ∧ m2 = m ∧ h2 = ab_set h 56 (oM n ns ra se me mi tab ve la len (nI (lk g len a)) (wr) fe kp)) 0 [some (.ref 56)] [] m (ab_set h 56 (oM n ns ra se me mi tab ve la len (nI b) (wr) fe kp)) (0, 0) := by
    intro f
    induction f with
    | zero =>
      intro b hb e
      have hb2 : b = len := by omega
      rw [sk] at e
      refine aw_aload_n d_M_here_0 rfl ?_
      refine aw_get (k := 30) d_M_here_1 cl_Model k_M_278 (by decide) rfl rfl ?_
      refine aw_aload_n d_M_here_4 rfl ?_
      refine aw_get (k := 29) d_M_here_5 cl_Model k_M_275 (by decide) rfl rfl ?_
      refine aw_icmp_ge (tgt := 38) d_M_here_8 (by decide) (fun c8 => ?_) (fun c8 => ?_)
      · refine aw_aload_n d_M_here_38 rfl ?_
        refine aw_get (k := 30) d_M_here_39 cl_Model k_M_278 (by decide) rfl rfl ?_
        refine aw_aload_n d_M_here_42 rfl ?_
        refine aw_get (k := 29) d_M_here_43 cl_Model k_M_275 (by decide) rfl rfl ?_
        refine aw_icmp_ge (tgt := 61) d_M_here_46 (by decide) (fun c46 => ?_) (fun c46 => ?_)
        · refine aw_iconst (v := nI 0) d_M_here_61 (by decide) ?_
          refine aw_ireturn d_M_here_62 rfl rfl ?_
          rw [← e]
          refine ⟨?_, rfl, rfl⟩
          rw [sg, if_neg (by omega)]
        · exact absurd (by rw [hb2]; exact Int32.le_refl _) c46
      · exact absurd (by rw [hb2]; exact Int32.le_refl _) c8
    | succ f ih =>
      intro b hb e
      refine aw_aload_n d_M_here_0 rfl ?_
      refine aw_get (k := 30) d_M_here_1 cl_Model k_M_278 (by decide) rfl rfl ?_
      refine aw_aload_n d_M_here_4 rfl ?_
      refine aw_get (k := 29) d_M_here_5 cl_Model k_M_275 (by decide) rfl rfl ?_
      refine aw_icmp_ge (tgt := 38) d_M_here_8 (by decide) (fun c8 => ?_) (fun c8 => ?_)
      · exact absurd c8 (nI_ge (by omega) (by omega))
      · refine aw_aload_n d_M_here_11 rfl ?_
        refine aw_get (k := 28) d_M_here_12 cl_Model k_M_79 (by decide) rfl rfl ?_
        refine aw_aload_n d_M_here_15 rfl ?_
        refine aw_get (k := 30) d_M_here_16 cl_Model k_M_278 (by decide) rfl rfl ?_
        refine aw_ialoadN d_M_here_19 hG (by omega) (by decide) ?_
        refine aw_bipush (v := nI 32) d_M_here_20 (by decide) ?_
        refine aw_icmp_ne (tgt := 38) d_M_here_22 (by decide) (fun c22 => ?_) (fun c22 => ?_)
        · refine aw_aload_n d_M_here_38 rfl ?_
          refine aw_get (k := 30) d_M_here_39 cl_Model k_M_278 (by decide) rfl rfl ?_
          refine aw_aload_n d_M_here_42 rfl ?_
          refine aw_get (k := 29) d_M_here_43 cl_Model k_M_275 (by decide) rfl rfl ?_
          refine aw_icmp_ge (tgt := 61) d_M_here_46 (by decide) (fun c46 => ?_) (fun c46 => ?_)
          · exact absurd c46 (nI_ge (by omega) (by omega))
          · refine aw_aload_n d_M_here_49 rfl ?_
            refine aw_get (k := 28) d_M_here_50 cl_Model k_M_79 (by decide) rfl rfl ?_
            refine aw_aload_n d_M_here_53 rfl ?_
            refine aw_get (k := 30) d_M_here_54 cl_Model k_M_278 (by decide) rfl rfl ?_
            refine aw_ialoadN d_M_here_57 hG (by omega) (by decide) ?_
            refine aw_goto (tgt := 62) d_M_here_58 (by decide) ?_
            refine aw_ireturn d_M_here_62 rfl rfl ?_
            have q : ¬ g b = 32 := fun q => c22 (by rw [ag b (by omega), q])
            rw [sk_no (fun z => q z.2)] at e
            rw [← e]
            refine ⟨?_, rfl, rfl⟩
            rw [sg, if_pos (by omega), ag b (by omega)]
        · refine aw_aload_n d_M_here_25 rfl ?_
          refine aw_dup d_M_here_26 rfl ?_
          refine aw_get (k := 30) d_M_here_27 cl_Model k_M_278 (by decide) rfl rfl ?_
          refine aw_iconst (v := nI 1) d_M_here_30 (by decide) ?_
          refine aw_iadd d_M_here_31 ?_
          rw [nI_add]
          refine aw_put (k := 30) (fs' := [.int (nI n), .ref 57, .ref 58, .ref 59, .ref 60, .ref 61, .ref 62, .ref 63, .int (nI ns), .ref 64, .ref 65, .int (nI ra), .int (nI se), .int me, .int mi, .ref 66, .ref 67, .int tab, .ref 68, .ref 69, .ref 70, .ref 71, .ref 72, .ref 73, .ref 74, .int ve, .int la, .ref 75, .ref 76, .int (nI len), .int (nI (b + 1)), .int wr, .ref 77, .ref 78, .int (nI fe), .ref 79, .ref 80, .ref 81, .ref 82, .ref 83, .ref 84, .int (ab_bl kp), .ref 85, .ref 86, .ref 87, .ref 88]) d_M_here_32 cl_Model k_M_278 (by decide) rfl ⟨rfl, rfl⟩ rfl (Nat.le_of_ble_eq_true rfl) rfl ?_
          refine aw_goto (tgt := 0) d_M_here_35 (by decide) ?_
          have q : g b = 32 := (nI_eq (by have := hg b (by omega); omega) (by decide)).mp ((ag b (by omega)).symm.trans c22)
          rw [sk, if_pos ⟨by omega, q⟩] at e
          rw [ab_set_set]
          exact ih (b + 1) (by omega) e
  have lp := loop (len - a) a (by omega) rfl
  rw [ab_set_eq hM] at lp
  exact lp
theorem sg_127 {g : Nat → Nat} {len : Nat} (hg : ∀ k, k < len → g k < 127) (a : Nat) : sg g len a < 127 := by
  unfold sg
  split
  · next q => exact hg a q
  · decide
theorem c_one_y {m : Nat} {h : ab_H} {n ns ra se : Nat} {me mi tab ve la : Int32} {len : Nat} {fe : Nat} {kp : Bool} {a : Nat} (hM : h 56 = oM n ns ra se me mi tab ve la len (nI a) (nI 0) fe kp) {G : Nat → Int32} (hG : h 76 = .inl (100, G)) {g : Nat → Nat} (hl : len ≤ 100) (ag : ∀ k, k < len → G k = nI (g k)) (hg : ∀ k, k < len → g k < 127) (ha : a ≤ len) {lo hi : Nat} (hlo : 1 ≤ lo) (hhi : hi < 2 ^ 31) (hlo2 : lo < 2 ^ 31) (hs : lo ≤ (sg g len (lk g len a)) ∧ (sg g len (lk g len a)) ≤ hi) : ab_D Y_M_one [.ref 56, .int (nI lo), .int (nI hi)] m h (some (.int (nI ((sg g len (lk g len a)) - lo)))) m (ab_set h 56 (oM n ns ra se me mi tab ve la len (nI (lk g len a + 1)) (nI 0) fe kp)) := by
  have s127 := sg_127 hg (lk g len a)
  have hl9 := (lk_le (g := g) ha).2
  refine ab_C.of (L := [some (.ref 56), some (.int (nI lo)), some (.int (nI hi)), none]) rfl rfl (Nat.le_of_ble_eq_true rfl) (fun l => ?_)
  refine aw_aload_n d_M_one_0 rfl ?_
  refine aw_aload_n d_M_one_1 rfl ?_
  refine aw_get (k := 31) d_M_one_2 cl_Model k_M_281 (by decide) hM rfl ?_
  refine aw_if_ne (tgt := 23) d_M_one_5 (by decide) (fun c5 => ?_) (fun c5 => ?_)
  · first | exact absurd c5 (by decide) | exact absurd (by decide) c5
  · refine aw_aload_n d_M_one_8 rfl ?_
    refine aw_v0i (a := 56) d_M_one_9 k_M_285 ok_M_here rfl ⟨rfl, rfl⟩ cl_Model hM (c_here hM hG hl ag hg ha) rfl rfl (Nat.le_of_ble_eq_true rfl) ?_
    refine aw_i2l d_M_one_12 ?_
    refine aw_iload_n d_M_one_13 rfl ?_
    refine aw_i2l d_M_one_14 ?_
    refine aw_iload_n d_M_one_15 rfl ?_
    refine aw_i2l d_M_one_16 ?_
    refine aw_s0i d_M_one_17 k_M_121 ok_M_in rfl ⟨rfl, rfl⟩ (c_in ((nI (sg g len (lk g len a))).toInt64) ((nI lo).toInt64) ((nI hi).toInt64)) rfl rfl (Nat.le_of_ble_eq_true rfl) ?_
    refine aw_if_ne (tgt := 27) d_M_one_20 (by decide) (fun c20 => ?_) (fun c20 => ?_)
    · refine aw_iconst (v := nI 0) d_M_one_27 (by decide) ?_
      refine aw_put (k := 31) (fs' := [.int (nI n), .ref 57, .ref 58, .ref 59, .ref 60, .ref 61, .ref 62, .ref 63, .int (nI ns), .ref 64, .ref 65, .int (nI ra), .int (nI se), .int me, .int mi, .ref 66, .ref 67, .int tab, .ref 68, .ref 69, .ref 70, .ref 71, .ref 72, .ref 73, .ref 74, .int ve, .int la, .ref 75, .ref 76, .int (nI len), .int (nI (lk g len a)), .int (nI 0), .ref 77, .ref 78, .int (nI fe), .ref 79, .ref 80, .ref 81, .ref 82, .ref 83, .ref 84, .int (ab_bl kp), .ref 85, .ref 86, .ref 87, .ref 88]) d_M_one_28 cl_Model k_M_281 (by decide) rfl ⟨by decide, by decide⟩ rfl (Nat.le_of_ble_eq_true rfl) rfl ?_
      rw [ab_set_set]
      refine aw_aload_n d_M_one_31 rfl ?_
      refine aw_get (k := 31) d_M_one_32 cl_Model k_M_281 (by decide) rfl rfl ?_
      refine aw_if_eq (tgt := 42) d_M_one_35 (by decide) (fun c35 => ?_) (fun c35 => ?_)
      · refine aw_aload_n d_M_one_42 rfl ?_
        refine aw_v0i (a := 56) d_M_one_43 k_M_285 ok_M_here rfl ⟨rfl, rfl⟩ cl_Model rfl (c_here (h := ab_set h 56 (oM n ns ra se me mi tab ve la len (nI (lk g len a)) (nI 0) fe kp)) (a := lk g len a) rfl hG hl ag hg hl9) rfl rfl (Nat.le_of_ble_eq_true rfl) ?_
        rw [lk_lk, ab_set_set]
        refine aw_iload_n d_M_one_46 rfl ?_
        refine aw_isub d_M_one_47 ?_
        refine aw_topi (fun v48 ev48 => ?_)
        refine aw_istore_n (L' := [some (.ref 56), some (.int (nI lo)), some (.int (nI hi)), some (.int v48)]) d_M_one_48 ⟨by decide, rfl⟩ rfl ?_
        refine aw_aload_n d_M_one_49 rfl ?_
        refine aw_dup d_M_one_50 rfl ?_
        refine aw_get (k := 30) d_M_one_51 cl_Model k_M_278 (by decide) rfl rfl ?_
        refine aw_aload_n d_M_one_54 rfl ?_
        refine aw_get (k := 31) d_M_one_55 cl_Model k_M_281 (by decide) rfl rfl ?_
        refine aw_if_eq (tgt := 65) d_M_one_58 (by decide) (fun c58 => ?_) (fun c58 => ?_)
        · refine aw_iconst (v := nI 1) d_M_one_65 (by decide) ?_
          refine aw_iadd d_M_one_66 ?_
          rw [nI_add]
          refine aw_put (k := 30) (fs' := [.int (nI n), .ref 57, .ref 58, .ref 59, .ref 60, .ref 61, .ref 62, .ref 63, .int (nI ns), .ref 64, .ref 65, .int (nI ra), .int (nI se), .int me, .int mi, .ref 66, .ref 67, .int tab, .ref 68, .ref 69, .ref 70, .ref 71, .ref 72, .ref 73, .ref 74, .int ve, .int la, .ref 75, .ref 76, .int (nI len), .int (nI (lk g len a + 1)), .int (nI 0), .ref 77, .ref 78, .int (nI fe), .ref 79, .ref 80, .ref 81, .ref 82, .ref 83, .ref 84, .int (ab_bl kp), .ref 85, .ref 86, .ref 87, .ref 88]) d_M_one_67 cl_Model k_M_278 (by decide) rfl ⟨rfl, rfl⟩ rfl (Nat.le_of_ble_eq_true rfl) rfl ?_
          refine aw_iload_n d_M_one_70 rfl ?_
          refine aw_ireturn d_M_one_71 rfl rfl ?_
          rw [ab_set_set]
          exact ⟨by rw [ev48, pk_sub hs.1], rfl, rfl⟩
        · first | exact absurd c58 (by decide) | exact absurd (by decide) c58
      · first | exact absurd c35 (by decide) | exact absurd (by decide) c35
    · exfalso
      have c := of_decide_eq_false (ab_bl_0.mp c20)
      rw [i64_toInt, i64_toInt, i64_toInt, nI_toInt (by omega), nI_toInt (by omega), nI_toInt (by omega)] at c
      exact c ⟨by have := hs.1; omega, by have := hs.2; omega⟩
theorem c_one_n {m : Nat} {h : ab_H} {n ns ra se : Nat} {me mi tab ve la : Int32} {len : Nat} {fe : Nat} {kp : Bool} {a : Nat} (hM : h 56 = oM n ns ra se me mi tab ve la len (nI a) (nI 0) fe kp) {G : Nat → Int32} (hG : h 76 = .inl (100, G)) {g : Nat → Nat} (hl : len ≤ 100) (ag : ∀ k, k < len → G k = nI (g k)) (hg : ∀ k, k < len → g k < 127) (ha : a ≤ len) {lo hi : Nat} (hlo : 1 ≤ lo) (hhi : hi < 2 ^ 31) (hlo2 : lo < 2 ^ 31) (hs : ¬ (lo ≤ (sg g len (lk g len a)) ∧ (sg g len (lk g len a)) ≤ hi)) : ab_D Y_M_one [.ref 56, .int (nI lo), .int (nI hi)] m h (some (.int (nI 0))) m (ab_set h 56 (oM n ns ra se me mi tab ve la len (nI (lk g len a)) (nI 1) fe kp)) := by
  have s127 := sg_127 hg (lk g len a)
  have hl9 := (lk_le (g := g) ha).2
  refine ab_C.of (L := [some (.ref 56), some (.int (nI lo)), some (.int (nI hi)), none]) rfl rfl (Nat.le_of_ble_eq_true rfl) (fun l => ?_)
  refine aw_aload_n d_M_one_0 rfl ?_
  refine aw_aload_n d_M_one_1 rfl ?_
  refine aw_get (k := 31) d_M_one_2 cl_Model k_M_281 (by decide) hM rfl ?_
  refine aw_if_ne (tgt := 23) d_M_one_5 (by decide) (fun c5 => ?_) (fun c5 => ?_)
  · first | exact absurd c5 (by decide) | exact absurd (by decide) c5
  · refine aw_aload_n d_M_one_8 rfl ?_
    refine aw_v0i (a := 56) d_M_one_9 k_M_285 ok_M_here rfl ⟨rfl, rfl⟩ cl_Model hM (c_here hM hG hl ag hg ha) rfl rfl (Nat.le_of_ble_eq_true rfl) ?_
    refine aw_i2l d_M_one_12 ?_
    refine aw_iload_n d_M_one_13 rfl ?_
    refine aw_i2l d_M_one_14 ?_
    refine aw_iload_n d_M_one_15 rfl ?_
    refine aw_i2l d_M_one_16 ?_
    refine aw_s0i d_M_one_17 k_M_121 ok_M_in rfl ⟨rfl, rfl⟩ (c_in ((nI (sg g len (lk g len a))).toInt64) ((nI lo).toInt64) ((nI hi).toInt64)) rfl rfl (Nat.le_of_ble_eq_true rfl) ?_
    refine aw_if_ne (tgt := 27) d_M_one_20 (by decide) (fun c20 => ?_) (fun c20 => ?_)
    · exfalso
      have c := of_decide_eq_true (ab_bl_1.mp c20)
      rw [i64_toInt, i64_toInt, i64_toInt, nI_toInt (by omega), nI_toInt (by omega), nI_toInt (by omega)] at c
      exact hs ⟨by omega, by omega⟩
    · refine aw_iconst (v := nI 1) d_M_one_23 (by decide) ?_
      refine aw_goto (tgt := 28) d_M_one_24 (by decide) ?_
      refine aw_put (k := 31) (fs' := [.int (nI n), .ref 57, .ref 58, .ref 59, .ref 60, .ref 61, .ref 62, .ref 63, .int (nI ns), .ref 64, .ref 65, .int (nI ra), .int (nI se), .int me, .int mi, .ref 66, .ref 67, .int tab, .ref 68, .ref 69, .ref 70, .ref 71, .ref 72, .ref 73, .ref 74, .int ve, .int la, .ref 75, .ref 76, .int (nI len), .int (nI (lk g len a)), .int (nI 1), .ref 77, .ref 78, .int (nI fe), .ref 79, .ref 80, .ref 81, .ref 82, .ref 83, .ref 84, .int (ab_bl kp), .ref 85, .ref 86, .ref 87, .ref 88]) d_M_one_28 cl_Model k_M_281 (by decide) rfl ⟨by decide, by decide⟩ rfl (Nat.le_of_ble_eq_true rfl) rfl ?_
      rw [ab_set_set]
      refine aw_aload_n d_M_one_31 rfl ?_
      refine aw_get (k := 31) d_M_one_32 cl_Model k_M_281 (by decide) rfl rfl ?_
      refine aw_if_eq (tgt := 42) d_M_one_35 (by decide) (fun c35 => ?_) (fun c35 => ?_)
      · first | exact absurd c35 (by decide) | exact absurd (by decide) c35
      · refine aw_iconst (v := nI 0) d_M_one_38 (by decide) ?_
        refine aw_goto (tgt := 48) d_M_one_39 (by decide) ?_
        refine aw_istore_n (L' := [some (.ref 56), some (.int (nI lo)), some (.int (nI hi)), some (.int (nI 0))]) d_M_one_48 ⟨by decide, rfl⟩ rfl ?_
        refine aw_aload_n d_M_one_49 rfl ?_
        refine aw_dup d_M_one_50 rfl ?_
        refine aw_get (k := 30) d_M_one_51 cl_Model k_M_278 (by decide) rfl rfl ?_
        refine aw_aload_n d_M_one_54 rfl ?_
        refine aw_get (k := 31) d_M_one_55 cl_Model k_M_281 (by decide) rfl rfl ?_
        refine aw_if_eq (tgt := 65) d_M_one_58 (by decide) (fun c58 => ?_) (fun c58 => ?_)
        · first | exact absurd c58 (by decide) | exact absurd (by decide) c58
        · refine aw_iconst (v := nI 0) d_M_one_61 (by decide) ?_
          refine aw_goto (tgt := 66) d_M_one_62 (by decide) ?_
          refine aw_iadd d_M_one_66 ?_
          rw [nI_add]
          refine aw_put (k := 30) (fs' := [.int (nI n), .ref 57, .ref 58, .ref 59, .ref 60, .ref 61, .ref 62, .ref 63, .int (nI ns), .ref 64, .ref 65, .int (nI ra), .int (nI se), .int me, .int mi, .ref 66, .ref 67, .int tab, .ref 68, .ref 69, .ref 70, .ref 71, .ref 72, .ref 73, .ref 74, .int ve, .int la, .ref 75, .ref 76, .int (nI len), .int (nI (lk g len a + 0)), .int (nI 1), .ref 77, .ref 78, .int (nI fe), .ref 79, .ref 80, .ref 81, .ref 82, .ref 83, .ref 84, .int (ab_bl kp), .ref 85, .ref 86, .ref 87, .ref 88]) d_M_one_67 cl_Model k_M_278 (by decide) rfl ⟨rfl, rfl⟩ rfl (Nat.le_of_ble_eq_true rfl) rfl ?_
          refine aw_iload_n d_M_one_70 rfl ?_
          refine aw_ireturn d_M_one_71 rfl rfl ?_
          rw [ab_set_set]
          exact ⟨rfl, rfl, rfl⟩
theorem cl_loop {m : Nat} {h : ab_H} {n ns ra se : Nat} {me mi tab ve la : Int32} {len : Nat} {fe : Nat} {kp : Bool} {a wr P Cc : Int32} (hM : h 56 = oM n ns ra se me mi tab ve la len (a) (wr) fe kp) (hn : n ≤ 6) {gm : Nat → Int32} {mk : Nat → Nat} (hm : h 59 = .inl (6, gm)) (am : ∀ k, k < 6 → gm k = nI (mk k)) (bm : ∀ k, k < 6 → mk k < 64) {v : Nat} (hv : v < 6) (l : Launch) {Q : Option Value → Nat → ab_H → Prop}
    (kk : ab_W Y_M_clause none l Q 195 [some (.ref 56), some (.int P), some (.int Cc), some (.int (nI 0)), some (.int (nI v)), some (.int (nI (mkb mk v n))), some (.int (nI n))] [] m h (0, 0)) : ∀ k j, j + k = n → ab_W Y_M_clause none l Q 156 [some (.ref 56), some (.int P), some (.int Cc), some (.int (nI 0)), some (.int (nI v)), some (.int (nI (mkb mk v j))), some (.int (nI j))] [] m h (0, 0)
  | 0, j, hj => by
    have hjn : n = j := by omega
    subst hjn
    refine aw_iload d_M_clause_156 rfl ?_
    refine aw_aload_n d_M_clause_158 rfl ?_
    refine aw_get (k := 0) d_M_clause_159 cl_Model k_M_118 (by decide) hM rfl ?_
    refine aw_icmp_ge (tgt := 195) d_M_clause_162 (by decide) (fun c162 => ?_) (fun c162 => ?_)
    · exact kk
    · exact absurd (Int32.le_refl _) c162
  | k + 1, j, hj => by
    refine aw_iload d_M_clause_156 rfl ?_
    refine aw_aload_n d_M_clause_158 rfl ?_
    refine aw_get (k := 0) d_M_clause_159 cl_Model k_M_118 (by decide) hM rfl ?_
    refine aw_icmp_ge (tgt := 195) d_M_clause_162 (by decide) (fun c162 => ?_) (fun c162 => ?_)
    · exact absurd c162 (nI_ge (by omega) (by omega))
    · refine aw_iload_n d_M_clause_165 rfl ?_
      refine aw_if_ne (tgt := 195) d_M_clause_166 (by decide) (fun c166 => ?_) (fun c166 => ?_)
      · first | exact absurd c166 (by decide) | exact absurd (by decide) c166
      · refine aw_iload d_M_clause_169 rfl ?_
        refine aw_aload_n d_M_clause_171 rfl ?_
        refine aw_get (k := 3) d_M_clause_172 cl_Model k_M_16 (by decide) hM rfl ?_
        refine aw_iload d_M_clause_175 rfl ?_
        refine aw_ialoadN d_M_clause_177 hm (by omega) (by decide) ?_
        refine aw_iload d_M_clause_178 rfl ?_
        refine aw_ishr d_M_clause_180 ?_
        refine aw_iconst (v := nI 1) d_M_clause_181 (by decide) ?_
        refine aw_iand d_M_clause_182 ?_
        rw [am j (by omega), b_at (by have := bm j (by omega); omega) (by omega)]
        refine aw_iload d_M_clause_183 rfl ?_
        refine aw_ishl d_M_clause_185 ?_
        rw [b_shl (by omega) (by have : 2 ^ j ≤ 2 ^ 6 := Nat.pow_le_pow_right (by decide) (by omega); rcases b_01 (mk j) v with q | q <;> rw [q] <;> omega)]
        refine aw_ior d_M_clause_186 ?_
        refine aw_topi (fun v187 ev187 => ?_)
        refine aw_istore (L' := [some (.ref 56), some (.int P), some (.int Cc), some (.int (nI 0)), some (.int (nI v)), some (.int v187), some (.int (nI j))]) d_M_clause_187 ⟨by decide, rfl⟩ rfl ?_
        refine aw_iinc (v := nI (j + 1)) (L' := [some (.ref 56), some (.int P), some (.int Cc), some (.int (nI 0)), some (.int (nI v)), some (.int v187), some (.int (nI (j + 1)))]) d_M_clause_189 rfl (nI_1 _) ⟨by decide, rfl⟩ rfl ?_
        refine aw_goto (tgt := 156) d_M_clause_192 (by decide) ?_
        rw [show v187 = nI (mkb mk v (j + 1)) by rw [ev187, fa_or]; rfl]
        exact cl_loop hM hn hm am bm hv l kk k (j + 1) (by omega)
theorem c_clause {m : Nat} {h : ab_H} {n ns ra se : Nat} {me mi tab ve la : Int32} {len : Nat} {fe : Nat} {kp : Bool} {a : Nat} (hM : h 56 = oM n ns ra se me mi tab ve la len (nI a) (nI 0) fe kp) {G : Nat → Int32} (hG : h 76 = .inl (100, G)) {g : Nat → Nat} (hl : len ≤ 100) (ag : ∀ k, k < len → G k = nI (g k)) (hg : ∀ k, k < len → g k < 127) (ha : a ≤ len) (hn : n ≤ 6) {gm : Nat → Int32} {mk : Nat → Nat} (hm : h 59 = .inl (6, gm)) (am : ∀ k, k < 6 → gm k = nI (mk k)) (bm : ∀ k, k < 6 → mk k < 64) {gr : Nat → Int32} (hr : h 77 = .inl (6, gr)) {d : Nat → Nat} (er : ∀ k, k < n → gr k = nI (d k)) (bd : ∀ k, k < n → d k < 2 ^ n) : ab_C Y_M_clause [.ref 56] m h (fun r m2 h2 => r = none ∧ m2 = m ∧ ∃ gr2 : Nat → Int32, h2 = ab_set (ab_set h 56 (oM n ns ra se me mi tab ve la len (nI (cls n mk g len a d).2.1) (ab_bl (!(cls n mk g len a d).1)) fe kp)) 77 (.inl (6, gr2)) ∧ ∀ k, k < n → gr2 k = nI ((cls n mk g len a d).2.2 k)) := by
  refine ab_C.of (L := [some (.ref 56), none, none, none, none, none, none]) rfl rfl (Nat.le_of_ble_eq_true rfl) (fun l => ?_)
  have h1l : a1 g len a ≤ len := (lk_le ha).2
  have tb : ∀ (P Cc : Int32) (b : Nat) (x3 x4 x5 x6 : Option Value), (cls n mk g len a d) = (false, b, d) → ab_W Y_M_clause none l (fun r m2 h2 => r = none ∧ m2 = m ∧ ∃ gr2 : Nat → Int32, h2 = ab_set (ab_set h 56 (oM n ns ra se me mi tab ve la len (nI (cls n mk g len a d).2.1) (ab_bl (!(cls n mk g len a d).1)) fe kp)) 77 (.inl (6, gr2)) ∧ ∀ k, k < n → gr2 k = nI ((cls n mk g len a d).2.2 k)) 80 [some (.ref 56), some (.int P), some (.int Cc), x3, x4, x5, x6] [] m (ab_set h 56 (oM n ns ra se me mi tab ve la len (nI b) (nI 1) fe kp)) (0, 0) := by
    intro P Cc b x3 x4 x5 x6 eC
    refine aw_drop 3 (aw_drop 4 (aw_drop 5 (aw_drop 6 ?_)))
    refine aw_iload_n d_M_clause_80 rfl ?_
    refine aw_bipush (v := nI 61) d_M_clause_81 (by decide) ?_
    refine aw_icmp_eq (tgt := 92) d_M_clause_83 (by decide) (fun c83 => ?_) (fun c83 => ?_)
    · refine aw_iconst (v := nI 1) d_M_clause_92 (by decide) ?_
      refine aw_goto (tgt := 97) d_M_clause_93 (by decide) ?_
      refine aw_istore_n (L' := [some (.ref 56), some (.int P), some (.int Cc), some (.int (nI 1)), none, none, none]) d_M_clause_97 ⟨by decide, rfl⟩ rfl ?_
      refine aw_aload_n d_M_clause_98 rfl ?_
      refine aw_get (k := 31) d_M_clause_99 cl_Model k_M_281 (by decide) rfl rfl ?_
      refine aw_if_eq (tgt := 109) d_M_clause_102 (by decide) (fun c102 => ?_) (fun c102 => ?_)
      · first | exact absurd c102 (by decide) | exact absurd (by decide) c102
      · refine aw_iconst (v := nI 0) d_M_clause_105 (by decide) ?_
        refine aw_goto (tgt := 137) d_M_clause_106 (by decide) ?_
        refine aw_istore (L' := [some (.ref 56), some (.int P), some (.int Cc), some (.int (nI 1)), some (.int (nI 0)), none, none]) d_M_clause_137 ⟨by decide, rfl⟩ rfl ?_
        refine aw_iload_n d_M_clause_139 rfl ?_
        refine aw_if_eq (tgt := 150) d_M_clause_140 (by decide) (fun c140 => ?_) (fun c140 => ?_)
        · first | exact absurd c140 (by decide) | exact absurd (by decide) c140
        · refine aw_iconst (v := nI 1) d_M_clause_143 (by decide) ?_
          refine aw_iload d_M_clause_144 rfl ?_
          refine aw_ishl d_M_clause_146 ?_
          refine aw_goto (tgt := 151) d_M_clause_147 (by decide) ?_
          refine aw_topi (fun v151 ev151 => ?_)
          refine aw_istore (L' := [some (.ref 56), some (.int P), some (.int Cc), some (.int (nI 1)), some (.int (nI 0)), some (.int v151), none]) d_M_clause_151 ⟨by decide, rfl⟩ rfl ?_
          refine aw_iconst (v := nI 0) d_M_clause_153 (by decide) ?_
          refine aw_istore (L' := [some (.ref 56), some (.int P), some (.int Cc), some (.int (nI 1)), some (.int (nI 0)), some (.int v151), some (.int (nI 0))]) d_M_clause_154 ⟨by decide, rfl⟩ rfl ?_
          first
            | (refine cl_loop (h := ab_set h 56 (oM n ns ra se me mi tab ve la len (nI b) (nI 1) fe kp)) (v := 0) rfl hn hm am bm (by decide) l ?_ n 0 (by omega)
               refine aw_aload_n d_M_clause_195 rfl ?_
               refine aw_get (k := 31) d_M_clause_196 cl_Model k_M_281 (by decide) rfl rfl ?_
               refine aw_if_ne (tgt := 232) d_M_clause_199 (by decide) (fun c199 => ?_) (fun c199 => ?_)
               · refine aw_return d_M_clause_232 rfl ?_
                 rw [eC]
                 exact ⟨rfl, rfl, gr, (ab_set_eq (h := ab_set h 56 _) (a := 77) hr).symm, er⟩
               · first | exact absurd c199 (by decide) | exact absurd (by decide) c199)
            | (refine aw_iload d_M_clause_156 rfl ?_
               refine aw_aload_n d_M_clause_158 rfl ?_
               refine aw_get (k := 0) d_M_clause_159 cl_Model k_M_118 (by decide) rfl rfl ?_
               refine aw_icmp_ge (tgt := 195) d_M_clause_162 (by decide) (fun c162 => ?_) (fun c162 => ?_)
               · refine aw_aload_n d_M_clause_195 rfl ?_
                 refine aw_get (k := 31) d_M_clause_196 cl_Model k_M_281 (by decide) rfl rfl ?_
                 refine aw_if_ne (tgt := 232) d_M_clause_199 (by decide) (fun c199 => ?_) (fun c199 => ?_)
                 · refine aw_return d_M_clause_232 rfl ?_
                   rw [eC]
                   exact ⟨rfl, rfl, gr, (ab_set_eq (h := ab_set h 56 _) (a := 77) hr).symm, er⟩
                 · first | exact absurd c199 (by decide) | exact absurd (by decide) c199
               · refine aw_iload_n d_M_clause_165 rfl ?_
                 refine aw_if_ne (tgt := 195) d_M_clause_166 (by decide) (fun c166 => ?_) (fun c166 => ?_)
                 · refine aw_aload_n d_M_clause_195 rfl ?_
                   refine aw_get (k := 31) d_M_clause_196 cl_Model k_M_281 (by decide) rfl rfl ?_
                   refine aw_if_ne (tgt := 232) d_M_clause_199 (by decide) (fun c199 => ?_) (fun c199 => ?_)
                   · refine aw_return d_M_clause_232 rfl ?_
                     rw [eC]
                     exact ⟨rfl, rfl, gr, (ab_set_eq (h := ab_set h 56 _) (a := 77) hr).symm, er⟩
                   · first | exact absurd c199 (by decide) | exact absurd (by decide) c199
                 · first | exact absurd c166 (by decide) | exact absurd (by decide) c166)
    · refine aw_iload_n d_M_clause_86 rfl ?_
      refine aw_bipush (v := nI 33) d_M_clause_87 (by decide) ?_
      refine aw_icmp_ne (tgt := 96) d_M_clause_89 (by decide) (fun c89 => ?_) (fun c89 => ?_)
      · refine aw_iconst (v := nI 0) d_M_clause_96 (by decide) ?_
        refine aw_istore_n (L' := [some (.ref 56), some (.int P), some (.int Cc), some (.int (nI 0)), none, none, none]) d_M_clause_97 ⟨by decide, rfl⟩ rfl ?_
        refine aw_aload_n d_M_clause_98 rfl ?_
        refine aw_get (k := 31) d_M_clause_99 cl_Model k_M_281 (by decide) rfl rfl ?_
        refine aw_if_eq (tgt := 109) d_M_clause_102 (by decide) (fun c102 => ?_) (fun c102 => ?_)
        · first | exact absurd c102 (by decide) | exact absurd (by decide) c102
        · refine aw_iconst (v := nI 0) d_M_clause_105 (by decide) ?_
          refine aw_goto (tgt := 137) d_M_clause_106 (by decide) ?_
          refine aw_istore (L' := [some (.ref 56), some (.int P), some (.int Cc), some (.int (nI 0)), some (.int (nI 0)), none, none]) d_M_clause_137 ⟨by decide, rfl⟩ rfl ?_
          refine aw_iload_n d_M_clause_139 rfl ?_
          refine aw_if_eq (tgt := 150) d_M_clause_140 (by decide) (fun c140 => ?_) (fun c140 => ?_)
          · refine aw_iconst (v := nI 0) d_M_clause_150 (by decide) ?_
            refine aw_istore (L' := [some (.ref 56), some (.int P), some (.int Cc), some (.int (nI 0)), some (.int (nI 0)), some (.int (nI 0)), none]) d_M_clause_151 ⟨by decide, rfl⟩ rfl ?_
            refine aw_iconst (v := nI 0) d_M_clause_153 (by decide) ?_
            refine aw_istore (L' := [some (.ref 56), some (.int P), some (.int Cc), some (.int (nI 0)), some (.int (nI 0)), some (.int (nI 0)), some (.int (nI 0))]) d_M_clause_154 ⟨by decide, rfl⟩ rfl ?_
            first
              | (refine cl_loop (h := ab_set h 56 (oM n ns ra se me mi tab ve la len (nI b) (nI 1) fe kp)) (v := 0) rfl hn hm am bm (by decide) l ?_ n 0 (by omega)
                 refine aw_aload_n d_M_clause_195 rfl ?_
                 refine aw_get (k := 31) d_M_clause_196 cl_Model k_M_281 (by decide) rfl rfl ?_
                 refine aw_if_ne (tgt := 232) d_M_clause_199 (by decide) (fun c199 => ?_) (fun c199 => ?_)
                 · refine aw_return d_M_clause_232 rfl ?_
                   rw [eC]
                   exact ⟨rfl, rfl, gr, (ab_set_eq (h := ab_set h 56 _) (a := 77) hr).symm, er⟩
                 · first | exact absurd c199 (by decide) | exact absurd (by decide) c199)
              | (refine aw_iload d_M_clause_156 rfl ?_
                 refine aw_aload_n d_M_clause_158 rfl ?_
                 refine aw_get (k := 0) d_M_clause_159 cl_Model k_M_118 (by decide) rfl rfl ?_
                 refine aw_icmp_ge (tgt := 195) d_M_clause_162 (by decide) (fun c162 => ?_) (fun c162 => ?_)
                 · refine aw_aload_n d_M_clause_195 rfl ?_
                   refine aw_get (k := 31) d_M_clause_196 cl_Model k_M_281 (by decide) rfl rfl ?_
                   refine aw_if_ne (tgt := 232) d_M_clause_199 (by decide) (fun c199 => ?_) (fun c199 => ?_)
                   · refine aw_return d_M_clause_232 rfl ?_
                     rw [eC]
                     exact ⟨rfl, rfl, gr, (ab_set_eq (h := ab_set h 56 _) (a := 77) hr).symm, er⟩
                   · first | exact absurd c199 (by decide) | exact absurd (by decide) c199
                 · refine aw_iload_n d_M_clause_165 rfl ?_
                   refine aw_if_ne (tgt := 195) d_M_clause_166 (by decide) (fun c166 => ?_) (fun c166 => ?_)
                   · refine aw_aload_n d_M_clause_195 rfl ?_
                     refine aw_get (k := 31) d_M_clause_196 cl_Model k_M_281 (by decide) rfl rfl ?_
                     refine aw_if_ne (tgt := 232) d_M_clause_199 (by decide) (fun c199 => ?_) (fun c199 => ?_)
                     · refine aw_return d_M_clause_232 rfl ?_
                       rw [eC]
                       exact ⟨rfl, rfl, gr, (ab_set_eq (h := ab_set h 56 _) (a := 77) hr).symm, er⟩
                     · first | exact absurd c199 (by decide) | exact absurd (by decide) c199
                   · first | exact absurd c166 (by decide) | exact absurd (by decide) c166)
          · first | exact absurd c140 (by decide) | exact absurd (by decide) c140
      · refine aw_iconst (v := nI 1) d_M_clause_92 (by decide) ?_
        refine aw_goto (tgt := 97) d_M_clause_93 (by decide) ?_
        refine aw_istore_n (L' := [some (.ref 56), some (.int P), some (.int Cc), some (.int (nI 1)), none, none, none]) d_M_clause_97 ⟨by decide, rfl⟩ rfl ?_
        refine aw_aload_n d_M_clause_98 rfl ?_
        refine aw_get (k := 31) d_M_clause_99 cl_Model k_M_281 (by decide) rfl rfl ?_
        refine aw_if_eq (tgt := 109) d_M_clause_102 (by decide) (fun c102 => ?_) (fun c102 => ?_)
        · first | exact absurd c102 (by decide) | exact absurd (by decide) c102
        · refine aw_iconst (v := nI 0) d_M_clause_105 (by decide) ?_
          refine aw_goto (tgt := 137) d_M_clause_106 (by decide) ?_
          refine aw_istore (L' := [some (.ref 56), some (.int P), some (.int Cc), some (.int (nI 1)), some (.int (nI 0)), none, none]) d_M_clause_137 ⟨by decide, rfl⟩ rfl ?_
          refine aw_iload_n d_M_clause_139 rfl ?_
          refine aw_if_eq (tgt := 150) d_M_clause_140 (by decide) (fun c140 => ?_) (fun c140 => ?_)
          · first | exact absurd c140 (by decide) | exact absurd (by decide) c140
          · refine aw_iconst (v := nI 1) d_M_clause_143 (by decide) ?_
            refine aw_iload d_M_clause_144 rfl ?_
            refine aw_ishl d_M_clause_146 ?_
            refine aw_goto (tgt := 151) d_M_clause_147 (by decide) ?_
            refine aw_topi (fun v151 ev151 => ?_)
            refine aw_istore (L' := [some (.ref 56), some (.int P), some (.int Cc), some (.int (nI 1)), some (.int (nI 0)), some (.int v151), none]) d_M_clause_151 ⟨by decide, rfl⟩ rfl ?_
            refine aw_iconst (v := nI 0) d_M_clause_153 (by decide) ?_
            refine aw_istore (L' := [some (.ref 56), some (.int P), some (.int Cc), some (.int (nI 1)), some (.int (nI 0)), some (.int v151), some (.int (nI 0))]) d_M_clause_154 ⟨by decide, rfl⟩ rfl ?_
            first
              | (refine cl_loop (h := ab_set h 56 (oM n ns ra se me mi tab ve la len (nI b) (nI 1) fe kp)) (v := 0) rfl hn hm am bm (by decide) l ?_ n 0 (by omega)
                 refine aw_aload_n d_M_clause_195 rfl ?_
                 refine aw_get (k := 31) d_M_clause_196 cl_Model k_M_281 (by decide) rfl rfl ?_
                 refine aw_if_ne (tgt := 232) d_M_clause_199 (by decide) (fun c199 => ?_) (fun c199 => ?_)
                 · refine aw_return d_M_clause_232 rfl ?_
                   rw [eC]
                   exact ⟨rfl, rfl, gr, (ab_set_eq (h := ab_set h 56 _) (a := 77) hr).symm, er⟩
                 · first | exact absurd c199 (by decide) | exact absurd (by decide) c199)
              | (refine aw_iload d_M_clause_156 rfl ?_
                 refine aw_aload_n d_M_clause_158 rfl ?_
                 refine aw_get (k := 0) d_M_clause_159 cl_Model k_M_118 (by decide) rfl rfl ?_
                 refine aw_icmp_ge (tgt := 195) d_M_clause_162 (by decide) (fun c162 => ?_) (fun c162 => ?_)
                 · refine aw_aload_n d_M_clause_195 rfl ?_
                   refine aw_get (k := 31) d_M_clause_196 cl_Model k_M_281 (by decide) rfl rfl ?_
                   refine aw_if_ne (tgt := 232) d_M_clause_199 (by decide) (fun c199 => ?_) (fun c199 => ?_)
                   · refine aw_return d_M_clause_232 rfl ?_
                     rw [eC]
                     exact ⟨rfl, rfl, gr, (ab_set_eq (h := ab_set h 56 _) (a := 77) hr).symm, er⟩
                   · first | exact absurd c199 (by decide) | exact absurd (by decide) c199
                 · refine aw_iload_n d_M_clause_165 rfl ?_
                   refine aw_if_ne (tgt := 195) d_M_clause_166 (by decide) (fun c166 => ?_) (fun c166 => ?_)
                   · refine aw_aload_n d_M_clause_195 rfl ?_
                     refine aw_get (k := 31) d_M_clause_196 cl_Model k_M_281 (by decide) rfl rfl ?_
                     refine aw_if_ne (tgt := 232) d_M_clause_199 (by decide) (fun c199 => ?_) (fun c199 => ?_)
                     · refine aw_return d_M_clause_232 rfl ?_
                       rw [eC]
                       exact ⟨rfl, rfl, gr, (ab_set_eq (h := ab_set h 56 _) (a := 77) hr).symm, er⟩
                     · first | exact absurd c199 (by decide) | exact absurd (by decide) c199
                   · first | exact absurd c166 (by decide) | exact absurd (by decide) c166)
  by_cases s1 : 97 ≤ (sg g len (a1 g len a)) ∧ (sg g len (a1 g len a)) ≤ 96 + n
  · have s1b : 97 ≤ (sg g len (a1 g len a)) ∧ (sg g len (a1 g len a)) < 97 + n := ⟨s1.1, by omega⟩
    refine aw_aload_n d_M_clause_0 rfl ?_
    refine aw_bipush (v := nI 97) d_M_clause_1 (by decide) ?_
    refine aw_bipush (v := nI 96) d_M_clause_3 (by decide) ?_
    refine aw_aload_n d_M_clause_5 rfl ?_
    refine aw_get (k := 0) d_M_clause_6 cl_Model k_M_118 (by decide) hM rfl ?_
    refine aw_iadd d_M_clause_9 ?_
    rw [nI_add]
    refine aw_v0i (a := 56) d_M_clause_10 k_M_288 ok_M_one rfl ⟨rfl, rfl⟩ cl_Model hM (c_one_y hM hG hl ag hg ha (lo := 97) (hi := 96 + n) (by decide) (by omega) (by decide) s1) rfl rfl (Nat.le_of_ble_eq_true rfl) ?_
    refine aw_istore_n (L' := [some (.ref 56), some (.int (nI ((sg g len (a1 g len a)) - 97))), none, none, none, none, none]) d_M_clause_13 ⟨by decide, rfl⟩ rfl ?_
    refine aw_aload_n d_M_clause_14 rfl ?_
    have l1 : a1 g len a < len := sg_lt (by decide) s1.1
    have h2l : a2 g len a ≤ len := (lk_le (show a1 g len a + 1 ≤ len by omega)).2
    have s127 := sg_127 hg (a2 g len a)
    refine aw_v0i (a := 56) d_M_clause_15 k_M_285 ok_M_here rfl ⟨rfl, rfl⟩ cl_Model rfl (c_here (h := ab_set h 56 (oM n ns ra se me mi tab ve la len (nI (a1 g len a + 1)) (nI 0) fe kp)) (a := a1 g len a + 1) rfl hG hl ag hg (by omega)) rfl rfl (Nat.le_of_ble_eq_true rfl) ?_
    rw [ab_set_set]
    refine aw_istore_n (L' := [some (.ref 56), some (.int (nI ((sg g len (a1 g len a)) - 97))), some (.int (nI (sg g len (a2 g len a)))), none, none, none, none]) d_M_clause_18 ⟨by decide, rfl⟩ rfl ?_
    refine aw_aload_n d_M_clause_19 rfl ?_
    refine aw_aload_n d_M_clause_20 rfl ?_
    refine aw_get (k := 31) d_M_clause_21 cl_Model k_M_281 (by decide) rfl rfl ?_
    refine aw_if_ne (tgt := 51) d_M_clause_24 (by decide) (fun c24 => ?_) (fun c24 => ?_)
    · first | exact absurd c24 (by decide) | exact absurd (by decide) c24
    · refine aw_iload_n d_M_clause_27 rfl ?_
      refine aw_bipush (v := nI 61) d_M_clause_28 (by decide) ?_
      refine aw_icmp_eq (tgt := 55) d_M_clause_30 (by decide) (fun c30 => ?_) (fun c30 => ?_)
      · have s2 : (sg g len (a2 g len a)) = 61 := (nI_eq (by omega) (by decide)).mp c30
        have o2 : opc (sg g len (a2 g len a)) = true := by rw [s2]; rfl
        have l2 : a2 g len a < len := sg_lt (b := 1) (by decide) (by rw [s2]; decide)
        have h3l : a3 g len a ≤ len := (lk_le (show a2 g len a + 1 ≤ len by omega)).2
        have k3 : ok3 n (sg g len (a2 g len a)) (sg g len (a3 g len a)) = decide (97 ≤ (sg g len (a3 g len a)) ∧ (sg g len (a3 g len a)) < 97 + n) := by rw [s2]; rfl
        rw [show nI (sg g len (a2 g len a)) = nI 61 by rw [s2]]
        refine aw_iconst (v := nI 0) d_M_clause_55 (by decide) ?_
        refine aw_put (k := 31) (fs' := [.int (nI n), .ref 57, .ref 58, .ref 59, .ref 60, .ref 61, .ref 62, .ref 63, .int (nI ns), .ref 64, .ref 65, .int (nI ra), .int (nI se), .int me, .int mi, .ref 66, .ref 67, .int tab, .ref 68, .ref 69, .ref 70, .ref 71, .ref 72, .ref 73, .ref 74, .int ve, .int la, .ref 75, .ref 76, .int (nI len), .int (nI (a2 g len a)), .int (nI 0), .ref 77, .ref 78, .int (nI fe), .ref 79, .ref 80, .ref 81, .ref 82, .ref 83, .ref 84, .int (ab_bl kp), .ref 85, .ref 86, .ref 87, .ref 88]) d_M_clause_56 cl_Model k_M_281 (by decide) rfl ⟨by decide, by decide⟩ rfl (Nat.le_of_ble_eq_true rfl) rfl ?_
        rw [ab_set_set]
        refine aw_aload_n d_M_clause_59 rfl ?_
        refine aw_dup d_M_clause_60 rfl ?_
        refine aw_get (k := 30) d_M_clause_61 cl_Model k_M_278 (by decide) rfl rfl ?_
        refine aw_aload_n d_M_clause_64 rfl ?_
        refine aw_get (k := 31) d_M_clause_65 cl_Model k_M_281 (by decide) rfl rfl ?_
        refine aw_if_eq (tgt := 75) d_M_clause_68 (by decide) (fun c68 => ?_) (fun c68 => ?_)
        · refine aw_iconst (v := nI 1) d_M_clause_75 (by decide) ?_
          refine aw_iadd d_M_clause_76 ?_
          rw [nI_add]
          refine aw_put (k := 30) (fs' := [.int (nI n), .ref 57, .ref 58, .ref 59, .ref 60, .ref 61, .ref 62, .ref 63, .int (nI ns), .ref 64, .ref 65, .int (nI ra), .int (nI se), .int me, .int mi, .ref 66, .ref 67, .int tab, .ref 68, .ref 69, .ref 70, .ref 71, .ref 72, .ref 73, .ref 74, .int ve, .int la, .ref 75, .ref 76, .int (nI len), .int (nI (a2 g len a + 1)), .int (nI 0), .ref 77, .ref 78, .int (nI fe), .ref 79, .ref 80, .ref 81, .ref 82, .ref 83, .ref 84, .int (ab_bl kp), .ref 85, .ref 86, .ref 87, .ref 88]) d_M_clause_77 cl_Model k_M_278 (by decide) rfl ⟨rfl, rfl⟩ rfl (Nat.le_of_ble_eq_true rfl) rfl ?_
          rw [ab_set_set]
          refine aw_iload_n d_M_clause_80 rfl ?_
          refine aw_bipush (v := nI 61) d_M_clause_81 (by decide) ?_
          refine aw_icmp_eq (tgt := 92) d_M_clause_83 (by decide) (fun c83 => ?_) (fun c83 => ?_)
          · refine aw_iconst (v := nI 1) d_M_clause_92 (by decide) ?_
            refine aw_goto (tgt := 97) d_M_clause_93 (by decide) ?_
            refine aw_istore_n (L' := [some (.ref 56), some (.int (nI ((sg g len (a1 g len a)) - 97))), some (.int (nI 61)), some (.int (nI 1)), none, none, none]) d_M_clause_97 ⟨by decide, rfl⟩ rfl ?_
            refine aw_aload_n d_M_clause_98 rfl ?_
            refine aw_get (k := 31) d_M_clause_99 cl_Model k_M_281 (by decide) rfl rfl ?_
            refine aw_if_eq (tgt := 109) d_M_clause_102 (by decide) (fun c102 => ?_) (fun c102 => ?_)
            · refine aw_iload_n d_M_clause_109 rfl ?_
              refine aw_if_eq (tgt := 129) d_M_clause_110 (by decide) (fun c110 => ?_) (fun c110 => ?_)
              · first | exact absurd c110 (by decide) | exact absurd (by decide) c110
              · refine aw_aload_n d_M_clause_113 rfl ?_
                refine aw_bipush (v := nI 97) d_M_clause_114 (by decide) ?_
                refine aw_bipush (v := nI 96) d_M_clause_116 (by decide) ?_
                refine aw_aload_n d_M_clause_118 rfl ?_
                refine aw_get (k := 0) d_M_clause_119 cl_Model k_M_118 (by decide) rfl rfl ?_
                refine aw_iadd d_M_clause_122 ?_
                rw [nI_add]
                by_cases s3 : 97 ≤ (sg g len (a3 g len a)) ∧ (sg g len (a3 g len a)) ≤ 96 + n
                · refine aw_v0i (a := 56) d_M_clause_123 k_M_288 ok_M_one rfl ⟨rfl, rfl⟩ cl_Model rfl (c_one_y (h := ab_set h 56 (oM n ns ra se me mi tab ve la len (nI (a2 g len a + 1)) (nI 0) fe kp)) (a := a2 g len a + 1) rfl hG hl ag hg (by omega) (lo := 97) (hi := 96 + n) (by decide) (by omega) (by decide) s3) rfl rfl (Nat.le_of_ble_eq_true rfl) ?_
                  rw [ab_set_set]
                  refine aw_goto (tgt := 137) d_M_clause_126 (by decide) ?_
                  have e3 : ok3 n (sg g len (a2 g len a)) (sg g len (a3 g len a)) = true := by rw [k3]; exact decide_eq_true ⟨s3.1, by omega⟩
                  have l3 : a3 g len a < len := sg_lt (by decide) s3.1
                  have hct : 2 ^ ((sg g len (a3 g len a)) - 97) < 64 := p6_lt (by omega)
                  refine aw_istore (L' := [some (.ref 56), some (.int (nI ((sg g len (a1 g len a)) - 97))), some (.int (nI 61)), some (.int (nI 1)), some (.int (nI ((sg g len (a3 g len a)) - 97))), none, none]) d_M_clause_137 ⟨by decide, rfl⟩ rfl ?_
                  refine aw_iload_n d_M_clause_139 rfl ?_
                  refine aw_if_eq (tgt := 150) d_M_clause_140 (by decide) (fun c140 => ?_) (fun c140 => ?_)
                  · first | exact absurd c140 (by decide) | exact absurd (by decide) c140
                  · refine aw_iconst (v := nI 1) d_M_clause_143 (by decide) ?_
                    refine aw_iload d_M_clause_144 rfl ?_
                    refine aw_ishl d_M_clause_146 ?_
                    refine aw_goto (tgt := 151) d_M_clause_147 (by decide) ?_
                    rw [b_one (by omega)]
                    refine aw_istore (L' := [some (.ref 56), some (.int (nI ((sg g len (a1 g len a)) - 97))), some (.int (nI 61)), some (.int (nI 1)), some (.int (nI ((sg g len (a3 g len a)) - 97))), some (.int (nI (2 ^ ((sg g len (a3 g len a)) - 97)))), none]) d_M_clause_151 ⟨by decide, rfl⟩ rfl ?_
                    refine aw_iconst (v := nI 0) d_M_clause_153 (by decide) ?_
                    refine aw_istore (L' := [some (.ref 56), some (.int (nI ((sg g len (a1 g len a)) - 97))), some (.int (nI 61)), some (.int (nI 1)), some (.int (nI ((sg g len (a3 g len a)) - 97))), some (.int (nI (2 ^ ((sg g len (a3 g len a)) - 97)))), some (.int (nI 0))]) d_M_clause_154 ⟨by decide, rfl⟩ rfl ?_
                    refine aw_iload d_M_clause_156 rfl ?_
                    refine aw_aload_n d_M_clause_158 rfl ?_
                    refine aw_get (k := 0) d_M_clause_159 cl_Model k_M_118 (by decide) rfl rfl ?_
                    refine aw_icmp_ge (tgt := 195) d_M_clause_162 (by decide) (fun c162 => ?_) (fun c162 => ?_)
                    · refine aw_aload_n d_M_clause_195 rfl ?_
                      refine aw_get (k := 31) d_M_clause_196 cl_Model k_M_281 (by decide) rfl rfl ?_
                      refine aw_if_ne (tgt := 232) d_M_clause_199 (by decide) (fun c199 => ?_) (fun c199 => ?_)
                      · first | exact absurd c199 (by decide) | exact absurd (by decide) c199
                      · refine aw_aload_n d_M_clause_202 rfl ?_
                        refine aw_get (k := 32) d_M_clause_203 cl_Model k_M_82 (by decide) rfl rfl ?_
                        refine aw_iload_n d_M_clause_206 rfl ?_
                        refine aw_dup2 d_M_clause_207 rfl rfl ?_
                        refine aw_ialoadN d_M_clause_208 hr (by omega) (by decide) ?_
                        refine aw_iload_n d_M_clause_209 rfl ?_
                        refine aw_bipush (v := nI 61) d_M_clause_210 (by decide) ?_
                        refine aw_icmp_eq (tgt := 221) d_M_clause_212 (by decide) (fun c212 => ?_) (fun c212 => ?_)
                        · refine aw_iload d_M_clause_221 rfl ?_
                          refine aw_goto (tgt := 230) d_M_clause_223 (by decide) ?_
                          refine aw_iand d_M_clause_230 ?_
                          rw [er _ (by omega)]
                          refine aw_is (y := nI (d ((sg g len (a1 g len a)) - 97) &&& (2 ^ ((sg g len (a3 g len a)) - 97)))) ?_ ?_
                          · exact fa_and _ _
                          refine aw_iastoreN d_M_clause_231 hr (by omega) (by decide) ?_
                          refine aw_return d_M_clause_232 rfl ?_
                          rw [cls_4 s1b o2 e3]
                          refine ⟨rfl, rfl, _, rfl, fun k hk => ?_⟩
                          rw [s2]
                          show upd gr _ _ k = nI (ud d ((sg g len (a1 g len a)) - 97) (d ((sg g len (a1 g len a)) - 97) &&& (2 ^ ((sg g len (a3 g len a)) - 97))) k)
                          by_cases q : k = (sg g len (a1 g len a)) - 97
                          · subst q; rw [pk_us, ud_s]
                          · rw [pk_un q, ud_n q]; exact er k hk
                        · first | exact absurd c212 (by decide) | exact absurd (by decide) c212
                    · refine aw_iload_n d_M_clause_165 rfl ?_
                      refine aw_if_ne (tgt := 195) d_M_clause_166 (by decide) (fun c166 => ?_) (fun c166 => ?_)
                      · refine aw_aload_n d_M_clause_195 rfl ?_
                        refine aw_get (k := 31) d_M_clause_196 cl_Model k_M_281 (by decide) rfl rfl ?_
                        refine aw_if_ne (tgt := 232) d_M_clause_199 (by decide) (fun c199 => ?_) (fun c199 => ?_)
                        · first | exact absurd c199 (by decide) | exact absurd (by decide) c199
                        · refine aw_aload_n d_M_clause_202 rfl ?_
                          refine aw_get (k := 32) d_M_clause_203 cl_Model k_M_82 (by decide) rfl rfl ?_
                          refine aw_iload_n d_M_clause_206 rfl ?_
                          refine aw_dup2 d_M_clause_207 rfl rfl ?_
                          refine aw_ialoadN d_M_clause_208 hr (by omega) (by decide) ?_
                          refine aw_iload_n d_M_clause_209 rfl ?_
                          refine aw_bipush (v := nI 61) d_M_clause_210 (by decide) ?_
                          refine aw_icmp_eq (tgt := 221) d_M_clause_212 (by decide) (fun c212 => ?_) (fun c212 => ?_)
                          · refine aw_iload d_M_clause_221 rfl ?_
                            refine aw_goto (tgt := 230) d_M_clause_223 (by decide) ?_
                            refine aw_iand d_M_clause_230 ?_
                            rw [er _ (by omega)]
                            refine aw_is (y := nI (d ((sg g len (a1 g len a)) - 97) &&& (2 ^ ((sg g len (a3 g len a)) - 97)))) ?_ ?_
                            · exact fa_and _ _
                            refine aw_iastoreN d_M_clause_231 hr (by omega) (by decide) ?_
                            refine aw_return d_M_clause_232 rfl ?_
                            rw [cls_4 s1b o2 e3]
                            refine ⟨rfl, rfl, _, rfl, fun k hk => ?_⟩
                            rw [s2]
                            show upd gr _ _ k = nI (ud d ((sg g len (a1 g len a)) - 97) (d ((sg g len (a1 g len a)) - 97) &&& (2 ^ ((sg g len (a3 g len a)) - 97))) k)
                            by_cases q : k = (sg g len (a1 g len a)) - 97
                            · subst q; rw [pk_us, ud_s]
                            · rw [pk_un q, ud_n q]; exact er k hk
                          · first | exact absurd c212 (by decide) | exact absurd (by decide) c212
                      · first | exact absurd c166 (by decide) | exact absurd (by decide) c166
                · refine aw_v0i (a := 56) d_M_clause_123 k_M_288 ok_M_one rfl ⟨rfl, rfl⟩ cl_Model rfl (c_one_n (h := ab_set h 56 (oM n ns ra se me mi tab ve la len (nI (a2 g len a + 1)) (nI 0) fe kp)) (a := a2 g len a + 1) rfl hG hl ag hg (by omega) (lo := 97) (hi := 96 + n) (by decide) (by omega) (by decide) s3) rfl rfl (Nat.le_of_ble_eq_true rfl) ?_
                  rw [ab_set_set]
                  refine aw_goto (tgt := 137) d_M_clause_126 (by decide) ?_
                  have e3 : ok3 n (sg g len (a2 g len a)) (sg g len (a3 g len a)) = false := by rw [k3]; exact decide_eq_false (fun z => s3 ⟨z.1, by omega⟩)
                  refine aw_istore (L' := [some (.ref 56), some (.int (nI ((sg g len (a1 g len a)) - 97))), some (.int (nI 61)), some (.int (nI 1)), some (.int (nI 0)), none, none]) d_M_clause_137 ⟨by decide, rfl⟩ rfl ?_
                  refine aw_iload_n d_M_clause_139 rfl ?_
                  refine aw_if_eq (tgt := 150) d_M_clause_140 (by decide) (fun c140 => ?_) (fun c140 => ?_)
                  · first | exact absurd c140 (by decide) | exact absurd (by decide) c140
                  · refine aw_iconst (v := nI 1) d_M_clause_143 (by decide) ?_
                    refine aw_iload d_M_clause_144 rfl ?_
                    refine aw_ishl d_M_clause_146 ?_
                    refine aw_goto (tgt := 151) d_M_clause_147 (by decide) ?_
                    rw [show nI 1 <<< (nI 0 &&& 31) = nI 1 by decide]
                    refine aw_istore (L' := [some (.ref 56), some (.int (nI ((sg g len (a1 g len a)) - 97))), some (.int (nI 61)), some (.int (nI 1)), some (.int (nI 0)), some (.int (nI 1)), none]) d_M_clause_151 ⟨by decide, rfl⟩ rfl ?_
                    refine aw_iconst (v := nI 0) d_M_clause_153 (by decide) ?_
                    refine aw_istore (L' := [some (.ref 56), some (.int (nI ((sg g len (a1 g len a)) - 97))), some (.int (nI 61)), some (.int (nI 1)), some (.int (nI 0)), some (.int (nI 1)), some (.int (nI 0))]) d_M_clause_154 ⟨by decide, rfl⟩ rfl ?_
                    refine aw_iload d_M_clause_156 rfl ?_
                    refine aw_aload_n d_M_clause_158 rfl ?_
                    refine aw_get (k := 0) d_M_clause_159 cl_Model k_M_118 (by decide) rfl rfl ?_
                    refine aw_icmp_ge (tgt := 195) d_M_clause_162 (by decide) (fun c162 => ?_) (fun c162 => ?_)
                    · refine aw_aload_n d_M_clause_195 rfl ?_
                      refine aw_get (k := 31) d_M_clause_196 cl_Model k_M_281 (by decide) rfl rfl ?_
                      refine aw_if_ne (tgt := 232) d_M_clause_199 (by decide) (fun c199 => ?_) (fun c199 => ?_)
                      · refine aw_return d_M_clause_232 rfl ?_
                        rw [cls_3 s1b o2 e3]
                        exact ⟨rfl, rfl, gr, (ab_set_eq (h := ab_set h 56 _) (a := 77) hr).symm, er⟩
                      · first | exact absurd c199 (by decide) | exact absurd (by decide) c199
                    · refine aw_iload_n d_M_clause_165 rfl ?_
                      refine aw_if_ne (tgt := 195) d_M_clause_166 (by decide) (fun c166 => ?_) (fun c166 => ?_)
                      · refine aw_aload_n d_M_clause_195 rfl ?_
                        refine aw_get (k := 31) d_M_clause_196 cl_Model k_M_281 (by decide) rfl rfl ?_
                        refine aw_if_ne (tgt := 232) d_M_clause_199 (by decide) (fun c199 => ?_) (fun c199 => ?_)
                        · refine aw_return d_M_clause_232 rfl ?_
                          rw [cls_3 s1b o2 e3]
                          exact ⟨rfl, rfl, gr, (ab_set_eq (h := ab_set h 56 _) (a := 77) hr).symm, er⟩
                        · first | exact absurd c199 (by decide) | exact absurd (by decide) c199
                      · first | exact absurd c166 (by decide) | exact absurd (by decide) c166
            · first | exact absurd c102 (by decide) | exact absurd (by decide) c102
          · first | exact absurd c83 (by decide) | exact absurd (by decide) c83
        · first | exact absurd c68 (by decide) | exact absurd (by decide) c68
      · refine aw_iload_n d_M_clause_33 rfl ?_
        refine aw_bipush (v := nI 33) d_M_clause_34 (by decide) ?_
        refine aw_icmp_eq (tgt := 55) d_M_clause_36 (by decide) (fun c36 => ?_) (fun c36 => ?_)
        · have s2 : (sg g len (a2 g len a)) = 33 := (nI_eq (by omega) (by decide)).mp c36
          have o2 : opc (sg g len (a2 g len a)) = true := by rw [s2]; rfl
          have l2 : a2 g len a < len := sg_lt (b := 1) (by decide) (by rw [s2]; decide)
          have h3l : a3 g len a ≤ len := (lk_le (show a2 g len a + 1 ≤ len by omega)).2
          have k3 : ok3 n (sg g len (a2 g len a)) (sg g len (a3 g len a)) = decide (97 ≤ (sg g len (a3 g len a)) ∧ (sg g len (a3 g len a)) < 97 + n) := by rw [s2]; rfl
          rw [show nI (sg g len (a2 g len a)) = nI 33 by rw [s2]]
          refine aw_iconst (v := nI 0) d_M_clause_55 (by decide) ?_
          refine aw_put (k := 31) (fs' := [.int (nI n), .ref 57, .ref 58, .ref 59, .ref 60, .ref 61, .ref 62, .ref 63, .int (nI ns), .ref 64, .ref 65, .int (nI ra), .int (nI se), .int me, .int mi, .ref 66, .ref 67, .int tab, .ref 68, .ref 69, .ref 70, .ref 71, .ref 72, .ref 73, .ref 74, .int ve, .int la, .ref 75, .ref 76, .int (nI len), .int (nI (a2 g len a)), .int (nI 0), .ref 77, .ref 78, .int (nI fe), .ref 79, .ref 80, .ref 81, .ref 82, .ref 83, .ref 84, .int (ab_bl kp), .ref 85, .ref 86, .ref 87, .ref 88]) d_M_clause_56 cl_Model k_M_281 (by decide) rfl ⟨by decide, by decide⟩ rfl (Nat.le_of_ble_eq_true rfl) rfl ?_
          rw [ab_set_set]
          refine aw_aload_n d_M_clause_59 rfl ?_
          refine aw_dup d_M_clause_60 rfl ?_
          refine aw_get (k := 30) d_M_clause_61 cl_Model k_M_278 (by decide) rfl rfl ?_
          refine aw_aload_n d_M_clause_64 rfl ?_
          refine aw_get (k := 31) d_M_clause_65 cl_Model k_M_281 (by decide) rfl rfl ?_
          refine aw_if_eq (tgt := 75) d_M_clause_68 (by decide) (fun c68 => ?_) (fun c68 => ?_)
          · refine aw_iconst (v := nI 1) d_M_clause_75 (by decide) ?_
            refine aw_iadd d_M_clause_76 ?_
            rw [nI_add]
            refine aw_put (k := 30) (fs' := [.int (nI n), .ref 57, .ref 58, .ref 59, .ref 60, .ref 61, .ref 62, .ref 63, .int (nI ns), .ref 64, .ref 65, .int (nI ra), .int (nI se), .int me, .int mi, .ref 66, .ref 67, .int tab, .ref 68, .ref 69, .ref 70, .ref 71, .ref 72, .ref 73, .ref 74, .int ve, .int la, .ref 75, .ref 76, .int (nI len), .int (nI (a2 g len a + 1)), .int (nI 0), .ref 77, .ref 78, .int (nI fe), .ref 79, .ref 80, .ref 81, .ref 82, .ref 83, .ref 84, .int (ab_bl kp), .ref 85, .ref 86, .ref 87, .ref 88]) d_M_clause_77 cl_Model k_M_278 (by decide) rfl ⟨rfl, rfl⟩ rfl (Nat.le_of_ble_eq_true rfl) rfl ?_
            rw [ab_set_set]
            refine aw_iload_n d_M_clause_80 rfl ?_
            refine aw_bipush (v := nI 61) d_M_clause_81 (by decide) ?_
            refine aw_icmp_eq (tgt := 92) d_M_clause_83 (by decide) (fun c83 => ?_) (fun c83 => ?_)
            · first | exact absurd c83 (by decide) | exact absurd (by decide) c83
            · refine aw_iload_n d_M_clause_86 rfl ?_
              refine aw_bipush (v := nI 33) d_M_clause_87 (by decide) ?_
              refine aw_icmp_ne (tgt := 96) d_M_clause_89 (by decide) (fun c89 => ?_) (fun c89 => ?_)
              · first | exact absurd c89 (by decide) | exact absurd (by decide) c89
              · refine aw_iconst (v := nI 1) d_M_clause_92 (by decide) ?_
                refine aw_goto (tgt := 97) d_M_clause_93 (by decide) ?_
                refine aw_istore_n (L' := [some (.ref 56), some (.int (nI ((sg g len (a1 g len a)) - 97))), some (.int (nI 33)), some (.int (nI 1)), none, none, none]) d_M_clause_97 ⟨by decide, rfl⟩ rfl ?_
                refine aw_aload_n d_M_clause_98 rfl ?_
                refine aw_get (k := 31) d_M_clause_99 cl_Model k_M_281 (by decide) rfl rfl ?_
                refine aw_if_eq (tgt := 109) d_M_clause_102 (by decide) (fun c102 => ?_) (fun c102 => ?_)
                · refine aw_iload_n d_M_clause_109 rfl ?_
                  refine aw_if_eq (tgt := 129) d_M_clause_110 (by decide) (fun c110 => ?_) (fun c110 => ?_)
                  · first | exact absurd c110 (by decide) | exact absurd (by decide) c110
                  · refine aw_aload_n d_M_clause_113 rfl ?_
                    refine aw_bipush (v := nI 97) d_M_clause_114 (by decide) ?_
                    refine aw_bipush (v := nI 96) d_M_clause_116 (by decide) ?_
                    refine aw_aload_n d_M_clause_118 rfl ?_
                    refine aw_get (k := 0) d_M_clause_119 cl_Model k_M_118 (by decide) rfl rfl ?_
                    refine aw_iadd d_M_clause_122 ?_
                    rw [nI_add]
                    by_cases s3 : 97 ≤ (sg g len (a3 g len a)) ∧ (sg g len (a3 g len a)) ≤ 96 + n
                    · refine aw_v0i (a := 56) d_M_clause_123 k_M_288 ok_M_one rfl ⟨rfl, rfl⟩ cl_Model rfl (c_one_y (h := ab_set h 56 (oM n ns ra se me mi tab ve la len (nI (a2 g len a + 1)) (nI 0) fe kp)) (a := a2 g len a + 1) rfl hG hl ag hg (by omega) (lo := 97) (hi := 96 + n) (by decide) (by omega) (by decide) s3) rfl rfl (Nat.le_of_ble_eq_true rfl) ?_
                      rw [ab_set_set]
                      refine aw_goto (tgt := 137) d_M_clause_126 (by decide) ?_
                      have e3 : ok3 n (sg g len (a2 g len a)) (sg g len (a3 g len a)) = true := by rw [k3]; exact decide_eq_true ⟨s3.1, by omega⟩
                      have l3 : a3 g len a < len := sg_lt (by decide) s3.1
                      have hct : 2 ^ ((sg g len (a3 g len a)) - 97) < 64 := p6_lt (by omega)
                      refine aw_istore (L' := [some (.ref 56), some (.int (nI ((sg g len (a1 g len a)) - 97))), some (.int (nI 33)), some (.int (nI 1)), some (.int (nI ((sg g len (a3 g len a)) - 97))), none, none]) d_M_clause_137 ⟨by decide, rfl⟩ rfl ?_
                      refine aw_iload_n d_M_clause_139 rfl ?_
                      refine aw_if_eq (tgt := 150) d_M_clause_140 (by decide) (fun c140 => ?_) (fun c140 => ?_)
                      · first | exact absurd c140 (by decide) | exact absurd (by decide) c140
                      · refine aw_iconst (v := nI 1) d_M_clause_143 (by decide) ?_
                        refine aw_iload d_M_clause_144 rfl ?_
                        refine aw_ishl d_M_clause_146 ?_
                        refine aw_goto (tgt := 151) d_M_clause_147 (by decide) ?_
                        rw [b_one (by omega)]
                        refine aw_istore (L' := [some (.ref 56), some (.int (nI ((sg g len (a1 g len a)) - 97))), some (.int (nI 33)), some (.int (nI 1)), some (.int (nI ((sg g len (a3 g len a)) - 97))), some (.int (nI (2 ^ ((sg g len (a3 g len a)) - 97)))), none]) d_M_clause_151 ⟨by decide, rfl⟩ rfl ?_
                        refine aw_iconst (v := nI 0) d_M_clause_153 (by decide) ?_
                        refine aw_istore (L' := [some (.ref 56), some (.int (nI ((sg g len (a1 g len a)) - 97))), some (.int (nI 33)), some (.int (nI 1)), some (.int (nI ((sg g len (a3 g len a)) - 97))), some (.int (nI (2 ^ ((sg g len (a3 g len a)) - 97)))), some (.int (nI 0))]) d_M_clause_154 ⟨by decide, rfl⟩ rfl ?_
                        refine aw_iload d_M_clause_156 rfl ?_
                        refine aw_aload_n d_M_clause_158 rfl ?_
                        refine aw_get (k := 0) d_M_clause_159 cl_Model k_M_118 (by decide) rfl rfl ?_
                        refine aw_icmp_ge (tgt := 195) d_M_clause_162 (by decide) (fun c162 => ?_) (fun c162 => ?_)
                        · refine aw_aload_n d_M_clause_195 rfl ?_
                          refine aw_get (k := 31) d_M_clause_196 cl_Model k_M_281 (by decide) rfl rfl ?_
                          refine aw_if_ne (tgt := 232) d_M_clause_199 (by decide) (fun c199 => ?_) (fun c199 => ?_)
                          · first | exact absurd c199 (by decide) | exact absurd (by decide) c199
                          · refine aw_aload_n d_M_clause_202 rfl ?_
                            refine aw_get (k := 32) d_M_clause_203 cl_Model k_M_82 (by decide) rfl rfl ?_
                            refine aw_iload_n d_M_clause_206 rfl ?_
                            refine aw_dup2 d_M_clause_207 rfl rfl ?_
                            refine aw_ialoadN d_M_clause_208 hr (by omega) (by decide) ?_
                            refine aw_iload_n d_M_clause_209 rfl ?_
                            refine aw_bipush (v := nI 61) d_M_clause_210 (by decide) ?_
                            refine aw_icmp_eq (tgt := 221) d_M_clause_212 (by decide) (fun c212 => ?_) (fun c212 => ?_)
                            · first | exact absurd c212 (by decide) | exact absurd (by decide) c212
                            · refine aw_iload_n d_M_clause_215 rfl ?_
                              refine aw_bipush (v := nI 43) d_M_clause_216 (by decide) ?_
                              refine aw_icmp_ne (tgt := 226) d_M_clause_218 (by decide) (fun c218 => ?_) (fun c218 => ?_)
                              · refine aw_iload d_M_clause_226 rfl ?_
                                refine aw_iconst (v := (-1)) d_M_clause_228 (by decide) ?_
                                refine aw_ixor d_M_clause_229 ?_
                                refine aw_iand d_M_clause_230 ?_
                                rw [er _ (by omega)]
                                refine aw_is (y := nI (d ((sg g len (a1 g len a)) - 97) &&& (63 ^^^ (2 ^ ((sg g len (a3 g len a)) - 97))))) ?_ ?_
                                · exact b_andn _ (two_le6 hn (bd _ (by omega))) _ hct
                                refine aw_iastoreN d_M_clause_231 hr (by omega) (by decide) ?_
                                refine aw_return d_M_clause_232 rfl ?_
                                rw [cls_4 s1b o2 e3]
                                refine ⟨rfl, rfl, _, rfl, fun k hk => ?_⟩
                                rw [s2]
                                show upd gr _ _ k = nI (ud d ((sg g len (a1 g len a)) - 97) (d ((sg g len (a1 g len a)) - 97) &&& (63 ^^^ (2 ^ ((sg g len (a3 g len a)) - 97)))) k)
                                by_cases q : k = (sg g len (a1 g len a)) - 97
                                · subst q; rw [pk_us, ud_s]
                                · rw [pk_un q, ud_n q]; exact er k hk
                              · first | exact absurd c218 (by decide) | exact absurd (by decide) c218
                        · refine aw_iload_n d_M_clause_165 rfl ?_
                          refine aw_if_ne (tgt := 195) d_M_clause_166 (by decide) (fun c166 => ?_) (fun c166 => ?_)
                          · refine aw_aload_n d_M_clause_195 rfl ?_
                            refine aw_get (k := 31) d_M_clause_196 cl_Model k_M_281 (by decide) rfl rfl ?_
                            refine aw_if_ne (tgt := 232) d_M_clause_199 (by decide) (fun c199 => ?_) (fun c199 => ?_)
                            · first | exact absurd c199 (by decide) | exact absurd (by decide) c199
                            · refine aw_aload_n d_M_clause_202 rfl ?_
                              refine aw_get (k := 32) d_M_clause_203 cl_Model k_M_82 (by decide) rfl rfl ?_
                              refine aw_iload_n d_M_clause_206 rfl ?_
                              refine aw_dup2 d_M_clause_207 rfl rfl ?_
                              refine aw_ialoadN d_M_clause_208 hr (by omega) (by decide) ?_
                              refine aw_iload_n d_M_clause_209 rfl ?_
                              refine aw_bipush (v := nI 61) d_M_clause_210 (by decide) ?_
                              refine aw_icmp_eq (tgt := 221) d_M_clause_212 (by decide) (fun c212 => ?_) (fun c212 => ?_)
                              · first | exact absurd c212 (by decide) | exact absurd (by decide) c212
                              · refine aw_iload_n d_M_clause_215 rfl ?_
                                refine aw_bipush (v := nI 43) d_M_clause_216 (by decide) ?_
                                refine aw_icmp_ne (tgt := 226) d_M_clause_218 (by decide) (fun c218 => ?_) (fun c218 => ?_)
                                · refine aw_iload d_M_clause_226 rfl ?_
                                  refine aw_iconst (v := (-1)) d_M_clause_228 (by decide) ?_
                                  refine aw_ixor d_M_clause_229 ?_
                                  refine aw_iand d_M_clause_230 ?_
                                  rw [er _ (by omega)]
                                  refine aw_is (y := nI (d ((sg g len (a1 g len a)) - 97) &&& (63 ^^^ (2 ^ ((sg g len (a3 g len a)) - 97))))) ?_ ?_
                                  · exact b_andn _ (two_le6 hn (bd _ (by omega))) _ hct
                                  refine aw_iastoreN d_M_clause_231 hr (by omega) (by decide) ?_
                                  refine aw_return d_M_clause_232 rfl ?_
                                  rw [cls_4 s1b o2 e3]
                                  refine ⟨rfl, rfl, _, rfl, fun k hk => ?_⟩
                                  rw [s2]
                                  show upd gr _ _ k = nI (ud d ((sg g len (a1 g len a)) - 97) (d ((sg g len (a1 g len a)) - 97) &&& (63 ^^^ (2 ^ ((sg g len (a3 g len a)) - 97)))) k)
                                  by_cases q : k = (sg g len (a1 g len a)) - 97
                                  · subst q; rw [pk_us, ud_s]
                                  · rw [pk_un q, ud_n q]; exact er k hk
                                · first | exact absurd c218 (by decide) | exact absurd (by decide) c218
                          · first | exact absurd c166 (by decide) | exact absurd (by decide) c166
                    · refine aw_v0i (a := 56) d_M_clause_123 k_M_288 ok_M_one rfl ⟨rfl, rfl⟩ cl_Model rfl (c_one_n (h := ab_set h 56 (oM n ns ra se me mi tab ve la len (nI (a2 g len a + 1)) (nI 0) fe kp)) (a := a2 g len a + 1) rfl hG hl ag hg (by omega) (lo := 97) (hi := 96 + n) (by decide) (by omega) (by decide) s3) rfl rfl (Nat.le_of_ble_eq_true rfl) ?_
                      rw [ab_set_set]
                      refine aw_goto (tgt := 137) d_M_clause_126 (by decide) ?_
                      have e3 : ok3 n (sg g len (a2 g len a)) (sg g len (a3 g len a)) = false := by rw [k3]; exact decide_eq_false (fun z => s3 ⟨z.1, by omega⟩)
                      refine aw_istore (L' := [some (.ref 56), some (.int (nI ((sg g len (a1 g len a)) - 97))), some (.int (nI 33)), some (.int (nI 1)), some (.int (nI 0)), none, none]) d_M_clause_137 ⟨by decide, rfl⟩ rfl ?_
                      refine aw_iload_n d_M_clause_139 rfl ?_
                      refine aw_if_eq (tgt := 150) d_M_clause_140 (by decide) (fun c140 => ?_) (fun c140 => ?_)
                      · first | exact absurd c140 (by decide) | exact absurd (by decide) c140
                      · refine aw_iconst (v := nI 1) d_M_clause_143 (by decide) ?_
                        refine aw_iload d_M_clause_144 rfl ?_
                        refine aw_ishl d_M_clause_146 ?_
                        refine aw_goto (tgt := 151) d_M_clause_147 (by decide) ?_
                        rw [show nI 1 <<< (nI 0 &&& 31) = nI 1 by decide]
                        refine aw_istore (L' := [some (.ref 56), some (.int (nI ((sg g len (a1 g len a)) - 97))), some (.int (nI 33)), some (.int (nI 1)), some (.int (nI 0)), some (.int (nI 1)), none]) d_M_clause_151 ⟨by decide, rfl⟩ rfl ?_
                        refine aw_iconst (v := nI 0) d_M_clause_153 (by decide) ?_
                        refine aw_istore (L' := [some (.ref 56), some (.int (nI ((sg g len (a1 g len a)) - 97))), some (.int (nI 33)), some (.int (nI 1)), some (.int (nI 0)), some (.int (nI 1)), some (.int (nI 0))]) d_M_clause_154 ⟨by decide, rfl⟩ rfl ?_
                        refine aw_iload d_M_clause_156 rfl ?_
                        refine aw_aload_n d_M_clause_158 rfl ?_
                        refine aw_get (k := 0) d_M_clause_159 cl_Model k_M_118 (by decide) rfl rfl ?_
                        refine aw_icmp_ge (tgt := 195) d_M_clause_162 (by decide) (fun c162 => ?_) (fun c162 => ?_)
                        · refine aw_aload_n d_M_clause_195 rfl ?_
                          refine aw_get (k := 31) d_M_clause_196 cl_Model k_M_281 (by decide) rfl rfl ?_
                          refine aw_if_ne (tgt := 232) d_M_clause_199 (by decide) (fun c199 => ?_) (fun c199 => ?_)
                          · refine aw_return d_M_clause_232 rfl ?_
                            rw [cls_3 s1b o2 e3]
                            exact ⟨rfl, rfl, gr, (ab_set_eq (h := ab_set h 56 _) (a := 77) hr).symm, er⟩
                          · first | exact absurd c199 (by decide) | exact absurd (by decide) c199
                        · refine aw_iload_n d_M_clause_165 rfl ?_
                          refine aw_if_ne (tgt := 195) d_M_clause_166 (by decide) (fun c166 => ?_) (fun c166 => ?_)
                          · refine aw_aload_n d_M_clause_195 rfl ?_
                            refine aw_get (k := 31) d_M_clause_196 cl_Model k_M_281 (by decide) rfl rfl ?_
                            refine aw_if_ne (tgt := 232) d_M_clause_199 (by decide) (fun c199 => ?_) (fun c199 => ?_)
                            · refine aw_return d_M_clause_232 rfl ?_
                              rw [cls_3 s1b o2 e3]
                              exact ⟨rfl, rfl, gr, (ab_set_eq (h := ab_set h 56 _) (a := 77) hr).symm, er⟩
                            · first | exact absurd c199 (by decide) | exact absurd (by decide) c199
                          · first | exact absurd c166 (by decide) | exact absurd (by decide) c166
                · first | exact absurd c102 (by decide) | exact absurd (by decide) c102
          · first | exact absurd c68 (by decide) | exact absurd (by decide) c68
        · refine aw_iload_n d_M_clause_39 rfl ?_
          refine aw_bipush (v := nI 43) d_M_clause_40 (by decide) ?_
          refine aw_icmp_eq (tgt := 55) d_M_clause_42 (by decide) (fun c42 => ?_) (fun c42 => ?_)
          · have s2 : (sg g len (a2 g len a)) = 43 := (nI_eq (by omega) (by decide)).mp c42
            have o2 : opc (sg g len (a2 g len a)) = true := by rw [s2]; rfl
            have l2 : a2 g len a < len := sg_lt (b := 1) (by decide) (by rw [s2]; decide)
            have h3l : a3 g len a ≤ len := (lk_le (show a2 g len a + 1 ≤ len by omega)).2
            have k3 : ok3 n (sg g len (a2 g len a)) (sg g len (a3 g len a)) = decide (49 ≤ (sg g len (a3 g len a)) ∧ (sg g len (a3 g len a)) < 49 + 6) := by rw [s2]; rfl
            rw [show nI (sg g len (a2 g len a)) = nI 43 by rw [s2]]
            refine aw_iconst (v := nI 0) d_M_clause_55 (by decide) ?_
            refine aw_put (k := 31) (fs' := [.int (nI n), .ref 57, .ref 58, .ref 59, .ref 60, .ref 61, .ref 62, .ref 63, .int (nI ns), .ref 64, .ref 65, .int (nI ra), .int (nI se), .int me, .int mi, .ref 66, .ref 67, .int tab, .ref 68, .ref 69, .ref 70, .ref 71, .ref 72, .ref 73, .ref 74, .int ve, .int la, .ref 75, .ref 76, .int (nI len), .int (nI (a2 g len a)), .int (nI 0), .ref 77, .ref 78, .int (nI fe), .ref 79, .ref 80, .ref 81, .ref 82, .ref 83, .ref 84, .int (ab_bl kp), .ref 85, .ref 86, .ref 87, .ref 88]) d_M_clause_56 cl_Model k_M_281 (by decide) rfl ⟨by decide, by decide⟩ rfl (Nat.le_of_ble_eq_true rfl) rfl ?_
            rw [ab_set_set]
            refine aw_aload_n d_M_clause_59 rfl ?_
            refine aw_dup d_M_clause_60 rfl ?_
            refine aw_get (k := 30) d_M_clause_61 cl_Model k_M_278 (by decide) rfl rfl ?_
            refine aw_aload_n d_M_clause_64 rfl ?_
            refine aw_get (k := 31) d_M_clause_65 cl_Model k_M_281 (by decide) rfl rfl ?_
            refine aw_if_eq (tgt := 75) d_M_clause_68 (by decide) (fun c68 => ?_) (fun c68 => ?_)
            · refine aw_iconst (v := nI 1) d_M_clause_75 (by decide) ?_
              refine aw_iadd d_M_clause_76 ?_
              rw [nI_add]
              refine aw_put (k := 30) (fs' := [.int (nI n), .ref 57, .ref 58, .ref 59, .ref 60, .ref 61, .ref 62, .ref 63, .int (nI ns), .ref 64, .ref 65, .int (nI ra), .int (nI se), .int me, .int mi, .ref 66, .ref 67, .int tab, .ref 68, .ref 69, .ref 70, .ref 71, .ref 72, .ref 73, .ref 74, .int ve, .int la, .ref 75, .ref 76, .int (nI len), .int (nI (a2 g len a + 1)), .int (nI 0), .ref 77, .ref 78, .int (nI fe), .ref 79, .ref 80, .ref 81, .ref 82, .ref 83, .ref 84, .int (ab_bl kp), .ref 85, .ref 86, .ref 87, .ref 88]) d_M_clause_77 cl_Model k_M_278 (by decide) rfl ⟨rfl, rfl⟩ rfl (Nat.le_of_ble_eq_true rfl) rfl ?_
              rw [ab_set_set]
              refine aw_iload_n d_M_clause_80 rfl ?_
              refine aw_bipush (v := nI 61) d_M_clause_81 (by decide) ?_
              refine aw_icmp_eq (tgt := 92) d_M_clause_83 (by decide) (fun c83 => ?_) (fun c83 => ?_)
              · first | exact absurd c83 (by decide) | exact absurd (by decide) c83
              · refine aw_iload_n d_M_clause_86 rfl ?_
                refine aw_bipush (v := nI 33) d_M_clause_87 (by decide) ?_
                refine aw_icmp_ne (tgt := 96) d_M_clause_89 (by decide) (fun c89 => ?_) (fun c89 => ?_)
                · refine aw_iconst (v := nI 0) d_M_clause_96 (by decide) ?_
                  refine aw_istore_n (L' := [some (.ref 56), some (.int (nI ((sg g len (a1 g len a)) - 97))), some (.int (nI 43)), some (.int (nI 0)), none, none, none]) d_M_clause_97 ⟨by decide, rfl⟩ rfl ?_
                  refine aw_aload_n d_M_clause_98 rfl ?_
                  refine aw_get (k := 31) d_M_clause_99 cl_Model k_M_281 (by decide) rfl rfl ?_
                  refine aw_if_eq (tgt := 109) d_M_clause_102 (by decide) (fun c102 => ?_) (fun c102 => ?_)
                  · refine aw_iload_n d_M_clause_109 rfl ?_
                    refine aw_if_eq (tgt := 129) d_M_clause_110 (by decide) (fun c110 => ?_) (fun c110 => ?_)
                    · refine aw_aload_n d_M_clause_129 rfl ?_
                      refine aw_bipush (v := nI 49) d_M_clause_130 (by decide) ?_
                      refine aw_bipush (v := nI 54) d_M_clause_132 (by decide) ?_
                      by_cases s3 : 49 ≤ (sg g len (a3 g len a)) ∧ (sg g len (a3 g len a)) ≤ 54
                      · refine aw_v0i (a := 56) d_M_clause_134 k_M_288 ok_M_one rfl ⟨rfl, rfl⟩ cl_Model rfl (c_one_y (h := ab_set h 56 (oM n ns ra se me mi tab ve la len (nI (a2 g len a + 1)) (nI 0) fe kp)) (a := a2 g len a + 1) rfl hG hl ag hg (by omega) (lo := 49) (hi := 54) (by decide) (by omega) (by decide) s3) rfl rfl (Nat.le_of_ble_eq_true rfl) ?_
                        rw [ab_set_set]
                        have e3 : ok3 n (sg g len (a2 g len a)) (sg g len (a3 g len a)) = true := by rw [k3]; exact decide_eq_true ⟨s3.1, by omega⟩
                        have l3 : a3 g len a < len := sg_lt (by decide) s3.1
                        have hct : mkb mk ((sg g len (a3 g len a)) - 49) n < 64 := two_le6 hn (mkb_lt _ _ _)
                        refine aw_istore (L' := [some (.ref 56), some (.int (nI ((sg g len (a1 g len a)) - 97))), some (.int (nI 43)), some (.int (nI 0)), some (.int (nI ((sg g len (a3 g len a)) - 49))), none, none]) d_M_clause_137 ⟨by decide, rfl⟩ rfl ?_
                        refine aw_iload_n d_M_clause_139 rfl ?_
                        refine aw_if_eq (tgt := 150) d_M_clause_140 (by decide) (fun c140 => ?_) (fun c140 => ?_)
                        · refine aw_iconst (v := nI 0) d_M_clause_150 (by decide) ?_
                          refine aw_istore (L' := [some (.ref 56), some (.int (nI ((sg g len (a1 g len a)) - 97))), some (.int (nI 43)), some (.int (nI 0)), some (.int (nI ((sg g len (a3 g len a)) - 49))), some (.int (nI 0)), none]) d_M_clause_151 ⟨by decide, rfl⟩ rfl ?_
                          refine aw_iconst (v := nI 0) d_M_clause_153 (by decide) ?_
                          refine aw_istore (L' := [some (.ref 56), some (.int (nI ((sg g len (a1 g len a)) - 97))), some (.int (nI 43)), some (.int (nI 0)), some (.int (nI ((sg g len (a3 g len a)) - 49))), some (.int (nI 0)), some (.int (nI 0))]) d_M_clause_154 ⟨by decide, rfl⟩ rfl ?_
                          refine cl_loop (h := ab_set h 56 (oM n ns ra se me mi tab ve la len (nI (a3 g len a + 1)) (nI 0) fe kp)) (v := ((sg g len (a3 g len a)) - 49)) rfl hn hm am bm (by omega) l ?_ n 0 (by omega)
                          refine aw_aload_n d_M_clause_195 rfl ?_
                          refine aw_get (k := 31) d_M_clause_196 cl_Model k_M_281 (by decide) rfl rfl ?_
                          refine aw_if_ne (tgt := 232) d_M_clause_199 (by decide) (fun c199 => ?_) (fun c199 => ?_)
                          · first | exact absurd c199 (by decide) | exact absurd (by decide) c199
                          · refine aw_aload_n d_M_clause_202 rfl ?_
                            refine aw_get (k := 32) d_M_clause_203 cl_Model k_M_82 (by decide) rfl rfl ?_
                            refine aw_iload_n d_M_clause_206 rfl ?_
                            refine aw_dup2 d_M_clause_207 rfl rfl ?_
                            refine aw_ialoadN d_M_clause_208 hr (by omega) (by decide) ?_
                            refine aw_iload_n d_M_clause_209 rfl ?_
                            refine aw_bipush (v := nI 61) d_M_clause_210 (by decide) ?_
                            refine aw_icmp_eq (tgt := 221) d_M_clause_212 (by decide) (fun c212 => ?_) (fun c212 => ?_)
                            · first | exact absurd c212 (by decide) | exact absurd (by decide) c212
                            · refine aw_iload_n d_M_clause_215 rfl ?_
                              refine aw_bipush (v := nI 43) d_M_clause_216 (by decide) ?_
                              refine aw_icmp_ne (tgt := 226) d_M_clause_218 (by decide) (fun c218 => ?_) (fun c218 => ?_)
                              · first | exact absurd c218 (by decide) | exact absurd (by decide) c218
                              · refine aw_iload d_M_clause_221 rfl ?_
                                refine aw_goto (tgt := 230) d_M_clause_223 (by decide) ?_
                                refine aw_iand d_M_clause_230 ?_
                                rw [er _ (by omega)]
                                refine aw_is (y := nI (d ((sg g len (a1 g len a)) - 97) &&& (mkb mk ((sg g len (a3 g len a)) - 49) n))) ?_ ?_
                                · exact fa_and _ _
                                refine aw_iastoreN d_M_clause_231 hr (by omega) (by decide) ?_
                                refine aw_return d_M_clause_232 rfl ?_
                                rw [cls_4 s1b o2 e3]
                                refine ⟨rfl, rfl, _, rfl, fun k hk => ?_⟩
                                rw [s2]
                                show upd gr _ _ k = nI (ud d ((sg g len (a1 g len a)) - 97) (d ((sg g len (a1 g len a)) - 97) &&& (mkb mk ((sg g len (a3 g len a)) - 49) n)) k)
                                by_cases q : k = (sg g len (a1 g len a)) - 97
                                · subst q; rw [pk_us, ud_s]
                                · rw [pk_un q, ud_n q]; exact er k hk
                        · first | exact absurd c140 (by decide) | exact absurd (by decide) c140
                      · refine aw_v0i (a := 56) d_M_clause_134 k_M_288 ok_M_one rfl ⟨rfl, rfl⟩ cl_Model rfl (c_one_n (h := ab_set h 56 (oM n ns ra se me mi tab ve la len (nI (a2 g len a + 1)) (nI 0) fe kp)) (a := a2 g len a + 1) rfl hG hl ag hg (by omega) (lo := 49) (hi := 54) (by decide) (by omega) (by decide) s3) rfl rfl (Nat.le_of_ble_eq_true rfl) ?_
                        rw [ab_set_set]
                        have e3 : ok3 n (sg g len (a2 g len a)) (sg g len (a3 g len a)) = false := by rw [k3]; exact decide_eq_false (fun z => s3 ⟨z.1, by omega⟩)
                        refine aw_istore (L' := [some (.ref 56), some (.int (nI ((sg g len (a1 g len a)) - 97))), some (.int (nI 43)), some (.int (nI 0)), some (.int (nI 0)), none, none]) d_M_clause_137 ⟨by decide, rfl⟩ rfl ?_
                        refine aw_iload_n d_M_clause_139 rfl ?_
                        refine aw_if_eq (tgt := 150) d_M_clause_140 (by decide) (fun c140 => ?_) (fun c140 => ?_)
                        · refine aw_iconst (v := nI 0) d_M_clause_150 (by decide) ?_
                          refine aw_istore (L' := [some (.ref 56), some (.int (nI ((sg g len (a1 g len a)) - 97))), some (.int (nI 43)), some (.int (nI 0)), some (.int (nI 0)), some (.int (nI 0)), none]) d_M_clause_151 ⟨by decide, rfl⟩ rfl ?_
                          refine aw_iconst (v := nI 0) d_M_clause_153 (by decide) ?_
                          refine aw_istore (L' := [some (.ref 56), some (.int (nI ((sg g len (a1 g len a)) - 97))), some (.int (nI 43)), some (.int (nI 0)), some (.int (nI 0)), some (.int (nI 0)), some (.int (nI 0))]) d_M_clause_154 ⟨by decide, rfl⟩ rfl ?_
                          refine cl_loop (h := ab_set h 56 (oM n ns ra se me mi tab ve la len (nI (a3 g len a)) (nI 1) fe kp)) (v := 0) rfl hn hm am bm (by omega) l ?_ n 0 (by omega)
                          refine aw_aload_n d_M_clause_195 rfl ?_
                          refine aw_get (k := 31) d_M_clause_196 cl_Model k_M_281 (by decide) rfl rfl ?_
                          refine aw_if_ne (tgt := 232) d_M_clause_199 (by decide) (fun c199 => ?_) (fun c199 => ?_)
                          · refine aw_return d_M_clause_232 rfl ?_
                            rw [cls_3 s1b o2 e3]
                            exact ⟨rfl, rfl, gr, (ab_set_eq (h := ab_set h 56 _) (a := 77) hr).symm, er⟩
                          · first | exact absurd c199 (by decide) | exact absurd (by decide) c199
                        · first | exact absurd c140 (by decide) | exact absurd (by decide) c140
                    · first | exact absurd c110 (by decide) | exact absurd (by decide) c110
                  · first | exact absurd c102 (by decide) | exact absurd (by decide) c102
                · first | exact absurd c89 (by decide) | exact absurd (by decide) c89
            · first | exact absurd c68 (by decide) | exact absurd (by decide) c68
          · refine aw_iload_n d_M_clause_45 rfl ?_
            refine aw_bipush (v := nI 45) d_M_clause_46 (by decide) ?_
            refine aw_icmp_eq (tgt := 55) d_M_clause_48 (by decide) (fun c48 => ?_) (fun c48 => ?_)
            · have s2 : (sg g len (a2 g len a)) = 45 := (nI_eq (by omega) (by decide)).mp c48
              have o2 : opc (sg g len (a2 g len a)) = true := by rw [s2]; rfl
              have l2 : a2 g len a < len := sg_lt (b := 1) (by decide) (by rw [s2]; decide)
              have h3l : a3 g len a ≤ len := (lk_le (show a2 g len a + 1 ≤ len by omega)).2
              have k3 : ok3 n (sg g len (a2 g len a)) (sg g len (a3 g len a)) = decide (49 ≤ (sg g len (a3 g len a)) ∧ (sg g len (a3 g len a)) < 49 + 6) := by rw [s2]; rfl
              rw [show nI (sg g len (a2 g len a)) = nI 45 by rw [s2]]
              refine aw_iconst (v := nI 0) d_M_clause_55 (by decide) ?_
              refine aw_put (k := 31) (fs' := [.int (nI n), .ref 57, .ref 58, .ref 59, .ref 60, .ref 61, .ref 62, .ref 63, .int (nI ns), .ref 64, .ref 65, .int (nI ra), .int (nI se), .int me, .int mi, .ref 66, .ref 67, .int tab, .ref 68, .ref 69, .ref 70, .ref 71, .ref 72, .ref 73, .ref 74, .int ve, .int la, .ref 75, .ref 76, .int (nI len), .int (nI (a2 g len a)), .int (nI 0), .ref 77, .ref 78, .int (nI fe), .ref 79, .ref 80, .ref 81, .ref 82, .ref 83, .ref 84, .int (ab_bl kp), .ref 85, .ref 86, .ref 87, .ref 88]) d_M_clause_56 cl_Model k_M_281 (by decide) rfl ⟨by decide, by decide⟩ rfl (Nat.le_of_ble_eq_true rfl) rfl ?_
              rw [ab_set_set]
              refine aw_aload_n d_M_clause_59 rfl ?_
              refine aw_dup d_M_clause_60 rfl ?_
              refine aw_get (k := 30) d_M_clause_61 cl_Model k_M_278 (by decide) rfl rfl ?_
              refine aw_aload_n d_M_clause_64 rfl ?_
              refine aw_get (k := 31) d_M_clause_65 cl_Model k_M_281 (by decide) rfl rfl ?_
              refine aw_if_eq (tgt := 75) d_M_clause_68 (by decide) (fun c68 => ?_) (fun c68 => ?_)
              · refine aw_iconst (v := nI 1) d_M_clause_75 (by decide) ?_
                refine aw_iadd d_M_clause_76 ?_
                rw [nI_add]
                refine aw_put (k := 30) (fs' := [.int (nI n), .ref 57, .ref 58, .ref 59, .ref 60, .ref 61, .ref 62, .ref 63, .int (nI ns), .ref 64, .ref 65, .int (nI ra), .int (nI se), .int me, .int mi, .ref 66, .ref 67, .int tab, .ref 68, .ref 69, .ref 70, .ref 71, .ref 72, .ref 73, .ref 74, .int ve, .int la, .ref 75, .ref 76, .int (nI len), .int (nI (a2 g len a + 1)), .int (nI 0), .ref 77, .ref 78, .int (nI fe), .ref 79, .ref 80, .ref 81, .ref 82, .ref 83, .ref 84, .int (ab_bl kp), .ref 85, .ref 86, .ref 87, .ref 88]) d_M_clause_77 cl_Model k_M_278 (by decide) rfl ⟨rfl, rfl⟩ rfl (Nat.le_of_ble_eq_true rfl) rfl ?_
                rw [ab_set_set]
                refine aw_iload_n d_M_clause_80 rfl ?_
                refine aw_bipush (v := nI 61) d_M_clause_81 (by decide) ?_
                refine aw_icmp_eq (tgt := 92) d_M_clause_83 (by decide) (fun c83 => ?_) (fun c83 => ?_)
                · first | exact absurd c83 (by decide) | exact absurd (by decide) c83
                · refine aw_iload_n d_M_clause_86 rfl ?_
                  refine aw_bipush (v := nI 33) d_M_clause_87 (by decide) ?_
                  refine aw_icmp_ne (tgt := 96) d_M_clause_89 (by decide) (fun c89 => ?_) (fun c89 => ?_)
                  · refine aw_iconst (v := nI 0) d_M_clause_96 (by decide) ?_
                    refine aw_istore_n (L' := [some (.ref 56), some (.int (nI ((sg g len (a1 g len a)) - 97))), some (.int (nI 45)), some (.int (nI 0)), none, none, none]) d_M_clause_97 ⟨by decide, rfl⟩ rfl ?_
                    refine aw_aload_n d_M_clause_98 rfl ?_
                    refine aw_get (k := 31) d_M_clause_99 cl_Model k_M_281 (by decide) rfl rfl ?_
                    refine aw_if_eq (tgt := 109) d_M_clause_102 (by decide) (fun c102 => ?_) (fun c102 => ?_)
                    · refine aw_iload_n d_M_clause_109 rfl ?_
                      refine aw_if_eq (tgt := 129) d_M_clause_110 (by decide) (fun c110 => ?_) (fun c110 => ?_)
                      · refine aw_aload_n d_M_clause_129 rfl ?_
                        refine aw_bipush (v := nI 49) d_M_clause_130 (by decide) ?_
                        refine aw_bipush (v := nI 54) d_M_clause_132 (by decide) ?_
                        by_cases s3 : 49 ≤ (sg g len (a3 g len a)) ∧ (sg g len (a3 g len a)) ≤ 54
                        · refine aw_v0i (a := 56) d_M_clause_134 k_M_288 ok_M_one rfl ⟨rfl, rfl⟩ cl_Model rfl (c_one_y (h := ab_set h 56 (oM n ns ra se me mi tab ve la len (nI (a2 g len a + 1)) (nI 0) fe kp)) (a := a2 g len a + 1) rfl hG hl ag hg (by omega) (lo := 49) (hi := 54) (by decide) (by omega) (by decide) s3) rfl rfl (Nat.le_of_ble_eq_true rfl) ?_
                          rw [ab_set_set]
                          have e3 : ok3 n (sg g len (a2 g len a)) (sg g len (a3 g len a)) = true := by rw [k3]; exact decide_eq_true ⟨s3.1, by omega⟩
                          have l3 : a3 g len a < len := sg_lt (by decide) s3.1
                          have hct : mkb mk ((sg g len (a3 g len a)) - 49) n < 64 := two_le6 hn (mkb_lt _ _ _)
                          refine aw_istore (L' := [some (.ref 56), some (.int (nI ((sg g len (a1 g len a)) - 97))), some (.int (nI 45)), some (.int (nI 0)), some (.int (nI ((sg g len (a3 g len a)) - 49))), none, none]) d_M_clause_137 ⟨by decide, rfl⟩ rfl ?_
                          refine aw_iload_n d_M_clause_139 rfl ?_
                          refine aw_if_eq (tgt := 150) d_M_clause_140 (by decide) (fun c140 => ?_) (fun c140 => ?_)
                          · refine aw_iconst (v := nI 0) d_M_clause_150 (by decide) ?_
                            refine aw_istore (L' := [some (.ref 56), some (.int (nI ((sg g len (a1 g len a)) - 97))), some (.int (nI 45)), some (.int (nI 0)), some (.int (nI ((sg g len (a3 g len a)) - 49))), some (.int (nI 0)), none]) d_M_clause_151 ⟨by decide, rfl⟩ rfl ?_
                            refine aw_iconst (v := nI 0) d_M_clause_153 (by decide) ?_
                            refine aw_istore (L' := [some (.ref 56), some (.int (nI ((sg g len (a1 g len a)) - 97))), some (.int (nI 45)), some (.int (nI 0)), some (.int (nI ((sg g len (a3 g len a)) - 49))), some (.int (nI 0)), some (.int (nI 0))]) d_M_clause_154 ⟨by decide, rfl⟩ rfl ?_
                            refine cl_loop (h := ab_set h 56 (oM n ns ra se me mi tab ve la len (nI (a3 g len a + 1)) (nI 0) fe kp)) (v := ((sg g len (a3 g len a)) - 49)) rfl hn hm am bm (by omega) l ?_ n 0 (by omega)
                            refine aw_aload_n d_M_clause_195 rfl ?_
                            refine aw_get (k := 31) d_M_clause_196 cl_Model k_M_281 (by decide) rfl rfl ?_
                            refine aw_if_ne (tgt := 232) d_M_clause_199 (by decide) (fun c199 => ?_) (fun c199 => ?_)
                            · first | exact absurd c199 (by decide) | exact absurd (by decide) c199
                            · refine aw_aload_n d_M_clause_202 rfl ?_
                              refine aw_get (k := 32) d_M_clause_203 cl_Model k_M_82 (by decide) rfl rfl ?_
                              refine aw_iload_n d_M_clause_206 rfl ?_
                              refine aw_dup2 d_M_clause_207 rfl rfl ?_
                              refine aw_ialoadN d_M_clause_208 hr (by omega) (by decide) ?_
                              refine aw_iload_n d_M_clause_209 rfl ?_
                              refine aw_bipush (v := nI 61) d_M_clause_210 (by decide) ?_
                              refine aw_icmp_eq (tgt := 221) d_M_clause_212 (by decide) (fun c212 => ?_) (fun c212 => ?_)
                              · first | exact absurd c212 (by decide) | exact absurd (by decide) c212
                              · refine aw_iload_n d_M_clause_215 rfl ?_
                                refine aw_bipush (v := nI 43) d_M_clause_216 (by decide) ?_
                                refine aw_icmp_ne (tgt := 226) d_M_clause_218 (by decide) (fun c218 => ?_) (fun c218 => ?_)
                                · refine aw_iload d_M_clause_226 rfl ?_
                                  refine aw_iconst (v := (-1)) d_M_clause_228 (by decide) ?_
                                  refine aw_ixor d_M_clause_229 ?_
                                  refine aw_iand d_M_clause_230 ?_
                                  rw [er _ (by omega)]
                                  refine aw_is (y := nI (d ((sg g len (a1 g len a)) - 97) &&& (63 ^^^ (mkb mk ((sg g len (a3 g len a)) - 49) n)))) ?_ ?_
                                  · exact b_andn _ (two_le6 hn (bd _ (by omega))) _ hct
                                  refine aw_iastoreN d_M_clause_231 hr (by omega) (by decide) ?_
                                  refine aw_return d_M_clause_232 rfl ?_
                                  rw [cls_4 s1b o2 e3]
                                  refine ⟨rfl, rfl, _, rfl, fun k hk => ?_⟩
                                  rw [s2]
                                  show upd gr _ _ k = nI (ud d ((sg g len (a1 g len a)) - 97) (d ((sg g len (a1 g len a)) - 97) &&& (63 ^^^ (mkb mk ((sg g len (a3 g len a)) - 49) n))) k)
                                  by_cases q : k = (sg g len (a1 g len a)) - 97
                                  · subst q; rw [pk_us, ud_s]
                                  · rw [pk_un q, ud_n q]; exact er k hk
                                · first | exact absurd c218 (by decide) | exact absurd (by decide) c218
                          · first | exact absurd c140 (by decide) | exact absurd (by decide) c140
                        · refine aw_v0i (a := 56) d_M_clause_134 k_M_288 ok_M_one rfl ⟨rfl, rfl⟩ cl_Model rfl (c_one_n (h := ab_set h 56 (oM n ns ra se me mi tab ve la len (nI (a2 g len a + 1)) (nI 0) fe kp)) (a := a2 g len a + 1) rfl hG hl ag hg (by omega) (lo := 49) (hi := 54) (by decide) (by omega) (by decide) s3) rfl rfl (Nat.le_of_ble_eq_true rfl) ?_
                          rw [ab_set_set]
                          have e3 : ok3 n (sg g len (a2 g len a)) (sg g len (a3 g len a)) = false := by rw [k3]; exact decide_eq_false (fun z => s3 ⟨z.1, by omega⟩)
                          refine aw_istore (L' := [some (.ref 56), some (.int (nI ((sg g len (a1 g len a)) - 97))), some (.int (nI 45)), some (.int (nI 0)), some (.int (nI 0)), none, none]) d_M_clause_137 ⟨by decide, rfl⟩ rfl ?_
                          refine aw_iload_n d_M_clause_139 rfl ?_
                          refine aw_if_eq (tgt := 150) d_M_clause_140 (by decide) (fun c140 => ?_) (fun c140 => ?_)
                          · refine aw_iconst (v := nI 0) d_M_clause_150 (by decide) ?_
                            refine aw_istore (L' := [some (.ref 56), some (.int (nI ((sg g len (a1 g len a)) - 97))), some (.int (nI 45)), some (.int (nI 0)), some (.int (nI 0)), some (.int (nI 0)), none]) d_M_clause_151 ⟨by decide, rfl⟩ rfl ?_
                            refine aw_iconst (v := nI 0) d_M_clause_153 (by decide) ?_
                            refine aw_istore (L' := [some (.ref 56), some (.int (nI ((sg g len (a1 g len a)) - 97))), some (.int (nI 45)), some (.int (nI 0)), some (.int (nI 0)), some (.int (nI 0)), some (.int (nI 0))]) d_M_clause_154 ⟨by decide, rfl⟩ rfl ?_
                            refine cl_loop (h := ab_set h 56 (oM n ns ra se me mi tab ve la len (nI (a3 g len a)) (nI 1) fe kp)) (v := 0) rfl hn hm am bm (by omega) l ?_ n 0 (by omega)
                            refine aw_aload_n d_M_clause_195 rfl ?_
                            refine aw_get (k := 31) d_M_clause_196 cl_Model k_M_281 (by decide) rfl rfl ?_
                            refine aw_if_ne (tgt := 232) d_M_clause_199 (by decide) (fun c199 => ?_) (fun c199 => ?_)
                            · refine aw_return d_M_clause_232 rfl ?_
                              rw [cls_3 s1b o2 e3]
                              exact ⟨rfl, rfl, gr, (ab_set_eq (h := ab_set h 56 _) (a := 77) hr).symm, er⟩
                            · first | exact absurd c199 (by decide) | exact absurd (by decide) c199
                          · first | exact absurd c140 (by decide) | exact absurd (by decide) c140
                      · first | exact absurd c110 (by decide) | exact absurd (by decide) c110
                    · first | exact absurd c102 (by decide) | exact absurd (by decide) c102
                  · first | exact absurd c89 (by decide) | exact absurd (by decide) c89
              · first | exact absurd c68 (by decide) | exact absurd (by decide) c68
            · refine aw_iconst (v := nI 1) d_M_clause_51 (by decide) ?_
              refine aw_goto (tgt := 56) d_M_clause_52 (by decide) ?_
              refine aw_put (k := 31) (fs' := [.int (nI n), .ref 57, .ref 58, .ref 59, .ref 60, .ref 61, .ref 62, .ref 63, .int (nI ns), .ref 64, .ref 65, .int (nI ra), .int (nI se), .int me, .int mi, .ref 66, .ref 67, .int tab, .ref 68, .ref 69, .ref 70, .ref 71, .ref 72, .ref 73, .ref 74, .int ve, .int la, .ref 75, .ref 76, .int (nI len), .int (nI (a2 g len a)), .int (nI 1), .ref 77, .ref 78, .int (nI fe), .ref 79, .ref 80, .ref 81, .ref 82, .ref 83, .ref 84, .int (ab_bl kp), .ref 85, .ref 86, .ref 87, .ref 88]) d_M_clause_56 cl_Model k_M_281 (by decide) rfl ⟨by decide, by decide⟩ rfl (Nat.le_of_ble_eq_true rfl) rfl ?_
              rw [ab_set_set]
              refine aw_aload_n d_M_clause_59 rfl ?_
              refine aw_dup d_M_clause_60 rfl ?_
              refine aw_get (k := 30) d_M_clause_61 cl_Model k_M_278 (by decide) rfl rfl ?_
              refine aw_aload_n d_M_clause_64 rfl ?_
              refine aw_get (k := 31) d_M_clause_65 cl_Model k_M_281 (by decide) rfl rfl ?_
              refine aw_if_eq (tgt := 75) d_M_clause_68 (by decide) (fun c68 => ?_) (fun c68 => ?_)
              · first | exact absurd c68 (by decide) | exact absurd (by decide) c68
              · refine aw_iconst (v := nI 0) d_M_clause_71 (by decide) ?_
                refine aw_goto (tgt := 76) d_M_clause_72 (by decide) ?_
                refine aw_iadd d_M_clause_76 ?_
                rw [nI_add, Nat.add_zero]
                refine aw_put (k := 30) (fs' := [.int (nI n), .ref 57, .ref 58, .ref 59, .ref 60, .ref 61, .ref 62, .ref 63, .int (nI ns), .ref 64, .ref 65, .int (nI ra), .int (nI se), .int me, .int mi, .ref 66, .ref 67, .int tab, .ref 68, .ref 69, .ref 70, .ref 71, .ref 72, .ref 73, .ref 74, .int ve, .int la, .ref 75, .ref 76, .int (nI len), .int (nI (a2 g len a)), .int (nI 1), .ref 77, .ref 78, .int (nI fe), .ref 79, .ref 80, .ref 81, .ref 82, .ref 83, .ref 84, .int (ab_bl kp), .ref 85, .ref 86, .ref 87, .ref 88]) d_M_clause_77 cl_Model k_M_278 (by decide) rfl ⟨rfl, rfl⟩ rfl (Nat.le_of_ble_eq_true rfl) rfl ?_
                rw [ab_set_set]
                have o2 : opc (sg g len (a2 g len a)) = false := by
                  simp only [opc, Bool.or_eq_false_iff, beq_eq_false_iff_ne, ne_eq]
                  exact ⟨⟨⟨(fun z => c30 (by rw [z])), (fun z => c36 (by rw [z]))⟩, (fun z => c42 (by rw [z]))⟩, (fun z => c48 (by rw [z]))⟩
                exact tb _ _ _ _ _ _ _ (cls_2 s1b o2)
  · refine aw_aload_n d_M_clause_0 rfl ?_
    refine aw_bipush (v := nI 97) d_M_clause_1 (by decide) ?_
    refine aw_bipush (v := nI 96) d_M_clause_3 (by decide) ?_
    refine aw_aload_n d_M_clause_5 rfl ?_
    refine aw_get (k := 0) d_M_clause_6 cl_Model k_M_118 (by decide) hM rfl ?_
    refine aw_iadd d_M_clause_9 ?_
    rw [nI_add]
    refine aw_v0i (a := 56) d_M_clause_10 k_M_288 ok_M_one rfl ⟨rfl, rfl⟩ cl_Model hM (c_one_n hM hG hl ag hg ha (lo := 97) (hi := 96 + n) (by decide) (by omega) (by decide) s1) rfl rfl (Nat.le_of_ble_eq_true rfl) ?_
    refine aw_istore_n (L' := [some (.ref 56), some (.int (nI 0)), none, none, none, none, none]) d_M_clause_13 ⟨by decide, rfl⟩ rfl ?_
    refine aw_aload_n d_M_clause_14 rfl ?_
    refine aw_v0i (a := 56) d_M_clause_15 k_M_285 ok_M_here rfl ⟨rfl, rfl⟩ cl_Model rfl (c_here (h := ab_set h 56 (oM n ns ra se me mi tab ve la len (nI (a1 g len a)) (nI 1) fe kp)) (a := a1 g len a) rfl hG hl ag hg h1l) rfl rfl (Nat.le_of_ble_eq_true rfl) ?_
    rw [show lk g len (a1 g len a) = a1 g len a from lk_lk g len a, ab_set_set]
    refine aw_istore_n (L' := [some (.ref 56), some (.int (nI 0)), some (.int (nI (sg g len (a1 g len a)))), none, none, none, none]) d_M_clause_18 ⟨by decide, rfl⟩ rfl ?_
    refine aw_aload_n d_M_clause_19 rfl ?_
    refine aw_aload_n d_M_clause_20 rfl ?_
    refine aw_get (k := 31) d_M_clause_21 cl_Model k_M_281 (by decide) rfl rfl ?_
    refine aw_if_ne (tgt := 51) d_M_clause_24 (by decide) (fun c24 => ?_) (fun c24 => ?_)
    · refine aw_iconst (v := nI 1) d_M_clause_51 (by decide) ?_
      refine aw_goto (tgt := 56) d_M_clause_52 (by decide) ?_
      refine aw_put (k := 31) (fs' := [.int (nI n), .ref 57, .ref 58, .ref 59, .ref 60, .ref 61, .ref 62, .ref 63, .int (nI ns), .ref 64, .ref 65, .int (nI ra), .int (nI se), .int me, .int mi, .ref 66, .ref 67, .int tab, .ref 68, .ref 69, .ref 70, .ref 71, .ref 72, .ref 73, .ref 74, .int ve, .int la, .ref 75, .ref 76, .int (nI len), .int (nI (a1 g len a)), .int (nI 1), .ref 77, .ref 78, .int (nI fe), .ref 79, .ref 80, .ref 81, .ref 82, .ref 83, .ref 84, .int (ab_bl kp), .ref 85, .ref 86, .ref 87, .ref 88]) d_M_clause_56 cl_Model k_M_281 (by decide) rfl ⟨by decide, by decide⟩ rfl (Nat.le_of_ble_eq_true rfl) rfl ?_
      rw [ab_set_set]
      refine aw_aload_n d_M_clause_59 rfl ?_
      refine aw_dup d_M_clause_60 rfl ?_
      refine aw_get (k := 30) d_M_clause_61 cl_Model k_M_278 (by decide) rfl rfl ?_
      refine aw_aload_n d_M_clause_64 rfl ?_
      refine aw_get (k := 31) d_M_clause_65 cl_Model k_M_281 (by decide) rfl rfl ?_
      refine aw_if_eq (tgt := 75) d_M_clause_68 (by decide) (fun c68 => ?_) (fun c68 => ?_)
      · first | exact absurd c68 (by decide) | exact absurd (by decide) c68
      · refine aw_iconst (v := nI 0) d_M_clause_71 (by decide) ?_
        refine aw_goto (tgt := 76) d_M_clause_72 (by decide) ?_
        refine aw_iadd d_M_clause_76 ?_
        rw [nI_add, Nat.add_zero]
        refine aw_put (k := 30) (fs' := [.int (nI n), .ref 57, .ref 58, .ref 59, .ref 60, .ref 61, .ref 62, .ref 63, .int (nI ns), .ref 64, .ref 65, .int (nI ra), .int (nI se), .int me, .int mi, .ref 66, .ref 67, .int tab, .ref 68, .ref 69, .ref 70, .ref 71, .ref 72, .ref 73, .ref 74, .int ve, .int la, .ref 75, .ref 76, .int (nI len), .int (nI (a1 g len a)), .int (nI 1), .ref 77, .ref 78, .int (nI fe), .ref 79, .ref 80, .ref 81, .ref 82, .ref 83, .ref 84, .int (ab_bl kp), .ref 85, .ref 86, .ref 87, .ref 88]) d_M_clause_77 cl_Model k_M_278 (by decide) rfl ⟨rfl, rfl⟩ rfl (Nat.le_of_ble_eq_true rfl) rfl ?_
        rw [ab_set_set]
        exact tb _ _ _ _ _ _ _ (cls_1 (fun z => s1 ⟨z.1, by omega⟩))
    · first | exact absurd c24 (by decide) | exact absurd (by decide) c24
