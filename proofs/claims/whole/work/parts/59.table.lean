theorem PX.tk {V : VV} {m : Nat} {h : ab_H} {S : SS} (hX : PX V m h S) (g : Nat → Int32) : PX V m (ab_set h 31 (.inl (6, g))) S := by
  obtain ⟨p0, p1, p2, p3, p4, p5, p6, p7⟩ := hX
  exact ⟨p0.fr (fun k _ _ => ab_set_ne (by omega)), p1.fr (fun k _ _ => ab_set_ne (by omega)), p2.fr (fun k _ _ => ab_set_ne (by omega)), ⟨⟨g, rfl⟩, p3.2.1, p3.2.2.1, p3.2.2.2⟩, p4.fr (fun k _ _ => ab_set_ne (by omega)), p5.fr (fun k _ _ => ab_set_ne (by omega)), p6.fr (fun k _ _ => ab_set_ne (by omega)), p7.fr (fun k _ => ab_set_ne (by omega))⟩
def pxx (x : Nat → Nat) (j : Nat) : Nat → Nat := fun k => if k < j then x k else k
theorem pxx_s (x : Nat → Nat) (j : Nat) : ud (pxx x j) j (x j) = pxx x (j + 1) := by
  funext k
  unfold pxx ud
  by_cases e : k = j
  · subst e; rw [if_pos rfl, if_pos (by omega)]
  · rw [if_neg e]
    show (if k < j then x k else k) = _
    by_cases q : k < j
    · rw [if_pos q, if_pos (by omega)]
    · rw [if_neg q, if_neg (by omega)]
theorem pxx_0 (x : Nat → Nat) : pxx x 0 = fun k => k := funext fun k => if_neg (Nat.not_lt_zero k)
theorem pxx_n {x : Nat → Nat} {n : Nat} (hf : ∀ k, n ≤ k → x k = k) : pxx x n = x := by
  funext k
  unfold pxx
  by_cases q : k < n
  · rw [if_pos q]
  · rw [if_neg q, hf k (by omega)]
theorem pxx_8 {x : Nat → Nat} (hx : Pm x) (j : Nat) : ∀ k, k < 6 → pxx x j k < 8 := by
  intro k hk
  unfold pxx
  split
  · exact hx.lt8 k hk
  · omega
def sp_table (S : SS) (sh lane i : Int32) : Int32 × SS := if sp_take S sh lane i < 0 then (sp_take S sh lane i, S) else (nI (ast (tkf S sh i) (N_n (S_N S))), S_N_ S (N_t_ (S_N S) (tkf S sh i)))
theorem sp_take_0 {S : SS} {sh lane i : Int32} (ok : S_ok S) (h : ¬ sp_take S sh lane i < 0) : sp_take S sh lane i = 0 ∧ tkg S sh i = true := by
  unfold sp_take at h ⊢
  by_cases q : sp_fault S sh lane i (N_n (S_N S)) < 0
  · rw [if_pos q] at h
    exact absurd q h
  · rw [if_neg q] at h ⊢
    by_cases r : tkg S sh i = true
    · rw [if_pos r]; exact ⟨rfl, r⟩
    · rw [if_neg r] at h
      exact absurd (by decide) h
theorem c_packed {m : Nat} {h : ab_H} {A n : Nat} {g : Nat → Int32} (hA : h A = .inl (6, g)) (hn : n ≤ 6) {x : Nat → Nat} (hx : Pm x) (hf : ∀ k, n ≤ k → x k = k) (hg : ∀ k, k < n → g k = nI (x k)) : ab_D Y_Rows_packed [.ref A, .int (nI n)] m h (some (.int (nI (pk x)))) m (h) := by
  refine ab_C.of (L := [some (.ref A), some (.int (nI n)), none, none]) rfl rfl (Nat.le_of_ble_eq_true rfl) (fun l => ?_)
  have loop : ∀ k j, j + k = n → ab_W Y_Rows_packed none l (fun r m2 h2 => r = some (.int (nI (pk x))) ∧ m2 = m ∧ h2 = h) 5 [some (.ref A), some (.int (nI n)), some (.int (nI (pk (pxx x j)))), some (.int (nI j))] [] m (h) (0, 0) := by
    intro k
    induction k with
    | zero =>
      intro j hj 
      have hjn : n = j := by omega
      subst hjn
      refine aw_iload_n d_Rows_packed_5 rfl ?_
      refine aw_iload_n d_Rows_packed_6 rfl ?_
      refine aw_icmp_ge (tgt := 25) d_Rows_packed_7 (by decide) (fun c7 => ?_) (fun c7 => ?_)
      · refine aw_iload_n d_Rows_packed_25 rfl ?_
        refine aw_ireturn d_Rows_packed_26 rfl rfl ?_
        exact ⟨by rw [pxx_n hf], rfl, rfl⟩
      · exact absurd (Int32.le_refl _) c7
    | succ k ih =>
      intro j hj 
      refine aw_iload_n d_Rows_packed_5 rfl ?_
      refine aw_iload_n d_Rows_packed_6 rfl ?_
      refine aw_icmp_ge (tgt := 25) d_Rows_packed_7 (by decide) (fun c7 => ?_) (fun c7 => ?_)
      · exact absurd c7 (nI_ge (by omega) (by omega))
      · refine aw_iload_n d_Rows_packed_10 rfl ?_
        refine aw_iload_n d_Rows_packed_11 rfl ?_
        refine aw_aload_n d_Rows_packed_12 rfl ?_
        refine aw_iload_n d_Rows_packed_13 rfl ?_
        refine aw_ialoadN d_Rows_packed_14 hA (by omega) (by decide) ?_
        rw [hg j (by omega)]
        refine aw_s0i d_Rows_packed_15 k_Rows_12 ok_Rows_with rfl ⟨rfl, rfl⟩ (c_with (pxx_8 hx j) (show j < 6 by omega) (hx.lt8 j (by omega))) rfl rfl (Nat.le_of_ble_eq_true rfl) ?_
        refine aw_istore_n (L' := [some (.ref A), some (.int (nI n)), some (.int (nI (pk (ud (pxx x j) j (x j))))), some (.int (nI j))]) d_Rows_packed_18 ⟨by decide, rfl⟩ rfl ?_
        refine aw_iinc (v := nI (j + 1)) (L' := [some (.ref A), some (.int (nI n)), some (.int (nI (pk (ud (pxx x j) j (x j))))), some (.int (nI (j + 1)))]) d_Rows_packed_19 rfl (nI_1 _) ⟨by decide, rfl⟩ rfl ?_
        refine aw_goto (tgt := 5) d_Rows_packed_22 (by decide) ?_
        rw [pxx_s]
        exact ih (j + 1) (by omega)
  refine aw_ldc (v := nI 181896) d_Rows_packed_0 k_Rows_11 ?_
  refine aw_istore_n (L' := [some (.ref A), some (.int (nI n)), some (.int (nI 181896)), none]) d_Rows_packed_2 ⟨by decide, rfl⟩ rfl ?_
  refine aw_iconst (v := nI 0) d_Rows_packed_3 (by decide) ?_
  refine aw_istore_n (L' := [some (.ref A), some (.int (nI n)), some (.int (nI 181896)), some (.int (nI 0))]) d_Rows_packed_4 ⟨by decide, rfl⟩ rfl ?_
  have e : nI 181896 = nI (pk (pxx x 0)) := by rw [pxx_0, pk_own]
  rw [e]
  exact loop n 0 (by omega)
theorem x_table {V : VV} {m : Nat} {h : ab_H} {S : SS} (hX : PX V m h S) (ok : S_ok S)  (sh lane i : Int32) : CX V Y_Coat_table [.int sh, .int lane, .int i] m h (fun r S2 => (r, S2) = sp_table S sh lane i) := by
  obtain ⟨⟨a0, ⟨n0, n1, n2, n3, n4, n5, n6, n7, n8⟩, a2⟩, p1, p2, p3, p4, p5, p6, p7⟩ := id hX
  have hn6 : N_n (S_N S) ≤ 6 := ok.1.1
  have hnT := nI_toInt (show N_n (S_N S) < 2 ^ 31 by omega)
  have hpm := ok.1.pm
  have hw6 := ok.1.w6
  refine ab_C.of (L := [some (.ref 1), some (.int sh), some (.int lane), some (.int i), none]) rfl rfl (Nat.le_of_ble_eq_true rfl) (fun l => ?_)
  refine aw_aload_n d_Coat_table_0 rfl ?_
  refine aw_iload_n d_Coat_table_1 rfl ?_
  refine aw_iload_n d_Coat_table_2 rfl ?_
  refine aw_iload_n d_Coat_table_3 rfl ?_
  refine aw_v0 (a := 1) d_Coat_table_4 k_Coat_138 ok_Coat_take rfl ⟨rfl, rfl⟩ cl_Coat a0 (c_take hX ok sh lane i) rfl rfl (Nat.le_of_ble_eq_true rfl) (fun r m2 h2 q => ?_)
  obtain ⟨rfl, rfl, g, rfl, hgk⟩ := q
  have hX1 := hX.tk g
  show ab_W _ _ _ _ 7 _ [.int (sp_take S sh lane i)] _ _ _
  refine aw_topi (fun v7 ev7 => ?_)
  refine aw_istore (L' := [some (.ref 1), some (.int sh), some (.int lane), some (.int i), some (.int v7)]) d_Coat_table_7 ⟨by decide, rfl⟩ rfl ?_
  refine aw_iload d_Coat_table_9 rfl ?_
  refine aw_if_ge (tgt := 17) d_Coat_table_11 (by decide) (fun c11 => ?_) (fun c11 => ?_)
  · have t01 := sp_take_0 ok (Int32.not_lt.mpr (by rw [← ev7]; exact c11))
    obtain ⟨t0, tg⟩ := t01
    obtain ⟨tp, tf, ti⟩ := tkg_pm hn6 tg
    refine aw_aload_n d_Coat_table_17 rfl ?_
    refine aw_get (k := 0) d_Coat_table_18 cl_Coat k_Coat_10 (by decide) a0 rfl ?_
    refine aw_aload_n d_Coat_table_21 rfl ?_
    refine aw_get (k := 5) d_Coat_table_22 cl_Coat k_Coat_33 (by decide) a0 rfl ?_
    refine aw_aload_n d_Coat_table_25 rfl ?_
    refine aw_get (k := 0) d_Coat_table_26 cl_Coat k_Coat_10 (by decide) a0 rfl ?_
    refine aw_get (k := 0) d_Coat_table_29 cl_Night k_Coat_82 (by decide) n0 rfl ?_
    refine aw_s0i d_Coat_table_32 k_Coat_142 ok_Rows_packed rfl ⟨rfl, rfl⟩ (c_packed (A := 31) rfl hn6 tp tf (hgk t0)) rfl rfl (Nat.le_of_ble_eq_true rfl) ?_
    refine aw_put (k := 6) (fs' := [.int (nI (N_n (S_N S))), .ref 3, .ref 4, .ref 5, .ref 6, .ref 7, .int (nI (pk (tkf S sh i))), .int (nI (N_w (S_N S))), .int (nI (N_ns (S_N S))), .ref 8, .ref 9, .int (nI (N_ra (S_N S))), .int (nI (N_se (S_N S))), .int (N_me (S_N S)), .int (N_mi (S_N S)), .int (nI (N_fe (S_N S))), .ref 10]) d_Coat_table_35 cl_Night k_Coat_96 (by decide) rfl ⟨rfl, rfl⟩ n0 (Nat.le_of_ble_eq_true rfl) rfl ?_
    refine aw_aload_n d_Coat_table_38 rfl ?_
    refine aw_v0 (a := 1) d_Coat_table_39 k_Coat_90 ok_Coat_changed rfl ⟨rfl, rfl⟩ cl_Coat a0 (c_changed (V := V) (S := S_N_ S (N_t_ (S_N S) (tkf S sh i))) (PXw.scal hX1 (N_t_ (S_N S) (tkf S sh i)) rfl rfl rfl rfl rfl rfl rfl rfl rfl)) rfl rfl (Nat.le_of_ble_eq_true rfl) (fun r m2 h2 q => ?_)
    obtain ⟨rfl, rfl, hX2, hf2⟩ := q
    refine aw_aload_n d_Coat_table_42 rfl ?_
    refine aw_get (k := 0) d_Coat_table_43 cl_Coat k_Coat_10 (by decide) hX2.1.1 rfl ?_
    refine aw_v0i (a := 2) d_Coat_table_46 k_Coat_146 ok_Night_astray rfl ⟨rfl, rfl⟩ cl_Night hX2.1.2.1.1 (c_astray hX2.1.2.1.1 hn6 tp) rfl rfl (Nat.le_of_ble_eq_true rfl) ?_
    refine aw_ireturn d_Coat_table_49 rfl rfl ?_
    refine ⟨_, S_N_ S (N_t_ (S_N S) (tkf S sh i)), rfl, ?_, hX2, Nat.le_refl _, fun k g1 g2 => (hf2 k g1 g2).trans (by rw [ab_set_ne (by omega), ab_set_ne (by omega)])⟩
    unfold sp_table
    rw [t0, if_neg (by decide)]
  · refine aw_iload d_Coat_table_14 rfl ?_
    refine aw_ireturn d_Coat_table_16 rfl rfl ?_
    refine ⟨_, S, rfl, ?_, hX1, Nat.le_refl _, fun k _ _ => ab_set_ne (by omega)⟩
    unfold sp_table
    rw [if_pos (by rw [← ev7]; exact Int32.not_le.mp c11), ev7]
