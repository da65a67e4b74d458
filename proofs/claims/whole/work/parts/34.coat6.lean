theorem x_image {V : VV} {m : Nat} {h : ab_H} {S : SS} (hX : PX V m h S) (ok : S_ok S)   : CX V Y_Coat_image [] m h (fun r S2 => (r, S2) = sp_image S) := by
  obtain ⟨⟨a0, ⟨n0, n1, n2, n3, n4, n5, n6, n7, n8⟩, a2⟩, p1, p2, p3, p4, p5, p6, p7⟩ := id hX
  have hn6 : N_n (S_N S) ≤ 6 := ok.1.1
  have hnT := nI_toInt (show N_n (S_N S) < 2 ^ 31 by omega)
  refine ab_C.of (L := [some (.ref 1)]) rfl rfl (Nat.le_of_ble_eq_true rfl) (fun l => ?_)
  obtain ⟨⟨kn, ktb, kwo, kns, kra, kse, kme, kmi, kfe, k0⟩, -⟩ := PXk.any (K := S_K S) a2
  refine aw_aload_n d_Coat_image_0 rfl ?_
  refine aw_get (k := 1) d_Coat_image_1 cl_Coat k_Coat_16 (by decide) a0 rfl ?_
  refine aw_aload_n d_Coat_image_4 rfl ?_
  refine aw_get (k := 0) d_Coat_image_5 cl_Coat k_Coat_10 (by decide) a0 rfl ?_
  refine aw_v0 (a := 11) d_Coat_image_8 k_Coat_306 ok_Night_become rfl ⟨rfl, rfl⟩ cl_Night k0 (c_become_11_2 hn6 hX.1.2.1 (PXk.any (K := S_K S) a2)) rfl rfl (Nat.le_of_ble_eq_true rfl) (fun r m2 h2 q => ?_)
  obtain ⟨rfl, rfl, hB, hf⟩ := q
  refine aw_aload_n d_Coat_image_11 rfl ?_
  refine aw_iconst (v := nI 1) d_Coat_image_12 (by decide) ?_
  refine aw_put (k := 2) (fs' := [.ref 2, .ref 11, .int (nI 1), .ref 20, .ref 23, .ref 31, .ref 32, .ref 35, .ref 47, .ref 50, .ref 54, .ref 55]) d_Coat_image_13 cl_Coat k_Coat_309 (by decide) rfl ⟨by decide, by decide⟩ ((hf 1 (by omega)).trans a0) (Nat.le_of_ble_eq_true rfl) rfl ?_
  refine aw_iconst (v := nI 1) d_Coat_image_16 (by decide) ?_
  refine aw_ireturn d_Coat_image_17 rfl rfl ?_
  have hg : ∀ k, k ≠ 1 → ab_set h2 1 (oO true) k = h2 k := fun k hk => ab_set_ne hk
  refine ⟨_, S_K_ S (some (S_N S)), rfl, rfl, ⟨⟨rfl, NX.fr (a := 2) (fun k _ _ => (hg k (by omega)).trans (hf k (by omega))) hX.1.2.1, NX.fr (a := 11) (fun k _ _ => hg k (by omega)) hB⟩, PXt.fr (S := S) (fun k _ _ => (hg k (by omega)).trans (hf k (by omega))) p1, PXs.fr (S := S) (fun k _ _ => (hg k (by omega)).trans (hf k (by omega))) p2, p3.fr (fun k _ _ => (hg k (by omega)).trans (hf k (by omega))), p4.fr (fun k _ _ => (hg k (by omega)).trans (hf k (by omega))), p5.fr (fun k _ _ => (hg k (by omega)).trans (hf k (by omega))), p6.fr (fun k _ _ => (hg k (by omega)).trans (hf k (by omega))), p7.fr (fun k _ => (hg k (by omega)).trans (hf k (by omega)))⟩, Nat.le_refl _, fun k _ _ => (hg k (by omega)).trans (hf k (by omega))⟩
theorem x_restore {V : VV} {m : Nat} {h : ab_H} {S : SS} (hX : PX V m h S) (ok : S_ok S)   : CX V Y_Coat_restore [] m h (fun r S2 => (r, S2) = sp_restore S) := by
  obtain ⟨⟨a0, ⟨n0, n1, n2, n3, n4, n5, n6, n7, n8⟩, a2⟩, p1, p2, p3, p4, p5, p6, p7⟩ := id hX
  have hn6 : N_n (S_N S) ≤ 6 := ok.1.1
  have hnT := nI_toInt (show N_n (S_N S) < 2 ^ 31 by omega)
  refine ab_C.of (L := [some (.ref 1)]) rfl rfl (Nat.le_of_ble_eq_true rfl) (fun l => ?_)
  refine aw_aload_n d_Coat_restore_0 rfl ?_
  refine aw_get (k := 2) d_Coat_restore_1 cl_Coat k_Coat_309 (by decide) a0 rfl ?_
  refine aw_if_ne (tgt := 10) d_Coat_restore_4 (by decide) (fun c4 => ?_) (fun c4 => ?_)
  · refine aw_aload_n d_Coat_restore_10 rfl ?_
    refine aw_get (k := 0) d_Coat_restore_11 cl_Coat k_Coat_10 (by decide) a0 rfl ?_
    refine aw_aload_n d_Coat_restore_14 rfl ?_
    refine aw_get (k := 1) d_Coat_restore_15 cl_Coat k_Coat_16 (by decide) a0 rfl ?_
    have hsm := ab_bl_1.mp c4
    cases hK : S_K S with
    | none => rw [hK] at hsm; exact absurd hsm (by decide)
    | some K => ?_
    have hK2 : NX h 11 K := by
      have a2 : PXk h (S_K S) := a2
      rw [hK] at a2
      exact a2
    refine aw_v0 (a := 2) d_Coat_restore_18 k_Coat_306 ok_Night_become rfl ⟨rfl, rfl⟩ cl_Night n0 (c_become_2_11 (ok.2.1 K hK).1 hK2 (NX.any hX.1.2.1)) rfl rfl (Nat.le_of_ble_eq_true rfl) (fun r m2 h2 q => ?_)
    obtain ⟨rfl, rfl, hB, hf⟩ := q
    refine aw_aload_n d_Coat_restore_21 rfl ?_
    refine aw_v0 (a := 1) d_Coat_restore_22 k_Coat_90 ok_Coat_changed rfl ⟨rfl, rfl⟩ cl_Coat ((hf 1 (by omega)).trans a0) (c_changed (V := V) (S := S_N_ S K) ⟨⟨(hf 1 (by omega)).trans a0, hB, PXk.fr (K := S_K S) (fun k _ _ => hf k (by omega)) a2⟩, PXt.fr (S := S) (fun k _ _ => hf k (by omega)) p1, PXs.fr (S := S) (fun k _ _ => hf k (by omega)) p2, p3.fr (fun k _ _ => hf k (by omega)), ⟨_, p4.fr (fun k _ _ => hf k (by omega))⟩, ⟨_, p5.fr (fun k _ _ => hf k (by omega))⟩, ⟨_, p6.fr (fun k _ _ => hf k (by omega))⟩, p7.fr (fun k _ => hf k (by omega))⟩) rfl rfl (Nat.le_of_ble_eq_true rfl) (fun r m2 h3 q => ?_)
    obtain ⟨rfl, rfl, hX2, hf2⟩ := q
    refine aw_iconst (v := nI 1) d_Coat_restore_25 (by decide) ?_
    refine aw_ireturn d_Coat_restore_26 rfl rfl ?_
    refine ⟨_, S_N_ S K, rfl, ?_, hX2, Nat.le_refl _, fun k g1 g2 => (hf2 k g1 g2).trans (hf k (by omega))⟩
    unfold sp_restore
    rw [hK]
    rfl
  · refine aw_bipush (v := (-4)) d_Coat_restore_7 (by decide) ?_
    refine aw_ireturn d_Coat_restore_9 rfl rfl ?_
    refine ⟨_, S, rfl, ?_, hX, Nat.le_refl _, fun k _ _ => rfl⟩
    have hsm := ab_bl_0.mp c4
    unfold sp_restore
    cases hK : S_K S with
    | none => rfl
    | some K => rw [hK] at hsm; exact absurd hsm (by simp)
theorem mb_or : ∀ b, b < 64 → ∀ n, n < 6 → nI b ||| nI 1 <<< (nI n &&& 31) = nI (bt b n true) := bt_on
theorem mb_mod : ∀ b, b < 64 → ∀ n, n < 6 → bt b n true < 64 ∧ bt b n true % 2 ^ (n + 1) = b % 2 ^ n + 2 ^ n := by decide +kernel
/-- the loop of comes(): may of those that are there -/
theorem l_comes {X : ab_X} {l : Launch} {Q : Option Value → Nat → ab_H → Prop} {m : Nat} {h : ab_H} {us : Nat × Nat} {n : Nat} {tb wo : Int32} {ns ra se : Nat} {me mi : Int32} {fe : Nat} (hN : h 2 = oN 2 n tb wo ns ra se me mi fe) (hn : n < 6) {x y v : Int32} {g0 : Nat → Int32}
    (ex : ∀ g : Nat → Int32, (∀ k, k < n → g k = g0 k ||| nI 1 <<< (nI n &&& 31)) → (∀ k, n ≤ k → g k = g0 k) → ab_W Y_Night_comes X l Q 75 [some (.ref 2), some (.int x), some (.int y), some (.int v), some (.int (nI n))] [] m (ab_set h 7 (.inl (6, g))) us) :
    ∀ k i (g : Nat → Int32), i + k = n → (∀ k, k < i → g k = g0 k ||| nI 1 <<< (nI n &&& 31)) → (∀ k, i ≤ k → g k = g0 k) → ab_W Y_Night_comes X l Q 44 [some (.ref 2), some (.int x), some (.int y), some (.int v), some (.int (nI i))] [] m (ab_set h 7 (.inl (6, g))) us := by
  intro k
  induction k with
  | zero =>
    intro i g hi h1 h2
    have hi : i = n := by omega
    subst hi
    refine aw_iload d_Night_comes_44 rfl ?_
    refine aw_aload_n d_Night_comes_46 rfl ?_
    refine aw_get (k := 0) d_Night_comes_47 cl_Night k_Night_55 (by decide) hN rfl ?_
    refine aw_icmp_ge (tgt := 75) d_Night_comes_50 (by decide) (fun c50 => ?_) (fun c50 => ?_)
    · exact ex g h1 h2
    · exact absurd (Int32.le_refl _) c50
  | succ k ih =>
    intro i g hi h1 h2
    refine aw_iload d_Night_comes_44 rfl ?_
    refine aw_aload_n d_Night_comes_46 rfl ?_
    refine aw_get (k := 0) d_Night_comes_47 cl_Night k_Night_55 (by decide) hN rfl ?_
    refine aw_icmp_ge (tgt := 75) d_Night_comes_50 (by decide) (fun c50 => ?_) (fun c50 => ?_)
    · exact absurd c50 (nI_ge (by omega) (by omega))
    · refine aw_aload_n d_Night_comes_53 rfl ?_
      refine aw_get (k := 5) d_Night_comes_54 cl_Night k_Night_24 (by decide) hN rfl ?_
      refine aw_iload d_Night_comes_57 rfl ?_
      refine aw_dup2 d_Night_comes_59 rfl rfl ?_
      refine aw_ialoadN d_Night_comes_60 rfl (by omega) (by decide) ?_
      refine aw_iconst (v := nI 1) d_Night_comes_61 (by decide) ?_
      refine aw_aload_n d_Night_comes_62 rfl ?_
      refine aw_get (k := 0) d_Night_comes_63 cl_Night k_Night_55 (by decide) hN rfl ?_
      refine aw_ishl d_Night_comes_66 ?_
      refine aw_ior d_Night_comes_67 ?_
      refine aw_iastoreN d_Night_comes_68 rfl (by omega) (by decide) ?_
      rw [ab_set_set]
      refine aw_iinc (v := nI (i + 1)) (L' := [some (.ref 2), some (.int x), some (.int y), some (.int v), some (.int (nI (i + 1)))]) d_Night_comes_69 rfl (nI_1 _) ⟨by decide, rfl⟩ rfl ?_
      refine aw_goto (tgt := 44) d_Night_comes_72 (by decide) ?_
      refine ih (i + 1) _ (by omega) (fun k hk => ?_) (fun k hk => ?_)
      · by_cases e : k = i
        · subst e; rw [pk_us, h2 k (Nat.le_refl _)]
        · rw [pk_un e]; exact h1 k (by omega)
      · rw [pk_un (by omega)]; exact h2 k (by omega)
theorem c_comes {m : Nat} {h : ab_H} {n : Nat} {tb wo : Int32} {ns ra se : Nat} {me mi : Int32} {fe : Nat} (hN : h 2 = oN 2 n tb wo ns ra se me mi fe) (hn : n < 6) {gx gy gm ga : Nat → Int32} (hx : h 3 = .inl (6, gx)) (hy : h 4 = .inl (6, gy)) (hm : h 5 = .inl (6, gm)) (ha : h 7 = .inl (6, ga)) (x y v : Int32) : ab_C Y_Night_comes [.ref 2, .int x, .int y, .int v] m h (fun r m2 h2 => r = none ∧ m2 = m ∧ ∃ g : Nat → Int32, (∀ k, k < n → g k = ga k ||| nI 1 <<< (nI n &&& 31)) ∧ g n = nI 63 ∧ h2 = ab_set (ab_set (ab_set (ab_set (ab_set h 3 (.inl (6, upd gx n x))) 4 (.inl (6, upd gy n y))) 5 (.inl (6, upd gm n v))) 7 (.inl (6, g))) 2 (oN 2 (n + 1) tb wo ns ra se me mi fe)) := by
  refine ab_C.of (L := [some (.ref 2), some (.int x), some (.int y), some (.int v), none]) rfl rfl (Nat.le_of_ble_eq_true rfl) (fun l => ?_)
  refine aw_aload_n d_Night_comes_0 rfl ?_
  refine aw_get (k := 1) d_Night_comes_1 cl_Night k_Night_9 (by decide) hN rfl ?_
  refine aw_aload_n d_Night_comes_4 rfl ?_
  refine aw_get (k := 0) d_Night_comes_5 cl_Night k_Night_55 (by decide) hN rfl ?_
  refine aw_iload_n d_Night_comes_8 rfl ?_
  refine aw_iastoreN d_Night_comes_9 hx (by omega) (by decide) ?_
  refine aw_aload_n d_Night_comes_10 rfl ?_
  refine aw_get (k := 2) d_Night_comes_11 cl_Night k_Night_15 (by decide) hN rfl ?_
  refine aw_aload_n d_Night_comes_14 rfl ?_
  refine aw_get (k := 0) d_Night_comes_15 cl_Night k_Night_55 (by decide) hN rfl ?_
  refine aw_iload_n d_Night_comes_18 rfl ?_
  refine aw_iastoreN d_Night_comes_19 hy (by omega) (by decide) ?_
  refine aw_aload_n d_Night_comes_20 rfl ?_
  refine aw_get (k := 3) d_Night_comes_21 cl_Night k_Night_18 (by decide) hN rfl ?_
  refine aw_aload_n d_Night_comes_24 rfl ?_
  refine aw_get (k := 0) d_Night_comes_25 cl_Night k_Night_55 (by decide) hN rfl ?_
  refine aw_iload_n d_Night_comes_28 rfl ?_
  refine aw_iastoreN d_Night_comes_29 hm (by omega) (by decide) ?_
  refine aw_aload_n d_Night_comes_30 rfl ?_
  refine aw_get (k := 5) d_Night_comes_31 cl_Night k_Night_24 (by decide) hN rfl ?_
  refine aw_aload_n d_Night_comes_34 rfl ?_
  refine aw_get (k := 0) d_Night_comes_35 cl_Night k_Night_55 (by decide) hN rfl ?_
  refine aw_bipush (v := nI 63) d_Night_comes_38 (by decide) ?_
  refine aw_iastoreN d_Night_comes_40 ha (by omega) (by decide) ?_
  refine aw_iconst (v := nI 0) d_Night_comes_41 (by decide) ?_
  refine aw_istore (L' := [some (.ref 2), some (.int x), some (.int y), some (.int v), some (.int (nI 0))]) d_Night_comes_42 ⟨by decide, rfl⟩ rfl ?_
  have lp := l_comes (X := none) (l := l) (Q := fun r m2 h2 => r = none ∧ m2 = m ∧ ∃ g : Nat → Int32, (∀ k, k < n → g k = ga k ||| nI 1 <<< (nI n &&& 31)) ∧ g n = nI 63 ∧ h2 = ab_set (ab_set (ab_set (ab_set (ab_set h 3 (.inl (6, upd gx n x))) 4 (.inl (6, upd gy n y))) 5 (.inl (6, upd gm n v))) 7 (.inl (6, g))) 2 (oN 2 (n + 1) tb wo ns ra se me mi fe)) (m := m) (us := (0, 0)) (h := ab_set (ab_set (ab_set h 3 (.inl (6, upd gx n x))) 4 (.inl (6, upd gy n y))) 5 (.inl (6, upd gm n v))) (x := x) (y := y) (v := v) hN hn (g0 := upd ga n (nI 63)) (fun g e1 e2 => ?_) n 0 (upd ga n (nI 63)) (by omega) (fun k hk => absurd hk (by omega)) (fun k hk => rfl)
  · exact lp
  · have hN2 : ab_set (ab_set (ab_set (ab_set h 3 (.inl (6, upd gx n x))) 4 (.inl (6, upd gy n y))) 5 (.inl (6, upd gm n v))) 7 (.inl (6, g)) 2 = oN 2 n tb wo ns ra se me mi fe := hN
    refine aw_aload_n d_Night_comes_75 rfl ?_
    refine aw_dup d_Night_comes_76 rfl ?_
    refine aw_get (k := 0) d_Night_comes_77 cl_Night k_Night_55 (by decide) hN2 rfl ?_
    refine aw_iconst (v := nI 1) d_Night_comes_80 (by decide) ?_
    refine aw_iadd d_Night_comes_81 ?_
    rw [nI_add]
    refine aw_put (k := 0) (fs' := [.int (nI (n + 1)), .ref 3, .ref 4, .ref 5, .ref 6, .ref 7, .int tb, .int wo, .int (nI ns), .ref 8, .ref 9, .int (nI ra), .int (nI se), .int me, .int mi, .int (nI fe), .ref 10]) d_Night_comes_82 cl_Night k_Night_55 (by decide) rfl ⟨rfl, rfl⟩ hN2 (Nat.le_of_ble_eq_true rfl) rfl ?_
    refine aw_return d_Night_comes_85 rfl ?_
    refine ⟨rfl, rfl, g, fun k hk => ?_, ?_, rfl⟩
    · rw [e1 k hk, pk_un (by omega)]
    · rw [e2 n (Nat.le_refl _), pk_us]
theorem x_person {V : VV} {m : Nat} {h : ab_H} {S : SS} (hX : PX V m h S) (ok : S_ok S)  (x y z : Int32) : CX V Y_Coat_person [.int x, .int y, .int z] m h (fun r S2 => (r, S2) = sp_person S x y z) := by
  obtain ⟨⟨a0, ⟨n0, n1, n2, n3, n4, n5, n6, n7, n8⟩, a2⟩, p1, p2, p3, p4, p5, p6, p7⟩ := id hX
  have hn6 : N_n (S_N S) ≤ 6 := ok.1.1
  have hnT := nI_toInt (show N_n (S_N S) < 2 ^ 31 by omega)
  refine ab_C.of (L := [some (.ref 1), some (.int x), some (.int y), some (.int z)]) rfl rfl (Nat.le_of_ble_eq_true rfl) (fun l => ?_)
  obtain ⟨gx, hx, ax⟩ := n1
  obtain ⟨gy, hy, ay⟩ := n2
  obtain ⟨gm, hm, am⟩ := n3
  obtain ⟨ga, ha, aa⟩ := n5
  refine aw_iload_n d_Coat_person_0 rfl ?_
  refine aw_iload_n d_Coat_person_1 rfl ?_
  refine aw_s0i d_Coat_person_2 k_Coat_74 ok_Coat_isPlace rfl ⟨rfl, rfl⟩ (c_Coat_isPlace x y) rfl rfl (Nat.le_of_ble_eq_true rfl) ?_
  refine aw_if_eq (tgt := 15) d_Coat_person_5 (by decide) (fun c5 => ?_) (fun c5 => ?_)
  · refine aw_iconst (v := (-1)) d_Coat_person_15 (by decide) ?_
    refine aw_ireturn d_Coat_person_16 rfl rfl ?_
    refine ⟨_, S, rfl, ?_, hX, Nat.le_refl _, fun k _ _ => rfl⟩
    try subst_vars
    unfold sp_person
    repeat' split
    all_goals first
      | rfl
      | (exfalso; (try simp only [ab_bl_0, ab_bl_1, Bool.and_eq_true, Bool.and_eq_false_iff, Bool.not_eq_true', Bool.not_eq_false', decide_eq_true_eq, decide_eq_false_iff_not] at *); (try simp only [fa_lt, fa_le, fa_eq, ir, ti0, ti1, ti2, ti3, ti4, ti6, ti9, ti20, ti64, tim1, Int32.toInt_zero, Int32.toInt_one, true_and, and_true, false_and, and_false, not_true_eq_false, not_false_eq_true, false_or, or_false, hnT] at *) <;> omega)
      | (fail)
  · refine aw_iload_n d_Coat_person_8 rfl ?_
    refine aw_s0i d_Coat_person_9 k_Coat_78 ok_Coat_isMarks rfl ⟨rfl, rfl⟩ (c_Coat_isMarks z) rfl rfl (Nat.le_of_ble_eq_true rfl) ?_
    refine aw_if_ne (tgt := 17) d_Coat_person_12 (by decide) (fun c12 => ?_) (fun c12 => ?_)
    · refine aw_aload_n d_Coat_person_17 rfl ?_
      refine aw_get (k := 0) d_Coat_person_18 cl_Coat k_Coat_10 (by decide) a0 rfl ?_
      refine aw_get (k := 0) d_Coat_person_21 cl_Night k_Coat_82 (by decide) n0 rfl ?_
      refine aw_bipush (v := nI 6) d_Coat_person_24 (by decide) ?_
      refine aw_icmp_lt (tgt := 32) d_Coat_person_26 (by decide) (fun c26 => ?_) (fun c26 => ?_)
      · have hxy := ab_bl_1.mp c5
        simp only [Bool.and_eq_true] at hxy
        obtain ⟨u, hu, rfl⟩ := ab_rng (n := 20) (by decide) (by simp only [Bool.and_eq_true]; exact hxy.1)
        obtain ⟨v, hv, rfl⟩ := ab_rng (n := 20) (by decide) (by simp only [Bool.and_eq_true]; exact hxy.2)
        obtain ⟨w, hw, rfl⟩ := ab_rng (n := 64) (by decide) (ab_bl_1.mp c12)
        have hn : N_n (S_N S) < 6 := by rw [fa_lt, hnT] at c26; simp only [ti6] at c26; omega
        refine aw_aload_n d_Coat_person_32 rfl ?_
        refine aw_get (k := 0) d_Coat_person_33 cl_Coat k_Coat_10 (by decide) a0 rfl ?_
        refine aw_iload_n d_Coat_person_36 rfl ?_
        refine aw_iload_n d_Coat_person_37 rfl ?_
        refine aw_iload_n d_Coat_person_38 rfl ?_
        refine aw_v0 (a := 2) d_Coat_person_39 k_Coat_86 ok_Night_comes rfl ⟨rfl, rfl⟩ cl_Night n0 (c_comes n0 hn hx hy hm ha (nI u) (nI v) (nI w)) rfl rfl (Nat.le_of_ble_eq_true rfl) (fun r m2 h2 q => ?_)
        obtain ⟨rfl, rfl, g, e1, e2, rfl⟩ := q
        have hma : ∀ k, k < N_n (S_N S) + 1 → ∃ b, b < 64 ∧ g k = nI b ∧ b % 2 ^ (N_n (S_N S) + 1) = (if k < N_n (S_N S) then N_ma (S_N S) k + 2 ^ N_n (S_N S) else if k = N_n (S_N S) then 2 ^ (N_n (S_N S) + 1) - 1 else N_ma (S_N S) k) := by
          intro k hk
          by_cases hk2 : k < N_n (S_N S)
          · obtain ⟨b, b1, b2, b3⟩ := aa k hk2
            refine ⟨bt b (N_n (S_N S)) true, (mb_mod b b1 _ hn).1, ?_, ?_⟩
            · rw [e1 k hk2, b2, bt_on b b1 _ hn]
            · rw [if_pos hk2, (mb_mod b b1 _ hn).2, b3]
          · have hk3 : k = N_n (S_N S) := by omega
            refine ⟨63, by decide, by rw [hk3]; exact e2, ?_⟩
            rw [if_neg hk2, if_pos hk3]
            exact (show ∀ n, n < 6 → 63 % 2 ^ (n + 1) = 2 ^ (n + 1) - 1 by decide) _ hn
        have hx2 := rw_.up ax (h := h) (a := 3) (N_n (S_N S)) u
        have hy2 := rw_.up ay (h := h) (a := 4) (N_n (S_N S)) v
        have hm2 := rw_.up am (h := h) (a := 5) (N_n (S_N S)) w
        refine aw_aload_n d_Coat_person_42 rfl ?_
        refine aw_v0 (a := 1) d_Coat_person_43 k_Coat_90 ok_Coat_changed rfl ⟨rfl, rfl⟩ cl_Coat a0 (c_changed (V := V) (S := S_N_ S (N_n_ (N_x_ (N_y_ (N_mk_ (N_ma_ (S_N S) (fun k => if k < N_n (S_N S) then N_ma (S_N S) k + 2 ^ N_n (S_N S) else if k = N_n (S_N S) then 2 ^ (N_n (S_N S) + 1) - 1 else N_ma (S_N S) k)) (ud (N_mk (S_N S)) (N_n (S_N S)) w)) (ud (N_y (S_N S)) (N_n (S_N S)) v)) (ud (N_x (S_N S)) (N_n (S_N S)) u)) (N_n (S_N S) + 1))) ⟨⟨a0, ⟨rfl, rw_.up2 rfl ax, rw_.up2 rfl ay, rw_.up2 rfl am, n4, ⟨g, rfl, hma⟩, n6, n7, n8⟩, PXk.fr (K := S_K S) (fun k _ _ => by rw [ab_set_ne (by omega), ab_set_ne (by omega), ab_set_ne (by omega), ab_set_ne (by omega), ab_set_ne (by omega)]) a2⟩, p1.fr (fun k _ _ => by rw [ab_set_ne (by omega), ab_set_ne (by omega), ab_set_ne (by omega), ab_set_ne (by omega), ab_set_ne (by omega)]), p2.fr (fun k _ _ => by rw [ab_set_ne (by omega), ab_set_ne (by omega), ab_set_ne (by omega), ab_set_ne (by omega), ab_set_ne (by omega)]), p3.fr (fun k _ _ => by rw [ab_set_ne (by omega), ab_set_ne (by omega), ab_set_ne (by omega), ab_set_ne (by omega), ab_set_ne (by omega)]), ⟨_, p4.fr (fun k _ _ => by rw [ab_set_ne (by omega), ab_set_ne (by omega), ab_set_ne (by omega), ab_set_ne (by omega), ab_set_ne (by omega)])⟩, ⟨_, p5.fr (fun k _ _ => by rw [ab_set_ne (by omega), ab_set_ne (by omega), ab_set_ne (by omega), ab_set_ne (by omega), ab_set_ne (by omega)])⟩, ⟨_, p6.fr (fun k _ _ => by rw [ab_set_ne (by omega), ab_set_ne (by omega), ab_set_ne (by omega), ab_set_ne (by omega), ab_set_ne (by omega)])⟩, p7.fr (fun k _ => by rw [ab_set_ne (by omega), ab_set_ne (by omega), ab_set_ne (by omega), ab_set_ne (by omega), ab_set_ne (by omega)])⟩) rfl rfl (Nat.le_of_ble_eq_true rfl) (fun r m2 h2 q => ?_)
        obtain ⟨rfl, rfl, hX2, hf2⟩ := q
        refine aw_aload_n d_Coat_person_46 rfl ?_
        refine aw_get (k := 0) d_Coat_person_47 cl_Coat k_Coat_10 (by decide) hX2.1.1 rfl ?_
        refine aw_get (k := 0) d_Coat_person_50 cl_Night k_Coat_82 (by decide) hX2.1.2.1.1 rfl ?_
        refine aw_iconst (v := nI 1) d_Coat_person_53 (by decide) ?_
        refine aw_isub d_Coat_person_54 ?_
        rw [show nI (N_n (S_N S) + 1) - nI 1 = nI (N_n (S_N S)) from nI_pred _]
        refine aw_ireturn d_Coat_person_55 rfl rfl ?_
        refine ⟨_, S_N_ S (N_n_ (N_x_ (N_y_ (N_mk_ (N_ma_ (S_N S) (fun k => if k < N_n (S_N S) then N_ma (S_N S) k + 2 ^ N_n (S_N S) else if k = N_n (S_N S) then 2 ^ (N_n (S_N S) + 1) - 1 else N_ma (S_N S) k)) (ud (N_mk (S_N S)) (N_n (S_N S)) w)) (ud (N_y (S_N S)) (N_n (S_N S)) v)) (ud (N_x (S_N S)) (N_n (S_N S)) u)) (N_n (S_N S) + 1)), rfl, ?_, hX2, Nat.le_refl _, fun k g1 g2 => (hf2 k g1 g2).trans (by rw [ab_set_ne (by omega), ab_set_ne (by omega), ab_set_ne (by omega), ab_set_ne (by omega), ab_set_ne (by omega)])⟩
        try subst_vars
        unfold sp_person
        repeat' split
        all_goals first
          | rfl
          | (exfalso; (try simp only [ab_bl_0, ab_bl_1, Bool.and_eq_true, Bool.and_eq_false_iff, Bool.not_eq_true', Bool.not_eq_false', decide_eq_true_eq, decide_eq_false_iff_not] at *); (try simp only [fa_lt, fa_le, fa_eq, ir, ti0, ti1, ti2, ti3, ti4, ti6, ti9, ti20, ti64, tim1, Int32.toInt_zero, Int32.toInt_one, true_and, and_true, false_and, and_false, not_true_eq_false, not_false_eq_true, false_or, or_false, hnT] at *) <;> omega)
          | (simp only [cl_nI (show u < 2 ^ 31 by omega), cl_nI (show v < 2 ^ 31 by omega), cl_nI (show w < 2 ^ 31 by omega)])
      · refine aw_bipush (v := (-3)) d_Coat_person_29 (by decide) ?_
        refine aw_ireturn d_Coat_person_31 rfl rfl ?_
        refine ⟨_, S, rfl, ?_, hX, Nat.le_refl _, fun k _ _ => rfl⟩
        try subst_vars
        unfold sp_person
        repeat' split
        all_goals first
          | rfl
          | (exfalso; (try simp only [ab_bl_0, ab_bl_1, Bool.and_eq_true, Bool.and_eq_false_iff, Bool.not_eq_true', Bool.not_eq_false', decide_eq_true_eq, decide_eq_false_iff_not] at *); (try simp only [fa_lt, fa_le, fa_eq, ir, ti0, ti1, ti2, ti3, ti4, ti6, ti9, ti20, ti64, tim1, Int32.toInt_zero, Int32.toInt_one, true_and, and_true, false_and, and_false, not_true_eq_false, not_false_eq_true, false_or, or_false, hnT] at *) <;> omega)
          | (fail)
    · refine aw_iconst (v := (-1)) d_Coat_person_15 (by decide) ?_
      refine aw_ireturn d_Coat_person_16 rfl rfl ?_
      refine ⟨_, S, rfl, ?_, hX, Nat.le_refl _, fun k _ _ => rfl⟩
      try subst_vars
      unfold sp_person
      repeat' split
      all_goals first
        | rfl
        | (exfalso; (try simp only [ab_bl_0, ab_bl_1, Bool.and_eq_true, Bool.and_eq_false_iff, Bool.not_eq_true', Bool.not_eq_false', decide_eq_true_eq, decide_eq_false_iff_not] at *); (try simp only [fa_lt, fa_le, fa_eq, ir, ti0, ti1, ti2, ti3, ti4, ti6, ti9, ti20, ti64, tim1, Int32.toInt_zero, Int32.toInt_one, true_and, and_true, false_and, and_false, not_true_eq_false, not_false_eq_true, false_or, or_false, hnT] at *) <;> omega)
        | (fail)
