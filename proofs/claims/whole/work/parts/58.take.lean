/-- the bits of what a row holds -/
def sn (x : Nat → Nat) : Nat → Nat
  | 0 => 0
  | k + 1 => sn x k ||| 2 ^ x k
theorem sn_bit (x : Nat → Nat) (q : Nat) : ∀ p, sn x p / 2 ^ q % 2 = 1 ↔ ∃ r, r < p ∧ x r = q
  | 0 => ⟨fun h => absurd h (b_zero q), fun ⟨r, h, _⟩ => absurd h (Nat.not_lt_zero _)⟩
  | p + 1 => by
    unfold sn
    rw [b_orr, b_pow, sn_bit x q p]
    refine ⟨fun h => ?_, fun ⟨r, h1, h2⟩ => ?_⟩
    · rcases h with ⟨r, h1, h2⟩ | h
      · exact ⟨r, by omega, h2⟩
      · exact ⟨p, by omega, h⟩
    · by_cases e : r = p
      · subst e; exact Or.inr h2
      · exact Or.inl ⟨r, by omega, h2⟩
theorem sn_lt {x : Nat → Nat} : ∀ p, (∀ k, k < p → x k < 6) → sn x p < 64
  | 0, _ => (show 0 < 64 by decide)
  | p + 1, h => b_or (k := 6) (sn_lt p (fun k hk => h k (by omega))) (p6_lt (h p (by omega)))
theorem inj_of_onto {n : Nat} {x : Nat → Nat} (h : ∀ q, q < n → ∃ r, r < n ∧ x r = q) : ∀ a b, a < b → b < n → x a ≠ x b := by
  have ex : ∃ r : Nat → Nat, ∀ q, q < n → r q < n ∧ x (r q) = q := by
    refine ⟨fun q => if h2 : q < n then Classical.choose (h q h2) else 0, fun q hq => ?_⟩
    simp only [dif_pos hq]
    exact Classical.choose_spec (h q hq)
  obtain ⟨r, hr⟩ := ex
  have inj : ∀ i j, i < j → j < n → r i ≠ r j := fun i j hij hj e => by
    have e1 := (hr i (by omega)).2
    have e2 := (hr j hj).2
    rw [e] at e1
    omega
  intro a b hab hb e
  obtain ⟨qa, h1, h2⟩ := fb_onto (fun i hi => (hr i hi).1) inj (show a < n by omega)
  obtain ⟨qb, h3, h4⟩ := fb_onto (fun i hi => (hr i hi).1) inj hb
  have e1 := (hr qa h1).2
  have e2 := (hr qb h3).2
  rw [h2] at e1
  rw [h4] at e2
  have : qa = qb := by omega
  rw [this] at h2
  omega
theorem sn_all {n : Nat} (hn : n ≤ 6) {x : Nat → Nat} (hx : ∀ k, k < n → x k < n) : sn x n = 2 ^ n - 1 ↔ ∀ a b, a < b → b < n → x a ≠ x b := by
  constructor
  · intro h
    apply inj_of_onto
    intro q hq
    have := (b_low n q).mpr hq
    rw [← h, sn_bit] at this
    exact this
  · intro h
    apply b_ext (sn_lt n (fun k hk => by have := hx k hk; omega)) (b_63 n hn)
    intro p hp
    rw [sn_bit, b_low]
    constructor
    · intro ⟨r, h1, h2⟩
      have := hx r h1
      omega
    · intro h2
      exact fb_onto hx h h2
/-- items taken, a person each -/
def tki (S : SS) (sh i : Int32) (k : Nat) : Int32 := S_it S (cl sh) (cl i + k)
def tkf (S : SS) (sh i : Int32) : Nat → Nat := fun k => if k < N_n (S_N S) then cl (tki S sh i k) else k
def tkg (S : SS) (sh i : Int32) : Bool := (List.range (N_n (S_N S))).all (fun k => decide (ir (tki S sh i k) 0 (N_n (S_N S) - 1 : Int)) && (List.range k).all (fun q => !decide (tki S sh i q = tki S sh i k)))
def sp_take (S : SS) (sh lane i : Int32) : Int32 := if sp_fault S sh lane i (N_n (S_N S)) < 0 then sp_fault S sh lane i (N_n (S_N S)) else if tkg S sh i then 0 else -2
theorem tkg_iff {S : SS} {sh i : Int32} : tkg S sh i = true ↔ ∀ k, k < N_n (S_N S) → ir (tki S sh i k) 0 (N_n (S_N S) - 1 : Int) ∧ ∀ q, q < k → tki S sh i q ≠ tki S sh i k := by
  unfold tkg
  simp only [List.all_eq_true, List.mem_range, Bool.and_eq_true, decide_eq_true_eq, Bool.not_eq_true', decide_eq_false_iff_not, ne_eq]
theorem tkf_in {S : SS} {sh i : Int32} {k : Nat} (hk : k < N_n (S_N S)) (h : ir (tki S sh i k) 0 (N_n (S_N S) - 1 : Int)) : tki S sh i k = nI (tkf S sh i k) ∧ tkf S sh i k < N_n (S_N S) := by
  have e : tkf S sh i k = cl (tki S sh i k) := if_pos hk
  rw [e]
  have := cl_int h.1
  have := h.2
  exact ⟨cl_of h.1, by omega⟩
theorem tkg_ne {S : SS} {sh i : Int32} (hn : N_n (S_N S) ≤ 6) (h : ∀ k, k < N_n (S_N S) → ir (tki S sh i k) 0 (N_n (S_N S) - 1 : Int)) : tkg S sh i = true ↔ ∀ a b, a < b → b < N_n (S_N S) → tkf S sh i a ≠ tkf S sh i b := by
  rw [tkg_iff]
  constructor
  · intro q a b hab hb e
    refine (q b hb).2 a hab ?_
    rw [(tkf_in (show a < N_n (S_N S) by omega) (h a (by omega))).1, (tkf_in hb (h b hb)).1, e]
  · intro q k hk
    refine ⟨h k hk, fun r hr e => q r k hr hk ?_⟩
    have h1 := tkf_in (show r < N_n (S_N S) by omega) (h r (by omega))
    have h2 := tkf_in hk (h k hk)
    rw [h1.1, h2.1] at e
    exact (nI_eq (by omega) (by omega)).mp e
theorem tkg_pm {S : SS} {sh i : Int32} (hn : N_n (S_N S) ≤ 6) (h : tkg S sh i = true) : Pm (tkf S sh i) ∧ (∀ k, N_n (S_N S) ≤ k → tkf S sh i k = k) ∧ ∀ k, k < N_n (S_N S) → tki S sh i k = nI (tkf S sh i k) := by
  have h1 := tkg_iff.mp h
  have h2 := (tkg_ne hn (fun k hk => (h1 k hk).1)).mp h
  have fx : ∀ k, N_n (S_N S) ≤ k → tkf S sh i k = k := fun k hk => if_neg (Nat.not_lt.mpr hk)
  have lt : ∀ k, k < N_n (S_N S) → tkf S sh i k < N_n (S_N S) := fun k hk => (tkf_in hk (h1 k hk).1).2
  refine ⟨⟨fun k hk => ?_, fun a b ha hb e => ?_, fun k hk => fx k (by omega)⟩, fx, fun k hk => (tkf_in hk (h1 k hk).1).1⟩
  · by_cases q : k < N_n (S_N S)
    · have := lt k q; omega
    · rw [fx k (by omega)]; exact hk
  · by_cases qa : a < N_n (S_N S)
    · by_cases qb : b < N_n (S_N S)
      · rcases Nat.lt_trichotomy a b with z | z | z
        · exact absurd e (h2 a b z qb)
        · exact z
        · exact absurd e.symm (h2 b a z qa)
      · have := lt a qa
        have := fx b (by omega)
        omega
    · by_cases qb : b < N_n (S_N S)
      · have := lt b qb
        have := fx a (by omega)
        omega
      · have := fx a (by omega)
        have := fx b (by omega)
        omega
theorem c_take {V : VV} {m : Nat} {h : ab_H} {S : SS} (hX : PX V m h S) (ok : S_ok S) (sh lane i : Int32) : ab_C Y_Coat_take [.ref 1, .int sh, .int lane, .int i] m h (fun r m2 h2 => r = some (.int (sp_take S sh lane i)) ∧ m2 = m ∧ ∃ g : Nat → Int32, h2 = ab_set h 31 (.inl (6, g)) ∧ (sp_take S sh lane i = 0 → ∀ k, k < N_n (S_N S) → g k = nI (tkf S sh i k))) := by
  obtain ⟨⟨a0, ⟨n0, n1, n2, n3, n4, n5, n6, n7, n8⟩, a2⟩, p1, p2, p3, p4, p5, p6, p7⟩ := id hX
  have hn6 : N_n (S_N S) ≤ 6 := ok.1.1
  have hnT := nI_toInt (show N_n (S_N S) < 2 ^ 31 by omega)
  obtain ⟨s0, s1, s2, ⟨gl, hl, al⟩, ⟨gz, hz, az⟩⟩ := id p2
  obtain ⟨⟨gt, ht⟩, p3r⟩ := id p3
  refine ab_C.of (L := [some (.ref 1), some (.int sh), some (.int lane), some (.int i), none, none, none]) rfl rfl (Nat.le_of_ble_eq_true rfl) (fun l => ?_)
  refine aw_aload_n d_Coat_take_0 rfl ?_
  refine aw_get (k := 4) d_Coat_take_1 cl_Coat k_Coat_29 (by decide) a0 rfl ?_
  refine aw_iload_n d_Coat_take_4 rfl ?_
  refine aw_iload_n d_Coat_take_5 rfl ?_
  refine aw_iload_n d_Coat_take_6 rfl ?_
  refine aw_aload_n d_Coat_take_7 rfl ?_
  refine aw_get (k := 0) d_Coat_take_8 cl_Coat k_Coat_10 (by decide) a0 rfl ?_
  refine aw_get (k := 0) d_Coat_take_11 cl_Night k_Coat_82 (by decide) n0 rfl ?_
  refine aw_v0i (a := 23) d_Coat_take_14 k_Coat_327 ok_Sheets_faultOf rfl ⟨rfl, rfl⟩ cl_Sheets s0 (c_faultOf ok s0 hl al hz az sh lane i (N_n (S_N S)) (by omega)) rfl rfl (Nat.le_of_ble_eq_true rfl) ?_
  refine aw_topi (fun v17 ev17 => ?_)
  refine aw_istore (L' := [some (.ref 1), some (.int sh), some (.int lane), some (.int i), some (.int v17), none, none]) d_Coat_take_17 ⟨by decide, rfl⟩ rfl ?_
  refine aw_iload d_Coat_take_19 rfl ?_
  refine aw_if_ge (tgt := 27) d_Coat_take_21 (by decide) (fun c21 => ?_) (fun c21 => ?_)
  · obtain ⟨s, j, hs, rfl, rfl, hj, hj2, hf0, hla, hlr⟩ := sp_fault_ok (sh := sh) (lane := lane) (i := i) (n := N_n (S_N S)) ok (by omega) (fun q => by rw [← ev17] at q; exact absurd c21 (Int32.not_le.mpr q))
    obtain ⟨gi, hi, ai⟩ := s2 s hs
    refine aw_aload_n d_Coat_take_27 rfl ?_
    refine aw_get (k := 4) d_Coat_take_28 cl_Coat k_Coat_29 (by decide) a0 rfl ?_
    refine aw_get (k := 0) d_Coat_take_31 cl_Sheets k_Coat_331 (by decide) s0 rfl ?_
    refine aw_iload_n d_Coat_take_34 rfl ?_
    refine aw_aaload (v := 25 + s) d_Coat_take_35 s1 (vp_in_nI hs (by decide)) (by rw [nI_clamp (by omega)]; exact if_pos hs) ?_
    refine aw_iload_n d_Coat_take_36 rfl ?_
    refine aw_aload_n d_Coat_take_37 rfl ?_
    refine aw_get (k := 5) d_Coat_take_38 cl_Coat k_Coat_33 (by decide) a0 rfl ?_
    refine aw_iconst (v := nI 0) d_Coat_take_41 (by decide) ?_
    refine aw_aload_n d_Coat_take_42 rfl ?_
    refine aw_get (k := 0) d_Coat_take_43 cl_Coat k_Coat_10 (by decide) a0 rfl ?_
    refine aw_get (k := 0) d_Coat_take_46 cl_Night k_Coat_82 (by decide) n0 rfl ?_
    refine aw_copy d_Coat_take_49 k_Coat_342 ⟨by decide, Nat.le_of_ble_eq_true rfl⟩ hi ht (nI_n0 (by omega)) (nI_n0 (by decide)) (nI_n0 (by omega)) (by rw [nI_clamp (by omega), nI_clamp (by omega)]; omega) (by rw [nI_clamp (by decide), nI_clamp (by omega)]; omega) ?_
    refine aw_iconst (v := nI 0) d_Coat_take_52 (by decide) ?_
    refine aw_istore (L' := [some (.ref 1), some (.int (nI s)), some (.int lane), some (.int (nI j)), some (.int v17), some (.int (nI 0)), none]) d_Coat_take_53 ⟨by decide, rfl⟩ rfl ?_
    refine aw_iconst (v := nI 0) d_Coat_take_55 (by decide) ?_
    refine aw_istore (L' := [some (.ref 1), some (.int (nI s)), some (.int lane), some (.int (nI j)), some (.int v17), some (.int (nI 0)), some (.int (nI 0))]) d_Coat_take_56 ⟨by decide, rfl⟩ rfl ?_
    obtain ⟨fo, efo⟩ : ∃ z, z = v17 := ⟨_, rfl⟩
    rw [← efo]
    have hz : ∃ g : Nat → Int32, (∀ k, k < N_n (S_N S) → g k = tki S (nI s) (nI j) k) ∧ g = va_cpy gi gt (nI j).toNatClampNeg (nI 0).toNatClampNeg (nI (N_n (S_N S))).toNatClampNeg := by
      refine ⟨_, fun k hk => ?_, rfl⟩
      rw [nI_clamp (by omega), nI_clamp (by decide), nI_clamp (by omega)]
      unfold va_cpy
      rw [if_pos ⟨Nat.zero_le _, by omega⟩, Nat.sub_zero, ai _ (by omega)]
      unfold tki
      rw [cl_nI (by omega), cl_nI (by omega)]
    obtain ⟨g, eg, hz⟩ := hz
    rw [← hz]
    have loop : ∀ k q, q + k = N_n (S_N S) → (∀ k, k < q → ir (tki S (nI s) (nI j) k) 0 (N_n (S_N S) - 1 : Int)) → ab_W Y_Coat_take none l (fun r m2 h2 => r = some (.int (sp_take S (nI s) lane (nI j))) ∧ m2 = m ∧ ∃ g : Nat → Int32, h2 = ab_set h 31 (.inl (6, g)) ∧ (sp_take S (nI s) lane (nI j) = 0 → ∀ k, k < N_n (S_N S) → g k = nI (tkf S (nI s) (nI j) k))) 58 [some (.ref 1), some (.int (nI s)), some (.int lane), some (.int (nI j)), some (.int fo), some (.int (nI (sn (tkf S (nI s) (nI j)) (q)))), some (.int (nI (q)))] [] m (ab_set h 31 (.inl (6, g))) (0, 0) := by
      intro k
      induction k with
      | zero =>
        intro q hq e0
        have hqn : N_n (S_N S) = q := by omega
        subst hqn
        refine aw_iload d_Coat_take_58 rfl ?_
        refine aw_aload_n d_Coat_take_60 rfl ?_
        refine aw_get (k := 0) d_Coat_take_61 cl_Coat k_Coat_10 (by decide) a0 rfl ?_
        refine aw_get (k := 0) d_Coat_take_64 cl_Night k_Coat_82 (by decide) n0 rfl ?_
        refine aw_icmp_ge (tgt := 110) d_Coat_take_67 (by decide) (fun c67 => ?_) (fun c67 => ?_)
        · refine aw_iload d_Coat_take_110 rfl ?_
          refine aw_aload_n d_Coat_take_112 rfl ?_
          refine aw_get (k := 0) d_Coat_take_113 cl_Coat k_Coat_10 (by decide) a0 rfl ?_
          refine aw_v0i (a := 2) d_Coat_take_116 k_Coat_250 ok_Night_all rfl ⟨rfl, rfl⟩ cl_Night n0 (c_all2 (h := ab_set h 31 (.inl (6, g))) n0 hn6) rfl rfl (Nat.le_of_ble_eq_true rfl) ?_
          refine aw_icmp_ne (tgt := 126) d_Coat_take_119 (by decide) (fun c119 => ?_) (fun c119 => ?_)
          · refine aw_bipush (v := (-2)) d_Coat_take_126 (by decide) ?_
            refine aw_ireturn d_Coat_take_128 rfl rfl ?_
            have hx : ∀ k, k < N_n (S_N S) → tkf S (nI s) (nI j) k < N_n (S_N S) := fun k hk => (tkf_in hk (e0 k hk)).2
            have s1 := sn_lt (x := tkf S (nI s) (nI j)) (N_n (S_N S)) (fun k hk => by have := hx k hk; omega)
            have s2 := b_63 _ hn6
            first
              | (have t1 : tkg S (nI s) (nI j) = true := (tkg_ne hn6 e0).mpr ((sn_all hn6 hx).mp ((nI_eq (by omega) (by omega)).mp c119))
                 have t2 : sp_take S (nI s) lane (nI j) = 0 := by
                   unfold sp_take
                   rw [hf0, if_neg (by decide), if_pos t1]
                 rw [t2]
                 exact ⟨rfl, rfl, g, rfl, fun _ k hk => (eg k hk).trans (tkf_in hk (e0 k hk)).1⟩)
              | (have t1 : ¬ tkg S (nI s) (nI j) = true := fun z => c119 (by rw [(sn_all hn6 hx).mpr ((tkg_ne hn6 e0).mp z)])
                 have t2 : sp_take S (nI s) lane (nI j) = -2 := by
                   unfold sp_take
                   rw [hf0, if_neg (by decide), if_neg t1]
                 rw [t2]
                 exact ⟨rfl, rfl, g, rfl, fun z => absurd z (by decide)⟩)
          · refine aw_iconst (v := nI 0) d_Coat_take_122 (by decide) ?_
            refine aw_goto (tgt := 128) d_Coat_take_123 (by decide) ?_
            refine aw_ireturn d_Coat_take_128 rfl rfl ?_
            have hx : ∀ k, k < N_n (S_N S) → tkf S (nI s) (nI j) k < N_n (S_N S) := fun k hk => (tkf_in hk (e0 k hk)).2
            have s1 := sn_lt (x := tkf S (nI s) (nI j)) (N_n (S_N S)) (fun k hk => by have := hx k hk; omega)
            have s2 := b_63 _ hn6
            first
              | (have t1 : tkg S (nI s) (nI j) = true := (tkg_ne hn6 e0).mpr ((sn_all hn6 hx).mp ((nI_eq (by omega) (by omega)).mp c119))
                 have t2 : sp_take S (nI s) lane (nI j) = 0 := by
                   unfold sp_take
                   rw [hf0, if_neg (by decide), if_pos t1]
                 rw [t2]
                 exact ⟨rfl, rfl, g, rfl, fun _ k hk => (eg k hk).trans (tkf_in hk (e0 k hk)).1⟩)
              | (have t1 : ¬ tkg S (nI s) (nI j) = true := fun z => c119 (by rw [(sn_all hn6 hx).mpr ((tkg_ne hn6 e0).mp z)])
                 have t2 : sp_take S (nI s) lane (nI j) = -2 := by
                   unfold sp_take
                   rw [hf0, if_neg (by decide), if_neg t1]
                 rw [t2]
                 exact ⟨rfl, rfl, g, rfl, fun z => absurd z (by decide)⟩)
        · exact absurd (Int32.le_refl _) c67
      | succ k ih =>
        intro q hq e0
        refine aw_iload d_Coat_take_58 rfl ?_
        refine aw_aload_n d_Coat_take_60 rfl ?_
        refine aw_get (k := 0) d_Coat_take_61 cl_Coat k_Coat_10 (by decide) a0 rfl ?_
        refine aw_get (k := 0) d_Coat_take_64 cl_Night k_Coat_82 (by decide) n0 rfl ?_
        refine aw_icmp_ge (tgt := 110) d_Coat_take_67 (by decide) (fun c67 => ?_) (fun c67 => ?_)
        · exact absurd c67 (nI_ge (by omega) (by omega))
        · refine aw_aload_n d_Coat_take_70 rfl ?_
          refine aw_get (k := 0) d_Coat_take_71 cl_Coat k_Coat_10 (by decide) a0 rfl ?_
          refine aw_aload_n d_Coat_take_74 rfl ?_
          refine aw_get (k := 5) d_Coat_take_75 cl_Coat k_Coat_33 (by decide) a0 rfl ?_
          refine aw_iload d_Coat_take_78 rfl ?_
          refine aw_ialoadN d_Coat_take_80 rfl (by omega) (by decide) ?_
          rw [eg q (by omega)]
          refine aw_v0i (a := 2) d_Coat_take_81 k_Coat_93 ok_Night_isPerson rfl ⟨rfl, rfl⟩ cl_Night n0 (c_isPerson (h := ab_set h 31 (.inl (6, g))) n0 (tki S (nI s) (nI j) q)) rfl rfl (Nat.le_of_ble_eq_true rfl) ?_
          refine aw_if_ne (tgt := 90) d_Coat_take_84 (by decide) (fun c84 => ?_) (fun c84 => ?_)
          · have ir2 : ir (tki S (nI s) (nI j) q) 0 (N_n (S_N S) - 1 : Int) := by
              have c := ab_bl_1.mp c84
              simp only [Bool.and_eq_true, Bool.not_eq_true', decide_eq_false_iff_not, fa_lt, fa_le, hnT, Int32.toInt_zero] at c
              omega
            have tk := tkf_in (show q < N_n (S_N S) by omega) ir2
            refine aw_iload d_Coat_take_90 rfl ?_
            refine aw_iconst (v := nI 1) d_Coat_take_92 (by decide) ?_
            refine aw_aload_n d_Coat_take_93 rfl ?_
            refine aw_get (k := 5) d_Coat_take_94 cl_Coat k_Coat_33 (by decide) a0 rfl ?_
            refine aw_iload d_Coat_take_97 rfl ?_
            refine aw_ialoadN d_Coat_take_99 rfl (by omega) (by decide) ?_
            rw [eg q (by omega), tk.1]
            refine aw_ishl d_Coat_take_100 ?_
            refine aw_ior d_Coat_take_101 ?_
            rw [b_one (by omega), fa_or]
            refine aw_istore (L' := [some (.ref 1), some (.int (nI s)), some (.int lane), some (.int (nI j)), some (.int fo), some (.int (nI (sn (tkf S (nI s) (nI j)) (q + 1)))), some (.int (nI (q)))]) d_Coat_take_102 ⟨by decide, rfl⟩ rfl ?_
            refine aw_iinc (v := nI ((q) + 1)) (L' := [some (.ref 1), some (.int (nI s)), some (.int lane), some (.int (nI j)), some (.int fo), some (.int (nI (sn (tkf S (nI s) (nI j)) (q + 1)))), some (.int (nI ((q) + 1)))]) d_Coat_take_104 rfl (nI_1 _) ⟨by decide, rfl⟩ rfl ?_
            refine aw_goto (tgt := 58) d_Coat_take_107 (by decide) ?_
            exact ih (q + 1) (by omega) (fun k hk => by
              by_cases e : k = q
              · subst e; exact ir2
              · exact e0 k (by omega))
          · refine aw_bipush (v := (-2)) d_Coat_take_87 (by decide) ?_
            refine aw_ireturn d_Coat_take_89 rfl rfl ?_
            have t1 : ¬ tkg S (nI s) (nI j) = true := fun z => by
              have c := ab_bl_0.mp c84
              have z2 := (tkg_iff.mp z q (by omega)).1
              simp only [Bool.and_eq_false_iff, Bool.not_eq_false', decide_eq_true_eq, fa_lt, fa_le, hnT, Int32.toInt_zero] at c
              obtain ⟨z3, z4⟩ := z2
              omega
            have t2 : sp_take S (nI s) lane (nI j) = -2 := by
              unfold sp_take
              rw [hf0, if_neg (by decide), if_neg t1]
            rw [t2]
            exact ⟨rfl, rfl, g, rfl, fun z => absurd z (by decide)⟩
    exact loop (N_n (S_N S)) 0 (by omega) (fun k hk => absurd hk (Nat.not_lt_zero _))
  · refine aw_iload d_Coat_take_24 rfl ?_
    refine aw_ireturn d_Coat_take_26 rfl rfl ?_
    have t2 : sp_take S sh lane i = v17 := by
      unfold sp_take
      rw [if_pos (by rw [← ev17]; exact Int32.not_le.mp c21), ev17]
    rw [t2]
    exact ⟨rfl, rfl, gt, (ab_set_eq ht).symm, fun z => absurd c21 (by rw [z]; decide)⟩
