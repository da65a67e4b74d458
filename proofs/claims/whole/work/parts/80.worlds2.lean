theorem b_mod (b n : Nat) {q : Nat} (hq : q < n) : b % 2 ^ n / 2 ^ q % 2 = 1 ↔ b / 2 ^ q % 2 = 1 := by
  rw [b_tb, b_tb, Nat.testBit_mod_two_pow, decide_eq_true hq, Bool.true_and]
theorem or_sub_all : (List.range 64).all (fun g => (List.range 6).all (fun c => decide (g / 2 ^ c % 2 = 1) || decide ((g ||| 2 ^ c) - 2 ^ c = g))) = true := by decide +kernel
theorem or_sub {g c : Nat} (hg : g < 64) (hc : c < 6) (h : ¬ g / 2 ^ c % 2 = 1) : (g ||| 2 ^ c) - 2 ^ c = g := by
  have z := List.all_eq_true.mp (List.all_eq_true.mp or_sub_all g (List.mem_range.mpr hg)) c (List.mem_range.mpr hc)
  rw [decide_eq_false h, Bool.false_or] at z
  exact of_decide_eq_true z
abbrev HG (h : ab_H) (g3 g4 : Nat → Int32) : ab_H := ab_set (ab_set h 33 (.inl (6, g3))) 34 (.inl (64, g4))
theorem hg_set (h : ab_H) (g3 g4 a b : Nat → Int32) : HG (HG h g3 g4) a b = HG h a b := by
  unfold HG
  rw [ab_set_swap (show 34 ≠ 33 by decide), ab_set_set, ab_set_set]
theorem PX.gv {V : VV} {m : Nat} {h : ab_H} {S : SS} (hX : PX V m h S) (g3 g4 : Nat → Int32) : PX V m (HG h g3 g4) S := by
  obtain ⟨p0, p1, p2, p3, p4, p5, p6, p7⟩ := hX
  have e : ∀ k, k < 33 ∨ 34 < k → HG h g3 g4 k = h k := fun k hk => by unfold HG; rw [ab_set_ne (by omega), ab_set_ne (by omega)]
  exact ⟨p0.fr (fun k _ _ => e k (by omega)), p1.fr (fun k _ _ => e k (by omega)), p2.fr (fun k _ _ => e k (by omega)), ⟨p3.1, p3.2.1, ⟨g3, rfl⟩, ⟨g4, rfl⟩⟩, p4.fr (fun k _ _ => e k (by omega)), p5.fr (fun k _ _ => e k (by omega)), p6.fr (fun k _ _ => e k (by omega)), p7.fr (fun k _ => e k (by omega))⟩
/-- coats that one more may be given -/
def gC (n : Nat) (al : Nat → Nat) (G : Nat) : Nat := (al (pop G) &&& (2 ^ n - 1)) &&& (63 ^^^ G)
theorem gC_bit {n : Nat} {al : Nat → Nat} {G c : Nat} (hc : c < 6) : gC n al G / 2 ^ c % 2 = 1 ↔ al (pop G) / 2 ^ c % 2 = 1 ∧ c < n ∧ ¬ G / 2 ^ c % 2 = 1 := by
  unfold gC
  rw [b_and, b_and, b_low, b_not _ hc]
  exact ⟨fun h => ⟨h.1.1, h.1.2, h.2⟩, fun h => ⟨⟨h.1, h.2.1⟩, h.2.2⟩⟩
theorem gC_lt {n : Nat} {al : Nat → Nat} {G : Nat} (h : al (pop G) < 64) : gC n al G < 64 := and_63 (and_63 h)
theorem b_six {s c : Nat} (hs : s < 64) (h : s / 2 ^ c % 2 = 1) : c < 6 := Nat.not_le.mp (fun z => b_out (n := 6) hs z h)
theorem wz_step {n : Nat} {al : Nat → Nat} {G : Nat} (hn : n ≤ 6) (hG : G < 2 ^ n) (ha : al (pop G) < 64) {g : Nat → Int32} (hg : ∀ s, s < 2 ^ n → g s = nI (wz al G s)) : ∀ s, s < 2 ^ n → gv g G (gC n al G) 6 s = nI (wz al (G + 1) s) := by
  intro s hs
  have hG6 : G < 64 := two_le6 hn hG
  have hs6 : s < 64 := two_le6 hn hs
  unfold gv
  by_cases q : ∃ c, c < 6 ∧ gC n al G / 2 ^ c % 2 = 1 ∧ s = G ||| 2 ^ c
  · rw [if_pos q]
    obtain ⟨c, hc, h1, h2⟩ := q
    have h1 := (gC_bit hc).mp h1
    have sc : s / 2 ^ c % 2 = 1 := by rw [h2, b_orr, b_pow]; exact Or.inr rfl
    have sg : s - 2 ^ c = G := by rw [h2]; exact or_sub hG6 hc h1.2.2
    rw [wz_hit al hs6 hG6 hc sc sg h1.1, hg s hs, hg G hG, nI_add, wz_G al hG6 (Nat.le_refl _)]
  · rw [if_neg q, hg s hs, wz_no al hs6]
    intro c hc h1 h2 h3
    have bt := bs_t hs6 hc h1
    refine q ⟨c, hc, (gC_bit hc).mpr ⟨h3, Nat.not_le.mp (fun z => b_out hs z h1), fun z => ?_⟩, ?_⟩
    · rw [← h2] at z
      exact ((bt.2.2.2.2 c hc).mp z).2 rfl
    · rw [← h2]; exact bt.2.2.1.symm
theorem wz_skip {n : Nat} {al : Nat → Nat} {G : Nat} (hn : n ≤ 6) (hG : G < 2 ^ n) (ha : al (pop G) < 64) {g : Nat → Int32} (hg : ∀ s, s < 2 ^ n → g s = nI (wz al G s)) (h0 : g G = 0) : ∀ s, s < 2 ^ n → g s = nI (wz al (G + 1) s) := by
  intro s hs
  rw [← wz_step hn hG ha hg s hs]
  unfold gv
  split
  · rw [h0, Int32.add_zero]
  · rfl
/-- the coats that the class' night lets one have, as numbers -/
def mya (ga : Nat → Int32) (k : Nat) : Nat := cl (ga k)
theorem c_giveOneMore {m : Nat} {h : ab_H} (hG0 : h 32 = oG) {g : Nat → Int32} (hw : h 34 = .inl (64, g)) {G C : Nat} (hG : G < 64) (hC : C < 64) (hd : ∀ c, C / 2 ^ c % 2 = 1 → ¬ G / 2 ^ c % 2 = 1) : ab_D Y_Givings_giveOneMore [.ref 32, .int (nI G), .int (nI C)] m h (none) m (ab_set h 34 (.inl (64, gv g G C 6))) := by
  refine ab_C.of (L := [some (.ref 32), some (.int (nI G)), some (.int (nI C)), none]) rfl rfl (Nat.le_of_ble_eq_true rfl) (fun l => ?_)
  have loop : ∀ kf j, j + kf = 6 → ab_W Y_Givings_giveOneMore none l (fun r m2 h2 => r = none ∧ m2 = m ∧ h2 = ab_set h 34 (.inl (64, gv g G C 6))) 2 [some (.ref 32), some (.int (nI G)), some (.int (nI C)), some (.int (nI (j)))] [] m (ab_set h 34 (.inl (64, gv g G C (j)))) (0, 0) := by
    intro kf
    induction kf with
    | zero =>
      intro j hj 
      have hjn : 6 = j := by omega
      subst hjn
      refine aw_iload_n d_Givings_giveOneMore_2 rfl ?_
      refine aw_bipush (v := nI 6) d_Givings_giveOneMore_3 (by decide) ?_
      refine aw_icmp_ge (tgt := 41) d_Givings_giveOneMore_5 (by decide) (fun c5 => ?_) (fun c5 => ?_)
      · refine aw_return d_Givings_giveOneMore_41 rfl ?_
        exact ⟨rfl, rfl, rfl⟩
      · exact absurd (Int32.le_refl _) c5
    | succ kf ih =>
      intro j hj 
      refine aw_iload_n d_Givings_giveOneMore_2 rfl ?_
      refine aw_bipush (v := nI 6) d_Givings_giveOneMore_3 (by decide) ?_
      refine aw_icmp_ge (tgt := 41) d_Givings_giveOneMore_5 (by decide) (fun c5 => ?_) (fun c5 => ?_)
      · exact absurd c5 (nI_ge (by omega) (by omega))
      · refine aw_iload_n d_Givings_giveOneMore_8 rfl ?_
        refine aw_iload_n d_Givings_giveOneMore_9 rfl ?_
        refine aw_ishr d_Givings_giveOneMore_10 ?_
        refine aw_iconst (v := nI 1) d_Givings_giveOneMore_11 (by decide) ?_
        refine aw_iand d_Givings_giveOneMore_12 ?_
        rw [b_at (by omega) (by omega)]
        refine aw_if_eq (tgt := 35) d_Givings_giveOneMore_13 (by decide) (fun c13 => ?_) (fun c13 => ?_)
        · refine aw_iinc (v := nI ((j) + 1)) (L' := [some (.ref 32), some (.int (nI G)), some (.int (nI C)), some (.int (nI ((j) + 1)))]) d_Givings_giveOneMore_35 rfl (nI_1 _) ⟨by decide, rfl⟩ rfl ?_
          refine aw_goto (tgt := 2) d_Givings_giveOneMore_38 (by decide) ?_
          first
            | (rw [← gv_n (b_z.mp c13)]
               exact ih (j + 1) (by omega))
            | (rw [ab_set_set, gv_y hd (b_nz.mp c13)]
               exact ih (j + 1) (by omega))
        · refine aw_aload_n d_Givings_giveOneMore_16 rfl ?_
          refine aw_get (k := 1) d_Givings_giveOneMore_17 cl_Givings k_Givings_15 (by decide) hG0 rfl ?_
          refine aw_iload_n d_Givings_giveOneMore_20 rfl ?_
          refine aw_iconst (v := nI 1) d_Givings_giveOneMore_21 (by decide) ?_
          refine aw_iload_n d_Givings_giveOneMore_22 rfl ?_
          refine aw_ishl d_Givings_giveOneMore_23 ?_
          refine aw_ior d_Givings_giveOneMore_24 ?_
          rw [b_one (by omega), fa_or]
          refine aw_dup2 d_Givings_giveOneMore_25 rfl rfl ?_
          refine aw_ialoadN d_Givings_giveOneMore_26 rfl (b_or (k := 6) hG (p6_lt (by omega))) (by decide) ?_
          refine aw_aload_n d_Givings_giveOneMore_27 rfl ?_
          refine aw_get (k := 1) d_Givings_giveOneMore_28 cl_Givings k_Givings_15 (by decide) hG0 rfl ?_
          refine aw_iload_n d_Givings_giveOneMore_31 rfl ?_
          refine aw_ialoadN d_Givings_giveOneMore_32 rfl (by omega) (by decide) ?_
          refine aw_iadd d_Givings_giveOneMore_33 ?_
          refine aw_iastoreN d_Givings_giveOneMore_34 rfl (b_or (k := 6) hG (p6_lt (by omega))) (by decide) ?_
          refine aw_iinc (v := nI ((j) + 1)) (L' := [some (.ref 32), some (.int (nI G)), some (.int (nI C)), some (.int (nI ((j) + 1)))]) d_Givings_giveOneMore_35 rfl (nI_1 _) ⟨by decide, rfl⟩ rfl ?_
          refine aw_goto (tgt := 2) d_Givings_giveOneMore_38 (by decide) ?_
          first
            | (rw [← gv_n (b_z.mp c13)]
               exact ih (j + 1) (by omega))
            | (rw [ab_set_set, gv_y hd (b_nz.mp c13)]
               exact ih (j + 1) (by omega))
  refine aw_iconst (v := nI 0) d_Givings_giveOneMore_0 (by decide) ?_
  refine aw_istore_n (L' := [some (.ref 32), some (.int (nI G)), some (.int (nI C)), some (.int (nI 0))]) d_Givings_giveOneMore_1 ⟨by decide, rfl⟩ rfl ?_
  have z := loop 6 0 (by omega)
  rw [gv_0, ab_set_eq hw] at z
  exact z
theorem c_number {m : Nat} {h : ab_H} (hG0 : h 32 = oG) {n : Nat} (hn : n ≤ 6) {g3 g4 : Nat → Int32} (h3 : h 33 = .inl (6, g3)) (h4 : h 34 = .inl (64, g4)) {al : Nat → Nat} (ha : ∀ k, k < n → g3 k = nI (al k) ∧ al k < 64) : ab_C Y_Givings_number [.ref 32, .int (nI (2 ^ n - 1))] m h (fun r m2 h2 => r = some (.int (nI (wc n al))) ∧ m2 = m ∧ ∃ g2 : Nat → Int32, h2 = ab_set h 34 (.inl (64, g2))) := by
  have h64 : 2 ^ n ≤ 64 := Nat.pow_le_pow_right (by decide) hn
  have hpos := Nat.two_pow_pos n
  refine ab_C.of (L := [some (.ref 32), some (.int (nI (2 ^ n - 1))), none]) rfl rfl (Nat.le_of_ble_eq_true rfl) (fun l => ?_)
  have loop : ∀ kf G (g2 : Nat → Int32), G + kf = 2 ^ n - 1 → (∀ s, s < 2 ^ n → g2 s = nI (wz al G s)) → ab_W Y_Givings_number none l (fun r m2 h2 => r = some (.int (nI (wc n al))) ∧ m2 = m ∧ ∃ g2 : Nat → Int32, h2 = ab_set h 34 (.inl (64, g2))) 17 [some (.ref 32), some (.int (nI (2 ^ n - 1))), some (.int (nI (G)))] [] m (ab_set h 34 (.inl (64, g2))) (0, 0) := by
    intro kf
    induction kf with
    | zero =>
      intro G g2 hG hg
      have hGn : 2 ^ n - 1 = G := by omega
      subst hGn
      refine aw_iload_n d_Givings_number_17 rfl ?_
      refine aw_iload_n d_Givings_number_18 rfl ?_
      refine aw_icmp_ge (tgt := 57) d_Givings_number_19 (by decide) (fun c19 => ?_) (fun c19 => ?_)
      · refine aw_aload_n d_Givings_number_57 rfl ?_
        refine aw_get (k := 1) d_Givings_number_58 cl_Givings k_Givings_15 (by decide) hG0 rfl ?_
        refine aw_iload_n d_Givings_number_61 rfl ?_
        refine aw_ialoadN d_Givings_number_62 rfl (by omega) (by decide) ?_
        refine aw_ireturn d_Givings_number_63 rfl rfl ?_
        exact ⟨by rw [hg _ (by omega), wz_G al (b_63 n hn) (Nat.le_refl _), pop_low n (by omega), wc_W hn], rfl, g2, rfl⟩
      · exact absurd (Int32.le_refl _) c19
    | succ kf ih =>
      intro G g2 hG hg
      refine aw_iload_n d_Givings_number_17 rfl ?_
      refine aw_iload_n d_Givings_number_18 rfl ?_
      refine aw_icmp_ge (tgt := 57) d_Givings_number_19 (by decide) (fun c19 => ?_) (fun c19 => ?_)
      · exact absurd c19 (nI_ge (by omega) (by omega))
      · have hGn : G < 2 ^ n := by omega
        have hG6 : G < 64 := two_le6 hn hGn
        have hpG : pop G < n := pop_in hn (by omega)
        refine aw_aload_n d_Givings_number_22 rfl ?_
        refine aw_get (k := 1) d_Givings_number_23 cl_Givings k_Givings_15 (by decide) hG0 rfl ?_
        refine aw_iload_n d_Givings_number_26 rfl ?_
        refine aw_ialoadN d_Givings_number_27 rfl (by omega) (by decide) ?_
        refine aw_if_eq (tgt := 51) d_Givings_number_28 (by decide) (fun c28 => ?_) (fun c28 => ?_)
        · refine aw_iinc (v := nI ((G) + 1)) (L' := [some (.ref 32), some (.int (nI (2 ^ n - 1))), some (.int (nI ((G) + 1)))]) d_Givings_number_51 rfl (nI_1 _) ⟨by decide, rfl⟩ rfl ?_
          refine aw_goto (tgt := 17) d_Givings_number_54 (by decide) ?_
          first
            | exact ih (G + 1) g2 (by omega) (wz_skip hn hGn (ha _ hpG).2 hg c28)
            | (rw [ab_set_set]
               exact ih (G + 1) _ (by omega) (wz_step hn hGn (ha _ hpG).2 hg))
        · refine aw_aload_n d_Givings_number_31 rfl ?_
          refine aw_iload_n d_Givings_number_32 rfl ?_
          refine aw_aload_n d_Givings_number_33 rfl ?_
          refine aw_get (k := 0) d_Givings_number_34 cl_Givings k_Givings_9 (by decide) hG0 rfl ?_
          refine aw_iload_n d_Givings_number_37 rfl ?_
          refine aw_s0i d_Givings_number_38 k_Givings_24 ok_JI_bitCount rfl ⟨rfl, rfl⟩ (c_bitCount G hG6) rfl rfl (Nat.le_of_ble_eq_true rfl) ?_
          refine aw_ialoadN d_Givings_number_41 h3 (by omega) (by decide) ?_
          rw [(ha _ hpG).1]
          refine aw_iload_n d_Givings_number_42 rfl ?_
          refine aw_iand d_Givings_number_43 ?_
          rw [fa_and]
          refine aw_iload_n d_Givings_number_44 rfl ?_
          refine aw_iconst (v := (-1)) d_Givings_number_45 (by decide) ?_
          refine aw_ixor d_Givings_number_46 ?_
          refine aw_iand d_Givings_number_47 ?_
          rw [b_andn _ (and_63 (ha _ hpG).2) _ hG6]
          refine aw_v0v (a := 32) d_Givings_number_48 k_Givings_30 ok_Givings_giveOneMore rfl ⟨rfl, rfl⟩ cl_Givings hG0 (c_giveOneMore (h := ab_set h 34 (.inl (64, g2))) hG0 rfl hG6 (gC_lt (ha _ hpG).2) (fun c hc => ((gC_bit (b_six (gC_lt (ha _ hpG).2) hc)).mp hc).2.2)) rfl rfl (Nat.le_of_ble_eq_true rfl) ?_
          refine aw_iinc (v := nI ((G) + 1)) (L' := [some (.ref 32), some (.int (nI (2 ^ n - 1))), some (.int (nI ((G) + 1)))]) d_Givings_number_51 rfl (nI_1 _) ⟨by decide, rfl⟩ rfl ?_
          refine aw_goto (tgt := 17) d_Givings_number_54 (by decide) ?_
          first
            | exact ih (G + 1) g2 (by omega) (wz_skip hn hGn (ha _ hpG).2 hg c28)
            | (rw [ab_set_set]
               exact ih (G + 1) _ (by omega) (wz_step hn hGn (ha _ hpG).2 hg))
  refine aw_aload_n d_Givings_number_0 rfl ?_
  refine aw_get (k := 1) d_Givings_number_1 cl_Givings k_Givings_15 (by decide) hG0 rfl ?_
  refine aw_iconst (v := nI 0) d_Givings_number_4 (by decide) ?_
  refine aw_s0v d_Givings_number_5 k_Givings_18 ok_JA_fill rfl ⟨rfl, rfl⟩ (c_fill (a := 34) h4 (by decide) (nI 0)) rfl rfl (Nat.le_of_ble_eq_true rfl) ?_
  refine aw_aload_n d_Givings_number_8 rfl ?_
  refine aw_get (k := 1) d_Givings_number_9 cl_Givings k_Givings_15 (by decide) hG0 rfl ?_
  refine aw_iconst (v := nI 0) d_Givings_number_12 (by decide) ?_
  refine aw_iconst (v := nI 1) d_Givings_number_13 (by decide) ?_
  refine aw_iastoreN d_Givings_number_14 rfl (by omega) (by decide) ?_
  refine aw_iconst (v := nI 0) d_Givings_number_15 (by decide) ?_
  refine aw_istore_n (L' := [some (.ref 32), some (.int (nI (2 ^ n - 1))), some (.int (nI 0))]) d_Givings_number_16 ⟨by decide, rfl⟩ rfl ?_
  rw [ab_set_set]
  exact loop (2 ^ n - 1) 0 _ (by omega) (fun s hs => by
    rw [wz_0]
    by_cases e : s = 0
    · subst e; rw [pk_us]; rfl
    · rw [pk_un e, fa_fill_in (by omega), if_neg e])
theorem c_worldsOf {m : Nat} {h : ab_H} (hG0 : h 32 = oG) {g3 g4 : Nat → Int32} (h3 : h 33 = .inl (6, g3)) (h4 : h 34 = .inl (64, g4)) {N : NS} (hX : NX h 2 N) (ok : N_ok N) : ab_C Y_Givings_worldsOf [.ref 32, .ref 2] m h (fun r m2 h2 => r = some (.int (nI (ww N))) ∧ m2 = m ∧ ∃ g3 g4 : Nat → Int32, h2 = HG h g3 g4) := by
  obtain ⟨n0, ⟨gx, hx, ax⟩, ⟨gy, hy, ay⟩, ⟨gm, hm, am⟩, ⟨gl, hl, al⟩, ⟨ga, ha, aa⟩, ⟨gi, hi, ai⟩, ⟨gj, hj0, aj⟩, ⟨gf, hf0, af⟩⟩ := id hX
  have hn6 : N_n N ≤ 6 := ok.1
  have hns : N_ns N ≤ 4 := ok.2.2.2.2.2.2.2.2.1
  have hpm := ok.pm
  have hw6 := ok.w6
  have hfx := ok.2.2.1
  have bx := ok.2.2.2.2.2.1
  have bi := ok.2.2.2.2.2.2.2.2.2.1
  have mb : ∀ k, k < N_n N → ga k = nI (mya ga k) ∧ mya ga k < 64 ∧ mya ga k % 2 ^ N_n N = N_ma N k := by
    intro k hk
    obtain ⟨b, h1, h2, h3⟩ := aa k hk
    have e : mya ga k = b := by unfold mya; rw [h2]; exact cl_nI (by omega)
    rw [e]
    exact ⟨h2, h1, h3⟩
  have mbit : ∀ k, k < N_n N → ∀ b, b < N_n N → (mya ga k / 2 ^ b % 2 = 1 ↔ N_ma N k / 2 ^ b % 2 = 1) := fun k hk b hb => by
    rw [← (mb k hk).2.2, b_mod _ _ hb]
  have ec : ∀ k, k < 6 → va_cpy ga g3 (nI 0).toNatClampNeg (nI 0).toNatClampNeg (nI 6).toNatClampNeg k = ga k := fun k hk => by
    rw [nI_clamp (by decide), nI_clamp (by decide)]
    rw [pk_cpy_in (by omega) (by omega), Nat.zero_add, Nat.sub_zero]
  refine ab_C.of (L := [some (.ref 32), some (.ref 2)]) rfl rfl (Nat.le_of_ble_eq_true rfl) (fun l => ?_)
  refine aw_aload_n d_Givings_worldsOf_0 rfl ?_
  refine aw_get (k := 5) d_Givings_worldsOf_1 cl_Night k_Givings_34 (by decide) n0 rfl ?_
  refine aw_iconst (v := nI 0) d_Givings_worldsOf_4 (by decide) ?_
  refine aw_aload_n d_Givings_worldsOf_5 rfl ?_
  refine aw_get (k := 0) d_Givings_worldsOf_6 cl_Givings k_Givings_9 (by decide) hG0 rfl ?_
  refine aw_iconst (v := nI 0) d_Givings_worldsOf_9 (by decide) ?_
  refine aw_bipush (v := nI 6) d_Givings_worldsOf_10 (by decide) ?_
  refine aw_copy d_Givings_worldsOf_12 k_Givings_39 ⟨by decide, Nat.le_of_ble_eq_true rfl⟩ ha h3 (by decide) (by decide) (by decide) (by decide) (by decide) ?_
  refine aw_aload_n d_Givings_worldsOf_15 rfl ?_
  refine aw_aload_n d_Givings_worldsOf_16 rfl ?_
  refine aw_v0i (a := 2) d_Givings_worldsOf_17 k_Givings_45 ok_Night_all rfl ⟨rfl, rfl⟩ cl_Night n0 (c_all2 n0 hn6) rfl rfl (Nat.le_of_ble_eq_true rfl) ?_
  refine aw_v0 (a := 32) d_Givings_worldsOf_20 k_Givings_49 ok_Givings_number rfl ⟨rfl, rfl⟩ cl_Givings hG0 (c_number (h := ab_set h 33 (.inl (6, va_cpy ga g3 (nI 0).toNatClampNeg (nI 0).toNatClampNeg (nI 6).toNatClampNeg))) (g3 := va_cpy ga g3 (nI 0).toNatClampNeg (nI 0).toNatClampNeg (nI 6).toNatClampNeg) (al := mya ga) hG0 hn6 rfl h4 (fun k hk => ⟨(ec k (by omega)).trans (mb k hk).1, (mb k hk).2.1⟩)) rfl rfl (Nat.le_of_ble_eq_true rfl) (fun r m2 h2 q => ?_)
  obtain ⟨rfl, em, g5, rfl⟩ := q
  rw [em]
  show ab_W _ _ _ _ 23 _ [.int (nI (wc (N_n N) (mya ga)))] _ _ _
  refine aw_ireturn d_Givings_worldsOf_23 rfl rfl ?_
  exact ⟨by rw [wc_cong hn6 mbit]; rfl, rfl, _, g5, rfl⟩
theorem c_worldsWith {m : Nat} {h : ab_H} (hG0 : h 32 = oG) {g3 g4 : Nat → Int32} (h3 : h 33 = .inl (6, g3)) (h4 : h 34 = .inl (64, g4)) {N : NS} (hX : NX h 2 N) (ok : N_ok N) {w c : Nat} (hw : w < N_n N) (hc : c < N_n N) : ab_C Y_Givings_worldsWith [.ref 32, .ref 2, .int (nI w), .int (nI c)] m h (fun r m2 h2 => r = some (.int (nI (wb N w c))) ∧ m2 = m ∧ ∃ g3 g4 : Nat → Int32, h2 = HG h g3 g4) := by
  obtain ⟨n0, ⟨gx, hx, ax⟩, ⟨gy, hy, ay⟩, ⟨gm, hm, am⟩, ⟨gl, hl, al⟩, ⟨ga, ha, aa⟩, ⟨gi, hi, ai⟩, ⟨gj, hj0, aj⟩, ⟨gf, hf0, af⟩⟩ := id hX
  have hn6 : N_n N ≤ 6 := ok.1
  have hns : N_ns N ≤ 4 := ok.2.2.2.2.2.2.2.2.1
  have hpm := ok.pm
  have hw6 := ok.w6
  have hfx := ok.2.2.1
  have bx := ok.2.2.2.2.2.1
  have bi := ok.2.2.2.2.2.2.2.2.2.1
  have mb : ∀ k, k < N_n N → ga k = nI (mya ga k) ∧ mya ga k < 64 ∧ mya ga k % 2 ^ N_n N = N_ma N k := by
    intro k hk
    obtain ⟨b, h1, h2, h3⟩ := aa k hk
    have e : mya ga k = b := by unfold mya; rw [h2]; exact cl_nI (by omega)
    rw [e]
    exact ⟨h2, h1, h3⟩
  have mbit : ∀ k, k < N_n N → ∀ b, b < N_n N → (mya ga k / 2 ^ b % 2 = 1 ↔ N_ma N k / 2 ^ b % 2 = 1) := fun k hk b hb => by
    rw [← (mb k hk).2.2, b_mod _ _ hb]
  have ec : ∀ k, k < 6 → va_cpy ga g3 (nI 0).toNatClampNeg (nI 0).toNatClampNeg (nI 6).toNatClampNeg k = ga k := fun k hk => by
    rw [nI_clamp (by decide), nI_clamp (by decide)]
    rw [pk_cpy_in (by omega) (by omega), Nat.zero_add, Nat.sub_zero]
  refine ab_C.of (L := [some (.ref 32), some (.ref 2), some (.int (nI w)), some (.int (nI c))]) rfl rfl (Nat.le_of_ble_eq_true rfl) (fun l => ?_)
  refine aw_aload_n d_Givings_worldsWith_0 rfl ?_
  refine aw_get (k := 5) d_Givings_worldsWith_1 cl_Night k_Givings_34 (by decide) n0 rfl ?_
  refine aw_iconst (v := nI 0) d_Givings_worldsWith_4 (by decide) ?_
  refine aw_aload_n d_Givings_worldsWith_5 rfl ?_
  refine aw_get (k := 0) d_Givings_worldsWith_6 cl_Givings k_Givings_9 (by decide) hG0 rfl ?_
  refine aw_iconst (v := nI 0) d_Givings_worldsWith_9 (by decide) ?_
  refine aw_bipush (v := nI 6) d_Givings_worldsWith_10 (by decide) ?_
  refine aw_copy d_Givings_worldsWith_12 k_Givings_39 ⟨by decide, Nat.le_of_ble_eq_true rfl⟩ ha h3 (by decide) (by decide) (by decide) (by decide) (by decide) ?_
  refine aw_aload_n d_Givings_worldsWith_15 rfl ?_
  refine aw_get (k := 0) d_Givings_worldsWith_16 cl_Givings k_Givings_9 (by decide) hG0 rfl ?_
  refine aw_iload_n d_Givings_worldsWith_19 rfl ?_
  refine aw_dup2 d_Givings_worldsWith_20 rfl rfl ?_
  refine aw_ialoadN d_Givings_worldsWith_21 rfl (by omega) (by decide) ?_
  refine aw_iconst (v := nI 1) d_Givings_worldsWith_22 (by decide) ?_
  refine aw_iload_n d_Givings_worldsWith_23 rfl ?_
  refine aw_ishl d_Givings_worldsWith_24 ?_
  refine aw_iand d_Givings_worldsWith_25 ?_
  rw [ec w (by omega), (mb w hw).1, b_one (by omega), fa_and]
  refine aw_iastoreN d_Givings_worldsWith_26 rfl (by omega) (by decide) ?_
  refine aw_aload_n d_Givings_worldsWith_27 rfl ?_
  refine aw_aload_n d_Givings_worldsWith_28 rfl ?_
  refine aw_v0i (a := 2) d_Givings_worldsWith_29 k_Givings_45 ok_Night_all rfl ⟨rfl, rfl⟩ cl_Night n0 (c_all2 n0 hn6) rfl rfl (Nat.le_of_ble_eq_true rfl) ?_
  rw [ab_set_set]
  refine aw_v0 (a := 32) d_Givings_worldsWith_32 k_Givings_49 ok_Givings_number rfl ⟨rfl, rfl⟩ cl_Givings hG0 (c_number (h := ab_set h 33 (.inl (6, upd (va_cpy ga g3 (nI 0).toNatClampNeg (nI 0).toNatClampNeg (nI 6).toNatClampNeg) w (nI (mya ga w &&& 2 ^ c))))) (g3 := upd (va_cpy ga g3 (nI 0).toNatClampNeg (nI 0).toNatClampNeg (nI 6).toNatClampNeg) w (nI (mya ga w &&& 2 ^ c))) (al := ud (mya ga) w (mya ga w &&& 2 ^ c)) hG0 hn6 rfl h4 (fun k hk => by
    by_cases e : k = w
    · subst e
      rw [pk_us, show ud (mya ga) k (mya ga k &&& 2 ^ c) k = mya ga k &&& 2 ^ c from if_pos rfl]
      exact ⟨rfl, and_63 (mb k hk).2.1⟩
    · rw [pk_un e, show ud (mya ga) w (mya ga w &&& 2 ^ c) k = mya ga k from if_neg e]
      exact ⟨(ec k (by omega)).trans (mb k hk).1, (mb k hk).2.1⟩)) rfl rfl (Nat.le_of_ble_eq_true rfl) (fun r m2 h2 q => ?_)
  obtain ⟨rfl, em, g5, rfl⟩ := q
  rw [em]
  show ab_W _ _ _ _ 35 _ [.int (nI (wc (N_n N) (ud (mya ga) w (mya ga w &&& 2 ^ c))))] _ _ _
  refine aw_ireturn d_Givings_worldsWith_35 rfl rfl ?_
  exact ⟨by rw [wb_W hn6 hw mbit], rfl, _, g5, rfl⟩
theorem c_possible {m : Nat} {h : ab_H} (hG0 : h 32 = oG) {g3 g4 : Nat → Int32} (h3 : h 33 = .inl (6, g3)) (h4 : h 34 = .inl (64, g4)) {N : NS} (hX : NX h 2 N) (ok : N_ok N) {w : Nat} (hw : w < N_n N) : ab_C Y_Givings_possible [.ref 32, .ref 2, .int (nI w)] m h (fun r m2 h2 => r = some (.int (nI (psb N w (N_n N)))) ∧ m2 = m ∧ ∃ g3 g4 : Nat → Int32, h2 = HG h g3 g4) := by
  obtain ⟨n0, ⟨gx, hx, ax⟩, ⟨gy, hy, ay⟩, ⟨gm, hm, am⟩, ⟨gl, hl, al⟩, ⟨ga, ha, aa⟩, ⟨gi, hi, ai⟩, ⟨gj, hj0, aj⟩, ⟨gf, hf0, af⟩⟩ := id hX
  have hn6 : N_n N ≤ 6 := ok.1
  have hns : N_ns N ≤ 4 := ok.2.2.2.2.2.2.2.2.1
  have hpm := ok.pm
  have hw6 := ok.w6
  have hfx := ok.2.2.1
  have bx := ok.2.2.2.2.2.1
  have bi := ok.2.2.2.2.2.2.2.2.2.1
  refine ab_C.of (L := [some (.ref 32), some (.ref 2), some (.int (nI w)), none, none]) rfl rfl (Nat.le_of_ble_eq_true rfl) (fun l => ?_)
  have loop : ∀ kf j (a3 a4 : Nat → Int32), j + kf = N_n N → ab_W Y_Givings_possible none l (fun r m2 h2 => r = some (.int (nI (psb N w (N_n N)))) ∧ m2 = m ∧ ∃ g3 g4 : Nat → Int32, h2 = HG h g3 g4) 5 [some (.ref 32), some (.ref 2), some (.int (nI w)), some (.int (nI (psb N w (j)))), some (.int (nI (j)))] [] m (HG h a3 a4) (0, 0) := by
    intro kf
    induction kf with
    | zero =>
      intro j a3 a4 hj 
      have hjn : N_n N = j := by omega
      subst hjn
      refine aw_iload d_Givings_possible_5 rfl ?_
      refine aw_aload_n d_Givings_possible_7 rfl ?_
      refine aw_get (k := 0) d_Givings_possible_8 cl_Night k_Givings_52 (by decide) n0 rfl ?_
      refine aw_icmp_ge (tgt := 38) d_Givings_possible_11 (by decide) (fun c11 => ?_) (fun c11 => ?_)
      · refine aw_iload_n d_Givings_possible_38 rfl ?_
        refine aw_ireturn d_Givings_possible_39 rfl rfl ?_
        exact ⟨rfl, rfl, a3, a4, rfl⟩
      · exact absurd (Int32.le_refl _) c11
    | succ kf ih =>
      intro j a3 a4 hj 
      refine aw_iload d_Givings_possible_5 rfl ?_
      refine aw_aload_n d_Givings_possible_7 rfl ?_
      refine aw_get (k := 0) d_Givings_possible_8 cl_Night k_Givings_52 (by decide) n0 rfl ?_
      refine aw_icmp_ge (tgt := 38) d_Givings_possible_11 (by decide) (fun c11 => ?_) (fun c11 => ?_)
      · exact absurd c11 (nI_ge (by omega) (by omega))
      · refine aw_aload_n d_Givings_possible_14 rfl ?_
        refine aw_aload_n d_Givings_possible_15 rfl ?_
        refine aw_iload_n d_Givings_possible_16 rfl ?_
        refine aw_iload d_Givings_possible_17 rfl ?_
        refine aw_v0 (a := 32) d_Givings_possible_19 k_Givings_56 ok_Givings_worldsWith rfl ⟨rfl, rfl⟩ cl_Givings hG0 (c_worldsWith (h := HG h a3 a4) (N := N) hG0 rfl rfl (hX.fr (fun k _ _ => by unfold HG; rw [ab_set_ne (by omega), ab_set_ne (by omega)])) ok hw (show j < N_n N by omega)) rfl rfl (Nat.le_of_ble_eq_true rfl) (fun r m2 h2 q => ?_)
        obtain ⟨rfl, em, a5, a6, rfl⟩ := q
        rw [em, hg_set]
        show ab_W _ _ _ _ 22 _ (.int (nI (wb N w j)) :: _) _ _ _
        refine aw_if_le (tgt := 32) d_Givings_possible_22 (by decide) (fun c22 => ?_) (fun c22 => ?_)
        · refine aw_iinc (v := nI ((j) + 1)) (L' := [some (.ref 32), some (.ref 2), some (.int (nI w)), some (.int (nI (psb N w (j)))), some (.int (nI ((j) + 1)))]) d_Givings_possible_32 rfl (nI_1 _) ⟨by decide, rfl⟩ rfl ?_
          refine aw_goto (tgt := 5) d_Givings_possible_35 (by decide) ?_
          have hwb := wb_le hn6 w j
          first
            | (have c22 : wb N w j ≤ 0 := (nI_leI (b := 0) (by omega) (by decide)).mp c22
               rw [show psb N w j = psb N w (j + 1) from (if_neg (by omega)).symm]
               exact ih (j + 1) a5 a6 (by omega))
            | (have c22 : 0 < wb N w j := Nat.not_le.mp (fun z => c22 (nI_le (b := 0) z (by decide)))
               rw [show psb N w j ||| 2 ^ j = psb N w (j + 1) from (if_pos c22).symm]
               exact ih (j + 1) a5 a6 (by omega))
        · refine aw_iload_n d_Givings_possible_25 rfl ?_
          refine aw_iconst (v := nI 1) d_Givings_possible_26 (by decide) ?_
          refine aw_iload d_Givings_possible_27 rfl ?_
          refine aw_ishl d_Givings_possible_29 ?_
          refine aw_ior d_Givings_possible_30 ?_
          rw [b_one (by omega), fa_or]
          refine aw_istore_n (L' := [some (.ref 32), some (.ref 2), some (.int (nI w)), some (.int (nI (psb N w j ||| 2 ^ j))), some (.int (nI (j)))]) d_Givings_possible_31 ⟨by decide, rfl⟩ rfl ?_
          refine aw_iinc (v := nI ((j) + 1)) (L' := [some (.ref 32), some (.ref 2), some (.int (nI w)), some (.int (nI (psb N w j ||| 2 ^ j))), some (.int (nI ((j) + 1)))]) d_Givings_possible_32 rfl (nI_1 _) ⟨by decide, rfl⟩ rfl ?_
          refine aw_goto (tgt := 5) d_Givings_possible_35 (by decide) ?_
          have hwb := wb_le hn6 w j
          first
            | (have c22 : wb N w j ≤ 0 := (nI_leI (b := 0) (by omega) (by decide)).mp c22
               rw [show psb N w j = psb N w (j + 1) from (if_neg (by omega)).symm]
               exact ih (j + 1) a5 a6 (by omega))
            | (have c22 : 0 < wb N w j := Nat.not_le.mp (fun z => c22 (nI_le (b := 0) z (by decide)))
               rw [show psb N w j ||| 2 ^ j = psb N w (j + 1) from (if_pos c22).symm]
               exact ih (j + 1) a5 a6 (by omega))
  refine aw_iconst (v := nI 0) d_Givings_possible_0 (by decide) ?_
  refine aw_istore_n (L' := [some (.ref 32), some (.ref 2), some (.int (nI w)), some (.int (nI 0)), none]) d_Givings_possible_1 ⟨by decide, rfl⟩ rfl ?_
  refine aw_iconst (v := nI 0) d_Givings_possible_2 (by decide) ?_
  refine aw_istore (L' := [some (.ref 32), some (.ref 2), some (.int (nI w)), some (.int (nI 0)), some (.int (nI 0))]) d_Givings_possible_3 ⟨by decide, rfl⟩ rfl ?_
  have eh : HG h g3 g4 = h := by unfold HG; rw [ab_set_eq h3, ab_set_eq h4]
  exact aw_heap eh (loop (N_n N) 0 g3 g4 (by omega))
theorem c_leftAtWorst {m : Nat} {h : ab_H} (hG0 : h 32 = oG) {g3 g4 : Nat → Int32} (h3 : h 33 = .inl (6, g3)) (h4 : h 34 = .inl (64, g4)) {N : NS} (hX : NX h 2 N) (ok : N_ok N) {w : Nat} (hw : w < N_n N) : ab_C Y_Givings_leftAtWorst [.ref 32, .ref 2, .int (nI w)] m h (fun r m2 h2 => r = some (.int (nI (lwm N w (N_n N)))) ∧ m2 = m ∧ ∃ g3 g4 : Nat → Int32, h2 = HG h g3 g4) := by
  obtain ⟨n0, ⟨gx, hx, ax⟩, ⟨gy, hy, ay⟩, ⟨gm, hm, am⟩, ⟨gl, hl, al⟩, ⟨ga, ha, aa⟩, ⟨gi, hi, ai⟩, ⟨gj, hj0, aj⟩, ⟨gf, hf0, af⟩⟩ := id hX
  have hn6 : N_n N ≤ 6 := ok.1
  have hns : N_ns N ≤ 4 := ok.2.2.2.2.2.2.2.2.1
  have hpm := ok.pm
  have hw6 := ok.w6
  have hfx := ok.2.2.1
  have bx := ok.2.2.2.2.2.1
  have bi := ok.2.2.2.2.2.2.2.2.2.1
  refine ab_C.of (L := [some (.ref 32), some (.ref 2), some (.int (nI w)), none, none]) rfl rfl (Nat.le_of_ble_eq_true rfl) (fun l => ?_)
  have loop : ∀ kf j (a3 a4 : Nat → Int32), j + kf = N_n N → ab_W Y_Givings_leftAtWorst none l (fun r m2 h2 => r = some (.int (nI (lwm N w (N_n N)))) ∧ m2 = m ∧ ∃ g3 g4 : Nat → Int32, h2 = HG h g3 g4) 5 [some (.ref 32), some (.ref 2), some (.int (nI w)), some (.int (nI (lwm N w (j)))), some (.int (nI (j)))] [] m (HG h a3 a4) (0, 0) := by
    intro kf
    induction kf with
    | zero =>
      intro j a3 a4 hj 
      have hjn : N_n N = j := by omega
      subst hjn
      refine aw_iload d_Givings_leftAtWorst_5 rfl ?_
      refine aw_aload_n d_Givings_leftAtWorst_7 rfl ?_
      refine aw_get (k := 0) d_Givings_leftAtWorst_8 cl_Night k_Givings_52 (by decide) n0 rfl ?_
      refine aw_icmp_ge (tgt := 33) d_Givings_leftAtWorst_11 (by decide) (fun c11 => ?_) (fun c11 => ?_)
      · refine aw_iload_n d_Givings_leftAtWorst_33 rfl ?_
        refine aw_ireturn d_Givings_leftAtWorst_34 rfl rfl ?_
        exact ⟨rfl, rfl, a3, a4, rfl⟩
      · exact absurd (Int32.le_refl _) c11
    | succ kf ih =>
      intro j a3 a4 hj 
      refine aw_iload d_Givings_leftAtWorst_5 rfl ?_
      refine aw_aload_n d_Givings_leftAtWorst_7 rfl ?_
      refine aw_get (k := 0) d_Givings_leftAtWorst_8 cl_Night k_Givings_52 (by decide) n0 rfl ?_
      refine aw_icmp_ge (tgt := 33) d_Givings_leftAtWorst_11 (by decide) (fun c11 => ?_) (fun c11 => ?_)
      · exact absurd c11 (nI_ge (by omega) (by omega))
      · refine aw_iload_n d_Givings_leftAtWorst_14 rfl ?_
        refine aw_aload_n d_Givings_leftAtWorst_15 rfl ?_
        refine aw_aload_n d_Givings_leftAtWorst_16 rfl ?_
        refine aw_iload_n d_Givings_leftAtWorst_17 rfl ?_
        refine aw_iload d_Givings_leftAtWorst_18 rfl ?_
        refine aw_v0 (a := 32) d_Givings_leftAtWorst_20 k_Givings_56 ok_Givings_worldsWith rfl ⟨rfl, rfl⟩ cl_Givings hG0 (c_worldsWith (h := HG h a3 a4) (N := N) hG0 rfl rfl (hX.fr (fun k _ _ => by unfold HG; rw [ab_set_ne (by omega), ab_set_ne (by omega)])) ok hw (show j < N_n N by omega)) rfl rfl (Nat.le_of_ble_eq_true rfl) (fun r m2 h2 q => ?_)
        obtain ⟨rfl, em, a5, a6, rfl⟩ := q
        rw [em, hg_set]
        show ab_W _ _ _ _ 23 _ (.int (nI (wb N w j)) :: _) _ _ _
        refine aw_max d_Givings_leftAtWorst_23 k_Givings_60 ⟨by decide, Nat.le_of_ble_eq_true rfl⟩ ?_
        refine aw_topi (fun v23 ev23 => ?_)
        refine aw_istore_n (L' := [some (.ref 32), some (.ref 2), some (.int (nI w)), some (.int v23), some (.int (nI (j)))]) d_Givings_leftAtWorst_26 ⟨by decide, rfl⟩ rfl ?_
        refine aw_iinc (v := nI ((j) + 1)) (L' := [some (.ref 32), some (.ref 2), some (.int (nI w)), some (.int v23), some (.int (nI ((j) + 1)))]) d_Givings_leftAtWorst_27 rfl (nI_1 _) ⟨by decide, rfl⟩ rfl ?_
        refine aw_goto (tgt := 5) d_Givings_leftAtWorst_30 (by decide) ?_
        have e : v23 = nI (lwm N w (j + 1)) := by
          rw [ev23]
          have hwb := wb_le hn6 w j
          have hlw := lwm_le hn6 w j
          show _ = nI (if lwm N w j < wb N w j then wb N w j else lwm N w j)
          by_cases q : lwm N w j < wb N w j
          · rw [if_pos q, if_pos (nI_lt q (by omega))]
          · rw [if_neg q, if_neg (fun z => q ((nI_ltI (by omega) (by omega)).mp z))]
        rw [e]
        exact ih (j + 1) a5 a6 (by omega)
  refine aw_iconst (v := nI 0) d_Givings_leftAtWorst_0 (by decide) ?_
  refine aw_istore_n (L' := [some (.ref 32), some (.ref 2), some (.int (nI w)), some (.int (nI 0)), none]) d_Givings_leftAtWorst_1 ⟨by decide, rfl⟩ rfl ?_
  refine aw_iconst (v := nI 0) d_Givings_leftAtWorst_2 (by decide) ?_
  refine aw_istore (L' := [some (.ref 32), some (.ref 2), some (.int (nI w)), some (.int (nI 0)), some (.int (nI 0))]) d_Givings_leftAtWorst_3 ⟨by decide, rfl⟩ rfl ?_
  have eh : HG h g3 g4 = h := by unfold HG; rw [ab_set_eq h3, ab_set_eq h4]
  exact aw_heap eh (loop (N_n N) 0 g3 g4 (by omega))
theorem x_worlds {V : VV} {m : Nat} {h : ab_H} {S : SS} (hX : PX V m h S) (ok : S_ok S)  : CX V Y_Coat_worlds [] m h (fun r S2 => (r, S2) = sp_worlds S) := by
  obtain ⟨⟨a0, ⟨n0, n1, n2, n3, n4, n5, n6, n7, n8⟩, a2⟩, p1, p2, p3, p4, p5, p6, p7⟩ := id hX
  have hn6 : N_n (S_N S) ≤ 6 := ok.1.1
  have hnT := nI_toInt (show N_n (S_N S) < 2 ^ 31 by omega)
  obtain ⟨⟨gk, hk⟩, hG0, ⟨g3, h3⟩, ⟨g4, h4⟩⟩ := id p3
  have hwl := ww_le hn6
  refine ab_C.of (L := [some (.ref 1)]) rfl rfl (Nat.le_of_ble_eq_true rfl) (fun l => ?_)
  refine aw_aload_n d_Coat_worlds_0 rfl ?_
  refine aw_get (k := 6) d_Coat_worlds_1 cl_Coat k_Coat_40 (by decide) a0 rfl ?_
  refine aw_aload_n d_Coat_worlds_4 rfl ?_
  refine aw_get (k := 0) d_Coat_worlds_5 cl_Coat k_Coat_10 (by decide) a0 rfl ?_
  refine aw_v0 (a := 32) d_Coat_worlds_8 k_Coat_256 ok_Givings_worldsOf rfl ⟨rfl, rfl⟩ cl_Givings hG0 (c_worldsOf hG0 h3 h4 hX.1.2.1 ok.1) rfl rfl (Nat.le_of_ble_eq_true rfl) (fun r m2 h2 q => ?_)
  obtain ⟨rfl, em, a3, a4, rfl⟩ := q
  rw [em]
  show ab_W _ _ _ _ 11 _ (.int (nI (ww (S_N S))) :: _) _ _ _
  refine aw_ireturn d_Coat_worlds_11 rfl rfl ?_
  refine ⟨_, S, rfl, ?_, hX.gv a3 a4, Nat.le_refl _, (fun k _ _ => by unfold HG; rw [ab_set_ne (by omega), ab_set_ne (by omega)])⟩
  rfl
theorem x_may {V : VV} {m : Nat} {h : ab_H} {S : SS} (hX : PX V m h S) (ok : S_ok S) (x w : Int32) : CX V Y_Coat_may [.int x, .int w] m h (fun r S2 => (r, S2) = sp_may S x w) := by
  obtain ⟨⟨a0, ⟨n0, n1, n2, n3, n4, n5, n6, n7, n8⟩, a2⟩, p1, p2, p3, p4, p5, p6, p7⟩ := id hX
  have hn6 : N_n (S_N S) ≤ 6 := ok.1.1
  have hnT := nI_toInt (show N_n (S_N S) < 2 ^ 31 by omega)
  obtain ⟨⟨gk, hk⟩, hG0, ⟨g3, h3⟩, ⟨g4, h4⟩⟩ := id p3
  have hwl := ww_le hn6
  refine ab_C.of (L := [some (.ref 1), some (.int x), some (.int w)]) rfl rfl (Nat.le_of_ble_eq_true rfl) (fun l => ?_)
  obtain ⟨gma, hma, ama⟩ := id n5
  refine aw_aload_n d_Coat_may_0 rfl ?_
  refine aw_get (k := 0) d_Coat_may_1 cl_Coat k_Coat_10 (by decide) a0 rfl ?_
  refine aw_iload_n d_Coat_may_4 rfl ?_
  refine aw_v0i (a := 2) d_Coat_may_5 k_Coat_93 ok_Night_isPerson rfl ⟨rfl, rfl⟩ cl_Night n0 (c_isPerson n0 x) rfl rfl (Nat.le_of_ble_eq_true rfl) ?_
  refine aw_if_eq (tgt := 20) d_Coat_may_8 (by decide) (fun c8 => ?_) (fun c8 => ?_)
  · refine aw_iconst (v := (-1)) d_Coat_may_20 (by decide) ?_
    refine aw_ireturn d_Coat_may_21 rfl rfl ?_
    refine ⟨_, S, rfl, ?_, hX, Nat.le_refl _, fun k _ _ => rfl⟩
    unfold sp_may
    rw [if_neg]
    intro z
    first
      | (have c := ab_bl_0.mp c8
         simp only [Bool.and_eq_false_iff, Bool.not_eq_false', decide_eq_true_eq, fa_lt, fa_le, hnT, Int32.toInt_zero] at c
         obtain ⟨⟨z3, z4⟩, z5⟩ := z
         omega)
      | (have z2 := z.2.1
         have z3 := z.2.2
         rw [fa_eq] at c12 c17
         rw [show (nI 1).toInt = 1 from by decide] at c17
         rw [Int32.toInt_zero] at c12
         omega)
  · obtain ⟨j, hj, rfl⟩ := ab_rng (by omega) (ab_bl_1.mp c8)
    have irx : ir (nI j) 0 (N_n (S_N S) - 1 : Int) := ⟨by rw [nI_toInt (by omega)]; omega, by rw [nI_toInt (by omega)]; omega⟩
    refine aw_iload_n d_Coat_may_11 rfl ?_
    refine aw_if_eq (tgt := 22) d_Coat_may_12 (by decide) (fun c12 => ?_) (fun c12 => ?_)
    · have w01 : w = 0 ∨ w = 1 := by
        first | exact Or.inl c12 | exact Or.inr c17
      have irw : ir w 0 1 := by
        rcases w01 with z | z <;> (rw [z]; decide)
      refine aw_iload_n d_Coat_may_22 rfl ?_
      refine aw_if_ne (tgt := 46) d_Coat_may_23 (by decide) (fun c23 => ?_) (fun c23 => ?_)
      · refine aw_aload_n d_Coat_may_46 rfl ?_
        refine aw_get (k := 6) d_Coat_may_47 cl_Coat k_Coat_40 (by decide) a0 rfl ?_
        refine aw_aload_n d_Coat_may_50 rfl ?_
        refine aw_get (k := 0) d_Coat_may_51 cl_Coat k_Coat_10 (by decide) a0 rfl ?_
        refine aw_iload_n d_Coat_may_54 rfl ?_
        refine aw_v0 (a := 32) d_Coat_may_55 k_Coat_253 ok_Givings_possible rfl ⟨rfl, rfl⟩ cl_Givings hG0 (c_possible hG0 h3 h4 hX.1.2.1 ok.1 hj) rfl rfl (Nat.le_of_ble_eq_true rfl) (fun r m2 h2 q => ?_)
        obtain ⟨rfl, em, a3, a4, rfl⟩ := q
        rw [em]
        show ab_W _ _ _ _ 58 _ (.int (nI (psb (S_N S) j (N_n (S_N S)))) :: _) _ _ _
        refine aw_ireturn d_Coat_may_58 rfl rfl ?_
        first
          | (refine ⟨_, S, rfl, ?_, hX, Nat.le_refl _, fun k _ _ => rfl⟩
             unfold sp_may
             rw [if_pos ⟨irx, irw⟩, if_pos c23, cl_nI (by omega)]
             obtain ⟨b, b1, b2, b3⟩ := ama j hj
             rw [b2, fa_mask, b3]; done)
          | (refine ⟨_, S, rfl, ?_, hX.gv a3 a4, Nat.le_refl _, (fun k _ _ => by unfold HG; rw [ab_set_ne (by omega), ab_set_ne (by omega)])⟩
             unfold sp_may
             rw [if_pos ⟨irx, irw⟩, if_neg c23, cl_nI (by omega)]; done)
      · refine aw_aload_n d_Coat_may_26 rfl ?_
        refine aw_get (k := 0) d_Coat_may_27 cl_Coat k_Coat_10 (by decide) a0 rfl ?_
        refine aw_get (k := 5) d_Coat_may_30 cl_Night k_Coat_241 (by decide) n0 rfl ?_
        refine aw_iload_n d_Coat_may_33 rfl ?_
        refine aw_ialoadN d_Coat_may_34 hma (by omega) (by decide) ?_
        refine aw_aload_n d_Coat_may_35 rfl ?_
        refine aw_get (k := 0) d_Coat_may_36 cl_Coat k_Coat_10 (by decide) a0 rfl ?_
        refine aw_v0i (a := 2) d_Coat_may_39 k_Coat_250 ok_Night_all rfl ⟨rfl, rfl⟩ cl_Night n0 (c_all2 n0 hn6) rfl rfl (Nat.le_of_ble_eq_true rfl) ?_
        refine aw_iand d_Coat_may_42 ?_
        refine aw_goto (tgt := 58) d_Coat_may_43 (by decide) ?_
        refine aw_ireturn d_Coat_may_58 rfl rfl ?_
        first
          | (refine ⟨_, S, rfl, ?_, hX, Nat.le_refl _, fun k _ _ => rfl⟩
             unfold sp_may
             rw [if_pos ⟨irx, irw⟩, if_pos c23, cl_nI (by omega)]
             obtain ⟨b, b1, b2, b3⟩ := ama j hj
             rw [b2, fa_mask, b3]; done)
          | (refine ⟨_, S, rfl, ?_, hX.gv a3 a4, Nat.le_refl _, (fun k _ _ => by unfold HG; rw [ab_set_ne (by omega), ab_set_ne (by omega)])⟩
             unfold sp_may
             rw [if_pos ⟨irx, irw⟩, if_neg c23, cl_nI (by omega)]; done)
    · refine aw_iload_n d_Coat_may_15 rfl ?_
      refine aw_iconst (v := nI 1) d_Coat_may_16 (by decide) ?_
      refine aw_icmp_eq (tgt := 22) d_Coat_may_17 (by decide) (fun c17 => ?_) (fun c17 => ?_)
      · have w01 : w = 0 ∨ w = 1 := by
          first | exact Or.inl c12 | exact Or.inr c17
        have irw : ir w 0 1 := by
          rcases w01 with z | z <;> (rw [z]; decide)
        refine aw_iload_n d_Coat_may_22 rfl ?_
        refine aw_if_ne (tgt := 46) d_Coat_may_23 (by decide) (fun c23 => ?_) (fun c23 => ?_)
        · refine aw_aload_n d_Coat_may_46 rfl ?_
          refine aw_get (k := 6) d_Coat_may_47 cl_Coat k_Coat_40 (by decide) a0 rfl ?_
          refine aw_aload_n d_Coat_may_50 rfl ?_
          refine aw_get (k := 0) d_Coat_may_51 cl_Coat k_Coat_10 (by decide) a0 rfl ?_
          refine aw_iload_n d_Coat_may_54 rfl ?_
          refine aw_v0 (a := 32) d_Coat_may_55 k_Coat_253 ok_Givings_possible rfl ⟨rfl, rfl⟩ cl_Givings hG0 (c_possible hG0 h3 h4 hX.1.2.1 ok.1 hj) rfl rfl (Nat.le_of_ble_eq_true rfl) (fun r m2 h2 q => ?_)
          obtain ⟨rfl, em, a3, a4, rfl⟩ := q
          rw [em]
          show ab_W _ _ _ _ 58 _ (.int (nI (psb (S_N S) j (N_n (S_N S)))) :: _) _ _ _
          refine aw_ireturn d_Coat_may_58 rfl rfl ?_
          first
            | (refine ⟨_, S, rfl, ?_, hX, Nat.le_refl _, fun k _ _ => rfl⟩
               unfold sp_may
               rw [if_pos ⟨irx, irw⟩, if_pos c23, cl_nI (by omega)]
               obtain ⟨b, b1, b2, b3⟩ := ama j hj
               rw [b2, fa_mask, b3]; done)
            | (refine ⟨_, S, rfl, ?_, hX.gv a3 a4, Nat.le_refl _, (fun k _ _ => by unfold HG; rw [ab_set_ne (by omega), ab_set_ne (by omega)])⟩
               unfold sp_may
               rw [if_pos ⟨irx, irw⟩, if_neg c23, cl_nI (by omega)]; done)
        · refine aw_aload_n d_Coat_may_26 rfl ?_
          refine aw_get (k := 0) d_Coat_may_27 cl_Coat k_Coat_10 (by decide) a0 rfl ?_
          refine aw_get (k := 5) d_Coat_may_30 cl_Night k_Coat_241 (by decide) n0 rfl ?_
          refine aw_iload_n d_Coat_may_33 rfl ?_
          refine aw_ialoadN d_Coat_may_34 hma (by omega) (by decide) ?_
          refine aw_aload_n d_Coat_may_35 rfl ?_
          refine aw_get (k := 0) d_Coat_may_36 cl_Coat k_Coat_10 (by decide) a0 rfl ?_
          refine aw_v0i (a := 2) d_Coat_may_39 k_Coat_250 ok_Night_all rfl ⟨rfl, rfl⟩ cl_Night n0 (c_all2 n0 hn6) rfl rfl (Nat.le_of_ble_eq_true rfl) ?_
          refine aw_iand d_Coat_may_42 ?_
          refine aw_goto (tgt := 58) d_Coat_may_43 (by decide) ?_
          refine aw_ireturn d_Coat_may_58 rfl rfl ?_
          first
            | (refine ⟨_, S, rfl, ?_, hX, Nat.le_refl _, fun k _ _ => rfl⟩
               unfold sp_may
               rw [if_pos ⟨irx, irw⟩, if_pos c23, cl_nI (by omega)]
               obtain ⟨b, b1, b2, b3⟩ := ama j hj
               rw [b2, fa_mask, b3]; done)
            | (refine ⟨_, S, rfl, ?_, hX.gv a3 a4, Nat.le_refl _, (fun k _ _ => by unfold HG; rw [ab_set_ne (by omega), ab_set_ne (by omega)])⟩
               unfold sp_may
               rw [if_pos ⟨irx, irw⟩, if_neg c23, cl_nI (by omega)]; done)
      · refine aw_iconst (v := (-1)) d_Coat_may_20 (by decide) ?_
        refine aw_ireturn d_Coat_may_21 rfl rfl ?_
        refine ⟨_, S, rfl, ?_, hX, Nat.le_refl _, fun k _ _ => rfl⟩
        unfold sp_may
        rw [if_neg]
        intro z
        first
          | (have c := ab_bl_0.mp c8
             simp only [Bool.and_eq_false_iff, Bool.not_eq_false', decide_eq_true_eq, fa_lt, fa_le, hnT, Int32.toInt_zero] at c
             obtain ⟨⟨z3, z4⟩, z5⟩ := z
             omega)
          | (have z2 := z.2.1
             have z3 := z.2.2
             rw [fa_eq] at c12 c17
             rw [show (nI 1).toInt = 1 from by decide] at c17
             rw [Int32.toInt_zero] at c12
             omega)
theorem x_sure {V : VV} {m : Nat} {h : ab_H} {S : SS} (hX : PX V m h S) (ok : S_ok S) (x : Int32) : CX V Y_Coat_sure [.int x] m h (fun r S2 => (r, S2) = sp_sure S x) := by
  obtain ⟨⟨a0, ⟨n0, n1, n2, n3, n4, n5, n6, n7, n8⟩, a2⟩, p1, p2, p3, p4, p5, p6, p7⟩ := id hX
  have hn6 : N_n (S_N S) ≤ 6 := ok.1.1
  have hnT := nI_toInt (show N_n (S_N S) < 2 ^ 31 by omega)
  obtain ⟨⟨gk, hk⟩, hG0, ⟨g3, h3⟩, ⟨g4, h4⟩⟩ := id p3
  have hwl := ww_le hn6
  refine ab_C.of (L := [some (.ref 1), some (.int x), none]) rfl rfl (Nat.le_of_ble_eq_true rfl) (fun l => ?_)
  refine aw_aload_n d_Coat_sure_0 rfl ?_
  refine aw_get (k := 0) d_Coat_sure_1 cl_Coat k_Coat_10 (by decide) a0 rfl ?_
  refine aw_iload_n d_Coat_sure_4 rfl ?_
  refine aw_v0i (a := 2) d_Coat_sure_5 k_Coat_93 ok_Night_isPerson rfl ⟨rfl, rfl⟩ cl_Night n0 (c_isPerson n0 x) rfl rfl (Nat.le_of_ble_eq_true rfl) ?_
  refine aw_if_ne (tgt := 13) d_Coat_sure_8 (by decide) (fun c8 => ?_) (fun c8 => ?_)
  · obtain ⟨j, hj, rfl⟩ := ab_rng (by omega) (ab_bl_1.mp c8)
    have irx : ir (nI j) 0 (N_n (S_N S) - 1 : Int) := ⟨by rw [nI_toInt (by omega)]; omega, by rw [nI_toInt (by omega)]; omega⟩
    have hb6 := psb_lt (S_N S) j _ hn6
    refine aw_aload_n d_Coat_sure_13 rfl ?_
    refine aw_get (k := 6) d_Coat_sure_14 cl_Coat k_Coat_40 (by decide) a0 rfl ?_
    refine aw_aload_n d_Coat_sure_17 rfl ?_
    refine aw_get (k := 0) d_Coat_sure_18 cl_Coat k_Coat_10 (by decide) a0 rfl ?_
    refine aw_iload_n d_Coat_sure_21 rfl ?_
    refine aw_v0 (a := 32) d_Coat_sure_22 k_Coat_253 ok_Givings_possible rfl ⟨rfl, rfl⟩ cl_Givings hG0 (c_possible hG0 h3 h4 hX.1.2.1 ok.1 hj) rfl rfl (Nat.le_of_ble_eq_true rfl) (fun r m2 h2 q => ?_)
    obtain ⟨rfl, em, a3, a4, rfl⟩ := q
    rw [em]
    show ab_W _ _ _ _ 25 _ (.int (nI (psb (S_N S) j (N_n (S_N S)))) :: _) _ _ _
    refine aw_istore_n (L' := [some (.ref 1), some (.int (nI j)), some (.int (nI (psb (S_N S) j (N_n (S_N S)))))]) d_Coat_sure_25 ⟨by decide, rfl⟩ rfl ?_
    refine aw_iload_n d_Coat_sure_26 rfl ?_
    refine aw_s0i d_Coat_sure_27 k_Coat_129 ok_JI_bitCount rfl ⟨rfl, rfl⟩ (c_bitCount _ hb6) rfl rfl (Nat.le_of_ble_eq_true rfl) ?_
    refine aw_iconst (v := nI 1) d_Coat_sure_30 (by decide) ?_
    refine aw_icmp_ne (tgt := 41) d_Coat_sure_31 (by decide) (fun c31 => ?_) (fun c31 => ?_)
    · refine aw_bipush (v := (-4)) d_Coat_sure_41 (by decide) ?_
      refine aw_ireturn d_Coat_sure_43 rfl rfl ?_
      refine ⟨_, S, rfl, ?_, hX.gv a3 a4, Nat.le_refl _, (fun k _ _ => by unfold HG; rw [ab_set_ne (by omega), ab_set_ne (by omega)])⟩
      unfold sp_sure
      have hp6 := pop_le (psb (S_N S) j (N_n (S_N S)))
      rw [if_pos irx, cl_nI (by omega)]
      first
        | (rw [if_pos ((nI_eq (b := 1) (by omega) (by decide)).mp c31)]; done)
        | (rw [if_neg (fun z => c31 (by rw [z]))]; done)
    · refine aw_iload_n d_Coat_sure_34 rfl ?_
      refine aw_s0i d_Coat_sure_35 k_Coat_123 ok_JI_numberOfTrailingZeros rfl ⟨rfl, rfl⟩ (c_ntz _ hb6) rfl rfl (Nat.le_of_ble_eq_true rfl) ?_
      refine aw_goto (tgt := 43) d_Coat_sure_38 (by decide) ?_
      refine aw_ireturn d_Coat_sure_43 rfl rfl ?_
      refine ⟨_, S, rfl, ?_, hX.gv a3 a4, Nat.le_refl _, (fun k _ _ => by unfold HG; rw [ab_set_ne (by omega), ab_set_ne (by omega)])⟩
      unfold sp_sure
      have hp6 := pop_le (psb (S_N S) j (N_n (S_N S)))
      rw [if_pos irx, cl_nI (by omega)]
      first
        | (rw [if_pos ((nI_eq (b := 1) (by omega) (by decide)).mp c31)]; done)
        | (rw [if_neg (fun z => c31 (by rw [z]))]; done)
  · refine aw_iconst (v := (-1)) d_Coat_sure_11 (by decide) ?_
    refine aw_ireturn d_Coat_sure_12 rfl rfl ?_
    refine ⟨_, S, rfl, ?_, hX, Nat.le_refl _, fun k _ _ => rfl⟩
    unfold sp_sure
    rw [if_neg]
    intro z
    have c := ab_bl_0.mp c8
    simp only [Bool.and_eq_false_iff, Bool.not_eq_false', decide_eq_true_eq, fa_lt, fa_le, hnT, Int32.toInt_zero] at c
    obtain ⟨z3, z4⟩ := z
    omega
theorem x_next {V : VV} {m : Nat} {h : ab_H} {S : SS} (hX : PX V m h S) (ok : S_ok S) (w : Int32) : CX V Y_Coat_next [.int w] m h (fun r S2 => (r, S2) = sp_next S w) := by
  obtain ⟨⟨a0, ⟨n0, n1, n2, n3, n4, n5, n6, n7, n8⟩, a2⟩, p1, p2, p3, p4, p5, p6, p7⟩ := id hX
  have hn6 : N_n (S_N S) ≤ 6 := ok.1.1
  have hnT := nI_toInt (show N_n (S_N S) < 2 ^ 31 by omega)
  obtain ⟨⟨gk, hk⟩, hG0, ⟨g3, h3⟩, ⟨g4, h4⟩⟩ := id p3
  have hwl := ww_le hn6
  refine ab_C.of (L := [some (.ref 1), some (.int w), none, none, none, none]) rfl rfl (Nat.le_of_ble_eq_true rfl) (fun l => ?_)
  refine aw_iload_n d_Coat_next_0 rfl ?_
  refine aw_if_eq (tgt := 11) d_Coat_next_1 (by decide) (fun c1 => ?_) (fun c1 => ?_)
  · have w01 : w = 0 ∨ w = 1 := by
      first | exact Or.inl c1 | exact Or.inr c6
    have irw : ir w 0 1 := by
      rcases w01 with z | z <;> (rw [z]; decide)
    refine aw_aload_n d_Coat_next_11 rfl ?_
    refine aw_get (k := 0) d_Coat_next_12 cl_Coat k_Coat_10 (by decide) a0 rfl ?_
    refine aw_get (k := 0) d_Coat_next_15 cl_Night k_Coat_82 (by decide) n0 rfl ?_
    refine aw_if_ne (tgt := 24) d_Coat_next_18 (by decide) (fun c18 => ?_) (fun c18 => ?_)
    · have n0' : ¬ N_n (S_N S) = 0 := fun z => c18 (by rw [z]; rfl)
      refine aw_aload_n d_Coat_next_24 rfl ?_
      refine aw_get (k := 6) d_Coat_next_25 cl_Coat k_Coat_40 (by decide) a0 rfl ?_
      refine aw_aload_n d_Coat_next_28 rfl ?_
      refine aw_get (k := 0) d_Coat_next_29 cl_Coat k_Coat_10 (by decide) a0 rfl ?_
      refine aw_v0 (a := 32) d_Coat_next_32 k_Coat_256 ok_Givings_worldsOf rfl ⟨rfl, rfl⟩ cl_Givings hG0 (c_worldsOf hG0 h3 h4 hX.1.2.1 ok.1) rfl rfl (Nat.le_of_ble_eq_true rfl) (fun r m2 h2 q => ?_)
      obtain ⟨rfl, em, a3, a4, rfl⟩ := q
      rw [em]
      show ab_W _ _ _ _ 35 _ (.int (nI (ww (S_N S))) :: _) _ _ _
      refine aw_if_ne (tgt := 41) d_Coat_next_35 (by decide) (fun c35 => ?_) (fun c35 => ?_)
      · have w0 : ¬ ww (S_N S) = 0 := fun z => c35 (by rw [z]; rfl)
        refine aw_iconst (v := nI 0) d_Coat_next_41 (by decide) ?_
        refine aw_istore_n (L' := [some (.ref 1), some (.int w), some (.int (nI 0)), none, none, none]) d_Coat_next_42 ⟨by decide, rfl⟩ rfl ?_
        refine aw_aload_n d_Coat_next_43 rfl ?_
        refine aw_get (k := 6) d_Coat_next_44 cl_Coat k_Coat_40 (by decide) a0 rfl ?_
        refine aw_aload_n d_Coat_next_47 rfl ?_
        refine aw_get (k := 0) d_Coat_next_48 cl_Coat k_Coat_10 (by decide) a0 rfl ?_
        refine aw_iconst (v := nI 0) d_Coat_next_51 (by decide) ?_
        refine aw_v0 (a := 32) d_Coat_next_52 k_Coat_259 ok_Givings_leftAtWorst rfl ⟨rfl, rfl⟩ cl_Givings hG0 (c_leftAtWorst (h := HG h a3 a4) (N := S_N S) hG0 rfl rfl (NX.fr (fun k _ _ => by unfold HG; rw [ab_set_ne (by omega), ab_set_ne (by omega)]) hX.1.2.1) ok.1 (show 0 < N_n (S_N S) by omega)) rfl rfl (Nat.le_of_ble_eq_true rfl) (fun r m2 h2 q => ?_)
        obtain ⟨rfl, em, b3, b4, rfl⟩ := q
        rw [em, hg_set]
        show ab_W _ _ _ _ 55 _ (.int (nI (lwm (S_N S) 0 (N_n (S_N S)))) :: _) _ _ _
        refine aw_istore_n (L' := [some (.ref 1), some (.int w), some (.int (nI 0)), some (.int (nI (lwm (S_N S) 0 (N_n (S_N S))))), none, none]) d_Coat_next_55 ⟨by decide, rfl⟩ rfl ?_
        refine aw_iconst (v := nI 1) d_Coat_next_56 (by decide) ?_
        refine aw_istore (L' := [some (.ref 1), some (.int w), some (.int (nI 0)), some (.int (nI (lwm (S_N S) 0 (N_n (S_N S))))), some (.int (nI 1)), none]) d_Coat_next_57 ⟨by decide, rfl⟩ rfl ?_
        have loopn : ∀ kf j (a3 a4 : Nat → Int32), j + kf = N_n (S_N S) → ab_W Y_Coat_next none l (fun r m2 h2 => ∃ (v : Int32) (S2 : SS), r = some (.int v) ∧ (v, S2) = sp_next S w ∧ PX V m2 h2 S2 ∧ m ≤ m2 ∧ ∀ k, 56 ≤ k → k ≤ 88 → h2 k = h k) 59 [some (.ref 1), some (.int w), some (.int (nI (nxb (S_N S) (j)).1)), some (.int (nI (nxb (S_N S) (j)).2)), some (.int (nI (j))), none] [] m (HG h a3 a4) (0, 0) := by
          intro kf
          induction kf with
          | zero =>
            intro j a3 a4 hj 
            have hjn : N_n (S_N S) = j := by omega
            subst hjn
            refine aw_iload d_Coat_next_59 rfl ?_
            refine aw_aload_n d_Coat_next_61 rfl ?_
            refine aw_get (k := 0) d_Coat_next_62 cl_Coat k_Coat_10 (by decide) a0 rfl ?_
            refine aw_get (k := 0) d_Coat_next_65 cl_Night k_Coat_82 (by decide) n0 rfl ?_
            refine aw_icmp_ge (tgt := 104) d_Coat_next_68 (by decide) (fun c68 => ?_) (fun c68 => ?_)
            · refine aw_iload_n d_Coat_next_104 rfl ?_
              refine aw_if_ne (tgt := 112) d_Coat_next_105 (by decide) (fun c105 => ?_) (fun c105 => ?_)
              · refine aw_iload_n d_Coat_next_112 rfl ?_
                refine aw_ireturn d_Coat_next_113 rfl rfl ?_
                refine ⟨_, S, rfl, ?_, hX.gv a3 a4, Nat.le_refl _, (fun k _ _ => by unfold HG; rw [ab_set_ne (by omega), ab_set_ne (by omega)])⟩
                unfold sp_next
                rw [if_pos irw, if_neg n0', if_neg w0]
                first
                  | (rw [if_pos c105]; done)
                  | (rw [if_neg c105]; done)
              · refine aw_iload_n d_Coat_next_108 rfl ?_
                refine aw_goto (tgt := 113) d_Coat_next_109 (by decide) ?_
                refine aw_ireturn d_Coat_next_113 rfl rfl ?_
                refine ⟨_, S, rfl, ?_, hX.gv a3 a4, Nat.le_refl _, (fun k _ _ => by unfold HG; rw [ab_set_ne (by omega), ab_set_ne (by omega)])⟩
                unfold sp_next
                rw [if_pos irw, if_neg n0', if_neg w0]
                first
                  | (rw [if_pos c105]; done)
                  | (rw [if_neg c105]; done)
            · exact absurd (Int32.le_refl _) c68
          | succ kf ih =>
            intro j a3 a4 hj 
            refine aw_iload d_Coat_next_59 rfl ?_
            refine aw_aload_n d_Coat_next_61 rfl ?_
            refine aw_get (k := 0) d_Coat_next_62 cl_Coat k_Coat_10 (by decide) a0 rfl ?_
            refine aw_get (k := 0) d_Coat_next_65 cl_Night k_Coat_82 (by decide) n0 rfl ?_
            refine aw_icmp_ge (tgt := 104) d_Coat_next_68 (by decide) (fun c68 => ?_) (fun c68 => ?_)
            · exact absurd c68 (nI_ge (by omega) (by omega))
            · refine aw_aload_n d_Coat_next_71 rfl ?_
              refine aw_get (k := 6) d_Coat_next_72 cl_Coat k_Coat_40 (by decide) a0 rfl ?_
              refine aw_aload_n d_Coat_next_75 rfl ?_
              refine aw_get (k := 0) d_Coat_next_76 cl_Coat k_Coat_10 (by decide) a0 rfl ?_
              refine aw_iload d_Coat_next_79 rfl ?_
              refine aw_v0 (a := 32) d_Coat_next_81 k_Coat_259 ok_Givings_leftAtWorst rfl ⟨rfl, rfl⟩ cl_Givings hG0 (c_leftAtWorst (h := HG h a3 a4) (N := S_N S) hG0 rfl rfl (NX.fr (fun k _ _ => by unfold HG; rw [ab_set_ne (by omega), ab_set_ne (by omega)]) hX.1.2.1) ok.1 (show j < N_n (S_N S) by omega)) rfl rfl (Nat.le_of_ble_eq_true rfl) (fun r m2 h2 q => ?_)
              obtain ⟨rfl, em, b3, b4, rfl⟩ := q
              rw [em, hg_set]
              show ab_W _ _ _ _ 84 _ (.int (nI (lwm (S_N S) j (N_n (S_N S)))) :: _) _ _ _
              refine aw_istore (L' := [some (.ref 1), some (.int w), some (.int (nI (nxb (S_N S) (j)).1)), some (.int (nI (nxb (S_N S) (j)).2)), some (.int (nI (j))), some (.int (nI (lwm (S_N S) j (N_n (S_N S)))))]) d_Coat_next_84 ⟨by decide, rfl⟩ rfl ?_
              refine aw_iload d_Coat_next_86 rfl ?_
              refine aw_iload_n d_Coat_next_88 rfl ?_
              refine aw_icmp_ge (tgt := 98) d_Coat_next_89 (by decide) (fun c89 => ?_) (fun c89 => ?_)
              · refine aw_iinc (v := nI ((j) + 1)) (L' := [some (.ref 1), some (.int w), some (.int (nI (nxb (S_N S) (j)).1)), some (.int (nI (nxb (S_N S) (j)).2)), some (.int (nI ((j) + 1))), some (.int (nI (lwm (S_N S) j (N_n (S_N S)))))]) d_Coat_next_98 rfl (nI_1 _) ⟨by decide, rfl⟩ rfl ?_
                refine aw_goto (tgt := 59) d_Coat_next_101 (by decide) ?_
                have hl := lwm_le hn6 j (N_n (S_N S))
                have hb := nxb_le hn6 j
                first
                  | (have e : nxb (S_N S) (j + 1) = nxb (S_N S) j := if_neg (fun z => absurd c89 (nI_ge z (by omega)))
                     have z := ih (j + 1) b3 b4 (by omega)
                     rw [e] at z
                     exact aw_drop 5 z)
                  | (have e : nxb (S_N S) (j + 1) = (j, lwm (S_N S) j (N_n (S_N S))) := if_pos (Nat.not_le.mp (fun z => c89 (nI_le z (by omega))))
                     have z := ih (j + 1) b3 b4 (by omega)
                     rw [e] at z
                     exact aw_drop 5 z)
              · refine aw_iload d_Coat_next_92 rfl ?_
                refine aw_istore_n (L' := [some (.ref 1), some (.int w), some (.int (nI (nxb (S_N S) (j)).1)), some (.int (nI (lwm (S_N S) j (N_n (S_N S))))), some (.int (nI (j))), some (.int (nI (lwm (S_N S) j (N_n (S_N S)))))]) d_Coat_next_94 ⟨by decide, rfl⟩ rfl ?_
                refine aw_iload d_Coat_next_95 rfl ?_
                refine aw_istore_n (L' := [some (.ref 1), some (.int w), some (.int (nI (j))), some (.int (nI (lwm (S_N S) j (N_n (S_N S))))), some (.int (nI (j))), some (.int (nI (lwm (S_N S) j (N_n (S_N S)))))]) d_Coat_next_97 ⟨by decide, rfl⟩ rfl ?_
                refine aw_iinc (v := nI ((j) + 1)) (L' := [some (.ref 1), some (.int w), some (.int (nI (j))), some (.int (nI (lwm (S_N S) j (N_n (S_N S))))), some (.int (nI ((j) + 1))), some (.int (nI (lwm (S_N S) j (N_n (S_N S)))))]) d_Coat_next_98 rfl (nI_1 _) ⟨by decide, rfl⟩ rfl ?_
                refine aw_goto (tgt := 59) d_Coat_next_101 (by decide) ?_
                have hl := lwm_le hn6 j (N_n (S_N S))
                have hb := nxb_le hn6 j
                first
                  | (have e : nxb (S_N S) (j + 1) = nxb (S_N S) j := if_neg (fun z => absurd c89 (nI_ge z (by omega)))
                     have z := ih (j + 1) b3 b4 (by omega)
                     rw [e] at z
                     exact aw_drop 5 z)
                  | (have e : nxb (S_N S) (j + 1) = (j, lwm (S_N S) j (N_n (S_N S))) := if_pos (Nat.not_le.mp (fun z => c89 (nI_le z (by omega))))
                     have z := ih (j + 1) b3 b4 (by omega)
                     rw [e] at z
                     exact aw_drop 5 z)
        have e1 : nxb (S_N S) 1 = (0, lwm (S_N S) 0 (N_n (S_N S))) := if_neg (Nat.lt_irrefl _)
        have z := loopn (N_n (S_N S) - 1) 1 b3 b4 (by omega)
        rw [e1] at z
        exact z
      · refine aw_bipush (v := (-4)) d_Coat_next_38 (by decide) ?_
        refine aw_ireturn d_Coat_next_40 rfl rfl ?_
        refine ⟨_, S, rfl, ?_, hX.gv a3 a4, Nat.le_refl _, (fun k _ _ => by unfold HG; rw [ab_set_ne (by omega), ab_set_ne (by omega)])⟩
        unfold sp_next
        rw [if_pos irw, if_neg n0', if_pos ((nI_eq (b := 0) (by omega) (by decide)).mp c35)]
    · refine aw_bipush (v := (-2)) d_Coat_next_21 (by decide) ?_
      refine aw_ireturn d_Coat_next_23 rfl rfl ?_
      refine ⟨_, S, rfl, ?_, hX, Nat.le_refl _, fun k _ _ => rfl⟩
      unfold sp_next
      rw [if_pos irw, if_pos ((nI_eq (b := 0) (by omega) (by decide)).mp c18)]
  · refine aw_iload_n d_Coat_next_4 rfl ?_
    refine aw_iconst (v := nI 1) d_Coat_next_5 (by decide) ?_
    refine aw_icmp_eq (tgt := 11) d_Coat_next_6 (by decide) (fun c6 => ?_) (fun c6 => ?_)
    · have w01 : w = 0 ∨ w = 1 := by
        first | exact Or.inl c1 | exact Or.inr c6
      have irw : ir w 0 1 := by
        rcases w01 with z | z <;> (rw [z]; decide)
      refine aw_aload_n d_Coat_next_11 rfl ?_
      refine aw_get (k := 0) d_Coat_next_12 cl_Coat k_Coat_10 (by decide) a0 rfl ?_
      refine aw_get (k := 0) d_Coat_next_15 cl_Night k_Coat_82 (by decide) n0 rfl ?_
      refine aw_if_ne (tgt := 24) d_Coat_next_18 (by decide) (fun c18 => ?_) (fun c18 => ?_)
      · have n0' : ¬ N_n (S_N S) = 0 := fun z => c18 (by rw [z]; rfl)
        refine aw_aload_n d_Coat_next_24 rfl ?_
        refine aw_get (k := 6) d_Coat_next_25 cl_Coat k_Coat_40 (by decide) a0 rfl ?_
        refine aw_aload_n d_Coat_next_28 rfl ?_
        refine aw_get (k := 0) d_Coat_next_29 cl_Coat k_Coat_10 (by decide) a0 rfl ?_
        refine aw_v0 (a := 32) d_Coat_next_32 k_Coat_256 ok_Givings_worldsOf rfl ⟨rfl, rfl⟩ cl_Givings hG0 (c_worldsOf hG0 h3 h4 hX.1.2.1 ok.1) rfl rfl (Nat.le_of_ble_eq_true rfl) (fun r m2 h2 q => ?_)
        obtain ⟨rfl, em, a3, a4, rfl⟩ := q
        rw [em]
        show ab_W _ _ _ _ 35 _ (.int (nI (ww (S_N S))) :: _) _ _ _
        refine aw_if_ne (tgt := 41) d_Coat_next_35 (by decide) (fun c35 => ?_) (fun c35 => ?_)
        · have w0 : ¬ ww (S_N S) = 0 := fun z => c35 (by rw [z]; rfl)
          refine aw_iconst (v := nI 0) d_Coat_next_41 (by decide) ?_
          refine aw_istore_n (L' := [some (.ref 1), some (.int w), some (.int (nI 0)), none, none, none]) d_Coat_next_42 ⟨by decide, rfl⟩ rfl ?_
          refine aw_aload_n d_Coat_next_43 rfl ?_
          refine aw_get (k := 6) d_Coat_next_44 cl_Coat k_Coat_40 (by decide) a0 rfl ?_
          refine aw_aload_n d_Coat_next_47 rfl ?_
          refine aw_get (k := 0) d_Coat_next_48 cl_Coat k_Coat_10 (by decide) a0 rfl ?_
          refine aw_iconst (v := nI 0) d_Coat_next_51 (by decide) ?_
          refine aw_v0 (a := 32) d_Coat_next_52 k_Coat_259 ok_Givings_leftAtWorst rfl ⟨rfl, rfl⟩ cl_Givings hG0 (c_leftAtWorst (h := HG h a3 a4) (N := S_N S) hG0 rfl rfl (NX.fr (fun k _ _ => by unfold HG; rw [ab_set_ne (by omega), ab_set_ne (by omega)]) hX.1.2.1) ok.1 (show 0 < N_n (S_N S) by omega)) rfl rfl (Nat.le_of_ble_eq_true rfl) (fun r m2 h2 q => ?_)
          obtain ⟨rfl, em, b3, b4, rfl⟩ := q
          rw [em, hg_set]
          show ab_W _ _ _ _ 55 _ (.int (nI (lwm (S_N S) 0 (N_n (S_N S)))) :: _) _ _ _
          refine aw_istore_n (L' := [some (.ref 1), some (.int w), some (.int (nI 0)), some (.int (nI (lwm (S_N S) 0 (N_n (S_N S))))), none, none]) d_Coat_next_55 ⟨by decide, rfl⟩ rfl ?_
          refine aw_iconst (v := nI 1) d_Coat_next_56 (by decide) ?_
          refine aw_istore (L' := [some (.ref 1), some (.int w), some (.int (nI 0)), some (.int (nI (lwm (S_N S) 0 (N_n (S_N S))))), some (.int (nI 1)), none]) d_Coat_next_57 ⟨by decide, rfl⟩ rfl ?_
          have loopn : ∀ kf j (a3 a4 : Nat → Int32), j + kf = N_n (S_N S) → ab_W Y_Coat_next none l (fun r m2 h2 => ∃ (v : Int32) (S2 : SS), r = some (.int v) ∧ (v, S2) = sp_next S w ∧ PX V m2 h2 S2 ∧ m ≤ m2 ∧ ∀ k, 56 ≤ k → k ≤ 88 → h2 k = h k) 59 [some (.ref 1), some (.int w), some (.int (nI (nxb (S_N S) (j)).1)), some (.int (nI (nxb (S_N S) (j)).2)), some (.int (nI (j))), none] [] m (HG h a3 a4) (0, 0) := by
            intro kf
            induction kf with
            | zero =>
              intro j a3 a4 hj 
              have hjn : N_n (S_N S) = j := by omega
              subst hjn
              refine aw_iload d_Coat_next_59 rfl ?_
              refine aw_aload_n d_Coat_next_61 rfl ?_
              refine aw_get (k := 0) d_Coat_next_62 cl_Coat k_Coat_10 (by decide) a0 rfl ?_
              refine aw_get (k := 0) d_Coat_next_65 cl_Night k_Coat_82 (by decide) n0 rfl ?_
              refine aw_icmp_ge (tgt := 104) d_Coat_next_68 (by decide) (fun c68 => ?_) (fun c68 => ?_)
              · refine aw_iload_n d_Coat_next_104 rfl ?_
                refine aw_if_ne (tgt := 112) d_Coat_next_105 (by decide) (fun c105 => ?_) (fun c105 => ?_)
                · refine aw_iload_n d_Coat_next_112 rfl ?_
                  refine aw_ireturn d_Coat_next_113 rfl rfl ?_
                  refine ⟨_, S, rfl, ?_, hX.gv a3 a4, Nat.le_refl _, (fun k _ _ => by unfold HG; rw [ab_set_ne (by omega), ab_set_ne (by omega)])⟩
                  unfold sp_next
                  rw [if_pos irw, if_neg n0', if_neg w0]
                  first
                    | (rw [if_pos c105]; done)
                    | (rw [if_neg c105]; done)
                · refine aw_iload_n d_Coat_next_108 rfl ?_
                  refine aw_goto (tgt := 113) d_Coat_next_109 (by decide) ?_
                  refine aw_ireturn d_Coat_next_113 rfl rfl ?_
                  refine ⟨_, S, rfl, ?_, hX.gv a3 a4, Nat.le_refl _, (fun k _ _ => by unfold HG; rw [ab_set_ne (by omega), ab_set_ne (by omega)])⟩
                  unfold sp_next
                  rw [if_pos irw, if_neg n0', if_neg w0]
                  first
                    | (rw [if_pos c105]; done)
                    | (rw [if_neg c105]; done)
              · exact absurd (Int32.le_refl _) c68
            | succ kf ih =>
              intro j a3 a4 hj 
              refine aw_iload d_Coat_next_59 rfl ?_
              refine aw_aload_n d_Coat_next_61 rfl ?_
              refine aw_get (k := 0) d_Coat_next_62 cl_Coat k_Coat_10 (by decide) a0 rfl ?_
              refine aw_get (k := 0) d_Coat_next_65 cl_Night k_Coat_82 (by decide) n0 rfl ?_
              refine aw_icmp_ge (tgt := 104) d_Coat_next_68 (by decide) (fun c68 => ?_) (fun c68 => ?_)
              · exact absurd c68 (nI_ge (by omega) (by omega))
              · refine aw_aload_n d_Coat_next_71 rfl ?_
                refine aw_get (k := 6) d_Coat_next_72 cl_Coat k_Coat_40 (by decide) a0 rfl ?_
                refine aw_aload_n d_Coat_next_75 rfl ?_
                refine aw_get (k := 0) d_Coat_next_76 cl_Coat k_Coat_10 (by decide) a0 rfl ?_
                refine aw_iload d_Coat_next_79 rfl ?_
                refine aw_v0 (a := 32) d_Coat_next_81 k_Coat_259 ok_Givings_leftAtWorst rfl ⟨rfl, rfl⟩ cl_Givings hG0 (c_leftAtWorst (h := HG h a3 a4) (N := S_N S) hG0 rfl rfl (NX.fr (fun k _ _ => by unfold HG; rw [ab_set_ne (by omega), ab_set_ne (by omega)]) hX.1.2.1) ok.1 (show j < N_n (S_N S) by omega)) rfl rfl (Nat.le_of_ble_eq_true rfl) (fun r m2 h2 q => ?_)
                obtain ⟨rfl, em, b3, b4, rfl⟩ := q
                rw [em, hg_set]
                show ab_W _ _ _ _ 84 _ (.int (nI (lwm (S_N S) j (N_n (S_N S)))) :: _) _ _ _
                refine aw_istore (L' := [some (.ref 1), some (.int w), some (.int (nI (nxb (S_N S) (j)).1)), some (.int (nI (nxb (S_N S) (j)).2)), some (.int (nI (j))), some (.int (nI (lwm (S_N S) j (N_n (S_N S)))))]) d_Coat_next_84 ⟨by decide, rfl⟩ rfl ?_
                refine aw_iload d_Coat_next_86 rfl ?_
                refine aw_iload_n d_Coat_next_88 rfl ?_
                refine aw_icmp_ge (tgt := 98) d_Coat_next_89 (by decide) (fun c89 => ?_) (fun c89 => ?_)
                · refine aw_iinc (v := nI ((j) + 1)) (L' := [some (.ref 1), some (.int w), some (.int (nI (nxb (S_N S) (j)).1)), some (.int (nI (nxb (S_N S) (j)).2)), some (.int (nI ((j) + 1))), some (.int (nI (lwm (S_N S) j (N_n (S_N S)))))]) d_Coat_next_98 rfl (nI_1 _) ⟨by decide, rfl⟩ rfl ?_
                  refine aw_goto (tgt := 59) d_Coat_next_101 (by decide) ?_
                  have hl := lwm_le hn6 j (N_n (S_N S))
                  have hb := nxb_le hn6 j
                  first
                    | (have e : nxb (S_N S) (j + 1) = nxb (S_N S) j := if_neg (fun z => absurd c89 (nI_ge z (by omega)))
                       have z := ih (j + 1) b3 b4 (by omega)
                       rw [e] at z
                       exact aw_drop 5 z)
                    | (have e : nxb (S_N S) (j + 1) = (j, lwm (S_N S) j (N_n (S_N S))) := if_pos (Nat.not_le.mp (fun z => c89 (nI_le z (by omega))))
                       have z := ih (j + 1) b3 b4 (by omega)
                       rw [e] at z
                       exact aw_drop 5 z)
                · refine aw_iload d_Coat_next_92 rfl ?_
                  refine aw_istore_n (L' := [some (.ref 1), some (.int w), some (.int (nI (nxb (S_N S) (j)).1)), some (.int (nI (lwm (S_N S) j (N_n (S_N S))))), some (.int (nI (j))), some (.int (nI (lwm (S_N S) j (N_n (S_N S)))))]) d_Coat_next_94 ⟨by decide, rfl⟩ rfl ?_
                  refine aw_iload d_Coat_next_95 rfl ?_
                  refine aw_istore_n (L' := [some (.ref 1), some (.int w), some (.int (nI (j))), some (.int (nI (lwm (S_N S) j (N_n (S_N S))))), some (.int (nI (j))), some (.int (nI (lwm (S_N S) j (N_n (S_N S)))))]) d_Coat_next_97 ⟨by decide, rfl⟩ rfl ?_
                  refine aw_iinc (v := nI ((j) + 1)) (L' := [some (.ref 1), some (.int w), some (.int (nI (j))), some (.int (nI (lwm (S_N S) j (N_n (S_N S))))), some (.int (nI ((j) + 1))), some (.int (nI (lwm (S_N S) j (N_n (S_N S)))))]) d_Coat_next_98 rfl (nI_1 _) ⟨by decide, rfl⟩ rfl ?_
                  refine aw_goto (tgt := 59) d_Coat_next_101 (by decide) ?_
                  have hl := lwm_le hn6 j (N_n (S_N S))
                  have hb := nxb_le hn6 j
                  first
                    | (have e : nxb (S_N S) (j + 1) = nxb (S_N S) j := if_neg (fun z => absurd c89 (nI_ge z (by omega)))
                       have z := ih (j + 1) b3 b4 (by omega)
                       rw [e] at z
                       exact aw_drop 5 z)
                    | (have e : nxb (S_N S) (j + 1) = (j, lwm (S_N S) j (N_n (S_N S))) := if_pos (Nat.not_le.mp (fun z => c89 (nI_le z (by omega))))
                       have z := ih (j + 1) b3 b4 (by omega)
                       rw [e] at z
                       exact aw_drop 5 z)
          have e1 : nxb (S_N S) 1 = (0, lwm (S_N S) 0 (N_n (S_N S))) := if_neg (Nat.lt_irrefl _)
          have z := loopn (N_n (S_N S) - 1) 1 b3 b4 (by omega)
          rw [e1] at z
          exact z
        · refine aw_bipush (v := (-4)) d_Coat_next_38 (by decide) ?_
          refine aw_ireturn d_Coat_next_40 rfl rfl ?_
          refine ⟨_, S, rfl, ?_, hX.gv a3 a4, Nat.le_refl _, (fun k _ _ => by unfold HG; rw [ab_set_ne (by omega), ab_set_ne (by omega)])⟩
          unfold sp_next
          rw [if_pos irw, if_neg n0', if_pos ((nI_eq (b := 0) (by omega) (by decide)).mp c35)]
      · refine aw_bipush (v := (-2)) d_Coat_next_21 (by decide) ?_
        refine aw_ireturn d_Coat_next_23 rfl rfl ?_
        refine ⟨_, S, rfl, ?_, hX, Nat.le_refl _, fun k _ _ => rfl⟩
        unfold sp_next
        rw [if_pos irw, if_pos ((nI_eq (b := 0) (by omega) (by decide)).mp c18)]
    · refine aw_iconst (v := (-1)) d_Coat_next_9 (by decide) ?_
      refine aw_ireturn d_Coat_next_10 rfl rfl ?_
      refine ⟨_, S, rfl, ?_, hX, Nat.le_refl _, fun k _ _ => rfl⟩
      unfold sp_next
      rw [if_neg]
      intro z
      have z2 := z.1
      have z3 := z.2
      rw [fa_eq] at c1 c6
      rw [show (nI 1).toInt = 1 from by decide] at c6
      rw [Int32.toInt_zero] at c1
      omega
