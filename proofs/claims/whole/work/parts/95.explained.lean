/-- a Slips that is being made at q: its fields, and how many of its rows there are -/
def IZ (q : Nat) (h hh : ab_H) (fs : List Value) (j : Nat) : Prop := hh q = .inr (.inr (9, fs)) ∧ (∀ i, 1 ≤ i → i ≤ j → hh (q + i) = .inl ((if i ≤ 2 then 45 else 720), fun _ => 0)) ∧ ∀ k, (k < q ∨ q + 4 < k) → hh k = h k
theorem IZ.n {q : Nat} {h hh : ab_H} {fs : List Value} {j N : Nat} (z : IZ q h hh fs j) (hj : j < 4) (hN : N = if j + 1 ≤ 2 then 45 else 720) : IZ q h (ab_set hh (q + j + 1) (.inl (N, fun _ => 0))) fs (j + 1) := by
  obtain ⟨z0, z1, z2⟩ := z
  refine ⟨(ab_set_ne (by omega)).trans z0, fun i h1 h2 => ?_, fun k hk => (ab_set_ne (by omega)).trans (z2 k hk)⟩
  by_cases e : i = j + 1
  · subst e
    rw [show q + (j + 1) = q + j + 1 by omega, ab_set_self, hN]
  · rw [ab_set_ne (by omega)]; exact z1 i h1 (by omega)
theorem IZ.p {q : Nat} {h hh : ab_H} {fs : List Value} {j : Nat} (z : IZ q h hh fs j) (fs2 : List Value) : IZ q h (ab_set hh q (.inr (.inr (9, fs2)))) fs2 j := by
  obtain ⟨z0, z1, z2⟩ := z
  exact ⟨ab_set_self _ _ _, fun i h1 h2 => (ab_set_ne (by omega)).trans (z1 i h1 h2), fun k hk => (ab_set_ne (by omega)).trans (z2 k hk)⟩
theorem c_Slips_init {h : ab_H} {q K : Nat} (h0 : h q = .inr (.inr (9, [.int 0, .int 0, .int 0, .null, .null, .null, .null]))) : ab_C Y_Slips_init [.ref q, .int (nI K)] q h (fun r m2 h2 => r = none ∧ m2 = q + 4 ∧ IZ q h h2 [.int 0, .int (nI K), .int 0, .ref (q + 1), .ref (q + 2), .ref (q + 3), .ref (q + 4)] 4) := by
  have hz : IZ q h h [.int 0, .int 0, .int 0, .null, .null, .null, .null] 0 := ⟨h0, fun i h1 h2 => absurd h1 (by omega), fun k _ => rfl⟩
  have o0 := hz.1
  refine ab_C.of (L := [some (.ref q), some (.int (nI K))]) rfl rfl (Nat.le_of_ble_eq_true rfl) (fun l => ?_)
  refine aw_aload_n d_Slips_init_0 rfl ?_
  refine aw_objinit d_Slips_init_1 k_Slips_3 ⟨by decide, Nat.le_of_ble_eq_true rfl⟩ ?_
  refine aw_aload_n d_Slips_init_4 rfl ?_
  refine aw_bipush (v := nI 45) d_Slips_init_5 (by decide) ?_
  refine aw_newarray (N := 45) d_Slips_init_7 (by decide) (by decide) (by decide) ⟨by decide, by decide⟩ ?_
  refine aw_gen (fun z => IZ q h z [.int 0, .int 0, .int 0, .null, .null, .null, .null] 1) (hz.n (by decide) (by decide)) (fun hh hz => ?_)
  have o0 := hz.1
  refine aw_putF (k := 3) (fs' := [.int 0, .int 0, .int 0, .ref (q + 1), .null, .null, .null]) d_Slips_init_9 cl_Slips k_Slips_9 (by decide) rfl rfl rfl ⟨rfl, rfl⟩ o0 (Nat.le_of_ble_eq_true rfl) rfl ?_
  refine aw_gen (fun z => IZ q h z [.int 0, .int 0, .int 0, .ref (q + 1), .null, .null, .null] 1) (hz.p _) (fun hh hz => ?_)
  have o0 := hz.1
  refine aw_aload_n d_Slips_init_12 rfl ?_
  refine aw_bipush (v := nI 45) d_Slips_init_13 (by decide) ?_
  refine aw_newarray (N := 45) d_Slips_init_15 (by decide) (by decide) (by decide) ⟨by decide, by decide⟩ ?_
  refine aw_gen (fun z => IZ q h z [.int 0, .int 0, .int 0, .ref (q + 1), .null, .null, .null] 2) (hz.n (by decide) (by decide)) (fun hh hz => ?_)
  have o0 := hz.1
  refine aw_putF (k := 4) (fs' := [.int 0, .int 0, .int 0, .ref (q + 1), .ref (q + 2), .null, .null]) d_Slips_init_17 cl_Slips k_Slips_15 (by decide) rfl rfl rfl ⟨rfl, rfl⟩ o0 (Nat.le_of_ble_eq_true rfl) rfl ?_
  refine aw_gen (fun z => IZ q h z [.int 0, .int 0, .int 0, .ref (q + 1), .ref (q + 2), .null, .null] 2) (hz.p _) (fun hh hz => ?_)
  have o0 := hz.1
  refine aw_aload_n d_Slips_init_20 rfl ?_
  refine aw_sipush (v := nI 720) d_Slips_init_21 (by decide) ?_
  refine aw_newarray (N := 720) d_Slips_init_24 (by decide) (by decide) (by decide) ⟨by decide, by decide⟩ ?_
  refine aw_gen (fun z => IZ q h z [.int 0, .int 0, .int 0, .ref (q + 1), .ref (q + 2), .null, .null] 3) (hz.n (by decide) (by decide)) (fun hh hz => ?_)
  have o0 := hz.1
  refine aw_putF (k := 5) (fs' := [.int 0, .int 0, .int 0, .ref (q + 1), .ref (q + 2), .ref (q + 3), .null]) d_Slips_init_26 cl_Slips k_Slips_18 (by decide) rfl rfl rfl ⟨rfl, rfl⟩ o0 (Nat.le_of_ble_eq_true rfl) rfl ?_
  refine aw_gen (fun z => IZ q h z [.int 0, .int 0, .int 0, .ref (q + 1), .ref (q + 2), .ref (q + 3), .null] 3) (hz.p _) (fun hh hz => ?_)
  have o0 := hz.1
  refine aw_aload_n d_Slips_init_29 rfl ?_
  refine aw_sipush (v := nI 720) d_Slips_init_30 (by decide) ?_
  refine aw_newarray (N := 720) d_Slips_init_33 (by decide) (by decide) (by decide) ⟨by decide, by decide⟩ ?_
  refine aw_gen (fun z => IZ q h z [.int 0, .int 0, .int 0, .ref (q + 1), .ref (q + 2), .ref (q + 3), .null] 4) (hz.n (by decide) (by decide)) (fun hh hz => ?_)
  have o0 := hz.1
  refine aw_putF (k := 6) (fs' := [.int 0, .int 0, .int 0, .ref (q + 1), .ref (q + 2), .ref (q + 3), .ref (q + 4)]) d_Slips_init_35 cl_Slips k_Slips_21 (by decide) rfl rfl rfl ⟨rfl, rfl⟩ o0 (Nat.le_of_ble_eq_true rfl) rfl ?_
  refine aw_gen (fun z => IZ q h z [.int 0, .int 0, .int 0, .ref (q + 1), .ref (q + 2), .ref (q + 3), .ref (q + 4)] 4) (hz.p _) (fun hh hz => ?_)
  have o0 := hz.1
  refine aw_aload_n d_Slips_init_38 rfl ?_
  refine aw_iload_n d_Slips_init_39 rfl ?_
  refine aw_putF (k := 1) (fs' := [.int 0, .int (nI K), .int 0, .ref (q + 1), .ref (q + 2), .ref (q + 3), .ref (q + 4)]) d_Slips_init_40 cl_Slips k_Slips_24 (by decide) rfl rfl rfl ⟨rfl, rfl⟩ o0 (Nat.le_of_ble_eq_true rfl) rfl ?_
  refine aw_return d_Slips_init_43 rfl ?_
  exact ⟨rfl, rfl, hz.p _⟩
theorem PX.sl {V : VV} {m m2 : Nat} {h h2 : ab_H} {S : SS} (hX : PX V m h S) (hm : m ≤ m2) {g g2 : Nat → Option Nat} {K q : Nat} (e54 : h 54 = .inr (.inl (true, 8, g))) (e54' : h2 54 = .inr (.inl (true, 8, g2))) (hg : ∀ k, k ≠ K → g2 k = g k) (hgK : g2 K = some q) (hq : 88 < q ∧ q + 4 ≤ m2) (hdis : ∀ k, k < 8 → k ≠ K → ∀ q2, g k = some q2 → q2 + 4 < q ∨ q + 4 < q2) (rows : ∃ (pe kn : Nat) (s t f w : Nat → Int32), h2 q = oL q pe K kn ∧ h2 (q + 1) = .inl (45, s) ∧ h2 (q + 2) = .inl (45, t) ∧ h2 (q + 3) = .inl (720, f) ∧ h2 (q + 4) = .inl (720, w) ∧ (pe ≠ 0 → V.2.2.2.1 pe K kn s t f w)) (h55 : ra_ h2 55 720) (fr : ∀ k, (k < q ∨ q + 4 < k) → k ≠ 54 → k ≠ 55 → h2 k = h k) : PX V m2 h2 S := by
  obtain ⟨p0, p1, p2, p3, p4, p5, p6, p7⟩ := hX
  refine ⟨p0.fr (fun k _ _ => fr k (by omega) (by omega) (by omega)), p1.fr (fun k _ _ => fr k (by omega) (by omega) (by omega)), p2.fr (fun k _ _ => fr k (by omega) (by omega) (by omega)), p3.fr (fun k _ _ => fr k (by omega) (by omega) (by omega)), p4.fr (fun k _ _ => fr k (by omega) (by omega) (by omega)), p5.fr (fun k _ _ => fr k (by omega) (by omega) (by omega)), p6.fr (fun k _ _ => fr k (by omega) (by omega) (by omega)), ?_⟩
  obtain ⟨l0, l1, g', l2, l3⟩ := p7
  rw [e54] at l2
  cases l2
  refine ⟨by omega, h55, g2, e54', fun k hk x hx => ?_⟩
  by_cases e : k = K
  · subst e
    rw [hgK] at hx
    cases hx
    refine ⟨hq.1, hq.2, fun k2 hk2 q2 hq2 ne => ?_, rows⟩
    rw [hg k2 ne] at hq2
    exact hdis k2 hk2 ne q2 hq2
  · rw [hg k e] at hx
    obtain ⟨a1, a2, a3, pe, kn, s, t, f, w, r0, r1, r2, r3, r4, r5⟩ := l3 k hk x hx
    have hd := hdis k hk e x hx
    refine ⟨a1, by omega, fun k2 hk2 q2 hq2 ne => ?_, pe, kn, s, t, f, w, (fr _ (by omega) (by omega) (by omega)).trans r0, (fr _ (by omega) (by omega) (by omega)).trans r1, (fr _ (by omega) (by omega) (by omega)).trans r2, (fr _ (by omega) (by omega) (by omega)).trans r3, (fr _ (by omega) (by omega) (by omega)).trans r4, r5⟩
    by_cases e2 : k2 = K
    · subst e2
      rw [hgK] at hq2
      cases hq2
      omega
    · rw [hg k2 e2] at hq2
      exact a3 k2 hk2 q2 hq2 ne
def SW (pe k kn : Nat) (gs gt gf gw : Nat → Int32) : Prop := pe ≤ 6 ∧ SV pe k kn gs gt gf gw
theorem c_slipsOf {V : VV} {m : Nat} {h : ab_H} {S : SS} (hX : PX V m h S) (ok : S_ok S) (hVs : V.2.2.2.1 = SW) (hn0 : 1 ≤ N_n (S_N S)) {K : Nat} (h0 : 0 < K) (hK : K < 8) : ab_C Y_Coat_slipsOf [.ref 1, .int (nI K)] m h (fun r m2 h2 => m ≤ m2 ∧ PX V m2 h2 S ∧ (∀ k, 56 ≤ k → k ≤ 88 → h2 k = h k) ∧ ∃ (q : Nat) (gs gt gf gw : Nat → Int32), r = some (.ref q) ∧ h2 q = oL q (N_n (S_N S)) K (Lk (N_n (S_N S)) K) ∧ h2 (q + 1) = .inl (45, gs) ∧ h2 (q + 2) = .inl (45, gt) ∧ h2 (q + 3) = .inl (720, gf) ∧ h2 (q + 4) = .inl (720, gw) ∧ SV (N_n (S_N S)) K (Lk (N_n (S_N S)) K) gs gt gf gw) := by
  obtain ⟨⟨a0, ⟨n0, n1, n2, n3, n4, n5, n6, n7, n8⟩, a2⟩, p1, p2, p3, p4, p5, p6, p7⟩ := id hX
  have hn6 : N_n (S_N S) ≤ 6 := ok.1.1
  have hnT := nI_toInt (show N_n (S_N S) < 2 ^ 31 by omega)
  obtain ⟨l0, ⟨gq, e55⟩, g, p54, l3⟩ := id p7
  refine ab_C.of (L := [some (.ref 1), some (.int (nI K)), none]) rfl rfl (Nat.le_of_ble_eq_true rfl) (fun l => ?_)
  have cont : ∀ (m2 q pe kn : Nat) (hB hh : ab_H) (g2 : Nat → Option Nat) (gs gt gf gw gq : Nat → Int32) (us : Nat × Nat), m ≤ m2 → q + 4 ≤ m2 → hB 1 = h 1 → hB 2 = h 2 → SL q hB hh pe K kn gs gt gf gw gq → (pe ≠ 0 → SW pe K kn gs gt gf gw) → (∀ (h2 : ab_H) (gs gt gf gw gq : Nat → Int32), SL q hB h2 (N_n (S_N S)) K (Lk (N_n (S_N S)) K) gs gt gf gw gq → SV (N_n (S_N S)) K (Lk (N_n (S_N S)) K) gs gt gf gw → PX V m2 h2 S ∧ ∀ k, 56 ≤ k → k ≤ 88 → h2 k = h k) → ab_W Y_Coat_slipsOf none l (fun r m2 h2 => m ≤ m2 ∧ PX V m2 h2 S ∧ (∀ k, 56 ≤ k → k ≤ 88 → h2 k = h k) ∧ ∃ (q : Nat) (gs gt gf gw : Nat → Int32), r = some (.ref q) ∧ h2 q = oL q (N_n (S_N S)) K (Lk (N_n (S_N S)) K) ∧ h2 (q + 1) = .inl (45, gs) ∧ h2 (q + 2) = .inl (45, gt) ∧ h2 (q + 3) = .inl (720, gf) ∧ h2 (q + 4) = .inl (720, gw) ∧ SV (N_n (S_N S)) K (Lk (N_n (S_N S)) K) gs gt gf gw) 27 [some (.ref 1), some (.int (nI K)), some (.ref q)] [] m2 hh us := by
    intro m2 q pe kn hB hh g2 gs gt gf gw gq us hm hq4 hb1 hb2 hs hsv fin
    obtain ⟨o0, o1, o2, o3, o4, o5, o6, o7⟩ := id hs
    have z1 : hh 1 = oO (S_K S).isSome := (o7 1 (by omega) (by decide)).trans (hb1.trans a0)
    have z2 : hh 2 = oN 2 (N_n (S_N S)) (nI (pk (N_t (S_N S)))) (nI (N_w (S_N S))) (N_ns (S_N S)) (N_ra (S_N S)) (N_se (S_N S)) (N_me (S_N S)) (N_mi (S_N S)) (N_fe (S_N S)) := (o7 2 (by omega) (by decide)).trans (hb2.trans n0)
    refine aw_aload_n d_Coat_slipsOf_27 rfl ?_
    refine aw_get (k := 0) d_Coat_slipsOf_28 cl_Slips k_Coat_350 (by decide) o0 rfl ?_
    refine aw_aload_n d_Coat_slipsOf_31 rfl ?_
    refine aw_get (k := 0) d_Coat_slipsOf_32 cl_Coat k_Coat_10 (by decide) z1 rfl ?_
    refine aw_get (k := 0) d_Coat_slipsOf_35 cl_Night k_Coat_82 (by decide) z2 rfl ?_
    refine aw_icmp_eq (tgt := 56) d_Coat_slipsOf_38 (by decide) (fun c38 => ?_) (fun c38 => ?_)
    · refine aw_aload_n d_Coat_slipsOf_56 rfl ?_
      refine aw_areturn d_Coat_slipsOf_57 rfl ?_
      first
        | (have epe : pe = N_n (S_N S) := by
             by_cases z : pe = 0
             · rw [z] at c38 ⊢; exact (nI_eq (by omega) (by omega)).mp c38
             · have := (hsv z).1; exact (nI_eq (by omega) (by omega)).mp c38
           subst epe
           have sv := (hsv (by omega)).2
           have ekn := sv.1
           subst ekn
           have fz := fin hh gs gt gf gw gq hs sv
           exact ⟨hm, fz.1, fz.2, q, gs, gt, gf, gw, rfl, o0, o1, o2, o3, o4, sv⟩)
        | (have fz := fin h3 gs2 gt2 gf2 gw2 gq2 hs2 sv2
           obtain ⟨y0, y1, y2, y3, y4, y5, y6, y7⟩ := hs2
           exact ⟨hm, fz.1, fz.2, q, gs2, gt2, gf2, gw2, rfl, y0, y1, y2, y3, y4, sv2⟩)
    · refine aw_aload_n d_Coat_slipsOf_41 rfl ?_
      refine aw_aload_n d_Coat_slipsOf_42 rfl ?_
      refine aw_get (k := 0) d_Coat_slipsOf_43 cl_Coat k_Coat_10 (by decide) z1 rfl ?_
      refine aw_get (k := 0) d_Coat_slipsOf_46 cl_Night k_Coat_82 (by decide) z2 rfl ?_
      refine aw_aload_n d_Coat_slipsOf_49 rfl ?_
      refine aw_get (k := 11) d_Coat_slipsOf_50 cl_Coat k_Coat_71 (by decide) z1 rfl ?_
      refine aw_v0 (a := q) d_Coat_slipsOf_53 k_Coat_351 ok_Slips_fill rfl ⟨rfl, rfl⟩ cl_Slips o0 (c_Slips_fill hn6 h0 hK hs) rfl rfl (Nat.le_of_ble_eq_true rfl) (fun r m3 h3 z => ?_)
      obtain ⟨rfl, em, gs2, gt2, gf2, gw2, gq2, hs2, sv2⟩ := z
      rw [em]
      show ab_W _ _ _ _ 56 _ [] _ _ _
      refine aw_aload_n d_Coat_slipsOf_56 rfl ?_
      refine aw_areturn d_Coat_slipsOf_57 rfl ?_
      first
        | (have epe : pe = N_n (S_N S) := by
             by_cases z : pe = 0
             · rw [z] at c38 ⊢; exact (nI_eq (by omega) (by omega)).mp c38
             · have := (hsv z).1; exact (nI_eq (by omega) (by omega)).mp c38
           subst epe
           have sv := (hsv (by omega)).2
           have ekn := sv.1
           subst ekn
           have fz := fin hh gs gt gf gw gq hs sv
           exact ⟨hm, fz.1, fz.2, q, gs, gt, gf, gw, rfl, o0, o1, o2, o3, o4, sv⟩)
        | (have fz := fin h3 gs2 gt2 gf2 gw2 gq2 hs2 sv2
           obtain ⟨y0, y1, y2, y3, y4, y5, y6, y7⟩ := hs2
           exact ⟨hm, fz.1, fz.2, q, gs2, gt2, gf2, gw2, rfl, y0, y1, y2, y3, y4, sv2⟩)
  cases eg : g K with
  | some q =>
    refine aw_aload_n d_Coat_slipsOf_0 rfl ?_
    refine aw_get (k := 10) d_Coat_slipsOf_1 cl_Coat k_Coat_67 (by decide) a0 rfl ?_
    refine aw_iload_n d_Coat_slipsOf_4 rfl ?_
    refine aw_aaload (v := q) d_Coat_slipsOf_5 p54 (vp_in_nI hK (by decide)) (by rw [nI_clamp (by omega)]; exact eg) ?_
    refine aw_astore_n (L' := [some (.ref 1), some (.int (nI K)), some (.ref q)]) d_Coat_slipsOf_6 ⟨by decide, rfl⟩ rfl ?_
    refine aw_aload_n d_Coat_slipsOf_7 rfl ?_
    refine aw_ifnonnull (tgt := 27) d_Coat_slipsOf_8 (by decide) ?_
    obtain ⟨a1, a2, a3, pe, kn, gs, gt, gf, gw, r0, r1, r2, r3, r4, r5⟩ := l3 K hK q eg
    rw [hVs] at r5
    refine cont m q pe kn h h g gs gt gf gw gq _ (Nat.le_refl _) a2 rfl rfl ⟨r0, r1, r2, r3, r4, e55, a1, fun k _ _ => rfl⟩ r5 ?_
    exact fun h2 gs2 gt2 gf2 gw2 gq2 hs2 sv2 => by
      obtain ⟨y0, y1, y2, y3, y4, y5, y6, y7⟩ := id hs2
      refine ⟨hX.sl (Nat.le_refl _) p54 ((y7 54 (by omega) (by decide)).trans p54) (fun k _ => rfl) eg ⟨y6, by omega⟩ (fun k hk ne q2 e2 => a3 k hk q2 e2 ne) ⟨_, _, gs2, gt2, gf2, gw2, y0, y1, y2, y3, y4, fun _ => by rw [hVs]; exact ⟨hn6, sv2⟩⟩ ⟨gq2, y5⟩ (fun k h1 h2 h3 => y7 k h1 h3), fun k h1 h2 => ?_⟩
      exact y7 k (by omega) (by omega)
  | none =>
    refine aw_aload_n d_Coat_slipsOf_0 rfl ?_
    refine aw_get (k := 10) d_Coat_slipsOf_1 cl_Coat k_Coat_67 (by decide) a0 rfl ?_
    refine aw_iload_n d_Coat_slipsOf_4 rfl ?_
    refine aw_aaloadN d_Coat_slipsOf_5 p54 (vp_in_nI hK (by decide)) (by rw [nI_clamp (by omega)]; exact eg) ?_
    refine aw_astore_nN (L' := [some (.ref 1), some (.int (nI K)), some (.null)]) d_Coat_slipsOf_6 ⟨by decide, rfl⟩ rfl ?_
    refine aw_aload_nN d_Coat_slipsOf_7 rfl ?_
    refine aw_ifnonnullN d_Coat_slipsOf_8 ?_
    refine aw_new (fs := [.int 0, .int 0, .int 0, .null, .null, .null, .null]) d_Coat_slipsOf_11 cl_Slips ⟨k_Coat_65, ins_Slips, ini_Slips⟩ (by decide) (fun _ => rfl) ⟨by decide, by decide⟩ ?_
    refine aw_dup d_Coat_slipsOf_14 rfl ?_
    refine aw_iload_n d_Coat_slipsOf_15 rfl ?_
    refine aw_invi d_Coat_slipsOf_16 k_Coat_348 ok_Slips_init rfl rfl rfl (Nat.le_of_ble_eq_true rfl) ⟨Nat.le_of_ble_eq_true rfl, Nat.le_of_ble_eq_true rfl⟩ (c_Slips_init (q := m + 1) (K := K) (ab_set_self _ _ _)) (fun r m2 hh q => ?_)
    obtain ⟨rfl, em, hz⟩ := q
    rw [em]
    show ab_W _ _ _ _ 19 _ [.ref (m + 1)] _ _ _
    have hlow : ∀ k, k ≤ m → hh k = h k := fun k hk => (hz.2.2 k (by omega)).trans (ab_set_ne (by omega))
    have z1 : hh 1 = oO (S_K S).isSome := (hlow 1 (by omega)).trans a0
    have z54 : hh 54 = .inr (.inl (true, 8, g)) := (hlow 54 (by omega)).trans p54
    refine aw_astore_n (L' := [some (.ref 1), some (.int (nI K)), some (.ref (m + 1))]) d_Coat_slipsOf_19 ⟨by decide, rfl⟩ rfl ?_
    refine aw_aload_n d_Coat_slipsOf_20 rfl ?_
    refine aw_get (k := 10) d_Coat_slipsOf_21 cl_Coat k_Coat_67 (by decide) z1 rfl ?_
    refine aw_iload_n d_Coat_slipsOf_24 rfl ?_
    refine aw_aload_n d_Coat_slipsOf_25 rfl ?_
    refine aw_aastore d_Coat_slipsOf_26 z54 cl_Slips hz.1 (vp_in_nI hK (by decide)) ?_
    rw [nI_clamp (by omega)]
    refine cont (m + 1 + 4) (m + 1) 0 0 (ab_set h 54 (.inr (.inl (true, 8, va_up g K (some (m + 1)))))) (ab_set hh 54 (.inr (.inl (true, 8, va_up g K (some (m + 1)))))) g (fun _ => 0) (fun _ => 0) (fun _ => 0) (fun _ => 0) gq _ (by omega) (Nat.le_refl _) (ab_set_ne (by decide)) (ab_set_ne (by decide)) ⟨(ab_set_ne (by omega)).trans hz.1, (ab_set_ne (by omega)).trans (hz.2.1 1 (by decide) (by decide)), (ab_set_ne (by omega)).trans (hz.2.1 2 (by decide) (by decide)), (ab_set_ne (by omega)).trans (hz.2.1 3 (by decide) (by decide)), (ab_set_ne (by omega)).trans (hz.2.1 4 (by decide) (by decide)), (ab_set_ne (by decide)).trans ((hlow 55 (by omega)).trans e55), by omega, fun k h1 h2 => ?_⟩ (fun z => absurd rfl z) ?_
    · by_cases z : k = 54
      · subst z; rw [ab_set_self, ab_set_self]
      · rw [ab_set_ne z, ab_set_ne z, hz.2.2 k h1, ab_set_ne (by omega)]
    · exact fun h2 gs2 gt2 gf2 gw2 gq2 hs2 sv2 => by
        obtain ⟨y0, y1, y2, y3, y4, y5, y6, y7⟩ := id hs2
        refine ⟨hX.sl (show m ≤ m + 1 + 4 by omega) p54 ((y7 54 (by omega) (by decide)).trans (ab_set_self _ _ _)) (fun k ne => if_neg ne) (if_pos rfl) ⟨y6, by omega⟩ (fun k hk ne q2 e2 => by have := (l3 k hk q2 e2).2.1; omega) ⟨_, _, gs2, gt2, gf2, gw2, y0, y1, y2, y3, y4, fun _ => by rw [hVs]; exact ⟨hn6, sv2⟩⟩ ⟨gq2, y5⟩ (fun k h1 h2 h3 => (y7 k h1 h3).trans (ab_set_ne h2)), fun k h1 h2 => ?_⟩
        exact (y7 k (by omega) (by omega)).trans (ab_set_ne (by omega))
theorem x_explained {V : VV} {m : Nat} {h : ab_H} {S : SS} (hX : PX V m h S) (ok : S_ok S) (hVs : V.2.2.2.1 = SW) (k w : Int32) : CX V Y_Coat_explained [.int k, .int w] m h (fun r S2 => (r, S2) = sp_explained S k w) := by
  obtain ⟨⟨a0, ⟨n0, n1, n2, n3, n4, n5, n6, n7, n8⟩, a2⟩, p1, p2, p3, p4, p5, p6, p7⟩ := id hX
  have hn6 : N_n (S_N S) ≤ 6 := ok.1.1
  have hnT := nI_toInt (show N_n (S_N S) < 2 ^ 31 by omega)
  have w2 : (-2 : Int32).toInt = -2 := by decide
  have w1 : (-1 : Int32).toInt = -1 := by decide
  have hTb : Tb (N_n (S_N S)) (N_t (S_N S)) := ⟨ok.1.pm, ok.1.2.2.1⟩
  refine ab_C.of (L := [some (.ref 1), some (.int k), some (.int w), none]) rfl rfl (Nat.le_of_ble_eq_true rfl) (fun l => ?_)
  refine aw_iload_n d_Coat_explained_0 rfl ?_
  refine aw_iconst (v := nI 1) d_Coat_explained_1 (by decide) ?_
  refine aw_icmp_lt (tgt := 17) d_Coat_explained_2 (by decide) (fun c2 => ?_) (fun c2 => ?_)
  · refine aw_iconst (v := (-1)) d_Coat_explained_17 (by decide) ?_
    refine aw_ireturn d_Coat_explained_18 rfl rfl ?_
    refine ⟨_, S, rfl, ?_, hX, Nat.le_refl _, fun k _ _ => rfl⟩
    unfold sp_explained
    rw [if_neg]
    intro z
    obtain ⟨⟨z1, z2⟩, z3⟩ := z
    first
      | (rw [fa_lt, show (nI 1).toInt = 1 from by decide] at c2; omega)
      | (rw [fa_lt, show (nI 7).toInt = 7 from by decide] at c8; omega)
      | (rw [fa_le, w2] at c14; omega)
  · refine aw_iload_n d_Coat_explained_5 rfl ?_
    refine aw_bipush (v := nI 7) d_Coat_explained_6 (by decide) ?_
    refine aw_icmp_gt (tgt := 17) d_Coat_explained_8 (by decide) (fun c8 => ?_) (fun c8 => ?_)
    · refine aw_iconst (v := (-1)) d_Coat_explained_17 (by decide) ?_
      refine aw_ireturn d_Coat_explained_18 rfl rfl ?_
      refine ⟨_, S, rfl, ?_, hX, Nat.le_refl _, fun k _ _ => rfl⟩
      unfold sp_explained
      rw [if_neg]
      intro z
      obtain ⟨⟨z1, z2⟩, z3⟩ := z
      first
        | (rw [fa_lt, show (nI 1).toInt = 1 from by decide] at c2; omega)
        | (rw [fa_lt, show (nI 7).toInt = 7 from by decide] at c8; omega)
        | (rw [fa_le, w2] at c14; omega)
    · refine aw_iload_n d_Coat_explained_11 rfl ?_
      refine aw_bipush (v := (-2)) d_Coat_explained_12 (by decide) ?_
      refine aw_icmp_ge (tgt := 19) d_Coat_explained_14 (by decide) (fun c14 => ?_) (fun c14 => ?_)
      · have irk : ir k 1 7 := by
          simp only [fa_lt] at c2 c8
          rw [show (nI 1).toInt = 1 from by decide] at c2
          rw [show (nI 7).toInt = 7 from by decide] at c8
          exact ⟨by omega, by omega⟩
        have irw : -2 ≤ w.toInt := by rw [fa_le, w2] at c14; exact c14
        obtain ⟨K, hK7, rfl⟩ := irC (x := k) (n := 7) ⟨by have := irk.1; omega, irk.2⟩
        have h0 : 0 < K := by have := irk.1; rw [nI_toInt (by omega)] at this; omega
        have hK : K < 8 := by omega
        refine aw_aload_n d_Coat_explained_19 rfl ?_
        refine aw_get (k := 0) d_Coat_explained_20 cl_Coat k_Coat_10 (by decide) a0 rfl ?_
        refine aw_get (k := 0) d_Coat_explained_23 cl_Night k_Coat_82 (by decide) n0 rfl ?_
        refine aw_if_ne (tgt := 32) d_Coat_explained_26 (by decide) (fun c26 => ?_) (fun c26 => ?_)
        · have hn0 : 1 ≤ N_n (S_N S) := Nat.pos_of_ne_zero (fun z => c26 (by rw [z]; rfl))
          refine aw_aload_n d_Coat_explained_32 rfl ?_
          refine aw_iload_n d_Coat_explained_33 rfl ?_
          refine aw_invv (a := 1) d_Coat_explained_34 k_Coat_262 ok_Coat_slipsOf rfl cl_Coat a0 rfl rfl (Nat.le_of_ble_eq_true rfl) ⟨Nat.le_of_ble_eq_true rfl, Nat.le_of_ble_eq_true rfl⟩ (c_slipsOf hX ok hVs hn0 h0 hK) (fun r m2 h2 z => ?_)
          obtain ⟨hm, hX2, hfr, q, gs, gt, gf, gw, rfl, o0, o1, o2, o3, o4, sv⟩ := z
          have dt := DD_t hn6 h0 hK hTb
          show ab_W _ _ _ _ 37 _ [.ref q] _ _ _
          refine aw_astore_n (L' := [some (.ref 1), some (.int (nI K)), some (.int w), some (.ref q)]) d_Coat_explained_37 ⟨by decide, rfl⟩ rfl ?_
          refine aw_iload_n d_Coat_explained_38 rfl ?_
          refine aw_iconst (v := (-1)) d_Coat_explained_39 (by decide) ?_
          refine aw_icmp_ne (tgt := 55) d_Coat_explained_40 (by decide) (fun c40 => ?_) (fun c40 => ?_)
          · refine aw_iload_n d_Coat_explained_55 rfl ?_
            refine aw_bipush (v := (-2)) d_Coat_explained_56 (by decide) ?_
            refine aw_icmp_ne (tgt := 73) d_Coat_explained_58 (by decide) (fun c58 => ?_) (fun c58 => ?_)
            · refine aw_iload_n d_Coat_explained_73 rfl ?_
              refine aw_aload_n d_Coat_explained_74 rfl ?_
              refine aw_aload_n d_Coat_explained_75 rfl ?_
              refine aw_get (k := 0) d_Coat_explained_76 cl_Coat k_Coat_10 (by decide) hX2.1.1 rfl ?_
              refine aw_get (k := 6) d_Coat_explained_79 cl_Night k_Coat_96 (by decide) hX2.1.2.1.1 rfl ?_
              refine aw_v0i (a := q) d_Coat_explained_82 k_Coat_266 ok_Slips_fewestTo rfl ⟨rfl, rfl⟩ cl_Slips o0 (c_fewestTo hn6 h0 hK o0 o1 o2 o3 o4 sv hTb) rfl rfl (Nat.le_of_ble_eq_true rfl) ?_
              refine aw_icmp_ge (tgt := 103) d_Coat_explained_85 (by decide) (fun c85 => ?_) (fun c85 => ?_)
              · refine aw_bipush (v := (-4)) d_Coat_explained_103 (by decide) ?_
                refine aw_ireturn d_Coat_explained_105 rfl rfl ?_
                refine ⟨_, S, rfl, ?_, hX2, hm, hfr⟩
                unfold sp_explained
                rw [if_pos ⟨irk, irw⟩, if_neg (by omega), cl_nI (by omega)]
                rw [if_neg c40, if_neg c58]
                first
                  | (rw [if_pos (by rw [nI_toInt hj]; omega), cl_nI hj]; done)
                  | (rw [if_neg (by rw [fa_le, nI_toInt (by omega)] at c85; omega)]; done)
              · obtain ⟨j, hj, rfl⟩ : ∃ j, j < 2 ^ 31 ∧ w = nI j := nI_of (by
                  rw [fa_lt, Int32.toInt_zero]
                  rw [fa_eq, w1] at c40
                  rw [fa_eq, w2] at c58
                  omega)
                have hjd : j < DD (N_n (S_N S)) K (N_t (S_N S)) := Nat.not_le.mp (fun z => c85 (nI_le z hj))
                refine aw_aload_n d_Coat_explained_88 rfl ?_
                refine aw_aload_n d_Coat_explained_89 rfl ?_
                refine aw_get (k := 0) d_Coat_explained_90 cl_Coat k_Coat_10 (by decide) hX2.1.1 rfl ?_
                refine aw_get (k := 6) d_Coat_explained_93 cl_Night k_Coat_96 (by decide) hX2.1.2.1.1 rfl ?_
                refine aw_iload_n d_Coat_explained_96 rfl ?_
                refine aw_v0i (a := q) d_Coat_explained_97 k_Coat_272 ok_Slips_firstWayAt rfl ⟨rfl, rfl⟩ cl_Slips o0 (c_firstWayAt hn6 h0 hK o0 o1 o2 o3 o4 sv hTb hjd) rfl rfl (Nat.le_of_ble_eq_true rfl) ?_
                refine aw_goto (tgt := 105) d_Coat_explained_100 (by decide) ?_
                refine aw_ireturn d_Coat_explained_105 rfl rfl ?_
                refine ⟨_, S, rfl, ?_, hX2, hm, hfr⟩
                unfold sp_explained
                rw [if_pos ⟨irk, irw⟩, if_neg (by omega), cl_nI (by omega)]
                rw [if_neg c40, if_neg c58]
                first
                  | (rw [if_pos (by rw [nI_toInt hj]; omega), cl_nI hj]; done)
                  | (rw [if_neg (by rw [fa_le, nI_toInt (by omega)] at c85; omega)]; done)
            · refine aw_aload_n d_Coat_explained_61 rfl ?_
              refine aw_aload_n d_Coat_explained_62 rfl ?_
              refine aw_get (k := 0) d_Coat_explained_63 cl_Coat k_Coat_10 (by decide) hX2.1.1 rfl ?_
              refine aw_get (k := 6) d_Coat_explained_66 cl_Night k_Coat_96 (by decide) hX2.1.2.1.1 rfl ?_
              refine aw_v0i (a := q) d_Coat_explained_69 k_Coat_269 ok_Slips_waysTo rfl ⟨rfl, rfl⟩ cl_Slips o0 (c_waysTo hn6 h0 hK o0 o1 o2 o3 o4 sv hTb) rfl rfl (Nat.le_of_ble_eq_true rfl) ?_
              refine aw_ireturn d_Coat_explained_72 rfl rfl ?_
              refine ⟨_, S, rfl, ?_, hX2, hm, hfr⟩
              unfold sp_explained
              rw [if_pos ⟨irk, irw⟩, if_neg (by omega), cl_nI (by omega)]
              rw [if_neg c40, if_pos c58]
          · refine aw_aload_n d_Coat_explained_43 rfl ?_
            refine aw_aload_n d_Coat_explained_44 rfl ?_
            refine aw_get (k := 0) d_Coat_explained_45 cl_Coat k_Coat_10 (by decide) hX2.1.1 rfl ?_
            refine aw_get (k := 6) d_Coat_explained_48 cl_Night k_Coat_96 (by decide) hX2.1.2.1.1 rfl ?_
            refine aw_v0i (a := q) d_Coat_explained_51 k_Coat_266 ok_Slips_fewestTo rfl ⟨rfl, rfl⟩ cl_Slips o0 (c_fewestTo hn6 h0 hK o0 o1 o2 o3 o4 sv hTb) rfl rfl (Nat.le_of_ble_eq_true rfl) ?_
            refine aw_ireturn d_Coat_explained_54 rfl rfl ?_
            refine ⟨_, S, rfl, ?_, hX2, hm, hfr⟩
            unfold sp_explained
            rw [if_pos ⟨irk, irw⟩, if_neg (by omega), cl_nI (by omega)]
            rw [if_pos c40]
        · refine aw_bipush (v := (-2)) d_Coat_explained_29 (by decide) ?_
          refine aw_ireturn d_Coat_explained_31 rfl rfl ?_
          refine ⟨_, S, rfl, ?_, hX, Nat.le_refl _, fun k _ _ => rfl⟩
          unfold sp_explained
          rw [if_pos ⟨irk, irw⟩, if_pos ((nI_eq (b := 0) (by omega) (by decide)).mp c26)]
      · refine aw_iconst (v := (-1)) d_Coat_explained_17 (by decide) ?_
        refine aw_ireturn d_Coat_explained_18 rfl rfl ?_
        refine ⟨_, S, rfl, ?_, hX, Nat.le_refl _, fun k _ _ => rfl⟩
        unfold sp_explained
        rw [if_neg]
        intro z
        obtain ⟨⟨z1, z2⟩, z3⟩ := z
        first
          | (rw [fa_lt, show (nI 1).toInt = 1 from by decide] at c2; omega)
          | (rw [fa_lt, show (nI 7).toInt = 7 from by decide] at c8; omega)
          | (rw [fa_le, w2] at c14; omega)
