theorem and_b {w a : Nat} (ha : a < 6) : 2 ^ a &&& w = 0 ↔ ¬ w / 2 ^ a % 2 = 1 := by
  constructor
  · exact fun h => and_0 h ((b_pow _ _).mpr rfl)
  · intro h
    refine Classical.byContradiction (fun z => ?_)
    obtain ⟨q, hq, hb⟩ := s_ne (and_63 (a := 2 ^ a) (b := w) (p6_lt ha)) z
    rw [b_and, b_pow] at hb
    rw [hb.1] at h
    exact h hb.2
theorem or_2 (x y : Nat) : (x ||| y) % 2 = 0 ↔ ¬ x % 2 = 1 ∧ ¬ y % 2 = 1 := by
  have h := b_orr x y 0
  rw [Nat.pow_zero, Nat.div_one, Nat.div_one, Nat.div_one] at h
  omega
/-- pairs -/
theorem pair_e {N : NS} (ok : N_ok N) (x : Nat → Nat) {a c : Nat} (hac : a < c) (hc : c < N_n N) : mtA (6 * a + c) = 100 * a + c ∧ sto N x (6 * a + c) = sw x a c ∧ sco N x (6 * a + c) = 2 * fr N a c ∧ (sok N x (6 * a + c) ↔ ¬ N_w N / 2 ^ a % 2 = 1 ∧ ¬ N_w N / 2 ^ c % 2 = 1) := by
  have hn := ok.1
  have e : mtA (6 * a + c) = 100 * a + c := by rw [mtA_pair (by omega)]; omega
  have w : who N x (100 * a + c) = 2 ^ a ||| 2 ^ c := by
    unfold who whoP
    rw [if_pos (by omega), if_pos (by omega), show (100 * a + c) % 10000 / 100 = a by omega, show (100 * a + c) % 10000 % 100 = c by omega]
  refine ⟨e, ?_, ?_, ?_⟩
  · unfold sto aft
    rw [e, if_pos (by omega), show (100 * a + c) / 100 = a by omega, show (100 * a + c) % 100 = c by omega]
  · unfold sco mil
    rw [e, if_pos (by omega), show (100 * a + c) % 10000 / 100 = a by omega, show (100 * a + c) % 10000 % 100 = c by omega]
  · unfold sok
    rw [e, w, or_and_0, and_b (by omega), and_b (by omega)]
    refine ⟨fun z => z.2.2, fun z => ⟨fun y => by omega, fun y => ?_, z⟩⟩
    have := (b_orr (2 ^ a) (2 ^ c) a).mpr (Or.inl ((b_pow a a).mpr rfl))
    rw [y] at this
    exact b_zero a this
theorem pair_j {N : NS} (ok : N_ok N) {x : Nat → Nat} (hx : Tb (N_n N) x) {j : Nat} (hj : j < 36) (h : sok N x j) : j / 6 < j % 6 ∧ j % 6 < N_n N := by
  have hmv : j / 6 < j % 6 := Classical.byContradiction (fun z => h.1 ⟨hj, z⟩)
  obtain ⟨_, w2⟩ := who_t ok hx.1 hx.2 h.2.1
  have em := mtA_pair hj
  rcases w2 with ⟨_, a, c, _⟩ | ⟨z, _⟩ | ⟨z, _⟩
  · rw [em] at c; exact ⟨hmv, by omega⟩
  · rw [em] at z; omega
  · rw [em] at z; omega
/-- at inns -/
def vld (N : NS) (s : Nat) : Prop := s < 2 ^ N_n N ∧ 2 ≤ pop s ∧ pop s ≤ N_se N ∧ s &&& N_w N = 0
theorem inn_m {i s : Nat} (hi : i < 4) (hs : s < 64) : mtA (36 + 64 * i + s) = 10000 + 1000 * i + s := by
  unfold mtA
  rw [if_neg (by omega), if_pos (by omega), show (36 + 64 * i + s - 36) / 64 = i by omega, show (36 + 64 * i + s - 36) % 64 = s by omega]
theorem inn_e {N : NS} (x : Nat → Nat) {i s : Nat} (hi : i < 4) (hs : s < 64) : (sok N x (36 + 64 * i + s) ↔ i < N_ns N ∧ vld N s) ∧ (i < N_ns N → vld N s → sto N x (36 + 64 * i + s) = stt x s ∧ sco N x (36 + 64 * i + s) = 2 * toI N i s (N_n N)) := by
  have e := inn_m hi hs
  have w : who N x (10000 + 1000 * i + s) = whoI N i s := by
    unfold who
    rw [if_neg (by omega), if_pos (by omega), show (10000 + 1000 * i + s) % 10000 / 1000 = i by omega, show (10000 + 1000 * i + s) % 10000 % 1000 = s by omega]
  refine ⟨?_, fun h1 h2 => ?_⟩
  · unfold sok
    rw [e, w]
    unfold whoI vld
    by_cases q : i < N_ns N ∧ s < 2 ^ N_n N ∧ 2 ≤ pop s ∧ pop s ≤ N_se N
    · rw [if_pos q]
      refine ⟨fun z => ⟨q.1, q.2.1, q.2.2.1, q.2.2.2, z.2.2⟩, fun z => ⟨fun y => by omega, fun y => ?_, z.2.2.2.2⟩⟩
      rw [y] at q
      exact absurd q.2.2.1 (by decide)
    · rw [if_neg q]
      exact ⟨fun z => absurd rfl z.2.1, fun z => absurd ⟨z.1, z.2.1, z.2.2.1, z.2.2.2.1⟩ q⟩
  · have w2 : who N x (10000 + 1000 * i + s) = s := by
      rw [w]
      exact if_pos ⟨h1, h2.1, h2.2.1, h2.2.2.1⟩
    unfold sto aft sco mil
    rw [e, w2, if_neg (by omega), if_neg (by omega), if_pos (by omega), show (10000 + 1000 * i + s) % 10000 / 1000 = i by omega]
    exact ⟨rfl, rfl⟩
/-- by post -/
theorem post_m {q : Nat} : mtA (292 + q) = 20000 + q := by
  unfold mtA
  rw [if_neg (by omega), if_neg (by omega), show 292 + q - 292 = q by omega]
theorem post_e {N : NS} (x : Nat → Nat) {q : Nat} (hq : q < 6) : (sok N x (292 + q) ↔ (q < N_n N ∧ tz (rg x q) = q ∧ 1 < pop (rg x q)) ∧ rg x q &&& N_w N = 0) ∧ ((q < N_n N ∧ tz (rg x q) = q ∧ 1 < pop (rg x q)) → sto N x (292 + q) = stt x (rg x q) ∧ sco N x (292 + q) = N_ra N * ffo N x (rg x q) (N_n N)) := by
  have e := post_m (q := q)
  have w : who N x (20000 + q) = whoR (N_n N) x q := by
    unfold who
    rw [if_neg (by omega), if_neg (by omega), if_pos (by omega), show (20000 + q) % 10000 = q by omega]
  refine ⟨?_, fun h1 => ?_⟩
  · unfold sok
    rw [e, w]
    unfold whoR
    by_cases z : q < N_n N ∧ tz (rg x q) = q ∧ 1 < pop (rg x q)
    · rw [if_pos z]
      refine ⟨fun y => ⟨z, y.2.2⟩, fun y => ⟨fun y => by omega, fun y => ?_, y.2⟩⟩
      rw [y] at z
      exact absurd z.2.2 (by decide)
    · rw [if_neg z]
      exact ⟨fun y => absurd rfl y.2.1, fun y => absurd y.1 z⟩
  · have w2 : who N x (20000 + q) = rg x q := by
      rw [w]
      exact if_pos h1
    unfold sto aft sco mil
    rw [e, w2, if_neg (by omega), if_neg (by omega), if_neg (by omega)]
    exact ⟨rfl, rfl⟩
theorem ED_.wk {N : NS} {lim : Nat} {sn : Nat → Prop} {M : Nat → Nat} {P : Nat → List Nat} {f j j2 : Nat} (h : ED_ N lim sn M P f j) (e : rto N f j2 = rto N f j) (hl : lbj N M P f j < lbj N M P f j2 ∨ (lbj N M P f j = lbj N M P f j2 ∧ j ≤ j2)) : ED_ N lim sn M P f j2 := by
  rcases h with h | ⟨h1, h2⟩
  · exact Or.inl (by omega)
  · refine Or.inr ⟨by rw [e]; exact h1, ?_⟩
    rw [e]
    rcases h2 with h2 | ⟨h2, h3⟩
    · exact Or.inl (by omega)
    · rcases hl with z | ⟨z, y⟩
      · exact Or.inl (by omega)
      · refine Or.inr ⟨by omega, rle_tr h3 ?_⟩
        rcases Nat.lt_or_eq_of_le y with y | y
        · exact Or.inl (show rlt (P f) (P f) ∨ _ from Or.inr ⟨rfl, y⟩)
        · exact Or.inr (by rw [y])
/-- the nearest inn of a set, of like ones the first -/
def INs (N : NS) (s : Nat) (v w : Int32) : Prop := (¬ (vld N s ∧ 0 < N_ns N) → w = nI 0) ∧ (vld N s ∧ 0 < N_ns N → ∃ i, i < N_ns N ∧ w = nI (10000 + 1000 * i + s) ∧ v = nI (2 * toI N i s (N_n N)) ∧ (∀ i2, i2 < N_ns N → toI N i s (N_n N) ≤ toI N i2 s (N_n N)) ∧ ∀ i2, i2 < i → toI N i s (N_n N) < toI N i2 s (N_n N))
/-- the state while a table is gone over; what is taken up stays as it was -/
def QX (N : NS) (b : Nat) (h hh : ab_H) (K cu : Nat) (dn : Nat → Prop) (kc lim0 : Nat) (go : Int32) (gi gm : Nat → Int32) (cl : Nat → Prop) (M0 : Nat → Nat) (P0 : Nat → List Nat) : Prop := ∃ (lim : Nat) (sn : Nat → Prop) (M : Nat → Nat) (P : Nat → List Nat) (F J : Nat → Nat), QS N b h hh K cu dn kc lim go gi gm sn cl M P F J ∧ lim ≤ lim0 ∧ (lim = lim0 ∨ kc < lim) ∧ ∀ z, cl z → M z = M0 z ∧ P z = P0 z
theorem QX.dn_ {N : NS} {b : Nat} {h hh : ab_H} {K cu : Nat} {dn dn2 : Nat → Prop} {kc lim0 : Nat} {go : Int32} {gi gm : Nat → Int32} {cl : Nat → Prop} {M0 : Nat → Nat} {P0 : Nat → List Nat} (q : QX N b h hh K cu dn kc lim0 go gi gm cl M0 P0) (hd : ∀ j, j < 298 → sok N (xr cu) j → dn2 j → dn j) : QX N b h hh K cu dn2 kc lim0 go gi gm cl M0 P0 := by
  obtain ⟨lim, sn, M, P, F, J, ⟨kn, mi, me, gs, gg, gr, gf, gb, sz, gk, gt, gp, pl, pa, hp, iv⟩, l1, l2, l3⟩ := q
  exact ⟨lim, sn, M, P, F, J, ⟨kn, mi, me, gs, gg, gr, gf, gb, sz, gk, gt, gp, pl, pa, hp, iv.dn_ (fun j hj hs h2 => Or.inl (hd j hj hs h2))⟩, l1, l2, l3⟩
theorem c_mpair {m : Nat} {h : ab_H} {a c : Nat} : ab_D Y_Meetings_pair [.int (nI a), .int (nI c)] m h (some (.int (nI (100 * a + c)))) m (h) := by
  refine ab_C.of (L := [some (.int (nI a)), some (.int (nI c))]) rfl rfl (Nat.le_of_ble_eq_true rfl) (fun l => ?_)
  refine aw_bipush (v := nI 100) d_Meetings_pair_0 (by decide) ?_
  refine aw_iload_n d_Meetings_pair_2 rfl ?_
  refine aw_imul d_Meetings_pair_3 ?_
  refine aw_iload_n d_Meetings_pair_4 rfl ?_
  refine aw_iadd d_Meetings_pair_5 ?_
  refine aw_ireturn d_Meetings_pair_6 rfl rfl ?_
  refine ⟨congrArg (fun z => some (Value.int z)) ?_, rfl, rfl⟩
  first
    | (rw [pk_mul, nI_add, nI_add]; done)
    | (rw [pk_mul, nI_add]; done)
    | (rw [nI_add]; done)
theorem c_matInn {m : Nat} {h : ab_H} {i s : Nat} : ab_D Y_Meetings_atInn [.int (nI i), .int (nI s)] m h (some (.int (nI (10000 + 1000 * i + s)))) m (h) := by
  refine ab_C.of (L := [some (.int (nI i)), some (.int (nI s))]) rfl rfl (Nat.le_of_ble_eq_true rfl) (fun l => ?_)
  refine aw_sipush (v := nI 10000) d_Meetings_atInn_0 (by decide) ?_
  refine aw_sipush (v := nI 1000) d_Meetings_atInn_3 (by decide) ?_
  refine aw_iload_n d_Meetings_atInn_6 rfl ?_
  refine aw_imul d_Meetings_atInn_7 ?_
  refine aw_iadd d_Meetings_atInn_8 ?_
  refine aw_iload_n d_Meetings_atInn_9 rfl ?_
  refine aw_iadd d_Meetings_atInn_10 ?_
  refine aw_ireturn d_Meetings_atInn_11 rfl rfl ?_
  refine ⟨congrArg (fun z => some (Value.int z)) ?_, rfl, rfl⟩
  first
    | (rw [pk_mul, nI_add, nI_add]; done)
    | (rw [pk_mul, nI_add]; done)
    | (rw [nI_add]; done)
theorem c_mpost {m : Nat} {h : ab_H} {q : Nat} : ab_D Y_Meetings_post [.int (nI q)] m h (some (.int (nI (20000 + q)))) m (h) := by
  refine ab_C.of (L := [some (.int (nI q))]) rfl rfl (Nat.le_of_ble_eq_true rfl) (fun l => ?_)
  refine aw_sipush (v := nI 20000) d_Meetings_post_0 (by decide) ?_
  refine aw_iload_n d_Meetings_post_3 rfl ?_
  refine aw_iadd d_Meetings_post_4 ?_
  refine aw_ireturn d_Meetings_post_5 rfl rfl ?_
  refine ⟨congrArg (fun z => some (Value.int z)) ?_, rfl, rfl⟩
  first
    | (rw [pk_mul, nI_add, nI_add]; done)
    | (rw [pk_mul, nI_add]; done)
    | (rw [nI_add]; done)
theorem IV.zero {N : NS} (ok : N_ok N) {b lim : Nat} (eb : bnd (N_n N) (N_w N) (N_t N) = b) (h : (ow (N_t N) b = true ∧ lim = 0) ∨ (ow (N_t N) b = false ∧ lim = 2147483647)) : IV N b 0 0 (fun _ => True) 0 lim (fun z => z = rk (N_t N)) (fun _ => False) (fun _ => 0) (fun _ => []) (fun _ => 0) (fun _ => 0) := by
  have hT : Tb (N_n N) (N_t N) := ⟨ok.pm, ok.2.2.1⟩
  have ex := xr_rk hT.1
  refine ⟨fun r hr => ?_, fun r hr => False.elim hr, fun r _ _ => Nat.zero_le _, fun f hf => False.elim hf, fun r hr hw => ?_, ?_, ⟨fun _ => 0, fun i hi => absurd hi (Nat.not_lt_zero _), fun i j _ hj => absurd hj (Nat.not_lt_zero _)⟩, rfl, rfl, rfl⟩
  · have hr : r = rk (N_t N) := hr
    subst hr
    unfold SN_
    rw [ex]
    exact ⟨(rk_t hT.1).1, hT, rfl, eb, Nat.le_refl _, Nat.zero_le _, Or.inl ⟨rfl, rfl, rfl⟩⟩
  · have hr : r = rk (N_t N) := hr
    rw [hr, ex] at hw
    rcases h with z | z
    · rw [z.2]; exact Nat.zero_le _
    · rw [z.1] at hw; cases hw
  · rcases h with z | z
    · exact Or.inr ⟨rk (N_t N), rfl, by rw [ex]; exact z.1, z.2.symm⟩
    · exact Or.inl z.2
theorem c_reach0 {m : Nat} {h hh : ab_H} {N : NS} (hX : NX h 2 N) (ok : N_ok N) {kn : Bool} {mi me : Int32} {b : Nat} (eb : bnd (N_n N) (N_w N) (N_t N) = b) {go : Int32} {gs gg gr gf gb gk gt gp gi gm : Nat → Int32} (pl : PL h hh kn mi me b go 2147483647 gs gg gr gf gb 0 gk gt gp gi gm) (hg : ∀ z, z < 720 → gg z = -1) : ab_C Y_Planner_reach [.ref 35, .int (-1), .int (nI 0), .int (nI (pk (N_t N))), .int (nI 0)] m hh (fun r9 m2 h2 => r9 = none ∧ m2 = m ∧ ∃ lim2 : Nat, QS N b h h2 0 0 (fun _ => True) 0 lim2 go gi gm (fun z => z = (rk (N_t N))) (fun _ => False) (fun _ => 0) (fun _ => []) (fun _ => 0) (fun _ => 0)) := by
  obtain ⟨o35, o36, o37, o38, o39, o40, o41, o42, o43, o44, o45, o46, ofr⟩ := id pl
  have nX : NX hh 2 N := hX.fr (fun k _ _ => ofr k (by omega))
  have n0 := nX.1
  have hn6 := ok.1
  have hT : Tb (N_n N) (N_t N) := ⟨ok.pm, ok.2.2.1⟩
  have hr7 : (rk (N_t N)) < 720 := (rk_t hT.1).1
  have hffo := ffo_lt ok hT.1 b hn6
  have hb6 : b < 64 := by rw [← eb]; exact bnd_lt _ _ _ hn6
  have hp0 : HP (fun _ => False) (fun _ => 0) 0 gk gt gp := ⟨fun _ => 0, by omega, fun i hi => absurd hi (Nat.not_lt_zero _), fun i hi => absurd hi (Nat.not_lt_zero _), fun r hr => False.elim hr, fun i _ hi => absurd hi (Nat.not_lt_zero _)⟩
  refine ab_C.of (L := [some (.ref 35), some (.int (-1)), some (.int (nI 0)), some (.int (nI (pk (N_t N)))), some (.int (nI 0)), none, none]) rfl rfl (Nat.le_of_ble_eq_true rfl) (fun l => ?_)
  refine aw_iload_n d_Planner_reach_0 rfl ?_
  refine aw_s0i d_Planner_reach_1 k_Planner_169 ok_Rows_rank rfl ⟨rfl, rfl⟩ (c_rank hT.1) rfl rfl (Nat.le_of_ble_eq_true rfl) ?_
  refine aw_istore (L' := [some (.ref 35), some (.int (-1)), some (.int (nI 0)), some (.int (nI (pk (N_t N)))), some (.int (nI 0)), some (.int (nI (rk (N_t N)))), none]) d_Planner_reach_4 ⟨by decide, rfl⟩ rfl ?_
  refine aw_aload_n d_Planner_reach_6 rfl ?_
  refine aw_get (k := 8) d_Planner_reach_7 cl_Planner k_Planner_15 (by decide) o35 rfl ?_
  refine aw_iload d_Planner_reach_10 rfl ?_
  refine aw_ialoadN d_Planner_reach_12 o37 hr7 (by decide) ?_
  rw [hg _ hr7]
  refine aw_istore (L' := [some (.ref 35), some (.int (-1)), some (.int (nI 0)), some (.int (nI (pk (N_t N)))), some (.int (nI 0)), some (.int (nI (rk (N_t N)))), some (.int (-1))]) d_Planner_reach_13 ⟨by decide, rfl⟩ rfl ?_
  refine aw_iload d_Planner_reach_15 rfl ?_
  refine aw_iconst (v := (-1)) d_Planner_reach_17 (by decide) ?_
  refine aw_icmp_ne (tgt := 60) d_Planner_reach_18 (by decide) (fun c18 => ?_) (fun c18 => ?_)
  · first | exact absurd c18 (by decide) | exact absurd (by decide) c18
  · refine aw_aload_n d_Planner_reach_21 rfl ?_
    refine aw_get (k := 9) d_Planner_reach_22 cl_Planner k_Planner_18 (by decide) o35 rfl ?_
    refine aw_iload d_Planner_reach_25 rfl ?_
    refine aw_iload_n d_Planner_reach_27 rfl ?_
    refine aw_iastoreN d_Planner_reach_28 o38 hr7 (by decide) ?_
    refine aw_gen (fun z => PL h z kn mi me b go 2147483647 gs gg (upd gr (rk (N_t N)) (nI (pk (N_t N)))) gf gb 0 gk gt gp gi gm) (pl.s38 _) (fun hh pl => ?_)
    obtain ⟨o35, o36, o37, o38, o39, o40, o41, o42, o43, o44, o45, o46, ofr⟩ := id pl
    have nX : NX hh 2 N := hX.fr (fun k _ _ => ofr k (by omega))
    have n0 := nX.1
    refine aw_aload_n d_Planner_reach_29 rfl ?_
    refine aw_get (k := 12) d_Planner_reach_30 cl_Planner k_Planner_30 (by decide) o35 rfl ?_
    refine aw_iload d_Planner_reach_33 rfl ?_
    refine aw_iload d_Planner_reach_35 rfl ?_
    refine aw_sipush (v := nI 1024) d_Planner_reach_37 (by decide) ?_
    refine aw_aload_n d_Planner_reach_40 rfl ?_
    refine aw_get (k := 4) d_Planner_reach_41 cl_Planner k_Planner_40 (by decide) o35 rfl ?_
    refine aw_iload_n d_Planner_reach_44 rfl ?_
    refine aw_aload_n d_Planner_reach_45 rfl ?_
    refine aw_get (k := 5) d_Planner_reach_46 cl_Planner k_Planner_50 (by decide) o35 rfl ?_
    refine aw_v0i (a := 2) d_Planner_reach_49 k_Planner_163 ok_Night_farFromOwners rfl ⟨rfl, rfl⟩ cl_Night n0 (c_ffo nX ok hT.1 (s := b) (by omega)) rfl rfl (Nat.le_of_ble_eq_true rfl) ?_
    refine aw_imul d_Planner_reach_52 ?_
    rw [pk_mul]
    refine aw_iadd d_Planner_reach_53 ?_
    rw [nI_add]
    refine aw_v0 (a := 41) d_Planner_reach_54 k_Planner_172 ok_Heap_add rfl ⟨rfl, rfl⟩ cl_Heap o41 (c_add (op := fun _ => False) (ky := fun _ => 0) (sz := 0) o41 o42 o43 o44 hp0 hr7 (by omega) id) rfl rfl (Nat.le_of_ble_eq_true rfl) (fun r2 m2 h2 z => ?_)
    obtain ⟨rfl, em, gt2, gp2, rfl, hp2⟩ := z
    rw [em]
    show ab_W _ _ _ _ 57 _ [] _ _ _
    have pl := pl.hf 1 (upd gk (rk (N_t N)) (nI (0 + 1024 * ffo N (N_t N) b (N_n N)))) gt2 gp2
    have hp3 : HP (fun z => z = (rk (N_t N)) ∧ ¬ False) (kyf N b (fun _ => 0) (fun _ => [])) 1 (upd gk (rk (N_t N)) (nI (0 + 1024 * ffo N (N_t N) b (N_n N)))) gt2 gp2 := hp2.cong (fun z => ⟨fun y => ⟨y.elim False.elim id, id⟩, fun y => Or.inr y.1⟩) (fun z hz => by
      have hz : z = (rk (N_t N)) := hz.elim False.elim id
      refine ⟨?_, rfl⟩
      show 1024 * 0 + ([] : List Nat).length + 1024 * ffo N (xr z) b (N_n N) = _
      rw [hz, ud_s, xr_rk hT.1, List.length_nil])
    refine aw_gen (fun z => PL h z kn mi me b go 2147483647 gs gg (upd gr (rk (N_t N)) (nI (pk (N_t N)))) gf gb 1 (upd gk (rk (N_t N)) (nI (0 + 1024 * ffo N (N_t N) b (N_n N)))) gt2 gp2 gi gm) pl (fun hh pl => ?_)
    obtain ⟨o35, o36, o37, o38, o39, o40, o41, o42, o43, o44, o45, o46, ofr⟩ := id pl
    have nX : NX hh 2 N := hX.fr (fun k _ _ => ofr k (by omega))
    have n0 := nX.1
    refine aw_goto (tgt := 126) d_Planner_reach_57 (by decide) ?_
    refine aw_aload_n d_Planner_reach_126 rfl ?_
    refine aw_get (k := 8) d_Planner_reach_127 cl_Planner k_Planner_15 (by decide) o35 rfl ?_
    refine aw_iload d_Planner_reach_130 rfl ?_
    refine aw_iload d_Planner_reach_132 rfl ?_
    refine aw_iastoreN d_Planner_reach_134 o37 hr7 (by decide) ?_
    refine aw_gen (fun z => PL h z kn mi me b go 2147483647 gs (upd gg (rk (N_t N)) (nI 0)) (upd gr (rk (N_t N)) (nI (pk (N_t N)))) gf gb 1 (upd gk (rk (N_t N)) (nI (0 + 1024 * ffo N (N_t N) b (N_n N)))) gt2 gp2 gi gm) (pl.s37 _) (fun hh pl => ?_)
    obtain ⟨o35, o36, o37, o38, o39, o40, o41, o42, o43, o44, o45, o46, ofr⟩ := id pl
    have nX : NX hh 2 N := hX.fr (fun k _ _ => ofr k (by omega))
    have n0 := nX.1
    refine aw_aload_n d_Planner_reach_135 rfl ?_
    refine aw_get (k := 10) d_Planner_reach_136 cl_Planner k_Planner_21 (by decide) o35 rfl ?_
    refine aw_iload d_Planner_reach_139 rfl ?_
    refine aw_iload_n d_Planner_reach_141 rfl ?_
    refine aw_iastoreN d_Planner_reach_142 o39 hr7 (by decide) ?_
    refine aw_gen (fun z => PL h z kn mi me b go 2147483647 gs (upd gg (rk (N_t N)) (nI 0)) (upd gr (rk (N_t N)) (nI (pk (N_t N)))) (upd gf (rk (N_t N)) (-1)) gb 1 (upd gk (rk (N_t N)) (nI (0 + 1024 * ffo N (N_t N) b (N_n N)))) gt2 gp2 gi gm) (pl.s39 _) (fun hh pl => ?_)
    obtain ⟨o35, o36, o37, o38, o39, o40, o41, o42, o43, o44, o45, o46, ofr⟩ := id pl
    have nX : NX hh 2 N := hX.fr (fun k _ _ => ofr k (by omega))
    have n0 := nX.1
    refine aw_aload_n d_Planner_reach_143 rfl ?_
    refine aw_get (k := 11) d_Planner_reach_144 cl_Planner k_Planner_24 (by decide) o35 rfl ?_
    refine aw_iload d_Planner_reach_147 rfl ?_
    refine aw_iload_n d_Planner_reach_149 rfl ?_
    refine aw_iastoreN d_Planner_reach_150 o40 hr7 (by decide) ?_
    refine aw_gen (fun z => PL h z kn mi me b go 2147483647 gs (upd gg (rk (N_t N)) (nI 0)) (upd gr (rk (N_t N)) (nI (pk (N_t N)))) (upd gf (rk (N_t N)) (-1)) (upd gb (rk (N_t N)) (nI 0)) 1 (upd gk (rk (N_t N)) (nI (0 + 1024 * ffo N (N_t N) b (N_n N)))) gt2 gp2 gi gm) (pl.s40 _) (fun hh pl => ?_)
    obtain ⟨o35, o36, o37, o38, o39, o40, o41, o42, o43, o44, o45, o46, ofr⟩ := id pl
    have nX : NX hh 2 N := hX.fr (fun k _ _ => ofr k (by omega))
    have n0 := nX.1
    refine aw_iload d_Planner_reach_151 rfl ?_
    refine aw_aload_n d_Planner_reach_153 rfl ?_
    refine aw_get (k := 7) d_Planner_reach_154 cl_Planner k_Planner_57 (by decide) o35 rfl ?_
    refine aw_icmp_ge (tgt := 177) d_Planner_reach_157 (by decide) (fun c157 => ?_) (fun c157 => ?_)
    · first | exact absurd c157 (by decide) | exact absurd (by decide) c157
    · refine aw_iload_n d_Planner_reach_160 rfl ?_
      refine aw_aload_n d_Planner_reach_161 rfl ?_
      refine aw_get (k := 5) d_Planner_reach_162 cl_Planner k_Planner_50 (by decide) o35 rfl ?_
      refine aw_s0i d_Planner_reach_165 k_Planner_85 ok_Rows_areOwn rfl ⟨rfl, rfl⟩ (c_areOwn hT.1 (by omega)) rfl rfl (Nat.le_of_ble_eq_true rfl) ?_
      refine aw_if_eq (tgt := 177) d_Planner_reach_168 (by decide) (fun c168 => ?_) (fun c168 => ?_)
      · refine aw_return d_Planner_reach_177 rfl ?_
        have pa0 : PA (fun z => z = (rk (N_t N))) (fun _ => 0) (fun _ => []) (fun _ => 0) (fun _ => 0) (upd gg (rk (N_t N)) (nI 0)) (upd gr (rk (N_t N)) (nI (pk (N_t N)))) (upd gf (rk (N_t N)) (-1)) (upd gb (rk (N_t N)) (nI 0)) := fun z hz => by
          refine ⟨fun y => by rw [pk_un y]; exact hg z hz, fun y => ?_⟩
          have y : z = (rk (N_t N)) := y
          rw [y, pk_us, pk_us, xr_rk hT.1]
          exact ⟨rfl, rfl, fun q => absurd rfl q⟩
        first
          | exact ⟨rfl, rfl, 2147483647, kn, mi, me, gs, _, _, _, _, 1, _, gt2, gp2, pl, pa0, hp3, IV.zero ok eb (Or.inr ⟨ab_bl_0.mp c168, rfl⟩)⟩
          | exact ⟨rfl, rfl, 0, kn, mi, me, gs, _, _, _, _, 1, _, gt2, gp2, pl.o_ kn mi me go b 0, pa0, hp3, IV.zero ok eb (Or.inl ⟨ab_bl_1.mp c168, rfl⟩)⟩
      · refine aw_aload_n d_Planner_reach_171 rfl ?_
        refine aw_iload d_Planner_reach_172 rfl ?_
        refine aw_put (k := 7) (fs' := [.int (ab_bl kn), .int mi, .int me, .ref 36, .ref 2, .int (nI b), .int go, .int (nI 0), .ref 37, .ref 38, .ref 39, .ref 40, .ref 41, .ref 45, .ref 46]) d_Planner_reach_174 cl_Planner k_Planner_57 (by decide) rfl ⟨rfl, rfl⟩ o35 (Nat.le_of_ble_eq_true rfl) rfl ?_
        refine aw_return d_Planner_reach_177 rfl ?_
        have pa0 : PA (fun z => z = (rk (N_t N))) (fun _ => 0) (fun _ => []) (fun _ => 0) (fun _ => 0) (upd gg (rk (N_t N)) (nI 0)) (upd gr (rk (N_t N)) (nI (pk (N_t N)))) (upd gf (rk (N_t N)) (-1)) (upd gb (rk (N_t N)) (nI 0)) := fun z hz => by
          refine ⟨fun y => by rw [pk_un y]; exact hg z hz, fun y => ?_⟩
          have y : z = (rk (N_t N)) := y
          rw [y, pk_us, pk_us, xr_rk hT.1]
          exact ⟨rfl, rfl, fun q => absurd rfl q⟩
        first
          | exact ⟨rfl, rfl, 2147483647, kn, mi, me, gs, _, _, _, _, 1, _, gt2, gp2, pl, pa0, hp3, IV.zero ok eb (Or.inr ⟨ab_bl_0.mp c168, rfl⟩)⟩
          | exact ⟨rfl, rfl, 0, kn, mi, me, gs, _, _, _, _, 1, _, gt2, gp2, pl.o_ kn mi me go b 0, pa0, hp3, IV.zero ok eb (Or.inl ⟨ab_bl_1.mp c168, rfl⟩)⟩
