/-- where what is at a place goes by a slip, and where from it comes -/
def tg (a u v k : Nat) : Nat := if a = 0 then (if k = u then v else if k = v then u else k) else if u ≤ k ∧ k ≤ v then (if a = 1 then (if k < v then k + 1 else u) else u + v - k) else k
def tv (a u v k : Nat) : Nat := if a = 0 then (if k = u then v else if k = v then u else k) else if u ≤ k ∧ k ≤ v then (if a = 2 then u + v - k else if k = u then v else k - 1) else k
theorem tg_all : (List.range 3).all (fun a => (List.range 6).all (fun v => (List.range v).all (fun u => (List.range 6).all (fun k => decide (tg a u v k < 6) && decide (tv a u v k < 6) && decide (tv a u v (tg a u v k) = k) && decide (tg a u v (tv a u v k) = k))))) = true := by decide +kernel
theorem tg_t {a u v k : Nat} (ha : a < 3) (hu : u < v) (hv : v < 6) (hk : k < 6) : tg a u v k < 6 ∧ tv a u v k < 6 ∧ tv a u v (tg a u v k) = k ∧ tg a u v (tv a u v k) = k := by
  have h := List.all_eq_true.mp (List.all_eq_true.mp (List.all_eq_true.mp (List.all_eq_true.mp tg_all a (List.mem_range.mpr ha)) v (List.mem_range.mpr hv)) u (List.mem_range.mpr hu)) k (List.mem_range.mpr hk)
  simp only [Bool.and_eq_true, decide_eq_true_eq] at h
  exact ⟨h.1.1.1, h.1.1.2, h.1.2, h.2⟩
theorem tg_out (a : Nat) {u v k : Nat} (hu : u < v) (hk : v < k) : tg a u v k = k ∧ tv a u v k = k := by
  unfold tg tv
  rw [if_neg (show ¬ k = u by omega), if_neg (show ¬ k = v by omega), if_neg (show ¬ (u ≤ k ∧ k ≤ v) by omega), if_neg (show ¬ (u ≤ k ∧ k ≤ v) by omega)]
  simp
theorem tg_low (a : Nat) {u v k : Nat} (hu : u < v) (hk : k < u) : tg a u v k = k ∧ tv a u v k = k := by
  unfold tg tv
  rw [if_neg (show ¬ k = u by omega), if_neg (show ¬ k = v by omega), if_neg (show ¬ (u ≤ k ∧ k ≤ v) by omega), if_neg (show ¬ (u ≤ k ∧ k ≤ v) by omega)]
  simp
theorem tg_pm {a u v : Nat} (ha : a < 3) (hu : u < v) (hv : v < 6) : Pm (tg a u v) := by
  refine ⟨fun k hk => (tg_t ha hu hv hk).1, fun i j hi hj e => ?_, fun k hk => (tg_out a hu (by omega)).1⟩
  have h1 := (tg_t ha hu hv hi).2.2.1
  rw [e, (tg_t ha hu hv hj).2.2.1] at h1
  exact h1.symm
theorem tv_pm {a u v : Nat} (ha : a < 3) (hu : u < v) (hv : v < 6) : Pm (tv a u v) := by
  refine ⟨fun k hk => (tg_t ha hu hv hk).2.1, fun i j hi hj e => ?_, fun k hk => (tg_out a hu (by omega)).2⟩
  have h1 := (tg_t ha hu hv hi).2.2.2
  rw [e, (tg_t ha hu hv hj).2.2.2] at h1
  exact h1.symm
theorem tg_n {a u v n : Nat} (hu : u < v) (hv : v < n) : ∀ k, n ≤ k → tg a u v k = k := fun k hk => (tg_out a hu (by omega)).1
theorem tv_n {a u v n : Nat} (hu : u < v) (hv : v < n) : ∀ k, n ≤ k → tv a u v k = k := fun k hk => (tg_out a hu (by omega)).2
theorem pxx_u {a u v : Nat} (hu : u < v) : pxx (tg a u v) u = fun k => k := by
  funext k
  unfold pxx
  split
  · exact (tg_low a hu (by assumption)).1
  · rfl
/-- a slip's number -/
def sk3 (s : Nat) : Nat × Nat × Nat := (s / 36, s / 6 % 6, s % 6)
def tgs (s : Nat) : Nat → Nat := tg (s / 36) (s / 6 % 6) (s % 6)
def tvs (s : Nat) : Nat → Nat := tv (s / 36) (s / 6 % 6) (s % 6)
theorem tgs_e {a u v : Nat} (hu : u < v) (hv : v < 6) : tgs (36 * a + 6 * u + v) = tg a u v ∧ tvs (36 * a + 6 * u + v) = tv a u v := by
  have e1 : (36 * a + 6 * u + v) / 36 = a := by omega
  have e2 : (36 * a + 6 * u + v) / 6 % 6 = u := by omega
  have e3 : (36 * a + 6 * u + v) % 6 = v := by omega
  unfold tgs tvs
  rw [e1, e2, e3]
  exact ⟨rfl, rfl⟩
/-- a slip's harm in an order -/
def hrm (N : NS) (s : Nat) (x : Nat → Nat) (n : Nat) : Nat := fb_sm (fun k => fr N (x (tgs s k)) (x k)) n
theorem hrm_le {N : NS} (ok : N_ok N) {s : Nat} (hs : ∃ a u v, s = 36 * a + 6 * u + v ∧ a < 3 ∧ u < v ∧ v < N_n N) {x : Nat → Nat} (hx : Pm x) {n : Nat} (hn : n ≤ 6) : hrm N s x n ≤ n * 40 := by
  obtain ⟨a, u, v, rfl, ha, hu, hv⟩ := hs
  have h6 := ok.1
  rw [← fb_sm_const 40 n]
  refine fb_sm_le (fun k hk => ?_)
  rw [(tgs_e hu (by omega)).1]
  exact Nat.le_of_lt (fr_lt ok (hx.1 _ (tg_t ha hu (by omega) (by omega)).1) (hx.1 _ (by omega)))
theorem sm_z {f : Nat → Nat} : ∀ {k n : Nat}, (∀ j, n ≤ j → f j = 0) → fb_sm f (n + k) = fb_sm f n
  | 0, n, _ => rfl
  | k + 1, n, h => by rw [Nat.add_succ, fb_sm_succ, sm_z h, h _ (by omega)]; rfl
theorem hrm_t {N : NS} (ok : N_ok N) {s : Nat} (hs : ∃ a u v, s = 36 * a + 6 * u + v ∧ a < 3 ∧ u < v ∧ v < N_n N) {x : Nat → Nat} (hx : Pm x) (hf : ∀ k, N_n N ≤ k → x k = k) : fb_sm (fun k => fr N (x k) (x (tvs s k))) (N_n N) = hrm N s x (N_n N) := by
  obtain ⟨a, u, v, rfl, ha, hu, hv⟩ := hs
  have h6 := ok.1
  have e := tgs_e (a := a) hu (show v < 6 by omega)
  have t1 := tg_n (a := a) hu hv
  have t2 := tv_n (a := a) hu hv
  have e6 : N_n N + (6 - N_n N) = 6 := by omega
  have z1 : fb_sm (fun k => fr N (x k) (x (tvs (36 * a + 6 * u + v) k))) (N_n N) = fb_sm (fun k => fr N (x k) (x (tvs (36 * a + 6 * u + v) k))) 6 := by
    have z := sm_z (f := fun k => fr N (x k) (x (tvs (36 * a + 6 * u + v) k))) (k := 6 - N_n N) (n := N_n N) (fun j hj => by
      show fr N (x j) (x (tvs _ j)) = 0
      rw [e.2, t2 j hj, fr_self])
    rw [e6] at z
    exact z.symm
  have z2 : hrm N (36 * a + 6 * u + v) x (N_n N) = hrm N (36 * a + 6 * u + v) x 6 := by
    have z := sm_z (f := fun k => fr N (x (tgs (36 * a + 6 * u + v) k)) (x k)) (k := 6 - N_n N) (n := N_n N) (fun j hj => by
      show fr N (x (tgs _ j)) (x j) = 0
      rw [e.1, t1 j hj, fr_self])
    rw [e6] at z
    exact z.symm
  rw [z1, z2, ← Pm.sum (tg_pm ha hu (show v < 6 by omega))]
  refine fb_sm_cong (fun k hk => ?_)
  show fr N (x (tg a u v k)) (x (tvs _ (tg a u v k))) = fr N (x (tgs _ k)) (x k)
  rw [e.1, e.2, (tg_t ha hu (show v < 6 by omega) hk).2.2.1]
theorem N_ok.fe {N : NS} (ok : N_ok N) : ∀ k, k < N_fe N → ∃ a i j, N_ff N k = 36 * a + 6 * i + j ∧ a < 3 ∧ i < j ∧ j < N_n N := ok.2.2.2.2.2.2.2.2.2.2.2.2.2.2.2
theorem N_ok.fe6 {N : NS} (ok : N_ok N) : N_fe N ≤ 6 := ok.2.2.2.2.2.2.2.2.2.2.2.2.2.2.1
def sp_harm (S : SS) (sl sh lane i : Int32) : Int32 × SS := if ir sl 0 (N_fe (S_N S) - 1 : Int) then (if sp_take S sh lane i < 0 then (sp_take S sh lane i, S) else (nI (hrm (S_N S) (N_ff (S_N S) (cl sl)) (tkf S sh i) (N_n (S_N S))), S)) else (-1, S)
theorem c_targetsOf0 {m : Nat} {h : ab_H} {a u v : Nat} (ha : a < 3) (hu : u < v) (hv : v < 6) : ab_D Y_Slips_targetsOf [.int (nI (36 * a + 6 * u + v))] m h (some (.int (nI (pk (tg a u v))))) m (h) := by
  refine ab_C.of (L := [some (.int (nI (36 * a + 6 * u + v))), none, none, none, none, none, none]) rfl rfl (Nat.le_of_ble_eq_true rfl) (fun l => ?_)
  have loop : ∀ k q, q + k = (v + 1) → u ≤ q → ¬ a = 0 → ab_W Y_Slips_targetsOf none l (fun r m2 h2 => r = some (.int (nI (pk (tg a u v)))) ∧ m2 = m ∧ h2 = h) 37 [some (.int (nI (36 * a + 6 * u + v))), some (.int (nI a)), some (.int (nI u)), some (.int (nI v)), some (.int (nI (pk (pxx (tg a u v) q)))), some (.int (nI q)), none] [] m (h) (0, 0) := by
    intro k
    induction k with
    | zero =>
      intro q hq hq2 a0
      have hqn : (v + 1) = q := by omega
      subst hqn
      refine aw_iload d_Slips_targetsOf_37 rfl ?_
      refine aw_iload_n d_Slips_targetsOf_39 rfl ?_
      refine aw_icmp_gt (tgt := 90) d_Slips_targetsOf_40 (by decide) (fun c40 => ?_) (fun c40 => ?_)
      · refine aw_iload d_Slips_targetsOf_90 rfl ?_
        refine aw_ireturn d_Slips_targetsOf_92 rfl rfl ?_
        exact ⟨by rw [pxx_n (n := v + 1) (fun k hk => (tg_out a hu (by omega)).1)], rfl, rfl⟩
      · exact absurd (nI_lt (by omega) (by omega)) c40
    | succ k ih =>
      intro q hq hq2 a0
      refine aw_iload d_Slips_targetsOf_37 rfl ?_
      refine aw_iload_n d_Slips_targetsOf_39 rfl ?_
      refine aw_icmp_gt (tgt := 90) d_Slips_targetsOf_40 (by decide) (fun c40 => ?_) (fun c40 => ?_)
      · exact absurd c40 (nI_nlt (by omega) (by omega))
      · refine aw_iload d_Slips_targetsOf_43 rfl ?_
        refine aw_iload_n d_Slips_targetsOf_45 rfl ?_
        refine aw_icmp_ge (tgt := 56) d_Slips_targetsOf_46 (by decide) (fun c46 => ?_) (fun c46 => ?_)
        · refine aw_iload_n d_Slips_targetsOf_56 rfl ?_
          refine aw_istore (L' := [some (.int (nI (36 * a + 6 * u + v))), some (.int (nI a)), some (.int (nI u)), some (.int (nI v)), some (.int (nI (pk (pxx (tg a u v) q)))), some (.int (nI q)), some (.int (nI u))]) d_Slips_targetsOf_57 ⟨by decide, rfl⟩ rfl ?_
          refine aw_iload d_Slips_targetsOf_59 rfl ?_
          refine aw_iload d_Slips_targetsOf_61 rfl ?_
          refine aw_iload_n d_Slips_targetsOf_63 rfl ?_
          refine aw_iconst (v := nI 1) d_Slips_targetsOf_64 (by decide) ?_
          refine aw_icmp_ne (tgt := 73) d_Slips_targetsOf_65 (by decide) (fun c65 => ?_) (fun c65 => ?_)
          · refine aw_iload_n d_Slips_targetsOf_73 rfl ?_
            refine aw_iload_n d_Slips_targetsOf_74 rfl ?_
            refine aw_iadd d_Slips_targetsOf_75 ?_
            refine aw_iload d_Slips_targetsOf_76 rfl ?_
            refine aw_isub d_Slips_targetsOf_78 ?_
            refine aw_is (y := nI (tg a u v q)) ?_ ?_
            · unfold tg
              rw [if_neg a0, if_pos (show u ≤ q ∧ q ≤ v by omega)]
              first
                | (rw [if_neg (fun z => c65 (by rw [z])), nI_add, pk_sub (by omega)]; done)
                | (have c65 := (nI_eq (b := 1) (by omega) (by decide)).mp c65
                   rw [if_pos c65]
                   first
                     | (have c46 := (nI_leI (by omega) (by omega)).mp c46
                        rw [if_neg (by omega)]; done)
                     | (rw [if_pos (Nat.not_le.mp (fun z => c46 (nI_le z (by omega)))), ev57, nI_add]; done))
            refine aw_s0i d_Slips_targetsOf_79 k_Slips_35 ok_Rows_with rfl ⟨rfl, rfl⟩ (c_with (pxx_8 (tg_pm ha hu hv) q) (show q < 6 by omega) ((tg_pm ha hu hv).lt8 q (by omega))) rfl rfl (Nat.le_of_ble_eq_true rfl) ?_
            refine aw_istore (L' := [some (.int (nI (36 * a + 6 * u + v))), some (.int (nI a)), some (.int (nI u)), some (.int (nI v)), some (.int (nI (pk (ud (pxx (tg a u v) q) q (tg a u v q))))), some (.int (nI q)), some (.int (nI u))]) d_Slips_targetsOf_82 ⟨by decide, rfl⟩ rfl ?_
            refine aw_iinc (v := nI (q + 1)) (L' := [some (.int (nI (36 * a + 6 * u + v))), some (.int (nI a)), some (.int (nI u)), some (.int (nI v)), some (.int (nI (pk (ud (pxx (tg a u v) q) q (tg a u v q))))), some (.int (nI (q + 1))), some (.int (nI u))]) d_Slips_targetsOf_84 rfl (nI_1 _) ⟨by decide, rfl⟩ rfl ?_
            refine aw_goto (tgt := 37) d_Slips_targetsOf_87 (by decide) ?_
            rw [pxx_s]
            exact aw_drop 6 (ih (q + 1) (by omega) (by omega) a0)
          · refine aw_iload d_Slips_targetsOf_68 rfl ?_
            refine aw_goto (tgt := 79) d_Slips_targetsOf_70 (by decide) ?_
            refine aw_is (y := nI (tg a u v q)) ?_ ?_
            · unfold tg
              rw [if_neg a0, if_pos (show u ≤ q ∧ q ≤ v by omega)]
              first
                | (rw [if_neg (fun z => c65 (by rw [z])), nI_add, pk_sub (by omega)]; done)
                | (have c65 := (nI_eq (b := 1) (by omega) (by decide)).mp c65
                   rw [if_pos c65]
                   first
                     | (have c46 := (nI_leI (by omega) (by omega)).mp c46
                        rw [if_neg (by omega)]; done)
                     | (rw [if_pos (Nat.not_le.mp (fun z => c46 (nI_le z (by omega)))), ev57, nI_add]; done))
            refine aw_s0i d_Slips_targetsOf_79 k_Slips_35 ok_Rows_with rfl ⟨rfl, rfl⟩ (c_with (pxx_8 (tg_pm ha hu hv) q) (show q < 6 by omega) ((tg_pm ha hu hv).lt8 q (by omega))) rfl rfl (Nat.le_of_ble_eq_true rfl) ?_
            refine aw_istore (L' := [some (.int (nI (36 * a + 6 * u + v))), some (.int (nI a)), some (.int (nI u)), some (.int (nI v)), some (.int (nI (pk (ud (pxx (tg a u v) q) q (tg a u v q))))), some (.int (nI q)), some (.int (nI u))]) d_Slips_targetsOf_82 ⟨by decide, rfl⟩ rfl ?_
            refine aw_iinc (v := nI (q + 1)) (L' := [some (.int (nI (36 * a + 6 * u + v))), some (.int (nI a)), some (.int (nI u)), some (.int (nI v)), some (.int (nI (pk (ud (pxx (tg a u v) q) q (tg a u v q))))), some (.int (nI (q + 1))), some (.int (nI u))]) d_Slips_targetsOf_84 rfl (nI_1 _) ⟨by decide, rfl⟩ rfl ?_
            refine aw_goto (tgt := 37) d_Slips_targetsOf_87 (by decide) ?_
            rw [pxx_s]
            exact aw_drop 6 (ih (q + 1) (by omega) (by omega) a0)
        · refine aw_iload d_Slips_targetsOf_49 rfl ?_
          refine aw_iconst (v := nI 1) d_Slips_targetsOf_51 (by decide) ?_
          refine aw_iadd d_Slips_targetsOf_52 ?_
          refine aw_goto (tgt := 57) d_Slips_targetsOf_53 (by decide) ?_
          refine aw_topi (fun v57 ev57 => ?_)
          refine aw_istore (L' := [some (.int (nI (36 * a + 6 * u + v))), some (.int (nI a)), some (.int (nI u)), some (.int (nI v)), some (.int (nI (pk (pxx (tg a u v) q)))), some (.int (nI q)), some (.int v57)]) d_Slips_targetsOf_57 ⟨by decide, rfl⟩ rfl ?_
          refine aw_iload d_Slips_targetsOf_59 rfl ?_
          refine aw_iload d_Slips_targetsOf_61 rfl ?_
          refine aw_iload_n d_Slips_targetsOf_63 rfl ?_
          refine aw_iconst (v := nI 1) d_Slips_targetsOf_64 (by decide) ?_
          refine aw_icmp_ne (tgt := 73) d_Slips_targetsOf_65 (by decide) (fun c65 => ?_) (fun c65 => ?_)
          · refine aw_iload_n d_Slips_targetsOf_73 rfl ?_
            refine aw_iload_n d_Slips_targetsOf_74 rfl ?_
            refine aw_iadd d_Slips_targetsOf_75 ?_
            refine aw_iload d_Slips_targetsOf_76 rfl ?_
            refine aw_isub d_Slips_targetsOf_78 ?_
            refine aw_is (y := nI (tg a u v q)) ?_ ?_
            · unfold tg
              rw [if_neg a0, if_pos (show u ≤ q ∧ q ≤ v by omega)]
              first
                | (rw [if_neg (fun z => c65 (by rw [z])), nI_add, pk_sub (by omega)]; done)
                | (have c65 := (nI_eq (b := 1) (by omega) (by decide)).mp c65
                   rw [if_pos c65]
                   first
                     | (have c46 := (nI_leI (by omega) (by omega)).mp c46
                        rw [if_neg (by omega)]; done)
                     | (rw [if_pos (Nat.not_le.mp (fun z => c46 (nI_le z (by omega)))), ev57, nI_add]; done))
            refine aw_s0i d_Slips_targetsOf_79 k_Slips_35 ok_Rows_with rfl ⟨rfl, rfl⟩ (c_with (pxx_8 (tg_pm ha hu hv) q) (show q < 6 by omega) ((tg_pm ha hu hv).lt8 q (by omega))) rfl rfl (Nat.le_of_ble_eq_true rfl) ?_
            refine aw_istore (L' := [some (.int (nI (36 * a + 6 * u + v))), some (.int (nI a)), some (.int (nI u)), some (.int (nI v)), some (.int (nI (pk (ud (pxx (tg a u v) q) q (tg a u v q))))), some (.int (nI q)), some (.int v57)]) d_Slips_targetsOf_82 ⟨by decide, rfl⟩ rfl ?_
            refine aw_iinc (v := nI (q + 1)) (L' := [some (.int (nI (36 * a + 6 * u + v))), some (.int (nI a)), some (.int (nI u)), some (.int (nI v)), some (.int (nI (pk (ud (pxx (tg a u v) q) q (tg a u v q))))), some (.int (nI (q + 1))), some (.int v57)]) d_Slips_targetsOf_84 rfl (nI_1 _) ⟨by decide, rfl⟩ rfl ?_
            refine aw_goto (tgt := 37) d_Slips_targetsOf_87 (by decide) ?_
            rw [pxx_s]
            exact aw_drop 6 (ih (q + 1) (by omega) (by omega) a0)
          · refine aw_iload d_Slips_targetsOf_68 rfl ?_
            refine aw_goto (tgt := 79) d_Slips_targetsOf_70 (by decide) ?_
            refine aw_is (y := nI (tg a u v q)) ?_ ?_
            · unfold tg
              rw [if_neg a0, if_pos (show u ≤ q ∧ q ≤ v by omega)]
              first
                | (rw [if_neg (fun z => c65 (by rw [z])), nI_add, pk_sub (by omega)]; done)
                | (have c65 := (nI_eq (b := 1) (by omega) (by decide)).mp c65
                   rw [if_pos c65]
                   first
                     | (have c46 := (nI_leI (by omega) (by omega)).mp c46
                        rw [if_neg (by omega)]; done)
                     | (rw [if_pos (Nat.not_le.mp (fun z => c46 (nI_le z (by omega)))), ev57, nI_add]; done))
            refine aw_s0i d_Slips_targetsOf_79 k_Slips_35 ok_Rows_with rfl ⟨rfl, rfl⟩ (c_with (pxx_8 (tg_pm ha hu hv) q) (show q < 6 by omega) ((tg_pm ha hu hv).lt8 q (by omega))) rfl rfl (Nat.le_of_ble_eq_true rfl) ?_
            refine aw_istore (L' := [some (.int (nI (36 * a + 6 * u + v))), some (.int (nI a)), some (.int (nI u)), some (.int (nI v)), some (.int (nI (pk (ud (pxx (tg a u v) q) q (tg a u v q))))), some (.int (nI q)), some (.int v57)]) d_Slips_targetsOf_82 ⟨by decide, rfl⟩ rfl ?_
            refine aw_iinc (v := nI (q + 1)) (L' := [some (.int (nI (36 * a + 6 * u + v))), some (.int (nI a)), some (.int (nI u)), some (.int (nI v)), some (.int (nI (pk (ud (pxx (tg a u v) q) q (tg a u v q))))), some (.int (nI (q + 1))), some (.int v57)]) d_Slips_targetsOf_84 rfl (nI_1 _) ⟨by decide, rfl⟩ rfl ?_
            refine aw_goto (tgt := 37) d_Slips_targetsOf_87 (by decide) ?_
            rw [pxx_s]
            exact aw_drop 6 (ih (q + 1) (by omega) (by omega) a0)
  refine aw_iload_n d_Slips_targetsOf_0 rfl ?_
  refine aw_bipush (v := nI 36) d_Slips_targetsOf_1 (by decide) ?_
  refine aw_idiv d_Slips_targetsOf_3 (by decide) ?_
  rw [dv (by omega) (by decide) (by decide), show (36 * a + 6 * u + v) / 36 = a by omega]
  refine aw_istore_n (L' := [some (.int (nI (36 * a + 6 * u + v))), some (.int (nI a)), none, none, none, none, none]) d_Slips_targetsOf_4 ⟨by decide, rfl⟩ rfl ?_
  refine aw_iload_n d_Slips_targetsOf_5 rfl ?_
  refine aw_bipush (v := nI 36) d_Slips_targetsOf_6 (by decide) ?_
  refine aw_irem d_Slips_targetsOf_8 (by decide) ?_
  rw [rm (by omega) (by decide) (by decide), show (36 * a + 6 * u + v) % 36 = 6 * u + v by omega]
  refine aw_bipush (v := nI 6) d_Slips_targetsOf_9 (by decide) ?_
  refine aw_idiv d_Slips_targetsOf_11 (by decide) ?_
  rw [dv (by omega) (by decide) (by decide), show (6 * u + v) / 6 = u by omega]
  refine aw_istore_n (L' := [some (.int (nI (36 * a + 6 * u + v))), some (.int (nI a)), some (.int (nI u)), none, none, none, none]) d_Slips_targetsOf_12 ⟨by decide, rfl⟩ rfl ?_
  refine aw_iload_n d_Slips_targetsOf_13 rfl ?_
  refine aw_bipush (v := nI 6) d_Slips_targetsOf_14 (by decide) ?_
  refine aw_irem d_Slips_targetsOf_16 (by decide) ?_
  rw [rm (by omega) (by decide) (by decide), show (36 * a + 6 * u + v) % 6 = v by omega]
  refine aw_istore_n (L' := [some (.int (nI (36 * a + 6 * u + v))), some (.int (nI a)), some (.int (nI u)), some (.int (nI v)), none, none, none]) d_Slips_targetsOf_17 ⟨by decide, rfl⟩ rfl ?_
  refine aw_iload_n d_Slips_targetsOf_18 rfl ?_
  refine aw_if_ne (tgt := 30) d_Slips_targetsOf_19 (by decide) (fun c19 => ?_) (fun c19 => ?_)
  · refine aw_ldc (v := nI 181896) d_Slips_targetsOf_30 k_Slips_30 ?_
    refine aw_istore (L' := [some (.int (nI (36 * a + 6 * u + v))), some (.int (nI a)), some (.int (nI u)), some (.int (nI v)), some (.int (nI 181896)), none, none]) d_Slips_targetsOf_32 ⟨by decide, rfl⟩ rfl ?_
    refine aw_iload_n d_Slips_targetsOf_34 rfl ?_
    refine aw_istore (L' := [some (.int (nI (36 * a + 6 * u + v))), some (.int (nI a)), some (.int (nI u)), some (.int (nI v)), some (.int (nI 181896)), some (.int (nI u)), none]) d_Slips_targetsOf_35 ⟨by decide, rfl⟩ rfl ?_
    have a0 : ¬ a = 0 := fun z => c19 (by rw [z]; rfl)
    rw [show nI 181896 = nI (pk (pxx (tg a u v) u)) by rw [pxx_u hu, pk_own]]
    exact loop (v + 1 - u) u (by omega) (Nat.le_refl _) a0
  · refine aw_ldc (v := nI 181896) d_Slips_targetsOf_22 k_Slips_30 ?_
    refine aw_iload_n d_Slips_targetsOf_24 rfl ?_
    refine aw_iload_n d_Slips_targetsOf_25 rfl ?_
    rw [show nI 181896 = nI (pk (fun k => k)) by rw [pk_own]]
    refine aw_s0i d_Slips_targetsOf_26 k_Slips_31 ok_Rows_swapped rfl ⟨rfl, rfl⟩ (c_swapped (t := fun k => k) (fun k hk => by omega) (show u < 6 by omega) hv) rfl rfl (Nat.le_of_ble_eq_true rfl) ?_
    refine aw_ireturn d_Slips_targetsOf_29 rfl rfl ?_
    have a0 : a = 0 := (nI_eq (b := 0) (by omega) (by decide)).mp c19
    refine ⟨?_, rfl, rfl⟩
    rw [show sw (fun k => k) u v = tg a u v from ?_]
    rw [sw_eq]
    funext k
    unfold tg
    rw [if_pos a0]
theorem c_targetsOf {m : Nat} {h : ab_H} {n s : Nat} (hn : n ≤ 6) (hs : ∃ a u v, s = 36 * a + 6 * u + v ∧ a < 3 ∧ u < v ∧ v < n) : ab_D Y_Slips_targetsOf [.int (nI s)] m h (some (.int (nI (pk (tgs s))))) m h := by
  obtain ⟨a, u, v, rfl, ha, hu, hv⟩ := hs
  rw [(tgs_e hu (by omega)).1]
  exact c_targetsOf0 ha hu (by omega)
theorem c_harmOf {m : Nat} {h : ab_H} {N : NS} (hX : NX h 2 N) (ok : N_ok N) {s : Nat} (hs : ∃ a u v, s = 36 * a + 6 * u + v ∧ a < 3 ∧ u < v ∧ v < N_n N) {A : Nat} {g : Nat → Int32} (hA : h A = .inl (6, g)) {x : Nat → Nat} (tp : Pm x) (hg : ∀ k, k < N_n N → g k = nI (x k)) : ab_D Y_Slips_harmOf [.ref 2, .int (nI (pk (tgs s))), .ref A] m h (some (.int (nI (hrm N s x (N_n N))))) m (h) := by
  refine ab_C.of (L := [some (.ref 2), some (.int (nI (pk (tgs s)))), some (.ref A), none, none, none]) rfl rfl (Nat.le_of_ble_eq_true rfl) (fun l => ?_)
  obtain ⟨n0, ⟨gx, hx, ax⟩, ⟨gy, hy, ay⟩, ⟨gm, hm, am⟩, ⟨gl, hl, al⟩, ⟨ga, ha, aa⟩, ⟨gi, hi, ai⟩, ⟨gj, hj0, aj⟩, ⟨gf, hf0, af⟩⟩ := id hX
  have hn6 : N_n N ≤ 6 := ok.1
  have hns : N_ns N ≤ 4 := ok.2.2.2.2.2.2.2.2.1
  have hpm := ok.pm
  have hw6 := ok.w6
  have hfx := ok.2.2.1
  have bx := ok.2.2.2.2.2.1
  have bi := ok.2.2.2.2.2.2.2.2.2.1
  have tgp : Pm (tgs s) ∧ ∀ k, N_n N ≤ k → tgs s k = k := by
    obtain ⟨a, u, v, rfl, ha, hu, hv⟩ := hs
    rw [(tgs_e hu (by omega)).1]
    exact ⟨tg_pm ha hu (by omega), tg_n hu hv⟩
  obtain ⟨tgp, tgx⟩ := tgp
  have loop : ∀ k q, q + k = N_n N → ab_W Y_Slips_harmOf none l (fun r m2 h2 => r = some (.int (nI (hrm N s x (N_n N)))) ∧ m2 = m ∧ h2 = h) 5 [some (.ref 2), some (.int (nI (pk (tgs s)))), some (.ref A), some (.int (nI (hrm N s x q))), some (.int (nI q)), none] [] m (h) (0, 0) := by
    intro k
    induction k with
    | zero =>
      intro q hq 
      have hqn : N_n N = q := by omega
      subst hqn
      refine aw_iload d_Slips_harmOf_5 rfl ?_
      refine aw_aload_n d_Slips_harmOf_7 rfl ?_
      refine aw_get (k := 0) d_Slips_harmOf_8 cl_Night k_Slips_38 (by decide) n0 rfl ?_
      refine aw_icmp_ge (tgt := 59) d_Slips_harmOf_11 (by decide) (fun c11 => ?_) (fun c11 => ?_)
      · refine aw_iload_n d_Slips_harmOf_59 rfl ?_
        refine aw_ireturn d_Slips_harmOf_60 rfl rfl ?_
        exact ⟨rfl, rfl, rfl⟩
      · exact absurd (Int32.le_refl _) c11
    | succ k ih =>
      intro q hq 
      refine aw_iload d_Slips_harmOf_5 rfl ?_
      refine aw_aload_n d_Slips_harmOf_7 rfl ?_
      refine aw_get (k := 0) d_Slips_harmOf_8 cl_Night k_Slips_38 (by decide) n0 rfl ?_
      refine aw_icmp_ge (tgt := 59) d_Slips_harmOf_11 (by decide) (fun c11 => ?_) (fun c11 => ?_)
      · exact absurd c11 (nI_ge (by omega) (by omega))
      · refine aw_iload_n d_Slips_harmOf_14 rfl ?_
        refine aw_iload d_Slips_harmOf_15 rfl ?_
        refine aw_s0i d_Slips_harmOf_17 k_Slips_43 ok_Rows_at rfl ⟨rfl, rfl⟩ (c_at tgp.lt8 (show q < 6 by omega)) rfl rfl (Nat.le_of_ble_eq_true rfl) ?_
        refine aw_istore (L' := [some (.ref 2), some (.int (nI (pk (tgs s)))), some (.ref A), some (.int (nI (hrm N s x q))), some (.int (nI q)), some (.int (nI (tgs s q)))]) d_Slips_harmOf_20 ⟨by decide, rfl⟩ rfl ?_
        refine aw_iload d_Slips_harmOf_22 rfl ?_
        refine aw_iload d_Slips_harmOf_24 rfl ?_
        refine aw_icmp_eq (tgt := 53) d_Slips_harmOf_26 (by decide) (fun c26 => ?_) (fun c26 => ?_)
        · refine aw_iinc (v := nI (q + 1)) (L' := [some (.ref 2), some (.int (nI (pk (tgs s)))), some (.ref A), some (.int (nI (hrm N s x q))), some (.int (nI (q + 1))), some (.int (nI (tgs s q)))]) d_Slips_harmOf_53 rfl (nI_1 _) ⟨by decide, rfl⟩ rfl ?_
          refine aw_goto (tgt := 5) d_Slips_harmOf_56 (by decide) ?_
          have hin := tgp.in hn6 tgx (show q < N_n N by omega)
          have e : hrm N s x (q + 1) = hrm N s x q + fr N (x (tgs s q)) (x q) := rfl
          first
            | (have c26 := (nI_eq (by have := tgp.1 q (by omega); omega) (by omega)).mp c26
               rw [c26, fr_self] at e
               rw [show hrm N s x q = hrm N s x (q + 1) from e.symm]
               exact aw_drop 5 (ih (q + 1) (by omega)))
            | (exact absurd c35 (nI_ge hin (by omega)))
            | (rw [show v52 = nI (hrm N s x (q + 1)) by rw [ev52, nI_add, e]]
               exact aw_drop 5 (ih (q + 1) (by omega)))
        · refine aw_iload d_Slips_harmOf_29 rfl ?_
          refine aw_aload_n d_Slips_harmOf_31 rfl ?_
          refine aw_get (k := 0) d_Slips_harmOf_32 cl_Night k_Slips_38 (by decide) n0 rfl ?_
          refine aw_icmp_ge (tgt := 53) d_Slips_harmOf_35 (by decide) (fun c35 => ?_) (fun c35 => ?_)
          · refine aw_iinc (v := nI (q + 1)) (L' := [some (.ref 2), some (.int (nI (pk (tgs s)))), some (.ref A), some (.int (nI (hrm N s x q))), some (.int (nI (q + 1))), some (.int (nI (tgs s q)))]) d_Slips_harmOf_53 rfl (nI_1 _) ⟨by decide, rfl⟩ rfl ?_
            refine aw_goto (tgt := 5) d_Slips_harmOf_56 (by decide) ?_
            have hin := tgp.in hn6 tgx (show q < N_n N by omega)
            have e : hrm N s x (q + 1) = hrm N s x q + fr N (x (tgs s q)) (x q) := rfl
            first
              | (have c26 := (nI_eq (by have := tgp.1 q (by omega); omega) (by omega)).mp c26
                 rw [c26, fr_self] at e
                 rw [show hrm N s x q = hrm N s x (q + 1) from e.symm]
                 exact aw_drop 5 (ih (q + 1) (by omega)))
              | (exact absurd c35 (nI_ge hin (by omega)))
              | (rw [show v52 = nI (hrm N s x (q + 1)) by rw [ev52, nI_add, e]]
                 exact aw_drop 5 (ih (q + 1) (by omega)))
          · refine aw_iload_n d_Slips_harmOf_38 rfl ?_
            refine aw_aload_n d_Slips_harmOf_39 rfl ?_
            refine aw_aload_n d_Slips_harmOf_40 rfl ?_
            refine aw_iload d_Slips_harmOf_41 rfl ?_
            refine aw_ialoadN d_Slips_harmOf_43 hA (tgp.1 q (by omega)) (by decide) ?_
            rw [hg _ (tgp.in hn6 tgx (show q < N_n N by omega))]
            refine aw_aload_n d_Slips_harmOf_44 rfl ?_
            refine aw_iload d_Slips_harmOf_45 rfl ?_
            refine aw_ialoadN d_Slips_harmOf_47 hA (by omega) (by decide) ?_
            rw [hg q (by omega)]
            refine aw_v0i (a := 2) d_Slips_harmOf_48 k_Slips_47 ok_Night_far rfl ⟨rfl, rfl⟩ cl_Night n0 (c_far hX ok (tp.1 _ (tgp.1 q (by omega))) (tp.1 q (by omega))) rfl rfl (Nat.le_of_ble_eq_true rfl) ?_
            refine aw_iadd d_Slips_harmOf_51 ?_
            refine aw_topi (fun v52 ev52 => ?_)
            refine aw_istore_n (L' := [some (.ref 2), some (.int (nI (pk (tgs s)))), some (.ref A), some (.int v52), some (.int (nI q)), some (.int (nI (tgs s q)))]) d_Slips_harmOf_52 ⟨by decide, rfl⟩ rfl ?_
            refine aw_iinc (v := nI (q + 1)) (L' := [some (.ref 2), some (.int (nI (pk (tgs s)))), some (.ref A), some (.int v52), some (.int (nI (q + 1))), some (.int (nI (tgs s q)))]) d_Slips_harmOf_53 rfl (nI_1 _) ⟨by decide, rfl⟩ rfl ?_
            refine aw_goto (tgt := 5) d_Slips_harmOf_56 (by decide) ?_
            have hin := tgp.in hn6 tgx (show q < N_n N by omega)
            have e : hrm N s x (q + 1) = hrm N s x q + fr N (x (tgs s q)) (x q) := rfl
            first
              | (have c26 := (nI_eq (by have := tgp.1 q (by omega); omega) (by omega)).mp c26
                 rw [c26, fr_self] at e
                 rw [show hrm N s x q = hrm N s x (q + 1) from e.symm]
                 exact aw_drop 5 (ih (q + 1) (by omega)))
              | (exact absurd c35 (nI_ge hin (by omega)))
              | (rw [show v52 = nI (hrm N s x (q + 1)) by rw [ev52, nI_add, e]]
                 exact aw_drop 5 (ih (q + 1) (by omega)))
  refine aw_iconst (v := nI 0) d_Slips_harmOf_0 (by decide) ?_
  refine aw_istore_n (L' := [some (.ref 2), some (.int (nI (pk (tgs s)))), some (.ref A), some (.int (nI 0)), none, none]) d_Slips_harmOf_1 ⟨by decide, rfl⟩ rfl ?_
  refine aw_iconst (v := nI 0) d_Slips_harmOf_2 (by decide) ?_
  refine aw_istore (L' := [some (.ref 2), some (.int (nI (pk (tgs s)))), some (.ref A), some (.int (nI 0)), some (.int (nI 0)), none]) d_Slips_harmOf_3 ⟨by decide, rfl⟩ rfl ?_
  exact loop (N_n N) 0 (by omega)
theorem x_harm {V : VV} {m : Nat} {h : ab_H} {S : SS} (hX : PX V m h S) (ok : S_ok S) (sl sh lane i : Int32) : CX V Y_Coat_harm [.int sl, .int sh, .int lane, .int i] m h (fun r S2 => (r, S2) = sp_harm S sl sh lane i) := by
  obtain ⟨⟨a0, ⟨n0, n1, n2, n3, n4, n5, n6, n7, n8⟩, a2⟩, p1, p2, p3, p4, p5, p6, p7⟩ := id hX
  have hn6 : N_n (S_N S) ≤ 6 := ok.1.1
  have hnT := nI_toInt (show N_n (S_N S) < 2 ^ 31 by omega)
  have hpm := ok.1.pm
  have hw6 := ok.1.w6
  have hfe := ok.1.fe6
  have hfT := nI_toInt (show N_fe (S_N S) < 2 ^ 31 by omega)
  obtain ⟨gf, hf0, af⟩ := id n8
  refine ab_C.of (L := [some (.ref 1), some (.int sl), some (.int sh), some (.int lane), some (.int i), none]) rfl rfl (Nat.le_of_ble_eq_true rfl) (fun l => ?_)
  refine aw_iload_n d_Coat_harm_0 rfl ?_
  refine aw_if_lt (tgt := 15) d_Coat_harm_1 (by decide) (fun c1 => ?_) (fun c1 => ?_)
  · refine aw_iconst (v := (-1)) d_Coat_harm_15 (by decide) ?_
    refine aw_ireturn d_Coat_harm_16 rfl rfl ?_
    refine ⟨_, S, rfl, ?_, hX, Nat.le_refl _, fun k _ _ => rfl⟩
    unfold sp_harm
    rw [if_neg]
    intro z
    obtain ⟨z1, z2⟩ := z
    simp only [fa_lt, hfT, Int32.toInt_zero] at *
    omega
  · refine aw_iload_n d_Coat_harm_4 rfl ?_
    refine aw_aload_n d_Coat_harm_5 rfl ?_
    refine aw_get (k := 0) d_Coat_harm_6 cl_Coat k_Coat_10 (by decide) a0 rfl ?_
    refine aw_get (k := 15) d_Coat_harm_9 cl_Night k_Coat_177 (by decide) n0 rfl ?_
    refine aw_icmp_lt (tgt := 17) d_Coat_harm_12 (by decide) (fun c12 => ?_) (fun c12 => ?_)
    · have irs : ir sl 0 (N_fe (S_N S) - 1 : Int) := by
        simp only [fa_lt, hfT, Int32.toInt_zero] at c1 c12
        exact ⟨by omega, by omega⟩
      obtain ⟨q, hq, rfl⟩ := irN irs
      refine aw_aload_n d_Coat_harm_17 rfl ?_
      refine aw_iload_n d_Coat_harm_18 rfl ?_
      refine aw_iload_n d_Coat_harm_19 rfl ?_
      refine aw_iload d_Coat_harm_20 rfl ?_
      refine aw_v0 (a := 1) d_Coat_harm_22 k_Coat_138 ok_Coat_take rfl ⟨rfl, rfl⟩ cl_Coat a0 (c_take hX ok sh lane i) rfl rfl (Nat.le_of_ble_eq_true rfl) (fun r m2 h2 q => ?_)
      obtain ⟨rfl, rfl, g, rfl, hgk⟩ := q
      have hX1 := hX.tk g
      show ab_W _ _ _ _ 25 _ [.int (sp_take S sh lane i)] _ _ _
      refine aw_topi (fun v25 ev25 => ?_)
      refine aw_istore (L' := [some (.ref 1), some (.int (nI q)), some (.int sh), some (.int lane), some (.int i), some (.int v25)]) d_Coat_harm_25 ⟨by decide, rfl⟩ rfl ?_
      refine aw_iload d_Coat_harm_27 rfl ?_
      refine aw_if_ge (tgt := 37) d_Coat_harm_29 (by decide) (fun c29 => ?_) (fun c29 => ?_)
      · have t01 := sp_take_0 ok (Int32.not_lt.mpr (by rw [← ev25]; exact c29))
        obtain ⟨t0, tgq⟩ := t01
        obtain ⟨tp, tf, ti⟩ := tkg_pm hn6 tgq
        refine aw_aload_n d_Coat_harm_37 rfl ?_
        refine aw_get (k := 0) d_Coat_harm_38 cl_Coat k_Coat_10 (by decide) a0 rfl ?_
        refine aw_aload_n d_Coat_harm_41 rfl ?_
        refine aw_get (k := 0) d_Coat_harm_42 cl_Coat k_Coat_10 (by decide) a0 rfl ?_
        refine aw_get (k := 16) d_Coat_harm_45 cl_Night k_Coat_275 (by decide) n0 rfl ?_
        refine aw_iload_n d_Coat_harm_48 rfl ?_
        refine aw_ialoadN d_Coat_harm_49 (id hf0) (by omega) (by decide) ?_
        rw [af q (by omega)]
        refine aw_s0i d_Coat_harm_50 k_Coat_281 ok_Slips_targetsOf rfl ⟨rfl, rfl⟩ (c_targetsOf hn6 (ok.1.fe q hq)) rfl rfl (Nat.le_of_ble_eq_true rfl) ?_
        refine aw_aload_n d_Coat_harm_53 rfl ?_
        refine aw_get (k := 5) d_Coat_harm_54 cl_Coat k_Coat_33 (by decide) a0 rfl ?_
        refine aw_s0i d_Coat_harm_57 k_Coat_284 ok_Slips_harmOf rfl ⟨rfl, rfl⟩ (c_harmOf hX1.1.2.1 ok.1 (ok.1.fe q hq) (A := 31) rfl tp (hgk t0)) rfl rfl (Nat.le_of_ble_eq_true rfl) ?_
        refine aw_ireturn d_Coat_harm_60 rfl rfl ?_
        refine ⟨_, S, rfl, ?_, hX1, Nat.le_refl _, fun k _ _ => ab_set_ne (by omega)⟩
        unfold sp_harm
        rw [if_pos irs]
        first
          | (rw [t0, if_neg (by decide), cl_nI (by omega)]; done)
          | (rw [if_pos (by rw [← ev25]; exact Int32.not_le.mp c29), ev25]; done)
      · refine aw_iload d_Coat_harm_32 rfl ?_
        refine aw_goto (tgt := 60) d_Coat_harm_34 (by decide) ?_
        refine aw_ireturn d_Coat_harm_60 rfl rfl ?_
        refine ⟨_, S, rfl, ?_, hX1, Nat.le_refl _, fun k _ _ => ab_set_ne (by omega)⟩
        unfold sp_harm
        rw [if_pos irs]
        first
          | (rw [t0, if_neg (by decide), cl_nI (by omega)]; done)
          | (rw [if_pos (by rw [← ev25]; exact Int32.not_le.mp c29), ev25]; done)
    · refine aw_iconst (v := (-1)) d_Coat_harm_15 (by decide) ?_
      refine aw_ireturn d_Coat_harm_16 rfl rfl ?_
      refine ⟨_, S, rfl, ?_, hX, Nat.le_refl _, fun k _ _ => rfl⟩
      unfold sp_harm
      rw [if_neg]
      intro z
      obtain ⟨z1, z2⟩ := z
      simp only [fa_lt, hfT, Int32.toInt_zero] at *
      omega
