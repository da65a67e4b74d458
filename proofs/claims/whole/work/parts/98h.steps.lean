/-- the j-th meeting -/
def mav (j : Nat) : Prop := ¬ (j < 36 ∧ ¬ j / 6 < j % 6)
def mtA (j : Nat) : Nat := if j < 36 then 100 * (j / 6) + j % 6 else if j < 292 then 10000 + 1000 * ((j - 36) / 64) + (j - 36) % 64 else 20000 + (j - 292)
def nv (j : Nat) : Int32 := if j < 36 ∧ ¬ j / 6 < j % 6 then -1 else nI (mtA j)
theorem mtA_lt {j : Nat} (h : j < 298) : mtA j < 20006 := by
  unfold mtA
  split
  · omega
  · split <;> omega
/-- whether it can be had, and where it leads -/
def sok (N : NS) (x : Nat → Nat) (j : Nat) : Prop := mav j ∧ ¬ who N x (mtA j) = 0 ∧ who N x (mtA j) &&& N_w N = 0
def sto (N : NS) (x : Nat → Nat) (j : Nat) : Nat → Nat := aft x (mtA j) (who N x (mtA j))
def sco (N : NS) (x : Nat → Nat) (j : Nat) : Nat := mil N x (mtA j) (who N x (mtA j))
theorem sto_Tb {N : NS} (ok : N_ok N) {x : Nat → Nat} (hx : Tb (N_n N) x) {j : Nat} (h : ¬ who N x (mtA j) = 0) : Tb (N_n N) (sto N x j) := by
  have hn := ok.1
  obtain ⟨w1, w2⟩ := who_t ok hx.1 hx.2 h
  unfold sto aft
  by_cases k0 : mtA j / 10000 = 0
  · rw [if_pos k0]
    rcases w2 with ⟨_, a, b, _⟩ | ⟨z, _⟩ | ⟨z, _⟩
    · have e1 : mtA j % 10000 = mtA j := by omega
      rw [e1] at a b
      exact ⟨sw_pm hx.1 (by omega) (by omega), sw_fx (by omega) b hx.2⟩
    · omega
    · omega
  · rw [if_neg k0]
    exact ⟨stt_pm hx.1 (two_le6 hn w1), stt_out w1 hx.2⟩
def ST (N : NS) (fs ft : Nat → Int32) : Prop := ∀ t, t < TT (N_n N) → ∀ j, j < 298 → (sok N (prm (N_n N) t) j → fs (298 * t + j) = nI (num (N_n N) (sto N (prm (N_n N) t) j)) ∧ ft (298 * t + j) = nI (sco N (prm (N_n N) t) j)) ∧ (¬ sok N (prm (N_n N) t) j → fs (298 * t + j) = -4)
abbrev HV (h : ab_H) (g7 fs ft : Nat → Int32) : ab_H := ab_set (ab_set (ab_set h 72 (.inl (6, g7))) 73 (.inl (214560, fs))) 74 (.inl (214560, ft))
theorem hv_74 (h : ab_H) (g7 fs ft g : Nat → Int32) : ab_set (HV h g7 fs ft) 74 (.inl (214560, g)) = HV h g7 fs g := ab_set_set _ _ _ _
theorem hv_73 (h : ab_H) (g7 fs ft g : Nat → Int32) : ab_set (HV h g7 fs ft) 73 (.inl (214560, g)) = HV h g7 g ft := by
  unfold HV
  rw [ab_set_swap (show 74 ≠ 73 by decide), ab_set_set]
theorem hv_72 (h : ab_H) (g7 fs ft g : Nat → Int32) : ab_set (HV h g7 fs ft) 72 (.inl (6, g)) = HV h g fs ft := by
  unfold HV
  rw [ab_set_swap (show 74 ≠ 72 by decide), ab_set_swap (show 73 ≠ 72 by decide), ab_set_set]
theorem hv_56 (h : ab_H) (e : ab_E) (g1 g2 g3 g7 fs ft : Nat → Int32) (e2 : ab_E) : ab_set (HV (HL h e g1 g2 g3) g7 fs ft) 56 e2 = HV (HL h e2 g1 g2 g3) g7 fs ft := by
  unfold HV
  rw [ab_set_swap (show 74 ≠ 56 by decide), ab_set_swap (show 73 ≠ 56 by decide), ab_set_swap (show 72 ≠ 56 by decide), hl_56]
theorem hv_h {h : ab_H} {g7 fs ft : Nat → Int32} (h0 : h 72 = .inl (6, g7)) (h1 : h 73 = .inl (214560, fs)) (h2 : h 74 = .inl (214560, ft)) : HV h g7 fs ft = h := by
  unfold HV
  rw [ab_set_eq h0, ab_set_eq h1, ab_set_eq h2]
theorem HV_ne {h : ab_H} {g7 fs ft : Nat → Int32} {k : Nat} (a : k < 72 ∨ 74 < k) : HV h g7 fs ft k = h k := by
  unfold HV
  rw [ab_set_ne (by omega), ab_set_ne (by omega), ab_set_ne (by omega)]
theorem c_meetingAt {m : Nat} {h : ab_H} {j : Nat} (hj : j < 298) : ab_D Y_M_meetingAt [.ref 56, .int (nI j)] m h (some (.int (nv j))) m (h) := by
  refine ab_C.of (L := [some (.ref 56), some (.int (nI j))]) rfl rfl (Nat.le_of_ble_eq_true rfl) (fun l => ?_)
  refine aw_iload_n d_M_meetingAt_0 rfl ?_
  refine aw_bipush (v := nI 36) d_M_meetingAt_1 (by decide) ?_
  refine aw_icmp_ge (tgt := 34) d_M_meetingAt_3 (by decide) (fun c3 => ?_) (fun c3 => ?_)
  · refine aw_iload_n d_M_meetingAt_34 rfl ?_
    refine aw_sipush (v := nI 292) d_M_meetingAt_35 (by decide) ?_
    refine aw_icmp_ge (tgt := 67) d_M_meetingAt_38 (by decide) (fun c38 => ?_) (fun c38 => ?_)
    · refine aw_sipush (v := nI 20000) d_M_meetingAt_67 (by decide) ?_
      refine aw_iload_n d_M_meetingAt_70 rfl ?_
      refine aw_iadd d_M_meetingAt_71 ?_
      refine aw_sipush (v := nI 292) d_M_meetingAt_72 (by decide) ?_
      refine aw_isub d_M_meetingAt_75 ?_
      refine aw_ireturn d_M_meetingAt_76 rfl rfl ?_
      have c3 : 36 ≤ j := (nI_leI (by decide) (by omega)).mp c3
      refine ⟨congrArg (fun z => some (Value.int z)) ?_, rfl, rfl⟩
      unfold nv mtA
      rw [if_neg (by omega), if_neg (by omega)]
      first
        | (rw [if_pos (Nat.not_le.mp (fun z => c38 (nI_le z (by omega)))), nI_add]; done)
        | (have c38 : 292 ≤ j := (nI_leI (by decide) (by omega)).mp c38
           rw [if_neg (by omega), nI_add, pk_sub (by omega), show 20000 + j - 292 = 20000 + (j - 292) by omega]; done)
    · refine aw_sipush (v := nI 10000) d_M_meetingAt_41 (by decide) ?_
      refine aw_sipush (v := nI 1000) d_M_meetingAt_44 (by decide) ?_
      refine aw_iload_n d_M_meetingAt_47 rfl ?_
      refine aw_bipush (v := nI 36) d_M_meetingAt_48 (by decide) ?_
      refine aw_isub d_M_meetingAt_50 ?_
      rw [pk_sub (by have := Nat.not_lt.mp (fun z => absurd c3 (nI_ge z (by omega))); omega)]
      refine aw_bipush (v := nI 64) d_M_meetingAt_51 (by decide) ?_
      refine aw_idiv d_M_meetingAt_53 (by decide) ?_
      rw [dv (by omega) (by decide) (by decide)]
      refine aw_imul d_M_meetingAt_54 ?_
      refine aw_iadd d_M_meetingAt_55 ?_
      refine aw_iload_n d_M_meetingAt_56 rfl ?_
      refine aw_bipush (v := nI 36) d_M_meetingAt_57 (by decide) ?_
      refine aw_isub d_M_meetingAt_59 ?_
      rw [pk_sub (by have := Nat.not_lt.mp (fun z => absurd c3 (nI_ge z (by omega))); omega)]
      refine aw_bipush (v := nI 64) d_M_meetingAt_60 (by decide) ?_
      refine aw_irem d_M_meetingAt_62 (by decide) ?_
      rw [rm (by omega) (by decide) (by decide), pk_mul, nI_add]
      refine aw_iadd d_M_meetingAt_63 ?_
      refine aw_goto (tgt := 76) d_M_meetingAt_64 (by decide) ?_
      refine aw_ireturn d_M_meetingAt_76 rfl rfl ?_
      have c3 : 36 ≤ j := (nI_leI (by decide) (by omega)).mp c3
      refine ⟨congrArg (fun z => some (Value.int z)) ?_, rfl, rfl⟩
      unfold nv mtA
      rw [if_neg (by omega), if_neg (by omega)]
      first
        | (rw [if_pos (Nat.not_le.mp (fun z => c38 (nI_le z (by omega)))), nI_add]; done)
        | (have c38 : 292 ≤ j := (nI_leI (by decide) (by omega)).mp c38
           rw [if_neg (by omega), nI_add, pk_sub (by omega), show 20000 + j - 292 = 20000 + (j - 292) by omega]; done)
  · refine aw_iload_n d_M_meetingAt_6 rfl ?_
    refine aw_bipush (v := nI 6) d_M_meetingAt_7 (by decide) ?_
    refine aw_idiv d_M_meetingAt_9 (by decide) ?_
    rw [dv (by omega) (by decide) (by decide)]
    refine aw_iload_n d_M_meetingAt_10 rfl ?_
    refine aw_bipush (v := nI 6) d_M_meetingAt_11 (by decide) ?_
    refine aw_irem d_M_meetingAt_13 (by decide) ?_
    rw [rm (by omega) (by decide) (by decide)]
    refine aw_icmp_ge (tgt := 32) d_M_meetingAt_14 (by decide) (fun c14 => ?_) (fun c14 => ?_)
    · refine aw_iconst (v := (-1)) d_M_meetingAt_32 (by decide) ?_
      refine aw_ireturn d_M_meetingAt_33 rfl rfl ?_
      have c3 : j < 36 := Nat.not_le.mp (fun z => c3 (nI_le z (by omega)))
      refine ⟨congrArg (fun z => some (Value.int z)) ?_, rfl, rfl⟩
      unfold nv mtA
      first
        | (have c14 := (nI_leI (by omega) (by omega)).mp c14
           rw [if_pos ⟨c3, by omega⟩]; done)
        | (have c14 : j / 6 < j % 6 := Nat.not_le.mp (fun z => c14 (nI_le z (by omega)))
           rw [if_neg (by omega), if_pos c3, nI_add]; done)
    · refine aw_bipush (v := nI 100) d_M_meetingAt_17 (by decide) ?_
      refine aw_iload_n d_M_meetingAt_19 rfl ?_
      refine aw_bipush (v := nI 6) d_M_meetingAt_20 (by decide) ?_
      refine aw_idiv d_M_meetingAt_22 (by decide) ?_
      rw [dv (by omega) (by decide) (by decide)]
      refine aw_imul d_M_meetingAt_23 ?_
      refine aw_iload_n d_M_meetingAt_24 rfl ?_
      refine aw_bipush (v := nI 6) d_M_meetingAt_25 (by decide) ?_
      refine aw_irem d_M_meetingAt_27 (by decide) ?_
      rw [rm (by omega) (by decide) (by decide), pk_mul]
      refine aw_iadd d_M_meetingAt_28 ?_
      refine aw_goto (tgt := 33) d_M_meetingAt_29 (by decide) ?_
      refine aw_ireturn d_M_meetingAt_33 rfl rfl ?_
      have c3 : j < 36 := Nat.not_le.mp (fun z => c3 (nI_le z (by omega)))
      refine ⟨congrArg (fun z => some (Value.int z)) ?_, rfl, rfl⟩
      unfold nv mtA
      first
        | (have c14 := (nI_leI (by omega) (by omega)).mp c14
           rw [if_pos ⟨c3, by omega⟩]; done)
        | (have c14 : j / 6 < j % 6 := Nat.not_le.mp (fun z => c14 (nI_le z (by omega)))
           rw [if_neg (by omega), if_pos c3, nI_add]; done)
theorem c_stepBy {m : Nat} {h : ab_H} {N : NS} {me mi ve la : Int32} {tl : Nat} {at_ wr : Int32} {fe : Nat} {kp : Bool} (hM : h 56 = oM (N_n N) (N_ns N) (N_ra N) (N_se N) me mi (nI (TT (N_n N))) ve la tl at_ wr fe kp) (hP : PMn h N) (ok : N_ok N) {g2 g3 : Nat → Int32} (h68 : h 68 = .inl (4320, g2)) (h69 : h 69 = .inl (46656, g3)) (hly : LY (N_n N) (6 ^ N_n N) g2 g3) {t : Nat} (ht : t < TT (N_n N)) {j : Nat} (hj : j < 298) {g7 : Nat → Int32} (h72 : h 72 = .inl (6, g7)) : ab_C Y_M_stepBy [.ref 56, .int (nI t), .int (nv j)] m h (fun r m2 h2 => m2 = m ∧ ∃ g7 : Nat → Int32, h2 = ab_set h 72 (.inl (6, g7)) ∧ ∃ v : Int32, r = some (.int v) ∧ (sok N (prm (N_n N) t) j → v = nI (num (N_n N) (sto N (prm (N_n N) t) j))) ∧ (¬ sok N (prm (N_n N) t) j → v = -4)) := by
  obtain ⟨⟨gx, hx, ax⟩, ⟨gy, hy, ay⟩, ⟨gm, hm, am⟩, ⟨gh, hh, ah⟩, ⟨gl, hl, al⟩, ⟨gw, hw, aw⟩, ⟨ga, ha0, aa⟩, ⟨gi, hi, ai⟩, ⟨gj, hj0, aj⟩, ⟨gf, hf0, af⟩⟩ := id hP
  have hn6 : N_n N ≤ 6 := ok.1
  have hns : N_ns N ≤ 4 := ok.2.2.2.2.2.2.2.2.1
  have hw6 := ok.w6
  have aw : ∀ k, k < N_n N → gw k = nI (N_w N / 2 ^ k % 2) := aw
  have bx := ok.2.2.2.2.2.1
  have bi := ok.2.2.2.2.2.2.2.2.2.1
  have hx9 := Tb.pr_ hn6 ht
  have hTT := (TT_le hn6).1
  have h2k := mtA_lt hj
  obtain ⟨v0, ev0⟩ : ∃ z, z = nv j := ⟨_, rfl⟩
  rw [← ev0]
  refine ab_C.of (L := [some (.ref 56), some (.int (nI t)), some (.int v0), none]) rfl rfl (Nat.le_of_ble_eq_true rfl) (fun l => ?_)
  refine aw_iload_n d_M_stepBy_0 rfl ?_
  refine aw_if_ge (tgt := 8) d_M_stepBy_1 (by decide) (fun c1 => ?_) (fun c1 => ?_)
  · have hmv : mav j := fun z => by
      rw [ev0, show nv j = -1 from if_pos z] at c1
      exact absurd c1 (by decide)
    have e0 : v0 = nI (mtA j) := ev0.trans (if_neg hmv)
    subst e0
    refine aw_aload_n d_M_stepBy_8 rfl ?_
    refine aw_aload_n d_M_stepBy_9 rfl ?_
    refine aw_get (k := 18) d_M_stepBy_10 cl_Model k_M_50 (by decide) hM rfl ?_
    refine aw_bipush (v := nI 6) d_M_stepBy_13 (by decide) ?_
    refine aw_iload_n d_M_stepBy_15 rfl ?_
    refine aw_imul d_M_stepBy_16 ?_
    rw [pk_mul]
    refine aw_iload_n d_M_stepBy_17 rfl ?_
    refine aw_v0i (a := 56) d_M_stepBy_18 k_M_202 ok_M_whoMeets rfl ⟨rfl, rfl⟩ cl_Model hM (c_whoMeets hM hP ok (A := 68) (NN := 4320) (fo := 6 * t) h68 (by decide) (by omega) hx9.1 hx9.2 (fun k hk => hly.row ht hk) (k := mtA j) (by have := mtA_lt hj; omega)) rfl rfl (Nat.le_of_ble_eq_true rfl) ?_
    refine aw_istore_n (L' := [some (.ref 56), some (.int (nI t)), some (.int (nI (mtA j))), some (.int (nI (who N (prm (N_n N) t) (mtA j))))]) d_M_stepBy_21 ⟨by decide, rfl⟩ rfl ?_
    refine aw_iload_n d_M_stepBy_22 rfl ?_
    refine aw_if_eq (tgt := 35) d_M_stepBy_23 (by decide) (fun c23 => ?_) (fun c23 => ?_)
    · refine aw_bipush (v := (-4)) d_M_stepBy_35 (by decide) ?_
      refine aw_ireturn d_M_stepBy_37 rfl rfl ?_
      refine ⟨rfl, g7, (ab_set_eq h72).symm, _, rfl, fun z => ?_, fun _ => rfl⟩
      first
        | (have e1 : nv j = nI (mtA j) := if_neg z.1
           rw [ev0, e1] at c1
           exact absurd (nI_pos' (by omega)) c1)
        | (exact absurd ((nI_eq (by have := two_le6 hn6 (who_t ok hx9.1 hx9.2 z.2.1).1; omega) (by decide)).mp c23) z.2.1)
        | exact absurd (by rw [z.2.2]; rfl) c32
    · refine aw_iload_n d_M_stepBy_26 rfl ?_
      refine aw_aload_n d_M_stepBy_27 rfl ?_
      refine aw_v0i (a := 56) d_M_stepBy_28 k_M_205 ok_M_unwilling rfl ⟨rfl, rfl⟩ cl_Model hM (c_unwilling hM hP ok) rfl rfl (Nat.le_of_ble_eq_true rfl) ?_
      refine aw_iand d_M_stepBy_31 ?_
      rw [fa_and]
      refine aw_if_eq (tgt := 38) d_M_stepBy_32 (by decide) (fun c32 => ?_) (fun c32 => ?_)
      · have wn : ¬ who N (prm (N_n N) t) (mtA j) = 0 := fun z => c23 (by rw [z]; rfl)
        have ww := who_t ok hx9.1 hx9.2 wn
        have w64 := two_le6 hn6 ww.1
        have hsok : sok N (prm (N_n N) t) j := ⟨hmv, wn, (nI_eq (b := 0) (by have := and_63 (b := N_w N) w64; omega) (by decide)).mp c32⟩
        have hsT := sto_Tb ok hx9 wn
        refine aw_aload_n d_M_stepBy_38 rfl ?_
        refine aw_aload_n d_M_stepBy_39 rfl ?_
        refine aw_get (k := 18) d_M_stepBy_40 cl_Model k_M_50 (by decide) hM rfl ?_
        refine aw_bipush (v := nI 6) d_M_stepBy_43 (by decide) ?_
        refine aw_iload_n d_M_stepBy_45 rfl ?_
        refine aw_imul d_M_stepBy_46 ?_
        rw [pk_mul]
        refine aw_iload_n d_M_stepBy_47 rfl ?_
        refine aw_iload_n d_M_stepBy_48 rfl ?_
        refine aw_aload_n d_M_stepBy_49 rfl ?_
        refine aw_get (k := 22) d_M_stepBy_50 cl_Model k_M_63 (by decide) hM rfl ?_
        refine aw_iconst (v := nI 0) d_M_stepBy_53 (by decide) ?_
        refine aw_v0 (a := 56) d_M_stepBy_54 k_M_212 ok_M_meets rfl ⟨rfl, rfl⟩ cl_Model hM (c_meets hM ok (A := 68) (NN := 4320) (fo := 6 * t) h68 (by decide) (by omega) hx9.1 hx9.2 (fun k hk => hly.row ht hk) (B := 72) h72 (by decide) (by decide) (k := mtA j) (by omega) ww.1 (fun k0 => by
          rcases ww.2 with ⟨_, a, b, _⟩ | ⟨z, _⟩ | ⟨z, _⟩
          · rw [show mtA j % 10000 = mtA j by omega] at a b
            omega
          · omega
          · omega)) rfl rfl (Nat.le_of_ble_eq_true rfl) (fun r m2 h2 z => ?_)
        obtain ⟨rfl, em, g7, rfl, eg7⟩ := z
        rw [em]
        show ab_W _ _ _ _ 57 _ [] _ _ _
        refine aw_aload_n d_M_stepBy_57 rfl ?_
        refine aw_get (k := 19) d_M_stepBy_58 cl_Model k_M_54 (by decide) hM rfl ?_
        refine aw_aload_n d_M_stepBy_61 rfl ?_
        refine aw_get (k := 22) d_M_stepBy_62 cl_Model k_M_63 (by decide) hM rfl ?_
        refine aw_iconst (v := nI 0) d_M_stepBy_65 (by decide) ?_
        refine aw_aload_n d_M_stepBy_66 rfl ?_
        refine aw_get (k := 0) d_M_stepBy_67 cl_Model k_M_118 (by decide) hM rfl ?_
        refine aw_s0i d_M_stepBy_70 k_M_223 ok_M_codeOf rfl ⟨rfl, rfl⟩ (c_codeOf (h := ab_set h 72 (.inl (6, g7))) (A := 72) (NN := 6) (fo := 0) (n := N_n N) rfl (by decide) (by omega) (x := sto N (prm (N_n N) t) j) (fun k hk => by rw [Nat.zero_add]; exact eg7 k hk)) rfl rfl (Nat.le_of_ble_eq_true rfl) ?_
        refine aw_ialoadN d_M_stepBy_73 h69 (cd_46 hn6 hsT) (by decide) ?_
        refine aw_ireturn d_M_stepBy_74 rfl rfl ?_
        exact ⟨rfl, g7, rfl, _, rfl, fun _ => by rw [hly.num hn6 hsT.1 hsT.2], fun z => absurd hsok z⟩
      · refine aw_bipush (v := (-4)) d_M_stepBy_35 (by decide) ?_
        refine aw_ireturn d_M_stepBy_37 rfl rfl ?_
        refine ⟨rfl, g7, (ab_set_eq h72).symm, _, rfl, fun z => ?_, fun _ => rfl⟩
        first
          | (have e1 : nv j = nI (mtA j) := if_neg z.1
             rw [ev0, e1] at c1
             exact absurd (nI_pos' (by omega)) c1)
          | (exact absurd ((nI_eq (by have := two_le6 hn6 (who_t ok hx9.1 hx9.2 z.2.1).1; omega) (by decide)).mp c23) z.2.1)
          | exact absurd (by rw [z.2.2]; rfl) c32
  · refine aw_iconst (v := nI 0) d_M_stepBy_4 (by decide) ?_
    refine aw_goto (tgt := 21) d_M_stepBy_5 (by decide) ?_
    refine aw_istore_n (L' := [some (.ref 56), some (.int (nI t)), some (.int v0), some (.int (nI 0))]) d_M_stepBy_21 ⟨by decide, rfl⟩ rfl ?_
    refine aw_iload_n d_M_stepBy_22 rfl ?_
    refine aw_if_eq (tgt := 35) d_M_stepBy_23 (by decide) (fun c23 => ?_) (fun c23 => ?_)
    · refine aw_bipush (v := (-4)) d_M_stepBy_35 (by decide) ?_
      refine aw_ireturn d_M_stepBy_37 rfl rfl ?_
      refine ⟨rfl, g7, (ab_set_eq h72).symm, _, rfl, fun z => ?_, fun _ => rfl⟩
      first
        | (have e1 : nv j = nI (mtA j) := if_neg z.1
           rw [ev0, e1] at c1
           exact absurd (nI_pos' (by omega)) c1)
        | (exact absurd ((nI_eq (by have := two_le6 hn6 (who_t ok hx9.1 hx9.2 z.2.1).1; omega) (by decide)).mp c23) z.2.1)
        | exact absurd (by rw [z.2.2]; rfl) c32
    · first | exact absurd c23 (by decide) | exact absurd (by decide) c23
theorem c_costOf {m : Nat} {h : ab_H} {N : NS} {me mi ve la : Int32} {tl : Nat} {at_ wr : Int32} {fe : Nat} {kp : Bool} (hM : h 56 = oM (N_n N) (N_ns N) (N_ra N) (N_se N) me mi (nI (TT (N_n N))) ve la tl at_ wr fe kp) (hP : PMn h N) (ok : N_ok N) {g2 g3 : Nat → Int32} (h68 : h 68 = .inl (4320, g2)) (h69 : h 69 = .inl (46656, g3)) (hly : LY (N_n N) (6 ^ N_n N) g2 g3) {t : Nat} (ht : t < TT (N_n N)) {j : Nat} (hj : j < 298) (hs : sok N (prm (N_n N) t) j) : ab_D Y_M_costOf [.ref 56, .int (nI t), .int (nI (mtA j))] m h (some (.int (nI (sco N (prm (N_n N) t) j)))) m (h) := by
  refine ab_C.of (L := [some (.ref 56), some (.int (nI t)), some (.int (nI (mtA j)))]) rfl rfl (Nat.le_of_ble_eq_true rfl) (fun l => ?_)
  obtain ⟨⟨gx, hx, ax⟩, ⟨gy, hy, ay⟩, ⟨gm, hm, am⟩, ⟨gh, hh, ah⟩, ⟨gl, hl, al⟩, ⟨gw, hw, aw⟩, ⟨ga, ha0, aa⟩, ⟨gi, hi, ai⟩, ⟨gj, hj0, aj⟩, ⟨gf, hf0, af⟩⟩ := id hP
  have hn6 : N_n N ≤ 6 := ok.1
  have hns : N_ns N ≤ 4 := ok.2.2.2.2.2.2.2.2.1
  have hw6 := ok.w6
  have aw : ∀ k, k < N_n N → gw k = nI (N_w N / 2 ^ k % 2) := aw
  have bx := ok.2.2.2.2.2.1
  have bi := ok.2.2.2.2.2.2.2.2.2.1
  have hx9 := Tb.pr_ hn6 ht
  have hTT := (TT_le hn6).1
  have h2k := mtA_lt hj
  have ww := who_t ok hx9.1 hx9.2 hs.2.1
  have w64 := two_le6 hn6 ww.1
  refine aw_aload_n d_M_costOf_0 rfl ?_
  refine aw_aload_n d_M_costOf_1 rfl ?_
  refine aw_get (k := 18) d_M_costOf_2 cl_Model k_M_50 (by decide) hM rfl ?_
  refine aw_bipush (v := nI 6) d_M_costOf_5 (by decide) ?_
  refine aw_iload_n d_M_costOf_7 rfl ?_
  refine aw_imul d_M_costOf_8 ?_
  rw [pk_mul]
  refine aw_iload_n d_M_costOf_9 rfl ?_
  refine aw_aload_n d_M_costOf_10 rfl ?_
  refine aw_aload_n d_M_costOf_11 rfl ?_
  refine aw_get (k := 18) d_M_costOf_12 cl_Model k_M_50 (by decide) hM rfl ?_
  refine aw_bipush (v := nI 6) d_M_costOf_15 (by decide) ?_
  refine aw_iload_n d_M_costOf_17 rfl ?_
  refine aw_imul d_M_costOf_18 ?_
  rw [pk_mul]
  refine aw_iload_n d_M_costOf_19 rfl ?_
  refine aw_v0i (a := 56) d_M_costOf_20 k_M_202 ok_M_whoMeets rfl ⟨rfl, rfl⟩ cl_Model hM (c_whoMeets hM hP ok (A := 68) (NN := 4320) (fo := 6 * t) h68 (by decide) (by omega) hx9.1 hx9.2 (fun k hk => hly.row ht hk) (k := mtA j) (by have := mtA_lt hj; omega)) rfl rfl (Nat.le_of_ble_eq_true rfl) ?_
  refine aw_v0i (a := 56) d_M_costOf_23 k_M_208 ok_M_milesOf rfl ⟨rfl, rfl⟩ cl_Model hM (c_MmilesOf hM hP ok (A := 68) (NN := 4320) (fo := 6 * t) h68 (by decide) (by omega) hx9.1 hx9.2 (fun k hk => hly.row ht hk) (k := mtA j) (by omega) w64 (fun k0 => by rcases ww.2 with ⟨_, a, b, _⟩ | ⟨z, _⟩ | ⟨z, _⟩ <;> omega) (fun k1 => by rcases ww.2 with ⟨z, _⟩ | ⟨_, a, _⟩ | ⟨z, _⟩ <;> omega) (fun k2 => by rcases ww.2 with ⟨z, _⟩ | ⟨z, _⟩ | ⟨_, a, b, _⟩; omega; omega; intro p hp; rw [b]; exact (rgb_t hx9.1 (by omega)).2 p (by omega)) (by omega)) rfl rfl (Nat.le_of_ble_eq_true rfl) ?_
  refine aw_ireturn d_M_costOf_26 rfl rfl ?_
  exact ⟨rfl, rfl, rfl⟩
