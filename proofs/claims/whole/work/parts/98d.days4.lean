theorem x_atOnce {V : VV} {m : Nat} {h : ab_H} {S : SS} (hX : PX V m h S) (ok : S_ok S) (hVd : V.2.1 = DVN) (w : Int32) : CX V Y_Coat_atOnce [.int w] m h (fun r S2 => SPA S w r ∧ S2 = S) := by
  obtain ⟨⟨a0, ⟨n0, n1, n2, n3, n4, n5, n6, n7, n8⟩, a2⟩, p1, p2, p3, p4, p5, p6, p7⟩ := id hX
  have hn6 : N_n (S_N S) ≤ 6 := ok.1.1
  have hnT := nI_toInt (show N_n (S_N S) < 2 ^ 31 by omega)
  obtain ⟨kn, da, mi, h47, ⟨g8, h48, e8⟩, ⟨g9, h49⟩, hv⟩ := id p5
  rw [hVd] at hv
  have e8 : ∀ k, k < 76 → g8 k = nI (pk (mx6 k)) := fun k hk => by rw [e8 k hk]; show nI (mt_all.getD k 0) = nI (pk (mx6 k)); rw [mt_all_k hk, pk_mx6]
  refine ab_C.of (L := [some (.ref 1), some (.int w)]) rfl rfl (Nat.le_of_ble_eq_true rfl) (fun l => ?_)
  have cont : ∀ (h' : ab_H) (kn : Bool) (da mi : Int32), h' 1 = oO (S_K S).isSome → h' 47 = oD kn da mi → DVN (S_N S) da mi → PX V m h' S → (∀ k, 56 ≤ k → k ≤ 88 → h' k = h k) → ir w 0 1 → ab_W Y_Coat_atOnce none l (fun r m2 h2 => ∃ (v : Int32) (S2 : SS), r = some (.int v) ∧ (SPA S w v ∧ S2 = S) ∧ PX V m2 h2 S2 ∧ m ≤ m2 ∧ ∀ k, 56 ≤ k → k ≤ 88 → h2 k = h k) 32 [some (.ref 1), some (.int w)] [] m h' (0, 0) := by
    intro h' kn da mi e1 e47 dv hX2 hfr irw
    refine aw_iload_n d_Coat_atOnce_32 rfl ?_
    refine aw_if_ne (tgt := 46) d_Coat_atOnce_33 (by decide) (fun c33 => ?_) (fun c33 => ?_)
    · refine aw_aload_n d_Coat_atOnce_46 rfl ?_
      refine aw_get (k := 8) d_Coat_atOnce_47 cl_Coat k_Coat_54 (by decide) e1 rfl ?_
      refine aw_get (k := 2) d_Coat_atOnce_50 cl_Days k_Coat_219 (by decide) e47 rfl ?_
      refine aw_ireturn d_Coat_atOnce_53 rfl rfl ?_
      refine ⟨_, S, rfl, ⟨Or.inr ⟨irw, da, mi, dv, ?_⟩, rfl⟩, hX2, Nat.le_refl _, hfr⟩
      first
        | (rw [if_pos c33]; done)
        | (rw [if_neg c33]; done)
    · refine aw_aload_n d_Coat_atOnce_36 rfl ?_
      refine aw_get (k := 8) d_Coat_atOnce_37 cl_Coat k_Coat_54 (by decide) e1 rfl ?_
      refine aw_get (k := 1) d_Coat_atOnce_40 cl_Days k_Coat_217 (by decide) e47 rfl ?_
      refine aw_goto (tgt := 53) d_Coat_atOnce_43 (by decide) ?_
      refine aw_ireturn d_Coat_atOnce_53 rfl rfl ?_
      refine ⟨_, S, rfl, ⟨Or.inr ⟨irw, da, mi, dv, ?_⟩, rfl⟩, hX2, Nat.le_refl _, hfr⟩
      first
        | (rw [if_pos c33]; done)
        | (rw [if_neg c33]; done)
  refine aw_iload_n d_Coat_atOnce_0 rfl ?_
  refine aw_if_eq (tgt := 11) d_Coat_atOnce_1 (by decide) (fun c1 => ?_) (fun c1 => ?_)
  · have irw : ir w 0 1 := by
      first
        | (rw [c1]; decide)
        | (rw [c6]; decide)
    refine aw_aload_n d_Coat_atOnce_11 rfl ?_
    refine aw_get (k := 8) d_Coat_atOnce_12 cl_Coat k_Coat_54 (by decide) a0 rfl ?_
    refine aw_get (k := 0) d_Coat_atOnce_15 cl_Days k_Coat_215 (by decide) h47 rfl ?_
    refine aw_if_ne (tgt := 32) d_Coat_atOnce_18 (by decide) (fun c18 => ?_) (fun c18 => ?_)
    · first
        | exact cont h kn da mi a0 h47 (hv (ab_bl_1.mp c18)) hX (fun k _ _ => rfl) irw
        | exact cont _ true da2 mi2 a0 rfl dv (hX.dy (fun k hk => by unfold HY; rw [ab_set_ne (by omega), ab_set_ne (by omega)]) ⟨true, da2, mi2, rfl, ⟨g8, h48, fun k hk => by rw [e8 k hk]; show nI (pk (mx6 k)) = nI (mt_all.getD k 0); rw [mt_all_k hk, pk_mx6]⟩, ⟨a9, rfl⟩, fun _ => by rw [hVd]; exact dv⟩) (fun k _ _ => by unfold HY; rw [ab_set_ne (by omega), ab_set_ne (by omega)]) irw
    · refine aw_aload_n d_Coat_atOnce_21 rfl ?_
      refine aw_get (k := 8) d_Coat_atOnce_22 cl_Coat k_Coat_54 (by decide) a0 rfl ?_
      refine aw_aload_n d_Coat_atOnce_25 rfl ?_
      refine aw_get (k := 0) d_Coat_atOnce_26 cl_Coat k_Coat_10 (by decide) a0 rfl ?_
      refine aw_v0 (a := 47) d_Coat_atOnce_29 k_Coat_216 ok_Days_reckon rfl ⟨rfl, rfl⟩ cl_Days h47 (c_Days_reckon hX.1.2.1 ok.1 h47 h48 h49 e8) rfl rfl (Nat.le_of_ble_eq_true rfl) (fun r m2 h2 q => ?_)
      obtain ⟨rfl, em, da2, mi2, a9, rfl, dv⟩ := q
      rw [em]
      show ab_W _ _ _ _ 32 _ [] _ _ _
      first
        | exact cont h kn da mi a0 h47 (hv (ab_bl_1.mp c18)) hX (fun k _ _ => rfl) irw
        | exact cont _ true da2 mi2 a0 rfl dv (hX.dy (fun k hk => by unfold HY; rw [ab_set_ne (by omega), ab_set_ne (by omega)]) ⟨true, da2, mi2, rfl, ⟨g8, h48, fun k hk => by rw [e8 k hk]; show nI (pk (mx6 k)) = nI (mt_all.getD k 0); rw [mt_all_k hk, pk_mx6]⟩, ⟨a9, rfl⟩, fun _ => by rw [hVd]; exact dv⟩) (fun k _ _ => by unfold HY; rw [ab_set_ne (by omega), ab_set_ne (by omega)]) irw
  · refine aw_iload_n d_Coat_atOnce_4 rfl ?_
    refine aw_iconst (v := nI 1) d_Coat_atOnce_5 (by decide) ?_
    refine aw_icmp_eq (tgt := 11) d_Coat_atOnce_6 (by decide) (fun c6 => ?_) (fun c6 => ?_)
    · have irw : ir w 0 1 := by
        first
          | (rw [c1]; decide)
          | (rw [c6]; decide)
      refine aw_aload_n d_Coat_atOnce_11 rfl ?_
      refine aw_get (k := 8) d_Coat_atOnce_12 cl_Coat k_Coat_54 (by decide) a0 rfl ?_
      refine aw_get (k := 0) d_Coat_atOnce_15 cl_Days k_Coat_215 (by decide) h47 rfl ?_
      refine aw_if_ne (tgt := 32) d_Coat_atOnce_18 (by decide) (fun c18 => ?_) (fun c18 => ?_)
      · first
          | exact cont h kn da mi a0 h47 (hv (ab_bl_1.mp c18)) hX (fun k _ _ => rfl) irw
          | exact cont _ true da2 mi2 a0 rfl dv (hX.dy (fun k hk => by unfold HY; rw [ab_set_ne (by omega), ab_set_ne (by omega)]) ⟨true, da2, mi2, rfl, ⟨g8, h48, fun k hk => by rw [e8 k hk]; show nI (pk (mx6 k)) = nI (mt_all.getD k 0); rw [mt_all_k hk, pk_mx6]⟩, ⟨a9, rfl⟩, fun _ => by rw [hVd]; exact dv⟩) (fun k _ _ => by unfold HY; rw [ab_set_ne (by omega), ab_set_ne (by omega)]) irw
      · refine aw_aload_n d_Coat_atOnce_21 rfl ?_
        refine aw_get (k := 8) d_Coat_atOnce_22 cl_Coat k_Coat_54 (by decide) a0 rfl ?_
        refine aw_aload_n d_Coat_atOnce_25 rfl ?_
        refine aw_get (k := 0) d_Coat_atOnce_26 cl_Coat k_Coat_10 (by decide) a0 rfl ?_
        refine aw_v0 (a := 47) d_Coat_atOnce_29 k_Coat_216 ok_Days_reckon rfl ⟨rfl, rfl⟩ cl_Days h47 (c_Days_reckon hX.1.2.1 ok.1 h47 h48 h49 e8) rfl rfl (Nat.le_of_ble_eq_true rfl) (fun r m2 h2 q => ?_)
        obtain ⟨rfl, em, da2, mi2, a9, rfl, dv⟩ := q
        rw [em]
        show ab_W _ _ _ _ 32 _ [] _ _ _
        first
          | exact cont h kn da mi a0 h47 (hv (ab_bl_1.mp c18)) hX (fun k _ _ => rfl) irw
          | exact cont _ true da2 mi2 a0 rfl dv (hX.dy (fun k hk => by unfold HY; rw [ab_set_ne (by omega), ab_set_ne (by omega)]) ⟨true, da2, mi2, rfl, ⟨g8, h48, fun k hk => by rw [e8 k hk]; show nI (pk (mx6 k)) = nI (mt_all.getD k 0); rw [mt_all_k hk, pk_mx6]⟩, ⟨a9, rfl⟩, fun _ => by rw [hVd]; exact dv⟩) (fun k _ _ => by unfold HY; rw [ab_set_ne (by omega), ab_set_ne (by omega)]) irw
    · refine aw_iconst (v := (-1)) d_Coat_atOnce_9 (by decide) ?_
      refine aw_ireturn d_Coat_atOnce_10 rfl rfl ?_
      refine ⟨_, S, rfl, ⟨Or.inl ⟨fun z => ?_, rfl⟩, rfl⟩, hX, Nat.le_refl _, fun k _ _ => rfl⟩
      have z2 := z.1
      have z3 := z.2
      rw [fa_eq] at c1 c6
      rw [show (nI 1).toInt = 1 from by decide] at c6
      rw [Int32.toInt_zero] at c1
      omega
def prb (N : NS) (x : Nat → Nat) (p : Nat) : Bool := decide (x (x p) = p) && (decide (x p = p) || !decide (N_w N / 2 ^ p % 2 = 1))
def prs (N : NS) (x : Nat → Nat) : Nat → Bool
  | 0 => true
  | p + 1 => prs N x p && prb N x p
theorem prs_iff {N : NS} {x : Nat → Nat} : ∀ j, prs N x j = true ↔ ∀ p, p < j → x (x p) = p ∧ (x p = p ∨ ¬ N_w N / 2 ^ p % 2 = 1)
  | 0 => ⟨fun _ p hp => absurd hp (Nat.not_lt_zero _), fun _ => rfl⟩
  | j + 1 => by
    unfold prs prb
    rw [Bool.and_eq_true, prs_iff j, Bool.and_eq_true, Bool.or_eq_true, decide_eq_true_eq, decide_eq_true_eq, Bool.not_eq_true', decide_eq_false_iff_not]
    constructor
    · intro ⟨h1, h2⟩ p hp
      by_cases e : p = j
      · subst e; exact h2
      · exact h1 p (by omega)
    · intro h
      exact ⟨fun p hp => h p (by omega), h j (by omega)⟩
theorem prs_VM {N : NS} (ok : N_ok N) {x : Nat → Nat} (hx : Tb (N_n N) x) : prs N x (N_n N) = true ↔ VM (N_n N) (N_w N) x := by
  rw [prs_iff]
  constructor
  · intro h
    refine ⟨hx, fun k hk => ?_, fun p hp z => ?_⟩
    · by_cases q : k < N_n N
      · exact (h k q).1
      · rw [hx.2 k (by omega), hx.2 k (by omega)]
    · by_cases q : p < N_n N
      · exact (h p q).2.elim id (fun y => absurd z y)
      · exact hx.2 p (by omega)
  · intro h p hp
    have := ok.1
    refine ⟨h.2.1 p (by omega), ?_⟩
    by_cases z : N_w N / 2 ^ p % 2 = 1
    · exact Or.inl (h.2.2 p (by omega) z)
    · exact Or.inr z
theorem c_isPairs {m : Nat} {h : ab_H} {N : NS} {me mi ve la : Int32} {tl : Nat} {at_ wr : Int32} {fe : Nat} {kp : Bool} (hM : h 56 = oM (N_n N) (N_ns N) (N_ra N) (N_se N) me mi (nI (TT (N_n N))) ve la tl at_ wr fe kp) (hP : PMn h N) (ok : N_ok N) {g2 g3 : Nat → Int32} (h68 : h 68 = .inl (4320, g2)) (hly : LY (N_n N) (6 ^ N_n N) g2 g3) {t : Nat} (ht : t < TT (N_n N)) : ab_D Y_M_isPairs [.ref 56, .int (nI t)] m h (some (.int (ab_bl (prs N (prm (N_n N) t) (N_n N))))) m (h) := by
  refine ab_C.of (L := [some (.ref 56), some (.int (nI t)), none, none, none]) rfl rfl (Nat.le_of_ble_eq_true rfl) (fun l => ?_)
  obtain ⟨⟨gx, hx, ax⟩, ⟨gy, hy, ay⟩, ⟨gm, hm, am⟩, ⟨gh, hh, ah⟩, ⟨gl, hl, al⟩, ⟨gw, hw, aw⟩, ⟨ga, ha0, aa⟩, ⟨gi, hi, ai⟩, ⟨gj, hj0, aj⟩, ⟨gf, hf0, af⟩⟩ := id hP
  have hn6 : N_n N ≤ 6 := ok.1
  have hns : N_ns N ≤ 4 := ok.2.2.2.2.2.2.2.2.1
  have hw6 := ok.w6
  have aw : ∀ k, k < N_n N → gw k = nI (N_w N / 2 ^ k % 2) := aw
  have bx := ok.2.2.2.2.2.1
  have bi := ok.2.2.2.2.2.2.2.2.2.1
  have hx9 := Tb.pr_ hn6 ht
  have hTT := (TT_le hn6).1
  have loop : ∀ kf j, j + kf = N_n N → ab_W Y_M_isPairs none l (fun r m2 h2 => r = some (.int (ab_bl (prs N (prm (N_n N) t) (N_n N)))) ∧ m2 = m ∧ h2 = h) 4 [some (.ref 56), some (.int (nI t)), some (.int (ab_bl (prs N (prm (N_n N) t) (j)))), some (.int (nI (j))), none] [] m (h) (0, 0) := by
    intro kf
    induction kf with
    | zero =>
      intro j hj 
      have hjn : N_n N = j := by omega
      subst hjn
      refine aw_iload_n d_M_isPairs_4 rfl ?_
      refine aw_aload_n d_M_isPairs_5 rfl ?_
      refine aw_get (k := 0) d_M_isPairs_6 cl_Model k_M_118 (by decide) hM rfl ?_
      refine aw_icmp_ge (tgt := 72) d_M_isPairs_9 (by decide) (fun c9 => ?_) (fun c9 => ?_)
      · refine aw_iload_n d_M_isPairs_72 rfl ?_
        refine aw_ireturn d_M_isPairs_73 rfl (ab_bl_nar _) ?_
        exact ⟨rfl, rfl, rfl⟩
      · exact absurd (Int32.le_refl _) c9
    | succ kf ih =>
      intro j hj 
      refine aw_iload_n d_M_isPairs_4 rfl ?_
      refine aw_aload_n d_M_isPairs_5 rfl ?_
      refine aw_get (k := 0) d_M_isPairs_6 cl_Model k_M_118 (by decide) hM rfl ?_
      refine aw_icmp_ge (tgt := 72) d_M_isPairs_9 (by decide) (fun c9 => ?_) (fun c9 => ?_)
      · exact absurd c9 (nI_ge (by omega) (by omega))
      · refine aw_aload_n d_M_isPairs_12 rfl ?_
        refine aw_get (k := 18) d_M_isPairs_13 cl_Model k_M_50 (by decide) hM rfl ?_
        refine aw_bipush (v := nI 6) d_M_isPairs_16 (by decide) ?_
        refine aw_iload_n d_M_isPairs_18 rfl ?_
        refine aw_imul d_M_isPairs_19 ?_
        refine aw_iload_n d_M_isPairs_20 rfl ?_
        refine aw_iadd d_M_isPairs_21 ?_
        rw [pk_mul, nI_add]
        refine aw_ialoadN d_M_isPairs_22 h68 (by omega) (by decide) ?_
        have xj := hx9.1.in hn6 hx9.2 (show j < N_n N by omega)
        rw [hly.row ht (show j < N_n N by omega)]
        refine aw_istore (L' := [some (.ref 56), some (.int (nI t)), some (.int (ab_bl (prs N (prm (N_n N) t) (j)))), some (.int (nI (j))), some (.int (nI ((prm (N_n N) t) j)))]) d_M_isPairs_23 ⟨by decide, rfl⟩ rfl ?_
        refine aw_iload_n d_M_isPairs_25 rfl ?_
        refine aw_if_eq (tgt := 64) d_M_isPairs_26 (by decide) (fun c26 => ?_) (fun c26 => ?_)
        · refine aw_iconst (v := nI 0) d_M_isPairs_64 (by decide) ?_
          refine aw_istore_n (L' := [some (.ref 56), some (.int (nI t)), some (.int (nI 0)), some (.int (nI (j))), some (.int (nI ((prm (N_n N) t) j)))]) d_M_isPairs_65 ⟨by decide, rfl⟩ rfl ?_
          refine aw_iinc (v := nI ((j) + 1)) (L' := [some (.ref 56), some (.int (nI t)), some (.int (nI 0)), some (.int (nI ((j) + 1))), some (.int (nI ((prm (N_n N) t) j)))]) d_M_isPairs_66 rfl (nI_1 _) ⟨by decide, rfl⟩ rfl ?_
          refine aw_goto (tgt := 4) d_M_isPairs_69 (by decide) ?_
          have e : prs N (prm (N_n N) t) (j + 1) = (prs N (prm (N_n N) t) j && prb N (prm (N_n N) t) j) := rfl
          have xx := hx9.1.1 j (by omega)
          have xx2 := hx9.1.1 _ xx
          first
            | (rw [ab_bl_0.mp c26, Bool.false_and] at e
               rw [show nI 0 = ab_bl (prs N (prm (N_n N) t) (j + 1)) by rw [e]; rfl]
               exact aw_drop 4 (ih (j + 1) (by omega)))
            | (have eb : prb N (prm (N_n N) t) j = false := by
                 unfold prb
                 rw [decide_eq_false (fun z => c42 (by rw [z]))]; rfl
               rw [eb, Bool.and_false] at e
               rw [show nI 0 = ab_bl (prs N (prm (N_n N) t) (j + 1)) by rw [e]; rfl]
               exact aw_drop 4 (ih (j + 1) (by omega)))
            | (have eb : prb N (prm (N_n N) t) j = true := by
                 unfold prb
                 rw [decide_eq_true ((nI_eq (by omega) (by omega)).mp c42), decide_eq_true ((nI_eq (by omega) (by omega)).mp c48)]; rfl
               rw [eb, ab_bl_1.mp c26, Bool.and_true] at e
               rw [show nI 1 = ab_bl (prs N (prm (N_n N) t) (j + 1)) by rw [e]; rfl]
               exact aw_drop 4 (ih (j + 1) (by omega)))
            | (have eb : prb N (prm (N_n N) t) j = false := by
                 unfold prb
                 rw [decide_eq_false (show ¬ (prm (N_n N) t) j = j from fun z => c48 (by rw [z])), decide_eq_true (b_nz.mp c57)]
                 simp
               rw [eb, Bool.and_false] at e
               rw [show nI 0 = ab_bl (prs N (prm (N_n N) t) (j + 1)) by rw [e]; rfl]
               exact aw_drop 4 (ih (j + 1) (by omega)))
            | (have eb : prb N (prm (N_n N) t) j = true := by
                 unfold prb
                 rw [decide_eq_true ((nI_eq (by omega) (by omega)).mp c42), decide_eq_false (b_z.mp c57)]
                 simp
               rw [eb, ab_bl_1.mp c26, Bool.and_true] at e
               rw [show nI 1 = ab_bl (prs N (prm (N_n N) t) (j + 1)) by rw [e]; rfl]
               exact aw_drop 4 (ih (j + 1) (by omega)))
        · refine aw_aload_n d_M_isPairs_29 rfl ?_
          refine aw_get (k := 18) d_M_isPairs_30 cl_Model k_M_50 (by decide) hM rfl ?_
          refine aw_bipush (v := nI 6) d_M_isPairs_33 (by decide) ?_
          refine aw_iload_n d_M_isPairs_35 rfl ?_
          refine aw_imul d_M_isPairs_36 ?_
          refine aw_iload d_M_isPairs_37 rfl ?_
          refine aw_iadd d_M_isPairs_39 ?_
          rw [pk_mul, nI_add]
          refine aw_ialoadN d_M_isPairs_40 h68 (by omega) (by decide) ?_
          rw [hly.row ht xj]
          refine aw_iload_n d_M_isPairs_41 rfl ?_
          refine aw_icmp_ne (tgt := 64) d_M_isPairs_42 (by decide) (fun c42 => ?_) (fun c42 => ?_)
          · refine aw_iconst (v := nI 0) d_M_isPairs_64 (by decide) ?_
            refine aw_istore_n (L' := [some (.ref 56), some (.int (nI t)), some (.int (nI 0)), some (.int (nI (j))), some (.int (nI ((prm (N_n N) t) j)))]) d_M_isPairs_65 ⟨by decide, rfl⟩ rfl ?_
            refine aw_iinc (v := nI ((j) + 1)) (L' := [some (.ref 56), some (.int (nI t)), some (.int (nI 0)), some (.int (nI ((j) + 1))), some (.int (nI ((prm (N_n N) t) j)))]) d_M_isPairs_66 rfl (nI_1 _) ⟨by decide, rfl⟩ rfl ?_
            refine aw_goto (tgt := 4) d_M_isPairs_69 (by decide) ?_
            have e : prs N (prm (N_n N) t) (j + 1) = (prs N (prm (N_n N) t) j && prb N (prm (N_n N) t) j) := rfl
            have xx := hx9.1.1 j (by omega)
            have xx2 := hx9.1.1 _ xx
            first
              | (rw [ab_bl_0.mp c26, Bool.false_and] at e
                 rw [show nI 0 = ab_bl (prs N (prm (N_n N) t) (j + 1)) by rw [e]; rfl]
                 exact aw_drop 4 (ih (j + 1) (by omega)))
              | (have eb : prb N (prm (N_n N) t) j = false := by
                   unfold prb
                   rw [decide_eq_false (fun z => c42 (by rw [z]))]; rfl
                 rw [eb, Bool.and_false] at e
                 rw [show nI 0 = ab_bl (prs N (prm (N_n N) t) (j + 1)) by rw [e]; rfl]
                 exact aw_drop 4 (ih (j + 1) (by omega)))
              | (have eb : prb N (prm (N_n N) t) j = true := by
                   unfold prb
                   rw [decide_eq_true ((nI_eq (by omega) (by omega)).mp c42), decide_eq_true ((nI_eq (by omega) (by omega)).mp c48)]; rfl
                 rw [eb, ab_bl_1.mp c26, Bool.and_true] at e
                 rw [show nI 1 = ab_bl (prs N (prm (N_n N) t) (j + 1)) by rw [e]; rfl]
                 exact aw_drop 4 (ih (j + 1) (by omega)))
              | (have eb : prb N (prm (N_n N) t) j = false := by
                   unfold prb
                   rw [decide_eq_false (show ¬ (prm (N_n N) t) j = j from fun z => c48 (by rw [z])), decide_eq_true (b_nz.mp c57)]
                   simp
                 rw [eb, Bool.and_false] at e
                 rw [show nI 0 = ab_bl (prs N (prm (N_n N) t) (j + 1)) by rw [e]; rfl]
                 exact aw_drop 4 (ih (j + 1) (by omega)))
              | (have eb : prb N (prm (N_n N) t) j = true := by
                   unfold prb
                   rw [decide_eq_true ((nI_eq (by omega) (by omega)).mp c42), decide_eq_false (b_z.mp c57)]
                   simp
                 rw [eb, ab_bl_1.mp c26, Bool.and_true] at e
                 rw [show nI 1 = ab_bl (prs N (prm (N_n N) t) (j + 1)) by rw [e]; rfl]
                 exact aw_drop 4 (ih (j + 1) (by omega)))
          · refine aw_iload d_M_isPairs_45 rfl ?_
            refine aw_iload_n d_M_isPairs_47 rfl ?_
            refine aw_icmp_eq (tgt := 60) d_M_isPairs_48 (by decide) (fun c48 => ?_) (fun c48 => ?_)
            · refine aw_iconst (v := nI 1) d_M_isPairs_60 (by decide) ?_
              refine aw_goto (tgt := 65) d_M_isPairs_61 (by decide) ?_
              refine aw_istore_n (L' := [some (.ref 56), some (.int (nI t)), some (.int (nI 1)), some (.int (nI (j))), some (.int (nI ((prm (N_n N) t) j)))]) d_M_isPairs_65 ⟨by decide, rfl⟩ rfl ?_
              refine aw_iinc (v := nI ((j) + 1)) (L' := [some (.ref 56), some (.int (nI t)), some (.int (nI 1)), some (.int (nI ((j) + 1))), some (.int (nI ((prm (N_n N) t) j)))]) d_M_isPairs_66 rfl (nI_1 _) ⟨by decide, rfl⟩ rfl ?_
              refine aw_goto (tgt := 4) d_M_isPairs_69 (by decide) ?_
              have e : prs N (prm (N_n N) t) (j + 1) = (prs N (prm (N_n N) t) j && prb N (prm (N_n N) t) j) := rfl
              have xx := hx9.1.1 j (by omega)
              have xx2 := hx9.1.1 _ xx
              first
                | (rw [ab_bl_0.mp c26, Bool.false_and] at e
                   rw [show nI 0 = ab_bl (prs N (prm (N_n N) t) (j + 1)) by rw [e]; rfl]
                   exact aw_drop 4 (ih (j + 1) (by omega)))
                | (have eb : prb N (prm (N_n N) t) j = false := by
                     unfold prb
                     rw [decide_eq_false (fun z => c42 (by rw [z]))]; rfl
                   rw [eb, Bool.and_false] at e
                   rw [show nI 0 = ab_bl (prs N (prm (N_n N) t) (j + 1)) by rw [e]; rfl]
                   exact aw_drop 4 (ih (j + 1) (by omega)))
                | (have eb : prb N (prm (N_n N) t) j = true := by
                     unfold prb
                     rw [decide_eq_true ((nI_eq (by omega) (by omega)).mp c42), decide_eq_true ((nI_eq (by omega) (by omega)).mp c48)]; rfl
                   rw [eb, ab_bl_1.mp c26, Bool.and_true] at e
                   rw [show nI 1 = ab_bl (prs N (prm (N_n N) t) (j + 1)) by rw [e]; rfl]
                   exact aw_drop 4 (ih (j + 1) (by omega)))
                | (have eb : prb N (prm (N_n N) t) j = false := by
                     unfold prb
                     rw [decide_eq_false (show ¬ (prm (N_n N) t) j = j from fun z => c48 (by rw [z])), decide_eq_true (b_nz.mp c57)]
                     simp
                   rw [eb, Bool.and_false] at e
                   rw [show nI 0 = ab_bl (prs N (prm (N_n N) t) (j + 1)) by rw [e]; rfl]
                   exact aw_drop 4 (ih (j + 1) (by omega)))
                | (have eb : prb N (prm (N_n N) t) j = true := by
                     unfold prb
                     rw [decide_eq_true ((nI_eq (by omega) (by omega)).mp c42), decide_eq_false (b_z.mp c57)]
                     simp
                   rw [eb, ab_bl_1.mp c26, Bool.and_true] at e
                   rw [show nI 1 = ab_bl (prs N (prm (N_n N) t) (j + 1)) by rw [e]; rfl]
                   exact aw_drop 4 (ih (j + 1) (by omega)))
            · refine aw_aload_n d_M_isPairs_51 rfl ?_
              refine aw_get (k := 6) d_M_isPairs_52 cl_Model k_M_25 (by decide) hM rfl ?_
              refine aw_iload_n d_M_isPairs_55 rfl ?_
              refine aw_ialoadN d_M_isPairs_56 hw (by omega) (by decide) ?_
              rw [aw j (by omega)]
              refine aw_if_ne (tgt := 64) d_M_isPairs_57 (by decide) (fun c57 => ?_) (fun c57 => ?_)
              · refine aw_iconst (v := nI 0) d_M_isPairs_64 (by decide) ?_
                refine aw_istore_n (L' := [some (.ref 56), some (.int (nI t)), some (.int (nI 0)), some (.int (nI (j))), some (.int (nI ((prm (N_n N) t) j)))]) d_M_isPairs_65 ⟨by decide, rfl⟩ rfl ?_
                refine aw_iinc (v := nI ((j) + 1)) (L' := [some (.ref 56), some (.int (nI t)), some (.int (nI 0)), some (.int (nI ((j) + 1))), some (.int (nI ((prm (N_n N) t) j)))]) d_M_isPairs_66 rfl (nI_1 _) ⟨by decide, rfl⟩ rfl ?_
                refine aw_goto (tgt := 4) d_M_isPairs_69 (by decide) ?_
                have e : prs N (prm (N_n N) t) (j + 1) = (prs N (prm (N_n N) t) j && prb N (prm (N_n N) t) j) := rfl
                have xx := hx9.1.1 j (by omega)
                have xx2 := hx9.1.1 _ xx
                first
                  | (rw [ab_bl_0.mp c26, Bool.false_and] at e
                     rw [show nI 0 = ab_bl (prs N (prm (N_n N) t) (j + 1)) by rw [e]; rfl]
                     exact aw_drop 4 (ih (j + 1) (by omega)))
                  | (have eb : prb N (prm (N_n N) t) j = false := by
                       unfold prb
                       rw [decide_eq_false (fun z => c42 (by rw [z]))]; rfl
                     rw [eb, Bool.and_false] at e
                     rw [show nI 0 = ab_bl (prs N (prm (N_n N) t) (j + 1)) by rw [e]; rfl]
                     exact aw_drop 4 (ih (j + 1) (by omega)))
                  | (have eb : prb N (prm (N_n N) t) j = true := by
                       unfold prb
                       rw [decide_eq_true ((nI_eq (by omega) (by omega)).mp c42), decide_eq_true ((nI_eq (by omega) (by omega)).mp c48)]; rfl
                     rw [eb, ab_bl_1.mp c26, Bool.and_true] at e
                     rw [show nI 1 = ab_bl (prs N (prm (N_n N) t) (j + 1)) by rw [e]; rfl]
                     exact aw_drop 4 (ih (j + 1) (by omega)))
                  | (have eb : prb N (prm (N_n N) t) j = false := by
                       unfold prb
                       rw [decide_eq_false (show ¬ (prm (N_n N) t) j = j from fun z => c48 (by rw [z])), decide_eq_true (b_nz.mp c57)]
                       simp
                     rw [eb, Bool.and_false] at e
                     rw [show nI 0 = ab_bl (prs N (prm (N_n N) t) (j + 1)) by rw [e]; rfl]
                     exact aw_drop 4 (ih (j + 1) (by omega)))
                  | (have eb : prb N (prm (N_n N) t) j = true := by
                       unfold prb
                       rw [decide_eq_true ((nI_eq (by omega) (by omega)).mp c42), decide_eq_false (b_z.mp c57)]
                       simp
                     rw [eb, ab_bl_1.mp c26, Bool.and_true] at e
                     rw [show nI 1 = ab_bl (prs N (prm (N_n N) t) (j + 1)) by rw [e]; rfl]
                     exact aw_drop 4 (ih (j + 1) (by omega)))
              · refine aw_iconst (v := nI 1) d_M_isPairs_60 (by decide) ?_
                refine aw_goto (tgt := 65) d_M_isPairs_61 (by decide) ?_
                refine aw_istore_n (L' := [some (.ref 56), some (.int (nI t)), some (.int (nI 1)), some (.int (nI (j))), some (.int (nI ((prm (N_n N) t) j)))]) d_M_isPairs_65 ⟨by decide, rfl⟩ rfl ?_
                refine aw_iinc (v := nI ((j) + 1)) (L' := [some (.ref 56), some (.int (nI t)), some (.int (nI 1)), some (.int (nI ((j) + 1))), some (.int (nI ((prm (N_n N) t) j)))]) d_M_isPairs_66 rfl (nI_1 _) ⟨by decide, rfl⟩ rfl ?_
                refine aw_goto (tgt := 4) d_M_isPairs_69 (by decide) ?_
                have e : prs N (prm (N_n N) t) (j + 1) = (prs N (prm (N_n N) t) j && prb N (prm (N_n N) t) j) := rfl
                have xx := hx9.1.1 j (by omega)
                have xx2 := hx9.1.1 _ xx
                first
                  | (rw [ab_bl_0.mp c26, Bool.false_and] at e
                     rw [show nI 0 = ab_bl (prs N (prm (N_n N) t) (j + 1)) by rw [e]; rfl]
                     exact aw_drop 4 (ih (j + 1) (by omega)))
                  | (have eb : prb N (prm (N_n N) t) j = false := by
                       unfold prb
                       rw [decide_eq_false (fun z => c42 (by rw [z]))]; rfl
                     rw [eb, Bool.and_false] at e
                     rw [show nI 0 = ab_bl (prs N (prm (N_n N) t) (j + 1)) by rw [e]; rfl]
                     exact aw_drop 4 (ih (j + 1) (by omega)))
                  | (have eb : prb N (prm (N_n N) t) j = true := by
                       unfold prb
                       rw [decide_eq_true ((nI_eq (by omega) (by omega)).mp c42), decide_eq_true ((nI_eq (by omega) (by omega)).mp c48)]; rfl
                     rw [eb, ab_bl_1.mp c26, Bool.and_true] at e
                     rw [show nI 1 = ab_bl (prs N (prm (N_n N) t) (j + 1)) by rw [e]; rfl]
                     exact aw_drop 4 (ih (j + 1) (by omega)))
                  | (have eb : prb N (prm (N_n N) t) j = false := by
                       unfold prb
                       rw [decide_eq_false (show ¬ (prm (N_n N) t) j = j from fun z => c48 (by rw [z])), decide_eq_true (b_nz.mp c57)]
                       simp
                     rw [eb, Bool.and_false] at e
                     rw [show nI 0 = ab_bl (prs N (prm (N_n N) t) (j + 1)) by rw [e]; rfl]
                     exact aw_drop 4 (ih (j + 1) (by omega)))
                  | (have eb : prb N (prm (N_n N) t) j = true := by
                       unfold prb
                       rw [decide_eq_true ((nI_eq (by omega) (by omega)).mp c42), decide_eq_false (b_z.mp c57)]
                       simp
                     rw [eb, ab_bl_1.mp c26, Bool.and_true] at e
                     rw [show nI 1 = ab_bl (prs N (prm (N_n N) t) (j + 1)) by rw [e]; rfl]
                     exact aw_drop 4 (ih (j + 1) (by omega)))
  refine aw_iconst (v := nI 1) d_M_isPairs_0 (by decide) ?_
  refine aw_istore_n (L' := [some (.ref 56), some (.int (nI t)), some (.int (nI 1)), none, none]) d_M_isPairs_1 ⟨by decide, rfl⟩ rfl ?_
  refine aw_iconst (v := nI 0) d_M_isPairs_2 (by decide) ?_
  refine aw_istore_n (L' := [some (.ref 56), some (.int (nI t)), some (.int (nI 1)), some (.int (nI 0)), none]) d_M_isPairs_3 ⟨by decide, rfl⟩ rfl ?_
  exact loop (N_n N) 0 (by omega)
theorem c_pairMiles {m : Nat} {h : ab_H} {N : NS} {me mi ve la : Int32} {tl : Nat} {at_ wr : Int32} {fe : Nat} {kp : Bool} (hM : h 56 = oM (N_n N) (N_ns N) (N_ra N) (N_se N) me mi (nI (TT (N_n N))) ve la tl at_ wr fe kp) (hP : PMn h N) (ok : N_ok N) {g2 g3 : Nat → Int32} (h68 : h 68 = .inl (4320, g2)) (hly : LY (N_n N) (6 ^ N_n N) g2 g3) {t : Nat} (ht : t < TT (N_n N)) : ab_D Y_M_pairMiles [.ref 56, .int (nI t)] m h (some (.int (nI (mls (fr N) (N_n N) (prm (N_n N) t))))) m (h) := by
  refine ab_C.of (L := [some (.ref 56), some (.int (nI t)), none, none]) rfl rfl (Nat.le_of_ble_eq_true rfl) (fun l => ?_)
  obtain ⟨⟨gx, hx, ax⟩, ⟨gy, hy, ay⟩, ⟨gm, hm, am⟩, ⟨gh, hh, ah⟩, ⟨gl, hl, al⟩, ⟨gw, hw, aw⟩, ⟨ga, ha0, aa⟩, ⟨gi, hi, ai⟩, ⟨gj, hj0, aj⟩, ⟨gf, hf0, af⟩⟩ := id hP
  have hn6 : N_n N ≤ 6 := ok.1
  have hns : N_ns N ≤ 4 := ok.2.2.2.2.2.2.2.2.1
  have hw6 := ok.w6
  have aw : ∀ k, k < N_n N → gw k = nI (N_w N / 2 ^ k % 2) := aw
  have bx := ok.2.2.2.2.2.1
  have bi := ok.2.2.2.2.2.2.2.2.2.1
  have hx9 := Tb.pr_ hn6 ht
  have hTT := (TT_le hn6).1
  have loop : ∀ kf j, j + kf = N_n N → ab_W Y_M_pairMiles none l (fun r m2 h2 => r = some (.int (nI (mls (fr N) (N_n N) (prm (N_n N) t)))) ∧ m2 = m ∧ h2 = h) 4 [some (.ref 56), some (.int (nI t)), some (.int (nI (mls (fr N) (j) (prm (N_n N) t)))), some (.int (nI (j)))] [] m (h) (0, 0) := by
    intro kf
    induction kf with
    | zero =>
      intro j hj 
      have hjn : N_n N = j := by omega
      subst hjn
      refine aw_iload_n d_M_pairMiles_4 rfl ?_
      refine aw_aload_n d_M_pairMiles_5 rfl ?_
      refine aw_get (k := 0) d_M_pairMiles_6 cl_Model k_M_118 (by decide) hM rfl ?_
      refine aw_icmp_ge (tgt := 37) d_M_pairMiles_9 (by decide) (fun c9 => ?_) (fun c9 => ?_)
      · refine aw_iload_n d_M_pairMiles_37 rfl ?_
        refine aw_ireturn d_M_pairMiles_38 rfl rfl ?_
        exact ⟨rfl, rfl, rfl⟩
      · exact absurd (Int32.le_refl _) c9
    | succ kf ih =>
      intro j hj 
      refine aw_iload_n d_M_pairMiles_4 rfl ?_
      refine aw_aload_n d_M_pairMiles_5 rfl ?_
      refine aw_get (k := 0) d_M_pairMiles_6 cl_Model k_M_118 (by decide) hM rfl ?_
      refine aw_icmp_ge (tgt := 37) d_M_pairMiles_9 (by decide) (fun c9 => ?_) (fun c9 => ?_)
      · exact absurd c9 (nI_ge (by omega) (by omega))
      · refine aw_iload_n d_M_pairMiles_12 rfl ?_
        refine aw_aload_n d_M_pairMiles_13 rfl ?_
        refine aw_iload_n d_M_pairMiles_14 rfl ?_
        refine aw_aload_n d_M_pairMiles_15 rfl ?_
        refine aw_get (k := 18) d_M_pairMiles_16 cl_Model k_M_50 (by decide) hM rfl ?_
        refine aw_bipush (v := nI 6) d_M_pairMiles_19 (by decide) ?_
        refine aw_iload_n d_M_pairMiles_21 rfl ?_
        refine aw_imul d_M_pairMiles_22 ?_
        refine aw_iload_n d_M_pairMiles_23 rfl ?_
        refine aw_iadd d_M_pairMiles_24 ?_
        rw [pk_mul, nI_add]
        refine aw_ialoadN d_M_pairMiles_25 h68 (by omega) (by decide) ?_
        rw [hly.row ht (show j < N_n N by omega)]
        refine aw_v0i (a := 56) d_M_pairMiles_26 k_M_196 ok_M_far rfl ⟨rfl, rfl⟩ cl_Model hM (c_Mfar hM hP ok (show j < 6 by omega) (hx9.1.1 j (by omega))) rfl rfl (Nat.le_of_ble_eq_true rfl) ?_
        refine aw_iadd d_M_pairMiles_29 ?_
        refine aw_topi (fun v30 ev30 => ?_)
        refine aw_istore_n (L' := [some (.ref 56), some (.int (nI t)), some (.int v30), some (.int (nI (j)))]) d_M_pairMiles_30 ⟨by decide, rfl⟩ rfl ?_
        refine aw_iinc (v := nI ((j) + 1)) (L' := [some (.ref 56), some (.int (nI t)), some (.int v30), some (.int (nI ((j) + 1)))]) d_M_pairMiles_31 rfl (nI_1 _) ⟨by decide, rfl⟩ rfl ?_
        refine aw_goto (tgt := 4) d_M_pairMiles_34 (by decide) ?_
        rw [show v30 = nI (mls (fr N) (j + 1) (prm (N_n N) t)) by rw [ev30, nI_add]; rfl]
        exact ih (j + 1) (by omega)
  refine aw_iconst (v := nI 0) d_M_pairMiles_0 (by decide) ?_
  refine aw_istore_n (L' := [some (.ref 56), some (.int (nI t)), some (.int (nI 0)), none]) d_M_pairMiles_1 ⟨by decide, rfl⟩ rfl ?_
  refine aw_iconst (v := nI 0) d_M_pairMiles_2 (by decide) ?_
  refine aw_istore_n (L' := [some (.ref 56), some (.int (nI t)), some (.int (nI 0)), some (.int (nI 0))]) d_M_pairMiles_3 ⟨by decide, rfl⟩ rfl ?_
  exact loop (N_n N) 0 (by omega)
theorem c_changes {m : Nat} {h : ab_H} {N : NS} {me mi ve la : Int32} {tl : Nat} {at_ wr : Int32} {fe : Nat} {kp : Bool} (hM : h 56 = oM (N_n N) (N_ns N) (N_ra N) (N_se N) me mi (nI (TT (N_n N))) ve la tl at_ wr fe kp) (ok : N_ok N) {g2 g3 : Nat → Int32} (h68 : h 68 = .inl (4320, g2)) (hly : LY (N_n N) (6 ^ N_n N) g2 g3) {t : Nat} (ht : t < TT (N_n N)) {A B : Nat} {g gb : Nat → Int32} (hA : h A = .inl (6, g)) (hB : h B = .inl (6, gb)) (hAB : A ≠ B) (hB5 : B ≠ 56) (hB6 : B ≠ 68) {y : Nat → Nat} (hg : ∀ k, k < N_n N → g k = nI (y k)) : ab_C Y_M_changes [.ref 56, .int (nI t), .ref A, .ref B] m h (fun r m2 h2 => r = none ∧ m2 = m ∧ ∃ gb : Nat → Int32, h2 = ab_set h B (.inl (6, gb)) ∧ ∀ k, k < N_n N → gb k = nI (y ((prm (N_n N) t) k))) := by
  have hn6 := ok.1
  have hx9 := Tb.pr_ hn6 ht
  have hTT := (TT_le hn6).1
  refine ab_C.of (L := [some (.ref 56), some (.int (nI t)), some (.ref A), some (.ref B), none]) rfl rfl (Nat.le_of_ble_eq_true rfl) (fun l => ?_)
  have loop : ∀ kf j (gb : Nat → Int32), j + kf = N_n N → (∀ k, k < j → gb k = nI (y ((prm (N_n N) t) k))) → ab_W Y_M_changes none l (fun r m2 h2 => r = none ∧ m2 = m ∧ ∃ gb : Nat → Int32, h2 = ab_set h B (.inl (6, gb)) ∧ ∀ k, k < N_n N → gb k = nI (y ((prm (N_n N) t) k))) 3 [some (.ref 56), some (.int (nI t)), some (.ref A), some (.ref B), some (.int (nI (j)))] [] m (ab_set h B (.inl (6, gb))) (0, 0) := by
    intro kf
    induction kf with
    | zero =>
      intro j gb hj e0
      have hjn : N_n N = j := by omega
      subst hjn
      refine aw_iload d_M_changes_3 rfl ?_
      refine aw_aload_n d_M_changes_5 rfl ?_
      refine aw_get (k := 0) d_M_changes_6 cl_Model k_M_118 (by decide) ((ab_set_ne (Ne.symm hB5)).trans hM) rfl ?_
      refine aw_icmp_ge (tgt := 36) d_M_changes_9 (by decide) (fun c9 => ?_) (fun c9 => ?_)
      · refine aw_return d_M_changes_36 rfl ?_
        exact ⟨rfl, rfl, gb, rfl, e0⟩
      · exact absurd (Int32.le_refl _) c9
    | succ kf ih =>
      intro j gb hj e0
      refine aw_iload d_M_changes_3 rfl ?_
      refine aw_aload_n d_M_changes_5 rfl ?_
      refine aw_get (k := 0) d_M_changes_6 cl_Model k_M_118 (by decide) ((ab_set_ne (Ne.symm hB5)).trans hM) rfl ?_
      refine aw_icmp_ge (tgt := 36) d_M_changes_9 (by decide) (fun c9 => ?_) (fun c9 => ?_)
      · exact absurd c9 (nI_ge (by omega) (by omega))
      · refine aw_aload_n d_M_changes_12 rfl ?_
        refine aw_iload d_M_changes_13 rfl ?_
        refine aw_aload_n d_M_changes_15 rfl ?_
        refine aw_aload_n d_M_changes_16 rfl ?_
        refine aw_get (k := 18) d_M_changes_17 cl_Model k_M_50 (by decide) ((ab_set_ne (Ne.symm hB5)).trans hM) rfl ?_
        refine aw_bipush (v := nI 6) d_M_changes_20 (by decide) ?_
        refine aw_iload_n d_M_changes_22 rfl ?_
        refine aw_imul d_M_changes_23 ?_
        refine aw_iload d_M_changes_24 rfl ?_
        refine aw_iadd d_M_changes_26 ?_
        rw [pk_mul, nI_add]
        refine aw_ialoadN d_M_changes_27 ((ab_set_ne (Ne.symm hB6)).trans h68) (by omega) (by decide) ?_
        have xj := hx9.1.in hn6 hx9.2 (show j < N_n N by omega)
        rw [hly.row ht (show j < N_n N by omega)]
        refine aw_ialoadN d_M_changes_28 ((ab_set_ne hAB).trans hA) (by omega) (by decide) ?_
        rw [hg _ xj]
        refine aw_iastoreN d_M_changes_29 (ab_set_self h B _) (by omega) (by decide) ?_
        refine aw_iinc (v := nI ((j) + 1)) (L' := [some (.ref 56), some (.int (nI t)), some (.ref A), some (.ref B), some (.int (nI ((j) + 1)))]) d_M_changes_30 rfl (nI_1 _) ⟨by decide, rfl⟩ rfl ?_
        refine aw_goto (tgt := 3) d_M_changes_33 (by decide) ?_
        rw [ab_set_set]
        exact ih (j + 1) _ (by omega) (fun k hk => by
          by_cases e : k = j
          · subst e; exact pk_us
          · rw [pk_un e]; exact e0 k (by omega))
  refine aw_iconst (v := nI 0) d_M_changes_0 (by decide) ?_
  refine aw_istore (L' := [some (.ref 56), some (.int (nI t)), some (.ref A), some (.ref B), some (.int (nI 0))]) d_M_changes_1 ⟨by decide, rfl⟩ rfl ?_
  exact aw_heap (ab_set_eq (h := h) (a := B) hB) (loop (N_n N) 0 gb (by omega) (fun k hk => absurd hk (Nat.not_lt_zero _)))
