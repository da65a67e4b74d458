/-- the reference's rows that nothing is kept in -/
def scr (k : Nat) : Prop := (66 ≤ k ∧ k ≤ 72) ∨ k = 75 ∨ k = 77 ∨ k = 78 ∨ (80 ≤ k ∧ k ≤ 83)
theorem PMn.sc {h h2 : ab_H} {N : NS} (p : PMn h N) (q : ∀ k, 57 ≤ k → k ≤ 88 → ¬ scr k → h2 k = h k) : PMn h2 N := by
  obtain ⟨n0, n1, n2, n3, n4, n5, n6, n7, n8, n9⟩ := p
  unfold scr at q
  unfold rw_ rp_ at *
  refine ⟨?_, ?_, ?_, ?_, ?_, ?_, ?_, ?_, ?_, ?_⟩
  · unfold rw_; rw [q 57 (by omega) (by omega) (by omega)]; exact n0
  · unfold rw_; rw [q 58 (by omega) (by omega) (by omega)]; exact n1
  · unfold rw_; rw [q 59 (by omega) (by omega) (by omega)]; exact n2
  · unfold rp_; rw [q 60 (by omega) (by omega) (by omega)]; exact n3
  · unfold rw_; rw [q 61 (by omega) (by omega) (by omega)]; exact n4
  · unfold rp_; rw [q 62 (by omega) (by omega) (by omega)]; exact n5
  · unfold rp_; rw [q 63 (by omega) (by omega) (by omega)]; exact n6
  · unfold rw_; rw [q 64 (by omega) (by omega) (by omega)]; exact n7
  · unfold rw_; rw [q 65 (by omega) (by omega) (by omega)]; exact n8
  · unfold rw_; rw [q 79 (by omega) (by omega) (by omega)]; exact n9
theorem PM.sc {V : VV} {c : Nat} {h h2 : ab_H} {S : SS} (p : PM V c h S) (hc : c < 900) (e : ∀ (n ns ra se : Nat) (me mi tab ve la : Int32) (tl : Nat) (at_ wr : Int32) (fe : Nat) (kp : Bool), h 56 = oM n ns ra se me mi tab ve la tl at_ wr fe kp → ∃ tab2, h2 56 = oM n ns ra se me mi tab2 ve la tl at_ wr fe kp) (q : ∀ k, 57 ≤ k → k ≤ 88 → ¬ scr k → h2 k = h k) (r : PMr h2) : PM V (c + 1) h2 S := by
  obtain ⟨⟨tab, la, at_, wr, ve, fs, ft, m0, m1, m2, m3, m4, m5, m6⟩, n, q1, q2, q3, q4⟩ := p
  obtain ⟨tab2, e2⟩ := e _ _ _ _ _ _ _ _ _ _ _ _ _ _ m0
  have n' := n.sc q
  unfold scr at q
  refine ⟨⟨tab2, la, at_, wr, ve, fs, ft, e2, by omega, by omega, m3, (q 73 (by omega) (by omega) (by omega)).trans m4, (q 74 (by omega) (by omega) (by omega)).trans m5, m6⟩, n', ?_, ?_, r, ?_⟩
  · rw [q 76 (by omega) (by omega) (by omega)]; exact q1
  · unfold PMs at *
    unfold ra_ at *
    rw [q 85 (by omega) (by omega) (by omega), q 86 (by omega) (by omega) (by omega), q 87 (by omega) (by omega) (by omega), q 88 (by omega) (by omega) (by omega)]
    exact q2
  · rw [q 84 (by omega) (by omega) (by omega)]; exact q4
theorem PM.n {V : VV} {c : Nat} {h : ab_H} {S : SS} (p : PM V c h S) : PMn h (S_N S) := p.2.1
theorem y_trade {V : VV} {m c : Nat} {h : ab_H} {S : SS} (hM : PM V c h S) (ok : S_ok S) (hc : c < 900) (x : Int32) : CM V Y_M_trade [.int x] m c h (fun r S2 => (r, S2) = sp_trade S x) := by
  obtain ⟨⟨tab, la, at_, wr, ve, fs, ft, m0, m1, m2, m3, m4, m5, m6⟩, ⟨n0, n1, n2, n3, n4, n5, n6, n7, n8, n9⟩, q1, q2, q3, q4⟩ := id hM
  have hn6 : N_n (S_N S) ≤ 6 := ok.1.1
  have hnT := nI_toInt (show N_n (S_N S) < 2 ^ 31 by omega)
  obtain ⟨gp, hp⟩ := id q3.2.2.2.2.2.2.2.2.2.2.2.2.1
  obtain ⟨gq, hq⟩ := id q3.2.2.2.2.2.2.2.2.2.2.2.2.2
  refine ab_C.of (L := [some (.ref 56), some (.int x)]) rfl rfl (Nat.le_of_ble_eq_true rfl) (fun l => ?_)
  refine aw_aload_n d_M_trade_0 rfl ?_
  refine aw_iload_n d_M_trade_1 rfl ?_
  refine aw_v0i (a := 56) d_M_trade_2 k_M_140 ok_M_isPerson rfl ⟨rfl, rfl⟩ cl_Model m0 (c_M_isPerson m0 hn6 x) rfl rfl (Nat.le_of_ble_eq_true rfl) ?_
  refine aw_if_ne (tgt := 10) d_M_trade_5 (by decide) (fun c5 => ?_) (fun c5 => ?_)
  · have irs := of_decide_eq_true (ab_bl_1.mp c5)
    obtain ⟨j, hj, rfl⟩ := irN irs
    refine aw_aload_n d_M_trade_10 rfl ?_
    refine aw_v0 (a := 56) d_M_trade_11 k_M_325 ok_M_trades rfl ⟨rfl, rfl⟩ cl_Model m0 (c_trades (N := S_N S) m0 ⟨n0, n1, n2, n3, n4, n5, n6, n7, n8, n9⟩ ok.1 hp hq) rfl rfl (Nat.le_of_ble_eq_true rfl) (fun r m2 h2 q => ?_)
    obtain ⟨rfl, em, g8, g9, rfl, eg⟩ := q
    rw [em]
    show ab_W _ _ _ _ 14 _ [] _ _ _
    refine aw_aload_n d_M_trade_14 rfl ?_
    refine aw_get (k := 38) d_M_trade_15 cl_Model k_M_97 (by decide) m0 rfl ?_
    refine aw_iload_n d_M_trade_18 rfl ?_
    refine aw_ialoadN d_M_trade_19 rfl (by omega) (by decide) ?_
    refine aw_ireturn d_M_trade_20 rfl rfl ?_
    refine ⟨_, S, rfl, ?_, hM.sc hc (fun _ _ _ _ _ _ _ _ _ _ _ _ _ _ e => ⟨_, e⟩) (fun k h1 h2 h3 => ?_) ⟨q3.1, q3.2.1, q3.2.2.1, q3.2.2.2.1, q3.2.2.2.2.1, q3.2.2.2.2.2.1, q3.2.2.2.2.2.2.1, q3.2.2.2.2.2.2.2.1, q3.2.2.2.2.2.2.2.2.1, q3.2.2.2.2.2.2.2.2.2.1, q3.2.2.2.2.2.2.2.2.2.2.1, q3.2.2.2.2.2.2.2.2.2.2.2.1, ⟨g8, rfl⟩, ⟨g9, rfl⟩⟩, rfl, fun k hk => ?_⟩
    · unfold sp_trade
      rw [if_pos irs, cl_nI (by omega), eg j hj]
    · unfold scr at h3
      rw [ab_set_ne (by omega), ab_set_ne (by omega)]
    · rw [ab_set_ne (by omega), ab_set_ne (by omega)]
  · refine aw_iconst (v := (-1)) d_M_trade_8 (by decide) ?_
    refine aw_ireturn d_M_trade_9 rfl rfl ?_
    refine ⟨_, S, rfl, ?_, ⟨⟨tab, la, at_, wr, ve, fs, ft, m0, by omega, by omega, m3, m4, m5, m6⟩, ⟨n0, n1, n2, n3, n4, n5, n6, n7, n8, n9⟩, q1, q2, q3, q4⟩, rfl, fun k _ => rfl⟩
    unfold sp_trade
    rw [if_neg (of_decide_eq_false (ab_bl_0.mp c5))]
