theorem c_exchange {m : Nat} {h : ab_H} {kn : Bool} {gr su : Int32} (h50 : h 50 = oR kn gr su) {g : Nat → Int32} (h52 : h 52 = .inl (6, g)) {i j : Nat} (hi : i < 6) (hj : j < 6) : ab_D Y_Rail_exchange [.ref 50, .int (nI i), .int (nI j)] m h (none) m (ab_set h 52 (.inl (6, upd (upd g i (g j)) j (g i)))) := by
  refine ab_C.of (L := [some (.ref 50), some (.int (nI i)), some (.int (nI j)), none]) rfl rfl (Nat.le_of_ble_eq_true rfl) (fun l => ?_)
  refine aw_aload_n d_Rail_exchange_0 rfl ?_
  refine aw_get (k := 4) d_Rail_exchange_1 cl_Rail k_Rail_15 (by decide) h50 rfl ?_
  refine aw_iload_n d_Rail_exchange_4 rfl ?_
  refine aw_ialoadN d_Rail_exchange_5 h52 (by omega) (by decide) ?_
  refine aw_topi (fun v6 ev6 => ?_)
  refine aw_istore_n (L' := [some (.ref 50), some (.int (nI i)), some (.int (nI j)), some (.int v6)]) d_Rail_exchange_6 ⟨by decide, rfl⟩ rfl ?_
  refine aw_aload_n d_Rail_exchange_7 rfl ?_
  refine aw_get (k := 4) d_Rail_exchange_8 cl_Rail k_Rail_15 (by decide) h50 rfl ?_
  refine aw_iload_n d_Rail_exchange_11 rfl ?_
  refine aw_aload_n d_Rail_exchange_12 rfl ?_
  refine aw_get (k := 4) d_Rail_exchange_13 cl_Rail k_Rail_15 (by decide) h50 rfl ?_
  refine aw_iload_n d_Rail_exchange_16 rfl ?_
  refine aw_ialoadN d_Rail_exchange_17 h52 (by omega) (by decide) ?_
  refine aw_iastoreN d_Rail_exchange_18 h52 (by omega) (by decide) ?_
  refine aw_aload_n d_Rail_exchange_19 rfl ?_
  refine aw_get (k := 4) d_Rail_exchange_20 cl_Rail k_Rail_15 (by decide) h50 rfl ?_
  refine aw_iload_n d_Rail_exchange_23 rfl ?_
  refine aw_iload_n d_Rail_exchange_24 rfl ?_
  refine aw_iastoreN d_Rail_exchange_25 rfl (by omega) (by decide) ?_
  refine aw_return d_Rail_exchange_26 rfl ?_
  exact ⟨rfl, rfl, by rw [ab_set_set, ev6]⟩
theorem upd_sw {g : Nat → Int32} {x : Nat → Nat} (hg : ∀ k, k < 6 → g k = nI (x k)) {i j : Nat} (hi : i < 6) (hj : j < 6) : ∀ k, k < 6 → upd (upd g i (g j)) j (g i) k = nI (sw x i j k) := by
  intro k hk
  rw [sw_eq]
  show _ = nI (if k = i then x j else if k = j then x i else x k)
  by_cases e1 : k = j
  · subst e1
    rw [pk_us, hg i hi]
    by_cases e2 : k = i
    · subst e2; rw [if_pos rfl]
    · rw [if_neg e2, if_pos rfl]
  · rw [pk_un e1]
    by_cases e2 : k = i
    · subst e2; rw [pk_us, hg j hj, if_pos rfl]
    · rw [pk_un e2, hg k hk, if_neg e2, if_neg e1]
theorem c_goOn {m : Nat} {h : ab_H} {kn : Bool} {gr su : Int32} (h50 : h 50 = oR kn gr su) {n : Nat} (hn0 : 1 ≤ n) (hn : n ≤ 6) {x : Nat → Nat} (hx : Pm x) {g : Nat → Int32} (h52 : h 52 = .inl (6, g)) (hg : ∀ k, k < 6 → g k = nI (x k)) : ab_C Y_Rail_goOn [.ref 50, .int (nI n)] m h (fun r m2 h2 => m2 = m ∧ ((nxk x (n - 1) = 0 ∧ r = some (.int (nI 0)) ∧ h2 = h) ∨ (¬ nxk x (n - 1) = 0 ∧ r = some (.int (nI 1)) ∧ ∃ g2 : Nat → Int32, h2 = ab_set h 52 (.inl (6, g2)) ∧ ∀ k, k < 6 → g2 k = nI (nxt n x k)))) := by
  refine ab_C.of (L := [some (.ref 50), some (.int (nI n)), none, none, none, none]) rfl rfl (Nat.le_of_ble_eq_true rfl) (fun l => ?_)
  have c37 : ∀ (r : Nat), r + 1 ≤ n - 1 → r + 1 = nxk x (n - 1) → ab_W Y_Rail_goOn none l (fun r m2 h2 => m2 = m ∧ ((nxk x (n - 1) = 0 ∧ r = some (.int (nI 0)) ∧ h2 = h) ∨ (¬ nxk x (n - 1) = 0 ∧ r = some (.int (nI 1)) ∧ ∃ g2 : Nat → Int32, h2 = ab_set h 52 (.inl (6, g2)) ∧ ∀ k, k < 6 → g2 k = nI (nxt n x k)))) 37 [some (.ref 50), some (.int (nI n)), some (.int (nI r)), none, none, none] [] m h (0, 0) := by
    intro r hr hK
    have cont : ∀ (G : Nat), G < 6 → G = nxg x r (n - 1) → ab_W Y_Rail_goOn none l (fun r m2 h2 => m2 = m ∧ ((nxk x (n - 1) = 0 ∧ r = some (.int (nI 0)) ∧ h2 = h) ∨ (¬ nxk x (n - 1) = 0 ∧ r = some (.int (nI 1)) ∧ ∃ g2 : Nat → Int32, h2 = ab_set h 52 (.inl (6, g2)) ∧ ∀ k, k < 6 → g2 k = nI (nxt n x k)))) 69 [some (.ref 50), some (.int (nI n)), some (.int (nI r)), some (.int (nI G)), none, none] [] m h (0, 0) := by
      intro G hG eG
      have loop3 : ∀ (f : Nat) (y : Nat → Nat) (i j : Nat) (gg : Nat → Int32), j < n → j ≤ i + 2 * f → i < 7 → (∀ k, k < 6 → gg k = nI (y k)) → nxr f y i j = nxt n x → ab_W Y_Rail_goOn none l (fun r m2 h2 => m2 = m ∧ ((nxk x (n - 1) = 0 ∧ r = some (.int (nI 0)) ∧ h2 = h) ∨ (¬ nxk x (n - 1) = 0 ∧ r = some (.int (nI 1)) ∧ ∃ g2 : Nat → Int32, h2 = ab_set h 52 (.inl (6, g2)) ∧ ∀ k, k < 6 → g2 k = nI (nxt n x k)))) 85 [some (.ref 50), some (.int (nI n)), some (.int (nI r)), some (.int (nI G)), some (.int (nI i)), some (.int (nI j))] [] m (ab_set h 52 (.inl (6, gg))) (0, 0) := by
        intro f
        induction f with
        | zero =>
          intro y i j gg hj hij hi7 egg e
          refine aw_iload d_Rail_goOn_85 rfl ?_
          refine aw_iload d_Rail_goOn_87 rfl ?_
          refine aw_icmp_ge (tgt := 109) d_Rail_goOn_89 (by decide) (fun c89 => ?_) (fun c89 => ?_)
          · refine aw_iconst (v := nI 1) d_Rail_goOn_109 (by decide) ?_
            refine aw_ireturn d_Rail_goOn_110 rfl (by decide) ?_
            exact ⟨rfl, Or.inr ⟨by omega, rfl, gg, rfl, fun k hk => by rw [← e]; exact egg k hk⟩⟩
          · exact absurd (nI_le (by omega) (by omega)) c89
        | succ f ih3 =>
          intro y i j gg hj hij hi7 egg e
          by_cases q : i < j
          · have e : nxr f (sw y i j) (i + 1) (j - 1) = nxt n x := by rw [← e]; exact (if_pos q).symm
            refine aw_iload d_Rail_goOn_85 rfl ?_
            refine aw_iload d_Rail_goOn_87 rfl ?_
            refine aw_icmp_ge (tgt := 109) d_Rail_goOn_89 (by decide) (fun c89 => ?_) (fun c89 => ?_)
            · exact absurd c89 (nI_ge q (by omega))
            · refine aw_aload_n d_Rail_goOn_92 rfl ?_
              refine aw_iload d_Rail_goOn_93 rfl ?_
              refine aw_iload d_Rail_goOn_95 rfl ?_
              refine aw_v0v (a := 50) d_Rail_goOn_97 k_Rail_74 ok_Rail_exchange rfl ⟨rfl, rfl⟩ cl_Rail h50 (c_exchange (h := ab_set h 52 (.inl (6, gg))) h50 rfl (show i < 6 by omega) (show j < 6 by omega)) rfl rfl (Nat.le_of_ble_eq_true rfl) ?_
              refine aw_iinc (v := nI (i + 1)) (L' := [some (.ref 50), some (.int (nI n)), some (.int (nI r)), some (.int (nI G)), some (.int (nI (i + 1))), some (.int (nI j))]) d_Rail_goOn_100 rfl (nI_1 _) ⟨by decide, rfl⟩ rfl ?_
              obtain ⟨v103, ev103⟩ : ∃ z : Int32, z = nI j + Int32.ofInt (-1) := ⟨_, rfl⟩
              refine aw_iinc (v := v103) (L' := [some (.ref 50), some (.int (nI n)), some (.int (nI r)), some (.int (nI G)), some (.int (nI (i + 1))), some (.int v103)]) d_Rail_goOn_103 rfl ev103.symm ⟨by decide, rfl⟩ rfl ?_
              refine aw_goto (tgt := 85) d_Rail_goOn_106 (by decide) ?_
              rw [ab_set_set, ev103, nI_dec, show nI j - nI 1 = nI (j - 1) by rw [show j = (j - 1) + 1 by omega]; exact nI_pred _]
              exact ih3 _ (i + 1) (j - 1) _ (by omega) (by omega) (by omega) (upd_sw egg (by omega) (by omega)) e
          · have e : y = nxt n x := by rw [← e]; exact (if_neg q).symm
            refine aw_iload d_Rail_goOn_85 rfl ?_
            refine aw_iload d_Rail_goOn_87 rfl ?_
            refine aw_icmp_ge (tgt := 109) d_Rail_goOn_89 (by decide) (fun c89 => ?_) (fun c89 => ?_)
            · refine aw_iconst (v := nI 1) d_Rail_goOn_109 (by decide) ?_
              refine aw_ireturn d_Rail_goOn_110 rfl (by decide) ?_
              exact ⟨rfl, Or.inr ⟨by omega, rfl, gg, rfl, fun k hk => by rw [← e]; exact egg k hk⟩⟩
            · exact absurd (nI_le (by omega) (by omega)) c89
      refine aw_aload_n d_Rail_goOn_69 rfl ?_
      refine aw_iload_n d_Rail_goOn_70 rfl ?_
      refine aw_iload_n d_Rail_goOn_71 rfl ?_
      refine aw_v0v (a := 50) d_Rail_goOn_72 k_Rail_74 ok_Rail_exchange rfl ⟨rfl, rfl⟩ cl_Rail h50 (c_exchange h50 h52 (show r < 6 by omega) hG) rfl rfl (Nat.le_of_ble_eq_true rfl) ?_
      refine aw_iload_n d_Rail_goOn_75 rfl ?_
      refine aw_iconst (v := nI 1) d_Rail_goOn_76 (by decide) ?_
      refine aw_iadd d_Rail_goOn_77 ?_
      rw [nI_add]
      refine aw_istore (L' := [some (.ref 50), some (.int (nI n)), some (.int (nI r)), some (.int (nI G)), some (.int (nI (r + 1))), none]) d_Rail_goOn_78 ⟨by decide, rfl⟩ rfl ?_
      refine aw_iload_n d_Rail_goOn_80 rfl ?_
      refine aw_iconst (v := nI 1) d_Rail_goOn_81 (by decide) ?_
      refine aw_isub d_Rail_goOn_82 ?_
      rw [show nI n - nI 1 = nI (n - 1) by rw [show n = (n - 1) + 1 by omega]; exact nI_pred _]
      refine aw_istore (L' := [some (.ref 50), some (.int (nI n)), some (.int (nI r)), some (.int (nI G)), some (.int (nI (r + 1))), some (.int (nI (n - 1)))]) d_Rail_goOn_83 ⟨by decide, rfl⟩ rfl ?_
      refine loop3 3 (sw x r G) (r + 1) (n - 1) _ (by omega) (by omega) (by omega) (upd_sw hg (by omega) hG) ?_
      unfold nxt
      rw [← hK, eG]
      rfl
    have loop2 : ∀ (G : Nat), r + 1 ≤ G → G ≤ n - 1 → nxg x r G = nxg x r (n - 1) → ab_W Y_Rail_goOn none l (fun r m2 h2 => m2 = m ∧ ((nxk x (n - 1) = 0 ∧ r = some (.int (nI 0)) ∧ h2 = h) ∨ (¬ nxk x (n - 1) = 0 ∧ r = some (.int (nI 1)) ∧ ∃ g2 : Nat → Int32, h2 = ab_set h 52 (.inl (6, g2)) ∧ ∀ k, k < 6 → g2 k = nI (nxt n x k)))) 41 [some (.ref 50), some (.int (nI n)), some (.int (nI r)), some (.int (nI G)), none, none] [] m h (0, 0) := by
      intro G
      induction G with
      | zero => exact fun z => absurd z (by omega)
      | succ G ihg =>
        intro h1 h2 h3
        have xg := hx.1 (G + 1) (by omega)
        have xr := hx.1 r (by omega)
        refine aw_iload_n d_Rail_goOn_41 rfl ?_
        refine aw_iload_n d_Rail_goOn_42 rfl ?_
        refine aw_iconst (v := nI 1) d_Rail_goOn_43 (by decide) ?_
        refine aw_iadd d_Rail_goOn_44 ?_
        rw [nI_add]
        refine aw_icmp_le (tgt := 69) d_Rail_goOn_45 (by decide) (fun c45 => ?_) (fun c45 => ?_)
        · have h4 : G + 1 = nxg x r (n - 1) := by
            rw [← h3]
            unfold nxg
            rw [if_neg]
            intro z
            first
              | exact absurd ((nI_leI (by omega) (by omega)).mp c45) (by omega)
              | exact absurd ((nI_leI (by omega) (by omega)).mp c60) (by omega)
          exact cont (G + 1) (by omega) h4
        · refine aw_aload_n d_Rail_goOn_48 rfl ?_
          refine aw_get (k := 4) d_Rail_goOn_49 cl_Rail k_Rail_15 (by decide) h50 rfl ?_
          refine aw_iload_n d_Rail_goOn_52 rfl ?_
          refine aw_ialoadN d_Rail_goOn_53 h52 (by omega) (by decide) ?_
          rw [hg _ (by omega)]
          refine aw_aload_n d_Rail_goOn_54 rfl ?_
          refine aw_get (k := 4) d_Rail_goOn_55 cl_Rail k_Rail_15 (by decide) h50 rfl ?_
          refine aw_iload_n d_Rail_goOn_58 rfl ?_
          refine aw_ialoadN d_Rail_goOn_59 h52 (by omega) (by decide) ?_
          rw [hg _ (by omega)]
          refine aw_icmp_ge (tgt := 69) d_Rail_goOn_60 (by decide) (fun c60 => ?_) (fun c60 => ?_)
          · have h4 : G + 1 = nxg x r (n - 1) := by
              rw [← h3]
              unfold nxg
              rw [if_neg]
              intro z
              first
                | exact absurd ((nI_leI (by omega) (by omega)).mp c45) (by omega)
                | exact absurd ((nI_leI (by omega) (by omega)).mp c60) (by omega)
            exact cont (G + 1) (by omega) h4
          · obtain ⟨v63, ev63⟩ : ∃ z : Int32, z = nI (G + 1) + Int32.ofInt (-1) := ⟨_, rfl⟩
            refine aw_iinc (v := v63) (L' := [some (.ref 50), some (.int (nI n)), some (.int (nI r)), some (.int v63), none, none]) d_Rail_goOn_63 rfl ev63.symm ⟨by decide, rfl⟩ rfl ?_
            refine aw_goto (tgt := 41) d_Rail_goOn_66 (by decide) ?_
            have c45 : r + 1 < G + 1 := Nat.not_le.mp (fun z => c45 (nI_le z (by omega)))
            have c60 : x (G + 1) < x r := Nat.not_le.mp (fun z => c60 (nI_le z (by omega)))
            have e : nxg x r (G + 1) = nxg x r G := if_pos ⟨c45, c60⟩
            rw [ev63, nI_dec, show nI (G + 1) - nI 1 = nI G from nI_pred _]
            exact ihg (by omega) (by omega) (by rw [← h3, e])
    refine aw_iload_n d_Rail_goOn_37 rfl ?_
    refine aw_iconst (v := nI 1) d_Rail_goOn_38 (by decide) ?_
    refine aw_isub d_Rail_goOn_39 ?_
    rw [show nI n - nI 1 = nI (n - 1) by rw [show n = (n - 1) + 1 by omega]; exact nI_pred _]
    refine aw_istore_n (L' := [some (.ref 50), some (.int (nI n)), some (.int (nI r)), some (.int (nI (n - 1))), none, none]) d_Rail_goOn_40 ⟨by decide, rfl⟩ rfl ?_
    exact loop2 (n - 1) (by omega) (Nat.le_refl _) rfl
  have loop1 : ∀ (r : Nat), r ≤ n - 1 → nxk x r = nxk x (n - 1) → ab_W Y_Rail_goOn none l (fun r m2 h2 => m2 = m ∧ ((nxk x (n - 1) = 0 ∧ r = some (.int (nI 0)) ∧ h2 = h) ∨ (¬ nxk x (n - 1) = 0 ∧ r = some (.int (nI 1)) ∧ ∃ g2 : Nat → Int32, h2 = ab_set h 52 (.inl (6, g2)) ∧ ∀ k, k < 6 → g2 k = nI (nxt n x k)))) 4 [some (.ref 50), some (.int (nI n)), some (.int (nI r - nI 1)), none, none, none] [] m h (0, 0) := by
    intro r
    induction r with
    | zero =>
      intro h1 h2
      refine aw_iload_n d_Rail_goOn_4 rfl ?_
      refine aw_if_lt (tgt := 31) d_Rail_goOn_5 (by decide) (fun c5 => ?_) (fun c5 => ?_)
      · refine aw_iload_n d_Rail_goOn_31 rfl ?_
        refine aw_if_ge (tgt := 37) d_Rail_goOn_32 (by decide) (fun c32 => ?_) (fun c32 => ?_)
        · exact absurd c32 (by decide)
        · refine aw_iconst (v := nI 0) d_Rail_goOn_35 (by decide) ?_
          refine aw_ireturn d_Rail_goOn_36 rfl (by decide) ?_
          exact ⟨rfl, Or.inl ⟨by rw [← h2]; rfl, rfl, rfl⟩⟩
      · exact absurd nI_1lt c5
    | succ r ih =>
      intro h1 h2
      have xa := hx.1 (r + 1) (by omega)
      have xr := hx.1 r (by omega)
      rw [show nI (r + 1) - nI 1 = nI r from nI_pred r]
      refine aw_iload_n d_Rail_goOn_4 rfl ?_
      refine aw_if_lt (tgt := 31) d_Rail_goOn_5 (by decide) (fun c5 => ?_) (fun c5 => ?_)
      · exact absurd c5 (nI_n0 (by omega))
      · refine aw_aload_n d_Rail_goOn_8 rfl ?_
        refine aw_get (k := 4) d_Rail_goOn_9 cl_Rail k_Rail_15 (by decide) h50 rfl ?_
        refine aw_iload_n d_Rail_goOn_12 rfl ?_
        refine aw_ialoadN d_Rail_goOn_13 h52 (by omega) (by decide) ?_
        rw [hg r (by omega)]
        refine aw_aload_n d_Rail_goOn_14 rfl ?_
        refine aw_get (k := 4) d_Rail_goOn_15 cl_Rail k_Rail_15 (by decide) h50 rfl ?_
        refine aw_iload_n d_Rail_goOn_18 rfl ?_
        refine aw_iconst (v := nI 1) d_Rail_goOn_19 (by decide) ?_
        refine aw_iadd d_Rail_goOn_20 ?_
        rw [nI_add]
        refine aw_ialoadN d_Rail_goOn_21 h52 (by omega) (by decide) ?_
        rw [hg (r + 1) (by omega)]
        refine aw_icmp_le (tgt := 31) d_Rail_goOn_22 (by decide) (fun c22 => ?_) (fun c22 => ?_)
        · refine aw_iload_n d_Rail_goOn_31 rfl ?_
          refine aw_if_ge (tgt := 37) d_Rail_goOn_32 (by decide) (fun c32 => ?_) (fun c32 => ?_)
          · have e : nxk x (r + 1) = r + 1 := if_neg (by have := (nI_leI (by omega) (by omega)).mp c22; omega)
            exact c37 r (by omega) (by rw [← h2, e])
          · exact absurd (nI_pos' (by omega)) c32
        · obtain ⟨v25, ev25⟩ : ∃ z : Int32, z = nI r + Int32.ofInt (-1) := ⟨_, rfl⟩
          refine aw_iinc (v := v25) (L' := [some (.ref 50), some (.int (nI n)), some (.int v25), none, none, none]) d_Rail_goOn_25 rfl ev25.symm ⟨by decide, rfl⟩ rfl ?_
          refine aw_goto (tgt := 4) d_Rail_goOn_28 (by decide) ?_
          have e : nxk x (r + 1) = nxk x r := if_pos (Nat.not_le.mp (fun z => c22 (nI_le z (by omega))))
          rw [ev25, nI_dec]
          exact ih (by omega) (by rw [← h2, e])
  refine aw_iload_n d_Rail_goOn_0 rfl ?_
  refine aw_iconst (v := nI 2) d_Rail_goOn_1 (by decide) ?_
  refine aw_isub d_Rail_goOn_2 ?_
  refine aw_topi (fun v3 ev3 => ?_)
  refine aw_istore_n (L' := [some (.ref 50), some (.int (nI n)), some (.int v3), none, none, none]) d_Rail_goOn_3 ⟨by decide, rfl⟩ rfl ?_
  have e2 : nI n - nI 2 = nI (n - 1) - nI 1 := by
    apply Int32.toInt_inj.mp
    rw [pk_sub_toInt (by omega) (by decide), pk_sub_toInt (by omega) (by decide)]
    omega
  rw [ev3, e2]
  exact loop1 (n - 1) (Nat.le_refl _) rfl
theorem c_weigh {m : Nat} {h : ab_H} {kn : Bool} {gr su : Int32} (h50 : h 50 = oR kn gr su) {N : NS} (hX : NX h 2 N) (ok : N_ok N) {g1 g2 g3 : Nat → Int32} (h51 : h 51 = .inl (6, g1)) (h52 : h 52 = .inl (6, g2)) (h53 : h 53 = .inl (6, g3)) {x : Nat → Nat} (hx0 : Pm x) (hg : ∀ k, k < 6 → g2 k = nI (x k)) (hg3 : ∀ f, f < N_fe N → g3 f = nI (pk (tgs (N_ff N f)))) : ab_C Y_Rail_weigh [.ref 50, .ref 2] m h (fun r m2 h2 => r = none ∧ m2 = m ∧ (((nI (mxh N x (N_fe N)) < gr ∨ (nI (mxh N x (N_fe N)) = gr ∧ nI (smh N x (N_fe N)) < su)) ∧ ∃ a1 : Nat → Int32, h2 = ab_set (ab_set h 50 (oR kn (nI (mxh N x (N_fe N))) (nI (smh N x (N_fe N))))) 51 (.inl (6, a1)) ∧ ∀ k, k < 6 → a1 k = nI (x k)) ∨ (¬ (nI (mxh N x (N_fe N)) < gr ∨ (nI (mxh N x (N_fe N)) = gr ∧ nI (smh N x (N_fe N)) < su)) ∧ h2 = h))) := by
  obtain ⟨n0, ⟨gx, hx, ax⟩, ⟨gy, hy, ay⟩, ⟨gm, hm, am⟩, ⟨gl, hl, al⟩, ⟨ga, ha, aa⟩, ⟨gi, hi, ai⟩, ⟨gj, hj0, aj⟩, ⟨gf, hf0, af⟩⟩ := id hX
  have hn6 : N_n N ≤ 6 := ok.1
  have hns : N_ns N ≤ 4 := ok.2.2.2.2.2.2.2.2.1
  have hpm := ok.pm
  have hw6 := ok.w6
  have hfx := ok.2.2.1
  have bx := ok.2.2.2.2.2.1
  have bi := ok.2.2.2.2.2.2.2.2.2.1
  have hfe := ok.fe6
  refine ab_C.of (L := [some (.ref 50), some (.ref 2), none, none, none, none]) rfl rfl (Nat.le_of_ble_eq_true rfl) (fun l => ?_)
  have loop : ∀ kf f, f + kf = N_fe N → ab_W Y_Rail_weigh none l (fun r m2 h2 => r = none ∧ m2 = m ∧ (((nI (mxh N x (N_fe N)) < gr ∨ (nI (mxh N x (N_fe N)) = gr ∧ nI (smh N x (N_fe N)) < su)) ∧ ∃ a1 : Nat → Int32, h2 = ab_set (ab_set h 50 (oR kn (nI (mxh N x (N_fe N))) (nI (smh N x (N_fe N))))) 51 (.inl (6, a1)) ∧ ∀ k, k < 6 → a1 k = nI (x k)) ∨ (¬ (nI (mxh N x (N_fe N)) < gr ∨ (nI (mxh N x (N_fe N)) = gr ∧ nI (smh N x (N_fe N)) < su)) ∧ h2 = h))) 7 [some (.ref 50), some (.ref 2), some (.int (nI (mxh N x (f)))), some (.int (nI (smh N x (f)))), some (.int (nI (f))), none] [] m (h) (0, 0) := by
    intro kf
    induction kf with
    | zero =>
      intro f hf 
      have hfn : N_fe N = f := by omega
      subst hfn
      refine aw_iload d_Rail_weigh_7 rfl ?_
      refine aw_aload_n d_Rail_weigh_9 rfl ?_
      refine aw_get (k := 15) d_Rail_weigh_10 cl_Night k_Rail_21 (by decide) n0 rfl ?_
      refine aw_icmp_ge (tgt := 51) d_Rail_weigh_13 (by decide) (fun c13 => ?_) (fun c13 => ?_)
      · refine aw_iload_n d_Rail_weigh_51 rfl ?_
        refine aw_aload_n d_Rail_weigh_52 rfl ?_
        refine aw_get (k := 1) d_Rail_weigh_53 cl_Rail k_Rail_37 (by decide) h50 rfl ?_
        refine aw_icmp_lt (tgt := 75) d_Rail_weigh_56 (by decide) (fun c56 => ?_) (fun c56 => ?_)
        · refine aw_aload_n d_Rail_weigh_75 rfl ?_
          refine aw_iload_n d_Rail_weigh_76 rfl ?_
          refine aw_put (k := 1) (fs' := [.int (ab_bl kn), .int (nI (mxh N x (N_fe N))), .int su, .ref 51, .ref 52, .ref 53]) d_Rail_weigh_77 cl_Rail k_Rail_37 (by decide) rfl ⟨rfl, rfl⟩ h50 (Nat.le_of_ble_eq_true rfl) rfl ?_
          refine aw_aload_n d_Rail_weigh_80 rfl ?_
          refine aw_iload_n d_Rail_weigh_81 rfl ?_
          refine aw_put (k := 2) (fs' := [.int (ab_bl kn), .int (nI (mxh N x (N_fe N))), .int (nI (smh N x (N_fe N))), .ref 51, .ref 52, .ref 53]) d_Rail_weigh_82 cl_Rail k_Rail_40 (by decide) rfl ⟨rfl, rfl⟩ rfl (Nat.le_of_ble_eq_true rfl) rfl ?_
          refine aw_aload_n d_Rail_weigh_85 rfl ?_
          refine aw_get (k := 4) d_Rail_weigh_86 cl_Rail k_Rail_15 (by decide) rfl rfl ?_
          refine aw_iconst (v := nI 0) d_Rail_weigh_89 (by decide) ?_
          refine aw_aload_n d_Rail_weigh_90 rfl ?_
          refine aw_get (k := 3) d_Rail_weigh_91 cl_Rail k_Rail_9 (by decide) rfl rfl ?_
          refine aw_iconst (v := nI 0) d_Rail_weigh_94 (by decide) ?_
          refine aw_bipush (v := nI 6) d_Rail_weigh_95 (by decide) ?_
          refine aw_copy d_Rail_weigh_97 k_Rail_68 ⟨by decide, Nat.le_of_ble_eq_true rfl⟩ h52 h51 (by decide) (by decide) (by decide) (by decide) (by decide) ?_
          refine aw_return d_Rail_weigh_100 rfl ?_
          refine ⟨rfl, rfl, ?_⟩
          first
            | (refine Or.inl ⟨Or.inl c56, _, by rw [ab_set_set], fun k hk => ?_⟩
               rw [nI_clamp (by decide), nI_clamp (by decide), pk_cpy_in (by omega) (by omega), Nat.zero_add, Nat.sub_zero, hg k hk]; done)
            | (refine Or.inl ⟨Or.inr ⟨c64, Int32.not_le.mp c72⟩, _, by rw [ab_set_set], fun k hk => ?_⟩
               rw [nI_clamp (by decide), nI_clamp (by decide), pk_cpy_in (by omega) (by omega), Nat.zero_add, Nat.sub_zero, hg k hk]; done)
            | exact Or.inr ⟨fun z => z.elim c56 (fun z => c64 z.1), rfl⟩
            | exact Or.inr ⟨fun z => z.elim c56 (fun z => absurd z.2 (Int32.not_lt.mpr c72)), rfl⟩
        · refine aw_iload_n d_Rail_weigh_59 rfl ?_
          refine aw_aload_n d_Rail_weigh_60 rfl ?_
          refine aw_get (k := 1) d_Rail_weigh_61 cl_Rail k_Rail_37 (by decide) h50 rfl ?_
          refine aw_icmp_ne (tgt := 100) d_Rail_weigh_64 (by decide) (fun c64 => ?_) (fun c64 => ?_)
          · refine aw_return d_Rail_weigh_100 rfl ?_
            refine ⟨rfl, rfl, ?_⟩
            first
              | (refine Or.inl ⟨Or.inl c56, _, by rw [ab_set_set], fun k hk => ?_⟩
                 rw [nI_clamp (by decide), nI_clamp (by decide), pk_cpy_in (by omega) (by omega), Nat.zero_add, Nat.sub_zero, hg k hk]; done)
              | (refine Or.inl ⟨Or.inr ⟨c64, Int32.not_le.mp c72⟩, _, by rw [ab_set_set], fun k hk => ?_⟩
                 rw [nI_clamp (by decide), nI_clamp (by decide), pk_cpy_in (by omega) (by omega), Nat.zero_add, Nat.sub_zero, hg k hk]; done)
              | exact Or.inr ⟨fun z => z.elim c56 (fun z => c64 z.1), rfl⟩
              | exact Or.inr ⟨fun z => z.elim c56 (fun z => absurd z.2 (Int32.not_lt.mpr c72)), rfl⟩
          · refine aw_iload_n d_Rail_weigh_67 rfl ?_
            refine aw_aload_n d_Rail_weigh_68 rfl ?_
            refine aw_get (k := 2) d_Rail_weigh_69 cl_Rail k_Rail_40 (by decide) h50 rfl ?_
            refine aw_icmp_ge (tgt := 100) d_Rail_weigh_72 (by decide) (fun c72 => ?_) (fun c72 => ?_)
            · refine aw_return d_Rail_weigh_100 rfl ?_
              refine ⟨rfl, rfl, ?_⟩
              first
                | (refine Or.inl ⟨Or.inl c56, _, by rw [ab_set_set], fun k hk => ?_⟩
                   rw [nI_clamp (by decide), nI_clamp (by decide), pk_cpy_in (by omega) (by omega), Nat.zero_add, Nat.sub_zero, hg k hk]; done)
                | (refine Or.inl ⟨Or.inr ⟨c64, Int32.not_le.mp c72⟩, _, by rw [ab_set_set], fun k hk => ?_⟩
                   rw [nI_clamp (by decide), nI_clamp (by decide), pk_cpy_in (by omega) (by omega), Nat.zero_add, Nat.sub_zero, hg k hk]; done)
                | exact Or.inr ⟨fun z => z.elim c56 (fun z => c64 z.1), rfl⟩
                | exact Or.inr ⟨fun z => z.elim c56 (fun z => absurd z.2 (Int32.not_lt.mpr c72)), rfl⟩
            · refine aw_aload_n d_Rail_weigh_75 rfl ?_
              refine aw_iload_n d_Rail_weigh_76 rfl ?_
              refine aw_put (k := 1) (fs' := [.int (ab_bl kn), .int (nI (mxh N x (N_fe N))), .int su, .ref 51, .ref 52, .ref 53]) d_Rail_weigh_77 cl_Rail k_Rail_37 (by decide) rfl ⟨rfl, rfl⟩ h50 (Nat.le_of_ble_eq_true rfl) rfl ?_
              refine aw_aload_n d_Rail_weigh_80 rfl ?_
              refine aw_iload_n d_Rail_weigh_81 rfl ?_
              refine aw_put (k := 2) (fs' := [.int (ab_bl kn), .int (nI (mxh N x (N_fe N))), .int (nI (smh N x (N_fe N))), .ref 51, .ref 52, .ref 53]) d_Rail_weigh_82 cl_Rail k_Rail_40 (by decide) rfl ⟨rfl, rfl⟩ rfl (Nat.le_of_ble_eq_true rfl) rfl ?_
              refine aw_aload_n d_Rail_weigh_85 rfl ?_
              refine aw_get (k := 4) d_Rail_weigh_86 cl_Rail k_Rail_15 (by decide) rfl rfl ?_
              refine aw_iconst (v := nI 0) d_Rail_weigh_89 (by decide) ?_
              refine aw_aload_n d_Rail_weigh_90 rfl ?_
              refine aw_get (k := 3) d_Rail_weigh_91 cl_Rail k_Rail_9 (by decide) rfl rfl ?_
              refine aw_iconst (v := nI 0) d_Rail_weigh_94 (by decide) ?_
              refine aw_bipush (v := nI 6) d_Rail_weigh_95 (by decide) ?_
              refine aw_copy d_Rail_weigh_97 k_Rail_68 ⟨by decide, Nat.le_of_ble_eq_true rfl⟩ h52 h51 (by decide) (by decide) (by decide) (by decide) (by decide) ?_
              refine aw_return d_Rail_weigh_100 rfl ?_
              refine ⟨rfl, rfl, ?_⟩
              first
                | (refine Or.inl ⟨Or.inl c56, _, by rw [ab_set_set], fun k hk => ?_⟩
                   rw [nI_clamp (by decide), nI_clamp (by decide), pk_cpy_in (by omega) (by omega), Nat.zero_add, Nat.sub_zero, hg k hk]; done)
                | (refine Or.inl ⟨Or.inr ⟨c64, Int32.not_le.mp c72⟩, _, by rw [ab_set_set], fun k hk => ?_⟩
                   rw [nI_clamp (by decide), nI_clamp (by decide), pk_cpy_in (by omega) (by omega), Nat.zero_add, Nat.sub_zero, hg k hk]; done)
                | exact Or.inr ⟨fun z => z.elim c56 (fun z => c64 z.1), rfl⟩
                | exact Or.inr ⟨fun z => z.elim c56 (fun z => absurd z.2 (Int32.not_lt.mpr c72)), rfl⟩
      · exact absurd (Int32.le_refl _) c13
    | succ kf ih =>
      intro f hf 
      refine aw_iload d_Rail_weigh_7 rfl ?_
      refine aw_aload_n d_Rail_weigh_9 rfl ?_
      refine aw_get (k := 15) d_Rail_weigh_10 cl_Night k_Rail_21 (by decide) n0 rfl ?_
      refine aw_icmp_ge (tgt := 51) d_Rail_weigh_13 (by decide) (fun c13 => ?_) (fun c13 => ?_)
      · exact absurd c13 (nI_ge (by omega) (by omega))
      · refine aw_aload_n d_Rail_weigh_16 rfl ?_
        refine aw_aload_n d_Rail_weigh_17 rfl ?_
        refine aw_get (k := 5) d_Rail_weigh_18 cl_Rail k_Rail_18 (by decide) h50 rfl ?_
        refine aw_iload d_Rail_weigh_21 rfl ?_
        refine aw_ialoadN d_Rail_weigh_23 h53 (by omega) (by decide) ?_
        rw [hg3 f (by omega)]
        refine aw_aload_n d_Rail_weigh_24 rfl ?_
        refine aw_get (k := 4) d_Rail_weigh_25 cl_Rail k_Rail_15 (by decide) h50 rfl ?_
        refine aw_s0i d_Rail_weigh_28 k_Rail_58 ok_Slips_harmOf rfl ⟨rfl, rfl⟩ (c_harmOf hX ok (ok.fe f (by omega)) h52 hx0 (fun k hk => hg k (by omega))) rfl rfl (Nat.le_of_ble_eq_true rfl) ?_
        refine aw_istore (L' := [some (.ref 50), some (.ref 2), some (.int (nI (mxh N x (f)))), some (.int (nI (smh N x (f)))), some (.int (nI (f))), some (.int (nI (hrm N (N_ff N f) x (N_n N))))]) d_Rail_weigh_31 ⟨by decide, rfl⟩ rfl ?_
        refine aw_iload_n d_Rail_weigh_33 rfl ?_
        refine aw_iload d_Rail_weigh_34 rfl ?_
        refine aw_max d_Rail_weigh_36 k_Rail_62 ⟨by decide, Nat.le_of_ble_eq_true rfl⟩ ?_
        refine aw_topi (fun v36 ev36 => ?_)
        refine aw_istore_n (L' := [some (.ref 50), some (.ref 2), some (.int v36), some (.int (nI (smh N x (f)))), some (.int (nI (f))), some (.int (nI (hrm N (N_ff N f) x (N_n N))))]) d_Rail_weigh_39 ⟨by decide, rfl⟩ rfl ?_
        refine aw_iload_n d_Rail_weigh_40 rfl ?_
        refine aw_iload d_Rail_weigh_41 rfl ?_
        refine aw_iadd d_Rail_weigh_43 ?_
        refine aw_topi (fun v44 ev44 => ?_)
        refine aw_istore_n (L' := [some (.ref 50), some (.ref 2), some (.int v36), some (.int v44), some (.int (nI (f))), some (.int (nI (hrm N (N_ff N f) x (N_n N))))]) d_Rail_weigh_44 ⟨by decide, rfl⟩ rfl ?_
        refine aw_iinc (v := nI ((f) + 1)) (L' := [some (.ref 50), some (.ref 2), some (.int v36), some (.int v44), some (.int (nI ((f) + 1))), some (.int (nI (hrm N (N_ff N f) x (N_n N))))]) d_Rail_weigh_45 rfl (nI_1 _) ⟨by decide, rfl⟩ rfl ?_
        refine aw_goto (tgt := 7) d_Rail_weigh_48 (by decide) ?_
        have hh := hrm_le ok (ok.fe f (by omega)) hx0 hn6
        have hmx := mxh_le ok hx0 f (by omega)
        have e : v36 = nI (mxh N x (f + 1)) := by
          rw [ev36]
          show _ = nI (if mxh N x f < hrm N (N_ff N f) x (N_n N) then hrm N (N_ff N f) x (N_n N) else mxh N x f)
          by_cases q : mxh N x f < hrm N (N_ff N f) x (N_n N)
          · rw [if_pos q, if_pos (nI_lt q (by omega))]
          · rw [if_neg q, if_neg (fun z => q ((nI_ltI (by omega) (by omega)).mp z))]
        rw [e, show v44 = nI (smh N x (f + 1)) by rw [ev44, nI_add]; rfl]
        exact aw_drop 5 (ih (f + 1) (by omega))
  refine aw_iconst (v := nI 0) d_Rail_weigh_0 (by decide) ?_
  refine aw_istore_n (L' := [some (.ref 50), some (.ref 2), some (.int (nI 0)), none, none, none]) d_Rail_weigh_1 ⟨by decide, rfl⟩ rfl ?_
  refine aw_iconst (v := nI 0) d_Rail_weigh_2 (by decide) ?_
  refine aw_istore_n (L' := [some (.ref 50), some (.ref 2), some (.int (nI 0)), some (.int (nI 0)), none, none]) d_Rail_weigh_3 ⟨by decide, rfl⟩ rfl ?_
  refine aw_iconst (v := nI 0) d_Rail_weigh_4 (by decide) ?_
  refine aw_istore (L' := [some (.ref 50), some (.ref 2), some (.int (nI 0)), some (.int (nI 0)), some (.int (nI 0)), none]) d_Rail_weigh_5 ⟨by decide, rfl⟩ rfl ?_
  exact loop (N_fe N) 0 (by omega)
