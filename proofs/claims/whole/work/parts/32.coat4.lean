theorem l_fill {X : ab_X} {l : Launch} {Q : Option Value → Nat → ab_H → Prop} {m : Nat} {h : ab_H} {us : Nat × Nat} {n a : Nat} {g : Nat → Int32} (hn : n < 2 ^ 31) (v : Int32) (ex : ab_W Y_JA_fill X l Q 20 [some (.ref a), some (.int v), some (.int (nI n)), some (.int (nI n))] [] m (ab_set h a (.inl (n, fa_fill (fun _ => v) g n))) us) :
    ∀ k i, i + k = n → ab_W Y_JA_fill X l Q 5 [some (.ref a), some (.int v), some (.int (nI i)), some (.int (nI n))] [] m (ab_set h a (.inl (n, fa_fill (fun _ => v) g i))) us := by
  intro k
  induction k with
  | zero =>
    intro i hi
    have hi : i = n := by omega
    subst hi
    refine aw_iload_n d_JA_fill_5 rfl ?_
    refine aw_iload_n d_JA_fill_6 rfl ?_
    refine aw_icmp_ge (tgt := 20) d_JA_fill_7 (by decide) (fun c7 => ?_) (fun c7 => ?_)
    · exact ex
    · exact absurd (Int32.le_refl _) c7
  | succ k ih =>
    intro i hi
    have e : upd (fa_fill (fun _ => v) g i) i v = fa_fill (fun _ => v) g (i + 1) := fa_fill_succ (fun _ => v) g i
    refine aw_iload_n d_JA_fill_5 rfl ?_
    refine aw_iload_n d_JA_fill_6 rfl ?_
    refine aw_icmp_ge (tgt := 20) d_JA_fill_7 (by decide) (fun c7 => ?_) (fun c7 => ?_)
    · exact absurd c7 (nI_ge (by omega) hn)
    · refine aw_aload_n d_JA_fill_10 rfl ?_
      refine aw_iload_n d_JA_fill_11 rfl ?_
      refine aw_iload_n d_JA_fill_12 rfl ?_
      refine aw_iastoreN d_JA_fill_13 (ab_set_self h a _) (by omega) hn ?_
      rw [ab_set_set, e]
      refine aw_iinc (v := nI (i + 1)) (L' := [some (.ref a), some (.int v), some (.int (nI (i + 1))), some (.int (nI n))]) d_JA_fill_14 rfl (nI_1 _) ⟨by decide, rfl⟩ rfl ?_
      refine aw_goto (tgt := 5) d_JA_fill_17 (by decide) ?_
      exact ih (i + 1) (by omega)
theorem c_fill {m : Nat} {h : ab_H} {n a : Nat} {g : Nat → Int32} (ha : h a = .inl (n, g)) (hn : n < 2 ^ 31) (v : Int32) : ab_D Y_JA_fill [.ref a, .int v] m h none m (ab_set h a (.inl (n, fa_fill (fun _ => v) g n))) := by
  refine ab_C.of (L := [some (.ref a), some (.int v), none, none]) rfl rfl (Nat.le_of_ble_eq_true rfl) (fun l => ?_)
  refine aw_iconst (v := nI 0) d_JA_fill_0 (by decide) ?_
  refine aw_istore_n (L' := [some (.ref a), some (.int v), some (.int (nI 0)), none]) d_JA_fill_1 ⟨by decide, rfl⟩ rfl ?_
  refine aw_aload_n d_JA_fill_2 rfl ?_
  refine aw_alen d_JA_fill_3 ha ?_
  refine aw_istore_n (L' := [some (.ref a), some (.int v), some (.int (nI 0)), some (.int (nI n))]) d_JA_fill_4 ⟨by decide, rfl⟩ rfl ?_
  have e0 : ab_set h a (.inl (n, fa_fill (fun _ => v) g 0)) = h := by rw [fa_fill_0]; exact ab_set_eq ha
  have lp := l_fill (X := none) (l := l) (Q := fun r' m' h' => r' = none ∧ m' = m ∧ h' = ab_set h a (.inl (n, fa_fill (fun _ => v) g n))) (m := m) (h := h) (us := (0, 0)) (n := n) (a := a) (g := g) hn v (aw_return d_JA_fill_20 rfl ⟨rfl, rfl, rfl⟩) n 0 (by omega)
  rw [e0] at lp
  exact lp
theorem x_forget {V : VV} {m : Nat} {h : ab_H} {S : SS} (hX : PX V m h S) (ok : S_ok S) (hV : V_ok V)  : CX V Y_Coat_forget [] m h (fun r S2 => (r, S2) = sp_forget S) := by
  obtain ⟨⟨a0, ⟨n0, n1, n2, n3, n4, n5, n6, n7, n8⟩, a2⟩, p1, p2, p3, p4, p5, p6, p7⟩ := id hX
  have hn6 : N_n (S_N S) ≤ 6 := ok.1.1
  have hnT := nI_toInt (show N_n (S_N S) < 2 ^ 31 by omega)
  refine ab_C.of (L := [some (.ref 1)]) rfl rfl (Nat.le_of_ble_eq_true rfl) (fun l => ?_)
  obtain ⟨gm, hm, am⟩ := n5
  refine aw_aload_n d_Coat_forget_0 rfl ?_
  refine aw_get (k := 0) d_Coat_forget_1 cl_Coat k_Coat_10 (by decide) a0 rfl ?_
  refine aw_get (k := 5) d_Coat_forget_4 cl_Night k_Coat_241 (by decide) n0 rfl ?_
  refine aw_bipush (v := nI 63) d_Coat_forget_7 (by decide) ?_
  refine aw_s0v d_Coat_forget_9 k_Coat_244 ok_JA_fill rfl ⟨rfl, rfl⟩ (c_fill hm (by decide) (nI 63)) rfl rfl (Nat.le_of_ble_eq_true rfl) ?_
  refine aw_aload_n d_Coat_forget_12 rfl ?_
  refine aw_get (k := 0) d_Coat_forget_13 cl_Coat k_Coat_10 (by decide) a0 rfl ?_
  refine aw_get (k := 0) d_Coat_forget_16 cl_Night k_Coat_82 (by decide) n0 rfl ?_
  refine aw_ireturn d_Coat_forget_19 rfl rfl ?_
  refine ⟨_, S_N_ S (N_ma_ (S_N S) (fun _ => 2 ^ N_n (S_N S) - 1)), rfl, rfl, ⟨⟨a0, ⟨n0, n1, n2, n3, n4, ⟨_, rfl, fun k hk => ⟨63, by decide, fa_fill_in (Nat.lt_of_lt_of_le (show k < N_n (S_N S) from hk) hn6), ?_⟩⟩, n6, n7, n8⟩, PXk.fr (K := S_K S) (fun k _ _ => ab_set_ne (by omega)) a2⟩, p1.fr (fun k _ _ => ab_set_ne (by omega)), p2.fr (fun k _ _ => ab_set_ne (by omega)), p3.fr (fun k _ _ => ab_set_ne (by omega)), (p4.fr (fun k _ _ => ab_set_ne (by omega))).cg (hV.2.2.1 _ _).1, (p5.fr (fun k _ _ => ab_set_ne (by omega))).cg (hV.2.2.1 _ _).2.1, (p6.fr (fun k _ _ => ab_set_ne (by omega))).cg (hV.2.2.1 _ _).2.2.1, p7.fr (fun k _ => ab_set_ne (by omega))⟩, Nat.le_refl _, fun k _ _ => ab_set_ne (by omega)⟩
  show 63 % 2 ^ N_n (S_N S) = 2 ^ N_n (S_N S) - 1
  generalize N_n (S_N S) = n at hn6
  match n, hn6 with
  | 0, _ => rfl
  | 1, _ => rfl
  | 2, _ => rfl
  | 3, _ => rfl
  | 4, _ => rfl
  | 5, _ => rfl
  | 6, _ => rfl
  | n + 7, hn6 => exact absurd hn6 (by omega)
theorem ab_fin {P : Prop} [Decidable P] {b : Int32} (h : (P ∧ b = nI 1) ∨ (¬ P ∧ b = nI 0)) : some (Value.int b) = some (Value.int (ab_bl (decide P))) := by
  rcases h with ⟨h1, rfl⟩ | ⟨h1, rfl⟩ <;> simp [ab_bl, h1]
theorem c_holds {m : Nat} {h : ab_H} {S : SS} (ok : S_ok S) (hS : h 23 = oS) {gl gz : Nat → Int32} (hl : h 29 = .inl (4, gl)) (al : ∀ k, k < 4 → gl k = S_la S k) (hz : h 30 = .inl (4, gz)) (az : ∀ k, k < 4 → gz k = S_sz S k) (s : Nat) (hs : s < 4) (i n : Int32) : ab_D Y_Sheets_holds [.ref 23, .int (nI s), .int i, .int n] m h (some (.int (ab_bl (decide (0 ≤ i.toInt ∧ 0 ≤ n.toInt ∧ i.toInt + n.toInt ≤ (S_sz S s).toInt))))) m (h) := by
  refine ab_C.of (L := [some (.ref 23), some (.int (nI s)), some (.int i), some (.int n)]) rfl rfl (Nat.le_of_ble_eq_true rfl) (fun l => ?_)
  have hz9 := az s hs
  obtain ⟨j, hj, ej⟩ := (ok.2.2.2.2 s hs).2
  have ejT : (S_sz S s).toInt = j := by rw [ej]; exact nI_toInt (by omega)
  have hri := fb_rng i
  have hrn := fb_rng n
  refine aw_iload_n d_Sheets_holds_0 rfl ?_
  refine aw_if_lt (tgt := 34) d_Sheets_holds_1 (by decide) (fun c1 => ?_) (fun c1 => ?_)
  · refine aw_iconst (v := nI 0) d_Sheets_holds_34 (by decide) ?_
    refine aw_ireturn d_Sheets_holds_35 rfl (by decide) ?_
    refine ⟨ab_fin ?_, rfl, rfl⟩
    try simp only [hz9] at c1
    first
      | (refine Or.inl ⟨?_, rfl⟩
         have e2 := fb_subI (x := S_sz S s) (y := i) (by simp only [fa_lt, Int32.toInt_zero] at c1; omega) (by simp only [fa_lt, Int32.toInt_zero] at c1; omega)
         simp only [fa_lt, Int32.toInt_zero, e2] at c1
         omega)
      | (refine Or.inr ⟨?_, rfl⟩
         simp only [fa_lt, Int32.toInt_zero] at c1
         omega)
      | (refine Or.inr ⟨?_, rfl⟩
         have e2 := fb_subI (x := S_sz S s) (y := i) (by simp only [fa_lt, Int32.toInt_zero] at c1; omega) (by simp only [fa_lt, Int32.toInt_zero] at c1; omega)
         simp only [fa_lt, Int32.toInt_zero, e2] at c1
         omega)
  · refine aw_iload_n d_Sheets_holds_4 rfl ?_
    refine aw_if_lt (tgt := 34) d_Sheets_holds_5 (by decide) (fun c5 => ?_) (fun c5 => ?_)
    · refine aw_iconst (v := nI 0) d_Sheets_holds_34 (by decide) ?_
      refine aw_ireturn d_Sheets_holds_35 rfl (by decide) ?_
      refine ⟨ab_fin ?_, rfl, rfl⟩
      try simp only [hz9] at c1 c5
      first
        | (refine Or.inl ⟨?_, rfl⟩
           have e2 := fb_subI (x := S_sz S s) (y := i) (by simp only [fa_lt, Int32.toInt_zero] at c1 c5; omega) (by simp only [fa_lt, Int32.toInt_zero] at c1 c5; omega)
           simp only [fa_lt, Int32.toInt_zero, e2] at c1 c5
           omega)
        | (refine Or.inr ⟨?_, rfl⟩
           simp only [fa_lt, Int32.toInt_zero] at c1 c5
           omega)
        | (refine Or.inr ⟨?_, rfl⟩
           have e2 := fb_subI (x := S_sz S s) (y := i) (by simp only [fa_lt, Int32.toInt_zero] at c1 c5; omega) (by simp only [fa_lt, Int32.toInt_zero] at c1 c5; omega)
           simp only [fa_lt, Int32.toInt_zero, e2] at c1 c5
           omega)
    · refine aw_iload_n d_Sheets_holds_8 rfl ?_
      refine aw_aload_n d_Sheets_holds_9 rfl ?_
      refine aw_get (k := 2) d_Sheets_holds_10 cl_Sheets k_Sheets_20 (by decide) hS rfl ?_
      refine aw_iload_n d_Sheets_holds_13 rfl ?_
      refine aw_ialoadN d_Sheets_holds_14 hz (by omega) (by decide) ?_
      refine aw_icmp_gt (tgt := 34) d_Sheets_holds_15 (by decide) (fun c15 => ?_) (fun c15 => ?_)
      · refine aw_iconst (v := nI 0) d_Sheets_holds_34 (by decide) ?_
        refine aw_ireturn d_Sheets_holds_35 rfl (by decide) ?_
        refine ⟨ab_fin ?_, rfl, rfl⟩
        try simp only [hz9] at c1 c5 c15
        first
          | (refine Or.inl ⟨?_, rfl⟩
             have e2 := fb_subI (x := S_sz S s) (y := i) (by simp only [fa_lt, Int32.toInt_zero] at c1 c5 c15; omega) (by simp only [fa_lt, Int32.toInt_zero] at c1 c5 c15; omega)
             simp only [fa_lt, Int32.toInt_zero, e2] at c1 c5 c15
             omega)
          | (refine Or.inr ⟨?_, rfl⟩
             simp only [fa_lt, Int32.toInt_zero] at c1 c5 c15
             omega)
          | (refine Or.inr ⟨?_, rfl⟩
             have e2 := fb_subI (x := S_sz S s) (y := i) (by simp only [fa_lt, Int32.toInt_zero] at c1 c5 c15; omega) (by simp only [fa_lt, Int32.toInt_zero] at c1 c5 c15; omega)
             simp only [fa_lt, Int32.toInt_zero, e2] at c1 c5 c15
             omega)
      · refine aw_iload_n d_Sheets_holds_18 rfl ?_
        refine aw_aload_n d_Sheets_holds_19 rfl ?_
        refine aw_get (k := 2) d_Sheets_holds_20 cl_Sheets k_Sheets_20 (by decide) hS rfl ?_
        refine aw_iload_n d_Sheets_holds_23 rfl ?_
        refine aw_ialoadN d_Sheets_holds_24 hz (by omega) (by decide) ?_
        refine aw_iload_n d_Sheets_holds_25 rfl ?_
        refine aw_isub d_Sheets_holds_26 ?_
        refine aw_icmp_gt (tgt := 34) d_Sheets_holds_27 (by decide) (fun c27 => ?_) (fun c27 => ?_)
        · refine aw_iconst (v := nI 0) d_Sheets_holds_34 (by decide) ?_
          refine aw_ireturn d_Sheets_holds_35 rfl (by decide) ?_
          refine ⟨ab_fin ?_, rfl, rfl⟩
          try simp only [hz9] at c1 c5 c15 c27
          first
            | (refine Or.inl ⟨?_, rfl⟩
               have e2 := fb_subI (x := S_sz S s) (y := i) (by simp only [fa_lt, Int32.toInt_zero] at c1 c5 c15 c27; omega) (by simp only [fa_lt, Int32.toInt_zero] at c1 c5 c15 c27; omega)
               simp only [fa_lt, Int32.toInt_zero, e2] at c1 c5 c15 c27
               omega)
            | (refine Or.inr ⟨?_, rfl⟩
               simp only [fa_lt, Int32.toInt_zero] at c1 c5 c15 c27
               omega)
            | (refine Or.inr ⟨?_, rfl⟩
               have e2 := fb_subI (x := S_sz S s) (y := i) (by simp only [fa_lt, Int32.toInt_zero] at c1 c5 c15 c27; omega) (by simp only [fa_lt, Int32.toInt_zero] at c1 c5 c15 c27; omega)
               simp only [fa_lt, Int32.toInt_zero, e2] at c1 c5 c15 c27
               omega)
        · refine aw_iconst (v := nI 1) d_Sheets_holds_30 (by decide) ?_
          refine aw_goto (tgt := 35) d_Sheets_holds_31 (by decide) ?_
          refine aw_ireturn d_Sheets_holds_35 rfl (by decide) ?_
          refine ⟨ab_fin ?_, rfl, rfl⟩
          try simp only [hz9] at c1 c5 c15 c27
          first
            | (refine Or.inl ⟨?_, rfl⟩
               have e2 := fb_subI (x := S_sz S s) (y := i) (by simp only [fa_lt, Int32.toInt_zero] at c1 c5 c15 c27; omega) (by simp only [fa_lt, Int32.toInt_zero] at c1 c5 c15 c27; omega)
               simp only [fa_lt, Int32.toInt_zero, e2] at c1 c5 c15 c27
               omega)
            | (refine Or.inr ⟨?_, rfl⟩
               simp only [fa_lt, Int32.toInt_zero] at c1 c5 c15 c27
               omega)
            | (refine Or.inr ⟨?_, rfl⟩
               have e2 := fb_subI (x := S_sz S s) (y := i) (by simp only [fa_lt, Int32.toInt_zero] at c1 c5 c15 c27; omega) (by simp only [fa_lt, Int32.toInt_zero] at c1 c5 c15 c27; omega)
               simp only [fa_lt, Int32.toInt_zero, e2] at c1 c5 c15 c27
               omega)
theorem c_faultOf {m : Nat} {h : ab_H} {S : SS} (ok : S_ok S) (hS : h 23 = oS) {gl gz : Nat → Int32} (hl : h 29 = .inl (4, gl)) (al : ∀ k, k < 4 → gl k = S_la S k) (hz : h 30 = .inl (4, gz)) (az : ∀ k, k < 4 → gz k = S_sz S k) (sh lane i : Int32) (n : Nat) (hn : n ≤ 24) : ab_D Y_Sheets_faultOf [.ref 23, .int sh, .int lane, .int i, .int (nI n)] m h (some (.int (sp_fault S sh lane i n))) m (h) := by
  refine ab_C.of (L := [some (.ref 23), some (.int sh), some (.int lane), some (.int i), some (.int (nI n))]) rfl rfl (Nat.le_of_ble_eq_true rfl) (fun l => ?_)
  have hnT := nI_toInt (show n < 2 ^ 31 by omega)
  refine aw_iload_n d_Sheets_faultOf_0 rfl ?_
  refine aw_s0i d_Sheets_faultOf_1 k_Sheets_29 ok_Sheets_isSheet rfl ⟨rfl, rfl⟩ (c_Sheets_isSheet sh) rfl rfl (Nat.le_of_ble_eq_true rfl) ?_
  refine aw_if_eq (tgt := 14) d_Sheets_faultOf_4 (by decide) (fun c4 => ?_) (fun c4 => ?_)
  · refine aw_iconst (v := (-1)) d_Sheets_faultOf_14 (by decide) ?_
    refine aw_ireturn d_Sheets_faultOf_15 rfl rfl ?_
    refine ⟨congrArg (fun z => some (Value.int z)) ?_, rfl, rfl⟩
    unfold sp_fault
    repeat' split
    all_goals first
      | rfl
      | (exfalso; (try simp only [ab_bl_0, ab_bl_1, Bool.and_eq_true, Bool.and_eq_false_iff, Bool.not_eq_true', Bool.not_eq_false', decide_eq_true_eq, decide_eq_false_iff_not] at *); (try simp only [fa_lt, fa_le, fa_eq, ir, ti0, ti3, ti4, tim1, Int32.toInt_zero] at *) <;> omega)
  · refine aw_iload_n d_Sheets_faultOf_7 rfl ?_
    refine aw_s0i d_Sheets_faultOf_8 k_Sheets_33 ok_Sheets_isLane rfl ⟨rfl, rfl⟩ (c_Sheets_isLane lane) rfl rfl (Nat.le_of_ble_eq_true rfl) ?_
    refine aw_if_ne (tgt := 16) d_Sheets_faultOf_11 (by decide) (fun c11 => ?_) (fun c11 => ?_)
    · obtain ⟨s, hs, rfl⟩ := ab_rng (by decide) (ab_bl_1.mp c4)
      refine aw_aload_n d_Sheets_faultOf_16 rfl ?_
      refine aw_get (k := 1) d_Sheets_faultOf_17 cl_Sheets k_Sheets_16 (by decide) hS rfl ?_
      refine aw_iload_n d_Sheets_faultOf_20 rfl ?_
      refine aw_ialoadN d_Sheets_faultOf_21 hl (by omega) (by decide) ?_
      refine aw_iconst (v := (-1)) d_Sheets_faultOf_22 (by decide) ?_
      refine aw_icmp_ne (tgt := 29) d_Sheets_faultOf_23 (by decide) (fun c23 => ?_) (fun c23 => ?_)
      · refine aw_aload_n d_Sheets_faultOf_29 rfl ?_
        refine aw_get (k := 1) d_Sheets_faultOf_30 cl_Sheets k_Sheets_16 (by decide) hS rfl ?_
        refine aw_iload_n d_Sheets_faultOf_33 rfl ?_
        refine aw_ialoadN d_Sheets_faultOf_34 hl (by omega) (by decide) ?_
        refine aw_iload_n d_Sheets_faultOf_35 rfl ?_
        refine aw_icmp_eq (tgt := 42) d_Sheets_faultOf_36 (by decide) (fun c36 => ?_) (fun c36 => ?_)
        · refine aw_aload_n d_Sheets_faultOf_42 rfl ?_
          refine aw_iload_n d_Sheets_faultOf_43 rfl ?_
          refine aw_iload_n d_Sheets_faultOf_44 rfl ?_
          refine aw_iload d_Sheets_faultOf_45 rfl ?_
          refine aw_v0i d_Sheets_faultOf_47 k_Sheets_36 ok_Sheets_holds rfl ⟨rfl, rfl⟩ cl_Sheets hS (c_holds ok hS hl al hz az s hs i (nI n)) rfl rfl (Nat.le_of_ble_eq_true rfl) ?_
          refine aw_if_eq (tgt := 57) d_Sheets_faultOf_50 (by decide) (fun c50 => ?_) (fun c50 => ?_)
          · refine aw_bipush (v := (-13)) d_Sheets_faultOf_57 (by decide) ?_
            refine aw_ireturn d_Sheets_faultOf_59 rfl rfl ?_
            refine ⟨congrArg (fun z => some (Value.int z)) ?_, rfl, rfl⟩
            unfold sp_fault
            try rw [cl_nI (show s < 2 ^ 31 by omega)]
            repeat' split
            all_goals first
              | rfl
              | (exfalso; (try simp only [al s hs] at *); (try simp only [ab_bl_0, ab_bl_1, Bool.and_eq_true, Bool.and_eq_false_iff, Bool.not_eq_true', Bool.not_eq_false', decide_eq_true_eq, decide_eq_false_iff_not] at *); (try simp only [fa_lt, fa_le, fa_eq, ir, ti0, ti3, ti4, tim1, Int32.toInt_zero, hnT] at *) <;> omega)
          · refine aw_iconst (v := nI 0) d_Sheets_faultOf_53 (by decide) ?_
            refine aw_goto (tgt := 59) d_Sheets_faultOf_54 (by decide) ?_
            refine aw_ireturn d_Sheets_faultOf_59 rfl rfl ?_
            refine ⟨congrArg (fun z => some (Value.int z)) ?_, rfl, rfl⟩
            unfold sp_fault
            try rw [cl_nI (show s < 2 ^ 31 by omega)]
            repeat' split
            all_goals first
              | rfl
              | (exfalso; (try simp only [al s hs] at *); (try simp only [ab_bl_0, ab_bl_1, Bool.and_eq_true, Bool.and_eq_false_iff, Bool.not_eq_true', Bool.not_eq_false', decide_eq_true_eq, decide_eq_false_iff_not] at *); (try simp only [fa_lt, fa_le, fa_eq, ir, ti0, ti3, ti4, tim1, Int32.toInt_zero, hnT] at *) <;> omega)
        · refine aw_bipush (v := (-12)) d_Sheets_faultOf_39 (by decide) ?_
          refine aw_ireturn d_Sheets_faultOf_41 rfl rfl ?_
          refine ⟨congrArg (fun z => some (Value.int z)) ?_, rfl, rfl⟩
          unfold sp_fault
          try rw [cl_nI (show s < 2 ^ 31 by omega)]
          repeat' split
          all_goals first
            | rfl
            | (exfalso; (try simp only [al s hs] at *); (try simp only [ab_bl_0, ab_bl_1, Bool.and_eq_true, Bool.and_eq_false_iff, Bool.not_eq_true', Bool.not_eq_false', decide_eq_true_eq, decide_eq_false_iff_not] at *); (try simp only [fa_lt, fa_le, fa_eq, ir, ti0, ti3, ti4, tim1, Int32.toInt_zero, hnT] at *) <;> omega)
      · refine aw_bipush (v := (-11)) d_Sheets_faultOf_26 (by decide) ?_
        refine aw_ireturn d_Sheets_faultOf_28 rfl rfl ?_
        refine ⟨congrArg (fun z => some (Value.int z)) ?_, rfl, rfl⟩
        unfold sp_fault
        try rw [cl_nI (show s < 2 ^ 31 by omega)]
        repeat' split
        all_goals first
          | rfl
          | (exfalso; (try simp only [al s hs] at *); (try simp only [ab_bl_0, ab_bl_1, Bool.and_eq_true, Bool.and_eq_false_iff, Bool.not_eq_true', Bool.not_eq_false', decide_eq_true_eq, decide_eq_false_iff_not] at *); (try simp only [fa_lt, fa_le, fa_eq, ir, ti0, ti3, ti4, tim1, Int32.toInt_zero, hnT] at *) <;> omega)
    · refine aw_iconst (v := (-1)) d_Sheets_faultOf_14 (by decide) ?_
      refine aw_ireturn d_Sheets_faultOf_15 rfl rfl ?_
      refine ⟨congrArg (fun z => some (Value.int z)) ?_, rfl, rfl⟩
      unfold sp_fault
      repeat' split
      all_goals first
        | rfl
        | (exfalso; (try simp only [ab_bl_0, ab_bl_1, Bool.and_eq_true, Bool.and_eq_false_iff, Bool.not_eq_true', Bool.not_eq_false', decide_eq_true_eq, decide_eq_false_iff_not] at *); (try simp only [fa_lt, fa_le, fa_eq, ir, ti0, ti3, ti4, tim1, Int32.toInt_zero] at *) <;> omega)
theorem ex_.up {h : ab_H} {a n : Nat} {f g : Nat → Int32} {j : Nat} {v : Int32} (he : h a = .inl (n, upd g j v)) (ag : ∀ k, k < n → g k = f k) : ∃ g : Nat → Int32, h a = .inl (n, g) ∧ ∀ k, k < n → g k = ud f j v k := by
  refine ⟨_, he, fun k hk => ?_⟩
  by_cases e : k = j
  · subst e; rw [pk_us, ud_s]
  · rw [pk_un e, ud_n e]; exact ag k hk
theorem x_drop {V : VV} {m : Nat} {h : ab_H} {S : SS} (hX : PX V m h S) (ok : S_ok S)  (sh : Int32) : CX V Y_Coat_drop [.int sh] m h (fun r S2 => (r, S2) = sp_drop S sh) := by
  obtain ⟨⟨a0, ⟨n0, n1, n2, n3, n4, n5, n6, n7, n8⟩, a2⟩, p1, p2, p3, p4, p5, p6, p7⟩ := id hX
  have hn6 : N_n (S_N S) ≤ 6 := ok.1.1
  have hnT := nI_toInt (show N_n (S_N S) < 2 ^ 31 by omega)
  refine ab_C.of (L := [some (.ref 1), some (.int sh)]) rfl rfl (Nat.le_of_ble_eq_true rfl) (fun l => ?_)
  obtain ⟨s0, s1, s2, ⟨gl, hl, al⟩, ⟨gz, hz, az⟩⟩ := id p2
  refine aw_iload_n d_Coat_drop_0 rfl ?_
  refine aw_s0i d_Coat_drop_1 k_Coat_312 ok_Sheets_isSheet rfl ⟨rfl, rfl⟩ (c_Sheets_isSheet sh) rfl rfl (Nat.le_of_ble_eq_true rfl) ?_
  refine aw_if_ne (tgt := 9) d_Coat_drop_4 (by decide) (fun c4 => ?_) (fun c4 => ?_)
  · obtain ⟨s, hs, rfl⟩ := ab_rng (by decide) (ab_bl_1.mp c4)
    refine aw_aload_n d_Coat_drop_9 rfl ?_
    refine aw_get (k := 4) d_Coat_drop_10 cl_Coat k_Coat_29 (by decide) a0 rfl ?_
    refine aw_get (k := 1) d_Coat_drop_13 cl_Sheets k_Coat_321 (by decide) s0 rfl ?_
    refine aw_iload_n d_Coat_drop_16 rfl ?_
    refine aw_ialoadN d_Coat_drop_17 hl (by omega) (by decide) ?_
    refine aw_iconst (v := (-1)) d_Coat_drop_18 (by decide) ?_
    refine aw_icmp_ne (tgt := 25) d_Coat_drop_19 (by decide) (fun c19 => ?_) (fun c19 => ?_)
    · refine aw_aload_n d_Coat_drop_25 rfl ?_
      refine aw_get (k := 4) d_Coat_drop_26 cl_Coat k_Coat_29 (by decide) a0 rfl ?_
      refine aw_get (k := 1) d_Coat_drop_29 cl_Sheets k_Coat_321 (by decide) s0 rfl ?_
      refine aw_iload_n d_Coat_drop_32 rfl ?_
      refine aw_iconst (v := (-1)) d_Coat_drop_33 (by decide) ?_
      refine aw_iastoreN d_Coat_drop_34 hl (by omega) (by decide) ?_
      refine aw_aload_n d_Coat_drop_35 rfl ?_
      refine aw_get (k := 4) d_Coat_drop_36 cl_Coat k_Coat_29 (by decide) a0 rfl ?_
      refine aw_get (k := 2) d_Coat_drop_39 cl_Sheets k_Coat_324 (by decide) s0 rfl ?_
      refine aw_iload_n d_Coat_drop_42 rfl ?_
      refine aw_ialoadN d_Coat_drop_43 hz (by omega) (by decide) ?_
      refine aw_ireturn d_Coat_drop_44 rfl rfl ?_
      refine ⟨_, S_la_ S (ud (S_la S) s (-1)), rfl, ?_, ⟨PXn.fr (S := S) (fun k _ _ => ab_set_ne (by omega)) hX.1, PXt.fr (S := S) (fun k _ _ => ab_set_ne (by omega)) p1, ⟨s0, s1, fun x hx => ex_.fr (ab_set_ne (by omega)) (s2 x hx), ex_.up rfl al, ⟨gz, hz, az⟩⟩, p3.fr (fun k _ _ => ab_set_ne (by omega)), p4.fr (fun k _ _ => ab_set_ne (by omega)), p5.fr (fun k _ _ => ab_set_ne (by omega)), p6.fr (fun k _ _ => ab_set_ne (by omega)), p7.fr (fun k _ => ab_set_ne (by omega))⟩, Nat.le_refl _, fun k _ _ => ab_set_ne (by omega)⟩
      try subst_vars
      unfold sp_drop
      try rw [cl_nI (show s < 2 ^ 31 by omega)]
      repeat' split
      all_goals first
        | rfl
        | (rw [az s hs]; done)
        | (exfalso; (try simp only [al s hs] at *); (try simp only [ab_bl_0, ab_bl_1, Bool.and_eq_true, Bool.and_eq_false_iff, Bool.not_eq_true', Bool.not_eq_false', decide_eq_true_eq, decide_eq_false_iff_not] at *); (try simp only [fa_lt, fa_le, fa_eq, ir, ti0, ti3, ti4, tim1, Int32.toInt_zero] at *) <;> omega)
    · refine aw_bipush (v := (-11)) d_Coat_drop_22 (by decide) ?_
      refine aw_ireturn d_Coat_drop_24 rfl rfl ?_
      refine ⟨_, S, rfl, ?_, hX, Nat.le_refl _, fun k _ _ => rfl⟩
      try subst_vars
      unfold sp_drop
      try rw [cl_nI (show s < 2 ^ 31 by omega)]
      repeat' split
      all_goals first
        | rfl
        | (rw [az s hs]; done)
        | (exfalso; (try simp only [al s hs] at *); (try simp only [ab_bl_0, ab_bl_1, Bool.and_eq_true, Bool.and_eq_false_iff, Bool.not_eq_true', Bool.not_eq_false', decide_eq_true_eq, decide_eq_false_iff_not] at *); (try simp only [fa_lt, fa_le, fa_eq, ir, ti0, ti3, ti4, tim1, Int32.toInt_zero] at *) <;> omega)
  · refine aw_iconst (v := (-1)) d_Coat_drop_7 (by decide) ?_
    refine aw_ireturn d_Coat_drop_8 rfl rfl ?_
    refine ⟨_, S, rfl, ?_, hX, Nat.le_refl _, fun k _ _ => rfl⟩
    try subst_vars
    unfold sp_drop
    repeat' split
    all_goals first
      | rfl
      | (exfalso; (try simp only [ab_bl_0, ab_bl_1, Bool.and_eq_true, Bool.and_eq_false_iff, Bool.not_eq_true', Bool.not_eq_false', decide_eq_true_eq, decide_eq_false_iff_not] at *); (try simp only [fa_lt, fa_le, fa_eq, ir, ti0, ti3, ti4, tim1, Int32.toInt_zero] at *) <;> omega)
theorem c_lay {m : Nat} {h : ab_H} (hS : h 23 = oS) (h4 : h 24 = oSi) {s : Nat} (hs : s < 4) {gi gl gz : Nat → Int32} (hi : h (25 + s) = .inl (24, gi)) (hl : h 29 = .inl (4, gl)) (hz : h 30 = .inl (4, gz)) (lane n : Int32) : ab_D Y_Sheets_lay [.ref 23, .int (nI s), .int lane, .int n] m h (none) m (ab_set (ab_set (ab_set h (25 + s) (.inl (24, fa_fill (fun _ => nI 0) gi 24))) 29 (.inl (4, upd gl s lane))) 30 (.inl (4, upd gz s n))) := by
  refine ab_C.of (L := [some (.ref 23), some (.int (nI s)), some (.int lane), some (.int n)]) rfl rfl (Nat.le_of_ble_eq_true rfl) (fun l => ?_)
  refine aw_aload_n d_Sheets_lay_0 rfl ?_
  refine aw_get (k := 0) d_Sheets_lay_1 cl_Sheets k_Sheets_11 (by decide) hS rfl ?_
  refine aw_iload_n d_Sheets_lay_4 rfl ?_
  refine aw_aaload (v := 25 + s) d_Sheets_lay_5 h4 (vp_in_nI hs (by decide)) (by rw [nI_clamp (by omega)]; exact if_pos hs) ?_
  refine aw_iconst (v := nI 0) d_Sheets_lay_6 (by decide) ?_
  refine aw_s0v d_Sheets_lay_7 k_Sheets_23 ok_JA_fill rfl ⟨rfl, rfl⟩ (c_fill hi (by decide) (nI 0)) rfl rfl (Nat.le_of_ble_eq_true rfl) ?_
  have hS2 : ab_set h (25 + s) (.inl (24, fa_fill (fun _ => nI 0) gi 24)) 23 = oS := (ab_set_ne (by omega)).trans hS
  refine aw_aload_n d_Sheets_lay_10 rfl ?_
  refine aw_get (k := 1) d_Sheets_lay_11 cl_Sheets k_Sheets_16 (by decide) hS2 rfl ?_
  refine aw_iload_n d_Sheets_lay_14 rfl ?_
  refine aw_iload_n d_Sheets_lay_15 rfl ?_
  refine aw_iastoreN d_Sheets_lay_16 ((ab_set_ne (by omega)).trans hl) (by omega) (by decide) ?_
  have hS3 : ab_set (ab_set h (25 + s) (.inl (24, fa_fill (fun _ => nI 0) gi 24))) 29 (.inl (4, upd gl s lane)) 23 = oS := (ab_set_ne (by omega)).trans hS2
  refine aw_aload_n d_Sheets_lay_17 rfl ?_
  refine aw_get (k := 2) d_Sheets_lay_18 cl_Sheets k_Sheets_20 (by decide) hS3 rfl ?_
  refine aw_iload_n d_Sheets_lay_21 rfl ?_
  refine aw_iload_n d_Sheets_lay_22 rfl ?_
  refine aw_iastoreN d_Sheets_lay_23 ((ab_set_ne (by omega)).trans ((ab_set_ne (by omega)).trans hz)) (by omega) (by decide) ?_
  refine aw_return d_Sheets_lay_24 rfl ?_
  exact ⟨rfl, rfl, rfl⟩
theorem ti24 : (nI 24).toInt = 24 := by decide
theorem x_sheet {V : VV} {m : Nat} {h : ab_H} {S : SS} (hX : PX V m h S) (ok : S_ok S)  (sh lane n : Int32) : CX V Y_Coat_sheet [.int sh, .int lane, .int n] m h (fun r S2 => (r, S2) = sp_sheet S sh lane n) := by
  obtain ⟨⟨a0, ⟨n0, n1, n2, n3, n4, n5, n6, n7, n8⟩, a2⟩, p1, p2, p3, p4, p5, p6, p7⟩ := id hX
  have hn6 : N_n (S_N S) ≤ 6 := ok.1.1
  have hnT := nI_toInt (show N_n (S_N S) < 2 ^ 31 by omega)
  refine ab_C.of (L := [some (.ref 1), some (.int sh), some (.int lane), some (.int n)]) rfl rfl (Nat.le_of_ble_eq_true rfl) (fun l => ?_)
  obtain ⟨s0, s1, s2, ⟨gl, hl, al⟩, ⟨gz, hz, az⟩⟩ := id p2
  refine aw_iload_n d_Coat_sheet_0 rfl ?_
  refine aw_s0i d_Coat_sheet_1 k_Coat_312 ok_Sheets_isSheet rfl ⟨rfl, rfl⟩ (c_Sheets_isSheet sh) rfl rfl (Nat.le_of_ble_eq_true rfl) ?_
  refine aw_if_eq (tgt := 20) d_Coat_sheet_4 (by decide) (fun c4 => ?_) (fun c4 => ?_)
  · refine aw_iconst (v := (-1)) d_Coat_sheet_20 (by decide) ?_
    refine aw_ireturn d_Coat_sheet_21 rfl rfl ?_
    refine ⟨_, S, rfl, ?_, hX, Nat.le_refl _, fun k _ _ => rfl⟩
    try subst_vars
    unfold sp_sheet
    repeat' split
    all_goals first
      | rfl
      | (exfalso; (try simp only [ab_bl_0, ab_bl_1, Bool.and_eq_true, Bool.and_eq_false_iff, Bool.not_eq_true', Bool.not_eq_false', decide_eq_true_eq, decide_eq_false_iff_not] at *); (try simp only [fa_lt, fa_le, fa_eq, ir, ti0, ti3, ti4, ti24, tim1, Int32.toInt_zero] at *) <;> omega)
  · refine aw_iload_n d_Coat_sheet_7 rfl ?_
    refine aw_s0i d_Coat_sheet_8 k_Coat_315 ok_Sheets_isLane rfl ⟨rfl, rfl⟩ (c_Sheets_isLane lane) rfl rfl (Nat.le_of_ble_eq_true rfl) ?_
    refine aw_if_eq (tgt := 20) d_Coat_sheet_11 (by decide) (fun c11 => ?_) (fun c11 => ?_)
    · refine aw_iconst (v := (-1)) d_Coat_sheet_20 (by decide) ?_
      refine aw_ireturn d_Coat_sheet_21 rfl rfl ?_
      refine ⟨_, S, rfl, ?_, hX, Nat.le_refl _, fun k _ _ => rfl⟩
      try subst_vars
      unfold sp_sheet
      repeat' split
      all_goals first
        | rfl
        | (exfalso; (try simp only [ab_bl_0, ab_bl_1, Bool.and_eq_true, Bool.and_eq_false_iff, Bool.not_eq_true', Bool.not_eq_false', decide_eq_true_eq, decide_eq_false_iff_not] at *); (try simp only [fa_lt, fa_le, fa_eq, ir, ti0, ti3, ti4, ti24, tim1, Int32.toInt_zero] at *) <;> omega)
    · refine aw_iload_n d_Coat_sheet_14 rfl ?_
      refine aw_bipush (v := nI 24) d_Coat_sheet_15 (by decide) ?_
      refine aw_icmp_le (tgt := 22) d_Coat_sheet_17 (by decide) (fun c17 => ?_) (fun c17 => ?_)
      · refine aw_iload_n d_Coat_sheet_22 rfl ?_
        refine aw_if_ge (tgt := 29) d_Coat_sheet_23 (by decide) (fun c23 => ?_) (fun c23 => ?_)
        · obtain ⟨s, hs, rfl⟩ := ab_rng (by decide) (ab_bl_1.mp c4)
          obtain ⟨gi, hi, ai⟩ := s2 s hs
          refine aw_aload_n d_Coat_sheet_29 rfl ?_
          refine aw_get (k := 4) d_Coat_sheet_30 cl_Coat k_Coat_29 (by decide) a0 rfl ?_
          refine aw_iload_n d_Coat_sheet_33 rfl ?_
          refine aw_iload_n d_Coat_sheet_34 rfl ?_
          refine aw_iload_n d_Coat_sheet_35 rfl ?_
          refine aw_v0v d_Coat_sheet_36 k_Coat_318 ok_Sheets_lay rfl ⟨rfl, rfl⟩ cl_Sheets s0 (c_lay s0 s1 hs hi hl hz lane n) rfl rfl (Nat.le_of_ble_eq_true rfl) ?_
          refine aw_iload_n d_Coat_sheet_39 rfl ?_
          refine aw_ireturn d_Coat_sheet_40 rfl rfl ?_
          refine ⟨_, S_la_ (S_sz_ (S_it_ S (ud (S_it S) s (fun _ => 0))) (ud (S_sz S) s n)) (ud (S_la S) s lane), rfl, ?_, ⟨PXn.fr (S := S) (fun k _ _ => by rw [ab_set_ne (by omega), ab_set_ne (by omega), ab_set_ne (by omega)]) hX.1, PXt.fr (S := S) (fun k _ _ => by rw [ab_set_ne (by omega), ab_set_ne (by omega), ab_set_ne (by omega)]) p1, ⟨?_, ?_, fun x hx => ?_, ?_, ex_.up rfl az⟩, p3.fr (fun k _ _ => by rw [ab_set_ne (by omega), ab_set_ne (by omega), ab_set_ne (by omega)]), p4.fr (fun k _ _ => by rw [ab_set_ne (by omega), ab_set_ne (by omega), ab_set_ne (by omega)]), p5.fr (fun k _ _ => by rw [ab_set_ne (by omega), ab_set_ne (by omega), ab_set_ne (by omega)]), p6.fr (fun k _ _ => by rw [ab_set_ne (by omega), ab_set_ne (by omega), ab_set_ne (by omega)]), p7.fr (fun k _ => by rw [ab_set_ne (by omega), ab_set_ne (by omega), ab_set_ne (by omega)])⟩, Nat.le_refl _, fun k _ _ => by rw [ab_set_ne (by omega), ab_set_ne (by omega), ab_set_ne (by omega)]⟩
          · try subst_vars
            unfold sp_sheet
            try rw [cl_nI (show s < 2 ^ 31 by omega)]
            repeat' split
            all_goals first
              | rfl
              | (exfalso; (try simp only [al s hs] at *); (try simp only [ab_bl_0, ab_bl_1, Bool.and_eq_true, Bool.and_eq_false_iff, Bool.not_eq_true', Bool.not_eq_false', decide_eq_true_eq, decide_eq_false_iff_not] at *); (try simp only [fa_lt, fa_le, fa_eq, ir, ti0, ti3, ti4, ti24, tim1, Int32.toInt_zero] at *) <;> omega)
          · rw [ab_set_ne (by omega), ab_set_ne (by omega), ab_set_ne (by omega)]; exact s0
          · rw [ab_set_ne (by omega), ab_set_ne (by omega), ab_set_ne (by omega)]; exact s1
          · by_cases e : x = s
            · subst e
              refine ⟨_, (by rw [ab_set_ne (by omega), ab_set_ne (by omega), ab_set_self]), fun k hk => ?_⟩
              rw [fa_fill_in hk]
              show nI 0 = ud (S_it S) x (fun _ => 0) x k
              rw [ud_s]
              rfl
            · obtain ⟨g, e1, e2⟩ := s2 x hx
              refine ⟨g, (by rw [ab_set_ne (by omega), ab_set_ne (by omega), ab_set_ne (by omega)]; exact e1), fun k hk => ?_⟩
              show g k = ud (S_it S) s (fun _ => 0) x k
              rw [ud_n e]
              exact e2 k hk
          · exact ex_.fr (ab_set_ne (by omega)) (ex_.up (g := gl) (ab_set_self _ _ _) al)
        · refine aw_bipush (v := (-14)) d_Coat_sheet_26 (by decide) ?_
          refine aw_ireturn d_Coat_sheet_28 rfl rfl ?_
          refine ⟨_, S, rfl, ?_, hX, Nat.le_refl _, fun k _ _ => rfl⟩
          try subst_vars
          unfold sp_sheet
          repeat' split
          all_goals first
            | rfl
            | (exfalso; (try simp only [ab_bl_0, ab_bl_1, Bool.and_eq_true, Bool.and_eq_false_iff, Bool.not_eq_true', Bool.not_eq_false', decide_eq_true_eq, decide_eq_false_iff_not] at *); (try simp only [fa_lt, fa_le, fa_eq, ir, ti0, ti3, ti4, ti24, tim1, Int32.toInt_zero] at *) <;> omega)
      · refine aw_iconst (v := (-1)) d_Coat_sheet_20 (by decide) ?_
        refine aw_ireturn d_Coat_sheet_21 rfl rfl ?_
        refine ⟨_, S, rfl, ?_, hX, Nat.le_refl _, fun k _ _ => rfl⟩
        try subst_vars
        unfold sp_sheet
        repeat' split
        all_goals first
          | rfl
          | (exfalso; (try simp only [ab_bl_0, ab_bl_1, Bool.and_eq_true, Bool.and_eq_false_iff, Bool.not_eq_true', Bool.not_eq_false', decide_eq_true_eq, decide_eq_false_iff_not] at *); (try simp only [fa_lt, fa_le, fa_eq, ir, ti0, ti3, ti4, ti24, tim1, Int32.toInt_zero] at *) <;> omega)
theorem sp_fault_ok {S : SS} {sh lane i : Int32} {n : Nat} (ok : S_ok S) (hn : n ≤ 24) (h : ¬ sp_fault S sh lane i n < 0) : ∃ s j, s < 4 ∧ sh = nI s ∧ i = nI j ∧ j + n ≤ (S_sz S s).toInt ∧ j + n ≤ 24 ∧ sp_fault S sh lane i n = 0 ∧ S_la S s = lane ∧ ir lane 0 2 := by
  unfold sp_fault at h ⊢
  by_cases h1 : ir sh 0 3 ∧ ir lane 0 2
  · rw [if_pos h1] at h ⊢
    have es := cl_of h1.1.1
    have ei := cl_int h1.1.1
    have hs : cl sh < 4 := by have := h1.1.2; omega
    by_cases h2 : S_la S (cl sh) = -1
    · rw [if_pos h2] at h
      exact absurd (by decide) h
    · rw [if_neg h2] at h ⊢
      by_cases h3 : ¬ S_la S (cl sh) = lane
      · rw [if_pos h3] at h
        exact absurd (by decide) h
      · rw [if_neg h3] at h ⊢
        by_cases h4 : i.toInt < 0 ∨ (S_sz S (cl sh)).toInt < i.toInt + n
        · rw [if_pos h4] at h
          exact absurd (by decide) h
        · rw [if_neg h4]
          have h5 : 0 ≤ i.toInt := by omega
          have e5 := cl_int h5
          obtain ⟨j, hj, ej⟩ := (ok.2.2.2.2 (cl sh) hs).2
          have ejT : (S_sz S (cl sh)).toInt = j := by rw [ej]; exact nI_toInt (by omega)
          exact ⟨cl sh, cl i, hs, es, cl_of h5, by omega, by omega, rfl, Classical.not_not.mp h3, h1.2⟩
  · rw [if_neg h1] at h
    exact absurd (by decide) h
theorem x_item {V : VV} {m : Nat} {h : ab_H} {S : SS} (hX : PX V m h S) (ok : S_ok S)  (sh lane i v : Int32) : CX V Y_Coat_item [.int sh, .int lane, .int i, .int v] m h (fun r S2 => (r, S2) = sp_item S sh lane i v) := by
  obtain ⟨⟨a0, ⟨n0, n1, n2, n3, n4, n5, n6, n7, n8⟩, a2⟩, p1, p2, p3, p4, p5, p6, p7⟩ := id hX
  have hn6 : N_n (S_N S) ≤ 6 := ok.1.1
  have hnT := nI_toInt (show N_n (S_N S) < 2 ^ 31 by omega)
  refine ab_C.of (L := [some (.ref 1), some (.int sh), some (.int lane), some (.int i), some (.int v), none]) rfl rfl (Nat.le_of_ble_eq_true rfl) (fun l => ?_)
  obtain ⟨s0, s1, s2, ⟨gl, hl, al⟩, ⟨gz, hz, az⟩⟩ := id p2
  refine aw_aload_n d_Coat_item_0 rfl ?_
  refine aw_get (k := 4) d_Coat_item_1 cl_Coat k_Coat_29 (by decide) a0 rfl ?_
  refine aw_iload_n d_Coat_item_4 rfl ?_
  refine aw_iload_n d_Coat_item_5 rfl ?_
  refine aw_iload_n d_Coat_item_6 rfl ?_
  refine aw_iconst (v := nI 1) d_Coat_item_7 (by decide) ?_
  refine aw_v0i d_Coat_item_8 k_Coat_327 ok_Sheets_faultOf rfl ⟨rfl, rfl⟩ cl_Sheets s0 (c_faultOf ok s0 hl al hz az sh lane i 1 (by decide)) rfl rfl (Nat.le_of_ble_eq_true rfl) ?_
  refine aw_topi (fun v11 ev11 => ?_)
  refine aw_istore (L' := [some (.ref 1), some (.int sh), some (.int lane), some (.int i), some (.int v), some (.int v11)]) d_Coat_item_11 ⟨by decide, rfl⟩ rfl ?_
  refine aw_iload d_Coat_item_13 rfl ?_
  refine aw_if_ge (tgt := 21) d_Coat_item_15 (by decide) (fun c15 => ?_) (fun c15 => ?_)
  · obtain ⟨s, j, hs, rfl, rfl, hj, hj2, hf0, hla, hlr⟩ := sp_fault_ok (sh := sh) (lane := lane) (i := i) (n := 1) ok (by decide) (fun q => by rw [← ev11] at q; exact absurd c15 (Int32.not_le.mpr q))
    obtain ⟨gi, hi, ai⟩ := s2 s hs
    refine aw_aload_n d_Coat_item_21 rfl ?_
    refine aw_get (k := 4) d_Coat_item_22 cl_Coat k_Coat_29 (by decide) a0 rfl ?_
    refine aw_get (k := 0) d_Coat_item_25 cl_Sheets k_Coat_331 (by decide) s0 rfl ?_
    refine aw_iload_n d_Coat_item_28 rfl ?_
    refine aw_aaload (v := 25 + s) d_Coat_item_29 s1 (vp_in_nI hs (by decide)) (by rw [nI_clamp (by omega)]; exact if_pos hs) ?_
    refine aw_iload_n d_Coat_item_30 rfl ?_
    refine aw_iload_n d_Coat_item_31 rfl ?_
    refine aw_iload d_Coat_item_32 rfl ?_
    refine aw_s0i d_Coat_item_34 k_Coat_335 ok_Sheets_narrowed rfl ⟨rfl, rfl⟩ (c_Sheets_narrowed lane v) rfl rfl (Nat.le_of_ble_eq_true rfl) ?_
    refine aw_topi (fun v34 ev34 => ?_)
    refine aw_iastoreN d_Coat_item_37 hi (by omega) (by decide) ?_
    refine aw_iconst (v := nI 1) d_Coat_item_38 (by decide) ?_
    refine aw_ireturn d_Coat_item_39 rfl rfl ?_
    refine ⟨_, S_it_ S (ud (S_it S) s (ud (S_it S s) j v34)), rfl, ?_, ⟨PXn.fr (S := S) (fun k _ _ => ab_set_ne (by omega)) hX.1, PXt.fr (S := S) (fun k _ _ => ab_set_ne (by omega)) p1, ⟨(ab_set_ne (by omega)).trans s0, (ab_set_ne (by omega)).trans s1, fun x hx => ?_, ex_.fr (ab_set_ne (by omega)) ⟨gl, hl, al⟩, ex_.fr (ab_set_ne (by omega)) ⟨gz, hz, az⟩⟩, p3.fr (fun k _ _ => ab_set_ne (by omega)), p4.fr (fun k _ _ => ab_set_ne (by omega)), p5.fr (fun k _ _ => ab_set_ne (by omega)), p6.fr (fun k _ _ => ab_set_ne (by omega)), p7.fr (fun k _ => ab_set_ne (by omega))⟩, Nat.le_refl _, fun k _ _ => ab_set_ne (by omega)⟩
    · unfold sp_item
      rw [hf0, if_neg (by decide), cl_nI (show s < 2 ^ 31 by omega), cl_nI (show j < 2 ^ 31 by omega), ev34]
      rfl
    · by_cases e : x = s
      · subst e
        refine ⟨_, ab_set_self _ _ _, fun k hk => ?_⟩
        show upd gi j v34 k = ud (S_it S) x (ud (S_it S x) j v34) x k
        rw [ud_s]
        by_cases e2 : k = j
        · subst e2; rw [pk_us, ud_s]
        · rw [pk_un e2, ud_n e2]; exact ai k hk
      · obtain ⟨g, e1, e2⟩ := s2 x hx
        refine ⟨g, (ab_set_ne (by omega)).trans e1, fun k hk => ?_⟩
        show g k = ud (S_it S) s _ x k
        rw [ud_n e]
        exact e2 k hk
  · refine aw_iload d_Coat_item_18 rfl ?_
    refine aw_ireturn d_Coat_item_20 rfl rfl ?_
    refine ⟨_, S, rfl, ?_, hX, Nat.le_refl _, fun k _ _ => rfl⟩
    unfold sp_item
    rw [if_pos (by rw [← ev11]; exact Int32.not_le.mp c15), ev11]
theorem x_copy {V : VV} {m : Nat} {h : ab_H} {S : SS} (hX : PX V m h S) (ok : S_ok S)  (a i b j n : Int32) : CX V Y_Coat_copy [.int a, .int i, .int b, .int j, .int n] m h (fun r S2 => (r, S2) = sp_copy S a i b j n) := by
  obtain ⟨⟨a0, ⟨n0, n1, n2, n3, n4, n5, n6, n7, n8⟩, a2⟩, p1, p2, p3, p4, p5, p6, p7⟩ := id hX
  have hn6 : N_n (S_N S) ≤ 6 := ok.1.1
  have hnT := nI_toInt (show N_n (S_N S) < 2 ^ 31 by omega)
  refine ab_C.of (L := [some (.ref 1), some (.int a), some (.int i), some (.int b), some (.int j), some (.int n), none]) rfl rfl (Nat.le_of_ble_eq_true rfl) (fun l => ?_)
  obtain ⟨s0, s1, s2, ⟨gl, hl, al⟩, ⟨gz, hz, az⟩⟩ := id p2
  refine aw_iload_n d_Coat_copy_0 rfl ?_
  refine aw_s0i d_Coat_copy_1 k_Coat_312 ok_Sheets_isSheet rfl ⟨rfl, rfl⟩ (c_Sheets_isSheet a) rfl rfl (Nat.le_of_ble_eq_true rfl) ?_
  refine aw_if_eq (tgt := 14) d_Coat_copy_4 (by decide) (fun c4 => ?_) (fun c4 => ?_)
  · refine aw_iconst (v := (-1)) d_Coat_copy_14 (by decide) ?_
    refine aw_ireturn d_Coat_copy_15 rfl rfl ?_
    refine ⟨_, S, rfl, ?_, hX, Nat.le_refl _, fun k _ _ => rfl⟩
    try subst_vars
    unfold sp_copy
    repeat' split
    all_goals first
      | rfl
      | (exfalso; (try simp only [ab_bl_0, ab_bl_1, Bool.and_eq_true, Bool.and_eq_false_iff, Bool.not_eq_true', Bool.not_eq_false', decide_eq_true_eq, decide_eq_false_iff_not] at *); (try simp only [fa_lt, fa_le, fa_eq, ir, ti0, ti3, ti4, tim1, Int32.toInt_zero] at *) <;> omega)
  · refine aw_iload_n d_Coat_copy_7 rfl ?_
    refine aw_s0i d_Coat_copy_8 k_Coat_312 ok_Sheets_isSheet rfl ⟨rfl, rfl⟩ (c_Sheets_isSheet b) rfl rfl (Nat.le_of_ble_eq_true rfl) ?_
    refine aw_if_ne (tgt := 16) d_Coat_copy_11 (by decide) (fun c11 => ?_) (fun c11 => ?_)
    · obtain ⟨s, hs, rfl⟩ := ab_rng (by decide) (ab_bl_1.mp c4)
      obtain ⟨u, hu, rfl⟩ := ab_rng (by decide) (ab_bl_1.mp c11)
      refine aw_aload_n d_Coat_copy_16 rfl ?_
      refine aw_get (k := 4) d_Coat_copy_17 cl_Coat k_Coat_29 (by decide) a0 rfl ?_
      refine aw_get (k := 1) d_Coat_copy_20 cl_Sheets k_Coat_321 (by decide) s0 rfl ?_
      refine aw_iload_n d_Coat_copy_23 rfl ?_
      refine aw_ialoadN d_Coat_copy_24 hl (by omega) (by decide) ?_
      refine aw_topi (fun v25 ev25 => ?_)
      refine aw_istore (L' := [some (.ref 1), some (.int (nI s)), some (.int i), some (.int (nI u)), some (.int j), some (.int n), some (.int v25)]) d_Coat_copy_25 ⟨by decide, rfl⟩ rfl ?_
      refine aw_iload d_Coat_copy_27 rfl ?_
      refine aw_iconst (v := (-1)) d_Coat_copy_29 (by decide) ?_
      refine aw_icmp_eq (tgt := 46) d_Coat_copy_30 (by decide) (fun c30 => ?_) (fun c30 => ?_)
      · refine aw_bipush (v := (-11)) d_Coat_copy_46 (by decide) ?_
        refine aw_ireturn d_Coat_copy_48 rfl rfl ?_
        refine ⟨_, S, rfl, ?_, hX, Nat.le_refl _, fun k _ _ => rfl⟩
        try subst_vars
        unfold sp_copy
        (try rw [cl_nI (show s < 2 ^ 31 by omega), cl_nI (show u < 2 ^ 31 by omega)])
        repeat' split
        all_goals first
          | rfl
          | (exfalso; (try simp only [al s hs, al u hu] at *); (try simp only [ab_bl_0, ab_bl_1, Bool.and_eq_true, Bool.and_eq_false_iff, Bool.not_eq_true', Bool.not_eq_false', decide_eq_true_eq, decide_eq_false_iff_not] at *); (try simp only [fa_lt, fa_le, fa_eq, ir, ti0, ti3, ti4, tim1, Int32.toInt_zero] at *) <;> omega)
      · refine aw_aload_n d_Coat_copy_33 rfl ?_
        refine aw_get (k := 4) d_Coat_copy_34 cl_Coat k_Coat_29 (by decide) a0 rfl ?_
        refine aw_get (k := 1) d_Coat_copy_37 cl_Sheets k_Coat_321 (by decide) s0 rfl ?_
        refine aw_iload_n d_Coat_copy_40 rfl ?_
        refine aw_ialoadN d_Coat_copy_41 hl (by omega) (by decide) ?_
        refine aw_iconst (v := (-1)) d_Coat_copy_42 (by decide) ?_
        refine aw_icmp_ne (tgt := 49) d_Coat_copy_43 (by decide) (fun c43 => ?_) (fun c43 => ?_)
        · refine aw_iload d_Coat_copy_49 rfl ?_
          refine aw_aload_n d_Coat_copy_51 rfl ?_
          refine aw_get (k := 4) d_Coat_copy_52 cl_Coat k_Coat_29 (by decide) a0 rfl ?_
          refine aw_get (k := 1) d_Coat_copy_55 cl_Sheets k_Coat_321 (by decide) s0 rfl ?_
          refine aw_iload_n d_Coat_copy_58 rfl ?_
          refine aw_ialoadN d_Coat_copy_59 hl (by omega) (by decide) ?_
          refine aw_icmp_eq (tgt := 66) d_Coat_copy_60 (by decide) (fun c60 => ?_) (fun c60 => ?_)
          · refine aw_aload_n d_Coat_copy_66 rfl ?_
            refine aw_get (k := 4) d_Coat_copy_67 cl_Coat k_Coat_29 (by decide) a0 rfl ?_
            refine aw_iload_n d_Coat_copy_70 rfl ?_
            refine aw_iload_n d_Coat_copy_71 rfl ?_
            refine aw_iload d_Coat_copy_72 rfl ?_
            refine aw_v0i d_Coat_copy_74 k_Coat_338 ok_Sheets_holds rfl ⟨rfl, rfl⟩ cl_Sheets s0 (c_holds ok s0 hl al hz az s hs i n) rfl rfl (Nat.le_of_ble_eq_true rfl) ?_
            refine aw_if_eq (tgt := 95) d_Coat_copy_77 (by decide) (fun c77 => ?_) (fun c77 => ?_)
            · refine aw_bipush (v := (-13)) d_Coat_copy_95 (by decide) ?_
              refine aw_ireturn d_Coat_copy_97 rfl rfl ?_
              refine ⟨_, S, rfl, ?_, hX, Nat.le_refl _, fun k _ _ => rfl⟩
              try subst_vars
              unfold sp_copy
              (try rw [cl_nI (show s < 2 ^ 31 by omega), cl_nI (show u < 2 ^ 31 by omega)])
              repeat' split
              all_goals first
                | rfl
                | (exfalso; (try simp only [al s hs, al u hu] at *); (try simp only [ab_bl_0, ab_bl_1, Bool.and_eq_true, Bool.and_eq_false_iff, Bool.not_eq_true', Bool.not_eq_false', decide_eq_true_eq, decide_eq_false_iff_not] at *); (try simp only [fa_lt, fa_le, fa_eq, ir, ti0, ti3, ti4, tim1, Int32.toInt_zero] at *) <;> omega)
            · refine aw_aload_n d_Coat_copy_80 rfl ?_
              refine aw_get (k := 4) d_Coat_copy_81 cl_Coat k_Coat_29 (by decide) a0 rfl ?_
              refine aw_iload_n d_Coat_copy_84 rfl ?_
              refine aw_iload d_Coat_copy_85 rfl ?_
              refine aw_iload d_Coat_copy_87 rfl ?_
              refine aw_v0i d_Coat_copy_89 k_Coat_338 ok_Sheets_holds rfl ⟨rfl, rfl⟩ cl_Sheets s0 (c_holds ok s0 hl al hz az u hu j n) rfl rfl (Nat.le_of_ble_eq_true rfl) ?_
              refine aw_if_ne (tgt := 98) d_Coat_copy_92 (by decide) (fun c92 => ?_) (fun c92 => ?_)
              · obtain ⟨gi, hi, ai⟩ := s2 s hs
                obtain ⟨gu, hu2, au⟩ := s2 u hu
                have q1 := of_decide_eq_true (ab_bl_1.mp c77)
                have q2 := of_decide_eq_true (ab_bl_1.mp c92)
                obtain ⟨z1, y1, w1⟩ := (ok.2.2.2.2 s hs).2
                obtain ⟨z2, y2, w2⟩ := (ok.2.2.2.2 u hu).2
                have w1T : (S_sz S s).toInt = z1 := by rw [w1]; exact nI_toInt (by omega)
                have w2T : (S_sz S u).toInt = z2 := by rw [w2]; exact nI_toInt (by omega)
                have k1 := cl_int q1.1
                have k2 := cl_int q2.1
                have k3 := cl_int q1.2.1
                refine aw_aload_n d_Coat_copy_98 rfl ?_
                refine aw_get (k := 4) d_Coat_copy_99 cl_Coat k_Coat_29 (by decide) a0 rfl ?_
                refine aw_get (k := 0) d_Coat_copy_102 cl_Sheets k_Coat_331 (by decide) s0 rfl ?_
                refine aw_iload_n d_Coat_copy_105 rfl ?_
                refine aw_aaload (v := 25 + s) d_Coat_copy_106 s1 (vp_in_nI hs (by decide)) (by rw [nI_clamp (by omega)]; exact if_pos hs) ?_
                refine aw_iload_n d_Coat_copy_107 rfl ?_
                refine aw_aload_n d_Coat_copy_108 rfl ?_
                refine aw_get (k := 4) d_Coat_copy_109 cl_Coat k_Coat_29 (by decide) a0 rfl ?_
                refine aw_get (k := 0) d_Coat_copy_112 cl_Sheets k_Coat_331 (by decide) s0 rfl ?_
                refine aw_iload_n d_Coat_copy_115 rfl ?_
                refine aw_aaload (v := 25 + u) d_Coat_copy_116 s1 (vp_in_nI hu (by decide)) (by rw [nI_clamp (by omega)]; exact if_pos hu) ?_
                refine aw_iload d_Coat_copy_117 rfl ?_
                refine aw_iload d_Coat_copy_119 rfl ?_
                refine aw_copy d_Coat_copy_121 k_Coat_342 ⟨by decide, Nat.le_of_ble_eq_true rfl⟩ hi hu2 (by rw [fa_lt, Int32.toInt_zero]; omega) (by rw [fa_lt, Int32.toInt_zero]; omega) (by rw [fa_lt, Int32.toInt_zero]; omega) (show cl i + cl n ≤ 24 by omega) (show cl j + cl n ≤ 24 by omega) ?_
                refine aw_iload d_Coat_copy_124 rfl ?_
                refine aw_ireturn d_Coat_copy_126 rfl rfl ?_
                refine ⟨_, S_it_ S (ud (S_it S) u (fun k => if cl j ≤ k ∧ k < cl j + cl n then S_it S s (cl i + (k - cl j)) else S_it S u k)), rfl, ?_, ⟨PXn.fr (S := S) (fun k _ _ => ab_set_ne (by omega)) hX.1, PXt.fr (S := S) (fun k _ _ => ab_set_ne (by omega)) p1, ⟨(ab_set_ne (by omega)).trans s0, (ab_set_ne (by omega)).trans s1, fun x hx => ?_, ex_.fr (ab_set_ne (by omega)) ⟨gl, hl, al⟩, ex_.fr (ab_set_ne (by omega)) ⟨gz, hz, az⟩⟩, p3.fr (fun k _ _ => ab_set_ne (by omega)), p4.fr (fun k _ _ => ab_set_ne (by omega)), p5.fr (fun k _ _ => ab_set_ne (by omega)), p6.fr (fun k _ _ => ab_set_ne (by omega)), p7.fr (fun k _ => ab_set_ne (by omega))⟩, Nat.le_refl _, fun k _ _ => ab_set_ne (by omega)⟩
                · try subst_vars
                  unfold sp_copy
                  (try rw [cl_nI (show s < 2 ^ 31 by omega), cl_nI (show u < 2 ^ 31 by omega)])
                  repeat' split
                  all_goals first
                    | rfl
                    | (exfalso; (try simp only [al s hs, al u hu] at *); (try simp only [ab_bl_0, ab_bl_1, Bool.and_eq_true, Bool.and_eq_false_iff, Bool.not_eq_true', Bool.not_eq_false', decide_eq_true_eq, decide_eq_false_iff_not] at *); (try simp only [fa_lt, fa_le, fa_eq, ir, ti0, ti3, ti4, tim1, Int32.toInt_zero] at *) <;> omega)
                · by_cases e : x = u
                  · subst e
                    refine ⟨_, ab_set_self _ _ _, fun k hk => ?_⟩
                    show va_cpy gi gu (cl i) (cl j) (cl n) k = ud (S_it S) x _ x k
                    rw [ud_s]
                    unfold va_cpy
                    by_cases e2 : cl j ≤ k ∧ k < cl j + cl n
                    · rw [if_pos e2]
                      show gi _ = if cl j ≤ k ∧ k < cl j + cl n then _ else _
                      rw [if_pos e2]
                      exact ai _ (by omega)
                    · rw [if_neg e2]
                      show gu _ = if cl j ≤ k ∧ k < cl j + cl n then _ else _
                      rw [if_neg e2]
                      exact au k hk
                  · obtain ⟨g, e1, e2⟩ := s2 x hx
                    refine ⟨g, (ab_set_ne (by omega)).trans e1, fun k hk => ?_⟩
                    show g k = ud (S_it S) u _ x k
                    rw [ud_n e]
                    exact e2 k hk
              · refine aw_bipush (v := (-13)) d_Coat_copy_95 (by decide) ?_
                refine aw_ireturn d_Coat_copy_97 rfl rfl ?_
                refine ⟨_, S, rfl, ?_, hX, Nat.le_refl _, fun k _ _ => rfl⟩
                try subst_vars
                unfold sp_copy
                (try rw [cl_nI (show s < 2 ^ 31 by omega), cl_nI (show u < 2 ^ 31 by omega)])
                repeat' split
                all_goals first
                  | rfl
                  | (exfalso; (try simp only [al s hs, al u hu] at *); (try simp only [ab_bl_0, ab_bl_1, Bool.and_eq_true, Bool.and_eq_false_iff, Bool.not_eq_true', Bool.not_eq_false', decide_eq_true_eq, decide_eq_false_iff_not] at *); (try simp only [fa_lt, fa_le, fa_eq, ir, ti0, ti3, ti4, tim1, Int32.toInt_zero] at *) <;> omega)
          · refine aw_bipush (v := (-12)) d_Coat_copy_63 (by decide) ?_
            refine aw_ireturn d_Coat_copy_65 rfl rfl ?_
            refine ⟨_, S, rfl, ?_, hX, Nat.le_refl _, fun k _ _ => rfl⟩
            try subst_vars
            unfold sp_copy
            (try rw [cl_nI (show s < 2 ^ 31 by omega), cl_nI (show u < 2 ^ 31 by omega)])
            repeat' split
            all_goals first
              | rfl
              | (exfalso; (try simp only [al s hs, al u hu] at *); (try simp only [ab_bl_0, ab_bl_1, Bool.and_eq_true, Bool.and_eq_false_iff, Bool.not_eq_true', Bool.not_eq_false', decide_eq_true_eq, decide_eq_false_iff_not] at *); (try simp only [fa_lt, fa_le, fa_eq, ir, ti0, ti3, ti4, tim1, Int32.toInt_zero] at *) <;> omega)
        · refine aw_bipush (v := (-11)) d_Coat_copy_46 (by decide) ?_
          refine aw_ireturn d_Coat_copy_48 rfl rfl ?_
          refine ⟨_, S, rfl, ?_, hX, Nat.le_refl _, fun k _ _ => rfl⟩
          try subst_vars
          unfold sp_copy
          (try rw [cl_nI (show s < 2 ^ 31 by omega), cl_nI (show u < 2 ^ 31 by omega)])
          repeat' split
          all_goals first
            | rfl
            | (exfalso; (try simp only [al s hs, al u hu] at *); (try simp only [ab_bl_0, ab_bl_1, Bool.and_eq_true, Bool.and_eq_false_iff, Bool.not_eq_true', Bool.not_eq_false', decide_eq_true_eq, decide_eq_false_iff_not] at *); (try simp only [fa_lt, fa_le, fa_eq, ir, ti0, ti3, ti4, tim1, Int32.toInt_zero] at *) <;> omega)
    · refine aw_iconst (v := (-1)) d_Coat_copy_14 (by decide) ?_
      refine aw_ireturn d_Coat_copy_15 rfl rfl ?_
      refine ⟨_, S, rfl, ?_, hX, Nat.le_refl _, fun k _ _ => rfl⟩
      try subst_vars
      unfold sp_copy
      repeat' split
      all_goals first
        | rfl
        | (exfalso; (try simp only [ab_bl_0, ab_bl_1, Bool.and_eq_true, Bool.and_eq_false_iff, Bool.not_eq_true', Bool.not_eq_false', decide_eq_true_eq, decide_eq_false_iff_not] at *); (try simp only [fa_lt, fa_le, fa_eq, ir, ti0, ti3, ti4, tim1, Int32.toInt_zero] at *) <;> omega)
