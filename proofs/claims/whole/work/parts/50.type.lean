theorem ty_b (z : Int64) : z.toBitVec.toNat % 256 < 256 ∧ z.toInt32 &&& nI 255 = nI (z.toBitVec.toNat % 256) ∧ (z &&& lN 255).toInt = (z.toBitVec.toNat % 256 : Nat) ∧ (z &&& lN 255).toInt32 = nI (z.toBitVec.toNat % 256) := by
  refine ⟨Nat.mod_lt _ (by decide), ?_, ?_, ?_⟩
  · apply Int32.toBitVec_inj.mp
    apply BitVec.eq_of_toNat_eq
    have e : (nI (z.toBitVec.toNat % 256)).toBitVec.toNat = z.toBitVec.toNat % 256 % 2 ^ 32 := by
      show (Int32.ofNat _).toBitVec.toNat = _
      rw [Int32.toBitVec_ofNat', BitVec.toNat_ofNat]
    rw [e, Int32.toBitVec_and, BitVec.toNat_and]
    rw [Int64.toBitVec_toInt32, BitVec.signExtend_eq_setWidth_of_le _ (by decide), BitVec.toNat_setWidth]
    show z.toBitVec.toNat % 2 ^ 32 &&& (2 ^ 8 - 1) = _
    rw [Nat.and_two_pow_sub_one_eq_mod]
    omega
  · have e : (z &&& lN 255).toBitVec.toNat = z.toBitVec.toNat % 256 := by
      rw [Int64.toBitVec_and, BitVec.toNat_and]
      show z.toBitVec.toNat &&& (2 ^ 8 - 1) = _
      rw [Nat.and_two_pow_sub_one_eq_mod]
    show (z &&& lN 255).toBitVec.toInt = _
    rw [BitVec.toInt_eq_toNat_of_lt (by omega), e]
  · apply Int32.toBitVec_inj.mp
    apply BitVec.eq_of_toNat_eq
    have e : (nI (z.toBitVec.toNat % 256)).toBitVec.toNat = z.toBitVec.toNat % 256 % 2 ^ 32 := by
      show (Int32.ofNat _).toBitVec.toNat = _
      rw [Int32.toBitVec_ofNat', BitVec.toNat_ofNat]
    have e2 : (z &&& lN 255).toBitVec.toNat = z.toBitVec.toNat % 256 := by
      rw [Int64.toBitVec_and, BitVec.toNat_and]
      show z.toBitVec.toNat &&& (2 ^ 8 - 1) = _
      rw [Nat.and_two_pow_sub_one_eq_mod]
    rw [e]
    rw [Int64.toBitVec_toInt32, BitVec.signExtend_eq_setWidth_of_le _ (by decide), BitVec.toNat_setWidth, e2]
/-- the byte k of w, from the low end -/
def by_ (w : Int64) (k : Nat) : Nat := (w >>> ((nI 8 * nI k).toInt64 &&& 63)).toBitVec.toNat % 256
theorem by_1 (w : Int64) (k : Nat) : (w >>> ((nI 8 * nI k).toInt64 &&& 63)).toInt32 &&& nI 255 = nI (by_ w k) := (ty_b (w >>> ((nI 8 * nI k).toInt64 &&& 63))).2.1
theorem by_2 (w : Int64) (k : Nat) : ((w >>> ((nI 8 * nI k).toInt64 &&& 63)) &&& lN 255).toInt = by_ w k := (ty_b (w >>> ((nI 8 * nI k).toInt64 &&& 63))).2.2.1
theorem by_3 (w : Int64) (k : Nat) : ((w >>> ((nI 8 * nI k).toInt64 &&& 63)) &&& lN 255).toInt32 = nI (by_ w k) := (ty_b (w >>> ((nI 8 * nI k).toInt64 &&& 63))).2.2.2
theorem by_lt (w : Int64) (k : Nat) : by_ w k < 256 := (ty_b (w >>> ((nI 8 * nI k).toInt64 &&& 63))).1
/-- type(w, n) -/
def sp_typ (S : SS) (w : Int64) (n : Int32) : Int32 × SS :=
  if ir n 1 8 ∧ ∀ k, k < cl n → 32 ≤ by_ w k ∧ by_ w k ≤ 126 then
    (if 100 < S_tl S + cl n then (-3, S) else
      (nI (S_tl S + cl n), S_tl_ (S_ts_ S (fun k => if S_tl S ≤ k then nI (by_ w (cl n - 1 - (k - S_tl S))) else S_ts S k)) (S_tl S + cl n)))
  else (-1, S)
theorem nI_dec (r : Nat) : nI r + Int32.ofInt (-1) = nI r - nI 1 := by
  rw [Int32.sub_eq_add_neg]; rfl
theorem aw_heap {Y : ab_Y} {X : ab_X} {l : Launch} {Q : Option Value → Nat → ab_H → Prop} {pc : Nat} {L : List (Option Value)} {st : List Value} {m : Nat} {h h2 : ab_H} {us : Nat × Nat} (e : h2 = h) (k : ab_W Y X l Q pc L st m h2 us) : ab_W Y X l Q pc L st m h us := e ▸ k
theorem nI_1lt : nI 0 - nI 1 < 0 := by decide
theorem nI_n0 {r : Nat} (h : r < 2 ^ 31) : ¬ nI r < 0 := Int32.not_lt.mpr (show nI 0 ≤ nI r from nI_le (Nat.zero_le _) h)
theorem c_Tape_put {m : Nat} {h : ab_H} {len : Nat} {pl : Int32} (hT : h 20 = oT len pl) {g : Nat → Int32} (hg : h 21 = .inl (100, g)) (hl : len < 100) (v : Int32) : ab_D Y_Tape_put [.ref 20, .int v] m h (none) m (ab_set (ab_set h 21 (.inl (100, upd g len v))) 20 (oT (len + 1) pl)) := by
  refine ab_C.of (L := [some (.ref 20), some (.int v)]) rfl rfl (Nat.le_of_ble_eq_true rfl) (fun l => ?_)
  refine aw_aload_n d_Tape_put_0 rfl ?_
  refine aw_get (k := 2) d_Tape_put_1 cl_Tape k_Tape_9 (by decide) hT rfl ?_
  refine aw_aload_n d_Tape_put_4 rfl ?_
  refine aw_get (k := 0) d_Tape_put_5 cl_Tape k_Tape_18 (by decide) hT rfl ?_
  refine aw_iload_n d_Tape_put_8 rfl ?_
  refine aw_iastoreN d_Tape_put_9 hg (by omega) (by decide) ?_
  refine aw_aload_n d_Tape_put_10 rfl ?_
  refine aw_dup d_Tape_put_11 rfl ?_
  refine aw_get (k := 0) d_Tape_put_12 cl_Tape k_Tape_18 (by decide) hT rfl ?_
  refine aw_iconst (v := nI 1) d_Tape_put_15 (by decide) ?_
  refine aw_iadd d_Tape_put_16 ?_
  rw [nI_add]
  refine aw_put (k := 0) (fs' := [.int (nI (len + 1)), .int pl, .ref 21, .ref 22]) d_Tape_put_17 cl_Tape k_Tape_18 (by decide) rfl ⟨rfl, rfl⟩ hT (Nat.le_of_ble_eq_true rfl) rfl ?_
  refine aw_return d_Tape_put_20 rfl ?_
  exact ⟨rfl, rfl, rfl⟩
theorem c_Tape_room {m : Nat} {h : ab_H} {len : Nat} {pl : Int32} (hT : h 20 = oT len pl) : ab_D Y_Tape_room [.ref 20] m h (some (.int (nI 100 - nI len))) m (h) := by
  refine ab_C.of (L := [some (.ref 20)]) rfl rfl (Nat.le_of_ble_eq_true rfl) (fun l => ?_)
  refine aw_bipush (v := nI 100) d_Tape_room_0 (by decide) ?_
  refine aw_aload_n d_Tape_room_2 rfl ?_
  refine aw_get (k := 0) d_Tape_room_3 cl_Tape k_Tape_18 (by decide) hT rfl ?_
  refine aw_isub d_Tape_room_6 ?_
  refine aw_ireturn d_Tape_room_7 rfl rfl ?_
  exact ⟨rfl, rfl, rfl⟩
theorem xt_2 {V : VV} {m : Nat} {h : ab_H} {S : SS} (hX : PX V m h S) {w : Int64} {n : Nat} (l : Launch) {Q : Option Value → Nat → ab_H → Prop} {tl : Nat} {pl : Int32} (h1 : tl + n ≤ 100)
    (kk : ∀ g : Nat → Int32, (∀ k, k < tl → g k = S_ts S k) → (∀ k, tl ≤ k → k < tl + n → g k = nI (by_ w (n - 1 - (k - tl)))) → ab_W Y_Coat_type none l Q 85 [some (.ref 1), some (.long w), none, some (.int (nI n)), some (.int (nI 0 - nI 1))] [] m (ab_set (ab_set h 21 (.inl (100, g))) 20 (oT (tl + n) pl)) (0, 0)) :
    ∀ (r : Nat) (g : Nat → Int32), r ≤ n → (∀ k, k < tl → g k = S_ts S k) → (∀ k, tl ≤ k → k < tl + (n - r) → g k = nI (by_ w (n - 1 - (k - tl)))) → ab_W Y_Coat_type none l Q 61 [some (.ref 1), some (.long w), none, some (.int (nI n)), some (.int (nI r - nI 1))] [] m (ab_set (ab_set h 21 (.inl (100, g))) 20 (oT (tl + (n - r)) pl)) (0, 0)
  | 0, g, hr, e1, e2 => by
    obtain ⟨⟨a0, -⟩, -⟩ := id hX
    refine aw_iload d_Coat_type_61 rfl ?_
    refine aw_if_lt (tgt := 85) d_Coat_type_63 (by decide) (fun c63 => ?_) (fun c63 => ?_)
    · exact kk g e1 e2
    · exact absurd nI_1lt c63
  | r + 1, g, hr, e1, e2 => by
    obtain ⟨⟨a0, -⟩, -⟩ := id hX
    rw [show nI (r + 1) - nI 1 = nI r from nI_pred _]
    skip
    refine aw_iload d_Coat_type_61 rfl ?_
    refine aw_if_lt (tgt := 85) d_Coat_type_63 (by decide) (fun c63 => ?_) (fun c63 => ?_)
    · exact absurd c63 (nI_n0 (by omega))
    · refine aw_aload_n d_Coat_type_66 rfl ?_
      refine aw_get (k := 3) d_Coat_type_67 cl_Coat k_Coat_22 (by decide) a0 rfl ?_
      refine aw_lload_n d_Coat_type_70 rfl ?_
      refine aw_iload d_Coat_type_71 rfl ?_
      refine aw_s0i d_Coat_type_73 k_Coat_220 ok_Coat_byteOf rfl ⟨rfl, rfl⟩ (c_Coat_byteOf w (nI r)) rfl rfl (Nat.le_of_ble_eq_true rfl) ?_
      rw [by_1]
      refine aw_v0v d_Coat_type_76 k_Coat_230 ok_Tape_put rfl ⟨rfl, rfl⟩ cl_Tape rfl (c_Tape_put (g := g) rfl rfl (by omega) (nI (by_ w r))) rfl rfl (Nat.le_of_ble_eq_true rfl) ?_
      obtain ⟨v79, ev79⟩ : ∃ z : Int32, z = nI r + Int32.ofInt (-1) := ⟨_, rfl⟩
      refine aw_iinc (v := v79) (L' := [some (.ref 1), some (.long w), none, some (.int (nI n)), some (.int v79)]) d_Coat_type_79 rfl ev79.symm ⟨by decide, rfl⟩ rfl ?_
      refine aw_goto (tgt := 61) d_Coat_type_82 (by decide) ?_
      rw [ev79, nI_dec, show tl + (n - (r + 1)) + 1 = tl + (n - r) by omega]
      rw [show ∀ (H : ab_H) (e1 e2 : ab_E) (e3 e4 : ab_E), ab_set (ab_set (ab_set (ab_set H 21 e1) 20 e2) 21 e3) 20 e4 = ab_set (ab_set H 21 e3) 20 e4 from fun H e1 e2 e3 e4 => by rw [ab_set_swap (a := 20) (b := 21) (by decide), ab_set_set, ab_set_set]]
      refine xt_2 hX l h1 kk r _ (by omega) (fun k hk => by rw [pk_un (by omega)]; exact e1 k hk) (fun k hk hk2 => ?_)
      by_cases q : k = tl + (n - (r + 1))
      · subst q
        rw [pk_us, show n - 1 - (tl + (n - (r + 1)) - tl) = r by omega]
      · rw [pk_un q]
        exact e2 k hk (by omega)
theorem xt_1 {m : Nat} {h : ab_H} {w : Int64} {n : Nat} (l : Launch) {Q : Option Value → Nat → ab_H → Prop} (hn : n ≤ 8) (kb : ∀ k, k < n → ¬ (32 ≤ by_ w k ∧ by_ w k ≤ 126) → Q (some (.int (-1))) m h) (kk : (∀ k, k < n → 32 ≤ by_ w k ∧ by_ w k ≤ 126) → ab_W Y_Coat_type none l Q 42 [some (.ref 1), some (.long w), none, some (.int (nI n)), some (.int (nI n))] [] m h (0, 0)) :
    ∀ (k j : Nat), j + k = n → (∀ i, i < j → 32 ≤ by_ w i ∧ by_ w i ≤ 126) → ab_W Y_Coat_type none l Q 16 [some (.ref 1), some (.long w), none, some (.int (nI n)), some (.int (nI j))] [] m h (0, 0)
  | 0, j, hj, e => by
    have hj2 : j = n := by omega
    subst hj2
    refine aw_iload d_Coat_type_16 rfl ?_
    refine aw_iload_n d_Coat_type_18 rfl ?_
    refine aw_icmp_ge (tgt := 42) d_Coat_type_19 (by decide) (fun c19 => ?_) (fun c19 => ?_)
    · exact kk e
    · exact absurd (Int32.le_refl _) c19
  | k + 1, j, hj, e => by
    have hb := by_lt w j
    have hT := nI_toInt (show by_ w j < 2 ^ 31 by omega)
    refine aw_iload d_Coat_type_16 rfl ?_
    refine aw_iload_n d_Coat_type_18 rfl ?_
    refine aw_icmp_ge (tgt := 42) d_Coat_type_19 (by decide) (fun c19 => ?_) (fun c19 => ?_)
    · exact absurd c19 (nI_ge (by omega) (by omega))
    · refine aw_lload_n d_Coat_type_22 rfl ?_
      refine aw_iload d_Coat_type_23 rfl ?_
      refine aw_s0i d_Coat_type_25 k_Coat_220 ok_Coat_byteOf rfl ⟨rfl, rfl⟩ (c_Coat_byteOf w (nI j)) rfl rfl (Nat.le_of_ble_eq_true rfl) ?_
      rw [by_1]
      refine aw_s0i d_Coat_type_28 k_Coat_224 ok_Tape_isSign rfl ⟨rfl, rfl⟩ (c_Tape_isSign (nI (by_ w j))) rfl rfl (Nat.le_of_ble_eq_true rfl) ?_
      refine aw_if_ne (tgt := 36) d_Coat_type_31 (by decide) (fun c31 => ?_) (fun c31 => ?_)
      · refine aw_iinc (v := nI (j + 1)) (L' := [some (.ref 1), some (.long w), none, some (.int (nI n)), some (.int (nI (j + 1)))]) d_Coat_type_36 rfl (nI_1 _) ⟨by decide, rfl⟩ rfl ?_
        refine aw_goto (tgt := 16) d_Coat_type_39 (by decide) ?_
        refine xt_1 l hn kb kk k (j + 1) (by omega) (fun i hi => ?_)
        by_cases q : i = j
        · subst q
          have c := ab_bl_1.mp c31
          simp only [Bool.and_eq_true, Bool.not_eq_true', decide_eq_false_iff_not, fa_lt, hT, nI_toInt (show 32 < 2 ^ 31 by decide), nI_toInt (show 126 < 2 ^ 31 by decide)] at c
          omega
        · exact e i (by omega)
      · refine aw_iconst (v := (-1)) d_Coat_type_34 (by decide) ?_
        refine aw_ireturn d_Coat_type_35 rfl rfl ?_
        refine kb j (by omega) (fun q => ?_)
        have c := ab_bl_0.mp c31
        simp only [Bool.and_eq_false_iff, Bool.not_eq_false', decide_eq_true_eq, fa_lt, hT, nI_toInt (show 32 < 2 ^ 31 by decide), nI_toInt (show 126 < 2 ^ 31 by decide)] at c
        omega
theorem x_type {V : VV} {m : Nat} {h : ab_H} {S : SS} (hX : PX V m h S) (ok : S_ok S) (w : Int64) (n : Int32) : CX V Y_Coat_type [.long w, .int n] m h (fun r S2 => (r, S2) = sp_typ S w n) := by
  obtain ⟨⟨a0, ⟨n0, n1, n2, n3, n4, n5, n6, n7, n8⟩, a2⟩, p1, p2, p3, p4, p5, p6, p7⟩ := id hX
  have hn6 : N_n (S_N S) ≤ 6 := ok.1.1
  have hnT := nI_toInt (show N_n (S_N S) < 2 ^ 31 by omega)
  have htl : S_tl S ≤ 100 := ok.2.2.1
  obtain ⟨⟨pl, t0⟩, ⟨g0, t1, t2⟩, t3⟩ := p1
  refine ab_C.of (L := [some (.ref 1), some (.long w), none, some (.int n), none]) rfl rfl (Nat.le_of_ble_eq_true rfl) (fun l => ?_)
  refine aw_iload_n d_Coat_type_0 rfl ?_
  refine aw_iconst (v := nI 1) d_Coat_type_1 (by decide) ?_
  refine aw_icmp_lt (tgt := 11) d_Coat_type_2 (by decide) (fun c2 => ?_) (fun c2 => ?_)
  · refine aw_iconst (v := (-1)) d_Coat_type_11 (by decide) ?_
    refine aw_ireturn d_Coat_type_12 rfl rfl ?_
    refine ⟨_, S, rfl, ?_, hX, Nat.le_refl _, fun k _ _ => rfl⟩
    unfold sp_typ
    rw [if_neg]
    intro q
    have q1 := q.1
    simp only [fa_lt, fa_le, ir, ti1, nI_toInt (show 8 < 2 ^ 31 by decide)] at *
    omega
  · refine aw_iload_n d_Coat_type_5 rfl ?_
    refine aw_bipush (v := nI 8) d_Coat_type_6 (by decide) ?_
    refine aw_icmp_le (tgt := 13) d_Coat_type_8 (by decide) (fun c8 => ?_) (fun c8 => ?_)
    · obtain ⟨n, hn, rfl⟩ : ∃ j, j ≤ 8 ∧ n = nI j := nI_of2 (M := nI 8) (by decide) (fun q => c2 (by rw [fa_lt] at q ⊢; rw [ti1]; simp only [Int32.toInt_zero] at q; omega)) c8
      have hn1 : 1 ≤ n := by
        have hT := nI_toInt (show n < 2 ^ 31 by omega)
        rw [fa_lt, ti1, hT] at c2
        omega
      have hT := nI_toInt (show n < 2 ^ 31 by omega)
      refine aw_iconst (v := nI 0) d_Coat_type_13 (by decide) ?_
      refine aw_istore (L' := [some (.ref 1), some (.long w), none, some (.int (nI n)), some (.int (nI 0))]) d_Coat_type_14 ⟨by decide, rfl⟩ rfl ?_
      refine xt_1 l hn (fun k hk hk2 => ?_) (fun hb => ?_) n 0 (by omega) (fun i hi => absurd hi (Nat.not_lt_zero _))
      · refine ⟨_, S, rfl, ?_, hX, Nat.le_refl _, fun k _ _ => rfl⟩
        unfold sp_typ
        rw [if_neg]
        intro q
        exact hk2 (q.2 k (by rw [cl_nI (by omega)]; exact hk))
      · refine aw_iload_n d_Coat_type_42 rfl ?_
        refine aw_aload_n d_Coat_type_43 rfl ?_
        refine aw_get (k := 3) d_Coat_type_44 cl_Coat k_Coat_22 (by decide) a0 rfl ?_
        refine aw_v0i d_Coat_type_47 k_Coat_227 ok_Tape_room rfl ⟨rfl, rfl⟩ cl_Tape t0 (c_Tape_room t0) rfl rfl (Nat.le_of_ble_eq_true rfl) ?_
        refine aw_icmp_le (tgt := 56) d_Coat_type_50 (by decide) (fun c50 => ?_) (fun c50 => ?_)
        · refine aw_iload_n d_Coat_type_56 rfl ?_
          refine aw_iconst (v := nI 1) d_Coat_type_57 (by decide) ?_
          refine aw_isub d_Coat_type_58 ?_
          have h10 : S_tl S + n ≤ 100 := by
            rw [fa_le, pk_sub_toInt (by decide) (by omega), hT] at c50
            omega
          refine aw_topi (fun v59 ev59 => ?_)
          refine aw_istore (L' := [some (.ref 1), some (.long w), none, some (.int (nI n)), some (.int v59)]) d_Coat_type_59 ⟨by decide, rfl⟩ rfl ?_
          subst ev59
          have e9 : ab_set (ab_set h 21 (.inl (100, g0))) 20 (oT (S_tl S + (n - n)) pl) = h := by rw [Nat.sub_self, Nat.add_zero, ab_set_eq t1, ab_set_eq t0]
          refine aw_heap e9 (xt_2 (V := V) (S := S) (tl := S_tl S) (pl := pl) hX l h10 (fun g e1 e2 => ?_) n g0 (Nat.le_refl _) t2 (fun k k1 k2 => absurd k2 (by omega)))
          refine aw_aload_n d_Coat_type_85 rfl ?_
          refine aw_get (k := 3) d_Coat_type_86 cl_Coat k_Coat_22 (by decide) a0 rfl ?_
          refine aw_get (k := 0) d_Coat_type_89 cl_Tape k_Coat_234 (by decide) rfl rfl ?_
          refine aw_ireturn d_Coat_type_92 rfl rfl ?_
          refine ⟨_, S_tl_ (S_ts_ S (fun k => if S_tl S ≤ k then nI (by_ w (n - 1 - (k - S_tl S))) else S_ts S k)) (S_tl S + n), rfl, ?_, ⟨⟨a0, NX.fr (fun k _ _ => by rw [ab_set_ne (by omega), ab_set_ne (by omega)]) ⟨n0, n1, n2, n3, n4, n5, n6, n7, n8⟩, PXk.fr (K := S_K S) (fun k _ _ => by rw [ab_set_ne (by omega), ab_set_ne (by omega)]) a2⟩, ⟨⟨pl, rfl⟩, ⟨g, rfl, fun k hk => ?_⟩, t3⟩, p2.fr (fun k _ _ => by rw [ab_set_ne (by omega), ab_set_ne (by omega)]), p3.fr (fun k _ _ => by rw [ab_set_ne (by omega), ab_set_ne (by omega)]), p4.fr (fun k _ _ => by rw [ab_set_ne (by omega), ab_set_ne (by omega)]), p5.fr (fun k _ _ => by rw [ab_set_ne (by omega), ab_set_ne (by omega)]), p6.fr (fun k _ _ => by rw [ab_set_ne (by omega), ab_set_ne (by omega)]), p7.fr (fun k _ => by rw [ab_set_ne (by omega), ab_set_ne (by omega)])⟩, Nat.le_refl _, fun k g1 g2 => by rw [ab_set_ne (by omega), ab_set_ne (by omega)]⟩
          · unfold sp_typ
            rw [cl_nI (by omega), if_pos ⟨⟨by rw [hT]; omega, by rw [hT]; omega⟩, hb⟩, if_neg (by omega)]
          · show g k = if S_tl S ≤ k then nI (by_ w (n - 1 - (k - S_tl S))) else S_ts S k
            by_cases q : S_tl S ≤ k
            · rw [if_pos q]; exact e2 k q hk
            · rw [if_neg q]; exact e1 k (by omega)
        · refine aw_bipush (v := (-3)) d_Coat_type_53 (by decide) ?_
          refine aw_ireturn d_Coat_type_55 rfl rfl ?_
          refine ⟨_, S, rfl, ?_, hX, Nat.le_refl _, fun k _ _ => rfl⟩
          unfold sp_typ
          rw [cl_nI (by omega), if_pos ⟨⟨by rw [hT]; omega, by rw [hT]; omega⟩, hb⟩, if_pos]
          rw [fa_le, pk_sub_toInt (by decide) (by omega), hT] at c50
          omega
    · refine aw_iconst (v := (-1)) d_Coat_type_11 (by decide) ?_
      refine aw_ireturn d_Coat_type_12 rfl rfl ?_
      refine ⟨_, S, rfl, ?_, hX, Nat.le_refl _, fun k _ _ => rfl⟩
      unfold sp_typ
      rw [if_neg]
      intro q
      have q1 := q.1
      simp only [fa_lt, fa_le, ir, ti1, nI_toInt (show 8 < 2 ^ 31 by decide)] at *
      omega
