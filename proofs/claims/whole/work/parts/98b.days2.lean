def LM (P : Nat → Prop) (v : Nat) : Prop := P v ∧ ∀ u, P u → v ≤ u
theorem LM.eq {P : Nat → Prop} {u v : Nat} (a : LM P u) (b : LM P v) : u = v := Nat.le_antisymm (a.2 v b.1) (b.2 u a.1)
/-- the least so far, or a number that says that there is none -/
def cur (E : Nat) (P : Nat → Prop) (mi : Int32) : Prop := ((∀ v, ¬ P v) ∧ mi = nI E) ∨ ∃ v, LM P v ∧ mi = nI v ∧ v ≤ 1000
theorem cur.iff {E : Nat} {P P2 : Nat → Prop} {mi : Int32} (h : cur E P mi) (e : ∀ v, P2 v ↔ P v) : cur E P2 mi := by
  have e : P2 = P := funext fun v => propext (e v)
  rw [e]; exact h
theorem cur.add {E : Nat} (hE : 1000 < E ∧ E < 2 ^ 31) {P P2 : Nat → Prop} {mi : Int32} (h : cur E P mi) {c : Nat} (hc : c ≤ 1000) (e : ∀ v, P2 v ↔ P v ∨ v = c) (hlt : nI c < mi) : cur E P2 (nI c) := by
  refine Or.inr ⟨c, ⟨(e c).mpr (Or.inr rfl), fun u hu => ?_⟩, rfl, hc⟩
  rcases (e u).mp hu with z | z
  · rcases h with ⟨h1, _⟩ | ⟨v, h1, h2, h3⟩
    · exact absurd z (h1 u)
    · have := h1.2 u z
      rw [h2] at hlt
      have := (nI_ltI (by omega) (by omega)).mp hlt
      omega
  · omega
theorem cur.keep {E : Nat} (hE : 1000 < E ∧ E < 2 ^ 31) {P P2 : Nat → Prop} {mi : Int32} (h : cur E P mi) {c : Nat} (hc : c ≤ 1000) (e : ∀ v, P2 v ↔ P v ∨ v = c) (hlt : ¬ nI c < mi) : cur E P2 mi := by
  rcases h with ⟨h1, h2⟩ | ⟨v, h1, h2, h3⟩
  · rw [h2] at hlt
    exact absurd (nI_lt (by omega) hE.2) hlt
  · refine Or.inr ⟨v, ⟨(e v).mpr (Or.inl h1.1), fun u hu => ?_⟩, h2, h3⟩
    rcases (e u).mp hu with z | z
    · exact h1.2 u z
    · rw [h2] at hlt
      have := Nat.not_lt.mp (fun y => hlt (nI_lt y (by omega)))
      omega
abbrev bn (N : NS) : Nat := bnd (N_n N) (N_w N) (N_t N)
def V1 (n w : Nat) (t : Nat → Nat) (F : Nat → Nat → Nat) (v : Nat) : Prop := ∃ a, VM n w a ∧ ow (fun k => t (a k)) (bnd n w t) = true ∧ v = mls F n a
def V2 (n w : Nat) (t : Nat → Nat) (F : Nat → Nat → Nat) (v : Nat) : Prop := ∃ a b, VM n w a ∧ VM n w b ∧ ow (fun k => t (a (b k))) (bnd n w t) = true ∧ v = mls F n a + mls F n b
def DV (n w : Nat) (t : Nat → Nat) (F : Nat → Nat → Nat) (da mi : Int32) : Prop := (ow t (bnd n w t) = true ∧ da = nI 0 ∧ mi = nI 0) ∨ (ow t (bnd n w t) = false ∧ ∃ v, LM (V1 n w t F) v ∧ da = nI 1 ∧ mi = nI v) ∨ (ow t (bnd n w t) = false ∧ (∀ v, ¬ V1 n w t F v) ∧ ∃ v, LM (V2 n w t F) v ∧ da = nI 2 ∧ mi = nI v)
theorem DV.eq {n w : Nat} {t : Nat → Nat} {F : Nat → Nat → Nat} {da mi da2 mi2 : Int32} (a : DV n w t F da mi) (b : DV n w t F da2 mi2) : da = da2 ∧ mi = mi2 := by
  rcases a with ⟨a1, a2, a3⟩ | ⟨a1, v, a2, a3, a4⟩ | ⟨a1, a0, v, a2, a3, a4⟩ <;> rcases b with ⟨b1, b2, b3⟩ | ⟨b1, u, b2, b3, b4⟩ | ⟨b1, b0, u, b2, b3, b4⟩
  · exact ⟨a2.trans b2.symm, a3.trans b3.symm⟩
  · rw [a1] at b1; cases b1
  · rw [a1] at b1; cases b1
  · rw [a1] at b1; cases b1
  · rw [a3, b3, a4, b4, a2.eq b2]; exact ⟨rfl, rfl⟩
  · exact absurd a2.1 (b0 v)
  · rw [a1] at b1; cases b1
  · exact absurd b2.1 (a0 u)
  · rw [a3, b3, a4, b4, a2.eq b2]; exact ⟨rfl, rfl⟩
/-- the answer of atOnce -/
def SPA (S : SS) (w r : Int32) : Prop := (¬ ir w 0 1 ∧ r = -1) ∨ (ir w 0 1 ∧ ∃ da mi, DV (N_n (S_N S)) (N_w (S_N S)) (N_t (S_N S)) (fr (S_N S)) da mi ∧ r = if w = 0 then da else mi)
theorem SPA.eq {S : SS} {w r r2 : Int32} (a : SPA S w r) (b : SPA S w r2) : r = r2 := by
  rcases a with ⟨a1, a2⟩ | ⟨a1, da, mi, a2, a3⟩ <;> rcases b with ⟨b1, b2⟩ | ⟨b1, da2, mi2, b2, b3⟩
  · exact a2.trans b2.symm
  · exact absurd b1 a1
  · exact absurd a1 b1
  · obtain ⟨e1, e2⟩ := a2.eq b2
    rw [a3, b3, e1, e2]
theorem mls_le {N : NS} (ok : N_ok N) {x : Nat → Nat} (hx : Pm x) : mls (fr N) (N_n N) x ≤ 240 := by
  have : mls (fr N) (N_n N) x ≤ fb_sm (fun _ => 40) (N_n N) := fb_sm_le (fun k hk => Nat.le_of_lt (fr_lt ok (by have := ok.1; omega) (hx.1 k (by have := ok.1; omega))))
  rw [fb_sm_const] at this
  have := ok.1
  omega
theorem mls_ffo {N : NS} (hn : N_n N ≤ 6) {x : Nat → Nat} (hx : Pm x) : ffo N x 63 (N_n N) = mls (fr N) (N_n N) x := by
  unfold ffo mls
  refine fb_sm_cong (fun p hp => ?_)
  show (if ¬ x p = p ∧ 63 / 2 ^ x p % 2 = 1 then fr N p (x p) else 0) = fr N p (x p)
  by_cases e : x p = p
  · rw [if_neg (fun z => z.1 e), e, fr_self]
  · rw [if_pos ⟨e, (b_low 6 (x p)).mpr (hx.1 p (by omega))⟩]
theorem mls_id (N : NS) (n : Nat) : mls (fr N) n (fun k => k) = 0 := by
  unfold mls
  rw [fb_sm_cong (g := fun _ => 0) (fun k _ => fr_self N k), sm_0]
/-- who can be in the class' matching -/
theorem can_iff {N : NS} (ok : N_ok N) {k : Nat} (hk : k < 76) : ow (mx6 k) (63 &&& (63 ^^^ wil N)) = true ↔ VM (N_n N) (N_w N) (mx6 k) := by
  have hn := ok.1
  have hm := mx6_t hk
  rw [ow_iff]
  have key : ∀ p, p < 6 → ((63 &&& (63 ^^^ wil N)) / 2 ^ p % 2 = 1 ↔ N_n N ≤ p ∨ N_w N / 2 ^ p % 2 = 1) := fun p hp => by
    rw [b_and, b_not _ hp]
    unfold wil
    rw [b_and, b_low, b_not _ hp]
    have := (b_low 6 p).mpr hp
    constructor
    · intro z
      by_cases q : N_n N ≤ p
      · exact Or.inl q
      · exact Or.inr (Classical.byContradiction (fun y => z.2 ⟨by omega, y⟩))
    · intro z
      refine ⟨this, fun y => ?_⟩
      rcases z with z | z
      · omega
      · exact y.2 z
  constructor
  · intro h
    refine ⟨⟨hm.1, fun q hq => ?_⟩, hm.2, fun p hp z => h p hp ((key p hp).mpr (Or.inr z))⟩
    by_cases z : q < 6
    · exact h q z ((key q z).mpr (Or.inl hq))
    · exact hm.1.2.2 q (by omega)
  · intro h p hp z
    rcases (key p hp).mp z with y | y
    · exact h.1.2 p y
    · exact h.2.2 p hp y
def PMo (N : NS) (g9 : Nat → Int32) : Prop := ∀ k, k < 76 → (VM (N_n N) (N_w N) (mx6 k) → g9 k = nI (mls (fr N) (N_n N) (mx6 k))) ∧ (¬ VM (N_n N) (N_w N) (mx6 k) → g9 k = -1)
theorem c_DisWell {m : Nat} {h : ab_H} {t a c : Nat → Nat} (ht : Pm t) (ha : Pm a) (hc : Pm c) {b : Nat} (hb : b < 64) : ab_D Y_Days_isWell [.int (nI (pk t)), .int (nI b), .int (nI (pk a)), .int (nI (pk c))] m h (some (.int (ab_bl (ow (fun k => t (a (c k))) b)))) m (h) := by
  refine ab_C.of (L := [some (.int (nI (pk t))), some (.int (nI b)), some (.int (nI (pk a))), some (.int (nI (pk c))), none]) rfl rfl (Nat.le_of_ble_eq_true rfl) (fun l => ?_)
  have loop : ∀ kf j, j + kf = 6 → (∀ q, q < j → b / 2 ^ q % 2 = 1 → t (a (c q)) = q) → ab_W Y_Days_isWell none l (fun r m2 h2 => r = some (.int (ab_bl (ow (fun k => t (a (c k))) b))) ∧ m2 = m ∧ h2 = h) 3 [some (.int (nI (pk t))), some (.int (nI b)), some (.int (nI (pk a))), some (.int (nI (pk c))), some (.int (nI (j)))] [] m (h) (0, 0) := by
    intro kf
    induction kf with
    | zero =>
      intro j hj e0
      have hjn : 6 = j := by omega
      subst hjn
      refine aw_iload d_Days_isWell_3 rfl ?_
      refine aw_bipush (v := nI 6) d_Days_isWell_5 (by decide) ?_
      refine aw_icmp_ge (tgt := 46) d_Days_isWell_7 (by decide) (fun c7 => ?_) (fun c7 => ?_)
      · refine aw_iconst (v := nI 1) d_Days_isWell_46 (by decide) ?_
        refine aw_ireturn d_Days_isWell_47 rfl (by decide) ?_
        exact ⟨by rw [show ow (fun k => t (a (c k))) b = true from ow_iff.mpr e0]; rfl, rfl, rfl⟩
      · exact absurd (Int32.le_refl _) c7
    | succ kf ih =>
      intro j hj e0
      refine aw_iload d_Days_isWell_3 rfl ?_
      refine aw_bipush (v := nI 6) d_Days_isWell_5 (by decide) ?_
      refine aw_icmp_ge (tgt := 46) d_Days_isWell_7 (by decide) (fun c7 => ?_) (fun c7 => ?_)
      · exact absurd c7 (nI_ge (by omega) (by omega))
      · refine aw_iload_n d_Days_isWell_10 rfl ?_
        refine aw_iload d_Days_isWell_11 rfl ?_
        refine aw_ishr d_Days_isWell_13 ?_
        refine aw_iconst (v := nI 1) d_Days_isWell_14 (by decide) ?_
        refine aw_iand d_Days_isWell_15 ?_
        rw [b_at (by omega) (by omega)]
        refine aw_if_eq (tgt := 40) d_Days_isWell_16 (by decide) (fun c16 => ?_) (fun c16 => ?_)
        · refine aw_iinc (v := nI ((j) + 1)) (L' := [some (.int (nI (pk t))), some (.int (nI b)), some (.int (nI (pk a))), some (.int (nI (pk c))), some (.int (nI ((j) + 1)))]) d_Days_isWell_40 rfl (nI_1 _) ⟨by decide, rfl⟩ rfl ?_
          refine aw_goto (tgt := 3) d_Days_isWell_43 (by decide) ?_
          exact ih (j + 1) (by omega) (fun q hq z => by
            by_cases e : q = j
            · subst e
              first
                | exact absurd z (b_z.mp c16)
                | exact (nI_eq (by have := ht.1 _ (ha.1 _ (hc.1 q (by omega))); omega) (by omega)).mp c35
            · exact e0 q (by omega) z)
        · refine aw_iload_n d_Days_isWell_19 rfl ?_
          refine aw_iload_n d_Days_isWell_20 rfl ?_
          refine aw_iload_n d_Days_isWell_21 rfl ?_
          refine aw_iload d_Days_isWell_22 rfl ?_
          refine aw_s0i d_Days_isWell_24 k_Days_25 ok_Rows_at rfl ⟨rfl, rfl⟩ (c_at hc.lt8 (show j < 6 by omega)) rfl rfl (Nat.le_of_ble_eq_true rfl) ?_
          refine aw_s0i d_Days_isWell_27 k_Days_25 ok_Rows_at rfl ⟨rfl, rfl⟩ (c_at ha.lt8 (hc.1 j (by omega))) rfl rfl (Nat.le_of_ble_eq_true rfl) ?_
          refine aw_s0i d_Days_isWell_30 k_Days_25 ok_Rows_at rfl ⟨rfl, rfl⟩ (c_at ht.lt8 (ha.1 _ (hc.1 j (by omega)))) rfl rfl (Nat.le_of_ble_eq_true rfl) ?_
          refine aw_iload d_Days_isWell_33 rfl ?_
          refine aw_icmp_eq (tgt := 40) d_Days_isWell_35 (by decide) (fun c35 => ?_) (fun c35 => ?_)
          · refine aw_iinc (v := nI ((j) + 1)) (L' := [some (.int (nI (pk t))), some (.int (nI b)), some (.int (nI (pk a))), some (.int (nI (pk c))), some (.int (nI ((j) + 1)))]) d_Days_isWell_40 rfl (nI_1 _) ⟨by decide, rfl⟩ rfl ?_
            refine aw_goto (tgt := 3) d_Days_isWell_43 (by decide) ?_
            exact ih (j + 1) (by omega) (fun q hq z => by
              by_cases e : q = j
              · subst e
                first
                  | exact absurd z (b_z.mp c16)
                  | exact (nI_eq (by have := ht.1 _ (ha.1 _ (hc.1 q (by omega))); omega) (by omega)).mp c35
              · exact e0 q (by omega) z)
          · refine aw_iconst (v := nI 0) d_Days_isWell_38 (by decide) ?_
            refine aw_ireturn d_Days_isWell_39 rfl (by decide) ?_
            exact ⟨by rw [ow_no (t := fun k => t (a (c k))) (show j < 6 by omega) (b_nz.mp c16) (fun z => c35 (by rw [show t (a (c j)) = j from z]))]; rfl, rfl, rfl⟩
  refine aw_iconst (v := nI 0) d_Days_isWell_0 (by decide) ?_
  refine aw_istore (L' := [some (.int (nI (pk t))), some (.int (nI b)), some (.int (nI (pk a))), some (.int (nI (pk c))), some (.int (nI 0))]) d_Days_isWell_1 ⟨by decide, rfl⟩ rfl ?_
  exact loop 6 0 (by omega) (fun q hq => absurd hq (Nat.not_lt_zero _))
theorem c_lessen {m : Nat} {h : ab_H} {N : NS} (ok : N_ok N) {kn : Bool} {da mi : Int32} (h47 : h 47 = oD kn da mi) {g8 g9 : Nat → Int32} (h48 : h 48 = .inl (76, g8)) (h49 : h 49 = .inl (76, g9)) (e8 : ∀ k, k < 76 → g8 k = nI (pk (mx6 k))) (e9 : PMo N g9) {f : Nat} (hf : f < 76) {P : Nat → Prop} (cu : cur 2147483647 P mi) : ab_C Y_Days_lessen [.ref 47, .int (nI (pk (N_t N))), .int (nI (bn N)), .int (nI f)] m h (fun r m2 h2 => r = none ∧ m2 = m ∧ ∃ mi2 : Int32, h2 = ab_set h 47 (oD kn da mi2) ∧ cur 2147483647 (fun v => P v ∨ (VM (N_n N) (N_w N) (mx6 f) ∧ ∃ o, o < 76 ∧ VM (N_n N) (N_w N) (mx6 o) ∧ ow (fun k => N_t N (mx6 f (mx6 o k))) (bn N) = true ∧ v = mls (fr N) (N_n N) (mx6 f) + mls (fr N) (N_n N) (mx6 o))) mi2) := by
  refine ab_C.of (L := [some (.ref 47), some (.int (nI (pk (N_t N)))), some (.int (nI (bn N))), some (.int (nI f)), none, none]) rfl rfl (Nat.le_of_ble_eq_true rfl) (fun l => ?_)
  refine aw_aload_n d_Days_lessen_0 rfl ?_
  refine aw_get (k := 4) d_Days_lessen_1 cl_Days k_Days_15 (by decide) h47 rfl ?_
  refine aw_iload_n d_Days_lessen_4 rfl ?_
  refine aw_ialoadN d_Days_lessen_5 h49 (by omega) (by decide) ?_
  refine aw_if_ge (tgt := 10) d_Days_lessen_6 (by decide) (fun c6 => ?_) (fun c6 => ?_)
  · refine aw_iconst (v := nI 0) d_Days_lessen_10 (by decide) ?_
    refine aw_istore (L' := [some (.ref 47), some (.int (nI (pk (N_t N)))), some (.int (nI (bn N))), some (.int (nI f)), some (.int (nI 0)), none]) d_Days_lessen_11 ⟨by decide, rfl⟩ rfl ?_
    have vf : VM (N_n N) (N_w N) (mx6 f) := Classical.byContradiction (fun z => by rw [(e9 f hf).2 z] at c6; exact absurd c6 (by decide))
    have loop : ∀ kf j (mi : Int32), j + kf = 76 → cur 2147483647 (fun v => P v ∨ (VM (N_n N) (N_w N) (mx6 f) ∧ ∃ o, o < j ∧ VM (N_n N) (N_w N) (mx6 o) ∧ ow (fun k => N_t N (mx6 f (mx6 o k))) (bn N) = true ∧ v = mls (fr N) (N_n N) (mx6 f) + mls (fr N) (N_n N) (mx6 o))) mi → ab_W Y_Days_lessen none l (fun r m2 h2 => r = none ∧ m2 = m ∧ ∃ mi2 : Int32, h2 = ab_set h 47 (oD kn da mi2) ∧ cur 2147483647 (fun v => P v ∨ (VM (N_n N) (N_w N) (mx6 f) ∧ ∃ o, o < 76 ∧ VM (N_n N) (N_w N) (mx6 o) ∧ ow (fun k => N_t N (mx6 f (mx6 o k))) (bn N) = true ∧ v = mls (fr N) (N_n N) (mx6 f) + mls (fr N) (N_n N) (mx6 o))) mi2) 13 [some (.ref 47), some (.int (nI (pk (N_t N)))), some (.int (nI (bn N))), some (.int (nI f)), some (.int (nI (j))), none] [] m (ab_set h 47 (oD kn da mi)) (0, 0) := by
      intro kf
      induction kf with
      | zero =>
        intro j mi hj cu
        have hjn : 76 = j := by omega
        subst hjn
        refine aw_iload d_Days_lessen_13 rfl ?_
        refine aw_bipush (v := nI 76) d_Days_lessen_15 (by decide) ?_
        refine aw_icmp_ge (tgt := 88) d_Days_lessen_17 (by decide) (fun c17 => ?_) (fun c17 => ?_)
        · refine aw_return d_Days_lessen_88 rfl ?_
          exact ⟨rfl, rfl, mi, rfl, cu⟩
        · exact absurd (Int32.le_refl _) c17
      | succ kf ih =>
        intro j mi hj cu
        refine aw_iload d_Days_lessen_13 rfl ?_
        refine aw_bipush (v := nI 76) d_Days_lessen_15 (by decide) ?_
        refine aw_icmp_ge (tgt := 88) d_Days_lessen_17 (by decide) (fun c17 => ?_) (fun c17 => ?_)
        · exact absurd c17 (nI_ge (by omega) (by omega))
        · refine aw_aload_n d_Days_lessen_20 rfl ?_
          refine aw_get (k := 4) d_Days_lessen_21 cl_Days k_Days_15 (by decide) rfl rfl ?_
          refine aw_iload_n d_Days_lessen_24 rfl ?_
          refine aw_ialoadN d_Days_lessen_25 h49 (by omega) (by decide) ?_
          refine aw_aload_n d_Days_lessen_26 rfl ?_
          refine aw_get (k := 4) d_Days_lessen_27 cl_Days k_Days_15 (by decide) rfl rfl ?_
          refine aw_iload d_Days_lessen_30 rfl ?_
          refine aw_ialoadN d_Days_lessen_32 h49 (by omega) (by decide) ?_
          refine aw_iadd d_Days_lessen_33 ?_
          refine aw_topi (fun v34 ev34 => ?_)
          refine aw_istore (L' := [some (.ref 47), some (.int (nI (pk (N_t N)))), some (.int (nI (bn N))), some (.int (nI f)), some (.int (nI (j))), some (.int v34)]) d_Days_lessen_34 ⟨by decide, rfl⟩ rfl ?_
          refine aw_aload_n d_Days_lessen_36 rfl ?_
          refine aw_get (k := 4) d_Days_lessen_37 cl_Days k_Days_15 (by decide) rfl rfl ?_
          refine aw_iload d_Days_lessen_40 rfl ?_
          refine aw_ialoadN d_Days_lessen_42 h49 (by omega) (by decide) ?_
          refine aw_if_lt (tgt := 82) d_Days_lessen_43 (by decide) (fun c43 => ?_) (fun c43 => ?_)
          · refine aw_iinc (v := nI ((j) + 1)) (L' := [some (.ref 47), some (.int (nI (pk (N_t N)))), some (.int (nI (bn N))), some (.int (nI f)), some (.int (nI ((j) + 1))), some (.int v34)]) d_Days_lessen_82 rfl (nI_1 _) ⟨by decide, rfl⟩ rfl ?_
            refine aw_goto (tgt := 13) d_Days_lessen_85 (by decide) ?_
            have mj := mls_le ok (mx6_t (show j < 76 by omega)).1
            have mf := mls_le ok (mx6_t hf).1
            first
              | (have nv : ¬ VM (N_n N) (N_w N) (mx6 j) := fun z => by
                   rw [(e9 j (by omega)).1 z] at c43
                   exact absurd c43 (nI_n0 (by omega))
                 refine aw_drop 5 (ih (j + 1) mi (by omega) (cu.iff (fun v => ⟨fun z => ?_, fun z => ?_⟩)))
                 · rcases z with z | ⟨z1, i, z2, z3⟩
                   · exact Or.inl z
                   · by_cases e : i = j
                     · subst e; exact absurd z3.1 nv
                     · exact Or.inr ⟨z1, i, by omega, z3⟩
                 · rcases z with z | ⟨z1, i, z2, z3⟩
                   · exact Or.inl z
                   · exact Or.inr ⟨z1, i, by omega, z3⟩)
              | (have yv : VM (N_n N) (N_w N) (mx6 j) := Classical.byContradiction (fun z => by rw [(e9 j (by omega)).2 z] at c43; exact c43 (by decide))
                 have es : v34 = nI (mls (fr N) (N_n N) (mx6 f) + mls (fr N) (N_n N) (mx6 j)) := by rw [ev34, (e9 f hf).1 vf, (e9 j (by omega)).1 yv, nI_add]
                 rw [es] at c52
                 by_cases q : ow (fun k => N_t N (mx6 f (mx6 j k))) (bn N) = true
                 · refine aw_drop 5 (ih (j + 1) mi (by omega) (cu.keep (by decide) (c := mls (fr N) (N_n N) (mx6 f) + mls (fr N) (N_n N) (mx6 j)) (by omega) (fun v => ⟨fun z => ?_, fun z => ?_⟩) (Int32.not_lt.mpr c52)))
                   · rcases z with z | ⟨z1, i, z2, z3⟩
                     · exact Or.inl (Or.inl z)
                     · by_cases e : i = j
                       · subst e; exact Or.inr z3.2.2
                       · exact Or.inl (Or.inr ⟨z1, i, by omega, z3⟩)
                   · rcases z with (z | ⟨z1, i, z2, z3⟩) | z
                     · exact Or.inl z
                     · exact Or.inr ⟨z1, i, by omega, z3⟩
                     · exact Or.inr ⟨vf, j, by omega, yv, q, z⟩
                 · refine aw_drop 5 (ih (j + 1) mi (by omega) (cu.iff (fun v => ⟨fun z => ?_, fun z => ?_⟩)))
                   · rcases z with z | ⟨z1, i, z2, z3⟩
                     · exact Or.inl z
                     · by_cases e : i = j
                       · subst e; exact absurd z3.2.1 q
                       · exact Or.inr ⟨z1, i, by omega, z3⟩
                   · rcases z with z | ⟨z1, i, z2, z3⟩
                     · exact Or.inl z
                     · exact Or.inr ⟨z1, i, by omega, z3⟩)
              | (have yv : VM (N_n N) (N_w N) (mx6 j) := Classical.byContradiction (fun z => by rw [(e9 j (by omega)).2 z] at c43; exact c43 (by decide))
                 have q : ow (fun k => N_t N (mx6 f (mx6 j k))) (bn N) = false := ab_bl_0.mp c73
                 refine aw_drop 5 (ih (j + 1) mi (by omega) (cu.iff (fun v => ⟨fun z => ?_, fun z => ?_⟩)))
                 · rcases z with z | ⟨z1, i, z2, z3⟩
                   · exact Or.inl z
                   · by_cases e : i = j
                     · subst e; rw [q] at z3; cases z3.2.1
                     · exact Or.inr ⟨z1, i, by omega, z3⟩
                 · rcases z with z | ⟨z1, i, z2, z3⟩
                   · exact Or.inl z
                   · exact Or.inr ⟨z1, i, by omega, z3⟩)
              | (have yv : VM (N_n N) (N_w N) (mx6 j) := Classical.byContradiction (fun z => by rw [(e9 j (by omega)).2 z] at c43; exact c43 (by decide))
                 have es : v34 = nI (mls (fr N) (N_n N) (mx6 f) + mls (fr N) (N_n N) (mx6 j)) := by rw [ev34, (e9 f hf).1 vf, (e9 j (by omega)).1 yv, nI_add]
                 rw [es] at c52
                 have q : ow (fun k => N_t N (mx6 f (mx6 j k))) (bn N) = true := ab_bl_1.mp c73
                 rw [ab_set_set, es]
                 refine aw_drop 5 (ih (j + 1) _ (by omega) (cu.add (by decide) (c := mls (fr N) (N_n N) (mx6 f) + mls (fr N) (N_n N) (mx6 j)) (by omega) (fun v => ⟨fun z => ?_, fun z => ?_⟩) (Int32.not_le.mp c52)))
                 · rcases z with z | ⟨z1, i, z2, z3⟩
                   · exact Or.inl (Or.inl z)
                   · by_cases e : i = j
                     · subst e; exact Or.inr z3.2.2
                     · exact Or.inl (Or.inr ⟨z1, i, by omega, z3⟩)
                 · rcases z with (z | ⟨z1, i, z2, z3⟩) | z
                   · exact Or.inl z
                   · exact Or.inr ⟨z1, i, by omega, z3⟩
                   · exact Or.inr ⟨vf, j, by omega, yv, q, z⟩)
          · refine aw_iload d_Days_lessen_46 rfl ?_
            refine aw_aload_n d_Days_lessen_48 rfl ?_
            refine aw_get (k := 2) d_Days_lessen_49 cl_Days k_Days_60 (by decide) rfl rfl ?_
            refine aw_icmp_ge (tgt := 82) d_Days_lessen_52 (by decide) (fun c52 => ?_) (fun c52 => ?_)
            · refine aw_iinc (v := nI ((j) + 1)) (L' := [some (.ref 47), some (.int (nI (pk (N_t N)))), some (.int (nI (bn N))), some (.int (nI f)), some (.int (nI ((j) + 1))), some (.int v34)]) d_Days_lessen_82 rfl (nI_1 _) ⟨by decide, rfl⟩ rfl ?_
              refine aw_goto (tgt := 13) d_Days_lessen_85 (by decide) ?_
              have mj := mls_le ok (mx6_t (show j < 76 by omega)).1
              have mf := mls_le ok (mx6_t hf).1
              first
                | (have nv : ¬ VM (N_n N) (N_w N) (mx6 j) := fun z => by
                     rw [(e9 j (by omega)).1 z] at c43
                     exact absurd c43 (nI_n0 (by omega))
                   refine aw_drop 5 (ih (j + 1) mi (by omega) (cu.iff (fun v => ⟨fun z => ?_, fun z => ?_⟩)))
                   · rcases z with z | ⟨z1, i, z2, z3⟩
                     · exact Or.inl z
                     · by_cases e : i = j
                       · subst e; exact absurd z3.1 nv
                       · exact Or.inr ⟨z1, i, by omega, z3⟩
                   · rcases z with z | ⟨z1, i, z2, z3⟩
                     · exact Or.inl z
                     · exact Or.inr ⟨z1, i, by omega, z3⟩)
                | (have yv : VM (N_n N) (N_w N) (mx6 j) := Classical.byContradiction (fun z => by rw [(e9 j (by omega)).2 z] at c43; exact c43 (by decide))
                   have es : v34 = nI (mls (fr N) (N_n N) (mx6 f) + mls (fr N) (N_n N) (mx6 j)) := by rw [ev34, (e9 f hf).1 vf, (e9 j (by omega)).1 yv, nI_add]
                   rw [es] at c52
                   by_cases q : ow (fun k => N_t N (mx6 f (mx6 j k))) (bn N) = true
                   · refine aw_drop 5 (ih (j + 1) mi (by omega) (cu.keep (by decide) (c := mls (fr N) (N_n N) (mx6 f) + mls (fr N) (N_n N) (mx6 j)) (by omega) (fun v => ⟨fun z => ?_, fun z => ?_⟩) (Int32.not_lt.mpr c52)))
                     · rcases z with z | ⟨z1, i, z2, z3⟩
                       · exact Or.inl (Or.inl z)
                       · by_cases e : i = j
                         · subst e; exact Or.inr z3.2.2
                         · exact Or.inl (Or.inr ⟨z1, i, by omega, z3⟩)
                     · rcases z with (z | ⟨z1, i, z2, z3⟩) | z
                       · exact Or.inl z
                       · exact Or.inr ⟨z1, i, by omega, z3⟩
                       · exact Or.inr ⟨vf, j, by omega, yv, q, z⟩
                   · refine aw_drop 5 (ih (j + 1) mi (by omega) (cu.iff (fun v => ⟨fun z => ?_, fun z => ?_⟩)))
                     · rcases z with z | ⟨z1, i, z2, z3⟩
                       · exact Or.inl z
                       · by_cases e : i = j
                         · subst e; exact absurd z3.2.1 q
                         · exact Or.inr ⟨z1, i, by omega, z3⟩
                     · rcases z with z | ⟨z1, i, z2, z3⟩
                       · exact Or.inl z
                       · exact Or.inr ⟨z1, i, by omega, z3⟩)
                | (have yv : VM (N_n N) (N_w N) (mx6 j) := Classical.byContradiction (fun z => by rw [(e9 j (by omega)).2 z] at c43; exact c43 (by decide))
                   have q : ow (fun k => N_t N (mx6 f (mx6 j k))) (bn N) = false := ab_bl_0.mp c73
                   refine aw_drop 5 (ih (j + 1) mi (by omega) (cu.iff (fun v => ⟨fun z => ?_, fun z => ?_⟩)))
                   · rcases z with z | ⟨z1, i, z2, z3⟩
                     · exact Or.inl z
                     · by_cases e : i = j
                       · subst e; rw [q] at z3; cases z3.2.1
                       · exact Or.inr ⟨z1, i, by omega, z3⟩
                   · rcases z with z | ⟨z1, i, z2, z3⟩
                     · exact Or.inl z
                     · exact Or.inr ⟨z1, i, by omega, z3⟩)
                | (have yv : VM (N_n N) (N_w N) (mx6 j) := Classical.byContradiction (fun z => by rw [(e9 j (by omega)).2 z] at c43; exact c43 (by decide))
                   have es : v34 = nI (mls (fr N) (N_n N) (mx6 f) + mls (fr N) (N_n N) (mx6 j)) := by rw [ev34, (e9 f hf).1 vf, (e9 j (by omega)).1 yv, nI_add]
                   rw [es] at c52
                   have q : ow (fun k => N_t N (mx6 f (mx6 j k))) (bn N) = true := ab_bl_1.mp c73
                   rw [ab_set_set, es]
                   refine aw_drop 5 (ih (j + 1) _ (by omega) (cu.add (by decide) (c := mls (fr N) (N_n N) (mx6 f) + mls (fr N) (N_n N) (mx6 j)) (by omega) (fun v => ⟨fun z => ?_, fun z => ?_⟩) (Int32.not_le.mp c52)))
                   · rcases z with z | ⟨z1, i, z2, z3⟩
                     · exact Or.inl (Or.inl z)
                     · by_cases e : i = j
                       · subst e; exact Or.inr z3.2.2
                       · exact Or.inl (Or.inr ⟨z1, i, by omega, z3⟩)
                   · rcases z with (z | ⟨z1, i, z2, z3⟩) | z
                     · exact Or.inl z
                     · exact Or.inr ⟨z1, i, by omega, z3⟩
                     · exact Or.inr ⟨vf, j, by omega, yv, q, z⟩)
            · refine aw_iload_n d_Days_lessen_55 rfl ?_
              refine aw_iload_n d_Days_lessen_56 rfl ?_
              refine aw_aload_n d_Days_lessen_57 rfl ?_
              refine aw_get (k := 3) d_Days_lessen_58 cl_Days k_Days_9 (by decide) rfl rfl ?_
              refine aw_iload_n d_Days_lessen_61 rfl ?_
              refine aw_ialoadN d_Days_lessen_62 h48 (by omega) (by decide) ?_
              rw [e8 f hf]
              refine aw_aload_n d_Days_lessen_63 rfl ?_
              refine aw_get (k := 3) d_Days_lessen_64 cl_Days k_Days_9 (by decide) rfl rfl ?_
              refine aw_iload d_Days_lessen_67 rfl ?_
              refine aw_ialoadN d_Days_lessen_69 h48 (by omega) (by decide) ?_
              rw [e8 j (by omega)]
              refine aw_s0i d_Days_lessen_70 k_Days_71 ok_Days_isWell rfl ⟨rfl, rfl⟩ (c_DisWell ok.pm (mx6_t hf).1 (mx6_t (show j < 76 by omega)).1 (bnd_lt _ _ _ ok.1)) rfl rfl (Nat.le_of_ble_eq_true rfl) ?_
              refine aw_if_eq (tgt := 82) d_Days_lessen_73 (by decide) (fun c73 => ?_) (fun c73 => ?_)
              · refine aw_iinc (v := nI ((j) + 1)) (L' := [some (.ref 47), some (.int (nI (pk (N_t N)))), some (.int (nI (bn N))), some (.int (nI f)), some (.int (nI ((j) + 1))), some (.int v34)]) d_Days_lessen_82 rfl (nI_1 _) ⟨by decide, rfl⟩ rfl ?_
                refine aw_goto (tgt := 13) d_Days_lessen_85 (by decide) ?_
                have mj := mls_le ok (mx6_t (show j < 76 by omega)).1
                have mf := mls_le ok (mx6_t hf).1
                first
                  | (have nv : ¬ VM (N_n N) (N_w N) (mx6 j) := fun z => by
                       rw [(e9 j (by omega)).1 z] at c43
                       exact absurd c43 (nI_n0 (by omega))
                     refine aw_drop 5 (ih (j + 1) mi (by omega) (cu.iff (fun v => ⟨fun z => ?_, fun z => ?_⟩)))
                     · rcases z with z | ⟨z1, i, z2, z3⟩
                       · exact Or.inl z
                       · by_cases e : i = j
                         · subst e; exact absurd z3.1 nv
                         · exact Or.inr ⟨z1, i, by omega, z3⟩
                     · rcases z with z | ⟨z1, i, z2, z3⟩
                       · exact Or.inl z
                       · exact Or.inr ⟨z1, i, by omega, z3⟩)
                  | (have yv : VM (N_n N) (N_w N) (mx6 j) := Classical.byContradiction (fun z => by rw [(e9 j (by omega)).2 z] at c43; exact c43 (by decide))
                     have es : v34 = nI (mls (fr N) (N_n N) (mx6 f) + mls (fr N) (N_n N) (mx6 j)) := by rw [ev34, (e9 f hf).1 vf, (e9 j (by omega)).1 yv, nI_add]
                     rw [es] at c52
                     by_cases q : ow (fun k => N_t N (mx6 f (mx6 j k))) (bn N) = true
                     · refine aw_drop 5 (ih (j + 1) mi (by omega) (cu.keep (by decide) (c := mls (fr N) (N_n N) (mx6 f) + mls (fr N) (N_n N) (mx6 j)) (by omega) (fun v => ⟨fun z => ?_, fun z => ?_⟩) (Int32.not_lt.mpr c52)))
                       · rcases z with z | ⟨z1, i, z2, z3⟩
                         · exact Or.inl (Or.inl z)
                         · by_cases e : i = j
                           · subst e; exact Or.inr z3.2.2
                           · exact Or.inl (Or.inr ⟨z1, i, by omega, z3⟩)
                       · rcases z with (z | ⟨z1, i, z2, z3⟩) | z
                         · exact Or.inl z
                         · exact Or.inr ⟨z1, i, by omega, z3⟩
                         · exact Or.inr ⟨vf, j, by omega, yv, q, z⟩
                     · refine aw_drop 5 (ih (j + 1) mi (by omega) (cu.iff (fun v => ⟨fun z => ?_, fun z => ?_⟩)))
                       · rcases z with z | ⟨z1, i, z2, z3⟩
                         · exact Or.inl z
                         · by_cases e : i = j
                           · subst e; exact absurd z3.2.1 q
                           · exact Or.inr ⟨z1, i, by omega, z3⟩
                       · rcases z with z | ⟨z1, i, z2, z3⟩
                         · exact Or.inl z
                         · exact Or.inr ⟨z1, i, by omega, z3⟩)
                  | (have yv : VM (N_n N) (N_w N) (mx6 j) := Classical.byContradiction (fun z => by rw [(e9 j (by omega)).2 z] at c43; exact c43 (by decide))
                     have q : ow (fun k => N_t N (mx6 f (mx6 j k))) (bn N) = false := ab_bl_0.mp c73
                     refine aw_drop 5 (ih (j + 1) mi (by omega) (cu.iff (fun v => ⟨fun z => ?_, fun z => ?_⟩)))
                     · rcases z with z | ⟨z1, i, z2, z3⟩
                       · exact Or.inl z
                       · by_cases e : i = j
                         · subst e; rw [q] at z3; cases z3.2.1
                         · exact Or.inr ⟨z1, i, by omega, z3⟩
                     · rcases z with z | ⟨z1, i, z2, z3⟩
                       · exact Or.inl z
                       · exact Or.inr ⟨z1, i, by omega, z3⟩)
                  | (have yv : VM (N_n N) (N_w N) (mx6 j) := Classical.byContradiction (fun z => by rw [(e9 j (by omega)).2 z] at c43; exact c43 (by decide))
                     have es : v34 = nI (mls (fr N) (N_n N) (mx6 f) + mls (fr N) (N_n N) (mx6 j)) := by rw [ev34, (e9 f hf).1 vf, (e9 j (by omega)).1 yv, nI_add]
                     rw [es] at c52
                     have q : ow (fun k => N_t N (mx6 f (mx6 j k))) (bn N) = true := ab_bl_1.mp c73
                     rw [ab_set_set, es]
                     refine aw_drop 5 (ih (j + 1) _ (by omega) (cu.add (by decide) (c := mls (fr N) (N_n N) (mx6 f) + mls (fr N) (N_n N) (mx6 j)) (by omega) (fun v => ⟨fun z => ?_, fun z => ?_⟩) (Int32.not_le.mp c52)))
                     · rcases z with z | ⟨z1, i, z2, z3⟩
                       · exact Or.inl (Or.inl z)
                       · by_cases e : i = j
                         · subst e; exact Or.inr z3.2.2
                         · exact Or.inl (Or.inr ⟨z1, i, by omega, z3⟩)
                     · rcases z with (z | ⟨z1, i, z2, z3⟩) | z
                       · exact Or.inl z
                       · exact Or.inr ⟨z1, i, by omega, z3⟩
                       · exact Or.inr ⟨vf, j, by omega, yv, q, z⟩)
              · refine aw_aload_n d_Days_lessen_76 rfl ?_
                refine aw_iload d_Days_lessen_77 rfl ?_
                refine aw_put (k := 2) (fs' := [.int (ab_bl kn), .int da, .int v34, .ref 48, .ref 49]) d_Days_lessen_79 cl_Days k_Days_60 (by decide) rfl ⟨rfl, rfl⟩ rfl (Nat.le_of_ble_eq_true rfl) rfl ?_
                refine aw_iinc (v := nI ((j) + 1)) (L' := [some (.ref 47), some (.int (nI (pk (N_t N)))), some (.int (nI (bn N))), some (.int (nI f)), some (.int (nI ((j) + 1))), some (.int v34)]) d_Days_lessen_82 rfl (nI_1 _) ⟨by decide, rfl⟩ rfl ?_
                refine aw_goto (tgt := 13) d_Days_lessen_85 (by decide) ?_
                have mj := mls_le ok (mx6_t (show j < 76 by omega)).1
                have mf := mls_le ok (mx6_t hf).1
                first
                  | (have nv : ¬ VM (N_n N) (N_w N) (mx6 j) := fun z => by
                       rw [(e9 j (by omega)).1 z] at c43
                       exact absurd c43 (nI_n0 (by omega))
                     refine aw_drop 5 (ih (j + 1) mi (by omega) (cu.iff (fun v => ⟨fun z => ?_, fun z => ?_⟩)))
                     · rcases z with z | ⟨z1, i, z2, z3⟩
                       · exact Or.inl z
                       · by_cases e : i = j
                         · subst e; exact absurd z3.1 nv
                         · exact Or.inr ⟨z1, i, by omega, z3⟩
                     · rcases z with z | ⟨z1, i, z2, z3⟩
                       · exact Or.inl z
                       · exact Or.inr ⟨z1, i, by omega, z3⟩)
                  | (have yv : VM (N_n N) (N_w N) (mx6 j) := Classical.byContradiction (fun z => by rw [(e9 j (by omega)).2 z] at c43; exact c43 (by decide))
                     have es : v34 = nI (mls (fr N) (N_n N) (mx6 f) + mls (fr N) (N_n N) (mx6 j)) := by rw [ev34, (e9 f hf).1 vf, (e9 j (by omega)).1 yv, nI_add]
                     rw [es] at c52
                     by_cases q : ow (fun k => N_t N (mx6 f (mx6 j k))) (bn N) = true
                     · refine aw_drop 5 (ih (j + 1) mi (by omega) (cu.keep (by decide) (c := mls (fr N) (N_n N) (mx6 f) + mls (fr N) (N_n N) (mx6 j)) (by omega) (fun v => ⟨fun z => ?_, fun z => ?_⟩) (Int32.not_lt.mpr c52)))
                       · rcases z with z | ⟨z1, i, z2, z3⟩
                         · exact Or.inl (Or.inl z)
                         · by_cases e : i = j
                           · subst e; exact Or.inr z3.2.2
                           · exact Or.inl (Or.inr ⟨z1, i, by omega, z3⟩)
                       · rcases z with (z | ⟨z1, i, z2, z3⟩) | z
                         · exact Or.inl z
                         · exact Or.inr ⟨z1, i, by omega, z3⟩
                         · exact Or.inr ⟨vf, j, by omega, yv, q, z⟩
                     · refine aw_drop 5 (ih (j + 1) mi (by omega) (cu.iff (fun v => ⟨fun z => ?_, fun z => ?_⟩)))
                       · rcases z with z | ⟨z1, i, z2, z3⟩
                         · exact Or.inl z
                         · by_cases e : i = j
                           · subst e; exact absurd z3.2.1 q
                           · exact Or.inr ⟨z1, i, by omega, z3⟩
                       · rcases z with z | ⟨z1, i, z2, z3⟩
                         · exact Or.inl z
                         · exact Or.inr ⟨z1, i, by omega, z3⟩)
                  | (have yv : VM (N_n N) (N_w N) (mx6 j) := Classical.byContradiction (fun z => by rw [(e9 j (by omega)).2 z] at c43; exact c43 (by decide))
                     have q : ow (fun k => N_t N (mx6 f (mx6 j k))) (bn N) = false := ab_bl_0.mp c73
                     refine aw_drop 5 (ih (j + 1) mi (by omega) (cu.iff (fun v => ⟨fun z => ?_, fun z => ?_⟩)))
                     · rcases z with z | ⟨z1, i, z2, z3⟩
                       · exact Or.inl z
                       · by_cases e : i = j
                         · subst e; rw [q] at z3; cases z3.2.1
                         · exact Or.inr ⟨z1, i, by omega, z3⟩
                     · rcases z with z | ⟨z1, i, z2, z3⟩
                       · exact Or.inl z
                       · exact Or.inr ⟨z1, i, by omega, z3⟩)
                  | (have yv : VM (N_n N) (N_w N) (mx6 j) := Classical.byContradiction (fun z => by rw [(e9 j (by omega)).2 z] at c43; exact c43 (by decide))
                     have es : v34 = nI (mls (fr N) (N_n N) (mx6 f) + mls (fr N) (N_n N) (mx6 j)) := by rw [ev34, (e9 f hf).1 vf, (e9 j (by omega)).1 yv, nI_add]
                     rw [es] at c52
                     have q : ow (fun k => N_t N (mx6 f (mx6 j k))) (bn N) = true := ab_bl_1.mp c73
                     rw [ab_set_set, es]
                     refine aw_drop 5 (ih (j + 1) _ (by omega) (cu.add (by decide) (c := mls (fr N) (N_n N) (mx6 f) + mls (fr N) (N_n N) (mx6 j)) (by omega) (fun v => ⟨fun z => ?_, fun z => ?_⟩) (Int32.not_le.mp c52)))
                     · rcases z with z | ⟨z1, i, z2, z3⟩
                       · exact Or.inl (Or.inl z)
                       · by_cases e : i = j
                         · subst e; exact Or.inr z3.2.2
                         · exact Or.inl (Or.inr ⟨z1, i, by omega, z3⟩)
                     · rcases z with (z | ⟨z1, i, z2, z3⟩) | z
                       · exact Or.inl z
                       · exact Or.inr ⟨z1, i, by omega, z3⟩
                       · exact Or.inr ⟨vf, j, by omega, yv, q, z⟩)
    exact aw_heap (ab_set_eq (h := h) (a := 47) h47) (loop 76 0 mi (by omega) (cu.iff (fun v => ⟨fun z => z.elim id (fun y => by obtain ⟨_, j, hj, _⟩ := y; exact absurd hj (Nat.not_lt_zero _)), Or.inl⟩)))
  · refine aw_return d_Days_lessen_9 rfl ?_
    have nv : ¬ VM (N_n N) (N_w N) (mx6 f) := fun z => by
      rw [(e9 f hf).1 z] at c6
      exact c6 (nI_pos' (by have := mls_le ok (mx6_t hf).1; omega))
    exact ⟨rfl, rfl, mi, (ab_set_eq h47).symm, cu.iff (fun v => ⟨fun z => z.elim id (fun y => absurd y.1 nv), Or.inl⟩)⟩
