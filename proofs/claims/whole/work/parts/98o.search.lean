/-! meetings told the last first: which way is ahead -/
def rlt : List Nat → List Nat → Prop
  | [], _ => False
  | _ :: _, [] => False
  | a :: p, b :: q => rlt p q ∨ (p = q ∧ a < b)
abbrev rle (p q : List Nat) : Prop := rlt p q ∨ p = q
theorem rlt_tr : ∀ p q s, rlt p q → rlt q s → rlt p s
  | [], _, _, h, _ => False.elim h
  | _ :: _, [], _, h, _ => False.elim h
  | _ :: _, _ :: _, [], _, h => False.elim h
  | a :: p, b :: q, c :: s, h1, h2 => by
    have h1 : rlt p q ∨ (p = q ∧ a < b) := h1
    have h2 : rlt q s ∨ (q = s ∧ b < c) := h2
    show rlt p s ∨ (p = s ∧ a < c)
    rcases h1 with h1 | ⟨e1, h1⟩
    · rcases h2 with h2 | ⟨e2, h2⟩
      · exact Or.inl (rlt_tr p q s h1 h2)
      · rw [← e2]; exact Or.inl h1
    · rcases h2 with h2 | ⟨e2, h2⟩
      · rw [e1]; exact Or.inl h2
      · exact Or.inr ⟨e1.trans e2, by omega⟩
theorem rle_tr {p q s : List Nat} (h1 : rle p q) (h2 : rle q s) : rle p s := by
  rcases h1 with h1 | e1
  · rcases h2 with h2 | e2
    · exact Or.inl (rlt_tr p q s h1 h2)
    · rw [← e2]; exact Or.inl h1
  · rw [e1]; exact h2
theorem rlt_ir : ∀ p, ¬ rlt p p
  | [], h => h
  | a :: p, h => by
    have h : rlt p p ∨ (p = p ∧ a < a) := h
    rcases h with h | h
    · exact rlt_ir p h
    · omega
theorem rlt_tot : ∀ p q : List Nat, p.length = q.length → rlt p q ∨ p = q ∨ rlt q p
  | [], [], _ => Or.inr (Or.inl rfl)
  | [], _ :: _, h => by rw [List.length_cons, List.length_nil] at h; omega
  | _ :: _, [], h => by rw [List.length_cons, List.length_nil] at h; omega
  | a :: p, b :: q, h => by
    rw [List.length_cons, List.length_cons] at h
    show (rlt p q ∨ (p = q ∧ a < b)) ∨ a :: p = b :: q ∨ (rlt q p ∨ (q = p ∧ b < a))
    rcases rlt_tot p q (by omega) with z | z | z
    · exact Or.inl (Or.inl z)
    · rcases Nat.lt_trichotomy a b with y | y | y
      · exact Or.inl (Or.inr ⟨z, y⟩)
      · exact Or.inr (Or.inl (by rw [y, z]))
      · exact Or.inr (Or.inr (Or.inr ⟨z.symm, y⟩))
    · exact Or.inr (Or.inr (Or.inl z))
theorem rle_cons {p q : List Nat} (j : Nat) (h : rle p q) : rle (j :: p) (j :: q) := by
  rcases h with h | h
  · exact Or.inl (show rlt p q ∨ _ from Or.inl h)
  · exact Or.inr (by rw [h])
def llt : List Nat → List Nat → Prop
  | [], _ => False
  | _ :: _, [] => False
  | a :: p, b :: q => a < b ∨ (a = b ∧ llt p q)
theorem llt_app : ∀ u v x y : List Nat, llt u v → llt (u ++ x) (v ++ y)
  | [], _, _, _, h => False.elim h
  | _ :: _, [], _, _, h => False.elim h
  | a :: u, b :: v, x, y, h => by
    have h : a < b ∨ (a = b ∧ llt u v) := h
    show a < b ∨ (a = b ∧ llt (u ++ x) (v ++ y))
    exact h.imp id (fun z => ⟨z.1, llt_app u v x y z.2⟩)
theorem llt_pre : ∀ (u : List Nat) {a b : Nat}, a < b → llt (u ++ [a]) (u ++ [b])
  | [], _, _, h => Or.inl h
  | _ :: u, _, _, h => Or.inr ⟨rfl, llt_pre u h⟩
theorem rlt_llt : ∀ p q : List Nat, rlt p q → llt p.reverse q.reverse
  | [], _, h => False.elim h
  | _ :: _, [], h => False.elim h
  | a :: p, b :: q, h => by
    have h : rlt p q ∨ (p = q ∧ a < b) := h
    rw [List.reverse_cons, List.reverse_cons]
    rcases h with h | ⟨e, h⟩
    · exact llt_app _ _ _ _ (rlt_llt p q h)
    · rw [e]; exact llt_pre _ h
theorem llt_lle : ∀ u v : List Nat, llt u v → lle u v
  | [], _, _ => trivial
  | _ :: _, [], h => False.elim h
  | a :: u, b :: v, h => by
    have h : a < b ∨ (a = b ∧ llt u v) := h
    exact h.imp id (fun z => ⟨z.1, llt_lle u v z.2⟩)
theorem lle_rf : ∀ u : List Nat, lle u u
  | [] => trivial
  | _ :: u => Or.inr ⟨rfl, lle_rf u⟩
theorem rle_lle {p q : List Nat} (h : rle p q) : lle p.reverse q.reverse := by
  rcases h with h | h
  · exact llt_lle _ _ (rlt_llt p q h)
  · rw [h]; exact lle_rf _
/-! THE SEARCH: sn: seen, cl: taken up, M: miles, P: meetings (the last first), F: from where, J: by which; K: how many are taken up, cu: the last one, dn: its meetings that are gone over, kc: its key -/
abbrev lb (M : Nat → Nat) (P : Nat → List Nat) (r : Nat) : Nat := 1024 * M r + (P r).length
abbrev kyf (N : NS) (b : Nat) (M : Nat → Nat) (P : Nat → List Nat) (r : Nat) : Nat := 1024 * M r + (P r).length + 1024 * ffo N (xr r) b (N_n N)
abbrev lbj (N : NS) (M : Nat → Nat) (P : Nat → List Nat) (f j : Nat) : Nat := 1024 * M f + (P f).length + 1024 * sco N (xr f) j + 1
abbrev rto (N : NS) (f j : Nat) : Nat := rk (sto N (xr f) j)
def SN_ (N : NS) (b K : Nat) (cl : Nat → Prop) (M : Nat → Nat) (P : Nat → List Nat) (F J : Nat → Nat) (r : Nat) : Prop := r < 720 ∧ Tb (N_n N) (xr r) ∧ rk (xr r) = r ∧ bnd (N_n N) (N_w N) (xr r) = b ∧ (P r).length ≤ K ∧ M r ≤ 2160 * (P r).length ∧ ((P r = [] ∧ xr r = N_t N ∧ M r = 0) ∨ (P r = J r :: P (F r) ∧ cl (F r) ∧ J r < 298 ∧ sok N (xr (F r)) (J r) ∧ xr r = sto N (xr (F r)) (J r) ∧ M r = M (F r) + sco N (xr (F r)) (J r)))
/-- a meeting from f is gone over -/
def ED_ (N : NS) (lim : Nat) (sn : Nat → Prop) (M : Nat → Nat) (P : Nat → List Nat) (f j : Nat) : Prop := lim < lbj N M P f j ∨ (sn (rto N f j) ∧ (lb M P (rto N f j) < lbj N M P f j ∨ (lb M P (rto N f j) = lbj N M P f j ∧ rle (P (rto N f j)) (j :: P f))))
def IV (N : NS) (b K cu : Nat) (dn : Nat → Prop) (kc lim : Nat) (sn cl : Nat → Prop) (M : Nat → Nat) (P : Nat → List Nat) (F J : Nat → Nat) : Prop :=
  (∀ r, sn r → SN_ N b K cl M P F J r) ∧ (∀ r, cl r → sn r ∧ (P r).length < K ∧ kyf N b M P r ≤ kc) ∧ (∀ r, sn r → ¬ cl r → kc ≤ kyf N b M P r) ∧
  (∀ f, cl f → ow (xr f) b = false → ∀ j, j < 298 → sok N (xr f) j → (f = cu → dn j) → ED_ N lim sn M P f j) ∧
  (∀ r, sn r → ow (xr r) b = true → lim ≤ lb M P r) ∧ (lim = 2147483647 ∨ ∃ r, sn r ∧ ow (xr r) b = true ∧ lb M P r = lim) ∧
  (∃ o : Nat → Nat, (∀ i, i < K → cl (o i)) ∧ ∀ i j, i < j → j < K → o i ≠ o j) ∧ sn (rk (N_t N)) ∧ P (rk (N_t N)) = [] ∧ M (rk (N_t N)) = 0
theorem IV.dn_ {N : NS} {b K cu : Nat} {dn : Nat → Prop} {kc lim : Nat} {sn cl : Nat → Prop} {M : Nat → Nat} {P : Nat → List Nat} {F J : Nat → Nat} (iv : IV N b K cu dn kc lim sn cl M P F J) {dn2 : Nat → Prop} (h : ∀ j, j < 298 → sok N (xr cu) j → dn2 j → dn j ∨ ED_ N lim sn M P cu j) : IV N b K cu dn2 kc lim sn cl M P F J := by
  obtain ⟨i1, i2, i3, i4, i5, i6, i7, i8⟩ := iv
  refine ⟨i1, i2, i3, fun f hf now j hj hs hd => ?_, i5, i6, i7, i8⟩
  by_cases e : f = cu
  · rcases h j hj (by rw [← e]; exact hs) (hd e) with z | z
    · exact i4 f hf now j hj hs (fun _ => z)
    · rw [e]; exact z
  · exact i4 f hf now j hj hs (fun z => absurd z e)
theorem IV.well_ {N : NS} {b K cu : Nat} {dn : Nat → Prop} {kc lim : Nat} {sn cl : Nat → Prop} {M : Nat → Nat} {P : Nat → List Nat} {F J : Nat → Nat} (iv : IV N b K cu dn kc lim sn cl M P F J) (hw : ow (xr cu) b = true) {dn2 : Nat → Prop} : IV N b K cu dn2 kc lim sn cl M P F J := by
  obtain ⟨i1, i2, i3, i4, i5, i6, i7, i8⟩ := iv
  refine ⟨i1, i2, i3, fun f hf now j hj hs hd => ?_, i5, i6, i7, i8⟩
  by_cases e : f = cu
  · rw [e, hw] at now; cases now
  · exact i4 f hf now j hj hs (fun z => absurd z e)
theorem IV.K_ {N : NS} {b K cu : Nat} {dn : Nat → Prop} {kc lim : Nat} {sn cl : Nat → Prop} {M : Nat → Nat} {P : Nat → List Nat} {F J : Nat → Nat} (iv : IV N b K cu dn kc lim sn cl M P F J) : K ≤ 720 := by
  obtain ⟨i1, i2, i3, i4, i5, i6, ⟨o, o1, o2⟩, i8⟩ := iv
  exact fb_holes 720 K o (fun i hi => (i1 _ (i2 _ (o1 i hi)).1).1) o2
/-- a way to a table counts -/
theorem IV.upd_ {N : NS} (ok : N_ok N) {b K cu : Nat} {dn : Nat → Prop} {kc lim : Nat} {sn cl : Nat → Prop} {M : Nat → Nat} {P : Nat → List Nat} {F J : Nat → Nat} (iv : IV N b K cu dn kc lim sn cl M P F J) {j : Nat} (hf : cl cu) (hkc : kyf N b M P cu = kc) (hj : j < 298) (hs : sok N (xr cu) j) {r : Nat} (er : rto N cu j = r) (hnc : ¬ cl r) {lab : Nat} (elb : lbj N M P cu j = lab) (hle : sn r → lab ≤ lb M P r) (hlex : sn r → lab = lb M P r → rle (j :: P cu) (P r)) {lim2 : Nat} (hlim : (lab < lim ∧ ow (sto N (xr cu) j) b = true ∧ lim2 = lab) ∨ (¬ (lab < lim ∧ ow (sto N (xr cu) j) b = true) ∧ lim2 = lim)) : IV N b K cu (fun i => dn i ∨ i = j) kc lim2 (fun z => sn z ∨ z = r) cl (ud M r (M cu + sco N (xr cu) j)) (ud P r (j :: P cu)) (ud F r cu) (ud J r j) := by
  obtain ⟨i1, i2, i3, i4, i5, i6, i7, i8⟩ := iv
  obtain ⟨s1, s2, s3, s4, s5, s6, s7⟩ := i1 cu (i2 cu hf).1
  have hlen := (i2 cu hf).2.1
  have hy := sto_Tb ok s2 hs.2.1
  have hc := mil_le ok s2 hs.2.1
  have hcn := cons_ ok s2 hs b
  have ex : xr r = sto N (xr cu) j := by rw [← er]; exact xr_rk hy.1
  have ncl : ∀ z, cl z → z ≠ r := fun z hz e => hnc (by rw [← e]; exact hz)
  have fM : ∀ z, z ≠ r → ud M r (M cu + sco N (xr cu) j) z = M z := fun z hz => ud_n hz
  have fP : ∀ z, z ≠ r → ud P r (j :: P cu) z = P z := fun z hz => ud_n hz
  have rM : ud M r (M cu + sco N (xr cu) j) r = M cu + sco N (xr cu) j := ud_s
  have rP : ud P r (j :: P cu) r = j :: P cu := ud_s
  have rlb : lb (ud M r (M cu + sco N (xr cu) j)) (ud P r (j :: P cu)) r = lab := by
    show 1024 * ud M r (M cu + sco N (xr cu) j) r + (ud P r (j :: P cu) r).length = lab
    rw [rM, rP, List.length_cons, ← elb]
    show _ = 1024 * M cu + (P cu).length + 1024 * sco N (xr cu) j + 1
    omega
  have elb2 : 1024 * M cu + (P cu).length + 1024 * sco N (xr cu) j + 1 = lab := elb
  have hl2 : lim2 ≤ lim := by rcases hlim with z | z <;> omega
  refine ⟨fun z hz => ?_, fun z hz => ?_, fun z hz hzc => ?_, fun f hf2 now j2 hj2 hs2 hd => ?_, fun z hz hw => ?_, ?_, i7, Or.inl i8.1, ?_⟩
  · by_cases e : z = r
    · subst e
      refine ⟨by rw [← er]; exact (rk_t hy.1).1, by rw [ex]; exact hy, by rw [ex]; exact er, by rw [ex, bnd_sto ok s2 hs]; exact s4, ?_, ?_, Or.inr ?_⟩
      · rw [rP, List.length_cons]; omega
      · rw [rM, rP, List.length_cons]; omega
      · have nr := ncl cu hf
        rw [rP, rM, show ud F z cu z = cu from ud_s, show ud J z j z = j from ud_s, fP cu nr, fM cu nr]
        exact ⟨rfl, hf, hj, hs, ex, rfl⟩
    · have hz : sn z := hz.elim id (fun q => absurd q e)
      obtain ⟨t1, t2, t3, t4, t5, t6, t7⟩ := i1 z hz
      refine ⟨t1, t2, t3, t4, by rw [fP z e]; exact t5, by rw [fP z e, fM z e]; exact t6, ?_⟩
      rw [fP z e, fM z e, show ud F r cu z = F z from ud_n e, show ud J r j z = J z from ud_n e]
      rcases t7 with t7 | t7
      · exact Or.inl t7
      · have nr := ncl _ t7.2.1
        rw [fP _ nr, fM _ nr]
        exact Or.inr t7
  · obtain ⟨a1, a2, a3⟩ := i2 z hz
    have nr := ncl z hz
    refine ⟨Or.inl a1, by rw [fP z nr]; exact a2, ?_⟩
    show 1024 * ud M r (M cu + sco N (xr cu) j) z + (ud P r (j :: P cu) z).length + _ ≤ kc
    rw [fP z nr, fM z nr]
    exact a3
  · show kc ≤ 1024 * ud M r (M cu + sco N (xr cu) j) z + (ud P r (j :: P cu) z).length + 1024 * ffo N (xr z) b (N_n N)
    by_cases e : z = r
    · rw [e, rM, rP, List.length_cons, ex]
      have : 1024 * M cu + (P cu).length + 1024 * ffo N (xr cu) b (N_n N) = kc := hkc
      omega
    · rw [fP z e, fM z e]
      exact i3 z (hz.elim id (fun q => absurd q e)) hzc
  · have nr := ncl f hf2
    have efj : lbj N (ud M r (M cu + sco N (xr cu) j)) (ud P r (j :: P cu)) f j2 = lbj N M P f j2 := by
      show 1024 * ud M r (M cu + sco N (xr cu) j) f + (ud P r (j :: P cu) f).length + _ + 1 = _
      rw [fP f nr, fM f nr]
    unfold ED_
    rw [efj, fP f nr]
    by_cases en : f = cu ∧ j2 = j
    · obtain ⟨e1, e2⟩ := en
      subst e1
      subst e2
      rw [er, rlb, rP]
      exact Or.inr ⟨Or.inr rfl, Or.inr ⟨elb.symm, Or.inr rfl⟩⟩
    · have hd2 : f = cu → dn j2 := fun z => (hd z).elim id (fun q => absurd ⟨z, q⟩ en)
      rcases i4 f hf2 now j2 hj2 hs2 hd2 with z | ⟨z1, z2⟩
      · exact Or.inl (by omega)
      · refine Or.inr ⟨Or.inl z1, ?_⟩
        by_cases e : rto N f j2 = r
        · rw [e] at z1 z2 ⊢
          rw [rlb, rP]
          have h1 := hle z1
          rcases z2 with z2 | ⟨z2, z3⟩
          · exact Or.inl (by omega)
          · by_cases q : lab = lb M P r
            · exact Or.inr ⟨q.trans z2, rle_tr (hlex z1 q) z3⟩
            · exact Or.inl (by omega)
        · rw [fP _ e, show lb (ud M r (M cu + sco N (xr cu) j)) (ud P r (j :: P cu)) (rto N f j2) = lb M P (rto N f j2) from by
            show 1024 * ud M r (M cu + sco N (xr cu) j) (rto N f j2) + (ud P r (j :: P cu) (rto N f j2)).length = _
            rw [fP _ e, fM _ e]]
          exact z2
  · by_cases e : z = r
    · rw [e, rlb]
      rw [e, ex] at hw
      rcases hlim with q | q
      · omega
      · have : ¬ lab < lim := fun y => q.1 ⟨y, hw⟩
        omega
    · have h1 := i5 z (hz.elim id (fun q => absurd q e)) hw
      show lim2 ≤ 1024 * ud M r (M cu + sco N (xr cu) j) z + (ud P r (j :: P cu) z).length
      rw [fP z e, fM z e]
      have h1 : lim ≤ 1024 * M z + (P z).length := h1
      omega
  · rcases hlim with ⟨q1, q2, q3⟩ | ⟨q1, q2⟩
    · exact Or.inr ⟨r, Or.inr rfl, by rw [ex]; exact q2, by rw [rlb]; exact q3.symm⟩
    · rw [q2]
      rcases i6 with y | ⟨z, z1, z2, z3⟩
      · exact Or.inl y
      · by_cases e : z = r
        · refine Or.inr ⟨r, Or.inr rfl, by rw [← e]; exact z2, ?_⟩
          rw [rlb]
          rw [e] at z1 z2 z3
          rw [ex] at z2
          have h1 := hle z1
          have : ¬ lab < lim := fun y => q1 ⟨y, z2⟩
          have z3 : 1024 * M r + (P r).length = lim := z3
          have h1 : lab ≤ 1024 * M r + (P r).length := h1
          omega
        · refine Or.inr ⟨z, Or.inl z1, z2, ?_⟩
          show 1024 * ud M r (M cu + sco N (xr cu) j) z + (ud P r (j :: P cu) z).length = lim
          rw [fP z e, fM z e]
          exact z3
  · have ne : rk (N_t N) ≠ r := fun e => by
      have h1 := hle (by rw [← e]; exact i8.1)
      have h1 : lab ≤ 1024 * M r + (P r).length := h1
      rw [← e, i8.2.1, i8.2.2, List.length_nil] at h1
      omega
    rw [fP _ ne, fM _ ne]
    exact i8.2
/-- the open table with the least key is taken up -/
theorem IV.pop_ {N : NS} {b K cu : Nat} {kc lim : Nat} {sn cl : Nat → Prop} {M : Nat → Nat} {P : Nat → List Nat} {F J : Nat → Nat} (iv : IV N b K cu (fun _ => True) kc lim sn cl M P F J) {r : Nat} (h1 : sn r) (h2 : ¬ cl r) (hm : ∀ z, sn z → ¬ cl z → kyf N b M P r ≤ kyf N b M P z) : IV N b (K + 1) r (fun _ => False) (kyf N b M P r) lim sn (fun z => cl z ∨ z = r) M P F J := by
  obtain ⟨i1, i2, i3, i4, i5, i6, ⟨o, o1, o2⟩, i8⟩ := iv
  have hkr := i3 r h1 h2
  refine ⟨fun z hz => ?_, fun z hz => ?_, fun z hz hzc => hm z hz (fun q => hzc (Or.inl q)), fun f hf now j hj hs hd => ?_, i5, i6, ⟨ud o K r, fun i hi => ?_, fun i j hij hj => ?_⟩, i8⟩
  · obtain ⟨t1, t2, t3, t4, t5, t6, t7⟩ := i1 z hz
    exact ⟨t1, t2, t3, t4, by omega, t6, t7.imp id (fun q => ⟨q.1, Or.inl q.2.1, q.2.2⟩)⟩
  · rcases hz with hz | hz
    · obtain ⟨a1, a2, a3⟩ := i2 z hz
      exact ⟨a1, by omega, Nat.le_trans a3 hkr⟩
    · rw [hz]
      exact ⟨h1, Nat.lt_succ_of_le (i1 r h1).2.2.2.2.1, Nat.le_refl _⟩
  · rcases hf with hf | hf
    · exact i4 f hf now j hj hs (fun _ => trivial)
    · exact False.elim (hd hf)
  · by_cases e : i = K
    · rw [e, ud_s]; exact Or.inr rfl
    · rw [ud_n e]; exact Or.inl (o1 i (by omega))
  · by_cases e : j = K
    · rw [e, ud_s, ud_n (by omega)]
      exact fun z => h2 (by rw [← z]; exact o1 i (by omega))
    · rw [ud_n e, ud_n (by omega)]
      exact o2 i j hij (by omega)
/-- nothing is left that could be of use -/
theorem IV.fin_ {N : NS} (ok : N_ok N) {b K cu : Nat} {kc lim : Nat} {sn cl : Nat → Prop} {M : Nat → Nat} {P : Nat → List Nat} {F J : Nat → Nat} (iv : IV N b K cu (fun _ => True) kc lim sn cl M P F J) (tm : ∀ r, sn r → kyf N b M P r ≤ lim → cl r) : ∀ js x p m m2, Tb (N_n N) x → bnd (N_n N) (N_w N) x = b → cl (rk x) → (lb M P (rk x) < 1024 * m + p.length ∨ (lb M P (rk x) = 1024 * m + p.length ∧ rle (P (rk x)) p)) → WL N js x m2 → 1024 * (m + m2) + p.length + js.length ≤ lim → ∃ w, cl w ∧ ow (xr w) b = true ∧ (lb M P w < 1024 * (m + m2) + p.length + js.length ∨ (lb M P w = 1024 * (m + m2) + p.length + js.length ∧ rle (P w) (js.reverse ++ p))) := by
  obtain ⟨i1, i2, i3, i4, i5, i6, i7, i8⟩ := iv
  intro js
  induction js with
  | nil =>
    intro x p m m2 hx hb hc hl hw hlim
    obtain ⟨w1, w2⟩ := hw
    refine ⟨rk x, hc, by rw [xr_rk hx.1, ← hb]; exact w1, ?_⟩
    rw [w2, List.length_nil]
    exact hl
  | cons j js ih =>
    intro x p m m2 hx hb hc hl hw hlim
    obtain ⟨hj, hs, m3, hw3, em⟩ := hw
    rw [List.length_cons] at hlim
    have exx := xr_rk hx.1
    have now : ow (xr (rk x)) b = false := Bool.eq_false_iff.mpr (fun z => by
      have := i5 _ (i2 _ hc).1 z
      omega)
    have hy := sto_Tb ok hx hs.2.1
    have hby : bnd (N_n N) (N_w N) (sto N x j) = b := by rw [bnd_sto ok hx hs]; exact hb
    have hh := WL_h ok js _ m3 hy hby hw3
    have ee : lbj N M P (rk x) j = lb M P (rk x) + 1024 * sco N x j + 1 := by
      show 1024 * M (rk x) + (P (rk x)).length + 1024 * sco N (xr (rk x)) j + 1 = _
      rw [exx]
    have er : rto N (rk x) j = rk (sto N x j) := by
      show rk (sto N (xr (rk x)) j) = _
      rw [exx]
    have he := i4 _ hc now j hj (by rw [exx]; exact hs) (fun _ => trivial)
    unfold ED_ at he
    rw [ee, er] at he
    rcases he with z | ⟨z1, z2⟩
    · omega
    · have hlb2 : lb M P (rk (sto N x j)) < 1024 * (m + sco N x j) + (j :: p).length ∨ (lb M P (rk (sto N x j)) = 1024 * (m + sco N x j) + (j :: p).length ∧ rle (P (rk (sto N x j))) (j :: p)) := by
        rw [List.length_cons]
        rcases hl with y | ⟨y1, y2⟩
        · exact Or.inl (by omega)
        · rcases z2 with z2 | ⟨z2, z3⟩
          · exact Or.inl (by omega)
          · exact Or.inr ⟨by omega, rle_tr z3 (rle_cons j y2)⟩
      have hcl : cl (rk (sto N x j)) := tm _ z1 (by
        show 1024 * M (rk (sto N x j)) + (P (rk (sto N x j))).length + 1024 * ffo N (xr (rk (sto N x j))) b (N_n N) ≤ lim
        rw [xr_rk hy.1]
        rw [List.length_cons] at hlb2
        have h9 : 1024 * M (rk (sto N x j)) + (P (rk (sto N x j))).length ≤ 1024 * (m + sco N x j) + (p.length + 1) := by
          rcases hlb2 with y | ⟨y, _⟩
          · exact Nat.le_of_lt y
          · exact Nat.le_of_eq y
        omega)
      obtain ⟨w, c1, c2, c3⟩ := ih _ (j :: p) (m + sco N x j) m3 hy hby hcl hlb2 hw3 (by rw [List.length_cons]; omega)
      refine ⟨w, c1, c2, ?_⟩
      rw [List.length_cons] at c3 ⊢
      rw [show 1024 * (m + m2) + p.length + (js.length + 1) = 1024 * (m + sco N x j + m3) + (p.length + 1) + js.length by omega, List.reverse_cons, List.append_assoc]
      exact c3
/-- what is seen is reached by its meetings -/
theorem IV.way_ {N : NS} {b K cu : Nat} {dn : Nat → Prop} {kc lim : Nat} {sn cl : Nat → Prop} {M : Nat → Nat} {P : Nat → List Nat} {F J : Nat → Nat} (iv : IV N b K cu dn kc lim sn cl M P F J) : ∀ n r js m, (P r).length = n → sn r → WL N js (xr r) m → WL N ((P r).reverse ++ js) (N_t N) (M r + m) := by
  obtain ⟨i1, i2, i3, i4, i5, i6, i7, i8⟩ := iv
  intro n
  induction n with
  | zero =>
    intro r js m hn hs hw
    have e := List.length_eq_zero_iff.mp hn
    rcases (i1 r hs).2.2.2.2.2.2 with z | z
    · rw [z.1, z.2.2, List.reverse_nil, List.nil_append, Nat.zero_add, ← z.2.1]
      exact hw
    · rw [z.1] at e; cases e
  | succ n ih =>
    intro r js m hn hs hw
    rcases (i1 r hs).2.2.2.2.2.2 with z | ⟨z1, z2, z3, z4, z5, z6⟩
    · rw [z.1, List.length_nil] at hn; omega
    · rw [z1, List.length_cons] at hn
      have h1 := ih (F r) (J r :: js) (sco N (xr (F r)) (J r) + m) (by omega) (i2 _ z2).1 ⟨z3, z4, m, by rw [← z5]; exact hw, rfl⟩
      rw [z1, List.reverse_cons, List.append_assoc, z6, Nat.add_assoc]
      exact h1
/-- the goal: of the well tables that are taken up, the one whose meetings come first -/
def GO (b : Nat) (lim : Nat) (cl : Nat → Prop) (M : Nat → Nat) (P : Nat → List Nat) (go : Int32) : Prop := (go = -1 ∧ ∀ r, cl r → ow (xr r) b = false) ∨ ∃ g, go = nI g ∧ cl g ∧ ow (xr g) b = true ∧ lb M P g = lim ∧ ∀ r, cl r → ow (xr r) b = true → lb M P r = lim ∧ rle (P g) (P r)
theorem IV.plan_ {N : NS} (ok : N_ok N) {b K cu : Nat} {kc lim : Nat} {sn cl : Nat → Prop} {M : Nat → Nat} {P : Nat → List Nat} {F J : Nat → Nat} (iv : IV N b K cu (fun _ => True) kc lim sn cl M P F J) (eb : bnd (N_n N) (N_w N) (N_t N) = b) (tm : ∀ r, sn r → kyf N b M P r ≤ lim → cl r) (h0 : cl (rk (N_t N))) {go : Int32} (hg : GO b lim cl M P go) : ∃ g, go = nI g ∧ cl g ∧ BP N (N_t N) (P g).reverse (M g) := by
  have hT : Tb (N_n N) (N_t N) := ⟨ok.pm, ok.2.2.1⟩
  have hTT := (TT_le ok.1).1
  have hK := iv.K_
  obtain ⟨i1, i2, i3, i4, i5, i6, i7, i8⟩ := id iv
  have fin2 : ∀ js m, WL N js (N_t N) m → 1024 * m + js.length ≤ lim → ∃ w, cl w ∧ ow (xr w) b = true ∧ (lb M P w < 1024 * m + js.length ∨ (lb M P w = 1024 * m + js.length ∧ rle (P w) js.reverse)) := fun js m hw hl => by
    have := iv.fin_ ok tm js (N_t N) [] 0 m hT eb h0 (Or.inr ⟨by show 1024 * M (rk (N_t N)) + (P (rk (N_t N))).length = _; rw [i8.2.1, i8.2.2], Or.inr i8.2.1⟩) hw (by rw [List.length_nil]; omega)
    rw [Nat.zero_add, List.length_nil, Nat.add_zero, List.append_nil] at this
    exact this
  obtain ⟨v, v1, v2⟩ := PW_min ok.1 ok.2.2.2.2.1 hT
  obtain ⟨m3, w3⟩ := WK_tf _ _ _ ((PW_WK ok v _ hT).mp v2.1)
  obtain ⟨k4, m4, b1, b2, b3, b4⟩ := WK_min ok v m3 _ hT w3
  obtain ⟨js4, e4, w4⟩ := WK_WL k4 _ m4 b4
  have hm4 := WK_le ok k4 _ m4 hT b4
  have hex : ∃ w, cl w ∧ ow (xr w) b = true := by
    by_cases q : 1024 * m4 + js4.length ≤ lim
    · obtain ⟨w, a1, a2, _⟩ := fin2 js4 m4 w4 q
      exact ⟨w, a1, a2⟩
    · rcases i6 with z | ⟨r, z1, z2, z3⟩
      · omega
      · refine ⟨r, tm r z1 ?_, z2⟩
        show 1024 * M r + (P r).length + 1024 * ffo N (xr r) b (N_n N) ≤ lim
        rw [ffo_ow ok.1 (i1 r z1).2.1 z2]
        have z3 : 1024 * M r + (P r).length = lim := z3
        omega
  rcases hg with ⟨_, hno⟩ | ⟨g, g1, g2, g3, g4, g5⟩
  · obtain ⟨w, a1, a2⟩ := hex
    rw [hno w a1] at a2
    cases a2
  · refine ⟨g, g1, g2, ?_⟩
    have hsg := (i2 g g2).1
    have hlg : (P g).length < 720 := by have := (i2 g g2).2.1; omega
    have g4 : 1024 * M g + (P g).length = lim := g4
    have hbg := (i1 g hsg).2.2.2.1
    refine ⟨?_, fun js2 m2 hw => ?_, fun js2 hw hl => ?_⟩
    · have := iv.way_ _ g [] 0 rfl hsg ⟨by rw [hbg]; exact g3, rfl⟩
      rw [List.append_nil, Nat.add_zero] at this
      exact this
    · obtain ⟨k5, m5, c1, c2, c3, c4⟩ := WK_min ok _ _ _ hT (WL_WK _ _ _ hw)
      obtain ⟨js5, e5, w5⟩ := WK_WL k5 _ m5 c4
      have hlim : lim ≤ 1024 * m5 + js5.length := by
        by_cases q : 1024 * m5 + js5.length ≤ lim
        · obtain ⟨w, a1, a2, a3⟩ := fin2 js5 m5 w5 q
          have := (g5 w a1 a2).1
          omega
        · omega
      rw [List.length_reverse]
      omega
    · rw [List.length_reverse] at hl
      obtain ⟨w, a1, a2, a3⟩ := fin2 js2 (M g) hw (by omega)
      obtain ⟨d1, d2⟩ := g5 w a1 a2
      rcases a3 with z | ⟨_, z⟩
      · omega
      · have := rle_lle (rle_tr d2 z)
        rwa [List.reverse_reverse] at this
