/-! ways told by their meetings, and the plan: the first of the least -/
def WL (N : NS) : List Nat → (Nat → Nat) → Nat → Prop
  | [], x, m => ow x (bnd (N_n N) (N_w N) x) = true ∧ m = 0
  | j :: js, x, m => j < 298 ∧ sok N x j ∧ ∃ m2, WL N js (sto N x j) m2 ∧ m = sco N x j + m2
theorem cs_f (N : NS) (x : Nat → Nat) (j : Nat) : cs N false x j = sco N x j := by
  unfold cs
  rw [if_neg (by decide)]
theorem WL_WK {N : NS} : ∀ js x m, WL N js x m → WK N false js.length x m
  | [], _, _, h => h
  | j :: js, x, m, ⟨hj, hs, m2, hw, e⟩ => ⟨j, hj, ⟨hs, fun z => absurd z (by decide)⟩, m2, WL_WK js _ m2 hw, by rw [cs_f]; exact e⟩
theorem WK_WL {N : NS} : ∀ k x m, WK N false k x m → ∃ js, js.length = k ∧ WL N js x m
  | 0, _, _, h => ⟨[], rfl, h⟩
  | k + 1, x, m, ⟨j, hj, he, m2, hw, e⟩ => by
    obtain ⟨js, e1, h1⟩ := WK_WL k _ m2 hw
    rw [cs_f] at e
    exact ⟨j :: js, by rw [List.length_cons, e1], hj, he.1, m2, h1, e⟩
theorem WK_tf {N : NS} : ∀ k x m, WK N true k x m → ∃ m2, WK N false k x m2
  | 0, _, m, h => ⟨m, h⟩
  | k + 1, x, m, ⟨j, hj, he, m2, hw, e⟩ => by
    obtain ⟨m3, h3⟩ := WK_tf k _ m2 hw
    exact ⟨_, j, hj, ⟨he.1, fun z => absurd z (by decide)⟩, m3, h3, rfl⟩
def lle : List Nat → List Nat → Prop
  | [], _ => True
  | _ :: _, [] => False
  | a :: as, b :: bs => a < b ∨ (a = b ∧ lle as bs)
theorem lle_anti : ∀ (as bs : List Nat), lle as bs → lle bs as → as = bs
  | [], [], _, _ => rfl
  | [], _ :: _, _, h => False.elim h
  | _ :: _, [], h, _ => False.elim h
  | a :: as, b :: bs, h1, h2 => by
    have h1 : a < b ∨ (a = b ∧ lle as bs) := h1
    have h2 : b < a ∨ (b = a ∧ lle bs as) := h2
    rcases h1 with h1 | ⟨e, h1⟩
    · omega
    · rcases h2 with h2 | ⟨_, h2⟩
      · omega
      · rw [e, lle_anti as bs h1 h2]
/-- the plan from a table: its meetings and miles -/
def BP (N : NS) (x : Nat → Nat) (js : List Nat) (m : Nat) : Prop := WL N js x m ∧ (∀ js2 m2, WL N js2 x m2 → lxl m js.length m2 js2.length) ∧ ∀ js2, WL N js2 x m → js2.length = js.length → lle js js2
theorem BP.eq {N : NS} {x : Nat → Nat} {js js2 : List Nat} {m m2 : Nat} (a : BP N x js m) (b : BP N x js2 m2) : m = m2 ∧ js = js2 := by
  have h1 := a.2.1 js2 m2 b.1
  have h2 := b.2.1 js m a.1
  have em : m = m2 := by omega
  have el : js2.length = js.length := by omega
  subst em
  exact ⟨rfl, lle_anti js js2 (a.2.2 js2 b.1 el) (b.2.2 js a.1 el.symm)⟩
/-- what plan answers -/
def spv (js : List Nat) (m : Nat) (i : Int32) : Int32 := if i = -1 then nI m else if i = -2 then nI js.length else if i.toInt < js.length then nI (mtA (js.getD (cl i) 0)) else -4
def SPP (S : SS) (i r : Int32) : Prop := if i < -2 then r = -1 else ∃ js m, BP (S_N S) (N_t (S_N S)) js m ∧ r = spv js m i
theorem SPP.eq {S : SS} {i r r2 : Int32} (a : SPP S i r) (b : SPP S i r2) : r = r2 := by
  unfold SPP at a b
  by_cases q : i < -2
  · rw [if_pos q] at a b
    rw [a, b]
  · rw [if_neg q] at a b
    obtain ⟨js, m, h1, e1⟩ := a
    obtain ⟨js2, m2, h2, e2⟩ := b
    obtain ⟨em, ej⟩ := h1.eq h2
    rw [e1, e2, em, ej]
/-! the reference: least miles and meetings settled; the first meeting of a least way, again and again -/
def lw (N : NS) (lm ly : Nat → Nat) (x : Nat → Nat) (j : Nat) : Prop := sok N x j ∧ lm (num (N_n N) (sto N x j)) + sco N x j = lm (num (N_n N) x) ∧ ly (num (N_n N) (sto N x j)) + 1 = ly (num (N_n N) x)
theorem SE_at {N : NS} (ok : N_ok N) {lm ly : Nat → Nat} (se : SE N false lm ly) {x : Nat → Nat} (hx : Tb (N_n N) x) : (lm (num (N_n N) x) = 1000000000 ∨ (WK N false (ly (num (N_n N) x)) x (lm (num (N_n N) x)) ∧ lm (num (N_n N) x) ≤ 1555200)) ∧ ∀ k m, WK N false k x m → lxl (lm (num (N_n N) x)) (ly (num (N_n N) x)) m k := by
  obtain ⟨u1, u2⟩ := hx.nu ok.1
  have h := se _ u1
  rw [u2] at h
  exact h
theorem SE_fin {N : NS} (ok : N_ok N) {lm ly : Nat → Nat} (se : SE N false lm ly) {x : Nat → Nat} (hx : Tb (N_n N) x) : lm (num (N_n N) x) ≤ 1555200 ∧ WK N false (ly (num (N_n N) x)) x (lm (num (N_n N) x)) := by
  obtain ⟨a1, a2⟩ := SE_at ok se hx
  obtain ⟨v, v1, v2⟩ := PW_min ok.1 ok.2.2.2.2.1 hx
  obtain ⟨m3, w3⟩ := WK_tf _ _ _ ((PW_WK ok v _ hx).mp v2.1)
  obtain ⟨k4, m4, b1, b2, b3, b4⟩ := WK_min ok v m3 _ hx w3
  have h1 := a2 k4 m4 b4
  have h2 := WK_le ok k4 _ m4 hx b4
  have h3 := (TT_le ok.1).1
  rcases a1 with z | z
  · omega
  · exact ⟨z.2, z.1⟩
theorem SE_step {N : NS} (ok : N_ok N) {lm ly : Nat → Nat} (se : SE N false lm ly) {x : Nat → Nat} (hx : Tb (N_n N) x) {j k m2 : Nat} (hj : j < 298) (hs : sok N x j) (hw : WK N false k (sto N x j) m2) (e1 : lm (num (N_n N) x) = sco N x j + m2) (e2 : ly (num (N_n N) x) = k + 1) : lw N lm ly x j ∧ lm (num (N_n N) (sto N x j)) = m2 ∧ ly (num (N_n N) (sto N x j)) = k := by
  have hy := sto_Tb ok hx hs.2.1
  obtain ⟨a1, a2⟩ := SE_at ok se hx
  obtain ⟨b1, b2⟩ := SE_at ok se hy
  have h1 := b2 k m2 hw
  have h2 := (SE_fin ok se hy).2
  have h3 := a2 (ly (num (N_n N) (sto N x j)) + 1) (cs N false x j + lm (num (N_n N) (sto N x j))) ⟨j, hj, ⟨hs, fun z => absurd z (by decide)⟩, _, h2, rfl⟩
  rw [cs_f] at h3
  have e3 : lm (num (N_n N) (sto N x j)) = m2 ∧ ly (num (N_n N) (sto N x j)) = k := by omega
  exact ⟨⟨hs, by omega, by omega⟩, e3⟩
theorem BP_cons {N : NS} (ok : N_ok N) {lm ly : Nat → Nat} (se : SE N false lm ly) {x : Nat → Nat} (hx : Tb (N_n N) x) {j0 : Nat} {js : List Nat} (hj : j0 < 298) (h : lw N lm ly x j0) (hmin : ∀ i, i < j0 → ¬ lw N lm ly x i) (hb : BP N (sto N x j0) js (lm (num (N_n N) (sto N x j0)))) (hl : js.length = ly (num (N_n N) (sto N x j0))) : BP N x (j0 :: js) (lm (num (N_n N) x)) := by
  obtain ⟨h1, h2, h3⟩ := id h
  refine ⟨⟨hj, h1, _, hb.1, by omega⟩, fun js2 m2 hw => ?_, fun js2 hw hl2 => ?_⟩
  · have := (SE_at ok se hx).2 _ _ (WL_WK _ _ _ hw)
    rw [List.length_cons]
    omega
  · match js2, hw, hl2 with
    | [], _, hl2 => rw [List.length_cons, List.length_nil] at hl2; exact absurd hl2 (by omega)
    | j :: js2, ⟨hj2, hs2, m2, hw2, e⟩, hl2 =>
      rw [List.length_cons, List.length_cons] at hl2
      have st := SE_step ok se hx hj2 hs2 (WL_WK _ _ _ hw2) e (by omega)
      show j0 < j ∨ (j0 = j ∧ lle js js2)
      rcases Nat.lt_trichotomy j0 j with z | z | z
      · exact Or.inl z
      · subst z
        exact Or.inr ⟨rfl, hb.2.2 js2 (by rw [st.2.1]; exact hw2) (by omega)⟩
      · exact absurd st.1 (hmin j z)
theorem BP_ex {N : NS} (ok : N_ok N) {lm ly : Nat → Nat} (se : SE N false lm ly) : ∀ k x, Tb (N_n N) x → ly (num (N_n N) x) = k → ∃ js, BP N x js (lm (num (N_n N) x)) ∧ js.length = k := by
  intro k
  induction k with
  | zero =>
    intro x hx e
    have h := (SE_fin ok se hx).2
    rw [e] at h
    refine ⟨[], ⟨h, fun js2 m2 hw => ?_, fun _ _ _ => trivial⟩, rfl⟩
    have := (SE_at ok se hx).2 _ _ (WL_WK _ _ _ hw)
    rw [e] at this
    exact this
  | succ k ih =>
    intro x hx e
    have h := (SE_fin ok se hx).2
    rw [e] at h
    obtain ⟨j, hj, he, m2, hw, em⟩ := h
    rw [cs_f] at em
    have st := SE_step ok se hx hj he.1 hw em e
    obtain ⟨j0, g1, g2, g3⟩ := @fb_first (fun i => lw N lm ly x i) (fun _ => Classical.propDecidable _) 298 ⟨j, hj, st.1⟩
    have hy := sto_Tb ok hx g2.1.2.1
    obtain ⟨js, f1, f2⟩ := ih _ hy (by have := g2.2.2; omega)
    exact ⟨j0 :: js, BP_cons ok se hx g1 g2 g3 f1 (by have := g2.2.2; omega), by rw [List.length_cons, f2]⟩
/-- meetings' numbers by their order -/
theorem mtA_mono {i j : Nat} (hi : i < 298) (hj : j < 298) (ai : mav i) (aj : mav j) : mtA i < mtA j ↔ i < j := by
  unfold mav at ai aj
  unfold mtA
  split
  · split
    · omega
    · split <;> omega
  · split
    · split
      · omega
      · split <;> omega
    · split
      · omega
      · split <;> omega
theorem mtA_inj {i j : Nat} (hi : i < 298) (hj : j < 298) (ai : mav i) (aj : mav j) (e : mtA i = mtA j) : i = j := by
  have h1 := mtA_mono hi hj ai aj
  have h2 := mtA_mono hj hi aj ai
  omega
