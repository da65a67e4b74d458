/-! pictures rest on their own places alone -/
theorem rw_.fr {h h2 : ab_H} {a n : Nat} {f : Nat → Nat} (q : h2 a = h a) (p : rw_ h a n f) : rw_ h2 a n f := by
  obtain ⟨g, h1, h3⟩ := p
  exact ⟨g, q.trans h1, h3⟩
theorem rp_.fr {h h2 : ab_H} {a n m : Nat} {f : Nat → Nat} (q : h2 a = h a) (p : rp_ h a n m f) : rp_ h2 a n m f := by
  obtain ⟨g, h1, h3⟩ := p
  exact ⟨g, q.trans h1, h3⟩
theorem ra_.fr {h h2 : ab_H} {a n : Nat} (q : h2 a = h a) (p : ra_ h a n) : ra_ h2 a n := by
  obtain ⟨g, h1⟩ := p
  exact ⟨g, q.trans h1⟩
theorem ex_.fr {h h2 : ab_H} {a n : Nat} {P : (Nat → Int32) → Prop} (q : h2 a = h a) (p : ∃ g : Nat → Int32, h a = .inl (n, g) ∧ P g) : ∃ g : Nat → Int32, h2 a = .inl (n, g) ∧ P g := by
  obtain ⟨g, h1, h3⟩ := p
  exact ⟨g, q.trans h1, h3⟩
theorem NX.fr {h h2 : ab_H} {a : Nat} {N : NS} (q : ∀ k, a ≤ k → k ≤ a + 8 → h2 k = h k) (p : NX h a N) : NX h2 a N := by
  obtain ⟨p0, p1, p2, p3, p4, p5, p6, p7, p8⟩ := p
  exact ⟨(q a (by omega) (by omega)).trans p0, p1.fr (q _ (by omega) (by omega)), p2.fr (q _ (by omega) (by omega)), p3.fr (q _ (by omega) (by omega)), p4.fr (q _ (by omega) (by omega)), ex_.fr (q _ (by omega) (by omega)) p5, p6.fr (q _ (by omega) (by omega)), p7.fr (q _ (by omega) (by omega)), p8.fr (q _ (by omega) (by omega))⟩
theorem NXq.fr {h h2 : ab_H} {a : Nat} (q : ∀ k, a ≤ k → k ≤ a + 8 → h2 k = h k) (p : NXq h a) : NXq h2 a := by
  obtain ⟨⟨n, tb, wo, ns, ra, se, me, mi, fe, p0⟩, p1, p2, p3, p4, p5, p6, p7, p8⟩ := p
  exact ⟨⟨n, tb, wo, ns, ra, se, me, mi, fe, (q a (by omega) (by omega)).trans p0⟩, p1.fr (q _ (by omega) (by omega)), p2.fr (q _ (by omega) (by omega)), p3.fr (q _ (by omega) (by omega)), p4.fr (q _ (by omega) (by omega)), p5.fr (q _ (by omega) (by omega)), p6.fr (q _ (by omega) (by omega)), p7.fr (q _ (by omega) (by omega)), p8.fr (q _ (by omega) (by omega))⟩
def PXk (h : ab_H) (K : Option NS) : Prop := match K with | some K => NX h 11 K | none => NXq h 11
theorem PXk.fr {h h2 : ab_H} {K : Option NS} (q : ∀ k, 11 ≤ k → k ≤ 19 → h2 k = h k) (p : PXk h K) : PXk h2 K := by
  cases K with
  | none => exact NXq.fr q p
  | some K => exact NX.fr q p
theorem PXn.fr {h h2 : ab_H} {S : SS} (q : ∀ k, 1 ≤ k → k ≤ 19 → h2 k = h k) (p : PXn h S) : PXn h2 S := by
  obtain ⟨p0, p1, p2⟩ := p
  exact ⟨(q 1 (by omega) (by omega)).trans p0, p1.fr (fun k a b => q k (by omega) (by omega)), PXk.fr (K := S_K S) (fun k a b => q k (by omega) (by omega)) p2⟩
theorem PXt.fr {h h2 : ab_H} {S : SS} (q : ∀ k, 20 ≤ k → k ≤ 22 → h2 k = h k) (p : PXt h S) : PXt h2 S := by
  obtain ⟨⟨pl, p0⟩, p1, p2⟩ := p
  exact ⟨⟨pl, (q 20 (by omega) (by omega)).trans p0⟩, ex_.fr (q 21 (by omega) (by omega)) p1, p2.fr (q 22 (by omega) (by omega))⟩
theorem PXs.fr {h h2 : ab_H} {S : SS} (q : ∀ k, 23 ≤ k → k ≤ 30 → h2 k = h k) (p : PXs h S) : PXs h2 S := by
  obtain ⟨p0, p1, p2, p3, p4⟩ := p
  exact ⟨(q 23 (by omega) (by omega)).trans p0, (q 24 (by omega) (by omega)).trans p1, fun s hs => ex_.fr (q (25 + s) (by omega) (by omega)) (p2 s hs), ex_.fr (q 29 (by omega) (by omega)) p3, ex_.fr (q 30 (by omega) (by omega)) p4⟩
theorem PXg.fr {h h2 : ab_H} (q : ∀ k, 31 ≤ k → k ≤ 34 → h2 k = h k) (p : PXg h) : PXg h2 := by
  obtain ⟨p0, p1, p2, p3⟩ := p
  exact ⟨p0.fr (q 31 (by omega) (by omega)), (q 32 (by omega) (by omega)).trans p1, p2.fr (q 33 (by omega) (by omega)), p3.fr (q 34 (by omega) (by omega))⟩
theorem PXp.fr {V : VV} {h h2 : ab_H} {N : NS} (q : ∀ k, 35 ≤ k → k ≤ 46 → h2 k = h k) (p : PXp V h N) : PXp V h2 N := by
  obtain ⟨kn, mi, me, nv, bo, go, li, sz, g, p0, p1, p2, p3, p4, p5, p6, p7, p8, p9, p10, p11, p12, p13⟩ := p
  exact ⟨kn, mi, me, nv, bo, go, li, sz, g, (q 35 (by omega) (by omega)).trans p0, p1, (q 36 (by omega) (by omega)).trans p2, p3.fr (q 37 (by omega) (by omega)), p4.fr (q 38 (by omega) (by omega)), p5.fr (q 39 (by omega) (by omega)), p6.fr (q 40 (by omega) (by omega)), (q 41 (by omega) (by omega)).trans p7, p8.fr (q 42 (by omega) (by omega)), p9.fr (q 43 (by omega) (by omega)), p10.fr (q 44 (by omega) (by omega)), p11.fr (q 45 (by omega) (by omega)), p12.fr (q 46 (by omega) (by omega)), p13⟩
theorem PXd.fr {V : VV} {h h2 : ab_H} {N : NS} (q : ∀ k, 47 ≤ k → k ≤ 49 → h2 k = h k) (p : PXd V h N) : PXd V h2 N := by
  obtain ⟨kn, da, mi, p0, p1, p2, p3⟩ := p
  exact ⟨kn, da, mi, (q 47 (by omega) (by omega)).trans p0, p1.fr (q 48 (by omega) (by omega)), p2.fr (q 49 (by omega) (by omega)), p3⟩
theorem PXr.fr {V : VV} {h h2 : ab_H} {N : NS} (q : ∀ k, 50 ≤ k → k ≤ 53 → h2 k = h k) (p : PXr V h N) : PXr V h2 N := by
  obtain ⟨kn, gr, su, g, p0, p1, p2, p3, p4⟩ := p
  exact ⟨kn, gr, su, g, (q 50 (by omega) (by omega)).trans p0, (q 51 (by omega) (by omega)).trans p1, p2.fr (q 52 (by omega) (by omega)), p3.fr (q 53 (by omega) (by omega)), p4⟩
theorem PXl.fr {V : VV} {m : Nat} {h h2 : ab_H} (q : ∀ k, k = 54 ∨ k = 55 ∨ 88 < k → h2 k = h k) (p : PXl V m h) : PXl V m h2 := by
  obtain ⟨p0, p1, g, p2, p3⟩ := p
  refine ⟨p0, p1.fr (q 55 (by omega)), g, (q 54 (by omega)).trans p2, fun k hk x hx => ?_⟩
  obtain ⟨q1, q2, q3, pe, kn, s, t, f, w, r0, r1, r2, r3, r4, r5⟩ := p3 k hk x hx
  exact ⟨q1, q2, q3, pe, kn, s, t, f, w, (q _ (by omega)).trans r0, (q _ (by omega)).trans r1, (q _ (by omega)).trans r2, (q _ (by omega)).trans r3, (q _ (by omega)).trans r4, r5⟩
theorem PX.fr {V : VV} {m : Nat} {h h2 : ab_H} {S : SS} (q : ∀ k, k < 56 ∨ 88 < k → h2 k = h k) (p : PX V m h S) : PX V m h2 S := by
  obtain ⟨p0, p1, p2, p3, p4, p5, p6, p7⟩ := p
  exact ⟨p0.fr (fun k a b => q k (by omega)), p1.fr (fun k a b => q k (by omega)), p2.fr (fun k a b => q k (by omega)), p3.fr (fun k a b => q k (by omega)), p4.fr (fun k a b => q k (by omega)), p5.fr (fun k a b => q k (by omega)), p6.fr (fun k a b => q k (by omega)), p7.fr (fun k a => q k (by omega))⟩
theorem PMn.fr {h h2 : ab_H} {N : NS} (q : ∀ k, 56 ≤ k → k ≤ 88 → h2 k = h k) (p : PMn h N) : PMn h2 N := by
  obtain ⟨p0, p1, p2, p3, p4, p5, p6, p7, p8, p9⟩ := p
  exact ⟨p0.fr (q _ (by omega) (by omega)), p1.fr (q _ (by omega) (by omega)), p2.fr (q _ (by omega) (by omega)), p3.fr (q _ (by omega) (by omega)), p4.fr (q _ (by omega) (by omega)), p5.fr (q _ (by omega) (by omega)), p6.fr (q _ (by omega) (by omega)), p7.fr (q _ (by omega) (by omega)), p8.fr (q _ (by omega) (by omega)), p9.fr (q _ (by omega) (by omega))⟩
theorem PMs.fr {h h2 : ab_H} {S : SS} (q : ∀ k, 56 ≤ k → k ≤ 88 → h2 k = h k) (p : PMs h S) : PMs h2 S := by
  obtain ⟨p0, p1, p2, p3⟩ := p
  exact ⟨ex_.fr (q _ (by omega) (by omega)) p0, ex_.fr (q _ (by omega) (by omega)) p1, ex_.fr (q _ (by omega) (by omega)) p2, p3.fr (q _ (by omega) (by omega))⟩
theorem PMr.fr {h h2 : ab_H} (q : ∀ k, 56 ≤ k → k ≤ 88 → h2 k = h k) (p : PMr h) : PMr h2 := by
  obtain ⟨p0, p1, p2, p3, p4, p5, p6, p7, p8, p9, p10, p11, p12, p13⟩ := p
  exact ⟨p0.fr (q _ (by omega) (by omega)), p1.fr (q _ (by omega) (by omega)), p2.fr (q _ (by omega) (by omega)), p3.fr (q _ (by omega) (by omega)), p4.fr (q _ (by omega) (by omega)), p5.fr (q _ (by omega) (by omega)), p6.fr (q _ (by omega) (by omega)), p7.fr (q _ (by omega) (by omega)), p8.fr (q _ (by omega) (by omega)), p9.fr (q _ (by omega) (by omega)), p10.fr (q _ (by omega) (by omega)), p11.fr (q _ (by omega) (by omega)), p12.fr (q _ (by omega) (by omega)), p13.fr (q _ (by omega) (by omega))⟩
theorem PM.fr {V : VV} {c : Nat} {h h2 : ab_H} {S : SS} (q : ∀ k, 56 ≤ k → k ≤ 88 → h2 k = h k) (p : PM V c h S) : PM V c h2 S := by
  obtain ⟨⟨tab, la, at_, wr, ve, s, t, p0, p1, p2, p3, p4, p5, p6⟩, r1, r2, r3, r4, r5⟩ := p
  exact ⟨⟨tab, la, at_, wr, ve, s, t, (q _ (by omega) (by omega)).trans p0, p1, p2, p3, (q _ (by omega) (by omega)).trans p4, (q _ (by omega) (by omega)).trans p5, p6⟩, r1.fr q, ex_.fr (q _ (by omega) (by omega)) r2, r3.fr q, r4.fr q, ex_.fr (q _ (by omega) (by omega)) r5⟩
/-- all but the truth of what is stored -/
def PXw (V : VV) (m : Nat) (h : ab_H) (S : SS) : Prop := PXn h S ∧ PXt h S ∧ PXs h S ∧ PXg h ∧ (∃ N, PXp V h N) ∧ (∃ N, PXd V h N) ∧ (∃ N, PXr V h N) ∧ PXl V m h
/-- contracts of the calls of the face: the class' side, the reference's side -/
def CX (V : VV) (Y : ab_Y) (av : List Value) (m : Nat) (h : ab_H) (R : Int32 → SS → Prop) : Prop := ab_C Y (.ref 1 :: av) m h (fun r m2 h2 => ∃ (v : Int32) (S2 : SS), r = some (.int v) ∧ R v S2 ∧ PX V m2 h2 S2 ∧ m ≤ m2 ∧ ∀ k, 56 ≤ k → k ≤ 88 → h2 k = h k)
def CM (V : VV) (Y : ab_Y) (av : List Value) (m c : Nat) (h : ab_H) (R : Int32 → SS → Prop) : Prop := ab_C Y (.ref 56 :: av) m h (fun r m2 h2 => ∃ (v : Int32) (S2 : SS), r = some (.int v) ∧ R v S2 ∧ PM V (c + 1) h2 S2 ∧ m2 = m ∧ ∀ k, (k < 56 ∨ 88 < k) → h2 k = h k)
