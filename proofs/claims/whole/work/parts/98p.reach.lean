/-- the planner, in a heap that is h elsewhere -/
def PL (h hh : ab_H) (kn : Bool) (mi : Int32) (me : Int32) (b : Nat) (go : Int32) (lim : Nat) (gs : Nat → Int32) (gg : Nat → Int32) (gr : Nat → Int32) (gf : Nat → Int32) (gb : Nat → Int32) (sz : Nat) (gk : Nat → Int32) (gt : Nat → Int32) (gp : Nat → Int32) (gi : Nat → Int32) (gm : Nat → Int32) : Prop := hh 35 = oP kn mi me (.ref 2) (nI b) go (nI lim) ∧ hh 36 = .inl (720, gs) ∧ hh 37 = .inl (720, gg) ∧ hh 38 = .inl (720, gr) ∧ hh 39 = .inl (720, gf) ∧ hh 40 = .inl (720, gb) ∧ hh 41 = oH (nI sz) ∧ hh 42 = .inl (720, gk) ∧ hh 43 = .inl (720, gt) ∧ hh 44 = .inl (720, gp) ∧ hh 45 = .inl (64, gi) ∧ hh 46 = .inl (64, gm) ∧ ∀ k, (k < 35 ∨ 46 < k) → hh k = h k
theorem PL.o_ {h hh : ab_H} {kn : Bool} {mi : Int32} {me : Int32} {b : Nat} {go : Int32} {lim : Nat} {gs : Nat → Int32} {gg : Nat → Int32} {gr : Nat → Int32} {gf : Nat → Int32} {gb : Nat → Int32} {sz : Nat} {gk : Nat → Int32} {gt : Nat → Int32} {gp : Nat → Int32} {gi : Nat → Int32} {gm : Nat → Int32} (pl : PL h hh kn mi me b go lim gs gg gr gf gb sz gk gt gp gi gm) (kn2 : Bool) (mi2 me2 go2 : Int32) (b2 lim2 : Nat) : PL h (ab_set hh 35 (oP kn2 mi2 me2 (.ref 2) (nI b2) go2 (nI lim2))) kn2 mi2 me2 b2 go2 lim2 gs gg gr gf gb sz gk gt gp gi gm := by
  obtain ⟨o35, o36, o37, o38, o39, o40, o41, o42, o43, o44, o45, o46, ofr⟩ := id pl
  exact ⟨ab_set_self _ _ _, (ab_set_ne (by decide)).trans o36, (ab_set_ne (by decide)).trans o37, (ab_set_ne (by decide)).trans o38, (ab_set_ne (by decide)).trans o39, (ab_set_ne (by decide)).trans o40, (ab_set_ne (by decide)).trans o41, (ab_set_ne (by decide)).trans o42, (ab_set_ne (by decide)).trans o43, (ab_set_ne (by decide)).trans o44, (ab_set_ne (by decide)).trans o45, (ab_set_ne (by decide)).trans o46, fun k hk => (ab_set_ne (by omega)).trans (ofr k hk)⟩
theorem PL.s36 {h hh : ab_H} {kn : Bool} {mi : Int32} {me : Int32} {b : Nat} {go : Int32} {lim : Nat} {gs : Nat → Int32} {gg : Nat → Int32} {gr : Nat → Int32} {gf : Nat → Int32} {gb : Nat → Int32} {sz : Nat} {gk : Nat → Int32} {gt : Nat → Int32} {gp : Nat → Int32} {gi : Nat → Int32} {gm : Nat → Int32} (pl : PL h hh kn mi me b go lim gs gg gr gf gb sz gk gt gp gi gm) (g : Nat → Int32) : PL h (ab_set hh 36 (.inl (720, g))) kn mi me b go lim g gg gr gf gb sz gk gt gp gi gm := by
  obtain ⟨o35, o36, o37, o38, o39, o40, o41, o42, o43, o44, o45, o46, ofr⟩ := id pl
  exact ⟨(ab_set_ne (by decide)).trans o35, ab_set_self _ _ _, (ab_set_ne (by decide)).trans o37, (ab_set_ne (by decide)).trans o38, (ab_set_ne (by decide)).trans o39, (ab_set_ne (by decide)).trans o40, (ab_set_ne (by decide)).trans o41, (ab_set_ne (by decide)).trans o42, (ab_set_ne (by decide)).trans o43, (ab_set_ne (by decide)).trans o44, (ab_set_ne (by decide)).trans o45, (ab_set_ne (by decide)).trans o46, fun k hk => (ab_set_ne (by omega)).trans (ofr k hk)⟩
theorem PL.s37 {h hh : ab_H} {kn : Bool} {mi : Int32} {me : Int32} {b : Nat} {go : Int32} {lim : Nat} {gs : Nat → Int32} {gg : Nat → Int32} {gr : Nat → Int32} {gf : Nat → Int32} {gb : Nat → Int32} {sz : Nat} {gk : Nat → Int32} {gt : Nat → Int32} {gp : Nat → Int32} {gi : Nat → Int32} {gm : Nat → Int32} (pl : PL h hh kn mi me b go lim gs gg gr gf gb sz gk gt gp gi gm) (g : Nat → Int32) : PL h (ab_set hh 37 (.inl (720, g))) kn mi me b go lim gs g gr gf gb sz gk gt gp gi gm := by
  obtain ⟨o35, o36, o37, o38, o39, o40, o41, o42, o43, o44, o45, o46, ofr⟩ := id pl
  exact ⟨(ab_set_ne (by decide)).trans o35, (ab_set_ne (by decide)).trans o36, ab_set_self _ _ _, (ab_set_ne (by decide)).trans o38, (ab_set_ne (by decide)).trans o39, (ab_set_ne (by decide)).trans o40, (ab_set_ne (by decide)).trans o41, (ab_set_ne (by decide)).trans o42, (ab_set_ne (by decide)).trans o43, (ab_set_ne (by decide)).trans o44, (ab_set_ne (by decide)).trans o45, (ab_set_ne (by decide)).trans o46, fun k hk => (ab_set_ne (by omega)).trans (ofr k hk)⟩
theorem PL.s38 {h hh : ab_H} {kn : Bool} {mi : Int32} {me : Int32} {b : Nat} {go : Int32} {lim : Nat} {gs : Nat → Int32} {gg : Nat → Int32} {gr : Nat → Int32} {gf : Nat → Int32} {gb : Nat → Int32} {sz : Nat} {gk : Nat → Int32} {gt : Nat → Int32} {gp : Nat → Int32} {gi : Nat → Int32} {gm : Nat → Int32} (pl : PL h hh kn mi me b go lim gs gg gr gf gb sz gk gt gp gi gm) (g : Nat → Int32) : PL h (ab_set hh 38 (.inl (720, g))) kn mi me b go lim gs gg g gf gb sz gk gt gp gi gm := by
  obtain ⟨o35, o36, o37, o38, o39, o40, o41, o42, o43, o44, o45, o46, ofr⟩ := id pl
  exact ⟨(ab_set_ne (by decide)).trans o35, (ab_set_ne (by decide)).trans o36, (ab_set_ne (by decide)).trans o37, ab_set_self _ _ _, (ab_set_ne (by decide)).trans o39, (ab_set_ne (by decide)).trans o40, (ab_set_ne (by decide)).trans o41, (ab_set_ne (by decide)).trans o42, (ab_set_ne (by decide)).trans o43, (ab_set_ne (by decide)).trans o44, (ab_set_ne (by decide)).trans o45, (ab_set_ne (by decide)).trans o46, fun k hk => (ab_set_ne (by omega)).trans (ofr k hk)⟩
theorem PL.s39 {h hh : ab_H} {kn : Bool} {mi : Int32} {me : Int32} {b : Nat} {go : Int32} {lim : Nat} {gs : Nat → Int32} {gg : Nat → Int32} {gr : Nat → Int32} {gf : Nat → Int32} {gb : Nat → Int32} {sz : Nat} {gk : Nat → Int32} {gt : Nat → Int32} {gp : Nat → Int32} {gi : Nat → Int32} {gm : Nat → Int32} (pl : PL h hh kn mi me b go lim gs gg gr gf gb sz gk gt gp gi gm) (g : Nat → Int32) : PL h (ab_set hh 39 (.inl (720, g))) kn mi me b go lim gs gg gr g gb sz gk gt gp gi gm := by
  obtain ⟨o35, o36, o37, o38, o39, o40, o41, o42, o43, o44, o45, o46, ofr⟩ := id pl
  exact ⟨(ab_set_ne (by decide)).trans o35, (ab_set_ne (by decide)).trans o36, (ab_set_ne (by decide)).trans o37, (ab_set_ne (by decide)).trans o38, ab_set_self _ _ _, (ab_set_ne (by decide)).trans o40, (ab_set_ne (by decide)).trans o41, (ab_set_ne (by decide)).trans o42, (ab_set_ne (by decide)).trans o43, (ab_set_ne (by decide)).trans o44, (ab_set_ne (by decide)).trans o45, (ab_set_ne (by decide)).trans o46, fun k hk => (ab_set_ne (by omega)).trans (ofr k hk)⟩
theorem PL.s40 {h hh : ab_H} {kn : Bool} {mi : Int32} {me : Int32} {b : Nat} {go : Int32} {lim : Nat} {gs : Nat → Int32} {gg : Nat → Int32} {gr : Nat → Int32} {gf : Nat → Int32} {gb : Nat → Int32} {sz : Nat} {gk : Nat → Int32} {gt : Nat → Int32} {gp : Nat → Int32} {gi : Nat → Int32} {gm : Nat → Int32} (pl : PL h hh kn mi me b go lim gs gg gr gf gb sz gk gt gp gi gm) (g : Nat → Int32) : PL h (ab_set hh 40 (.inl (720, g))) kn mi me b go lim gs gg gr gf g sz gk gt gp gi gm := by
  obtain ⟨o35, o36, o37, o38, o39, o40, o41, o42, o43, o44, o45, o46, ofr⟩ := id pl
  exact ⟨(ab_set_ne (by decide)).trans o35, (ab_set_ne (by decide)).trans o36, (ab_set_ne (by decide)).trans o37, (ab_set_ne (by decide)).trans o38, (ab_set_ne (by decide)).trans o39, ab_set_self _ _ _, (ab_set_ne (by decide)).trans o41, (ab_set_ne (by decide)).trans o42, (ab_set_ne (by decide)).trans o43, (ab_set_ne (by decide)).trans o44, (ab_set_ne (by decide)).trans o45, (ab_set_ne (by decide)).trans o46, fun k hk => (ab_set_ne (by omega)).trans (ofr k hk)⟩
theorem PL.s42 {h hh : ab_H} {kn : Bool} {mi : Int32} {me : Int32} {b : Nat} {go : Int32} {lim : Nat} {gs : Nat → Int32} {gg : Nat → Int32} {gr : Nat → Int32} {gf : Nat → Int32} {gb : Nat → Int32} {sz : Nat} {gk : Nat → Int32} {gt : Nat → Int32} {gp : Nat → Int32} {gi : Nat → Int32} {gm : Nat → Int32} (pl : PL h hh kn mi me b go lim gs gg gr gf gb sz gk gt gp gi gm) (g : Nat → Int32) : PL h (ab_set hh 42 (.inl (720, g))) kn mi me b go lim gs gg gr gf gb sz g gt gp gi gm := by
  obtain ⟨o35, o36, o37, o38, o39, o40, o41, o42, o43, o44, o45, o46, ofr⟩ := id pl
  exact ⟨(ab_set_ne (by decide)).trans o35, (ab_set_ne (by decide)).trans o36, (ab_set_ne (by decide)).trans o37, (ab_set_ne (by decide)).trans o38, (ab_set_ne (by decide)).trans o39, (ab_set_ne (by decide)).trans o40, (ab_set_ne (by decide)).trans o41, ab_set_self _ _ _, (ab_set_ne (by decide)).trans o43, (ab_set_ne (by decide)).trans o44, (ab_set_ne (by decide)).trans o45, (ab_set_ne (by decide)).trans o46, fun k hk => (ab_set_ne (by omega)).trans (ofr k hk)⟩
theorem PL.s43 {h hh : ab_H} {kn : Bool} {mi : Int32} {me : Int32} {b : Nat} {go : Int32} {lim : Nat} {gs : Nat → Int32} {gg : Nat → Int32} {gr : Nat → Int32} {gf : Nat → Int32} {gb : Nat → Int32} {sz : Nat} {gk : Nat → Int32} {gt : Nat → Int32} {gp : Nat → Int32} {gi : Nat → Int32} {gm : Nat → Int32} (pl : PL h hh kn mi me b go lim gs gg gr gf gb sz gk gt gp gi gm) (g : Nat → Int32) : PL h (ab_set hh 43 (.inl (720, g))) kn mi me b go lim gs gg gr gf gb sz gk g gp gi gm := by
  obtain ⟨o35, o36, o37, o38, o39, o40, o41, o42, o43, o44, o45, o46, ofr⟩ := id pl
  exact ⟨(ab_set_ne (by decide)).trans o35, (ab_set_ne (by decide)).trans o36, (ab_set_ne (by decide)).trans o37, (ab_set_ne (by decide)).trans o38, (ab_set_ne (by decide)).trans o39, (ab_set_ne (by decide)).trans o40, (ab_set_ne (by decide)).trans o41, (ab_set_ne (by decide)).trans o42, ab_set_self _ _ _, (ab_set_ne (by decide)).trans o44, (ab_set_ne (by decide)).trans o45, (ab_set_ne (by decide)).trans o46, fun k hk => (ab_set_ne (by omega)).trans (ofr k hk)⟩
theorem PL.s44 {h hh : ab_H} {kn : Bool} {mi : Int32} {me : Int32} {b : Nat} {go : Int32} {lim : Nat} {gs : Nat → Int32} {gg : Nat → Int32} {gr : Nat → Int32} {gf : Nat → Int32} {gb : Nat → Int32} {sz : Nat} {gk : Nat → Int32} {gt : Nat → Int32} {gp : Nat → Int32} {gi : Nat → Int32} {gm : Nat → Int32} (pl : PL h hh kn mi me b go lim gs gg gr gf gb sz gk gt gp gi gm) (g : Nat → Int32) : PL h (ab_set hh 44 (.inl (720, g))) kn mi me b go lim gs gg gr gf gb sz gk gt g gi gm := by
  obtain ⟨o35, o36, o37, o38, o39, o40, o41, o42, o43, o44, o45, o46, ofr⟩ := id pl
  exact ⟨(ab_set_ne (by decide)).trans o35, (ab_set_ne (by decide)).trans o36, (ab_set_ne (by decide)).trans o37, (ab_set_ne (by decide)).trans o38, (ab_set_ne (by decide)).trans o39, (ab_set_ne (by decide)).trans o40, (ab_set_ne (by decide)).trans o41, (ab_set_ne (by decide)).trans o42, (ab_set_ne (by decide)).trans o43, ab_set_self _ _ _, (ab_set_ne (by decide)).trans o45, (ab_set_ne (by decide)).trans o46, fun k hk => (ab_set_ne (by omega)).trans (ofr k hk)⟩
theorem PL.s45 {h hh : ab_H} {kn : Bool} {mi : Int32} {me : Int32} {b : Nat} {go : Int32} {lim : Nat} {gs : Nat → Int32} {gg : Nat → Int32} {gr : Nat → Int32} {gf : Nat → Int32} {gb : Nat → Int32} {sz : Nat} {gk : Nat → Int32} {gt : Nat → Int32} {gp : Nat → Int32} {gi : Nat → Int32} {gm : Nat → Int32} (pl : PL h hh kn mi me b go lim gs gg gr gf gb sz gk gt gp gi gm) (g : Nat → Int32) : PL h (ab_set hh 45 (.inl (64, g))) kn mi me b go lim gs gg gr gf gb sz gk gt gp g gm := by
  obtain ⟨o35, o36, o37, o38, o39, o40, o41, o42, o43, o44, o45, o46, ofr⟩ := id pl
  exact ⟨(ab_set_ne (by decide)).trans o35, (ab_set_ne (by decide)).trans o36, (ab_set_ne (by decide)).trans o37, (ab_set_ne (by decide)).trans o38, (ab_set_ne (by decide)).trans o39, (ab_set_ne (by decide)).trans o40, (ab_set_ne (by decide)).trans o41, (ab_set_ne (by decide)).trans o42, (ab_set_ne (by decide)).trans o43, (ab_set_ne (by decide)).trans o44, ab_set_self _ _ _, (ab_set_ne (by decide)).trans o46, fun k hk => (ab_set_ne (by omega)).trans (ofr k hk)⟩
theorem PL.s46 {h hh : ab_H} {kn : Bool} {mi : Int32} {me : Int32} {b : Nat} {go : Int32} {lim : Nat} {gs : Nat → Int32} {gg : Nat → Int32} {gr : Nat → Int32} {gf : Nat → Int32} {gb : Nat → Int32} {sz : Nat} {gk : Nat → Int32} {gt : Nat → Int32} {gp : Nat → Int32} {gi : Nat → Int32} {gm : Nat → Int32} (pl : PL h hh kn mi me b go lim gs gg gr gf gb sz gk gt gp gi gm) (g : Nat → Int32) : PL h (ab_set hh 46 (.inl (64, g))) kn mi me b go lim gs gg gr gf gb sz gk gt gp gi g := by
  obtain ⟨o35, o36, o37, o38, o39, o40, o41, o42, o43, o44, o45, o46, ofr⟩ := id pl
  exact ⟨(ab_set_ne (by decide)).trans o35, (ab_set_ne (by decide)).trans o36, (ab_set_ne (by decide)).trans o37, (ab_set_ne (by decide)).trans o38, (ab_set_ne (by decide)).trans o39, (ab_set_ne (by decide)).trans o40, (ab_set_ne (by decide)).trans o41, (ab_set_ne (by decide)).trans o42, (ab_set_ne (by decide)).trans o43, (ab_set_ne (by decide)).trans o44, (ab_set_ne (by decide)).trans o45, ab_set_self _ _ _, fun k hk => (ab_set_ne (by omega)).trans (ofr k hk)⟩
theorem PL.s41 {h hh : ab_H} {kn : Bool} {mi : Int32} {me : Int32} {b : Nat} {go : Int32} {lim : Nat} {gs : Nat → Int32} {gg : Nat → Int32} {gr : Nat → Int32} {gf : Nat → Int32} {gb : Nat → Int32} {sz : Nat} {gk : Nat → Int32} {gt : Nat → Int32} {gp : Nat → Int32} {gi : Nat → Int32} {gm : Nat → Int32} (pl : PL h hh kn mi me b go lim gs gg gr gf gb sz gk gt gp gi gm) (sz2 : Nat) : PL h (ab_set hh 41 (oH (nI sz2))) kn mi me b go lim gs gg gr gf gb sz2 gk gt gp gi gm := by
  obtain ⟨o35, o36, o37, o38, o39, o40, o41, o42, o43, o44, o45, o46, ofr⟩ := id pl
  exact ⟨(ab_set_ne (by decide)).trans o35, (ab_set_ne (by decide)).trans o36, (ab_set_ne (by decide)).trans o37, (ab_set_ne (by decide)).trans o38, (ab_set_ne (by decide)).trans o39, (ab_set_ne (by decide)).trans o40, ab_set_self _ _ _, (ab_set_ne (by decide)).trans o42, (ab_set_ne (by decide)).trans o43, (ab_set_ne (by decide)).trans o44, (ab_set_ne (by decide)).trans o45, (ab_set_ne (by decide)).trans o46, fun k hk => (ab_set_ne (by omega)).trans (ofr k hk)⟩
theorem PL.hf {h hh : ab_H} {kn : Bool} {mi : Int32} {me : Int32} {b : Nat} {go : Int32} {lim : Nat} {gs : Nat → Int32} {gg : Nat → Int32} {gr : Nat → Int32} {gf : Nat → Int32} {gb : Nat → Int32} {sz : Nat} {gk : Nat → Int32} {gt : Nat → Int32} {gp : Nat → Int32} {gi : Nat → Int32} {gm : Nat → Int32} (pl : PL h hh kn mi me b go lim gs gg gr gf gb sz gk gt gp gi gm) (sz2 : Nat) (k2 t2 p2 : Nat → Int32) : PL h (HF hh (nI sz2) k2 t2 p2) kn mi me b go lim gs gg gr gf gb sz2 k2 t2 p2 gi gm := (((pl.s41 sz2).s42 k2).s43 t2).s44 p2
/-- the rows tell what the search knows -/
def PA (sn : Nat → Prop) (M : Nat → Nat) (P : Nat → List Nat) (F J : Nat → Nat) (gg gr gf gb : Nat → Int32) : Prop := ∀ z, z < 720 → (¬ sn z → gg z = -1) ∧ (sn z → gg z = nI (lb M P z) ∧ gr z = nI (pk (xr z)) ∧ (P z ≠ [] → gf z = nI (F z) ∧ gb z = nI (mtA (J z))))
theorem PA.upd_ {sn : Nat → Prop} {M : Nat → Nat} {P : Nat → List Nat} {F J : Nat → Nat} {gg gr gf gb gr2 : Nat → Int32} (pa : PA sn M P F J gg gr gf gb) {r lab M9 f j : Nat} {p9 : List Nat} (hr2 : ∀ z, z < 720 → (sn z ∨ z = r) → gr2 z = nI (pk (xr z))) (e : 1024 * M9 + p9.length = lab) : PA (fun z => sn z ∨ z = r) (ud M r M9) (ud P r p9) (ud F r f) (ud J r j) (upd gg r (nI lab)) gr2 (upd gf r (nI f)) (upd gb r (nI (mtA j))) := by
  intro z hz
  obtain ⟨a1, a2⟩ := pa z hz
  by_cases q : z = r
  · refine ⟨fun y => absurd (Or.inr q) y, fun y => ⟨?_, hr2 z hz y, fun _ => ?_⟩⟩
    · show upd gg r (nI lab) z = nI (1024 * ud M r M9 z + (ud P r p9 z).length)
      rw [q, pk_us, ud_s, ud_s, e]
    · rw [q, pk_us, pk_us, ud_s, ud_s]; exact ⟨rfl, rfl⟩
  · rw [pk_un q, pk_un q, pk_un q, ud_n q, ud_n q, ud_n q]
    refine ⟨fun y => a1 (fun w => y (Or.inl w)), fun y => ?_⟩
    have y : sn z := y.elim id (fun w => absurd w q)
    obtain ⟨b1, b2, b3⟩ := a2 y
    refine ⟨?_, hr2 z hz (Or.inl y), b3⟩
    show gg z = nI (1024 * ud M r M9 z + (ud P r p9 z).length)
    rw [ud_n q, ud_n q]
    exact b1
theorem kyf_r {N : NS} {b : Nat} {M : Nat → Nat} {P : Nat → List Nat} {r lab M9 : Nat} {p9 : List Nat} (e : 1024 * M9 + p9.length = lab) : kyf N b (ud M r M9) (ud P r p9) r = lab + 1024 * ffo N (xr r) b (N_n N) := by
  show 1024 * ud M r M9 r + (ud P r p9 r).length + _ = _
  rw [ud_s, ud_s, e]
theorem kyf_n {N : NS} {b : Nat} {M : Nat → Nat} {P : Nat → List Nat} {r M9 z : Nat} {p9 : List Nat} (h : z ≠ r) : kyf N b (ud M r M9) (ud P r p9) z = kyf N b M P z := by
  show 1024 * ud M r M9 z + (ud P r p9 z).length + _ = _
  rw [ud_n h, ud_n h]
/-- the whole state of the search -/
def QS (N : NS) (b : Nat) (h hh : ab_H) (K cu : Nat) (dn : Nat → Prop) (kc lim : Nat) (go : Int32) (gi gm : Nat → Int32) (sn cl : Nat → Prop) (M : Nat → Nat) (P : Nat → List Nat) (F J : Nat → Nat) : Prop := ∃ (kn : Bool) (mi me : Int32) (gs gg gr gf gb : Nat → Int32) (sz : Nat) (gk gt gp : Nat → Int32), PL h hh kn mi me b go lim gs gg gr gf gb sz gk gt gp gi gm ∧ PA sn M P F J gg gr gf gb ∧ HP (fun z => sn z ∧ ¬ cl z) (kyf N b M P) sz gk gt gp ∧ IV N b K cu dn kc lim sn cl M P F J
/-- the ways back -/
def PT (cl : Nat → Prop) (P : Nat → List Nat) (F J : Nat → Nat) (r0 : Nat) (gf gb : Nat → Int32) : Prop := ∀ r, cl r → r < 720 ∧ (P r).length < 720 ∧ ((P r = [] ∧ r = r0) ∨ (P r = J r :: P (F r) ∧ cl (F r) ∧ J r < 298 ∧ mav (J r) ∧ gf r = nI (F r) ∧ gb r = nI (mtA (J r))))
theorem IV.pt {N : NS} {b K cu : Nat} {dn : Nat → Prop} {kc lim : Nat} {sn cl : Nat → Prop} {M : Nat → Nat} {P : Nat → List Nat} {F J : Nat → Nat} (iv : IV N b K cu dn kc lim sn cl M P F J) {gg gr gf gb : Nat → Int32} (pa : PA sn M P F J gg gr gf gb) : PT cl P F J (rk (N_t N)) gf gb := by
  have hK := iv.K_
  obtain ⟨i1, i2, i3, i4, i5, i6, i7, i8⟩ := iv
  intro r hr
  obtain ⟨s1, s2, _⟩ := i2 r hr
  obtain ⟨t1, t2, t3, t4, t5, t6, t7⟩ := i1 r s1
  refine ⟨t1, by omega, ?_⟩
  rcases t7 with z | ⟨z1, z2, z3, z4, _⟩
  · exact Or.inl ⟨z.1, by rw [← t3, z.2.1]⟩
  · have := ((pa r t1).2 s1).2.2 (by rw [z1]; exact List.cons_ne_nil _ _)
    exact Or.inr ⟨z1, z2, z3, z4.1, this⟩
theorem rst {a b : Nat} {p q : List Nat} {e e2 : Bool} (h1 : a = b → e2 = e) (h2 : a ≠ b → (e2 = true ↔ a < b)) : (rlt (a :: p) (b :: q) ∨ (a :: p = b :: q ∧ e = true)) ↔ (rlt p q ∨ (p = q ∧ e2 = true)) := by
  show ((rlt p q ∨ (p = q ∧ a < b)) ∨ (a :: p = b :: q ∧ e = true)) ↔ (rlt p q ∨ (p = q ∧ e2 = true))
  rw [List.cons.injEq]
  by_cases z : a = b
  · rw [h1 z]
    constructor
    · rintro ((y | y) | y)
      · exact Or.inl y
      · omega
      · exact Or.inr ⟨y.1.2, y.2⟩
    · rintro (y | y)
      · exact Or.inl (Or.inl y)
      · exact Or.inr ⟨⟨z, y.1⟩, y.2⟩
  · rw [h2 z]
    constructor
    · rintro ((y | y) | y)
      · exact Or.inl y
      · exact Or.inr y
      · exact absurd y.1.1 z
    · rintro (y | y)
      · exact Or.inl (Or.inl y)
      · exact Or.inl (Or.inr y)
theorem c_isEarlier {m : Nat} {h : ab_H} {kn : Bool} {mi me : Int32} {nv : Value} {bo go li : Int32} (h35 : h 35 = oP kn mi me nv bo go li) {gf gb : Nat → Int32} (h39 : h 39 = .inl (720, gf)) (h40 : h 40 = .inl (720, gb)) {cl : Nat → Prop} {P : Nat → List Nat} {F J : Nat → Nat} {r0 : Nat} (pt : PT cl P F J r0 gf gb) {f0 g0 ja jb : Nat} (hf0 : cl f0) (hg0 : cl g0) (hl : (P f0).length = (P g0).length) (ha : ja < 298) (hb : jb < 298) (ma : mav ja) (mb : mav jb) : ab_C Y_Planner_isEarlier [.ref 35, .int (nI f0), .int (nI (mtA ja)), .int (nI g0), .int (nI (mtA jb))] m h (fun r m2 h2 => m2 = m ∧ h2 = h ∧ ∃ eb : Bool, r = some (.int (ab_bl eb)) ∧ (eb = true ↔ rlt (ja :: P f0) (jb :: P g0))) := by
  have mja := mtA_lt ha
  have mjb := mtA_lt hb
  have mono := mtA_mono ha hb ma mb
  have hl9 := (pt f0 hf0).2.1
  refine ab_C.of (L := [some (.ref 35), some (.int (nI f0)), some (.int (nI (mtA ja))), some (.int (nI g0)), some (.int (nI (mtA jb))), none, none, none, none]) rfl rfl (Nat.le_of_ble_eq_true rfl) (fun l => ?_)
  have ex : ∀ (eb : Bool) (v6 v7 v8 : Option Value), (eb = true ↔ rlt (ja :: P f0) (jb :: P g0)) → ab_W Y_Planner_isEarlier none l (fun r m2 h2 => m2 = m ∧ h2 = h ∧ ∃ eb : Bool, r = some (.int (ab_bl eb)) ∧ (eb = true ↔ rlt (ja :: P f0) (jb :: P g0))) 112 [some (.ref 35), some (.int (nI f0)), some (.int (nI (mtA ja))), some (.int (nI g0)), some (.int (nI (mtA jb))), some (.int (ab_bl eb)), v6, v7, v8] [] m h (0, 0) := by
    intro eb v6 v7 v8 hq
    refine aw_iload d_Planner_isEarlier_112 rfl ?_
    refine aw_ireturn d_Planner_isEarlier_114 rfl (ab_bl_nar _) ?_
    exact ⟨rfl, rfl, eb, rfl, hq⟩
  have loop : ∀ n, ∀ (f g k : Nat) (eb : Bool), cl f → cl g → (P f).length = n → (P g).length = n → k + n ≤ 720 → ((rlt (P f) (P g) ∨ (P f = P g ∧ eb = true)) ↔ rlt (ja :: P f0) (jb :: P g0)) → ab_W Y_Planner_isEarlier none l (fun r m2 h2 => m2 = m ∧ h2 = h ∧ ∃ eb : Bool, r = some (.int (ab_bl eb)) ∧ (eb = true ↔ rlt (ja :: P f0) (jb :: P g0))) 22 [some (.ref 35), some (.int (nI f0)), some (.int (nI (mtA ja))), some (.int (nI g0)), some (.int (nI (mtA jb))), some (.int (ab_bl eb)), some (.int (nI f)), some (.int (nI g)), some (.int (nI k))] [] m h (0, 0) := by
    intro n
    induction n with
    | zero =>
      intro f g k eb hf hg h1 h2 hk hq
      obtain ⟨f1, f2, f3⟩ := pt f hf
      obtain ⟨g1, g2, g3⟩ := pt g hg
      have pf := List.length_eq_zero_iff.mp h1
      have pg := List.length_eq_zero_iff.mp h2
      have ef : f = r0 := f3.elim (fun z => z.2) (fun z => by rw [z.1] at pf; cases pf)
      have eg : g = r0 := g3.elim (fun z => z.2) (fun z => by rw [z.1] at pg; cases pg)
      have efg : f = g := ef.trans eg.symm
      have hq : eb = true ↔ rlt (ja :: P f0) (jb :: P g0) := by
        rw [← hq, pf, pg]
        exact ⟨fun z => Or.inr ⟨rfl, z⟩, fun z => z.elim (fun y => False.elim y) (fun y => y.2)⟩
      refine aw_iload d_Planner_isEarlier_22 rfl ?_
      refine aw_sipush (v := nI 720) d_Planner_isEarlier_24 (by decide) ?_
      refine aw_icmp_ge (tgt := 112) d_Planner_isEarlier_27 (by decide) (fun c27 => ?_) (fun c27 => ?_)
      · exact ex eb _ _ _ hq
      · refine aw_iload d_Planner_isEarlier_30 rfl ?_
        refine aw_iload d_Planner_isEarlier_32 rfl ?_
        refine aw_icmp_eq (tgt := 112) d_Planner_isEarlier_34 (by decide) (fun c34 => ?_) (fun c34 => ?_)
        · exact ex eb _ _ _ hq
        · exact absurd (by rw [efg]) c34
    | succ n ih =>
      intro f g k eb hf hg h1 h2 hk hq
      obtain ⟨f1, f2, f3⟩ := pt f hf
      obtain ⟨g1, g2, g3⟩ := pt g hg
      refine aw_iload d_Planner_isEarlier_22 rfl ?_
      refine aw_sipush (v := nI 720) d_Planner_isEarlier_24 (by decide) ?_
      refine aw_icmp_ge (tgt := 112) d_Planner_isEarlier_27 (by decide) (fun c27 => ?_) (fun c27 => ?_)
      · exact absurd c27 (nI_ge (by omega) (by decide))
      · refine aw_iload d_Planner_isEarlier_30 rfl ?_
        refine aw_iload d_Planner_isEarlier_32 rfl ?_
        refine aw_icmp_eq (tgt := 112) d_Planner_isEarlier_34 (by decide) (fun c34 => ?_) (fun c34 => ?_)
        · have efg : f = g := (nI_eq (by omega) (by omega)).mp c34
          refine ex eb _ _ _ ⟨fun z => hq.mp (Or.inr ⟨by rw [efg], z⟩), fun z => ?_⟩
          rcases hq.mpr z with y | y
          · rw [efg] at y
            exact absurd y (rlt_ir _)
          · exact y.2
        · have nfg : f ≠ g := fun z => c34 (by rw [z])
          have ff : P f = J f :: P (F f) ∧ cl (F f) ∧ J f < 298 ∧ mav (J f) ∧ gf f = nI (F f) ∧ gb f = nI (mtA (J f)) := f3.elim (fun z => by rw [z.1, List.length_nil] at h1; omega) id
          have gg : P g = J g :: P (F g) ∧ cl (F g) ∧ J g < 298 ∧ mav (J g) ∧ gf g = nI (F g) ∧ gb g = nI (mtA (J g)) := g3.elim (fun z => by rw [z.1, List.length_nil] at h2; omega) id
          obtain ⟨ff1, ff2, ff3, ff4, ff5, ff6⟩ := ff
          obtain ⟨gg1, gg2, gg3, gg4, gg5, gg6⟩ := gg
          have mf := mtA_lt ff3
          have mg := mtA_lt gg3
          refine aw_iload d_Planner_isEarlier_37 rfl ?_
          refine aw_if_lt (tgt := 112) d_Planner_isEarlier_39 (by decide) (fun c39 => ?_) (fun c39 => ?_)
          · exact absurd c39 (nI_n0 (by omega))
          · refine aw_iload d_Planner_isEarlier_42 rfl ?_
            refine aw_if_lt (tgt := 112) d_Planner_isEarlier_44 (by decide) (fun c44 => ?_) (fun c44 => ?_)
            · exact absurd c44 (nI_n0 (by omega))
            · refine aw_aload_n d_Planner_isEarlier_47 rfl ?_
              refine aw_get (k := 11) d_Planner_isEarlier_48 cl_Planner k_Planner_24 (by decide) h35 rfl ?_
              refine aw_iload d_Planner_isEarlier_51 rfl ?_
              refine aw_ialoadN d_Planner_isEarlier_53 h40 f1 (by decide) ?_
              rw [ff6]
              refine aw_aload_n d_Planner_isEarlier_54 rfl ?_
              refine aw_get (k := 11) d_Planner_isEarlier_55 cl_Planner k_Planner_24 (by decide) h35 rfl ?_
              refine aw_iload d_Planner_isEarlier_58 rfl ?_
              refine aw_ialoadN d_Planner_isEarlier_60 h40 g1 (by decide) ?_
              rw [gg6]
              refine aw_icmp_eq (tgt := 88) d_Planner_isEarlier_61 (by decide) (fun c61 => ?_) (fun c61 => ?_)
              · refine aw_aload_n d_Planner_isEarlier_88 rfl ?_
                refine aw_get (k := 10) d_Planner_isEarlier_89 cl_Planner k_Planner_21 (by decide) h35 rfl ?_
                refine aw_iload d_Planner_isEarlier_92 rfl ?_
                refine aw_ialoadN d_Planner_isEarlier_94 h39 f1 (by decide) ?_
                rw [ff5]
                refine aw_istore (L' := [some (.ref 35), some (.int (nI f0)), some (.int (nI (mtA ja))), some (.int (nI g0)), some (.int (nI (mtA jb))), some (.int (ab_bl eb)), some (.int (nI (F f))), some (.int (nI g)), some (.int (nI k))]) d_Planner_isEarlier_95 ⟨by decide, rfl⟩ rfl ?_
                refine aw_aload_n d_Planner_isEarlier_97 rfl ?_
                refine aw_get (k := 10) d_Planner_isEarlier_98 cl_Planner k_Planner_21 (by decide) h35 rfl ?_
                refine aw_iload d_Planner_isEarlier_101 rfl ?_
                refine aw_ialoadN d_Planner_isEarlier_103 h39 g1 (by decide) ?_
                rw [gg5]
                refine aw_istore (L' := [some (.ref 35), some (.int (nI f0)), some (.int (nI (mtA ja))), some (.int (nI g0)), some (.int (nI (mtA jb))), some (.int (ab_bl eb)), some (.int (nI (F f))), some (.int (nI (F g))), some (.int (nI k))]) d_Planner_isEarlier_104 ⟨by decide, rfl⟩ rfl ?_
                refine aw_iinc (v := nI (k + 1)) (L' := [some (.ref 35), some (.int (nI f0)), some (.int (nI (mtA ja))), some (.int (nI g0)), some (.int (nI (mtA jb))), some (.int (ab_bl eb)), some (.int (nI (F f))), some (.int (nI (F g))), some (.int (nI (k + 1)))]) d_Planner_isEarlier_106 rfl (nI_1 _) ⟨by decide, rfl⟩ rfl ?_
                refine aw_goto (tgt := 22) d_Planner_isEarlier_109 (by decide) ?_
                rw [ff1, List.length_cons] at h1
                rw [gg1, List.length_cons] at h2
                rw [ff1, gg1] at hq
                have inj := fun z => mtA_inj ff3 gg3 ff4 gg4 z
                have mono := mtA_mono ff3 gg3 ff4 gg4
                first
                  | (have z := inj ((nI_eq (by omega) (by omega)).mp c61)
                     exact ih (F f) (F g) (k + 1) eb ff2 gg2 (by omega) (by omega) (by omega) ((rst (fun _ => rfl) (fun y => absurd z y)).symm.trans hq))
                  | (have z : ¬ J f < J g := fun y => absurd c78 (nI_ge (mono.mpr y) (by omega))
                     exact ih (F f) (F g) (k + 1) false ff2 gg2 (by omega) (by omega) (by omega) ((rst (fun y => absurd (show nI (mtA (J f)) = nI (mtA (J g)) by rw [y]) c61) (fun _ => ⟨fun y => absurd y (by decide), fun y => absurd y z⟩)).symm.trans hq))
                  | (have z : J f < J g := mono.mp (Nat.not_le.mp (fun y => c78 (nI_le y (by omega))))
                     exact ih (F f) (F g) (k + 1) true ff2 gg2 (by omega) (by omega) (by omega) ((rst (fun y => absurd y (by omega)) (fun _ => ⟨fun _ => z, fun _ => rfl⟩)).symm.trans hq))
              · refine aw_aload_n d_Planner_isEarlier_64 rfl ?_
                refine aw_get (k := 11) d_Planner_isEarlier_65 cl_Planner k_Planner_24 (by decide) h35 rfl ?_
                refine aw_iload d_Planner_isEarlier_68 rfl ?_
                refine aw_ialoadN d_Planner_isEarlier_70 h40 f1 (by decide) ?_
                rw [ff6]
                refine aw_aload_n d_Planner_isEarlier_71 rfl ?_
                refine aw_get (k := 11) d_Planner_isEarlier_72 cl_Planner k_Planner_24 (by decide) h35 rfl ?_
                refine aw_iload d_Planner_isEarlier_75 rfl ?_
                refine aw_ialoadN d_Planner_isEarlier_77 h40 g1 (by decide) ?_
                rw [gg6]
                refine aw_icmp_ge (tgt := 85) d_Planner_isEarlier_78 (by decide) (fun c78 => ?_) (fun c78 => ?_)
                · refine aw_iconst (v := nI 0) d_Planner_isEarlier_85 (by decide) ?_
                  refine aw_istore (L' := [some (.ref 35), some (.int (nI f0)), some (.int (nI (mtA ja))), some (.int (nI g0)), some (.int (nI (mtA jb))), some (.int (nI 0)), some (.int (nI f)), some (.int (nI g)), some (.int (nI k))]) d_Planner_isEarlier_86 ⟨by decide, rfl⟩ rfl ?_
                  refine aw_aload_n d_Planner_isEarlier_88 rfl ?_
                  refine aw_get (k := 10) d_Planner_isEarlier_89 cl_Planner k_Planner_21 (by decide) h35 rfl ?_
                  refine aw_iload d_Planner_isEarlier_92 rfl ?_
                  refine aw_ialoadN d_Planner_isEarlier_94 h39 f1 (by decide) ?_
                  rw [ff5]
                  refine aw_istore (L' := [some (.ref 35), some (.int (nI f0)), some (.int (nI (mtA ja))), some (.int (nI g0)), some (.int (nI (mtA jb))), some (.int (nI 0)), some (.int (nI (F f))), some (.int (nI g)), some (.int (nI k))]) d_Planner_isEarlier_95 ⟨by decide, rfl⟩ rfl ?_
                  refine aw_aload_n d_Planner_isEarlier_97 rfl ?_
                  refine aw_get (k := 10) d_Planner_isEarlier_98 cl_Planner k_Planner_21 (by decide) h35 rfl ?_
                  refine aw_iload d_Planner_isEarlier_101 rfl ?_
                  refine aw_ialoadN d_Planner_isEarlier_103 h39 g1 (by decide) ?_
                  rw [gg5]
                  refine aw_istore (L' := [some (.ref 35), some (.int (nI f0)), some (.int (nI (mtA ja))), some (.int (nI g0)), some (.int (nI (mtA jb))), some (.int (nI 0)), some (.int (nI (F f))), some (.int (nI (F g))), some (.int (nI k))]) d_Planner_isEarlier_104 ⟨by decide, rfl⟩ rfl ?_
                  refine aw_iinc (v := nI (k + 1)) (L' := [some (.ref 35), some (.int (nI f0)), some (.int (nI (mtA ja))), some (.int (nI g0)), some (.int (nI (mtA jb))), some (.int (nI 0)), some (.int (nI (F f))), some (.int (nI (F g))), some (.int (nI (k + 1)))]) d_Planner_isEarlier_106 rfl (nI_1 _) ⟨by decide, rfl⟩ rfl ?_
                  refine aw_goto (tgt := 22) d_Planner_isEarlier_109 (by decide) ?_
                  rw [ff1, List.length_cons] at h1
                  rw [gg1, List.length_cons] at h2
                  rw [ff1, gg1] at hq
                  have inj := fun z => mtA_inj ff3 gg3 ff4 gg4 z
                  have mono := mtA_mono ff3 gg3 ff4 gg4
                  first
                    | (have z := inj ((nI_eq (by omega) (by omega)).mp c61)
                       exact ih (F f) (F g) (k + 1) eb ff2 gg2 (by omega) (by omega) (by omega) ((rst (fun _ => rfl) (fun y => absurd z y)).symm.trans hq))
                    | (have z : ¬ J f < J g := fun y => absurd c78 (nI_ge (mono.mpr y) (by omega))
                       exact ih (F f) (F g) (k + 1) false ff2 gg2 (by omega) (by omega) (by omega) ((rst (fun y => absurd (show nI (mtA (J f)) = nI (mtA (J g)) by rw [y]) c61) (fun _ => ⟨fun y => absurd y (by decide), fun y => absurd y z⟩)).symm.trans hq))
                    | (have z : J f < J g := mono.mp (Nat.not_le.mp (fun y => c78 (nI_le y (by omega))))
                       exact ih (F f) (F g) (k + 1) true ff2 gg2 (by omega) (by omega) (by omega) ((rst (fun y => absurd y (by omega)) (fun _ => ⟨fun _ => z, fun _ => rfl⟩)).symm.trans hq))
                · refine aw_iconst (v := nI 1) d_Planner_isEarlier_81 (by decide) ?_
                  refine aw_goto (tgt := 86) d_Planner_isEarlier_82 (by decide) ?_
                  refine aw_istore (L' := [some (.ref 35), some (.int (nI f0)), some (.int (nI (mtA ja))), some (.int (nI g0)), some (.int (nI (mtA jb))), some (.int (nI 1)), some (.int (nI f)), some (.int (nI g)), some (.int (nI k))]) d_Planner_isEarlier_86 ⟨by decide, rfl⟩ rfl ?_
                  refine aw_aload_n d_Planner_isEarlier_88 rfl ?_
                  refine aw_get (k := 10) d_Planner_isEarlier_89 cl_Planner k_Planner_21 (by decide) h35 rfl ?_
                  refine aw_iload d_Planner_isEarlier_92 rfl ?_
                  refine aw_ialoadN d_Planner_isEarlier_94 h39 f1 (by decide) ?_
                  rw [ff5]
                  refine aw_istore (L' := [some (.ref 35), some (.int (nI f0)), some (.int (nI (mtA ja))), some (.int (nI g0)), some (.int (nI (mtA jb))), some (.int (nI 1)), some (.int (nI (F f))), some (.int (nI g)), some (.int (nI k))]) d_Planner_isEarlier_95 ⟨by decide, rfl⟩ rfl ?_
                  refine aw_aload_n d_Planner_isEarlier_97 rfl ?_
                  refine aw_get (k := 10) d_Planner_isEarlier_98 cl_Planner k_Planner_21 (by decide) h35 rfl ?_
                  refine aw_iload d_Planner_isEarlier_101 rfl ?_
                  refine aw_ialoadN d_Planner_isEarlier_103 h39 g1 (by decide) ?_
                  rw [gg5]
                  refine aw_istore (L' := [some (.ref 35), some (.int (nI f0)), some (.int (nI (mtA ja))), some (.int (nI g0)), some (.int (nI (mtA jb))), some (.int (nI 1)), some (.int (nI (F f))), some (.int (nI (F g))), some (.int (nI k))]) d_Planner_isEarlier_104 ⟨by decide, rfl⟩ rfl ?_
                  refine aw_iinc (v := nI (k + 1)) (L' := [some (.ref 35), some (.int (nI f0)), some (.int (nI (mtA ja))), some (.int (nI g0)), some (.int (nI (mtA jb))), some (.int (nI 1)), some (.int (nI (F f))), some (.int (nI (F g))), some (.int (nI (k + 1)))]) d_Planner_isEarlier_106 rfl (nI_1 _) ⟨by decide, rfl⟩ rfl ?_
                  refine aw_goto (tgt := 22) d_Planner_isEarlier_109 (by decide) ?_
                  rw [ff1, List.length_cons] at h1
                  rw [gg1, List.length_cons] at h2
                  rw [ff1, gg1] at hq
                  have inj := fun z => mtA_inj ff3 gg3 ff4 gg4 z
                  have mono := mtA_mono ff3 gg3 ff4 gg4
                  first
                    | (have z := inj ((nI_eq (by omega) (by omega)).mp c61)
                       exact ih (F f) (F g) (k + 1) eb ff2 gg2 (by omega) (by omega) (by omega) ((rst (fun _ => rfl) (fun y => absurd z y)).symm.trans hq))
                    | (have z : ¬ J f < J g := fun y => absurd c78 (nI_ge (mono.mpr y) (by omega))
                       exact ih (F f) (F g) (k + 1) false ff2 gg2 (by omega) (by omega) (by omega) ((rst (fun y => absurd (show nI (mtA (J f)) = nI (mtA (J g)) by rw [y]) c61) (fun _ => ⟨fun y => absurd y (by decide), fun y => absurd y z⟩)).symm.trans hq))
                    | (have z : J f < J g := mono.mp (Nat.not_le.mp (fun y => c78 (nI_le y (by omega))))
                       exact ih (F f) (F g) (k + 1) true ff2 gg2 (by omega) (by omega) (by omega) ((rst (fun y => absurd y (by omega)) (fun _ => ⟨fun _ => z, fun _ => rfl⟩)).symm.trans hq))
  refine aw_iload_n d_Planner_isEarlier_0 rfl ?_
  refine aw_iload d_Planner_isEarlier_1 rfl ?_
  refine aw_icmp_ge (tgt := 10) d_Planner_isEarlier_3 (by decide) (fun c3 => ?_) (fun c3 => ?_)
  · refine aw_iconst (v := nI 0) d_Planner_isEarlier_10 (by decide) ?_
    refine aw_istore (L' := [some (.ref 35), some (.int (nI f0)), some (.int (nI (mtA ja))), some (.int (nI g0)), some (.int (nI (mtA jb))), some (.int (nI 0)), none, none, none]) d_Planner_isEarlier_11 ⟨by decide, rfl⟩ rfl ?_
    refine aw_iload_n d_Planner_isEarlier_13 rfl ?_
    refine aw_istore (L' := [some (.ref 35), some (.int (nI f0)), some (.int (nI (mtA ja))), some (.int (nI g0)), some (.int (nI (mtA jb))), some (.int (nI 0)), some (.int (nI f0)), none, none]) d_Planner_isEarlier_14 ⟨by decide, rfl⟩ rfl ?_
    refine aw_iload_n d_Planner_isEarlier_16 rfl ?_
    refine aw_istore (L' := [some (.ref 35), some (.int (nI f0)), some (.int (nI (mtA ja))), some (.int (nI g0)), some (.int (nI (mtA jb))), some (.int (nI 0)), some (.int (nI f0)), some (.int (nI g0)), none]) d_Planner_isEarlier_17 ⟨by decide, rfl⟩ rfl ?_
    refine aw_iconst (v := nI 0) d_Planner_isEarlier_19 (by decide) ?_
    refine aw_istore (L' := [some (.ref 35), some (.int (nI f0)), some (.int (nI (mtA ja))), some (.int (nI g0)), some (.int (nI (mtA jb))), some (.int (nI 0)), some (.int (nI f0)), some (.int (nI g0)), some (.int (nI 0))]) d_Planner_isEarlier_20 ⟨by decide, rfl⟩ rfl ?_
    first
      | (have z : ¬ ja < jb := fun y => absurd c3 (nI_ge (mono.mpr y) (by omega))
         exact loop _ f0 g0 0 false hf0 hg0 rfl hl.symm (by omega) ⟨fun y => y.elim (fun y => Or.inl y) (fun y => absurd y.2 (by decide)), fun y => by
           have y : rlt (P f0) (P g0) ∨ (P f0 = P g0 ∧ ja < jb) := y
           exact y.imp id (fun y => absurd y.2 z)⟩)
      | (have z : ja < jb := mono.mp (Nat.not_le.mp (fun y => c3 (nI_le y (by omega))))
         exact loop _ f0 g0 0 true hf0 hg0 rfl hl.symm (by omega) ⟨fun y => y.imp id (fun y => ⟨y.1, z⟩), fun y => by
           have y : rlt (P f0) (P g0) ∨ (P f0 = P g0 ∧ ja < jb) := y
           exact y.imp id (fun y => ⟨y.1, rfl⟩)⟩)
  · refine aw_iconst (v := nI 1) d_Planner_isEarlier_6 (by decide) ?_
    refine aw_goto (tgt := 11) d_Planner_isEarlier_7 (by decide) ?_
    refine aw_istore (L' := [some (.ref 35), some (.int (nI f0)), some (.int (nI (mtA ja))), some (.int (nI g0)), some (.int (nI (mtA jb))), some (.int (nI 1)), none, none, none]) d_Planner_isEarlier_11 ⟨by decide, rfl⟩ rfl ?_
    refine aw_iload_n d_Planner_isEarlier_13 rfl ?_
    refine aw_istore (L' := [some (.ref 35), some (.int (nI f0)), some (.int (nI (mtA ja))), some (.int (nI g0)), some (.int (nI (mtA jb))), some (.int (nI 1)), some (.int (nI f0)), none, none]) d_Planner_isEarlier_14 ⟨by decide, rfl⟩ rfl ?_
    refine aw_iload_n d_Planner_isEarlier_16 rfl ?_
    refine aw_istore (L' := [some (.ref 35), some (.int (nI f0)), some (.int (nI (mtA ja))), some (.int (nI g0)), some (.int (nI (mtA jb))), some (.int (nI 1)), some (.int (nI f0)), some (.int (nI g0)), none]) d_Planner_isEarlier_17 ⟨by decide, rfl⟩ rfl ?_
    refine aw_iconst (v := nI 0) d_Planner_isEarlier_19 (by decide) ?_
    refine aw_istore (L' := [some (.ref 35), some (.int (nI f0)), some (.int (nI (mtA ja))), some (.int (nI g0)), some (.int (nI (mtA jb))), some (.int (nI 1)), some (.int (nI f0)), some (.int (nI g0)), some (.int (nI 0))]) d_Planner_isEarlier_20 ⟨by decide, rfl⟩ rfl ?_
    first
      | (have z : ¬ ja < jb := fun y => absurd c3 (nI_ge (mono.mpr y) (by omega))
         exact loop _ f0 g0 0 false hf0 hg0 rfl hl.symm (by omega) ⟨fun y => y.elim (fun y => Or.inl y) (fun y => absurd y.2 (by decide)), fun y => by
           have y : rlt (P f0) (P g0) ∨ (P f0 = P g0 ∧ ja < jb) := y
           exact y.imp id (fun y => absurd y.2 z)⟩)
      | (have z : ja < jb := mono.mp (Nat.not_le.mp (fun y => c3 (nI_le y (by omega))))
         exact loop _ f0 g0 0 true hf0 hg0 rfl hl.symm (by omega) ⟨fun y => y.imp id (fun y => ⟨y.1, z⟩), fun y => by
           have y : rlt (P f0) (P g0) ∨ (P f0 = P g0 ∧ ja < jb) := y
           exact y.imp id (fun y => ⟨y.1, rfl⟩)⟩)
