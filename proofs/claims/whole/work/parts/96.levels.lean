def te (n K d a u : Nat) (x : Nat → Nat) : Nat := if isl n K u = true ∧ DD n K (prm n a) = d ∧ num n (ed u (prm n a)) = num n x then WW n K (prm n a) else 0
def cn (n K d t s : Nat) (x : Nat → Nat) : Nat := fb_sm (fun a => fb_sm (fun u => te n K d a u x) 108) t + fb_sm (fun u => te n K d t u x) s
def RG (n K d t s : Nat) (gf gr : Nat → Int32) : Prop := ∀ x, Tb n x → (DD n K x ≤ d → gf (num n x) = nI (DD n K x) ∧ gr (num n x) = nI (WW n K x)) ∧ (DD n K x = d + 1 → gf (num n x) = nI (if 0 < cn n K d t s x then d + 1 else 1000000000) ∧ gr (num n x) = nI (cn n K d t s x)) ∧ (d + 1 < DD n K x → gf (num n x) = nI 1000000000 ∧ gr (num n x) = nI 0)
theorem Tb.pr_ {n t : Nat} (hn : n ≤ 6) (ht : t < TT n) : Tb n (prm n t) := ⟨(prm_t hn ht).1, (prm_t hn ht).2.1⟩
theorem Tb.nu {n : Nat} (hn : n ≤ 6) {x : Nat → Nat} (hx : Tb n x) : num n x < TT n ∧ prm n (num n x) = x := num_t hn hx.1 hx.2
theorem Tb.ij {n : Nat} (hn : n ≤ 6) {x y : Nat → Nat} (hx : Tb n x) (hy : Tb n y) (e : num n x = num n y) : x = y := num_inj hn hx.1 hx.2 hy.1 hy.2 e
theorem WW_pos {n K : Nat} (hn : n ≤ 6) (h0 : 0 < K) (hK : K < 8) {x : Nat → Nat} (hx : Tb n x) : 0 < WW n K x := (DD_t hn h0 hK hx).2.1
theorem cn_full {n K d : Nat} (hn : n ≤ 6) (h0 : 0 < K) (hK : K < 8) {x : Nat → Nat} (hx : Tb n x) (hd : DD n K x = d + 1) : cn n K d (TT n) 0 x = WW n K x := by
  unfold cn
  rw [show fb_sm (fun u => te n K d (TT n) u x) 0 = 0 from rfl, Nat.add_zero, sm_swap, WW_s hn h0 hK hx (by omega)]
  refine fb_sm_cong (fun u _ => ?_)
  by_cases q : isl n K u = true
  · have hb := hx.bk hn q
    obtain ⟨b1, b2⟩ := hb.nu hn
    by_cases z : DD n K (bk_ u x) + 1 = DD n K x
    · rw [if_pos ⟨q, z⟩, fb_sm_cong (g := fun a => if a = num n (bk_ u x) then WW n K (bk_ u x) else 0) (fun a ha => ?_), sm_one b1]
      unfold te
      by_cases e : a = num n (bk_ u x)
      · rw [if_pos e, e, b2, (ed_bk hn q x).1, if_pos ⟨q, by omega, rfl⟩]
      · rw [if_neg e, if_neg]
        intro w
        have ha' := Tb.pr_ hn ha
        have := (ha'.ed hn q).ij hn hx w.2.2
        apply e
        rw [← this, (ed_bk hn q _).2, (prm_t hn ha).2.2]
    · rw [if_neg (fun w => z w.2), fb_sm_cong (g := fun _ => 0) (fun a ha => ?_), sm_0]
      refine if_neg (fun w => z ?_)
      have ha' := Tb.pr_ hn ha
      have := (ha'.ed hn q).ij hn hx w.2.2
      rw [← this, (ed_bk hn q _).2, w.2.1, this]
      omega
  · rw [if_neg (fun w => q w.1), fb_sm_cong (f := fun a => te n K d a u x) (g := fun _ => 0) (fun a ha => if_neg (fun w => q w.1)), sm_0]
theorem RG.next {n K d : Nat} (hn : n ≤ 6) (h0 : 0 < K) (hK : K < 8) {gf gr : Nat → Int32} (h : RG n K d (TT n) 0 gf gr) : RG n K (d + 1) 0 0 gf gr := by
  intro x hx
  obtain ⟨h1, h2, h3⟩ := h x hx
  refine ⟨fun z => ?_, fun z => ?_, fun z => h3 (by omega)⟩
  · by_cases e : DD n K x ≤ d
    · exact h1 e
    · have e' : DD n K x = d + 1 := by omega
      have := h2 e'
      rw [cn_full hn h0 hK hx e', if_pos (WW_pos hn h0 hK hx)] at this
      rw [e']; exact this
  · have := h3 (by omega)
    rw [show cn n K (d + 1) 0 0 x = 0 from rfl, if_neg (Nat.lt_irrefl _)]
    exact this
theorem RG.same {n K d t s t2 s2 : Nat} {gf gr : Nat → Int32} (h : RG n K d t s gf gr) (hc : ∀ x, cn n K d t2 s2 x = cn n K d t s x) : RG n K d t2 s2 gf gr := fun x hx => by
  rw [hc x]; exact h x hx
theorem cn_s (n K d t s : Nat) (x : Nat → Nat) : cn n K d t (s + 1) x = cn n K d t s x + te n K d t s x := by
  unfold cn
  rw [fb_sm_succ]
  omega
theorem cn_t (n K d t : Nat) (x : Nat → Nat) : cn n K d (t + 1) 0 x = cn n K d t 108 x := by
  unfold cn
  rw [fb_sm_succ]
  show _ + _ + 0 = _
  omega
theorem cn_no {n K d t : Nat} (h : ¬ DD n K (prm n t) = d) : ∀ s x, cn n K d t s x = cn n K d t 0 x
  | 0, _ => rfl
  | s + 1, x => by
    rw [cn_s, cn_no h s x]
    unfold te
    rw [if_neg (fun w => h w.2.1), Nat.add_zero]
theorem RG.at {n K d t s a : Nat} (hn : n ≤ 6) (ha : a < TT n) {gf gr : Nat → Int32} (h : RG n K d t s gf gr) (hd : d < 1000) (h0 : 0 < K) (hK : K < 8) : gf a = nI d ↔ DD n K (prm n a) = d := by
  have hx := Tb.pr_ hn ha
  obtain ⟨h1, h2, h3⟩ := h _ hx
  have d15 := (DD_t hn h0 hK hx).1
  rw [(prm_t hn ha).2.2] at h1 h2 h3
  constructor
  · intro e
    by_cases z : DD n K (prm n a) ≤ d
    · rw [(h1 z).1] at e
      exact (nI_eq (by omega) (by omega)).mp e
    · by_cases y : DD n K (prm n a) = d + 1
      · rw [(h2 y).1] at e
        split at e
        · have := (nI_eq (by omega) (by omega)).mp e; omega
        · have := (nI_eq (by decide) (by omega)).mp e; omega
      · rw [(h3 (by omega)).1] at e
        have := (nI_eq (by decide) (by omega)).mp e; omega
  · intro e
    rw [(h1 (by omega)).1, e]
theorem RG.step {n K d t s : Nat} (hn : n ≤ 6) (h0 : 0 < K) (hK : K < 8) (ht : t < TT n) (his : isl n K s = true) (hd : DD n K (prm n t) = d) {gf gr : Nat → Int32} (h : RG n K d t s gf gr) {y : Nat → Nat} (ey : y = ed s (prm n t)) {v w : Int32} (hv : v = if nI (d + 1) < gf (num n y) then nI (d + 1) else gf (num n y)) (hw : w = gr (num n y) + if v = nI (d + 1) then gr t else nI 0) (hd9 : d < 1000) : RG n K d t (s + 1) (upd gf (num n y) v) (upd gr (num n y) w) := by
  subst ey
  have hp := Tb.pr_ hn ht
  have hy := hp.ed hn his
  have dy := DD_ed hn h0 hK hp his
  have d15 := (DD_t hn h0 hK hy).1
  have grt : gr t = nI (WW n K (prm n t)) := by
    have := ((h _ hp).1 (by omega)).2
    rwa [(prm_t hn ht).2.2] at this
  intro x hx
  have dx15 := (DD_t hn h0 hK hx).1
  obtain ⟨h1, h2, h3⟩ := h x hx
  by_cases e : num n x = num n (ed s (prm n t))
  · have ex := hx.ij hn hy e
    rw [ex] at h1 h2 h3 ⊢
    rw [pk_us, pk_us]
    refine ⟨fun z => ?_, fun z => ?_, fun z => absurd z (by omega)⟩
    · have a := h1 z
      have ev : v = nI (DD n K (ed s (prm n t))) := by
        rw [hv, a.1, if_neg (nI_nlt (by omega) (by omega))]
      refine ⟨ev, ?_⟩
      rw [hw, if_neg (by rw [ev]; intro q; have := (nI_eq (by omega) (by omega)).mp q; omega), a.2, nI_add, Nat.add_zero]
    · have a := h2 z
      have ev : v = nI (d + 1) := by
        rw [hv, a.1]
        by_cases q : 0 < cn n K d t s (ed s (prm n t))
        · rw [if_pos q, if_neg (nI_nlt (Nat.le_refl _) (by omega))]
        · rw [if_neg q, if_pos (nI_lt (by omega) (by decide))]
      have wp := WW_pos hn h0 hK hp
      have ec : cn n K d t (s + 1) (ed s (prm n t)) = cn n K d t s (ed s (prm n t)) + WW n K (prm n t) := by
        rw [cn_s]
        unfold te
        rw [if_pos ⟨his, hd, rfl⟩]
      rw [ec, if_pos (by omega)]
      refine ⟨ev, ?_⟩
      rw [hw, if_pos ev, a.2, grt, nI_add]
  · rw [pk_un e, pk_un e]
    have ec : cn n K d t (s + 1) x = cn n K d t s x := by
      rw [cn_s]
      unfold te
      rw [if_neg (fun w => e w.2.2.symm), Nat.add_zero]
    rw [ec]
    exact ⟨h1, h2, h3⟩
theorem RG.skip {n K d t s : Nat} {gf gr : Nat → Int32} (h : RG n K d t s gf gr) (hno : isl n K s = false) : RG n K d t (s + 1) gf gr := h.same (fun x => by
  rw [cn_s]
  unfold te
  rw [if_neg (fun w => by rw [hno] at w; cases w.1), Nat.add_zero])
theorem num_id {n : Nat} (hn : n ≤ 6) : num n (fun k => k) = 0 := by
  have := (prm_t hn (TT_le hn).2).2.2
  rwa [prm_0 hn] at this
theorem RG.ini {n K : Nat} (hn : n ≤ 6) (h0 : 0 < K) (hK : K < 8) {gf gr : Nat → Int32} (e0 : gf 0 = nI 0) (e1 : gr 0 = nI 1) (e2 : ∀ k, 0 < k → k < TT n → gf k = nI 1000000000 ∧ gr k = nI 0) : RG n K 0 0 0 gf gr := by
  intro x hx
  have ne : ¬ DD n K x = 0 → 0 < num n x := fun z => Nat.pos_of_ne_zero (fun y => z ((DD_0 hn h0 hK hx).mpr (hx.ij hn (Tb.id n) (y.trans (num_id hn).symm))))
  refine ⟨fun z => ?_, fun z => ?_, fun z => e2 _ (ne (by omega)) (hx.nu hn).1⟩
  · have ex := (DD_0 hn h0 hK hx).mp (by omega)
    rw [show DD n K x = 0 by omega, ex, num_id hn, WW_0 hn h0 hK]
    exact ⟨e0, e1⟩
  · have := e2 _ (ne (by omega)) (hx.nu hn).1
    rw [show cn n K 0 0 0 x = 0 from rfl, if_neg (Nat.lt_irrefl _)]
    exact this
/-- when a level is empty, or there are no slips, all is known -/
theorem lev_end {n K d : Nat} (hn : n ≤ 6) (h0 : 0 < K) (hK : K < 8) (h : ∀ a, a < TT n → ∀ u, isl n K u = true → ¬ DD n K (prm n a) = d) : ∀ x, Tb n x → DD n K x ≤ d := by
  have key : ∀ e x, Tb n x → DD n K x = e → e ≤ d := by
    intro e
    induction e with
    | zero => intro x _ _; exact Nat.zero_le _
    | succ e ih =>
      intro x hx hd
      obtain ⟨s, hs, es⟩ := DD_pred hn h0 hK hx (by omega)
      have hb := hx.bk hn hs
      have le := ih _ hb (by omega)
      have ne := h (num n (bk_ s x)) (hb.nu hn).1 s hs
      rw [(hb.nu hn).2] at ne
      omega
  exact fun x hx => key _ x hx rfl
theorem RG.all {n K d : Nat} {gf gr : Nat → Int32} (h : RG n K (d + 1) 0 0 gf gr) (hd : ∀ x, Tb n x → DD n K x ≤ d) : ∀ x, Tb n x → gf (num n x) = nI (DD n K x) ∧ gr (num n x) = nI (WW n K x) := fun x hx => (h x hx).1 (by have := hd x hx; omega)
theorem lft_s (n K : Nat) : ∀ i x, lft n K (i + 1) x = ren (ftw n K (lft n K i x)) (lft n K i x)
  | 0, x => rfl
  | i + 1, x => lft_s n K i (ren (ftw n K x) x)
theorem iv_ed {n K s : Nat} (hn : n ≤ 6) (hs : isl n K s = true) {z : Nat → Nat} (hz : Tb n z) (v : Nat) (hv : v < 6) : iv (ed s z) v = tgs s (iv z v) := by
  obtain ⟨a, b, c, d, e, f⟩ := isl_t hn hs
  have he := hz.ed hn hs
  have h1 := (iv_t hz.1 hv).1
  have h2 := (iv_t hz.1 hv).2.1
  have h3 : ed s z (tgs s (iv z v)) = v := by
    show z (tvs s (tgs s (iv z v))) = v
    rw [e, h1]
  have h4 := (iv_t he.1 (a.1 _ h2)).2.2
  rw [h3] at h4
  exact h4
