abbrev sl (n K i : Nat) : Nat := nth (isl n K) 108 i
abbrev Lk (n K : Nat) : Nat := fb_ct (isl n K) 108
theorem sl_t {n K i : Nat} (hi : i < Lk n K) : isl n K (sl n K i) = true ∧ fb_ct (isl n K) (sl n K i) = i := (nth_t hi).2
theorem sl_c {n K s : Nat} (h : isl n K s = true) : fb_ct (isl n K) s < Lk n K ∧ sl n K (fb_ct (isl n K) s) = s := by
  have lt := ct_lt h (isl_s h).1
  have e := nth_t lt
  exact ⟨lt, ct_inj e.2.1 h e.2.2⟩
def inq (c : Nat) (qf : Nat → Nat → Nat) (x : Nat → Nat) : Prop := ∃ j, j < c ∧ qf j = x
def BQ (n K k i c : Nat) (qf : Nat → Nat → Nat) : Prop := (∀ j, j < c → Tb n (qf j)) ∧ (qf 0 = fun k => k) ∧ (∀ a b, a < b → b < c → qf a ≠ qf b) ∧ (∀ a b, a ≤ b → b < c → DD n K (qf a) ≤ DD n K (qf b)) ∧ (k < c → ∀ b, b < c → DD n K (qf b) ≤ DD n K (qf k) + 1) ∧ (∀ a, a < k → ∀ s, isl n K s = true → inq c qf (ed s (qf a))) ∧ (∀ j, j < i → inq c qf (ed (sl n K j) (qf k))) ∧ k ≤ c ∧ 0 < c
def tm (n K : Nat) (u x : Nat → Nat) (j : Nat) : Nat := if rk (ed (sl n K j) u) = rk x ∧ DD n K u + 1 = DD n K x then WW n K u else 0
def ac (n K k i : Nat) (qf : Nat → Nat → Nat) (x : Nat → Nat) : Nat := (if rk x = 0 then 1 else 0) + fb_sm (fun a => fb_sm (tm n K (qf a) x) (Lk n K)) k + fb_sm (tm n K (qf k) x) i
def BG (n K k i c : Nat) (qf : Nat → Nat → Nat) (gf gw gq : Nat → Int32) : Prop := (∀ j, j < c → gq j = nI (pk (qf j))) ∧ (∀ x, Tb n x → inq c qf x → gf (rk x) = nI (DD n K x) ∧ gw (rk x) = nI (ac n K k i qf x)) ∧ ∀ x, Tb n x → ¬ inq c qf x → gf (rk x) = -1
theorem BQ.in {n K k i c : Nat} (hn : n ≤ 6) (h0 : 0 < K) (hK : K < 8) {qf : Nat → Nat → Nat} (b : BQ n K k i c qf) (hk : k < c) : ∀ d x, Tb n x → DD n K x = d → d ≤ DD n K (qf k) → inq c qf x := by
  obtain ⟨b1, b2, b3, b4, b5, b6, b7, b8, b9⟩ := b
  intro d
  induction d with
  | zero =>
    intro x hx e _
    exact ⟨0, b9, by rw [b2, (DD_0 hn h0 hK hx).mp e]⟩
  | succ d ih =>
    intro x hx e hd
    obtain ⟨s, hs, es⟩ := DD_pred hn h0 hK hx (by omega)
    obtain ⟨j, hj, ej⟩ := ih (bk_ s x) (hx.bk hn hs) (by omega) (by omega)
    have lt : j < k := Nat.not_le.mp (fun z => by
      have := b4 k j z hj
      rw [ej] at this
      omega)
    have := b6 j lt s hs
    rw [ej, (ed_bk hn hs x).1] at this
    exact this
theorem BQ.lt {n K k i c : Nat} (hn : n ≤ 6) (h0 : 0 < K) (hK : K < 8) {qf : Nat → Nat → Nat} (b : BQ n K k i c qf) (hk : k < c) {x : Nat → Nat} (hx : Tb n x) (hd : DD n K x < DD n K (qf k)) : ∃ j, j < k ∧ qf j = x := by
  obtain ⟨j, hj, ej⟩ := b.in hn h0 hK hk _ x hx rfl (by omega)
  refine ⟨j, Nat.not_le.mp (fun z => ?_), ej⟩
  have := b.2.2.2.1 k j z hj
  rw [ej] at this
  omega
theorem inj_le {f : Nat → Nat} {c m : Nat} (h : ∀ i, i < c → f i < m) (h2 : ∀ i j, i < j → j < c → f i ≠ f j) : c ≤ m := by
  apply Nat.not_lt.mp
  intro z
  obtain ⟨i, hi, ei⟩ := fb_onto (n := m) (fun i hi => h i (by omega)) (fun i j a b => h2 i j a (by omega)) (h m z)
  exact h2 i m hi z ei
theorem BQ.le {n K k i c : Nat} {qf : Nat → Nat → Nat} (b : BQ n K k i c qf) : c ≤ 720 := inj_le (f := fun j => rk (qf j)) (fun i hi => (rk_t (b.1 i hi).1).1) (fun i j hij hj e => b.2.2.1 i j hij hj (rk_inj (b.1 i (by omega)).1 (b.1 j hj).1 e))
theorem BQ.room {n K k i c : Nat} {qf : Nat → Nat → Nat} (b : BQ n K k i c qf) {y : Nat → Nat} (hy : Tb n y) (hno : ¬ inq c qf y) : c < 720 := by
  have : c + 1 ≤ 720 := inj_le (f := fun j => if j < c then rk (qf j) else rk y) (fun i hi => by
    show (if i < c then rk (qf i) else rk y) < 720
    split
    · exact (rk_t (b.1 i (by assumption)).1).1
    · exact (rk_t hy.1).1) (fun i j hij hj e => by
    have e : (if i < c then rk (qf i) else rk y) = (if j < c then rk (qf j) else rk y) := e
    rw [if_pos (show i < c by omega)] at e
    by_cases q : j < c
    · rw [if_pos q] at e
      exact b.2.2.1 i j hij q (rk_inj (b.1 i (by omega)).1 (b.1 j q).1 e)
    · rw [if_neg q] at e
      exact hno ⟨i, by omega, rk_inj (b.1 i (by omega)).1 hy.1 e⟩)
  omega
theorem ac_W {n K k i : Nat} (hn : n ≤ 6) (h0 : 0 < K) (hK : K < 8) {qf : Nat → Nat → Nat} (hq : ∀ j, j < k → Tb n (qf j)) (hd : ∀ a b, a < b → b < k → qf a ≠ qf b) {x : Nat → Nat} (hx : Tb n x) (hp : ∀ s, isl n K s = true → DD n K (bk_ s x) + 1 = DD n K x → ∃ a, a < k ∧ qf a = bk_ s x) (hz : ∀ j, j < i → tm n K (qf k) x j = 0) : ac n K k i qf x = WW n K x := by
  have z1 : fb_sm (tm n K (qf k) x) i = 0 := by rw [fb_sm_cong (g := fun _ => 0) hz, sm_0]
  unfold ac
  rw [z1, Nat.add_zero]
  by_cases d0 : DD n K x = 0
  · have ex := (DD_0 hn h0 hK hx).mp d0
    rw [fb_sm_cong (g := fun _ => 0) (fun a _ => by
      rw [fb_sm_cong (f := tm n K (qf a) x) (g := fun _ => 0) (fun j _ => if_neg (fun w => by omega)), sm_0]), sm_0, if_pos ((rk_0 hx.1).mpr ex), ex, WW_0 hn h0 hK]
  · have r0 : ¬ rk x = 0 := fun z => d0 ((DD_0 hn h0 hK hx).mpr ((rk_0 hx.1).mp z))
    rw [if_neg r0, Nat.zero_add, WW_s hn h0 hK hx (by omega)]
    have e1 : fb_sm (fun s => if isl n K s = true ∧ DD n K (bk_ s x) + 1 = DD n K x then WW n K (bk_ s x) else 0) 108 = fb_sm (fun s => if isl n K s = true then (if DD n K (bk_ s x) + 1 = DD n K x then WW n K (bk_ s x) else 0) else 0) 108 := by
      refine fb_sm_cong (fun s _ => ?_)
      by_cases a : isl n K s = true
      · by_cases c : DD n K (bk_ s x) + 1 = DD n K x
        · rw [if_pos ⟨a, c⟩, if_pos a, if_pos c]
        · rw [if_neg (fun w => c w.2), if_pos a, if_neg c]
      · rw [if_neg (fun w => a w.1), if_neg a]
    rw [e1, sm_nth (M := 108) (f := fun s => if DD n K (bk_ s x) + 1 = DD n K x then WW n K (bk_ s x) else 0) (Nat.le_refl _), sm_swap]
    refine fb_sm_cong (fun j hj => ?_)
    obtain ⟨his, -⟩ := sl_t hj
    have key : ∀ a, a < k → (rk (ed (sl n K j) (qf a)) = rk x ↔ qf a = bk_ (sl n K j) x) := fun a ha => by
      constructor
      · intro z
        have := rk_inj ((hq a ha).ed hn his).1 hx.1 z
        rw [← this, (ed_bk hn his _).2]
      · intro z
        rw [z, (ed_bk hn his x).1]
    show fb_sm (fun a => tm n K (qf a) x j) k = if DD n K (bk_ (sl n K j) x) + 1 = DD n K x then WW n K (bk_ (sl n K j) x) else 0
    by_cases c : DD n K (bk_ (sl n K j) x) + 1 = DD n K x
    · rw [if_pos c]
      obtain ⟨a0, ha0, ea⟩ := hp _ his c
      rw [fb_sm_cong (g := fun a => if a = a0 then WW n K (bk_ (sl n K j) x) else 0) (fun a ha => ?_), sm_one ha0]
      unfold tm
      by_cases e : a = a0
      · subst e
        rw [if_pos ⟨(key a ha).mpr ea, by rw [ea]; exact c⟩, if_pos rfl, ea]
      · rw [if_neg e, if_neg (fun w => ?_)]
        have ez := (key a ha).mp w.1
        rw [← ea] at ez
        rcases Nat.lt_trichotomy a a0 with q | q | q
        · exact hd a a0 q ha0 ez
        · exact e q
        · exact hd a0 a q ha ez.symm
    · rw [if_neg c, fb_sm_cong (g := fun _ => 0) (fun a ha => ?_), sm_0]
      refine if_neg (fun w => ?_)
      have ez := (key a ha).mp w.1
      rw [ez] at w
      exact c w.2
theorem BQ.W {n K k i c : Nat} (hn : n ≤ 6) (h0 : 0 < K) (hK : K < 8) {qf : Nat → Nat → Nat} (b : BQ n K k i c qf) (hk : k < c) : ac n K k i qf (qf k) = WW n K (qf k) := ac_W hn h0 hK (fun j hj => b.1 j (by omega)) (fun x y h1 h2 => b.2.2.1 x y h1 (by omega)) (b.1 k hk) (fun s hs e => b.lt hn h0 hK hk ((b.1 k hk).bk hn hs) (by omega)) (fun j _ => if_neg (fun w => by omega))
theorem ac_s (n K k i : Nat) (qf : Nat → Nat → Nat) (x : Nat → Nat) : ac n K k (i + 1) qf x = ac n K k i qf x + tm n K (qf k) x i := by
  unfold ac
  rw [fb_sm_succ]
  omega
theorem ac_next (n K k : Nat) (qf : Nat → Nat → Nat) (x : Nat → Nat) : ac n K (k + 1) 0 qf x = ac n K k (Lk n K) qf x := by
  unfold ac
  rw [fb_sm_succ]
  show _ + _ + 0 = _
  rw [Nat.add_zero, Nat.add_assoc]
theorem ac_cong {n K k i : Nat} {qf qf2 : Nat → Nat → Nat} (h : ∀ j, j ≤ k → qf j = qf2 j) (x : Nat → Nat) : ac n K k i qf x = ac n K k i qf2 x := by
  unfold ac
  rw [h k (Nat.le_refl _), fb_sm_cong (fun a ha => by rw [h a (by omega)])]
theorem BQ.new {n K k i c : Nat} (hn : n ≤ 6) (h0 : 0 < K) (hK : K < 8) {qf : Nat → Nat → Nat} (b : BQ n K k i c qf) (hk : k < c) (hi : i < Lk n K) (hno : ¬ inq c qf (ed (sl n K i) (qf k))) : DD n K (ed (sl n K i) (qf k)) = DD n K (qf k) + 1 ∧ BQ n K k (i + 1) (c + 1) (ud qf c (ed (sl n K i) (qf k))) := by
  obtain ⟨his, -⟩ := sl_t hi
  have hu := b.1 k hk
  have hy := hu.ed hn his
  have hle := DD_ed hn h0 hK hu his
  have e : DD n K (ed (sl n K i) (qf k)) = DD n K (qf k) + 1 := by
    apply Nat.le_antisymm hle
    apply Nat.not_lt.mp
    intro z
    exact hno (b.in hn h0 hK hk _ _ hy rfl (by omega))
  refine ⟨e, ?_⟩
  obtain ⟨b1, b2, b3, b4, b5, b6, b7, b8, b9⟩ := b
  have old : ∀ j, j < c → ud qf c (ed (sl n K i) (qf k)) j = qf j := fun j hj => if_neg (by omega)
  have nw : ud qf c (ed (sl n K i) (qf k)) c = ed (sl n K i) (qf k) := if_pos rfl
  have up : ∀ x, inq c qf x → inq (c + 1) (ud qf c (ed (sl n K i) (qf k))) x := fun x ⟨j, hj, ej⟩ => ⟨j, by omega, by rw [old j hj, ej]⟩
  refine ⟨fun j hj => ?_, by rw [old 0 b9, b2], fun x y h1 h2 => ?_, fun x y h1 h2 => ?_, fun _ y hy2 => ?_, fun a ha s hs => ?_, fun j hj => ?_, by omega, by omega⟩
  · by_cases q : j = c
    · subst q; rw [nw]; exact hy
    · rw [old j (by omega)]; exact b1 j (by omega)
  · by_cases q : y = c
    · subst q
      rw [nw, old x h1]
      exact fun z => hno ⟨x, h1, z⟩
    · rw [old y (by omega), old x (by omega)]; exact b3 x y h1 (by omega)
  · by_cases q : y = c
    · subst q
      rw [nw, e]
      by_cases q2 : x = y
      · rw [q2, nw, e]; exact Nat.le_refl _
      · rw [old x (by omega)]; exact b5 hk x (by omega)
    · rw [old y (by omega), old x (by omega)]; exact b4 x y h1 (by omega)
  · rw [old k hk]
    by_cases q : y = c
    · subst q; rw [nw, e]; exact Nat.le_refl _
    · rw [old y (by omega)]; exact b5 hk y (by omega)
  · rw [old a (by omega)]; exact up _ (b6 a ha s hs)
  · rw [old k hk]
    by_cases q : j = i
    · subst q; exact ⟨c, by omega, nw⟩
    · exact up _ (b7 j (by omega))
theorem BQ.old {n K k i c : Nat} {qf : Nat → Nat → Nat} (b : BQ n K k i c qf) (hin : inq c qf (ed (sl n K i) (qf k))) : BQ n K k (i + 1) c qf := by
  obtain ⟨b1, b2, b3, b4, b5, b6, b7, b8, b9⟩ := b
  refine ⟨b1, b2, b3, b4, b5, b6, fun j hj => ?_, b8, b9⟩
  by_cases q : j = i
  · subst q; exact hin
  · exact b7 j (by omega)
theorem BQ.next {n K k c : Nat} {qf : Nat → Nat → Nat} (b : BQ n K k (Lk n K) c qf) (hk : k < c) : BQ n K (k + 1) 0 c qf := by
  obtain ⟨b1, b2, b3, b4, b5, b6, b7, b8, b9⟩ := b
  refine ⟨b1, b2, b3, b4, fun hk2 y hy => ?_, fun a ha s hs => ?_, fun j hj => absurd hj (Nat.not_lt_zero _), by omega, b9⟩
  · have h1 := b5 hk y hy
    have h2 := b4 k (k + 1) (by omega) hk2
    omega
  · by_cases q : a = k
    · subst q
      obtain ⟨h1, h2⟩ := sl_c hs
      have := b7 _ h1
      rw [h2] at this
      exact this
    · exact b6 a (by omega) s hs
theorem BG.next {n K k c : Nat} {qf : Nat → Nat → Nat} {gf gw gq : Nat → Int32} (g : BG n K k (Lk n K) c qf gf gw gq) : BG n K (k + 1) 0 c qf gf gw gq := ⟨g.1, fun x hx hi => ⟨(g.2.1 x hx hi).1, by rw [ac_next]; exact (g.2.1 x hx hi).2⟩, g.2.2⟩
theorem BG.new {n K k i c : Nat} (hn : n ≤ 6) (h0 : 0 < K) (hK : K < 8) {qf : Nat → Nat → Nat} (b : BQ n K k i c qf) (hk : k < c) (hi : i < Lk n K) (hno : ¬ inq c qf (ed (sl n K i) (qf k))) {gf gw gq : Nat → Int32} (g : BG n K k i c qf gf gw gq) {y : Nat → Nat} (ey : y = ed (sl n K i) (qf k)) : BG n K k (i + 1) (c + 1) (ud qf c y) (upd gf (rk y) (nI (DD n K y))) (upd gw (rk y) (nI (WW n K (qf k)))) (upd gq c (nI (pk y))) := by
  subst ey
  obtain ⟨his, -⟩ := sl_t hi
  have hu := b.1 k hk
  have hy := hu.ed hn his
  have e := (b.new hn h0 hK hk hi hno).1
  have old : ∀ j, j < c → ud qf c (ed (sl n K i) (qf k)) j = qf j := fun j hj => if_neg (by omega)
  have nw : ud qf c (ed (sl n K i) (qf k)) c = ed (sl n K i) (qf k) := if_pos rfl
  have ea : ∀ x, ac n K k (i + 1) (ud qf c (ed (sl n K i) (qf k))) x = ac n K k (i + 1) qf x := fun x => ac_cong (fun j hj => old j (by omega)) x
  refine ⟨fun j hj => ?_, fun x hx hin => ?_, fun x hx hin => ?_⟩
  · by_cases q : j = c
    · subst q; rw [pk_us, nw]
    · rw [pk_un q, old j (by omega)]; exact g.1 j (by omega)
  · rw [ea]
    by_cases q : rk x = rk (ed (sl n K i) (qf k))
    · have ex := rk_inj hx.1 hy.1 q
      subst ex
      rw [pk_us, pk_us]
      refine ⟨rfl, congrArg nI ?_⟩
      have r0 : ¬ rk (ed (sl n K i) (qf k)) = 0 := fun z => hno ⟨0, b.2.2.2.2.2.2.2.2, by rw [b.2.1, (rk_0 hy.1).mp z]⟩
      have z1 : ac n K k i qf (ed (sl n K i) (qf k)) = 0 := by
        unfold ac
        rw [if_neg r0, fb_sm_cong (g := fun _ => 0) (fun a ha => ?_), sm_0, fb_sm_cong (g := fun _ => 0) (fun j hj => ?_), sm_0]
        · refine if_neg (fun w => hno ?_)
          obtain ⟨hij, -⟩ := sl_t (show j < Lk n K by omega)
          have := rk_inj (hu.ed hn hij).1 hy.1 w.1
          rw [← this]
          exact b.2.2.2.2.2.2.1 j hj
        · rw [fb_sm_cong (g := fun _ => 0) (fun j hj => ?_), sm_0]
          refine if_neg (fun w => hno ?_)
          obtain ⟨hij, -⟩ := sl_t hj
          have hb8 := b.2.2.2.2.2.2.2.1
          have := rk_inj ((b.1 a (by omega)).ed hn hij).1 hy.1 w.1
          rw [← this]
          exact b.2.2.2.2.2.1 a ha _ hij
      rw [ac_s, z1, Nat.zero_add]
      unfold tm
      rw [if_pos ⟨rfl, e.symm⟩]
    · rw [pk_un q, pk_un q]
      have hin2 : inq c qf x := by
        obtain ⟨j, hj, ej⟩ := hin
        by_cases z : j = c
        · subst z; rw [nw] at ej; rw [← ej] at q; exact absurd rfl q
        · exact ⟨j, by omega, by rw [← old j (by omega), ej]⟩
      refine ⟨(g.2.1 x hx hin2).1, ?_⟩
      rw [(g.2.1 x hx hin2).2, ac_s]
      unfold tm
      rw [if_neg (fun w => q w.1.symm), Nat.add_zero]
  · have q : ¬ rk x = rk (ed (sl n K i) (qf k)) := fun z => hin ⟨c, by omega, by rw [nw]; exact (rk_inj hx.1 hy.1 z).symm⟩
    rw [pk_un q]
    exact g.2.2 x hx (fun ⟨j, hj, ej⟩ => hin ⟨j, by omega, by rw [old j hj, ej]⟩)
theorem BG.same {n K k i c : Nat} (hn : n ≤ 6) {qf : Nat → Nat → Nat} (b : BQ n K k i c qf) (hk : k < c) (hi : i < Lk n K) {gf gw gq : Nat → Int32} (g : BG n K k i c qf gf gw gq) (hne : ¬ DD n K (qf k) + 1 = DD n K (ed (sl n K i) (qf k))) : BG n K k (i + 1) c qf gf gw gq := by
  obtain ⟨his, -⟩ := sl_t hi
  have hy := (b.1 k hk).ed hn his
  refine ⟨g.1, fun x hx hin => ⟨(g.2.1 x hx hin).1, ?_⟩, g.2.2⟩
  rw [(g.2.1 x hx hin).2, ac_s]
  unfold tm
  rw [if_neg (fun w => by
    have := rk_inj hy.1 hx.1 w.1
    rw [← this] at w
    exact hne w.2), Nat.add_zero]
theorem BG.add {n K k i c : Nat} (hn : n ≤ 6) {qf : Nat → Nat → Nat} (b : BQ n K k i c qf) (hk : k < c) (hi : i < Lk n K) {gf gw gq : Nat → Int32} (g : BG n K k i c qf gf gw gq) (heq : DD n K (qf k) + 1 = DD n K (ed (sl n K i) (qf k))) : BG n K k (i + 1) c qf gf (upd gw (rk (ed (sl n K i) (qf k))) (gw (rk (ed (sl n K i) (qf k))) + nI (WW n K (qf k)))) gq := by
  obtain ⟨his, -⟩ := sl_t hi
  have hy := (b.1 k hk).ed hn his
  refine ⟨g.1, fun x hx hin => ⟨(g.2.1 x hx hin).1, ?_⟩, g.2.2⟩
  by_cases q : rk x = rk (ed (sl n K i) (qf k))
  · have ex := rk_inj hx.1 hy.1 q
    subst ex
    rw [pk_us, (g.2.1 _ hx hin).2, nI_add, ac_s]
    unfold tm
    rw [if_pos ⟨rfl, heq⟩]
  · rw [pk_un q, (g.2.1 x hx hin).2, ac_s]
    unfold tm
    rw [if_neg (fun w => q w.1.symm), Nat.add_zero]
theorem BQ.all {n K c : Nat} (hn : n ≤ 6) (h0 : 0 < K) (hK : K < 8) {qf : Nat → Nat → Nat} (b : BQ n K c 0 c qf) : ∀ d x, Tb n x → DD n K x = d → inq c qf x := by
  obtain ⟨b1, b2, b3, b4, b5, b6, b7, b8, b9⟩ := b
  intro d
  induction d with
  | zero =>
    intro x hx e
    exact ⟨0, b9, by rw [b2, (DD_0 hn h0 hK hx).mp e]⟩
  | succ d ih =>
    intro x hx e
    obtain ⟨s, hs, es⟩ := DD_pred hn h0 hK hx (by omega)
    obtain ⟨j, hj, ej⟩ := ih (bk_ s x) (hx.bk hn hs) (by omega)
    have := b6 j hj s hs
    rw [ej, (ed_bk hn hs x).1] at this
    exact this
/-- what is known of slips in the end -/
def SV (pe k kn : Nat) (gs gt gf gw : Nat → Int32) : Prop := kn = Lk pe k ∧ LSl pe k 108 gs gt ∧ ∀ x, Tb pe x → gf (rk x) = nI (DD pe k x) ∧ gw (rk x) = nI (WW pe k x)
theorem BG.fin {n K c : Nat} (hn : n ≤ 6) (h0 : 0 < K) (hK : K < 8) {qf : Nat → Nat → Nat} (b : BQ n K c 0 c qf) {gf gw gq : Nat → Int32} (g : BG n K c 0 c qf gf gw gq) : ∀ x, Tb n x → gf (rk x) = nI (DD n K x) ∧ gw (rk x) = nI (WW n K x) := by
  intro x hx
  have h := g.2.1 x hx (b.all hn h0 hK _ x hx rfl)
  refine ⟨h.1, ?_⟩
  rw [h.2, ac_W hn h0 hK b.1 b.2.2.1 hx (fun s hs _ => ?_) (fun j hj => absurd hj (Nat.not_lt_zero _))]
  obtain ⟨j, hj, ej⟩ := b.all hn h0 hK _ (bk_ s x) (hx.bk hn hs) rfl
  exact ⟨j, hj, ej⟩
theorem BQ.ini {n K : Nat} : BQ n K 0 0 1 (fun _ k => k) := ⟨fun _ _ => Tb.id n, rfl, fun a b h1 h2 => absurd h2 (by omega), fun _ _ _ _ => Nat.le_refl _, fun _ _ _ => Nat.le_succ _, fun a ha => absurd ha (Nat.not_lt_zero _), fun a ha => absurd ha (Nat.not_lt_zero _), Nat.zero_le _, Nat.one_pos⟩
theorem BG.ini {n K : Nat} (hn : n ≤ 6) (h0 : 0 < K) (hK : K < 8) {gf gw gq : Nat → Int32} (e0 : gf 0 = nI 0) (e1 : ∀ k, 0 < k → k < 720 → gf k = -1) (e2 : gw 0 = nI 1) (e3 : gq 0 = nI 181896) : BG n K 0 0 1 (fun _ k => k) gf gw gq := by
  refine ⟨fun j hj => ?_, fun x hx hin => ?_, fun x hx hin => ?_⟩
  · rw [show j = 0 by omega, e3, pk_own]
  · obtain ⟨j, hj, ej⟩ := hin
    have r0 : rk x = 0 := (rk_0 hx.1).mpr ej.symm
    have d0 := (DD_0 hn h0 hK hx).mpr ej.symm
    rw [r0, e0, e2, d0]
    refine ⟨rfl, ?_⟩
    unfold ac
    rw [if_pos r0]
    rfl
  · refine e1 _ ?_ (rk_t hx.1).1
    exact Nat.pos_of_ne_zero (fun z => hin ⟨0, Nat.one_pos, ((rk_0 hx.1).mp z).symm⟩)
