/-! THE HEAP: tables that are open by their keys; q: the table at each place -/
abbrev pr_ (i : Nat) : Nat := (i - 1) / 2
/-- with a hole at pl, where q tells what shall stand -/
def HB_ (op : Nat → Prop) (ky : Nat → Nat) (sz pl : Nat) (q : Nat → Nat) (gk gt gp : Nat → Int32) : Prop := sz ≤ 720 ∧ pl < sz ∧ (∀ i, i < sz → q i < 720 ∧ op (q i) ∧ gk (q i) = nI (ky (q i)) ∧ ky (q i) < 2147483648) ∧ (∀ i, i < sz → i ≠ pl → gt i = nI (q i) ∧ gp (q i) = nI i) ∧ (∀ i j, i < sz → j < sz → q i = q j → i = j) ∧ ∀ r, op r → ∃ i, i < sz ∧ q i = r
def UP_ (ky : Nat → Nat) (sz pl : Nat) (q : Nat → Nat) : Prop := (∀ i, 0 < i → i < sz → i ≠ pl → ky (q (pr_ i)) ≤ ky (q i)) ∧ ∀ i, 0 < i → i < sz → pr_ i = pl → 0 < pl → ky (q (pr_ pl)) ≤ ky (q i)
def DN_ (ky : Nat → Nat) (sz pl : Nat) (q : Nat → Nat) : Prop := (∀ i, 0 < i → i < sz → pr_ i ≠ pl → ky (q (pr_ i)) ≤ ky (q i)) ∧ ∀ i, 0 < i → i < sz → pr_ i = pl → 0 < pl → ky (q (pr_ pl)) ≤ ky (q i)
def HP (op : Nat → Prop) (ky : Nat → Nat) (sz : Nat) (gk gt gp : Nat → Int32) : Prop := ∃ q : Nat → Nat, sz ≤ 720 ∧ (∀ i, i < sz → q i < 720 ∧ op (q i) ∧ gk (q i) = nI (ky (q i)) ∧ ky (q i) < 2147483648) ∧ (∀ i, i < sz → gt i = nI (q i) ∧ gp (q i) = nI i) ∧ (∀ r, op r → ∃ i, i < sz ∧ q i = r) ∧ ∀ i, 0 < i → i < sz → ky (q (pr_ i)) ≤ ky (q i)
def sq (q : Nat → Nat) (a b : Nat) : Nat → Nat := fun i => if i = a then q b else if i = b then q a else q i
theorem sq_a (q : Nat → Nat) (a b : Nat) : sq q a b a = q b := if_pos rfl
theorem sq_b (q : Nat → Nat) {a b : Nat} (h : b ≠ a) : sq q a b b = q a := by unfold sq; rw [if_neg h, if_pos rfl]
theorem sq_n (q : Nat → Nat) {a b i : Nat} (h1 : i ≠ a) (h2 : i ≠ b) : sq q a b i = q i := by unfold sq; rw [if_neg h1, if_neg h2]
/-- what stands at c goes to the hole, the hole to c -/
theorem HB_.mv {op : Nat → Prop} {ky : Nat → Nat} {sz pl : Nat} {q : Nat → Nat} {gk gt gp : Nat → Int32} (h : HB_ op ky sz pl q gk gt gp) {c : Nat} (hc : c < sz) (hne : c ≠ pl) : HB_ op ky sz c (sq q pl c) gk (upd gt pl (nI (q c))) (upd gp (q c) (nI pl)) := by
  obtain ⟨h0, h1, h2, h3, h4, h5⟩ := h
  refine ⟨h0, hc, fun i hi => ?_, fun i hi hn => ?_, fun i j hi hj e => ?_, fun r hr => ?_⟩
  · by_cases e1 : i = pl
    · rw [e1, sq_a]; exact h2 c hc
    · by_cases e2 : i = c
      · rw [e2, sq_b q hne]; exact h2 pl h1
      · rw [sq_n q e1 e2]; exact h2 i hi
  · by_cases e1 : i = pl
    · rw [e1, sq_a, pk_us, pk_us]; exact ⟨rfl, rfl⟩
    · rw [sq_n q e1 hn, pk_un e1, pk_un (fun e => hn (h4 i c hi hc e))]; exact h3 i hi e1
  · have key : ∀ i, i < sz → ∃ i2, i2 < sz ∧ sq q pl c i = q i2 ∧ (i2 = if i = pl then c else if i = c then pl else i) := fun i hi => by
      by_cases e1 : i = pl
      · exact ⟨c, hc, by rw [e1, sq_a], by rw [if_pos e1]⟩
      · by_cases e2 : i = c
        · exact ⟨pl, h1, by rw [e2, sq_b q hne], by rw [if_neg e1, if_pos e2]⟩
        · exact ⟨i, hi, sq_n q e1 e2, by rw [if_neg e1, if_neg e2]⟩
    obtain ⟨i2, a1, a2, a3⟩ := key i hi
    obtain ⟨j2, b1, b2, b3⟩ := key j hj
    rw [a2, b2] at e
    have := h4 i2 j2 a1 b1 e
    rw [a3, b3] at this
    split at this <;> split at this <;> (try split at this) <;> (try split at this) <;> omega
  · obtain ⟨i, hi, e⟩ := h5 r hr
    by_cases e1 : i = pl
    · exact ⟨c, hc, by rw [sq_b q hne, ← e1]; exact e⟩
    · by_cases e2 : i = c
      · exact ⟨pl, h1, by rw [sq_a, ← e2]; exact e⟩
      · exact ⟨i, hi, by rw [sq_n q e1 e2]; exact e⟩
theorem UP_.mv {ky : Nat → Nat} {sz pl : Nat} {q : Nat → Nat} (h : UP_ ky sz pl q) (h0 : 0 < pl) (hl : pl < sz) (hk : ky (q pl) < ky (q (pr_ pl))) : UP_ ky sz (pr_ pl) (sq q pl (pr_ pl)) := by
  obtain ⟨h1, h2⟩ := h
  have hne : pr_ pl ≠ pl := by show (pl - 1) / 2 ≠ pl; omega
  refine ⟨fun i hi0 hi hn => ?_, fun i hi0 hi hp hp0 => ?_⟩
  · by_cases e1 : i = pl
    · rw [e1, sq_a, sq_b q hne]; omega
    · rw [sq_n q e1 hn]
      by_cases e2 : pr_ i = pl
      · rw [e2, sq_a]; exact h2 i hi0 hi e2 h0
      · by_cases e3 : pr_ i = pr_ pl
        · rw [e3, sq_b q hne]
          have := h1 i hi0 hi e1
          rw [e3] at this
          omega
        · rw [sq_n q e2 e3]; exact h1 i hi0 hi e1
  · have hn1 : pr_ (pr_ pl) ≠ pl := by show ((pl - 1) / 2 - 1) / 2 ≠ pl; omega
    have hn2 : pr_ (pr_ pl) ≠ pr_ pl := by
      have : 0 < pr_ pl := hp0
      show (pr_ pl - 1) / 2 ≠ pr_ pl
      omega
    rw [sq_n q hn1 hn2]
    have h3 := h1 (pr_ pl) hp0 (by show (pl - 1) / 2 < sz; omega) hne
    by_cases e1 : i = pl
    · rw [e1, sq_a]; exact h3
    · have e2 : i ≠ pr_ pl := fun z => by
        rw [z] at hp
        exact hn2 hp
      rw [sq_n q e1 e2]
      have := h1 i hi0 hi e1
      rw [hp] at this
      omega
theorem DN_.mv {ky : Nat → Nat} {sz pl : Nat} {q : Nat → Nat} (h : DN_ ky sz pl q) {c : Nat} (hc0 : 0 < c) (hc : c < sz) (hp : pr_ c = pl) (hk : ky (q c) < ky (q pl)) (hm : ∀ i, 0 < i → i < sz → pr_ i = pl → ky (q c) ≤ ky (q i)) : DN_ ky sz c (sq q pl c) := by
  obtain ⟨h1, h2⟩ := h
  have hp' : (c - 1) / 2 = pl := hp
  have hne : c ≠ pl := by omega
  refine ⟨fun i hi0 hi hn => ?_, fun i hi0 hi hpi _ => ?_⟩
  · by_cases e1 : i = c
    · rw [e1, hp, sq_a, sq_b q hne]; omega
    · by_cases e2 : i = pl
      · rw [e2, sq_a]
        have hn1 : pr_ pl ≠ pl := by show (pl - 1) / 2 ≠ pl; omega
        have hn2 : pr_ pl ≠ c := by show (pl - 1) / 2 ≠ c; omega
        rw [sq_n q hn1 hn2]
        exact h2 c hc0 hc hp (by omega)
      · rw [sq_n q e2 e1]
        by_cases e3 : pr_ i = pl
        · rw [e3, sq_a]; exact hm i hi0 hi e3
        · rw [sq_n q e3 hn]; exact h1 i hi0 hi e3
  · have hpi' : (i - 1) / 2 = c := hpi
    rw [hp, sq_a, sq_n q (by omega) (by omega)]
    have := h1 i hi0 hi (by rw [hpi]; exact hne)
    rw [hpi] at this
    exact this
/-- the hole is filled -/
theorem HB_.fill {op : Nat → Prop} {ky : Nat → Nat} {sz pl : Nat} {q : Nat → Nat} {gk gt gp : Nat → Int32} (h : HB_ op ky sz pl q gk gt gp) (ho : ∀ i, 0 < i → i < sz → ky (q (pr_ i)) ≤ ky (q i)) : HP op ky sz gk (upd gt pl (nI (q pl))) (upd gp (q pl) (nI pl)) := by
  obtain ⟨h0, h1, h2, h3, h4, h5⟩ := h
  refine ⟨q, h0, h2, fun i hi => ?_, h5, ho⟩
  by_cases e : i = pl
  · rw [e, pk_us, pk_us]; exact ⟨rfl, rfl⟩
  · rw [pk_un e, pk_un (fun z => e (h4 i pl hi h1 z))]; exact h3 i hi e
theorem UP_.all {ky : Nat → Nat} {sz pl : Nat} {q : Nat → Nat} (h : UP_ ky sz pl q) (hk : pl = 0 ∨ ky (q (pr_ pl)) ≤ ky (q pl)) : ∀ i, 0 < i → i < sz → ky (q (pr_ i)) ≤ ky (q i) := fun i hi0 hi => by
  by_cases e : i = pl
  · rcases hk with z | z
    · omega
    · rw [e]; exact z
  · exact h.1 i hi0 hi e
theorem DN_.all {ky : Nat → Nat} {sz pl : Nat} {q : Nat → Nat} (h : DN_ ky sz pl q) (hk : ∀ i, 0 < i → i < sz → pr_ i = pl → ky (q pl) ≤ ky (q i)) : ∀ i, 0 < i → i < sz → ky (q (pr_ i)) ≤ ky (q i) := fun i hi0 hi => by
  by_cases e : pr_ i = pl
  · rw [e]; exact hk i hi0 hi e
  · exact h.1 i hi0 hi e
theorem hp_inj {sz : Nat} {q : Nat → Nat} {gp : Nat → Int32} (h0 : sz ≤ 720) (h : ∀ i, i < sz → gp (q i) = nI i) : ∀ i j, i < sz → j < sz → q i = q j → i = j := fun i j hi hj e => by
  have h1 := h i hi
  rw [e, h j hj] at h1
  exact ((nI_eq (by omega) (by omega)).mp h1).symm
/-- the top has the least key -/
theorem hp_top {ky : Nat → Nat} {sz : Nat} {q : Nat → Nat} (h : ∀ i, 0 < i → i < sz → ky (q (pr_ i)) ≤ ky (q i)) : ∀ i, i < sz → ky (q 0) ≤ ky (q i) := by
  intro i
  induction i using Nat.strongRecOn with
  | ind i ih =>
    intro hi
    by_cases e : i = 0
    · rw [e]; exact Nat.le_refl _
    · have h1 := h i (by omega) hi
      have h2 := ih (pr_ i) (by show (i - 1) / 2 < i; omega) (by show (i - 1) / 2 < sz; omega)
      omega
theorem HP.cong {op op2 : Nat → Prop} {ky ky2 : Nat → Nat} {sz : Nat} {gk gk2 gt gp : Nat → Int32} (h : HP op ky sz gk gt gp) (ho : ∀ r, op r ↔ op2 r) (hk : ∀ r, op r → ky2 r = ky r ∧ gk2 r = gk r) : HP op2 ky2 sz gk2 gt gp := by
  obtain ⟨q, h0, h1, h2, h3, h4⟩ := h
  refine ⟨q, h0, fun i hi => ?_, h2, fun r hr => h3 r ((ho r).mpr hr), fun i hi0 hi => ?_⟩
  · obtain ⟨a1, a2, a3, a4⟩ := h1 i hi
    obtain ⟨b1, b2⟩ := hk _ a2
    exact ⟨a1, (ho _).mp a2, by rw [b2, b1]; exact a3, by rw [b1]; exact a4⟩
  · rw [(hk _ (h1 i hi).2.1).1, (hk _ (h1 (pr_ i) (by show (i - 1) / 2 < sz; omega)).2.1).1]
    exact h4 i hi0 hi
abbrev HEp (h : ab_H) (gt gp : Nat → Int32) : ab_H := ab_set (ab_set h 43 (.inl (720, gt))) 44 (.inl (720, gp))
theorem hep_p (h : ab_H) (gt gp g1 g2 : Nat → Int32) : ab_set (ab_set (HEp h gt gp) 43 (.inl (720, g1))) 44 (.inl (720, g2)) = HEp h g1 g2 := by
  unfold HEp
  rw [ab_set_swap (show 44 ≠ 43 by decide), ab_set_set, ab_set_set]
theorem hep_h {h : ab_H} {gt gp : Nat → Int32} (h0 : h 43 = .inl (720, gt)) (h1 : h 44 = .inl (720, gp)) : HEp h gt gp = h := by
  unfold HEp
  rw [ab_set_eq h0, ab_set_eq h1]
theorem HEp_ne {h : ab_H} {gt gp : Nat → Int32} {k : Nat} (a : k < 43 ∨ 44 < k) : HEp h gt gp k = h k := by
  unfold HEp
  rw [ab_set_ne (by omega), ab_set_ne (by omega)]
theorem c_put {m : Nat} {h : ab_H} {sz : Int32} (h41 : h 41 = oH sz) {gt gp : Nat → Int32} (h43 : h 43 = .inl (720, gt)) (h44 : h 44 = .inl (720, gp)) {r pl : Nat} (hr : r < 720) (hp : pl < 720) : ab_D Y_Heap_put [.ref 41, .int (nI r), .int (nI pl)] m h none m (ab_set (ab_set h 43 (.inl (720, upd gt pl (nI r)))) 44 (.inl (720, upd gp r (nI pl)))) := by
  refine ab_C.of (L := [some (.ref 41), some (.int (nI r)), some (.int (nI pl))]) rfl rfl (Nat.le_of_ble_eq_true rfl) (fun l => ?_)
  refine aw_aload_n d_Heap_put_0 rfl ?_
  refine aw_get (k := 2) d_Heap_put_1 cl_Heap k_Heap_15 (by decide) h41 rfl ?_
  refine aw_iload_n d_Heap_put_4 rfl ?_
  refine aw_iload_n d_Heap_put_5 rfl ?_
  refine aw_iastoreN d_Heap_put_6 h43 (by omega) (by decide) ?_
  refine aw_aload_n d_Heap_put_7 rfl ?_
  refine aw_get (k := 3) d_Heap_put_8 cl_Heap k_Heap_18 (by decide) h41 rfl ?_
  refine aw_iload_n d_Heap_put_11 rfl ?_
  refine aw_iload_n d_Heap_put_12 rfl ?_
  refine aw_iastoreN d_Heap_put_13 h44 (by omega) (by decide) ?_
  refine aw_return d_Heap_put_14 rfl ?_
  exact ⟨rfl, rfl, rfl⟩
theorem c_rise {m : Nat} {h : ab_H} {op : Nat → Prop} {ky : Nat → Nat} {sz : Nat} (h41 : h 41 = oH (nI sz)) {gk gt gp : Nat → Int32} (h42 : h 42 = .inl (720, gk)) (h43 : h 43 = .inl (720, gt)) (h44 : h 44 = .inl (720, gp)) {p0 r : Nat} {q : Nat → Nat} (hb : HB_ op ky sz p0 q gk gt gp) (up : UP_ ky sz p0 q) (er : q p0 = r) : ab_C Y_Heap_rise [.ref 41, .int (nI r), .int (nI p0)] m h (fun r2 m2 h2 => r2 = none ∧ m2 = m ∧ ∃ gt2 gp2 : Nat → Int32, h2 = HEp h gt2 gp2 ∧ HP op ky sz gk gt2 gp2) := by
  refine ab_C.of (L := [some (.ref 41), some (.int (nI r)), some (.int (nI p0)), none]) rfl rfl (Nat.le_of_ble_eq_true rfl) (fun l => ?_)
  have hr : r < 720 := by rw [← er]; exact (hb.2.2.1 _ hb.2.1).1
  have loop : ∀ pl, ∀ (q : Nat → Nat) (gt gp : Nat → Int32), HB_ op ky sz pl q gk gt gp → UP_ ky sz pl q → q pl = r → ab_W Y_Heap_rise none l (fun r2 m2 h2 => r2 = none ∧ m2 = m ∧ ∃ gt2 gp2 : Nat → Int32, h2 = HEp h gt2 gp2 ∧ HP op ky sz gk gt2 gp2) 2 [some (.ref 41), some (.int (nI r)), some (.int (nI p0)), some (.int (nI pl))] [] m (HEp h gt gp) (0, 0) := by
    intro pl
    induction pl using Nat.strongRecOn with
    | ind pl ih =>
    intro q gt gp hb up er
    obtain ⟨k0, k1, k2, k3, k4, k5⟩ := id hb
    obtain ⟨a1, a2, a3, a4⟩ := k2 pl k1
    refine aw_iload_n d_Heap_rise_2 rfl ?_
    refine aw_if_le (tgt := 54) d_Heap_rise_3 (by decide) (fun c3 => ?_) (fun c3 => ?_)
    · refine aw_aload_n d_Heap_rise_54 rfl ?_
      refine aw_iload_n d_Heap_rise_55 rfl ?_
      refine aw_iload_n d_Heap_rise_56 rfl ?_
      refine aw_v0v (a := 41) d_Heap_rise_57 k_Heap_33 ok_Heap_put rfl ⟨rfl, rfl⟩ cl_Heap h41 (c_put (h := HEp h gt gp) (sz := nI sz) h41 (gt := gt) (gp := gp) rfl rfl (r := r) (pl := pl) (by omega) (by omega)) rfl rfl (Nat.le_of_ble_eq_true rfl) ?_
      refine aw_return d_Heap_rise_60 rfl ?_
      rw [hep_p]
      refine ⟨rfl, rfl, _, _, rfl, ?_⟩
      rw [← er]
      refine hb.fill (up.all ?_)
      first
        | exact Or.inr ((nI_leI b4 a4).mp c27)
        | exact Or.inl (Nat.eq_zero_of_le_zero ((nI_leI (b := 0) (by omega) (by decide)).mp c3))
    · have hp0 : 0 < pl := Nat.pos_of_ne_zero (fun z => c3 (by rw [z]; decide))
      obtain ⟨b1, b2, b3, b4⟩ := k2 ((pl - 1) / 2) (by omega)
      obtain ⟨b5, b6⟩ := k3 ((pl - 1) / 2) (by omega) (by omega)
      refine aw_aload_n d_Heap_rise_6 rfl ?_
      refine aw_get (k := 1) d_Heap_rise_7 cl_Heap k_Heap_9 (by decide) h41 rfl ?_
      refine aw_aload_n d_Heap_rise_10 rfl ?_
      refine aw_get (k := 2) d_Heap_rise_11 cl_Heap k_Heap_15 (by decide) h41 rfl ?_
      refine aw_iload_n d_Heap_rise_14 rfl ?_
      refine aw_iconst (v := nI 1) d_Heap_rise_15 (by decide) ?_
      refine aw_isub d_Heap_rise_16 ?_
      rw [pk_sub (by omega)]
      refine aw_iconst (v := nI 2) d_Heap_rise_17 (by decide) ?_
      refine aw_idiv d_Heap_rise_18 (by decide) ?_
      rw [dv (by omega) (by decide) (by decide)]
      refine aw_ialoadN d_Heap_rise_19 rfl (by omega) (by decide) ?_
      rw [b5]
      refine aw_ialoadN d_Heap_rise_20 h42 b1 (by decide) ?_
      rw [b3]
      refine aw_aload_n d_Heap_rise_21 rfl ?_
      refine aw_get (k := 1) d_Heap_rise_22 cl_Heap k_Heap_9 (by decide) h41 rfl ?_
      refine aw_iload_n d_Heap_rise_25 rfl ?_
      refine aw_ialoadN d_Heap_rise_26 h42 hr (by decide) ?_
      rw [show gk r = nI (ky (q pl)) by rw [← er]; exact a3]
      refine aw_icmp_le (tgt := 54) d_Heap_rise_27 (by decide) (fun c27 => ?_) (fun c27 => ?_)
      · refine aw_aload_n d_Heap_rise_54 rfl ?_
        refine aw_iload_n d_Heap_rise_55 rfl ?_
        refine aw_iload_n d_Heap_rise_56 rfl ?_
        refine aw_v0v (a := 41) d_Heap_rise_57 k_Heap_33 ok_Heap_put rfl ⟨rfl, rfl⟩ cl_Heap h41 (c_put (h := HEp h gt gp) (sz := nI sz) h41 (gt := gt) (gp := gp) rfl rfl (r := r) (pl := pl) (by omega) (by omega)) rfl rfl (Nat.le_of_ble_eq_true rfl) ?_
        refine aw_return d_Heap_rise_60 rfl ?_
        rw [hep_p]
        refine ⟨rfl, rfl, _, _, rfl, ?_⟩
        rw [← er]
        refine hb.fill (up.all ?_)
        first
          | exact Or.inr ((nI_leI b4 a4).mp c27)
          | exact Or.inl (Nat.eq_zero_of_le_zero ((nI_leI (b := 0) (by omega) (by decide)).mp c3))
      · refine aw_aload_n d_Heap_rise_30 rfl ?_
        refine aw_aload_n d_Heap_rise_31 rfl ?_
        refine aw_get (k := 2) d_Heap_rise_32 cl_Heap k_Heap_15 (by decide) h41 rfl ?_
        refine aw_iload_n d_Heap_rise_35 rfl ?_
        refine aw_iconst (v := nI 1) d_Heap_rise_36 (by decide) ?_
        refine aw_isub d_Heap_rise_37 ?_
        rw [pk_sub (by omega)]
        refine aw_iconst (v := nI 2) d_Heap_rise_38 (by decide) ?_
        refine aw_idiv d_Heap_rise_39 (by decide) ?_
        rw [dv (by omega) (by decide) (by decide)]
        refine aw_ialoadN d_Heap_rise_40 rfl (by omega) (by decide) ?_
        rw [b5]
        refine aw_iload_n d_Heap_rise_41 rfl ?_
        refine aw_v0v (a := 41) d_Heap_rise_42 k_Heap_33 ok_Heap_put rfl ⟨rfl, rfl⟩ cl_Heap h41 (c_put (h := HEp h gt gp) (sz := nI sz) h41 (gt := gt) (gp := gp) rfl rfl (r := q ((pl - 1) / 2)) (pl := pl) (by omega) (by omega)) rfl rfl (Nat.le_of_ble_eq_true rfl) ?_
        refine aw_iload_n d_Heap_rise_45 rfl ?_
        refine aw_iconst (v := nI 1) d_Heap_rise_46 (by decide) ?_
        refine aw_isub d_Heap_rise_47 ?_
        rw [hep_p, pk_sub (by omega)]
        refine aw_iconst (v := nI 2) d_Heap_rise_48 (by decide) ?_
        refine aw_idiv d_Heap_rise_49 (by decide) ?_
        rw [dv (by omega) (by decide) (by decide)]
        refine aw_istore_n (L' := [some (.ref 41), some (.int (nI r)), some (.int (nI p0)), some (.int (nI ((pl - 1) / 2)))]) d_Heap_rise_50 ⟨by decide, rfl⟩ rfl ?_
        refine aw_goto (tgt := 2) d_Heap_rise_51 (by decide) ?_
        have hk : ky (q pl) < ky (q ((pl - 1) / 2)) := Nat.not_le.mp (fun z => c27 (nI_le z a4))
        exact ih ((pl - 1) / 2) (by omega) _ _ _ (hb.mv (by omega) (by omega)) (up.mv hp0 k1 hk) (by rw [sq_b q (by show (pl - 1) / 2 ≠ pl; omega)]; exact er)
  refine aw_iload_n d_Heap_rise_0 rfl ?_
  refine aw_istore_n (L' := [some (.ref 41), some (.int (nI r)), some (.int (nI p0)), some (.int (nI p0))]) d_Heap_rise_1 ⟨by decide, rfl⟩ rfl ?_
  exact aw_heap (hep_h h43 h44) (loop p0 q gt gp hb up er)
theorem c_sink {m : Nat} {h : ab_H} {op : Nat → Prop} {ky : Nat → Nat} {sz : Nat} (h41 : h 41 = oH (nI sz)) {gk gt gp : Nat → Int32} (h42 : h 42 = .inl (720, gk)) (h43 : h 43 = .inl (720, gt)) (h44 : h 44 = .inl (720, gp)) {r : Nat} {q : Nat → Nat} (hb : HB_ op ky sz 0 q gk gt gp) (dn : DN_ ky sz 0 q) (er : q 0 = r) : ab_C Y_Heap_sink [.ref 41, .int (nI r)] m h (fun r2 m2 h2 => r2 = none ∧ m2 = m ∧ ∃ gt2 gp2 : Nat → Int32, h2 = HEp h gt2 gp2 ∧ HP op ky sz gk gt2 gp2) := by
  refine ab_C.of (L := [some (.ref 41), some (.int (nI r)), none, none]) rfl rfl (Nat.le_of_ble_eq_true rfl) (fun l => ?_)
  have hr : r < 720 := by rw [← er]; exact (hb.2.2.1 _ hb.2.1).1
  have loop : ∀ f, ∀ pl (q : Nat → Nat) (gt gp : Nat → Int32), f = sz - pl → HB_ op ky sz pl q gk gt gp → DN_ ky sz pl q → q pl = r → ab_W Y_Heap_sink none l (fun r2 m2 h2 => r2 = none ∧ m2 = m ∧ ∃ gt2 gp2 : Nat → Int32, h2 = HEp h gt2 gp2 ∧ HP op ky sz gk gt2 gp2) 4 [some (.ref 41), some (.int (nI r)), some (.int (nI pl)), some (.int (nI (2 * pl + 1)))] [] m (HEp h gt gp) (0, 0) := by
    intro f
    induction f using Nat.strongRecOn with
    | ind f ih =>
    intro pl q gt gp hf hb dn er
    subst hf
    obtain ⟨k0, k1, k2, k3, k4, k5⟩ := id hb
    obtain ⟨a1, a2, a3, a4⟩ := k2 pl k1
    have at52 : ∀ c, 0 < c → c < sz → pr_ c = pl → (∀ i, 0 < i → i < sz → pr_ i = pl → ky (q c) ≤ ky (q i)) → ab_W Y_Heap_sink none l (fun r2 m2 h2 => r2 = none ∧ m2 = m ∧ ∃ gt2 gp2 : Nat → Int32, h2 = HEp h gt2 gp2 ∧ HP op ky sz gk gt2 gp2) 52 [some (.ref 41), some (.int (nI r)), some (.int (nI pl)), some (.int (nI c))] [] m (HEp h gt gp) (0, 0) := by
      intro c c0 cs cp cm
      have cp' : (c - 1) / 2 = pl := cp
      obtain ⟨b1, b2, b3, b4⟩ := k2 c cs
      obtain ⟨b5, b6⟩ := k3 c cs (by omega)
      refine aw_aload_n d_Heap_sink_52 rfl ?_
      refine aw_get (k := 1) d_Heap_sink_53 cl_Heap k_Heap_9 (by decide) h41 rfl ?_
      refine aw_iload_n d_Heap_sink_56 rfl ?_
      refine aw_ialoadN d_Heap_sink_57 h42 hr (by decide) ?_
      rw [show gk r = nI (ky (q pl)) by rw [← er]; exact a3]
      refine aw_aload_n d_Heap_sink_58 rfl ?_
      refine aw_get (k := 1) d_Heap_sink_59 cl_Heap k_Heap_9 (by decide) h41 rfl ?_
      refine aw_aload_n d_Heap_sink_62 rfl ?_
      refine aw_get (k := 2) d_Heap_sink_63 cl_Heap k_Heap_15 (by decide) h41 rfl ?_
      refine aw_iload_n d_Heap_sink_66 rfl ?_
      refine aw_ialoadN d_Heap_sink_67 rfl (by omega) (by decide) ?_
      rw [b5]
      refine aw_ialoadN d_Heap_sink_68 h42 b1 (by decide) ?_
      rw [b3]
      refine aw_icmp_gt (tgt := 75) d_Heap_sink_69 (by decide) (fun c69 => ?_) (fun c69 => ?_)
      · refine aw_aload_n d_Heap_sink_75 rfl ?_
        refine aw_aload_n d_Heap_sink_76 rfl ?_
        refine aw_get (k := 2) d_Heap_sink_77 cl_Heap k_Heap_15 (by decide) h41 rfl ?_
        refine aw_iload_n d_Heap_sink_80 rfl ?_
        refine aw_ialoadN d_Heap_sink_81 rfl (by omega) (by decide) ?_
        rw [b5]
        refine aw_iload_n d_Heap_sink_82 rfl ?_
        refine aw_v0v (a := 41) d_Heap_sink_83 k_Heap_33 ok_Heap_put rfl ⟨rfl, rfl⟩ cl_Heap h41 (c_put (h := HEp h gt gp) (sz := nI sz) h41 (gt := gt) (gp := gp) rfl rfl (r := q c) (pl := pl) (by omega) (by omega)) rfl rfl (Nat.le_of_ble_eq_true rfl) ?_
        rw [hep_p]
        refine aw_iload_n d_Heap_sink_86 rfl ?_
        refine aw_istore_n (L' := [some (.ref 41), some (.int (nI r)), some (.int (nI c)), some (.int (nI c))]) d_Heap_sink_87 ⟨by decide, rfl⟩ rfl ?_
        refine aw_iconst (v := nI 2) d_Heap_sink_88 (by decide) ?_
        refine aw_iload_n d_Heap_sink_89 rfl ?_
        refine aw_imul d_Heap_sink_90 ?_
        rw [pk_mul]
        refine aw_iconst (v := nI 1) d_Heap_sink_91 (by decide) ?_
        refine aw_iadd d_Heap_sink_92 ?_
        rw [nI_add]
        refine aw_istore_n (L' := [some (.ref 41), some (.int (nI r)), some (.int (nI c)), some (.int (nI (2 * c + 1)))]) d_Heap_sink_93 ⟨by decide, rfl⟩ rfl ?_
        refine aw_goto (tgt := 4) d_Heap_sink_94 (by decide) ?_
        have hk : ky (q c) < ky (q pl) := (nI_ltI b4 a4).mp c69
        exact ih (sz - c) (by omega) c _ _ _ rfl (hb.mv cs (by omega)) (dn.mv c0 cs cp hk cm) (by rw [sq_b q (by omega)]; exact er)
      · refine aw_goto (tgt := 97) d_Heap_sink_72 (by decide) ?_
        refine aw_aload_n d_Heap_sink_97 rfl ?_
        refine aw_iload_n d_Heap_sink_98 rfl ?_
        refine aw_iload_n d_Heap_sink_99 rfl ?_
        refine aw_v0v (a := 41) d_Heap_sink_100 k_Heap_33 ok_Heap_put rfl ⟨rfl, rfl⟩ cl_Heap h41 (c_put (h := HEp h gt gp) (sz := nI sz) h41 (gt := gt) (gp := gp) rfl rfl (r := r) (pl := pl) (by omega) (by omega)) rfl rfl (Nat.le_of_ble_eq_true rfl) ?_
        refine aw_return d_Heap_sink_103 rfl ?_
        rw [hep_p]
        refine ⟨rfl, rfl, _, _, rfl, ?_⟩
        rw [← er]
        have hk : ky (q pl) ≤ ky (q c) := Nat.not_lt.mp (fun z => c69 (nI_lt z a4))
        exact hb.fill (dn.all (fun i i0 i1 i2 => Nat.le_trans hk (cm i i0 i1 i2)))
    refine aw_iload_n d_Heap_sink_4 rfl ?_
    refine aw_aload_n d_Heap_sink_5 rfl ?_
    refine aw_get (k := 0) d_Heap_sink_6 cl_Heap k_Heap_21 (by decide) h41 rfl ?_
    refine aw_icmp_ge (tgt := 97) d_Heap_sink_9 (by decide) (fun c9 => ?_) (fun c9 => ?_)
    · refine aw_aload_n d_Heap_sink_97 rfl ?_
      refine aw_iload_n d_Heap_sink_98 rfl ?_
      refine aw_iload_n d_Heap_sink_99 rfl ?_
      refine aw_v0v (a := 41) d_Heap_sink_100 k_Heap_33 ok_Heap_put rfl ⟨rfl, rfl⟩ cl_Heap h41 (c_put (h := HEp h gt gp) (sz := nI sz) h41 (gt := gt) (gp := gp) rfl rfl (r := r) (pl := pl) (by omega) (by omega)) rfl rfl (Nat.le_of_ble_eq_true rfl) ?_
      refine aw_return d_Heap_sink_103 rfl ?_
      rw [hep_p]
      refine ⟨rfl, rfl, _, _, rfl, ?_⟩
      rw [← er]
      have hle : sz ≤ 2 * pl + 1 := (nI_leI (by omega) (by omega)).mp c9
      exact hb.fill (dn.all (fun i i0 i1 i2 => by
        have i2 : (i - 1) / 2 = pl := i2
        omega))
    · have hcs : 2 * pl + 1 < sz := Nat.not_le.mp (fun z => c9 (nI_le z (by omega)))
      obtain ⟨e1, e2, e3, e4⟩ := k2 (2 * pl + 1) hcs
      obtain ⟨e5, e6⟩ := k3 (2 * pl + 1) hcs (by omega)
      refine aw_iload_n d_Heap_sink_12 rfl ?_
      refine aw_iconst (v := nI 1) d_Heap_sink_13 (by decide) ?_
      refine aw_iadd d_Heap_sink_14 ?_
      rw [nI_add]
      refine aw_aload_n d_Heap_sink_15 rfl ?_
      refine aw_get (k := 0) d_Heap_sink_16 cl_Heap k_Heap_21 (by decide) h41 rfl ?_
      refine aw_icmp_ge (tgt := 52) d_Heap_sink_19 (by decide) (fun c19 => ?_) (fun c19 => ?_)
      · first
          | (have hle : sz ≤ 2 * pl + 1 + 1 := (nI_leI (by omega) (by omega)).mp c19
             exact at52 (2 * pl + 1) (by omega) hcs (by show (2 * pl + 1 - 1) / 2 = pl; omega) (fun i i0 i1 i2 => by
               have i2 : (i - 1) / 2 = pl := i2
               have ei : i = 2 * pl + 1 := by omega
               rw [ei]
               exact Nat.le_refl _))
          | (have hle := (nI_leI e4 f4).mp c46
             exact at52 (2 * pl + 1) (by omega) hcs (by show (2 * pl + 1 - 1) / 2 = pl; omega) (fun i i0 i1 i2 => by
               have i2 : (i - 1) / 2 = pl := i2
               by_cases ei : i = 2 * pl + 1
               · rw [ei]; exact Nat.le_refl _
               · have ei : i = 2 * pl + 1 + 1 := by omega
                 rw [ei]; exact hle))
          | (have hle : ky (q (2 * pl + 1 + 1)) < ky (q (2 * pl + 1)) := Nat.not_le.mp (fun z => c46 (nI_le z f4))
             exact at52 (2 * pl + 1 + 1) (by omega) hc2 (by show (2 * pl + 1 + 1 - 1) / 2 = pl; omega) (fun i i0 i1 i2 => by
               have i2 : (i - 1) / 2 = pl := i2
               by_cases ei : i = 2 * pl + 1
               · rw [ei]; omega
               · have ei : i = 2 * pl + 1 + 1 := by omega
                 rw [ei]; exact Nat.le_refl _))
      · have hc2 : 2 * pl + 1 + 1 < sz := Nat.not_le.mp (fun z => c19 (nI_le z (by omega)))
        obtain ⟨f1, f2, f3, f4⟩ := k2 (2 * pl + 1 + 1) hc2
        obtain ⟨f5, f6⟩ := k3 (2 * pl + 1 + 1) hc2 (by omega)
        refine aw_aload_n d_Heap_sink_22 rfl ?_
        refine aw_get (k := 1) d_Heap_sink_23 cl_Heap k_Heap_9 (by decide) h41 rfl ?_
        refine aw_aload_n d_Heap_sink_26 rfl ?_
        refine aw_get (k := 2) d_Heap_sink_27 cl_Heap k_Heap_15 (by decide) h41 rfl ?_
        refine aw_iload_n d_Heap_sink_30 rfl ?_
        refine aw_iconst (v := nI 1) d_Heap_sink_31 (by decide) ?_
        refine aw_iadd d_Heap_sink_32 ?_
        rw [nI_add]
        refine aw_ialoadN d_Heap_sink_33 rfl (by omega) (by decide) ?_
        rw [f5]
        refine aw_ialoadN d_Heap_sink_34 h42 f1 (by decide) ?_
        rw [f3]
        refine aw_aload_n d_Heap_sink_35 rfl ?_
        refine aw_get (k := 1) d_Heap_sink_36 cl_Heap k_Heap_9 (by decide) h41 rfl ?_
        refine aw_aload_n d_Heap_sink_39 rfl ?_
        refine aw_get (k := 2) d_Heap_sink_40 cl_Heap k_Heap_15 (by decide) h41 rfl ?_
        refine aw_iload_n d_Heap_sink_43 rfl ?_
        refine aw_ialoadN d_Heap_sink_44 rfl (by omega) (by decide) ?_
        rw [e5]
        refine aw_ialoadN d_Heap_sink_45 h42 e1 (by decide) ?_
        rw [e3]
        refine aw_icmp_ge (tgt := 52) d_Heap_sink_46 (by decide) (fun c46 => ?_) (fun c46 => ?_)
        · first
            | (have hle : sz ≤ 2 * pl + 1 + 1 := (nI_leI (by omega) (by omega)).mp c19
               exact at52 (2 * pl + 1) (by omega) hcs (by show (2 * pl + 1 - 1) / 2 = pl; omega) (fun i i0 i1 i2 => by
                 have i2 : (i - 1) / 2 = pl := i2
                 have ei : i = 2 * pl + 1 := by omega
                 rw [ei]
                 exact Nat.le_refl _))
            | (have hle := (nI_leI e4 f4).mp c46
               exact at52 (2 * pl + 1) (by omega) hcs (by show (2 * pl + 1 - 1) / 2 = pl; omega) (fun i i0 i1 i2 => by
                 have i2 : (i - 1) / 2 = pl := i2
                 by_cases ei : i = 2 * pl + 1
                 · rw [ei]; exact Nat.le_refl _
                 · have ei : i = 2 * pl + 1 + 1 := by omega
                   rw [ei]; exact hle))
            | (have hle : ky (q (2 * pl + 1 + 1)) < ky (q (2 * pl + 1)) := Nat.not_le.mp (fun z => c46 (nI_le z f4))
               exact at52 (2 * pl + 1 + 1) (by omega) hc2 (by show (2 * pl + 1 + 1 - 1) / 2 = pl; omega) (fun i i0 i1 i2 => by
                 have i2 : (i - 1) / 2 = pl := i2
                 by_cases ei : i = 2 * pl + 1
                 · rw [ei]; omega
                 · have ei : i = 2 * pl + 1 + 1 := by omega
                   rw [ei]; exact Nat.le_refl _))
        · refine aw_iinc (v := nI ((2 * pl + 1) + 1)) (L' := [some (.ref 41), some (.int (nI r)), some (.int (nI pl)), some (.int (nI ((2 * pl + 1) + 1)))]) d_Heap_sink_49 rfl (nI_1 _) ⟨by decide, rfl⟩ rfl ?_
          first
            | (have hle : sz ≤ 2 * pl + 1 + 1 := (nI_leI (by omega) (by omega)).mp c19
               exact at52 (2 * pl + 1) (by omega) hcs (by show (2 * pl + 1 - 1) / 2 = pl; omega) (fun i i0 i1 i2 => by
                 have i2 : (i - 1) / 2 = pl := i2
                 have ei : i = 2 * pl + 1 := by omega
                 rw [ei]
                 exact Nat.le_refl _))
            | (have hle := (nI_leI e4 f4).mp c46
               exact at52 (2 * pl + 1) (by omega) hcs (by show (2 * pl + 1 - 1) / 2 = pl; omega) (fun i i0 i1 i2 => by
                 have i2 : (i - 1) / 2 = pl := i2
                 by_cases ei : i = 2 * pl + 1
                 · rw [ei]; exact Nat.le_refl _
                 · have ei : i = 2 * pl + 1 + 1 := by omega
                   rw [ei]; exact hle))
            | (have hle : ky (q (2 * pl + 1 + 1)) < ky (q (2 * pl + 1)) := Nat.not_le.mp (fun z => c46 (nI_le z f4))
               exact at52 (2 * pl + 1 + 1) (by omega) hc2 (by show (2 * pl + 1 + 1 - 1) / 2 = pl; omega) (fun i i0 i1 i2 => by
                 have i2 : (i - 1) / 2 = pl := i2
                 by_cases ei : i = 2 * pl + 1
                 · rw [ei]; omega
                 · have ei : i = 2 * pl + 1 + 1 := by omega
                   rw [ei]; exact Nat.le_refl _))
  refine aw_iconst (v := nI 0) d_Heap_sink_0 (by decide) ?_
  refine aw_istore_n (L' := [some (.ref 41), some (.int (nI r)), some (.int (nI 0)), none]) d_Heap_sink_1 ⟨by decide, rfl⟩ rfl ?_
  refine aw_iconst (v := nI 1) d_Heap_sink_2 (by decide) ?_
  refine aw_istore_n (L' := [some (.ref 41), some (.int (nI r)), some (.int (nI 0)), some (.int (nI 1))]) d_Heap_sink_3 ⟨by decide, rfl⟩ rfl ?_
  exact aw_heap (hep_h h43 h44) (loop sz 0 q gt gp rfl hb dn er)
theorem c_sink0 {m : Nat} {h : ab_H} (h41 : h 41 = oH (nI 0)) {gt gp : Nat → Int32} (h43 : h 43 = .inl (720, gt)) (h44 : h 44 = .inl (720, gp)) {r : Nat} (hr : r < 720) {Q : Option Value → Nat → ab_H → Prop} (hQ : Q none m (ab_set (ab_set h 43 (.inl (720, upd gt 0 (nI r)))) 44 (.inl (720, upd gp r (nI 0))))) : ab_C Y_Heap_sink [.ref 41, .int (nI r)] m h Q := by
  refine ab_C.of (L := [some (.ref 41), some (.int (nI r)), none, none]) rfl rfl (Nat.le_of_ble_eq_true rfl) (fun l => ?_)
  refine aw_iconst (v := nI 0) d_Heap_sink_0 (by decide) ?_
  refine aw_istore_n (L' := [some (.ref 41), some (.int (nI r)), some (.int (nI 0)), none]) d_Heap_sink_1 ⟨by decide, rfl⟩ rfl ?_
  refine aw_iconst (v := nI 1) d_Heap_sink_2 (by decide) ?_
  refine aw_istore_n (L' := [some (.ref 41), some (.int (nI r)), some (.int (nI 0)), some (.int (nI 1))]) d_Heap_sink_3 ⟨by decide, rfl⟩ rfl ?_
  refine aw_iload_n d_Heap_sink_4 rfl ?_
  refine aw_aload_n d_Heap_sink_5 rfl ?_
  refine aw_get (k := 0) d_Heap_sink_6 cl_Heap k_Heap_21 (by decide) h41 rfl ?_
  refine aw_icmp_ge (tgt := 97) d_Heap_sink_9 (by decide) (fun c9 => ?_) (fun c9 => ?_)
  · refine aw_aload_n d_Heap_sink_97 rfl ?_
    refine aw_iload_n d_Heap_sink_98 rfl ?_
    refine aw_iload_n d_Heap_sink_99 rfl ?_
    refine aw_v0v (a := 41) d_Heap_sink_100 k_Heap_33 ok_Heap_put rfl ⟨rfl, rfl⟩ cl_Heap h41 (c_put (sz := nI 0) h41 h43 h44 hr (by decide)) rfl rfl (Nat.le_of_ble_eq_true rfl) ?_
    refine aw_return d_Heap_sink_103 rfl ?_
    exact hQ
  · first | exact absurd c9 (by decide) | exact absurd (by decide) c9
abbrev HF (h : ab_H) (sz : Int32) (gk gt gp : Nat → Int32) : ab_H := ab_set (ab_set (ab_set (ab_set h 41 (oH sz)) 42 (.inl (720, gk))) 43 (.inl (720, gt))) 44 (.inl (720, gp))
theorem HF_ne {h : ab_H} {sz : Int32} {gk gt gp : Nat → Int32} {k : Nat} (a : k < 41 ∨ 44 < k) : HF h sz gk gt gp k = h k := by
  unfold HF
  rw [ab_set_ne (by omega), ab_set_ne (by omega), ab_set_ne (by omega), ab_set_ne (by omega)]
theorem hf_1 (h : ab_H) (sz : Int32) (gk gt gp : Nat → Int32) : HEp (ab_set (ab_set h 42 (.inl (720, gk))) 41 (oH sz)) gt gp = HF h sz gk gt gp := by
  unfold HEp HF
  rw [ab_set_swap (show 42 ≠ 41 by decide)]
theorem hf_2 {h : ab_H} {sz : Int32} (h41 : h 41 = oH sz) (gk gt gp : Nat → Int32) : HEp (ab_set h 42 (.inl (720, gk))) gt gp = HF h sz gk gt gp := by
  unfold HEp HF
  rw [ab_set_eq h41]
theorem hf_3 {h : ab_H} {gk : Nat → Int32} (h42 : h 42 = .inl (720, gk)) (sz : Int32) (gt gp : Nat → Int32) : HEp (ab_set h 41 (oH sz)) gt gp = HF h sz gk gt gp := by
  unfold HEp HF
  rw [show ab_set (ab_set h 41 (oH sz)) 42 (.inl (720, gk)) = ab_set h 41 (oH sz) from ab_set_eq ((ab_set_ne (by decide)).trans h42)]
theorem HP.room {op : Nat → Prop} {ky : Nat → Nat} {sz : Nat} {gk gt gp : Nat → Int32} (h : HP op ky sz gk gt gp) {r : Nat} (hr : r < 720) (hno : ¬ op r) : sz < 720 := by
  obtain ⟨q, h0, h1, h2, h3, h4⟩ := h
  refine Nat.lt_of_le_of_ne h0 (fun e => ?_)
  subst e
  obtain ⟨i, hi, ei⟩ := fb_onto (n := 720) (f := q) (fun i hi => (h1 i hi).1) (fun i j hij hj z => by
    have := hp_inj (Nat.le_refl _) (fun i hi => (h2 i hi).2) i j (by omega) hj z
    omega) hr
  exact hno (by rw [← ei]; exact (h1 i hi).2.1)
theorem HP.sz0 {op : Nat → Prop} {ky : Nat → Nat} {sz : Nat} {gk gt gp : Nat → Int32} (h : HP op ky sz gk gt gp) (hz : sz = 0) : ∀ r, ¬ op r := fun r hr => by
  obtain ⟨q, h0, h1, h2, h3, h4⟩ := h
  obtain ⟨i, hi, _⟩ := h3 r hr
  omega
theorem HP.le {op : Nat → Prop} {ky : Nat → Nat} {sz : Nat} {gk gt gp : Nat → Int32} (h : HP op ky sz gk gt gp) : sz ≤ 720 := by
  obtain ⟨q, h0, _⟩ := h
  exact h0
theorem HP.k {op : Nat → Prop} {ky : Nat → Nat} {sz : Nat} {gk gt gp : Nat → Int32} (h : HP op ky sz gk gt gp) {r : Nat} (hr : op r) : r < 720 ∧ gk r = nI (ky r) ∧ ky r < 2147483648 := by
  obtain ⟨q, h0, h1, h2, h3, h4⟩ := h
  obtain ⟨i, hi, e⟩ := h3 r hr
  rw [← e]
  exact ⟨(h1 i hi).1, (h1 i hi).2.2⟩
theorem HP.new {op : Nat → Prop} {ky : Nat → Nat} {sz : Nat} {gk gt gp : Nat → Int32} (h : HP op ky sz gk gt gp) {r k : Nat} (hr : r < 720) (hk : k < 2147483648) (hno : ¬ op r) : ∃ q, HB_ (fun z => op z ∨ z = r) (ud ky r k) (sz + 1) sz q (upd gk r (nI k)) gt gp ∧ UP_ (ud ky r k) (sz + 1) sz q ∧ q sz = r := by
  have hrm := h.room hr hno
  obtain ⟨q, h0, h1, h2, h3, h4⟩ := h
  have inj := hp_inj h0 (fun i hi => (h2 i hi).2)
  have nr : ∀ i, i < sz → q i ≠ r := fun i hi e => hno (by rw [← e]; exact (h1 i hi).2.1)
  have en : ∀ i, i < sz → ud q sz r i = q i := fun i hi => ud_n (by omega)
  refine ⟨ud q sz r, ⟨by omega, by omega, fun i hi => ?_, fun i hi hn => ?_, fun i j hi hj e => ?_, fun z hz => ?_⟩, ⟨fun i hi0 hi hn => ?_, fun i hi0 hi hp _ => ?_⟩, ud_s⟩
  · by_cases e : i = sz
    · rw [e, ud_s, ud_s, pk_us]; exact ⟨hr, Or.inr rfl, rfl, hk⟩
    · rw [en i (by omega), ud_n (nr i (by omega)), pk_un (nr i (by omega))]
      obtain ⟨a1, a2, a3, a4⟩ := h1 i (by omega)
      exact ⟨a1, Or.inl a2, a3, a4⟩
  · rw [en i (by omega)]; exact h2 i (by omega)
  · by_cases e1 : i = sz
    · by_cases e2 : j = sz
      · omega
      · rw [e1, ud_s, en j (by omega)] at e
        exact absurd e.symm (nr j (by omega))
    · by_cases e2 : j = sz
      · rw [e2, ud_s, en i (by omega)] at e
        exact absurd e (nr i (by omega))
      · rw [en i (by omega), en j (by omega)] at e
        exact inj i j (by omega) (by omega) e
  · rcases hz with hz | hz
    · obtain ⟨i, hi, e⟩ := h3 z hz
      exact ⟨i, by omega, by rw [en i hi]; exact e⟩
    · exact ⟨sz, by omega, by rw [ud_s]; exact hz.symm⟩
  · have h5 : (i - 1) / 2 < sz := by omega
    rw [en i (by omega), en (pr_ i) h5, ud_n (nr i (by omega)), ud_n (nr (pr_ i) h5)]
    exact h4 i hi0 (by omega)
  · have : (i - 1) / 2 = sz := hp
    omega
theorem HP.low {op : Nat → Prop} {ky : Nat → Nat} {sz : Nat} {gk gt gp : Nat → Int32} (h : HP op ky sz gk gt gp) {r k : Nat} (hr : op r) (hk : k ≤ ky r) : ∃ q pl, gp r = nI pl ∧ HB_ op (ud ky r k) sz pl q (upd gk r (nI k)) gt gp ∧ UP_ (ud ky r k) sz pl q ∧ q pl = r := by
  obtain ⟨q, h0, h1, h2, h3, h4⟩ := h
  have inj := hp_inj h0 (fun i hi => (h2 i hi).2)
  obtain ⟨pl, hpl, epl⟩ := h3 r hr
  have hle : ∀ z, ud ky r k z ≤ ky z := fun z => by
    by_cases e : z = r
    · rw [e, ud_s]; exact hk
    · rw [ud_n e]; exact Nat.le_refl _
  have nr : ∀ i, i < sz → i ≠ pl → q i ≠ r := fun i hi hn e => hn (inj i pl hi hpl (e.trans epl.symm))
  refine ⟨q, pl, by rw [← epl]; exact (h2 pl hpl).2, ⟨h0, hpl, fun i hi => ?_, fun i hi _ => h2 i hi, inj, h3⟩, ⟨fun i hi0 hi hn => ?_, fun i hi0 hi hp hp0 => ?_⟩, epl⟩
  · obtain ⟨a1, a2, a3, a4⟩ := h1 i hi
    have := hle (q i)
    refine ⟨a1, a2, ?_, by omega⟩
    by_cases e : q i = r
    · rw [e, ud_s, pk_us]
    · rw [ud_n e, pk_un e]; exact a3
  · rw [ud_n (nr i hi hn)]
    have := hle (q (pr_ i))
    have := h4 i hi0 hi
    omega
  · have hpi : (i - 1) / 2 = pl := hp
    rw [ud_n (nr i hi (by omega)), ud_n (nr (pr_ pl) (by show (pl - 1) / 2 < sz; omega) (by show (pl - 1) / 2 ≠ pl; omega))]
    have e1 := h4 pl hp0 hpl
    have e2 := h4 i hi0 hi
    rw [hp] at e2
    omega
theorem HP.top {op : Nat → Prop} {ky : Nat → Nat} {sz : Nat} {gk gt gp : Nat → Int32} (h : HP op ky (sz + 1) gk gt gp) : ∃ r, gt 0 = nI r ∧ r < 720 ∧ op r ∧ (∀ z, op z → ky r ≤ ky z) ∧ ∃ r2, gt sz = nI r2 ∧ r2 < 720 ∧ (sz = 0 → r2 = r) ∧ (0 < sz → ∃ q, HB_ (fun z => op z ∧ z ≠ r) ky sz 0 q gk gt gp ∧ DN_ ky sz 0 q ∧ q 0 = r2) ∧ (sz = 0 → ∀ z, ¬ (op z ∧ z ≠ r)) := by
  obtain ⟨q, h0, h1, h2, h3, h4⟩ := h
  have inj := hp_inj h0 (fun i hi => (h2 i hi).2)
  refine ⟨q 0, (h2 0 (by omega)).1, (h1 0 (by omega)).1, (h1 0 (by omega)).2.1, fun z hz => ?_, q sz, (h2 sz (by omega)).1, (h1 sz (by omega)).1, fun e => by rw [e], fun hs => ?_, fun hs z hz => ?_⟩
  · obtain ⟨i, hi, e⟩ := h3 z hz
    rw [← e]
    exact hp_top h4 i hi
  · have en : ∀ i, i ≠ 0 → ud q 0 (q sz) i = q i := fun i hi => ud_n hi
    refine ⟨ud q 0 (q sz), ⟨by omega, hs, fun i hi => ?_, fun i hi hn => ?_, fun i j hi hj e => ?_, fun z hz => ?_⟩, ⟨fun i hi0 hi hn => ?_, fun i hi0 hi hp hp0 => absurd hp0 (Nat.lt_irrefl _)⟩, ud_s⟩
    · by_cases e : i = 0
      · rw [e, ud_s]
        obtain ⟨a1, a2, a3⟩ := h1 sz (by omega)
        exact ⟨a1, ⟨a2, fun z => by have := inj sz 0 (by omega) (by omega) z; omega⟩, a3⟩
      · rw [en i e]
        obtain ⟨a1, a2, a3⟩ := h1 i (by omega)
        exact ⟨a1, ⟨a2, fun z => by have := inj i 0 (by omega) (by omega) z; omega⟩, a3⟩
    · rw [en i hn]; exact h2 i (by omega)
    · by_cases e1 : i = 0
      · by_cases e2 : j = 0
        · omega
        · rw [e1, ud_s, en j e2] at e
          have := inj sz j (by omega) (by omega) e
          omega
      · by_cases e2 : j = 0
        · rw [e2, ud_s, en i e1] at e
          have := inj i sz (by omega) (by omega) e
          omega
        · rw [en i e1, en j e2] at e
          exact inj i j (by omega) (by omega) e
    · obtain ⟨i, hi, e⟩ := h3 z hz.1
      have i0 : i ≠ 0 := fun e0 => hz.2 (by rw [← e, e0])
      by_cases es : i = sz
      · exact ⟨0, hs, by rw [ud_s, ← es]; exact e⟩
      · exact ⟨i, by omega, by rw [en i i0]; exact e⟩
    · rw [en i (by omega), en (pr_ i) hn]
      exact h4 i hi0 (by omega)
  · obtain ⟨i, hi, e⟩ := h3 z hz.1
    have : i = 0 := by omega
    exact hz.2 (by rw [← e, this])
theorem c_add {m : Nat} {h : ab_H} {op : Nat → Prop} {ky : Nat → Nat} {sz : Nat} (h41 : h 41 = oH (nI sz)) {gk gt gp : Nat → Int32} (h42 : h 42 = .inl (720, gk)) (h43 : h 43 = .inl (720, gt)) (h44 : h 44 = .inl (720, gp)) (hp : HP op ky sz gk gt gp) {r k : Nat} (hr : r < 720) (hk : k < 2147483648) (hno : ¬ op r) : ab_C Y_Heap_add [.ref 41, .int (nI r), .int (nI k)] m h (fun r2 m2 h2 => r2 = none ∧ m2 = m ∧ ∃ gt2 gp2 : Nat → Int32, h2 = HF h (nI (sz + 1)) (upd gk r (nI k)) gt2 gp2 ∧ HP (fun z => op z ∨ z = r) (ud ky r k) (sz + 1) (upd gk r (nI k)) gt2 gp2) := by
  obtain ⟨q, hb, up, er⟩ := hp.new hr hk hno
  refine ab_C.of (L := [some (.ref 41), some (.int (nI r)), some (.int (nI k))]) rfl rfl (Nat.le_of_ble_eq_true rfl) (fun l => ?_)
  refine aw_aload_n d_Heap_add_0 rfl ?_
  refine aw_get (k := 1) d_Heap_add_1 cl_Heap k_Heap_9 (by decide) h41 rfl ?_
  refine aw_iload_n d_Heap_add_4 rfl ?_
  refine aw_iload_n d_Heap_add_5 rfl ?_
  refine aw_iastoreN d_Heap_add_6 h42 (by omega) (by decide) ?_
  refine aw_aload_n d_Heap_add_7 rfl ?_
  refine aw_dup d_Heap_add_8 rfl ?_
  refine aw_get (k := 0) d_Heap_add_9 cl_Heap k_Heap_21 (by decide) h41 rfl ?_
  refine aw_iconst (v := nI 1) d_Heap_add_12 (by decide) ?_
  refine aw_iadd d_Heap_add_13 ?_
  rw [nI_add]
  refine aw_put (k := 0) (fs' := [.int (nI (sz + 1)), .ref 42, .ref 43, .ref 44]) d_Heap_add_14 cl_Heap k_Heap_21 (by decide) rfl ⟨rfl, rfl⟩ h41 (Nat.le_of_ble_eq_true rfl) rfl ?_
  refine aw_aload_n d_Heap_add_17 rfl ?_
  refine aw_iload_n d_Heap_add_18 rfl ?_
  refine aw_aload_n d_Heap_add_19 rfl ?_
  refine aw_get (k := 0) d_Heap_add_20 cl_Heap k_Heap_21 (by decide) rfl rfl ?_
  refine aw_iconst (v := nI 1) d_Heap_add_23 (by decide) ?_
  refine aw_isub d_Heap_add_24 ?_
  rw [pk_sub (by omega), Nat.add_sub_cancel]
  refine aw_v0 (a := 41) d_Heap_add_25 k_Heap_25 ok_Heap_rise rfl ⟨rfl, rfl⟩ cl_Heap rfl (c_rise (h := ab_set (ab_set h 42 (.inl (720, upd gk r (nI k)))) 41 (oH (nI (sz + 1)))) rfl (gk := upd gk r (nI k)) rfl h43 h44 hb up er) rfl rfl (Nat.le_of_ble_eq_true rfl) (fun r2 m2 h2 z => ?_)
  obtain ⟨rfl, em, gt2, gp2, rfl, hp2⟩ := z
  rw [em]
  show ab_W _ _ _ _ 28 _ [] _ _ _
  refine aw_return d_Heap_add_28 rfl ?_
  rw [hf_1]
  exact ⟨rfl, rfl, gt2, gp2, rfl, hp2⟩
theorem c_lower {m : Nat} {h : ab_H} {op : Nat → Prop} {ky : Nat → Nat} {sz : Nat} (h41 : h 41 = oH (nI sz)) {gk gt gp : Nat → Int32} (h42 : h 42 = .inl (720, gk)) (h43 : h 43 = .inl (720, gt)) (h44 : h 44 = .inl (720, gp)) (hp : HP op ky sz gk gt gp) {r k : Nat} (hr : op r) (hk : k ≤ ky r) : ab_C Y_Heap_lower [.ref 41, .int (nI r), .int (nI k)] m h (fun r2 m2 h2 => r2 = none ∧ m2 = m ∧ ∃ gt2 gp2 : Nat → Int32, h2 = HF h (nI sz) (upd gk r (nI k)) gt2 gp2 ∧ HP op (ud ky r k) sz (upd gk r (nI k)) gt2 gp2) := by
  have hr7 := (hp.k hr).1
  obtain ⟨q, pl, epl, hb, up, er⟩ := hp.low hr hk
  refine ab_C.of (L := [some (.ref 41), some (.int (nI r)), some (.int (nI k))]) rfl rfl (Nat.le_of_ble_eq_true rfl) (fun l => ?_)
  refine aw_aload_n d_Heap_lower_0 rfl ?_
  refine aw_get (k := 1) d_Heap_lower_1 cl_Heap k_Heap_9 (by decide) h41 rfl ?_
  refine aw_iload_n d_Heap_lower_4 rfl ?_
  refine aw_iload_n d_Heap_lower_5 rfl ?_
  refine aw_iastoreN d_Heap_lower_6 h42 (by omega) (by decide) ?_
  refine aw_aload_n d_Heap_lower_7 rfl ?_
  refine aw_iload_n d_Heap_lower_8 rfl ?_
  refine aw_aload_n d_Heap_lower_9 rfl ?_
  refine aw_get (k := 3) d_Heap_lower_10 cl_Heap k_Heap_18 (by decide) h41 rfl ?_
  refine aw_iload_n d_Heap_lower_13 rfl ?_
  refine aw_ialoadN d_Heap_lower_14 h44 (by omega) (by decide) ?_
  rw [epl]
  refine aw_v0 (a := 41) d_Heap_lower_15 k_Heap_25 ok_Heap_rise rfl ⟨rfl, rfl⟩ cl_Heap h41 (c_rise (h := ab_set h 42 (.inl (720, upd gk r (nI k)))) h41 (gk := upd gk r (nI k)) rfl h43 h44 hb up er) rfl rfl (Nat.le_of_ble_eq_true rfl) (fun r2 m2 h2 z => ?_)
  obtain ⟨rfl, em, gt2, gp2, rfl, hp2⟩ := z
  rw [em]
  show ab_W _ _ _ _ 18 _ [] _ _ _
  refine aw_return d_Heap_lower_18 rfl ?_
  rw [hf_2 h41]
  exact ⟨rfl, rfl, gt2, gp2, rfl, hp2⟩
theorem c_takeH {m : Nat} {h : ab_H} {op : Nat → Prop} {ky : Nat → Nat} {sz : Nat} (h41 : h 41 = oH (nI (sz + 1))) {gk gt gp : Nat → Int32} (h42 : h 42 = .inl (720, gk)) (h43 : h 43 = .inl (720, gt)) (h44 : h 44 = .inl (720, gp)) (hp : HP op ky (sz + 1) gk gt gp) : ab_C Y_Heap_take [.ref 41] m h (fun r2 m2 h2 => ∃ r, r2 = some (.int (nI r)) ∧ op r ∧ (∀ z, op z → ky r ≤ ky z) ∧ m2 = m ∧ ∃ gt2 gp2 : Nat → Int32, h2 = HF h (nI sz) gk gt2 gp2 ∧ HP (fun z => op z ∧ z ≠ r) ky sz gk gt2 gp2) := by
  have h7 := hp.le
  obtain ⟨r, e0, hr, opr, hmin, r2, e2, hr2, es, hq, hz⟩ := hp.top
  refine ab_C.of (L := [some (.ref 41), none]) rfl rfl (Nat.le_of_ble_eq_true rfl) (fun l => ?_)
  refine aw_aload_n d_Heap_take_0 rfl ?_
  refine aw_get (k := 2) d_Heap_take_1 cl_Heap k_Heap_15 (by decide) h41 rfl ?_
  refine aw_iconst (v := nI 0) d_Heap_take_4 (by decide) ?_
  refine aw_ialoadN d_Heap_take_5 h43 (by omega) (by decide) ?_
  rw [e0]
  refine aw_istore_n (L' := [some (.ref 41), some (.int (nI r))]) d_Heap_take_6 ⟨by decide, rfl⟩ rfl ?_
  refine aw_aload_n d_Heap_take_7 rfl ?_
  refine aw_dup d_Heap_take_8 rfl ?_
  refine aw_get (k := 0) d_Heap_take_9 cl_Heap k_Heap_21 (by decide) h41 rfl ?_
  refine aw_iconst (v := nI 1) d_Heap_take_12 (by decide) ?_
  refine aw_isub d_Heap_take_13 ?_
  rw [pk_sub (by omega), Nat.add_sub_cancel]
  refine aw_put (k := 0) (fs' := [.int (nI sz), .ref 42, .ref 43, .ref 44]) d_Heap_take_14 cl_Heap k_Heap_21 (by decide) rfl ⟨rfl, rfl⟩ h41 (Nat.le_of_ble_eq_true rfl) rfl ?_
  refine aw_aload_n d_Heap_take_17 rfl ?_
  refine aw_aload_n d_Heap_take_18 rfl ?_
  refine aw_get (k := 2) d_Heap_take_19 cl_Heap k_Heap_15 (by decide) rfl rfl ?_
  refine aw_aload_n d_Heap_take_22 rfl ?_
  refine aw_get (k := 0) d_Heap_take_23 cl_Heap k_Heap_21 (by decide) rfl rfl ?_
  refine aw_ialoadN d_Heap_take_26 h43 (by omega) (by decide) ?_
  rw [e2]
  have key : ab_C Y_Heap_sink [.ref 41, .int (nI r2)] m (ab_set h 41 (oH (nI sz))) (fun r2 m2 h2 => r2 = none ∧ m2 = m ∧ ∃ gt2 gp2 : Nat → Int32, h2 = HEp (ab_set h 41 (oH (nI sz))) gt2 gp2 ∧ HP (fun z => op z ∧ z ≠ r) ky sz gk gt2 gp2) := by
    by_cases s0 : sz = 0
    · subst s0
      refine c_sink0 (h := ab_set h 41 (oH (nI 0))) rfl h43 h44 hr2 ?_
      exact ⟨rfl, rfl, _, _, rfl, fun i => i, by omega, fun i hi => absurd hi (Nat.not_lt_zero _), fun i hi => absurd hi (Nat.not_lt_zero _), fun z hz9 => absurd hz9 (hz rfl z), fun i _ hi => absurd hi (Nat.not_lt_zero _)⟩
    · obtain ⟨q, hb, dn, eq⟩ := hq (by omega)
      exact c_sink (h := ab_set h 41 (oH (nI sz))) rfl h42 h43 h44 hb dn eq
  refine aw_v0 (a := 41) d_Heap_take_27 k_Heap_29 ok_Heap_sink rfl ⟨rfl, rfl⟩ cl_Heap rfl key rfl rfl (Nat.le_of_ble_eq_true rfl) (fun r2 m2 h2 z => ?_)
  obtain ⟨rfl, em, gt2, gp2, rfl, hp2⟩ := z
  rw [em]
  show ab_W _ _ _ _ 30 _ [] _ _ _
  refine aw_iload_n d_Heap_take_30 rfl ?_
  refine aw_ireturn d_Heap_take_31 rfl rfl ?_
  rw [hf_3 h42]
  exact ⟨r, rfl, opr, hmin, rfl, gt2, gp2, rfl, hp2⟩
