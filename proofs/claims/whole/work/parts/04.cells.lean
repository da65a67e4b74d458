/-! fields, rows, making, over the own world -/
theorem ab_live {G : ab_G} {m : Nat} {h : ab_H} {H : Heap} (hP : ab_P G m h H) {a : Nat} {e : ab_E} (he : h a = e) (hn : e ≠ ab_dead) : ∃ a0, a = a0 + 1 ∧ a0 < m ∧ (ab_ws G m h)[a0]? = some (ab_ad G a, ab_e G e) := by
  have hl : ¬ (a = 0 ∨ m < a) := fun q => hn (he.symm.trans (hP.2.2 a q))
  cases a with
  | zero => exact absurd (Or.inl rfl) hl
  | succ a0 =>
    have h1 : a0 < m := by omega
    refine ⟨a0, rfl, h1, ?_⟩
    rw [ab_ws_at G h h1, he]
theorem ab_ad_A (G : ab_G) (a0 : Nat) : ab_A G (ab_ad G (a0 + 1)) := Nat.le_add_right _ _
theorem ab_P.upd {G : ab_G} {m : Nat} {h : ab_H} {H H1 : Heap} (hP : ab_P G m h H) {a0 : Nat} (ha : a0 < m) (e : ab_E) (he : va_at G.1 ab_cl (ab_ad G (a0 + 1), ab_e G e) H1) (hz : H1.size = H.size) (oq : ∀ q : Nat, q ≠ ab_ad G (a0 + 1) → H1[q]? = H[q]?) : ab_P G m (ab_set h (a0 + 1) e) H1 := by
  refine ⟨?_, hz.trans hP.2.1, fun k hk => ?_⟩
  · rw [← ab_ws_set G m h ha e]
    exact hP.1.set (ab_ws_D G m h) (ab_ws_at G h ha) he oq
  · have : ¬ k = a0 + 1 := by omega
    simp only [ab_set, this, if_false]
    exact hP.2.2 k hk
theorem ab_P.push {G : ab_G} {m : Nat} {h : ab_H} {H H1 : Heap} (hP : ab_P G m h H) (e : ab_E) (he : va_at G.1 ab_cl (ab_ad G (m + 1), ab_e G e) H1) (hz : H1.size = H.size + 1) (oq : ∀ q : Nat, q < H.size → H1[q]? = H[q]?) : ab_P G (m + 1) (ab_set h (m + 1) e) H1 := by
  refine ⟨?_, by rw [hz, hP.2.1]; omega, fun k hk => ?_⟩
  · rw [← ab_ws_push G m h e]
    refine (hP.1.kept (fun k q hq => oq q.1 (hP.1 k q hq).lt)).app (fun k x hx => ?_)
    have h0 : k < 1 := (List.getElem?_eq_some_iff.mp hx).1
    rw [show k = 0 by omega] at hx
    cases hx
    exact he
  · have : ¬ k = m + 1 := by omega
    simp only [ab_set, this, if_false]
    exact hP.2.2 k (by omega)
theorem ab_ad_new {G : ab_G} {m : Nat} {h : ab_H} {H : Heap} (hP : ab_P G m h H) : H.size = ab_ad G (m + 1) := hP.2.1
/-- a class of the list, its words in the tables, its fields' types -/
def ab_Cl (ci : Nat) (C : String) (T : u_T) (N : Nat) (ty : Nat → FieldType) : Prop := ab_cl[ci]? = some (C, T, N) ∧ (∀ w ∈ u_ws C T N, w ∈ ab_gw) ∧ (∀ k, k < N → parseFieldDescriptor (T k).2.2.1 = some (ty k)) ∧ (∀ a, a < N → ∀ b, b < N → a ≠ b → (T a).2.1 ≠ (T b).2.1)
theorem ab_Cl.live {ci : Nat} {C : String} {T : u_T} {N : Nat} {ty : Nat → FieldType} (h : ab_Cl ci C T N ty) (fs : List Value) : (Sum.inr (Sum.inr (ci, fs)) : ab_E) ≠ ab_dead := by
  intro q
  have h1 := h.1
  simp only [ab_dead, Sum.inr.injEq, Prod.mk.injEq] at q
  rw [q.1] at h1
  rw [show ab_cl[999]? = none from rfl] at h1
  cases h1
theorem ab_liveI (n : Nat) (f : Nat → Int32) : (Sum.inl (n, f) : ab_E) ≠ ab_dead := by intro q; cases q
theorem ab_liveR (x : Bool × Nat × (Nat → Option Nat)) : (Sum.inr (Sum.inl x) : ab_E) ≠ ab_dead := by intro q; cases q
theorem ab_narrow {G : ab_G} {ty : FieldType} {v : Value} (h : narrow ty v = v) : narrow ty (ab_v G v) = ab_v G v := by
  cases v <;> first | exact h | (cases ty <;> rfl)
theorem ab_fits {G : ab_G} {ty : FieldType} {v : Value} (h : fits ty v = true) : fits ty (ab_v G v) = true := by
  cases v <;> first | exact h | (cases ty <;> first | exact h | rfl)
section AWH
variable {Y : ab_Y} {X : ab_X} {l : Launch} {Q : Option Value → Nat → ab_H → Prop} {pc : Nat} {L : List (Option Value)} {st : List Value} {m : Nat} {h : ab_H} {us : Nat × Nat}
theorem aw_get {i ci a k : Nat} {C0 : String} {T : u_T} {N : Nat} {ty : Nat → FieldType} {fs : List Value} {v : Value} {nx : Nat} (hd0 : ab_dc Y pc (.getfield i) 3 nx) (hc : ab_Cl ci C0 T N ty) (hw : Cond.fieldLink Y.1.cls i (T k).1 (T k).2.1 (T k).2.2.1 ∈ lw_tbl ∧ goodWord (.fieldLink Y.1.cls i (T k).1 (T k).2.1 (T k).2.2.1) = true) (hk : k < N) (he : h a = .inr (.inr (ci, fs))) (hv : fs[k]? = some v)
    (kk : ab_W Y X l Q nx L (v :: st) m h us) : ab_W Y X l Q pc L (.ref a :: st) m h us := by
  obtain ⟨hd, rfl⟩ := hd0
  intro G p e s mi args below meth c H locs ls Z C hL hP hS h1 h2 hF
  obtain ⟨a0, rfl, hlt, hat⟩ := ab_live hP he (hc.live fs)
  exact va_get (D := G.1) C.1 C.2.1 C.2.2.2.2.1 hc.2.1 C.2.2.2.1 C.2.2.2.2.2.1.1 hP.1 a0 hat hc.1 k hk (ab_word C hw) (fun _ q => q) (by rw [List.getElem?_map, hv]; rfl) hd (kk G p e s mi args below meth c H locs ls Z C hL hP hS h1 h2 hF)
theorem aw_put {i ci a k : Nat} {C0 : String} {T : u_T} {N : Nat} {ty : Nat → FieldType} {fs fs' : List Value} {v : Value} {nx : Nat} (hd0 : ab_dc Y pc (.putfield i) 3 nx) (hc : ab_Cl ci C0 T N ty) (hw : Cond.fieldLink Y.1.cls i (T k).1 (T k).2.1 (T k).2.2.1 ∈ lw_tbl ∧ goodWord (.fieldLink Y.1.cls i (T k).1 (T k).2.1 (T k).2.2.1) = true) (hk : k < N) (hfin : (T k).2.2.2 = false) (hn : narrow (ty k) v = v ∧ fits (ty k) v = true) (he : h a = .inr (.inr (ci, fs))) (hl : k < fs.length) (hs : fs.set k v = fs')
    (kk : ab_W Y X l Q nx L st m (ab_set h a (.inr (.inr (ci, fs')))) us) : ab_W Y X l Q pc L (v :: .ref a :: st) m h us := by
  obtain ⟨hd, rfl⟩ := hd0
  intro G p e s mi args below meth c H locs ls Z C hL hP hS h1 h2 hF
  obtain ⟨a0, rfl, hlt, hat⟩ := ab_live hP he (hc.live fs)
  subst hs
  have hts := C.2.2.2.2.1
  have hK := C.2.2.2.2.2.1.1
  have hap := va_apart (own := Y.1.cls) hts hc.2.1 ty hc.2.2.1 hc.2.2.2 hK hc.1
  obtain ⟨r, g1, cell, q1, q2, q3, q4⟩ := hP.1 a0 _ hat
  have hr : r = (C0, T, N) := Option.some.inj (g1.symm.trans hc.1)
  subst hr
  obtain ⟨hSl, hfc, kC, hkC, hkind⟩ := hK.1 ci _ hc.1
  obtain ⟨cf, kf, fi, f, hi, hsl⟩ := hSl k hk
  have hlay := hts _ (hc.2.1 _ (u_in_lay hk))
  unfold u_lay at hlay
  rw [if_neg (by rw [hfin]; decide)] at hlay
  have hst := (u_facts hfc hkC (u_lays hts hc.2.1 hk) hi).1
  have h6 := u_store hfc hkC hkind hlay hi (hc.2.2.1 k hk) (ab_narrow (G := G) hn.1) (ab_fits hn.2)
  refine W.putK C.1 C.2.1 (f := f) ⟨C.2.2.2.1, ab_word C hw, ⟨_, _, _, hi⟩, hst⟩ (by rw [q2]; exact h6) q1 q3 (by rw [hsl]; exact k2_hasslot (q4 k hk)) rfl rfl hd fun H1 e1 e2 e3 => ?_
  rw [hsl] at e1 ⊢
  refine kk G p e s mi args below meth c H1 _ ls Z C hL (hP.upd hlt _ ?_ e2 e3) (hS.put e2 e3 (ab_ad_A G a0)) h1 h2 hF
  refine ⟨_, hc.1, t_OB.to (V := updV (vp_V (fs.map (ab_v G))) k (ab_v G v)) ⟨_, e1, q2, q3, t_set q4 hap hk _⟩ (fun j _ => ?_)⟩
  rw [List.map_set]
  exact vp_updV_set (by simpa using hl) _ j
theorem aw_putF {i ci a k : Nat} {C0 : String} {T : u_T} {N : Nat} {ty : Nat → FieldType} {fs fs' : List Value} {v : Value} {nx : Nat} (hd0 : ab_dc Y pc (.putfield i) 3 nx) (hc : ab_Cl ci C0 T N ty) (hw : Cond.fieldLink Y.1.cls i (T k).1 (T k).2.1 (T k).2.2.1 ∈ lw_tbl ∧ goodWord (.fieldLink Y.1.cls i (T k).1 (T k).2.1 (T k).2.2.1) = true) (hk : k < N) (hfin : (T k).2.2.2 = true) (hin2 : Y.1.name = "<init>") (hdecl : (T k).1 = Y.1.cls) (hn : narrow (ty k) v = v ∧ fits (ty k) v = true) (he : h a = .inr (.inr (ci, fs))) (hl : k < fs.length) (hs : fs.set k v = fs')
    (kk : ab_W Y X l Q nx L st m (ab_set h a (.inr (.inr (ci, fs')))) us) : ab_W Y X l Q pc L (v :: .ref a :: st) m h us := by
  obtain ⟨hd, rfl⟩ := hd0
  intro G p e s mi args below meth c H locs ls Z C hL hP hS h1 h2 hF
  obtain ⟨a0, rfl, hlt, hat⟩ := ab_live hP he (hc.live fs)
  subst hs
  have hts := C.2.2.2.2.1
  have hK := C.2.2.2.2.2.1.1
  have hown := C.2.2.2.1
  have hap := va_apart (own := Y.1.cls) hts hc.2.1 ty hc.2.2.1 hc.2.2.2 hK hc.1
  obtain ⟨r, g1, cell, q1, q2, q3, q4⟩ := hP.1 a0 _ hat
  have hr : r = (C0, T, N) := Option.some.inj (g1.symm.trans hc.1)
  subst hr
  obtain ⟨hSl, hfc, kC, hkC, hkind⟩ := hK.1 ci _ hc.1
  obtain ⟨cf, kf, fi, f, hi, hsl⟩ := hSl k hk
  have hlay := hts _ (hc.2.1 _ (u_in_lay hk))
  unfold u_lay at hlay
  rw [if_pos hfin] at hlay
  have hst := (u_facts hfc hkC (u_lays hts hc.2.1 hk) hi).1
  have hcf : mi.cls = cf := by
    obtain ⟨_, _, c', _, _, _, -, -, hf', -, -, -, hown2, -⟩ := Cond.laysFinal_spec hlay
    have e1 : c' = cf := by have := hi.symm.trans hf'; simp at this; exact this.1.symm
    rw [hdecl] at hown2
    rw [← e1]; exact Option.some.inj (hown.symm.trans hown2)
  have h6 := u_fits hfc hkC hkind (Or.inr hlay) hi (hc.2.2.1 k hk) (ab_narrow (G := G) hn.1) (ab_fits hn.2)
  refine W.putFinK C.1 C.2.1 hown (ab_word C hw) hi hst hcf (C.2.2.2.2.2.2.2.2.1 hin2) (by rw [q2]; exact h6) q1 q3 (by rw [hsl]; exact k2_hasslot (q4 k hk)) rfl rfl hd fun H1 e1 e2 e3 => ?_
  rw [hsl] at e1 ⊢
  refine kk G p e s mi args below meth c H1 _ ls Z C hL (hP.upd hlt _ ?_ e2 e3) (hS.put e2 e3 (ab_ad_A G a0)) h1 h2 hF
  refine ⟨_, hc.1, t_OB.to (V := updV (vp_V (fs.map (ab_v G))) k (ab_v G v)) ⟨_, e1, q2, q3, t_set q4 hap hk _⟩ (fun j _ => ?_)⟩
  rw [List.map_set]
  exact vp_updV_set (by simpa using hl) _ j
theorem aw_iaload {a n : Nat} {f : Nat → Int32} {i : Int32} {nx : Nat} (hd0 : ab_dc Y pc (.iaload) 1 nx) (he : h a = .inl (n, f)) (hi : vp_in i n) (kk : ab_W Y X l Q nx L (.int (f i.toNatClampNeg) :: st) m h us) : ab_W Y X l Q pc L (.int i :: .ref a :: st) m h us := by
  obtain ⟨hd, rfl⟩ := hd0
  intro G p e s mi args below meth c H locs ls Z C hL hP hS h1 h2 hF
  obtain ⟨a0, rfl, hlt, hat⟩ := ab_live hP he (ab_liveI n f)
  exact va_iald (D := G.1) C.1 C.2.1 C.2.2.2.2.2.1.1 hP.1 a0 0 hat rfl hi hd (kk G p e s mi args below meth c H locs ls Z C hL hP hS h1 h2 hF)
theorem aw_ialoadX {n : Nat} {f : Nat → Int32} {i : Int32} {nx : Nat} (hd0 : ab_dc Y pc (.iaload) 1 nx) (hX : X = some (n, f)) (hi : vp_in i n) (kk : ab_W Y X l Q nx L (.int (f i.toNatClampNeg) :: st) m h us) : ab_W Y X l Q pc L (.int i :: .ref 0 :: st) m h us := by
  obtain ⟨hd, rfl⟩ := hd0
  intro G p e s mi args below meth c H locs ls Z C hL hP hS h1 h2 hF
  have hXo := C.2.2.2.2.2.2.2.2.2.2
  rw [hX] at hXo
  exact va_sld C.1 C.2.1 hXo.1 hXo.2.2 (A := ab_A G) (Nat.not_le.mpr hXo.2.1) hS hi hd (kk G p e s mi args below meth c H locs ls Z C hL hP hS h1 h2 hF)
theorem aw_alen {a n : Nat} {f : Nat → Int32} {nx : Nat} (hd0 : ab_dc Y pc (.arraylength) 1 nx) (he : h a = .inl (n, f)) (kk : ab_W Y X l Q nx L (.int (Int32.ofNat n) :: st) m h us) : ab_W Y X l Q pc L (.ref a :: st) m h us := by
  obtain ⟨hd, rfl⟩ := hd0
  intro G p e s mi args below meth c H locs ls Z C hL hP hS h1 h2 hF
  obtain ⟨a0, rfl, hlt, hat⟩ := ab_live hP he (ab_liveI n f)
  exact va_alen (D := G.1) C.1 C.2.1 C.2.2.2.2.2.1.1 hP.1 a0 0 hat rfl rfl hd (kk G p e s mi args below meth c H locs ls Z C hL hP hS h1 h2 hF)
theorem aw_alenX {n : Nat} {f : Nat → Int32} {nx : Nat} (hd0 : ab_dc Y pc (.arraylength) 1 nx) (hX : X = some (n, f)) (kk : ab_W Y X l Q nx L (.int (Int32.ofNat n) :: st) m h us) : ab_W Y X l Q pc L (.ref 0 :: st) m h us := by
  obtain ⟨hd, rfl⟩ := hd0
  intro G p e s mi args below meth c H locs ls Z C hL hP hS h1 h2 hF
  have hXo := C.2.2.2.2.2.2.2.2.2.2
  rw [hX] at hXo
  exact va_slen C.1 C.2.1 hXo.1 hXo.2.2 (A := ab_A G) (Nat.not_le.mpr hXo.2.1) hS hd (kk G p e s mi args below meth c H locs ls Z C hL hP hS h1 h2 hF)
theorem aw_iastore {a n : Nat} {f : Nat → Int32} {i x : Int32} {nx : Nat} (hd0 : ab_dc Y pc (.iastore) 1 nx) (he : h a = .inl (n, f)) (hi : vp_in i n) (kk : ab_W Y X l Q nx L st m (ab_set h a (.inl (n, upd f i.toNatClampNeg x))) us) : ab_W Y X l Q pc L (.int x :: .int i :: .ref a :: st) m h us := by
  obtain ⟨hd, rfl⟩ := hd0
  intro G p e s mi args below meth c H locs ls Z C hL hP hS h1 h2 hF
  obtain ⟨a0, rfl, hlt, hat⟩ := ab_live hP he (ab_liveI n f)
  have hK := C.2.2.2.2.2.1.1
  refine W.iast C.1 C.2.1 (hP.1 a0 _ hat) ((hK.2 0 _ rfl).1 n (fun j => .int (f j))) (fun q => by cases q) (by show ¬ (i < 0 ∨ (arrV _ _ _).slots.size ≤ _); rw [arrV_size]; exact hi) rfl rfl hd fun H1 e1 z oq => ?_
  refine kk G p e s mi args below meth c H1 _ ls Z C hL (hP.upd hlt _ ?_ z oq) (hS.put z oq (ab_ad_A G a0)) h1 h2 hF
  show H1[ab_ad G (a0 + 1)]? = some (vp_cell _ _)
  rw [e1]
  rw [vp_cell_i, vp_cell_i, arrV_store]
  congr 2
  funext q
  by_cases hq : q = i.toNatClampNeg
  · subst hq
    simp [updV, upd]
  · simp [updV, upd, hq]
/-- rows of references -/
theorem ab_tys_at (G : ab_G) (t : Bool) : ∃ (t0 : Nat) (ty : FieldType), (ab_tys G)[t0]? = some (if t then G.2.2.1 else G.2.2.2.1, ty) ∧ ty.isReference = true := by
  cases t
  · exact ⟨2, .array .int, rfl, rfl⟩
  · exact ⟨1, .object "CoatRings$Slips", rfl, rfl⟩
theorem aw_aaload0 {a n : Nat} {t : Bool} {f : Nat → Option Nat} {i : Int32} {v : Value} {nx : Nat} (hd0 : ab_dc Y pc (.aaload) 1 nx) (he : h a = .inr (.inl (t, n, f))) (hi : vp_in i n) (hv : ∀ G, va_rf ((f i.toNatClampNeg).map (ab_ad G)) = ab_v G v) (kk : ab_W Y X l Q nx L (v :: st) m h us) : ab_W Y X l Q pc L (.int i :: .ref a :: st) m h us := by
  obtain ⟨hd, rfl⟩ := hd0
  intro G p e s mi args below meth c H locs ls Z C hL hP hS h1 h2 hF
  obtain ⟨a0, rfl, hlt, hat⟩ := ab_live hP he (ab_liveR _)
  have hlt2 : i.toNatClampNeg < n := Nat.not_le.mp fun q => hi (Or.inr q)
  obtain ⟨t0, ty, g1, g2⟩ := ab_tys_at G t
  have hK := C.2.2.2.2.2.1.1
  refine W.aald (v := ab_v G v) (ty := ty) C.1 C.2.1 (hP.1 a0 _ hat) ((hK.2 t0 _ g1).1 n (fun j => va_rf ((f j).map (ab_ad G)))) g2 (fun q => by cases q) (by show ¬ (i < 0 ∨ (arrV _ _ _).slots.size ≤ _); rw [arrV_size]; exact hi) (by show (arrV _ _ _).slots[_]? = _; rw [arrV_read _ _ hlt2, hv G]) rfl rfl hd (kk G p e s mi args below meth c H locs ls Z C hL hP hS h1 h2 hF)
theorem aw_aaload {a n v : Nat} {t : Bool} {f : Nat → Option Nat} {i : Int32} {nx : Nat} (hd0 : ab_dc Y pc (.aaload) 1 nx) (he : h a = .inr (.inl (t, n, f))) (hi : vp_in i n) (hv : f i.toNatClampNeg = some v) (kk : ab_W Y X l Q nx L (.ref v :: st) m h us) : ab_W Y X l Q pc L (.int i :: .ref a :: st) m h us := by
  exact aw_aaload0 hd0 he hi (fun G => by rw [hv]; rfl) kk
theorem aw_aaloadN {a n : Nat} {t : Bool} {f : Nat → Option Nat} {i : Int32} {nx : Nat} (hd0 : ab_dc Y pc (.aaload) 1 nx) (he : h a = .inr (.inl (t, n, f))) (hi : vp_in i n) (hv : f i.toNatClampNeg = none) (kk : ab_W Y X l Q nx L (.null :: st) m h us) : ab_W Y X l Q pc L (.int i :: .ref a :: st) m h us := by
  exact aw_aaload0 hd0 he hi (fun G => by rw [hv]; rfl) kk
end AWH
