/-! THE OWN WORLD: all cells that the law's run makes, by their order (place 1, 2 ..; place 0 is the script), and walks over it. A cell: a row of ints, a row of references (true: of Slips, false: of rows of ints), an object (its class' number in ab_cl, its fields). References are places. -/
abbrev ab_E : Type := (Nat × (Nat → Int32)) ⊕ ((Bool × Nat × (Nat → Option Nat)) ⊕ (Nat × List Value))
abbrev ab_H : Type := Nat → ab_E
def ab_set (h : ab_H) (k : Nat) (e : ab_E) : ab_H := fun j => if j = k then e else h j
/-- the classes' numbers and slots, the classes of int[], Slips[], int[][], the script's address, the first new address -/
abbrev ab_G : Type := va_G × ClassId × ClassId × ClassId × Nat × Nat
abbrev ab_b (G : ab_G) : Nat := G.2.2.2.2.1
abbrev ab_N (G : ab_G) : Nat := G.2.2.2.2.2
def ab_ad (G : ab_G) (k : Nat) : Nat := match k with
  | 0 => ab_b G
  | k + 1 => ab_N G + k
def ab_v (G : ab_G) (v : Value) : Value := match v with
  | .ref k => .ref (ab_ad G k)
  | v => v
def ab_e (G : ab_G) (e : ab_E) : va_E := match e with
  | .inl (n, f) => .inl (G.2.1, n, .inl f)
  | .inr (.inl (t, n, f)) => .inl (if t then G.2.2.1 else G.2.2.2.1, n, .inr (.inr (.inr (.inr (fun j => (f j).map (ab_ad G))))))
  | .inr (.inr (ci, fs)) => .inr (ci, fs.map (ab_v G))
def ab_ws (G : ab_G) (m : Nat) (h : ab_H) : va_W := (List.range m).map (fun k => (ab_ad G (k + 1), ab_e G (h (k + 1))))
abbrev ab_A (G : ab_G) : Nat → Prop := fun q => ab_N G ≤ q
abbrev ab_tys (G : ab_G) : List (ClassId × FieldType) := [(G.2.1, .int), (G.2.2.1, .object "CoatRings$Slips"), (G.2.2.2.1, .array .int)]
def ab_nest : List (String × Nat × MethodName × String) := [("CoatRings", 21, ⟨"CoatRings$Tape", "<init>", "()V"⟩, "CoatRings"), ("CoatRings", 39, ⟨"CoatRings$Givings", "<init>", "()V"⟩, "CoatRings"), ("CoatRings", 46, ⟨"CoatRings$Planner", "<init>", "()V"⟩, "CoatRings"), ("CoatRings$Planner", 29, ⟨"CoatRings$Heap", "<init>", "()V"⟩, "CoatRings"), ("CoatRings", 60, ⟨"CoatRings$Rail", "<init>", "()V"⟩, "CoatRings")]
def ab_AA (U : State) : Prop := (Cond.arrayOver (.array .int)).before #[] U = true
/-- what the tables say at a state -/
def ab_K (G : ab_G) (U : State) : Prop := va_K G.1 ab_cl (ab_tys G) U ∧ va_AO "CoatRings$Slips" U ∧ ab_AA U ∧ ∀ q ∈ ab_nest, va_Nw (.methodLinkNest q.1 q.2.1 q.2.2.1 q.2.2.2) U
/-- what stands at a place that isn't made yet: no cell is like it -/
def ab_dead : ab_E := .inr (.inr (999, []))
/-- the heap holds the own world -/
def ab_P (G : ab_G) (m : Nat) (h : ab_H) (H : Heap) : Prop := va_P G.1 ab_cl (ab_ws G m h) H ∧ H.size = ab_N G + m ∧ ∀ k, (k = 0 ∨ m < k) → h k = ab_dead
theorem ab_nest_in : ∀ q ∈ ab_nest, Cond.methodLinkNest q.1 q.2.1 q.2.2.1 q.2.2.2 ∈ tables_1 := by decide +kernel
theorem ab_AA.moved {u U : State} (hvm : u.vm.Alike U.vm) (h : ab_AA u) : ab_AA U := Jvm.Stand.arrayOver_alikeB hvm h
theorem ab_K.warm {G : ab_G} {s U : State} (hW : s.WarmedH U.vm) (h : ab_K G s) : ab_K G U := by
  obtain ⟨h1, h2, h3, h4⟩ := h
  exact ⟨va_K.moved hW.alike h1, va_AO.moved hW.alike h2, ab_AA.moved hW.alike h3, fun q hq => va_Nw.warmM hW (h4 q hq)⟩
theorem ab_K.same {G : ab_G} {u U : State} (e : u.vm = U.vm) (h : ab_K G u) : ab_K G U := by
  obtain ⟨h1, h2, h3, h4⟩ := h
  have ha : u.vm.Alike U.vm := by rw [e]; exact Vm.Alike.refl U.vm
  exact ⟨va_K.moved ha h1, va_AO.moved ha h2, ab_AA.moved ha h3, fun q hq => va_Nw.same rfl e (h4 q hq)⟩
theorem ab_ws_at (G : ab_G) {m : Nat} (h : ab_H) {k : Nat} (hk : k < m) : (ab_ws G m h)[k]? = some (ab_ad G (k + 1), ab_e G (h (k + 1))) := by
  unfold ab_ws
  rw [List.getElem?_map, List.getElem?_range hk]
  rfl
theorem ab_ws_of {G : ab_G} {m : Nat} {h : ab_H} {k : Nat} {q : Nat × va_E} (hq : (ab_ws G m h)[k]? = some q) : k < m ∧ q = (ab_ad G (k + 1), ab_e G (h (k + 1))) := by
  have hl : k < m := by
    have := (List.getElem?_eq_some_iff.mp hq).1
    simpa [ab_ws] using this
  rw [ab_ws_at G h hl] at hq
  exact ⟨hl, (Option.some.inj hq).symm⟩
theorem ab_ws_D (G : ab_G) (m : Nat) (h : ab_H) : va_D (ab_A G) (ab_ws G m h) := by
  refine ⟨fun i j p q hi hj hpq => ?_, fun k q hk => ?_⟩
  · obtain ⟨-, rfl⟩ := ab_ws_of hi
    obtain ⟨-, rfl⟩ := ab_ws_of hj
    have : ab_N G + i = ab_N G + j := hpq
    omega
  · obtain ⟨-, rfl⟩ := ab_ws_of hk
    show ab_N G ≤ ab_N G + k
    omega
theorem ab_ws_set (G : ab_G) (m : Nat) (h : ab_H) {k : Nat} (hk : k < m) (e : ab_E) : (ab_ws G m h).set k (ab_ad G (k + 1), ab_e G e) = ab_ws G m (ab_set h (k + 1) e) := by
  apply List.ext_getElem?
  intro j
  by_cases hj : j = k
  · subst hj
    rw [ab_ws_at G _ hk, List.getElem?_set_self (by simpa [ab_ws] using hk)]
    simp [ab_set]
  · rw [List.getElem?_set_ne (Ne.symm hj)]
    by_cases hl : j < m
    · rw [ab_ws_at G _ hl, ab_ws_at G _ hl]
      simp [ab_set, hj]
    · rw [List.getElem?_eq_none (by simpa [ab_ws] using hl), List.getElem?_eq_none (by simpa [ab_ws] using hl)]
theorem ab_ws_push (G : ab_G) (m : Nat) (h : ab_H) (e : ab_E) : ab_ws G m h ++ [(ab_ad G (m + 1), ab_e G e)] = ab_ws G (m + 1) (ab_set h (m + 1) e) := by
  apply List.ext_getElem?
  intro j
  rcases Nat.lt_trichotomy j m with hl | hl | hl
  · rw [List.getElem?_append_left (by simpa [ab_ws] using hl), ab_ws_at G _ hl, ab_ws_at G _ (Nat.lt_succ_of_lt hl)]
    have : ¬ j = m := by omega
    simp [ab_set, this]
  · subst hl
    rw [List.getElem?_append_right (by simp [ab_ws]), ab_ws_at G _ (Nat.lt_succ_self j)]
    simp [ab_ws, ab_set]
  · rw [List.getElem?_eq_none (by simp [ab_ws]; omega), List.getElem?_eq_none (by simp [ab_ws]; omega)]
/-! methods: name, code, locals, what it returns, room -/
abbrev ab_Y : Type := MethodName × ByteArray × Nat × Option FieldType × Room
def ab_rm (d mc ms : Nat) : Room := { frames := d + 1, cells := mc, slots := ms, locals := 64 * (d + 1) }
def ab_gw : List Cond := lw_tbl.filter goodWord
def ab_w (Y : ab_Y) : List Cond := .code Y.1 Y.2.1 Y.2.2.1 Y.2.2.2.1 :: ab_gw
theorem ab_gw_in {w : Cond} (h : w ∈ lw_tbl ∧ goodWord w = true) : w ∈ ab_gw := List.mem_filter.mpr h
/-- the script, where the law has it -/
abbrev ab_X : Type := Option (Nat × (Nat → Int32))
def ab_Xo (X : ab_X) (G : ab_G) (s : State) : Prop := match X with
  | none => True
  | some (L, xs) => va_X (ab_b G) L xs s s.heap ∧ ab_b G < ab_N G ∧ ab_b G < s.heap.size
def ab_L (G : ab_G) (ls : Array Slot) (n : Nat) (L : List (Option Value)) : Prop := ls.size = n ∧ L.length = n ∧ lv_wf ls ∧ ∀ (i : Nat) (v : Value), L[i]? = some (some v) → ls[i]? = some (.val (ab_v G v))
def ab_ret (Y : ab_Y) (pc : Nat) (r : Option Value) : Prop := match r with
  | none => decode Y.2.1 pc = .ok (.return_, 1) ∧ Y.2.2.2.1 = none
  | some (.int v) => decode Y.2.1 pc = .ok (.ireturn, 1) ∧ ∃ ty, Y.2.2.2.1 = some ty ∧ narrow ty (.int v) = .int v
  | some (.ref _) => decode Y.2.1 pc = .ok (.areturn, 1) ∧ ∃ n, Y.2.2.2.1 = some (.object n)
  | _ => False
def ab_Cx (Y : ab_Y) (X : ab_X) (G : ab_G) (p : Program) (s : State) (mi : MethodId) (args : Array Value) (meth : Method) (c : Code) : Prop :=
  p.tables.exec = Jvm.exec ∧ c.code = Y.2.1 ∧ c.maxLocals = Y.2.2.1 ∧ s.vm.findClass Y.1.cls = some mi.cls ∧ (∀ w ∈ ab_gw, w.before args s = true) ∧ ab_K G s ∧ meth.sig.returnType = Y.2.2.2.1 ∧ meth.locks = false ∧ (Y.1.name = "<init>" → meth.name = "<init>") ∧ ab_N G ≤ s.heap.size ∧ ab_Xo X G s
def ab_Fin (Y : ab_Y) (Q : Option Value → Nat → ab_H → Prop) (G : ab_G) (p : Program) (l : Launch) (e : Env) (s : State) (mi : MethodId) (args : Array Value) (below : List Frame) (meth : Method) (c : Code) (Z : State → Prop) : Prop :=
  ∀ (r : Option Value) (m : Nat) (h : ab_H) (us : Nat × Nat) (H : Heap) (locs : List Loc) (pc : Nat) (ls : Array Slot), Q r m h → us.1 ≤ Y.2.2.2.2.cells → us.2 ≤ Y.2.2.2.2.slots → ab_P G m h H → va_S (ab_A G) s.heap H locs → ab_ret Y pc r →
    W p l e Y.2.2.2.2 s mi args below meth c H locs us.1 us.2 Z (F0 mi pc ls (r.toList.map (ab_v G)))
/-- THE WALK: from pc with locals L, stack st, m cells, the world h, cells and slots used, the method comes to its end with Q -/
def ab_W (Y : ab_Y) (X : ab_X) (l : Launch) (Q : Option Value → Nat → ab_H → Prop) (pc : Nat) (L : List (Option Value)) (st : List Value) (m : Nat) (h : ab_H) (us : Nat × Nat) : Prop :=
  ∀ (G : ab_G) (p : Program) (e : Env) (s : State) (mi : MethodId) (args : Array Value) (below : List Frame) (meth : Method) (c : Code) (H : Heap) (locs : List Loc) (ls : Array Slot) (Z : State → Prop),
    ab_Cx Y X G p s mi args meth c → ab_L G ls Y.2.2.1 L → ab_P G m h H → va_S (ab_A G) s.heap H locs → us.1 ≤ Y.2.2.2.2.cells → us.2 ≤ Y.2.2.2.2.slots → ab_Fin Y Q G p l e s mi args below meth c Z →
    W p l e Y.2.2.2.2 s mi args below meth c H locs us.1 us.2 Z (F0 mi pc ls (st.map (ab_v G)))
/-- A CONTRACT -/
def ab_C (Y : ab_Y) (av : List Value) (m : Nat) (h : ab_H) (Q : Option Value → Nat → ab_H → Prop) : Prop :=
  ∀ (l : Launch) (G : ab_G), Met l Y.1 (ab_w Y) Y.2.2.2.2 (va_Pc (av.map (ab_v G)) (fun U => ab_K G U ∧ ab_P G m h U.heap)) (fun _ st o t => (∃ (r : Option Value) (m2 : Nat) (h2 : ab_H), o = .returned (r.map (ab_v G)) ∧ Q r m2 h2 ∧ ab_P G m2 h2 t.heap) ∧ va_F (ab_A G) st t) Y.2.2.2.2.cells Y.2.2.2.2.slots (ab_A G)
/-- the instruction at pc, its length, the next one's place -/
def ab_dc (Y : ab_Y) (pc : Nat) (i : Instr) (n nx : Nat) : Prop := decode Y.2.1 pc = .ok (i, n) ∧ nx = pc + n
