theorem c_Planner_init {h : ab_H} (h0 : h 35 = .inr (.inr (5, [.int 0, .int 0, .int 0, .null, .null, .int 0, .int 0, .int 0, .null, .null, .null, .null, .null, .null, .null]))) : ab_C Y_Planner_init [.ref 35] 35 h (fun r m2 h2 => r = none ∧ m2 = 46 ∧ (h2 35 = oP false 0 0 .null 0 0 0 ∧ ra_ h2 36 720 ∧ ra_ h2 37 720 ∧ ra_ h2 38 720 ∧ ra_ h2 39 720 ∧ ra_ h2 40 720 ∧ h2 41 = oH 0 ∧ ra_ h2 42 720 ∧ ra_ h2 43 720 ∧ ra_ h2 44 720 ∧ ra_ h2 45 64 ∧ ra_ h2 46 64) ∧ ∀ k, (k < 35 ∨ 46 < k) → h2 k = h k) := by
  refine ab_C.of (L := [some (.ref 35)]) rfl rfl (Nat.le_of_ble_eq_true rfl) (fun l => ?_)
  refine aw_aload_n d_Planner_init_0 rfl ?_
  refine aw_objinit d_Planner_init_1 k_Planner_3 ⟨by decide, Nat.le_of_ble_eq_true rfl⟩ ?_
  refine aw_aload_n d_Planner_init_4 rfl ?_
  refine aw_sipush (v := nI 720) d_Planner_init_5 (by decide) ?_
  refine aw_newarray (N := 720) d_Planner_init_8 (by decide) (by decide) (by decide) ⟨by decide, by decide⟩ ?_
  refine aw_putF (k := 3) (fs' := [.int 0, .int 0, .int 0, .ref 36, .null, .int 0, .int 0, .int 0, .null, .null, .null, .null, .null, .null, .null]) d_Planner_init_10 cl_Planner k_Planner_9 (by decide) rfl rfl rfl ⟨rfl, rfl⟩ h0 (Nat.le_of_ble_eq_true rfl) rfl ?_
  refine aw_aload_n d_Planner_init_13 rfl ?_
  refine aw_sipush (v := nI 720) d_Planner_init_14 (by decide) ?_
  refine aw_newarray (N := 720) d_Planner_init_17 (by decide) (by decide) (by decide) ⟨by decide, by decide⟩ ?_
  refine aw_putF (k := 8) (fs' := [.int 0, .int 0, .int 0, .ref 36, .null, .int 0, .int 0, .int 0, .ref 37, .null, .null, .null, .null, .null, .null]) d_Planner_init_19 cl_Planner k_Planner_15 (by decide) rfl rfl rfl ⟨rfl, rfl⟩ rfl (Nat.le_of_ble_eq_true rfl) rfl ?_
  refine aw_aload_n d_Planner_init_22 rfl ?_
  refine aw_sipush (v := nI 720) d_Planner_init_23 (by decide) ?_
  refine aw_newarray (N := 720) d_Planner_init_26 (by decide) (by decide) (by decide) ⟨by decide, by decide⟩ ?_
  refine aw_putF (k := 9) (fs' := [.int 0, .int 0, .int 0, .ref 36, .null, .int 0, .int 0, .int 0, .ref 37, .ref 38, .null, .null, .null, .null, .null]) d_Planner_init_28 cl_Planner k_Planner_18 (by decide) rfl rfl rfl ⟨rfl, rfl⟩ rfl (Nat.le_of_ble_eq_true rfl) rfl ?_
  refine aw_aload_n d_Planner_init_31 rfl ?_
  refine aw_sipush (v := nI 720) d_Planner_init_32 (by decide) ?_
  refine aw_newarray (N := 720) d_Planner_init_35 (by decide) (by decide) (by decide) ⟨by decide, by decide⟩ ?_
  refine aw_putF (k := 10) (fs' := [.int 0, .int 0, .int 0, .ref 36, .null, .int 0, .int 0, .int 0, .ref 37, .ref 38, .ref 39, .null, .null, .null, .null]) d_Planner_init_37 cl_Planner k_Planner_21 (by decide) rfl rfl rfl ⟨rfl, rfl⟩ rfl (Nat.le_of_ble_eq_true rfl) rfl ?_
  refine aw_aload_n d_Planner_init_40 rfl ?_
  refine aw_sipush (v := nI 720) d_Planner_init_41 (by decide) ?_
  refine aw_newarray (N := 720) d_Planner_init_44 (by decide) (by decide) (by decide) ⟨by decide, by decide⟩ ?_
  refine aw_putF (k := 11) (fs' := [.int 0, .int 0, .int 0, .ref 36, .null, .int 0, .int 0, .int 0, .ref 37, .ref 38, .ref 39, .ref 40, .null, .null, .null]) d_Planner_init_46 cl_Planner k_Planner_24 (by decide) rfl rfl rfl ⟨rfl, rfl⟩ rfl (Nat.le_of_ble_eq_true rfl) rfl ?_
  refine aw_aload_n d_Planner_init_49 rfl ?_
  refine aw_new (fs := [.int 0, .null, .null, .null]) d_Planner_init_50 cl_Heap ⟨k_Planner_27, ins_Heap, ini_Heap⟩ (by decide) (fun _ => rfl) ⟨by decide, by decide⟩ ?_
  refine aw_dup d_Planner_init_53 rfl ?_
  refine aw_invn (host := "CoatRings") d_Planner_init_54 (by decide +kernel) ok_Heap_init rfl rfl rfl (Nat.le_of_ble_eq_true rfl) ⟨Nat.le_of_ble_eq_true rfl, Nat.le_of_ble_eq_true rfl⟩ (c_Heap_init rfl) (fun r1 m1 h1 q => ?_)
  obtain ⟨rfl, rfl, q1, f1⟩ := q
  show ab_W _ _ _ _ 57 _ [.ref 41, .ref 35] _ _ _
  refine aw_putF (k := 12) (fs' := [.int 0, .int 0, .int 0, .ref 36, .null, .int 0, .int 0, .int 0, .ref 37, .ref 38, .ref 39, .ref 40, .ref 41, .null, .null]) d_Planner_init_57 cl_Planner k_Planner_30 (by decide) rfl rfl rfl ⟨rfl, rfl⟩ (f1 35 (by omega)) (Nat.le_of_ble_eq_true rfl) rfl ?_
  refine aw_aload_n d_Planner_init_60 rfl ?_
  refine aw_bipush (v := nI 64) d_Planner_init_61 (by decide) ?_
  refine aw_newarray (N := 64) d_Planner_init_63 (by decide) (by decide) (by decide) ⟨by decide, by decide⟩ ?_
  refine aw_putF (k := 13) (fs' := [.int 0, .int 0, .int 0, .ref 36, .null, .int 0, .int 0, .int 0, .ref 37, .ref 38, .ref 39, .ref 40, .ref 41, .ref 45, .null]) d_Planner_init_65 cl_Planner k_Planner_34 (by decide) rfl rfl rfl ⟨rfl, rfl⟩ rfl (Nat.le_of_ble_eq_true rfl) rfl ?_
  refine aw_aload_n d_Planner_init_68 rfl ?_
  refine aw_bipush (v := nI 64) d_Planner_init_69 (by decide) ?_
  refine aw_newarray (N := 64) d_Planner_init_71 (by decide) (by decide) (by decide) ⟨by decide, by decide⟩ ?_
  refine aw_putF (k := 14) (fs' := [.int 0, .int 0, .int 0, .ref 36, .null, .int 0, .int 0, .int 0, .ref 37, .ref 38, .ref 39, .ref 40, .ref 41, .ref 45, .ref 46]) d_Planner_init_73 cl_Planner k_Planner_37 (by decide) rfl rfl rfl ⟨rfl, rfl⟩ rfl (Nat.le_of_ble_eq_true rfl) rfl ?_
  refine aw_return d_Planner_init_76 rfl ?_
  obtain ⟨a0, a1, a2, a3⟩ := q1
  exact ⟨rfl, rfl, ⟨rfl, ⟨_, f1 36 (by omega)⟩, ⟨_, f1 37 (by omega)⟩, ⟨_, f1 38 (by omega)⟩, ⟨_, f1 39 (by omega)⟩, ⟨_, f1 40 (by omega)⟩, a0, a1, a2, a3, ⟨_, rfl⟩, ⟨_, rfl⟩⟩, fun k hk => by simp only [ab_set]; repeat rw [if_neg (by omega)]; rw [f1 k (by omega)]; simp only [ab_set]; repeat rw [if_neg (by omega)]⟩
theorem pk_own : pk (fun k => k) = 181896 := by decide
theorem c_Days_init {h : ab_H} (h0 : h 47 = .inr (.inr (7, [.int 0, .int 0, .int 0, .null, .null]))) : ab_C Y_Days_init [.ref 47] 47 h (fun r m2 h2 => r = none ∧ m2 = 49 ∧ (h2 47 = oD false 0 0 ∧ rw_ h2 48 76 (fun k => mt_all.getD k 0) ∧ ra_ h2 49 76) ∧ ∀ k, (k < 47 ∨ 49 < k) → h2 k = h k) := by
  refine ab_C.of (L := [some (.ref 47)]) rfl rfl (Nat.le_of_ble_eq_true rfl) (fun l => ?_)
  refine aw_aload_n d_Days_init_0 rfl ?_
  refine aw_objinit d_Days_init_1 k_Days_3 ⟨by decide, Nat.le_of_ble_eq_true rfl⟩ ?_
  refine aw_aload_n d_Days_init_4 rfl ?_
  refine aw_bipush (v := nI 76) d_Days_init_5 (by decide) ?_
  refine aw_newarray (N := 76) d_Days_init_7 (by decide) (by decide) (by decide) ⟨by decide, by decide⟩ ?_
  refine aw_putF (k := 3) (fs' := [.int 0, .int 0, .int 0, .ref 48, .null]) d_Days_init_9 cl_Days k_Days_9 (by decide) rfl rfl rfl ⟨rfl, rfl⟩ h0 (Nat.le_of_ble_eq_true rfl) rfl ?_
  refine aw_aload_n d_Days_init_12 rfl ?_
  refine aw_bipush (v := nI 76) d_Days_init_13 (by decide) ?_
  refine aw_newarray (N := 76) d_Days_init_15 (by decide) (by decide) (by decide) ⟨by decide, by decide⟩ ?_
  refine aw_putF (k := 4) (fs' := [.int 0, .int 0, .int 0, .ref 48, .ref 49]) d_Days_init_17 cl_Days k_Days_15 (by decide) rfl rfl rfl ⟨rfl, rfl⟩ rfl (Nat.le_of_ble_eq_true rfl) rfl ?_
  refine aw_aload_n d_Days_init_20 rfl ?_
  refine aw_get (k := 3) d_Days_init_21 cl_Days k_Days_9 (by decide) rfl rfl ?_
  refine aw_iconst (v := nI 0) d_Days_init_24 (by decide) ?_
  refine aw_iconst (v := nI 0) d_Days_init_25 (by decide) ?_
  refine aw_ldc (v := nI 181896) d_Days_init_26 k_Days_20 ?_
  refine aw_s0 (Y' := Yg (5 + 4)) d_Days_init_28 k_Days_21 ok_Days_gather rfl ⟨rfl, rfl⟩ (c_gather 5 0 0 (fun k => k) (by omega) (fun k hk => hk) (by decide +kernel) rfl) rfl rfl (Nat.le_of_ble_eq_true rfl) (fun r1 m1 h1 q => ?_)
  obtain ⟨rfl, rfl, g, rfl, e1, e2⟩ := q
  show ab_W _ _ _ _ 31 _ [.int _] _ _ _
  refine aw_pop d_Days_init_31 rfl ?_
  refine aw_return d_Days_init_32 rfl ?_
  refine ⟨rfl, rfl, ⟨rfl, ⟨g, rfl, fun k hk => ?_⟩, ⟨_, rfl⟩⟩, fun k hk => by simp only [ab_set]; repeat rw [if_neg (by omega)]⟩
  have := e2 k (by rw [show (mg 5 0 (fun k => k)).length = 76 from mt_len]; exact hk)
  rw [Nat.zero_add] at this
  exact this
theorem NX.q {h : ab_H} {a : Nat} {N : NS} (p : NX h a N) : NXq h a := by
  obtain ⟨p0, ⟨_, p1, _⟩, ⟨_, p2, _⟩, ⟨_, p3, _⟩, ⟨_, p4, _⟩, ⟨_, p5, _⟩, ⟨_, p6, _⟩, ⟨_, p7, _⟩, ⟨_, p8, _⟩⟩ := p
  exact ⟨⟨_, _, _, _, _, _, _, _, _, p0⟩, ⟨_, p1⟩, ⟨_, p2⟩, ⟨_, p3⟩, ⟨_, p4⟩, ⟨_, p5⟩, ⟨_, p6⟩, ⟨_, p7⟩, ⟨_, p8⟩⟩
def S0 : SS := (N0, none, 0, fun _ => 0, fun _ => -1, fun _ => 0, fun _ _ => 0)
theorem c_Coat_init {V : VV} {h : ab_H} (h0 : h 1 = .inr (.inr (0, [.null, .null, .int 0, .null, .null, .null, .null, .null, .null, .null, .null, .null]))) : ab_C Y_Coat_init [.ref 1] 1 h (fun r m2 h2 => r = none ∧ m2 = 55 ∧ (PXn h2 S0 ∧ PXt h2 S0 ∧ PXs h2 S0 ∧ PXg h2 ∧ PXp V h2 N0 ∧ PXd V h2 N0 ∧ PXr V h2 N0 ∧ h2 54 = .inr (.inl (true, 8, fun _ => none)) ∧ ra_ h2 55 720) ∧ ∀ k, (k < 1 ∨ 55 < k) → h2 k = h k) := by
  refine ab_C.of (L := [some (.ref 1)]) rfl rfl (Nat.le_of_ble_eq_true rfl) (fun l => ?_)
  refine aw_aload_n d_Coat_init_0 rfl ?_
  refine aw_objinit d_Coat_init_1 k_Coat_1 ⟨by decide, Nat.le_of_ble_eq_true rfl⟩ ?_
  refine aw_aload_n d_Coat_init_4 rfl ?_
  refine aw_new (fs := [.int 0, .null, .null, .null, .null, .null, .int 0, .int 0, .int 0, .null, .null, .int 0, .int 0, .int 0, .int 0, .int 0, .null]) d_Coat_init_5 cl_Night ⟨k_Coat_7, ins_Night, ini_Night⟩ (by decide) (fun _ => rfl) ⟨by decide, by decide⟩ ?_
  refine aw_dup d_Coat_init_8 rfl ?_
  refine aw_invi d_Coat_init_9 k_Coat_9 ok_Night_init rfl rfl rfl (Nat.le_of_ble_eq_true rfl) ⟨Nat.le_of_ble_eq_true rfl, Nat.le_of_ble_eq_true rfl⟩ (c_Night_init_2 rfl) (fun r1 m1 h1 q => ?_)
  obtain ⟨rfl, rfl, q1, f1⟩ := q
  show ab_W _ _ _ _ 12 _ [.ref 2, .ref 1] _ _ _
  refine aw_putF (k := 0) (fs' := [.ref 2, .null, .int 0, .null, .null, .null, .null, .null, .null, .null, .null, .null]) d_Coat_init_12 cl_Coat k_Coat_10 (by decide) rfl rfl rfl ⟨rfl, rfl⟩ ((f1 1 (by omega)).trans h0) (Nat.le_of_ble_eq_true rfl) rfl ?_
  refine aw_aload_n d_Coat_init_15 rfl ?_
  refine aw_new (fs := [.int 0, .null, .null, .null, .null, .null, .int 0, .int 0, .int 0, .null, .null, .int 0, .int 0, .int 0, .int 0, .int 0, .null]) d_Coat_init_16 cl_Night ⟨k_Coat_7, ins_Night, ini_Night⟩ (by decide) (fun _ => rfl) ⟨by decide, by decide⟩ ?_
  refine aw_dup d_Coat_init_19 rfl ?_
  refine aw_invi d_Coat_init_20 k_Coat_9 ok_Night_init rfl rfl rfl (Nat.le_of_ble_eq_true rfl) ⟨Nat.le_of_ble_eq_true rfl, Nat.le_of_ble_eq_true rfl⟩ (c_Night_init_11 rfl) (fun r2 m2 h2 q => ?_)
  obtain ⟨rfl, rfl, q2, f2⟩ := q
  show ab_W _ _ _ _ 23 _ [.ref 11, .ref 1] _ _ _
  refine aw_putF (k := 1) (fs' := [.ref 2, .ref 11, .int 0, .null, .null, .null, .null, .null, .null, .null, .null, .null]) d_Coat_init_23 cl_Coat k_Coat_16 (by decide) rfl rfl rfl ⟨rfl, rfl⟩ (f2 1 (by omega)) (Nat.le_of_ble_eq_true rfl) rfl ?_
  refine aw_aload_n d_Coat_init_26 rfl ?_
  refine aw_new (fs := [.int 0, .int 0, .null, .null]) d_Coat_init_27 cl_Tape ⟨k_Coat_19, ins_Tape, ini_Tape⟩ (by decide) (fun _ => rfl) ⟨by decide, by decide⟩ ?_
  refine aw_dup d_Coat_init_30 rfl ?_
  refine aw_invn (host := "CoatRings") d_Coat_init_31 (by decide +kernel) ok_Tape_init rfl rfl rfl (Nat.le_of_ble_eq_true rfl) ⟨Nat.le_of_ble_eq_true rfl, Nat.le_of_ble_eq_true rfl⟩ (c_Tape_init rfl) (fun r3 m3 h3 q => ?_)
  obtain ⟨rfl, rfl, q3, f3⟩ := q
  show ab_W _ _ _ _ 34 _ [.ref 20, .ref 1] _ _ _
  refine aw_putF (k := 3) (fs' := [.ref 2, .ref 11, .int 0, .ref 20, .null, .null, .null, .null, .null, .null, .null, .null]) d_Coat_init_34 cl_Coat k_Coat_22 (by decide) rfl rfl rfl ⟨rfl, rfl⟩ (f3 1 (by omega)) (Nat.le_of_ble_eq_true rfl) rfl ?_
  refine aw_aload_n d_Coat_init_37 rfl ?_
  refine aw_new (fs := [.null, .null, .null]) d_Coat_init_38 cl_Sheets ⟨k_Coat_26, ins_Sheets, ini_Sheets⟩ (by decide) (fun _ => rfl) ⟨by decide, by decide⟩ ?_
  refine aw_dup d_Coat_init_41 rfl ?_
  refine aw_invi d_Coat_init_42 k_Coat_28 ok_Sheets_init rfl rfl rfl (Nat.le_of_ble_eq_true rfl) ⟨Nat.le_of_ble_eq_true rfl, Nat.le_of_ble_eq_true rfl⟩ (c_Sheets_init rfl) (fun r4 m4 h4 q => ?_)
  obtain ⟨rfl, rfl, q4, f4⟩ := q
  show ab_W _ _ _ _ 45 _ [.ref 23, .ref 1] _ _ _
  refine aw_putF (k := 4) (fs' := [.ref 2, .ref 11, .int 0, .ref 20, .ref 23, .null, .null, .null, .null, .null, .null, .null]) d_Coat_init_45 cl_Coat k_Coat_29 (by decide) rfl rfl rfl ⟨rfl, rfl⟩ (f4 1 (by omega)) (Nat.le_of_ble_eq_true rfl) rfl ?_
  refine aw_aload_n d_Coat_init_48 rfl ?_
  refine aw_bipush (v := nI 6) d_Coat_init_49 (by decide) ?_
  refine aw_newarray (N := 6) d_Coat_init_51 (by decide) (by decide) (by decide) ⟨by decide, by decide⟩ ?_
  refine aw_putF (k := 5) (fs' := [.ref 2, .ref 11, .int 0, .ref 20, .ref 23, .ref 31, .null, .null, .null, .null, .null, .null]) d_Coat_init_53 cl_Coat k_Coat_33 (by decide) rfl rfl rfl ⟨rfl, rfl⟩ rfl (Nat.le_of_ble_eq_true rfl) rfl ?_
  refine aw_aload_n d_Coat_init_56 rfl ?_
  refine aw_new (fs := [.null, .null]) d_Coat_init_57 cl_Givings ⟨k_Coat_37, ins_Givings, ini_Givings⟩ (by decide) (fun _ => rfl) ⟨by decide, by decide⟩ ?_
  refine aw_dup d_Coat_init_60 rfl ?_
  refine aw_invn (host := "CoatRings") d_Coat_init_61 (by decide +kernel) ok_Givings_init rfl rfl rfl (Nat.le_of_ble_eq_true rfl) ⟨Nat.le_of_ble_eq_true rfl, Nat.le_of_ble_eq_true rfl⟩ (c_Givings_init rfl) (fun r5 m5 h5 q => ?_)
  obtain ⟨rfl, rfl, q5, f5⟩ := q
  show ab_W _ _ _ _ 64 _ [.ref 32, .ref 1] _ _ _
  refine aw_putF (k := 6) (fs' := [.ref 2, .ref 11, .int 0, .ref 20, .ref 23, .ref 31, .ref 32, .null, .null, .null, .null, .null]) d_Coat_init_64 cl_Coat k_Coat_40 (by decide) rfl rfl rfl ⟨rfl, rfl⟩ (f5 1 (by omega)) (Nat.le_of_ble_eq_true rfl) rfl ?_
  refine aw_aload_n d_Coat_init_67 rfl ?_
  refine aw_new (fs := [.int 0, .int 0, .int 0, .null, .null, .int 0, .int 0, .int 0, .null, .null, .null, .null, .null, .null, .null]) d_Coat_init_68 cl_Planner ⟨k_Coat_44, ins_Planner, ini_Planner⟩ (by decide) (fun _ => rfl) ⟨by decide, by decide⟩ ?_
  refine aw_dup d_Coat_init_71 rfl ?_
  refine aw_invn (host := "CoatRings") d_Coat_init_72 (by decide +kernel) ok_Planner_init rfl rfl rfl (Nat.le_of_ble_eq_true rfl) ⟨Nat.le_of_ble_eq_true rfl, Nat.le_of_ble_eq_true rfl⟩ (c_Planner_init rfl) (fun r6 m6 h6 q => ?_)
  obtain ⟨rfl, rfl, q6, f6⟩ := q
  show ab_W _ _ _ _ 75 _ [.ref 35, .ref 1] _ _ _
  refine aw_putF (k := 7) (fs' := [.ref 2, .ref 11, .int 0, .ref 20, .ref 23, .ref 31, .ref 32, .ref 35, .null, .null, .null, .null]) d_Coat_init_75 cl_Coat k_Coat_47 (by decide) rfl rfl rfl ⟨rfl, rfl⟩ (f6 1 (by omega)) (Nat.le_of_ble_eq_true rfl) rfl ?_
  refine aw_aload_n d_Coat_init_78 rfl ?_
  refine aw_new (fs := [.int 0, .int 0, .int 0, .null, .null]) d_Coat_init_79 cl_Days ⟨k_Coat_51, ins_Days, ini_Days⟩ (by decide) (fun _ => rfl) ⟨by decide, by decide⟩ ?_
  refine aw_dup d_Coat_init_82 rfl ?_
  refine aw_invi d_Coat_init_83 k_Coat_53 ok_Days_init rfl rfl rfl (Nat.le_of_ble_eq_true rfl) ⟨Nat.le_of_ble_eq_true rfl, Nat.le_of_ble_eq_true rfl⟩ (c_Days_init rfl) (fun r7 m7 h7 q => ?_)
  obtain ⟨rfl, rfl, q7, f7⟩ := q
  show ab_W _ _ _ _ 86 _ [.ref 47, .ref 1] _ _ _
  refine aw_putF (k := 8) (fs' := [.ref 2, .ref 11, .int 0, .ref 20, .ref 23, .ref 31, .ref 32, .ref 35, .ref 47, .null, .null, .null]) d_Coat_init_86 cl_Coat k_Coat_54 (by decide) rfl rfl rfl ⟨rfl, rfl⟩ (f7 1 (by omega)) (Nat.le_of_ble_eq_true rfl) rfl ?_
  refine aw_aload_n d_Coat_init_89 rfl ?_
  refine aw_new (fs := [.int 0, .int 0, .int 0, .null, .null, .null]) d_Coat_init_90 cl_Rail ⟨k_Coat_58, ins_Rail, ini_Rail⟩ (by decide) (fun _ => rfl) ⟨by decide, by decide⟩ ?_
  refine aw_dup d_Coat_init_93 rfl ?_
  refine aw_invn (host := "CoatRings") d_Coat_init_94 (by decide +kernel) ok_Rail_init rfl rfl rfl (Nat.le_of_ble_eq_true rfl) ⟨Nat.le_of_ble_eq_true rfl, Nat.le_of_ble_eq_true rfl⟩ (c_Rail_init rfl) (fun r8 m8 h8 q => ?_)
  obtain ⟨rfl, rfl, q8, f8⟩ := q
  show ab_W _ _ _ _ 97 _ [.ref 50, .ref 1] _ _ _
  refine aw_putF (k := 9) (fs' := [.ref 2, .ref 11, .int 0, .ref 20, .ref 23, .ref 31, .ref 32, .ref 35, .ref 47, .ref 50, .null, .null]) d_Coat_init_97 cl_Coat k_Coat_61 (by decide) rfl rfl rfl ⟨rfl, rfl⟩ (f8 1 (by omega)) (Nat.le_of_ble_eq_true rfl) rfl ?_
  refine aw_aload_n d_Coat_init_100 rfl ?_
  refine aw_bipush (v := nI 8) d_Coat_init_101 (by decide) ?_
  refine aw_anewarray (N := 8) d_Coat_init_103 k_Coat_65 (by decide) (by decide) (by decide) ⟨by decide, by decide⟩ ?_
  refine aw_putF (k := 10) (fs' := [.ref 2, .ref 11, .int 0, .ref 20, .ref 23, .ref 31, .ref 32, .ref 35, .ref 47, .ref 50, .ref 54, .null]) d_Coat_init_106 cl_Coat k_Coat_67 (by decide) rfl rfl rfl ⟨rfl, rfl⟩ rfl (Nat.le_of_ble_eq_true rfl) rfl ?_
  refine aw_aload_n d_Coat_init_109 rfl ?_
  refine aw_sipush (v := nI 720) d_Coat_init_110 (by decide) ?_
  refine aw_newarray (N := 720) d_Coat_init_113 (by decide) (by decide) (by decide) ⟨by decide, by decide⟩ ?_
  refine aw_putF (k := 11) (fs' := [.ref 2, .ref 11, .int 0, .ref 20, .ref 23, .ref 31, .ref 32, .ref 35, .ref 47, .ref 50, .ref 54, .ref 55]) d_Coat_init_115 cl_Coat k_Coat_71 (by decide) rfl rfl rfl ⟨rfl, rfl⟩ rfl (Nat.le_of_ble_eq_true rfl) rfl ?_
  refine aw_return d_Coat_init_118 rfl ?_
  obtain ⟨t0, ⟨tg, t1⟩, t2⟩ := q3
  obtain ⟨s0, s1, s2, s3, s4⟩ := q4
  obtain ⟨i0, i1, i2⟩ := q5
  obtain ⟨p0, ⟨pg, p1⟩, p2, p3, p4, p5, p6, p7, p8, p9, p10, p11⟩ := q6
  obtain ⟨d0, d1, d2⟩ := q7
  obtain ⟨r0, ⟨rg, r1⟩, r2, r3⟩ := q8
  suffices H : ∀ hf : ab_H, hf 1 = oO false → hf 54 = .inr (.inl (true, 8, fun _ => none)) → ra_ hf 55 720 → (∀ k, k ≠ 1 → k ≠ 54 → k ≠ 55 → hf k = h8 k) → ((none : Option Value) = none ∧ 55 = 55 ∧ (PXn hf S0 ∧ PXt hf S0 ∧ PXs hf S0 ∧ PXg hf ∧ PXp V hf N0 ∧ PXd V hf N0 ∧ PXr V hf N0 ∧ hf 54 = .inr (.inl (true, 8, fun _ => none)) ∧ ra_ hf 55 720) ∧ ∀ k, (k < 1 ∨ 55 < k) → hf k = h k) from H _ rfl rfl ⟨_, rfl⟩ (fun k a b c => by simp only [ab_set]; rw [if_neg a, if_neg c, if_neg a, if_neg b, if_neg a])
  intro hf u1 u54 u55 f9
  have k3 : ∀ k, 20 ≤ k → k ≤ 22 → hf k = h3 k := (fun k k1 k2 => by have h9 : 20 ≤ k ∧ k ≤ 22 := ⟨k1, k2⟩; rw [f9 k (by omega) (by omega) (by omega)]; rw [f8 k (by omega)]; simp only [ab_set]; (repeat rw [if_neg (by omega)]); rw [f7 k (by omega)]; simp only [ab_set]; (repeat rw [if_neg (by omega)]); rw [f6 k (by omega)]; simp only [ab_set]; (repeat rw [if_neg (by omega)]); rw [f5 k (by omega)]; simp only [ab_set]; (repeat rw [if_neg (by omega)]); rw [f4 k (by omega)]; simp only [ab_set]; (repeat rw [if_neg (by omega)]))
  have k4 : ∀ k, 23 ≤ k → k ≤ 30 → hf k = h4 k := (fun k k1 k2 => by have h9 : 23 ≤ k ∧ k ≤ 30 := ⟨k1, k2⟩; rw [f9 k (by omega) (by omega) (by omega)]; rw [f8 k (by omega)]; simp only [ab_set]; (repeat rw [if_neg (by omega)]); rw [f7 k (by omega)]; simp only [ab_set]; (repeat rw [if_neg (by omega)]); rw [f6 k (by omega)]; simp only [ab_set]; (repeat rw [if_neg (by omega)]); rw [f5 k (by omega)]; simp only [ab_set]; (repeat rw [if_neg (by omega)]))
  have k5 : ∀ k, 32 ≤ k → k ≤ 34 → hf k = h5 k := (fun k k1 k2 => by have h9 : 32 ≤ k ∧ k ≤ 34 := ⟨k1, k2⟩; rw [f9 k (by omega) (by omega) (by omega)]; rw [f8 k (by omega)]; simp only [ab_set]; (repeat rw [if_neg (by omega)]); rw [f7 k (by omega)]; simp only [ab_set]; (repeat rw [if_neg (by omega)]); rw [f6 k (by omega)]; simp only [ab_set]; (repeat rw [if_neg (by omega)]))
  have k6 : ∀ k, 35 ≤ k → k ≤ 46 → hf k = h6 k := (fun k k1 k2 => by have h9 : 35 ≤ k ∧ k ≤ 46 := ⟨k1, k2⟩; rw [f9 k (by omega) (by omega) (by omega)]; rw [f8 k (by omega)]; simp only [ab_set]; (repeat rw [if_neg (by omega)]); rw [f7 k (by omega)]; simp only [ab_set]; (repeat rw [if_neg (by omega)]))
  have k7 : ∀ k, 47 ≤ k → k ≤ 49 → hf k = h7 k := (fun k k1 k2 => by have h9 : 47 ≤ k ∧ k ≤ 49 := ⟨k1, k2⟩; rw [f9 k (by omega) (by omega) (by omega)]; rw [f8 k (by omega)]; simp only [ab_set]; (repeat rw [if_neg (by omega)]))
  have k8 : ∀ k, 50 ≤ k → k ≤ 53 → hf k = h8 k := (fun k k1 k2 => by have h9 : 50 ≤ k ∧ k ≤ 53 := ⟨k1, k2⟩; rw [f9 k (by omega) (by omega) (by omega)])
  have k31 : hf 31 = _ := (f9 31 (by omega) (by omega) (by omega)).trans ((f8 31 (by omega)).trans ((f7 31 (by omega)).trans ((f6 31 (by omega)).trans (f5 31 (by omega)))))
  refine ⟨rfl, rfl, ⟨⟨u1, q1.fr (fun k k1 k2 => by have h9 : 2 ≤ k ∧ k ≤ 10 := ⟨k1, k2⟩; rw [f9 k (by omega) (by omega) (by omega)]; rw [f8 k (by omega)]; simp only [ab_set]; (repeat rw [if_neg (by omega)]); rw [f7 k (by omega)]; simp only [ab_set]; (repeat rw [if_neg (by omega)]); rw [f6 k (by omega)]; simp only [ab_set]; (repeat rw [if_neg (by omega)]); rw [f5 k (by omega)]; simp only [ab_set]; (repeat rw [if_neg (by omega)]); rw [f4 k (by omega)]; simp only [ab_set]; (repeat rw [if_neg (by omega)]); rw [f3 k (by omega)]; simp only [ab_set]; (repeat rw [if_neg (by omega)]); rw [f2 k (by omega)]; simp only [ab_set]; (repeat rw [if_neg (by omega)])), (q2.fr (fun k k1 k2 => by have h9 : 11 ≤ k ∧ k ≤ 19 := ⟨k1, k2⟩; rw [f9 k (by omega) (by omega) (by omega)]; rw [f8 k (by omega)]; simp only [ab_set]; (repeat rw [if_neg (by omega)]); rw [f7 k (by omega)]; simp only [ab_set]; (repeat rw [if_neg (by omega)]); rw [f6 k (by omega)]; simp only [ab_set]; (repeat rw [if_neg (by omega)]); rw [f5 k (by omega)]; simp only [ab_set]; (repeat rw [if_neg (by omega)]); rw [f4 k (by omega)]; simp only [ab_set]; (repeat rw [if_neg (by omega)]); rw [f3 k (by omega)]; simp only [ab_set]; (repeat rw [if_neg (by omega)]))).q⟩, ⟨⟨0, (k3 20 (by omega) (by omega)).trans t0⟩, ⟨tg, (k3 21 (by omega) (by omega)).trans t1, fun k hk => absurd hk (Nat.not_lt_zero _)⟩, t2.fr (k3 22 (by omega) (by omega))⟩,
    ⟨(k4 23 (by omega) (by omega)).trans s0, (k4 24 (by omega) (by omega)).trans s1, fun s hs => ex_.fr (k4 (25 + s) (by omega) (by omega)) (s2 s hs), ex_.fr (k4 29 (by omega) (by omega)) s3, ex_.fr (k4 30 (by omega) (by omega)) s4⟩,
    ⟨⟨_, k31⟩, (k5 32 (by omega) (by omega)).trans i0, i1.fr (k5 33 (by omega) (by omega)), i2.fr (k5 34 (by omega) (by omega))⟩,
    ⟨false, 0, 0, .null, 0, 0, 0, 0, pg, (k6 35 (by omega) (by omega)).trans p0, Or.inl rfl, (k6 36 (by omega) (by omega)).trans p1, p2.fr (k6 37 (by omega) (by omega)), p3.fr (k6 38 (by omega) (by omega)), p4.fr (k6 39 (by omega) (by omega)), p5.fr (k6 40 (by omega) (by omega)), (k6 41 (by omega) (by omega)).trans p6, p7.fr (k6 42 (by omega) (by omega)), p8.fr (k6 43 (by omega) (by omega)), p9.fr (k6 44 (by omega) (by omega)), p10.fr (k6 45 (by omega) (by omega)), p11.fr (k6 46 (by omega) (by omega)), fun z => by cases z⟩,
    ⟨false, 0, 0, (k7 47 (by omega) (by omega)).trans d0, d1.fr (k7 48 (by omega) (by omega)), d2.fr (k7 49 (by omega) (by omega)), fun z => by cases z⟩,
    ⟨false, 0, 0, rg, (k8 50 (by omega) (by omega)).trans r0, (k8 51 (by omega) (by omega)).trans r1, r2.fr (k8 52 (by omega) (by omega)), r3.fr (k8 53 (by omega) (by omega)), fun z => by cases z⟩, u54, u55⟩, fun k hk => by rw [f9 k (by omega) (by omega) (by omega)]; rw [f8 k (by omega)]; simp only [ab_set]; (repeat rw [if_neg (by omega)]); rw [f7 k (by omega)]; simp only [ab_set]; (repeat rw [if_neg (by omega)]); rw [f6 k (by omega)]; simp only [ab_set]; (repeat rw [if_neg (by omega)]); rw [f5 k (by omega)]; simp only [ab_set]; (repeat rw [if_neg (by omega)]); rw [f4 k (by omega)]; simp only [ab_set]; (repeat rw [if_neg (by omega)]); rw [f3 k (by omega)]; simp only [ab_set]; (repeat rw [if_neg (by omega)]); rw [f2 k (by omega)]; simp only [ab_set]; (repeat rw [if_neg (by omega)]); rw [f1 k (by omega)]; simp only [ab_set]; (repeat rw [if_neg (by omega)])⟩
