/-! sets of people in one number; rows of six different numbers -/
theorem sh5 : ∀ k, k < 32 → ((nI k &&& 31).toBitVec.smod 32).toNat = k := by decide +kernel
theorem b_shr {s p : Nat} (hs : s < 2 ^ 31) (hp : p < 32) : nI s >>> (nI p &&& 31) = nI (s / 2 ^ p) := pk_shrN hs _ _ (sh5 p hp)
theorem b_at {s p : Nat} (hs : s < 2 ^ 31) (hp : p < 32) : nI s >>> (nI p &&& 31) &&& nI 1 = nI (s / 2 ^ p % 2) := by
  rw [b_shr hs hp]
  exact fa_mask _ 1
theorem b_shl {a p : Nat} (hp : p < 32) (h : a * 2 ^ p < 2 ^ 32) : nI a <<< (nI p &&& 31) = nI (a * 2 ^ p) := pk_shlN _ _ (sh5 p hp) h
theorem b_one {p : Nat} (hp : p < 32) : nI 1 <<< (nI p &&& 31) = nI (2 ^ p) := by
  rw [b_shl hp (by rw [Nat.one_mul]; exact Nat.pow_lt_pow_right (by decide) hp), Nat.one_mul]
theorem b_01 (s p : Nat) : s / 2 ^ p % 2 = 0 ∨ s / 2 ^ p % 2 = 1 := by omega
theorem b_z {s p : Nat} : nI (s / 2 ^ p % 2) = 0 ↔ ¬ s / 2 ^ p % 2 = 1 := by
  rcases b_01 s p with e | e <;> rw [e] <;> decide
theorem b_nz {s p : Nat} : ¬ nI (s / 2 ^ p % 2) = 0 ↔ s / 2 ^ p % 2 = 1 := by
  rcases b_01 s p with e | e <;> rw [e] <;> decide
theorem b_or {a b k : Nat} (ha : a < 2 ^ k) (hb : b < 2 ^ k) : a ||| b < 2 ^ k := Nat.or_lt_two_pow ha hb
theorem p6_lt {p : Nat} (hp : p < 6) : 2 ^ p < 2 ^ 6 := Nat.pow_lt_pow_right (by decide) hp
/-- how many are in a set -/
def pop (s : Nat) : Nat := s % 2 + s / 2 % 2 + s / 4 % 2 + s / 8 % 2 + s / 16 % 2 + s / 32 % 2
/-- the least of a set -/
def tz (s : Nat) : Nat := if s % 2 = 1 then 0 else if s / 2 % 2 = 1 then 1 else if s / 4 % 2 = 1 then 2 else if s / 8 % 2 = 1 then 3 else if s / 16 % 2 = 1 then 4 else if s / 32 % 2 = 1 then 5 else 32
theorem tz_lt (s : Nat) : tz s < 2 ^ 31 := by
  unfold tz
  repeat' split
  all_goals decide
def pf (a b c d e f : Nat) : Nat → Nat := fun k => if k = 0 then a else if k = 1 then b else if k = 2 then c else if k = 3 then d else if k = 4 then e else if k = 5 then f else k
/-- a row of six different numbers -/
def Pm (t : Nat → Nat) : Prop := (∀ k, k < 6 → t k < 6) ∧ (∀ i j, i < 6 → j < 6 → t i = t j → i = j) ∧ ∀ k, 6 ≤ k → t k = k
theorem Pm.pf {t : Nat → Nat} (h : Pm t) : t = pf (t 0) (t 1) (t 2) (t 3) (t 4) (t 5) := by
  funext k
  match k with
  | 0 => rfl
  | 1 => rfl
  | 2 => rfl
  | 3 => rfl
  | 4 => rfl
  | 5 => rfl
  | k + 6 =>
    rw [h.2.2 (k + 6) (by omega)]
    show k + 6 = if k + 6 = 0 then _ else _
    simp
/-- all of them -/
def pl6 : List (Nat → Nat) := (List.range 6).flatMap fun a => ((List.range 6).filter (fun b => b != a)).flatMap fun b => ((List.range 6).filter (fun c => c != a && c != b)).flatMap fun c => ((List.range 6).filter (fun d => d != a && d != b && d != c)).flatMap fun d => ((List.range 6).filter (fun e => e != a && e != b && e != c && e != d)).flatMap fun e => ((List.range 6).filter (fun f => f != a && f != b && f != c && f != d && f != e)).map fun f => pf a b c d e f
theorem Pm.ne {t : Nat → Nat} (h : Pm t) {i j : Nat} (hi : i < 6) (hj : j < 6) (hij : i ≠ j) : t i ≠ t j := fun e => hij (h.2.1 i j hi hj e)
theorem Pm.mem {t : Nat → Nat} (h : Pm t) : t ∈ pl6 := by
  rw [h.pf]
  have l := h.1
  have n := fun i j (hi : i < 6) (hj : j < 6) (hij : i ≠ j) => h.ne hi hj hij
  simp only [pl6, List.mem_flatMap, List.mem_map, List.mem_filter, List.mem_range, bne_iff_ne, Bool.and_eq_true, ne_eq]
  refine ⟨t 0, l 0 (by decide), t 1, ⟨l 1 (by decide), ?_⟩, t 2, ⟨l 2 (by decide), ?_⟩, t 3, ⟨l 3 (by decide), ?_⟩, t 4, ⟨l 4 (by decide), ?_⟩, t 5, ⟨l 5 (by decide), ?_⟩, rfl⟩
  · exact n 1 0 (by decide) (by decide) (by decide)
  · exact ⟨n 2 0 (by decide) (by decide) (by decide), n 2 1 (by decide) (by decide) (by decide)⟩
  · exact ⟨⟨n 3 0 (by decide) (by decide) (by decide), n 3 1 (by decide) (by decide) (by decide)⟩, n 3 2 (by decide) (by decide) (by decide)⟩
  · exact ⟨⟨⟨n 4 0 (by decide) (by decide) (by decide), n 4 1 (by decide) (by decide) (by decide)⟩, n 4 2 (by decide) (by decide) (by decide)⟩, n 4 3 (by decide) (by decide) (by decide)⟩
  · exact ⟨⟨⟨⟨n 5 0 (by decide) (by decide) (by decide), n 5 1 (by decide) (by decide) (by decide)⟩, n 5 2 (by decide) (by decide) (by decide)⟩, n 5 3 (by decide) (by decide) (by decide)⟩, n 5 4 (by decide) (by decide) (by decide)⟩
/-- what a look at all of them shows -/
theorem Pm.all {P : (Nat → Nat) → Bool} (h : pl6.all P = true) {t : Nat → Nat} (ht : Pm t) : P t = true := List.all_eq_true.mp h t ht.mem
theorem N_ok.pm {N : NS} (h : N_ok N) : Pm (N_t N) := ⟨h.2.1, h.2.2.2.1, fun k hk => h.2.2.1 k (Nat.le_trans h.1 hk)⟩
theorem Pm.in {t : Nat → Nat} (h : Pm t) {n : Nat} (hn : n ≤ 6) (hf : ∀ k, n ≤ k → t k = k) {k : Nat} (hk : k < n) : t k < n := by
  refine Nat.not_le.mp fun q => ?_
  have e := hf _ q
  have h6 := h.1 k (by omega)
  have := h.2.1 _ _ h6 (by omega) e
  omega
theorem Pm.lt8 {t : Nat → Nat} (h : Pm t) : ∀ k, k < 6 → t k < 8 := fun k hk => Nat.lt_trans (h.1 k hk) (by decide)
/-- the ring of one, as it is gone round -/
def rgo (t : Nat → Nat) (a : Nat) : Nat → Nat → Nat → Nat
  | 0, _, acc => acc
  | f + 1, p, acc => if p = a then acc else rgo t a f (t p) (acc ||| 2 ^ p)
def rg (t : Nat → Nat) (a : Nat) : Nat := rgo t a 5 (t a) (2 ^ a)
def rno (t : Nat → Nat) (a : Nat) : Nat → Nat → Nat → Nat → Nat × Nat
  | 0, _, le, n => (le, n)
  | f + 1, o, le, n => if o = a then (le, n) else rno t a f (t o) (if o < le then o else le) (n + 1)
def rch (t : Nat → Nat) (a : Nat) : Nat → Nat → Bool
  | 0, o => o == a
  | f + 1, o => o == a || rch t a f (t o)
theorem rg_all : pl6.all (fun t => (List.range 6).all (fun a => rch t a 5 (t a) && (rno t a 5 (t a) a 1 == (tz (rg t a), pop (rg t a))) && decide (rg t a < 64) && decide (rg t a / 2 ^ a % 2 = 1))) = true := by decide +kernel
theorem rg_t {t : Nat → Nat} (ht : Pm t) {a : Nat} (ha : a < 6) : rch t a 5 (t a) = true ∧ rno t a 5 (t a) a 1 = (tz (rg t a), pop (rg t a)) ∧ rg t a < 64 ∧ rg t a / 2 ^ a % 2 = 1 := by
  have h := List.all_eq_true.mp (ht.all rg_all) a (List.mem_range.mpr ha)
  simp only [Bool.and_eq_true, beq_iff_eq, decide_eq_true_eq] at h
  exact ⟨h.1.1.1, h.1.1.2, h.1.2, h.2⟩
theorem c_bitCount {m : Nat} {h : ab_H} (s : Nat) (hs : s < 64) : ab_D Y_JI_bitCount [.int (nI s)] m h (some (.int (nI (pop s)))) m (h) := by
  refine ab_C.of (L := [some (.int (nI s))]) rfl rfl (Nat.le_of_ble_eq_true rfl) (fun l => ?_)
  refine aw_iload_n d_JI_bitCount_0 rfl ?_
  refine aw_iload_n d_JI_bitCount_1 rfl ?_
  refine aw_iconst (v := nI 1) d_JI_bitCount_2 (by decide) ?_
  refine aw_iushr d_JI_bitCount_3 ?_
  refine aw_ldc_w (v := nI 1431655765) d_JI_bitCount_4 k_JI_265 ?_
  refine aw_iand d_JI_bitCount_7 ?_
  refine aw_isub d_JI_bitCount_8 ?_
  refine aw_topi (fun v9 ev9 => ?_)
  refine aw_istore_n (L' := [some (.int v9)]) d_JI_bitCount_9 ⟨by decide, rfl⟩ rfl ?_
  refine aw_iload_n d_JI_bitCount_10 rfl ?_
  refine aw_ldc_w (v := nI 858993459) d_JI_bitCount_11 k_JI_266 ?_
  refine aw_iand d_JI_bitCount_14 ?_
  refine aw_iload_n d_JI_bitCount_15 rfl ?_
  refine aw_iconst (v := nI 2) d_JI_bitCount_16 (by decide) ?_
  refine aw_iushr d_JI_bitCount_17 ?_
  refine aw_ldc_w (v := nI 858993459) d_JI_bitCount_18 k_JI_266 ?_
  refine aw_iand d_JI_bitCount_21 ?_
  refine aw_iadd d_JI_bitCount_22 ?_
  refine aw_topi (fun v23 ev23 => ?_)
  refine aw_istore_n (L' := [some (.int v23)]) d_JI_bitCount_23 ⟨by decide, rfl⟩ rfl ?_
  refine aw_iload_n d_JI_bitCount_24 rfl ?_
  refine aw_iload_n d_JI_bitCount_25 rfl ?_
  refine aw_iconst (v := nI 4) d_JI_bitCount_26 (by decide) ?_
  refine aw_iushr d_JI_bitCount_27 ?_
  refine aw_iadd d_JI_bitCount_28 ?_
  refine aw_ldc_w (v := nI 252645135) d_JI_bitCount_29 k_JI_267 ?_
  refine aw_iand d_JI_bitCount_32 ?_
  refine aw_topi (fun v33 ev33 => ?_)
  refine aw_istore_n (L' := [some (.int v33)]) d_JI_bitCount_33 ⟨by decide, rfl⟩ rfl ?_
  refine aw_iload_n d_JI_bitCount_34 rfl ?_
  refine aw_iload_n d_JI_bitCount_35 rfl ?_
  refine aw_bipush (v := nI 8) d_JI_bitCount_36 (by decide) ?_
  refine aw_iushr d_JI_bitCount_38 ?_
  refine aw_iadd d_JI_bitCount_39 ?_
  refine aw_topi (fun v40 ev40 => ?_)
  refine aw_istore_n (L' := [some (.int v40)]) d_JI_bitCount_40 ⟨by decide, rfl⟩ rfl ?_
  refine aw_iload_n d_JI_bitCount_41 rfl ?_
  refine aw_iload_n d_JI_bitCount_42 rfl ?_
  refine aw_bipush (v := nI 16) d_JI_bitCount_43 (by decide) ?_
  refine aw_iushr d_JI_bitCount_45 ?_
  refine aw_iadd d_JI_bitCount_46 ?_
  refine aw_topi (fun v47 ev47 => ?_)
  refine aw_istore_n (L' := [some (.int v47)]) d_JI_bitCount_47 ⟨by decide, rfl⟩ rfl ?_
  refine aw_iload_n d_JI_bitCount_48 rfl ?_
  refine aw_bipush (v := nI 63) d_JI_bitCount_49 (by decide) ?_
  refine aw_iand d_JI_bitCount_51 ?_
  refine aw_ireturn d_JI_bitCount_52 rfl rfl ?_
  refine ⟨congrArg (fun z => some (Value.int z)) ?_, rfl, rfl⟩
  subst ev47 ev40 ev33 ev23 ev9
  clear l h m
  revert s
  decide +kernel
theorem tz_v : ∀ s, s < 64 → (0 < (nI s ^^^ (-1)) &&& (nI s - nI 1) ∨ tz s = 0 ∧ ((nI s ^^^ (-1)) &&& (nI s - nI 1)) &&& nI 32 = nI 0 ∨ tz s = 32 ∧ ((nI s ^^^ (-1)) &&& (nI s - nI 1)) &&& nI 32 = nI 32) := by decide +kernel
theorem tz_w : ∀ s, s < 64 → (¬ 0 < (nI s ^^^ (-1)) &&& (nI s - nI 1)) ∨ ((0 < tz s ∧ tz s < 6) ∧ (nI s ^^^ (-1)) &&& (nI s - nI 1) = nI (2 ^ tz s - 1)) := by decide +kernel
theorem c_ntz {m : Nat} {h : ab_H} (s : Nat) (hs : s < 64) : ab_D Y_JI_numberOfTrailingZeros [.int (nI s)] m h (some (.int (nI (tz s)))) m (h) := by
  refine ab_C.of (L := [some (.int (nI s)), none]) rfl rfl (Nat.le_of_ble_eq_true rfl) (fun l => ?_)
  refine aw_iload_n d_JI_numberOfTrailingZeros_0 rfl ?_
  refine aw_iconst (v := (-1)) d_JI_numberOfTrailingZeros_1 (by decide) ?_
  refine aw_ixor d_JI_numberOfTrailingZeros_2 ?_
  refine aw_iload_n d_JI_numberOfTrailingZeros_3 rfl ?_
  refine aw_iconst (v := nI 1) d_JI_numberOfTrailingZeros_4 (by decide) ?_
  refine aw_isub d_JI_numberOfTrailingZeros_5 ?_
  refine aw_iand d_JI_numberOfTrailingZeros_6 ?_
  refine aw_topi (fun v7 ev7 => ?_)
  refine aw_istore_n (L' := [some (.int v7), none]) d_JI_numberOfTrailingZeros_7 ⟨by decide, rfl⟩ rfl ?_
  refine aw_iload_n d_JI_numberOfTrailingZeros_8 rfl ?_
  refine aw_if_gt (tgt := 17) d_JI_numberOfTrailingZeros_9 (by decide) (fun c9 => ?_) (fun c9 => ?_)
  · rw [ev7] at c9
    rcases tz_w s hs with hz | ⟨hz, hv⟩
    · exact absurd c9 hz
    rw [hv] at ev7
    generalize tz s = z at hz ev7 ⊢
    clear c9 hv
    have kz : v7 ≤ nI 65536 ∧ v7 ≤ nI 256 := by
      rw [ev7]
      have hz2 := hz.2
      clear hz ev7
      revert z
      decide +kernel
    refine aw_iconst (v := nI 1) d_JI_numberOfTrailingZeros_17 (by decide) ?_
    refine aw_istore_n (L' := [some (.int v7), some (.int (nI 1))]) d_JI_numberOfTrailingZeros_18 ⟨by decide, rfl⟩ rfl ?_
    refine aw_iload_n d_JI_numberOfTrailingZeros_19 rfl ?_
    refine aw_ldc_w (v := nI 65536) d_JI_numberOfTrailingZeros_20 k_JI_264 ?_
    refine aw_icmp_le (tgt := 34) d_JI_numberOfTrailingZeros_23 (by decide) (fun c23 => ?_) (fun c23 => ?_)
    · refine aw_iload_n d_JI_numberOfTrailingZeros_34 rfl ?_
      refine aw_sipush (v := nI 256) d_JI_numberOfTrailingZeros_35 (by decide) ?_
      refine aw_icmp_le (tgt := 49) d_JI_numberOfTrailingZeros_38 (by decide) (fun c38 => ?_) (fun c38 => ?_)
      · refine aw_iload_n d_JI_numberOfTrailingZeros_49 rfl ?_
        refine aw_bipush (v := nI 16) d_JI_numberOfTrailingZeros_50 (by decide) ?_
        refine aw_icmp_le (tgt := 62) d_JI_numberOfTrailingZeros_52 (by decide) (fun c52 => ?_) (fun c52 => ?_)
        · refine aw_iload_n d_JI_numberOfTrailingZeros_62 rfl ?_
          refine aw_iconst (v := nI 4) d_JI_numberOfTrailingZeros_63 (by decide) ?_
          refine aw_icmp_le (tgt := 74) d_JI_numberOfTrailingZeros_64 (by decide) (fun c64 => ?_) (fun c64 => ?_)
          · refine aw_iload_n d_JI_numberOfTrailingZeros_74 rfl ?_
            refine aw_iload_n d_JI_numberOfTrailingZeros_75 rfl ?_
            refine aw_iconst (v := nI 1) d_JI_numberOfTrailingZeros_76 (by decide) ?_
            refine aw_iushr d_JI_numberOfTrailingZeros_77 ?_
            refine aw_iadd d_JI_numberOfTrailingZeros_78 ?_
            refine aw_ireturn d_JI_numberOfTrailingZeros_79 rfl rfl ?_
            refine ⟨congrArg (fun z => some (Value.int z)) ?_, rfl, rfl⟩
            clear kz c23 c38
            subst_vars
            match z, hz with
            | 0, hz => exact absurd hz.1 (by decide)
            | 1, _ => first | exact absurd c52 (by decide) | exact absurd c64 (by decide) | decide
            | 2, _ => first | exact absurd c52 (by decide) | exact absurd c64 (by decide) | decide
            | 3, _ => first | exact absurd c52 (by decide) | exact absurd c64 (by decide) | decide
            | 4, _ => first | exact absurd c52 (by decide) | exact absurd c64 (by decide) | decide
            | 5, _ => first | exact absurd c52 (by decide) | exact absurd c64 (by decide) | decide
            | z + 6, hz => exact absurd hz.2 (by omega)
          · obtain ⟨v67, ev67⟩ : ∃ z : Int32, z = nI 1 + Int32.ofInt (2) := ⟨_, rfl⟩
            refine aw_iinc (v := v67) (L' := [some (.int v7), some (.int v67)]) d_JI_numberOfTrailingZeros_67 rfl ev67.symm ⟨by decide, rfl⟩ rfl ?_
            refine aw_iload_n d_JI_numberOfTrailingZeros_70 rfl ?_
            refine aw_iconst (v := nI 2) d_JI_numberOfTrailingZeros_71 (by decide) ?_
            refine aw_iushr d_JI_numberOfTrailingZeros_72 ?_
            refine aw_topi (fun v73 ev73 => ?_)
            refine aw_istore_n (L' := [some (.int v73), some (.int v67)]) d_JI_numberOfTrailingZeros_73 ⟨by decide, rfl⟩ rfl ?_
            refine aw_iload_n d_JI_numberOfTrailingZeros_74 rfl ?_
            refine aw_iload_n d_JI_numberOfTrailingZeros_75 rfl ?_
            refine aw_iconst (v := nI 1) d_JI_numberOfTrailingZeros_76 (by decide) ?_
            refine aw_iushr d_JI_numberOfTrailingZeros_77 ?_
            refine aw_iadd d_JI_numberOfTrailingZeros_78 ?_
            refine aw_ireturn d_JI_numberOfTrailingZeros_79 rfl rfl ?_
            refine ⟨congrArg (fun z => some (Value.int z)) ?_, rfl, rfl⟩
            clear kz c23 c38
            subst_vars
            match z, hz with
            | 0, hz => exact absurd hz.1 (by decide)
            | 1, _ => first | exact absurd c52 (by decide) | exact absurd c64 (by decide) | decide
            | 2, _ => first | exact absurd c52 (by decide) | exact absurd c64 (by decide) | decide
            | 3, _ => first | exact absurd c52 (by decide) | exact absurd c64 (by decide) | decide
            | 4, _ => first | exact absurd c52 (by decide) | exact absurd c64 (by decide) | decide
            | 5, _ => first | exact absurd c52 (by decide) | exact absurd c64 (by decide) | decide
            | z + 6, hz => exact absurd hz.2 (by omega)
        · obtain ⟨v55, ev55⟩ : ∃ z : Int32, z = nI 1 + Int32.ofInt (4) := ⟨_, rfl⟩
          refine aw_iinc (v := v55) (L' := [some (.int v7), some (.int v55)]) d_JI_numberOfTrailingZeros_55 rfl ev55.symm ⟨by decide, rfl⟩ rfl ?_
          refine aw_iload_n d_JI_numberOfTrailingZeros_58 rfl ?_
          refine aw_iconst (v := nI 4) d_JI_numberOfTrailingZeros_59 (by decide) ?_
          refine aw_iushr d_JI_numberOfTrailingZeros_60 ?_
          refine aw_topi (fun v61 ev61 => ?_)
          refine aw_istore_n (L' := [some (.int v61), some (.int v55)]) d_JI_numberOfTrailingZeros_61 ⟨by decide, rfl⟩ rfl ?_
          refine aw_iload_n d_JI_numberOfTrailingZeros_62 rfl ?_
          refine aw_iconst (v := nI 4) d_JI_numberOfTrailingZeros_63 (by decide) ?_
          refine aw_icmp_le (tgt := 74) d_JI_numberOfTrailingZeros_64 (by decide) (fun c64 => ?_) (fun c64 => ?_)
          · refine aw_iload_n d_JI_numberOfTrailingZeros_74 rfl ?_
            refine aw_iload_n d_JI_numberOfTrailingZeros_75 rfl ?_
            refine aw_iconst (v := nI 1) d_JI_numberOfTrailingZeros_76 (by decide) ?_
            refine aw_iushr d_JI_numberOfTrailingZeros_77 ?_
            refine aw_iadd d_JI_numberOfTrailingZeros_78 ?_
            refine aw_ireturn d_JI_numberOfTrailingZeros_79 rfl rfl ?_
            refine ⟨congrArg (fun z => some (Value.int z)) ?_, rfl, rfl⟩
            clear kz c23 c38
            subst_vars
            match z, hz with
            | 0, hz => exact absurd hz.1 (by decide)
            | 1, _ => first | exact absurd c52 (by decide) | exact absurd c64 (by decide) | decide
            | 2, _ => first | exact absurd c52 (by decide) | exact absurd c64 (by decide) | decide
            | 3, _ => first | exact absurd c52 (by decide) | exact absurd c64 (by decide) | decide
            | 4, _ => first | exact absurd c52 (by decide) | exact absurd c64 (by decide) | decide
            | 5, _ => first | exact absurd c52 (by decide) | exact absurd c64 (by decide) | decide
            | z + 6, hz => exact absurd hz.2 (by omega)
          · obtain ⟨v67, ev67⟩ : ∃ z : Int32, z = v55 + Int32.ofInt (2) := ⟨_, rfl⟩
            refine aw_iinc (v := v67) (L' := [some (.int v61), some (.int v67)]) d_JI_numberOfTrailingZeros_67 rfl ev67.symm ⟨by decide, rfl⟩ rfl ?_
            refine aw_iload_n d_JI_numberOfTrailingZeros_70 rfl ?_
            refine aw_iconst (v := nI 2) d_JI_numberOfTrailingZeros_71 (by decide) ?_
            refine aw_iushr d_JI_numberOfTrailingZeros_72 ?_
            refine aw_topi (fun v73 ev73 => ?_)
            refine aw_istore_n (L' := [some (.int v73), some (.int v67)]) d_JI_numberOfTrailingZeros_73 ⟨by decide, rfl⟩ rfl ?_
            refine aw_iload_n d_JI_numberOfTrailingZeros_74 rfl ?_
            refine aw_iload_n d_JI_numberOfTrailingZeros_75 rfl ?_
            refine aw_iconst (v := nI 1) d_JI_numberOfTrailingZeros_76 (by decide) ?_
            refine aw_iushr d_JI_numberOfTrailingZeros_77 ?_
            refine aw_iadd d_JI_numberOfTrailingZeros_78 ?_
            refine aw_ireturn d_JI_numberOfTrailingZeros_79 rfl rfl ?_
            refine ⟨congrArg (fun z => some (Value.int z)) ?_, rfl, rfl⟩
            clear kz c23 c38
            subst_vars
            match z, hz with
            | 0, hz => exact absurd hz.1 (by decide)
            | 1, _ => first | exact absurd c52 (by decide) | exact absurd c64 (by decide) | decide
            | 2, _ => first | exact absurd c52 (by decide) | exact absurd c64 (by decide) | decide
            | 3, _ => first | exact absurd c52 (by decide) | exact absurd c64 (by decide) | decide
            | 4, _ => first | exact absurd c52 (by decide) | exact absurd c64 (by decide) | decide
            | 5, _ => first | exact absurd c52 (by decide) | exact absurd c64 (by decide) | decide
            | z + 6, hz => exact absurd hz.2 (by omega)
      · exact absurd kz.2 c38
    · exact absurd kz.1 c23
  · refine aw_iload_n d_JI_numberOfTrailingZeros_12 rfl ?_
    refine aw_bipush (v := nI 32) d_JI_numberOfTrailingZeros_13 (by decide) ?_
    refine aw_iand d_JI_numberOfTrailingZeros_15 ?_
    refine aw_ireturn d_JI_numberOfTrailingZeros_16 rfl rfl ?_
    refine ⟨congrArg (fun z => some (Value.int z)) ?_, rfl, rfl⟩
    subst ev7
    rcases tz_v s hs with q | q | q
    · exact absurd q c9
    · rw [q.2, q.1]
    · rw [q.2, q.1]
theorem c_isLeast {m : Nat} {h : ab_H} {s : Nat} (hs : s < 64) {q : Nat} (hq : q < 6) : ab_D Y_Rows_isLeast [.int (nI s), .int (nI q)] m h (some (.int (ab_bl (decide (tz s = q))))) m (h) := by
  refine ab_C.of (L := [some (.int (nI s)), some (.int (nI q))]) rfl rfl (Nat.le_of_ble_eq_true rfl) (fun l => ?_)
  have ht : tz s < 2 ^ 31 := tz_lt s
  refine aw_iload_n d_Rows_isLeast_0 rfl ?_
  refine aw_s0i d_Rows_isLeast_1 k_Rows_20 ok_JI_numberOfTrailingZeros rfl ⟨rfl, rfl⟩ (c_ntz s hs) rfl rfl (Nat.le_of_ble_eq_true rfl) ?_
  refine aw_iload_n d_Rows_isLeast_4 rfl ?_
  refine aw_icmp_ne (tgt := 12) d_Rows_isLeast_5 (by decide) (fun c5 => ?_) (fun c5 => ?_)
  · refine aw_iconst (v := nI 0) d_Rows_isLeast_12 (by decide) ?_
    refine aw_ireturn d_Rows_isLeast_13 rfl (by decide) ?_
    refine ⟨congrArg (fun z => some (Value.int z)) ?_, rfl, rfl⟩
    first
      | (rw [decide_eq_true ((nI_eq ht (by omega)).mp (by assumption))]; rfl)
      | (rw [decide_eq_false (fun q => absurd (congrArg nI q) (by assumption))]; rfl)
  · refine aw_iconst (v := nI 1) d_Rows_isLeast_8 (by decide) ?_
    refine aw_goto (tgt := 13) d_Rows_isLeast_9 (by decide) ?_
    refine aw_ireturn d_Rows_isLeast_13 rfl (by decide) ?_
    refine ⟨congrArg (fun z => some (Value.int z)) ?_, rfl, rfl⟩
    first
      | (rw [decide_eq_true ((nI_eq ht (by omega)).mp (by assumption))]; rfl)
      | (rw [decide_eq_false (fun q => absurd (congrArg nI q) (by assumption))]; rfl)
