abbrev HE (h : ab_H) (g7 gf gr : Nat → Int32) : ab_H := ab_set (ab_set (ab_set h 72 (.inl (6, g7))) 80 (.inl (720, gf))) 81 (.inl (720, gr))
theorem he_81 (h : ab_H) (g7 gf gr g : Nat → Int32) : ab_set (HE h g7 gf gr) 81 (.inl (720, g)) = HE h g7 gf g := ab_set_set _ _ _ _
theorem he_80 (h : ab_H) (g7 gf gr g : Nat → Int32) : ab_set (HE h g7 gf gr) 80 (.inl (720, g)) = HE h g7 g gr := by
  unfold HE
  rw [ab_set_swap (show 81 ≠ 80 by decide), ab_set_set]
theorem he_72 (h : ab_H) (g7 gf gr g : Nat → Int32) : ab_set (HE h g7 gf gr) 72 (.inl (6, g)) = HE h g gf gr := by
  unfold HE
  rw [ab_set_swap (show 81 ≠ 72 by decide), ab_set_swap (show 80 ≠ 72 by decide), ab_set_set]
theorem he_h {h : ab_H} {g7 gf gr : Nat → Int32} (h0 : h 72 = .inl (6, g7)) (h1 : h 80 = .inl (720, gf)) (h2 : h 81 = .inl (720, gr)) : HE h g7 gf gr = h := by
  unfold HE
  rw [ab_set_eq h0, ab_set_eq h1, ab_set_eq h2]
theorem HE_ne {h : ab_H} {g7 gf gr : Nat → Int32} {k : Nat} (a : k ≠ 72) (b : k ≠ 80) (c : k ≠ 81) : HE h g7 gf gr k = h k := by
  unfold HE
  rw [ab_set_ne c, ab_set_ne b, ab_set_ne a]
theorem isl_c {n K s : Nat} (hs : s < 108) : isl n K s = true ↔ K / 2 ^ (s / 36) % 2 = 1 ∧ (ir (nI (s / 36)) 0 2 ∧ 0 ≤ (nI (s / 6 % 6)).toInt ∧ (nI (s / 6 % 6)).toInt < (nI (s % 6)).toInt ∧ (nI (s % 6)).toInt < n) := by
  rw [isl_e]
  unfold ir
  rw [nI_toInt (by omega), nI_toInt (by omega), nI_toInt (by omega)]
  omega
theorem cd_46 {n : Nat} (hn : n ≤ 6) {x : Nat → Nat} (hx : Tb n x) : cd x n < 46656 := Nat.lt_of_lt_of_le (pm_okc hn hx.1 hx.2).2.1 (p6n hn)
theorem c_spreads {m : Nat} {h : ab_H} {N : NS} {me mi ve la : Int32} {tl : Nat} {at_ wr : Int32} {fe : Nat} {kp : Bool} (hM : h 56 = oM (N_n N) (N_ns N) (N_ra N) (N_se N) me mi (nI (TT (N_n N))) ve la tl at_ wr fe kp) (ok : N_ok N) {g2 g3 : Nat → Int32} (h68 : h 68 = .inl (4320, g2)) (h69 : h 69 = .inl (46656, g3)) (hly : LY (N_n N) (6 ^ N_n N) g2 g3) {g7 gf gr : Nat → Int32} (h72 : h 72 = .inl (6, g7)) (h80 : h 80 = .inl (720, gf)) (h81 : h 81 = .inl (720, gr)) {K : Nat} (h0 : 0 < K) (hK : K < 8) : ab_C Y_M_spreads [.ref 56, .int (nI K), .int (nI 0)] m h (fun r m2 h2 => r = none ∧ m2 = m ∧ ∃ g7 gf gr : Nat → Int32, h2 = HE h g7 gf gr ∧ ∀ x, Tb (N_n N) x → gf (num (N_n N) x) = nI (DD (N_n N) K x) ∧ gr (num (N_n N) x) = nI (WW (N_n N) K x)) := by
  have hn6 := ok.1
  have hTT := (TT_le hn6).1
  refine ab_C.of (L := [some (.ref 56), some (.int (nI K)), some (.int (nI 0)), none, none, none, none, none]) rfl rfl (Nat.le_of_ble_eq_true rfl) (fun l => ?_)
  have endd : ∀ (g7 gf gr : Nat → Int32) (d : Nat), (∀ x, Tb (N_n N) x → gf (num (N_n N) x) = nI (DD (N_n N) K x) ∧ gr (num (N_n N) x) = nI (WW (N_n N) K x)) → ab_W Y_M_spreads none l (fun r m2 h2 => r = none ∧ m2 = m ∧ ∃ g7 gf gr : Nat → Int32, h2 = HE h g7 gf gr ∧ ∀ x, Tb (N_n N) x → gf (num (N_n N) x) = nI (DD (N_n N) K x) ∧ gr (num (N_n N) x) = nI (WW (N_n N) K x)) 54 [some (.ref 56), some (.int (nI K)), some (.int (nI 0)), some (.int (nI 0)), some (.int (nI d)), none, none, none] [] m (HE h g7 gf gr) (0, 0) := by
    intro g7 gf gr d hall
    refine aw_iload_n d_M_spreads_54 rfl ?_
    refine aw_if_eq (tgt := 278) d_M_spreads_55 (by decide) (fun c55 => ?_) (fun c55 => ?_)
    · refine aw_return d_M_spreads_278 rfl ?_
      exact ⟨rfl, rfl, g7, gf, gr, rfl, hall⟩
    · first | exact absurd c55 (by decide) | exact absurd (by decide) c55
  have rounds : ∀ (f d : Nat) (g7 gf gr : Nat → Int32), d + f = 17 → d ≤ 16 → RG (N_n N) K d 0 0 gf gr → ab_W Y_M_spreads none l (fun r m2 h2 => r = none ∧ m2 = m ∧ ∃ g7 gf gr : Nat → Int32, h2 = HE h g7 gf gr ∧ ∀ x, Tb (N_n N) x → gf (num (N_n N) x) = nI (DD (N_n N) K x) ∧ gr (num (N_n N) x) = nI (WW (N_n N) K x)) 54 [some (.ref 56), some (.int (nI K)), some (.int (nI 0)), some (.int (nI 1)), some (.int (nI d)), none, none, none] [] m (HE h g7 gf gr) (0, 0) := by
    intro f
    induction f with
    | zero => intro d g7 gf gr h1 h2; omega
    | succ f ihd =>
      intro d g7 gf gr hd hd16 rg
      refine aw_iload_n d_M_spreads_54 rfl ?_
      refine aw_if_eq (tgt := 278) d_M_spreads_55 (by decide) (fun c55 => ?_) (fun c55 => ?_)
      · first | exact absurd c55 (by decide) | exact absurd (by decide) c55
      · refine aw_iconst (v := nI 0) d_M_spreads_58 (by decide) ?_
        refine aw_istore_n (L' := [some (.ref 56), some (.int (nI K)), some (.int (nI 0)), some (.int (nI 0)), some (.int (nI d)), none, none, none]) d_M_spreads_59 ⟨by decide, rfl⟩ rfl ?_
        refine aw_iconst (v := nI 0) d_M_spreads_60 (by decide) ?_
        refine aw_istore (L' := [some (.ref 56), some (.int (nI K)), some (.int (nI 0)), some (.int (nI 0)), some (.int (nI d)), some (.int (nI 0)), none, none]) d_M_spreads_61 ⟨by decide, rfl⟩ rfl ?_
        have loopt : ∀ kt t (mo : Nat) (g7 gf gr : Nat → Int32), t + kt = TT (N_n N) → RG (N_n N) K d t 0 gf gr → ((mo = 1 ∧ d ≤ 15) ∨ (mo = 0 ∧ (∀ a, a < t → ∀ u, isl (N_n N) K u = true → ¬ DD (N_n N) K (prm (N_n N) a) = d) ∧ ∀ u, u < 0 → isl (N_n N) K u = true → ¬ DD (N_n N) K (prm (N_n N) t) = d)) → ab_W Y_M_spreads none l (fun r m2 h2 => r = none ∧ m2 = m ∧ ∃ g7 gf gr : Nat → Int32, h2 = HE h g7 gf gr ∧ ∀ x, Tb (N_n N) x → gf (num (N_n N) x) = nI (DD (N_n N) K x) ∧ gr (num (N_n N) x) = nI (WW (N_n N) K x)) 63 [some (.ref 56), some (.int (nI K)), some (.int (nI 0)), some (.int (nI mo)), some (.int (nI d)), some (.int (nI (t))), none, none] [] m (HE h g7 gf gr) (0, 0) := by
          intro kt
          induction kt with
          | zero =>
            intro t mo g7 gf gr ht rg mc
            have htn : TT (N_n N) = t := by omega
            subst htn
            refine aw_iload d_M_spreads_63 rfl ?_
            refine aw_aload_n d_M_spreads_65 rfl ?_
            refine aw_get (k := 17) d_M_spreads_66 cl_Model k_M_220 (by decide) hM rfl ?_
            refine aw_icmp_ge (tgt := 254) d_M_spreads_69 (by decide) (fun c69 => ?_) (fun c69 => ?_)
            · refine aw_iload_n d_M_spreads_254 rfl ?_
              refine aw_if_eq (tgt := 270) d_M_spreads_255 (by decide) (fun c255 => ?_) (fun c255 => ?_)
              · refine aw_iconst (v := nI 0) d_M_spreads_270 (by decide) ?_
                refine aw_istore_n (L' := [some (.ref 56), some (.int (nI K)), some (.int (nI 0)), some (.int (nI 0)), some (.int (nI d)), some (.int (nI (TT (N_n N)))), none, none]) d_M_spreads_271 ⟨by decide, rfl⟩ rfl ?_
                refine aw_iinc (v := nI (d + 1)) (L' := [some (.ref 56), some (.int (nI K)), some (.int (nI 0)), some (.int (nI 0)), some (.int (nI (d + 1))), some (.int (nI (TT (N_n N)))), none, none]) d_M_spreads_272 rfl (nI_1 _) ⟨by decide, rfl⟩ rfl ?_
                refine aw_goto (tgt := 54) d_M_spreads_275 (by decide) ?_
                rcases mc with ⟨em, d15⟩ | ⟨em, mn, -⟩
                · subst em
                  first
                    | exact aw_drop 5 (ihd (d + 1) g7 gf gr (by omega) (by omega) (rg.next hn6 h0 hK))
                    | exact absurd c255 (by decide)
                    | exact absurd c263 (nI_ge (by omega) (by omega))
                · subst em
                  first
                    | exact absurd (show nI 0 = 0 from rfl) c255
                    | exact aw_drop 5 (endd g7 gf gr (d + 1) ((rg.next hn6 h0 hK).all (lev_end hn6 h0 hK mn)))
              · refine aw_iload d_M_spreads_258 rfl ?_
                refine aw_sipush (v := nI 720) d_M_spreads_260 (by decide) ?_
                refine aw_icmp_ge (tgt := 270) d_M_spreads_263 (by decide) (fun c263 => ?_) (fun c263 => ?_)
                · refine aw_iconst (v := nI 0) d_M_spreads_270 (by decide) ?_
                  refine aw_istore_n (L' := [some (.ref 56), some (.int (nI K)), some (.int (nI 0)), some (.int (nI 0)), some (.int (nI d)), some (.int (nI (TT (N_n N)))), none, none]) d_M_spreads_271 ⟨by decide, rfl⟩ rfl ?_
                  refine aw_iinc (v := nI (d + 1)) (L' := [some (.ref 56), some (.int (nI K)), some (.int (nI 0)), some (.int (nI 0)), some (.int (nI (d + 1))), some (.int (nI (TT (N_n N)))), none, none]) d_M_spreads_272 rfl (nI_1 _) ⟨by decide, rfl⟩ rfl ?_
                  refine aw_goto (tgt := 54) d_M_spreads_275 (by decide) ?_
                  rcases mc with ⟨em, d15⟩ | ⟨em, mn, -⟩
                  · subst em
                    first
                      | exact aw_drop 5 (ihd (d + 1) g7 gf gr (by omega) (by omega) (rg.next hn6 h0 hK))
                      | exact absurd c255 (by decide)
                      | exact absurd c263 (nI_ge (by omega) (by omega))
                  · subst em
                    first
                      | exact absurd (show nI 0 = 0 from rfl) c255
                      | exact aw_drop 5 (endd g7 gf gr (d + 1) ((rg.next hn6 h0 hK).all (lev_end hn6 h0 hK mn)))
                · refine aw_iconst (v := nI 1) d_M_spreads_266 (by decide) ?_
                  refine aw_goto (tgt := 271) d_M_spreads_267 (by decide) ?_
                  refine aw_istore_n (L' := [some (.ref 56), some (.int (nI K)), some (.int (nI 0)), some (.int (nI 1)), some (.int (nI d)), some (.int (nI (TT (N_n N)))), none, none]) d_M_spreads_271 ⟨by decide, rfl⟩ rfl ?_
                  refine aw_iinc (v := nI (d + 1)) (L' := [some (.ref 56), some (.int (nI K)), some (.int (nI 0)), some (.int (nI 1)), some (.int (nI (d + 1))), some (.int (nI (TT (N_n N)))), none, none]) d_M_spreads_272 rfl (nI_1 _) ⟨by decide, rfl⟩ rfl ?_
                  refine aw_goto (tgt := 54) d_M_spreads_275 (by decide) ?_
                  rcases mc with ⟨em, d15⟩ | ⟨em, mn, -⟩
                  · subst em
                    first
                      | exact aw_drop 5 (ihd (d + 1) g7 gf gr (by omega) (by omega) (rg.next hn6 h0 hK))
                      | exact absurd c255 (by decide)
                      | exact absurd c263 (nI_ge (by omega) (by omega))
                  · subst em
                    first
                      | exact absurd (show nI 0 = 0 from rfl) c255
                      | exact aw_drop 5 (endd g7 gf gr (d + 1) ((rg.next hn6 h0 hK).all (lev_end hn6 h0 hK mn)))
            · exact absurd (Int32.le_refl _) c69
          | succ kt iht =>
            intro t mo g7 gf gr ht rg mc
            refine aw_iload d_M_spreads_63 rfl ?_
            refine aw_aload_n d_M_spreads_65 rfl ?_
            refine aw_get (k := 17) d_M_spreads_66 cl_Model k_M_220 (by decide) hM rfl ?_
            refine aw_icmp_ge (tgt := 254) d_M_spreads_69 (by decide) (fun c69 => ?_) (fun c69 => ?_)
            · exact absurd c69 (nI_ge (by omega) (by omega))
            · refine aw_iconst (v := nI 0) d_M_spreads_72 (by decide) ?_
              refine aw_istore (L' := [some (.ref 56), some (.int (nI K)), some (.int (nI 0)), some (.int (nI mo)), some (.int (nI d)), some (.int (nI (t))), some (.int (nI 0)), none]) d_M_spreads_73 ⟨by decide, rfl⟩ rfl ?_
              have loops : ∀ ks s (mo : Nat) (g7 gf gr : Nat → Int32), s + ks = 108 → RG (N_n N) K d t s gf gr → ((mo = 1 ∧ d ≤ 15) ∨ (mo = 0 ∧ (∀ a, a < t → ∀ u, isl (N_n N) K u = true → ¬ DD (N_n N) K (prm (N_n N) a) = d) ∧ ∀ u, u < s → isl (N_n N) K u = true → ¬ DD (N_n N) K (prm (N_n N) t) = d)) → ab_W Y_M_spreads none l (fun r m2 h2 => r = none ∧ m2 = m ∧ ∃ g7 gf gr : Nat → Int32, h2 = HE h g7 gf gr ∧ ∀ x, Tb (N_n N) x → gf (num (N_n N) x) = nI (DD (N_n N) K x) ∧ gr (num (N_n N) x) = nI (WW (N_n N) K x)) 75 [some (.ref 56), some (.int (nI K)), some (.int (nI 0)), some (.int (nI mo)), some (.int (nI d)), some (.int (nI t)), some (.int (nI (s))), none] [] m (HE h g7 gf gr) (0, 0) := by
                intro ks
                induction ks with
                | zero =>
                  intro s mo g7 gf gr hs rg mc
                  have hsn : 108 = s := by omega
                  subst hsn
                  refine aw_iload d_M_spreads_75 rfl ?_
                  refine aw_bipush (v := nI 108) d_M_spreads_77 (by decide) ?_
                  refine aw_icmp_ge (tgt := 248) d_M_spreads_79 (by decide) (fun c79 => ?_) (fun c79 => ?_)
                  · refine aw_iinc (v := nI (t + 1)) (L' := [some (.ref 56), some (.int (nI K)), some (.int (nI 0)), some (.int (nI mo)), some (.int (nI d)), some (.int (nI (t + 1))), some (.int (nI (108))), none]) d_M_spreads_248 rfl (nI_1 _) ⟨by decide, rfl⟩ rfl ?_
                    refine aw_goto (tgt := 63) d_M_spreads_251 (by decide) ?_
                    refine aw_drop 6 (iht (t + 1) mo g7 gf gr (by omega) (rg.same (fun x => cn_t _ _ _ _ _)) (mc.imp id (fun z => ⟨z.1, fun a ha u hu => ?_, fun u hu => absurd hu (Nat.not_lt_zero _)⟩)))
                    by_cases e : a = t
                    · subst e; exact z.2.2 u (isl_s hu).1 hu
                    · exact z.2.1 a (by omega) u hu
                  · exact absurd (Int32.le_refl _) c79
                | succ ks ihs =>
                  intro s mo g7 gf gr hs rg mc
                  refine aw_iload d_M_spreads_75 rfl ?_
                  refine aw_bipush (v := nI 108) d_M_spreads_77 (by decide) ?_
                  refine aw_icmp_ge (tgt := 248) d_M_spreads_79 (by decide) (fun c79 => ?_) (fun c79 => ?_)
                  · exact absurd c79 (nI_ge (by omega) (by omega))
                  · refine aw_aload_n d_M_spreads_82 rfl ?_
                    refine aw_get (k := 36) d_M_spreads_83 cl_Model k_M_91 (by decide) hM rfl ?_
                    refine aw_iload d_M_spreads_86 rfl ?_
                    refine aw_ialoadN d_M_spreads_88 rfl (by omega) (by decide) ?_
                    have htT : t < TT (N_n N) := by omega
                    have hat := rg.at hn6 htT (by omega) h0 hK
                    refine aw_iload d_M_spreads_89 rfl ?_
                    refine aw_icmp_ne (tgt := 248) d_M_spreads_91 (by decide) (fun c91 => ?_) (fun c91 => ?_)
                    · refine aw_iinc (v := nI (t + 1)) (L' := [some (.ref 56), some (.int (nI K)), some (.int (nI 0)), some (.int (nI mo)), some (.int (nI d)), some (.int (nI (t + 1))), some (.int (nI (s))), none]) d_M_spreads_248 rfl (nI_1 _) ⟨by decide, rfl⟩ rfl ?_
                      refine aw_goto (tgt := 63) d_M_spreads_251 (by decide) ?_
                      have hdn : ¬ DD (N_n N) K (prm (N_n N) t) = d := fun z => c91 (hat.mpr z)
                      refine aw_drop 6 (iht (t + 1) mo g7 gf gr (by omega) (rg.same (fun x => by rw [cn_t, cn_no hdn 108, cn_no hdn s])) (mc.imp id (fun z => ⟨z.1, fun a ha u hu => ?_, fun u hu => absurd hu (Nat.not_lt_zero _)⟩)))
                      by_cases e : a = t
                      · subst e; exact hdn
                      · exact z.2.1 a (by omega) u hu
                    · refine aw_iload_n d_M_spreads_94 rfl ?_
                      refine aw_iload d_M_spreads_95 rfl ?_
                      refine aw_bipush (v := nI 36) d_M_spreads_97 (by decide) ?_
                      refine aw_idiv d_M_spreads_99 (by decide) ?_
                      rw [dv (by omega) (by decide) (by decide)]
                      refine aw_ishr d_M_spreads_100 ?_
                      refine aw_iconst (v := nI 1) d_M_spreads_101 (by decide) ?_
                      refine aw_iand d_M_spreads_102 ?_
                      refine aw_iconst (v := nI 1) d_M_spreads_103 (by decide) ?_
                      rw [b_at (by omega) (by omega)]
                      refine aw_icmp_ne (tgt := 242) d_M_spreads_104 (by decide) (fun c104 => ?_) (fun c104 => ?_)
                      · refine aw_iinc (v := nI ((s) + 1)) (L' := [some (.ref 56), some (.int (nI K)), some (.int (nI 0)), some (.int (nI mo)), some (.int (nI d)), some (.int (nI t)), some (.int (nI ((s) + 1))), none]) d_M_spreads_242 rfl (nI_1 _) ⟨by decide, rfl⟩ rfl ?_
                        refine aw_goto (tgt := 75) d_M_spreads_245 (by decide) ?_
                        have hisn : isl (N_n N) K s = false := Bool.eq_false_iff.mpr (fun z => by
                          have z := (isl_c (show s < 108 by omega)).mp z
                          first
                            | exact c104 (b_1.mpr z.1)
                            | exact of_decide_eq_false (ab_bl_0.mp c129) z.2)
                        exact ihs (s + 1) mo g7 gf gr (by omega) (rg.skip hisn) (mc.imp id (fun z => ⟨z.1, z.2.1, fun u hu hi => by
                          by_cases e : u = s
                          · subst e; rw [hisn] at hi; cases hi
                          · exact z.2.2 u (by omega) hi⟩))
                      · refine aw_aload_n d_M_spreads_107 rfl ?_
                        refine aw_iload d_M_spreads_108 rfl ?_
                        refine aw_bipush (v := nI 36) d_M_spreads_110 (by decide) ?_
                        refine aw_idiv d_M_spreads_112 (by decide) ?_
                        rw [dv (by omega) (by decide) (by decide)]
                        refine aw_iload d_M_spreads_113 rfl ?_
                        refine aw_bipush (v := nI 6) d_M_spreads_115 (by decide) ?_
                        refine aw_idiv d_M_spreads_117 (by decide) ?_
                        rw [dv (by omega) (by decide) (by decide)]
                        refine aw_bipush (v := nI 6) d_M_spreads_118 (by decide) ?_
                        refine aw_irem d_M_spreads_120 (by decide) ?_
                        rw [rm (by omega) (by decide) (by decide)]
                        refine aw_iload d_M_spreads_121 rfl ?_
                        refine aw_bipush (v := nI 6) d_M_spreads_123 (by decide) ?_
                        refine aw_irem d_M_spreads_125 (by decide) ?_
                        rw [rm (by omega) (by decide) (by decide)]
                        refine aw_v0i (a := 56) d_M_spreads_126 k_M_299 ok_M_isSlip rfl ⟨rfl, rfl⟩ cl_Model hM (c_M_isSlip (h := HE h g7 gf gr) hM hn6 (nI (s / 36)) (nI (s / 6 % 6)) (nI (s % 6))) rfl rfl (Nat.le_of_ble_eq_true rfl) ?_
                        refine aw_if_eq (tgt := 242) d_M_spreads_129 (by decide) (fun c129 => ?_) (fun c129 => ?_)
                        · refine aw_iinc (v := nI ((s) + 1)) (L' := [some (.ref 56), some (.int (nI K)), some (.int (nI 0)), some (.int (nI mo)), some (.int (nI d)), some (.int (nI t)), some (.int (nI ((s) + 1))), none]) d_M_spreads_242 rfl (nI_1 _) ⟨by decide, rfl⟩ rfl ?_
                          refine aw_goto (tgt := 75) d_M_spreads_245 (by decide) ?_
                          have hisn : isl (N_n N) K s = false := Bool.eq_false_iff.mpr (fun z => by
                            have z := (isl_c (show s < 108 by omega)).mp z
                            first
                              | exact c104 (b_1.mpr z.1)
                              | exact of_decide_eq_false (ab_bl_0.mp c129) z.2)
                          exact ihs (s + 1) mo g7 gf gr (by omega) (rg.skip hisn) (mc.imp id (fun z => ⟨z.1, z.2.1, fun u hu hi => by
                            by_cases e : u = s
                            · subst e; rw [hisn] at hi; cases hi
                            · exact z.2.2 u (by omega) hi⟩))
                        · have his : isl (N_n N) K s = true := (isl_c (show s < 108 by omega)).mpr ⟨b_1.mp c104, of_decide_eq_true (ab_bl_1.mp c129)⟩
                          have hdt : DD (N_n N) K (prm (N_n N) t) = d := hat.mp c91
                          have hp := Tb.pr_ hn6 htT
                          have hy := hp.ed hn6 his
                          have ny7 : (num (N_n N) (ed s (prm (N_n N) t))) < 720 := Nat.lt_of_lt_of_le (hy.nu hn6).1 hTT
                          refine aw_aload_n d_M_spreads_132 rfl ?_
                          refine aw_iload d_M_spreads_133 rfl ?_
                          refine aw_aload_n d_M_spreads_135 rfl ?_
                          refine aw_get (k := 18) d_M_spreads_136 cl_Model k_M_50 (by decide) hM rfl ?_
                          refine aw_bipush (v := nI 6) d_M_spreads_139 (by decide) ?_
                          refine aw_iload d_M_spreads_141 rfl ?_
                          refine aw_imul d_M_spreads_143 ?_
                          rw [pk_mul]
                          refine aw_aload_n d_M_spreads_144 rfl ?_
                          refine aw_get (k := 22) d_M_spreads_145 cl_Model k_M_63 (by decide) hM rfl ?_
                          refine aw_v0 (a := 56) d_M_spreads_148 k_M_303 ok_M_slips rfl ⟨rfl, rfl⟩ cl_Model hM (c_slips (h := HE h g7 gf gr) hM ok (isl_s his).2 (A := 68) (NN := 4320) (fo := 6 * t) h68 (by decide) (by omega) (x := prm (N_n N) t) (fun k hk => hly.row htT hk) (by decide) (gt := g7) rfl) rfl rfl (Nat.le_of_ble_eq_true rfl) (fun r m2 h2 z => ?_)
                          obtain ⟨rfl, em, g7, rfl, eg7⟩ := z
                          rw [em, he_72]
                          show ab_W _ _ _ _ 151 _ [] _ _ _
                          refine aw_aload_n d_M_spreads_151 rfl ?_
                          refine aw_get (k := 19) d_M_spreads_152 cl_Model k_M_54 (by decide) hM rfl ?_
                          refine aw_aload_n d_M_spreads_155 rfl ?_
                          refine aw_get (k := 22) d_M_spreads_156 cl_Model k_M_63 (by decide) hM rfl ?_
                          refine aw_iconst (v := nI 0) d_M_spreads_159 (by decide) ?_
                          refine aw_aload_n d_M_spreads_160 rfl ?_
                          refine aw_get (k := 0) d_M_spreads_161 cl_Model k_M_118 (by decide) hM rfl ?_
                          refine aw_s0i d_M_spreads_164 k_M_223 ok_M_codeOf rfl ⟨rfl, rfl⟩ (c_codeOf (h := HE h g7 gf gr) (A := 72) (NN := 6) (fo := 0) (n := N_n N) rfl (by decide) (by omega) (x := (ed s (prm (N_n N) t))) (fun k hk => by rw [Nat.zero_add]; exact eg7 k hk)) rfl rfl (Nat.le_of_ble_eq_true rfl) ?_
                          refine aw_ialoadN d_M_spreads_167 h69 (cd_46 hn6 hy) (by decide) ?_
                          rw [hly.num hn6 hy.1 hy.2]
                          refine aw_istore (L' := [some (.ref 56), some (.int (nI K)), some (.int (nI 0)), some (.int (nI mo)), some (.int (nI d)), some (.int (nI t)), some (.int (nI (s))), some (.int (nI (num (N_n N) (ed s (prm (N_n N) t)))))]) d_M_spreads_168 ⟨by decide, rfl⟩ rfl ?_
                          refine aw_aload_n d_M_spreads_170 rfl ?_
                          refine aw_get (k := 36) d_M_spreads_171 cl_Model k_M_91 (by decide) hM rfl ?_
                          refine aw_iload d_M_spreads_174 rfl ?_
                          refine aw_aload_n d_M_spreads_176 rfl ?_
                          refine aw_get (k := 36) d_M_spreads_177 cl_Model k_M_91 (by decide) hM rfl ?_
                          refine aw_iload d_M_spreads_180 rfl ?_
                          refine aw_ialoadN d_M_spreads_182 rfl ny7 (by decide) ?_
                          refine aw_iload d_M_spreads_183 rfl ?_
                          refine aw_iconst (v := nI 1) d_M_spreads_185 (by decide) ?_
                          refine aw_iadd d_M_spreads_186 ?_
                          rw [nI_add]
                          refine aw_icmp_le (tgt := 197) d_M_spreads_187 (by decide) (fun c187 => ?_) (fun c187 => ?_)
                          · refine aw_aload_n d_M_spreads_197 rfl ?_
                            refine aw_get (k := 36) d_M_spreads_198 cl_Model k_M_91 (by decide) hM rfl ?_
                            refine aw_iload d_M_spreads_201 rfl ?_
                            refine aw_ialoadN d_M_spreads_203 rfl ny7 (by decide) ?_
                            refine aw_iastoreN d_M_spreads_204 rfl ny7 (by decide) ?_
                            have contS : ∀ (g7 : Nat → Int32) (mo : Nat) (v : Int32), v = (if nI (d + 1) < gf (num (N_n N) (ed s (prm (N_n N) t))) then nI (d + 1) else gf (num (N_n N) (ed s (prm (N_n N) t)))) → ab_W Y_M_spreads none l (fun r m2 h2 => r = none ∧ m2 = m ∧ ∃ g7 gf gr : Nat → Int32, h2 = HE h g7 gf gr ∧ ∀ x, Tb (N_n N) x → gf (num (N_n N) x) = nI (DD (N_n N) K x) ∧ gr (num (N_n N) x) = nI (WW (N_n N) K x)) 205 [some (.ref 56), some (.int (nI K)), some (.int (nI 0)), some (.int (nI mo)), some (.int (nI d)), some (.int (nI t)), some (.int (nI s)), some (.int (nI (num (N_n N) (ed s (prm (N_n N) t)))))] [] m (HE h g7 (upd gf (num (N_n N) (ed s (prm (N_n N) t))) v) gr) (0, 0) := by
                              intro g7 mo v hv
                              refine aw_aload_n d_M_spreads_205 rfl ?_
                              refine aw_get (k := 37) d_M_spreads_206 cl_Model k_M_94 (by decide) hM rfl ?_
                              refine aw_iload d_M_spreads_209 rfl ?_
                              refine aw_dup2 d_M_spreads_211 rfl rfl ?_
                              refine aw_ialoadN d_M_spreads_212 rfl ny7 (by decide) ?_
                              refine aw_aload_n d_M_spreads_213 rfl ?_
                              refine aw_get (k := 36) d_M_spreads_214 cl_Model k_M_91 (by decide) hM rfl ?_
                              refine aw_iload d_M_spreads_217 rfl ?_
                              refine aw_ialoadN d_M_spreads_219 rfl ny7 (by decide) ?_
                              rw [pk_us]
                              refine aw_iload d_M_spreads_220 rfl ?_
                              refine aw_iconst (v := nI 1) d_M_spreads_222 (by decide) ?_
                              refine aw_iadd d_M_spreads_223 ?_
                              rw [nI_add]
                              refine aw_icmp_ne (tgt := 237) d_M_spreads_224 (by decide) (fun c224 => ?_) (fun c224 => ?_)
                              · refine aw_iconst (v := nI 0) d_M_spreads_237 (by decide) ?_
                                refine aw_iadd d_M_spreads_238 ?_
                                refine aw_iastoreN d_M_spreads_239 rfl ny7 (by decide) ?_
                                refine aw_iconst (v := nI 1) d_M_spreads_240 (by decide) ?_
                                refine aw_istore_n (L' := [some (.ref 56), some (.int (nI K)), some (.int (nI 0)), some (.int (nI 1)), some (.int (nI d)), some (.int (nI t)), some (.int (nI s)), some (.int (nI (num (N_n N) (ed s (prm (N_n N) t)))))]) d_M_spreads_241 ⟨by decide, rfl⟩ rfl ?_
                                refine aw_iinc (v := nI (s + 1)) (L' := [some (.ref 56), some (.int (nI K)), some (.int (nI 0)), some (.int (nI 1)), some (.int (nI d)), some (.int (nI t)), some (.int (nI (s + 1))), some (.int (nI (num (N_n N) (ed s (prm (N_n N) t)))))]) d_M_spreads_242 rfl (nI_1 _) ⟨by decide, rfl⟩ rfl ?_
                                refine aw_goto (tgt := 75) d_M_spreads_245 (by decide) ?_
                                rw [he_81]
                                have d15 := (DD_t hn6 h0 hK (Tb.pr_ hn6 htT)).1
                                refine aw_drop 7 (ihs (s + 1) 1 g7 _ _ (by omega) (rg.step hn6 h0 hK htT his hdt rfl hv ?_ (by omega)) (Or.inl ⟨rfl, by omega⟩))
                                first
                                  | (rw [if_pos c224]; done)
                                  | (rw [if_neg c224]; done)
                              · refine aw_aload_n d_M_spreads_227 rfl ?_
                                refine aw_get (k := 37) d_M_spreads_228 cl_Model k_M_94 (by decide) hM rfl ?_
                                refine aw_iload d_M_spreads_231 rfl ?_
                                refine aw_ialoadN d_M_spreads_233 rfl (by omega) (by decide) ?_
                                refine aw_goto (tgt := 238) d_M_spreads_234 (by decide) ?_
                                refine aw_iadd d_M_spreads_238 ?_
                                refine aw_iastoreN d_M_spreads_239 rfl ny7 (by decide) ?_
                                refine aw_iconst (v := nI 1) d_M_spreads_240 (by decide) ?_
                                refine aw_istore_n (L' := [some (.ref 56), some (.int (nI K)), some (.int (nI 0)), some (.int (nI 1)), some (.int (nI d)), some (.int (nI t)), some (.int (nI s)), some (.int (nI (num (N_n N) (ed s (prm (N_n N) t)))))]) d_M_spreads_241 ⟨by decide, rfl⟩ rfl ?_
                                refine aw_iinc (v := nI (s + 1)) (L' := [some (.ref 56), some (.int (nI K)), some (.int (nI 0)), some (.int (nI 1)), some (.int (nI d)), some (.int (nI t)), some (.int (nI (s + 1))), some (.int (nI (num (N_n N) (ed s (prm (N_n N) t)))))]) d_M_spreads_242 rfl (nI_1 _) ⟨by decide, rfl⟩ rfl ?_
                                refine aw_goto (tgt := 75) d_M_spreads_245 (by decide) ?_
                                rw [he_81]
                                have d15 := (DD_t hn6 h0 hK (Tb.pr_ hn6 htT)).1
                                refine aw_drop 7 (ihs (s + 1) 1 g7 _ _ (by omega) (rg.step hn6 h0 hK htT his hdt rfl hv ?_ (by omega)) (Or.inl ⟨rfl, by omega⟩))
                                first
                                  | (rw [if_pos c224]; done)
                                  | (rw [if_neg c224]; done)
                            rw [he_80]
                            first
                              | exact contS g7 mo _ (by rw [if_pos (Int32.not_le.mp c187)])
                              | exact contS g7 mo _ (by rw [if_neg (Int32.not_lt.mpr c187)])
                          · refine aw_iload d_M_spreads_190 rfl ?_
                            refine aw_iconst (v := nI 1) d_M_spreads_192 (by decide) ?_
                            refine aw_iadd d_M_spreads_193 ?_
                            rw [nI_add]
                            refine aw_goto (tgt := 204) d_M_spreads_194 (by decide) ?_
                            refine aw_iastoreN d_M_spreads_204 rfl ny7 (by decide) ?_
                            have contS : ∀ (g7 : Nat → Int32) (mo : Nat) (v : Int32), v = (if nI (d + 1) < gf (num (N_n N) (ed s (prm (N_n N) t))) then nI (d + 1) else gf (num (N_n N) (ed s (prm (N_n N) t)))) → ab_W Y_M_spreads none l (fun r m2 h2 => r = none ∧ m2 = m ∧ ∃ g7 gf gr : Nat → Int32, h2 = HE h g7 gf gr ∧ ∀ x, Tb (N_n N) x → gf (num (N_n N) x) = nI (DD (N_n N) K x) ∧ gr (num (N_n N) x) = nI (WW (N_n N) K x)) 205 [some (.ref 56), some (.int (nI K)), some (.int (nI 0)), some (.int (nI mo)), some (.int (nI d)), some (.int (nI t)), some (.int (nI s)), some (.int (nI (num (N_n N) (ed s (prm (N_n N) t)))))] [] m (HE h g7 (upd gf (num (N_n N) (ed s (prm (N_n N) t))) v) gr) (0, 0) := by
                              intro g7 mo v hv
                              refine aw_aload_n d_M_spreads_205 rfl ?_
                              refine aw_get (k := 37) d_M_spreads_206 cl_Model k_M_94 (by decide) hM rfl ?_
                              refine aw_iload d_M_spreads_209 rfl ?_
                              refine aw_dup2 d_M_spreads_211 rfl rfl ?_
                              refine aw_ialoadN d_M_spreads_212 rfl ny7 (by decide) ?_
                              refine aw_aload_n d_M_spreads_213 rfl ?_
                              refine aw_get (k := 36) d_M_spreads_214 cl_Model k_M_91 (by decide) hM rfl ?_
                              refine aw_iload d_M_spreads_217 rfl ?_
                              refine aw_ialoadN d_M_spreads_219 rfl ny7 (by decide) ?_
                              rw [pk_us]
                              refine aw_iload d_M_spreads_220 rfl ?_
                              refine aw_iconst (v := nI 1) d_M_spreads_222 (by decide) ?_
                              refine aw_iadd d_M_spreads_223 ?_
                              rw [nI_add]
                              refine aw_icmp_ne (tgt := 237) d_M_spreads_224 (by decide) (fun c224 => ?_) (fun c224 => ?_)
                              · refine aw_iconst (v := nI 0) d_M_spreads_237 (by decide) ?_
                                refine aw_iadd d_M_spreads_238 ?_
                                refine aw_iastoreN d_M_spreads_239 rfl ny7 (by decide) ?_
                                refine aw_iconst (v := nI 1) d_M_spreads_240 (by decide) ?_
                                refine aw_istore_n (L' := [some (.ref 56), some (.int (nI K)), some (.int (nI 0)), some (.int (nI 1)), some (.int (nI d)), some (.int (nI t)), some (.int (nI s)), some (.int (nI (num (N_n N) (ed s (prm (N_n N) t)))))]) d_M_spreads_241 ⟨by decide, rfl⟩ rfl ?_
                                refine aw_iinc (v := nI (s + 1)) (L' := [some (.ref 56), some (.int (nI K)), some (.int (nI 0)), some (.int (nI 1)), some (.int (nI d)), some (.int (nI t)), some (.int (nI (s + 1))), some (.int (nI (num (N_n N) (ed s (prm (N_n N) t)))))]) d_M_spreads_242 rfl (nI_1 _) ⟨by decide, rfl⟩ rfl ?_
                                refine aw_goto (tgt := 75) d_M_spreads_245 (by decide) ?_
                                rw [he_81]
                                have d15 := (DD_t hn6 h0 hK (Tb.pr_ hn6 htT)).1
                                refine aw_drop 7 (ihs (s + 1) 1 g7 _ _ (by omega) (rg.step hn6 h0 hK htT his hdt rfl hv ?_ (by omega)) (Or.inl ⟨rfl, by omega⟩))
                                first
                                  | (rw [if_pos c224]; done)
                                  | (rw [if_neg c224]; done)
                              · refine aw_aload_n d_M_spreads_227 rfl ?_
                                refine aw_get (k := 37) d_M_spreads_228 cl_Model k_M_94 (by decide) hM rfl ?_
                                refine aw_iload d_M_spreads_231 rfl ?_
                                refine aw_ialoadN d_M_spreads_233 rfl (by omega) (by decide) ?_
                                refine aw_goto (tgt := 238) d_M_spreads_234 (by decide) ?_
                                refine aw_iadd d_M_spreads_238 ?_
                                refine aw_iastoreN d_M_spreads_239 rfl ny7 (by decide) ?_
                                refine aw_iconst (v := nI 1) d_M_spreads_240 (by decide) ?_
                                refine aw_istore_n (L' := [some (.ref 56), some (.int (nI K)), some (.int (nI 0)), some (.int (nI 1)), some (.int (nI d)), some (.int (nI t)), some (.int (nI s)), some (.int (nI (num (N_n N) (ed s (prm (N_n N) t)))))]) d_M_spreads_241 ⟨by decide, rfl⟩ rfl ?_
                                refine aw_iinc (v := nI (s + 1)) (L' := [some (.ref 56), some (.int (nI K)), some (.int (nI 0)), some (.int (nI 1)), some (.int (nI d)), some (.int (nI t)), some (.int (nI (s + 1))), some (.int (nI (num (N_n N) (ed s (prm (N_n N) t)))))]) d_M_spreads_242 rfl (nI_1 _) ⟨by decide, rfl⟩ rfl ?_
                                refine aw_goto (tgt := 75) d_M_spreads_245 (by decide) ?_
                                rw [he_81]
                                have d15 := (DD_t hn6 h0 hK (Tb.pr_ hn6 htT)).1
                                refine aw_drop 7 (ihs (s + 1) 1 g7 _ _ (by omega) (rg.step hn6 h0 hK htT his hdt rfl hv ?_ (by omega)) (Or.inl ⟨rfl, by omega⟩))
                                first
                                  | (rw [if_pos c224]; done)
                                  | (rw [if_neg c224]; done)
                            rw [he_80]
                            first
                              | exact contS g7 mo _ (by rw [if_pos (Int32.not_le.mp c187)])
                              | exact contS g7 mo _ (by rw [if_neg (Int32.not_lt.mpr c187)])
              exact loops 108 0 mo g7 gf gr (by omega) rg mc
        exact loopt (TT (N_n N)) 0 0 g7 gf gr (by omega) rg (Or.inr ⟨rfl, fun a ha => absurd ha (Nat.not_lt_zero _), fun u hu => absurd hu (Nat.not_lt_zero _)⟩)
  have loop0 : ∀ kf t (g7 gf gr : Nat → Int32), t + kf = TT (N_n N) → (∀ k, k < t → gf k = nI (if k = 0 then 0 else 1000000000) ∧ gr k = nI (if k = 0 then 1 else 0)) → ab_W Y_M_spreads none l (fun r m2 h2 => r = none ∧ m2 = m ∧ ∃ g7 gf gr : Nat → Int32, h2 = HE h g7 gf gr ∧ ∀ x, Tb (N_n N) x → gf (num (N_n N) x) = nI (DD (N_n N) K x) ∧ gr (num (N_n N) x) = nI (WW (N_n N) K x)) 2 [some (.ref 56), some (.int (nI K)), some (.int (nI 0)), some (.int (nI (t))), none, none, none, none] [] m (HE h g7 gf gr) (0, 0) := by
    intro kf
    induction kf with
    | zero =>
      intro t g7 gf gr ht e0
      have htn : TT (N_n N) = t := by omega
      subst htn
      refine aw_iload_n d_M_spreads_2 rfl ?_
      refine aw_aload_n d_M_spreads_3 rfl ?_
      refine aw_get (k := 17) d_M_spreads_4 cl_Model k_M_220 (by decide) hM rfl ?_
      refine aw_icmp_ge (tgt := 49) d_M_spreads_7 (by decide) (fun c7 => ?_) (fun c7 => ?_)
      · refine aw_iconst (v := nI 1) d_M_spreads_49 (by decide) ?_
        refine aw_istore_n (L' := [some (.ref 56), some (.int (nI K)), some (.int (nI 0)), some (.int (nI 1)), none, none, none, none]) d_M_spreads_50 ⟨by decide, rfl⟩ rfl ?_
        refine aw_iconst (v := nI 0) d_M_spreads_51 (by decide) ?_
        refine aw_istore (L' := [some (.ref 56), some (.int (nI K)), some (.int (nI 0)), some (.int (nI 1)), some (.int (nI 0)), none, none, none]) d_M_spreads_52 ⟨by decide, rfl⟩ rfl ?_
        refine rounds 17 0 g7 gf gr (by omega) (by omega) (RG.ini hn6 h0 hK ?_ ?_ (fun k h1 h2 => ?_))
        · have := (e0 0 (TT_le hn6).2).1; rwa [if_pos rfl] at this
        · have := (e0 0 (TT_le hn6).2).2; rwa [if_pos rfl] at this
        · have := e0 k h2; rwa [if_neg (by omega), if_neg (by omega)] at this
      · exact absurd (Int32.le_refl _) c7
    | succ kf ih =>
      intro t g7 gf gr ht e0
      refine aw_iload_n d_M_spreads_2 rfl ?_
      refine aw_aload_n d_M_spreads_3 rfl ?_
      refine aw_get (k := 17) d_M_spreads_4 cl_Model k_M_220 (by decide) hM rfl ?_
      refine aw_icmp_ge (tgt := 49) d_M_spreads_7 (by decide) (fun c7 => ?_) (fun c7 => ?_)
      · exact absurd c7 (nI_ge (by omega) (by omega))
      · refine aw_aload_n d_M_spreads_10 rfl ?_
        refine aw_get (k := 36) d_M_spreads_11 cl_Model k_M_91 (by decide) hM rfl ?_
        refine aw_iload_n d_M_spreads_14 rfl ?_
        refine aw_iload_n d_M_spreads_15 rfl ?_
        refine aw_iload_n d_M_spreads_16 rfl ?_
        refine aw_icmp_ne (tgt := 24) d_M_spreads_17 (by decide) (fun c17 => ?_) (fun c17 => ?_)
        · refine aw_ldc (v := nI 1000000000) d_M_spreads_24 k_M_242 ?_
          refine aw_iastoreN d_M_spreads_26 rfl (by omega) (by decide) ?_
          refine aw_aload_n d_M_spreads_27 rfl ?_
          refine aw_get (k := 37) d_M_spreads_28 cl_Model k_M_94 (by decide) hM rfl ?_
          refine aw_iload_n d_M_spreads_31 rfl ?_
          refine aw_iload_n d_M_spreads_32 rfl ?_
          refine aw_iload_n d_M_spreads_33 rfl ?_
          refine aw_icmp_ne (tgt := 41) d_M_spreads_34 (by decide) (fun c34 => ?_) (fun c34 => ?_)
          · refine aw_iconst (v := nI 0) d_M_spreads_41 (by decide) ?_
            refine aw_iastoreN d_M_spreads_42 rfl (by omega) (by decide) ?_
            refine aw_iinc (v := nI ((t) + 1)) (L' := [some (.ref 56), some (.int (nI K)), some (.int (nI 0)), some (.int (nI ((t) + 1))), none, none, none, none]) d_M_spreads_43 rfl (nI_1 _) ⟨by decide, rfl⟩ rfl ?_
            refine aw_goto (tgt := 2) d_M_spreads_46 (by decide) ?_
            first
              | (have e1 := (nI_eq (b := 0) (by omega) (by decide)).mp c17
                 rw [he_80, he_81]
                 refine ih (t + 1) g7 _ _ (by omega) (fun k hk => ?_)
                 by_cases e : k = t
                 · subst e
                   rw [pk_us, pk_us, if_pos e1, if_pos e1]; exact ⟨rfl, rfl⟩
                 · rw [pk_un e, pk_un e]; exact e0 k (by omega))
              | (have e1 : ¬ t = 0 := fun z => c17 (by rw [z])
                 rw [he_80, he_81]
                 refine ih (t + 1) g7 _ _ (by omega) (fun k hk => ?_)
                 by_cases e : k = t
                 · subst e
                   rw [pk_us, pk_us, if_neg e1, if_neg e1]; exact ⟨rfl, rfl⟩
                 · rw [pk_un e, pk_un e]; exact e0 k (by omega))
              | exact absurd c17 c34
              | exact absurd c34 c17
          · refine aw_iconst (v := nI 1) d_M_spreads_37 (by decide) ?_
            refine aw_goto (tgt := 42) d_M_spreads_38 (by decide) ?_
            refine aw_iastoreN d_M_spreads_42 rfl (by omega) (by decide) ?_
            refine aw_iinc (v := nI ((t) + 1)) (L' := [some (.ref 56), some (.int (nI K)), some (.int (nI 0)), some (.int (nI ((t) + 1))), none, none, none, none]) d_M_spreads_43 rfl (nI_1 _) ⟨by decide, rfl⟩ rfl ?_
            refine aw_goto (tgt := 2) d_M_spreads_46 (by decide) ?_
            first
              | (have e1 := (nI_eq (b := 0) (by omega) (by decide)).mp c17
                 rw [he_80, he_81]
                 refine ih (t + 1) g7 _ _ (by omega) (fun k hk => ?_)
                 by_cases e : k = t
                 · subst e
                   rw [pk_us, pk_us, if_pos e1, if_pos e1]; exact ⟨rfl, rfl⟩
                 · rw [pk_un e, pk_un e]; exact e0 k (by omega))
              | (have e1 : ¬ t = 0 := fun z => c17 (by rw [z])
                 rw [he_80, he_81]
                 refine ih (t + 1) g7 _ _ (by omega) (fun k hk => ?_)
                 by_cases e : k = t
                 · subst e
                   rw [pk_us, pk_us, if_neg e1, if_neg e1]; exact ⟨rfl, rfl⟩
                 · rw [pk_un e, pk_un e]; exact e0 k (by omega))
              | exact absurd c17 c34
              | exact absurd c34 c17
        · refine aw_iconst (v := nI 0) d_M_spreads_20 (by decide) ?_
          refine aw_goto (tgt := 26) d_M_spreads_21 (by decide) ?_
          refine aw_iastoreN d_M_spreads_26 rfl (by omega) (by decide) ?_
          refine aw_aload_n d_M_spreads_27 rfl ?_
          refine aw_get (k := 37) d_M_spreads_28 cl_Model k_M_94 (by decide) hM rfl ?_
          refine aw_iload_n d_M_spreads_31 rfl ?_
          refine aw_iload_n d_M_spreads_32 rfl ?_
          refine aw_iload_n d_M_spreads_33 rfl ?_
          refine aw_icmp_ne (tgt := 41) d_M_spreads_34 (by decide) (fun c34 => ?_) (fun c34 => ?_)
          · refine aw_iconst (v := nI 0) d_M_spreads_41 (by decide) ?_
            refine aw_iastoreN d_M_spreads_42 rfl (by omega) (by decide) ?_
            refine aw_iinc (v := nI ((t) + 1)) (L' := [some (.ref 56), some (.int (nI K)), some (.int (nI 0)), some (.int (nI ((t) + 1))), none, none, none, none]) d_M_spreads_43 rfl (nI_1 _) ⟨by decide, rfl⟩ rfl ?_
            refine aw_goto (tgt := 2) d_M_spreads_46 (by decide) ?_
            first
              | (have e1 := (nI_eq (b := 0) (by omega) (by decide)).mp c17
                 rw [he_80, he_81]
                 refine ih (t + 1) g7 _ _ (by omega) (fun k hk => ?_)
                 by_cases e : k = t
                 · subst e
                   rw [pk_us, pk_us, if_pos e1, if_pos e1]; exact ⟨rfl, rfl⟩
                 · rw [pk_un e, pk_un e]; exact e0 k (by omega))
              | (have e1 : ¬ t = 0 := fun z => c17 (by rw [z])
                 rw [he_80, he_81]
                 refine ih (t + 1) g7 _ _ (by omega) (fun k hk => ?_)
                 by_cases e : k = t
                 · subst e
                   rw [pk_us, pk_us, if_neg e1, if_neg e1]; exact ⟨rfl, rfl⟩
                 · rw [pk_un e, pk_un e]; exact e0 k (by omega))
              | exact absurd c17 c34
              | exact absurd c34 c17
          · refine aw_iconst (v := nI 1) d_M_spreads_37 (by decide) ?_
            refine aw_goto (tgt := 42) d_M_spreads_38 (by decide) ?_
            refine aw_iastoreN d_M_spreads_42 rfl (by omega) (by decide) ?_
            refine aw_iinc (v := nI ((t) + 1)) (L' := [some (.ref 56), some (.int (nI K)), some (.int (nI 0)), some (.int (nI ((t) + 1))), none, none, none, none]) d_M_spreads_43 rfl (nI_1 _) ⟨by decide, rfl⟩ rfl ?_
            refine aw_goto (tgt := 2) d_M_spreads_46 (by decide) ?_
            first
              | (have e1 := (nI_eq (b := 0) (by omega) (by decide)).mp c17
                 rw [he_80, he_81]
                 refine ih (t + 1) g7 _ _ (by omega) (fun k hk => ?_)
                 by_cases e : k = t
                 · subst e
                   rw [pk_us, pk_us, if_pos e1, if_pos e1]; exact ⟨rfl, rfl⟩
                 · rw [pk_un e, pk_un e]; exact e0 k (by omega))
              | (have e1 : ¬ t = 0 := fun z => c17 (by rw [z])
                 rw [he_80, he_81]
                 refine ih (t + 1) g7 _ _ (by omega) (fun k hk => ?_)
                 by_cases e : k = t
                 · subst e
                   rw [pk_us, pk_us, if_neg e1, if_neg e1]; exact ⟨rfl, rfl⟩
                 · rw [pk_un e, pk_un e]; exact e0 k (by omega))
              | exact absurd c17 c34
              | exact absurd c34 c17
  refine aw_iconst (v := nI 0) d_M_spreads_0 (by decide) ?_
  refine aw_istore_n (L' := [some (.ref 56), some (.int (nI K)), some (.int (nI 0)), some (.int (nI 0)), none, none, none, none]) d_M_spreads_1 ⟨by decide, rfl⟩ rfl ?_
  exact aw_heap (he_h h72 h80 h81) (loop0 (TT (N_n N)) 0 g7 gf gr (by omega) (fun k hk => absurd hk (Nat.not_lt_zero _)))
