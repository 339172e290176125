/-! clock: the loop -/
def BadF (f : Nat) (σx σm : St) : Prop := ∃ k : Nat, f ≤ 260 ∧ gi σx 1 = nI k ∧ gi σm 8 = nI k ∧ gi σx 2 = nI f
def okM (N : Nat) (x1 : Int32) (σ : St) : Option (Int32 × St) := ald σ 6 7 6 fun v1 => ast σ 6 7 x1 v1 fun s1 => X7_clock_l95 N N x1 0 s1
theorem clock_l (N : Nat) (hN : 260 < N) {T L : Nat} {bt : Nat → Nat} (x1 : Int32) : ∀ (d n n2 i : Nat) (σx σm : St), PC T L bt σx σm → Tk T bt σx σm → CIb i i σx σm → i + d = 8 → d < n → d < n2 → (∃ (f : Nat) (σx2 σm2 : St), X0_read_l24 N n (nI i) σx = some (nI 0, σx2) ∧ X7_clock_l37 N n2 x1 σm = some (-nI 1 - nI f, σm2) ∧ BadF f σx2 σm2 ∧ FxC σx σx2 ∧ FmC σm σm2) ∨ (∃ (m : Nat) (σx2 σm2 : St), X0_read_l24 N n (nI i) σx = some (nI 1, σx2) ∧ X7_clock_l37 N n2 x1 σm = okM N x1 σm2 ∧ CIb m m σx2 σm2 ∧ sumN (fun i => ga σm2 7 (48 + i)) m = 3600 ∧ FxC σx σx2 ∧ FmC σm σm2)
  | d, 0, _, _, _, _, _, _, _, _, h2, _ => absurd h2 (by omega)
  | d, _ + 1, 0, _, _, _, _, _, _, _, _, h2 => absurd h2 (by omega)
  | d, n + 1, n2 + 1, i, σx, σm, c, t, h, hd, hn, hn2 => by
    have he := Tk_end t
    obtain ⟨f, e, t1, t2, t3, t4⟩ := id t
    have hT := c.1
    obtain ⟨h1, h2, h3, h4, h5, h6, h7, h8, h9, h10⟩ := id h
    by_cases hE : gi σm 6 = nI 0
    · have hEx := he.mpr hE
      have hfT : f = T := by
        rcases t4 with ⟨z1, z2⟩ | ⟨z1, z2, z3⟩ | ⟨z0, zx, zm, ⟨z1, z2, z3, z4, z5⟩ | ⟨z1, z2, z3⟩ | ⟨z1, z2⟩⟩
        · rw [z2, nI_eq (by omega) (by omega)] at hE; omega
        · exact z3
        · rw [z2, nI_eq (by omega) (by omega)] at hE; omega
        · rw [z2, nI_eq (by omega) (by omega)] at hE; omega
        · rw [z2, nI_eq (by omega) (by omega)] at hE; omega
      by_cases hs : sumN (fun i => ga σm 7 (48 + i)) i = 3600
      · right
        refine ⟨i, σx, σm, ?_, ?_, h, hs, FxC.rf σx, FmC.rf σm⟩
        · rw [X0_read_l24.eq_def]
          unfold X0_read_l54 X0_read_l72
          simp (disch := omega) only [if_pos, if_neg, bnd_e, cal_e, chk_t, isZ_0, isZ_1, isZ_n0, isZ_n1, ald_n, ast_n, stb_n, litI, nI_add, pk_mul, pk_sub, Nat.add_sub_cancel, nar_0, nar_1, nI_leI, nI_ltI, nI_eq, Nat.not_lt_zero, Nat.le_zero_eq, Nat.zero_le, not_true_eq_false, not_false_eq_true, reduceIte, if_true, if_false, ite_self, Bool.false_eq_true, Nat.reduceEqDiff, Nat.reduceAdd, Nat.reduceMul, Nat.reduceSub, Nat.reduceLT, Nat.reduceLeDiff, Nat.reducePow, gi_si, gi_sg, gi_sa, gi_sl, ga_si, ga_sg2, ga_sa, ga_sl, gl_si, gl_sg, gl_sa, gl_sl, hEx, h5]
        · rw [X7_clock_l37.eq_def]
          unfold okM
          simp only [li0, hE, if_true, h6, hs, li3600, if_pos (nI_le (Nat.le_refl 3600) (by omega : 3600 < 2 ^ 31))]
      · left
        refine ⟨T, si (si σx 1 (nI 4)) 2 (nI T), si σm 8 (nI 4), ?_, ?_, ⟨4, by omega, rfl, rfl, rfl⟩, ⟨fun j hj => by rw [gi_si, if_neg (by omega), gi_si, if_neg (by omega)], fun _ _ => rfl⟩, ⟨fun j hj => by rw [gi_si, if_neg (by omega)], fun _ _ => rfl, fun _ _ => rfl, fun _ _ => ⟨rfl, rfl, rfl⟩⟩⟩
        · rw [X0_read_l24.eq_def]
          unfold X0_read_l54 X5_refuse_f
          simp (disch := omega) only [if_pos, if_neg, bnd_e, cal_e, chk_t, isZ_0, isZ_1, isZ_n0, isZ_n1, ald_n, ast_n, stb_n, litI, nI_add, pk_mul, pk_sub, Nat.add_sub_cancel, nar_0, nar_1, nI_leI, nI_ltI, nI_eq, Nat.not_lt_zero, Nat.le_zero_eq, Nat.zero_le, not_true_eq_false, not_false_eq_true, reduceIte, if_true, if_false, ite_self, Bool.false_eq_true, Nat.reduceEqDiff, Nat.reduceAdd, Nat.reduceMul, Nat.reduceSub, Nat.reduceLT, Nat.reduceLeDiff, Nat.reducePow, gi_si, gi_sg, gi_sa, gi_sl, ga_si, ga_sg2, ga_sa, ga_sl, gl_si, gl_sg, gl_sa, gl_sl, hEx, h5, t2, hfT]
        · rw [X7_clock_l37.eq_def]
          have c4 := c.2.2.2.1
          simp (disch := omega) only [if_pos, if_neg, bnd_e, cal_e, chk_t, isZ_0, isZ_1, isZ_n0, isZ_n1, ald_n, ast_n, stb_n, litI, nI_add, pk_mul, pk_sub, Nat.add_sub_cancel, nar_0, nar_1, nI_leI, nI_ltI, nI_eq, Nat.not_lt_zero, Nat.le_zero_eq, Nat.zero_le, not_true_eq_false, not_false_eq_true, reduceIte, if_true, if_false, ite_self, Bool.false_eq_true, Nat.reduceEqDiff, Nat.reduceAdd, Nat.reduceMul, Nat.reduceSub, Nat.reduceLT, Nat.reduceLeDiff, Nat.reducePow, gi_si, gi_sg, gi_sa, gi_sl, ga_si, ga_sg2, ga_sa, ga_sl, gl_si, gl_sg, gl_sa, gl_sl, hE, h6, c4]
    · have hEx : ¬ gi σx 3 = nI 1 := fun z => hE (he.mp z)
      rcases item_both N hN c t h with ⟨σx2, σm2, a1, a2, ⟨bk, bf, b0, b1, b2, b3, b4⟩, a4, a5⟩ | ⟨σx2, σm2, a1, a2, a3, a4, a5, a6, a7⟩
      · left
        refine ⟨bf, σx2, σm2, ?_, ?_, ⟨bk, b0, b1, b2, b3⟩, a4, a5⟩
        · rw [X0_read_l24.eq_def]
          simp (disch := omega) only [if_pos, if_neg, bnd_e, cal_e, chk_t, isZ_0, isZ_1, isZ_n0, isZ_n1, ald_n, ast_n, stb_n, litI, nI_add, pk_mul, pk_sub, Nat.add_sub_cancel, nar_0, nar_1, nI_leI, nI_ltI, nI_eq, Nat.not_lt_zero, Nat.le_zero_eq, Nat.zero_le, not_true_eq_false, not_false_eq_true, reduceIte, if_true, if_false, ite_self, Bool.false_eq_true, Nat.reduceEqDiff, Nat.reduceAdd, Nat.reduceMul, Nat.reduceSub, Nat.reduceLT, Nat.reduceLeDiff, Nat.reducePow, gi_si, gi_sg, gi_sa, gi_sl, ga_si, ga_sg2, ga_sa, ga_sl, gl_si, gl_sg, gl_sa, gl_sl, hEx, a1]
        · rw [X7_clock_l37.eq_def]
          simp (disch := omega) only [if_pos, if_neg, bnd_e, cal_e, chk_t, isZ_0, isZ_1, isZ_n0, isZ_n1, ald_n, ast_n, stb_n, litI, nI_add, pk_mul, pk_sub, Nat.add_sub_cancel, nar_0, nar_1, nI_leI, nI_ltI, nI_eq, Nat.not_lt_zero, Nat.le_zero_eq, Nat.zero_le, not_true_eq_false, not_false_eq_true, reduceIte, if_true, if_false, ite_self, Bool.false_eq_true, Nat.reduceEqDiff, Nat.reduceAdd, Nat.reduceMul, Nat.reduceSub, Nat.reduceLT, Nat.reduceLeDiff, Nat.reducePow, gi_si, gi_sg, gi_sa, gi_sl, ga_si, ga_sg2, ga_sa, ga_sl, gl_si, gl_sg, gl_sa, gl_sl, hE, a2, b4]
      · have hp := a5.1
        have s1 : X0_read_l24 N (n + 1) (nI i) σx = X0_read_l24 N n (nI (i + 1)) σx2 := by
          rw [X0_read_l24.eq_def]
          simp (disch := omega) only [if_pos, if_neg, bnd_e, cal_e, chk_t, isZ_0, isZ_1, isZ_n0, isZ_n1, ald_n, ast_n, stb_n, litI, nI_add, pk_mul, pk_sub, Nat.add_sub_cancel, nar_0, nar_1, nI_leI, nI_ltI, nI_eq, Nat.not_lt_zero, Nat.le_zero_eq, Nat.zero_le, not_true_eq_false, not_false_eq_true, reduceIte, if_true, if_false, ite_self, Bool.false_eq_true, Nat.reduceEqDiff, Nat.reduceAdd, Nat.reduceMul, Nat.reduceSub, Nat.reduceLT, Nat.reduceLeDiff, Nat.reducePow, gi_si, gi_sg, gi_sa, gi_sl, ga_si, ga_sg2, ga_sa, ga_sl, gl_si, gl_sg, gl_sa, gl_sl, hEx, a1]
        have s2 : X7_clock_l37 N (n2 + 1) x1 σm = X7_clock_l37 N n2 x1 σm2 := by
          rw [X7_clock_l37.eq_def]
          simp (disch := omega) only [if_pos, if_neg, bnd_e, cal_e, chk_t, isZ_0, isZ_1, isZ_n0, isZ_n1, ald_n, ast_n, stb_n, litI, nI_add, pk_mul, pk_sub, Nat.add_sub_cancel, nar_0, nar_1, nI_leI, nI_ltI, nI_eq, Nat.not_lt_zero, Nat.le_zero_eq, Nat.zero_le, not_true_eq_false, not_false_eq_true, reduceIte, if_true, if_false, ite_self, Bool.false_eq_true, Nat.reduceEqDiff, Nat.reduceAdd, Nat.reduceMul, Nat.reduceSub, Nat.reduceLT, Nat.reduceLeDiff, Nat.reducePow, gi_si, gi_sg, gi_sa, gi_sl, ga_si, ga_sg2, ga_sa, ga_sl, gl_si, gl_sg, gl_sa, gl_sl, hE, a2]
        obtain ⟨d2, rfl⟩ : ∃ d2, d = d2 + 1 := ⟨d - 1, by omega⟩
        rcases clock_l N hN x1 d2 n n2 (i + 1) σx2 σm2 a3 a4 a5 (by omega) (by omega) (by omega) with ⟨g, x, y, b1, b2, b3, b4, b5⟩ | ⟨m3, x, y, b1, b2, b3, b4, b5, b6⟩
        · exact Or.inl ⟨g, x, y, s1.trans b1, s2.trans b2, b3, a6.tr b4, a7.tr b5⟩
        · exact Or.inr ⟨m3, x, y, s1.trans b1, s2.trans b2, b3, b4, a6.tr b5, a7.tr b6⟩
theorem become_l (N : Nat) {j : Nat} (hj : j < 6) : ∀ (d n i : Nat) (σ : St), i + d = 8 → d < n → ∃ σ2 : St, X0_become_l26 N n j (nI i) σ = some (nI 0, σ2) ∧ (∀ q, gi σ2 q = gi σ q) ∧ (∀ a, a < 30 + 4 * j ∨ 34 + 4 * j ≤ a → ga σ2 a = ga σ a) ∧ (∀ q, q < i → ga σ2 (30 + 4 * j) q = ga σ (30 + 4 * j) q ∧ ga σ2 (31 + 4 * j) q = ga σ (31 + 4 * j) q ∧ ga σ2 (32 + 4 * j) q = ga σ (32 + 4 * j) q ∧ ga σ2 (33 + 4 * j) q = ga σ (33 + 4 * j) q) ∧ (∀ q, i ≤ q → q < 8 → ga σ2 (30 + 4 * j) q = ga σ 54 q ∧ ga σ2 (31 + 4 * j) q = ga σ 55 q ∧ ga σ2 (32 + 4 * j) q = ga σ 56 q ∧ ga σ2 (33 + 4 * j) q = vp_nar .boolean (ga σ 57 q))
  | d, 0, _, _, _, h2 => absurd h2 (by omega)
  | 0, n + 1, i, σ, h1, h2 => by
    refine ⟨σ, ?_, fun _ => rfl, fun _ _ => rfl, fun _ _ => ⟨rfl, rfl, rfl, rfl⟩, fun q q1 q2 => absurd q1 (by omega)⟩
    rw [X0_become_l26.eq_def]
    simp (disch := omega) only [if_pos, if_neg, bnd_e, cal_e, chk_t, isZ_0, isZ_1, isZ_n0, isZ_n1, ald_n, ast_n, stb_n, litI, nI_add, pk_mul, pk_sub, Nat.add_sub_cancel, nar_0, nar_1, nI_leI, nI_ltI, nI_eq, Nat.not_lt_zero, Nat.le_zero_eq, Nat.zero_le, not_true_eq_false, not_false_eq_true, reduceIte, if_true, if_false, ite_self, Bool.false_eq_true, Nat.reduceEqDiff, Nat.reduceAdd, Nat.reduceMul, Nat.reduceSub, Nat.reduceLT, Nat.reduceLeDiff, Nat.reducePow, gi_si, gi_sg, gi_sa, gi_sl, ga_si, ga_sg2, ga_sa, ga_sl, gl_si, gl_sg, gl_sa, gl_sl]
  | d + 1, n + 1, i, σ, h1, h2 => by
    obtain ⟨σ2, a1, a2, a3, a4, a5⟩ := become_l N hj d n (i + 1) (sa (sa (sa (sa σ (30 + 4 * j) i (ga σ 54 i)) (31 + 4 * j) i (ga σ 55 i)) (32 + 4 * j) i (ga σ 56 i)) (33 + 4 * j) i (vp_nar .boolean (ga σ 57 i))) (by omega) (by omega)
    refine ⟨σ2, ?_, fun q => a2 q, fun a ha => ?_, fun q hq => ?_, fun q q1 q2 => ?_⟩
    · rw [← a1, X0_become_l26.eq_def]
      simp (disch := omega) only [ald_n, ast_n, bnd_e, litI, nI_add, nI_leI, if_neg, if_pos, ga_sa, Nat.add_zero, show 30 + 4 * j + 1 = 31 + 4 * j by omega, show 30 + 4 * j + 2 = 32 + 4 * j by omega, show 30 + 4 * j + 3 = 33 + 4 * j by omega]
    · rw [a3 a ha]
      simp (disch := omega) only [ga_sa, if_neg]
    · obtain ⟨b1, b2, b3, b4⟩ := a4 q (by omega)
      rw [b1, b2, b3, b4]
      refine ⟨?_, ?_, ?_, ?_⟩ <;> simp (disch := omega) only [ga_sa, if_neg, if_pos, if_true, upd_e]
    · by_cases z : q = i
      · subst z
        obtain ⟨b1, b2, b3, b4⟩ := a4 q (by omega)
        rw [b1, b2, b3, b4]
        refine ⟨?_, ?_, ?_, ?_⟩ <;> simp (disch := omega) only [ga_sa, if_neg, if_pos, if_true, upd_e]
      · obtain ⟨b1, b2, b3, b4⟩ := a5 q (by omega) q2
        rw [b1, b2, b3, b4]
        refine ⟨?_, ?_, ?_, ?_⟩ <;> simp (disch := omega) only [ga_sa, if_neg]
