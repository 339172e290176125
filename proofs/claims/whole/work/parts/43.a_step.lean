/-! one step of the parser -/
def FxT (σ σ2 : St) : Prop := (∀ j, j ≠ 3 → j ≠ 4 → j ≠ 6 → j ≠ 7 → gi σ2 j = gi σ j) ∧ ∀ a, ga σ2 a = ga σ a
def FmG (σ σ2 : St) : Prop := (∀ j, j ≠ 4 → j ≠ 5 → j ≠ 6 → j ≠ 7 → gi σ2 j = gi σ j) ∧ ∀ a, ga σ2 a = ga σ a
def TkK (T : Nat) (bt : Nat → Nat) (f e : Nat) (σx σm : St) : Prop := (gi σx 3 = nI 0 ∧ gi σm 6 = nI 1) ∨ (gi σx 3 = nI 1 ∧ gi σm 6 = nI 0 ∧ f = T) ∨ (e ≤ T ∧ gi σx 7 = nI e ∧ gi σm 4 = nI e ∧ ((gi σx 3 = nI 2 ∧ gi σm 6 = nI 2 ∧ f < e ∧ (∀ j, f ≤ j → j < e → bLet (bt j) = true) ∧ gl σm = if e - f ≤ 7 then lN (cd bt f (e - f)) else -1) ∨ (gi σx 3 = nI 3 ∧ gi σm 6 = nI 3 ∧ ∃ n : Nat, n ≤ 9999 ∧ gi σx 4 = nI n ∧ gi σm 7 = nI n) ∨ (gi σx 3 = nI 4 ∧ gi σm 6 = nI 4)))
def Tk (T : Nat) (bt : Nat → Nat) (σx σm : St) : Prop := ∃ f e : Nat, f ≤ T ∧ gi σx 6 = nI f ∧ gi σm 5 = nI f ∧ TkK T bt f e σx σm
theorem tok_step (N : Nat) (hN : 260 < N) {T L p : Nat} {bt : Nat → Nat} {σx σm : St} (hp : p ≤ T) (c : PC T L bt σx σm) (hx : gi σx 7 = nI p) (hm : gi σm 4 = nI p) : ∃ σx2 σm2 : St, X5_step_f N σx = some (nI 0, σx2) ∧ X7_go_f N σm = some (nI 0, σm2) ∧ Tk T bt σx2 σm2 ∧ FxT σx σx2 ∧ FmG σm σm2 := by
  obtain ⟨c1, c2, c3, c4, c5, c6, c7⟩ := id c
  obtain ⟨q, q1, q2, q3, q4, q5⟩ := skip_l N (T - p) p N N σm c hm (by omega) (by omega) (by omega)
  have e1 : X5_step_f N σx = X5_step_l31 N (nI q) σx := by
    rw [← q4]
    unfold X5_step_f
    rw [bnd_e, hx]
  have e2 : X7_go_f N σm = X7_go_l52 N (si σm 4 (nI q)) := q5
  rw [e1, e2]
  unfold X5_step_l31 X5_step_l53 X5_step_l70 X7_go_l52 X7_go_l96 X7_go_l149 X7_go_l163 imin
  by_cases hq : q = T
  · subst hq
    by_cases hTL : q ≤ L
    · refine ⟨si (si (si σx 3 (nI 1)) 6 (nI q)) 7 (nI q), si (si (si σm 4 (nI q)) 5 (nI q)) 6 (nI 0), ?_, ?_, ⟨q, q, by omega, rfl, rfl, Or.inr (Or.inl ⟨rfl, rfl, rfl⟩)⟩, ⟨fun j j1 j2 j3 j4 => by simp only [gi_si, j1, j3, j4, if_false], fun a => rfl⟩, ⟨fun j j1 j2 j3 j4 => by simp only [gi_si, j1, j2, j3, if_false], fun a => rfl⟩⟩
      · simp (disch := omega) only [if_pos, if_neg, bnd_e, cal_e, chk_t, isZ_0, isZ_1, isZ_n0, isZ_n1, ald_n, ast_n, stb_n, litI, nI_add, pk_mul, pk_sub, Nat.add_sub_cancel, nar_0, nar_1, nI_leI, nI_ltI, nI_eq, Nat.not_lt_zero, Nat.le_zero_eq, Nat.zero_le, not_true_eq_false, not_false_eq_true, reduceIte, if_true, if_false, ite_self, Bool.false_eq_true, Nat.reduceEqDiff, Nat.reduceAdd, Nat.reduceMul, Nat.reduceSub, Nat.reduceLT, Nat.reduceLeDiff, Nat.reducePow, gi_si, gi_sg, gi_sa, gi_sl, ga_si, ga_sg2, ga_sa, ga_sl, gl_si, gl_sg, gl_sa, gl_sl, c3, c5]
      · simp (disch := omega) only [if_pos, if_neg, bnd_e, cal_e, chk_t, isZ_0, isZ_1, isZ_n0, isZ_n1, ald_n, ast_n, stb_n, litI, nI_add, pk_mul, pk_sub, Nat.add_sub_cancel, nar_0, nar_1, nI_leI, nI_ltI, nI_eq, Nat.not_lt_zero, Nat.le_zero_eq, Nat.zero_le, not_true_eq_false, not_false_eq_true, reduceIte, if_true, if_false, ite_self, Bool.false_eq_true, Nat.reduceEqDiff, Nat.reduceAdd, Nat.reduceMul, Nat.reduceSub, Nat.reduceLT, Nat.reduceLeDiff, Nat.reducePow, gi_si, gi_sg, gi_sa, gi_sl, ga_si, ga_sg2, ga_sa, ga_sl, gl_si, gl_sg, gl_sa, gl_sl, c4, c6]
    · refine ⟨si (si (si σx 3 (nI 0)) 6 (nI L)) 7 (nI L), si (si (si (si σm 4 (nI q)) 5 (nI q)) 5 (nI L)) 6 (nI 1), ?_, ?_, ⟨L, q, by omega, rfl, rfl, Or.inl ⟨rfl, rfl⟩⟩, ⟨fun j j1 j2 j3 j4 => by simp only [gi_si, j1, j3, j4, if_false], fun a => rfl⟩, ⟨fun j j1 j2 j3 j4 => by simp only [gi_si, j1, j2, j3, if_false], fun a => rfl⟩⟩
      · simp (disch := omega) only [if_pos, if_neg, bnd_e, cal_e, chk_t, isZ_0, isZ_1, isZ_n0, isZ_n1, ald_n, ast_n, stb_n, litI, nI_add, pk_mul, pk_sub, Nat.add_sub_cancel, nar_0, nar_1, nI_leI, nI_ltI, nI_eq, Nat.not_lt_zero, Nat.le_zero_eq, Nat.zero_le, not_true_eq_false, not_false_eq_true, reduceIte, if_true, if_false, ite_self, Bool.false_eq_true, Nat.reduceEqDiff, Nat.reduceAdd, Nat.reduceMul, Nat.reduceSub, Nat.reduceLT, Nat.reduceLeDiff, Nat.reducePow, gi_si, gi_sg, gi_sa, gi_sl, ga_si, ga_sg2, ga_sa, ga_sl, gl_si, gl_sg, gl_sa, gl_sl, c3, c5]
      · simp (disch := omega) only [if_pos, if_neg, bnd_e, cal_e, chk_t, isZ_0, isZ_1, isZ_n0, isZ_n1, ald_n, ast_n, stb_n, litI, nI_add, pk_mul, pk_sub, Nat.add_sub_cancel, nar_0, nar_1, nI_leI, nI_ltI, nI_eq, Nat.not_lt_zero, Nat.le_zero_eq, Nat.zero_le, not_true_eq_false, not_false_eq_true, reduceIte, if_true, if_false, ite_self, Bool.false_eq_true, Nat.reduceEqDiff, Nat.reduceAdd, Nat.reduceMul, Nat.reduceSub, Nat.reduceLT, Nat.reduceLeDiff, Nat.reducePow, gi_si, gi_sg, gi_sa, gi_sl, ga_si, ga_sg2, ga_sa, ga_sl, gl_si, gl_sg, gl_sa, gl_sl, c4, c6]
  by_cases hL : L ≤ q
  · refine ⟨si (si (si σx 3 (nI 0)) 6 (nI L)) 7 (nI L), si (si (si (si σm 4 (nI q)) 5 (nI q)) 5 (nI L)) 6 (nI 1), ?_, ?_, ⟨L, q, by omega, rfl, rfl, Or.inl ⟨rfl, rfl⟩⟩, ⟨fun j j1 j2 j3 j4 => by simp only [gi_si, j1, j3, j4, if_false], fun a => rfl⟩, ⟨fun j j1 j2 j3 j4 => by simp only [gi_si, j1, j2, j3, if_false], fun a => rfl⟩⟩
    · simp (disch := omega) only [if_pos, if_neg, bnd_e, cal_e, chk_t, isZ_0, isZ_1, isZ_n0, isZ_n1, ald_n, ast_n, stb_n, litI, nI_add, pk_mul, pk_sub, Nat.add_sub_cancel, nar_0, nar_1, nI_leI, nI_ltI, nI_eq, Nat.not_lt_zero, Nat.le_zero_eq, Nat.zero_le, not_true_eq_false, not_false_eq_true, reduceIte, if_true, if_false, ite_self, Bool.false_eq_true, Nat.reduceEqDiff, Nat.reduceAdd, Nat.reduceMul, Nat.reduceSub, Nat.reduceLT, Nat.reduceLeDiff, Nat.reducePow, gi_si, gi_sg, gi_sa, gi_sl, ga_si, ga_sg2, ga_sa, ga_sl, gl_si, gl_sg, gl_sa, gl_sl, c3, c5]
    · simp (disch := omega) only [if_pos, if_neg, bnd_e, cal_e, chk_t, isZ_0, isZ_1, isZ_n0, isZ_n1, ald_n, ast_n, stb_n, litI, nI_add, pk_mul, pk_sub, Nat.add_sub_cancel, nar_0, nar_1, nI_leI, nI_ltI, nI_eq, Nat.not_lt_zero, Nat.le_zero_eq, Nat.zero_le, not_true_eq_false, not_false_eq_true, reduceIte, if_true, if_false, ite_self, Bool.false_eq_true, Nat.reduceEqDiff, Nat.reduceAdd, Nat.reduceMul, Nat.reduceSub, Nat.reduceLT, Nat.reduceLeDiff, Nat.reducePow, gi_si, gi_sg, gi_sa, gi_sl, ga_si, ga_sg2, ga_sa, ga_sl, gl_si, gl_sg, gl_sa, gl_sl, c4, c6]
  obtain ⟨b1, b2, b3⟩ := c7 q (by omega)
  have k59 : (nI (bt q)).toInt8.toInt32 = nI 59 ↔ bt q = 59 := sb_eq b1 (by omega)
  have A : X7_isLetter_f N (nI (bt q)) (si (si σm 4 (nI q)) 5 (nI q)) = _ := m_letter N b1 _
  have B : X7_isDigit_f N (nI (bt q)) (si (si σm 4 (nI q)) 5 (nI q)) = _ := m_digit N b1 _
  by_cases h59 : bt q = 59
  · refine ⟨si (si (si σx 6 (nI q)) 7 (nI (q + 1))) 3 (nI 4), si (si (si (si σm 4 (nI q)) 5 (nI q)) 6 (nI 4)) 4 (nI (q + 1)), ?_, ?_, ⟨q, q + 1, by omega, rfl, rfl, Or.inr (Or.inr ⟨by omega, rfl, rfl, Or.inr (Or.inr ⟨rfl, rfl⟩)⟩)⟩, ⟨fun j j1 j2 j3 j4 => by simp only [gi_si, j1, j3, j4, if_false], fun a => rfl⟩, ⟨fun j j1 j2 j3 j4 => by simp only [gi_si, j1, j2, j3, if_false], fun a => rfl⟩⟩
    · unfold X5_readToken_f
      simp (disch := omega) only [if_pos, if_neg, bnd_e, cal_e, chk_t, isZ_0, isZ_1, isZ_n0, isZ_n1, ald_n, ast_n, stb_n, litI, nI_add, pk_mul, pk_sub, Nat.add_sub_cancel, nar_0, nar_1, nI_leI, nI_ltI, nI_eq, Nat.not_lt_zero, Nat.le_zero_eq, Nat.zero_le, not_true_eq_false, not_false_eq_true, reduceIte, if_true, if_false, ite_self, Bool.false_eq_true, Nat.reduceEqDiff, Nat.reduceAdd, Nat.reduceMul, Nat.reduceSub, Nat.reduceLT, Nat.reduceLeDiff, Nat.reducePow, gi_si, gi_sg, gi_sa, gi_sl, ga_si, ga_sg2, ga_sa, ga_sl, gl_si, gl_sg, gl_sa, gl_sl, c3, c5, b3, k59.mpr h59]
    · rw [if_neg (by rw [h59]; decide)] at A B
      simp (disch := omega) only [if_pos, if_neg, bnd_e, cal_e, chk_t, isZ_0, isZ_1, isZ_n0, isZ_n1, ald_n, ast_n, stb_n, litI, nI_add, pk_mul, pk_sub, Nat.add_sub_cancel, nar_0, nar_1, nI_leI, nI_ltI, nI_eq, Nat.not_lt_zero, Nat.le_zero_eq, Nat.zero_le, not_true_eq_false, not_false_eq_true, reduceIte, if_true, if_false, ite_self, Bool.false_eq_true, Nat.reduceEqDiff, Nat.reduceAdd, Nat.reduceMul, Nat.reduceSub, Nat.reduceLT, Nat.reduceLeDiff, Nat.reducePow, gi_si, gi_sg, gi_sa, gi_sl, ga_si, ga_sg2, ga_sa, ga_sl, gl_si, gl_sg, gl_sa, gl_sl, c4, c6, b2, A, B]
  have n59 : ¬ (nI (bt q)).toInt8.toInt32 = nI 59 := fun z => h59 (k59.mp z)
  by_cases hld : bLet (bt q) = true ∨ bDig (bt q) = true
  · have hTi : Ti bt q q 0 0 1 (if bLet (bt q) = true then 1 else 0) (nI 0) (nI 0) 0 := by
      refine ⟨by omega, by omega, by split <;> omega, fun _ _ => ⟨rfl, fun j j1 j2 => absurd j2 (by omega), ?_⟩, fun _ _ => ⟨rfl, fun _ => ⟨0, Nat.pow_pos (by omega), rfl, rfl⟩⟩, fun z => absurd z (by omega)⟩
      rw [if_pos (by omega), show q - q = 0 by omega]
      rfl
    obtain ⟨e, kx, km, v2, σm2, z1, z2, z3, z4, z5, z6, z7, z8⟩ := tok_l N (L := L) (σx := si σx 6 (nI q)) (by omega : q < T) hld rfl (T - q) q N N 0 0 1 (nI 0) (si (sl (si (si σm 4 (nI q)) 5 (nI q)) 0) 7 (nI 0)) ⟨c1, c2, c3, c4, c5, c6, c7⟩ rfl rfl (by omega) (by omega) hTi (by omega) (by omega)
    have hc := z7.1
    refine ⟨si (si (si (si σx 6 (nI q)) 7 (nI e)) 4 v2) 3 kx, σm2, ?_, ?_, ⟨q, e, by omega, rfl, ?_, ?_⟩, ⟨fun j j1 j2 j3 j4 => by simp only [gi_si, j1, j2, j3, j4, if_false], fun a => rfl⟩, ⟨fun j j1 j2 j3 j4 => ?_, fun a => z7.2 a⟩⟩
    · unfold X5_readToken_f
      simp (disch := omega) only [if_pos, if_neg, bnd_e, cal_e, chk_t, isZ_0, isZ_1, isZ_n0, isZ_n1, ald_n, ast_n, stb_n, litI, nI_add, pk_mul, pk_sub, Nat.add_sub_cancel, nar_0, nar_1, nI_leI, nI_ltI, nI_eq, Nat.not_lt_zero, Nat.le_zero_eq, Nat.zero_le, not_true_eq_false, not_false_eq_true, reduceIte, if_true, if_false, ite_self, Bool.false_eq_true, Nat.reduceEqDiff, Nat.reduceAdd, Nat.reduceMul, Nat.reduceSub, Nat.reduceLT, Nat.reduceLeDiff, Nat.reducePow, gi_si, gi_sg, gi_sa, gi_sl, ga_si, ga_sg2, ga_sa, ga_sl, gl_si, gl_sg, gl_sa, gl_sl, c3, c5, b3, n59, z3]
    · by_cases hl : bLet (bt q) = true
      · rw [if_pos hl] at A z4
        simp (disch := omega) only [if_pos, if_neg, bnd_e, cal_e, chk_t, isZ_0, isZ_1, isZ_n0, isZ_n1, ald_n, ast_n, stb_n, litI, nI_add, pk_mul, pk_sub, Nat.add_sub_cancel, nar_0, nar_1, nI_leI, nI_ltI, nI_eq, Nat.not_lt_zero, Nat.le_zero_eq, Nat.zero_le, not_true_eq_false, not_false_eq_true, reduceIte, if_true, if_false, ite_self, Bool.false_eq_true, Nat.reduceEqDiff, Nat.reduceAdd, Nat.reduceMul, Nat.reduceSub, Nat.reduceLT, Nat.reduceLeDiff, Nat.reducePow, gi_si, gi_sg, gi_sa, gi_sl, ga_si, ga_sg2, ga_sa, ga_sl, gl_si, gl_sg, gl_sa, gl_sl, c4, c6, b2, A]
        exact z4
      · have hd := hld.resolve_left hl
        rw [if_neg hl] at A z4
        rw [if_pos hd] at B
        simp (disch := omega) only [if_pos, if_neg, bnd_e, cal_e, chk_t, isZ_0, isZ_1, isZ_n0, isZ_n1, ald_n, ast_n, stb_n, litI, nI_add, pk_mul, pk_sub, Nat.add_sub_cancel, nar_0, nar_1, nI_leI, nI_ltI, nI_eq, Nat.not_lt_zero, Nat.le_zero_eq, Nat.zero_le, not_true_eq_false, not_false_eq_true, reduceIte, if_true, if_false, ite_self, Bool.false_eq_true, Nat.reduceEqDiff, Nat.reduceAdd, Nat.reduceMul, Nat.reduceSub, Nat.reduceLT, Nat.reduceLeDiff, Nat.reducePow, gi_si, gi_sg, gi_sa, gi_sl, ga_si, ga_sg2, ga_sa, ga_sl, gl_si, gl_sg, gl_sa, gl_sl, c4, c6, b2, A, B]
        exact z4
    · rw [z7.1 5 (by omega) (by omega) (by omega)]
      rfl
    · rcases z8 with ⟨w1, w2⟩ | ⟨w1, w2, w3, w4, w5⟩ | ⟨w1, w2, w3⟩
      · exact Or.inl ⟨w1, z6.trans w2⟩
      · exact Or.inr (Or.inr ⟨z2, rfl, z5, Or.inl ⟨w1, z6.trans w2, w3, w4, w5⟩⟩)
      · exact Or.inr (Or.inr ⟨z2, rfl, z5, Or.inr (Or.inl ⟨w1, z6.trans w2, w3⟩)⟩)
    · rw [z7.1 j j1 j3 j4]
      simp only [gi_si, gi_sl, j1, j2, j4, if_false]
  · have hl : ¬ bLet (bt q) = true := fun z => hld (Or.inl z)
    have hd : ¬ bDig (bt q) = true := fun z => hld (Or.inr z)
    refine ⟨si (si (si (si σx 6 (nI q)) 7 (nI q)) 4 (nI 0)) 3 (nI 0), si (si (si (si σm 4 (nI q)) 5 (nI q)) 6 (nI 1)) 4 (nI (q + 1)), ?_, ?_, ⟨q, q + 1, by omega, rfl, rfl, Or.inl ⟨rfl, rfl⟩⟩, ⟨fun j j1 j2 j3 j4 => by simp only [gi_si, j1, j2, j3, j4, if_false], fun a => rfl⟩, ⟨fun j j1 j2 j3 j4 => by simp only [gi_si, j1, j2, j3, if_false], fun a => rfl⟩⟩
    · obtain ⟨M, rfl⟩ : ∃ M, N = M + 1 := ⟨N - 1, by omega⟩
      have A2 := x_letter (M + 1) b1 (si σx 6 (nI q))
      have B2 := x_digit (M + 1) b1 (si σx 6 (nI q))
      rw [if_neg hl] at A2
      rw [if_neg hd] at B2
      unfold X5_readToken_f X5_readToken_l39 X5_readToken_l120 X5_kindOf_f X5_kindOf_l10
      simp (disch := omega) only [if_pos, if_neg, bnd_e, cal_e, chk_t, isZ_0, isZ_1, isZ_n0, isZ_n1, ald_n, ast_n, stb_n, litI, nI_add, pk_mul, pk_sub, Nat.add_sub_cancel, nar_0, nar_1, nI_leI, nI_ltI, nI_eq, Nat.not_lt_zero, Nat.le_zero_eq, Nat.zero_le, not_true_eq_false, not_false_eq_true, reduceIte, if_true, if_false, ite_self, Bool.false_eq_true, Nat.reduceEqDiff, Nat.reduceAdd, Nat.reduceMul, Nat.reduceSub, Nat.reduceLT, Nat.reduceLeDiff, Nat.reducePow, gi_si, gi_sg, gi_sa, gi_sl, ga_si, ga_sg2, ga_sa, ga_sl, gl_si, gl_sg, gl_sa, gl_sl, c3, c5, b3, n59, A2, B2]
    · rw [if_neg hl] at A
      rw [if_neg hd] at B
      simp (disch := omega) only [if_pos, if_neg, bnd_e, cal_e, chk_t, isZ_0, isZ_1, isZ_n0, isZ_n1, ald_n, ast_n, stb_n, litI, nI_add, pk_mul, pk_sub, Nat.add_sub_cancel, nar_0, nar_1, nI_leI, nI_ltI, nI_eq, Nat.not_lt_zero, Nat.le_zero_eq, Nat.zero_le, not_true_eq_false, not_false_eq_true, reduceIte, if_true, if_false, ite_self, Bool.false_eq_true, Nat.reduceEqDiff, Nat.reduceAdd, Nat.reduceMul, Nat.reduceSub, Nat.reduceLT, Nat.reduceLeDiff, Nat.reducePow, gi_si, gi_sg, gi_sa, gi_sl, ga_si, ga_sg2, ga_sa, ga_sl, gl_si, gl_sg, gl_sa, gl_sl, c4, c6, b2, A, B]
