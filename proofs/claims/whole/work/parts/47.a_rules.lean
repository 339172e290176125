/-! rules: the loop and the call -/
theorem Tk_end {T : Nat} {bt : Nat → Nat} {σx σm : St} (t : Tk T bt σx σm) : gi σx 3 = nI 1 ↔ gi σm 6 = nI 0 := by
  obtain ⟨f, e, t1, t2, t3, t4⟩ := t
  rcases t4 with ⟨z1, z2⟩ | ⟨z1, z2, z3⟩ | ⟨z0, zx, zm, ⟨z1, z2, z3, z4, z5⟩ | ⟨z1, z2, z3⟩ | ⟨z1, z2⟩⟩
  · rw [z1, z2]; decide
  · rw [z1, z2]; decide
  · rw [z1, z2]; decide
  · rw [z1, z2]; decide
  · rw [z1, z2]; decide
theorem rules_l (N : Nat) (hN : 260 < N) {T L : Nat} {bt : Nat → Nat} : ∀ (d n n2 m : Nat) (σx σm : St), PC T L bt σx σm → Tk T bt σx σm → RIa m σx σm → pc5 m + d = 5 → d < n → d < n2 → (∃ σx2 σm2, X3_read_l12 N n (nI (pc5 m)) σx = some (nI 0, σx2) ∧ X7_rules_l38 N n2 (nI (pc5 m)) σm = some (-nI 1 - gi σm2 9, σm2) ∧ Bad σx2 σm2 ∧ FxU σx σx2 ∧ FmU σm σm2) ∨ (∃ (m2 : Nat) (σx2 σm2 : St), X3_read_l12 N n (nI (pc5 m)) σx = X3_read_l41 N σx2 ∧ X7_rules_l38 N n2 (nI (pc5 m)) σm = X7_rules_l71 N N (nI (pc5 m2)) (nI 0) σm2 ∧ RIa m2 σx2 σm2 ∧ FxU σx σx2 ∧ FmU σm σm2)
  | d, 0, _, _, _, _, _, _, _, _, h2, _ => absurd h2 (by omega)
  | d, _ + 1, 0, _, _, _, _, _, _, _, _, h2 => absurd h2 (by omega)
  | d, n + 1, n2 + 1, m, σx, σm, c, t, h, hd, hn, hn2 => by
    have he := Tk_end t
    by_cases hE : gi σm 6 = nI 0
    · right
      have hEx := he.mpr hE
      refine ⟨m, σx, σm, ?_, ?_, h, ⟨fun _ _ => rfl, fun _ _ _ => rfl⟩, ⟨fun _ _ => rfl, fun _ _ => rfl⟩⟩
      · rw [X3_read_l12.eq_def]
        simp (disch := omega) only [if_pos, if_neg, bnd_e, cal_e, chk_t, isZ_0, isZ_1, isZ_n0, isZ_n1, ald_n, ast_n, stb_n, litI, nI_add, pk_mul, pk_sub, Nat.add_sub_cancel, nar_0, nar_1, nI_leI, nI_ltI, nI_eq, Nat.not_lt_zero, Nat.le_zero_eq, Nat.zero_le, not_true_eq_false, not_false_eq_true, reduceIte, if_true, if_false, ite_self, Bool.false_eq_true, Nat.reduceEqDiff, Nat.reduceAdd, Nat.reduceMul, Nat.reduceSub, Nat.reduceLT, Nat.reduceLeDiff, Nat.reducePow, gi_si, gi_sg, gi_sa, gi_sl, ga_si, ga_sg2, ga_sa, ga_sl, gl_si, gl_sg, gl_sa, gl_sl, hEx]
      · rw [X7_rules_l38.eq_def]
        simp (disch := omega) only [if_pos, if_neg, bnd_e, cal_e, chk_t, isZ_0, isZ_1, isZ_n0, isZ_n1, ald_n, ast_n, stb_n, litI, nI_add, pk_mul, pk_sub, Nat.add_sub_cancel, nar_0, nar_1, nI_leI, nI_ltI, nI_eq, Nat.not_lt_zero, Nat.le_zero_eq, Nat.zero_le, not_true_eq_false, not_false_eq_true, reduceIte, if_true, if_false, ite_self, Bool.false_eq_true, Nat.reduceEqDiff, Nat.reduceAdd, Nat.reduceMul, Nat.reduceSub, Nat.reduceLT, Nat.reduceLeDiff, Nat.reducePow, gi_si, gi_sg, gi_sa, gi_sl, ga_si, ga_sg2, ga_sa, ga_sl, gl_si, gl_sg, gl_sa, gl_sl, hE]
    · have hEx : ¬ gi σx 3 = nI 1 := fun z => hE (he.mp z)
      rcases rule_one N hN c t h hE with ⟨σx2, σm2, a1, a2, a3, a4, a5⟩ | ⟨σx2, σm1, σm2, m2, a1, a2, a3, a4, a5, a6, a7, a8, a9⟩
      · left
        refine ⟨σx2, σm2, ?_, ?_, a3, a4, a5⟩
        · rw [X3_read_l12.eq_def]
          simp (disch := omega) only [if_pos, if_neg, bnd_e, cal_e, chk_t, isZ_0, isZ_1, isZ_n0, isZ_n1, ald_n, ast_n, stb_n, litI, nI_add, pk_mul, pk_sub, Nat.add_sub_cancel, nar_0, nar_1, nI_leI, nI_ltI, nI_eq, Nat.not_lt_zero, Nat.le_zero_eq, Nat.zero_le, not_true_eq_false, not_false_eq_true, reduceIte, if_true, if_false, ite_self, Bool.false_eq_true, Nat.reduceEqDiff, Nat.reduceAdd, Nat.reduceMul, Nat.reduceSub, Nat.reduceLT, Nat.reduceLeDiff, Nat.reducePow, gi_si, gi_sg, gi_sa, gi_sl, ga_si, ga_sg2, ga_sa, ga_sl, gl_si, gl_sg, gl_sa, gl_sl, hEx, a1]
        · rw [X7_rules_l38.eq_def]
          simp (disch := omega) only [if_pos, if_neg, bnd_e, cal_e, chk_t, isZ_0, isZ_1, isZ_n0, isZ_n1, ald_n, ast_n, stb_n, litI, nI_add, pk_mul, pk_sub, Nat.add_sub_cancel, nar_0, nar_1, nI_leI, nI_ltI, nI_eq, Nat.not_lt_zero, Nat.le_zero_eq, Nat.zero_le, not_true_eq_false, not_false_eq_true, reduceIte, if_true, if_false, ite_self, Bool.false_eq_true, Nat.reduceEqDiff, Nat.reduceAdd, Nat.reduceMul, Nat.reduceSub, Nat.reduceLT, Nat.reduceLeDiff, Nat.reducePow, gi_si, gi_sg, gi_sa, gi_sl, ga_si, ga_sg2, ga_sa, ga_sl, gl_si, gl_sg, gl_sa, gl_sl, hE, a2]
      · have hp := pc5_le m2 a6.1
        have s1 : X3_read_l12 N (n + 1) (nI (pc5 m)) σx = X3_read_l12 N n (nI (pc5 m2)) σx2 := by
          rw [X3_read_l12.eq_def, a7]
          simp (disch := omega) only [if_pos, if_neg, bnd_e, cal_e, chk_t, isZ_0, isZ_1, isZ_n0, isZ_n1, ald_n, ast_n, stb_n, litI, nI_add, pk_mul, pk_sub, Nat.add_sub_cancel, nar_0, nar_1, nI_leI, nI_ltI, nI_eq, Nat.not_lt_zero, Nat.le_zero_eq, Nat.zero_le, not_true_eq_false, not_false_eq_true, reduceIte, if_true, if_false, ite_self, Bool.false_eq_true, Nat.reduceEqDiff, Nat.reduceAdd, Nat.reduceMul, Nat.reduceSub, Nat.reduceLT, Nat.reduceLeDiff, Nat.reducePow, gi_si, gi_sg, gi_sa, gi_sl, ga_si, ga_sg2, ga_sa, ga_sl, gl_si, gl_sg, gl_sa, gl_sl, hEx, a1]
        have s2 : X7_rules_l38 N (n2 + 1) (nI (pc5 m)) σm = X7_rules_l38 N n2 (nI (pc5 m2)) σm2 := by
          rw [X7_rules_l38.eq_def, a7]
          simp (disch := omega) only [if_pos, if_neg, bnd_e, cal_e, chk_t, isZ_0, isZ_1, isZ_n0, isZ_n1, ald_n, ast_n, stb_n, litI, nI_add, pk_mul, pk_sub, Nat.add_sub_cancel, nar_0, nar_1, nI_leI, nI_ltI, nI_eq, Nat.not_lt_zero, Nat.le_zero_eq, Nat.zero_le, not_true_eq_false, not_false_eq_true, reduceIte, if_true, if_false, ite_self, Bool.false_eq_true, Nat.reduceEqDiff, Nat.reduceAdd, Nat.reduceMul, Nat.reduceSub, Nat.reduceLT, Nat.reduceLeDiff, Nat.reducePow, gi_si, gi_sg, gi_sa, gi_sl, ga_si, ga_sg2, ga_sa, ga_sl, gl_si, gl_sg, gl_sa, gl_sl, hE, a2, a3]
        obtain ⟨d2, rfl⟩ : ∃ d2, d = d2 + 1 := ⟨d - 1, by omega⟩
        rcases rules_l N hN d2 n n2 m2 σx2 σm2 a4 a5 a6 (by omega) (by omega) (by omega) with ⟨x, y, b1, b2, b3, b4, b5⟩ | ⟨m3, x, y, b1, b2, b3, b4, b5⟩
        · exact Or.inl ⟨x, y, s1.trans b1, s2.trans b2, b3, a8.tr b4, a9.tr b5⟩
        · exact Or.inr ⟨m3, x, y, s1.trans b1, s2.trans b2, b3, a8.tr b4, a9.tr b5⟩
def R4 (k : Nat) (σx σm : St) : Prop := RC (fun j => gi σx (j + 27)) (fun j => ga σx (j + 30)) (ga σm 6) (ga σm 7) (ga σm 8) (ga σm 9) ∧ RV k (ga σx 14) (ga σx 15) (ga σx 16) (ga σm 14) (ga σm 17) ∧ RS (gi σx 9) (gi σm 12) (ga σx 4) (ga σx 5) (ga σx 6) (ga σx 7) (ga σx 8) (ga σx 9) (ga σx 10) (ga σm 10) (ga σm 11) (ga σm 12) (ga σm 13) (ga σm 19) (ga σm 15) (ga σm 16) ∧ RL0 (gi σx 10) (gi σx 11) (gi σx 12) (gi σx 13) (gi σm 14) (gi σm 13) (gi σm 15) (gi σm 16) (ga σx 17) (ga σx 18) (ga σx 19) (ga σx 20) (ga σx 21) (ga σx 22) (ga σm 30) (ga σm 23) (ga σm 20) (ga σm 21) (ga σm 22) (gi σx 9) (ga σm 10) (ga σm 11) (ga σx 11) (ga σx 12) (ga σx 13)
theorem R4_fr {k : Nat} {σx σm σx2 σm2 : St} (h : R4 k σx σm) (h1 : ∀ j, 9 ≤ j → gi σx2 j = gi σx j) (h2 : ∀ a, 4 ≤ a → ga σx2 a = ga σx a) (h3 : ∀ j, 12 ≤ j → gi σm2 j = gi σm j) (h4 : ∀ a, 6 ≤ a → ga σm2 a = ga σm a) : R4 k σx2 σm2 := by
  obtain ⟨q4, q5, q6, q7⟩ := h
  refine ⟨?_, ?_, ?_, ?_⟩
  · simp (disch := omega) only [h1, h2, h4]; exact q4
  · simp (disch := omega) only [h1, h2, h3, h4]; exact q5
  · simp (disch := omega) only [h1, h2, h3, h4]; exact q6
  · simp (disch := omega) only [h1, h2, h3, h4]; exact q7
theorem PC_of {k T L : Nat} {σx σm : St} (hT : T ≤ 260) (hL : L ≤ 240) (e1 : gi σx 0 = nI T) (e2 : gi σm 2 = nI T) (e3 : gi σx 5 = nI L) (e4 : gi σm 3 = nI L) (e5 : ∀ i, i < 260 → ∃ b : Nat, b < 256 ∧ ga σm 0 i = nI b ∧ ga σx 0 i = (nI b).toInt8.toInt32) : PC T L (fun i => (ga σm 0 i).toNatClampNeg) σx σm := by
  refine ⟨hT, hL, e1, e2, e3, e4, fun i hi => ?_⟩
  obtain ⟨b, b1, b2, b3⟩ := e5 i hi
  have e : (ga σm 0 i).toNatClampNeg = b := by rw [b2]; exact nI_clamp (by omega)
  simp only [e]
  exact ⟨b1, b2, b3⟩
/-- the class begins to read rules -/
def bX (σ : St) : St := si (si (si (si (si (sa (sa (sa (sa (sa (sg σ 2 (va_cpy tb_USUAL (ga σ 2) 0 0 5)) 3 0 (nI 0)) 3 1 (nI 0)) 3 2 (nI 0)) 3 3 (nI 0)) 3 4 (nI 0)) 8 (nI 0)) 5 (nI 120)) 1 (nI 0)) 2 (nI 0)) 7 (nI 0)
def bM (σ : St) (L : Nat) : St := si (si (si (si (si (si (si σ 0 (nI 0)) 2 (gi σ 1)) 1 (nI 0)) 3 (nI L)) 8 (nI 0)) 10 (nI 0)) 4 (nI 0)
def cM (σ : St) : St := sa (sa (sa (sa (sa σ 3 0 (ga σ 2 0)) 3 1 (ga σ 2 1)) 3 2 (ga σ 2 2)) 3 3 (ga σ 2 3)) 3 4 (ga σ 2 4)
def dM (σ : St) : St := sa (sa (sa (sa (sa σ 1 0 (ga σ 3 0)) 1 1 (ga σ 3 1)) 1 2 (ga σ 3 2)) 1 3 (ga σ 3 3)) 1 4 (ga σ 3 4)
theorem read_x (N : Nat) (hN : 260 < N) (σ σ2 : St) (h : X5_step_f N (bX σ) = some (nI 0, σ2)) : X3_read_f N σ = X3_read_l12 N N (nI 0) σ2 := by
  obtain ⟨M, rfl⟩ : ∃ M, N = M + 6 := ⟨N - 6, by omega⟩
  unfold bX at h
  unfold X3_read_f X3_startAnew_f X5_start_f
  simp (disch := omega) only [if_pos, if_neg, bnd_e, cal_e, chk_t, isZ_0, isZ_1, isZ_n0, isZ_n1, ald_n, ast_n, stb_n, litI, nI_add, pk_mul, pk_sub, Nat.add_sub_cancel, nar_0, nar_1, nI_leI, nI_ltI, nI_eq, Nat.not_lt_zero, Nat.le_zero_eq, Nat.zero_le, not_true_eq_false, not_false_eq_true, reduceIte, if_true, if_false, ite_self, Bool.false_eq_true, Nat.reduceEqDiff, Nat.reduceAdd, Nat.reduceMul, Nat.reduceSub, Nat.reduceLT, Nat.reduceLeDiff, Nat.reducePow, gi_si, gi_sg, gi_sa, gi_sl, ga_si, ga_sg2, ga_sa, ga_sl, gl_si, gl_sg, gl_sa, gl_sl, X3_startAnew_l15, h]
theorem read_m (N : Nat) (hN : 260 < N) (σ σ2 : St) (h : X7_go_f N (bM σ 120) = some (nI 0, σ2)) : X7_rules_f N σ = X7_rules_l38 N N (nI 0) (cM σ2) := by
  obtain ⟨M, rfl⟩ : ∃ M, N = M + 6 := ⟨N - 6, by omega⟩
  unfold bM at h
  unfold X7_rules_f X7_begins_f cM
  simp (disch := omega) only [if_pos, if_neg, bnd_e, cal_e, chk_t, isZ_0, isZ_1, isZ_n0, isZ_n1, ald_n, ast_n, stb_n, litI, nI_add, pk_mul, pk_sub, Nat.add_sub_cancel, nar_0, nar_1, nI_leI, nI_ltI, nI_eq, Nat.not_lt_zero, Nat.le_zero_eq, Nat.zero_le, not_true_eq_false, not_false_eq_true, reduceIte, if_true, if_false, ite_self, Bool.false_eq_true, Nat.reduceEqDiff, Nat.reduceAdd, Nat.reduceMul, Nat.reduceSub, Nat.reduceLT, Nat.reduceLeDiff, Nat.reducePow, gi_si, gi_sg, gi_sa, gi_sl, ga_si, ga_sg2, ga_sa, ga_sl, gl_si, gl_sg, gl_sa, gl_sl, X7_rules_l13, h]
theorem done_m (N : Nat) (hN : 260 < N) (σ : St) (r : Int32) : X7_rules_l71 N N r (nI 0) σ = some (r, dM σ) := by
  obtain ⟨M, rfl⟩ : ∃ M, N = M + 6 := ⟨N - 6, by omega⟩
  unfold dM
  simp (disch := omega) only [if_pos, if_neg, bnd_e, cal_e, chk_t, isZ_0, isZ_1, isZ_n0, isZ_n1, ald_n, ast_n, stb_n, litI, nI_add, pk_mul, pk_sub, Nat.add_sub_cancel, nar_0, nar_1, nI_leI, nI_ltI, nI_eq, Nat.not_lt_zero, Nat.le_zero_eq, Nat.zero_le, not_true_eq_false, not_false_eq_true, reduceIte, if_true, if_false, ite_self, Bool.false_eq_true, Nat.reduceEqDiff, Nat.reduceAdd, Nat.reduceMul, Nat.reduceSub, Nat.reduceLT, Nat.reduceLeDiff, Nat.reducePow, gi_si, gi_sg, gi_sa, gi_sl, ga_si, ga_sg2, ga_sa, ga_sl, gl_si, gl_sg, gl_sa, gl_sl, X7_rules_l71]
