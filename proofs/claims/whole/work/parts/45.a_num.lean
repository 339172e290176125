/-! numbers, faults, frames of the parser -/
theorem PC_fr {T L : Nat} {bt : Nat → Nat} {σx σm σx2 σm2 : St} (h : PC T L bt σx σm) (fx : FxT σx σx2) (fm : FmG σm σm2) : PC T L bt σx2 σm2 := by
  obtain ⟨c1, c2, c3, c4, c5, c6, c7⟩ := h
  refine ⟨c1, c2, ?_, ?_, ?_, ?_, ?_⟩
  · rw [fx.1 0 (by omega) (by omega) (by omega) (by omega)]; exact c3
  · rw [fm.1 2 (by omega) (by omega) (by omega) (by omega)]; exact c4
  · rw [fx.1 5 (by omega) (by omega) (by omega) (by omega)]; exact c5
  · rw [fm.1 3 (by omega) (by omega) (by omega) (by omega)]; exact c6
  · rw [fx.2 0, fm.2 0]; exact c7
/-- both refused, with the same fault at the same place -/
def Bad (σx σm : St) : Prop := ∃ k f : Nat, f ≤ 260 ∧ gi σx 1 = nI k ∧ gi σm 8 = nI k ∧ gi σx 2 = nI f ∧ gi σm 9 = nI f
/-- what a refusal may touch besides -/
def FxR (σ σ2 : St) : Prop := (∀ j, j ≠ 1 → j ≠ 2 → j ≠ 3 → j ≠ 4 → j ≠ 6 → j ≠ 7 → gi σ2 j = gi σ j) ∧ ∀ a, ga σ2 a = ga σ a
def FmR (σ σ2 : St) : Prop := (∀ j, j ≠ 4 → j ≠ 5 → j ≠ 6 → j ≠ 7 → j ≠ 8 → j ≠ 9 → gi σ2 j = gi σ j) ∧ ∀ a, ga σ2 a = ga σ a
theorem FxT.r {σ σ2 : St} (h : FxT σ σ2) : FxR σ σ2 := ⟨fun j _ _ j3 j4 j6 j7 => h.1 j j3 j4 j6 j7, h.2⟩
theorem FmG.r {σ σ2 : St} (h : FmG σ σ2) : FmR σ σ2 := ⟨fun j j4 j5 j6 j7 _ _ => h.1 j j4 j5 j6 j7, h.2⟩
theorem FxR.tr {σ σ2 σ3 : St} (h : FxR σ σ2) (k : FxR σ2 σ3) : FxR σ σ3 := ⟨fun j j1 j2 j3 j4 j6 j7 => (k.1 j j1 j2 j3 j4 j6 j7).trans (h.1 j j1 j2 j3 j4 j6 j7), fun a => (k.2 a).trans (h.2 a)⟩
theorem FmR.tr {σ σ2 σ3 : St} (h : FmR σ σ2) (k : FmR σ2 σ3) : FmR σ σ3 := ⟨fun j j1 j2 j3 j4 j6 j7 => (k.1 j j1 j2 j3 j4 j6 j7).trans (h.1 j j1 j2 j3 j4 j6 j7), fun a => (k.2 a).trans (h.2 a)⟩
theorem FxR.rf (σ : St) : FxR σ σ := ⟨fun _ _ _ _ _ _ _ => rfl, fun _ => rfl⟩
theorem FmR.rf (σ : St) : FmR σ σ := ⟨fun _ _ _ _ _ _ _ => rfl, fun _ => rfl⟩
/-- a refusal by fault k, or by fault 1 where the token is none -/
theorem bad_both (N : Nat) {T f : Nat} {σx σm : St} (hT : T ≤ 260) (hf : f ≤ T) (h6 : gi σx 6 = nI f) (h5 : gi σm 5 = nI f) (kx km : Nat) (hk : (gi σm 6 = nI 1 ∧ kx = 1) ∨ (¬ gi σm 6 = nI 1 ∧ kx = km)) : ∃ σx2 σm2 : St, X5_refuse_f N (nI kx) σx = some (nI 0, σx2) ∧ X7_bad_f N (nI km) σm = some (nI 0, σm2) ∧ Bad σx2 σm2 ∧ FxR σx σx2 ∧ FmR σm σm2 := by
  refine ⟨si (si σx 1 (nI kx)) 2 (nI f), si (si σm 8 (nI kx)) 9 (nI f), ?_, ?_, ⟨kx, f, by omega, rfl, rfl, rfl, rfl⟩, ⟨fun j j1 j2 _ _ _ _ => by simp only [gi_si, j1, j2, if_false], fun a => rfl⟩, ⟨fun j _ _ _ _ j8 j9 => by simp only [gi_si, j8, j9, if_false], fun a => rfl⟩⟩
  · unfold X5_refuse_f
    simp (disch := omega) only [if_pos, if_neg, bnd_e, cal_e, chk_t, isZ_0, isZ_1, isZ_n0, isZ_n1, ald_n, ast_n, stb_n, litI, nI_add, pk_mul, pk_sub, Nat.add_sub_cancel, nar_0, nar_1, nI_leI, nI_ltI, nI_eq, Nat.not_lt_zero, Nat.le_zero_eq, Nat.zero_le, not_true_eq_false, not_false_eq_true, reduceIte, if_true, if_false, ite_self, Bool.false_eq_true, Nat.reduceEqDiff, Nat.reduceAdd, Nat.reduceMul, Nat.reduceSub, Nat.reduceLT, Nat.reduceLeDiff, Nat.reducePow, gi_si, gi_sg, gi_sa, gi_sl, ga_si, ga_sg2, ga_sa, ga_sl, gl_si, gl_sg, gl_sa, gl_sl, h6]
  · unfold X7_bad_f X7_bad_l14
    rcases hk with ⟨z, rfl⟩ | ⟨z, rfl⟩
    · simp (disch := omega) only [if_pos, if_neg, bnd_e, cal_e, chk_t, isZ_0, isZ_1, isZ_n0, isZ_n1, ald_n, ast_n, stb_n, litI, nI_add, pk_mul, pk_sub, Nat.add_sub_cancel, nar_0, nar_1, nI_leI, nI_ltI, nI_eq, Nat.not_lt_zero, Nat.le_zero_eq, Nat.zero_le, not_true_eq_false, not_false_eq_true, reduceIte, if_true, if_false, ite_self, Bool.false_eq_true, Nat.reduceEqDiff, Nat.reduceAdd, Nat.reduceMul, Nat.reduceSub, Nat.reduceLT, Nat.reduceLeDiff, Nat.reducePow, gi_si, gi_sg, gi_sa, gi_sl, ga_si, ga_sg2, ga_sa, ga_sl, gl_si, gl_sg, gl_sa, gl_sl, z, h5]
    · simp only [li1, z, if_false]
      simp (disch := omega) only [if_pos, if_neg, bnd_e, cal_e, chk_t, isZ_0, isZ_1, isZ_n0, isZ_n1, ald_n, ast_n, stb_n, litI, nI_add, pk_mul, pk_sub, Nat.add_sub_cancel, nar_0, nar_1, nI_leI, nI_ltI, nI_eq, Nat.not_lt_zero, Nat.le_zero_eq, Nat.zero_le, not_true_eq_false, not_false_eq_true, reduceIte, if_true, if_false, ite_self, Bool.false_eq_true, Nat.reduceEqDiff, Nat.reduceAdd, Nat.reduceMul, Nat.reduceSub, Nat.reduceLT, Nat.reduceLeDiff, Nat.reducePow, gi_si, gi_sg, gi_sa, gi_sl, ga_si, ga_sg2, ga_sa, ga_sl, gl_si, gl_sg, gl_sa, gl_sl, h5]
theorem Tk_pos {T f e : Nat} {bt : Nat → Nat} {σx σm : St} {a : Nat} (ha : 2 ≤ a) (ha4 : a ≤ 4) (t : TkK T bt f e σx σm) (h : gi σm 6 = nI a) : e ≤ T ∧ gi σx 7 = nI e ∧ gi σm 4 = nI e := by
  rcases t with ⟨z1, z2⟩ | ⟨z1, z2, z3⟩ | ⟨z0, zx, zm, z⟩
  · rw [z2, nI_eq (by omega) (by omega)] at h
    omega
  · rw [z2, nI_eq (by omega) (by omega)] at h
    omega
  · exact ⟨z0, zx, zm⟩
/-- the next token is a number between lo and hi, in both, or both refuse -/
theorem num_both (N : Nat) (hN : 260 < N) {T L p lo hi : Nat} {bt : Nat → Nat} {σx σm : St} (hlo : lo ≤ 9999) (hhi : hi ≤ 9999) (hp : p ≤ T) (c : PC T L bt σx σm) (hx : gi σx 7 = nI p) (hm : gi σm 4 = nI p) : ∃ σx2 σm1 : St, X7_go_f N σm = some (nI 0, σm1) ∧ FmG σm σm1 ∧ ((∃ σm2, X5_stepToNumber_f N (nI lo) (nI hi) σx = some (nI 0, σx2) ∧ X7_readNumber_f N (nI lo) (nI hi) σm1 = some (nI 0, σm2) ∧ Bad σx2 σm2 ∧ FxR σx σx2 ∧ FmR σm σm2) ∨ (∃ n e : Nat, X5_stepToNumber_f N (nI lo) (nI hi) σx = some (nI 1, σx2) ∧ X7_readNumber_f N (nI lo) (nI hi) σm1 = some (nI 1, σm1) ∧ lo ≤ n ∧ n ≤ hi ∧ e ≤ T ∧ gi σx2 4 = nI n ∧ gi σm1 7 = nI n ∧ gi σx2 7 = nI e ∧ gi σm1 4 = nI e ∧ FxT σx σx2 ∧ PC T L bt σx2 σm1 ∧ Tk T bt σx2 σm1 ∧ gi σm1 6 = nI 3)) := by
  obtain ⟨σx1, σm1, s1, s2, t, fx, fm⟩ := tok_step N hN hp c hx hm
  have c' := PC_fr c fx fm
  have hT := c.1
  obtain ⟨f, e, t1, t2, t3, t4⟩ := id t
  have no : ∀ a b : Nat, a ≤ 4 → b ≤ 4 → a ≠ 3 → b ≠ 3 → gi σx1 3 = nI a → gi σm1 6 = nI b → ∃ σx2 σm2, X5_stepToNumber_f N (nI lo) (nI hi) σx = some (nI 0, σx2) ∧ X7_readNumber_f N (nI lo) (nI hi) σm1 = some (nI 0, σm2) ∧ Bad σx2 σm2 ∧ FxR σx σx2 ∧ FmR σm σm2 := by
    intro a b a4 b4 a3 b3 ea eb
    obtain ⟨σx2, σm2, r1, r2, r3, r4, r5⟩ := bad_both N hT t1 t2 t3 1 1 (by by_cases z : gi σm1 6 = nI 1 <;> simp [z])
    refine ⟨σx2, σm2, ?_, ?_, r3, fx.r.tr r4, fm.r.tr r5⟩
    · unfold X5_stepToNumber_f
      simp (disch := omega) only [if_pos, if_neg, bnd_e, cal_e, chk_t, isZ_0, isZ_1, isZ_n0, isZ_n1, ald_n, ast_n, stb_n, litI, nI_add, pk_mul, pk_sub, Nat.add_sub_cancel, nar_0, nar_1, nI_leI, nI_ltI, nI_eq, Nat.not_lt_zero, Nat.le_zero_eq, Nat.zero_le, not_true_eq_false, not_false_eq_true, reduceIte, if_true, if_false, ite_self, Bool.false_eq_true, Nat.reduceEqDiff, Nat.reduceAdd, Nat.reduceMul, Nat.reduceSub, Nat.reduceLT, Nat.reduceLeDiff, Nat.reducePow, gi_si, gi_sg, gi_sa, gi_sl, ga_si, ga_sg2, ga_sa, ga_sl, gl_si, gl_sg, gl_sa, gl_sl, s1, ea, r1]
    · unfold X7_readNumber_f
      simp (disch := omega) only [if_pos, if_neg, bnd_e, cal_e, chk_t, isZ_0, isZ_1, isZ_n0, isZ_n1, ald_n, ast_n, stb_n, litI, nI_add, pk_mul, pk_sub, Nat.add_sub_cancel, nar_0, nar_1, nI_leI, nI_ltI, nI_eq, Nat.not_lt_zero, Nat.le_zero_eq, Nat.zero_le, not_true_eq_false, not_false_eq_true, reduceIte, if_true, if_false, ite_self, Bool.false_eq_true, Nat.reduceEqDiff, Nat.reduceAdd, Nat.reduceMul, Nat.reduceSub, Nat.reduceLT, Nat.reduceLeDiff, Nat.reducePow, gi_si, gi_sg, gi_sa, gi_sl, ga_si, ga_sg2, ga_sa, ga_sl, gl_si, gl_sg, gl_sa, gl_sl, eb, r2]
  rcases id t4 with ⟨z1, z2⟩ | ⟨z1, z2, z3⟩ | ⟨z0, zx, zm, ⟨z1, z2, z3, z4, z5⟩ | ⟨z1, z2, n, z3, z4, z5⟩ | ⟨z1, z2⟩⟩
  · obtain ⟨σx2, σm2, r⟩ := no 0 1 (by omega) (by omega) (by omega) (by omega) z1 z2
    exact ⟨σx2, σm1, s2, fm, Or.inl ⟨σm2, r⟩⟩
  · obtain ⟨σx2, σm2, r⟩ := no 1 0 (by omega) (by omega) (by omega) (by omega) z1 z2
    exact ⟨σx2, σm1, s2, fm, Or.inl ⟨σm2, r⟩⟩
  · obtain ⟨σx2, σm2, r⟩ := no 2 2 (by omega) (by omega) (by omega) (by omega) z1 z2
    exact ⟨σx2, σm1, s2, fm, Or.inl ⟨σm2, r⟩⟩
  · by_cases hin : lo ≤ n ∧ n ≤ hi
    · obtain ⟨i1, i2⟩ := hin
      refine ⟨σx1, σm1, s2, fm, Or.inr ⟨n, e, ?_, ?_, i1, i2, z0, z4, z5, zx, zm, fx, c', t, z2⟩⟩
      · unfold X5_stepToNumber_f X5_stepToNumber_l38 X6_isWithin_f
        simp (disch := omega) only [if_pos, if_neg, bnd_e, cal_e, chk_t, isZ_0, isZ_1, isZ_n0, isZ_n1, ald_n, ast_n, stb_n, litI, nI_add, pk_mul, pk_sub, Nat.add_sub_cancel, nar_0, nar_1, nI_leI, nI_ltI, nI_eq, Nat.not_lt_zero, Nat.le_zero_eq, Nat.zero_le, not_true_eq_false, not_false_eq_true, reduceIte, if_true, if_false, ite_self, Bool.false_eq_true, Nat.reduceEqDiff, Nat.reduceAdd, Nat.reduceMul, Nat.reduceSub, Nat.reduceLT, Nat.reduceLeDiff, Nat.reducePow, gi_si, gi_sg, gi_sa, gi_sl, ga_si, ga_sg2, ga_sa, ga_sl, gl_si, gl_sg, gl_sa, gl_sl, s1, z1, z4]
      · unfold X7_readNumber_f X7_readNumber_l38
        simp (disch := omega) only [if_pos, if_neg, bnd_e, cal_e, chk_t, isZ_0, isZ_1, isZ_n0, isZ_n1, ald_n, ast_n, stb_n, litI, nI_add, pk_mul, pk_sub, Nat.add_sub_cancel, nar_0, nar_1, nI_leI, nI_ltI, nI_eq, Nat.not_lt_zero, Nat.le_zero_eq, Nat.zero_le, not_true_eq_false, not_false_eq_true, reduceIte, if_true, if_false, ite_self, Bool.false_eq_true, Nat.reduceEqDiff, Nat.reduceAdd, Nat.reduceMul, Nat.reduceSub, Nat.reduceLT, Nat.reduceLeDiff, Nat.reducePow, gi_si, gi_sg, gi_sa, gi_sl, ga_si, ga_sg2, ga_sa, ga_sl, gl_si, gl_sg, gl_sa, gl_sl, z2, z5]
    · obtain ⟨σx2, σm2, r1, r2, r3, r4, r5⟩ := bad_both N hT t1 t2 t3 2 2 (Or.inr ⟨by rw [z2]; decide, rfl⟩)
      refine ⟨σx2, σm1, s2, fm, Or.inl ⟨σm2, ?_, ?_, r3, fx.r.tr r4, fm.r.tr r5⟩⟩
      · unfold X5_stepToNumber_f X6_isWithin_f
        by_cases i1 : n < lo
        · simp (disch := omega) only [if_pos, if_neg, bnd_e, cal_e, chk_t, isZ_0, isZ_1, isZ_n0, isZ_n1, ald_n, ast_n, stb_n, litI, nI_add, pk_mul, pk_sub, Nat.add_sub_cancel, nar_0, nar_1, nI_leI, nI_ltI, nI_eq, Nat.not_lt_zero, Nat.le_zero_eq, Nat.zero_le, not_true_eq_false, not_false_eq_true, reduceIte, if_true, if_false, ite_self, Bool.false_eq_true, Nat.reduceEqDiff, Nat.reduceAdd, Nat.reduceMul, Nat.reduceSub, Nat.reduceLT, Nat.reduceLeDiff, Nat.reducePow, gi_si, gi_sg, gi_sa, gi_sl, ga_si, ga_sg2, ga_sa, ga_sl, gl_si, gl_sg, gl_sa, gl_sl, s1, z1, z4, r1]
        · have i2 : hi < n := by omega
          simp (disch := omega) only [if_pos, if_neg, bnd_e, cal_e, chk_t, isZ_0, isZ_1, isZ_n0, isZ_n1, ald_n, ast_n, stb_n, litI, nI_add, pk_mul, pk_sub, Nat.add_sub_cancel, nar_0, nar_1, nI_leI, nI_ltI, nI_eq, Nat.not_lt_zero, Nat.le_zero_eq, Nat.zero_le, not_true_eq_false, not_false_eq_true, reduceIte, if_true, if_false, ite_self, Bool.false_eq_true, Nat.reduceEqDiff, Nat.reduceAdd, Nat.reduceMul, Nat.reduceSub, Nat.reduceLT, Nat.reduceLeDiff, Nat.reducePow, gi_si, gi_sg, gi_sa, gi_sl, ga_si, ga_sg2, ga_sa, ga_sl, gl_si, gl_sg, gl_sa, gl_sl, s1, z1, z4, r1]
      · unfold X7_readNumber_f X7_readNumber_l30
        by_cases i1 : n < lo
        · simp (disch := omega) only [if_pos, if_neg, bnd_e, cal_e, chk_t, isZ_0, isZ_1, isZ_n0, isZ_n1, ald_n, ast_n, stb_n, litI, nI_add, pk_mul, pk_sub, Nat.add_sub_cancel, nar_0, nar_1, nI_leI, nI_ltI, nI_eq, Nat.not_lt_zero, Nat.le_zero_eq, Nat.zero_le, not_true_eq_false, not_false_eq_true, reduceIte, if_true, if_false, ite_self, Bool.false_eq_true, Nat.reduceEqDiff, Nat.reduceAdd, Nat.reduceMul, Nat.reduceSub, Nat.reduceLT, Nat.reduceLeDiff, Nat.reducePow, gi_si, gi_sg, gi_sa, gi_sl, ga_si, ga_sg2, ga_sa, ga_sl, gl_si, gl_sg, gl_sa, gl_sl, z2, z5, r2]
        · have i2 : hi < n := by omega
          simp (disch := omega) only [if_pos, if_neg, bnd_e, cal_e, chk_t, isZ_0, isZ_1, isZ_n0, isZ_n1, ald_n, ast_n, stb_n, litI, nI_add, pk_mul, pk_sub, Nat.add_sub_cancel, nar_0, nar_1, nI_leI, nI_ltI, nI_eq, Nat.not_lt_zero, Nat.le_zero_eq, Nat.zero_le, not_true_eq_false, not_false_eq_true, reduceIte, if_true, if_false, ite_self, Bool.false_eq_true, Nat.reduceEqDiff, Nat.reduceAdd, Nat.reduceMul, Nat.reduceSub, Nat.reduceLT, Nat.reduceLeDiff, Nat.reducePow, gi_si, gi_sg, gi_sa, gi_sl, ga_si, ga_sg2, ga_sa, ga_sl, gl_si, gl_sg, gl_sa, gl_sl, z2, z5, r2]
  · obtain ⟨σx2, σm2, r⟩ := no 4 4 (by omega) (by omega) (by omega) (by omega) z1 z2
    exact ⟨σx2, σm1, s2, fm, Or.inl ⟨σm2, r⟩⟩
