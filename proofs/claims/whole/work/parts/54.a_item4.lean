theorem tp6 (N : Nat) (s : St) : X7_spelt_f N (nI 115) (nI 111) (nI 110) (nI 103) (nI 115) (nI 0) s = some (lN (cd (kb 6) 0 (kl 6)), s) := by rw [sp6]
theorem tp7 (N : Nat) (s : St) : X7_spelt_f N (nI 116) (nI 97) (nI 108) (nI 107) (nI 0) (nI 0) s = some (lN (cd (kb 7) 0 (kl 7)), s) := by rw [sp7]
theorem item_both (N : Nat) (hN : 260 < N) {T L n : Nat} {bt : Nat → Nat} {σx σm : St} (c : PC T L bt σx σm) (t : Tk T bt σx σm) (h : CIb n n σx σm) : OutI T L bt n σx σm (X0_readOne_f N σx) (X7_readItem_f N σm) := by
  obtain ⟨r, l, a, b, k⟩ := word_both N hN (i := 6) (by omega) rfl c t
  obtain ⟨r7, l7, a7, b7, k7⟩ := word_both N hN (i := 7) (by omega) rfl c t
  rcases r01 l with rfl | rfl
  · rcases r01 l7 with rfl | rfl
    · left
      obtain ⟨f, e, t1, t2, t3, t4⟩ := id t
      obtain ⟨σx5, σm5, r1, r2, r3, r4, r5⟩ := bad_both N c.1 t1 t2 t3 1 1 (by by_cases z : gi σm 6 = nI 1 <;> simp [z])
      refine ⟨σx5, σm5, ?_, ?_, r3, r4.c, r5.c⟩
      · unfold X0_readOne_f
        simp (disch := omega) only [if_pos, if_neg, bnd_e, cal_e, chk_t, isZ_0, isZ_1, isZ_n0, isZ_n1, ald_n, ast_n, stb_n, litI, nI_add, pk_mul, pk_sub, Nat.add_sub_cancel, nar_0, nar_1, nI_leI, nI_ltI, nI_eq, Nat.not_lt_zero, Nat.le_zero_eq, Nat.zero_le, not_true_eq_false, not_false_eq_true, reduceIte, if_true, if_false, ite_self, Bool.false_eq_true, Nat.reduceEqDiff, Nat.reduceAdd, Nat.reduceMul, Nat.reduceSub, Nat.reduceLT, Nat.reduceLeDiff, Nat.reducePow, gi_si, gi_sg, gi_sa, gi_sl, ga_si, ga_sg2, ga_sa, ga_sl, gl_si, gl_sg, gl_sa, gl_sl, a, a7, r1]
      · unfold X7_readItem_f
        simp (disch := omega) only [if_pos, if_neg, bnd_e, cal_e, chk_t, isZ_0, isZ_1, isZ_n0, isZ_n1, ald_n, ast_n, stb_n, litI, nI_add, pk_mul, pk_sub, Nat.add_sub_cancel, nar_0, nar_1, nI_leI, nI_ltI, nI_eq, Nat.not_lt_zero, Nat.le_zero_eq, Nat.zero_le, not_true_eq_false, not_false_eq_true, reduceIte, if_true, if_false, ite_self, Bool.false_eq_true, Nat.reduceEqDiff, Nat.reduceAdd, Nat.reduceMul, Nat.reduceSub, Nat.reduceLT, Nat.reduceLeDiff, Nat.reducePow, gi_si, gi_sg, gi_sa, gi_sl, ga_si, ga_sg2, ga_sa, ga_sl, gl_si, gl_sg, gl_sa, gl_sl, tp6, tp7, b, b7, r2]
    · have q := l26_both N hN (fl := 0) (by omega) c t h (k7 rfl)
      have z1 : X0_readOne_f N σx = X0_readOne_l26 N (nI 0) σx := by
        unfold X0_readOne_f
        simp (disch := omega) only [if_pos, if_neg, bnd_e, cal_e, chk_t, isZ_0, isZ_1, isZ_n0, isZ_n1, ald_n, ast_n, stb_n, litI, nI_add, pk_mul, pk_sub, Nat.add_sub_cancel, nar_0, nar_1, nI_leI, nI_ltI, nI_eq, Nat.not_lt_zero, Nat.le_zero_eq, Nat.zero_le, not_true_eq_false, not_false_eq_true, reduceIte, if_true, if_false, ite_self, Bool.false_eq_true, Nat.reduceEqDiff, Nat.reduceAdd, Nat.reduceMul, Nat.reduceSub, Nat.reduceLT, Nat.reduceLeDiff, Nat.reducePow, gi_si, gi_sg, gi_sa, gi_sl, ga_si, ga_sg2, ga_sa, ga_sl, gl_si, gl_sg, gl_sa, gl_sl, a, a7]
      have z2 : X7_readItem_f N σm = X7_readItem_l49 N (nI 0) σm := by
        unfold X7_readItem_f
        simp (disch := omega) only [if_pos, if_neg, bnd_e, cal_e, chk_t, isZ_0, isZ_1, isZ_n0, isZ_n1, ald_n, ast_n, stb_n, litI, nI_add, pk_mul, pk_sub, Nat.add_sub_cancel, nar_0, nar_1, nI_leI, nI_ltI, nI_eq, Nat.not_lt_zero, Nat.le_zero_eq, Nat.zero_le, not_true_eq_false, not_false_eq_true, reduceIte, if_true, if_false, ite_self, Bool.false_eq_true, Nat.reduceEqDiff, Nat.reduceAdd, Nat.reduceMul, Nat.reduceSub, Nat.reduceLT, Nat.reduceLeDiff, Nat.reducePow, gi_si, gi_sg, gi_sa, gi_sl, ga_si, ga_sg2, ga_sa, ga_sl, gl_si, gl_sg, gl_sa, gl_sl, tp6, tp7, b, b7]
      rw [z1, z2]
      exact q
  · have q := l26_both N hN (fl := 1) (by omega) c t h (k rfl)
    have z1 : X0_readOne_f N σx = X0_readOne_l26 N (nI 1) σx := by
      unfold X0_readOne_f
      simp (disch := omega) only [if_pos, if_neg, bnd_e, cal_e, chk_t, isZ_0, isZ_1, isZ_n0, isZ_n1, ald_n, ast_n, stb_n, litI, nI_add, pk_mul, pk_sub, Nat.add_sub_cancel, nar_0, nar_1, nI_leI, nI_ltI, nI_eq, Nat.not_lt_zero, Nat.le_zero_eq, Nat.zero_le, not_true_eq_false, not_false_eq_true, reduceIte, if_true, if_false, ite_self, Bool.false_eq_true, Nat.reduceEqDiff, Nat.reduceAdd, Nat.reduceMul, Nat.reduceSub, Nat.reduceLT, Nat.reduceLeDiff, Nat.reducePow, gi_si, gi_sg, gi_sa, gi_sl, ga_si, ga_sg2, ga_sa, ga_sl, gl_si, gl_sg, gl_sa, gl_sl, a]
    have z2 : X7_readItem_f N σm = X7_readItem_l49 N (nI 1) σm := by
      unfold X7_readItem_f
      simp (disch := omega) only [if_pos, if_neg, bnd_e, cal_e, chk_t, isZ_0, isZ_1, isZ_n0, isZ_n1, ald_n, ast_n, stb_n, litI, nI_add, pk_mul, pk_sub, Nat.add_sub_cancel, nar_0, nar_1, nI_leI, nI_ltI, nI_eq, Nat.not_lt_zero, Nat.le_zero_eq, Nat.zero_le, not_true_eq_false, not_false_eq_true, reduceIte, if_true, if_false, ite_self, Bool.false_eq_true, Nat.reduceEqDiff, Nat.reduceAdd, Nat.reduceMul, Nat.reduceSub, Nat.reduceLT, Nat.reduceLeDiff, Nat.reducePow, gi_si, gi_sg, gi_sa, gi_sl, ga_si, ga_sg2, ga_sa, ga_sl, gl_si, gl_sg, gl_sa, gl_sl, tp6, b]
    rw [z1, z2]
    exact q
