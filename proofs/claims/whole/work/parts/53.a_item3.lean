theorem l26_both (N : Nat) (hN : 260 < N) {T L n fl : Nat} {bt : Nat → Nat} {σx σm : St} (hfl : fl ≤ 1) (c : PC T L bt σx σm) (t : Tk T bt σx σm) (h : CIb n n σx σm) (kk : gi σm 6 = nI 2) : OutI T L bt n σx σm (X0_readOne_l26 N (nI fl) σx) (X7_readItem_l49 N (nI fl) σm) := by
  obtain ⟨f, e, t1, t2, t3, t4⟩ := id t
  have hT := c.1
  obtain ⟨h1, h2, h3, h4, h5, h6, h7, h8, h9, h10⟩ := id h
  by_cases n8 : n = 8
  · left
    obtain ⟨σx5, σm5, r1, r2, r3, r4, r5⟩ := bad_both N hT t1 t2 t3 3 3 (Or.inr ⟨by rw [kk]; decide, rfl⟩)
    refine ⟨σx5, σm5, ?_, ?_, r3, r4.c, r5.c⟩
    · unfold X0_readOne_l26
      simp (disch := omega) only [if_pos, if_neg, bnd_e, cal_e, chk_t, isZ_0, isZ_1, isZ_n0, isZ_n1, ald_n, ast_n, stb_n, litI, nI_add, pk_mul, pk_sub, Nat.add_sub_cancel, nar_0, nar_1, nI_leI, nI_ltI, nI_eq, Nat.not_lt_zero, Nat.le_zero_eq, Nat.zero_le, not_true_eq_false, not_false_eq_true, reduceIte, if_true, if_false, ite_self, Bool.false_eq_true, Nat.reduceEqDiff, Nat.reduceAdd, Nat.reduceMul, Nat.reduceSub, Nat.reduceLT, Nat.reduceLeDiff, Nat.reducePow, gi_si, gi_sg, gi_sa, gi_sl, ga_si, ga_sg2, ga_sa, ga_sl, gl_si, gl_sg, gl_sa, gl_sl, h2, r1]
    · unfold X7_readItem_l49
      simp (disch := omega) only [if_pos, if_neg, bnd_e, cal_e, chk_t, isZ_0, isZ_1, isZ_n0, isZ_n1, ald_n, ast_n, stb_n, litI, nI_add, pk_mul, pk_sub, Nat.add_sub_cancel, nar_0, nar_1, nI_leI, nI_ltI, nI_eq, Nat.not_lt_zero, Nat.le_zero_eq, Nat.zero_le, not_true_eq_false, not_false_eq_true, reduceIte, if_true, if_false, ite_self, Bool.false_eq_true, Nat.reduceEqDiff, Nat.reduceAdd, Nat.reduceMul, Nat.reduceSub, Nat.reduceLT, Nat.reduceLeDiff, Nat.reducePow, gi_si, gi_sg, gi_sa, gi_sl, ga_si, ga_sg2, ga_sa, ga_sl, gl_si, gl_sg, gl_sa, gl_sl, h3, r2]
  obtain ⟨e0, ex, em⟩ := Tk_pos (by omega) (by omega) t4 kk
  obtain ⟨σx2, σm1, g1, g2, g3⟩ := num_both N hN (lo := 1) (hi := 3600) (by omega) (by omega) e0 c ex em
  rcases g3 with ⟨σm2, g4, g5, g6, g7, g8⟩ | ⟨v, e2, g4, g5, g6, g7, g8, g9, g10, g11, g12, g13, g14, g15, g16⟩
  · left
    refine ⟨σx2, σm2, ?_, ?_, g6, g7.c, g8.c⟩
    · unfold X0_readOne_l26
      simp (disch := omega) only [if_pos, if_neg, bnd_e, cal_e, chk_t, isZ_0, isZ_1, isZ_n0, isZ_n1, ald_n, ast_n, stb_n, litI, nI_add, pk_mul, pk_sub, Nat.add_sub_cancel, nar_0, nar_1, nI_leI, nI_ltI, nI_eq, Nat.not_lt_zero, Nat.le_zero_eq, Nat.zero_le, not_true_eq_false, not_false_eq_true, reduceIte, if_true, if_false, ite_self, Bool.false_eq_true, Nat.reduceEqDiff, Nat.reduceAdd, Nat.reduceMul, Nat.reduceSub, Nat.reduceLT, Nat.reduceLeDiff, Nat.reducePow, gi_si, gi_sg, gi_sa, gi_sl, ga_si, ga_sg2, ga_sa, ga_sl, gl_si, gl_sg, gl_sa, gl_sl, h2, g4]
    · unfold X7_readItem_l49
      simp (disch := omega) only [if_pos, if_neg, bnd_e, cal_e, chk_t, isZ_0, isZ_1, isZ_n0, isZ_n1, ald_n, ast_n, stb_n, litI, nI_add, pk_mul, pk_sub, Nat.add_sub_cancel, nar_0, nar_1, nI_leI, nI_ltI, nI_eq, Nat.not_lt_zero, Nat.le_zero_eq, Nat.zero_le, not_true_eq_false, not_false_eq_true, reduceIte, if_true, if_false, ite_self, Bool.false_eq_true, Nat.reduceEqDiff, Nat.reduceAdd, Nat.reduceMul, Nat.reduceSub, Nat.reduceLT, Nat.reduceLeDiff, Nat.reducePow, gi_si, gi_sg, gi_sa, gi_sl, ga_si, ga_sg2, ga_sa, ga_sl, gl_si, gl_sg, gl_sa, gl_sl, h3, g1, g5]
  have i0 := CIb_fr h g13 g2
  obtain ⟨i1, i2, i3, i4, i5, i6, i7, i8, i9, i10⟩ := id i0
  obtain ⟨f2, e3, y1, y2, y3, y4⟩ := id g15
  by_cases hov : sumN (fun i => ga σm1 7 (48 + i)) n + v ≤ 3600
  · have add : ∀ (w : Int32), (fl = 0 ∧ w = -nI 1) ∨ (fl = 1 ∧ w = nI 0) → ∃ σx4 σm4 : St, X5_step_f N (xI σx2 n (cntN (fun i => ga σm1 9 (48 + i)) n) (sumN (fun i => ga σm1 7 (48 + i)) n) v fl) = some (nI 0, σx4) ∧ X7_go_f N (mI σm1 n (sumN (fun i => ga σm1 7 (48 + i)) n) v w) = some (nI 0, σm4) ∧ PC T L bt σx4 σm4 ∧ Tk T bt σx4 σm4 ∧ CIb (n + 1) n σx4 σm4 ∧ ga σx4 57 n = nI fl ∧ FxC σx σx4 ∧ FmC σm σm4 := by
      intro w hw
      have ha := CIb_add (by omega) i0 g6 hov hw
      have c3 : PC T L bt (xI σx2 n (cntN (fun i => ga σm1 9 (48 + i)) n) (sumN (fun i => ga σm1 7 (48 + i)) n) v fl) (mI σm1 n (sumN (fun i => ga σm1 7 (48 + i)) n) v w) := g14
      obtain ⟨σx4, σm4, p1, p2, p3, p4, p5⟩ := tok_step N hN g8 c3 g11 g12
      refine ⟨σx4, σm4, p1, p2, PC_fr c3 p4 p5, p3, CIb_fr ha p4 p5, ?_, (g13.r.c.tr (FxC_xI _ _ _ _ _ _)).tr p4.r.c, (g2.r.c.tr (FmC_mI _ _ _ _ _)).tr p5.r.c⟩
      rw [p4.2 57]
      unfold xI
      simp only [gi_si, gi_sg, gi_sa, gi_sl, ga_si, ga_sg2, ga_sa, ga_sl, gl_si, gl_sg, gl_sa, gl_sl, Nat.not_lt_zero, Nat.le_zero_eq, Nat.zero_le, not_true_eq_false, not_false_eq_true, reduceIte, if_true, if_false, ite_self, Bool.false_eq_true, Nat.reduceEqDiff, Nat.reduceAdd, Nat.reduceMul, Nat.reduceSub, Nat.reduceLT, Nat.reduceLeDiff, Nat.reducePow, upd_e]
    rcases r01 hfl with rfl | rfl
    · obtain ⟨σx4, σm4, p1, p2, p3, p4, p5, p6, p7, p8⟩ := add (-nI 1) (Or.inl ⟨rfl, rfl⟩)
      have q := (semi_both N hN p3 p4 p5).tr p7 p8
      have z1 : X0_readOne_l26 N (nI 0) σx = X0_readOne_l104 N σx4 := by
        unfold xI at p1
        unfold X0_readOne_l26 X0_add_f X0_add_l47
        simp (disch := omega) only [if_pos, if_neg, bnd_e, cal_e, chk_t, isZ_0, isZ_1, isZ_n0, isZ_n1, ald_n, ast_n, stb_n, litI, nI_add, pk_mul, pk_sub, Nat.add_sub_cancel, nar_0, nar_1, nI_leI, nI_ltI, nI_eq, Nat.not_lt_zero, Nat.le_zero_eq, Nat.zero_le, not_true_eq_false, not_false_eq_true, reduceIte, if_true, if_false, ite_self, Bool.false_eq_true, Nat.reduceEqDiff, Nat.reduceAdd, Nat.reduceMul, Nat.reduceSub, Nat.reduceLT, Nat.reduceLeDiff, Nat.reducePow, gi_si, gi_sg, gi_sa, gi_sl, ga_si, ga_sg2, ga_sa, ga_sl, gl_si, gl_sg, gl_sa, gl_sl, h2, g4, g9, i5, i2, i4, p1]
      have z2 : X7_readItem_l49 N (nI 0) σm = X7_readItem_l265 N σm4 := by
        unfold mI at p2
        unfold X7_readItem_l49 X7_readItem_l155 X7_readItem_l213
        simp (disch := omega) only [if_pos, if_neg, bnd_e, cal_e, chk_t, isZ_0, isZ_1, isZ_n0, isZ_n1, ald_n, ast_n, stb_n, litI, nI_add, pk_mul, pk_sub, Nat.add_sub_cancel, nar_0, nar_1, nI_leI, nI_ltI, nI_eq, Nat.not_lt_zero, Nat.le_zero_eq, Nat.zero_le, not_true_eq_false, not_false_eq_true, reduceIte, if_true, if_false, ite_self, Bool.false_eq_true, Nat.reduceEqDiff, Nat.reduceAdd, Nat.reduceMul, Nat.reduceSub, Nat.reduceLT, Nat.reduceLeDiff, Nat.reducePow, gi_si, gi_sg, gi_sa, gi_sl, ga_si, ga_sg2, ga_sa, ga_sl, gl_si, gl_sg, gl_sa, gl_sl, h3, g1, g5, g10, i6, p2]
      rw [z1, z2]
      exact q
    · obtain ⟨σx4, σm4, p1, p2, p3, p4, p5, p6, p7, p8⟩ := add (nI 0) (Or.inr ⟨rfl, rfl⟩)
      have q := (mood_both N hN p3 p4 p5 p6).tr p7 p8
      have z1 : X0_readOne_l26 N (nI 1) σx = cal (X0_readWishes_f N (nI n) σx4) (kW N) := by
        unfold xI at p1
        unfold X0_readOne_l26 X0_add_f X0_add_l47 kW
        simp (disch := omega) only [if_pos, if_neg, bnd_e, cal_e, chk_t, isZ_0, isZ_1, isZ_n0, isZ_n1, ald_n, ast_n, stb_n, litI, nI_add, pk_mul, pk_sub, Nat.add_sub_cancel, nar_0, nar_1, nI_leI, nI_ltI, nI_eq, Nat.not_lt_zero, Nat.le_zero_eq, Nat.zero_le, not_true_eq_false, not_false_eq_true, reduceIte, if_true, if_false, ite_self, Bool.false_eq_true, Nat.reduceEqDiff, Nat.reduceAdd, Nat.reduceMul, Nat.reduceSub, Nat.reduceLT, Nat.reduceLeDiff, Nat.reducePow, gi_si, gi_sg, gi_sa, gi_sl, ga_si, ga_sg2, ga_sa, ga_sl, gl_si, gl_sg, gl_sa, gl_sl, h2, g4, g9, i5, i2, i4, p1]
      have z2 : X7_readItem_l49 N (nI 1) σm = mdM N (nI (48 + n)) σm4 := by
        unfold mI at p2
        unfold X7_readItem_l49 X7_readItem_l155 mdM
        simp (disch := omega) only [if_pos, if_neg, bnd_e, cal_e, chk_t, isZ_0, isZ_1, isZ_n0, isZ_n1, ald_n, ast_n, stb_n, litI, nI_add, pk_mul, pk_sub, Nat.add_sub_cancel, nar_0, nar_1, nI_leI, nI_ltI, nI_eq, Nat.not_lt_zero, Nat.le_zero_eq, Nat.zero_le, not_true_eq_false, not_false_eq_true, reduceIte, if_true, if_false, ite_self, Bool.false_eq_true, Nat.reduceEqDiff, Nat.reduceAdd, Nat.reduceMul, Nat.reduceSub, Nat.reduceLT, Nat.reduceLeDiff, Nat.reducePow, gi_si, gi_sg, gi_sa, gi_sl, ga_si, ga_sg2, ga_sa, ga_sl, gl_si, gl_sg, gl_sa, gl_sl, h3, g1, g5, g10, i6, p2]
      rw [z1, z2]
      exact q
  · left
    obtain ⟨σx5, σm5, r1, r2, r3, r4, r5⟩ := bad_both N (σx := σx2) (σm := si σm1 11 (nI (sumN (fun i => ga σm1 7 (48 + i)) n + v))) hT y1 y2 y3 3 3 (Or.inr ⟨by show ¬ gi σm1 6 = nI 1; rw [g16]; decide, rfl⟩)
    refine ⟨σx5, σm5, ?_, ?_, r3, g13.r.c.tr r4.c, (g2.r.c.tr (FmC_11 σm1 _)).tr r5.c⟩
    · unfold X0_readOne_l26
      simp (disch := omega) only [if_pos, if_neg, bnd_e, cal_e, chk_t, isZ_0, isZ_1, isZ_n0, isZ_n1, ald_n, ast_n, stb_n, litI, nI_add, pk_mul, pk_sub, Nat.add_sub_cancel, nar_0, nar_1, nI_leI, nI_ltI, nI_eq, Nat.not_lt_zero, Nat.le_zero_eq, Nat.zero_le, not_true_eq_false, not_false_eq_true, reduceIte, if_true, if_false, ite_self, Bool.false_eq_true, Nat.reduceEqDiff, Nat.reduceAdd, Nat.reduceMul, Nat.reduceSub, Nat.reduceLT, Nat.reduceLeDiff, Nat.reducePow, gi_si, gi_sg, gi_sa, gi_sl, ga_si, ga_sg2, ga_sa, ga_sl, gl_si, gl_sg, gl_sa, gl_sl, h2, g4, g9, i5, r1]
    · unfold X7_readItem_l49
      simp (disch := omega) only [if_pos, if_neg, bnd_e, cal_e, chk_t, isZ_0, isZ_1, isZ_n0, isZ_n1, ald_n, ast_n, stb_n, litI, nI_add, pk_mul, pk_sub, Nat.add_sub_cancel, nar_0, nar_1, nI_leI, nI_ltI, nI_eq, Nat.not_lt_zero, Nat.le_zero_eq, Nat.zero_le, not_true_eq_false, not_false_eq_true, reduceIte, if_true, if_false, ite_self, Bool.false_eq_true, Nat.reduceEqDiff, Nat.reduceAdd, Nat.reduceMul, Nat.reduceSub, Nat.reduceLT, Nat.reduceLeDiff, Nat.reducePow, gi_si, gi_sg, gi_sa, gi_sl, ga_si, ga_sg2, ga_sa, ga_sl, gl_si, gl_sg, gl_sa, gl_sl, h3, g1, g5, g10, i6, r2]
