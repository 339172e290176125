theorem usual_k : ∀ k, k < 5 → tb_USUAL k = ga iniM 2 k := by decide
theorem usual_r : ∀ k, k < 5 → rg (lo5 k) (hi5 k) (ga iniM 2 k) := by
  intro k hk
  rcases (show k = 0 ∨ k = 1 ∨ k = 2 ∨ k = 3 ∨ k = 4 by omega) with rfl | rfl | rfl | rfl | rfl
  · exact ⟨180, by decide, by decide, rfl⟩
  · exact ⟨60, by decide, by decide, rfl⟩
  · exact ⟨6, by decide, by decide, rfl⟩
  · exact ⟨60, by decide, by decide, rfl⟩
  · exact ⟨4, by decide, by decide, rfl⟩
theorem cM_a (σ : St) {k : Nat} (hk : k < 5) : ga (cM σ) 3 k = ga σ 2 k := by
  unfold cM
  simp only [gi_si, gi_sg, gi_sa, gi_sl, ga_si, ga_sg2, ga_sa, ga_sl, gl_si, gl_sg, gl_sa, gl_sl, Nat.not_lt_zero, Nat.le_zero_eq, Nat.zero_le, not_true_eq_false, not_false_eq_true, reduceIte, if_true, if_false, ite_self, Bool.false_eq_true, Nat.reduceEqDiff, Nat.reduceAdd, Nat.reduceMul, Nat.reduceSub, Nat.reduceLT, Nat.reduceLeDiff, Nat.reducePow, upd_e]
  rcases (show k = 0 ∨ k = 1 ∨ k = 2 ∨ k = 3 ∨ k = 4 by omega) with rfl | rfl | rfl | rfl | rfl <;> rfl
theorem dM_a (σ : St) {k : Nat} (hk : k < 5) : ga (dM σ) 1 k = ga σ 3 k := by
  unfold dM
  simp only [gi_si, gi_sg, gi_sa, gi_sl, ga_si, ga_sg2, ga_sa, ga_sl, gl_si, gl_sg, gl_sa, gl_sl, Nat.not_lt_zero, Nat.le_zero_eq, Nat.zero_le, not_true_eq_false, not_false_eq_true, reduceIte, if_true, if_false, ite_self, Bool.false_eq_true, Nat.reduceEqDiff, Nat.reduceAdd, Nat.reduceMul, Nat.reduceSub, Nat.reduceLT, Nat.reduceLeDiff, Nat.reducePow, upd_e]
  rcases (show k = 0 ∨ k = 1 ∨ k = 2 ∨ k = 3 ∨ k = 4 by omega) with rfl | rfl | rfl | rfl | rfl <;> rfl
theorem bX_3 (σ : St) {k : Nat} (hk : k < 5) : ga (bX σ) 3 k = nI 0 := by
  unfold bX
  simp only [gi_si, gi_sg, gi_sa, gi_sl, ga_si, ga_sg2, ga_sa, ga_sl, gl_si, gl_sg, gl_sa, gl_sl, Nat.not_lt_zero, Nat.le_zero_eq, Nat.zero_le, not_true_eq_false, not_false_eq_true, reduceIte, if_true, if_false, ite_self, Bool.false_eq_true, Nat.reduceEqDiff, Nat.reduceAdd, Nat.reduceMul, Nat.reduceSub, Nat.reduceLT, Nat.reduceLeDiff, Nat.reducePow, upd_e]
  rcases (show k = 0 ∨ k = 1 ∨ k = 2 ∨ k = 3 ∨ k = 4 by omega) with rfl | rfl | rfl | rfl | rfl <;> rfl
theorem bX_2 (σ : St) {k : Nat} (hk : k < 5) : ga (bX σ) 2 k = tb_USUAL k := by
  have e : ga (bX σ) 2 = va_cpy tb_USUAL (ga σ 2) 0 0 5 := rfl
  rw [e, pk_cpy_in (by omega) (by omega)]
  simp
theorem ga_cM (σ : St) {a : Nat} (h : a ≠ 3) : ga (cM σ) a = ga σ a := by
  unfold cM
  simp only [ga_sa, h, if_false]
theorem ga_dM (σ : St) {a : Nat} (h : a ≠ 1) : ga (dM σ) a = ga σ a := by
  unfold dM
  simp only [ga_sa, h, if_false]
theorem ga_bX (σ : St) {a : Nat} (h : a ≠ 2) (h3 : a ≠ 3) : ga (bX σ) a = ga σ a := by
  unfold bX
  simp only [ga_si, ga_sa, ga_sg2, h, h3, if_false]
theorem gi_bX (σ : St) {j : Nat} (h : 9 ≤ j) : gi (bX σ) j = gi σ j := by
  unfold bX
  simp only [gi_si, gi_sa, gi_sg, show ¬ j = 8 by omega, show ¬ j = 5 by omega, show ¬ j = 1 by omega, show ¬ j = 2 by omega, show ¬ j = 7 by omega, if_false]
theorem gi_bM (σ : St) {j L : Nat} (h : 11 ≤ j) : gi (bM σ L) j = gi σ j := by
  unfold bM
  simp only [gi_si, show ¬ j = 8 by omega, show ¬ j = 0 by omega, show ¬ j = 1 by omega, show ¬ j = 2 by omega, show ¬ j = 3 by omega, show ¬ j = 10 by omega, show ¬ j = 4 by omega, if_false]
theorem s_rules (N : Nat) (hN : 260 < N) : Sim_rules N RelX := fun k σx σm hk h => by
  obtain ⟨⟨T, hT, e1, e2, e3⟩, q2, ⟨u1, u2, u3, u4, u5, u6, u7, u8, u9⟩, hr⟩ := id h
  have h4 : R4 k σx σm := hr
  have c0 : PC T 120 (fun i => (ga σm 0 i).toNatClampNeg) (bX σx) (bM σm 120) := PC_of (k := k) (σx := bX σx) (σm := bM σm 120) hT (by omega) e1 e2 rfl rfl e3
  obtain ⟨σx2, σm2, s1, s2, t, fx, fm⟩ := tok_step N hN (p := 0) (by omega) c0 rfl rfl
  have rx := read_x N hN σx σx2 s1
  have rm := read_m N hN σm σm2 s2
  have hI : RIa 0 σx2 (cM σm2) := by
    refine ⟨by omega, ?_, ?_, fun q hq => ?_, fun q hq => ?_, ?_, ?_, ?_, ?_⟩
    · exact fm.1 10 (by omega) (by omega) (by omega) (by omega)
    · exact fx.1 8 (by omega) (by omega) (by omega) (by omega)
    · rw [fx.2 3, bX_3 σx hq]
      congr 1
      rw [Nat.zero_div]
    · have eu : ga (cM σm2) 3 q = ga iniM 2 q := by
        rw [cM_a σm2 hq, fm.2 2]
        show ga σm 2 q = _
        rw [u7]
      rw [eu, fx.2 2, bX_2 σx hq]
      exact ⟨usual_k q hq, usual_r q hq⟩
    · rw [ga_cM σm2 (by omega), fm.2 4]; exact u8
    · rw [ga_cM σm2 (by omega), fm.2 5]; exact u9
    · exact fx.1 1 (by omega) (by omega) (by omega) (by omega)
    · exact fm.1 8 (by omega) (by omega) (by omega) (by omega)
  have c2a : PC T 120 (fun i => (ga σm 0 i).toNatClampNeg) σx2 σm2 := PC_fr c0 fx fm
  have c2 : PC T 120 (fun i => (ga σm 0 i).toNatClampNeg) σx2 (cM σm2) := c2a
  have t2 : Tk T (fun i => (ga σm 0 i).toNatClampNeg) σx2 (cM σm2) := t
  -- all that the reading leaves alone
  have keep : ∀ σx3 σm3 : St, FxU σx2 σx3 → FmU (cM σm2) σm3 → (∀ j, 9 ≤ j → gi σx3 j = gi σx j) ∧ (∀ a, a ≠ 2 → a ≠ 3 → ga σx3 a = ga σx a) ∧ (∀ j, 12 ≤ j → gi σm3 j = gi σm j) ∧ (∀ a, a ≠ 3 → ga σm3 a = ga σm a) ∧ gi σm3 1 = nI 0 := by
    intro σx3 σm3 a b
    refine ⟨fun j hj => ?_, fun j hj hj2 => ?_, fun j hj => ?_, fun j hj => ?_, ?_⟩
    · rw [a.1 j (by omega), fx.1 j (by omega) (by omega) (by omega) (by omega), gi_bX σx hj]
    · rw [a.2 j hj hj2, fx.2 j, ga_bX σx hj hj2]
    · rw [b.1 j (by omega)]
      show gi σm2 j = _
      rw [fm.1 j (by omega) (by omega) (by omega) (by omega), gi_bM σm (by omega)]
    · rw [b.2 j hj, ga_cM σm2 hj, fm.2 j]
      rfl
    · rw [b.1 1 (by omega)]
      exact fm.1 1 (by omega) (by omega) (by omega) (by omega)
  rcases rules_l N hN 5 N N 0 σx2 (cM σm2) c2 t2 hI rfl (by omega) (by omega) with ⟨x, y, a1, a2, ⟨bk, bf, b0, b1, b2, b3, b4⟩, a4, a5⟩ | ⟨m2, x, y, a1, a2, a3, a4, a5⟩
  · obtain ⟨z1, z2, z3, z4, z5⟩ := keep x y a4 a5
    refine ⟨-nI 1 - nI bf, si x 0 (nI 0), y, ?_, ?_, RelX_mono ⟨⟨0, by omega, rfl, z5, ?_⟩, ?_, ?_, R4_fr h4 ?_ ?_ ?_ ?_⟩⟩
    · unfold X6_rules_f
      have a1b : X3_read_l12 N N (nI 0) σx2 = some (nI 0, x) := a1
      rw [rx, a1b]
      simp (disch := omega) only [if_pos, if_neg, bnd_e, cal_e, chk_t, isZ_0, isZ_1, isZ_n0, isZ_n1, ald_n, ast_n, stb_n, litI, nI_add, pk_mul, pk_sub, Nat.add_sub_cancel, nar_0, nar_1, nI_leI, nI_ltI, nI_eq, Nat.not_lt_zero, Nat.le_zero_eq, Nat.zero_le, not_true_eq_false, not_false_eq_true, reduceIte, if_true, if_false, ite_self, Bool.false_eq_true, Nat.reduceEqDiff, Nat.reduceAdd, Nat.reduceMul, Nat.reduceSub, Nat.reduceLT, Nat.reduceLeDiff, Nat.reducePow, gi_si, gi_sg, gi_sa, gi_sl, ga_si, ga_sg2, ga_sa, ga_sl, gl_si, gl_sg, gl_sa, gl_sl, b3]
    · rw [rm, ← b4]
      exact a2
    · show ∀ i, i < 260 → ∃ b : Nat, b < 256 ∧ ga y 0 i = nI b ∧ ga x 0 i = (nI b).toInt8.toInt32
      rw [z2 0 (by omega) (by omega), z4 0 (by omega)]
      exact e3
    · show gi x 1 = gi y 8
      rw [b1, b2]
    · show RU (ga x 1) (ga y 1) (ga y 2) (ga y 4) (ga y 5)
      rw [z2 1 (by omega) (by omega), z4 1 (by omega), z4 2 (by omega), z4 4 (by omega), z4 5 (by omega)]
      exact ⟨u1, u2, u3, u4, u5, u6, u7, u8, u9⟩
    · intro j hj
      rw [gi_si, if_neg (by omega)]
      exact z1 j hj
    · intro a ha
      exact z2 a (by omega) (by omega)
    · exact z3
    · intro a ha
      exact z4 a (by omega)
  · obtain ⟨z1, z2, z3, z4, z5⟩ := keep x y a4 a5
    obtain ⟨i1, i2, i3, i4, i5, i6, i7, i8, i9⟩ := a3
    refine ⟨nI (pc5 m2), si (sg x 1 (va_cpy (ga x 2) (ga x 1) 0 0 5)) 0 (nI 0), dM y, ?_, ?_, RelX_mono ⟨⟨0, by omega, rfl, z5, ?_⟩, ?_, ?_, R4_fr h4 ?_ ?_ ?_ ?_⟩⟩
    · unfold X6_rules_f
      have a1b : X3_read_l12 N N (nI 0) σx2 = X3_read_l41 N x := a1
      rw [rx, a1b]
      unfold X3_read_l41
      simp (disch := omega) only [if_pos, if_neg, bnd_e, cal_e, chk_t, isZ_0, isZ_1, isZ_n0, isZ_n1, ald_n, ast_n, stb_n, litI, nI_add, pk_mul, pk_sub, Nat.add_sub_cancel, nar_0, nar_1, nI_leI, nI_ltI, nI_eq, Nat.not_lt_zero, Nat.le_zero_eq, Nat.zero_le, not_true_eq_false, not_false_eq_true, reduceIte, if_true, if_false, ite_self, Bool.false_eq_true, Nat.reduceEqDiff, Nat.reduceAdd, Nat.reduceMul, Nat.reduceSub, Nat.reduceLT, Nat.reduceLeDiff, Nat.reducePow, gi_si, gi_sg, gi_sa, gi_sl, ga_si, ga_sg2, ga_sa, ga_sl, gl_si, gl_sg, gl_sa, gl_sl, i3]
    · rw [rm, ← done_m N hN y (nI (pc5 m2))]
      exact a2
    · show ∀ i, i < 260 → ∃ b : Nat, b < 256 ∧ ga (dM y) 0 i = nI b ∧ ga x 0 i = (nI b).toInt8.toInt32
      rw [z2 0 (by omega) (by omega), ga_dM y (by omega), z4 0 (by omega)]
      exact e3
    · show gi x 1 = gi y 8
      rw [i8, i9]
    · have A : ∀ q, q < 5 → ga (si (sg x 1 (va_cpy (ga x 2) (ga x 1) 0 0 5)) 0 (nI 0)) 1 q = ga x 2 q := by
        intro q hq
        show va_cpy (ga x 2) (ga x 1) 0 0 5 q = _
        rw [pk_cpy_in (by omega) (by omega)]
        simp
      refine ⟨fun q hq => ?_, ?_, ?_, ?_, ?_, ?_, ?_, ?_, ?_⟩
      · rw [A q hq, dM_a y hq]
        exact (i5 q hq).1
      · rw [dM_a y (by omega)]; exact (i5 0 (by omega)).2
      · rw [dM_a y (by omega)]; exact (i5 1 (by omega)).2
      · rw [dM_a y (by omega)]; exact (i5 2 (by omega)).2
      · rw [dM_a y (by omega)]; exact (i5 3 (by omega)).2
      · rw [dM_a y (by omega)]; exact (i5 4 (by omega)).2
      · rw [ga_dM y (by omega), z4 2 (by omega)]; exact u7
      · rw [ga_dM y (by omega), z4 4 (by omega)]; exact u8
      · rw [ga_dM y (by omega), z4 5 (by omega)]; exact u9
    · intro j hj
      rw [gi_si, if_neg (by omega), gi_sg]
      exact z1 j hj
    · intro a ha
      rw [ga_si, ga_sg2, if_neg (by omega)]
      exact z2 a (by omega) (by omega)
    · exact z3
    · intro a ha
      rw [ga_dM y (by omega)]
      exact z4 a (by omega)
