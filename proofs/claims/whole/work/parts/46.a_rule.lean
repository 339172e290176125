/-! rules: one rule, in both -/
theorem r01 {r : Nat} (h : r ≤ 1) : r = 0 ∨ r = 1 := by omega
theorem named_both (N : Nat) (hN : 260 < N) {T L : Nat} {bt : Nat → Nat} {σx σm : St} (c : PC T L bt σx σm) (t : Tk T bt σx σm) : ∃ w : Int32, X3_named_f N σx = some (w, σx) ∧ X7_ruleAtHand_f N σm = some (w, σm) ∧ (w = -nI 1 ∨ ∃ k : Nat, k < 5 ∧ w = nI k ∧ gi σm 6 = nI 2) := by
  obtain ⟨r0, l0, a0, b0, k0⟩ := word_both N hN (i := 0) (by omega) rfl c t
  obtain ⟨r1, l1, a1, b1, k1⟩ := word_both N hN (i := 1) (by omega) rfl c t
  obtain ⟨r2, l2, a2, b2, k2⟩ := word_both N hN (i := 2) (by omega) rfl c t
  obtain ⟨r3, l3, a3, b3, k3⟩ := word_both N hN (i := 3) (by omega) rfl c t
  obtain ⟨r4, l4, a4, b4, k4⟩ := word_both N hN (i := 4) (by omega) rfl c t
  unfold X3_named_f X7_ruleAtHand_f
  rcases r01 l0 with rfl | rfl
  · rcases r01 l1 with rfl | rfl
    · rcases r01 l2 with rfl | rfl
      · rcases r01 l3 with rfl | rfl
        · rcases r01 l4 with rfl | rfl
          · exact ⟨-nI 1, by simp (disch := omega) only [if_pos, if_neg, bnd_e, cal_e, chk_t, isZ_0, isZ_1, isZ_n0, isZ_n1, ald_n, ast_n, stb_n, litI, nI_add, pk_mul, pk_sub, Nat.add_sub_cancel, nar_0, nar_1, nI_leI, nI_ltI, nI_eq, Nat.not_lt_zero, Nat.le_zero_eq, Nat.zero_le, not_true_eq_false, not_false_eq_true, reduceIte, if_true, if_false, ite_self, Bool.false_eq_true, Nat.reduceEqDiff, Nat.reduceAdd, Nat.reduceMul, Nat.reduceSub, Nat.reduceLT, Nat.reduceLeDiff, Nat.reducePow, gi_si, gi_sg, gi_sa, gi_sl, ga_si, ga_sg2, ga_sa, ga_sl, gl_si, gl_sg, gl_sa, gl_sl, a0, a1, a2, a3, a4], by simp (disch := omega) only [if_pos, if_neg, bnd_e, cal_e, chk_t, isZ_0, isZ_1, isZ_n0, isZ_n1, ald_n, ast_n, stb_n, litI, nI_add, pk_mul, pk_sub, Nat.add_sub_cancel, nar_0, nar_1, nI_leI, nI_ltI, nI_eq, Nat.not_lt_zero, Nat.le_zero_eq, Nat.zero_le, not_true_eq_false, not_false_eq_true, reduceIte, if_true, if_false, ite_self, Bool.false_eq_true, Nat.reduceEqDiff, Nat.reduceAdd, Nat.reduceMul, Nat.reduceSub, Nat.reduceLT, Nat.reduceLeDiff, Nat.reducePow, gi_si, gi_sg, gi_sa, gi_sl, ga_si, ga_sg2, ga_sa, ga_sl, gl_si, gl_sg, gl_sa, gl_sl, sp0, sp1, sp2, sp3, sp4, b0, b1, b2, b3, b4], Or.inl rfl⟩
          · exact ⟨nI 4, by simp (disch := omega) only [if_pos, if_neg, bnd_e, cal_e, chk_t, isZ_0, isZ_1, isZ_n0, isZ_n1, ald_n, ast_n, stb_n, litI, nI_add, pk_mul, pk_sub, Nat.add_sub_cancel, nar_0, nar_1, nI_leI, nI_ltI, nI_eq, Nat.not_lt_zero, Nat.le_zero_eq, Nat.zero_le, not_true_eq_false, not_false_eq_true, reduceIte, if_true, if_false, ite_self, Bool.false_eq_true, Nat.reduceEqDiff, Nat.reduceAdd, Nat.reduceMul, Nat.reduceSub, Nat.reduceLT, Nat.reduceLeDiff, Nat.reducePow, gi_si, gi_sg, gi_sa, gi_sl, ga_si, ga_sg2, ga_sa, ga_sl, gl_si, gl_sg, gl_sa, gl_sl, a0, a1, a2, a3, a4], by simp (disch := omega) only [if_pos, if_neg, bnd_e, cal_e, chk_t, isZ_0, isZ_1, isZ_n0, isZ_n1, ald_n, ast_n, stb_n, litI, nI_add, pk_mul, pk_sub, Nat.add_sub_cancel, nar_0, nar_1, nI_leI, nI_ltI, nI_eq, Nat.not_lt_zero, Nat.le_zero_eq, Nat.zero_le, not_true_eq_false, not_false_eq_true, reduceIte, if_true, if_false, ite_self, Bool.false_eq_true, Nat.reduceEqDiff, Nat.reduceAdd, Nat.reduceMul, Nat.reduceSub, Nat.reduceLT, Nat.reduceLeDiff, Nat.reducePow, gi_si, gi_sg, gi_sa, gi_sl, ga_si, ga_sg2, ga_sa, ga_sl, gl_si, gl_sg, gl_sa, gl_sl, sp0, sp1, sp2, sp3, sp4, b0, b1, b2, b3, b4], Or.inr ⟨4, by omega, rfl, k4 rfl⟩⟩
        · exact ⟨nI 3, by simp (disch := omega) only [if_pos, if_neg, bnd_e, cal_e, chk_t, isZ_0, isZ_1, isZ_n0, isZ_n1, ald_n, ast_n, stb_n, litI, nI_add, pk_mul, pk_sub, Nat.add_sub_cancel, nar_0, nar_1, nI_leI, nI_ltI, nI_eq, Nat.not_lt_zero, Nat.le_zero_eq, Nat.zero_le, not_true_eq_false, not_false_eq_true, reduceIte, if_true, if_false, ite_self, Bool.false_eq_true, Nat.reduceEqDiff, Nat.reduceAdd, Nat.reduceMul, Nat.reduceSub, Nat.reduceLT, Nat.reduceLeDiff, Nat.reducePow, gi_si, gi_sg, gi_sa, gi_sl, ga_si, ga_sg2, ga_sa, ga_sl, gl_si, gl_sg, gl_sa, gl_sl, a0, a1, a2, a3], by simp (disch := omega) only [if_pos, if_neg, bnd_e, cal_e, chk_t, isZ_0, isZ_1, isZ_n0, isZ_n1, ald_n, ast_n, stb_n, litI, nI_add, pk_mul, pk_sub, Nat.add_sub_cancel, nar_0, nar_1, nI_leI, nI_ltI, nI_eq, Nat.not_lt_zero, Nat.le_zero_eq, Nat.zero_le, not_true_eq_false, not_false_eq_true, reduceIte, if_true, if_false, ite_self, Bool.false_eq_true, Nat.reduceEqDiff, Nat.reduceAdd, Nat.reduceMul, Nat.reduceSub, Nat.reduceLT, Nat.reduceLeDiff, Nat.reducePow, gi_si, gi_sg, gi_sa, gi_sl, ga_si, ga_sg2, ga_sa, ga_sl, gl_si, gl_sg, gl_sa, gl_sl, sp0, sp1, sp2, sp3, b0, b1, b2, b3], Or.inr ⟨3, by omega, rfl, k3 rfl⟩⟩
      · exact ⟨nI 2, by simp (disch := omega) only [if_pos, if_neg, bnd_e, cal_e, chk_t, isZ_0, isZ_1, isZ_n0, isZ_n1, ald_n, ast_n, stb_n, litI, nI_add, pk_mul, pk_sub, Nat.add_sub_cancel, nar_0, nar_1, nI_leI, nI_ltI, nI_eq, Nat.not_lt_zero, Nat.le_zero_eq, Nat.zero_le, not_true_eq_false, not_false_eq_true, reduceIte, if_true, if_false, ite_self, Bool.false_eq_true, Nat.reduceEqDiff, Nat.reduceAdd, Nat.reduceMul, Nat.reduceSub, Nat.reduceLT, Nat.reduceLeDiff, Nat.reducePow, gi_si, gi_sg, gi_sa, gi_sl, ga_si, ga_sg2, ga_sa, ga_sl, gl_si, gl_sg, gl_sa, gl_sl, a0, a1, a2], by simp (disch := omega) only [if_pos, if_neg, bnd_e, cal_e, chk_t, isZ_0, isZ_1, isZ_n0, isZ_n1, ald_n, ast_n, stb_n, litI, nI_add, pk_mul, pk_sub, Nat.add_sub_cancel, nar_0, nar_1, nI_leI, nI_ltI, nI_eq, Nat.not_lt_zero, Nat.le_zero_eq, Nat.zero_le, not_true_eq_false, not_false_eq_true, reduceIte, if_true, if_false, ite_self, Bool.false_eq_true, Nat.reduceEqDiff, Nat.reduceAdd, Nat.reduceMul, Nat.reduceSub, Nat.reduceLT, Nat.reduceLeDiff, Nat.reducePow, gi_si, gi_sg, gi_sa, gi_sl, ga_si, ga_sg2, ga_sa, ga_sl, gl_si, gl_sg, gl_sa, gl_sl, sp0, sp1, sp2, b0, b1, b2], Or.inr ⟨2, by omega, rfl, k2 rfl⟩⟩
    · exact ⟨nI 1, by simp (disch := omega) only [if_pos, if_neg, bnd_e, cal_e, chk_t, isZ_0, isZ_1, isZ_n0, isZ_n1, ald_n, ast_n, stb_n, litI, nI_add, pk_mul, pk_sub, Nat.add_sub_cancel, nar_0, nar_1, nI_leI, nI_ltI, nI_eq, Nat.not_lt_zero, Nat.le_zero_eq, Nat.zero_le, not_true_eq_false, not_false_eq_true, reduceIte, if_true, if_false, ite_self, Bool.false_eq_true, Nat.reduceEqDiff, Nat.reduceAdd, Nat.reduceMul, Nat.reduceSub, Nat.reduceLT, Nat.reduceLeDiff, Nat.reducePow, gi_si, gi_sg, gi_sa, gi_sl, ga_si, ga_sg2, ga_sa, ga_sl, gl_si, gl_sg, gl_sa, gl_sl, a0, a1], by simp (disch := omega) only [if_pos, if_neg, bnd_e, cal_e, chk_t, isZ_0, isZ_1, isZ_n0, isZ_n1, ald_n, ast_n, stb_n, litI, nI_add, pk_mul, pk_sub, Nat.add_sub_cancel, nar_0, nar_1, nI_leI, nI_ltI, nI_eq, Nat.not_lt_zero, Nat.le_zero_eq, Nat.zero_le, not_true_eq_false, not_false_eq_true, reduceIte, if_true, if_false, ite_self, Bool.false_eq_true, Nat.reduceEqDiff, Nat.reduceAdd, Nat.reduceMul, Nat.reduceSub, Nat.reduceLT, Nat.reduceLeDiff, Nat.reducePow, gi_si, gi_sg, gi_sa, gi_sl, ga_si, ga_sg2, ga_sa, ga_sl, gl_si, gl_sg, gl_sa, gl_sl, sp0, sp1, b0, b1], Or.inr ⟨1, by omega, rfl, k1 rfl⟩⟩
  · exact ⟨nI 0, by simp (disch := omega) only [if_pos, if_neg, bnd_e, cal_e, chk_t, isZ_0, isZ_1, isZ_n0, isZ_n1, ald_n, ast_n, stb_n, litI, nI_add, pk_mul, pk_sub, Nat.add_sub_cancel, nar_0, nar_1, nI_leI, nI_ltI, nI_eq, Nat.not_lt_zero, Nat.le_zero_eq, Nat.zero_le, not_true_eq_false, not_false_eq_true, reduceIte, if_true, if_false, ite_self, Bool.false_eq_true, Nat.reduceEqDiff, Nat.reduceAdd, Nat.reduceMul, Nat.reduceSub, Nat.reduceLT, Nat.reduceLeDiff, Nat.reducePow, gi_si, gi_sg, gi_sa, gi_sl, ga_si, ga_sg2, ga_sa, ga_sl, gl_si, gl_sg, gl_sa, gl_sl, a0], by simp (disch := omega) only [if_pos, if_neg, bnd_e, cal_e, chk_t, isZ_0, isZ_1, isZ_n0, isZ_n1, ald_n, ast_n, stb_n, litI, nI_add, pk_mul, pk_sub, Nat.add_sub_cancel, nar_0, nar_1, nI_leI, nI_ltI, nI_eq, Nat.not_lt_zero, Nat.le_zero_eq, Nat.zero_le, not_true_eq_false, not_false_eq_true, reduceIte, if_true, if_false, ite_self, Bool.false_eq_true, Nat.reduceEqDiff, Nat.reduceAdd, Nat.reduceMul, Nat.reduceSub, Nat.reduceLT, Nat.reduceLeDiff, Nat.reducePow, gi_si, gi_sg, gi_sa, gi_sl, ga_si, ga_sg2, ga_sa, ga_sl, gl_si, gl_sg, gl_sa, gl_sl, sp0, b0], Or.inr ⟨0, by omega, rfl, k0 rfl⟩⟩
def pc5 (m : Nat) : Nat := m % 2 + m / 2 % 2 + m / 4 % 2 + m / 8 % 2 + m / 16 % 2
theorem bit_r : ∀ m, m < 32 → ∀ k, k < 5 → ((nI m) >>> (nI k &&& nI 31)) &&& nI 1 = nI (m / 2 ^ k % 2) := by decide +kernel
theorem bit_s : ∀ m, m < 32 → ∀ k, k < 5 → m / 2 ^ k % 2 = 0 → (nI m) ||| ((nI 1) <<< (nI k &&& nI 31)) = nI (m + 2 ^ k) ∧ m + 2 ^ k < 32 ∧ pc5 (m + 2 ^ k) = pc5 m + 1 ∧ ∀ j, j < 5 → (m + 2 ^ k) / 2 ^ j % 2 = if j = k then 1 else m / 2 ^ j % 2 := by decide +kernel
theorem pc5_le : ∀ m, m < 32 → pc5 m ≤ 5 := by decide
def lo5 (k : Nat) : Nat := if k = 4 then 1 else 0
def hi5 (k : Nat) : Nat := if k = 2 then 6 else if k = 3 then 900 else if k = 4 then 4 else 9999
theorem tb_lo : ∀ k, k < 5 → tb_LOWEST k = nI (lo5 k) ∧ ga iniM 4 k = nI (lo5 k) ∧ lo5 k ≤ 9999 := by decide
theorem tb_hi : ∀ k, k < 5 → tb_HIGHEST k = nI (hi5 k) ∧ ga iniM 5 k = nI (hi5 k) ∧ hi5 k ≤ 9999 := by decide
/-- between two rules: m the rules told so far -/
def RIa (m : Nat) (σx σm : St) : Prop := m < 32 ∧ gi σm 10 = nI m ∧ gi σx 8 = nI (pc5 m) ∧ (∀ k, k < 5 → ga σx 3 k = nI (m / 2 ^ k % 2)) ∧ (∀ k, k < 5 → ga σx 2 k = ga σm 3 k ∧ rg (lo5 k) (hi5 k) (ga σm 3 k)) ∧ ga σm 4 = ga iniM 4 ∧ ga σm 5 = ga iniM 5 ∧ gi σx 1 = nI 0 ∧ gi σm 8 = nI 0
theorem RIa_fr {m : Nat} {σx σm σx2 σm2 : St} (h : RIa m σx σm) (fx : FxT σx σx2) (fm : FmG σm σm2) : RIa m σx2 σm2 := by
  unfold RIa
  rw [fm.1 10 (by omega) (by omega) (by omega) (by omega), fx.1 8 (by omega) (by omega) (by omega) (by omega), fx.2 3, fx.2 2, fm.2 3, fm.2 4, fm.2 5, fx.1 1 (by omega) (by omega) (by omega) (by omega), fm.1 8 (by omega) (by omega) (by omega) (by omega)]
  exact h
/-- what reading rules may touch -/
def FxU (σ σ2 : St) : Prop := (∀ j, j = 0 ∨ 9 ≤ j → gi σ2 j = gi σ j) ∧ ∀ a, a ≠ 2 → a ≠ 3 → ga σ2 a = ga σ a
def FmU (σ σ2 : St) : Prop := (∀ j, j ≤ 3 ∨ 11 ≤ j → gi σ2 j = gi σ j) ∧ ∀ a, a ≠ 3 → ga σ2 a = ga σ a
theorem FxR.u {σ σ2 : St} (h : FxR σ σ2) : FxU σ σ2 := ⟨fun j j1 => h.1 j (by omega) (by omega) (by omega) (by omega) (by omega) (by omega), fun a _ _ => h.2 a⟩
theorem FmR.u {σ σ2 : St} (h : FmR σ σ2) : FmU σ σ2 := ⟨fun j j1 => h.1 j (by omega) (by omega) (by omega) (by omega) (by omega) (by omega), fun a _ => h.2 a⟩
theorem FxU.tr {σ σ2 σ3 : St} (h : FxU σ σ2) (k : FxU σ2 σ3) : FxU σ σ3 := ⟨fun j j1 => (k.1 j j1).trans (h.1 j j1), fun a a1 a2 => (k.2 a a1 a2).trans (h.2 a a1 a2)⟩
theorem FmU.tr {σ σ2 σ3 : St} (h : FmU σ σ2) (k : FmU σ2 σ3) : FmU σ σ3 := ⟨fun j j1 => (k.1 j j1).trans (h.1 j j1), fun a a1 => (k.2 a a1).trans (h.2 a a1)⟩
theorem rule_one (N : Nat) (hN : 260 < N) {T L m : Nat} {bt : Nat → Nat} {σx σm : St} (c : PC T L bt σx σm) (t : Tk T bt σx σm) (h : RIa m σx σm) (hE : ¬ gi σm 6 = nI 0) : (∃ σx2 σm2, X3_readOne_f N σx = some (nI 0, σx2) ∧ X7_readRule_f N σm = some (nI 0, σm2) ∧ Bad σx2 σm2 ∧ FxU σx σx2 ∧ FmU σm σm2) ∨ (∃ (σx2 σm1 σm2 : St) (m2 : Nat), X3_readOne_f N σx = some (nI 1, σx2) ∧ X7_readRule_f N σm = some (nI 1, σm1) ∧ X7_go_f N σm1 = some (nI 0, σm2) ∧ PC T L bt σx2 σm2 ∧ Tk T bt σx2 σm2 ∧ RIa m2 σx2 σm2 ∧ pc5 m2 = pc5 m + 1 ∧ FxU σx σx2 ∧ FmU σm σm2) := by
  obtain ⟨w, n1, n2, n3⟩ := named_both N hN c t
  obtain ⟨f, e, t1, t2, t3, t4⟩ := id t
  have hT := c.1
  unfold X3_readOne_f X7_readRule_f X7_readRule_l101
  rcases n3 with rfl | ⟨k, hk, rfl, kk⟩
  · left
    obtain ⟨σx2, σm2, r1, r2, r3, r4, r5⟩ := bad_both N hT t1 t2 t3 1 1 (by by_cases z : gi σm 6 = nI 1 <;> simp [z])
    exact ⟨σx2, σm2, by simp (disch := omega) only [if_pos, if_neg, bnd_e, cal_e, chk_t, isZ_0, isZ_1, isZ_n0, isZ_n1, ald_n, ast_n, stb_n, litI, nI_add, pk_mul, pk_sub, Nat.add_sub_cancel, nar_0, nar_1, nI_leI, nI_ltI, nI_eq, Nat.not_lt_zero, Nat.le_zero_eq, Nat.zero_le, not_true_eq_false, not_false_eq_true, reduceIte, if_true, if_false, ite_self, Bool.false_eq_true, Nat.reduceEqDiff, Nat.reduceAdd, Nat.reduceMul, Nat.reduceSub, Nat.reduceLT, Nat.reduceLeDiff, Nat.reducePow, gi_si, gi_sg, gi_sa, gi_sl, ga_si, ga_sg2, ga_sa, ga_sl, gl_si, gl_sg, gl_sa, gl_sl, n1, r1], by simp (disch := omega) only [if_pos, if_neg, bnd_e, cal_e, chk_t, isZ_0, isZ_1, isZ_n0, isZ_n1, ald_n, ast_n, stb_n, litI, nI_add, pk_mul, pk_sub, Nat.add_sub_cancel, nar_0, nar_1, nI_leI, nI_ltI, nI_eq, Nat.not_lt_zero, Nat.le_zero_eq, Nat.zero_le, not_true_eq_false, not_false_eq_true, reduceIte, if_true, if_false, ite_self, Bool.false_eq_true, Nat.reduceEqDiff, Nat.reduceAdd, Nat.reduceMul, Nat.reduceSub, Nat.reduceLT, Nat.reduceLeDiff, Nat.reducePow, gi_si, gi_sg, gi_sa, gi_sl, ga_si, ga_sg2, ga_sa, ga_sl, gl_si, gl_sg, gl_sa, gl_sl, n2, r2], r3, r4.u, r5.u⟩
  obtain ⟨i1, i2, i3, i4, i5, i6, i7, i8, i9⟩ := id h
  have neg : ¬ nI k = -nI 1 := by
    rcases (show k = 0 ∨ k = 1 ∨ k = 2 ∨ k = 3 ∨ k = 4 by omega) with rfl | rfl | rfl | rfl | rfl <;> decide
  have hb := bit_r m i1 k hk
  by_cases hbit : m / 2 ^ k % 2 = 1
  · left
    rw [hbit] at hb
    have h3 := i4 k hk
    rw [hbit] at h3
    obtain ⟨σx2, σm2, r1, r2, r3, r4, r5⟩ := bad_both N hT t1 t2 t3 3 3 (Or.inr ⟨by rw [kk]; decide, rfl⟩)
    refine ⟨σx2, σm2, ?_, ?_, r3, r4.u, r5.u⟩
    · simp (disch := omega) only [if_pos, if_neg, bnd_e, cal_e, chk_t, isZ_0, isZ_1, isZ_n0, isZ_n1, ald_n, ast_n, stb_n, litI, nI_add, pk_mul, pk_sub, Nat.add_sub_cancel, nar_0, nar_1, nI_leI, nI_ltI, nI_eq, Nat.not_lt_zero, Nat.le_zero_eq, Nat.zero_le, not_true_eq_false, not_false_eq_true, reduceIte, if_true, if_false, ite_self, Bool.false_eq_true, Nat.reduceEqDiff, Nat.reduceAdd, Nat.reduceMul, Nat.reduceSub, Nat.reduceLT, Nat.reduceLeDiff, Nat.reducePow, gi_si, gi_sg, gi_sa, gi_sl, ga_si, ga_sg2, ga_sa, ga_sl, gl_si, gl_sg, gl_sa, gl_sl, n1, neg, h3, r1]
    · simp (disch := omega) only [if_pos, if_neg, bnd_e, cal_e, chk_t, isZ_0, isZ_1, isZ_n0, isZ_n1, ald_n, ast_n, stb_n, litI, nI_add, pk_mul, pk_sub, Nat.add_sub_cancel, nar_0, nar_1, nI_leI, nI_ltI, nI_eq, Nat.not_lt_zero, Nat.le_zero_eq, Nat.zero_le, not_true_eq_false, not_false_eq_true, reduceIte, if_true, if_false, ite_self, Bool.false_eq_true, Nat.reduceEqDiff, Nat.reduceAdd, Nat.reduceMul, Nat.reduceSub, Nat.reduceLT, Nat.reduceLeDiff, Nat.reducePow, gi_si, gi_sg, gi_sa, gi_sl, ga_si, ga_sg2, ga_sa, ga_sl, gl_si, gl_sg, gl_sa, gl_sl, n2, neg, i2, hb, r2]
  have hbit0 : m / 2 ^ k % 2 = 0 := by omega
  rw [hbit0] at hb
  have h3 := i4 k hk
  rw [hbit0] at h3
  obtain ⟨e0, ex, em⟩ := Tk_pos (by omega) (by omega) t4 kk
  obtain ⟨tl1, tl2, tl3⟩ := tb_lo k hk
  obtain ⟨th1, th2, th3⟩ := tb_hi k hk
  obtain ⟨σx2, σm1, g1, g2, g3⟩ := num_both N hN tl3 th3 e0 c ex em
  rw [← i6] at tl2
  rw [← i7] at th2
  rw [← g2.2 4] at tl2
  rw [← g2.2 5] at th2
  rcases g3 with ⟨σm2, g4, g5, g6, g7, g8⟩ | ⟨n, e2, g4, g5, g6, g7, g8, g9, g10, g11, g12, g13, g14, g15, g16⟩
  · left
    refine ⟨σx2, σm2, ?_, ?_, g6, g7.u, g8.u⟩
    · simp (disch := omega) only [if_pos, if_neg, bnd_e, cal_e, chk_t, isZ_0, isZ_1, isZ_n0, isZ_n1, ald_n, ast_n, stb_n, litI, nI_add, pk_mul, pk_sub, Nat.add_sub_cancel, nar_0, nar_1, nI_leI, nI_ltI, nI_eq, Nat.not_lt_zero, Nat.le_zero_eq, Nat.zero_le, not_true_eq_false, not_false_eq_true, reduceIte, if_true, if_false, ite_self, Bool.false_eq_true, Nat.reduceEqDiff, Nat.reduceAdd, Nat.reduceMul, Nat.reduceSub, Nat.reduceLT, Nat.reduceLeDiff, Nat.reducePow, gi_si, gi_sg, gi_sa, gi_sl, ga_si, ga_sg2, ga_sa, ga_sl, gl_si, gl_sg, gl_sa, gl_sl, n1, neg, h3, tl1, th1, g4]
    · simp (disch := omega) only [if_pos, if_neg, bnd_e, cal_e, chk_t, isZ_0, isZ_1, isZ_n0, isZ_n1, ald_n, ast_n, stb_n, litI, nI_add, pk_mul, pk_sub, Nat.add_sub_cancel, nar_0, nar_1, nI_leI, nI_ltI, nI_eq, Nat.not_lt_zero, Nat.le_zero_eq, Nat.zero_le, not_true_eq_false, not_false_eq_true, reduceIte, if_true, if_false, ite_self, Bool.false_eq_true, Nat.reduceEqDiff, Nat.reduceAdd, Nat.reduceMul, Nat.reduceSub, Nat.reduceLT, Nat.reduceLeDiff, Nat.reducePow, gi_si, gi_sg, gi_sa, gi_sl, ga_si, ga_sg2, ga_sa, ga_sl, gl_si, gl_sg, gl_sa, gl_sl, n2, neg, i2, hb, g1, tl2, th2, g5]
  · obtain ⟨s1, s2, s3, s4⟩ := bit_s m i1 k hk hbit0
    have hI2 := RIa_fr h g13 g2
    obtain ⟨j1, j2, j3, j4, j5, j6, j7, j8, j9⟩ := id hI2
    have hI3 : RIa (m + 2 ^ k) (si (sa (sa σx2 2 k (nI n)) 3 k (nI 1)) 8 (nI (pc5 m + 1))) (si (sa σm1 3 k (nI n)) 10 (nI (m + 2 ^ k))) := by
      refine ⟨s2, rfl, by rw [s3]; rfl, fun q hq => ?_, fun q hq => ?_, j6, j7, j8, j9⟩
      · simp only [gi_si, gi_sg, gi_sa, gi_sl, ga_si, ga_sg2, ga_sa, ga_sl, gl_si, gl_sg, gl_sa, gl_sl, Nat.not_lt_zero, Nat.le_zero_eq, Nat.zero_le, not_true_eq_false, not_false_eq_true, reduceIte, if_true, if_false, ite_self, Bool.false_eq_true, Nat.reduceEqDiff, Nat.reduceAdd, Nat.reduceMul, Nat.reduceSub, Nat.reduceLT, Nat.reduceLeDiff, Nat.reducePow, upd_e]
        rw [s4 q hq]
        by_cases z : q = k
        · simp only [z, if_true]
        · simp only [z, if_false]
          exact j4 q hq
      · simp only [gi_si, gi_sg, gi_sa, gi_sl, ga_si, ga_sg2, ga_sa, ga_sl, gl_si, gl_sg, gl_sa, gl_sl, Nat.not_lt_zero, Nat.le_zero_eq, Nat.zero_le, not_true_eq_false, not_false_eq_true, reduceIte, if_true, if_false, ite_self, Bool.false_eq_true, Nat.reduceEqDiff, Nat.reduceAdd, Nat.reduceMul, Nat.reduceSub, Nat.reduceLT, Nat.reduceLeDiff, Nat.reducePow, upd_e]
        by_cases z : q = k
        · simp only [z, if_true]
          exact ⟨trivial, rg_mk g6 g7⟩
        · simp only [z, if_false]
          exact j5 q hq
    have c3 : PC T L bt (si (sa (sa σx2 2 k (nI n)) 3 k (nI 1)) 8 (nI (pc5 m + 1))) (si (sa σm1 3 k (nI n)) 10 (nI (m + 2 ^ k))) := g14
    have fx3 : FxU σx (si (sa (sa σx2 2 k (nI n)) 3 k (nI 1)) 8 (nI (pc5 m + 1))) := g13.r.u.tr ⟨fun j hj => by simp only [gi_si, gi_sa, show ¬ j = 8 by omega, if_false], fun a a1 a2 => by simp only [ga_si, ga_sa, a1, a2, if_false]⟩
    have fm3 : FmU σm (si (sa σm1 3 k (nI n)) 10 (nI (m + 2 ^ k))) := g2.r.u.tr ⟨fun j hj => by simp only [gi_si, gi_sa, show ¬ j = 10 by omega, if_false], fun a a1 => by simp only [ga_si, ga_sa, a1, if_false]⟩
    obtain ⟨σx4, σm4, p1, p2, p3, p4, p5⟩ := tok_step N hN g8 c3 g11 g12
    have c4 := PC_fr c3 p4 p5
    have hI4 := RIa_fr hI3 p4 p5
    have i2b : gi σm1 10 = nI m := j2
    have j3b : gi σx2 8 = nI (pc5 m) := j3
    obtain ⟨f5, e5, u1, u2, u3, u4⟩ := id p3
    by_cases semi : gi σm4 6 = nI 4
    · right
      have semix : gi σx4 3 = nI 4 := by
        rcases u4 with ⟨z1, z2⟩ | ⟨z1, z2, z3⟩ | ⟨z0, zx, zm, ⟨z1, z2, z3, z4, z5⟩ | ⟨z1, z2, z3⟩ | ⟨z1, z2⟩⟩
        · rw [z2, nI_eq (by omega) (by omega)] at semi; omega
        · rw [z2, nI_eq (by omega) (by omega)] at semi; omega
        · rw [z2, nI_eq (by omega) (by omega)] at semi; omega
        · rw [z2, nI_eq (by omega) (by omega)] at semi; omega
        · exact z1
      obtain ⟨v0, vx, vm⟩ := Tk_pos (by omega) (by omega) u4 semi
      obtain ⟨σx5, σm5, y1, y2, y3, y4, y5⟩ := tok_step N hN v0 c4 vx vm
      refine ⟨σx5, σm4, σm5, m + 2 ^ k, ?_, ?_, y2, PC_fr c4 y4 y5, y3, RIa_fr hI4 y4 y5, s3, (fx3.tr p4.r.u).tr y4.r.u, (fm3.tr p5.r.u).tr y5.r.u⟩
      · unfold X5_passSemicolon_f
        simp (disch := omega) only [if_pos, if_neg, bnd_e, cal_e, chk_t, isZ_0, isZ_1, isZ_n0, isZ_n1, ald_n, ast_n, stb_n, litI, nI_add, pk_mul, pk_sub, Nat.add_sub_cancel, nar_0, nar_1, nI_leI, nI_ltI, nI_eq, Nat.not_lt_zero, Nat.le_zero_eq, Nat.zero_le, not_true_eq_false, not_false_eq_true, reduceIte, if_true, if_false, ite_self, Bool.false_eq_true, Nat.reduceEqDiff, Nat.reduceAdd, Nat.reduceMul, Nat.reduceSub, Nat.reduceLT, Nat.reduceLeDiff, Nat.reducePow, gi_si, gi_sg, gi_sa, gi_sl, ga_si, ga_sg2, ga_sa, ga_sl, gl_si, gl_sg, gl_sa, gl_sl, n1, neg, h3, tl1, th1, g4, g9, j3b, p1, semix, y1]
      · simp (disch := omega) only [if_pos, if_neg, bnd_e, cal_e, chk_t, isZ_0, isZ_1, isZ_n0, isZ_n1, ald_n, ast_n, stb_n, litI, nI_add, pk_mul, pk_sub, Nat.add_sub_cancel, nar_0, nar_1, nI_leI, nI_ltI, nI_eq, Nat.not_lt_zero, Nat.le_zero_eq, Nat.zero_le, not_true_eq_false, not_false_eq_true, reduceIte, if_true, if_false, ite_self, Bool.false_eq_true, Nat.reduceEqDiff, Nat.reduceAdd, Nat.reduceMul, Nat.reduceSub, Nat.reduceLT, Nat.reduceLeDiff, Nat.reducePow, gi_si, gi_sg, gi_sa, gi_sl, ga_si, ga_sg2, ga_sa, ga_sl, gl_si, gl_sg, gl_sa, gl_sl, n2, neg, i2, i2b, hb, g1, tl2, th2, g5, g10, s1, p2, semi]
    · left
      have semix : ¬ gi σx4 3 = nI 4 := by
        rcases u4 with ⟨z1, z2⟩ | ⟨z1, z2, z3⟩ | ⟨z0, zx, zm, ⟨z1, z2, z3, z4, z5⟩ | ⟨z1, z2, z3⟩ | ⟨z1, z2⟩⟩
        · rw [z1]; decide
        · rw [z1]; decide
        · rw [z1]; decide
        · rw [z1]; decide
        · exact absurd z2 semi
      obtain ⟨σx5, σm5, r1, r2, r3, r4, r5⟩ := bad_both N hT u1 u2 u3 1 1 (by by_cases z : gi σm4 6 = nI 1 <;> simp [z])
      refine ⟨σx5, σm5, ?_, ?_, r3, (fx3.tr p4.r.u).tr r4.u, (fm3.tr p5.r.u).tr r5.u⟩
      · unfold X5_passSemicolon_f
        simp (disch := omega) only [if_pos, if_neg, bnd_e, cal_e, chk_t, isZ_0, isZ_1, isZ_n0, isZ_n1, ald_n, ast_n, stb_n, litI, nI_add, pk_mul, pk_sub, Nat.add_sub_cancel, nar_0, nar_1, nI_leI, nI_ltI, nI_eq, Nat.not_lt_zero, Nat.le_zero_eq, Nat.zero_le, not_true_eq_false, not_false_eq_true, reduceIte, if_true, if_false, ite_self, Bool.false_eq_true, Nat.reduceEqDiff, Nat.reduceAdd, Nat.reduceMul, Nat.reduceSub, Nat.reduceLT, Nat.reduceLeDiff, Nat.reducePow, gi_si, gi_sg, gi_sa, gi_sl, ga_si, ga_sg2, ga_sa, ga_sl, gl_si, gl_sg, gl_sa, gl_sl, n1, neg, h3, tl1, th1, g4, g9, j3b, p1, semix, r1]
      · simp (disch := omega) only [if_pos, if_neg, bnd_e, cal_e, chk_t, isZ_0, isZ_1, isZ_n0, isZ_n1, ald_n, ast_n, stb_n, litI, nI_add, pk_mul, pk_sub, Nat.add_sub_cancel, nar_0, nar_1, nI_leI, nI_ltI, nI_eq, Nat.not_lt_zero, Nat.le_zero_eq, Nat.zero_le, not_true_eq_false, not_false_eq_true, reduceIte, if_true, if_false, ite_self, Bool.false_eq_true, Nat.reduceEqDiff, Nat.reduceAdd, Nat.reduceMul, Nat.reduceSub, Nat.reduceLT, Nat.reduceLeDiff, Nat.reducePow, gi_si, gi_sg, gi_sa, gi_sl, ga_si, ga_sg2, ga_sa, ga_sl, gl_si, gl_sg, gl_sa, gl_sl, n2, neg, i2, i2b, hb, g1, tl2, th2, g5, g10, s1, p2, semi, r2]
