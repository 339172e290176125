def FmT (σ σ2 : St) : Prop := (∀ j, j ≠ 4 → j ≠ 6 → j ≠ 7 → gi σ2 j = gi σ j) ∧ ∀ a, ga σ2 a = ga σ a
theorem tok_end (N : Nat) {bt : Nat → Nat} {f i l d u F : Nat} {v : Int32} {σx σm : St} (hi : i ≤ 260) (hf : f < i) (h4 : gi σm 4 = nI i) (h5 : gi σm 5 = nI f) (h : Ti bt f i l d u F v (gi σm 7) (gl σm)) : ∃ kx km : Int32, X5_readToken_l120 N (nI l) (nI d) v (nI i) σx = some (nI 0, si (si (si σx 7 (nI i)) 4 v) 3 kx) ∧ (if nI u = nI 0 then X7_go_l343 N σm else if nI F = nI 0 then (if (gi σm 4) - (gi σm 5) ≤ nI 4 then X7_go_l347 N (nI F) σm else X7_go_l343 N σm) else X7_go_l347 N (nI F) σm) = some (nI 0, si σm 6 km) ∧ Kd bt f i kx km v (gi σm 7) (gl σm) := by
  obtain ⟨t1, t2, t3, t4, t5, t6⟩ := h
  unfold X5_readToken_l120 X5_kindOf_f X5_kindOf_l10 X7_go_l343 X7_go_l347 X7_go_l356
  by_cases u0 : u = 0
  · have q := t6 u0
    refine ⟨nI 0, nI 1, ?_, ?_, Or.inl ⟨rfl, rfl⟩⟩
    · simp (disch := omega) only [if_pos, if_neg, bnd_e, cal_e, chk_t, isZ_0, isZ_1, isZ_n0, isZ_n1, ald_n, ast_n, stb_n, litI, nI_add, pk_mul, pk_sub, Nat.add_sub_cancel, nar_0, nar_1, nI_leI, nI_ltI, nI_eq, Nat.not_lt_zero, Nat.le_zero_eq, Nat.zero_le, not_true_eq_false, not_false_eq_true, reduceIte, if_true, if_false, ite_self, Bool.false_eq_true, Nat.reduceEqDiff, Nat.reduceAdd, Nat.reduceMul, Nat.reduceSub, Nat.reduceLT, Nat.reduceLeDiff, Nat.reducePow, gi_si, gi_sg, gi_sa, gi_sl, ga_si, ga_sg2, ga_sa, ga_sl, gl_si, gl_sg, gl_sa, gl_sl]
    · simp (disch := omega) only [if_pos, if_neg, bnd_e, cal_e, chk_t, isZ_0, isZ_1, isZ_n0, isZ_n1, ald_n, ast_n, stb_n, litI, nI_add, pk_mul, pk_sub, Nat.add_sub_cancel, nar_0, nar_1, nI_leI, nI_ltI, nI_eq, Nat.not_lt_zero, Nat.le_zero_eq, Nat.zero_le, not_true_eq_false, not_false_eq_true, reduceIte, if_true, if_false, ite_self, Bool.false_eq_true, Nat.reduceEqDiff, Nat.reduceAdd, Nat.reduceMul, Nat.reduceSub, Nat.reduceLT, Nat.reduceLeDiff, Nat.reducePow, gi_si, gi_sg, gi_sa, gi_sl, ga_si, ga_sg2, ga_sa, ga_sl, gl_si, gl_sg, gl_sa, gl_sl]
  by_cases F1 : F = 1
  · have q := t4 (by omega) F1
    refine ⟨nI 2, nI 2, ?_, ?_, Or.inr (Or.inl ⟨rfl, rfl, hf, q.2.1, q.2.2⟩)⟩
    · have q1 := q.1
      simp (disch := omega) only [if_pos, if_neg, bnd_e, cal_e, chk_t, isZ_0, isZ_1, isZ_n0, isZ_n1, ald_n, ast_n, stb_n, litI, nI_add, pk_mul, pk_sub, Nat.add_sub_cancel, nar_0, nar_1, nI_leI, nI_ltI, nI_eq, Nat.not_lt_zero, Nat.le_zero_eq, Nat.zero_le, not_true_eq_false, not_false_eq_true, reduceIte, if_true, if_false, ite_self, Bool.false_eq_true, Nat.reduceEqDiff, Nat.reduceAdd, Nat.reduceMul, Nat.reduceSub, Nat.reduceLT, Nat.reduceLeDiff, Nat.reducePow, gi_si, gi_sg, gi_sa, gi_sl, ga_si, ga_sg2, ga_sa, ga_sl, gl_si, gl_sg, gl_sa, gl_sl]
    · simp (disch := omega) only [if_pos, if_neg, bnd_e, cal_e, chk_t, isZ_0, isZ_1, isZ_n0, isZ_n1, ald_n, ast_n, stb_n, litI, nI_add, pk_mul, pk_sub, Nat.add_sub_cancel, nar_0, nar_1, nI_leI, nI_ltI, nI_eq, Nat.not_lt_zero, Nat.le_zero_eq, Nat.zero_le, not_true_eq_false, not_false_eq_true, reduceIte, if_true, if_false, ite_self, Bool.false_eq_true, Nat.reduceEqDiff, Nat.reduceAdd, Nat.reduceMul, Nat.reduceSub, Nat.reduceLT, Nat.reduceLeDiff, Nat.reducePow, gi_si, gi_sg, gi_sa, gi_sl, ga_si, ga_sg2, ga_sa, ga_sl, gl_si, gl_sg, gl_sa, gl_sl]
  · have q := t5 (by omega) (by omega)
    have q1 := q.1
    by_cases d4 : d ≤ 4
    · obtain ⟨w, w1, w2, w3⟩ := q.2 (by omega)
      have : (10 : Nat) ^ (i - f) ≤ 10 ^ 4 := Nat.pow_le_pow_right (by omega) (by omega)
      refine ⟨nI 3, nI 3, ?_, ?_, Or.inr (Or.inr ⟨rfl, rfl, w, by omega, w2, w3⟩)⟩
      · simp (disch := omega) only [if_pos, if_neg, bnd_e, cal_e, chk_t, isZ_0, isZ_1, isZ_n0, isZ_n1, ald_n, ast_n, stb_n, litI, nI_add, pk_mul, pk_sub, Nat.add_sub_cancel, nar_0, nar_1, nI_leI, nI_ltI, nI_eq, Nat.not_lt_zero, Nat.le_zero_eq, Nat.zero_le, not_true_eq_false, not_false_eq_true, reduceIte, if_true, if_false, ite_self, Bool.false_eq_true, Nat.reduceEqDiff, Nat.reduceAdd, Nat.reduceMul, Nat.reduceSub, Nat.reduceLT, Nat.reduceLeDiff, Nat.reducePow, gi_si, gi_sg, gi_sa, gi_sl, ga_si, ga_sg2, ga_sa, ga_sl, gl_si, gl_sg, gl_sa, gl_sl]
      · simp (disch := omega) only [if_pos, if_neg, bnd_e, cal_e, chk_t, isZ_0, isZ_1, isZ_n0, isZ_n1, ald_n, ast_n, stb_n, litI, nI_add, pk_mul, pk_sub, Nat.add_sub_cancel, nar_0, nar_1, nI_leI, nI_ltI, nI_eq, Nat.not_lt_zero, Nat.le_zero_eq, Nat.zero_le, not_true_eq_false, not_false_eq_true, reduceIte, if_true, if_false, ite_self, Bool.false_eq_true, Nat.reduceEqDiff, Nat.reduceAdd, Nat.reduceMul, Nat.reduceSub, Nat.reduceLT, Nat.reduceLeDiff, Nat.reducePow, gi_si, gi_sg, gi_sa, gi_sl, ga_si, ga_sg2, ga_sa, ga_sl, gl_si, gl_sg, gl_sa, gl_sl, h4, h5]
    · refine ⟨nI 0, nI 1, ?_, ?_, Or.inl ⟨rfl, rfl⟩⟩
      · simp (disch := omega) only [if_pos, if_neg, bnd_e, cal_e, chk_t, isZ_0, isZ_1, isZ_n0, isZ_n1, ald_n, ast_n, stb_n, litI, nI_add, pk_mul, pk_sub, Nat.add_sub_cancel, nar_0, nar_1, nI_leI, nI_ltI, nI_eq, Nat.not_lt_zero, Nat.le_zero_eq, Nat.zero_le, not_true_eq_false, not_false_eq_true, reduceIte, if_true, if_false, ite_self, Bool.false_eq_true, Nat.reduceEqDiff, Nat.reduceAdd, Nat.reduceMul, Nat.reduceSub, Nat.reduceLT, Nat.reduceLeDiff, Nat.reducePow, gi_si, gi_sg, gi_sa, gi_sl, ga_si, ga_sg2, ga_sa, ga_sl, gl_si, gl_sg, gl_sa, gl_sl]
      · simp (disch := omega) only [if_pos, if_neg, bnd_e, cal_e, chk_t, isZ_0, isZ_1, isZ_n0, isZ_n1, ald_n, ast_n, stb_n, litI, nI_add, pk_mul, pk_sub, Nat.add_sub_cancel, nar_0, nar_1, nI_leI, nI_ltI, nI_eq, Nat.not_lt_zero, Nat.le_zero_eq, Nat.zero_le, not_true_eq_false, not_false_eq_true, reduceIte, if_true, if_false, ite_self, Bool.false_eq_true, Nat.reduceEqDiff, Nat.reduceAdd, Nat.reduceMul, Nat.reduceSub, Nat.reduceLT, Nat.reduceLeDiff, Nat.reducePow, gi_si, gi_sg, gi_sa, gi_sl, ga_si, ga_sg2, ga_sa, ga_sl, gl_si, gl_sg, gl_sa, gl_sl, h4, h5]
theorem m_step (N : Nat) {f i u F lf b : Nat} {σm : St} (hfi : f ≤ i) (hi : i < 260) (hu : u ≤ 1) (hF : F ≤ 1) (hlf : lf ≤ 1) (h4 : gi σm 4 = nI i) (h5 : gi σm 5 = nI f) (hb : ga σm 0 i = nI b) (hl : X7_isLetter_f N (nI b) σm = some (nI lf, σm)) (k : Int32 → Int32 → St → Option (Int32 × St)) : ∃ σ3 : St, X7_go_l208 N k (nI F) (nI u) σm = k (nI F) (nI (if u = 1 ∧ F = lf then 1 else 0)) σ3 ∧ gi σ3 4 = nI (i + 1) ∧ gi σ3 7 = (if 4 ≤ i - f then gi σm 7 else nI 10 * gi σm 7 + nI b - nI 48) ∧ gl σ3 = (if 7 ≤ i - f then -1 else (((27 : Int64) * gl σm) + ((nI b : Int32).toInt64)) - 96) ∧ FmT σm σ3 := by
  have A : ∀ t : Nat, ∃ σ3 : St, X7_go_l237 N k (nI F) (nI b) (nI t) σm = k (nI F) (nI t) σ3 ∧ gi σ3 4 = nI (i + 1) ∧ gi σ3 7 = (if 4 ≤ i - f then gi σm 7 else nI 10 * gi σm 7 + nI b - nI 48) ∧ gl σ3 = (if 7 ≤ i - f then -1 else (((27 : Int64) * gl σm) + ((nI b : Int32).toInt64)) - 96) ∧ FmT σm σ3 := by
    intro t
    unfold X7_go_l237 X7_go_l275 X7_go_l308
    by_cases c7 : 7 ≤ i - f
    · refine ⟨si (sl σm (-1)) 4 (nI (i + 1)), ?_, rfl, ?_, ?_, ⟨fun j j1 j2 j3 => by simp only [gi_si, gi_sl, j1, if_false], fun a => rfl⟩⟩
      · simp (disch := omega) only [if_pos, if_neg, bnd_e, cal_e, chk_t, isZ_0, isZ_1, isZ_n0, isZ_n1, ald_n, ast_n, stb_n, litI, nI_add, pk_mul, pk_sub, Nat.add_sub_cancel, nar_0, nar_1, nI_leI, nI_ltI, nI_eq, Nat.not_lt_zero, Nat.le_zero_eq, Nat.zero_le, not_true_eq_false, not_false_eq_true, reduceIte, if_true, if_false, ite_self, Bool.false_eq_true, Nat.reduceEqDiff, Nat.reduceAdd, Nat.reduceMul, Nat.reduceSub, Nat.reduceLT, Nat.reduceLeDiff, Nat.reducePow, gi_si, gi_sg, gi_sa, gi_sl, ga_si, ga_sg2, ga_sa, ga_sl, gl_si, gl_sg, gl_sa, gl_sl, h4, h5]
      · rw [if_pos (by omega)]
        rfl
      · rw [if_pos c7]
        rfl
    by_cases c4 : 4 ≤ i - f
    · refine ⟨si (sl σm (((27 : Int64) * gl σm) + ((nI b : Int32).toInt64) - 96)) 4 (nI (i + 1)), ?_, rfl, ?_, ?_, ⟨fun j j1 j2 j3 => by simp only [gi_si, gi_sl, j1, if_false], fun a => rfl⟩⟩
      · simp (disch := omega) only [if_pos, if_neg, bnd_e, cal_e, chk_t, isZ_0, isZ_1, isZ_n0, isZ_n1, ald_n, ast_n, stb_n, litI, nI_add, pk_mul, pk_sub, Nat.add_sub_cancel, nar_0, nar_1, nI_leI, nI_ltI, nI_eq, Nat.not_lt_zero, Nat.le_zero_eq, Nat.zero_le, not_true_eq_false, not_false_eq_true, reduceIte, if_true, if_false, ite_self, Bool.false_eq_true, Nat.reduceEqDiff, Nat.reduceAdd, Nat.reduceMul, Nat.reduceSub, Nat.reduceLT, Nat.reduceLeDiff, Nat.reducePow, gi_si, gi_sg, gi_sa, gi_sl, ga_si, ga_sg2, ga_sa, ga_sl, gl_si, gl_sg, gl_sa, gl_sl, h4, h5]
      · rw [if_pos (by omega)]
        rfl
      · rw [if_neg c7]
        rfl
    · refine ⟨si (si (sl σm (((27 : Int64) * gl σm) + ((nI b : Int32).toInt64) - 96)) 7 (nI 10 * gi σm 7 + nI b - nI 48)) 4 (nI (i + 1)), ?_, rfl, ?_, ?_, ⟨fun j j1 j2 j3 => by simp only [gi_si, gi_sl, j1, j3, if_false], fun a => rfl⟩⟩
      · simp (disch := omega) only [if_pos, if_neg, bnd_e, cal_e, chk_t, isZ_0, isZ_1, isZ_n0, isZ_n1, ald_n, ast_n, stb_n, litI, nI_add, pk_mul, pk_sub, Nat.add_sub_cancel, nar_0, nar_1, nI_leI, nI_ltI, nI_eq, Nat.not_lt_zero, Nat.le_zero_eq, Nat.zero_le, not_true_eq_false, not_false_eq_true, reduceIte, if_true, if_false, ite_self, Bool.false_eq_true, Nat.reduceEqDiff, Nat.reduceAdd, Nat.reduceMul, Nat.reduceSub, Nat.reduceLT, Nat.reduceLeDiff, Nat.reducePow, gi_si, gi_sg, gi_sa, gi_sl, ga_si, ga_sg2, ga_sa, ga_sl, gl_si, gl_sg, gl_sa, gl_sl, h4, h5]
      · rw [if_neg (by omega)]
        rfl
      · rw [if_neg c7]
        rfl
  unfold X7_go_l208 X7_go_l236
  by_cases c : u = 1 ∧ F = lf
  · rw [if_pos c]
    obtain ⟨σ3, a⟩ := A 1
    refine ⟨σ3, ?_, a.2⟩
    rw [← a.1]
    obtain ⟨rfl, rfl⟩ := c
    simp (disch := omega) only [if_pos, if_neg, bnd_e, cal_e, chk_t, isZ_0, isZ_1, isZ_n0, isZ_n1, ald_n, ast_n, stb_n, litI, nI_add, pk_mul, pk_sub, Nat.add_sub_cancel, nar_0, nar_1, nI_leI, nI_ltI, nI_eq, Nat.not_lt_zero, Nat.le_zero_eq, Nat.zero_le, not_true_eq_false, not_false_eq_true, reduceIte, if_true, if_false, ite_self, Bool.false_eq_true, Nat.reduceEqDiff, Nat.reduceAdd, Nat.reduceMul, Nat.reduceSub, Nat.reduceLT, Nat.reduceLeDiff, Nat.reducePow, gi_si, gi_sg, gi_sa, gi_sl, ga_si, ga_sg2, ga_sa, ga_sl, gl_si, gl_sg, gl_sa, gl_sl, h4, hb, hl]
  · rw [if_neg c]
    obtain ⟨σ3, a⟩ := A 0
    refine ⟨σ3, ?_, a.2⟩
    rw [← a.1]
    by_cases cu : u = 0
    · simp (disch := omega) only [if_pos, if_neg, bnd_e, cal_e, chk_t, isZ_0, isZ_1, isZ_n0, isZ_n1, ald_n, ast_n, stb_n, litI, nI_add, pk_mul, pk_sub, Nat.add_sub_cancel, nar_0, nar_1, nI_leI, nI_ltI, nI_eq, Nat.not_lt_zero, Nat.le_zero_eq, Nat.zero_le, not_true_eq_false, not_false_eq_true, reduceIte, if_true, if_false, ite_self, Bool.false_eq_true, Nat.reduceEqDiff, Nat.reduceAdd, Nat.reduceMul, Nat.reduceSub, Nat.reduceLT, Nat.reduceLeDiff, Nat.reducePow, gi_si, gi_sg, gi_sa, gi_sl, ga_si, ga_sg2, ga_sa, ga_sl, gl_si, gl_sg, gl_sa, gl_sl, h4, hb, hl]
    · have : ¬ lf = F := fun q => c ⟨by omega, q.symm⟩
      simp (disch := omega) only [if_pos, if_neg, bnd_e, cal_e, chk_t, isZ_0, isZ_1, isZ_n0, isZ_n1, ald_n, ast_n, stb_n, litI, nI_add, pk_mul, pk_sub, Nat.add_sub_cancel, nar_0, nar_1, nI_leI, nI_ltI, nI_eq, Nat.not_lt_zero, Nat.le_zero_eq, Nat.zero_le, not_true_eq_false, not_false_eq_true, reduceIte, if_true, if_false, ite_self, Bool.false_eq_true, Nat.reduceEqDiff, Nat.reduceAdd, Nat.reduceMul, Nat.reduceSub, Nat.reduceLT, Nat.reduceLeDiff, Nat.reducePow, gi_si, gi_sg, gi_sa, gi_sl, ga_si, ga_sg2, ga_sa, ga_sl, gl_si, gl_sg, gl_sa, gl_sl, h4, hb, hl]
theorem tok_l (N : Nat) {T L f F : Nat} {bt : Nat → Nat} {σx : St} (hf0 : f < T) (hff : bLet (bt f) = true ∨ bDig (bt f) = true) (hF : F = if bLet (bt f) = true then 1 else 0) : ∀ (dd i n n2 l d u : Nat) (v : Int32) (σm : St), PC T L bt σx σm → gi σm 4 = nI i → gi σm 5 = nI f → i + dd = T → f ≤ i → Ti bt f i l d u F v (gi σm 7) (gl σm) → dd < n → dd < n2 → ∃ (e : Nat) (kx km v2 : Int32) (σm2 : St), f < e ∧ e ≤ T ∧ X5_readToken_l39 N n (nI l) (nI d) v (nI i) σx = some (nI 0, si (si (si σx 7 (nI e)) 4 v2) 3 kx) ∧ X7_go_l180 N n2 (nI F) (nI u) σm = some (nI 0, σm2) ∧ gi σm2 4 = nI e ∧ gi σm2 6 = km ∧ FmT σm σm2 ∧ Kd bt f e kx km v2 (gi σm2 7) (gl σm2)
  | dd, i, 0, _, _, _, _, _, _, _, _, _, _, _, _, h2, _ => absurd h2 (by omega)
  | dd, i, _ + 1, 0, _, _, _, _, _, _, _, _, _, _, _, _, h2 => absurd h2 (by omega)
  | 0, i, n + 1, n2 + 1, l, d, u, v, σm, ⟨c1, c2, c3, c4, c5, c6, c7⟩, h4, h5, h1, hi, hT, hn, hn2 => by
    obtain ⟨kx, km, a, b, c⟩ := tok_end N (σx := σx) (by omega) (by omega) h4 h5 hT
    refine ⟨i, kx, km, v, si σm 6 km, by omega, by omega, ?_, ?_, h4, rfl, ⟨fun j j1 j2 j3 => by simp only [gi_si, j2, if_false], fun a => rfl⟩, c⟩
    · rw [← a, X5_readToken_l39.eq_def]
      simp (disch := omega) only [if_pos, if_neg, bnd_e, cal_e, chk_t, isZ_0, isZ_1, isZ_n0, isZ_n1, ald_n, ast_n, stb_n, litI, nI_add, pk_mul, pk_sub, Nat.add_sub_cancel, nar_0, nar_1, nI_leI, nI_ltI, nI_eq, Nat.not_lt_zero, Nat.le_zero_eq, Nat.zero_le, not_true_eq_false, not_false_eq_true, reduceIte, if_true, if_false, ite_self, Bool.false_eq_true, Nat.reduceEqDiff, Nat.reduceAdd, Nat.reduceMul, Nat.reduceSub, Nat.reduceLT, Nat.reduceLeDiff, Nat.reducePow, gi_si, gi_sg, gi_sa, gi_sl, ga_si, ga_sg2, ga_sa, ga_sl, gl_si, gl_sg, gl_sa, gl_sl, c3]
    · rw [← b, X7_go_l180.eq_def]
      have e : X7_byteAt_f N (nI i) σm = some (nI 0, σm) := by
        unfold X7_byteAt_f
        simp (disch := omega) only [if_pos, if_neg, bnd_e, cal_e, chk_t, isZ_0, isZ_1, isZ_n0, isZ_n1, ald_n, ast_n, stb_n, litI, nI_add, pk_mul, pk_sub, Nat.add_sub_cancel, nar_0, nar_1, nI_leI, nI_ltI, nI_eq, Nat.not_lt_zero, Nat.le_zero_eq, Nat.zero_le, not_true_eq_false, not_false_eq_true, reduceIte, if_true, if_false, ite_self, Bool.false_eq_true, Nat.reduceEqDiff, Nat.reduceAdd, Nat.reduceMul, Nat.reduceSub, Nat.reduceLT, Nat.reduceLeDiff, Nat.reducePow, gi_si, gi_sg, gi_sa, gi_sl, ga_si, ga_sg2, ga_sa, ga_sl, gl_si, gl_sg, gl_sa, gl_sl, c4]
      have e2 := m_letter N (b := 0) (by omega) σm
      have e3 := m_digit N (b := 0) (by omega) σm
      rw [if_neg (show ¬ bLet 0 = true by decide)] at e2
      rw [if_neg (show ¬ bDig 0 = true by decide)] at e3
      simp only [h4, e, e2, e3, cal_e, li0, li4, if_true]
  | dd + 1, i, n + 1, n2 + 1, l, d, u, v, σm, ⟨c1, c2, c3, c4, c5, c6, c7⟩, h4, h5, h1, hi, hT, hn, hn2 => by
    obtain ⟨b1, b2, b3⟩ := c7 i (by omega)
    have hu1 := hT.2.1
    have hF1 := hT.2.2.1
    have e : X7_byteAt_f N (nI i) σm = some (nI (bt i), σm) := by
      unfold X7_byteAt_f
      simp (disch := omega) only [if_pos, if_neg, bnd_e, cal_e, chk_t, isZ_0, isZ_1, isZ_n0, isZ_n1, ald_n, ast_n, stb_n, litI, nI_add, pk_mul, pk_sub, Nat.add_sub_cancel, nar_0, nar_1, nI_leI, nI_ltI, nI_eq, Nat.not_lt_zero, Nat.le_zero_eq, Nat.zero_le, not_true_eq_false, not_false_eq_true, reduceIte, if_true, if_false, ite_self, Bool.false_eq_true, Nat.reduceEqDiff, Nat.reduceAdd, Nat.reduceMul, Nat.reduceSub, Nat.reduceLT, Nat.reduceLeDiff, Nat.reducePow, gi_si, gi_sg, gi_sa, gi_sl, ga_si, ga_sg2, ga_sa, ga_sl, gl_si, gl_sg, gl_sa, gl_sl, c4, b2]
    have e2 := m_letter N b1 σm
    have e3 := m_digit N b1 σm
    have k2 := x_letter N b1 σx
    have k3 := x_digit N b1 σx
    by_cases hl : bLet (bt i) = true
    · rw [if_pos hl] at e2 k2
      obtain ⟨σ3, a1, a2, a3, a4, a5⟩ := m_step N (F := F) (u := u) hi (by omega) hu1 hF1 (by omega) h4 h5 b2 e2 (X7_go_l180 N n2)
      have ht := Ti_letter hi hF hl hT (gi σ3 7)
      rw [← a4] at ht
      obtain ⟨e0, kx, km, v2, σm2, z1, z2, z3, z4, z5, z6, z7, z8⟩ := tok_l N (L := L) (σx := σx) hf0 hff hF dd (i + 1) n n2 (l + 1) d (if u = 1 ∧ F = 1 then 1 else 0) v σ3 ⟨c1, c2, c3, by rw [a5.1 2 (by omega) (by omega) (by omega)]; exact c4, c5, by rw [a5.1 3 (by omega) (by omega) (by omega)]; exact c6, by rw [a5.2 0]; exact c7⟩ a2 (by rw [a5.1 5 (by omega) (by omega) (by omega)]; exact h5) (by omega) (by omega) ht (by omega) (by omega)
      refine ⟨e0, kx, km, v2, σm2, z1, z2, ?_, ?_, z5, z6, ⟨fun j j1 j2 j3 => (z7.1 j j1 j2 j3).trans (a5.1 j j1 j2 j3), fun a => (z7.2 a).trans (a5.2 a)⟩, z8⟩
      · rw [← z3, X5_readToken_l39.eq_def]
        unfold X5_readToken_l74 X5_readToken_l114
        simp (disch := omega) only [if_pos, if_neg, bnd_e, cal_e, chk_t, isZ_0, isZ_1, isZ_n0, isZ_n1, ald_n, ast_n, stb_n, litI, nI_add, pk_mul, pk_sub, Nat.add_sub_cancel, nar_0, nar_1, nI_leI, nI_ltI, nI_eq, Nat.not_lt_zero, Nat.le_zero_eq, Nat.zero_le, not_true_eq_false, not_false_eq_true, reduceIte, if_true, if_false, ite_self, Bool.false_eq_true, Nat.reduceEqDiff, Nat.reduceAdd, Nat.reduceMul, Nat.reduceSub, Nat.reduceLT, Nat.reduceLeDiff, Nat.reducePow, gi_si, gi_sg, gi_sa, gi_sl, ga_si, ga_sg2, ga_sa, ga_sl, gl_si, gl_sg, gl_sa, gl_sl, c3, b3, k2]
      · rw [← z4, X7_go_l180.eq_def]
        simp only [h4, e, e2, cal_e, li0, show ¬ nI 1 = nI 0 by decide, if_false]
        exact a1
    · rw [if_neg hl] at e2 k2
      by_cases hd : bDig (bt i) = true
      · rw [if_pos hd] at e3 k3
        obtain ⟨σ3, a1, a2, a3, a4, a5⟩ := m_step N (F := F) (u := u) hi (by omega) hu1 hF1 (by omega) h4 h5 b2 e2 (X7_go_l180 N n2)
        have ht := Ti_digit hi hF hd hT (gl σ3)
        rw [← a3] at ht
        obtain ⟨e0, kx, km, v2, σm2, z1, z2, z3, z4, z5, z6, z7, z8⟩ := tok_l N (L := L) (σx := σx) hf0 hff hF dd (i + 1) n n2 l (d + 1) (if u = 1 ∧ F = 0 then 1 else 0) (v * nI 10 + (nI (bt i) - nI 48)) σ3 ⟨c1, c2, c3, by rw [a5.1 2 (by omega) (by omega) (by omega)]; exact c4, c5, by rw [a5.1 3 (by omega) (by omega) (by omega)]; exact c6, by rw [a5.2 0]; exact c7⟩ a2 (by rw [a5.1 5 (by omega) (by omega) (by omega)]; exact h5) (by omega) (by omega) ht (by omega) (by omega)
        refine ⟨e0, kx, km, v2, σm2, z1, z2, ?_, ?_, z5, z6, ⟨fun j j1 j2 j3 => (z7.1 j j1 j2 j3).trans (a5.1 j j1 j2 j3), fun a => (z7.2 a).trans (a5.2 a)⟩, z8⟩
        · have q := bDig_i.mp hd
          rw [← z3, X5_readToken_l39.eq_def]
          unfold X5_readToken_l74 X5_readToken_l114
          rw [sb_lo _ (by omega)] at b3 k2 k3
          simp (disch := omega) only [if_pos, if_neg, bnd_e, cal_e, chk_t, isZ_0, isZ_1, isZ_n0, isZ_n1, ald_n, ast_n, stb_n, litI, nI_add, pk_mul, pk_sub, Nat.add_sub_cancel, nar_0, nar_1, nI_leI, nI_ltI, nI_eq, Nat.not_lt_zero, Nat.le_zero_eq, Nat.zero_le, not_true_eq_false, not_false_eq_true, reduceIte, if_true, if_false, ite_self, Bool.false_eq_true, Nat.reduceEqDiff, Nat.reduceAdd, Nat.reduceMul, Nat.reduceSub, Nat.reduceLT, Nat.reduceLeDiff, Nat.reducePow, gi_si, gi_sg, gi_sa, gi_sl, ga_si, ga_sg2, ga_sa, ga_sl, gl_si, gl_sg, gl_sa, gl_sl, c3, b3, k2, k3]
        · rw [← z4, X7_go_l180.eq_def]
          simp only [h4, e, e2, e3, cal_e, li0, if_true, show ¬ nI 1 = nI 0 by decide, if_false]
          exact a1
      · rw [if_neg hd] at e3 k3
        have hne : f ≠ i := by
          intro q
          rw [q] at hff
          exact hff.elim hl hd
        obtain ⟨kx, km, a, b, c⟩ := tok_end N (σx := σx) (by omega) (by omega) h4 h5 hT
        refine ⟨i, kx, km, v, si σm 6 km, by omega, by omega, ?_, ?_, h4, rfl, ⟨fun j j1 j2 j3 => by simp only [gi_si, j2, if_false], fun a => rfl⟩, c⟩
        · rw [← a, X5_readToken_l39.eq_def]
          simp (disch := omega) only [if_pos, if_neg, bnd_e, cal_e, chk_t, isZ_0, isZ_1, isZ_n0, isZ_n1, ald_n, ast_n, stb_n, litI, nI_add, pk_mul, pk_sub, Nat.add_sub_cancel, nar_0, nar_1, nI_leI, nI_ltI, nI_eq, Nat.not_lt_zero, Nat.le_zero_eq, Nat.zero_le, not_true_eq_false, not_false_eq_true, reduceIte, if_true, if_false, ite_self, Bool.false_eq_true, Nat.reduceEqDiff, Nat.reduceAdd, Nat.reduceMul, Nat.reduceSub, Nat.reduceLT, Nat.reduceLeDiff, Nat.reducePow, gi_si, gi_sg, gi_sa, gi_sl, ga_si, ga_sg2, ga_sa, ga_sl, gl_si, gl_sg, gl_sa, gl_sl, c3, b3, k2, k3]
        · rw [← b, X7_go_l180.eq_def]
          simp only [h4, e, e2, e3, cal_e, li0, li4, if_true]
