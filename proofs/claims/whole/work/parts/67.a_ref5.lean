def EntB (f : Nat → Int32) : Nat → List Nat → Prop
  | _, [] => True
  | i, b :: B => f i = nI b ∧ b < 24 ∧ EntB f (i + 1) B
theorem ahead_l (N : Nat) {σ : St} {x1 x2 x3 nb : Nat} (hx1 : x1 < 13824) (hx2 : x2 ≤ 3) (hnb : nb ≤ 4) (e19 : gi σ 19 = nI nb) : ∀ (F B : List Nat) (i n : Nat), i + F.length = x2 + 1 → i + B.length = nb → EntB (fun k => if k = x2 then nI x3 else ga σ 25 (4 * x1 + k)) i F → EntB (ga σ 29) i B → F.length < n → (lx F B → X7_comesAhead_l3 N n (nI x1) (nI x2) (nI x3) (nI i) σ = some (nI 1, σ)) ∧ (¬ lx F B → X7_comesAhead_l3 N n (nI x1) (nI x2) (nI x3) (nI i) σ = some (nI 0, σ))
  | _, _, _, 0, _, _, _, _, h => absurd h (by omega)
  | [], [], i, n + 1, h1, h2, _, _, _ => by
    have a1 : i = x2 + 1 := h1
    have a2 : i = nb := h2
    refine ⟨fun z => absurd z (fun y => y), fun _ => ?_⟩
    rw [X7_comesAhead_l3.eq_def]
    unfold X7_comesAhead_l77
    simp (disch := omega) only [if_pos, if_neg, bnd_e, cal_e, chk_t, isZ_0, isZ_1, isZ_n0, isZ_n1, ald_n, ast_n, stb_n, litI, nI_add, pk_mul, pk_sub, Nat.add_sub_cancel, nar_0, nar_1, nI_leI, nI_ltI, nI_eq, Nat.not_lt_zero, Nat.le_zero_eq, Nat.zero_le, not_true_eq_false, not_false_eq_true, reduceIte, if_true, if_false, ite_self, Bool.false_eq_true, Nat.reduceEqDiff, Nat.reduceAdd, Nat.reduceMul, Nat.reduceSub, Nat.reduceLT, Nat.reduceLeDiff, Nat.reducePow, gi_si, gi_sg, gi_sa, gi_sl, ga_si, ga_sg2, ga_sa, ga_sl, gl_si, gl_sg, gl_sa, gl_sl, e19]
  | [], b :: B, i, n + 1, h1, h2, _, _, _ => by
    have a1 : i = x2 + 1 := h1
    have a2 : i + (B.length + 1) = nb := h2
    refine ⟨fun _ => ?_, fun z => absurd trivial z⟩
    rw [X7_comesAhead_l3.eq_def]
    unfold X7_comesAhead_l77
    simp (disch := omega) only [if_pos, if_neg, bnd_e, cal_e, chk_t, isZ_0, isZ_1, isZ_n0, isZ_n1, ald_n, ast_n, stb_n, litI, nI_add, pk_mul, pk_sub, Nat.add_sub_cancel, nar_0, nar_1, nI_leI, nI_ltI, nI_eq, Nat.not_lt_zero, Nat.le_zero_eq, Nat.zero_le, not_true_eq_false, not_false_eq_true, reduceIte, if_true, if_false, ite_self, Bool.false_eq_true, Nat.reduceEqDiff, Nat.reduceAdd, Nat.reduceMul, Nat.reduceSub, Nat.reduceLT, Nat.reduceLeDiff, Nat.reducePow, gi_si, gi_sg, gi_sa, gi_sl, ga_si, ga_sg2, ga_sa, ga_sl, gl_si, gl_sg, gl_sa, gl_sl, e19]
  | a :: F, [], i, n + 1, h1, h2, _, _, _ => by
    have a1 : i + (F.length + 1) = x2 + 1 := h1
    have a2 : i = nb := h2
    refine ⟨fun z => absurd z (fun y => y), fun _ => ?_⟩
    rw [X7_comesAhead_l3.eq_def]
    unfold X7_comesAhead_l77
    simp (disch := omega) only [if_pos, if_neg, bnd_e, cal_e, chk_t, isZ_0, isZ_1, isZ_n0, isZ_n1, ald_n, ast_n, stb_n, litI, nI_add, pk_mul, pk_sub, Nat.add_sub_cancel, nar_0, nar_1, nI_leI, nI_ltI, nI_eq, Nat.not_lt_zero, Nat.le_zero_eq, Nat.zero_le, not_true_eq_false, not_false_eq_true, reduceIte, if_true, if_false, ite_self, Bool.false_eq_true, Nat.reduceEqDiff, Nat.reduceAdd, Nat.reduceMul, Nat.reduceSub, Nat.reduceLT, Nat.reduceLeDiff, Nat.reducePow, gi_si, gi_sg, gi_sa, gi_sl, ga_si, ga_sg2, ga_sa, ga_sl, gl_si, gl_sg, gl_sa, gl_sl, e19]
  | a :: F, b :: B, i, n + 1, h1, h2, h3, h4, h5 => by
    have a1 : i + (F.length + 1) = x2 + 1 := h1
    have a2 : i + (B.length + 1) = nb := h2
    obtain ⟨f1, f2, f3⟩ := h3
    have f1c : (if i = x2 then nI x3 else ga σ 25 (4 * x1 + i)) = nI a := f1
    obtain ⟨g1, g2, g3⟩ := h4
    have hF : F.length < n := by
      have : (a :: F).length = F.length + 1 := rfl
      omega
    have ih := ahead_l N hx1 hx2 hnb e19 F B (i + 1) n (by omega) (by omega) f3 g3 hF
    have st : X7_comesAhead_l3 N (n + 1) (nI x1) (nI x2) (nI x3) (nI i) σ = X7_comesAhead_l39 N (X7_comesAhead_l3 N n) (nI x1) (nI x2) (nI x3) (nI i) (nI a) σ := by
      rw [X7_comesAhead_l3.eq_def]
      by_cases z : i = x2
      · have f1b : nI x3 = nI a := by rw [← f1c, if_pos z]
        simp (disch := omega) only [if_pos, if_neg, bnd_e, cal_e, chk_t, isZ_0, isZ_1, isZ_n0, isZ_n1, ald_n, ast_n, stb_n, litI, nI_add, pk_mul, pk_sub, Nat.add_sub_cancel, nar_0, nar_1, nI_leI, nI_ltI, nI_eq, Nat.not_lt_zero, Nat.le_zero_eq, Nat.zero_le, not_true_eq_false, not_false_eq_true, reduceIte, if_true, if_false, ite_self, Bool.false_eq_true, Nat.reduceEqDiff, Nat.reduceAdd, Nat.reduceMul, Nat.reduceSub, Nat.reduceLT, Nat.reduceLeDiff, Nat.reducePow, gi_si, gi_sg, gi_sa, gi_sl, ga_si, ga_sg2, ga_sa, ga_sl, gl_si, gl_sg, gl_sa, gl_sl, e19, f1b]
      · have f1b : ga σ 25 (4 * x1 + i) = nI a := by rw [← f1c, if_neg z]
        simp (disch := omega) only [if_pos, if_neg, bnd_e, cal_e, chk_t, isZ_0, isZ_1, isZ_n0, isZ_n1, ald_n, ast_n, stb_n, litI, nI_add, pk_mul, pk_sub, Nat.add_sub_cancel, nar_0, nar_1, nI_leI, nI_ltI, nI_eq, Nat.not_lt_zero, Nat.le_zero_eq, Nat.zero_le, not_true_eq_false, not_false_eq_true, reduceIte, if_true, if_false, ite_self, Bool.false_eq_true, Nat.reduceEqDiff, Nat.reduceAdd, Nat.reduceMul, Nat.reduceSub, Nat.reduceLT, Nat.reduceLeDiff, Nat.reducePow, gi_si, gi_sg, gi_sa, gi_sl, ga_si, ga_sg2, ga_sa, ga_sl, gl_si, gl_sg, gl_sa, gl_sl, e19, f1b]
    rw [st]
    unfold X7_comesAhead_l39
    by_cases e : a = b
    · subst e
      have il : lx (a :: F) (a :: B) ↔ lx F B := ⟨fun z => z.elim (fun y => absurd y (Nat.lt_irrefl a)) (fun y => y.2), fun z => Or.inr ⟨rfl, z⟩⟩
      rw [il]
      refine ⟨fun z => ?_, fun z => ?_⟩
      · simp (disch := omega) only [if_pos, if_neg, bnd_e, cal_e, chk_t, isZ_0, isZ_1, isZ_n0, isZ_n1, ald_n, ast_n, stb_n, litI, nI_add, pk_mul, pk_sub, Nat.add_sub_cancel, nar_0, nar_1, nI_leI, nI_ltI, nI_eq, Nat.not_lt_zero, Nat.le_zero_eq, Nat.zero_le, not_true_eq_false, not_false_eq_true, reduceIte, if_true, if_false, ite_self, Bool.false_eq_true, Nat.reduceEqDiff, Nat.reduceAdd, Nat.reduceMul, Nat.reduceSub, Nat.reduceLT, Nat.reduceLeDiff, Nat.reducePow, gi_si, gi_sg, gi_sa, gi_sl, ga_si, ga_sg2, ga_sa, ga_sl, gl_si, gl_sg, gl_sa, gl_sl, g1, ih.1 z]
      · simp (disch := omega) only [if_pos, if_neg, bnd_e, cal_e, chk_t, isZ_0, isZ_1, isZ_n0, isZ_n1, ald_n, ast_n, stb_n, litI, nI_add, pk_mul, pk_sub, Nat.add_sub_cancel, nar_0, nar_1, nI_leI, nI_ltI, nI_eq, Nat.not_lt_zero, Nat.le_zero_eq, Nat.zero_le, not_true_eq_false, not_false_eq_true, reduceIte, if_true, if_false, ite_self, Bool.false_eq_true, Nat.reduceEqDiff, Nat.reduceAdd, Nat.reduceMul, Nat.reduceSub, Nat.reduceLT, Nat.reduceLeDiff, Nat.reducePow, gi_si, gi_sg, gi_sa, gi_sl, ga_si, ga_sg2, ga_sa, ga_sl, gl_si, gl_sg, gl_sa, gl_sl, g1, ih.2 z]
    · by_cases l : a < b
      · refine ⟨fun _ => ?_, fun z => absurd (Or.inl l) z⟩
        simp (disch := omega) only [if_pos, if_neg, bnd_e, cal_e, chk_t, isZ_0, isZ_1, isZ_n0, isZ_n1, ald_n, ast_n, stb_n, litI, nI_add, pk_mul, pk_sub, Nat.add_sub_cancel, nar_0, nar_1, nI_leI, nI_ltI, nI_eq, Nat.not_lt_zero, Nat.le_zero_eq, Nat.zero_le, not_true_eq_false, not_false_eq_true, reduceIte, if_true, if_false, ite_self, Bool.false_eq_true, Nat.reduceEqDiff, Nat.reduceAdd, Nat.reduceMul, Nat.reduceSub, Nat.reduceLT, Nat.reduceLeDiff, Nat.reducePow, gi_si, gi_sg, gi_sa, gi_sl, ga_si, ga_sg2, ga_sa, ga_sl, gl_si, gl_sg, gl_sa, gl_sl, g1]
      · refine ⟨fun z => absurd z (fun y => y.elim l (fun w => e w.1)), fun _ => ?_⟩
        simp (disch := omega) only [if_pos, if_neg, bnd_e, cal_e, chk_t, isZ_0, isZ_1, isZ_n0, isZ_n1, ald_n, ast_n, stb_n, litI, nI_add, pk_mul, pk_sub, Nat.add_sub_cancel, nar_0, nar_1, nI_leI, nI_ltI, nI_eq, Nat.not_lt_zero, Nat.le_zero_eq, Nat.zero_le, not_true_eq_false, not_false_eq_true, reduceIte, if_true, if_false, ite_self, Bool.false_eq_true, Nat.reduceEqDiff, Nat.reduceAdd, Nat.reduceMul, Nat.reduceSub, Nat.reduceLT, Nat.reduceLeDiff, Nat.reducePow, gi_si, gi_sg, gi_sa, gi_sl, ga_si, ga_sg2, ga_sa, ga_sl, gl_si, gl_sg, gl_sa, gl_sl, g1]
