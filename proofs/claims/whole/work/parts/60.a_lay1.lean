/-! lay: the heats, the stretches counted -/
theorem layc_l (N : Nat) {σ : St} {j m : Nat} (hj : j < 6) (hm : m ≤ 8) (e6 : ga σ 6 j = nI m) : ∀ d i n, i + d = m → d < n → X7_lay_l21 N n (nI j) (nI (cntN (fun i => ga σ 9 (8 * j + i)) i)) (nI i) σ = X7_lay_l21 N 1 (nI j) (nI (cntN (fun i => ga σ 9 (8 * j + i)) m)) (nI m) σ
  | d, i, 0, _, h2 => absurd h2 (by omega)
  | 0, i, n + 1, h1, h2 => by
    obtain rfl : i = m := by omega
    unfold X7_lay_l21
    simp (disch := omega) only [if_pos, if_neg, bnd_e, cal_e, chk_t, isZ_0, isZ_1, isZ_n0, isZ_n1, ald_n, ast_n, stb_n, litI, nI_add, pk_mul, pk_sub, Nat.add_sub_cancel, nar_0, nar_1, nI_leI, nI_ltI, nI_eq, Nat.not_lt_zero, Nat.le_zero_eq, Nat.zero_le, not_true_eq_false, not_false_eq_true, reduceIte, if_true, if_false, ite_self, Bool.false_eq_true, Nat.reduceEqDiff, Nat.reduceAdd, Nat.reduceMul, Nat.reduceSub, Nat.reduceLT, Nat.reduceLeDiff, Nat.reducePow, gi_si, gi_sg, gi_sa, gi_sl, ga_si, ga_sg2, ga_sa, ga_sl, gl_si, gl_sg, gl_sa, gl_sl, e6]
  | d + 1, i, n + 1, h1, h2 => by
    have ih := layc_l N hj hm e6 d (i + 1) n (by omega) (by omega)
    rw [← ih, X7_lay_l21.eq_def]
    unfold X7_lay_l49
    show _ = X7_lay_l21 N n (nI j) (nI (if ga σ 9 (8 * j + i) = -1 then cntN (fun i => ga σ 9 (8 * j + i)) i else cntN (fun i => ga σ 9 (8 * j + i)) i + 1)) (nI (i + 1)) σ
    by_cases q : ga σ 9 (8 * j + i) = -nI 1
    · have q2 : ga σ 9 (8 * j + i) = -1 := q
      rw [if_pos q2]
      simp (disch := omega) only [if_pos, if_neg, bnd_e, cal_e, chk_t, isZ_0, isZ_1, isZ_n0, isZ_n1, ald_n, ast_n, stb_n, litI, nI_add, pk_mul, pk_sub, Nat.add_sub_cancel, nar_0, nar_1, nI_leI, nI_ltI, nI_eq, Nat.not_lt_zero, Nat.le_zero_eq, Nat.zero_le, not_true_eq_false, not_false_eq_true, reduceIte, if_true, if_false, ite_self, Bool.false_eq_true, Nat.reduceEqDiff, Nat.reduceAdd, Nat.reduceMul, Nat.reduceSub, Nat.reduceLT, Nat.reduceLeDiff, Nat.reducePow, gi_si, gi_sg, gi_sa, gi_sl, ga_si, ga_sg2, ga_sa, ga_sl, gl_si, gl_sg, gl_sa, gl_sl, e6, q]
    · have q2 : ¬ ga σ 9 (8 * j + i) = -1 := q
      rw [if_neg q2]
      simp (disch := omega) only [if_pos, if_neg, bnd_e, cal_e, chk_t, isZ_0, isZ_1, isZ_n0, isZ_n1, ald_n, ast_n, stb_n, litI, nI_add, pk_mul, pk_sub, Nat.add_sub_cancel, nar_0, nar_1, nI_leI, nI_ltI, nI_eq, Nat.not_lt_zero, Nat.le_zero_eq, Nat.zero_le, not_true_eq_false, not_false_eq_true, reduceIte, if_true, if_false, ite_self, Bool.false_eq_true, Nat.reduceEqDiff, Nat.reduceAdd, Nat.reduceMul, Nat.reduceSub, Nat.reduceLT, Nat.reduceLeDiff, Nat.reducePow, gi_si, gi_sg, gi_sa, gi_sl, ga_si, ga_sg2, ga_sa, ga_sl, gl_si, gl_sg, gl_sa, gl_sl, e6, q]
theorem cntN_le {f : Nat → Int32} : ∀ n, cntN f n ≤ n
  | 0 => Nat.le_refl 0
  | n + 1 => by
    have h := cntN_le (f := f) n
    unfold cntN
    split <;> omega
theorem heats_l (N : Nat) (hN : 10 < N) {k S : Nat} (hk : k ≤ 512) (hS : S ≤ 24) (x1 : Int32) : ∀ (d i n n2 : Nat) (σx σm : St), gi σx 9 = nI S → gi σm 12 = nI S → RV k (ga σx 14) (ga σx 15) (ga σx 16) (ga σm 14) (ga σm 17) → (∀ s, s < 24 → rg 0 20 (ga σm 15 s)) → ga σx 9 = ga σm 15 → (∀ q, q < i → ga σx 25 q = ga σm 18 q ∧ rg 0 390 (ga σm 18 q)) → i + d = S → d < n → d < n2 → ∃ σx2 σm2 : St, X2_prepare_l62 N n (nI i) σx = some (nI 0, σx2) ∧ X7_lay_l92 N n2 x1 (nI i) σm = X7_lay_l132 N N x1 (nI 3600 * gi σm2 14) (nI 0) (nI 0) σm2 ∧ (∀ q, q < S → ga σx2 25 q = ga σm2 18 q ∧ rg 0 390 (ga σm2 18 q)) ∧ (∀ q, gi σx2 q = gi σx q) ∧ (∀ q, gi σm2 q = gi σm q) ∧ (∀ a, a ≠ 25 → ga σx2 a = ga σx a) ∧ (∀ a, a ≠ 18 → ga σm2 a = ga σm a)
  | d, i, 0, _, _, _, _, _, _, _, _, _, _, h2, _ => absurd h2 (by omega)
  | d, i, _ + 1, 0, _, _, _, _, _, _, _, _, _, _, h2 => absurd h2 (by omega)
  | 0, i, n + 1, n2 + 1, σx, σm, e1, e2, hv, ho, e9, hq, h1, h2, h3 => by
    obtain rfl : i = S := by omega
    refine ⟨σx, σm, ?_, ?_, hq, fun _ => rfl, fun _ => rfl, fun _ _ => rfl, fun _ _ => rfl⟩
    · rw [X2_prepare_l62.eq_def]
      simp (disch := omega) only [if_pos, if_neg, bnd_e, cal_e, chk_t, isZ_0, isZ_1, isZ_n0, isZ_n1, ald_n, ast_n, stb_n, litI, nI_add, pk_mul, pk_sub, Nat.add_sub_cancel, nar_0, nar_1, nI_leI, nI_ltI, nI_eq, Nat.not_lt_zero, Nat.le_zero_eq, Nat.zero_le, not_true_eq_false, not_false_eq_true, reduceIte, if_true, if_false, ite_self, Bool.false_eq_true, Nat.reduceEqDiff, Nat.reduceAdd, Nat.reduceMul, Nat.reduceSub, Nat.reduceLT, Nat.reduceLeDiff, Nat.reducePow, gi_si, gi_sg, gi_sa, gi_sl, ga_si, ga_sg2, ga_sa, ga_sl, gl_si, gl_sg, gl_sa, gl_sl, e1]
    · rw [X7_lay_l92.eq_def]
      simp (disch := omega) only [if_pos, if_neg, bnd_e, cal_e, chk_t, isZ_0, isZ_1, isZ_n0, isZ_n1, ald_n, ast_n, stb_n, litI, nI_add, pk_mul, pk_sub, Nat.add_sub_cancel, nar_0, nar_1, nI_leI, nI_ltI, nI_eq, Nat.not_lt_zero, Nat.le_zero_eq, Nat.zero_le, not_true_eq_false, not_false_eq_true, reduceIte, if_true, if_false, ite_self, Bool.false_eq_true, Nat.reduceEqDiff, Nat.reduceAdd, Nat.reduceMul, Nat.reduceSub, Nat.reduceLT, Nat.reduceLeDiff, Nat.reducePow, gi_si, gi_sg, gi_sa, gi_sl, ga_si, ga_sg2, ga_sa, ga_sl, gl_si, gl_sg, gl_sa, gl_sl, e2]
  | d + 1, i, n + 1, n2 + 1, σx, σm, e1, e2, hv, ho, e9, hq, h1, h2, h3 => by
    obtain ⟨v, hv1, p1, p2⟩ := heat_both N hN (s := i) (by omega) hk (hv i (by omega)) (ho i (by omega)) e9
    obtain ⟨σx2, σm2, a1, a2, a3, a4, a5, a6, a7⟩ := heats_l N hN hk hS x1 d (i + 1) n n2 (sa σx 25 i (nI v)) (sa σm 18 i (nI v)) e1 e2 hv ho e9 (fun q hq2 => by
      simp only [gi_si, gi_sg, gi_sa, gi_sl, ga_si, ga_sg2, ga_sa, ga_sl, gl_si, gl_sg, gl_sa, gl_sl, Nat.not_lt_zero, Nat.le_zero_eq, Nat.zero_le, not_true_eq_false, not_false_eq_true, reduceIte, if_true, if_false, ite_self, Bool.false_eq_true, Nat.reduceEqDiff, Nat.reduceAdd, Nat.reduceMul, Nat.reduceSub, Nat.reduceLT, Nat.reduceLeDiff, Nat.reducePow, upd_e]
      by_cases z : q = i
      · rw [if_pos z, if_pos z]
        exact ⟨rfl, rg_mk (by omega) hv1⟩
      · rw [if_neg z, if_neg z]
        exact hq q (by omega)) (by omega) (by omega) (by omega)
    refine ⟨σx2, σm2, ?_, ?_, a3, fun q => a4 q, fun q => a5 q, fun a ha => ?_, fun a ha => ?_⟩
    · rw [← a1, X2_prepare_l62.eq_def]
      simp (disch := omega) only [if_pos, if_neg, bnd_e, cal_e, chk_t, isZ_0, isZ_1, isZ_n0, isZ_n1, ald_n, ast_n, stb_n, litI, nI_add, pk_mul, pk_sub, Nat.add_sub_cancel, nar_0, nar_1, nI_leI, nI_ltI, nI_eq, Nat.not_lt_zero, Nat.le_zero_eq, Nat.zero_le, not_true_eq_false, not_false_eq_true, reduceIte, if_true, if_false, ite_self, Bool.false_eq_true, Nat.reduceEqDiff, Nat.reduceAdd, Nat.reduceMul, Nat.reduceSub, Nat.reduceLT, Nat.reduceLeDiff, Nat.reducePow, gi_si, gi_sg, gi_sa, gi_sl, ga_si, ga_sg2, ga_sa, ga_sl, gl_si, gl_sg, gl_sa, gl_sl, e1, p1]
    · rw [← a2, X7_lay_l92.eq_def]
      simp (disch := omega) only [if_pos, if_neg, bnd_e, cal_e, chk_t, isZ_0, isZ_1, isZ_n0, isZ_n1, ald_n, ast_n, stb_n, litI, nI_add, pk_mul, pk_sub, Nat.add_sub_cancel, nar_0, nar_1, nI_leI, nI_ltI, nI_eq, Nat.not_lt_zero, Nat.le_zero_eq, Nat.zero_le, not_true_eq_false, not_false_eq_true, reduceIte, if_true, if_false, ite_self, Bool.false_eq_true, Nat.reduceEqDiff, Nat.reduceAdd, Nat.reduceMul, Nat.reduceSub, Nat.reduceLT, Nat.reduceLeDiff, Nat.reducePow, gi_si, gi_sg, gi_sa, gi_sl, ga_si, ga_sg2, ga_sa, ga_sl, gl_si, gl_sg, gl_sa, gl_sl, e2, p2]
    · rw [a6 a ha, ga_sa, if_neg ha]
    · rw [a7 a ha, ga_sa, if_neg ha]
