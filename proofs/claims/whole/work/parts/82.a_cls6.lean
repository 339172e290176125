/-! lay: the class's search is aimed -/
def Began (U : Nat → Nat) (g k : Nat) (x : Int32) : Prop := (x = -nI 1 ∧ U k = 0) ∨ (∃ b : Nat, b ≤ 604800 ∧ x = nI b ∧ U k = b + g)
theorem aim_s (N : Nat) {c U : Nat → Nat} {x4 : Int32} (h24 : c 8 ≤ 24) (h5 : c 5 ≤ 599940) : ∀ (d i n : Nat) (σ : St), gi σ 9 = nI (c 8) → gi σ 20 = nI (c 5) → (∀ s, s < c 8 → Began U (c 5) s (ga σ 12 s)) → (∀ s, s < i → ga σ 26 s = nI (U s)) → i + d = c 8 → d < n → ∃ σ2 : St, X2_aim_l34 N n x4 (nI i) σ = X2_aim_l86 N N x4 (nI 0) σ2 ∧ (∀ s, s < c 8 → ga σ2 26 s = nI (U s)) ∧ (∀ j, gi σ2 j = gi σ j) ∧ (∀ a, a ≠ 26 → ga σ2 a = ga σ a)
  | _, _, 0, _, _, _, _, _, _, h => absurd h (by omega)
  | 0, i, n + 1, σ, e9, e20, hB, hU, h1, h2 => by
    obtain rfl : i = c 8 := by omega
    refine ⟨σ, ?_, hU, fun _ => rfl, fun _ _ => rfl⟩
    rw [X2_aim_l34.eq_def]
    simp (disch := omega) only [if_pos, if_neg, bnd_e, cal_e, chk_t, isZ_0, isZ_1, isZ_n0, isZ_n1, ald_n, ast_n, stb_n, litI, nI_add, pk_mul, pk_sub, Nat.add_sub_cancel, nar_0, nar_1, nI_leI, nI_ltI, nI_eq, Nat.not_lt_zero, Nat.le_zero_eq, Nat.zero_le, not_true_eq_false, not_false_eq_true, reduceIte, if_true, if_false, ite_self, Bool.false_eq_true, Nat.reduceEqDiff, Nat.reduceAdd, Nat.reduceMul, Nat.reduceSub, Nat.reduceLT, Nat.reduceLeDiff, Nat.reducePow, gi_si, gi_sg, gi_sa, gi_sl, ga_si, ga_sg2, ga_sa, ga_sl, gl_si, gl_sg, gl_sa, gl_sl, e9]
  | d + 1, i, n + 1, σ, e9, e20, hB, hU, h1, h2 => by
    obtain ⟨σ2, a1, a2, a3, a4⟩ := aim_s N (x4 := x4) h24 h5 d (i + 1) n (sa σ 26 i (nI (U i))) e9 e20 hB (fun s hs => by
      simp only [gi_si, gi_sg, gi_sa, gi_sl, ga_si, ga_sg2, ga_sa, ga_sl, gl_si, gl_sg, gl_sa, gl_sl, Nat.not_lt_zero, Nat.le_zero_eq, Nat.zero_le, not_true_eq_false, not_false_eq_true, reduceIte, if_true, if_false, ite_self, Bool.false_eq_true, Nat.reduceEqDiff, Nat.reduceAdd, Nat.reduceMul, Nat.reduceSub, Nat.reduceLT, Nat.reduceLeDiff, Nat.reducePow, upd_e]
      by_cases z : s = i
      · rw [if_pos z, z]
      · rw [if_neg z]
        exact hU s (by omega)) (by omega) (by omega)
    refine ⟨σ2, ?_, a2, a3, fun a ha => by rw [a4 a ha, ga_sa, if_neg ha]⟩
    rw [← a1, X2_aim_l34.eq_def]
    unfold X2_aim_l76
    rcases hB i (by omega) with ⟨b1, b2⟩ | ⟨b, b1, b2, b3⟩
    · rw [b2]
      simp (disch := omega) only [if_pos, if_neg, bnd_e, cal_e, chk_t, isZ_0, isZ_1, isZ_n0, isZ_n1, ald_n, ast_n, stb_n, litI, nI_add, pk_mul, pk_sub, Nat.add_sub_cancel, nar_0, nar_1, nI_leI, nI_ltI, nI_eq, Nat.not_lt_zero, Nat.le_zero_eq, Nat.zero_le, not_true_eq_false, not_false_eq_true, reduceIte, if_true, if_false, ite_self, Bool.false_eq_true, Nat.reduceEqDiff, Nat.reduceAdd, Nat.reduceMul, Nat.reduceSub, Nat.reduceLT, Nat.reduceLeDiff, Nat.reducePow, gi_si, gi_sg, gi_sa, gi_sl, ga_si, ga_sg2, ga_sa, ga_sl, gl_si, gl_sg, gl_sa, gl_sl, e9, b1]
    · rw [b3]
      simp (disch := omega) only [if_pos, if_neg, bnd_e, cal_e, chk_t, isZ_0, isZ_1, isZ_n0, isZ_n1, ald_n, ast_n, stb_n, litI, nI_add, pk_mul, pk_sub, Nat.add_sub_cancel, nar_0, nar_1, nI_leI, nI_ltI, nI_eq, Nat.not_lt_zero, Nat.le_zero_eq, Nat.zero_le, not_true_eq_false, not_false_eq_true, reduceIte, if_true, if_false, ite_self, Bool.false_eq_true, Nat.reduceEqDiff, Nat.reduceAdd, Nat.reduceMul, Nat.reduceSub, Nat.reduceLT, Nat.reduceLeDiff, Nat.reducePow, gi_si, gi_sg, gi_sa, gi_sl, ga_si, ga_sg2, ga_sa, ga_sl, gl_si, gl_sg, gl_sa, gl_sl, e9, e20, b2, nI_nm1]
theorem aim_a (N : Nat) {c W : Nat → Nat} {x4 : Int32} (h6 : c 6 ≤ 599940) : ∀ (d i n : Nat) (σ : St), gi σ 21 = nI (c 6) → (∀ s, s < 12 → Began W (c 6) s (ga σ 13 s)) → (∀ s, s < i → ga σ 27 s = nI (W s)) → i + d = 12 → d < n → ∃ σ2 : St, X2_aim_l86 N n x4 (nI i) σ = (cal (X2_gather_f N x4 σ2) fun _ s1 => some (nI 0, s1)) ∧ (∀ s, s < 12 → ga σ2 27 s = nI (W s)) ∧ (∀ j, gi σ2 j = gi σ j) ∧ (∀ a, a ≠ 27 → ga σ2 a = ga σ a)
  | _, _, 0, _, _, _, _, _, h => absurd h (by omega)
  | 0, i, n + 1, σ, e20, hB, hU, h1, h2 => by
    obtain rfl : i = 12 := by omega
    refine ⟨σ, ?_, hU, fun _ => rfl, fun _ _ => rfl⟩
    rw [X2_aim_l86.eq_def]
    simp (disch := omega) only [if_pos, if_neg, bnd_e, cal_e, chk_t, isZ_0, isZ_1, isZ_n0, isZ_n1, ald_n, ast_n, stb_n, litI, nI_add, pk_mul, pk_sub, Nat.add_sub_cancel, nar_0, nar_1, nI_leI, nI_ltI, nI_eq, Nat.not_lt_zero, Nat.le_zero_eq, Nat.zero_le, not_true_eq_false, not_false_eq_true, reduceIte, if_true, if_false, ite_self, Bool.false_eq_true, Nat.reduceEqDiff, Nat.reduceAdd, Nat.reduceMul, Nat.reduceSub, Nat.reduceLT, Nat.reduceLeDiff, Nat.reducePow, gi_si, gi_sg, gi_sa, gi_sl, ga_si, ga_sg2, ga_sa, ga_sl, gl_si, gl_sg, gl_sa, gl_sl]
  | d + 1, i, n + 1, σ, e20, hB, hU, h1, h2 => by
    obtain ⟨σ2, a1, a2, a3, a4⟩ := aim_a N (x4 := x4) h6 d (i + 1) n (sa σ 27 i (nI (W i))) e20 hB (fun s hs => by
      simp only [gi_si, gi_sg, gi_sa, gi_sl, ga_si, ga_sg2, ga_sa, ga_sl, gl_si, gl_sg, gl_sa, gl_sl, Nat.not_lt_zero, Nat.le_zero_eq, Nat.zero_le, not_true_eq_false, not_false_eq_true, reduceIte, if_true, if_false, ite_self, Bool.false_eq_true, Nat.reduceEqDiff, Nat.reduceAdd, Nat.reduceMul, Nat.reduceSub, Nat.reduceLT, Nat.reduceLeDiff, Nat.reducePow, upd_e]
      by_cases z : s = i
      · rw [if_pos z, z]
      · rw [if_neg z]
        exact hU s (by omega)) (by omega) (by omega)
    refine ⟨σ2, ?_, a2, a3, fun a ha => by rw [a4 a ha, ga_sa, if_neg ha]⟩
    rw [← a1, X2_aim_l86.eq_def]
    unfold X2_aim_l126
    rcases hB i (by omega) with ⟨b1, b2⟩ | ⟨b, b1, b2, b3⟩
    · rw [b2]
      simp (disch := omega) only [if_pos, if_neg, bnd_e, cal_e, chk_t, isZ_0, isZ_1, isZ_n0, isZ_n1, ald_n, ast_n, stb_n, litI, nI_add, pk_mul, pk_sub, Nat.add_sub_cancel, nar_0, nar_1, nI_leI, nI_ltI, nI_eq, Nat.not_lt_zero, Nat.le_zero_eq, Nat.zero_le, not_true_eq_false, not_false_eq_true, reduceIte, if_true, if_false, ite_self, Bool.false_eq_true, Nat.reduceEqDiff, Nat.reduceAdd, Nat.reduceMul, Nat.reduceSub, Nat.reduceLT, Nat.reduceLeDiff, Nat.reducePow, gi_si, gi_sg, gi_sa, gi_sl, ga_si, ga_sg2, ga_sa, ga_sl, gl_si, gl_sg, gl_sa, gl_sl, b1]
    · rw [b3]
      simp (disch := omega) only [if_pos, if_neg, bnd_e, cal_e, chk_t, isZ_0, isZ_1, isZ_n0, isZ_n1, ald_n, ast_n, stb_n, litI, nI_add, pk_mul, pk_sub, Nat.add_sub_cancel, nar_0, nar_1, nI_leI, nI_ltI, nI_eq, Nat.not_lt_zero, Nat.le_zero_eq, Nat.zero_le, not_true_eq_false, not_false_eq_true, reduceIte, if_true, if_false, ite_self, Bool.false_eq_true, Nat.reduceEqDiff, Nat.reduceAdd, Nat.reduceMul, Nat.reduceSub, Nat.reduceLT, Nat.reduceLeDiff, Nat.reducePow, gi_si, gi_sg, gi_sa, gi_sl, ga_si, ga_sg2, ga_sa, ga_sl, gl_si, gl_sg, gl_sa, gl_sl, e20, b2, nI_nm1]
theorem nI_dec (k : Nat) : nI (k + 1) + -nI 1 = nI k := by
  have e : (1 : Int32) + -nI 1 = 0 := by decide
  rw [nI_succ, Int32.add_assoc, e, Int32.add_zero]
theorem imax_n {a b : Nat} (ha : a < 2 ^ 31) (hb : b < 2 ^ 31) : imax (nI a) (nI b) = nI (max a b) := by
  unfold imax
  by_cases z : a < b
  · rw [if_pos (nI_lt z hb), Nat.max_eq_right (by omega)]
  · rw [if_neg (nI_nlt (by omega) ha), Nat.max_eq_left (by omega)]
/-- the place of a song among the longer ones -/
theorem sortL (N : Nat) {q : Nat → Nat → Nat} {c : Nat → Nat} {m s : Nat} {e : Nat → Nat} (h24 : c 8 ≤ 24) (hs : s < c 8) (hm : m < c 8) (he : ∀ j, j < m → e j < c 8) (hq : ∀ s, s < c 8 → q 0 s ≤ 900) : ∀ (k n : Nat) (σ : St), (∀ s, s < c 8 → ga σ 4 s = nI (q 0 s)) → k ≤ m → k < n → (∀ j, j < k → ga σ 29 j = nI (e j)) → (∀ j, k < j → j ≤ m → ga σ 29 j = nI (e (j - 1))) → (∀ j, k ≤ j → j < m → q 0 (e j) < q 0 s) → ∃ (k2 : Nat) (σ2 : St), X2_sortIn_l5 N n (nI s) (nI k) σ = some (nI 0, σ2) ∧ k2 ≤ m ∧ (∀ j, j < k2 → ga σ2 29 j = nI (e j)) ∧ ga σ2 29 k2 = nI s ∧ (∀ j, k2 < j → j ≤ m → ga σ2 29 j = nI (e (j - 1))) ∧ (∀ j, k2 ≤ j → j < m → q 0 (e j) < q 0 s) ∧ (0 < k2 → q 0 s ≤ q 0 (e (k2 - 1))) ∧ (∀ j, gi σ2 j = gi σ j) ∧ (∀ a, a ≠ 29 → ga σ2 a = ga σ a)
  | _, 0, _, _, _, h, _, _, _ => absurd h (by omega)
  | 0, n + 1, σ, h4, h1, h2, h3, h5, h6 => by
    refine ⟨0, sa σ 29 0 (nI s), ?_, by omega, fun j hj => absurd hj (by omega), ?_, fun j j1 j2 => ?_, h6, fun z => absurd z (by omega), fun _ => rfl, fun a ha => by rw [ga_sa, if_neg ha]⟩
    · rw [X2_sortIn_l5.eq_def]
      unfold X2_sortIn_l51
      simp (disch := omega) only [if_pos, if_neg, bnd_e, cal_e, chk_t, isZ_0, isZ_1, isZ_n0, isZ_n1, ald_n, ast_n, stb_n, litI, nI_add, pk_mul, pk_sub, Nat.add_sub_cancel, nar_0, nar_1, nI_leI, nI_ltI, nI_eq, Nat.not_lt_zero, Nat.le_zero_eq, Nat.zero_le, not_true_eq_false, not_false_eq_true, reduceIte, if_true, if_false, ite_self, Bool.false_eq_true, Nat.reduceEqDiff, Nat.reduceAdd, Nat.reduceMul, Nat.reduceSub, Nat.reduceLT, Nat.reduceLeDiff, Nat.reducePow, gi_si, gi_sg, gi_sa, gi_sl, ga_si, ga_sg2, ga_sa, ga_sl, gl_si, gl_sg, gl_sa, gl_sl]
    · simp only [gi_si, gi_sg, gi_sa, gi_sl, ga_si, ga_sg2, ga_sa, ga_sl, gl_si, gl_sg, gl_sa, gl_sl, Nat.not_lt_zero, Nat.le_zero_eq, Nat.zero_le, not_true_eq_false, not_false_eq_true, reduceIte, if_true, if_false, ite_self, Bool.false_eq_true, Nat.reduceEqDiff, Nat.reduceAdd, Nat.reduceMul, Nat.reduceSub, Nat.reduceLT, Nat.reduceLeDiff, Nat.reducePow, upd_e]
    · simp only [gi_si, gi_sg, gi_sa, gi_sl, ga_si, ga_sg2, ga_sa, ga_sl, gl_si, gl_sg, gl_sa, gl_sl, Nat.not_lt_zero, Nat.le_zero_eq, Nat.zero_le, not_true_eq_false, not_false_eq_true, reduceIte, if_true, if_false, ite_self, Bool.false_eq_true, Nat.reduceEqDiff, Nat.reduceAdd, Nat.reduceMul, Nat.reduceSub, Nat.reduceLT, Nat.reduceLeDiff, Nat.reducePow, upd_e]
      rw [if_neg (by omega)]
      exact h5 j j1 j2
  | k + 1, n + 1, σ, h4, h1, h2, h3, h5, h6 => by
    have ek := h3 k (by omega)
    have hek := he k (by omega)
    have q1 := hq s hs
    have q2 := hq (e k) hek
    have e4 := h4 s hs
    have e4b := h4 (e k) hek
    by_cases z : q 0 s ≤ q 0 (e k)
    · refine ⟨k + 1, sa σ 29 (k + 1) (nI s), ?_, h1, fun j hj => ?_, ?_, fun j j1 j2 => ?_, h6, fun _ => by rw [Nat.add_sub_cancel]; exact z, fun _ => rfl, fun a ha => by rw [ga_sa, if_neg ha]⟩
      · rw [X2_sortIn_l5.eq_def]
        unfold X2_sortIn_l51
        simp (disch := omega) only [if_pos, if_neg, bnd_e, cal_e, chk_t, isZ_0, isZ_1, isZ_n0, isZ_n1, ald_n, ast_n, stb_n, litI, nI_add, pk_mul, pk_sub, Nat.add_sub_cancel, nar_0, nar_1, nI_leI, nI_ltI, nI_eq, Nat.not_lt_zero, Nat.le_zero_eq, Nat.zero_le, not_true_eq_false, not_false_eq_true, reduceIte, if_true, if_false, ite_self, Bool.false_eq_true, Nat.reduceEqDiff, Nat.reduceAdd, Nat.reduceMul, Nat.reduceSub, Nat.reduceLT, Nat.reduceLeDiff, Nat.reducePow, gi_si, gi_sg, gi_sa, gi_sl, ga_si, ga_sg2, ga_sa, ga_sl, gl_si, gl_sg, gl_sa, gl_sl, ek, e4, e4b]
      · simp only [gi_si, gi_sg, gi_sa, gi_sl, ga_si, ga_sg2, ga_sa, ga_sl, gl_si, gl_sg, gl_sa, gl_sl, Nat.not_lt_zero, Nat.le_zero_eq, Nat.zero_le, not_true_eq_false, not_false_eq_true, reduceIte, if_true, if_false, ite_self, Bool.false_eq_true, Nat.reduceEqDiff, Nat.reduceAdd, Nat.reduceMul, Nat.reduceSub, Nat.reduceLT, Nat.reduceLeDiff, Nat.reducePow, upd_e]
        rw [if_neg (by omega)]
        exact h3 j hj
      · simp only [gi_si, gi_sg, gi_sa, gi_sl, ga_si, ga_sg2, ga_sa, ga_sl, gl_si, gl_sg, gl_sa, gl_sl, Nat.not_lt_zero, Nat.le_zero_eq, Nat.zero_le, not_true_eq_false, not_false_eq_true, reduceIte, if_true, if_false, ite_self, Bool.false_eq_true, Nat.reduceEqDiff, Nat.reduceAdd, Nat.reduceMul, Nat.reduceSub, Nat.reduceLT, Nat.reduceLeDiff, Nat.reducePow, upd_e]
      · simp only [gi_si, gi_sg, gi_sa, gi_sl, ga_si, ga_sg2, ga_sa, ga_sl, gl_si, gl_sg, gl_sa, gl_sl, Nat.not_lt_zero, Nat.le_zero_eq, Nat.zero_le, not_true_eq_false, not_false_eq_true, reduceIte, if_true, if_false, ite_self, Bool.false_eq_true, Nat.reduceEqDiff, Nat.reduceAdd, Nat.reduceMul, Nat.reduceSub, Nat.reduceLT, Nat.reduceLeDiff, Nat.reducePow, upd_e]
        rw [if_neg (by omega)]
        exact h5 j j1 j2
    · obtain ⟨k2, σ2, a1, a2, a3, a4, a5, a6, a7, a8, a9⟩ := sortL N h24 hs hm he hq k n (sa σ 29 (k + 1) (nI (e k))) h4 (by omega) (by omega) (fun j hj => by
        simp only [gi_si, gi_sg, gi_sa, gi_sl, ga_si, ga_sg2, ga_sa, ga_sl, gl_si, gl_sg, gl_sa, gl_sl, Nat.not_lt_zero, Nat.le_zero_eq, Nat.zero_le, not_true_eq_false, not_false_eq_true, reduceIte, if_true, if_false, ite_self, Bool.false_eq_true, Nat.reduceEqDiff, Nat.reduceAdd, Nat.reduceMul, Nat.reduceSub, Nat.reduceLT, Nat.reduceLeDiff, Nat.reducePow, upd_e]
        rw [if_neg (by omega)]
        exact h3 j (by omega)) (fun j j1 j2 => by
        simp only [gi_si, gi_sg, gi_sa, gi_sl, ga_si, ga_sg2, ga_sa, ga_sl, gl_si, gl_sg, gl_sa, gl_sl, Nat.not_lt_zero, Nat.le_zero_eq, Nat.zero_le, not_true_eq_false, not_false_eq_true, reduceIte, if_true, if_false, ite_self, Bool.false_eq_true, Nat.reduceEqDiff, Nat.reduceAdd, Nat.reduceMul, Nat.reduceSub, Nat.reduceLT, Nat.reduceLeDiff, Nat.reducePow, upd_e]
        by_cases w : j = k + 1
        · rw [if_pos w, w, Nat.add_sub_cancel]
        · rw [if_neg w]
          exact h5 j (by omega) j2) (fun j j1 j2 => by
        by_cases w : j = k
        · rw [w]
          omega
        · exact h6 j (by omega) j2)
      refine ⟨k2, σ2, ?_, a2, a3, a4, a5, a6, a7, a8, fun a ha => by rw [a9 a ha, ga_sa, if_neg ha]⟩
      rw [← a1, X2_sortIn_l5.eq_def]
      simp (disch := omega) only [if_pos, if_neg, bnd_e, cal_e, chk_t, isZ_0, isZ_1, isZ_n0, isZ_n1, ald_n, ast_n, stb_n, litI, nI_add, pk_mul, pk_sub, Nat.add_sub_cancel, nar_0, nar_1, nI_leI, nI_ltI, nI_eq, Nat.not_lt_zero, Nat.le_zero_eq, Nat.zero_le, not_true_eq_false, not_false_eq_true, reduceIte, if_true, if_false, ite_self, Bool.false_eq_true, Nat.reduceEqDiff, Nat.reduceAdd, Nat.reduceMul, Nat.reduceSub, Nat.reduceLT, Nat.reduceLeDiff, Nat.reducePow, gi_si, gi_sg, gi_sa, gi_sl, ga_si, ga_sg2, ga_sa, ga_sl, gl_si, gl_sg, gl_sa, gl_sl, ek, e4, e4b, nI_dec]
