theorem judge_l (N : Nat) {q : Nat → Nat → Nat} {c : Nat → Nat} {σ : St} (h : InM q c σ) {x1 s len : Nat} {x6 x7 : Int32} (hx1 : x1 < 13824) (hlen : len ≤ 3) (hs : s < c 8) : ∀ (b p : List Nat) (n : Nat), (b.reverse ++ p).length = len → RowAt (ga σ 25) (4 * x1) (b.reverse ++ p) → (∀ x, x ∈ b.reverse ++ p → x < c 8) → b.length < n → X7_judge_l34 N n (nI x1) (nI len) (nI s) x6 x7 (nI (q 3 s + sm (q 3) p)) (nI (q 4 s + sm (q 4) p)) (nI p.length) σ = X7_judge_l34 N 1 (nI x1) (nI len) (nI s) x6 x7 (nI (q 3 s + sm (q 3) (b.reverse ++ p))) (nI (q 4 s + sm (q 4) (b.reverse ++ p))) (nI len) σ
  | _, _, 0, _, _, _, h2 => absurd h2 (by omega)
  | [], p, n + 1, h1, h2, h3, h6 => by
    have e : p.length = len := h1
    rw [e]
    show X7_judge_l34 N (n + 1) _ _ _ _ _ _ _ _ σ = X7_judge_l34 N 1 _ _ _ _ _ (nI (q 3 s + sm (q 3) p)) (nI (q 4 s + sm (q 4) p)) _ σ
    rw [X7_judge_l34.eq_def, X7_judge_l34.eq_def N 1]
    simp only [if_pos (nI_le (Nat.le_refl len) (by omega : len < 2 ^ 31))]
  | y :: b, p, n + 1, h1, h2, h3, h6 => by
    have ea : (y :: b).reverse ++ p = b.reverse ++ (y :: p) := by rw [List.reverse_cons, List.append_assoc]; rfl
    rw [ea] at h1 h2 h3 ⊢
    have hy := h3 y (List.mem_append_right _ List.mem_cons_self)
    have r2 := RowAt_tail b.reverse (y :: p) h2
    have ey : ga σ 25 (4 * x1 + p.length) = nI y := r2.1
    have hl : b.length + (p.length + 1) = len := by
      rw [List.length_append, List.length_reverse] at h1
      exact h1
    have h24 := h.1
    obtain ⟨e10, e11, e12, e18, e19, -, -, -, -, -, e4⟩ := h.2.2.1 y hy
    have hb : b.length < n := by
      have : (y :: b).length = b.length + 1 := rfl
      omega
    rw [← judge_l N h hx1 hlen hs b (y :: p) n h1 h2 h3 hb, X7_judge_l34.eq_def, show (y :: p).length = p.length + 1 from rfl, show sm (q 3) (y :: p) = sm (q 3) p + q 3 y from rfl, show sm (q 4) (y :: p) = sm (q 4) p + q 4 y from rfl]
    unfold X7_judge_l83
    rcases r01 e4 with z | z
    · rw [z] at e19 ⊢
      simp (disch := omega) only [if_pos, if_neg, bnd_e, cal_e, chk_t, isZ_0, isZ_1, isZ_n0, isZ_n1, ald_n, ast_n, stb_n, litI, nI_add, pk_mul, pk_sub, Nat.add_sub_cancel, nar_0, nar_1, nI_leI, nI_ltI, nI_eq, Nat.not_lt_zero, Nat.le_zero_eq, Nat.zero_le, not_true_eq_false, not_false_eq_true, reduceIte, if_true, if_false, ite_self, Bool.false_eq_true, Nat.reduceEqDiff, Nat.reduceAdd, Nat.reduceMul, Nat.reduceSub, Nat.reduceLT, Nat.reduceLeDiff, Nat.reducePow, gi_si, gi_sg, gi_sa, gi_sl, ga_si, ga_sg2, ga_sa, ga_sl, gl_si, gl_sg, gl_sa, gl_sl, ey, e18, e19, Nat.add_assoc, Nat.add_zero]
    · rw [z] at e19 ⊢
      simp (disch := omega) only [if_pos, if_neg, bnd_e, cal_e, chk_t, isZ_0, isZ_1, isZ_n0, isZ_n1, ald_n, ast_n, stb_n, litI, nI_add, pk_mul, pk_sub, Nat.add_sub_cancel, nar_0, nar_1, nI_leI, nI_ltI, nI_eq, Nat.not_lt_zero, Nat.le_zero_eq, Nat.zero_le, not_true_eq_false, not_false_eq_true, reduceIte, if_true, if_false, ite_self, Bool.false_eq_true, Nat.reduceEqDiff, Nat.reduceAdd, Nat.reduceMul, Nat.reduceSub, Nat.reduceLT, Nat.reduceLeDiff, Nat.reducePow, gi_si, gi_sg, gi_sa, gi_sl, ga_si, ga_sg2, ga_sa, ga_sl, gl_si, gl_sg, gl_sa, gl_sl, ey, e18, e19, Nat.add_assoc]
