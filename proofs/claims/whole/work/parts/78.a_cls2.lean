/-! lay: the class compares a row with the best one -/
def BeX (q : Nat → Nat → Nat) (c : Nat → Nat) (σ : St) (b : Option (List Nat)) : Prop := match b with
  | none => gi σ 14 = nI 0 ∧ gi σ 15 = nI (c 3) ∧ gi σ 16 = -nI 1
  | some r => RowAt (ga σ 23) 0 r ∧ gi σ 14 = nI r.length ∧ gi σ 15 = nI (c 1 - sm (q 0) r) ∧ gi σ 16 = nI (sm (q 3) r) ∧ 1 ≤ r.length ∧ r.length ≤ 4 ∧ (∀ x, x ∈ r → x < c 8) ∧ c 1 - sm (q 0) r ≤ c 3
def btr (q : Nat → Nat → Nat) (c : Nat → Nat) (b : Option (List Nat)) (L W : Nat) : Prop := match b with
  | none => L ≤ c 3
  | some r => L < c 1 - sm (q 0) r ∨ (L = c 1 - sm (q 0) r ∧ sm (q 3) r < W)
theorem BeX_cg {q : Nat → Nat → Nat} {c : Nat → Nat} {σ σ2 : St} {b : Option (List Nat)} (h : BeX q c σ b) (e14 : gi σ2 14 = gi σ 14) (e15 : gi σ2 15 = gi σ 15) (e16 : gi σ2 16 = gi σ 16) (e23 : ga σ2 23 = ga σ 23) : BeX q c σ2 b := by
  cases b with
  | none =>
    show gi σ2 14 = nI 0 ∧ gi σ2 15 = nI (c 3) ∧ gi σ2 16 = -nI 1
    rw [e14, e15, e16]
    exact h
  | some r =>
    show RowAt (ga σ2 23) 0 r ∧ gi σ2 14 = _ ∧ gi σ2 15 = _ ∧ gi σ2 16 = _ ∧ _
    rw [e14, e15, e16, e23]
    exact h
theorem sm_bx {q : Nat → Nat → Nat} {c : Nat → Nat} {σ : St} (h : InX q c σ) {r : List Nat} (hm : ∀ x, x ∈ r → x < c 8) : sm (q 0) r ≤ r.length * 900 ∧ sm (q 3) r ≤ r.length * 390 ∧ sm (q 4) r ≤ r.length * 1 := by
  refine ⟨sm_le r fun x hx => ?_, sm_le r fun x hx => ?_, sm_le r fun x hx => ?_⟩
  · obtain ⟨e10, e11, e12, e18, e19, b1, b2, b3, b4, b5, b6⟩ := h.2.2.1 x (hm x hx)
    exact b2
  · obtain ⟨e10, e11, e12, e18, e19, b1, b2, b3, b4, b5, b6⟩ := h.2.2.1 x (hm x hx)
    exact b5
  · obtain ⟨e10, e11, e12, e18, e19, b1, b2, b3, b4, b5, b6⟩ := h.2.2.1 x (hm x hx)
    exact b6
theorem cmp_c (N : Nat) {len : Nat} (hlen : len ≤ 4) : ∀ (d i n : Nat) (σ : St), i + d = len → d < n → (∀ k, k < i → ga σ 23 k = ga σ 24 k) → ∃ σ2 : St, X2_compare_l64 N n (nI len) (nI i) σ = some (nI 0, σ2) ∧ (∀ k, k < len → ga σ2 23 k = ga σ 24 k) ∧ (∀ j, gi σ2 j = gi σ j) ∧ (∀ a, a ≠ 23 → ga σ2 a = ga σ a)
  | d, i, 0, _, _, h, _ => absurd h (by omega)
  | 0, i, n + 1, σ, h1, h2, h3 => by
    obtain rfl : i = len := by omega
    refine ⟨σ, ?_, h3, fun _ => rfl, fun _ _ => rfl⟩
    rw [X2_compare_l64.eq_def]
    simp (disch := omega) only [if_pos, if_neg, bnd_e, cal_e, chk_t, isZ_0, isZ_1, isZ_n0, isZ_n1, ald_n, ast_n, stb_n, litI, nI_add, pk_mul, pk_sub, Nat.add_sub_cancel, nar_0, nar_1, nI_leI, nI_ltI, nI_eq, Nat.not_lt_zero, Nat.le_zero_eq, Nat.zero_le, not_true_eq_false, not_false_eq_true, reduceIte, if_true, if_false, ite_self, Bool.false_eq_true, Nat.reduceEqDiff, Nat.reduceAdd, Nat.reduceMul, Nat.reduceSub, Nat.reduceLT, Nat.reduceLeDiff, Nat.reducePow, gi_si, gi_sg, gi_sa, gi_sl, ga_si, ga_sg2, ga_sa, ga_sl, gl_si, gl_sg, gl_sa, gl_sl]
  | d + 1, i, n + 1, σ, h1, h2, h3 => by
    obtain ⟨σ2, a1, a2, a7, a8⟩ := cmp_c N hlen d (i + 1) n (sa σ 23 i (ga σ 24 i)) (by omega) (by omega) (fun k hk => by
      simp only [gi_si, gi_sg, gi_sa, gi_sl, ga_si, ga_sg2, ga_sa, ga_sl, gl_si, gl_sg, gl_sa, gl_sl, Nat.not_lt_zero, Nat.le_zero_eq, Nat.zero_le, not_true_eq_false, not_false_eq_true, reduceIte, if_true, if_false, ite_self, Bool.false_eq_true, Nat.reduceEqDiff, Nat.reduceAdd, Nat.reduceMul, Nat.reduceSub, Nat.reduceLT, Nat.reduceLeDiff, Nat.reducePow, upd_e]
      by_cases z : k = i
      · rw [if_pos z, z]
      · rw [if_neg z]
        exact h3 k (by omega))
    refine ⟨σ2, ?_, a2, a7, fun a ha => ?_⟩
    · rw [← a1, X2_compare_l64.eq_def]
      simp (disch := omega) only [if_pos, if_neg, bnd_e, cal_e, chk_t, isZ_0, isZ_1, isZ_n0, isZ_n1, ald_n, ast_n, stb_n, litI, nI_add, pk_mul, pk_sub, Nat.add_sub_cancel, nar_0, nar_1, nI_leI, nI_ltI, nI_eq, Nat.not_lt_zero, Nat.le_zero_eq, Nat.zero_le, not_true_eq_false, not_false_eq_true, reduceIte, if_true, if_false, ite_self, Bool.false_eq_true, Nat.reduceEqDiff, Nat.reduceAdd, Nat.reduceMul, Nat.reduceSub, Nat.reduceLT, Nat.reduceLeDiff, Nat.reducePow, gi_si, gi_sg, gi_sa, gi_sl, ga_si, ga_sg2, ga_sa, ga_sl, gl_si, gl_sg, gl_sa, gl_sl]
    · rw [a8 a ha, ga_sa, if_neg ha]
theorem x_cmp (N : Nat) (hN : 10 < N) {q : Nat → Nat → Nat} {c : Nat → Nat} {σ : St} (h : InX q c σ) {b : Option (List Nat)} (hb : BeX q c σ b) (r : List Nat) (hl1 : 1 ≤ r.length) (hl : r.length ≤ 4) (hr : RowAt (ga σ 24) 0 r) (hm : ∀ x, x ∈ r → x < c 8) : ∃ (b2 : Option (List Nat)) (σ2 : St), X2_compare_f N (nI r.length) (nI (c 1 - sm (q 0) r)) (nI (sm (q 3) r)) (nI (sm (q 4) r)) σ = some (nI 0, σ2) ∧ BeX q c σ2 b2 ∧ ((btr q c b (c 1 - sm (q 0) r) (sm (q 3) r) ∧ c 2 ≤ sm (q 4) r ∧ b2 = some r) ∨ (¬ (btr q c b (c 1 - sm (q 0) r) (sm (q 3) r) ∧ c 2 ≤ sm (q 4) r) ∧ b2 = b)) ∧ (∀ j, j ≠ 14 → j ≠ 15 → j ≠ 16 → gi σ2 j = gi σ j) ∧ (∀ a, a ≠ 23 → ga σ2 a = ga σ a) := by
  obtain ⟨t0, t3, t4⟩ := sm_bx h hm
  have g26 : gi σ 26 = nI (c 2) := h.2.2.2.2.2.2.2.2.1
  have hc : c 1 ≤ 3600 ∧ c 2 ≤ 4 ∧ c 9 ≤ 12 ∧ c 3 ≤ 900 := h.2.2.2.2.2.2.2.2.2.2.2.2.2.2.2
  obtain ⟨σ2, k1, k2, k3, k4⟩ := cmp_c N hl r.length 0 N (si (si (si σ 14 (nI r.length)) 15 (nI (c 1 - sm (q 0) r))) 16 (nI (sm (q 3) r))) (by omega) (by omega) (fun k hk => absurd hk (by omega))
  have no : X2_compare_l28 N (nI r.length) (nI (c 1 - sm (q 0) r)) (nI (sm (q 3) r)) (nI (sm (q 4) r)) σ = some (nI 0, σ) := by
    unfold X2_compare_l28 X2_compare_l29
    simp (disch := omega) only [if_pos, if_neg, bnd_e, cal_e, chk_t, isZ_0, isZ_1, isZ_n0, isZ_n1, ald_n, ast_n, stb_n, litI, nI_add, pk_mul, pk_sub, Nat.add_sub_cancel, nar_0, nar_1, nI_leI, nI_ltI, nI_eq, Nat.not_lt_zero, Nat.le_zero_eq, Nat.zero_le, not_true_eq_false, not_false_eq_true, reduceIte, if_true, if_false, ite_self, Bool.false_eq_true, Nat.reduceEqDiff, Nat.reduceAdd, Nat.reduceMul, Nat.reduceSub, Nat.reduceLT, Nat.reduceLeDiff, Nat.reducePow, gi_si, gi_sg, gi_sa, gi_sl, ga_si, ga_sg2, ga_sa, ga_sl, gl_si, gl_sg, gl_sa, gl_sl]
  have ys : c 2 ≤ sm (q 4) r → X2_compare_l24 N (nI r.length) (nI (c 1 - sm (q 0) r)) (nI (sm (q 3) r)) (nI (sm (q 4) r)) σ = some (nI 0, σ2) := fun y => by
    unfold X2_compare_l24 X2_compare_l29
    simp (disch := omega) only [if_pos, if_neg, bnd_e, cal_e, chk_t, isZ_0, isZ_1, isZ_n0, isZ_n1, ald_n, ast_n, stb_n, litI, nI_add, pk_mul, pk_sub, Nat.add_sub_cancel, nar_0, nar_1, nI_leI, nI_ltI, nI_eq, Nat.not_lt_zero, Nat.le_zero_eq, Nat.zero_le, not_true_eq_false, not_false_eq_true, reduceIte, if_true, if_false, ite_self, Bool.false_eq_true, Nat.reduceEqDiff, Nat.reduceAdd, Nat.reduceMul, Nat.reduceSub, Nat.reduceLT, Nat.reduceLeDiff, Nat.reducePow, gi_si, gi_sg, gi_sa, gi_sl, ga_si, ga_sg2, ga_sa, ga_sl, gl_si, gl_sg, gl_sa, gl_sl, g26]
    exact k1
  have ns : ¬ c 2 ≤ sm (q 4) r → X2_compare_l24 N (nI r.length) (nI (c 1 - sm (q 0) r)) (nI (sm (q 3) r)) (nI (sm (q 4) r)) σ = some (nI 0, σ) := fun y => by
    unfold X2_compare_l24 X2_compare_l29
    simp (disch := omega) only [if_pos, if_neg, bnd_e, cal_e, chk_t, isZ_0, isZ_1, isZ_n0, isZ_n1, ald_n, ast_n, stb_n, litI, nI_add, pk_mul, pk_sub, Nat.add_sub_cancel, nar_0, nar_1, nI_leI, nI_ltI, nI_eq, Nat.not_lt_zero, Nat.le_zero_eq, Nat.zero_le, not_true_eq_false, not_false_eq_true, reduceIte, if_true, if_false, ite_self, Bool.false_eq_true, Nat.reduceEqDiff, Nat.reduceAdd, Nat.reduceMul, Nat.reduceSub, Nat.reduceLT, Nat.reduceLeDiff, Nat.reducePow, gi_si, gi_sg, gi_sa, gi_sl, ga_si, ga_sg2, ga_sa, ga_sl, gl_si, gl_sg, gl_sa, gl_sl, g26]
  have tk : c 1 - sm (q 0) r ≤ c 3 → BeX q c σ2 (some r) ∧ (∀ j, j ≠ 14 → j ≠ 15 → j ≠ 16 → gi σ2 j = gi σ j) ∧ (∀ a, a ≠ 23 → ga σ2 a = ga σ a) := fun y => by
    refine ⟨⟨RowAt_cg r (fun k hk => ?_) hr, ?_, ?_, ?_, hl1, hl, hm, y⟩, fun j j1 j2 j3 => ?_, fun a ha => k4 a ha⟩
    · rw [Nat.zero_add, k2 k hk]
      rfl
    · rw [k3 14]
      rfl
    · rw [k3 15]
      rfl
    · rw [k3 16]
      rfl
    · rw [k3 j, gi_si, if_neg j3, gi_si, if_neg j2, gi_si, if_neg j1]
  unfold X2_compare_f
  by_cases y : btr q c b (c 1 - sm (q 0) r) (sm (q 3) r)
  · have st : X2_compare_l24 N (nI r.length) (nI (c 1 - sm (q 0) r)) (nI (sm (q 3) r)) (nI (sm (q 4) r)) σ = (if nI (c 1 - sm (q 0) r) < gi σ 15 then X2_compare_l24 N (nI r.length) (nI (c 1 - sm (q 0) r)) (nI (sm (q 3) r)) (nI (sm (q 4) r)) σ else if nI (c 1 - sm (q 0) r) = gi σ 15 then if nI (sm (q 3) r) ≤ gi σ 16 then X2_compare_l28 N (nI r.length) (nI (c 1 - sm (q 0) r)) (nI (sm (q 3) r)) (nI (sm (q 4) r)) σ else X2_compare_l24 N (nI r.length) (nI (c 1 - sm (q 0) r)) (nI (sm (q 3) r)) (nI (sm (q 4) r)) σ else X2_compare_l28 N (nI r.length) (nI (c 1 - sm (q 0) r)) (nI (sm (q 3) r)) (nI (sm (q 4) r)) σ) ∧ c 1 - sm (q 0) r ≤ c 3 := by
      cases b with
      | none =>
        obtain ⟨e1, e2, e3⟩ := hb
        have y2 : c 1 - sm (q 0) r ≤ c 3 := y
        refine ⟨?_, y2⟩
        by_cases w : c 1 - sm (q 0) r < c 3
        · simp (disch := omega) only [if_pos, if_neg, bnd_e, cal_e, chk_t, isZ_0, isZ_1, isZ_n0, isZ_n1, ald_n, ast_n, stb_n, litI, nI_add, pk_mul, pk_sub, Nat.add_sub_cancel, nar_0, nar_1, nI_leI, nI_ltI, nI_eq, Nat.not_lt_zero, Nat.le_zero_eq, Nat.zero_le, not_true_eq_false, not_false_eq_true, reduceIte, if_true, if_false, ite_self, Bool.false_eq_true, Nat.reduceEqDiff, Nat.reduceAdd, Nat.reduceMul, Nat.reduceSub, Nat.reduceLT, Nat.reduceLeDiff, Nat.reducePow, gi_si, gi_sg, gi_sa, gi_sl, ga_si, ga_sg2, ga_sa, ga_sl, gl_si, gl_sg, gl_sa, gl_sl, e2]
        · simp (disch := omega) only [if_pos, if_neg, bnd_e, cal_e, chk_t, isZ_0, isZ_1, isZ_n0, isZ_n1, ald_n, ast_n, stb_n, litI, nI_add, pk_mul, pk_sub, Nat.add_sub_cancel, nar_0, nar_1, nI_leI, nI_ltI, nI_eq, Nat.not_lt_zero, Nat.le_zero_eq, Nat.zero_le, not_true_eq_false, not_false_eq_true, reduceIte, if_true, if_false, ite_self, Bool.false_eq_true, Nat.reduceEqDiff, Nat.reduceAdd, Nat.reduceMul, Nat.reduceSub, Nat.reduceLT, Nat.reduceLeDiff, Nat.reducePow, gi_si, gi_sg, gi_sa, gi_sl, ga_si, ga_sg2, ga_sa, ga_sl, gl_si, gl_sg, gl_sa, gl_sl, e2, e3, nI_lm1]
      | some r0 =>
        obtain ⟨e1, e2, e3, e4, e5, e6, e7, e8⟩ := hb
        obtain ⟨u0, u3, u4⟩ := sm_bx h e7
        have y2 : c 1 - sm (q 0) r < c 1 - sm (q 0) r0 ∨ (c 1 - sm (q 0) r = c 1 - sm (q 0) r0 ∧ sm (q 3) r0 < sm (q 3) r) := y
        refine ⟨?_, by omega⟩
        rcases y2 with w | ⟨w1, w2⟩
        · simp (disch := omega) only [if_pos, if_neg, bnd_e, cal_e, chk_t, isZ_0, isZ_1, isZ_n0, isZ_n1, ald_n, ast_n, stb_n, litI, nI_add, pk_mul, pk_sub, Nat.add_sub_cancel, nar_0, nar_1, nI_leI, nI_ltI, nI_eq, Nat.not_lt_zero, Nat.le_zero_eq, Nat.zero_le, not_true_eq_false, not_false_eq_true, reduceIte, if_true, if_false, ite_self, Bool.false_eq_true, Nat.reduceEqDiff, Nat.reduceAdd, Nat.reduceMul, Nat.reduceSub, Nat.reduceLT, Nat.reduceLeDiff, Nat.reducePow, gi_si, gi_sg, gi_sa, gi_sl, ga_si, ga_sg2, ga_sa, ga_sl, gl_si, gl_sg, gl_sa, gl_sl, e3]
        · simp (disch := omega) only [if_pos, if_neg, bnd_e, cal_e, chk_t, isZ_0, isZ_1, isZ_n0, isZ_n1, ald_n, ast_n, stb_n, litI, nI_add, pk_mul, pk_sub, Nat.add_sub_cancel, nar_0, nar_1, nI_leI, nI_ltI, nI_eq, Nat.not_lt_zero, Nat.le_zero_eq, Nat.zero_le, not_true_eq_false, not_false_eq_true, reduceIte, if_true, if_false, ite_self, Bool.false_eq_true, Nat.reduceEqDiff, Nat.reduceAdd, Nat.reduceMul, Nat.reduceSub, Nat.reduceLT, Nat.reduceLeDiff, Nat.reducePow, gi_si, gi_sg, gi_sa, gi_sl, ga_si, ga_sg2, ga_sa, ga_sl, gl_si, gl_sg, gl_sa, gl_sl, e3, e4, w1]
    obtain ⟨st, lb⟩ := st
    rw [← st]
    by_cases w : c 2 ≤ sm (q 4) r
    · obtain ⟨m1, m2, m3⟩ := tk lb
      exact ⟨some r, σ2, ys w, m1, Or.inl ⟨y, w, rfl⟩, m2, m3⟩
    · exact ⟨b, σ, ns w, hb, Or.inr ⟨fun z => w z.2, rfl⟩, fun _ _ _ _ => rfl, fun _ _ => rfl⟩
  · refine ⟨b, σ, ?_, hb, Or.inr ⟨fun z => y z.1, rfl⟩, fun _ _ _ _ => rfl, fun _ _ => rfl⟩
    rw [← no]
    cases b with
    | none =>
      obtain ⟨e1, e2, e3⟩ := hb
      have y2 : ¬ c 1 - sm (q 0) r ≤ c 3 := y
      simp (disch := omega) only [if_pos, if_neg, bnd_e, cal_e, chk_t, isZ_0, isZ_1, isZ_n0, isZ_n1, ald_n, ast_n, stb_n, litI, nI_add, pk_mul, pk_sub, Nat.add_sub_cancel, nar_0, nar_1, nI_leI, nI_ltI, nI_eq, Nat.not_lt_zero, Nat.le_zero_eq, Nat.zero_le, not_true_eq_false, not_false_eq_true, reduceIte, if_true, if_false, ite_self, Bool.false_eq_true, Nat.reduceEqDiff, Nat.reduceAdd, Nat.reduceMul, Nat.reduceSub, Nat.reduceLT, Nat.reduceLeDiff, Nat.reducePow, gi_si, gi_sg, gi_sa, gi_sl, ga_si, ga_sg2, ga_sa, ga_sl, gl_si, gl_sg, gl_sa, gl_sl, e2]
    | some r0 =>
      obtain ⟨e1, e2, e3, e4, e5, e6, e7, e8⟩ := hb
      obtain ⟨u0, u3, u4⟩ := sm_bx h e7
      have y2 : ¬ (c 1 - sm (q 0) r < c 1 - sm (q 0) r0 ∨ (c 1 - sm (q 0) r = c 1 - sm (q 0) r0 ∧ sm (q 3) r0 < sm (q 3) r)) := y
      by_cases w : c 1 - sm (q 0) r = c 1 - sm (q 0) r0
      · simp (disch := omega) only [if_pos, if_neg, bnd_e, cal_e, chk_t, isZ_0, isZ_1, isZ_n0, isZ_n1, ald_n, ast_n, stb_n, litI, nI_add, pk_mul, pk_sub, Nat.add_sub_cancel, nar_0, nar_1, nI_leI, nI_ltI, nI_eq, Nat.not_lt_zero, Nat.le_zero_eq, Nat.zero_le, not_true_eq_false, not_false_eq_true, reduceIte, if_true, if_false, ite_self, Bool.false_eq_true, Nat.reduceEqDiff, Nat.reduceAdd, Nat.reduceMul, Nat.reduceSub, Nat.reduceLT, Nat.reduceLeDiff, Nat.reducePow, gi_si, gi_sg, gi_sa, gi_sl, ga_si, ga_sg2, ga_sa, ga_sl, gl_si, gl_sg, gl_sa, gl_sl, e3, e4, w]
      · simp (disch := omega) only [if_pos, if_neg, bnd_e, cal_e, chk_t, isZ_0, isZ_1, isZ_n0, isZ_n1, ald_n, ast_n, stb_n, litI, nI_add, pk_mul, pk_sub, Nat.add_sub_cancel, nar_0, nar_1, nI_leI, nI_ltI, nI_eq, Nat.not_lt_zero, Nat.le_zero_eq, Nat.zero_le, not_true_eq_false, not_false_eq_true, reduceIte, if_true, if_false, ite_self, Bool.false_eq_true, Nat.reduceEqDiff, Nat.reduceAdd, Nat.reduceMul, Nat.reduceSub, Nat.reduceLT, Nat.reduceLeDiff, Nat.reducePow, gi_si, gi_sg, gi_sa, gi_sl, ga_si, ga_sg2, ga_sa, ga_sl, gl_si, gl_sg, gl_sa, gl_sl, e3]
/-- a row that is taken, rows that are not -/
theorem IsB_tk {q : Nat → Nat → Nat} {c : Nat → Nat} {P : List Nat → Prop} {b : Option (List Nat)} {r : List Nat} {A : Prop} (h : IsB q c P b) (a : A) (y : btr q c b (c 1 - sm (q 0) r) (sm (q 3) r)) : IsB q c (fun x => P x ∨ (x = r ∧ A)) (some r) := IsB_in h a (fun r0 z => by
  rw [z] at y
  exact Or.inl y)
theorem IsB_kp {q : Nat → Nat → Nat} {c : Nat → Nat} {lg : Nat → Nat → Prop} {P Q : List Nat → Prop} {b : Option (List Nat)} (h : IsB q c P b) (k : ∀ x, Q x → Ad q c lg x ∧ ¬ btr q c b (c 1 - sm (q 0) x) (sm (q 3) x) ∧ (∀ r0, b = some r0 → lx r0.reverse x.reverse)) : IsB q c (fun x => P x ∨ Q x) b := by
  cases b with
  | none => exact IsB_no h (fun x hx => (k x hx).2.1 (k x hx).1.2.2.2.1)
  | some r0 => exact IsB_keep h (fun x hx => by
      obtain ⟨k1, k2, k3⟩ := k x hx
      have k2b : ¬ (c 1 - sm (q 0) x < c 1 - sm (q 0) r0 ∨ (c 1 - sm (q 0) x = c 1 - sm (q 0) r0 ∧ sm (q 3) r0 < sm (q 3) x)) := k2
      right
      unfold bb vb
      by_cases w : c 1 - sm (q 0) r0 < c 1 - sm (q 0) x
      · exact Or.inl (Or.inl w)
      · by_cases v : sm (q 3) x < sm (q 3) r0
        · exact Or.inl (Or.inr ⟨by omega, v⟩)
        · exact Or.inr ⟨by omega, by omega, k3 r0 rfl⟩)
