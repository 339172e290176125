/-- the key ahead of the row -/
def KyM (q : Nat → Nat → Nat) (c : Nat → Nat) (σ : St) : Prop := ∃ P : Nat, P ≤ 300 ∧ gi σ 13 = nI P ∧ ((P = 0 ∧ c 9 = 0) ∨ (0 < P ∧ ∃ l b : Nat, l < c 8 ∧ b ≤ 604800 ∧ ga σ 20 (P - 1) = nI l ∧ ga σ 21 (P - 1) = nI b ∧ ((b + q 0 l = c 0 ∧ c 9 = q 2 l + 1) ∨ (b + q 0 l ≠ c 0 ∧ c 9 = 0))))
theorem fits_e (N : Nat) {q : Nat → Nat → Nat} {c : Nat → Nat} {σ : St} (h : InM q c σ) (hk : KyM q c σ) {x1 s : Nat} {t v : Int32} (hx1 : x1 < 13824) (hs : s < c 8) (hc0 : c 0 ≤ 604800) (r : List Nat) (hl : r.length ≤ 3) (hr : RowAt (ga σ 25) (4 * x1) r) (hm : ∀ x, x ∈ r → x < c 8) : (okK q c r s → X7_fits_l6 N 1 (nI x1) (nI r.length) (nI (c 0)) (nI s) t v (nI r.length) σ = some (nI 1, σ)) ∧ (¬ okK q c r s → X7_fits_l6 N 1 (nI x1) (nI r.length) (nI (c 0)) (nI s) t v (nI r.length) σ = some (nI 0, σ)) := by
  have h24 := h.1
  cases r with
  | nil =>
    obtain ⟨P, hP, e13, ⟨rfl, e9⟩ | ⟨hP0, l, b, l1, l2, l3, l4, l5⟩⟩ := hk
    · refine ⟨fun _ => ?_, fun z => absurd (Or.inl e9) z⟩
      rw [X7_fits_l6.eq_def, show ([] : List Nat).length = 0 from rfl]
      unfold X7_fits_l106
      simp (disch := omega) only [if_pos, if_neg, bnd_e, cal_e, chk_t, isZ_0, isZ_1, isZ_n0, isZ_n1, ald_n, ast_n, stb_n, litI, nI_add, pk_mul, pk_sub, Nat.add_sub_cancel, nar_0, nar_1, nI_leI, nI_ltI, nI_eq, Nat.not_lt_zero, Nat.le_zero_eq, Nat.zero_le, not_true_eq_false, not_false_eq_true, reduceIte, if_true, if_false, ite_self, Bool.false_eq_true, Nat.reduceEqDiff, Nat.reduceAdd, Nat.reduceMul, Nat.reduceSub, Nat.reduceLT, Nat.reduceLeDiff, Nat.reducePow, gi_si, gi_sg, gi_sa, gi_sl, ga_si, ga_sg2, ga_sa, ga_sl, gl_si, gl_sg, gl_sa, gl_sl, e13]
    · have e10 := (h.2.2.1 l l1).1
      have hq := (h.2.2.1 l l1).2.2.2.2.2.2.1
      have g := m_goWith N h l1 hs
      rcases l5 with ⟨k1, k2⟩ | ⟨k1, k2⟩
      · have e : okK q c [] s ↔ stp (q 2 l) (q 2 s) ≤ c 7 := by
          show (c 9 = 0 ∨ stp (c 9 - 1) (q 2 s) ≤ c 7) ↔ _
          rw [k2, Nat.add_sub_cancel]
          exact ⟨fun z => z.elim (fun y => absurd y (by omega)) id, Or.inr⟩
        rw [e]
        refine ⟨fun z => ?_, fun z => ?_⟩
        · rw [if_pos z] at g
          rw [X7_fits_l6.eq_def, show ([] : List Nat).length = 0 from rfl]
          unfold X7_fits_l106 X7_endOf_f
          simp (disch := omega) only [if_pos, if_neg, bnd_e, cal_e, chk_t, isZ_0, isZ_1, isZ_n0, isZ_n1, ald_n, ast_n, stb_n, litI, nI_add, pk_mul, pk_sub, Nat.add_sub_cancel, nar_0, nar_1, nI_leI, nI_ltI, nI_eq, Nat.not_lt_zero, Nat.le_zero_eq, Nat.zero_le, not_true_eq_false, not_false_eq_true, reduceIte, if_true, if_false, ite_self, Bool.false_eq_true, Nat.reduceEqDiff, Nat.reduceAdd, Nat.reduceMul, Nat.reduceSub, Nat.reduceLT, Nat.reduceLeDiff, Nat.reducePow, gi_si, gi_sg, gi_sa, gi_sl, ga_si, ga_sg2, ga_sa, ga_sl, gl_si, gl_sg, gl_sa, gl_sl, e13, l3, l4, e10, k1, g]
        · rw [if_neg z] at g
          rw [X7_fits_l6.eq_def, show ([] : List Nat).length = 0 from rfl]
          unfold X7_fits_l106 X7_endOf_f
          simp (disch := omega) only [if_pos, if_neg, bnd_e, cal_e, chk_t, isZ_0, isZ_1, isZ_n0, isZ_n1, ald_n, ast_n, stb_n, litI, nI_add, pk_mul, pk_sub, Nat.add_sub_cancel, nar_0, nar_1, nI_leI, nI_ltI, nI_eq, Nat.not_lt_zero, Nat.le_zero_eq, Nat.zero_le, not_true_eq_false, not_false_eq_true, reduceIte, if_true, if_false, ite_self, Bool.false_eq_true, Nat.reduceEqDiff, Nat.reduceAdd, Nat.reduceMul, Nat.reduceSub, Nat.reduceLT, Nat.reduceLeDiff, Nat.reducePow, gi_si, gi_sg, gi_sa, gi_sl, ga_si, ga_sg2, ga_sa, ga_sl, gl_si, gl_sg, gl_sa, gl_sl, e13, l3, l4, e10, k1, g]
      · refine ⟨fun _ => ?_, fun z => absurd (Or.inl k2) z⟩
        rw [X7_fits_l6.eq_def, show ([] : List Nat).length = 0 from rfl]
        unfold X7_fits_l106 X7_endOf_f
        simp (disch := omega) only [if_pos, if_neg, bnd_e, cal_e, chk_t, isZ_0, isZ_1, isZ_n0, isZ_n1, ald_n, ast_n, stb_n, litI, nI_add, pk_mul, pk_sub, Nat.add_sub_cancel, nar_0, nar_1, nI_leI, nI_ltI, nI_eq, Nat.not_lt_zero, Nat.le_zero_eq, Nat.zero_le, not_true_eq_false, not_false_eq_true, reduceIte, if_true, if_false, ite_self, Bool.false_eq_true, Nat.reduceEqDiff, Nat.reduceAdd, Nat.reduceMul, Nat.reduceSub, Nat.reduceLT, Nat.reduceLeDiff, Nat.reducePow, gi_si, gi_sg, gi_sa, gi_sl, ga_si, ga_sg2, ga_sa, ga_sl, gl_si, gl_sg, gl_sa, gl_sl, e13, l3, l4, e10]
  | cons y p =>
    have hy := hm y List.mem_cons_self
    have ey : ga σ 25 (4 * x1 + p.length) = nI y := hr.1
    have hlp : p.length + 1 ≤ 3 := hl
    have g := m_goWith N h hy hs
    have e : okK q c (y :: p) s ↔ stp (q 2 y) (q 2 s) ≤ c 7 := Iff.rfl
    have ei : 4 * x1 + (p.length + 1) - 1 = 4 * x1 + p.length := by omega
    rw [e, show (y :: p).length = p.length + 1 from rfl]
    refine ⟨fun z => ?_, fun z => ?_⟩
    · rw [if_pos z] at g
      rw [X7_fits_l6.eq_def]
      simp (disch := omega) only [if_pos, if_neg, bnd_e, cal_e, chk_t, isZ_0, isZ_1, isZ_n0, isZ_n1, ald_n, ast_n, stb_n, litI, nI_add, pk_mul, pk_sub, Nat.add_sub_cancel, nar_0, nar_1, nI_leI, nI_ltI, nI_eq, Nat.not_lt_zero, Nat.le_zero_eq, Nat.zero_le, not_true_eq_false, not_false_eq_true, reduceIte, if_true, if_false, ite_self, Bool.false_eq_true, Nat.reduceEqDiff, Nat.reduceAdd, Nat.reduceMul, Nat.reduceSub, Nat.reduceLT, Nat.reduceLeDiff, Nat.reducePow, gi_si, gi_sg, gi_sa, gi_sl, ga_si, ga_sg2, ga_sa, ga_sl, gl_si, gl_sg, gl_sa, gl_sl, ei, ey, g]
    · rw [if_neg z] at g
      rw [X7_fits_l6.eq_def]
      simp (disch := omega) only [if_pos, if_neg, bnd_e, cal_e, chk_t, isZ_0, isZ_1, isZ_n0, isZ_n1, ald_n, ast_n, stb_n, litI, nI_add, pk_mul, pk_sub, Nat.add_sub_cancel, nar_0, nar_1, nI_leI, nI_ltI, nI_eq, Nat.not_lt_zero, Nat.le_zero_eq, Nat.zero_le, not_true_eq_false, not_false_eq_true, reduceIte, if_true, if_false, ite_self, Bool.false_eq_true, Nat.reduceEqDiff, Nat.reduceAdd, Nat.reduceMul, Nat.reduceSub, Nat.reduceLT, Nat.reduceLeDiff, Nat.reducePow, gi_si, gi_sg, gi_sa, gi_sl, ga_si, ga_sg2, ga_sa, ga_sl, gl_si, gl_sg, gl_sa, gl_sl, ei, ey, g]
