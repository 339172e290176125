/-! lay: the class gathers the songs that may do -/
def FT (q : Nat → Nat → Nat) (c U W : Nat → Nat) (s : Nat) : Prop := U s + q 0 s ≤ c 0 + c 1 ∧ W (q 1 s) + q 0 s ≤ c 0 + c 1
theorem x_free (N : Nat) {q : Nat → Nat → Nat} {c U W : Nat → Nat} {σ : St} (h : InX q c σ) (hu : UWx c U W σ) {s : Nat} (hs : s < c 8) : (FT q c U W s → X2_isFreeInTime_f N (nI s) σ = some (nI 1, σ)) ∧ (¬ FT q c U W s → X2_isFreeInTime_f N (nI s) σ = some (nI 0, σ)) := by
  obtain ⟨h24, -, h3, -, -, -, g24, g25, g26, -, -, -, c4a, c4b, c0, c1, c2, c9, c3⟩ := id h
  obtain ⟨x4, x5, x6, x25, x8, b1, b2, b3, b4, b5, b6⟩ := h3 s hs
  obtain ⟨u1, u2⟩ := hu.1 s hs
  obtain ⟨w1, w2⟩ := hu.2 (q 1 s) (by omega)
  unfold X2_isFreeInTime_f FT
  by_cases z1 : U s + q 0 s ≤ c 0 + c 1
  · by_cases z2 : W (q 1 s) + q 0 s ≤ c 0 + c 1
    · refine ⟨fun _ => ?_, fun z => absurd ⟨z1, z2⟩ z⟩
      simp (disch := omega) only [if_pos, if_neg, bnd_e, cal_e, chk_t, isZ_0, isZ_1, isZ_n0, isZ_n1, ald_n, ast_n, stb_n, litI, nI_add, pk_mul, pk_sub, Nat.add_sub_cancel, nar_0, nar_1, nI_leI, nI_ltI, nI_eq, Nat.not_lt_zero, Nat.le_zero_eq, Nat.zero_le, not_true_eq_false, not_false_eq_true, reduceIte, if_true, if_false, ite_self, Bool.false_eq_true, Nat.reduceEqDiff, Nat.reduceAdd, Nat.reduceMul, Nat.reduceSub, Nat.reduceLT, Nat.reduceLeDiff, Nat.reducePow, gi_si, gi_sg, gi_sa, gi_sl, ga_si, ga_sg2, ga_sa, ga_sl, gl_si, gl_sg, gl_sa, gl_sl, x4, g25, u1, x5, w1]
    · refine ⟨fun z => absurd z.2 z2, fun _ => ?_⟩
      simp (disch := omega) only [if_pos, if_neg, bnd_e, cal_e, chk_t, isZ_0, isZ_1, isZ_n0, isZ_n1, ald_n, ast_n, stb_n, litI, nI_add, pk_mul, pk_sub, Nat.add_sub_cancel, nar_0, nar_1, nI_leI, nI_ltI, nI_eq, Nat.not_lt_zero, Nat.le_zero_eq, Nat.zero_le, not_true_eq_false, not_false_eq_true, reduceIte, if_true, if_false, ite_self, Bool.false_eq_true, Nat.reduceEqDiff, Nat.reduceAdd, Nat.reduceMul, Nat.reduceSub, Nat.reduceLT, Nat.reduceLeDiff, Nat.reducePow, gi_si, gi_sg, gi_sa, gi_sl, ga_si, ga_sg2, ga_sa, ga_sl, gl_si, gl_sg, gl_sa, gl_sl, x4, g25, u1, x5, w1]
  · refine ⟨fun z => absurd z.1 z1, fun _ => ?_⟩
    simp (disch := omega) only [if_pos, if_neg, bnd_e, cal_e, chk_t, isZ_0, isZ_1, isZ_n0, isZ_n1, ald_n, ast_n, stb_n, litI, nI_add, pk_mul, pk_sub, Nat.add_sub_cancel, nar_0, nar_1, nI_leI, nI_ltI, nI_eq, Nat.not_lt_zero, Nat.le_zero_eq, Nat.zero_le, not_true_eq_false, not_false_eq_true, reduceIte, if_true, if_false, ite_self, Bool.false_eq_true, Nat.reduceEqDiff, Nat.reduceAdd, Nat.reduceMul, Nat.reduceSub, Nat.reduceLT, Nat.reduceLeDiff, Nat.reducePow, gi_si, gi_sg, gi_sa, gi_sl, ga_si, ga_sg2, ga_sa, ga_sl, gl_si, gl_sg, gl_sa, gl_sl, x4, g25, u1, subI_lt]
def FrG (σ σ2 : St) : Prop := (∀ j, j ≠ 17 → j ≠ 18 → j ≠ 19 → gi σ2 j = gi σ j) ∧ (∀ a, a ≠ 28 → a ≠ 29 → ga σ2 a = ga σ a)
theorem FrG_rfl (σ : St) : FrG σ σ := ⟨fun _ _ _ _ => rfl, fun _ _ _ => rfl⟩
theorem FrG_tr {a b f : St} (h : FrG a b) (k : FrG b f) : FrG a f := ⟨fun j j1 j2 j3 => (k.1 j j1 j2 j3).trans (h.1 j j1 j2 j3), fun j j1 j2 => (k.2 j j1 j2).trans (h.2 j j1 j2)⟩
theorem InX_fg {q : Nat → Nat → Nat} {c : Nat → Nat} {σ σ2 : St} (h : InX q c σ) (f : FrG σ σ2) : InX q c σ2 := by
  unfold InX at *
  rw [f.1 9 (by omega) (by omega) (by omega), f.1 20 (by omega) (by omega) (by omega), f.1 21 (by omega) (by omega) (by omega), f.1 22 (by omega) (by omega) (by omega), f.1 24 (by omega) (by omega) (by omega), f.1 25 (by omega) (by omega) (by omega), f.1 26 (by omega) (by omega) (by omega), f.2 4 (by omega) (by omega), f.2 5 (by omega) (by omega), f.2 6 (by omega) (by omega), f.2 25 (by omega) (by omega), f.2 8 (by omega) (by omega)]
  exact h
theorem UWx_fg {c U W : Nat → Nat} {σ σ2 : St} (h : UWx c U W σ) (f : FrG σ σ2) : UWx c U W σ2 := by
  unfold UWx at *
  rw [f.2 26 (by omega) (by omega), f.2 27 (by omega) (by omega)]
  exact h
def Ga (q : Nat → Nat → Nat) (c U W : Nat → Nat) (i m : Nat) (p e : Nat → Nat) (lo ho nw : Nat) (σ : St) : Prop := m ≤ i ∧ gi σ 17 = nI m ∧ gi σ 18 = nI lo ∧ gi σ 19 = nI ho ∧ lo ≤ 900 ∧ ho ≤ 390 ∧ nw ≤ i ∧ (∀ j, j < m → ga σ 28 j = nI (p j) ∧ ga σ 29 j = nI (e j) ∧ p j < i ∧ e j < i ∧ q 5 (p j) = 1 ∧ q 5 (e j) = 1) ∧ (∀ j k, j < k → k < m → p j < p k) ∧ (∀ j k, j < k → k < m → q 0 (e k) < q 0 (e j) ∨ (q 0 (e k) = q 0 (e j) ∧ e j < e k)) ∧ (∀ s, s < i → q 5 s = 1 → FT q c U W s → (∃ j, j < m ∧ p j = s) ∧ (∃ j, j < m ∧ e j = s)) ∧ (∀ j, j < m → q 0 (p j) ≤ lo ∧ q 3 (p j) ≤ ho) ∧ (nw = 0 → ∀ s, s < i → q 5 s = 1 → FT q c U W s → q 4 s = 0)
theorem Ga_no {q : Nat → Nat → Nat} {c U W : Nat → Nat} {i m : Nat} {p e : Nat → Nat} {lo ho nw : Nat} {σ : St} (h : Ga q c U W i m p e lo ho nw σ) (k : ¬ (q 5 i = 1 ∧ FT q c U W i)) : Ga q c U W (i + 1) m p e lo ho nw σ := by
  obtain ⟨h1, h2, h3, h4, h5, h6, h7, h8, h9, h10, h11, h12, h13⟩ := h
  refine ⟨by omega, h2, h3, h4, h5, h6, by omega, fun j hj => ?_, h9, h10, fun s hs s5 sf => ?_, h12, fun z s hs s5 sf => ?_⟩
  · obtain ⟨a1, a2, a3, a4, a5⟩ := h8 j hj
    exact ⟨a1, a2, by omega, by omega, a5⟩
  · by_cases w : s = i
    · rw [w] at s5 sf
      exact absurd ⟨s5, sf⟩ k
    · exact h11 s (by omega) s5 sf
  · by_cases w : s = i
    · rw [w] at s5 sf
      exact absurd ⟨s5, sf⟩ k
    · exact h13 z s (by omega) s5 sf
theorem Ga_in {q : Nat → Nat → Nat} {c U W : Nat → Nat} {i m k : Nat} {p e : Nat → Nat} {lo ho nw : Nat} {σ σ2 : St} (h : Ga q c U W i m p e lo ho nw σ) (q5 : q 5 i = 1) (b2 : q 0 i ≤ 900) (b5 : q 3 i ≤ 390) (b6 : q 4 i ≤ 1) (hk : k ≤ m) (a28 : ga σ2 28 = upd (ga σ 28) m (nI i)) (s1 : ∀ j, j < k → ga σ2 29 j = nI (e j)) (s2 : ga σ2 29 k = nI i) (s3 : ∀ j, k < j → j ≤ m → ga σ2 29 j = nI (e (j - 1))) (s4 : ∀ j, k ≤ j → j < m → q 0 (e j) < q 0 i) (s5 : 0 < k → q 0 i ≤ q 0 (e (k - 1))) (g17 : gi σ2 17 = nI (m + 1)) (g18 : gi σ2 18 = nI (max lo (q 0 i))) (g19 : gi σ2 19 = nI (max ho (q 3 i))) : Ga q c U W (i + 1) (m + 1) (fun j => if j = m then i else p j) (fun j => if j < k then e j else if j = k then i else e (j - 1)) (max lo (q 0 i)) (max ho (q 3 i)) (nw + q 4 i) σ2 := by
  obtain ⟨h1, h2, h3, h4, h5, h6, h7, h8, h9, h10, h11, h12, h13⟩ := h
  refine ⟨by omega, g17, g18, g19, by omega, by omega, by omega, fun j hj => ?_, fun j l j1 j2 => ?_, fun j l j1 j2 => ?_, fun s hs q5s sf => ?_, fun j hj => ?_, fun z s hs q5s sf => ?_⟩
  · have pa : ga σ2 28 j = nI (if j = m then i else p j) ∧ (if j = m then i else p j) < i + 1 ∧ q 5 (if j = m then i else p j) = 1 := by
      rw [a28, upd_e]
      by_cases w : j = m
      · rw [if_pos w, if_pos w]
        exact ⟨rfl, by omega, q5⟩
      · rw [if_neg w, if_neg w]
        obtain ⟨a1, a2, a3, a4, a5, a6⟩ := h8 j (by omega)
        exact ⟨a1, by omega, a5⟩
    have ea : ga σ2 29 j = nI (if j < k then e j else if j = k then i else e (j - 1)) ∧ (if j < k then e j else if j = k then i else e (j - 1)) < i + 1 ∧ q 5 (if j < k then e j else if j = k then i else e (j - 1)) = 1 := by
      by_cases w : j < k
      · rw [if_pos w]
        obtain ⟨a1, a2, a3, a4, a5, a6⟩ := h8 j (by omega)
        exact ⟨s1 j w, by omega, a6⟩
      · rw [if_neg w]
        by_cases v : j = k
        · rw [if_pos v, v]
          exact ⟨s2, by omega, q5⟩
        · rw [if_neg v]
          obtain ⟨a1, a2, a3, a4, a5, a6⟩ := h8 (j - 1) (by omega)
          exact ⟨s3 j (by omega) (by omega), by omega, a6⟩
    exact ⟨pa.1, ea.1, pa.2.1, ea.2.1, pa.2.2, ea.2.2⟩
  · show (if j = m then i else p j) < (if l = m then i else p l)
    rw [if_neg (by omega)]
    by_cases w : l = m
    · rw [if_pos w]
      exact (h8 j (by omega)).2.2.1
    · rw [if_neg w]
      exact h9 j l j1 (by omega)
  · show q 0 (if l < k then e l else if l = k then i else e (l - 1)) < q 0 (if j < k then e j else if j = k then i else e (j - 1)) ∨ (q 0 (if l < k then e l else if l = k then i else e (l - 1)) = q 0 (if j < k then e j else if j = k then i else e (j - 1)) ∧ (if j < k then e j else if j = k then i else e (j - 1)) < (if l < k then e l else if l = k then i else e (l - 1)))
    by_cases w : j < k
    · rw [if_pos w]
      by_cases v : l < k
      · rw [if_pos v]
        exact h10 j l j1 (by omega)
      · rw [if_neg v]
        by_cases u : l = k
        · rw [if_pos u]
          have t1 := s5 (by omega)
          have t2 := (h8 j (by omega)).2.2.2.1
          by_cases t : j = k - 1
          · rw [← t] at t1
            omega
          · have t3 := h10 j (k - 1) (by omega) (by omega)
            omega
        · rw [if_neg u]
          exact h10 j (l - 1) (by omega) (by omega)
    · rw [if_neg w, if_neg (show ¬ l < k by omega), if_neg (show ¬ l = k by omega)]
      by_cases u : j = k
      · rw [if_pos u]
        exact Or.inl (s4 (l - 1) (by omega) (by omega))
      · rw [if_neg u]
        exact h10 (j - 1) (l - 1) (by omega) (by omega)
  · by_cases w : s = i
    · exact ⟨⟨m, by omega, (if_pos rfl).trans w.symm⟩, ⟨k, by omega, ((if_neg (Nat.lt_irrefl k)).trans (if_pos rfl)).trans w.symm⟩⟩
    · obtain ⟨⟨j, j1, j2⟩, ⟨l, l1, l2⟩⟩ := h11 s (by omega) q5s sf
      refine ⟨⟨j, by omega, (if_neg (show ¬ j = m by omega)).trans j2⟩, ?_⟩
      by_cases v : l < k
      · exact ⟨l, by omega, (if_pos v).trans l2⟩
      · exact ⟨l + 1, by omega, ((if_neg (show ¬ l + 1 < k by omega)).trans (if_neg (show ¬ l + 1 = k by omega))).trans l2⟩
  · show q 0 (if j = m then i else p j) ≤ _ ∧ q 3 (if j = m then i else p j) ≤ _
    by_cases w : j = m
    · rw [if_pos w]
      omega
    · rw [if_neg w]
      have := h12 j (by omega)
      omega
  · by_cases w : s = i
    · rw [w]
      omega
    · exact h13 (by omega) s (by omega) q5s sf
theorem gath (N : Nat) (hN : 60000 < N) {q : Nat → Nat → Nat} {c U W : Nat → Nat} {x2 : Int32} : ∀ (d i n : Nat) (σ : St) (m : Nat) (p e : Nat → Nat) (lo ho nw : Nat), InX q c σ → UWx c U W σ → (∀ s, s < c 8 → (q 5 s = 1 ↔ (x2 = -nI 1 ∨ ga σ 7 s = x2))) → Ga q c U W i m p e lo ho nw σ → i + d = c 8 → d < n → ∃ (σ2 : St) (m : Nat) (p e : Nat → Nat) (lo ho nw2 : Nat), X2_gather_l20 N n x2 (nI nw) (nI i) σ = X2_gather_l20 N 1 x2 (nI nw2) (nI (c 8)) σ2 ∧ Ga q c U W (c 8) m p e lo ho nw2 σ2 ∧ FrG σ σ2
  | _, _, 0, _, _, _, _, _, _, _, _, _, _, _, _, h => absurd h (by omega)
  | 0, i, n + 1, σ, m, p, e, lo, ho, nw, h, hu, hmd, hg, h1, h2 => by
    obtain rfl : i = c 8 := by omega
    refine ⟨σ, m, p, e, lo, ho, nw, ?_, hg, FrG_rfl σ⟩
    have h24 := h.1
    have e9 := h.2.1
    rw [X2_gather_l20.eq_def, X2_gather_l20.eq_def N 1]
    simp only [e9, if_pos (nI_le (Nat.le_refl (c 8)) (by omega : c 8 < 2 ^ 31))]
  | d + 1, i, n + 1, σ, m, p, e, lo, ho, nw, h, hu, hmd, hg, h1, h2 => by
    have h24 := h.1
    have e9 := h.2.1
    have hi : i < c 8 := by omega
    obtain ⟨x4, x5, x6, x25, x8, b1, b2, b3, b4, b5, b6⟩ := h.2.2.1 i hi
    have go : ∀ (σ2 : St) (m2 : Nat) (p2 e2 : Nat → Nat) (lo2 ho2 nw2 : Nat), X2_gather_l20 N (n + 1) x2 (nI nw) (nI i) σ = X2_gather_l20 N n x2 (nI nw2) (nI (i + 1)) σ2 → Ga q c U W (i + 1) m2 p2 e2 lo2 ho2 nw2 σ2 → FrG σ σ2 → ∃ (σ2 : St) (m : Nat) (p e : Nat → Nat) (lo ho nw2 : Nat), X2_gather_l20 N (n + 1) x2 (nI nw) (nI i) σ = X2_gather_l20 N 1 x2 (nI nw2) (nI (c 8)) σ2 ∧ Ga q c U W (c 8) m p e lo ho nw2 σ2 ∧ FrG σ σ2 := fun σ2 m2 p2 e2 lo2 ho2 nw2 k1 k2 k3 => by
      obtain ⟨σ3, m3, p3, e3, lo3, ho3, nw3, s1, s2, s3⟩ := gath N hN d (i + 1) n σ2 m2 p2 e2 lo2 ho2 nw2 (InX_fg h k3) (UWx_fg hu k3) (fun s hs => by
        rw [k3.2 7 (by omega) (by omega)]
        exact hmd s hs) k2 (by omega) (by omega)
      exact ⟨σ3, m3, p3, e3, lo3, ho3, nw3, k1.trans s1, s2, FrG_tr k3 s3⟩
    have st : q 5 i = 1 → X2_gather_l20 N (n + 1) x2 (nI nw) (nI i) σ = X2_gather_l45 N (X2_gather_l20 N n) x2 (nI nw) (nI i) σ := fun q5 => by
      rw [X2_gather_l20.eq_def]
      rcases (hmd i hi).mp q5 with w | w
      · simp (disch := omega) only [if_pos, if_neg, bnd_e, cal_e, chk_t, isZ_0, isZ_1, isZ_n0, isZ_n1, ald_n, ast_n, stb_n, litI, nI_add, pk_mul, pk_sub, Nat.add_sub_cancel, nar_0, nar_1, nI_leI, nI_ltI, nI_eq, Nat.not_lt_zero, Nat.le_zero_eq, Nat.zero_le, not_true_eq_false, not_false_eq_true, reduceIte, if_true, if_false, ite_self, Bool.false_eq_true, Nat.reduceEqDiff, Nat.reduceAdd, Nat.reduceMul, Nat.reduceSub, Nat.reduceLT, Nat.reduceLeDiff, Nat.reducePow, gi_si, gi_sg, gi_sa, gi_sl, ga_si, ga_sg2, ga_sa, ga_sl, gl_si, gl_sg, gl_sa, gl_sl, e9]
      · by_cases v : x2 = -nI 1
        · simp (disch := omega) only [if_pos, if_neg, bnd_e, cal_e, chk_t, isZ_0, isZ_1, isZ_n0, isZ_n1, ald_n, ast_n, stb_n, litI, nI_add, pk_mul, pk_sub, Nat.add_sub_cancel, nar_0, nar_1, nI_leI, nI_ltI, nI_eq, Nat.not_lt_zero, Nat.le_zero_eq, Nat.zero_le, not_true_eq_false, not_false_eq_true, reduceIte, if_true, if_false, ite_self, Bool.false_eq_true, Nat.reduceEqDiff, Nat.reduceAdd, Nat.reduceMul, Nat.reduceSub, Nat.reduceLT, Nat.reduceLeDiff, Nat.reducePow, gi_si, gi_sg, gi_sa, gi_sl, ga_si, ga_sg2, ga_sa, ga_sl, gl_si, gl_sg, gl_sa, gl_sl, e9]
        · simp (disch := omega) only [if_pos, if_neg, bnd_e, cal_e, chk_t, isZ_0, isZ_1, isZ_n0, isZ_n1, ald_n, ast_n, stb_n, litI, nI_add, pk_mul, pk_sub, Nat.add_sub_cancel, nar_0, nar_1, nI_leI, nI_ltI, nI_eq, Nat.not_lt_zero, Nat.le_zero_eq, Nat.zero_le, not_true_eq_false, not_false_eq_true, reduceIte, if_true, if_false, ite_self, Bool.false_eq_true, Nat.reduceEqDiff, Nat.reduceAdd, Nat.reduceMul, Nat.reduceSub, Nat.reduceLT, Nat.reduceLeDiff, Nat.reducePow, gi_si, gi_sg, gi_sa, gi_sl, ga_si, ga_sg2, ga_sa, ga_sl, gl_si, gl_sg, gl_sa, gl_sl, e9]
    have fx := x_free N h hu hi
    by_cases z : q 5 i = 1
    · by_cases y : FT q c U W i
      · obtain ⟨g1, g2, g3, g4, g5, g6, g7, g8, g9, g10, g11, g12, g13⟩ := id hg
        obtain ⟨k, σ3, a1, a2, a3, a4, a5, a6, a7, a8, a9⟩ := sortL N (q := q) (c := c) (m := m) (s := i) (e := e) h24 hi (by omega) (fun j hj => by have := (g8 j hj).2.2.2.1; omega) (fun s hs => (h.2.2.1 s hs).2.2.2.2.2.2.1) m N (sa σ 28 m (nI i)) (fun s hs => (h.2.2.1 s hs).1) (Nat.le_refl m) (by omega) (fun j hj => (g8 j hj).2.1) (fun j j1 j2 => absurd j1 (by omega)) (fun j j1 j2 => absurd j1 (by omega))
        have so : X2_sortIn_f N (nI i) (sa σ 28 m (nI i)) = some (nI 0, σ3) := by
          unfold X2_sortIn_f
          simp (disch := omega) only [if_pos, if_neg, bnd_e, cal_e, chk_t, isZ_0, isZ_1, isZ_n0, isZ_n1, ald_n, ast_n, stb_n, litI, nI_add, pk_mul, pk_sub, Nat.add_sub_cancel, nar_0, nar_1, nI_leI, nI_ltI, nI_eq, Nat.not_lt_zero, Nat.le_zero_eq, Nat.zero_le, not_true_eq_false, not_false_eq_true, reduceIte, if_true, if_false, ite_self, Bool.false_eq_true, Nat.reduceEqDiff, Nat.reduceAdd, Nat.reduceMul, Nat.reduceSub, Nat.reduceLT, Nat.reduceLeDiff, Nat.reducePow, gi_si, gi_sg, gi_sa, gi_sl, ga_si, ga_sg2, ga_sa, ga_sl, gl_si, gl_sg, gl_sa, gl_sl, g2]
          exact a1
        have c17 : gi σ3 17 = nI m := (a8 17).trans g2
        have c18 : gi σ3 18 = nI lo := (a8 18).trans g3
        have c19 : gi σ3 19 = nI ho := (a8 19).trans g4
        have c4 : ga σ3 4 i = nI (q 0 i) := by rw [a9 4 (by omega)]; exact x4
        have c25 : ga σ3 25 i = nI (q 3 i) := by rw [a9 25 (by omega)]; exact x25
        have c8e : ga σ3 8 i = nI (q 4 i) := by rw [a9 8 (by omega)]; exact x8
        refine go (si (si (si σ3 17 (nI (m + 1))) 18 (nI (max lo (q 0 i)))) 19 (nI (max ho (q 3 i)))) (m + 1) _ _ (max lo (q 0 i)) (max ho (q 3 i)) (nw + q 4 i) ?_ (Ga_in hg z b2 b5 b6 a2 ?_ a3 a4 a5 a6 a7 rfl rfl rfl) ⟨fun j j1 j2 j3 => ?_, fun a o1 o2 => ?_⟩
        · rw [st z]
          unfold X2_gather_l45 X2_gather_l129
          simp (disch := omega) only [if_pos, if_neg, bnd_e, cal_e, chk_t, isZ_0, isZ_1, isZ_n0, isZ_n1, ald_n, ast_n, stb_n, litI, nI_add, pk_mul, pk_sub, Nat.add_sub_cancel, nar_0, nar_1, nI_leI, nI_ltI, nI_eq, Nat.not_lt_zero, Nat.le_zero_eq, Nat.zero_le, not_true_eq_false, not_false_eq_true, reduceIte, if_true, if_false, ite_self, Bool.false_eq_true, Nat.reduceEqDiff, Nat.reduceAdd, Nat.reduceMul, Nat.reduceSub, Nat.reduceLT, Nat.reduceLeDiff, Nat.reducePow, gi_si, gi_sg, gi_sa, gi_sl, ga_si, ga_sg2, ga_sa, ga_sl, gl_si, gl_sg, gl_sa, gl_sl, fx.1 y, g2, so, c17, c18, c19, c4, c25, c8e, imax_n]
        · show ga σ3 28 = _
          rw [a9 28 (by omega), ga_sa, if_pos rfl]
        · rw [gi_si, if_neg j3, gi_si, if_neg j2, gi_si, if_neg j1, a8 j]
          rfl
        · show ga σ3 a = ga σ a
          rw [a9 a o2, ga_sa, if_neg o1]
      · refine go σ m p e lo ho nw ?_ (Ga_no hg (fun w => y w.2)) (FrG_rfl σ)
        rw [st z]
        unfold X2_gather_l45 X2_gather_l129
        simp (disch := omega) only [if_pos, if_neg, bnd_e, cal_e, chk_t, isZ_0, isZ_1, isZ_n0, isZ_n1, ald_n, ast_n, stb_n, litI, nI_add, pk_mul, pk_sub, Nat.add_sub_cancel, nar_0, nar_1, nI_leI, nI_ltI, nI_eq, Nat.not_lt_zero, Nat.le_zero_eq, Nat.zero_le, not_true_eq_false, not_false_eq_true, reduceIte, if_true, if_false, ite_self, Bool.false_eq_true, Nat.reduceEqDiff, Nat.reduceAdd, Nat.reduceMul, Nat.reduceSub, Nat.reduceLT, Nat.reduceLeDiff, Nat.reducePow, gi_si, gi_sg, gi_sa, gi_sl, ga_si, ga_sg2, ga_sa, ga_sl, gl_si, gl_sg, gl_sa, gl_sl, fx.2 y]
    · refine go σ m p e lo ho nw ?_ (Ga_no hg (fun w => z w.1)) (FrG_rfl σ)
      have y1 : ¬ x2 = -nI 1 := fun w => z ((hmd i hi).mpr (Or.inl w))
      have y2 : ¬ ga σ 7 i = x2 := fun w => z ((hmd i hi).mpr (Or.inr w))
      rw [X2_gather_l20.eq_def]
      unfold X2_gather_l129
      simp (disch := omega) only [if_pos, if_neg, bnd_e, cal_e, chk_t, isZ_0, isZ_1, isZ_n0, isZ_n1, ald_n, ast_n, stb_n, litI, nI_add, pk_mul, pk_sub, Nat.add_sub_cancel, nar_0, nar_1, nI_leI, nI_ltI, nI_eq, Nat.not_lt_zero, Nat.le_zero_eq, Nat.zero_le, not_true_eq_false, not_false_eq_true, reduceIte, if_true, if_false, ite_self, Bool.false_eq_true, Nat.reduceEqDiff, Nat.reduceAdd, Nat.reduceMul, Nat.reduceSub, Nat.reduceLT, Nat.reduceLeDiff, Nat.reducePow, gi_si, gi_sg, gi_sa, gi_sl, ga_si, ga_sg2, ga_sa, ga_sl, gl_si, gl_sg, gl_sa, gl_sl, e9]
theorem Ga_ad {q : Nat → Nat → Nat} {c U W : Nat → Nat} {lg : Nat → Nat → Prop} (hfr : Fre q c lg U W []) {r : List Nat} (h : Ad q c lg r) : ∀ x, x ∈ r → x < c 8 ∧ q 5 x = 1 ∧ FT q c U W x := fun x hx => by
  obtain ⟨r2, k1, k2, k3, k4, k5⟩ := Fs_mem r h.1 hx
  have f := (hfr x k1 (c 0 + sm (q 0) r2) (by show c 0 + 0 ≤ _; omega)).mpr ⟨k4, trivial⟩
  refine ⟨k1, k2, ?_, ?_⟩
  · omega
  · omega
/-- THE CLASS: gather -/
theorem x_gather (N : Nat) (hN : 60000 < N) {q : Nat → Nat → Nat} {c U W : Nat → Nat} {lg : Nat → Nat → Prop} {x2 : Int32} {σ : St} (h : InX q c σ) (hu : UWx c U W σ) (hmd : ∀ s, s < c 8 → (q 5 s = 1 ↔ (x2 = -nI 1 ∨ ga σ 7 s = x2))) (hfr : Fre q c lg U W []) : ∃ (σ2 : St) (m : Nat) (p e : Nat → Nat), X2_gather_f N x2 σ = some (nI 0, σ2) ∧ Po q c lg m p e σ2 ∧ FrG σ σ2 := by
  have h24 := h.1
  have fr0 : FrG σ (si (si (si σ 17 (nI 0)) 18 (nI 0)) 19 (nI 0)) := ⟨fun j j1 j2 j3 => by rw [gi_si, if_neg j3, gi_si, if_neg j2, gi_si, if_neg j1], fun _ _ _ => rfl⟩
  obtain ⟨σ2, m, p, e, lo, ho, nw, a1, a2, a3⟩ := gath N hN (c 8) 0 N (si (si (si σ 17 (nI 0)) 18 (nI 0)) 19 (nI 0)) 0 (fun _ => 0) (fun _ => 0) 0 0 0 (InX_fg h fr0) (UWx_fg hu fr0) hmd ⟨by omega, rfl, rfl, rfl, by omega, by omega, by omega, fun j hj => absurd hj (by omega), fun j k _ hj => absurd hj (by omega), fun j k _ hj => absurd hj (by omega), fun s hs => absurd hs (by omega), fun j hj => absurd hj (by omega), fun _ s hs => absurd hs (by omega)⟩ (by omega) (by omega)
  have fr := FrG_tr fr0 a3
  have e9 : gi σ2 9 = nI (c 8) := by rw [fr.1 9 (by omega) (by omega) (by omega)]; exact h.2.1
  have g26 : gi σ2 26 = nI (c 2) := by rw [fr.1 26 (by omega) (by omega) (by omega)]; exact h.2.2.2.2.2.2.2.2.1
  have hc2 : c 2 ≤ 4 := h.2.2.2.2.2.2.2.2.2.2.2.2.2.2.2.2.1
  have st : X2_gather_f N x2 σ = X2_gather_l20 N 1 x2 (nI nw) (nI (c 8)) σ2 := by
    rw [← a1]
    unfold X2_gather_f
    simp (disch := omega) only [if_pos, if_neg, bnd_e, cal_e, chk_t, isZ_0, isZ_1, isZ_n0, isZ_n1, ald_n, ast_n, stb_n, litI, nI_add, pk_mul, pk_sub, Nat.add_sub_cancel, nar_0, nar_1, nI_leI, nI_ltI, nI_eq, Nat.not_lt_zero, Nat.le_zero_eq, Nat.zero_le, not_true_eq_false, not_false_eq_true, reduceIte, if_true, if_false, ite_self, Bool.false_eq_true, Nat.reduceEqDiff, Nat.reduceAdd, Nat.reduceMul, Nat.reduceSub, Nat.reduceLT, Nat.reduceLeDiff, Nat.reducePow, gi_si, gi_sg, gi_sa, gi_sl, ga_si, ga_sg2, ga_sa, ga_sl, gl_si, gl_sg, gl_sa, gl_sl]
  rw [st, X2_gather_l20.eq_def]
  obtain ⟨g1, g2, g3, g4, g5, g6, g7, g8, g9, g10, g11, g12, g13⟩ := a2
  have po : Po q c lg m p e σ2 := ⟨g1, g2, g8, g9, g10, fun r hr x hx => by
    obtain ⟨k1, k2, k3⟩ := Ga_ad hfr hr x hx
    exact g11 x k1 k2 k3, lo, ho, g5, g6, g3, g4, g12⟩
  by_cases z : c 2 = 0
  · refine ⟨σ2, m, p, e, ?_, po, fr⟩
    simp (disch := omega) only [if_pos, if_neg, bnd_e, cal_e, chk_t, isZ_0, isZ_1, isZ_n0, isZ_n1, ald_n, ast_n, stb_n, litI, nI_add, pk_mul, pk_sub, Nat.add_sub_cancel, nar_0, nar_1, nI_leI, nI_ltI, nI_eq, Nat.not_lt_zero, Nat.le_zero_eq, Nat.zero_le, not_true_eq_false, not_false_eq_true, reduceIte, if_true, if_false, ite_self, Bool.false_eq_true, Nat.reduceEqDiff, Nat.reduceAdd, Nat.reduceMul, Nat.reduceSub, Nat.reduceLT, Nat.reduceLeDiff, Nat.reducePow, gi_si, gi_sg, gi_sa, gi_sl, ga_si, ga_sg2, ga_sa, ga_sl, gl_si, gl_sg, gl_sa, gl_sl, e9, g26, z]
  · by_cases y : nw = 0
    · refine ⟨si σ2 17 (nI 0), 0, p, e, ?_, ⟨by omega, rfl, fun j hj => absurd hj (by omega), fun j k _ hj => absurd hj (by omega), fun j k _ hj => absurd hj (by omega), fun r hr x hx => ?_, lo, ho, g5, g6, g3, g4, fun j hj => absurd hj (by omega)⟩, fun j j1 j2 j3 => by rw [gi_si, if_neg j1]; exact fr.1 j j1 j2 j3, fr.2⟩
      · rw [y]
        simp (disch := omega) only [if_pos, if_neg, bnd_e, cal_e, chk_t, isZ_0, isZ_1, isZ_n0, isZ_n1, ald_n, ast_n, stb_n, litI, nI_add, pk_mul, pk_sub, Nat.add_sub_cancel, nar_0, nar_1, nI_leI, nI_ltI, nI_eq, Nat.not_lt_zero, Nat.le_zero_eq, Nat.zero_le, not_true_eq_false, not_false_eq_true, reduceIte, if_true, if_false, ite_self, Bool.false_eq_true, Nat.reduceEqDiff, Nat.reduceAdd, Nat.reduceMul, Nat.reduceSub, Nat.reduceLT, Nat.reduceLeDiff, Nat.reducePow, gi_si, gi_sg, gi_sa, gi_sl, ga_si, ga_sg2, ga_sa, ga_sl, gl_si, gl_sg, gl_sa, gl_sl, e9, g26]
      · have s0 := sm_le (f := q 4) (m := 0) r (fun x hx => by
          obtain ⟨k1, k2, k3⟩ := Ga_ad hfr hr x hx
          rw [g13 y x k1 k2 k3]
          exact Nat.le_refl 0)
        have := hr.2.2.2.2
        omega
    · refine ⟨σ2, m, p, e, ?_, po, fr⟩
      simp (disch := omega) only [if_pos, if_neg, bnd_e, cal_e, chk_t, isZ_0, isZ_1, isZ_n0, isZ_n1, ald_n, ast_n, stb_n, litI, nI_add, pk_mul, pk_sub, Nat.add_sub_cancel, nar_0, nar_1, nI_leI, nI_ltI, nI_eq, Nat.not_lt_zero, Nat.le_zero_eq, Nat.zero_le, not_true_eq_false, not_false_eq_true, reduceIte, if_true, if_false, ite_self, Bool.false_eq_true, Nat.reduceEqDiff, Nat.reduceAdd, Nat.reduceMul, Nat.reduceSub, Nat.reduceLT, Nat.reduceLeDiff, Nat.reducePow, gi_si, gi_sg, gi_sa, gi_sl, ga_si, ga_sg2, ga_sa, ga_sl, gl_si, gl_sg, gl_sa, gl_sl, e9, g26]
