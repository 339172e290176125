/-! words: the class spells, the reference counts to the base 27 -/
theorem cd_inj {b c : Nat → Nat} {f g : Nat} : ∀ n m, (∀ i, i < n → 97 ≤ b (f + i) ∧ b (f + i) ≤ 122) → (∀ i, i < m → 97 ≤ c (g + i) ∧ c (g + i) ≤ 122) → cd b f n = cd c g m → n = m ∧ ∀ i, i < n → b (f + i) = c (g + i)
  | 0, 0, _, _, _ => ⟨rfl, fun i hi => absurd hi (by omega)⟩
  | 0, m + 1, _, h2, e => by
    have q := h2 m (by omega)
    have e2 : 0 = 27 * cd c g m + (c (g + m) - 96) := e
    omega
  | n + 1, 0, h1, _, e => by
    have q := h1 n (by omega)
    have e2 : 27 * cd b f n + (b (f + n) - 96) = 0 := e
    omega
  | n + 1, m + 1, h1, h2, e => by
    have q1 := h1 n (by omega)
    have q2 := h2 m (by omega)
    have e2 : 27 * cd b f n + (b (f + n) - 96) = 27 * cd c g m + (c (g + m) - 96) := e
    obtain ⟨r1, r2⟩ := cd_inj n m (fun i hi => h1 i (by omega)) (fun i hi => h2 i (by omega)) (by omega)
    refine ⟨by omega, fun i hi => ?_⟩
    by_cases z : i = n
    · rw [z]
      subst r1
      omega
    · exact r2 i (by omega)
theorem cd_eq {b c : Nat → Nat} {f g : Nat} : ∀ n, (∀ i, i < n → b (f + i) = c (g + i)) → cd b f n = cd c g n
  | 0, _ => rfl
  | n + 1, h => by
    show 27 * cd b f n + (b (f + n) - 96) = 27 * cd c g n + (c (g + n) - 96)
    rw [cd_eq n (fun i hi => h i (by omega)), h n (by omega)]
def kb (i j : Nat) : Nat := ((bytS.getD i []).getD j 0).toNatClampNeg
def kl (i : Nat) : Nat := lenS.getD i 0
def isKw (i : Nat) : Bool := i == 0 || i == 1 || i == 2 || i == 3 || i == 4 || i == 6 || i == 7 || i == 8 || i == 9
theorem kw_f : ∀ i, i < 10 → isKw i = true → 0 < kl i ∧ kl i ≤ 6 ∧ ∀ j, j < kl i → 97 ≤ kb i j ∧ kb i j ≤ 122 ∧ chS i j = nI (kb i j) := by decide
theorem word_l (N : Nat) {T f i : Nat} {bt : Nat → Nat} {σ : St} (hi : i < 10) (hk : isKw i = true) (hT : T ≤ 260) (hf : gi σ 6 = nI f) (hfe : f + kl i ≤ T) (hb : ∀ j, j < 260 → bt j < 256 ∧ ga σ 0 j = (nI (bt j)).toInt8.toInt32) : ∀ d x n, x + d = kl i → d < n → (∀ j, j < x → bt (f + j) = kb i j) → ∃ r : Nat, X5_isWord_l28 N n i (nI x) σ = some (nI r, σ) ∧ ((r = 1 ∧ ∀ j, j < kl i → bt (f + j) = kb i j) ∨ (r = 0 ∧ ∃ j, j < kl i ∧ bt (f + j) ≠ kb i j))
  | d, x, 0, _, h2, _ => absurd h2 (by omega)
  | 0, x, n + 1, h1, h2, h3 => by
    have q := (kw_f i hi hk).2.1
    refine ⟨1, ?_, Or.inl ⟨rfl, fun j hj => h3 j (by omega)⟩⟩
    rw [X5_isWord_l28.eq_def]
    have e : lenS.getD i 0 = kl i := rfl
    simp (disch := omega) only [if_pos, if_neg, bnd_e, cal_e, chk_t, isZ_0, isZ_1, isZ_n0, isZ_n1, ald_n, ast_n, stb_n, litI, nI_add, pk_mul, pk_sub, Nat.add_sub_cancel, nar_0, nar_1, nI_leI, nI_ltI, nI_eq, Nat.not_lt_zero, Nat.le_zero_eq, Nat.zero_le, not_true_eq_false, not_false_eq_true, reduceIte, if_true, if_false, ite_self, Bool.false_eq_true, Nat.reduceEqDiff, Nat.reduceAdd, Nat.reduceMul, Nat.reduceSub, Nat.reduceLT, Nat.reduceLeDiff, Nat.reducePow, gi_si, gi_sg, gi_sa, gi_sl, ga_si, ga_sg2, ga_sa, ga_sl, gl_si, gl_sg, gl_sa, gl_sl, e]
  | d + 1, x, n + 1, h1, h2, h3 => by
    obtain ⟨q1, q2, q3⟩ := kw_f i hi hk
    obtain ⟨w1, w2, w3⟩ := q3 x (by omega)
    have e : lenS.getD i 0 = kl i := rfl
    obtain ⟨b1, b2⟩ := hb (f + x) (by omega)
    have k := sb_eq b1 (c := kb i x) (by omega)
    by_cases z : bt (f + x) = kb i x
    · obtain ⟨r, r1, r2⟩ := word_l N hi hk hT hf hfe hb d (x + 1) n (by omega) (by omega) (fun j hj => by
        by_cases y : j = x
        · rw [y]; exact z
        · exact h3 j (by omega))
      refine ⟨r, ?_, r2⟩
      rw [← r1, X5_isWord_l28.eq_def]
      simp (disch := omega) only [if_pos, if_neg, bnd_e, cal_e, chk_t, isZ_0, isZ_1, isZ_n0, isZ_n1, ald_n, ast_n, stb_n, litI, nI_add, pk_mul, pk_sub, Nat.add_sub_cancel, nar_0, nar_1, nI_leI, nI_ltI, nI_eq, Nat.not_lt_zero, Nat.le_zero_eq, Nat.zero_le, not_true_eq_false, not_false_eq_true, reduceIte, if_true, if_false, ite_self, Bool.false_eq_true, Nat.reduceEqDiff, Nat.reduceAdd, Nat.reduceMul, Nat.reduceSub, Nat.reduceLT, Nat.reduceLeDiff, Nat.reducePow, gi_si, gi_sg, gi_sa, gi_sl, ga_si, ga_sg2, ga_sa, ga_sl, gl_si, gl_sg, gl_sa, gl_sl, e, hf, b2, k.mpr z, w3]
    · refine ⟨0, ?_, Or.inr ⟨rfl, x, by omega, z⟩⟩
      rw [X5_isWord_l28.eq_def]
      have z2 : ¬ (nI (bt (f + x))).toInt8.toInt32 = nI (kb i x) := fun y => z (k.mp y)
      simp (disch := omega) only [if_pos, if_neg, bnd_e, cal_e, chk_t, isZ_0, isZ_1, isZ_n0, isZ_n1, ald_n, ast_n, stb_n, litI, nI_add, pk_mul, pk_sub, Nat.add_sub_cancel, nar_0, nar_1, nI_leI, nI_ltI, nI_eq, Nat.not_lt_zero, Nat.le_zero_eq, Nat.zero_le, not_true_eq_false, not_false_eq_true, reduceIte, if_true, if_false, ite_self, Bool.false_eq_true, Nat.reduceEqDiff, Nat.reduceAdd, Nat.reduceMul, Nat.reduceSub, Nat.reduceLT, Nat.reduceLeDiff, Nat.reducePow, gi_si, gi_sg, gi_sa, gi_sl, ga_si, ga_sg2, ga_sa, ga_sl, gl_si, gl_sg, gl_sa, gl_sl, e, hf, b2, z2, w3]
theorem cmp_0 {x y : Int64} : lg_cmp x y = 0 ↔ x = y := by
  constructor
  · intro h
    unfold lg_cmp at h
    by_cases q : x > y
    · rw [if_pos q] at h
      exact absurd h (by decide)
    · rw [if_neg q] at h
      by_cases q2 : x = y
      · exact q2
      · rw [if_neg q2] at h
        exact absurd h (by decide)
  · intro h
    rw [h]
    exact lg_cmp_self y
theorem word_both (N : Nat) (hN : 260 < N) {T L i : Nat} {bt : Nat → Nat} {σx σm : St} (hi : i < 10) (hk : isKw i = true) (c : PC T L bt σx σm) (t : Tk T bt σx σm) : ∃ r : Nat, r ≤ 1 ∧ X5_isWord_f N i σx = some (nI r, σx) ∧ X7_isKey_f N (lN (cd (kb i) 0 (kl i))) σm = some (nI r, σm) ∧ (r = 1 → gi σm 6 = nI 2) := by
  obtain ⟨c1, c2, c3, c4, c5, c6, c7⟩ := c
  obtain ⟨k1, k2, k3⟩ := kw_f i hi hk
  obtain ⟨f, e, t1, t2, t3, t4⟩ := t
  have no : ∀ a b : Nat, a ≤ 4 → b ≤ 4 → a ≠ 2 → b ≠ 2 → gi σx 3 = nI a → gi σm 6 = nI b → ∃ r : Nat, r ≤ 1 ∧ X5_isWord_f N i σx = some (nI r, σx) ∧ X7_isKey_f N (lN (cd (kb i) 0 (kl i))) σm = some (nI r, σm) ∧ (r = 1 → gi σm 6 = nI 2) := by
    intro a b a4 b4 a2 b2 ea eb
    refine ⟨0, by omega, ?_, ?_, fun z => absurd z (by omega)⟩
    · unfold X5_isWord_f
      simp (disch := omega) only [if_pos, if_neg, bnd_e, cal_e, chk_t, isZ_0, isZ_1, isZ_n0, isZ_n1, ald_n, ast_n, stb_n, litI, nI_add, pk_mul, pk_sub, Nat.add_sub_cancel, nar_0, nar_1, nI_leI, nI_ltI, nI_eq, Nat.not_lt_zero, Nat.le_zero_eq, Nat.zero_le, not_true_eq_false, not_false_eq_true, reduceIte, if_true, if_false, ite_self, Bool.false_eq_true, Nat.reduceEqDiff, Nat.reduceAdd, Nat.reduceMul, Nat.reduceSub, Nat.reduceLT, Nat.reduceLeDiff, Nat.reducePow, gi_si, gi_sg, gi_sa, gi_sl, ga_si, ga_sg2, ga_sa, ga_sl, gl_si, gl_sg, gl_sa, gl_sl, ea]
    · unfold X7_isKey_f
      simp (disch := omega) only [if_pos, if_neg, bnd_e, cal_e, chk_t, isZ_0, isZ_1, isZ_n0, isZ_n1, ald_n, ast_n, stb_n, litI, nI_add, pk_mul, pk_sub, Nat.add_sub_cancel, nar_0, nar_1, nI_leI, nI_ltI, nI_eq, Nat.not_lt_zero, Nat.le_zero_eq, Nat.zero_le, not_true_eq_false, not_false_eq_true, reduceIte, if_true, if_false, ite_self, Bool.false_eq_true, Nat.reduceEqDiff, Nat.reduceAdd, Nat.reduceMul, Nat.reduceSub, Nat.reduceLT, Nat.reduceLeDiff, Nat.reducePow, gi_si, gi_sg, gi_sa, gi_sl, ga_si, ga_sg2, ga_sa, ga_sl, gl_si, gl_sg, gl_sa, gl_sl, eb]
  rcases t4 with ⟨z1, z2⟩ | ⟨z1, z2, z3⟩ | ⟨z0, zx, zm, ⟨z1, z2, z3, z4, z5⟩ | ⟨z1, z2, z3⟩ | ⟨z1, z2⟩⟩
  · exact no 0 1 (by omega) (by omega) (by omega) (by omega) z1 z2
  · exact no 1 0 (by omega) (by omega) (by omega) (by omega) z1 z2
  · have hKlt : cd (kb i) 0 (kl i) < 27 ^ 7 := Nat.lt_of_lt_of_le (cd_lt (kl i) (fun j hj => by rw [Nat.zero_add]; exact (k3 j hj).2.1)) (Nat.pow_le_pow_right (by omega) (by omega))
    have h27 : (27 : Nat) ^ 7 < 2 ^ 63 := by decide
    have hcode : gl σm = lN (cd (kb i) 0 (kl i)) ↔ e - f = kl i ∧ ∀ j, j < kl i → bt (f + j) = kb i j := by
      rw [z5]
      by_cases h7 : e - f ≤ 7
      · have hlt : cd bt f (e - f) < 27 ^ 7 := Nat.lt_of_lt_of_le (cd_lt (e - f) (fun j hj => (bLet_i.mp (z4 (f + j) (by omega) (by omega))).2)) (Nat.pow_le_pow_right (by omega) (by omega))
        rw [if_pos h7, pk_lEQ (by omega) (by omega)]
        constructor
        · intro h
          obtain ⟨r1, r2⟩ := cd_inj (e - f) (kl i) (fun j hj => bLet_i.mp (z4 (f + j) (by omega) (by omega))) (fun j hj => by rw [Nat.zero_add]; exact ⟨(k3 j hj).1, (k3 j hj).2.1⟩) h
          exact ⟨r1, fun j hj => by rw [r2 j (by omega), Nat.zero_add]⟩
        · intro h
          rw [h.1]
          exact cd_eq (kl i) (fun j hj => by rw [h.2 j hj, Nat.zero_add])
      · rw [if_neg h7]
        constructor
        · intro h
          have q := congrArg Int64.toInt h
          rw [pk_lT (by omega)] at q
          have q2 : (-1 : Int64).toInt = -1 := by decide
          rw [q2] at q
          omega
        · intro h
          omega
    unfold X5_isWord_f X7_isKey_f
    by_cases he : e - f = kl i
    · obtain ⟨r, r1, r2⟩ := word_l N hi hk c1 t2 (by omega) (fun j hj => ⟨(c7 j hj).1, (c7 j hj).2.2⟩) (kl i) 0 N (by omega) (by omega) (fun j hj => absurd hj (by omega))
      have e0 : lenS.getD i 0 = kl i := rfl
      rcases r2 with ⟨rfl, r3⟩ | ⟨rfl, j, j1, j2⟩
      · refine ⟨1, by omega, ?_, ?_, fun _ => z2⟩
        · simp (disch := omega) only [if_pos, if_neg, bnd_e, cal_e, chk_t, isZ_0, isZ_1, isZ_n0, isZ_n1, ald_n, ast_n, stb_n, litI, nI_add, pk_mul, pk_sub, Nat.add_sub_cancel, nar_0, nar_1, nI_leI, nI_ltI, nI_eq, Nat.not_lt_zero, Nat.le_zero_eq, Nat.zero_le, not_true_eq_false, not_false_eq_true, reduceIte, if_true, if_false, ite_self, Bool.false_eq_true, Nat.reduceEqDiff, Nat.reduceAdd, Nat.reduceMul, Nat.reduceSub, Nat.reduceLT, Nat.reduceLeDiff, Nat.reducePow, gi_si, gi_sg, gi_sa, gi_sl, ga_si, ga_sg2, ga_sa, ga_sl, gl_si, gl_sg, gl_sa, gl_sl, z1, zx, t2, e0, r1, he]
        · have := cmp_0.mpr (hcode.mpr ⟨he, r3⟩)
          simp (disch := omega) only [if_pos, if_neg, bnd_e, cal_e, chk_t, isZ_0, isZ_1, isZ_n0, isZ_n1, ald_n, ast_n, stb_n, litI, nI_add, pk_mul, pk_sub, Nat.add_sub_cancel, nar_0, nar_1, nI_leI, nI_ltI, nI_eq, Nat.not_lt_zero, Nat.le_zero_eq, Nat.zero_le, not_true_eq_false, not_false_eq_true, reduceIte, if_true, if_false, ite_self, Bool.false_eq_true, Nat.reduceEqDiff, Nat.reduceAdd, Nat.reduceMul, Nat.reduceSub, Nat.reduceLT, Nat.reduceLeDiff, Nat.reducePow, gi_si, gi_sg, gi_sa, gi_sl, ga_si, ga_sg2, ga_sa, ga_sl, gl_si, gl_sg, gl_sa, gl_sl, z2, this]
      · refine ⟨0, by omega, ?_, ?_, fun z => absurd z (by omega)⟩
        · simp (disch := omega) only [if_pos, if_neg, bnd_e, cal_e, chk_t, isZ_0, isZ_1, isZ_n0, isZ_n1, ald_n, ast_n, stb_n, litI, nI_add, pk_mul, pk_sub, Nat.add_sub_cancel, nar_0, nar_1, nI_leI, nI_ltI, nI_eq, Nat.not_lt_zero, Nat.le_zero_eq, Nat.zero_le, not_true_eq_false, not_false_eq_true, reduceIte, if_true, if_false, ite_self, Bool.false_eq_true, Nat.reduceEqDiff, Nat.reduceAdd, Nat.reduceMul, Nat.reduceSub, Nat.reduceLT, Nat.reduceLeDiff, Nat.reducePow, gi_si, gi_sg, gi_sa, gi_sl, ga_si, ga_sg2, ga_sa, ga_sl, gl_si, gl_sg, gl_sa, gl_sl, z1, zx, t2, e0, r1, he]
        · have h0 : ¬ lg_cmp (gl σm) (lN (cd (kb i) 0 (kl i))) = nI 0 := fun h => j2 ((hcode.mp (cmp_0.mp h)).2 j j1)
          simp (disch := omega) only [if_pos, if_neg, bnd_e, cal_e, chk_t, isZ_0, isZ_1, isZ_n0, isZ_n1, ald_n, ast_n, stb_n, litI, nI_add, pk_mul, pk_sub, Nat.add_sub_cancel, nar_0, nar_1, nI_leI, nI_ltI, nI_eq, Nat.not_lt_zero, Nat.le_zero_eq, Nat.zero_le, not_true_eq_false, not_false_eq_true, reduceIte, if_true, if_false, ite_self, Bool.false_eq_true, Nat.reduceEqDiff, Nat.reduceAdd, Nat.reduceMul, Nat.reduceSub, Nat.reduceLT, Nat.reduceLeDiff, Nat.reducePow, gi_si, gi_sg, gi_sa, gi_sl, ga_si, ga_sg2, ga_sa, ga_sl, gl_si, gl_sg, gl_sa, gl_sl, z2, h0]
    · have e0 : lenS.getD i 0 = kl i := rfl
      refine ⟨0, by omega, ?_, ?_, fun z => absurd z (by omega)⟩
      · simp (disch := omega) only [if_pos, if_neg, bnd_e, cal_e, chk_t, isZ_0, isZ_1, isZ_n0, isZ_n1, ald_n, ast_n, stb_n, litI, nI_add, pk_mul, pk_sub, Nat.add_sub_cancel, nar_0, nar_1, nI_leI, nI_ltI, nI_eq, Nat.not_lt_zero, Nat.le_zero_eq, Nat.zero_le, not_true_eq_false, not_false_eq_true, reduceIte, if_true, if_false, ite_self, Bool.false_eq_true, Nat.reduceEqDiff, Nat.reduceAdd, Nat.reduceMul, Nat.reduceSub, Nat.reduceLT, Nat.reduceLeDiff, Nat.reducePow, gi_si, gi_sg, gi_sa, gi_sl, ga_si, ga_sg2, ga_sa, ga_sl, gl_si, gl_sg, gl_sa, gl_sl, z1, zx, t2, e0]
      · have h0 : ¬ lg_cmp (gl σm) (lN (cd (kb i) 0 (kl i))) = nI 0 := fun h => he (hcode.mp (cmp_0.mp h)).1
        simp (disch := omega) only [if_pos, if_neg, bnd_e, cal_e, chk_t, isZ_0, isZ_1, isZ_n0, isZ_n1, ald_n, ast_n, stb_n, litI, nI_add, pk_mul, pk_sub, Nat.add_sub_cancel, nar_0, nar_1, nI_leI, nI_ltI, nI_eq, Nat.not_lt_zero, Nat.le_zero_eq, Nat.zero_le, not_true_eq_false, not_false_eq_true, reduceIte, if_true, if_false, ite_self, Bool.false_eq_true, Nat.reduceEqDiff, Nat.reduceAdd, Nat.reduceMul, Nat.reduceSub, Nat.reduceLT, Nat.reduceLeDiff, Nat.reducePow, gi_si, gi_sg, gi_sa, gi_sl, ga_si, ga_sg2, ga_sa, ga_sl, gl_si, gl_sg, gl_sa, gl_sl, z2, h0]
  · exact no 3 3 (by omega) (by omega) (by omega) (by omega) z1 z2
  · exact no 4 4 (by omega) (by omega) (by omega) (by omega) z1 z2
theorem sp0 (N : Nat) (s : St) : X7_spelt_f N (nI 103) (nI 97) (nI 112) (nI 0) (nI 0) (nI 0) s = some (lN (cd (kb 0) 0 (kl 0)), s) := rfl
theorem sp1 (N : Nat) (s : St) : X7_spelt_f N (nI 97) (nI 114) (nI 116) (nI 105) (nI 115) (nI 116) s = some (lN (cd (kb 1) 0 (kl 1)), s) := rfl
theorem sp2 (N : Nat) (s : St) : X7_spelt_f N (nI 107) (nI 101) (nI 121) (nI 115) (nI 0) (nI 0) s = some (lN (cd (kb 2) 0 (kl 2)), s) := rfl
theorem sp3 (N : Nat) (s : St) : X7_spelt_f N (nI 115) (nI 108) (nI 97) (nI 99) (nI 107) (nI 0) s = some (lN (cd (kb 3) 0 (kl 3)), s) := rfl
theorem sp4 (N : Nat) (s : St) : X7_spelt_f N (nI 109) (nI 111) (nI 115) (nI 116) (nI 0) (nI 0) s = some (lN (cd (kb 4) 0 (kl 4)), s) := rfl
theorem sp6 (N : Nat) (s : St) : X7_spelt_f N (nI 115) (nI 111) (nI 110) (nI 103) (nI 115) (nI 0) s = some (lN (cd (kb 6) 0 (kl 6)), s) := rfl
theorem sp7 (N : Nat) (s : St) : X7_spelt_f N (nI 116) (nI 97) (nI 108) (nI 107) (nI 0) (nI 0) s = some (lN (cd (kb 7) 0 (kl 7)), s) := rfl
theorem sp8 (N : Nat) (s : St) : X7_spelt_f N (nI 109) (nI 111) (nI 111) (nI 100) (nI 0) (nI 0) s = some (lN (cd (kb 8) 0 (kl 8)), s) := rfl
theorem sp9 (N : Nat) (s : St) : X7_spelt_f N (nI 110) (nI 101) (nI 119) (nI 0) (nI 0) (nI 0) s = some (lN (cd (kb 9) 0 (kl 9)), s) := rfl
