/-! lay: the class's last song of a row -/
def Po (q : Nat → Nat → Nat) (c : Nat → Nat) (lg : Nat → Nat → Prop) (m : Nat) (p e : Nat → Nat) (σ : St) : Prop := m ≤ c 8 ∧ gi σ 17 = nI m ∧ (∀ i, i < m → ga σ 28 i = nI (p i) ∧ ga σ 29 i = nI (e i) ∧ p i < c 8 ∧ e i < c 8 ∧ q 5 (p i) = 1 ∧ q 5 (e i) = 1) ∧ (∀ i j, i < j → j < m → p i < p j) ∧ (∀ i j, i < j → j < m → q 0 (e j) < q 0 (e i) ∨ (q 0 (e j) = q 0 (e i) ∧ e i < e j)) ∧ (∀ r, Ad q c lg r → ∀ x, x ∈ r → (∃ i, i < m ∧ p i = x) ∧ (∃ i, i < m ∧ e i = x)) ∧ ∃ lo ho : Nat, lo ≤ 900 ∧ ho ≤ 390 ∧ gi σ 18 = nI lo ∧ gi σ 19 = nI ho ∧ (∀ i, i < m → q 0 (p i) ≤ lo ∧ q 3 (p i) ≤ ho)
def Ex (r x : List Nat) : Prop := ∃ a : List Nat, a ≠ [] ∧ x = a ++ r
def Bf (b : Option (List Nat)) (r : List Nat) : Prop := ∀ r0, b = some r0 → ∀ x, Ex r x → lx r0.reverse x.reverse
theorem firstF (N : Nat) {q : Nat → Nat → Nat} {c : Nat → Nat} {lg : Nat → Nat → Prop} {m : Nat} {p e : Nat → Nat} {σ : St} (h : InX q c σ) (hp : Po q c lg m p e σ) {rest : Nat} (hrest : rest ≤ 3600) : ∀ (n lo hi : Nat), lo ≤ hi → hi ≤ m → hi - lo < n → (∀ i, i < lo → rest < q 0 (e i)) → (∀ i, hi ≤ i → i < m → q 0 (e i) ≤ rest) → ∃ f : Nat, X2_firstThatFits_l8 N n (nI rest) (nI lo) (nI hi) σ = some (nI f, σ) ∧ f ≤ m ∧ (∀ i, i < f → rest < q 0 (e i)) ∧ (∀ i, f ≤ i → i < m → q 0 (e i) ≤ rest)
  | 0, _, _, _, _, h, _, _ => absurd h (by omega)
  | n + 1, lo, hi, h1, h2, h3, h4, h5 => by
    have h24 := h.1
    have hm := hp.1
    by_cases z : hi ≤ lo
    · obtain rfl : lo = hi := by omega
      refine ⟨lo, ?_, h2, h4, h5⟩
      rw [X2_firstThatFits_l8.eq_def]
      simp (disch := omega) only [if_pos, if_neg, bnd_e, cal_e, chk_t, isZ_0, isZ_1, isZ_n0, isZ_n1, ald_n, ast_n, stb_n, litI, nI_add, pk_mul, pk_sub, Nat.add_sub_cancel, nar_0, nar_1, nI_leI, nI_ltI, nI_eq, Nat.not_lt_zero, Nat.le_zero_eq, Nat.zero_le, not_true_eq_false, not_false_eq_true, reduceIte, if_true, if_false, ite_self, Bool.false_eq_true, Nat.reduceEqDiff, Nat.reduceAdd, Nat.reduceMul, Nat.reduceSub, Nat.reduceLT, Nat.reduceLeDiff, Nat.reducePow, gi_si, gi_sg, gi_sa, gi_sl, ga_si, ga_sg2, ga_sa, ga_sl, gl_si, gl_sg, gl_sa, gl_sl]
    · have u := ush_all (lo + hi) (by omega)
      have hmid : (lo + hi) / 2 < hi ∧ lo ≤ (lo + hi) / 2 := by omega
      obtain ⟨-, e2, -, e4, -⟩ := hp.2.2.1 ((lo + hi) / 2) (by omega)
      obtain ⟨s4, -, -, -, -, -, b2, -⟩ := h.2.2.1 _ e4
      have so := hp.2.2.2.2.1
      by_cases y : q 0 (e ((lo + hi) / 2)) ≤ rest
      · obtain ⟨f, a1, a2⟩ := firstF N h hp hrest n lo ((lo + hi) / 2) (by omega) (by omega) (by omega) h4 (fun i i1 i2 => by
          by_cases w : i = (lo + hi) / 2
          · rw [w]
            exact y
          · have := so ((lo + hi) / 2) i (by omega) i2
            omega)
        refine ⟨f, ?_, a2⟩
        rw [← a1, X2_firstThatFits_l8.eq_def]
        unfold X2_firstThatFits_l50
        simp (disch := omega) only [if_pos, if_neg, bnd_e, cal_e, chk_t, isZ_0, isZ_1, isZ_n0, isZ_n1, ald_n, ast_n, stb_n, litI, nI_add, pk_mul, pk_sub, Nat.add_sub_cancel, nar_0, nar_1, nI_leI, nI_ltI, nI_eq, Nat.not_lt_zero, Nat.le_zero_eq, Nat.zero_le, not_true_eq_false, not_false_eq_true, reduceIte, if_true, if_false, ite_self, Bool.false_eq_true, Nat.reduceEqDiff, Nat.reduceAdd, Nat.reduceMul, Nat.reduceSub, Nat.reduceLT, Nat.reduceLeDiff, Nat.reducePow, gi_si, gi_sg, gi_sa, gi_sl, ga_si, ga_sg2, ga_sa, ga_sl, gl_si, gl_sg, gl_sa, gl_sl, u, e2, s4]
      · obtain ⟨f, a1, a2⟩ := firstF N h hp hrest n ((lo + hi) / 2 + 1) hi (by omega) (by omega) (by omega) (fun i i1 => by
          by_cases w : i = (lo + hi) / 2
          · rw [w]
            omega
          · have := so i ((lo + hi) / 2) (by omega) (by omega)
            omega) h5
        refine ⟨f, ?_, a2⟩
        rw [← a1, X2_firstThatFits_l8.eq_def]
        unfold X2_firstThatFits_l50
        simp (disch := omega) only [if_pos, if_neg, bnd_e, cal_e, chk_t, isZ_0, isZ_1, isZ_n0, isZ_n1, ald_n, ast_n, stb_n, litI, nI_add, pk_mul, pk_sub, Nat.add_sub_cancel, nar_0, nar_1, nI_leI, nI_ltI, nI_eq, Nat.not_lt_zero, Nat.le_zero_eq, Nat.zero_le, not_true_eq_false, not_false_eq_true, reduceIte, if_true, if_false, ite_self, Bool.false_eq_true, Nat.reduceEqDiff, Nat.reduceAdd, Nat.reduceMul, Nat.reduceSub, Nat.reduceLT, Nat.reduceLeDiff, Nat.reducePow, gi_si, gi_sg, gi_sa, gi_sl, ga_si, ga_sg2, ga_sa, ga_sl, gl_si, gl_sg, gl_sa, gl_sl, u, e2, s4]
theorem imax00 {a : Nat} (ha : a < 2 ^ 30) : imax (nI 0) (nI a) = nI a := by
  unfold imax
  by_cases z : 0 < a
  · rw [if_pos (nI_lt z (by omega))]
  · rw [if_neg (nI_nlt (by omega) (by omega)), show a = 0 by omega]
/-- nothing that goes on from here is better -/
theorem x_hope (N : Nat) {q : Nat → Nat → Nat} {c : Nat → Nat} {lg : Nat → Nat → Prop} {m : Nat} {p e : Nat → Nat} {σ : St} (h : InX q c σ) (hp : Po q c lg m p e σ) {b : Option (List Nat)} (hb : BeX q c σ b) (r : List Nat) (hl : r.length ≤ c 4) (hf : Fs q c lg r) : X2_isHopeless_f N (nI (c 4 - r.length)) (nI (c 1 - sm (q 0) r)) (nI (sm (q 3) r)) (nI (sm (q 4) r)) σ = some (nI 0, σ) ∨ (X2_isHopeless_f N (nI (c 4 - r.length)) (nI (c 1 - sm (q 0) r)) (nI (sm (q 3) r)) (nI (sm (q 4) r)) σ = some (nI 1, σ) ∧ ∀ x, Ad q c lg x → Ex r x → ¬ btr q c b (c 1 - sm (q 0) x) (sm (q 3) x)) := by
  have hm := Fs_lt hf
  obtain ⟨t0, t3, t4⟩ := sm_bx h hm
  have hsum := Fs_sum _ hf
  obtain ⟨h24, -, h3, -, -, -, -, -, g26, -, -, -, c4a, c4b, c0, c1, c2, c9, c3⟩ := id h
  obtain ⟨p1, p2, p3, p4, p5, p6, lo, ho, p7, p8, p9, p10, p11⟩ := hp
  have ex : ∀ x, Ad q c lg x → Ex r x → ∃ k : Nat, 1 ≤ k ∧ k ≤ c 4 - r.length ∧ sm (q 4) x ≤ sm (q 4) r + k ∧ sm (q 0) x ≤ sm (q 0) r + k * lo ∧ sm (q 3) x ≤ sm (q 3) r + k * ho := fun x hx ⟨a, ha, e⟩ => by
    have hlx := hx.2.2.1
    have hxm := Fs_lt hx.1
    have hal : ∀ y, y ∈ a → q 4 y ≤ 1 ∧ q 0 y ≤ lo ∧ q 3 y ≤ ho := fun y hy => by
      have hyx : y ∈ x := by
        rw [e]
        exact List.mem_append_left _ hy
      obtain ⟨⟨i, i1, i2⟩, -⟩ := p6 x hx y hyx
      have := p11 i i1
      rw [i2] at this
      exact ⟨(h3 y (hxm y hyx)).2.2.2.2.2.2.2.2.2.2, this⟩
    have a4 := sm_le (f := q 4) (m := 1) a (fun y hy => (hal y hy).1)
    have a0 := sm_le (f := q 0) (m := lo) a (fun y hy => (hal y hy).2.1)
    have a3 := sm_le (f := q 3) (m := ho) a (fun y hy => (hal y hy).2.2)
    rw [e, List.length_append] at hlx
    refine ⟨a.length, ?_, by omega, ?_, ?_, ?_⟩
    · cases a with
      | nil => exact absurd rfl ha
      | cons _ _ => exact Nat.succ_le_succ (Nat.zero_le _)
    · rw [e, sm_app]
      omega
    · rw [e, sm_app]
      omega
    · rw [e, sm_app]
      omega
  have mul : ∀ k d : Nat, k ≤ c 4 - r.length → k * d ≤ (c 4 - r.length) * d := fun k d hk => Nat.mul_le_mul_right d hk
  have m0 := Nat.mul_le_mul (show c 4 - r.length ≤ 4 by omega) p7
  have m1 := Nat.mul_le_mul (show c 4 - r.length ≤ 4 by omega) p8
  have im := imax0 (a := c 1 - sm (q 0) r) (b := (c 4 - r.length) * lo) (by omega) (by omega)
  have im2 := imax00 (a := c 1 - sm (q 0) r - (c 4 - r.length) * lo) (by omega)
  unfold X2_isHopeless_f X2_isHopeless_l60
  by_cases z : sm (q 4) r + (c 4 - r.length) < c 2
  · right
    refine ⟨by simp (disch := omega) only [if_pos, if_neg, bnd_e, cal_e, chk_t, isZ_0, isZ_1, isZ_n0, isZ_n1, ald_n, ast_n, stb_n, litI, nI_add, pk_mul, pk_sub, Nat.add_sub_cancel, nar_0, nar_1, nI_leI, nI_ltI, nI_eq, Nat.not_lt_zero, Nat.le_zero_eq, Nat.zero_le, not_true_eq_false, not_false_eq_true, reduceIte, if_true, if_false, ite_self, Bool.false_eq_true, Nat.reduceEqDiff, Nat.reduceAdd, Nat.reduceMul, Nat.reduceSub, Nat.reduceLT, Nat.reduceLeDiff, Nat.reducePow, gi_si, gi_sg, gi_sa, gi_sl, ga_si, ga_sg2, ga_sa, ga_sl, gl_si, gl_sg, gl_sa, gl_sl, g26], fun x hx he => ?_⟩
    obtain ⟨k, k1, k2, k3, k4, k5⟩ := ex x hx he
    have := hx.2.2.2.2
    omega
  cases b with
  | none =>
    obtain ⟨e1, e2, e3⟩ := hb
    by_cases y : c 3 < c 1 - sm (q 0) r - (c 4 - r.length) * lo
    · right
      refine ⟨by simp (disch := omega) only [if_pos, if_neg, bnd_e, cal_e, chk_t, isZ_0, isZ_1, isZ_n0, isZ_n1, ald_n, ast_n, stb_n, litI, nI_add, pk_mul, pk_sub, Nat.add_sub_cancel, nar_0, nar_1, nI_leI, nI_ltI, nI_eq, Nat.not_lt_zero, Nat.le_zero_eq, Nat.zero_le, not_true_eq_false, not_false_eq_true, reduceIte, if_true, if_false, ite_self, Bool.false_eq_true, Nat.reduceEqDiff, Nat.reduceAdd, Nat.reduceMul, Nat.reduceSub, Nat.reduceLT, Nat.reduceLeDiff, Nat.reducePow, gi_si, gi_sg, gi_sa, gi_sl, ga_si, ga_sg2, ga_sa, ga_sl, gl_si, gl_sg, gl_sa, gl_sl, g26, p9, im, im2, e2], fun x hx he => ?_⟩
      obtain ⟨k, k1, k2, k3, k4, k5⟩ := ex x hx he
      have := mul k lo k2
      show ¬ c 1 - sm (q 0) x ≤ c 3
      omega
    · left
      by_cases w : c 1 - sm (q 0) r - (c 4 - r.length) * lo = c 3
      · simp (disch := omega) only [if_pos, if_neg, bnd_e, cal_e, chk_t, isZ_0, isZ_1, isZ_n0, isZ_n1, ald_n, ast_n, stb_n, litI, nI_add, pk_mul, pk_sub, Nat.add_sub_cancel, nar_0, nar_1, nI_leI, nI_ltI, nI_eq, Nat.not_lt_zero, Nat.le_zero_eq, Nat.zero_le, not_true_eq_false, not_false_eq_true, reduceIte, if_true, if_false, ite_self, Bool.false_eq_true, Nat.reduceEqDiff, Nat.reduceAdd, Nat.reduceMul, Nat.reduceSub, Nat.reduceLT, Nat.reduceLeDiff, Nat.reducePow, gi_si, gi_sg, gi_sa, gi_sl, ga_si, ga_sg2, ga_sa, ga_sl, gl_si, gl_sg, gl_sa, gl_sl, g26, p9, im, im2, e2, w, e3, p10, m1_lt]
      · simp (disch := omega) only [if_pos, if_neg, bnd_e, cal_e, chk_t, isZ_0, isZ_1, isZ_n0, isZ_n1, ald_n, ast_n, stb_n, litI, nI_add, pk_mul, pk_sub, Nat.add_sub_cancel, nar_0, nar_1, nI_leI, nI_ltI, nI_eq, Nat.not_lt_zero, Nat.le_zero_eq, Nat.zero_le, not_true_eq_false, not_false_eq_true, reduceIte, if_true, if_false, ite_self, Bool.false_eq_true, Nat.reduceEqDiff, Nat.reduceAdd, Nat.reduceMul, Nat.reduceSub, Nat.reduceLT, Nat.reduceLeDiff, Nat.reducePow, gi_si, gi_sg, gi_sa, gi_sl, ga_si, ga_sg2, ga_sa, ga_sl, gl_si, gl_sg, gl_sa, gl_sl, g26, p9, im, im2, e2]
  | some r0 =>
    obtain ⟨e1, e2, e3, e4, e5, e6, e7, e8⟩ := hb
    obtain ⟨u0, u3, u4⟩ := sm_bx h e7
    by_cases y : c 1 - sm (q 0) r0 < c 1 - sm (q 0) r - (c 4 - r.length) * lo
    · right
      refine ⟨by simp (disch := omega) only [if_pos, if_neg, bnd_e, cal_e, chk_t, isZ_0, isZ_1, isZ_n0, isZ_n1, ald_n, ast_n, stb_n, litI, nI_add, pk_mul, pk_sub, Nat.add_sub_cancel, nar_0, nar_1, nI_leI, nI_ltI, nI_eq, Nat.not_lt_zero, Nat.le_zero_eq, Nat.zero_le, not_true_eq_false, not_false_eq_true, reduceIte, if_true, if_false, ite_self, Bool.false_eq_true, Nat.reduceEqDiff, Nat.reduceAdd, Nat.reduceMul, Nat.reduceSub, Nat.reduceLT, Nat.reduceLeDiff, Nat.reducePow, gi_si, gi_sg, gi_sa, gi_sl, ga_si, ga_sg2, ga_sa, ga_sl, gl_si, gl_sg, gl_sa, gl_sl, g26, p9, im, im2, e3], fun x hx he => ?_⟩
      obtain ⟨k, k1, k2, k3, k4, k5⟩ := ex x hx he
      have := mul k lo k2
      show ¬ (c 1 - sm (q 0) x < c 1 - sm (q 0) r0 ∨ (c 1 - sm (q 0) x = c 1 - sm (q 0) r0 ∧ sm (q 3) r0 < sm (q 3) x))
      omega
    · by_cases w : c 1 - sm (q 0) r - (c 4 - r.length) * lo = c 1 - sm (q 0) r0
      · by_cases v : sm (q 3) r0 < sm (q 3) r + (c 4 - r.length) * ho
        · left
          simp (disch := omega) only [if_pos, if_neg, bnd_e, cal_e, chk_t, isZ_0, isZ_1, isZ_n0, isZ_n1, ald_n, ast_n, stb_n, litI, nI_add, pk_mul, pk_sub, Nat.add_sub_cancel, nar_0, nar_1, nI_leI, nI_ltI, nI_eq, Nat.not_lt_zero, Nat.le_zero_eq, Nat.zero_le, not_true_eq_false, not_false_eq_true, reduceIte, if_true, if_false, ite_self, Bool.false_eq_true, Nat.reduceEqDiff, Nat.reduceAdd, Nat.reduceMul, Nat.reduceSub, Nat.reduceLT, Nat.reduceLeDiff, Nat.reducePow, gi_si, gi_sg, gi_sa, gi_sl, ga_si, ga_sg2, ga_sa, ga_sl, gl_si, gl_sg, gl_sa, gl_sl, g26, p9, im, im2, e3, w, e4, p10]
        · right
          refine ⟨by simp (disch := omega) only [if_pos, if_neg, bnd_e, cal_e, chk_t, isZ_0, isZ_1, isZ_n0, isZ_n1, ald_n, ast_n, stb_n, litI, nI_add, pk_mul, pk_sub, Nat.add_sub_cancel, nar_0, nar_1, nI_leI, nI_ltI, nI_eq, Nat.not_lt_zero, Nat.le_zero_eq, Nat.zero_le, not_true_eq_false, not_false_eq_true, reduceIte, if_true, if_false, ite_self, Bool.false_eq_true, Nat.reduceEqDiff, Nat.reduceAdd, Nat.reduceMul, Nat.reduceSub, Nat.reduceLT, Nat.reduceLeDiff, Nat.reducePow, gi_si, gi_sg, gi_sa, gi_sl, ga_si, ga_sg2, ga_sa, ga_sl, gl_si, gl_sg, gl_sa, gl_sl, g26, p9, im, im2, e3, w, e4, p10], fun x hx he => ?_⟩
          obtain ⟨k, k1, k2, k3, k4, k5⟩ := ex x hx he
          have := mul k lo k2
          have := mul k ho k2
          show ¬ (c 1 - sm (q 0) x < c 1 - sm (q 0) r0 ∨ (c 1 - sm (q 0) x = c 1 - sm (q 0) r0 ∧ sm (q 3) r0 < sm (q 3) x))
          omega
      · left
        simp (disch := omega) only [if_pos, if_neg, bnd_e, cal_e, chk_t, isZ_0, isZ_1, isZ_n0, isZ_n1, ald_n, ast_n, stb_n, litI, nI_add, pk_mul, pk_sub, Nat.add_sub_cancel, nar_0, nar_1, nI_leI, nI_ltI, nI_eq, Nat.not_lt_zero, Nat.le_zero_eq, Nat.zero_le, not_true_eq_false, not_false_eq_true, reduceIte, if_true, if_false, ite_self, Bool.false_eq_true, Nat.reduceEqDiff, Nat.reduceAdd, Nat.reduceMul, Nat.reduceSub, Nat.reduceLT, Nat.reduceLeDiff, Nat.reducePow, gi_si, gi_sg, gi_sa, gi_sl, ga_si, ga_sg2, ga_sa, ga_sl, gl_si, gl_sg, gl_sa, gl_sl, g26, p9, im, im2, e3]
def FrS (d : Nat) (σ σ2 : St) : Prop := (∀ j, j ≠ 14 → j ≠ 15 → j ≠ 16 → gi σ2 j = gi σ j) ∧ (∀ a, a ≠ 23 → a ≠ 24 → ga σ2 a = ga σ a) ∧ (∀ k, k < d → ga σ2 24 k = ga σ 24 k)
theorem FrS_rfl (d : Nat) (σ : St) : FrS d σ σ := ⟨fun _ _ _ _ => rfl, fun _ _ _ => rfl, fun _ _ => rfl⟩
theorem FrS_tr {d : Nat} {a b f : St} (h : FrS d a b) (k : FrS d b f) : FrS d a f := ⟨fun j j1 j2 j3 => (k.1 j j1 j2 j3).trans (h.1 j j1 j2 j3), fun j j1 j2 => (k.2.1 j j1 j2).trans (h.2.1 j j1 j2), fun j j1 => (k.2.2 j j1).trans (h.2.2 j j1)⟩
theorem InX_fr {q : Nat → Nat → Nat} {c : Nat → Nat} {d : Nat} {σ σ2 : St} (h : InX q c σ) (f : FrS d σ σ2) : InX q c σ2 := by
  unfold InX at *
  rw [f.1 9 (by omega) (by omega) (by omega), f.1 20 (by omega) (by omega) (by omega), f.1 21 (by omega) (by omega) (by omega), f.1 22 (by omega) (by omega) (by omega), f.1 24 (by omega) (by omega) (by omega), f.1 25 (by omega) (by omega) (by omega), f.1 26 (by omega) (by omega) (by omega), f.2.1 4 (by omega) (by omega), f.2.1 5 (by omega) (by omega), f.2.1 6 (by omega) (by omega), f.2.1 25 (by omega) (by omega), f.2.1 8 (by omega) (by omega)]
  exact h
theorem UWx_fr {c U W : Nat → Nat} {d : Nat} {σ σ2 : St} (h : UWx c U W σ) (f : FrS d σ σ2) : UWx c U W σ2 := by
  unfold UWx at *
  rw [f.2.1 26 (by omega) (by omega), f.2.1 27 (by omega) (by omega)]
  exact h
theorem Po_fr {q : Nat → Nat → Nat} {c : Nat → Nat} {lg : Nat → Nat → Prop} {m : Nat} {p e : Nat → Nat} {d : Nat} {σ σ2 : St} (h : Po q c lg m p e σ) (f : FrS d σ σ2) : Po q c lg m p e σ2 := by
  unfold Po at *
  rw [f.1 17 (by omega) (by omega) (by omega), f.1 18 (by omega) (by omega) (by omega), f.1 19 (by omega) (by omega) (by omega), f.2.1 28 (by omega) (by omega), f.2.1 29 (by omega) (by omega)]
  exact h
theorem RowAt_fr {d : Nat} {σ σ2 : St} {r : List Nat} (h : RowAt (ga σ 24) 0 r) (f : FrS d σ σ2) (hd : r.length ≤ d) : RowAt (ga σ2 24) 0 r := RowAt_cg r (fun k hk => by rw [Nat.zero_add, f.2.2 k (by omega)]) h
theorem tryL (N : Nat) (hN : 10 < N) {q : Nat → Nat → Nat} {c : Nat → Nat} {lg : Nat → Nat → Prop} {m : Nat} {p e U W : Nat → Nat} (r : List Nat) (hf : Fs q c lg r) (hl : r.length + 1 = c 4) (hfr : Fre q c lg U W r) {P : List Nat → Prop} {b0 : Option (List Nat)} (hbf : Bf b0 r) : ∀ (d i n : Nat) (σ : St) (b : Option (List Nat)), InX q c σ → Po q c lg m p e σ → UWx c U W σ → BeX q c σ b → RowAt (ga σ 24) 0 r → (∀ j, i ≤ j → j < m → q 0 (e j) ≤ c 1 - sm (q 0) r) → IsB q c (fun x => P x ∨ (Ad q c lg x ∧ ∃ j, j < i ∧ x = e j :: r)) b → (b = b0 ∨ ∃ j, j < i ∧ q 0 (e j) ≤ c 1 - sm (q 0) r ∧ b = some (e j :: r)) → i + d = m → d < n → ∃ (b2 : Option (List Nat)) (σ2 : St), X2_tryLast_l17 N n (nI r.length) (nI (c 0 + sm (q 0) r)) (kyI q c r) (nI (sm (q 3) r)) (nI (sm (q 4) r)) (nI (c 1 - sm (q 0) r)) (nI i) σ = some (nI 0, σ2) ∧ BeX q c σ2 b2 ∧ IsB q c (fun x => P x ∨ (Ad q c lg x ∧ ∃ j, j < m ∧ x = e j :: r)) b2 ∧ (b2 = b0 ∨ ∃ j, j < m ∧ b2 = some (e j :: r)) ∧ FrS r.length σ σ2
  | _, _, 0, _, _, _, _, _, _, _, _, _, _, _, h => absurd h (by omega)
  | 0, i, n + 1, σ, b, h, hp, hu, hb, hr, hfit, hI, ho, h1, h2 => by
    obtain rfl : i = m := by omega
    have e17 := hp.2.1
    have hm := hp.1
    have h24 := h.1
    refine ⟨b, σ, ?_, hb, hI, ho.imp id (fun ⟨j, j1, _, j2⟩ => ⟨j, j1, j2⟩), FrS_rfl _ σ⟩
    rw [X2_tryLast_l17.eq_def]
    simp (disch := omega) only [if_pos, if_neg, bnd_e, cal_e, chk_t, isZ_0, isZ_1, isZ_n0, isZ_n1, ald_n, ast_n, stb_n, litI, nI_add, pk_mul, pk_sub, Nat.add_sub_cancel, nar_0, nar_1, nI_leI, nI_ltI, nI_eq, Nat.not_lt_zero, Nat.le_zero_eq, Nat.zero_le, not_true_eq_false, not_false_eq_true, reduceIte, if_true, if_false, ite_self, Bool.false_eq_true, Nat.reduceEqDiff, Nat.reduceAdd, Nat.reduceMul, Nat.reduceSub, Nat.reduceLT, Nat.reduceLeDiff, Nat.reducePow, gi_si, gi_sg, gi_sa, gi_sl, ga_si, ga_sg2, ga_sa, ga_sl, gl_si, gl_sg, gl_sa, gl_sl, e17]
  | d + 1, i, n + 1, σ, b, h, hp, hu, hb, hr, hfit, hI, ho, h1, h2 => by
    have e17 := hp.2.1
    have hm := hp.1
    have hrm := Fs_lt hf
    have hsum := Fs_sum _ hf
    obtain ⟨t0, t3, t4⟩ := sm_bx h hrm
    obtain ⟨h24, -, h3, -, -, -, -, -, g26, -, -, -, c4a, c4b, c0, c1, c2, c9, c3⟩ := id h
    obtain ⟨-, e2, -, e4, -, e6⟩ := hp.2.2.1 i (by omega)
    obtain ⟨x4, x5, x6, x25, x8, b1, b2, b3, b4, b5, b6⟩ := h3 _ e4
    have so := hp.2.2.2.2.1
    have fi := hfit i (by omega) (by omega)
    have w0 : sm (q 0) (e i :: r) = sm (q 0) r + q 0 (e i) := rfl
    have w3 : sm (q 3) (e i :: r) = sm (q 3) r + q 3 (e i) := rfl
    have w4 : sm (q 4) (e i :: r) = sm (q 4) r + q 4 (e i) := rfl
    have bl : ∃ L : Nat, L ≤ 3600 ∧ gi σ 15 = nI L ∧ (∀ K H, L < K → ¬ btr q c b K H) := by
      cases b with
      | none => exact ⟨c 3, by omega, hb.2.1, fun K _ hK => by
          show ¬ K ≤ c 3
          omega⟩
      | some r0 => exact ⟨c 1 - sm (q 0) r0, by omega, hb.2.2.1, fun K H hK => by
          show ¬ (K < c 1 - sm (q 0) r0 ∨ (K = c 1 - sm (q 0) r0 ∧ sm (q 3) r0 < H))
          omega⟩
    obtain ⟨L, l1, l2, l3⟩ := bl
    have lxb : ∀ j, i ≤ j → j < m → (∀ r0, b = some r0 → ¬ btr q c b (c 1 - sm (q 0) (e j :: r)) (sm (q 3) (e j :: r)) → c 1 - sm (q 0) (e j :: r) ≤ c 1 - sm (q 0) r0 → lx r0.reverse (e j :: r).reverse) := fun j j1 j2 r0 z nb hle => by
      rcases ho with y | ⟨k, k1, k3, k2⟩
      · exact hbf r0 (by rw [← y, z]) _ ⟨[e j], List.cons_ne_nil _ _, rfl⟩
      · rw [z] at k2
        cases k2
        have s1 := so k j (by omega) j2
        have f1 := hfit j j1 j2
        have a0 : sm (q 0) (e j :: r) = sm (q 0) r + q 0 (e j) := rfl
        have a1 : sm (q 0) (e k :: r) = sm (q 0) r + q 0 (e k) := rfl
        rw [a0, a1] at hle
        rw [List.reverse_cons, List.reverse_cons, lx_app]
        exact Or.inl (by omega)
    by_cases z : L < c 1 - sm (q 0) r - q 0 (e i)
    · refine ⟨b, σ, ?_, hb, ?_, ho.imp id (fun ⟨j, j1, _, j2⟩ => ⟨j, by omega, j2⟩), FrS_rfl _ σ⟩
      · rw [X2_tryLast_l17.eq_def]
        simp (disch := omega) only [if_pos, if_neg, bnd_e, cal_e, chk_t, isZ_0, isZ_1, isZ_n0, isZ_n1, ald_n, ast_n, stb_n, litI, nI_add, pk_mul, pk_sub, Nat.add_sub_cancel, nar_0, nar_1, nI_leI, nI_ltI, nI_eq, Nat.not_lt_zero, Nat.le_zero_eq, Nat.zero_le, not_true_eq_false, not_false_eq_true, reduceIte, if_true, if_false, ite_self, Bool.false_eq_true, Nat.reduceEqDiff, Nat.reduceAdd, Nat.reduceMul, Nat.reduceSub, Nat.reduceLT, Nat.reduceLeDiff, Nat.reducePow, gi_si, gi_sg, gi_sa, gi_sl, ga_si, ga_sg2, ga_sa, ga_sl, gl_si, gl_sg, gl_sa, gl_sl, e17, e2, x4, l2]
      · cases b with
        | none =>
          refine IsB_iff (IsB_no (Q := fun x => Ad q c lg x ∧ ∃ j, i ≤ j ∧ j < m ∧ x = e j :: r) hI (fun x hx => ?_)) (fun x => ?_)
          · obtain ⟨y1, j, y2, y3, y4⟩ := hx
            have a0 : sm (q 0) (e j :: r) = sm (q 0) r + q 0 (e j) := rfl
            have l4 := l3 (c 1 - sm (q 0) x) (sm (q 3) x) (by
              rw [y4, a0]
              by_cases v : j = i
              · rw [v]
                omega
              · have := so i j (by omega) y3
                omega)
            exact l4 y1.2.2.2.1
          · constructor
            · rintro ((y | ⟨y1, j, y2, y3⟩) | ⟨y1, j, y2, y3, y4⟩)
              · exact Or.inl y
              · exact Or.inr ⟨y1, j, by omega, y3⟩
              · exact Or.inr ⟨y1, j, y3, y4⟩
            · rintro (y | ⟨y1, j, y2, y3⟩)
              · exact Or.inl (Or.inl y)
              · by_cases v : j < i
                · exact Or.inl (Or.inr ⟨y1, j, v, y3⟩)
                · exact Or.inr ⟨y1, j, by omega, y2, y3⟩
        | some r0 =>
          refine IsB_iff (IsB_keep (Q := fun x => Ad q c lg x ∧ ∃ j, i ≤ j ∧ j < m ∧ x = e j :: r) hI (fun x hx => ?_)) (fun x => ?_)
          · obtain ⟨y1, j, y2, y3, y4⟩ := hx
            have a0 : sm (q 0) (e j :: r) = sm (q 0) r + q 0 (e j) := rfl
            have hL : L = c 1 - sm (q 0) r0 := by
              have := hb.2.2.1
              rw [l2] at this
              exact (nI_eq (by omega) (by omega)).mp this
            refine Or.inr (Or.inl (Or.inl ?_))
            rw [y4, a0]
            by_cases v : j = i
            · rw [v]
              omega
            · have := so i j (by omega) y3
              omega
          · constructor
            · rintro ((y | ⟨y1, j, y2, y3⟩) | ⟨y1, j, y2, y3, y4⟩)
              · exact Or.inl y
              · exact Or.inr ⟨y1, j, by omega, y3⟩
              · exact Or.inr ⟨y1, j, y3, y4⟩
            · rintro (y | ⟨y1, j, y2, y3⟩)
              · exact Or.inl (Or.inl y)
              · by_cases v : j < i
                · exact Or.inl (Or.inr ⟨y1, j, v, y3⟩)
                · exact Or.inr ⟨y1, j, by omega, y2, y3⟩
    · have mb := x_may N h hu (s := e i) (t := c 0 + sm (q 0) r) e4 (by omega) r hrm
      have fr := hfr (e i) e4 (c 0 + sm (q 0) r) (Nat.le_refl _)
      have grow : ∀ {b2 : Option (List Nat)}, IsB q c (fun x => (P x ∨ (Ad q c lg x ∧ ∃ j, j < i ∧ x = e j :: r)) ∨ (x = e i :: r ∧ Ad q c lg (e i :: r))) b2 → IsB q c (fun x => P x ∨ (Ad q c lg x ∧ ∃ j, j < i + 1 ∧ x = e j :: r)) b2 := fun hh => IsB_iff hh fun x => by
        constructor
        · rintro ((y | ⟨y1, j, y2, y3⟩) | ⟨y1, y2⟩)
          · exact Or.inl y
          · exact Or.inr ⟨y1, j, by omega, y3⟩
          · exact Or.inr ⟨by rw [y1]; exact y2, i, by omega, y1⟩
        · rintro (y | ⟨y1, j, y2, y3⟩)
          · exact Or.inl (Or.inl y)
          · by_cases v : j < i
            · exact Or.inl (Or.inr ⟨y1, j, v, y3⟩)
            · obtain rfl : j = i := by omega
              exact Or.inr ⟨y3, by rw [← y3]; exact y1⟩
      by_cases y : (U (e i) ≤ c 0 + sm (q 0) r ∧ W (q 1 (e i)) ≤ c 0 + sm (q 0) r) ∧ okK q c r (e i)
      · have hcan : can q c lg r (e i) := ⟨e4, e6, by omega, (fr.mp y.1).1, (fr.mp y.1).2, y.2⟩
        have mb1 := mb.1 y
        have hm2 : ∀ x, x ∈ e i :: r → x < c 8 := fun x hx => by
          rcases List.mem_cons.mp hx with u | u
          · rw [u]
            exact e4
          · exact hrm x u
        have frr : FrS r.length σ (sa σ 24 r.length (nI (e i))) := ⟨fun _ _ _ _ => rfl, fun a a1 a2 => by rw [ga_sa, if_neg a2], fun k hk => by
          rw [ga_sa, if_pos rfl, upd_e, if_neg (by omega)]⟩
        have hr2 : RowAt (ga (sa σ 24 r.length (nI (e i))) 24) 0 (e i :: r) := ⟨by
          rw [Nat.zero_add, ga_sa, if_pos rfl, upd_e, if_pos rfl], RowAt_fr hr frr (Nat.le_refl _)⟩
        obtain ⟨b2, σ2, k1, k2, k3, k4, k5⟩ := x_cmp N hN (InX_fr h frr) (BeX_cg hb rfl rfl rfl rfl) (e i :: r) (by show 1 ≤ r.length + 1; omega) (by show r.length + 1 ≤ 4; omega) hr2 hm2
        have fr2 : FrS r.length (sa σ 24 r.length (nI (e i))) σ2 := ⟨k4, fun a a1 _ => k5 a a1, fun k _ => by rw [k5 24 (by omega)]⟩
        have fr3 := FrS_tr frr fr2
        have hI2 : IsB q c (fun x => P x ∨ (Ad q c lg x ∧ ∃ j, j < i + 1 ∧ x = e j :: r)) b2 ∧ (b2 = b0 ∨ ∃ j, j < i + 1 ∧ q 0 (e j) ≤ c 1 - sm (q 0) r ∧ b2 = some (e j :: r)) := by
          rcases k3 with ⟨o1, o2, o3⟩ | ⟨o1, o2⟩
          · rw [o3]
            have had : Ad q c lg (e i :: r) := ⟨⟨hf, hcan⟩, List.cons_ne_nil _ _, by show r.length + 1 ≤ c 4; omega, by
              cases b with
              | none => exact o1
              | some r0 =>
                have := hb.2.2.2.2.2.2.2
                have o1b : c 1 - sm (q 0) (e i :: r) < c 1 - sm (q 0) r0 ∨ (c 1 - sm (q 0) (e i :: r) = c 1 - sm (q 0) r0 ∧ sm (q 3) r0 < sm (q 3) (e i :: r)) := o1
                omega, o2⟩
            exact ⟨grow (IsB_tk hI had o1), Or.inr ⟨i, by omega, fi, rfl⟩⟩
          · rw [o2]
            refine ⟨grow (IsB_out hI (fun had => ?_)), ho.imp id (fun ⟨j, j1, j2⟩ => ⟨j, by omega, j2⟩)⟩
            have nb : ¬ btr q c b (c 1 - sm (q 0) (e i :: r)) (sm (q 3) (e i :: r)) := fun o => o1 ⟨o, had.2.2.2.2⟩
            cases b with
            | none => exact absurd had.2.2.2.1 nb
            | some r0 =>
              refine ⟨r0, rfl, Or.inr ?_⟩
              have nb2 : ¬ (c 1 - sm (q 0) (e i :: r) < c 1 - sm (q 0) r0 ∨ (c 1 - sm (q 0) (e i :: r) = c 1 - sm (q 0) r0 ∧ sm (q 3) r0 < sm (q 3) (e i :: r))) := nb
              unfold bb vb
              by_cases v1 : c 1 - sm (q 0) r0 < c 1 - sm (q 0) (e i :: r)
              · exact Or.inl (Or.inl v1)
              · by_cases v2 : sm (q 3) (e i :: r) < sm (q 3) r0
                · exact Or.inl (Or.inr ⟨by omega, v2⟩)
                · exact Or.inr ⟨by omega, by omega, lxb i (Nat.le_refl i) (by omega) r0 rfl nb (by omega)⟩
        obtain ⟨b3, σ3, s1, s2, s3, s4, s5⟩ := tryL N hN r hf hl hfr hbf d (i + 1) n σ2 b2 (InX_fr h fr3) (Po_fr hp fr3) (UWx_fr hu fr3) k2 (RowAt_fr hr fr3 (Nat.le_refl _)) (fun j j1 j2 => hfit j (by omega) j2) hI2.1 hI2.2 (by omega) (by omega)
        refine ⟨b3, σ3, ?_, s2, s3, s4, FrS_tr fr3 s5⟩
        have k1b : X2_compare_f N (nI (r.length + 1)) (nI (c 1 - sm (q 0) r - q 0 (e i))) (nI (sm (q 3) r + q 3 (e i))) (nI (sm (q 4) r + q 4 (e i))) (sa σ 24 r.length (nI (e i))) = some (nI 0, σ2) := by
          rw [← k1, w0, w3, w4, Nat.sub_sub]
          rfl
        rw [← s1, X2_tryLast_l17.eq_def]
        unfold X2_tryLast_l107
        simp (disch := omega) only [if_pos, if_neg, bnd_e, cal_e, chk_t, isZ_0, isZ_1, isZ_n0, isZ_n1, ald_n, ast_n, stb_n, litI, nI_add, pk_mul, pk_sub, Nat.add_sub_cancel, nar_0, nar_1, nI_leI, nI_ltI, nI_eq, Nat.not_lt_zero, Nat.le_zero_eq, Nat.zero_le, not_true_eq_false, not_false_eq_true, reduceIte, if_true, if_false, ite_self, Bool.false_eq_true, Nat.reduceEqDiff, Nat.reduceAdd, Nat.reduceMul, Nat.reduceSub, Nat.reduceLT, Nat.reduceLeDiff, Nat.reducePow, gi_si, gi_sg, gi_sa, gi_sl, ga_si, ga_sg2, ga_sa, ga_sl, gl_si, gl_sg, gl_sa, gl_sl, e17, e2, x4, l2, mb1, x25, x8, k1b]
      · have mb0 := mb.2 y
        have hnc : ¬ can q c lg r (e i) := fun u => y ⟨fr.mpr ⟨u.2.2.2.1, u.2.2.2.2.1⟩, u.2.2.2.2.2⟩
        obtain ⟨b3, σ3, s1, s2⟩ := tryL N hN r hf hl hfr hbf d (i + 1) n σ b h hp hu hb hr (fun j j1 j2 => hfit j (by omega) j2) (grow (IsB_out hI (fun had => absurd had.1.2 hnc))) (ho.imp id (fun ⟨j, j1, j2⟩ => ⟨j, by omega, j2⟩)) (by omega) (by omega)
        refine ⟨b3, σ3, ?_, s2⟩
        rw [← s1, X2_tryLast_l17.eq_def]
        unfold X2_tryLast_l107
        simp (disch := omega) only [if_pos, if_neg, bnd_e, cal_e, chk_t, isZ_0, isZ_1, isZ_n0, isZ_n1, ald_n, ast_n, stb_n, litI, nI_add, pk_mul, pk_sub, Nat.add_sub_cancel, nar_0, nar_1, nI_leI, nI_ltI, nI_eq, Nat.not_lt_zero, Nat.le_zero_eq, Nat.zero_le, not_true_eq_false, not_false_eq_true, reduceIte, if_true, if_false, ite_self, Bool.false_eq_true, Nat.reduceEqDiff, Nat.reduceAdd, Nat.reduceMul, Nat.reduceSub, Nat.reduceLT, Nat.reduceLeDiff, Nat.reducePow, gi_si, gi_sg, gi_sa, gi_sl, ga_si, ga_sg2, ga_sa, ga_sl, gl_si, gl_sg, gl_sa, gl_sl, e17, e2, x4, l2, mb0]
