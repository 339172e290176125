/-! lay: the class's search, small steps -/
def InX (q : Nat → Nat → Nat) (c : Nat → Nat) (σ : St) : Prop := c 8 ≤ 24 ∧ gi σ 9 = nI (c 8) ∧ (∀ s, s < c 8 → ga σ 4 s = nI (q 0 s) ∧ ga σ 5 s = nI (q 1 s) ∧ ga σ 6 s = nI (q 2 s) ∧ ga σ 25 s = nI (q 3 s) ∧ ga σ 8 s = nI (q 4 s) ∧ 30 ≤ q 0 s ∧ q 0 s ≤ 900 ∧ q 1 s ≤ 11 ∧ q 2 s ≤ 11 ∧ q 3 s ≤ 390 ∧ q 4 s ≤ 1) ∧ gi σ 20 = nI (c 5) ∧ gi σ 21 = nI (c 6) ∧ gi σ 22 = nI (c 7) ∧ gi σ 24 = nI (c 4) ∧ gi σ 25 = nI (c 0 + c 1) ∧ gi σ 26 = nI (c 2) ∧ (c 5 ≤ 599940 ∧ c 6 ≤ 599940 ∧ c 7 ≤ 6 ∧ 1 ≤ c 4 ∧ c 4 ≤ 4 ∧ c 0 ≤ 604800 ∧ c 1 ≤ 3600 ∧ c 2 ≤ 4 ∧ c 9 ≤ 12 ∧ c 3 ≤ 900)
def UWx (c : Nat → Nat) (U W : Nat → Nat) (σ : St) : Prop := (∀ s, s < c 8 → ga σ 26 s = nI (U s) ∧ U s ≤ 2000000) ∧ (∀ a, a < 12 → ga σ 27 a = nI (W a) ∧ W a ≤ 2000000)
def kyI (q : Nat → Nat → Nat) (c : Nat → Nat) : List Nat → Int32
  | [] => if c 9 = 0 then -nI 1 else nI (c 9 - 1)
  | x :: _ => nI (q 2 x)
theorem stp_all : ∀ a, a < 12 → ∀ b, b < 12 → imin (iabs (nI a - nI b)) (nI 12 - iabs (nI a - nI b)) = nI (stp a b) := by decide +kernel
theorem ush_all : ∀ a, a < 49 → iushr (nI a) (nI 1) = nI (a / 2) := by decide +kernel
theorem stp_le {a b : Nat} (ha : a ≤ 11) (hb : b ≤ 11) : stp a b ≤ 6 := by
  unfold stp
  split <;> split <;> omega
theorem x_steps (N : Nat) {a b : Nat} (ha : a ≤ 11) (hb : b ≤ 11) (σ : St) : X2_stepsApart_f N (nI a) (nI b) σ = some (nI (stp a b), σ) := by
  have e := stp_all a (by omega) b (by omega)
  show some (imin (iabs (nI a - nI b)) (nI 12 - iabs (nI a - nI b)), σ) = _
  rw [e]
theorem nI_nm1 {n : Nat} (h : n < 2 ^ 31) : (nI n = -nI 1) = False := by
  refine eq_false (fun z => ?_)
  have a := nI_toInt h
  rw [z] at a
  have b : (-nI 1).toInt = -1 := rfl
  rw [b] at a
  omega
theorem nI_lm1 {n : Nat} (h : n < 2 ^ 31) : (nI n ≤ -nI 1) = False := by
  refine eq_false (fun z => ?_)
  rw [Int32.le_iff_toInt_le, nI_toInt h] at z
  have b : (-nI 1).toInt = -1 := rfl
  rw [b] at z
  omega
theorem m1_lt {n : Nat} (h : n < 2 ^ 31) : (-nI 1 < nI n) = True := by
  refine eq_true ?_
  rw [Int32.lt_iff_toInt_lt, nI_toInt h]
  have b : (-nI 1).toInt = -1 := rfl
  rw [b]
  omega
theorem subI_toInt {a b : Nat} (ha : a < 2 ^ 31) (hb : b < 2 ^ 31) : (nI a - nI b).toInt = (a : Int) - (b : Int) := by
  rw [Int32.toInt_sub, nI_toInt ha, nI_toInt hb, Int.bmod_eq_of_le]
  · omega
  · omega
theorem subI_lt {a b u : Nat} (ha : a < 2 ^ 30) (hb : b < 2 ^ 30) (hu : u < 2 ^ 30) : (nI a - nI b < nI u) = (a < u + b) := by
  apply propext
  rw [Int32.lt_iff_toInt_lt, subI_toInt (by omega) (by omega), nI_toInt (by omega)]
  omega
theorem imax0 {a b : Nat} (ha : a < 2 ^ 30) (hb : b < 2 ^ 30) : imax (nI 0) (nI a - nI b) = nI (a - b) := by
  unfold imax
  by_cases z : b < a
  · rw [if_pos]
    · exact pk_sub (by omega)
    · rw [Int32.lt_iff_toInt_lt, subI_toInt (by omega) (by omega), nI_toInt (by omega)]
      omega
  · rw [if_neg]
    · rw [show a - b = 0 by omega]
    · rw [Int32.lt_iff_toInt_lt, subI_toInt (by omega) (by omega), nI_toInt (by omega)]
      omega
theorem x_may (N : Nat) {q : Nat → Nat → Nat} {c : Nat → Nat} {σ : St} {U W : Nat → Nat} (h : InX q c σ) (hu : UWx c U W σ) {s t : Nat} (hs : s < c 8) (ht : t ≤ 700000) (r : List Nat) (hr : ∀ x, x ∈ r → x < c 8) : ((U s ≤ t ∧ W (q 1 s) ≤ t) ∧ okK q c r s → X2_mayBegin_f N (nI s) (nI t) (kyI q c r) σ = some (nI 1, σ)) ∧ (¬ ((U s ≤ t ∧ W (q 1 s) ≤ t) ∧ okK q c r s) → X2_mayBegin_f N (nI s) (nI t) (kyI q c r) σ = some (nI 0, σ)) := by
  obtain ⟨h24, -, h3, -, -, g22, -, -, -, -, -, c7, -, -, -, -, -, c9, -⟩ := h
  obtain ⟨x4, x5, x6, x25, x8, b1, b2, b3, b4, b5, b6⟩ := h3 s hs
  obtain ⟨u1, u2⟩ := hu.1 s hs
  obtain ⟨w1, w2⟩ := hu.2 (q 1 s) (by omega)
  unfold X2_mayBegin_f X2_mayBegin_l49
  by_cases z1 : t < U s
  · refine ⟨fun z => absurd z.1.1 (by omega), fun _ => ?_⟩
    simp (disch := omega) only [if_pos, if_neg, bnd_e, cal_e, chk_t, isZ_0, isZ_1, isZ_n0, isZ_n1, ald_n, ast_n, stb_n, litI, nI_add, pk_mul, pk_sub, Nat.add_sub_cancel, nar_0, nar_1, nI_leI, nI_ltI, nI_eq, Nat.not_lt_zero, Nat.le_zero_eq, Nat.zero_le, not_true_eq_false, not_false_eq_true, reduceIte, if_true, if_false, ite_self, Bool.false_eq_true, Nat.reduceEqDiff, Nat.reduceAdd, Nat.reduceMul, Nat.reduceSub, Nat.reduceLT, Nat.reduceLeDiff, Nat.reducePow, gi_si, gi_sg, gi_sa, gi_sl, ga_si, ga_sg2, ga_sa, ga_sl, gl_si, gl_sg, gl_sa, gl_sl, u1]
  by_cases z2 : t < W (q 1 s)
  · refine ⟨fun z => absurd z.1.2 (by omega), fun _ => ?_⟩
    simp (disch := omega) only [if_pos, if_neg, bnd_e, cal_e, chk_t, isZ_0, isZ_1, isZ_n0, isZ_n1, ald_n, ast_n, stb_n, litI, nI_add, pk_mul, pk_sub, Nat.add_sub_cancel, nar_0, nar_1, nI_leI, nI_ltI, nI_eq, Nat.not_lt_zero, Nat.le_zero_eq, Nat.zero_le, not_true_eq_false, not_false_eq_true, reduceIte, if_true, if_false, ite_self, Bool.false_eq_true, Nat.reduceEqDiff, Nat.reduceAdd, Nat.reduceMul, Nat.reduceSub, Nat.reduceLT, Nat.reduceLeDiff, Nat.reducePow, gi_si, gi_sg, gi_sa, gi_sl, ga_si, ga_sg2, ga_sa, ga_sl, gl_si, gl_sg, gl_sa, gl_sl, u1, x5, w1]
  have key : ∀ k : Nat, k ≤ 11 → (stp k (q 2 s) ≤ c 7 → (if nI k = -nI 1 then some (nI 1, σ) else ald σ 6 24 (nI s) fun v4 => cal (X2_stepsApart_f N (nI k) v4 σ) fun v5 s1 => if gi s1 22 < v5 then some (nI 0, s1) else some (nI 1, s1)) = some (nI 1, σ)) ∧ (¬ stp k (q 2 s) ≤ c 7 → (if nI k = -nI 1 then some (nI 1, σ) else ald σ 6 24 (nI s) fun v4 => cal (X2_stepsApart_f N (nI k) v4 σ) fun v5 s1 => if gi s1 22 < v5 then some (nI 0, s1) else some (nI 1, s1)) = some (nI 0, σ)) := fun k hk => by
    have e := x_steps N (a := k) (b := q 2 s) hk b4 σ
    have hl := stp_le hk b4
    refine ⟨fun z => ?_, fun z => ?_⟩
    · simp (disch := omega) only [if_pos, if_neg, bnd_e, cal_e, chk_t, isZ_0, isZ_1, isZ_n0, isZ_n1, ald_n, ast_n, stb_n, litI, nI_add, pk_mul, pk_sub, Nat.add_sub_cancel, nar_0, nar_1, nI_leI, nI_ltI, nI_eq, Nat.not_lt_zero, Nat.le_zero_eq, Nat.zero_le, not_true_eq_false, not_false_eq_true, reduceIte, if_true, if_false, ite_self, Bool.false_eq_true, Nat.reduceEqDiff, Nat.reduceAdd, Nat.reduceMul, Nat.reduceSub, Nat.reduceLT, Nat.reduceLeDiff, Nat.reducePow, gi_si, gi_sg, gi_sa, gi_sl, ga_si, ga_sg2, ga_sa, ga_sl, gl_si, gl_sg, gl_sa, gl_sl, nI_nm1, x6, e, g22]
    · simp (disch := omega) only [if_pos, if_neg, bnd_e, cal_e, chk_t, isZ_0, isZ_1, isZ_n0, isZ_n1, ald_n, ast_n, stb_n, litI, nI_add, pk_mul, pk_sub, Nat.add_sub_cancel, nar_0, nar_1, nI_leI, nI_ltI, nI_eq, Nat.not_lt_zero, Nat.le_zero_eq, Nat.zero_le, not_true_eq_false, not_false_eq_true, reduceIte, if_true, if_false, ite_self, Bool.false_eq_true, Nat.reduceEqDiff, Nat.reduceAdd, Nat.reduceMul, Nat.reduceSub, Nat.reduceLT, Nat.reduceLeDiff, Nat.reducePow, gi_si, gi_sg, gi_sa, gi_sl, ga_si, ga_sg2, ga_sa, ga_sl, gl_si, gl_sg, gl_sa, gl_sl, nI_nm1, x6, e, g22]
  have z : (U s ≤ t ∧ W (q 1 s) ≤ t) := ⟨by omega, by omega⟩
  have st : ∀ v : Int32, (ald σ 26 24 (nI s) fun v1 => if nI t < v1 then some (0, σ) else ald σ 5 24 (nI s) fun v2 => ald σ 27 12 v2 fun v3 => if nI t < v3 then some (0, σ) else if v = -1 then some (1, σ) else ald σ 6 24 (nI s) fun v4 => cal (X2_stepsApart_f N v v4 σ) fun v5 s1 => if gi s1 22 < v5 then some (0, s1) else some (1, s1)) = (if v = -nI 1 then some (nI 1, σ) else ald σ 6 24 (nI s) fun v4 => cal (X2_stepsApart_f N v v4 σ) fun v5 s1 => if gi s1 22 < v5 then some (nI 0, s1) else some (nI 1, s1)) := fun v => by
    simp (disch := omega) only [if_pos, if_neg, bnd_e, cal_e, chk_t, isZ_0, isZ_1, isZ_n0, isZ_n1, ald_n, ast_n, stb_n, litI, nI_add, pk_mul, pk_sub, Nat.add_sub_cancel, nar_0, nar_1, nI_leI, nI_ltI, nI_eq, Nat.not_lt_zero, Nat.le_zero_eq, Nat.zero_le, not_true_eq_false, not_false_eq_true, reduceIte, if_true, if_false, ite_self, Bool.false_eq_true, Nat.reduceEqDiff, Nat.reduceAdd, Nat.reduceMul, Nat.reduceSub, Nat.reduceLT, Nat.reduceLeDiff, Nat.reducePow, gi_si, gi_sg, gi_sa, gi_sl, ga_si, ga_sg2, ga_sa, ga_sl, gl_si, gl_sg, gl_sa, gl_sl, u1, x5, w1]
  rw [st]
  cases r with
  | nil =>
    show ((_ ∧ (c 9 = 0 ∨ stp (c 9 - 1) (q 2 s) ≤ c 7)) → _) ∧ (¬ (_ ∧ (c 9 = 0 ∨ stp (c 9 - 1) (q 2 s) ≤ c 7)) → _)
    unfold kyI
    by_cases y : c 9 = 0
    · rw [if_pos y, if_pos rfl]
      exact ⟨fun _ => rfl, fun w => absurd ⟨z, Or.inl y⟩ w⟩
    · rw [if_neg y]
      obtain ⟨k1, k2⟩ := key (c 9 - 1) (by omega)
      exact ⟨fun w => k1 (w.2.elim (fun o => absurd o y) id), fun w => k2 (fun o => w ⟨z, Or.inr o⟩)⟩
  | cons x r =>
    have hx := (h3 x (hr x List.mem_cons_self)).2.2.2.2.2.2.2.2.1
    obtain ⟨k1, k2⟩ := key (q 2 x) hx
    exact ⟨fun w => k1 w.2, fun w => k2 (fun o => w ⟨z, o⟩)⟩
/-- the free seconds, against the log and the row -/
def Fre (q : Nat → Nat → Nat) (c : Nat → Nat) (lg : Nat → Nat → Prop) (U W : Nat → Nat) (r : List Nat) : Prop := ∀ s, s < c 8 → ∀ t, c 0 + sm (q 0) r ≤ t → ((U s ≤ t ∧ W (q 1 s) ≤ t) ↔ (lg s t ∧ okR q c r s t))
def updN (f : Nat → Nat) (k x : Nat) : Nat → Nat := fun j => if j = k then x else f j
theorem Fre_s {q : Nat → Nat → Nat} {c : Nat → Nat} {lg : Nat → Nat → Prop} {U W : Nat → Nat} {r : List Nat} (h : Fre q c lg U W r) {s : Nat} (hs : s < c 8) (h1 : U s ≤ c 0 + sm (q 0) r) (h2 : W (q 1 s) ≤ c 0 + sm (q 0) r) : Fre q c lg (updN U s (c 0 + sm (q 0) r + c 5)) (updN W (q 1 s) (c 0 + sm (q 0) r + c 6)) (s :: r) := by
  intro s2 hs2 t ht
  have e : c 0 + sm (q 0) (s :: r) = c 0 + (sm (q 0) r + q 0 s) := rfl
  rw [e] at ht
  have f := h s2 hs2 t (by omega)
  show _ ↔ lg s2 t ∧ (c 0 + sm (q 0) r + rs q c s s2 ≤ t ∧ okR q c r s2 t)
  unfold updN rs
  by_cases z : s2 = s
  · subst z
    rw [if_pos rfl, if_pos rfl, if_pos rfl, if_pos rfl]
    have g := f.mp ⟨by omega, by omega⟩
    constructor
    · intro y
      exact ⟨g.1, by omega, g.2⟩
    · intro y
      have := y.2.1
      omega
  · rw [if_neg z, if_neg (show ¬ s = s2 from fun y => z y.symm)]
    by_cases w : q 1 s2 = q 1 s
    · rw [if_pos w, if_pos w.symm]
      constructor
      · intro y
        have g := f.mp ⟨y.1, by rw [w]; omega⟩
        exact ⟨g.1, by omega, g.2⟩
      · intro y
        have g := f.mpr ⟨y.1, y.2.2⟩
        exact ⟨g.1, by have := y.2.1; omega⟩
    · rw [if_neg w, if_neg (show ¬ q 1 s = q 1 s2 from fun y => w y.symm)]
      constructor
      · intro y
        have g := f.mp y
        exact ⟨g.1, by omega, g.2⟩
      · intro y
        exact f.mpr ⟨y.1, y.2.2⟩
