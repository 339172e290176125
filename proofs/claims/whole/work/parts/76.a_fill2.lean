/-! lay: fill's loops -/
theorem f55 (N : Nat) (hN : 10 < N) (k24 : Int32 → Int32 → Int32 → Int32 → Int32 → St → Option (Int32 × St)) (k43 : Int32 → Int32 → Int32 → Int32 → Int32 → Int32 → St → Option (Int32 × St)) {q : Nat → Nat → Nat} {c : Nat → Nat} {lg : Nat → Nat → Prop} {x3 : Int32} {n : Nat} {R : Nat → List Nat} {m x6 : Nat} (h6 : x6 < m) : ∀ (d i f : Nat) (σ : St), FlS q c lg x3 n R m σ → FlD q c lg n R x6 i σ → i + d = c 8 → d < f → ∃ σ2 : St, X7_fill_l55 N k24 k43 f (nI (c 0)) (nI (c 1)) x3 (nI (c 2)) (nI n) (nI x6) (nI i) σ = k43 (nI (c 0)) (nI (c 1)) x3 (nI (c 2)) (nI n) (nI (x6 + 1)) σ2 ∧ FrM σ σ2 ∧ FlS q c lg x3 n R m σ2 ∧ FlD q c lg n R x6 (c 8) σ2
  | _, _, 0, _, _, _, _, h => absurd h (by omega)
  | 0, i, f + 1, σ, h, hd, h1, h2 => by
    obtain rfl : i = c 8 := by omega
    have hmb : Mb n m := h.2.2.2.2.2.2.2.2.2.1
    have h24 := h.1.1
    have e12 := h.1.2.1
    refine ⟨σ, ?_, FrM_rfl σ, h, hd⟩
    unfold Mb at hmb
    rw [X7_fill_l55.eq_def]
    simp (disch := omega) only [if_pos, if_neg, bnd_e, cal_e, chk_t, isZ_0, isZ_1, isZ_n0, isZ_n1, ald_n, ast_n, stb_n, litI, nI_add, pk_mul, pk_sub, Nat.add_sub_cancel, nar_0, nar_1, nI_leI, nI_ltI, nI_eq, Nat.not_lt_zero, Nat.le_zero_eq, Nat.zero_le, not_true_eq_false, not_false_eq_true, reduceIte, if_true, if_false, ite_self, Bool.false_eq_true, Nat.reduceEqDiff, Nat.reduceAdd, Nat.reduceMul, Nat.reduceSub, Nat.reduceLT, Nat.reduceLeDiff, Nat.reducePow, gi_si, gi_sg, gi_sa, gi_sl, ga_si, ga_sg2, ga_sa, ga_sl, gl_si, gl_sg, gl_sa, gl_sl, e12]
  | d + 1, i, f + 1, σ, h, hd, h1, h2 => by
    have hmb : Mb n m := h.2.2.2.2.2.2.2.2.2.1
    have h24 := h.1.1
    have e12 := h.1.2.1
    have hc1 : c 1 ≤ 3600 := h.2.2.2.2.2.1
    have hi : i < c 8 := by omega
    have hlv : Lv q c lg n (ga σ 25) (ga σ 27) R m := h.2.2.2.2.2.2.2.2.2.2
    obtain ⟨l1, l2, l3, l4⟩ := hlv x6 h6
    have hsum := Fs_sum _ l4
    obtain ⟨e10, -, -, -, -, -, b2, -⟩ := h.1.2.2.1 i hi
    have md := h.2.2.2.1 i hi
    unfold Mb at hmb
    have st : ∃ σ2 : St, X7_fill_l55 N k24 k43 (f + 1) (nI (c 0)) (nI (c 1)) x3 (nI (c 2)) (nI n) (nI x6) (nI i) σ = X7_fill_l55 N k24 k43 f (nI (c 0)) (nI (c 1)) x3 (nI (c 2)) (nI n) (nI x6) (nI (i + 1)) σ2 ∧ FrM σ σ2 ∧ FlS q c lg x3 n R m σ2 ∧ FlD q c lg n R x6 (i + 1) σ2 := by
      by_cases z : c 1 < sm (q 0) (R x6) + q 0 i
      · refine ⟨σ, ?_, FrM_rfl σ, h, FlD_no hd (fun y => absurd y.2.2.1 (by omega))⟩
        rw [X7_fill_l55.eq_def]
        unfold X7_fill_l258
        simp (disch := omega) only [if_pos, if_neg, bnd_e, cal_e, chk_t, isZ_0, isZ_1, isZ_n0, isZ_n1, ald_n, ast_n, stb_n, litI, nI_add, pk_mul, pk_sub, Nat.add_sub_cancel, nar_0, nar_1, nI_leI, nI_ltI, nI_eq, Nat.not_lt_zero, Nat.le_zero_eq, Nat.zero_le, not_true_eq_false, not_false_eq_true, reduceIte, if_true, if_false, ite_self, Bool.false_eq_true, Nat.reduceEqDiff, Nat.reduceAdd, Nat.reduceMul, Nat.reduceSub, Nat.reduceLT, Nat.reduceLeDiff, Nat.reducePow, gi_si, gi_sg, gi_sa, gi_sl, ga_si, ga_sg2, ga_sa, ga_sl, gl_si, gl_sg, gl_sa, gl_sl, e12, l2, e10]
      · by_cases y : x3 = -nI 1
        · obtain ⟨σ2, s1, s2⟩ := f103 N hN k24 k43 (X7_fill_l55 N k24 k43 f) h hd h6 hi (md.mpr (Or.inl y)) (by omega)
          refine ⟨σ2, ?_, s2⟩
          rw [← s1, X7_fill_l55.eq_def]
          simp (disch := omega) only [if_pos, if_neg, bnd_e, cal_e, chk_t, isZ_0, isZ_1, isZ_n0, isZ_n1, ald_n, ast_n, stb_n, litI, nI_add, pk_mul, pk_sub, Nat.add_sub_cancel, nar_0, nar_1, nI_leI, nI_ltI, nI_eq, Nat.not_lt_zero, Nat.le_zero_eq, Nat.zero_le, not_true_eq_false, not_false_eq_true, reduceIte, if_true, if_false, ite_self, Bool.false_eq_true, Nat.reduceEqDiff, Nat.reduceAdd, Nat.reduceMul, Nat.reduceSub, Nat.reduceLT, Nat.reduceLeDiff, Nat.reducePow, gi_si, gi_sg, gi_sa, gi_sl, ga_si, ga_sg2, ga_sa, ga_sl, gl_si, gl_sg, gl_sa, gl_sl, e12, l2, e10]
        · by_cases w : ga σ 13 i = x3
          · obtain ⟨σ2, s1, s2⟩ := f103 N hN k24 k43 (X7_fill_l55 N k24 k43 f) h hd h6 hi (md.mpr (Or.inr w)) (by omega)
            refine ⟨σ2, ?_, s2⟩
            rw [← s1, X7_fill_l55.eq_def]
            simp (disch := omega) only [if_pos, if_neg, bnd_e, cal_e, chk_t, isZ_0, isZ_1, isZ_n0, isZ_n1, ald_n, ast_n, stb_n, litI, nI_add, pk_mul, pk_sub, Nat.add_sub_cancel, nar_0, nar_1, nI_leI, nI_ltI, nI_eq, Nat.not_lt_zero, Nat.le_zero_eq, Nat.zero_le, not_true_eq_false, not_false_eq_true, reduceIte, if_true, if_false, ite_self, Bool.false_eq_true, Nat.reduceEqDiff, Nat.reduceAdd, Nat.reduceMul, Nat.reduceSub, Nat.reduceLT, Nat.reduceLeDiff, Nat.reducePow, gi_si, gi_sg, gi_sa, gi_sl, ga_si, ga_sg2, ga_sa, ga_sl, gl_si, gl_sg, gl_sa, gl_sl, e12, l2, e10]
          · refine ⟨σ, ?_, FrM_rfl σ, h, FlD_no hd (fun u => (md.mp u.2.1).elim y w)⟩
            rw [X7_fill_l55.eq_def]
            unfold X7_fill_l258
            simp (disch := omega) only [if_pos, if_neg, bnd_e, cal_e, chk_t, isZ_0, isZ_1, isZ_n0, isZ_n1, ald_n, ast_n, stb_n, litI, nI_add, pk_mul, pk_sub, Nat.add_sub_cancel, nar_0, nar_1, nI_leI, nI_ltI, nI_eq, Nat.not_lt_zero, Nat.le_zero_eq, Nat.zero_le, not_true_eq_false, not_false_eq_true, reduceIte, if_true, if_false, ite_self, Bool.false_eq_true, Nat.reduceEqDiff, Nat.reduceAdd, Nat.reduceMul, Nat.reduceSub, Nat.reduceLT, Nat.reduceLeDiff, Nat.reducePow, gi_si, gi_sg, gi_sa, gi_sl, ga_si, ga_sg2, ga_sa, ga_sl, gl_si, gl_sg, gl_sa, gl_sl, e12, l2, e10]
    obtain ⟨σ2, s1, s2, s3, s4⟩ := st
    obtain ⟨σ3, t1, t2, t3, t4⟩ := f55 N hN k24 k43 h6 d (i + 1) f σ2 s3 s4 (by omega) (by omega)
    exact ⟨σ3, s1.trans t1, FrM_tr s2 t2, t3, t4⟩
/-- a row is done -/
theorem FlD_row {q : Nat → Nat → Nat} {c : Nat → Nat} {lg : Nat → Nat → Prop} {n : Nat} {R : Nat → List Nat} {x6 : Nat} {σ : St} (h8 : c 8 ≤ 24) (h : FlD q c lg n R x6 (c 8) σ) : FlD q c lg n R (x6 + 1) 0 σ := by
  obtain ⟨R2, m2, b, a1, a2, a3, a4, a5, a6, a7⟩ := h
  have dn : ∀ r, Fs q c lg r → (Dn R x6 (c 8) r ↔ Dn R (x6 + 1) 0 r) := fun r hr => by
    constructor
    · rintro ⟨s, j, e, z | ⟨z1, z2⟩⟩
      · exact ⟨s, j, e, Or.inl (by omega)⟩
      · exact ⟨s, j, e, Or.inl (by omega)⟩
    · rintro ⟨s, j, e, z | ⟨z1, z2⟩⟩
      · by_cases w : j = x6
        · refine ⟨s, j, e, Or.inr ⟨w, ?_⟩⟩
          rw [e] at hr
          exact hr.2.1
        · exact ⟨s, j, e, Or.inl (by omega)⟩
      · omega
  refine ⟨R2, m2, b, a1, by omega, a3, a4, fun z r hr hd => a5 z r hr ((dn r hr).mpr hd), a6, IsB_iff a7 fun r => ?_⟩
  constructor
  · rintro ⟨y1, y2⟩
    exact ⟨y1, y2.imp id (fun w => (dn r y1.1).mp w)⟩
  · rintro ⟨y1, y2⟩
    exact ⟨y1, y2.imp id (fun w => (dn r y1.1).mpr w)⟩
/-- the level n, before it is gone through -/
def FlL (q : Nat → Nat → Nat) (c : Nat → Nat) (lg : Nat → Nat → Prop) (x3 : Int32) (n : Nat) (σ : St) : Prop := InM q c σ ∧ KyM q c σ ∧ SoA c lg σ ∧ MdM q c x3 σ ∧ c 0 ≤ 604800 ∧ c 1 ≤ 3600 ∧ c 2 ≤ 4 ∧ n ≤ c 4 ∧ (∃ (R : Nat → List Nat) (m : Nat), gi σ 17 = nI m ∧ (n < c 4 → Mb n m ∧ Lv q c lg n (ga σ 25) (ga σ 27) R m ∧ ∀ r, Fs q c lg r → r.length = n → ∃ j, j < m ∧ R j = r)) ∧ ∃ b : Option (List Nat), BeM q c σ b ∧ IsB q c (fun r => Ad q c lg r ∧ r.length ≤ n) b
theorem BeM_cg {q : Nat → Nat → Nat} {c : Nat → Nat} {σ σ2 : St} {b : Option (List Nat)} (h : BeM q c σ b) (e19 : gi σ2 19 = gi σ 19) (e20 : gi σ2 20 = gi σ 20) (e21 : gi σ2 21 = gi σ 21) (e29 : ga σ2 29 = ga σ 29) : BeM q c σ2 b := by
  cases b with
  | none =>
    show gi σ2 19 = nI 0
    rw [e19]
    exact h
  | some r0 =>
    show RowAt (ga σ2 29) 0 r0 ∧ gi σ2 19 = _ ∧ gi σ2 20 = _ ∧ gi σ2 21 = _ ∧ _
    rw [e19, e20, e21, e29]
    exact h
theorem f43 (N : Nat) (hN : 60000 < N) (k24 : Int32 → Int32 → Int32 → Int32 → Int32 → St → Option (Int32 × St)) {q : Nat → Nat → Nat} {c : Nat → Nat} {lg : Nat → Nat → Prop} {x3 : Int32} {n : Nat} {R : Nat → List Nat} {m : Nat} (hall : ∀ r, Fs q c lg r → r.length = n → ∃ j, j < m ∧ R j = r) : ∀ (d i f : Nat) (σ : St), FlS q c lg x3 n R m σ → FlD q c lg n R i 0 σ → i + d = m → d < f → ∃ σ2 : St, X7_fill_l43 N k24 f (nI (c 0)) (nI (c 1)) x3 (nI (c 2)) (nI n) (nI i) σ = k24 (nI (c 0)) (nI (c 1)) x3 (nI (c 2)) (nI (n + 1)) σ2 ∧ FrM σ σ2 ∧ FlL q c lg x3 (n + 1) σ2
  | _, _, 0, _, _, _, _, h => absurd h (by omega)
  | 0, i, f + 1, σ, h, hd, h1, h2 => by
    obtain rfl : i = m := by omega
    have hmb : Mb n i := h.2.2.2.2.2.2.2.2.2.1
    have hn4 : n + 1 ≤ c 4 := h.2.2.2.2.2.2.2.1
    have hc4 : c 4 ≤ 4 := h.1.2.2.2.2.2.2.2.2.2.2
    have e17 : gi σ 17 = nI i := h.2.2.2.2.2.2.2.2.1
    obtain ⟨R2, m2, b, a1, a2, a3, a4, a5, a6, a7⟩ := hd
    have hm2 : m2 ≤ 13824 := by
      unfold Mb at hmb
      omega
    obtain ⟨σ2, b1, b2, b3, b4⟩ := fcopy1 N hm2 k24 (nI (c 0)) (nI (c 1)) x3 (nI (c 2)) (nI n) (4 * m2) 0 N (si σ 17 (nI m2)) a1 (by omega) (by omega) (fun k hk => absurd hk (by omega))
    have g18 : gi σ2 18 = nI m2 := by
      rw [b3 18]
      exact a1
    obtain ⟨σ3, d1, d2, d3, d4⟩ := fcopy2 N hm2 (x5 := n) (by omega) k24 (nI (c 0)) (nI (c 1)) x3 (nI (c 2)) m2 0 N σ2 g18 (by omega) (by omega) (fun k hk => absurd hk (by omega))
    have gj : ∀ j, j ≠ 17 → gi σ3 j = gi σ j := fun j hj => by
      rw [d3 j, b3 j, gi_si, if_neg hj]
    have gaa : ∀ a, a ≠ 25 → a ≠ 27 → ga σ3 a = ga σ a := fun a ha1 ha2 => by
      rw [d4 a ha2, b4 a ha1, ga_si]
    have fr : FrM σ σ3 := ⟨fun j hj => gj j (by omega), fun a ha => gaa a (by omega) (by omega)⟩
    have h11 : Lv q c lg n (ga σ 25) (ga σ 27) R i := h.2.2.2.2.2.2.2.2.2.2
    obtain ⟨q1, q2, q3, q4, q5, q6, q7, -⟩ := h
    refine ⟨σ3, ?_, fr, InM_fr q1 fr, KyM_fr q2 fr, ?_, ?_, q5, q6, q7, hn4, ⟨R2, m2, ?_, fun hlt => ⟨?_, ?_, ?_⟩⟩, b, BeM_cg a6 (gj 19 (by omega)) (gj 20 (by omega)) (gj 21 (by omega)) (gaa 29 (by omega) (by omega)), ?_⟩
    · rw [X7_fill_l43.eq_def]
      unfold Mb at hmb
      simp (disch := omega) only [if_pos, if_neg, bnd_e, cal_e, chk_t, isZ_0, isZ_1, isZ_n0, isZ_n1, ald_n, ast_n, stb_n, litI, nI_add, pk_mul, pk_sub, Nat.add_sub_cancel, nar_0, nar_1, nI_leI, nI_ltI, nI_eq, Nat.not_lt_zero, Nat.le_zero_eq, Nat.zero_le, not_true_eq_false, not_false_eq_true, reduceIte, if_true, if_false, ite_self, Bool.false_eq_true, Nat.reduceEqDiff, Nat.reduceAdd, Nat.reduceMul, Nat.reduceSub, Nat.reduceLT, Nat.reduceLeDiff, Nat.reducePow, gi_si, gi_sg, gi_sa, gi_sl, ga_si, ga_sg2, ga_sa, ga_sl, gl_si, gl_sg, gl_sa, gl_sl, e17, a1]
      exact b1.trans d1
    · unfold SoA at *
      rw [gaa 24 (by omega) (by omega)]
      exact q3
    · unfold MdM at *
      rw [gaa 13 (by omega) (by omega)]
      exact q4
    · rw [d3 17, b3 17]
      rfl
    · unfold Mb at *
      omega
    · intro j hj
      obtain ⟨o1, o2, o3, o4⟩ := a4 j hj
      refine ⟨RowAt_cg (R2 j) (fun k hk => ?_) o1, ?_, o3, o4⟩
      · rw [d4 25 (by omega), b2 (4 * j + k) (by omega)]
        rfl
      · rw [d2 j hj, b4 28 (by omega)]
        exact o2
    · intro r hr hl
      cases r with
      | nil => exact absurd hl (fun y => Nat.succ_ne_zero n y.symm)
      | cons s r =>
        obtain ⟨j, j1, j2⟩ := hall r hr.1 (Nat.succ.inj hl)
        exact a5 hlt (s :: r) hr ⟨s, j, by rw [j2], Or.inl j1⟩
    · refine IsB_iff a7 fun r => ?_
      constructor
      · rintro ⟨y1, y2⟩
        refine ⟨y1, ?_⟩
        rcases y2 with y2 | ⟨s, j, e, z | ⟨z1, z2⟩⟩
        · omega
        · rw [e]
          have := (h11 j z).2.2.1
          show (R j).length + 1 ≤ n + 1
          omega
        · omega
      · rintro ⟨y1, y2⟩
        refine ⟨y1, ?_⟩
        by_cases w : r.length ≤ n
        · exact Or.inl w
        · cases r with
          | nil => exact absurd (Nat.zero_le n) w
          | cons s r =>
            have y2b : r.length + 1 ≤ n + 1 := y2
            have w2 : ¬ r.length + 1 ≤ n := w
            obtain ⟨j, j1, j2⟩ := hall r y1.1.1 (by omega)
            exact Or.inr ⟨s, j, by rw [j2], Or.inl j1⟩
  | d + 1, i, f + 1, σ, h, hd, h1, h2 => by
    have hmb : Mb n m := h.2.2.2.2.2.2.2.2.2.1
    have e17 : gi σ 17 = nI m := h.2.2.2.2.2.2.2.2.1
    have h24 := h.1.1
    obtain ⟨σ2, s1, s2, s3, s4⟩ := f55 N (by omega) k24 (X7_fill_l43 N k24 f) (x6 := i) (by omega) (c 8) 0 N σ h hd (by omega) (by omega)
    obtain ⟨σ3, t1, t2, t3⟩ := f43 N hN k24 hall d (i + 1) f σ2 s3 (FlD_row h24 s4) (by omega) (by omega)
    refine ⟨σ3, ?_, FrM_tr s2 t2, t3⟩
    rw [← t1, ← s1, X7_fill_l43.eq_def]
    unfold Mb at hmb
    simp (disch := omega) only [if_pos, if_neg, bnd_e, cal_e, chk_t, isZ_0, isZ_1, isZ_n0, isZ_n1, ald_n, ast_n, stb_n, litI, nI_add, pk_mul, pk_sub, Nat.add_sub_cancel, nar_0, nar_1, nI_leI, nI_ltI, nI_eq, Nat.not_lt_zero, Nat.le_zero_eq, Nat.zero_le, not_true_eq_false, not_false_eq_true, reduceIte, if_true, if_false, ite_self, Bool.false_eq_true, Nat.reduceEqDiff, Nat.reduceAdd, Nat.reduceMul, Nat.reduceSub, Nat.reduceLT, Nat.reduceLeDiff, Nat.reducePow, gi_si, gi_sg, gi_sa, gi_sl, ga_si, ga_sg2, ga_sa, ga_sl, gl_si, gl_sg, gl_sa, gl_sl, e17]
theorem f24 (N : Nat) (hN : 60000 < N) {q : Nat → Nat → Nat} {c : Nat → Nat} {lg : Nat → Nat → Prop} {x3 : Int32} : ∀ (d n f : Nat) (σ : St), FlL q c lg x3 n σ → n + d = c 4 → d < f → ∃ (b : Option (List Nat)) (σ2 : St), X7_fill_l24 N f (nI (c 0)) (nI (c 1)) x3 (nI (c 2)) (nI n) σ = some (nI 0, σ2) ∧ FrM σ σ2 ∧ BeM q c σ2 b ∧ IsB q c (Ad q c lg) b
  | _, _, 0, _, _, _, h => absurd h (by omega)
  | 0, n, f + 1, σ, h, h1, h2 => by
    have hc4 : c 4 ≤ 4 := h.1.2.2.2.2.2.2.2.2.2.2
    have e14 : ga σ 1 4 = nI (c 4) := h.1.2.2.2.2.2.2.2.2.1
    obtain ⟨b, b1, b2⟩ := h.2.2.2.2.2.2.2.2.2
    refine ⟨b, σ, ?_, FrM_rfl σ, b1, IsB_iff b2 fun r => ⟨fun z => z.1, fun z => ⟨z, by have := z.2.2.1; omega⟩⟩⟩
    rw [X7_fill_l24.eq_def]
    simp (disch := omega) only [if_pos, if_neg, bnd_e, cal_e, chk_t, isZ_0, isZ_1, isZ_n0, isZ_n1, ald_n, ast_n, stb_n, litI, nI_add, pk_mul, pk_sub, Nat.add_sub_cancel, nar_0, nar_1, nI_leI, nI_ltI, nI_eq, Nat.not_lt_zero, Nat.le_zero_eq, Nat.zero_le, not_true_eq_false, not_false_eq_true, reduceIte, if_true, if_false, ite_self, Bool.false_eq_true, Nat.reduceEqDiff, Nat.reduceAdd, Nat.reduceMul, Nat.reduceSub, Nat.reduceLT, Nat.reduceLeDiff, Nat.reducePow, gi_si, gi_sg, gi_sa, gi_sl, ga_si, ga_sg2, ga_sa, ga_sl, gl_si, gl_sg, gl_sa, gl_sl, e14]
  | d + 1, n, f + 1, σ, h, h1, h2 => by
    have hc4 : c 4 ≤ 4 := h.1.2.2.2.2.2.2.2.2.2.2
    have e14 : ga σ 1 4 = nI (c 4) := h.1.2.2.2.2.2.2.2.2.1
    obtain ⟨q1, q2, q3, q4, q5, q6, q7, q8, ⟨R, m, r1, r2⟩, b, b1, b2⟩ := h
    obtain ⟨r2, r3, r4⟩ := r2 (by omega)
    have fr0 : FrM σ (si σ 18 (nI 0)) := ⟨fun j hj => by rw [gi_si, if_neg (by omega)], fun _ _ => rfl⟩
    have hm : m ≤ 13824 := by
      unfold Mb at r2
      omega
    obtain ⟨σ2, s1, s2, s3⟩ := f43 N hN (X7_fill_l24 N f) r4 m 0 N (si σ 18 (nI 0)) ⟨InM_fr q1 fr0, KyM_fr q2 fr0, q3, q4, q5, q6, q7, by omega, r1, r2, r3⟩ ⟨R, 0, b, rfl, by omega, fun _ => rfl, fun i hi => absurd hi (by omega), fun _ r _ ⟨s, j, _, hj⟩ => absurd hj (by omega), BeM_cg b1 rfl rfl rfl rfl, IsB_iff b2 fun r => ⟨fun z => ⟨z.1, Or.inl z.2⟩, fun z => ⟨z.1, z.2.elim id (fun ⟨s, j, _, hj⟩ => absurd hj (by omega))⟩⟩⟩ (by omega) (by omega)
    obtain ⟨b3, σ3, t1, t2, t3⟩ := f24 N hN d (n + 1) f σ2 s3 (by omega) (by omega)
    refine ⟨b3, σ3, ?_, FrM_tr fr0 (FrM_tr s2 t2), t3⟩
    rw [← t1, ← s1, X7_fill_l24.eq_def]
    simp (disch := omega) only [if_pos, if_neg, bnd_e, cal_e, chk_t, isZ_0, isZ_1, isZ_n0, isZ_n1, ald_n, ast_n, stb_n, litI, nI_add, pk_mul, pk_sub, Nat.add_sub_cancel, nar_0, nar_1, nI_leI, nI_ltI, nI_eq, Nat.not_lt_zero, Nat.le_zero_eq, Nat.zero_le, not_true_eq_false, not_false_eq_true, reduceIte, if_true, if_false, ite_self, Bool.false_eq_true, Nat.reduceEqDiff, Nat.reduceAdd, Nat.reduceMul, Nat.reduceSub, Nat.reduceLT, Nat.reduceLeDiff, Nat.reducePow, gi_si, gi_sg, gi_sa, gi_sl, ga_si, ga_sg2, ga_sa, ga_sl, gl_si, gl_sg, gl_sa, gl_sl, e14]
/-- THE REFERENCE: fill finds the best row -/
theorem m_fill (N : Nat) (hN : 60000 < N) {q : Nat → Nat → Nat} {c : Nat → Nat} {ps pb : Nat → Nat} {P : Nat} {x3 : Int32} {σ : St} (h : InM q c σ) (hk : KyM q c σ) (hL : LgM c P ps pb σ) (hmd : MdM q c x3 σ) (h0 : c 0 ≤ 604800) (h1 : c 1 ≤ 3600) (h2 : c 2 ≤ 4) : ∃ (b : Option (List Nat)) (σ2 : St), X7_fill_f N (nI (c 0)) (nI (c 1)) x3 (nI (c 2)) σ = some (nI 0, σ2) ∧ FrM σ σ2 ∧ BeM q c σ2 b ∧ IsB q c (Ad q c (lgP q c ps pb P)) b := by
  have h24 := h.1
  obtain ⟨σ1, a1, a2, a3, a4⟩ := ask0_o N (by omega) (c 8) 0 N σ h hL (fun s hs => absurd hs (by omega)) (by omega) (by omega)
  have hc4 : 1 ≤ c 4 ∧ c 4 ≤ 4 := h.2.2.2.2.2.2.2.2.2
  have fr1 : FrM σ (sa (si (si σ1 19 (nI 0)) 17 (nI 1)) 27 0 (nI 0)) := ⟨fun j hj => by
    rw [gi_sa, gi_si, if_neg (by omega), gi_si, if_neg (by omega)]
    exact a3 j, fun a ha => by
    rw [ga_sa, if_neg (by omega)]
    exact a4 a (by omega)⟩
  obtain ⟨b, σ2, b1, b2, b3, b4⟩ := f24 N hN (q := q) (c := c) (lg := lgP q c ps pb P) (x3 := x3) (c 4) 0 N (sa (si (si σ1 19 (nI 0)) 17 (nI 1)) 27 0 (nI 0)) ⟨InM_fr h fr1, KyM_fr hk fr1, fun s hs => a2 s hs, fun s hs => by
    have := hmd s hs
    rw [fr1.2 13 (by omega)]
    exact this, h0, h1, h2, by omega, ⟨fun _ => [], 1, rfl, fun _ => ⟨Or.inl ⟨rfl, Nat.le_refl 1⟩, fun i hi => ⟨trivial, by
      obtain rfl : i = 0 := by omega
      rfl, rfl, trivial⟩, fun r _ hl => ⟨0, by omega, (List.length_eq_zero_iff.mp hl).symm⟩⟩⟩, none, rfl, fun r hr => hr.1.2.1 (List.length_eq_zero_iff.mp (Nat.le_zero.mp hr.2))⟩ (by omega) (by omega)
  refine ⟨b, σ2, ?_, FrM_tr fr1 b2, b3, b4⟩
  rw [← b1]
  unfold X7_fill_f
  have a1b : X7_ask0_f N σ = some (nI 0, σ1) := a1
  simp (disch := omega) only [if_pos, if_neg, bnd_e, cal_e, chk_t, isZ_0, isZ_1, isZ_n0, isZ_n1, ald_n, ast_n, stb_n, litI, nI_add, pk_mul, pk_sub, Nat.add_sub_cancel, nar_0, nar_1, nI_leI, nI_ltI, nI_eq, Nat.not_lt_zero, Nat.le_zero_eq, Nat.zero_le, not_true_eq_false, not_false_eq_true, reduceIte, if_true, if_false, ite_self, Bool.false_eq_true, Nat.reduceEqDiff, Nat.reduceAdd, Nat.reduceMul, Nat.reduceSub, Nat.reduceLT, Nat.reduceLeDiff, Nat.reducePow, gi_si, gi_sg, gi_sa, gi_sl, ga_si, ga_sg2, ga_sa, ga_sl, gl_si, gl_sg, gl_sa, gl_sl, a1b]
