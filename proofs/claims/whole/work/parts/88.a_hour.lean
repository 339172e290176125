/-! lay: the items of an hour -/
theorem sumN_mono {f : Nat → Int32} : ∀ d i : Nat, sumN f i ≤ sumN f (i + d)
  | 0, i => Nat.le_refl _
  | d + 1, i => by
    have := sumN_mono (f := f) d i
    show sumN f i ≤ sumN f (i + d) + (f (i + d)).toNatClampNeg
    omega
theorem cntN_mono {f : Nat → Int32} : ∀ d i : Nat, cntN f i ≤ cntN f (i + d)
  | 0, i => Nat.le_refl _
  | d + 1, i => by
    have := cntN_mono (f := f) d i
    show cntN f i ≤ (if f (i + d) = -1 then cntN f (i + d) else cntN f (i + d) + 1)
    split <;> omega
theorem LR_up {E E2 Z Z2 H P S : Nat} {σx σm : St} (h : LR E Z H P S σx σm) (hE : E ≤ E2) (hZ : Z ≤ Z2) : LR E2 Z2 H P S σx σm := by
  obtain ⟨hS, g1, g2, g3, g4, g5, g6, g7, g8, g9, g10, g11, g12, g13, g14, g15, g16, g17, g18, g19, g20⟩ := h
  refine ⟨hS, g1, g2, g3, g4, g5, g6, g7, g8, g9, g10, g11, g12, g13, g14, g15, fun i hi => g16 i (by omega), g17, fun p hp => ?_, g19, g20⟩
  obtain ⟨b1, s3, b, b2, b3, b4, b5, b6⟩ := g18 p hp
  exact ⟨b1, s3, b, b2, b3, b4, Nat.le_trans b5 hE, b6⟩
theorem LR_close {E Z H P S n : Nat} {σx σm : St} (h : LR E Z H P S σx σm) (hH : H < 168) (hn : n ≤ 8) : LR E Z (H + 1) P S (si (sa σx 17 H (nI n)) 10 (nI (H + 1))) (si (sa σm 30 H (nI n)) 14 (nI (H + 1))) := by
  obtain ⟨hS, g1, g2, g3, g4, g5, g6, g7, g8, g9, g10, g11, g12, g13, g14, g15, g16, g17, g18, g19, g20⟩ := h
  refine ⟨hS, g1, g2, by omega, g4, rfl, rfl, g7, g8, g9, g10, ?_, g12, g13, g14, g15, g16, fun k hk => ?_, g18, g19, g20⟩
  · show upd (ga σx 17) H (nI n) = upd (ga σm 30) H (nI n)
    rw [g11]
  · show rg 0 8 (upd (ga σm 30) H (nI n) k)
    rw [upd_e]
    by_cases z : k = H
    · rw [if_pos z]
      exact rg_mk (Nat.zero_le _) hn
    · rw [if_neg z]
      exact g17 k (by omega)
theorem items_l (N : Nat) (hN : 60000 < N) {j n H S g0 g1 st sl mo : Nat} {A0 A1 A2 A3 m7 m8 m9 : Nat → Int32} (hj : j < 6) (hn : n ≤ 8) (hH : H < 168) (hit : ∀ i, i < n → A0 i = m7 (8 * j + i) ∧ A1 i = m8 (8 * j + i) ∧ rg 1 3600 (m7 (8 * j + i)) ∧ ((A3 i = 0 ∧ m9 (8 * j + i) = -1) ∨ (A3 i = 1 ∧ A2 i = m9 (8 * j + i) ∧ rg 0 4 (m9 (8 * j + i))))) (hsum : sumN (fun i => m7 (8 * j + i)) n = 3600) : ∀ (d i acc T P n1 n2 : Nat) (σx σm : St), LR T (8 * H + i) H P S σx σm → SDt S g0 g1 st sl mo σx σm → gi σx (27 + 3 * j + 0) = nI n → ga σm 6 j = nI n → (ga σx (30 + 4 * j + 0) = A0 ∧ ga σx (30 + 4 * j + 1) = A1 ∧ ga σx (30 + 4 * j + 2) = A2 ∧ ga σx (30 + 4 * j + 3) = A3) → (ga σm 7 = m7 ∧ ga σm 8 = m8 ∧ ga σm 9 = m9) → T = 3600 * H + sumN (fun i => m7 (8 * j + i)) i → P + 4 * cntN (fun i => m9 (8 * j + i)) n ≤ 300 + 4 * cntN (fun i => m9 (8 * j + i)) i → i + d = n → d < n1 → d < n2 → ∃ (r : Int32) (σx2 σm2 : St) (P2 : Nat), X6_lay_l80 N n1 j (nI acc) (nI T) (nI i) σx = some (r, σx2) ∧ X7_lay_l132 N n2 (nI j) (nI T) (nI acc) (nI i) σm = some (r, σm2) ∧ LR (3600 * (H + 1)) (8 * (H + 1)) (H + 1) P2 S σx2 σm2 ∧ FA σx σm σx2 σm2
  | _, _, _, _, _, 0, _, _, _, _, _, _, _, _, _, _, _, _, h, _ => absurd h (by omega)
  | _, _, _, _, _, _ + 1, 0, _, _, _, _, _, _, _, _, _, _, _, _, h => absurd h (by omega)
  | 0, i, acc, T, P, n1 + 1, n2 + 1, σx, σm, h, hd, e27, e6, eA, eM, hT, hP, h1, h2, h3 => by
    obtain rfl : i = n := by omega
    have e10 : gi σx 10 = nI H := h.2.2.2.2.2.1
    have e14 : gi σm 14 = nI H := h.2.2.2.2.2.2.1
    refine ⟨nI acc, si (sa σx 17 H (nI i)) 10 (nI (H + 1)), si (sa σm 30 H (nI i)) 14 (nI (H + 1)), P, ?_, ?_, LR_up (LR_close h hH hn) (by omega) (by omega), fun k hk => ?_, fun a ha => ?_, fun k hk => ?_, fun a ha => ?_⟩
    · rw [X6_lay_l80.eq_def]
      unfold X1_closeHour_f
      simp (disch := omega) only [if_pos, if_neg, bnd_e, cal_e, chk_t, isZ_0, isZ_1, isZ_n0, isZ_n1, ald_n, ast_n, stb_n, litI, nI_add, pk_mul, pk_sub, Nat.add_sub_cancel, nar_0, nar_1, nI_leI, nI_ltI, nI_eq, Nat.not_lt_zero, Nat.le_zero_eq, Nat.zero_le, not_true_eq_false, not_false_eq_true, reduceIte, if_true, if_false, ite_self, Bool.false_eq_true, Nat.reduceEqDiff, Nat.reduceAdd, Nat.reduceMul, Nat.reduceSub, Nat.reduceLT, Nat.reduceLeDiff, Nat.reducePow, gi_si, gi_sg, gi_sa, gi_sl, ga_si, ga_sg2, ga_sa, ga_sl, gl_si, gl_sg, gl_sa, gl_sl, e27, e10]
    · rw [X7_lay_l132.eq_def]
      simp (disch := omega) only [if_pos, if_neg, bnd_e, cal_e, chk_t, isZ_0, isZ_1, isZ_n0, isZ_n1, ald_n, ast_n, stb_n, litI, nI_add, pk_mul, pk_sub, Nat.add_sub_cancel, nar_0, nar_1, nI_leI, nI_ltI, nI_eq, Nat.not_lt_zero, Nat.le_zero_eq, Nat.zero_le, not_true_eq_false, not_false_eq_true, reduceIte, if_true, if_false, ite_self, Bool.false_eq_true, Nat.reduceEqDiff, Nat.reduceAdd, Nat.reduceMul, Nat.reduceSub, Nat.reduceLT, Nat.reduceLeDiff, Nat.reducePow, gi_si, gi_sg, gi_sa, gi_sl, ga_si, ga_sg2, ga_sa, ga_sl, gl_si, gl_sg, gl_sa, gl_sl, e6, e14]
    · rw [gi_si, if_neg (by omega), gi_sa]
    · rw [ga_si, ga_sa_n (by omega)]
    · rw [gi_si, if_neg (by omega), gi_sa]
    · rw [ga_si, ga_sa_n (by omega)]
  | d + 1, i, acc, T, P, n1 + 1, n2 + 1, σx, σm, h, hd, e27, e6, eA, eM, hT, hP, h1, h2, h3 => by
    have e10 : gi σx 10 = nI H := h.2.2.2.2.2.1
    have e14 : gi σm 14 = nI H := h.2.2.2.2.2.2.1
    obtain ⟨i1, i2, i3, i4⟩ := hit i (by omega)
    obtain ⟨len, l1, l2, l3⟩ := i3
    have s1 := sumN_mono (f := fun i => m7 (8 * j + i)) d (i + 1)
    rw [show i + 1 + d = n by omega, hsum] at s1
    have s2 : sumN (fun i => m7 (8 * j + i)) (i + 1) = sumN (fun i => m7 (8 * j + i)) i + len := by
      show _ + (m7 (8 * j + i)).toNatClampNeg = _
      rw [l3, nI_clamp (by omega)]
    have c1 := cntN_mono (f := fun i => m9 (8 * j + i)) d (i + 1)
    rw [show i + 1 + d = n by omega] at c1
    have z23 : ga σm 23 (8 * H + i) = 0 := h.2.2.2.2.2.2.2.2.2.2.2.2.2.2.2.2.1 (8 * H + i) (Nat.le_refl _)
    have e0 : sa σm 23 (8 * H + i) (nI 0) = σm := sa_id (by
      funext k
      rw [upd_e]
      by_cases y : k = 8 * H + i
      · rw [if_pos y, y, z23]
        rfl
      · rw [if_neg y])
    have a0 : ga σx (30 + 4 * j + 0) i = nI len := by rw [eA.1, i1]; exact l3
    have b7 : ga σm 7 (8 * j + i) = nI len := by rw [eM.1]; exact l3
    have go : ∀ (f P2 : Nat) (σx2 σm2 : St), LR (T + len) (8 * H + (i + 1)) H P2 S σx2 σm2 → FA σx σm σx2 σm2 → P2 + 4 * cntN (fun i => m9 (8 * j + i)) n ≤ 300 + 4 * cntN (fun i => m9 (8 * j + i)) (i + 1) → X6_lay_l80 N (n1 + 1) j (nI acc) (nI T) (nI i) σx = X6_lay_l80 N n1 j (nI (acc + f)) (nI (T + len)) (nI (i + 1)) σx2 → X7_lay_l132 N (n2 + 1) (nI j) (nI T) (nI acc) (nI i) σm = X7_lay_l132 N n2 (nI j) (nI (T + len)) (nI (acc + f)) (nI (i + 1)) σm2 → ∃ (r : Int32) (σx2 σm2 : St) (P2 : Nat), X6_lay_l80 N (n1 + 1) j (nI acc) (nI T) (nI i) σx = some (r, σx2) ∧ X7_lay_l132 N (n2 + 1) (nI j) (nI T) (nI acc) (nI i) σm = some (r, σm2) ∧ LR (3600 * (H + 1)) (8 * (H + 1)) (H + 1) P2 S σx2 σm2 ∧ FA σx σm σx2 σm2 := fun f P2 σx2 σm2 k1 k2 k3 k4 k5 => by
      obtain ⟨r, σx3, σm3, P3, t1, t2, t3, t4⟩ := items_l N hN hj hn hH hit hsum d (i + 1) (acc + f) (T + len) P2 n1 n2 σx2 σm2 k1 (SDt_fa hd k2) (by rw [k2.1 _ (by omega)]; exact e27) (by rw [k2.2.2.2 6 (by omega)]; exact e6) (by
        rw [k2.2.1 (30 + 4 * j + 0) (by omega), k2.2.1 (30 + 4 * j + 1) (by omega), k2.2.1 (30 + 4 * j + 2) (by omega), k2.2.1 (30 + 4 * j + 3) (by omega)]
        exact eA) (by
        rw [k2.2.2.2 7 (by omega), k2.2.2.2 8 (by omega), k2.2.2.2 9 (by omega)]
        exact eM) (by omega) k3 (by omega) (by omega) (by omega)
      exact ⟨r, σx3, σm3, P3, k4.trans t1, k5.trans t2, t3, FA_tr k2 t4⟩
    rcases i4 with ⟨t1, t2⟩ | ⟨t1, t2, t3⟩
    · have a3 : ga σx (30 + 4 * j + 3) i = nI 0 := by rw [eA.2.2.2]; exact t1
      have b9 : ga σm 9 (8 * j + i) = -nI 1 := by rw [eM.2.2]; exact t2
      have c2 : cntN (fun i => m9 (8 * j + i)) (i + 1) = cntN (fun i => m9 (8 * j + i)) i := if_pos t2
      refine go 0 P σx σm (LR_up h (by omega) (by omega)) (FA_rfl σx σm) (by omega) ?_ ?_
      · rw [X6_lay_l80.eq_def, Nat.add_zero acc]
        unfold X0_isStretch_f X6_lay_l113
        simp (disch := omega) only [if_pos, if_neg, bnd_e, cal_e, chk_t, isZ_0, isZ_1, isZ_n0, isZ_n1, ald_n, ast_n, stb_n, litI, nI_add, pk_mul, pk_sub, Nat.add_sub_cancel, nar_0, nar_1, nI_leI, nI_ltI, nI_eq, Nat.not_lt_zero, Nat.le_zero_eq, Nat.zero_le, not_true_eq_false, not_false_eq_true, reduceIte, if_true, if_false, ite_self, Bool.false_eq_true, Nat.reduceEqDiff, Nat.reduceAdd, Nat.reduceMul, Nat.reduceSub, Nat.reduceLT, Nat.reduceLeDiff, Nat.reducePow, gi_si, gi_sg, gi_sa, gi_sl, ga_si, ga_sg2, ga_sa, ga_sl, gl_si, gl_sg, gl_sa, gl_sl, e27, a3, a0]
      · rw [X7_lay_l132.eq_def]
        unfold X7_lay_l194
        simp (disch := omega) only [if_pos, if_neg, bnd_e, cal_e, chk_t, isZ_0, isZ_1, isZ_n0, isZ_n1, ald_n, ast_n, stb_n, litI, nI_add, pk_mul, pk_sub, Nat.add_sub_cancel, nar_0, nar_1, nI_leI, nI_ltI, nI_eq, Nat.not_lt_zero, Nat.le_zero_eq, Nat.zero_le, not_true_eq_false, not_false_eq_true, reduceIte, if_true, if_false, ite_self, Bool.false_eq_true, Nat.reduceEqDiff, Nat.reduceAdd, Nat.reduceMul, Nat.reduceSub, Nat.reduceLT, Nat.reduceLeDiff, Nat.reducePow, gi_si, gi_sg, gi_sa, gi_sl, ga_si, ga_sg2, ga_sa, ga_sl, gl_si, gl_sg, gl_sa, gl_sl, e6, e14, e0, b9, b7, Nat.add_zero]
    · obtain ⟨w, w1, w2, w3⟩ := t3
      have a3 : ga σx (30 + 4 * j + 3) i = nI 1 := by rw [eA.2.2.2]; exact t1
      have b9 : ga σm 9 (8 * j + i) = nI w := by rw [eM.2.2]; exact w3
      have c2 : cntN (fun i => m9 (8 * j + i)) (i + 1) = cntN (fun i => m9 (8 * j + i)) i + 1 := if_neg (fun y => by
        have y2 : m9 (8 * j + i) = -nI 1 := y
        rw [w3] at y2
        exact (nI_nm1 (show w < 2 ^ 31 by omega)).mp y2)
      obtain ⟨f, P2, σx2, σm2, f1, f2, f3, f4, f5, f6⟩ := stretch_b N hN (len := len) (w := w) (i := i) (j := j) (x3 := m8 (8 * j + i)) h hd hH (by omega) hj (by omega) (by omega) l2 w2 (by omega) a0 (by rw [eA.2.1]; exact i2) (by rw [eA.2.2.1, t2]; exact w3) b7 (by rw [eM.2.1]) b9
      have a0b : ga σx2 (30 + 4 * j + 0) i = nI len := by rw [f6.2.1 (30 + 4 * j + 0) (by omega)]; exact a0
      have b7b : ga σm2 7 (8 * j + i) = nI len := by rw [f6.2.2.2 7 (by omega)]; exact b7
      refine go f P2 σx2 σm2 f4 f6 (by omega) ?_ ?_
      · rw [X6_lay_l80.eq_def]
        unfold X0_isStretch_f X6_lay_l113
        rcases r01 f1 with z | z
        · rw [z] at f2 ⊢
          rw [Nat.add_zero acc]
          simp (disch := omega) only [if_pos, if_neg, bnd_e, cal_e, chk_t, isZ_0, isZ_1, isZ_n0, isZ_n1, ald_n, ast_n, stb_n, litI, nI_add, pk_mul, pk_sub, Nat.add_sub_cancel, nar_0, nar_1, nI_leI, nI_ltI, nI_eq, Nat.not_lt_zero, Nat.le_zero_eq, Nat.zero_le, not_true_eq_false, not_false_eq_true, reduceIte, if_true, if_false, ite_self, Bool.false_eq_true, Nat.reduceEqDiff, Nat.reduceAdd, Nat.reduceMul, Nat.reduceSub, Nat.reduceLT, Nat.reduceLeDiff, Nat.reducePow, gi_si, gi_sg, gi_sa, gi_sl, ga_si, ga_sg2, ga_sa, ga_sl, gl_si, gl_sg, gl_sa, gl_sl, e27, a3, f2, a0b]
        · rw [z] at f2 ⊢
          simp (disch := omega) only [if_pos, if_neg, bnd_e, cal_e, chk_t, isZ_0, isZ_1, isZ_n0, isZ_n1, ald_n, ast_n, stb_n, litI, nI_add, pk_mul, pk_sub, Nat.add_sub_cancel, nar_0, nar_1, nI_leI, nI_ltI, nI_eq, Nat.not_lt_zero, Nat.le_zero_eq, Nat.zero_le, not_true_eq_false, not_false_eq_true, reduceIte, if_true, if_false, ite_self, Bool.false_eq_true, Nat.reduceEqDiff, Nat.reduceAdd, Nat.reduceMul, Nat.reduceSub, Nat.reduceLT, Nat.reduceLeDiff, Nat.reducePow, gi_si, gi_sg, gi_sa, gi_sl, ga_si, ga_sg2, ga_sa, ga_sl, gl_si, gl_sg, gl_sa, gl_sl, e27, a3, f2, a0b]
      · rw [X7_lay_l132.eq_def]
        unfold X7_lay_l194
        rcases r01 f1 with z | z
        · rw [z] at f3 ⊢
          simp (disch := omega) only [if_pos, if_neg, bnd_e, cal_e, chk_t, isZ_0, isZ_1, isZ_n0, isZ_n1, ald_n, ast_n, stb_n, litI, nI_add, pk_mul, pk_sub, Nat.add_sub_cancel, nar_0, nar_1, nI_leI, nI_ltI, nI_eq, Nat.not_lt_zero, Nat.le_zero_eq, Nat.zero_le, not_true_eq_false, not_false_eq_true, reduceIte, if_true, if_false, ite_self, Bool.false_eq_true, Nat.reduceEqDiff, Nat.reduceAdd, Nat.reduceMul, Nat.reduceSub, Nat.reduceLT, Nat.reduceLeDiff, Nat.reducePow, gi_si, gi_sg, gi_sa, gi_sl, ga_si, ga_sg2, ga_sa, ga_sl, gl_si, gl_sg, gl_sa, gl_sl, e6, e14, e0, b9, nI_nm1, f3, b7b, Nat.add_zero]
        · rw [z] at f3 ⊢
          simp (disch := omega) only [if_pos, if_neg, bnd_e, cal_e, chk_t, isZ_0, isZ_1, isZ_n0, isZ_n1, ald_n, ast_n, stb_n, litI, nI_add, pk_mul, pk_sub, Nat.add_sub_cancel, nar_0, nar_1, nI_leI, nI_ltI, nI_eq, Nat.not_lt_zero, Nat.le_zero_eq, Nat.zero_le, not_true_eq_false, not_false_eq_true, reduceIte, if_true, if_false, ite_self, Bool.false_eq_true, Nat.reduceEqDiff, Nat.reduceAdd, Nat.reduceMul, Nat.reduceSub, Nat.reduceLT, Nat.reduceLeDiff, Nat.reducePow, gi_si, gi_sg, gi_sa, gi_sl, ga_si, ga_sg2, ga_sa, ga_sl, gl_si, gl_sg, gl_sa, gl_sl, e6, e14, e0, b9, nI_nm1, f3, b7b]
