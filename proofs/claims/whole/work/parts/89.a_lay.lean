/-! lay: the whole call -/
theorem lay_ref (N : Nat) (hN : 10 < N) {j n : Nat} {σm : St} (hj : j < 6) (hn : n ≤ 8) (e6 : ga σm 6 j = nI n) : X7_lay_f N (nI j) σm = X7_lay_l21 N 1 (nI j) (nI (cntN (fun i => ga σm 9 (8 * j + i)) n)) (nI n) (si σm 0 (nI 0)) := by
  have l := layc_l N (σ := si σm 0 (nI 0)) hj hn e6 n 0 N (by omega) (by omega)
  have l2 : X7_lay_l21 N N (nI j) (nI 0) (nI 0) (si σm 0 (nI 0)) = X7_lay_l21 N 1 (nI j) (nI (cntN (fun i => ga σm 9 (8 * j + i)) n)) (nI n) (si σm 0 (nI 0)) := l
  rw [← l2]
  unfold X7_lay_f
  rw [(x_isClock1 N hj σm).2]
  simp (disch := omega) only [if_pos, if_neg, bnd_e, cal_e, chk_t, isZ_0, isZ_1, isZ_n0, isZ_n1, ald_n, ast_n, stb_n, litI, nI_add, pk_mul, pk_sub, Nat.add_sub_cancel, nar_0, nar_1, nI_leI, nI_ltI, nI_eq, Nat.not_lt_zero, Nat.le_zero_eq, Nat.zero_le, not_true_eq_false, not_false_eq_true, reduceIte, if_true, if_false, ite_self, Bool.false_eq_true, Nat.reduceEqDiff, Nat.reduceAdd, Nat.reduceMul, Nat.reduceSub, Nat.reduceLT, Nat.reduceLeDiff, Nat.reducePow, gi_si, gi_sg, gi_sa, gi_sl, ga_si, ga_sg2, ga_sa, ga_sl, gl_si, gl_sg, gl_sa, gl_sl]
theorem lay_prep (N : Nat) {g0 g1 st sl mo : Nat} {σ : St} (r0 : ga σ 1 0 = nI g0) (r1 : ga σ 1 1 = nI g1) (r2 : ga σ 1 2 = nI st) (r3 : ga σ 1 3 = nI sl) (r4 : ga σ 1 4 = nI mo) (h4 : mo ≤ 4) : X2_prepare_f N σ = X2_prepare_l62 N N (nI 0) (si (si (si (si (si σ 20 (nI (60 * g0))) 21 (nI (60 * g1))) 22 (nI st)) 23 (nI sl)) 24 (nI mo)) := by
  have im : imin (nI mo) (nI 4) = nI mo := by
    unfold imin
    rw [if_neg (nI_nlt h4 (by omega))]
  have e0 : g0 * 60 = 60 * g0 := Nat.mul_comm _ _
  have e1 : g1 * 60 = 60 * g1 := Nat.mul_comm _ _
  unfold X2_prepare_f
  simp (disch := omega) only [if_pos, if_neg, bnd_e, cal_e, chk_t, isZ_0, isZ_1, isZ_n0, isZ_n1, ald_n, ast_n, stb_n, litI, nI_add, pk_mul, pk_sub, Nat.add_sub_cancel, nar_0, nar_1, nI_leI, nI_ltI, nI_eq, Nat.not_lt_zero, Nat.le_zero_eq, Nat.zero_le, not_true_eq_false, not_false_eq_true, reduceIte, if_true, if_false, ite_self, Bool.false_eq_true, Nat.reduceEqDiff, Nat.reduceAdd, Nat.reduceMul, Nat.reduceSub, Nat.reduceLT, Nat.reduceLeDiff, Nat.reducePow, gi_si, gi_sg, gi_sa, gi_sl, ga_si, ga_sg2, ga_sa, ga_sl, gl_si, gl_sg, gl_sa, gl_sl, r0, r1, r2, r3, r4, im, e0, e1]
theorem s_lay (N : Nat) (hN : 60000 < N) : Sim_lay N RelX := fun x1 k σx σm hk h => by
  rcases x_isClock N x1 σx with ⟨a, -⟩ | ⟨j, hj, rfl⟩
  · rcases x_isClock N x1 σm with ⟨-, b⟩ | ⟨j, hj, rfl⟩
    · right
      refine ⟨(0, σx), 0, si σm 0 1, ?_, ?_, rfl, RelX_thr _ h⟩
      · simp only [X6_lay_t, a, cal_e, if_true]
      · simp only [X7_lay_f, X7_refuse_f, b, cal_e, bnd_e, if_true]
    · rw [(x_isClock1 N hj σx).1] at a
      cases a
  left
  obtain ⟨q1, q2, q3, q4, q5, q6, H, P, S, f0, f1, hH, hP, f4, f5, f6, f7, f8, f9, f10, f11, f12, f13, f14, f15, f16, f17, f18, f19⟩ := id h
  obtain ⟨n, hn, c0, c6, c1, c2, c3⟩ := q4 j hj
  have e27 : gi σx (27 + 3 * j + 0) = nI n := by
    rw [show 27 + 3 * j + 0 = 3 * j + 27 by omega]
    exact c0
  have e28 : gi σx (27 + 3 * j + 1) = nI (cntN (fun i => ga σm 9 (8 * j + i)) n) := by
    rw [show 27 + 3 * j + 1 = 3 * j + 1 + 27 by omega]
    exact c1
  have cl := cntN_le (f := fun i => ga σm 9 (8 * j + i)) n
  have lr := lay_ref N (by omega) hj hn c6
  have m13 : gi (si σm 0 (nI 0)) 13 = nI P := f7
  have m14 : gi (si σm 0 (nI 0)) 14 = nI H := f5
  have m6 : ga (si σm 0 (nI 0)) 6 j = nI n := c6
  have tc : (nI j).toNatClampNeg = j := nI_clamp (by omega)
  rw [lr]
  by_cases zn : n = 0
  · refine ⟨-nI 1, σx, si σm 0 (nI 0), ?_, ?_, rfl, RelX_thr _ h⟩
    · unfold X6_lay_f
      rw [(x_isClock1 N hj σx).1, cal_e, inB_n (by omega) (by omega), tc]
      simp (disch := omega) only [if_pos, if_neg, bnd_e, cal_e, chk_t, isZ_0, isZ_1, isZ_n0, isZ_n1, ald_n, ast_n, stb_n, litI, nI_add, pk_mul, pk_sub, Nat.add_sub_cancel, nar_0, nar_1, nI_leI, nI_ltI, nI_eq, Nat.not_lt_zero, Nat.le_zero_eq, Nat.zero_le, not_true_eq_false, not_false_eq_true, reduceIte, if_true, if_false, ite_self, Bool.false_eq_true, Nat.reduceEqDiff, Nat.reduceAdd, Nat.reduceMul, Nat.reduceSub, Nat.reduceLT, Nat.reduceLeDiff, Nat.reducePow, gi_si, gi_sg, gi_sa, gi_sl, ga_si, ga_sg2, ga_sa, ga_sl, gl_si, gl_sg, gl_sa, gl_sl, e27, zn]
    · rw [X7_lay_l21.eq_def]
      simp (disch := omega) only [if_pos, if_neg, bnd_e, cal_e, chk_t, isZ_0, isZ_1, isZ_n0, isZ_n1, ald_n, ast_n, stb_n, litI, nI_add, pk_mul, pk_sub, Nat.add_sub_cancel, nar_0, nar_1, nI_leI, nI_ltI, nI_eq, Nat.not_lt_zero, Nat.le_zero_eq, Nat.zero_le, not_true_eq_false, not_false_eq_true, reduceIte, if_true, if_false, ite_self, Bool.false_eq_true, Nat.reduceEqDiff, Nat.reduceAdd, Nat.reduceMul, Nat.reduceSub, Nat.reduceLT, Nat.reduceLeDiff, Nat.reducePow, gi_si, gi_sg, gi_sa, gi_sl, ga_si, ga_sg2, ga_sa, ga_sl, gl_si, gl_sg, gl_sa, gl_sl, m6, zn]
  by_cases zH : H = 168
  · refine ⟨-nI 1, σx, si σm 0 (nI 0), ?_, ?_, rfl, RelX_thr _ h⟩
    · unfold X6_lay_f X1_hasRoomFor_f
      rw [(x_isClock1 N hj σx).1, cal_e, inB_n (by omega) (by omega), tc]
      simp (disch := omega) only [if_pos, if_neg, bnd_e, cal_e, chk_t, isZ_0, isZ_1, isZ_n0, isZ_n1, ald_n, ast_n, stb_n, litI, nI_add, pk_mul, pk_sub, Nat.add_sub_cancel, nar_0, nar_1, nI_leI, nI_ltI, nI_eq, Nat.not_lt_zero, Nat.le_zero_eq, Nat.zero_le, not_true_eq_false, not_false_eq_true, reduceIte, if_true, if_false, ite_self, Bool.false_eq_true, Nat.reduceEqDiff, Nat.reduceAdd, Nat.reduceMul, Nat.reduceSub, Nat.reduceLT, Nat.reduceLeDiff, Nat.reducePow, gi_si, gi_sg, gi_sa, gi_sl, ga_si, ga_sg2, ga_sa, ga_sl, gl_si, gl_sg, gl_sa, gl_sl, e27, f4, zH]
    · rw [X7_lay_l21.eq_def]
      simp (disch := omega) only [if_pos, if_neg, bnd_e, cal_e, chk_t, isZ_0, isZ_1, isZ_n0, isZ_n1, ald_n, ast_n, stb_n, litI, nI_add, pk_mul, pk_sub, Nat.add_sub_cancel, nar_0, nar_1, nI_leI, nI_ltI, nI_eq, Nat.not_lt_zero, Nat.le_zero_eq, Nat.zero_le, not_true_eq_false, not_false_eq_true, reduceIte, if_true, if_false, ite_self, Bool.false_eq_true, Nat.reduceEqDiff, Nat.reduceAdd, Nat.reduceMul, Nat.reduceSub, Nat.reduceLT, Nat.reduceLeDiff, Nat.reducePow, gi_si, gi_sg, gi_sa, gi_sl, ga_si, ga_sg2, ga_sa, ga_sl, gl_si, gl_sg, gl_sa, gl_sl, m6, m14, zH]
  by_cases zP : 300 < P + 4 * cntN (fun i => ga σm 9 (8 * j + i)) n
  · refine ⟨-nI 1, σx, si σm 0 (nI 0), ?_, ?_, rfl, RelX_thr _ h⟩
    · unfold X6_lay_f X1_hasRoomFor_f
      rw [(x_isClock1 N hj σx).1, cal_e, inB_n (by omega) (by omega), tc]
      simp (disch := omega) only [if_pos, if_neg, bnd_e, cal_e, chk_t, isZ_0, isZ_1, isZ_n0, isZ_n1, ald_n, ast_n, stb_n, litI, nI_add, pk_mul, pk_sub, Nat.add_sub_cancel, nar_0, nar_1, nI_leI, nI_ltI, nI_eq, Nat.not_lt_zero, Nat.le_zero_eq, Nat.zero_le, not_true_eq_false, not_false_eq_true, reduceIte, if_true, if_false, ite_self, Bool.false_eq_true, Nat.reduceEqDiff, Nat.reduceAdd, Nat.reduceMul, Nat.reduceSub, Nat.reduceLT, Nat.reduceLeDiff, Nat.reducePow, gi_si, gi_sg, gi_sa, gi_sl, ga_si, ga_sg2, ga_sa, ga_sl, gl_si, gl_sg, gl_sa, gl_sl, e27, e28, f4, f6]
    · rw [X7_lay_l21.eq_def]
      simp (disch := omega) only [if_pos, if_neg, bnd_e, cal_e, chk_t, isZ_0, isZ_1, isZ_n0, isZ_n1, ald_n, ast_n, stb_n, litI, nI_add, pk_mul, pk_sub, Nat.add_sub_cancel, nar_0, nar_1, nI_leI, nI_ltI, nI_eq, Nat.not_lt_zero, Nat.le_zero_eq, Nat.zero_le, not_true_eq_false, not_false_eq_true, reduceIte, if_true, if_false, ite_self, Bool.false_eq_true, Nat.reduceEqDiff, Nat.reduceAdd, Nat.reduceMul, Nat.reduceSub, Nat.reduceLT, Nat.reduceLeDiff, Nat.reducePow, gi_si, gi_sg, gi_sa, gi_sl, ga_si, ga_sg2, ga_sa, ga_sl, gl_si, gl_sg, gl_sa, gl_sl, m6, m13, m14]
  obtain ⟨u0, ⟨g0, -, u1, u2⟩, ⟨g1, -, u3, u4⟩, ⟨st, -, u5, u6⟩, ⟨sl, -, u7, u8⟩, ⟨mo, u9, u10, u11⟩, u12⟩ := id q3
  have pr := lay_prep N (σ := σx) (by rw [u0 0 (by omega)]; exact u2) (by rw [u0 1 (by omega)]; exact u4) (by rw [u0 2 (by omega)]; exact u6) (by rw [u0 3 (by omega)]; exact u8) (by rw [u0 4 (by omega)]; exact u11) u10
  obtain ⟨S2, s1, s2, s3, s4, s5, s6, s7, s8, s9, s10, s11, s12⟩ := id q6
  have eS : S2 = S := (nI_eq (by omega) (by omega)).mp (s2.symm.trans f1)
  rw [eS] at s3
  obtain ⟨σx2, σm2, a1, a2, a3, a4, a5, a6, a7⟩ := heats_l N (by omega) (k := k) (S := S) (by omega) f0 (nI j) S 0 N N (si (si (si (si (si σx 20 (nI (60 * g0))) 21 (nI (60 * g1))) 22 (nI st)) 23 (nI sl)) 24 (nI mo)) (si σm 0 (nI 0)) f1 s3 q5 s12 s9 (fun q hq => absurd hq (by omega)) (by omega) (by omega) (by omega)
  have gx : ∀ y, (y < 20 ∨ 24 < y) → gi σx2 y = gi σx y := fun y hy => by
    rw [a4 y, gi_si, if_neg (by omega), gi_si, if_neg (by omega), gi_si, if_neg (by omega), gi_si, if_neg (by omega), gi_si, if_neg (by omega)]
  have ax : ∀ y, y ≠ 25 → ga σx2 y = ga σx y := fun y hy => by
    rw [a6 y hy]
    rfl
  have gm : ∀ y, y ≠ 0 → gi σm2 y = gi σm y := fun y hy => by
    rw [a5 y, gi_si, if_neg hy]
  have am : ∀ y, y ≠ 18 → ga σm2 y = ga σm y := fun y hy => by
    rw [a7 y hy]
    rfl
  have lr0 : LR (3600 * H) (8 * H + 0) H P S σx σm := ⟨q6, f0, f1, hH, hP, f4, f5, f6, f7, f8, f9, f10, f11, f12, f13, f14, f15, f16, f17, f18, f19⟩
  have lr1 : LR (3600 * H) (8 * H + 0) H P S σx2 σm2 := by
    unfold LR at *
    rw [gx 9 (by omega), gx 10 (by omega), gx 11 (by omega), gx 12 (by omega), gx 13 (by omega), ax 4 (by omega), ax 5 (by omega), ax 6 (by omega), ax 7 (by omega), ax 8 (by omega), ax 9 (by omega), ax 10 (by omega), ax 11 (by omega), ax 12 (by omega), ax 13 (by omega), ax 17 (by omega), ax 18 (by omega), ax 19 (by omega), ax 20 (by omega), ax 21 (by omega), ax 22 (by omega), gm 12 (by omega), gm 13 (by omega), gm 14 (by omega), gm 15 (by omega), gm 16 (by omega), am 10 (by omega), am 11 (by omega), am 12 (by omega), am 13 (by omega), am 15 (by omega), am 16 (by omega), am 19 (by omega), am 20 (by omega), am 21 (by omega), am 22 (by omega), am 23 (by omega), am 30 (by omega)]
    exact lr0
  have sdt : SDt S g0 g1 st sl mo σx2 σm2 := by
    refine ⟨⟨u1, u3, u5, u7, u9, u10⟩, ?_, ⟨?_, ?_, ?_, ?_, ?_⟩, a3⟩
    · rw [am 1 (by omega)]
      exact ⟨u2, u4, u6, u8, u11⟩
    · rw [a4 20]
      rfl
    · rw [a4 21]
      rfl
    · rw [a4 22]
      rfl
    · rw [a4 23]
      rfl
    · rw [a4 24]
      rfl
  obtain ⟨r, σx3, σm3, P2, t1, t2, t3, t4⟩ := items_l N hN (A0 := ga σx (30 + 4 * j + 0)) (A1 := ga σx (30 + 4 * j + 1)) (A2 := ga σx (30 + 4 * j + 2)) (A3 := ga σx (30 + 4 * j + 3)) (m7 := ga σm 7) (m8 := ga σm 8) (m9 := ga σm 9) hj hn (by omega) (by
    rw [show 30 + 4 * j + 0 = 4 * j + 30 by omega, show 30 + 4 * j + 1 = 4 * j + 1 + 30 by omega, show 30 + 4 * j + 2 = 4 * j + 2 + 30 by omega, show 30 + 4 * j + 3 = 4 * j + 3 + 30 by omega]
    exact c2) (c3 (by omega)) n 0 0 (3600 * H) P N N σx2 σm2 lr1 sdt (by rw [gx _ (by omega)]; exact e27) (by rw [am 6 (by omega)]; exact c6) ⟨ax _ (by omega), ax _ (by omega), ax _ (by omega), ax _ (by omega)⟩ ⟨am 7 (by omega), am 8 (by omega), am 9 (by omega)⟩ rfl (by show _ ≤ 300 + 4 * 0; omega) (by omega) (by omega) (by omega)
  have x10 : gi σx2 10 = nI H := (gx 10 (by omega)).trans f4
  have y14 : gi σm2 14 = nI H := (gm 14 (by omega)).trans f5
  have pr2 : X2_prepare_f N σx = some (nI 0, σx2) := pr.trans a1
  have eH : H * 3600 = 3600 * H := Nat.mul_comm _ _
  refine ⟨r, σx3, σm3, ?_, ?_, ?_, RelX_mono ⟨?_, ?_, ?_, ?_, ?_, t3.1, H + 1, P2, S, t3.2⟩⟩
  · unfold X6_lay_f X1_hasRoomFor_f
    rw [(x_isClock1 N hj σx).1, cal_e, inB_n (by omega) (by omega), tc]
    simp (disch := omega) only [if_pos, if_neg, bnd_e, cal_e, chk_t, isZ_0, isZ_1, isZ_n0, isZ_n1, ald_n, ast_n, stb_n, litI, nI_add, pk_mul, pk_sub, Nat.add_sub_cancel, nar_0, nar_1, nI_leI, nI_ltI, nI_eq, Nat.not_lt_zero, Nat.le_zero_eq, Nat.zero_le, not_true_eq_false, not_false_eq_true, reduceIte, if_true, if_false, ite_self, Bool.false_eq_true, Nat.reduceEqDiff, Nat.reduceAdd, Nat.reduceMul, Nat.reduceSub, Nat.reduceLT, Nat.reduceLeDiff, Nat.reducePow, gi_si, gi_sg, gi_sa, gi_sl, ga_si, ga_sg2, ga_sa, ga_sl, gl_si, gl_sg, gl_sa, gl_sl, e27, e28, f4, f6, pr2, x10, eH]
    exact t1
  · rw [X7_lay_l21.eq_def]
    simp (disch := omega) only [if_pos, if_neg, bnd_e, cal_e, chk_t, isZ_0, isZ_1, isZ_n0, isZ_n1, ald_n, ast_n, stb_n, litI, nI_add, pk_mul, pk_sub, Nat.add_sub_cancel, nar_0, nar_1, nI_leI, nI_ltI, nI_eq, Nat.not_lt_zero, Nat.le_zero_eq, Nat.zero_le, not_true_eq_false, not_false_eq_true, reduceIte, if_true, if_false, ite_self, Bool.false_eq_true, Nat.reduceEqDiff, Nat.reduceAdd, Nat.reduceMul, Nat.reduceSub, Nat.reduceLT, Nat.reduceLeDiff, Nat.reducePow, gi_si, gi_sg, gi_sa, gi_sl, ga_si, ga_sg2, ga_sa, ga_sl, gl_si, gl_sg, gl_sa, gl_sl, m6, m13, m14]
    rw [a2, y14, pk_mul]
    exact t2
  · rw [t4.2.2.1 0 (by omega), a5 0]
    rfl
  · rw [t4.1 0 (by omega), t4.2.2.1 1 (by omega), t4.2.1 0 (by omega), t4.2.2.2 0 (by omega), gx 0 (by omega), gm 1 (by omega), ax 0 (by omega), am 0 (by omega)]
    exact q1
  · rw [t4.1 1 (by omega), t4.2.2.1 8 (by omega), gx 1 (by omega), gm 8 (by omega)]
    exact q2
  · rw [t4.2.1 1 (by omega), t4.2.2.2 1 (by omega), t4.2.2.2 2 (by omega), t4.2.2.2 4 (by omega), t4.2.2.2 5 (by omega), ax 1 (by omega), am 1 (by omega), am 2 (by omega), am 4 (by omega), am 5 (by omega)]
    exact q3
  · have v1 : (fun y => gi σx3 (y + 27)) = fun y => gi σx (y + 27) := by
      funext y
      rw [t4.1 _ (by omega), gx _ (by omega)]
    have v2 : (fun y => ga σx3 (y + 30)) = fun y => ga σx (y + 30) := by
      funext y
      rw [t4.2.1 _ (by omega), ax _ (by omega)]
    rw [v1, v2, t4.2.2.2 6 (by omega), t4.2.2.2 7 (by omega), t4.2.2.2 8 (by omega), t4.2.2.2 9 (by omega), am 6 (by omega), am 7 (by omega), am 8 (by omega), am 9 (by omega)]
    exact q4
  · rw [t4.2.1 14 (by omega), t4.2.1 15 (by omega), t4.2.1 16 (by omega), t4.2.2.2 14 (by omega), t4.2.2.2 17 (by omega), ax 14 (by omega), ax 15 (by omega), ax 16 (by omega), am 14 (by omega), am 17 (by omega)]
    exact q5
