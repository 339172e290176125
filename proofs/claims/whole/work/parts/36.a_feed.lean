/-! feed -/
theorem byte_two (y : Int32) : ∃ b : Nat, b < 256 ∧ y &&& nI 255 = nI b ∧ vp_nar .byte y.toInt8.toInt32 = (nI b).toInt8.toInt32 := by
  refine ⟨y.toBitVec.toNat % 2 ^ 8, by omega, pk_and y 8 rfl, ?_⟩
  rw [pk_vb]
  congr 1
  apply Int8.toBitVec_inj.mp
  apply BitVec.eq_of_toNat_eq
  have e : (nI (y.toBitVec.toNat % 2 ^ 8)).toBitVec.toNat = y.toBitVec.toNat % 2 ^ 8 := pk_tn (by omega)
  show (y.toBitVec.signExtend 8).toNat = ((nI (y.toBitVec.toNat % 2 ^ 8)).toBitVec.signExtend 8).toNat
  rw [BitVec.signExtend_eq_setWidth_of_le _ (by omega), BitVec.signExtend_eq_setWidth_of_le _ (by omega), BitVec.toNat_setWidth, BitVec.toNat_setWidth, e]
  omega
/-- the tape of T bytes -/
def RTT (T : Nat) (σx σm : St) : Prop := gi σx 0 = nI T ∧ gi σm 1 = nI T ∧ ∀ i, i < 260 → ∃ b : Nat, b < 256 ∧ ga σm 0 i = nI b ∧ ga σx 0 i = (nI b).toInt8.toInt32
/-- all but the tape stays -/
def FrT (σx σm σx2 σm2 : St) : Prop := (∀ j, j ≠ 0 → gi σx2 j = gi σx j) ∧ (∀ a, a ≠ 0 → ga σx2 a = ga σx a) ∧ (∀ j, j ≠ 1 → gi σm2 j = gi σm j) ∧ (∀ a, a ≠ 0 → ga σm2 a = ga σm a)
theorem FrT.tr {σx σm σx2 σm2 σx3 σm3 : St} (h : FrT σx σm σx2 σm2) (k : FrT σx2 σm2 σx3 σm3) : FrT σx σm σx3 σm3 := ⟨fun j hj => (k.1 j hj).trans (h.1 j hj), fun j hj => (k.2.1 j hj).trans (h.2.1 j hj), fun j hj => (k.2.2.1 j hj).trans (h.2.2.1 j hj), fun j hj => (k.2.2.2 j hj).trans (h.2.2.2 j hj)⟩
theorem app1 (N : Nat) {T : Nat} {σx σm : St} (hT : T < 260) (h : RTT T σx σm) (x s : Int32) (hs : ¬ s < 0) (n n2 : Nat) : ∃ σx2 σm2 : St, X5_append_l3 N (n + 1) x s σx = X5_append_l3 N n x (s + (-8)) σx2 ∧ X7_come_l3 N (n2 + 1) x s σm = X7_come_l3 N n2 x (s + (-8)) σm2 ∧ RTT (T + 1) σx2 σm2 ∧ FrT σx σm σx2 σm2 := by
  obtain ⟨a, b, c⟩ := h
  obtain ⟨v, hv, e1, e2⟩ := byte_two (iushr x s)
  refine ⟨si (sa σx 0 T ((nI v).toInt8.toInt32)) 0 (nI (T + 1)), si (sa σm 0 T (nI v)) 1 (nI (T + 1)), ?_, ?_, ⟨rfl, rfl, fun i hi => ?_⟩, ⟨fun j hj => ?_, fun j hj => ?_, fun j hj => ?_, fun j hj => ?_⟩⟩
  · rw [X5_append_l3.eq_def]
    simp only [hs, if_false]
    simp (disch := omega) only [if_pos, if_neg, bnd_e, cal_e, chk_t, isZ_0, isZ_1, isZ_n0, isZ_n1, ald_n, ast_n, stb_n, litI, nI_add, pk_mul, pk_sub, Nat.add_sub_cancel, nar_0, nar_1, nI_leI, nI_ltI, nI_eq, Nat.not_lt_zero, Nat.le_zero_eq, Nat.zero_le, not_true_eq_false, not_false_eq_true, reduceIte, if_true, if_false, ite_self, Bool.false_eq_true, Nat.reduceEqDiff, Nat.reduceAdd, Nat.reduceMul, Nat.reduceSub, Nat.reduceLT, Nat.reduceLeDiff, Nat.reducePow, gi_si, gi_sg, gi_sa, gi_sl, ga_si, ga_sg2, ga_sa, ga_sl, gl_si, gl_sg, gl_sa, gl_sl, a, e2]
  · rw [X7_come_l3.eq_def]
    simp only [hs, if_false]
    simp (disch := omega) only [if_pos, if_neg, bnd_e, cal_e, chk_t, isZ_0, isZ_1, isZ_n0, isZ_n1, ald_n, ast_n, stb_n, litI, nI_add, pk_mul, pk_sub, Nat.add_sub_cancel, nar_0, nar_1, nI_leI, nI_ltI, nI_eq, Nat.not_lt_zero, Nat.le_zero_eq, Nat.zero_le, not_true_eq_false, not_false_eq_true, reduceIte, if_true, if_false, ite_self, Bool.false_eq_true, Nat.reduceEqDiff, Nat.reduceAdd, Nat.reduceMul, Nat.reduceSub, Nat.reduceLT, Nat.reduceLeDiff, Nat.reducePow, gi_si, gi_sg, gi_sa, gi_sl, ga_si, ga_sg2, ga_sa, ga_sl, gl_si, gl_sg, gl_sa, gl_sl, b, e1]
  · simp only [gi_si, gi_sg, gi_sa, gi_sl, ga_si, ga_sg2, ga_sa, ga_sl, gl_si, gl_sg, gl_sa, gl_sl, Nat.not_lt_zero, Nat.le_zero_eq, Nat.zero_le, not_true_eq_false, not_false_eq_true, reduceIte, if_true, if_false, ite_self, Bool.false_eq_true, Nat.reduceEqDiff, Nat.reduceAdd, Nat.reduceMul, Nat.reduceSub, Nat.reduceLT, Nat.reduceLeDiff, Nat.reducePow, upd_e]
    by_cases q : i = T
    · simp only [q, if_true]
      exact ⟨v, hv, rfl, rfl⟩
    · simp only [q, if_false]
      exact c i hi
  · simp only [gi_si, gi_sa, hj, if_false]
  · simp only [ga_si, ga_sa, hj, if_false]
  · simp only [gi_si, gi_sa, hj, if_false]
  · simp only [ga_si, ga_sa, hj, if_false]
theorem app4 (N : Nat) (hN : 5 ≤ N) {T : Nat} {σx σm : St} (hT : T + 4 ≤ 260) (h : RTT T σx σm) (x : Int32) : ∃ σx2 σm2 : St, X5_append_f N x σx = some (0, σx2) ∧ X7_come_f N x σm = some (0, σm2) ∧ RTT (T + 4) σx2 σm2 ∧ FrT σx σm σx2 σm2 := by
  obtain ⟨M, rfl⟩ : ∃ M, N = M + 5 := ⟨N - 5, by omega⟩
  obtain ⟨x1, m1, a1, b1, h1, f1⟩ := app1 (M + 5) (by omega) h x 24 (by decide) (M + 4) (M + 4)
  obtain ⟨x2, m2, a2, b2, h2, f2⟩ := app1 (M + 5) (by omega) h1 x (24 + (-8)) (by decide) (M + 3) (M + 3)
  obtain ⟨x3, m3, a3, b3, h3, f3⟩ := app1 (M + 5) (by omega) h2 x (24 + (-8) + (-8)) (by decide) (M + 2) (M + 2)
  obtain ⟨x4, m4, a4, b4, h4, f4⟩ := app1 (M + 5) (by omega) h3 x (24 + (-8) + (-8) + (-8)) (by decide) (M + 1) (M + 1)
  refine ⟨x4, m4, ?_, ?_, h4, ((f1.tr f2).tr f3).tr f4⟩
  · unfold X5_append_f
    rw [a1, a2, a3, a4]
    rfl
  · unfold X7_come_f
    rw [b1, b2, b3, b4]
    rfl
theorem FrT.rel {k T : Nat} {σx σm σx2 σm2 : St} (f : FrT σx σm σx2 σm2) (hT : T ≤ 260) (ht : RTT T σx2 σm2) (h : RelX k σx σm) : RelX k σx2 σm2 := by
  obtain ⟨f1, f2, f3, f4⟩ := f
  obtain ⟨q1, q2, q3, q4, q5, q6, q7⟩ := h
  refine ⟨⟨T, hT, ht.1, ht.2.1, ht.2.2⟩, ?_, ?_, ?_, ?_, ?_, ?_⟩
  · rw [f1 1 (by omega), f3 8 (by omega)]; exact q2
  · rw [f2 1 (by omega), f4 1 (by omega), f4 2 (by omega), f4 4 (by omega), f4 5 (by omega)]; exact q3
  · simp (disch := omega) only [f1, f2, f4]; exact q4
  · simp (disch := omega) only [f1, f2, f3, f4]; exact q5
  · simp (disch := omega) only [f1, f2, f3, f4]; exact q6
  · simp (disch := omega) only [f1, f2, f3, f4]; exact q7
theorem s_feed (N : Nat) (hN : 5 ≤ N) : Sim_feed N RelX := fun x1 x2 x3 x4 x5 k σx σm hk h => by
  obtain ⟨⟨T, hT, e1, e2, e3⟩, -⟩ := id h
  by_cases hR : T ≤ 240
  · have h0 : RTT T σx (si σm 0 (nI 0)) := ⟨e1, e2, e3⟩
    obtain ⟨y1, m1, a1, b1, h1, f1⟩ := app4 N hN (by omega) h0 x1
    obtain ⟨y2, m2, a2, b2, h2, f2⟩ := app4 N hN (by omega) h1 x2
    obtain ⟨y3, m3, a3, b3, h3, f3⟩ := app4 N hN (by omega) h2 x3
    obtain ⟨y4, m4, a4, b4, h4, f4⟩ := app4 N hN (by omega) h3 x4
    obtain ⟨y5, m5, a5, b5, h5, f5⟩ := app4 N hN (by omega) h4 x5
    refine ⟨nI (T + 20), y5, m5, ?_, ?_, ((((f1.tr f2).tr f3).tr f4).tr f5).rel (by omega) h5 (RelX_thr _ h)⟩
    · unfold X6_feed_f X5_hasRoomForFive_f
      simp (disch := omega) only [if_pos, if_neg, bnd_e, cal_e, chk_t, isZ_0, isZ_1, isZ_n0, isZ_n1, ald_n, ast_n, stb_n, litI, nI_add, pk_mul, pk_sub, Nat.add_sub_cancel, nar_0, nar_1, nI_leI, nI_ltI, nI_eq, Nat.not_lt_zero, Nat.le_zero_eq, Nat.zero_le, not_true_eq_false, not_false_eq_true, reduceIte, if_true, if_false, ite_self, Bool.false_eq_true, Nat.reduceEqDiff, Nat.reduceAdd, Nat.reduceMul, Nat.reduceSub, Nat.reduceLT, Nat.reduceLeDiff, Nat.reducePow, gi_si, gi_sg, gi_sa, gi_sl, ga_si, ga_sg2, ga_sa, ga_sl, gl_si, gl_sg, gl_sa, gl_sl, e1, a1, a2, a3, a4, a5, h5.1]
    · unfold X7_feed_f
      simp (disch := omega) only [if_pos, if_neg, bnd_e, cal_e, chk_t, isZ_0, isZ_1, isZ_n0, isZ_n1, ald_n, ast_n, stb_n, litI, nI_add, pk_mul, pk_sub, Nat.add_sub_cancel, nar_0, nar_1, nI_leI, nI_ltI, nI_eq, Nat.not_lt_zero, Nat.le_zero_eq, Nat.zero_le, not_true_eq_false, not_false_eq_true, reduceIte, if_true, if_false, ite_self, Bool.false_eq_true, Nat.reduceEqDiff, Nat.reduceAdd, Nat.reduceMul, Nat.reduceSub, Nat.reduceLT, Nat.reduceLeDiff, Nat.reducePow, gi_si, gi_sg, gi_sa, gi_sl, ga_si, ga_sg2, ga_sa, ga_sl, gl_si, gl_sg, gl_sa, gl_sl, e2, b1, b2, b3, b4, b5, h5.2.1]
  · refine ⟨-1, σx, si σm 0 (nI 0), ?_, ?_, RelX_thr _ h⟩
    · unfold X6_feed_f X5_hasRoomForFive_f
      simp (disch := omega) only [if_pos, if_neg, bnd_e, cal_e, chk_t, isZ_0, isZ_1, isZ_n0, isZ_n1, ald_n, ast_n, stb_n, litI, nI_add, pk_mul, pk_sub, Nat.add_sub_cancel, nar_0, nar_1, nI_leI, nI_ltI, nI_eq, Nat.not_lt_zero, Nat.le_zero_eq, Nat.zero_le, not_true_eq_false, not_false_eq_true, reduceIte, if_true, if_false, ite_self, Bool.false_eq_true, Nat.reduceEqDiff, Nat.reduceAdd, Nat.reduceMul, Nat.reduceSub, Nat.reduceLT, Nat.reduceLeDiff, Nat.reducePow, gi_si, gi_sg, gi_sa, gi_sl, ga_si, ga_sg2, ga_sa, ga_sl, gl_si, gl_sg, gl_sa, gl_sl, e1]
    · unfold X7_feed_f
      simp (disch := omega) only [if_pos, if_neg, bnd_e, cal_e, chk_t, isZ_0, isZ_1, isZ_n0, isZ_n1, ald_n, ast_n, stb_n, litI, nI_add, pk_mul, pk_sub, Nat.add_sub_cancel, nar_0, nar_1, nI_leI, nI_ltI, nI_eq, Nat.not_lt_zero, Nat.le_zero_eq, Nat.zero_le, not_true_eq_false, not_false_eq_true, reduceIte, if_true, if_false, ite_self, Bool.false_eq_true, Nat.reduceEqDiff, Nat.reduceAdd, Nat.reduceMul, Nat.reduceSub, Nat.reduceLT, Nat.reduceLeDiff, Nat.reducePow, gi_si, gi_sg, gi_sa, gi_sl, ga_si, ga_sg2, ga_sa, ga_sl, gl_si, gl_sg, gl_sa, gl_sl, e2]
theorem rel_ini : RelX 0 iniX iniM := by
  refine ⟨⟨0, by omega, rfl, rfl, fun i _ => ⟨0, by omega, rfl, rfl⟩⟩, rfl, ⟨?_, rg_mk (n := 180) (by omega) (by omega), rg_mk (n := 60) (by omega) (by omega), rg_mk (n := 6) (by omega) (by omega), rg_mk (n := 60) (by omega) (by omega), rg_mk (n := 4) (by omega) (by omega), rfl, rfl, rfl⟩, ?_, ?_, ?_, ?_⟩
  · decide
  · intro j hj
    exact ⟨0, by omega, rfl, rfl, rfl, fun i hi => absurd hi (by omega), fun hi => absurd hi (by omega)⟩
  · intro s hs
    exact ⟨0, by omega, rfl, rfl, fun i hi => ⟨rfl, rg_mk (n := 0) (by omega) (by omega), fun _ => rfl⟩, rfl⟩
  · exact ⟨0, by omega, rfl, rfl, rfl, rfl, rfl, rfl, rfl, rfl, rfl, fun s hs => absurd hs (by omega), fun s hs => rg_mk (n := 0) (by omega) (by omega)⟩
  · refine ⟨0, 0, 0, by omega, rfl, by omega, by omega, rfl, rfl, rfl, rfl, rfl, rfl, rfl, rfl, rfl, rfl, rfl, fun i hi => rfl, fun i hi => absurd hi (by omega), fun i hi => absurd hi (by omega), fun s hs => ⟨rfl, ?_⟩, fun a ha => ?_⟩
    · exact if_pos hs
    · exact if_pos ha
