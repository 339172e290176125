theorem FmC_9 (σ : St) {n : Nat} (v : Int32) : FmC σ (sa σ 9 (48 + n) v) := ⟨fun _ _ => rfl, fun a ha => by rw [ga_sa, if_neg (by omega)], fun j hj => rfl, fun j hj => ⟨rfl, rfl, by rw [ga_sa, if_pos rfl, upd_e, if_neg (by omega)]⟩⟩
theorem FmC_8 (σ : St) {n : Nat} (v : Int32) : FmC σ (sa σ 8 (48 + n) v) := ⟨fun _ _ => rfl, fun a ha => by rw [ga_sa, if_neg (by omega)], fun j hj => rfl, fun j hj => ⟨rfl, by rw [ga_sa, if_pos rfl, upd_e, if_neg (by omega)], rfl⟩⟩
theorem FmC_7 (σ : St) {n : Nat} (v : Int32) : FmC σ (sa σ 7 (48 + n) v) := ⟨fun _ _ => rfl, fun a ha => by rw [ga_sa, if_neg (by omega)], fun j hj => rfl, fun j hj => ⟨by rw [ga_sa, if_pos rfl, upd_e, if_neg (by omega)], rfl, rfl⟩⟩
theorem FxC_a (σ : St) {a n : Nat} (h : 54 ≤ a) (v : Int32) : FxC σ (sa σ a n v) := ⟨fun _ _ => rfl, fun b hb => by rw [ga_sa, if_neg (by omega)]⟩
theorem FxC.rf (σ : St) : FxC σ σ := ⟨fun _ _ => rfl, fun _ _ => rfl⟩
theorem FmC.rf (σ : St) : FmC σ σ := ⟨fun _ _ => rfl, fun _ _ => rfl, fun _ _ => rfl, fun _ _ => ⟨rfl, rfl, rfl⟩⟩
def kW (N : Nat) (v4 : Int32) (s4 : St) : Option (Int32 × St) := if v4 = 0 then some (0, s4) else X0_readOne_l104 N s4
theorem kW_0 (N : Nat) (s : St) : kW N (nI 0) s = some (nI 0, s) := rfl
theorem kW_1 (N : Nat) (s : St) : kW N (nI 1) s = X0_readOne_l104 N s := rfl
/-- the wish for new songs, and the sign behind -/
theorem new_both (N : Nat) (hN : 260 < N) {T L n : Nat} {bt : Nat → Nat} {σx σm : St} (c : PC T L bt σx σm) (t : Tk T bt σx σm) (h : CIb (n + 1) n σx σm) (hs : ga σx 57 n = nI 1) : OutI T L bt n σx σm (cal (X0_readWishes_l34 N (nI n) σx) (kW N)) (X7_readItem_l213 N (nI 1) (nI (48 + n)) σm) := by
  obtain ⟨f, e, t1, t2, t3, t4⟩ := id t
  have hn := h.1
  obtain ⟨r, l, a, b, k⟩ := word_both N hN (i := 9) (by omega) rfl c t
  rcases r01 l with rfl | rfl
  · have q := semi_both N hN c t h
    have e1 : X0_readWishes_l34 N (nI n) σx = some (nI 1, σx) := by
      unfold X0_readWishes_l34
      simp (disch := omega) only [if_pos, if_neg, bnd_e, cal_e, chk_t, isZ_0, isZ_1, isZ_n0, isZ_n1, ald_n, ast_n, stb_n, litI, nI_add, pk_mul, pk_sub, Nat.add_sub_cancel, nar_0, nar_1, nI_leI, nI_ltI, nI_eq, Nat.not_lt_zero, Nat.le_zero_eq, Nat.zero_le, not_true_eq_false, not_false_eq_true, reduceIte, if_true, if_false, ite_self, Bool.false_eq_true, Nat.reduceEqDiff, Nat.reduceAdd, Nat.reduceMul, Nat.reduceSub, Nat.reduceLT, Nat.reduceLeDiff, Nat.reducePow, gi_si, gi_sg, gi_sa, gi_sl, ga_si, ga_sg2, ga_sa, ga_sl, gl_si, gl_sg, gl_sa, gl_sl, a]
    have e2 : X7_readItem_l213 N (nI 1) (nI (48 + n)) σm = X7_readItem_l265 N σm := by
      unfold X7_readItem_l213
      simp (disch := omega) only [if_pos, if_neg, bnd_e, cal_e, chk_t, isZ_0, isZ_1, isZ_n0, isZ_n1, ald_n, ast_n, stb_n, litI, nI_add, pk_mul, pk_sub, Nat.add_sub_cancel, nar_0, nar_1, nI_leI, nI_ltI, nI_eq, Nat.not_lt_zero, Nat.le_zero_eq, Nat.zero_le, not_true_eq_false, not_false_eq_true, reduceIte, if_true, if_false, ite_self, Bool.false_eq_true, Nat.reduceEqDiff, Nat.reduceAdd, Nat.reduceMul, Nat.reduceSub, Nat.reduceLT, Nat.reduceLeDiff, Nat.reducePow, gi_si, gi_sg, gi_sa, gi_sl, ga_si, ga_sg2, ga_sa, ga_sl, gl_si, gl_sg, gl_sa, gl_sl, sp9, b]
    rw [e1, e2, cal_e, kW_1]
    exact q
  · obtain ⟨e0, ex, em⟩ := Tk_pos (by omega) (by omega) t4 (k rfl)
    obtain ⟨σx2, σm1, g1, g2, g3⟩ := num_both N hN (lo := 0) (hi := 4) (by omega) (by omega) e0 c ex em
    rcases g3 with ⟨σm2, g4, g5, g6, g7, g8⟩ | ⟨v, e2, g4, g5, g6, g7, g8, g9, g10, g11, g12, g13, g14, g15, g16⟩
    · left
      refine ⟨σx2, σm2, ?_, ?_, g6, g7.c, g8.c⟩
      · unfold X0_readWishes_l34
        simp (disch := omega) only [if_pos, if_neg, bnd_e, cal_e, chk_t, isZ_0, isZ_1, isZ_n0, isZ_n1, ald_n, ast_n, stb_n, litI, nI_add, pk_mul, pk_sub, Nat.add_sub_cancel, nar_0, nar_1, nI_leI, nI_ltI, nI_eq, Nat.not_lt_zero, Nat.le_zero_eq, Nat.zero_le, not_true_eq_false, not_false_eq_true, reduceIte, if_true, if_false, ite_self, Bool.false_eq_true, Nat.reduceEqDiff, Nat.reduceAdd, Nat.reduceMul, Nat.reduceSub, Nat.reduceLT, Nat.reduceLeDiff, Nat.reducePow, gi_si, gi_sg, gi_sa, gi_sl, ga_si, ga_sg2, ga_sa, ga_sl, gl_si, gl_sg, gl_sa, gl_sl, a, g4, kW_0]
      · unfold X7_readItem_l213
        simp (disch := omega) only [if_pos, if_neg, bnd_e, cal_e, chk_t, isZ_0, isZ_1, isZ_n0, isZ_n1, ald_n, ast_n, stb_n, litI, nI_add, pk_mul, pk_sub, Nat.add_sub_cancel, nar_0, nar_1, nI_leI, nI_ltI, nI_eq, Nat.not_lt_zero, Nat.le_zero_eq, Nat.zero_le, not_true_eq_false, not_false_eq_true, reduceIte, if_true, if_false, ite_self, Bool.false_eq_true, Nat.reduceEqDiff, Nat.reduceAdd, Nat.reduceMul, Nat.reduceSub, Nat.reduceLT, Nat.reduceLeDiff, Nat.reducePow, gi_si, gi_sg, gi_sa, gi_sl, ga_si, ga_sg2, ga_sa, ga_sl, gl_si, gl_sg, gl_sa, gl_sl, sp9, b, g1, g5]
    · have h2 := CIb_fr h g13 g2
      have hs2 : ga σx2 57 n = nI 1 := by rw [g13.2 57]; exact hs
      have h3 := CIb_new g7 hs2 h2
      have c3 : PC T L bt (sa σx2 56 n (nI v)) (sa σm1 9 (48 + n) (nI v)) := g14
      obtain ⟨σx4, σm4, p1, p2, p3, p4, p5⟩ := tok_step N hN g8 c3 g11 g12
      have q := (semi_both N hN (PC_fr c3 p4 p5) p3 (CIb_fr h3 p4 p5)).tr ((g13.r.c.tr (FxC_a σx2 (n := n) (by omega : 54 ≤ 56) (nI v))).tr p4.r.c) ((g2.r.c.tr (FmC_9 σm1 (n := n) (nI v))).tr p5.r.c)
      have z1 : X0_readWishes_l34 N (nI n) σx = some (nI 1, σx4) := by
        unfold X0_readWishes_l34
        simp (disch := omega) only [if_pos, if_neg, bnd_e, cal_e, chk_t, isZ_0, isZ_1, isZ_n0, isZ_n1, ald_n, ast_n, stb_n, litI, nI_add, pk_mul, pk_sub, Nat.add_sub_cancel, nar_0, nar_1, nI_leI, nI_ltI, nI_eq, Nat.not_lt_zero, Nat.le_zero_eq, Nat.zero_le, not_true_eq_false, not_false_eq_true, reduceIte, if_true, if_false, ite_self, Bool.false_eq_true, Nat.reduceEqDiff, Nat.reduceAdd, Nat.reduceMul, Nat.reduceSub, Nat.reduceLT, Nat.reduceLeDiff, Nat.reducePow, gi_si, gi_sg, gi_sa, gi_sl, ga_si, ga_sg2, ga_sa, ga_sl, gl_si, gl_sg, gl_sa, gl_sl, a, g4, g9, p1]
      have z2 : X7_readItem_l213 N (nI 1) (nI (48 + n)) σm = X7_readItem_l265 N σm4 := by
        unfold X7_readItem_l213
        simp (disch := omega) only [if_pos, if_neg, bnd_e, cal_e, chk_t, isZ_0, isZ_1, isZ_n0, isZ_n1, ald_n, ast_n, stb_n, litI, nI_add, pk_mul, pk_sub, Nat.add_sub_cancel, nar_0, nar_1, nI_leI, nI_ltI, nI_eq, Nat.not_lt_zero, Nat.le_zero_eq, Nat.zero_le, not_true_eq_false, not_false_eq_true, reduceIte, if_true, if_false, ite_self, Bool.false_eq_true, Nat.reduceEqDiff, Nat.reduceAdd, Nat.reduceMul, Nat.reduceSub, Nat.reduceLT, Nat.reduceLeDiff, Nat.reducePow, gi_si, gi_sg, gi_sa, gi_sl, ga_si, ga_sg2, ga_sa, ga_sl, gl_si, gl_sg, gl_sa, gl_sl, sp9, b, g1, g5, g10, p2]
      rw [z1, z2, cal_e, kW_1]
      exact q
/-- the wish for a mood, then the other -/
def mdM (N : Nat) (x2 : Int32) (s2 : St) : Option (Int32 × St) := cal (X7_spelt_f N 109 111 111 100 0 0 s2) fun v2 s3 => cal (X7_isKey_f N v2 s3) fun v3 s4 => if v3 = 0 then X7_readItem_l213 N (nI 1) x2 s4 else cal (X7_go_f N s4) fun _ s5 => cal (X7_readNumber_f N 0 3 s5) fun v5 s6 => if v5 = 0 then some (0, s6) else ast s6 8 56 x2 (gi s6 7) fun s7 => cal (X7_go_f N s7) fun _ s8 => X7_readItem_l213 N (nI 1) x2 s8
theorem mood_both (N : Nat) (hN : 260 < N) {T L n : Nat} {bt : Nat → Nat} {σx σm : St} (c : PC T L bt σx σm) (t : Tk T bt σx σm) (h : CIb (n + 1) n σx σm) (hs : ga σx 57 n = nI 1) : OutI T L bt n σx σm (cal (X0_readWishes_f N (nI n) σx) (kW N)) (mdM N (nI (48 + n)) σm) := by
  obtain ⟨f, e, t1, t2, t3, t4⟩ := id t
  have hn := h.1
  obtain ⟨r, l, a, b, k⟩ := word_both N hN (i := 8) (by omega) rfl c t
  rcases r01 l with rfl | rfl
  · have q := new_both N hN c t h hs
    have e1 : X0_readWishes_f N (nI n) σx = X0_readWishes_l34 N (nI n) σx := by
      unfold X0_readWishes_f
      simp (disch := omega) only [if_pos, if_neg, bnd_e, cal_e, chk_t, isZ_0, isZ_1, isZ_n0, isZ_n1, ald_n, ast_n, stb_n, litI, nI_add, pk_mul, pk_sub, Nat.add_sub_cancel, nar_0, nar_1, nI_leI, nI_ltI, nI_eq, Nat.not_lt_zero, Nat.le_zero_eq, Nat.zero_le, not_true_eq_false, not_false_eq_true, reduceIte, if_true, if_false, ite_self, Bool.false_eq_true, Nat.reduceEqDiff, Nat.reduceAdd, Nat.reduceMul, Nat.reduceSub, Nat.reduceLT, Nat.reduceLeDiff, Nat.reducePow, gi_si, gi_sg, gi_sa, gi_sl, ga_si, ga_sg2, ga_sa, ga_sl, gl_si, gl_sg, gl_sa, gl_sl, a]
    have e2 : mdM N (nI (48 + n)) σm = X7_readItem_l213 N (nI 1) (nI (48 + n)) σm := by
      unfold mdM
      simp (disch := omega) only [if_pos, if_neg, bnd_e, cal_e, chk_t, isZ_0, isZ_1, isZ_n0, isZ_n1, ald_n, ast_n, stb_n, litI, nI_add, pk_mul, pk_sub, Nat.add_sub_cancel, nar_0, nar_1, nI_leI, nI_ltI, nI_eq, Nat.not_lt_zero, Nat.le_zero_eq, Nat.zero_le, not_true_eq_false, not_false_eq_true, reduceIte, if_true, if_false, ite_self, Bool.false_eq_true, Nat.reduceEqDiff, Nat.reduceAdd, Nat.reduceMul, Nat.reduceSub, Nat.reduceLT, Nat.reduceLeDiff, Nat.reducePow, gi_si, gi_sg, gi_sa, gi_sl, ga_si, ga_sg2, ga_sa, ga_sl, gl_si, gl_sg, gl_sa, gl_sl, sp8, b]
    rw [e1, e2]
    exact q
  · obtain ⟨e0, ex, em⟩ := Tk_pos (by omega) (by omega) t4 (k rfl)
    obtain ⟨σx2, σm1, g1, g2, g3⟩ := num_both N hN (lo := 0) (hi := 3) (by omega) (by omega) e0 c ex em
    rcases g3 with ⟨σm2, g4, g5, g6, g7, g8⟩ | ⟨v, e2, g4, g5, g6, g7, g8, g9, g10, g11, g12, g13, g14, g15, g16⟩
    · left
      refine ⟨σx2, σm2, ?_, ?_, g6, g7.c, g8.c⟩
      · unfold X0_readWishes_f
        simp (disch := omega) only [if_pos, if_neg, bnd_e, cal_e, chk_t, isZ_0, isZ_1, isZ_n0, isZ_n1, ald_n, ast_n, stb_n, litI, nI_add, pk_mul, pk_sub, Nat.add_sub_cancel, nar_0, nar_1, nI_leI, nI_ltI, nI_eq, Nat.not_lt_zero, Nat.le_zero_eq, Nat.zero_le, not_true_eq_false, not_false_eq_true, reduceIte, if_true, if_false, ite_self, Bool.false_eq_true, Nat.reduceEqDiff, Nat.reduceAdd, Nat.reduceMul, Nat.reduceSub, Nat.reduceLT, Nat.reduceLeDiff, Nat.reducePow, gi_si, gi_sg, gi_sa, gi_sl, ga_si, ga_sg2, ga_sa, ga_sl, gl_si, gl_sg, gl_sa, gl_sl, a, g4, kW_0]
      · unfold mdM
        simp (disch := omega) only [if_pos, if_neg, bnd_e, cal_e, chk_t, isZ_0, isZ_1, isZ_n0, isZ_n1, ald_n, ast_n, stb_n, litI, nI_add, pk_mul, pk_sub, Nat.add_sub_cancel, nar_0, nar_1, nI_leI, nI_ltI, nI_eq, Nat.not_lt_zero, Nat.le_zero_eq, Nat.zero_le, not_true_eq_false, not_false_eq_true, reduceIte, if_true, if_false, ite_self, Bool.false_eq_true, Nat.reduceEqDiff, Nat.reduceAdd, Nat.reduceMul, Nat.reduceSub, Nat.reduceLT, Nat.reduceLeDiff, Nat.reducePow, gi_si, gi_sg, gi_sa, gi_sl, ga_si, ga_sg2, ga_sa, ga_sl, gl_si, gl_sg, gl_sa, gl_sl, sp8, b, g1, g5]
    · have h2 := CIb_fr h g13 g2
      have hs2 : ga σx2 57 n = nI 1 := by rw [g13.2 57]; exact hs
      have h3 := CIb_mood (v := v) h2
      have c3 : PC T L bt (sa σx2 55 n (nI v)) (sa σm1 8 (48 + n) (nI v)) := g14
      obtain ⟨σx4, σm4, p1, p2, p3, p4, p5⟩ := tok_step N hN g8 c3 g11 g12
      have q := (new_both N hN (PC_fr c3 p4 p5) p3 (CIb_fr h3 p4 p5) (by rw [p4.2 57]; exact hs2)).tr ((g13.r.c.tr (FxC_a σx2 (n := n) (by omega : 54 ≤ 55) (nI v))).tr p4.r.c) ((g2.r.c.tr (FmC_8 σm1 (n := n) (nI v))).tr p5.r.c)
      have z1 : X0_readWishes_f N (nI n) σx = X0_readWishes_l34 N (nI n) σx4 := by
        unfold X0_readWishes_f
        simp (disch := omega) only [if_pos, if_neg, bnd_e, cal_e, chk_t, isZ_0, isZ_1, isZ_n0, isZ_n1, ald_n, ast_n, stb_n, litI, nI_add, pk_mul, pk_sub, Nat.add_sub_cancel, nar_0, nar_1, nI_leI, nI_ltI, nI_eq, Nat.not_lt_zero, Nat.le_zero_eq, Nat.zero_le, not_true_eq_false, not_false_eq_true, reduceIte, if_true, if_false, ite_self, Bool.false_eq_true, Nat.reduceEqDiff, Nat.reduceAdd, Nat.reduceMul, Nat.reduceSub, Nat.reduceLT, Nat.reduceLeDiff, Nat.reducePow, gi_si, gi_sg, gi_sa, gi_sl, ga_si, ga_sg2, ga_sa, ga_sl, gl_si, gl_sg, gl_sa, gl_sl, a, g4, g9, p1]
      have z2 : mdM N (nI (48 + n)) σm = X7_readItem_l213 N (nI 1) (nI (48 + n)) σm4 := by
        unfold mdM
        simp (disch := omega) only [if_pos, if_neg, bnd_e, cal_e, chk_t, isZ_0, isZ_1, isZ_n0, isZ_n1, ald_n, ast_n, stb_n, litI, nI_add, pk_mul, pk_sub, Nat.add_sub_cancel, nar_0, nar_1, nI_leI, nI_ltI, nI_eq, Nat.not_lt_zero, Nat.le_zero_eq, Nat.zero_le, not_true_eq_false, not_false_eq_true, reduceIte, if_true, if_false, ite_self, Bool.false_eq_true, Nat.reduceEqDiff, Nat.reduceAdd, Nat.reduceMul, Nat.reduceSub, Nat.reduceLT, Nat.reduceLeDiff, Nat.reducePow, gi_si, gi_sg, gi_sa, gi_sl, ga_si, ga_sg2, ga_sa, ga_sl, gl_si, gl_sg, gl_sa, gl_sl, sp8, b, g1, g5, g10, p2]
      rw [z1, z2]
      exact q
