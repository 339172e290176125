/-! clock: one item, in both -/
def It (i : Nat) (σx σm : St) : Prop := ga σx 54 i = ga σm 7 (48 + i) ∧ ga σx 55 i = ga σm 8 (48 + i) ∧ rg 1 3600 (ga σm 7 (48 + i)) ∧ ((ga σx 57 i = nI 0 ∧ ga σm 9 (48 + i) = -1) ∨ (ga σx 57 i = nI 1 ∧ ga σx 56 i = ga σm 9 (48 + i) ∧ rg 0 4 (ga σm 9 (48 + i))))
def CIb (n q : Nat) (σx σm : St) : Prop := n ≤ 8 ∧ gi σx 45 = nI n ∧ ga σm 6 6 = nI q ∧ gi σx 46 = nI (cntN (fun i => ga σm 9 (48 + i)) n) ∧ gi σx 47 = nI (sumN (fun i => ga σm 7 (48 + i)) n) ∧ gi σm 11 = nI (sumN (fun i => ga σm 7 (48 + i)) n) ∧ sumN (fun i => ga σm 7 (48 + i)) n ≤ 3600 ∧ (∀ i, i < n → It i σx σm) ∧ gi σx 1 = nI 0 ∧ gi σm 8 = nI 0
theorem CIb_fr {n q : Nat} {σx σm σx2 σm2 : St} (h : CIb n q σx σm) (fx : FxT σx σx2) (fm : FmG σm σm2) : CIb n q σx2 σm2 := by
  unfold CIb It
  rw [fx.1 45 (by omega) (by omega) (by omega) (by omega), fx.1 46 (by omega) (by omega) (by omega) (by omega), fx.1 47 (by omega) (by omega) (by omega) (by omega), fm.1 11 (by omega) (by omega) (by omega) (by omega), fm.2 6, fm.2 7, fm.2 8, fm.2 9, fx.2 54, fx.2 55, fx.2 56, fx.2 57, fx.1 1 (by omega) (by omega) (by omega) (by omega), fm.1 8 (by omega) (by omega) (by omega) (by omega)]
  exact h
def FxC (σ σ2 : St) : Prop := (∀ j, j = 0 ∨ j = 5 ∨ (8 ≤ j ∧ j < 45) → gi σ2 j = gi σ j) ∧ ∀ a, a < 54 → ga σ2 a = ga σ a
def FmC (σ σ2 : St) : Prop := (∀ j, j ≤ 3 ∨ j = 10 ∨ 12 ≤ j → gi σ2 j = gi σ j) ∧ (∀ a, a ≤ 5 ∨ 10 ≤ a → ga σ2 a = ga σ a) ∧ (∀ j, j ≠ 6 → ga σ2 6 j = ga σ 6 j) ∧ (∀ j, j < 48 → ga σ2 7 j = ga σ 7 j ∧ ga σ2 8 j = ga σ 8 j ∧ ga σ2 9 j = ga σ 9 j)
theorem FxR.c {σ σ2 : St} (h : FxR σ σ2) : FxC σ σ2 := ⟨fun j j1 => h.1 j (by omega) (by omega) (by omega) (by omega) (by omega) (by omega), fun a _ => h.2 a⟩
theorem FmR.c {σ σ2 : St} (h : FmR σ σ2) : FmC σ σ2 := ⟨fun j j1 => h.1 j (by omega) (by omega) (by omega) (by omega) (by omega) (by omega), fun a _ => h.2 a, fun j _ => by rw [h.2 6], fun j _ => by rw [h.2 7, h.2 8, h.2 9]; exact ⟨rfl, rfl, rfl⟩⟩
theorem FxC.tr {σ σ2 σ3 : St} (h : FxC σ σ2) (k : FxC σ2 σ3) : FxC σ σ3 := ⟨fun j j1 => (k.1 j j1).trans (h.1 j j1), fun a a1 => (k.2 a a1).trans (h.2 a a1)⟩
theorem FmC.tr {σ σ2 σ3 : St} (h : FmC σ σ2) (k : FmC σ2 σ3) : FmC σ σ3 := ⟨fun j j1 => (k.1 j j1).trans (h.1 j j1), fun a a1 => (k.2.1 a a1).trans (h.2.1 a a1), fun a a1 => (k.2.2.1 a a1).trans (h.2.2.1 a a1), fun j hj => ⟨((k.2.2.2 j hj).1).trans (h.2.2.2 j hj).1, ((k.2.2.2 j hj).2.1).trans (h.2.2.2 j hj).2.1, ((k.2.2.2 j hj).2.2).trans (h.2.2.2 j hj).2.2⟩⟩
def OutI (T L : Nat) (bt : Nat → Nat) (n : Nat) (σx σm : St) (ox om : Option (Int32 × St)) : Prop := (∃ σx2 σm2, ox = some (nI 0, σx2) ∧ om = some (nI 0, σm2) ∧ Bad σx2 σm2 ∧ FxC σx σx2 ∧ FmC σm σm2) ∨ (∃ σx2 σm2, ox = some (nI 1, σx2) ∧ om = some (nI 1, σm2) ∧ PC T L bt σx2 σm2 ∧ Tk T bt σx2 σm2 ∧ CIb (n + 1) (n + 1) σx2 σm2 ∧ FxC σx σx2 ∧ FmC σm σm2)
theorem OutI.tr {T L : Nat} {bt : Nat → Nat} {n : Nat} {σx σm σx1 σm1 : St} {ox om : Option (Int32 × St)} (h : OutI T L bt n σx1 σm1 ox om) (fx : FxC σx σx1) (fm : FmC σm σm1) : OutI T L bt n σx σm ox om := by
  rcases h with ⟨a, b, h1, h2, h3, h4, h5⟩ | ⟨a, b, h1, h2, h3, h4, h5, h6, h7⟩
  · exact Or.inl ⟨a, b, h1, h2, h3, fx.tr h4, fm.tr h5⟩
  · exact Or.inr ⟨a, b, h1, h2, h3, h4, h5, fx.tr h6, fm.tr h7⟩
theorem Tk_semi {T f e : Nat} {bt : Nat → Nat} {σx σm : St} (u4 : TkK T bt f e σx σm) : gi σx 3 = nI 4 ↔ gi σm 6 = nI 4 := by
  rcases u4 with ⟨z1, z2⟩ | ⟨z1, z2, z3⟩ | ⟨z0, zx, zm, ⟨z1, z2, z3, z4, z5⟩ | ⟨z1, z2, z3⟩ | ⟨z1, z2⟩⟩
  · rw [z1, z2]; decide
  · rw [z1, z2]; decide
  · rw [z1, z2]
  · rw [z1, z2]
  · rw [z1, z2]
theorem semi_both (N : Nat) (hN : 260 < N) {T L n : Nat} {bt : Nat → Nat} {σx σm : St} (c : PC T L bt σx σm) (t : Tk T bt σx σm) (h : CIb (n + 1) n σx σm) : OutI T L bt n σx σm (X0_readOne_l104 N σx) (X7_readItem_l265 N σm) := by
  obtain ⟨f, e, t1, t2, t3, t4⟩ := id t
  have hT := c.1
  have ts := Tk_semi t4
  obtain ⟨h1, h2, h3, h4, h5, h6, h7, h8, h9, h10⟩ := id h
  unfold X0_readOne_l104 X5_passSemicolon_f X7_readItem_l265
  by_cases semi : gi σm 6 = nI 4
  · right
    have semix := ts.mpr semi
    obtain ⟨v0, vx, vm⟩ := Tk_pos (by omega) (by omega) t4 semi
    have c2 : PC T L bt σx (sa σm 6 6 (nI (n + 1))) := c
    obtain ⟨σx2, σm2, y1, y2, y3, y4, y5⟩ := tok_step N hN v0 c2 vx vm
    have hc : CIb (n + 1) (n + 1) σx (sa σm 6 6 (nI (n + 1))) := ⟨h1, h2, rfl, h4, h5, h6, h7, h8, h9, h10⟩
    refine ⟨σx2, σm2, ?_, ?_, PC_fr c2 y4 y5, y3, CIb_fr hc y4 y5, y4.r.c, FmC.tr (σ2 := sa σm 6 6 (nI (n + 1))) ⟨fun j _ => rfl, fun a ha => ?_, fun j hj => ?_, fun j hj => ⟨rfl, rfl, rfl⟩⟩ y5.r.c⟩
    · simp (disch := omega) only [if_pos, if_neg, bnd_e, cal_e, chk_t, isZ_0, isZ_1, isZ_n0, isZ_n1, ald_n, ast_n, stb_n, litI, nI_add, pk_mul, pk_sub, Nat.add_sub_cancel, nar_0, nar_1, nI_leI, nI_ltI, nI_eq, Nat.not_lt_zero, Nat.le_zero_eq, Nat.zero_le, not_true_eq_false, not_false_eq_true, reduceIte, if_true, if_false, ite_self, Bool.false_eq_true, Nat.reduceEqDiff, Nat.reduceAdd, Nat.reduceMul, Nat.reduceSub, Nat.reduceLT, Nat.reduceLeDiff, Nat.reducePow, gi_si, gi_sg, gi_sa, gi_sl, ga_si, ga_sg2, ga_sa, ga_sl, gl_si, gl_sg, gl_sa, gl_sl, semix, y1]
    · simp (disch := omega) only [if_pos, if_neg, bnd_e, cal_e, chk_t, isZ_0, isZ_1, isZ_n0, isZ_n1, ald_n, ast_n, stb_n, litI, nI_add, pk_mul, pk_sub, Nat.add_sub_cancel, nar_0, nar_1, nI_leI, nI_ltI, nI_eq, Nat.not_lt_zero, Nat.le_zero_eq, Nat.zero_le, not_true_eq_false, not_false_eq_true, reduceIte, if_true, if_false, ite_self, Bool.false_eq_true, Nat.reduceEqDiff, Nat.reduceAdd, Nat.reduceMul, Nat.reduceSub, Nat.reduceLT, Nat.reduceLeDiff, Nat.reducePow, gi_si, gi_sg, gi_sa, gi_sl, ga_si, ga_sg2, ga_sa, ga_sl, gl_si, gl_sg, gl_sa, gl_sl, semi, h3, y2]
    · rw [ga_sa, if_neg (by omega)]
    · simp only [gi_si, gi_sg, gi_sa, gi_sl, ga_si, ga_sg2, ga_sa, ga_sl, gl_si, gl_sg, gl_sa, gl_sl, Nat.not_lt_zero, Nat.le_zero_eq, Nat.zero_le, not_true_eq_false, not_false_eq_true, reduceIte, if_true, if_false, ite_self, Bool.false_eq_true, Nat.reduceEqDiff, Nat.reduceAdd, Nat.reduceMul, Nat.reduceSub, Nat.reduceLT, Nat.reduceLeDiff, Nat.reducePow, upd_e, hj]
  · left
    have semix : ¬ gi σx 3 = nI 4 := fun z => semi (ts.mp z)
    obtain ⟨σx5, σm5, r1, r2, r3, r4, r5⟩ := bad_both N hT t1 t2 t3 1 1 (by by_cases z : gi σm 6 = nI 1 <;> simp [z])
    refine ⟨σx5, σm5, ?_, ?_, r3, r4.c, r5.c⟩
    · simp (disch := omega) only [if_pos, if_neg, bnd_e, cal_e, chk_t, isZ_0, isZ_1, isZ_n0, isZ_n1, ald_n, ast_n, stb_n, litI, nI_add, pk_mul, pk_sub, Nat.add_sub_cancel, nar_0, nar_1, nI_leI, nI_ltI, nI_eq, Nat.not_lt_zero, Nat.le_zero_eq, Nat.zero_le, not_true_eq_false, not_false_eq_true, reduceIte, if_true, if_false, ite_self, Bool.false_eq_true, Nat.reduceEqDiff, Nat.reduceAdd, Nat.reduceMul, Nat.reduceSub, Nat.reduceLT, Nat.reduceLeDiff, Nat.reducePow, gi_si, gi_sg, gi_sa, gi_sl, ga_si, ga_sg2, ga_sa, ga_sl, gl_si, gl_sg, gl_sa, gl_sl, semix, r1]
    · simp (disch := omega) only [if_pos, if_neg, bnd_e, cal_e, chk_t, isZ_0, isZ_1, isZ_n0, isZ_n1, ald_n, ast_n, stb_n, litI, nI_add, pk_mul, pk_sub, Nat.add_sub_cancel, nar_0, nar_1, nI_leI, nI_ltI, nI_eq, Nat.not_lt_zero, Nat.le_zero_eq, Nat.zero_le, not_true_eq_false, not_false_eq_true, reduceIte, if_true, if_false, ite_self, Bool.false_eq_true, Nat.reduceEqDiff, Nat.reduceAdd, Nat.reduceMul, Nat.reduceSub, Nat.reduceLT, Nat.reduceLeDiff, Nat.reducePow, gi_si, gi_sg, gi_sa, gi_sl, ga_si, ga_sg2, ga_sa, ga_sl, gl_si, gl_sg, gl_sa, gl_sl, semi, r2]
theorem cntN_congr {f g : Nat → Int32} : ∀ {n : Nat}, (∀ i, i < n → (f i = -1 ↔ g i = -1)) → cntN f n = cntN g n
  | 0, _ => rfl
  | n + 1, h => by
    unfold cntN
    rw [cntN_congr (fun i hi => h i (by omega))]
    have q := h n (by omega)
    by_cases z : f n = -1
    · rw [if_pos z, if_pos (q.mp z)]
    · rw [if_neg z, if_neg (fun y => z (q.mpr y))]
theorem n_neg {v : Nat} (h : v < 2 ^ 31) : ¬ nI v = -1 := by
  intro e
  have q := nI_pos h
  rw [e] at q
  exact q (by decide)
/-- a wish is noted in the item under way -/
theorem CIb_new {n q v : Nat} {σx σm : St} (hv : v ≤ 4) (hs : ga σx 57 n = nI 1) (h : CIb (n + 1) q σx σm) : CIb (n + 1) q (sa σx 56 n (nI v)) (sa σm 9 (48 + n) (nI v)) := by
  obtain ⟨h1, h2, h3, h4, h5, h6, h7, h8, h9, h10⟩ := h
  refine ⟨h1, h2, h3, ?_, h5, h6, h7, fun i hi => ?_, h9, h10⟩
  · rw [gi_sa, h4]
    refine congrArg nI (cntN_congr (fun i hi => ?_))
    simp only [gi_si, gi_sg, gi_sa, gi_sl, ga_si, ga_sg2, ga_sa, ga_sl, gl_si, gl_sg, gl_sa, gl_sl, Nat.not_lt_zero, Nat.le_zero_eq, Nat.zero_le, not_true_eq_false, not_false_eq_true, reduceIte, if_true, if_false, ite_self, Bool.false_eq_true, Nat.reduceEqDiff, Nat.reduceAdd, Nat.reduceMul, Nat.reduceSub, Nat.reduceLT, Nat.reduceLeDiff, Nat.reducePow, upd_e]
    by_cases z : i = n
    · subst z
      obtain ⟨-, -, -, y⟩ := h8 i (by omega)
      rw [if_pos rfl]
      refine ⟨fun y2 => ?_, fun y2 => absurd y2 (n_neg (by omega))⟩
      rcases y with ⟨y3, y4⟩ | ⟨y3, y4, y5⟩
      · rw [hs] at y3
        exact absurd y3 (by decide)
      · obtain ⟨w, w1, w2, w3⟩ := y5
        rw [w3] at y2
        exact absurd y2 (n_neg (by omega))
    · rw [if_neg (by omega)]
  · obtain ⟨y1, y2, y3, y4⟩ := h8 i hi
    by_cases z : i = n
    · subst z
      refine ⟨y1, y2, y3, Or.inr ⟨hs, ?_, ?_⟩⟩
      · simp only [gi_si, gi_sg, gi_sa, gi_sl, ga_si, ga_sg2, ga_sa, ga_sl, gl_si, gl_sg, gl_sa, gl_sl, Nat.not_lt_zero, Nat.le_zero_eq, Nat.zero_le, not_true_eq_false, not_false_eq_true, reduceIte, if_true, if_false, ite_self, Bool.false_eq_true, Nat.reduceEqDiff, Nat.reduceAdd, Nat.reduceMul, Nat.reduceSub, Nat.reduceLT, Nat.reduceLeDiff, Nat.reducePow, upd_e]
      · simp only [gi_si, gi_sg, gi_sa, gi_sl, ga_si, ga_sg2, ga_sa, ga_sl, gl_si, gl_sg, gl_sa, gl_sl, Nat.not_lt_zero, Nat.le_zero_eq, Nat.zero_le, not_true_eq_false, not_false_eq_true, reduceIte, if_true, if_false, ite_self, Bool.false_eq_true, Nat.reduceEqDiff, Nat.reduceAdd, Nat.reduceMul, Nat.reduceSub, Nat.reduceLT, Nat.reduceLeDiff, Nat.reducePow, upd_e]
        exact rg_mk (by omega) hv
    · refine ⟨y1, y2, y3, ?_⟩
      simp only [gi_si, gi_sg, gi_sa, gi_sl, ga_si, ga_sg2, ga_sa, ga_sl, gl_si, gl_sg, gl_sa, gl_sl, Nat.not_lt_zero, Nat.le_zero_eq, Nat.zero_le, not_true_eq_false, not_false_eq_true, reduceIte, if_true, if_false, ite_self, Bool.false_eq_true, Nat.reduceEqDiff, Nat.reduceAdd, Nat.reduceMul, Nat.reduceSub, Nat.reduceLT, Nat.reduceLeDiff, Nat.reducePow, upd_e]
      rw [if_neg z, if_neg (by omega)]
      exact y4
theorem CIb_mood {n q v : Nat} {σx σm : St} (h : CIb (n + 1) q σx σm) : CIb (n + 1) q (sa σx 55 n (nI v)) (sa σm 8 (48 + n) (nI v)) := by
  obtain ⟨h1, h2, h3, h4, h5, h6, h7, h8, h9, h10⟩ := h
  refine ⟨h1, h2, h3, h4, h5, h6, h7, fun i hi => ?_, h9, h10⟩
  obtain ⟨y1, y2, y3, y4⟩ := h8 i hi
  refine ⟨y1, ?_, y3, y4⟩
  simp only [gi_si, gi_sg, gi_sa, gi_sl, ga_si, ga_sg2, ga_sa, ga_sl, gl_si, gl_sg, gl_sa, gl_sl, Nat.not_lt_zero, Nat.le_zero_eq, Nat.zero_le, not_true_eq_false, not_false_eq_true, reduceIte, if_true, if_false, ite_self, Bool.false_eq_true, Nat.reduceEqDiff, Nat.reduceAdd, Nat.reduceMul, Nat.reduceSub, Nat.reduceLT, Nat.reduceLeDiff, Nat.reducePow, upd_e]
  by_cases z : i = n
  · rw [if_pos z, if_pos (by omega)]
  · rw [if_neg z, if_neg (by omega)]
    exact y2
