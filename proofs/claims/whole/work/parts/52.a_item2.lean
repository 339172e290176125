/-- the item is noted by both -/
def xI (σ : St) (n c s v fl : Nat) : St := si (si (si (sa (sa (sa (sa σ 54 n (nI v)) 55 n (-nI 1)) 56 n (nI 0)) 57 n (nI fl)) 46 (nI (c + fl))) 47 (nI (s + v))) 45 (nI (n + 1))
def mI (σ : St) (n s v : Nat) (w : Int32) : St := sa (sa (sa (si σ 11 (nI (s + v))) 7 (48 + n) (nI v)) 8 (48 + n) (-nI 1)) 9 (48 + n) w
theorem CIb_add {n v fl : Nat} {w : Int32} {σx σm : St} (hn : n < 8) (h : CIb n n σx σm) (hv : 1 ≤ v) (hs : sumN (fun i => ga σm 7 (48 + i)) n + v ≤ 3600) (hw : (fl = 0 ∧ w = -nI 1) ∨ (fl = 1 ∧ w = nI 0)) : CIb (n + 1) n (xI σx n (cntN (fun i => ga σm 9 (48 + i)) n) (sumN (fun i => ga σm 7 (48 + i)) n) v fl) (mI σm n (sumN (fun i => ga σm 7 (48 + i)) n) v w) := by
  obtain ⟨h1, h2, h3, h4, h5, h6, h7, h8, h9, h10⟩ := h
  have A7 : ∀ i, ga (mI σm n (sumN (fun i => ga σm 7 (48 + i)) n) v w) 7 (48 + i) = if i = n then nI v else ga σm 7 (48 + i) := by
    intro i
    unfold mI
    simp only [gi_si, gi_sg, gi_sa, gi_sl, ga_si, ga_sg2, ga_sa, ga_sl, gl_si, gl_sg, gl_sa, gl_sl, Nat.not_lt_zero, Nat.le_zero_eq, Nat.zero_le, not_true_eq_false, not_false_eq_true, reduceIte, if_true, if_false, ite_self, Bool.false_eq_true, Nat.reduceEqDiff, Nat.reduceAdd, Nat.reduceMul, Nat.reduceSub, Nat.reduceLT, Nat.reduceLeDiff, Nat.reducePow, upd_e]
    by_cases z : i = n
    · rw [if_pos z, if_pos (by omega)]
    · rw [if_neg z, if_neg (by omega)]
  have A8 : ∀ i, ga (mI σm n (sumN (fun i => ga σm 7 (48 + i)) n) v w) 8 (48 + i) = if i = n then -nI 1 else ga σm 8 (48 + i) := by
    intro i
    unfold mI
    simp only [gi_si, gi_sg, gi_sa, gi_sl, ga_si, ga_sg2, ga_sa, ga_sl, gl_si, gl_sg, gl_sa, gl_sl, Nat.not_lt_zero, Nat.le_zero_eq, Nat.zero_le, not_true_eq_false, not_false_eq_true, reduceIte, if_true, if_false, ite_self, Bool.false_eq_true, Nat.reduceEqDiff, Nat.reduceAdd, Nat.reduceMul, Nat.reduceSub, Nat.reduceLT, Nat.reduceLeDiff, Nat.reducePow, upd_e]
    by_cases z : i = n
    · rw [if_pos z, if_pos (by omega)]
    · rw [if_neg z, if_neg (by omega)]
  have A9 : ∀ i, ga (mI σm n (sumN (fun i => ga σm 7 (48 + i)) n) v w) 9 (48 + i) = if i = n then w else ga σm 9 (48 + i) := by
    intro i
    unfold mI
    simp only [gi_si, gi_sg, gi_sa, gi_sl, ga_si, ga_sg2, ga_sa, ga_sl, gl_si, gl_sg, gl_sa, gl_sl, Nat.not_lt_zero, Nat.le_zero_eq, Nat.zero_le, not_true_eq_false, not_false_eq_true, reduceIte, if_true, if_false, ite_self, Bool.false_eq_true, Nat.reduceEqDiff, Nat.reduceAdd, Nat.reduceMul, Nat.reduceSub, Nat.reduceLT, Nat.reduceLeDiff, Nat.reducePow, upd_e]
    by_cases z : i = n
    · rw [if_pos z, if_pos (by omega)]
    · rw [if_neg z, if_neg (by omega)]
  have S : sumN (fun i => ga (mI σm n (sumN (fun i => ga σm 7 (48 + i)) n) v w) 7 (48 + i)) (n + 1) = sumN (fun i => ga σm 7 (48 + i)) n + v := by
    show sumN (fun i => ga (mI σm n (sumN (fun i => ga σm 7 (48 + i)) n) v w) 7 (48 + i)) n + (ga (mI σm n (sumN (fun i => ga σm 7 (48 + i)) n) v w) 7 (48 + n)).toNatClampNeg = _
    rw [A7 n, if_pos rfl, nI_clamp (by omega), sumN_congr (g := fun i => ga σm 7 (48 + i)) (fun i hi => by rw [A7 i, if_neg (by omega)])]
  have C : cntN (fun i => ga (mI σm n (sumN (fun i => ga σm 7 (48 + i)) n) v w) 9 (48 + i)) (n + 1) = cntN (fun i => ga σm 9 (48 + i)) n + fl := by
    show (if ga (mI σm n (sumN (fun i => ga σm 7 (48 + i)) n) v w) 9 (48 + n) = -1 then cntN (fun i => ga (mI σm n (sumN (fun i => ga σm 7 (48 + i)) n) v w) 9 (48 + i)) n else cntN (fun i => ga (mI σm n (sumN (fun i => ga σm 7 (48 + i)) n) v w) 9 (48 + i)) n + 1) = _
    rw [A9 n, if_pos rfl, cntN_congr (g := fun i => ga σm 9 (48 + i)) (fun i hi => by rw [A9 i, if_neg (by omega)])]
    rcases hw with ⟨rfl, rfl⟩ | ⟨rfl, rfl⟩
    · rw [if_pos (show -nI 1 = (-1 : Int32) from rfl), Nat.add_zero]
    · rw [if_neg (by decide)]
  refine ⟨by omega, rfl, h3, ?_, ?_, ?_, ?_, fun i hi => ?_, h9, h10⟩
  · rw [C]
    unfold xI
    simp only [gi_si, gi_sg, gi_sa, gi_sl, ga_si, ga_sg2, ga_sa, ga_sl, gl_si, gl_sg, gl_sa, gl_sl, Nat.not_lt_zero, Nat.le_zero_eq, Nat.zero_le, not_true_eq_false, not_false_eq_true, reduceIte, if_true, if_false, ite_self, Bool.false_eq_true, Nat.reduceEqDiff, Nat.reduceAdd, Nat.reduceMul, Nat.reduceSub, Nat.reduceLT, Nat.reduceLeDiff, Nat.reducePow]
  · rw [S]
    unfold xI
    simp only [gi_si, gi_sg, gi_sa, gi_sl, ga_si, ga_sg2, ga_sa, ga_sl, gl_si, gl_sg, gl_sa, gl_sl, Nat.not_lt_zero, Nat.le_zero_eq, Nat.zero_le, not_true_eq_false, not_false_eq_true, reduceIte, if_true, if_false, ite_self, Bool.false_eq_true, Nat.reduceEqDiff, Nat.reduceAdd, Nat.reduceMul, Nat.reduceSub, Nat.reduceLT, Nat.reduceLeDiff, Nat.reducePow]
  · rw [S]
    unfold mI
    simp only [gi_si, gi_sg, gi_sa, gi_sl, ga_si, ga_sg2, ga_sa, ga_sl, gl_si, gl_sg, gl_sa, gl_sl, Nat.not_lt_zero, Nat.le_zero_eq, Nat.zero_le, not_true_eq_false, not_false_eq_true, reduceIte, if_true, if_false, ite_self, Bool.false_eq_true, Nat.reduceEqDiff, Nat.reduceAdd, Nat.reduceMul, Nat.reduceSub, Nat.reduceLT, Nat.reduceLeDiff, Nat.reducePow]
  · rw [S]; exact hs
  · unfold It
    rw [A7 i, A8 i, A9 i]
    unfold xI
    simp only [gi_si, gi_sg, gi_sa, gi_sl, ga_si, ga_sg2, ga_sa, ga_sl, gl_si, gl_sg, gl_sa, gl_sl, Nat.not_lt_zero, Nat.le_zero_eq, Nat.zero_le, not_true_eq_false, not_false_eq_true, reduceIte, if_true, if_false, ite_self, Bool.false_eq_true, Nat.reduceEqDiff, Nat.reduceAdd, Nat.reduceMul, Nat.reduceSub, Nat.reduceLT, Nat.reduceLeDiff, Nat.reducePow, upd_e]
    by_cases z : i = n
    · simp only [z, if_true]
      refine ⟨trivial, trivial, rg_mk hv (by omega), ?_⟩
      rcases hw with ⟨rfl, rfl⟩ | ⟨rfl, rfl⟩
      · exact Or.inl ⟨rfl, rfl⟩
      · exact Or.inr ⟨rfl, rfl, rg_mk (by omega) (by omega)⟩
    · simp only [z, if_false]
      exact h8 i (by omega)
theorem FxC_xI (σ : St) (n c s v fl : Nat) : FxC σ (xI σ n c s v fl) := by
  unfold xI
  refine ⟨fun j hj => ?_, fun a ha => ?_⟩
  · simp only [gi_si, gi_sa, show ¬ j = 45 by omega, show ¬ j = 46 by omega, show ¬ j = 47 by omega, if_false]
  · simp only [ga_si, ga_sa, show ¬ a = 54 by omega, show ¬ a = 55 by omega, show ¬ a = 56 by omega, show ¬ a = 57 by omega, if_false]
theorem FmC_11 (σ : St) (v : Int32) : FmC σ (si σ 11 v) := ⟨fun j hj => by rw [gi_si, if_neg (by omega)], fun _ _ => rfl, fun _ _ => rfl, fun _ _ => ⟨rfl, rfl, rfl⟩⟩
theorem FmC_mI (σ : St) (n s v : Nat) (w : Int32) : FmC σ (mI σ n s v w) := by
  unfold mI
  exact (((FmC_11 σ (nI (s + v))).tr (FmC_7 _ _)).tr (FmC_8 _ _)).tr (FmC_9 _ _)
