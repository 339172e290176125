/-! THE PARSER: one token, in the class and in the reference -/
theorem sb_lo : ∀ b : Nat, b < 128 → (nI b).toInt8.toInt32 = nI b := by decide
theorem sb_hi : ∀ b : Nat, b < 128 → (nI (b + 128)).toInt8.toInt32 < 0 := by decide
def bLet (b : Nat) : Bool := decide (97 ≤ b) && decide (b ≤ 122)
theorem bLet_i {b : Nat} : bLet b = true ↔ 97 ≤ b ∧ b ≤ 122 := by
  unfold bLet
  rw [Bool.and_eq_true, decide_eq_true_eq, decide_eq_true_eq]
def bDig (b : Nat) : Bool := decide (48 ≤ b) && decide (b ≤ 57)
theorem bDig_i {b : Nat} : bDig b = true ↔ 48 ≤ b ∧ b ≤ 57 := by
  unfold bDig
  rw [Bool.and_eq_true, decide_eq_true_eq, decide_eq_true_eq]
theorem sb_eq {b c : Nat} (hb : b < 256) (hc : c < 128) : (nI b).toInt8.toInt32 = nI c ↔ b = c := by
  by_cases h : b < 128
  · rw [sb_lo b h, nI_eq (by omega) (by omega)]
  · have q := sb_hi (b - 128) (by omega)
    rw [Nat.sub_add_cancel (by omega)] at q
    constructor
    · intro e
      rw [e] at q
      exact absurd q (nI_pos (by omega))
    · intro e
      omega
theorem x_letter (N : Nat) {b : Nat} (hb : b < 256) (s : St) : X5_isLetter_f N (nI b).toInt8.toInt32 s = some (if bLet b then nI 1 else nI 0, s) := by
  unfold X5_isLetter_f
  by_cases h : b < 128
  · rw [sb_lo b h]
    by_cases h1 : b < 97
    · rw [if_neg (show ¬ bLet b = true from fun q => by have := (bLet_i.mp q).1; omega)]
      simp (disch := omega) only [if_pos, if_neg, bnd_e, cal_e, chk_t, isZ_0, isZ_1, isZ_n0, isZ_n1, ald_n, ast_n, stb_n, litI, nI_add, pk_mul, pk_sub, Nat.add_sub_cancel, nar_0, nar_1, nI_leI, nI_ltI, nI_eq, Nat.not_lt_zero, Nat.le_zero_eq, Nat.zero_le, not_true_eq_false, not_false_eq_true, reduceIte, if_true, if_false, ite_self, Bool.false_eq_true, Nat.reduceEqDiff, Nat.reduceAdd, Nat.reduceMul, Nat.reduceSub, Nat.reduceLT, Nat.reduceLeDiff, Nat.reducePow, gi_si, gi_sg, gi_sa, gi_sl, ga_si, ga_sg2, ga_sa, ga_sl, gl_si, gl_sg, gl_sa, gl_sl]
    · by_cases h2 : 122 < b
      · rw [if_neg (show ¬ bLet b = true from fun q => by have := (bLet_i.mp q).2; omega)]
        simp (disch := omega) only [if_pos, if_neg, bnd_e, cal_e, chk_t, isZ_0, isZ_1, isZ_n0, isZ_n1, ald_n, ast_n, stb_n, litI, nI_add, pk_mul, pk_sub, Nat.add_sub_cancel, nar_0, nar_1, nI_leI, nI_ltI, nI_eq, Nat.not_lt_zero, Nat.le_zero_eq, Nat.zero_le, not_true_eq_false, not_false_eq_true, reduceIte, if_true, if_false, ite_self, Bool.false_eq_true, Nat.reduceEqDiff, Nat.reduceAdd, Nat.reduceMul, Nat.reduceSub, Nat.reduceLT, Nat.reduceLeDiff, Nat.reducePow, gi_si, gi_sg, gi_sa, gi_sl, ga_si, ga_sg2, ga_sa, ga_sl, gl_si, gl_sg, gl_sa, gl_sl]
      · rw [if_pos (show bLet b = true from bLet_i.mpr ⟨by omega, by omega⟩)]
        simp (disch := omega) only [if_pos, if_neg, bnd_e, cal_e, chk_t, isZ_0, isZ_1, isZ_n0, isZ_n1, ald_n, ast_n, stb_n, litI, nI_add, pk_mul, pk_sub, Nat.add_sub_cancel, nar_0, nar_1, nI_leI, nI_ltI, nI_eq, Nat.not_lt_zero, Nat.le_zero_eq, Nat.zero_le, not_true_eq_false, not_false_eq_true, reduceIte, if_true, if_false, ite_self, Bool.false_eq_true, Nat.reduceEqDiff, Nat.reduceAdd, Nat.reduceMul, Nat.reduceSub, Nat.reduceLT, Nat.reduceLeDiff, Nat.reducePow, gi_si, gi_sg, gi_sa, gi_sl, ga_si, ga_sg2, ga_sa, ga_sl, gl_si, gl_sg, gl_sa, gl_sl]
  · have q := sb_hi (b - 128) (by omega)
    rw [Nat.sub_add_cancel (by omega)] at q
    rw [if_neg (show ¬ bLet b = true from fun q => by have := (bLet_i.mp q).2; omega), if_pos (Int32.lt_trans q (by decide))]
    rfl
theorem x_digit (N : Nat) {b : Nat} (hb : b < 256) (s : St) : X5_isDigit_f N (nI b).toInt8.toInt32 s = some (if bDig b then nI 1 else nI 0, s) := by
  unfold X5_isDigit_f
  by_cases h : b < 128
  · rw [sb_lo b h]
    by_cases h1 : b < 48
    · rw [if_neg (show ¬ bDig b = true from fun q => by have := (bDig_i.mp q).1; omega)]
      simp (disch := omega) only [if_pos, if_neg, bnd_e, cal_e, chk_t, isZ_0, isZ_1, isZ_n0, isZ_n1, ald_n, ast_n, stb_n, litI, nI_add, pk_mul, pk_sub, Nat.add_sub_cancel, nar_0, nar_1, nI_leI, nI_ltI, nI_eq, Nat.not_lt_zero, Nat.le_zero_eq, Nat.zero_le, not_true_eq_false, not_false_eq_true, reduceIte, if_true, if_false, ite_self, Bool.false_eq_true, Nat.reduceEqDiff, Nat.reduceAdd, Nat.reduceMul, Nat.reduceSub, Nat.reduceLT, Nat.reduceLeDiff, Nat.reducePow, gi_si, gi_sg, gi_sa, gi_sl, ga_si, ga_sg2, ga_sa, ga_sl, gl_si, gl_sg, gl_sa, gl_sl]
    · by_cases h2 : 57 < b
      · rw [if_neg (show ¬ bDig b = true from fun q => by have := (bDig_i.mp q).2; omega)]
        simp (disch := omega) only [if_pos, if_neg, bnd_e, cal_e, chk_t, isZ_0, isZ_1, isZ_n0, isZ_n1, ald_n, ast_n, stb_n, litI, nI_add, pk_mul, pk_sub, Nat.add_sub_cancel, nar_0, nar_1, nI_leI, nI_ltI, nI_eq, Nat.not_lt_zero, Nat.le_zero_eq, Nat.zero_le, not_true_eq_false, not_false_eq_true, reduceIte, if_true, if_false, ite_self, Bool.false_eq_true, Nat.reduceEqDiff, Nat.reduceAdd, Nat.reduceMul, Nat.reduceSub, Nat.reduceLT, Nat.reduceLeDiff, Nat.reducePow, gi_si, gi_sg, gi_sa, gi_sl, ga_si, ga_sg2, ga_sa, ga_sl, gl_si, gl_sg, gl_sa, gl_sl]
      · rw [if_pos (show bDig b = true from bDig_i.mpr ⟨by omega, by omega⟩)]
        simp (disch := omega) only [if_pos, if_neg, bnd_e, cal_e, chk_t, isZ_0, isZ_1, isZ_n0, isZ_n1, ald_n, ast_n, stb_n, litI, nI_add, pk_mul, pk_sub, Nat.add_sub_cancel, nar_0, nar_1, nI_leI, nI_ltI, nI_eq, Nat.not_lt_zero, Nat.le_zero_eq, Nat.zero_le, not_true_eq_false, not_false_eq_true, reduceIte, if_true, if_false, ite_self, Bool.false_eq_true, Nat.reduceEqDiff, Nat.reduceAdd, Nat.reduceMul, Nat.reduceSub, Nat.reduceLT, Nat.reduceLeDiff, Nat.reducePow, gi_si, gi_sg, gi_sa, gi_sl, ga_si, ga_sg2, ga_sa, ga_sl, gl_si, gl_sg, gl_sa, gl_sl]
  · have q := sb_hi (b - 128) (by omega)
    rw [Nat.sub_add_cancel (by omega)] at q
    rw [if_neg (show ¬ bDig b = true from fun q => by have := (bDig_i.mp q).2; omega), if_pos (Int32.lt_trans q (by decide))]
    rfl
theorem m_letter (N : Nat) {b : Nat} (hb : b < 256) (s : St) : X7_isLetter_f N (nI b) s = some (if bLet b then nI 1 else nI 0, s) := by
  unfold X7_isLetter_f
  by_cases h1 : b < 97
  · rw [if_neg (show ¬ bLet b = true from fun q => by have := (bLet_i.mp q).1; omega)]
    simp (disch := omega) only [if_pos, if_neg, bnd_e, cal_e, chk_t, isZ_0, isZ_1, isZ_n0, isZ_n1, ald_n, ast_n, stb_n, litI, nI_add, pk_mul, pk_sub, Nat.add_sub_cancel, nar_0, nar_1, nI_leI, nI_ltI, nI_eq, Nat.not_lt_zero, Nat.le_zero_eq, Nat.zero_le, not_true_eq_false, not_false_eq_true, reduceIte, if_true, if_false, ite_self, Bool.false_eq_true, Nat.reduceEqDiff, Nat.reduceAdd, Nat.reduceMul, Nat.reduceSub, Nat.reduceLT, Nat.reduceLeDiff, Nat.reducePow, gi_si, gi_sg, gi_sa, gi_sl, ga_si, ga_sg2, ga_sa, ga_sl, gl_si, gl_sg, gl_sa, gl_sl]
  · by_cases h2 : 122 < b
    · rw [if_neg (show ¬ bLet b = true from fun q => by have := (bLet_i.mp q).2; omega)]
      simp (disch := omega) only [if_pos, if_neg, bnd_e, cal_e, chk_t, isZ_0, isZ_1, isZ_n0, isZ_n1, ald_n, ast_n, stb_n, litI, nI_add, pk_mul, pk_sub, Nat.add_sub_cancel, nar_0, nar_1, nI_leI, nI_ltI, nI_eq, Nat.not_lt_zero, Nat.le_zero_eq, Nat.zero_le, not_true_eq_false, not_false_eq_true, reduceIte, if_true, if_false, ite_self, Bool.false_eq_true, Nat.reduceEqDiff, Nat.reduceAdd, Nat.reduceMul, Nat.reduceSub, Nat.reduceLT, Nat.reduceLeDiff, Nat.reducePow, gi_si, gi_sg, gi_sa, gi_sl, ga_si, ga_sg2, ga_sa, ga_sl, gl_si, gl_sg, gl_sa, gl_sl]
    · rw [if_pos (show bLet b = true from bLet_i.mpr ⟨by omega, by omega⟩)]
      simp (disch := omega) only [if_pos, if_neg, bnd_e, cal_e, chk_t, isZ_0, isZ_1, isZ_n0, isZ_n1, ald_n, ast_n, stb_n, litI, nI_add, pk_mul, pk_sub, Nat.add_sub_cancel, nar_0, nar_1, nI_leI, nI_ltI, nI_eq, Nat.not_lt_zero, Nat.le_zero_eq, Nat.zero_le, not_true_eq_false, not_false_eq_true, reduceIte, if_true, if_false, ite_self, Bool.false_eq_true, Nat.reduceEqDiff, Nat.reduceAdd, Nat.reduceMul, Nat.reduceSub, Nat.reduceLT, Nat.reduceLeDiff, Nat.reducePow, gi_si, gi_sg, gi_sa, gi_sl, ga_si, ga_sg2, ga_sa, ga_sl, gl_si, gl_sg, gl_sa, gl_sl]
theorem m_digit (N : Nat) {b : Nat} (hb : b < 256) (s : St) : X7_isDigit_f N (nI b) s = some (if bDig b then nI 1 else nI 0, s) := by
  unfold X7_isDigit_f
  by_cases h1 : b < 48
  · rw [if_neg (show ¬ bDig b = true from fun q => by have := (bDig_i.mp q).1; omega)]
    simp (disch := omega) only [if_pos, if_neg, bnd_e, cal_e, chk_t, isZ_0, isZ_1, isZ_n0, isZ_n1, ald_n, ast_n, stb_n, litI, nI_add, pk_mul, pk_sub, Nat.add_sub_cancel, nar_0, nar_1, nI_leI, nI_ltI, nI_eq, Nat.not_lt_zero, Nat.le_zero_eq, Nat.zero_le, not_true_eq_false, not_false_eq_true, reduceIte, if_true, if_false, ite_self, Bool.false_eq_true, Nat.reduceEqDiff, Nat.reduceAdd, Nat.reduceMul, Nat.reduceSub, Nat.reduceLT, Nat.reduceLeDiff, Nat.reducePow, gi_si, gi_sg, gi_sa, gi_sl, ga_si, ga_sg2, ga_sa, ga_sl, gl_si, gl_sg, gl_sa, gl_sl]
  · by_cases h2 : 57 < b
    · rw [if_neg (show ¬ bDig b = true from fun q => by have := (bDig_i.mp q).2; omega)]
      simp (disch := omega) only [if_pos, if_neg, bnd_e, cal_e, chk_t, isZ_0, isZ_1, isZ_n0, isZ_n1, ald_n, ast_n, stb_n, litI, nI_add, pk_mul, pk_sub, Nat.add_sub_cancel, nar_0, nar_1, nI_leI, nI_ltI, nI_eq, Nat.not_lt_zero, Nat.le_zero_eq, Nat.zero_le, not_true_eq_false, not_false_eq_true, reduceIte, if_true, if_false, ite_self, Bool.false_eq_true, Nat.reduceEqDiff, Nat.reduceAdd, Nat.reduceMul, Nat.reduceSub, Nat.reduceLT, Nat.reduceLeDiff, Nat.reducePow, gi_si, gi_sg, gi_sa, gi_sl, ga_si, ga_sg2, ga_sa, ga_sl, gl_si, gl_sg, gl_sa, gl_sl]
    · rw [if_pos (show bDig b = true from bDig_i.mpr ⟨by omega, by omega⟩)]
      simp (disch := omega) only [if_pos, if_neg, bnd_e, cal_e, chk_t, isZ_0, isZ_1, isZ_n0, isZ_n1, ald_n, ast_n, stb_n, litI, nI_add, pk_mul, pk_sub, Nat.add_sub_cancel, nar_0, nar_1, nI_leI, nI_ltI, nI_eq, Nat.not_lt_zero, Nat.le_zero_eq, Nat.zero_le, not_true_eq_false, not_false_eq_true, reduceIte, if_true, if_false, ite_self, Bool.false_eq_true, Nat.reduceEqDiff, Nat.reduceAdd, Nat.reduceMul, Nat.reduceSub, Nat.reduceLT, Nat.reduceLeDiff, Nat.reducePow, gi_si, gi_sg, gi_sa, gi_sl, ga_si, ga_sg2, ga_sa, ga_sl, gl_si, gl_sg, gl_sa, gl_sl]
def bBl (b : Nat) : Bool := decide (b = 32) || decide (b = 10)
theorem bBl_i {b : Nat} : bBl b = true ↔ b = 32 ∨ b = 10 := by
  unfold bBl
  rw [Bool.or_eq_true, decide_eq_true_eq, decide_eq_true_eq]
theorem x_blank (N : Nat) {b : Nat} (hb : b < 256) (s : St) : X5_isBlank_f N (nI b).toInt8.toInt32 s = some (if bBl b then nI 1 else nI 0, s) := by
  unfold X5_isBlank_f X5_isBlank_l12
  have e1 : (nI b).toInt8.toInt32 = (32 : Int32) ↔ b = 32 := sb_eq hb (c := 32) (by omega)
  have e2 : (nI b).toInt8.toInt32 = (10 : Int32) ↔ b = 10 := sb_eq hb (c := 10) (by omega)
  by_cases h1 : b = 32
  · rw [if_pos (show bBl b = true from bBl_i.mpr (Or.inl h1)), if_pos (e1.mpr h1)]
    rfl
  · by_cases h2 : b = 10
    · rw [if_pos (show bBl b = true from bBl_i.mpr (Or.inr h2)), if_neg (fun q => h1 (e1.mp q)), if_pos (e2.mpr h2)]
      rfl
    · rw [if_neg (show ¬ bBl b = true from fun q => (bBl_i.mp q).elim h1 h2), if_neg (fun q => h1 (e1.mp q)), if_neg (fun q => h2 (e2.mp q))]
      rfl
theorem si_self (σ : St) (k : Nat) : si σ k (gi σ k) = σ := by
  obtain ⟨f, g⟩ := σ
  show (upd f k (f k), g) = (f, g)
  congr 1
  funext j
  show (if j = k then f k else f j) = f j
  split
  · next h => rw [h]
  · rfl
theorem si_si (σ : St) (k : Nat) (v w : Int32) : si (si σ k v) k w = si σ k w := by
  obtain ⟨f, g⟩ := σ
  show (upd (upd f k v) k w, g) = (upd f k w, g)
  congr 1
  funext j
  show (if j = k then w else if j = k then v else f j) = (if j = k then w else f j)
  split <;> rfl
/-- the text under the parser: T bytes, at most L -/
def PC (T L : Nat) (bt : Nat → Nat) (σx σm : St) : Prop := T ≤ 260 ∧ L ≤ 240 ∧ gi σx 0 = nI T ∧ gi σm 2 = nI T ∧ gi σx 5 = nI L ∧ gi σm 3 = nI L ∧ ∀ i, i < 260 → bt i < 256 ∧ ga σm 0 i = nI (bt i) ∧ ga σx 0 i = (nI (bt i)).toInt8.toInt32
theorem skip_l (N : Nat) {T L : Nat} {bt : Nat → Nat} {σx : St} : ∀ (d p n n2 : Nat) (σm : St), PC T L bt σx σm → gi σm 4 = nI p → p + d = T → d < n → d < n2 → ∃ q, p ≤ q ∧ q ≤ T ∧ (q < T → ¬ bBl (bt q) = true) ∧ X5_step_l5 N n (nI p) σx = X5_step_l31 N (nI q) σx ∧ X7_go_l0 N n2 σm = X7_go_l52 N (si σm 4 (nI q))
  | d, p, 0, _, _, _, _, _, h2, _ => absurd h2 (by omega)
  | d, p, _ + 1, 0, _, _, _, _, _, h2 => absurd h2 (by omega)
  | 0, p, n + 1, n2 + 1, σm, ⟨c1, c2, c3, c4, c5, c6, c7⟩, hp, h1, h2, h3 => by
    refine ⟨p, by omega, by omega, fun h => absurd h (by omega), ?_, ?_⟩
    · rw [X5_step_l5.eq_def]
      simp (disch := omega) only [if_pos, if_neg, bnd_e, cal_e, chk_t, isZ_0, isZ_1, isZ_n0, isZ_n1, ald_n, ast_n, stb_n, litI, nI_add, pk_mul, pk_sub, Nat.add_sub_cancel, nar_0, nar_1, nI_leI, nI_ltI, nI_eq, Nat.not_lt_zero, Nat.le_zero_eq, Nat.zero_le, not_true_eq_false, not_false_eq_true, reduceIte, if_true, if_false, ite_self, Bool.false_eq_true, Nat.reduceEqDiff, Nat.reduceAdd, Nat.reduceMul, Nat.reduceSub, Nat.reduceLT, Nat.reduceLeDiff, Nat.reducePow, gi_si, gi_sg, gi_sa, gi_sl, ga_si, ga_sg2, ga_sa, ga_sl, gl_si, gl_sg, gl_sa, gl_sl, c3]
    · rw [X7_go_l0.eq_def, ← hp, si_self]
      simp (disch := omega) only [if_pos, if_neg, bnd_e, cal_e, chk_t, isZ_0, isZ_1, isZ_n0, isZ_n1, ald_n, ast_n, stb_n, litI, nI_add, pk_mul, pk_sub, Nat.add_sub_cancel, nar_0, nar_1, nI_leI, nI_ltI, nI_eq, Nat.not_lt_zero, Nat.le_zero_eq, Nat.zero_le, not_true_eq_false, not_false_eq_true, reduceIte, if_true, if_false, ite_self, Bool.false_eq_true, Nat.reduceEqDiff, Nat.reduceAdd, Nat.reduceMul, Nat.reduceSub, Nat.reduceLT, Nat.reduceLeDiff, Nat.reducePow, gi_si, gi_sg, gi_sa, gi_sl, ga_si, ga_sg2, ga_sa, ga_sl, gl_si, gl_sg, gl_sa, gl_sl, c4, hp]
  | d + 1, p, n + 1, n2 + 1, σm, ⟨c1, c2, c3, c4, c5, c6, c7⟩, hp, h1, h2, h3 => by
    obtain ⟨b1, b2, b3⟩ := c7 p (by omega)
    by_cases hb : bBl (bt p) = true
    · obtain ⟨q, q1, q2, q3, q4, q5⟩ := skip_l N (T := T) (L := L) (bt := bt) (σx := σx) d (p + 1) n n2 (si σm 4 (nI (p + 1))) ⟨c1, c2, c3, c4, c5, c6, c7⟩ rfl (by omega) (by omega) (by omega)
      rw [si_si] at q5
      refine ⟨q, by omega, q2, q3, ?_, ?_⟩
      · rw [← q4, X5_step_l5.eq_def]
        simp (disch := omega) only [if_pos, if_neg, bnd_e, cal_e, chk_t, isZ_0, isZ_1, isZ_n0, isZ_n1, ald_n, ast_n, stb_n, litI, nI_add, pk_mul, pk_sub, Nat.add_sub_cancel, nar_0, nar_1, nI_leI, nI_ltI, nI_eq, Nat.not_lt_zero, Nat.le_zero_eq, Nat.zero_le, not_true_eq_false, not_false_eq_true, reduceIte, if_true, if_false, ite_self, Bool.false_eq_true, Nat.reduceEqDiff, Nat.reduceAdd, Nat.reduceMul, Nat.reduceSub, Nat.reduceLT, Nat.reduceLeDiff, Nat.reducePow, gi_si, gi_sg, gi_sa, gi_sl, ga_si, ga_sg2, ga_sa, ga_sl, gl_si, gl_sg, gl_sa, gl_sl, c3, b3, x_blank N b1, hb, eq_self]
      · rw [← q5, X7_go_l0.eq_def]
        unfold X7_go_l39
        rcases bBl_i.mp hb with e | e
        · simp (disch := omega) only [if_pos, if_neg, bnd_e, cal_e, chk_t, isZ_0, isZ_1, isZ_n0, isZ_n1, ald_n, ast_n, stb_n, litI, nI_add, pk_mul, pk_sub, Nat.add_sub_cancel, nar_0, nar_1, nI_leI, nI_ltI, nI_eq, Nat.not_lt_zero, Nat.le_zero_eq, Nat.zero_le, not_true_eq_false, not_false_eq_true, reduceIte, if_true, if_false, ite_self, Bool.false_eq_true, Nat.reduceEqDiff, Nat.reduceAdd, Nat.reduceMul, Nat.reduceSub, Nat.reduceLT, Nat.reduceLeDiff, Nat.reducePow, gi_si, gi_sg, gi_sa, gi_sl, ga_si, ga_sg2, ga_sa, ga_sl, gl_si, gl_sg, gl_sa, gl_sl, c4, hp, b2, e]
        · simp (disch := omega) only [if_pos, if_neg, bnd_e, cal_e, chk_t, isZ_0, isZ_1, isZ_n0, isZ_n1, ald_n, ast_n, stb_n, litI, nI_add, pk_mul, pk_sub, Nat.add_sub_cancel, nar_0, nar_1, nI_leI, nI_ltI, nI_eq, Nat.not_lt_zero, Nat.le_zero_eq, Nat.zero_le, not_true_eq_false, not_false_eq_true, reduceIte, if_true, if_false, ite_self, Bool.false_eq_true, Nat.reduceEqDiff, Nat.reduceAdd, Nat.reduceMul, Nat.reduceSub, Nat.reduceLT, Nat.reduceLeDiff, Nat.reducePow, gi_si, gi_sg, gi_sa, gi_sl, ga_si, ga_sg2, ga_sa, ga_sl, gl_si, gl_sg, gl_sa, gl_sl, c4, hp, b2, e]
    · refine ⟨p, by omega, by omega, fun _ => hb, ?_, ?_⟩
      · rw [X5_step_l5.eq_def]
        simp (disch := omega) only [if_pos, if_neg, bnd_e, cal_e, chk_t, isZ_0, isZ_1, isZ_n0, isZ_n1, ald_n, ast_n, stb_n, litI, nI_add, pk_mul, pk_sub, Nat.add_sub_cancel, nar_0, nar_1, nI_leI, nI_ltI, nI_eq, Nat.not_lt_zero, Nat.le_zero_eq, Nat.zero_le, not_true_eq_false, not_false_eq_true, reduceIte, if_true, if_false, ite_self, Bool.false_eq_true, Nat.reduceEqDiff, Nat.reduceAdd, Nat.reduceMul, Nat.reduceSub, Nat.reduceLT, Nat.reduceLeDiff, Nat.reducePow, gi_si, gi_sg, gi_sa, gi_sl, ga_si, ga_sg2, ga_sa, ga_sl, gl_si, gl_sg, gl_sa, gl_sl, c3, b3, x_blank N b1, hb, eq_self]
      · rw [X7_go_l0.eq_def, ← hp, si_self]
        have e1 : ¬ bt p = 32 := fun q => hb (bBl_i.mpr (Or.inl q))
        have e2 : ¬ bt p = 10 := fun q => hb (bBl_i.mpr (Or.inr q))
        simp (disch := omega) only [if_pos, if_neg, bnd_e, cal_e, chk_t, isZ_0, isZ_1, isZ_n0, isZ_n1, ald_n, ast_n, stb_n, litI, nI_add, pk_mul, pk_sub, Nat.add_sub_cancel, nar_0, nar_1, nI_leI, nI_ltI, nI_eq, Nat.not_lt_zero, Nat.le_zero_eq, Nat.zero_le, not_true_eq_false, not_false_eq_true, reduceIte, if_true, if_false, ite_self, Bool.false_eq_true, Nat.reduceEqDiff, Nat.reduceAdd, Nat.reduceMul, Nat.reduceSub, Nat.reduceLT, Nat.reduceLeDiff, Nat.reducePow, gi_si, gi_sg, gi_sa, gi_sl, ga_si, ga_sg2, ga_sa, ga_sl, gl_si, gl_sg, gl_sa, gl_sl, c4, hp, b2]
