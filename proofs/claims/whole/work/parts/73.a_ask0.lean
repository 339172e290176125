/-! lay: the soonest seconds by the log -/
theorem sg_id {σ : St} {a : Nat} {f : Nat → Int32} (h : f = ga σ a) : sg σ a f = σ := by
  subst h
  have e : (fun b => if b = a then ga σ a else σ.2.1 b) = σ.2.1 := by
    funext b
    by_cases z : b = a
    · rw [if_pos z, z]
      rfl
    · rw [if_neg z]
  show (σ.1, (fun b => if b = a then ga σ a else σ.2.1 b), σ.2.2) = σ
  rw [e]
theorem sa_id {σ : St} {a i : Nat} {v : Int32} (h : upd (ga σ a) i v = ga σ a) : sa σ a i v = σ := sg_id h
theorem sa_sa {σ : St} {a i : Nat} {v w : Int32} : sa (sa σ a i v) a i w = sa σ a i w := by
  have e : upd (ga (sa σ a i v) a) i w = upd (ga σ a) i w := by
    funext j
    rw [upd_e, upd_e, ga_sa, if_pos rfl, upd_e]
    by_cases z : j = i
    · rw [if_pos z, if_pos z]
    · rw [if_neg z, if_neg z, if_neg z]
  show (σ.1, (fun b => if b = a then upd (ga (sa σ a i v) a) i w else (if b = a then upd (ga σ a) i v else σ.2.1 b)), σ.2.2) = (σ.1, (fun b => if b = a then upd (ga σ a) i w else σ.2.1 b), σ.2.2)
  rw [e]
  congr 2
  funext b
  by_cases z : b = a
  · rw [if_pos z, if_pos z]
  · rw [if_neg z, if_neg z, if_neg z]
def LgM (c : Nat → Nat) (P : Nat) (ps pb : Nat → Nat) (σ : St) : Prop := P ≤ 300 ∧ gi σ 13 = nI P ∧ ∀ p, p < P → ga σ 20 p = nI (ps p) ∧ ga σ 21 p = nI (pb p) ∧ ps p < c 8 ∧ pb p ≤ 604800
def lgP (q : Nat → Nat → Nat) (c : Nat → Nat) (ps pb : Nat → Nat) (P s t : Nat) : Prop := ∀ p, p < P → pb p + rs q c (ps p) s ≤ t
theorem lgP_s {q : Nat → Nat → Nat} {c : Nat → Nat} {ps pb : Nat → Nat} {P s t : Nat} : lgP q c ps pb (P + 1) s t ↔ lgP q c ps pb P s t ∧ pb P + rs q c (ps P) s ≤ t := by
  constructor
  · intro h
    exact ⟨fun p hp => h p (by omega), h P (by omega)⟩
  · intro h p hp
    by_cases z : p = P
    · rw [z]
      exact h.2
    · exact h.1 p (by omega)
/-- the soonest second of song s -/
def SoM (q : Nat → Nat → Nat) (c : Nat → Nat) (ps pb : Nat → Nat) (P s : Nat) (x : Int32) : Prop := ∃ v : Nat, v ≤ 1300000 ∧ x = nI v ∧ ∀ t, v ≤ t ↔ lgP q c ps pb P s t
theorem InM_cg {q : Nat → Nat → Nat} {c : Nat → Nat} {σ σ2 : St} (h : InM q c σ) (e12 : gi σ2 12 = gi σ 12) (a1 : ga σ2 1 = ga σ 1) (a10 : ga σ2 10 = ga σ 10) (a11 : ga σ2 11 = ga σ 11) (a12 : ga σ2 12 = ga σ 12) (a18 : ga σ2 18 = ga σ 18) (a19 : ga σ2 19 = ga σ 19) : InM q c σ2 := by
  unfold InM at *
  rw [e12, a1, a10, a11, a12, a18, a19]
  exact h
theorem ask0_i (N : Nat) {q : Nat → Nat → Nat} {c : Nat → Nat} {ps pb : Nat → Nat} {P s : Nat} (hs : s < c 8) (k2 : Int32 → St → Option (Int32 × St)) : ∀ (d i n : Nat) (σ : St), InM q c σ → LgM c P ps pb σ → SoM q c ps pb i s (ga σ 24 s) → i + d = P → d < n → ∃ v : Int32, X7_ask0_l19 N k2 n (nI s) (nI i) σ = k2 (nI (s + 1)) (sa σ 24 s v) ∧ SoM q c ps pb P s v
  | _, _, 0, _, _, _, _, _, h => absurd h (by omega)
  | 0, i, n + 1, σ, h, hL, hS, h1, h2 => by
    obtain rfl : i = P := by omega
    have h24 := h.1
    have e13 := hL.2.1
    have hP := hL.1
    refine ⟨ga σ 24 s, ?_, hS⟩
    have e0 : sa σ 24 s (ga σ 24 s) = σ := by
      have : upd (ga σ 24) s (ga σ 24 s) = ga σ 24 := by
        funext j
        rw [upd_e]
        by_cases z : j = s
        · rw [if_pos z, z]
        · rw [if_neg z]
      exact sa_id this
    rw [e0, X7_ask0_l19.eq_def]
    simp (disch := omega) only [if_pos, if_neg, bnd_e, cal_e, chk_t, isZ_0, isZ_1, isZ_n0, isZ_n1, ald_n, ast_n, stb_n, litI, nI_add, pk_mul, pk_sub, Nat.add_sub_cancel, nar_0, nar_1, nI_leI, nI_ltI, nI_eq, Nat.not_lt_zero, Nat.le_zero_eq, Nat.zero_le, not_true_eq_false, not_false_eq_true, reduceIte, if_true, if_false, ite_self, Bool.false_eq_true, Nat.reduceEqDiff, Nat.reduceAdd, Nat.reduceMul, Nat.reduceSub, Nat.reduceLT, Nat.reduceLeDiff, Nat.reducePow, gi_si, gi_sg, gi_sa, gi_sl, ga_si, ga_sg2, ga_sa, ga_sl, gl_si, gl_sg, gl_sa, gl_sl, e13]
  | d + 1, i, n + 1, σ, h, hL, hS, h1, h2 => by
    have h24 := h.1
    have e13 := hL.2.1
    have hP := hL.1
    obtain ⟨l1, l2, l3, l4⟩ := hL.2.2 i (by omega)
    obtain ⟨m1, m2⟩ := m_rests N h l3 hs
    obtain ⟨v, v1, v2, v3⟩ := hS
    by_cases z : pb i + rs q c (ps i) s ≤ v
    · obtain ⟨w, a1, a2⟩ := ask0_i N hs k2 d (i + 1) n σ h hL ⟨v, v1, v2, fun t => by
        rw [lgP_s, ← v3 t]
        exact ⟨fun y => ⟨y, by omega⟩, fun y => y.1⟩⟩ (by omega) (by omega)
      refine ⟨w, ?_, a2⟩
      rw [← a1, X7_ask0_l19.eq_def]
      unfold X7_ask0_l78
      simp (disch := omega) only [if_pos, if_neg, bnd_e, cal_e, chk_t, isZ_0, isZ_1, isZ_n0, isZ_n1, ald_n, ast_n, stb_n, litI, nI_add, pk_mul, pk_sub, Nat.add_sub_cancel, nar_0, nar_1, nI_leI, nI_ltI, nI_eq, Nat.not_lt_zero, Nat.le_zero_eq, Nat.zero_le, not_true_eq_false, not_false_eq_true, reduceIte, if_true, if_false, ite_self, Bool.false_eq_true, Nat.reduceEqDiff, Nat.reduceAdd, Nat.reduceMul, Nat.reduceSub, Nat.reduceLT, Nat.reduceLeDiff, Nat.reducePow, gi_si, gi_sg, gi_sa, gi_sl, ga_si, ga_sg2, ga_sa, ga_sl, gl_si, gl_sg, gl_sa, gl_sl, e13, l1, l2, m1, v2]
    · obtain ⟨w, a1, a2⟩ := ask0_i N hs k2 d (i + 1) n (sa σ 24 s (nI (pb i + rs q c (ps i) s))) (InM_cg h rfl rfl rfl rfl rfl rfl rfl) hL ⟨pb i + rs q c (ps i) s, by omega, by
        simp only [gi_si, gi_sg, gi_sa, gi_sl, ga_si, ga_sg2, ga_sa, ga_sl, gl_si, gl_sg, gl_sa, gl_sl, Nat.not_lt_zero, Nat.le_zero_eq, Nat.zero_le, not_true_eq_false, not_false_eq_true, reduceIte, if_true, if_false, ite_self, Bool.false_eq_true, Nat.reduceEqDiff, Nat.reduceAdd, Nat.reduceMul, Nat.reduceSub, Nat.reduceLT, Nat.reduceLeDiff, Nat.reducePow, upd_e], fun t => by
        rw [lgP_s, ← v3 t]
        exact ⟨fun y => ⟨by omega, y⟩, fun y => y.2⟩⟩ (by omega) (by omega)
      refine ⟨w, ?_, a2⟩
      have e0 : sa (sa σ 24 s (nI (pb i + rs q c (ps i) s))) 24 s w = sa σ 24 s w := sa_sa
      rw [e0] at a1
      rw [← a1, X7_ask0_l19.eq_def]
      unfold X7_ask0_l78
      simp (disch := omega) only [if_pos, if_neg, bnd_e, cal_e, chk_t, isZ_0, isZ_1, isZ_n0, isZ_n1, ald_n, ast_n, stb_n, litI, nI_add, pk_mul, pk_sub, Nat.add_sub_cancel, nar_0, nar_1, nI_leI, nI_ltI, nI_eq, Nat.not_lt_zero, Nat.le_zero_eq, Nat.zero_le, not_true_eq_false, not_false_eq_true, reduceIte, if_true, if_false, ite_self, Bool.false_eq_true, Nat.reduceEqDiff, Nat.reduceAdd, Nat.reduceMul, Nat.reduceSub, Nat.reduceLT, Nat.reduceLeDiff, Nat.reducePow, gi_si, gi_sg, gi_sa, gi_sl, ga_si, ga_sg2, ga_sa, ga_sl, gl_si, gl_sg, gl_sa, gl_sl, e13, l1, l2, m1, v2]
theorem ask0_o (N : Nat) (hN : 400 < N) {q : Nat → Nat → Nat} {c : Nat → Nat} {ps pb : Nat → Nat} {P : Nat} : ∀ (d i n : Nat) (σ : St), InM q c σ → LgM c P ps pb σ → (∀ s, s < i → SoM q c ps pb P s (ga σ 24 s)) → i + d = c 8 → d < n → ∃ σ2 : St, X7_ask0_l2 N n (nI i) σ = some (nI 0, σ2) ∧ (∀ s, s < c 8 → SoM q c ps pb P s (ga σ2 24 s)) ∧ (∀ j, gi σ2 j = gi σ j) ∧ (∀ a, a ≠ 24 → ga σ2 a = ga σ a)
  | _, _, 0, _, _, _, _, _, h => absurd h (by omega)
  | 0, i, n + 1, σ, h, hL, hS, h1, h2 => by
    obtain rfl : i = c 8 := by omega
    have h24 := h.1
    have e12 := h.2.1
    refine ⟨σ, ?_, hS, fun _ => rfl, fun _ _ => rfl⟩
    rw [X7_ask0_l2.eq_def]
    simp (disch := omega) only [if_pos, if_neg, bnd_e, cal_e, chk_t, isZ_0, isZ_1, isZ_n0, isZ_n1, ald_n, ast_n, stb_n, litI, nI_add, pk_mul, pk_sub, Nat.add_sub_cancel, nar_0, nar_1, nI_leI, nI_ltI, nI_eq, Nat.not_lt_zero, Nat.le_zero_eq, Nat.zero_le, not_true_eq_false, not_false_eq_true, reduceIte, if_true, if_false, ite_self, Bool.false_eq_true, Nat.reduceEqDiff, Nat.reduceAdd, Nat.reduceMul, Nat.reduceSub, Nat.reduceLT, Nat.reduceLeDiff, Nat.reducePow, gi_si, gi_sg, gi_sa, gi_sl, ga_si, ga_sg2, ga_sa, ga_sl, gl_si, gl_sg, gl_sa, gl_sl, e12]
  | d + 1, i, n + 1, σ, h, hL, hS, h1, h2 => by
    have h24 := h.1
    have e12 := h.2.1
    have hP := hL.1
    obtain ⟨v, a1, a2⟩ := ask0_i N (s := i) (by omega) (X7_ask0_l2 N n) P 0 N (sa σ 24 i (nI 0)) (InM_cg h rfl rfl rfl rfl rfl rfl rfl) hL ⟨0, by omega, by
      simp only [gi_si, gi_sg, gi_sa, gi_sl, ga_si, ga_sg2, ga_sa, ga_sl, gl_si, gl_sg, gl_sa, gl_sl, Nat.not_lt_zero, Nat.le_zero_eq, Nat.zero_le, not_true_eq_false, not_false_eq_true, reduceIte, if_true, if_false, ite_self, Bool.false_eq_true, Nat.reduceEqDiff, Nat.reduceAdd, Nat.reduceMul, Nat.reduceSub, Nat.reduceLT, Nat.reduceLeDiff, Nat.reducePow, upd_e], fun t => ⟨fun _ p hp => absurd hp (by omega), fun _ => Nat.zero_le t⟩⟩ (by omega) (by omega)
    have e0 : sa (sa σ 24 i (nI 0)) 24 i v = sa σ 24 i v := sa_sa
    rw [e0] at a1
    obtain ⟨σ2, b1, b2, b3, b4⟩ := ask0_o N hN d (i + 1) n (sa σ 24 i v) (InM_cg h rfl rfl rfl rfl rfl rfl rfl) hL (fun s hs => by
      simp only [gi_si, gi_sg, gi_sa, gi_sl, ga_si, ga_sg2, ga_sa, ga_sl, gl_si, gl_sg, gl_sa, gl_sl, Nat.not_lt_zero, Nat.le_zero_eq, Nat.zero_le, not_true_eq_false, not_false_eq_true, reduceIte, if_true, if_false, ite_self, Bool.false_eq_true, Nat.reduceEqDiff, Nat.reduceAdd, Nat.reduceMul, Nat.reduceSub, Nat.reduceLT, Nat.reduceLeDiff, Nat.reducePow, upd_e]
      by_cases z : s = i
      · rw [if_pos z, z]
        exact a2
      · rw [if_neg z]
        exact hS s (by omega)) (by omega) (by omega)
    refine ⟨σ2, ?_, b2, b3, fun a ha => by rw [b4 a ha, ga_sa, if_neg ha]⟩
    rw [← b1, ← a1, X7_ask0_l2.eq_def]
    simp (disch := omega) only [if_pos, if_neg, bnd_e, cal_e, chk_t, isZ_0, isZ_1, isZ_n0, isZ_n1, ald_n, ast_n, stb_n, litI, nI_add, pk_mul, pk_sub, Nat.add_sub_cancel, nar_0, nar_1, nI_leI, nI_ltI, nI_eq, Nat.not_lt_zero, Nat.le_zero_eq, Nat.zero_le, not_true_eq_false, not_false_eq_true, reduceIte, if_true, if_false, ite_self, Bool.false_eq_true, Nat.reduceEqDiff, Nat.reduceAdd, Nat.reduceMul, Nat.reduceSub, Nat.reduceLT, Nat.reduceLeDiff, Nat.reducePow, gi_si, gi_sg, gi_sa, gi_sl, ga_si, ga_sg2, ga_sa, ga_sl, gl_si, gl_sg, gl_sa, gl_sl, e12]
