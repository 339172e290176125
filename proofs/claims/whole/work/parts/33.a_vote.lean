/-! heat, vote, told, count -/
theorem sumN_tail {g : Nat → Int32} {i : Nat} : ∀ d, (∀ j, i ≤ j → j < i + d → g j = 0) → sumN g (i + d) = sumN g i
  | 0, _ => rfl
  | d + 1, h => by
    show sumN g (i + d) + (g (i + d)).toNatClampNeg = _
    rw [sumN_tail d (fun j h1 h2 => h j h1 (by omega)), h (i + d) (by omega) (by omega)]
    rfl
theorem sumN_le {g : Nat → Int32} {c : Nat} : ∀ n, (∀ j, j < n → (g j).toNatClampNeg ≤ c) → sumN g n ≤ c * n
  | 0, _ => Nat.zero_le _
  | n + 1, h => by
    have a := sumN_le n (fun j hj => h j (by omega))
    have b := h n (by omega)
    show sumN g n + (g n).toNatClampNeg ≤ _
    rw [Nat.mul_succ]
    omega
theorem sumN_upd {g : Nat → Int32} {r : Nat} {v : Int32} : ∀ n, r < n → sumN (fun i => upd g r v i) n + (g r).toNatClampNeg = sumN g n + v.toNatClampNeg
  | 0, h => absurd h (by omega)
  | n + 1, h => by
    show sumN (fun i => upd g r v i) n + (upd g r v n).toNatClampNeg + _ = sumN g n + (g n).toNatClampNeg + _
    by_cases q : r = n
    · subst q
      have e : ∀ m, m ≤ r → sumN (fun i => upd g r v i) m = sumN g m := fun m => by
        induction m with
        | zero => intro _; rfl
        | succ m ih =>
          intro hm
          show sumN (fun i => upd g r v i) m + (upd g r v m).toNatClampNeg = sumN g m + (g m).toNatClampNeg
          rw [ih (by omega), pk_un (by omega)]
      rw [e r (by omega), pk_us]
      omega
    · have a := sumN_upd (g := g) (r := r) (v := v) n (by omega)
      rw [pk_un (by omega)]
      omega
theorem sumN_congr {f g : Nat → Int32} : ∀ {n : Nat}, (∀ i, i < n → f i = g i) → sumN f n = sumN g n
  | 0, _ => rfl
  | n + 1, h => by
    unfold sumN
    rw [sumN_congr (fun i hi => h i (by omega)), h n (by omega)]
theorem rg_cl {lo hi : Nat} {x : Int32} (h : rg lo hi x) (hh : hi < 2 ^ 31) : lo ≤ x.toNatClampNeg ∧ x.toNatClampNeg ≤ hi ∧ x = nI x.toNatClampNeg := by
  obtain ⟨n, h1, h2, rfl⟩ := h
  rw [nI_clamp (by omega)]
  exact ⟨h1, h2, rfl⟩
theorem heat_l (N : Nat) {σ : St} {s V : Nat} (hs : s < 24) (hV : V < 2 ^ 31) (e1 : ga σ 14 s = nI V) (hr : ∀ i, i < 10 → rg 0 9 (ga σ 17 (10 * s + i)) ∧ (V ≤ i → ga σ 17 (10 * s + i) = 0)) (A : Nat) (hA : A ≤ 300) : ∀ d i n, i + d = 10 → d < n → X7_heatOf_l12 N n (nI s) (nI (A + sumN (fun i => ga σ 17 (10 * s + i)) i)) (nI i) σ = some (nI (A + sumN (fun i => ga σ 17 (10 * s + i)) 10), σ)
  | d, i, 0, _, h2 => absurd h2 (by omega)
  | 0, i, n + 1, h1, h2 => by
    obtain rfl : i = 10 := by omega
    unfold X7_heatOf_l12
    simp (disch := omega) only [if_pos, if_neg, bnd_e, cal_e, chk_t, isZ_0, isZ_1, isZ_n0, isZ_n1, ald_n, ast_n, stb_n, litI, nI_add, pk_mul, pk_sub, Nat.add_sub_cancel, nar_0, nar_1, nI_leI, nI_ltI, nI_eq, Nat.not_lt_zero, Nat.le_zero_eq, Nat.zero_le, not_true_eq_false, not_false_eq_true, reduceIte, if_true, if_false, ite_self, Bool.false_eq_true, Nat.reduceEqDiff, Nat.reduceAdd, Nat.reduceMul, Nat.reduceSub, Nat.reduceLT, Nat.reduceLeDiff, Nat.reducePow, gi_si, gi_sg, gi_sa, gi_sl, ga_si, ga_sg2, ga_sa, ga_sl, gl_si, gl_sg, gl_sa, gl_sl]
  | d + 1, i, n + 1, h1, h2 => by
    unfold X7_heatOf_l12
    by_cases hv : V ≤ i
    · have e := sumN_tail (g := fun i => ga σ 17 (10 * s + i)) (i := i) (d + 1) (fun j q1 q2 => (hr j (by omega)).2 (by omega))
      rw [h1] at e
      simp (disch := omega) only [if_pos, if_neg, bnd_e, cal_e, chk_t, isZ_0, isZ_1, isZ_n0, isZ_n1, ald_n, ast_n, stb_n, litI, nI_add, pk_mul, pk_sub, Nat.add_sub_cancel, nar_0, nar_1, nI_leI, nI_ltI, nI_eq, Nat.not_lt_zero, Nat.le_zero_eq, Nat.zero_le, not_true_eq_false, not_false_eq_true, reduceIte, if_true, if_false, ite_self, Bool.false_eq_true, Nat.reduceEqDiff, Nat.reduceAdd, Nat.reduceMul, Nat.reduceSub, Nat.reduceLT, Nat.reduceLeDiff, Nat.reducePow, gi_si, gi_sg, gi_sa, gi_sl, ga_si, ga_sg2, ga_sa, ga_sl, gl_si, gl_sg, gl_sa, gl_sl, e1, e]
    · have q := rg_cl (hr i (by omega)).1 (by omega)
      have ih := heat_l N hs hV e1 hr A hA d (i + 1) n (by omega) (by omega)
      rw [← ih]
      simp (disch := omega) only [if_pos, if_neg, bnd_e, cal_e, chk_t, isZ_0, isZ_1, isZ_n0, isZ_n1, ald_n, ast_n, stb_n, litI, nI_add, pk_mul, pk_sub, Nat.add_sub_cancel, nar_0, nar_1, nI_leI, nI_ltI, nI_eq, Nat.not_lt_zero, Nat.le_zero_eq, Nat.zero_le, not_true_eq_false, not_false_eq_true, reduceIte, if_true, if_false, ite_self, Bool.false_eq_true, Nat.reduceEqDiff, Nat.reduceAdd, Nat.reduceMul, Nat.reduceSub, Nat.reduceLT, Nat.reduceLeDiff, Nat.reducePow, gi_si, gi_sg, gi_sa, gi_sl, ga_si, ga_sg2, ga_sa, ga_sl, gl_si, gl_sg, gl_sa, gl_sl, e1]
      show X7_heatOf_l12 N n (nI s) (nI (A + sumN (fun i => ga σ 17 (10 * s + i)) i) + ga σ 17 (10 * s + i)) (nI (i + 1)) σ = X7_heatOf_l12 N n (nI s) (nI (A + (sumN (fun i => ga σ 17 (10 * s + i)) i + (ga σ 17 (10 * s + i)).toNatClampNeg))) (nI (i + 1)) σ
      rw [q.2.2, nI_add, ← q.2.2, Nat.add_assoc]
theorem heat_both (N : Nat) (hN : 10 < N) {k s : Nat} {σx σm : St} (hs : s < 24) (hk : k ≤ 512) (hv : Rv1 k s (ga σx 14) (ga σx 15) (ga σx 16) (ga σm 14) (ga σm 17)) (ho : rg 0 20 (ga σm 15 s)) (e9 : ga σx 9 = ga σm 15) : ∃ n : Nat, n ≤ 390 ∧ X4_heat_f N (nI s) σx = some (nI n, σx) ∧ X7_heatOf_f N (nI s) σm = some (nI n, σm) := by
  obtain ⟨V, hV, v1, v2, v3, v4⟩ := hv
  obtain ⟨n, -, hn, en⟩ := ho
  have hb : sumN (fun i => ga σm 17 (10 * s + i)) 10 ≤ 9 * 10 := sumN_le 10 (fun j hj => (rg_cl (v3 j hj).2.1 (by omega)).2.1)
  refine ⟨15 * n + sumN (fun i => ga σm 17 (10 * s + i)) 10, by omega, ?_, ?_⟩
  · unfold X4_heat_f
    simp (disch := omega) only [if_pos, if_neg, bnd_e, cal_e, chk_t, isZ_0, isZ_1, isZ_n0, isZ_n1, ald_n, ast_n, stb_n, litI, nI_add, pk_mul, pk_sub, Nat.add_sub_cancel, nar_0, nar_1, nI_leI, nI_ltI, nI_eq, Nat.not_lt_zero, Nat.le_zero_eq, Nat.zero_le, not_true_eq_false, not_false_eq_true, reduceIte, if_true, if_false, ite_self, Bool.false_eq_true, Nat.reduceEqDiff, Nat.reduceAdd, Nat.reduceMul, Nat.reduceSub, Nat.reduceLT, Nat.reduceLeDiff, Nat.reducePow, gi_si, gi_sg, gi_sa, gi_sl, ga_si, ga_sg2, ga_sa, ga_sl, gl_si, gl_sg, gl_sa, gl_sl, v4, e9, en]
    rw [Nat.add_comm]
  · unfold X7_heatOf_f
    have e := heat_l N hs (by omega) v1 (fun i hi => (v3 i hi).2) (15 * n) (by omega) 10 0 N (by omega) (by omega)
    rw [← e]
    simp (disch := omega) only [if_pos, if_neg, bnd_e, cal_e, chk_t, isZ_0, isZ_1, isZ_n0, isZ_n1, ald_n, ast_n, stb_n, litI, nI_add, pk_mul, pk_sub, Nat.add_sub_cancel, nar_0, nar_1, nI_leI, nI_ltI, nI_eq, Nat.not_lt_zero, Nat.le_zero_eq, Nat.zero_le, not_true_eq_false, not_false_eq_true, reduceIte, if_true, if_false, ite_self, Bool.false_eq_true, Nat.reduceEqDiff, Nat.reduceAdd, Nat.reduceMul, Nat.reduceSub, Nat.reduceLT, Nat.reduceLeDiff, Nat.reducePow, gi_si, gi_sg, gi_sa, gi_sl, ga_si, ga_sg2, ga_sa, ga_sl, gl_si, gl_sg, gl_sa, gl_sl, en]
    rfl
theorem nar_b : ∀ w : Nat, w < 10 → vp_nar .byte (nI w).toInt8.toInt32 = nI w := by
  intro w hw
  rw [pk_vb]
  revert w
  decide
theorem nI_swap {a b w : Nat} (h : b ≤ a) : nI a + (nI w - nI b) = nI (a + w - b) := by
  have e : nI a = nI (a - b) + nI b := by rw [nI_add, Nat.sub_add_cancel h]
  rw [e, Int32.add_assoc, Int32.add_comm (nI b), Int32.sub_add_cancel, nI_add]
  congr 1
  omega
theorem vote_RV {k s w : Nat} {x14 x15 x16 m14 m17 : Nat → Int32} (hk : k < 512) (hs : s < 24) (hw : w ≤ 9) (h : RV k x14 x15 x16 m14 m17) : ∃ V c b : Nat, V ≤ k ∧ c ≤ 90 ∧ b ≤ c ∧ m14 s = nI V ∧ x15 s = nI (V % 10) ∧ x14 s = nI c ∧ x16 (10 * s + V % 10) = nI b ∧ RV (k + 1) (upd x14 s (nI (c + w - b))) (upd x15 s (nI ((V + 1) % 10))) (upd x16 (10 * s + V % 10) (nI w)) (upd m14 s (nI (V + 1))) (upd m17 (10 * s + V % 10) (nI w)) := by
  obtain ⟨V, hV, v1, v2, v3, v4⟩ := h s hs
  have hb : sumN (fun i => m17 (10 * s + i)) 10 ≤ 9 * 10 := sumN_le 10 (fun j hj => (rg_cl (v3 j hj).2.1 (by omega)).2.1)
  have hr := rg_cl (v3 (V % 10) (by omega)).2.1 (by omega)
  have hu := sumN_upd (g := fun i => m17 (10 * s + i)) (r := V % 10) (v := nI w) 10 (by omega)
  rw [nI_clamp (by omega)] at hu
  have hg : (fun i => upd m17 (10 * s + V % 10) (nI w) (10 * s + i)) = (fun i => upd (fun i => m17 (10 * s + i)) (V % 10) (nI w) i) := by
    funext i
    simp only [upd_e]
    by_cases q : i = V % 10
    · rw [if_pos (by omega), if_pos q]
    · rw [if_neg (by omega), if_neg q]
  have hz : (m17 (10 * s + V % 10)).toNatClampNeg ≤ sumN (fun i => m17 (10 * s + i)) 10 := by
    have z := sumN_upd (g := fun i => m17 (10 * s + i)) (r := V % 10) (v := nI 0) 10 (by omega)
    rw [nI_clamp (by omega)] at z
    omega
  refine ⟨V, sumN (fun i => m17 (10 * s + i)) 10, (m17 (10 * s + V % 10)).toNatClampNeg, hV, hb, hz, v1, v2, v4, by rw [(v3 (V % 10) (by omega)).1]; exact hr.2.2, fun t ht => ?_⟩
  by_cases q : t = s
  · subst q
    refine ⟨V + 1, by omega, pk_us, pk_us, fun i hi => ?_, ?_⟩
    · simp only [upd_e]
      by_cases qi : i = V % 10
      · rw [if_pos (by omega), if_pos (by omega)]
        exact ⟨rfl, rg_mk (by omega) (by omega), fun hh => absurd hh (by omega)⟩
      · rw [if_neg (by omega), if_neg (by omega)]
        exact ⟨(v3 i hi).1, (v3 i hi).2.1, fun hh => (v3 i hi).2.2 (by omega)⟩
    · rw [pk_us, hg]
      congr 1
      omega
  · obtain ⟨V2, hV2, w1, w2, w3, w4⟩ := h t ht
    refine ⟨V2, by omega, by rw [pk_un q]; exact w1, by rw [pk_un q]; exact w2, fun i hi => ?_, ?_⟩
    · rw [pk_un (by omega), pk_un (by omega)]
      exact w3 i hi
    · rw [pk_un q, w4]
      exact congrArg nI (sumN_congr (fun i hi => (pk_un (by omega)).symm))
theorem s_vote (N : Nat) (hN : 10 < N) : Sim_vote N RelX := fun x1 x2 k σx σm hk h => by
  obtain ⟨q1, q2, q3, q4, q5, ⟨S, hS, e1, e2, e4, e5, e6, e7, e8, e9, e10, r1, r2⟩, q7⟩ := id h
  rcases x_has N x1 σx (si σm 0 (nI 0)) hS e1 e2 with ⟨a, b⟩ | ⟨s, hs, rfl, a, b⟩
  · refine ⟨-1, σx, si σm 0 (nI 0), ?_, ?_, RelX_thr _ h⟩
    · unfold X6_vote_f
      simp (disch := omega) only [if_pos, if_neg, bnd_e, cal_e, chk_t, isZ_0, isZ_1, isZ_n0, isZ_n1, ald_n, ast_n, stb_n, litI, nI_add, pk_mul, pk_sub, Nat.add_sub_cancel, nar_0, nar_1, nI_leI, nI_ltI, nI_eq, Nat.not_lt_zero, Nat.le_zero_eq, Nat.zero_le, not_true_eq_false, not_false_eq_true, reduceIte, if_true, if_false, ite_self, Bool.false_eq_true, Nat.reduceEqDiff, Nat.reduceAdd, Nat.reduceMul, Nat.reduceSub, Nat.reduceLT, Nat.reduceLeDiff, Nat.reducePow, gi_si, gi_sg, gi_sa, gi_sl, ga_si, ga_sg2, ga_sa, ga_sl, gl_si, gl_sg, gl_sa, gl_sl, a]
    · unfold X7_vote_f
      simp (disch := omega) only [if_pos, if_neg, bnd_e, cal_e, chk_t, isZ_0, isZ_1, isZ_n0, isZ_n1, ald_n, ast_n, stb_n, litI, nI_add, pk_mul, pk_sub, Nat.add_sub_cancel, nar_0, nar_1, nI_leI, nI_ltI, nI_eq, Nat.not_lt_zero, Nat.le_zero_eq, Nat.zero_le, not_true_eq_false, not_false_eq_true, reduceIte, if_true, if_false, ite_self, Bool.false_eq_true, Nat.reduceEqDiff, Nat.reduceAdd, Nat.reduceMul, Nat.reduceSub, Nat.reduceLT, Nat.reduceLeDiff, Nat.reducePow, gi_si, gi_sg, gi_sa, gi_sl, ga_si, ga_sg2, ga_sa, ga_sl, gl_si, gl_sg, gl_sa, gl_sl, b]
  rcases x_within N x2 0 9 (by omega) (by omega) σx (si σm 0 (nI 0)) with ⟨a2, b2⟩ | ⟨w, -, hw, rfl, a2, b2⟩
  · refine ⟨-1, σx, si σm 0 (nI 0), ?_, ?_, RelX_thr _ h⟩
    · unfold X6_vote_f
      simp (disch := omega) only [if_pos, if_neg, bnd_e, cal_e, chk_t, isZ_0, isZ_1, isZ_n0, isZ_n1, ald_n, ast_n, stb_n, litI, nI_add, pk_mul, pk_sub, Nat.add_sub_cancel, nar_0, nar_1, nI_leI, nI_ltI, nI_eq, Nat.not_lt_zero, Nat.le_zero_eq, Nat.zero_le, not_true_eq_false, not_false_eq_true, reduceIte, if_true, if_false, ite_self, Bool.false_eq_true, Nat.reduceEqDiff, Nat.reduceAdd, Nat.reduceMul, Nat.reduceSub, Nat.reduceLT, Nat.reduceLeDiff, Nat.reducePow, gi_si, gi_sg, gi_sa, gi_sl, ga_si, ga_sg2, ga_sa, ga_sl, gl_si, gl_sg, gl_sa, gl_sl, a, a2]
    · unfold X7_vote_f
      simp (disch := omega) only [if_pos, if_neg, bnd_e, cal_e, chk_t, isZ_0, isZ_1, isZ_n0, isZ_n1, ald_n, ast_n, stb_n, litI, nI_add, pk_mul, pk_sub, Nat.add_sub_cancel, nar_0, nar_1, nI_leI, nI_ltI, nI_eq, Nat.not_lt_zero, Nat.le_zero_eq, Nat.zero_le, not_true_eq_false, not_false_eq_true, reduceIte, if_true, if_false, ite_self, Bool.false_eq_true, Nat.reduceEqDiff, Nat.reduceAdd, Nat.reduceMul, Nat.reduceSub, Nat.reduceLT, Nat.reduceLeDiff, Nat.reducePow, gi_si, gi_sg, gi_sa, gi_sl, ga_si, ga_sg2, ga_sa, ga_sl, gl_si, gl_sg, gl_sa, gl_sl, b, b2]
  obtain ⟨V, c, o, hV, hc, ho, v1, v2, v3, v4, v5⟩ := vote_RV hk (by omega : s < 24) hw q5
  obtain ⟨n, hn, p1, p2⟩ := heat_both N hN (k := k + 1) (s := s) (σx := sa (sa (sa σx 14 s (nI (c + w - o))) 16 (10 * s + V % 10) (nI w)) 15 s (nI ((V + 1) % 10))) (σm := sa (sa (si σm 0 (nI 0)) 17 (10 * s + V % 10) (nI w)) 14 s (nI (V + 1))) (by omega) (by omega) (v5 s (by omega)) (r2 s (by omega)) e9
  refine ⟨nI n, sa (sa (sa σx 14 s (nI (c + w - o))) 16 (10 * s + V % 10) (nI w)) 15 s (nI ((V + 1) % 10)), sa (sa (si σm 0 (nI 0)) 17 (10 * s + V % 10) (nI w)) 14 s (nI (V + 1)), ?_, ?_, ⟨q1, q2, q3, q4, v5, ⟨S, hS, e1, e2, e4, e5, e6, e7, e8, e9, e10, r1, r2⟩, q7⟩⟩
  · unfold X6_vote_f X4_takeVote_f X4_takeVote_l67
    simp (disch := omega) only [if_pos, if_neg, bnd_e, cal_e, chk_t, isZ_0, isZ_1, isZ_n0, isZ_n1, ald_n, ast_n, stb_n, litI, nI_add, pk_mul, pk_sub, Nat.add_sub_cancel, nar_0, nar_1, nI_leI, nI_ltI, nI_eq, Nat.not_lt_zero, Nat.le_zero_eq, Nat.zero_le, not_true_eq_false, not_false_eq_true, reduceIte, if_true, if_false, ite_self, Bool.false_eq_true, Nat.reduceEqDiff, Nat.reduceAdd, Nat.reduceMul, Nat.reduceSub, Nat.reduceLT, Nat.reduceLeDiff, Nat.reducePow, gi_si, gi_sg, gi_sa, gi_sl, ga_si, ga_sg2, ga_sa, ga_sl, gl_si, gl_sg, gl_sa, gl_sl, a, a2, v2, v3, v4, Nat.mul_comm s 10, nI_swap ho, nar_b w (by omega)]
    by_cases h10 : 10 ≤ V % 10 + 1
    · have e : (V + 1) % 10 = 0 := by omega
      rw [e] at p1
      simp (disch := omega) only [if_pos, if_neg, bnd_e, cal_e, chk_t, isZ_0, isZ_1, isZ_n0, isZ_n1, ald_n, ast_n, stb_n, litI, nI_add, pk_mul, pk_sub, Nat.add_sub_cancel, nar_0, nar_1, nI_leI, nI_ltI, nI_eq, Nat.not_lt_zero, Nat.le_zero_eq, Nat.zero_le, not_true_eq_false, not_false_eq_true, reduceIte, if_true, if_false, ite_self, Bool.false_eq_true, Nat.reduceEqDiff, Nat.reduceAdd, Nat.reduceMul, Nat.reduceSub, Nat.reduceLT, Nat.reduceLeDiff, Nat.reducePow, gi_si, gi_sg, gi_sa, gi_sl, ga_si, ga_sg2, ga_sa, ga_sl, gl_si, gl_sg, gl_sa, gl_sl, p1]
      rw [e]
    · have e : (V + 1) % 10 = V % 10 + 1 := by omega
      rw [e] at p1
      simp (disch := omega) only [if_pos, if_neg, bnd_e, cal_e, chk_t, isZ_0, isZ_1, isZ_n0, isZ_n1, ald_n, ast_n, stb_n, litI, nI_add, pk_mul, pk_sub, Nat.add_sub_cancel, nar_0, nar_1, nI_leI, nI_ltI, nI_eq, Nat.not_lt_zero, Nat.le_zero_eq, Nat.zero_le, not_true_eq_false, not_false_eq_true, reduceIte, if_true, if_false, ite_self, Bool.false_eq_true, Nat.reduceEqDiff, Nat.reduceAdd, Nat.reduceMul, Nat.reduceSub, Nat.reduceLT, Nat.reduceLeDiff, Nat.reducePow, gi_si, gi_sg, gi_sa, gi_sl, ga_si, ga_sg2, ga_sa, ga_sl, gl_si, gl_sg, gl_sa, gl_sl, p1]
      rw [e]
  · unfold X7_vote_f
    simp (disch := omega) only [if_pos, if_neg, bnd_e, cal_e, chk_t, isZ_0, isZ_1, isZ_n0, isZ_n1, ald_n, ast_n, stb_n, litI, nI_add, pk_mul, pk_sub, Nat.add_sub_cancel, nar_0, nar_1, nI_leI, nI_ltI, nI_eq, Nat.not_lt_zero, Nat.le_zero_eq, Nat.zero_le, not_true_eq_false, not_false_eq_true, reduceIte, if_true, if_false, ite_self, Bool.false_eq_true, Nat.reduceEqDiff, Nat.reduceAdd, Nat.reduceMul, Nat.reduceSub, Nat.reduceLT, Nat.reduceLeDiff, Nat.reducePow, gi_si, gi_sg, gi_sa, gi_sl, ga_si, ga_sg2, ga_sa, ga_sl, gl_si, gl_sg, gl_sa, gl_sl, b, b2, v1]
    have e : nI V - nI V / nI 10 * nI 10 = nI (V % 10) := pk_rem (by omega) (by omega) (by omega)
    simp (disch := omega) only [if_pos, if_neg, bnd_e, cal_e, chk_t, isZ_0, isZ_1, isZ_n0, isZ_n1, ald_n, ast_n, stb_n, litI, nI_add, pk_mul, pk_sub, Nat.add_sub_cancel, nar_0, nar_1, nI_leI, nI_ltI, nI_eq, Nat.not_lt_zero, Nat.le_zero_eq, Nat.zero_le, not_true_eq_false, not_false_eq_true, reduceIte, if_true, if_false, ite_self, Bool.false_eq_true, Nat.reduceEqDiff, Nat.reduceAdd, Nat.reduceMul, Nat.reduceSub, Nat.reduceLT, Nat.reduceLeDiff, Nat.reducePow, gi_si, gi_sg, gi_sa, gi_sl, ga_si, ga_sg2, ga_sa, ga_sl, gl_si, gl_sg, gl_sa, gl_sl, e, p2, v1]
theorem told_l (N : Nat) {σ : St} {P : Nat} (hP : P ≤ 300) (e1 : gi σ 13 = nI P) (x1 x2 : Int32) : ∀ d i n, i + d = P → d < n → X7_told_l21 N n x1 x2 (lastB (ga σ 20) (ga σ 21) x1 i) (nI i) σ = X7_told_l21 N 1 x1 x2 (lastB (ga σ 20) (ga σ 21) x1 P) (nI P) σ
  | d, i, 0, _, h2 => absurd h2 (by omega)
  | 0, i, n + 1, h1, h2 => by
    obtain rfl : i = P := by omega
    unfold X7_told_l21
    simp (disch := omega) only [if_pos, if_neg, bnd_e, cal_e, chk_t, isZ_0, isZ_1, isZ_n0, isZ_n1, ald_n, ast_n, stb_n, litI, nI_add, pk_mul, pk_sub, Nat.add_sub_cancel, nar_0, nar_1, nI_leI, nI_ltI, nI_eq, Nat.not_lt_zero, Nat.le_zero_eq, Nat.zero_le, not_true_eq_false, not_false_eq_true, reduceIte, if_true, if_false, ite_self, Bool.false_eq_true, Nat.reduceEqDiff, Nat.reduceAdd, Nat.reduceMul, Nat.reduceSub, Nat.reduceLT, Nat.reduceLeDiff, Nat.reducePow, gi_si, gi_sg, gi_sa, gi_sl, ga_si, ga_sg2, ga_sa, ga_sl, gl_si, gl_sg, gl_sa, gl_sl, e1]
  | d + 1, i, n + 1, h1, h2 => by
    have ih := told_l N hP e1 x1 x2 d (i + 1) n (by omega) (by omega)
    rw [← ih]
    rw [X7_told_l21.eq_def]
    unfold X7_told_l49
    rw [lastB_s]
    by_cases q : ga σ 20 i = x1
    · simp (disch := omega) only [if_pos, if_neg, bnd_e, cal_e, chk_t, isZ_0, isZ_1, isZ_n0, isZ_n1, ald_n, ast_n, stb_n, litI, nI_add, pk_mul, pk_sub, Nat.add_sub_cancel, nar_0, nar_1, nI_leI, nI_ltI, nI_eq, Nat.not_lt_zero, Nat.le_zero_eq, Nat.zero_le, not_true_eq_false, not_false_eq_true, reduceIte, if_true, if_false, ite_self, Bool.false_eq_true, Nat.reduceEqDiff, Nat.reduceAdd, Nat.reduceMul, Nat.reduceSub, Nat.reduceLT, Nat.reduceLeDiff, Nat.reducePow, gi_si, gi_sg, gi_sa, gi_sl, ga_si, ga_sg2, ga_sa, ga_sl, gl_si, gl_sg, gl_sa, gl_sl, e1, q]
    · simp (disch := omega) only [if_pos, if_neg, bnd_e, cal_e, chk_t, isZ_0, isZ_1, isZ_n0, isZ_n1, ald_n, ast_n, stb_n, litI, nI_add, pk_mul, pk_sub, Nat.add_sub_cancel, nar_0, nar_1, nI_leI, nI_ltI, nI_eq, Nat.not_lt_zero, Nat.le_zero_eq, Nat.zero_le, not_true_eq_false, not_false_eq_true, reduceIte, if_true, if_false, ite_self, Bool.false_eq_true, Nat.reduceEqDiff, Nat.reduceAdd, Nat.reduceMul, Nat.reduceSub, Nat.reduceLT, Nat.reduceLeDiff, Nat.reducePow, gi_si, gi_sg, gi_sa, gi_sl, ga_si, ga_sg2, ga_sa, ga_sl, gl_si, gl_sg, gl_sa, gl_sl, e1, q]
theorem sounds_l (N : Nat) {σ : St} {P : Nat} (hP : P ≤ 300) (e1 : gi σ 13 = nI P) (x1 : Int32) : ∀ d i n, i + d = P → d < n → X7_soundsOf_l4 N n x1 (nI (cntB (ga σ 20) x1 i)) (nI i) σ = some (nI (cntB (ga σ 20) x1 P), σ)
  | d, i, 0, _, h2 => absurd h2 (by omega)
  | 0, i, n + 1, h1, h2 => by
    obtain rfl : i = P := by omega
    unfold X7_soundsOf_l4
    simp (disch := omega) only [if_pos, if_neg, bnd_e, cal_e, chk_t, isZ_0, isZ_1, isZ_n0, isZ_n1, ald_n, ast_n, stb_n, litI, nI_add, pk_mul, pk_sub, Nat.add_sub_cancel, nar_0, nar_1, nI_leI, nI_ltI, nI_eq, Nat.not_lt_zero, Nat.le_zero_eq, Nat.zero_le, not_true_eq_false, not_false_eq_true, reduceIte, if_true, if_false, ite_self, Bool.false_eq_true, Nat.reduceEqDiff, Nat.reduceAdd, Nat.reduceMul, Nat.reduceSub, Nat.reduceLT, Nat.reduceLeDiff, Nat.reducePow, gi_si, gi_sg, gi_sa, gi_sl, ga_si, ga_sg2, ga_sa, ga_sl, gl_si, gl_sg, gl_sa, gl_sl, e1]
  | d + 1, i, n + 1, h1, h2 => by
    have ih := sounds_l N hP e1 x1 d (i + 1) n (by omega) (by omega)
    rw [← ih]
    rw [X7_soundsOf_l4.eq_def]
    unfold X7_soundsOf_l25
    rw [cntB_s]
    by_cases q : ga σ 20 i = x1
    · simp (disch := omega) only [if_pos, if_neg, bnd_e, cal_e, chk_t, isZ_0, isZ_1, isZ_n0, isZ_n1, ald_n, ast_n, stb_n, litI, nI_add, pk_mul, pk_sub, Nat.add_sub_cancel, nar_0, nar_1, nI_leI, nI_ltI, nI_eq, Nat.not_lt_zero, Nat.le_zero_eq, Nat.zero_le, not_true_eq_false, not_false_eq_true, reduceIte, if_true, if_false, ite_self, Bool.false_eq_true, Nat.reduceEqDiff, Nat.reduceAdd, Nat.reduceMul, Nat.reduceSub, Nat.reduceLT, Nat.reduceLeDiff, Nat.reducePow, gi_si, gi_sg, gi_sa, gi_sl, ga_si, ga_sg2, ga_sa, ga_sl, gl_si, gl_sg, gl_sa, gl_sl, e1, q]
    · simp (disch := omega) only [if_pos, if_neg, bnd_e, cal_e, chk_t, isZ_0, isZ_1, isZ_n0, isZ_n1, ald_n, ast_n, stb_n, litI, nI_add, pk_mul, pk_sub, Nat.add_sub_cancel, nar_0, nar_1, nI_leI, nI_ltI, nI_eq, Nat.not_lt_zero, Nat.le_zero_eq, Nat.zero_le, not_true_eq_false, not_false_eq_true, reduceIte, if_true, if_false, ite_self, Bool.false_eq_true, Nat.reduceEqDiff, Nat.reduceAdd, Nat.reduceMul, Nat.reduceSub, Nat.reduceLT, Nat.reduceLeDiff, Nat.reducePow, gi_si, gi_sg, gi_sa, gi_sl, ga_si, ga_sg2, ga_sa, ga_sl, gl_si, gl_sg, gl_sa, gl_sl, e1, q]
theorem s_told (N : Nat) (hN : 300 < N) : Sim_told N RelX := fun x1 x2 k σx σm hk h => by
  obtain ⟨q1, q2, q3, q4, q5, ⟨S, hS, e1, e2, e4, e5, e6, e7, e8, e9, e10, r1, r2⟩, ⟨H, P, S2, f0, f1, hH, hP, f4, f5, f6, f7, f8, f9, f10, f11, f12, f13, f14, f15, f16, f17, f18, f19⟩⟩ := id h
  rcases x_has N x1 σx (si σm 0 (nI 0)) hS e1 e2 with ⟨a, b⟩ | ⟨s, hs, rfl, a, b⟩
  · refine ⟨-2, σx, si σm 0 (nI 0), ?_, ?_, RelX_thr _ h⟩
    · unfold X6_told_f
      simp (disch := omega) only [if_pos, if_neg, bnd_e, cal_e, chk_t, isZ_0, isZ_1, isZ_n0, isZ_n1, ald_n, ast_n, stb_n, litI, nI_add, pk_mul, pk_sub, Nat.add_sub_cancel, nar_0, nar_1, nI_leI, nI_ltI, nI_eq, Nat.not_lt_zero, Nat.le_zero_eq, Nat.zero_le, not_true_eq_false, not_false_eq_true, reduceIte, if_true, if_false, ite_self, Bool.false_eq_true, Nat.reduceEqDiff, Nat.reduceAdd, Nat.reduceMul, Nat.reduceSub, Nat.reduceLT, Nat.reduceLeDiff, Nat.reducePow, gi_si, gi_sg, gi_sa, gi_sl, ga_si, ga_sg2, ga_sa, ga_sl, gl_si, gl_sg, gl_sa, gl_sl, a]
    · unfold X7_told_f
      simp (disch := omega) only [if_pos, if_neg, bnd_e, cal_e, chk_t, isZ_0, isZ_1, isZ_n0, isZ_n1, ald_n, ast_n, stb_n, litI, nI_add, pk_mul, pk_sub, Nat.add_sub_cancel, nar_0, nar_1, nI_leI, nI_ltI, nI_eq, Nat.not_lt_zero, Nat.le_zero_eq, Nat.zero_le, not_true_eq_false, not_false_eq_true, reduceIte, if_true, if_false, ite_self, Bool.false_eq_true, Nat.reduceEqDiff, Nat.reduceAdd, Nat.reduceMul, Nat.reduceSub, Nat.reduceLT, Nat.reduceLeDiff, Nat.reducePow, gi_si, gi_sg, gi_sa, gi_sl, ga_si, ga_sg2, ga_sa, ga_sl, gl_si, gl_sg, gl_sa, gl_sl, b]
  obtain ⟨n, hn, p1, p2⟩ := heat_both N (by omega) (k := k) (s := s) (σx := σx) (σm := si σm 0 (nI 0)) (by omega) (by omega) (q5 s (by omega)) (r2 s (by omega)) e9
  have t := told_l N (σ := si σm 0 (nI 0)) hP f7 (nI s) x2 P 0 N (by omega) (by omega)
  have t2 := sounds_l N (σ := si σm 0 (nI 0)) hP f7 (nI s) P 0 N (by omega) (by omega)
  have g := f18 s (by omega)
  have k1 : X7_told_f N (nI s) x2 σm = X7_told_l21 N 1 (nI s) x2 (lastB (ga σm 20) (ga σm 21) (nI s) P) (nI P) (si σm 0 (nI 0)) := by
    unfold X7_told_f
    rw [bnd_e, li0, b, cal_e]
    exact t
  rw [k1]
  have f7b : gi (si σm 0 (nI 0)) 13 = nI P := f7
  have t3 : X7_soundsOf_f N (nI s) (si σm 0 (nI 0)) = some (nI (cntB (ga σm 20) (nI s) P), si σm 0 (nI 0)) := t2
  unfold X6_told_f X7_told_l21 tsw5
  rw [a, cal_e]
  by_cases z0 : x2 = 0
  · subst z0
    exact ⟨nI n, σx, si σm 0 (nI 0), by simp (disch := omega) only [if_pos, if_neg, bnd_e, cal_e, chk_t, isZ_0, isZ_1, isZ_n0, isZ_n1, ald_n, ast_n, stb_n, litI, nI_add, pk_mul, pk_sub, Nat.add_sub_cancel, nar_0, nar_1, nI_leI, nI_ltI, nI_eq, Nat.not_lt_zero, Nat.le_zero_eq, Nat.zero_le, not_true_eq_false, not_false_eq_true, reduceIte, if_true, if_false, ite_self, Bool.false_eq_true, Nat.reduceEqDiff, Nat.reduceAdd, Nat.reduceMul, Nat.reduceSub, Nat.reduceLT, Nat.reduceLeDiff, Nat.reducePow, gi_si, gi_sg, gi_sa, gi_sl, ga_si, ga_sg2, ga_sa, ga_sl, gl_si, gl_sg, gl_sa, gl_sl, p1], by simp (disch := omega) only [if_pos, if_neg, bnd_e, cal_e, chk_t, isZ_0, isZ_1, isZ_n0, isZ_n1, ald_n, ast_n, stb_n, litI, nI_add, pk_mul, pk_sub, Nat.add_sub_cancel, nar_0, nar_1, nI_leI, nI_ltI, nI_eq, Nat.not_lt_zero, Nat.le_zero_eq, Nat.zero_le, not_true_eq_false, not_false_eq_true, reduceIte, if_true, if_false, ite_self, Bool.false_eq_true, Nat.reduceEqDiff, Nat.reduceAdd, Nat.reduceMul, Nat.reduceSub, Nat.reduceLT, Nat.reduceLeDiff, Nat.reducePow, gi_si, gi_sg, gi_sa, gi_sl, ga_si, ga_sg2, ga_sa, ga_sl, gl_si, gl_sg, gl_sa, gl_sl, p2, f7], RelX_thr _ h⟩
  by_cases z1 : x2 = 1
  · subst z1
    exact ⟨nI (cntB (ga σm 20) (nI s) P), σx, si σm 0 (nI 0), by simp (disch := omega) only [if_pos, if_neg, bnd_e, cal_e, chk_t, isZ_0, isZ_1, isZ_n0, isZ_n1, ald_n, ast_n, stb_n, litI, nI_add, pk_mul, pk_sub, Nat.add_sub_cancel, nar_0, nar_1, nI_leI, nI_ltI, nI_eq, Nat.not_lt_zero, Nat.le_zero_eq, Nat.zero_le, not_true_eq_false, not_false_eq_true, reduceIte, if_true, if_false, ite_self, Bool.false_eq_true, Nat.reduceEqDiff, Nat.reduceAdd, Nat.reduceMul, Nat.reduceSub, Nat.reduceLT, Nat.reduceLeDiff, Nat.reducePow, gi_si, gi_sg, gi_sa, gi_sl, ga_si, ga_sg2, ga_sa, ga_sl, gl_si, gl_sg, gl_sa, gl_sl, g.1], by simp (disch := omega) only [if_pos, if_neg, bnd_e, cal_e, chk_t, isZ_0, isZ_1, isZ_n0, isZ_n1, ald_n, ast_n, stb_n, litI, nI_add, pk_mul, pk_sub, Nat.add_sub_cancel, nar_0, nar_1, nI_leI, nI_ltI, nI_eq, Nat.not_lt_zero, Nat.le_zero_eq, Nat.zero_le, not_true_eq_false, not_false_eq_true, reduceIte, if_true, if_false, ite_self, Bool.false_eq_true, Nat.reduceEqDiff, Nat.reduceAdd, Nat.reduceMul, Nat.reduceSub, Nat.reduceLT, Nat.reduceLeDiff, Nat.reducePow, gi_si, gi_sg, gi_sa, gi_sl, ga_si, ga_sg2, ga_sa, ga_sl, gl_si, gl_sg, gl_sa, gl_sl, t3, f7], RelX_thr _ h⟩
  by_cases z2 : x2 = 2
  · subst z2
    exact ⟨lastB (ga σm 20) (ga σm 21) (nI s) P, σx, si σm 0 (nI 0), by simp (disch := omega) only [if_pos, if_neg, bnd_e, cal_e, chk_t, isZ_0, isZ_1, isZ_n0, isZ_n1, ald_n, ast_n, stb_n, litI, nI_add, pk_mul, pk_sub, Nat.add_sub_cancel, nar_0, nar_1, nI_leI, nI_ltI, nI_eq, Nat.not_lt_zero, Nat.le_zero_eq, Nat.zero_le, not_true_eq_false, not_false_eq_true, reduceIte, if_true, if_false, ite_self, Bool.false_eq_true, Nat.reduceEqDiff, Nat.reduceAdd, Nat.reduceMul, Nat.reduceSub, Nat.reduceLT, Nat.reduceLeDiff, Nat.reducePow, gi_si, gi_sg, gi_sa, gi_sl, ga_si, ga_sg2, ga_sa, ga_sl, gl_si, gl_sg, gl_sa, gl_sl, g.2], by simp (disch := omega) only [if_pos, if_neg, bnd_e, cal_e, chk_t, isZ_0, isZ_1, isZ_n0, isZ_n1, ald_n, ast_n, stb_n, litI, nI_add, pk_mul, pk_sub, Nat.add_sub_cancel, nar_0, nar_1, nI_leI, nI_ltI, nI_eq, Nat.not_lt_zero, Nat.le_zero_eq, Nat.zero_le, not_true_eq_false, not_false_eq_true, reduceIte, if_true, if_false, ite_self, Bool.false_eq_true, Nat.reduceEqDiff, Nat.reduceAdd, Nat.reduceMul, Nat.reduceSub, Nat.reduceLT, Nat.reduceLeDiff, Nat.reducePow, gi_si, gi_sg, gi_sa, gi_sl, ga_si, ga_sg2, ga_sa, ga_sl, gl_si, gl_sg, gl_sa, gl_sl, f7], RelX_thr _ h⟩
  by_cases z3 : x2 = 3
  · subst z3
    exact ⟨ga σm 15 s, σx, si σm 0 (nI 0), by simp (disch := omega) only [if_pos, if_neg, bnd_e, cal_e, chk_t, isZ_0, isZ_1, isZ_n0, isZ_n1, ald_n, ast_n, stb_n, litI, nI_add, pk_mul, pk_sub, Nat.add_sub_cancel, nar_0, nar_1, nI_leI, nI_ltI, nI_eq, Nat.not_lt_zero, Nat.le_zero_eq, Nat.zero_le, not_true_eq_false, not_false_eq_true, reduceIte, if_true, if_false, ite_self, Bool.false_eq_true, Nat.reduceEqDiff, Nat.reduceAdd, Nat.reduceMul, Nat.reduceSub, Nat.reduceLT, Nat.reduceLeDiff, Nat.reducePow, gi_si, gi_sg, gi_sa, gi_sl, ga_si, ga_sg2, ga_sa, ga_sl, gl_si, gl_sg, gl_sa, gl_sl, e9], by simp (disch := omega) only [if_pos, if_neg, bnd_e, cal_e, chk_t, isZ_0, isZ_1, isZ_n0, isZ_n1, ald_n, ast_n, stb_n, litI, nI_add, pk_mul, pk_sub, Nat.add_sub_cancel, nar_0, nar_1, nI_leI, nI_ltI, nI_eq, Nat.not_lt_zero, Nat.le_zero_eq, Nat.zero_le, not_true_eq_false, not_false_eq_true, reduceIte, if_true, if_false, ite_self, Bool.false_eq_true, Nat.reduceEqDiff, Nat.reduceAdd, Nat.reduceMul, Nat.reduceSub, Nat.reduceLT, Nat.reduceLeDiff, Nat.reducePow, gi_si, gi_sg, gi_sa, gi_sl, ga_si, ga_sg2, ga_sa, ga_sl, gl_si, gl_sg, gl_sa, gl_sl, f7], RelX_thr _ h⟩
  by_cases z4 : x2 = 4
  · subst z4
    exact ⟨ga σm 16 s, σx, si σm 0 (nI 0), by simp (disch := omega) only [if_pos, if_neg, bnd_e, cal_e, chk_t, isZ_0, isZ_1, isZ_n0, isZ_n1, ald_n, ast_n, stb_n, litI, nI_add, pk_mul, pk_sub, Nat.add_sub_cancel, nar_0, nar_1, nI_leI, nI_ltI, nI_eq, Nat.not_lt_zero, Nat.le_zero_eq, Nat.zero_le, not_true_eq_false, not_false_eq_true, reduceIte, if_true, if_false, ite_self, Bool.false_eq_true, Nat.reduceEqDiff, Nat.reduceAdd, Nat.reduceMul, Nat.reduceSub, Nat.reduceLT, Nat.reduceLeDiff, Nat.reducePow, gi_si, gi_sg, gi_sa, gi_sl, ga_si, ga_sg2, ga_sa, ga_sl, gl_si, gl_sg, gl_sa, gl_sl, e10], by simp (disch := omega) only [if_pos, if_neg, bnd_e, cal_e, chk_t, isZ_0, isZ_1, isZ_n0, isZ_n1, ald_n, ast_n, stb_n, litI, nI_add, pk_mul, pk_sub, Nat.add_sub_cancel, nar_0, nar_1, nI_leI, nI_ltI, nI_eq, Nat.not_lt_zero, Nat.le_zero_eq, Nat.zero_le, not_true_eq_false, not_false_eq_true, reduceIte, if_true, if_false, ite_self, Bool.false_eq_true, Nat.reduceEqDiff, Nat.reduceAdd, Nat.reduceMul, Nat.reduceSub, Nat.reduceLT, Nat.reduceLeDiff, Nat.reducePow, gi_si, gi_sg, gi_sa, gi_sl, ga_si, ga_sg2, ga_sa, ga_sl, gl_si, gl_sg, gl_sa, gl_sl, f7], RelX_thr _ h⟩
  · exact ⟨-2, σx, si σm 0 (nI 0), by simp only [z0, z1, z2, z3, z4, if_false]; rfl, by rw [f7b, if_pos (nI_le (by omega) (by omega))]; simp only [z0, z1, z2, z3, z4, if_false], RelX_thr _ h⟩
