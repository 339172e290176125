theorem Rc1_fr {n j : Nat} {c0 c1 : Int32} {a0 a1 a2 a3 m6 m7 m8 m9 n6 n7 n8 n9 : Nat → Int32} (hj : j < 6) (h : Rc1 n c0 c1 a0 a1 a2 a3 j m6 m7 m8 m9) (h6 : n6 j = m6 j) (h7 : ∀ i, i < 8 → n7 (8 * j + i) = m7 (8 * j + i) ∧ n8 (8 * j + i) = m8 (8 * j + i) ∧ n9 (8 * j + i) = m9 (8 * j + i)) : Rc1 n c0 c1 a0 a1 a2 a3 j n6 n7 n8 n9 := by
  obtain ⟨b1, b2, b3, b4, b5, b6⟩ := h
  refine ⟨b1, b2, h6.trans b3, ?_, fun i hi => ?_, fun hn => ?_⟩
  · rw [b4]
    exact congrArg nI (cntN_congr (fun i hi => by rw [(h7 i (by omega)).2.2]))
  · obtain ⟨z1, z2, z3⟩ := h7 i (by omega)
    rw [z1, z2, z3]
    exact b5 i hi
  · rw [← b6 hn]
    exact sumN_congr (fun i hi => (h7 i (by omega)).1)
def R3 (k : Nat) (σx σm : St) : Prop := RV k (ga σx 14) (ga σx 15) (ga σx 16) (ga σm 14) (ga σm 17) ∧ RS (gi σx 9) (gi σm 12) (ga σx 4) (ga σx 5) (ga σx 6) (ga σx 7) (ga σx 8) (ga σx 9) (ga σx 10) (ga σm 10) (ga σm 11) (ga σm 12) (ga σm 13) (ga σm 19) (ga σm 15) (ga σm 16) ∧ RL0 (gi σx 10) (gi σx 11) (gi σx 12) (gi σx 13) (gi σm 14) (gi σm 13) (gi σm 15) (gi σm 16) (ga σx 17) (ga σx 18) (ga σx 19) (ga σx 20) (ga σx 21) (ga σx 22) (ga σm 30) (ga σm 23) (ga σm 20) (ga σm 21) (ga σm 22) (gi σx 9) (ga σm 10) (ga σm 11) (ga σx 11) (ga σx 12) (ga σx 13)
theorem R3_fr {k : Nat} {σx σm σx2 σm2 : St} (h : R3 k σx σm) (h1 : ∀ j, 9 ≤ j → j < 27 → gi σx2 j = gi σx j) (h2 : ∀ a, 4 ≤ a → a < 30 → ga σx2 a = ga σx a) (h3 : ∀ j, 12 ≤ j → gi σm2 j = gi σm j) (h4 : ∀ a, 10 ≤ a → ga σm2 a = ga σm a) : R3 k σx2 σm2 := by
  obtain ⟨q5, q6, q7⟩ := h
  refine ⟨?_, ?_, ?_⟩
  · simp (disch := omega) only [h1, h2, h3, h4]; exact q5
  · simp (disch := omega) only [h1, h2, h3, h4]; exact q6
  · simp (disch := omega) only [h1, h2, h3, h4]; exact q7
theorem gi_aX (σ : St) {j : Nat} (h : 8 ≤ j) (h2 : j < 45) : gi (aX σ) j = gi σ j := by
  unfold aX
  simp (disch := omega) only [gi_si, if_neg]
theorem s_clock (N : Nat) (hN : 260 < N) : Sim_clock N RelX := fun x1 k σx σm hk h => by
  rcases x_isClock N x1 σx with ⟨a, -⟩ | ⟨j, hj, rfl⟩
  · rcases x_isClock N x1 σm with ⟨-, b⟩ | ⟨j, hj, rfl⟩
    · right
      refine ⟨(0, σx), 0, si σm 0 1, ?_, ?_, rfl, RelX_thr _ h⟩
      · simp only [X6_clock_t, a, cal_e, if_true]
      · simp only [X7_clock_f, X7_refuse_f, b, cal_e, bnd_e, if_true]
    · rw [(x_isClock1 N hj σx).1] at a
      cases a
  left
  obtain ⟨⟨T, hT, e1, e2, e3⟩, q2, hU, hC, hr⟩ := id h
  have h3 : R3 k σx σm := hr
  have c0 : PC T 240 (fun i => (ga σm 0 i).toNatClampNeg) (aX σx) (bM σm 240) := PC_of (k := k) (σx := aX σx) (σm := bM σm 240) hT (by omega) e1 e2 rfl rfl e3
  obtain ⟨σx2, σm2, s1, s2, t, fx, fm⟩ := tok_step N hN (p := 0) (by omega) c0 rfl rfl
  have rx := readc_x N σx σx2 s1
  have rm := readc_m N hj σm σm2 s2
  have hI : CIb 0 0 σx2 (si (sa σm2 6 6 (nI 0)) 11 (nI 0)) := by
    refine ⟨by omega, ?_, rfl, ?_, ?_, rfl, Nat.zero_le _, fun i hi => absurd hi (by omega), ?_, ?_⟩
    · exact fx.1 45 (by omega) (by omega) (by omega) (by omega)
    · exact fx.1 46 (by omega) (by omega) (by omega) (by omega)
    · exact fx.1 47 (by omega) (by omega) (by omega) (by omega)
    · exact fx.1 1 (by omega) (by omega) (by omega) (by omega)
    · exact fm.1 8 (by omega) (by omega) (by omega) (by omega)
  have c2a : PC T 240 (fun i => (ga σm 0 i).toNatClampNeg) σx2 σm2 := PC_fr c0 fx fm
  have c2 : PC T 240 (fun i => (ga σm 0 i).toNatClampNeg) σx2 (si (sa σm2 6 6 (nI 0)) 11 (nI 0)) := c2a
  have t2 : Tk T (fun i => (ga σm 0 i).toNatClampNeg) σx2 (si (sa σm2 6 6 (nI 0)) 11 (nI 0)) := t
  have keep : ∀ σx3 σm3 : St, FxC σx2 σx3 → FmC (si (sa σm2 6 6 (nI 0)) 11 (nI 0)) σm3 → (∀ q, 8 ≤ q → q < 45 → gi σx3 q = gi σx q) ∧ (∀ a, a < 54 → ga σx3 a = ga σx a) ∧ (∀ q, 12 ≤ q → gi σm3 q = gi σm q) ∧ (∀ a, a ≤ 5 ∨ 10 ≤ a → ga σm3 a = ga σm a) ∧ (∀ q, q ≠ 6 → ga σm3 6 q = ga σm 6 q) ∧ (∀ q, q < 48 → ga σm3 7 q = ga σm 7 q ∧ ga σm3 8 q = ga σm 8 q ∧ ga σm3 9 q = ga σm 9 q) ∧ gi σm3 1 = nI 0 ∧ gi σm3 0 = nI 0 := by
    intro σx3 σm3 a b
    refine ⟨fun q hq hq2 => ?_, fun q hq => ?_, fun q hq => ?_, fun q hq => ?_, fun q hq => ?_, fun q hq => ?_, ?_, ?_⟩
    · rw [a.1 q (by omega), fx.1 q (by omega) (by omega) (by omega) (by omega), gi_aX σx hq hq2]
    · rw [a.2 q hq, fx.2 q]
      rfl
    · rw [b.1 q (by omega), gi_si, if_neg (by omega), gi_sa, fm.1 q (by omega) (by omega) (by omega) (by omega), gi_bM σm (by omega)]
    · rw [b.2.1 q hq, ga_si, ga_sa, if_neg (by omega), fm.2 q]
      rfl
    · rw [b.2.2.1 q hq, ga_si, ga_sa, if_pos rfl, upd_e, if_neg hq, fm.2 6]
      rfl
    · obtain ⟨z1, z2, z3⟩ := b.2.2.2 q hq
      rw [z1, z2, z3]
      refine ⟨?_, ?_, ?_⟩
      · show ga σm2 7 q = _
        rw [fm.2 7]
        rfl
      · show ga σm2 8 q = _
        rw [fm.2 8]
        rfl
      · show ga σm2 9 q = _
        rw [fm.2 9]
        rfl
    · rw [b.1 1 (by omega)]
      exact fm.1 1 (by omega) (by omega) (by omega) (by omega)
    · rw [b.1 0 (by omega)]
      exact fm.1 0 (by omega) (by omega) (by omega) (by omega)
  rcases clock_l N hN (nI j) 8 N N 0 σx2 (si (sa σm2 6 6 (nI 0)) 11 (nI 0)) c2 t2 hI rfl (by omega) (by omega) with ⟨f, x, y, a1, a2, ⟨bk, b0, b1, b2, b3⟩, a4, a5⟩ | ⟨m, x, y, a1, a2, a3, a4, a5, a6⟩
  · obtain ⟨z1, z2, z3, z4, z5, z6, z7, z8⟩ := keep x y a4 a5
    refine ⟨-nI 1 - nI f, si x 0 (nI 0), y, ?_, ?_, z8, RelX_mono ⟨⟨0, by omega, rfl, z7, ?_⟩, ?_, ?_, ?_, R3_fr h3 ?_ ?_ z3 ?_⟩⟩
    · unfold X6_clock_f
      rw [(x_isClock1 N hj σx).1, cal_e, if_neg (by decide), rx, a1]
      simp (disch := omega) only [if_pos, if_neg, bnd_e, cal_e, chk_t, isZ_0, isZ_1, isZ_n0, isZ_n1, ald_n, ast_n, stb_n, litI, nI_add, pk_mul, pk_sub, Nat.add_sub_cancel, nar_0, nar_1, nI_leI, nI_ltI, nI_eq, Nat.not_lt_zero, Nat.le_zero_eq, Nat.zero_le, not_true_eq_false, not_false_eq_true, reduceIte, if_true, if_false, ite_self, Bool.false_eq_true, Nat.reduceEqDiff, Nat.reduceAdd, Nat.reduceMul, Nat.reduceSub, Nat.reduceLT, Nat.reduceLeDiff, Nat.reducePow, gi_si, gi_sg, gi_sa, gi_sl, ga_si, ga_sg2, ga_sa, ga_sl, gl_si, gl_sg, gl_sa, gl_sl, b3]
    · rw [rm, a2]
    · show ∀ i, i < 260 → ∃ b : Nat, b < 256 ∧ ga y 0 i = nI b ∧ ga x 0 i = (nI b).toInt8.toInt32
      rw [z2 0 (by omega), z4 0 (by omega)]
      exact e3
    · show gi x 1 = gi y 8
      rw [b1, b2]
    · show RU (ga x 1) (ga y 1) (ga y 2) (ga y 4) (ga y 5)
      rw [z2 1 (by omega), z4 1 (by omega), z4 2 (by omega), z4 4 (by omega), z4 5 (by omega)]
      exact hU
    · intro i hi
      obtain ⟨n, hc⟩ := hC i hi
      refine ⟨n, ?_⟩
      simp (disch := omega) only [gi_si, if_neg, ga_si, z1, z2]
      exact Rc1_fr hi hc (z5 i (by omega)) (fun q hq => z6 (8 * i + q) (by omega))
    · intro q hq hq2
      rw [gi_si, if_neg (by omega)]
      exact z1 q (by omega) (by omega)
    · intro a ha ha2
      exact z2 a (by omega)
    · intro a ha
      exact z4 a (by omega)
  · obtain ⟨z1, z2, z3, z4, z5, z6, z7, z8⟩ := keep x y a5 a6
    obtain ⟨i1, i2, i3, i4, i5, i6, i7, i8, i9, i10⟩ := a3
    obtain ⟨σ6, k1, k2, k3, k4, k5⟩ := become_l N hj 8 N 0 (si (si (si (si x 0 (nI 0)) (27 + 3 * j) (nI m)) (27 + 3 * j + 1) (gi x 46)) (27 + 3 * j + 2) (gi x 47)) (by omega) (by omega)
    obtain ⟨σ7, l1, l2, l3, l4, l5⟩ := copy_l N hj i1 m N 0 (sa y 6 j (nI m)) (by rw [ga_sa, if_pos rfl, upd_e, if_pos rfl]) (by omega) (by omega)
    have g45 : gi σ6 45 = nI m := by
      rw [k2 45]
      simp (disch := omega) only [gi_si, if_neg]
      exact i2
    refine ⟨nI m, σ6, σ7, ?_, ?_, ?_, RelX_mono ⟨⟨0, by omega, ?_, ?_, ?_⟩, ?_, ?_, ?_, R3_fr h3 ?_ ?_ ?_ ?_⟩⟩
    · unfold X6_clock_f X0_become_f
      rw [(x_isClock1 N hj σx).1, cal_e, if_neg (by decide), rx, a1, nI_clamp (by omega), inB_n hj (by omega)]
      simp (disch := omega) only [litI, cal_e, bnd_e, chk_t, nI_eq, if_neg, Nat.add_zero, gi_si, i2]
      rw [k1, cal_e, g45]
    · rw [rm, a2, ← l1]
      unfold okM
      simp (disch := omega) only [if_pos, if_neg, bnd_e, cal_e, chk_t, isZ_0, isZ_1, isZ_n0, isZ_n1, ald_n, ast_n, stb_n, litI, nI_add, pk_mul, pk_sub, Nat.add_sub_cancel, nar_0, nar_1, nI_leI, nI_ltI, nI_eq, Nat.not_lt_zero, Nat.le_zero_eq, Nat.zero_le, not_true_eq_false, not_false_eq_true, reduceIte, if_true, if_false, ite_self, Bool.false_eq_true, Nat.reduceEqDiff, Nat.reduceAdd, Nat.reduceMul, Nat.reduceSub, Nat.reduceLT, Nat.reduceLeDiff, Nat.reducePow, gi_si, gi_sg, gi_sa, gi_sl, ga_si, ga_sg2, ga_sa, ga_sl, gl_si, gl_sg, gl_sa, gl_sl, i3]
    · rw [l2 0]; exact z8
    · rw [k2 0]
      simp (disch := omega) only [gi_si, if_neg, if_true]
    · rw [l2 1]; exact z7
    · rw [k3 0 (by omega), l3 0 (by omega)]
      show ∀ i, i < 260 → ∃ b : Nat, b < 256 ∧ ga y 0 i = nI b ∧ ga x 0 i = (nI b).toInt8.toInt32
      rw [z2 0 (by omega), z4 0 (by omega)]
      exact e3
    · rw [k2 1, l2 8]
      simp (disch := omega) only [gi_si, if_neg, gi_sa]
      rw [i9, i10]
    · rw [k3 1 (by omega), l3 1 (by omega), l3 2 (by omega), l3 4 (by omega), l3 5 (by omega)]
      show RU (ga x 1) (ga y 1) (ga y 2) (ga y 4) (ga y 5)
      rw [z2 1 (by omega), z4 1 (by omega), z4 2 (by omega), z4 4 (by omega), z4 5 (by omega)]
      exact hU
    · intro i hi
      by_cases hij : i = j
      · subst hij
        have m7 : ∀ q, q < m → ga σ7 7 (8 * i + q) = ga y 7 (48 + q) ∧ ga σ7 8 (8 * i + q) = ga y 8 (48 + q) ∧ ga σ7 9 (8 * i + q) = ga y 9 (48 + q) := fun q hq => l5 q (by omega) hq
        refine ⟨m, i1, ?_, ?_, ?_, fun q hq => ?_, fun _ => ?_⟩
        · show gi σ6 (3 * i + 27) = nI m
          rw [k2]
          simp (disch := omega) only [gi_si, if_neg, if_pos]
        · rw [l3 6 (by omega), ga_sa, if_pos rfl, upd_e, if_pos rfl]
        · show gi σ6 (3 * i + 1 + 27) = _
          rw [k2]
          simp (disch := omega) only [gi_si, if_neg, if_pos]
          rw [i4]
          exact congrArg nI (cntN_congr (fun q hq => by rw [(m7 q hq).2.2]))
        · obtain ⟨w1, w2, w3⟩ := m7 q hq
          obtain ⟨v1, v2, v3, v4⟩ := k5 q (by omega) (by omega)
          obtain ⟨u1, u2, u3, u4⟩ := i8 q hq
          rw [w1, w2, w3]
          show ga σ6 (4 * i + 30) q = _ ∧ ga σ6 (4 * i + 1 + 30) q = _ ∧ _ ∧ ((ga σ6 (4 * i + 3 + 30) q = 0 ∧ _) ∨ (ga σ6 (4 * i + 3 + 30) q = 1 ∧ ga σ6 (4 * i + 2 + 30) q = _ ∧ _))
          rw [show 4 * i + 30 = 30 + 4 * i by omega, show 4 * i + 1 + 30 = 31 + 4 * i by omega, show 4 * i + 2 + 30 = 32 + 4 * i by omega, show 4 * i + 3 + 30 = 33 + 4 * i by omega, v1, v2, v3, v4]
          simp only [ga_si]
          refine ⟨u1, u2, u3, ?_⟩
          rcases u4 with ⟨y1, y2⟩ | ⟨y1, y2, y3⟩
          · exact Or.inl ⟨by rw [y1]; rfl, y2⟩
          · exact Or.inr ⟨by rw [y1]; rfl, y2, y3⟩
        · rw [← a4]
          exact sumN_congr (fun q hq => (m7 q hq).1)
      · obtain ⟨n, hc⟩ := hC i hi
        refine ⟨n, ?_⟩
        show Rc1 n (gi σ6 (3 * i + 27)) (gi σ6 (3 * i + 1 + 27)) (ga σ6 (4 * i + 30)) (ga σ6 (4 * i + 1 + 30)) (ga σ6 (4 * i + 2 + 30)) (ga σ6 (4 * i + 3 + 30)) i (ga σ7 6) (ga σ7 7) (ga σ7 8) (ga σ7 9)
        rw [k2, k2, k3 _ (by omega), k3 _ (by omega), k3 _ (by omega), k3 _ (by omega)]
        simp (disch := omega) only [gi_si, if_neg, ga_si, z1, z2]
        refine Rc1_fr hi hc ?_ (fun q hq => ?_)
        · rw [l3 6 (by omega), ga_sa, if_pos rfl, upd_e, if_neg hij]
          exact z5 i (by omega)
        · obtain ⟨w1, w2, w3⟩ := l4 (8 * i + q) (by omega)
          rw [w1, w2, w3]
          exact z6 (8 * i + q) (by omega)
    · intro q hq hq2
      rw [k2]
      simp (disch := omega) only [gi_si, if_neg]
      exact z1 q (by omega) (by omega)
    · intro a ha ha2
      rw [k3 a (by omega)]
      exact z2 a (by omega)
    · intro q hq
      rw [l2]
      exact z3 q hq
    · intro a ha
      rw [l3 a (by omega), ga_sa, if_neg (by omega)]
      exact z4 a (by omega)
