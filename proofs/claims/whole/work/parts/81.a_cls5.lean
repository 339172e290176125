/-! lay: the class's search finds the best row -/
theorem cat_last : ∀ a : List Nat, a ≠ [] → ∃ (d : List Nat) (y : Nat), a = d ++ [y]
  | [], h => absurd rfl h
  | [x], _ => ⟨[], x, rfl⟩
  | x :: y :: a, _ => by
    obtain ⟨d, z, e⟩ := cat_last (y :: a) (List.cons_ne_nil _ _)
    exact ⟨x :: d, z, by rw [e]; rfl⟩
theorem x_ext (N : Nat) (hN : 60000 < N) {q : Nat → Nat → Nat} {c : Nat → Nat} {lg : Nat → Nat → Prop} {m : Nat} {p e : Nat → Nat} (h44 : c 4 ≤ 4) : ∀ (t : Nat) (r : List Nat), Fs q c lg r → r.length + t = 5 → r.length ≤ c 4 → ExS q c lg m p e (X2_extend_f N t) r
  | 0, r, _, h1, h2 => absurd h1 (by omega)
  | t + 1, r, hf, h1, hl => by
    intro σ U W P b h hp hu hfr hb hI hbf hr
    have hrm := Fs_lt hf
    have hsum := Fs_sum _ hf
    obtain ⟨t0, t3, t4⟩ := sm_bx h hrm
    obtain ⟨h24, -, h3, -, -, -, g24, g25, g26, -, -, -, c4a, c4b, c0, c1, c2, c9, c3⟩ := id h
    have er : c 0 + c 1 - (c 0 + sm (q 0) r) = c 1 - sm (q 0) r := by omega
    show ∃ (b2 : Option (List Nat)) (σ2 : St), X2_extendB_f N (X2_extend_f N t) (nI r.length) (nI (c 0 + sm (q 0) r)) (kyI q c r) (nI (sm (q 3) r)) (nI (sm (q 4) r)) σ = some (nI 0, σ2) ∧ _
    unfold X2_extendB_f
    by_cases z : r.length = c 4
    · refine ⟨b, σ, ?_, hb, IsB_no hI (fun x ⟨hx1, a, ha, hx2⟩ => ?_), Or.inl rfl, FrS_rfl _ σ⟩
      · simp (disch := omega) only [if_pos, if_neg, bnd_e, cal_e, chk_t, isZ_0, isZ_1, isZ_n0, isZ_n1, ald_n, ast_n, stb_n, litI, nI_add, pk_mul, pk_sub, Nat.add_sub_cancel, nar_0, nar_1, nI_leI, nI_ltI, nI_eq, Nat.not_lt_zero, Nat.le_zero_eq, Nat.zero_le, not_true_eq_false, not_false_eq_true, reduceIte, if_true, if_false, ite_self, Bool.false_eq_true, Nat.reduceEqDiff, Nat.reduceAdd, Nat.reduceMul, Nat.reduceSub, Nat.reduceLT, Nat.reduceLeDiff, Nat.reducePow, gi_si, gi_sg, gi_sa, gi_sl, ga_si, ga_sg2, ga_sa, ga_sl, gl_si, gl_sg, gl_sa, gl_sl, g24]
      · have hx3 := hx1.2.2.1
        rw [hx2, List.length_append] at hx3
        cases a with
        | nil => exact ha rfl
        | cons y a =>
          have : (y :: a).length = a.length + 1 := rfl
          omega
    rcases x_hope N h hp hb r hl hf with ho | ⟨ho, hno⟩
    · by_cases y : r.length + 1 = c 4
      · obtain ⟨f, f1, f2, f3, f4⟩ := firstF N h hp (rest := c 1 - sm (q 0) r) (by omega) N 0 m (by omega) (Nat.le_refl m) (by have := hp.1; omega) (fun i hi => absurd hi (by omega)) (fun i i1 i2 => absurd i1 (by omega))
        have e17 := hp.2.1
        have hm := hp.1
        obtain ⟨b2, σ2, k1, k2, k3, k4, k5⟩ := tryL N (by omega) r hf y hfr (P := P) hbf (m - f) f N σ b h hp hu hb hr f4 (IsB_no hI (fun x ⟨hx1, j, hx2, hx3⟩ => by
          have := hx1.1
          rw [hx3] at this
          have q1 := this.2.2.2.1
          have q2 := f3 j hx2
          omega)) (Or.inl rfl) (by omega) (by omega)
        refine ⟨b2, σ2, ?_, k2, IsB_iff k3 fun x => ?_, ?_, k5⟩
        · have fe : X2_firstThatFits_f N (nI (c 1 - sm (q 0) r)) σ = some (nI f, σ) := by
            unfold X2_firstThatFits_f
            simp (disch := omega) only [if_pos, if_neg, bnd_e, cal_e, chk_t, isZ_0, isZ_1, isZ_n0, isZ_n1, ald_n, ast_n, stb_n, litI, nI_add, pk_mul, pk_sub, Nat.add_sub_cancel, nar_0, nar_1, nI_leI, nI_ltI, nI_eq, Nat.not_lt_zero, Nat.le_zero_eq, Nat.zero_le, not_true_eq_false, not_false_eq_true, reduceIte, if_true, if_false, ite_self, Bool.false_eq_true, Nat.reduceEqDiff, Nat.reduceAdd, Nat.reduceMul, Nat.reduceSub, Nat.reduceLT, Nat.reduceLeDiff, Nat.reducePow, gi_si, gi_sg, gi_sa, gi_sl, ga_si, ga_sg2, ga_sa, ga_sl, gl_si, gl_sg, gl_sa, gl_sl, e17]
            exact f1
          have te : X2_tryLast_f N (nI r.length) (nI (c 0 + sm (q 0) r)) (kyI q c r) (nI (sm (q 3) r)) (nI (sm (q 4) r)) σ = some (nI 0, σ2) := by
            unfold X2_tryLast_f
            simp (disch := omega) only [if_pos, if_neg, bnd_e, cal_e, chk_t, isZ_0, isZ_1, isZ_n0, isZ_n1, ald_n, ast_n, stb_n, litI, nI_add, pk_mul, pk_sub, Nat.add_sub_cancel, nar_0, nar_1, nI_leI, nI_ltI, nI_eq, Nat.not_lt_zero, Nat.le_zero_eq, Nat.zero_le, not_true_eq_false, not_false_eq_true, reduceIte, if_true, if_false, ite_self, Bool.false_eq_true, Nat.reduceEqDiff, Nat.reduceAdd, Nat.reduceMul, Nat.reduceSub, Nat.reduceLT, Nat.reduceLeDiff, Nat.reducePow, gi_si, gi_sg, gi_sa, gi_sl, ga_si, ga_sg2, ga_sa, ga_sl, gl_si, gl_sg, gl_sa, gl_sl, g25, er, fe]
            exact k1
          have e1 : c 4 - r.length = 1 := by omega
          rw [e1] at ho
          simp (disch := omega) only [if_pos, if_neg, bnd_e, cal_e, chk_t, isZ_0, isZ_1, isZ_n0, isZ_n1, ald_n, ast_n, stb_n, litI, nI_add, pk_mul, pk_sub, Nat.add_sub_cancel, nar_0, nar_1, nI_leI, nI_ltI, nI_eq, Nat.not_lt_zero, Nat.le_zero_eq, Nat.zero_le, not_true_eq_false, not_false_eq_true, reduceIte, if_true, if_false, ite_self, Bool.false_eq_true, Nat.reduceEqDiff, Nat.reduceAdd, Nat.reduceMul, Nat.reduceSub, Nat.reduceLT, Nat.reduceLeDiff, Nat.reducePow, gi_si, gi_sg, gi_sa, gi_sl, ga_si, ga_sg2, ga_sa, ga_sl, gl_si, gl_sg, gl_sa, gl_sl, g24, e1, g25, er, ho, te]
        · constructor
          · rintro (w | ⟨w1, j, w2, w3⟩)
            · exact Or.inl w
            · exact Or.inr ⟨w1, [e j], List.cons_ne_nil _ _, w3⟩
          · rintro (w | ⟨w1, a, w2, w3⟩)
            · exact Or.inl w
            · refine Or.inr ⟨w1, ?_⟩
              obtain ⟨d, v, hd⟩ := cat_last a w2
              have hlx := w1.2.2.1
              rw [w3, hd, List.length_append, List.length_append] at hlx
              have hl1 : [v].length = 1 := rfl
              have hd0 : d = [] := List.length_eq_zero_iff.mp (by omega)
              obtain ⟨-, j, j1, j2⟩ := hp.2.2.2.2.2.1 x w1 v (by
                rw [w3, hd]
                exact List.mem_append_left _ (List.mem_append_right _ List.mem_cons_self))
              refine ⟨j, j1, ?_⟩
              rw [w3, hd, hd0, j2]
              rfl
        · rcases k4 with w | ⟨j, j1, j2⟩
          · exact Or.inl w
          · exact Or.inr ⟨_, j2, [e j], List.cons_ne_nil _ _, rfl⟩
      · have hm := hp.1
        obtain ⟨b2, σ2, k1, k2, k3, k4, k5⟩ := ext_l N (by omega) (X2_extend_f N t) r hf (by omega) hfr (fun s hcan => x_ext N hN h44 t (s :: r) ⟨hf, hcan⟩ (by show r.length + 1 + t = 5; omega) (by show r.length + 1 ≤ c 4; omega)) (P := P) hbf m 0 N σ b h hp hu hb hr (IsB_no hI (fun x ⟨_, j, _, hj, _⟩ => absurd hj (by omega))) (Or.inl rfl) (by omega) (by omega)
        refine ⟨b2, σ2, ?_, k2, IsB_iff k3 fun x => ?_, ?_, k5⟩
        · simp (disch := omega) only [if_pos, if_neg, bnd_e, cal_e, chk_t, isZ_0, isZ_1, isZ_n0, isZ_n1, ald_n, ast_n, stb_n, litI, nI_add, pk_mul, pk_sub, Nat.add_sub_cancel, nar_0, nar_1, nI_leI, nI_ltI, nI_eq, Nat.not_lt_zero, Nat.le_zero_eq, Nat.zero_le, not_true_eq_false, not_false_eq_true, reduceIte, if_true, if_false, ite_self, Bool.false_eq_true, Nat.reduceEqDiff, Nat.reduceAdd, Nat.reduceMul, Nat.reduceSub, Nat.reduceLT, Nat.reduceLeDiff, Nat.reducePow, gi_si, gi_sg, gi_sa, gi_sl, ga_si, ga_sg2, ga_sa, ga_sl, gl_si, gl_sg, gl_sa, gl_sl, g24, g25, er, ho]
          exact k1
        · constructor
          · rintro (w | ⟨w1, j, a, w2, w3⟩)
            · exact Or.inl w
            · exact Or.inr ⟨w1, a ++ [p j], fun o => by
                have := congrArg List.length o
                rw [List.length_append] at this
                exact absurd this (Nat.succ_ne_zero _), by rw [w3, List.append_assoc]; rfl⟩
          · rintro (w | ⟨w1, a, w2, w3⟩)
            · exact Or.inl w
            · refine Or.inr ⟨w1, ?_⟩
              obtain ⟨d, v, hd⟩ := cat_last a w2
              obtain ⟨⟨j, j1, j2⟩, -⟩ := hp.2.2.2.2.2.1 x w1 v (by
                rw [w3, hd]
                exact List.mem_append_left _ (List.mem_append_right _ List.mem_cons_self))
              refine ⟨j, d, j1, ?_⟩
              rw [w3, hd, j2, List.append_assoc]
              rfl
        · rcases k4 with w | ⟨j, a, j1, j2⟩
          · exact Or.inl w
          · refine Or.inr ⟨_, j2, a ++ [p j], fun o => ?_, by rw [List.append_assoc]; rfl⟩
            have := congrArg List.length o
            rw [List.length_append] at this
            exact absurd this (Nat.succ_ne_zero _)
    · refine ⟨b, σ, ?_, hb, IsB_kp hI (fun x ⟨hx1, hx2⟩ => ⟨hx1, hno x hx1 hx2, fun r0 hz => hbf r0 hz x hx2⟩), Or.inl rfl, FrS_rfl _ σ⟩
      simp (disch := omega) only [if_pos, if_neg, bnd_e, cal_e, chk_t, isZ_0, isZ_1, isZ_n0, isZ_n1, ald_n, ast_n, stb_n, litI, nI_add, pk_mul, pk_sub, Nat.add_sub_cancel, nar_0, nar_1, nI_leI, nI_ltI, nI_eq, Nat.not_lt_zero, Nat.le_zero_eq, Nat.zero_le, not_true_eq_false, not_false_eq_true, reduceIte, if_true, if_false, ite_self, Bool.false_eq_true, Nat.reduceEqDiff, Nat.reduceAdd, Nat.reduceMul, Nat.reduceSub, Nat.reduceLT, Nat.reduceLeDiff, Nat.reducePow, gi_si, gi_sg, gi_sa, gi_sl, ga_si, ga_sg2, ga_sa, ga_sl, gl_si, gl_sg, gl_sa, gl_sl, g24, g25, er, ho]
/-- THE CLASS: run finds the best row -/
theorem x_run (N : Nat) (hN : 60000 < N) {q : Nat → Nat → Nat} {c : Nat → Nat} {lg : Nat → Nat → Prop} {m : Nat} {p e U W : Nat → Nat} {σ : St} (h : InX q c σ) (hp : Po q c lg m p e σ) (hu : UWx c U W σ) (hfr : Fre q c lg U W []) (hb : BeX q c σ none) : ∃ (b : Option (List Nat)) (σ2 : St), X2_run_f N (nI (c 0)) (kyI q c []) σ = some (nI 0, σ2) ∧ BeX q c σ2 b ∧ IsB q c (Ad q c lg) b ∧ FrS 0 σ σ2 := by
  have h44 : c 4 ≤ 4 := h.2.2.2.2.2.2.2.2.2.2.2.2.2.1
  obtain ⟨b, σ2, k1, k2, k3, -, k5⟩ := x_ext N hN (m := m) (p := p) (e := e) (lg := lg) (q := q) h44 5 [] trivial rfl (Nat.zero_le _) σ U W (fun _ => False) none h hp hu hfr hb (fun _ z => z) (fun r0 z => by cases z) trivial
  refine ⟨b, σ2, ?_, k2, IsB_iff k3 fun x => ⟨fun z => z.elim (fun y => absurd y id) (fun y => y.1), fun z => Or.inr ⟨z, x, z.2.1, (List.append_nil x).symm⟩⟩, k5⟩
  have k1b : X2_extend_f N 5 (nI 0) (nI (c 0)) (kyI q c []) (nI 0) (nI 0) σ = some (nI 0, σ2) := k1
  unfold X2_run_f
  simp (disch := omega) only [if_pos, if_neg, bnd_e, cal_e, chk_t, isZ_0, isZ_1, isZ_n0, isZ_n1, ald_n, ast_n, stb_n, litI, nI_add, pk_mul, pk_sub, Nat.add_sub_cancel, nar_0, nar_1, nI_leI, nI_ltI, nI_eq, Nat.not_lt_zero, Nat.le_zero_eq, Nat.zero_le, not_true_eq_false, not_false_eq_true, reduceIte, if_true, if_false, ite_self, Bool.false_eq_true, Nat.reduceEqDiff, Nat.reduceAdd, Nat.reduceMul, Nat.reduceSub, Nat.reduceLT, Nat.reduceLeDiff, Nat.reducePow, gi_si, gi_sg, gi_sa, gi_sl, ga_si, ga_sg2, ga_sa, ga_sl, gl_si, gl_sg, gl_sa, gl_sl, k1b]
