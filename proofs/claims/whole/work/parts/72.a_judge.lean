/-! lay: the reference's judge keeps the best row -/
def BeM (q : Nat → Nat → Nat) (c : Nat → Nat) (σ : St) (b : Option (List Nat)) : Prop := match b with
  | none => gi σ 19 = nI 0
  | some r => RowAt (ga σ 29) 0 r ∧ gi σ 19 = nI r.length ∧ gi σ 20 = nI (c 1 - sm (q 0) r) ∧ gi σ 21 = nI (sm (q 3) r) ∧ 1 ≤ r.length ∧ r.length ≤ 4 ∧ (∀ x, x ∈ r → x < c 8)
theorem RowAt_cg {f g : Nat → Int32} {b d : Nat} : ∀ r : List Nat, (∀ k, k < r.length → f (b + k) = g (d + k)) → RowAt f b r → RowAt g d r
  | [], _, _ => trivial
  | s :: r, h, hr => ⟨by rw [← h r.length (Nat.lt_succ_self _)]; exact hr.1, RowAt_cg r (fun k hk => h k (Nat.lt_succ_of_lt hk)) hr.2⟩
theorem EntB_app {f : Nat → Int32} {x : Nat} (hx : x < 24) : ∀ (A : List Nat) (i : Nat), EntB f i A → f (i + A.length) = nI x → EntB f i (A ++ [x])
  | [], i, _, e => ⟨e, hx, trivial⟩
  | a :: A, i, h, e => ⟨h.1, h.2.1, EntB_app hx A (i + 1) h.2.2 (by
      rw [← e, show (a :: A).length = A.length + 1 from rfl]
      congr 1
      omega)⟩
theorem RowAt_Ent {f : Nat → Int32} {base : Nat} : ∀ r : List Nat, RowAt f base r → (∀ x, x ∈ r → x < 24) → EntB (fun k => f (base + k)) 0 r.reverse
  | [], _, _ => trivial
  | s :: r, h, hm => by
    rw [List.reverse_cons]
    refine EntB_app (hm s List.mem_cons_self) r.reverse 0 (RowAt_Ent r h.2 (fun x hx => hm x (List.mem_cons_of_mem _ hx))) ?_
    rw [List.length_reverse, Nat.zero_add]
    exact h.1
theorem EntB_cg {f g : Nat → Int32} : ∀ (A : List Nat) (i : Nat), (∀ k, i ≤ k → k < i + A.length → f k = g k) → EntB f i A → EntB g i A
  | [], _, _, _ => trivial
  | a :: A, i, h, hA => by
    have hl : (a :: A).length = A.length + 1 := rfl
    exact ⟨by rw [← h i (Nat.le_refl i) (by omega)]; exact hA.1, hA.2.1, EntB_cg A (i + 1) (fun k k1 k2 => h k (by omega) (by omega)) hA.2.2⟩
theorem sm_b {q : Nat → Nat → Nat} {c : Nat → Nat} {σ : St} (h : InM q c σ) {r : List Nat} (hm : ∀ x, x ∈ r → x < c 8) : sm (q 0) r ≤ r.length * 900 ∧ sm (q 3) r ≤ r.length * 390 ∧ sm (q 4) r ≤ r.length * 1 := by
  refine ⟨sm_le r fun x hx => ?_, sm_le r fun x hx => ?_, sm_le r fun x hx => ?_⟩
  · obtain ⟨e10, e11, e12, e18, e19, b1, b2, b3, b4, b5, b6⟩ := h.2.2.1 x (hm x hx)
    exact b2
  · obtain ⟨e10, e11, e12, e18, e19, b1, b2, b3, b4, b5, b6⟩ := h.2.2.1 x (hm x hx)
    exact b5
  · obtain ⟨e10, e11, e12, e18, e19, b1, b2, b3, b4, b5, b6⟩ := h.2.2.1 x (hm x hx)
    exact b6
/-- one row more, kept out or taken -/
theorem IsB_out {q : Nat → Nat → Nat} {c : Nat → Nat} {P : List Nat → Prop} {b : Option (List Nat)} {r : List Nat} {A : Prop} (h : IsB q c P b) (k : A → ∃ r0 : List Nat, b = some r0 ∧ (r = r0 ∨ bb q c r0 r)) : IsB q c (fun x => P x ∨ (x = r ∧ A)) b := by
  by_cases a : A
  · obtain ⟨r0, rfl, z⟩ := k a
    exact IsB_keep h (fun x hx => by rw [hx.1]; exact z)
  · exact IsB_no h (fun x hx => a hx.2)
theorem IsB_in {q : Nat → Nat → Nat} {c : Nat → Nat} {P : List Nat → Prop} {b : Option (List Nat)} {r : List Nat} {A : Prop} (h : IsB q c P b) (a : A) (k : ∀ r0 : List Nat, b = some r0 → bb q c r r0) : IsB q c (fun x => P x ∨ (x = r ∧ A)) (some r) := by
  cases b with
  | none => exact IsB_iff (IsB_one (r := r) h) (fun x => ⟨fun z => z.imp id (fun y => ⟨y, a⟩), fun z => z.imp id (fun y => y.1)⟩)
  | some r0 => exact IsB_iff (IsB_take h (k r0 rfl)) (fun x => ⟨fun z => z.imp id (fun y => ⟨y, a⟩), fun z => z.imp id (fun y => y.1)⟩)
theorem judge_take (N : Nat) (hN : 10 < N) {q : Nat → Nat → Nat} {c : Nat → Nat} {σ : St} {x1 s : Nat} (hx1 : x1 < 13824) (hs : s < c 8) (r : List Nat) (hl : r.length ≤ 3) (hr : RowAt (ga σ 25) (4 * x1) r) (hm : ∀ x, x ∈ r → x < c 8) {L W : Nat} (eL : L = c 1 - sm (q 0) (s :: r)) (eW : W = sm (q 3) (s :: r)) : ∃ σ2 : St, X7_judge_l162 N (nI x1) (nI r.length) (nI s) (nI L) (nI W) σ = some (nI 0, σ2) ∧ BeM q c σ2 (some (s :: r)) ∧ (∀ j, j ≠ 19 → j ≠ 20 → j ≠ 21 → gi σ2 j = gi σ j) ∧ (∀ a, a ≠ 29 → ga σ2 a = ga σ a) := by
  obtain ⟨σ2, a1, a2, a3, a4, a5, a6, a7, a8⟩ := judge_c N (s := s) (x7 := nI L) (x8 := nI W) hx1 hl r.length 0 N σ (by omega) (by omega) (fun k hk => absurd hk (by omega))
  refine ⟨σ2, a1, ⟨⟨?_, ?_⟩, a4, ?_, ?_, ?_, ?_, ?_⟩, a7, a8⟩
  · rw [Nat.zero_add]
    exact a3
  · exact RowAt_cg r (fun k hk => by rw [Nat.zero_add, a2 k hk]) hr
  · rw [a5, eL]
  · rw [a6, eW]
  · show 1 ≤ r.length + 1
    omega
  · show r.length + 1 ≤ 4
    omega
  · intro x hx
    rcases List.mem_cons.mp hx with z | z
    · rw [z]
      exact hs
    · exact hm x z
theorem m_judge (N : Nat) (hN : 10 < N) {q : Nat → Nat → Nat} {c : Nat → Nat} {σ : St} (h : InM q c σ) {x1 s : Nat} (hx1 : x1 < 13824) (hs : s < c 8) (r : List Nat) (hl : r.length ≤ 3) (hr : RowAt (ga σ 25) (4 * x1) r) (hm : ∀ x, x ∈ r → x < c 8) (hc1 : c 1 ≤ 3600) (hc2 : c 2 ≤ 4) (hsum : sm (q 0) r + q 0 s ≤ c 1) {P : List Nat → Prop} {b : Option (List Nat)} (hP : IsB q c P b) (hb : BeM q c σ b) : ∃ (b2 : Option (List Nat)) (σ2 : St), X7_judge_f N (nI x1) (nI r.length) (nI s) (nI (c 1)) (nI (sm (q 0) r + q 0 s)) (nI (c 2)) σ = some (nI 0, σ2) ∧ BeM q c σ2 b2 ∧ IsB q c (fun x => P x ∨ (x = s :: r ∧ (c 1 - sm (q 0) (s :: r) ≤ c 3 ∧ c 2 ≤ sm (q 4) (s :: r)))) b2 ∧ (∀ j, j ≠ 19 → j ≠ 20 → j ≠ 21 → gi σ2 j = gi σ j) ∧ (∀ a, a ≠ 29 → ga σ2 a = ga σ a) := by
  have h24 := h.1
  obtain ⟨e10, e11, e12, e18, e19, b1, b2, b3, b4, b5, b6⟩ := h.2.2.1 s hs
  obtain ⟨t0, t3, t4⟩ := sm_b h hm
  have e : r.reverse.reverse ++ [] = r := by rw [List.reverse_reverse, List.append_nil]
  have jl := judge_l N h (x6 := nI (c 2)) (x7 := nI (c 1 - (sm (q 0) r + q 0 s))) hx1 hl hs r.reverse [] N (by rw [e]) (by rw [e]; exact hr) (by rw [e]; exact hm) (by rw [List.length_reverse]; omega)
  rw [e] at jl
  have s3 : q 3 s + sm (q 3) [] = q 3 s := rfl
  have s4 : q 4 s + sm (q 4) [] = q 4 s := rfl
  rw [s3, s4] at jl
  have st : X7_judge_f N (nI x1) (nI r.length) (nI s) (nI (c 1)) (nI (sm (q 0) r + q 0 s)) (nI (c 2)) σ = X7_judge_l34 N 1 (nI x1) (nI r.length) (nI s) (nI (c 2)) (nI (c 1 - (sm (q 0) r + q 0 s))) (nI (q 3 s + sm (q 3) r)) (nI (q 4 s + sm (q 4) r)) (nI r.length) σ := by
    rw [← jl]
    unfold X7_judge_f X7_judge_l29
    rcases r01 b6 with z | z
    · rw [z] at e19 ⊢
      simp (disch := omega) only [if_pos, if_neg, bnd_e, cal_e, chk_t, isZ_0, isZ_1, isZ_n0, isZ_n1, ald_n, ast_n, stb_n, litI, nI_add, pk_mul, pk_sub, Nat.add_sub_cancel, nar_0, nar_1, nI_leI, nI_ltI, nI_eq, Nat.not_lt_zero, Nat.le_zero_eq, Nat.zero_le, not_true_eq_false, not_false_eq_true, reduceIte, if_true, if_false, ite_self, Bool.false_eq_true, Nat.reduceEqDiff, Nat.reduceAdd, Nat.reduceMul, Nat.reduceSub, Nat.reduceLT, Nat.reduceLeDiff, Nat.reducePow, gi_si, gi_sg, gi_sa, gi_sl, ga_si, ga_sg2, ga_sa, ga_sl, gl_si, gl_sg, gl_sa, gl_sl, e18, e19]
      rfl
    · rw [z] at e19 ⊢
      simp (disch := omega) only [if_pos, if_neg, bnd_e, cal_e, chk_t, isZ_0, isZ_1, isZ_n0, isZ_n1, ald_n, ast_n, stb_n, litI, nI_add, pk_mul, pk_sub, Nat.add_sub_cancel, nar_0, nar_1, nI_leI, nI_ltI, nI_eq, Nat.not_lt_zero, Nat.le_zero_eq, Nat.zero_le, not_true_eq_false, not_false_eq_true, reduceIte, if_true, if_false, ite_self, Bool.false_eq_true, Nat.reduceEqDiff, Nat.reduceAdd, Nat.reduceMul, Nat.reduceSub, Nat.reduceLT, Nat.reduceLeDiff, Nat.reducePow, gi_si, gi_sg, gi_sa, gi_sl, ga_si, ga_sg2, ga_sa, ga_sl, gl_si, gl_sg, gl_sa, gl_sl, e18, e19]
      rfl
  rw [st, X7_judge_l34.eq_def]
  have hsl : ga σ 1 3 = nI (c 3) := h.2.2.2.2.2.2.1
  have hsl2 : c 3 ≤ 900 := h.2.2.2.2.2.2.2.1
  have w0 : sm (q 0) (s :: r) = sm (q 0) r + q 0 s := rfl
  have w3 : sm (q 3) (s :: r) = sm (q 3) r + q 3 s := rfl
  have w4 : sm (q 4) (s :: r) = sm (q 4) r + q 4 s := rfl
  have tk := judge_take N hN (σ := σ) hx1 hs r hl hr hm (L := c 1 - (sm (q 0) r + q 0 s)) (W := q 3 s + sm (q 3) r) (by rw [w0]) (by rw [w3]; omega)
  obtain ⟨σ2, k1, k2, k3, k4⟩ := tk
  by_cases a1 : c 3 < c 1 - (sm (q 0) r + q 0 s)
  · refine ⟨b, σ, ?_, hb, IsB_out hP (fun z => absurd z.1 (by rw [w0]; omega)), fun _ _ _ _ => rfl, fun _ _ => rfl⟩
    simp (disch := omega) only [if_pos, if_neg, bnd_e, cal_e, chk_t, isZ_0, isZ_1, isZ_n0, isZ_n1, ald_n, ast_n, stb_n, litI, nI_add, pk_mul, pk_sub, Nat.add_sub_cancel, nar_0, nar_1, nI_leI, nI_ltI, nI_eq, Nat.not_lt_zero, Nat.le_zero_eq, Nat.zero_le, not_true_eq_false, not_false_eq_true, reduceIte, if_true, if_false, ite_self, Bool.false_eq_true, Nat.reduceEqDiff, Nat.reduceAdd, Nat.reduceMul, Nat.reduceSub, Nat.reduceLT, Nat.reduceLeDiff, Nat.reducePow, gi_si, gi_sg, gi_sa, gi_sl, ga_si, ga_sg2, ga_sa, ga_sl, gl_si, gl_sg, gl_sa, gl_sl, hsl]
  by_cases a2 : q 4 s + sm (q 4) r < c 2
  · refine ⟨b, σ, ?_, hb, IsB_out hP (fun z => absurd z.2 (by rw [w4]; omega)), fun _ _ _ _ => rfl, fun _ _ => rfl⟩
    simp (disch := omega) only [if_pos, if_neg, bnd_e, cal_e, chk_t, isZ_0, isZ_1, isZ_n0, isZ_n1, ald_n, ast_n, stb_n, litI, nI_add, pk_mul, pk_sub, Nat.add_sub_cancel, nar_0, nar_1, nI_leI, nI_ltI, nI_eq, Nat.not_lt_zero, Nat.le_zero_eq, Nat.zero_le, not_true_eq_false, not_false_eq_true, reduceIte, if_true, if_false, ite_self, Bool.false_eq_true, Nat.reduceEqDiff, Nat.reduceAdd, Nat.reduceMul, Nat.reduceSub, Nat.reduceLT, Nat.reduceLeDiff, Nat.reducePow, gi_si, gi_sg, gi_sa, gi_sl, ga_si, ga_sg2, ga_sa, ga_sl, gl_si, gl_sg, gl_sa, gl_sl, hsl]
  have ad : c 1 - sm (q 0) (s :: r) ≤ c 3 ∧ c 2 ≤ sm (q 4) (s :: r) := ⟨by rw [w0]; omega, by rw [w4]; omega⟩
  cases b with
  | none =>
    have g19 : gi σ 19 = nI 0 := hb
    refine ⟨some (s :: r), σ2, ?_, k2, IsB_in hP ad (fun r0 z => by cases z), k3, k4⟩
    simp (disch := omega) only [if_pos, if_neg, bnd_e, cal_e, chk_t, isZ_0, isZ_1, isZ_n0, isZ_n1, ald_n, ast_n, stb_n, litI, nI_add, pk_mul, pk_sub, Nat.add_sub_cancel, nar_0, nar_1, nI_leI, nI_ltI, nI_eq, Nat.not_lt_zero, Nat.le_zero_eq, Nat.zero_le, not_true_eq_false, not_false_eq_true, reduceIte, if_true, if_false, ite_self, Bool.false_eq_true, Nat.reduceEqDiff, Nat.reduceAdd, Nat.reduceMul, Nat.reduceSub, Nat.reduceLT, Nat.reduceLeDiff, Nat.reducePow, gi_si, gi_sg, gi_sa, gi_sl, ga_si, ga_sg2, ga_sa, ga_sl, gl_si, gl_sg, gl_sa, gl_sl, hsl, g19, k1]
  | some r0 =>
    obtain ⟨g1, g2, g3, g4, g5, g6, g7⟩ := hb
    obtain ⟨u0, u3, u4⟩ := sm_b h g7
    by_cases a3 : c 1 - sm (q 0) r0 < c 1 - (sm (q 0) r + q 0 s)
    · refine ⟨some r0, σ, ?_, ⟨g1, g2, g3, g4, g5, g6, g7⟩, IsB_out hP (fun _ => ⟨r0, rfl, Or.inr (Or.inl (Or.inl (by rw [w0]; exact a3)))⟩), fun _ _ _ _ => rfl, fun _ _ => rfl⟩
      simp (disch := omega) only [if_pos, if_neg, bnd_e, cal_e, chk_t, isZ_0, isZ_1, isZ_n0, isZ_n1, ald_n, ast_n, stb_n, litI, nI_add, pk_mul, pk_sub, Nat.add_sub_cancel, nar_0, nar_1, nI_leI, nI_ltI, nI_eq, Nat.not_lt_zero, Nat.le_zero_eq, Nat.zero_le, not_true_eq_false, not_false_eq_true, reduceIte, if_true, if_false, ite_self, Bool.false_eq_true, Nat.reduceEqDiff, Nat.reduceAdd, Nat.reduceMul, Nat.reduceSub, Nat.reduceLT, Nat.reduceLeDiff, Nat.reducePow, gi_si, gi_sg, gi_sa, gi_sl, ga_si, ga_sg2, ga_sa, ga_sl, gl_si, gl_sg, gl_sa, gl_sl, hsl, g2, g3]
    by_cases a4 : c 1 - (sm (q 0) r + q 0 s) < c 1 - sm (q 0) r0
    · refine ⟨some (s :: r), σ2, ?_, k2, IsB_in hP ad (fun r1 z => by
        cases z
        exact Or.inl (Or.inl (by rw [w0]; exact a4))), k3, k4⟩
      simp (disch := omega) only [if_pos, if_neg, bnd_e, cal_e, chk_t, isZ_0, isZ_1, isZ_n0, isZ_n1, ald_n, ast_n, stb_n, litI, nI_add, pk_mul, pk_sub, Nat.add_sub_cancel, nar_0, nar_1, nI_leI, nI_ltI, nI_eq, Nat.not_lt_zero, Nat.le_zero_eq, Nat.zero_le, not_true_eq_false, not_false_eq_true, reduceIte, if_true, if_false, ite_self, Bool.false_eq_true, Nat.reduceEqDiff, Nat.reduceAdd, Nat.reduceMul, Nat.reduceSub, Nat.reduceLT, Nat.reduceLeDiff, Nat.reducePow, gi_si, gi_sg, gi_sa, gi_sl, ga_si, ga_sg2, ga_sa, ga_sl, gl_si, gl_sg, gl_sa, gl_sl, hsl, g2, g3, k1]
    have a5 : c 1 - (sm (q 0) r + q 0 s) = c 1 - sm (q 0) r0 := by omega
    by_cases a6 : q 3 s + sm (q 3) r < sm (q 3) r0
    · refine ⟨some r0, σ, ?_, ⟨g1, g2, g3, g4, g5, g6, g7⟩, IsB_out hP (fun _ => ⟨r0, rfl, Or.inr (Or.inl (Or.inr ⟨by rw [w0]; omega, by rw [w3]; omega⟩))⟩), fun _ _ _ _ => rfl, fun _ _ => rfl⟩
      simp (disch := omega) only [if_pos, if_neg, bnd_e, cal_e, chk_t, isZ_0, isZ_1, isZ_n0, isZ_n1, ald_n, ast_n, stb_n, litI, nI_add, pk_mul, pk_sub, Nat.add_sub_cancel, nar_0, nar_1, nI_leI, nI_ltI, nI_eq, Nat.not_lt_zero, Nat.le_zero_eq, Nat.zero_le, not_true_eq_false, not_false_eq_true, reduceIte, if_true, if_false, ite_self, Bool.false_eq_true, Nat.reduceEqDiff, Nat.reduceAdd, Nat.reduceMul, Nat.reduceSub, Nat.reduceLT, Nat.reduceLeDiff, Nat.reducePow, gi_si, gi_sg, gi_sa, gi_sl, ga_si, ga_sg2, ga_sa, ga_sl, gl_si, gl_sg, gl_sa, gl_sl, hsl, g2, g3, g4]
    by_cases a7 : sm (q 3) r0 < q 3 s + sm (q 3) r
    · refine ⟨some (s :: r), σ2, ?_, k2, IsB_in hP ad (fun r1 z => by
        cases z
        exact Or.inl (Or.inr ⟨by rw [w0]; omega, by rw [w3]; omega⟩)), k3, k4⟩
      simp (disch := omega) only [if_pos, if_neg, bnd_e, cal_e, chk_t, isZ_0, isZ_1, isZ_n0, isZ_n1, ald_n, ast_n, stb_n, litI, nI_add, pk_mul, pk_sub, Nat.add_sub_cancel, nar_0, nar_1, nI_leI, nI_ltI, nI_eq, Nat.not_lt_zero, Nat.le_zero_eq, Nat.zero_le, not_true_eq_false, not_false_eq_true, reduceIte, if_true, if_false, ite_self, Bool.false_eq_true, Nat.reduceEqDiff, Nat.reduceAdd, Nat.reduceMul, Nat.reduceSub, Nat.reduceLT, Nat.reduceLeDiff, Nat.reducePow, gi_si, gi_sg, gi_sa, gi_sl, ga_si, ga_sg2, ga_sa, ga_sl, gl_si, gl_sg, gl_sa, gl_sl, hsl, g2, g3, g4, k1]
    have a8 : q 3 s + sm (q 3) r = sm (q 3) r0 := by omega
    have hm2 : ∀ x, x ∈ s :: r → x < c 8 := fun x hx => by
      rcases List.mem_cons.mp hx with z | z
      · rw [z]
        exact hs
      · exact hm x z
    have en : EntB (fun k => if k = r.length then nI s else ga σ 25 (4 * x1 + k)) 0 (s :: r).reverse := by
      have hra : RowAt (fun k => if k = r.length then nI s else ga σ 25 (4 * x1 + k)) 0 (s :: r) := ⟨by
        show (if 0 + r.length = r.length then nI s else _) = nI s
        rw [if_pos (Nat.zero_add _)], RowAt_cg r (fun k hk => by
        show _ = (if 0 + k = r.length then nI s else _)
        rw [if_neg (by omega), Nat.zero_add]) hr⟩
      exact EntB_cg _ _ (fun k _ _ => by rw [Nat.zero_add]) (RowAt_Ent (s :: r) hra (fun x hx => by have := hm2 x hx; omega))
    have en2 : EntB (ga σ 29) 0 r0.reverse := EntB_cg _ _ (fun k _ _ => by rw [Nat.zero_add]) (RowAt_Ent r0 g1 (fun x hx => by have := g7 x hx; omega))
    have al := ahead_l N hx1 hl g6 g2 (s :: r).reverse r0.reverse 0 N (by rw [List.length_reverse, Nat.zero_add]; rfl) (by rw [List.length_reverse, Nat.zero_add]) en en2 (by rw [List.length_reverse]; show r.length + 1 < N; omega)
    by_cases a9 : lx (s :: r).reverse r0.reverse
    · have ca : X7_comesAhead_f N (nI x1) (nI r.length) (nI s) σ = some (nI 1, σ) := al.1 a9
      refine ⟨some (s :: r), σ2, ?_, k2, IsB_in hP ad (fun r1 z => by
        cases z
        exact Or.inr ⟨by rw [w0]; omega, by rw [w3]; omega, a9⟩), k3, k4⟩
      simp (disch := omega) only [if_pos, if_neg, bnd_e, cal_e, chk_t, isZ_0, isZ_1, isZ_n0, isZ_n1, ald_n, ast_n, stb_n, litI, nI_add, pk_mul, pk_sub, Nat.add_sub_cancel, nar_0, nar_1, nI_leI, nI_ltI, nI_eq, Nat.not_lt_zero, Nat.le_zero_eq, Nat.zero_le, not_true_eq_false, not_false_eq_true, reduceIte, if_true, if_false, ite_self, Bool.false_eq_true, Nat.reduceEqDiff, Nat.reduceAdd, Nat.reduceMul, Nat.reduceSub, Nat.reduceLT, Nat.reduceLeDiff, Nat.reducePow, gi_si, gi_sg, gi_sa, gi_sl, ga_si, ga_sg2, ga_sa, ga_sl, gl_si, gl_sg, gl_sa, gl_sl, hsl, g2, g3, g4, ca, k1]
    · have ca : X7_comesAhead_f N (nI x1) (nI r.length) (nI s) σ = some (nI 0, σ) := al.2 a9
      refine ⟨some r0, σ, ?_, ⟨g1, g2, g3, g4, g5, g6, g7⟩, IsB_out hP (fun _ => ⟨r0, rfl, ?_⟩), fun _ _ _ _ => rfl, fun _ _ => rfl⟩
      · simp (disch := omega) only [if_pos, if_neg, bnd_e, cal_e, chk_t, isZ_0, isZ_1, isZ_n0, isZ_n1, ald_n, ast_n, stb_n, litI, nI_add, pk_mul, pk_sub, Nat.add_sub_cancel, nar_0, nar_1, nI_leI, nI_ltI, nI_eq, Nat.not_lt_zero, Nat.le_zero_eq, Nat.zero_le, not_true_eq_false, not_false_eq_true, reduceIte, if_true, if_false, ite_self, Bool.false_eq_true, Nat.reduceEqDiff, Nat.reduceAdd, Nat.reduceMul, Nat.reduceSub, Nat.reduceLT, Nat.reduceLeDiff, Nat.reducePow, gi_si, gi_sg, gi_sa, gi_sl, ga_si, ga_sg2, ga_sa, ga_sl, gl_si, gl_sg, gl_sa, gl_sl, hsl, g2, g3, g4, ca]
      · rcases lx_tot (s :: r).reverse r0.reverse with z | z | z
        · exact Or.inl (List.reverse_inj.mp z)
        · exact absurd z a9
        · exact Or.inr (Or.inr ⟨by rw [w0]; omega, by rw [w3]; omega, z⟩)
