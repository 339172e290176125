/-! lay: fill, one song after a row -/
def FrM (σ σ2 : St) : Prop := (∀ j, j < 17 ∨ 21 < j → gi σ2 j = gi σ j) ∧ (∀ a, a < 24 ∨ 29 < a → ga σ2 a = ga σ a)
theorem FrM_rfl (σ : St) : FrM σ σ := ⟨fun _ _ => rfl, fun _ _ => rfl⟩
theorem FrM_tr {a b d : St} (h : FrM a b) (k : FrM b d) : FrM a d := ⟨fun j hj => (k.1 j hj).trans (h.1 j hj), fun j hj => (k.2 j hj).trans (h.2 j hj)⟩
theorem InM_fr {q : Nat → Nat → Nat} {c : Nat → Nat} {σ σ2 : St} (h : InM q c σ) (f : FrM σ σ2) : InM q c σ2 := InM_cg h (f.1 12 (by omega)) (f.2 1 (by omega)) (f.2 10 (by omega)) (f.2 11 (by omega)) (f.2 12 (by omega)) (f.2 18 (by omega)) (f.2 19 (by omega))
theorem KyM_fr {q : Nat → Nat → Nat} {c : Nat → Nat} {σ σ2 : St} (h : KyM q c σ) (f : FrM σ σ2) : KyM q c σ2 := by
  unfold KyM at *
  rw [f.1 13 (by omega), f.2 20 (by omega), f.2 21 (by omega)]
  exact h
def SoA (c : Nat → Nat) (lg : Nat → Nat → Prop) (σ : St) : Prop := ∀ s, s < c 8 → ∃ v : Nat, v ≤ 1300000 ∧ ga σ 24 s = nI v ∧ ∀ t, v ≤ t ↔ lg s t
def MdM (q : Nat → Nat → Nat) (c : Nat → Nat) (x3 : Int32) (σ : St) : Prop := ∀ s, s < c 8 → (q 5 s = 1 ↔ (x3 = -nI 1 ∨ ga σ 13 s = x3))
def Lv (q : Nat → Nat → Nat) (c : Nat → Nat) (lg : Nat → Nat → Prop) (n : Nat) (f g : Nat → Int32) (R : Nat → List Nat) (m : Nat) : Prop := ∀ i, i < m → RowAt f (4 * i) (R i) ∧ g i = nI (sm (q 0) (R i)) ∧ (R i).length = n ∧ Fs q c lg (R i)
def Dn (R : Nat → List Nat) (i x : Nat) (r : List Nat) : Prop := ∃ s j : Nat, r = s :: R j ∧ (j < i ∨ (j = i ∧ s < x))
theorem Dn_s {R : Nat → List Nat} {i x : Nat} {r : List Nat} : Dn R i (x + 1) r ↔ Dn R i x r ∨ r = x :: R i := by
  constructor
  · rintro ⟨s, j, e, z | ⟨z1, z2⟩⟩
    · exact Or.inl ⟨s, j, e, Or.inl z⟩
    · by_cases w : s = x
      · right
        rw [e, z1, w]
      · exact Or.inl ⟨s, j, e, Or.inr ⟨z1, by omega⟩⟩
  · rintro (⟨s, j, e, z | ⟨z1, z2⟩⟩ | z)
    · exact ⟨s, j, e, Or.inl z⟩
    · exact ⟨s, j, e, Or.inr ⟨z1, by omega⟩⟩
    · exact ⟨x, i, z, Or.inr ⟨rfl, by omega⟩⟩
def Mb (n m : Nat) : Prop := (n = 0 ∧ m ≤ 1) ∨ (n = 1 ∧ m ≤ 24) ∨ (n = 2 ∧ m ≤ 576) ∨ (n = 3 ∧ m ≤ 13824)
/-- what stays while a level is gone through -/
def FlS (q : Nat → Nat → Nat) (c : Nat → Nat) (lg : Nat → Nat → Prop) (x3 : Int32) (n : Nat) (R : Nat → List Nat) (m : Nat) (σ : St) : Prop := InM q c σ ∧ KyM q c σ ∧ SoA c lg σ ∧ MdM q c x3 σ ∧ c 0 ≤ 604800 ∧ c 1 ≤ 3600 ∧ c 2 ≤ 4 ∧ n + 1 ≤ c 4 ∧ gi σ 17 = nI m ∧ Mb n m ∧ Lv q c lg n (ga σ 25) (ga σ 27) R m
/-- what grows -/
def FlD (q : Nat → Nat → Nat) (c : Nat → Nat) (lg : Nat → Nat → Prop) (n : Nat) (R : Nat → List Nat) (x6 x7 : Nat) (σ : St) : Prop := ∃ (R2 : Nat → List Nat) (m2 : Nat) (b : Option (List Nat)), gi σ 18 = nI m2 ∧ m2 ≤ 24 * x6 + x7 ∧ (n + 1 = c 4 → m2 = 0) ∧ Lv q c lg (n + 1) (ga σ 26) (ga σ 28) R2 m2 ∧ (n + 1 < c 4 → ∀ r, Fs q c lg r → Dn R x6 x7 r → ∃ j, j < m2 ∧ R2 j = r) ∧ BeM q c σ b ∧ IsB q c (fun r => Ad q c lg r ∧ (r.length ≤ n ∨ Dn R x6 x7 r)) b
theorem FlS_fr {q : Nat → Nat → Nat} {c : Nat → Nat} {lg : Nat → Nat → Prop} {x3 : Int32} {n : Nat} {R : Nat → List Nat} {m : Nat} {σ σ2 : St} (h : FlS q c lg x3 n R m σ) (f : FrM σ σ2) (e17 : gi σ2 17 = gi σ 17) (e24 : ga σ2 24 = ga σ 24) (e25 : ga σ2 25 = ga σ 25) (e27 : ga σ2 27 = ga σ 27) : FlS q c lg x3 n R m σ2 := by
  obtain ⟨h1, h2, h3, h4, h5, h6, h7, h8, h9, h10, h11⟩ := h
  refine ⟨InM_fr h1 f, KyM_fr h2 f, ?_, ?_, h5, h6, h7, h8, ?_, h10, ?_⟩
  · unfold SoA at *
    rw [e24]
    exact h3
  · unfold MdM at *
    rw [f.2 13 (by omega)]
    exact h4
  · rw [e17]
    exact h9
  · rw [e25, e27]
    exact h11
theorem FlD_no {q : Nat → Nat → Nat} {c : Nat → Nat} {lg : Nat → Nat → Prop} {n : Nat} {R : Nat → List Nat} {x6 x7 : Nat} {σ : St} (h : FlD q c lg n R x6 x7 σ) (k : ¬ can q c lg (R x6) x7) : FlD q c lg n R x6 (x7 + 1) σ := by
  obtain ⟨R2, m2, b, a1, a2, a3, a4, a5, a6, a7⟩ := h
  refine ⟨R2, m2, b, a1, by omega, a3, a4, fun z r hr hd => ?_, a6, IsB_iff a7 fun r => ?_⟩
  · rcases Dn_s.mp hd with w | w
    · exact a5 z r hr w
    · rw [w] at hr
      exact absurd hr.2 k
  · constructor
    · rintro ⟨y1, y2⟩
      exact ⟨y1, y2.imp id (fun w => Dn_s.mpr (Or.inl w))⟩
    · rintro ⟨y1, y2⟩
      refine ⟨y1, ?_⟩
      rcases y2 with y2 | y2
      · exact Or.inl y2
      · rcases Dn_s.mp y2 with w | w
        · exact Or.inr w
        · have := y1.1
          rw [w] at this
          exact absurd this.2 k
theorem Fs_lt {q : Nat → Nat → Nat} {c : Nat → Nat} {lg : Nat → Nat → Prop} {r : List Nat} (h : Fs q c lg r) : ∀ x, x ∈ r → x < c 8 := fun x hx => by
  obtain ⟨_, z⟩ := Fs_mem r h hx
  exact z.1
theorem f103 (N : Nat) (hN : 10 < N) (k24 : Int32 → Int32 → Int32 → Int32 → Int32 → St → Option (Int32 × St)) (k43 : Int32 → Int32 → Int32 → Int32 → Int32 → Int32 → St → Option (Int32 × St)) (k55 : Int32 → Int32 → Int32 → Int32 → Int32 → Int32 → Int32 → St → Option (Int32 × St)) {q : Nat → Nat → Nat} {c : Nat → Nat} {lg : Nat → Nat → Prop} {x3 : Int32} {n : Nat} {R : Nat → List Nat} {m x6 x7 : Nat} {σ : St} (h : FlS q c lg x3 n R m σ) (hd : FlD q c lg n R x6 x7 σ) (h6 : x6 < m) (h7 : x7 < c 8) (m5 : q 5 x7 = 1) (hc : sm (q 0) (R x6) + q 0 x7 ≤ c 1) : ∃ σ2 : St, X7_fill_l103 N k24 k43 k55 (nI (c 0)) (nI (c 1)) x3 (nI (c 2)) (nI n) (nI x6) (nI x7) (nI (sm (q 0) (R x6) + q 0 x7)) σ = k55 (nI (c 0)) (nI (c 1)) x3 (nI (c 2)) (nI n) (nI x6) (nI (x7 + 1)) σ2 ∧ FrM σ σ2 ∧ FlS q c lg x3 n R m σ2 ∧ FlD q c lg n R x6 (x7 + 1) σ2 := by
  have hS := h
  obtain ⟨h1, h2, h3, h4, h5, hc1, hc2, hn, h17, hmb, hlv⟩ := h
  have h24 := h1.1
  have hm4 : m ≤ 13824 := by
    unfold Mb at hmb
    omega
  have hc4 : c 4 ≤ 4 := h1.2.2.2.2.2.2.2.2.2.2
  have e14 : ga σ 1 4 = nI (c 4) := h1.2.2.2.2.2.2.2.2.1
  obtain ⟨l1, l2, l3, l4⟩ := hlv x6 h6
  obtain ⟨v, v1, v2, v3⟩ := h3 x7 h7
  have hlt := Fs_lt l4
  have hsum := Fs_sum _ l4
  unfold X7_fill_l103
  by_cases z : c 0 + sm (q 0) (R x6) < v
  · refine ⟨σ, ?_, FrM_rfl σ, hS, FlD_no hd (fun y => ?_)⟩
    · unfold X7_fill_l258
      simp (disch := omega) only [if_pos, if_neg, bnd_e, cal_e, chk_t, isZ_0, isZ_1, isZ_n0, isZ_n1, ald_n, ast_n, stb_n, litI, nI_add, pk_mul, pk_sub, Nat.add_sub_cancel, nar_0, nar_1, nI_leI, nI_ltI, nI_eq, Nat.not_lt_zero, Nat.le_zero_eq, Nat.zero_le, not_true_eq_false, not_false_eq_true, reduceIte, if_true, if_false, ite_self, Bool.false_eq_true, Nat.reduceEqDiff, Nat.reduceAdd, Nat.reduceMul, Nat.reduceSub, Nat.reduceLT, Nat.reduceLeDiff, Nat.reducePow, gi_si, gi_sg, gi_sa, gi_sl, ga_si, ga_sg2, ga_sa, ga_sl, gl_si, gl_sg, gl_sa, gl_sl, l2, v2]
    · have := (v3 _).mpr y.2.2.2.1
      omega
  have hlg := (v3 (c 0 + sm (q 0) (R x6))).mp (by omega)
  have mf := m_fits N hN h1 h2 (x1 := x6) (s := x7) (by omega) h7 h5 (R x6) (by omega) l1 hlt (by omega)
  rw [l3] at mf
  by_cases y : okR q c (R x6) x7 (c 0 + sm (q 0) (R x6)) ∧ okK q c (R x6) x7
  · have f1 := mf.1 y
    have hcan : can q c lg (R x6) x7 := ⟨h7, m5, hc, hlg, y.1, y.2⟩
    obtain ⟨R2, m2, b, a1, a2, a3, a4, a5, a6, a7⟩ := hd
    obtain ⟨b2, σ2, j1, j2, j3, j4, j5⟩ := m_judge N hN h1 (x1 := x6) (s := x7) (by omega) h7 (R x6) (by omega) l1 hlt hc1 hc2 hc a7 a6
    rw [l3] at j1
    have j3b : IsB q c (fun r => Ad q c lg r ∧ (r.length ≤ n ∨ Dn R x6 (x7 + 1) r)) b2 := IsB_iff j3 fun r => by
      constructor
      · rintro (⟨y1, y2⟩ | ⟨y1, y2⟩)
        · exact ⟨y1, y2.imp id (fun w => Dn_s.mpr (Or.inl w))⟩
        · rw [y1]
          refine ⟨⟨⟨l4, hcan⟩, List.cons_ne_nil _ _, ?_, y2.1, y2.2⟩, Or.inr (Dn_s.mpr (Or.inr rfl))⟩
          show (R x6).length + 1 ≤ c 4
          omega
      · rintro ⟨y1, y2⟩
        rcases y2 with y2 | y2
        · exact Or.inl ⟨y1, Or.inl y2⟩
        · rcases Dn_s.mp y2 with w | w
          · exact Or.inl ⟨y1, Or.inr w⟩
          · refine Or.inr ⟨w, ?_⟩
            rw [← w]
            exact ⟨y1.2.2.2.1, y1.2.2.2.2⟩
    have fr2 : FrM σ σ2 := ⟨fun j hj => j4 j (by omega) (by omega) (by omega), fun a ha => j5 a (by omega)⟩
    have e14b : ga σ2 1 4 = nI (c 4) := by rw [j5 1 (by omega)]; exact e14
    by_cases w : n + 1 = c 4
    · refine ⟨σ2, ?_, fr2, FlS_fr hS fr2 (j4 17 (by omega) (by omega) (by omega)) (j5 24 (by omega)) (j5 25 (by omega)) (j5 27 (by omega)), R2, m2, b2, ?_, by omega, a3, ?_, fun y => absurd w (by omega), j2, j3b⟩
      · unfold X7_fill_l258
        simp (disch := omega) only [if_pos, if_neg, bnd_e, cal_e, chk_t, isZ_0, isZ_1, isZ_n0, isZ_n1, ald_n, ast_n, stb_n, litI, nI_add, pk_mul, pk_sub, Nat.add_sub_cancel, nar_0, nar_1, nI_leI, nI_ltI, nI_eq, Nat.not_lt_zero, Nat.le_zero_eq, Nat.zero_le, not_true_eq_false, not_false_eq_true, reduceIte, if_true, if_false, ite_self, Bool.false_eq_true, Nat.reduceEqDiff, Nat.reduceAdd, Nat.reduceMul, Nat.reduceSub, Nat.reduceLT, Nat.reduceLeDiff, Nat.reducePow, gi_si, gi_sg, gi_sa, gi_sl, ga_si, ga_sg2, ga_sa, ga_sl, gl_si, gl_sg, gl_sa, gl_sl, l2, v2, f1, j1, e14b, w]
      · rw [j4 18 (by omega) (by omega) (by omega)]
        exact a1
      · rw [j5 26 (by omega), j5 28 (by omega)]
        exact a4
    · have hm2 : m2 < 13824 := by
        unfold Mb at hmb
        omega
      obtain ⟨σ3, b1, b2a, b3, b4, b5, b6, b7, b8, b9⟩ := fapp N k24 k43 k55 (nI (c 0)) (nI (c 1)) x3 (nI (c 2)) (x8 := nI (sm (q 0) (R x6) + q 0 x7)) (len := n) (x6 := x6) (s := x7) (m := m2) (by omega) (by omega) (by omega) hm2 n 0 N σ2 (by rw [j4 18 (by omega) (by omega) (by omega)]; exact a1) (by omega) (by omega) (fun k hk => absurd hk (by omega))
      have fr3 : FrM σ2 σ3 := ⟨fun j hj => b8 j (by omega), fun a ha => b9 a (by omega) (by omega)⟩
      have fr := FrM_tr fr2 fr3
      refine ⟨σ3, ?_, fr, FlS_fr hS fr ?_ ?_ ?_ ?_, fun i => if i = m2 then x7 :: R x6 else R2 i, m2 + 1, b2, b7, by omega, fun y => absurd y w, ?_, fun y r hr hd2 => ?_, ?_, j3b⟩
      · simp (disch := omega) only [if_pos, if_neg, bnd_e, cal_e, chk_t, isZ_0, isZ_1, isZ_n0, isZ_n1, ald_n, ast_n, stb_n, litI, nI_add, pk_mul, pk_sub, Nat.add_sub_cancel, nar_0, nar_1, nI_leI, nI_ltI, nI_eq, Nat.not_lt_zero, Nat.le_zero_eq, Nat.zero_le, not_true_eq_false, not_false_eq_true, reduceIte, if_true, if_false, ite_self, Bool.false_eq_true, Nat.reduceEqDiff, Nat.reduceAdd, Nat.reduceMul, Nat.reduceSub, Nat.reduceLT, Nat.reduceLeDiff, Nat.reducePow, gi_si, gi_sg, gi_sa, gi_sl, ga_si, ga_sg2, ga_sa, ga_sl, gl_si, gl_sg, gl_sa, gl_sl, l2, v2, f1, j1, e14b]
        exact b1
      · rw [b8 17 (by omega)]
        exact j4 17 (by omega) (by omega) (by omega)
      · rw [b9 24 (by omega) (by omega)]
        exact j5 24 (by omega)
      · rw [b9 25 (by omega) (by omega)]
        exact j5 25 (by omega)
      · rw [b9 27 (by omega) (by omega)]
        exact j5 27 (by omega)
      · intro i hi
        by_cases u : i = m2
        · have ui : (if i = m2 then x7 :: R x6 else R2 i) = x7 :: R x6 := if_pos u
          simp only [ui]
          rw [u]
          refine ⟨⟨?_, ?_⟩, b5, ?_, l4, hcan⟩
          · rw [l3]
            exact b3
          · refine RowAt_cg (R x6) (fun k hk => ?_) l1
            rw [b2a k (by omega), j5 25 (by omega)]
          · show (R x6).length + 1 = n + 1
            omega
        · have ui : (if i = m2 then x7 :: R x6 else R2 i) = R2 i := if_neg u
          simp only [ui]
          obtain ⟨o1, o2, o3, o4⟩ := a4 i (by omega)
          refine ⟨RowAt_cg (R2 i) (fun k hk => ?_) o1, ?_, o3, o4⟩
          · rw [b4 (4 * i + k) (by omega), j5 26 (by omega)]
          · rw [b6 i (by omega), j5 28 (by omega)]
            exact o2
      · rcases Dn_s.mp hd2 with u | u
        · obtain ⟨j, o1, o2⟩ := a5 y r hr u
          exact ⟨j, by omega, (if_neg (show ¬ j = m2 by omega)).trans o2⟩
        · exact ⟨m2, by omega, (if_pos rfl).trans u.symm⟩
      · cases b2 with
        | none =>
          show gi σ3 19 = nI 0
          rw [b8 19 (by omega)]
          exact j2
        | some r0 =>
          obtain ⟨o1, o2, o3, o4, o5⟩ := j2
          show RowAt (ga σ3 29) 0 r0 ∧ gi σ3 19 = _ ∧ gi σ3 20 = _ ∧ gi σ3 21 = _ ∧ _
          rw [b8 19 (by omega), b8 20 (by omega), b8 21 (by omega), b9 29 (by omega) (by omega)]
          exact ⟨o1, o2, o3, o4, o5⟩
  · have f0 := mf.2 y
    refine ⟨σ, ?_, FrM_rfl σ, hS, FlD_no hd (fun u => y ⟨u.2.2.2.2.1, u.2.2.2.2.2⟩)⟩
    unfold X7_fill_l258
    simp (disch := omega) only [if_pos, if_neg, bnd_e, cal_e, chk_t, isZ_0, isZ_1, isZ_n0, isZ_n1, ald_n, ast_n, stb_n, litI, nI_add, pk_mul, pk_sub, Nat.add_sub_cancel, nar_0, nar_1, nI_leI, nI_ltI, nI_eq, Nat.not_lt_zero, Nat.le_zero_eq, Nat.zero_le, not_true_eq_false, not_false_eq_true, reduceIte, if_true, if_false, ite_self, Bool.false_eq_true, Nat.reduceEqDiff, Nat.reduceAdd, Nat.reduceMul, Nat.reduceSub, Nat.reduceLT, Nat.reduceLeDiff, Nat.reducePow, gi_si, gi_sg, gi_sa, gi_sl, ga_si, ga_sg2, ga_sa, ga_sl, gl_si, gl_sg, gl_sa, gl_sl, l2, v2, f0]
