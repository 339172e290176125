/-! lay: the class is aimed; the log against the free seconds -/
def FrX (σ σ2 : St) : Prop := (∀ j, j < 14 ∨ 26 < j ∨ (20 ≤ j ∧ j ≤ 24) → gi σ2 j = gi σ j) ∧ (∀ a, a < 23 ∨ a = 25 ∨ 29 < a → ga σ2 a = ga σ a)
theorem x_aim (N : Nat) (hN : 60000 < N) {q : Nat → Nat → Nat} {c U W : Nat → Nat} {lg : Nat → Nat → Prop} {x2 : Int32} {σ : St} (h : InX q c (si (si σ 25 (nI (c 0 + c 1))) 26 (nI (c 2)))) (e23 : gi σ 23 = nI (c 3)) (hB : ∀ s, s < c 8 → Began U (c 5) s (ga σ 12 s)) (hA : ∀ a, a < 12 → Began W (c 6) a (ga σ 13 a)) (hmd : ∀ s, s < c 8 → (q 5 s = 1 ↔ (x2 = -nI 1 ∨ ga σ 7 s = x2))) (hfr : Fre q c lg U W []) : ∃ (σ2 : St) (m : Nat) (p e : Nat → Nat), X2_aim_f N (nI (c 0)) (nI (c 1)) x2 (nI (c 2)) σ = some (nI 0, σ2) ∧ InX q c σ2 ∧ Po q c lg m p e σ2 ∧ UWx c U W σ2 ∧ BeX q c σ2 none ∧ FrX σ σ2 := by
  obtain ⟨h24, e9, h3, e20, e21, -, -, -, -, c5, c6, -⟩ := id h
  obtain ⟨σ1, a1, a2, a3, a4⟩ := aim_s N (c := c) (U := U) (x4 := x2) h24 c5 (c 8) 0 N (si (si (si (si (si σ 25 (nI (c 0 + c 1))) 26 (nI (c 2))) 14 (nI 0)) 15 (nI (c 3))) 16 (-nI 1)) e9 e20 hB (fun s hs => absurd hs (by omega)) (by omega) (by omega)
  obtain ⟨σ2, b1, b2, b3, b4⟩ := aim_a N (c := c) (W := W) (x4 := x2) c6 12 0 N σ1 ((a3 21).trans e21) (by
    rw [a4 13 (by omega)]
    exact hA) (fun s hs => absurd hs (by omega)) (by omega) (by omega)
  have gj : ∀ j, gi σ2 j = gi (si (si (si (si (si σ 25 (nI (c 0 + c 1))) 26 (nI (c 2))) 14 (nI 0)) 15 (nI (c 3))) 16 (-nI 1)) j := fun j => (b3 j).trans (a3 j)
  have gaa : ∀ a, a ≠ 26 → a ≠ 27 → ga σ2 a = ga σ a := fun a h1 h2 => by
    rw [b4 a h2, a4 a h1]
    rfl
  have h2 : InX q c σ2 := by
    unfold InX at *
    rw [gj 9, gj 20, gj 21, gj 22, gj 24, gj 25, gj 26, gaa 4 (by omega) (by omega), gaa 5 (by omega) (by omega), gaa 6 (by omega) (by omega), gaa 25 (by omega) (by omega), gaa 8 (by omega) (by omega)]
    exact h
  have hu : UWx c U W σ2 := by
    refine ⟨fun s hs => ⟨?_, ?_⟩, fun a ha => ⟨b2 a ha, ?_⟩⟩
    · rw [b4 26 (by omega)]
      exact a2 s hs
    · rcases hB s hs with ⟨-, z⟩ | ⟨b, z1, -, z3⟩ <;> omega
    · rcases hA a ha with ⟨-, z⟩ | ⟨b, z1, -, z3⟩ <;> omega
  obtain ⟨σ3, m, p, e, d1, d2, d3⟩ := x_gather N hN (lg := lg) (x2 := x2) h2 hu (by
    rw [gaa 7 (by omega) (by omega)]
    exact hmd) hfr
  refine ⟨σ3, m, p, e, ?_, InX_fg h2 d3, d2, UWx_fg hu d3, ⟨?_, ?_, ?_⟩, fun j hj => ?_, fun a ha => ?_⟩
  · unfold X2_aim_f
    have hc : c 0 ≤ 604800 ∧ c 1 ≤ 3600 := ⟨h.2.2.2.2.2.2.2.2.2.2.2.2.2.2.1, h.2.2.2.2.2.2.2.2.2.2.2.2.2.2.2.1⟩
    simp (disch := omega) only [if_pos, if_neg, bnd_e, cal_e, chk_t, isZ_0, isZ_1, isZ_n0, isZ_n1, ald_n, ast_n, stb_n, litI, nI_add, pk_mul, pk_sub, Nat.add_sub_cancel, nar_0, nar_1, nI_leI, nI_ltI, nI_eq, Nat.not_lt_zero, Nat.le_zero_eq, Nat.zero_le, not_true_eq_false, not_false_eq_true, reduceIte, if_true, if_false, ite_self, Bool.false_eq_true, Nat.reduceEqDiff, Nat.reduceAdd, Nat.reduceMul, Nat.reduceSub, Nat.reduceLT, Nat.reduceLeDiff, Nat.reducePow, gi_si, gi_sg, gi_sa, gi_sl, ga_si, ga_sg2, ga_sa, ga_sl, gl_si, gl_sg, gl_sa, gl_sl, e23]
    rw [a1, b1, d1]
    rfl
  · rw [d3.1 14 (by omega) (by omega) (by omega), gj 14]
    rfl
  · rw [d3.1 15 (by omega) (by omega) (by omega), gj 15]
    rfl
  · rw [d3.1 16 (by omega) (by omega) (by omega), gj 16]
    rfl
  · rw [d3.1 j (by omega) (by omega) (by omega), gj j, gi_si, if_neg (by omega), gi_si, if_neg (by omega), gi_si, if_neg (by omega), gi_si, if_neg (by omega), gi_si, if_neg (by omega)]
  · rw [d3.2 a (by omega) (by omega), gaa a (by omega) (by omega)]
/-- last begins -/
theorem lastB_sp {f g : Nat → Int32} {ps pb : Nat → Nat} {s : Nat} (hs : s < 24) : ∀ P : Nat, (∀ p, p < P → f p = nI (ps p) ∧ g p = nI (pb p) ∧ ps p < 24) → (lastB f g (nI s) P = -nI 1 ∧ ∀ p, p < P → ps p ≠ s) ∨ (∃ p0, p0 < P ∧ ps p0 = s ∧ lastB f g (nI s) P = nI (pb p0) ∧ ∀ p, p < P → ps p = s → p ≤ p0)
  | 0, _ => Or.inl ⟨rfl, fun p hp => absurd hp (by omega)⟩
  | P + 1, h => by
    have ih := lastB_sp (f := f) (g := g) (pb := pb) hs P (fun p hp => h p (by omega))
    obtain ⟨h1, h2, h3⟩ := h P (by omega)
    rw [lastB_s]
    by_cases z : ps P = s
    · rw [if_pos (by rw [h1, z])]
      exact Or.inr ⟨P, by omega, z, h2, fun p hp _ => by omega⟩
    · have z2 : ¬ f P = nI s := fun y => z ((nI_eq (by omega) (by omega)).mp (h1.symm.trans y))
      rw [if_neg z2]
      rcases ih with ⟨a1, a2⟩ | ⟨p0, a1, a2, a3, a4⟩
      · refine Or.inl ⟨a1, fun p hp => ?_⟩
        by_cases w : p = P
        · rw [w]
          exact z
        · exact a2 p (by omega)
      · refine Or.inr ⟨p0, by omega, a2, a3, fun p hp hps => ?_⟩
        by_cases w : p = P
        · rw [w] at hps
          exact absurd hps z
        · exact a4 p (by omega) hps
theorem lastA_sp {f g r : Nat → Int32} {ps pb ar : Nat → Nat} {s : Nat} (hs : s < 12) : ∀ P : Nat, (∀ p, p < P → f p = nI (ps p) ∧ g p = nI (pb p) ∧ ps p < 24 ∧ r (ps p) = nI (ar (ps p)) ∧ ar (ps p) < 12) → (lastA f g r (nI s) P = -nI 1 ∧ ∀ p, p < P → ar (ps p) ≠ s) ∨ (∃ p0, p0 < P ∧ ar (ps p0) = s ∧ lastA f g r (nI s) P = nI (pb p0) ∧ ∀ p, p < P → ar (ps p) = s → p ≤ p0)
  | 0, _ => Or.inl ⟨rfl, fun p hp => absurd hp (by omega)⟩
  | P + 1, h => by
    have ih := lastA_sp (f := f) (g := g) (r := r) (pb := pb) (ar := ar) hs P (fun p hp => h p (by omega))
    obtain ⟨h1, h2, h3, h4, h5⟩ := h P (by omega)
    rw [lastA_s, h1, nI_clamp (by omega), h4]
    by_cases z : ar (ps P) = s
    · rw [if_pos (by rw [z])]
      exact Or.inr ⟨P, by omega, z, h2, fun p hp _ => by omega⟩
    · have z2 : ¬ nI (ar (ps P)) = nI s := fun y => z ((nI_eq (by omega) (by omega)).mp y)
      rw [if_neg z2]
      rcases ih with ⟨a1, a2⟩ | ⟨p0, a1, a2, a3, a4⟩
      · refine Or.inl ⟨a1, fun p hp => ?_⟩
        by_cases w : p = P
        · rw [w]
          exact z
        · exact a2 p (by omega)
      · refine Or.inr ⟨p0, by omega, a2, a3, fun p hp hps => ?_⟩
        by_cases w : p = P
        · rw [w] at hps
          exact absurd hps z
        · exact a4 p (by omega) hps
/-- a begin as a free second -/
def fr1 (x : Int32) (g : Nat) : Nat := if x = -nI 1 then 0 else x.toNatClampNeg + g
theorem lgFre {q : Nat → Nat → Nat} {c ps pb : Nat → Nat} {P : Nat} {f g r : Nat → Int32} (h8 : c 8 ≤ 24) (hp : ∀ p, p < P → f p = nI (ps p) ∧ g p = nI (pb p) ∧ ps p < c 8 ∧ pb p ≤ c 0) (hq : ∀ s, s < c 8 → r s = nI (q 1 s) ∧ q 1 s ≤ 11) (hmo : ∀ a b, a ≤ b → b < P → pb a ≤ pb b) (h0 : c 0 ≤ 604800) : (∀ s, s < c 8 → Began (fun s => fr1 (lastB f g (nI s) P) (c 5)) (c 5) s (lastB f g (nI s) P)) ∧ (∀ a, a < 12 → Began (fun a => fr1 (lastA f g r (nI a) P) (c 6)) (c 6) a (lastA f g r (nI a) P)) ∧ Fre q c (lgP q c ps pb P) (fun s => fr1 (lastB f g (nI s) P) (c 5)) (fun a => fr1 (lastA f g r (nI a) P) (c 6)) [] := by
  have hB := fun (s : Nat) (hs : s < c 8) => lastB_sp (f := f) (g := g) (ps := ps) (pb := pb) (s := s) (by omega) P (fun p hpp => ⟨(hp p hpp).1, (hp p hpp).2.1, by have := (hp p hpp).2.2.1; omega⟩)
  have hA := fun (s : Nat) (hs : s < 12) => lastA_sp (f := f) (g := g) (r := r) (ps := ps) (pb := pb) (ar := q 1) (s := s) hs P (fun p hpp => ⟨(hp p hpp).1, (hp p hpp).2.1, by have := (hp p hpp).2.2.1; omega, (hq _ (hp p hpp).2.2.1).1, by have := (hq _ (hp p hpp).2.2.1).2; omega⟩)
  have e1 : ∀ g : Nat, fr1 (-nI 1) g = 0 := fun g => if_pos rfl
  have e2 : ∀ b g : Nat, b ≤ 604800 → fr1 (nI b) g = b + g := fun b g hb => by
    unfold fr1
    rw [if_neg (fun z => (nI_nm1 (show b < 2 ^ 31 by omega)).mp z), nI_clamp (by omega)]
  refine ⟨fun s hs => ?_, fun a ha => ?_, fun s hs t ht => ?_⟩
  · rcases hB s hs with ⟨a1, -⟩ | ⟨p0, a1, -, a3, -⟩
    · exact Or.inl ⟨a1, by show fr1 (lastB f g (nI s) P) (c 5) = 0; rw [a1, e1]⟩
    · have := (hp p0 a1).2.2.2
      exact Or.inr ⟨pb p0, by omega, a3, by show fr1 (lastB f g (nI s) P) (c 5) = _; rw [a3, e2 _ _ (by omega)]⟩
  · rcases hA a ha with ⟨a1, -⟩ | ⟨p0, a1, -, a3, -⟩
    · exact Or.inl ⟨a1, by show fr1 (lastA f g r (nI a) P) (c 6) = 0; rw [a1, e1]⟩
    · have := (hp p0 a1).2.2.2
      exact Or.inr ⟨pb p0, by omega, a3, by show fr1 (lastA f g r (nI a) P) (c 6) = _; rw [a3, e2 _ _ (by omega)]⟩
  · have ht2 : c 0 ≤ t := by
      have : c 0 + 0 ≤ t := ht
      omega
    show (fr1 (lastB f g (nI s) P) (c 5) ≤ t ∧ fr1 (lastA f g r (nI (q 1 s)) P) (c 6) ≤ t) ↔ (lgP q c ps pb P s t ∧ True)
    have hq1 := (hq s hs).2
    constructor
    · rintro ⟨z1, z2⟩
      refine ⟨fun p hpp => ?_, trivial⟩
      have hpb := (hp p hpp).2.2.2
      have k1 : ps p = s → pb p + c 5 ≤ t := fun y => by
        rcases hB s hs with ⟨a1, a2⟩ | ⟨p0, a1, a2, a3, a4⟩
        · exact absurd y (a2 p hpp)
        · have := (hp p0 a1).2.2.2
          rw [a3, e2 _ _ (by omega)] at z1
          have := hmo p p0 (a4 p hpp y) a1
          omega
      have k2 : q 1 (ps p) = q 1 s → pb p + c 6 ≤ t := fun y => by
        rcases hA (q 1 s) (by omega) with ⟨a1, a2⟩ | ⟨p0, a1, a2, a3, a4⟩
        · exact absurd y (a2 p hpp)
        · have := (hp p0 a1).2.2.2
          rw [a3, e2 _ _ (by omega)] at z2
          have := hmo p p0 (a4 p hpp y) a1
          omega
      unfold rs
      by_cases y1 : ps p = s
      · have := k1 y1
        rw [if_pos y1]
        by_cases y2 : q 1 (ps p) = q 1 s
        · have := k2 y2
          rw [if_pos y2]
          omega
        · rw [if_neg y2]
          omega
      · rw [if_neg y1]
        by_cases y2 : q 1 (ps p) = q 1 s
        · have := k2 y2
          rw [if_pos y2]
          omega
        · rw [if_neg y2]
          omega
    · rintro ⟨z, -⟩
      refine ⟨?_, ?_⟩
      · rcases hB s hs with ⟨a1, a2⟩ | ⟨p0, a1, a2, a3, a4⟩
        · rw [a1, e1]
          omega
        · have hb0 := (hp p0 a1).2.2.2
          rw [a3, e2 _ _ (by omega)]
          have := z p0 a1
          unfold rs at this
          rw [if_pos a2] at this
          omega
      · rcases hA (q 1 s) (by omega) with ⟨a1, a2⟩ | ⟨p0, a1, a2, a3, a4⟩
        · rw [a1, e1]
          omega
        · have hb0 := (hp p0 a1).2.2.2
          rw [a3, e2 _ _ (by omega)]
          have := z p0 a1
          unfold rs at this
          rw [if_pos a2] at this
          omega
