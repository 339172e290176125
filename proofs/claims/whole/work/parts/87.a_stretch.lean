/-! lay: a stretch is laid alike -/
theorem sub_add_sw (a b d : Int32) : a - b + d = a + d - b := by
  rw [Int32.sub_eq_add_neg, Int32.sub_eq_add_neg, Int32.add_assoc, Int32.add_comm (-b) d, ← Int32.add_assoc]
def FA (σx σm σx2 σm2 : St) : Prop := (∀ j, j < 10 ∨ 26 < j ∨ (20 ≤ j ∧ j ≤ 24) → gi σx2 j = gi σx j) ∧ (∀ a, a < 9 ∨ (14 ≤ a ∧ a ≤ 16) ∨ a = 25 ∨ 29 < a → ga σx2 a = ga σx a) ∧ (∀ j, j < 13 → gi σm2 j = gi σm j) ∧ (∀ a, a < 15 ∨ (17 ≤ a ∧ a ≤ 19) → ga σm2 a = ga σm a)
theorem FA_rfl (σx σm : St) : FA σx σm σx σm := ⟨fun _ _ => rfl, fun _ _ => rfl, fun _ _ => rfl, fun _ _ => rfl⟩
theorem FA_tr {a b c d e f : St} (h : FA a b c d) (k : FA c d e f) : FA a b e f := ⟨fun j hj => (k.1 j hj).trans (h.1 j hj), fun j hj => (k.2.1 j hj).trans (h.2.1 j hj), fun j hj => (k.2.2.1 j hj).trans (h.2.2.1 j hj), fun j hj => (k.2.2.2 j hj).trans (h.2.2.2 j hj)⟩
theorem LR_frx {E Z H P S : Nat} {σx σm σx2 σm2 : St} (h : LR E Z H P S σx σm) (f : FrX σx σx2) (k : FrM σm σm2) (e30 : ga σm2 30 = ga σm 30) : LR E Z H P S σx2 σm2 := by
  unfold LR at *
  rw [f.1 9 (by omega), f.1 10 (by omega), f.1 11 (by omega), f.1 12 (by omega), f.1 13 (by omega), f.2 4 (by omega), f.2 5 (by omega), f.2 6 (by omega), f.2 7 (by omega), f.2 8 (by omega), f.2 9 (by omega), f.2 10 (by omega), f.2 11 (by omega), f.2 12 (by omega), f.2 13 (by omega), f.2 17 (by omega), f.2 18 (by omega), f.2 19 (by omega), f.2 20 (by omega), f.2 21 (by omega), f.2 22 (by omega), k.1 12 (by omega), k.1 13 (by omega), k.1 14 (by omega), k.1 15 (by omega), k.1 16 (by omega), k.2 10 (by omega), k.2 11 (by omega), k.2 12 (by omega), k.2 13 (by omega), k.2 15 (by omega), k.2 16 (by omega), k.2 19 (by omega), k.2 20 (by omega), k.2 21 (by omega), k.2 22 (by omega), k.2 23 (by omega), e30]
  exact h
/-- the note of a stretch -/
theorem LR_note {E E2 Z H P S : Nat} {σx σm : St} {v w : Int32} (h : LR E Z H P S σx σm) (hE : E ≤ E2) : LR E2 (Z + 1) H P S (si (si (sa σx 18 Z v) 13 (gi σx 13 + v)) 12 (gi σx 12 + w)) (si (si (sa σm 23 Z v) 16 (gi σm 16 + v)) 15 (gi σm 15 + w)) := by
  obtain ⟨hS, g1, g2, g3, g4, g5, g6, g7, g8, g9, g10, g11, g12, g13, g14, g15, g16, g17, g18, g19, g20⟩ := h
  refine ⟨hS, g1, g2, g3, g4, g5, g6, g7, g8, ?_, ?_, g11, ?_, g13, g14, g15, fun i hi => ?_, g17, fun p hp => ?_, g19, g20⟩
  · show gi σx 12 + w = gi σm 15 + w
    rw [g9]
  · show gi σx 13 + v = gi σm 16 + v
    rw [g10]
  · show upd (ga σx 18) Z v = upd (ga σm 23) Z v
    rw [g12]
  · show upd (ga σm 23) Z v i = 0
    rw [upd_e, if_neg (by omega)]
    exact g16 i (by omega)
  · obtain ⟨b1, s3, b, b2, b3, b4, b5, b6⟩ := g18 p hp
    exact ⟨b1, s3, b, b2, b3, b4, Nat.le_trans b5 hE, b6⟩
theorem x_note (N : Nat) {E T len i H R : Nat} {σ : St} (hi : i < 8) (hH : H < 168) (hR : R ≤ 4) (e14 : gi σ 14 = nI R) (e10 : gi σ 10 = nI H) (hE : E ≤ T + len) : X6_fillStretch_l57 N 1 (nI i) (nI T) (nI len) (nI E) (nI R) σ = some (nI (if R = 0 then 0 else 1), si (si (sa σ 18 (8 * H + i) (nI (T + len - E))) 13 (gi σ 13 + nI (T + len - E))) 12 (gi σ 12 + nI (if R = 0 then 1 else 0))) := by
  have eH : H * 8 = 8 * H := Nat.mul_comm H 8
  rw [X6_fillStretch_l57.eq_def]
  unfold X6_fillStretch_l152 X1_noteStretch_f X1_noteStretch_l39
  by_cases z : R = 0
  · rw [if_pos z, if_pos z]
    simp (disch := omega) only [if_pos, if_neg, bnd_e, cal_e, chk_t, isZ_0, isZ_1, isZ_n0, isZ_n1, ald_n, ast_n, stb_n, litI, nI_add, pk_mul, pk_sub, Nat.add_sub_cancel, nar_0, nar_1, nI_leI, nI_ltI, nI_eq, Nat.not_lt_zero, Nat.le_zero_eq, Nat.zero_le, not_true_eq_false, not_false_eq_true, reduceIte, if_true, if_false, ite_self, Bool.false_eq_true, Nat.reduceEqDiff, Nat.reduceAdd, Nat.reduceMul, Nat.reduceSub, Nat.reduceLT, Nat.reduceLeDiff, Nat.reducePow, gi_si, gi_sg, gi_sa, gi_sl, ga_si, ga_sg2, ga_sa, ga_sl, gl_si, gl_sg, gl_sa, gl_sl, e14, e10, z, eH]
  · rw [if_neg z, if_neg z]
    simp (disch := omega) only [if_pos, if_neg, bnd_e, cal_e, chk_t, isZ_0, isZ_1, isZ_n0, isZ_n1, ald_n, ast_n, stb_n, litI, nI_add, pk_mul, pk_sub, Nat.add_sub_cancel, nar_0, nar_1, nI_leI, nI_ltI, nI_eq, Nat.not_lt_zero, Nat.le_zero_eq, Nat.zero_le, not_true_eq_false, not_false_eq_true, reduceIte, if_true, if_false, ite_self, Bool.false_eq_true, Nat.reduceEqDiff, Nat.reduceAdd, Nat.reduceMul, Nat.reduceSub, Nat.reduceLT, Nat.reduceLeDiff, Nat.reducePow, gi_si, gi_sg, gi_sa, gi_sl, ga_si, ga_sg2, ga_sa, ga_sl, gl_si, gl_sg, gl_sa, gl_sl, e14, e10, eH]
theorem m_note (N : Nat) {E T len i ji H R : Nat} {σ : St} (hi : i < 8) (hji : ji < 56) (hH : H < 168) (hR : R ≤ 4) (e19 : gi σ 19 = nI R) (e14 : gi σ 14 = nI H) (e7 : ga σ 7 ji = nI len) (hE : E ≤ T + len) : X7_layStretch_l29 N 1 (nI ji) (nI i) (nI T) (nI E) (nI R) σ = some (nI (if R = 0 then 0 else 1), si (si (sa σ 23 (8 * H + i) (nI (T + len - E))) 16 (gi σ 16 + nI (T + len - E))) 15 (gi σ 15 + nI (if R = 0 then 1 else 0))) := by
  have ev : nI len - nI E + nI T = nI (T + len - E) := by
    rw [sub_add_sw, nI_add, Nat.add_comm len T]
    exact pk_sub hE
  have s0 : ∀ (τ : St), si τ 15 (gi τ 15 + nI 0) = τ := fun τ => by
    rw [add_n0]
    have e : upd τ.1 15 (gi τ 15) = τ.1 := by
      funext k
      rw [upd_e]
      by_cases y : k = 15
      · rw [if_pos y, y]
        rfl
      · rw [if_neg y]
    show (upd τ.1 15 (gi τ 15), τ.2) = τ
    rw [e]
  rw [X7_layStretch_l29.eq_def]
  unfold X7_layStretch_l201
  by_cases z : R = 0
  · rw [if_pos z, if_pos z]
    simp (disch := omega) only [if_pos, if_neg, bnd_e, cal_e, chk_t, isZ_0, isZ_1, isZ_n0, isZ_n1, ald_n, ast_n, stb_n, litI, nI_add, pk_mul, pk_sub, Nat.add_sub_cancel, nar_0, nar_1, nI_leI, nI_ltI, nI_eq, Nat.not_lt_zero, Nat.le_zero_eq, Nat.zero_le, not_true_eq_false, not_false_eq_true, reduceIte, if_true, if_false, ite_self, Bool.false_eq_true, Nat.reduceEqDiff, Nat.reduceAdd, Nat.reduceMul, Nat.reduceSub, Nat.reduceLT, Nat.reduceLeDiff, Nat.reducePow, gi_si, gi_sg, gi_sa, gi_sl, ga_si, ga_sg2, ga_sa, ga_sl, gl_si, gl_sg, gl_sa, gl_sl, e19, e14, e7, z, ev]
  · rw [if_neg z, if_neg z]
    have s1 := s0 (si (sa σ 23 (8 * H + i) (nI (T + len - E))) 16 (gi σ 16 + nI (T + len - E)))
    have s2 : gi (si (sa σ 23 (8 * H + i) (nI (T + len - E))) 16 (gi σ 16 + nI (T + len - E))) 15 = gi σ 15 := rfl
    rw [s2] at s1
    rw [s1]
    simp (disch := omega) only [if_pos, if_neg, bnd_e, cal_e, chk_t, isZ_0, isZ_1, isZ_n0, isZ_n1, ald_n, ast_n, stb_n, litI, nI_add, pk_mul, pk_sub, Nat.add_sub_cancel, nar_0, nar_1, nI_leI, nI_ltI, nI_eq, Nat.not_lt_zero, Nat.le_zero_eq, Nat.zero_le, not_true_eq_false, not_false_eq_true, reduceIte, if_true, if_false, ite_self, Bool.false_eq_true, Nat.reduceEqDiff, Nat.reduceAdd, Nat.reduceMul, Nat.reduceSub, Nat.reduceLT, Nat.reduceLeDiff, Nat.reducePow, gi_si, gi_sg, gi_sa, gi_sl, ga_si, ga_sg2, ga_sa, ga_sl, gl_si, gl_sg, gl_sa, gl_sl, e19, e14, e7, ev]
theorem SDt_fa {S g0 g1 st sl mo : Nat} {σx σm σx2 σm2 : St} (h : SDt S g0 g1 st sl mo σx σm) (f : FA σx σm σx2 σm2) : SDt S g0 g1 st sl mo σx2 σm2 := by
  unfold SDt at *
  rw [f.1 20 (by omega), f.1 21 (by omega), f.1 22 (by omega), f.1 23 (by omega), f.1 24 (by omega), f.2.1 25 (by omega), f.2.2.2 1 (by omega), f.2.2.2 18 (by omega)]
  exact h
/-- one stretch -/
theorem stretch_b (N : Nat) (hN : 60000 < N) {T H P S g0 g1 st sl mo len w i j : Nat} {x3 : Int32} {σx σm : St} (h : LR T (8 * H + i) H P S σx σm) (hd : SDt S g0 g1 st sl mo σx σm) (hH : H < 168) (hi : i < 8) (hj : j < 6) (hT0 : 3600 * H ≤ T) (hT : T + len ≤ 3600 * (H + 1)) (hlen : len ≤ 3600) (hw : w ≤ 4) (hP : P + 4 ≤ 300) (c0 : ga σx (30 + 4 * j + 0) i = nI len) (c1 : ga σx (30 + 4 * j + 1) i = x3) (c2 : ga σx (30 + 4 * j + 2) i = nI w) (m7 : ga σm 7 (8 * j + i) = nI len) (m8 : ga σm 8 (8 * j + i) = x3) (m9 : ga σm 9 (8 * j + i) = nI w) : ∃ (f P2 : Nat) (σx2 σm2 : St), f ≤ 1 ∧ X6_fillStretch_f N j (nI i) (nI T) σx = some (nI f, σx2) ∧ X7_layStretch_f N (nI (8 * j + i)) (nI i) (nI T) σm = some (nI f, σm2) ∧ LR (T + len) (8 * H + (i + 1)) H P2 S σx2 σm2 ∧ P2 ≤ P + 4 ∧ FA σx σm σx2 σm2 := by
  obtain ⟨q, c, b, σa, σx1, σm1, ky, a1, a2, a3, a4, a5, a6, a7, a8, a9, a10, a11, a12⟩ := both_b N hN x3 h hd (by omega) hlen hw
  have h1 := LR_frx h a11 a12 (a12.2 30 (by omega))
  have sx : X6_fillStretch_f N j (nI i) (nI T) σx = X6_fillStretch_l57 N N (nI i) (nI T) (nI len) (nI T) (nI 0) σx1 := by
    unfold X6_fillStretch_f
    simp (disch := omega) only [if_pos, if_neg, bnd_e, cal_e, chk_t, isZ_0, isZ_1, isZ_n0, isZ_n1, ald_n, ast_n, stb_n, litI, nI_add, pk_mul, pk_sub, Nat.add_sub_cancel, nar_0, nar_1, nI_leI, nI_ltI, nI_eq, Nat.not_lt_zero, Nat.le_zero_eq, Nat.zero_le, not_true_eq_false, not_false_eq_true, reduceIte, if_true, if_false, ite_self, Bool.false_eq_true, Nat.reduceEqDiff, Nat.reduceAdd, Nat.reduceMul, Nat.reduceSub, Nat.reduceLT, Nat.reduceLeDiff, Nat.reducePow, gi_si, gi_sg, gi_sa, gi_sl, ga_si, ga_sg2, ga_sa, ga_sl, gl_si, gl_sg, gl_sa, gl_sl, c0, c1, c2, a1, a2, a3]
  have sm1 : X7_layStretch_f N (nI (8 * j + i)) (nI i) (nI T) σm = X7_layStretch_l29 N N (nI (8 * j + i)) (nI i) (nI T) (nI T) (nI 0) σm1 := by
    unfold X7_layStretch_f
    simp (disch := omega) only [if_pos, if_neg, bnd_e, cal_e, chk_t, isZ_0, isZ_1, isZ_n0, isZ_n1, ald_n, ast_n, stb_n, litI, nI_add, pk_mul, pk_sub, Nat.add_sub_cancel, nar_0, nar_1, nI_leI, nI_ltI, nI_eq, Nat.not_lt_zero, Nat.le_zero_eq, Nat.zero_le, not_true_eq_false, not_false_eq_true, reduceIte, if_true, if_false, ite_self, Bool.false_eq_true, Nat.reduceEqDiff, Nat.reduceAdd, Nat.reduceMul, Nat.reduceSub, Nat.reduceLT, Nat.reduceLeDiff, Nat.reducePow, gi_si, gi_sg, gi_sa, gi_sl, ga_si, ga_sg2, ga_sa, ga_sl, gl_si, gl_sg, gl_sa, gl_sl, m7, m8, m9, a4]
  have row : ∃ F : List Nat, F.length ≤ 4 ∧ sm (q 0) F ≤ len ∧ (∀ x, x ∈ F → x < S) ∧ EntB (ga σx1 23) 0 F ∧ EntB (ga σm1 29) 0 F ∧ gi σx1 14 = nI F.length ∧ gi σm1 19 = nI F.length := by
    cases b with
    | none => exact ⟨[], Nat.zero_le _, Nat.zero_le _, fun x hx => absurd hx List.not_mem_nil, trivial, trivial, a5.1, a6⟩
    | some r =>
      obtain ⟨e1, e2, e3, e4, e5, e6, e7, e8⟩ := a5
      obtain ⟨f1, f2, f3, f4, f5, f6, f7⟩ := a6
      have g24 : S ≤ 24 := h.2.1
      have hm : ∀ x, x ∈ r → x < 24 := fun x hx => by
        have := e7 x hx
        omega
      refine ⟨r.reverse, by rw [List.length_reverse]; exact e6, by rw [sm_rev]; exact (a10 r rfl).1, fun x hx => ?_, ?_, ?_, by rw [List.length_reverse]; exact e2, by rw [List.length_reverse]; exact f2⟩
      · have := e7 x (List.mem_reverse.mp hx)
        omega
      · exact EntB_cg _ _ (fun k _ _ => by rw [Nat.zero_add]) (RowAt_Ent r e1 hm)
      · exact EntB_cg _ _ (fun k _ _ => by rw [Nat.zero_add]) (RowAt_Ent r f1 hm)
  obtain ⟨F, r1, r2, r3, r4, r5, r6, r7⟩ := row
  obtain ⟨σx2, σm2, p1, p2, p3, p4⟩ := play_l N (dd := q 0) (x1 := nI (8 * j + i)) (x2 := nI T) (x3 := nI T) (x5 := nI len) (vi := nI i) r1 F 0 T P N N σx1 σm1 h1 (by
    rw [a12.2 10 (by omega)]
    exact a9) r4 r5 r3 (by omega) r6 r7 (by omega) hT0 (by omega) (by omega) (by omega)
  have e10 : gi σx2 10 = nI H := by
    rw [p4.1 10 (by omega)]
    exact h1.2.2.2.2.2.1
  have e14 : gi σm2 14 = nI H := by
    rw [p4.2.2.1 14 (by omega)]
    exact h1.2.2.2.2.2.2.1
  have n1 := x_note N (E := T + sm (q 0) F) (T := T) (len := len) hi hH r1 (by rw [p4.1 14 (by omega)]; exact r6) e10 (by omega)
  have n2 := m_note N (E := T + sm (q 0) F) (T := T) (len := len) (ji := 8 * j + i) hi (by omega) hH r1 (by rw [p4.2.2.1 19 (by omega)]; exact r7) e14 (by rw [p4.2.2.2 7 (by omega), a12.2 7 (by omega)]; exact m7) (by omega)
  refine ⟨if F.length = 0 then 0 else 1, P + F.length, _, _, ?_, sx.trans (p1.trans n1), sm1.trans (p2.trans n2), LR_note p3 (by omega), by omega, fun k hk => ?_, fun a ha => ?_, fun k hk => ?_, fun a ha => ?_⟩
  · by_cases z : F.length = 0
    · rw [if_pos z]
      omega
    · rw [if_neg z]
      omega
  · rw [gi_si, if_neg (by omega), gi_si, if_neg (by omega), gi_sa, p4.1 k (by omega)]
    exact a11.1 k (by omega)
  · rw [ga_si, ga_si, ga_sa_n (by omega), p4.2.1 a (by omega)]
    exact a11.2 a (by omega)
  · rw [gi_si, if_neg (by omega), gi_si, if_neg (by omega), gi_sa, p4.2.2.1 k (by omega)]
    exact a12.1 k (by omega)
  · rw [ga_si, ga_si, ga_sa_n (by omega), p4.2.2.2 a (by omega)]
    exact a12.2 a (by omega)
