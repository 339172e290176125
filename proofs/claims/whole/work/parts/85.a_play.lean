/-! lay: a play comes into the log -/
def RL1 (E Z H P S : Nat) (x10 x11 x12 x13 m14 m13 m15 m16 : Int32) (l17 l18 l19 l20 l21 l22 r30 r23 r20 r21 r22 : Nat → Int32) (x9 : Int32) (t10 t11 p11 p12 p13 : Nat → Int32) : Prop := S ≤ 24 ∧ x9 = nI S ∧ H ≤ 168 ∧ P ≤ 300 ∧ x10 = nI H ∧ m14 = nI H ∧ x11 = nI P ∧ m13 = nI P ∧ x12 = m15 ∧ x13 = m16 ∧ l17 = r30 ∧ l18 = r23 ∧ l19 = r20 ∧ l20 = r21 ∧ l22 = r22 ∧ (∀ i, Z ≤ i → r23 i = 0) ∧ (∀ h, h < H → rg 0 8 (r30 h)) ∧ (∀ p, p < P → l21 p = r21 p / 3600 ∧ (∃ s b : Nat, s < S ∧ r20 p = nI s ∧ r21 p = nI b ∧ b + (t10 s).toNatClampNeg ≤ E ∧ (∀ q, p < q → q < P → b + (t10 s).toNatClampNeg ≤ (r21 q).toNatClampNeg))) ∧ (∀ s, s < 24 → p11 s = nI (cntB r20 (nI s) P) ∧ p12 s = lastB r20 r21 (nI s) P) ∧ (∀ a, a < 12 → p13 a = lastA r20 r21 t11 (nI a) P)
theorem cntB_cg {f g : Nat → Int32} {s : Int32} : ∀ P : Nat, (∀ p, p < P → f p = g p) → cntB f s P = cntB g s P
  | 0, _ => rfl
  | P + 1, h => by rw [cntB_s, cntB_s, cntB_cg P (fun p hp => h p (by omega)), h P (by omega)]
theorem lastB_cg {f g f2 g2 : Nat → Int32} {s : Int32} : ∀ P : Nat, (∀ p, p < P → f p = g p ∧ f2 p = g2 p) → lastB f f2 s P = lastB g g2 s P
  | 0, _ => rfl
  | P + 1, h => by rw [lastB_s, lastB_s, lastB_cg P (fun p hp => h p (by omega)), (h P (by omega)).1, (h P (by omega)).2]
theorem lastA_cg {f g f2 g2 r : Nat → Int32} {s : Int32} : ∀ P : Nat, (∀ p, p < P → f p = g p ∧ f2 p = g2 p) → lastA f f2 r s P = lastA g g2 r s P
  | 0, _ => rfl
  | P + 1, h => by rw [lastA_s, lastA_s, lastA_cg P (fun p hp => h p (by omega)), (h P (by omega)).1, (h P (by omega)).2]
theorem RL1_play {E Z H P S s d a : Nat} {x10 x11 x12 x13 m14 m13 m15 m16 : Int32} {l17 l18 l19 l20 l21 l22 r30 r23 r20 r21 r22 : Nat → Int32} {x9 v : Int32} {t10 t11 p11 p12 p13 : Nat → Int32} (h : RL1 E Z H P S x10 x11 x12 x13 m14 m13 m15 m16 l17 l18 l19 l20 l21 l22 r30 r23 r20 r21 r22 x9 t10 t11 p11 p12 p13) (hs : s < S) (hP : P < 300) (h1 : 3600 * H ≤ E) (h2 : E < 3600 * (H + 1)) (hd : t10 s = nI d) (hd9 : d ≤ 900) (ha : t11 s = nI a) (ha9 : a ≤ 11) : RL1 (E + d) Z H (P + 1) S x10 (nI (P + 1)) x12 x13 m14 (nI (P + 1)) m15 m16 l17 l18 (upd l19 P (nI s)) (upd l20 P (nI E)) (upd l21 P (nI H)) (upd l22 P v) r30 r23 (upd r20 P (nI s)) (upd r21 P (nI E)) (upd r22 P v) x9 t10 t11 (upd p11 s (p11 s + nI 1)) (upd p12 s (nI E)) (upd p13 a (nI E)) := by
  obtain ⟨g1, g2, g3, g4, g5, g6, g7, g8, g9, g10, g11, g12, g13, g14, g15, g16, g17, g18, g19, g20⟩ := h
  have ne : ∀ {f : Nat → Int32} {x : Int32} (p : Nat), p < P → upd f P x p = f p := fun p hp => by rw [upd_e, if_neg (by omega)]
  have eq : ∀ {f : Nat → Int32} {x : Int32} {k : Nat}, upd f k x k = x := fun {f x k} => by rw [upd_e, if_pos rfl]
  refine ⟨g1, g2, g3, by omega, g5, g6, rfl, rfl, g9, g10, g11, g12, by rw [g13], by rw [g14], by rw [g15], g16, g17, fun p hp => ?_, fun s2 hs2 => ?_, fun a2 ha2 => ?_⟩
  · by_cases z : p = P
    · subst z
      rw [eq, eq, eq]
      refine ⟨?_, s, E, hs, rfl, rfl, ?_, fun q q1 q2 => absurd q1 (by omega)⟩
      · have := pk_div (a := E) (d := 3600) (by omega) (by omega) (by omega)
        rw [show (3600 : Int32) = nI 3600 from rfl, this]
        congr 1
        omega
      · rw [hd, nI_clamp (by omega)]
        exact Nat.le_refl _
    · have hp2 : p < P := by omega
      obtain ⟨b1, s3, b, b2, b3, b4, b5, b6⟩ := g18 p hp2
      rw [ne p hp2, ne p hp2, ne p hp2]
      refine ⟨b1, s3, b, b2, b3, b4, by omega, fun q q1 q2 => ?_⟩
      by_cases w : q = P
      · rw [w, eq, nI_clamp (by omega)]
        exact b5
      · rw [ne q (by omega)]
        exact b6 q q1 (by omega)
  · obtain ⟨c1, c2⟩ := g19 s2 hs2
    rw [cntB_s, lastB_s, cntB_cg (f := upd r20 P (nI s)) (g := r20) P (fun p hp => ne p hp), lastB_cg (f := upd r20 P (nI s)) (g := r20) (f2 := upd r21 P (nI E)) (g2 := r21) P (fun p hp => ⟨ne p hp, ne p hp⟩), eq, eq, upd_e, upd_e]
    by_cases z : s2 = s
    · subst z
      rw [if_pos rfl, if_pos rfl, if_pos rfl, if_pos rfl, c1, nI_add]
      exact ⟨rfl, rfl⟩
    · have z2 : ¬ nI s = nI s2 := fun y => z ((nI_eq (by omega) (by omega)).mp y).symm
      rw [if_neg z, if_neg z, if_neg z2, if_neg z2]
      exact ⟨c1, c2⟩
  · rw [lastA_s, lastA_cg (f := upd r20 P (nI s)) (g := r20) (f2 := upd r21 P (nI E)) (g2 := r21) P (fun p hp => ⟨ne p hp, ne p hp⟩), eq, eq, upd_e, nI_clamp (by omega), ha]
    by_cases z : a2 = a
    · rw [if_pos z, if_pos (by rw [z])]
    · have z2 : ¬ nI a = nI a2 := fun y => z ((nI_eq (by omega) (by omega)).mp y).symm
      rw [if_neg z, if_neg z2]
      exact g20 a2 ha2
/-- the songs and the log, in the middle of an hour -/
def LR (E Z H P S : Nat) (σx σm : St) : Prop := RS (gi σx 9) (gi σm 12) (ga σx 4) (ga σx 5) (ga σx 6) (ga σx 7) (ga σx 8) (ga σx 9) (ga σx 10) (ga σm 10) (ga σm 11) (ga σm 12) (ga σm 13) (ga σm 19) (ga σm 15) (ga σm 16) ∧ RL1 E Z H P S (gi σx 10) (gi σx 11) (gi σx 12) (gi σx 13) (gi σm 14) (gi σm 13) (gi σm 15) (gi σm 16) (ga σx 17) (ga σx 18) (ga σx 19) (ga σx 20) (ga σx 21) (ga σx 22) (ga σm 30) (ga σm 23) (ga σm 20) (ga σm 21) (ga σm 22) (gi σx 9) (ga σm 10) (ga σm 11) (ga σx 11) (ga σx 12) (ga σx 13)
def FP (σx σm σx2 σm2 : St) : Prop := (∀ j, j ≠ 11 → gi σx2 j = gi σx j) ∧ (∀ a, (a < 9 ∨ (13 < a ∧ a < 19) ∨ 22 < a) → ga σx2 a = ga σx a) ∧ (∀ j, j ≠ 13 → gi σm2 j = gi σm j) ∧ (∀ a, (a < 15 ∨ (16 < a ∧ a < 20) ∨ 22 < a) → ga σm2 a = ga σm a)
theorem FP_rfl (σx σm : St) : FP σx σm σx σm := ⟨fun _ _ => rfl, fun _ _ => rfl, fun _ _ => rfl, fun _ _ => rfl⟩
theorem FP_tr {a b c d e f : St} (h : FP a b c d) (k : FP c d e f) : FP a b e f := ⟨fun j hj => (k.1 j hj).trans (h.1 j hj), fun j hj => (k.2.1 j hj).trans (h.2.1 j hj), fun j hj => (k.2.2.1 j hj).trans (h.2.2.1 j hj), fun j hj => (k.2.2.2 j hj).trans (h.2.2.2 j hj)⟩
theorem ga_sa_n {σ : St} {a i b : Nat} {v : Int32} (h : b ≠ a) : ga (sa σ a i v) b = ga σ b := by rw [ga_sa, if_neg h]
theorem x_begin0 (N : Nat) {s E a : Nat} {σ : St} (hs : s < 24) (e5 : ga σ 5 s = nI a) (ha : a ≤ 11) (e9 : ga σ 9 s = nI 0) : X4_begin_f N (nI s) (nI E) σ = some (nI 0, sa (sa (sa σ 11 s (ga σ 11 s + nI 1)) 12 s (nI E)) 13 a (nI E)) := by
  unfold X4_begin_f
  simp (disch := omega) only [if_pos, if_neg, bnd_e, cal_e, chk_t, isZ_0, isZ_1, isZ_n0, isZ_n1, ald_n, ast_n, stb_n, litI, nI_add, pk_mul, pk_sub, Nat.add_sub_cancel, nar_0, nar_1, nI_leI, nI_ltI, nI_eq, Nat.not_lt_zero, Nat.le_zero_eq, Nat.zero_le, not_true_eq_false, not_false_eq_true, reduceIte, if_true, if_false, ite_self, Bool.false_eq_true, Nat.reduceEqDiff, Nat.reduceAdd, Nat.reduceMul, Nat.reduceSub, Nat.reduceLT, Nat.reduceLeDiff, Nat.reducePow, gi_si, gi_sg, gi_sa, gi_sl, ga_si, ga_sg2, ga_sa, ga_sl, gl_si, gl_sg, gl_sa, gl_sl, e5, e9]
theorem x_begin1 (N : Nat) {s E a o : Nat} {σ : St} (hs : s < 24) (e5 : ga σ 5 s = nI a) (ha : a ≤ 11) (e9 : ga σ 9 s = nI o) (ho : 0 < o) (ho2 : o ≤ 20) : X4_begin_f N (nI s) (nI E) σ = some (nI 0, sa (sa (sa (sa (sa σ 11 s (ga σ 11 s + nI 1)) 12 s (nI E)) 13 a (nI E)) 9 s (nI (o - 1))) 10 s (ga σ 10 s + nI 1)) := by
  unfold X4_begin_f
  simp (disch := omega) only [if_pos, if_neg, bnd_e, cal_e, chk_t, isZ_0, isZ_1, isZ_n0, isZ_n1, ald_n, ast_n, stb_n, litI, nI_add, pk_mul, pk_sub, Nat.add_sub_cancel, nar_0, nar_1, nI_leI, nI_ltI, nI_eq, Nat.not_lt_zero, Nat.le_zero_eq, Nat.zero_le, not_true_eq_false, not_false_eq_true, reduceIte, if_true, if_false, ite_self, Bool.false_eq_true, Nat.reduceEqDiff, Nat.reduceAdd, Nat.reduceMul, Nat.reduceSub, Nat.reduceLT, Nat.reduceLeDiff, Nat.reducePow, gi_si, gi_sg, gi_sa, gi_sl, ga_si, ga_sg2, ga_sa, ga_sl, gl_si, gl_sg, gl_sa, gl_sl, e5, e9]
theorem x_addPlay (N : Nat) {P H : Nat} {x y v : Int32} {σ : St} (hP : P < 300) (e11 : gi σ 11 = nI P) (e10 : gi σ 10 = nI H) : X1_addPlay_f N x y v σ = some (nI 0, si (sa (sa (sa (sa σ 19 P x) 20 P y) 21 P (nI H)) 22 P v) 11 (nI (P + 1))) := by
  unfold X1_addPlay_f
  simp (disch := omega) only [bnd_e, gi_sa, e11, e10, ast_n, litI, nI_add]
theorem x_pstep (N : Nat) {s E k R d : Nat} {σ σb σc : St} {vi x3 x5 : Int32} (hs : s < 24) (hk : k < R) (hR : R ≤ 4) (e14 : gi σ 14 = nI R) (ex : ga σ 23 k = nI s) (xb : X4_begin_f N (nI s) (nI E) σ = some (nI 0, σb)) (xa : X1_addPlay_f N (nI s) (nI E) vi σb = some (nI 0, σc)) (r4 : ga σc 4 s = nI d) (n : Nat) : X6_fillStretch_l57 N (n + 1) vi x3 x5 (nI E) (nI k) σ = X6_fillStretch_l57 N n vi x3 x5 (nI (E + d)) (nI (k + 1)) σc := by
  rw [X6_fillStretch_l57.eq_def]
  simp (disch := omega) only [if_pos, if_neg, bnd_e, cal_e, chk_t, isZ_0, isZ_1, isZ_n0, isZ_n1, ald_n, ast_n, stb_n, litI, nI_add, pk_mul, pk_sub, Nat.add_sub_cancel, nar_0, nar_1, nI_leI, nI_ltI, nI_eq, Nat.not_lt_zero, Nat.le_zero_eq, Nat.zero_le, not_true_eq_false, not_false_eq_true, reduceIte, if_true, if_false, ite_self, Bool.false_eq_true, Nat.reduceEqDiff, Nat.reduceAdd, Nat.reduceMul, Nat.reduceSub, Nat.reduceLT, Nat.reduceLeDiff, Nat.reducePow, gi_si, gi_sg, gi_sa, gi_sl, ga_si, ga_sg2, ga_sa, ga_sl, gl_si, gl_sg, gl_sa, gl_sl, e14, ex, xb, xa, r4]
theorem play1 (N : Nat) {E Z H P S s : Nat} {σx σm : St} {x1 x2 x3 x5 : Int32} {vi : Int32} (k : Nat) (hk : k < 4) (h : LR E Z H P S σx σm) (hs : s < S) (hP : P < 300) (h1 : 3600 * H ≤ E) (h2 : E < 3600 * (H + 1)) (ex : ga σx 23 k = nI s) (em : ga σm 29 k = nI s) {R : Nat} (hR : R ≤ 4) (e14 : gi σx 14 = nI R) (e19 : gi σm 19 = nI R) (hkR : k < R) : ∃ (σx2 σm2 : St) (d : Nat), ga σm 10 s = nI d ∧ d ≤ 900 ∧ (∀ n, X6_fillStretch_l57 N (n + 1) vi x3 x5 (nI E) (nI k) σx = X6_fillStretch_l57 N n vi x3 x5 (nI (E + d)) (nI (k + 1)) σx2) ∧ (∀ n, X7_layStretch_l29 N (n + 1) x1 vi x2 (nI E) (nI k) σm = X7_layStretch_l29 N n x1 vi x2 (nI (E + d)) (nI (k + 1)) σm2) ∧ LR (E + d) Z H (P + 1) S σx2 σm2 ∧ FP σx σm σx2 σm2 := by
  obtain ⟨hS, hL⟩ := h
  obtain ⟨S2, s1, s2, s3, s4, s5, s6, s7, s8, s9, s10, s11, s12⟩ := id hS
  obtain ⟨g1, g2, g3, g4, g5, g6, g7, g8, -⟩ := id hL
  have eS : S2 = S := (nI_eq (by omega) (by omega)).mp (s2.symm.trans g2)
  rw [eS] at s11
  obtain ⟨⟨d, d1, d2, d3⟩, ⟨a, a1, a2, a3⟩, -⟩ := s11 s hs
  obtain ⟨o, o1, o2, o3⟩ := s12 s (by omega)
  have x4 : ga σx 4 s = nI d := by rw [s4]; exact d3
  have x5e : ga σx 5 s = nI a := by rw [s5]; exact a3
  have x9 : ga σx 9 s = nI o := by rw [s9]; exact o3
  have rl := RL1_play (v := vi) hL hs hP h1 h2 d3 d2 a3 a2
  by_cases z : o = 0
  · rw [z] at x9
    refine ⟨si (sa (sa (sa (sa (sa (sa (sa σx 11 s (ga σx 11 s + nI 1)) 12 s (nI E)) 13 a (nI E)) 19 P (nI s)) 20 P (nI E)) 21 P (nI H)) 22 P vi) 11 (nI (P + 1)), si (sa (sa (sa σm 20 P (nI s)) 21 P (nI E)) 22 P vi) 13 (nI (P + 1)), d, d3, d2, fun n => x_pstep N (by omega) hkR hR e14 ex (x_begin0 N (by omega) x5e a2 x9) (x_addPlay N hP g7 g5) x4 n, fun n => ?_, ⟨hS, rl⟩, ?_⟩
    · rw [X7_layStretch_l29.eq_def]
      unfold X7_layStretch_l133
      simp (disch := omega) only [if_pos, if_neg, bnd_e, cal_e, chk_t, isZ_0, isZ_1, isZ_n0, isZ_n1, ald_n, ast_n, stb_n, litI, nI_add, pk_mul, pk_sub, Nat.add_sub_cancel, nar_0, nar_1, nI_leI, nI_ltI, nI_eq, Nat.not_lt_zero, Nat.le_zero_eq, Nat.zero_le, not_true_eq_false, not_false_eq_true, reduceIte, if_true, if_false, ite_self, Bool.false_eq_true, Nat.reduceEqDiff, Nat.reduceAdd, Nat.reduceMul, Nat.reduceSub, Nat.reduceLT, Nat.reduceLeDiff, Nat.reducePow, gi_si, gi_sg, gi_sa, gi_sl, ga_si, ga_sg2, ga_sa, ga_sl, gl_si, gl_sg, gl_sa, gl_sl, e19, em, g8, d3, o3, z]
    · refine ⟨fun j hj => ?_, fun a ha => ?_, fun j hj => ?_, fun a ha => ?_⟩
      · simp only [gi_si, gi_sa, hj, if_false]
      · simp (disch := omega) only [ga_si, ga_sa_n]
      · simp only [gi_si, gi_sa, hj, if_false]
      · simp (disch := omega) only [ga_si, ga_sa_n]
  · refine ⟨si (sa (sa (sa (sa (sa (sa (sa (sa (sa σx 11 s (ga σx 11 s + nI 1)) 12 s (nI E)) 13 a (nI E)) 9 s (nI (o - 1))) 10 s (ga σx 10 s + nI 1)) 19 P (nI s)) 20 P (nI E)) 21 P (nI H)) 22 P vi) 11 (nI (P + 1)), sa (sa (si (sa (sa (sa σm 20 P (nI s)) 21 P (nI E)) 22 P vi) 13 (nI (P + 1))) 15 s (nI (o - 1))) 16 s (ga σm 16 s + nI 1), d, d3, d2, fun n => x_pstep N (by omega) hkR hR e14 ex (x_begin1 N (by omega) x5e a2 x9 (by omega) o2) (x_addPlay N hP g7 g5) x4 n, fun n => ?_, ⟨⟨S2, s1, s2, s3, s4, s5, s6, s7, s8, ?_, ?_, by rw [eS]; exact s11, fun y hy => ?_⟩, rl⟩, ?_⟩
    · rw [X7_layStretch_l29.eq_def]
      unfold X7_layStretch_l133
      simp (disch := omega) only [if_pos, if_neg, bnd_e, cal_e, chk_t, isZ_0, isZ_1, isZ_n0, isZ_n1, ald_n, ast_n, stb_n, litI, nI_add, pk_mul, pk_sub, Nat.add_sub_cancel, nar_0, nar_1, nI_leI, nI_ltI, nI_eq, Nat.not_lt_zero, Nat.le_zero_eq, Nat.zero_le, not_true_eq_false, not_false_eq_true, reduceIte, if_true, if_false, ite_self, Bool.false_eq_true, Nat.reduceEqDiff, Nat.reduceAdd, Nat.reduceMul, Nat.reduceSub, Nat.reduceLT, Nat.reduceLeDiff, Nat.reducePow, gi_si, gi_sg, gi_sa, gi_sl, ga_si, ga_sg2, ga_sa, ga_sl, gl_si, gl_sg, gl_sa, gl_sl, e19, em, g8, d3, o3]
    · show upd (ga σx 9) s (nI (o - 1)) = upd (ga σm 15) s (nI (o - 1))
      rw [s9]
    · show upd (ga σx 10) s (ga σx 10 s + nI 1) = upd (ga σm 16) s (ga σm 16 s + nI 1)
      rw [s10]
    · show rg 0 20 (upd (ga σm 15) s (nI (o - 1)) y)
      rw [upd_e]
      by_cases w : y = s
      · rw [if_pos w]
        exact rg_mk (by omega) (by omega)
      · rw [if_neg w]
        exact s12 y hy
    · refine ⟨fun j hj => ?_, fun a ha => ?_, fun j hj => ?_, fun a ha => ?_⟩
      · simp only [gi_si, gi_sa, hj, if_false]
      · simp (disch := omega) only [ga_si, ga_sa_n]
      · simp only [gi_si, gi_sa, hj, if_false]
      · simp (disch := omega) only [ga_si, ga_sa_n]
theorem sm_rev (f : Nat → Nat) : ∀ r : List Nat, sm f r.reverse = sm f r
  | [] => rfl
  | x :: r => by
    rw [List.reverse_cons, sm_app, sm_rev f r]
    show sm f r + (0 + f x) = sm f r + f x
    omega
theorem play_l (N : Nat) {Z H S R : Nat} {dd : Nat → Nat} {x1 x2 x3 x5 : Int32} {vi : Int32} (hR : R ≤ 4) : ∀ (F : List Nat) (k E P n n2 : Nat) (σx σm : St), LR E Z H P S σx σm → (∀ s, s < S → ga σm 10 s = nI (dd s) ∧ dd s ≤ 900 ∧ 1 ≤ dd s) → EntB (ga σx 23) k F → EntB (ga σm 29) k F → (∀ x, x ∈ F → x < S) → k + F.length = R → gi σx 14 = nI R → gi σm 19 = nI R → P + F.length ≤ 300 → 3600 * H ≤ E → E + sm dd F ≤ 3600 * (H + 1) → F.length < n → F.length < n2 → ∃ σx2 σm2 : St, X6_fillStretch_l57 N n vi x3 x5 (nI E) (nI k) σx = X6_fillStretch_l57 N 1 vi x3 x5 (nI (E + sm dd F)) (nI R) σx2 ∧ X7_layStretch_l29 N n2 x1 vi x2 (nI E) (nI k) σm = X7_layStretch_l29 N 1 x1 vi x2 (nI (E + sm dd F)) (nI R) σm2 ∧ LR (E + sm dd F) Z H (P + F.length) S σx2 σm2 ∧ FP σx σm σx2 σm2
  | _, _, _, _, 0, _, _, _, _, _, _, _, _, _, _, _, _, _, _, h, _ => absurd h (by omega)
  | _, _, _, _, _ + 1, 0, _, _, _, _, _, _, _, _, _, _, _, _, _, _, h => absurd h (by omega)
  | [], k, E, P, n + 1, n2 + 1, σx, σm, h, hd, f1, f2, hm, hk, e14, e19, hP, hE, hE2, hn, hn2 => by
    have hk2 : k = R := hk
    refine ⟨σx, σm, ?_, ?_, h, FP_rfl σx σm⟩
    · rw [hk2]
      show X6_fillStretch_l57 N (n + 1) vi x3 x5 (nI E) (nI R) σx = X6_fillStretch_l57 N 1 vi x3 x5 (nI E) (nI R) σx
      rw [X6_fillStretch_l57.eq_def, X6_fillStretch_l57.eq_def N 1]
      simp only [e14, if_pos (nI_le (Nat.le_refl R) (by omega : R < 2 ^ 31))]
    · rw [hk2]
      show X7_layStretch_l29 N (n2 + 1) x1 vi x2 (nI E) (nI R) σm = X7_layStretch_l29 N 1 x1 vi x2 (nI E) (nI R) σm
      rw [X7_layStretch_l29.eq_def, X7_layStretch_l29.eq_def N 1]
      simp only [e19, if_pos (nI_le (Nat.le_refl R) (by omega : R < 2 ^ 31))]
  | s :: F, k, E, P, n + 1, n2 + 1, σx, σm, h, hd, f1, f2, hm, hk, e14, e19, hP, hE, hE2, hn, hn2 => by
    have hl : (s :: F).length = F.length + 1 := rfl
    have hs := hm s List.mem_cons_self
    have hsm : sm dd (s :: F) = sm dd F + dd s := rfl
    obtain ⟨q1, q2, q3⟩ := hd s hs
    obtain ⟨σx2, σm2, d, d1, d2, d3, d4, d5, d6⟩ := play1 N (x1 := x1) (x2 := x2) (x3 := x3) (x5 := x5) (vi := vi) k (by omega) h hs (by omega) hE (by omega) f1.1 f2.1 hR e14 e19 (by omega)
    have ed : d = dd s := (nI_eq (by omega) (by omega)).mp (d1.symm.trans q1)
    rw [ed] at d3 d4 d5
    obtain ⟨σx3, σm3, b1, b2, b3, b4⟩ := play_l N (dd := dd) (x1 := x1) (x2 := x2) (x3 := x3) (x5 := x5) (vi := vi) hR F (k + 1) (E + dd s) (P + 1) n n2 σx2 σm2 d5 (by
      rw [d6.2.2.2 10 (by omega)]
      exact hd) (by
      rw [d6.2.1 23 (by omega)]
      exact f1.2.2) (by
      rw [d6.2.2.2 29 (by omega)]
      exact f2.2.2) (fun x hx => hm x (List.mem_cons_of_mem _ hx)) (by omega) (by rw [d6.1 14 (by omega)]; exact e14) (by rw [d6.2.2.1 19 (by omega)]; exact e19) (by omega) (by omega) (by omega) (by omega) (by omega)
    have e1 : E + sm dd (s :: F) = E + dd s + sm dd F := by omega
    have e2 : P + (s :: F).length = P + 1 + F.length := by omega
    rw [e1, e2]
    exact ⟨σx3, σm3, (d3 n).trans b1, (d4 n2).trans b2, b3, FP_tr d6 b4⟩
