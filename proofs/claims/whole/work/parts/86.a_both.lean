/-! lay: both find the same row -/
def qq (σ : St) (x3 : Int32) : Nat → Nat → Nat
  | 0 => fun s => (ga σ 10 s).toNatClampNeg
  | 1 => fun s => (ga σ 11 s).toNatClampNeg
  | 2 => fun s => (ga σ 12 s).toNatClampNeg
  | 3 => fun s => (ga σ 18 s).toNatClampNeg
  | 4 => fun s => (ga σ 19 s).toNatClampNeg
  | 5 => fun s => if x3 = -nI 1 ∨ ga σ 13 s = x3 then 1 else 0
  | _ => fun _ => 0
def cc (T len w sl mo g0 g1 st S ky : Nat) : Nat → Nat
  | 0 => T
  | 1 => len
  | 2 => w
  | 3 => sl
  | 4 => mo
  | 5 => 60 * g0
  | 6 => 60 * g1
  | 7 => st
  | 8 => S
  | 9 => ky
  | _ => 0
def SDt (S g0 g1 st sl mo : Nat) (σx σm : St) : Prop := (g0 ≤ 9999 ∧ g1 ≤ 9999 ∧ st ≤ 6 ∧ sl ≤ 900 ∧ 1 ≤ mo ∧ mo ≤ 4) ∧ (ga σm 1 0 = nI g0 ∧ ga σm 1 1 = nI g1 ∧ ga σm 1 2 = nI st ∧ ga σm 1 3 = nI sl ∧ ga σm 1 4 = nI mo) ∧ (gi σx 20 = nI (60 * g0) ∧ gi σx 21 = nI (60 * g1) ∧ gi σx 22 = nI st ∧ gi σx 23 = nI sl ∧ gi σx 24 = nI mo) ∧ (∀ s, s < S → ga σx 25 s = ga σm 18 s ∧ rg 0 390 (ga σm 18 s))
theorem qq5 {σ : St} {x3 : Int32} {s : Nat} : qq σ x3 5 s = 1 ↔ (x3 = -nI 1 ∨ ga σ 13 s = x3) := by
  show (if x3 = -nI 1 ∨ ga σ 13 s = x3 then 1 else 0) = 1 ↔ _
  by_cases z : x3 = -nI 1 ∨ ga σ 13 s = x3
  · rw [if_pos z]
    exact ⟨fun _ => z, fun _ => rfl⟩
  · rw [if_neg z]
    exact ⟨fun y => absurd y (by omega), fun y => absurd y z⟩
theorem both_b (N : Nat) (hN : 60000 < N) {T Z H P S g0 g1 st sl mo len w : Nat} {σx σm : St} (x3 : Int32) (h : LR T Z H P S σx σm) (hd : SDt S g0 g1 st sl mo σx σm) (hT : T ≤ 604800) (hlen : len ≤ 3600) (hw : w ≤ 4) : ∃ (q : Nat → Nat → Nat) (c : Nat → Nat) (b : Option (List Nat)) (σa σx2 σm2 : St) (ky : Int32), X2_aim_f N (nI T) (nI len) x3 (nI w) σx = some (nI 0, σa) ∧ X6_keyAhead_f N (nI T) σa = some (ky, σa) ∧ X2_run_f N (nI T) ky σa = some (nI 0, σx2) ∧ X7_fill_f N (nI T) (nI len) x3 (nI w) σm = some (nI 0, σm2) ∧ BeX q c σx2 b ∧ BeM q c σm2 b ∧ c 1 = len ∧ c 8 = S ∧ (∀ s, s < S → ga σm 10 s = nI (q 0 s) ∧ q 0 s ≤ 900 ∧ 1 ≤ q 0 s) ∧ (∀ r, b = some r → sm (q 0) r ≤ len ∧ r.length ≤ 4) ∧ FrX σx σx2 ∧ FrM σm σm2 := by
  obtain ⟨hS, hL⟩ := h
  obtain ⟨S2, s1, s2, s3, s4, s5, s6, s7, s8, s9, s10, s11, s12⟩ := hS
  obtain ⟨g1e, g2, g3, g4, g5, g6, g7, g8, g9, g10, g11, g12, g13, g14, g15, g16, g17, g18, g19, g20⟩ := hL
  have eS : S2 = S := (nI_eq (by omega) (by omega)).mp (s2.symm.trans g2)
  rw [eS] at s11 s3
  obtain ⟨⟨d1, d2, d3, d4, d5, d6⟩, ⟨r0, r1, r2, r3, r4⟩, ⟨i20, i21, i22, i23, i24⟩, hh⟩ := hd
  have song : ∀ s, s < S → (ga σm 10 s = nI (qq σm x3 0 s) ∧ ga σm 11 s = nI (qq σm x3 1 s) ∧ ga σm 12 s = nI (qq σm x3 2 s) ∧ ga σm 18 s = nI (qq σm x3 3 s) ∧ ga σm 19 s = nI (qq σm x3 4 s)) ∧ 30 ≤ qq σm x3 0 s ∧ qq σm x3 0 s ≤ 900 ∧ qq σm x3 1 s ≤ 11 ∧ qq σm x3 2 s ≤ 11 ∧ qq σm x3 3 s ≤ 390 ∧ qq σm x3 4 s ≤ 1 := fun s hs => by
    obtain ⟨t1, t2, t3, -, t5⟩ := s11 s hs
    obtain ⟨a1, a2, a3⟩ := rg_cl t1 (by omega)
    obtain ⟨b1, b2, b3⟩ := rg_cl t2 (by omega)
    obtain ⟨e1, e2, e3⟩ := rg_cl t3 (by omega)
    obtain ⟨f1, f2, f3⟩ := rg_cl (hh s hs).2 (by omega)
    obtain ⟨h1, h2, h3⟩ := rg_cl t5 (by omega)
    exact ⟨⟨a3, b3, e3, f3, h3⟩, a1, a2, b2, e2, f2, h2⟩
  have pl : ∀ p, p < P → ga σm 20 p = nI (ga σm 20 p).toNatClampNeg ∧ ga σm 21 p = nI (ga σm 21 p).toNatClampNeg ∧ (ga σm 20 p).toNatClampNeg < S ∧ (ga σm 21 p).toNatClampNeg ≤ T ∧ (∀ p2, p < p2 → p2 < P → (ga σm 21 p).toNatClampNeg ≤ (ga σm 21 p2).toNatClampNeg) := fun p hp => by
    obtain ⟨-, s, b, k1, k2, k3, k4, k5⟩ := g18 p hp
    have c1 : (ga σm 20 p).toNatClampNeg = s := by rw [k2, nI_clamp (by omega)]
    have c2 : (ga σm 21 p).toNatClampNeg = b := by rw [k3, nI_clamp (by omega)]
    rw [c1, c2]
    refine ⟨k2, k3, k1, by omega, fun p2 h1 h2 => ?_⟩
    have := k5 p2 h1 h2
    omega
  obtain ⟨ky, hky⟩ : ∃ ky : Nat, (P = 0 ∧ ky = 0) ∨ (0 < P ∧ (((ga σm 21 (P - 1)).toNatClampNeg + qq σm x3 0 (ga σm 20 (P - 1)).toNatClampNeg = T ∧ ky = qq σm x3 2 (ga σm 20 (P - 1)).toNatClampNeg + 1) ∨ ((ga σm 21 (P - 1)).toNatClampNeg + qq σm x3 0 (ga σm 20 (P - 1)).toNatClampNeg ≠ T ∧ ky = 0))) := by
    by_cases z : P = 0
    · exact ⟨0, Or.inl ⟨z, rfl⟩⟩
    · by_cases y : (ga σm 21 (P - 1)).toNatClampNeg + qq σm x3 0 (ga σm 20 (P - 1)).toNatClampNeg = T
      · exact ⟨_, Or.inr ⟨by omega, Or.inl ⟨y, rfl⟩⟩⟩
      · exact ⟨0, Or.inr ⟨by omega, Or.inr ⟨y, rfl⟩⟩⟩
  have hky12 : ky ≤ 12 := by
    rcases hky with ⟨_, z⟩ | ⟨z1, ⟨_, z⟩ | ⟨_, z⟩⟩
    · omega
    · have := (song _ (pl (P - 1) (by omega)).2.2.1).2.2.2.2.1
      omega
    · omega
  have inm : InM (qq σm x3) (cc T len w sl mo g0 g1 st S ky) σm := ⟨g1e, s3, fun s hs => by
    obtain ⟨⟨a1, a2, a3, a4, a5⟩, a6⟩ := song s hs
    exact ⟨a1, a2, a3, a4, a5, a6⟩, ⟨g0, g1, d1, d2, r0, r1, rfl, rfl⟩, r2, d3, r3, d4, r4, d5, d6⟩
  have kym : KyM (qq σm x3) (cc T len w sl mo g0 g1 st S ky) σm := ⟨P, g4, g8, by
    rcases hky with ⟨z1, z2⟩ | ⟨z1, z2⟩
    · exact Or.inl ⟨z1, z2⟩
    · obtain ⟨p1, p2, p3, p4, -⟩ := pl (P - 1) (by omega)
      exact Or.inr ⟨z1, _, _, p3, by omega, p1, p2, z2⟩⟩
  have lgm : LgM (cc T len w sl mo g0 g1 st S ky) P (fun p => (ga σm 20 p).toNatClampNeg) (fun p => (ga σm 21 p).toNatClampNeg) σm := ⟨g4, g8, fun p hp => by
    obtain ⟨p1, p2, p3, p4, -⟩ := pl p hp
    exact ⟨p1, p2, p3, Nat.le_trans p4 hT⟩⟩
  have mdm : MdM (qq σm x3) (cc T len w sl mo g0 g1 st S ky) x3 σm := fun s _ => qq5
  obtain ⟨b, σm2, m1, m2, m3, m4⟩ := m_fill N hN inm kym lgm mdm hT hlen hw
  obtain ⟨f1, f2, f3⟩ := lgFre (q := qq σm x3) (c := cc T len w sl mo g0 g1 st S ky) (ps := fun p => (ga σm 20 p).toNatClampNeg) (pb := fun p => (ga σm 21 p).toNatClampNeg) (P := P) (f := ga σm 20) (g := ga σm 21) (r := ga σm 11) g1e (fun p hp => by
    obtain ⟨p1, p2, p3, p4, -⟩ := pl p hp
    exact ⟨p1, p2, p3, p4⟩) (fun s hs => ⟨(song s hs).1.2.1, (song s hs).2.2.2.1⟩) (fun a b2 h1 h2 => by
    by_cases z : a = b2
    · rw [z]
      exact Nat.le_refl _
    · exact (pl a (by omega)).2.2.2.2 b2 (by omega) h2) hT
  have inx : InX (qq σm x3) (cc T len w sl mo g0 g1 st S ky) (si (si σx 25 (nI (T + len))) 26 (nI w)) := ⟨g1e, g2, fun s hs => by
    obtain ⟨⟨a1, a2, a3, a4, a5⟩, a6⟩ := song s hs
    refine ⟨?_, ?_, ?_, ?_, ?_, a6⟩
    · show ga σx 4 s = _
      rw [s4]
      exact a1
    · show ga σx 5 s = _
      rw [s5]
      exact a2
    · show ga σx 6 s = _
      rw [s6]
      exact a3
    · show ga σx 25 s = _
      rw [(hh s hs).1]
      exact a4
    · show ga σx 8 s = _
      rw [s8]
      exact a5, i20, i21, i22, i24, rfl, rfl, by show 60 * g0 ≤ _; omega, by show 60 * g1 ≤ _; omega, d3, d5, d6, hT, hlen, hw, hky12, d4⟩
  obtain ⟨σa, m, p, e, a1, a2, a3, a4, a5, a6⟩ := x_aim N hN (U := fun s => fr1 (lastB (ga σm 20) (ga σm 21) (nI s) P) (60 * g0)) (W := fun a => fr1 (lastA (ga σm 20) (ga σm 21) (ga σm 11) (nI a) P) (60 * g1)) (x2 := x3) inx i23 (fun s hs => by
    have hs2 : s < S := hs
    rw [(g19 s (by omega)).2]
    exact f1 s hs) (fun a ha => by
    rw [g20 a ha]
    exact f2 a ha) (fun s hs => by
    rw [s7]
    exact qq5) f3
  obtain ⟨b2, σx2, k1, k2, k3, k4⟩ := x_run N hN a2 a3 a4 f3 a5
  have eb : b = b2 := IsB_uni m4 k3
  have kyx : X6_keyAhead_f N (nI T) σa = some (kyI (qq σm x3) (cc T len w sl mo g0 g1 st S ky) [], σa) := by
    have e11 : gi σa 11 = nI P := (a6.1 11 (by omega)).trans g7
    have e20 : ga σa 20 = ga σm 21 := (a6.2 20 (by omega)).trans g14
    have e19 : ga σa 19 = ga σm 20 := (a6.2 19 (by omega)).trans g13
    have e4 : ga σa 4 = ga σm 10 := (a6.2 4 (by omega)).trans s4
    have e6 : ga σa 6 = ga σm 12 := (a6.2 6 (by omega)).trans s6
    have kd : kyI (qq σm x3) (cc T len w sl mo g0 g1 st S ky) [] = if ky = 0 then -nI 1 else nI (ky - 1) := rfl
    rw [kd]
    unfold X6_keyAhead_f X6_endOfPlay_f
    rcases hky with ⟨z1, z2⟩ | ⟨z1, z2⟩
    · have e0 : (nI 0 - nI 1 < nI 0) = True := eq_true (by decide)
      rw [z2]
      simp (disch := omega) only [if_pos, if_neg, bnd_e, cal_e, chk_t, isZ_0, isZ_1, isZ_n0, isZ_n1, ald_n, ast_n, stb_n, litI, nI_add, pk_mul, pk_sub, Nat.add_sub_cancel, nar_0, nar_1, nI_leI, nI_ltI, nI_eq, Nat.not_lt_zero, Nat.le_zero_eq, Nat.zero_le, not_true_eq_false, not_false_eq_true, reduceIte, if_true, if_false, ite_self, Bool.false_eq_true, Nat.reduceEqDiff, Nat.reduceAdd, Nat.reduceMul, Nat.reduceSub, Nat.reduceLT, Nat.reduceLeDiff, Nat.reducePow, gi_si, gi_sg, gi_sa, gi_sl, ga_si, ga_sg2, ga_sa, ga_sl, gl_si, gl_sg, gl_sa, gl_sl, e11, z1, e0]
    · obtain ⟨p1, p2, p3, p4, -⟩ := pl (P - 1) (by omega)
      obtain ⟨l, hl⟩ : ∃ l : Nat, (ga σm 20 (P - 1)).toNatClampNeg = l := ⟨_, rfl⟩
      obtain ⟨b3, hb3⟩ : ∃ b3 : Nat, (ga σm 21 (P - 1)).toNatClampNeg = b3 := ⟨_, rfl⟩
      rw [hl, hb3] at z2
      rw [hl] at p1 p3
      rw [hb3] at p2 p4
      obtain ⟨⟨q1, -, q3, -⟩, -, q7, -, q9, -⟩ := song _ p3
      rcases z2 with ⟨y1, y2⟩ | ⟨y1, y2⟩
      · rw [y2, Nat.add_sub_cancel]
        simp (disch := omega) only [if_pos, if_neg, bnd_e, cal_e, chk_t, isZ_0, isZ_1, isZ_n0, isZ_n1, ald_n, ast_n, stb_n, litI, nI_add, pk_mul, pk_sub, Nat.add_sub_cancel, nar_0, nar_1, nI_leI, nI_ltI, nI_eq, Nat.not_lt_zero, Nat.le_zero_eq, Nat.zero_le, not_true_eq_false, not_false_eq_true, reduceIte, if_true, if_false, ite_self, Bool.false_eq_true, Nat.reduceEqDiff, Nat.reduceAdd, Nat.reduceMul, Nat.reduceSub, Nat.reduceLT, Nat.reduceLeDiff, Nat.reducePow, gi_si, gi_sg, gi_sa, gi_sl, ga_si, ga_sg2, ga_sa, ga_sl, gl_si, gl_sg, gl_sa, gl_sl, e11, e20, e19, e4, e6, p1, p2, q1, q3, y1]
      · rw [y2]
        simp (disch := omega) only [if_pos, if_neg, bnd_e, cal_e, chk_t, isZ_0, isZ_1, isZ_n0, isZ_n1, ald_n, ast_n, stb_n, litI, nI_add, pk_mul, pk_sub, Nat.add_sub_cancel, nar_0, nar_1, nI_leI, nI_ltI, nI_eq, Nat.not_lt_zero, Nat.le_zero_eq, Nat.zero_le, not_true_eq_false, not_false_eq_true, reduceIte, if_true, if_false, ite_self, Bool.false_eq_true, Nat.reduceEqDiff, Nat.reduceAdd, Nat.reduceMul, Nat.reduceSub, Nat.reduceLT, Nat.reduceLeDiff, Nat.reducePow, gi_si, gi_sg, gi_sa, gi_sl, ga_si, ga_sg2, ga_sa, ga_sl, gl_si, gl_sg, gl_sa, gl_sl, e11, e20, e19, e4, e6, p1, p2, q1, q3]
  refine ⟨_, _, b, σa, σx2, σm2, _, a1, kyx, k1, m1, by rw [eb]; exact k2, m3, rfl, rfl, fun s hs => ⟨(song s hs).1.1, (song s hs).2.2.1, by have := (song s hs).2.1; omega⟩, fun r hr => ?_, ⟨fun j hj => ?_, fun a ha => ?_⟩, m2⟩
  · rw [hr] at m4
    have ad := m4.1
    have l4 : r.length ≤ mo := ad.2.2.1
    exact ⟨Fs_sum _ ad.1, by omega⟩
  · rw [k4.1 j (by omega) (by omega) (by omega)]
    exact a6.1 j hj
  · rw [k4.2.1 a (by omega) (by omega)]
    exact a6.2 a ha
