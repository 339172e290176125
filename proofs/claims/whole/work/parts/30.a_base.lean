/-! THE PURE PART. Rules by which the functions are evaluated. -/
theorem bnd_e {α ρ : Type} (v : α) (f : α → Option ρ) : bnd v f = f v := rfl
theorem cal_e {α ρ : Type} (v : α) (s : St) (f : α → St → Option ρ) : cal (some (v, s)) f = f v s := rfl
theorem chk_t {ρ : Type} (f : Option ρ) : chk true f = f := rfl
theorem isZ_0 : isZ 0 = true := rfl
theorem isZ_1 : isZ 1 = true := rfl
theorem isZ_n0 : isZ (nI 0) = true := rfl
theorem isZ_n1 : isZ (nI 1) = true := rfl
theorem inB_n {j n : Nat} (h : j < n) (hn : n < 2 ^ 31) : inB (nI j) n = true := by
  unfold inB
  rw [Bool.and_eq_true, decide_eq_true_eq, decide_eq_true_eq, nI_toInt (by omega)]
  omega
theorem ald_n {ρ : Type} {σ : St} {a n j : Nat} {f : Int32 → Option ρ} (h : j < n) (hn : n < 2 ^ 31) : ald σ a n (nI j) f = f (ga σ a j) := by
  unfold ald
  rw [if_pos (inB_n h hn), nI_clamp (by omega)]
theorem ast_n {ρ : Type} {σ : St} {a n j : Nat} {v : Int32} {f : St → Option ρ} (h : j < n) (hn : n < 2 ^ 31) : ast σ a n (nI j) v f = f (sa σ a j v) := by
  unfold ast
  rw [if_pos (inB_n h hn), nI_clamp (by omega)]
theorem stb_n {ρ : Type} {t : Nat → Int32} {n j : Nat} {f : Int32 → Option ρ} (h : j < n) (hn : n < 2 ^ 31) : stb t n (nI j) f = f (t j) := by
  unfold stb
  rw [if_pos (inB_n h hn), nI_clamp (by omega)]
theorem litI (n : Nat) : (@OfNat.ofNat Int32 n Int32.instOfNat) = nI (@OfNat.ofNat Nat n (instOfNatNat n)) := rfl
theorem li0 : (0 : Int32) = nI 0 := rfl
theorem li1 : (1 : Int32) = nI 1 := rfl
theorem li2 : (2 : Int32) = nI 2 := rfl
theorem li3 : (3 : Int32) = nI 3 := rfl
theorem li4 : (4 : Int32) = nI 4 := rfl
theorem li5 : (5 : Int32) = nI 5 := rfl
theorem li6 : (6 : Int32) = nI 6 := rfl
theorem li9 : (9 : Int32) = nI 9 := rfl
theorem li11 : (11 : Int32) = nI 11 := rfl
theorem li20 : (20 : Int32) = nI 20 := rfl
theorem li30 : (30 : Int32) = nI 30 := rfl
theorem li120 : (120 : Int32) = nI 120 := rfl
theorem li240 : (240 : Int32) = nI 240 := rfl
theorem li900 : (900 : Int32) = nI 900 := rfl
theorem li3600 : (3600 : Int32) = nI 3600 := rfl
theorem nar_0 : vp_nar .boolean (nI 0) = nI 0 := rfl
theorem nar_1 : vp_nar .boolean (nI 1) = nI 1 := rfl
theorem add_n0 (x : Int32) : x + nI 0 = x := Int32.add_zero x
theorem upd_e {f : Nat → Int32} {k j : Nat} {x : Int32} : upd f k x j = if j = k then x else f j := rfl
theorem gi_si {σ : St} {k j : Nat} {v : Int32} : gi (si σ k v) j = if j = k then v else gi σ j := rfl
theorem gi_sg {σ : St} {a j : Nat} {f : Nat → Int32} : gi (sg σ a f) j = gi σ j := rfl
theorem gi_sa {σ : St} {a i j : Nat} {v : Int32} : gi (sa σ a i v) j = gi σ j := rfl
theorem gi_sl {σ : St} {j : Nat} {v : Int64} : gi (sl σ v) j = gi σ j := rfl
theorem ga_si {σ : St} {k a : Nat} {v : Int32} : ga (si σ k v) a = ga σ a := rfl
theorem ga_sg2 {σ : St} {a b : Nat} {f : Nat → Int32} : ga (sg σ a f) b = if b = a then f else ga σ b := rfl
theorem ga_sa {σ : St} {a i b : Nat} {v : Int32} : ga (sa σ a i v) b = if b = a then upd (ga σ a) i v else ga σ b := rfl
theorem ga_sl {σ : St} {a : Nat} {v : Int64} : ga (sl σ v) a = ga σ a := rfl
theorem gl_si {σ : St} {k : Nat} {v : Int32} : gl (si σ k v) = gl σ := rfl
theorem gl_sg {σ : St} {a : Nat} {f : Nat → Int32} : gl (sg σ a f) = gl σ := rfl
theorem gl_sa {σ : St} {a i : Nat} {v : Int32} : gl (sa σ a i v) = gl σ := rfl
theorem gl_sl {σ : St} {v : Int64} : gl (sl σ v) = v := rfl
/-- a value in a range -/
def rg (lo hi : Nat) (x : Int32) : Prop := ∃ n : Nat, lo ≤ n ∧ n ≤ hi ∧ x = nI n
theorem rg_mk {lo hi n : Nat} (h : lo ≤ n) (h2 : n ≤ hi) : rg lo hi (nI n) := ⟨n, h, h2, rfl⟩
/-- an int is under 0 or a number -/
theorem i_cases (x : Int32) : x < 0 ∨ ∃ j : Nat, j < 2 ^ 31 ∧ x = nI j := by
  by_cases h : x < 0
  · exact Or.inl h
  · exact Or.inr (nI_of h)
theorem neg_not0 {x : Int32} (h : x < 0) : ¬ (0 : Int32) ≤ x := Int32.not_le.mpr h
theorem nI_nneg {n : Nat} (h : n < 2 ^ 31) : (nI n < 0) = False := eq_false (nI_pos h)
theorem rg_cases (x : Int32) (lo hi : Nat) (hl : lo < 2 ^ 31) (hh : hi < 2 ^ 31) : x < nI lo ∨ (¬ x < nI lo ∧ nI hi < x) ∨ (∃ n : Nat, lo ≤ n ∧ n ≤ hi ∧ x = nI n) := by
  by_cases h1 : x < nI lo
  · exact Or.inl h1
  by_cases h2 : nI hi < x
  · exact Or.inr (Or.inl ⟨h1, h2⟩)
  right; right
  rcases i_cases x with h | ⟨j, hj, rfl⟩
  · exact absurd (Int32.lt_of_lt_of_le h (nI_pos' hl)) h1
  · rw [nI_ltI hj hl] at h1
    rw [nI_ltI hh hj] at h2
    exact ⟨j, by omega, by omega, rfl⟩
/-- last begin of a play of song s among the first n, -1 if none -/
def lastB (ps pb : Nat → Int32) (s : Int32) : Nat → Int32
  | 0 => -1
  | p + 1 => if ps p = s then pb p else lastB ps pb s p
def cntB (ps : Nat → Int32) (s : Int32) : Nat → Nat
  | 0 => 0
  | p + 1 => if ps p = s then cntB ps s p + 1 else cntB ps s p
def lastA (ps pb ar : Nat → Int32) (a : Int32) : Nat → Int32
  | 0 => -1
  | p + 1 => if ar (ps p).toNatClampNeg = a then pb p else lastA ps pb ar a p
theorem lastB_s {ps pb : Nat → Int32} {s : Int32} {p : Nat} : lastB ps pb s (p + 1) = if ps p = s then pb p else lastB ps pb s p := rfl
theorem cntB_s {ps : Nat → Int32} {s : Int32} {p : Nat} : cntB ps s (p + 1) = if ps p = s then cntB ps s p + 1 else cntB ps s p := rfl
theorem lastA_s {ps pb ar : Nat → Int32} {a : Int32} {p : Nat} : lastA ps pb ar a (p + 1) = if ar (ps p).toNatClampNeg = a then pb p else lastA ps pb ar a p := rfl
def sumN (f : Nat → Int32) : Nat → Nat
  | 0 => 0
  | n + 1 => sumN f n + (f n).toNatClampNeg
def cntN (f : Nat → Int32) : Nat → Nat
  | 0 => 0
  | n + 1 => if f n = -1 then cntN f n else cntN f n + 1
/-! THE RELATION between the class's state and the reference's -/
def RT (a m : Int32) (xb mb : Nat → Int32) : Prop := ∃ T : Nat, T ≤ 260 ∧ a = nI T ∧ m = nI T ∧ ∀ i, i < 260 → ∃ b : Nat, b < 256 ∧ mb i = nI b ∧ xb i = (nI b).toInt8.toInt32
def RU (xr mr mu ml mh : Nat → Int32) : Prop := (∀ k, k < 5 → xr k = mr k) ∧ rg 0 9999 (mr 0) ∧ rg 0 9999 (mr 1) ∧ rg 0 6 (mr 2) ∧ rg 0 900 (mr 3) ∧ rg 1 4 (mr 4) ∧ mu = ga iniM 2 ∧ ml = ga iniM 4 ∧ mh = ga iniM 5
def Rc1 (n : Nat) (c0 c1 : Int32) (a0 a1 a2 a3 : Nat → Int32) (j : Nat) (m6 m7 m8 m9 : Nat → Int32) : Prop := n ≤ 8 ∧ c0 = nI n ∧ m6 j = nI n ∧ c1 = nI (cntN (fun i => m9 (8 * j + i)) n) ∧ (∀ i, i < n → a0 i = m7 (8 * j + i) ∧ a1 i = m8 (8 * j + i) ∧ rg 1 3600 (m7 (8 * j + i)) ∧ ((a3 i = 0 ∧ m9 (8 * j + i) = -1) ∨ (a3 i = 1 ∧ a2 i = m9 (8 * j + i) ∧ rg 0 4 (m9 (8 * j + i))))) ∧ (0 < n → sumN (fun i => m7 (8 * j + i)) n = 3600)
def RC (gx : Nat → Int32) (ax : Nat → Nat → Int32) (m6 m7 m8 m9 : Nat → Int32) : Prop := ∀ j, j < 6 → ∃ n : Nat, Rc1 n (gx (3 * j)) (gx (3 * j + 1)) (ax (4 * j)) (ax (4 * j + 1)) (ax (4 * j + 2)) (ax (4 * j + 3)) j m6 m7 m8 m9
/-- one song's votes: V given, the ring of ten -/
def Rv1 (k : Nat) (s : Nat) (x14 x15 x16 m14 m17 : Nat → Int32) : Prop := ∃ V : Nat, V ≤ k ∧ m14 s = nI V ∧ x15 s = nI (V % 10) ∧ (∀ i, i < 10 → x16 (10 * s + i) = m17 (10 * s + i) ∧ rg 0 9 (m17 (10 * s + i)) ∧ (V ≤ i → m17 (10 * s + i) = 0)) ∧ x14 s = nI (sumN (fun i => m17 (10 * s + i)) 10)
def RV (k : Nat) (x14 x15 x16 m14 m17 : Nat → Int32) : Prop := ∀ s, s < 24 → Rv1 k s x14 x15 x16 m14 m17
/-- the songs -/
def RS (x9 m12 : Int32) (s4 s5 s6 s7 s8 s9 s10 t10 t11 t12 t13 t19 t15 t16 : Nat → Int32) : Prop := ∃ S : Nat, S ≤ 24 ∧ x9 = nI S ∧ m12 = nI S ∧ s4 = t10 ∧ s5 = t11 ∧ s6 = t12 ∧ s7 = t13 ∧ s8 = t19 ∧ s9 = t15 ∧ s10 = t16 ∧ (∀ s, s < S → rg 30 900 (t10 s) ∧ rg 0 11 (t11 s) ∧ rg 0 11 (t12 s) ∧ rg 0 3 (t13 s) ∧ rg 0 1 (t19 s)) ∧ (∀ s, s < 24 → rg 0 20 (t15 s))
/-- the log -/
def RL0 (x10 x11 x12 x13 m14 m13 m15 m16 : Int32) (l17 l18 l19 l20 l21 l22 r30 r23 r20 r21 r22 : Nat → Int32) (x9 : Int32) (t10 t11 p11 p12 p13 : Nat → Int32) : Prop := ∃ H P S : Nat, S ≤ 24 ∧ x9 = nI S ∧ H ≤ 168 ∧ P ≤ 300 ∧ x10 = nI H ∧ m14 = nI H ∧ x11 = nI P ∧ m13 = nI P ∧ x12 = m15 ∧ x13 = m16 ∧ l17 = r30 ∧ l18 = r23 ∧ l19 = r20 ∧ l20 = r21 ∧ l22 = r22 ∧ (∀ i, 8 * H ≤ i → r23 i = 0) ∧ (∀ h, h < H → rg 0 8 (r30 h)) ∧ (∀ p, p < P → l21 p = r21 p / 3600 ∧ (∃ s b : Nat, s < S ∧ r20 p = nI s ∧ r21 p = nI b ∧ b + (t10 s).toNatClampNeg ≤ 3600 * H ∧ (∀ q, p < q → q < P → b + (t10 s).toNatClampNeg ≤ (r21 q).toNatClampNeg))) ∧ (∀ s, s < 24 → p11 s = nI (cntB r20 (nI s) P) ∧ p12 s = lastB r20 r21 (nI s) P) ∧ (∀ a, a < 12 → p13 a = lastA r20 r21 t11 (nI a) P)
def RelX (k : Nat) (σx σm : St) : Prop := RT (gi σx 0) (gi σm 1) (ga σx 0) (ga σm 0) ∧ gi σx 1 = gi σm 8 ∧ RU (ga σx 1) (ga σm 1) (ga σm 2) (ga σm 4) (ga σm 5) ∧ RC (fun j => gi σx (j + 27)) (fun j => ga σx (j + 30)) (ga σm 6) (ga σm 7) (ga σm 8) (ga σm 9) ∧ RV k (ga σx 14) (ga σx 15) (ga σx 16) (ga σm 14) (ga σm 17) ∧ RS (gi σx 9) (gi σm 12) (ga σx 4) (ga σx 5) (ga σx 6) (ga σx 7) (ga σx 8) (ga σx 9) (ga σx 10) (ga σm 10) (ga σm 11) (ga σm 12) (ga σm 13) (ga σm 19) (ga σm 15) (ga σm 16) ∧ RL0 (gi σx 10) (gi σx 11) (gi σx 12) (gi σx 13) (gi σm 14) (gi σm 13) (gi σm 15) (gi σm 16) (ga σx 17) (ga σx 18) (ga σx 19) (ga σx 20) (ga σx 21) (ga σx 22) (ga σm 30) (ga σm 23) (ga σm 20) (ga σm 21) (ga σm 22) (gi σx 9) (ga σm 10) (ga σm 11) (ga σx 11) (ga σx 12) (ga σx 13)
theorem RV_mono {k : Nat} {x14 x15 x16 m14 m17 : Nat → Int32} (h : RV k x14 x15 x16 m14 m17) : RV (k + 1) x14 x15 x16 m14 m17 := fun s hs => by
  obtain ⟨V, hV, r⟩ := h s hs
  exact ⟨V, by omega, r⟩
theorem RelX_mono {k : Nat} {σx σm : St} (h : RelX k σx σm) : RelX (k + 1) σx σm := ⟨h.1, h.2.1, h.2.2.1, h.2.2.2.1, RV_mono h.2.2.2.2.1, h.2.2.2.2.2⟩
/-- the flag of the reference is no part of the relation -/
theorem RelX_thr {k : Nat} {σx σm : St} (v : Int32) (h : RelX k σx σm) : RelX (k + 1) σx (si σm 0 v) := RelX_mono h
