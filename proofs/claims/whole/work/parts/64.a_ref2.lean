/-- a row lies in an array, first song first -/
def RowAt (f : Nat → Int32) (base : Nat) : List Nat → Prop
  | [] => True
  | s :: r => f (base + r.length) = nI s ∧ RowAt f base r
theorem RowAt_tail {f : Nat → Int32} {base : Nat} : ∀ a b : List Nat, RowAt f base (a ++ b) → RowAt f base b
  | [], _, h => h
  | _ :: a, b, h => RowAt_tail a b h.2
theorem okR_tail {q : Nat → Nat → Nat} {c : Nat → Nat} {s t : Nat} : ∀ a b : List Nat, okR q c (a ++ b) s t → okR q c b s t
  | [], _, h => h
  | _ :: a, b, h => okR_tail a b h.2
theorem fits_l (N : Nat) {q : Nat → Nat → Nat} {c : Nat → Nat} {σ : St} (h : InM q c σ) {x1 s t len : Nat} (hx1 : x1 < 13824) (hlen : len ≤ 3) (hs : s < c 8) (ht : t ≤ 700000) (hc0 : c 0 ≤ 604800) : ∀ (b p : List Nat) (n : Nat), (b.reverse ++ p).length = len → RowAt (ga σ 25) (4 * x1) (b.reverse ++ p) → (∀ x, x ∈ b.reverse ++ p → x < c 8) → c 0 + sm (q 0) (b.reverse ++ p) ≤ t → okR q c p s t → b.length < n → (okR q c (b.reverse ++ p) s t → X7_fits_l6 N n (nI x1) (nI len) (nI (c 0)) (nI s) (nI t) (nI (c 0 + sm (q 0) p)) (nI p.length) σ = X7_fits_l6 N 1 (nI x1) (nI len) (nI (c 0)) (nI s) (nI t) (nI (c 0 + sm (q 0) (b.reverse ++ p))) (nI len) σ) ∧ (¬ okR q c (b.reverse ++ p) s t → X7_fits_l6 N n (nI x1) (nI len) (nI (c 0)) (nI s) (nI t) (nI (c 0 + sm (q 0) p)) (nI p.length) σ = some (nI 0, σ))
  | _, _, 0, _, _, _, _, _, h2 => absurd h2 (by omega)
  | [], p, n + 1, h1, h2, h3, h4, h5, h6 => by
    have e : p.length = len := h1
    refine ⟨fun _ => ?_, fun z => absurd h5 z⟩
    rw [e]
    show X7_fits_l6 N (n + 1) _ _ _ _ _ _ _ σ = X7_fits_l6 N 1 _ _ _ _ _ (nI (c 0 + sm (q 0) p)) _ σ
    rw [X7_fits_l6.eq_def, X7_fits_l6.eq_def N 1]
    simp only [if_pos (nI_le (Nat.le_refl len) (by omega : len < 2 ^ 31))]
  | y :: b, p, n + 1, h1, h2, h3, h4, h5, h6 => by
    have ea : (y :: b).reverse ++ p = b.reverse ++ (y :: p) := by rw [List.reverse_cons, List.append_assoc]; rfl
    rw [ea] at h1 h2 h3 h4 ⊢
    have hy := h3 y (List.mem_append_right _ List.mem_cons_self)
    have r2 := RowAt_tail b.reverse (y :: p) h2
    have ey : ga σ 25 (4 * x1 + p.length) = nI y := r2.1
    have hl : b.length + (p.length + 1) = len := by
      rw [List.length_append, List.length_reverse] at h1
      exact h1
    have hsm := sm_app (q 0) b.reverse (y :: p)
    have hsy : sm (q 0) (y :: p) = sm (q 0) p + q 0 y := rfl
    obtain ⟨m1, m2⟩ := m_rests N h hy hs
    have e10 := (h.2.2.1 y hy).1
    have h24 := h.1
    have hb : b.length < n := by
      have : (y :: b).length = b.length + 1 := rfl
      omega
    by_cases ok : c 0 + sm (q 0) p + rs q c y s ≤ t
    · have ih := fits_l N h hx1 hlen hs ht hc0 b (y :: p) n h1 h2 h3 h4 ⟨ok, h5⟩ hb
      have st : X7_fits_l6 N (n + 1) (nI x1) (nI len) (nI (c 0)) (nI s) (nI t) (nI (c 0 + sm (q 0) p)) (nI p.length) σ = X7_fits_l6 N n (nI x1) (nI len) (nI (c 0)) (nI s) (nI t) (nI (c 0 + sm (q 0) (y :: p))) (nI (y :: p).length) σ := by
        rw [X7_fits_l6.eq_def, hsy, show (y :: p).length = p.length + 1 from rfl]
        simp (disch := omega) only [if_pos, if_neg, bnd_e, cal_e, chk_t, isZ_0, isZ_1, isZ_n0, isZ_n1, ald_n, ast_n, stb_n, litI, nI_add, pk_mul, pk_sub, Nat.add_sub_cancel, nar_0, nar_1, nI_leI, nI_ltI, nI_eq, Nat.not_lt_zero, Nat.le_zero_eq, Nat.zero_le, not_true_eq_false, not_false_eq_true, reduceIte, if_true, if_false, ite_self, Bool.false_eq_true, Nat.reduceEqDiff, Nat.reduceAdd, Nat.reduceMul, Nat.reduceSub, Nat.reduceLT, Nat.reduceLeDiff, Nat.reducePow, gi_si, gi_sg, gi_sa, gi_sl, ga_si, ga_sg2, ga_sa, ga_sl, gl_si, gl_sg, gl_sa, gl_sl, ey, m1, e10, Nat.add_assoc]
      rw [st]
      exact ih
    · refine ⟨fun z => absurd (okR_tail _ _ z).1 ok, fun _ => ?_⟩
      rw [X7_fits_l6.eq_def]
      simp (disch := omega) only [if_pos, if_neg, bnd_e, cal_e, chk_t, isZ_0, isZ_1, isZ_n0, isZ_n1, ald_n, ast_n, stb_n, litI, nI_add, pk_mul, pk_sub, Nat.add_sub_cancel, nar_0, nar_1, nI_leI, nI_ltI, nI_eq, Nat.not_lt_zero, Nat.le_zero_eq, Nat.zero_le, not_true_eq_false, not_false_eq_true, reduceIte, if_true, if_false, ite_self, Bool.false_eq_true, Nat.reduceEqDiff, Nat.reduceAdd, Nat.reduceMul, Nat.reduceSub, Nat.reduceLT, Nat.reduceLeDiff, Nat.reducePow, gi_si, gi_sg, gi_sa, gi_sl, ga_si, ga_sg2, ga_sa, ga_sl, gl_si, gl_sg, gl_sa, gl_sl, ey, m1]
