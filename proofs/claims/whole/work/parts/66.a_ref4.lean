theorem m_fits (N : Nat) (hN : 10 < N) {q : Nat → Nat → Nat} {c : Nat → Nat} {σ : St} (h : InM q c σ) (hk : KyM q c σ) {x1 s : Nat} (hx1 : x1 < 13824) (hs : s < c 8) (hc0 : c 0 ≤ 604800) (r : List Nat) (hl : r.length ≤ 3) (hr : RowAt (ga σ 25) (4 * x1) r) (hm : ∀ x, x ∈ r → x < c 8) (hsm : sm (q 0) r ≤ 3600) : (okR q c r s (c 0 + sm (q 0) r) ∧ okK q c r s → X7_fits_f N (nI x1) (nI r.length) (nI (c 0)) (nI s) (nI (c 0 + sm (q 0) r)) σ = some (nI 1, σ)) ∧ (¬ (okR q c r s (c 0 + sm (q 0) r) ∧ okK q c r s) → X7_fits_f N (nI x1) (nI r.length) (nI (c 0)) (nI s) (nI (c 0 + sm (q 0) r)) σ = some (nI 0, σ)) := by
  have e : r.reverse.reverse ++ [] = r := by rw [List.reverse_reverse, List.append_nil]
  have f := fits_l N h (t := c 0 + sm (q 0) r) hx1 hl hs (by omega) hc0 r.reverse [] N (by rw [e]) (by rw [e]; exact hr) (by rw [e]; exact hm) (by rw [e]; exact Nat.le_refl _) trivial (by rw [List.length_reverse]; omega)
  rw [e] at f
  have g := fits_e N h hk (t := nI (c 0 + sm (q 0) r)) (v := nI (c 0 + sm (q 0) r)) hx1 hs hc0 r hl hr hm
  have z0 : X7_fits_f N (nI x1) (nI r.length) (nI (c 0)) (nI s) (nI (c 0 + sm (q 0) r)) σ = X7_fits_l6 N N (nI x1) (nI r.length) (nI (c 0)) (nI s) (nI (c 0 + sm (q 0) r)) (nI (c 0 + sm (q 0) [])) (nI ([] : List Nat).length) σ := rfl
  rw [z0]
  by_cases a : okR q c r s (c 0 + sm (q 0) r)
  · by_cases b : okK q c r s
    · exact ⟨fun _ => (f.1 a).trans (g.1 b), fun z => absurd ⟨a, b⟩ z⟩
    · exact ⟨fun z => absurd z.2 b, fun _ => (f.1 a).trans (g.2 b)⟩
  · exact ⟨fun z => absurd z.1 a, fun _ => f.2 a⟩
