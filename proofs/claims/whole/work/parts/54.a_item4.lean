theorem ri_x0 (N : Nat) {σx : St} (a : X5_isWord_f N 6 σx = some (nI 0, σx)) (a7 : X5_isWord_f N 7 σx = some (nI 1, σx)) : X0_readOne_f N σx = X0_readOne_l26 N (nI 0) σx := by
  unfold X0_readOne_f
  rw [a, cal_e, if_pos (show nI 0 = (0 : Int32) from rfl), a7, cal_e, if_neg (show ¬ nI 1 = (0 : Int32) by decide)]
theorem ri_x1 (N : Nat) {σx : St} (a : X5_isWord_f N 6 σx = some (nI 1, σx)) : X0_readOne_f N σx = X0_readOne_l26 N (nI 1) σx := by
  unfold X0_readOne_f
  rw [a, cal_e, if_neg (show ¬ nI 1 = (0 : Int32) by decide)]
theorem ri_xb (N : Nat) {σx σ2 : St} (a : X5_isWord_f N 6 σx = some (nI 0, σx)) (a7 : X5_isWord_f N 7 σx = some (nI 0, σx)) (r : X5_refuse_f N (nI 1) σx = some (nI 0, σ2)) : X0_readOne_f N σx = some (nI 0, σ2) := by
  unfold X0_readOne_f
  rw [a, cal_e, if_pos (show nI 0 = (0 : Int32) from rfl), a7, cal_e, if_pos (show nI 0 = (0 : Int32) from rfl), show X5_refuse_f N 1 σx = some (nI 0, σ2) from r, cal_e]
  rfl
def K6 : Int64 := lN (cd (kb 6) 0 (kl 6))
def K7 : Int64 := lN (cd (kb 7) 0 (kl 7))
theorem up6 (N : Nat) (s : St) : X7_spelt_f N 115 111 110 103 115 0 s = some (K6, s) := sp6 N s
theorem up7 (N : Nat) (s : St) : X7_spelt_f N 116 97 108 107 0 0 s = some (K7, s) := sp7 N s
theorem ri_m0 (N : Nat) {σ : St} (a : X7_isKey_f N K6 σ = some (nI 0, σ)) (a7 : X7_isKey_f N K7 σ = some (nI 1, σ)) : X7_readItem_f N σ = X7_readItem_l49 N (nI 0) σ := by
  unfold X7_readItem_f
  rw [up6, cal_e, a, cal_e, if_pos (show nI 0 = (0 : Int32) from rfl), up7, cal_e, a7, cal_e, if_neg (show ¬ nI 1 = (0 : Int32) by decide)]
theorem ri_m1 (N : Nat) {σ : St} (a : X7_isKey_f N K6 σ = some (nI 1, σ)) : X7_readItem_f N σ = X7_readItem_l49 N (nI 1) σ := by
  unfold X7_readItem_f
  rw [up6, cal_e, a, cal_e, if_neg (show ¬ nI 1 = (0 : Int32) by decide)]
theorem ri_mb (N : Nat) {σ σ2 : St} (a : X7_isKey_f N K6 σ = some (nI 0, σ)) (a7 : X7_isKey_f N K7 σ = some (nI 0, σ)) (r : X7_bad_f N (nI 1) σ = some (nI 0, σ2)) : X7_readItem_f N σ = some (nI 0, σ2) := by
  unfold X7_readItem_f
  rw [up6, cal_e, a, cal_e, if_pos (show nI 0 = (0 : Int32) from rfl), up7, cal_e, a7, cal_e, if_pos (show nI 0 = (0 : Int32) from rfl), show X7_bad_f N 1 σ = some (nI 0, σ2) from r, cal_e]
  rfl
theorem item_both (N : Nat) (hN : 260 < N) {T L n : Nat} {bt : Nat → Nat} {σx σm : St} (c : PC T L bt σx σm) (t : Tk T bt σx σm) (h : CIb n n σx σm) : OutI T L bt n σx σm (X0_readOne_f N σx) (X7_readItem_f N σm) := by
  obtain ⟨r, l, a, b, k⟩ := word_both N hN (i := 6) (by omega) rfl c t
  obtain ⟨r7, l7, a7, b7, k7⟩ := word_both N hN (i := 7) (by omega) rfl c t
  have b' : X7_isKey_f N K6 σm = some (nI r, σm) := b
  have b7' : X7_isKey_f N K7 σm = some (nI r7, σm) := b7
  rcases r01 l with rfl | rfl
  · rcases r01 l7 with rfl | rfl
    · left
      obtain ⟨f, e, t1, t2, t3, t4⟩ := id t
      obtain ⟨σx5, σm5, r1, r2, r3, r4, r5⟩ := bad_both N c.1 t1 t2 t3 1 1 (by by_cases z : gi σm 6 = nI 1 <;> simp [z])
      exact ⟨σx5, σm5, ri_xb N a a7 r1, ri_mb N b' b7' r2, r3, r4.c, r5.c⟩
    · rw [ri_x0 N a a7, ri_m0 N b' b7']
      exact l26_both N hN (by omega) c t h (k7 rfl)
  · rw [ri_x1 N a, ri_m1 N b']
    exact l26_both N hN (by omega) c t h (k rfl)
