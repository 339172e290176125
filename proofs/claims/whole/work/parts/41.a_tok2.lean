/-- a word's number to the base 27 -/
def cd (b : Nat → Nat) (f : Nat) : Nat → Nat
  | 0 => 0
  | n + 1 => 27 * cd b f n + (b (f + n) - 96)
theorem cd_lt {b : Nat → Nat} {f : Nat} : ∀ n, (∀ i, i < n → b (f + i) ≤ 122) → cd b f n < 27 ^ n
  | 0, _ => Nat.lt_succ_self 0
  | n + 1, h => by
    have a := cd_lt n (fun i hi => h i (by omega))
    have c := h n (by omega)
    show 27 * cd b f n + (b (f + n) - 96) < 27 ^ (n + 1)
    rw [Nat.pow_succ]
    omega
/-- what the two know of a token: f its begin, e its end -/
def Kd (bt : Nat → Nat) (f e : Nat) (kx km v num : Int32) (w : Int64) : Prop := (kx = nI 0 ∧ km = nI 1) ∨ (kx = nI 2 ∧ km = nI 2 ∧ f < e ∧ (∀ j, f ≤ j → j < e → bLet (bt j) = true) ∧ w = if e - f ≤ 7 then lN (cd bt f (e - f)) else -1) ∨ (kx = nI 3 ∧ km = nI 3 ∧ ∃ n : Nat, n ≤ 9999 ∧ v = nI n ∧ num = nI n)
def Nmv (k : Nat) (v num : Int32) : Prop := ∃ n : Nat, n < 10 ^ k ∧ v = nI n ∧ num = nI n
def Ti (bt : Nat → Nat) (f i l d u F : Nat) (v num : Int32) (w : Int64) : Prop := l + d = i - f ∧ u ≤ 1 ∧ F ≤ 1 ∧ (u = 1 → F = 1 → d = 0 ∧ (∀ j, f ≤ j → j < i → bLet (bt j) = true) ∧ w = if i - f ≤ 7 then lN (cd bt f (i - f)) else -1) ∧ (u = 1 → F = 0 → l = 0 ∧ (i - f ≤ 4 → Nmv (i - f) v num)) ∧ (u = 0 → 0 < l ∧ 0 < d)
/-- one byte more: a letter -/
theorem Ti_letter {bt : Nat → Nat} {f i l d u F : Nat} {v num : Int32} {w : Int64} (hf : f ≤ i) (hF : F = if bLet (bt f) = true then 1 else 0) (hb : bLet (bt i) = true) (h : Ti bt f i l d u F v num w) (num2 : Int32) : Ti bt f (i + 1) (l + 1) d (if u = 1 ∧ F = 1 then 1 else 0) F v num2 (if 7 ≤ i - f then -1 else (((27 : Int64) * w) + ((nI (bt i) : Int32).toInt64)) - 96) := by
  obtain ⟨h1, h2, h3, h4, h5, h6⟩ := h
  have hbi := bLet_i.mp hb
  by_cases hu : u = 1 ∧ F = 1
  · obtain ⟨rfl, rfl⟩ := hu
    obtain ⟨a1, a2, a3⟩ := h4 rfl rfl
    refine ⟨by omega, by simp, by omega, fun _ _ => ⟨a1, fun j j1 j2 => ?_, ?_⟩, fun _ q => absurd q (by omega), fun q => absurd q (by simp)⟩
    · by_cases q : j = i
      · rw [q]; exact hb
      · exact a2 j j1 (by omega)
    · by_cases q : 7 ≤ i - f
      · rw [if_pos q, if_neg (by omega)]
      · rw [if_neg q, if_pos (by omega), a3, if_pos (by omega), nI_l (by omega)]
        have e : i + 1 - f = (i - f) + 1 := by omega
        rw [e]
        show lN 27 * lN (cd bt f (i - f)) + lN (bt i) - lN 96 = lN (27 * cd bt f (i - f) + (bt (f + (i - f)) - 96))
        rw [lN_mul, lN_add, lN_sub (by omega), show f + (i - f) = i by omega]
        congr 1
        omega
  · rw [if_neg hu]
    refine ⟨by omega, by omega, h3, fun q => absurd q (by omega), fun q => absurd q (by omega), fun _ => ⟨by omega, ?_⟩⟩
    by_cases u1 : u = 1
    · have F0 : F = 0 := by
        by_cases q : F = 1
        · exact absurd ⟨u1, q⟩ hu
        · omega
      have c := h5 u1 F0
      have : f ≠ i := by
        intro q
        rw [q, if_pos hb] at hF
        omega
      omega
    · exact (h6 (by omega)).2
theorem Ti_digit {bt : Nat → Nat} {f i l d u F : Nat} {v num : Int32} {w : Int64} (hf : f ≤ i) (hF : F = if bLet (bt f) = true then 1 else 0) (hb : bDig (bt i) = true) (h : Ti bt f i l d u F v num w) (w2 : Int64) : Ti bt f (i + 1) l (d + 1) (if u = 1 ∧ F = 0 then 1 else 0) F (v * nI 10 + (nI (bt i) - nI 48)) (if 4 ≤ i - f then num else nI 10 * num + nI (bt i) - nI 48) w2 := by
  obtain ⟨h1, h2, h3, h4, h5, h6⟩ := h
  have hbi := bDig_i.mp hb
  have hnl : ¬ bLet (bt i) = true := fun q => by
    have := bLet_i.mp q
    omega
  by_cases hu : u = 1 ∧ F = 0
  · obtain ⟨rfl, rfl⟩ := hu
    obtain ⟨a1, a2⟩ := h5 rfl rfl
    refine ⟨by omega, by simp, by omega, fun _ q => absurd q (by omega), fun _ _ => ⟨a1, fun q => ?_⟩, fun q => absurd q (by simp)⟩
    obtain ⟨n, n1, n2, n3⟩ := a2 (by omega)
    rw [if_neg (by omega), n2, n3]
    refine ⟨10 * n + (bt i - 48), ?_, ?_, ?_⟩
    · rw [show i + 1 - f = (i - f) + 1 by omega, Nat.pow_succ]
      omega
    · rw [pk_sub (by omega), pk_mul, nI_add, Nat.mul_comm n 10]
    · rw [pk_mul, nI_add, pk_sub (by omega)]
      congr 1
      omega
  · rw [if_neg hu]
    refine ⟨by omega, by omega, h3, fun q => absurd q (by omega), fun q => absurd q (by omega), fun _ => ⟨?_, by omega⟩⟩
    by_cases u1 : u = 1
    · have F1 : F = 1 := by
        by_cases q : F = 0
        · exact absurd ⟨u1, q⟩ hu
        · omega
      have c := h4 u1 F1
      have : f ≠ i := by
        intro q
        rw [q, if_neg hnl] at hF
        omega
      omega
    · exact (h6 (by omega)).1
