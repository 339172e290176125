/-! lay: rows of songs, the best row. A row is kept with its last song ahead.
q 0 seconds, q 1 artist, q 2 key, q 3 heat, q 4 newness, q 5 one if the mood fits;
c 0 begin, c 1 length, c 2 new ones wanted, c 3 slack, c 4 most, c 5 gap, c 6 artist gap, c 7 steps, c 8 songs, c 9 key ahead and one (0: none);
lg s t: the log lets song s begin at second t -/
def lx : List Nat → List Nat → Prop
  | [], [] => False
  | [], _ :: _ => True
  | _ :: _, [] => False
  | a :: as, b :: bs => a < b ∨ (a = b ∧ lx as bs)
theorem lx_irr : ∀ a : List Nat, ¬ lx a a
  | [], h => h
  | a :: as, h => h.elim (fun z => absurd z (Nat.lt_irrefl a)) (fun z => lx_irr as z.2)
theorem lx_asym : ∀ a b : List Nat, lx a b → ¬ lx b a
  | [], [], h, _ => h
  | [], _ :: _, _, k => k
  | _ :: _, [], h, _ => h
  | a :: as, b :: bs, h, k => by
    rcases h with h | ⟨h1, h2⟩
    · rcases k with k | ⟨k1, k2⟩
      · omega
      · omega
    · rcases k with k | ⟨k1, k2⟩
      · omega
      · exact lx_asym as bs h2 k2
theorem lx_tr : ∀ a b c : List Nat, lx a b → lx b c → lx a c
  | [], _, _ :: _, _, _ => trivial
  | [], [], [], h, _ => h
  | [], _ :: _, [], _, k => k
  | _ :: _, [], _, h, _ => absurd h (fun z => z)
  | _ :: _, _ :: _, [], _, k => absurd k (fun z => z)
  | a :: as, b :: bs, c :: cs, h, k => by
    rcases h with h | ⟨h1, h2⟩
    · rcases k with k | ⟨k1, k2⟩
      · exact Or.inl (by omega)
      · exact Or.inl (by omega)
    · rcases k with k | ⟨k1, k2⟩
      · exact Or.inl (by omega)
      · exact Or.inr ⟨by omega, lx_tr as bs cs h2 k2⟩
theorem lx_tot : ∀ a b : List Nat, a = b ∨ lx a b ∨ lx b a
  | [], [] => Or.inl rfl
  | [], _ :: _ => Or.inr (Or.inl trivial)
  | _ :: _, [] => Or.inr (Or.inr trivial)
  | a :: as, b :: bs => by
    rcases Nat.lt_trichotomy a b with h | h | h
    · exact Or.inr (Or.inl (Or.inl h))
    · subst h
      rcases lx_tot as bs with z | z | z
      · exact Or.inl (by rw [z])
      · exact Or.inr (Or.inl (Or.inr ⟨rfl, z⟩))
      · exact Or.inr (Or.inr (Or.inr ⟨rfl, z⟩))
    · exact Or.inr (Or.inr (Or.inl h))
/-- a common beginning -/
theorem lx_app : ∀ p a b : List Nat, lx (p ++ a) (p ++ b) ↔ lx a b
  | [], _, _ => Iff.rfl
  | x :: p, a, b => by
    constructor
    · intro h
      rcases h with h | ⟨_, h⟩
      · exact absurd h (Nat.lt_irrefl x)
      · exact (lx_app p a b).mp h
    · intro h
      exact Or.inr ⟨rfl, (lx_app p a b).mpr h⟩
def sm (f : Nat → Nat) : List Nat → Nat
  | [] => 0
  | x :: r => sm f r + f x
def rs (q : Nat → Nat → Nat) (c : Nat → Nat) (x s : Nat) : Nat := max (if x = s then c 5 else 0) (if q 1 x = q 1 s then c 6 else 0)
def okR (q : Nat → Nat → Nat) (c : Nat → Nat) : List Nat → Nat → Nat → Prop
  | [], _, _ => True
  | x :: r, s, t => c 0 + sm (q 0) r + rs q c x s ≤ t ∧ okR q c r s t
def stp (a b : Nat) : Nat := if (if a ≤ b then b - a else a - b) ≤ 6 then (if a ≤ b then b - a else a - b) else 12 - (if a ≤ b then b - a else a - b)
def okK (q : Nat → Nat → Nat) (c : Nat → Nat) : List Nat → Nat → Prop
  | [], s => c 9 = 0 ∨ stp (c 9 - 1) (q 2 s) ≤ c 7
  | x :: _, s => stp (q 2 x) (q 2 s) ≤ c 7
def can (q : Nat → Nat → Nat) (c : Nat → Nat) (lg : Nat → Nat → Prop) (r : List Nat) (s : Nat) : Prop := s < c 8 ∧ q 5 s = 1 ∧ sm (q 0) r + q 0 s ≤ c 1 ∧ lg s (c 0 + sm (q 0) r) ∧ okR q c r s (c 0 + sm (q 0) r) ∧ okK q c r s
def Fs (q : Nat → Nat → Nat) (c : Nat → Nat) (lg : Nat → Nat → Prop) : List Nat → Prop
  | [] => True
  | s :: r => Fs q c lg r ∧ can q c lg r s
def Ad (q : Nat → Nat → Nat) (c : Nat → Nat) (lg : Nat → Nat → Prop) (r : List Nat) : Prop := Fs q c lg r ∧ r ≠ [] ∧ r.length ≤ c 4 ∧ c 1 - sm (q 0) r ≤ c 3 ∧ c 2 ≤ sm (q 4) r
/-- better by left and heat; better at all -/
def vb (q : Nat → Nat → Nat) (c : Nat → Nat) (r r2 : List Nat) : Prop := c 1 - sm (q 0) r < c 1 - sm (q 0) r2 ∨ (c 1 - sm (q 0) r = c 1 - sm (q 0) r2 ∧ sm (q 3) r2 < sm (q 3) r)
def bb (q : Nat → Nat → Nat) (c : Nat → Nat) (r r2 : List Nat) : Prop := vb q c r r2 ∨ (c 1 - sm (q 0) r = c 1 - sm (q 0) r2 ∧ sm (q 3) r = sm (q 3) r2 ∧ lx r.reverse r2.reverse)
theorem bb_asym {q : Nat → Nat → Nat} {c : Nat → Nat} {r r2 : List Nat} (h : bb q c r r2) : ¬ bb q c r2 r := by
  intro k
  unfold bb vb at h k
  rcases h with (h | ⟨h1, h2⟩) | ⟨h1, h2, h3⟩
  · rcases k with (k | ⟨k1, k2⟩) | ⟨k1, k2, k3⟩ <;> omega
  · rcases k with (k | ⟨k1, k2⟩) | ⟨k1, k2, k3⟩ <;> omega
  · rcases k with (k | ⟨k1, k2⟩) | ⟨k1, k2, k3⟩
    · omega
    · omega
    · exact lx_asym _ _ h3 k3
theorem bb_tot {q : Nat → Nat → Nat} {c : Nat → Nat} (r r2 : List Nat) : r = r2 ∨ bb q c r r2 ∨ bb q c r2 r := by
  unfold bb vb
  rcases Nat.lt_trichotomy (c 1 - sm (q 0) r) (c 1 - sm (q 0) r2) with h | h | h
  · exact Or.inr (Or.inl (Or.inl (Or.inl h)))
  · rcases Nat.lt_trichotomy (sm (q 3) r) (sm (q 3) r2) with k | k | k
    · exact Or.inr (Or.inr (Or.inl (Or.inr ⟨h.symm, k⟩)))
    · rcases lx_tot r.reverse r2.reverse with z | z | z
      · exact Or.inl (List.reverse_inj.mp z)
      · exact Or.inr (Or.inl (Or.inr ⟨h, k, z⟩))
      · exact Or.inr (Or.inr (Or.inr ⟨h.symm, k.symm, z⟩))
    · exact Or.inr (Or.inl (Or.inl (Or.inr ⟨h, k⟩)))
  · exact Or.inr (Or.inr (Or.inl (Or.inl h)))
/-- b is the best of the rows of P -/
def IsB (q : Nat → Nat → Nat) (c : Nat → Nat) (P : List Nat → Prop) (b : Option (List Nat)) : Prop := match b with
  | none => ∀ r, ¬ P r
  | some r => P r ∧ ∀ r2, P r2 → r2 = r ∨ bb q c r r2
theorem IsB_uni {q : Nat → Nat → Nat} {c : Nat → Nat} {P : List Nat → Prop} {a b : Option (List Nat)} (h : IsB q c P a) (k : IsB q c P b) : a = b := by
  cases a with
  | none => cases b with
    | none => rfl
    | some y => exact absurd k.1 (h y)
  | some x => cases b with
    | none => exact absurd h.1 (k x)
    | some y =>
      rcases h.2 y k.1 with z | z
      · rw [z]
      · rcases k.2 x h.1 with w | w
        · rw [w]
        · exact absurd w (bb_asym z)
