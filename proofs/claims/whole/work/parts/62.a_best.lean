/-! lay: how the best row changes when rows come in -/
theorem IsB_iff {q : Nat → Nat → Nat} {c : Nat → Nat} {P P2 : List Nat → Prop} {b : Option (List Nat)} (h : IsB q c P b) (e : ∀ r, P r ↔ P2 r) : IsB q c P2 b := by
  cases b with
  | none => exact fun r hr => h r ((e r).mpr hr)
  | some x => exact ⟨(e x).mp h.1, fun r hr => h.2 r ((e r).mpr hr)⟩
theorem vb_tr {q : Nat → Nat → Nat} {c : Nat → Nat} {a b d : List Nat} (h : bb q c a b) (k : bb q c b d) : bb q c a d := by
  unfold bb vb at *
  rcases h with (h | ⟨h1, h2⟩) | ⟨h1, h2, h3⟩
  · rcases k with (k | ⟨k1, k2⟩) | ⟨k1, k2, k3⟩
    · exact Or.inl (Or.inl (by omega))
    · exact Or.inl (Or.inl (by omega))
    · exact Or.inl (Or.inl (by omega))
  · rcases k with (k | ⟨k1, k2⟩) | ⟨k1, k2, k3⟩
    · exact Or.inl (Or.inl (by omega))
    · exact Or.inl (Or.inr ⟨by omega, by omega⟩)
    · exact Or.inl (Or.inr ⟨by omega, by omega⟩)
  · rcases k with (k | ⟨k1, k2⟩) | ⟨k1, k2, k3⟩
    · exact Or.inl (Or.inl (by omega))
    · exact Or.inl (Or.inr ⟨by omega, by omega⟩)
    · exact Or.inr ⟨by omega, by omega, lx_tr _ _ _ h3 k3⟩
/-- the first row -/
theorem IsB_one {q : Nat → Nat → Nat} {c : Nat → Nat} {P : List Nat → Prop} {r : List Nat} (h : IsB q c P none) : IsB q c (fun x => P x ∨ x = r) (some r) := ⟨Or.inr rfl, fun x hx => hx.elim (fun z => absurd z (h x)) (fun z => Or.inl z)⟩
/-- a better row -/
theorem IsB_take {q : Nat → Nat → Nat} {c : Nat → Nat} {P : List Nat → Prop} {r0 r : List Nat} (h : IsB q c P (some r0)) (k : bb q c r r0) : IsB q c (fun x => P x ∨ x = r) (some r) := ⟨Or.inr rfl, fun x hx => hx.elim (fun z => (h.2 x z).elim (fun e => Or.inr (by rw [e]; exact k)) (fun e => Or.inr (vb_tr k e))) (fun z => Or.inl z)⟩
/-- rows that are not better -/
theorem IsB_keep {q : Nat → Nat → Nat} {c : Nat → Nat} {P Q : List Nat → Prop} {r0 : List Nat} (h : IsB q c P (some r0)) (k : ∀ x, Q x → x = r0 ∨ bb q c r0 x) : IsB q c (fun x => P x ∨ Q x) (some r0) := ⟨Or.inl h.1, fun x hx => hx.elim (h.2 x) (k x)⟩
/-- no row at all -/
theorem IsB_no {q : Nat → Nat → Nat} {c : Nat → Nat} {P Q : List Nat → Prop} {b : Option (List Nat)} (h : IsB q c P b) (k : ∀ x, ¬ Q x) : IsB q c (fun x => P x ∨ Q x) b := IsB_iff h (fun x => ⟨Or.inl, fun z => z.elim id (fun y => absurd y (k x))⟩)
/-- sums of a row that grew -/
theorem sm_app (f : Nat → Nat) : ∀ a b : List Nat, sm f (a ++ b) = sm f a + sm f b
  | [], b => by
    show sm f b = 0 + sm f b
    omega
  | x :: a, b => by
    show sm f (a ++ b) + f x = sm f a + f x + sm f b
    rw [sm_app f a b]
    omega
theorem sm_le {f : Nat → Nat} {m : Nat} : ∀ a : List Nat, (∀ x, x ∈ a → f x ≤ m) → sm f a ≤ a.length * m
  | [], _ => Nat.zero_le _
  | x :: a, h => by
    have i := sm_le a (fun y hy => h y (List.mem_cons_of_mem _ hy))
    have j := h x List.mem_cons_self
    show sm f a + f x ≤ (a.length + 1) * m
    rw [Nat.succ_mul]
    omega
theorem Fs_tail {q : Nat → Nat → Nat} {c : Nat → Nat} {lg : Nat → Nat → Prop} : ∀ a b : List Nat, Fs q c lg (a ++ b) → Fs q c lg b
  | [], _, h => h
  | _ :: a, b, h => Fs_tail a b h.1
theorem Fs_mem {q : Nat → Nat → Nat} {c : Nat → Nat} {lg : Nat → Nat → Prop} {s : Nat} : ∀ a : List Nat, Fs q c lg a → s ∈ a → ∃ r : List Nat, can q c lg r s
  | [], _, hs => absurd hs List.not_mem_nil
  | x :: a, h, hs => by
    rcases List.mem_cons.mp hs with z | z
    · exact ⟨a, by rw [z]; exact h.2⟩
    · exact Fs_mem a h.1 z
theorem Fs_sum {q : Nat → Nat → Nat} {c : Nat → Nat} {lg : Nat → Nat → Prop} : ∀ a : List Nat, Fs q c lg a → sm (q 0) a ≤ c 1
  | [], _ => Nat.zero_le _
  | x :: a, h => by
    have := h.2.2.2.1
    exact this
