theorem pure_sim : ∃ (N : Nat) (Rel : Nat → St → St → Prop), Sim N Rel := sorry
