/-! all calls together -/
theorem s_lay (N : Nat) (hN : 60000 < N) : Sim_lay N RelX := sorry
theorem pure_sim : ∃ (N : Nat) (Rel : Nat → St → St → Prop), Sim N Rel := ⟨60001, RelX, rel_ini, fun _ _ _ h => RelX_mono h, s_feed _ (by omega), s_end _, s_rules _ (by omega), s_clock _ (by omega), s_fault _, s_rule _, s_song _, s_vote _ (by omega), s_ask _, s_lay _ (by omega), s_told _ (by omega), s_play _, s_left _, s_at _ (by omega), s_rights _ (by omega), s_items _, s_count _ (by omega)⟩
