set_option maxRecDepth 20000 in
def X4_has_f (N : Nat) (x1 : Int32) (s0 : St) : Option (Int32 × St) :=
  if x1 < 0 then
  some (0, s0)
  else
  if gi s0 9 ≤ x1 then
    some (0, s0)
    else
    some (1, s0)
set_option maxRecDepth 20000 in
theorem X4_has_ok (l : Launch) (D : va_G) (g : Gm) {N : Nat} {x1 : Int32} {s0 : St} {o : Int32 × St} (h : X4_has_f N x1 s0 = some o) : MI l yX4_has cX4_has 2 (some .boolean) 0 D g (wX g) [.ref (g.1 8), .int x1] s0 o := by
  refine met_I (own := RX4) (by decide) rfl (Nat.le_of_ble_eq_true rfl) (fun K hC => ?_)
  show J K (wX g) 2 (QI K g (wX g) o) 0 [(0, .ref (g.1 8)), (1, .int x1)] [] s0
  unfold X4_has_f at h
  refine j_iload_n hC dX4_has_0 rfl 1 rfl ?_
  refine j_if_lt (tgt := 16) hC dX4_has_1 (by decide) h ?_ ?_
  · intro h
    refine j_iconst (v := 0) hC dX4_has_16 (by decide) ?_
    exact j_iret hC dX4_has_17 rfl h
  · intro h
    refine j_iload_n hC dX4_has_4 rfl 1 rfl ?_
    refine j_aload_n hC dX4_has_5 rfl 0 rfl ?_
    refine get_X4_58 hC dX4_has_6 ?_
    refine j_icmp_ge (tgt := 16) hC dX4_has_9 (by decide) h ?_ ?_
    · intro h
      refine j_iconst (v := 0) hC dX4_has_16 (by decide) ?_
      exact j_iret hC dX4_has_17 rfl h
    · intro h
      refine j_iconst (v := 1) hC dX4_has_12 (by decide) ?_
      refine j_goto (tgt := 17) hC dX4_has_13 (by decide) ?_
      exact j_iret hC dX4_has_17 rfl h
set_option maxRecDepth 20000 in
def X4_add_f (N : Nat) (x1 : Int32) (x2 : Int32) (x3 : Int32) (x4 : Int32) (x5 : Int32) (s0 : St) : Option (Int32 × St) :=
  bnd (gi s0 9) fun v1 =>
  ast s0 4 24 v1 x1 fun s1 =>
  ast s1 5 24 v1 x2 fun s2 =>
  ast s2 6 24 v1 x3 fun s3 =>
  ast s3 7 24 v1 x4 fun s4 =>
  ast s4 8 24 v1 x5 fun s5 =>
  bnd (si s5 9 ((gi s5 9) + 1)) fun s6 =>
  some (v1, s6)
set_option maxRecDepth 20000 in
theorem X4_add_ok (l : Launch) (D : va_G) (g : Gm) {N : Nat} {x1 : Int32} {x2 : Int32} {x3 : Int32} {x4 : Int32} {x5 : Int32} {s0 : St} {o : Int32 × St} (h : X4_add_f N x1 x2 x3 x4 x5 s0 = some o) : MI l yX4_add cX4_add 7 (some .int) 0 D g (wX g) [.ref (g.1 8), .int x1, .int x2, .int x3, .int x4, .int x5] s0 o := by
  refine met_I (own := RX4) (by decide) rfl (Nat.le_of_ble_eq_true rfl) (fun K hC => ?_)
  show J K (wX g) 7 (QI K g (wX g) o) 0 [(0, .ref (g.1 8)), (1, .int x1), (2, .int x2), (3, .int x3), (4, .int x4), (5, .int x5)] [] s0
  unfold X4_add_f at h
  refine j_aload_n hC dX4_add_0 rfl 0 rfl ?_
  refine get_X4_58 hC dX4_add_1 ?_
  refine j_bi (E := gi s0 9) h (fun v1 h => ?_)
  refine j_istore hC dX4_add_4 (by decide) rfl ?_
  refine j_aload_n hC dX4_add_6 rfl 1 rfl ?_
  refine get_X4_9 hC dX4_add_7 ?_
  refine j_iload hC dX4_add_10 0 rfl ?_
  refine j_iload_n hC dX4_add_12 rfl 2 rfl ?_
  refine j_pc (n2 := 13) rfl ?_
  refine ast_X4_seconds hC dX4_add_13 h ?_
  intro s1 h
  refine j_aload_n hC dX4_add_14 rfl 1 rfl ?_
  refine get_X4_15 hC dX4_add_15 ?_
  refine j_iload hC dX4_add_18 0 rfl ?_
  refine j_iload_n hC dX4_add_20 rfl 3 rfl ?_
  refine ast_X4_artist hC dX4_add_21 h ?_
  intro s2 h
  refine j_aload_n hC dX4_add_22 rfl 1 rfl ?_
  refine get_X4_18 hC dX4_add_23 ?_
  refine j_pc (n2 := 26) rfl ?_
  refine j_iload hC dX4_add_26 0 rfl ?_
  refine j_iload_n hC dX4_add_28 rfl 4 rfl ?_
  refine ast_X4_key hC dX4_add_29 h ?_
  intro s3 h
  refine j_aload_n hC dX4_add_30 rfl 1 rfl ?_
  refine get_X4_21 hC dX4_add_31 ?_
  refine j_iload hC dX4_add_34 0 rfl ?_
  refine j_iload hC dX4_add_36 5 rfl ?_
  refine ast_X4_mood hC dX4_add_38 h ?_
  intro s4 h
  refine j_pc (n2 := 39) rfl ?_
  refine j_aload_n hC dX4_add_39 rfl 1 rfl ?_
  refine get_X4_24 hC dX4_add_40 ?_
  refine j_iload hC dX4_add_43 0 rfl ?_
  refine j_iload hC dX4_add_45 6 rfl ?_
  refine ast_X4_newness hC dX4_add_47 h ?_
  intro s5 h
  refine j_aload_n hC dX4_add_48 rfl 1 rfl ?_
  refine j_dup hC rfl dX4_add_49 ?_
  refine get_X4_58 hC dX4_add_50 ?_
  refine j_pc (n2 := 53) rfl ?_
  refine j_iconst (v := 1) hC dX4_add_53 (by decide) ?_
  refine j_iadd hC dX4_add_54 ?_
  refine put_X4_58 hC dX4_add_55 h ?_
  intro s6 h
  refine j_iload hC dX4_add_58 0 rfl ?_
  exact j_iret hC dX4_add_60 rfl h
set_option maxRecDepth 20000 in
def X4_takeVote_l67 (N : Nat) (t1 : Int32) (t2 : Int32) (s0 : St) : Option (Int32 × St) :=
  ast s0 15 24 t1 t2 fun s1 =>
  some (0, s1)
set_option maxRecDepth 20000 in
theorem X4_takeVote_l67_ok {K : Kx} {g : Gm} {N : Nat} {o : Int32 × St} (hC : Ok K cX4_takeVote RX4 g 4 0 none) : ∀ (t1 : Int32) (t2 : Int32) (s0 : St), X4_takeVote_l67 N t1 t2 s0 = some o → J K (wX g) 4 (QV K g (wX g) o) 67 [] [.int t2, .int t1, .ref (g.1 20)] s0 := by
  intro t1 t2 s0 h
  unfold X4_takeVote_l67 at h
  refine ast_X4_oldestVote hC dX4_takeVote_67 h ?_
  intro s1 h
  exact j_vret (v := 0) hC dX4_takeVote_68 h
set_option maxRecDepth 20000 in
def X4_takeVote_f (N : Nat) (x1 : Int32) (x2 : Int32) (s0 : St) : Option (Int32 × St) :=
  ald s0 15 24 x1 fun v1 =>
  bnd ((x1 * 10) + v1) fun v2 =>
  ald s0 14 24 x1 fun v3 =>
  ald s0 16 240 v2 fun v4 =>
  ast s0 14 24 x1 (v3 + (x2 - v4)) fun s1 =>
  ast s1 16 240 v2 (vp_nar .byte x2.toInt8.toInt32) fun s2 =>
  ald s2 15 24 x1 fun v5 =>
  if 10 ≤ v5 + 1 then
  X4_takeVote_l67 N x1 0 s2
  else
  ald s2 15 24 x1 fun v6 =>
    X4_takeVote_l67 N x1 (v6 + 1) s2
set_option maxRecDepth 20000 in
theorem X4_takeVote_ok (l : Launch) (D : va_G) (g : Gm) {N : Nat} {x1 : Int32} {x2 : Int32} {s0 : St} {o : Int32 × St} (h : X4_takeVote_f N x1 x2 s0 = some o) : MV l yX4_takeVote cX4_takeVote 4 none 0 D g (wX g) [.ref (g.1 8), .int x1, .int x2] s0 o := by
  refine met_V (own := RX4) (by decide) rfl (Nat.le_of_ble_eq_true rfl) (fun K hC => ?_)
  show J K (wX g) 4 (QV K g (wX g) o) 0 [(0, .ref (g.1 8)), (1, .int x1), (2, .int x2)] [] s0
  unfold X4_takeVote_f at h
  refine j_iload_n hC dX4_takeVote_0 rfl 1 rfl ?_
  refine j_bipush (v := 10) hC dX4_takeVote_1 (by decide) ?_
  refine j_imul hC dX4_takeVote_3 ?_
  refine j_aload_n hC dX4_takeVote_4 rfl 0 rfl ?_
  refine get_X4_45 hC dX4_takeVote_5 ?_
  refine j_iload_n hC dX4_takeVote_8 rfl 1 rfl ?_
  refine ald_X4_oldestVote hC dX4_takeVote_9 h ?_
  intro v1 h
  refine j_pc (n2 := 10) rfl ?_
  refine j_iadd hC dX4_takeVote_10 ?_
  refine j_bi (E := (x1 * 10) + v1) h (fun v2 h => ?_)
  refine j_istore_n hC dX4_takeVote_11 rfl (by decide) rfl ?_
  refine j_aload_n hC dX4_takeVote_12 rfl 1 rfl ?_
  refine get_X4_42 hC dX4_takeVote_13 ?_
  refine j_iload_n hC dX4_takeVote_16 rfl 2 rfl ?_
  refine j_dup2 hC rfl rfl dX4_takeVote_17 ?_
  refine ald_X4_voteSum hC dX4_takeVote_18 h ?_
  intro v3 h
  refine j_iload_n hC dX4_takeVote_19 rfl 3 rfl ?_
  refine j_pc (n2 := 20) rfl ?_
  refine j_aload_n hC dX4_takeVote_20 rfl 1 rfl ?_
  refine get_X4_48 hC dX4_takeVote_21 ?_
  refine j_iload_n hC dX4_takeVote_24 rfl 0 rfl ?_
  refine ald_X4_votes hC dX4_takeVote_25 h ?_
  intro v4 h
  refine j_isub hC dX4_takeVote_26 ?_
  refine j_iadd hC dX4_takeVote_27 ?_
  refine ast_X4_voteSum hC dX4_takeVote_28 h ?_
  intro s1 h
  refine j_aload_n hC dX4_takeVote_29 rfl 1 rfl ?_
  refine j_pc (n2 := 30) rfl ?_
  refine get_X4_48 hC dX4_takeVote_30 ?_
  refine j_iload_n hC dX4_takeVote_33 rfl 0 rfl ?_
  refine j_iload_n hC dX4_takeVote_34 rfl 3 rfl ?_
  refine j_i2b hC dX4_takeVote_35 ?_
  refine ast_X4_votes hC dX4_takeVote_36 h ?_
  intro s2 h
  refine j_aload_n hC dX4_takeVote_37 rfl 1 rfl ?_
  refine get_X4_45 hC dX4_takeVote_38 ?_
  refine j_iload_n hC dX4_takeVote_41 rfl 2 rfl ?_
  refine j_pc (n2 := 42) rfl ?_
  refine j_aload_n hC dX4_takeVote_42 rfl 1 rfl ?_
  refine get_X4_45 hC dX4_takeVote_43 ?_
  refine j_iload_n hC dX4_takeVote_46 rfl 2 rfl ?_
  refine ald_X4_oldestVote hC dX4_takeVote_47 h ?_
  intro v5 h
  refine j_iconst (v := 1) hC dX4_takeVote_48 (by decide) ?_
  refine j_iadd hC dX4_takeVote_49 ?_
  refine j_bipush (v := 10) hC dX4_takeVote_50 (by decide) ?_
  refine j_icmp_ge (tgt := 66) hC dX4_takeVote_52 (by decide) h ?_ ?_
  · intro h
    refine j_iconst (v := 0) hC dX4_takeVote_66 (by decide) ?_
    refine j_sub [] rfl ?_
    exact X4_takeVote_l67_ok hC x1 0 s2 h
  · intro h
    refine j_aload_n hC dX4_takeVote_55 rfl 1 rfl ?_
    refine get_X4_45 hC dX4_takeVote_56 ?_
    refine j_iload_n hC dX4_takeVote_59 rfl 2 rfl ?_
    refine ald_X4_oldestVote hC dX4_takeVote_60 h ?_
    intro v6 h
    refine j_iconst (v := 1) hC dX4_takeVote_61 (by decide) ?_
    refine j_iadd hC dX4_takeVote_62 ?_
    refine j_goto (tgt := 67) hC dX4_takeVote_63 (by decide) ?_
    refine j_sub [] rfl ?_
    exact X4_takeVote_l67_ok hC x1 (v6 + 1) s2 h
set_option maxRecDepth 20000 in
def X4_heat_f (N : Nat) (x1 : Int32) (s0 : St) : Option (Int32 × St) :=
  ald s0 14 24 x1 fun v1 =>
  ald s0 9 24 x1 fun v2 =>
  some (v1 + ((15 : Int32) * v2), s0)
set_option maxRecDepth 20000 in
theorem X4_heat_ok (l : Launch) (D : va_G) (g : Gm) {N : Nat} {x1 : Int32} {s0 : St} {o : Int32 × St} (h : X4_heat_f N x1 s0 = some o) : MI l yX4_heat cX4_heat 2 (some .int) 0 D g (wX g) [.ref (g.1 8), .int x1] s0 o := by
  refine met_I (own := RX4) (by decide) rfl (Nat.le_of_ble_eq_true rfl) (fun K hC => ?_)
  show J K (wX g) 2 (QI K g (wX g) o) 0 [(0, .ref (g.1 8)), (1, .int x1)] [] s0
  unfold X4_heat_f at h
  refine j_aload_n hC dX4_heat_0 rfl 0 rfl ?_
  refine get_X4_42 hC dX4_heat_1 ?_
  refine j_iload_n hC dX4_heat_4 rfl 1 rfl ?_
  refine ald_X4_voteSum hC dX4_heat_5 h ?_
  intro v1 h
  refine j_bipush (v := 15) hC dX4_heat_6 (by decide) ?_
  refine j_aload_n hC dX4_heat_8 rfl 0 rfl ?_
  refine get_X4_27 hC dX4_heat_9 ?_
  refine j_pc (n2 := 12) rfl ?_
  refine j_iload_n hC dX4_heat_12 rfl 1 rfl ?_
  refine ald_X4_asksOpen hC dX4_heat_13 h ?_
  intro v2 h
  refine j_imul hC dX4_heat_14 ?_
  refine j_iadd hC dX4_heat_15 ?_
  exact j_iret hC dX4_heat_16 rfl h
set_option maxRecDepth 20000 in
def X4_allAsksOpen_l4 (N : Nat) : Nat → Int32 → Int32 → St → Option (Int32 × St)
  | 0 => fun _ _ _ => none
  | n + 1 => fun x1 x2 s0 =>
  if gi s0 9 ≤ x2 then
  some (x1, s0)
  else
  ald s0 9 24 x2 fun v1 =>
    bnd (x1 + v1) fun v2 =>
    bnd (x2 + 1) fun v3 =>
    (X4_allAsksOpen_l4 N n) v2 v3 s0
set_option maxRecDepth 20000 in
theorem X4_allAsksOpen_l4_ok {K : Kx} {g : Gm} {N : Nat} {o : Int32 × St} (hC : Ok K cX4_allAsksOpen RX4 g 3 0 (some .int)) : ∀ (n : Nat) (x1 : Int32) (x2 : Int32) (s0 : St), X4_allAsksOpen_l4 N n x1 x2 s0 = some o → J K (wX g) 3 (QI K g (wX g) o) 4 [(0, .ref (g.1 8)), (1, .int x1), (2, .int x2)] [] s0 := by
  intro n
  induction n with
  | zero => intro x1 x2 s0 h; cases h
  | succ n ih =>
    intro x1 x2 s0 h
    rw [X4_allAsksOpen_l4] at h
    refine j_iload_n hC dX4_allAsksOpen_4 rfl 2 rfl ?_
    refine j_aload_n hC dX4_allAsksOpen_5 rfl 0 rfl ?_
    refine get_X4_58 hC dX4_allAsksOpen_6 ?_
    refine j_icmp_ge (tgt := 27) hC dX4_allAsksOpen_9 (by decide) h ?_ ?_
    · intro h
      refine j_iload_n hC dX4_allAsksOpen_27 rfl 1 rfl ?_
      exact j_iret hC dX4_allAsksOpen_28 rfl h
    · intro h
      refine j_iload_n hC dX4_allAsksOpen_12 rfl 1 rfl ?_
      refine j_aload_n hC dX4_allAsksOpen_13 rfl 0 rfl ?_
      refine get_X4_27 hC dX4_allAsksOpen_14 ?_
      refine j_iload_n hC dX4_allAsksOpen_17 rfl 2 rfl ?_
      refine ald_X4_asksOpen hC dX4_allAsksOpen_18 h ?_
      intro v1 h
      refine j_iadd hC dX4_allAsksOpen_19 ?_
      refine j_bi (E := x1 + v1) h (fun v2 h => ?_)
      refine j_istore_n hC dX4_allAsksOpen_20 rfl (by decide) rfl ?_
      refine j_pc (n2 := 21) rfl ?_
      refine j_iincb (n2 := 1) (k0 := 2) (lv2 := fun z => [(2, .int z), (1, .int v2), (0, .ref (g.1 8))]) hC dX4_allAsksOpen_21 rfl (by decide) (by decide) (fun _ => rfl) h (fun v3 h => ?_)
      refine j_goto (tgt := 4) hC dX4_allAsksOpen_24 (by decide) ?_
      refine j_sub [2, 1, 0] rfl ?_
      exact ih v2 v3 s0 h
set_option maxRecDepth 20000 in
def X4_allAsksOpen_f (N : Nat) (s0 : St) : Option (Int32 × St) :=
  X4_allAsksOpen_l4 N N 0 0 s0
set_option maxRecDepth 20000 in
theorem X4_allAsksOpen_ok (l : Launch) (D : va_G) (g : Gm) {N : Nat} {s0 : St} {o : Int32 × St} (h : X4_allAsksOpen_f N s0 = some o) : MI l yX4_allAsksOpen cX4_allAsksOpen 3 (some .int) 0 D g (wX g) [.ref (g.1 8)] s0 o := by
  refine met_I (own := RX4) (by decide) rfl (Nat.le_of_ble_eq_true rfl) (fun K hC => ?_)
  show J K (wX g) 3 (QI K g (wX g) o) 0 [(0, .ref (g.1 8))] [] s0
  unfold X4_allAsksOpen_f at h
  refine j_iconst (v := 0) hC dX4_allAsksOpen_0 (by decide) ?_
  refine j_istore_n hC dX4_allAsksOpen_1 rfl (by decide) rfl ?_
  refine j_iconst (v := 0) hC dX4_allAsksOpen_2 (by decide) ?_
  refine j_istore_n hC dX4_allAsksOpen_3 rfl (by decide) rfl ?_
  refine j_sub [2, 1, 0] rfl ?_
  exact X4_allAsksOpen_l4_ok hC N 0 0 s0 h
set_option maxRecDepth 20000 in
def X4_begin_f (N : Nat) (x1 : Int32) (x2 : Int32) (s0 : St) : Option (Int32 × St) :=
  ald s0 11 24 x1 fun v1 =>
  ast s0 11 24 x1 (v1 + 1) fun s1 =>
  ast s1 12 24 x1 x2 fun s2 =>
  ald s2 5 24 x1 fun v2 =>
  ast s2 13 12 v2 x2 fun s3 =>
  ald s3 9 24 x1 fun v3 =>
  if v3 ≤ 0 then
  some (0, s3)
  else
  ald s3 9 24 x1 fun v4 =>
    ast s3 9 24 x1 (v4 - 1) fun s4 =>
    ald s4 10 24 x1 fun v5 =>
    ast s4 10 24 x1 (v5 + 1) fun s5 =>
    some (0, s5)
set_option maxRecDepth 20000 in
theorem X4_begin_ok (l : Launch) (D : va_G) (g : Gm) {N : Nat} {x1 : Int32} {x2 : Int32} {s0 : St} {o : Int32 × St} (h : X4_begin_f N x1 x2 s0 = some o) : MV l yX4_begin cX4_begin 3 none 0 D g (wX g) [.ref (g.1 8), .int x1, .int x2] s0 o := by
  refine met_V (own := RX4) (by decide) rfl (Nat.le_of_ble_eq_true rfl) (fun K hC => ?_)
  show J K (wX g) 3 (QV K g (wX g) o) 0 [(0, .ref (g.1 8)), (1, .int x1), (2, .int x2)] [] s0
  unfold X4_begin_f at h
  refine j_aload_n hC dX4_begin_0 rfl 0 rfl ?_
  refine get_X4_33 hC dX4_begin_1 ?_
  refine j_iload_n hC dX4_begin_4 rfl 1 rfl ?_
  refine j_dup2 hC rfl rfl dX4_begin_5 ?_
  refine ald_X4_played hC dX4_begin_6 h ?_
  intro v1 h
  refine j_iconst (v := 1) hC dX4_begin_7 (by decide) ?_
  refine j_iadd hC dX4_begin_8 ?_
  refine j_pc (n2 := 9) rfl ?_
  refine ast_X4_played hC dX4_begin_9 h ?_
  intro s1 h
  refine j_aload_n hC dX4_begin_10 rfl 0 rfl ?_
  refine get_X4_36 hC dX4_begin_11 ?_
  refine j_iload_n hC dX4_begin_14 rfl 1 rfl ?_
  refine j_iload_n hC dX4_begin_15 rfl 2 rfl ?_
  refine ast_X4_began hC dX4_begin_16 h ?_
  intro s2 h
  refine j_aload_n hC dX4_begin_17 rfl 0 rfl ?_
  refine get_X4_39 hC dX4_begin_18 ?_
  refine j_pc (n2 := 21) rfl ?_
  refine j_aload_n hC dX4_begin_21 rfl 0 rfl ?_
  refine get_X4_15 hC dX4_begin_22 ?_
  refine j_iload_n hC dX4_begin_25 rfl 1 rfl ?_
  refine ald_X4_artist hC dX4_begin_26 h ?_
  intro v2 h
  refine j_iload_n hC dX4_begin_27 rfl 2 rfl ?_
  refine ast_X4_artistBegan hC dX4_begin_28 h ?_
  intro s3 h
  refine j_aload_n hC dX4_begin_29 rfl 0 rfl ?_
  refine get_X4_27 hC dX4_begin_30 ?_
  refine j_pc (n2 := 33) rfl ?_
  refine j_iload_n hC dX4_begin_33 rfl 1 rfl ?_
  refine ald_X4_asksOpen hC dX4_begin_34 h ?_
  intro v3 h
  refine j_if_le (tgt := 58) hC dX4_begin_35 (by decide) h ?_ ?_
  · intro h
    exact j_vret (v := 0) hC dX4_begin_58 h
  · intro h
    refine j_aload_n hC dX4_begin_38 rfl 0 rfl ?_
    refine get_X4_27 hC dX4_begin_39 ?_
    refine j_iload_n hC dX4_begin_42 rfl 1 rfl ?_
    refine j_dup2 hC rfl rfl dX4_begin_43 ?_
    refine ald_X4_asksOpen hC dX4_begin_44 h ?_
    intro v4 h
    refine j_iconst (v := 1) hC dX4_begin_45 (by decide) ?_
    refine j_isub hC dX4_begin_46 ?_
    refine j_pc (n2 := 47) rfl ?_
    refine ast_X4_asksOpen hC dX4_begin_47 h ?_
    intro s4 h
    refine j_aload_n hC dX4_begin_48 rfl 0 rfl ?_
    refine get_X4_30 hC dX4_begin_49 ?_
    refine j_iload_n hC dX4_begin_52 rfl 1 rfl ?_
    refine j_dup2 hC rfl rfl dX4_begin_53 ?_
    refine ald_X4_asksDone hC dX4_begin_54 h ?_
    intro v5 h
    refine j_iconst (v := 1) hC dX4_begin_55 (by decide) ?_
    refine j_iadd hC dX4_begin_56 ?_
    refine j_pc (n2 := 57) rfl ?_
    refine ast_X4_asksDone hC dX4_begin_57 h ?_
    intro s5 h
    exact j_vret (v := 0) hC dX4_begin_58 h
set_option maxRecDepth 20000 in
def X1_hasRoomFor_f (N : Nat) (x1 : Int32) (s0 : St) : Option (Int32 × St) :=
  if 168 ≤ gi s0 10 then
  some (0, s0)
  else
  if 300 < (gi s0 11) + ((4 : Int32) * x1) then
    some (0, s0)
    else
    some (1, s0)
set_option maxRecDepth 20000 in
theorem X1_hasRoomFor_ok (l : Launch) (D : va_G) (g : Gm) {N : Nat} {x1 : Int32} {s0 : St} {o : Int32 × St} (h : X1_hasRoomFor_f N x1 s0 = some o) : MI l yX1_hasRoomFor cX1_hasRoomFor 2 (some .boolean) 0 D g (wX g) [.ref (g.1 22), .int x1] s0 o := by
  refine met_I (own := RX1) (by decide) rfl (Nat.le_of_ble_eq_true rfl) (fun K hC => ?_)
  show J K (wX g) 2 (QI K g (wX g) o) 0 [(0, .ref (g.1 22)), (1, .int x1)] [] s0
  unfold X1_hasRoomFor_f at h
  refine j_aload_n hC dX1_hasRoomFor_0 rfl 0 rfl ?_
  refine get_X1_30 hC dX1_hasRoomFor_1 ?_
  refine j_sipush (v := 168) hC dX1_hasRoomFor_4 (by decide) ?_
  refine j_icmp_ge (tgt := 28) hC dX1_hasRoomFor_7 (by decide) h ?_ ?_
  · intro h
    refine j_iconst (v := 0) hC dX1_hasRoomFor_28 (by decide) ?_
    exact j_iret hC dX1_hasRoomFor_29 rfl h
  · intro h
    refine j_aload_n hC dX1_hasRoomFor_10 rfl 0 rfl ?_
    refine get_X1_34 hC dX1_hasRoomFor_11 ?_
    refine j_iconst (v := 4) hC dX1_hasRoomFor_14 (by decide) ?_
    refine j_iload_n hC dX1_hasRoomFor_15 rfl 1 rfl ?_
    refine j_imul hC dX1_hasRoomFor_16 ?_
    refine j_iadd hC dX1_hasRoomFor_17 ?_
    refine j_sipush (v := 300) hC dX1_hasRoomFor_18 (by decide) ?_
    refine j_pc (n2 := 21) rfl ?_
    refine j_icmp_gt (tgt := 28) hC dX1_hasRoomFor_21 (by decide) h ?_ ?_
    · intro h
      refine j_iconst (v := 0) hC dX1_hasRoomFor_28 (by decide) ?_
      exact j_iret hC dX1_hasRoomFor_29 rfl h
    · intro h
      refine j_iconst (v := 1) hC dX1_hasRoomFor_24 (by decide) ?_
      refine j_goto (tgt := 29) hC dX1_hasRoomFor_25 (by decide) ?_
      exact j_iret hC dX1_hasRoomFor_29 rfl h
set_option maxRecDepth 20000 in
def X1_addPlay_f (N : Nat) (x1 : Int32) (x2 : Int32) (x3 : Int32) (s0 : St) : Option (Int32 × St) :=
  ast s0 19 300 (gi s0 11) x1 fun s1 =>
  ast s1 20 300 (gi s1 11) x2 fun s2 =>
  ast s2 21 300 (gi s2 11) (gi s2 10) fun s3 =>
  ast s3 22 300 (gi s3 11) x3 fun s4 =>
  bnd (si s4 11 ((gi s4 11) + 1)) fun s5 =>
  some (0, s5)
set_option maxRecDepth 20000 in
theorem X1_addPlay_ok (l : Launch) (D : va_G) (g : Gm) {N : Nat} {x1 : Int32} {x2 : Int32} {x3 : Int32} {s0 : St} {o : Int32 × St} (h : X1_addPlay_f N x1 x2 x3 s0 = some o) : MV l yX1_addPlay cX1_addPlay 4 none 0 D g (wX g) [.ref (g.1 22), .int x1, .int x2, .int x3] s0 o := by
  refine met_V (own := RX1) (by decide) rfl (Nat.le_of_ble_eq_true rfl) (fun K hC => ?_)
  show J K (wX g) 4 (QV K g (wX g) o) 0 [(0, .ref (g.1 22)), (1, .int x1), (2, .int x2), (3, .int x3)] [] s0
  unfold X1_addPlay_f at h
  refine j_aload_n hC dX1_addPlay_0 rfl 0 rfl ?_
  refine get_X1_18 hC dX1_addPlay_1 ?_
  refine j_aload_n hC dX1_addPlay_4 rfl 0 rfl ?_
  refine get_X1_34 hC dX1_addPlay_5 ?_
  refine j_iload_n hC dX1_addPlay_8 rfl 1 rfl ?_
  refine ast_X1_playSong hC dX1_addPlay_9 h ?_
  intro s1 h
  refine j_aload_n hC dX1_addPlay_10 rfl 0 rfl ?_
  refine j_pc (n2 := 11) rfl ?_
  refine get_X1_21 hC dX1_addPlay_11 ?_
  refine j_aload_n hC dX1_addPlay_14 rfl 0 rfl ?_
  refine get_X1_34 hC dX1_addPlay_15 ?_
  refine j_iload_n hC dX1_addPlay_18 rfl 2 rfl ?_
  refine ast_X1_playBegan hC dX1_addPlay_19 h ?_
  intro s2 h
  refine j_aload_n hC dX1_addPlay_20 rfl 0 rfl ?_
  refine get_X1_24 hC dX1_addPlay_21 ?_
  refine j_aload_n hC dX1_addPlay_24 rfl 0 rfl ?_
  refine j_pc (n2 := 25) rfl ?_
  refine get_X1_34 hC dX1_addPlay_25 ?_
  refine j_aload_n hC dX1_addPlay_28 rfl 0 rfl ?_
  refine get_X1_30 hC dX1_addPlay_29 ?_
  refine ast_X1_playHour hC dX1_addPlay_32 h ?_
  intro s3 h
  refine j_aload_n hC dX1_addPlay_33 rfl 0 rfl ?_
  refine get_X1_27 hC dX1_addPlay_34 ?_
  refine j_aload_n hC dX1_addPlay_37 rfl 0 rfl ?_
  refine get_X1_34 hC dX1_addPlay_38 ?_
  refine j_pc (n2 := 41) rfl ?_
  refine j_iload_n hC dX1_addPlay_41 rfl 3 rfl ?_
  refine ast_X1_playItem hC dX1_addPlay_42 h ?_
  intro s4 h
  refine j_aload_n hC dX1_addPlay_43 rfl 0 rfl ?_
  refine j_dup hC rfl dX1_addPlay_44 ?_
  refine get_X1_34 hC dX1_addPlay_45 ?_
  refine j_iconst (v := 1) hC dX1_addPlay_48 (by decide) ?_
  refine j_iadd hC dX1_addPlay_49 ?_
  refine put_X1_34 hC dX1_addPlay_50 h ?_
  intro s5 h
  refine j_pc (n2 := 53) rfl ?_
  exact j_vret (v := 0) hC dX1_addPlay_53 h
set_option maxRecDepth 20000 in
def X1_noteStretch_l39 (N : Nat) (t1 : Int32) (t2 : Int32) (s0 : St) : Option (Int32 × St) :=
  bnd (si s0 12 (t1 + t2)) fun s1 =>
  some (0, s1)
set_option maxRecDepth 20000 in
theorem X1_noteStretch_l39_ok {K : Kx} {g : Gm} {N : Nat} {o : Int32 × St} (hC : Ok K cX1_noteStretch RX1 g 4 0 none) : ∀ (t1 : Int32) (t2 : Int32) (s0 : St), X1_noteStretch_l39 N t1 t2 s0 = some o → J K (wX g) 4 (QV K g (wX g) o) 39 [] [.int t2, .int t1, .ref (g.1 22)] s0 := by
  intro t1 t2 s0 h
  unfold X1_noteStretch_l39 at h
  refine j_iadd hC dX1_noteStretch_39 ?_
  refine put_X1_40 hC dX1_noteStretch_40 h ?_
  intro s1 h
  exact j_vret (v := 0) hC dX1_noteStretch_43 h
set_option maxRecDepth 20000 in
def X1_noteStretch_f (N : Nat) (x1 : Int32) (x2 : Int32) (x3 : Int32) (s0 : St) : Option (Int32 × St) :=
  ast s0 18 1344 (((gi s0 10) * 8) + x1) x2 fun s1 =>
  bnd (si s1 13 ((gi s1 13) + x2)) fun s2 =>
  if x3 = 0 then
  X1_noteStretch_l39 N (gi s2 12) 0 s2
  else
  X1_noteStretch_l39 N (gi s2 12) 1 s2
set_option maxRecDepth 20000 in
theorem X1_noteStretch_ok (l : Launch) (D : va_G) (g : Gm) {N : Nat} {x1 : Int32} {x2 : Int32} {x3 : Int32} {s0 : St} {o : Int32 × St} (h : X1_noteStretch_f N x1 x2 x3 s0 = some o) : MV l yX1_noteStretch cX1_noteStretch 4 none 0 D g (wX g) [.ref (g.1 22), .int x1, .int x2, .int x3] s0 o := by
  refine met_V (own := RX1) (by decide) rfl (Nat.le_of_ble_eq_true rfl) (fun K hC => ?_)
  show J K (wX g) 4 (QV K g (wX g) o) 0 [(0, .ref (g.1 22)), (1, .int x1), (2, .int x2), (3, .int x3)] [] s0
  unfold X1_noteStretch_f at h
  refine j_aload_n hC dX1_noteStretch_0 rfl 0 rfl ?_
  refine get_X1_15 hC dX1_noteStretch_1 ?_
  refine j_aload_n hC dX1_noteStretch_4 rfl 0 rfl ?_
  refine get_X1_30 hC dX1_noteStretch_5 ?_
  refine j_bipush (v := 8) hC dX1_noteStretch_8 (by decide) ?_
  refine j_imul hC dX1_noteStretch_10 ?_
  refine j_iload_n hC dX1_noteStretch_11 rfl 1 rfl ?_
  refine j_pc (n2 := 12) rfl ?_
  refine j_iadd hC dX1_noteStretch_12 ?_
  refine j_iload_n hC dX1_noteStretch_13 rfl 2 rfl ?_
  refine ast_X1_itemLeft hC dX1_noteStretch_14 h ?_
  intro s1 h
  refine j_aload_n hC dX1_noteStretch_15 rfl 0 rfl ?_
  refine j_dup hC rfl dX1_noteStretch_16 ?_
  refine get_X1_37 hC dX1_noteStretch_17 ?_
  refine j_iload_n hC dX1_noteStretch_20 rfl 2 rfl ?_
  refine j_iadd hC dX1_noteStretch_21 ?_
  refine j_pc (n2 := 22) rfl ?_
  refine put_X1_37 hC dX1_noteStretch_22 h ?_
  intro s2 h
  refine j_aload_n hC dX1_noteStretch_25 rfl 0 rfl ?_
  refine j_dup hC rfl dX1_noteStretch_26 ?_
  refine get_X1_40 hC dX1_noteStretch_27 ?_
  refine j_iload_n hC dX1_noteStretch_30 rfl 3 rfl ?_
  refine j_if_eq (tgt := 38) hC dX1_noteStretch_31 (by decide) h ?_ ?_
  · intro h
    refine j_iconst (v := 0) hC dX1_noteStretch_38 (by decide) ?_
    refine j_sub [] rfl ?_
    exact X1_noteStretch_l39_ok hC (gi s2 12) 0 s2 h
  · intro h
    refine j_iconst (v := 1) hC dX1_noteStretch_34 (by decide) ?_
    refine j_goto (tgt := 39) hC dX1_noteStretch_35 (by decide) ?_
    refine j_sub [] rfl ?_
    exact X1_noteStretch_l39_ok hC (gi s2 12) 1 s2 h
set_option maxRecDepth 20000 in
def X1_closeHour_f (N : Nat) (x1 : Int32) (s0 : St) : Option (Int32 × St) :=
  ast s0 17 168 (gi s0 10) x1 fun s1 =>
  bnd (si s1 10 ((gi s1 10) + 1)) fun s2 =>
  some (0, s2)
set_option maxRecDepth 20000 in
theorem X1_closeHour_ok (l : Launch) (D : va_G) (g : Gm) {N : Nat} {x1 : Int32} {s0 : St} {o : Int32 × St} (h : X1_closeHour_f N x1 s0 = some o) : MV l yX1_closeHour cX1_closeHour 2 none 0 D g (wX g) [.ref (g.1 22), .int x1] s0 o := by
  refine met_V (own := RX1) (by decide) rfl (Nat.le_of_ble_eq_true rfl) (fun K hC => ?_)
  show J K (wX g) 2 (QV K g (wX g) o) 0 [(0, .ref (g.1 22)), (1, .int x1)] [] s0
  unfold X1_closeHour_f at h
  refine j_aload_n hC dX1_closeHour_0 rfl 0 rfl ?_
  refine get_X1_9 hC dX1_closeHour_1 ?_
  refine j_aload_n hC dX1_closeHour_4 rfl 0 rfl ?_
  refine get_X1_30 hC dX1_closeHour_5 ?_
  refine j_iload_n hC dX1_closeHour_8 rfl 1 rfl ?_
  refine ast_X1_hourItems hC dX1_closeHour_9 h ?_
  intro s1 h
  refine j_aload_n hC dX1_closeHour_10 rfl 0 rfl ?_
  refine j_pc (n2 := 11) rfl ?_
  refine j_dup hC rfl dX1_closeHour_11 ?_
  refine get_X1_30 hC dX1_closeHour_12 ?_
  refine j_iconst (v := 1) hC dX1_closeHour_15 (by decide) ?_
  refine j_iadd hC dX1_closeHour_16 ?_
  refine put_X1_30 hC dX1_closeHour_17 h ?_
  intro s2 h
  exact j_vret (v := 0) hC dX1_closeHour_20 h
