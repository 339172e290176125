set_option maxRecDepth 20000 in
def X0_isStretch_f (N : Nat) (j0 : Nat) (x1 : Int32) (s0 : St) : Option (Int32 × St) :=
  ald s0 (30 + 4 * j0 + 3) 8 x1 fun v1 =>
  chk (isZ v1) (some (v1, s0))
set_option maxRecDepth 20000 in
theorem X0_isStretch_ok (l : Launch) (D : va_G) (g : Gm) {N : Nat} {j0 : Nat} {x1 : Int32} (hj0 : j0 < 7) {s0 : St} {o : Int32 × St} (h : X0_isStretch_f N j0 x1 s0 = some o) : MI l yX0_isStretch cX0_isStretch 2 (some .boolean) 0 D g (wX g) [.ref (g.1 (37 + 5 * j0)), .int x1] s0 o := by
  refine met_I (own := RX0) (by decide) rfl (Nat.le_of_ble_eq_true rfl) (fun K hC => ?_)
  show J K (wX g) 2 (QI K g (wX g) o) 0 [(0, .ref (g.1 (37 + 5 * j0))), (1, .int x1)] [] s0
  unfold X0_isStretch_f at h
  refine j_aload_n hC dX0_isStretch_0 rfl 0 rfl ?_
  refine get_X0_21 hC j0 hj0 dX0_isStretch_1 ?_
  refine j_iload_n hC dX0_isStretch_4 rfl 1 rfl ?_
  refine ald_X0_hasSongs hC j0 hj0 dX0_isStretch_5 h ?_
  intro v1 h
  obtain ⟨hz, h⟩ := chk_some h
  exact j_iret hC dX0_isStretch_6 (isZ_nar hz) h
set_option maxRecDepth 20000 in
def X0_become_l26 (N : Nat) : Nat → Nat → Int32 → St → Option (Int32 × St)
  | 0 => fun _ _ _ => none
  | n + 1 => fun j0 x2 s0 =>
  if 8 ≤ x2 then
  some (0, s0)
  else
  ald s0 54 8 x2 fun v1 =>
    ast s0 (30 + 4 * j0 + 0) 8 x2 v1 fun s1 =>
    ald s1 55 8 x2 fun v2 =>
    ast s1 (30 + 4 * j0 + 1) 8 x2 v2 fun s2 =>
    ald s2 56 8 x2 fun v3 =>
    ast s2 (30 + 4 * j0 + 2) 8 x2 v3 fun s3 =>
    ald s3 57 8 x2 fun v4 =>
    ast s3 (30 + 4 * j0 + 3) 8 x2 (vp_nar .boolean v4) fun s4 =>
    bnd (x2 + 1) fun v5 =>
    (X0_become_l26 N n) j0 v5 s4
set_option maxRecDepth 20000 in
theorem X0_become_l26_ok {K : Kx} {g : Gm} {N : Nat} {o : Int32 × St} (hC : Ok K cX0_become RX0 g 3 0 none) : ∀ (n : Nat) (j0 : Nat) (x2 : Int32) (s0 : St), j0 < 7 → X0_become_l26 N n j0 x2 s0 = some o → J K (wX g) 3 (QV K g (wX g) o) 26 [(0, .ref (g.1 (37 + 5 * j0))), (1, .ref (g.1 (37 + 5 * 6))), (2, .int x2)] [] s0 := by
  intro n
  induction n with
  | zero => intro j0 x2 s0 hj0 h; cases h
  | succ n ih =>
    intro j0 x2 s0 hj0 h
    rw [X0_become_l26] at h
    refine j_iload_n hC dX0_become_26 rfl 2 rfl ?_
    refine j_bipush (v := 8) hC dX0_become_27 (by decide) ?_
    refine j_icmp_ge (tgt := 86) hC dX0_become_29 (by decide) h ?_ ?_
    · intro h
      exact j_vret (v := 0) hC dX0_become_86 h
    · intro h
      refine j_aload_n hC dX0_become_32 rfl 0 rfl ?_
      refine get_X0_9 hC j0 hj0 dX0_become_33 ?_
      refine j_iload_n hC dX0_become_36 rfl 2 rfl ?_
      refine j_aload_n hC dX0_become_37 rfl 1 rfl ?_
      refine get_X0_9 hC 6 (by decide) dX0_become_38 ?_
      refine j_iload_n hC dX0_become_41 rfl 2 rfl ?_
      refine ald_X0_seconds hC 6 (by decide) dX0_become_42 h ?_
      intro v1 h
      refine j_pc (n2 := 43) rfl ?_
      refine ast_X0_seconds hC j0 hj0 dX0_become_43 h ?_
      intro s1 h
      refine j_aload_n hC dX0_become_44 rfl 0 rfl ?_
      refine get_X0_15 hC j0 hj0 dX0_become_45 ?_
      refine j_iload_n hC dX0_become_48 rfl 2 rfl ?_
      refine j_aload_n hC dX0_become_49 rfl 1 rfl ?_
      refine get_X0_15 hC 6 (by decide) dX0_become_50 ?_
      refine j_iload_n hC dX0_become_53 rfl 2 rfl ?_
      refine ald_X0_mood hC 6 (by decide) dX0_become_54 h ?_
      intro v2 h
      refine j_pc (n2 := 55) rfl ?_
      refine ast_X0_mood hC j0 hj0 dX0_become_55 h ?_
      intro s2 h
      refine j_aload_n hC dX0_become_56 rfl 0 rfl ?_
      refine get_X0_18 hC j0 hj0 dX0_become_57 ?_
      refine j_iload_n hC dX0_become_60 rfl 2 rfl ?_
      refine j_aload_n hC dX0_become_61 rfl 1 rfl ?_
      refine get_X0_18 hC 6 (by decide) dX0_become_62 ?_
      refine j_iload_n hC dX0_become_65 rfl 2 rfl ?_
      refine ald_X0_wantedNew hC 6 (by decide) dX0_become_66 h ?_
      intro v3 h
      refine j_pc (n2 := 67) rfl ?_
      refine ast_X0_wantedNew hC j0 hj0 dX0_become_67 h ?_
      intro s3 h
      refine j_aload_n hC dX0_become_68 rfl 0 rfl ?_
      refine get_X0_21 hC j0 hj0 dX0_become_69 ?_
      refine j_iload_n hC dX0_become_72 rfl 2 rfl ?_
      refine j_aload_n hC dX0_become_73 rfl 1 rfl ?_
      refine get_X0_21 hC 6 (by decide) dX0_become_74 ?_
      refine j_iload_n hC dX0_become_77 rfl 2 rfl ?_
      refine ald_X0_hasSongs hC 6 (by decide) dX0_become_78 h ?_
      intro v4 h
      refine j_pc (n2 := 79) rfl ?_
      refine ast_X0_hasSongs hC j0 hj0 dX0_become_79 h ?_
      intro s4 h
      refine j_iincb (n2 := 1) (k0 := 2) (lv2 := fun z => [(2, .int z), (0, .ref (g.1 (37 + 5 * j0))), (1, .ref (g.1 (37 + 5 * 6)))]) hC dX0_become_80 rfl (by decide) (by decide) (fun _ => rfl) h (fun v5 h => ?_)
      refine j_goto (tgt := 26) hC dX0_become_83 (by decide) ?_
      refine j_sub [1, 2, 0] rfl ?_
      exact ih j0 v5 s4 hj0 h
set_option maxRecDepth 20000 in
def X0_become_f (N : Nat) (j0 : Nat) (s0 : St) : Option (Int32 × St) :=
  bnd (si s0 (27 + 3 * j0 + 0) (gi s0 45)) fun s1 =>
  bnd (si s1 (27 + 3 * j0 + 1) (gi s1 46)) fun s2 =>
  bnd (si s2 (27 + 3 * j0 + 2) (gi s2 47)) fun s3 =>
  X0_become_l26 N N j0 0 s3
set_option maxRecDepth 20000 in
theorem X0_become_ok (l : Launch) (D : va_G) (g : Gm) {N : Nat} {j0 : Nat} (hj0 : j0 < 7) {s0 : St} {o : Int32 × St} (h : X0_become_f N j0 s0 = some o) : MV l yX0_become cX0_become 3 none 0 D g (wX g) [.ref (g.1 (37 + 5 * j0)), .ref (g.1 (37 + 5 * 6))] s0 o := by
  refine met_V (own := RX0) (by decide) rfl (Nat.le_of_ble_eq_true rfl) (fun K hC => ?_)
  show J K (wX g) 3 (QV K g (wX g) o) 0 [(0, .ref (g.1 (37 + 5 * j0))), (1, .ref (g.1 (37 + 5 * 6)))] [] s0
  unfold X0_become_f at h
  refine j_aload_n hC dX0_become_0 rfl 0 rfl ?_
  refine j_aload_n hC dX0_become_1 rfl 1 rfl ?_
  refine get_X0_25 hC 6 (by decide) dX0_become_2 ?_
  refine put_X0_25 hC j0 hj0 dX0_become_5 h ?_
  intro s1 h
  refine j_aload_n hC dX0_become_8 rfl 0 rfl ?_
  refine j_aload_n hC dX0_become_9 rfl 1 rfl ?_
  refine get_X0_29 hC 6 (by decide) dX0_become_10 ?_
  refine j_pc (n2 := 13) rfl ?_
  refine put_X0_29 hC j0 hj0 dX0_become_13 h ?_
  intro s2 h
  refine j_aload_n hC dX0_become_16 rfl 0 rfl ?_
  refine j_aload_n hC dX0_become_17 rfl 1 rfl ?_
  refine get_X0_32 hC 6 (by decide) dX0_become_18 ?_
  refine put_X0_32 hC j0 hj0 dX0_become_21 h ?_
  intro s3 h
  refine j_iconst (v := 0) hC dX0_become_24 (by decide) ?_
  refine j_istore_n hC dX0_become_25 rfl (by decide) rfl ?_
  refine j_sub [1, 2, 0] rfl ?_
  exact X0_become_l26_ok hC N j0 0 s3 hj0 h
set_option maxRecDepth 20000 in
def X6_feed_f (N : Nat) (x1 : Int32) (x2 : Int32) (x3 : Int32) (x4 : Int32) (x5 : Int32) (s0 : St) : Option (Int32 × St) :=
  cal (X5_hasRoomForFive_f N  s0) fun v1 s1 =>
  if v1 = 0 then
  some ((-1), s1)
  else
  cal (X5_append_f N x1 s1) fun _ s2 =>
    cal (X5_append_f N x2 s2) fun _ s3 =>
    cal (X5_append_f N x3 s3) fun _ s4 =>
    cal (X5_append_f N x4 s4) fun _ s5 =>
    cal (X5_append_f N x5 s5) fun _ s6 =>
    some (gi s6 0, s6)
set_option maxRecDepth 20000 in
theorem X6_feed_ok (l : Launch) (D : va_G) (g : Gm) {N : Nat} {x1 : Int32} {x2 : Int32} {x3 : Int32} {x4 : Int32} {x5 : Int32} {s0 : St} {o : Int32 × St} (h : X6_feed_f N x1 x2 x3 x4 x5 s0 = some o) : MI l yX6_feed cX6_feed 6 (some .int) 1 D g (wX g) [.ref (g.1 0), .int x1, .int x2, .int x3, .int x4, .int x5] s0 o := by
  refine met_I (own := RX6) (by decide) rfl (Nat.le_of_ble_eq_true rfl) (fun K hC => ?_)
  show J K (wX g) 6 (QI K g (wX g) o) 0 [(0, .ref (g.1 0)), (1, .int x1), (2, .int x2), (3, .int x3), (4, .int x4), (5, .int x5)] [] s0
  unfold X6_feed_f at h
  refine j_aload_n hC dX6_feed_0 rfl 0 rfl ?_
  refine get_X6_10 hC dX6_feed_1 ?_
  obtain ⟨v1, s1, hc, h⟩ := cal_some h
  refine call_X6_55 hC (fun l D => X5_hasRoomForFive_ok l D g hc) (by decide) (Nat.le_of_ble_eq_true rfl) dX6_feed_4 ?_
  refine j_if_ne (tgt := 12) hC dX6_feed_7 (by decide) h ?_ ?_
  · intro h
    refine j_aload_n hC dX6_feed_12 rfl 0 rfl ?_
    refine get_X6_10 hC dX6_feed_13 ?_
    refine j_iload_n hC dX6_feed_16 rfl 1 rfl ?_
    obtain ⟨v2, s2, hc, h⟩ := cal_some h
    refine call_X6_59 hC (fun l D => X5_append_ok l D g hc) (by decide) (Nat.le_of_ble_eq_true rfl) dX6_feed_17 ?_
    refine j_aload_n hC dX6_feed_20 rfl 0 rfl ?_
    refine get_X6_10 hC dX6_feed_21 ?_
    refine j_iload_n hC dX6_feed_24 rfl 2 rfl ?_
    refine j_pc (n2 := 25) rfl ?_
    obtain ⟨v3, s3, hc, h⟩ := cal_some h
    refine call_X6_59 hC (fun l D => X5_append_ok l D g hc) (by decide) (Nat.le_of_ble_eq_true rfl) dX6_feed_25 ?_
    refine j_aload_n hC dX6_feed_28 rfl 0 rfl ?_
    refine get_X6_10 hC dX6_feed_29 ?_
    refine j_iload_n hC dX6_feed_32 rfl 3 rfl ?_
    obtain ⟨v4, s4, hc, h⟩ := cal_some h
    refine call_X6_59 hC (fun l D => X5_append_ok l D g hc) (by decide) (Nat.le_of_ble_eq_true rfl) dX6_feed_33 ?_
    refine j_aload_n hC dX6_feed_36 rfl 0 rfl ?_
    refine get_X6_10 hC dX6_feed_37 ?_
    refine j_iload hC dX6_feed_40 4 rfl ?_
    refine j_pc (n2 := 42) rfl ?_
    obtain ⟨v5, s5, hc, h⟩ := cal_some h
    refine call_X6_59 hC (fun l D => X5_append_ok l D g hc) (by decide) (Nat.le_of_ble_eq_true rfl) dX6_feed_42 ?_
    refine j_aload_n hC dX6_feed_45 rfl 0 rfl ?_
    refine get_X6_10 hC dX6_feed_46 ?_
    refine j_iload hC dX6_feed_49 5 rfl ?_
    obtain ⟨v6, s6, hc, h⟩ := cal_some h
    refine call_X6_59 hC (fun l D => X5_append_ok l D g hc) (by decide) (Nat.le_of_ble_eq_true rfl) dX6_feed_51 ?_
    refine j_aload_n hC dX6_feed_54 rfl 0 rfl ?_
    refine get_X6_10 hC dX6_feed_55 ?_
    refine get_X6_63 hC dX6_feed_58 ?_
    refine j_pc (n2 := 61) rfl ?_
    exact j_iret hC dX6_feed_61 rfl h
  · intro h
    refine j_iconst (v := (-1)) hC dX6_feed_10 (by decide) ?_
    exact j_iret hC dX6_feed_11 rfl h
set_option maxRecDepth 20000 in
def X6_rules_f (N : Nat) (s0 : St) : Option (Int32 × St) :=
  cal (X3_read_f N  s0) fun v1 s1 =>
  bnd (si s1 0 0) fun s2 =>
  if v1 = 0 then
  some ((-1 : Int32) - (gi s2 2), s2)
  else
  some (gi s2 8, s2)
set_option maxRecDepth 20000 in
theorem X6_rules_ok (l : Launch) (D : va_G) (g : Gm) {N : Nat} {s0 : St} {o : Int32 × St} (h : X6_rules_f N s0 = some o) : MI l yX6_rules cX6_rules 2 (some .int) 8 D g (wX g) [.ref (g.1 0)] s0 o := by
  refine met_I (own := RX6) (by decide) rfl (Nat.le_of_ble_eq_true rfl) (fun K hC => ?_)
  show J K (wX g) 2 (QI K g (wX g) o) 0 [(0, .ref (g.1 0))] [] s0
  unfold X6_rules_f at h
  refine j_aload_n hC dX6_rules_0 rfl 0 rfl ?_
  refine get_X6_19 hC dX6_rules_1 ?_
  refine j_aload_n hC dX6_rules_4 rfl 0 rfl ?_
  refine get_X6_10 hC dX6_rules_5 ?_
  obtain ⟨v1, s1, hc, h⟩ := cal_some h
  refine call_X6_67 hC (fun l D => X3_read_ok l D g hc) (by decide) (Nat.le_of_ble_eq_true rfl) dX6_rules_8 ?_
  refine j_istore_n hC dX6_rules_11 rfl (by decide) rfl ?_
  refine j_aload_n hC dX6_rules_12 rfl 1 rfl ?_
  refine j_pc (n2 := 13) rfl ?_
  refine get_X6_10 hC dX6_rules_13 ?_
  refine j_iconst (v := 0) hC dX6_rules_16 (by decide) ?_
  refine put_X6_63 hC dX6_rules_17 h ?_
  intro s2 h
  refine j_iload_n hC dX6_rules_20 rfl 0 rfl ?_
  refine j_if_eq (tgt := 34) hC dX6_rules_21 (by decide) h ?_ ?_
  · intro h
    refine j_iconst (v := (-1)) hC dX6_rules_34 (by decide) ?_
    refine j_aload_n hC dX6_rules_35 rfl 1 rfl ?_
    refine get_X6_10 hC dX6_rules_36 ?_
    refine get_X6_74 hC dX6_rules_39 ?_
    refine j_isub hC dX6_rules_42 ?_
    exact j_iret hC dX6_rules_43 rfl h
  · intro h
    refine j_aload_n hC dX6_rules_24 rfl 1 rfl ?_
    refine get_X6_19 hC dX6_rules_25 ?_
    refine get_X6_71 hC dX6_rules_28 ?_
    refine j_goto (tgt := 43) hC dX6_rules_31 (by decide) ?_
    exact j_iret hC dX6_rules_43 rfl h
set_option maxRecDepth 20000 in
def X6_isClock_f (N : Nat) (x0 : Int32) (s0 : St) : Option (Int32 × St) :=
  cal (X6_isWithin_f N x0 0 5 s0) fun v1 s1 =>
  chk (isZ v1) (some (v1, s1))
set_option maxRecDepth 20000 in
theorem X6_isClock_ok (l : Launch) (D : va_G) (g : Gm) {N : Nat} {x0 : Int32} {s0 : St} {o : Int32 × St} (h : X6_isClock_f N x0 s0 = some o) : MI l yX6_isClock cX6_isClock 1 (some .boolean) 1 D g (wX g) [.int x0] s0 o := by
  refine met_I (own := RX6) (by decide) rfl (Nat.le_of_ble_eq_true rfl) (fun K hC => ?_)
  show J K (wX g) 1 (QI K g (wX g) o) 0 [(0, .int x0)] [] s0
  unfold X6_isClock_f at h
  refine j_iload_n hC dX6_isClock_0 rfl 0 rfl ?_
  refine j_iconst (v := 0) hC dX6_isClock_1 (by decide) ?_
  refine j_iconst (v := 5) hC dX6_isClock_2 (by decide) ?_
  obtain ⟨v1, s1, hc, h⟩ := cal_some h
  refine call_X6_101 hC (fun l D => X6_isWithin_ok l D g hc) (by decide) (Nat.le_of_ble_eq_true rfl) dX6_isClock_3 ?_
  obtain ⟨hz, h⟩ := chk_some h
  exact j_iret hC dX6_isClock_6 (isZ_nar hz) h
set_option maxRecDepth 20000 in
def X6_clock_f (N : Nat) (x1 : Int32) (s0 : St) : Option (Int32 × St) :=
  cal (X6_isClock_f N x1 s0) fun v1 s1 =>
  if v1 = 0 then
  none
  else
  cal (X0_read_f N  s1) fun v2 s2 =>
    bnd (si s2 0 0) fun s3 =>
    if v2 = 0 then
    some ((-1 : Int32) - (gi s3 2), s3)
    else
    chk (inB x1 6) <|
      cal (X0_become_f N x1.toNatClampNeg s3) fun _ s4 =>
      some (gi s4 45, s4)
set_option maxRecDepth 20000 in
theorem X6_clock_ok (l : Launch) (D : va_G) (g : Gm) {N : Nat} {x1 : Int32} {s0 : St} {o : Int32 × St} (h : X6_clock_f N x1 s0 = some o) : MI l yX6_clock cX6_clock 3 (some .int) 8 D g (wX g) [.ref (g.1 0), .int x1] s0 o := by
  refine met_I (own := RX6) (by decide) rfl (Nat.le_of_ble_eq_true rfl) (fun K hC => ?_)
  show J K (wX g) 3 (QI K g (wX g) o) 0 [(0, .ref (g.1 0)), (1, .int x1)] [] s0
  unfold X6_clock_f at h
  refine j_iload_n hC dX6_clock_0 rfl 1 rfl ?_
  obtain ⟨v1, s1, hc, h⟩ := cal_some h
  refine call_X6_77 hC (fun l D => X6_isClock_ok l D g hc) (by decide) (Nat.le_of_ble_eq_true rfl) dX6_clock_1 ?_
  refine j_if_ne (tgt := 17) hC dX6_clock_4 (by decide) h ?_ ?_
  · intro h
    refine j_aload_n hC dX6_clock_17 rfl 0 rfl ?_
    refine get_X6_30 hC dX6_clock_18 ?_
    refine j_aload_n hC dX6_clock_21 rfl 0 rfl ?_
    refine get_X6_10 hC dX6_clock_22 ?_
    obtain ⟨v2, s2, hc, h⟩ := cal_some h
    refine call_X6_88 hC (fun l D => X0_read_ok l D g hc) (by decide) (Nat.le_of_ble_eq_true rfl) dX6_clock_25 ?_
    refine j_istore_n hC dX6_clock_28 rfl (by decide) rfl ?_
    refine j_aload_n hC dX6_clock_29 rfl 1 rfl ?_
    refine j_pc (n2 := 30) rfl ?_
    refine get_X6_10 hC dX6_clock_30 ?_
    refine j_iconst (v := 0) hC dX6_clock_33 (by decide) ?_
    refine put_X6_63 hC dX6_clock_34 h ?_
    intro s3 h
    refine j_iload_n hC dX6_clock_37 rfl 0 rfl ?_
    refine j_if_ne (tgt := 51) hC dX6_clock_38 (by decide) h ?_ ?_
    · intro h
      refine j_aload_n hC dX6_clock_51 rfl 1 rfl ?_
      refine get_X6_25 hC dX6_clock_52 ?_
      refine j_iload_n hC dX6_clock_55 rfl 2 rfl ?_
      refine ald_clocks hC dX6_clock_56 h ?_
      intro hj_x1_toNatClampNeg h
      refine j_aload_n hC dX6_clock_57 rfl 1 rfl ?_
      refine get_X6_30 hC dX6_clock_58 ?_
      obtain ⟨v3, s4, hc, h⟩ := cal_some h
      refine call_X6_89 hC hj_x1_toNatClampNeg (fun l D => X0_become_ok l D g hj_x1_toNatClampNeg hc) (by decide) (Nat.le_of_ble_eq_true rfl) dX6_clock_61 ?_
      refine j_pc (n2 := 64) rfl ?_
      refine j_aload_n hC dX6_clock_64 rfl 1 rfl ?_
      refine get_X6_30 hC dX6_clock_65 ?_
      refine get_X6_93 hC 6 (by decide) dX6_clock_68 ?_
      exact j_iret hC dX6_clock_71 rfl h
    · intro h
      refine j_iconst (v := (-1)) hC dX6_clock_41 (by decide) ?_
      refine j_aload_n hC dX6_clock_42 rfl 1 rfl ?_
      refine get_X6_10 hC dX6_clock_43 ?_
      refine get_X6_74 hC dX6_clock_46 ?_
      refine j_isub hC dX6_clock_49 ?_
      exact j_iret hC dX6_clock_50 rfl h
  · intro h
    cases h
set_option maxRecDepth 20000 in
def X6_end_f (N : Nat) (x1 : Int32) (s0 : St) : Option (Int32 × St) :=
  if x1 < 0 then
  some (0, s0)
  else
  if x1 ≤ gi s0 0 then
    bnd (si s0 0 x1) fun s1 =>
      some (1, s1)
    else
    some (0, s0)
set_option maxRecDepth 20000 in
theorem X6_end_ok (l : Launch) (D : va_G) (g : Gm) {N : Nat} {x1 : Int32} {s0 : St} {o : Int32 × St} (h : X6_end_f N x1 s0 = some o) : MI l yX6_end cX6_end 2 (some .boolean) 0 D g (wX g) [.ref (g.1 0), .int x1] s0 o := by
  refine met_I (own := RX6) (by decide) rfl (Nat.le_of_ble_eq_true rfl) (fun K hC => ?_)
  show J K (wX g) 2 (QI K g (wX g) o) 0 [(0, .ref (g.1 0)), (1, .int x1)] [] s0
  unfold X6_end_f at h
  refine j_iload_n hC dX6_end_0 rfl 1 rfl ?_
  refine j_if_lt (tgt := 15) hC dX6_end_1 (by decide) h ?_ ?_
  · intro h
    refine j_iconst (v := 0) hC dX6_end_15 (by decide) ?_
    exact j_iret hC dX6_end_16 rfl h
  · intro h
    refine j_iload_n hC dX6_end_4 rfl 1 rfl ?_
    refine j_aload_n hC dX6_end_5 rfl 0 rfl ?_
    refine get_X6_10 hC dX6_end_6 ?_
    refine get_X6_63 hC dX6_end_9 ?_
    refine j_icmp_le (tgt := 17) hC dX6_end_12 (by decide) h ?_ ?_
    · intro h
      refine j_aload_n hC dX6_end_17 rfl 0 rfl ?_
      refine get_X6_10 hC dX6_end_18 ?_
      refine j_iload_n hC dX6_end_21 rfl 1 rfl ?_
      refine put_X6_63 hC dX6_end_22 h ?_
      intro s1 h
      refine j_iconst (v := 1) hC dX6_end_25 (by decide) ?_
      exact j_iret hC dX6_end_26 rfl h
    · intro h
      refine j_iconst (v := 0) hC dX6_end_15 (by decide) ?_
      exact j_iret hC dX6_end_16 rfl h
set_option maxRecDepth 20000 in
def X6_fault_f (N : Nat) (s0 : St) : Option (Int32 × St) :=
  some (gi s0 1, s0)
set_option maxRecDepth 20000 in
theorem X6_fault_ok (l : Launch) (D : va_G) (g : Gm) {N : Nat} {s0 : St} {o : Int32 × St} (h : X6_fault_f N s0 = some o) : MI l yX6_fault cX6_fault 1 (some .int) 0 D g (wX g) [.ref (g.1 0)] s0 o := by
  refine met_I (own := RX6) (by decide) rfl (Nat.le_of_ble_eq_true rfl) (fun K hC => ?_)
  show J K (wX g) 1 (QI K g (wX g) o) 0 [(0, .ref (g.1 0))] [] s0
  unfold X6_fault_f at h
  refine j_aload_n hC dX6_fault_0 rfl 0 rfl ?_
  refine get_X6_10 hC dX6_fault_1 ?_
  refine get_X6_94 hC dX6_fault_4 ?_
  exact j_iret hC dX6_fault_7 rfl h
set_option maxRecDepth 20000 in
def X6_rule_f (N : Nat) (x1 : Int32) (s0 : St) : Option (Int32 × St) :=
  if x1 < 0 then
  some ((-1), s0)
  else
  if 5 ≤ x1 then
    some ((-1), s0)
    else
    ald s0 1 5 x1 fun v1 =>
      some (v1, s0)
set_option maxRecDepth 20000 in
theorem X6_rule_ok (l : Launch) (D : va_G) (g : Gm) {N : Nat} {x1 : Int32} {s0 : St} {o : Int32 × St} (h : X6_rule_f N x1 s0 = some o) : MI l yX6_rule cX6_rule 2 (some .int) 0 D g (wX g) [.ref (g.1 0), .int x1] s0 o := by
  refine met_I (own := RX6) (by decide) rfl (Nat.le_of_ble_eq_true rfl) (fun K hC => ?_)
  show J K (wX g) 2 (QI K g (wX g) o) 0 [(0, .ref (g.1 0)), (1, .int x1)] [] s0
  unfold X6_rule_f at h
  refine j_iload_n hC dX6_rule_0 rfl 1 rfl ?_
  refine j_if_lt (tgt := 21) hC dX6_rule_1 (by decide) h ?_ ?_
  · intro h
    refine j_iconst (v := (-1)) hC dX6_rule_21 (by decide) ?_
    exact j_iret hC dX6_rule_22 rfl h
  · intro h
    refine j_iload_n hC dX6_rule_4 rfl 1 rfl ?_
    refine j_iconst (v := 5) hC dX6_rule_5 (by decide) ?_
    refine j_icmp_ge (tgt := 21) hC dX6_rule_6 (by decide) h ?_ ?_
    · intro h
      refine j_iconst (v := (-1)) hC dX6_rule_21 (by decide) ?_
      exact j_iret hC dX6_rule_22 rfl h
    · intro h
      refine j_aload_n hC dX6_rule_9 rfl 0 rfl ?_
      refine get_X6_19 hC dX6_rule_10 ?_
      refine get_X6_97 hC dX6_rule_13 ?_
      refine j_iload_n hC dX6_rule_16 rfl 1 rfl ?_
      refine ald_X3_now hC dX6_rule_17 h ?_
      intro v1 h
      refine j_goto (tgt := 22) hC dX6_rule_18 (by decide) ?_
      exact j_iret hC dX6_rule_22 rfl h
set_option maxRecDepth 20000 in
def X6_song_l87 (N : Nat) (t1 : Int32) (t2 : Int32) (t3 : Int32) (t4 : Int32) (t5 : Int32) (s0 : St) : Option (Int32 × St) :=
  cal (X4_add_f N t1 t2 t3 t4 t5 s0) fun v1 s1 =>
  some (v1, s1)
set_option maxRecDepth 20000 in
theorem X6_song_l87_ok {K : Kx} {g : Gm} {N : Nat} {o : Int32 × St} (hC : Ok K cX6_song RX6 g 7 1 (some .int)) : ∀ (t1 : Int32) (t2 : Int32) (t3 : Int32) (t4 : Int32) (t5 : Int32) (s0 : St), X6_song_l87 N t1 t2 t3 t4 t5 s0 = some o → J K (wX g) 7 (QI K g (wX g) o) 87 [] [.int t5, .int t4, .int t3, .int t2, .int t1, .ref (g.1 8)] s0 := by
  intro t1 t2 t3 t4 t5 s0 h
  unfold X6_song_l87 at h
  obtain ⟨v1, s1, hc, h⟩ := cal_some h
  refine call_X6_106 hC (fun l D => X4_add_ok l D g hc) (by decide) (Nat.le_of_ble_eq_true rfl) dX6_song_87 ?_
  exact j_iret hC dX6_song_90 rfl h
set_option maxRecDepth 20000 in
def X6_song_l47 (N : Nat) (x1 : Int32) (x2 : Int32) (x3 : Int32) (x4 : Int32) (x5 : Int32) (t0 : Int32) (s0 : St) : Option (Int32 × St) :=
  if t0 = 0 then
  some ((-1), s0)
  else
  if gi s0 9 < 24 then
    if x5 = 0 then
      X6_song_l87 N x1 x2 x3 x4 0 s0
      else
      X6_song_l87 N x1 x2 x3 x4 1 s0
    else
    some ((-1), s0)
set_option maxRecDepth 20000 in
theorem X6_song_l47_ok {K : Kx} {g : Gm} {N : Nat} {o : Int32 × St} (hC : Ok K cX6_song RX6 g 7 1 (some .int)) : ∀ (x1 : Int32) (x2 : Int32) (x3 : Int32) (x4 : Int32) (x5 : Int32) (t0 : Int32) (s0 : St), X6_song_l47 N x1 x2 x3 x4 x5 t0 s0 = some o → J K (wX g) 7 (QI K g (wX g) o) 47 [(0, .ref (g.1 0)), (1, .int x1), (2, .int x2), (3, .int x3), (4, .int x4), (5, .int x5)] [.int t0] s0 := by
  intro x1 x2 x3 x4 x5 t0 s0 h
  unfold X6_song_l47 at h
  refine j_istore hC dX6_song_47 (by decide) rfl ?_
  refine j_iload hC dX6_song_49 0 rfl ?_
  refine j_if_eq (tgt := 66) hC dX6_song_51 (by decide) h ?_ ?_
  · intro h
    refine j_iconst (v := (-1)) hC dX6_song_66 (by decide) ?_
    exact j_iret hC dX6_song_67 rfl h
  · intro h
    refine j_aload_n hC dX6_song_54 rfl 1 rfl ?_
    refine get_X6_37 hC dX6_song_55 ?_
    refine get_X6_105 hC dX6_song_58 ?_
    refine j_bipush (v := 24) hC dX6_song_61 (by decide) ?_
    refine j_icmp_lt (tgt := 68) hC dX6_song_63 (by decide) h ?_ ?_
    · intro h
      refine j_aload_n hC dX6_song_68 rfl 1 rfl ?_
      refine get_X6_37 hC dX6_song_69 ?_
      refine j_iload_n hC dX6_song_72 rfl 2 rfl ?_
      refine j_iload_n hC dX6_song_73 rfl 3 rfl ?_
      refine j_iload_n hC dX6_song_74 rfl 4 rfl ?_
      refine j_iload hC dX6_song_75 5 rfl ?_
      refine j_iload hC dX6_song_77 6 rfl ?_
      refine j_pc (n2 := 79) rfl ?_
      refine j_if_eq (tgt := 86) hC dX6_song_79 (by decide) h ?_ ?_
      · intro h
        refine j_iconst (v := 0) hC dX6_song_86 (by decide) ?_
        refine j_sub [] rfl ?_
        exact X6_song_l87_ok hC x1 x2 x3 x4 0 s0 h
      · intro h
        refine j_iconst (v := 1) hC dX6_song_82 (by decide) ?_
        refine j_goto (tgt := 87) hC dX6_song_83 (by decide) ?_
        refine j_sub [] rfl ?_
        exact X6_song_l87_ok hC x1 x2 x3 x4 1 s0 h
    · intro h
      refine j_iconst (v := (-1)) hC dX6_song_66 (by decide) ?_
      exact j_iret hC dX6_song_67 rfl h
set_option maxRecDepth 20000 in
def X6_song_l46 (N : Nat) (x1 : Int32) (x2 : Int32) (x3 : Int32) (x4 : Int32) (x5 : Int32) (s0 : St) : Option (Int32 × St) :=
  X6_song_l47 N x1 x2 x3 x4 x5 0 s0
set_option maxRecDepth 20000 in
theorem X6_song_l46_ok {K : Kx} {g : Gm} {N : Nat} {o : Int32 × St} (hC : Ok K cX6_song RX6 g 7 1 (some .int)) : ∀ (x1 : Int32) (x2 : Int32) (x3 : Int32) (x4 : Int32) (x5 : Int32) (s0 : St), X6_song_l46 N x1 x2 x3 x4 x5 s0 = some o → J K (wX g) 7 (QI K g (wX g) o) 46 [(0, .ref (g.1 0)), (1, .int x1), (2, .int x2), (3, .int x3), (4, .int x4), (5, .int x5)] [] s0 := by
  intro x1 x2 x3 x4 x5 s0 h
  unfold X6_song_l46 at h
  refine j_iconst (v := 0) hC dX6_song_46 (by decide) ?_
  refine j_sub [0, 1, 2, 3, 4, 5] rfl ?_
  exact X6_song_l47_ok hC x1 x2 x3 x4 x5 0 s0 h
set_option maxRecDepth 20000 in
def X6_song_f (N : Nat) (x1 : Int32) (x2 : Int32) (x3 : Int32) (x4 : Int32) (x5 : Int32) (s0 : St) : Option (Int32 × St) :=
  cal (X6_isWithin_f N x1 30 900 s0) fun v1 s1 =>
  if v1 = 0 then
  X6_song_l46 N x1 x2 x3 x4 x5 s1
  else
  cal (X6_isWithin_f N x2 0 11 s1) fun v2 s2 =>
    if v2 = 0 then
    X6_song_l46 N x1 x2 x3 x4 x5 s2
    else
    cal (X6_isWithin_f N x3 0 11 s2) fun v3 s3 =>
      if v3 = 0 then
      X6_song_l46 N x1 x2 x3 x4 x5 s3
      else
      cal (X6_isWithin_f N x4 0 3 s3) fun v4 s4 =>
        if v4 = 0 then
        X6_song_l46 N x1 x2 x3 x4 x5 s4
        else
        X6_song_l47 N x1 x2 x3 x4 x5 1 s4
set_option maxRecDepth 20000 in
theorem X6_song_ok (l : Launch) (D : va_G) (g : Gm) {N : Nat} {x1 : Int32} {x2 : Int32} {x3 : Int32} {x4 : Int32} {x5 : Int32} {s0 : St} {o : Int32 × St} (h : X6_song_f N x1 x2 x3 x4 x5 s0 = some o) : MI l yX6_song cX6_song 7 (some .int) 1 D g (wX g) [.ref (g.1 0), .int x1, .int x2, .int x3, .int x4, .int x5] s0 o := by
  refine met_I (own := RX6) (by decide) rfl (Nat.le_of_ble_eq_true rfl) (fun K hC => ?_)
  show J K (wX g) 7 (QI K g (wX g) o) 0 [(0, .ref (g.1 0)), (1, .int x1), (2, .int x2), (3, .int x3), (4, .int x4), (5, .int x5)] [] s0
  unfold X6_song_f at h
  refine j_iload_n hC dX6_song_0 rfl 1 rfl ?_
  refine j_bipush (v := 30) hC dX6_song_1 (by decide) ?_
  refine j_sipush (v := 900) hC dX6_song_3 (by decide) ?_
  obtain ⟨v1, s1, hc, h⟩ := cal_some h
  refine call_X6_101 hC (fun l D => X6_isWithin_ok l D g hc) (by decide) (Nat.le_of_ble_eq_true rfl) dX6_song_6 ?_
  refine j_if_eq (tgt := 46) hC dX6_song_9 (by decide) h ?_ ?_
  · intro h
    refine j_sub [0, 1, 2, 3, 4, 5] rfl ?_
    exact X6_song_l46_ok hC x1 x2 x3 x4 x5 s1 h
  · intro h
    refine j_iload_n hC dX6_song_12 rfl 2 rfl ?_
    refine j_iconst (v := 0) hC dX6_song_13 (by decide) ?_
    refine j_bipush (v := 11) hC dX6_song_14 (by decide) ?_
    obtain ⟨v2, s2, hc, h⟩ := cal_some h
    refine call_X6_101 hC (fun l D => X6_isWithin_ok l D g hc) (by decide) (Nat.le_of_ble_eq_true rfl) dX6_song_16 ?_
    refine j_if_eq (tgt := 46) hC dX6_song_19 (by decide) h ?_ ?_
    · intro h
      refine j_sub [0, 1, 2, 3, 4, 5] rfl ?_
      exact X6_song_l46_ok hC x1 x2 x3 x4 x5 s2 h
    · intro h
      refine j_iload_n hC dX6_song_22 rfl 3 rfl ?_
      refine j_iconst (v := 0) hC dX6_song_23 (by decide) ?_
      refine j_bipush (v := 11) hC dX6_song_24 (by decide) ?_
      obtain ⟨v3, s3, hc, h⟩ := cal_some h
      refine call_X6_101 hC (fun l D => X6_isWithin_ok l D g hc) (by decide) (Nat.le_of_ble_eq_true rfl) dX6_song_26 ?_
      refine j_if_eq (tgt := 46) hC dX6_song_29 (by decide) h ?_ ?_
      · intro h
        refine j_sub [0, 1, 2, 3, 4, 5] rfl ?_
        exact X6_song_l46_ok hC x1 x2 x3 x4 x5 s3 h
      · intro h
        refine j_iload hC dX6_song_32 4 rfl ?_
        refine j_iconst (v := 0) hC dX6_song_34 (by decide) ?_
        refine j_iconst (v := 3) hC dX6_song_35 (by decide) ?_
        obtain ⟨v4, s4, hc, h⟩ := cal_some h
        refine call_X6_101 hC (fun l D => X6_isWithin_ok l D g hc) (by decide) (Nat.le_of_ble_eq_true rfl) dX6_song_36 ?_
        refine j_if_eq (tgt := 46) hC dX6_song_39 (by decide) h ?_ ?_
        · intro h
          refine j_sub [0, 1, 2, 3, 4, 5] rfl ?_
          exact X6_song_l46_ok hC x1 x2 x3 x4 x5 s4 h
        · intro h
          refine j_iconst (v := 1) hC dX6_song_42 (by decide) ?_
          refine j_goto (tgt := 47) hC dX6_song_43 (by decide) ?_
          refine j_sub [0, 1, 2, 3, 4, 5] rfl ?_
          exact X6_song_l47_ok hC x1 x2 x3 x4 x5 1 s4 h
set_option maxRecDepth 20000 in
def X6_vote_f (N : Nat) (x1 : Int32) (x2 : Int32) (s0 : St) : Option (Int32 × St) :=
  cal (X4_has_f N x1 s0) fun v1 s1 =>
  if v1 = 0 then
  some ((-1), s1)
  else
  cal (X6_isWithin_f N x2 0 9 s1) fun v2 s2 =>
    if v2 = 0 then
    some ((-1), s2)
    else
    cal (X4_takeVote_f N x1 x2 s2) fun _ s3 =>
      cal (X4_heat_f N x1 s3) fun v4 s4 =>
      some (v4, s4)
set_option maxRecDepth 20000 in
theorem X6_vote_ok (l : Launch) (D : va_G) (g : Gm) {N : Nat} {x1 : Int32} {x2 : Int32} {s0 : St} {o : Int32 × St} (h : X6_vote_f N x1 x2 s0 = some o) : MI l yX6_vote cX6_vote 3 (some .int) 1 D g (wX g) [.ref (g.1 0), .int x1, .int x2] s0 o := by
  refine met_I (own := RX6) (by decide) rfl (Nat.le_of_ble_eq_true rfl) (fun K hC => ?_)
  show J K (wX g) 3 (QI K g (wX g) o) 0 [(0, .ref (g.1 0)), (1, .int x1), (2, .int x2)] [] s0
  unfold X6_vote_f at h
  refine j_aload_n hC dX6_vote_0 rfl 0 rfl ?_
  refine get_X6_37 hC dX6_vote_1 ?_
  refine j_iload_n hC dX6_vote_4 rfl 1 rfl ?_
  obtain ⟨v1, s1, hc, h⟩ := cal_some h
  refine call_X6_110 hC (fun l D => X4_has_ok l D g hc) (by decide) (Nat.le_of_ble_eq_true rfl) dX6_vote_5 ?_
  refine j_if_eq (tgt := 21) hC dX6_vote_8 (by decide) h ?_ ?_
  · intro h
    refine j_iconst (v := (-1)) hC dX6_vote_21 (by decide) ?_
    exact j_iret hC dX6_vote_22 rfl h
  · intro h
    refine j_iload_n hC dX6_vote_11 rfl 2 rfl ?_
    refine j_iconst (v := 0) hC dX6_vote_12 (by decide) ?_
    refine j_bipush (v := 9) hC dX6_vote_13 (by decide) ?_
    obtain ⟨v2, s2, hc, h⟩ := cal_some h
    refine call_X6_101 hC (fun l D => X6_isWithin_ok l D g hc) (by decide) (Nat.le_of_ble_eq_true rfl) dX6_vote_15 ?_
    refine j_if_ne (tgt := 23) hC dX6_vote_18 (by decide) h ?_ ?_
    · intro h
      refine j_aload_n hC dX6_vote_23 rfl 0 rfl ?_
      refine get_X6_37 hC dX6_vote_24 ?_
      refine j_iload_n hC dX6_vote_27 rfl 1 rfl ?_
      refine j_iload_n hC dX6_vote_28 rfl 2 rfl ?_
      obtain ⟨v3, s3, hc, h⟩ := cal_some h
      refine call_X6_113 hC (fun l D => X4_takeVote_ok l D g hc) (by decide) (Nat.le_of_ble_eq_true rfl) dX6_vote_29 ?_
      refine j_aload_n hC dX6_vote_32 rfl 0 rfl ?_
      refine get_X6_37 hC dX6_vote_33 ?_
      refine j_pc (n2 := 36) rfl ?_
      refine j_iload_n hC dX6_vote_36 rfl 1 rfl ?_
      obtain ⟨v4, s4, hc, h⟩ := cal_some h
      refine call_X6_117 hC (fun l D => X4_heat_ok l D g hc) (by decide) (Nat.le_of_ble_eq_true rfl) dX6_vote_37 ?_
      exact j_iret hC dX6_vote_40 rfl h
    · intro h
      refine j_iconst (v := (-1)) hC dX6_vote_21 (by decide) ?_
      exact j_iret hC dX6_vote_22 rfl h
set_option maxRecDepth 20000 in
def X6_ask_f (N : Nat) (x1 : Int32) (s0 : St) : Option (Int32 × St) :=
  cal (X4_has_f N x1 s0) fun v1 s1 =>
  if v1 = 0 then
  some ((-1), s1)
  else
  ald s1 9 24 x1 fun v2 =>
    if v2 < 20 then
    ald s1 9 24 x1 fun v3 =>
      ast s1 9 24 x1 (v3 + 1) fun s2 =>
      ald s2 9 24 x1 fun v4 =>
      some (v4, s2)
    else
    some ((-1), s1)
set_option maxRecDepth 20000 in
theorem X6_ask_ok (l : Launch) (D : va_G) (g : Gm) {N : Nat} {x1 : Int32} {s0 : St} {o : Int32 × St} (h : X6_ask_f N x1 s0 = some o) : MI l yX6_ask cX6_ask 2 (some .int) 1 D g (wX g) [.ref (g.1 0), .int x1] s0 o := by
  refine met_I (own := RX6) (by decide) rfl (Nat.le_of_ble_eq_true rfl) (fun K hC => ?_)
  show J K (wX g) 2 (QI K g (wX g) o) 0 [(0, .ref (g.1 0)), (1, .int x1)] [] s0
  unfold X6_ask_f at h
  refine j_aload_n hC dX6_ask_0 rfl 0 rfl ?_
  refine get_X6_37 hC dX6_ask_1 ?_
  refine j_iload_n hC dX6_ask_4 rfl 1 rfl ?_
  obtain ⟨v1, s1, hc, h⟩ := cal_some h
  refine call_X6_110 hC (fun l D => X4_has_ok l D g hc) (by decide) (Nat.le_of_ble_eq_true rfl) dX6_ask_5 ?_
  refine j_if_eq (tgt := 25) hC dX6_ask_8 (by decide) h ?_ ?_
  · intro h
    refine j_iconst (v := (-1)) hC dX6_ask_25 (by decide) ?_
    exact j_iret hC dX6_ask_26 rfl h
  · intro h
    refine j_aload_n hC dX6_ask_11 rfl 0 rfl ?_
    refine get_X6_37 hC dX6_ask_12 ?_
    refine get_X6_121 hC dX6_ask_15 ?_
    refine j_iload_n hC dX6_ask_18 rfl 1 rfl ?_
    refine ald_X4_asksOpen hC dX6_ask_19 h ?_
    intro v2 h
    refine j_bipush (v := 20) hC dX6_ask_20 (by decide) ?_
    refine j_icmp_lt (tgt := 27) hC dX6_ask_22 (by decide) h ?_ ?_
    · intro h
      refine j_aload_n hC dX6_ask_27 rfl 0 rfl ?_
      refine get_X6_37 hC dX6_ask_28 ?_
      refine get_X6_121 hC dX6_ask_31 ?_
      refine j_iload_n hC dX6_ask_34 rfl 1 rfl ?_
      refine j_dup2 hC rfl rfl dX6_ask_35 ?_
      refine ald_X4_asksOpen hC dX6_ask_36 h ?_
      intro v3 h
      refine j_iconst (v := 1) hC dX6_ask_37 (by decide) ?_
      refine j_pc (n2 := 38) rfl ?_
      refine j_iadd hC dX6_ask_38 ?_
      refine ast_X4_asksOpen hC dX6_ask_39 h ?_
      intro s2 h
      refine j_aload_n hC dX6_ask_40 rfl 0 rfl ?_
      refine get_X6_37 hC dX6_ask_41 ?_
      refine get_X6_121 hC dX6_ask_44 ?_
      refine j_iload_n hC dX6_ask_47 rfl 1 rfl ?_
      refine ald_X4_asksOpen hC dX6_ask_48 h ?_
      intro v4 h
      exact j_iret hC dX6_ask_49 rfl h
    · intro h
      refine j_iconst (v := (-1)) hC dX6_ask_25 (by decide) ?_
      exact j_iret hC dX6_ask_26 rfl h
set_option maxRecDepth 20000 in
def X6_told_f (N : Nat) (x1 : Int32) (x2 : Int32) (s0 : St) : Option (Int32 × St) :=
  cal (X4_has_f N x1 s0) fun v1 s1 =>
  if v1 = 0 then
  some ((-2), s1)
  else
  tsw5 x2
    (cal (X4_heat_f N x1 s1) fun v2 s2 =>
      some (v2, s2))
    (ald s1 11 24 x1 fun v3 =>
      some (v3, s1))
    (ald s1 12 24 x1 fun v4 =>
      some (v4, s1))
    (ald s1 9 24 x1 fun v5 =>
      some (v5, s1))
    (ald s1 10 24 x1 fun v6 =>
      some (v6, s1))
    (some ((-2), s1))
set_option maxRecDepth 20000 in
theorem X6_told_ok (l : Launch) (D : va_G) (g : Gm) {N : Nat} {x1 : Int32} {x2 : Int32} {s0 : St} {o : Int32 × St} (h : X6_told_f N x1 x2 s0 = some o) : MI l yX6_told cX6_told 3 (some .int) 1 D g (wX g) [.ref (g.1 0), .int x1, .int x2] s0 o := by
  refine met_I (own := RX6) (by decide) rfl (Nat.le_of_ble_eq_true rfl) (fun K hC => ?_)
  show J K (wX g) 3 (QI K g (wX g) o) 0 [(0, .ref (g.1 0)), (1, .int x1), (2, .int x2)] [] s0
  unfold X6_told_f at h
  refine j_aload_n hC dX6_told_0 rfl 0 rfl ?_
  refine get_X6_37 hC dX6_told_1 ?_
  refine j_iload_n hC dX6_told_4 rfl 1 rfl ?_
  obtain ⟨v1, s1, hc, h⟩ := cal_some h
  refine call_X6_110 hC (fun l D => X4_has_ok l D g hc) (by decide) (Nat.le_of_ble_eq_true rfl) dX6_told_5 ?_
  refine j_if_ne (tgt := 14) hC dX6_told_8 (by decide) h ?_ ?_
  · intro h
    refine j_iload_n hC dX6_told_14 rfl 2 rfl ?_
    refine j_tsw5 (t0 := 48) (t1 := 57) (t2 := 67) (t3 := 77) (t4 := 87) (t := 97) hC dX6_told_15 (by decide) (by decide) (by decide) (by decide) (by decide) (by decide) h ?_ ?_ ?_ ?_ ?_ ?_
    · intro h
      refine j_aload_n hC dX6_told_48 rfl 0 rfl ?_
      refine get_X6_37 hC dX6_told_49 ?_
      refine j_iload_n hC dX6_told_52 rfl 1 rfl ?_
      obtain ⟨v2, s2, hc, h⟩ := cal_some h
      refine call_X6_117 hC (fun l D => X4_heat_ok l D g hc) (by decide) (Nat.le_of_ble_eq_true rfl) dX6_told_53 ?_
      exact j_iret hC dX6_told_56 rfl h
    · intro h
      refine j_aload_n hC dX6_told_57 rfl 0 rfl ?_
      refine get_X6_37 hC dX6_told_58 ?_
      refine get_X6_150 hC dX6_told_61 ?_
      refine j_iload_n hC dX6_told_64 rfl 1 rfl ?_
      refine ald_X4_played hC dX6_told_65 h ?_
      intro v3 h
      exact j_iret hC dX6_told_66 rfl h
    · intro h
      refine j_aload_n hC dX6_told_67 rfl 0 rfl ?_
      refine get_X6_37 hC dX6_told_68 ?_
      refine get_X6_153 hC dX6_told_71 ?_
      refine j_iload_n hC dX6_told_74 rfl 1 rfl ?_
      refine ald_X4_began hC dX6_told_75 h ?_
      intro v4 h
      exact j_iret hC dX6_told_76 rfl h
    · intro h
      refine j_aload_n hC dX6_told_77 rfl 0 rfl ?_
      refine get_X6_37 hC dX6_told_78 ?_
      refine get_X6_121 hC dX6_told_81 ?_
      refine j_iload_n hC dX6_told_84 rfl 1 rfl ?_
      refine ald_X4_asksOpen hC dX6_told_85 h ?_
      intro v5 h
      exact j_iret hC dX6_told_86 rfl h
    · intro h
      refine j_aload_n hC dX6_told_87 rfl 0 rfl ?_
      refine get_X6_37 hC dX6_told_88 ?_
      refine get_X6_156 hC dX6_told_91 ?_
      refine j_iload_n hC dX6_told_94 rfl 1 rfl ?_
      refine ald_X4_asksDone hC dX6_told_95 h ?_
      intro v6 h
      exact j_iret hC dX6_told_96 rfl h
    · intro h
      refine j_bipush (v := (-2)) hC dX6_told_97 (by decide) ?_
      exact j_iret hC dX6_told_99 rfl h
  · intro h
    refine j_bipush (v := (-2)) hC dX6_told_11 (by decide) ?_
    exact j_iret hC dX6_told_13 rfl h
set_option maxRecDepth 20000 in
def X6_play_l24 (N : Nat) (s0 : St) : Option (Int32 × St) :=
  none
set_option maxRecDepth 20000 in
theorem X6_play_l24_ok {K : Kx} {g : Gm} {N : Nat} {o : Int32 × St} (hC : Ok K cX6_play RX6 g 3 0 (some .int)) : ∀ (s0 : St), X6_play_l24 N  s0 = some o → J K (wX g) 3 (QI K g (wX g) o) 24 [] [] s0 := by
  intro  s0 h
  unfold X6_play_l24 at h
  cases h
set_option maxRecDepth 20000 in
def X6_play_f (N : Nat) (x1 : Int32) (x2 : Int32) (s0 : St) : Option (Int32 × St) :=
  if x1 < 0 then
  X6_play_l24 N s0
  else
  if gi s0 11 ≤ x1 then
    X6_play_l24 N s0
    else
    if x2 < 0 then
      X6_play_l24 N s0
      else
      if x2 ≤ 3 then
        tsw3 x2
          (ald s0 19 300 x1 fun v1 =>
            some (v1, s0))
          (ald s0 20 300 x1 fun v2 =>
            some (v2, s0))
          (ald s0 21 300 x1 fun v3 =>
            some (v3, s0))
          (ald s0 22 300 x1 fun v4 =>
            some (v4, s0))
        else
        X6_play_l24 N s0
set_option maxRecDepth 20000 in
theorem X6_play_ok (l : Launch) (D : va_G) (g : Gm) {N : Nat} {x1 : Int32} {x2 : Int32} {s0 : St} {o : Int32 × St} (h : X6_play_f N x1 x2 s0 = some o) : MI l yX6_play cX6_play 3 (some .int) 0 D g (wX g) [.ref (g.1 0), .int x1, .int x2] s0 o := by
  refine met_I (own := RX6) (by decide) rfl (Nat.le_of_ble_eq_true rfl) (fun K hC => ?_)
  show J K (wX g) 3 (QI K g (wX g) o) 0 [(0, .ref (g.1 0)), (1, .int x1), (2, .int x2)] [] s0
  unfold X6_play_f at h
  refine j_iload_n hC dX6_play_0 rfl 1 rfl ?_
  refine j_if_lt (tgt := 24) hC dX6_play_1 (by decide) h ?_ ?_
  · intro h
    refine j_sub [] rfl ?_
    exact X6_play_l24_ok hC s0 h
  · intro h
    refine j_iload_n hC dX6_play_4 rfl 1 rfl ?_
    refine j_aload_n hC dX6_play_5 rfl 0 rfl ?_
    refine get_X6_44 hC dX6_play_6 ?_
    refine get_X6_159 hC dX6_play_9 ?_
    refine j_icmp_ge (tgt := 24) hC dX6_play_12 (by decide) h ?_ ?_
    · intro h
      refine j_sub [] rfl ?_
      exact X6_play_l24_ok hC s0 h
    · intro h
      refine j_iload_n hC dX6_play_15 rfl 2 rfl ?_
      refine j_if_lt (tgt := 24) hC dX6_play_16 (by decide) h ?_ ?_
      · intro h
        refine j_sub [] rfl ?_
        exact X6_play_l24_ok hC s0 h
      · intro h
        refine j_iload_n hC dX6_play_19 rfl 2 rfl ?_
        refine j_iconst (v := 3) hC dX6_play_20 (by decide) ?_
        refine j_icmp_le (tgt := 34) hC dX6_play_21 (by decide) h ?_ ?_
        · intro h
          refine j_iload_n hC dX6_play_34 rfl 2 rfl ?_
          refine j_tsw3 (t0 := 60) (t1 := 70) (t2 := 80) (t := 90) hC dX6_play_35 (by decide) (by decide) (by decide) (by decide) h ?_ ?_ ?_ ?_
          · intro h
            refine j_aload_n hC dX6_play_60 rfl 0 rfl ?_
            refine get_X6_44 hC dX6_play_61 ?_
            refine get_X6_167 hC dX6_play_64 ?_
            refine j_iload_n hC dX6_play_67 rfl 1 rfl ?_
            refine ald_X1_playSong hC dX6_play_68 h ?_
            intro v1 h
            exact j_iret hC dX6_play_69 rfl h
          · intro h
            refine j_aload_n hC dX6_play_70 rfl 0 rfl ?_
            refine get_X6_44 hC dX6_play_71 ?_
            refine get_X6_170 hC dX6_play_74 ?_
            refine j_iload_n hC dX6_play_77 rfl 1 rfl ?_
            refine ald_X1_playBegan hC dX6_play_78 h ?_
            intro v2 h
            exact j_iret hC dX6_play_79 rfl h
          · intro h
            refine j_aload_n hC dX6_play_80 rfl 0 rfl ?_
            refine get_X6_44 hC dX6_play_81 ?_
            refine get_X6_173 hC dX6_play_84 ?_
            refine j_iload_n hC dX6_play_87 rfl 1 rfl ?_
            refine ald_X1_playHour hC dX6_play_88 h ?_
            intro v3 h
            exact j_iret hC dX6_play_89 rfl h
          · intro h
            refine j_aload_n hC dX6_play_90 rfl 0 rfl ?_
            refine get_X6_44 hC dX6_play_91 ?_
            refine get_X6_176 hC dX6_play_94 ?_
            refine j_iload_n hC dX6_play_97 rfl 1 rfl ?_
            refine ald_X1_playItem hC dX6_play_98 h ?_
            intro v4 h
            exact j_iret hC dX6_play_99 rfl h
        · intro h
          refine j_sub [] rfl ?_
          exact X6_play_l24_ok hC s0 h
set_option maxRecDepth 20000 in
def X6_left_l32 (N : Nat) (s0 : St) : Option (Int32 × St) :=
  none
set_option maxRecDepth 20000 in
theorem X6_left_l32_ok {K : Kx} {g : Gm} {N : Nat} {o : Int32 × St} (hC : Ok K cX6_left RX6 g 3 0 (some .int)) : ∀ (s0 : St), X6_left_l32 N  s0 = some o → J K (wX g) 3 (QI K g (wX g) o) 32 [] [] s0 := by
  intro  s0 h
  unfold X6_left_l32 at h
  cases h
set_option maxRecDepth 20000 in
def X6_left_f (N : Nat) (x1 : Int32) (x2 : Int32) (s0 : St) : Option (Int32 × St) :=
  if x1 < 0 then
  X6_left_l32 N s0
  else
  if gi s0 10 ≤ x1 then
    X6_left_l32 N s0
    else
    if x2 < 0 then
      X6_left_l32 N s0
      else
      ald s0 17 168 x1 fun v1 =>
        if x2 < v1 then
        ald s0 18 1344 ((x1 * 8) + x2) fun v2 =>
          some (v2, s0)
        else
        X6_left_l32 N s0
set_option maxRecDepth 20000 in
theorem X6_left_ok (l : Launch) (D : va_G) (g : Gm) {N : Nat} {x1 : Int32} {x2 : Int32} {s0 : St} {o : Int32 × St} (h : X6_left_f N x1 x2 s0 = some o) : MI l yX6_left cX6_left 3 (some .int) 0 D g (wX g) [.ref (g.1 0), .int x1, .int x2] s0 o := by
  refine met_I (own := RX6) (by decide) rfl (Nat.le_of_ble_eq_true rfl) (fun K hC => ?_)
  show J K (wX g) 3 (QI K g (wX g) o) 0 [(0, .ref (g.1 0)), (1, .int x1), (2, .int x2)] [] s0
  unfold X6_left_f at h
  refine j_iload_n hC dX6_left_0 rfl 1 rfl ?_
  refine j_if_lt (tgt := 32) hC dX6_left_1 (by decide) h ?_ ?_
  · intro h
    refine j_sub [] rfl ?_
    exact X6_left_l32_ok hC s0 h
  · intro h
    refine j_iload_n hC dX6_left_4 rfl 1 rfl ?_
    refine j_aload_n hC dX6_left_5 rfl 0 rfl ?_
    refine get_X6_44 hC dX6_left_6 ?_
    refine get_X6_134 hC dX6_left_9 ?_
    refine j_icmp_ge (tgt := 32) hC dX6_left_12 (by decide) h ?_ ?_
    · intro h
      refine j_sub [] rfl ?_
      exact X6_left_l32_ok hC s0 h
    · intro h
      refine j_iload_n hC dX6_left_15 rfl 2 rfl ?_
      refine j_if_lt (tgt := 32) hC dX6_left_16 (by decide) h ?_ ?_
      · intro h
        refine j_sub [] rfl ?_
        exact X6_left_l32_ok hC s0 h
      · intro h
        refine j_iload_n hC dX6_left_19 rfl 2 rfl ?_
        refine j_aload_n hC dX6_left_20 rfl 0 rfl ?_
        refine get_X6_44 hC dX6_left_21 ?_
        refine get_X6_179 hC dX6_left_24 ?_
        refine j_iload_n hC dX6_left_27 rfl 1 rfl ?_
        refine ald_X1_hourItems hC dX6_left_28 h ?_
        intro v1 h
        refine j_icmp_lt (tgt := 42) hC dX6_left_29 (by decide) h ?_ ?_
        · intro h
          refine j_aload_n hC dX6_left_42 rfl 0 rfl ?_
          refine get_X6_44 hC dX6_left_43 ?_
          refine get_X6_184 hC dX6_left_46 ?_
          refine j_iload_n hC dX6_left_49 rfl 1 rfl ?_
          refine j_bipush (v := 8) hC dX6_left_50 (by decide) ?_
          refine j_imul hC dX6_left_52 ?_
          refine j_iload_n hC dX6_left_53 rfl 2 rfl ?_
          refine j_pc (n2 := 54) rfl ?_
          refine j_iadd hC dX6_left_54 ?_
          refine ald_X1_itemLeft hC dX6_left_55 h ?_
          intro v2 h
          exact j_iret hC dX6_left_56 rfl h
        · intro h
          refine j_sub [] rfl ?_
          exact X6_left_l32_ok hC s0 h
set_option maxRecDepth 20000 in
def X6_endOfPlay_f (N : Nat) (x1 : Int32) (s0 : St) : Option (Int32 × St) :=
  ald s0 20 300 x1 fun v1 =>
  ald s0 19 300 x1 fun v2 =>
  ald s0 4 24 v2 fun v3 =>
  some (v1 + v3, s0)
set_option maxRecDepth 20000 in
theorem X6_endOfPlay_ok (l : Launch) (D : va_G) (g : Gm) {N : Nat} {x1 : Int32} {s0 : St} {o : Int32 × St} (h : X6_endOfPlay_f N x1 s0 = some o) : MI l yX6_endOfPlay cX6_endOfPlay 2 (some .int) 0 D g (wX g) [.ref (g.1 0), .int x1] s0 o := by
  refine met_I (own := RX6) (by decide) rfl (Nat.le_of_ble_eq_true rfl) (fun K hC => ?_)
  show J K (wX g) 2 (QI K g (wX g) o) 0 [(0, .ref (g.1 0)), (1, .int x1)] [] s0
  unfold X6_endOfPlay_f at h
  refine j_aload_n hC dX6_endOfPlay_0 rfl 0 rfl ?_
  refine get_X6_44 hC dX6_endOfPlay_1 ?_
  refine get_X6_170 hC dX6_endOfPlay_4 ?_
  refine j_iload_n hC dX6_endOfPlay_7 rfl 1 rfl ?_
  refine ald_X1_playBegan hC dX6_endOfPlay_8 h ?_
  intro v1 h
  refine j_aload_n hC dX6_endOfPlay_9 rfl 0 rfl ?_
  refine get_X6_37 hC dX6_endOfPlay_10 ?_
  refine j_pc (n2 := 13) rfl ?_
  refine get_X6_237 hC dX6_endOfPlay_13 ?_
  refine j_aload_n hC dX6_endOfPlay_16 rfl 0 rfl ?_
  refine get_X6_44 hC dX6_endOfPlay_17 ?_
  refine get_X6_167 hC dX6_endOfPlay_20 ?_
  refine j_iload_n hC dX6_endOfPlay_23 rfl 1 rfl ?_
  refine ald_X1_playSong hC dX6_endOfPlay_24 h ?_
  intro v2 h
  refine ald_X4_seconds hC dX6_endOfPlay_25 h ?_
  intro v3 h
  refine j_iadd hC dX6_endOfPlay_26 ?_
  refine j_pc (n2 := 27) rfl ?_
  exact j_iret hC dX6_endOfPlay_27 rfl h
set_option maxRecDepth 20000 in
def X6_at_l37 (N : Nat) (k2 : Int32 → Int32 → St → Option (Int32 × St)) (x1 : Int32) (x2 : Int32) (s0 : St) : Option (Int32 × St) :=
  bnd (x2 + 1) fun v1 =>
  k2 x1 v1 s0
set_option maxRecDepth 20000 in
theorem X6_at_l37_ok {K : Kx} {g : Gm} {N : Nat} {o : Int32 × St} (hC : Ok K cX6_at RX6 g 3 1 (some .int)) {k2 : Int32 → Int32 → St → Option (Int32 × St)} (hk2 : ∀ (x1 : Int32) (x2 : Int32) (s0 : St), k2 x1 x2 s0 = some o → J K (wX g) 3 (QI K g (wX g) o) 2 [(0, .ref (g.1 0)), (1, .int x1), (2, .int x2)] [] s0) : ∀ (x1 : Int32) (x2 : Int32) (s0 : St), X6_at_l37 N k2 x1 x2 s0 = some o → J K (wX g) 3 (QI K g (wX g) o) 37 [(0, .ref (g.1 0)), (1, .int x1), (2, .int x2)] [] s0 := by
  intro x1 x2 s0 h
  unfold X6_at_l37 at h
  refine j_iincb (n2 := 1) (k0 := 2) (lv2 := fun z => [(2, .int z), (0, .ref (g.1 0)), (1, .int x1)]) hC dX6_at_37 rfl (by decide) (by decide) (fun _ => rfl) h (fun v1 h => ?_)
  refine j_goto (tgt := 2) hC dX6_at_40 (by decide) ?_
  refine j_sub [1, 2, 0] rfl ?_
  exact hk2 x1 v1 s0 h
set_option maxRecDepth 20000 in
def X6_at_l2 (N : Nat) : Nat → Int32 → Int32 → St → Option (Int32 × St)
  | 0 => fun _ _ _ => none
  | n + 1 => fun x1 x2 s0 =>
  if gi s0 11 ≤ x2 then
  some ((-1), s0)
  else
  ald s0 20 300 x2 fun v1 =>
    if x1 < v1 then
    X6_at_l37 N (X6_at_l2 N n) x1 x2 s0
    else
    cal (X6_endOfPlay_f N x2 s0) fun v2 s1 =>
      if v2 ≤ x1 then
      X6_at_l37 N (X6_at_l2 N n) x1 x2 s1
      else
      some (x2, s1)
set_option maxRecDepth 20000 in
theorem X6_at_l2_ok {K : Kx} {g : Gm} {N : Nat} {o : Int32 × St} (hC : Ok K cX6_at RX6 g 3 1 (some .int)) : ∀ (n : Nat) (x1 : Int32) (x2 : Int32) (s0 : St), X6_at_l2 N n x1 x2 s0 = some o → J K (wX g) 3 (QI K g (wX g) o) 2 [(0, .ref (g.1 0)), (1, .int x1), (2, .int x2)] [] s0 := by
  intro n
  induction n with
  | zero => intro x1 x2 s0 h; cases h
  | succ n ih =>
    intro x1 x2 s0 h
    rw [X6_at_l2] at h
    refine j_iload_n hC dX6_at_2 rfl 2 rfl ?_
    refine j_aload_n hC dX6_at_3 rfl 0 rfl ?_
    refine get_X6_44 hC dX6_at_4 ?_
    refine get_X6_159 hC dX6_at_7 ?_
    refine j_icmp_ge (tgt := 43) hC dX6_at_10 (by decide) h ?_ ?_
    · intro h
      refine j_iconst (v := (-1)) hC dX6_at_43 (by decide) ?_
      exact j_iret hC dX6_at_44 rfl h
    · intro h
      refine j_iload_n hC dX6_at_13 rfl 1 rfl ?_
      refine j_aload_n hC dX6_at_14 rfl 0 rfl ?_
      refine get_X6_44 hC dX6_at_15 ?_
      refine get_X6_170 hC dX6_at_18 ?_
      refine j_iload_n hC dX6_at_21 rfl 2 rfl ?_
      refine ald_X1_playBegan hC dX6_at_22 h ?_
      intro v1 h
      refine j_icmp_lt (tgt := 37) hC dX6_at_23 (by decide) h ?_ ?_
      · intro h
        refine j_sub [0, 1, 2] rfl ?_
        exact X6_at_l37_ok hC ih x1 x2 s0 h
      · intro h
        refine j_iload_n hC dX6_at_26 rfl 1 rfl ?_
        refine j_aload_n hC dX6_at_27 rfl 0 rfl ?_
        refine j_iload_n hC dX6_at_28 rfl 2 rfl ?_
        obtain ⟨v2, s1, hc, h⟩ := cal_some h
        refine call_X6_187 hC (fun l D => X6_endOfPlay_ok l D g hc) (by decide) (Nat.le_of_ble_eq_true rfl) dX6_at_29 ?_
        refine j_icmp_ge (tgt := 37) hC dX6_at_32 (by decide) h ?_ ?_
        · intro h
          refine j_sub [0, 1, 2] rfl ?_
          exact X6_at_l37_ok hC ih x1 x2 s1 h
        · intro h
          refine j_iload_n hC dX6_at_35 rfl 2 rfl ?_
          exact j_iret hC dX6_at_36 rfl h
set_option maxRecDepth 20000 in
def X6_at_f (N : Nat) (x1 : Int32) (s0 : St) : Option (Int32 × St) :=
  X6_at_l2 N N x1 0 s0
set_option maxRecDepth 20000 in
theorem X6_at_ok (l : Launch) (D : va_G) (g : Gm) {N : Nat} {x1 : Int32} {s0 : St} {o : Int32 × St} (h : X6_at_f N x1 s0 = some o) : MI l yX6_at cX6_at 3 (some .int) 1 D g (wX g) [.ref (g.1 0), .int x1] s0 o := by
  refine met_I (own := RX6) (by decide) rfl (Nat.le_of_ble_eq_true rfl) (fun K hC => ?_)
  show J K (wX g) 3 (QI K g (wX g) o) 0 [(0, .ref (g.1 0)), (1, .int x1)] [] s0
  unfold X6_at_f at h
  refine j_iconst (v := 0) hC dX6_at_0 (by decide) ?_
  refine j_istore_n hC dX6_at_1 rfl (by decide) rfl ?_
  refine j_sub [1, 2, 0] rfl ?_
  exact X6_at_l2_ok hC N x1 0 s0 h
set_option maxRecDepth 20000 in
def X6_secondsWithin_f (N : Nat) (x1 : Int32) (x2 : Int32) (x3 : Int32) (s0 : St) : Option (Int32 × St) :=
  ald s0 20 300 x1 fun v1 =>
  bnd (imax x2 v1) fun v2 =>
  cal (X6_endOfPlay_f N x1 s0) fun v3 s1 =>
  bnd (imin x3 v3) fun v4 =>
  if v4 ≤ v2 then
  some (0, s1)
  else
  some (v4 - v2, s1)
set_option maxRecDepth 20000 in
theorem X6_secondsWithin_ok (l : Launch) (D : va_G) (g : Gm) {N : Nat} {x1 : Int32} {x2 : Int32} {x3 : Int32} {s0 : St} {o : Int32 × St} (h : X6_secondsWithin_f N x1 x2 x3 s0 = some o) : MI l yX6_secondsWithin cX6_secondsWithin 6 (some .int) 1 D g (wX g) [.ref (g.1 0), .int x1, .int x2, .int x3] s0 o := by
  refine met_I (own := RX6) (by decide) rfl (Nat.le_of_ble_eq_true rfl) (fun K hC => ?_)
  show J K (wX g) 6 (QI K g (wX g) o) 0 [(0, .ref (g.1 0)), (1, .int x1), (2, .int x2), (3, .int x3)] [] s0
  unfold X6_secondsWithin_f at h
  refine j_iload_n hC dX6_secondsWithin_0 rfl 2 rfl ?_
  refine j_aload_n hC dX6_secondsWithin_1 rfl 0 rfl ?_
  refine get_X6_44 hC dX6_secondsWithin_2 ?_
  refine get_X6_170 hC dX6_secondsWithin_5 ?_
  refine j_iload_n hC dX6_secondsWithin_8 rfl 1 rfl ?_
  refine ald_X1_playBegan hC dX6_secondsWithin_9 h ?_
  intro v1 h
  refine mt_X6_245 hC (by decide) (Nat.le_of_ble_eq_true rfl) dX6_secondsWithin_10 ?_
  refine j_pc (n2 := 13) rfl ?_
  refine j_bi (E := imax x2 v1) h (fun v2 h => ?_)
  refine j_istore hC dX6_secondsWithin_13 (by decide) rfl ?_
  refine j_iload_n hC dX6_secondsWithin_15 rfl 4 rfl ?_
  refine j_aload_n hC dX6_secondsWithin_16 rfl 1 rfl ?_
  refine j_iload_n hC dX6_secondsWithin_17 rfl 2 rfl ?_
  obtain ⟨v3, s1, hc, h⟩ := cal_some h
  refine call_X6_187 hC (fun l D => X6_endOfPlay_ok l D g hc) (by decide) (Nat.le_of_ble_eq_true rfl) dX6_secondsWithin_18 ?_
  refine mt_X6_251 hC (by decide) (Nat.le_of_ble_eq_true rfl) dX6_secondsWithin_21 ?_
  refine j_bi (E := imin x3 v3) h (fun v4 h => ?_)
  refine j_istore hC dX6_secondsWithin_24 (by decide) rfl ?_
  refine j_iload hC dX6_secondsWithin_26 0 rfl ?_
  refine j_pc (n2 := 28) rfl ?_
  refine j_iload hC dX6_secondsWithin_28 1 rfl ?_
  refine j_icmp_le (tgt := 41) hC dX6_secondsWithin_30 (by decide) h ?_ ?_
  · intro h
    refine j_iconst (v := 0) hC dX6_secondsWithin_41 (by decide) ?_
    exact j_iret hC dX6_secondsWithin_42 rfl h
  · intro h
    refine j_iload hC dX6_secondsWithin_33 0 rfl ?_
    refine j_iload hC dX6_secondsWithin_35 1 rfl ?_
    refine j_isub hC dX6_secondsWithin_37 ?_
    refine j_goto (tgt := 42) hC dX6_secondsWithin_38 (by decide) ?_
    exact j_iret hC dX6_secondsWithin_42 rfl h
set_option maxRecDepth 20000 in
def X6_rights_l70 (N : Nat) (k23 : Int32 → Int32 → Int32 → Int32 → Int32 → St → Option (Int32 × St)) (x1 : Int32) (x2 : Int32) (x3 : Int32) (x4 : Int32) (x5 : Int32) (s0 : St) : Option (Int32 × St) :=
  bnd (x5 + 1) fun v1 =>
  k23 x1 x2 x3 x4 v1 s0
set_option maxRecDepth 20000 in
theorem X6_rights_l70_ok {K : Kx} {g : Gm} {N : Nat} {o : Int32 × St} (hC : Ok K cX6_rights RX6 g 6 2 (some .int)) {k23 : Int32 → Int32 → Int32 → Int32 → Int32 → St → Option (Int32 × St)} (hk23 : ∀ (x1 : Int32) (x2 : Int32) (x3 : Int32) (x4 : Int32) (x5 : Int32) (s0 : St), k23 x1 x2 x3 x4 x5 s0 = some o → J K (wX g) 6 (QI K g (wX g) o) 23 [(0, .ref (g.1 0)), (1, .int x1), (2, .int x2), (3, .int x3), (4, .int x4), (5, .int x5)] [] s0) : ∀ (x1 : Int32) (x2 : Int32) (x3 : Int32) (x4 : Int32) (x5 : Int32) (s0 : St), X6_rights_l70 N k23 x1 x2 x3 x4 x5 s0 = some o → J K (wX g) 6 (QI K g (wX g) o) 70 [(0, .ref (g.1 0)), (1, .int x1), (2, .int x2), (3, .int x3), (4, .int x4), (5, .int x5)] [] s0 := by
  intro x1 x2 x3 x4 x5 s0 h
  unfold X6_rights_l70 at h
  refine j_iincb (n2 := 1) (k0 := 5) (lv2 := fun z => [(5, .int z), (0, .ref (g.1 0)), (1, .int x1), (2, .int x2), (3, .int x3), (4, .int x4)]) hC dX6_rights_70 rfl (by decide) (by decide) (fun _ => rfl) h (fun v1 h => ?_)
  refine j_goto (tgt := 23) hC dX6_rights_73 (by decide) ?_
  refine j_sub [1, 2, 3, 4, 5, 0] rfl ?_
  exact hk23 x1 x2 x3 x4 v1 s0 h
set_option maxRecDepth 20000 in
def X6_rights_l23 (N : Nat) : Nat → Int32 → Int32 → Int32 → Int32 → Int32 → St → Option (Int32 × St)
  | 0 => fun _ _ _ _ _ _ => none
  | n + 1 => fun x1 x2 x3 x4 x5 s0 =>
  if gi s0 11 ≤ x5 then
  some (x4, s0)
  else
  ald s0 19 300 x5 fun v1 =>
    ald s0 5 24 v1 fun v2 =>
    if v2 = x1 then
    cal (X6_secondsWithin_f N x5 x2 x3 s0) fun v3 s1 =>
      bnd (x4 + v3) fun v4 =>
      X6_rights_l70 N (X6_rights_l23 N n) x1 x2 x3 v4 x5 s1
    else
    X6_rights_l70 N (X6_rights_l23 N n) x1 x2 x3 x4 x5 s0
set_option maxRecDepth 20000 in
theorem X6_rights_l23_ok {K : Kx} {g : Gm} {N : Nat} {o : Int32 × St} (hC : Ok K cX6_rights RX6 g 6 2 (some .int)) : ∀ (n : Nat) (x1 : Int32) (x2 : Int32) (x3 : Int32) (x4 : Int32) (x5 : Int32) (s0 : St), X6_rights_l23 N n x1 x2 x3 x4 x5 s0 = some o → J K (wX g) 6 (QI K g (wX g) o) 23 [(0, .ref (g.1 0)), (1, .int x1), (2, .int x2), (3, .int x3), (4, .int x4), (5, .int x5)] [] s0 := by
  intro n
  induction n with
  | zero => intro x1 x2 x3 x4 x5 s0 h; cases h
  | succ n ih =>
    intro x1 x2 x3 x4 x5 s0 h
    rw [X6_rights_l23] at h
    refine j_iload hC dX6_rights_23 5 rfl ?_
    refine j_aload_n hC dX6_rights_25 rfl 0 rfl ?_
    refine get_X6_44 hC dX6_rights_26 ?_
    refine get_X6_159 hC dX6_rights_29 ?_
    refine j_icmp_ge (tgt := 76) hC dX6_rights_32 (by decide) h ?_ ?_
    · intro h
      refine j_iload hC dX6_rights_76 4 rfl ?_
      exact j_iret hC dX6_rights_78 rfl h
    · intro h
      refine j_aload_n hC dX6_rights_35 rfl 0 rfl ?_
      refine get_X6_37 hC dX6_rights_36 ?_
      refine get_X6_190 hC dX6_rights_39 ?_
      refine j_aload_n hC dX6_rights_42 rfl 0 rfl ?_
      refine get_X6_44 hC dX6_rights_43 ?_
      refine get_X6_167 hC dX6_rights_46 ?_
      refine j_iload hC dX6_rights_49 5 rfl ?_
      refine j_pc (n2 := 51) rfl ?_
      refine ald_X1_playSong hC dX6_rights_51 h ?_
      intro v1 h
      refine ald_X4_artist hC dX6_rights_52 h ?_
      intro v2 h
      refine j_iload_n hC dX6_rights_53 rfl 1 rfl ?_
      refine j_icmp_ne (tgt := 70) hC dX6_rights_54 (by decide) h ?_ ?_
      · intro h
        refine j_sub [0, 1, 2, 3, 4, 5] rfl ?_
        exact X6_rights_l70_ok hC ih x1 x2 x3 x4 x5 s0 h
      · intro h
        refine j_iload hC dX6_rights_57 4 rfl ?_
        refine j_aload_n hC dX6_rights_59 rfl 0 rfl ?_
        refine j_iload hC dX6_rights_60 5 rfl ?_
        refine j_iload_n hC dX6_rights_62 rfl 2 rfl ?_
        refine j_iload_n hC dX6_rights_63 rfl 3 rfl ?_
        obtain ⟨v3, s1, hc, h⟩ := cal_some h
        refine call_X6_193 hC (fun l D => X6_secondsWithin_ok l D g hc) (by decide) (Nat.le_of_ble_eq_true rfl) dX6_rights_64 ?_
        refine j_iadd hC dX6_rights_67 ?_
        refine j_pc (n2 := 68) rfl ?_
        refine j_bi (E := x4 + v3) h (fun v4 h => ?_)
        refine j_istore hC dX6_rights_68 (by decide) rfl ?_
        refine j_sub [1, 2, 3, 4, 0, 5] rfl ?_
        exact X6_rights_l70_ok hC ih x1 x2 x3 v4 x5 s1 h
set_option maxRecDepth 20000 in
def X6_rights_f (N : Nat) (x1 : Int32) (x2 : Int32) (x3 : Int32) (s0 : St) : Option (Int32 × St) :=
  cal (X6_isWithin_f N x1 0 11 s0) fun v1 s1 =>
  if v1 = 0 then
  some ((-1), s1)
  else
  if x2 ≤ x3 then
    X6_rights_l23 N N x1 x2 x3 0 0 s1
    else
    some ((-1), s1)
set_option maxRecDepth 20000 in
theorem X6_rights_ok (l : Launch) (D : va_G) (g : Gm) {N : Nat} {x1 : Int32} {x2 : Int32} {x3 : Int32} {s0 : St} {o : Int32 × St} (h : X6_rights_f N x1 x2 x3 s0 = some o) : MI l yX6_rights cX6_rights 6 (some .int) 2 D g (wX g) [.ref (g.1 0), .int x1, .int x2, .int x3] s0 o := by
  refine met_I (own := RX6) (by decide) rfl (Nat.le_of_ble_eq_true rfl) (fun K hC => ?_)
  show J K (wX g) 6 (QI K g (wX g) o) 0 [(0, .ref (g.1 0)), (1, .int x1), (2, .int x2), (3, .int x3)] [] s0
  unfold X6_rights_f at h
  refine j_iload_n hC dX6_rights_0 rfl 1 rfl ?_
  refine j_iconst (v := 0) hC dX6_rights_1 (by decide) ?_
  refine j_bipush (v := 11) hC dX6_rights_2 (by decide) ?_
  obtain ⟨v1, s1, hc, h⟩ := cal_some h
  refine call_X6_101 hC (fun l D => X6_isWithin_ok l D g hc) (by decide) (Nat.le_of_ble_eq_true rfl) dX6_rights_4 ?_
  refine j_if_eq (tgt := 15) hC dX6_rights_7 (by decide) h ?_ ?_
  · intro h
    refine j_iconst (v := (-1)) hC dX6_rights_15 (by decide) ?_
    exact j_iret hC dX6_rights_16 rfl h
  · intro h
    refine j_iload_n hC dX6_rights_10 rfl 3 rfl ?_
    refine j_iload_n hC dX6_rights_11 rfl 2 rfl ?_
    refine j_icmp_ge (tgt := 17) hC dX6_rights_12 (by decide) h ?_ ?_
    · intro h
      refine j_iconst (v := 0) hC dX6_rights_17 (by decide) ?_
      refine j_istore hC dX6_rights_18 (by decide) rfl ?_
      refine j_iconst (v := 0) hC dX6_rights_20 (by decide) ?_
      refine j_istore hC dX6_rights_21 (by decide) rfl ?_
      refine j_sub [2, 3, 4, 5, 1, 0] rfl ?_
      exact X6_rights_l23_ok hC N x1 x2 x3 0 0 s1 h
    · intro h
      refine j_iconst (v := (-1)) hC dX6_rights_15 (by decide) ?_
      exact j_iret hC dX6_rights_16 rfl h
set_option maxRecDepth 20000 in
def X6_items_f (N : Nat) (x1 : Int32) (s0 : St) : Option (Int32 × St) :=
  cal (X6_isClock_f N x1 s0) fun v1 s1 =>
  if v1 = 0 then
  none
  else
  chk (inB x1 6) <|
    some (gi s1 (27 + 3 * x1.toNatClampNeg + 0), s1)
set_option maxRecDepth 20000 in
theorem X6_items_ok (l : Launch) (D : va_G) (g : Gm) {N : Nat} {x1 : Int32} {s0 : St} {o : Int32 × St} (h : X6_items_f N x1 s0 = some o) : MI l yX6_items cX6_items 2 (some .int) 2 D g (wX g) [.ref (g.1 0), .int x1] s0 o := by
  refine met_I (own := RX6) (by decide) rfl (Nat.le_of_ble_eq_true rfl) (fun K hC => ?_)
  show J K (wX g) 2 (QI K g (wX g) o) 0 [(0, .ref (g.1 0)), (1, .int x1)] [] s0
  unfold X6_items_f at h
  refine j_iload_n hC dX6_items_0 rfl 1 rfl ?_
  obtain ⟨v1, s1, hc, h⟩ := cal_some h
  refine call_X6_77 hC (fun l D => X6_isClock_ok l D g hc) (by decide) (Nat.le_of_ble_eq_true rfl) dX6_items_1 ?_
  refine j_if_ne (tgt := 17) hC dX6_items_4 (by decide) h ?_ ?_
  · intro h
    refine j_aload_n hC dX6_items_17 rfl 0 rfl ?_
    refine get_X6_25 hC dX6_items_18 ?_
    refine j_iload_n hC dX6_items_21 rfl 1 rfl ?_
    refine ald_clocks hC dX6_items_22 h ?_
    intro hj_x1_toNatClampNeg h
    refine get_X6_93 hC x1.toNatClampNeg hj_x1_toNatClampNeg dX6_items_23 ?_
    exact j_iret hC dX6_items_26 rfl h
  · intro h
    cases h
set_option maxRecDepth 20000 in
def X6_count_f (N : Nat) (x1 : Int32) (s0 : St) : Option (Int32 × St) :=
  tsw7 x1
  (some (gi s0 10, s0))
  (some (gi s0 9, s0))
  (some (gi s0 11, s0))
  (some (gi s0 12, s0))
  (some (gi s0 13, s0))
  (cal (X4_allAsksOpen_f N  s0) fun v1 s1 =>
    some (v1, s1))
  (some (gi s0 0, s0))
  (some ((-1), s0))
set_option maxRecDepth 20000 in
theorem X6_count_ok (l : Launch) (D : va_G) (g : Gm) {N : Nat} {x1 : Int32} {s0 : St} {o : Int32 × St} (h : X6_count_f N x1 s0 = some o) : MI l yX6_count cX6_count 2 (some .int) 1 D g (wX g) [.ref (g.1 0), .int x1] s0 o := by
  refine met_I (own := RX6) (by decide) rfl (Nat.le_of_ble_eq_true rfl) (fun K hC => ?_)
  show J K (wX g) 2 (QI K g (wX g) o) 0 [(0, .ref (g.1 0)), (1, .int x1)] [] s0
  unfold X6_count_f at h
  refine j_iload_n hC dX6_count_0 rfl 1 rfl ?_
  refine j_tsw7 (t0 := 44) (t1 := 52) (t2 := 60) (t3 := 68) (t4 := 76) (t5 := 84) (t6 := 92) (t := 100) hC dX6_count_1 (by decide) (by decide) (by decide) (by decide) (by decide) (by decide) (by decide) (by decide) h ?_ ?_ ?_ ?_ ?_ ?_ ?_ ?_
  · intro h
    refine j_aload_n hC dX6_count_44 rfl 0 rfl ?_
    refine get_X6_44 hC dX6_count_45 ?_
    refine get_X6_134 hC dX6_count_48 ?_
    exact j_iret hC dX6_count_51 rfl h
  · intro h
    refine j_aload_n hC dX6_count_52 rfl 0 rfl ?_
    refine get_X6_37 hC dX6_count_53 ?_
    refine get_X6_105 hC dX6_count_56 ?_
    exact j_iret hC dX6_count_59 rfl h
  · intro h
    refine j_aload_n hC dX6_count_60 rfl 0 rfl ?_
    refine get_X6_44 hC dX6_count_61 ?_
    refine get_X6_159 hC dX6_count_64 ?_
    exact j_iret hC dX6_count_67 rfl h
  · intro h
    refine j_aload_n hC dX6_count_68 rfl 0 rfl ?_
    refine get_X6_44 hC dX6_count_69 ?_
    refine get_X6_197 hC dX6_count_72 ?_
    exact j_iret hC dX6_count_75 rfl h
  · intro h
    refine j_aload_n hC dX6_count_76 rfl 0 rfl ?_
    refine get_X6_44 hC dX6_count_77 ?_
    refine get_X6_200 hC dX6_count_80 ?_
    exact j_iret hC dX6_count_83 rfl h
  · intro h
    refine j_aload_n hC dX6_count_84 rfl 0 rfl ?_
    refine get_X6_37 hC dX6_count_85 ?_
    obtain ⟨v1, s1, hc, h⟩ := cal_some h
    refine call_X6_203 hC (fun l D => X4_allAsksOpen_ok l D g hc) (by decide) (Nat.le_of_ble_eq_true rfl) dX6_count_88 ?_
    exact j_iret hC dX6_count_91 rfl h
  · intro h
    refine j_aload_n hC dX6_count_92 rfl 0 rfl ?_
    refine get_X6_10 hC dX6_count_93 ?_
    refine get_X6_63 hC dX6_count_96 ?_
    exact j_iret hC dX6_count_99 rfl h
  · intro h
    refine j_iconst (v := (-1)) hC dX6_count_100 (by decide) ?_
    exact j_iret hC dX6_count_101 rfl h
set_option maxRecDepth 20000 in
def X6_keyAhead_f (N : Nat) (x1 : Int32) (s0 : St) : Option (Int32 × St) :=
  bnd ((gi s0 11) - 1) fun v1 =>
  if v1 < 0 then
  some ((-1), s0)
  else
  cal (X6_endOfPlay_f N v1 s0) fun v2 s1 =>
    if v2 = x1 then
    ald s1 19 300 v1 fun v3 =>
      ald s1 6 24 v3 fun v4 =>
      some (v4, s1)
    else
    some ((-1), s1)
set_option maxRecDepth 20000 in
theorem X6_keyAhead_ok (l : Launch) (D : va_G) (g : Gm) {N : Nat} {x1 : Int32} {s0 : St} {o : Int32 × St} (h : X6_keyAhead_f N x1 s0 = some o) : MI l yX6_keyAhead cX6_keyAhead 3 (some .int) 1 D g (wX g) [.ref (g.1 0), .int x1] s0 o := by
  refine met_I (own := RX6) (by decide) rfl (Nat.le_of_ble_eq_true rfl) (fun K hC => ?_)
  show J K (wX g) 3 (QI K g (wX g) o) 0 [(0, .ref (g.1 0)), (1, .int x1)] [] s0
  unfold X6_keyAhead_f at h
  refine j_aload_n hC dX6_keyAhead_0 rfl 0 rfl ?_
  refine get_X6_44 hC dX6_keyAhead_1 ?_
  refine get_X6_159 hC dX6_keyAhead_4 ?_
  refine j_iconst (v := 1) hC dX6_keyAhead_7 (by decide) ?_
  refine j_isub hC dX6_keyAhead_8 ?_
  refine j_bi (E := (gi s0 11) - 1) h (fun v1 h => ?_)
  refine j_istore_n hC dX6_keyAhead_9 rfl (by decide) rfl ?_
  refine j_iload_n hC dX6_keyAhead_10 rfl 0 rfl ?_
  refine j_pc (n2 := 11) rfl ?_
  refine j_if_lt (tgt := 23) hC dX6_keyAhead_11 (by decide) h ?_ ?_
  · intro h
    refine j_iconst (v := (-1)) hC dX6_keyAhead_23 (by decide) ?_
    exact j_iret hC dX6_keyAhead_24 rfl h
  · intro h
    refine j_aload_n hC dX6_keyAhead_14 rfl 1 rfl ?_
    refine j_iload_n hC dX6_keyAhead_15 rfl 0 rfl ?_
    obtain ⟨v2, s1, hc, h⟩ := cal_some h
    refine call_X6_187 hC (fun l D => X6_endOfPlay_ok l D g hc) (by decide) (Nat.le_of_ble_eq_true rfl) dX6_keyAhead_16 ?_
    refine j_iload_n hC dX6_keyAhead_19 rfl 2 rfl ?_
    refine j_icmp_eq (tgt := 25) hC dX6_keyAhead_20 (by decide) h ?_ ?_
    · intro h
      refine j_aload_n hC dX6_keyAhead_25 rfl 1 rfl ?_
      refine get_X6_37 hC dX6_keyAhead_26 ?_
      refine get_X6_242 hC dX6_keyAhead_29 ?_
      refine j_aload_n hC dX6_keyAhead_32 rfl 1 rfl ?_
      refine get_X6_44 hC dX6_keyAhead_33 ?_
      refine get_X6_167 hC dX6_keyAhead_36 ?_
      refine j_iload_n hC dX6_keyAhead_39 rfl 0 rfl ?_
      refine j_pc (n2 := 40) rfl ?_
      refine ald_X1_playSong hC dX6_keyAhead_40 h ?_
      intro v3 h
      refine ald_X4_key hC dX6_keyAhead_41 h ?_
      intro v4 h
      exact j_iret hC dX6_keyAhead_42 rfl h
    · intro h
      refine j_iconst (v := (-1)) hC dX6_keyAhead_23 (by decide) ?_
      exact j_iret hC dX6_keyAhead_24 rfl h
