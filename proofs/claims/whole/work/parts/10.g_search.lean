set_option maxRecDepth 20000 in
def X2_prepare_l62 (N : Nat) : Nat → Int32 → St → Option (Int32 × St)
  | 0 => fun _ _ => none
  | n + 1 => fun x3 s0 =>
  if gi s0 9 ≤ x3 then
  some (0, s0)
  else
  cal (X4_heat_f N x3 s0) fun v1 s1 =>
    ast s1 25 24 x3 v1 fun s2 =>
    bnd (x3 + 1) fun v2 =>
    (X2_prepare_l62 N n) v2 s2
set_option maxRecDepth 20000 in
theorem X2_prepare_l62_ok {K : Kx} {g : Gm} {N : Nat} {o : Int32 × St} (hC : Ok K cX2_prepare RX2 g 4 1 none) : ∀ (n : Nat) (x3 : Int32) (s0 : St), X2_prepare_l62 N n x3 s0 = some o → J K (wX g) 4 (QV K g (wX g) o) 62 [(0, .ref (g.1 29)), (1, .ref (g.1 8)), (3, .int x3)] [] s0 := by
  intro n
  induction n with
  | zero => intro x3 s0 h; cases h
  | succ n ih =>
    intro x3 s0 h
    rw [X2_prepare_l62] at h
    refine j_iload_n hC dX2_prepare_62 rfl 2 rfl ?_
    refine j_aload_n hC dX2_prepare_63 rfl 1 rfl ?_
    refine get_X2_60 hC dX2_prepare_64 ?_
    refine j_icmp_ge (tgt := 87) hC dX2_prepare_67 (by decide) h ?_ ?_
    · intro h
      exact j_vret (v := 0) hC dX2_prepare_87 h
    · intro h
      refine j_aload_n hC dX2_prepare_70 rfl 0 rfl ?_
      refine get_X2_18 hC dX2_prepare_71 ?_
      refine j_iload_n hC dX2_prepare_74 rfl 2 rfl ?_
      refine j_aload_n hC dX2_prepare_75 rfl 1 rfl ?_
      refine j_iload_n hC dX2_prepare_76 rfl 2 rfl ?_
      obtain ⟨v1, s1, hc, h⟩ := cal_some h
      refine call_X2_65 hC (fun l D => X4_heat_ok l D g hc) (by decide) (Nat.le_of_ble_eq_true rfl) dX2_prepare_77 ?_
      refine ast_X2_heat hC dX2_prepare_80 h ?_
      intro s2 h
      refine j_pc (n2 := 81) rfl ?_
      refine j_iincb (n2 := 1) (k0 := 2) (lv2 := fun z => [(3, .int z), (0, .ref (g.1 29)), (1, .ref (g.1 8))]) hC dX2_prepare_81 rfl (by decide) (by decide) (fun _ => rfl) h (fun v2 h => ?_)
      refine j_goto (tgt := 62) hC dX2_prepare_84 (by decide) ?_
      refine j_sub [1, 2, 0] rfl ?_
      exact ih v2 s2 h
set_option maxRecDepth 20000 in
def X2_prepare_f (N : Nat) (s0 : St) : Option (Int32 × St) :=
  ald s0 1 5 0 fun v1 =>
  bnd (si s0 20 (v1 * 60)) fun s1 =>
  ald s1 1 5 1 fun v2 =>
  bnd (si s1 21 (v2 * 60)) fun s2 =>
  ald s2 1 5 2 fun v3 =>
  bnd (si s2 22 v3) fun s3 =>
  ald s3 1 5 3 fun v4 =>
  bnd (si s3 23 v4) fun s4 =>
  ald s4 1 5 4 fun v5 =>
  bnd (si s4 24 (imin v5 4)) fun s5 =>
  X2_prepare_l62 N N 0 s5
set_option maxRecDepth 20000 in
theorem X2_prepare_ok (l : Launch) (D : va_G) (g : Gm) {N : Nat} {s0 : St} {o : Int32 × St} (h : X2_prepare_f N s0 = some o) : MV l yX2_prepare cX2_prepare 4 none 1 D g (wX g) [.ref (g.1 29), .ref (g.1 8), .ref (g.1 4)] s0 o := by
  refine met_V (own := RX2) (by decide) rfl (Nat.le_of_ble_eq_true rfl) (fun K hC => ?_)
  show J K (wX g) 4 (QV K g (wX g) o) 0 [(0, .ref (g.1 29)), (1, .ref (g.1 8)), (2, .ref (g.1 4))] [] s0
  unfold X2_prepare_f at h
  refine j_aload_n hC dX2_prepare_0 rfl 0 rfl ?_
  refine j_aload_n hC dX2_prepare_1 rfl 2 rfl ?_
  refine get_X2_33 hC dX2_prepare_2 ?_
  refine j_iconst (v := 0) hC dX2_prepare_5 (by decide) ?_
  refine ald_X3_now hC dX2_prepare_6 h ?_
  intro v1 h
  refine j_bipush (v := 60) hC dX2_prepare_7 (by decide) ?_
  refine j_imul hC dX2_prepare_9 ?_
  refine j_pc (n2 := 10) rfl ?_
  refine put_X2_38 hC dX2_prepare_10 h ?_
  intro s1 h
  refine j_aload_n hC dX2_prepare_13 rfl 0 rfl ?_
  refine j_aload_n hC dX2_prepare_14 rfl 2 rfl ?_
  refine get_X2_33 hC dX2_prepare_15 ?_
  refine j_iconst (v := 1) hC dX2_prepare_18 (by decide) ?_
  refine ald_X3_now hC dX2_prepare_19 h ?_
  intro v2 h
  refine j_bipush (v := 60) hC dX2_prepare_20 (by decide) ?_
  refine j_imul hC dX2_prepare_22 ?_
  refine j_pc (n2 := 23) rfl ?_
  refine put_X2_42 hC dX2_prepare_23 h ?_
  intro s2 h
  refine j_aload_n hC dX2_prepare_26 rfl 0 rfl ?_
  refine j_aload_n hC dX2_prepare_27 rfl 2 rfl ?_
  refine get_X2_33 hC dX2_prepare_28 ?_
  refine j_iconst (v := 2) hC dX2_prepare_31 (by decide) ?_
  refine ald_X3_now hC dX2_prepare_32 h ?_
  intro v3 h
  refine put_X2_45 hC dX2_prepare_33 h ?_
  intro s3 h
  refine j_aload_n hC dX2_prepare_36 rfl 0 rfl ?_
  refine j_pc (n2 := 37) rfl ?_
  refine j_aload_n hC dX2_prepare_37 rfl 2 rfl ?_
  refine get_X2_33 hC dX2_prepare_38 ?_
  refine j_iconst (v := 3) hC dX2_prepare_41 (by decide) ?_
  refine ald_X3_now hC dX2_prepare_42 h ?_
  intro v4 h
  refine put_X2_48 hC dX2_prepare_43 h ?_
  intro s4 h
  refine j_aload_n hC dX2_prepare_46 rfl 0 rfl ?_
  refine j_aload_n hC dX2_prepare_47 rfl 2 rfl ?_
  refine get_X2_33 hC dX2_prepare_48 ?_
  refine j_pc (n2 := 51) rfl ?_
  refine j_iconst (v := 4) hC dX2_prepare_51 (by decide) ?_
  refine ald_X3_now hC dX2_prepare_52 h ?_
  intro v5 h
  refine j_iconst (v := 4) hC dX2_prepare_53 (by decide) ?_
  refine mt_X2_51 hC (by decide) (Nat.le_of_ble_eq_true rfl) dX2_prepare_54 ?_
  refine put_X2_57 hC dX2_prepare_57 h ?_
  intro s5 h
  refine j_iconst (v := 0) hC dX2_prepare_60 (by decide) ?_
  refine j_istore_n hC dX2_prepare_61 rfl (by decide) rfl ?_
  refine j_sub [1, 2, 0] rfl ?_
  exact X2_prepare_l62_ok hC N 0 s5 h
set_option maxRecDepth 20000 in
def X2_isFreeInTime_f (N : Nat) (x2 : Int32) (s0 : St) : Option (Int32 × St) :=
  ald s0 4 24 x2 fun v1 =>
  bnd ((gi s0 25) - v1) fun v2 =>
  ald s0 26 24 x2 fun v3 =>
  if v2 < v3 then
  some (0, s0)
  else
  ald s0 5 24 x2 fun v4 =>
    ald s0 27 12 v4 fun v5 =>
    if v2 < v5 then
    some (0, s0)
    else
    some (1, s0)
set_option maxRecDepth 20000 in
theorem X2_isFreeInTime_ok (l : Launch) (D : va_G) (g : Gm) {N : Nat} {x2 : Int32} {s0 : St} {o : Int32 × St} (h : X2_isFreeInTime_f N x2 s0 = some o) : MI l yX2_isFreeInTime cX2_isFreeInTime 4 (some .boolean) 0 D g (wX g) [.ref (g.1 29), .ref (g.1 8), .int x2] s0 o := by
  refine met_I (own := RX2) (by decide) rfl (Nat.le_of_ble_eq_true rfl) (fun K hC => ?_)
  show J K (wX g) 4 (QI K g (wX g) o) 0 [(0, .ref (g.1 29)), (1, .ref (g.1 8)), (2, .int x2)] [] s0
  unfold X2_isFreeInTime_f at h
  refine j_aload_n hC dX2_isFreeInTime_0 rfl 0 rfl ?_
  refine get_X2_68 hC dX2_isFreeInTime_1 ?_
  refine j_aload_n hC dX2_isFreeInTime_4 rfl 1 rfl ?_
  refine get_X2_116 hC dX2_isFreeInTime_5 ?_
  refine j_iload_n hC dX2_isFreeInTime_8 rfl 2 rfl ?_
  refine ald_X4_seconds hC dX2_isFreeInTime_9 h ?_
  intro v1 h
  refine j_isub hC dX2_isFreeInTime_10 ?_
  refine j_pc (n2 := 11) rfl ?_
  refine j_bi (E := (gi s0 25) - v1) h (fun v2 h => ?_)
  refine j_istore_n hC dX2_isFreeInTime_11 rfl (by decide) rfl ?_
  refine j_aload_n hC dX2_isFreeInTime_12 rfl 1 rfl ?_
  refine get_X2_21 hC dX2_isFreeInTime_13 ?_
  refine j_iload_n hC dX2_isFreeInTime_16 rfl 3 rfl ?_
  refine ald_X2_songFree hC dX2_isFreeInTime_17 h ?_
  intro v3 h
  refine j_iload_n hC dX2_isFreeInTime_18 rfl 0 rfl ?_
  refine j_icmp_gt (tgt := 41) hC dX2_isFreeInTime_19 (by decide) h ?_ ?_
  · intro h
    refine j_iconst (v := 0) hC dX2_isFreeInTime_41 (by decide) ?_
    exact j_iret hC dX2_isFreeInTime_42 rfl h
  · intro h
    refine j_aload_n hC dX2_isFreeInTime_22 rfl 1 rfl ?_
    refine get_X2_24 hC dX2_isFreeInTime_23 ?_
    refine j_aload_n hC dX2_isFreeInTime_26 rfl 2 rfl ?_
    refine get_X2_125 hC dX2_isFreeInTime_27 ?_
    refine j_iload_n hC dX2_isFreeInTime_30 rfl 3 rfl ?_
    refine ald_X4_artist hC dX2_isFreeInTime_31 h ?_
    intro v4 h
    refine ald_X2_artistFree hC dX2_isFreeInTime_32 h ?_
    intro v5 h
    refine j_pc (n2 := 33) rfl ?_
    refine j_iload_n hC dX2_isFreeInTime_33 rfl 0 rfl ?_
    refine j_icmp_gt (tgt := 41) hC dX2_isFreeInTime_34 (by decide) h ?_ ?_
    · intro h
      refine j_iconst (v := 0) hC dX2_isFreeInTime_41 (by decide) ?_
      exact j_iret hC dX2_isFreeInTime_42 rfl h
    · intro h
      refine j_iconst (v := 1) hC dX2_isFreeInTime_37 (by decide) ?_
      refine j_goto (tgt := 42) hC dX2_isFreeInTime_38 (by decide) ?_
      exact j_iret hC dX2_isFreeInTime_42 rfl h
set_option maxRecDepth 20000 in
def X2_sortIn_l51 (N : Nat) (x2 : Int32) (x3 : Int32) (s0 : St) : Option (Int32 × St) :=
  ast s0 29 24 x3 x2 fun s1 =>
  some (0, s1)
set_option maxRecDepth 20000 in
theorem X2_sortIn_l51_ok {K : Kx} {g : Gm} {N : Nat} {o : Int32 × St} (hC : Ok K cX2_sortIn RX2 g 4 0 none) : ∀ (x2 : Int32) (x3 : Int32) (s0 : St), X2_sortIn_l51 N x2 x3 s0 = some o → J K (wX g) 4 (QV K g (wX g) o) 51 [(0, .ref (g.1 29)), (2, .int x2), (3, .int x3)] [] s0 := by
  intro x2 x3 s0 h
  unfold X2_sortIn_l51 at h
  refine j_aload_n hC dX2_sortIn_51 rfl 0 rfl ?_
  refine get_X2_30 hC dX2_sortIn_52 ?_
  refine j_iload_n hC dX2_sortIn_55 rfl 2 rfl ?_
  refine j_iload_n hC dX2_sortIn_56 rfl 1 rfl ?_
  refine ast_X2_longestFirst hC dX2_sortIn_57 h ?_
  intro s1 h
  exact j_vret (v := 0) hC dX2_sortIn_58 h
set_option maxRecDepth 20000 in
def X2_sortIn_l5 (N : Nat) : Nat → Int32 → Int32 → St → Option (Int32 × St)
  | 0 => fun _ _ _ => none
  | n + 1 => fun x2 x3 s0 =>
  if x3 ≤ 0 then
  X2_sortIn_l51 N x2 x3 s0
  else
  ald s0 29 24 (x3 - 1) fun v1 =>
    ald s0 4 24 v1 fun v2 =>
    ald s0 4 24 x2 fun v3 =>
    if v3 ≤ v2 then
    X2_sortIn_l51 N x2 x3 s0
    else
    ald s0 29 24 (x3 - 1) fun v4 =>
      ast s0 29 24 x3 v4 fun s1 =>
      bnd (x3 + (-1)) fun v5 =>
      (X2_sortIn_l5 N n) x2 v5 s1
set_option maxRecDepth 20000 in
theorem X2_sortIn_l5_ok {K : Kx} {g : Gm} {N : Nat} {o : Int32 × St} (hC : Ok K cX2_sortIn RX2 g 4 0 none) : ∀ (n : Nat) (x2 : Int32) (x3 : Int32) (s0 : St), X2_sortIn_l5 N n x2 x3 s0 = some o → J K (wX g) 4 (QV K g (wX g) o) 5 [(0, .ref (g.1 29)), (1, .ref (g.1 8)), (2, .int x2), (3, .int x3)] [] s0 := by
  intro n
  induction n with
  | zero => intro x2 x3 s0 h; cases h
  | succ n ih =>
    intro x2 x3 s0 h
    rw [X2_sortIn_l5] at h
    refine j_iload_n hC dX2_sortIn_5 rfl 3 rfl ?_
    refine j_if_le (tgt := 51) hC dX2_sortIn_6 (by decide) h ?_ ?_
    · intro h
      refine j_sub [0, 2, 3] rfl ?_
      exact X2_sortIn_l51_ok hC x2 x3 s0 h
    · intro h
      refine j_aload_n hC dX2_sortIn_9 rfl 1 rfl ?_
      refine get_X2_116 hC dX2_sortIn_10 ?_
      refine j_aload_n hC dX2_sortIn_13 rfl 0 rfl ?_
      refine get_X2_30 hC dX2_sortIn_14 ?_
      refine j_iload_n hC dX2_sortIn_17 rfl 3 rfl ?_
      refine j_iconst (v := 1) hC dX2_sortIn_18 (by decide) ?_
      refine j_isub hC dX2_sortIn_19 ?_
      refine j_pc (n2 := 20) rfl ?_
      refine ald_X2_longestFirst hC dX2_sortIn_20 h ?_
      intro v1 h
      refine ald_X4_seconds hC dX2_sortIn_21 h ?_
      intro v2 h
      refine j_aload_n hC dX2_sortIn_22 rfl 1 rfl ?_
      refine get_X2_116 hC dX2_sortIn_23 ?_
      refine j_iload_n hC dX2_sortIn_26 rfl 2 rfl ?_
      refine ald_X4_seconds hC dX2_sortIn_27 h ?_
      intro v3 h
      refine j_icmp_ge (tgt := 51) hC dX2_sortIn_28 (by decide) h ?_ ?_
      · intro h
        refine j_sub [0, 2, 3] rfl ?_
        exact X2_sortIn_l51_ok hC x2 x3 s0 h
      · intro h
        refine j_aload_n hC dX2_sortIn_31 rfl 0 rfl ?_
        refine get_X2_30 hC dX2_sortIn_32 ?_
        refine j_iload_n hC dX2_sortIn_35 rfl 3 rfl ?_
        refine j_aload_n hC dX2_sortIn_36 rfl 0 rfl ?_
        refine get_X2_30 hC dX2_sortIn_37 ?_
        refine j_iload_n hC dX2_sortIn_40 rfl 3 rfl ?_
        refine j_iconst (v := 1) hC dX2_sortIn_41 (by decide) ?_
        refine j_pc (n2 := 42) rfl ?_
        refine j_isub hC dX2_sortIn_42 ?_
        refine ald_X2_longestFirst hC dX2_sortIn_43 h ?_
        intro v4 h
        refine ast_X2_longestFirst hC dX2_sortIn_44 h ?_
        intro s1 h
        refine j_iincb (n2 := (-1)) (k0 := 3) (lv2 := fun z => [(3, .int z), (0, .ref (g.1 29)), (1, .ref (g.1 8)), (2, .int x2)]) hC dX2_sortIn_45 rfl (by decide) (by decide) (fun _ => rfl) h (fun v5 h => ?_)
        refine j_goto (tgt := 5) hC dX2_sortIn_48 (by decide) ?_
        refine j_sub [1, 2, 3, 0] rfl ?_
        exact ih x2 v5 s1 h
set_option maxRecDepth 20000 in
def X2_sortIn_f (N : Nat) (x2 : Int32) (s0 : St) : Option (Int32 × St) :=
  bnd (gi s0 17) fun v1 =>
  X2_sortIn_l5 N N x2 v1 s0
set_option maxRecDepth 20000 in
theorem X2_sortIn_ok (l : Launch) (D : va_G) (g : Gm) {N : Nat} {x2 : Int32} {s0 : St} {o : Int32 × St} (h : X2_sortIn_f N x2 s0 = some o) : MV l yX2_sortIn cX2_sortIn 4 none 0 D g (wX g) [.ref (g.1 29), .ref (g.1 8), .int x2] s0 o := by
  refine met_V (own := RX2) (by decide) rfl (Nat.le_of_ble_eq_true rfl) (fun K hC => ?_)
  show J K (wX g) 4 (QV K g (wX g) o) 0 [(0, .ref (g.1 29)), (1, .ref (g.1 8)), (2, .int x2)] [] s0
  unfold X2_sortIn_f at h
  refine j_aload_n hC dX2_sortIn_0 rfl 0 rfl ?_
  refine get_X2_97 hC dX2_sortIn_1 ?_
  refine j_bi (E := gi s0 17) h (fun v1 h => ?_)
  refine j_istore_n hC dX2_sortIn_4 rfl (by decide) rfl ?_
  refine j_sub [1, 2, 3, 0] rfl ?_
  exact X2_sortIn_l5_ok hC N x2 v1 s0 h
set_option maxRecDepth 20000 in
def X2_gather_l129 (N : Nat) (k20 : Int32 → Int32 → Int32 → St → Option (Int32 × St)) (x2 : Int32) (x3 : Int32) (x4 : Int32) (s0 : St) : Option (Int32 × St) :=
  bnd (x4 + 1) fun v1 =>
  k20 x2 x3 v1 s0
set_option maxRecDepth 20000 in
theorem X2_gather_l129_ok {K : Kx} {g : Gm} {N : Nat} {o : Int32 × St} (hC : Ok K cX2_gather RX2 g 5 1 none) {k20 : Int32 → Int32 → Int32 → St → Option (Int32 × St)} (hk20 : ∀ (x2 : Int32) (x3 : Int32) (x4 : Int32) (s0 : St), k20 x2 x3 x4 s0 = some o → J K (wX g) 5 (QV K g (wX g) o) 20 [(0, .ref (g.1 29)), (1, .ref (g.1 8)), (2, .int x2), (3, .int x3), (4, .int x4)] [] s0) : ∀ (x2 : Int32) (x3 : Int32) (x4 : Int32) (s0 : St), X2_gather_l129 N k20 x2 x3 x4 s0 = some o → J K (wX g) 5 (QV K g (wX g) o) 129 [(0, .ref (g.1 29)), (1, .ref (g.1 8)), (2, .int x2), (3, .int x3), (4, .int x4)] [] s0 := by
  intro x2 x3 x4 s0 h
  unfold X2_gather_l129 at h
  refine j_iincb (n2 := 1) (k0 := 4) (lv2 := fun z => [(4, .int z), (0, .ref (g.1 29)), (1, .ref (g.1 8)), (2, .int x2), (3, .int x3)]) hC dX2_gather_129 rfl (by decide) (by decide) (fun _ => rfl) h (fun v1 h => ?_)
  refine j_goto (tgt := 20) hC dX2_gather_132 (by decide) ?_
  refine j_sub [1, 2, 3, 4, 0] rfl ?_
  exact hk20 x2 x3 v1 s0 h
set_option maxRecDepth 20000 in
def X2_gather_l45 (N : Nat) (k20 : Int32 → Int32 → Int32 → St → Option (Int32 × St)) (x2 : Int32) (x3 : Int32) (x4 : Int32) (s0 : St) : Option (Int32 × St) :=
  cal (X2_isFreeInTime_f N x4 s0) fun v1 s1 =>
  if v1 = 0 then
  X2_gather_l129 N k20 x2 x3 x4 s1
  else
  ast s1 28 24 (gi s1 17) x4 fun s2 =>
    cal (X2_sortIn_f N x4 s2) fun _ s3 =>
    bnd (si s3 17 ((gi s3 17) + 1)) fun s4 =>
    ald s4 4 24 x4 fun v3 =>
    bnd (si s4 18 (imax (gi s4 18) v3)) fun s5 =>
    ald s5 25 24 x4 fun v4 =>
    bnd (si s5 19 (imax (gi s5 19) v4)) fun s6 =>
    ald s6 8 24 x4 fun v5 =>
    bnd (x3 + v5) fun v6 =>
    X2_gather_l129 N k20 x2 v6 x4 s6
set_option maxRecDepth 20000 in
theorem X2_gather_l45_ok {K : Kx} {g : Gm} {N : Nat} {o : Int32 × St} (hC : Ok K cX2_gather RX2 g 5 1 none) {k20 : Int32 → Int32 → Int32 → St → Option (Int32 × St)} (hk20 : ∀ (x2 : Int32) (x3 : Int32) (x4 : Int32) (s0 : St), k20 x2 x3 x4 s0 = some o → J K (wX g) 5 (QV K g (wX g) o) 20 [(0, .ref (g.1 29)), (1, .ref (g.1 8)), (2, .int x2), (3, .int x3), (4, .int x4)] [] s0) : ∀ (x2 : Int32) (x3 : Int32) (x4 : Int32) (s0 : St), X2_gather_l45 N k20 x2 x3 x4 s0 = some o → J K (wX g) 5 (QV K g (wX g) o) 45 [(0, .ref (g.1 29)), (1, .ref (g.1 8)), (2, .int x2), (3, .int x3), (4, .int x4)] [] s0 := by
  intro x2 x3 x4 s0 h
  unfold X2_gather_l45 at h
  refine j_aload_n hC dX2_gather_45 rfl 0 rfl ?_
  refine j_aload_n hC dX2_gather_46 rfl 1 rfl ?_
  refine j_iload hC dX2_gather_47 4 rfl ?_
  obtain ⟨v1, s1, hc, h⟩ := cal_some h
  refine call_X2_109 hC (fun l D => X2_isFreeInTime_ok l D g hc) (by decide) (Nat.le_of_ble_eq_true rfl) dX2_gather_49 ?_
  refine j_if_eq (tgt := 129) hC dX2_gather_52 (by decide) h ?_ ?_
  · intro h
    refine j_sub [0, 1, 2, 3, 4] rfl ?_
    exact X2_gather_l129_ok hC hk20 x2 x3 x4 s1 h
  · intro h
    refine j_aload_n hC dX2_gather_55 rfl 0 rfl ?_
    refine get_X2_27 hC dX2_gather_56 ?_
    refine j_aload_n hC dX2_gather_59 rfl 0 rfl ?_
    refine get_X2_97 hC dX2_gather_60 ?_
    refine j_iload hC dX2_gather_63 4 rfl ?_
    refine ast_X2_pool hC dX2_gather_65 h ?_
    intro s2 h
    refine j_aload_n hC dX2_gather_66 rfl 0 rfl ?_
    refine j_pc (n2 := 67) rfl ?_
    refine j_aload_n hC dX2_gather_67 rfl 1 rfl ?_
    refine j_iload hC dX2_gather_68 4 rfl ?_
    obtain ⟨v2, s3, hc, h⟩ := cal_some h
    refine call_X2_113 hC (fun l D => X2_sortIn_ok l D g hc) (by decide) (Nat.le_of_ble_eq_true rfl) dX2_gather_70 ?_
    refine j_aload_n hC dX2_gather_73 rfl 0 rfl ?_
    refine j_dup hC rfl dX2_gather_74 ?_
    refine get_X2_97 hC dX2_gather_75 ?_
    refine j_iconst (v := 1) hC dX2_gather_78 (by decide) ?_
    refine j_iadd hC dX2_gather_79 ?_
    refine j_pc (n2 := 80) rfl ?_
    refine put_X2_97 hC dX2_gather_80 h ?_
    intro s4 h
    refine j_aload_n hC dX2_gather_83 rfl 0 rfl ?_
    refine j_aload_n hC dX2_gather_84 rfl 0 rfl ?_
    refine get_X2_100 hC dX2_gather_85 ?_
    refine j_aload_n hC dX2_gather_88 rfl 1 rfl ?_
    refine get_X2_116 hC dX2_gather_89 ?_
    refine j_iload hC dX2_gather_92 4 rfl ?_
    refine ald_X4_seconds hC dX2_gather_94 h ?_
    intro v3 h
    refine j_pc (n2 := 95) rfl ?_
    refine mt_X2_119 hC (by decide) (Nat.le_of_ble_eq_true rfl) dX2_gather_95 ?_
    refine put_X2_100 hC dX2_gather_98 h ?_
    intro s5 h
    refine j_aload_n hC dX2_gather_101 rfl 0 rfl ?_
    refine j_aload_n hC dX2_gather_102 rfl 0 rfl ?_
    refine get_X2_103 hC dX2_gather_103 ?_
    refine j_aload_n hC dX2_gather_106 rfl 0 rfl ?_
    refine get_X2_18 hC dX2_gather_107 ?_
    refine j_iload hC dX2_gather_110 4 rfl ?_
    refine j_pc (n2 := 112) rfl ?_
    refine ald_X2_heat hC dX2_gather_112 h ?_
    intro v4 h
    refine mt_X2_119 hC (by decide) (Nat.le_of_ble_eq_true rfl) dX2_gather_113 ?_
    refine put_X2_103 hC dX2_gather_116 h ?_
    intro s6 h
    refine j_iload_n hC dX2_gather_119 rfl 3 rfl ?_
    refine j_aload_n hC dX2_gather_120 rfl 1 rfl ?_
    refine get_X2_122 hC dX2_gather_121 ?_
    refine j_iload hC dX2_gather_124 4 rfl ?_
    refine ald_X4_newness hC dX2_gather_126 h ?_
    intro v5 h
    refine j_pc (n2 := 127) rfl ?_
    refine j_iadd hC dX2_gather_127 ?_
    refine j_bi (E := x3 + v5) h (fun v6 h => ?_)
    refine j_istore_n hC dX2_gather_128 rfl (by decide) rfl ?_
    refine j_sub [1, 2, 3, 0, 4] rfl ?_
    exact X2_gather_l129_ok hC hk20 x2 v6 x4 s6 h
set_option maxRecDepth 20000 in
def X2_gather_l20 (N : Nat) : Nat → Int32 → Int32 → Int32 → St → Option (Int32 × St)
  | 0 => fun _ _ _ _ => none
  | n + 1 => fun x2 x3 x4 s0 =>
  if gi s0 9 ≤ x4 then
  if gi s0 26 ≤ 0 then
    some (0, s0)
    else
    if x3 = 0 then
      bnd (si s0 17 0) fun s1 =>
        some (0, s1)
      else
      some (0, s0)
  else
  if x2 = (-1) then
    X2_gather_l45 N (X2_gather_l20 N n) x2 x3 x4 s0
    else
    ald s0 7 24 x4 fun v1 =>
      if v1 = x2 then
      X2_gather_l45 N (X2_gather_l20 N n) x2 x3 x4 s0
      else
      X2_gather_l129 N (X2_gather_l20 N n) x2 x3 x4 s0
set_option maxRecDepth 20000 in
theorem X2_gather_l20_ok {K : Kx} {g : Gm} {N : Nat} {o : Int32 × St} (hC : Ok K cX2_gather RX2 g 5 1 none) : ∀ (n : Nat) (x2 : Int32) (x3 : Int32) (x4 : Int32) (s0 : St), X2_gather_l20 N n x2 x3 x4 s0 = some o → J K (wX g) 5 (QV K g (wX g) o) 20 [(0, .ref (g.1 29)), (1, .ref (g.1 8)), (2, .int x2), (3, .int x3), (4, .int x4)] [] s0 := by
  intro n
  induction n with
  | zero => intro x2 x3 x4 s0 h; cases h
  | succ n ih =>
    intro x2 x3 x4 s0 h
    rw [X2_gather_l20] at h
    refine j_iload hC dX2_gather_20 4 rfl ?_
    refine j_aload_n hC dX2_gather_22 rfl 1 rfl ?_
    refine get_X2_60 hC dX2_gather_23 ?_
    refine j_icmp_ge (tgt := 135) hC dX2_gather_26 (by decide) h ?_ ?_
    · intro h
      refine j_aload_n hC dX2_gather_135 rfl 0 rfl ?_
      refine get_X2_71 hC dX2_gather_136 ?_
      refine j_if_le (tgt := 151) hC dX2_gather_139 (by decide) h ?_ ?_
      · intro h
        exact j_vret (v := 0) hC dX2_gather_151 h
      · intro h
        refine j_iload_n hC dX2_gather_142 rfl 3 rfl ?_
        refine j_if_ne (tgt := 151) hC dX2_gather_143 (by decide) h ?_ ?_
        · intro h
          exact j_vret (v := 0) hC dX2_gather_151 h
        · intro h
          refine j_aload_n hC dX2_gather_146 rfl 0 rfl ?_
          refine j_iconst (v := 0) hC dX2_gather_147 (by decide) ?_
          refine put_X2_97 hC dX2_gather_148 h ?_
          intro s1 h
          exact j_vret (v := 0) hC dX2_gather_151 h
    · intro h
      refine j_iload_n hC dX2_gather_29 rfl 2 rfl ?_
      refine j_iconst (v := (-1)) hC dX2_gather_30 (by decide) ?_
      refine j_icmp_eq (tgt := 45) hC dX2_gather_31 (by decide) h ?_ ?_
      · intro h
        refine j_sub [0, 1, 2, 3, 4] rfl ?_
        exact X2_gather_l45_ok hC ih x2 x3 x4 s0 h
      · intro h
        refine j_aload_n hC dX2_gather_34 rfl 1 rfl ?_
        refine get_X2_106 hC dX2_gather_35 ?_
        refine j_iload hC dX2_gather_38 4 rfl ?_
        refine ald_X4_mood hC dX2_gather_40 h ?_
        intro v1 h
        refine j_iload_n hC dX2_gather_41 rfl 2 rfl ?_
        refine j_icmp_ne (tgt := 129) hC dX2_gather_42 (by decide) h ?_ ?_
        · intro h
          refine j_sub [0, 1, 2, 3, 4] rfl ?_
          exact X2_gather_l129_ok hC ih x2 x3 x4 s0 h
        · intro h
          refine j_sub [0, 1, 2, 3, 4] rfl ?_
          exact X2_gather_l45_ok hC ih x2 x3 x4 s0 h
set_option maxRecDepth 20000 in
def X2_gather_f (N : Nat) (x2 : Int32) (s0 : St) : Option (Int32 × St) :=
  bnd (si s0 17 0) fun s1 =>
  bnd (si s1 18 0) fun s2 =>
  bnd (si s2 19 0) fun s3 =>
  X2_gather_l20 N N x2 0 0 s3
set_option maxRecDepth 20000 in
theorem X2_gather_ok (l : Launch) (D : va_G) (g : Gm) {N : Nat} {x2 : Int32} {s0 : St} {o : Int32 × St} (h : X2_gather_f N x2 s0 = some o) : MV l yX2_gather cX2_gather 5 none 1 D g (wX g) [.ref (g.1 29), .ref (g.1 8), .int x2] s0 o := by
  refine met_V (own := RX2) (by decide) rfl (Nat.le_of_ble_eq_true rfl) (fun K hC => ?_)
  show J K (wX g) 5 (QV K g (wX g) o) 0 [(0, .ref (g.1 29)), (1, .ref (g.1 8)), (2, .int x2)] [] s0
  unfold X2_gather_f at h
  refine j_aload_n hC dX2_gather_0 rfl 0 rfl ?_
  refine j_iconst (v := 0) hC dX2_gather_1 (by decide) ?_
  refine put_X2_97 hC dX2_gather_2 h ?_
  intro s1 h
  refine j_aload_n hC dX2_gather_5 rfl 0 rfl ?_
  refine j_iconst (v := 0) hC dX2_gather_6 (by decide) ?_
  refine put_X2_100 hC dX2_gather_7 h ?_
  intro s2 h
  refine j_aload_n hC dX2_gather_10 rfl 0 rfl ?_
  refine j_pc (n2 := 11) rfl ?_
  refine j_iconst (v := 0) hC dX2_gather_11 (by decide) ?_
  refine put_X2_103 hC dX2_gather_12 h ?_
  intro s3 h
  refine j_iconst (v := 0) hC dX2_gather_15 (by decide) ?_
  refine j_istore_n hC dX2_gather_16 rfl (by decide) rfl ?_
  refine j_iconst (v := 0) hC dX2_gather_17 (by decide) ?_
  refine j_istore hC dX2_gather_18 (by decide) rfl ?_
  refine j_sub [2, 3, 4, 1, 0] rfl ?_
  exact X2_gather_l20_ok hC N x2 0 0 s3 h
set_option maxRecDepth 20000 in
def X2_aim_l126 (N : Nat) (k86 : Int32 → Int32 → St → Option (Int32 × St)) (x4 : Int32) (x6 : Int32) (t1 : Int32) (t2 : Int32) (s0 : St) : Option (Int32 × St) :=
  ast s0 27 12 t1 t2 fun s1 =>
  bnd (x6 + 1) fun v1 =>
  k86 x4 v1 s1
set_option maxRecDepth 20000 in
theorem X2_aim_l126_ok {K : Kx} {g : Gm} {N : Nat} {o : Int32 × St} (hC : Ok K cX2_aim RX2 g 7 2 none) {k86 : Int32 → Int32 → St → Option (Int32 × St)} (hk86 : ∀ (x4 : Int32) (x6 : Int32) (s0 : St), k86 x4 x6 s0 = some o → J K (wX g) 7 (QV K g (wX g) o) 86 [(0, .ref (g.1 29)), (1, .ref (g.1 8)), (4, .int x4), (6, .int x6)] [] s0) : ∀ (x4 : Int32) (x6 : Int32) (t1 : Int32) (t2 : Int32) (s0 : St), X2_aim_l126 N k86 x4 x6 t1 t2 s0 = some o → J K (wX g) 7 (QV K g (wX g) o) 126 [(0, .ref (g.1 29)), (1, .ref (g.1 8)), (4, .int x4), (6, .int x6)] [.int t2, .int t1, .ref (g.1 34)] s0 := by
  intro x4 x6 t1 t2 s0 h
  unfold X2_aim_l126 at h
  refine ast_X2_artistFree hC dX2_aim_126 h ?_
  intro s1 h
  refine j_iincb (n2 := 1) (k0 := 3) (lv2 := fun z => [(6, .int z), (0, .ref (g.1 29)), (1, .ref (g.1 8)), (4, .int x4)]) hC dX2_aim_127 rfl (by decide) (by decide) (fun _ => rfl) h (fun v1 h => ?_)
  refine j_goto (tgt := 86) hC dX2_aim_130 (by decide) ?_
  refine j_sub [1, 2, 3, 0] rfl ?_
  exact hk86 x4 v1 s1 h
set_option maxRecDepth 20000 in
def X2_aim_l86 (N : Nat) : Nat → Int32 → Int32 → St → Option (Int32 × St)
  | 0 => fun _ _ _ => none
  | n + 1 => fun x4 x6 s0 =>
  if 12 ≤ x6 then
  cal (X2_gather_f N x4 s0) fun _ s1 =>
    some (0, s1)
  else
  ald s0 13 12 x6 fun v2 =>
    if v2 = (-1) then
    X2_aim_l126 N (X2_aim_l86 N n) x4 x6 x6 0 s0
    else
    ald s0 13 12 x6 fun v3 =>
      X2_aim_l126 N (X2_aim_l86 N n) x4 x6 x6 (v3 + (gi s0 21)) s0
set_option maxRecDepth 20000 in
theorem X2_aim_l86_ok {K : Kx} {g : Gm} {N : Nat} {o : Int32 × St} (hC : Ok K cX2_aim RX2 g 7 2 none) : ∀ (n : Nat) (x4 : Int32) (x6 : Int32) (s0 : St), X2_aim_l86 N n x4 x6 s0 = some o → J K (wX g) 7 (QV K g (wX g) o) 86 [(0, .ref (g.1 29)), (1, .ref (g.1 8)), (4, .int x4), (6, .int x6)] [] s0 := by
  intro n
  induction n with
  | zero => intro x4 x6 s0 h; cases h
  | succ n ih =>
    intro x4 x6 s0 h
    rw [X2_aim_l86] at h
    refine j_iload hC dX2_aim_86 3 rfl ?_
    refine j_bipush (v := 12) hC dX2_aim_88 (by decide) ?_
    refine j_icmp_ge (tgt := 133) hC dX2_aim_90 (by decide) h ?_ ?_
    · intro h
      refine j_aload_n hC dX2_aim_133 rfl 0 rfl ?_
      refine j_aload_n hC dX2_aim_134 rfl 1 rfl ?_
      refine j_iload hC dX2_aim_135 2 rfl ?_
      obtain ⟨v1, s1, hc, h⟩ := cal_some h
      refine call_X2_89 hC (fun l D => X2_gather_ok l D g hc) (by decide) (Nat.le_of_ble_eq_true rfl) dX2_aim_137 ?_
      exact j_vret (v := 0) hC dX2_aim_140 h
    · intro h
      refine j_aload_n hC dX2_aim_93 rfl 0 rfl ?_
      refine get_X2_24 hC dX2_aim_94 ?_
      refine j_iload hC dX2_aim_97 3 rfl ?_
      refine j_aload_n hC dX2_aim_99 rfl 1 rfl ?_
      refine get_X2_86 hC dX2_aim_100 ?_
      refine j_iload hC dX2_aim_103 3 rfl ?_
      refine ald_X4_artistBegan hC dX2_aim_105 h ?_
      intro v2 h
      refine j_pc (n2 := 106) rfl ?_
      refine j_iconst (v := (-1)) hC dX2_aim_106 (by decide) ?_
      refine j_icmp_ne (tgt := 114) hC dX2_aim_107 (by decide) h ?_ ?_
      · intro h
        refine j_aload_n hC dX2_aim_114 rfl 1 rfl ?_
        refine get_X2_86 hC dX2_aim_115 ?_
        refine j_iload hC dX2_aim_118 3 rfl ?_
        refine ald_X4_artistBegan hC dX2_aim_120 h ?_
        intro v3 h
        refine j_aload_n hC dX2_aim_121 rfl 0 rfl ?_
        refine get_X2_42 hC dX2_aim_122 ?_
        refine j_iadd hC dX2_aim_125 ?_
        refine j_sub [0, 1, 2, 3] rfl ?_
        exact X2_aim_l126_ok hC ih x4 x6 x6 (v3 + (gi s0 21)) s0 h
      · intro h
        refine j_iconst (v := 0) hC dX2_aim_110 (by decide) ?_
        refine j_goto (tgt := 126) hC dX2_aim_111 (by decide) ?_
        refine j_sub [0, 1, 2, 3] rfl ?_
        exact X2_aim_l126_ok hC ih x4 x6 x6 0 s0 h
set_option maxRecDepth 20000 in
def X2_aim_l76 (N : Nat) (k34 : Int32 → Int32 → St → Option (Int32 × St)) (x4 : Int32) (x6 : Int32) (t1 : Int32) (t2 : Int32) (s0 : St) : Option (Int32 × St) :=
  ast s0 26 24 t1 t2 fun s1 =>
  bnd (x6 + 1) fun v1 =>
  k34 x4 v1 s1
set_option maxRecDepth 20000 in
theorem X2_aim_l76_ok {K : Kx} {g : Gm} {N : Nat} {o : Int32 × St} (hC : Ok K cX2_aim RX2 g 7 2 none) {k34 : Int32 → Int32 → St → Option (Int32 × St)} (hk34 : ∀ (x4 : Int32) (x6 : Int32) (s0 : St), k34 x4 x6 s0 = some o → J K (wX g) 7 (QV K g (wX g) o) 34 [(0, .ref (g.1 29)), (1, .ref (g.1 8)), (4, .int x4), (6, .int x6)] [] s0) : ∀ (x4 : Int32) (x6 : Int32) (t1 : Int32) (t2 : Int32) (s0 : St), X2_aim_l76 N k34 x4 x6 t1 t2 s0 = some o → J K (wX g) 7 (QV K g (wX g) o) 76 [(0, .ref (g.1 29)), (1, .ref (g.1 8)), (4, .int x4), (6, .int x6)] [.int t2, .int t1, .ref (g.1 33)] s0 := by
  intro x4 x6 t1 t2 s0 h
  unfold X2_aim_l76 at h
  refine ast_X2_songFree hC dX2_aim_76 h ?_
  intro s1 h
  refine j_iincb (n2 := 1) (k0 := 3) (lv2 := fun z => [(6, .int z), (0, .ref (g.1 29)), (1, .ref (g.1 8)), (4, .int x4)]) hC dX2_aim_77 rfl (by decide) (by decide) (fun _ => rfl) h (fun v1 h => ?_)
  refine j_goto (tgt := 34) hC dX2_aim_80 (by decide) ?_
  refine j_sub [1, 2, 3, 0] rfl ?_
  exact hk34 x4 v1 s1 h
set_option maxRecDepth 20000 in
def X2_aim_l34 (N : Nat) : Nat → Int32 → Int32 → St → Option (Int32 × St)
  | 0 => fun _ _ _ => none
  | n + 1 => fun x4 x6 s0 =>
  if gi s0 9 ≤ x6 then
  X2_aim_l86 N N x4 0 s0
  else
  ald s0 12 24 x6 fun v1 =>
    if v1 = (-1) then
    X2_aim_l76 N (X2_aim_l34 N n) x4 x6 x6 0 s0
    else
    ald s0 12 24 x6 fun v2 =>
      X2_aim_l76 N (X2_aim_l34 N n) x4 x6 x6 (v2 + (gi s0 20)) s0
set_option maxRecDepth 20000 in
theorem X2_aim_l34_ok {K : Kx} {g : Gm} {N : Nat} {o : Int32 × St} (hC : Ok K cX2_aim RX2 g 7 2 none) : ∀ (n : Nat) (x4 : Int32) (x6 : Int32) (s0 : St), X2_aim_l34 N n x4 x6 s0 = some o → J K (wX g) 7 (QV K g (wX g) o) 34 [(0, .ref (g.1 29)), (1, .ref (g.1 8)), (4, .int x4), (6, .int x6)] [] s0 := by
  intro n
  induction n with
  | zero => intro x4 x6 s0 h; cases h
  | succ n ih =>
    intro x4 x6 s0 h
    rw [X2_aim_l34] at h
    refine j_iload hC dX2_aim_34 3 rfl ?_
    refine j_aload_n hC dX2_aim_36 rfl 1 rfl ?_
    refine get_X2_60 hC dX2_aim_37 ?_
    refine j_icmp_ge (tgt := 83) hC dX2_aim_40 (by decide) h ?_ ?_
    · intro h
      refine j_iconst (v := 0) hC dX2_aim_83 (by decide) ?_
      refine j_istore hC dX2_aim_84 (by decide) rfl ?_
      refine j_sub [1, 2, 3, 0] rfl ?_
      exact X2_aim_l86_ok hC N x4 0 s0 h
    · intro h
      refine j_aload_n hC dX2_aim_43 rfl 0 rfl ?_
      refine get_X2_21 hC dX2_aim_44 ?_
      refine j_iload hC dX2_aim_47 3 rfl ?_
      refine j_aload_n hC dX2_aim_49 rfl 1 rfl ?_
      refine get_X2_83 hC dX2_aim_50 ?_
      refine j_iload hC dX2_aim_53 3 rfl ?_
      refine ald_X4_began hC dX2_aim_55 h ?_
      intro v1 h
      refine j_pc (n2 := 56) rfl ?_
      refine j_iconst (v := (-1)) hC dX2_aim_56 (by decide) ?_
      refine j_icmp_ne (tgt := 64) hC dX2_aim_57 (by decide) h ?_ ?_
      · intro h
        refine j_aload_n hC dX2_aim_64 rfl 1 rfl ?_
        refine get_X2_83 hC dX2_aim_65 ?_
        refine j_iload hC dX2_aim_68 3 rfl ?_
        refine ald_X4_began hC dX2_aim_70 h ?_
        intro v2 h
        refine j_aload_n hC dX2_aim_71 rfl 0 rfl ?_
        refine get_X2_38 hC dX2_aim_72 ?_
        refine j_iadd hC dX2_aim_75 ?_
        refine j_sub [0, 1, 2, 3] rfl ?_
        exact X2_aim_l76_ok hC ih x4 x6 x6 (v2 + (gi s0 20)) s0 h
      · intro h
        refine j_iconst (v := 0) hC dX2_aim_60 (by decide) ?_
        refine j_goto (tgt := 76) hC dX2_aim_61 (by decide) ?_
        refine j_sub [0, 1, 2, 3] rfl ?_
        exact X2_aim_l76_ok hC ih x4 x6 x6 0 s0 h
set_option maxRecDepth 20000 in
def X2_aim_f (N : Nat) (x2 : Int32) (x3 : Int32) (x4 : Int32) (x5 : Int32) (s0 : St) : Option (Int32 × St) :=
  bnd (si s0 25 (x2 + x3)) fun s1 =>
  bnd (si s1 26 x5) fun s2 =>
  bnd (si s2 14 0) fun s3 =>
  bnd (si s3 15 (gi s3 23)) fun s4 =>
  bnd (si s4 16 ((-1))) fun s5 =>
  X2_aim_l34 N N x4 0 s5
set_option maxRecDepth 20000 in
theorem X2_aim_ok (l : Launch) (D : va_G) (g : Gm) {N : Nat} {x2 : Int32} {x3 : Int32} {x4 : Int32} {x5 : Int32} {s0 : St} {o : Int32 × St} (h : X2_aim_f N x2 x3 x4 x5 s0 = some o) : MV l yX2_aim cX2_aim 7 none 2 D g (wX g) [.ref (g.1 29), .ref (g.1 8), .int x2, .int x3, .int x4, .int x5] s0 o := by
  refine met_V (own := RX2) (by decide) rfl (Nat.le_of_ble_eq_true rfl) (fun K hC => ?_)
  show J K (wX g) 7 (QV K g (wX g) o) 0 [(0, .ref (g.1 29)), (1, .ref (g.1 8)), (2, .int x2), (3, .int x3), (4, .int x4), (5, .int x5)] [] s0
  unfold X2_aim_f at h
  refine j_aload_n hC dX2_aim_0 rfl 0 rfl ?_
  refine j_iload_n hC dX2_aim_1 rfl 2 rfl ?_
  refine j_iload_n hC dX2_aim_2 rfl 3 rfl ?_
  refine j_iadd hC dX2_aim_3 ?_
  refine put_X2_68 hC dX2_aim_4 h ?_
  intro s1 h
  refine j_aload_n hC dX2_aim_7 rfl 0 rfl ?_
  refine j_iload hC dX2_aim_8 5 rfl ?_
  refine j_pc (n2 := 10) rfl ?_
  refine put_X2_71 hC dX2_aim_10 h ?_
  intro s2 h
  refine j_aload_n hC dX2_aim_13 rfl 0 rfl ?_
  refine j_iconst (v := 0) hC dX2_aim_14 (by decide) ?_
  refine put_X2_74 hC dX2_aim_15 h ?_
  intro s3 h
  refine j_aload_n hC dX2_aim_18 rfl 0 rfl ?_
  refine j_aload_n hC dX2_aim_19 rfl 0 rfl ?_
  refine get_X2_48 hC dX2_aim_20 ?_
  refine put_X2_77 hC dX2_aim_23 h ?_
  intro s4 h
  refine j_pc (n2 := 26) rfl ?_
  refine j_aload_n hC dX2_aim_26 rfl 0 rfl ?_
  refine j_iconst (v := (-1)) hC dX2_aim_27 (by decide) ?_
  refine put_X2_80 hC dX2_aim_28 h ?_
  intro s5 h
  refine j_iconst (v := 0) hC dX2_aim_31 (by decide) ?_
  refine j_istore hC dX2_aim_32 (by decide) rfl ?_
  refine j_sub [1, 2, 5, 0] rfl ?_
  exact X2_aim_l34_ok hC N x4 0 s5 h
set_option maxRecDepth 20000 in
def X2_isHopeless_l60 (N : Nat) (s0 : St) : Option (Int32 × St) :=
  some (1, s0)
set_option maxRecDepth 20000 in
theorem X2_isHopeless_l60_ok {K : Kx} {g : Gm} {N : Nat} {o : Int32 × St} (hC : Ok K cX2_isHopeless RX2 g 6 1 (some .boolean)) : ∀ (s0 : St), X2_isHopeless_l60 N  s0 = some o → J K (wX g) 6 (QI K g (wX g) o) 60 [] [] s0 := by
  intro  s0 h
  unfold X2_isHopeless_l60 at h
  refine j_iconst (v := 1) hC dX2_isHopeless_60 (by decide) ?_
  refine j_goto (tgt := 65) hC dX2_isHopeless_61 (by decide) ?_
  exact j_iret hC dX2_isHopeless_65 rfl h
set_option maxRecDepth 20000 in
def X2_isHopeless_f (N : Nat) (x1 : Int32) (x2 : Int32) (x3 : Int32) (x4 : Int32) (s0 : St) : Option (Int32 × St) :=
  if gi s0 26 ≤ x4 + x1 then
  bnd (imax 0 (x2 - (x1 * (gi s0 18)))) fun v1 =>
    if gi s0 15 < v1 then
    X2_isHopeless_l60 N s0
    else
    if v1 = gi s0 15 then
      if gi s0 16 < x3 + (x1 * (gi s0 19)) then
        some (0, s0)
        else
        X2_isHopeless_l60 N s0
      else
      some (0, s0)
  else
  some (1, s0)
set_option maxRecDepth 20000 in
theorem X2_isHopeless_ok (l : Launch) (D : va_G) (g : Gm) {N : Nat} {x1 : Int32} {x2 : Int32} {x3 : Int32} {x4 : Int32} {s0 : St} {o : Int32 × St} (h : X2_isHopeless_f N x1 x2 x3 x4 s0 = some o) : MI l yX2_isHopeless cX2_isHopeless 6 (some .boolean) 1 D g (wX g) [.ref (g.1 29), .int x1, .int x2, .int x3, .int x4] s0 o := by
  refine met_I (own := RX2) (by decide) rfl (Nat.le_of_ble_eq_true rfl) (fun K hC => ?_)
  show J K (wX g) 6 (QI K g (wX g) o) 0 [(0, .ref (g.1 29)), (1, .int x1), (2, .int x2), (3, .int x3), (4, .int x4)] [] s0
  unfold X2_isHopeless_f at h
  refine j_iload hC dX2_isHopeless_0 4 rfl ?_
  refine j_iload_n hC dX2_isHopeless_2 rfl 1 rfl ?_
  refine j_iadd hC dX2_isHopeless_3 ?_
  refine j_aload_n hC dX2_isHopeless_4 rfl 0 rfl ?_
  refine get_X2_71 hC dX2_isHopeless_5 ?_
  refine j_icmp_ge (tgt := 13) hC dX2_isHopeless_8 (by decide) h ?_ ?_
  · intro h
    refine j_iconst (v := 0) hC dX2_isHopeless_13 (by decide) ?_
    refine j_iload_n hC dX2_isHopeless_14 rfl 2 rfl ?_
    refine j_iload_n hC dX2_isHopeless_15 rfl 1 rfl ?_
    refine j_aload_n hC dX2_isHopeless_16 rfl 0 rfl ?_
    refine get_X2_100 hC dX2_isHopeless_17 ?_
    refine j_imul hC dX2_isHopeless_20 ?_
    refine j_isub hC dX2_isHopeless_21 ?_
    refine j_pc (n2 := 22) rfl ?_
    refine mt_X2_119 hC (by decide) (Nat.le_of_ble_eq_true rfl) dX2_isHopeless_22 ?_
    refine j_bi (E := imax 0 (x2 - (x1 * (gi s0 18)))) h (fun v1 h => ?_)
    refine j_istore hC dX2_isHopeless_25 (by decide) rfl ?_
    refine j_iload hC dX2_isHopeless_27 0 rfl ?_
    refine j_aload_n hC dX2_isHopeless_29 rfl 1 rfl ?_
    refine get_X2_77 hC dX2_isHopeless_30 ?_
    refine j_icmp_gt (tgt := 60) hC dX2_isHopeless_33 (by decide) h ?_ ?_
    · intro h
      refine j_sub [] rfl ?_
      exact X2_isHopeless_l60_ok hC s0 h
    · intro h
      refine j_iload hC dX2_isHopeless_36 0 rfl ?_
      refine j_aload_n hC dX2_isHopeless_38 rfl 1 rfl ?_
      refine get_X2_77 hC dX2_isHopeless_39 ?_
      refine j_icmp_ne (tgt := 64) hC dX2_isHopeless_42 (by decide) h ?_ ?_
      · intro h
        refine j_iconst (v := 0) hC dX2_isHopeless_64 (by decide) ?_
        exact j_iret hC dX2_isHopeless_65 rfl h
      · intro h
        refine j_iload_n hC dX2_isHopeless_45 rfl 4 rfl ?_
        refine j_iload_n hC dX2_isHopeless_46 rfl 2 rfl ?_
        refine j_aload_n hC dX2_isHopeless_47 rfl 1 rfl ?_
        refine get_X2_103 hC dX2_isHopeless_48 ?_
        refine j_imul hC dX2_isHopeless_51 ?_
        refine j_iadd hC dX2_isHopeless_52 ?_
        refine j_aload_n hC dX2_isHopeless_53 rfl 1 rfl ?_
        refine j_pc (n2 := 54) rfl ?_
        refine get_X2_80 hC dX2_isHopeless_54 ?_
        refine j_icmp_gt (tgt := 64) hC dX2_isHopeless_57 (by decide) h ?_ ?_
        · intro h
          refine j_iconst (v := 0) hC dX2_isHopeless_64 (by decide) ?_
          exact j_iret hC dX2_isHopeless_65 rfl h
        · intro h
          refine j_sub [] rfl ?_
          exact X2_isHopeless_l60_ok hC s0 h
  · intro h
    refine j_iconst (v := 1) hC dX2_isHopeless_11 (by decide) ?_
    exact j_iret hC dX2_isHopeless_12 rfl h
set_option maxRecDepth 20000 in
def X2_compare_l64 (N : Nat) : Nat → Int32 → Int32 → St → Option (Int32 × St)
  | 0 => fun _ _ _ => none
  | n + 1 => fun x1 x6 s0 =>
  if x1 ≤ x6 then
  some (0, s0)
  else
  ald s0 24 4 x6 fun v1 =>
    ast s0 23 4 x6 v1 fun s1 =>
    bnd (x6 + 1) fun v2 =>
    (X2_compare_l64 N n) x1 v2 s1
set_option maxRecDepth 20000 in
theorem X2_compare_l64_ok {K : Kx} {g : Gm} {N : Nat} {o : Int32 × St} (hC : Ok K cX2_compare RX2 g 7 0 none) : ∀ (n : Nat) (x1 : Int32) (x6 : Int32) (s0 : St), X2_compare_l64 N n x1 x6 s0 = some o → J K (wX g) 7 (QV K g (wX g) o) 64 [(0, .ref (g.1 29)), (1, .int x1), (6, .int x6)] [] s0 := by
  intro n
  induction n with
  | zero => intro x1 x6 s0 h; cases h
  | succ n ih =>
    intro x1 x6 s0 h
    rw [X2_compare_l64] at h
    refine j_iload hC dX2_compare_64 2 rfl ?_
    refine j_iload_n hC dX2_compare_66 rfl 1 rfl ?_
    refine j_icmp_ge (tgt := 90) hC dX2_compare_67 (by decide) h ?_ ?_
    · intro h
      exact j_vret (v := 0) hC dX2_compare_90 h
    · intro h
      refine j_aload_n hC dX2_compare_70 rfl 0 rfl ?_
      refine get_X2_9 hC dX2_compare_71 ?_
      refine j_iload hC dX2_compare_74 2 rfl ?_
      refine j_aload_n hC dX2_compare_76 rfl 0 rfl ?_
      refine get_X2_15 hC dX2_compare_77 ?_
      refine j_iload hC dX2_compare_80 2 rfl ?_
      refine ald_X2_row hC dX2_compare_82 h ?_
      intro v1 h
      refine j_pc (n2 := 83) rfl ?_
      refine ast_X2_best hC dX2_compare_83 h ?_
      intro s1 h
      refine j_iincb (n2 := 1) (k0 := 2) (lv2 := fun z => [(6, .int z), (0, .ref (g.1 29)), (1, .int x1)]) hC dX2_compare_84 rfl (by decide) (by decide) (fun _ => rfl) h (fun v2 h => ?_)
      refine j_goto (tgt := 64) hC dX2_compare_87 (by decide) ?_
      refine j_sub [1, 2, 0] rfl ?_
      exact ih x1 v2 s1 h
set_option maxRecDepth 20000 in
def X2_compare_l29 (N : Nat) (x1 : Int32) (x2 : Int32) (x3 : Int32) (x4 : Int32) (t0 : Int32) (s0 : St) : Option (Int32 × St) :=
  if t0 = 0 then
  some (0, s0)
  else
  if gi s0 26 ≤ x4 then
    bnd (si s0 14 x1) fun s1 =>
      bnd (si s1 15 x2) fun s2 =>
      bnd (si s2 16 x3) fun s3 =>
      X2_compare_l64 N N x1 0 s3
    else
    some (0, s0)
set_option maxRecDepth 20000 in
theorem X2_compare_l29_ok {K : Kx} {g : Gm} {N : Nat} {o : Int32 × St} (hC : Ok K cX2_compare RX2 g 7 0 none) : ∀ (x1 : Int32) (x2 : Int32) (x3 : Int32) (x4 : Int32) (t0 : Int32) (s0 : St), X2_compare_l29 N x1 x2 x3 x4 t0 s0 = some o → J K (wX g) 7 (QV K g (wX g) o) 29 [(0, .ref (g.1 29)), (1, .int x1), (2, .int x2), (3, .int x3), (4, .int x4)] [.int t0] s0 := by
  intro x1 x2 x3 x4 t0 s0 h
  unfold X2_compare_l29 at h
  refine j_istore hC dX2_compare_29 (by decide) rfl ?_
  refine j_iload hC dX2_compare_31 0 rfl ?_
  refine j_if_eq (tgt := 45) hC dX2_compare_33 (by decide) h ?_ ?_
  · intro h
    exact j_vret (v := 0) hC dX2_compare_45 h
  · intro h
    refine j_iload hC dX2_compare_36 5 rfl ?_
    refine j_aload_n hC dX2_compare_38 rfl 1 rfl ?_
    refine get_X2_71 hC dX2_compare_39 ?_
    refine j_icmp_ge (tgt := 46) hC dX2_compare_42 (by decide) h ?_ ?_
    · intro h
      refine j_aload_n hC dX2_compare_46 rfl 1 rfl ?_
      refine j_iload_n hC dX2_compare_47 rfl 2 rfl ?_
      refine put_X2_74 hC dX2_compare_48 h ?_
      intro s1 h
      refine j_aload_n hC dX2_compare_51 rfl 1 rfl ?_
      refine j_iload_n hC dX2_compare_52 rfl 3 rfl ?_
      refine put_X2_77 hC dX2_compare_53 h ?_
      intro s2 h
      refine j_aload_n hC dX2_compare_56 rfl 1 rfl ?_
      refine j_pc (n2 := 57) rfl ?_
      refine j_iload_n hC dX2_compare_57 rfl 4 rfl ?_
      refine put_X2_80 hC dX2_compare_58 h ?_
      intro s3 h
      refine j_iconst (v := 0) hC dX2_compare_61 (by decide) ?_
      refine j_istore hC dX2_compare_62 (by decide) rfl ?_
      refine j_sub [2, 3, 0] rfl ?_
      exact X2_compare_l64_ok hC N x1 0 s3 h
    · intro h
      exact j_vret (v := 0) hC dX2_compare_45 h
set_option maxRecDepth 20000 in
def X2_compare_l28 (N : Nat) (x1 : Int32) (x2 : Int32) (x3 : Int32) (x4 : Int32) (s0 : St) : Option (Int32 × St) :=
  X2_compare_l29 N x1 x2 x3 x4 0 s0
set_option maxRecDepth 20000 in
theorem X2_compare_l28_ok {K : Kx} {g : Gm} {N : Nat} {o : Int32 × St} (hC : Ok K cX2_compare RX2 g 7 0 none) : ∀ (x1 : Int32) (x2 : Int32) (x3 : Int32) (x4 : Int32) (s0 : St), X2_compare_l28 N x1 x2 x3 x4 s0 = some o → J K (wX g) 7 (QV K g (wX g) o) 28 [(0, .ref (g.1 29)), (1, .int x1), (2, .int x2), (3, .int x3), (4, .int x4)] [] s0 := by
  intro x1 x2 x3 x4 s0 h
  unfold X2_compare_l28 at h
  refine j_iconst (v := 0) hC dX2_compare_28 (by decide) ?_
  refine j_sub [0, 1, 2, 3, 4] rfl ?_
  exact X2_compare_l29_ok hC x1 x2 x3 x4 0 s0 h
set_option maxRecDepth 20000 in
def X2_compare_l24 (N : Nat) (x1 : Int32) (x2 : Int32) (x3 : Int32) (x4 : Int32) (s0 : St) : Option (Int32 × St) :=
  X2_compare_l29 N x1 x2 x3 x4 1 s0
set_option maxRecDepth 20000 in
theorem X2_compare_l24_ok {K : Kx} {g : Gm} {N : Nat} {o : Int32 × St} (hC : Ok K cX2_compare RX2 g 7 0 none) : ∀ (x1 : Int32) (x2 : Int32) (x3 : Int32) (x4 : Int32) (s0 : St), X2_compare_l24 N x1 x2 x3 x4 s0 = some o → J K (wX g) 7 (QV K g (wX g) o) 24 [(0, .ref (g.1 29)), (1, .int x1), (2, .int x2), (3, .int x3), (4, .int x4)] [] s0 := by
  intro x1 x2 x3 x4 s0 h
  unfold X2_compare_l24 at h
  refine j_iconst (v := 1) hC dX2_compare_24 (by decide) ?_
  refine j_goto (tgt := 29) hC dX2_compare_25 (by decide) ?_
  refine j_sub [0, 1, 2, 3, 4] rfl ?_
  exact X2_compare_l29_ok hC x1 x2 x3 x4 1 s0 h
set_option maxRecDepth 20000 in
def X2_compare_f (N : Nat) (x1 : Int32) (x2 : Int32) (x3 : Int32) (x4 : Int32) (s0 : St) : Option (Int32 × St) :=
  if x2 < gi s0 15 then
  X2_compare_l24 N x1 x2 x3 x4 s0
  else
  if x2 = gi s0 15 then
    if x3 ≤ gi s0 16 then
      X2_compare_l28 N x1 x2 x3 x4 s0
      else
      X2_compare_l24 N x1 x2 x3 x4 s0
    else
    X2_compare_l28 N x1 x2 x3 x4 s0
set_option maxRecDepth 20000 in
theorem X2_compare_ok (l : Launch) (D : va_G) (g : Gm) {N : Nat} {x1 : Int32} {x2 : Int32} {x3 : Int32} {x4 : Int32} {s0 : St} {o : Int32 × St} (h : X2_compare_f N x1 x2 x3 x4 s0 = some o) : MV l yX2_compare cX2_compare 7 none 0 D g (wX g) [.ref (g.1 29), .int x1, .int x2, .int x3, .int x4] s0 o := by
  refine met_V (own := RX2) (by decide) rfl (Nat.le_of_ble_eq_true rfl) (fun K hC => ?_)
  show J K (wX g) 7 (QV K g (wX g) o) 0 [(0, .ref (g.1 29)), (1, .int x1), (2, .int x2), (3, .int x3), (4, .int x4)] [] s0
  unfold X2_compare_f at h
  refine j_iload_n hC dX2_compare_0 rfl 2 rfl ?_
  refine j_aload_n hC dX2_compare_1 rfl 0 rfl ?_
  refine get_X2_77 hC dX2_compare_2 ?_
  refine j_icmp_lt (tgt := 24) hC dX2_compare_5 (by decide) h ?_ ?_
  · intro h
    refine j_sub [0, 1, 2, 3, 4] rfl ?_
    exact X2_compare_l24_ok hC x1 x2 x3 x4 s0 h
  · intro h
    refine j_iload_n hC dX2_compare_8 rfl 2 rfl ?_
    refine j_aload_n hC dX2_compare_9 rfl 0 rfl ?_
    refine get_X2_77 hC dX2_compare_10 ?_
    refine j_icmp_ne (tgt := 28) hC dX2_compare_13 (by decide) h ?_ ?_
    · intro h
      refine j_sub [0, 1, 2, 3, 4] rfl ?_
      exact X2_compare_l28_ok hC x1 x2 x3 x4 s0 h
    · intro h
      refine j_iload_n hC dX2_compare_16 rfl 3 rfl ?_
      refine j_aload_n hC dX2_compare_17 rfl 0 rfl ?_
      refine get_X2_80 hC dX2_compare_18 ?_
      refine j_icmp_le (tgt := 28) hC dX2_compare_21 (by decide) h ?_ ?_
      · intro h
        refine j_sub [0, 1, 2, 3, 4] rfl ?_
        exact X2_compare_l28_ok hC x1 x2 x3 x4 s0 h
      · intro h
        refine j_sub [0, 1, 2, 3, 4] rfl ?_
        exact X2_compare_l24_ok hC x1 x2 x3 x4 s0 h
set_option maxRecDepth 20000 in
def X2_firstThatFits_l50 (N : Nat) (k8 : Int32 → Int32 → Int32 → St → Option (Int32 × St)) (x2 : Int32) (x3 : Int32) (x4 : Int32) (s0 : St) : Option (Int32 × St) :=
  k8 x2 x3 x4 s0
set_option maxRecDepth 20000 in
theorem X2_firstThatFits_l50_ok {K : Kx} {g : Gm} {N : Nat} {o : Int32 × St} (hC : Ok K cX2_firstThatFits RX2 g 6 0 (some .int)) {k8 : Int32 → Int32 → Int32 → St → Option (Int32 × St)} (hk8 : ∀ (x2 : Int32) (x3 : Int32) (x4 : Int32) (s0 : St), k8 x2 x3 x4 s0 = some o → J K (wX g) 6 (QI K g (wX g) o) 8 [(0, .ref (g.1 29)), (1, .ref (g.1 8)), (2, .int x2), (3, .int x3), (4, .int x4)] [] s0) : ∀ (x2 : Int32) (x3 : Int32) (x4 : Int32) (s0 : St), X2_firstThatFits_l50 N k8 x2 x3 x4 s0 = some o → J K (wX g) 6 (QI K g (wX g) o) 50 [(0, .ref (g.1 29)), (1, .ref (g.1 8)), (2, .int x2), (3, .int x3), (4, .int x4)] [] s0 := by
  intro x2 x3 x4 s0 h
  unfold X2_firstThatFits_l50 at h
  refine j_goto (tgt := 8) hC dX2_firstThatFits_50 (by decide) ?_
  refine j_sub [0, 1, 2, 3, 4] rfl ?_
  exact hk8 x2 x3 x4 s0 h
set_option maxRecDepth 20000 in
def X2_firstThatFits_l8 (N : Nat) : Nat → Int32 → Int32 → Int32 → St → Option (Int32 × St)
  | 0 => fun _ _ _ _ => none
  | n + 1 => fun x2 x3 x4 s0 =>
  if x4 ≤ x3 then
  some (x3, s0)
  else
  bnd (iushr (x3 + x4) 1) fun v1 =>
    ald s0 29 24 v1 fun v2 =>
    ald s0 4 24 v2 fun v3 =>
    if v3 ≤ x2 then
    X2_firstThatFits_l50 N (X2_firstThatFits_l8 N n) x2 x3 v1 s0
    else
    bnd (v1 + 1) fun v4 =>
      X2_firstThatFits_l50 N (X2_firstThatFits_l8 N n) x2 v4 x4 s0
set_option maxRecDepth 20000 in
theorem X2_firstThatFits_l8_ok {K : Kx} {g : Gm} {N : Nat} {o : Int32 × St} (hC : Ok K cX2_firstThatFits RX2 g 6 0 (some .int)) : ∀ (n : Nat) (x2 : Int32) (x3 : Int32) (x4 : Int32) (s0 : St), X2_firstThatFits_l8 N n x2 x3 x4 s0 = some o → J K (wX g) 6 (QI K g (wX g) o) 8 [(0, .ref (g.1 29)), (1, .ref (g.1 8)), (2, .int x2), (3, .int x3), (4, .int x4)] [] s0 := by
  intro n
  induction n with
  | zero => intro x2 x3 x4 s0 h; cases h
  | succ n ih =>
    intro x2 x3 x4 s0 h
    rw [X2_firstThatFits_l8] at h
    refine j_iload_n hC dX2_firstThatFits_8 rfl 3 rfl ?_
    refine j_iload hC dX2_firstThatFits_9 4 rfl ?_
    refine j_icmp_ge (tgt := 53) hC dX2_firstThatFits_11 (by decide) h ?_ ?_
    · intro h
      refine j_iload_n hC dX2_firstThatFits_53 rfl 3 rfl ?_
      exact j_iret hC dX2_firstThatFits_54 rfl h
    · intro h
      refine j_iload_n hC dX2_firstThatFits_14 rfl 3 rfl ?_
      refine j_iload hC dX2_firstThatFits_15 4 rfl ?_
      refine j_iadd hC dX2_firstThatFits_17 ?_
      refine j_iconst (v := 1) hC dX2_firstThatFits_18 (by decide) ?_
      refine j_iushr hC dX2_firstThatFits_19 ?_
      refine j_bi (E := iushr (x3 + x4) 1) h (fun v1 h => ?_)
      refine j_istore hC dX2_firstThatFits_20 (by decide) rfl ?_
      refine j_aload_n hC dX2_firstThatFits_22 rfl 2 rfl ?_
      refine j_pc (n2 := 23) rfl ?_
      refine get_X2_116 hC dX2_firstThatFits_23 ?_
      refine j_aload_n hC dX2_firstThatFits_26 rfl 1 rfl ?_
      refine get_X2_30 hC dX2_firstThatFits_27 ?_
      refine j_iload hC dX2_firstThatFits_30 0 rfl ?_
      refine ald_X2_longestFirst hC dX2_firstThatFits_32 h ?_
      intro v2 h
      refine ald_X4_seconds hC dX2_firstThatFits_33 h ?_
      intro v3 h
      refine j_iload_n hC dX2_firstThatFits_34 rfl 3 rfl ?_
      refine j_icmp_le (tgt := 46) hC dX2_firstThatFits_35 (by decide) h ?_ ?_
      · intro h
        refine j_iload hC dX2_firstThatFits_46 0 rfl ?_
        refine j_istore hC dX2_firstThatFits_48 (by decide) rfl ?_
        refine j_sub [2, 3, 4, 5, 0] rfl ?_
        exact X2_firstThatFits_l50_ok hC ih x2 x3 v1 s0 h
      · intro h
        refine j_iload hC dX2_firstThatFits_38 0 rfl ?_
        refine j_iconst (v := 1) hC dX2_firstThatFits_40 (by decide) ?_
        refine j_iadd hC dX2_firstThatFits_41 ?_
        refine j_bi (E := v1 + 1) h (fun v4 h => ?_)
        refine j_istore_n hC dX2_firstThatFits_42 rfl (by decide) rfl ?_
        refine j_goto (tgt := 50) hC dX2_firstThatFits_43 (by decide) ?_
        refine j_sub [2, 3, 4, 0, 5] rfl ?_
        exact X2_firstThatFits_l50_ok hC ih x2 v4 x4 s0 h
set_option maxRecDepth 20000 in
def X2_firstThatFits_f (N : Nat) (x2 : Int32) (s0 : St) : Option (Int32 × St) :=
  bnd (gi s0 17) fun v1 =>
  X2_firstThatFits_l8 N N x2 0 v1 s0
set_option maxRecDepth 20000 in
theorem X2_firstThatFits_ok (l : Launch) (D : va_G) (g : Gm) {N : Nat} {x2 : Int32} {s0 : St} {o : Int32 × St} (h : X2_firstThatFits_f N x2 s0 = some o) : MI l yX2_firstThatFits cX2_firstThatFits 6 (some .int) 0 D g (wX g) [.ref (g.1 29), .ref (g.1 8), .int x2] s0 o := by
  refine met_I (own := RX2) (by decide) rfl (Nat.le_of_ble_eq_true rfl) (fun K hC => ?_)
  show J K (wX g) 6 (QI K g (wX g) o) 0 [(0, .ref (g.1 29)), (1, .ref (g.1 8)), (2, .int x2)] [] s0
  unfold X2_firstThatFits_f at h
  refine j_iconst (v := 0) hC dX2_firstThatFits_0 (by decide) ?_
  refine j_istore_n hC dX2_firstThatFits_1 rfl (by decide) rfl ?_
  refine j_aload_n hC dX2_firstThatFits_2 rfl 1 rfl ?_
  refine get_X2_97 hC dX2_firstThatFits_3 ?_
  refine j_bi (E := gi s0 17) h (fun v1 h => ?_)
  refine j_istore hC dX2_firstThatFits_6 (by decide) rfl ?_
  refine j_sub [2, 3, 4, 1, 0] rfl ?_
  exact X2_firstThatFits_l8_ok hC N x2 0 v1 s0 h
set_option maxRecDepth 20000 in
def X2_stepsApart_f (N : Nat) (x0 : Int32) (x1 : Int32) (s0 : St) : Option (Int32 × St) :=
  bnd (iabs (x0 - x1)) fun v1 =>
  some (imin v1 ((12 : Int32) - v1), s0)
set_option maxRecDepth 20000 in
theorem X2_stepsApart_ok (l : Launch) (D : va_G) (g : Gm) {N : Nat} {x0 : Int32} {x1 : Int32} {s0 : St} {o : Int32 × St} (h : X2_stepsApart_f N x0 x1 s0 = some o) : MI l yX2_stepsApart cX2_stepsApart 3 (some .int) 1 D g (wX g) [.int x0, .int x1] s0 o := by
  refine met_I (own := RX2) (by decide) rfl (Nat.le_of_ble_eq_true rfl) (fun K hC => ?_)
  show J K (wX g) 3 (QI K g (wX g) o) 0 [(0, .int x0), (1, .int x1)] [] s0
  unfold X2_stepsApart_f at h
  refine j_iload_n hC dX2_stepsApart_0 rfl 0 rfl ?_
  refine j_iload_n hC dX2_stepsApart_1 rfl 1 rfl ?_
  refine j_isub hC dX2_stepsApart_2 ?_
  refine mt_X2_156 hC (by decide) (Nat.le_of_ble_eq_true rfl) dX2_stepsApart_3 ?_
  refine j_bi (E := iabs (x0 - x1)) h (fun v1 h => ?_)
  refine j_istore_n hC dX2_stepsApart_6 rfl (by decide) rfl ?_
  refine j_iload_n hC dX2_stepsApart_7 rfl 0 rfl ?_
  refine j_bipush (v := 12) hC dX2_stepsApart_8 (by decide) ?_
  refine j_pc (n2 := 10) rfl ?_
  refine j_iload_n hC dX2_stepsApart_10 rfl 0 rfl ?_
  refine j_isub hC dX2_stepsApart_11 ?_
  refine mt_X2_51 hC (by decide) (Nat.le_of_ble_eq_true rfl) dX2_stepsApart_12 ?_
  exact j_iret hC dX2_stepsApart_15 rfl h
set_option maxRecDepth 20000 in
def X2_mayBegin_l49 (N : Nat) (s0 : St) : Option (Int32 × St) :=
  some (1, s0)
set_option maxRecDepth 20000 in
theorem X2_mayBegin_l49_ok {K : Kx} {g : Gm} {N : Nat} {o : Int32 × St} (hC : Ok K cX2_mayBegin RX2 g 5 2 (some .boolean)) : ∀ (s0 : St), X2_mayBegin_l49 N  s0 = some o → J K (wX g) 5 (QI K g (wX g) o) 49 [] [] s0 := by
  intro  s0 h
  unfold X2_mayBegin_l49 at h
  refine j_iconst (v := 1) hC dX2_mayBegin_49 (by decide) ?_
  refine j_goto (tgt := 54) hC dX2_mayBegin_50 (by decide) ?_
  exact j_iret hC dX2_mayBegin_54 rfl h
set_option maxRecDepth 20000 in
def X2_mayBegin_f (N : Nat) (x2 : Int32) (x3 : Int32) (x4 : Int32) (s0 : St) : Option (Int32 × St) :=
  ald s0 26 24 x2 fun v1 =>
  if x3 < v1 then
  some (0, s0)
  else
  ald s0 5 24 x2 fun v2 =>
    ald s0 27 12 v2 fun v3 =>
    if x3 < v3 then
    some (0, s0)
    else
    if x4 = (-1) then
      X2_mayBegin_l49 N s0
      else
      ald s0 6 24 x2 fun v4 =>
        cal (X2_stepsApart_f N x4 v4 s0) fun v5 s1 =>
        if gi s1 22 < v5 then
        some (0, s1)
        else
        X2_mayBegin_l49 N s1
set_option maxRecDepth 20000 in
theorem X2_mayBegin_ok (l : Launch) (D : va_G) (g : Gm) {N : Nat} {x2 : Int32} {x3 : Int32} {x4 : Int32} {s0 : St} {o : Int32 × St} (h : X2_mayBegin_f N x2 x3 x4 s0 = some o) : MI l yX2_mayBegin cX2_mayBegin 5 (some .boolean) 2 D g (wX g) [.ref (g.1 29), .ref (g.1 8), .int x2, .int x3, .int x4] s0 o := by
  refine met_I (own := RX2) (by decide) rfl (Nat.le_of_ble_eq_true rfl) (fun K hC => ?_)
  show J K (wX g) 5 (QI K g (wX g) o) 0 [(0, .ref (g.1 29)), (1, .ref (g.1 8)), (2, .int x2), (3, .int x3), (4, .int x4)] [] s0
  unfold X2_mayBegin_f at h
  refine j_iload_n hC dX2_mayBegin_0 rfl 3 rfl ?_
  refine j_aload_n hC dX2_mayBegin_1 rfl 0 rfl ?_
  refine get_X2_21 hC dX2_mayBegin_2 ?_
  refine j_iload_n hC dX2_mayBegin_5 rfl 2 rfl ?_
  refine ald_X2_songFree hC dX2_mayBegin_6 h ?_
  intro v1 h
  refine j_icmp_lt (tgt := 53) hC dX2_mayBegin_7 (by decide) h ?_ ?_
  · intro h
    refine j_iconst (v := 0) hC dX2_mayBegin_53 (by decide) ?_
    exact j_iret hC dX2_mayBegin_54 rfl h
  · intro h
    refine j_iload_n hC dX2_mayBegin_10 rfl 3 rfl ?_
    refine j_aload_n hC dX2_mayBegin_11 rfl 0 rfl ?_
    refine get_X2_24 hC dX2_mayBegin_12 ?_
    refine j_aload_n hC dX2_mayBegin_15 rfl 1 rfl ?_
    refine get_X2_125 hC dX2_mayBegin_16 ?_
    refine j_iload_n hC dX2_mayBegin_19 rfl 2 rfl ?_
    refine ald_X4_artist hC dX2_mayBegin_20 h ?_
    intro v2 h
    refine j_pc (n2 := 21) rfl ?_
    refine ald_X2_artistFree hC dX2_mayBegin_21 h ?_
    intro v3 h
    refine j_icmp_lt (tgt := 53) hC dX2_mayBegin_22 (by decide) h ?_ ?_
    · intro h
      refine j_iconst (v := 0) hC dX2_mayBegin_53 (by decide) ?_
      exact j_iret hC dX2_mayBegin_54 rfl h
    · intro h
      refine j_iload hC dX2_mayBegin_25 4 rfl ?_
      refine j_iconst (v := (-1)) hC dX2_mayBegin_27 (by decide) ?_
      refine j_icmp_eq (tgt := 49) hC dX2_mayBegin_28 (by decide) h ?_ ?_
      · intro h
        refine j_sub [] rfl ?_
        exact X2_mayBegin_l49_ok hC s0 h
      · intro h
        refine j_iload hC dX2_mayBegin_31 4 rfl ?_
        refine j_aload_n hC dX2_mayBegin_33 rfl 1 rfl ?_
        refine get_X2_146 hC dX2_mayBegin_34 ?_
        refine j_iload_n hC dX2_mayBegin_37 rfl 2 rfl ?_
        refine ald_X4_key hC dX2_mayBegin_38 h ?_
        intro v4 h
        obtain ⟨v5, s1, hc, h⟩ := cal_some h
        refine call_X2_153 hC (fun l D => X2_stepsApart_ok l D g hc) (by decide) (Nat.le_of_ble_eq_true rfl) dX2_mayBegin_39 ?_
        refine j_aload_n hC dX2_mayBegin_42 rfl 0 rfl ?_
        refine j_pc (n2 := 43) rfl ?_
        refine get_X2_45 hC dX2_mayBegin_43 ?_
        refine j_icmp_gt (tgt := 53) hC dX2_mayBegin_46 (by decide) h ?_ ?_
        · intro h
          refine j_iconst (v := 0) hC dX2_mayBegin_53 (by decide) ?_
          exact j_iret hC dX2_mayBegin_54 rfl h
        · intro h
          refine j_sub [] rfl ?_
          exact X2_mayBegin_l49_ok hC s1 h
set_option maxRecDepth 20000 in
def X2_tryLast_l107 (N : Nat) (k17 : Int32 → Int32 → Int32 → Int32 → Int32 → Int32 → Int32 → St → Option (Int32 × St)) (x2 : Int32) (x3 : Int32) (x4 : Int32) (x5 : Int32) (x6 : Int32) (x7 : Int32) (x8 : Int32) (s0 : St) : Option (Int32 × St) :=
  bnd (x8 + 1) fun v1 =>
  k17 x2 x3 x4 x5 x6 x7 v1 s0
set_option maxRecDepth 20000 in
theorem X2_tryLast_l107_ok {K : Kx} {g : Gm} {N : Nat} {o : Int32 × St} (hC : Ok K cX2_tryLast RX2 g 11 3 none) {k17 : Int32 → Int32 → Int32 → Int32 → Int32 → Int32 → Int32 → St → Option (Int32 × St)} (hk17 : ∀ (x2 : Int32) (x3 : Int32) (x4 : Int32) (x5 : Int32) (x6 : Int32) (x7 : Int32) (x8 : Int32) (s0 : St), k17 x2 x3 x4 x5 x6 x7 x8 s0 = some o → J K (wX g) 11 (QV K g (wX g) o) 17 [(0, .ref (g.1 29)), (1, .ref (g.1 8)), (2, .int x2), (3, .int x3), (4, .int x4), (5, .int x5), (6, .int x6), (7, .int x7), (8, .int x8)] [] s0) : ∀ (x2 : Int32) (x3 : Int32) (x4 : Int32) (x5 : Int32) (x6 : Int32) (x7 : Int32) (x8 : Int32) (s0 : St), X2_tryLast_l107 N k17 x2 x3 x4 x5 x6 x7 x8 s0 = some o → J K (wX g) 11 (QV K g (wX g) o) 107 [(0, .ref (g.1 29)), (1, .ref (g.1 8)), (2, .int x2), (3, .int x3), (4, .int x4), (5, .int x5), (6, .int x6), (7, .int x7), (8, .int x8)] [] s0 := by
  intro x2 x3 x4 x5 x6 x7 x8 s0 h
  unfold X2_tryLast_l107 at h
  refine j_iincb (n2 := 1) (k0 := 8) (lv2 := fun z => [(8, .int z), (0, .ref (g.1 29)), (1, .ref (g.1 8)), (2, .int x2), (3, .int x3), (4, .int x4), (5, .int x5), (6, .int x6), (7, .int x7)]) hC dX2_tryLast_107 rfl (by decide) (by decide) (fun _ => rfl) h (fun v1 h => ?_)
  refine j_goto (tgt := 17) hC dX2_tryLast_110 (by decide) ?_
  refine j_sub [1, 2, 3, 4, 5, 6, 7, 8, 0] rfl ?_
  exact hk17 x2 x3 x4 x5 x6 x7 v1 s0 h
set_option maxRecDepth 20000 in
def X2_tryLast_l17 (N : Nat) : Nat → Int32 → Int32 → Int32 → Int32 → Int32 → Int32 → Int32 → St → Option (Int32 × St)
  | 0 => fun _ _ _ _ _ _ _ _ => none
  | n + 1 => fun x2 x3 x4 x5 x6 x7 x8 s0 =>
  if gi s0 17 ≤ x8 then
  some (0, s0)
  else
  ald s0 29 24 x8 fun v1 =>
    ald s0 4 24 v1 fun v2 =>
    bnd (x7 - v2) fun v3 =>
    if v3 ≤ gi s0 15 then
    cal (X2_mayBegin_f N v1 x3 x4 s0) fun v4 s1 =>
      if v4 = 0 then
      X2_tryLast_l107 N (X2_tryLast_l17 N n) x2 x3 x4 x5 x6 x7 x8 s1
      else
      ast s1 24 4 x2 v1 fun s2 =>
        ald s2 25 24 v1 fun v5 =>
        ald s2 8 24 v1 fun v6 =>
        cal (X2_compare_f N (x2 + 1) v3 (x5 + v5) (x6 + v6) s2) fun _ s3 =>
        X2_tryLast_l107 N (X2_tryLast_l17 N n) x2 x3 x4 x5 x6 x7 x8 s3
    else
    some (0, s0)
set_option maxRecDepth 20000 in
theorem X2_tryLast_l17_ok {K : Kx} {g : Gm} {N : Nat} {o : Int32 × St} (hC : Ok K cX2_tryLast RX2 g 11 3 none) : ∀ (n : Nat) (x2 : Int32) (x3 : Int32) (x4 : Int32) (x5 : Int32) (x6 : Int32) (x7 : Int32) (x8 : Int32) (s0 : St), X2_tryLast_l17 N n x2 x3 x4 x5 x6 x7 x8 s0 = some o → J K (wX g) 11 (QV K g (wX g) o) 17 [(0, .ref (g.1 29)), (1, .ref (g.1 8)), (2, .int x2), (3, .int x3), (4, .int x4), (5, .int x5), (6, .int x6), (7, .int x7), (8, .int x8)] [] s0 := by
  intro n
  induction n with
  | zero => intro x2 x3 x4 x5 x6 x7 x8 s0 h; cases h
  | succ n ih =>
    intro x2 x3 x4 x5 x6 x7 x8 s0 h
    rw [X2_tryLast_l17] at h
    refine j_iload hC dX2_tryLast_17 8 rfl ?_
    refine j_aload_n hC dX2_tryLast_19 rfl 0 rfl ?_
    refine get_X2_97 hC dX2_tryLast_20 ?_
    refine j_icmp_ge (tgt := 113) hC dX2_tryLast_23 (by decide) h ?_ ?_
    · intro h
      exact j_vret (v := 0) hC dX2_tryLast_113 h
    · intro h
      refine j_aload_n hC dX2_tryLast_26 rfl 0 rfl ?_
      refine get_X2_30 hC dX2_tryLast_27 ?_
      refine j_iload hC dX2_tryLast_30 8 rfl ?_
      refine ald_X2_longestFirst hC dX2_tryLast_32 h ?_
      intro v1 h
      refine j_istore hC dX2_tryLast_33 (by decide) rfl ?_
      refine j_iload hC dX2_tryLast_35 8 rfl ?_
      refine j_aload_n hC dX2_tryLast_37 rfl 2 rfl ?_
      refine j_pc (n2 := 38) rfl ?_
      refine get_X2_116 hC dX2_tryLast_38 ?_
      refine j_iload hC dX2_tryLast_41 0 rfl ?_
      refine ald_X4_seconds hC dX2_tryLast_43 h ?_
      intro v2 h
      refine j_isub hC dX2_tryLast_44 ?_
      refine j_bi (E := x7 - v2) h (fun v3 h => ?_)
      refine j_istore hC dX2_tryLast_45 (by decide) rfl ?_
      refine j_iload hC dX2_tryLast_47 0 rfl ?_
      refine j_aload_n hC dX2_tryLast_49 rfl 2 rfl ?_
      refine get_X2_77 hC dX2_tryLast_50 ?_
      refine j_pc (n2 := 53) rfl ?_
      refine j_icmp_le (tgt := 57) hC dX2_tryLast_53 (by decide) h ?_ ?_
      · intro h
        refine j_aload_n hC dX2_tryLast_57 rfl 2 rfl ?_
        refine j_aload_n hC dX2_tryLast_58 rfl 3 rfl ?_
        refine j_iload hC dX2_tryLast_59 1 rfl ?_
        refine j_iload_n hC dX2_tryLast_61 rfl 5 rfl ?_
        refine j_iload hC dX2_tryLast_62 6 rfl ?_
        obtain ⟨v4, s1, hc, h⟩ := cal_some h
        refine call_X2_135 hC (fun l D => X2_mayBegin_ok l D g hc) (by decide) (Nat.le_of_ble_eq_true rfl) dX2_tryLast_64 ?_
        refine j_if_eq (tgt := 107) hC dX2_tryLast_67 (by decide) h ?_ ?_
        · intro h
          refine j_sub [2, 3, 4, 5, 6, 7, 8, 9, 10] rfl ?_
          exact X2_tryLast_l107_ok hC ih x2 x3 x4 x5 x6 x7 x8 s1 h
        · intro h
          refine j_aload_n hC dX2_tryLast_70 rfl 2 rfl ?_
          refine get_X2_15 hC dX2_tryLast_71 ?_
          refine j_iload_n hC dX2_tryLast_74 rfl 4 rfl ?_
          refine j_iload hC dX2_tryLast_75 1 rfl ?_
          refine ast_X2_row hC dX2_tryLast_77 h ?_
          intro s2 h
          refine j_aload_n hC dX2_tryLast_78 rfl 2 rfl ?_
          refine j_iload_n hC dX2_tryLast_79 rfl 4 rfl ?_
          refine j_pc (n2 := 80) rfl ?_
          refine j_iconst (v := 1) hC dX2_tryLast_80 (by decide) ?_
          refine j_iadd hC dX2_tryLast_81 ?_
          refine j_iload hC dX2_tryLast_82 0 rfl ?_
          refine j_iload hC dX2_tryLast_84 7 rfl ?_
          refine j_aload_n hC dX2_tryLast_86 rfl 2 rfl ?_
          refine get_X2_18 hC dX2_tryLast_87 ?_
          refine j_iload hC dX2_tryLast_90 1 rfl ?_
          refine ald_X2_heat hC dX2_tryLast_92 h ?_
          intro v5 h
          refine j_pc (n2 := 93) rfl ?_
          refine j_iadd hC dX2_tryLast_93 ?_
          refine j_iload hC dX2_tryLast_94 8 rfl ?_
          refine j_aload_n hC dX2_tryLast_96 rfl 3 rfl ?_
          refine get_X2_122 hC dX2_tryLast_97 ?_
          refine j_iload hC dX2_tryLast_100 1 rfl ?_
          refine ald_X4_newness hC dX2_tryLast_102 h ?_
          intro v6 h
          refine j_iadd hC dX2_tryLast_103 ?_
          obtain ⟨v7, s3, hc, h⟩ := cal_some h
          refine call_X2_142 hC (fun l D => X2_compare_ok l D g hc) (by decide) (Nat.le_of_ble_eq_true rfl) dX2_tryLast_104 ?_
          refine j_sub [2, 3, 4, 5, 6, 7, 8, 9, 10] rfl ?_
          exact X2_tryLast_l107_ok hC ih x2 x3 x4 x5 x6 x7 x8 s3 h
      · intro h
        exact j_vret (v := 0) hC dX2_tryLast_56 h
set_option maxRecDepth 20000 in
def X2_tryLast_f (N : Nat) (x2 : Int32) (x3 : Int32) (x4 : Int32) (x5 : Int32) (x6 : Int32) (s0 : St) : Option (Int32 × St) :=
  bnd ((gi s0 25) - x3) fun v1 =>
  cal (X2_firstThatFits_f N v1 s0) fun v2 s1 =>
  X2_tryLast_l17 N N x2 x3 x4 x5 x6 v1 v2 s1
set_option maxRecDepth 20000 in
theorem X2_tryLast_ok (l : Launch) (D : va_G) (g : Gm) {N : Nat} {x2 : Int32} {x3 : Int32} {x4 : Int32} {x5 : Int32} {x6 : Int32} {s0 : St} {o : Int32 × St} (h : X2_tryLast_f N x2 x3 x4 x5 x6 s0 = some o) : MV l yX2_tryLast cX2_tryLast 11 none 3 D g (wX g) [.ref (g.1 29), .ref (g.1 8), .int x2, .int x3, .int x4, .int x5, .int x6] s0 o := by
  refine met_V (own := RX2) (by decide) rfl (Nat.le_of_ble_eq_true rfl) (fun K hC => ?_)
  show J K (wX g) 11 (QV K g (wX g) o) 0 [(0, .ref (g.1 29)), (1, .ref (g.1 8)), (2, .int x2), (3, .int x3), (4, .int x4), (5, .int x5), (6, .int x6)] [] s0
  unfold X2_tryLast_f at h
  refine j_aload_n hC dX2_tryLast_0 rfl 0 rfl ?_
  refine get_X2_68 hC dX2_tryLast_1 ?_
  refine j_iload_n hC dX2_tryLast_4 rfl 3 rfl ?_
  refine j_isub hC dX2_tryLast_5 ?_
  refine j_bi (E := (gi s0 25) - x3) h (fun v1 h => ?_)
  refine j_istore hC dX2_tryLast_6 (by decide) rfl ?_
  refine j_aload_n hC dX2_tryLast_8 rfl 1 rfl ?_
  refine j_aload_n hC dX2_tryLast_9 rfl 2 rfl ?_
  refine j_pc (n2 := 10) rfl ?_
  refine j_iload hC dX2_tryLast_10 0 rfl ?_
  obtain ⟨v2, s1, hc, h⟩ := cal_some h
  refine call_X2_149 hC (fun l D => X2_firstThatFits_ok l D g hc) (by decide) (Nat.le_of_ble_eq_true rfl) dX2_tryLast_12 ?_
  refine j_istore hC dX2_tryLast_15 (by decide) rfl ?_
  refine j_sub [2, 3, 4, 5, 6, 7, 8, 1, 0] rfl ?_
  exact X2_tryLast_l17_ok hC N x2 x3 x4 x5 x6 v1 v2 s1 h
