set_option maxRecDepth 20000 in
def X5_hasRoomForFive_f (N : Nat) (s0 : St) : Option (Int32 × St) :=
  if 240 < gi s0 0 then
  some (0, s0)
  else
  some (1, s0)
set_option maxRecDepth 20000 in
theorem X5_hasRoomForFive_ok (l : Launch) (D : va_G) (g : Gm) {N : Nat} {s0 : St} {o : Int32 × St} (h : X5_hasRoomForFive_f N s0 = some o) : MI l yX5_hasRoomForFive cX5_hasRoomForFive 1 (some .boolean) 0 D g (wX g) [.ref (g.1 2)] s0 o := by
  refine met_I (own := RX5) (by decide) rfl (Nat.le_of_ble_eq_true rfl) (fun K hC => ?_)
  show J K (wX g) 1 (QI K g (wX g) o) 0 [(0, .ref (g.1 2))] [] s0
  unfold X5_hasRoomForFive_f at h
  refine j_aload_n hC dX5_hasRoomForFive_0 rfl 0 rfl ?_
  refine get_X5_13 hC dX5_hasRoomForFive_1 ?_
  refine j_sipush (v := 240) hC dX5_hasRoomForFive_4 (by decide) ?_
  refine j_icmp_gt (tgt := 14) hC dX5_hasRoomForFive_7 (by decide) h ?_ ?_
  · intro h
    refine j_iconst (v := 0) hC dX5_hasRoomForFive_14 (by decide) ?_
    exact j_iret hC dX5_hasRoomForFive_15 rfl h
  · intro h
    refine j_iconst (v := 1) hC dX5_hasRoomForFive_10 (by decide) ?_
    refine j_goto (tgt := 15) hC dX5_hasRoomForFive_11 (by decide) ?_
    exact j_iret hC dX5_hasRoomForFive_15 rfl h
set_option maxRecDepth 20000 in
def X5_append_l3 (N : Nat) : Nat → Int32 → Int32 → St → Option (Int32 × St)
  | 0 => fun _ _ _ => none
  | n + 1 => fun x1 x2 s0 =>
  if x2 < 0 then
  some (0, s0)
  else
  if 260 ≤ gi s0 0 then
    some (0, s0)
    else
    ast s0 0 260 (gi s0 0) (vp_nar .byte ((iushr x1 x2).toInt8.toInt32)) fun s1 =>
      bnd (si s1 0 ((gi s1 0) + 1)) fun s2 =>
      bnd (x2 + (-8)) fun v1 =>
      (X5_append_l3 N n) x1 v1 s2
set_option maxRecDepth 20000 in
theorem X5_append_l3_ok {K : Kx} {g : Gm} {N : Nat} {o : Int32 × St} (hC : Ok K cX5_append RX5 g 3 0 none) : ∀ (n : Nat) (x1 : Int32) (x2 : Int32) (s0 : St), X5_append_l3 N n x1 x2 s0 = some o → J K (wX g) 3 (QV K g (wX g) o) 3 [(0, .ref (g.1 2)), (1, .int x1), (2, .int x2)] [] s0 := by
  intro n
  induction n with
  | zero => intro x1 x2 s0 h; cases h
  | succ n ih =>
    intro x1 x2 s0 h
    rw [X5_append_l3] at h
    refine j_iload_n hC dX5_append_3 rfl 2 rfl ?_
    refine j_if_lt (tgt := 46) hC dX5_append_4 (by decide) h ?_ ?_
    · intro h
      exact j_vret (v := 0) hC dX5_append_46 h
    · intro h
      refine j_aload_n hC dX5_append_7 rfl 0 rfl ?_
      refine get_X5_13 hC dX5_append_8 ?_
      refine j_sipush (v := 260) hC dX5_append_11 (by decide) ?_
      refine j_icmp_ge (tgt := 46) hC dX5_append_14 (by decide) h ?_ ?_
      · intro h
        exact j_vret (v := 0) hC dX5_append_46 h
      · intro h
        refine j_aload_n hC dX5_append_17 rfl 0 rfl ?_
        refine get_X5_9 hC dX5_append_18 ?_
        refine j_aload_n hC dX5_append_21 rfl 0 rfl ?_
        refine get_X5_13 hC dX5_append_22 ?_
        refine j_iload_n hC dX5_append_25 rfl 1 rfl ?_
        refine j_iload_n hC dX5_append_26 rfl 2 rfl ?_
        refine j_iushr hC dX5_append_27 ?_
        refine j_pc (n2 := 28) rfl ?_
        refine j_i2b hC dX5_append_28 ?_
        refine ast_X5_bytes hC dX5_append_29 h ?_
        intro s1 h
        refine j_aload_n hC dX5_append_30 rfl 0 rfl ?_
        refine j_dup hC rfl dX5_append_31 ?_
        refine get_X5_13 hC dX5_append_32 ?_
        refine j_iconst (v := 1) hC dX5_append_35 (by decide) ?_
        refine j_iadd hC dX5_append_36 ?_
        refine put_X5_13 hC dX5_append_37 h ?_
        intro s2 h
        refine j_pc (n2 := 40) rfl ?_
        refine j_iincb (n2 := (-8)) (k0 := 2) (lv2 := fun z => [(2, .int z), (0, .ref (g.1 2)), (1, .int x1)]) hC dX5_append_40 rfl (by decide) (by decide) (fun _ => rfl) h (fun v1 h => ?_)
        refine j_goto (tgt := 3) hC dX5_append_43 (by decide) ?_
        refine j_sub [1, 2, 0] rfl ?_
        exact ih x1 v1 s2 h
set_option maxRecDepth 20000 in
def X5_append_f (N : Nat) (x1 : Int32) (s0 : St) : Option (Int32 × St) :=
  X5_append_l3 N N x1 24 s0
set_option maxRecDepth 20000 in
theorem X5_append_ok (l : Launch) (D : va_G) (g : Gm) {N : Nat} {x1 : Int32} {s0 : St} {o : Int32 × St} (h : X5_append_f N x1 s0 = some o) : MV l yX5_append cX5_append 3 none 0 D g (wX g) [.ref (g.1 2), .int x1] s0 o := by
  refine met_V (own := RX5) (by decide) rfl (Nat.le_of_ble_eq_true rfl) (fun K hC => ?_)
  show J K (wX g) 3 (QV K g (wX g) o) 0 [(0, .ref (g.1 2)), (1, .int x1)] [] s0
  unfold X5_append_f at h
  refine j_bipush (v := 24) hC dX5_append_0 (by decide) ?_
  refine j_istore_n hC dX5_append_2 rfl (by decide) rfl ?_
  refine j_sub [1, 2, 0] rfl ?_
  exact X5_append_l3_ok hC N x1 24 s0 h
set_option maxRecDepth 20000 in
def X5_isBlank_l12 (N : Nat) (s0 : St) : Option (Int32 × St) :=
  some (1, s0)
set_option maxRecDepth 20000 in
theorem X5_isBlank_l12_ok {K : Kx} {g : Gm} {N : Nat} {o : Int32 × St} (hC : Ok K cX5_isBlank RX5 g 1 0 (some .boolean)) : ∀ (s0 : St), X5_isBlank_l12 N  s0 = some o → J K (wX g) 1 (QI K g (wX g) o) 12 [] [] s0 := by
  intro  s0 h
  unfold X5_isBlank_l12 at h
  refine j_iconst (v := 1) hC dX5_isBlank_12 (by decide) ?_
  refine j_goto (tgt := 17) hC dX5_isBlank_13 (by decide) ?_
  exact j_iret hC dX5_isBlank_17 rfl h
set_option maxRecDepth 20000 in
def X5_isBlank_f (N : Nat) (x0 : Int32) (s0 : St) : Option (Int32 × St) :=
  if x0 = 32 then
  X5_isBlank_l12 N s0
  else
  if x0 = 10 then
    X5_isBlank_l12 N s0
    else
    some (0, s0)
set_option maxRecDepth 20000 in
theorem X5_isBlank_ok (l : Launch) (D : va_G) (g : Gm) {N : Nat} {x0 : Int32} {s0 : St} {o : Int32 × St} (h : X5_isBlank_f N x0 s0 = some o) : MI l yX5_isBlank cX5_isBlank 1 (some .boolean) 0 D g (wX g) [.int x0] s0 o := by
  refine met_I (own := RX5) (by decide) rfl (Nat.le_of_ble_eq_true rfl) (fun K hC => ?_)
  show J K (wX g) 1 (QI K g (wX g) o) 0 [(0, .int x0)] [] s0
  unfold X5_isBlank_f at h
  refine j_iload_n hC dX5_isBlank_0 rfl 0 rfl ?_
  refine j_bipush (v := 32) hC dX5_isBlank_1 (by decide) ?_
  refine j_icmp_eq (tgt := 12) hC dX5_isBlank_3 (by decide) h ?_ ?_
  · intro h
    refine j_sub [] rfl ?_
    exact X5_isBlank_l12_ok hC s0 h
  · intro h
    refine j_iload_n hC dX5_isBlank_6 rfl 0 rfl ?_
    refine j_bipush (v := 10) hC dX5_isBlank_7 (by decide) ?_
    refine j_icmp_ne (tgt := 16) hC dX5_isBlank_9 (by decide) h ?_ ?_
    · intro h
      refine j_iconst (v := 0) hC dX5_isBlank_16 (by decide) ?_
      exact j_iret hC dX5_isBlank_17 rfl h
    · intro h
      refine j_sub [] rfl ?_
      exact X5_isBlank_l12_ok hC s0 h
set_option maxRecDepth 20000 in
def X5_isDigit_f (N : Nat) (x0 : Int32) (s0 : St) : Option (Int32 × St) :=
  if x0 < 48 then
  some (0, s0)
  else
  if 57 < x0 then
    some (0, s0)
    else
    some (1, s0)
set_option maxRecDepth 20000 in
theorem X5_isDigit_ok (l : Launch) (D : va_G) (g : Gm) {N : Nat} {x0 : Int32} {s0 : St} {o : Int32 × St} (h : X5_isDigit_f N x0 s0 = some o) : MI l yX5_isDigit cX5_isDigit 1 (some .boolean) 0 D g (wX g) [.int x0] s0 o := by
  refine met_I (own := RX5) (by decide) rfl (Nat.le_of_ble_eq_true rfl) (fun K hC => ?_)
  show J K (wX g) 1 (QI K g (wX g) o) 0 [(0, .int x0)] [] s0
  unfold X5_isDigit_f at h
  refine j_iload_n hC dX5_isDigit_0 rfl 0 rfl ?_
  refine j_bipush (v := 48) hC dX5_isDigit_1 (by decide) ?_
  refine j_icmp_lt (tgt := 16) hC dX5_isDigit_3 (by decide) h ?_ ?_
  · intro h
    refine j_iconst (v := 0) hC dX5_isDigit_16 (by decide) ?_
    exact j_iret hC dX5_isDigit_17 rfl h
  · intro h
    refine j_iload_n hC dX5_isDigit_6 rfl 0 rfl ?_
    refine j_bipush (v := 57) hC dX5_isDigit_7 (by decide) ?_
    refine j_icmp_gt (tgt := 16) hC dX5_isDigit_9 (by decide) h ?_ ?_
    · intro h
      refine j_iconst (v := 0) hC dX5_isDigit_16 (by decide) ?_
      exact j_iret hC dX5_isDigit_17 rfl h
    · intro h
      refine j_iconst (v := 1) hC dX5_isDigit_12 (by decide) ?_
      refine j_goto (tgt := 17) hC dX5_isDigit_13 (by decide) ?_
      exact j_iret hC dX5_isDigit_17 rfl h
set_option maxRecDepth 20000 in
def X5_isLetter_f (N : Nat) (x0 : Int32) (s0 : St) : Option (Int32 × St) :=
  if x0 < 97 then
  some (0, s0)
  else
  if 122 < x0 then
    some (0, s0)
    else
    some (1, s0)
set_option maxRecDepth 20000 in
theorem X5_isLetter_ok (l : Launch) (D : va_G) (g : Gm) {N : Nat} {x0 : Int32} {s0 : St} {o : Int32 × St} (h : X5_isLetter_f N x0 s0 = some o) : MI l yX5_isLetter cX5_isLetter 1 (some .boolean) 0 D g (wX g) [.int x0] s0 o := by
  refine met_I (own := RX5) (by decide) rfl (Nat.le_of_ble_eq_true rfl) (fun K hC => ?_)
  show J K (wX g) 1 (QI K g (wX g) o) 0 [(0, .int x0)] [] s0
  unfold X5_isLetter_f at h
  refine j_iload_n hC dX5_isLetter_0 rfl 0 rfl ?_
  refine j_bipush (v := 97) hC dX5_isLetter_1 (by decide) ?_
  refine j_icmp_lt (tgt := 16) hC dX5_isLetter_3 (by decide) h ?_ ?_
  · intro h
    refine j_iconst (v := 0) hC dX5_isLetter_16 (by decide) ?_
    exact j_iret hC dX5_isLetter_17 rfl h
  · intro h
    refine j_iload_n hC dX5_isLetter_6 rfl 0 rfl ?_
    refine j_bipush (v := 122) hC dX5_isLetter_7 (by decide) ?_
    refine j_icmp_gt (tgt := 16) hC dX5_isLetter_9 (by decide) h ?_ ?_
    · intro h
      refine j_iconst (v := 0) hC dX5_isLetter_16 (by decide) ?_
      exact j_iret hC dX5_isLetter_17 rfl h
    · intro h
      refine j_iconst (v := 1) hC dX5_isLetter_12 (by decide) ?_
      refine j_goto (tgt := 17) hC dX5_isLetter_13 (by decide) ?_
      exact j_iret hC dX5_isLetter_17 rfl h
set_option maxRecDepth 20000 in
def X5_kindOf_l10 (N : Nat) (x0 : Int32) (x1 : Int32) (s0 : St) : Option (Int32 × St) :=
  if x0 = 0 then
  if x1 ≤ 0 then
    some (0, s0)
    else
    if 4 < x1 then
      some (0, s0)
      else
      some (3, s0)
  else
  some (0, s0)
set_option maxRecDepth 20000 in
theorem X5_kindOf_l10_ok {K : Kx} {g : Gm} {N : Nat} {o : Int32 × St} (hC : Ok K cX5_kindOf RX5 g 2 0 (some .int)) : ∀ (x0 : Int32) (x1 : Int32) (s0 : St), X5_kindOf_l10 N x0 x1 s0 = some o → J K (wX g) 2 (QI K g (wX g) o) 10 [(0, .int x0), (1, .int x1)] [] s0 := by
  intro x0 x1 s0 h
  unfold X5_kindOf_l10 at h
  refine j_iload_n hC dX5_kindOf_10 rfl 0 rfl ?_
  refine j_if_ne (tgt := 27) hC dX5_kindOf_11 (by decide) h ?_ ?_
  · intro h
    refine j_iconst (v := 0) hC dX5_kindOf_27 (by decide) ?_
    exact j_iret hC dX5_kindOf_28 rfl h
  · intro h
    refine j_iload_n hC dX5_kindOf_14 rfl 1 rfl ?_
    refine j_if_le (tgt := 27) hC dX5_kindOf_15 (by decide) h ?_ ?_
    · intro h
      refine j_iconst (v := 0) hC dX5_kindOf_27 (by decide) ?_
      exact j_iret hC dX5_kindOf_28 rfl h
    · intro h
      refine j_iload_n hC dX5_kindOf_18 rfl 1 rfl ?_
      refine j_iconst (v := 4) hC dX5_kindOf_19 (by decide) ?_
      refine j_icmp_gt (tgt := 27) hC dX5_kindOf_20 (by decide) h ?_ ?_
      · intro h
        refine j_iconst (v := 0) hC dX5_kindOf_27 (by decide) ?_
        exact j_iret hC dX5_kindOf_28 rfl h
      · intro h
        refine j_iconst (v := 3) hC dX5_kindOf_23 (by decide) ?_
        refine j_goto (tgt := 28) hC dX5_kindOf_24 (by decide) ?_
        exact j_iret hC dX5_kindOf_28 rfl h
set_option maxRecDepth 20000 in
def X5_kindOf_f (N : Nat) (x0 : Int32) (x1 : Int32) (s0 : St) : Option (Int32 × St) :=
  if x0 ≤ 0 then
  X5_kindOf_l10 N x0 x1 s0
  else
  if x1 = 0 then
    some (2, s0)
    else
    X5_kindOf_l10 N x0 x1 s0
set_option maxRecDepth 20000 in
theorem X5_kindOf_ok (l : Launch) (D : va_G) (g : Gm) {N : Nat} {x0 : Int32} {x1 : Int32} {s0 : St} {o : Int32 × St} (h : X5_kindOf_f N x0 x1 s0 = some o) : MI l yX5_kindOf cX5_kindOf 2 (some .int) 0 D g (wX g) [.int x0, .int x1] s0 o := by
  refine met_I (own := RX5) (by decide) rfl (Nat.le_of_ble_eq_true rfl) (fun K hC => ?_)
  show J K (wX g) 2 (QI K g (wX g) o) 0 [(0, .int x0), (1, .int x1)] [] s0
  unfold X5_kindOf_f at h
  refine j_iload_n hC dX5_kindOf_0 rfl 0 rfl ?_
  refine j_if_le (tgt := 10) hC dX5_kindOf_1 (by decide) h ?_ ?_
  · intro h
    refine j_sub [0, 1] rfl ?_
    exact X5_kindOf_l10_ok hC x0 x1 s0 h
  · intro h
    refine j_iload_n hC dX5_kindOf_4 rfl 1 rfl ?_
    refine j_if_ne (tgt := 10) hC dX5_kindOf_5 (by decide) h ?_ ?_
    · intro h
      refine j_sub [0, 1] rfl ?_
      exact X5_kindOf_l10_ok hC x0 x1 s0 h
    · intro h
      refine j_iconst (v := 2) hC dX5_kindOf_8 (by decide) ?_
      exact j_iret hC dX5_kindOf_9 rfl h
set_option maxRecDepth 20000 in
def X5_readToken_l120 (N : Nat) (x2 : Int32) (x3 : Int32) (x4 : Int32) (x5 : Int32) (s0 : St) : Option (Int32 × St) :=
  bnd (si s0 7 x5) fun s1 =>
  bnd (si s1 4 x4) fun s2 =>
  cal (X5_kindOf_f N x2 x3 s2) fun v1 s3 =>
  bnd (si s3 3 v1) fun s4 =>
  some (0, s4)
set_option maxRecDepth 20000 in
theorem X5_readToken_l120_ok {K : Kx} {g : Gm} {N : Nat} {o : Int32 × St} (hC : Ok K cX5_readToken RX5 g 6 1 none) : ∀ (x2 : Int32) (x3 : Int32) (x4 : Int32) (x5 : Int32) (s0 : St), X5_readToken_l120 N x2 x3 x4 x5 s0 = some o → J K (wX g) 6 (QV K g (wX g) o) 120 [(0, .ref (g.1 2)), (2, .int x2), (3, .int x3), (4, .int x4), (5, .int x5)] [] s0 := by
  intro x2 x3 x4 x5 s0 h
  unfold X5_readToken_l120 at h
  refine j_aload_n hC dX5_readToken_120 rfl 0 rfl ?_
  refine j_iload hC dX5_readToken_121 4 rfl ?_
  refine put_X5_26 hC dX5_readToken_123 h ?_
  intro s1 h
  refine j_aload_n hC dX5_readToken_126 rfl 0 rfl ?_
  refine j_iload hC dX5_readToken_127 3 rfl ?_
  refine put_X5_58 hC dX5_readToken_129 h ?_
  intro s2 h
  refine j_aload_n hC dX5_readToken_132 rfl 0 rfl ?_
  refine j_pc (n2 := 133) rfl ?_
  refine j_iload_n hC dX5_readToken_133 rfl 1 rfl ?_
  refine j_iload_n hC dX5_readToken_134 rfl 2 rfl ?_
  obtain ⟨v1, s3, hc, h⟩ := cal_some h
  refine call_X5_61 hC (fun l D => X5_kindOf_ok l D g hc) (by decide) (Nat.le_of_ble_eq_true rfl) dX5_readToken_135 ?_
  refine put_X5_40 hC dX5_readToken_138 h ?_
  intro s4 h
  exact j_vret (v := 0) hC dX5_readToken_141 h
set_option maxRecDepth 20000 in
def X5_readToken_l114 (N : Nat) (k39 : Int32 → Int32 → Int32 → Int32 → St → Option (Int32 × St)) (x2 : Int32) (x3 : Int32) (x4 : Int32) (x5 : Int32) (s0 : St) : Option (Int32 × St) :=
  bnd (x5 + 1) fun v1 =>
  k39 x2 x3 x4 v1 s0
set_option maxRecDepth 20000 in
theorem X5_readToken_l114_ok {K : Kx} {g : Gm} {N : Nat} {o : Int32 × St} (hC : Ok K cX5_readToken RX5 g 6 1 none) {k39 : Int32 → Int32 → Int32 → Int32 → St → Option (Int32 × St)} (hk39 : ∀ (x2 : Int32) (x3 : Int32) (x4 : Int32) (x5 : Int32) (s0 : St), k39 x2 x3 x4 x5 s0 = some o → J K (wX g) 6 (QV K g (wX g) o) 39 [(0, .ref (g.1 2)), (2, .int x2), (3, .int x3), (4, .int x4), (5, .int x5)] [] s0) : ∀ (x2 : Int32) (x3 : Int32) (x4 : Int32) (x5 : Int32) (s0 : St), X5_readToken_l114 N k39 x2 x3 x4 x5 s0 = some o → J K (wX g) 6 (QV K g (wX g) o) 114 [(0, .ref (g.1 2)), (2, .int x2), (3, .int x3), (4, .int x4), (5, .int x5)] [] s0 := by
  intro x2 x3 x4 x5 s0 h
  unfold X5_readToken_l114 at h
  refine j_iincb (n2 := 1) (k0 := 4) (lv2 := fun z => [(5, .int z), (0, .ref (g.1 2)), (2, .int x2), (3, .int x3), (4, .int x4)]) hC dX5_readToken_114 rfl (by decide) (by decide) (fun _ => rfl) h (fun v1 h => ?_)
  refine j_goto (tgt := 39) hC dX5_readToken_117 (by decide) ?_
  refine j_sub [1, 2, 3, 4, 0] rfl ?_
  exact hk39 x2 x3 x4 v1 s0 h
set_option maxRecDepth 20000 in
def X5_readToken_l74 (N : Nat) (k39 : Int32 → Int32 → Int32 → Int32 → St → Option (Int32 × St)) (x2 : Int32) (x3 : Int32) (x4 : Int32) (x5 : Int32) (s0 : St) : Option (Int32 × St) :=
  ald s0 0 260 x5 fun v1 =>
  cal (X5_isLetter_f N v1 s0) fun v2 s1 =>
  if v2 = 0 then
  bnd (x3 + 1) fun v3 =>
    ald s1 0 260 x5 fun v4 =>
    bnd ((x4 * 10) + (v4 - 48)) fun v5 =>
    X5_readToken_l114 N k39 x2 v3 v5 x5 s1
  else
  bnd (x2 + 1) fun v6 =>
    X5_readToken_l114 N k39 v6 x3 x4 x5 s1
set_option maxRecDepth 20000 in
theorem X5_readToken_l74_ok {K : Kx} {g : Gm} {N : Nat} {o : Int32 × St} (hC : Ok K cX5_readToken RX5 g 6 1 none) {k39 : Int32 → Int32 → Int32 → Int32 → St → Option (Int32 × St)} (hk39 : ∀ (x2 : Int32) (x3 : Int32) (x4 : Int32) (x5 : Int32) (s0 : St), k39 x2 x3 x4 x5 s0 = some o → J K (wX g) 6 (QV K g (wX g) o) 39 [(0, .ref (g.1 2)), (2, .int x2), (3, .int x3), (4, .int x4), (5, .int x5)] [] s0) : ∀ (x2 : Int32) (x3 : Int32) (x4 : Int32) (x5 : Int32) (s0 : St), X5_readToken_l74 N k39 x2 x3 x4 x5 s0 = some o → J K (wX g) 6 (QV K g (wX g) o) 74 [(0, .ref (g.1 2)), (2, .int x2), (3, .int x3), (4, .int x4), (5, .int x5)] [] s0 := by
  intro x2 x3 x4 x5 s0 h
  unfold X5_readToken_l74 at h
  refine j_aload_n hC dX5_readToken_74 rfl 0 rfl ?_
  refine get_X5_9 hC dX5_readToken_75 ?_
  refine j_iload hC dX5_readToken_78 4 rfl ?_
  refine ald_X5_bytes hC dX5_readToken_80 h ?_
  intro v1 h
  obtain ⟨v2, s1, hc, h⟩ := cal_some h
  refine call_X5_52 hC (fun l D => X5_isLetter_ok l D g hc) (by decide) (Nat.le_of_ble_eq_true rfl) dX5_readToken_81 ?_
  refine j_if_eq (tgt := 93) hC dX5_readToken_84 (by decide) h ?_ ?_
  · intro h
    refine j_iincb (n2 := 1) (k0 := 2) (lv2 := fun z => [(3, .int z), (0, .ref (g.1 2)), (2, .int x2), (4, .int x4), (5, .int x5)]) hC dX5_readToken_93 rfl (by decide) (by decide) (fun _ => rfl) h (fun v3 h => ?_)
    refine j_iload hC dX5_readToken_96 3 rfl ?_
    refine j_bipush (v := 10) hC dX5_readToken_98 (by decide) ?_
    refine j_imul hC dX5_readToken_100 ?_
    refine j_aload_n hC dX5_readToken_101 rfl 1 rfl ?_
    refine get_X5_9 hC dX5_readToken_102 ?_
    refine j_iload hC dX5_readToken_105 4 rfl ?_
    refine j_pc (n2 := 107) rfl ?_
    refine ald_X5_bytes hC dX5_readToken_107 h ?_
    intro v4 h
    refine j_bipush (v := 48) hC dX5_readToken_108 (by decide) ?_
    refine j_isub hC dX5_readToken_110 ?_
    refine j_iadd hC dX5_readToken_111 ?_
    refine j_bi (E := (x4 * 10) + (v4 - 48)) h (fun v5 h => ?_)
    refine j_istore hC dX5_readToken_112 (by decide) rfl ?_
    refine j_sub [2, 3, 1, 0, 4] rfl ?_
    exact X5_readToken_l114_ok hC hk39 x2 v3 v5 x5 s1 h
  · intro h
    refine j_iincb (n2 := 1) (k0 := 1) (lv2 := fun z => [(2, .int z), (0, .ref (g.1 2)), (3, .int x3), (4, .int x4), (5, .int x5)]) hC dX5_readToken_87 rfl (by decide) (by decide) (fun _ => rfl) h (fun v6 h => ?_)
    refine j_goto (tgt := 114) hC dX5_readToken_90 (by decide) ?_
    refine j_sub [1, 0, 2, 3, 4] rfl ?_
    exact X5_readToken_l114_ok hC hk39 v6 x3 x4 x5 s1 h
set_option maxRecDepth 20000 in
def X5_readToken_l39 (N : Nat) : Nat → Int32 → Int32 → Int32 → Int32 → St → Option (Int32 × St)
  | 0 => fun _ _ _ _ _ => none
  | n + 1 => fun x2 x3 x4 x5 s0 =>
  if gi s0 0 ≤ x5 then
  X5_readToken_l120 N x2 x3 x4 x5 s0
  else
  ald s0 0 260 x5 fun v1 =>
    cal (X5_isLetter_f N v1 s0) fun v2 s1 =>
    if v2 = 0 then
    ald s1 0 260 x5 fun v3 =>
      cal (X5_isDigit_f N v3 s1) fun v4 s2 =>
      if v4 = 0 then
      X5_readToken_l120 N x2 x3 x4 x5 s2
      else
      X5_readToken_l74 N (X5_readToken_l39 N n) x2 x3 x4 x5 s2
    else
    X5_readToken_l74 N (X5_readToken_l39 N n) x2 x3 x4 x5 s1
set_option maxRecDepth 20000 in
theorem X5_readToken_l39_ok {K : Kx} {g : Gm} {N : Nat} {o : Int32 × St} (hC : Ok K cX5_readToken RX5 g 6 1 none) : ∀ (n : Nat) (x2 : Int32) (x3 : Int32) (x4 : Int32) (x5 : Int32) (s0 : St), X5_readToken_l39 N n x2 x3 x4 x5 s0 = some o → J K (wX g) 6 (QV K g (wX g) o) 39 [(0, .ref (g.1 2)), (2, .int x2), (3, .int x3), (4, .int x4), (5, .int x5)] [] s0 := by
  intro n
  induction n with
  | zero => intro x2 x3 x4 x5 s0 h; cases h
  | succ n ih =>
    intro x2 x3 x4 x5 s0 h
    rw [X5_readToken_l39] at h
    refine j_iload hC dX5_readToken_39 4 rfl ?_
    refine j_aload_n hC dX5_readToken_41 rfl 0 rfl ?_
    refine get_X5_13 hC dX5_readToken_42 ?_
    refine j_icmp_ge (tgt := 120) hC dX5_readToken_45 (by decide) h ?_ ?_
    · intro h
      refine j_sub [0, 1, 2, 3, 4] rfl ?_
      exact X5_readToken_l120_ok hC x2 x3 x4 x5 s0 h
    · intro h
      refine j_aload_n hC dX5_readToken_48 rfl 0 rfl ?_
      refine get_X5_9 hC dX5_readToken_49 ?_
      refine j_iload hC dX5_readToken_52 4 rfl ?_
      refine ald_X5_bytes hC dX5_readToken_54 h ?_
      intro v1 h
      obtain ⟨v2, s1, hc, h⟩ := cal_some h
      refine call_X5_52 hC (fun l D => X5_isLetter_ok l D g hc) (by decide) (Nat.le_of_ble_eq_true rfl) dX5_readToken_55 ?_
      refine j_if_ne (tgt := 74) hC dX5_readToken_58 (by decide) h ?_ ?_
      · intro h
        refine j_sub [0, 1, 2, 3, 4] rfl ?_
        exact X5_readToken_l74_ok hC ih x2 x3 x4 x5 s1 h
      · intro h
        refine j_aload_n hC dX5_readToken_61 rfl 0 rfl ?_
        refine get_X5_9 hC dX5_readToken_62 ?_
        refine j_iload hC dX5_readToken_65 4 rfl ?_
        refine ald_X5_bytes hC dX5_readToken_67 h ?_
        intro v3 h
        obtain ⟨v4, s2, hc, h⟩ := cal_some h
        refine call_X5_55 hC (fun l D => X5_isDigit_ok l D g hc) (by decide) (Nat.le_of_ble_eq_true rfl) dX5_readToken_68 ?_
        refine j_if_eq (tgt := 120) hC dX5_readToken_71 (by decide) h ?_ ?_
        · intro h
          refine j_sub [0, 1, 2, 3, 4] rfl ?_
          exact X5_readToken_l120_ok hC x2 x3 x4 x5 s2 h
        · intro h
          refine j_sub [0, 1, 2, 3, 4] rfl ?_
          exact X5_readToken_l74_ok hC ih x2 x3 x4 x5 s2 h
set_option maxRecDepth 20000 in
def X5_readToken_f (N : Nat) (x1 : Int32) (s0 : St) : Option (Int32 × St) :=
  bnd (si s0 6 x1) fun s1 =>
  ald s1 0 260 x1 fun v1 =>
  if v1 = 59 then
  bnd (si s1 7 (x1 + 1)) fun s2 =>
    bnd (si s2 3 4) fun s3 =>
    some (0, s3)
  else
  X5_readToken_l39 N N 0 0 0 x1 s1
set_option maxRecDepth 20000 in
theorem X5_readToken_ok (l : Launch) (D : va_G) (g : Gm) {N : Nat} {x1 : Int32} {s0 : St} {o : Int32 × St} (h : X5_readToken_f N x1 s0 = some o) : MV l yX5_readToken cX5_readToken 6 none 1 D g (wX g) [.ref (g.1 2), .int x1] s0 o := by
  refine met_V (own := RX5) (by decide) rfl (Nat.le_of_ble_eq_true rfl) (fun K hC => ?_)
  show J K (wX g) 6 (QV K g (wX g) o) 0 [(0, .ref (g.1 2)), (1, .int x1)] [] s0
  unfold X5_readToken_f at h
  refine j_aload_n hC dX5_readToken_0 rfl 0 rfl ?_
  refine j_iload_n hC dX5_readToken_1 rfl 1 rfl ?_
  refine put_X5_49 hC dX5_readToken_2 h ?_
  intro s1 h
  refine j_aload_n hC dX5_readToken_5 rfl 0 rfl ?_
  refine get_X5_9 hC dX5_readToken_6 ?_
  refine j_iload_n hC dX5_readToken_9 rfl 1 rfl ?_
  refine ald_X5_bytes hC dX5_readToken_10 h ?_
  intro v1 h
  refine j_pc (n2 := 11) rfl ?_
  refine j_bipush (v := 59) hC dX5_readToken_11 (by decide) ?_
  refine j_icmp_ne (tgt := 29) hC dX5_readToken_13 (by decide) h ?_ ?_
  · intro h
    refine j_iconst (v := 0) hC dX5_readToken_29 (by decide) ?_
    refine j_istore_n hC dX5_readToken_30 rfl (by decide) rfl ?_
    refine j_iconst (v := 0) hC dX5_readToken_31 (by decide) ?_
    refine j_istore_n hC dX5_readToken_32 rfl (by decide) rfl ?_
    refine j_iconst (v := 0) hC dX5_readToken_33 (by decide) ?_
    refine j_istore hC dX5_readToken_34 (by decide) rfl ?_
    refine j_iload_n hC dX5_readToken_36 rfl 4 rfl ?_
    refine j_pc (n2 := 37) rfl ?_
    refine j_istore hC dX5_readToken_37 (by decide) rfl ?_
    refine j_sub [4, 3, 2, 1, 0] rfl ?_
    exact X5_readToken_l39_ok hC N 0 0 0 x1 s1 h
  · intro h
    refine j_aload_n hC dX5_readToken_16 rfl 0 rfl ?_
    refine j_iload_n hC dX5_readToken_17 rfl 1 rfl ?_
    refine j_iconst (v := 1) hC dX5_readToken_18 (by decide) ?_
    refine j_iadd hC dX5_readToken_19 ?_
    refine put_X5_26 hC dX5_readToken_20 h ?_
    intro s2 h
    refine j_aload_n hC dX5_readToken_23 rfl 0 rfl ?_
    refine j_iconst (v := 4) hC dX5_readToken_24 (by decide) ?_
    refine j_pc (n2 := 25) rfl ?_
    refine put_X5_40 hC dX5_readToken_25 h ?_
    intro s3 h
    exact j_vret (v := 0) hC dX5_readToken_28 h
set_option maxRecDepth 20000 in
def X5_step_l70 (N : Nat) (t1 : Int32) (s0 : St) : Option (Int32 × St) :=
  bnd (si s0 3 t1) fun s1 =>
  bnd (si s1 6 (imin (gi s1 0) (gi s1 5))) fun s2 =>
  bnd (si s2 7 (gi s2 6)) fun s3 =>
  some (0, s3)
set_option maxRecDepth 20000 in
theorem X5_step_l70_ok {K : Kx} {g : Gm} {N : Nat} {o : Int32 × St} (hC : Ok K cX5_step RX5 g 2 2 none) : ∀ (t1 : Int32) (s0 : St), X5_step_l70 N t1 s0 = some o → J K (wX g) 2 (QV K g (wX g) o) 70 [(0, .ref (g.1 2))] [.int t1, .ref (g.1 2)] s0 := by
  intro t1 s0 h
  unfold X5_step_l70 at h
  refine put_X5_40 hC dX5_step_70 h ?_
  intro s1 h
  refine j_aload_n hC dX5_step_73 rfl 0 rfl ?_
  refine j_aload_n hC dX5_step_74 rfl 0 rfl ?_
  refine get_X5_13 hC dX5_step_75 ?_
  refine j_aload_n hC dX5_step_78 rfl 0 rfl ?_
  refine get_X5_17 hC dX5_step_79 ?_
  refine mt_X5_43 hC (by decide) (Nat.le_of_ble_eq_true rfl) dX5_step_82 ?_
  refine j_pc (n2 := 85) rfl ?_
  refine put_X5_49 hC dX5_step_85 h ?_
  intro s2 h
  refine j_aload_n hC dX5_step_88 rfl 0 rfl ?_
  refine j_aload_n hC dX5_step_89 rfl 0 rfl ?_
  refine get_X5_49 hC dX5_step_90 ?_
  refine put_X5_26 hC dX5_step_93 h ?_
  intro s3 h
  exact j_vret (v := 0) hC dX5_step_96 h
set_option maxRecDepth 20000 in
def X5_step_l53 (N : Nat) (s0 : St) : Option (Int32 × St) :=
  if gi s0 0 ≤ gi s0 5 then
  X5_step_l70 N 1 s0
  else
  X5_step_l70 N 0 s0
set_option maxRecDepth 20000 in
theorem X5_step_l53_ok {K : Kx} {g : Gm} {N : Nat} {o : Int32 × St} (hC : Ok K cX5_step RX5 g 2 2 none) : ∀ (s0 : St), X5_step_l53 N  s0 = some o → J K (wX g) 2 (QV K g (wX g) o) 53 [(0, .ref (g.1 2))] [] s0 := by
  intro  s0 h
  unfold X5_step_l53 at h
  refine j_aload_n hC dX5_step_53 rfl 0 rfl ?_
  refine j_aload_n hC dX5_step_54 rfl 0 rfl ?_
  refine get_X5_13 hC dX5_step_55 ?_
  refine j_aload_n hC dX5_step_58 rfl 0 rfl ?_
  refine get_X5_17 hC dX5_step_59 ?_
  refine j_icmp_le (tgt := 69) hC dX5_step_62 (by decide) h ?_ ?_
  · intro h
    refine j_iconst (v := 1) hC dX5_step_69 (by decide) ?_
    refine j_sub [0] rfl ?_
    exact X5_step_l70_ok hC 1 s0 h
  · intro h
    refine j_iconst (v := 0) hC dX5_step_65 (by decide) ?_
    refine j_goto (tgt := 70) hC dX5_step_66 (by decide) ?_
    refine j_sub [0] rfl ?_
    exact X5_step_l70_ok hC 0 s0 h
set_option maxRecDepth 20000 in
def X5_step_l31 (N : Nat) (x1 : Int32) (s0 : St) : Option (Int32 × St) :=
  if gi s0 0 ≤ x1 then
  X5_step_l53 N s0
  else
  if gi s0 5 ≤ x1 then
    X5_step_l53 N s0
    else
    cal (X5_readToken_f N x1 s0) fun _ s1 =>
      some (0, s1)
set_option maxRecDepth 20000 in
theorem X5_step_l31_ok {K : Kx} {g : Gm} {N : Nat} {o : Int32 × St} (hC : Ok K cX5_step RX5 g 2 2 none) : ∀ (x1 : Int32) (s0 : St), X5_step_l31 N x1 s0 = some o → J K (wX g) 2 (QV K g (wX g) o) 31 [(0, .ref (g.1 2)), (1, .int x1)] [] s0 := by
  intro x1 s0 h
  unfold X5_step_l31 at h
  refine j_iload_n hC dX5_step_31 rfl 1 rfl ?_
  refine j_aload_n hC dX5_step_32 rfl 0 rfl ?_
  refine get_X5_13 hC dX5_step_33 ?_
  refine j_icmp_ge (tgt := 53) hC dX5_step_36 (by decide) h ?_ ?_
  · intro h
    refine j_sub [0] rfl ?_
    exact X5_step_l53_ok hC s0 h
  · intro h
    refine j_iload_n hC dX5_step_39 rfl 1 rfl ?_
    refine j_aload_n hC dX5_step_40 rfl 0 rfl ?_
    refine get_X5_17 hC dX5_step_41 ?_
    refine j_icmp_ge (tgt := 53) hC dX5_step_44 (by decide) h ?_ ?_
    · intro h
      refine j_sub [0] rfl ?_
      exact X5_step_l53_ok hC s0 h
    · intro h
      refine j_aload_n hC dX5_step_47 rfl 0 rfl ?_
      refine j_iload_n hC dX5_step_48 rfl 1 rfl ?_
      obtain ⟨v1, s1, hc, h⟩ := cal_some h
      refine call_X5_36 hC (fun l D => X5_readToken_ok l D g hc) (by decide) (Nat.le_of_ble_eq_true rfl) dX5_step_49 ?_
      exact j_vret (v := 0) hC dX5_step_52 h
set_option maxRecDepth 20000 in
def X5_step_l5 (N : Nat) : Nat → Int32 → St → Option (Int32 × St)
  | 0 => fun _ _ => none
  | n + 1 => fun x1 s0 =>
  if gi s0 0 ≤ x1 then
  X5_step_l31 N x1 s0
  else
  ald s0 0 260 x1 fun v1 =>
    cal (X5_isBlank_f N v1 s0) fun v2 s1 =>
    if v2 = 0 then
    X5_step_l31 N x1 s1
    else
    bnd (x1 + 1) fun v3 =>
      (X5_step_l5 N n) v3 s1
set_option maxRecDepth 20000 in
theorem X5_step_l5_ok {K : Kx} {g : Gm} {N : Nat} {o : Int32 × St} (hC : Ok K cX5_step RX5 g 2 2 none) : ∀ (n : Nat) (x1 : Int32) (s0 : St), X5_step_l5 N n x1 s0 = some o → J K (wX g) 2 (QV K g (wX g) o) 5 [(0, .ref (g.1 2)), (1, .int x1)] [] s0 := by
  intro n
  induction n with
  | zero => intro x1 s0 h; cases h
  | succ n ih =>
    intro x1 s0 h
    rw [X5_step_l5] at h
    refine j_iload_n hC dX5_step_5 rfl 1 rfl ?_
    refine j_aload_n hC dX5_step_6 rfl 0 rfl ?_
    refine get_X5_13 hC dX5_step_7 ?_
    refine j_icmp_ge (tgt := 31) hC dX5_step_10 (by decide) h ?_ ?_
    · intro h
      refine j_sub [0, 1] rfl ?_
      exact X5_step_l31_ok hC x1 s0 h
    · intro h
      refine j_aload_n hC dX5_step_13 rfl 0 rfl ?_
      refine get_X5_9 hC dX5_step_14 ?_
      refine j_iload_n hC dX5_step_17 rfl 1 rfl ?_
      refine ald_X5_bytes hC dX5_step_18 h ?_
      intro v1 h
      obtain ⟨v2, s1, hc, h⟩ := cal_some h
      refine call_X5_32 hC (fun l D => X5_isBlank_ok l D g hc) (by decide) (Nat.le_of_ble_eq_true rfl) dX5_step_19 ?_
      refine j_if_eq (tgt := 31) hC dX5_step_22 (by decide) h ?_ ?_
      · intro h
        refine j_sub [0, 1] rfl ?_
        exact X5_step_l31_ok hC x1 s1 h
      · intro h
        refine j_iincb (n2 := 1) (k0 := 1) (lv2 := fun z => [(1, .int z), (0, .ref (g.1 2))]) hC dX5_step_25 rfl (by decide) (by decide) (fun _ => rfl) h (fun v3 h => ?_)
        refine j_goto (tgt := 5) hC dX5_step_28 (by decide) ?_
        refine j_sub [1, 0] rfl ?_
        exact ih v3 s1 h
set_option maxRecDepth 20000 in
def X5_step_f (N : Nat) (s0 : St) : Option (Int32 × St) :=
  bnd (gi s0 7) fun v1 =>
  X5_step_l5 N N v1 s0
set_option maxRecDepth 20000 in
theorem X5_step_ok (l : Launch) (D : va_G) (g : Gm) {N : Nat} {s0 : St} {o : Int32 × St} (h : X5_step_f N s0 = some o) : MV l yX5_step cX5_step 2 none 2 D g (wX g) [.ref (g.1 2)] s0 o := by
  refine met_V (own := RX5) (by decide) rfl (Nat.le_of_ble_eq_true rfl) (fun K hC => ?_)
  show J K (wX g) 2 (QV K g (wX g) o) 0 [(0, .ref (g.1 2))] [] s0
  unfold X5_step_f at h
  refine j_aload_n hC dX5_step_0 rfl 0 rfl ?_
  refine get_X5_26 hC dX5_step_1 ?_
  refine j_bi (E := gi s0 7) h (fun v1 h => ?_)
  refine j_istore_n hC dX5_step_4 rfl (by decide) rfl ?_
  refine j_sub [1, 0] rfl ?_
  exact X5_step_l5_ok hC N v1 s0 h
set_option maxRecDepth 20000 in
def X5_start_f (N : Nat) (x1 : Int32) (s0 : St) : Option (Int32 × St) :=
  bnd (si s0 5 x1) fun s1 =>
  bnd (si s1 1 0) fun s2 =>
  bnd (si s2 2 0) fun s3 =>
  bnd (si s3 7 0) fun s4 =>
  cal (X5_step_f N  s4) fun _ s5 =>
  some (0, s5)
set_option maxRecDepth 20000 in
theorem X5_start_ok (l : Launch) (D : va_G) (g : Gm) {N : Nat} {x1 : Int32} {s0 : St} {o : Int32 × St} (h : X5_start_f N x1 s0 = some o) : MV l yX5_start cX5_start 2 none 3 D g (wX g) [.ref (g.1 2), .int x1] s0 o := by
  refine met_V (own := RX5) (by decide) rfl (Nat.le_of_ble_eq_true rfl) (fun K hC => ?_)
  show J K (wX g) 2 (QV K g (wX g) o) 0 [(0, .ref (g.1 2)), (1, .int x1)] [] s0
  unfold X5_start_f at h
  refine j_aload_n hC dX5_start_0 rfl 0 rfl ?_
  refine j_iload_n hC dX5_start_1 rfl 1 rfl ?_
  refine put_X5_17 hC dX5_start_2 h ?_
  intro s1 h
  refine j_aload_n hC dX5_start_5 rfl 0 rfl ?_
  refine j_iconst (v := 0) hC dX5_start_6 (by decide) ?_
  refine put_X5_20 hC dX5_start_7 h ?_
  intro s2 h
  refine j_aload_n hC dX5_start_10 rfl 0 rfl ?_
  refine j_pc (n2 := 11) rfl ?_
  refine j_iconst (v := 0) hC dX5_start_11 (by decide) ?_
  refine put_X5_23 hC dX5_start_12 h ?_
  intro s3 h
  refine j_aload_n hC dX5_start_15 rfl 0 rfl ?_
  refine j_iconst (v := 0) hC dX5_start_16 (by decide) ?_
  refine put_X5_26 hC dX5_start_17 h ?_
  intro s4 h
  refine j_aload_n hC dX5_start_20 rfl 0 rfl ?_
  obtain ⟨v1, s5, hc, h⟩ := cal_some h
  refine call_X5_29 hC (fun l D => X5_step_ok l D g hc) (by decide) (Nat.le_of_ble_eq_true rfl) dX5_start_21 ?_
  exact j_vret (v := 0) hC dX5_start_24 h
set_option maxRecDepth 20000 in
def X6_isWithin_f (N : Nat) (x0 : Int32) (x1 : Int32) (x2 : Int32) (s0 : St) : Option (Int32 × St) :=
  if x0 < x1 then
  some (0, s0)
  else
  if x2 < x0 then
    some (0, s0)
    else
    some (1, s0)
set_option maxRecDepth 20000 in
theorem X6_isWithin_ok (l : Launch) (D : va_G) (g : Gm) {N : Nat} {x0 : Int32} {x1 : Int32} {x2 : Int32} {s0 : St} {o : Int32 × St} (h : X6_isWithin_f N x0 x1 x2 s0 = some o) : MI l yX6_isWithin cX6_isWithin 3 (some .boolean) 0 D g (wX g) [.int x0, .int x1, .int x2] s0 o := by
  refine met_I (own := RX6) (by decide) rfl (Nat.le_of_ble_eq_true rfl) (fun K hC => ?_)
  show J K (wX g) 3 (QI K g (wX g) o) 0 [(0, .int x0), (1, .int x1), (2, .int x2)] [] s0
  unfold X6_isWithin_f at h
  refine j_iload_n hC dX6_isWithin_0 rfl 0 rfl ?_
  refine j_iload_n hC dX6_isWithin_1 rfl 1 rfl ?_
  refine j_icmp_lt (tgt := 14) hC dX6_isWithin_2 (by decide) h ?_ ?_
  · intro h
    refine j_iconst (v := 0) hC dX6_isWithin_14 (by decide) ?_
    exact j_iret hC dX6_isWithin_15 rfl h
  · intro h
    refine j_iload_n hC dX6_isWithin_5 rfl 0 rfl ?_
    refine j_iload_n hC dX6_isWithin_6 rfl 2 rfl ?_
    refine j_icmp_gt (tgt := 14) hC dX6_isWithin_7 (by decide) h ?_ ?_
    · intro h
      refine j_iconst (v := 0) hC dX6_isWithin_14 (by decide) ?_
      exact j_iret hC dX6_isWithin_15 rfl h
    · intro h
      refine j_iconst (v := 1) hC dX6_isWithin_10 (by decide) ?_
      refine j_goto (tgt := 15) hC dX6_isWithin_11 (by decide) ?_
      exact j_iret hC dX6_isWithin_15 rfl h
set_option maxRecDepth 20000 in
def X5_refuse_f (N : Nat) (x1 : Int32) (s0 : St) : Option (Int32 × St) :=
  bnd (si s0 1 x1) fun s1 =>
  bnd (si s1 2 (gi s1 6)) fun s2 =>
  some (0, s2)
set_option maxRecDepth 20000 in
theorem X5_refuse_ok (l : Launch) (D : va_G) (g : Gm) {N : Nat} {x1 : Int32} {s0 : St} {o : Int32 × St} (h : X5_refuse_f N x1 s0 = some o) : MI l yX5_refuse cX5_refuse 2 (some .boolean) 0 D g (wX g) [.ref (g.1 2), .int x1] s0 o := by
  refine met_I (own := RX5) (by decide) rfl (Nat.le_of_ble_eq_true rfl) (fun K hC => ?_)
  show J K (wX g) 2 (QI K g (wX g) o) 0 [(0, .ref (g.1 2)), (1, .int x1)] [] s0
  unfold X5_refuse_f at h
  refine j_aload_n hC dX5_refuse_0 rfl 0 rfl ?_
  refine j_iload_n hC dX5_refuse_1 rfl 1 rfl ?_
  refine put_X5_20 hC dX5_refuse_2 h ?_
  intro s1 h
  refine j_aload_n hC dX5_refuse_5 rfl 0 rfl ?_
  refine j_aload_n hC dX5_refuse_6 rfl 0 rfl ?_
  refine get_X5_49 hC dX5_refuse_7 ?_
  refine put_X5_23 hC dX5_refuse_10 h ?_
  intro s2 h
  refine j_pc (n2 := 13) rfl ?_
  refine j_iconst (v := 0) hC dX5_refuse_13 (by decide) ?_
  exact j_iret hC dX5_refuse_14 rfl h
set_option maxRecDepth 20000 in
def X5_stepToNumber_l38 (N : Nat) (s0 : St) : Option (Int32 × St) :=
  some (1, s0)
set_option maxRecDepth 20000 in
theorem X5_stepToNumber_l38_ok {K : Kx} {g : Gm} {N : Nat} {o : Int32 × St} (hC : Ok K cX5_stepToNumber RX5 g 3 3 (some .boolean)) : ∀ (s0 : St), X5_stepToNumber_l38 N  s0 = some o → J K (wX g) 3 (QI K g (wX g) o) 38 [] [] s0 := by
  intro  s0 h
  unfold X5_stepToNumber_l38 at h
  refine j_iconst (v := 1) hC dX5_stepToNumber_38 (by decide) ?_
  refine j_goto (tgt := 43) hC dX5_stepToNumber_39 (by decide) ?_
  exact j_iret hC dX5_stepToNumber_43 rfl h
set_option maxRecDepth 20000 in
def X5_stepToNumber_f (N : Nat) (x1 : Int32) (x2 : Int32) (s0 : St) : Option (Int32 × St) :=
  cal (X5_step_f N  s0) fun _ s1 =>
  if gi s1 3 = 3 then
  cal (X6_isWithin_f N (gi s1 4) x1 x2 s1) fun v2 s2 =>
    if v2 = 0 then
    cal (X5_refuse_f N 2 s2) fun v3 s3 =>
      if v3 = 0 then
      some (0, s3)
      else
      X5_stepToNumber_l38 N s3
    else
    X5_stepToNumber_l38 N s2
  else
  cal (X5_refuse_f N 1 s1) fun v4 s4 =>
    chk (isZ v4) (some (v4, s4))
set_option maxRecDepth 20000 in
theorem X5_stepToNumber_ok (l : Launch) (D : va_G) (g : Gm) {N : Nat} {x1 : Int32} {x2 : Int32} {s0 : St} {o : Int32 × St} (h : X5_stepToNumber_f N x1 x2 s0 = some o) : MI l yX5_stepToNumber cX5_stepToNumber 3 (some .boolean) 3 D g (wX g) [.ref (g.1 2), .int x1, .int x2] s0 o := by
  refine met_I (own := RX5) (by decide) rfl (Nat.le_of_ble_eq_true rfl) (fun K hC => ?_)
  show J K (wX g) 3 (QI K g (wX g) o) 0 [(0, .ref (g.1 2)), (1, .int x1), (2, .int x2)] [] s0
  unfold X5_stepToNumber_f at h
  refine j_aload_n hC dX5_stepToNumber_0 rfl 0 rfl ?_
  obtain ⟨v1, s1, hc, h⟩ := cal_some h
  refine call_X5_29 hC (fun l D => X5_step_ok l D g hc) (by decide) (Nat.le_of_ble_eq_true rfl) dX5_stepToNumber_1 ?_
  refine j_aload_n hC dX5_stepToNumber_4 rfl 0 rfl ?_
  refine get_X5_40 hC dX5_stepToNumber_5 ?_
  refine j_iconst (v := 3) hC dX5_stepToNumber_8 (by decide) ?_
  refine j_icmp_eq (tgt := 18) hC dX5_stepToNumber_9 (by decide) h ?_ ?_
  · intro h
    refine j_aload_n hC dX5_stepToNumber_18 rfl 0 rfl ?_
    refine get_X5_58 hC dX5_stepToNumber_19 ?_
    refine j_iload_n hC dX5_stepToNumber_22 rfl 1 rfl ?_
    refine j_iload_n hC dX5_stepToNumber_23 rfl 2 rfl ?_
    obtain ⟨v2, s2, hc, h⟩ := cal_some h
    refine call_X5_78 hC (fun l D => X6_isWithin_ok l D g hc) (by decide) (Nat.le_of_ble_eq_true rfl) dX5_stepToNumber_24 ?_
    refine j_if_ne (tgt := 38) hC dX5_stepToNumber_27 (by decide) h ?_ ?_
    · intro h
      refine j_sub [] rfl ?_
      exact X5_stepToNumber_l38_ok hC s2 h
    · intro h
      refine j_aload_n hC dX5_stepToNumber_30 rfl 0 rfl ?_
      refine j_iconst (v := 2) hC dX5_stepToNumber_31 (by decide) ?_
      obtain ⟨v3, s3, hc, h⟩ := cal_some h
      refine call_X5_74 hC (fun l D => X5_refuse_ok l D g hc) (by decide) (Nat.le_of_ble_eq_true rfl) dX5_stepToNumber_32 ?_
      refine j_if_eq (tgt := 42) hC dX5_stepToNumber_35 (by decide) h ?_ ?_
      · intro h
        refine j_iconst (v := 0) hC dX5_stepToNumber_42 (by decide) ?_
        exact j_iret hC dX5_stepToNumber_43 rfl h
      · intro h
        refine j_sub [] rfl ?_
        exact X5_stepToNumber_l38_ok hC s3 h
  · intro h
    refine j_aload_n hC dX5_stepToNumber_12 rfl 0 rfl ?_
    refine j_iconst (v := 1) hC dX5_stepToNumber_13 (by decide) ?_
    obtain ⟨v4, s4, hc, h⟩ := cal_some h
    refine call_X5_74 hC (fun l D => X5_refuse_ok l D g hc) (by decide) (Nat.le_of_ble_eq_true rfl) dX5_stepToNumber_14 ?_
    obtain ⟨hz, h⟩ := chk_some h
    exact j_iret hC dX5_stepToNumber_17 (isZ_nar hz) h
set_option maxRecDepth 20000 in
def X5_passSemicolon_f (N : Nat) (s0 : St) : Option (Int32 × St) :=
  if gi s0 3 = 4 then
  cal (X5_step_f N  s0) fun _ s1 =>
    some (1, s1)
  else
  cal (X5_refuse_f N 1 s0) fun v2 s2 =>
    chk (isZ v2) (some (v2, s2))
set_option maxRecDepth 20000 in
theorem X5_passSemicolon_ok (l : Launch) (D : va_G) (g : Gm) {N : Nat} {s0 : St} {o : Int32 × St} (h : X5_passSemicolon_f N s0 = some o) : MI l yX5_passSemicolon cX5_passSemicolon 1 (some .boolean) 3 D g (wX g) [.ref (g.1 2)] s0 o := by
  refine met_I (own := RX5) (by decide) rfl (Nat.le_of_ble_eq_true rfl) (fun K hC => ?_)
  show J K (wX g) 1 (QI K g (wX g) o) 0 [(0, .ref (g.1 2))] [] s0
  unfold X5_passSemicolon_f at h
  refine j_aload_n hC dX5_passSemicolon_0 rfl 0 rfl ?_
  refine get_X5_40 hC dX5_passSemicolon_1 ?_
  refine j_iconst (v := 4) hC dX5_passSemicolon_4 (by decide) ?_
  refine j_icmp_eq (tgt := 14) hC dX5_passSemicolon_5 (by decide) h ?_ ?_
  · intro h
    refine j_aload_n hC dX5_passSemicolon_14 rfl 0 rfl ?_
    obtain ⟨v1, s1, hc, h⟩ := cal_some h
    refine call_X5_29 hC (fun l D => X5_step_ok l D g hc) (by decide) (Nat.le_of_ble_eq_true rfl) dX5_passSemicolon_15 ?_
    refine j_iconst (v := 1) hC dX5_passSemicolon_18 (by decide) ?_
    exact j_iret hC dX5_passSemicolon_19 rfl h
  · intro h
    refine j_aload_n hC dX5_passSemicolon_8 rfl 0 rfl ?_
    refine j_iconst (v := 1) hC dX5_passSemicolon_9 (by decide) ?_
    obtain ⟨v2, s2, hc, h⟩ := cal_some h
    refine call_X5_74 hC (fun l D => X5_refuse_ok l D g hc) (by decide) (Nat.le_of_ble_eq_true rfl) dX5_passSemicolon_10 ?_
    obtain ⟨hz, h⟩ := chk_some h
    exact j_iret hC dX5_passSemicolon_13 (isZ_nar hz) h
