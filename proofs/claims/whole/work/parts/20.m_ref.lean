set_option maxRecDepth 20000 in
def X7_thrown_f (N : Nat) (s0 : St) : Option (Int32 × St) :=
  some (gi s0 0, s0)
set_option maxRecDepth 20000 in
theorem X7_thrown_ok (l : Launch) (D : va_G) (g : Gm) {N : Nat} {s0 : St} {o : Int32 × St} (h : X7_thrown_f N s0 = some o) : MI l yX7_thrown cX7_thrown 1 (some .int) 0 D g (wM g) [.ref (g.1 0)] s0 o := by
  refine met_I (own := RX7) (by decide) rfl (Nat.le_of_ble_eq_true rfl) (fun K hC => ?_)
  show J K (wM g) 1 (QI K g (wM g) o) 0 [(0, .ref (g.1 0))] [] s0
  unfold X7_thrown_f at h
  refine j_aload_n hC dX7_thrown_0 rfl 0 rfl ?_
  refine get_X7_105 hC dX7_thrown_1 ?_
  exact j_iret hC dX7_thrown_4 rfl h
set_option maxRecDepth 20000 in
def X7_refuse_f (N : Nat) (s0 : St) : Option (Int32 × St) :=
  bnd (si s0 0 1) fun s1 =>
  some (0, s1)
set_option maxRecDepth 20000 in
theorem X7_refuse_ok (l : Launch) (D : va_G) (g : Gm) {N : Nat} {s0 : St} {o : Int32 × St} (h : X7_refuse_f N s0 = some o) : MI l yX7_refuse cX7_refuse 1 (some .int) 0 D g (wM g) [.ref (g.1 0)] s0 o := by
  refine met_I (own := RX7) (by decide) rfl (Nat.le_of_ble_eq_true rfl) (fun K hC => ?_)
  show J K (wM g) 1 (QI K g (wM g) o) 0 [(0, .ref (g.1 0))] [] s0
  unfold X7_refuse_f at h
  refine j_aload_n hC dX7_refuse_0 rfl 0 rfl ?_
  refine j_iconst (v := 1) hC dX7_refuse_1 (by decide) ?_
  refine put_X7_105 hC dX7_refuse_2 h ?_
  intro s1 h
  refine j_iconst (v := 0) hC dX7_refuse_5 (by decide) ?_
  exact j_iret hC dX7_refuse_6 rfl h
set_option maxRecDepth 20000 in
def X7_come_l3 (N : Nat) : Nat → Int32 → Int32 → St → Option (Int32 × St)
  | 0 => fun _ _ _ => none
  | n + 1 => fun x1 x2 s0 =>
  if x2 < 0 then
  some (0, s0)
  else
  ast s0 0 260 (gi s0 1) ((iushr x1 x2) &&& 255) fun s1 =>
    bnd (si s1 1 ((gi s1 1) + 1)) fun s2 =>
    bnd (x2 + (-8)) fun v1 =>
    (X7_come_l3 N n) x1 v1 s2
set_option maxRecDepth 20000 in
theorem X7_come_l3_ok {K : Kx} {g : Gm} {N : Nat} {o : Int32 × St} (hC : Ok K cX7_come RX7 g 3 0 none) : ∀ (n : Nat) (x1 : Int32) (x2 : Int32) (s0 : St), X7_come_l3 N n x1 x2 s0 = some o → J K (wM g) 3 (QV K g (wM g) o) 3 [(0, .ref (g.1 0)), (1, .int x1), (2, .int x2)] [] s0 := by
  intro n
  induction n with
  | zero => intro x1 x2 s0 h; cases h
  | succ n ih =>
    intro x1 x2 s0 h
    rw [X7_come_l3] at h
    refine j_iload_n hC dX7_come_3 rfl 2 rfl ?_
    refine j_if_lt (tgt := 39) hC dX7_come_4 (by decide) h ?_ ?_
    · intro h
      exact j_vret (v := 0) hC dX7_come_39 h
    · intro h
      refine j_aload_n hC dX7_come_7 rfl 0 rfl ?_
      refine get_X7_7 hC dX7_come_8 ?_
      refine j_aload_n hC dX7_come_11 rfl 0 rfl ?_
      refine get_X7_109 hC dX7_come_12 ?_
      refine j_iload_n hC dX7_come_15 rfl 1 rfl ?_
      refine j_iload_n hC dX7_come_16 rfl 2 rfl ?_
      refine j_iushr hC dX7_come_17 ?_
      refine j_pc (n2 := 18) rfl ?_
      refine j_sipush (v := 255) hC dX7_come_18 (by decide) ?_
      refine j_iand hC dX7_come_21 ?_
      refine ast_X7_tape hC dX7_come_22 h ?_
      intro s1 h
      refine j_aload_n hC dX7_come_23 rfl 0 rfl ?_
      refine j_dup hC rfl dX7_come_24 ?_
      refine get_X7_109 hC dX7_come_25 ?_
      refine j_iconst (v := 1) hC dX7_come_28 (by decide) ?_
      refine j_iadd hC dX7_come_29 ?_
      refine j_pc (n2 := 30) rfl ?_
      refine put_X7_109 hC dX7_come_30 h ?_
      intro s2 h
      refine j_iincb (n2 := (-8)) (k0 := 2) (lv2 := fun z => [(2, .int z), (0, .ref (g.1 0)), (1, .int x1)]) hC dX7_come_33 rfl (by decide) (by decide) (fun _ => rfl) h (fun v1 h => ?_)
      refine j_goto (tgt := 3) hC dX7_come_36 (by decide) ?_
      refine j_sub [1, 2, 0] rfl ?_
      exact ih x1 v1 s2 h
set_option maxRecDepth 20000 in
def X7_come_f (N : Nat) (x1 : Int32) (s0 : St) : Option (Int32 × St) :=
  X7_come_l3 N N x1 24 s0
set_option maxRecDepth 20000 in
theorem X7_come_ok (l : Launch) (D : va_G) (g : Gm) {N : Nat} {x1 : Int32} {s0 : St} {o : Int32 × St} (h : X7_come_f N x1 s0 = some o) : MV l yX7_come cX7_come 3 none 0 D g (wM g) [.ref (g.1 0), .int x1] s0 o := by
  refine met_V (own := RX7) (by decide) rfl (Nat.le_of_ble_eq_true rfl) (fun K hC => ?_)
  show J K (wM g) 3 (QV K g (wM g) o) 0 [(0, .ref (g.1 0)), (1, .int x1)] [] s0
  unfold X7_come_f at h
  refine j_bipush (v := 24) hC dX7_come_0 (by decide) ?_
  refine j_istore_n hC dX7_come_2 rfl (by decide) rfl ?_
  refine j_sub [1, 2, 0] rfl ?_
  exact X7_come_l3_ok hC N x1 24 s0 h
set_option maxRecDepth 20000 in
def X7_feed_f (N : Nat) (x1 : Int32) (x2 : Int32) (x3 : Int32) (x4 : Int32) (x5 : Int32) (s0 : St) : Option (Int32 × St) :=
  bnd (si s0 0 0) fun s1 =>
  if (gi s1 1) + 20 ≤ 260 then
  cal (X7_come_f N x1 s1) fun _ s2 =>
    cal (X7_come_f N x2 s2) fun _ s3 =>
    cal (X7_come_f N x3 s3) fun _ s4 =>
    cal (X7_come_f N x4 s4) fun _ s5 =>
    cal (X7_come_f N x5 s5) fun _ s6 =>
    some (gi s6 1, s6)
  else
  some ((-1), s1)
set_option maxRecDepth 20000 in
theorem X7_feed_ok (l : Launch) (D : va_G) (g : Gm) {N : Nat} {x1 : Int32} {x2 : Int32} {x3 : Int32} {x4 : Int32} {x5 : Int32} {s0 : St} {o : Int32 × St} (h : X7_feed_f N x1 x2 x3 x4 x5 s0 = some o) : MI l yX7_feed cX7_feed 6 (some .int) 1 D g (wM g) [.ref (g.1 0), .int x1, .int x2, .int x3, .int x4, .int x5] s0 o := by
  refine met_I (own := RX7) (by decide) rfl (Nat.le_of_ble_eq_true rfl) (fun K hC => ?_)
  show J K (wM g) 6 (QI K g (wM g) o) 0 [(0, .ref (g.1 0)), (1, .int x1), (2, .int x2), (3, .int x3), (4, .int x4), (5, .int x5)] [] s0
  unfold X7_feed_f at h
  refine j_aload_n hC dX7_feed_0 rfl 0 rfl ?_
  refine j_iconst (v := 0) hC dX7_feed_1 (by decide) ?_
  refine put_X7_105 hC dX7_feed_2 h ?_
  intro s1 h
  refine j_aload_n hC dX7_feed_5 rfl 0 rfl ?_
  refine get_X7_109 hC dX7_feed_6 ?_
  refine j_bipush (v := 20) hC dX7_feed_9 (by decide) ?_
  refine j_iadd hC dX7_feed_11 ?_
  refine j_pc (n2 := 12) rfl ?_
  refine j_sipush (v := 260) hC dX7_feed_12 (by decide) ?_
  refine j_icmp_le (tgt := 20) hC dX7_feed_15 (by decide) h ?_ ?_
  · intro h
    refine j_aload_n hC dX7_feed_20 rfl 0 rfl ?_
    refine j_iload_n hC dX7_feed_21 rfl 1 rfl ?_
    obtain ⟨v1, s2, hc, h⟩ := cal_some h
    refine call_X7_112 hC (fun l D => X7_come_ok l D g hc) (by decide) (Nat.le_of_ble_eq_true rfl) dX7_feed_22 ?_
    refine j_aload_n hC dX7_feed_25 rfl 0 rfl ?_
    refine j_iload_n hC dX7_feed_26 rfl 2 rfl ?_
    obtain ⟨v2, s3, hc, h⟩ := cal_some h
    refine call_X7_112 hC (fun l D => X7_come_ok l D g hc) (by decide) (Nat.le_of_ble_eq_true rfl) dX7_feed_27 ?_
    refine j_aload_n hC dX7_feed_30 rfl 0 rfl ?_
    refine j_pc (n2 := 31) rfl ?_
    refine j_iload_n hC dX7_feed_31 rfl 3 rfl ?_
    obtain ⟨v3, s4, hc, h⟩ := cal_some h
    refine call_X7_112 hC (fun l D => X7_come_ok l D g hc) (by decide) (Nat.le_of_ble_eq_true rfl) dX7_feed_32 ?_
    refine j_aload_n hC dX7_feed_35 rfl 0 rfl ?_
    refine j_iload hC dX7_feed_36 4 rfl ?_
    obtain ⟨v4, s5, hc, h⟩ := cal_some h
    refine call_X7_112 hC (fun l D => X7_come_ok l D g hc) (by decide) (Nat.le_of_ble_eq_true rfl) dX7_feed_38 ?_
    refine j_aload_n hC dX7_feed_41 rfl 0 rfl ?_
    refine j_iload hC dX7_feed_42 5 rfl ?_
    obtain ⟨v5, s6, hc, h⟩ := cal_some h
    refine call_X7_112 hC (fun l D => X7_come_ok l D g hc) (by decide) (Nat.le_of_ble_eq_true rfl) dX7_feed_44 ?_
    refine j_pc (n2 := 47) rfl ?_
    refine j_aload_n hC dX7_feed_47 rfl 0 rfl ?_
    refine get_X7_109 hC dX7_feed_48 ?_
    exact j_iret hC dX7_feed_51 rfl h
  · intro h
    refine j_iconst (v := (-1)) hC dX7_feed_18 (by decide) ?_
    exact j_iret hC dX7_feed_19 rfl h
set_option maxRecDepth 20000 in
def X7_end_f (N : Nat) (x1 : Int32) (s0 : St) : Option (Int32 × St) :=
  bnd (si s0 0 0) fun s1 =>
  if x1 < 0 then
  some (0, s1)
  else
  if x1 ≤ gi s1 1 then
    bnd (si s1 1 x1) fun s2 =>
      some (1, s2)
    else
    some (0, s1)
set_option maxRecDepth 20000 in
theorem X7_end_ok (l : Launch) (D : va_G) (g : Gm) {N : Nat} {x1 : Int32} {s0 : St} {o : Int32 × St} (h : X7_end_f N x1 s0 = some o) : MI l yX7_end cX7_end 2 (some .boolean) 0 D g (wM g) [.ref (g.1 0), .int x1] s0 o := by
  refine met_I (own := RX7) (by decide) rfl (Nat.le_of_ble_eq_true rfl) (fun K hC => ?_)
  show J K (wM g) 2 (QI K g (wM g) o) 0 [(0, .ref (g.1 0)), (1, .int x1)] [] s0
  unfold X7_end_f at h
  refine j_aload_n hC dX7_end_0 rfl 0 rfl ?_
  refine j_iconst (v := 0) hC dX7_end_1 (by decide) ?_
  refine put_X7_105 hC dX7_end_2 h ?_
  intro s1 h
  refine j_iload_n hC dX7_end_5 rfl 1 rfl ?_
  refine j_if_lt (tgt := 17) hC dX7_end_6 (by decide) h ?_ ?_
  · intro h
    refine j_iconst (v := 0) hC dX7_end_17 (by decide) ?_
    exact j_iret hC dX7_end_18 rfl h
  · intro h
    refine j_iload_n hC dX7_end_9 rfl 1 rfl ?_
    refine j_aload_n hC dX7_end_10 rfl 0 rfl ?_
    refine get_X7_109 hC dX7_end_11 ?_
    refine j_icmp_le (tgt := 19) hC dX7_end_14 (by decide) h ?_ ?_
    · intro h
      refine j_aload_n hC dX7_end_19 rfl 0 rfl ?_
      refine j_iload_n hC dX7_end_20 rfl 1 rfl ?_
      refine put_X7_109 hC dX7_end_21 h ?_
      intro s2 h
      refine j_iconst (v := 1) hC dX7_end_24 (by decide) ?_
      exact j_iret hC dX7_end_25 rfl h
    · intro h
      refine j_iconst (v := 0) hC dX7_end_17 (by decide) ?_
      exact j_iret hC dX7_end_18 rfl h
set_option maxRecDepth 20000 in
def X7_byteAt_f (N : Nat) (x1 : Int32) (s0 : St) : Option (Int32 × St) :=
  if gi s0 2 ≤ x1 then
  some (0, s0)
  else
  ald s0 0 260 x1 fun v1 =>
    some (v1, s0)
set_option maxRecDepth 20000 in
theorem X7_byteAt_ok (l : Launch) (D : va_G) (g : Gm) {N : Nat} {x1 : Int32} {s0 : St} {o : Int32 × St} (h : X7_byteAt_f N x1 s0 = some o) : MI l yX7_byteAt cX7_byteAt 2 (some .int) 0 D g (wM g) [.ref (g.1 0), .int x1] s0 o := by
  refine met_I (own := RX7) (by decide) rfl (Nat.le_of_ble_eq_true rfl) (fun K hC => ?_)
  show J K (wM g) 2 (QI K g (wM g) o) 0 [(0, .ref (g.1 0)), (1, .int x1)] [] s0
  unfold X7_byteAt_f at h
  refine j_iload_n hC dX7_byteAt_0 rfl 1 rfl ?_
  refine j_aload_n hC dX7_byteAt_1 rfl 0 rfl ?_
  refine get_X7_116 hC dX7_byteAt_2 ?_
  refine j_icmp_ge (tgt := 17) hC dX7_byteAt_5 (by decide) h ?_ ?_
  · intro h
    refine j_iconst (v := 0) hC dX7_byteAt_17 (by decide) ?_
    exact j_iret hC dX7_byteAt_18 rfl h
  · intro h
    refine j_aload_n hC dX7_byteAt_8 rfl 0 rfl ?_
    refine get_X7_7 hC dX7_byteAt_9 ?_
    refine j_iload_n hC dX7_byteAt_12 rfl 1 rfl ?_
    refine ald_X7_tape hC dX7_byteAt_13 h ?_
    intro v1 h
    refine j_goto (tgt := 18) hC dX7_byteAt_14 (by decide) ?_
    exact j_iret hC dX7_byteAt_18 rfl h
set_option maxRecDepth 20000 in
def X7_isDigit_f (N : Nat) (x0 : Int32) (s0 : St) : Option (Int32 × St) :=
  if x0 < 48 then
  some (0, s0)
  else
  if 57 < x0 then
    some (0, s0)
    else
    some (1, s0)
set_option maxRecDepth 20000 in
theorem X7_isDigit_ok (l : Launch) (D : va_G) (g : Gm) {N : Nat} {x0 : Int32} {s0 : St} {o : Int32 × St} (h : X7_isDigit_f N x0 s0 = some o) : MI l yX7_isDigit cX7_isDigit 1 (some .boolean) 0 D g (wM g) [.int x0] s0 o := by
  refine met_I (own := RX7) (by decide) rfl (Nat.le_of_ble_eq_true rfl) (fun K hC => ?_)
  show J K (wM g) 1 (QI K g (wM g) o) 0 [(0, .int x0)] [] s0
  unfold X7_isDigit_f at h
  refine j_iload_n hC dX7_isDigit_0 rfl 0 rfl ?_
  refine j_bipush (v := 48) hC dX7_isDigit_1 (by decide) ?_
  refine j_icmp_lt (tgt := 16) hC dX7_isDigit_3 (by decide) h ?_ ?_
  · intro h
    refine j_iconst (v := 0) hC dX7_isDigit_16 (by decide) ?_
    exact j_iret hC dX7_isDigit_17 rfl h
  · intro h
    refine j_iload_n hC dX7_isDigit_6 rfl 0 rfl ?_
    refine j_bipush (v := 57) hC dX7_isDigit_7 (by decide) ?_
    refine j_icmp_gt (tgt := 16) hC dX7_isDigit_9 (by decide) h ?_ ?_
    · intro h
      refine j_iconst (v := 0) hC dX7_isDigit_16 (by decide) ?_
      exact j_iret hC dX7_isDigit_17 rfl h
    · intro h
      refine j_iconst (v := 1) hC dX7_isDigit_12 (by decide) ?_
      refine j_goto (tgt := 17) hC dX7_isDigit_13 (by decide) ?_
      exact j_iret hC dX7_isDigit_17 rfl h
set_option maxRecDepth 20000 in
def X7_isLetter_f (N : Nat) (x0 : Int32) (s0 : St) : Option (Int32 × St) :=
  if x0 < 97 then
  some (0, s0)
  else
  if 122 < x0 then
    some (0, s0)
    else
    some (1, s0)
set_option maxRecDepth 20000 in
theorem X7_isLetter_ok (l : Launch) (D : va_G) (g : Gm) {N : Nat} {x0 : Int32} {s0 : St} {o : Int32 × St} (h : X7_isLetter_f N x0 s0 = some o) : MI l yX7_isLetter cX7_isLetter 1 (some .boolean) 0 D g (wM g) [.int x0] s0 o := by
  refine met_I (own := RX7) (by decide) rfl (Nat.le_of_ble_eq_true rfl) (fun K hC => ?_)
  show J K (wM g) 1 (QI K g (wM g) o) 0 [(0, .int x0)] [] s0
  unfold X7_isLetter_f at h
  refine j_iload_n hC dX7_isLetter_0 rfl 0 rfl ?_
  refine j_bipush (v := 97) hC dX7_isLetter_1 (by decide) ?_
  refine j_icmp_lt (tgt := 16) hC dX7_isLetter_3 (by decide) h ?_ ?_
  · intro h
    refine j_iconst (v := 0) hC dX7_isLetter_16 (by decide) ?_
    exact j_iret hC dX7_isLetter_17 rfl h
  · intro h
    refine j_iload_n hC dX7_isLetter_6 rfl 0 rfl ?_
    refine j_bipush (v := 122) hC dX7_isLetter_7 (by decide) ?_
    refine j_icmp_gt (tgt := 16) hC dX7_isLetter_9 (by decide) h ?_ ?_
    · intro h
      refine j_iconst (v := 0) hC dX7_isLetter_16 (by decide) ?_
      exact j_iret hC dX7_isLetter_17 rfl h
    · intro h
      refine j_iconst (v := 1) hC dX7_isLetter_12 (by decide) ?_
      refine j_goto (tgt := 17) hC dX7_isLetter_13 (by decide) ?_
      exact j_iret hC dX7_isLetter_17 rfl h
set_option maxRecDepth 20000 in
def X7_go_l356 (N : Nat) (t1 : Int32) (s0 : St) : Option (Int32 × St) :=
  bnd (si s0 6 t1) fun s1 =>
  some (0, s1)
set_option maxRecDepth 20000 in
theorem X7_go_l356_ok {K : Kx} {g : Gm} {N : Nat} {o : Int32 × St} (hC : Ok K cX7_go RX7 g 5 1 none) : ∀ (t1 : Int32) (s0 : St), X7_go_l356 N t1 s0 = some o → J K (wM g) 5 (QV K g (wM g) o) 356 [] [.int t1, .ref (g.1 0)] s0 := by
  intro t1 s0 h
  unfold X7_go_l356 at h
  refine put_X7_128 hC dX7_go_356 h ?_
  intro s1 h
  exact j_vret (v := 0) hC dX7_go_359 h
set_option maxRecDepth 20000 in
def X7_go_l347 (N : Nat) (x2 : Int32) (s0 : St) : Option (Int32 × St) :=
  if x2 = 0 then
  X7_go_l356 N 3 s0
  else
  X7_go_l356 N 2 s0
set_option maxRecDepth 20000 in
theorem X7_go_l347_ok {K : Kx} {g : Gm} {N : Nat} {o : Int32 × St} (hC : Ok K cX7_go RX7 g 5 1 none) : ∀ (x2 : Int32) (s0 : St), X7_go_l347 N x2 s0 = some o → J K (wM g) 5 (QV K g (wM g) o) 347 [(2, .int x2)] [.ref (g.1 0)] s0 := by
  intro x2 s0 h
  unfold X7_go_l347 at h
  refine j_iload_n hC dX7_go_347 rfl 0 rfl ?_
  refine j_if_eq (tgt := 355) hC dX7_go_348 (by decide) h ?_ ?_
  · intro h
    refine j_iconst (v := 3) hC dX7_go_355 (by decide) ?_
    refine j_sub [] rfl ?_
    exact X7_go_l356_ok hC 3 s0 h
  · intro h
    refine j_iconst (v := 2) hC dX7_go_351 (by decide) ?_
    refine j_goto (tgt := 356) hC dX7_go_352 (by decide) ?_
    refine j_sub [] rfl ?_
    exact X7_go_l356_ok hC 2 s0 h
set_option maxRecDepth 20000 in
def X7_go_l343 (N : Nat) (s0 : St) : Option (Int32 × St) :=
  X7_go_l356 N 1 s0
set_option maxRecDepth 20000 in
theorem X7_go_l343_ok {K : Kx} {g : Gm} {N : Nat} {o : Int32 × St} (hC : Ok K cX7_go RX7 g 5 1 none) : ∀ (s0 : St), X7_go_l343 N  s0 = some o → J K (wM g) 5 (QV K g (wM g) o) 343 [] [.ref (g.1 0)] s0 := by
  intro  s0 h
  unfold X7_go_l343 at h
  refine j_iconst (v := 1) hC dX7_go_343 (by decide) ?_
  refine j_goto (tgt := 356) hC dX7_go_344 (by decide) ?_
  refine j_sub [] rfl ?_
  exact X7_go_l356_ok hC 1 s0 h
set_option maxRecDepth 20000 in
def X7_go_l308 (N : Nat) (k180 : Int32 → Int32 → St → Option (Int32 × St)) (x2 : Int32) (x3 : Int32) (s0 : St) : Option (Int32 × St) :=
  bnd (si s0 4 ((gi s0 4) + 1)) fun s1 =>
  k180 x2 x3 s1
set_option maxRecDepth 20000 in
theorem X7_go_l308_ok {K : Kx} {g : Gm} {N : Nat} {o : Int32 × St} (hC : Ok K cX7_go RX7 g 5 1 none) {k180 : Int32 → Int32 → St → Option (Int32 × St)} (hk180 : ∀ (x2 : Int32) (x3 : Int32) (s0 : St), k180 x2 x3 s0 = some o → J K (wM g) 5 (QV K g (wM g) o) 180 [(0, .ref (g.1 0)), (2, .int x2), (3, .int x3)] [] s0) : ∀ (x2 : Int32) (x3 : Int32) (s0 : St), X7_go_l308 N k180 x2 x3 s0 = some o → J K (wM g) 5 (QV K g (wM g) o) 308 [(0, .ref (g.1 0)), (2, .int x2), (3, .int x3)] [] s0 := by
  intro x2 x3 s0 h
  unfold X7_go_l308 at h
  refine j_aload_n hC dX7_go_308 rfl 0 rfl ?_
  refine j_dup hC rfl dX7_go_309 ?_
  refine get_X7_119 hC dX7_go_310 ?_
  refine j_iconst (v := 1) hC dX7_go_313 (by decide) ?_
  refine j_iadd hC dX7_go_314 ?_
  refine put_X7_119 hC dX7_go_315 h ?_
  intro s1 h
  refine j_goto (tgt := 180) hC dX7_go_318 (by decide) ?_
  refine j_sub [0, 1, 2] rfl ?_
  exact hk180 x2 x3 s1 h
set_option maxRecDepth 20000 in
def X7_go_l275 (N : Nat) (k180 : Int32 → Int32 → St → Option (Int32 × St)) (x2 : Int32) (x3 : Int32) (x4 : Int32) (t1 : Int64) (s0 : St) : Option (Int32 × St) :=
  bnd (sl s0 t1) fun s1 =>
  if 4 ≤ (gi s1 4) - (gi s1 5) then
  X7_go_l308 N k180 x2 x3 s1
  else
  bnd (si s1 7 ((((10 : Int32) * (gi s1 7)) + x4) - 48)) fun s2 =>
    X7_go_l308 N k180 x2 x3 s2
set_option maxRecDepth 20000 in
theorem X7_go_l275_ok {K : Kx} {g : Gm} {N : Nat} {o : Int32 × St} (hC : Ok K cX7_go RX7 g 5 1 none) {k180 : Int32 → Int32 → St → Option (Int32 × St)} (hk180 : ∀ (x2 : Int32) (x3 : Int32) (s0 : St), k180 x2 x3 s0 = some o → J K (wM g) 5 (QV K g (wM g) o) 180 [(0, .ref (g.1 0)), (2, .int x2), (3, .int x3)] [] s0) : ∀ (x2 : Int32) (x3 : Int32) (x4 : Int32) (t1 : Int64) (s0 : St), X7_go_l275 N k180 x2 x3 x4 t1 s0 = some o → J K (wM g) 5 (QV K g (wM g) o) 275 [(0, .ref (g.1 0)), (2, .int x2), (3, .int x3), (4, .int x4)] [.long t1, .ref (g.1 0)] s0 := by
  intro x2 x3 x4 t1 s0 h
  unfold X7_go_l275 at h
  refine put_X7_138 hC dX7_go_275 h ?_
  intro s1 h
  refine j_aload_n hC dX7_go_278 rfl 0 rfl ?_
  refine get_X7_119 hC dX7_go_279 ?_
  refine j_aload_n hC dX7_go_282 rfl 0 rfl ?_
  refine get_X7_122 hC dX7_go_283 ?_
  refine j_isub hC dX7_go_286 ?_
  refine j_iconst (v := 4) hC dX7_go_287 (by decide) ?_
  refine j_pc (n2 := 288) rfl ?_
  refine j_icmp_ge (tgt := 308) hC dX7_go_288 (by decide) h ?_ ?_
  · intro h
    refine j_sub [0, 1, 2] rfl ?_
    exact X7_go_l308_ok hC hk180 x2 x3 s1 h
  · intro h
    refine j_aload_n hC dX7_go_291 rfl 0 rfl ?_
    refine j_bipush (v := 10) hC dX7_go_292 (by decide) ?_
    refine j_aload_n hC dX7_go_294 rfl 0 rfl ?_
    refine get_X7_142 hC dX7_go_295 ?_
    refine j_imul hC dX7_go_298 ?_
    refine j_iload hC dX7_go_299 3 rfl ?_
    refine j_iadd hC dX7_go_301 ?_
    refine j_pc (n2 := 302) rfl ?_
    refine j_bipush (v := 48) hC dX7_go_302 (by decide) ?_
    refine j_isub hC dX7_go_304 ?_
    refine put_X7_142 hC dX7_go_305 h ?_
    intro s2 h
    refine j_sub [0, 1, 2] rfl ?_
    exact X7_go_l308_ok hC hk180 x2 x3 s2 h
set_option maxRecDepth 20000 in
def X7_go_l237 (N : Nat) (k180 : Int32 → Int32 → St → Option (Int32 × St)) (x2 : Int32) (x4 : Int32) (t0 : Int32) (s0 : St) : Option (Int32 × St) :=
  if 7 ≤ (gi s0 4) - (gi s0 5) then
  X7_go_l275 N k180 x2 t0 x4 ((-1)) s0
  else
  X7_go_l275 N k180 x2 t0 x4 ((((27 : Int64) * (gl s0)) + ((x4 : Int32).toInt64)) - 96) s0
set_option maxRecDepth 20000 in
theorem X7_go_l237_ok {K : Kx} {g : Gm} {N : Nat} {o : Int32 × St} (hC : Ok K cX7_go RX7 g 5 1 none) {k180 : Int32 → Int32 → St → Option (Int32 × St)} (hk180 : ∀ (x2 : Int32) (x3 : Int32) (s0 : St), k180 x2 x3 s0 = some o → J K (wM g) 5 (QV K g (wM g) o) 180 [(0, .ref (g.1 0)), (2, .int x2), (3, .int x3)] [] s0) : ∀ (x2 : Int32) (x4 : Int32) (t0 : Int32) (s0 : St), X7_go_l237 N k180 x2 x4 t0 s0 = some o → J K (wM g) 5 (QV K g (wM g) o) 237 [(0, .ref (g.1 0)), (2, .int x2), (4, .int x4)] [.int t0] s0 := by
  intro x2 x4 t0 s0 h
  unfold X7_go_l237 at h
  refine j_istore_n hC dX7_go_237 rfl (by decide) rfl ?_
  refine j_aload_n hC dX7_go_238 rfl 1 rfl ?_
  refine j_aload_n hC dX7_go_239 rfl 1 rfl ?_
  refine get_X7_119 hC dX7_go_240 ?_
  refine j_aload_n hC dX7_go_243 rfl 1 rfl ?_
  refine get_X7_122 hC dX7_go_244 ?_
  refine j_isub hC dX7_go_247 ?_
  refine j_pc (n2 := 248) rfl ?_
  refine j_bipush (v := 7) hC dX7_go_248 (by decide) ?_
  refine j_icmp_ge (tgt := 272) hC dX7_go_250 (by decide) h ?_ ?_
  · intro h
    refine j_ldc2 (v := (-1)) hC mc_X7_153 dX7_go_272 ?_
    refine j_sub [1, 2, 0, 3] rfl ?_
    exact X7_go_l275_ok hC hk180 x2 t0 x4 ((-1)) s0 h
  · intro h
    refine j_ldc2 (v := 27) hC mc_X7_149 dX7_go_253 ?_
    refine j_aload_n hC dX7_go_256 rfl 1 rfl ?_
    refine get_X7_138 hC dX7_go_257 ?_
    refine j_lmul hC dX7_go_260 ?_
    refine j_iload hC dX7_go_261 3 rfl ?_
    refine j_i2l hC dX7_go_263 ?_
    refine j_ladd hC dX7_go_264 ?_
    refine j_pc (n2 := 265) rfl ?_
    refine j_ldc2 (v := 96) hC mc_X7_151 dX7_go_265 ?_
    refine j_lsub hC dX7_go_268 ?_
    refine j_goto (tgt := 275) hC dX7_go_269 (by decide) ?_
    refine j_sub [1, 2, 0, 3] rfl ?_
    exact X7_go_l275_ok hC hk180 x2 t0 x4 ((((27 : Int64) * (gl s0)) + ((x4 : Int32).toInt64)) - 96) s0 h
set_option maxRecDepth 20000 in
def X7_go_l236 (N : Nat) (k180 : Int32 → Int32 → St → Option (Int32 × St)) (x2 : Int32) (x4 : Int32) (s0 : St) : Option (Int32 × St) :=
  X7_go_l237 N k180 x2 x4 0 s0
set_option maxRecDepth 20000 in
theorem X7_go_l236_ok {K : Kx} {g : Gm} {N : Nat} {o : Int32 × St} (hC : Ok K cX7_go RX7 g 5 1 none) {k180 : Int32 → Int32 → St → Option (Int32 × St)} (hk180 : ∀ (x2 : Int32) (x3 : Int32) (s0 : St), k180 x2 x3 s0 = some o → J K (wM g) 5 (QV K g (wM g) o) 180 [(0, .ref (g.1 0)), (2, .int x2), (3, .int x3)] [] s0) : ∀ (x2 : Int32) (x4 : Int32) (s0 : St), X7_go_l236 N k180 x2 x4 s0 = some o → J K (wM g) 5 (QV K g (wM g) o) 236 [(0, .ref (g.1 0)), (2, .int x2), (4, .int x4)] [] s0 := by
  intro x2 x4 s0 h
  unfold X7_go_l236 at h
  refine j_iconst (v := 0) hC dX7_go_236 (by decide) ?_
  refine j_sub [0, 1, 2] rfl ?_
  exact X7_go_l237_ok hC hk180 x2 x4 0 s0 h
set_option maxRecDepth 20000 in
def X7_go_l208 (N : Nat) (k180 : Int32 → Int32 → St → Option (Int32 × St)) (x2 : Int32) (x3 : Int32) (s0 : St) : Option (Int32 × St) :=
  ald s0 0 260 (gi s0 4) fun v1 =>
  if x3 = 0 then
  X7_go_l236 N k180 x2 v1 s0
  else
  cal (X7_isLetter_f N v1 s0) fun v2 s1 =>
    if v2 = x2 then
    X7_go_l237 N k180 x2 v1 1 s1
    else
    X7_go_l236 N k180 x2 v1 s1
set_option maxRecDepth 20000 in
theorem X7_go_l208_ok {K : Kx} {g : Gm} {N : Nat} {o : Int32 × St} (hC : Ok K cX7_go RX7 g 5 1 none) {k180 : Int32 → Int32 → St → Option (Int32 × St)} (hk180 : ∀ (x2 : Int32) (x3 : Int32) (s0 : St), k180 x2 x3 s0 = some o → J K (wM g) 5 (QV K g (wM g) o) 180 [(0, .ref (g.1 0)), (2, .int x2), (3, .int x3)] [] s0) : ∀ (x2 : Int32) (x3 : Int32) (s0 : St), X7_go_l208 N k180 x2 x3 s0 = some o → J K (wM g) 5 (QV K g (wM g) o) 208 [(0, .ref (g.1 0)), (2, .int x2), (3, .int x3)] [] s0 := by
  intro x2 x3 s0 h
  unfold X7_go_l208 at h
  refine j_aload_n hC dX7_go_208 rfl 0 rfl ?_
  refine get_X7_7 hC dX7_go_209 ?_
  refine j_aload_n hC dX7_go_212 rfl 0 rfl ?_
  refine get_X7_119 hC dX7_go_213 ?_
  refine ald_X7_tape hC dX7_go_216 h ?_
  intro v1 h
  refine j_istore hC dX7_go_217 (by decide) rfl ?_
  refine j_iload_n hC dX7_go_219 rfl 3 rfl ?_
  refine j_pc (n2 := 220) rfl ?_
  refine j_if_eq (tgt := 236) hC dX7_go_220 (by decide) h ?_ ?_
  · intro h
    refine j_sub [1, 2, 0] rfl ?_
    exact X7_go_l236_ok hC hk180 x2 v1 s0 h
  · intro h
    refine j_iload hC dX7_go_223 0 rfl ?_
    obtain ⟨v2, s1, hc, h⟩ := cal_some h
    refine call_X7_131 hC (fun l D => X7_isLetter_ok l D g hc) (by decide) (Nat.le_of_ble_eq_true rfl) dX7_go_225 ?_
    refine j_iload_n hC dX7_go_228 rfl 2 rfl ?_
    refine j_icmp_ne (tgt := 236) hC dX7_go_229 (by decide) h ?_ ?_
    · intro h
      refine j_sub [1, 2, 0] rfl ?_
      exact X7_go_l236_ok hC hk180 x2 v1 s1 h
    · intro h
      refine j_iconst (v := 1) hC dX7_go_232 (by decide) ?_
      refine j_goto (tgt := 237) hC dX7_go_233 (by decide) ?_
      refine j_sub [1, 2, 0] rfl ?_
      exact X7_go_l237_ok hC hk180 x2 v1 1 s1 h
set_option maxRecDepth 20000 in
def X7_go_l180 (N : Nat) : Nat → Int32 → Int32 → St → Option (Int32 × St)
  | 0 => fun _ _ _ => none
  | n + 1 => fun x2 x3 s0 =>
  cal (X7_byteAt_f N (gi s0 4) s0) fun v1 s1 =>
  cal (X7_isLetter_f N v1 s1) fun v2 s2 =>
  if v2 = 0 then
  cal (X7_byteAt_f N (gi s2 4) s2) fun v3 s3 =>
    cal (X7_isDigit_f N v3 s3) fun v4 s4 =>
    if v4 = 0 then
    if x3 = 0 then
      X7_go_l343 N s4
      else
      if x2 = 0 then
        if (gi s4 4) - (gi s4 5) ≤ 4 then
          X7_go_l347 N x2 s4
          else
          X7_go_l343 N s4
        else
        X7_go_l347 N x2 s4
    else
    X7_go_l208 N (X7_go_l180 N n) x2 x3 s4
  else
  X7_go_l208 N (X7_go_l180 N n) x2 x3 s2
set_option maxRecDepth 20000 in
theorem X7_go_l180_ok {K : Kx} {g : Gm} {N : Nat} {o : Int32 × St} (hC : Ok K cX7_go RX7 g 5 1 none) : ∀ (n : Nat) (x2 : Int32) (x3 : Int32) (s0 : St), X7_go_l180 N n x2 x3 s0 = some o → J K (wM g) 5 (QV K g (wM g) o) 180 [(0, .ref (g.1 0)), (2, .int x2), (3, .int x3)] [] s0 := by
  intro n
  induction n with
  | zero => intro x2 x3 s0 h; cases h
  | succ n ih =>
    intro x2 x3 s0 h
    rw [X7_go_l180] at h
    refine j_aload_n hC dX7_go_180 rfl 0 rfl ?_
    refine j_aload_n hC dX7_go_181 rfl 0 rfl ?_
    refine get_X7_119 hC dX7_go_182 ?_
    obtain ⟨v1, s1, hc, h⟩ := cal_some h
    refine call_X7_145 hC (fun l D => X7_byteAt_ok l D g hc) (by decide) (Nat.le_of_ble_eq_true rfl) dX7_go_185 ?_
    obtain ⟨v2, s2, hc, h⟩ := cal_some h
    refine call_X7_131 hC (fun l D => X7_isLetter_ok l D g hc) (by decide) (Nat.le_of_ble_eq_true rfl) dX7_go_188 ?_
    refine j_if_ne (tgt := 208) hC dX7_go_191 (by decide) h ?_ ?_
    · intro h
      refine j_sub [0, 1, 2] rfl ?_
      exact X7_go_l208_ok hC ih x2 x3 s2 h
    · intro h
      refine j_aload_n hC dX7_go_194 rfl 0 rfl ?_
      refine j_aload_n hC dX7_go_195 rfl 0 rfl ?_
      refine get_X7_119 hC dX7_go_196 ?_
      obtain ⟨v3, s3, hc, h⟩ := cal_some h
      refine call_X7_145 hC (fun l D => X7_byteAt_ok l D g hc) (by decide) (Nat.le_of_ble_eq_true rfl) dX7_go_199 ?_
      obtain ⟨v4, s4, hc, h⟩ := cal_some h
      refine call_X7_135 hC (fun l D => X7_isDigit_ok l D g hc) (by decide) (Nat.le_of_ble_eq_true rfl) dX7_go_202 ?_
      refine j_if_eq (tgt := 321) hC dX7_go_205 (by decide) h ?_ ?_
      · intro h
        refine j_aload_n hC dX7_go_321 rfl 0 rfl ?_
        refine j_iload_n hC dX7_go_322 rfl 2 rfl ?_
        refine j_if_eq (tgt := 343) hC dX7_go_323 (by decide) h ?_ ?_
        · intro h
          refine j_sub [] rfl ?_
          exact X7_go_l343_ok hC s4 h
        · intro h
          refine j_iload_n hC dX7_go_326 rfl 1 rfl ?_
          refine j_if_ne (tgt := 347) hC dX7_go_327 (by decide) h ?_ ?_
          · intro h
            refine j_sub [1] rfl ?_
            exact X7_go_l347_ok hC x2 s4 h
          · intro h
            refine j_aload_n hC dX7_go_330 rfl 0 rfl ?_
            refine get_X7_119 hC dX7_go_331 ?_
            refine j_aload_n hC dX7_go_334 rfl 0 rfl ?_
            refine get_X7_122 hC dX7_go_335 ?_
            refine j_isub hC dX7_go_338 ?_
            refine j_iconst (v := 4) hC dX7_go_339 (by decide) ?_
            refine j_icmp_le (tgt := 347) hC dX7_go_340 (by decide) h ?_ ?_
            · intro h
              refine j_sub [1] rfl ?_
              exact X7_go_l347_ok hC x2 s4 h
            · intro h
              refine j_sub [] rfl ?_
              exact X7_go_l343_ok hC s4 h
      · intro h
        refine j_sub [0, 1, 2] rfl ?_
        exact X7_go_l208_ok hC ih x2 x3 s4 h
set_option maxRecDepth 20000 in
def X7_go_l163 (N : Nat) (x1 : Int32) (s0 : St) : Option (Int32 × St) :=
  cal (X7_isLetter_f N x1 s0) fun v1 s1 =>
  bnd (sl s1 0) fun s2 =>
  bnd (si s2 7 0) fun s3 =>
  X7_go_l180 N N v1 1 s3
set_option maxRecDepth 20000 in
theorem X7_go_l163_ok {K : Kx} {g : Gm} {N : Nat} {o : Int32 × St} (hC : Ok K cX7_go RX7 g 5 1 none) : ∀ (x1 : Int32) (s0 : St), X7_go_l163 N x1 s0 = some o → J K (wM g) 5 (QV K g (wM g) o) 163 [(0, .ref (g.1 0)), (1, .int x1)] [] s0 := by
  intro x1 s0 h
  unfold X7_go_l163 at h
  refine j_iload_n hC dX7_go_163 rfl 1 rfl ?_
  obtain ⟨v1, s1, hc, h⟩ := cal_some h
  refine call_X7_131 hC (fun l D => X7_isLetter_ok l D g hc) (by decide) (Nat.le_of_ble_eq_true rfl) dX7_go_164 ?_
  refine j_istore_n hC dX7_go_167 rfl (by decide) rfl ?_
  refine j_iconst (v := 1) hC dX7_go_168 (by decide) ?_
  refine j_istore_n hC dX7_go_169 rfl (by decide) rfl ?_
  refine j_aload_n hC dX7_go_170 rfl 2 rfl ?_
  refine j_lconst (v := 0) hC dX7_go_171 (by decide) ?_
  refine j_pc (n2 := 172) rfl ?_
  refine put_X7_138 hC dX7_go_172 h ?_
  intro s2 h
  refine j_aload_n hC dX7_go_175 rfl 2 rfl ?_
  refine j_iconst (v := 0) hC dX7_go_176 (by decide) ?_
  refine put_X7_142 hC dX7_go_177 h ?_
  intro s3 h
  refine j_sub [2, 1, 0] rfl ?_
  exact X7_go_l180_ok hC N v1 1 s3 h
set_option maxRecDepth 20000 in
def X7_go_l149 (N : Nat) (t1 : Int32) (s0 : St) : Option (Int32 × St) :=
  bnd (si s0 6 t1) fun s1 =>
  bnd (si s1 4 ((gi s1 4) + 1)) fun s2 =>
  some (0, s2)
set_option maxRecDepth 20000 in
theorem X7_go_l149_ok {K : Kx} {g : Gm} {N : Nat} {o : Int32 × St} (hC : Ok K cX7_go RX7 g 5 1 none) : ∀ (t1 : Int32) (s0 : St), X7_go_l149 N t1 s0 = some o → J K (wM g) 5 (QV K g (wM g) o) 149 [(0, .ref (g.1 0))] [.int t1, .ref (g.1 0)] s0 := by
  intro t1 s0 h
  unfold X7_go_l149 at h
  refine put_X7_128 hC dX7_go_149 h ?_
  intro s1 h
  refine j_aload_n hC dX7_go_152 rfl 0 rfl ?_
  refine j_dup hC rfl dX7_go_153 ?_
  refine get_X7_119 hC dX7_go_154 ?_
  refine j_iconst (v := 1) hC dX7_go_157 (by decide) ?_
  refine j_iadd hC dX7_go_158 ?_
  refine put_X7_119 hC dX7_go_159 h ?_
  intro s2 h
  refine j_pc (n2 := 162) rfl ?_
  exact j_vret (v := 0) hC dX7_go_162 h
set_option maxRecDepth 20000 in
def X7_go_l96 (N : Nat) (s0 : St) : Option (Int32 × St) :=
  if gi s0 4 < gi s0 2 then
  ald s0 0 260 (gi s0 4) fun v1 =>
    cal (X7_isLetter_f N v1 s0) fun v2 s1 =>
    if v2 = 0 then
    cal (X7_isDigit_f N v1 s1) fun v3 s2 =>
      if v3 = 0 then
      if v1 = 59 then
        X7_go_l149 N 4 s2
        else
        X7_go_l149 N 1 s2
      else
      X7_go_l163 N v1 s2
    else
    X7_go_l163 N v1 s1
  else
  bnd (si s0 6 0) fun s3 =>
    some (0, s3)
set_option maxRecDepth 20000 in
theorem X7_go_l96_ok {K : Kx} {g : Gm} {N : Nat} {o : Int32 × St} (hC : Ok K cX7_go RX7 g 5 1 none) : ∀ (s0 : St), X7_go_l96 N  s0 = some o → J K (wM g) 5 (QV K g (wM g) o) 96 [(0, .ref (g.1 0))] [] s0 := by
  intro  s0 h
  unfold X7_go_l96 at h
  refine j_aload_n hC dX7_go_96 rfl 0 rfl ?_
  refine get_X7_119 hC dX7_go_97 ?_
  refine j_aload_n hC dX7_go_100 rfl 0 rfl ?_
  refine get_X7_116 hC dX7_go_101 ?_
  refine j_icmp_lt (tgt := 113) hC dX7_go_104 (by decide) h ?_ ?_
  · intro h
    refine j_aload_n hC dX7_go_113 rfl 0 rfl ?_
    refine get_X7_7 hC dX7_go_114 ?_
    refine j_aload_n hC dX7_go_117 rfl 0 rfl ?_
    refine get_X7_119 hC dX7_go_118 ?_
    refine ald_X7_tape hC dX7_go_121 h ?_
    intro v1 h
    refine j_istore_n hC dX7_go_122 rfl (by decide) rfl ?_
    refine j_iload_n hC dX7_go_123 rfl 0 rfl ?_
    refine j_pc (n2 := 124) rfl ?_
    obtain ⟨v2, s1, hc, h⟩ := cal_some h
    refine call_X7_131 hC (fun l D => X7_isLetter_ok l D g hc) (by decide) (Nat.le_of_ble_eq_true rfl) dX7_go_124 ?_
    refine j_if_ne (tgt := 163) hC dX7_go_127 (by decide) h ?_ ?_
    · intro h
      refine j_sub [1, 0] rfl ?_
      exact X7_go_l163_ok hC v1 s1 h
    · intro h
      refine j_iload_n hC dX7_go_130 rfl 0 rfl ?_
      obtain ⟨v3, s2, hc, h⟩ := cal_some h
      refine call_X7_135 hC (fun l D => X7_isDigit_ok l D g hc) (by decide) (Nat.le_of_ble_eq_true rfl) dX7_go_131 ?_
      refine j_if_ne (tgt := 163) hC dX7_go_134 (by decide) h ?_ ?_
      · intro h
        refine j_sub [1, 0] rfl ?_
        exact X7_go_l163_ok hC v1 s2 h
      · intro h
        refine j_aload_n hC dX7_go_137 rfl 1 rfl ?_
        refine j_iload_n hC dX7_go_138 rfl 0 rfl ?_
        refine j_bipush (v := 59) hC dX7_go_139 (by decide) ?_
        refine j_icmp_ne (tgt := 148) hC dX7_go_141 (by decide) h ?_ ?_
        · intro h
          refine j_iconst (v := 1) hC dX7_go_148 (by decide) ?_
          refine j_sub [1] rfl ?_
          exact X7_go_l149_ok hC 1 s2 h
        · intro h
          refine j_iconst (v := 4) hC dX7_go_144 (by decide) ?_
          refine j_goto (tgt := 149) hC dX7_go_145 (by decide) ?_
          refine j_sub [1] rfl ?_
          exact X7_go_l149_ok hC 4 s2 h
  · intro h
    refine j_aload_n hC dX7_go_107 rfl 0 rfl ?_
    refine j_iconst (v := 0) hC dX7_go_108 (by decide) ?_
    refine put_X7_128 hC dX7_go_109 h ?_
    intro s3 h
    exact j_vret (v := 0) hC dX7_go_112 h
set_option maxRecDepth 20000 in
def X7_go_l52 (N : Nat) (s0 : St) : Option (Int32 × St) :=
  bnd (si s0 5 (gi s0 4)) fun s1 =>
  if gi s1 2 ≤ gi s1 3 then
  X7_go_l96 N s1
  else
  if gi s1 5 < gi s1 3 then
    X7_go_l96 N s1
    else
    bnd (si s1 5 (gi s1 3)) fun s2 =>
      bnd (si s2 6 1) fun s3 =>
      some (0, s3)
set_option maxRecDepth 20000 in
theorem X7_go_l52_ok {K : Kx} {g : Gm} {N : Nat} {o : Int32 × St} (hC : Ok K cX7_go RX7 g 5 1 none) : ∀ (s0 : St), X7_go_l52 N  s0 = some o → J K (wM g) 5 (QV K g (wM g) o) 52 [(0, .ref (g.1 0))] [] s0 := by
  intro  s0 h
  unfold X7_go_l52 at h
  refine j_aload_n hC dX7_go_52 rfl 0 rfl ?_
  refine j_aload_n hC dX7_go_53 rfl 0 rfl ?_
  refine get_X7_119 hC dX7_go_54 ?_
  refine put_X7_122 hC dX7_go_57 h ?_
  intro s1 h
  refine j_aload_n hC dX7_go_60 rfl 0 rfl ?_
  refine get_X7_116 hC dX7_go_61 ?_
  refine j_aload_n hC dX7_go_64 rfl 0 rfl ?_
  refine j_pc (n2 := 65) rfl ?_
  refine get_X7_125 hC dX7_go_65 ?_
  refine j_icmp_le (tgt := 96) hC dX7_go_68 (by decide) h ?_ ?_
  · intro h
    refine j_sub [0] rfl ?_
    exact X7_go_l96_ok hC s1 h
  · intro h
    refine j_aload_n hC dX7_go_71 rfl 0 rfl ?_
    refine get_X7_122 hC dX7_go_72 ?_
    refine j_aload_n hC dX7_go_75 rfl 0 rfl ?_
    refine get_X7_125 hC dX7_go_76 ?_
    refine j_icmp_lt (tgt := 96) hC dX7_go_79 (by decide) h ?_ ?_
    · intro h
      refine j_sub [0] rfl ?_
      exact X7_go_l96_ok hC s1 h
    · intro h
      refine j_aload_n hC dX7_go_82 rfl 0 rfl ?_
      refine j_aload_n hC dX7_go_83 rfl 0 rfl ?_
      refine get_X7_125 hC dX7_go_84 ?_
      refine put_X7_122 hC dX7_go_87 h ?_
      intro s2 h
      refine j_aload_n hC dX7_go_90 rfl 0 rfl ?_
      refine j_iconst (v := 1) hC dX7_go_91 (by decide) ?_
      refine put_X7_128 hC dX7_go_92 h ?_
      intro s3 h
      refine j_pc (n2 := 95) rfl ?_
      exact j_vret (v := 0) hC dX7_go_95 h
set_option maxRecDepth 20000 in
def X7_go_l39 (N : Nat) (k0 : St → Option (Int32 × St)) (s0 : St) : Option (Int32 × St) :=
  bnd (si s0 4 ((gi s0 4) + 1)) fun s1 =>
  k0 s1
set_option maxRecDepth 20000 in
theorem X7_go_l39_ok {K : Kx} {g : Gm} {N : Nat} {o : Int32 × St} (hC : Ok K cX7_go RX7 g 5 1 none) {k0 : St → Option (Int32 × St)} (hk0 : ∀ (s0 : St), k0  s0 = some o → J K (wM g) 5 (QV K g (wM g) o) 0 [(0, .ref (g.1 0))] [] s0) : ∀ (s0 : St), X7_go_l39 N k0  s0 = some o → J K (wM g) 5 (QV K g (wM g) o) 39 [(0, .ref (g.1 0))] [] s0 := by
  intro  s0 h
  unfold X7_go_l39 at h
  refine j_aload_n hC dX7_go_39 rfl 0 rfl ?_
  refine j_dup hC rfl dX7_go_40 ?_
  refine get_X7_119 hC dX7_go_41 ?_
  refine j_iconst (v := 1) hC dX7_go_44 (by decide) ?_
  refine j_iadd hC dX7_go_45 ?_
  refine put_X7_119 hC dX7_go_46 h ?_
  intro s1 h
  refine j_goto (tgt := 0) hC dX7_go_49 (by decide) ?_
  refine j_sub [0] rfl ?_
  exact hk0  s1 h
set_option maxRecDepth 20000 in
def X7_go_l0 (N : Nat) : Nat → St → Option (Int32 × St)
  | 0 => fun _ => none
  | n + 1 => fun s0 =>
  if gi s0 2 ≤ gi s0 4 then
  X7_go_l52 N s0
  else
  ald s0 0 260 (gi s0 4) fun v1 =>
    if v1 = 32 then
    X7_go_l39 N (X7_go_l0 N n) s0
    else
    ald s0 0 260 (gi s0 4) fun v2 =>
      if v2 = 10 then
      X7_go_l39 N (X7_go_l0 N n) s0
      else
      X7_go_l52 N s0
set_option maxRecDepth 20000 in
theorem X7_go_l0_ok {K : Kx} {g : Gm} {N : Nat} {o : Int32 × St} (hC : Ok K cX7_go RX7 g 5 1 none) : ∀ (n : Nat) (s0 : St), X7_go_l0 N n  s0 = some o → J K (wM g) 5 (QV K g (wM g) o) 0 [(0, .ref (g.1 0))] [] s0 := by
  intro n
  induction n with
  | zero => intro  s0 h; cases h
  | succ n ih =>
    intro  s0 h
    rw [X7_go_l0] at h
    refine j_aload_n hC dX7_go_0 rfl 0 rfl ?_
    refine get_X7_119 hC dX7_go_1 ?_
    refine j_aload_n hC dX7_go_4 rfl 0 rfl ?_
    refine get_X7_116 hC dX7_go_5 ?_
    refine j_icmp_ge (tgt := 52) hC dX7_go_8 (by decide) h ?_ ?_
    · intro h
      refine j_sub [0] rfl ?_
      exact X7_go_l52_ok hC s0 h
    · intro h
      refine j_aload_n hC dX7_go_11 rfl 0 rfl ?_
      refine get_X7_7 hC dX7_go_12 ?_
      refine j_aload_n hC dX7_go_15 rfl 0 rfl ?_
      refine get_X7_119 hC dX7_go_16 ?_
      refine ald_X7_tape hC dX7_go_19 h ?_
      intro v1 h
      refine j_bipush (v := 32) hC dX7_go_20 (by decide) ?_
      refine j_icmp_eq (tgt := 39) hC dX7_go_22 (by decide) h ?_ ?_
      · intro h
        refine j_sub [0] rfl ?_
        exact X7_go_l39_ok hC ih s0 h
      · intro h
        refine j_aload_n hC dX7_go_25 rfl 0 rfl ?_
        refine get_X7_7 hC dX7_go_26 ?_
        refine j_aload_n hC dX7_go_29 rfl 0 rfl ?_
        refine get_X7_119 hC dX7_go_30 ?_
        refine ald_X7_tape hC dX7_go_33 h ?_
        intro v2 h
        refine j_bipush (v := 10) hC dX7_go_34 (by decide) ?_
        refine j_icmp_ne (tgt := 52) hC dX7_go_36 (by decide) h ?_ ?_
        · intro h
          refine j_sub [0] rfl ?_
          exact X7_go_l52_ok hC s0 h
        · intro h
          refine j_sub [0] rfl ?_
          exact X7_go_l39_ok hC ih s0 h
set_option maxRecDepth 20000 in
def X7_go_f (N : Nat) (s0 : St) : Option (Int32 × St) :=
  X7_go_l0 N N s0
set_option maxRecDepth 20000 in
theorem X7_go_ok (l : Launch) (D : va_G) (g : Gm) {N : Nat} {s0 : St} {o : Int32 × St} (h : X7_go_f N s0 = some o) : MV l yX7_go cX7_go 5 none 1 D g (wM g) [.ref (g.1 0)] s0 o := by
  refine met_V (own := RX7) (by decide) rfl (Nat.le_of_ble_eq_true rfl) (fun K hC => ?_)
  show J K (wM g) 5 (QV K g (wM g) o) 0 [(0, .ref (g.1 0))] [] s0
  unfold X7_go_f at h
  refine j_sub [0] rfl ?_
  exact X7_go_l0_ok hC N s0 h
set_option maxRecDepth 20000 in
def X7_spelt_l94 (N : Nat) (t0 : Int64) (s0 : St) : Option (Int64 × St) :=
  some (t0, s0)
set_option maxRecDepth 20000 in
theorem X7_spelt_l94_ok {K : Kx} {g : Gm} {N : Nat} {o : Int64 × St} (hC : Ok K cX7_spelt RX7 g 8 0 (some .long)) : ∀ (t0 : Int64) (s0 : St), X7_spelt_l94 N t0 s0 = some o → J K (wM g) 8 (QL K g (wM g) o) 94 [] [.long t0] s0 := by
  intro t0 s0 h
  unfold X7_spelt_l94 at h
  exact j_lret hC dX7_spelt_94 h
set_option maxRecDepth 20000 in
def X7_spelt_l70 (N : Nat) (x5 : Int32) (x6 : Int64) (s0 : St) : Option (Int64 × St) :=
  if x5 ≤ 0 then
  X7_spelt_l94 N x6 s0
  else
  X7_spelt_l94 N ((((27 : Int64) * x6) + ((x5 : Int32).toInt64)) - 96) s0
set_option maxRecDepth 20000 in
theorem X7_spelt_l70_ok {K : Kx} {g : Gm} {N : Nat} {o : Int64 × St} (hC : Ok K cX7_spelt RX7 g 8 0 (some .long)) : ∀ (x5 : Int32) (x6 : Int64) (s0 : St), X7_spelt_l70 N x5 x6 s0 = some o → J K (wM g) 8 (QL K g (wM g) o) 70 [(5, .int x5), (6, .long x6)] [] s0 := by
  intro x5 x6 s0 h
  unfold X7_spelt_l70 at h
  refine j_iload hC dX7_spelt_70 0 rfl ?_
  refine j_if_le (tgt := 92) hC dX7_spelt_72 (by decide) h ?_ ?_
  · intro h
    refine j_lload hC dX7_spelt_92 1 rfl ?_
    refine j_sub [] rfl ?_
    exact X7_spelt_l94_ok hC x6 s0 h
  · intro h
    refine j_ldc2 (v := 27) hC mc_X7_149 dX7_spelt_75 ?_
    refine j_lload hC dX7_spelt_78 1 rfl ?_
    refine j_lmul hC dX7_spelt_80 ?_
    refine j_iload hC dX7_spelt_81 0 rfl ?_
    refine j_i2l hC dX7_spelt_83 ?_
    refine j_ladd hC dX7_spelt_84 ?_
    refine j_ldc2 (v := 96) hC mc_X7_151 dX7_spelt_85 ?_
    refine j_pc (n2 := 88) rfl ?_
    refine j_lsub hC dX7_spelt_88 ?_
    refine j_goto (tgt := 94) hC dX7_spelt_89 (by decide) ?_
    refine j_sub [] rfl ?_
    exact X7_spelt_l94_ok hC ((((27 : Int64) * x6) + ((x5 : Int32).toInt64)) - 96) s0 h
set_option maxRecDepth 20000 in
def X7_spelt_l49 (N : Nat) (x4 : Int32) (x5 : Int32) (x6 : Int64) (s0 : St) : Option (Int64 × St) :=
  if x4 ≤ 0 then
  X7_spelt_l70 N x5 x6 s0
  else
  bnd ((((27 : Int64) * x6) + ((x4 : Int32).toInt64)) - 96) fun v1 =>
    X7_spelt_l70 N x5 v1 s0
set_option maxRecDepth 20000 in
theorem X7_spelt_l49_ok {K : Kx} {g : Gm} {N : Nat} {o : Int64 × St} (hC : Ok K cX7_spelt RX7 g 8 0 (some .long)) : ∀ (x4 : Int32) (x5 : Int32) (x6 : Int64) (s0 : St), X7_spelt_l49 N x4 x5 x6 s0 = some o → J K (wM g) 8 (QL K g (wM g) o) 49 [(4, .int x4), (5, .int x5), (6, .long x6)] [] s0 := by
  intro x4 x5 x6 s0 h
  unfold X7_spelt_l49 at h
  refine j_iload hC dX7_spelt_49 0 rfl ?_
  refine j_if_le (tgt := 70) hC dX7_spelt_51 (by decide) h ?_ ?_
  · intro h
    refine j_sub [1, 2] rfl ?_
    exact X7_spelt_l70_ok hC x5 x6 s0 h
  · intro h
    refine j_ldc2 (v := 27) hC mc_X7_149 dX7_spelt_54 ?_
    refine j_lload hC dX7_spelt_57 2 rfl ?_
    refine j_lmul hC dX7_spelt_59 ?_
    refine j_iload hC dX7_spelt_60 0 rfl ?_
    refine j_i2l hC dX7_spelt_62 ?_
    refine j_ladd hC dX7_spelt_63 ?_
    refine j_ldc2 (v := 96) hC mc_X7_151 dX7_spelt_64 ?_
    refine j_pc (n2 := 67) rfl ?_
    refine j_lsub hC dX7_spelt_67 ?_
    refine j_bl (E := (((27 : Int64) * x6) + ((x4 : Int32).toInt64)) - 96) h (fun v1 h => ?_)
    refine j_lstore hC dX7_spelt_68 (by decide) rfl ?_
    refine j_sub [2, 0] rfl ?_
    exact X7_spelt_l70_ok hC x5 v1 s0 h
set_option maxRecDepth 20000 in
def X7_spelt_f (N : Nat) (x0 : Int32) (x1 : Int32) (x2 : Int32) (x3 : Int32) (x4 : Int32) (x5 : Int32) (s0 : St) : Option (Int64 × St) :=
  bnd ((((27 : Int64) * ((((27 : Int64) * (((x0 : Int32).toInt64) - 96)) + ((x1 : Int32).toInt64)) - 96)) + ((x2 : Int32).toInt64)) - 96) fun v1 =>
  if x3 ≤ 0 then
  X7_spelt_l49 N x4 x5 v1 s0
  else
  bnd ((((27 : Int64) * v1) + ((x3 : Int32).toInt64)) - 96) fun v2 =>
    X7_spelt_l49 N x4 x5 v2 s0
set_option maxRecDepth 20000 in
theorem X7_spelt_ok (l : Launch) (D : va_G) (g : Gm) {N : Nat} {x0 : Int32} {x1 : Int32} {x2 : Int32} {x3 : Int32} {x4 : Int32} {x5 : Int32} {s0 : St} {o : Int64 × St} (h : X7_spelt_f N x0 x1 x2 x3 x4 x5 s0 = some o) : ML l yX7_spelt cX7_spelt 8 (some .long) 0 D g (wM g) [.int x0, .int x1, .int x2, .int x3, .int x4, .int x5] s0 o := by
  refine met_L (own := RX7) (by decide) rfl (Nat.le_of_ble_eq_true rfl) (fun K hC => ?_)
  show J K (wM g) 8 (QL K g (wM g) o) 0 [(0, .int x0), (1, .int x1), (2, .int x2), (3, .int x3), (4, .int x4), (5, .int x5)] [] s0
  unfold X7_spelt_f at h
  refine j_ldc2 (v := 27) hC mc_X7_149 dX7_spelt_0 ?_
  refine j_ldc2 (v := 27) hC mc_X7_149 dX7_spelt_3 ?_
  refine j_iload_n hC dX7_spelt_6 rfl 0 rfl ?_
  refine j_i2l hC dX7_spelt_7 ?_
  refine j_ldc2 (v := 96) hC mc_X7_151 dX7_spelt_8 ?_
  refine j_lsub hC dX7_spelt_11 ?_
  refine j_lmul hC dX7_spelt_12 ?_
  refine j_pc (n2 := 13) rfl ?_
  refine j_iload_n hC dX7_spelt_13 rfl 1 rfl ?_
  refine j_i2l hC dX7_spelt_14 ?_
  refine j_ladd hC dX7_spelt_15 ?_
  refine j_ldc2 (v := 96) hC mc_X7_151 dX7_spelt_16 ?_
  refine j_lsub hC dX7_spelt_19 ?_
  refine j_lmul hC dX7_spelt_20 ?_
  refine j_iload_n hC dX7_spelt_21 rfl 2 rfl ?_
  refine j_i2l hC dX7_spelt_22 ?_
  refine j_pc (n2 := 23) rfl ?_
  refine j_ladd hC dX7_spelt_23 ?_
  refine j_ldc2 (v := 96) hC mc_X7_151 dX7_spelt_24 ?_
  refine j_lsub hC dX7_spelt_27 ?_
  refine j_bl (E := (((27 : Int64) * ((((27 : Int64) * (((x0 : Int32).toInt64) - 96)) + ((x1 : Int32).toInt64)) - 96)) + ((x2 : Int32).toInt64)) - 96) h (fun v1 h => ?_)
  refine j_lstore hC dX7_spelt_28 (by decide) rfl ?_
  refine j_iload_n hC dX7_spelt_30 rfl 4 rfl ?_
  refine j_if_le (tgt := 49) hC dX7_spelt_31 (by decide) h ?_ ?_
  · intro h
    refine j_sub [5, 6, 0] rfl ?_
    exact X7_spelt_l49_ok hC x4 x5 v1 s0 h
  · intro h
    refine j_ldc2 (v := 27) hC mc_X7_149 dX7_spelt_34 ?_
    refine j_lload hC dX7_spelt_37 0 rfl ?_
    refine j_lmul hC dX7_spelt_39 ?_
    refine j_iload_n hC dX7_spelt_40 rfl 4 rfl ?_
    refine j_i2l hC dX7_spelt_41 ?_
    refine j_ladd hC dX7_spelt_42 ?_
    refine j_ldc2 (v := 96) hC mc_X7_151 dX7_spelt_43 ?_
    refine j_pc (n2 := 46) rfl ?_
    refine j_lsub hC dX7_spelt_46 ?_
    refine j_bl (E := (((27 : Int64) * v1) + ((x3 : Int32).toInt64)) - 96) h (fun v2 h => ?_)
    refine j_lstore hC dX7_spelt_47 (by decide) rfl ?_
    refine j_sub [5, 6, 0] rfl ?_
    exact X7_spelt_l49_ok hC x4 x5 v2 s0 h
set_option maxRecDepth 20000 in
def X7_isKey_f (N : Nat) (x1 : Int64) (s0 : St) : Option (Int32 × St) :=
  if gi s0 6 = 2 then
  if lg_cmp (gl s0) x1 = 0 then
    some (1, s0)
    else
    some (0, s0)
  else
  some (0, s0)
set_option maxRecDepth 20000 in
theorem X7_isKey_ok (l : Launch) (D : va_G) (g : Gm) {N : Nat} {x1 : Int64} {s0 : St} {o : Int32 × St} (h : X7_isKey_f N x1 s0 = some o) : MI l yX7_isKey cX7_isKey 3 (some .boolean) 0 D g (wM g) [.ref (g.1 0), .long x1] s0 o := by
  refine met_I (own := RX7) (by decide) rfl (Nat.le_of_ble_eq_true rfl) (fun K hC => ?_)
  show J K (wM g) 3 (QI K g (wM g) o) 0 [(0, .ref (g.1 0)), (1, .long x1)] [] s0
  unfold X7_isKey_f at h
  refine j_aload_n hC dX7_isKey_0 rfl 0 rfl ?_
  refine get_X7_128 hC dX7_isKey_1 ?_
  refine j_iconst (v := 2) hC dX7_isKey_4 (by decide) ?_
  refine j_icmp_ne (tgt := 21) hC dX7_isKey_5 (by decide) h ?_ ?_
  · intro h
    refine j_iconst (v := 0) hC dX7_isKey_21 (by decide) ?_
    exact j_iret hC dX7_isKey_22 rfl h
  · intro h
    refine j_aload_n hC dX7_isKey_8 rfl 0 rfl ?_
    refine get_X7_138 hC dX7_isKey_9 ?_
    refine j_lload_n hC dX7_isKey_12 rfl 1 rfl ?_
    refine j_lcmp hC dX7_isKey_13 ?_
    refine j_if_ne (tgt := 21) hC dX7_isKey_14 (by decide) h ?_ ?_
    · intro h
      refine j_iconst (v := 0) hC dX7_isKey_21 (by decide) ?_
      exact j_iret hC dX7_isKey_22 rfl h
    · intro h
      refine j_iconst (v := 1) hC dX7_isKey_17 (by decide) ?_
      refine j_goto (tgt := 22) hC dX7_isKey_18 (by decide) ?_
      exact j_iret hC dX7_isKey_22 rfl h
set_option maxRecDepth 20000 in
def X7_bad_l14 (N : Nat) (t1 : Int32) (s0 : St) : Option (Int32 × St) :=
  bnd (si s0 8 t1) fun s1 =>
  bnd (si s1 9 (gi s1 5)) fun s2 =>
  some (0, s2)
set_option maxRecDepth 20000 in
theorem X7_bad_l14_ok {K : Kx} {g : Gm} {N : Nat} {o : Int32 × St} (hC : Ok K cX7_bad RX7 g 2 0 (some .boolean)) : ∀ (t1 : Int32) (s0 : St), X7_bad_l14 N t1 s0 = some o → J K (wM g) 2 (QI K g (wM g) o) 14 [(0, .ref (g.1 0))] [.int t1, .ref (g.1 0)] s0 := by
  intro t1 s0 h
  unfold X7_bad_l14 at h
  refine put_X7_155 hC dX7_bad_14 h ?_
  intro s1 h
  refine j_aload_n hC dX7_bad_17 rfl 0 rfl ?_
  refine j_aload_n hC dX7_bad_18 rfl 0 rfl ?_
  refine get_X7_122 hC dX7_bad_19 ?_
  refine put_X7_158 hC dX7_bad_22 h ?_
  intro s2 h
  refine j_iconst (v := 0) hC dX7_bad_25 (by decide) ?_
  exact j_iret hC dX7_bad_26 rfl h
set_option maxRecDepth 20000 in
def X7_bad_f (N : Nat) (x1 : Int32) (s0 : St) : Option (Int32 × St) :=
  if gi s0 6 = 1 then
  X7_bad_l14 N 1 s0
  else
  X7_bad_l14 N x1 s0
set_option maxRecDepth 20000 in
theorem X7_bad_ok (l : Launch) (D : va_G) (g : Gm) {N : Nat} {x1 : Int32} {s0 : St} {o : Int32 × St} (h : X7_bad_f N x1 s0 = some o) : MI l yX7_bad cX7_bad 2 (some .boolean) 0 D g (wM g) [.ref (g.1 0), .int x1] s0 o := by
  refine met_I (own := RX7) (by decide) rfl (Nat.le_of_ble_eq_true rfl) (fun K hC => ?_)
  show J K (wM g) 2 (QI K g (wM g) o) 0 [(0, .ref (g.1 0)), (1, .int x1)] [] s0
  unfold X7_bad_f at h
  refine j_aload_n hC dX7_bad_0 rfl 0 rfl ?_
  refine j_aload_n hC dX7_bad_1 rfl 0 rfl ?_
  refine get_X7_128 hC dX7_bad_2 ?_
  refine j_iconst (v := 1) hC dX7_bad_5 (by decide) ?_
  refine j_icmp_ne (tgt := 13) hC dX7_bad_6 (by decide) h ?_ ?_
  · intro h
    refine j_iload_n hC dX7_bad_13 rfl 1 rfl ?_
    refine j_sub [0] rfl ?_
    exact X7_bad_l14_ok hC x1 s0 h
  · intro h
    refine j_iconst (v := 1) hC dX7_bad_9 (by decide) ?_
    refine j_goto (tgt := 14) hC dX7_bad_10 (by decide) ?_
    refine j_sub [0] rfl ?_
    exact X7_bad_l14_ok hC 1 s0 h
set_option maxRecDepth 20000 in
def X7_begins_f (N : Nat) (x1 : Int32) (s0 : St) : Option (Int32 × St) :=
  bnd (si s0 2 (gi s0 1)) fun s1 =>
  bnd (si s1 1 0) fun s2 =>
  bnd (si s2 3 x1) fun s3 =>
  bnd (si s3 8 0) fun s4 =>
  bnd (si s4 10 0) fun s5 =>
  bnd (si s5 4 0) fun s6 =>
  cal (X7_go_f N  s6) fun _ s7 =>
  some (0, s7)
set_option maxRecDepth 20000 in
theorem X7_begins_ok (l : Launch) (D : va_G) (g : Gm) {N : Nat} {x1 : Int32} {s0 : St} {o : Int32 × St} (h : X7_begins_f N x1 s0 = some o) : MV l yX7_begins cX7_begins 2 none 2 D g (wM g) [.ref (g.1 0), .int x1] s0 o := by
  refine met_V (own := RX7) (by decide) rfl (Nat.le_of_ble_eq_true rfl) (fun K hC => ?_)
  show J K (wM g) 2 (QV K g (wM g) o) 0 [(0, .ref (g.1 0)), (1, .int x1)] [] s0
  unfold X7_begins_f at h
  refine j_aload_n hC dX7_begins_0 rfl 0 rfl ?_
  refine j_aload_n hC dX7_begins_1 rfl 0 rfl ?_
  refine get_X7_109 hC dX7_begins_2 ?_
  refine put_X7_116 hC dX7_begins_5 h ?_
  intro s1 h
  refine j_aload_n hC dX7_begins_8 rfl 0 rfl ?_
  refine j_iconst (v := 0) hC dX7_begins_9 (by decide) ?_
  refine put_X7_109 hC dX7_begins_10 h ?_
  intro s2 h
  refine j_pc (n2 := 13) rfl ?_
  refine j_aload_n hC dX7_begins_13 rfl 0 rfl ?_
  refine j_iload_n hC dX7_begins_14 rfl 1 rfl ?_
  refine put_X7_125 hC dX7_begins_15 h ?_
  intro s3 h
  refine j_aload_n hC dX7_begins_18 rfl 0 rfl ?_
  refine j_iconst (v := 0) hC dX7_begins_19 (by decide) ?_
  refine put_X7_155 hC dX7_begins_20 h ?_
  intro s4 h
  refine j_aload_n hC dX7_begins_23 rfl 0 rfl ?_
  refine j_iconst (v := 0) hC dX7_begins_24 (by decide) ?_
  refine j_pc (n2 := 25) rfl ?_
  refine put_X7_161 hC dX7_begins_25 h ?_
  intro s5 h
  refine j_aload_n hC dX7_begins_28 rfl 0 rfl ?_
  refine j_iconst (v := 0) hC dX7_begins_29 (by decide) ?_
  refine put_X7_119 hC dX7_begins_30 h ?_
  intro s6 h
  refine j_aload_n hC dX7_begins_33 rfl 0 rfl ?_
  obtain ⟨v1, s7, hc, h⟩ := cal_some h
  refine call_X7_164 hC (fun l D => X7_go_ok l D g hc) (by decide) (Nat.le_of_ble_eq_true rfl) dX7_begins_34 ?_
  exact j_vret (v := 0) hC dX7_begins_37 h
set_option maxRecDepth 20000 in
def X7_readNumber_l38 (N : Nat) (s0 : St) : Option (Int32 × St) :=
  some (1, s0)
set_option maxRecDepth 20000 in
theorem X7_readNumber_l38_ok {K : Kx} {g : Gm} {N : Nat} {o : Int32 × St} (hC : Ok K cX7_readNumber RX7 g 3 1 (some .boolean)) : ∀ (s0 : St), X7_readNumber_l38 N  s0 = some o → J K (wM g) 3 (QI K g (wM g) o) 38 [] [] s0 := by
  intro  s0 h
  unfold X7_readNumber_l38 at h
  refine j_iconst (v := 1) hC dX7_readNumber_38 (by decide) ?_
  refine j_goto (tgt := 43) hC dX7_readNumber_39 (by decide) ?_
  exact j_iret hC dX7_readNumber_43 rfl h
set_option maxRecDepth 20000 in
def X7_readNumber_l30 (N : Nat) (s0 : St) : Option (Int32 × St) :=
  cal (X7_bad_f N 2 s0) fun v1 s1 =>
  if v1 = 0 then
  some (0, s1)
  else
  X7_readNumber_l38 N s1
set_option maxRecDepth 20000 in
theorem X7_readNumber_l30_ok {K : Kx} {g : Gm} {N : Nat} {o : Int32 × St} (hC : Ok K cX7_readNumber RX7 g 3 1 (some .boolean)) : ∀ (s0 : St), X7_readNumber_l30 N  s0 = some o → J K (wM g) 3 (QI K g (wM g) o) 30 [(0, .ref (g.1 0))] [] s0 := by
  intro  s0 h
  unfold X7_readNumber_l30 at h
  refine j_aload_n hC dX7_readNumber_30 rfl 0 rfl ?_
  refine j_iconst (v := 2) hC dX7_readNumber_31 (by decide) ?_
  obtain ⟨v1, s1, hc, h⟩ := cal_some h
  refine call_X7_167 hC (fun l D => X7_bad_ok l D g hc) (by decide) (Nat.le_of_ble_eq_true rfl) dX7_readNumber_32 ?_
  refine j_if_eq (tgt := 42) hC dX7_readNumber_35 (by decide) h ?_ ?_
  · intro h
    refine j_iconst (v := 0) hC dX7_readNumber_42 (by decide) ?_
    exact j_iret hC dX7_readNumber_43 rfl h
  · intro h
    refine j_sub [] rfl ?_
    exact X7_readNumber_l38_ok hC s1 h
set_option maxRecDepth 20000 in
def X7_readNumber_f (N : Nat) (x1 : Int32) (x2 : Int32) (s0 : St) : Option (Int32 × St) :=
  if gi s0 6 = 3 then
  if gi s0 7 < x1 then
    X7_readNumber_l30 N s0
    else
    if gi s0 7 ≤ x2 then
      X7_readNumber_l38 N s0
      else
      X7_readNumber_l30 N s0
  else
  cal (X7_bad_f N 1 s0) fun v1 s1 =>
    chk (isZ v1) (some (v1, s1))
set_option maxRecDepth 20000 in
theorem X7_readNumber_ok (l : Launch) (D : va_G) (g : Gm) {N : Nat} {x1 : Int32} {x2 : Int32} {s0 : St} {o : Int32 × St} (h : X7_readNumber_f N x1 x2 s0 = some o) : MI l yX7_readNumber cX7_readNumber 3 (some .boolean) 1 D g (wM g) [.ref (g.1 0), .int x1, .int x2] s0 o := by
  refine met_I (own := RX7) (by decide) rfl (Nat.le_of_ble_eq_true rfl) (fun K hC => ?_)
  show J K (wM g) 3 (QI K g (wM g) o) 0 [(0, .ref (g.1 0)), (1, .int x1), (2, .int x2)] [] s0
  unfold X7_readNumber_f at h
  refine j_aload_n hC dX7_readNumber_0 rfl 0 rfl ?_
  refine get_X7_128 hC dX7_readNumber_1 ?_
  refine j_iconst (v := 3) hC dX7_readNumber_4 (by decide) ?_
  refine j_icmp_eq (tgt := 14) hC dX7_readNumber_5 (by decide) h ?_ ?_
  · intro h
    refine j_aload_n hC dX7_readNumber_14 rfl 0 rfl ?_
    refine get_X7_142 hC dX7_readNumber_15 ?_
    refine j_iload_n hC dX7_readNumber_18 rfl 1 rfl ?_
    refine j_icmp_lt (tgt := 30) hC dX7_readNumber_19 (by decide) h ?_ ?_
    · intro h
      refine j_sub [0] rfl ?_
      exact X7_readNumber_l30_ok hC s0 h
    · intro h
      refine j_aload_n hC dX7_readNumber_22 rfl 0 rfl ?_
      refine get_X7_142 hC dX7_readNumber_23 ?_
      refine j_iload_n hC dX7_readNumber_26 rfl 2 rfl ?_
      refine j_icmp_le (tgt := 38) hC dX7_readNumber_27 (by decide) h ?_ ?_
      · intro h
        refine j_sub [] rfl ?_
        exact X7_readNumber_l38_ok hC s0 h
      · intro h
        refine j_sub [0] rfl ?_
        exact X7_readNumber_l30_ok hC s0 h
  · intro h
    refine j_aload_n hC dX7_readNumber_8 rfl 0 rfl ?_
    refine j_iconst (v := 1) hC dX7_readNumber_9 (by decide) ?_
    obtain ⟨v1, s1, hc, h⟩ := cal_some h
    refine call_X7_167 hC (fun l D => X7_bad_ok l D g hc) (by decide) (Nat.le_of_ble_eq_true rfl) dX7_readNumber_10 ?_
    obtain ⟨hz, h⟩ := chk_some h
    exact j_iret hC dX7_readNumber_13 (isZ_nar hz) h
set_option maxRecDepth 20000 in
def X7_ruleAtHand_f (N : Nat) (s0 : St) : Option (Int32 × St) :=
  cal (X7_spelt_f N 103 97 112 0 0 0 s0) fun v1 s1 =>
  cal (X7_isKey_f N v1 s1) fun v2 s2 =>
  if v2 = 0 then
  cal (X7_spelt_f N 97 114 116 105 115 116 s2) fun v3 s3 =>
    cal (X7_isKey_f N v3 s3) fun v4 s4 =>
    if v4 = 0 then
    cal (X7_spelt_f N 107 101 121 115 0 0 s4) fun v5 s5 =>
      cal (X7_isKey_f N v5 s5) fun v6 s6 =>
      if v6 = 0 then
      cal (X7_spelt_f N 115 108 97 99 107 0 s6) fun v7 s7 =>
        cal (X7_isKey_f N v7 s7) fun v8 s8 =>
        if v8 = 0 then
        cal (X7_spelt_f N 109 111 115 116 0 0 s8) fun v9 s9 =>
          cal (X7_isKey_f N v9 s9) fun v10 s10 =>
          if v10 = 0 then
          some ((-1), s10)
          else
          some (4, s10)
        else
        some (3, s8)
      else
      some (2, s6)
    else
    some (1, s4)
  else
  some (0, s2)
set_option maxRecDepth 20000 in
theorem X7_ruleAtHand_ok (l : Launch) (D : va_G) (g : Gm) {N : Nat} {s0 : St} {o : Int32 × St} (h : X7_ruleAtHand_f N s0 = some o) : MI l yX7_ruleAtHand cX7_ruleAtHand 1 (some .int) 1 D g (wM g) [.ref (g.1 0)] s0 o := by
  refine met_I (own := RX7) (by decide) rfl (Nat.le_of_ble_eq_true rfl) (fun K hC => ?_)
  show J K (wM g) 1 (QI K g (wM g) o) 0 [(0, .ref (g.1 0))] [] s0
  unfold X7_ruleAtHand_f at h
  refine j_aload_n hC dX7_ruleAtHand_0 rfl 0 rfl ?_
  refine j_bipush (v := 103) hC dX7_ruleAtHand_1 (by decide) ?_
  refine j_bipush (v := 97) hC dX7_ruleAtHand_3 (by decide) ?_
  refine j_bipush (v := 112) hC dX7_ruleAtHand_5 (by decide) ?_
  refine j_iconst (v := 0) hC dX7_ruleAtHand_7 (by decide) ?_
  refine j_iconst (v := 0) hC dX7_ruleAtHand_8 (by decide) ?_
  refine j_iconst (v := 0) hC dX7_ruleAtHand_9 (by decide) ?_
  refine j_pc (n2 := 10) rfl ?_
  obtain ⟨v1, s1, hc, h⟩ := cal_some h
  refine call_X7_170 hC (fun l D => X7_spelt_ok l D g hc) (by decide) (Nat.le_of_ble_eq_true rfl) dX7_ruleAtHand_10 ?_
  obtain ⟨v2, s2, hc, h⟩ := cal_some h
  refine call_X7_174 hC (fun l D => X7_isKey_ok l D g hc) (by decide) (Nat.le_of_ble_eq_true rfl) dX7_ruleAtHand_13 ?_
  refine j_if_eq (tgt := 21) hC dX7_ruleAtHand_16 (by decide) h ?_ ?_
  · intro h
    refine j_aload_n hC dX7_ruleAtHand_21 rfl 0 rfl ?_
    refine j_bipush (v := 97) hC dX7_ruleAtHand_22 (by decide) ?_
    refine j_bipush (v := 114) hC dX7_ruleAtHand_24 (by decide) ?_
    refine j_bipush (v := 116) hC dX7_ruleAtHand_26 (by decide) ?_
    refine j_bipush (v := 105) hC dX7_ruleAtHand_28 (by decide) ?_
    refine j_bipush (v := 115) hC dX7_ruleAtHand_30 (by decide) ?_
    refine j_bipush (v := 116) hC dX7_ruleAtHand_32 (by decide) ?_
    refine j_pc (n2 := 34) rfl ?_
    obtain ⟨v3, s3, hc, h⟩ := cal_some h
    refine call_X7_170 hC (fun l D => X7_spelt_ok l D g hc) (by decide) (Nat.le_of_ble_eq_true rfl) dX7_ruleAtHand_34 ?_
    obtain ⟨v4, s4, hc, h⟩ := cal_some h
    refine call_X7_174 hC (fun l D => X7_isKey_ok l D g hc) (by decide) (Nat.le_of_ble_eq_true rfl) dX7_ruleAtHand_37 ?_
    refine j_if_eq (tgt := 45) hC dX7_ruleAtHand_40 (by decide) h ?_ ?_
    · intro h
      refine j_aload_n hC dX7_ruleAtHand_45 rfl 0 rfl ?_
      refine j_bipush (v := 107) hC dX7_ruleAtHand_46 (by decide) ?_
      refine j_bipush (v := 101) hC dX7_ruleAtHand_48 (by decide) ?_
      refine j_bipush (v := 121) hC dX7_ruleAtHand_50 (by decide) ?_
      refine j_bipush (v := 115) hC dX7_ruleAtHand_52 (by decide) ?_
      refine j_iconst (v := 0) hC dX7_ruleAtHand_54 (by decide) ?_
      refine j_iconst (v := 0) hC dX7_ruleAtHand_55 (by decide) ?_
      refine j_pc (n2 := 56) rfl ?_
      obtain ⟨v5, s5, hc, h⟩ := cal_some h
      refine call_X7_170 hC (fun l D => X7_spelt_ok l D g hc) (by decide) (Nat.le_of_ble_eq_true rfl) dX7_ruleAtHand_56 ?_
      obtain ⟨v6, s6, hc, h⟩ := cal_some h
      refine call_X7_174 hC (fun l D => X7_isKey_ok l D g hc) (by decide) (Nat.le_of_ble_eq_true rfl) dX7_ruleAtHand_59 ?_
      refine j_if_eq (tgt := 67) hC dX7_ruleAtHand_62 (by decide) h ?_ ?_
      · intro h
        refine j_aload_n hC dX7_ruleAtHand_67 rfl 0 rfl ?_
        refine j_bipush (v := 115) hC dX7_ruleAtHand_68 (by decide) ?_
        refine j_bipush (v := 108) hC dX7_ruleAtHand_70 (by decide) ?_
        refine j_bipush (v := 97) hC dX7_ruleAtHand_72 (by decide) ?_
        refine j_bipush (v := 99) hC dX7_ruleAtHand_74 (by decide) ?_
        refine j_bipush (v := 107) hC dX7_ruleAtHand_76 (by decide) ?_
        refine j_iconst (v := 0) hC dX7_ruleAtHand_78 (by decide) ?_
        refine j_pc (n2 := 79) rfl ?_
        obtain ⟨v7, s7, hc, h⟩ := cal_some h
        refine call_X7_170 hC (fun l D => X7_spelt_ok l D g hc) (by decide) (Nat.le_of_ble_eq_true rfl) dX7_ruleAtHand_79 ?_
        obtain ⟨v8, s8, hc, h⟩ := cal_some h
        refine call_X7_174 hC (fun l D => X7_isKey_ok l D g hc) (by decide) (Nat.le_of_ble_eq_true rfl) dX7_ruleAtHand_82 ?_
        refine j_if_eq (tgt := 90) hC dX7_ruleAtHand_85 (by decide) h ?_ ?_
        · intro h
          refine j_aload_n hC dX7_ruleAtHand_90 rfl 0 rfl ?_
          refine j_bipush (v := 109) hC dX7_ruleAtHand_91 (by decide) ?_
          refine j_bipush (v := 111) hC dX7_ruleAtHand_93 (by decide) ?_
          refine j_bipush (v := 115) hC dX7_ruleAtHand_95 (by decide) ?_
          refine j_bipush (v := 116) hC dX7_ruleAtHand_97 (by decide) ?_
          refine j_iconst (v := 0) hC dX7_ruleAtHand_99 (by decide) ?_
          refine j_iconst (v := 0) hC dX7_ruleAtHand_100 (by decide) ?_
          refine j_pc (n2 := 101) rfl ?_
          obtain ⟨v9, s9, hc, h⟩ := cal_some h
          refine call_X7_170 hC (fun l D => X7_spelt_ok l D g hc) (by decide) (Nat.le_of_ble_eq_true rfl) dX7_ruleAtHand_101 ?_
          obtain ⟨v10, s10, hc, h⟩ := cal_some h
          refine call_X7_174 hC (fun l D => X7_isKey_ok l D g hc) (by decide) (Nat.le_of_ble_eq_true rfl) dX7_ruleAtHand_104 ?_
          refine j_if_eq (tgt := 114) hC dX7_ruleAtHand_107 (by decide) h ?_ ?_
          · intro h
            refine j_iconst (v := (-1)) hC dX7_ruleAtHand_114 (by decide) ?_
            exact j_iret hC dX7_ruleAtHand_115 rfl h
          · intro h
            refine j_iconst (v := 4) hC dX7_ruleAtHand_110 (by decide) ?_
            refine j_goto (tgt := 115) hC dX7_ruleAtHand_111 (by decide) ?_
            exact j_iret hC dX7_ruleAtHand_115 rfl h
        · intro h
          refine j_iconst (v := 3) hC dX7_ruleAtHand_88 (by decide) ?_
          exact j_iret hC dX7_ruleAtHand_89 rfl h
      · intro h
        refine j_iconst (v := 2) hC dX7_ruleAtHand_65 (by decide) ?_
        exact j_iret hC dX7_ruleAtHand_66 rfl h
    · intro h
      refine j_iconst (v := 1) hC dX7_ruleAtHand_43 (by decide) ?_
      exact j_iret hC dX7_ruleAtHand_44 rfl h
  · intro h
    refine j_iconst (v := 0) hC dX7_ruleAtHand_19 (by decide) ?_
    exact j_iret hC dX7_ruleAtHand_20 rfl h
set_option maxRecDepth 20000 in
def X7_readRule_l101 (N : Nat) (s0 : St) : Option (Int32 × St) :=
  some (1, s0)
set_option maxRecDepth 20000 in
theorem X7_readRule_l101_ok {K : Kx} {g : Gm} {N : Nat} {o : Int32 × St} (hC : Ok K cX7_readRule RX7 g 2 2 (some .boolean)) : ∀ (s0 : St), X7_readRule_l101 N  s0 = some o → J K (wM g) 2 (QI K g (wM g) o) 101 [] [] s0 := by
  intro  s0 h
  unfold X7_readRule_l101 at h
  refine j_iconst (v := 1) hC dX7_readRule_101 (by decide) ?_
  refine j_goto (tgt := 106) hC dX7_readRule_102 (by decide) ?_
  exact j_iret hC dX7_readRule_106 rfl h
set_option maxRecDepth 20000 in
def X7_readRule_f (N : Nat) (s0 : St) : Option (Int32 × St) :=
  cal (X7_ruleAtHand_f N  s0) fun v1 s1 =>
  if v1 = (-1) then
  cal (X7_bad_f N 1 s1) fun v9 s9 =>
    chk (isZ v9) (some (v9, s9))
  else
  if ((gi s1 10) >>> (v1 &&& 31)) &&& 1 = 1 then
    cal (X7_bad_f N 3 s1) fun v8 s8 =>
      chk (isZ v8) (some (v8, s8))
    else
    cal (X7_go_f N  s1) fun _ s2 =>
      ald s2 4 5 v1 fun v3 =>
      ald s2 5 5 v1 fun v4 =>
      cal (X7_readNumber_f N v3 v4 s2) fun v5 s3 =>
      if v5 = 0 then
      some (0, s3)
      else
      ast s3 3 5 v1 (gi s3 7) fun s4 =>
        bnd (si s4 10 ((gi s4 10) ||| ((1 : Int32) <<< (v1 &&& 31)))) fun s5 =>
        cal (X7_go_f N  s5) fun _ s6 =>
        if gi s6 6 = 4 then
        X7_readRule_l101 N s6
        else
        cal (X7_bad_f N 1 s6) fun v7 s7 =>
          if v7 = 0 then
          some (0, s7)
          else
          X7_readRule_l101 N s7
set_option maxRecDepth 20000 in
theorem X7_readRule_ok (l : Launch) (D : va_G) (g : Gm) {N : Nat} {s0 : St} {o : Int32 × St} (h : X7_readRule_f N s0 = some o) : MI l yX7_readRule cX7_readRule 2 (some .boolean) 2 D g (wM g) [.ref (g.1 0)] s0 o := by
  refine met_I (own := RX7) (by decide) rfl (Nat.le_of_ble_eq_true rfl) (fun K hC => ?_)
  show J K (wM g) 2 (QI K g (wM g) o) 0 [(0, .ref (g.1 0))] [] s0
  unfold X7_readRule_f at h
  refine j_aload_n hC dX7_readRule_0 rfl 0 rfl ?_
  obtain ⟨v1, s1, hc, h⟩ := cal_some h
  refine call_X7_178 hC (fun l D => X7_ruleAtHand_ok l D g hc) (by decide) (Nat.le_of_ble_eq_true rfl) dX7_readRule_1 ?_
  refine j_istore_n hC dX7_readRule_4 rfl (by decide) rfl ?_
  refine j_iload_n hC dX7_readRule_5 rfl 0 rfl ?_
  refine j_iconst (v := (-1)) hC dX7_readRule_6 (by decide) ?_
  refine j_icmp_ne (tgt := 16) hC dX7_readRule_7 (by decide) h ?_ ?_
  · intro h
    refine j_aload_n hC dX7_readRule_16 rfl 1 rfl ?_
    refine get_X7_161 hC dX7_readRule_17 ?_
    refine j_iload_n hC dX7_readRule_20 rfl 0 rfl ?_
    refine j_ishr hC dX7_readRule_21 ?_
    refine j_iconst (v := 1) hC dX7_readRule_22 (by decide) ?_
    refine j_iand hC dX7_readRule_23 ?_
    refine j_iconst (v := 1) hC dX7_readRule_24 (by decide) ?_
    refine j_pc (n2 := 25) rfl ?_
    refine j_icmp_ne (tgt := 34) hC dX7_readRule_25 (by decide) h ?_ ?_
    · intro h
      refine j_aload_n hC dX7_readRule_34 rfl 1 rfl ?_
      obtain ⟨v2, s2, hc, h⟩ := cal_some h
      refine call_X7_164 hC (fun l D => X7_go_ok l D g hc) (by decide) (Nat.le_of_ble_eq_true rfl) dX7_readRule_35 ?_
      refine j_aload_n hC dX7_readRule_38 rfl 1 rfl ?_
      refine j_aload_n hC dX7_readRule_39 rfl 1 rfl ?_
      refine get_X7_22 hC dX7_readRule_40 ?_
      refine j_iload_n hC dX7_readRule_43 rfl 0 rfl ?_
      refine ald_X7_low hC dX7_readRule_44 h ?_
      intro v3 h
      refine j_pc (n2 := 45) rfl ?_
      refine j_aload_n hC dX7_readRule_45 rfl 1 rfl ?_
      refine get_X7_25 hC dX7_readRule_46 ?_
      refine j_iload_n hC dX7_readRule_49 rfl 0 rfl ?_
      refine ald_X7_high hC dX7_readRule_50 h ?_
      intro v4 h
      obtain ⟨v5, s3, hc, h⟩ := cal_some h
      refine call_X7_182 hC (fun l D => X7_readNumber_ok l D g hc) (by decide) (Nat.le_of_ble_eq_true rfl) dX7_readRule_51 ?_
      refine j_if_ne (tgt := 59) hC dX7_readRule_54 (by decide) h ?_ ?_
      · intro h
        refine j_aload_n hC dX7_readRule_59 rfl 1 rfl ?_
        refine get_X7_19 hC dX7_readRule_60 ?_
        refine j_iload_n hC dX7_readRule_63 rfl 0 rfl ?_
        refine j_aload_n hC dX7_readRule_64 rfl 1 rfl ?_
        refine get_X7_142 hC dX7_readRule_65 ?_
        refine ast_X7_fresh hC dX7_readRule_68 h ?_
        intro s4 h
        refine j_aload_n hC dX7_readRule_69 rfl 1 rfl ?_
        refine j_pc (n2 := 70) rfl ?_
        refine j_dup hC rfl dX7_readRule_70 ?_
        refine get_X7_161 hC dX7_readRule_71 ?_
        refine j_iconst (v := 1) hC dX7_readRule_74 (by decide) ?_
        refine j_iload_n hC dX7_readRule_75 rfl 0 rfl ?_
        refine j_ishl hC dX7_readRule_76 ?_
        refine j_ior hC dX7_readRule_77 ?_
        refine put_X7_161 hC dX7_readRule_78 h ?_
        intro s5 h
        refine j_aload_n hC dX7_readRule_81 rfl 1 rfl ?_
        refine j_pc (n2 := 82) rfl ?_
        obtain ⟨v6, s6, hc, h⟩ := cal_some h
        refine call_X7_164 hC (fun l D => X7_go_ok l D g hc) (by decide) (Nat.le_of_ble_eq_true rfl) dX7_readRule_82 ?_
        refine j_aload_n hC dX7_readRule_85 rfl 1 rfl ?_
        refine get_X7_128 hC dX7_readRule_86 ?_
        refine j_iconst (v := 4) hC dX7_readRule_89 (by decide) ?_
        refine j_icmp_eq (tgt := 101) hC dX7_readRule_90 (by decide) h ?_ ?_
        · intro h
          refine j_sub [] rfl ?_
          exact X7_readRule_l101_ok hC s6 h
        · intro h
          refine j_aload_n hC dX7_readRule_93 rfl 1 rfl ?_
          refine j_iconst (v := 1) hC dX7_readRule_94 (by decide) ?_
          obtain ⟨v7, s7, hc, h⟩ := cal_some h
          refine call_X7_167 hC (fun l D => X7_bad_ok l D g hc) (by decide) (Nat.le_of_ble_eq_true rfl) dX7_readRule_95 ?_
          refine j_if_eq (tgt := 105) hC dX7_readRule_98 (by decide) h ?_ ?_
          · intro h
            refine j_iconst (v := 0) hC dX7_readRule_105 (by decide) ?_
            exact j_iret hC dX7_readRule_106 rfl h
          · intro h
            refine j_sub [] rfl ?_
            exact X7_readRule_l101_ok hC s7 h
      · intro h
        refine j_iconst (v := 0) hC dX7_readRule_57 (by decide) ?_
        exact j_iret hC dX7_readRule_58 rfl h
    · intro h
      refine j_aload_n hC dX7_readRule_28 rfl 1 rfl ?_
      refine j_iconst (v := 3) hC dX7_readRule_29 (by decide) ?_
      obtain ⟨v8, s8, hc, h⟩ := cal_some h
      refine call_X7_167 hC (fun l D => X7_bad_ok l D g hc) (by decide) (Nat.le_of_ble_eq_true rfl) dX7_readRule_30 ?_
      obtain ⟨hz, h⟩ := chk_some h
      exact j_iret hC dX7_readRule_33 (isZ_nar hz) h
  · intro h
    refine j_aload_n hC dX7_readRule_10 rfl 1 rfl ?_
    refine j_iconst (v := 1) hC dX7_readRule_11 (by decide) ?_
    obtain ⟨v9, s9, hc, h⟩ := cal_some h
    refine call_X7_167 hC (fun l D => X7_bad_ok l D g hc) (by decide) (Nat.le_of_ble_eq_true rfl) dX7_readRule_12 ?_
    obtain ⟨hz, h⟩ := chk_some h
    exact j_iret hC dX7_readRule_15 (isZ_nar hz) h
set_option maxRecDepth 20000 in
def X7_rules_l71 (N : Nat) : Nat → Int32 → Int32 → St → Option (Int32 × St)
  | 0 => fun _ _ _ => none
  | n + 1 => fun x1 x2 s0 =>
  if 5 ≤ x2 then
  some (x1, s0)
  else
  ald s0 3 5 x2 fun v1 =>
    ast s0 1 5 x2 v1 fun s1 =>
    bnd (x2 + 1) fun v2 =>
    (X7_rules_l71 N n) x1 v2 s1
set_option maxRecDepth 20000 in
theorem X7_rules_l71_ok {K : Kx} {g : Gm} {N : Nat} {o : Int32 × St} (hC : Ok K cX7_rules RX7 g 3 3 (some .int)) : ∀ (n : Nat) (x1 : Int32) (x2 : Int32) (s0 : St), X7_rules_l71 N n x1 x2 s0 = some o → J K (wM g) 3 (QI K g (wM g) o) 71 [(0, .ref (g.1 0)), (1, .int x1), (2, .int x2)] [] s0 := by
  intro n
  induction n with
  | zero => intro x1 x2 s0 h; cases h
  | succ n ih =>
    intro x1 x2 s0 h
    rw [X7_rules_l71] at h
    refine j_iload_n hC dX7_rules_71 rfl 2 rfl ?_
    refine j_iconst (v := 5) hC dX7_rules_72 (by decide) ?_
    refine j_icmp_ge (tgt := 94) hC dX7_rules_73 (by decide) h ?_ ?_
    · intro h
      refine j_iload_n hC dX7_rules_94 rfl 1 rfl ?_
      exact j_iret hC dX7_rules_95 rfl h
    · intro h
      refine j_aload_n hC dX7_rules_76 rfl 0 rfl ?_
      refine get_X7_13 hC dX7_rules_77 ?_
      refine j_iload_n hC dX7_rules_80 rfl 2 rfl ?_
      refine j_aload_n hC dX7_rules_81 rfl 0 rfl ?_
      refine get_X7_19 hC dX7_rules_82 ?_
      refine j_iload_n hC dX7_rules_85 rfl 2 rfl ?_
      refine ald_X7_fresh hC dX7_rules_86 h ?_
      intro v1 h
      refine j_pc (n2 := 87) rfl ?_
      refine ast_X7_rule hC dX7_rules_87 h ?_
      intro s1 h
      refine j_iincb (n2 := 1) (k0 := 2) (lv2 := fun z => [(2, .int z), (0, .ref (g.1 0)), (1, .int x1)]) hC dX7_rules_88 rfl (by decide) (by decide) (fun _ => rfl) h (fun v2 h => ?_)
      refine j_goto (tgt := 71) hC dX7_rules_91 (by decide) ?_
      refine j_sub [1, 2, 0] rfl ?_
      exact ih x1 v2 s1 h
set_option maxRecDepth 20000 in
def X7_rules_l38 (N : Nat) : Nat → Int32 → St → Option (Int32 × St)
  | 0 => fun _ _ => none
  | n + 1 => fun x1 s0 =>
  if gi s0 6 = 0 then
  X7_rules_l71 N N x1 0 s0
  else
  cal (X7_readRule_f N  s0) fun v1 s1 =>
    if v1 = 0 then
    some ((-1 : Int32) - (gi s1 9), s1)
    else
    bnd (x1 + 1) fun v2 =>
      cal (X7_go_f N  s1) fun _ s2 =>
      (X7_rules_l38 N n) v2 s2
set_option maxRecDepth 20000 in
theorem X7_rules_l38_ok {K : Kx} {g : Gm} {N : Nat} {o : Int32 × St} (hC : Ok K cX7_rules RX7 g 3 3 (some .int)) : ∀ (n : Nat) (x1 : Int32) (s0 : St), X7_rules_l38 N n x1 s0 = some o → J K (wM g) 3 (QI K g (wM g) o) 38 [(0, .ref (g.1 0)), (1, .int x1)] [] s0 := by
  intro n
  induction n with
  | zero => intro x1 s0 h; cases h
  | succ n ih =>
    intro x1 s0 h
    rw [X7_rules_l38] at h
    refine j_aload_n hC dX7_rules_38 rfl 0 rfl ?_
    refine get_X7_128 hC dX7_rules_39 ?_
    refine j_if_eq (tgt := 69) hC dX7_rules_42 (by decide) h ?_ ?_
    · intro h
      refine j_iconst (v := 0) hC dX7_rules_69 (by decide) ?_
      refine j_istore_n hC dX7_rules_70 rfl (by decide) rfl ?_
      refine j_sub [1, 2, 0] rfl ?_
      exact X7_rules_l71_ok hC N x1 0 s0 h
    · intro h
      refine j_aload_n hC dX7_rules_45 rfl 0 rfl ?_
      obtain ⟨v1, s1, hc, h⟩ := cal_some h
      refine call_X7_189 hC (fun l D => X7_readRule_ok l D g hc) (by decide) (Nat.le_of_ble_eq_true rfl) dX7_rules_46 ?_
      refine j_if_ne (tgt := 59) hC dX7_rules_49 (by decide) h ?_ ?_
      · intro h
        refine j_iincb (n2 := 1) (k0 := 1) (lv2 := fun z => [(1, .int z), (0, .ref (g.1 0))]) hC dX7_rules_59 rfl (by decide) (by decide) (fun _ => rfl) h (fun v2 h => ?_)
        refine j_aload_n hC dX7_rules_62 rfl 1 rfl ?_
        obtain ⟨v3, s2, hc, h⟩ := cal_some h
        refine call_X7_164 hC (fun l D => X7_go_ok l D g hc) (by decide) (Nat.le_of_ble_eq_true rfl) dX7_rules_63 ?_
        refine j_goto (tgt := 38) hC dX7_rules_66 (by decide) ?_
        refine j_sub [1, 0] rfl ?_
        exact ih v2 s2 h
      · intro h
        refine j_iconst (v := (-1)) hC dX7_rules_52 (by decide) ?_
        refine j_aload_n hC dX7_rules_53 rfl 0 rfl ?_
        refine get_X7_158 hC dX7_rules_54 ?_
        refine j_isub hC dX7_rules_57 ?_
        exact j_iret hC dX7_rules_58 rfl h
set_option maxRecDepth 20000 in
def X7_rules_l13 (N : Nat) : Nat → Int32 → St → Option (Int32 × St)
  | 0 => fun _ _ => none
  | n + 1 => fun x1 s0 =>
  if 5 ≤ x1 then
  X7_rules_l38 N N 0 s0
  else
  ald s0 2 5 x1 fun v1 =>
    ast s0 3 5 x1 v1 fun s1 =>
    bnd (x1 + 1) fun v2 =>
    (X7_rules_l13 N n) v2 s1
set_option maxRecDepth 20000 in
theorem X7_rules_l13_ok {K : Kx} {g : Gm} {N : Nat} {o : Int32 × St} (hC : Ok K cX7_rules RX7 g 3 3 (some .int)) : ∀ (n : Nat) (x1 : Int32) (s0 : St), X7_rules_l13 N n x1 s0 = some o → J K (wM g) 3 (QI K g (wM g) o) 13 [(0, .ref (g.1 0)), (1, .int x1)] [] s0 := by
  intro n
  induction n with
  | zero => intro x1 s0 h; cases h
  | succ n ih =>
    intro x1 s0 h
    rw [X7_rules_l13] at h
    refine j_iload_n hC dX7_rules_13 rfl 1 rfl ?_
    refine j_iconst (v := 5) hC dX7_rules_14 (by decide) ?_
    refine j_icmp_ge (tgt := 36) hC dX7_rules_15 (by decide) h ?_ ?_
    · intro h
      refine j_iconst (v := 0) hC dX7_rules_36 (by decide) ?_
      refine j_istore_n hC dX7_rules_37 rfl (by decide) rfl ?_
      refine j_sub [1, 0] rfl ?_
      exact X7_rules_l38_ok hC N 0 s0 h
    · intro h
      refine j_aload_n hC dX7_rules_18 rfl 0 rfl ?_
      refine get_X7_19 hC dX7_rules_19 ?_
      refine j_iload_n hC dX7_rules_22 rfl 1 rfl ?_
      refine j_aload_n hC dX7_rules_23 rfl 0 rfl ?_
      refine get_X7_16 hC dX7_rules_24 ?_
      refine j_iload_n hC dX7_rules_27 rfl 1 rfl ?_
      refine ald_X7_usual hC dX7_rules_28 h ?_
      intro v1 h
      refine j_pc (n2 := 29) rfl ?_
      refine ast_X7_fresh hC dX7_rules_29 h ?_
      intro s1 h
      refine j_iincb (n2 := 1) (k0 := 1) (lv2 := fun z => [(1, .int z), (0, .ref (g.1 0))]) hC dX7_rules_30 rfl (by decide) (by decide) (fun _ => rfl) h (fun v2 h => ?_)
      refine j_goto (tgt := 13) hC dX7_rules_33 (by decide) ?_
      refine j_sub [1, 0] rfl ?_
      exact ih v2 s1 h
set_option maxRecDepth 20000 in
def X7_rules_f (N : Nat) (s0 : St) : Option (Int32 × St) :=
  bnd (si s0 0 0) fun s1 =>
  cal (X7_begins_f N 120 s1) fun _ s2 =>
  X7_rules_l13 N N 0 s2
set_option maxRecDepth 20000 in
theorem X7_rules_ok (l : Launch) (D : va_G) (g : Gm) {N : Nat} {s0 : St} {o : Int32 × St} (h : X7_rules_f N s0 = some o) : MI l yX7_rules cX7_rules 3 (some .int) 3 D g (wM g) [.ref (g.1 0)] s0 o := by
  refine met_I (own := RX7) (by decide) rfl (Nat.le_of_ble_eq_true rfl) (fun K hC => ?_)
  show J K (wM g) 3 (QI K g (wM g) o) 0 [(0, .ref (g.1 0))] [] s0
  unfold X7_rules_f at h
  refine j_aload_n hC dX7_rules_0 rfl 0 rfl ?_
  refine j_iconst (v := 0) hC dX7_rules_1 (by decide) ?_
  refine put_X7_105 hC dX7_rules_2 h ?_
  intro s1 h
  refine j_aload_n hC dX7_rules_5 rfl 0 rfl ?_
  refine j_bipush (v := 120) hC dX7_rules_6 (by decide) ?_
  obtain ⟨v1, s2, hc, h⟩ := cal_some h
  refine call_X7_186 hC (fun l D => X7_begins_ok l D g hc) (by decide) (Nat.le_of_ble_eq_true rfl) dX7_rules_8 ?_
  refine j_iconst (v := 0) hC dX7_rules_11 (by decide) ?_
  refine j_pc (n2 := 12) rfl ?_
  refine j_istore_n hC dX7_rules_12 rfl (by decide) rfl ?_
  refine j_sub [1, 0] rfl ?_
  exact X7_rules_l13_ok hC N 0 s2 h
set_option maxRecDepth 20000 in
def X7_readItem_l265 (N : Nat) (s0 : St) : Option (Int32 × St) :=
  if gi s0 6 = 4 then
  ald s0 6 7 6 fun v1 =>
    ast s0 6 7 6 (v1 + 1) fun s1 =>
    cal (X7_go_f N  s1) fun _ s2 =>
    some (1, s2)
  else
  cal (X7_bad_f N 1 s0) fun v3 s3 =>
    chk (isZ v3) (some (v3, s3))
set_option maxRecDepth 20000 in
theorem X7_readItem_l265_ok {K : Kx} {g : Gm} {N : Nat} {o : Int32 × St} (hC : Ok K cX7_readItem RX7 g 3 2 (some .boolean)) : ∀ (s0 : St), X7_readItem_l265 N  s0 = some o → J K (wM g) 3 (QI K g (wM g) o) 265 [(0, .ref (g.1 0))] [] s0 := by
  intro  s0 h
  unfold X7_readItem_l265 at h
  refine j_aload_n hC dX7_readItem_265 rfl 0 rfl ?_
  refine get_X7_128 hC dX7_readItem_266 ?_
  refine j_iconst (v := 4) hC dX7_readItem_269 (by decide) ?_
  refine j_icmp_eq (tgt := 279) hC dX7_readItem_270 (by decide) h ?_ ?_
  · intro h
    refine j_aload_n hC dX7_readItem_279 rfl 0 rfl ?_
    refine get_X7_28 hC dX7_readItem_280 ?_
    refine j_bipush (v := 6) hC dX7_readItem_283 (by decide) ?_
    refine j_dup2 hC rfl rfl dX7_readItem_285 ?_
    refine ald_X7_many hC dX7_readItem_286 h ?_
    intro v1 h
    refine j_iconst (v := 1) hC dX7_readItem_287 (by decide) ?_
    refine j_iadd hC dX7_readItem_288 ?_
    refine j_pc (n2 := 289) rfl ?_
    refine ast_X7_many hC dX7_readItem_289 h ?_
    intro s1 h
    refine j_aload_n hC dX7_readItem_290 rfl 0 rfl ?_
    obtain ⟨v2, s2, hc, h⟩ := cal_some h
    refine call_X7_164 hC (fun l D => X7_go_ok l D g hc) (by decide) (Nat.le_of_ble_eq_true rfl) dX7_readItem_291 ?_
    refine j_iconst (v := 1) hC dX7_readItem_294 (by decide) ?_
    exact j_iret hC dX7_readItem_295 rfl h
  · intro h
    refine j_aload_n hC dX7_readItem_273 rfl 0 rfl ?_
    refine j_iconst (v := 1) hC dX7_readItem_274 (by decide) ?_
    obtain ⟨v3, s3, hc, h⟩ := cal_some h
    refine call_X7_167 hC (fun l D => X7_bad_ok l D g hc) (by decide) (Nat.le_of_ble_eq_true rfl) dX7_readItem_275 ?_
    obtain ⟨hz, h⟩ := chk_some h
    exact j_iret hC dX7_readItem_278 (isZ_nar hz) h
set_option maxRecDepth 20000 in
def X7_readItem_l213 (N : Nat) (x1 : Int32) (x2 : Int32) (s0 : St) : Option (Int32 × St) :=
  if x1 = 0 then
  X7_readItem_l265 N s0
  else
  cal (X7_spelt_f N 110 101 119 0 0 0 s0) fun v1 s1 =>
    cal (X7_isKey_f N v1 s1) fun v2 s2 =>
    if v2 = 0 then
    X7_readItem_l265 N s2
    else
    cal (X7_go_f N  s2) fun _ s3 =>
      cal (X7_readNumber_f N 0 4 s3) fun v4 s4 =>
      if v4 = 0 then
      some (0, s4)
      else
      ast s4 9 56 x2 (gi s4 7) fun s5 =>
        cal (X7_go_f N  s5) fun _ s6 =>
        X7_readItem_l265 N s6
set_option maxRecDepth 20000 in
theorem X7_readItem_l213_ok {K : Kx} {g : Gm} {N : Nat} {o : Int32 × St} (hC : Ok K cX7_readItem RX7 g 3 2 (some .boolean)) : ∀ (x1 : Int32) (x2 : Int32) (s0 : St), X7_readItem_l213 N x1 x2 s0 = some o → J K (wM g) 3 (QI K g (wM g) o) 213 [(0, .ref (g.1 0)), (1, .int x1), (2, .int x2)] [] s0 := by
  intro x1 x2 s0 h
  unfold X7_readItem_l213 at h
  refine j_iload_n hC dX7_readItem_213 rfl 1 rfl ?_
  refine j_if_eq (tgt := 265) hC dX7_readItem_214 (by decide) h ?_ ?_
  · intro h
    refine j_sub [0] rfl ?_
    exact X7_readItem_l265_ok hC s0 h
  · intro h
    refine j_aload_n hC dX7_readItem_217 rfl 0 rfl ?_
    refine j_bipush (v := 110) hC dX7_readItem_218 (by decide) ?_
    refine j_bipush (v := 101) hC dX7_readItem_220 (by decide) ?_
    refine j_bipush (v := 119) hC dX7_readItem_222 (by decide) ?_
    refine j_iconst (v := 0) hC dX7_readItem_224 (by decide) ?_
    refine j_iconst (v := 0) hC dX7_readItem_225 (by decide) ?_
    refine j_iconst (v := 0) hC dX7_readItem_226 (by decide) ?_
    refine j_pc (n2 := 227) rfl ?_
    obtain ⟨v1, s1, hc, h⟩ := cal_some h
    refine call_X7_170 hC (fun l D => X7_spelt_ok l D g hc) (by decide) (Nat.le_of_ble_eq_true rfl) dX7_readItem_227 ?_
    obtain ⟨v2, s2, hc, h⟩ := cal_some h
    refine call_X7_174 hC (fun l D => X7_isKey_ok l D g hc) (by decide) (Nat.le_of_ble_eq_true rfl) dX7_readItem_230 ?_
    refine j_if_eq (tgt := 265) hC dX7_readItem_233 (by decide) h ?_ ?_
    · intro h
      refine j_sub [0] rfl ?_
      exact X7_readItem_l265_ok hC s2 h
    · intro h
      refine j_aload_n hC dX7_readItem_236 rfl 0 rfl ?_
      obtain ⟨v3, s3, hc, h⟩ := cal_some h
      refine call_X7_164 hC (fun l D => X7_go_ok l D g hc) (by decide) (Nat.le_of_ble_eq_true rfl) dX7_readItem_237 ?_
      refine j_aload_n hC dX7_readItem_240 rfl 0 rfl ?_
      refine j_iconst (v := 0) hC dX7_readItem_241 (by decide) ?_
      refine j_iconst (v := 4) hC dX7_readItem_242 (by decide) ?_
      obtain ⟨v4, s4, hc, h⟩ := cal_some h
      refine call_X7_182 hC (fun l D => X7_readNumber_ok l D g hc) (by decide) (Nat.le_of_ble_eq_true rfl) dX7_readItem_243 ?_
      refine j_if_ne (tgt := 251) hC dX7_readItem_246 (by decide) h ?_ ?_
      · intro h
        refine j_aload_n hC dX7_readItem_251 rfl 0 rfl ?_
        refine get_X7_37 hC dX7_readItem_252 ?_
        refine j_iload_n hC dX7_readItem_255 rfl 2 rfl ?_
        refine j_aload_n hC dX7_readItem_256 rfl 0 rfl ?_
        refine get_X7_142 hC dX7_readItem_257 ?_
        refine ast_X7_fresh0 hC dX7_readItem_260 h ?_
        intro s5 h
        refine j_aload_n hC dX7_readItem_261 rfl 0 rfl ?_
        refine j_pc (n2 := 262) rfl ?_
        obtain ⟨v5, s6, hc, h⟩ := cal_some h
        refine call_X7_164 hC (fun l D => X7_go_ok l D g hc) (by decide) (Nat.le_of_ble_eq_true rfl) dX7_readItem_262 ?_
        refine j_sub [0] rfl ?_
        exact X7_readItem_l265_ok hC s6 h
      · intro h
        refine j_iconst (v := 0) hC dX7_readItem_249 (by decide) ?_
        exact j_iret hC dX7_readItem_250 rfl h
set_option maxRecDepth 20000 in
def X7_readItem_l155 (N : Nat) (x1 : Int32) (x2 : Int32) (t1 : Int32) (t2 : Int32) (s0 : St) : Option (Int32 × St) :=
  ast s0 9 56 t1 t2 fun s1 =>
  cal (X7_go_f N  s1) fun _ s2 =>
  if x1 = 0 then
  X7_readItem_l213 N x1 x2 s2
  else
  cal (X7_spelt_f N 109 111 111 100 0 0 s2) fun v2 s3 =>
    cal (X7_isKey_f N v2 s3) fun v3 s4 =>
    if v3 = 0 then
    X7_readItem_l213 N x1 x2 s4
    else
    cal (X7_go_f N  s4) fun _ s5 =>
      cal (X7_readNumber_f N 0 3 s5) fun v5 s6 =>
      if v5 = 0 then
      some (0, s6)
      else
      ast s6 8 56 x2 (gi s6 7) fun s7 =>
        cal (X7_go_f N  s7) fun _ s8 =>
        X7_readItem_l213 N x1 x2 s8
set_option maxRecDepth 20000 in
theorem X7_readItem_l155_ok {K : Kx} {g : Gm} {N : Nat} {o : Int32 × St} (hC : Ok K cX7_readItem RX7 g 3 2 (some .boolean)) : ∀ (x1 : Int32) (x2 : Int32) (t1 : Int32) (t2 : Int32) (s0 : St), X7_readItem_l155 N x1 x2 t1 t2 s0 = some o → J K (wM g) 3 (QI K g (wM g) o) 155 [(0, .ref (g.1 0)), (1, .int x1), (2, .int x2)] [.int t2, .int t1, .ref (g.1 10)] s0 := by
  intro x1 x2 t1 t2 s0 h
  unfold X7_readItem_l155 at h
  refine ast_X7_fresh0 hC dX7_readItem_155 h ?_
  intro s1 h
  refine j_aload_n hC dX7_readItem_156 rfl 0 rfl ?_
  obtain ⟨v1, s2, hc, h⟩ := cal_some h
  refine call_X7_164 hC (fun l D => X7_go_ok l D g hc) (by decide) (Nat.le_of_ble_eq_true rfl) dX7_readItem_157 ?_
  refine j_iload_n hC dX7_readItem_160 rfl 1 rfl ?_
  refine j_if_eq (tgt := 213) hC dX7_readItem_161 (by decide) h ?_ ?_
  · intro h
    refine j_sub [0, 1, 2] rfl ?_
    exact X7_readItem_l213_ok hC x1 x2 s2 h
  · intro h
    refine j_aload_n hC dX7_readItem_164 rfl 0 rfl ?_
    refine j_bipush (v := 109) hC dX7_readItem_165 (by decide) ?_
    refine j_bipush (v := 111) hC dX7_readItem_167 (by decide) ?_
    refine j_bipush (v := 111) hC dX7_readItem_169 (by decide) ?_
    refine j_bipush (v := 100) hC dX7_readItem_171 (by decide) ?_
    refine j_iconst (v := 0) hC dX7_readItem_173 (by decide) ?_
    refine j_iconst (v := 0) hC dX7_readItem_174 (by decide) ?_
    refine j_pc (n2 := 175) rfl ?_
    obtain ⟨v2, s3, hc, h⟩ := cal_some h
    refine call_X7_170 hC (fun l D => X7_spelt_ok l D g hc) (by decide) (Nat.le_of_ble_eq_true rfl) dX7_readItem_175 ?_
    obtain ⟨v3, s4, hc, h⟩ := cal_some h
    refine call_X7_174 hC (fun l D => X7_isKey_ok l D g hc) (by decide) (Nat.le_of_ble_eq_true rfl) dX7_readItem_178 ?_
    refine j_if_eq (tgt := 213) hC dX7_readItem_181 (by decide) h ?_ ?_
    · intro h
      refine j_sub [0, 1, 2] rfl ?_
      exact X7_readItem_l213_ok hC x1 x2 s4 h
    · intro h
      refine j_aload_n hC dX7_readItem_184 rfl 0 rfl ?_
      obtain ⟨v4, s5, hc, h⟩ := cal_some h
      refine call_X7_164 hC (fun l D => X7_go_ok l D g hc) (by decide) (Nat.le_of_ble_eq_true rfl) dX7_readItem_185 ?_
      refine j_aload_n hC dX7_readItem_188 rfl 0 rfl ?_
      refine j_iconst (v := 0) hC dX7_readItem_189 (by decide) ?_
      refine j_iconst (v := 3) hC dX7_readItem_190 (by decide) ?_
      obtain ⟨v5, s6, hc, h⟩ := cal_some h
      refine call_X7_182 hC (fun l D => X7_readNumber_ok l D g hc) (by decide) (Nat.le_of_ble_eq_true rfl) dX7_readItem_191 ?_
      refine j_if_ne (tgt := 199) hC dX7_readItem_194 (by decide) h ?_ ?_
      · intro h
        refine j_aload_n hC dX7_readItem_199 rfl 0 rfl ?_
        refine get_X7_34 hC dX7_readItem_200 ?_
        refine j_iload_n hC dX7_readItem_203 rfl 2 rfl ?_
        refine j_aload_n hC dX7_readItem_204 rfl 0 rfl ?_
        refine get_X7_142 hC dX7_readItem_205 ?_
        refine ast_X7_mood hC dX7_readItem_208 h ?_
        intro s7 h
        refine j_aload_n hC dX7_readItem_209 rfl 0 rfl ?_
        refine j_pc (n2 := 210) rfl ?_
        obtain ⟨v6, s8, hc, h⟩ := cal_some h
        refine call_X7_164 hC (fun l D => X7_go_ok l D g hc) (by decide) (Nat.le_of_ble_eq_true rfl) dX7_readItem_210 ?_
        refine j_sub [0, 1, 2] rfl ?_
        exact X7_readItem_l213_ok hC x1 x2 s8 h
      · intro h
        refine j_iconst (v := 0) hC dX7_readItem_197 (by decide) ?_
        exact j_iret hC dX7_readItem_198 rfl h
set_option maxRecDepth 20000 in
def X7_readItem_l49 (N : Nat) (x1 : Int32) (s0 : St) : Option (Int32 × St) :=
  ald s0 6 7 6 fun v1 =>
  if v1 = 8 then
  cal (X7_bad_f N 3 s0) fun v7 s7 =>
    chk (isZ v7) (some (v7, s7))
  else
  ald s0 6 7 6 fun v2 =>
    bnd ((48 : Int32) + v2) fun v3 =>
    cal (X7_go_f N  s0) fun _ s1 =>
    cal (X7_readNumber_f N 1 3600 s1) fun v5 s2 =>
    if v5 = 0 then
    some (0, s2)
    else
    bnd (si s2 11 ((gi s2 11) + (gi s2 7))) fun s3 =>
      if gi s3 11 ≤ 3600 then
      ast s3 7 56 v3 (gi s3 7) fun s4 =>
        ast s4 8 56 v3 ((-1)) fun s5 =>
        if x1 = 0 then
        X7_readItem_l155 N x1 v3 v3 ((-1)) s5
        else
        X7_readItem_l155 N x1 v3 v3 0 s5
      else
      cal (X7_bad_f N 3 s3) fun v6 s6 =>
        chk (isZ v6) (some (v6, s6))
set_option maxRecDepth 20000 in
theorem X7_readItem_l49_ok {K : Kx} {g : Gm} {N : Nat} {o : Int32 × St} (hC : Ok K cX7_readItem RX7 g 3 2 (some .boolean)) : ∀ (x1 : Int32) (s0 : St), X7_readItem_l49 N x1 s0 = some o → J K (wM g) 3 (QI K g (wM g) o) 49 [(0, .ref (g.1 0)), (1, .int x1)] [] s0 := by
  intro x1 s0 h
  unfold X7_readItem_l49 at h
  refine j_aload_n hC dX7_readItem_49 rfl 0 rfl ?_
  refine get_X7_28 hC dX7_readItem_50 ?_
  refine j_bipush (v := 6) hC dX7_readItem_53 (by decide) ?_
  refine ald_X7_many hC dX7_readItem_55 h ?_
  intro v1 h
  refine j_bipush (v := 8) hC dX7_readItem_56 (by decide) ?_
  refine j_icmp_ne (tgt := 67) hC dX7_readItem_58 (by decide) h ?_ ?_
  · intro h
    refine j_bipush (v := 48) hC dX7_readItem_67 (by decide) ?_
    refine j_aload_n hC dX7_readItem_69 rfl 0 rfl ?_
    refine get_X7_28 hC dX7_readItem_70 ?_
    refine j_bipush (v := 6) hC dX7_readItem_73 (by decide) ?_
    refine ald_X7_many hC dX7_readItem_75 h ?_
    intro v2 h
    refine j_iadd hC dX7_readItem_76 ?_
    refine j_bi (E := (48 : Int32) + v2) h (fun v3 h => ?_)
    refine j_istore_n hC dX7_readItem_77 rfl (by decide) rfl ?_
    refine j_pc (n2 := 78) rfl ?_
    refine j_aload_n hC dX7_readItem_78 rfl 1 rfl ?_
    obtain ⟨v4, s1, hc, h⟩ := cal_some h
    refine call_X7_164 hC (fun l D => X7_go_ok l D g hc) (by decide) (Nat.le_of_ble_eq_true rfl) dX7_readItem_79 ?_
    refine j_aload_n hC dX7_readItem_82 rfl 1 rfl ?_
    refine j_iconst (v := 1) hC dX7_readItem_83 (by decide) ?_
    refine j_sipush (v := 3600) hC dX7_readItem_84 (by decide) ?_
    obtain ⟨v5, s2, hc, h⟩ := cal_some h
    refine call_X7_182 hC (fun l D => X7_readNumber_ok l D g hc) (by decide) (Nat.le_of_ble_eq_true rfl) dX7_readItem_87 ?_
    refine j_if_ne (tgt := 95) hC dX7_readItem_90 (by decide) h ?_ ?_
    · intro h
      refine j_aload_n hC dX7_readItem_95 rfl 1 rfl ?_
      refine j_dup hC rfl dX7_readItem_96 ?_
      refine get_X7_193 hC dX7_readItem_97 ?_
      refine j_aload_n hC dX7_readItem_100 rfl 1 rfl ?_
      refine get_X7_142 hC dX7_readItem_101 ?_
      refine j_iadd hC dX7_readItem_104 ?_
      refine put_X7_193 hC dX7_readItem_105 h ?_
      intro s3 h
      refine j_pc (n2 := 108) rfl ?_
      refine j_aload_n hC dX7_readItem_108 rfl 1 rfl ?_
      refine get_X7_193 hC dX7_readItem_109 ?_
      refine j_sipush (v := 3600) hC dX7_readItem_112 (by decide) ?_
      refine j_icmp_le (tgt := 124) hC dX7_readItem_115 (by decide) h ?_ ?_
      · intro h
        refine j_aload_n hC dX7_readItem_124 rfl 1 rfl ?_
        refine get_X7_31 hC dX7_readItem_125 ?_
        refine j_iload_n hC dX7_readItem_128 rfl 0 rfl ?_
        refine j_aload_n hC dX7_readItem_129 rfl 1 rfl ?_
        refine get_X7_142 hC dX7_readItem_130 ?_
        refine ast_X7_seconds hC dX7_readItem_133 h ?_
        intro s4 h
        refine j_aload_n hC dX7_readItem_134 rfl 1 rfl ?_
        refine j_pc (n2 := 135) rfl ?_
        refine get_X7_34 hC dX7_readItem_135 ?_
        refine j_iload_n hC dX7_readItem_138 rfl 0 rfl ?_
        refine j_iconst (v := (-1)) hC dX7_readItem_139 (by decide) ?_
        refine ast_X7_mood hC dX7_readItem_140 h ?_
        intro s5 h
        refine j_aload_n hC dX7_readItem_141 rfl 1 rfl ?_
        refine get_X7_37 hC dX7_readItem_142 ?_
        refine j_iload_n hC dX7_readItem_145 rfl 0 rfl ?_
        refine j_iload_n hC dX7_readItem_146 rfl 2 rfl ?_
        refine j_pc (n2 := 147) rfl ?_
        refine j_if_eq (tgt := 154) hC dX7_readItem_147 (by decide) h ?_ ?_
        · intro h
          refine j_iconst (v := (-1)) hC dX7_readItem_154 (by decide) ?_
          refine j_sub [1, 2, 0] rfl ?_
          exact X7_readItem_l155_ok hC x1 v3 v3 ((-1)) s5 h
        · intro h
          refine j_iconst (v := 0) hC dX7_readItem_150 (by decide) ?_
          refine j_goto (tgt := 155) hC dX7_readItem_151 (by decide) ?_
          refine j_sub [1, 2, 0] rfl ?_
          exact X7_readItem_l155_ok hC x1 v3 v3 0 s5 h
      · intro h
        refine j_aload_n hC dX7_readItem_118 rfl 1 rfl ?_
        refine j_iconst (v := 3) hC dX7_readItem_119 (by decide) ?_
        obtain ⟨v6, s6, hc, h⟩ := cal_some h
        refine call_X7_167 hC (fun l D => X7_bad_ok l D g hc) (by decide) (Nat.le_of_ble_eq_true rfl) dX7_readItem_120 ?_
        obtain ⟨hz, h⟩ := chk_some h
        exact j_iret hC dX7_readItem_123 (isZ_nar hz) h
    · intro h
      refine j_iconst (v := 0) hC dX7_readItem_93 (by decide) ?_
      exact j_iret hC dX7_readItem_94 rfl h
  · intro h
    refine j_aload_n hC dX7_readItem_61 rfl 0 rfl ?_
    refine j_iconst (v := 3) hC dX7_readItem_62 (by decide) ?_
    obtain ⟨v7, s7, hc, h⟩ := cal_some h
    refine call_X7_167 hC (fun l D => X7_bad_ok l D g hc) (by decide) (Nat.le_of_ble_eq_true rfl) dX7_readItem_63 ?_
    obtain ⟨hz, h⟩ := chk_some h
    exact j_iret hC dX7_readItem_66 (isZ_nar hz) h
set_option maxRecDepth 20000 in
def X7_readItem_f (N : Nat) (s0 : St) : Option (Int32 × St) :=
  cal (X7_spelt_f N 115 111 110 103 115 0 s0) fun v1 s1 =>
  cal (X7_isKey_f N v1 s1) fun v2 s2 =>
  if v2 = 0 then
  cal (X7_spelt_f N 116 97 108 107 0 0 s2) fun v3 s3 =>
    cal (X7_isKey_f N v3 s3) fun v4 s4 =>
    if v4 = 0 then
    cal (X7_bad_f N 1 s4) fun v5 s5 =>
      chk (isZ v5) (some (v5, s5))
    else
    X7_readItem_l49 N v2 s4
  else
  X7_readItem_l49 N v2 s2
set_option maxRecDepth 20000 in
theorem X7_readItem_ok (l : Launch) (D : va_G) (g : Gm) {N : Nat} {s0 : St} {o : Int32 × St} (h : X7_readItem_f N s0 = some o) : MI l yX7_readItem cX7_readItem 3 (some .boolean) 2 D g (wM g) [.ref (g.1 0)] s0 o := by
  refine met_I (own := RX7) (by decide) rfl (Nat.le_of_ble_eq_true rfl) (fun K hC => ?_)
  show J K (wM g) 3 (QI K g (wM g) o) 0 [(0, .ref (g.1 0))] [] s0
  unfold X7_readItem_f at h
  refine j_aload_n hC dX7_readItem_0 rfl 0 rfl ?_
  refine j_bipush (v := 115) hC dX7_readItem_1 (by decide) ?_
  refine j_bipush (v := 111) hC dX7_readItem_3 (by decide) ?_
  refine j_bipush (v := 110) hC dX7_readItem_5 (by decide) ?_
  refine j_bipush (v := 103) hC dX7_readItem_7 (by decide) ?_
  refine j_bipush (v := 115) hC dX7_readItem_9 (by decide) ?_
  refine j_iconst (v := 0) hC dX7_readItem_11 (by decide) ?_
  refine j_pc (n2 := 12) rfl ?_
  obtain ⟨v1, s1, hc, h⟩ := cal_some h
  refine call_X7_170 hC (fun l D => X7_spelt_ok l D g hc) (by decide) (Nat.le_of_ble_eq_true rfl) dX7_readItem_12 ?_
  obtain ⟨v2, s2, hc, h⟩ := cal_some h
  refine call_X7_174 hC (fun l D => X7_isKey_ok l D g hc) (by decide) (Nat.le_of_ble_eq_true rfl) dX7_readItem_15 ?_
  refine j_istore_n hC dX7_readItem_18 rfl (by decide) rfl ?_
  refine j_iload_n hC dX7_readItem_19 rfl 0 rfl ?_
  refine j_if_ne (tgt := 49) hC dX7_readItem_20 (by decide) h ?_ ?_
  · intro h
    refine j_sub [1, 0] rfl ?_
    exact X7_readItem_l49_ok hC v2 s2 h
  · intro h
    refine j_aload_n hC dX7_readItem_23 rfl 1 rfl ?_
    refine j_bipush (v := 116) hC dX7_readItem_24 (by decide) ?_
    refine j_bipush (v := 97) hC dX7_readItem_26 (by decide) ?_
    refine j_bipush (v := 108) hC dX7_readItem_28 (by decide) ?_
    refine j_bipush (v := 107) hC dX7_readItem_30 (by decide) ?_
    refine j_iconst (v := 0) hC dX7_readItem_32 (by decide) ?_
    refine j_iconst (v := 0) hC dX7_readItem_33 (by decide) ?_
    refine j_pc (n2 := 34) rfl ?_
    obtain ⟨v3, s3, hc, h⟩ := cal_some h
    refine call_X7_170 hC (fun l D => X7_spelt_ok l D g hc) (by decide) (Nat.le_of_ble_eq_true rfl) dX7_readItem_34 ?_
    obtain ⟨v4, s4, hc, h⟩ := cal_some h
    refine call_X7_174 hC (fun l D => X7_isKey_ok l D g hc) (by decide) (Nat.le_of_ble_eq_true rfl) dX7_readItem_37 ?_
    refine j_if_ne (tgt := 49) hC dX7_readItem_40 (by decide) h ?_ ?_
    · intro h
      refine j_sub [1, 0] rfl ?_
      exact X7_readItem_l49_ok hC v2 s4 h
    · intro h
      refine j_aload_n hC dX7_readItem_43 rfl 1 rfl ?_
      refine j_iconst (v := 1) hC dX7_readItem_44 (by decide) ?_
      obtain ⟨v5, s5, hc, h⟩ := cal_some h
      refine call_X7_167 hC (fun l D => X7_bad_ok l D g hc) (by decide) (Nat.le_of_ble_eq_true rfl) dX7_readItem_45 ?_
      obtain ⟨hz, h⟩ := chk_some h
      exact j_iret hC dX7_readItem_48 (isZ_nar hz) h
set_option maxRecDepth 20000 in
def X7_isClock_f (N : Nat) (x0 : Int32) (s0 : St) : Option (Int32 × St) :=
  if x0 < 0 then
  some (0, s0)
  else
  if 6 ≤ x0 then
    some (0, s0)
    else
    some (1, s0)
set_option maxRecDepth 20000 in
theorem X7_isClock_ok (l : Launch) (D : va_G) (g : Gm) {N : Nat} {x0 : Int32} {s0 : St} {o : Int32 × St} (h : X7_isClock_f N x0 s0 = some o) : MI l yX7_isClock cX7_isClock 1 (some .boolean) 0 D g (wM g) [.int x0] s0 o := by
  refine met_I (own := RX7) (by decide) rfl (Nat.le_of_ble_eq_true rfl) (fun K hC => ?_)
  show J K (wM g) 1 (QI K g (wM g) o) 0 [(0, .int x0)] [] s0
  unfold X7_isClock_f at h
  refine j_iload_n hC dX7_isClock_0 rfl 0 rfl ?_
  refine j_if_lt (tgt := 14) hC dX7_isClock_1 (by decide) h ?_ ?_
  · intro h
    refine j_iconst (v := 0) hC dX7_isClock_14 (by decide) ?_
    exact j_iret hC dX7_isClock_15 rfl h
  · intro h
    refine j_iload_n hC dX7_isClock_4 rfl 0 rfl ?_
    refine j_bipush (v := 6) hC dX7_isClock_5 (by decide) ?_
    refine j_icmp_ge (tgt := 14) hC dX7_isClock_7 (by decide) h ?_ ?_
    · intro h
      refine j_iconst (v := 0) hC dX7_isClock_14 (by decide) ?_
      exact j_iret hC dX7_isClock_15 rfl h
    · intro h
      refine j_iconst (v := 1) hC dX7_isClock_10 (by decide) ?_
      refine j_goto (tgt := 15) hC dX7_isClock_11 (by decide) ?_
      exact j_iret hC dX7_isClock_15 rfl h
set_option maxRecDepth 20000 in
def X7_clock_l95 (N : Nat) : Nat → Int32 → Int32 → St → Option (Int32 × St)
  | 0 => fun _ _ _ => none
  | n + 1 => fun x1 x2 s0 =>
  ald s0 6 7 x1 fun v1 =>
  if v1 ≤ x2 then
  ald s0 6 7 x1 fun v2 =>
    some (v2, s0)
  else
  ald s0 7 56 ((48 : Int32) + x2) fun v3 =>
    ast s0 7 56 (((8 : Int32) * x1) + x2) v3 fun s1 =>
    ald s1 8 56 ((48 : Int32) + x2) fun v4 =>
    ast s1 8 56 (((8 : Int32) * x1) + x2) v4 fun s2 =>
    ald s2 9 56 ((48 : Int32) + x2) fun v5 =>
    ast s2 9 56 (((8 : Int32) * x1) + x2) v5 fun s3 =>
    bnd (x2 + 1) fun v6 =>
    (X7_clock_l95 N n) x1 v6 s3
set_option maxRecDepth 20000 in
theorem X7_clock_l95_ok {K : Kx} {g : Gm} {N : Nat} {o : Int32 × St} (hC : Ok K cX7_clock RX7 g 3 3 (some .int)) : ∀ (n : Nat) (x1 : Int32) (x2 : Int32) (s0 : St), X7_clock_l95 N n x1 x2 s0 = some o → J K (wM g) 3 (QI K g (wM g) o) 95 [(0, .ref (g.1 0)), (1, .int x1), (2, .int x2)] [] s0 := by
  intro n
  induction n with
  | zero => intro x1 x2 s0 h; cases h
  | succ n ih =>
    intro x1 x2 s0 h
    rw [X7_clock_l95] at h
    refine j_iload_n hC dX7_clock_95 rfl 2 rfl ?_
    refine j_aload_n hC dX7_clock_96 rfl 0 rfl ?_
    refine get_X7_28 hC dX7_clock_97 ?_
    refine j_iload_n hC dX7_clock_100 rfl 1 rfl ?_
    refine ald_X7_many hC dX7_clock_101 h ?_
    intro v1 h
    refine j_icmp_ge (tgt := 171) hC dX7_clock_102 (by decide) h ?_ ?_
    · intro h
      refine j_aload_n hC dX7_clock_171 rfl 0 rfl ?_
      refine get_X7_28 hC dX7_clock_172 ?_
      refine j_iload_n hC dX7_clock_175 rfl 1 rfl ?_
      refine ald_X7_many hC dX7_clock_176 h ?_
      intro v2 h
      exact j_iret hC dX7_clock_177 rfl h
    · intro h
      refine j_aload_n hC dX7_clock_105 rfl 0 rfl ?_
      refine get_X7_31 hC dX7_clock_106 ?_
      refine j_bipush (v := 8) hC dX7_clock_109 (by decide) ?_
      refine j_iload_n hC dX7_clock_111 rfl 1 rfl ?_
      refine j_imul hC dX7_clock_112 ?_
      refine j_iload_n hC dX7_clock_113 rfl 2 rfl ?_
      refine j_iadd hC dX7_clock_114 ?_
      refine j_pc (n2 := 115) rfl ?_
      refine j_aload_n hC dX7_clock_115 rfl 0 rfl ?_
      refine get_X7_31 hC dX7_clock_116 ?_
      refine j_bipush (v := 48) hC dX7_clock_119 (by decide) ?_
      refine j_iload_n hC dX7_clock_121 rfl 2 rfl ?_
      refine j_iadd hC dX7_clock_122 ?_
      refine ald_X7_seconds hC dX7_clock_123 h ?_
      intro v3 h
      refine ast_X7_seconds hC dX7_clock_124 h ?_
      intro s1 h
      refine j_aload_n hC dX7_clock_125 rfl 0 rfl ?_
      refine j_pc (n2 := 126) rfl ?_
      refine get_X7_34 hC dX7_clock_126 ?_
      refine j_bipush (v := 8) hC dX7_clock_129 (by decide) ?_
      refine j_iload_n hC dX7_clock_131 rfl 1 rfl ?_
      refine j_imul hC dX7_clock_132 ?_
      refine j_iload_n hC dX7_clock_133 rfl 2 rfl ?_
      refine j_iadd hC dX7_clock_134 ?_
      refine j_aload_n hC dX7_clock_135 rfl 0 rfl ?_
      refine get_X7_34 hC dX7_clock_136 ?_
      refine j_pc (n2 := 139) rfl ?_
      refine j_bipush (v := 48) hC dX7_clock_139 (by decide) ?_
      refine j_iload_n hC dX7_clock_141 rfl 2 rfl ?_
      refine j_iadd hC dX7_clock_142 ?_
      refine ald_X7_mood hC dX7_clock_143 h ?_
      intro v4 h
      refine ast_X7_mood hC dX7_clock_144 h ?_
      intro s2 h
      refine j_aload_n hC dX7_clock_145 rfl 0 rfl ?_
      refine get_X7_37 hC dX7_clock_146 ?_
      refine j_bipush (v := 8) hC dX7_clock_149 (by decide) ?_
      refine j_pc (n2 := 151) rfl ?_
      refine j_iload_n hC dX7_clock_151 rfl 1 rfl ?_
      refine j_imul hC dX7_clock_152 ?_
      refine j_iload_n hC dX7_clock_153 rfl 2 rfl ?_
      refine j_iadd hC dX7_clock_154 ?_
      refine j_aload_n hC dX7_clock_155 rfl 0 rfl ?_
      refine get_X7_37 hC dX7_clock_156 ?_
      refine j_bipush (v := 48) hC dX7_clock_159 (by decide) ?_
      refine j_iload_n hC dX7_clock_161 rfl 2 rfl ?_
      refine j_pc (n2 := 162) rfl ?_
      refine j_iadd hC dX7_clock_162 ?_
      refine ald_X7_fresh0 hC dX7_clock_163 h ?_
      intro v5 h
      refine ast_X7_fresh0 hC dX7_clock_164 h ?_
      intro s3 h
      refine j_iincb (n2 := 1) (k0 := 2) (lv2 := fun z => [(2, .int z), (0, .ref (g.1 0)), (1, .int x1)]) hC dX7_clock_165 rfl (by decide) (by decide) (fun _ => rfl) h (fun v6 h => ?_)
      refine j_goto (tgt := 95) hC dX7_clock_168 (by decide) ?_
      refine j_sub [1, 2, 0] rfl ?_
      exact ih x1 v6 s3 h
set_option maxRecDepth 20000 in
def X7_clock_l37 (N : Nat) : Nat → Int32 → St → Option (Int32 × St)
  | 0 => fun _ _ => none
  | n + 1 => fun x1 s0 =>
  if gi s0 6 = 0 then
  if 3600 ≤ gi s0 11 then
    ald s0 6 7 6 fun v1 =>
      ast s0 6 7 x1 v1 fun s1 =>
      X7_clock_l95 N N x1 0 s1
    else
    bnd (si s0 8 4) fun s2 =>
      some ((-1 : Int32) - (gi s2 2), s2)
  else
  cal (X7_readItem_f N  s0) fun v2 s3 =>
    if v2 = 0 then
    some ((-1 : Int32) - (gi s3 9), s3)
    else
    (X7_clock_l37 N n) x1 s3
set_option maxRecDepth 20000 in
theorem X7_clock_l37_ok {K : Kx} {g : Gm} {N : Nat} {o : Int32 × St} (hC : Ok K cX7_clock RX7 g 3 3 (some .int)) : ∀ (n : Nat) (x1 : Int32) (s0 : St), X7_clock_l37 N n x1 s0 = some o → J K (wM g) 3 (QI K g (wM g) o) 37 [(0, .ref (g.1 0)), (1, .int x1)] [] s0 := by
  intro n
  induction n with
  | zero => intro x1 s0 h; cases h
  | succ n ih =>
    intro x1 s0 h
    rw [X7_clock_l37] at h
    refine j_aload_n hC dX7_clock_37 rfl 0 rfl ?_
    refine get_X7_128 hC dX7_clock_38 ?_
    refine j_if_eq (tgt := 58) hC dX7_clock_41 (by decide) h ?_ ?_
    · intro h
      refine j_aload_n hC dX7_clock_58 rfl 0 rfl ?_
      refine get_X7_193 hC dX7_clock_59 ?_
      refine j_sipush (v := 3600) hC dX7_clock_62 (by decide) ?_
      refine j_icmp_ge (tgt := 80) hC dX7_clock_65 (by decide) h ?_ ?_
      · intro h
        refine j_aload_n hC dX7_clock_80 rfl 0 rfl ?_
        refine get_X7_28 hC dX7_clock_81 ?_
        refine j_iload_n hC dX7_clock_84 rfl 1 rfl ?_
        refine j_aload_n hC dX7_clock_85 rfl 0 rfl ?_
        refine get_X7_28 hC dX7_clock_86 ?_
        refine j_bipush (v := 6) hC dX7_clock_89 (by decide) ?_
        refine ald_X7_many hC dX7_clock_91 h ?_
        intro v1 h
        refine j_pc (n2 := 92) rfl ?_
        refine ast_X7_many hC dX7_clock_92 h ?_
        intro s1 h
        refine j_iconst (v := 0) hC dX7_clock_93 (by decide) ?_
        refine j_istore_n hC dX7_clock_94 rfl (by decide) rfl ?_
        refine j_sub [1, 2, 0] rfl ?_
        exact X7_clock_l95_ok hC N x1 0 s1 h
      · intro h
        refine j_aload_n hC dX7_clock_68 rfl 0 rfl ?_
        refine j_iconst (v := 4) hC dX7_clock_69 (by decide) ?_
        refine put_X7_155 hC dX7_clock_70 h ?_
        intro s2 h
        refine j_iconst (v := (-1)) hC dX7_clock_73 (by decide) ?_
        refine j_aload_n hC dX7_clock_74 rfl 0 rfl ?_
        refine get_X7_116 hC dX7_clock_75 ?_
        refine j_isub hC dX7_clock_78 ?_
        refine j_pc (n2 := 79) rfl ?_
        exact j_iret hC dX7_clock_79 rfl h
    · intro h
      refine j_aload_n hC dX7_clock_44 rfl 0 rfl ?_
      obtain ⟨v2, s3, hc, h⟩ := cal_some h
      refine call_X7_202 hC (fun l D => X7_readItem_ok l D g hc) (by decide) (Nat.le_of_ble_eq_true rfl) dX7_clock_45 ?_
      refine j_if_ne (tgt := 37) hC dX7_clock_48 (by decide) h ?_ ?_
      · intro h
        refine j_sub [0, 1] rfl ?_
        exact ih x1 s3 h
      · intro h
        refine j_iconst (v := (-1)) hC dX7_clock_51 (by decide) ?_
        refine j_aload_n hC dX7_clock_52 rfl 0 rfl ?_
        refine get_X7_158 hC dX7_clock_53 ?_
        refine j_isub hC dX7_clock_56 ?_
        exact j_iret hC dX7_clock_57 rfl h
set_option maxRecDepth 20000 in
def X7_clock_f (N : Nat) (x1 : Int32) (s0 : St) : Option (Int32 × St) :=
  cal (X7_isClock_f N x1 s0) fun v1 s1 =>
  if v1 = 0 then
  cal (X7_refuse_f N  s1) fun v3 s6 =>
    some (v3, s6)
  else
  bnd (si s1 0 0) fun s2 =>
    cal (X7_begins_f N 240 s2) fun _ s3 =>
    ast s3 6 7 6 0 fun s4 =>
    bnd (si s4 11 0) fun s5 =>
    X7_clock_l37 N N x1 s5
set_option maxRecDepth 20000 in
theorem X7_clock_ok (l : Launch) (D : va_G) (g : Gm) {N : Nat} {x1 : Int32} {s0 : St} {o : Int32 × St} (h : X7_clock_f N x1 s0 = some o) : MI l yX7_clock cX7_clock 3 (some .int) 3 D g (wM g) [.ref (g.1 0), .int x1] s0 o := by
  refine met_I (own := RX7) (by decide) rfl (Nat.le_of_ble_eq_true rfl) (fun K hC => ?_)
  show J K (wM g) 3 (QI K g (wM g) o) 0 [(0, .ref (g.1 0)), (1, .int x1)] [] s0
  unfold X7_clock_f at h
  refine j_iload_n hC dX7_clock_0 rfl 1 rfl ?_
  obtain ⟨v1, s1, hc, h⟩ := cal_some h
  refine call_X7_196 hC (fun l D => X7_isClock_ok l D g hc) (by decide) (Nat.le_of_ble_eq_true rfl) dX7_clock_1 ?_
  refine j_if_ne (tgt := 12) hC dX7_clock_4 (by decide) h ?_ ?_
  · intro h
    refine j_aload_n hC dX7_clock_12 rfl 0 rfl ?_
    refine j_iconst (v := 0) hC dX7_clock_13 (by decide) ?_
    refine put_X7_105 hC dX7_clock_14 h ?_
    intro s2 h
    refine j_aload_n hC dX7_clock_17 rfl 0 rfl ?_
    refine j_sipush (v := 240) hC dX7_clock_18 (by decide) ?_
    obtain ⟨v2, s3, hc, h⟩ := cal_some h
    refine call_X7_186 hC (fun l D => X7_begins_ok l D g hc) (by decide) (Nat.le_of_ble_eq_true rfl) dX7_clock_21 ?_
    refine j_aload_n hC dX7_clock_24 rfl 0 rfl ?_
    refine j_pc (n2 := 25) rfl ?_
    refine get_X7_28 hC dX7_clock_25 ?_
    refine j_bipush (v := 6) hC dX7_clock_28 (by decide) ?_
    refine j_iconst (v := 0) hC dX7_clock_30 (by decide) ?_
    refine ast_X7_many hC dX7_clock_31 h ?_
    intro s4 h
    refine j_aload_n hC dX7_clock_32 rfl 0 rfl ?_
    refine j_iconst (v := 0) hC dX7_clock_33 (by decide) ?_
    refine put_X7_193 hC dX7_clock_34 h ?_
    intro s5 h
    refine j_sub [0, 1] rfl ?_
    exact X7_clock_l37_ok hC N x1 s5 h
  · intro h
    refine j_aload_n hC dX7_clock_7 rfl 0 rfl ?_
    obtain ⟨v3, s6, hc, h⟩ := cal_some h
    refine call_X7_199 hC (fun l D => X7_refuse_ok l D g hc) (by decide) (Nat.le_of_ble_eq_true rfl) dX7_clock_8 ?_
    exact j_iret hC dX7_clock_11 rfl h
set_option maxRecDepth 20000 in
def X7_fault_f (N : Nat) (s0 : St) : Option (Int32 × St) :=
  bnd (si s0 0 0) fun s1 =>
  some (gi s1 8, s1)
set_option maxRecDepth 20000 in
theorem X7_fault_ok (l : Launch) (D : va_G) (g : Gm) {N : Nat} {s0 : St} {o : Int32 × St} (h : X7_fault_f N s0 = some o) : MI l yX7_fault cX7_fault 1 (some .int) 0 D g (wM g) [.ref (g.1 0)] s0 o := by
  refine met_I (own := RX7) (by decide) rfl (Nat.le_of_ble_eq_true rfl) (fun K hC => ?_)
  show J K (wM g) 1 (QI K g (wM g) o) 0 [(0, .ref (g.1 0))] [] s0
  unfold X7_fault_f at h
  refine j_aload_n hC dX7_fault_0 rfl 0 rfl ?_
  refine j_iconst (v := 0) hC dX7_fault_1 (by decide) ?_
  refine put_X7_105 hC dX7_fault_2 h ?_
  intro s1 h
  refine j_aload_n hC dX7_fault_5 rfl 0 rfl ?_
  refine get_X7_155 hC dX7_fault_6 ?_
  exact j_iret hC dX7_fault_9 rfl h
set_option maxRecDepth 20000 in
def X7_rule_l14 (N : Nat) (s0 : St) : Option (Int32 × St) :=
  some ((-1), s0)
set_option maxRecDepth 20000 in
theorem X7_rule_l14_ok {K : Kx} {g : Gm} {N : Nat} {o : Int32 × St} (hC : Ok K cX7_rule RX7 g 2 0 (some .int)) : ∀ (s0 : St), X7_rule_l14 N  s0 = some o → J K (wM g) 2 (QI K g (wM g) o) 14 [] [] s0 := by
  intro  s0 h
  unfold X7_rule_l14 at h
  refine j_iconst (v := (-1)) hC dX7_rule_14 (by decide) ?_
  refine j_goto (tgt := 24) hC dX7_rule_15 (by decide) ?_
  exact j_iret hC dX7_rule_24 rfl h
set_option maxRecDepth 20000 in
def X7_rule_f (N : Nat) (x1 : Int32) (s0 : St) : Option (Int32 × St) :=
  bnd (si s0 0 0) fun s1 =>
  if x1 < 0 then
  X7_rule_l14 N s1
  else
  if x1 < 5 then
    ald s1 1 5 x1 fun v1 =>
      some (v1, s1)
    else
    X7_rule_l14 N s1
set_option maxRecDepth 20000 in
theorem X7_rule_ok (l : Launch) (D : va_G) (g : Gm) {N : Nat} {x1 : Int32} {s0 : St} {o : Int32 × St} (h : X7_rule_f N x1 s0 = some o) : MI l yX7_rule cX7_rule 2 (some .int) 0 D g (wM g) [.ref (g.1 0), .int x1] s0 o := by
  refine met_I (own := RX7) (by decide) rfl (Nat.le_of_ble_eq_true rfl) (fun K hC => ?_)
  show J K (wM g) 2 (QI K g (wM g) o) 0 [(0, .ref (g.1 0)), (1, .int x1)] [] s0
  unfold X7_rule_f at h
  refine j_aload_n hC dX7_rule_0 rfl 0 rfl ?_
  refine j_iconst (v := 0) hC dX7_rule_1 (by decide) ?_
  refine put_X7_105 hC dX7_rule_2 h ?_
  intro s1 h
  refine j_iload_n hC dX7_rule_5 rfl 1 rfl ?_
  refine j_if_lt (tgt := 14) hC dX7_rule_6 (by decide) h ?_ ?_
  · intro h
    refine j_sub [] rfl ?_
    exact X7_rule_l14_ok hC s1 h
  · intro h
    refine j_iload_n hC dX7_rule_9 rfl 1 rfl ?_
    refine j_iconst (v := 5) hC dX7_rule_10 (by decide) ?_
    refine j_icmp_lt (tgt := 18) hC dX7_rule_11 (by decide) h ?_ ?_
    · intro h
      refine j_aload_n hC dX7_rule_18 rfl 0 rfl ?_
      refine get_X7_13 hC dX7_rule_19 ?_
      refine j_iload_n hC dX7_rule_22 rfl 1 rfl ?_
      refine ald_X7_rule hC dX7_rule_23 h ?_
      intro v1 h
      exact j_iret hC dX7_rule_24 rfl h
    · intro h
      refine j_sub [] rfl ?_
      exact X7_rule_l14_ok hC s1 h
set_option maxRecDepth 20000 in
def X7_isIn_f (N : Nat) (x0 : Int32) (x1 : Int32) (x2 : Int32) (s0 : St) : Option (Int32 × St) :=
  if x0 < x1 then
  some (0, s0)
  else
  if x2 < x0 then
    some (0, s0)
    else
    some (1, s0)
set_option maxRecDepth 20000 in
theorem X7_isIn_ok (l : Launch) (D : va_G) (g : Gm) {N : Nat} {x0 : Int32} {x1 : Int32} {x2 : Int32} {s0 : St} {o : Int32 × St} (h : X7_isIn_f N x0 x1 x2 s0 = some o) : MI l yX7_isIn cX7_isIn 3 (some .boolean) 0 D g (wM g) [.int x0, .int x1, .int x2] s0 o := by
  refine met_I (own := RX7) (by decide) rfl (Nat.le_of_ble_eq_true rfl) (fun K hC => ?_)
  show J K (wM g) 3 (QI K g (wM g) o) 0 [(0, .int x0), (1, .int x1), (2, .int x2)] [] s0
  unfold X7_isIn_f at h
  refine j_iload_n hC dX7_isIn_0 rfl 0 rfl ?_
  refine j_iload_n hC dX7_isIn_1 rfl 1 rfl ?_
  refine j_icmp_lt (tgt := 14) hC dX7_isIn_2 (by decide) h ?_ ?_
  · intro h
    refine j_iconst (v := 0) hC dX7_isIn_14 (by decide) ?_
    exact j_iret hC dX7_isIn_15 rfl h
  · intro h
    refine j_iload_n hC dX7_isIn_5 rfl 0 rfl ?_
    refine j_iload_n hC dX7_isIn_6 rfl 2 rfl ?_
    refine j_icmp_gt (tgt := 14) hC dX7_isIn_7 (by decide) h ?_ ?_
    · intro h
      refine j_iconst (v := 0) hC dX7_isIn_14 (by decide) ?_
      exact j_iret hC dX7_isIn_15 rfl h
    · intro h
      refine j_iconst (v := 1) hC dX7_isIn_10 (by decide) ?_
      refine j_goto (tgt := 15) hC dX7_isIn_11 (by decide) ?_
      exact j_iret hC dX7_isIn_15 rfl h
set_option maxRecDepth 20000 in
def X7_isSong_f (N : Nat) (x1 : Int32) (s0 : St) : Option (Int32 × St) :=
  if x1 < 0 then
  some (0, s0)
  else
  if gi s0 12 ≤ x1 then
    some (0, s0)
    else
    some (1, s0)
set_option maxRecDepth 20000 in
theorem X7_isSong_ok (l : Launch) (D : va_G) (g : Gm) {N : Nat} {x1 : Int32} {s0 : St} {o : Int32 × St} (h : X7_isSong_f N x1 s0 = some o) : MI l yX7_isSong cX7_isSong 2 (some .boolean) 0 D g (wM g) [.ref (g.1 0), .int x1] s0 o := by
  refine met_I (own := RX7) (by decide) rfl (Nat.le_of_ble_eq_true rfl) (fun K hC => ?_)
  show J K (wM g) 2 (QI K g (wM g) o) 0 [(0, .ref (g.1 0)), (1, .int x1)] [] s0
  unfold X7_isSong_f at h
  refine j_iload_n hC dX7_isSong_0 rfl 1 rfl ?_
  refine j_if_lt (tgt := 16) hC dX7_isSong_1 (by decide) h ?_ ?_
  · intro h
    refine j_iconst (v := 0) hC dX7_isSong_16 (by decide) ?_
    exact j_iret hC dX7_isSong_17 rfl h
  · intro h
    refine j_iload_n hC dX7_isSong_4 rfl 1 rfl ?_
    refine j_aload_n hC dX7_isSong_5 rfl 0 rfl ?_
    refine get_X7_205 hC dX7_isSong_6 ?_
    refine j_icmp_ge (tgt := 16) hC dX7_isSong_9 (by decide) h ?_ ?_
    · intro h
      refine j_iconst (v := 0) hC dX7_isSong_16 (by decide) ?_
      exact j_iret hC dX7_isSong_17 rfl h
    · intro h
      refine j_iconst (v := 1) hC dX7_isSong_12 (by decide) ?_
      refine j_goto (tgt := 17) hC dX7_isSong_13 (by decide) ?_
      exact j_iret hC dX7_isSong_17 rfl h
set_option maxRecDepth 20000 in
def X7_song_f (N : Nat) (x1 : Int32) (x2 : Int32) (x3 : Int32) (x4 : Int32) (x5 : Int32) (s0 : St) : Option (Int32 × St) :=
  bnd (si s0 0 0) fun s1 =>
  if gi s1 12 = 24 then
  some ((-1), s1)
  else
  cal (X7_isIn_f N x1 30 900 s1) fun v1 s2 =>
    if v1 = 0 then
    some ((-1), s2)
    else
    cal (X7_isIn_f N x2 0 11 s2) fun v2 s3 =>
      if v2 = 0 then
      some ((-1), s3)
      else
      cal (X7_isIn_f N x3 0 11 s3) fun v3 s4 =>
        if v3 = 0 then
        some ((-1), s4)
        else
        cal (X7_isIn_f N x4 0 3 s4) fun v4 s5 =>
          if v4 = 0 then
          some ((-1), s5)
          else
          ast s5 10 24 (gi s5 12) x1 fun s6 =>
            ast s6 11 24 (gi s6 12) x2 fun s7 =>
            ast s7 12 24 (gi s7 12) x3 fun s8 =>
            ast s8 13 24 (gi s8 12) x4 fun s9 =>
            ast s9 19 24 (gi s9 12) (vp_nar .boolean x5) fun s10 =>
            bnd (si s10 12 ((gi s10 12) + 1)) fun s11 =>
            some ((gi s11 12) - 1, s11)
set_option maxRecDepth 20000 in
theorem X7_song_ok (l : Launch) (D : va_G) (g : Gm) {N : Nat} {x1 : Int32} {x2 : Int32} {x3 : Int32} {x4 : Int32} {x5 : Int32} {s0 : St} {o : Int32 × St} (h : X7_song_f N x1 x2 x3 x4 x5 s0 = some o) : MI l yX7_song cX7_song 6 (some .int) 1 D g (wM g) [.ref (g.1 0), .int x1, .int x2, .int x3, .int x4, .int x5] s0 o := by
  refine met_I (own := RX7) (by decide) rfl (Nat.le_of_ble_eq_true rfl) (fun K hC => ?_)
  show J K (wM g) 6 (QI K g (wM g) o) 0 [(0, .ref (g.1 0)), (1, .int x1), (2, .int x2), (3, .int x3), (4, .int x4), (5, .int x5)] [] s0
  unfold X7_song_f at h
  refine j_aload_n hC dX7_song_0 rfl 0 rfl ?_
  refine j_iconst (v := 0) hC dX7_song_1 (by decide) ?_
  refine put_X7_105 hC dX7_song_2 h ?_
  intro s1 h
  refine j_aload_n hC dX7_song_5 rfl 0 rfl ?_
  refine get_X7_205 hC dX7_song_6 ?_
  refine j_bipush (v := 24) hC dX7_song_9 (by decide) ?_
  refine j_icmp_eq (tgt := 56) hC dX7_song_11 (by decide) h ?_ ?_
  · intro h
    refine j_iconst (v := (-1)) hC dX7_song_56 (by decide) ?_
    exact j_iret hC dX7_song_57 rfl h
  · intro h
    refine j_iload_n hC dX7_song_14 rfl 1 rfl ?_
    refine j_bipush (v := 30) hC dX7_song_15 (by decide) ?_
    refine j_sipush (v := 900) hC dX7_song_17 (by decide) ?_
    obtain ⟨v1, s2, hc, h⟩ := cal_some h
    refine call_X7_208 hC (fun l D => X7_isIn_ok l D g hc) (by decide) (Nat.le_of_ble_eq_true rfl) dX7_song_20 ?_
    refine j_if_eq (tgt := 56) hC dX7_song_23 (by decide) h ?_ ?_
    · intro h
      refine j_iconst (v := (-1)) hC dX7_song_56 (by decide) ?_
      exact j_iret hC dX7_song_57 rfl h
    · intro h
      refine j_iload_n hC dX7_song_26 rfl 2 rfl ?_
      refine j_iconst (v := 0) hC dX7_song_27 (by decide) ?_
      refine j_bipush (v := 11) hC dX7_song_28 (by decide) ?_
      obtain ⟨v2, s3, hc, h⟩ := cal_some h
      refine call_X7_208 hC (fun l D => X7_isIn_ok l D g hc) (by decide) (Nat.le_of_ble_eq_true rfl) dX7_song_30 ?_
      refine j_if_eq (tgt := 56) hC dX7_song_33 (by decide) h ?_ ?_
      · intro h
        refine j_iconst (v := (-1)) hC dX7_song_56 (by decide) ?_
        exact j_iret hC dX7_song_57 rfl h
      · intro h
        refine j_iload_n hC dX7_song_36 rfl 3 rfl ?_
        refine j_iconst (v := 0) hC dX7_song_37 (by decide) ?_
        refine j_bipush (v := 11) hC dX7_song_38 (by decide) ?_
        obtain ⟨v3, s4, hc, h⟩ := cal_some h
        refine call_X7_208 hC (fun l D => X7_isIn_ok l D g hc) (by decide) (Nat.le_of_ble_eq_true rfl) dX7_song_40 ?_
        refine j_if_eq (tgt := 56) hC dX7_song_43 (by decide) h ?_ ?_
        · intro h
          refine j_iconst (v := (-1)) hC dX7_song_56 (by decide) ?_
          exact j_iret hC dX7_song_57 rfl h
        · intro h
          refine j_iload hC dX7_song_46 4 rfl ?_
          refine j_iconst (v := 0) hC dX7_song_48 (by decide) ?_
          refine j_iconst (v := 3) hC dX7_song_49 (by decide) ?_
          obtain ⟨v4, s5, hc, h⟩ := cal_some h
          refine call_X7_208 hC (fun l D => X7_isIn_ok l D g hc) (by decide) (Nat.le_of_ble_eq_true rfl) dX7_song_50 ?_
          refine j_if_ne (tgt := 58) hC dX7_song_53 (by decide) h ?_ ?_
          · intro h
            refine j_aload_n hC dX7_song_58 rfl 0 rfl ?_
            refine get_X7_40 hC dX7_song_59 ?_
            refine j_aload_n hC dX7_song_62 rfl 0 rfl ?_
            refine get_X7_205 hC dX7_song_63 ?_
            refine j_iload_n hC dX7_song_66 rfl 1 rfl ?_
            refine ast_X7_lasts hC dX7_song_67 h ?_
            intro s6 h
            refine j_aload_n hC dX7_song_68 rfl 0 rfl ?_
            refine j_pc (n2 := 69) rfl ?_
            refine get_X7_43 hC dX7_song_69 ?_
            refine j_aload_n hC dX7_song_72 rfl 0 rfl ?_
            refine get_X7_205 hC dX7_song_73 ?_
            refine j_iload_n hC dX7_song_76 rfl 2 rfl ?_
            refine ast_X7_artist hC dX7_song_77 h ?_
            intro s7 h
            refine j_aload_n hC dX7_song_78 rfl 0 rfl ?_
            refine get_X7_46 hC dX7_song_79 ?_
            refine j_aload_n hC dX7_song_82 rfl 0 rfl ?_
            refine j_pc (n2 := 83) rfl ?_
            refine get_X7_205 hC dX7_song_83 ?_
            refine j_iload_n hC dX7_song_86 rfl 3 rfl ?_
            refine ast_X7_key hC dX7_song_87 h ?_
            intro s8 h
            refine j_aload_n hC dX7_song_88 rfl 0 rfl ?_
            refine get_X7_49 hC dX7_song_89 ?_
            refine j_aload_n hC dX7_song_92 rfl 0 rfl ?_
            refine get_X7_205 hC dX7_song_93 ?_
            refine j_iload hC dX7_song_96 4 rfl ?_
            refine j_pc (n2 := 98) rfl ?_
            refine ast_X7_songMood hC dX7_song_98 h ?_
            intro s9 h
            refine j_aload_n hC dX7_song_99 rfl 0 rfl ?_
            refine get_X7_67 hC dX7_song_100 ?_
            refine j_aload_n hC dX7_song_103 rfl 0 rfl ?_
            refine get_X7_205 hC dX7_song_104 ?_
            refine j_iload hC dX7_song_107 5 rfl ?_
            refine ast_X7_isNew hC dX7_song_109 h ?_
            intro s10 h
            refine j_aload_n hC dX7_song_110 rfl 0 rfl ?_
            refine j_pc (n2 := 111) rfl ?_
            refine j_dup hC rfl dX7_song_111 ?_
            refine get_X7_205 hC dX7_song_112 ?_
            refine j_iconst (v := 1) hC dX7_song_115 (by decide) ?_
            refine j_iadd hC dX7_song_116 ?_
            refine put_X7_205 hC dX7_song_117 h ?_
            intro s11 h
            refine j_aload_n hC dX7_song_120 rfl 0 rfl ?_
            refine get_X7_205 hC dX7_song_121 ?_
            refine j_iconst (v := 1) hC dX7_song_124 (by decide) ?_
            refine j_pc (n2 := 125) rfl ?_
            refine j_isub hC dX7_song_125 ?_
            exact j_iret hC dX7_song_126 rfl h
          · intro h
            refine j_iconst (v := (-1)) hC dX7_song_56 (by decide) ?_
            exact j_iret hC dX7_song_57 rfl h
set_option maxRecDepth 20000 in
def X7_heatOf_l12 (N : Nat) : Nat → Int32 → Int32 → Int32 → St → Option (Int32 × St)
  | 0 => fun _ _ _ _ => none
  | n + 1 => fun x1 x2 x3 s0 =>
  if 10 ≤ x3 then
  some (x2, s0)
  else
  ald s0 14 24 x1 fun v1 =>
    if v1 ≤ x3 then
    some (x2, s0)
    else
    ald s0 17 240 (((10 : Int32) * x1) + x3) fun v2 =>
      bnd (x2 + v2) fun v3 =>
      bnd (x3 + 1) fun v4 =>
      (X7_heatOf_l12 N n) x1 v3 v4 s0
set_option maxRecDepth 20000 in
theorem X7_heatOf_l12_ok {K : Kx} {g : Gm} {N : Nat} {o : Int32 × St} (hC : Ok K cX7_heatOf RX7 g 4 0 (some .int)) : ∀ (n : Nat) (x1 : Int32) (x2 : Int32) (x3 : Int32) (s0 : St), X7_heatOf_l12 N n x1 x2 x3 s0 = some o → J K (wM g) 4 (QI K g (wM g) o) 12 [(0, .ref (g.1 0)), (1, .int x1), (2, .int x2), (3, .int x3)] [] s0 := by
  intro n
  induction n with
  | zero => intro x1 x2 x3 s0 h; cases h
  | succ n ih =>
    intro x1 x2 x3 s0 h
    rw [X7_heatOf_l12] at h
    refine j_iload_n hC dX7_heatOf_12 rfl 3 rfl ?_
    refine j_bipush (v := 10) hC dX7_heatOf_13 (by decide) ?_
    refine j_icmp_ge (tgt := 48) hC dX7_heatOf_15 (by decide) h ?_ ?_
    · intro h
      refine j_iload_n hC dX7_heatOf_48 rfl 2 rfl ?_
      exact j_iret hC dX7_heatOf_49 rfl h
    · intro h
      refine j_iload_n hC dX7_heatOf_18 rfl 3 rfl ?_
      refine j_aload_n hC dX7_heatOf_19 rfl 0 rfl ?_
      refine get_X7_52 hC dX7_heatOf_20 ?_
      refine j_iload_n hC dX7_heatOf_23 rfl 1 rfl ?_
      refine ald_X7_votes hC dX7_heatOf_24 h ?_
      intro v1 h
      refine j_icmp_ge (tgt := 48) hC dX7_heatOf_25 (by decide) h ?_ ?_
      · intro h
        refine j_iload_n hC dX7_heatOf_48 rfl 2 rfl ?_
        exact j_iret hC dX7_heatOf_49 rfl h
      · intro h
        refine j_iload_n hC dX7_heatOf_28 rfl 2 rfl ?_
        refine j_aload_n hC dX7_heatOf_29 rfl 0 rfl ?_
        refine get_X7_61 hC dX7_heatOf_30 ?_
        refine j_bipush (v := 10) hC dX7_heatOf_33 (by decide) ?_
        refine j_iload_n hC dX7_heatOf_35 rfl 1 rfl ?_
        refine j_imul hC dX7_heatOf_36 ?_
        refine j_iload_n hC dX7_heatOf_37 rfl 3 rfl ?_
        refine j_pc (n2 := 38) rfl ?_
        refine j_iadd hC dX7_heatOf_38 ?_
        refine ald_X7_vote hC dX7_heatOf_39 h ?_
        intro v2 h
        refine j_iadd hC dX7_heatOf_40 ?_
        refine j_bi (E := x2 + v2) h (fun v3 h => ?_)
        refine j_istore_n hC dX7_heatOf_41 rfl (by decide) rfl ?_
        refine j_iincb (n2 := 1) (k0 := 3) (lv2 := fun z => [(3, .int z), (2, .int v3), (0, .ref (g.1 0)), (1, .int x1)]) hC dX7_heatOf_42 rfl (by decide) (by decide) (fun _ => rfl) h (fun v4 h => ?_)
        refine j_goto (tgt := 12) hC dX7_heatOf_45 (by decide) ?_
        refine j_sub [2, 3, 1, 0] rfl ?_
        exact ih x1 v3 v4 s0 h
set_option maxRecDepth 20000 in
def X7_heatOf_f (N : Nat) (x1 : Int32) (s0 : St) : Option (Int32 × St) :=
  ald s0 15 24 x1 fun v1 =>
  bnd ((15 : Int32) * v1) fun v2 =>
  X7_heatOf_l12 N N x1 v2 0 s0
set_option maxRecDepth 20000 in
theorem X7_heatOf_ok (l : Launch) (D : va_G) (g : Gm) {N : Nat} {x1 : Int32} {s0 : St} {o : Int32 × St} (h : X7_heatOf_f N x1 s0 = some o) : MI l yX7_heatOf cX7_heatOf 4 (some .int) 0 D g (wM g) [.ref (g.1 0), .int x1] s0 o := by
  refine met_I (own := RX7) (by decide) rfl (Nat.le_of_ble_eq_true rfl) (fun K hC => ?_)
  show J K (wM g) 4 (QI K g (wM g) o) 0 [(0, .ref (g.1 0)), (1, .int x1)] [] s0
  unfold X7_heatOf_f at h
  refine j_bipush (v := 15) hC dX7_heatOf_0 (by decide) ?_
  refine j_aload_n hC dX7_heatOf_2 rfl 0 rfl ?_
  refine get_X7_55 hC dX7_heatOf_3 ?_
  refine j_iload_n hC dX7_heatOf_6 rfl 1 rfl ?_
  refine ald_X7_open hC dX7_heatOf_7 h ?_
  intro v1 h
  refine j_imul hC dX7_heatOf_8 ?_
  refine j_bi (E := (15 : Int32) * v1) h (fun v2 h => ?_)
  refine j_istore_n hC dX7_heatOf_9 rfl (by decide) rfl ?_
  refine j_pc (n2 := 10) rfl ?_
  refine j_iconst (v := 0) hC dX7_heatOf_10 (by decide) ?_
  refine j_istore_n hC dX7_heatOf_11 rfl (by decide) rfl ?_
  refine j_sub [2, 3, 1, 0] rfl ?_
  exact X7_heatOf_l12_ok hC N x1 v2 0 s0 h
set_option maxRecDepth 20000 in
def X7_vote_f (N : Nat) (x1 : Int32) (x2 : Int32) (s0 : St) : Option (Int32 × St) :=
  bnd (si s0 0 0) fun s1 =>
  cal (X7_isSong_f N x1 s1) fun v1 s2 =>
  if v1 = 0 then
  some ((-1), s2)
  else
  cal (X7_isIn_f N x2 0 9 s2) fun v2 s3 =>
    if v2 = 0 then
    some ((-1), s3)
    else
    ald s3 14 24 x1 fun v3 =>
      ast s3 17 240 (((10 : Int32) * x1) + (v3 - v3 / 10 * 10)) x2 fun s4 =>
      ald s4 14 24 x1 fun v4 =>
      ast s4 14 24 x1 (v4 + 1) fun s5 =>
      cal (X7_heatOf_f N x1 s5) fun v5 s6 =>
      some (v5, s6)
set_option maxRecDepth 20000 in
theorem X7_vote_ok (l : Launch) (D : va_G) (g : Gm) {N : Nat} {x1 : Int32} {x2 : Int32} {s0 : St} {o : Int32 × St} (h : X7_vote_f N x1 x2 s0 = some o) : MI l yX7_vote cX7_vote 3 (some .int) 1 D g (wM g) [.ref (g.1 0), .int x1, .int x2] s0 o := by
  refine met_I (own := RX7) (by decide) rfl (Nat.le_of_ble_eq_true rfl) (fun K hC => ?_)
  show J K (wM g) 3 (QI K g (wM g) o) 0 [(0, .ref (g.1 0)), (1, .int x1), (2, .int x2)] [] s0
  unfold X7_vote_f at h
  refine j_aload_n hC dX7_vote_0 rfl 0 rfl ?_
  refine j_iconst (v := 0) hC dX7_vote_1 (by decide) ?_
  refine put_X7_105 hC dX7_vote_2 h ?_
  intro s1 h
  refine j_aload_n hC dX7_vote_5 rfl 0 rfl ?_
  refine j_iload_n hC dX7_vote_6 rfl 1 rfl ?_
  obtain ⟨v1, s2, hc, h⟩ := cal_some h
  refine call_X7_212 hC (fun l D => X7_isSong_ok l D g hc) (by decide) (Nat.le_of_ble_eq_true rfl) dX7_vote_7 ?_
  refine j_if_eq (tgt := 23) hC dX7_vote_10 (by decide) h ?_ ?_
  · intro h
    refine j_iconst (v := (-1)) hC dX7_vote_23 (by decide) ?_
    exact j_iret hC dX7_vote_24 rfl h
  · intro h
    refine j_iload_n hC dX7_vote_13 rfl 2 rfl ?_
    refine j_iconst (v := 0) hC dX7_vote_14 (by decide) ?_
    refine j_bipush (v := 9) hC dX7_vote_15 (by decide) ?_
    obtain ⟨v2, s3, hc, h⟩ := cal_some h
    refine call_X7_208 hC (fun l D => X7_isIn_ok l D g hc) (by decide) (Nat.le_of_ble_eq_true rfl) dX7_vote_17 ?_
    refine j_if_ne (tgt := 25) hC dX7_vote_20 (by decide) h ?_ ?_
    · intro h
      refine j_aload_n hC dX7_vote_25 rfl 0 rfl ?_
      refine get_X7_61 hC dX7_vote_26 ?_
      refine j_bipush (v := 10) hC dX7_vote_29 (by decide) ?_
      refine j_iload_n hC dX7_vote_31 rfl 1 rfl ?_
      refine j_imul hC dX7_vote_32 ?_
      refine j_aload_n hC dX7_vote_33 rfl 0 rfl ?_
      refine get_X7_52 hC dX7_vote_34 ?_
      refine j_pc (n2 := 37) rfl ?_
      refine j_iload_n hC dX7_vote_37 rfl 1 rfl ?_
      refine ald_X7_votes hC dX7_vote_38 h ?_
      intro v3 h
      refine j_bipush (v := 10) hC dX7_vote_39 (by decide) ?_
      refine j_irem hC (by decide) dX7_vote_41 ?_
      refine j_iadd hC dX7_vote_42 ?_
      refine j_iload_n hC dX7_vote_43 rfl 2 rfl ?_
      refine ast_X7_vote hC dX7_vote_44 h ?_
      intro s4 h
      refine j_aload_n hC dX7_vote_45 rfl 0 rfl ?_
      refine j_pc (n2 := 46) rfl ?_
      refine get_X7_52 hC dX7_vote_46 ?_
      refine j_iload_n hC dX7_vote_49 rfl 1 rfl ?_
      refine j_dup2 hC rfl rfl dX7_vote_50 ?_
      refine ald_X7_votes hC dX7_vote_51 h ?_
      intro v4 h
      refine j_iconst (v := 1) hC dX7_vote_52 (by decide) ?_
      refine j_iadd hC dX7_vote_53 ?_
      refine ast_X7_votes hC dX7_vote_54 h ?_
      intro s5 h
      refine j_aload_n hC dX7_vote_55 rfl 0 rfl ?_
      refine j_pc (n2 := 56) rfl ?_
      refine j_iload_n hC dX7_vote_56 rfl 1 rfl ?_
      obtain ⟨v5, s6, hc, h⟩ := cal_some h
      refine call_X7_215 hC (fun l D => X7_heatOf_ok l D g hc) (by decide) (Nat.le_of_ble_eq_true rfl) dX7_vote_57 ?_
      exact j_iret hC dX7_vote_60 rfl h
    · intro h
      refine j_iconst (v := (-1)) hC dX7_vote_23 (by decide) ?_
      exact j_iret hC dX7_vote_24 rfl h
set_option maxRecDepth 20000 in
def X7_ask_f (N : Nat) (x1 : Int32) (s0 : St) : Option (Int32 × St) :=
  bnd (si s0 0 0) fun s1 =>
  cal (X7_isSong_f N x1 s1) fun v1 s2 =>
  if v1 = 0 then
  some ((-1), s2)
  else
  ald s2 15 24 x1 fun v2 =>
    if v2 = 20 then
    some ((-1), s2)
    else
    ald s2 15 24 x1 fun v3 =>
      ast s2 15 24 x1 (v3 + 1) fun s3 =>
      ald s3 15 24 x1 fun v4 =>
      some (v4, s3)
set_option maxRecDepth 20000 in
theorem X7_ask_ok (l : Launch) (D : va_G) (g : Gm) {N : Nat} {x1 : Int32} {s0 : St} {o : Int32 × St} (h : X7_ask_f N x1 s0 = some o) : MI l yX7_ask cX7_ask 2 (some .int) 1 D g (wM g) [.ref (g.1 0), .int x1] s0 o := by
  refine met_I (own := RX7) (by decide) rfl (Nat.le_of_ble_eq_true rfl) (fun K hC => ?_)
  show J K (wM g) 2 (QI K g (wM g) o) 0 [(0, .ref (g.1 0)), (1, .int x1)] [] s0
  unfold X7_ask_f at h
  refine j_aload_n hC dX7_ask_0 rfl 0 rfl ?_
  refine j_iconst (v := 0) hC dX7_ask_1 (by decide) ?_
  refine put_X7_105 hC dX7_ask_2 h ?_
  intro s1 h
  refine j_aload_n hC dX7_ask_5 rfl 0 rfl ?_
  refine j_iload_n hC dX7_ask_6 rfl 1 rfl ?_
  obtain ⟨v1, s2, hc, h⟩ := cal_some h
  refine call_X7_212 hC (fun l D => X7_isSong_ok l D g hc) (by decide) (Nat.le_of_ble_eq_true rfl) dX7_ask_7 ?_
  refine j_if_eq (tgt := 24) hC dX7_ask_10 (by decide) h ?_ ?_
  · intro h
    refine j_iconst (v := (-1)) hC dX7_ask_24 (by decide) ?_
    exact j_iret hC dX7_ask_25 rfl h
  · intro h
    refine j_aload_n hC dX7_ask_13 rfl 0 rfl ?_
    refine get_X7_55 hC dX7_ask_14 ?_
    refine j_iload_n hC dX7_ask_17 rfl 1 rfl ?_
    refine ald_X7_open hC dX7_ask_18 h ?_
    intro v2 h
    refine j_bipush (v := 20) hC dX7_ask_19 (by decide) ?_
    refine j_icmp_ne (tgt := 26) hC dX7_ask_21 (by decide) h ?_ ?_
    · intro h
      refine j_aload_n hC dX7_ask_26 rfl 0 rfl ?_
      refine get_X7_55 hC dX7_ask_27 ?_
      refine j_iload_n hC dX7_ask_30 rfl 1 rfl ?_
      refine j_dup2 hC rfl rfl dX7_ask_31 ?_
      refine ald_X7_open hC dX7_ask_32 h ?_
      intro v3 h
      refine j_iconst (v := 1) hC dX7_ask_33 (by decide) ?_
      refine j_iadd hC dX7_ask_34 ?_
      refine j_pc (n2 := 35) rfl ?_
      refine ast_X7_open hC dX7_ask_35 h ?_
      intro s3 h
      refine j_aload_n hC dX7_ask_36 rfl 0 rfl ?_
      refine get_X7_55 hC dX7_ask_37 ?_
      refine j_iload_n hC dX7_ask_40 rfl 1 rfl ?_
      refine ald_X7_open hC dX7_ask_41 h ?_
      intro v4 h
      exact j_iret hC dX7_ask_42 rfl h
    · intro h
      refine j_iconst (v := (-1)) hC dX7_ask_24 (by decide) ?_
      exact j_iret hC dX7_ask_25 rfl h
set_option maxRecDepth 20000 in
def X7_endOf_f (N : Nat) (x1 : Int32) (s0 : St) : Option (Int32 × St) :=
  ald s0 21 300 x1 fun v1 =>
  ald s0 20 300 x1 fun v2 =>
  ald s0 10 24 v2 fun v3 =>
  some (v1 + v3, s0)
set_option maxRecDepth 20000 in
theorem X7_endOf_ok (l : Launch) (D : va_G) (g : Gm) {N : Nat} {x1 : Int32} {s0 : St} {o : Int32 × St} (h : X7_endOf_f N x1 s0 = some o) : MI l yX7_endOf cX7_endOf 2 (some .int) 0 D g (wM g) [.ref (g.1 0), .int x1] s0 o := by
  refine met_I (own := RX7) (by decide) rfl (Nat.le_of_ble_eq_true rfl) (fun K hC => ?_)
  show J K (wM g) 2 (QI K g (wM g) o) 0 [(0, .ref (g.1 0)), (1, .int x1)] [] s0
  unfold X7_endOf_f at h
  refine j_aload_n hC dX7_endOf_0 rfl 0 rfl ?_
  refine get_X7_74 hC dX7_endOf_1 ?_
  refine j_iload_n hC dX7_endOf_4 rfl 1 rfl ?_
  refine ald_X7_began hC dX7_endOf_5 h ?_
  intro v1 h
  refine j_aload_n hC dX7_endOf_6 rfl 0 rfl ?_
  refine get_X7_40 hC dX7_endOf_7 ?_
  refine j_aload_n hC dX7_endOf_10 rfl 0 rfl ?_
  refine j_pc (n2 := 11) rfl ?_
  refine get_X7_71 hC dX7_endOf_11 ?_
  refine j_iload_n hC dX7_endOf_14 rfl 1 rfl ?_
  refine ald_X7_played hC dX7_endOf_15 h ?_
  intro v2 h
  refine ald_X7_lasts hC dX7_endOf_16 h ?_
  intro v3 h
  refine j_iadd hC dX7_endOf_17 ?_
  exact j_iret hC dX7_endOf_18 rfl h
set_option maxRecDepth 20000 in
def X7_soundsOf_l25 (N : Nat) (k4 : Int32 → Int32 → Int32 → St → Option (Int32 × St)) (x1 : Int32) (x2 : Int32) (x3 : Int32) (s0 : St) : Option (Int32 × St) :=
  bnd (x3 + 1) fun v1 =>
  k4 x1 x2 v1 s0
set_option maxRecDepth 20000 in
theorem X7_soundsOf_l25_ok {K : Kx} {g : Gm} {N : Nat} {o : Int32 × St} (hC : Ok K cX7_soundsOf RX7 g 4 0 (some .int)) {k4 : Int32 → Int32 → Int32 → St → Option (Int32 × St)} (hk4 : ∀ (x1 : Int32) (x2 : Int32) (x3 : Int32) (s0 : St), k4 x1 x2 x3 s0 = some o → J K (wM g) 4 (QI K g (wM g) o) 4 [(0, .ref (g.1 0)), (1, .int x1), (2, .int x2), (3, .int x3)] [] s0) : ∀ (x1 : Int32) (x2 : Int32) (x3 : Int32) (s0 : St), X7_soundsOf_l25 N k4 x1 x2 x3 s0 = some o → J K (wM g) 4 (QI K g (wM g) o) 25 [(0, .ref (g.1 0)), (1, .int x1), (2, .int x2), (3, .int x3)] [] s0 := by
  intro x1 x2 x3 s0 h
  unfold X7_soundsOf_l25 at h
  refine j_iincb (n2 := 1) (k0 := 3) (lv2 := fun z => [(3, .int z), (0, .ref (g.1 0)), (1, .int x1), (2, .int x2)]) hC dX7_soundsOf_25 rfl (by decide) (by decide) (fun _ => rfl) h (fun v1 h => ?_)
  refine j_goto (tgt := 4) hC dX7_soundsOf_28 (by decide) ?_
  refine j_sub [1, 2, 3, 0] rfl ?_
  exact hk4 x1 x2 v1 s0 h
set_option maxRecDepth 20000 in
def X7_soundsOf_l4 (N : Nat) : Nat → Int32 → Int32 → Int32 → St → Option (Int32 × St)
  | 0 => fun _ _ _ _ => none
  | n + 1 => fun x1 x2 x3 s0 =>
  if gi s0 13 ≤ x3 then
  some (x2, s0)
  else
  ald s0 20 300 x3 fun v1 =>
    if v1 = x1 then
    bnd (x2 + 1) fun v2 =>
      X7_soundsOf_l25 N (X7_soundsOf_l4 N n) x1 v2 x3 s0
    else
    X7_soundsOf_l25 N (X7_soundsOf_l4 N n) x1 x2 x3 s0
set_option maxRecDepth 20000 in
theorem X7_soundsOf_l4_ok {K : Kx} {g : Gm} {N : Nat} {o : Int32 × St} (hC : Ok K cX7_soundsOf RX7 g 4 0 (some .int)) : ∀ (n : Nat) (x1 : Int32) (x2 : Int32) (x3 : Int32) (s0 : St), X7_soundsOf_l4 N n x1 x2 x3 s0 = some o → J K (wM g) 4 (QI K g (wM g) o) 4 [(0, .ref (g.1 0)), (1, .int x1), (2, .int x2), (3, .int x3)] [] s0 := by
  intro n
  induction n with
  | zero => intro x1 x2 x3 s0 h; cases h
  | succ n ih =>
    intro x1 x2 x3 s0 h
    rw [X7_soundsOf_l4] at h
    refine j_iload_n hC dX7_soundsOf_4 rfl 3 rfl ?_
    refine j_aload_n hC dX7_soundsOf_5 rfl 0 rfl ?_
    refine get_X7_218 hC dX7_soundsOf_6 ?_
    refine j_icmp_ge (tgt := 31) hC dX7_soundsOf_9 (by decide) h ?_ ?_
    · intro h
      refine j_iload_n hC dX7_soundsOf_31 rfl 2 rfl ?_
      exact j_iret hC dX7_soundsOf_32 rfl h
    · intro h
      refine j_aload_n hC dX7_soundsOf_12 rfl 0 rfl ?_
      refine get_X7_71 hC dX7_soundsOf_13 ?_
      refine j_iload_n hC dX7_soundsOf_16 rfl 3 rfl ?_
      refine ald_X7_played hC dX7_soundsOf_17 h ?_
      intro v1 h
      refine j_iload_n hC dX7_soundsOf_18 rfl 1 rfl ?_
      refine j_icmp_ne (tgt := 25) hC dX7_soundsOf_19 (by decide) h ?_ ?_
      · intro h
        refine j_sub [0, 1, 2, 3] rfl ?_
        exact X7_soundsOf_l25_ok hC ih x1 x2 x3 s0 h
      · intro h
        refine j_iincb (n2 := 1) (k0 := 2) (lv2 := fun z => [(2, .int z), (0, .ref (g.1 0)), (1, .int x1), (3, .int x3)]) hC dX7_soundsOf_22 rfl (by decide) (by decide) (fun _ => rfl) h (fun v2 h => ?_)
        refine j_sub [1, 2, 0, 3] rfl ?_
        exact X7_soundsOf_l25_ok hC ih x1 v2 x3 s0 h
set_option maxRecDepth 20000 in
def X7_soundsOf_f (N : Nat) (x1 : Int32) (s0 : St) : Option (Int32 × St) :=
  X7_soundsOf_l4 N N x1 0 0 s0
set_option maxRecDepth 20000 in
theorem X7_soundsOf_ok (l : Launch) (D : va_G) (g : Gm) {N : Nat} {x1 : Int32} {s0 : St} {o : Int32 × St} (h : X7_soundsOf_f N x1 s0 = some o) : MI l yX7_soundsOf cX7_soundsOf 4 (some .int) 0 D g (wM g) [.ref (g.1 0), .int x1] s0 o := by
  refine met_I (own := RX7) (by decide) rfl (Nat.le_of_ble_eq_true rfl) (fun K hC => ?_)
  show J K (wM g) 4 (QI K g (wM g) o) 0 [(0, .ref (g.1 0)), (1, .int x1)] [] s0
  unfold X7_soundsOf_f at h
  refine j_iconst (v := 0) hC dX7_soundsOf_0 (by decide) ?_
  refine j_istore_n hC dX7_soundsOf_1 rfl (by decide) rfl ?_
  refine j_iconst (v := 0) hC dX7_soundsOf_2 (by decide) ?_
  refine j_istore_n hC dX7_soundsOf_3 rfl (by decide) rfl ?_
  refine j_sub [2, 3, 1, 0] rfl ?_
  exact X7_soundsOf_l4_ok hC N x1 0 0 s0 h
set_option maxRecDepth 20000 in
def X7_rests_l48 (N : Nat) (x3 : Int32) (s0 : St) : Option (Int32 × St) :=
  some ((60 : Int32) * x3, s0)
set_option maxRecDepth 20000 in
theorem X7_rests_l48_ok {K : Kx} {g : Gm} {N : Nat} {o : Int32 × St} (hC : Ok K cX7_rests RX7 g 4 0 (some .int)) : ∀ (x3 : Int32) (s0 : St), X7_rests_l48 N x3 s0 = some o → J K (wM g) 4 (QI K g (wM g) o) 48 [(3, .int x3)] [] s0 := by
  intro x3 s0 h
  unfold X7_rests_l48 at h
  refine j_bipush (v := 60) hC dX7_rests_48 (by decide) ?_
  refine j_iload_n hC dX7_rests_50 rfl 0 rfl ?_
  refine j_imul hC dX7_rests_51 ?_
  exact j_iret hC dX7_rests_52 rfl h
set_option maxRecDepth 20000 in
def X7_rests_l15 (N : Nat) (x1 : Int32) (x2 : Int32) (t0 : Int32) (s0 : St) : Option (Int32 × St) :=
  ald s0 11 24 x1 fun v1 =>
  ald s0 11 24 x2 fun v2 =>
  if v1 = v2 then
  ald s0 1 5 1 fun v3 =>
    if v3 ≤ t0 then
    X7_rests_l48 N t0 s0
    else
    ald s0 1 5 1 fun v4 =>
      X7_rests_l48 N v4 s0
  else
  X7_rests_l48 N t0 s0
set_option maxRecDepth 20000 in
theorem X7_rests_l15_ok {K : Kx} {g : Gm} {N : Nat} {o : Int32 × St} (hC : Ok K cX7_rests RX7 g 4 0 (some .int)) : ∀ (x1 : Int32) (x2 : Int32) (t0 : Int32) (s0 : St), X7_rests_l15 N x1 x2 t0 s0 = some o → J K (wM g) 4 (QI K g (wM g) o) 15 [(0, .ref (g.1 0)), (1, .int x1), (2, .int x2)] [.int t0] s0 := by
  intro x1 x2 t0 s0 h
  unfold X7_rests_l15 at h
  refine j_istore_n hC dX7_rests_15 rfl (by decide) rfl ?_
  refine j_aload_n hC dX7_rests_16 rfl 1 rfl ?_
  refine get_X7_43 hC dX7_rests_17 ?_
  refine j_iload_n hC dX7_rests_20 rfl 2 rfl ?_
  refine ald_X7_artist hC dX7_rests_21 h ?_
  intro v1 h
  refine j_aload_n hC dX7_rests_22 rfl 1 rfl ?_
  refine get_X7_43 hC dX7_rests_23 ?_
  refine j_pc (n2 := 26) rfl ?_
  refine j_iload_n hC dX7_rests_26 rfl 3 rfl ?_
  refine ald_X7_artist hC dX7_rests_27 h ?_
  intro v2 h
  refine j_icmp_ne (tgt := 48) hC dX7_rests_28 (by decide) h ?_ ?_
  · intro h
    refine j_sub [0] rfl ?_
    exact X7_rests_l48_ok hC t0 s0 h
  · intro h
    refine j_aload_n hC dX7_rests_31 rfl 1 rfl ?_
    refine get_X7_13 hC dX7_rests_32 ?_
    refine j_iconst (v := 1) hC dX7_rests_35 (by decide) ?_
    refine ald_X7_rule hC dX7_rests_36 h ?_
    intro v3 h
    refine j_iload_n hC dX7_rests_37 rfl 0 rfl ?_
    refine j_icmp_le (tgt := 48) hC dX7_rests_38 (by decide) h ?_ ?_
    · intro h
      refine j_sub [0] rfl ?_
      exact X7_rests_l48_ok hC t0 s0 h
    · intro h
      refine j_aload_n hC dX7_rests_41 rfl 1 rfl ?_
      refine get_X7_13 hC dX7_rests_42 ?_
      refine j_iconst (v := 1) hC dX7_rests_45 (by decide) ?_
      refine ald_X7_rule hC dX7_rests_46 h ?_
      intro v4 h
      refine j_istore_n hC dX7_rests_47 rfl (by decide) rfl ?_
      refine j_sub [0] rfl ?_
      exact X7_rests_l48_ok hC v4 s0 h
set_option maxRecDepth 20000 in
def X7_rests_f (N : Nat) (x1 : Int32) (x2 : Int32) (s0 : St) : Option (Int32 × St) :=
  if x1 = x2 then
  ald s0 1 5 0 fun v1 =>
    X7_rests_l15 N x1 x2 v1 s0
  else
  X7_rests_l15 N x1 x2 0 s0
set_option maxRecDepth 20000 in
theorem X7_rests_ok (l : Launch) (D : va_G) (g : Gm) {N : Nat} {x1 : Int32} {x2 : Int32} {s0 : St} {o : Int32 × St} (h : X7_rests_f N x1 x2 s0 = some o) : MI l yX7_rests cX7_rests 4 (some .int) 0 D g (wM g) [.ref (g.1 0), .int x1, .int x2] s0 o := by
  refine met_I (own := RX7) (by decide) rfl (Nat.le_of_ble_eq_true rfl) (fun K hC => ?_)
  show J K (wM g) 4 (QI K g (wM g) o) 0 [(0, .ref (g.1 0)), (1, .int x1), (2, .int x2)] [] s0
  unfold X7_rests_f at h
  refine j_iload_n hC dX7_rests_0 rfl 1 rfl ?_
  refine j_iload_n hC dX7_rests_1 rfl 2 rfl ?_
  refine j_icmp_ne (tgt := 14) hC dX7_rests_2 (by decide) h ?_ ?_
  · intro h
    refine j_iconst (v := 0) hC dX7_rests_14 (by decide) ?_
    refine j_sub [0, 1, 2] rfl ?_
    exact X7_rests_l15_ok hC x1 x2 0 s0 h
  · intro h
    refine j_aload_n hC dX7_rests_5 rfl 0 rfl ?_
    refine get_X7_13 hC dX7_rests_6 ?_
    refine j_iconst (v := 0) hC dX7_rests_9 (by decide) ?_
    refine ald_X7_rule hC dX7_rests_10 h ?_
    intro v1 h
    refine j_goto (tgt := 15) hC dX7_rests_11 (by decide) ?_
    refine j_sub [0, 1, 2] rfl ?_
    exact X7_rests_l15_ok hC x1 x2 v1 s0 h
set_option maxRecDepth 20000 in
def X7_ask0_l78 (N : Nat) (k2 : Int32 → St → Option (Int32 × St)) (k19 : Int32 → Int32 → St → Option (Int32 × St)) (x1 : Int32) (x2 : Int32) (s0 : St) : Option (Int32 × St) :=
  bnd (x2 + 1) fun v1 =>
  k19 x1 v1 s0
set_option maxRecDepth 20000 in
theorem X7_ask0_l78_ok {K : Kx} {g : Gm} {N : Nat} {o : Int32 × St} (hC : Ok K cX7_ask0 RX7 g 3 1 none) {k2 : Int32 → St → Option (Int32 × St)} (hk2 : ∀ (x1 : Int32) (s0 : St), k2 x1 s0 = some o → J K (wM g) 3 (QV K g (wM g) o) 2 [(0, .ref (g.1 0)), (1, .int x1)] [] s0) {k19 : Int32 → Int32 → St → Option (Int32 × St)} (hk19 : ∀ (x1 : Int32) (x2 : Int32) (s0 : St), k19 x1 x2 s0 = some o → J K (wM g) 3 (QV K g (wM g) o) 19 [(0, .ref (g.1 0)), (1, .int x1), (2, .int x2)] [] s0) : ∀ (x1 : Int32) (x2 : Int32) (s0 : St), X7_ask0_l78 N k2 k19 x1 x2 s0 = some o → J K (wM g) 3 (QV K g (wM g) o) 78 [(0, .ref (g.1 0)), (1, .int x1), (2, .int x2)] [] s0 := by
  intro x1 x2 s0 h
  unfold X7_ask0_l78 at h
  refine j_iincb (n2 := 1) (k0 := 2) (lv2 := fun z => [(2, .int z), (0, .ref (g.1 0)), (1, .int x1)]) hC dX7_ask0_78 rfl (by decide) (by decide) (fun _ => rfl) h (fun v1 h => ?_)
  refine j_goto (tgt := 19) hC dX7_ask0_81 (by decide) ?_
  refine j_sub [1, 2, 0] rfl ?_
  exact hk19 x1 v1 s0 h
set_option maxRecDepth 20000 in
def X7_ask0_l19 (N : Nat) (k2 : Int32 → St → Option (Int32 × St)) : Nat → Int32 → Int32 → St → Option (Int32 × St)
  | 0 => fun _ _ _ => none
  | n + 1 => fun x1 x2 s0 =>
  if gi s0 13 ≤ x2 then
  bnd (x1 + 1) fun v1 =>
    k2 v1 s0
  else
  ald s0 21 300 x2 fun v2 =>
    ald s0 20 300 x2 fun v3 =>
    cal (X7_rests_f N v3 x1 s0) fun v4 s1 =>
    ald s1 24 24 x1 fun v5 =>
    if v2 + v4 ≤ v5 then
    X7_ask0_l78 N k2 (X7_ask0_l19 N k2 n) x1 x2 s1
    else
    ald s1 21 300 x2 fun v6 =>
      ald s1 20 300 x2 fun v7 =>
      cal (X7_rests_f N v7 x1 s1) fun v8 s2 =>
      ast s2 24 24 x1 (v6 + v8) fun s3 =>
      X7_ask0_l78 N k2 (X7_ask0_l19 N k2 n) x1 x2 s3
set_option maxRecDepth 20000 in
theorem X7_ask0_l19_ok {K : Kx} {g : Gm} {N : Nat} {o : Int32 × St} (hC : Ok K cX7_ask0 RX7 g 3 1 none) {k2 : Int32 → St → Option (Int32 × St)} (hk2 : ∀ (x1 : Int32) (s0 : St), k2 x1 s0 = some o → J K (wM g) 3 (QV K g (wM g) o) 2 [(0, .ref (g.1 0)), (1, .int x1)] [] s0) : ∀ (n : Nat) (x1 : Int32) (x2 : Int32) (s0 : St), X7_ask0_l19 N k2 n x1 x2 s0 = some o → J K (wM g) 3 (QV K g (wM g) o) 19 [(0, .ref (g.1 0)), (1, .int x1), (2, .int x2)] [] s0 := by
  intro n
  induction n with
  | zero => intro x1 x2 s0 h; cases h
  | succ n ih =>
    intro x1 x2 s0 h
    rw [X7_ask0_l19] at h
    refine j_iload_n hC dX7_ask0_19 rfl 2 rfl ?_
    refine j_aload_n hC dX7_ask0_20 rfl 0 rfl ?_
    refine get_X7_218 hC dX7_ask0_21 ?_
    refine j_icmp_ge (tgt := 84) hC dX7_ask0_24 (by decide) h ?_ ?_
    · intro h
      refine j_iincb (n2 := 1) (k0 := 1) (lv2 := fun z => [(1, .int z), (0, .ref (g.1 0)), (2, .int x2)]) hC dX7_ask0_84 rfl (by decide) (by decide) (fun _ => rfl) h (fun v1 h => ?_)
      refine j_goto (tgt := 2) hC dX7_ask0_87 (by decide) ?_
      refine j_sub [1, 0] rfl ?_
      exact hk2 v1 s0 h
    · intro h
      refine j_aload_n hC dX7_ask0_27 rfl 0 rfl ?_
      refine get_X7_74 hC dX7_ask0_28 ?_
      refine j_iload_n hC dX7_ask0_31 rfl 2 rfl ?_
      refine ald_X7_began hC dX7_ask0_32 h ?_
      intro v2 h
      refine j_aload_n hC dX7_ask0_33 rfl 0 rfl ?_
      refine j_aload_n hC dX7_ask0_34 rfl 0 rfl ?_
      refine get_X7_71 hC dX7_ask0_35 ?_
      refine j_pc (n2 := 38) rfl ?_
      refine j_iload_n hC dX7_ask0_38 rfl 2 rfl ?_
      refine ald_X7_played hC dX7_ask0_39 h ?_
      intro v3 h
      refine j_iload_n hC dX7_ask0_40 rfl 1 rfl ?_
      obtain ⟨v4, s1, hc, h⟩ := cal_some h
      refine call_X7_221 hC (fun l D => X7_rests_ok l D g hc) (by decide) (Nat.le_of_ble_eq_true rfl) dX7_ask0_41 ?_
      refine j_iadd hC dX7_ask0_44 ?_
      refine j_aload_n hC dX7_ask0_45 rfl 0 rfl ?_
      refine get_X7_83 hC dX7_ask0_46 ?_
      refine j_iload_n hC dX7_ask0_49 rfl 1 rfl ?_
      refine j_pc (n2 := 50) rfl ?_
      refine ald_X7_soonest hC dX7_ask0_50 h ?_
      intro v5 h
      refine j_icmp_le (tgt := 78) hC dX7_ask0_51 (by decide) h ?_ ?_
      · intro h
        refine j_sub [0, 1, 2] rfl ?_
        exact X7_ask0_l78_ok hC hk2 ih x1 x2 s1 h
      · intro h
        refine j_aload_n hC dX7_ask0_54 rfl 0 rfl ?_
        refine get_X7_83 hC dX7_ask0_55 ?_
        refine j_iload_n hC dX7_ask0_58 rfl 1 rfl ?_
        refine j_aload_n hC dX7_ask0_59 rfl 0 rfl ?_
        refine get_X7_74 hC dX7_ask0_60 ?_
        refine j_iload_n hC dX7_ask0_63 rfl 2 rfl ?_
        refine ald_X7_began hC dX7_ask0_64 h ?_
        intro v6 h
        refine j_pc (n2 := 65) rfl ?_
        refine j_aload_n hC dX7_ask0_65 rfl 0 rfl ?_
        refine j_aload_n hC dX7_ask0_66 rfl 0 rfl ?_
        refine get_X7_71 hC dX7_ask0_67 ?_
        refine j_iload_n hC dX7_ask0_70 rfl 2 rfl ?_
        refine ald_X7_played hC dX7_ask0_71 h ?_
        intro v7 h
        refine j_iload_n hC dX7_ask0_72 rfl 1 rfl ?_
        obtain ⟨v8, s2, hc, h⟩ := cal_some h
        refine call_X7_221 hC (fun l D => X7_rests_ok l D g hc) (by decide) (Nat.le_of_ble_eq_true rfl) dX7_ask0_73 ?_
        refine j_iadd hC dX7_ask0_76 ?_
        refine j_pc (n2 := 77) rfl ?_
        refine ast_X7_soonest hC dX7_ask0_77 h ?_
        intro s3 h
        refine j_sub [0, 1, 2] rfl ?_
        exact X7_ask0_l78_ok hC hk2 ih x1 x2 s3 h
set_option maxRecDepth 20000 in
def X7_ask0_l2 (N : Nat) : Nat → Int32 → St → Option (Int32 × St)
  | 0 => fun _ _ => none
  | n + 1 => fun x1 s0 =>
  if gi s0 12 ≤ x1 then
  some (0, s0)
  else
  ast s0 24 24 x1 0 fun s1 =>
    X7_ask0_l19 N (X7_ask0_l2 N n) N x1 0 s1
set_option maxRecDepth 20000 in
theorem X7_ask0_l2_ok {K : Kx} {g : Gm} {N : Nat} {o : Int32 × St} (hC : Ok K cX7_ask0 RX7 g 3 1 none) : ∀ (n : Nat) (x1 : Int32) (s0 : St), X7_ask0_l2 N n x1 s0 = some o → J K (wM g) 3 (QV K g (wM g) o) 2 [(0, .ref (g.1 0)), (1, .int x1)] [] s0 := by
  intro n
  induction n with
  | zero => intro x1 s0 h; cases h
  | succ n ih =>
    intro x1 s0 h
    rw [X7_ask0_l2] at h
    refine j_iload_n hC dX7_ask0_2 rfl 1 rfl ?_
    refine j_aload_n hC dX7_ask0_3 rfl 0 rfl ?_
    refine get_X7_205 hC dX7_ask0_4 ?_
    refine j_icmp_ge (tgt := 90) hC dX7_ask0_7 (by decide) h ?_ ?_
    · intro h
      exact j_vret (v := 0) hC dX7_ask0_90 h
    · intro h
      refine j_aload_n hC dX7_ask0_10 rfl 0 rfl ?_
      refine get_X7_83 hC dX7_ask0_11 ?_
      refine j_iload_n hC dX7_ask0_14 rfl 1 rfl ?_
      refine j_iconst (v := 0) hC dX7_ask0_15 (by decide) ?_
      refine ast_X7_soonest hC dX7_ask0_16 h ?_
      intro s1 h
      refine j_iconst (v := 0) hC dX7_ask0_17 (by decide) ?_
      refine j_istore_n hC dX7_ask0_18 rfl (by decide) rfl ?_
      refine j_sub [1, 2, 0] rfl ?_
      exact X7_ask0_l19_ok hC ih N x1 0 s1 h
set_option maxRecDepth 20000 in
def X7_ask0_f (N : Nat) (s0 : St) : Option (Int32 × St) :=
  X7_ask0_l2 N N 0 s0
set_option maxRecDepth 20000 in
theorem X7_ask0_ok (l : Launch) (D : va_G) (g : Gm) {N : Nat} {s0 : St} {o : Int32 × St} (h : X7_ask0_f N s0 = some o) : MV l yX7_ask0 cX7_ask0 3 none 1 D g (wM g) [.ref (g.1 0)] s0 o := by
  refine met_V (own := RX7) (by decide) rfl (Nat.le_of_ble_eq_true rfl) (fun K hC => ?_)
  show J K (wM g) 3 (QV K g (wM g) o) 0 [(0, .ref (g.1 0))] [] s0
  unfold X7_ask0_f at h
  refine j_iconst (v := 0) hC dX7_ask0_0 (by decide) ?_
  refine j_istore_n hC dX7_ask0_1 rfl (by decide) rfl ?_
  refine j_sub [1, 0] rfl ?_
  exact X7_ask0_l2_ok hC N 0 s0 h
set_option maxRecDepth 20000 in
def X7_goWith_l59 (N : Nat) (t0 : Int32) (s0 : St) : Option (Int32 × St) :=
  ald s0 1 5 2 fun v1 =>
  if v1 < t0 then
  some (0, s0)
  else
  some (1, s0)
set_option maxRecDepth 20000 in
theorem X7_goWith_l59_ok {K : Kx} {g : Gm} {N : Nat} {o : Int32 × St} (hC : Ok K cX7_goWith RX7 g 4 0 (some .boolean)) : ∀ (t0 : Int32) (s0 : St), X7_goWith_l59 N t0 s0 = some o → J K (wM g) 4 (QI K g (wM g) o) 59 [(0, .ref (g.1 0))] [.int t0] s0 := by
  intro t0 s0 h
  unfold X7_goWith_l59 at h
  refine j_aload_n hC dX7_goWith_59 rfl 0 rfl ?_
  refine get_X7_13 hC dX7_goWith_60 ?_
  refine j_iconst (v := 2) hC dX7_goWith_63 (by decide) ?_
  refine ald_X7_rule hC dX7_goWith_64 h ?_
  intro v1 h
  refine j_icmp_gt (tgt := 72) hC dX7_goWith_65 (by decide) h ?_ ?_
  · intro h
    refine j_iconst (v := 0) hC dX7_goWith_72 (by decide) ?_
    exact j_iret hC dX7_goWith_73 rfl h
  · intro h
    refine j_iconst (v := 1) hC dX7_goWith_68 (by decide) ?_
    refine j_goto (tgt := 73) hC dX7_goWith_69 (by decide) ?_
    exact j_iret hC dX7_goWith_73 rfl h
set_option maxRecDepth 20000 in
def X7_goWith_l44 (N : Nat) (t0 : Int32) (s0 : St) : Option (Int32 × St) :=
  if t0 ≤ 6 then
  X7_goWith_l59 N t0 s0
  else
  X7_goWith_l59 N ((12 : Int32) - t0) s0
set_option maxRecDepth 20000 in
theorem X7_goWith_l44_ok {K : Kx} {g : Gm} {N : Nat} {o : Int32 × St} (hC : Ok K cX7_goWith RX7 g 4 0 (some .boolean)) : ∀ (t0 : Int32) (s0 : St), X7_goWith_l44 N t0 s0 = some o → J K (wM g) 4 (QI K g (wM g) o) 44 [(0, .ref (g.1 0))] [.int t0] s0 := by
  intro t0 s0 h
  unfold X7_goWith_l44 at h
  refine j_istore_n hC dX7_goWith_44 rfl (by decide) rfl ?_
  refine j_iload_n hC dX7_goWith_45 rfl 0 rfl ?_
  refine j_bipush (v := 6) hC dX7_goWith_46 (by decide) ?_
  refine j_icmp_le (tgt := 58) hC dX7_goWith_48 (by decide) h ?_ ?_
  · intro h
    refine j_iload_n hC dX7_goWith_58 rfl 0 rfl ?_
    refine j_sub [1] rfl ?_
    exact X7_goWith_l59_ok hC t0 s0 h
  · intro h
    refine j_bipush (v := 12) hC dX7_goWith_51 (by decide) ?_
    refine j_iload_n hC dX7_goWith_53 rfl 0 rfl ?_
    refine j_isub hC dX7_goWith_54 ?_
    refine j_goto (tgt := 59) hC dX7_goWith_55 (by decide) ?_
    refine j_sub [1] rfl ?_
    exact X7_goWith_l59_ok hC ((12 : Int32) - t0) s0 h
set_option maxRecDepth 20000 in
def X7_goWith_f (N : Nat) (x1 : Int32) (x2 : Int32) (s0 : St) : Option (Int32 × St) :=
  ald s0 12 24 x1 fun v1 =>
  ald s0 12 24 x2 fun v2 =>
  if v1 ≤ v2 then
  ald s0 12 24 x2 fun v3 =>
    ald s0 12 24 x1 fun v4 =>
    X7_goWith_l44 N (v3 - v4) s0
  else
  ald s0 12 24 x1 fun v5 =>
    ald s0 12 24 x2 fun v6 =>
    X7_goWith_l44 N (v5 - v6) s0
set_option maxRecDepth 20000 in
theorem X7_goWith_ok (l : Launch) (D : va_G) (g : Gm) {N : Nat} {x1 : Int32} {x2 : Int32} {s0 : St} {o : Int32 × St} (h : X7_goWith_f N x1 x2 s0 = some o) : MI l yX7_goWith cX7_goWith 4 (some .boolean) 0 D g (wM g) [.ref (g.1 0), .int x1, .int x2] s0 o := by
  refine met_I (own := RX7) (by decide) rfl (Nat.le_of_ble_eq_true rfl) (fun K hC => ?_)
  show J K (wM g) 4 (QI K g (wM g) o) 0 [(0, .ref (g.1 0)), (1, .int x1), (2, .int x2)] [] s0
  unfold X7_goWith_f at h
  refine j_aload_n hC dX7_goWith_0 rfl 0 rfl ?_
  refine get_X7_46 hC dX7_goWith_1 ?_
  refine j_iload_n hC dX7_goWith_4 rfl 1 rfl ?_
  refine ald_X7_key hC dX7_goWith_5 h ?_
  intro v1 h
  refine j_aload_n hC dX7_goWith_6 rfl 0 rfl ?_
  refine get_X7_46 hC dX7_goWith_7 ?_
  refine j_iload_n hC dX7_goWith_10 rfl 2 rfl ?_
  refine j_pc (n2 := 11) rfl ?_
  refine ald_X7_key hC dX7_goWith_11 h ?_
  intro v2 h
  refine j_icmp_le (tgt := 31) hC dX7_goWith_12 (by decide) h ?_ ?_
  · intro h
    refine j_aload_n hC dX7_goWith_31 rfl 0 rfl ?_
    refine get_X7_46 hC dX7_goWith_32 ?_
    refine j_iload_n hC dX7_goWith_35 rfl 2 rfl ?_
    refine ald_X7_key hC dX7_goWith_36 h ?_
    intro v3 h
    refine j_aload_n hC dX7_goWith_37 rfl 0 rfl ?_
    refine get_X7_46 hC dX7_goWith_38 ?_
    refine j_iload_n hC dX7_goWith_41 rfl 1 rfl ?_
    refine j_pc (n2 := 42) rfl ?_
    refine ald_X7_key hC dX7_goWith_42 h ?_
    intro v4 h
    refine j_isub hC dX7_goWith_43 ?_
    refine j_sub [0] rfl ?_
    exact X7_goWith_l44_ok hC (v3 - v4) s0 h
  · intro h
    refine j_aload_n hC dX7_goWith_15 rfl 0 rfl ?_
    refine get_X7_46 hC dX7_goWith_16 ?_
    refine j_iload_n hC dX7_goWith_19 rfl 1 rfl ?_
    refine ald_X7_key hC dX7_goWith_20 h ?_
    intro v5 h
    refine j_aload_n hC dX7_goWith_21 rfl 0 rfl ?_
    refine get_X7_46 hC dX7_goWith_22 ?_
    refine j_iload_n hC dX7_goWith_25 rfl 2 rfl ?_
    refine j_pc (n2 := 26) rfl ?_
    refine ald_X7_key hC dX7_goWith_26 h ?_
    intro v6 h
    refine j_isub hC dX7_goWith_27 ?_
    refine j_goto (tgt := 44) hC dX7_goWith_28 (by decide) ?_
    refine j_sub [0] rfl ?_
    exact X7_goWith_l44_ok hC (v5 - v6) s0 h
set_option maxRecDepth 20000 in
def X7_comesAhead_l77 (N : Nat) (x2 : Int32) (s0 : St) : Option (Int32 × St) :=
  if gi s0 19 ≤ x2 + 1 then
  some (0, s0)
  else
  some (1, s0)
set_option maxRecDepth 20000 in
theorem X7_comesAhead_l77_ok {K : Kx} {g : Gm} {N : Nat} {o : Int32 × St} (hC : Ok K cX7_comesAhead RX7 g 6 0 (some .boolean)) : ∀ (x2 : Int32) (s0 : St), X7_comesAhead_l77 N x2 s0 = some o → J K (wM g) 6 (QI K g (wM g) o) 77 [(0, .ref (g.1 0)), (2, .int x2)] [] s0 := by
  intro x2 s0 h
  unfold X7_comesAhead_l77 at h
  refine j_iload_n hC dX7_comesAhead_77 rfl 1 rfl ?_
  refine j_iconst (v := 1) hC dX7_comesAhead_78 (by decide) ?_
  refine j_iadd hC dX7_comesAhead_79 ?_
  refine j_aload_n hC dX7_comesAhead_80 rfl 0 rfl ?_
  refine get_X7_225 hC dX7_comesAhead_81 ?_
  refine j_icmp_ge (tgt := 91) hC dX7_comesAhead_84 (by decide) h ?_ ?_
  · intro h
    refine j_iconst (v := 0) hC dX7_comesAhead_91 (by decide) ?_
    exact j_iret hC dX7_comesAhead_92 rfl h
  · intro h
    refine j_iconst (v := 1) hC dX7_comesAhead_87 (by decide) ?_
    refine j_goto (tgt := 92) hC dX7_comesAhead_88 (by decide) ?_
    exact j_iret hC dX7_comesAhead_92 rfl h
set_option maxRecDepth 20000 in
def X7_comesAhead_l39 (N : Nat) (k3 : Int32 → Int32 → Int32 → Int32 → St → Option (Int32 × St)) (x1 : Int32) (x2 : Int32) (x3 : Int32) (x4 : Int32) (t0 : Int32) (s0 : St) : Option (Int32 × St) :=
  ald s0 29 4 x4 fun v1 =>
  if t0 = v1 then
  bnd (x4 + 1) fun v2 =>
    k3 x1 x2 x3 v2 s0
  else
  ald s0 29 4 x4 fun v3 =>
    if v3 ≤ t0 then
    some (0, s0)
    else
    some (1, s0)
set_option maxRecDepth 20000 in
theorem X7_comesAhead_l39_ok {K : Kx} {g : Gm} {N : Nat} {o : Int32 × St} (hC : Ok K cX7_comesAhead RX7 g 6 0 (some .boolean)) {k3 : Int32 → Int32 → Int32 → Int32 → St → Option (Int32 × St)} (hk3 : ∀ (x1 : Int32) (x2 : Int32) (x3 : Int32) (x4 : Int32) (s0 : St), k3 x1 x2 x3 x4 s0 = some o → J K (wM g) 6 (QI K g (wM g) o) 3 [(0, .ref (g.1 0)), (1, .int x1), (2, .int x2), (3, .int x3), (4, .int x4)] [] s0) : ∀ (x1 : Int32) (x2 : Int32) (x3 : Int32) (x4 : Int32) (t0 : Int32) (s0 : St), X7_comesAhead_l39 N k3 x1 x2 x3 x4 t0 s0 = some o → J K (wM g) 6 (QI K g (wM g) o) 39 [(0, .ref (g.1 0)), (1, .int x1), (2, .int x2), (3, .int x3), (4, .int x4)] [.int t0] s0 := by
  intro x1 x2 x3 x4 t0 s0 h
  unfold X7_comesAhead_l39 at h
  refine j_istore hC dX7_comesAhead_39 (by decide) rfl ?_
  refine j_iload hC dX7_comesAhead_41 0 rfl ?_
  refine j_aload_n hC dX7_comesAhead_43 rfl 1 rfl ?_
  refine get_X7_99 hC dX7_comesAhead_44 ?_
  refine j_iload hC dX7_comesAhead_47 5 rfl ?_
  refine ald_X7_best hC dX7_comesAhead_49 h ?_
  intro v1 h
  refine j_icmp_eq (tgt := 71) hC dX7_comesAhead_50 (by decide) h ?_ ?_
  · intro h
    refine j_iincb (n2 := 1) (k0 := 5) (lv2 := fun z => [(4, .int z), (5, .int t0), (0, .ref (g.1 0)), (1, .int x1), (2, .int x2), (3, .int x3)]) hC dX7_comesAhead_71 rfl (by decide) (by decide) (fun _ => rfl) h (fun v2 h => ?_)
    refine j_goto (tgt := 3) hC dX7_comesAhead_74 (by decide) ?_
    refine j_sub [2, 3, 4, 5, 0] rfl ?_
    exact hk3 x1 x2 x3 v2 s0 h
  · intro h
    refine j_iload hC dX7_comesAhead_53 0 rfl ?_
    refine j_aload_n hC dX7_comesAhead_55 rfl 1 rfl ?_
    refine get_X7_99 hC dX7_comesAhead_56 ?_
    refine j_iload hC dX7_comesAhead_59 5 rfl ?_
    refine ald_X7_best hC dX7_comesAhead_61 h ?_
    intro v3 h
    refine j_icmp_ge (tgt := 69) hC dX7_comesAhead_62 (by decide) h ?_ ?_
    · intro h
      refine j_iconst (v := 0) hC dX7_comesAhead_69 (by decide) ?_
      exact j_iret hC dX7_comesAhead_70 rfl h
    · intro h
      refine j_iconst (v := 1) hC dX7_comesAhead_65 (by decide) ?_
      refine j_goto (tgt := 70) hC dX7_comesAhead_66 (by decide) ?_
      exact j_iret hC dX7_comesAhead_70 rfl h
set_option maxRecDepth 20000 in
def X7_comesAhead_l3 (N : Nat) : Nat → Int32 → Int32 → Int32 → Int32 → St → Option (Int32 × St)
  | 0 => fun _ _ _ _ _ => none
  | n + 1 => fun x1 x2 x3 x4 s0 =>
  if x2 < x4 then
  X7_comesAhead_l77 N x2 s0
  else
  if gi s0 19 ≤ x4 then
    X7_comesAhead_l77 N x2 s0
    else
    if x2 ≤ x4 then
      X7_comesAhead_l39 N (X7_comesAhead_l3 N n) x1 x2 x3 x4 x3 s0
      else
      ald s0 25 55296 (((4 : Int32) * x1) + x4) fun v1 =>
        X7_comesAhead_l39 N (X7_comesAhead_l3 N n) x1 x2 x3 x4 v1 s0
set_option maxRecDepth 20000 in
theorem X7_comesAhead_l3_ok {K : Kx} {g : Gm} {N : Nat} {o : Int32 × St} (hC : Ok K cX7_comesAhead RX7 g 6 0 (some .boolean)) : ∀ (n : Nat) (x1 : Int32) (x2 : Int32) (x3 : Int32) (x4 : Int32) (s0 : St), X7_comesAhead_l3 N n x1 x2 x3 x4 s0 = some o → J K (wM g) 6 (QI K g (wM g) o) 3 [(0, .ref (g.1 0)), (1, .int x1), (2, .int x2), (3, .int x3), (4, .int x4)] [] s0 := by
  intro n
  induction n with
  | zero => intro x1 x2 x3 x4 s0 h; cases h
  | succ n ih =>
    intro x1 x2 x3 x4 s0 h
    rw [X7_comesAhead_l3] at h
    refine j_iload hC dX7_comesAhead_3 4 rfl ?_
    refine j_iload_n hC dX7_comesAhead_5 rfl 2 rfl ?_
    refine j_icmp_gt (tgt := 77) hC dX7_comesAhead_6 (by decide) h ?_ ?_
    · intro h
      refine j_sub [0, 2] rfl ?_
      exact X7_comesAhead_l77_ok hC x2 s0 h
    · intro h
      refine j_iload hC dX7_comesAhead_9 4 rfl ?_
      refine j_aload_n hC dX7_comesAhead_11 rfl 0 rfl ?_
      refine get_X7_225 hC dX7_comesAhead_12 ?_
      refine j_icmp_ge (tgt := 77) hC dX7_comesAhead_15 (by decide) h ?_ ?_
      · intro h
        refine j_sub [0, 2] rfl ?_
        exact X7_comesAhead_l77_ok hC x2 s0 h
      · intro h
        refine j_iload hC dX7_comesAhead_18 4 rfl ?_
        refine j_iload_n hC dX7_comesAhead_20 rfl 2 rfl ?_
        refine j_icmp_ge (tgt := 38) hC dX7_comesAhead_21 (by decide) h ?_ ?_
        · intro h
          refine j_iload_n hC dX7_comesAhead_38 rfl 3 rfl ?_
          refine j_sub [0, 1, 2, 3, 4] rfl ?_
          exact X7_comesAhead_l39_ok hC ih x1 x2 x3 x4 x3 s0 h
        · intro h
          refine j_aload_n hC dX7_comesAhead_24 rfl 0 rfl ?_
          refine get_X7_87 hC dX7_comesAhead_25 ?_
          refine j_iconst (v := 4) hC dX7_comesAhead_28 (by decide) ?_
          refine j_iload_n hC dX7_comesAhead_29 rfl 1 rfl ?_
          refine j_imul hC dX7_comesAhead_30 ?_
          refine j_iload hC dX7_comesAhead_31 4 rfl ?_
          refine j_iadd hC dX7_comesAhead_33 ?_
          refine j_pc (n2 := 34) rfl ?_
          refine ald_X7_rows hC dX7_comesAhead_34 h ?_
          intro v1 h
          refine j_goto (tgt := 39) hC dX7_comesAhead_35 (by decide) ?_
          refine j_sub [0, 1, 2, 3, 4] rfl ?_
          exact X7_comesAhead_l39_ok hC ih x1 x2 x3 x4 v1 s0 h
set_option maxRecDepth 20000 in
def X7_comesAhead_f (N : Nat) (x1 : Int32) (x2 : Int32) (x3 : Int32) (s0 : St) : Option (Int32 × St) :=
  X7_comesAhead_l3 N N x1 x2 x3 0 s0
set_option maxRecDepth 20000 in
theorem X7_comesAhead_ok (l : Launch) (D : va_G) (g : Gm) {N : Nat} {x1 : Int32} {x2 : Int32} {x3 : Int32} {s0 : St} {o : Int32 × St} (h : X7_comesAhead_f N x1 x2 x3 s0 = some o) : MI l yX7_comesAhead cX7_comesAhead 6 (some .boolean) 0 D g (wM g) [.ref (g.1 0), .int x1, .int x2, .int x3] s0 o := by
  refine met_I (own := RX7) (by decide) rfl (Nat.le_of_ble_eq_true rfl) (fun K hC => ?_)
  show J K (wM g) 6 (QI K g (wM g) o) 0 [(0, .ref (g.1 0)), (1, .int x1), (2, .int x2), (3, .int x3)] [] s0
  unfold X7_comesAhead_f at h
  refine j_iconst (v := 0) hC dX7_comesAhead_0 (by decide) ?_
  refine j_istore hC dX7_comesAhead_1 (by decide) rfl ?_
  refine j_sub [1, 2, 3, 4, 0] rfl ?_
  exact X7_comesAhead_l3_ok hC N x1 x2 x3 0 s0 h
set_option maxRecDepth 20000 in
def X7_judge_l165 (N : Nat) : Nat → Int32 → Int32 → Int32 → Int32 → Int32 → Int32 → St → Option (Int32 × St)
  | 0 => fun _ _ _ _ _ _ _ => none
  | n + 1 => fun x1 x2 x3 x7 x8 x10 s0 =>
  if x2 ≤ x10 then
  ast s0 29 4 x2 x3 fun s1 =>
    bnd (si s1 19 (x2 + 1)) fun s2 =>
    bnd (si s2 20 x7) fun s3 =>
    bnd (si s3 21 x8) fun s4 =>
    some (0, s4)
  else
  ald s0 25 55296 (((4 : Int32) * x1) + x10) fun v1 =>
    ast s0 29 4 x10 v1 fun s5 =>
    bnd (x10 + 1) fun v2 =>
    (X7_judge_l165 N n) x1 x2 x3 x7 x8 v2 s5
set_option maxRecDepth 20000 in
theorem X7_judge_l165_ok {K : Kx} {g : Gm} {N : Nat} {o : Int32 × St} (hC : Ok K cX7_judge RX7 g 11 1 none) : ∀ (n : Nat) (x1 : Int32) (x2 : Int32) (x3 : Int32) (x7 : Int32) (x8 : Int32) (x10 : Int32) (s0 : St), X7_judge_l165 N n x1 x2 x3 x7 x8 x10 s0 = some o → J K (wM g) 11 (QV K g (wM g) o) 165 [(0, .ref (g.1 0)), (1, .int x1), (2, .int x2), (3, .int x3), (7, .int x7), (8, .int x8), (10, .int x10)] [] s0 := by
  intro n
  induction n with
  | zero => intro x1 x2 x3 x7 x8 x10 s0 h; cases h
  | succ n ih =>
    intro x1 x2 x3 x7 x8 x10 s0 h
    rw [X7_judge_l165] at h
    refine j_iload hC dX7_judge_165 6 rfl ?_
    refine j_iload_n hC dX7_judge_167 rfl 2 rfl ?_
    refine j_icmp_ge (tgt := 195) hC dX7_judge_168 (by decide) h ?_ ?_
    · intro h
      refine j_aload_n hC dX7_judge_195 rfl 0 rfl ?_
      refine get_X7_99 hC dX7_judge_196 ?_
      refine j_iload_n hC dX7_judge_199 rfl 2 rfl ?_
      refine j_iload_n hC dX7_judge_200 rfl 3 rfl ?_
      refine ast_X7_best hC dX7_judge_201 h ?_
      intro s1 h
      refine j_aload_n hC dX7_judge_202 rfl 0 rfl ?_
      refine j_iload_n hC dX7_judge_203 rfl 2 rfl ?_
      refine j_pc (n2 := 204) rfl ?_
      refine j_iconst (v := 1) hC dX7_judge_204 (by decide) ?_
      refine j_iadd hC dX7_judge_205 ?_
      refine put_X7_225 hC dX7_judge_206 h ?_
      intro s2 h
      refine j_aload_n hC dX7_judge_209 rfl 0 rfl ?_
      refine j_iload hC dX7_judge_210 4 rfl ?_
      refine put_X7_228 hC dX7_judge_212 h ?_
      intro s3 h
      refine j_aload_n hC dX7_judge_215 rfl 0 rfl ?_
      refine j_iload hC dX7_judge_216 5 rfl ?_
      refine j_pc (n2 := 218) rfl ?_
      refine put_X7_231 hC dX7_judge_218 h ?_
      intro s4 h
      exact j_vret (v := 0) hC dX7_judge_221 h
    · intro h
      refine j_aload_n hC dX7_judge_171 rfl 0 rfl ?_
      refine get_X7_99 hC dX7_judge_172 ?_
      refine j_iload hC dX7_judge_175 6 rfl ?_
      refine j_aload_n hC dX7_judge_177 rfl 0 rfl ?_
      refine get_X7_87 hC dX7_judge_178 ?_
      refine j_iconst (v := 4) hC dX7_judge_181 (by decide) ?_
      refine j_iload_n hC dX7_judge_182 rfl 1 rfl ?_
      refine j_pc (n2 := 183) rfl ?_
      refine j_imul hC dX7_judge_183 ?_
      refine j_iload hC dX7_judge_184 6 rfl ?_
      refine j_iadd hC dX7_judge_186 ?_
      refine ald_X7_rows hC dX7_judge_187 h ?_
      intro v1 h
      refine ast_X7_best hC dX7_judge_188 h ?_
      intro s5 h
      refine j_iincb (n2 := 1) (k0 := 6) (lv2 := fun z => [(10, .int z), (0, .ref (g.1 0)), (1, .int x1), (2, .int x2), (3, .int x3), (7, .int x7), (8, .int x8)]) hC dX7_judge_189 rfl (by decide) (by decide) (fun _ => rfl) h (fun v2 h => ?_)
      refine j_goto (tgt := 165) hC dX7_judge_192 (by decide) ?_
      refine j_sub [1, 2, 3, 4, 5, 6, 0] rfl ?_
      exact ih x1 x2 x3 x7 x8 v2 s5 h
set_option maxRecDepth 20000 in
def X7_judge_l162 (N : Nat) (x1 : Int32) (x2 : Int32) (x3 : Int32) (x7 : Int32) (x8 : Int32) (s0 : St) : Option (Int32 × St) :=
  X7_judge_l165 N N x1 x2 x3 x7 x8 0 s0
set_option maxRecDepth 20000 in
theorem X7_judge_l162_ok {K : Kx} {g : Gm} {N : Nat} {o : Int32 × St} (hC : Ok K cX7_judge RX7 g 11 1 none) : ∀ (x1 : Int32) (x2 : Int32) (x3 : Int32) (x7 : Int32) (x8 : Int32) (s0 : St), X7_judge_l162 N x1 x2 x3 x7 x8 s0 = some o → J K (wM g) 11 (QV K g (wM g) o) 162 [(0, .ref (g.1 0)), (1, .int x1), (2, .int x2), (3, .int x3), (7, .int x7), (8, .int x8)] [] s0 := by
  intro x1 x2 x3 x7 x8 s0 h
  unfold X7_judge_l162 at h
  refine j_iconst (v := 0) hC dX7_judge_162 (by decide) ?_
  refine j_istore hC dX7_judge_163 (by decide) rfl ?_
  refine j_sub [1, 2, 3, 4, 5, 6, 0] rfl ?_
  exact X7_judge_l165_ok hC N x1 x2 x3 x7 x8 0 s0 h
set_option maxRecDepth 20000 in
def X7_judge_l83 (N : Nat) (k34 : Int32 → Int32 → Int32 → Int32 → Int32 → Int32 → Int32 → Int32 → St → Option (Int32 × St)) (x1 : Int32) (x2 : Int32) (x3 : Int32) (x6 : Int32) (x7 : Int32) (x8 : Int32) (x9 : Int32) (x10 : Int32) (s0 : St) : Option (Int32 × St) :=
  bnd (x10 + 1) fun v1 =>
  k34 x1 x2 x3 x6 x7 x8 x9 v1 s0
set_option maxRecDepth 20000 in
theorem X7_judge_l83_ok {K : Kx} {g : Gm} {N : Nat} {o : Int32 × St} (hC : Ok K cX7_judge RX7 g 11 1 none) {k34 : Int32 → Int32 → Int32 → Int32 → Int32 → Int32 → Int32 → Int32 → St → Option (Int32 × St)} (hk34 : ∀ (x1 : Int32) (x2 : Int32) (x3 : Int32) (x6 : Int32) (x7 : Int32) (x8 : Int32) (x9 : Int32) (x10 : Int32) (s0 : St), k34 x1 x2 x3 x6 x7 x8 x9 x10 s0 = some o → J K (wM g) 11 (QV K g (wM g) o) 34 [(0, .ref (g.1 0)), (1, .int x1), (2, .int x2), (3, .int x3), (6, .int x6), (7, .int x7), (8, .int x8), (9, .int x9), (10, .int x10)] [] s0) : ∀ (x1 : Int32) (x2 : Int32) (x3 : Int32) (x6 : Int32) (x7 : Int32) (x8 : Int32) (x9 : Int32) (x10 : Int32) (s0 : St), X7_judge_l83 N k34 x1 x2 x3 x6 x7 x8 x9 x10 s0 = some o → J K (wM g) 11 (QV K g (wM g) o) 83 [(0, .ref (g.1 0)), (1, .int x1), (2, .int x2), (3, .int x3), (6, .int x6), (7, .int x7), (8, .int x8), (9, .int x9), (10, .int x10)] [] s0 := by
  intro x1 x2 x3 x6 x7 x8 x9 x10 s0 h
  unfold X7_judge_l83 at h
  refine j_iincb (n2 := 1) (k0 := 8) (lv2 := fun z => [(10, .int z), (0, .ref (g.1 0)), (1, .int x1), (2, .int x2), (3, .int x3), (6, .int x6), (7, .int x7), (8, .int x8), (9, .int x9)]) hC dX7_judge_83 rfl (by decide) (by decide) (fun _ => rfl) h (fun v1 h => ?_)
  refine j_goto (tgt := 34) hC dX7_judge_86 (by decide) ?_
  refine j_sub [1, 2, 3, 4, 5, 6, 7, 8, 0] rfl ?_
  exact hk34 x1 x2 x3 x6 x7 x8 x9 v1 s0 h
set_option maxRecDepth 20000 in
def X7_judge_l34 (N : Nat) : Nat → Int32 → Int32 → Int32 → Int32 → Int32 → Int32 → Int32 → Int32 → St → Option (Int32 × St)
  | 0 => fun _ _ _ _ _ _ _ _ _ => none
  | n + 1 => fun x1 x2 x3 x6 x7 x8 x9 x10 s0 =>
  if x2 ≤ x10 then
  ald s0 1 5 3 fun v1 =>
    if v1 < x7 then
    some (0, s0)
    else
    if x6 ≤ x9 then
      if gi s0 19 ≤ 0 then
        X7_judge_l162 N x1 x2 x3 x7 x8 s0
        else
        if gi s0 20 < x7 then
          some (0, s0)
          else
          if x7 = gi s0 20 then
            if x8 < gi s0 21 then
              some (0, s0)
              else
              if x8 = gi s0 21 then
                cal (X7_comesAhead_f N x1 x2 x3 s0) fun v2 s1 =>
                  if v2 = 0 then
                  some (0, s1)
                  else
                  X7_judge_l162 N x1 x2 x3 x7 x8 s1
                else
                X7_judge_l162 N x1 x2 x3 x7 x8 s0
            else
            X7_judge_l162 N x1 x2 x3 x7 x8 s0
      else
      some (0, s0)
  else
  ald s0 25 55296 (((4 : Int32) * x1) + x10) fun v3 =>
    ald s0 18 24 v3 fun v4 =>
    bnd (x8 + v4) fun v5 =>
    ald s0 25 55296 (((4 : Int32) * x1) + x10) fun v6 =>
    ald s0 19 24 v6 fun v7 =>
    if v7 = 0 then
    X7_judge_l83 N (X7_judge_l34 N n) x1 x2 x3 x6 x7 v5 x9 x10 s0
    else
    bnd (x9 + 1) fun v8 =>
      X7_judge_l83 N (X7_judge_l34 N n) x1 x2 x3 x6 x7 v5 v8 x10 s0
set_option maxRecDepth 20000 in
theorem X7_judge_l34_ok {K : Kx} {g : Gm} {N : Nat} {o : Int32 × St} (hC : Ok K cX7_judge RX7 g 11 1 none) : ∀ (n : Nat) (x1 : Int32) (x2 : Int32) (x3 : Int32) (x6 : Int32) (x7 : Int32) (x8 : Int32) (x9 : Int32) (x10 : Int32) (s0 : St), X7_judge_l34 N n x1 x2 x3 x6 x7 x8 x9 x10 s0 = some o → J K (wM g) 11 (QV K g (wM g) o) 34 [(0, .ref (g.1 0)), (1, .int x1), (2, .int x2), (3, .int x3), (6, .int x6), (7, .int x7), (8, .int x8), (9, .int x9), (10, .int x10)] [] s0 := by
  intro n
  induction n with
  | zero => intro x1 x2 x3 x6 x7 x8 x9 x10 s0 h; cases h
  | succ n ih =>
    intro x1 x2 x3 x6 x7 x8 x9 x10 s0 h
    rw [X7_judge_l34] at h
    refine j_iload hC dX7_judge_34 8 rfl ?_
    refine j_iload_n hC dX7_judge_36 rfl 2 rfl ?_
    refine j_icmp_ge (tgt := 89) hC dX7_judge_37 (by decide) h ?_ ?_
    · intro h
      refine j_iload hC dX7_judge_89 5 rfl ?_
      refine j_aload_n hC dX7_judge_91 rfl 0 rfl ?_
      refine get_X7_13 hC dX7_judge_92 ?_
      refine j_iconst (v := 3) hC dX7_judge_95 (by decide) ?_
      refine ald_X7_rule hC dX7_judge_96 h ?_
      intro v1 h
      refine j_icmp_gt (tgt := 107) hC dX7_judge_97 (by decide) h ?_ ?_
      · intro h
        exact j_vret (v := 0) hC dX7_judge_107 h
      · intro h
        refine j_iload hC dX7_judge_100 7 rfl ?_
        refine j_iload hC dX7_judge_102 4 rfl ?_
        refine j_icmp_ge (tgt := 108) hC dX7_judge_104 (by decide) h ?_ ?_
        · intro h
          refine j_aload_n hC dX7_judge_108 rfl 0 rfl ?_
          refine get_X7_225 hC dX7_judge_109 ?_
          refine j_if_le (tgt := 162) hC dX7_judge_112 (by decide) h ?_ ?_
          · intro h
            refine j_sub [0, 1, 2, 3, 5, 6] rfl ?_
            exact X7_judge_l162_ok hC x1 x2 x3 x7 x8 s0 h
          · intro h
            refine j_iload hC dX7_judge_115 5 rfl ?_
            refine j_aload_n hC dX7_judge_117 rfl 0 rfl ?_
            refine get_X7_228 hC dX7_judge_118 ?_
            refine j_icmp_gt (tgt := 161) hC dX7_judge_121 (by decide) h ?_ ?_
            · intro h
              exact j_vret (v := 0) hC dX7_judge_161 h
            · intro h
              refine j_iload hC dX7_judge_124 5 rfl ?_
              refine j_aload_n hC dX7_judge_126 rfl 0 rfl ?_
              refine get_X7_228 hC dX7_judge_127 ?_
              refine j_icmp_ne (tgt := 162) hC dX7_judge_130 (by decide) h ?_ ?_
              · intro h
                refine j_sub [0, 1, 2, 3, 5, 6] rfl ?_
                exact X7_judge_l162_ok hC x1 x2 x3 x7 x8 s0 h
              · intro h
                refine j_iload hC dX7_judge_133 6 rfl ?_
                refine j_aload_n hC dX7_judge_135 rfl 0 rfl ?_
                refine get_X7_231 hC dX7_judge_136 ?_
                refine j_icmp_lt (tgt := 161) hC dX7_judge_139 (by decide) h ?_ ?_
                · intro h
                  exact j_vret (v := 0) hC dX7_judge_161 h
                · intro h
                  refine j_iload hC dX7_judge_142 6 rfl ?_
                  refine j_aload_n hC dX7_judge_144 rfl 0 rfl ?_
                  refine get_X7_231 hC dX7_judge_145 ?_
                  refine j_icmp_ne (tgt := 162) hC dX7_judge_148 (by decide) h ?_ ?_
                  · intro h
                    refine j_sub [0, 1, 2, 3, 5, 6] rfl ?_
                    exact X7_judge_l162_ok hC x1 x2 x3 x7 x8 s0 h
                  · intro h
                    refine j_aload_n hC dX7_judge_151 rfl 0 rfl ?_
                    refine j_iload_n hC dX7_judge_152 rfl 1 rfl ?_
                    refine j_iload_n hC dX7_judge_153 rfl 2 rfl ?_
                    refine j_iload_n hC dX7_judge_154 rfl 3 rfl ?_
                    obtain ⟨v2, s1, hc, h⟩ := cal_some h
                    refine call_X7_234 hC (fun l D => X7_comesAhead_ok l D g hc) (by decide) (Nat.le_of_ble_eq_true rfl) dX7_judge_155 ?_
                    refine j_if_ne (tgt := 162) hC dX7_judge_158 (by decide) h ?_ ?_
                    · intro h
                      refine j_sub [0, 1, 2, 3, 5, 6] rfl ?_
                      exact X7_judge_l162_ok hC x1 x2 x3 x7 x8 s1 h
                    · intro h
                      exact j_vret (v := 0) hC dX7_judge_161 h
        · intro h
          exact j_vret (v := 0) hC dX7_judge_107 h
    · intro h
      refine j_iload hC dX7_judge_40 6 rfl ?_
      refine j_aload_n hC dX7_judge_42 rfl 0 rfl ?_
      refine get_X7_64 hC dX7_judge_43 ?_
      refine j_aload_n hC dX7_judge_46 rfl 0 rfl ?_
      refine get_X7_87 hC dX7_judge_47 ?_
      refine j_iconst (v := 4) hC dX7_judge_50 (by decide) ?_
      refine j_iload_n hC dX7_judge_51 rfl 1 rfl ?_
      refine j_pc (n2 := 52) rfl ?_
      refine j_imul hC dX7_judge_52 ?_
      refine j_iload hC dX7_judge_53 8 rfl ?_
      refine j_iadd hC dX7_judge_55 ?_
      refine ald_X7_rows hC dX7_judge_56 h ?_
      intro v3 h
      refine ald_X7_heat hC dX7_judge_57 h ?_
      intro v4 h
      refine j_iadd hC dX7_judge_58 ?_
      refine j_bi (E := x8 + v4) h (fun v5 h => ?_)
      refine j_istore hC dX7_judge_59 (by decide) rfl ?_
      refine j_aload_n hC dX7_judge_61 rfl 1 rfl ?_
      refine j_pc (n2 := 62) rfl ?_
      refine get_X7_67 hC dX7_judge_62 ?_
      refine j_aload_n hC dX7_judge_65 rfl 1 rfl ?_
      refine get_X7_87 hC dX7_judge_66 ?_
      refine j_iconst (v := 4) hC dX7_judge_69 (by decide) ?_
      refine j_iload_n hC dX7_judge_70 rfl 2 rfl ?_
      refine j_imul hC dX7_judge_71 ?_
      refine j_iload hC dX7_judge_72 8 rfl ?_
      refine j_iadd hC dX7_judge_74 ?_
      refine j_pc (n2 := 75) rfl ?_
      refine ald_X7_rows hC dX7_judge_75 h ?_
      intro v6 h
      refine ald_X7_isNew hC dX7_judge_76 h ?_
      intro v7 h
      refine j_if_eq (tgt := 83) hC dX7_judge_77 (by decide) h ?_ ?_
      · intro h
        refine j_sub [1, 2, 3, 4, 5, 6, 0, 7, 8] rfl ?_
        exact X7_judge_l83_ok hC ih x1 x2 x3 x6 x7 v5 x9 x10 s0 h
      · intro h
        refine j_iincb (n2 := 1) (k0 := 7) (lv2 := fun z => [(9, .int z), (8, .int v5), (0, .ref (g.1 0)), (1, .int x1), (2, .int x2), (3, .int x3), (6, .int x6), (7, .int x7), (10, .int x10)]) hC dX7_judge_80 rfl (by decide) (by decide) (fun _ => rfl) h (fun v8 h => ?_)
        refine j_sub [2, 3, 4, 5, 6, 7, 1, 0, 8] rfl ?_
        exact X7_judge_l83_ok hC ih x1 x2 x3 x6 x7 v5 v8 x10 s0 h
set_option maxRecDepth 20000 in
def X7_judge_l29 (N : Nat) (x1 : Int32) (x2 : Int32) (x3 : Int32) (x6 : Int32) (x7 : Int32) (x8 : Int32) (t0 : Int32) (s0 : St) : Option (Int32 × St) :=
  X7_judge_l34 N N x1 x2 x3 x6 x7 x8 t0 0 s0
set_option maxRecDepth 20000 in
theorem X7_judge_l29_ok {K : Kx} {g : Gm} {N : Nat} {o : Int32 × St} (hC : Ok K cX7_judge RX7 g 11 1 none) : ∀ (x1 : Int32) (x2 : Int32) (x3 : Int32) (x6 : Int32) (x7 : Int32) (x8 : Int32) (t0 : Int32) (s0 : St), X7_judge_l29 N x1 x2 x3 x6 x7 x8 t0 s0 = some o → J K (wM g) 11 (QV K g (wM g) o) 29 [(0, .ref (g.1 0)), (1, .int x1), (2, .int x2), (3, .int x3), (6, .int x6), (7, .int x7), (8, .int x8)] [.int t0] s0 := by
  intro x1 x2 x3 x6 x7 x8 t0 s0 h
  unfold X7_judge_l29 at h
  refine j_istore hC dX7_judge_29 (by decide) rfl ?_
  refine j_iconst (v := 0) hC dX7_judge_31 (by decide) ?_
  refine j_istore hC dX7_judge_32 (by decide) rfl ?_
  refine j_sub [2, 3, 4, 5, 6, 7, 8, 1, 0] rfl ?_
  exact X7_judge_l34_ok hC N x1 x2 x3 x6 x7 x8 t0 0 s0 h
set_option maxRecDepth 20000 in
def X7_judge_f (N : Nat) (x1 : Int32) (x2 : Int32) (x3 : Int32) (x4 : Int32) (x5 : Int32) (x6 : Int32) (s0 : St) : Option (Int32 × St) :=
  bnd (x4 - x5) fun v1 =>
  ald s0 18 24 x3 fun v2 =>
  ald s0 19 24 x3 fun v3 =>
  if v3 = 0 then
  X7_judge_l29 N x1 x2 x3 x6 v1 v2 0 s0
  else
  X7_judge_l29 N x1 x2 x3 x6 v1 v2 1 s0
set_option maxRecDepth 20000 in
theorem X7_judge_ok (l : Launch) (D : va_G) (g : Gm) {N : Nat} {x1 : Int32} {x2 : Int32} {x3 : Int32} {x4 : Int32} {x5 : Int32} {x6 : Int32} {s0 : St} {o : Int32 × St} (h : X7_judge_f N x1 x2 x3 x4 x5 x6 s0 = some o) : MV l yX7_judge cX7_judge 11 none 1 D g (wM g) [.ref (g.1 0), .int x1, .int x2, .int x3, .int x4, .int x5, .int x6] s0 o := by
  refine met_V (own := RX7) (by decide) rfl (Nat.le_of_ble_eq_true rfl) (fun K hC => ?_)
  show J K (wM g) 11 (QV K g (wM g) o) 0 [(0, .ref (g.1 0)), (1, .int x1), (2, .int x2), (3, .int x3), (4, .int x4), (5, .int x5), (6, .int x6)] [] s0
  unfold X7_judge_f at h
  refine j_iload hC dX7_judge_0 4 rfl ?_
  refine j_iload hC dX7_judge_2 5 rfl ?_
  refine j_isub hC dX7_judge_4 ?_
  refine j_bi (E := x4 - x5) h (fun v1 h => ?_)
  refine j_istore hC dX7_judge_5 (by decide) rfl ?_
  refine j_aload_n hC dX7_judge_7 rfl 1 rfl ?_
  refine get_X7_64 hC dX7_judge_8 ?_
  refine j_iload_n hC dX7_judge_11 rfl 4 rfl ?_
  refine j_pc (n2 := 12) rfl ?_
  refine ald_X7_heat hC dX7_judge_12 h ?_
  intro v2 h
  refine j_istore hC dX7_judge_13 (by decide) rfl ?_
  refine j_aload_n hC dX7_judge_15 rfl 2 rfl ?_
  refine get_X7_67 hC dX7_judge_16 ?_
  refine j_iload_n hC dX7_judge_19 rfl 5 rfl ?_
  refine ald_X7_isNew hC dX7_judge_20 h ?_
  intro v3 h
  refine j_if_eq (tgt := 28) hC dX7_judge_21 (by decide) h ?_ ?_
  · intro h
    refine j_iconst (v := 0) hC dX7_judge_28 (by decide) ?_
    refine j_sub [2, 3, 4, 5, 8, 1, 0] rfl ?_
    exact X7_judge_l29_ok hC x1 x2 x3 x6 v1 v2 0 s0 h
  · intro h
    refine j_iconst (v := 1) hC dX7_judge_24 (by decide) ?_
    refine j_goto (tgt := 29) hC dX7_judge_25 (by decide) ?_
    refine j_sub [2, 3, 4, 5, 8, 1, 0] rfl ?_
    exact X7_judge_l29_ok hC x1 x2 x3 x6 v1 v2 1 s0 h
set_option maxRecDepth 20000 in
def X7_fits_l106 (N : Nat) (s0 : St) : Option (Int32 × St) :=
  some (1, s0)
set_option maxRecDepth 20000 in
theorem X7_fits_l106_ok {K : Kx} {g : Gm} {N : Nat} {o : Int32 × St} (hC : Ok K cX7_fits RX7 g 9 1 (some .boolean)) : ∀ (s0 : St), X7_fits_l106 N  s0 = some o → J K (wM g) 9 (QI K g (wM g) o) 106 [] [] s0 := by
  intro  s0 h
  unfold X7_fits_l106 at h
  refine j_iconst (v := 1) hC dX7_fits_106 (by decide) ?_
  refine j_goto (tgt := 132) hC dX7_fits_107 (by decide) ?_
  exact j_iret hC dX7_fits_132 rfl h
set_option maxRecDepth 20000 in
def X7_fits_l6 (N : Nat) : Nat → Int32 → Int32 → Int32 → Int32 → Int32 → Int32 → Int32 → St → Option (Int32 × St)
  | 0 => fun _ _ _ _ _ _ _ _ => none
  | n + 1 => fun x1 x2 x3 x4 x5 x6 x7 s0 =>
  if x2 ≤ x7 then
  if x2 = 0 then
    if gi s0 13 = 0 then
      X7_fits_l106 N s0
      else
      cal (X7_endOf_f N ((gi s0 13) - 1) s0) fun v3 s2 =>
        if v3 = x3 then
        ald s2 20 300 ((gi s2 13) - 1) fun v4 =>
          cal (X7_goWith_f N v4 x4 s2) fun v5 s3 =>
          if v5 = 0 then
          some (0, s3)
          else
          X7_fits_l106 N s3
        else
        X7_fits_l106 N s2
    else
    ald s0 25 55296 ((((4 : Int32) * x1) + x2) - 1) fun v1 =>
      cal (X7_goWith_f N v1 x4 s0) fun v2 s1 =>
      chk (isZ v2) (some (v2, s1))
  else
  ald s0 25 55296 (((4 : Int32) * x1) + x7) fun v6 =>
    cal (X7_rests_f N v6 x4 s0) fun v7 s4 =>
    if v7 ≤ x5 - x6 then
    ald s4 10 24 v6 fun v8 =>
      bnd (x6 + v8) fun v9 =>
      bnd (x7 + 1) fun v10 =>
      (X7_fits_l6 N n) x1 x2 x3 x4 x5 v9 v10 s4
    else
    some (0, s4)
set_option maxRecDepth 20000 in
theorem X7_fits_l6_ok {K : Kx} {g : Gm} {N : Nat} {o : Int32 × St} (hC : Ok K cX7_fits RX7 g 9 1 (some .boolean)) : ∀ (n : Nat) (x1 : Int32) (x2 : Int32) (x3 : Int32) (x4 : Int32) (x5 : Int32) (x6 : Int32) (x7 : Int32) (s0 : St), X7_fits_l6 N n x1 x2 x3 x4 x5 x6 x7 s0 = some o → J K (wM g) 9 (QI K g (wM g) o) 6 [(0, .ref (g.1 0)), (1, .int x1), (2, .int x2), (3, .int x3), (4, .int x4), (5, .int x5), (6, .int x6), (7, .int x7)] [] s0 := by
  intro n
  induction n with
  | zero => intro x1 x2 x3 x4 x5 x6 x7 s0 h; cases h
  | succ n ih =>
    intro x1 x2 x3 x4 x5 x6 x7 s0 h
    rw [X7_fits_l6] at h
    refine j_iload hC dX7_fits_6 7 rfl ?_
    refine j_iload_n hC dX7_fits_8 rfl 2 rfl ?_
    refine j_icmp_ge (tgt := 61) hC dX7_fits_9 (by decide) h ?_ ?_
    · intro h
      refine j_iload_n hC dX7_fits_61 rfl 2 rfl ?_
      refine j_if_ne (tgt := 114) hC dX7_fits_62 (by decide) h ?_ ?_
      · intro h
        refine j_aload_n hC dX7_fits_114 rfl 0 rfl ?_
        refine j_aload_n hC dX7_fits_115 rfl 0 rfl ?_
        refine get_X7_87 hC dX7_fits_116 ?_
        refine j_iconst (v := 4) hC dX7_fits_119 (by decide) ?_
        refine j_iload_n hC dX7_fits_120 rfl 1 rfl ?_
        refine j_imul hC dX7_fits_121 ?_
        refine j_iload_n hC dX7_fits_122 rfl 2 rfl ?_
        refine j_pc (n2 := 123) rfl ?_
        refine j_iadd hC dX7_fits_123 ?_
        refine j_iconst (v := 1) hC dX7_fits_124 (by decide) ?_
        refine j_isub hC dX7_fits_125 ?_
        refine ald_X7_rows hC dX7_fits_126 h ?_
        intro v1 h
        refine j_iload hC dX7_fits_127 4 rfl ?_
        obtain ⟨v2, s1, hc, h⟩ := cal_some h
        refine call_X7_240 hC (fun l D => X7_goWith_ok l D g hc) (by decide) (Nat.le_of_ble_eq_true rfl) dX7_fits_129 ?_
        obtain ⟨hz, h⟩ := chk_some h
        exact j_iret hC dX7_fits_132 (isZ_nar hz) h
      · intro h
        refine j_aload_n hC dX7_fits_65 rfl 0 rfl ?_
        refine get_X7_218 hC dX7_fits_66 ?_
        refine j_if_eq (tgt := 106) hC dX7_fits_69 (by decide) h ?_ ?_
        · intro h
          refine j_sub [] rfl ?_
          exact X7_fits_l106_ok hC s0 h
        · intro h
          refine j_aload_n hC dX7_fits_72 rfl 0 rfl ?_
          refine j_aload_n hC dX7_fits_73 rfl 0 rfl ?_
          refine get_X7_218 hC dX7_fits_74 ?_
          refine j_iconst (v := 1) hC dX7_fits_77 (by decide) ?_
          refine j_isub hC dX7_fits_78 ?_
          obtain ⟨v3, s2, hc, h⟩ := cal_some h
          refine call_X7_237 hC (fun l D => X7_endOf_ok l D g hc) (by decide) (Nat.le_of_ble_eq_true rfl) dX7_fits_79 ?_
          refine j_iload_n hC dX7_fits_82 rfl 3 rfl ?_
          refine j_pc (n2 := 83) rfl ?_
          refine j_icmp_ne (tgt := 106) hC dX7_fits_83 (by decide) h ?_ ?_
          · intro h
            refine j_sub [] rfl ?_
            exact X7_fits_l106_ok hC s2 h
          · intro h
            refine j_aload_n hC dX7_fits_86 rfl 0 rfl ?_
            refine j_aload_n hC dX7_fits_87 rfl 0 rfl ?_
            refine get_X7_71 hC dX7_fits_88 ?_
            refine j_aload_n hC dX7_fits_91 rfl 0 rfl ?_
            refine get_X7_218 hC dX7_fits_92 ?_
            refine j_iconst (v := 1) hC dX7_fits_95 (by decide) ?_
            refine j_isub hC dX7_fits_96 ?_
            refine j_pc (n2 := 97) rfl ?_
            refine ald_X7_played hC dX7_fits_97 h ?_
            intro v4 h
            refine j_iload hC dX7_fits_98 4 rfl ?_
            obtain ⟨v5, s3, hc, h⟩ := cal_some h
            refine call_X7_240 hC (fun l D => X7_goWith_ok l D g hc) (by decide) (Nat.le_of_ble_eq_true rfl) dX7_fits_100 ?_
            refine j_if_eq (tgt := 110) hC dX7_fits_103 (by decide) h ?_ ?_
            · intro h
              refine j_iconst (v := 0) hC dX7_fits_110 (by decide) ?_
              refine j_goto (tgt := 132) hC dX7_fits_111 (by decide) ?_
              exact j_iret hC dX7_fits_132 rfl h
            · intro h
              refine j_sub [] rfl ?_
              exact X7_fits_l106_ok hC s3 h
    · intro h
      refine j_aload_n hC dX7_fits_12 rfl 0 rfl ?_
      refine get_X7_87 hC dX7_fits_13 ?_
      refine j_iconst (v := 4) hC dX7_fits_16 (by decide) ?_
      refine j_iload_n hC dX7_fits_17 rfl 1 rfl ?_
      refine j_imul hC dX7_fits_18 ?_
      refine j_iload hC dX7_fits_19 7 rfl ?_
      refine j_iadd hC dX7_fits_21 ?_
      refine j_pc (n2 := 22) rfl ?_
      refine ald_X7_rows hC dX7_fits_22 h ?_
      intro v6 h
      refine j_istore hC dX7_fits_23 (by decide) rfl ?_
      refine j_iload hC dX7_fits_25 6 rfl ?_
      refine j_iload hC dX7_fits_27 7 rfl ?_
      refine j_isub hC dX7_fits_29 ?_
      refine j_aload_n hC dX7_fits_30 rfl 1 rfl ?_
      refine j_iload hC dX7_fits_31 0 rfl ?_
      refine j_iload hC dX7_fits_33 5 rfl ?_
      refine j_pc (n2 := 35) rfl ?_
      obtain ⟨v7, s4, hc, h⟩ := cal_some h
      refine call_X7_221 hC (fun l D => X7_rests_ok l D g hc) (by decide) (Nat.le_of_ble_eq_true rfl) dX7_fits_35 ?_
      refine j_icmp_ge (tgt := 43) hC dX7_fits_38 (by decide) h ?_ ?_
      · intro h
        refine j_iload hC dX7_fits_43 7 rfl ?_
        refine j_aload_n hC dX7_fits_45 rfl 1 rfl ?_
        refine get_X7_40 hC dX7_fits_46 ?_
        refine j_iload hC dX7_fits_49 0 rfl ?_
        refine ald_X7_lasts hC dX7_fits_51 h ?_
        intro v8 h
        refine j_iadd hC dX7_fits_52 ?_
        refine j_bi (E := x6 + v8) h (fun v9 h => ?_)
        refine j_istore hC dX7_fits_53 (by decide) rfl ?_
        refine j_pc (n2 := 55) rfl ?_
        refine j_iincb (n2 := 1) (k0 := 8) (lv2 := fun z => [(7, .int z), (6, .int v9), (8, .int v6), (0, .ref (g.1 0)), (1, .int x1), (2, .int x2), (3, .int x3), (4, .int x4), (5, .int x5)]) hC dX7_fits_55 rfl (by decide) (by decide) (fun _ => rfl) h (fun v10 h => ?_)
        refine j_goto (tgt := 6) hC dX7_fits_58 (by decide) ?_
        refine j_sub [3, 4, 5, 6, 7, 8, 1, 0] rfl ?_
        exact ih x1 x2 x3 x4 x5 v9 v10 s4 h
      · intro h
        refine j_iconst (v := 0) hC dX7_fits_41 (by decide) ?_
        exact j_iret hC dX7_fits_42 rfl h
set_option maxRecDepth 20000 in
def X7_fits_f (N : Nat) (x1 : Int32) (x2 : Int32) (x3 : Int32) (x4 : Int32) (x5 : Int32) (s0 : St) : Option (Int32 × St) :=
  X7_fits_l6 N N x1 x2 x3 x4 x5 x3 0 s0
set_option maxRecDepth 20000 in
theorem X7_fits_ok (l : Launch) (D : va_G) (g : Gm) {N : Nat} {x1 : Int32} {x2 : Int32} {x3 : Int32} {x4 : Int32} {x5 : Int32} {s0 : St} {o : Int32 × St} (h : X7_fits_f N x1 x2 x3 x4 x5 s0 = some o) : MI l yX7_fits cX7_fits 9 (some .boolean) 1 D g (wM g) [.ref (g.1 0), .int x1, .int x2, .int x3, .int x4, .int x5] s0 o := by
  refine met_I (own := RX7) (by decide) rfl (Nat.le_of_ble_eq_true rfl) (fun K hC => ?_)
  show J K (wM g) 9 (QI K g (wM g) o) 0 [(0, .ref (g.1 0)), (1, .int x1), (2, .int x2), (3, .int x3), (4, .int x4), (5, .int x5)] [] s0
  unfold X7_fits_f at h
  refine j_iload_n hC dX7_fits_0 rfl 3 rfl ?_
  refine j_istore hC dX7_fits_1 (by decide) rfl ?_
  refine j_iconst (v := 0) hC dX7_fits_3 (by decide) ?_
  refine j_istore hC dX7_fits_4 (by decide) rfl ?_
  refine j_sub [2, 3, 4, 5, 6, 7, 1, 0] rfl ?_
  exact X7_fits_l6_ok hC N x1 x2 x3 x4 x5 x3 0 s0 h
set_option maxRecDepth 20000 in
def X7_fill_l315 (N : Nat) (k24 : Int32 → Int32 → Int32 → Int32 → Int32 → St → Option (Int32 × St)) : Nat → Int32 → Int32 → Int32 → Int32 → Int32 → Int32 → St → Option (Int32 × St)
  | 0 => fun _ _ _ _ _ _ _ => none
  | n + 1 => fun x1 x2 x3 x4 x5 x6 s0 =>
  if gi s0 18 ≤ x6 then
  bnd (x5 + 1) fun v1 =>
    k24 x1 x2 x3 x4 v1 s0
  else
  ald s0 28 13824 x6 fun v2 =>
    ast s0 27 13824 x6 v2 fun s1 =>
    bnd (x6 + 1) fun v3 =>
    (X7_fill_l315 N k24 n) x1 x2 x3 x4 x5 v3 s1
set_option maxRecDepth 20000 in
theorem X7_fill_l315_ok {K : Kx} {g : Gm} {N : Nat} {o : Int32 × St} (hC : Ok K cX7_fill RX7 g 10 2 none) {k24 : Int32 → Int32 → Int32 → Int32 → Int32 → St → Option (Int32 × St)} (hk24 : ∀ (x1 : Int32) (x2 : Int32) (x3 : Int32) (x4 : Int32) (x5 : Int32) (s0 : St), k24 x1 x2 x3 x4 x5 s0 = some o → J K (wM g) 10 (QV K g (wM g) o) 24 [(0, .ref (g.1 0)), (1, .int x1), (2, .int x2), (3, .int x3), (4, .int x4), (5, .int x5)] [] s0) : ∀ (n : Nat) (x1 : Int32) (x2 : Int32) (x3 : Int32) (x4 : Int32) (x5 : Int32) (x6 : Int32) (s0 : St), X7_fill_l315 N k24 n x1 x2 x3 x4 x5 x6 s0 = some o → J K (wM g) 10 (QV K g (wM g) o) 315 [(0, .ref (g.1 0)), (1, .int x1), (2, .int x2), (3, .int x3), (4, .int x4), (5, .int x5), (6, .int x6)] [] s0 := by
  intro n
  induction n with
  | zero => intro x1 x2 x3 x4 x5 x6 s0 h; cases h
  | succ n ih =>
    intro x1 x2 x3 x4 x5 x6 s0 h
    rw [X7_fill_l315] at h
    refine j_iload hC dX7_fill_315 6 rfl ?_
    refine j_aload_n hC dX7_fill_317 rfl 0 rfl ?_
    refine get_X7_249 hC dX7_fill_318 ?_
    refine j_icmp_ge (tgt := 344) hC dX7_fill_321 (by decide) h ?_ ?_
    · intro h
      refine j_iincb (n2 := 1) (k0 := 5) (lv2 := fun z => [(5, .int z), (0, .ref (g.1 0)), (1, .int x1), (2, .int x2), (3, .int x3), (4, .int x4), (6, .int x6)]) hC dX7_fill_344 rfl (by decide) (by decide) (fun _ => rfl) h (fun v1 h => ?_)
      refine j_goto (tgt := 24) hC dX7_fill_347 (by decide) ?_
      refine j_sub [1, 2, 3, 4, 5, 0] rfl ?_
      exact hk24 x1 x2 x3 x4 v1 s0 h
    · intro h
      refine j_aload_n hC dX7_fill_324 rfl 0 rfl ?_
      refine get_X7_93 hC dX7_fill_325 ?_
      refine j_iload hC dX7_fill_328 6 rfl ?_
      refine j_aload_n hC dX7_fill_330 rfl 0 rfl ?_
      refine get_X7_96 hC dX7_fill_331 ?_
      refine j_iload hC dX7_fill_334 6 rfl ?_
      refine ald_X7_nextTaken hC dX7_fill_336 h ?_
      intro v2 h
      refine j_pc (n2 := 337) rfl ?_
      refine ast_X7_taken hC dX7_fill_337 h ?_
      intro s1 h
      refine j_iincb (n2 := 1) (k0 := 6) (lv2 := fun z => [(6, .int z), (0, .ref (g.1 0)), (1, .int x1), (2, .int x2), (3, .int x3), (4, .int x4), (5, .int x5)]) hC dX7_fill_338 rfl (by decide) (by decide) (fun _ => rfl) h (fun v3 h => ?_)
      refine j_goto (tgt := 315) hC dX7_fill_341 (by decide) ?_
      refine j_sub [1, 2, 3, 4, 5, 6, 0] rfl ?_
      exact ih x1 x2 x3 x4 x5 v3 s1 h
set_option maxRecDepth 20000 in
def X7_fill_l281 (N : Nat) (k24 : Int32 → Int32 → Int32 → Int32 → Int32 → St → Option (Int32 × St)) : Nat → Int32 → Int32 → Int32 → Int32 → Int32 → Int32 → St → Option (Int32 × St)
  | 0 => fun _ _ _ _ _ _ _ => none
  | n + 1 => fun x1 x2 x3 x4 x5 x6 s0 =>
  if (4 : Int32) * (gi s0 18) ≤ x6 then
  X7_fill_l315 N k24 N x1 x2 x3 x4 x5 0 s0
  else
  ald s0 26 55296 x6 fun v1 =>
    ast s0 25 55296 x6 v1 fun s1 =>
    bnd (x6 + 1) fun v2 =>
    (X7_fill_l281 N k24 n) x1 x2 x3 x4 x5 v2 s1
set_option maxRecDepth 20000 in
theorem X7_fill_l281_ok {K : Kx} {g : Gm} {N : Nat} {o : Int32 × St} (hC : Ok K cX7_fill RX7 g 10 2 none) {k24 : Int32 → Int32 → Int32 → Int32 → Int32 → St → Option (Int32 × St)} (hk24 : ∀ (x1 : Int32) (x2 : Int32) (x3 : Int32) (x4 : Int32) (x5 : Int32) (s0 : St), k24 x1 x2 x3 x4 x5 s0 = some o → J K (wM g) 10 (QV K g (wM g) o) 24 [(0, .ref (g.1 0)), (1, .int x1), (2, .int x2), (3, .int x3), (4, .int x4), (5, .int x5)] [] s0) : ∀ (n : Nat) (x1 : Int32) (x2 : Int32) (x3 : Int32) (x4 : Int32) (x5 : Int32) (x6 : Int32) (s0 : St), X7_fill_l281 N k24 n x1 x2 x3 x4 x5 x6 s0 = some o → J K (wM g) 10 (QV K g (wM g) o) 281 [(0, .ref (g.1 0)), (1, .int x1), (2, .int x2), (3, .int x3), (4, .int x4), (5, .int x5), (6, .int x6)] [] s0 := by
  intro n
  induction n with
  | zero => intro x1 x2 x3 x4 x5 x6 s0 h; cases h
  | succ n ih =>
    intro x1 x2 x3 x4 x5 x6 s0 h
    rw [X7_fill_l281] at h
    refine j_iload hC dX7_fill_281 6 rfl ?_
    refine j_iconst (v := 4) hC dX7_fill_283 (by decide) ?_
    refine j_aload_n hC dX7_fill_284 rfl 0 rfl ?_
    refine get_X7_249 hC dX7_fill_285 ?_
    refine j_imul hC dX7_fill_288 ?_
    refine j_icmp_ge (tgt := 312) hC dX7_fill_289 (by decide) h ?_ ?_
    · intro h
      refine j_iconst (v := 0) hC dX7_fill_312 (by decide) ?_
      refine j_istore hC dX7_fill_313 (by decide) rfl ?_
      refine j_sub [1, 2, 3, 4, 5, 6, 0] rfl ?_
      exact X7_fill_l315_ok hC hk24 N x1 x2 x3 x4 x5 0 s0 h
    · intro h
      refine j_aload_n hC dX7_fill_292 rfl 0 rfl ?_
      refine get_X7_87 hC dX7_fill_293 ?_
      refine j_iload hC dX7_fill_296 6 rfl ?_
      refine j_aload_n hC dX7_fill_298 rfl 0 rfl ?_
      refine get_X7_90 hC dX7_fill_299 ?_
      refine j_iload hC dX7_fill_302 6 rfl ?_
      refine ald_X7_next hC dX7_fill_304 h ?_
      intro v1 h
      refine j_pc (n2 := 305) rfl ?_
      refine ast_X7_rows hC dX7_fill_305 h ?_
      intro s1 h
      refine j_iincb (n2 := 1) (k0 := 6) (lv2 := fun z => [(6, .int z), (0, .ref (g.1 0)), (1, .int x1), (2, .int x2), (3, .int x3), (4, .int x4), (5, .int x5)]) hC dX7_fill_306 rfl (by decide) (by decide) (fun _ => rfl) h (fun v2 h => ?_)
      refine j_goto (tgt := 281) hC dX7_fill_309 (by decide) ?_
      refine j_sub [1, 2, 3, 4, 5, 6, 0] rfl ?_
      exact ih x1 x2 x3 x4 x5 v2 s1 h
set_option maxRecDepth 20000 in
def X7_fill_l258 (N : Nat) (k24 : Int32 → Int32 → Int32 → Int32 → Int32 → St → Option (Int32 × St)) (k43 : Int32 → Int32 → Int32 → Int32 → Int32 → Int32 → St → Option (Int32 × St)) (k55 : Int32 → Int32 → Int32 → Int32 → Int32 → Int32 → Int32 → St → Option (Int32 × St)) (x1 : Int32) (x2 : Int32) (x3 : Int32) (x4 : Int32) (x5 : Int32) (x6 : Int32) (x7 : Int32) (s0 : St) : Option (Int32 × St) :=
  bnd (x7 + 1) fun v1 =>
  k55 x1 x2 x3 x4 x5 x6 v1 s0
set_option maxRecDepth 20000 in
theorem X7_fill_l258_ok {K : Kx} {g : Gm} {N : Nat} {o : Int32 × St} (hC : Ok K cX7_fill RX7 g 10 2 none) {k24 : Int32 → Int32 → Int32 → Int32 → Int32 → St → Option (Int32 × St)} (hk24 : ∀ (x1 : Int32) (x2 : Int32) (x3 : Int32) (x4 : Int32) (x5 : Int32) (s0 : St), k24 x1 x2 x3 x4 x5 s0 = some o → J K (wM g) 10 (QV K g (wM g) o) 24 [(0, .ref (g.1 0)), (1, .int x1), (2, .int x2), (3, .int x3), (4, .int x4), (5, .int x5)] [] s0) {k43 : Int32 → Int32 → Int32 → Int32 → Int32 → Int32 → St → Option (Int32 × St)} (hk43 : ∀ (x1 : Int32) (x2 : Int32) (x3 : Int32) (x4 : Int32) (x5 : Int32) (x6 : Int32) (s0 : St), k43 x1 x2 x3 x4 x5 x6 s0 = some o → J K (wM g) 10 (QV K g (wM g) o) 43 [(0, .ref (g.1 0)), (1, .int x1), (2, .int x2), (3, .int x3), (4, .int x4), (5, .int x5), (6, .int x6)] [] s0) {k55 : Int32 → Int32 → Int32 → Int32 → Int32 → Int32 → Int32 → St → Option (Int32 × St)} (hk55 : ∀ (x1 : Int32) (x2 : Int32) (x3 : Int32) (x4 : Int32) (x5 : Int32) (x6 : Int32) (x7 : Int32) (s0 : St), k55 x1 x2 x3 x4 x5 x6 x7 s0 = some o → J K (wM g) 10 (QV K g (wM g) o) 55 [(0, .ref (g.1 0)), (1, .int x1), (2, .int x2), (3, .int x3), (4, .int x4), (5, .int x5), (6, .int x6), (7, .int x7)] [] s0) : ∀ (x1 : Int32) (x2 : Int32) (x3 : Int32) (x4 : Int32) (x5 : Int32) (x6 : Int32) (x7 : Int32) (s0 : St), X7_fill_l258 N k24 k43 k55 x1 x2 x3 x4 x5 x6 x7 s0 = some o → J K (wM g) 10 (QV K g (wM g) o) 258 [(0, .ref (g.1 0)), (1, .int x1), (2, .int x2), (3, .int x3), (4, .int x4), (5, .int x5), (6, .int x6), (7, .int x7)] [] s0 := by
  intro x1 x2 x3 x4 x5 x6 x7 s0 h
  unfold X7_fill_l258 at h
  refine j_iincb (n2 := 1) (k0 := 7) (lv2 := fun z => [(7, .int z), (0, .ref (g.1 0)), (1, .int x1), (2, .int x2), (3, .int x3), (4, .int x4), (5, .int x5), (6, .int x6)]) hC dX7_fill_258 rfl (by decide) (by decide) (fun _ => rfl) h (fun v1 h => ?_)
  refine j_goto (tgt := 55) hC dX7_fill_261 (by decide) ?_
  refine j_sub [1, 2, 3, 4, 5, 6, 7, 0] rfl ?_
  exact hk55 x1 x2 x3 x4 x5 x6 v1 s0 h
set_option maxRecDepth 20000 in
def X7_fill_l182 (N : Nat) (k24 : Int32 → Int32 → Int32 → Int32 → Int32 → St → Option (Int32 × St)) (k43 : Int32 → Int32 → Int32 → Int32 → Int32 → Int32 → St → Option (Int32 × St)) (k55 : Int32 → Int32 → Int32 → Int32 → Int32 → Int32 → Int32 → St → Option (Int32 × St)) : Nat → Int32 → Int32 → Int32 → Int32 → Int32 → Int32 → Int32 → Int32 → Int32 → St → Option (Int32 × St)
  | 0 => fun _ _ _ _ _ _ _ _ _ _ => none
  | n + 1 => fun x1 x2 x3 x4 x5 x6 x7 x8 x9 s0 =>
  if x5 ≤ x9 then
  ast s0 26 55296 (((4 : Int32) * (gi s0 18)) + x5) x7 fun s1 =>
    ast s1 28 13824 (gi s1 18) x8 fun s2 =>
    bnd (si s2 18 ((gi s2 18) + 1)) fun s3 =>
    X7_fill_l258 N k24 k43 k55 x1 x2 x3 x4 x5 x6 x7 s3
  else
  ald s0 25 55296 (((4 : Int32) * x6) + x9) fun v1 =>
    ast s0 26 55296 (((4 : Int32) * (gi s0 18)) + x9) v1 fun s4 =>
    bnd (x9 + 1) fun v2 =>
    (X7_fill_l182 N k24 k43 k55 n) x1 x2 x3 x4 x5 x6 x7 x8 v2 s4
set_option maxRecDepth 20000 in
theorem X7_fill_l182_ok {K : Kx} {g : Gm} {N : Nat} {o : Int32 × St} (hC : Ok K cX7_fill RX7 g 10 2 none) {k24 : Int32 → Int32 → Int32 → Int32 → Int32 → St → Option (Int32 × St)} (hk24 : ∀ (x1 : Int32) (x2 : Int32) (x3 : Int32) (x4 : Int32) (x5 : Int32) (s0 : St), k24 x1 x2 x3 x4 x5 s0 = some o → J K (wM g) 10 (QV K g (wM g) o) 24 [(0, .ref (g.1 0)), (1, .int x1), (2, .int x2), (3, .int x3), (4, .int x4), (5, .int x5)] [] s0) {k43 : Int32 → Int32 → Int32 → Int32 → Int32 → Int32 → St → Option (Int32 × St)} (hk43 : ∀ (x1 : Int32) (x2 : Int32) (x3 : Int32) (x4 : Int32) (x5 : Int32) (x6 : Int32) (s0 : St), k43 x1 x2 x3 x4 x5 x6 s0 = some o → J K (wM g) 10 (QV K g (wM g) o) 43 [(0, .ref (g.1 0)), (1, .int x1), (2, .int x2), (3, .int x3), (4, .int x4), (5, .int x5), (6, .int x6)] [] s0) {k55 : Int32 → Int32 → Int32 → Int32 → Int32 → Int32 → Int32 → St → Option (Int32 × St)} (hk55 : ∀ (x1 : Int32) (x2 : Int32) (x3 : Int32) (x4 : Int32) (x5 : Int32) (x6 : Int32) (x7 : Int32) (s0 : St), k55 x1 x2 x3 x4 x5 x6 x7 s0 = some o → J K (wM g) 10 (QV K g (wM g) o) 55 [(0, .ref (g.1 0)), (1, .int x1), (2, .int x2), (3, .int x3), (4, .int x4), (5, .int x5), (6, .int x6), (7, .int x7)] [] s0) : ∀ (n : Nat) (x1 : Int32) (x2 : Int32) (x3 : Int32) (x4 : Int32) (x5 : Int32) (x6 : Int32) (x7 : Int32) (x8 : Int32) (x9 : Int32) (s0 : St), X7_fill_l182 N k24 k43 k55 n x1 x2 x3 x4 x5 x6 x7 x8 x9 s0 = some o → J K (wM g) 10 (QV K g (wM g) o) 182 [(0, .ref (g.1 0)), (1, .int x1), (2, .int x2), (3, .int x3), (4, .int x4), (5, .int x5), (6, .int x6), (7, .int x7), (8, .int x8), (9, .int x9)] [] s0 := by
  intro n
  induction n with
  | zero => intro x1 x2 x3 x4 x5 x6 x7 x8 x9 s0 h; cases h
  | succ n ih =>
    intro x1 x2 x3 x4 x5 x6 x7 x8 x9 s0 h
    rw [X7_fill_l182] at h
    refine j_iload hC dX7_fill_182 9 rfl ?_
    refine j_iload hC dX7_fill_184 5 rfl ?_
    refine j_icmp_ge (tgt := 221) hC dX7_fill_186 (by decide) h ?_ ?_
    · intro h
      refine j_aload_n hC dX7_fill_221 rfl 0 rfl ?_
      refine get_X7_90 hC dX7_fill_222 ?_
      refine j_iconst (v := 4) hC dX7_fill_225 (by decide) ?_
      refine j_aload_n hC dX7_fill_226 rfl 0 rfl ?_
      refine get_X7_249 hC dX7_fill_227 ?_
      refine j_imul hC dX7_fill_230 ?_
      refine j_iload hC dX7_fill_231 5 rfl ?_
      refine j_pc (n2 := 233) rfl ?_
      refine j_iadd hC dX7_fill_233 ?_
      refine j_iload hC dX7_fill_234 7 rfl ?_
      refine ast_X7_next hC dX7_fill_236 h ?_
      intro s1 h
      refine j_aload_n hC dX7_fill_237 rfl 0 rfl ?_
      refine get_X7_96 hC dX7_fill_238 ?_
      refine j_aload_n hC dX7_fill_241 rfl 0 rfl ?_
      refine get_X7_249 hC dX7_fill_242 ?_
      refine j_iload hC dX7_fill_245 8 rfl ?_
      refine j_pc (n2 := 247) rfl ?_
      refine ast_X7_nextTaken hC dX7_fill_247 h ?_
      intro s2 h
      refine j_aload_n hC dX7_fill_248 rfl 0 rfl ?_
      refine j_dup hC rfl dX7_fill_249 ?_
      refine get_X7_249 hC dX7_fill_250 ?_
      refine j_iconst (v := 1) hC dX7_fill_253 (by decide) ?_
      refine j_iadd hC dX7_fill_254 ?_
      refine put_X7_249 hC dX7_fill_255 h ?_
      intro s3 h
      refine j_sub [0, 1, 2, 3, 4, 5, 6, 7] rfl ?_
      exact X7_fill_l258_ok hC hk24 hk43 hk55 x1 x2 x3 x4 x5 x6 x7 s3 h
    · intro h
      refine j_aload_n hC dX7_fill_189 rfl 0 rfl ?_
      refine get_X7_90 hC dX7_fill_190 ?_
      refine j_iconst (v := 4) hC dX7_fill_193 (by decide) ?_
      refine j_aload_n hC dX7_fill_194 rfl 0 rfl ?_
      refine get_X7_249 hC dX7_fill_195 ?_
      refine j_imul hC dX7_fill_198 ?_
      refine j_iload hC dX7_fill_199 9 rfl ?_
      refine j_pc (n2 := 201) rfl ?_
      refine j_iadd hC dX7_fill_201 ?_
      refine j_aload_n hC dX7_fill_202 rfl 0 rfl ?_
      refine get_X7_87 hC dX7_fill_203 ?_
      refine j_iconst (v := 4) hC dX7_fill_206 (by decide) ?_
      refine j_iload hC dX7_fill_207 6 rfl ?_
      refine j_imul hC dX7_fill_209 ?_
      refine j_iload hC dX7_fill_210 9 rfl ?_
      refine j_iadd hC dX7_fill_212 ?_
      refine j_pc (n2 := 213) rfl ?_
      refine ald_X7_rows hC dX7_fill_213 h ?_
      intro v1 h
      refine ast_X7_next hC dX7_fill_214 h ?_
      intro s4 h
      refine j_iincb (n2 := 1) (k0 := 9) (lv2 := fun z => [(9, .int z), (0, .ref (g.1 0)), (1, .int x1), (2, .int x2), (3, .int x3), (4, .int x4), (5, .int x5), (6, .int x6), (7, .int x7), (8, .int x8)]) hC dX7_fill_215 rfl (by decide) (by decide) (fun _ => rfl) h (fun v2 h => ?_)
      refine j_goto (tgt := 182) hC dX7_fill_218 (by decide) ?_
      refine j_sub [1, 2, 3, 4, 5, 6, 7, 8, 9, 0] rfl ?_
      exact ih x1 x2 x3 x4 x5 x6 x7 x8 v2 s4 h
set_option maxRecDepth 20000 in
def X7_fill_l103 (N : Nat) (k24 : Int32 → Int32 → Int32 → Int32 → Int32 → St → Option (Int32 × St)) (k43 : Int32 → Int32 → Int32 → Int32 → Int32 → Int32 → St → Option (Int32 × St)) (k55 : Int32 → Int32 → Int32 → Int32 → Int32 → Int32 → Int32 → St → Option (Int32 × St)) (x1 : Int32) (x2 : Int32) (x3 : Int32) (x4 : Int32) (x5 : Int32) (x6 : Int32) (x7 : Int32) (x8 : Int32) (s0 : St) : Option (Int32 × St) :=
  ald s0 27 13824 x6 fun v1 =>
  ald s0 24 24 x7 fun v2 =>
  if x1 + v1 < v2 then
  X7_fill_l258 N k24 k43 k55 x1 x2 x3 x4 x5 x6 x7 s0
  else
  ald s0 27 13824 x6 fun v3 =>
    cal (X7_fits_f N x6 x5 x1 x7 (x1 + v3) s0) fun v4 s1 =>
    if v4 = 0 then
    X7_fill_l258 N k24 k43 k55 x1 x2 x3 x4 x5 x6 x7 s1
    else
    cal (X7_judge_f N x6 x5 x7 x2 x8 x4 s1) fun _ s2 =>
      ald s2 1 5 4 fun v6 =>
      if x5 + 1 = v6 then
      X7_fill_l258 N k24 k43 k55 x1 x2 x3 x4 x5 x6 x7 s2
      else
      X7_fill_l182 N k24 k43 k55 N x1 x2 x3 x4 x5 x6 x7 x8 0 s2
set_option maxRecDepth 20000 in
theorem X7_fill_l103_ok {K : Kx} {g : Gm} {N : Nat} {o : Int32 × St} (hC : Ok K cX7_fill RX7 g 10 2 none) {k24 : Int32 → Int32 → Int32 → Int32 → Int32 → St → Option (Int32 × St)} (hk24 : ∀ (x1 : Int32) (x2 : Int32) (x3 : Int32) (x4 : Int32) (x5 : Int32) (s0 : St), k24 x1 x2 x3 x4 x5 s0 = some o → J K (wM g) 10 (QV K g (wM g) o) 24 [(0, .ref (g.1 0)), (1, .int x1), (2, .int x2), (3, .int x3), (4, .int x4), (5, .int x5)] [] s0) {k43 : Int32 → Int32 → Int32 → Int32 → Int32 → Int32 → St → Option (Int32 × St)} (hk43 : ∀ (x1 : Int32) (x2 : Int32) (x3 : Int32) (x4 : Int32) (x5 : Int32) (x6 : Int32) (s0 : St), k43 x1 x2 x3 x4 x5 x6 s0 = some o → J K (wM g) 10 (QV K g (wM g) o) 43 [(0, .ref (g.1 0)), (1, .int x1), (2, .int x2), (3, .int x3), (4, .int x4), (5, .int x5), (6, .int x6)] [] s0) {k55 : Int32 → Int32 → Int32 → Int32 → Int32 → Int32 → Int32 → St → Option (Int32 × St)} (hk55 : ∀ (x1 : Int32) (x2 : Int32) (x3 : Int32) (x4 : Int32) (x5 : Int32) (x6 : Int32) (x7 : Int32) (s0 : St), k55 x1 x2 x3 x4 x5 x6 x7 s0 = some o → J K (wM g) 10 (QV K g (wM g) o) 55 [(0, .ref (g.1 0)), (1, .int x1), (2, .int x2), (3, .int x3), (4, .int x4), (5, .int x5), (6, .int x6), (7, .int x7)] [] s0) : ∀ (x1 : Int32) (x2 : Int32) (x3 : Int32) (x4 : Int32) (x5 : Int32) (x6 : Int32) (x7 : Int32) (x8 : Int32) (s0 : St), X7_fill_l103 N k24 k43 k55 x1 x2 x3 x4 x5 x6 x7 x8 s0 = some o → J K (wM g) 10 (QV K g (wM g) o) 103 [(0, .ref (g.1 0)), (1, .int x1), (2, .int x2), (3, .int x3), (4, .int x4), (5, .int x5), (6, .int x6), (7, .int x7), (8, .int x8)] [] s0 := by
  intro x1 x2 x3 x4 x5 x6 x7 x8 s0 h
  unfold X7_fill_l103 at h
  refine j_iload_n hC dX7_fill_103 rfl 1 rfl ?_
  refine j_aload_n hC dX7_fill_104 rfl 0 rfl ?_
  refine get_X7_93 hC dX7_fill_105 ?_
  refine j_iload hC dX7_fill_108 6 rfl ?_
  refine ald_X7_taken hC dX7_fill_110 h ?_
  intro v1 h
  refine j_iadd hC dX7_fill_111 ?_
  refine j_aload_n hC dX7_fill_112 rfl 0 rfl ?_
  refine j_pc (n2 := 113) rfl ?_
  refine get_X7_83 hC dX7_fill_113 ?_
  refine j_iload hC dX7_fill_116 7 rfl ?_
  refine ald_X7_soonest hC dX7_fill_118 h ?_
  intro v2 h
  refine j_icmp_lt (tgt := 258) hC dX7_fill_119 (by decide) h ?_ ?_
  · intro h
    refine j_sub [0, 1, 2, 3, 4, 5, 6, 7] rfl ?_
    exact X7_fill_l258_ok hC hk24 hk43 hk55 x1 x2 x3 x4 x5 x6 x7 s0 h
  · intro h
    refine j_aload_n hC dX7_fill_122 rfl 0 rfl ?_
    refine j_iload hC dX7_fill_123 6 rfl ?_
    refine j_iload hC dX7_fill_125 5 rfl ?_
    refine j_iload_n hC dX7_fill_127 rfl 1 rfl ?_
    refine j_iload hC dX7_fill_128 7 rfl ?_
    refine j_iload_n hC dX7_fill_130 rfl 1 rfl ?_
    refine j_aload_n hC dX7_fill_131 rfl 0 rfl ?_
    refine j_pc (n2 := 132) rfl ?_
    refine get_X7_93 hC dX7_fill_132 ?_
    refine j_iload hC dX7_fill_135 6 rfl ?_
    refine ald_X7_taken hC dX7_fill_137 h ?_
    intro v3 h
    refine j_iadd hC dX7_fill_138 ?_
    obtain ⟨v4, s1, hc, h⟩ := cal_some h
    refine call_X7_252 hC (fun l D => X7_fits_ok l D g hc) (by decide) (Nat.le_of_ble_eq_true rfl) dX7_fill_139 ?_
    refine j_if_ne (tgt := 148) hC dX7_fill_142 (by decide) h ?_ ?_
    · intro h
      refine j_aload_n hC dX7_fill_148 rfl 0 rfl ?_
      refine j_iload hC dX7_fill_149 6 rfl ?_
      refine j_iload hC dX7_fill_151 5 rfl ?_
      refine j_iload hC dX7_fill_153 7 rfl ?_
      refine j_iload_n hC dX7_fill_155 rfl 2 rfl ?_
      refine j_iload hC dX7_fill_156 8 rfl ?_
      refine j_iload hC dX7_fill_158 4 rfl ?_
      refine j_pc (n2 := 160) rfl ?_
      obtain ⟨v5, s2, hc, h⟩ := cal_some h
      refine call_X7_256 hC (fun l D => X7_judge_ok l D g hc) (by decide) (Nat.le_of_ble_eq_true rfl) dX7_fill_160 ?_
      refine j_iload hC dX7_fill_163 5 rfl ?_
      refine j_iconst (v := 1) hC dX7_fill_165 (by decide) ?_
      refine j_iadd hC dX7_fill_166 ?_
      refine j_aload_n hC dX7_fill_167 rfl 0 rfl ?_
      refine get_X7_13 hC dX7_fill_168 ?_
      refine j_iconst (v := 4) hC dX7_fill_171 (by decide) ?_
      refine ald_X7_rule hC dX7_fill_172 h ?_
      intro v6 h
      refine j_pc (n2 := 173) rfl ?_
      refine j_icmp_ne (tgt := 179) hC dX7_fill_173 (by decide) h ?_ ?_
      · intro h
        refine j_iconst (v := 0) hC dX7_fill_179 (by decide) ?_
        refine j_istore hC dX7_fill_180 (by decide) rfl ?_
        refine j_sub [1, 2, 3, 4, 5, 6, 7, 8, 9, 0] rfl ?_
        exact X7_fill_l182_ok hC hk24 hk43 hk55 N x1 x2 x3 x4 x5 x6 x7 x8 0 s2 h
      · intro h
        refine j_goto (tgt := 258) hC dX7_fill_176 (by decide) ?_
        refine j_sub [0, 1, 2, 3, 4, 5, 6, 7] rfl ?_
        exact X7_fill_l258_ok hC hk24 hk43 hk55 x1 x2 x3 x4 x5 x6 x7 s2 h
    · intro h
      refine j_goto (tgt := 258) hC dX7_fill_145 (by decide) ?_
      refine j_sub [0, 1, 2, 3, 4, 5, 6, 7] rfl ?_
      exact X7_fill_l258_ok hC hk24 hk43 hk55 x1 x2 x3 x4 x5 x6 x7 s1 h
set_option maxRecDepth 20000 in
def X7_fill_l55 (N : Nat) (k24 : Int32 → Int32 → Int32 → Int32 → Int32 → St → Option (Int32 × St)) (k43 : Int32 → Int32 → Int32 → Int32 → Int32 → Int32 → St → Option (Int32 × St)) : Nat → Int32 → Int32 → Int32 → Int32 → Int32 → Int32 → Int32 → St → Option (Int32 × St)
  | 0 => fun _ _ _ _ _ _ _ _ => none
  | n + 1 => fun x1 x2 x3 x4 x5 x6 x7 s0 =>
  if gi s0 12 ≤ x7 then
  bnd (x6 + 1) fun v1 =>
    k43 x1 x2 x3 x4 x5 v1 s0
  else
  ald s0 27 13824 x6 fun v2 =>
    ald s0 10 24 x7 fun v3 =>
    bnd (v2 + v3) fun v4 =>
    if x2 < v4 then
    X7_fill_l258 N k24 k43 (X7_fill_l55 N k24 k43 n) x1 x2 x3 x4 x5 x6 x7 s0
    else
    if x3 = (-1) then
      X7_fill_l103 N k24 k43 (X7_fill_l55 N k24 k43 n) x1 x2 x3 x4 x5 x6 x7 v4 s0
      else
      ald s0 13 24 x7 fun v5 =>
        if v5 = x3 then
        X7_fill_l103 N k24 k43 (X7_fill_l55 N k24 k43 n) x1 x2 x3 x4 x5 x6 x7 v4 s0
        else
        X7_fill_l258 N k24 k43 (X7_fill_l55 N k24 k43 n) x1 x2 x3 x4 x5 x6 x7 s0
set_option maxRecDepth 20000 in
theorem X7_fill_l55_ok {K : Kx} {g : Gm} {N : Nat} {o : Int32 × St} (hC : Ok K cX7_fill RX7 g 10 2 none) {k24 : Int32 → Int32 → Int32 → Int32 → Int32 → St → Option (Int32 × St)} (hk24 : ∀ (x1 : Int32) (x2 : Int32) (x3 : Int32) (x4 : Int32) (x5 : Int32) (s0 : St), k24 x1 x2 x3 x4 x5 s0 = some o → J K (wM g) 10 (QV K g (wM g) o) 24 [(0, .ref (g.1 0)), (1, .int x1), (2, .int x2), (3, .int x3), (4, .int x4), (5, .int x5)] [] s0) {k43 : Int32 → Int32 → Int32 → Int32 → Int32 → Int32 → St → Option (Int32 × St)} (hk43 : ∀ (x1 : Int32) (x2 : Int32) (x3 : Int32) (x4 : Int32) (x5 : Int32) (x6 : Int32) (s0 : St), k43 x1 x2 x3 x4 x5 x6 s0 = some o → J K (wM g) 10 (QV K g (wM g) o) 43 [(0, .ref (g.1 0)), (1, .int x1), (2, .int x2), (3, .int x3), (4, .int x4), (5, .int x5), (6, .int x6)] [] s0) : ∀ (n : Nat) (x1 : Int32) (x2 : Int32) (x3 : Int32) (x4 : Int32) (x5 : Int32) (x6 : Int32) (x7 : Int32) (s0 : St), X7_fill_l55 N k24 k43 n x1 x2 x3 x4 x5 x6 x7 s0 = some o → J K (wM g) 10 (QV K g (wM g) o) 55 [(0, .ref (g.1 0)), (1, .int x1), (2, .int x2), (3, .int x3), (4, .int x4), (5, .int x5), (6, .int x6), (7, .int x7)] [] s0 := by
  intro n
  induction n with
  | zero => intro x1 x2 x3 x4 x5 x6 x7 s0 h; cases h
  | succ n ih =>
    intro x1 x2 x3 x4 x5 x6 x7 s0 h
    rw [X7_fill_l55] at h
    refine j_iload hC dX7_fill_55 7 rfl ?_
    refine j_aload_n hC dX7_fill_57 rfl 0 rfl ?_
    refine get_X7_205 hC dX7_fill_58 ?_
    refine j_icmp_ge (tgt := 264) hC dX7_fill_61 (by decide) h ?_ ?_
    · intro h
      refine j_iincb (n2 := 1) (k0 := 6) (lv2 := fun z => [(6, .int z), (0, .ref (g.1 0)), (1, .int x1), (2, .int x2), (3, .int x3), (4, .int x4), (5, .int x5), (7, .int x7)]) hC dX7_fill_264 rfl (by decide) (by decide) (fun _ => rfl) h (fun v1 h => ?_)
      refine j_goto (tgt := 43) hC dX7_fill_267 (by decide) ?_
      refine j_sub [1, 2, 3, 4, 5, 6, 0] rfl ?_
      exact hk43 x1 x2 x3 x4 x5 v1 s0 h
    · intro h
      refine j_aload_n hC dX7_fill_64 rfl 0 rfl ?_
      refine get_X7_93 hC dX7_fill_65 ?_
      refine j_iload hC dX7_fill_68 6 rfl ?_
      refine ald_X7_taken hC dX7_fill_70 h ?_
      intro v2 h
      refine j_aload_n hC dX7_fill_71 rfl 0 rfl ?_
      refine get_X7_40 hC dX7_fill_72 ?_
      refine j_iload hC dX7_fill_75 7 rfl ?_
      refine j_pc (n2 := 77) rfl ?_
      refine ald_X7_lasts hC dX7_fill_77 h ?_
      intro v3 h
      refine j_iadd hC dX7_fill_78 ?_
      refine j_bi (E := v2 + v3) h (fun v4 h => ?_)
      refine j_istore hC dX7_fill_79 (by decide) rfl ?_
      refine j_iload hC dX7_fill_81 0 rfl ?_
      refine j_iload_n hC dX7_fill_83 rfl 3 rfl ?_
      refine j_icmp_gt (tgt := 258) hC dX7_fill_84 (by decide) h ?_ ?_
      · intro h
        refine j_sub [1, 2, 3, 4, 5, 6, 7, 8] rfl ?_
        exact X7_fill_l258_ok hC hk24 hk43 ih x1 x2 x3 x4 x5 x6 x7 s0 h
      · intro h
        refine j_iload_n hC dX7_fill_87 rfl 4 rfl ?_
        refine j_iconst (v := (-1)) hC dX7_fill_88 (by decide) ?_
        refine j_icmp_eq (tgt := 103) hC dX7_fill_89 (by decide) h ?_ ?_
        · intro h
          refine j_sub [1, 2, 3, 4, 5, 6, 7, 8, 0] rfl ?_
          exact X7_fill_l103_ok hC hk24 hk43 ih x1 x2 x3 x4 x5 x6 x7 v4 s0 h
        · intro h
          refine j_aload_n hC dX7_fill_92 rfl 1 rfl ?_
          refine get_X7_49 hC dX7_fill_93 ?_
          refine j_iload hC dX7_fill_96 8 rfl ?_
          refine ald_X7_songMood hC dX7_fill_98 h ?_
          intro v5 h
          refine j_iload_n hC dX7_fill_99 rfl 4 rfl ?_
          refine j_icmp_ne (tgt := 258) hC dX7_fill_100 (by decide) h ?_ ?_
          · intro h
            refine j_sub [1, 2, 3, 4, 5, 6, 7, 8] rfl ?_
            exact X7_fill_l258_ok hC hk24 hk43 ih x1 x2 x3 x4 x5 x6 x7 s0 h
          · intro h
            refine j_sub [1, 2, 3, 4, 5, 6, 7, 8, 0] rfl ?_
            exact X7_fill_l103_ok hC hk24 hk43 ih x1 x2 x3 x4 x5 x6 x7 v4 s0 h
set_option maxRecDepth 20000 in
def X7_fill_l43 (N : Nat) (k24 : Int32 → Int32 → Int32 → Int32 → Int32 → St → Option (Int32 × St)) : Nat → Int32 → Int32 → Int32 → Int32 → Int32 → Int32 → St → Option (Int32 × St)
  | 0 => fun _ _ _ _ _ _ _ => none
  | n + 1 => fun x1 x2 x3 x4 x5 x6 s0 =>
  if gi s0 17 ≤ x6 then
  bnd (si s0 17 (gi s0 18)) fun s1 =>
    X7_fill_l281 N k24 N x1 x2 x3 x4 x5 0 s1
  else
  X7_fill_l55 N k24 (X7_fill_l43 N k24 n) N x1 x2 x3 x4 x5 x6 0 s0
set_option maxRecDepth 20000 in
theorem X7_fill_l43_ok {K : Kx} {g : Gm} {N : Nat} {o : Int32 × St} (hC : Ok K cX7_fill RX7 g 10 2 none) {k24 : Int32 → Int32 → Int32 → Int32 → Int32 → St → Option (Int32 × St)} (hk24 : ∀ (x1 : Int32) (x2 : Int32) (x3 : Int32) (x4 : Int32) (x5 : Int32) (s0 : St), k24 x1 x2 x3 x4 x5 s0 = some o → J K (wM g) 10 (QV K g (wM g) o) 24 [(0, .ref (g.1 0)), (1, .int x1), (2, .int x2), (3, .int x3), (4, .int x4), (5, .int x5)] [] s0) : ∀ (n : Nat) (x1 : Int32) (x2 : Int32) (x3 : Int32) (x4 : Int32) (x5 : Int32) (x6 : Int32) (s0 : St), X7_fill_l43 N k24 n x1 x2 x3 x4 x5 x6 s0 = some o → J K (wM g) 10 (QV K g (wM g) o) 43 [(0, .ref (g.1 0)), (1, .int x1), (2, .int x2), (3, .int x3), (4, .int x4), (5, .int x5), (6, .int x6)] [] s0 := by
  intro n
  induction n with
  | zero => intro x1 x2 x3 x4 x5 x6 s0 h; cases h
  | succ n ih =>
    intro x1 x2 x3 x4 x5 x6 s0 h
    rw [X7_fill_l43] at h
    refine j_iload hC dX7_fill_43 6 rfl ?_
    refine j_aload_n hC dX7_fill_45 rfl 0 rfl ?_
    refine get_X7_246 hC dX7_fill_46 ?_
    refine j_icmp_ge (tgt := 270) hC dX7_fill_49 (by decide) h ?_ ?_
    · intro h
      refine j_aload_n hC dX7_fill_270 rfl 0 rfl ?_
      refine j_aload_n hC dX7_fill_271 rfl 0 rfl ?_
      refine get_X7_249 hC dX7_fill_272 ?_
      refine put_X7_246 hC dX7_fill_275 h ?_
      intro s1 h
      refine j_iconst (v := 0) hC dX7_fill_278 (by decide) ?_
      refine j_istore hC dX7_fill_279 (by decide) rfl ?_
      refine j_sub [1, 2, 3, 4, 5, 6, 0] rfl ?_
      exact X7_fill_l281_ok hC hk24 N x1 x2 x3 x4 x5 0 s1 h
    · intro h
      refine j_iconst (v := 0) hC dX7_fill_52 (by decide) ?_
      refine j_istore hC dX7_fill_53 (by decide) rfl ?_
      refine j_sub [1, 2, 3, 4, 5, 6, 7, 0] rfl ?_
      exact X7_fill_l55_ok hC hk24 ih N x1 x2 x3 x4 x5 x6 0 s0 h
set_option maxRecDepth 20000 in
def X7_fill_l24 (N : Nat) : Nat → Int32 → Int32 → Int32 → Int32 → Int32 → St → Option (Int32 × St)
  | 0 => fun _ _ _ _ _ _ => none
  | n + 1 => fun x1 x2 x3 x4 x5 s0 =>
  ald s0 1 5 4 fun v1 =>
  if v1 ≤ x5 then
  some (0, s0)
  else
  bnd (si s0 18 0) fun s1 =>
    X7_fill_l43 N (X7_fill_l24 N n) N x1 x2 x3 x4 x5 0 s1
set_option maxRecDepth 20000 in
theorem X7_fill_l24_ok {K : Kx} {g : Gm} {N : Nat} {o : Int32 × St} (hC : Ok K cX7_fill RX7 g 10 2 none) : ∀ (n : Nat) (x1 : Int32) (x2 : Int32) (x3 : Int32) (x4 : Int32) (x5 : Int32) (s0 : St), X7_fill_l24 N n x1 x2 x3 x4 x5 s0 = some o → J K (wM g) 10 (QV K g (wM g) o) 24 [(0, .ref (g.1 0)), (1, .int x1), (2, .int x2), (3, .int x3), (4, .int x4), (5, .int x5)] [] s0 := by
  intro n
  induction n with
  | zero => intro x1 x2 x3 x4 x5 s0 h; cases h
  | succ n ih =>
    intro x1 x2 x3 x4 x5 s0 h
    rw [X7_fill_l24] at h
    refine j_iload hC dX7_fill_24 5 rfl ?_
    refine j_aload_n hC dX7_fill_26 rfl 0 rfl ?_
    refine get_X7_13 hC dX7_fill_27 ?_
    refine j_iconst (v := 4) hC dX7_fill_30 (by decide) ?_
    refine ald_X7_rule hC dX7_fill_31 h ?_
    intro v1 h
    refine j_icmp_ge (tgt := 350) hC dX7_fill_32 (by decide) h ?_ ?_
    · intro h
      exact j_vret (v := 0) hC dX7_fill_350 h
    · intro h
      refine j_aload_n hC dX7_fill_35 rfl 0 rfl ?_
      refine j_iconst (v := 0) hC dX7_fill_36 (by decide) ?_
      refine put_X7_249 hC dX7_fill_37 h ?_
      intro s1 h
      refine j_iconst (v := 0) hC dX7_fill_40 (by decide) ?_
      refine j_istore hC dX7_fill_41 (by decide) rfl ?_
      refine j_sub [1, 2, 3, 4, 5, 6, 0] rfl ?_
      exact X7_fill_l43_ok hC ih N x1 x2 x3 x4 x5 0 s1 h
set_option maxRecDepth 20000 in
def X7_fill_f (N : Nat) (x1 : Int32) (x2 : Int32) (x3 : Int32) (x4 : Int32) (s0 : St) : Option (Int32 × St) :=
  cal (X7_ask0_f N  s0) fun _ s1 =>
  bnd (si s1 19 0) fun s2 =>
  bnd (si s2 17 1) fun s3 =>
  ast s3 27 13824 0 0 fun s4 =>
  X7_fill_l24 N N x1 x2 x3 x4 0 s4
set_option maxRecDepth 20000 in
theorem X7_fill_ok (l : Launch) (D : va_G) (g : Gm) {N : Nat} {x1 : Int32} {x2 : Int32} {x3 : Int32} {x4 : Int32} {s0 : St} {o : Int32 × St} (h : X7_fill_f N x1 x2 x3 x4 s0 = some o) : MV l yX7_fill cX7_fill 10 none 2 D g (wM g) [.ref (g.1 0), .int x1, .int x2, .int x3, .int x4] s0 o := by
  refine met_V (own := RX7) (by decide) rfl (Nat.le_of_ble_eq_true rfl) (fun K hC => ?_)
  show J K (wM g) 10 (QV K g (wM g) o) 0 [(0, .ref (g.1 0)), (1, .int x1), (2, .int x2), (3, .int x3), (4, .int x4)] [] s0
  unfold X7_fill_f at h
  refine j_aload_n hC dX7_fill_0 rfl 0 rfl ?_
  obtain ⟨v1, s1, hc, h⟩ := cal_some h
  refine call_X7_243 hC (fun l D => X7_ask0_ok l D g hc) (by decide) (Nat.le_of_ble_eq_true rfl) dX7_fill_1 ?_
  refine j_aload_n hC dX7_fill_4 rfl 0 rfl ?_
  refine j_iconst (v := 0) hC dX7_fill_5 (by decide) ?_
  refine put_X7_225 hC dX7_fill_6 h ?_
  intro s2 h
  refine j_aload_n hC dX7_fill_9 rfl 0 rfl ?_
  refine j_iconst (v := 1) hC dX7_fill_10 (by decide) ?_
  refine j_pc (n2 := 11) rfl ?_
  refine put_X7_246 hC dX7_fill_11 h ?_
  intro s3 h
  refine j_aload_n hC dX7_fill_14 rfl 0 rfl ?_
  refine get_X7_93 hC dX7_fill_15 ?_
  refine j_iconst (v := 0) hC dX7_fill_18 (by decide) ?_
  refine j_iconst (v := 0) hC dX7_fill_19 (by decide) ?_
  refine ast_X7_taken hC dX7_fill_20 h ?_
  intro s4 h
  refine j_iconst (v := 0) hC dX7_fill_21 (by decide) ?_
  refine j_istore hC dX7_fill_22 (by decide) rfl ?_
  refine j_sub [1, 2, 3, 4, 5, 0] rfl ?_
  exact X7_fill_l24_ok hC N x1 x2 x3 x4 0 s4 h
set_option maxRecDepth 20000 in
def X7_layStretch_l201 (N : Nat) (s0 : St) : Option (Int32 × St) :=
  if gi s0 19 ≤ 0 then
  some (0, s0)
  else
  some (1, s0)
set_option maxRecDepth 20000 in
theorem X7_layStretch_l201_ok {K : Kx} {g : Gm} {N : Nat} {o : Int32 × St} (hC : Ok K cX7_layStretch RX7 g 7 3 (some .boolean)) : ∀ (s0 : St), X7_layStretch_l201 N  s0 = some o → J K (wM g) 7 (QI K g (wM g) o) 201 [(0, .ref (g.1 0))] [] s0 := by
  intro  s0 h
  unfold X7_layStretch_l201 at h
  refine j_aload_n hC dX7_layStretch_201 rfl 0 rfl ?_
  refine get_X7_225 hC dX7_layStretch_202 ?_
  refine j_if_le (tgt := 212) hC dX7_layStretch_205 (by decide) h ?_ ?_
  · intro h
    refine j_iconst (v := 0) hC dX7_layStretch_212 (by decide) ?_
    exact j_iret hC dX7_layStretch_213 rfl h
  · intro h
    refine j_iconst (v := 1) hC dX7_layStretch_208 (by decide) ?_
    refine j_goto (tgt := 213) hC dX7_layStretch_209 (by decide) ?_
    exact j_iret hC dX7_layStretch_213 rfl h
set_option maxRecDepth 20000 in
def X7_layStretch_l133 (N : Nat) (k29 : Int32 → Int32 → Int32 → Int32 → Int32 → St → Option (Int32 × St)) (x1 : Int32) (x2 : Int32) (x3 : Int32) (x4 : Int32) (x5 : Int32) (s0 : St) : Option (Int32 × St) :=
  bnd (x5 + 1) fun v1 =>
  k29 x1 x2 x3 x4 v1 s0
set_option maxRecDepth 20000 in
theorem X7_layStretch_l133_ok {K : Kx} {g : Gm} {N : Nat} {o : Int32 × St} (hC : Ok K cX7_layStretch RX7 g 7 3 (some .boolean)) {k29 : Int32 → Int32 → Int32 → Int32 → Int32 → St → Option (Int32 × St)} (hk29 : ∀ (x1 : Int32) (x2 : Int32) (x3 : Int32) (x4 : Int32) (x5 : Int32) (s0 : St), k29 x1 x2 x3 x4 x5 s0 = some o → J K (wM g) 7 (QI K g (wM g) o) 29 [(0, .ref (g.1 0)), (1, .int x1), (2, .int x2), (3, .int x3), (4, .int x4), (5, .int x5)] [] s0) : ∀ (x1 : Int32) (x2 : Int32) (x3 : Int32) (x4 : Int32) (x5 : Int32) (s0 : St), X7_layStretch_l133 N k29 x1 x2 x3 x4 x5 s0 = some o → J K (wM g) 7 (QI K g (wM g) o) 133 [(0, .ref (g.1 0)), (1, .int x1), (2, .int x2), (3, .int x3), (4, .int x4), (5, .int x5)] [] s0 := by
  intro x1 x2 x3 x4 x5 s0 h
  unfold X7_layStretch_l133 at h
  refine j_iincb (n2 := 1) (k0 := 5) (lv2 := fun z => [(5, .int z), (0, .ref (g.1 0)), (1, .int x1), (2, .int x2), (3, .int x3), (4, .int x4)]) hC dX7_layStretch_133 rfl (by decide) (by decide) (fun _ => rfl) h (fun v1 h => ?_)
  refine j_goto (tgt := 29) hC dX7_layStretch_136 (by decide) ?_
  refine j_sub [1, 2, 3, 4, 5, 0] rfl ?_
  exact hk29 x1 x2 x3 x4 v1 s0 h
set_option maxRecDepth 20000 in
def X7_layStretch_l29 (N : Nat) : Nat → Int32 → Int32 → Int32 → Int32 → Int32 → St → Option (Int32 × St)
  | 0 => fun _ _ _ _ _ _ => none
  | n + 1 => fun x1 x2 x3 x4 x5 s0 =>
  if gi s0 19 ≤ x5 then
  ald s0 7 56 x1 fun v1 =>
    ast s0 23 1344 (((8 : Int32) * (gi s0 14)) + x2) ((v1 - x4) + x3) fun s1 =>
    ald s1 7 56 x1 fun v2 =>
    bnd (si s1 16 ((gi s1 16) + ((v2 - x4) + x3))) fun s2 =>
    if gi s2 19 = 0 then
    bnd (si s2 15 ((gi s2 15) + 1)) fun s3 =>
      X7_layStretch_l201 N s3
    else
    X7_layStretch_l201 N s2
  else
  ald s0 29 4 x5 fun v3 =>
    ast s0 20 300 (gi s0 13) v3 fun s4 =>
    ast s4 21 300 (gi s4 13) x4 fun s5 =>
    ast s5 22 300 (gi s5 13) x2 fun s6 =>
    bnd (si s6 13 ((gi s6 13) + 1)) fun s7 =>
    ald s7 10 24 v3 fun v4 =>
    bnd (x4 + v4) fun v5 =>
    ald s7 15 24 v3 fun v6 =>
    if v6 ≤ 0 then
    X7_layStretch_l133 N (X7_layStretch_l29 N n) x1 x2 x3 v5 x5 s7
    else
    ald s7 15 24 v3 fun v7 =>
      ast s7 15 24 v3 (v7 - 1) fun s8 =>
      ald s8 16 24 v3 fun v8 =>
      ast s8 16 24 v3 (v8 + 1) fun s9 =>
      X7_layStretch_l133 N (X7_layStretch_l29 N n) x1 x2 x3 v5 x5 s9
set_option maxRecDepth 20000 in
theorem X7_layStretch_l29_ok {K : Kx} {g : Gm} {N : Nat} {o : Int32 × St} (hC : Ok K cX7_layStretch RX7 g 7 3 (some .boolean)) : ∀ (n : Nat) (x1 : Int32) (x2 : Int32) (x3 : Int32) (x4 : Int32) (x5 : Int32) (s0 : St), X7_layStretch_l29 N n x1 x2 x3 x4 x5 s0 = some o → J K (wM g) 7 (QI K g (wM g) o) 29 [(0, .ref (g.1 0)), (1, .int x1), (2, .int x2), (3, .int x3), (4, .int x4), (5, .int x5)] [] s0 := by
  intro n
  induction n with
  | zero => intro x1 x2 x3 x4 x5 s0 h; cases h
  | succ n ih =>
    intro x1 x2 x3 x4 x5 s0 h
    rw [X7_layStretch_l29] at h
    refine j_iload hC dX7_layStretch_29 5 rfl ?_
    refine j_aload_n hC dX7_layStretch_31 rfl 0 rfl ?_
    refine get_X7_225 hC dX7_layStretch_32 ?_
    refine j_icmp_ge (tgt := 139) hC dX7_layStretch_35 (by decide) h ?_ ?_
    · intro h
      refine j_aload_n hC dX7_layStretch_139 rfl 0 rfl ?_
      refine get_X7_80 hC dX7_layStretch_140 ?_
      refine j_bipush (v := 8) hC dX7_layStretch_143 (by decide) ?_
      refine j_aload_n hC dX7_layStretch_145 rfl 0 rfl ?_
      refine get_X7_264 hC dX7_layStretch_146 ?_
      refine j_imul hC dX7_layStretch_149 ?_
      refine j_iload_n hC dX7_layStretch_150 rfl 2 rfl ?_
      refine j_pc (n2 := 151) rfl ?_
      refine j_iadd hC dX7_layStretch_151 ?_
      refine j_aload_n hC dX7_layStretch_152 rfl 0 rfl ?_
      refine get_X7_31 hC dX7_layStretch_153 ?_
      refine j_iload_n hC dX7_layStretch_156 rfl 1 rfl ?_
      refine ald_X7_seconds hC dX7_layStretch_157 h ?_
      intro v1 h
      refine j_iload hC dX7_layStretch_158 4 rfl ?_
      refine j_isub hC dX7_layStretch_160 ?_
      refine j_iload_n hC dX7_layStretch_161 rfl 3 rfl ?_
      refine j_pc (n2 := 162) rfl ?_
      refine j_iadd hC dX7_layStretch_162 ?_
      refine ast_X7_left hC dX7_layStretch_163 h ?_
      intro s1 h
      refine j_aload_n hC dX7_layStretch_164 rfl 0 rfl ?_
      refine j_dup hC rfl dX7_layStretch_165 ?_
      refine get_X7_267 hC dX7_layStretch_166 ?_
      refine j_aload_n hC dX7_layStretch_169 rfl 0 rfl ?_
      refine get_X7_31 hC dX7_layStretch_170 ?_
      refine j_iload_n hC dX7_layStretch_173 rfl 1 rfl ?_
      refine j_pc (n2 := 174) rfl ?_
      refine ald_X7_seconds hC dX7_layStretch_174 h ?_
      intro v2 h
      refine j_iload hC dX7_layStretch_175 4 rfl ?_
      refine j_isub hC dX7_layStretch_177 ?_
      refine j_iload_n hC dX7_layStretch_178 rfl 3 rfl ?_
      refine j_iadd hC dX7_layStretch_179 ?_
      refine j_iadd hC dX7_layStretch_180 ?_
      refine put_X7_267 hC dX7_layStretch_181 h ?_
      intro s2 h
      refine j_aload_n hC dX7_layStretch_184 rfl 0 rfl ?_
      refine j_pc (n2 := 185) rfl ?_
      refine get_X7_225 hC dX7_layStretch_185 ?_
      refine j_if_ne (tgt := 201) hC dX7_layStretch_188 (by decide) h ?_ ?_
      · intro h
        refine j_sub [0] rfl ?_
        exact X7_layStretch_l201_ok hC s2 h
      · intro h
        refine j_aload_n hC dX7_layStretch_191 rfl 0 rfl ?_
        refine j_dup hC rfl dX7_layStretch_192 ?_
        refine get_X7_270 hC dX7_layStretch_193 ?_
        refine j_iconst (v := 1) hC dX7_layStretch_196 (by decide) ?_
        refine j_iadd hC dX7_layStretch_197 ?_
        refine put_X7_270 hC dX7_layStretch_198 h ?_
        intro s3 h
        refine j_sub [0] rfl ?_
        exact X7_layStretch_l201_ok hC s3 h
    · intro h
      refine j_aload_n hC dX7_layStretch_38 rfl 0 rfl ?_
      refine get_X7_99 hC dX7_layStretch_39 ?_
      refine j_iload hC dX7_layStretch_42 5 rfl ?_
      refine ald_X7_best hC dX7_layStretch_44 h ?_
      intro v3 h
      refine j_istore hC dX7_layStretch_45 (by decide) rfl ?_
      refine j_aload_n hC dX7_layStretch_47 rfl 1 rfl ?_
      refine get_X7_71 hC dX7_layStretch_48 ?_
      refine j_pc (n2 := 51) rfl ?_
      refine j_aload_n hC dX7_layStretch_51 rfl 1 rfl ?_
      refine get_X7_218 hC dX7_layStretch_52 ?_
      refine j_iload hC dX7_layStretch_55 0 rfl ?_
      refine ast_X7_played hC dX7_layStretch_57 h ?_
      intro s4 h
      refine j_aload_n hC dX7_layStretch_58 rfl 1 rfl ?_
      refine get_X7_74 hC dX7_layStretch_59 ?_
      refine j_aload_n hC dX7_layStretch_62 rfl 1 rfl ?_
      refine get_X7_218 hC dX7_layStretch_63 ?_
      refine j_pc (n2 := 66) rfl ?_
      refine j_iload hC dX7_layStretch_66 5 rfl ?_
      refine ast_X7_began hC dX7_layStretch_68 h ?_
      intro s5 h
      refine j_aload_n hC dX7_layStretch_69 rfl 1 rfl ?_
      refine get_X7_77 hC dX7_layStretch_70 ?_
      refine j_aload_n hC dX7_layStretch_73 rfl 1 rfl ?_
      refine get_X7_218 hC dX7_layStretch_74 ?_
      refine j_iload_n hC dX7_layStretch_77 rfl 3 rfl ?_
      refine ast_X7_inItem hC dX7_layStretch_78 h ?_
      intro s6 h
      refine j_pc (n2 := 79) rfl ?_
      refine j_aload_n hC dX7_layStretch_79 rfl 1 rfl ?_
      refine j_dup hC rfl dX7_layStretch_80 ?_
      refine get_X7_218 hC dX7_layStretch_81 ?_
      refine j_iconst (v := 1) hC dX7_layStretch_84 (by decide) ?_
      refine j_iadd hC dX7_layStretch_85 ?_
      refine put_X7_218 hC dX7_layStretch_86 h ?_
      intro s7 h
      refine j_iload hC dX7_layStretch_89 5 rfl ?_
      refine j_aload_n hC dX7_layStretch_91 rfl 1 rfl ?_
      refine j_pc (n2 := 92) rfl ?_
      refine get_X7_40 hC dX7_layStretch_92 ?_
      refine j_iload hC dX7_layStretch_95 0 rfl ?_
      refine ald_X7_lasts hC dX7_layStretch_97 h ?_
      intro v4 h
      refine j_iadd hC dX7_layStretch_98 ?_
      refine j_bi (E := x4 + v4) h (fun v5 h => ?_)
      refine j_istore hC dX7_layStretch_99 (by decide) rfl ?_
      refine j_aload_n hC dX7_layStretch_101 rfl 2 rfl ?_
      refine get_X7_55 hC dX7_layStretch_102 ?_
      refine j_iload hC dX7_layStretch_105 1 rfl ?_
      refine j_pc (n2 := 107) rfl ?_
      refine ald_X7_open hC dX7_layStretch_107 h ?_
      intro v6 h
      refine j_if_le (tgt := 133) hC dX7_layStretch_108 (by decide) h ?_ ?_
      · intro h
        refine j_sub [2, 3, 4, 5, 0, 6] rfl ?_
        exact X7_layStretch_l133_ok hC ih x1 x2 x3 v5 x5 s7 h
      · intro h
        refine j_aload_n hC dX7_layStretch_111 rfl 2 rfl ?_
        refine get_X7_55 hC dX7_layStretch_112 ?_
        refine j_iload hC dX7_layStretch_115 1 rfl ?_
        refine j_dup2 hC rfl rfl dX7_layStretch_117 ?_
        refine ald_X7_open hC dX7_layStretch_118 h ?_
        intro v7 h
        refine j_iconst (v := 1) hC dX7_layStretch_119 (by decide) ?_
        refine j_isub hC dX7_layStretch_120 ?_
        refine j_pc (n2 := 121) rfl ?_
        refine ast_X7_open hC dX7_layStretch_121 h ?_
        intro s8 h
        refine j_aload_n hC dX7_layStretch_122 rfl 2 rfl ?_
        refine get_X7_58 hC dX7_layStretch_123 ?_
        refine j_iload hC dX7_layStretch_126 1 rfl ?_
        refine j_dup2 hC rfl rfl dX7_layStretch_128 ?_
        refine ald_X7_done hC dX7_layStretch_129 h ?_
        intro v8 h
        refine j_iconst (v := 1) hC dX7_layStretch_130 (by decide) ?_
        refine j_iadd hC dX7_layStretch_131 ?_
        refine j_pc (n2 := 132) rfl ?_
        refine ast_X7_done hC dX7_layStretch_132 h ?_
        intro s9 h
        refine j_sub [2, 3, 4, 5, 0, 6] rfl ?_
        exact X7_layStretch_l133_ok hC ih x1 x2 x3 v5 x5 s9 h
set_option maxRecDepth 20000 in
def X7_layStretch_f (N : Nat) (x1 : Int32) (x2 : Int32) (x3 : Int32) (s0 : St) : Option (Int32 × St) :=
  ald s0 7 56 x1 fun v1 =>
  ald s0 8 56 x1 fun v2 =>
  ald s0 9 56 x1 fun v3 =>
  cal (X7_fill_f N x3 v1 v2 v3 s0) fun _ s1 =>
  X7_layStretch_l29 N N x1 x2 x3 x3 0 s1
set_option maxRecDepth 20000 in
theorem X7_layStretch_ok (l : Launch) (D : va_G) (g : Gm) {N : Nat} {x1 : Int32} {x2 : Int32} {x3 : Int32} {s0 : St} {o : Int32 × St} (h : X7_layStretch_f N x1 x2 x3 s0 = some o) : MI l yX7_layStretch cX7_layStretch 7 (some .boolean) 3 D g (wM g) [.ref (g.1 0), .int x1, .int x2, .int x3] s0 o := by
  refine met_I (own := RX7) (by decide) rfl (Nat.le_of_ble_eq_true rfl) (fun K hC => ?_)
  show J K (wM g) 7 (QI K g (wM g) o) 0 [(0, .ref (g.1 0)), (1, .int x1), (2, .int x2), (3, .int x3)] [] s0
  unfold X7_layStretch_f at h
  refine j_aload_n hC dX7_layStretch_0 rfl 0 rfl ?_
  refine j_iload_n hC dX7_layStretch_1 rfl 3 rfl ?_
  refine j_aload_n hC dX7_layStretch_2 rfl 0 rfl ?_
  refine get_X7_31 hC dX7_layStretch_3 ?_
  refine j_iload_n hC dX7_layStretch_6 rfl 1 rfl ?_
  refine ald_X7_seconds hC dX7_layStretch_7 h ?_
  intro v1 h
  refine j_aload_n hC dX7_layStretch_8 rfl 0 rfl ?_
  refine j_pc (n2 := 9) rfl ?_
  refine get_X7_34 hC dX7_layStretch_9 ?_
  refine j_iload_n hC dX7_layStretch_12 rfl 1 rfl ?_
  refine ald_X7_mood hC dX7_layStretch_13 h ?_
  intro v2 h
  refine j_aload_n hC dX7_layStretch_14 rfl 0 rfl ?_
  refine get_X7_37 hC dX7_layStretch_15 ?_
  refine j_iload_n hC dX7_layStretch_18 rfl 1 rfl ?_
  refine ald_X7_fresh0 hC dX7_layStretch_19 h ?_
  intro v3 h
  obtain ⟨v4, s1, hc, h⟩ := cal_some h
  refine call_X7_260 hC (fun l D => X7_fill_ok l D g hc) (by decide) (Nat.le_of_ble_eq_true rfl) dX7_layStretch_20 ?_
  refine j_pc (n2 := 23) rfl ?_
  refine j_iload_n hC dX7_layStretch_23 rfl 3 rfl ?_
  refine j_istore hC dX7_layStretch_24 (by decide) rfl ?_
  refine j_iconst (v := 0) hC dX7_layStretch_26 (by decide) ?_
  refine j_istore hC dX7_layStretch_27 (by decide) rfl ?_
  refine j_sub [2, 3, 4, 5, 1, 0] rfl ?_
  exact X7_layStretch_l29_ok hC N x1 x2 x3 x3 0 s1 h
set_option maxRecDepth 20000 in
def X7_lay_l194 (N : Nat) (k132 : Int32 → Int32 → Int32 → Int32 → St → Option (Int32 × St)) (x1 : Int32) (x3 : Int32) (x4 : Int32) (x5 : Int32) (x6 : Int32) (s0 : St) : Option (Int32 × St) :=
  ald s0 7 56 x6 fun v1 =>
  bnd (x3 + v1) fun v2 =>
  bnd (x5 + 1) fun v3 =>
  k132 x1 v2 x4 v3 s0
set_option maxRecDepth 20000 in
theorem X7_lay_l194_ok {K : Kx} {g : Gm} {N : Nat} {o : Int32 × St} (hC : Ok K cX7_lay RX7 g 7 4 (some .int)) {k132 : Int32 → Int32 → Int32 → Int32 → St → Option (Int32 × St)} (hk132 : ∀ (x1 : Int32) (x3 : Int32) (x4 : Int32) (x5 : Int32) (s0 : St), k132 x1 x3 x4 x5 s0 = some o → J K (wM g) 7 (QI K g (wM g) o) 132 [(0, .ref (g.1 0)), (1, .int x1), (3, .int x3), (4, .int x4), (5, .int x5)] [] s0) : ∀ (x1 : Int32) (x3 : Int32) (x4 : Int32) (x5 : Int32) (x6 : Int32) (s0 : St), X7_lay_l194 N k132 x1 x3 x4 x5 x6 s0 = some o → J K (wM g) 7 (QI K g (wM g) o) 194 [(0, .ref (g.1 0)), (1, .int x1), (3, .int x3), (4, .int x4), (5, .int x5), (6, .int x6)] [] s0 := by
  intro x1 x3 x4 x5 x6 s0 h
  unfold X7_lay_l194 at h
  refine j_iload_n hC dX7_lay_194 rfl 2 rfl ?_
  refine j_aload_n hC dX7_lay_195 rfl 0 rfl ?_
  refine get_X7_31 hC dX7_lay_196 ?_
  refine j_iload hC dX7_lay_199 5 rfl ?_
  refine ald_X7_seconds hC dX7_lay_201 h ?_
  intro v1 h
  refine j_iadd hC dX7_lay_202 ?_
  refine j_bi (E := x3 + v1) h (fun v2 h => ?_)
  refine j_istore_n hC dX7_lay_203 rfl (by decide) rfl ?_
  refine j_pc (n2 := 204) rfl ?_
  refine j_iincb (n2 := 1) (k0 := 4) (lv2 := fun z => [(5, .int z), (3, .int v2), (0, .ref (g.1 0)), (1, .int x1), (4, .int x4), (6, .int x6)]) hC dX7_lay_204 rfl (by decide) (by decide) (fun _ => rfl) h (fun v3 h => ?_)
  refine j_goto (tgt := 132) hC dX7_lay_207 (by decide) ?_
  refine j_sub [2, 3, 1, 4, 0] rfl ?_
  exact hk132 x1 v2 x4 v3 s0 h
set_option maxRecDepth 20000 in
def X7_lay_l132 (N : Nat) : Nat → Int32 → Int32 → Int32 → Int32 → St → Option (Int32 × St)
  | 0 => fun _ _ _ _ _ => none
  | n + 1 => fun x1 x3 x4 x5 s0 =>
  ald s0 6 7 x1 fun v1 =>
  if v1 ≤ x5 then
  ald s0 6 7 x1 fun v2 =>
    ast s0 30 168 (gi s0 14) v2 fun s1 =>
    bnd (si s1 14 ((gi s1 14) + 1)) fun s2 =>
    some (x4, s2)
  else
  bnd (((8 : Int32) * x1) + x5) fun v3 =>
    ast s0 23 1344 (((8 : Int32) * (gi s0 14)) + x5) 0 fun s3 =>
    ald s3 9 56 v3 fun v4 =>
    if v4 = (-1) then
    X7_lay_l194 N (X7_lay_l132 N n) x1 x3 x4 x5 v3 s3
    else
    cal (X7_layStretch_f N v3 x5 x3 s3) fun v5 s4 =>
      if v5 = 0 then
      X7_lay_l194 N (X7_lay_l132 N n) x1 x3 x4 x5 v3 s4
      else
      bnd (x4 + 1) fun v6 =>
        X7_lay_l194 N (X7_lay_l132 N n) x1 x3 v6 x5 v3 s4
set_option maxRecDepth 20000 in
theorem X7_lay_l132_ok {K : Kx} {g : Gm} {N : Nat} {o : Int32 × St} (hC : Ok K cX7_lay RX7 g 7 4 (some .int)) : ∀ (n : Nat) (x1 : Int32) (x3 : Int32) (x4 : Int32) (x5 : Int32) (s0 : St), X7_lay_l132 N n x1 x3 x4 x5 s0 = some o → J K (wM g) 7 (QI K g (wM g) o) 132 [(0, .ref (g.1 0)), (1, .int x1), (3, .int x3), (4, .int x4), (5, .int x5)] [] s0 := by
  intro n
  induction n with
  | zero => intro x1 x3 x4 x5 s0 h; cases h
  | succ n ih =>
    intro x1 x3 x4 x5 s0 h
    rw [X7_lay_l132] at h
    refine j_iload hC dX7_lay_132 4 rfl ?_
    refine j_aload_n hC dX7_lay_134 rfl 0 rfl ?_
    refine get_X7_28 hC dX7_lay_135 ?_
    refine j_iload_n hC dX7_lay_138 rfl 1 rfl ?_
    refine ald_X7_many hC dX7_lay_139 h ?_
    intro v1 h
    refine j_icmp_ge (tgt := 210) hC dX7_lay_140 (by decide) h ?_ ?_
    · intro h
      refine j_aload_n hC dX7_lay_210 rfl 0 rfl ?_
      refine get_X7_102 hC dX7_lay_211 ?_
      refine j_aload_n hC dX7_lay_214 rfl 0 rfl ?_
      refine get_X7_264 hC dX7_lay_215 ?_
      refine j_aload_n hC dX7_lay_218 rfl 0 rfl ?_
      refine get_X7_28 hC dX7_lay_219 ?_
      refine j_iload_n hC dX7_lay_222 rfl 1 rfl ?_
      refine j_pc (n2 := 223) rfl ?_
      refine ald_X7_many hC dX7_lay_223 h ?_
      intro v2 h
      refine ast_X7_itemsOf hC dX7_lay_224 h ?_
      intro s1 h
      refine j_aload_n hC dX7_lay_225 rfl 0 rfl ?_
      refine j_dup hC rfl dX7_lay_226 ?_
      refine get_X7_264 hC dX7_lay_227 ?_
      refine j_iconst (v := 1) hC dX7_lay_230 (by decide) ?_
      refine j_iadd hC dX7_lay_231 ?_
      refine put_X7_264 hC dX7_lay_232 h ?_
      intro s2 h
      refine j_pc (n2 := 235) rfl ?_
      refine j_iload hC dX7_lay_235 3 rfl ?_
      exact j_iret hC dX7_lay_237 rfl h
    · intro h
      refine j_bipush (v := 8) hC dX7_lay_143 (by decide) ?_
      refine j_iload_n hC dX7_lay_145 rfl 1 rfl ?_
      refine j_imul hC dX7_lay_146 ?_
      refine j_iload hC dX7_lay_147 4 rfl ?_
      refine j_iadd hC dX7_lay_149 ?_
      refine j_bi (E := ((8 : Int32) * x1) + x5) h (fun v3 h => ?_)
      refine j_istore hC dX7_lay_150 (by decide) rfl ?_
      refine j_aload_n hC dX7_lay_152 rfl 1 rfl ?_
      refine j_pc (n2 := 153) rfl ?_
      refine get_X7_80 hC dX7_lay_153 ?_
      refine j_bipush (v := 8) hC dX7_lay_156 (by decide) ?_
      refine j_aload_n hC dX7_lay_158 rfl 1 rfl ?_
      refine get_X7_264 hC dX7_lay_159 ?_
      refine j_imul hC dX7_lay_162 ?_
      refine j_iload hC dX7_lay_163 5 rfl ?_
      refine j_iadd hC dX7_lay_165 ?_
      refine j_iconst (v := 0) hC dX7_lay_166 (by decide) ?_
      refine j_pc (n2 := 167) rfl ?_
      refine ast_X7_left hC dX7_lay_167 h ?_
      intro s3 h
      refine j_aload_n hC dX7_lay_168 rfl 1 rfl ?_
      refine get_X7_37 hC dX7_lay_169 ?_
      refine j_iload hC dX7_lay_172 0 rfl ?_
      refine ald_X7_fresh0 hC dX7_lay_174 h ?_
      intro v4 h
      refine j_iconst (v := (-1)) hC dX7_lay_175 (by decide) ?_
      refine j_icmp_eq (tgt := 194) hC dX7_lay_176 (by decide) h ?_ ?_
      · intro h
        refine j_sub [1, 2, 3, 4, 5, 0] rfl ?_
        exact X7_lay_l194_ok hC ih x1 x3 x4 x5 v3 s3 h
      · intro h
        refine j_aload_n hC dX7_lay_179 rfl 1 rfl ?_
        refine j_iload hC dX7_lay_180 0 rfl ?_
        refine j_iload hC dX7_lay_182 5 rfl ?_
        refine j_iload_n hC dX7_lay_184 rfl 3 rfl ?_
        obtain ⟨v5, s4, hc, h⟩ := cal_some h
        refine call_X7_273 hC (fun l D => X7_layStretch_ok l D g hc) (by decide) (Nat.le_of_ble_eq_true rfl) dX7_lay_185 ?_
        refine j_if_eq (tgt := 194) hC dX7_lay_188 (by decide) h ?_ ?_
        · intro h
          refine j_sub [1, 2, 3, 4, 5, 0] rfl ?_
          exact X7_lay_l194_ok hC ih x1 x3 x4 x5 v3 s4 h
        · intro h
          refine j_iincb (n2 := 1) (k0 := 4) (lv2 := fun z => [(4, .int z), (6, .int v3), (0, .ref (g.1 0)), (1, .int x1), (3, .int x3), (5, .int x5)]) hC dX7_lay_191 rfl (by decide) (by decide) (fun _ => rfl) h (fun v6 h => ?_)
          refine j_sub [2, 3, 4, 0, 5, 1] rfl ?_
          exact X7_lay_l194_ok hC ih x1 x3 v6 x5 v3 s4 h
set_option maxRecDepth 20000 in
def X7_lay_l92 (N : Nat) : Nat → Int32 → Int32 → St → Option (Int32 × St)
  | 0 => fun _ _ _ => none
  | n + 1 => fun x1 x3 s0 =>
  if gi s0 12 ≤ x3 then
  bnd ((3600 : Int32) * (gi s0 14)) fun v1 =>
    X7_lay_l132 N N x1 v1 0 0 s0
  else
  cal (X7_heatOf_f N x3 s0) fun v2 s1 =>
    ast s1 18 24 x3 v2 fun s2 =>
    bnd (x3 + 1) fun v3 =>
    (X7_lay_l92 N n) x1 v3 s2
set_option maxRecDepth 20000 in
theorem X7_lay_l92_ok {K : Kx} {g : Gm} {N : Nat} {o : Int32 × St} (hC : Ok K cX7_lay RX7 g 7 4 (some .int)) : ∀ (n : Nat) (x1 : Int32) (x3 : Int32) (s0 : St), X7_lay_l92 N n x1 x3 s0 = some o → J K (wM g) 7 (QI K g (wM g) o) 92 [(0, .ref (g.1 0)), (1, .int x1), (3, .int x3)] [] s0 := by
  intro n
  induction n with
  | zero => intro x1 x3 s0 h; cases h
  | succ n ih =>
    intro x1 x3 s0 h
    rw [X7_lay_l92] at h
    refine j_iload_n hC dX7_lay_92 rfl 2 rfl ?_
    refine j_aload_n hC dX7_lay_93 rfl 0 rfl ?_
    refine get_X7_205 hC dX7_lay_94 ?_
    refine j_icmp_ge (tgt := 117) hC dX7_lay_97 (by decide) h ?_ ?_
    · intro h
      refine j_sipush (v := 3600) hC dX7_lay_117 (by decide) ?_
      refine j_aload_n hC dX7_lay_120 rfl 0 rfl ?_
      refine get_X7_264 hC dX7_lay_121 ?_
      refine j_imul hC dX7_lay_124 ?_
      refine j_bi (E := (3600 : Int32) * (gi s0 14)) h (fun v1 h => ?_)
      refine j_istore_n hC dX7_lay_125 rfl (by decide) rfl ?_
      refine j_iconst (v := 0) hC dX7_lay_126 (by decide) ?_
      refine j_istore hC dX7_lay_127 (by decide) rfl ?_
      refine j_pc (n2 := 129) rfl ?_
      refine j_iconst (v := 0) hC dX7_lay_129 (by decide) ?_
      refine j_istore hC dX7_lay_130 (by decide) rfl ?_
      refine j_sub [3, 4, 2, 1, 0] rfl ?_
      exact X7_lay_l132_ok hC N x1 v1 0 0 s0 h
    · intro h
      refine j_aload_n hC dX7_lay_100 rfl 0 rfl ?_
      refine get_X7_64 hC dX7_lay_101 ?_
      refine j_iload_n hC dX7_lay_104 rfl 2 rfl ?_
      refine j_aload_n hC dX7_lay_105 rfl 0 rfl ?_
      refine j_iload_n hC dX7_lay_106 rfl 2 rfl ?_
      obtain ⟨v2, s1, hc, h⟩ := cal_some h
      refine call_X7_215 hC (fun l D => X7_heatOf_ok l D g hc) (by decide) (Nat.le_of_ble_eq_true rfl) dX7_lay_107 ?_
      refine ast_X7_heat hC dX7_lay_110 h ?_
      intro s2 h
      refine j_pc (n2 := 111) rfl ?_
      refine j_iincb (n2 := 1) (k0 := 2) (lv2 := fun z => [(3, .int z), (0, .ref (g.1 0)), (1, .int x1)]) hC dX7_lay_111 rfl (by decide) (by decide) (fun _ => rfl) h (fun v3 h => ?_)
      refine j_goto (tgt := 92) hC dX7_lay_114 (by decide) ?_
      refine j_sub [1, 2, 0] rfl ?_
      exact ih x1 v3 s2 h
set_option maxRecDepth 20000 in
def X7_lay_l49 (N : Nat) (k21 : Int32 → Int32 → Int32 → St → Option (Int32 × St)) (x1 : Int32) (x2 : Int32) (x3 : Int32) (s0 : St) : Option (Int32 × St) :=
  bnd (x3 + 1) fun v1 =>
  k21 x1 x2 v1 s0
set_option maxRecDepth 20000 in
theorem X7_lay_l49_ok {K : Kx} {g : Gm} {N : Nat} {o : Int32 × St} (hC : Ok K cX7_lay RX7 g 7 4 (some .int)) {k21 : Int32 → Int32 → Int32 → St → Option (Int32 × St)} (hk21 : ∀ (x1 : Int32) (x2 : Int32) (x3 : Int32) (s0 : St), k21 x1 x2 x3 s0 = some o → J K (wM g) 7 (QI K g (wM g) o) 21 [(0, .ref (g.1 0)), (1, .int x1), (2, .int x2), (3, .int x3)] [] s0) : ∀ (x1 : Int32) (x2 : Int32) (x3 : Int32) (s0 : St), X7_lay_l49 N k21 x1 x2 x3 s0 = some o → J K (wM g) 7 (QI K g (wM g) o) 49 [(0, .ref (g.1 0)), (1, .int x1), (2, .int x2), (3, .int x3)] [] s0 := by
  intro x1 x2 x3 s0 h
  unfold X7_lay_l49 at h
  refine j_iincb (n2 := 1) (k0 := 3) (lv2 := fun z => [(3, .int z), (0, .ref (g.1 0)), (1, .int x1), (2, .int x2)]) hC dX7_lay_49 rfl (by decide) (by decide) (fun _ => rfl) h (fun v1 h => ?_)
  refine j_goto (tgt := 21) hC dX7_lay_52 (by decide) ?_
  refine j_sub [1, 2, 3, 0] rfl ?_
  exact hk21 x1 x2 v1 s0 h
set_option maxRecDepth 20000 in
def X7_lay_l21 (N : Nat) : Nat → Int32 → Int32 → Int32 → St → Option (Int32 × St)
  | 0 => fun _ _ _ _ => none
  | n + 1 => fun x1 x2 x3 s0 =>
  ald s0 6 7 x1 fun v1 =>
  if v1 ≤ x3 then
  ald s0 6 7 x1 fun v2 =>
    if v2 = 0 then
    some ((-1), s0)
    else
    if gi s0 14 = 168 then
      some ((-1), s0)
      else
      if (gi s0 13) + ((4 : Int32) * x2) ≤ 300 then
        X7_lay_l92 N N x1 0 s0
        else
        some ((-1), s0)
  else
  ald s0 9 56 (((8 : Int32) * x1) + x3) fun v3 =>
    if v3 = (-1) then
    X7_lay_l49 N (X7_lay_l21 N n) x1 x2 x3 s0
    else
    bnd (x2 + 1) fun v4 =>
      X7_lay_l49 N (X7_lay_l21 N n) x1 v4 x3 s0
set_option maxRecDepth 20000 in
theorem X7_lay_l21_ok {K : Kx} {g : Gm} {N : Nat} {o : Int32 × St} (hC : Ok K cX7_lay RX7 g 7 4 (some .int)) : ∀ (n : Nat) (x1 : Int32) (x2 : Int32) (x3 : Int32) (s0 : St), X7_lay_l21 N n x1 x2 x3 s0 = some o → J K (wM g) 7 (QI K g (wM g) o) 21 [(0, .ref (g.1 0)), (1, .int x1), (2, .int x2), (3, .int x3)] [] s0 := by
  intro n
  induction n with
  | zero => intro x1 x2 x3 s0 h; cases h
  | succ n ih =>
    intro x1 x2 x3 s0 h
    rw [X7_lay_l21] at h
    refine j_iload_n hC dX7_lay_21 rfl 3 rfl ?_
    refine j_aload_n hC dX7_lay_22 rfl 0 rfl ?_
    refine get_X7_28 hC dX7_lay_23 ?_
    refine j_iload_n hC dX7_lay_26 rfl 1 rfl ?_
    refine ald_X7_many hC dX7_lay_27 h ?_
    intro v1 h
    refine j_icmp_ge (tgt := 55) hC dX7_lay_28 (by decide) h ?_ ?_
    · intro h
      refine j_aload_n hC dX7_lay_55 rfl 0 rfl ?_
      refine get_X7_28 hC dX7_lay_56 ?_
      refine j_iload_n hC dX7_lay_59 rfl 1 rfl ?_
      refine ald_X7_many hC dX7_lay_60 h ?_
      intro v2 h
      refine j_if_eq (tgt := 88) hC dX7_lay_61 (by decide) h ?_ ?_
      · intro h
        refine j_iconst (v := (-1)) hC dX7_lay_88 (by decide) ?_
        exact j_iret hC dX7_lay_89 rfl h
      · intro h
        refine j_aload_n hC dX7_lay_64 rfl 0 rfl ?_
        refine get_X7_264 hC dX7_lay_65 ?_
        refine j_sipush (v := 168) hC dX7_lay_68 (by decide) ?_
        refine j_icmp_eq (tgt := 88) hC dX7_lay_71 (by decide) h ?_ ?_
        · intro h
          refine j_iconst (v := (-1)) hC dX7_lay_88 (by decide) ?_
          exact j_iret hC dX7_lay_89 rfl h
        · intro h
          refine j_aload_n hC dX7_lay_74 rfl 0 rfl ?_
          refine get_X7_218 hC dX7_lay_75 ?_
          refine j_iconst (v := 4) hC dX7_lay_78 (by decide) ?_
          refine j_iload_n hC dX7_lay_79 rfl 2 rfl ?_
          refine j_imul hC dX7_lay_80 ?_
          refine j_iadd hC dX7_lay_81 ?_
          refine j_sipush (v := 300) hC dX7_lay_82 (by decide) ?_
          refine j_pc (n2 := 85) rfl ?_
          refine j_icmp_le (tgt := 90) hC dX7_lay_85 (by decide) h ?_ ?_
          · intro h
            refine j_iconst (v := 0) hC dX7_lay_90 (by decide) ?_
            refine j_istore_n hC dX7_lay_91 rfl (by decide) rfl ?_
            refine j_sub [1, 2, 0] rfl ?_
            exact X7_lay_l92_ok hC N x1 0 s0 h
          · intro h
            refine j_iconst (v := (-1)) hC dX7_lay_88 (by decide) ?_
            exact j_iret hC dX7_lay_89 rfl h
    · intro h
      refine j_aload_n hC dX7_lay_31 rfl 0 rfl ?_
      refine get_X7_37 hC dX7_lay_32 ?_
      refine j_bipush (v := 8) hC dX7_lay_35 (by decide) ?_
      refine j_iload_n hC dX7_lay_37 rfl 1 rfl ?_
      refine j_imul hC dX7_lay_38 ?_
      refine j_iload_n hC dX7_lay_39 rfl 3 rfl ?_
      refine j_iadd hC dX7_lay_40 ?_
      refine j_pc (n2 := 41) rfl ?_
      refine ald_X7_fresh0 hC dX7_lay_41 h ?_
      intro v3 h
      refine j_iconst (v := (-1)) hC dX7_lay_42 (by decide) ?_
      refine j_icmp_eq (tgt := 49) hC dX7_lay_43 (by decide) h ?_ ?_
      · intro h
        refine j_sub [0, 1, 2, 3] rfl ?_
        exact X7_lay_l49_ok hC ih x1 x2 x3 s0 h
      · intro h
        refine j_iincb (n2 := 1) (k0 := 2) (lv2 := fun z => [(2, .int z), (0, .ref (g.1 0)), (1, .int x1), (3, .int x3)]) hC dX7_lay_46 rfl (by decide) (by decide) (fun _ => rfl) h (fun v4 h => ?_)
        refine j_sub [1, 2, 0, 3] rfl ?_
        exact X7_lay_l49_ok hC ih x1 v4 x3 s0 h
set_option maxRecDepth 20000 in
def X7_lay_f (N : Nat) (x1 : Int32) (s0 : St) : Option (Int32 × St) :=
  cal (X7_isClock_f N x1 s0) fun v1 s1 =>
  if v1 = 0 then
  cal (X7_refuse_f N  s1) fun v2 s3 =>
    some (v2, s3)
  else
  bnd (si s1 0 0) fun s2 =>
    X7_lay_l21 N N x1 0 0 s2
set_option maxRecDepth 20000 in
theorem X7_lay_ok (l : Launch) (D : va_G) (g : Gm) {N : Nat} {x1 : Int32} {s0 : St} {o : Int32 × St} (h : X7_lay_f N x1 s0 = some o) : MI l yX7_lay cX7_lay 7 (some .int) 4 D g (wM g) [.ref (g.1 0), .int x1] s0 o := by
  refine met_I (own := RX7) (by decide) rfl (Nat.le_of_ble_eq_true rfl) (fun K hC => ?_)
  show J K (wM g) 7 (QI K g (wM g) o) 0 [(0, .ref (g.1 0)), (1, .int x1)] [] s0
  unfold X7_lay_f at h
  refine j_iload_n hC dX7_lay_0 rfl 1 rfl ?_
  obtain ⟨v1, s1, hc, h⟩ := cal_some h
  refine call_X7_196 hC (fun l D => X7_isClock_ok l D g hc) (by decide) (Nat.le_of_ble_eq_true rfl) dX7_lay_1 ?_
  refine j_if_ne (tgt := 12) hC dX7_lay_4 (by decide) h ?_ ?_
  · intro h
    refine j_aload_n hC dX7_lay_12 rfl 0 rfl ?_
    refine j_iconst (v := 0) hC dX7_lay_13 (by decide) ?_
    refine put_X7_105 hC dX7_lay_14 h ?_
    intro s2 h
    refine j_iconst (v := 0) hC dX7_lay_17 (by decide) ?_
    refine j_istore_n hC dX7_lay_18 rfl (by decide) rfl ?_
    refine j_iconst (v := 0) hC dX7_lay_19 (by decide) ?_
    refine j_istore_n hC dX7_lay_20 rfl (by decide) rfl ?_
    refine j_sub [2, 3, 1, 0] rfl ?_
    exact X7_lay_l21_ok hC N x1 0 0 s2 h
  · intro h
    refine j_aload_n hC dX7_lay_7 rfl 0 rfl ?_
    obtain ⟨v2, s3, hc, h⟩ := cal_some h
    refine call_X7_199 hC (fun l D => X7_refuse_ok l D g hc) (by decide) (Nat.le_of_ble_eq_true rfl) dX7_lay_8 ?_
    exact j_iret hC dX7_lay_11 rfl h
set_option maxRecDepth 20000 in
def X7_told_l49 (N : Nat) (k21 : Int32 → Int32 → Int32 → Int32 → St → Option (Int32 × St)) (x1 : Int32) (x2 : Int32) (x3 : Int32) (x4 : Int32) (s0 : St) : Option (Int32 × St) :=
  bnd (x4 + 1) fun v1 =>
  k21 x1 x2 x3 v1 s0
set_option maxRecDepth 20000 in
theorem X7_told_l49_ok {K : Kx} {g : Gm} {N : Nat} {o : Int32 × St} (hC : Ok K cX7_told RX7 g 5 1 (some .int)) {k21 : Int32 → Int32 → Int32 → Int32 → St → Option (Int32 × St)} (hk21 : ∀ (x1 : Int32) (x2 : Int32) (x3 : Int32) (x4 : Int32) (s0 : St), k21 x1 x2 x3 x4 s0 = some o → J K (wM g) 5 (QI K g (wM g) o) 21 [(0, .ref (g.1 0)), (1, .int x1), (2, .int x2), (3, .int x3), (4, .int x4)] [] s0) : ∀ (x1 : Int32) (x2 : Int32) (x3 : Int32) (x4 : Int32) (s0 : St), X7_told_l49 N k21 x1 x2 x3 x4 s0 = some o → J K (wM g) 5 (QI K g (wM g) o) 49 [(0, .ref (g.1 0)), (1, .int x1), (2, .int x2), (3, .int x3), (4, .int x4)] [] s0 := by
  intro x1 x2 x3 x4 s0 h
  unfold X7_told_l49 at h
  refine j_iincb (n2 := 1) (k0 := 4) (lv2 := fun z => [(4, .int z), (0, .ref (g.1 0)), (1, .int x1), (2, .int x2), (3, .int x3)]) hC dX7_told_49 rfl (by decide) (by decide) (fun _ => rfl) h (fun v1 h => ?_)
  refine j_goto (tgt := 21) hC dX7_told_52 (by decide) ?_
  refine j_sub [1, 2, 3, 4, 0] rfl ?_
  exact hk21 x1 x2 x3 v1 s0 h
set_option maxRecDepth 20000 in
def X7_told_l21 (N : Nat) : Nat → Int32 → Int32 → Int32 → Int32 → St → Option (Int32 × St)
  | 0 => fun _ _ _ _ _ => none
  | n + 1 => fun x1 x2 x3 x4 s0 =>
  if gi s0 13 ≤ x4 then
  tsw5 x2
    (cal (X7_heatOf_f N x1 s0) fun v1 s1 =>
      some (v1, s1))
    (cal (X7_soundsOf_f N x1 s0) fun v2 s2 =>
      some (v2, s2))
    (some (x3, s0))
    (ald s0 15 24 x1 fun v3 =>
      some (v3, s0))
    (ald s0 16 24 x1 fun v4 =>
      some (v4, s0))
    (some ((-2), s0))
  else
  ald s0 20 300 x4 fun v5 =>
    if v5 = x1 then
    ald s0 21 300 x4 fun v6 =>
      X7_told_l49 N (X7_told_l21 N n) x1 x2 v6 x4 s0
    else
    X7_told_l49 N (X7_told_l21 N n) x1 x2 x3 x4 s0
set_option maxRecDepth 20000 in
theorem X7_told_l21_ok {K : Kx} {g : Gm} {N : Nat} {o : Int32 × St} (hC : Ok K cX7_told RX7 g 5 1 (some .int)) : ∀ (n : Nat) (x1 : Int32) (x2 : Int32) (x3 : Int32) (x4 : Int32) (s0 : St), X7_told_l21 N n x1 x2 x3 x4 s0 = some o → J K (wM g) 5 (QI K g (wM g) o) 21 [(0, .ref (g.1 0)), (1, .int x1), (2, .int x2), (3, .int x3), (4, .int x4)] [] s0 := by
  intro n
  induction n with
  | zero => intro x1 x2 x3 x4 s0 h; cases h
  | succ n ih =>
    intro x1 x2 x3 x4 s0 h
    rw [X7_told_l21] at h
    refine j_iload hC dX7_told_21 4 rfl ?_
    refine j_aload_n hC dX7_told_23 rfl 0 rfl ?_
    refine get_X7_218 hC dX7_told_24 ?_
    refine j_icmp_ge (tgt := 55) hC dX7_told_27 (by decide) h ?_ ?_
    · intro h
      refine j_iload_n hC dX7_told_55 rfl 2 rfl ?_
      refine j_tsw5 (t0 := 92) (t1 := 98) (t2 := 104) (t3 := 106) (t4 := 113) (t := 120) hC dX7_told_56 (by decide) (by decide) (by decide) (by decide) (by decide) (by decide) h ?_ ?_ ?_ ?_ ?_ ?_
      · intro h
        refine j_aload_n hC dX7_told_92 rfl 0 rfl ?_
        refine j_iload_n hC dX7_told_93 rfl 1 rfl ?_
        obtain ⟨v1, s1, hc, h⟩ := cal_some h
        refine call_X7_215 hC (fun l D => X7_heatOf_ok l D g hc) (by decide) (Nat.le_of_ble_eq_true rfl) dX7_told_94 ?_
        exact j_iret hC dX7_told_97 rfl h
      · intro h
        refine j_aload_n hC dX7_told_98 rfl 0 rfl ?_
        refine j_iload_n hC dX7_told_99 rfl 1 rfl ?_
        obtain ⟨v2, s2, hc, h⟩ := cal_some h
        refine call_X7_276 hC (fun l D => X7_soundsOf_ok l D g hc) (by decide) (Nat.le_of_ble_eq_true rfl) dX7_told_100 ?_
        exact j_iret hC dX7_told_103 rfl h
      · intro h
        refine j_iload_n hC dX7_told_104 rfl 3 rfl ?_
        exact j_iret hC dX7_told_105 rfl h
      · intro h
        refine j_aload_n hC dX7_told_106 rfl 0 rfl ?_
        refine get_X7_55 hC dX7_told_107 ?_
        refine j_iload_n hC dX7_told_110 rfl 1 rfl ?_
        refine ald_X7_open hC dX7_told_111 h ?_
        intro v3 h
        exact j_iret hC dX7_told_112 rfl h
      · intro h
        refine j_aload_n hC dX7_told_113 rfl 0 rfl ?_
        refine get_X7_58 hC dX7_told_114 ?_
        refine j_iload_n hC dX7_told_117 rfl 1 rfl ?_
        refine ald_X7_done hC dX7_told_118 h ?_
        intro v4 h
        exact j_iret hC dX7_told_119 rfl h
      · intro h
        refine j_bipush (v := (-2)) hC dX7_told_120 (by decide) ?_
        exact j_iret hC dX7_told_122 rfl h
    · intro h
      refine j_aload_n hC dX7_told_30 rfl 0 rfl ?_
      refine get_X7_71 hC dX7_told_31 ?_
      refine j_iload hC dX7_told_34 4 rfl ?_
      refine ald_X7_played hC dX7_told_36 h ?_
      intro v5 h
      refine j_iload_n hC dX7_told_37 rfl 1 rfl ?_
      refine j_icmp_ne (tgt := 49) hC dX7_told_38 (by decide) h ?_ ?_
      · intro h
        refine j_sub [0, 1, 2, 3, 4] rfl ?_
        exact X7_told_l49_ok hC ih x1 x2 x3 x4 s0 h
      · intro h
        refine j_aload_n hC dX7_told_41 rfl 0 rfl ?_
        refine get_X7_74 hC dX7_told_42 ?_
        refine j_iload hC dX7_told_45 4 rfl ?_
        refine ald_X7_began hC dX7_told_47 h ?_
        intro v6 h
        refine j_istore_n hC dX7_told_48 rfl (by decide) rfl ?_
        refine j_sub [1, 2, 3, 0, 4] rfl ?_
        exact X7_told_l49_ok hC ih x1 x2 v6 x4 s0 h
set_option maxRecDepth 20000 in
def X7_told_f (N : Nat) (x1 : Int32) (x2 : Int32) (s0 : St) : Option (Int32 × St) :=
  bnd (si s0 0 0) fun s1 =>
  cal (X7_isSong_f N x1 s1) fun v1 s2 =>
  if v1 = 0 then
  some ((-2), s2)
  else
  X7_told_l21 N N x1 x2 ((-1)) 0 s2
set_option maxRecDepth 20000 in
theorem X7_told_ok (l : Launch) (D : va_G) (g : Gm) {N : Nat} {x1 : Int32} {x2 : Int32} {s0 : St} {o : Int32 × St} (h : X7_told_f N x1 x2 s0 = some o) : MI l yX7_told cX7_told 5 (some .int) 1 D g (wM g) [.ref (g.1 0), .int x1, .int x2] s0 o := by
  refine met_I (own := RX7) (by decide) rfl (Nat.le_of_ble_eq_true rfl) (fun K hC => ?_)
  show J K (wM g) 5 (QI K g (wM g) o) 0 [(0, .ref (g.1 0)), (1, .int x1), (2, .int x2)] [] s0
  unfold X7_told_f at h
  refine j_aload_n hC dX7_told_0 rfl 0 rfl ?_
  refine j_iconst (v := 0) hC dX7_told_1 (by decide) ?_
  refine put_X7_105 hC dX7_told_2 h ?_
  intro s1 h
  refine j_aload_n hC dX7_told_5 rfl 0 rfl ?_
  refine j_iload_n hC dX7_told_6 rfl 1 rfl ?_
  obtain ⟨v1, s2, hc, h⟩ := cal_some h
  refine call_X7_212 hC (fun l D => X7_isSong_ok l D g hc) (by decide) (Nat.le_of_ble_eq_true rfl) dX7_told_7 ?_
  refine j_if_ne (tgt := 16) hC dX7_told_10 (by decide) h ?_ ?_
  · intro h
    refine j_iconst (v := (-1)) hC dX7_told_16 (by decide) ?_
    refine j_istore_n hC dX7_told_17 rfl (by decide) rfl ?_
    refine j_iconst (v := 0) hC dX7_told_18 (by decide) ?_
    refine j_istore hC dX7_told_19 (by decide) rfl ?_
    refine j_sub [2, 3, 4, 1, 0] rfl ?_
    exact X7_told_l21_ok hC N x1 x2 ((-1)) 0 s2 h
  · intro h
    refine j_bipush (v := (-2)) hC dX7_told_13 (by decide) ?_
    exact j_iret hC dX7_told_15 rfl h
set_option maxRecDepth 20000 in
def X7_play_l21 (N : Nat) (s0 : St) : Option (Int32 × St) :=
  cal (X7_refuse_f N  s0) fun v1 s1 =>
  some (v1, s1)
set_option maxRecDepth 20000 in
theorem X7_play_l21_ok {K : Kx} {g : Gm} {N : Nat} {o : Int32 × St} (hC : Ok K cX7_play RX7 g 3 1 (some .int)) : ∀ (s0 : St), X7_play_l21 N  s0 = some o → J K (wM g) 3 (QI K g (wM g) o) 21 [(0, .ref (g.1 0))] [] s0 := by
  intro  s0 h
  unfold X7_play_l21 at h
  refine j_aload_n hC dX7_play_21 rfl 0 rfl ?_
  obtain ⟨v1, s1, hc, h⟩ := cal_some h
  refine call_X7_199 hC (fun l D => X7_refuse_ok l D g hc) (by decide) (Nat.le_of_ble_eq_true rfl) dX7_play_22 ?_
  exact j_iret hC dX7_play_25 rfl h
set_option maxRecDepth 20000 in
def X7_play_f (N : Nat) (x1 : Int32) (x2 : Int32) (s0 : St) : Option (Int32 × St) :=
  if x1 < 0 then
  X7_play_l21 N s0
  else
  if gi s0 13 ≤ x1 then
    X7_play_l21 N s0
    else
    if x2 < 0 then
      X7_play_l21 N s0
      else
      if x2 ≤ 3 then
        bnd (si s0 0 0) fun s1 =>
          if x2 = 0 then
          ald s1 20 300 x1 fun v4 =>
            some (v4, s1)
          else
          if x2 = 1 then
            ald s1 21 300 x1 fun v3 =>
              some (v3, s1)
            else
            if x2 = 2 then
              ald s1 21 300 x1 fun v2 =>
                some (v2 / 3600, s1)
              else
              ald s1 22 300 x1 fun v1 =>
                some (v1, s1)
        else
        X7_play_l21 N s0
set_option maxRecDepth 20000 in
theorem X7_play_ok (l : Launch) (D : va_G) (g : Gm) {N : Nat} {x1 : Int32} {x2 : Int32} {s0 : St} {o : Int32 × St} (h : X7_play_f N x1 x2 s0 = some o) : MI l yX7_play cX7_play 3 (some .int) 1 D g (wM g) [.ref (g.1 0), .int x1, .int x2] s0 o := by
  refine met_I (own := RX7) (by decide) rfl (Nat.le_of_ble_eq_true rfl) (fun K hC => ?_)
  show J K (wM g) 3 (QI K g (wM g) o) 0 [(0, .ref (g.1 0)), (1, .int x1), (2, .int x2)] [] s0
  unfold X7_play_f at h
  refine j_iload_n hC dX7_play_0 rfl 1 rfl ?_
  refine j_if_lt (tgt := 21) hC dX7_play_1 (by decide) h ?_ ?_
  · intro h
    refine j_sub [0] rfl ?_
    exact X7_play_l21_ok hC s0 h
  · intro h
    refine j_iload_n hC dX7_play_4 rfl 1 rfl ?_
    refine j_aload_n hC dX7_play_5 rfl 0 rfl ?_
    refine get_X7_218 hC dX7_play_6 ?_
    refine j_icmp_ge (tgt := 21) hC dX7_play_9 (by decide) h ?_ ?_
    · intro h
      refine j_sub [0] rfl ?_
      exact X7_play_l21_ok hC s0 h
    · intro h
      refine j_iload_n hC dX7_play_12 rfl 2 rfl ?_
      refine j_if_lt (tgt := 21) hC dX7_play_13 (by decide) h ?_ ?_
      · intro h
        refine j_sub [0] rfl ?_
        exact X7_play_l21_ok hC s0 h
      · intro h
        refine j_iload_n hC dX7_play_16 rfl 2 rfl ?_
        refine j_iconst (v := 3) hC dX7_play_17 (by decide) ?_
        refine j_icmp_le (tgt := 26) hC dX7_play_18 (by decide) h ?_ ?_
        · intro h
          refine j_aload_n hC dX7_play_26 rfl 0 rfl ?_
          refine j_iconst (v := 0) hC dX7_play_27 (by decide) ?_
          refine put_X7_105 hC dX7_play_28 h ?_
          intro s1 h
          refine j_iload_n hC dX7_play_31 rfl 2 rfl ?_
          refine j_if_ne (tgt := 44) hC dX7_play_32 (by decide) h ?_ ?_
          · intro h
            refine j_iload_n hC dX7_play_44 rfl 2 rfl ?_
            refine j_iconst (v := 1) hC dX7_play_45 (by decide) ?_
            refine j_icmp_ne (tgt := 58) hC dX7_play_46 (by decide) h ?_ ?_
            · intro h
              refine j_iload_n hC dX7_play_58 rfl 2 rfl ?_
              refine j_iconst (v := 2) hC dX7_play_59 (by decide) ?_
              refine j_icmp_ne (tgt := 76) hC dX7_play_60 (by decide) h ?_ ?_
              · intro h
                refine j_aload_n hC dX7_play_76 rfl 0 rfl ?_
                refine get_X7_77 hC dX7_play_77 ?_
                refine j_iload_n hC dX7_play_80 rfl 1 rfl ?_
                refine ald_X7_inItem hC dX7_play_81 h ?_
                intro v1 h
                exact j_iret hC dX7_play_82 rfl h
              · intro h
                refine j_aload_n hC dX7_play_63 rfl 0 rfl ?_
                refine get_X7_74 hC dX7_play_64 ?_
                refine j_iload_n hC dX7_play_67 rfl 1 rfl ?_
                refine ald_X7_began hC dX7_play_68 h ?_
                intro v2 h
                refine j_sipush (v := 3600) hC dX7_play_69 (by decide) ?_
                refine j_idiv hC (by decide) dX7_play_72 ?_
                refine j_goto (tgt := 82) hC dX7_play_73 (by decide) ?_
                refine j_pc (n2 := 82) rfl ?_
                exact j_iret hC dX7_play_82 rfl h
            · intro h
              refine j_aload_n hC dX7_play_49 rfl 0 rfl ?_
              refine get_X7_74 hC dX7_play_50 ?_
              refine j_iload_n hC dX7_play_53 rfl 1 rfl ?_
              refine ald_X7_began hC dX7_play_54 h ?_
              intro v3 h
              refine j_goto (tgt := 82) hC dX7_play_55 (by decide) ?_
              exact j_iret hC dX7_play_82 rfl h
          · intro h
            refine j_aload_n hC dX7_play_35 rfl 0 rfl ?_
            refine get_X7_71 hC dX7_play_36 ?_
            refine j_iload_n hC dX7_play_39 rfl 1 rfl ?_
            refine ald_X7_played hC dX7_play_40 h ?_
            intro v4 h
            refine j_goto (tgt := 82) hC dX7_play_41 (by decide) ?_
            exact j_iret hC dX7_play_82 rfl h
        · intro h
          refine j_sub [0] rfl ?_
          exact X7_play_l21_ok hC s0 h
set_option maxRecDepth 20000 in
def X7_left_l26 (N : Nat) (s0 : St) : Option (Int32 × St) :=
  cal (X7_refuse_f N  s0) fun v1 s1 =>
  some (v1, s1)
set_option maxRecDepth 20000 in
theorem X7_left_l26_ok {K : Kx} {g : Gm} {N : Nat} {o : Int32 × St} (hC : Ok K cX7_left RX7 g 3 1 (some .int)) : ∀ (s0 : St), X7_left_l26 N  s0 = some o → J K (wM g) 3 (QI K g (wM g) o) 26 [(0, .ref (g.1 0))] [] s0 := by
  intro  s0 h
  unfold X7_left_l26 at h
  refine j_aload_n hC dX7_left_26 rfl 0 rfl ?_
  obtain ⟨v1, s1, hc, h⟩ := cal_some h
  refine call_X7_199 hC (fun l D => X7_refuse_ok l D g hc) (by decide) (Nat.le_of_ble_eq_true rfl) dX7_left_27 ?_
  exact j_iret hC dX7_left_30 rfl h
set_option maxRecDepth 20000 in
def X7_left_f (N : Nat) (x1 : Int32) (x2 : Int32) (s0 : St) : Option (Int32 × St) :=
  if x1 < 0 then
  X7_left_l26 N s0
  else
  if gi s0 14 ≤ x1 then
    X7_left_l26 N s0
    else
    if x2 < 0 then
      X7_left_l26 N s0
      else
      ald s0 30 168 x1 fun v1 =>
        if x2 < v1 then
        bnd (si s0 0 0) fun s1 =>
          ald s1 23 1344 (((8 : Int32) * x1) + x2) fun v2 =>
          some (v2, s1)
        else
        X7_left_l26 N s0
set_option maxRecDepth 20000 in
theorem X7_left_ok (l : Launch) (D : va_G) (g : Gm) {N : Nat} {x1 : Int32} {x2 : Int32} {s0 : St} {o : Int32 × St} (h : X7_left_f N x1 x2 s0 = some o) : MI l yX7_left cX7_left 3 (some .int) 1 D g (wM g) [.ref (g.1 0), .int x1, .int x2] s0 o := by
  refine met_I (own := RX7) (by decide) rfl (Nat.le_of_ble_eq_true rfl) (fun K hC => ?_)
  show J K (wM g) 3 (QI K g (wM g) o) 0 [(0, .ref (g.1 0)), (1, .int x1), (2, .int x2)] [] s0
  unfold X7_left_f at h
  refine j_iload_n hC dX7_left_0 rfl 1 rfl ?_
  refine j_if_lt (tgt := 26) hC dX7_left_1 (by decide) h ?_ ?_
  · intro h
    refine j_sub [0] rfl ?_
    exact X7_left_l26_ok hC s0 h
  · intro h
    refine j_iload_n hC dX7_left_4 rfl 1 rfl ?_
    refine j_aload_n hC dX7_left_5 rfl 0 rfl ?_
    refine get_X7_264 hC dX7_left_6 ?_
    refine j_icmp_ge (tgt := 26) hC dX7_left_9 (by decide) h ?_ ?_
    · intro h
      refine j_sub [0] rfl ?_
      exact X7_left_l26_ok hC s0 h
    · intro h
      refine j_iload_n hC dX7_left_12 rfl 2 rfl ?_
      refine j_if_lt (tgt := 26) hC dX7_left_13 (by decide) h ?_ ?_
      · intro h
        refine j_sub [0] rfl ?_
        exact X7_left_l26_ok hC s0 h
      · intro h
        refine j_iload_n hC dX7_left_16 rfl 2 rfl ?_
        refine j_aload_n hC dX7_left_17 rfl 0 rfl ?_
        refine get_X7_102 hC dX7_left_18 ?_
        refine j_iload_n hC dX7_left_21 rfl 1 rfl ?_
        refine ald_X7_itemsOf hC dX7_left_22 h ?_
        intro v1 h
        refine j_icmp_lt (tgt := 31) hC dX7_left_23 (by decide) h ?_ ?_
        · intro h
          refine j_aload_n hC dX7_left_31 rfl 0 rfl ?_
          refine j_iconst (v := 0) hC dX7_left_32 (by decide) ?_
          refine put_X7_105 hC dX7_left_33 h ?_
          intro s1 h
          refine j_aload_n hC dX7_left_36 rfl 0 rfl ?_
          refine get_X7_80 hC dX7_left_37 ?_
          refine j_bipush (v := 8) hC dX7_left_40 (by decide) ?_
          refine j_iload_n hC dX7_left_42 rfl 1 rfl ?_
          refine j_pc (n2 := 43) rfl ?_
          refine j_imul hC dX7_left_43 ?_
          refine j_iload_n hC dX7_left_44 rfl 2 rfl ?_
          refine j_iadd hC dX7_left_45 ?_
          refine ald_X7_left hC dX7_left_46 h ?_
          intro v2 h
          exact j_iret hC dX7_left_47 rfl h
        · intro h
          refine j_sub [0] rfl ?_
          exact X7_left_l26_ok hC s0 h
set_option maxRecDepth 20000 in
def X7_at_l36 (N : Nat) (k7 : Int32 → Int32 → St → Option (Int32 × St)) (x1 : Int32) (x2 : Int32) (s0 : St) : Option (Int32 × St) :=
  bnd (x2 + 1) fun v1 =>
  k7 x1 v1 s0
set_option maxRecDepth 20000 in
theorem X7_at_l36_ok {K : Kx} {g : Gm} {N : Nat} {o : Int32 × St} (hC : Ok K cX7_at RX7 g 3 1 (some .int)) {k7 : Int32 → Int32 → St → Option (Int32 × St)} (hk7 : ∀ (x1 : Int32) (x2 : Int32) (s0 : St), k7 x1 x2 s0 = some o → J K (wM g) 3 (QI K g (wM g) o) 7 [(0, .ref (g.1 0)), (1, .int x1), (2, .int x2)] [] s0) : ∀ (x1 : Int32) (x2 : Int32) (s0 : St), X7_at_l36 N k7 x1 x2 s0 = some o → J K (wM g) 3 (QI K g (wM g) o) 36 [(0, .ref (g.1 0)), (1, .int x1), (2, .int x2)] [] s0 := by
  intro x1 x2 s0 h
  unfold X7_at_l36 at h
  refine j_iincb (n2 := 1) (k0 := 2) (lv2 := fun z => [(2, .int z), (0, .ref (g.1 0)), (1, .int x1)]) hC dX7_at_36 rfl (by decide) (by decide) (fun _ => rfl) h (fun v1 h => ?_)
  refine j_goto (tgt := 7) hC dX7_at_39 (by decide) ?_
  refine j_sub [1, 2, 0] rfl ?_
  exact hk7 x1 v1 s0 h
set_option maxRecDepth 20000 in
def X7_at_l7 (N : Nat) : Nat → Int32 → Int32 → St → Option (Int32 × St)
  | 0 => fun _ _ _ => none
  | n + 1 => fun x1 x2 s0 =>
  if gi s0 13 ≤ x2 then
  some ((-1), s0)
  else
  ald s0 21 300 x2 fun v1 =>
    if x1 < v1 then
    X7_at_l36 N (X7_at_l7 N n) x1 x2 s0
    else
    cal (X7_endOf_f N x2 s0) fun v2 s1 =>
      if v2 ≤ x1 then
      X7_at_l36 N (X7_at_l7 N n) x1 x2 s1
      else
      some (x2, s1)
set_option maxRecDepth 20000 in
theorem X7_at_l7_ok {K : Kx} {g : Gm} {N : Nat} {o : Int32 × St} (hC : Ok K cX7_at RX7 g 3 1 (some .int)) : ∀ (n : Nat) (x1 : Int32) (x2 : Int32) (s0 : St), X7_at_l7 N n x1 x2 s0 = some o → J K (wM g) 3 (QI K g (wM g) o) 7 [(0, .ref (g.1 0)), (1, .int x1), (2, .int x2)] [] s0 := by
  intro n
  induction n with
  | zero => intro x1 x2 s0 h; cases h
  | succ n ih =>
    intro x1 x2 s0 h
    rw [X7_at_l7] at h
    refine j_iload_n hC dX7_at_7 rfl 2 rfl ?_
    refine j_aload_n hC dX7_at_8 rfl 0 rfl ?_
    refine get_X7_218 hC dX7_at_9 ?_
    refine j_icmp_ge (tgt := 42) hC dX7_at_12 (by decide) h ?_ ?_
    · intro h
      refine j_iconst (v := (-1)) hC dX7_at_42 (by decide) ?_
      exact j_iret hC dX7_at_43 rfl h
    · intro h
      refine j_iload_n hC dX7_at_15 rfl 1 rfl ?_
      refine j_aload_n hC dX7_at_16 rfl 0 rfl ?_
      refine get_X7_74 hC dX7_at_17 ?_
      refine j_iload_n hC dX7_at_20 rfl 2 rfl ?_
      refine ald_X7_began hC dX7_at_21 h ?_
      intro v1 h
      refine j_icmp_lt (tgt := 36) hC dX7_at_22 (by decide) h ?_ ?_
      · intro h
        refine j_sub [0, 1, 2] rfl ?_
        exact X7_at_l36_ok hC ih x1 x2 s0 h
      · intro h
        refine j_iload_n hC dX7_at_25 rfl 1 rfl ?_
        refine j_aload_n hC dX7_at_26 rfl 0 rfl ?_
        refine j_iload_n hC dX7_at_27 rfl 2 rfl ?_
        obtain ⟨v2, s1, hc, h⟩ := cal_some h
        refine call_X7_237 hC (fun l D => X7_endOf_ok l D g hc) (by decide) (Nat.le_of_ble_eq_true rfl) dX7_at_28 ?_
        refine j_icmp_ge (tgt := 36) hC dX7_at_31 (by decide) h ?_ ?_
        · intro h
          refine j_sub [0, 1, 2] rfl ?_
          exact X7_at_l36_ok hC ih x1 x2 s1 h
        · intro h
          refine j_iload_n hC dX7_at_34 rfl 2 rfl ?_
          exact j_iret hC dX7_at_35 rfl h
set_option maxRecDepth 20000 in
def X7_at_f (N : Nat) (x1 : Int32) (s0 : St) : Option (Int32 × St) :=
  bnd (si s0 0 0) fun s1 =>
  X7_at_l7 N N x1 0 s1
set_option maxRecDepth 20000 in
theorem X7_at_ok (l : Launch) (D : va_G) (g : Gm) {N : Nat} {x1 : Int32} {s0 : St} {o : Int32 × St} (h : X7_at_f N x1 s0 = some o) : MI l yX7_at cX7_at 3 (some .int) 1 D g (wM g) [.ref (g.1 0), .int x1] s0 o := by
  refine met_I (own := RX7) (by decide) rfl (Nat.le_of_ble_eq_true rfl) (fun K hC => ?_)
  show J K (wM g) 3 (QI K g (wM g) o) 0 [(0, .ref (g.1 0)), (1, .int x1)] [] s0
  unfold X7_at_f at h
  refine j_aload_n hC dX7_at_0 rfl 0 rfl ?_
  refine j_iconst (v := 0) hC dX7_at_1 (by decide) ?_
  refine put_X7_105 hC dX7_at_2 h ?_
  intro s1 h
  refine j_iconst (v := 0) hC dX7_at_5 (by decide) ?_
  refine j_istore_n hC dX7_at_6 rfl (by decide) rfl ?_
  refine j_sub [1, 2, 0] rfl ?_
  exact X7_at_l7_ok hC N x1 0 s1 h
set_option maxRecDepth 20000 in
def X7_rights_l116 (N : Nat) (k28 : Int32 → Int32 → Int32 → Int32 → Int32 → St → Option (Int32 × St)) (x1 : Int32) (x2 : Int32) (x3 : Int32) (x4 : Int32) (x5 : Int32) (s0 : St) : Option (Int32 × St) :=
  bnd (x5 + 1) fun v1 =>
  k28 x1 x2 x3 x4 v1 s0
set_option maxRecDepth 20000 in
theorem X7_rights_l116_ok {K : Kx} {g : Gm} {N : Nat} {o : Int32 × St} (hC : Ok K cX7_rights RX7 g 8 1 (some .int)) {k28 : Int32 → Int32 → Int32 → Int32 → Int32 → St → Option (Int32 × St)} (hk28 : ∀ (x1 : Int32) (x2 : Int32) (x3 : Int32) (x4 : Int32) (x5 : Int32) (s0 : St), k28 x1 x2 x3 x4 x5 s0 = some o → J K (wM g) 8 (QI K g (wM g) o) 28 [(0, .ref (g.1 0)), (1, .int x1), (2, .int x2), (3, .int x3), (4, .int x4), (5, .int x5)] [] s0) : ∀ (x1 : Int32) (x2 : Int32) (x3 : Int32) (x4 : Int32) (x5 : Int32) (s0 : St), X7_rights_l116 N k28 x1 x2 x3 x4 x5 s0 = some o → J K (wM g) 8 (QI K g (wM g) o) 116 [(0, .ref (g.1 0)), (1, .int x1), (2, .int x2), (3, .int x3), (4, .int x4), (5, .int x5)] [] s0 := by
  intro x1 x2 x3 x4 x5 s0 h
  unfold X7_rights_l116 at h
  refine j_iincb (n2 := 1) (k0 := 5) (lv2 := fun z => [(5, .int z), (0, .ref (g.1 0)), (1, .int x1), (2, .int x2), (3, .int x3), (4, .int x4)]) hC dX7_rights_116 rfl (by decide) (by decide) (fun _ => rfl) h (fun v1 h => ?_)
  refine j_goto (tgt := 28) hC dX7_rights_119 (by decide) ?_
  refine j_sub [1, 2, 3, 4, 5, 0] rfl ?_
  exact hk28 x1 x2 x3 x4 v1 s0 h
set_option maxRecDepth 20000 in
def X7_rights_l81 (N : Nat) (k28 : Int32 → Int32 → Int32 → Int32 → Int32 → St → Option (Int32 × St)) (x1 : Int32) (x2 : Int32) (x3 : Int32) (x4 : Int32) (x5 : Int32) (x6 : Int32) (t0 : Int32) (s0 : St) : Option (Int32 × St) :=
  ald s0 20 300 x5 fun v1 =>
  ald s0 11 24 v1 fun v2 =>
  if v2 = x1 then
  if t0 ≤ x6 then
    X7_rights_l116 N k28 x1 x2 x3 x4 x5 s0
    else
    bnd (x4 + (t0 - x6)) fun v3 =>
      X7_rights_l116 N k28 x1 x2 x3 v3 x5 s0
  else
  X7_rights_l116 N k28 x1 x2 x3 x4 x5 s0
set_option maxRecDepth 20000 in
theorem X7_rights_l81_ok {K : Kx} {g : Gm} {N : Nat} {o : Int32 × St} (hC : Ok K cX7_rights RX7 g 8 1 (some .int)) {k28 : Int32 → Int32 → Int32 → Int32 → Int32 → St → Option (Int32 × St)} (hk28 : ∀ (x1 : Int32) (x2 : Int32) (x3 : Int32) (x4 : Int32) (x5 : Int32) (s0 : St), k28 x1 x2 x3 x4 x5 s0 = some o → J K (wM g) 8 (QI K g (wM g) o) 28 [(0, .ref (g.1 0)), (1, .int x1), (2, .int x2), (3, .int x3), (4, .int x4), (5, .int x5)] [] s0) : ∀ (x1 : Int32) (x2 : Int32) (x3 : Int32) (x4 : Int32) (x5 : Int32) (x6 : Int32) (t0 : Int32) (s0 : St), X7_rights_l81 N k28 x1 x2 x3 x4 x5 x6 t0 s0 = some o → J K (wM g) 8 (QI K g (wM g) o) 81 [(0, .ref (g.1 0)), (1, .int x1), (2, .int x2), (3, .int x3), (4, .int x4), (5, .int x5), (6, .int x6)] [.int t0] s0 := by
  intro x1 x2 x3 x4 x5 x6 t0 s0 h
  unfold X7_rights_l81 at h
  refine j_istore hC dX7_rights_81 (by decide) rfl ?_
  refine j_aload_n hC dX7_rights_83 rfl 1 rfl ?_
  refine get_X7_43 hC dX7_rights_84 ?_
  refine j_aload_n hC dX7_rights_87 rfl 1 rfl ?_
  refine get_X7_71 hC dX7_rights_88 ?_
  refine j_iload hC dX7_rights_91 6 rfl ?_
  refine ald_X7_played hC dX7_rights_93 h ?_
  intro v1 h
  refine j_pc (n2 := 94) rfl ?_
  refine ald_X7_artist hC dX7_rights_94 h ?_
  intro v2 h
  refine j_iload_n hC dX7_rights_95 rfl 2 rfl ?_
  refine j_icmp_ne (tgt := 116) hC dX7_rights_96 (by decide) h ?_ ?_
  · intro h
    refine j_sub [1, 2, 3, 4, 5, 6] rfl ?_
    exact X7_rights_l116_ok hC hk28 x1 x2 x3 x4 x5 s0 h
  · intro h
    refine j_iload hC dX7_rights_99 0 rfl ?_
    refine j_iload hC dX7_rights_101 7 rfl ?_
    refine j_icmp_le (tgt := 116) hC dX7_rights_103 (by decide) h ?_ ?_
    · intro h
      refine j_sub [1, 2, 3, 4, 5, 6] rfl ?_
      exact X7_rights_l116_ok hC hk28 x1 x2 x3 x4 x5 s0 h
    · intro h
      refine j_iload hC dX7_rights_106 5 rfl ?_
      refine j_iload hC dX7_rights_108 0 rfl ?_
      refine j_iload hC dX7_rights_110 7 rfl ?_
      refine j_isub hC dX7_rights_112 ?_
      refine j_iadd hC dX7_rights_113 ?_
      refine j_bi (E := x4 + (t0 - x6)) h (fun v3 h => ?_)
      refine j_istore hC dX7_rights_114 (by decide) rfl ?_
      refine j_sub [2, 3, 4, 5, 0, 6] rfl ?_
      exact X7_rights_l116_ok hC hk28 x1 x2 x3 v3 x5 s0 h
set_option maxRecDepth 20000 in
def X7_rights_l59 (N : Nat) (k28 : Int32 → Int32 → Int32 → Int32 → Int32 → St → Option (Int32 × St)) (x1 : Int32) (x2 : Int32) (x3 : Int32) (x4 : Int32) (x5 : Int32) (t0 : Int32) (s0 : St) : Option (Int32 × St) :=
  cal (X7_endOf_f N x5 s0) fun v1 s1 =>
  if x3 ≤ v1 then
  X7_rights_l81 N k28 x1 x2 x3 x4 x5 t0 x3 s1
  else
  cal (X7_endOf_f N x5 s1) fun v2 s2 =>
    X7_rights_l81 N k28 x1 x2 x3 x4 x5 t0 v2 s2
set_option maxRecDepth 20000 in
theorem X7_rights_l59_ok {K : Kx} {g : Gm} {N : Nat} {o : Int32 × St} (hC : Ok K cX7_rights RX7 g 8 1 (some .int)) {k28 : Int32 → Int32 → Int32 → Int32 → Int32 → St → Option (Int32 × St)} (hk28 : ∀ (x1 : Int32) (x2 : Int32) (x3 : Int32) (x4 : Int32) (x5 : Int32) (s0 : St), k28 x1 x2 x3 x4 x5 s0 = some o → J K (wM g) 8 (QI K g (wM g) o) 28 [(0, .ref (g.1 0)), (1, .int x1), (2, .int x2), (3, .int x3), (4, .int x4), (5, .int x5)] [] s0) : ∀ (x1 : Int32) (x2 : Int32) (x3 : Int32) (x4 : Int32) (x5 : Int32) (t0 : Int32) (s0 : St), X7_rights_l59 N k28 x1 x2 x3 x4 x5 t0 s0 = some o → J K (wM g) 8 (QI K g (wM g) o) 59 [(0, .ref (g.1 0)), (1, .int x1), (2, .int x2), (3, .int x3), (4, .int x4), (5, .int x5)] [.int t0] s0 := by
  intro x1 x2 x3 x4 x5 t0 s0 h
  unfold X7_rights_l59 at h
  refine j_istore hC dX7_rights_59 (by decide) rfl ?_
  refine j_aload_n hC dX7_rights_61 rfl 1 rfl ?_
  refine j_iload hC dX7_rights_62 6 rfl ?_
  obtain ⟨v1, s1, hc, h⟩ := cal_some h
  refine call_X7_237 hC (fun l D => X7_endOf_ok l D g hc) (by decide) (Nat.le_of_ble_eq_true rfl) dX7_rights_64 ?_
  refine j_iload_n hC dX7_rights_67 rfl 4 rfl ?_
  refine j_icmp_ge (tgt := 80) hC dX7_rights_68 (by decide) h ?_ ?_
  · intro h
    refine j_iload_n hC dX7_rights_80 rfl 4 rfl ?_
    refine j_sub [1, 2, 3, 4, 5, 6, 0] rfl ?_
    exact X7_rights_l81_ok hC hk28 x1 x2 x3 x4 x5 t0 x3 s1 h
  · intro h
    refine j_aload_n hC dX7_rights_71 rfl 1 rfl ?_
    refine j_iload hC dX7_rights_72 6 rfl ?_
    obtain ⟨v2, s2, hc, h⟩ := cal_some h
    refine call_X7_237 hC (fun l D => X7_endOf_ok l D g hc) (by decide) (Nat.le_of_ble_eq_true rfl) dX7_rights_74 ?_
    refine j_goto (tgt := 81) hC dX7_rights_77 (by decide) ?_
    refine j_sub [1, 2, 3, 4, 5, 6, 0] rfl ?_
    exact X7_rights_l81_ok hC hk28 x1 x2 x3 x4 x5 t0 v2 s2 h
set_option maxRecDepth 20000 in
def X7_rights_l28 (N : Nat) : Nat → Int32 → Int32 → Int32 → Int32 → Int32 → St → Option (Int32 × St)
  | 0 => fun _ _ _ _ _ _ => none
  | n + 1 => fun x1 x2 x3 x4 x5 s0 =>
  if gi s0 13 ≤ x5 then
  some (x4, s0)
  else
  ald s0 21 300 x5 fun v1 =>
    if v1 ≤ x2 then
    X7_rights_l59 N (X7_rights_l28 N n) x1 x2 x3 x4 x5 x2 s0
    else
    ald s0 21 300 x5 fun v2 =>
      X7_rights_l59 N (X7_rights_l28 N n) x1 x2 x3 x4 x5 v2 s0
set_option maxRecDepth 20000 in
theorem X7_rights_l28_ok {K : Kx} {g : Gm} {N : Nat} {o : Int32 × St} (hC : Ok K cX7_rights RX7 g 8 1 (some .int)) : ∀ (n : Nat) (x1 : Int32) (x2 : Int32) (x3 : Int32) (x4 : Int32) (x5 : Int32) (s0 : St), X7_rights_l28 N n x1 x2 x3 x4 x5 s0 = some o → J K (wM g) 8 (QI K g (wM g) o) 28 [(0, .ref (g.1 0)), (1, .int x1), (2, .int x2), (3, .int x3), (4, .int x4), (5, .int x5)] [] s0 := by
  intro n
  induction n with
  | zero => intro x1 x2 x3 x4 x5 s0 h; cases h
  | succ n ih =>
    intro x1 x2 x3 x4 x5 s0 h
    rw [X7_rights_l28] at h
    refine j_iload hC dX7_rights_28 5 rfl ?_
    refine j_aload_n hC dX7_rights_30 rfl 0 rfl ?_
    refine get_X7_218 hC dX7_rights_31 ?_
    refine j_icmp_ge (tgt := 122) hC dX7_rights_34 (by decide) h ?_ ?_
    · intro h
      refine j_iload hC dX7_rights_122 4 rfl ?_
      exact j_iret hC dX7_rights_124 rfl h
    · intro h
      refine j_aload_n hC dX7_rights_37 rfl 0 rfl ?_
      refine get_X7_74 hC dX7_rights_38 ?_
      refine j_iload hC dX7_rights_41 5 rfl ?_
      refine ald_X7_began hC dX7_rights_43 h ?_
      intro v1 h
      refine j_iload_n hC dX7_rights_44 rfl 2 rfl ?_
      refine j_icmp_le (tgt := 58) hC dX7_rights_45 (by decide) h ?_ ?_
      · intro h
        refine j_iload_n hC dX7_rights_58 rfl 2 rfl ?_
        refine j_sub [0, 1, 2, 3, 4, 5] rfl ?_
        exact X7_rights_l59_ok hC ih x1 x2 x3 x4 x5 x2 s0 h
      · intro h
        refine j_aload_n hC dX7_rights_48 rfl 0 rfl ?_
        refine get_X7_74 hC dX7_rights_49 ?_
        refine j_iload hC dX7_rights_52 5 rfl ?_
        refine ald_X7_began hC dX7_rights_54 h ?_
        intro v2 h
        refine j_goto (tgt := 59) hC dX7_rights_55 (by decide) ?_
        refine j_sub [0, 1, 2, 3, 4, 5] rfl ?_
        exact X7_rights_l59_ok hC ih x1 x2 x3 x4 x5 v2 s0 h
set_option maxRecDepth 20000 in
def X7_rights_f (N : Nat) (x1 : Int32) (x2 : Int32) (x3 : Int32) (s0 : St) : Option (Int32 × St) :=
  bnd (si s0 0 0) fun s1 =>
  cal (X7_isIn_f N x1 0 11 s1) fun v1 s2 =>
  if v1 = 0 then
  some ((-1), s2)
  else
  if x2 ≤ x3 then
    X7_rights_l28 N N x1 x2 x3 0 0 s2
    else
    some ((-1), s2)
set_option maxRecDepth 20000 in
theorem X7_rights_ok (l : Launch) (D : va_G) (g : Gm) {N : Nat} {x1 : Int32} {x2 : Int32} {x3 : Int32} {s0 : St} {o : Int32 × St} (h : X7_rights_f N x1 x2 x3 s0 = some o) : MI l yX7_rights cX7_rights 8 (some .int) 1 D g (wM g) [.ref (g.1 0), .int x1, .int x2, .int x3] s0 o := by
  refine met_I (own := RX7) (by decide) rfl (Nat.le_of_ble_eq_true rfl) (fun K hC => ?_)
  show J K (wM g) 8 (QI K g (wM g) o) 0 [(0, .ref (g.1 0)), (1, .int x1), (2, .int x2), (3, .int x3)] [] s0
  unfold X7_rights_f at h
  refine j_aload_n hC dX7_rights_0 rfl 0 rfl ?_
  refine j_iconst (v := 0) hC dX7_rights_1 (by decide) ?_
  refine put_X7_105 hC dX7_rights_2 h ?_
  intro s1 h
  refine j_iload_n hC dX7_rights_5 rfl 1 rfl ?_
  refine j_iconst (v := 0) hC dX7_rights_6 (by decide) ?_
  refine j_bipush (v := 11) hC dX7_rights_7 (by decide) ?_
  obtain ⟨v1, s2, hc, h⟩ := cal_some h
  refine call_X7_208 hC (fun l D => X7_isIn_ok l D g hc) (by decide) (Nat.le_of_ble_eq_true rfl) dX7_rights_9 ?_
  refine j_pc (n2 := 12) rfl ?_
  refine j_if_eq (tgt := 20) hC dX7_rights_12 (by decide) h ?_ ?_
  · intro h
    refine j_iconst (v := (-1)) hC dX7_rights_20 (by decide) ?_
    exact j_iret hC dX7_rights_21 rfl h
  · intro h
    refine j_iload_n hC dX7_rights_15 rfl 3 rfl ?_
    refine j_iload_n hC dX7_rights_16 rfl 2 rfl ?_
    refine j_icmp_ge (tgt := 22) hC dX7_rights_17 (by decide) h ?_ ?_
    · intro h
      refine j_iconst (v := 0) hC dX7_rights_22 (by decide) ?_
      refine j_istore hC dX7_rights_23 (by decide) rfl ?_
      refine j_iconst (v := 0) hC dX7_rights_25 (by decide) ?_
      refine j_istore hC dX7_rights_26 (by decide) rfl ?_
      refine j_sub [2, 3, 4, 5, 1, 0] rfl ?_
      exact X7_rights_l28_ok hC N x1 x2 x3 0 0 s2 h
    · intro h
      refine j_iconst (v := (-1)) hC dX7_rights_20 (by decide) ?_
      exact j_iret hC dX7_rights_21 rfl h
set_option maxRecDepth 20000 in
def X7_items_f (N : Nat) (x1 : Int32) (s0 : St) : Option (Int32 × St) :=
  cal (X7_isClock_f N x1 s0) fun v1 s1 =>
  if v1 = 0 then
  cal (X7_refuse_f N  s1) fun v3 s3 =>
    some (v3, s3)
  else
  bnd (si s1 0 0) fun s2 =>
    ald s2 6 7 x1 fun v2 =>
    some (v2, s2)
set_option maxRecDepth 20000 in
theorem X7_items_ok (l : Launch) (D : va_G) (g : Gm) {N : Nat} {x1 : Int32} {s0 : St} {o : Int32 × St} (h : X7_items_f N x1 s0 = some o) : MI l yX7_items cX7_items 2 (some .int) 1 D g (wM g) [.ref (g.1 0), .int x1] s0 o := by
  refine met_I (own := RX7) (by decide) rfl (Nat.le_of_ble_eq_true rfl) (fun K hC => ?_)
  show J K (wM g) 2 (QI K g (wM g) o) 0 [(0, .ref (g.1 0)), (1, .int x1)] [] s0
  unfold X7_items_f at h
  refine j_iload_n hC dX7_items_0 rfl 1 rfl ?_
  obtain ⟨v1, s1, hc, h⟩ := cal_some h
  refine call_X7_196 hC (fun l D => X7_isClock_ok l D g hc) (by decide) (Nat.le_of_ble_eq_true rfl) dX7_items_1 ?_
  refine j_if_ne (tgt := 12) hC dX7_items_4 (by decide) h ?_ ?_
  · intro h
    refine j_aload_n hC dX7_items_12 rfl 0 rfl ?_
    refine j_iconst (v := 0) hC dX7_items_13 (by decide) ?_
    refine put_X7_105 hC dX7_items_14 h ?_
    intro s2 h
    refine j_aload_n hC dX7_items_17 rfl 0 rfl ?_
    refine get_X7_28 hC dX7_items_18 ?_
    refine j_iload_n hC dX7_items_21 rfl 1 rfl ?_
    refine ald_X7_many hC dX7_items_22 h ?_
    intro v2 h
    refine j_pc (n2 := 23) rfl ?_
    exact j_iret hC dX7_items_23 rfl h
  · intro h
    refine j_aload_n hC dX7_items_7 rfl 0 rfl ?_
    obtain ⟨v3, s3, hc, h⟩ := cal_some h
    refine call_X7_199 hC (fun l D => X7_refuse_ok l D g hc) (by decide) (Nat.le_of_ble_eq_true rfl) dX7_items_8 ?_
    exact j_iret hC dX7_items_11 rfl h
set_option maxRecDepth 20000 in
def X7_count_l9 (N : Nat) : Nat → Int32 → Int32 → Int32 → St → Option (Int32 × St)
  | 0 => fun _ _ _ _ => none
  | n + 1 => fun x1 x2 x3 s0 =>
  if gi s0 12 ≤ x3 then
  tsw7 x1
    (some (gi s0 14, s0))
    (some (gi s0 12, s0))
    (some (gi s0 13, s0))
    (some (gi s0 15, s0))
    (some (gi s0 16, s0))
    (some (x2, s0))
    (some (gi s0 1, s0))
    (some ((-1), s0))
  else
  ald s0 15 24 x3 fun v1 =>
    bnd (x2 + v1) fun v2 =>
    bnd (x3 + 1) fun v3 =>
    (X7_count_l9 N n) x1 v2 v3 s0
set_option maxRecDepth 20000 in
theorem X7_count_l9_ok {K : Kx} {g : Gm} {N : Nat} {o : Int32 × St} (hC : Ok K cX7_count RX7 g 4 0 (some .int)) : ∀ (n : Nat) (x1 : Int32) (x2 : Int32) (x3 : Int32) (s0 : St), X7_count_l9 N n x1 x2 x3 s0 = some o → J K (wM g) 4 (QI K g (wM g) o) 9 [(0, .ref (g.1 0)), (1, .int x1), (2, .int x2), (3, .int x3)] [] s0 := by
  intro n
  induction n with
  | zero => intro x1 x2 x3 s0 h; cases h
  | succ n ih =>
    intro x1 x2 x3 s0 h
    rw [X7_count_l9] at h
    refine j_iload_n hC dX7_count_9 rfl 3 rfl ?_
    refine j_aload_n hC dX7_count_10 rfl 0 rfl ?_
    refine get_X7_205 hC dX7_count_11 ?_
    refine j_icmp_ge (tgt := 32) hC dX7_count_14 (by decide) h ?_ ?_
    · intro h
      refine j_iload_n hC dX7_count_32 rfl 1 rfl ?_
      refine j_tsw7 (t0 := 76) (t1 := 81) (t2 := 86) (t3 := 91) (t4 := 96) (t5 := 101) (t6 := 103) (t := 108) hC dX7_count_33 (by decide) (by decide) (by decide) (by decide) (by decide) (by decide) (by decide) (by decide) h ?_ ?_ ?_ ?_ ?_ ?_ ?_ ?_
      · intro h
        refine j_aload_n hC dX7_count_76 rfl 0 rfl ?_
        refine get_X7_264 hC dX7_count_77 ?_
        exact j_iret hC dX7_count_80 rfl h
      · intro h
        refine j_aload_n hC dX7_count_81 rfl 0 rfl ?_
        refine get_X7_205 hC dX7_count_82 ?_
        exact j_iret hC dX7_count_85 rfl h
      · intro h
        refine j_aload_n hC dX7_count_86 rfl 0 rfl ?_
        refine get_X7_218 hC dX7_count_87 ?_
        exact j_iret hC dX7_count_90 rfl h
      · intro h
        refine j_aload_n hC dX7_count_91 rfl 0 rfl ?_
        refine get_X7_270 hC dX7_count_92 ?_
        exact j_iret hC dX7_count_95 rfl h
      · intro h
        refine j_aload_n hC dX7_count_96 rfl 0 rfl ?_
        refine get_X7_267 hC dX7_count_97 ?_
        exact j_iret hC dX7_count_100 rfl h
      · intro h
        refine j_iload_n hC dX7_count_101 rfl 2 rfl ?_
        exact j_iret hC dX7_count_102 rfl h
      · intro h
        refine j_aload_n hC dX7_count_103 rfl 0 rfl ?_
        refine get_X7_109 hC dX7_count_104 ?_
        exact j_iret hC dX7_count_107 rfl h
      · intro h
        refine j_iconst (v := (-1)) hC dX7_count_108 (by decide) ?_
        exact j_iret hC dX7_count_109 rfl h
    · intro h
      refine j_iload_n hC dX7_count_17 rfl 2 rfl ?_
      refine j_aload_n hC dX7_count_18 rfl 0 rfl ?_
      refine get_X7_55 hC dX7_count_19 ?_
      refine j_iload_n hC dX7_count_22 rfl 3 rfl ?_
      refine ald_X7_open hC dX7_count_23 h ?_
      intro v1 h
      refine j_iadd hC dX7_count_24 ?_
      refine j_bi (E := x2 + v1) h (fun v2 h => ?_)
      refine j_istore_n hC dX7_count_25 rfl (by decide) rfl ?_
      refine j_pc (n2 := 26) rfl ?_
      refine j_iincb (n2 := 1) (k0 := 3) (lv2 := fun z => [(3, .int z), (2, .int v2), (0, .ref (g.1 0)), (1, .int x1)]) hC dX7_count_26 rfl (by decide) (by decide) (fun _ => rfl) h (fun v3 h => ?_)
      refine j_goto (tgt := 9) hC dX7_count_29 (by decide) ?_
      refine j_sub [2, 3, 1, 0] rfl ?_
      exact ih x1 v2 v3 s0 h
set_option maxRecDepth 20000 in
def X7_count_f (N : Nat) (x1 : Int32) (s0 : St) : Option (Int32 × St) :=
  bnd (si s0 0 0) fun s1 =>
  X7_count_l9 N N x1 0 0 s1
set_option maxRecDepth 20000 in
theorem X7_count_ok (l : Launch) (D : va_G) (g : Gm) {N : Nat} {x1 : Int32} {s0 : St} {o : Int32 × St} (h : X7_count_f N x1 s0 = some o) : MI l yX7_count cX7_count 4 (some .int) 0 D g (wM g) [.ref (g.1 0), .int x1] s0 o := by
  refine met_I (own := RX7) (by decide) rfl (Nat.le_of_ble_eq_true rfl) (fun K hC => ?_)
  show J K (wM g) 4 (QI K g (wM g) o) 0 [(0, .ref (g.1 0)), (1, .int x1)] [] s0
  unfold X7_count_f at h
  refine j_aload_n hC dX7_count_0 rfl 0 rfl ?_
  refine j_iconst (v := 0) hC dX7_count_1 (by decide) ?_
  refine put_X7_105 hC dX7_count_2 h ?_
  intro s1 h
  refine j_iconst (v := 0) hC dX7_count_5 (by decide) ?_
  refine j_istore_n hC dX7_count_6 rfl (by decide) rfl ?_
  refine j_iconst (v := 0) hC dX7_count_7 (by decide) ?_
  refine j_istore_n hC dX7_count_8 rfl (by decide) rfl ?_
  refine j_sub [2, 3, 1, 0] rfl ?_
  exact X7_count_l9_ok hC N x1 0 0 s1 h
