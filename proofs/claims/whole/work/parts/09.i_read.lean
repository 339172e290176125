set_option maxRecDepth 20000 in
def X5_isWord_l28 (N : Nat) : Nat → Nat → Int32 → St → Option (Int32 × St)
  | 0 => fun _ _ _ => none
  | n + 1 => fun i1 x2 s0 =>
  if nI (lenS.getD i1 0) ≤ x2 then
  some (1, s0)
  else
  ald s0 0 260 ((gi s0 6) + x2) fun v1 =>
    stb (chS i1) (lenS.getD i1 0) x2 fun v2 =>
    if v1 = v2 then
    bnd (x2 + 1) fun v3 =>
      (X5_isWord_l28 N n) i1 v3 s0
    else
    some (0, s0)
set_option maxRecDepth 20000 in
theorem X5_isWord_l28_ok {K : Kx} {g : Gm} {N : Nat} {o : Int32 × St} (hC : Ok K cX5_isWord RX5 g 3 4 (some .boolean)) : ∀ (n : Nat) (i1 : Nat) (x2 : Int32) (s0 : St), i1 < 12 → X5_isWord_l28 N n i1 x2 s0 = some o → J K (wX g) 3 (QI K g (wX g) o) 28 [(0, .ref (g.1 2)), (1, .ref ((adS (s0G g)).1 i1)), (2, .int x2)] [] s0 := by
  intro n
  induction n with
  | zero => intro i1 x2 s0 hi1 h; cases h
  | succ n ih =>
    intro i1 x2 s0 hi1 h
    rw [X5_isWord_l28] at h
    refine j_iload_n hC dX5_isWord_28 rfl 2 rfl ?_
    refine j_aload_n hC dX5_isWord_29 rfl 1 rfl ?_
    refine str_len hC hi1 (by decide) (Nat.le_of_ble_eq_true rfl) dX5_isWord_30 ?_
    refine j_icmp_ge (tgt := 63) hC dX5_isWord_33 (by decide) h ?_ ?_
    · intro h
      refine j_iconst (v := 1) hC dX5_isWord_63 (by decide) ?_
      exact j_iret hC dX5_isWord_64 rfl h
    · intro h
      refine j_aload_n hC dX5_isWord_36 rfl 0 rfl ?_
      refine get_X5_9 hC dX5_isWord_37 ?_
      refine j_aload_n hC dX5_isWord_40 rfl 0 rfl ?_
      refine get_X5_49 hC dX5_isWord_41 ?_
      refine j_iload_n hC dX5_isWord_44 rfl 2 rfl ?_
      refine j_iadd hC dX5_isWord_45 ?_
      refine ald_X5_bytes hC dX5_isWord_46 h ?_
      intro v1 h
      refine j_pc (n2 := 47) rfl ?_
      refine j_aload_n hC dX5_isWord_47 rfl 1 rfl ?_
      refine j_iload_n hC dX5_isWord_48 rfl 2 rfl ?_
      refine str_chr hC hi1 (by decide) (Nat.le_of_ble_eq_true rfl) dX5_isWord_49 h ?_
      intro v2 h
      refine j_icmp_eq (tgt := 57) hC dX5_isWord_52 (by decide) h ?_ ?_
      · intro h
        refine j_iincb (n2 := 1) (k0 := 2) (lv2 := fun z => [(2, .int z), (0, .ref (g.1 2)), (1, .ref ((adS (s0G g)).1 i1))]) hC dX5_isWord_57 rfl (by decide) (by decide) (fun _ => rfl) h (fun v3 h => ?_)
        refine j_goto (tgt := 28) hC dX5_isWord_60 (by decide) ?_
        refine j_sub [1, 2, 0] rfl ?_
        exact ih i1 v3 s0 hi1 h
      · intro h
        refine j_iconst (v := 0) hC dX5_isWord_55 (by decide) ?_
        exact j_iret hC dX5_isWord_56 rfl h
set_option maxRecDepth 20000 in
def X5_isWord_f (N : Nat) (i1 : Nat) (s0 : St) : Option (Int32 × St) :=
  if gi s0 3 = 2 then
  if (gi s0 7) - (gi s0 6) = nI (lenS.getD i1 0) then
    X5_isWord_l28 N N i1 0 s0
    else
    some (0, s0)
  else
  some (0, s0)
set_option maxRecDepth 20000 in
theorem X5_isWord_ok (l : Launch) (D : va_G) (g : Gm) {N : Nat} {i1 : Nat} (hi1 : i1 < 12) {s0 : St} {o : Int32 × St} (h : X5_isWord_f N i1 s0 = some o) : MI l yX5_isWord cX5_isWord 3 (some .boolean) 4 D g (wX g) [.ref (g.1 2), .ref ((adS (s0G g)).1 i1)] s0 o := by
  refine met_I (own := RX5) (by decide) rfl (Nat.le_of_ble_eq_true rfl) (fun K hC => ?_)
  show J K (wX g) 3 (QI K g (wX g) o) 0 [(0, .ref (g.1 2)), (1, .ref ((adS (s0G g)).1 i1))] [] s0
  unfold X5_isWord_f at h
  refine j_aload_n hC dX5_isWord_0 rfl 0 rfl ?_
  refine get_X5_40 hC dX5_isWord_1 ?_
  refine j_iconst (v := 2) hC dX5_isWord_4 (by decide) ?_
  refine j_icmp_ne (tgt := 24) hC dX5_isWord_5 (by decide) h ?_ ?_
  · intro h
    refine j_iconst (v := 0) hC dX5_isWord_24 (by decide) ?_
    exact j_iret hC dX5_isWord_25 rfl h
  · intro h
    refine j_aload_n hC dX5_isWord_8 rfl 0 rfl ?_
    refine get_X5_26 hC dX5_isWord_9 ?_
    refine j_aload_n hC dX5_isWord_12 rfl 0 rfl ?_
    refine get_X5_49 hC dX5_isWord_13 ?_
    refine j_isub hC dX5_isWord_16 ?_
    refine j_aload_n hC dX5_isWord_17 rfl 1 rfl ?_
    refine str_len hC hi1 (by decide) (Nat.le_of_ble_eq_true rfl) dX5_isWord_18 ?_
    refine j_pc (n2 := 21) rfl ?_
    refine j_icmp_eq (tgt := 26) hC dX5_isWord_21 (by decide) h ?_ ?_
    · intro h
      refine j_iconst (v := 0) hC dX5_isWord_26 (by decide) ?_
      refine j_istore_n hC dX5_isWord_27 rfl (by decide) rfl ?_
      refine j_sub [1, 2, 0] rfl ?_
      exact X5_isWord_l28_ok hC N i1 0 s0 hi1 h
    · intro h
      refine j_iconst (v := 0) hC dX5_isWord_24 (by decide) ?_
      exact j_iret hC dX5_isWord_25 rfl h
set_option maxRecDepth 20000 in
def X3_named_f (N : Nat) (s0 : St) : Option (Int32 × St) :=
  cal (X5_isWord_f N 0 s0) fun v1 s1 =>
  if v1 = 0 then
  cal (X5_isWord_f N 1 s1) fun v2 s2 =>
    if v2 = 0 then
    cal (X5_isWord_f N 2 s2) fun v3 s3 =>
      if v3 = 0 then
      cal (X5_isWord_f N 3 s3) fun v4 s4 =>
        if v4 = 0 then
        cal (X5_isWord_f N 4 s4) fun v5 s5 =>
          if v5 = 0 then
          some ((-1), s5)
          else
          some (4, s5)
        else
        some (3, s4)
      else
      some (2, s3)
    else
    some (1, s2)
  else
  some (0, s1)
set_option maxRecDepth 20000 in
theorem X3_named_ok (l : Launch) (D : va_G) (g : Gm) {N : Nat} {s0 : St} {o : Int32 × St} (h : X3_named_f N s0 = some o) : MI l yX3_named cX3_named 1 (some .int) 5 D g (wX g) [.ref (g.1 2)] s0 o := by
  refine met_I (own := RX3) (by decide) rfl (Nat.le_of_ble_eq_true rfl) (fun K hC => ?_)
  show J K (wX g) 1 (QI K g (wX g) o) 0 [(0, .ref (g.1 2))] [] s0
  unfold X3_named_f at h
  refine j_aload_n hC dX3_named_0 rfl 0 rfl ?_
  obtain ⟨v1, s1, hc, h⟩ := cal_some h
  refine isw_X3_79 hC (fun l D => X5_isWord_ok l D g (by decide) hc) (by decide) (Nat.le_of_ble_eq_true rfl) dX3_named_1 dX3_named_3 ?_
  refine j_if_eq (tgt := 11) hC dX3_named_6 (by decide) h ?_ ?_
  · intro h
    refine j_aload_n hC dX3_named_11 rfl 0 rfl ?_
    obtain ⟨v2, s2, hc, h⟩ := cal_some h
    refine isw_X3_85 hC (fun l D => X5_isWord_ok l D g (by decide) hc) (by decide) (Nat.le_of_ble_eq_true rfl) dX3_named_12 dX3_named_14 ?_
    refine j_if_eq (tgt := 22) hC dX3_named_17 (by decide) h ?_ ?_
    · intro h
      refine j_aload_n hC dX3_named_22 rfl 0 rfl ?_
      obtain ⟨v3, s3, hc, h⟩ := cal_some h
      refine isw_X3_87 hC (fun l D => X5_isWord_ok l D g (by decide) hc) (by decide) (Nat.le_of_ble_eq_true rfl) dX3_named_23 dX3_named_25 ?_
      refine j_if_eq (tgt := 33) hC dX3_named_28 (by decide) h ?_ ?_
      · intro h
        refine j_aload_n hC dX3_named_33 rfl 0 rfl ?_
        obtain ⟨v4, s4, hc, h⟩ := cal_some h
        refine isw_X3_89 hC (fun l D => X5_isWord_ok l D g (by decide) hc) (by decide) (Nat.le_of_ble_eq_true rfl) dX3_named_34 dX3_named_36 ?_
        refine j_if_eq (tgt := 44) hC dX3_named_39 (by decide) h ?_ ?_
        · intro h
          refine j_aload_n hC dX3_named_44 rfl 0 rfl ?_
          obtain ⟨v5, s5, hc, h⟩ := cal_some h
          refine isw_X3_91 hC (fun l D => X5_isWord_ok l D g (by decide) hc) (by decide) (Nat.le_of_ble_eq_true rfl) dX3_named_45 dX3_named_47 ?_
          refine j_if_eq (tgt := 57) hC dX3_named_50 (by decide) h ?_ ?_
          · intro h
            refine j_iconst (v := (-1)) hC dX3_named_57 (by decide) ?_
            exact j_iret hC dX3_named_58 rfl h
          · intro h
            refine j_iconst (v := 4) hC dX3_named_53 (by decide) ?_
            refine j_goto (tgt := 58) hC dX3_named_54 (by decide) ?_
            exact j_iret hC dX3_named_58 rfl h
        · intro h
          refine j_iconst (v := 3) hC dX3_named_42 (by decide) ?_
          exact j_iret hC dX3_named_43 rfl h
      · intro h
        refine j_iconst (v := 2) hC dX3_named_31 (by decide) ?_
        exact j_iret hC dX3_named_32 rfl h
    · intro h
      refine j_iconst (v := 1) hC dX3_named_20 (by decide) ?_
      exact j_iret hC dX3_named_21 rfl h
  · intro h
    refine j_iconst (v := 0) hC dX3_named_9 (by decide) ?_
    exact j_iret hC dX3_named_10 rfl h
set_option maxRecDepth 20000 in
def X3_startAnew_l15 (N : Nat) : Nat → Int32 → St → Option (Int32 × St)
  | 0 => fun _ _ => none
  | n + 1 => fun x1 s0 =>
  if 5 ≤ x1 then
  bnd (si s0 8 0) fun s1 =>
    some (0, s1)
  else
  ast s0 3 5 x1 (vp_nar .boolean 0) fun s2 =>
    bnd (x1 + 1) fun v1 =>
    (X3_startAnew_l15 N n) v1 s2
set_option maxRecDepth 20000 in
theorem X3_startAnew_l15_ok {K : Kx} {g : Gm} {N : Nat} {o : Int32 × St} (hC : Ok K cX3_startAnew RX3 g 2 1 none) : ∀ (n : Nat) (x1 : Int32) (s0 : St), X3_startAnew_l15 N n x1 s0 = some o → J K (wX g) 2 (QV K g (wX g) o) 15 [(0, .ref (g.1 4)), (1, .int x1)] [] s0 := by
  intro n
  induction n with
  | zero => intro x1 s0 h; cases h
  | succ n ih =>
    intro x1 s0 h
    rw [X3_startAnew_l15] at h
    refine j_iload_n hC dX3_startAnew_15 rfl 1 rfl ?_
    refine j_iconst (v := 5) hC dX3_startAnew_16 (by decide) ?_
    refine j_icmp_ge (tgt := 33) hC dX3_startAnew_17 (by decide) h ?_ ?_
    · intro h
      refine j_aload_n hC dX3_startAnew_33 rfl 0 rfl ?_
      refine j_iconst (v := 0) hC dX3_startAnew_34 (by decide) ?_
      refine put_X3_48 hC dX3_startAnew_35 h ?_
      intro s1 h
      exact j_vret (v := 0) hC dX3_startAnew_38 h
    · intro h
      refine j_aload_n hC dX3_startAnew_20 rfl 0 rfl ?_
      refine get_X3_18 hC dX3_startAnew_21 ?_
      refine j_iload_n hC dX3_startAnew_24 rfl 1 rfl ?_
      refine j_iconst (v := 0) hC dX3_startAnew_25 (by decide) ?_
      refine ast_X3_isTold hC dX3_startAnew_26 h ?_
      intro s2 h
      refine j_iincb (n2 := 1) (k0 := 1) (lv2 := fun z => [(1, .int z), (0, .ref (g.1 4))]) hC dX3_startAnew_27 rfl (by decide) (by decide) (fun _ => rfl) h (fun v1 h => ?_)
      refine j_goto (tgt := 15) hC dX3_startAnew_30 (by decide) ?_
      refine j_sub [1, 0] rfl ?_
      exact ih v1 s2 h
set_option maxRecDepth 20000 in
def X3_startAnew_f (N : Nat) (s0 : St) : Option (Int32 × St) :=
  bnd (sg s0 2 (va_cpy tb_USUAL (ga s0 2) 0 0 5)) fun s1 =>
  X3_startAnew_l15 N N 0 s1
set_option maxRecDepth 20000 in
theorem X3_startAnew_ok (l : Launch) (D : va_G) (g : Gm) {N : Nat} {s0 : St} {o : Int32 × St} (h : X3_startAnew_f N s0 = some o) : MV l yX3_startAnew cX3_startAnew 2 none 1 D g (wX g) [.ref (g.1 4)] s0 o := by
  refine met_V (own := RX3) (by decide) rfl (Nat.le_of_ble_eq_true rfl) (fun K hC => ?_)
  show J K (wX g) 2 (QV K g (wX g) o) 0 [(0, .ref (g.1 4))] [] s0
  unfold X3_startAnew_f at h
  obtain ⟨t_USUAL, hZ, hT⟩ := tab_USUAL hC.base
  refine j_gets hC hZ mf_sta_USUAL dX3_startAnew_0 ?_
  refine j_iconst (v := 0) hC dX3_startAnew_3 (by decide) ?_
  refine j_aload_n hC dX3_startAnew_4 rfl 0 rfl ?_
  refine get_X3_15 hC dX3_startAnew_5 ?_
  refine j_iconst (v := 0) hC dX3_startAnew_8 (by decide) ?_
  refine j_iconst (v := 5) hC dX3_startAnew_9 (by decide) ?_
  refine cpy_tab_next hC hT (by decide) (Nat.le_of_ble_eq_true rfl) dX3_startAnew_10 h ?_
  intro s1 h
  refine j_pc (n2 := 13) rfl ?_
  refine j_iconst (v := 0) hC dX3_startAnew_13 (by decide) ?_
  refine j_istore_n hC dX3_startAnew_14 rfl (by decide) rfl ?_
  refine j_sub [1, 0] rfl ?_
  exact X3_startAnew_l15_ok hC N 0 s1 h
set_option maxRecDepth 20000 in
def X3_readOne_f (N : Nat) (s0 : St) : Option (Int32 × St) :=
  cal (X3_named_f N  s0) fun v1 s1 =>
  if v1 = (-1) then
  cal (X5_refuse_f N 1 s1) fun v9 s9 =>
    chk (isZ v9) (some (v9, s9))
  else
  ald s1 3 5 v1 fun v2 =>
    if v2 = 0 then
    stb tb_LOWEST 5 v1 fun v3 =>
      stb tb_HIGHEST 5 v1 fun v4 =>
      cal (X5_stepToNumber_f N v3 v4 s1) fun v5 s2 =>
      if v5 = 0 then
      some (0, s2)
      else
      ast s2 2 5 v1 (gi s2 4) fun s3 =>
        ast s3 3 5 v1 (vp_nar .boolean 1) fun s4 =>
        bnd (si s4 8 ((gi s4 8) + 1)) fun s5 =>
        cal (X5_step_f N  s5) fun _ s6 =>
        cal (X5_passSemicolon_f N  s6) fun v7 s7 =>
        chk (isZ v7) (some (v7, s7))
    else
    cal (X5_refuse_f N 3 s1) fun v8 s8 =>
      chk (isZ v8) (some (v8, s8))
set_option maxRecDepth 20000 in
theorem X3_readOne_ok (l : Launch) (D : va_G) (g : Gm) {N : Nat} {s0 : St} {o : Int32 × St} (h : X3_readOne_f N s0 = some o) : MI l yX3_readOne cX3_readOne 3 (some .boolean) 6 D g (wX g) [.ref (g.1 4), .ref (g.1 2)] s0 o := by
  refine met_I (own := RX3) (by decide) rfl (Nat.le_of_ble_eq_true rfl) (fun K hC => ?_)
  show J K (wX g) 3 (QI K g (wX g) o) 0 [(0, .ref (g.1 4)), (1, .ref (g.1 2))] [] s0
  unfold X3_readOne_f at h
  refine j_aload_n hC dX3_readOne_0 rfl 1 rfl ?_
  obtain ⟨v1, s1, hc, h⟩ := cal_some h
  refine call_X3_51 hC (fun l D => X3_named_ok l D g hc) (by decide) (Nat.le_of_ble_eq_true rfl) dX3_readOne_1 ?_
  refine j_istore_n hC dX3_readOne_4 rfl (by decide) rfl ?_
  refine j_iload_n hC dX3_readOne_5 rfl 0 rfl ?_
  refine j_iconst (v := (-1)) hC dX3_readOne_6 (by decide) ?_
  refine j_icmp_ne (tgt := 16) hC dX3_readOne_7 (by decide) h ?_ ?_
  · intro h
    refine j_aload_n hC dX3_readOne_16 rfl 1 rfl ?_
    refine get_X3_18 hC dX3_readOne_17 ?_
    refine j_iload_n hC dX3_readOne_20 rfl 0 rfl ?_
    refine ald_X3_isTold hC dX3_readOne_21 h ?_
    intro v2 h
    refine j_if_eq (tgt := 31) hC dX3_readOne_22 (by decide) h ?_ ?_
    · intro h
      refine j_aload_n hC dX3_readOne_31 rfl 2 rfl ?_
      refine sta_LOWEST hC dX3_readOne_32 dX3_readOne_35 rfl 0 rfl dX3_readOne_36 h ?_
      intro v3 h
      refine sta_HIGHEST hC dX3_readOne_37 dX3_readOne_40 rfl 0 rfl dX3_readOne_41 h ?_
      intro v4 h
      obtain ⟨v5, s2, hc, h⟩ := cal_some h
      refine call_X3_65 hC (fun l D => X5_stepToNumber_ok l D g hc) (by decide) (Nat.le_of_ble_eq_true rfl) dX3_readOne_42 ?_
      refine j_if_ne (tgt := 50) hC dX3_readOne_45 (by decide) h ?_ ?_
      · intro h
        refine j_aload_n hC dX3_readOne_50 rfl 1 rfl ?_
        refine get_X3_15 hC dX3_readOne_51 ?_
        refine j_iload_n hC dX3_readOne_54 rfl 0 rfl ?_
        refine j_aload_n hC dX3_readOne_55 rfl 2 rfl ?_
        refine get_X3_69 hC dX3_readOne_56 ?_
        refine ast_X3_next hC dX3_readOne_59 h ?_
        intro s3 h
        refine j_aload_n hC dX3_readOne_60 rfl 1 rfl ?_
        refine j_pc (n2 := 61) rfl ?_
        refine get_X3_18 hC dX3_readOne_61 ?_
        refine j_iload_n hC dX3_readOne_64 rfl 0 rfl ?_
        refine j_iconst (v := 1) hC dX3_readOne_65 (by decide) ?_
        refine ast_X3_isTold hC dX3_readOne_66 h ?_
        intro s4 h
        refine j_aload_n hC dX3_readOne_67 rfl 1 rfl ?_
        refine j_dup hC rfl dX3_readOne_68 ?_
        refine get_X3_48 hC dX3_readOne_69 ?_
        refine j_iconst (v := 1) hC dX3_readOne_72 (by decide) ?_
        refine j_pc (n2 := 73) rfl ?_
        refine j_iadd hC dX3_readOne_73 ?_
        refine put_X3_48 hC dX3_readOne_74 h ?_
        intro s5 h
        refine j_aload_n hC dX3_readOne_77 rfl 2 rfl ?_
        obtain ⟨v6, s6, hc, h⟩ := cal_some h
        refine call_X3_72 hC (fun l D => X5_step_ok l D g hc) (by decide) (Nat.le_of_ble_eq_true rfl) dX3_readOne_78 ?_
        refine j_aload_n hC dX3_readOne_81 rfl 2 rfl ?_
        obtain ⟨v7, s7, hc, h⟩ := cal_some h
        refine call_X3_75 hC (fun l D => X5_passSemicolon_ok l D g hc) (by decide) (Nat.le_of_ble_eq_true rfl) dX3_readOne_82 ?_
        obtain ⟨hz, h⟩ := chk_some h
        exact j_iret hC dX3_readOne_85 (isZ_nar hz) h
      · intro h
        refine j_iconst (v := 0) hC dX3_readOne_48 (by decide) ?_
        exact j_iret hC dX3_readOne_49 rfl h
    · intro h
      refine j_aload_n hC dX3_readOne_25 rfl 2 rfl ?_
      refine j_iconst (v := 3) hC dX3_readOne_26 (by decide) ?_
      obtain ⟨v8, s8, hc, h⟩ := cal_some h
      refine call_X3_55 hC (fun l D => X5_refuse_ok l D g hc) (by decide) (Nat.le_of_ble_eq_true rfl) dX3_readOne_27 ?_
      obtain ⟨hz, h⟩ := chk_some h
      exact j_iret hC dX3_readOne_30 (isZ_nar hz) h
  · intro h
    refine j_aload_n hC dX3_readOne_10 rfl 2 rfl ?_
    refine j_iconst (v := 1) hC dX3_readOne_11 (by decide) ?_
    obtain ⟨v9, s9, hc, h⟩ := cal_some h
    refine call_X3_55 hC (fun l D => X5_refuse_ok l D g hc) (by decide) (Nat.le_of_ble_eq_true rfl) dX3_readOne_12 ?_
    obtain ⟨hz, h⟩ := chk_some h
    exact j_iret hC dX3_readOne_15 (isZ_nar hz) h
set_option maxRecDepth 20000 in
def X3_read_l41 (N : Nat) (s0 : St) : Option (Int32 × St) :=
  bnd (sg s0 1 (va_cpy (ga s0 2) (ga s0 1) 0 0 5)) fun s1 =>
  some (1, s1)
set_option maxRecDepth 20000 in
theorem X3_read_l41_ok {K : Kx} {g : Gm} {N : Nat} {o : Int32 × St} (hC : Ok K cX3_read RX3 g 3 7 (some .boolean)) : ∀ (s0 : St), X3_read_l41 N  s0 = some o → J K (wX g) 3 (QI K g (wX g) o) 41 [(0, .ref (g.1 4))] [] s0 := by
  intro  s0 h
  unfold X3_read_l41 at h
  refine j_aload_n hC dX3_read_41 rfl 0 rfl ?_
  refine get_X3_15 hC dX3_read_42 ?_
  refine j_iconst (v := 0) hC dX3_read_45 (by decide) ?_
  refine j_aload_n hC dX3_read_46 rfl 0 rfl ?_
  refine get_X3_11 hC dX3_read_47 ?_
  refine j_iconst (v := 0) hC dX3_read_50 (by decide) ?_
  refine j_iconst (v := 5) hC dX3_read_51 (by decide) ?_
  refine j_pc (n2 := 52) rfl ?_
  refine cpy_next_now hC (by decide) (Nat.le_of_ble_eq_true rfl) dX3_read_52 h ?_
  intro s1 h
  refine j_iconst (v := 1) hC dX3_read_55 (by decide) ?_
  exact j_iret hC dX3_read_56 rfl h
set_option maxRecDepth 20000 in
def X3_read_l12 (N : Nat) : Nat → Int32 → St → Option (Int32 × St)
  | 0 => fun _ _ => none
  | n + 1 => fun x2 s0 =>
  if 5 < x2 then
  X3_read_l41 N s0
  else
  if gi s0 3 = 1 then
    X3_read_l41 N s0
    else
    cal (X3_readOne_f N  s0) fun v1 s1 =>
      if v1 = 0 then
      some (0, s1)
      else
      bnd (x2 + 1) fun v2 =>
        (X3_read_l12 N n) v2 s1
set_option maxRecDepth 20000 in
theorem X3_read_l12_ok {K : Kx} {g : Gm} {N : Nat} {o : Int32 × St} (hC : Ok K cX3_read RX3 g 3 7 (some .boolean)) : ∀ (n : Nat) (x2 : Int32) (s0 : St), X3_read_l12 N n x2 s0 = some o → J K (wX g) 3 (QI K g (wX g) o) 12 [(0, .ref (g.1 4)), (1, .ref (g.1 2)), (2, .int x2)] [] s0 := by
  intro n
  induction n with
  | zero => intro x2 s0 h; cases h
  | succ n ih =>
    intro x2 s0 h
    rw [X3_read_l12] at h
    refine j_iload_n hC dX3_read_12 rfl 2 rfl ?_
    refine j_iconst (v := 5) hC dX3_read_13 (by decide) ?_
    refine j_icmp_gt (tgt := 41) hC dX3_read_14 (by decide) h ?_ ?_
    · intro h
      refine j_sub [0] rfl ?_
      exact X3_read_l41_ok hC s0 h
    · intro h
      refine j_aload_n hC dX3_read_17 rfl 1 rfl ?_
      refine get_X3_40 hC dX3_read_18 ?_
      refine j_iconst (v := 1) hC dX3_read_21 (by decide) ?_
      refine j_icmp_eq (tgt := 41) hC dX3_read_22 (by decide) h ?_ ?_
      · intro h
        refine j_sub [0] rfl ?_
        exact X3_read_l41_ok hC s0 h
      · intro h
        refine j_aload_n hC dX3_read_25 rfl 0 rfl ?_
        refine j_aload_n hC dX3_read_26 rfl 1 rfl ?_
        obtain ⟨v1, s1, hc, h⟩ := cal_some h
        refine call_X3_44 hC (fun l D => X3_readOne_ok l D g hc) (by decide) (Nat.le_of_ble_eq_true rfl) dX3_read_27 ?_
        refine j_if_ne (tgt := 35) hC dX3_read_30 (by decide) h ?_ ?_
        · intro h
          refine j_iincb (n2 := 1) (k0 := 2) (lv2 := fun z => [(2, .int z), (0, .ref (g.1 4)), (1, .ref (g.1 2))]) hC dX3_read_35 rfl (by decide) (by decide) (fun _ => rfl) h (fun v2 h => ?_)
          refine j_goto (tgt := 12) hC dX3_read_38 (by decide) ?_
          refine j_sub [1, 2, 0] rfl ?_
          exact ih v2 s1 h
        · intro h
          refine j_iconst (v := 0) hC dX3_read_33 (by decide) ?_
          exact j_iret hC dX3_read_34 rfl h
set_option maxRecDepth 20000 in
def X3_read_f (N : Nat) (s0 : St) : Option (Int32 × St) :=
  cal (X3_startAnew_f N  s0) fun _ s1 =>
  cal (X5_start_f N 120 s1) fun _ s2 =>
  X3_read_l12 N N 0 s2
set_option maxRecDepth 20000 in
theorem X3_read_ok (l : Launch) (D : va_G) (g : Gm) {N : Nat} {s0 : St} {o : Int32 × St} (h : X3_read_f N s0 = some o) : MI l yX3_read cX3_read 3 (some .boolean) 7 D g (wX g) [.ref (g.1 4), .ref (g.1 2)] s0 o := by
  refine met_I (own := RX3) (by decide) rfl (Nat.le_of_ble_eq_true rfl) (fun K hC => ?_)
  show J K (wX g) 3 (QI K g (wX g) o) 0 [(0, .ref (g.1 4)), (1, .ref (g.1 2))] [] s0
  unfold X3_read_f at h
  refine j_aload_n hC dX3_read_0 rfl 0 rfl ?_
  obtain ⟨v1, s1, hc, h⟩ := cal_some h
  refine call_X3_31 hC (fun l D => X3_startAnew_ok l D g hc) (by decide) (Nat.le_of_ble_eq_true rfl) dX3_read_1 ?_
  refine j_aload_n hC dX3_read_4 rfl 1 rfl ?_
  refine j_bipush (v := 120) hC dX3_read_5 (by decide) ?_
  obtain ⟨v2, s2, hc, h⟩ := cal_some h
  refine call_X3_34 hC (fun l D => X5_start_ok l D g hc) (by decide) (Nat.le_of_ble_eq_true rfl) dX3_read_7 ?_
  refine j_iconst (v := 0) hC dX3_read_10 (by decide) ?_
  refine j_istore_n hC dX3_read_11 rfl (by decide) rfl ?_
  refine j_sub [1, 2, 0] rfl ?_
  exact X3_read_l12_ok hC N 0 s2 h
set_option maxRecDepth 20000 in
def X0_add_l47 (N : Nat) (x2 : Int32) (x3 : Int32) (t1 : Int32) (t2 : Int32) (s0 : St) : Option (Int32 × St) :=
  bnd (si s0 46 (t1 + t2)) fun s1 =>
  bnd (si s1 47 ((gi s1 47) + x2)) fun s2 =>
  bnd (si s2 45 ((gi s2 45) + 1)) fun s3 =>
  some (x3, s3)
set_option maxRecDepth 20000 in
theorem X0_add_l47_ok {K : Kx} {g : Gm} {N : Nat} {o : Int32 × St} (hC : Ok K cX0_add RX0 g 4 0 (some .int)) : ∀ (x2 : Int32) (x3 : Int32) (t1 : Int32) (t2 : Int32) (s0 : St), X0_add_l47 N x2 x3 t1 t2 s0 = some o → J K (wX g) 4 (QI K g (wX g) o) 47 [(0, .ref (g.1 (37 + 5 * 6))), (2, .int x2), (3, .int x3)] [.int t2, .int t1, .ref (g.1 (37 + 5 * 6))] s0 := by
  intro x2 x3 t1 t2 s0 h
  unfold X0_add_l47 at h
  refine j_iadd hC dX0_add_47 ?_
  refine put_X0_29 hC 6 (by decide) dX0_add_48 h ?_
  intro s1 h
  refine j_aload_n hC dX0_add_51 rfl 0 rfl ?_
  refine j_dup hC rfl dX0_add_52 ?_
  refine get_X0_32 hC 6 (by decide) dX0_add_53 ?_
  refine j_iload_n hC dX0_add_56 rfl 1 rfl ?_
  refine j_iadd hC dX0_add_57 ?_
  refine j_pc (n2 := 58) rfl ?_
  refine put_X0_32 hC 6 (by decide) dX0_add_58 h ?_
  intro s2 h
  refine j_aload_n hC dX0_add_61 rfl 0 rfl ?_
  refine j_dup hC rfl dX0_add_62 ?_
  refine get_X0_25 hC 6 (by decide) dX0_add_63 ?_
  refine j_iconst (v := 1) hC dX0_add_66 (by decide) ?_
  refine j_iadd hC dX0_add_67 ?_
  refine put_X0_25 hC 6 (by decide) dX0_add_68 h ?_
  intro s3 h
  refine j_iload_n hC dX0_add_71 rfl 2 rfl ?_
  refine j_pc (n2 := 72) rfl ?_
  exact j_iret hC dX0_add_72 rfl h
set_option maxRecDepth 20000 in
def X0_add_f (N : Nat) (x1 : Int32) (x2 : Int32) (s0 : St) : Option (Int32 × St) :=
  bnd (gi s0 45) fun v1 =>
  ast s0 54 8 v1 x2 fun s1 =>
  ast s1 55 8 v1 ((-1)) fun s2 =>
  ast s2 56 8 v1 0 fun s3 =>
  ast s3 57 8 v1 (vp_nar .boolean x1) fun s4 =>
  if x1 = 0 then
  X0_add_l47 N x2 v1 (gi s4 46) 0 s4
  else
  X0_add_l47 N x2 v1 (gi s4 46) 1 s4
set_option maxRecDepth 20000 in
theorem X0_add_ok (l : Launch) (D : va_G) (g : Gm) {N : Nat} {x1 : Int32} {x2 : Int32} {s0 : St} {o : Int32 × St} (h : X0_add_f N x1 x2 s0 = some o) : MI l yX0_add cX0_add 4 (some .int) 0 D g (wX g) [.ref (g.1 (37 + 5 * 6)), .int x1, .int x2] s0 o := by
  refine met_I (own := RX0) (by decide) rfl (Nat.le_of_ble_eq_true rfl) (fun K hC => ?_)
  show J K (wX g) 4 (QI K g (wX g) o) 0 [(0, .ref (g.1 (37 + 5 * 6))), (1, .int x1), (2, .int x2)] [] s0
  unfold X0_add_f at h
  refine j_aload_n hC dX0_add_0 rfl 0 rfl ?_
  refine get_X0_25 hC 6 (by decide) dX0_add_1 ?_
  refine j_bi (E := gi s0 45) h (fun v1 h => ?_)
  refine j_istore_n hC dX0_add_4 rfl (by decide) rfl ?_
  refine j_aload_n hC dX0_add_5 rfl 1 rfl ?_
  refine get_X0_9 hC 6 (by decide) dX0_add_6 ?_
  refine j_iload_n hC dX0_add_9 rfl 0 rfl ?_
  refine j_iload_n hC dX0_add_10 rfl 3 rfl ?_
  refine j_pc (n2 := 11) rfl ?_
  refine ast_X0_seconds hC 6 (by decide) dX0_add_11 h ?_
  intro s1 h
  refine j_aload_n hC dX0_add_12 rfl 1 rfl ?_
  refine get_X0_15 hC 6 (by decide) dX0_add_13 ?_
  refine j_iload_n hC dX0_add_16 rfl 0 rfl ?_
  refine j_iconst (v := (-1)) hC dX0_add_17 (by decide) ?_
  refine ast_X0_mood hC 6 (by decide) dX0_add_18 h ?_
  intro s2 h
  refine j_aload_n hC dX0_add_19 rfl 1 rfl ?_
  refine get_X0_18 hC 6 (by decide) dX0_add_20 ?_
  refine j_pc (n2 := 23) rfl ?_
  refine j_iload_n hC dX0_add_23 rfl 0 rfl ?_
  refine j_iconst (v := 0) hC dX0_add_24 (by decide) ?_
  refine ast_X0_wantedNew hC 6 (by decide) dX0_add_25 h ?_
  intro s3 h
  refine j_aload_n hC dX0_add_26 rfl 1 rfl ?_
  refine get_X0_21 hC 6 (by decide) dX0_add_27 ?_
  refine j_iload_n hC dX0_add_30 rfl 0 rfl ?_
  refine j_iload_n hC dX0_add_31 rfl 2 rfl ?_
  refine ast_X0_hasSongs hC 6 (by decide) dX0_add_32 h ?_
  intro s4 h
  refine j_pc (n2 := 33) rfl ?_
  refine j_aload_n hC dX0_add_33 rfl 1 rfl ?_
  refine j_dup hC rfl dX0_add_34 ?_
  refine get_X0_29 hC 6 (by decide) dX0_add_35 ?_
  refine j_iload_n hC dX0_add_38 rfl 2 rfl ?_
  refine j_if_eq (tgt := 46) hC dX0_add_39 (by decide) h ?_ ?_
  · intro h
    refine j_iconst (v := 0) hC dX0_add_46 (by decide) ?_
    refine j_sub [1, 3, 0] rfl ?_
    exact X0_add_l47_ok hC x2 v1 (gi s4 46) 0 s4 h
  · intro h
    refine j_iconst (v := 1) hC dX0_add_42 (by decide) ?_
    refine j_goto (tgt := 47) hC dX0_add_43 (by decide) ?_
    refine j_sub [1, 3, 0] rfl ?_
    exact X0_add_l47_ok hC x2 v1 (gi s4 46) 1 s4 h
set_option maxRecDepth 20000 in
def X0_readWishes_l34 (N : Nat) (x2 : Int32) (s0 : St) : Option (Int32 × St) :=
  cal (X5_isWord_f N 9 s0) fun v1 s1 =>
  if v1 = 0 then
  some (1, s1)
  else
  cal (X5_stepToNumber_f N 0 4 s1) fun v2 s2 =>
    if v2 = 0 then
    some (0, s2)
    else
    ast s2 56 8 x2 (gi s2 4) fun s3 =>
      cal (X5_step_f N  s3) fun _ s4 =>
      some (1, s4)
set_option maxRecDepth 20000 in
theorem X0_readWishes_l34_ok {K : Kx} {g : Gm} {N : Nat} {o : Int32 × St} (hC : Ok K cX0_readWishes RX0 g 3 5 (some .boolean)) : ∀ (x2 : Int32) (s0 : St), X0_readWishes_l34 N x2 s0 = some o → J K (wX g) 3 (QI K g (wX g) o) 34 [(0, .ref (g.1 (37 + 5 * 6))), (1, .ref (g.1 2)), (2, .int x2)] [] s0 := by
  intro x2 s0 h
  unfold X0_readWishes_l34 at h
  refine j_aload_n hC dX0_readWishes_34 rfl 1 rfl ?_
  obtain ⟨v1, s1, hc, h⟩ := cal_some h
  refine isw_X0_83 hC (fun l D => X5_isWord_ok l D g (by decide) hc) (by decide) (Nat.le_of_ble_eq_true rfl) dX0_readWishes_35 dX0_readWishes_37 ?_
  refine j_if_eq (tgt := 68) hC dX0_readWishes_40 (by decide) h ?_ ?_
  · intro h
    refine j_iconst (v := 1) hC dX0_readWishes_68 (by decide) ?_
    exact j_iret hC dX0_readWishes_69 rfl h
  · intro h
    refine j_aload_n hC dX0_readWishes_43 rfl 1 rfl ?_
    refine j_iconst (v := 0) hC dX0_readWishes_44 (by decide) ?_
    refine j_iconst (v := 4) hC dX0_readWishes_45 (by decide) ?_
    obtain ⟨v2, s2, hc, h⟩ := cal_some h
    refine call_X0_60 hC (fun l D => X5_stepToNumber_ok l D g hc) (by decide) (Nat.le_of_ble_eq_true rfl) dX0_readWishes_46 ?_
    refine j_if_ne (tgt := 54) hC dX0_readWishes_49 (by decide) h ?_ ?_
    · intro h
      refine j_aload_n hC dX0_readWishes_54 rfl 0 rfl ?_
      refine get_X0_18 hC 6 (by decide) dX0_readWishes_55 ?_
      refine j_iload_n hC dX0_readWishes_58 rfl 2 rfl ?_
      refine j_aload_n hC dX0_readWishes_59 rfl 1 rfl ?_
      refine get_X0_64 hC dX0_readWishes_60 ?_
      refine ast_X0_wantedNew hC 6 (by decide) dX0_readWishes_63 h ?_
      intro s3 h
      refine j_aload_n hC dX0_readWishes_64 rfl 1 rfl ?_
      refine j_pc (n2 := 65) rfl ?_
      obtain ⟨v3, s4, hc, h⟩ := cal_some h
      refine call_X0_71 hC (fun l D => X5_step_ok l D g hc) (by decide) (Nat.le_of_ble_eq_true rfl) dX0_readWishes_65 ?_
      refine j_iconst (v := 1) hC dX0_readWishes_68 (by decide) ?_
      exact j_iret hC dX0_readWishes_69 rfl h
    · intro h
      refine j_iconst (v := 0) hC dX0_readWishes_52 (by decide) ?_
      exact j_iret hC dX0_readWishes_53 rfl h
set_option maxRecDepth 20000 in
def X0_readWishes_f (N : Nat) (x2 : Int32) (s0 : St) : Option (Int32 × St) :=
  cal (X5_isWord_f N 8 s0) fun v1 s1 =>
  if v1 = 0 then
  X0_readWishes_l34 N x2 s1
  else
  cal (X5_stepToNumber_f N 0 3 s1) fun v2 s2 =>
    if v2 = 0 then
    some (0, s2)
    else
    ast s2 55 8 x2 (gi s2 4) fun s3 =>
      cal (X5_step_f N  s3) fun _ s4 =>
      X0_readWishes_l34 N x2 s4
set_option maxRecDepth 20000 in
theorem X0_readWishes_ok (l : Launch) (D : va_G) (g : Gm) {N : Nat} {x2 : Int32} {s0 : St} {o : Int32 × St} (h : X0_readWishes_f N x2 s0 = some o) : MI l yX0_readWishes cX0_readWishes 3 (some .boolean) 5 D g (wX g) [.ref (g.1 (37 + 5 * 6)), .ref (g.1 2), .int x2] s0 o := by
  refine met_I (own := RX0) (by decide) rfl (Nat.le_of_ble_eq_true rfl) (fun K hC => ?_)
  show J K (wX g) 3 (QI K g (wX g) o) 0 [(0, .ref (g.1 (37 + 5 * 6))), (1, .ref (g.1 2)), (2, .int x2)] [] s0
  unfold X0_readWishes_f at h
  refine j_aload_n hC dX0_readWishes_0 rfl 1 rfl ?_
  obtain ⟨v1, s1, hc, h⟩ := cal_some h
  refine isw_X0_82 hC (fun l D => X5_isWord_ok l D g (by decide) hc) (by decide) (Nat.le_of_ble_eq_true rfl) dX0_readWishes_1 dX0_readWishes_3 ?_
  refine j_if_eq (tgt := 34) hC dX0_readWishes_6 (by decide) h ?_ ?_
  · intro h
    refine j_sub [0, 1, 2] rfl ?_
    exact X0_readWishes_l34_ok hC x2 s1 h
  · intro h
    refine j_aload_n hC dX0_readWishes_9 rfl 1 rfl ?_
    refine j_iconst (v := 0) hC dX0_readWishes_10 (by decide) ?_
    refine j_iconst (v := 3) hC dX0_readWishes_11 (by decide) ?_
    obtain ⟨v2, s2, hc, h⟩ := cal_some h
    refine call_X0_60 hC (fun l D => X5_stepToNumber_ok l D g hc) (by decide) (Nat.le_of_ble_eq_true rfl) dX0_readWishes_12 ?_
    refine j_if_ne (tgt := 20) hC dX0_readWishes_15 (by decide) h ?_ ?_
    · intro h
      refine j_aload_n hC dX0_readWishes_20 rfl 0 rfl ?_
      refine get_X0_15 hC 6 (by decide) dX0_readWishes_21 ?_
      refine j_iload_n hC dX0_readWishes_24 rfl 2 rfl ?_
      refine j_aload_n hC dX0_readWishes_25 rfl 1 rfl ?_
      refine get_X0_64 hC dX0_readWishes_26 ?_
      refine ast_X0_mood hC 6 (by decide) dX0_readWishes_29 h ?_
      intro s3 h
      refine j_aload_n hC dX0_readWishes_30 rfl 1 rfl ?_
      refine j_pc (n2 := 31) rfl ?_
      obtain ⟨v3, s4, hc, h⟩ := cal_some h
      refine call_X0_71 hC (fun l D => X5_step_ok l D g hc) (by decide) (Nat.le_of_ble_eq_true rfl) dX0_readWishes_31 ?_
      refine j_sub [0, 1, 2] rfl ?_
      exact X0_readWishes_l34_ok hC x2 s4 h
    · intro h
      refine j_iconst (v := 0) hC dX0_readWishes_18 (by decide) ?_
      exact j_iret hC dX0_readWishes_19 rfl h
set_option maxRecDepth 20000 in
def X0_readOne_l104 (N : Nat) (s0 : St) : Option (Int32 × St) :=
  cal (X5_passSemicolon_f N  s0) fun v1 s1 =>
  chk (isZ v1) (some (v1, s1))
set_option maxRecDepth 20000 in
theorem X0_readOne_l104_ok {K : Kx} {g : Gm} {N : Nat} {o : Int32 × St} (hC : Ok K cX0_readOne RX0 g 4 6 (some .boolean)) : ∀ (s0 : St), X0_readOne_l104 N  s0 = some o → J K (wX g) 4 (QI K g (wX g) o) 104 [(1, .ref (g.1 2))] [] s0 := by
  intro  s0 h
  unfold X0_readOne_l104 at h
  refine j_aload_n hC dX0_readOne_104 rfl 0 rfl ?_
  obtain ⟨v1, s1, hc, h⟩ := cal_some h
  refine call_X0_78 hC (fun l D => X5_passSemicolon_ok l D g hc) (by decide) (Nat.le_of_ble_eq_true rfl) dX0_readOne_105 ?_
  obtain ⟨hz, h⟩ := chk_some h
  exact j_iret hC dX0_readOne_108 (isZ_nar hz) h
set_option maxRecDepth 20000 in
def X0_readOne_l26 (N : Nat) (x2 : Int32) (s0 : St) : Option (Int32 × St) :=
  if gi s0 45 < 8 then
  cal (X5_stepToNumber_f N 1 3600 s0) fun v1 s1 =>
    if v1 = 0 then
    some (0, s1)
    else
    if gi s1 4 ≤ (3600 : Int32) - (gi s1 47) then
      cal (X0_add_f N x2 (gi s1 4) s1) fun v2 s2 =>
        cal (X5_step_f N  s2) fun _ s3 =>
        if x2 = 0 then
        X0_readOne_l104 N s3
        else
        cal (X0_readWishes_f N v2 s3) fun v4 s4 =>
          if v4 = 0 then
          some (0, s4)
          else
          X0_readOne_l104 N s4
      else
      cal (X5_refuse_f N 3 s1) fun v5 s5 =>
        chk (isZ v5) (some (v5, s5))
  else
  cal (X5_refuse_f N 3 s0) fun v6 s6 =>
    chk (isZ v6) (some (v6, s6))
set_option maxRecDepth 20000 in
theorem X0_readOne_l26_ok {K : Kx} {g : Gm} {N : Nat} {o : Int32 × St} (hC : Ok K cX0_readOne RX0 g 4 6 (some .boolean)) : ∀ (x2 : Int32) (s0 : St), X0_readOne_l26 N x2 s0 = some o → J K (wX g) 4 (QI K g (wX g) o) 26 [(0, .ref (g.1 (37 + 5 * 6))), (1, .ref (g.1 2)), (2, .int x2)] [] s0 := by
  intro x2 s0 h
  unfold X0_readOne_l26 at h
  refine j_aload_n hC dX0_readOne_26 rfl 0 rfl ?_
  refine get_X0_25 hC 6 (by decide) dX0_readOne_27 ?_
  refine j_bipush (v := 8) hC dX0_readOne_30 (by decide) ?_
  refine j_icmp_lt (tgt := 41) hC dX0_readOne_32 (by decide) h ?_ ?_
  · intro h
    refine j_aload_n hC dX0_readOne_41 rfl 1 rfl ?_
    refine j_iconst (v := 1) hC dX0_readOne_42 (by decide) ?_
    refine j_sipush (v := 3600) hC dX0_readOne_43 (by decide) ?_
    obtain ⟨v1, s1, hc, h⟩ := cal_some h
    refine call_X0_60 hC (fun l D => X5_stepToNumber_ok l D g hc) (by decide) (Nat.le_of_ble_eq_true rfl) dX0_readOne_46 ?_
    refine j_if_ne (tgt := 54) hC dX0_readOne_49 (by decide) h ?_ ?_
    · intro h
      refine j_aload_n hC dX0_readOne_54 rfl 1 rfl ?_
      refine get_X0_64 hC dX0_readOne_55 ?_
      refine j_sipush (v := 3600) hC dX0_readOne_58 (by decide) ?_
      refine j_aload_n hC dX0_readOne_61 rfl 0 rfl ?_
      refine get_X0_32 hC 6 (by decide) dX0_readOne_62 ?_
      refine j_isub hC dX0_readOne_65 ?_
      refine j_icmp_le (tgt := 75) hC dX0_readOne_66 (by decide) h ?_ ?_
      · intro h
        refine j_aload_n hC dX0_readOne_75 rfl 0 rfl ?_
        refine j_iload_n hC dX0_readOne_76 rfl 2 rfl ?_
        refine j_aload_n hC dX0_readOne_77 rfl 1 rfl ?_
        refine get_X0_64 hC dX0_readOne_78 ?_
        obtain ⟨v2, s2, hc, h⟩ := cal_some h
        refine call_X0_67 hC (fun l D => X0_add_ok l D g hc) (by decide) (Nat.le_of_ble_eq_true rfl) dX0_readOne_81 ?_
        refine j_istore_n hC dX0_readOne_84 rfl (by decide) rfl ?_
        refine j_aload_n hC dX0_readOne_85 rfl 2 rfl ?_
        refine j_pc (n2 := 86) rfl ?_
        obtain ⟨v3, s3, hc, h⟩ := cal_some h
        refine call_X0_71 hC (fun l D => X5_step_ok l D g hc) (by decide) (Nat.le_of_ble_eq_true rfl) dX0_readOne_86 ?_
        refine j_iload_n hC dX0_readOne_89 rfl 3 rfl ?_
        refine j_if_eq (tgt := 104) hC dX0_readOne_90 (by decide) h ?_ ?_
        · intro h
          refine j_sub [2] rfl ?_
          exact X0_readOne_l104_ok hC s3 h
        · intro h
          refine j_aload_n hC dX0_readOne_93 rfl 1 rfl ?_
          refine j_aload_n hC dX0_readOne_94 rfl 2 rfl ?_
          refine j_iload_n hC dX0_readOne_95 rfl 0 rfl ?_
          obtain ⟨v4, s4, hc, h⟩ := cal_some h
          refine call_X0_74 hC (fun l D => X0_readWishes_ok l D g hc) (by decide) (Nat.le_of_ble_eq_true rfl) dX0_readOne_96 ?_
          refine j_if_ne (tgt := 104) hC dX0_readOne_99 (by decide) h ?_ ?_
          · intro h
            refine j_sub [2] rfl ?_
            exact X0_readOne_l104_ok hC s4 h
          · intro h
            refine j_iconst (v := 0) hC dX0_readOne_102 (by decide) ?_
            exact j_iret hC dX0_readOne_103 rfl h
      · intro h
        refine j_aload_n hC dX0_readOne_69 rfl 1 rfl ?_
        refine j_iconst (v := 3) hC dX0_readOne_70 (by decide) ?_
        obtain ⟨v5, s5, hc, h⟩ := cal_some h
        refine call_X0_48 hC (fun l D => X5_refuse_ok l D g hc) (by decide) (Nat.le_of_ble_eq_true rfl) dX0_readOne_71 ?_
        obtain ⟨hz, h⟩ := chk_some h
        exact j_iret hC dX0_readOne_74 (isZ_nar hz) h
    · intro h
      refine j_iconst (v := 0) hC dX0_readOne_52 (by decide) ?_
      exact j_iret hC dX0_readOne_53 rfl h
  · intro h
    refine j_aload_n hC dX0_readOne_35 rfl 1 rfl ?_
    refine j_iconst (v := 3) hC dX0_readOne_36 (by decide) ?_
    obtain ⟨v6, s6, hc, h⟩ := cal_some h
    refine call_X0_48 hC (fun l D => X5_refuse_ok l D g hc) (by decide) (Nat.le_of_ble_eq_true rfl) dX0_readOne_37 ?_
    obtain ⟨hz, h⟩ := chk_some h
    exact j_iret hC dX0_readOne_40 (isZ_nar hz) h
set_option maxRecDepth 20000 in
def X0_readOne_f (N : Nat) (s0 : St) : Option (Int32 × St) :=
  cal (X5_isWord_f N 6 s0) fun v1 s1 =>
  if v1 = 0 then
  cal (X5_isWord_f N 7 s1) fun v2 s2 =>
    if v2 = 0 then
    cal (X5_refuse_f N 1 s2) fun v3 s3 =>
      chk (isZ v3) (some (v3, s3))
    else
    X0_readOne_l26 N v1 s2
  else
  X0_readOne_l26 N v1 s1
set_option maxRecDepth 20000 in
theorem X0_readOne_ok (l : Launch) (D : va_G) (g : Gm) {N : Nat} {s0 : St} {o : Int32 × St} (h : X0_readOne_f N s0 = some o) : MI l yX0_readOne cX0_readOne 4 (some .boolean) 6 D g (wX g) [.ref (g.1 (37 + 5 * 6)), .ref (g.1 2)] s0 o := by
  refine met_I (own := RX0) (by decide) rfl (Nat.le_of_ble_eq_true rfl) (fun K hC => ?_)
  show J K (wX g) 4 (QI K g (wX g) o) 0 [(0, .ref (g.1 (37 + 5 * 6))), (1, .ref (g.1 2))] [] s0
  unfold X0_readOne_f at h
  refine j_aload_n hC dX0_readOne_0 rfl 1 rfl ?_
  obtain ⟨v1, s1, hc, h⟩ := cal_some h
  refine isw_X0_52 hC (fun l D => X5_isWord_ok l D g (by decide) hc) (by decide) (Nat.le_of_ble_eq_true rfl) dX0_readOne_1 dX0_readOne_3 ?_
  refine j_istore_n hC dX0_readOne_6 rfl (by decide) rfl ?_
  refine j_iload_n hC dX0_readOne_7 rfl 0 rfl ?_
  refine j_if_ne (tgt := 26) hC dX0_readOne_8 (by decide) h ?_ ?_
  · intro h
    refine j_sub [1, 2, 0] rfl ?_
    exact X0_readOne_l26_ok hC v1 s1 h
  · intro h
    refine j_aload_n hC dX0_readOne_11 rfl 2 rfl ?_
    obtain ⟨v2, s2, hc, h⟩ := cal_some h
    refine isw_X0_58 hC (fun l D => X5_isWord_ok l D g (by decide) hc) (by decide) (Nat.le_of_ble_eq_true rfl) dX0_readOne_12 dX0_readOne_14 ?_
    refine j_if_ne (tgt := 26) hC dX0_readOne_17 (by decide) h ?_ ?_
    · intro h
      refine j_sub [1, 2, 0] rfl ?_
      exact X0_readOne_l26_ok hC v1 s2 h
    · intro h
      refine j_aload_n hC dX0_readOne_20 rfl 2 rfl ?_
      refine j_iconst (v := 1) hC dX0_readOne_21 (by decide) ?_
      obtain ⟨v3, s3, hc, h⟩ := cal_some h
      refine call_X0_48 hC (fun l D => X5_refuse_ok l D g hc) (by decide) (Nat.le_of_ble_eq_true rfl) dX0_readOne_22 ?_
      obtain ⟨hz, h⟩ := chk_some h
      exact j_iret hC dX0_readOne_25 (isZ_nar hz) h
set_option maxRecDepth 20000 in
def X0_read_l72 (N : Nat) (s0 : St) : Option (Int32 × St) :=
  some (1, s0)
set_option maxRecDepth 20000 in
theorem X0_read_l72_ok {K : Kx} {g : Gm} {N : Nat} {o : Int32 × St} (hC : Ok K cX0_read RX0 g 3 7 (some .boolean)) : ∀ (s0 : St), X0_read_l72 N  s0 = some o → J K (wX g) 3 (QI K g (wX g) o) 72 [] [] s0 := by
  intro  s0 h
  unfold X0_read_l72 at h
  refine j_iconst (v := 1) hC dX0_read_72 (by decide) ?_
  refine j_goto (tgt := 77) hC dX0_read_73 (by decide) ?_
  exact j_iret hC dX0_read_77 rfl h
set_option maxRecDepth 20000 in
def X0_read_l54 (N : Nat) (s0 : St) : Option (Int32 × St) :=
  if gi s0 47 = 3600 then
  X0_read_l72 N s0
  else
  cal (X5_refuse_f N 4 s0) fun v1 s1 =>
    if v1 = 0 then
    some (0, s1)
    else
    X0_read_l72 N s1
set_option maxRecDepth 20000 in
theorem X0_read_l54_ok {K : Kx} {g : Gm} {N : Nat} {o : Int32 × St} (hC : Ok K cX0_read RX0 g 3 7 (some .boolean)) : ∀ (s0 : St), X0_read_l54 N  s0 = some o → J K (wX g) 3 (QI K g (wX g) o) 54 [(0, .ref (g.1 (37 + 5 * 6))), (1, .ref (g.1 2))] [] s0 := by
  intro  s0 h
  unfold X0_read_l54 at h
  refine j_aload_n hC dX0_read_54 rfl 0 rfl ?_
  refine get_X0_32 hC 6 (by decide) dX0_read_55 ?_
  refine j_sipush (v := 3600) hC dX0_read_58 (by decide) ?_
  refine j_icmp_eq (tgt := 72) hC dX0_read_61 (by decide) h ?_ ?_
  · intro h
    refine j_sub [] rfl ?_
    exact X0_read_l72_ok hC s0 h
  · intro h
    refine j_aload_n hC dX0_read_64 rfl 1 rfl ?_
    refine j_iconst (v := 4) hC dX0_read_65 (by decide) ?_
    obtain ⟨v1, s1, hc, h⟩ := cal_some h
    refine call_X0_48 hC (fun l D => X5_refuse_ok l D g hc) (by decide) (Nat.le_of_ble_eq_true rfl) dX0_read_66 ?_
    refine j_if_eq (tgt := 76) hC dX0_read_69 (by decide) h ?_ ?_
    · intro h
      refine j_iconst (v := 0) hC dX0_read_76 (by decide) ?_
      exact j_iret hC dX0_read_77 rfl h
    · intro h
      refine j_sub [] rfl ?_
      exact X0_read_l72_ok hC s1 h
set_option maxRecDepth 20000 in
def X0_read_l24 (N : Nat) : Nat → Int32 → St → Option (Int32 × St)
  | 0 => fun _ _ => none
  | n + 1 => fun x2 s0 =>
  if 8 < x2 then
  X0_read_l54 N s0
  else
  if gi s0 3 = 1 then
    X0_read_l54 N s0
    else
    cal (X0_readOne_f N  s0) fun v1 s1 =>
      if v1 = 0 then
      some (0, s1)
      else
      bnd (x2 + 1) fun v2 =>
        (X0_read_l24 N n) v2 s1
set_option maxRecDepth 20000 in
theorem X0_read_l24_ok {K : Kx} {g : Gm} {N : Nat} {o : Int32 × St} (hC : Ok K cX0_read RX0 g 3 7 (some .boolean)) : ∀ (n : Nat) (x2 : Int32) (s0 : St), X0_read_l24 N n x2 s0 = some o → J K (wX g) 3 (QI K g (wX g) o) 24 [(0, .ref (g.1 (37 + 5 * 6))), (1, .ref (g.1 2)), (2, .int x2)] [] s0 := by
  intro n
  induction n with
  | zero => intro x2 s0 h; cases h
  | succ n ih =>
    intro x2 s0 h
    rw [X0_read_l24] at h
    refine j_iload_n hC dX0_read_24 rfl 2 rfl ?_
    refine j_bipush (v := 8) hC dX0_read_25 (by decide) ?_
    refine j_icmp_gt (tgt := 54) hC dX0_read_27 (by decide) h ?_ ?_
    · intro h
      refine j_sub [0, 1] rfl ?_
      exact X0_read_l54_ok hC s0 h
    · intro h
      refine j_aload_n hC dX0_read_30 rfl 1 rfl ?_
      refine get_X0_41 hC dX0_read_31 ?_
      refine j_iconst (v := 1) hC dX0_read_34 (by decide) ?_
      refine j_icmp_eq (tgt := 54) hC dX0_read_35 (by decide) h ?_ ?_
      · intro h
        refine j_sub [0, 1] rfl ?_
        exact X0_read_l54_ok hC s0 h
      · intro h
        refine j_aload_n hC dX0_read_38 rfl 0 rfl ?_
        refine j_aload_n hC dX0_read_39 rfl 1 rfl ?_
        obtain ⟨v1, s1, hc, h⟩ := cal_some h
        refine call_X0_44 hC (fun l D => X0_readOne_ok l D g hc) (by decide) (Nat.le_of_ble_eq_true rfl) dX0_read_40 ?_
        refine j_if_ne (tgt := 48) hC dX0_read_43 (by decide) h ?_ ?_
        · intro h
          refine j_iincb (n2 := 1) (k0 := 2) (lv2 := fun z => [(2, .int z), (0, .ref (g.1 (37 + 5 * 6))), (1, .ref (g.1 2))]) hC dX0_read_48 rfl (by decide) (by decide) (fun _ => rfl) h (fun v2 h => ?_)
          refine j_goto (tgt := 24) hC dX0_read_51 (by decide) ?_
          refine j_sub [1, 2, 0] rfl ?_
          exact ih v2 s1 h
        · intro h
          refine j_iconst (v := 0) hC dX0_read_46 (by decide) ?_
          exact j_iret hC dX0_read_47 rfl h
set_option maxRecDepth 20000 in
def X0_read_f (N : Nat) (s0 : St) : Option (Int32 × St) :=
  bnd (si s0 45 0) fun s1 =>
  bnd (si s1 46 0) fun s2 =>
  bnd (si s2 47 0) fun s3 =>
  cal (X5_start_f N 240 s3) fun _ s4 =>
  X0_read_l24 N N 0 s4
set_option maxRecDepth 20000 in
theorem X0_read_ok (l : Launch) (D : va_G) (g : Gm) {N : Nat} {s0 : St} {o : Int32 × St} (h : X0_read_f N s0 = some o) : MI l yX0_read cX0_read 3 (some .boolean) 7 D g (wX g) [.ref (g.1 (37 + 5 * 6)), .ref (g.1 2)] s0 o := by
  refine met_I (own := RX0) (by decide) rfl (Nat.le_of_ble_eq_true rfl) (fun K hC => ?_)
  show J K (wX g) 3 (QI K g (wX g) o) 0 [(0, .ref (g.1 (37 + 5 * 6))), (1, .ref (g.1 2))] [] s0
  unfold X0_read_f at h
  refine j_aload_n hC dX0_read_0 rfl 0 rfl ?_
  refine j_iconst (v := 0) hC dX0_read_1 (by decide) ?_
  refine put_X0_25 hC 6 (by decide) dX0_read_2 h ?_
  intro s1 h
  refine j_aload_n hC dX0_read_5 rfl 0 rfl ?_
  refine j_iconst (v := 0) hC dX0_read_6 (by decide) ?_
  refine put_X0_29 hC 6 (by decide) dX0_read_7 h ?_
  intro s2 h
  refine j_aload_n hC dX0_read_10 rfl 0 rfl ?_
  refine j_pc (n2 := 11) rfl ?_
  refine j_iconst (v := 0) hC dX0_read_11 (by decide) ?_
  refine put_X0_32 hC 6 (by decide) dX0_read_12 h ?_
  intro s3 h
  refine j_aload_n hC dX0_read_15 rfl 1 rfl ?_
  refine j_sipush (v := 240) hC dX0_read_16 (by decide) ?_
  obtain ⟨v1, s4, hc, h⟩ := cal_some h
  refine call_X0_35 hC (fun l D => X5_start_ok l D g hc) (by decide) (Nat.le_of_ble_eq_true rfl) dX0_read_19 ?_
  refine j_iconst (v := 0) hC dX0_read_22 (by decide) ?_
  refine j_istore_n hC dX0_read_23 rfl (by decide) rfl ?_
  refine j_sub [1, 2, 0] rfl ?_
  exact X0_read_l24_ok hC N 0 s4 h
