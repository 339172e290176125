set_option maxRecDepth 20000 in
def X6_fillStretch_l152 (N : Nat) (t1 : Int32) (t2 : Int32) (t3 : Int32) (s0 : St) : Option (Int32 × St) :=
  cal (X1_noteStretch_f N t1 t2 t3 s0) fun _ s1 =>
  if gi s1 14 ≤ 0 then
  some (0, s1)
  else
  some (1, s1)
set_option maxRecDepth 20000 in
theorem X6_fillStretch_l152_ok {K : Kx} {g : Gm} {N : Nat} {o : Int32 × St} (hC : Ok K cX6_fillStretch RX6 g 8 16 (some .boolean)) : ∀ (t1 : Int32) (t2 : Int32) (t3 : Int32) (s0 : St), X6_fillStretch_l152 N t1 t2 t3 s0 = some o → J K (wX g) 8 (QI K g (wX g) o) 152 [(0, .ref (g.1 0))] [.int t3, .int t2, .int t1, .ref (g.1 22)] s0 := by
  intro t1 t2 t3 s0 h
  unfold X6_fillStretch_l152 at h
  obtain ⟨v1, s1, hc, h⟩ := cal_some h
  refine call_X6_238 hC (fun l D => X1_noteStretch_ok l D g hc) (by decide) (Nat.le_of_ble_eq_true rfl) dX6_fillStretch_152 ?_
  refine j_aload_n hC dX6_fillStretch_155 rfl 0 rfl ?_
  refine get_X6_51 hC dX6_fillStretch_156 ?_
  refine get_X6_224 hC dX6_fillStretch_159 ?_
  refine j_if_le (tgt := 169) hC dX6_fillStretch_162 (by decide) h ?_ ?_
  · intro h
    refine j_iconst (v := 0) hC dX6_fillStretch_169 (by decide) ?_
    exact j_iret hC dX6_fillStretch_170 rfl h
  · intro h
    refine j_iconst (v := 1) hC dX6_fillStretch_165 (by decide) ?_
    refine j_goto (tgt := 170) hC dX6_fillStretch_166 (by decide) ?_
    exact j_iret hC dX6_fillStretch_170 rfl h
set_option maxRecDepth 20000 in
def X6_fillStretch_l57 (N : Nat) : Nat → Int32 → Int32 → Int32 → Int32 → Int32 → St → Option (Int32 × St)
  | 0 => fun _ _ _ _ _ _ => none
  | n + 1 => fun x2 x3 x4 x5 x6 s0 =>
  if gi s0 14 ≤ x6 then
  if gi s0 14 = 0 then
    X6_fillStretch_l152 N x2 ((x3 + x4) - x5) 1 s0
    else
    X6_fillStretch_l152 N x2 ((x3 + x4) - x5) 0 s0
  else
  ald s0 23 4 x6 fun v1 =>
    cal (X4_begin_f N v1 x5 s0) fun _ s1 =>
    cal (X1_addPlay_f N v1 x5 x2 s1) fun _ s2 =>
    ald s2 4 24 v1 fun v4 =>
    bnd (x5 + v4) fun v5 =>
    bnd (x6 + 1) fun v6 =>
    (X6_fillStretch_l57 N n) x2 x3 x4 v5 v6 s2
set_option maxRecDepth 20000 in
theorem X6_fillStretch_l57_ok {K : Kx} {g : Gm} {N : Nat} {o : Int32 × St} (hC : Ok K cX6_fillStretch RX6 g 8 16 (some .boolean)) : ∀ (n : Nat) (x2 : Int32) (x3 : Int32) (x4 : Int32) (x5 : Int32) (x6 : Int32) (s0 : St), X6_fillStretch_l57 N n x2 x3 x4 x5 x6 s0 = some o → J K (wX g) 8 (QI K g (wX g) o) 57 [(0, .ref (g.1 0)), (2, .int x2), (3, .int x3), (4, .int x4), (5, .int x5), (6, .int x6)] [] s0 := by
  intro n
  induction n with
  | zero => intro x2 x3 x4 x5 x6 s0 h; cases h
  | succ n ih =>
    intro x2 x3 x4 x5 x6 s0 h
    rw [X6_fillStretch_l57] at h
    refine j_iload hC dX6_fillStretch_57 5 rfl ?_
    refine j_aload_n hC dX6_fillStretch_59 rfl 0 rfl ?_
    refine get_X6_51 hC dX6_fillStretch_60 ?_
    refine get_X6_224 hC dX6_fillStretch_63 ?_
    refine j_icmp_ge (tgt := 125) hC dX6_fillStretch_66 (by decide) h ?_ ?_
    · intro h
      refine j_aload_n hC dX6_fillStretch_125 rfl 0 rfl ?_
      refine get_X6_44 hC dX6_fillStretch_126 ?_
      refine j_iload_n hC dX6_fillStretch_129 rfl 1 rfl ?_
      refine j_iload_n hC dX6_fillStretch_130 rfl 2 rfl ?_
      refine j_iload hC dX6_fillStretch_131 3 rfl ?_
      refine j_iadd hC dX6_fillStretch_133 ?_
      refine j_iload hC dX6_fillStretch_134 4 rfl ?_
      refine j_pc (n2 := 136) rfl ?_
      refine j_isub hC dX6_fillStretch_136 ?_
      refine j_aload_n hC dX6_fillStretch_137 rfl 0 rfl ?_
      refine get_X6_51 hC dX6_fillStretch_138 ?_
      refine get_X6_224 hC dX6_fillStretch_141 ?_
      refine j_if_ne (tgt := 151) hC dX6_fillStretch_144 (by decide) h ?_ ?_
      · intro h
        refine j_iconst (v := 0) hC dX6_fillStretch_151 (by decide) ?_
        refine j_sub [0] rfl ?_
        exact X6_fillStretch_l152_ok hC x2 ((x3 + x4) - x5) 0 s0 h
      · intro h
        refine j_iconst (v := 1) hC dX6_fillStretch_147 (by decide) ?_
        refine j_goto (tgt := 152) hC dX6_fillStretch_148 (by decide) ?_
        refine j_sub [0] rfl ?_
        exact X6_fillStretch_l152_ok hC x2 ((x3 + x4) - x5) 1 s0 h
    · intro h
      refine j_aload_n hC dX6_fillStretch_69 rfl 0 rfl ?_
      refine get_X6_51 hC dX6_fillStretch_70 ?_
      refine get_X6_227 hC dX6_fillStretch_73 ?_
      refine j_iload hC dX6_fillStretch_76 5 rfl ?_
      refine ald_X2_best hC dX6_fillStretch_78 h ?_
      intro v1 h
      refine j_istore hC dX6_fillStretch_79 (by decide) rfl ?_
      refine j_aload_n hC dX6_fillStretch_81 rfl 1 rfl ?_
      refine j_pc (n2 := 82) rfl ?_
      refine get_X6_37 hC dX6_fillStretch_82 ?_
      refine j_iload hC dX6_fillStretch_85 0 rfl ?_
      refine j_iload hC dX6_fillStretch_87 5 rfl ?_
      obtain ⟨v2, s1, hc, h⟩ := cal_some h
      refine call_X6_230 hC (fun l D => X4_begin_ok l D g hc) (by decide) (Nat.le_of_ble_eq_true rfl) dX6_fillStretch_89 ?_
      refine j_aload_n hC dX6_fillStretch_92 rfl 1 rfl ?_
      refine get_X6_44 hC dX6_fillStretch_93 ?_
      refine j_iload hC dX6_fillStretch_96 0 rfl ?_
      refine j_iload hC dX6_fillStretch_98 5 rfl ?_
      refine j_pc (n2 := 100) rfl ?_
      refine j_iload_n hC dX6_fillStretch_100 rfl 2 rfl ?_
      obtain ⟨v3, s2, hc, h⟩ := cal_some h
      refine call_X6_233 hC (fun l D => X1_addPlay_ok l D g hc) (by decide) (Nat.le_of_ble_eq_true rfl) dX6_fillStretch_101 ?_
      refine j_iload hC dX6_fillStretch_104 5 rfl ?_
      refine j_aload_n hC dX6_fillStretch_106 rfl 1 rfl ?_
      refine get_X6_37 hC dX6_fillStretch_107 ?_
      refine get_X6_237 hC dX6_fillStretch_110 ?_
      refine j_iload hC dX6_fillStretch_113 0 rfl ?_
      refine ald_X4_seconds hC dX6_fillStretch_115 h ?_
      intro v4 h
      refine j_pc (n2 := 116) rfl ?_
      refine j_iadd hC dX6_fillStretch_116 ?_
      refine j_bi (E := x5 + v4) h (fun v5 h => ?_)
      refine j_istore hC dX6_fillStretch_117 (by decide) rfl ?_
      refine j_iincb (n2 := 1) (k0 := 6) (lv2 := fun z => [(6, .int z), (5, .int v5), (7, .int v1), (0, .ref (g.1 0)), (2, .int x2), (3, .int x3), (4, .int x4)]) hC dX6_fillStretch_119 rfl (by decide) (by decide) (fun _ => rfl) h (fun v6 h => ?_)
      refine j_goto (tgt := 57) hC dX6_fillStretch_122 (by decide) ?_
      refine j_sub [3, 4, 5, 6, 1, 0] rfl ?_
      exact ih x2 x3 x4 v5 v6 s2 h
set_option maxRecDepth 20000 in
def X6_fillStretch_f (N : Nat) (j1 : Nat) (x2 : Int32) (x3 : Int32) (s0 : St) : Option (Int32 × St) :=
  ald s0 (30 + 4 * j1 + 0) 8 x2 fun v1 =>
  ald s0 (30 + 4 * j1 + 1) 8 x2 fun v2 =>
  ald s0 (30 + 4 * j1 + 2) 8 x2 fun v3 =>
  cal (X2_aim_f N x3 v1 v2 v3 s0) fun _ s1 =>
  cal (X6_keyAhead_f N x3 s1) fun v5 s2 =>
  cal (X2_run_f N x3 v5 s2) fun _ s3 =>
  X6_fillStretch_l57 N N x2 x3 v1 x3 0 s3
set_option maxRecDepth 20000 in
theorem X6_fillStretch_ok (l : Launch) (D : va_G) (g : Gm) {N : Nat} {j1 : Nat} {x2 : Int32} {x3 : Int32} (hj1 : j1 < 7) {s0 : St} {o : Int32 × St} (h : X6_fillStretch_f N j1 x2 x3 s0 = some o) : MI l yX6_fillStretch cX6_fillStretch 8 (some .boolean) 16 D g (wX g) [.ref (g.1 0), .ref (g.1 (37 + 5 * j1)), .int x2, .int x3] s0 o := by
  refine met_I (own := RX6) (by decide) rfl (Nat.le_of_ble_eq_true rfl) (fun K hC => ?_)
  show J K (wX g) 8 (QI K g (wX g) o) 0 [(0, .ref (g.1 0)), (1, .ref (g.1 (37 + 5 * j1))), (2, .int x2), (3, .int x3)] [] s0
  unfold X6_fillStretch_f at h
  refine j_aload_n hC dX6_fillStretch_0 rfl 1 rfl ?_
  refine get_X6_144 hC j1 hj1 dX6_fillStretch_1 ?_
  refine j_iload_n hC dX6_fillStretch_4 rfl 2 rfl ?_
  refine ald_X0_seconds hC j1 hj1 dX6_fillStretch_5 h ?_
  intro v1 h
  refine j_istore hC dX6_fillStretch_6 (by decide) rfl ?_
  refine j_aload_n hC dX6_fillStretch_8 rfl 1 rfl ?_
  refine get_X6_51 hC dX6_fillStretch_9 ?_
  refine j_pc (n2 := 12) rfl ?_
  refine j_aload_n hC dX6_fillStretch_12 rfl 1 rfl ?_
  refine get_X6_37 hC dX6_fillStretch_13 ?_
  refine j_iload_n hC dX6_fillStretch_16 rfl 4 rfl ?_
  refine j_iload hC dX6_fillStretch_17 0 rfl ?_
  refine j_aload_n hC dX6_fillStretch_19 rfl 2 rfl ?_
  refine get_X6_207 hC j1 hj1 dX6_fillStretch_20 ?_
  refine j_iload_n hC dX6_fillStretch_23 rfl 3 rfl ?_
  refine ald_X0_mood hC j1 hj1 dX6_fillStretch_24 h ?_
  intro v2 h
  refine j_pc (n2 := 25) rfl ?_
  refine j_aload_n hC dX6_fillStretch_25 rfl 2 rfl ?_
  refine get_X6_210 hC j1 hj1 dX6_fillStretch_26 ?_
  refine j_iload_n hC dX6_fillStretch_29 rfl 3 rfl ?_
  refine ald_X0_wantedNew hC j1 hj1 dX6_fillStretch_30 h ?_
  intro v3 h
  obtain ⟨v4, s1, hc, h⟩ := cal_some h
  refine call_X6_213 hC (fun l D => X2_aim_ok l D g hc) (by decide) (Nat.le_of_ble_eq_true rfl) dX6_fillStretch_31 ?_
  refine j_aload_n hC dX6_fillStretch_34 rfl 1 rfl ?_
  refine get_X6_51 hC dX6_fillStretch_35 ?_
  refine j_aload_n hC dX6_fillStretch_38 rfl 1 rfl ?_
  refine j_pc (n2 := 39) rfl ?_
  refine get_X6_37 hC dX6_fillStretch_39 ?_
  refine j_iload_n hC dX6_fillStretch_42 rfl 4 rfl ?_
  refine j_aload_n hC dX6_fillStretch_43 rfl 1 rfl ?_
  refine j_iload_n hC dX6_fillStretch_44 rfl 4 rfl ?_
  obtain ⟨v5, s2, hc, h⟩ := cal_some h
  refine call_X6_217 hC (fun l D => X6_keyAhead_ok l D g hc) (by decide) (Nat.le_of_ble_eq_true rfl) dX6_fillStretch_45 ?_
  obtain ⟨v6, s3, hc, h⟩ := cal_some h
  refine call_X6_220 hC (fun l D => X2_run_ok l D g hc) (by decide) (Nat.le_of_ble_eq_true rfl) dX6_fillStretch_48 ?_
  refine j_iload_n hC dX6_fillStretch_51 rfl 4 rfl ?_
  refine j_istore hC dX6_fillStretch_52 (by decide) rfl ?_
  refine j_pc (n2 := 54) rfl ?_
  refine j_iconst (v := 0) hC dX6_fillStretch_54 (by decide) ?_
  refine j_istore hC dX6_fillStretch_55 (by decide) rfl ?_
  refine j_sub [3, 5, 6, 2, 1, 0] rfl ?_
  exact X6_fillStretch_l57_ok hC N x2 x3 v1 x3 0 s3 h
set_option maxRecDepth 20000 in
def X6_lay_l113 (N : Nat) (k80 : Nat → Int32 → Int32 → Int32 → St → Option (Int32 × St)) (j2 : Nat) (x3 : Int32) (x4 : Int32) (x5 : Int32) (s0 : St) : Option (Int32 × St) :=
  ald s0 (30 + 4 * j2 + 0) 8 x5 fun v1 =>
  bnd (x4 + v1) fun v2 =>
  bnd (x5 + 1) fun v3 =>
  k80 j2 x3 v2 v3 s0
set_option maxRecDepth 20000 in
theorem X6_lay_l113_ok {K : Kx} {g : Gm} {N : Nat} {o : Int32 × St} (hC : Ok K cX6_lay RX6 g 6 17 (some .int)) {k80 : Nat → Int32 → Int32 → Int32 → St → Option (Int32 × St)} (hk80 : ∀ (j2 : Nat) (x3 : Int32) (x4 : Int32) (x5 : Int32) (s0 : St), j2 < 7 → k80 j2 x3 x4 x5 s0 = some o → J K (wX g) 6 (QI K g (wX g) o) 80 [(0, .ref (g.1 0)), (2, .ref (g.1 (37 + 5 * j2))), (3, .int x3), (4, .int x4), (5, .int x5)] [] s0) : ∀ (j2 : Nat) (x3 : Int32) (x4 : Int32) (x5 : Int32) (s0 : St), j2 < 7 → X6_lay_l113 N k80 j2 x3 x4 x5 s0 = some o → J K (wX g) 6 (QI K g (wX g) o) 113 [(0, .ref (g.1 0)), (2, .ref (g.1 (37 + 5 * j2))), (3, .int x3), (4, .int x4), (5, .int x5)] [] s0 := by
  intro j2 x3 x4 x5 s0 hj2 h
  unfold X6_lay_l113 at h
  refine j_iload hC dX6_lay_113 3 rfl ?_
  refine j_aload_n hC dX6_lay_115 rfl 1 rfl ?_
  refine get_X6_144 hC j2 hj2 dX6_lay_116 ?_
  refine j_iload hC dX6_lay_119 4 rfl ?_
  refine ald_X0_seconds hC j2 hj2 dX6_lay_121 h ?_
  intro v1 h
  refine j_iadd hC dX6_lay_122 ?_
  refine j_bi (E := x4 + v1) h (fun v2 h => ?_)
  refine j_istore hC dX6_lay_123 (by decide) rfl ?_
  refine j_pc (n2 := 125) rfl ?_
  refine j_iincb (n2 := 1) (k0 := 4) (lv2 := fun z => [(5, .int z), (4, .int v2), (0, .ref (g.1 0)), (2, .ref (g.1 (37 + 5 * j2))), (3, .int x3)]) hC dX6_lay_125 rfl (by decide) (by decide) (fun _ => rfl) h (fun v3 h => ?_)
  refine j_goto (tgt := 80) hC dX6_lay_128 (by decide) ?_
  refine j_sub [2, 3, 4, 1, 0] rfl ?_
  exact hk80 j2 x3 v2 v3 s0 hj2 h
set_option maxRecDepth 20000 in
def X6_lay_l80 (N : Nat) : Nat → Nat → Int32 → Int32 → Int32 → St → Option (Int32 × St)
  | 0 => fun _ _ _ _ _ => none
  | n + 1 => fun j2 x3 x4 x5 s0 =>
  if gi s0 (27 + 3 * j2 + 0) ≤ x5 then
  cal (X1_closeHour_f N (gi s0 (27 + 3 * j2 + 0)) s0) fun _ s1 =>
    some (x3, s1)
  else
  cal (X0_isStretch_f N j2 x5 s0) fun v2 s2 =>
    if v2 = 0 then
    X6_lay_l113 N (X6_lay_l80 N n) j2 x3 x4 x5 s2
    else
    cal (X6_fillStretch_f N j2 x5 x4 s2) fun v3 s3 =>
      if v3 = 0 then
      X6_lay_l113 N (X6_lay_l80 N n) j2 x3 x4 x5 s3
      else
      bnd (x3 + 1) fun v4 =>
        X6_lay_l113 N (X6_lay_l80 N n) j2 v4 x4 x5 s3
set_option maxRecDepth 20000 in
theorem X6_lay_l80_ok {K : Kx} {g : Gm} {N : Nat} {o : Int32 × St} (hC : Ok K cX6_lay RX6 g 6 17 (some .int)) : ∀ (n : Nat) (j2 : Nat) (x3 : Int32) (x4 : Int32) (x5 : Int32) (s0 : St), j2 < 7 → X6_lay_l80 N n j2 x3 x4 x5 s0 = some o → J K (wX g) 6 (QI K g (wX g) o) 80 [(0, .ref (g.1 0)), (2, .ref (g.1 (37 + 5 * j2))), (3, .int x3), (4, .int x4), (5, .int x5)] [] s0 := by
  intro n
  induction n with
  | zero => intro j2 x3 x4 x5 s0 hj2 h; cases h
  | succ n ih =>
    intro j2 x3 x4 x5 s0 hj2 h
    rw [X6_lay_l80] at h
    refine j_iload hC dX6_lay_80 4 rfl ?_
    refine j_aload_n hC dX6_lay_82 rfl 1 rfl ?_
    refine get_X6_93 hC j2 hj2 dX6_lay_83 ?_
    refine j_icmp_ge (tgt := 131) hC dX6_lay_86 (by decide) h ?_ ?_
    · intro h
      refine j_aload_n hC dX6_lay_131 rfl 0 rfl ?_
      refine get_X6_44 hC dX6_lay_132 ?_
      refine j_aload_n hC dX6_lay_135 rfl 1 rfl ?_
      refine get_X6_93 hC j2 hj2 dX6_lay_136 ?_
      obtain ⟨v1, s1, hc, h⟩ := cal_some h
      refine call_X6_147 hC (fun l D => X1_closeHour_ok l D g hc) (by decide) (Nat.le_of_ble_eq_true rfl) dX6_lay_139 ?_
      refine j_iload_n hC dX6_lay_142 rfl 2 rfl ?_
      exact j_iret hC dX6_lay_143 rfl h
    · intro h
      refine j_aload_n hC dX6_lay_89 rfl 1 rfl ?_
      refine j_iload hC dX6_lay_90 4 rfl ?_
      obtain ⟨v2, s2, hc, h⟩ := cal_some h
      refine call_X6_137 hC hj2 (fun l D => X0_isStretch_ok l D g hj2 hc) (by decide) (Nat.le_of_ble_eq_true rfl) dX6_lay_92 ?_
      refine j_if_eq (tgt := 113) hC dX6_lay_95 (by decide) h ?_ ?_
      · intro h
        refine j_sub [0, 1, 2, 3, 4] rfl ?_
        exact X6_lay_l113_ok hC ih j2 x3 x4 x5 s2 hj2 h
      · intro h
        refine j_aload_n hC dX6_lay_98 rfl 0 rfl ?_
        refine j_aload_n hC dX6_lay_99 rfl 1 rfl ?_
        refine j_iload hC dX6_lay_100 4 rfl ?_
        refine j_iload hC dX6_lay_102 3 rfl ?_
        obtain ⟨v3, s3, hc, h⟩ := cal_some h
        refine call_X6_140 hC hj2 (fun l D => X6_fillStretch_ok l D g hj2 hc) (by decide) (Nat.le_of_ble_eq_true rfl) dX6_lay_104 ?_
        refine j_if_eq (tgt := 113) hC dX6_lay_107 (by decide) h ?_ ?_
        · intro h
          refine j_sub [0, 1, 2, 3, 4] rfl ?_
          exact X6_lay_l113_ok hC ih j2 x3 x4 x5 s3 hj2 h
        · intro h
          refine j_iincb (n2 := 1) (k0 := 2) (lv2 := fun z => [(3, .int z), (0, .ref (g.1 0)), (2, .ref (g.1 (37 + 5 * j2))), (4, .int x4), (5, .int x5)]) hC dX6_lay_110 rfl (by decide) (by decide) (fun _ => rfl) h (fun v4 h => ?_)
          refine j_sub [1, 2, 0, 3, 4] rfl ?_
          exact X6_lay_l113_ok hC ih j2 v4 x4 x5 s3 hj2 h
set_option maxRecDepth 20000 in
def X6_lay_f (N : Nat) (x1 : Int32) (s0 : St) : Option (Int32 × St) :=
  cal (X6_isClock_f N x1 s0) fun v1 s1 =>
  if v1 = 0 then
  none
  else
  chk (inB x1 6) <|
    if gi s1 (27 + 3 * x1.toNatClampNeg + 0) = 0 then
    some ((-1), s1)
    else
    cal (X1_hasRoomFor_f N (gi s1 (27 + 3 * x1.toNatClampNeg + 1)) s1) fun v2 s2 =>
      if v2 = 0 then
      some ((-1), s2)
      else
      cal (X2_prepare_f N  s2) fun _ s3 =>
        bnd ((gi s3 10) * 3600) fun v4 =>
        X6_lay_l80 N N x1.toNatClampNeg 0 v4 0 s3
set_option maxRecDepth 20000 in
theorem X6_lay_ok (l : Launch) (D : va_G) (g : Gm) {N : Nat} {x1 : Int32} {s0 : St} {o : Int32 × St} (h : X6_lay_f N x1 s0 = some o) : MI l yX6_lay cX6_lay 6 (some .int) 17 D g (wX g) [.ref (g.1 0), .int x1] s0 o := by
  refine met_I (own := RX6) (by decide) rfl (Nat.le_of_ble_eq_true rfl) (fun K hC => ?_)
  show J K (wX g) 6 (QI K g (wX g) o) 0 [(0, .ref (g.1 0)), (1, .int x1)] [] s0
  unfold X6_lay_f at h
  refine j_iload_n hC dX6_lay_0 rfl 1 rfl ?_
  obtain ⟨v1, s1, hc, h⟩ := cal_some h
  refine call_X6_77 hC (fun l D => X6_isClock_ok l D g hc) (by decide) (Nat.le_of_ble_eq_true rfl) dX6_lay_1 ?_
  refine j_if_ne (tgt := 17) hC dX6_lay_4 (by decide) h ?_ ?_
  · intro h
    refine j_aload_n hC dX6_lay_17 rfl 0 rfl ?_
    refine get_X6_25 hC dX6_lay_18 ?_
    refine j_iload_n hC dX6_lay_21 rfl 1 rfl ?_
    refine ald_clocks hC dX6_lay_22 h ?_
    intro hj_x1_toNatClampNeg h
    refine j_astore_n hC dX6_lay_23 rfl (by decide) rfl ?_
    refine j_aload_n hC dX6_lay_24 rfl 0 rfl ?_
    refine get_X6_93 hC x1.toNatClampNeg hj_x1_toNatClampNeg dX6_lay_25 ?_
    refine j_pc (n2 := 28) rfl ?_
    refine j_if_eq (tgt := 45) hC dX6_lay_28 (by decide) h ?_ ?_
    · intro h
      refine j_iconst (v := (-1)) hC dX6_lay_45 (by decide) ?_
      exact j_iret hC dX6_lay_46 rfl h
    · intro h
      refine j_aload_n hC dX6_lay_31 rfl 1 rfl ?_
      refine get_X6_44 hC dX6_lay_32 ?_
      refine j_aload_n hC dX6_lay_35 rfl 0 rfl ?_
      refine get_X6_124 hC x1.toNatClampNeg hj_x1_toNatClampNeg dX6_lay_36 ?_
      obtain ⟨v2, s2, hc, h⟩ := cal_some h
      refine call_X6_127 hC (fun l D => X1_hasRoomFor_ok l D g hc) (by decide) (Nat.le_of_ble_eq_true rfl) dX6_lay_39 ?_
      refine j_if_ne (tgt := 47) hC dX6_lay_42 (by decide) h ?_ ?_
      · intro h
        refine j_aload_n hC dX6_lay_47 rfl 1 rfl ?_
        refine get_X6_51 hC dX6_lay_48 ?_
        refine j_aload_n hC dX6_lay_51 rfl 1 rfl ?_
        refine get_X6_37 hC dX6_lay_52 ?_
        refine j_aload_n hC dX6_lay_55 rfl 1 rfl ?_
        refine get_X6_19 hC dX6_lay_56 ?_
        obtain ⟨v3, s3, hc, h⟩ := cal_some h
        refine call_X6_130 hC (fun l D => X2_prepare_ok l D g hc) (by decide) (Nat.le_of_ble_eq_true rfl) dX6_lay_59 ?_
        refine j_pc (n2 := 62) rfl ?_
        refine j_iconst (v := 0) hC dX6_lay_62 (by decide) ?_
        refine j_istore_n hC dX6_lay_63 rfl (by decide) rfl ?_
        refine j_aload_n hC dX6_lay_64 rfl 2 rfl ?_
        refine get_X6_44 hC dX6_lay_65 ?_
        refine get_X6_134 hC dX6_lay_68 ?_
        refine j_sipush (v := 3600) hC dX6_lay_71 (by decide) ?_
        refine j_imul hC dX6_lay_74 ?_
        refine j_bi (E := (gi s3 10) * 3600) h (fun v4 h => ?_)
        refine j_istore hC dX6_lay_75 (by decide) rfl ?_
        refine j_pc (n2 := 77) rfl ?_
        refine j_iconst (v := 0) hC dX6_lay_77 (by decide) ?_
        refine j_istore hC dX6_lay_78 (by decide) rfl ?_
        refine j_sub [4, 3, 2, 1, 0] rfl ?_
        exact X6_lay_l80_ok hC N x1.toNatClampNeg 0 v4 0 s3 hj_x1_toNatClampNeg h
      · intro h
        refine j_iconst (v := (-1)) hC dX6_lay_45 (by decide) ?_
        exact j_iret hC dX6_lay_46 rfl h
  · intro h
    cases h
