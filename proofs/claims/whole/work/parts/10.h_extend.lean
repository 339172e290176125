set_option maxRecDepth 20000 in
def X2_tryNext_f (N : Nat) (ext : Int32 → Int32 → Int32 → Int32 → Int32 → St → Option (Int32 × St)) (x2 : Int32) (x3 : Int32) (x4 : Int32) (x5 : Int32) (x6 : Int32) (s0 : St) : Option (Int32 × St) :=
  ald s0 5 24 x3 fun v1 =>
  ald s0 26 24 x3 fun v2 =>
  ald s0 27 12 v1 fun v3 =>
  ald s0 4 24 x3 fun v4 =>
  bnd (x4 + v4) fun v5 =>
  ald s0 25 24 x3 fun v6 =>
  bnd (x5 + v6) fun v7 =>
  ald s0 8 24 x3 fun v8 =>
  bnd (x6 + v8) fun v9 =>
  ast s0 24 4 x2 x3 fun s1 =>
  cal (X2_compare_f N (x2 + 1) ((gi s1 25) - v5) v7 v9 s1) fun _ s2 =>
  ast s2 26 24 x3 (x4 + (gi s2 20)) fun s3 =>
  ast s3 27 12 v1 (x4 + (gi s3 21)) fun s4 =>
  ald s4 6 24 x3 fun v11 =>
  cal (ext (x2 + 1) v5 v11 v7 v9 s4) fun _ s5 =>
  ast s5 26 24 x3 v2 fun s6 =>
  ast s6 27 12 v1 v3 fun s7 =>
  some (0, s7)
set_option maxRecDepth 20000 in
theorem X2_tryNext_ok (l : Launch) (D : va_G) (g : Gm) {ext : Int32 → Int32 → Int32 → Int32 → Int32 → St → Option (Int32 × St)} {t : Nat} (hext : ∀ (x2 x3 x4 x5 x6 : Int32) (s : St) (o : Int32 × St), ext x2 x3 x4 x5 x6 s = some o → ∀ (l : Launch) (D : va_G), MV l yX2_extend cX2_extend 10 none (4 + 2 * t) D g (wX g) [.ref (g.1 29), .ref (g.1 8), .int x2, .int x3, .int x4, .int x5, .int x6] s o) {N : Nat} {x2 : Int32} {x3 : Int32} {x4 : Int32} {x5 : Int32} {x6 : Int32} {s0 : St} {o : Int32 × St} (h : X2_tryNext_f N ext x2 x3 x4 x5 x6 s0 = some o) : MV l yX2_tryNext cX2_tryNext 13 none (4 + 2 * t + 1) D g (wX g) [.ref (g.1 29), .ref (g.1 8), .int x2, .int x3, .int x4, .int x5, .int x6] s0 o := by
  refine met_V (own := RX2) (by decide) rfl (Nat.le_of_ble_eq_true rfl) (fun K hC => ?_)
  show J K (wX g) 13 (QV K g (wX g) o) 0 [(0, .ref (g.1 29)), (1, .ref (g.1 8)), (2, .int x2), (3, .int x3), (4, .int x4), (5, .int x5), (6, .int x6)] [] s0
  unfold X2_tryNext_f at h
  refine j_aload_n hC dX2_tryNext_0 rfl 1 rfl ?_
  refine get_X2_125 hC dX2_tryNext_1 ?_
  refine j_iload_n hC dX2_tryNext_4 rfl 3 rfl ?_
  refine ald_X4_artist hC dX2_tryNext_5 h ?_
  intro v1 h
  refine j_istore hC dX2_tryNext_6 (by decide) rfl ?_
  refine j_aload_n hC dX2_tryNext_8 rfl 1 rfl ?_
  refine get_X2_21 hC dX2_tryNext_9 ?_
  refine j_pc (n2 := 12) rfl ?_
  refine j_iload_n hC dX2_tryNext_12 rfl 4 rfl ?_
  refine ald_X2_songFree hC dX2_tryNext_13 h ?_
  intro v2 h
  refine j_istore hC dX2_tryNext_14 (by decide) rfl ?_
  refine j_aload_n hC dX2_tryNext_16 rfl 2 rfl ?_
  refine get_X2_24 hC dX2_tryNext_17 ?_
  refine j_iload hC dX2_tryNext_20 1 rfl ?_
  refine ald_X2_artistFree hC dX2_tryNext_22 h ?_
  intro v3 h
  refine j_istore hC dX2_tryNext_23 (by decide) rfl ?_
  refine j_pc (n2 := 25) rfl ?_
  refine j_iload hC dX2_tryNext_25 7 rfl ?_
  refine j_aload_n hC dX2_tryNext_27 rfl 4 rfl ?_
  refine get_X2_116 hC dX2_tryNext_28 ?_
  refine j_iload_n hC dX2_tryNext_31 rfl 6 rfl ?_
  refine ald_X4_seconds hC dX2_tryNext_32 h ?_
  intro v4 h
  refine j_iadd hC dX2_tryNext_33 ?_
  refine j_bi (E := x4 + v4) h (fun v5 h => ?_)
  refine j_istore hC dX2_tryNext_34 (by decide) rfl ?_
  refine j_iload hC dX2_tryNext_36 9 rfl ?_
  refine j_pc (n2 := 38) rfl ?_
  refine j_aload_n hC dX2_tryNext_38 rfl 4 rfl ?_
  refine get_X2_18 hC dX2_tryNext_39 ?_
  refine j_iload_n hC dX2_tryNext_42 rfl 7 rfl ?_
  refine ald_X2_heat hC dX2_tryNext_43 h ?_
  intro v6 h
  refine j_iadd hC dX2_tryNext_44 ?_
  refine j_bi (E := x5 + v6) h (fun v7 h => ?_)
  refine j_istore hC dX2_tryNext_45 (by decide) rfl ?_
  refine j_iload hC dX2_tryNext_47 11 rfl ?_
  refine j_aload_n hC dX2_tryNext_49 rfl 6 rfl ?_
  refine j_pc (n2 := 50) rfl ?_
  refine get_X2_122 hC dX2_tryNext_50 ?_
  refine j_iload_n hC dX2_tryNext_53 rfl 8 rfl ?_
  refine ald_X4_newness hC dX2_tryNext_54 h ?_
  intro v8 h
  refine j_iadd hC dX2_tryNext_55 ?_
  refine j_bi (E := x6 + v8) h (fun v9 h => ?_)
  refine j_istore hC dX2_tryNext_56 (by decide) rfl ?_
  refine j_aload_n hC dX2_tryNext_58 rfl 6 rfl ?_
  refine get_X2_15 hC dX2_tryNext_59 ?_
  refine j_iload_n hC dX2_tryNext_62 rfl 8 rfl ?_
  refine j_pc (n2 := 63) rfl ?_
  refine j_iload_n hC dX2_tryNext_63 rfl 9 rfl ?_
  refine ast_X2_row hC dX2_tryNext_64 h ?_
  intro s1 h
  refine j_aload_n hC dX2_tryNext_65 rfl 6 rfl ?_
  refine j_iload_n hC dX2_tryNext_66 rfl 8 rfl ?_
  refine j_iconst (v := 1) hC dX2_tryNext_67 (by decide) ?_
  refine j_iadd hC dX2_tryNext_68 ?_
  refine j_aload_n hC dX2_tryNext_69 rfl 6 rfl ?_
  refine get_X2_68 hC dX2_tryNext_70 ?_
  refine j_pc (n2 := 73) rfl ?_
  refine j_iload hC dX2_tryNext_73 2 rfl ?_
  refine j_isub hC dX2_tryNext_75 ?_
  refine j_iload hC dX2_tryNext_76 1 rfl ?_
  refine j_iload hC dX2_tryNext_78 0 rfl ?_
  obtain ⟨v10, s2, hc, h⟩ := cal_some h
  refine call_X2_142 hC (fun l D => X2_compare_ok l D g hc) (by omega) (Nat.le_of_ble_eq_true rfl) dX2_tryNext_80 ?_
  refine j_aload_n hC dX2_tryNext_83 rfl 6 rfl ?_
  refine get_X2_21 hC dX2_tryNext_84 ?_
  refine j_iload_n hC dX2_tryNext_87 rfl 9 rfl ?_
  refine j_pc (n2 := 88) rfl ?_
  refine j_iload hC dX2_tryNext_88 10 rfl ?_
  refine j_aload_n hC dX2_tryNext_90 rfl 6 rfl ?_
  refine get_X2_38 hC dX2_tryNext_91 ?_
  refine j_iadd hC dX2_tryNext_94 ?_
  refine ast_X2_songFree hC dX2_tryNext_95 h ?_
  intro s3 h
  refine j_aload_n hC dX2_tryNext_96 rfl 6 rfl ?_
  refine get_X2_24 hC dX2_tryNext_97 ?_
  refine j_iload hC dX2_tryNext_100 5 rfl ?_
  refine j_pc (n2 := 102) rfl ?_
  refine j_iload hC dX2_tryNext_102 10 rfl ?_
  refine j_aload_n hC dX2_tryNext_104 rfl 6 rfl ?_
  refine get_X2_42 hC dX2_tryNext_105 ?_
  refine j_iadd hC dX2_tryNext_108 ?_
  refine ast_X2_artistFree hC dX2_tryNext_109 h ?_
  intro s4 h
  refine j_aload_n hC dX2_tryNext_110 rfl 6 rfl ?_
  refine j_aload_n hC dX2_tryNext_111 rfl 7 rfl ?_
  refine j_iload_n hC dX2_tryNext_112 rfl 8 rfl ?_
  refine j_pc (n2 := 113) rfl ?_
  refine j_iconst (v := 1) hC dX2_tryNext_113 (by decide) ?_
  refine j_iadd hC dX2_tryNext_114 ?_
  refine j_iload hC dX2_tryNext_115 2 rfl ?_
  refine j_aload_n hC dX2_tryNext_117 rfl 7 rfl ?_
  refine get_X2_146 hC dX2_tryNext_118 ?_
  refine j_iload_n hC dX2_tryNext_121 rfl 9 rfl ?_
  refine ald_X4_key hC dX2_tryNext_122 h ?_
  intro v11 h
  refine j_iload hC dX2_tryNext_123 1 rfl ?_
  refine j_pc (n2 := 125) rfl ?_
  refine j_iload hC dX2_tryNext_125 0 rfl ?_
  obtain ⟨v12, s5, hc, h⟩ := cal_some h
  refine call_X2_93 hC (fun l D => hext _ _ _ _ _ _ _ hc l D) (by omega) (Nat.le_of_ble_eq_true rfl) dX2_tryNext_127 ?_
  refine j_aload_n hC dX2_tryNext_130 rfl 6 rfl ?_
  refine get_X2_21 hC dX2_tryNext_131 ?_
  refine j_iload_n hC dX2_tryNext_134 rfl 9 rfl ?_
  refine j_iload hC dX2_tryNext_135 4 rfl ?_
  refine ast_X2_songFree hC dX2_tryNext_137 h ?_
  intro s6 h
  refine j_aload_n hC dX2_tryNext_138 rfl 6 rfl ?_
  refine j_pc (n2 := 139) rfl ?_
  refine get_X2_24 hC dX2_tryNext_139 ?_
  refine j_iload hC dX2_tryNext_142 5 rfl ?_
  refine j_iload hC dX2_tryNext_144 3 rfl ?_
  refine ast_X2_artistFree hC dX2_tryNext_146 h ?_
  intro s7 h
  exact j_vret (v := 0) hC dX2_tryNext_147 h
set_option maxRecDepth 20000 in
def X2_extend_l116 (N : Nat) (k56 : Int32 → Int32 → Int32 → Int32 → Int32 → Int32 → St → Option (Int32 × St)) (ext : Int32 → Int32 → Int32 → Int32 → Int32 → St → Option (Int32 × St)) (x2 : Int32) (x3 : Int32) (x4 : Int32) (x5 : Int32) (x6 : Int32) (x8 : Int32) (s0 : St) : Option (Int32 × St) :=
  bnd (x8 + 1) fun v1 =>
  k56 x2 x3 x4 x5 x6 v1 s0
set_option maxRecDepth 20000 in
theorem X2_extend_l116_ok {K : Kx} {g : Gm} {N : Nat} {o : Int32 × St} {ext : Int32 → Int32 → Int32 → Int32 → Int32 → St → Option (Int32 × St)} {t : Nat} (hext : ∀ (x2 x3 x4 x5 x6 : Int32) (s : St) (o : Int32 × St), ext x2 x3 x4 x5 x6 s = some o → ∀ (l : Launch) (D : va_G), MV l yX2_extend cX2_extend 10 none (4 + 2 * t) D g (wX g) [.ref (g.1 29), .ref (g.1 8), .int x2, .int x3, .int x4, .int x5, .int x6] s o) (hC : Ok K cX2_extend RX2 g 10 (4 + 2 * (t + 1)) none) {k56 : Int32 → Int32 → Int32 → Int32 → Int32 → Int32 → St → Option (Int32 × St)} (hk56 : ∀ (x2 : Int32) (x3 : Int32) (x4 : Int32) (x5 : Int32) (x6 : Int32) (x8 : Int32) (s0 : St), k56 x2 x3 x4 x5 x6 x8 s0 = some o → J K (wX g) 10 (QV K g (wX g) o) 56 [(0, .ref (g.1 29)), (1, .ref (g.1 8)), (2, .int x2), (3, .int x3), (4, .int x4), (5, .int x5), (6, .int x6), (8, .int x8)] [] s0) : ∀ (x2 : Int32) (x3 : Int32) (x4 : Int32) (x5 : Int32) (x6 : Int32) (x8 : Int32) (s0 : St), X2_extend_l116 N k56 ext x2 x3 x4 x5 x6 x8 s0 = some o → J K (wX g) 10 (QV K g (wX g) o) 116 [(0, .ref (g.1 29)), (1, .ref (g.1 8)), (2, .int x2), (3, .int x3), (4, .int x4), (5, .int x5), (6, .int x6), (8, .int x8)] [] s0 := by
  intro x2 x3 x4 x5 x6 x8 s0 h
  unfold X2_extend_l116 at h
  refine j_iincb (n2 := 1) (k0 := 7) (lv2 := fun z => [(8, .int z), (0, .ref (g.1 29)), (1, .ref (g.1 8)), (2, .int x2), (3, .int x3), (4, .int x4), (5, .int x5), (6, .int x6)]) hC dX2_extend_116 rfl (by decide) (by decide) (fun _ => rfl) h (fun v1 h => ?_)
  refine j_goto (tgt := 56) hC dX2_extend_119 (by decide) ?_
  refine j_sub [1, 2, 3, 4, 5, 6, 7, 0] rfl ?_
  exact hk56 x2 x3 x4 x5 x6 v1 s0 h
set_option maxRecDepth 20000 in
def X2_extend_l56 (N : Nat) (ext : Int32 → Int32 → Int32 → Int32 → Int32 → St → Option (Int32 × St)) : Nat → Int32 → Int32 → Int32 → Int32 → Int32 → Int32 → St → Option (Int32 × St)
  | 0 => fun _ _ _ _ _ _ _ => none
  | n + 1 => fun x2 x3 x4 x5 x6 x8 s0 =>
  if gi s0 17 ≤ x8 then
  some (0, s0)
  else
  ald s0 28 24 x8 fun v1 =>
    ald s0 4 24 v1 fun v2 =>
    if (gi s0 25) - x3 < v2 then
    X2_extend_l116 N (X2_extend_l56 N ext n) ext x2 x3 x4 x5 x6 x8 s0
    else
    cal (X2_mayBegin_f N v1 x3 x4 s0) fun v3 s1 =>
      if v3 = 0 then
      X2_extend_l116 N (X2_extend_l56 N ext n) ext x2 x3 x4 x5 x6 x8 s1
      else
      cal (X2_tryNext_f N ext x2 v1 x3 x5 x6 s1) fun _ s2 =>
        X2_extend_l116 N (X2_extend_l56 N ext n) ext x2 x3 x4 x5 x6 x8 s2
set_option maxRecDepth 20000 in
theorem X2_extend_l56_ok {K : Kx} {g : Gm} {N : Nat} {o : Int32 × St} {ext : Int32 → Int32 → Int32 → Int32 → Int32 → St → Option (Int32 × St)} {t : Nat} (hext : ∀ (x2 x3 x4 x5 x6 : Int32) (s : St) (o : Int32 × St), ext x2 x3 x4 x5 x6 s = some o → ∀ (l : Launch) (D : va_G), MV l yX2_extend cX2_extend 10 none (4 + 2 * t) D g (wX g) [.ref (g.1 29), .ref (g.1 8), .int x2, .int x3, .int x4, .int x5, .int x6] s o) (hC : Ok K cX2_extend RX2 g 10 (4 + 2 * (t + 1)) none) : ∀ (n : Nat) (x2 : Int32) (x3 : Int32) (x4 : Int32) (x5 : Int32) (x6 : Int32) (x8 : Int32) (s0 : St), X2_extend_l56 N ext n x2 x3 x4 x5 x6 x8 s0 = some o → J K (wX g) 10 (QV K g (wX g) o) 56 [(0, .ref (g.1 29)), (1, .ref (g.1 8)), (2, .int x2), (3, .int x3), (4, .int x4), (5, .int x5), (6, .int x6), (8, .int x8)] [] s0 := by
  intro n
  induction n with
  | zero => intro x2 x3 x4 x5 x6 x8 s0 h; cases h
  | succ n ih =>
    intro x2 x3 x4 x5 x6 x8 s0 h
    rw [X2_extend_l56] at h
    refine j_iload hC dX2_extend_56 7 rfl ?_
    refine j_aload_n hC dX2_extend_58 rfl 0 rfl ?_
    refine get_X2_97 hC dX2_extend_59 ?_
    refine j_icmp_ge (tgt := 122) hC dX2_extend_62 (by decide) h ?_ ?_
    · intro h
      exact j_vret (v := 0) hC dX2_extend_122 h
    · intro h
      refine j_aload_n hC dX2_extend_65 rfl 0 rfl ?_
      refine get_X2_27 hC dX2_extend_66 ?_
      refine j_iload hC dX2_extend_69 7 rfl ?_
      refine ald_X2_pool hC dX2_extend_71 h ?_
      intro v1 h
      refine j_istore hC dX2_extend_72 (by decide) rfl ?_
      refine j_aload_n hC dX2_extend_74 rfl 2 rfl ?_
      refine get_X2_116 hC dX2_extend_75 ?_
      refine j_pc (n2 := 78) rfl ?_
      refine j_iload hC dX2_extend_78 0 rfl ?_
      refine ald_X4_seconds hC dX2_extend_80 h ?_
      intro v2 h
      refine j_aload_n hC dX2_extend_81 rfl 1 rfl ?_
      refine get_X2_68 hC dX2_extend_82 ?_
      refine j_iload_n hC dX2_extend_85 rfl 4 rfl ?_
      refine j_isub hC dX2_extend_86 ?_
      refine j_icmp_gt (tgt := 116) hC dX2_extend_87 (by decide) h ?_ ?_
      · intro h
        refine j_sub [1, 2, 3, 4, 5, 6, 7, 8] rfl ?_
        exact X2_extend_l116_ok hext hC ih x2 x3 x4 x5 x6 x8 s0 h
      · intro h
        refine j_aload_n hC dX2_extend_90 rfl 1 rfl ?_
        refine j_aload_n hC dX2_extend_91 rfl 2 rfl ?_
        refine j_iload hC dX2_extend_92 0 rfl ?_
        refine j_iload_n hC dX2_extend_94 rfl 4 rfl ?_
        refine j_iload hC dX2_extend_95 5 rfl ?_
        obtain ⟨v3, s1, hc, h⟩ := cal_some h
        refine call_X2_135 hC (fun l D => X2_mayBegin_ok l D g hc) (by omega) (Nat.le_of_ble_eq_true rfl) dX2_extend_97 ?_
        refine j_if_eq (tgt := 116) hC dX2_extend_100 (by decide) h ?_ ?_
        · intro h
          refine j_sub [1, 2, 3, 4, 5, 6, 7, 8] rfl ?_
          exact X2_extend_l116_ok hext hC ih x2 x3 x4 x5 x6 x8 s1 h
        · intro h
          refine j_aload_n hC dX2_extend_103 rfl 1 rfl ?_
          refine j_aload_n hC dX2_extend_104 rfl 2 rfl ?_
          refine j_iload_n hC dX2_extend_105 rfl 3 rfl ?_
          refine j_iload hC dX2_extend_106 0 rfl ?_
          refine j_iload_n hC dX2_extend_108 rfl 4 rfl ?_
          refine j_iload hC dX2_extend_109 6 rfl ?_
          refine j_iload hC dX2_extend_111 7 rfl ?_
          refine j_pc (n2 := 113) rfl ?_
          obtain ⟨v4, s2, hc, h⟩ := cal_some h
          refine call_X2_139 hC (fun l D => X2_tryNext_ok l D g hext hc) (by omega) (Nat.le_of_ble_eq_true rfl) dX2_extend_113 ?_
          refine j_sub [1, 2, 3, 4, 5, 6, 7, 8] rfl ?_
          exact X2_extend_l116_ok hext hC ih x2 x3 x4 x5 x6 x8 s2 h
set_option maxRecDepth 20000 in
def X2_extendB_f (N : Nat) (ext : Int32 → Int32 → Int32 → Int32 → Int32 → St → Option (Int32 × St)) (x2 : Int32) (x3 : Int32) (x4 : Int32) (x5 : Int32) (x6 : Int32) (s0 : St) : Option (Int32 × St) :=
  bnd ((gi s0 24) - x2) fun v1 =>
  if v1 ≤ 0 then
  some (0, s0)
  else
  cal (X2_isHopeless_f N v1 ((gi s0 25) - x3) x5 x6 s0) fun v2 s1 =>
    if v2 = 0 then
    if v1 = 1 then
      cal (X2_tryLast_f N x2 x3 x4 x5 x6 s1) fun _ s2 =>
        some (0, s2)
      else
      X2_extend_l56 N ext N x2 x3 x4 x5 x6 0 s1
    else
    some (0, s1)
set_option maxRecDepth 20000 in
theorem X2_extendB_ok (l : Launch) (D : va_G) (g : Gm) {ext : Int32 → Int32 → Int32 → Int32 → Int32 → St → Option (Int32 × St)} {t : Nat} (hext : ∀ (x2 x3 x4 x5 x6 : Int32) (s : St) (o : Int32 × St), ext x2 x3 x4 x5 x6 s = some o → ∀ (l : Launch) (D : va_G), MV l yX2_extend cX2_extend 10 none (4 + 2 * t) D g (wX g) [.ref (g.1 29), .ref (g.1 8), .int x2, .int x3, .int x4, .int x5, .int x6] s o) {N : Nat} {x2 : Int32} {x3 : Int32} {x4 : Int32} {x5 : Int32} {x6 : Int32} {s0 : St} {o : Int32 × St} (h : X2_extendB_f N ext x2 x3 x4 x5 x6 s0 = some o) : MV l yX2_extend cX2_extend 10 none (4 + 2 * (t + 1)) D g (wX g) [.ref (g.1 29), .ref (g.1 8), .int x2, .int x3, .int x4, .int x5, .int x6] s0 o := by
  refine met_V (own := RX2) (by decide) rfl (Nat.le_of_ble_eq_true rfl) (fun K hC => ?_)
  show J K (wX g) 10 (QV K g (wX g) o) 0 [(0, .ref (g.1 29)), (1, .ref (g.1 8)), (2, .int x2), (3, .int x3), (4, .int x4), (5, .int x5), (6, .int x6)] [] s0
  unfold X2_extendB_f at h
  refine j_aload_n hC dX2_extend_0 rfl 0 rfl ?_
  refine get_X2_57 hC dX2_extend_1 ?_
  refine j_iload_n hC dX2_extend_4 rfl 2 rfl ?_
  refine j_isub hC dX2_extend_5 ?_
  refine j_bi (E := (gi s0 24) - x2) h (fun v1 h => ?_)
  refine j_istore hC dX2_extend_6 (by decide) rfl ?_
  refine j_iload hC dX2_extend_8 0 rfl ?_
  refine j_if_le (tgt := 32) hC dX2_extend_10 (by decide) h ?_ ?_
  · intro h
    exact j_vret (v := 0) hC dX2_extend_32 h
  · intro h
    refine j_aload_n hC dX2_extend_13 rfl 1 rfl ?_
    refine j_iload hC dX2_extend_14 0 rfl ?_
    refine j_aload_n hC dX2_extend_16 rfl 1 rfl ?_
    refine get_X2_68 hC dX2_extend_17 ?_
    refine j_iload_n hC dX2_extend_20 rfl 4 rfl ?_
    refine j_isub hC dX2_extend_21 ?_
    refine j_iload hC dX2_extend_22 6 rfl ?_
    refine j_pc (n2 := 24) rfl ?_
    refine j_iload hC dX2_extend_24 7 rfl ?_
    obtain ⟨v2, s1, hc, h⟩ := cal_some h
    refine call_X2_128 hC (fun l D => X2_isHopeless_ok l D g hc) (by omega) (Nat.le_of_ble_eq_true rfl) dX2_extend_26 ?_
    refine j_if_eq (tgt := 33) hC dX2_extend_29 (by decide) h ?_ ?_
    · intro h
      refine j_iload hC dX2_extend_33 0 rfl ?_
      refine j_iconst (v := 1) hC dX2_extend_35 (by decide) ?_
      refine j_icmp_ne (tgt := 53) hC dX2_extend_36 (by decide) h ?_ ?_
      · intro h
        refine j_iconst (v := 0) hC dX2_extend_53 (by decide) ?_
        refine j_istore hC dX2_extend_54 (by decide) rfl ?_
        refine j_sub [2, 3, 4, 5, 6, 7, 8, 0] rfl ?_
        exact X2_extend_l56_ok hext hC N x2 x3 x4 x5 x6 0 s1 h
      · intro h
        refine j_aload_n hC dX2_extend_39 rfl 1 rfl ?_
        refine j_aload_n hC dX2_extend_40 rfl 2 rfl ?_
        refine j_iload_n hC dX2_extend_41 rfl 3 rfl ?_
        refine j_iload_n hC dX2_extend_42 rfl 4 rfl ?_
        refine j_iload hC dX2_extend_43 5 rfl ?_
        refine j_iload hC dX2_extend_45 6 rfl ?_
        refine j_iload hC dX2_extend_47 7 rfl ?_
        refine j_pc (n2 := 49) rfl ?_
        obtain ⟨v3, s2, hc, h⟩ := cal_some h
        refine call_X2_132 hC (fun l D => X2_tryLast_ok l D g hc) (by omega) (Nat.le_of_ble_eq_true rfl) dX2_extend_49 ?_
        exact j_vret (v := 0) hC dX2_extend_52 h
    · intro h
      exact j_vret (v := 0) hC dX2_extend_32 h
def X2_extend_f (N : Nat) : Nat → Int32 → Int32 → Int32 → Int32 → Int32 → St → Option (Int32 × St)
  | 0 => fun _ _ _ _ _ _ => none
  | t + 1 => fun x2 x3 x4 x5 x6 s0 => X2_extendB_f N (X2_extend_f N t) x2 x3 x4 x5 x6 s0
theorem X2_extend_ok (l : Launch) (D : va_G) (g : Gm) (N : Nat) : ∀ (t : Nat) {x2 x3 x4 x5 x6 : Int32} {s0 : St} {o : Int32 × St}, X2_extend_f N t x2 x3 x4 x5 x6 s0 = some o → MV l yX2_extend cX2_extend 10 none (4 + 2 * t) D g (wX g) [.ref (g.1 29), .ref (g.1 8), .int x2, .int x3, .int x4, .int x5, .int x6] s0 o := by
  intro t
  induction t generalizing l D with
  | zero => intro x2 x3 x4 x5 x6 s0 o h; cases h
  | succ t ih =>
    intro x2 x3 x4 x5 x6 s0 o h
    rw [X2_extend_f] at h
    exact X2_extendB_ok l D g (ext := X2_extend_f N t) (fun _ _ _ _ _ _ _ h l D => ih l D h) h
def X2_run_f (N : Nat) (x2 : Int32) (x3 : Int32) (s0 : St) : Option (Int32 × St) :=
  cal (X2_extend_f N 5 0 x2 x3 0 0 s0) fun _ s1 =>
  some (0, s1)
theorem X2_run_ok (l : Launch) (D : va_G) (g : Gm) {N : Nat} {x2 : Int32} {x3 : Int32} {s0 : St} {o : Int32 × St} (h : X2_run_f N x2 x3 s0 = some o) : MV l yX2_run cX2_run 4 none 15 D g (wX g) [.ref (g.1 29), .ref (g.1 8), .int x2, .int x3] s0 o := by
  refine met_V (own := RX2) (by decide) rfl (Nat.le_of_ble_eq_true rfl) (fun K hC => ?_)
  show J K (wX g) 4 (QV K g (wX g) o) 0 [(0, .ref (g.1 29)), (1, .ref (g.1 8)), (2, .int x2), (3, .int x3)] [] s0
  unfold X2_run_f at h
  refine j_aload_n hC dX2_run_0 rfl 0 rfl ?_
  refine j_aload_n hC dX2_run_1 rfl 1 rfl ?_
  refine j_iconst (v := 0) hC dX2_run_2 (by decide) ?_
  refine j_iload_n hC dX2_run_3 rfl 2 rfl ?_
  refine j_iload_n hC dX2_run_4 rfl 3 rfl ?_
  refine j_iconst (v := 0) hC dX2_run_5 (by decide) ?_
  refine j_iconst (v := 0) hC dX2_run_6 (by decide) ?_
  refine j_pc (n2 := 7) rfl ?_
  obtain ⟨v1, s1, hc, h⟩ := cal_some h
  refine call_X2_93 hC (fun l D => X2_extend_ok l D g N 5 hc) (by decide) (Nat.le_of_ble_eq_true rfl) dX2_run_7 ?_
  exact j_vret (v := 0) hC dX2_run_10 h
