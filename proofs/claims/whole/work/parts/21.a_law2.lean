def LtK (K : Kx) : Prop := match K with
  | (p, l, e, R, s, m, args, below, meth, c, D, A, ce, sl) => l.stackTraces = false
def Scr (K : Kx) (b L : Nat) (xs : Nat → Int32) : Prop := match K with
  | (p, l, e, R, s, m, args, below, meth, c, D, A, ce, sl) => va_X b L xs s s.heap ∧ b < s.heap.size ∧ ¬ A b
theorem j_sld {K : Kx} {cc : ByteArray} {own : String} {g : Gm} {nL d : Nat} {ret : Option FieldType} {Q : State → Prop} {pc : Nat} {lv : List (Nat × Value)} {st : List Value} {σd : St} (hC : Ok K cc own g nL d ret) {ws : St → va_W} {b L : Nat} {xs : Nat → Int32} {i : Int32} (hS : Scr K b L xs) (k0 : Nat) (hi : i = nI k0) (hlt : k0 < L) (hL : L ≤ 3072) (hd : decode cc pc = .ok (.iaload, 1)) (k : J K ws nL Q (pc + 1) lv (.int (xs k0) :: st) σd) : J K ws nL Q pc lv (.int i :: .ref b :: st) σd := by
  obtain ⟨p, l, e, R, s, m, args, below, meth, c, D, A, ce, sl⟩ := K
  obtain ⟨hx, hb, hml, hown, hts, hK, hA, hSF, ⟨hR1, hR2, hR3, hR4⟩, hr, hlk⟩ := hC
  obtain ⟨hX, hbl, hbA⟩ := hS
  subst hi
  intro H locs ls hl hP hD hS
  refine va_sld hx hb hX hbl hbA hS (vp_in_nI hlt (by omega)) hd ?_
  rw [nI_clamp (by omega)]
  exact k H locs ls hl hP hD hS
theorem j_slen {K : Kx} {cc : ByteArray} {own : String} {g : Gm} {nL d : Nat} {ret : Option FieldType} {Q : State → Prop} {pc : Nat} {lv : List (Nat × Value)} {st : List Value} {σd : St} (hC : Ok K cc own g nL d ret) {ws : St → va_W} {b L : Nat} {xs : Nat → Int32} (hS : Scr K b L xs) (hd : decode cc pc = .ok (.arraylength, 1)) (k : J K ws nL Q (pc + 1) lv (.int (nI L) :: st) σd) : J K ws nL Q pc lv (.ref b :: st) σd := by
  obtain ⟨p, l, e, R, s, m, args, below, meth, c, D, A, ce, sl⟩ := K
  obtain ⟨hx, hb, hml, hown, hts, hK, hA, hSF, ⟨hR1, hR2, hR3, hR4⟩, hr, hlk⟩ := hC
  obtain ⟨hX, hbl, hbA⟩ := hS
  exact fun H locs ls hl hP hD hS => va_slen hx hb hX hbl hbA hS hd (k H locs ls hl hP hD hS)
theorem j_callL {K : Kx} {cc : ByteArray} {own : String} {g : Gm} {nL d : Nat} {ret : Option FieldType} {Q : State → Prop} {pc : Nat} {lv : List (Nat × Value)} {st : List Value} {σd : St} (hC : Ok K cc own g nL d ret) {w : va_W} {qx : Nat → Nat} {oa : Nat} {lf : Nat → Int64} {σ : St} {y : MethodName} {c2 : ByteArray} {n2 d2 ix : Nat} {hh : List (Nat × Nat × Nat × Nat)} {As stk : List Value} {post : Int32 → St × (Nat → Int64) → Prop} (hL : Lim K 1 6) (hlt : LtK K) (hM : ∀ (l : Launch) (_ : l.stackTraces = false) (D : va_G), MLw l y c2 n2 hh d2 D g qx oa As lf σ post) (hdd : d2 < d) (hn2 : n2 ≤ 70) (w1 : Cond.methodLink own ix y ∈ GW) (w2 : Cond.static y ∈ GW) (w4 : Cond.initialized y.cls ∈ GW) (w5 : Cond.codeWith y c2 n2 (some .int) hh ∈ GW) (hy : y.cls ≠ "java/lang/invoke/MethodHandle" ∧ y.cls ≠ "java/lang/invoke/VarHandle" ∧ (parseMethodDescriptor y.desc).map (fun d => d.parameters.length) = some As.length) (hcat : (st.map fun v => v.category).sum ≤ 8) (hst : stk = As.reverse ++ st) (hd : decode cc pc = .ok (.invokestatic ix, 3)) (k : ∀ (r : Int32) (u : St × (Nat → Int64)), post r u → J (Kp K 1 6) (fun _ => w ++ (wO g oa u.2 ++ wX (qx, g.2) u.1)) nL Q (pc + 3) lv (.int r :: st) σd) : J K (fun _ => w ++ (wO g oa lf ++ wX (qx, g.2) σ)) nL Q pc lv stk σd := by
  obtain ⟨p, l, e, R, s, m, args, below, meth, c, D, A, ce, sl⟩ := K
  obtain ⟨hx, hb, hml, hown, hts, hK, hA, hSF, ⟨hR1, hR2, hR3, hR4⟩, hr, hlk⟩ := hC
  obtain ⟨hL1, hL2⟩ := hL
  have hl0 : l.stackTraces = false := hlt
  subst hst
  intro H locs ls hl hP hD hS
  have hF : ∀ q : Nat, va_A (wO g oa lf ++ wX (qx, g.2) σ) H.size q → A q := freeW (dR hD) hS hA
  have hG : GoodIn GW (va_wsS own ix y (Cond.codeWith y c2 n2 (some .int) hh :: GW)) := by
    intro w hw
    rcases List.mem_append.mp hw with h | h
    · rcases List.mem_cons.mp h with rfl | h
      · exact goodG1 w1
      rcases List.mem_cons.mp h with rfl | h
      · exact goodG1 w2
      rcases List.mem_cons.mp h with rfl | h
      · exact goodG1 w4
      · cases h
    · rcases List.mem_cons.mp h with rfl | h
      · exact goodG1 w5
      · exact goodG1 h
  refine vx_calli (vx_runSX (As := As) (rest := st) ⟨hx, hb, hml, hown, hts⟩ (hM l hl0 D H.size) (vx_cwSW As.length hts hG rfl rfl rfl hy ⟨Nat.le_trans hdd hR1, Nat.le_trans (show 8 + (n2 + 11) + 100 * d2 ≤ 100 * d by omega) hR2⟩) ⟨preW_blind, fun U hU hW => ⟨rfl, by rw [hU], by rw [hU]; exact pR hP, va_K.moved hW.alike hK, (dR hD).weaken (fun _ _ _ _ => trivial), hSF.next hA hS hF hU hW⟩⟩ rfl rfl hl.1 rfl (lv_room hcat) hd ⟨hL1, hL2⟩) hS (fun q _ h => hF q h) hF (fun q _ h => hF q h) ?_ ?_
  · intro E2 cex q9 u t H1 locs1 ht hvm hpx
    exact hpx.elim
  · intro r9 u t H1 locs1 ht hvm hw hB hz1 hk1 hS1
    obtain ⟨hP1, hK1, hD1⟩ := hB
    rw [ht] at hP1
    obtain ⟨hP2, hD2⟩ := joinR hP hD hk1 hF hP1 hD1
    exact k r9 u hw H1 locs1 ls hl hP2 hD2 hS1
theorem min_L : Cond.initialized RL ∈ GW := memT (i := 0) (by decide +kernel) rfl
theorem mll_clock : Cond.methodLink RL 49 yL_clock ∈ GW := memT (i := 549) (by decide +kernel) rfl
theorem mls_clock : Cond.static yL_clock ∈ GW := memT (i := 550) (by decide +kernel) rfl
theorem mlw_clock : Cond.codeWith yL_clock cL_clock 4 (some .int) [(0, 9, 12, 13)] ∈ GW := memT (i := 551) (by decide +kernel) rfl
theorem mld_clock : yL_clock.cls ≠ "java/lang/invoke/MethodHandle" ∧ yL_clock.cls ≠ "java/lang/invoke/VarHandle" ∧ (parseMethodDescriptor yL_clock.desc).map (fun d => d.parameters.length) = some 3 := by decide +kernel
theorem mll_lay : Cond.methodLink RL 79 yL_lay ∈ GW := memT (i := 656) (by decide +kernel) rfl
theorem mls_lay : Cond.static yL_lay ∈ GW := memT (i := 657) (by decide +kernel) rfl
theorem mlw_lay : Cond.codeWith yL_lay cL_lay 4 (some .int) [(0, 9, 12, 13)] ∈ GW := memT (i := 658) (by decide +kernel) rfl
theorem mld_lay : yL_lay.cls ≠ "java/lang/invoke/MethodHandle" ∧ yL_lay.cls ≠ "java/lang/invoke/VarHandle" ∧ (parseMethodDescriptor yL_lay.desc).map (fun d => d.parameters.length) = some 3 := by decide +kernel
theorem mll_play : Cond.methodLink RL 86 yL_play ∈ GW := memT (i := 756) (by decide +kernel) rfl
theorem mls_play : Cond.static yL_play ∈ GW := memT (i := 757) (by decide +kernel) rfl
theorem mlw_play : Cond.codeWith yL_play cL_play 5 (some .int) [(0, 10, 13, 22)] ∈ GW := memT (i := 758) (by decide +kernel) rfl
theorem mld_play : yL_play.cls ≠ "java/lang/invoke/MethodHandle" ∧ yL_play.cls ≠ "java/lang/invoke/VarHandle" ∧ (parseMethodDescriptor yL_play.desc).map (fun d => d.parameters.length) = some 4 := by decide +kernel
theorem mll_left : Cond.methodLink RL 90 yL_left ∈ GW := memT (i := 780) (by decide +kernel) rfl
theorem mls_left : Cond.static yL_left ∈ GW := memT (i := 781) (by decide +kernel) rfl
theorem mlw_left : Cond.codeWith yL_left cL_left 5 (some .int) [(0, 10, 13, 22)] ∈ GW := memT (i := 782) (by decide +kernel) rfl
theorem mld_left : yL_left.cls ≠ "java/lang/invoke/MethodHandle" ∧ yL_left.cls ≠ "java/lang/invoke/VarHandle" ∧ (parseMethodDescriptor yL_left.desc).map (fun d => d.parameters.length) = some 4 := by decide +kernel
theorem mll_items : Cond.methodLink RL 102 yL_items ∈ GW := memT (i := 788) (by decide +kernel) rfl
theorem mls_items : Cond.static yL_items ∈ GW := memT (i := 789) (by decide +kernel) rfl
theorem mlw_items : Cond.codeWith yL_items cL_items 4 (some .int) [(0, 9, 12, 13)] ∈ GW := memT (i := 790) (by decide +kernel) rfl
theorem mld_items : yL_items.cls ≠ "java/lang/invoke/MethodHandle" ∧ yL_items.cls ≠ "java/lang/invoke/VarHandle" ∧ (parseMethodDescriptor yL_items.desc).map (fun d => d.parameters.length) = some 3 := by decide +kernel
theorem scrp {K : Kx} {b L : Nat} {xs : Nat → Int32} {a2 b2 : Nat} (h : Scr K b L xs) : Scr (Kp K a2 b2) b L xs := by
  obtain ⟨p, l, e, R, s, m, args, below, meth, c, D, A, ce, sl⟩ := K
  exact h
theorem lg_cmp_self (x : Int64) : lg_cmp x x = 0 := by unfold lg_cmp; rw [if_neg Int64.lt_irrefl, if_pos rfl]
set_option maxHeartbeats 1000000 in
theorem law_feed {K : Kx} {g : Gm} {qx qm : Nat → Nat} {oa b L j N : Nat} {xs : Nat → Int32} {lf : Nat → Int64} {σx σm : St} {Q : State → Prop} (hC : Ok K cL_law RL g 7 40 (some .boolean)) (hS : Scr K b L xs) (hj : j + 6 ≤ L) (hL : L ≤ 3072) {r : Int32} {σx2 σm2 : St} (hx : X6_feed_f N (xs (j + 1)) (xs (j + 2)) (xs (j + 3)) (xs (j + 4)) (xs (j + 5)) σx = some (r, σx2)) (hm : X7_feed_f N (xs (j + 1)) (xs (j + 2)) (xs (j + 3)) (xs (j + 4)) (xs (j + 5)) σm = some (r, σm2)) (k : J K (fun _ => LW g qx qm oa lf σx2 σm2) 7 Q 864 [(0, .ref b), (1, .ref (qx 0)), (2, .ref (qm 0)), (3, .ref oa), (4, .int (nI j))] [] ini0) : J K (fun _ => LW g qx qm oa lf σx σm) 7 Q 124 [(0, .ref b), (1, .ref (qx 0)), (2, .ref (qm 0)), (3, .ref oa), (4, .int (nI j))] [] ini0 := by
  refine j_aload_n hC dL_law_124 rfl 1 rfl ?_
  refine j_aload_n hC dL_law_125 rfl 0 rfl ?_
  refine j_iload hC dL_law_126 4 rfl ?_
  refine j_iconst (v := 1) hC dL_law_128 (by decide) ?_
  refine j_iadd hC dL_law_129 ?_
  refine j_sld hC hS (j + 1) (nI_add j 1) (by omega) hL dL_law_130 ?_
  refine j_aload_n hC dL_law_131 rfl 0 rfl ?_
  refine j_pc (n2 := 132) rfl ?_
  refine j_iload hC dL_law_132 4 rfl ?_
  refine j_iconst (v := 2) hC dL_law_134 (by decide) ?_
  refine j_iadd hC dL_law_135 ?_
  refine j_sld hC hS (j + 2) (nI_add j 2) (by omega) hL dL_law_136 ?_
  refine j_aload_n hC dL_law_137 rfl 0 rfl ?_
  refine j_iload hC dL_law_138 4 rfl ?_
  refine j_iconst (v := 3) hC dL_law_140 (by decide) ?_
  refine j_iadd hC dL_law_141 ?_
  refine j_pc (n2 := 142) rfl ?_
  refine j_sld hC hS (j + 3) (nI_add j 3) (by omega) hL dL_law_142 ?_
  refine j_aload_n hC dL_law_143 rfl 0 rfl ?_
  refine j_iload hC dL_law_144 4 rfl ?_
  refine j_iconst (v := 4) hC dL_law_146 (by decide) ?_
  refine j_iadd hC dL_law_147 ?_
  refine j_sld hC hS (j + 4) (nI_add j 4) (by omega) hL dL_law_148 ?_
  refine j_aload_n hC dL_law_149 rfl 0 rfl ?_
  refine j_iload hC dL_law_150 4 rfl ?_
  refine j_pc (n2 := 152) rfl ?_
  refine j_iconst (v := 5) hC dL_law_152 (by decide) ?_
  refine j_iadd hC dL_law_153 ?_
  refine j_sld hC hS (j + 5) (nI_add j 5) (by omega) hL dL_law_154 ?_
  refine j_fr (w := wO g oa lf ++ wM (qm, g.2) σm) (ws := wX (qx, g.2)) (q2 := qx) (σ := σx) (σ2 := σx2) (r := r) (As := [.int (xs (j + 1)), .int (xs (j + 2)), .int (xs (j + 3)), .int (xs (j + 4)), .int (xs (j + 5))]) (q0 := 0) (ci := 6) (C := RX6) hC (fun l D => X6_feed_ok l D (qx, g.2) hx) (by decide) (by decide) ml_L_34 mi_X6_feed ms_X6_feed min_X6 mcd_X6_feed rfl mds_X6_feed rfl rfl (Nat.le_of_ble_eq_true rfl) rfl dL_law_155 ?_
  refine j_aload_n hC dL_law_158 rfl 2 rfl ?_
  refine j_aload_n hC dL_law_159 rfl 0 rfl ?_
  refine j_iload hC dL_law_160 4 rfl ?_
  refine j_iconst (v := 1) hC dL_law_162 (by decide) ?_
  refine j_pc (n2 := 163) rfl ?_
  refine j_iadd hC dL_law_163 ?_
  refine j_sld hC hS (j + 1) (nI_add j 1) (by omega) hL dL_law_164 ?_
  refine j_aload_n hC dL_law_165 rfl 0 rfl ?_
  refine j_iload hC dL_law_166 4 rfl ?_
  refine j_iconst (v := 2) hC dL_law_168 (by decide) ?_
  refine j_iadd hC dL_law_169 ?_
  refine j_sld hC hS (j + 2) (nI_add j 2) (by omega) hL dL_law_170 ?_
  refine j_aload_n hC dL_law_171 rfl 0 rfl ?_
  refine j_pc (n2 := 172) rfl ?_
  refine j_iload hC dL_law_172 4 rfl ?_
  refine j_iconst (v := 3) hC dL_law_174 (by decide) ?_
  refine j_iadd hC dL_law_175 ?_
  refine j_sld hC hS (j + 3) (nI_add j 3) (by omega) hL dL_law_176 ?_
  refine j_aload_n hC dL_law_177 rfl 0 rfl ?_
  refine j_iload hC dL_law_178 4 rfl ?_
  refine j_iconst (v := 4) hC dL_law_180 (by decide) ?_
  refine j_iadd hC dL_law_181 ?_
  refine j_pc (n2 := 182) rfl ?_
  refine j_sld hC hS (j + 4) (nI_add j 4) (by omega) hL dL_law_182 ?_
  refine j_aload_n hC dL_law_183 rfl 0 rfl ?_
  refine j_iload hC dL_law_184 4 rfl ?_
  refine j_iconst (v := 5) hC dL_law_186 (by decide) ?_
  refine j_iadd hC dL_law_187 ?_
  refine j_sld hC hS (j + 5) (nI_add j 5) (by omega) hL dL_law_188 ?_
  refine j_rot ?_
  refine j_fr (w := wX (qx, g.2) σx2 ++ wO g oa lf) (ws := wM (qm, g.2)) (q2 := qm) (σ := σm) (σ2 := σm2) (r := r) (As := [.int (xs (j + 1)), .int (xs (j + 2)), .int (xs (j + 3)), .int (xs (j + 4)), .int (xs (j + 5))]) (q0 := 0) (ci := 7) (C := RX7) hC (fun l D => X7_feed_ok l D (qm, g.2) hm) (by decide) (by decide) ml_L_38 mi_X7_feed ms_X7_feed min_X7 mcd_X7_feed rfl mds_X7_feed rfl rfl (Nat.le_of_ble_eq_true rfl) rfl dL_law_189 ?_
  refine j_rot (j_rot ?_)
  refine j_icmp_eq (o := ()) (T := some ()) (F := none) (tgt := 864) hC dL_law_192 (by decide) (if_pos (rfl)) (fun _ => ?_) (fun h => by cases h)
  refine j_sub [0, 1, 2, 3, 4] rfl ?_
  exact k
set_option maxHeartbeats 1000000 in
theorem law_end {K : Kx} {g : Gm} {qx qm : Nat → Nat} {oa b L j N : Nat} {xs : Nat → Int32} {lf : Nat → Int64} {σx σm : St} {Q : State → Prop} (hC : Ok K cL_law RL g 7 40 (some .boolean)) (hS : Scr K b L xs) (hj : j + 6 ≤ L) (hL : L ≤ 3072) {r : Int32} {σx2 σm2 : St} (hx : X6_end_f N (xs (j + 1)) σx = some (r, σx2)) (hm : X7_end_f N (xs (j + 1)) σm = some (r, σm2)) (k : J K (fun _ => LW g qx qm oa lf σx2 σm2) 7 Q 864 [(0, .ref b), (1, .ref (qx 0)), (2, .ref (qm 0)), (3, .ref oa), (4, .int (nI j))] [] ini0) : J K (fun _ => LW g qx qm oa lf σx σm) 7 Q 197 [(0, .ref b), (1, .ref (qx 0)), (2, .ref (qm 0)), (3, .ref oa), (4, .int (nI j))] [] ini0 := by
  refine j_aload_n hC dL_law_197 rfl 1 rfl ?_
  refine j_aload_n hC dL_law_198 rfl 0 rfl ?_
  refine j_iload hC dL_law_199 4 rfl ?_
  refine j_iconst (v := 1) hC dL_law_201 (by decide) ?_
  refine j_iadd hC dL_law_202 ?_
  refine j_sld hC hS (j + 1) (nI_add j 1) (by omega) hL dL_law_203 ?_
  refine j_fr (w := wO g oa lf ++ wM (qm, g.2) σm) (ws := wX (qx, g.2)) (q2 := qx) (σ := σx) (σ2 := σx2) (r := r) (As := [.int (xs (j + 1))]) (q0 := 0) (ci := 6) (C := RX6) hC (fun l D => X6_end_ok l D (qx, g.2) hx) (by decide) (by decide) ml_L_39 mi_X6_end ms_X6_end min_X6 mcd_X6_end rfl mds_X6_end rfl rfl (Nat.le_of_ble_eq_true rfl) rfl dL_law_204 ?_
  refine j_pc (n2 := 207) rfl ?_
  refine j_aload_n hC dL_law_207 rfl 2 rfl ?_
  refine j_aload_n hC dL_law_208 rfl 0 rfl ?_
  refine j_iload hC dL_law_209 4 rfl ?_
  refine j_iconst (v := 1) hC dL_law_211 (by decide) ?_
  refine j_iadd hC dL_law_212 ?_
  refine j_sld hC hS (j + 1) (nI_add j 1) (by omega) hL dL_law_213 ?_
  refine j_rot ?_
  refine j_fr (w := wX (qx, g.2) σx2 ++ wO g oa lf) (ws := wM (qm, g.2)) (q2 := qm) (σ := σm) (σ2 := σm2) (r := r) (As := [.int (xs (j + 1))]) (q0 := 0) (ci := 7) (C := RX7) hC (fun l D => X7_end_ok l D (qm, g.2) hm) (by decide) (by decide) ml_L_43 mi_X7_end ms_X7_end min_X7 mcd_X7_end rfl mds_X7_end rfl rfl (Nat.le_of_ble_eq_true rfl) rfl dL_law_214 ?_
  refine j_rot (j_rot ?_)
  refine j_icmp_eq (o := ()) (T := some ()) (F := none) (tgt := 864) hC dL_law_217 (by decide) (if_pos (rfl)) (fun _ => ?_) (fun h => by cases h)
  refine j_sub [0, 1, 2, 3, 4] rfl ?_
  exact k
set_option maxHeartbeats 1000000 in
theorem law_rules {K : Kx} {g : Gm} {qx qm : Nat → Nat} {oa b L j N : Nat} {xs : Nat → Int32} {lf : Nat → Int64} {σx σm : St} {Q : State → Prop} (hC : Ok K cL_law RL g 7 40 (some .boolean)) (hS : Scr K b L xs) (hj : j + 6 ≤ L) (hL : L ≤ 3072) {r : Int32} {σx2 σm2 : St} (hx : X6_rules_f N  σx = some (r, σx2)) (hm : X7_rules_f N  σm = some (r, σm2)) (k : J K (fun _ => LW g qx qm oa lf σx2 σm2) 7 Q 864 [(0, .ref b), (1, .ref (qx 0)), (2, .ref (qm 0)), (3, .ref oa), (4, .int (nI j))] [] ini0) : J K (fun _ => LW g qx qm oa lf σx σm) 7 Q 222 [(0, .ref b), (1, .ref (qx 0)), (2, .ref (qm 0)), (3, .ref oa), (4, .int (nI j))] [] ini0 := by
  refine j_aload_n hC dL_law_222 rfl 1 rfl ?_
  refine j_fr (w := wO g oa lf ++ wM (qm, g.2) σm) (ws := wX (qx, g.2)) (q2 := qx) (σ := σx) (σ2 := σx2) (r := r) (As := []) (q0 := 0) (ci := 6) (C := RX6) hC (fun l D => X6_rules_ok l D (qx, g.2) hx) (by decide) (by decide) ml_L_44 mi_X6_rules ms_X6_rules min_X6 mcd_X6_rules rfl mds_X6_rules rfl rfl (Nat.le_of_ble_eq_true rfl) rfl dL_law_223 ?_
  refine j_aload_n hC dL_law_226 rfl 2 rfl ?_
  refine j_rot ?_
  refine j_fr (w := wX (qx, g.2) σx2 ++ wO g oa lf) (ws := wM (qm, g.2)) (q2 := qm) (σ := σm) (σ2 := σm2) (r := r) (As := []) (q0 := 0) (ci := 7) (C := RX7) hC (fun l D => X7_rules_ok l D (qm, g.2) hm) (by decide) (by decide) ml_L_48 mi_X7_rules ms_X7_rules min_X7 mcd_X7_rules rfl mds_X7_rules rfl rfl (Nat.le_of_ble_eq_true rfl) rfl dL_law_227 ?_
  refine j_rot (j_rot ?_)
  refine j_icmp_eq (o := ()) (T := some ()) (F := none) (tgt := 864) hC dL_law_230 (by decide) (if_pos (rfl)) (fun _ => ?_) (fun h => by cases h)
  refine j_sub [0, 1, 2, 3, 4] rfl ?_
  exact k
set_option maxHeartbeats 1000000 in
theorem law_clock_n {K : Kx} {g : Gm} {qx qm : Nat → Nat} {oa b L j N : Nat} {xs : Nat → Int32} {lf : Nat → Int64} {σx σm : St} {Q : State → Prop} (hC : Ok K cL_law RL g 7 40 (some .boolean)) (hS : Scr K b L xs) (hj : j + 6 ≤ L) (hL : L ≤ 3072) (hLm : Lim K 1 6) (hlt : LtK K) {r : Int32} {σx2 σm2 : St} (hx : X6_clock_f N (xs (j + 1)) σx = some (r, σx2)) (hm : X7_clock_f N (xs (j + 1)) σm = some (r, σm2)) (hth : gi σm2 0 = 0) (k : ∀ lf2, J (Kp K 1 6) (fun _ => LW g qx qm oa lf2 σx2 σm2) 7 Q 864 [(0, .ref b), (1, .ref (qx 0)), (2, .ref (qm 0)), (3, .ref oa), (4, .int (nI j))] [] ini0) : J K (fun _ => LW g qx qm oa lf σx σm) 7 Q 235 [(0, .ref b), (1, .ref (qx 0)), (2, .ref (qm 0)), (3, .ref oa), (4, .int (nI j))] [] ini0 := by
  refine j_aload_n hC dL_law_235 rfl 1 rfl ?_
  refine j_aload_n hC dL_law_236 rfl 0 rfl ?_
  refine j_iload hC dL_law_237 4 rfl ?_
  refine j_iconst (v := 1) hC dL_law_239 (by decide) ?_
  refine j_iadd hC dL_law_240 ?_
  refine j_sld hC hS (j + 1) (nI_add j 1) (by omega) hL dL_law_241 ?_
  refine j_aload_n hC dL_law_242 rfl 3 rfl ?_
  refine j_pc (n2 := 243) rfl ?_
  refine j_sep ?_
  refine j_callL (w := wM (qm, g.2) σm) (qx := qx) (oa := oa) (lf := lf) (σ := σx) (As := [.ref (qx 0), .int (xs (j + 1)), .ref oa]) hC hLm hlt (fun l hl D => L_clock_n l hl D g qx oa lf hx) (by decide) (by decide) mll_clock mls_clock min_L mlw_clock mld_clock (Nat.le_of_ble_eq_true rfl) rfl dL_law_243 (fun r9 u9 hu => ?_)
  obtain ⟨sx9, lf2⟩ := u9
  obtain ⟨rfl, h92, hu⟩ := hu
  have h92 := h92.symm
  subst h92
  have hC2 := okp hC hLm (a := 1) (b := 6) (by decide) (by decide)
  have hS := scrp (a2 := 1) (b2 := 6) hS
  refine j_glu ?_
  refine j_istore hC2 dL_law_246 (by decide) rfl ?_
  refine j_aload_n hC2 dL_law_248 rfl 3 rfl ?_
  refine j_aload_n hC2 dL_law_249 rfl 1 rfl ?_
  refine j_iload hC2 dL_law_250 5 rfl ?_
  refine j_iconst (v := 1) hC2 dL_law_252 (by decide) ?_
  refine j_iadd hC2 dL_law_253 ?_
  refine j_sld hC2 hS (j + 1) (nI_add j 1) (by omega) hL dL_law_254 ?_
  refine j_pc (n2 := 255) rfl ?_
  refine j_rot ?_
  refine j_fr (w := wX (qx, g.2) σx2 ++ wO g oa lf2) (ws := wM (qm, g.2)) (q2 := qm) (σ := σm) (σ2 := σm2) (r := r) (As := [.int (xs (j + 1))]) (q0 := 0) (ci := 7) (C := RX7) hC2 (fun l D => X7_clock_ok l D (qm, g.2) hm) (by decide) (by decide) ml_L_54 mi_X7_clock ms_X7_clock min_X7 mcd_X7_clock rfl mds_X7_clock rfl rfl (Nat.le_of_ble_eq_true rfl) rfl dL_law_255 ?_
  refine j_rot (j_rot ?_)
  refine j_istore hC2 dL_law_258 (by decide) rfl ?_
  refine j_aload_n hC2 dL_law_260 rfl 4 rfl ?_
  refine j_rot ?_
  refine j_fr (w := wX (qx, g.2) σx2 ++ wO g oa lf2) (ws := wM (qm, g.2)) (q2 := qm) (σ := σm2) (σ2 := σm2) (r := gi σm2 0) (As := []) (q0 := 0) (ci := 7) (C := RX7) hC2 (fun l D => X7_thrown_ok l D (qm, g.2) (N := 0) rfl) (by decide) (by decide) ml_L_55 mi_X7_thrown ms_X7_thrown min_X7 mcd_X7_thrown rfl mds_X7_thrown rfl rfl (Nat.le_of_ble_eq_true rfl) rfl dL_law_261 ?_
  refine j_rot (j_rot ?_)
  refine j_iload hC2 dL_law_264 1 rfl ?_
  refine j_icmp_eq (o := ()) (T := some ()) (F := none) (tgt := 271) hC2 dL_law_266 (by decide) (if_pos (hth)) (fun _ => ?_) (fun h => by cases h)
  refine j_iload hC2 dL_law_271 1 rfl ?_
  refine j_if_ne (o := ()) (T := none) (F := some ()) (tgt := 288) hC2 dL_law_273 (by decide) (if_pos rfl) (fun h => by cases h) (fun _ => ?_)
  refine j_pc (n2 := 276) rfl ?_
  refine j_aload_n hC2 dL_law_276 rfl 5 rfl ?_
  refine j_iconst (v := 0) hC2 dL_law_277 (by decide) ?_
  refine c_lald hC2 0 rfl (inB_in (by decide)) dL_law_278 ?_
  refine j_iload hC2 dL_law_279 0 rfl ?_
  refine j_i2l hC2 dL_law_281 ?_
  refine j_lcmp hC2 dL_law_282 ?_
  refine j_if_eq (o := ()) (T := some ()) (F := none) (tgt := 288) hC2 dL_law_283 (by decide) (if_pos (by rw [show lf2 (Int32.toNatClampNeg 0) = r.toInt64 from hu]; exact lg_cmp_self _)) (fun _ => ?_) (fun h => by cases h)
  refine j_goto (tgt := 864) hC2 dL_law_288 (by decide) ?_
  refine j_sub [2, 3, 4, 5, 6] rfl ?_
  exact k lf2
set_option maxHeartbeats 1000000 in
theorem law_clock_x {K : Kx} {g : Gm} {qx qm : Nat → Nat} {oa b L j N : Nat} {xs : Nat → Int32} {lf : Nat → Int64} {σx σm : St} {Q : State → Prop} (hC : Ok K cL_law RL g 7 40 (some .boolean)) (hS : Scr K b L xs) (hj : j + 6 ≤ L) (hL : L ≤ 3072) (hLm : Lim K 1 6) (hlt : LtK K) {o : Int32 × St} {rm : Int32} {σm2 : St} (hx : X6_clock_t N (xs (j + 1)) σx = some o) (hm : X7_clock_f N (xs (j + 1)) σm = some (rm, σm2)) (hth : gi σm2 0 = 1) (k : ∀ lf2, J (Kp K 1 6) (fun _ => LW g qx qm oa lf2 o.2 σm2) 7 Q 864 [(0, .ref b), (1, .ref (qx 0)), (2, .ref (qm 0)), (3, .ref oa), (4, .int (nI j))] [] ini0) : J K (fun _ => LW g qx qm oa lf σx σm) 7 Q 235 [(0, .ref b), (1, .ref (qx 0)), (2, .ref (qm 0)), (3, .ref oa), (4, .int (nI j))] [] ini0 := by
  refine j_aload_n hC dL_law_235 rfl 1 rfl ?_
  refine j_aload_n hC dL_law_236 rfl 0 rfl ?_
  refine j_iload hC dL_law_237 4 rfl ?_
  refine j_iconst (v := 1) hC dL_law_239 (by decide) ?_
  refine j_iadd hC dL_law_240 ?_
  refine j_sld hC hS (j + 1) (nI_add j 1) (by omega) hL dL_law_241 ?_
  refine j_aload_n hC dL_law_242 rfl 3 rfl ?_
  refine j_pc (n2 := 243) rfl ?_
  refine j_sep ?_
  refine j_callL (w := wM (qm, g.2) σm) (qx := qx) (oa := oa) (lf := lf) (σ := σx) (As := [.ref (qx 0), .int (xs (j + 1)), .ref oa]) hC hLm hlt (fun l hl D => L_clock_x l hl D g qx oa lf hx) (by decide) (by decide) mll_clock mls_clock min_L mlw_clock mld_clock (Nat.le_of_ble_eq_true rfl) rfl dL_law_243 (fun r9 u9 hu => ?_)
  obtain ⟨sx9, lf2⟩ := u9
  obtain ⟨rfl, rfl⟩ := hu
  have hC2 := okp hC hLm (a := 1) (b := 6) (by decide) (by decide)
  have hS := scrp (a2 := 1) (b2 := 6) hS
  refine j_glu ?_
  refine j_istore hC2 dL_law_246 (by decide) rfl ?_
  refine j_aload_n hC2 dL_law_248 rfl 3 rfl ?_
  refine j_aload_n hC2 dL_law_249 rfl 1 rfl ?_
  refine j_iload hC2 dL_law_250 5 rfl ?_
  refine j_iconst (v := 1) hC2 dL_law_252 (by decide) ?_
  refine j_iadd hC2 dL_law_253 ?_
  refine j_sld hC2 hS (j + 1) (nI_add j 1) (by omega) hL dL_law_254 ?_
  refine j_pc (n2 := 255) rfl ?_
  refine j_rot ?_
  refine j_fr (w := wX (qx, g.2) o.2 ++ wO g oa lf2) (ws := wM (qm, g.2)) (q2 := qm) (σ := σm) (σ2 := σm2) (r := rm) (As := [.int (xs (j + 1))]) (q0 := 0) (ci := 7) (C := RX7) hC2 (fun l D => X7_clock_ok l D (qm, g.2) hm) (by decide) (by decide) ml_L_54 mi_X7_clock ms_X7_clock min_X7 mcd_X7_clock rfl mds_X7_clock rfl rfl (Nat.le_of_ble_eq_true rfl) rfl dL_law_255 ?_
  refine j_rot (j_rot ?_)
  refine j_istore hC2 dL_law_258 (by decide) rfl ?_
  refine j_aload_n hC2 dL_law_260 rfl 4 rfl ?_
  refine j_rot ?_
  refine j_fr (w := wX (qx, g.2) o.2 ++ wO g oa lf2) (ws := wM (qm, g.2)) (q2 := qm) (σ := σm2) (σ2 := σm2) (r := gi σm2 0) (As := []) (q0 := 0) (ci := 7) (C := RX7) hC2 (fun l D => X7_thrown_ok l D (qm, g.2) (N := 0) rfl) (by decide) (by decide) ml_L_55 mi_X7_thrown ms_X7_thrown min_X7 mcd_X7_thrown rfl mds_X7_thrown rfl rfl (Nat.le_of_ble_eq_true rfl) rfl dL_law_261 ?_
  refine j_rot (j_rot ?_)
  refine j_iload hC2 dL_law_264 1 rfl ?_
  refine j_icmp_eq (o := ()) (T := some ()) (F := none) (tgt := 271) hC2 dL_law_266 (by decide) (if_pos (hth)) (fun _ => ?_) (fun h => by cases h)
  refine j_iload hC2 dL_law_271 1 rfl ?_
  refine j_if_ne (o := ()) (T := some ()) (F := none) (tgt := 288) hC2 dL_law_273 (by decide) (if_neg (by decide)) (fun _ => ?_) (fun h => by cases h)
  refine j_pc (n2 := 288) rfl ?_
  refine j_goto (tgt := 864) hC2 dL_law_288 (by decide) ?_
  refine j_sub [2, 3, 4, 5, 6] rfl ?_
  exact k lf2
set_option maxHeartbeats 1000000 in
theorem law_fault {K : Kx} {g : Gm} {qx qm : Nat → Nat} {oa b L j N : Nat} {xs : Nat → Int32} {lf : Nat → Int64} {σx σm : St} {Q : State → Prop} (hC : Ok K cL_law RL g 7 40 (some .boolean)) (hS : Scr K b L xs) (hj : j + 6 ≤ L) (hL : L ≤ 3072) {r : Int32} {σx2 σm2 : St} (hx : X6_fault_f N  σx = some (r, σx2)) (hm : X7_fault_f N  σm = some (r, σm2)) (k : J K (fun _ => LW g qx qm oa lf σx2 σm2) 7 Q 864 [(0, .ref b), (1, .ref (qx 0)), (2, .ref (qm 0)), (3, .ref oa), (4, .int (nI j))] [] ini0) : J K (fun _ => LW g qx qm oa lf σx σm) 7 Q 291 [(0, .ref b), (1, .ref (qx 0)), (2, .ref (qm 0)), (3, .ref oa), (4, .int (nI j))] [] ini0 := by
  refine j_aload_n hC dL_law_291 rfl 1 rfl ?_
  refine j_fr (w := wO g oa lf ++ wM (qm, g.2) σm) (ws := wX (qx, g.2)) (q2 := qx) (σ := σx) (σ2 := σx2) (r := r) (As := []) (q0 := 0) (ci := 6) (C := RX6) hC (fun l D => X6_fault_ok l D (qx, g.2) hx) (by decide) (by decide) ml_L_58 mi_X6_fault ms_X6_fault min_X6 mcd_X6_fault rfl mds_X6_fault rfl rfl (Nat.le_of_ble_eq_true rfl) rfl dL_law_292 ?_
  refine j_aload_n hC dL_law_295 rfl 2 rfl ?_
  refine j_rot ?_
  refine j_fr (w := wX (qx, g.2) σx2 ++ wO g oa lf) (ws := wM (qm, g.2)) (q2 := qm) (σ := σm) (σ2 := σm2) (r := r) (As := []) (q0 := 0) (ci := 7) (C := RX7) hC (fun l D => X7_fault_ok l D (qm, g.2) hm) (by decide) (by decide) ml_L_61 mi_X7_fault ms_X7_fault min_X7 mcd_X7_fault rfl mds_X7_fault rfl rfl (Nat.le_of_ble_eq_true rfl) rfl dL_law_296 ?_
  refine j_rot (j_rot ?_)
  refine j_icmp_eq (o := ()) (T := some ()) (F := none) (tgt := 864) hC dL_law_299 (by decide) (if_pos (rfl)) (fun _ => ?_) (fun h => by cases h)
  refine j_sub [0, 1, 2, 3, 4] rfl ?_
  exact k
set_option maxHeartbeats 1000000 in
theorem law_rule {K : Kx} {g : Gm} {qx qm : Nat → Nat} {oa b L j N : Nat} {xs : Nat → Int32} {lf : Nat → Int64} {σx σm : St} {Q : State → Prop} (hC : Ok K cL_law RL g 7 40 (some .boolean)) (hS : Scr K b L xs) (hj : j + 6 ≤ L) (hL : L ≤ 3072) {r : Int32} {σx2 σm2 : St} (hx : X6_rule_f N (xs (j + 1)) σx = some (r, σx2)) (hm : X7_rule_f N (xs (j + 1)) σm = some (r, σm2)) (k : J K (fun _ => LW g qx qm oa lf σx2 σm2) 7 Q 864 [(0, .ref b), (1, .ref (qx 0)), (2, .ref (qm 0)), (3, .ref oa), (4, .int (nI j))] [] ini0) : J K (fun _ => LW g qx qm oa lf σx σm) 7 Q 304 [(0, .ref b), (1, .ref (qx 0)), (2, .ref (qm 0)), (3, .ref oa), (4, .int (nI j))] [] ini0 := by
  refine j_aload_n hC dL_law_304 rfl 1 rfl ?_
  refine j_aload_n hC dL_law_305 rfl 0 rfl ?_
  refine j_iload hC dL_law_306 4 rfl ?_
  refine j_iconst (v := 1) hC dL_law_308 (by decide) ?_
  refine j_iadd hC dL_law_309 ?_
  refine j_sld hC hS (j + 1) (nI_add j 1) (by omega) hL dL_law_310 ?_
  refine j_fr (w := wO g oa lf ++ wM (qm, g.2) σm) (ws := wX (qx, g.2)) (q2 := qx) (σ := σx) (σ2 := σx2) (r := r) (As := [.int (xs (j + 1))]) (q0 := 0) (ci := 6) (C := RX6) hC (fun l D => X6_rule_ok l D (qx, g.2) hx) (by decide) (by decide) ml_L_62 mi_X6_rule ms_X6_rule min_X6 mcd_X6_rule rfl mds_X6_rule rfl rfl (Nat.le_of_ble_eq_true rfl) rfl dL_law_311 ?_
  refine j_pc (n2 := 314) rfl ?_
  refine j_aload_n hC dL_law_314 rfl 2 rfl ?_
  refine j_aload_n hC dL_law_315 rfl 0 rfl ?_
  refine j_iload hC dL_law_316 4 rfl ?_
  refine j_iconst (v := 1) hC dL_law_318 (by decide) ?_
  refine j_iadd hC dL_law_319 ?_
  refine j_sld hC hS (j + 1) (nI_add j 1) (by omega) hL dL_law_320 ?_
  refine j_rot ?_
  refine j_fr (w := wX (qx, g.2) σx2 ++ wO g oa lf) (ws := wM (qm, g.2)) (q2 := qm) (σ := σm) (σ2 := σm2) (r := r) (As := [.int (xs (j + 1))]) (q0 := 0) (ci := 7) (C := RX7) hC (fun l D => X7_rule_ok l D (qm, g.2) hm) (by decide) (by decide) ml_L_65 mi_X7_rule ms_X7_rule min_X7 mcd_X7_rule rfl mds_X7_rule rfl rfl (Nat.le_of_ble_eq_true rfl) rfl dL_law_321 ?_
  refine j_rot (j_rot ?_)
  refine j_icmp_eq (o := ()) (T := some ()) (F := none) (tgt := 864) hC dL_law_324 (by decide) (if_pos (rfl)) (fun _ => ?_) (fun h => by cases h)
  refine j_sub [0, 1, 2, 3, 4] rfl ?_
  exact k
set_option maxHeartbeats 1000000 in
theorem law_song_0 {K : Kx} {g : Gm} {qx qm : Nat → Nat} {oa b L j N : Nat} {xs : Nat → Int32} {lf : Nat → Int64} {σx σm : St} {Q : State → Prop} (hC : Ok K cL_law RL g 7 40 (some .boolean)) (hS : Scr K b L xs) (hj : j + 6 ≤ L) (hL : L ≤ 3072) (h5 : xs (j + 5) = 0) {r : Int32} {σx2 σm2 : St} (hx : X6_song_f N (xs (j + 1)) (xs (j + 2)) (xs (j + 3)) (xs (j + 4)) 0 σx = some (r, σx2)) (hm : X7_song_f N (xs (j + 1)) (xs (j + 2)) (xs (j + 3)) (xs (j + 4)) 0 σm = some (r, σm2)) (k : J K (fun _ => LW g qx qm oa lf σx2 σm2) 7 Q 864 [(0, .ref b), (1, .ref (qx 0)), (2, .ref (qm 0)), (3, .ref oa), (4, .int (nI j))] [] ini0) : J K (fun _ => LW g qx qm oa lf σx σm) 7 Q 329 [(0, .ref b), (1, .ref (qx 0)), (2, .ref (qm 0)), (3, .ref oa), (4, .int (nI j))] [] ini0 := by
  refine j_aload_n hC dL_law_329 rfl 1 rfl ?_
  refine j_aload_n hC dL_law_330 rfl 0 rfl ?_
  refine j_iload hC dL_law_331 4 rfl ?_
  refine j_iconst (v := 1) hC dL_law_333 (by decide) ?_
  refine j_iadd hC dL_law_334 ?_
  refine j_sld hC hS (j + 1) (nI_add j 1) (by omega) hL dL_law_335 ?_
  refine j_aload_n hC dL_law_336 rfl 0 rfl ?_
  refine j_pc (n2 := 337) rfl ?_
  refine j_iload hC dL_law_337 4 rfl ?_
  refine j_iconst (v := 2) hC dL_law_339 (by decide) ?_
  refine j_iadd hC dL_law_340 ?_
  refine j_sld hC hS (j + 2) (nI_add j 2) (by omega) hL dL_law_341 ?_
  refine j_aload_n hC dL_law_342 rfl 0 rfl ?_
  refine j_iload hC dL_law_343 4 rfl ?_
  refine j_iconst (v := 3) hC dL_law_345 (by decide) ?_
  refine j_iadd hC dL_law_346 ?_
  refine j_pc (n2 := 347) rfl ?_
  refine j_sld hC hS (j + 3) (nI_add j 3) (by omega) hL dL_law_347 ?_
  refine j_aload_n hC dL_law_348 rfl 0 rfl ?_
  refine j_iload hC dL_law_349 4 rfl ?_
  refine j_iconst (v := 4) hC dL_law_351 (by decide) ?_
  refine j_iadd hC dL_law_352 ?_
  refine j_sld hC hS (j + 4) (nI_add j 4) (by omega) hL dL_law_353 ?_
  refine j_aload_n hC dL_law_354 rfl 0 rfl ?_
  refine j_iload hC dL_law_355 4 rfl ?_
  refine j_pc (n2 := 357) rfl ?_
  refine j_iconst (v := 5) hC dL_law_357 (by decide) ?_
  refine j_iadd hC dL_law_358 ?_
  refine j_sld hC hS (j + 5) (nI_add j 5) (by omega) hL dL_law_359 ?_
  refine j_if_eq (o := ()) (T := some ()) (F := none) (tgt := 367) hC dL_law_360 (by decide) (if_pos h5) (fun _ => ?_) (fun h => by cases h)
  refine j_iconst (v := 0) hC dL_law_367 (by decide) ?_
  refine j_fr (w := wO g oa lf ++ wM (qm, g.2) σm) (ws := wX (qx, g.2)) (q2 := qx) (σ := σx) (σ2 := σx2) (r := r) (As := [.int (xs (j + 1)), .int (xs (j + 2)), .int (xs (j + 3)), .int (xs (j + 4)), .int 0]) (q0 := 0) (ci := 6) (C := RX6) hC (fun l D => X6_song_ok l D (qx, g.2) hx) (by decide) (by decide) ml_L_66 mi_X6_song ms_X6_song min_X6 mcd_X6_song rfl mds_X6_song rfl rfl (Nat.le_of_ble_eq_true rfl) rfl dL_law_368 ?_
  refine j_aload_n hC dL_law_371 rfl 2 rfl ?_
  refine j_aload_n hC dL_law_372 rfl 0 rfl ?_
  refine j_pc (n2 := 373) rfl ?_
  refine j_iload hC dL_law_373 4 rfl ?_
  refine j_iconst (v := 1) hC dL_law_375 (by decide) ?_
  refine j_iadd hC dL_law_376 ?_
  refine j_sld hC hS (j + 1) (nI_add j 1) (by omega) hL dL_law_377 ?_
  refine j_aload_n hC dL_law_378 rfl 0 rfl ?_
  refine j_iload hC dL_law_379 4 rfl ?_
  refine j_iconst (v := 2) hC dL_law_381 (by decide) ?_
  refine j_iadd hC dL_law_382 ?_
  refine j_pc (n2 := 383) rfl ?_
  refine j_sld hC hS (j + 2) (nI_add j 2) (by omega) hL dL_law_383 ?_
  refine j_aload_n hC dL_law_384 rfl 0 rfl ?_
  refine j_iload hC dL_law_385 4 rfl ?_
  refine j_iconst (v := 3) hC dL_law_387 (by decide) ?_
  refine j_iadd hC dL_law_388 ?_
  refine j_sld hC hS (j + 3) (nI_add j 3) (by omega) hL dL_law_389 ?_
  refine j_aload_n hC dL_law_390 rfl 0 rfl ?_
  refine j_iload hC dL_law_391 4 rfl ?_
  refine j_pc (n2 := 393) rfl ?_
  refine j_iconst (v := 4) hC dL_law_393 (by decide) ?_
  refine j_iadd hC dL_law_394 ?_
  refine j_sld hC hS (j + 4) (nI_add j 4) (by omega) hL dL_law_395 ?_
  refine j_aload_n hC dL_law_396 rfl 0 rfl ?_
  refine j_iload hC dL_law_397 4 rfl ?_
  refine j_iconst (v := 5) hC dL_law_399 (by decide) ?_
  refine j_iadd hC dL_law_400 ?_
  refine j_sld hC hS (j + 5) (nI_add j 5) (by omega) hL dL_law_401 ?_
  refine j_pc (n2 := 402) rfl ?_
  refine j_if_eq (o := ()) (T := some ()) (F := none) (tgt := 409) hC dL_law_402 (by decide) (if_pos h5) (fun _ => ?_) (fun h => by cases h)
  refine j_iconst (v := 0) hC dL_law_409 (by decide) ?_
  refine j_rot ?_
  refine j_fr (w := wX (qx, g.2) σx2 ++ wO g oa lf) (ws := wM (qm, g.2)) (q2 := qm) (σ := σm) (σ2 := σm2) (r := r) (As := [.int (xs (j + 1)), .int (xs (j + 2)), .int (xs (j + 3)), .int (xs (j + 4)), .int 0]) (q0 := 0) (ci := 7) (C := RX7) hC (fun l D => X7_song_ok l D (qm, g.2) hm) (by decide) (by decide) ml_L_70 mi_X7_song ms_X7_song min_X7 mcd_X7_song rfl mds_X7_song rfl rfl (Nat.le_of_ble_eq_true rfl) rfl dL_law_410 ?_
  refine j_rot (j_rot ?_)
  refine j_icmp_eq (o := ()) (T := some ()) (F := none) (tgt := 864) hC dL_law_413 (by decide) (if_pos (rfl)) (fun _ => ?_) (fun h => by cases h)
  refine j_sub [0, 1, 2, 3, 4] rfl ?_
  exact k
set_option maxHeartbeats 1000000 in
theorem law_song_1 {K : Kx} {g : Gm} {qx qm : Nat → Nat} {oa b L j N : Nat} {xs : Nat → Int32} {lf : Nat → Int64} {σx σm : St} {Q : State → Prop} (hC : Ok K cL_law RL g 7 40 (some .boolean)) (hS : Scr K b L xs) (hj : j + 6 ≤ L) (hL : L ≤ 3072) (h5 : ¬ xs (j + 5) = 0) {r : Int32} {σx2 σm2 : St} (hx : X6_song_f N (xs (j + 1)) (xs (j + 2)) (xs (j + 3)) (xs (j + 4)) 1 σx = some (r, σx2)) (hm : X7_song_f N (xs (j + 1)) (xs (j + 2)) (xs (j + 3)) (xs (j + 4)) 1 σm = some (r, σm2)) (k : J K (fun _ => LW g qx qm oa lf σx2 σm2) 7 Q 864 [(0, .ref b), (1, .ref (qx 0)), (2, .ref (qm 0)), (3, .ref oa), (4, .int (nI j))] [] ini0) : J K (fun _ => LW g qx qm oa lf σx σm) 7 Q 329 [(0, .ref b), (1, .ref (qx 0)), (2, .ref (qm 0)), (3, .ref oa), (4, .int (nI j))] [] ini0 := by
  refine j_aload_n hC dL_law_329 rfl 1 rfl ?_
  refine j_aload_n hC dL_law_330 rfl 0 rfl ?_
  refine j_iload hC dL_law_331 4 rfl ?_
  refine j_iconst (v := 1) hC dL_law_333 (by decide) ?_
  refine j_iadd hC dL_law_334 ?_
  refine j_sld hC hS (j + 1) (nI_add j 1) (by omega) hL dL_law_335 ?_
  refine j_aload_n hC dL_law_336 rfl 0 rfl ?_
  refine j_pc (n2 := 337) rfl ?_
  refine j_iload hC dL_law_337 4 rfl ?_
  refine j_iconst (v := 2) hC dL_law_339 (by decide) ?_
  refine j_iadd hC dL_law_340 ?_
  refine j_sld hC hS (j + 2) (nI_add j 2) (by omega) hL dL_law_341 ?_
  refine j_aload_n hC dL_law_342 rfl 0 rfl ?_
  refine j_iload hC dL_law_343 4 rfl ?_
  refine j_iconst (v := 3) hC dL_law_345 (by decide) ?_
  refine j_iadd hC dL_law_346 ?_
  refine j_pc (n2 := 347) rfl ?_
  refine j_sld hC hS (j + 3) (nI_add j 3) (by omega) hL dL_law_347 ?_
  refine j_aload_n hC dL_law_348 rfl 0 rfl ?_
  refine j_iload hC dL_law_349 4 rfl ?_
  refine j_iconst (v := 4) hC dL_law_351 (by decide) ?_
  refine j_iadd hC dL_law_352 ?_
  refine j_sld hC hS (j + 4) (nI_add j 4) (by omega) hL dL_law_353 ?_
  refine j_aload_n hC dL_law_354 rfl 0 rfl ?_
  refine j_iload hC dL_law_355 4 rfl ?_
  refine j_pc (n2 := 357) rfl ?_
  refine j_iconst (v := 5) hC dL_law_357 (by decide) ?_
  refine j_iadd hC dL_law_358 ?_
  refine j_sld hC hS (j + 5) (nI_add j 5) (by omega) hL dL_law_359 ?_
  refine j_if_eq (o := ()) (T := none) (F := some ()) (tgt := 367) hC dL_law_360 (by decide) (if_neg h5) (fun h => by cases h) (fun _ => ?_)
  refine j_iconst (v := 1) hC dL_law_363 (by decide) ?_
  refine j_goto (tgt := 368) hC dL_law_364 (by decide) ?_
  refine j_fr (w := wO g oa lf ++ wM (qm, g.2) σm) (ws := wX (qx, g.2)) (q2 := qx) (σ := σx) (σ2 := σx2) (r := r) (As := [.int (xs (j + 1)), .int (xs (j + 2)), .int (xs (j + 3)), .int (xs (j + 4)), .int 1]) (q0 := 0) (ci := 6) (C := RX6) hC (fun l D => X6_song_ok l D (qx, g.2) hx) (by decide) (by decide) ml_L_66 mi_X6_song ms_X6_song min_X6 mcd_X6_song rfl mds_X6_song rfl rfl (Nat.le_of_ble_eq_true rfl) rfl dL_law_368 ?_
  refine j_aload_n hC dL_law_371 rfl 2 rfl ?_
  refine j_pc (n2 := 372) rfl ?_
  refine j_aload_n hC dL_law_372 rfl 0 rfl ?_
  refine j_iload hC dL_law_373 4 rfl ?_
  refine j_iconst (v := 1) hC dL_law_375 (by decide) ?_
  refine j_iadd hC dL_law_376 ?_
  refine j_sld hC hS (j + 1) (nI_add j 1) (by omega) hL dL_law_377 ?_
  refine j_aload_n hC dL_law_378 rfl 0 rfl ?_
  refine j_iload hC dL_law_379 4 rfl ?_
  refine j_iconst (v := 2) hC dL_law_381 (by decide) ?_
  refine j_pc (n2 := 382) rfl ?_
  refine j_iadd hC dL_law_382 ?_
  refine j_sld hC hS (j + 2) (nI_add j 2) (by omega) hL dL_law_383 ?_
  refine j_aload_n hC dL_law_384 rfl 0 rfl ?_
  refine j_iload hC dL_law_385 4 rfl ?_
  refine j_iconst (v := 3) hC dL_law_387 (by decide) ?_
  refine j_iadd hC dL_law_388 ?_
  refine j_sld hC hS (j + 3) (nI_add j 3) (by omega) hL dL_law_389 ?_
  refine j_aload_n hC dL_law_390 rfl 0 rfl ?_
  refine j_pc (n2 := 391) rfl ?_
  refine j_iload hC dL_law_391 4 rfl ?_
  refine j_iconst (v := 4) hC dL_law_393 (by decide) ?_
  refine j_iadd hC dL_law_394 ?_
  refine j_sld hC hS (j + 4) (nI_add j 4) (by omega) hL dL_law_395 ?_
  refine j_aload_n hC dL_law_396 rfl 0 rfl ?_
  refine j_iload hC dL_law_397 4 rfl ?_
  refine j_iconst (v := 5) hC dL_law_399 (by decide) ?_
  refine j_iadd hC dL_law_400 ?_
  refine j_pc (n2 := 401) rfl ?_
  refine j_sld hC hS (j + 5) (nI_add j 5) (by omega) hL dL_law_401 ?_
  refine j_if_eq (o := ()) (T := none) (F := some ()) (tgt := 409) hC dL_law_402 (by decide) (if_neg h5) (fun h => by cases h) (fun _ => ?_)
  refine j_iconst (v := 1) hC dL_law_405 (by decide) ?_
  refine j_goto (tgt := 410) hC dL_law_406 (by decide) ?_
  refine j_rot ?_
  refine j_fr (w := wX (qx, g.2) σx2 ++ wO g oa lf) (ws := wM (qm, g.2)) (q2 := qm) (σ := σm) (σ2 := σm2) (r := r) (As := [.int (xs (j + 1)), .int (xs (j + 2)), .int (xs (j + 3)), .int (xs (j + 4)), .int 1]) (q0 := 0) (ci := 7) (C := RX7) hC (fun l D => X7_song_ok l D (qm, g.2) hm) (by decide) (by decide) ml_L_70 mi_X7_song ms_X7_song min_X7 mcd_X7_song rfl mds_X7_song rfl rfl (Nat.le_of_ble_eq_true rfl) rfl dL_law_410 ?_
  refine j_rot (j_rot ?_)
  refine j_icmp_eq (o := ()) (T := some ()) (F := none) (tgt := 864) hC dL_law_413 (by decide) (if_pos (rfl)) (fun _ => ?_) (fun h => by cases h)
  refine j_sub [0, 1, 2, 3, 4] rfl ?_
  exact k
set_option maxHeartbeats 1000000 in
theorem law_vote {K : Kx} {g : Gm} {qx qm : Nat → Nat} {oa b L j N : Nat} {xs : Nat → Int32} {lf : Nat → Int64} {σx σm : St} {Q : State → Prop} (hC : Ok K cL_law RL g 7 40 (some .boolean)) (hS : Scr K b L xs) (hj : j + 6 ≤ L) (hL : L ≤ 3072) {r : Int32} {σx2 σm2 : St} (hx : X6_vote_f N (xs (j + 1)) (xs (j + 2)) σx = some (r, σx2)) (hm : X7_vote_f N (xs (j + 1)) (xs (j + 2)) σm = some (r, σm2)) (k : J K (fun _ => LW g qx qm oa lf σx2 σm2) 7 Q 864 [(0, .ref b), (1, .ref (qx 0)), (2, .ref (qm 0)), (3, .ref oa), (4, .int (nI j))] [] ini0) : J K (fun _ => LW g qx qm oa lf σx σm) 7 Q 418 [(0, .ref b), (1, .ref (qx 0)), (2, .ref (qm 0)), (3, .ref oa), (4, .int (nI j))] [] ini0 := by
  refine j_aload_n hC dL_law_418 rfl 1 rfl ?_
  refine j_aload_n hC dL_law_419 rfl 0 rfl ?_
  refine j_iload hC dL_law_420 4 rfl ?_
  refine j_iconst (v := 1) hC dL_law_422 (by decide) ?_
  refine j_iadd hC dL_law_423 ?_
  refine j_sld hC hS (j + 1) (nI_add j 1) (by omega) hL dL_law_424 ?_
  refine j_aload_n hC dL_law_425 rfl 0 rfl ?_
  refine j_pc (n2 := 426) rfl ?_
  refine j_iload hC dL_law_426 4 rfl ?_
  refine j_iconst (v := 2) hC dL_law_428 (by decide) ?_
  refine j_iadd hC dL_law_429 ?_
  refine j_sld hC hS (j + 2) (nI_add j 2) (by omega) hL dL_law_430 ?_
  refine j_fr (w := wO g oa lf ++ wM (qm, g.2) σm) (ws := wX (qx, g.2)) (q2 := qx) (σ := σx) (σ2 := σx2) (r := r) (As := [.int (xs (j + 1)), .int (xs (j + 2))]) (q0 := 0) (ci := 6) (C := RX6) hC (fun l D => X6_vote_ok l D (qx, g.2) hx) (by decide) (by decide) ml_L_71 mi_X6_vote ms_X6_vote min_X6 mcd_X6_vote rfl mds_X6_vote rfl rfl (Nat.le_of_ble_eq_true rfl) rfl dL_law_431 ?_
  refine j_aload_n hC dL_law_434 rfl 2 rfl ?_
  refine j_aload_n hC dL_law_435 rfl 0 rfl ?_
  refine j_iload hC dL_law_436 4 rfl ?_
  refine j_pc (n2 := 438) rfl ?_
  refine j_iconst (v := 1) hC dL_law_438 (by decide) ?_
  refine j_iadd hC dL_law_439 ?_
  refine j_sld hC hS (j + 1) (nI_add j 1) (by omega) hL dL_law_440 ?_
  refine j_aload_n hC dL_law_441 rfl 0 rfl ?_
  refine j_iload hC dL_law_442 4 rfl ?_
  refine j_iconst (v := 2) hC dL_law_444 (by decide) ?_
  refine j_iadd hC dL_law_445 ?_
  refine j_sld hC hS (j + 2) (nI_add j 2) (by omega) hL dL_law_446 ?_
  refine j_pc (n2 := 447) rfl ?_
  refine j_rot ?_
  refine j_fr (w := wX (qx, g.2) σx2 ++ wO g oa lf) (ws := wM (qm, g.2)) (q2 := qm) (σ := σm) (σ2 := σm2) (r := r) (As := [.int (xs (j + 1)), .int (xs (j + 2))]) (q0 := 0) (ci := 7) (C := RX7) hC (fun l D => X7_vote_ok l D (qm, g.2) hm) (by decide) (by decide) ml_L_74 mi_X7_vote ms_X7_vote min_X7 mcd_X7_vote rfl mds_X7_vote rfl rfl (Nat.le_of_ble_eq_true rfl) rfl dL_law_447 ?_
  refine j_rot (j_rot ?_)
  refine j_icmp_eq (o := ()) (T := some ()) (F := none) (tgt := 864) hC dL_law_450 (by decide) (if_pos (rfl)) (fun _ => ?_) (fun h => by cases h)
  refine j_sub [0, 1, 2, 3, 4] rfl ?_
  exact k
set_option maxHeartbeats 1000000 in
theorem law_ask {K : Kx} {g : Gm} {qx qm : Nat → Nat} {oa b L j N : Nat} {xs : Nat → Int32} {lf : Nat → Int64} {σx σm : St} {Q : State → Prop} (hC : Ok K cL_law RL g 7 40 (some .boolean)) (hS : Scr K b L xs) (hj : j + 6 ≤ L) (hL : L ≤ 3072) {r : Int32} {σx2 σm2 : St} (hx : X6_ask_f N (xs (j + 1)) σx = some (r, σx2)) (hm : X7_ask_f N (xs (j + 1)) σm = some (r, σm2)) (k : J K (fun _ => LW g qx qm oa lf σx2 σm2) 7 Q 864 [(0, .ref b), (1, .ref (qx 0)), (2, .ref (qm 0)), (3, .ref oa), (4, .int (nI j))] [] ini0) : J K (fun _ => LW g qx qm oa lf σx σm) 7 Q 455 [(0, .ref b), (1, .ref (qx 0)), (2, .ref (qm 0)), (3, .ref oa), (4, .int (nI j))] [] ini0 := by
  refine j_aload_n hC dL_law_455 rfl 1 rfl ?_
  refine j_aload_n hC dL_law_456 rfl 0 rfl ?_
  refine j_iload hC dL_law_457 4 rfl ?_
  refine j_iconst (v := 1) hC dL_law_459 (by decide) ?_
  refine j_iadd hC dL_law_460 ?_
  refine j_sld hC hS (j + 1) (nI_add j 1) (by omega) hL dL_law_461 ?_
  refine j_fr (w := wO g oa lf ++ wM (qm, g.2) σm) (ws := wX (qx, g.2)) (q2 := qx) (σ := σx) (σ2 := σx2) (r := r) (As := [.int (xs (j + 1))]) (q0 := 0) (ci := 6) (C := RX6) hC (fun l D => X6_ask_ok l D (qx, g.2) hx) (by decide) (by decide) ml_L_75 mi_X6_ask ms_X6_ask min_X6 mcd_X6_ask rfl mds_X6_ask rfl rfl (Nat.le_of_ble_eq_true rfl) rfl dL_law_462 ?_
  refine j_pc (n2 := 465) rfl ?_
  refine j_aload_n hC dL_law_465 rfl 2 rfl ?_
  refine j_aload_n hC dL_law_466 rfl 0 rfl ?_
  refine j_iload hC dL_law_467 4 rfl ?_
  refine j_iconst (v := 1) hC dL_law_469 (by decide) ?_
  refine j_iadd hC dL_law_470 ?_
  refine j_sld hC hS (j + 1) (nI_add j 1) (by omega) hL dL_law_471 ?_
  refine j_rot ?_
  refine j_fr (w := wX (qx, g.2) σx2 ++ wO g oa lf) (ws := wM (qm, g.2)) (q2 := qm) (σ := σm) (σ2 := σm2) (r := r) (As := [.int (xs (j + 1))]) (q0 := 0) (ci := 7) (C := RX7) hC (fun l D => X7_ask_ok l D (qm, g.2) hm) (by decide) (by decide) ml_L_78 mi_X7_ask ms_X7_ask min_X7 mcd_X7_ask rfl mds_X7_ask rfl rfl (Nat.le_of_ble_eq_true rfl) rfl dL_law_472 ?_
  refine j_rot (j_rot ?_)
  refine j_icmp_eq (o := ()) (T := some ()) (F := none) (tgt := 864) hC dL_law_475 (by decide) (if_pos (rfl)) (fun _ => ?_) (fun h => by cases h)
  refine j_sub [0, 1, 2, 3, 4] rfl ?_
  exact k
set_option maxHeartbeats 1000000 in
theorem law_lay_n {K : Kx} {g : Gm} {qx qm : Nat → Nat} {oa b L j N : Nat} {xs : Nat → Int32} {lf : Nat → Int64} {σx σm : St} {Q : State → Prop} (hC : Ok K cL_law RL g 7 40 (some .boolean)) (hS : Scr K b L xs) (hj : j + 6 ≤ L) (hL : L ≤ 3072) (hLm : Lim K 1 6) (hlt : LtK K) {r : Int32} {σx2 σm2 : St} (hx : X6_lay_f N (xs (j + 1)) σx = some (r, σx2)) (hm : X7_lay_f N (xs (j + 1)) σm = some (r, σm2)) (hth : gi σm2 0 = 0) (k : ∀ lf2, J (Kp K 1 6) (fun _ => LW g qx qm oa lf2 σx2 σm2) 7 Q 864 [(0, .ref b), (1, .ref (qx 0)), (2, .ref (qm 0)), (3, .ref oa), (4, .int (nI j))] [] ini0) : J K (fun _ => LW g qx qm oa lf σx σm) 7 Q 480 [(0, .ref b), (1, .ref (qx 0)), (2, .ref (qm 0)), (3, .ref oa), (4, .int (nI j))] [] ini0 := by
  refine j_aload_n hC dL_law_480 rfl 1 rfl ?_
  refine j_aload_n hC dL_law_481 rfl 0 rfl ?_
  refine j_iload hC dL_law_482 4 rfl ?_
  refine j_iconst (v := 1) hC dL_law_484 (by decide) ?_
  refine j_iadd hC dL_law_485 ?_
  refine j_sld hC hS (j + 1) (nI_add j 1) (by omega) hL dL_law_486 ?_
  refine j_aload_n hC dL_law_487 rfl 3 rfl ?_
  refine j_pc (n2 := 488) rfl ?_
  refine j_sep ?_
  refine j_callL (w := wM (qm, g.2) σm) (qx := qx) (oa := oa) (lf := lf) (σ := σx) (As := [.ref (qx 0), .int (xs (j + 1)), .ref oa]) hC hLm hlt (fun l hl D => L_lay_n l hl D g qx oa lf hx) (by decide) (by decide) mll_lay mls_lay min_L mlw_lay mld_lay (Nat.le_of_ble_eq_true rfl) rfl dL_law_488 (fun r9 u9 hu => ?_)
  obtain ⟨sx9, lf2⟩ := u9
  obtain ⟨rfl, h92, hu⟩ := hu
  have h92 := h92.symm
  subst h92
  have hC2 := okp hC hLm (a := 1) (b := 6) (by decide) (by decide)
  have hS := scrp (a2 := 1) (b2 := 6) hS
  refine j_glu ?_
  refine j_istore hC2 dL_law_491 (by decide) rfl ?_
  refine j_aload_n hC2 dL_law_493 rfl 3 rfl ?_
  refine j_aload_n hC2 dL_law_494 rfl 1 rfl ?_
  refine j_iload hC2 dL_law_495 5 rfl ?_
  refine j_iconst (v := 1) hC2 dL_law_497 (by decide) ?_
  refine j_iadd hC2 dL_law_498 ?_
  refine j_sld hC2 hS (j + 1) (nI_add j 1) (by omega) hL dL_law_499 ?_
  refine j_pc (n2 := 500) rfl ?_
  refine j_rot ?_
  refine j_fr (w := wX (qx, g.2) σx2 ++ wO g oa lf2) (ws := wM (qm, g.2)) (q2 := qm) (σ := σm) (σ2 := σm2) (r := r) (As := [.int (xs (j + 1))]) (q0 := 0) (ci := 7) (C := RX7) hC2 (fun l D => X7_lay_ok l D (qm, g.2) hm) (by decide) (by decide) ml_L_81 mi_X7_lay ms_X7_lay min_X7 mcd_X7_lay rfl mds_X7_lay rfl rfl (Nat.le_of_ble_eq_true rfl) rfl dL_law_500 ?_
  refine j_rot (j_rot ?_)
  refine j_istore hC2 dL_law_503 (by decide) rfl ?_
  refine j_aload_n hC2 dL_law_505 rfl 4 rfl ?_
  refine j_rot ?_
  refine j_fr (w := wX (qx, g.2) σx2 ++ wO g oa lf2) (ws := wM (qm, g.2)) (q2 := qm) (σ := σm2) (σ2 := σm2) (r := gi σm2 0) (As := []) (q0 := 0) (ci := 7) (C := RX7) hC2 (fun l D => X7_thrown_ok l D (qm, g.2) (N := 0) rfl) (by decide) (by decide) ml_L_55 mi_X7_thrown ms_X7_thrown min_X7 mcd_X7_thrown rfl mds_X7_thrown rfl rfl (Nat.le_of_ble_eq_true rfl) rfl dL_law_506 ?_
  refine j_rot (j_rot ?_)
  refine j_iload hC2 dL_law_509 1 rfl ?_
  refine j_icmp_eq (o := ()) (T := some ()) (F := none) (tgt := 516) hC2 dL_law_511 (by decide) (if_pos (hth)) (fun _ => ?_) (fun h => by cases h)
  refine j_iload hC2 dL_law_516 1 rfl ?_
  refine j_if_ne (o := ()) (T := none) (F := some ()) (tgt := 533) hC2 dL_law_518 (by decide) (if_pos rfl) (fun h => by cases h) (fun _ => ?_)
  refine j_pc (n2 := 521) rfl ?_
  refine j_aload_n hC2 dL_law_521 rfl 5 rfl ?_
  refine j_iconst (v := 0) hC2 dL_law_522 (by decide) ?_
  refine c_lald hC2 0 rfl (inB_in (by decide)) dL_law_523 ?_
  refine j_iload hC2 dL_law_524 0 rfl ?_
  refine j_i2l hC2 dL_law_526 ?_
  refine j_lcmp hC2 dL_law_527 ?_
  refine j_if_eq (o := ()) (T := some ()) (F := none) (tgt := 533) hC2 dL_law_528 (by decide) (if_pos (by rw [show lf2 (Int32.toNatClampNeg 0) = r.toInt64 from hu]; exact lg_cmp_self _)) (fun _ => ?_) (fun h => by cases h)
  refine j_goto (tgt := 864) hC2 dL_law_533 (by decide) ?_
  refine j_sub [2, 3, 4, 5, 6] rfl ?_
  exact k lf2
set_option maxHeartbeats 1000000 in
theorem law_lay_x {K : Kx} {g : Gm} {qx qm : Nat → Nat} {oa b L j N : Nat} {xs : Nat → Int32} {lf : Nat → Int64} {σx σm : St} {Q : State → Prop} (hC : Ok K cL_law RL g 7 40 (some .boolean)) (hS : Scr K b L xs) (hj : j + 6 ≤ L) (hL : L ≤ 3072) (hLm : Lim K 1 6) (hlt : LtK K) {o : Int32 × St} {rm : Int32} {σm2 : St} (hx : X6_lay_t N (xs (j + 1)) σx = some o) (hm : X7_lay_f N (xs (j + 1)) σm = some (rm, σm2)) (hth : gi σm2 0 = 1) (k : ∀ lf2, J (Kp K 1 6) (fun _ => LW g qx qm oa lf2 o.2 σm2) 7 Q 864 [(0, .ref b), (1, .ref (qx 0)), (2, .ref (qm 0)), (3, .ref oa), (4, .int (nI j))] [] ini0) : J K (fun _ => LW g qx qm oa lf σx σm) 7 Q 480 [(0, .ref b), (1, .ref (qx 0)), (2, .ref (qm 0)), (3, .ref oa), (4, .int (nI j))] [] ini0 := by
  refine j_aload_n hC dL_law_480 rfl 1 rfl ?_
  refine j_aload_n hC dL_law_481 rfl 0 rfl ?_
  refine j_iload hC dL_law_482 4 rfl ?_
  refine j_iconst (v := 1) hC dL_law_484 (by decide) ?_
  refine j_iadd hC dL_law_485 ?_
  refine j_sld hC hS (j + 1) (nI_add j 1) (by omega) hL dL_law_486 ?_
  refine j_aload_n hC dL_law_487 rfl 3 rfl ?_
  refine j_pc (n2 := 488) rfl ?_
  refine j_sep ?_
  refine j_callL (w := wM (qm, g.2) σm) (qx := qx) (oa := oa) (lf := lf) (σ := σx) (As := [.ref (qx 0), .int (xs (j + 1)), .ref oa]) hC hLm hlt (fun l hl D => L_lay_x l hl D g qx oa lf hx) (by decide) (by decide) mll_lay mls_lay min_L mlw_lay mld_lay (Nat.le_of_ble_eq_true rfl) rfl dL_law_488 (fun r9 u9 hu => ?_)
  obtain ⟨sx9, lf2⟩ := u9
  obtain ⟨rfl, rfl⟩ := hu
  have hC2 := okp hC hLm (a := 1) (b := 6) (by decide) (by decide)
  have hS := scrp (a2 := 1) (b2 := 6) hS
  refine j_glu ?_
  refine j_istore hC2 dL_law_491 (by decide) rfl ?_
  refine j_aload_n hC2 dL_law_493 rfl 3 rfl ?_
  refine j_aload_n hC2 dL_law_494 rfl 1 rfl ?_
  refine j_iload hC2 dL_law_495 5 rfl ?_
  refine j_iconst (v := 1) hC2 dL_law_497 (by decide) ?_
  refine j_iadd hC2 dL_law_498 ?_
  refine j_sld hC2 hS (j + 1) (nI_add j 1) (by omega) hL dL_law_499 ?_
  refine j_pc (n2 := 500) rfl ?_
  refine j_rot ?_
  refine j_fr (w := wX (qx, g.2) o.2 ++ wO g oa lf2) (ws := wM (qm, g.2)) (q2 := qm) (σ := σm) (σ2 := σm2) (r := rm) (As := [.int (xs (j + 1))]) (q0 := 0) (ci := 7) (C := RX7) hC2 (fun l D => X7_lay_ok l D (qm, g.2) hm) (by decide) (by decide) ml_L_81 mi_X7_lay ms_X7_lay min_X7 mcd_X7_lay rfl mds_X7_lay rfl rfl (Nat.le_of_ble_eq_true rfl) rfl dL_law_500 ?_
  refine j_rot (j_rot ?_)
  refine j_istore hC2 dL_law_503 (by decide) rfl ?_
  refine j_aload_n hC2 dL_law_505 rfl 4 rfl ?_
  refine j_rot ?_
  refine j_fr (w := wX (qx, g.2) o.2 ++ wO g oa lf2) (ws := wM (qm, g.2)) (q2 := qm) (σ := σm2) (σ2 := σm2) (r := gi σm2 0) (As := []) (q0 := 0) (ci := 7) (C := RX7) hC2 (fun l D => X7_thrown_ok l D (qm, g.2) (N := 0) rfl) (by decide) (by decide) ml_L_55 mi_X7_thrown ms_X7_thrown min_X7 mcd_X7_thrown rfl mds_X7_thrown rfl rfl (Nat.le_of_ble_eq_true rfl) rfl dL_law_506 ?_
  refine j_rot (j_rot ?_)
  refine j_iload hC2 dL_law_509 1 rfl ?_
  refine j_icmp_eq (o := ()) (T := some ()) (F := none) (tgt := 516) hC2 dL_law_511 (by decide) (if_pos (hth)) (fun _ => ?_) (fun h => by cases h)
  refine j_iload hC2 dL_law_516 1 rfl ?_
  refine j_if_ne (o := ()) (T := some ()) (F := none) (tgt := 533) hC2 dL_law_518 (by decide) (if_neg (by decide)) (fun _ => ?_) (fun h => by cases h)
  refine j_pc (n2 := 533) rfl ?_
  refine j_goto (tgt := 864) hC2 dL_law_533 (by decide) ?_
  refine j_sub [2, 3, 4, 5, 6] rfl ?_
  exact k lf2
set_option maxHeartbeats 1000000 in
theorem law_told {K : Kx} {g : Gm} {qx qm : Nat → Nat} {oa b L j N : Nat} {xs : Nat → Int32} {lf : Nat → Int64} {σx σm : St} {Q : State → Prop} (hC : Ok K cL_law RL g 7 40 (some .boolean)) (hS : Scr K b L xs) (hj : j + 6 ≤ L) (hL : L ≤ 3072) {r : Int32} {σx2 σm2 : St} (hx : X6_told_f N (xs (j + 1)) (xs (j + 2)) σx = some (r, σx2)) (hm : X7_told_f N (xs (j + 1)) (xs (j + 2)) σm = some (r, σm2)) (k : J K (fun _ => LW g qx qm oa lf σx2 σm2) 7 Q 864 [(0, .ref b), (1, .ref (qx 0)), (2, .ref (qm 0)), (3, .ref oa), (4, .int (nI j))] [] ini0) : J K (fun _ => LW g qx qm oa lf σx σm) 7 Q 536 [(0, .ref b), (1, .ref (qx 0)), (2, .ref (qm 0)), (3, .ref oa), (4, .int (nI j))] [] ini0 := by
  refine j_aload_n hC dL_law_536 rfl 1 rfl ?_
  refine j_aload_n hC dL_law_537 rfl 0 rfl ?_
  refine j_iload hC dL_law_538 4 rfl ?_
  refine j_iconst (v := 1) hC dL_law_540 (by decide) ?_
  refine j_iadd hC dL_law_541 ?_
  refine j_sld hC hS (j + 1) (nI_add j 1) (by omega) hL dL_law_542 ?_
  refine j_aload_n hC dL_law_543 rfl 0 rfl ?_
  refine j_pc (n2 := 544) rfl ?_
  refine j_iload hC dL_law_544 4 rfl ?_
  refine j_iconst (v := 2) hC dL_law_546 (by decide) ?_
  refine j_iadd hC dL_law_547 ?_
  refine j_sld hC hS (j + 2) (nI_add j 2) (by omega) hL dL_law_548 ?_
  refine j_fr (w := wO g oa lf ++ wM (qm, g.2) σm) (ws := wX (qx, g.2)) (q2 := qx) (σ := σx) (σ2 := σx2) (r := r) (As := [.int (xs (j + 1)), .int (xs (j + 2))]) (q0 := 0) (ci := 6) (C := RX6) hC (fun l D => X6_told_ok l D (qx, g.2) hx) (by decide) (by decide) ml_L_82 mi_X6_told ms_X6_told min_X6 mcd_X6_told rfl mds_X6_told rfl rfl (Nat.le_of_ble_eq_true rfl) rfl dL_law_549 ?_
  refine j_aload_n hC dL_law_552 rfl 2 rfl ?_
  refine j_aload_n hC dL_law_553 rfl 0 rfl ?_
  refine j_iload hC dL_law_554 4 rfl ?_
  refine j_pc (n2 := 556) rfl ?_
  refine j_iconst (v := 1) hC dL_law_556 (by decide) ?_
  refine j_iadd hC dL_law_557 ?_
  refine j_sld hC hS (j + 1) (nI_add j 1) (by omega) hL dL_law_558 ?_
  refine j_aload_n hC dL_law_559 rfl 0 rfl ?_
  refine j_iload hC dL_law_560 4 rfl ?_
  refine j_iconst (v := 2) hC dL_law_562 (by decide) ?_
  refine j_iadd hC dL_law_563 ?_
  refine j_sld hC hS (j + 2) (nI_add j 2) (by omega) hL dL_law_564 ?_
  refine j_pc (n2 := 565) rfl ?_
  refine j_rot ?_
  refine j_fr (w := wX (qx, g.2) σx2 ++ wO g oa lf) (ws := wM (qm, g.2)) (q2 := qm) (σ := σm) (σ2 := σm2) (r := r) (As := [.int (xs (j + 1)), .int (xs (j + 2))]) (q0 := 0) (ci := 7) (C := RX7) hC (fun l D => X7_told_ok l D (qm, g.2) hm) (by decide) (by decide) ml_L_85 mi_X7_told ms_X7_told min_X7 mcd_X7_told rfl mds_X7_told rfl rfl (Nat.le_of_ble_eq_true rfl) rfl dL_law_565 ?_
  refine j_rot (j_rot ?_)
  refine j_icmp_eq (o := ()) (T := some ()) (F := none) (tgt := 864) hC dL_law_568 (by decide) (if_pos (rfl)) (fun _ => ?_) (fun h => by cases h)
  refine j_sub [0, 1, 2, 3, 4] rfl ?_
  exact k
set_option maxHeartbeats 1000000 in
theorem law_play_n {K : Kx} {g : Gm} {qx qm : Nat → Nat} {oa b L j N : Nat} {xs : Nat → Int32} {lf : Nat → Int64} {σx σm : St} {Q : State → Prop} (hC : Ok K cL_law RL g 7 40 (some .boolean)) (hS : Scr K b L xs) (hj : j + 6 ≤ L) (hL : L ≤ 3072) (hLm : Lim K 1 6) (hlt : LtK K) {r : Int32} {σx2 σm2 : St} (hx : X6_play_f N (xs (j + 1)) (xs (j + 2)) σx = some (r, σx2)) (hm : X7_play_f N (xs (j + 1)) (xs (j + 2)) σm = some (r, σm2)) (hth : gi σm2 0 = 0) (k : ∀ lf2, J (Kp K 1 6) (fun _ => LW g qx qm oa lf2 σx2 σm2) 7 Q 864 [(0, .ref b), (1, .ref (qx 0)), (2, .ref (qm 0)), (3, .ref oa), (4, .int (nI j))] [] ini0) : J K (fun _ => LW g qx qm oa lf σx σm) 7 Q 573 [(0, .ref b), (1, .ref (qx 0)), (2, .ref (qm 0)), (3, .ref oa), (4, .int (nI j))] [] ini0 := by
  refine j_aload_n hC dL_law_573 rfl 1 rfl ?_
  refine j_aload_n hC dL_law_574 rfl 0 rfl ?_
  refine j_iload hC dL_law_575 4 rfl ?_
  refine j_iconst (v := 1) hC dL_law_577 (by decide) ?_
  refine j_iadd hC dL_law_578 ?_
  refine j_sld hC hS (j + 1) (nI_add j 1) (by omega) hL dL_law_579 ?_
  refine j_aload_n hC dL_law_580 rfl 0 rfl ?_
  refine j_pc (n2 := 581) rfl ?_
  refine j_iload hC dL_law_581 4 rfl ?_
  refine j_iconst (v := 2) hC dL_law_583 (by decide) ?_
  refine j_iadd hC dL_law_584 ?_
  refine j_sld hC hS (j + 2) (nI_add j 2) (by omega) hL dL_law_585 ?_
  refine j_aload_n hC dL_law_586 rfl 3 rfl ?_
  refine j_sep ?_
  refine j_callL (w := wM (qm, g.2) σm) (qx := qx) (oa := oa) (lf := lf) (σ := σx) (As := [.ref (qx 0), .int (xs (j + 1)), .int (xs (j + 2)), .ref oa]) hC hLm hlt (fun l hl D => L_play_n l hl D g qx oa lf hx) (by decide) (by decide) mll_play mls_play min_L mlw_play mld_play (Nat.le_of_ble_eq_true rfl) rfl dL_law_587 (fun r9 u9 hu => ?_)
  obtain ⟨sx9, lf2⟩ := u9
  obtain ⟨rfl, h92, hu⟩ := hu
  have h92 := h92.symm
  subst h92
  have hC2 := okp hC hLm (a := 1) (b := 6) (by decide) (by decide)
  have hS := scrp (a2 := 1) (b2 := 6) hS
  refine j_glu ?_
  refine j_istore hC2 dL_law_590 (by decide) rfl ?_
  refine j_aload_n hC2 dL_law_592 rfl 3 rfl ?_
  refine j_pc (n2 := 593) rfl ?_
  refine j_aload_n hC2 dL_law_593 rfl 1 rfl ?_
  refine j_iload hC2 dL_law_594 5 rfl ?_
  refine j_iconst (v := 1) hC2 dL_law_596 (by decide) ?_
  refine j_iadd hC2 dL_law_597 ?_
  refine j_sld hC2 hS (j + 1) (nI_add j 1) (by omega) hL dL_law_598 ?_
  refine j_aload_n hC2 dL_law_599 rfl 1 rfl ?_
  refine j_iload hC2 dL_law_600 5 rfl ?_
  refine j_iconst (v := 2) hC2 dL_law_602 (by decide) ?_
  refine j_pc (n2 := 603) rfl ?_
  refine j_iadd hC2 dL_law_603 ?_
  refine j_sld hC2 hS (j + 2) (nI_add j 2) (by omega) hL dL_law_604 ?_
  refine j_rot ?_
  refine j_fr (w := wX (qx, g.2) σx2 ++ wO g oa lf2) (ws := wM (qm, g.2)) (q2 := qm) (σ := σm) (σ2 := σm2) (r := r) (As := [.int (xs (j + 1)), .int (xs (j + 2))]) (q0 := 0) (ci := 7) (C := RX7) hC2 (fun l D => X7_play_ok l D (qm, g.2) hm) (by decide) (by decide) ml_L_89 mi_X7_play ms_X7_play min_X7 mcd_X7_play rfl mds_X7_play rfl rfl (Nat.le_of_ble_eq_true rfl) rfl dL_law_605 ?_
  refine j_rot (j_rot ?_)
  refine j_istore hC2 dL_law_608 (by decide) rfl ?_
  refine j_aload_n hC2 dL_law_610 rfl 4 rfl ?_
  refine j_rot ?_
  refine j_fr (w := wX (qx, g.2) σx2 ++ wO g oa lf2) (ws := wM (qm, g.2)) (q2 := qm) (σ := σm2) (σ2 := σm2) (r := gi σm2 0) (As := []) (q0 := 0) (ci := 7) (C := RX7) hC2 (fun l D => X7_thrown_ok l D (qm, g.2) (N := 0) rfl) (by decide) (by decide) ml_L_55 mi_X7_thrown ms_X7_thrown min_X7 mcd_X7_thrown rfl mds_X7_thrown rfl rfl (Nat.le_of_ble_eq_true rfl) rfl dL_law_611 ?_
  refine j_rot (j_rot ?_)
  refine j_iload hC2 dL_law_614 1 rfl ?_
  refine j_icmp_eq (o := ()) (T := some ()) (F := none) (tgt := 621) hC2 dL_law_616 (by decide) (if_pos (hth)) (fun _ => ?_) (fun h => by cases h)
  refine j_pc (n2 := 621) rfl ?_
  refine j_iload hC2 dL_law_621 1 rfl ?_
  refine j_if_ne (o := ()) (T := none) (F := some ()) (tgt := 638) hC2 dL_law_623 (by decide) (if_pos rfl) (fun h => by cases h) (fun _ => ?_)
  refine j_aload_n hC2 dL_law_626 rfl 5 rfl ?_
  refine j_iconst (v := 0) hC2 dL_law_627 (by decide) ?_
  refine c_lald hC2 0 rfl (inB_in (by decide)) dL_law_628 ?_
  refine j_iload hC2 dL_law_629 0 rfl ?_
  refine j_i2l hC2 dL_law_631 ?_
  refine j_lcmp hC2 dL_law_632 ?_
  refine j_pc (n2 := 633) rfl ?_
  refine j_if_eq (o := ()) (T := some ()) (F := none) (tgt := 638) hC2 dL_law_633 (by decide) (if_pos (by rw [show lf2 (Int32.toNatClampNeg 0) = r.toInt64 from hu]; exact lg_cmp_self _)) (fun _ => ?_) (fun h => by cases h)
  refine j_goto (tgt := 864) hC2 dL_law_638 (by decide) ?_
  refine j_sub [2, 3, 4, 5, 6] rfl ?_
  exact k lf2
set_option maxHeartbeats 1000000 in
theorem law_play_x {K : Kx} {g : Gm} {qx qm : Nat → Nat} {oa b L j N : Nat} {xs : Nat → Int32} {lf : Nat → Int64} {σx σm : St} {Q : State → Prop} (hC : Ok K cL_law RL g 7 40 (some .boolean)) (hS : Scr K b L xs) (hj : j + 6 ≤ L) (hL : L ≤ 3072) (hLm : Lim K 1 6) (hlt : LtK K) {o : Int32 × St} {rm : Int32} {σm2 : St} (hx : X6_play_t N (xs (j + 1)) (xs (j + 2)) σx = some o) (hm : X7_play_f N (xs (j + 1)) (xs (j + 2)) σm = some (rm, σm2)) (hth : gi σm2 0 = 1) (k : ∀ lf2, J (Kp K 1 6) (fun _ => LW g qx qm oa lf2 o.2 σm2) 7 Q 864 [(0, .ref b), (1, .ref (qx 0)), (2, .ref (qm 0)), (3, .ref oa), (4, .int (nI j))] [] ini0) : J K (fun _ => LW g qx qm oa lf σx σm) 7 Q 573 [(0, .ref b), (1, .ref (qx 0)), (2, .ref (qm 0)), (3, .ref oa), (4, .int (nI j))] [] ini0 := by
  refine j_aload_n hC dL_law_573 rfl 1 rfl ?_
  refine j_aload_n hC dL_law_574 rfl 0 rfl ?_
  refine j_iload hC dL_law_575 4 rfl ?_
  refine j_iconst (v := 1) hC dL_law_577 (by decide) ?_
  refine j_iadd hC dL_law_578 ?_
  refine j_sld hC hS (j + 1) (nI_add j 1) (by omega) hL dL_law_579 ?_
  refine j_aload_n hC dL_law_580 rfl 0 rfl ?_
  refine j_pc (n2 := 581) rfl ?_
  refine j_iload hC dL_law_581 4 rfl ?_
  refine j_iconst (v := 2) hC dL_law_583 (by decide) ?_
  refine j_iadd hC dL_law_584 ?_
  refine j_sld hC hS (j + 2) (nI_add j 2) (by omega) hL dL_law_585 ?_
  refine j_aload_n hC dL_law_586 rfl 3 rfl ?_
  refine j_sep ?_
  refine j_callL (w := wM (qm, g.2) σm) (qx := qx) (oa := oa) (lf := lf) (σ := σx) (As := [.ref (qx 0), .int (xs (j + 1)), .int (xs (j + 2)), .ref oa]) hC hLm hlt (fun l hl D => L_play_x l hl D g qx oa lf hx) (by decide) (by decide) mll_play mls_play min_L mlw_play mld_play (Nat.le_of_ble_eq_true rfl) rfl dL_law_587 (fun r9 u9 hu => ?_)
  obtain ⟨sx9, lf2⟩ := u9
  obtain ⟨rfl, rfl⟩ := hu
  have hC2 := okp hC hLm (a := 1) (b := 6) (by decide) (by decide)
  have hS := scrp (a2 := 1) (b2 := 6) hS
  refine j_glu ?_
  refine j_istore hC2 dL_law_590 (by decide) rfl ?_
  refine j_aload_n hC2 dL_law_592 rfl 3 rfl ?_
  refine j_pc (n2 := 593) rfl ?_
  refine j_aload_n hC2 dL_law_593 rfl 1 rfl ?_
  refine j_iload hC2 dL_law_594 5 rfl ?_
  refine j_iconst (v := 1) hC2 dL_law_596 (by decide) ?_
  refine j_iadd hC2 dL_law_597 ?_
  refine j_sld hC2 hS (j + 1) (nI_add j 1) (by omega) hL dL_law_598 ?_
  refine j_aload_n hC2 dL_law_599 rfl 1 rfl ?_
  refine j_iload hC2 dL_law_600 5 rfl ?_
  refine j_iconst (v := 2) hC2 dL_law_602 (by decide) ?_
  refine j_pc (n2 := 603) rfl ?_
  refine j_iadd hC2 dL_law_603 ?_
  refine j_sld hC2 hS (j + 2) (nI_add j 2) (by omega) hL dL_law_604 ?_
  refine j_rot ?_
  refine j_fr (w := wX (qx, g.2) o.2 ++ wO g oa lf2) (ws := wM (qm, g.2)) (q2 := qm) (σ := σm) (σ2 := σm2) (r := rm) (As := [.int (xs (j + 1)), .int (xs (j + 2))]) (q0 := 0) (ci := 7) (C := RX7) hC2 (fun l D => X7_play_ok l D (qm, g.2) hm) (by decide) (by decide) ml_L_89 mi_X7_play ms_X7_play min_X7 mcd_X7_play rfl mds_X7_play rfl rfl (Nat.le_of_ble_eq_true rfl) rfl dL_law_605 ?_
  refine j_rot (j_rot ?_)
  refine j_istore hC2 dL_law_608 (by decide) rfl ?_
  refine j_aload_n hC2 dL_law_610 rfl 4 rfl ?_
  refine j_rot ?_
  refine j_fr (w := wX (qx, g.2) o.2 ++ wO g oa lf2) (ws := wM (qm, g.2)) (q2 := qm) (σ := σm2) (σ2 := σm2) (r := gi σm2 0) (As := []) (q0 := 0) (ci := 7) (C := RX7) hC2 (fun l D => X7_thrown_ok l D (qm, g.2) (N := 0) rfl) (by decide) (by decide) ml_L_55 mi_X7_thrown ms_X7_thrown min_X7 mcd_X7_thrown rfl mds_X7_thrown rfl rfl (Nat.le_of_ble_eq_true rfl) rfl dL_law_611 ?_
  refine j_rot (j_rot ?_)
  refine j_iload hC2 dL_law_614 1 rfl ?_
  refine j_icmp_eq (o := ()) (T := some ()) (F := none) (tgt := 621) hC2 dL_law_616 (by decide) (if_pos (hth)) (fun _ => ?_) (fun h => by cases h)
  refine j_pc (n2 := 621) rfl ?_
  refine j_iload hC2 dL_law_621 1 rfl ?_
  refine j_if_ne (o := ()) (T := some ()) (F := none) (tgt := 638) hC2 dL_law_623 (by decide) (if_neg (by decide)) (fun _ => ?_) (fun h => by cases h)
  refine j_goto (tgt := 864) hC2 dL_law_638 (by decide) ?_
  refine j_sub [2, 3, 4, 5, 6] rfl ?_
  exact k lf2
set_option maxHeartbeats 1000000 in
theorem law_left_n {K : Kx} {g : Gm} {qx qm : Nat → Nat} {oa b L j N : Nat} {xs : Nat → Int32} {lf : Nat → Int64} {σx σm : St} {Q : State → Prop} (hC : Ok K cL_law RL g 7 40 (some .boolean)) (hS : Scr K b L xs) (hj : j + 6 ≤ L) (hL : L ≤ 3072) (hLm : Lim K 1 6) (hlt : LtK K) {r : Int32} {σx2 σm2 : St} (hx : X6_left_f N (xs (j + 1)) (xs (j + 2)) σx = some (r, σx2)) (hm : X7_left_f N (xs (j + 1)) (xs (j + 2)) σm = some (r, σm2)) (hth : gi σm2 0 = 0) (k : ∀ lf2, J (Kp K 1 6) (fun _ => LW g qx qm oa lf2 σx2 σm2) 7 Q 864 [(0, .ref b), (1, .ref (qx 0)), (2, .ref (qm 0)), (3, .ref oa), (4, .int (nI j))] [] ini0) : J K (fun _ => LW g qx qm oa lf σx σm) 7 Q 641 [(0, .ref b), (1, .ref (qx 0)), (2, .ref (qm 0)), (3, .ref oa), (4, .int (nI j))] [] ini0 := by
  refine j_aload_n hC dL_law_641 rfl 1 rfl ?_
  refine j_aload_n hC dL_law_642 rfl 0 rfl ?_
  refine j_iload hC dL_law_643 4 rfl ?_
  refine j_iconst (v := 1) hC dL_law_645 (by decide) ?_
  refine j_iadd hC dL_law_646 ?_
  refine j_sld hC hS (j + 1) (nI_add j 1) (by omega) hL dL_law_647 ?_
  refine j_aload_n hC dL_law_648 rfl 0 rfl ?_
  refine j_pc (n2 := 649) rfl ?_
  refine j_iload hC dL_law_649 4 rfl ?_
  refine j_iconst (v := 2) hC dL_law_651 (by decide) ?_
  refine j_iadd hC dL_law_652 ?_
  refine j_sld hC hS (j + 2) (nI_add j 2) (by omega) hL dL_law_653 ?_
  refine j_aload_n hC dL_law_654 rfl 3 rfl ?_
  refine j_sep ?_
  refine j_callL (w := wM (qm, g.2) σm) (qx := qx) (oa := oa) (lf := lf) (σ := σx) (As := [.ref (qx 0), .int (xs (j + 1)), .int (xs (j + 2)), .ref oa]) hC hLm hlt (fun l hl D => L_left_n l hl D g qx oa lf hx) (by decide) (by decide) mll_left mls_left min_L mlw_left mld_left (Nat.le_of_ble_eq_true rfl) rfl dL_law_655 (fun r9 u9 hu => ?_)
  obtain ⟨sx9, lf2⟩ := u9
  obtain ⟨rfl, h92, hu⟩ := hu
  have h92 := h92.symm
  subst h92
  have hC2 := okp hC hLm (a := 1) (b := 6) (by decide) (by decide)
  have hS := scrp (a2 := 1) (b2 := 6) hS
  refine j_glu ?_
  refine j_istore hC2 dL_law_658 (by decide) rfl ?_
  refine j_aload_n hC2 dL_law_660 rfl 3 rfl ?_
  refine j_pc (n2 := 661) rfl ?_
  refine j_aload_n hC2 dL_law_661 rfl 1 rfl ?_
  refine j_iload hC2 dL_law_662 5 rfl ?_
  refine j_iconst (v := 1) hC2 dL_law_664 (by decide) ?_
  refine j_iadd hC2 dL_law_665 ?_
  refine j_sld hC2 hS (j + 1) (nI_add j 1) (by omega) hL dL_law_666 ?_
  refine j_aload_n hC2 dL_law_667 rfl 1 rfl ?_
  refine j_iload hC2 dL_law_668 5 rfl ?_
  refine j_iconst (v := 2) hC2 dL_law_670 (by decide) ?_
  refine j_pc (n2 := 671) rfl ?_
  refine j_iadd hC2 dL_law_671 ?_
  refine j_sld hC2 hS (j + 2) (nI_add j 2) (by omega) hL dL_law_672 ?_
  refine j_rot ?_
  refine j_fr (w := wX (qx, g.2) σx2 ++ wO g oa lf2) (ws := wM (qm, g.2)) (q2 := qm) (σ := σm) (σ2 := σm2) (r := r) (As := [.int (xs (j + 1)), .int (xs (j + 2))]) (q0 := 0) (ci := 7) (C := RX7) hC2 (fun l D => X7_left_ok l D (qm, g.2) hm) (by decide) (by decide) ml_L_92 mi_X7_left ms_X7_left min_X7 mcd_X7_left rfl mds_X7_left rfl rfl (Nat.le_of_ble_eq_true rfl) rfl dL_law_673 ?_
  refine j_rot (j_rot ?_)
  refine j_istore hC2 dL_law_676 (by decide) rfl ?_
  refine j_aload_n hC2 dL_law_678 rfl 4 rfl ?_
  refine j_rot ?_
  refine j_fr (w := wX (qx, g.2) σx2 ++ wO g oa lf2) (ws := wM (qm, g.2)) (q2 := qm) (σ := σm2) (σ2 := σm2) (r := gi σm2 0) (As := []) (q0 := 0) (ci := 7) (C := RX7) hC2 (fun l D => X7_thrown_ok l D (qm, g.2) (N := 0) rfl) (by decide) (by decide) ml_L_55 mi_X7_thrown ms_X7_thrown min_X7 mcd_X7_thrown rfl mds_X7_thrown rfl rfl (Nat.le_of_ble_eq_true rfl) rfl dL_law_679 ?_
  refine j_rot (j_rot ?_)
  refine j_iload hC2 dL_law_682 1 rfl ?_
  refine j_icmp_eq (o := ()) (T := some ()) (F := none) (tgt := 689) hC2 dL_law_684 (by decide) (if_pos (hth)) (fun _ => ?_) (fun h => by cases h)
  refine j_pc (n2 := 689) rfl ?_
  refine j_iload hC2 dL_law_689 1 rfl ?_
  refine j_if_ne (o := ()) (T := none) (F := some ()) (tgt := 706) hC2 dL_law_691 (by decide) (if_pos rfl) (fun h => by cases h) (fun _ => ?_)
  refine j_aload_n hC2 dL_law_694 rfl 5 rfl ?_
  refine j_iconst (v := 0) hC2 dL_law_695 (by decide) ?_
  refine c_lald hC2 0 rfl (inB_in (by decide)) dL_law_696 ?_
  refine j_iload hC2 dL_law_697 0 rfl ?_
  refine j_i2l hC2 dL_law_699 ?_
  refine j_lcmp hC2 dL_law_700 ?_
  refine j_pc (n2 := 701) rfl ?_
  refine j_if_eq (o := ()) (T := some ()) (F := none) (tgt := 706) hC2 dL_law_701 (by decide) (if_pos (by rw [show lf2 (Int32.toNatClampNeg 0) = r.toInt64 from hu]; exact lg_cmp_self _)) (fun _ => ?_) (fun h => by cases h)
  refine j_goto (tgt := 864) hC2 dL_law_706 (by decide) ?_
  refine j_sub [2, 3, 4, 5, 6] rfl ?_
  exact k lf2
set_option maxHeartbeats 1000000 in
theorem law_left_x {K : Kx} {g : Gm} {qx qm : Nat → Nat} {oa b L j N : Nat} {xs : Nat → Int32} {lf : Nat → Int64} {σx σm : St} {Q : State → Prop} (hC : Ok K cL_law RL g 7 40 (some .boolean)) (hS : Scr K b L xs) (hj : j + 6 ≤ L) (hL : L ≤ 3072) (hLm : Lim K 1 6) (hlt : LtK K) {o : Int32 × St} {rm : Int32} {σm2 : St} (hx : X6_left_t N (xs (j + 1)) (xs (j + 2)) σx = some o) (hm : X7_left_f N (xs (j + 1)) (xs (j + 2)) σm = some (rm, σm2)) (hth : gi σm2 0 = 1) (k : ∀ lf2, J (Kp K 1 6) (fun _ => LW g qx qm oa lf2 o.2 σm2) 7 Q 864 [(0, .ref b), (1, .ref (qx 0)), (2, .ref (qm 0)), (3, .ref oa), (4, .int (nI j))] [] ini0) : J K (fun _ => LW g qx qm oa lf σx σm) 7 Q 641 [(0, .ref b), (1, .ref (qx 0)), (2, .ref (qm 0)), (3, .ref oa), (4, .int (nI j))] [] ini0 := by
  refine j_aload_n hC dL_law_641 rfl 1 rfl ?_
  refine j_aload_n hC dL_law_642 rfl 0 rfl ?_
  refine j_iload hC dL_law_643 4 rfl ?_
  refine j_iconst (v := 1) hC dL_law_645 (by decide) ?_
  refine j_iadd hC dL_law_646 ?_
  refine j_sld hC hS (j + 1) (nI_add j 1) (by omega) hL dL_law_647 ?_
  refine j_aload_n hC dL_law_648 rfl 0 rfl ?_
  refine j_pc (n2 := 649) rfl ?_
  refine j_iload hC dL_law_649 4 rfl ?_
  refine j_iconst (v := 2) hC dL_law_651 (by decide) ?_
  refine j_iadd hC dL_law_652 ?_
  refine j_sld hC hS (j + 2) (nI_add j 2) (by omega) hL dL_law_653 ?_
  refine j_aload_n hC dL_law_654 rfl 3 rfl ?_
  refine j_sep ?_
  refine j_callL (w := wM (qm, g.2) σm) (qx := qx) (oa := oa) (lf := lf) (σ := σx) (As := [.ref (qx 0), .int (xs (j + 1)), .int (xs (j + 2)), .ref oa]) hC hLm hlt (fun l hl D => L_left_x l hl D g qx oa lf hx) (by decide) (by decide) mll_left mls_left min_L mlw_left mld_left (Nat.le_of_ble_eq_true rfl) rfl dL_law_655 (fun r9 u9 hu => ?_)
  obtain ⟨sx9, lf2⟩ := u9
  obtain ⟨rfl, rfl⟩ := hu
  have hC2 := okp hC hLm (a := 1) (b := 6) (by decide) (by decide)
  have hS := scrp (a2 := 1) (b2 := 6) hS
  refine j_glu ?_
  refine j_istore hC2 dL_law_658 (by decide) rfl ?_
  refine j_aload_n hC2 dL_law_660 rfl 3 rfl ?_
  refine j_pc (n2 := 661) rfl ?_
  refine j_aload_n hC2 dL_law_661 rfl 1 rfl ?_
  refine j_iload hC2 dL_law_662 5 rfl ?_
  refine j_iconst (v := 1) hC2 dL_law_664 (by decide) ?_
  refine j_iadd hC2 dL_law_665 ?_
  refine j_sld hC2 hS (j + 1) (nI_add j 1) (by omega) hL dL_law_666 ?_
  refine j_aload_n hC2 dL_law_667 rfl 1 rfl ?_
  refine j_iload hC2 dL_law_668 5 rfl ?_
  refine j_iconst (v := 2) hC2 dL_law_670 (by decide) ?_
  refine j_pc (n2 := 671) rfl ?_
  refine j_iadd hC2 dL_law_671 ?_
  refine j_sld hC2 hS (j + 2) (nI_add j 2) (by omega) hL dL_law_672 ?_
  refine j_rot ?_
  refine j_fr (w := wX (qx, g.2) o.2 ++ wO g oa lf2) (ws := wM (qm, g.2)) (q2 := qm) (σ := σm) (σ2 := σm2) (r := rm) (As := [.int (xs (j + 1)), .int (xs (j + 2))]) (q0 := 0) (ci := 7) (C := RX7) hC2 (fun l D => X7_left_ok l D (qm, g.2) hm) (by decide) (by decide) ml_L_92 mi_X7_left ms_X7_left min_X7 mcd_X7_left rfl mds_X7_left rfl rfl (Nat.le_of_ble_eq_true rfl) rfl dL_law_673 ?_
  refine j_rot (j_rot ?_)
  refine j_istore hC2 dL_law_676 (by decide) rfl ?_
  refine j_aload_n hC2 dL_law_678 rfl 4 rfl ?_
  refine j_rot ?_
  refine j_fr (w := wX (qx, g.2) o.2 ++ wO g oa lf2) (ws := wM (qm, g.2)) (q2 := qm) (σ := σm2) (σ2 := σm2) (r := gi σm2 0) (As := []) (q0 := 0) (ci := 7) (C := RX7) hC2 (fun l D => X7_thrown_ok l D (qm, g.2) (N := 0) rfl) (by decide) (by decide) ml_L_55 mi_X7_thrown ms_X7_thrown min_X7 mcd_X7_thrown rfl mds_X7_thrown rfl rfl (Nat.le_of_ble_eq_true rfl) rfl dL_law_679 ?_
  refine j_rot (j_rot ?_)
  refine j_iload hC2 dL_law_682 1 rfl ?_
  refine j_icmp_eq (o := ()) (T := some ()) (F := none) (tgt := 689) hC2 dL_law_684 (by decide) (if_pos (hth)) (fun _ => ?_) (fun h => by cases h)
  refine j_pc (n2 := 689) rfl ?_
  refine j_iload hC2 dL_law_689 1 rfl ?_
  refine j_if_ne (o := ()) (T := some ()) (F := none) (tgt := 706) hC2 dL_law_691 (by decide) (if_neg (by decide)) (fun _ => ?_) (fun h => by cases h)
  refine j_goto (tgt := 864) hC2 dL_law_706 (by decide) ?_
  refine j_sub [2, 3, 4, 5, 6] rfl ?_
  exact k lf2
set_option maxHeartbeats 1000000 in
theorem law_at {K : Kx} {g : Gm} {qx qm : Nat → Nat} {oa b L j N : Nat} {xs : Nat → Int32} {lf : Nat → Int64} {σx σm : St} {Q : State → Prop} (hC : Ok K cL_law RL g 7 40 (some .boolean)) (hS : Scr K b L xs) (hj : j + 6 ≤ L) (hL : L ≤ 3072) {r : Int32} {σx2 σm2 : St} (hx : X6_at_f N (xs (j + 1)) σx = some (r, σx2)) (hm : X7_at_f N (xs (j + 1)) σm = some (r, σm2)) (k : J K (fun _ => LW g qx qm oa lf σx2 σm2) 7 Q 864 [(0, .ref b), (1, .ref (qx 0)), (2, .ref (qm 0)), (3, .ref oa), (4, .int (nI j))] [] ini0) : J K (fun _ => LW g qx qm oa lf σx σm) 7 Q 709 [(0, .ref b), (1, .ref (qx 0)), (2, .ref (qm 0)), (3, .ref oa), (4, .int (nI j))] [] ini0 := by
  refine j_aload_n hC dL_law_709 rfl 1 rfl ?_
  refine j_aload_n hC dL_law_710 rfl 0 rfl ?_
  refine j_iload hC dL_law_711 4 rfl ?_
  refine j_iconst (v := 1) hC dL_law_713 (by decide) ?_
  refine j_iadd hC dL_law_714 ?_
  refine j_sld hC hS (j + 1) (nI_add j 1) (by omega) hL dL_law_715 ?_
  refine j_fr (w := wO g oa lf ++ wM (qm, g.2) σm) (ws := wX (qx, g.2)) (q2 := qx) (σ := σx) (σ2 := σx2) (r := r) (As := [.int (xs (j + 1))]) (q0 := 0) (ci := 6) (C := RX6) hC (fun l D => X6_at_ok l D (qx, g.2) hx) (by decide) (by decide) ml_L_93 mi_X6_at ms_X6_at min_X6 mcd_X6_at rfl mds_X6_at rfl rfl (Nat.le_of_ble_eq_true rfl) rfl dL_law_716 ?_
  refine j_pc (n2 := 719) rfl ?_
  refine j_aload_n hC dL_law_719 rfl 2 rfl ?_
  refine j_aload_n hC dL_law_720 rfl 0 rfl ?_
  refine j_iload hC dL_law_721 4 rfl ?_
  refine j_iconst (v := 1) hC dL_law_723 (by decide) ?_
  refine j_iadd hC dL_law_724 ?_
  refine j_sld hC hS (j + 1) (nI_add j 1) (by omega) hL dL_law_725 ?_
  refine j_rot ?_
  refine j_fr (w := wX (qx, g.2) σx2 ++ wO g oa lf) (ws := wM (qm, g.2)) (q2 := qm) (σ := σm) (σ2 := σm2) (r := r) (As := [.int (xs (j + 1))]) (q0 := 0) (ci := 7) (C := RX7) hC (fun l D => X7_at_ok l D (qm, g.2) hm) (by decide) (by decide) ml_L_96 mi_X7_at ms_X7_at min_X7 mcd_X7_at rfl mds_X7_at rfl rfl (Nat.le_of_ble_eq_true rfl) rfl dL_law_726 ?_
  refine j_rot (j_rot ?_)
  refine j_icmp_eq (o := ()) (T := some ()) (F := none) (tgt := 864) hC dL_law_729 (by decide) (if_pos (rfl)) (fun _ => ?_) (fun h => by cases h)
  refine j_sub [0, 1, 2, 3, 4] rfl ?_
  exact k
set_option maxHeartbeats 1000000 in
theorem law_rights {K : Kx} {g : Gm} {qx qm : Nat → Nat} {oa b L j N : Nat} {xs : Nat → Int32} {lf : Nat → Int64} {σx σm : St} {Q : State → Prop} (hC : Ok K cL_law RL g 7 40 (some .boolean)) (hS : Scr K b L xs) (hj : j + 6 ≤ L) (hL : L ≤ 3072) {r : Int32} {σx2 σm2 : St} (hx : X6_rights_f N (xs (j + 1)) (xs (j + 2)) (xs (j + 3)) σx = some (r, σx2)) (hm : X7_rights_f N (xs (j + 1)) (xs (j + 2)) (xs (j + 3)) σm = some (r, σm2)) (k : J K (fun _ => LW g qx qm oa lf σx2 σm2) 7 Q 864 [(0, .ref b), (1, .ref (qx 0)), (2, .ref (qm 0)), (3, .ref oa), (4, .int (nI j))] [] ini0) : J K (fun _ => LW g qx qm oa lf σx σm) 7 Q 734 [(0, .ref b), (1, .ref (qx 0)), (2, .ref (qm 0)), (3, .ref oa), (4, .int (nI j))] [] ini0 := by
  refine j_aload_n hC dL_law_734 rfl 1 rfl ?_
  refine j_aload_n hC dL_law_735 rfl 0 rfl ?_
  refine j_iload hC dL_law_736 4 rfl ?_
  refine j_iconst (v := 1) hC dL_law_738 (by decide) ?_
  refine j_iadd hC dL_law_739 ?_
  refine j_sld hC hS (j + 1) (nI_add j 1) (by omega) hL dL_law_740 ?_
  refine j_aload_n hC dL_law_741 rfl 0 rfl ?_
  refine j_pc (n2 := 742) rfl ?_
  refine j_iload hC dL_law_742 4 rfl ?_
  refine j_iconst (v := 2) hC dL_law_744 (by decide) ?_
  refine j_iadd hC dL_law_745 ?_
  refine j_sld hC hS (j + 2) (nI_add j 2) (by omega) hL dL_law_746 ?_
  refine j_aload_n hC dL_law_747 rfl 0 rfl ?_
  refine j_iload hC dL_law_748 4 rfl ?_
  refine j_iconst (v := 3) hC dL_law_750 (by decide) ?_
  refine j_iadd hC dL_law_751 ?_
  refine j_pc (n2 := 752) rfl ?_
  refine j_sld hC hS (j + 3) (nI_add j 3) (by omega) hL dL_law_752 ?_
  refine j_fr (w := wO g oa lf ++ wM (qm, g.2) σm) (ws := wX (qx, g.2)) (q2 := qx) (σ := σx) (σ2 := σx2) (r := r) (As := [.int (xs (j + 1)), .int (xs (j + 2)), .int (xs (j + 3))]) (q0 := 0) (ci := 6) (C := RX6) hC (fun l D => X6_rights_ok l D (qx, g.2) hx) (by decide) (by decide) ml_L_97 mi_X6_rights ms_X6_rights min_X6 mcd_X6_rights rfl mds_X6_rights rfl rfl (Nat.le_of_ble_eq_true rfl) rfl dL_law_753 ?_
  refine j_aload_n hC dL_law_756 rfl 2 rfl ?_
  refine j_aload_n hC dL_law_757 rfl 0 rfl ?_
  refine j_iload hC dL_law_758 4 rfl ?_
  refine j_iconst (v := 1) hC dL_law_760 (by decide) ?_
  refine j_iadd hC dL_law_761 ?_
  refine j_sld hC hS (j + 1) (nI_add j 1) (by omega) hL dL_law_762 ?_
  refine j_pc (n2 := 763) rfl ?_
  refine j_aload_n hC dL_law_763 rfl 0 rfl ?_
  refine j_iload hC dL_law_764 4 rfl ?_
  refine j_iconst (v := 2) hC dL_law_766 (by decide) ?_
  refine j_iadd hC dL_law_767 ?_
  refine j_sld hC hS (j + 2) (nI_add j 2) (by omega) hL dL_law_768 ?_
  refine j_aload_n hC dL_law_769 rfl 0 rfl ?_
  refine j_iload hC dL_law_770 4 rfl ?_
  refine j_iconst (v := 3) hC dL_law_772 (by decide) ?_
  refine j_pc (n2 := 773) rfl ?_
  refine j_iadd hC dL_law_773 ?_
  refine j_sld hC hS (j + 3) (nI_add j 3) (by omega) hL dL_law_774 ?_
  refine j_rot ?_
  refine j_fr (w := wX (qx, g.2) σx2 ++ wO g oa lf) (ws := wM (qm, g.2)) (q2 := qm) (σ := σm) (σ2 := σm2) (r := r) (As := [.int (xs (j + 1)), .int (xs (j + 2)), .int (xs (j + 3))]) (q0 := 0) (ci := 7) (C := RX7) hC (fun l D => X7_rights_ok l D (qm, g.2) hm) (by decide) (by decide) ml_L_101 mi_X7_rights ms_X7_rights min_X7 mcd_X7_rights rfl mds_X7_rights rfl rfl (Nat.le_of_ble_eq_true rfl) rfl dL_law_775 ?_
  refine j_rot (j_rot ?_)
  refine j_icmp_eq (o := ()) (T := some ()) (F := none) (tgt := 864) hC dL_law_778 (by decide) (if_pos (rfl)) (fun _ => ?_) (fun h => by cases h)
  refine j_sub [0, 1, 2, 3, 4] rfl ?_
  exact k
set_option maxHeartbeats 1000000 in
theorem law_items_n {K : Kx} {g : Gm} {qx qm : Nat → Nat} {oa b L j N : Nat} {xs : Nat → Int32} {lf : Nat → Int64} {σx σm : St} {Q : State → Prop} (hC : Ok K cL_law RL g 7 40 (some .boolean)) (hS : Scr K b L xs) (hj : j + 6 ≤ L) (hL : L ≤ 3072) (hLm : Lim K 1 6) (hlt : LtK K) {r : Int32} {σx2 σm2 : St} (hx : X6_items_f N (xs (j + 1)) σx = some (r, σx2)) (hm : X7_items_f N (xs (j + 1)) σm = some (r, σm2)) (hth : gi σm2 0 = 0) (k : ∀ lf2, J (Kp K 1 6) (fun _ => LW g qx qm oa lf2 σx2 σm2) 7 Q 864 [(0, .ref b), (1, .ref (qx 0)), (2, .ref (qm 0)), (3, .ref oa), (4, .int (nI j))] [] ini0) : J K (fun _ => LW g qx qm oa lf σx σm) 7 Q 783 [(0, .ref b), (1, .ref (qx 0)), (2, .ref (qm 0)), (3, .ref oa), (4, .int (nI j))] [] ini0 := by
  refine j_aload_n hC dL_law_783 rfl 1 rfl ?_
  refine j_aload_n hC dL_law_784 rfl 0 rfl ?_
  refine j_iload hC dL_law_785 4 rfl ?_
  refine j_iconst (v := 1) hC dL_law_787 (by decide) ?_
  refine j_iadd hC dL_law_788 ?_
  refine j_sld hC hS (j + 1) (nI_add j 1) (by omega) hL dL_law_789 ?_
  refine j_aload_n hC dL_law_790 rfl 3 rfl ?_
  refine j_pc (n2 := 791) rfl ?_
  refine j_sep ?_
  refine j_callL (w := wM (qm, g.2) σm) (qx := qx) (oa := oa) (lf := lf) (σ := σx) (As := [.ref (qx 0), .int (xs (j + 1)), .ref oa]) hC hLm hlt (fun l hl D => L_items_n l hl D g qx oa lf hx) (by decide) (by decide) mll_items mls_items min_L mlw_items mld_items (Nat.le_of_ble_eq_true rfl) rfl dL_law_791 (fun r9 u9 hu => ?_)
  obtain ⟨sx9, lf2⟩ := u9
  obtain ⟨rfl, h92, hu⟩ := hu
  have h92 := h92.symm
  subst h92
  have hC2 := okp hC hLm (a := 1) (b := 6) (by decide) (by decide)
  have hS := scrp (a2 := 1) (b2 := 6) hS
  refine j_glu ?_
  refine j_istore hC2 dL_law_794 (by decide) rfl ?_
  refine j_aload_n hC2 dL_law_796 rfl 3 rfl ?_
  refine j_aload_n hC2 dL_law_797 rfl 1 rfl ?_
  refine j_iload hC2 dL_law_798 5 rfl ?_
  refine j_iconst (v := 1) hC2 dL_law_800 (by decide) ?_
  refine j_iadd hC2 dL_law_801 ?_
  refine j_sld hC2 hS (j + 1) (nI_add j 1) (by omega) hL dL_law_802 ?_
  refine j_pc (n2 := 803) rfl ?_
  refine j_rot ?_
  refine j_fr (w := wX (qx, g.2) σx2 ++ wO g oa lf2) (ws := wM (qm, g.2)) (q2 := qm) (σ := σm) (σ2 := σm2) (r := r) (As := [.int (xs (j + 1))]) (q0 := 0) (ci := 7) (C := RX7) hC2 (fun l D => X7_items_ok l D (qm, g.2) hm) (by decide) (by decide) ml_L_104 mi_X7_items ms_X7_items min_X7 mcd_X7_items rfl mds_X7_items rfl rfl (Nat.le_of_ble_eq_true rfl) rfl dL_law_803 ?_
  refine j_rot (j_rot ?_)
  refine j_istore hC2 dL_law_806 (by decide) rfl ?_
  refine j_aload_n hC2 dL_law_808 rfl 4 rfl ?_
  refine j_rot ?_
  refine j_fr (w := wX (qx, g.2) σx2 ++ wO g oa lf2) (ws := wM (qm, g.2)) (q2 := qm) (σ := σm2) (σ2 := σm2) (r := gi σm2 0) (As := []) (q0 := 0) (ci := 7) (C := RX7) hC2 (fun l D => X7_thrown_ok l D (qm, g.2) (N := 0) rfl) (by decide) (by decide) ml_L_55 mi_X7_thrown ms_X7_thrown min_X7 mcd_X7_thrown rfl mds_X7_thrown rfl rfl (Nat.le_of_ble_eq_true rfl) rfl dL_law_809 ?_
  refine j_rot (j_rot ?_)
  refine j_iload hC2 dL_law_812 1 rfl ?_
  refine j_icmp_eq (o := ()) (T := some ()) (F := none) (tgt := 819) hC2 dL_law_814 (by decide) (if_pos (hth)) (fun _ => ?_) (fun h => by cases h)
  refine j_iload hC2 dL_law_819 1 rfl ?_
  refine j_if_ne (o := ()) (T := none) (F := some ()) (tgt := 836) hC2 dL_law_821 (by decide) (if_pos rfl) (fun h => by cases h) (fun _ => ?_)
  refine j_pc (n2 := 824) rfl ?_
  refine j_aload_n hC2 dL_law_824 rfl 5 rfl ?_
  refine j_iconst (v := 0) hC2 dL_law_825 (by decide) ?_
  refine c_lald hC2 0 rfl (inB_in (by decide)) dL_law_826 ?_
  refine j_iload hC2 dL_law_827 0 rfl ?_
  refine j_i2l hC2 dL_law_829 ?_
  refine j_lcmp hC2 dL_law_830 ?_
  refine j_if_eq (o := ()) (T := some ()) (F := none) (tgt := 836) hC2 dL_law_831 (by decide) (if_pos (by rw [show lf2 (Int32.toNatClampNeg 0) = r.toInt64 from hu]; exact lg_cmp_self _)) (fun _ => ?_) (fun h => by cases h)
  refine j_goto (tgt := 864) hC2 dL_law_836 (by decide) ?_
  refine j_sub [2, 3, 4, 5, 6] rfl ?_
  exact k lf2
set_option maxHeartbeats 1000000 in
theorem law_items_x {K : Kx} {g : Gm} {qx qm : Nat → Nat} {oa b L j N : Nat} {xs : Nat → Int32} {lf : Nat → Int64} {σx σm : St} {Q : State → Prop} (hC : Ok K cL_law RL g 7 40 (some .boolean)) (hS : Scr K b L xs) (hj : j + 6 ≤ L) (hL : L ≤ 3072) (hLm : Lim K 1 6) (hlt : LtK K) {o : Int32 × St} {rm : Int32} {σm2 : St} (hx : X6_items_t N (xs (j + 1)) σx = some o) (hm : X7_items_f N (xs (j + 1)) σm = some (rm, σm2)) (hth : gi σm2 0 = 1) (k : ∀ lf2, J (Kp K 1 6) (fun _ => LW g qx qm oa lf2 o.2 σm2) 7 Q 864 [(0, .ref b), (1, .ref (qx 0)), (2, .ref (qm 0)), (3, .ref oa), (4, .int (nI j))] [] ini0) : J K (fun _ => LW g qx qm oa lf σx σm) 7 Q 783 [(0, .ref b), (1, .ref (qx 0)), (2, .ref (qm 0)), (3, .ref oa), (4, .int (nI j))] [] ini0 := by
  refine j_aload_n hC dL_law_783 rfl 1 rfl ?_
  refine j_aload_n hC dL_law_784 rfl 0 rfl ?_
  refine j_iload hC dL_law_785 4 rfl ?_
  refine j_iconst (v := 1) hC dL_law_787 (by decide) ?_
  refine j_iadd hC dL_law_788 ?_
  refine j_sld hC hS (j + 1) (nI_add j 1) (by omega) hL dL_law_789 ?_
  refine j_aload_n hC dL_law_790 rfl 3 rfl ?_
  refine j_pc (n2 := 791) rfl ?_
  refine j_sep ?_
  refine j_callL (w := wM (qm, g.2) σm) (qx := qx) (oa := oa) (lf := lf) (σ := σx) (As := [.ref (qx 0), .int (xs (j + 1)), .ref oa]) hC hLm hlt (fun l hl D => L_items_x l hl D g qx oa lf hx) (by decide) (by decide) mll_items mls_items min_L mlw_items mld_items (Nat.le_of_ble_eq_true rfl) rfl dL_law_791 (fun r9 u9 hu => ?_)
  obtain ⟨sx9, lf2⟩ := u9
  obtain ⟨rfl, rfl⟩ := hu
  have hC2 := okp hC hLm (a := 1) (b := 6) (by decide) (by decide)
  have hS := scrp (a2 := 1) (b2 := 6) hS
  refine j_glu ?_
  refine j_istore hC2 dL_law_794 (by decide) rfl ?_
  refine j_aload_n hC2 dL_law_796 rfl 3 rfl ?_
  refine j_aload_n hC2 dL_law_797 rfl 1 rfl ?_
  refine j_iload hC2 dL_law_798 5 rfl ?_
  refine j_iconst (v := 1) hC2 dL_law_800 (by decide) ?_
  refine j_iadd hC2 dL_law_801 ?_
  refine j_sld hC2 hS (j + 1) (nI_add j 1) (by omega) hL dL_law_802 ?_
  refine j_pc (n2 := 803) rfl ?_
  refine j_rot ?_
  refine j_fr (w := wX (qx, g.2) o.2 ++ wO g oa lf2) (ws := wM (qm, g.2)) (q2 := qm) (σ := σm) (σ2 := σm2) (r := rm) (As := [.int (xs (j + 1))]) (q0 := 0) (ci := 7) (C := RX7) hC2 (fun l D => X7_items_ok l D (qm, g.2) hm) (by decide) (by decide) ml_L_104 mi_X7_items ms_X7_items min_X7 mcd_X7_items rfl mds_X7_items rfl rfl (Nat.le_of_ble_eq_true rfl) rfl dL_law_803 ?_
  refine j_rot (j_rot ?_)
  refine j_istore hC2 dL_law_806 (by decide) rfl ?_
  refine j_aload_n hC2 dL_law_808 rfl 4 rfl ?_
  refine j_rot ?_
  refine j_fr (w := wX (qx, g.2) o.2 ++ wO g oa lf2) (ws := wM (qm, g.2)) (q2 := qm) (σ := σm2) (σ2 := σm2) (r := gi σm2 0) (As := []) (q0 := 0) (ci := 7) (C := RX7) hC2 (fun l D => X7_thrown_ok l D (qm, g.2) (N := 0) rfl) (by decide) (by decide) ml_L_55 mi_X7_thrown ms_X7_thrown min_X7 mcd_X7_thrown rfl mds_X7_thrown rfl rfl (Nat.le_of_ble_eq_true rfl) rfl dL_law_809 ?_
  refine j_rot (j_rot ?_)
  refine j_iload hC2 dL_law_812 1 rfl ?_
  refine j_icmp_eq (o := ()) (T := some ()) (F := none) (tgt := 819) hC2 dL_law_814 (by decide) (if_pos (hth)) (fun _ => ?_) (fun h => by cases h)
  refine j_iload hC2 dL_law_819 1 rfl ?_
  refine j_if_ne (o := ()) (T := some ()) (F := none) (tgt := 836) hC2 dL_law_821 (by decide) (if_neg (by decide)) (fun _ => ?_) (fun h => by cases h)
  refine j_pc (n2 := 836) rfl ?_
  refine j_goto (tgt := 864) hC2 dL_law_836 (by decide) ?_
  refine j_sub [2, 3, 4, 5, 6] rfl ?_
  exact k lf2
set_option maxHeartbeats 1000000 in
theorem law_count {K : Kx} {g : Gm} {qx qm : Nat → Nat} {oa b L j N : Nat} {xs : Nat → Int32} {lf : Nat → Int64} {σx σm : St} {Q : State → Prop} (hC : Ok K cL_law RL g 7 40 (some .boolean)) (hS : Scr K b L xs) (hj : j + 6 ≤ L) (hL : L ≤ 3072) {r : Int32} {σx2 σm2 : St} (hx : X6_count_f N (xs (j + 1)) σx = some (r, σx2)) (hm : X7_count_f N (xs (j + 1)) σm = some (r, σm2)) (k : J K (fun _ => LW g qx qm oa lf σx2 σm2) 7 Q 864 [(0, .ref b), (1, .ref (qx 0)), (2, .ref (qm 0)), (3, .ref oa), (4, .int (nI j))] [] ini0) : J K (fun _ => LW g qx qm oa lf σx σm) 7 Q 839 [(0, .ref b), (1, .ref (qx 0)), (2, .ref (qm 0)), (3, .ref oa), (4, .int (nI j))] [] ini0 := by
  refine j_aload_n hC dL_law_839 rfl 1 rfl ?_
  refine j_aload_n hC dL_law_840 rfl 0 rfl ?_
  refine j_iload hC dL_law_841 4 rfl ?_
  refine j_iconst (v := 1) hC dL_law_843 (by decide) ?_
  refine j_iadd hC dL_law_844 ?_
  refine j_sld hC hS (j + 1) (nI_add j 1) (by omega) hL dL_law_845 ?_
  refine j_fr (w := wO g oa lf ++ wM (qm, g.2) σm) (ws := wX (qx, g.2)) (q2 := qx) (σ := σx) (σ2 := σx2) (r := r) (As := [.int (xs (j + 1))]) (q0 := 0) (ci := 6) (C := RX6) hC (fun l D => X6_count_ok l D (qx, g.2) hx) (by decide) (by decide) ml_L_105 mi_X6_count ms_X6_count min_X6 mcd_X6_count rfl mds_X6_count rfl rfl (Nat.le_of_ble_eq_true rfl) rfl dL_law_846 ?_
  refine j_pc (n2 := 849) rfl ?_
  refine j_aload_n hC dL_law_849 rfl 2 rfl ?_
  refine j_aload_n hC dL_law_850 rfl 0 rfl ?_
  refine j_iload hC dL_law_851 4 rfl ?_
  refine j_iconst (v := 1) hC dL_law_853 (by decide) ?_
  refine j_iadd hC dL_law_854 ?_
  refine j_sld hC hS (j + 1) (nI_add j 1) (by omega) hL dL_law_855 ?_
  refine j_rot ?_
  refine j_fr (w := wX (qx, g.2) σx2 ++ wO g oa lf) (ws := wM (qm, g.2)) (q2 := qm) (σ := σm) (σ2 := σm2) (r := r) (As := [.int (xs (j + 1))]) (q0 := 0) (ci := 7) (C := RX7) hC (fun l D => X7_count_ok l D (qm, g.2) hm) (by decide) (by decide) ml_L_108 mi_X7_count ms_X7_count min_X7 mcd_X7_count rfl mds_X7_count rfl rfl (Nat.le_of_ble_eq_true rfl) rfl dL_law_856 ?_
  refine j_rot (j_rot ?_)
  refine j_icmp_eq (o := ()) (T := some ()) (F := none) (tgt := 864) hC dL_law_859 (by decide) (if_pos (rfl)) (fun _ => ?_) (fun h => by cases h)
  refine j_sub [0, 1, 2, 3, 4] rfl ?_
  exact k
