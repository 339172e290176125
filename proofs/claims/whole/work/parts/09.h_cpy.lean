theorem mac_l : Cond.methodLink RX3 25 arraycopyName ∈ GW := memT (i := 79) (by decide +kernel) rfl
theorem mac_n : Cond.native arraycopyName ∈ GW := memT (i := 81) (by decide +kernel) rfl
theorem mac_s : Cond.static arraycopyName ∈ GW := memT (i := 80) (by decide +kernel) rfl
theorem mac_i : Cond.initialized "java/lang/System" ∈ GW := memT (i := 4) (by decide +kernel) rfl
section WCOPY
variable {p : Program} {l : Launch} {e : Env} {R : Room} {s : State} {m : MethodId} {args : Array Value} {below : List Frame} {meth : Method} {c : Code} {H : Heap} {locs : List Loc} {cells slots : Nat} {Q : State → Prop}
variable {cc : ByteArray} {pc : Nat} {ls : Array Slot} {rest : List Value} {D : va_G} {cl : List vw_C} {A : Nat → Prop} {a : Nat} {tys : List (ClassId × FieldType)} {ws : va_W}
/-- n ints of an old table, from its first place on, into an int array of the world, from its first place on -/
theorem w_copyT (hexec : p.tables.exec = Jvm.exec) (hb : c.code = cc) (hml : c.maxLocals = ls.size) {own : String} {index : Nat} (hown : s.vm.findClass own = some m.cls) (hlink : (Cond.methodLink own index arraycopyName).before args s = true) (hnat : (Cond.native arraycopyName).before args s = true) (hstat : (Cond.static arraycopyName).before args s = true) (hini : (Cond.initialized "java/lang/System").before args s = true)
    (hK : va_K D cl tys s) (hP : va_P D cl ws H) (hD : va_D A ws) (hS : va_S A s.heap H locs) {b0 n0 : Nat} {f : Nat → Int32} (hX : va_T .int b0 n0 (fun j => .int (f j)) A s s.heap) (q1 t1 : Nat) {c1 : ClassId} {n1 : Nat} {g : Nat → Int32} (ha1 : ws[q1]? = some (a, .inl (c1, n1, .inl g))) (ht1 : tys[t1]? = some (c1, .int))
    {k : Nat} (hk : k < 2 ^ 31) (h4 : k ≤ n0) (h5 : k ≤ n1) (hframes : 1 ≤ R.frames) (hlocals : (rest.map fun v => v.category).sum + (nativeFrameWords "java/lang/System" "arraycopy" 5 + 11) ≤ R.locals) (hdg : decode cc pc = .ok (.invokestatic index, 3))
    (kk : ∀ (H1 : Heap) (locs1 : List Loc), va_P D cl (ws.set q1 (a, .inl (c1, n1, .inl (va_cpy f g 0 0 k)))) H1 → va_D A (ws.set q1 (a, .inl (c1, n1, .inl (va_cpy f g 0 0 k)))) → va_S A s.heap H1 locs1 → W p l e R s m args below meth c H1 locs1 cells slots Q (F0 m (pc + 3) ls rest)) : W p l e R s m args below meth c H locs cells slots Q (F0 m pc ls (.int (nI k) :: .int 0 :: .ref a :: .int 0 :: .ref b0 :: rest)) := by
  have z0 : (0 : Int32).toNatClampNeg = 0 := rfl
  have zk : (nI k).toNatClampNeg = k := nI_clamp hk
  have ik : (nI k).toInt = (k : Int) := nI_toInt hk
  intro T hT X
  obtain ⟨scr, hs1, hs2, hs3, hs4, -, hs5, hs7⟩ := hX
  have hc0 : H[b0]? = some scr := by rw [hS.2.1 b0 (Array.getElem?_eq_some_iff.mp hs1).1 hs7]; exact hs1
  have hc1 : H[a]? = some (vp_cell c1 (n1, .inl g)) := hP q1 _ ha1
  obtain ⟨hs6, k0, hk0, cm0, hkk0⟩ := hs2
  obtain ⟨-, k1, hk1, cm1, hkk1⟩ := (hK.2 t1 _ ht1).1 n1 (fun j => .int (g j))
  obtain ⟨vm', X', step⟩ := X.arraycopy hexec hown hlink hnat hstat hini (src := b0) (dst := a) (cs := scr) (cd := vp_cell c1 (n1, .inl g)) (srcPos := 0) (destPos := 0) (n := nI k) (by rw [hT]; exact hc0) (by rw [hT]; exact hc1)
    hs6 (fun _ h => by cases h) hs3 (fun h => by cases h) hk0 hk1 hkk0 hkk1 (by simp [refKind]) (by decide) (by decide) (nI_pos hk)
    (by rw [ik]; show ¬ (0 : Int) + _ > _; omega)
    (by rw [ik]; show ¬ (0 : Int) + _ > ((arrV c1 n1 (fun j => .int (g j))).slots.size : Int); rw [arrV_size]; omega)
    (fun vm₁ _ i hi => by
      rw [zk] at hi
      have e : scr.slots.getD ((0 : Int32).toNatClampNeg + i) .null = .int (f i) := by
        rw [z0, Nat.zero_add, Array.getD_eq_getD_getElem?, hs5 _ (by omega)]
        rfl
      refine ⟨?_, ?_⟩
      · rw [e]; rfl
      · rw [e]; exact trivial)
    (g := F0 m pc ls (.int (nI k) :: .int 0 :: .ref a :: .int 0 :: .ref b0 :: rest)) rfl (by rw [hml]) (rest := rest) rfl (by rw [hb]; exact hdg) hframes (by show 2 * 0 + _ + _ ≤ _; omega)
  have e1 : copied scr (vp_cell c1 (n1, .inl g)) 0 0 (nI k) = vp_cell c1 (n1, .inl (va_cpy f g 0 0 k)) := by
    have h : copied scr (vp_cell c1 (n1, .inl g)) 0 0 (nI k) = vp_cell c1 (n1, .inl (va_cpy f g (0 : Int32).toNatClampNeg (0 : Int32).toNatClampNeg (nI k).toNatClampNeg)) := va_copiedX (fun z => .int z) scr c1 f g hs5 (by rw [z0, zk]; omega)
    rw [z0, zk] at h
    exact h
  rw [e1] at X' step
  have hl : a < H.size := (Array.getElem?_eq_some_iff.mp hc1).1
  have oq : ∀ q : Nat, q ≠ a → (H.setIfInBounds a (vp_cell c1 (n1, .inl (va_cpy f g 0 0 k))))[q]? = H[q]? := fun q hq => by simp [Array.getElem?_setIfInBounds, Ne.symm hq]
  obtain ⟨t, a1, b1⟩ := kk (H.setIfInBounds a (vp_cell c1 (n1, .inl (va_cpy f g 0 0 k)))) _ (hP.set hD ha1 (show (H.setIfInBounds a _)[a]? = some _ by simp [Array.getElem?_setIfInBounds, hl]) oq) (hD.set ha1) ⟨by simp; exact hS.1, fun q g1 g2 => by
      rw [oq q (fun e => g2 (by rw [e]; exact hD.2 q1 _ ha1))]
      exact hS.2.1 q g1 g2, fun q hq => by
      rcases List.mem_append.mp hq with h | h
      · exact hS.2.2 q h
      · obtain ⟨z, -, hz⟩ := List.mem_map.mp h
        rw [← hz]
        exact hD.2 q1 _ ha1⟩ _ (by rw [← hT]; rfl) X'
  exact ⟨t, step t a1, b1⟩
end WCOPY
theorem mf_sta_USUAL : Cond.fieldLink RX3 22 "SongHour$Rulebook" "USUAL" "[I" ∈ GW := memT (i := 77) (by decide +kernel) rfl
theorem nfw : nativeFrameWords "java/lang/System" "arraycopy" 5 + 11 ≤ 80 := by decide +kernel
theorem cpy_next_now {K : Kx} {cc : ByteArray} {g : Gm} {nL d : Nat} {ret : Option FieldType} {Q : State → Prop} {pc : Nat} {lv : List (Nat × Value)} {st : List Value} {σ : St} (hC : Ok K cc RX3 g nL d ret) {ρ : Type} {o : ρ} {f : St → Option ρ} (hd0 : 1 ≤ d) (hcat : (st.map fun v => v.category).sum ≤ 8) (hd : decode cc pc = .ok (.invokestatic 25, 3)) (h : bnd (sg σ 1 (va_cpy (ga σ 2) (ga σ 1) 0 0 5)) f = some o) (k : ∀ σ2, f σ2 = some o → J K (wX g) nL Q (pc + 3) lv st σ2) : J K (wX g) nL Q pc lv (.int 5 :: .int 0 :: .ref (g.1 5) :: .int 0 :: .ref (g.1 6) :: st) σ := by
  obtain ⟨p, l, e, R, s, m, args, below, meth, c, D, A, ce, sl⟩ := K
  obtain ⟨hx, hb, hml, hown, hts, hK, hA, hSF, ⟨hR1, hR2, hR3, hR4⟩, hr, hlk⟩ := hC
  have hn := nfw
  exact fun H locs ls hl hP hD hS => va_copyi hx hb (by rw [hml]; exact hl.1.symm) hown (hts _ mac_l) (hts _ mac_n) (hts _ mac_s) (hts _ mac_i) hK hP hD hS 6 5 0 0 (ty := .int) rfl rfl rfl rfl rfl (by decide) (by decide) (by decide) (by decide) (by decide) (fun i _ => rfl) (Nat.le_trans hd0 hR1) (by omega) hd (fun H locs hP hD hS => k _ h H locs ls hl hP hD hS)
theorem cpy_tab_next {K : Kx} {cc : ByteArray} {g : Gm} {nL d : Nat} {ret : Option FieldType} {Q : State → Prop} {pc : Nat} {lv : List (Nat × Value)} {st : List Value} {σ : St} (hC : Ok K cc RX3 g nL d ret) {t : Nat} {ρ : Type} {o : ρ} {f : St → Option ρ} (hT : va_T .int t 5 (fun j => .int (tb_USUAL j)) (oldA (s0G g)) (s0G g) (s0G g).heap) (hd0 : 1 ≤ d) (hcat : (st.map fun v => v.category).sum ≤ 8) (hd : decode cc pc = .ok (.invokestatic 25, 3)) (h : bnd (sg σ 2 (va_cpy tb_USUAL (ga σ 2) 0 0 5)) f = some o) (k : ∀ σ2, f σ2 = some o → J K (wX g) nL Q (pc + 3) lv st σ2) : J K (wX g) nL Q pc lv (.int 5 :: .int 0 :: .ref (g.1 6) :: .int 0 :: .ref t :: st) σ := by
  obtain ⟨p, l, e, R, s, m, args, below, meth, c, D, A, ce, sl⟩ := K
  obtain ⟨hx, hb, hml, hown, hts, hK, hA, hSF, ⟨hR1, hR2, hR3, hR4⟩, hr, hlk⟩ := hC
  have hn := nfw
  exact fun H locs ls hl hP hD hS => w_copyT (k := 5) hx hb (by rw [hml]; exact hl.1.symm) hown (hts _ mac_l) (hts _ mac_n) (hts _ mac_s) (hts _ mac_i) hK hP hD hS (hSF.T hT) 6 0 rfl rfl (by decide) (by decide) (by decide) (Nat.le_trans hd0 hR1) (by omega) hd (fun H locs hP hD hS => k _ h H locs ls hl hP hD hS)
theorem isw_X3_79 {K : Kx} {cc : ByteArray} {g : Gm} {nL d : Nat} {ret : Option FieldType} {Q : State → Prop} {pc : Nat} {lv : List (Nat × Value)} {st : List Value} {σ : St} (hC : Ok K cc RX3 g nL d ret) {σ2 : St} {d2 : Nat} {r : Int32} (hM : ∀ (l : Launch) (D : va_G), MI l yX5_isWord cX5_isWord 3 (some .boolean) d2 D g (wX g) [.ref (g.1 2), .ref ((adS (s0G g)).1 0)] σ (r, σ2)) (hdd : d2 < d) (hcat : (st.map fun v => v.category).sum ≤ 8) (hd : decode cc pc = .ok (.ldc 79, 2)) (hd1 : decode cc (pc + 2) = .ok (.invokevirtual 81, 3)) (k : J K (wX g) nL Q (pc + 2 + 3) lv (.int r :: st) σ2) : J K (wX g) nL Q pc lv (.ref (g.1 2) :: st) σ :=
  j_ldcS (i := 0) hC (by decide) hd rfl (j_callVi (As := [.ref ((adS (s0G g)).1 0)]) (q0 := 2) (ci := 5) hC hM hdd (by decide) ml_X3_81 mi_X5_isWord ms_X5_isWord min_X5 mcd_X5_isWord rfl mds_X5_isWord rfl rfl hcat rfl hd1 k)
theorem isw_X3_85 {K : Kx} {cc : ByteArray} {g : Gm} {nL d : Nat} {ret : Option FieldType} {Q : State → Prop} {pc : Nat} {lv : List (Nat × Value)} {st : List Value} {σ : St} (hC : Ok K cc RX3 g nL d ret) {σ2 : St} {d2 : Nat} {r : Int32} (hM : ∀ (l : Launch) (D : va_G), MI l yX5_isWord cX5_isWord 3 (some .boolean) d2 D g (wX g) [.ref (g.1 2), .ref ((adS (s0G g)).1 1)] σ (r, σ2)) (hdd : d2 < d) (hcat : (st.map fun v => v.category).sum ≤ 8) (hd : decode cc pc = .ok (.ldc 85, 2)) (hd1 : decode cc (pc + 2) = .ok (.invokevirtual 81, 3)) (k : J K (wX g) nL Q (pc + 2 + 3) lv (.int r :: st) σ2) : J K (wX g) nL Q pc lv (.ref (g.1 2) :: st) σ :=
  j_ldcS (i := 1) hC (by decide) hd rfl (j_callVi (As := [.ref ((adS (s0G g)).1 1)]) (q0 := 2) (ci := 5) hC hM hdd (by decide) ml_X3_81 mi_X5_isWord ms_X5_isWord min_X5 mcd_X5_isWord rfl mds_X5_isWord rfl rfl hcat rfl hd1 k)
theorem isw_X3_87 {K : Kx} {cc : ByteArray} {g : Gm} {nL d : Nat} {ret : Option FieldType} {Q : State → Prop} {pc : Nat} {lv : List (Nat × Value)} {st : List Value} {σ : St} (hC : Ok K cc RX3 g nL d ret) {σ2 : St} {d2 : Nat} {r : Int32} (hM : ∀ (l : Launch) (D : va_G), MI l yX5_isWord cX5_isWord 3 (some .boolean) d2 D g (wX g) [.ref (g.1 2), .ref ((adS (s0G g)).1 2)] σ (r, σ2)) (hdd : d2 < d) (hcat : (st.map fun v => v.category).sum ≤ 8) (hd : decode cc pc = .ok (.ldc 87, 2)) (hd1 : decode cc (pc + 2) = .ok (.invokevirtual 81, 3)) (k : J K (wX g) nL Q (pc + 2 + 3) lv (.int r :: st) σ2) : J K (wX g) nL Q pc lv (.ref (g.1 2) :: st) σ :=
  j_ldcS (i := 2) hC (by decide) hd rfl (j_callVi (As := [.ref ((adS (s0G g)).1 2)]) (q0 := 2) (ci := 5) hC hM hdd (by decide) ml_X3_81 mi_X5_isWord ms_X5_isWord min_X5 mcd_X5_isWord rfl mds_X5_isWord rfl rfl hcat rfl hd1 k)
theorem isw_X3_89 {K : Kx} {cc : ByteArray} {g : Gm} {nL d : Nat} {ret : Option FieldType} {Q : State → Prop} {pc : Nat} {lv : List (Nat × Value)} {st : List Value} {σ : St} (hC : Ok K cc RX3 g nL d ret) {σ2 : St} {d2 : Nat} {r : Int32} (hM : ∀ (l : Launch) (D : va_G), MI l yX5_isWord cX5_isWord 3 (some .boolean) d2 D g (wX g) [.ref (g.1 2), .ref ((adS (s0G g)).1 3)] σ (r, σ2)) (hdd : d2 < d) (hcat : (st.map fun v => v.category).sum ≤ 8) (hd : decode cc pc = .ok (.ldc 89, 2)) (hd1 : decode cc (pc + 2) = .ok (.invokevirtual 81, 3)) (k : J K (wX g) nL Q (pc + 2 + 3) lv (.int r :: st) σ2) : J K (wX g) nL Q pc lv (.ref (g.1 2) :: st) σ :=
  j_ldcS (i := 3) hC (by decide) hd rfl (j_callVi (As := [.ref ((adS (s0G g)).1 3)]) (q0 := 2) (ci := 5) hC hM hdd (by decide) ml_X3_81 mi_X5_isWord ms_X5_isWord min_X5 mcd_X5_isWord rfl mds_X5_isWord rfl rfl hcat rfl hd1 k)
theorem isw_X3_91 {K : Kx} {cc : ByteArray} {g : Gm} {nL d : Nat} {ret : Option FieldType} {Q : State → Prop} {pc : Nat} {lv : List (Nat × Value)} {st : List Value} {σ : St} (hC : Ok K cc RX3 g nL d ret) {σ2 : St} {d2 : Nat} {r : Int32} (hM : ∀ (l : Launch) (D : va_G), MI l yX5_isWord cX5_isWord 3 (some .boolean) d2 D g (wX g) [.ref (g.1 2), .ref ((adS (s0G g)).1 4)] σ (r, σ2)) (hdd : d2 < d) (hcat : (st.map fun v => v.category).sum ≤ 8) (hd : decode cc pc = .ok (.ldc 91, 2)) (hd1 : decode cc (pc + 2) = .ok (.invokevirtual 81, 3)) (k : J K (wX g) nL Q (pc + 2 + 3) lv (.int r :: st) σ2) : J K (wX g) nL Q pc lv (.ref (g.1 2) :: st) σ :=
  j_ldcS (i := 4) hC (by decide) hd rfl (j_callVi (As := [.ref ((adS (s0G g)).1 4)]) (q0 := 2) (ci := 5) hC hM hdd (by decide) ml_X3_81 mi_X5_isWord ms_X5_isWord min_X5 mcd_X5_isWord rfl mds_X5_isWord rfl rfl hcat rfl hd1 k)
theorem isw_X0_52 {K : Kx} {cc : ByteArray} {g : Gm} {nL d : Nat} {ret : Option FieldType} {Q : State → Prop} {pc : Nat} {lv : List (Nat × Value)} {st : List Value} {σ : St} (hC : Ok K cc RX0 g nL d ret) {σ2 : St} {d2 : Nat} {r : Int32} (hM : ∀ (l : Launch) (D : va_G), MI l yX5_isWord cX5_isWord 3 (some .boolean) d2 D g (wX g) [.ref (g.1 2), .ref ((adS (s0G g)).1 6)] σ (r, σ2)) (hdd : d2 < d) (hcat : (st.map fun v => v.category).sum ≤ 8) (hd : decode cc pc = .ok (.ldc 52, 2)) (hd1 : decode cc (pc + 2) = .ok (.invokevirtual 54, 3)) (k : J K (wX g) nL Q (pc + 2 + 3) lv (.int r :: st) σ2) : J K (wX g) nL Q pc lv (.ref (g.1 2) :: st) σ :=
  j_ldcS (i := 6) hC (by decide) hd rfl (j_callVi (As := [.ref ((adS (s0G g)).1 6)]) (q0 := 2) (ci := 5) hC hM hdd (by decide) ml_X0_54 mi_X5_isWord ms_X5_isWord min_X5 mcd_X5_isWord rfl mds_X5_isWord rfl rfl hcat rfl hd1 k)
theorem isw_X0_58 {K : Kx} {cc : ByteArray} {g : Gm} {nL d : Nat} {ret : Option FieldType} {Q : State → Prop} {pc : Nat} {lv : List (Nat × Value)} {st : List Value} {σ : St} (hC : Ok K cc RX0 g nL d ret) {σ2 : St} {d2 : Nat} {r : Int32} (hM : ∀ (l : Launch) (D : va_G), MI l yX5_isWord cX5_isWord 3 (some .boolean) d2 D g (wX g) [.ref (g.1 2), .ref ((adS (s0G g)).1 7)] σ (r, σ2)) (hdd : d2 < d) (hcat : (st.map fun v => v.category).sum ≤ 8) (hd : decode cc pc = .ok (.ldc 58, 2)) (hd1 : decode cc (pc + 2) = .ok (.invokevirtual 54, 3)) (k : J K (wX g) nL Q (pc + 2 + 3) lv (.int r :: st) σ2) : J K (wX g) nL Q pc lv (.ref (g.1 2) :: st) σ :=
  j_ldcS (i := 7) hC (by decide) hd rfl (j_callVi (As := [.ref ((adS (s0G g)).1 7)]) (q0 := 2) (ci := 5) hC hM hdd (by decide) ml_X0_54 mi_X5_isWord ms_X5_isWord min_X5 mcd_X5_isWord rfl mds_X5_isWord rfl rfl hcat rfl hd1 k)
theorem isw_X0_82 {K : Kx} {cc : ByteArray} {g : Gm} {nL d : Nat} {ret : Option FieldType} {Q : State → Prop} {pc : Nat} {lv : List (Nat × Value)} {st : List Value} {σ : St} (hC : Ok K cc RX0 g nL d ret) {σ2 : St} {d2 : Nat} {r : Int32} (hM : ∀ (l : Launch) (D : va_G), MI l yX5_isWord cX5_isWord 3 (some .boolean) d2 D g (wX g) [.ref (g.1 2), .ref ((adS (s0G g)).1 8)] σ (r, σ2)) (hdd : d2 < d) (hcat : (st.map fun v => v.category).sum ≤ 8) (hd : decode cc pc = .ok (.ldc 82, 2)) (hd1 : decode cc (pc + 2) = .ok (.invokevirtual 54, 3)) (k : J K (wX g) nL Q (pc + 2 + 3) lv (.int r :: st) σ2) : J K (wX g) nL Q pc lv (.ref (g.1 2) :: st) σ :=
  j_ldcS (i := 8) hC (by decide) hd rfl (j_callVi (As := [.ref ((adS (s0G g)).1 8)]) (q0 := 2) (ci := 5) hC hM hdd (by decide) ml_X0_54 mi_X5_isWord ms_X5_isWord min_X5 mcd_X5_isWord rfl mds_X5_isWord rfl rfl hcat rfl hd1 k)
theorem isw_X0_83 {K : Kx} {cc : ByteArray} {g : Gm} {nL d : Nat} {ret : Option FieldType} {Q : State → Prop} {pc : Nat} {lv : List (Nat × Value)} {st : List Value} {σ : St} (hC : Ok K cc RX0 g nL d ret) {σ2 : St} {d2 : Nat} {r : Int32} (hM : ∀ (l : Launch) (D : va_G), MI l yX5_isWord cX5_isWord 3 (some .boolean) d2 D g (wX g) [.ref (g.1 2), .ref ((adS (s0G g)).1 9)] σ (r, σ2)) (hdd : d2 < d) (hcat : (st.map fun v => v.category).sum ≤ 8) (hd : decode cc pc = .ok (.ldc 83, 2)) (hd1 : decode cc (pc + 2) = .ok (.invokevirtual 54, 3)) (k : J K (wX g) nL Q (pc + 2 + 3) lv (.int r :: st) σ2) : J K (wX g) nL Q pc lv (.ref (g.1 2) :: st) σ :=
  j_ldcS (i := 9) hC (by decide) hd rfl (j_callVi (As := [.ref ((adS (s0G g)).1 9)]) (q0 := 2) (ci := 5) hC hM hdd (by decide) ml_X0_54 mi_X5_isWord ms_X5_isWord min_X5 mcd_X5_isWord rfl mds_X5_isWord rfl rfl hcat rfl hd1 k)
