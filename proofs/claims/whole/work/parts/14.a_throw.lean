def LtX (K : Kx) : Prop := match K with
  | (p, l, e, R, s, m, args, below, meth, c, D, A, ce, sl) => l.stackTraces = false ∧ (∀ x ∈ c.exceptionTable.toList, False) ∧ 1 ≤ R.cells ∧ 6 ≤ R.slots ∧ ce = 0 ∧ sl = 0
def QX (K : Kx) (g : Gm) (ws : St → va_W) (E : String) (o : St) : State → Prop := match K with
  | (p, l, e, R, s, m, args, below, meth, c, D, A, ce, sl) => vx_MQ below (va_Qi (fun (_ : Int32) (_ : St) => False) (Bw g ws D A) A) (vx_X (fun u : St => u = o) (fun E2 u t => E2 = E ∧ Bw g ws D A u t) A) args s 1 6 A
def MX (l : Launch) (y : MethodName) (cc : ByteArray) (nL : Nat) (ret : Option FieldType) (d : Nat) (D : va_G) (g : Gm) (ws : St → va_W) (av : List Value) (σ : St) (E : String) (o : St) : Prop := ∀ sz : Nat, vx_Met l y (Cond.code y cc nL ret :: GW) { frames := d, cells := 1, slots := 6, locals := 100 * d } (va_Pc av (PreW g ws D sz σ)) (va_Qi (fun (_ : Int32) (_ : St) => False) (Bw g ws D (va_A (ws σ) sz)) (va_A (ws σ) sz)) (vx_X (fun u : St => u = o) (fun E2 u t => E2 = E ∧ Bw g ws D (va_A (ws σ) sz) u t) (va_A (ws σ) sz)) 1 6 (va_A (ws σ) sz)
theorem met_X {l : Launch} {y : MethodName} {cc : ByteArray} {nL : Nat} {ret : Option FieldType} {d : Nat} {D : va_G} {g : Gm} {ws : St → va_W} {av : List Value} {σ : St} {E : String} {o : St} {own : String} (hl : l.stackTraces = false) (hy : plainName y.cls = true) (ho : y.cls = own) (hn : (lg_sl av).length ≤ nL)
    (body : ∀ K : Kx, Ok K cc own g nL d ret → LtX K → J K ws nL (QX K g ws E o) 0 (lv_args 0 av) [] σ) : MX l y cc nL ret d D g ws av σ E o := by
  intro sz
  refine vx_ofW (cc := cc) (maxL := nL) (ret := ret) hy rfl ?_
  intro p e s m args below meth c s₁ B hml hnt hv
  obtain ⟨rfl, hsz, hP, hK, hD0, hSF⟩ := hv
  have hts := atoms_spec (ws := Cond.code y cc nL ret :: GW) B.pre
  have hown : s.vm.findClass own = some m.cls := by rw [← ho]; exact findClass_of_methodNamed B.named
  subst hsz
  have hD := hD0.self (sz := s.heap.size)
  rw [lg_entry_eq]
  have hb := body (p, l, e, { frames := d, cells := 1, slots := 6, locals := 100 * d }, s, m, av.toArray, below, meth, c, D, va_A (ws σ) s.heap.size, 0, 0) ⟨B.exec, B.bytes, hml, hown, fun w hw => hts w (List.mem_cons_of_mem _ hw), hK, fun q h => Or.inr h, hSF, ⟨Nat.le_refl _, Nat.le_refl _, Nat.zero_le _, Nat.zero_le _⟩, B.returns, B.notSynchronized⟩ ⟨hl, hnt, Nat.le_refl _, Nat.le_refl _, rfl, rfl⟩
  exact hb s.heap [] _ (lv_entry av hn) hP hD va_S.rf
theorem SF.vZq {g : Gm} {A : Nat → Prop} {s : State} (h : SF g A s) {C n d : String} (hZ : vx_Zq C n d (oldA (s0G g)) (s0G g) (s0G g).heap) : vx_Zq C n d A s s.heap := ((hZ.moved h.2.1.alike).kept (fun a ha _ => (h.2.2 a ha).2)).narrow h.sub
theorem thr_U {s0 : State} (hB : BaseS s0) : vx_Zq Bundle.tN "UNASSIGNED_STACK" Bundle.steD (oldA s0) s0 s0.heap := by
  obtain ⟨args0, hg, hw⟩ := hB
  have hs := flat_of_before _ hg
  exact vx_Zqof (hw (.laysStatic Bundle.tN "UNASSIGNED_STACK" Bundle.steD) (by decide +kernel)) (hw (.initialized Bundle.tN) (by decide +kernel)) (hs _ (by decide +kernel)) (old_not s0)
theorem thr_N {s0 : State} (hB : BaseS s0) : vx_Zq Bundle.tN "SUPPRESSED_SENTINEL" Bundle.listD (oldA s0) s0 s0.heap := by
  obtain ⟨args0, hg, hw⟩ := hB
  have hs := flat_of_before _ hg
  exact vx_Zqof (hw (.laysStatic Bundle.tN "SUPPRESSED_SENTINEL" Bundle.listD) (by decide +kernel)) (hw (.initialized Bundle.tN) (by decide +kernel)) (hs _ (by decide +kernel)) (old_not s0)
def thrDec : List Cond := [.declares ⟨"java/lang/RuntimeException", "<init>", "(Ljava/lang/String;)V"⟩, .declares ⟨"java/lang/Exception", "<init>", "(Ljava/lang/String;)V"⟩, .declares ⟨"java/lang/Throwable", "<init>", "(Ljava/lang/String;)V"⟩]
theorem thrDec_on : ∀ w ∈ thrDec, w.onTables = true := by decide
theorem thrDec_in : ∀ w ∈ thrDec, w ∈ lw_tbl := by decide +kernel
theorem thrDec_warm {s U : State} (hW : s.WarmedH U.vm) : ∀ w ∈ thrDec, va_Nw w s → va_Nw w U := by
  intro w hw h
  have hd : ∃ y, w = .declares y := by
    simp only [thrDec, List.mem_cons, List.not_mem_nil, or_false] at hw
    rcases hw with rfl | rfl | rfl <;> exact ⟨_, rfl⟩
  obtain ⟨y, rfl⟩ := hd
  exact va_Nw.warmD hW h
abbrev thrNames : List String := ["java/lang/RuntimeException", "java/lang/Exception"]
theorem j_throw {K : Kx} {cc : ByteArray} {g : Gm} {nL d : Nat} {ret : Option FieldType} {ws : St → va_W} {pc : Nat} {lv : List (Nat × Value)} {st : List Value} {σ : St} {o : Int32 × St} (hC : Ok K cc RX6 g nL d ret) (hT : LtX K) {E : String} {ik ic i ix : Nat} {rx : ByteArray} (hi : i < 12) (ho : strOwn.getD i "" = RX6) (hfit : Bundle.fit E = true) (hk : Cond.classLink RX6 ik E ∈ GW) (hini : Cond.initialized E ∈ GW) (a1 : ∀ w ∈ ((tx_ws RX6 ic E ix rx thrNames).filter vx_no).filter goodWord, w ∈ GW) (a2 : ∀ w ∈ ((tx_ws RX6 ic E ix rx thrNames).filter vx_no).filter (fun w => !goodWord w), w ∈ Cond.castable E E :: thrDec) (a3 : Cond.castable E E ∈ lw_tbl) (x0 : decode rx 0 = .ok (.aload_n 0, 1)) (x1 : decode rx 1 = .ok (.aload_n 1, 1)) (x2 : decode rx 2 = .ok (.invokespecial ix, 3)) (x5 : decode rx 5 = .ok (.return_, 1)) (hgood : ∀ w ∈ Cond.classLink RX6 ik E :: Cond.initialized E :: (tx_ws RX6 ic E ix rx thrNames).filter vx_no, vx_ot w = true) (hd6 : 6 ≤ d) (hcat : (st.map fun v => v.category).sum ≤ 8)
    (d0 : decode cc pc = .ok (.new ik, 3)) (d3 : decode cc (pc + 3) = .ok (.dup, 1)) (d4 : decode cc (pc + 4) = .ok (.ldc (strIx.getD i 0), 2)) (d6 : decode cc (pc + 6) = .ok (.invokespecial ic, 3)) (d9 : decode cc (pc + 9) = .ok (.athrow, 1)) (h : some ((0 : Int32), σ) = some o) : J K ws nL (QX K g ws E o.2) pc lv st σ := by
  obtain ⟨p, l, e, R, s, m, args, below, meth, c, D, A, ce, sl⟩ := K
  obtain ⟨hx, hb, hml, hown, hts, hK, hA, hSF, ⟨hR1, hR2, hR3, hR4⟩, hr, hlk⟩ := hC
  obtain ⟨hl, hnt, hc1, hs6, rfl, rfl⟩ := hT
  cases h
  intro H locs ls hl2 hP hD hS
  obtain ⟨⟨args0, -, hB⟩, hvm0, -⟩ := id hSF
  have hcast : (Cond.castable E E).before args s = true := va_Nw.use rfl (va_Nw.warmC hvm0 (va_Nw.of rfl (hB _ a3)))
  have hat : ∀ w ∈ (tx_ws RX6 ic E ix rx thrNames).filter vx_no, w.before args s = true := vx_hat (B := Cond.castable E E :: thrDec) (fun w hw => hts w (a1 w hw)) a2 (vx_c hcast (fun w hw => va_Nw.use (thrDec_on w hw) (thrDec_warm hvm0 w hw (va_Nw.of (thrDec_on w hw) (hB _ (thrDec_in w hw))))))
  have hstr := hSF.strR hi
  rw [ho] at hstr
  refine tx_throw (A := A) x0 x1 x2 x5 hx hb hl hown hfit (by decide) (hts _ hk) (hts _ hini) hstr hat hgood (hSF.vZq (thr_U hSF.1)) (hSF.vZq (thr_N hSF.1)) hS (by rw [hml]; exact hl2.1) d0 d3 d4 d6 d9 (fun x hx => (hnt x hx).elim) (by show 2 + 3 < R.frames; omega) (by show _ + (13 * (2 + 1) + 43) ≤ R.locals; omega) (by omega) (by omega) hlk ?_ hS.2.2 (by omega) (by omega)
  intro t hvm hz hk2
  refine ⟨σ, rfl, ⟨rfl, hP.kept (fun k q hq => hk2 q.1 (hP k q hq).lt), va_K.moved hvm hK, hD⟩, Nat.le_trans hS.1 hz, fun q h1 h2 => ?_⟩
  rw [hk2 q (Nat.lt_of_lt_of_le h1 hS.1)]
  exact hS.2.1 q h1 h2
theorem thr_5 {K : Kx} {cc : ByteArray} {g : Gm} {nL d : Nat} {ret : Option FieldType} {ws : St → va_W} {pc : Nat} {lv : List (Nat × Value)} {st : List Value} {σ : St} {o : Int32 × St} (hC : Ok K cc RX6 g nL d ret) (hT : LtX K) (hd6 : 6 ≤ d) (hcat : (st.map fun v => v.category).sum ≤ 8) (d0 : decode cc pc = .ok (.new 81, 3)) (d3 : decode cc (pc + 3) = .ok (.dup, 1)) (d4 : decode cc (pc + 4) = .ok (.ldc 83, 2)) (d6 : decode cc (pc + 6) = .ok (.invokespecial 85, 3)) (d9 : decode cc (pc + 9) = .ok (.athrow, 1)) (h : some ((0 : Int32), σ) = some o) : J K ws nL (QX K g ws "java/lang/IndexOutOfBoundsException" o.2) pc lv st σ :=
  j_throw (E := "java/lang/IndexOutOfBoundsException") (ik := 81) (ic := 85) (i := 5) (ix := 7) (rx := prog_11_method_2_code) hC hT (by decide) rfl (by decide +kernel) (memT (i := 560) (by decide +kernel) rfl) (memT (i := 19) (by decide +kernel) rfl) (by decide +kernel) (by decide +kernel) (List.mem_append_right _ (List.mem_of_getElem? (i := 562) (by decide +kernel))) (by decide +kernel) (by decide +kernel) (by decide +kernel) (by decide +kernel) (by decide +kernel) hd6 hcat d0 d3 d4 d6 d9 h
theorem thr_10 {K : Kx} {cc : ByteArray} {g : Gm} {nL d : Nat} {ret : Option FieldType} {ws : St → va_W} {pc : Nat} {lv : List (Nat × Value)} {st : List Value} {σ : St} {o : Int32 × St} (hC : Ok K cc RX6 g nL d ret) (hT : LtX K) (hd6 : 6 ≤ d) (hcat : (st.map fun v => v.category).sum ≤ 8) (d0 : decode cc pc = .ok (.new 162, 3)) (d3 : decode cc (pc + 3) = .ok (.dup, 1)) (d4 : decode cc (pc + 4) = .ok (.ldc 164, 2)) (d6 : decode cc (pc + 6) = .ok (.invokespecial 166, 3)) (d9 : decode cc (pc + 9) = .ok (.athrow, 1)) (h : some ((0 : Int32), σ) = some o) : J K ws nL (QX K g ws "java/util/NoSuchElementException" o.2) pc lv st σ :=
  j_throw (E := "java/util/NoSuchElementException") (ik := 162) (ic := 166) (i := 10) (ix := 13) (rx := prog_20_method_4_code) hC hT (by decide) rfl (by decide +kernel) (memT (i := 764) (by decide +kernel) rfl) (memT (i := 20) (by decide +kernel) rfl) (by decide +kernel) (by decide +kernel) (List.mem_append_right _ (List.mem_of_getElem? (i := 766) (by decide +kernel))) (by decide +kernel) (by decide +kernel) (by decide +kernel) (by decide +kernel) (by decide +kernel) hd6 hcat d0 d3 d4 d6 d9 h
theorem thr_11 {K : Kx} {cc : ByteArray} {g : Gm} {nL d : Nat} {ret : Option FieldType} {ws : St → va_W} {pc : Nat} {lv : List (Nat × Value)} {st : List Value} {σ : St} {o : Int32 × St} (hC : Ok K cc RX6 g nL d ret) (hT : LtX K) (hd6 : 6 ≤ d) (hcat : (st.map fun v => v.category).sum ≤ 8) (d0 : decode cc pc = .ok (.new 162, 3)) (d3 : decode cc (pc + 3) = .ok (.dup, 1)) (d4 : decode cc (pc + 4) = .ok (.ldc 182, 2)) (d6 : decode cc (pc + 6) = .ok (.invokespecial 166, 3)) (d9 : decode cc (pc + 9) = .ok (.athrow, 1)) (h : some ((0 : Int32), σ) = some o) : J K ws nL (QX K g ws "java/util/NoSuchElementException" o.2) pc lv st σ :=
  j_throw (E := "java/util/NoSuchElementException") (ik := 162) (ic := 166) (i := 11) (ix := 13) (rx := prog_20_method_4_code) hC hT (by decide) rfl (by decide +kernel) (memT (i := 764) (by decide +kernel) rfl) (memT (i := 20) (by decide +kernel) rfl) (by decide +kernel) (by decide +kernel) (List.mem_append_right _ (List.mem_of_getElem? (i := 766) (by decide +kernel))) (by decide +kernel) (by decide +kernel) (by decide +kernel) (by decide +kernel) (by decide +kernel) hd6 hcat d0 d3 d4 d6 d9 h
def X6_clock_t (N : Nat) (x1 : Int32) (s0 : St) : Option (Int32 × St) :=
  cal (X6_isClock_f N x1 s0) fun v1 s1 =>
  if v1 = 0 then
  some (0, s1)
  else
  none
theorem X6_clock_thr (l : Launch) (hl : l.stackTraces = false) (D : va_G) (g : Gm) {N : Nat} {x1 : Int32} {s0 : St} {o : Int32 × St} (h : X6_clock_t N x1 s0 = some o) : MX l yX6_clock cX6_clock 3 (some .int) 8 D g (wX g) [.ref (g.1 0), .int x1] s0 "java/lang/IndexOutOfBoundsException" o.2 := by
  refine met_X (own := RX6) hl (by decide) rfl (Nat.le_of_ble_eq_true rfl) (fun K hC hT => ?_)
  show J K (wX g) 3 (QX K g (wX g) "java/lang/IndexOutOfBoundsException" o.2) 0 [(0, .ref (g.1 0)), (1, .int x1)] [] s0
  unfold X6_clock_t at h
  refine j_iload_n hC dX6_clock_0 rfl 1 rfl ?_
  obtain ⟨v1, s1, hc, h⟩ := cal_some h
  refine call_X6_77 hC (fun l D => X6_isClock_ok l D g hc) (by decide) (Nat.le_of_ble_eq_true rfl) dX6_clock_1 ?_
  refine j_if_ne (tgt := 17) hC dX6_clock_4 (by decide) h ?_ ?_
  · intro h
    cases h
  · intro h
    exact thr_5 hC hT (by decide) (Nat.le_of_ble_eq_true rfl) dX6_clock_7 dX6_clock_10 dX6_clock_11 dX6_clock_13 dX6_clock_16 h
def X6_lay_t (N : Nat) (x1 : Int32) (s0 : St) : Option (Int32 × St) :=
  cal (X6_isClock_f N x1 s0) fun v1 s1 =>
  if v1 = 0 then
  some (0, s1)
  else
  none
theorem X6_lay_thr (l : Launch) (hl : l.stackTraces = false) (D : va_G) (g : Gm) {N : Nat} {x1 : Int32} {s0 : St} {o : Int32 × St} (h : X6_lay_t N x1 s0 = some o) : MX l yX6_lay cX6_lay 6 (some .int) 8 D g (wX g) [.ref (g.1 0), .int x1] s0 "java/lang/IndexOutOfBoundsException" o.2 := by
  refine met_X (own := RX6) hl (by decide) rfl (Nat.le_of_ble_eq_true rfl) (fun K hC hT => ?_)
  show J K (wX g) 6 (QX K g (wX g) "java/lang/IndexOutOfBoundsException" o.2) 0 [(0, .ref (g.1 0)), (1, .int x1)] [] s0
  unfold X6_lay_t at h
  refine j_iload_n hC dX6_lay_0 rfl 1 rfl ?_
  obtain ⟨v1, s1, hc, h⟩ := cal_some h
  refine call_X6_77 hC (fun l D => X6_isClock_ok l D g hc) (by decide) (Nat.le_of_ble_eq_true rfl) dX6_lay_1 ?_
  refine j_if_ne (tgt := 17) hC dX6_lay_4 (by decide) h ?_ ?_
  · intro h
    cases h
  · intro h
    exact thr_5 hC hT (by decide) (Nat.le_of_ble_eq_true rfl) dX6_lay_7 dX6_lay_10 dX6_lay_11 dX6_lay_13 dX6_lay_16 h
def X6_items_t (N : Nat) (x1 : Int32) (s0 : St) : Option (Int32 × St) :=
  cal (X6_isClock_f N x1 s0) fun v1 s1 =>
  if v1 = 0 then
  some (0, s1)
  else
  none
theorem X6_items_thr (l : Launch) (hl : l.stackTraces = false) (D : va_G) (g : Gm) {N : Nat} {x1 : Int32} {s0 : St} {o : Int32 × St} (h : X6_items_t N x1 s0 = some o) : MX l yX6_items cX6_items 2 (some .int) 8 D g (wX g) [.ref (g.1 0), .int x1] s0 "java/lang/IndexOutOfBoundsException" o.2 := by
  refine met_X (own := RX6) hl (by decide) rfl (Nat.le_of_ble_eq_true rfl) (fun K hC hT => ?_)
  show J K (wX g) 2 (QX K g (wX g) "java/lang/IndexOutOfBoundsException" o.2) 0 [(0, .ref (g.1 0)), (1, .int x1)] [] s0
  unfold X6_items_t at h
  refine j_iload_n hC dX6_items_0 rfl 1 rfl ?_
  obtain ⟨v1, s1, hc, h⟩ := cal_some h
  refine call_X6_77 hC (fun l D => X6_isClock_ok l D g hc) (by decide) (Nat.le_of_ble_eq_true rfl) dX6_items_1 ?_
  refine j_if_ne (tgt := 17) hC dX6_items_4 (by decide) h ?_ ?_
  · intro h
    cases h
  · intro h
    exact thr_5 hC hT (by decide) (Nat.le_of_ble_eq_true rfl) dX6_items_7 dX6_items_10 dX6_items_11 dX6_items_13 dX6_items_16 h
def X6_play_t (N : Nat) (x1 : Int32) (x2 : Int32) (s0 : St) : Option (Int32 × St) :=
  if x1 < 0 then
  some (0, s0)
  else
  if gi s0 11 ≤ x1 then
    some (0, s0)
    else
    if x2 < 0 then
      some (0, s0)
      else
      if x2 ≤ 3 then
        none
        else
        some (0, s0)
theorem X6_play_thr (l : Launch) (hl : l.stackTraces = false) (D : va_G) (g : Gm) {N : Nat} {x1 : Int32} {x2 : Int32} {s0 : St} {o : Int32 × St} (h : X6_play_t N x1 x2 s0 = some o) : MX l yX6_play cX6_play 3 (some .int) 8 D g (wX g) [.ref (g.1 0), .int x1, .int x2] s0 "java/util/NoSuchElementException" o.2 := by
  refine met_X (own := RX6) hl (by decide) rfl (Nat.le_of_ble_eq_true rfl) (fun K hC hT => ?_)
  show J K (wX g) 3 (QX K g (wX g) "java/util/NoSuchElementException" o.2) 0 [(0, .ref (g.1 0)), (1, .int x1), (2, .int x2)] [] s0
  unfold X6_play_t at h
  refine j_iload_n hC dX6_play_0 rfl 1 rfl ?_
  refine j_if_lt (tgt := 24) hC dX6_play_1 (by decide) h ?_ ?_
  · intro h
    exact thr_10 hC hT (by decide) (Nat.le_of_ble_eq_true rfl) dX6_play_24 dX6_play_27 dX6_play_28 dX6_play_30 dX6_play_33 h
  · intro h
    refine j_iload_n hC dX6_play_4 rfl 1 rfl ?_
    refine j_aload_n hC dX6_play_5 rfl 0 rfl ?_
    refine get_X6_44 hC dX6_play_6 ?_
    refine get_X6_159 hC dX6_play_9 ?_
    refine j_icmp_ge (tgt := 24) hC dX6_play_12 (by decide) h ?_ ?_
    · intro h
      exact thr_10 hC hT (by decide) (Nat.le_of_ble_eq_true rfl) dX6_play_24 dX6_play_27 dX6_play_28 dX6_play_30 dX6_play_33 h
    · intro h
      refine j_iload_n hC dX6_play_15 rfl 2 rfl ?_
      refine j_if_lt (tgt := 24) hC dX6_play_16 (by decide) h ?_ ?_
      · intro h
        exact thr_10 hC hT (by decide) (Nat.le_of_ble_eq_true rfl) dX6_play_24 dX6_play_27 dX6_play_28 dX6_play_30 dX6_play_33 h
      · intro h
        refine j_iload_n hC dX6_play_19 rfl 2 rfl ?_
        refine j_iconst (v := 3) hC dX6_play_20 (by decide) ?_
        refine j_icmp_le (tgt := 34) hC dX6_play_21 (by decide) h ?_ ?_
        · intro h
          cases h
        · intro h
          exact thr_10 hC hT (by decide) (Nat.le_of_ble_eq_true rfl) dX6_play_24 dX6_play_27 dX6_play_28 dX6_play_30 dX6_play_33 h
def X6_left_t (N : Nat) (x1 : Int32) (x2 : Int32) (s0 : St) : Option (Int32 × St) :=
  if x1 < 0 then
  some (0, s0)
  else
  if gi s0 10 ≤ x1 then
    some (0, s0)
    else
    if x2 < 0 then
      some (0, s0)
      else
      ald s0 17 168 x1 fun v1 =>
        if x2 < v1 then
        none
        else
        some (0, s0)
theorem X6_left_thr (l : Launch) (hl : l.stackTraces = false) (D : va_G) (g : Gm) {N : Nat} {x1 : Int32} {x2 : Int32} {s0 : St} {o : Int32 × St} (h : X6_left_t N x1 x2 s0 = some o) : MX l yX6_left cX6_left 3 (some .int) 8 D g (wX g) [.ref (g.1 0), .int x1, .int x2] s0 "java/util/NoSuchElementException" o.2 := by
  refine met_X (own := RX6) hl (by decide) rfl (Nat.le_of_ble_eq_true rfl) (fun K hC hT => ?_)
  show J K (wX g) 3 (QX K g (wX g) "java/util/NoSuchElementException" o.2) 0 [(0, .ref (g.1 0)), (1, .int x1), (2, .int x2)] [] s0
  unfold X6_left_t at h
  refine j_iload_n hC dX6_left_0 rfl 1 rfl ?_
  refine j_if_lt (tgt := 32) hC dX6_left_1 (by decide) h ?_ ?_
  · intro h
    exact thr_11 hC hT (by decide) (Nat.le_of_ble_eq_true rfl) dX6_left_32 dX6_left_35 dX6_left_36 dX6_left_38 dX6_left_41 h
  · intro h
    refine j_iload_n hC dX6_left_4 rfl 1 rfl ?_
    refine j_aload_n hC dX6_left_5 rfl 0 rfl ?_
    refine get_X6_44 hC dX6_left_6 ?_
    refine get_X6_134 hC dX6_left_9 ?_
    refine j_icmp_ge (tgt := 32) hC dX6_left_12 (by decide) h ?_ ?_
    · intro h
      exact thr_11 hC hT (by decide) (Nat.le_of_ble_eq_true rfl) dX6_left_32 dX6_left_35 dX6_left_36 dX6_left_38 dX6_left_41 h
    · intro h
      refine j_iload_n hC dX6_left_15 rfl 2 rfl ?_
      refine j_if_lt (tgt := 32) hC dX6_left_16 (by decide) h ?_ ?_
      · intro h
        exact thr_11 hC hT (by decide) (Nat.le_of_ble_eq_true rfl) dX6_left_32 dX6_left_35 dX6_left_36 dX6_left_38 dX6_left_41 h
      · intro h
        refine j_iload_n hC dX6_left_19 rfl 2 rfl ?_
        refine j_aload_n hC dX6_left_20 rfl 0 rfl ?_
        refine get_X6_44 hC dX6_left_21 ?_
        refine get_X6_179 hC dX6_left_24 ?_
        refine j_iload_n hC dX6_left_27 rfl 1 rfl ?_
        refine ald_X1_hourItems hC dX6_left_28 h ?_
        intro v1 h
        refine j_icmp_lt (tgt := 42) hC dX6_left_29 (by decide) h ?_ ?_
        · intro h
          cases h
        · intro h
          exact thr_11 hC hT (by decide) (Nat.le_of_ble_eq_true rfl) dX6_left_32 dX6_left_35 dX6_left_36 dX6_left_38 dX6_left_41 h
