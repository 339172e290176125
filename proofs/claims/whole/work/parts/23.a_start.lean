theorem arr_ex {args : Array Value} {s : State} {ty : FieldType} (hpr : ty = .int ∨ ty = .byte ∨ ty = .boolean ∨ ty = .long) (h : (Cond.arrayClass ty).before args s = true) : ∃ cA : ClassId, ArrOfT s cA ty ∧ va_RA s cA ty := by
  obtain ⟨cA, kA, comp, h1, h2, h3⟩ := Cond.arrayClass_spec h
  refine ⟨cA, fun n z => ⟨fun k h => (by cases h), kA, h2, comp, h3⟩, ?_⟩
  rcases hpr with rfl | rfl | rfl | rfl <;> exact h1
theorem arr_exq {args : Array Value} {s : State} (h : (Cond.arrayOver (.object "SongHour$Clock")).before args s = true) : ∃ cA : ClassId, ArrOfT s cA (.object "SongHour$Clock") ∧ va_RA s cA (.object "SongHour$Clock") := by
  obtain ⟨comp, cA, kA, h0, -, h2, h3, h1⟩ := Cond.arrayOver_spec h
  exact ⟨cA, fun n z => ⟨fun k h => (by cases h), kA, h2, comp, h3⟩, kA, comp, h2, h3, h0, h1⟩
theorem c_newl {K : Kx} {cc : ByteArray} {own : String} {g : Gm} {nL d : Nat} {ret : Option FieldType} {Q : State → Prop} {pc : Nat} {lv : List (Nat × Value)} {st : List Value} {σ : St} {w : va_W} (hC : Ok K cc own g nL d ret) {a b mc ms : Nat} (hL : Lim K mc ms) (h1 : a + 1 ≤ mc) (h2 : b + 1 ≤ ms) (hd : decode cc pc = .ok (.newarray .long, 2)) (k : ∀ q : Nat, J (Kp K (a + 1) (b + 1)) (fun _ => w ++ wO g q (fun _ => 0)) nL Q (pc + 2) lv (.ref q :: st) σ) : J (Kp K a b) (fun _ => w) nL Q pc lv (.int 1 :: st) σ := by
  obtain ⟨p, l, e, R, s, m, args, below, meth, c, D, A, ce, sl⟩ := K
  obtain ⟨hx, hb, hml, hown, hts, hK, hA, hSF, ⟨hR1, hR2, hR3, hR4⟩, hr, hlk⟩ := hC
  obtain ⟨hL1, hL2⟩ := hL
  intro H locs ls hl hP hD hS
  refine va_newa (a0 := (1, .inr (.inl (fun _ => 0)))) (ty := .long) hx hb (show (Cond.arrayClass (newarray.typeOf .long)).before args s = true from hts _ ma_long) rfl hK hP hD hS hA (fun cA => rfl) (by decide) rfl (by decide) (by omega) (by omega) hd ?_
  intro q cA2 H1 hK2 hP hD hS
  have e : cA2 = g.2.2.2.2.2.1 := by
    have q1 : s.vm.findClass _ = some _ := (hK.2 4 _ rfl).2
    have q2 : s.vm.findClass _ = some _ := (hK2.2 (tysG g).length (cA2, .long) (by simp)).2
    exact Option.some.inj (Eq.trans (Eq.symm q2) q1)
  subst e
  rw [Nat.add_assoc sl b 1]
  exact k q H1 locs ls hl hP hD hS
theorem mlc_8 : Cond.classLink RL 8 RX6 ∈ GW := memT (i := 21) (by decide +kernel) rfl
theorem mlc_31 : Cond.classLink RL 31 RX7 ∈ GW := memT (i := 795) (by decide +kernel) rfl
theorem mln_L_30 : Cond.methodLink RL 30 yX6_init ∈ GW ∨ ∃ host, Cond.methodLinkNest RL 30 yX6_init host ∈ lw_tbl := Or.inl (memT (i := 23) (by decide +kernel) rfl)
theorem mln_L_33 : Cond.methodLink RL 33 yX7_init ∈ GW ∨ ∃ host, Cond.methodLinkNest RL 33 yX7_init host ∈ lw_tbl := Or.inl (memT (i := 797) (by decide +kernel) rfl)
theorem cbaP {D : va_G} {cl : List vw_C} {a b c : va_W} {H : Heap} (h : va_P D cl ((a ++ b) ++ c) H) : va_P D cl ((a ++ c) ++ b) H := ((pL (pL h)).app (pR h)).app (pR (pL h))
theorem cbaD {A : Nat → Prop} {a b c : va_W} (h : va_D A ((a ++ b) ++ c)) : va_D A ((a ++ c) ++ b) := by
  refine appD (appD (dL (dL h)) (dR h) ?_) (dR (dL h)) ?_
  · intro i j p q hi hj
    exact dX h (getL hi) hj
  · intro i j p q hi hj
    by_cases hl : i < a.length
    · rw [List.getElem?_append_left hl] at hi
      exact dX (dL h) hi hj
    · rw [List.getElem?_append_right (by omega)] at hi
      exact (dX h (getR hj) hi).symm
theorem j_cba {K : Kx} {nL : Nat} {Q : State → Prop} {pc : Nat} {lv : List (Nat × Value)} {st : List Value} {σ : St} {a b c : va_W} (k : J K (fun _ => (a ++ c) ++ b) nL Q pc lv st σ) : J K (fun _ => (a ++ b) ++ c) nL Q pc lv st σ := by
  obtain ⟨p, l, e, R, s, m, args, below, meth, cd, D, A, ce, sl⟩ := K
  exact fun H locs ls hl hP hD hS => k H locs ls hl (cbaP hP) (cbaD hD) hS
theorem j_assoc {K : Kx} {nL : Nat} {Q : State → Prop} {pc : Nat} {lv : List (Nat × Value)} {st : List Value} {σ : St} {w w2 : va_W} (h : w = w2) (k : J K (fun _ => w2) nL Q pc lv st σ) : J K (fun _ => w) nL Q pc lv st σ := h ▸ k
set_option maxHeartbeats 4000000 in
set_option maxRecDepth 100000 in
/-- the law from its entry to the loop -/
theorem law_begin {N : Nat} {Rel : Nat → St → St → Prop} (hSim : Sim N Rel) {K : Kx} {g : Gm} {b L : Nat} {xs : Nat → Int32} (hC0 : Ok K cL_law RL g 7 40 (some .boolean)) (hS : Scr K b L xs) (hL : L ≤ 3072) (hLm : Lim K 705 149213) (hlt : LtK K)
    (hend : ∀ (qx qm : Nat → Nat) (oa a2 b2 : Nat) (lf : Nat → Int64) (σx σm : St) (lv : List (Nat × Value)), a2 ≤ 705 → b2 ≤ 149213 → J (Kp K a2 b2) (fun _ => LW g qx qm oa lf σx σm) 7 (Qlw K) 870 lv [] ini0) : J (Kp K 0 0) (fun _ => []) 7 (Qlw K) 0 [(0, .ref b)] [] ini0 := by
  have hC := okp hC0 hLm (a := 0) (b := 0) (by decide) (by decide)
  refine c_new (a := 0) (b := 0) (ci := 6) (fs := [.null, .null, .null, .null, .null, .null, .null]) hC0 hLm (by decide) (by decide) uwX6 tyX6 tyX6_ok mlc_8 mins_X6 min_X6 rfl (fun j hj => by rcases (show j = 0 ∨ j = 1 ∨ j = 2 ∨ j = 3 ∨ j = 4 ∨ j = 5 ∨ j = 6 by omega) with rfl | rfl | rfl | rfl | rfl | rfl | rfl <;> rfl) dL_law_0 (fun x => ?_)
  have hC := okp hC0 hLm (a := 1) (b := 7) (by decide) (by decide)
  refine j_ws (ws2 := fun _ => ([] : va_W) ++ [(x, .inr (6, [.null, .null, .null, .null, .null, .null, .null]))]) (σ2 := ini0) rfl ?_
  refine j_dup hC rfl dL_law_3 ?_
  refine c_callI (st := [.ref x]) (w := []) (a := 1) (b := 7) hC0 hLm (by decide) (by decide) (fun l D => X6_init_ok l D g x) (by decide) (by decide) mln_L_30 mi_X6_init min_X6 mcd_X6_init rfl mds_X6_init (Nat.le_of_ble_eq_true rfl) dL_law_4 (fun qx0 => ?_)
  have hC := okp hC0 hLm (a := 72) (b := 3962) (by decide) (by decide)
  generalize hqx : atH x qx0 = qx
  have hx0 : x = qx 0 := by rw [← hqx]; rfl
  subst hx0
  refine j_assoc (List.nil_append _) ?_
  refine j_astore_n hC dL_law_7 rfl (by decide) rfl ?_
  refine c_new (a := 72) (b := 3962) (ci := 7) (fs := [.int 0, .null, .int 0, .int 0, .int 0, .int 0, .int 0, .int 0, .int 0, .int 0, .int 0, .int 0, .long 0, .null, .null, .null, .null, .null, .null, .null, .null, .null, .int 0, .null, .null, .null, .null, .null, .null, .null, .null, .null, .null, .int 0, .null, .null, .null, .null, .int 0, .int 0, .int 0, .int 0, .null, .null, .null, .null, .null, .null, .int 0, .int 0, .int 0, .int 0, .int 0, .null]) hC0 hLm (by decide) (by decide) uwX7 tyX7 tyX7_ok mlc_31 mins_X7 min_X7 rfl (fun j hj => by rcases (show j = 0 ∨ j = 1 ∨ j = 2 ∨ j = 3 ∨ j = 4 ∨ j = 5 ∨ j = 6 ∨ j = 7 ∨ j = 8 ∨ j = 9 ∨ j = 10 ∨ j = 11 ∨ j = 12 ∨ j = 13 ∨ j = 14 ∨ j = 15 ∨ j = 16 ∨ j = 17 ∨ j = 18 ∨ j = 19 ∨ j = 20 ∨ j = 21 ∨ j = 22 ∨ j = 23 ∨ j = 24 ∨ j = 25 ∨ j = 26 ∨ j = 27 ∨ j = 28 ∨ j = 29 ∨ j = 30 ∨ j = 31 ∨ j = 32 ∨ j = 33 ∨ j = 34 ∨ j = 35 ∨ j = 36 ∨ j = 37 ∨ j = 38 ∨ j = 39 ∨ j = 40 ∨ j = 41 ∨ j = 42 ∨ j = 43 ∨ j = 44 ∨ j = 45 ∨ j = 46 ∨ j = 47 ∨ j = 48 ∨ j = 49 ∨ j = 50 ∨ j = 51 ∨ j = 52 ∨ j = 53 by omega) with rfl | rfl | rfl | rfl | rfl | rfl | rfl | rfl | rfl | rfl | rfl | rfl | rfl | rfl | rfl | rfl | rfl | rfl | rfl | rfl | rfl | rfl | rfl | rfl | rfl | rfl | rfl | rfl | rfl | rfl | rfl | rfl | rfl | rfl | rfl | rfl | rfl | rfl | rfl | rfl | rfl | rfl | rfl | rfl | rfl | rfl | rfl | rfl | rfl | rfl | rfl | rfl | rfl | rfl <;> rfl) dL_law_8 (fun y => ?_)
  have hC := okp hC0 hLm (a := 73) (b := 4016) (by decide) (by decide)
  refine j_dup hC rfl dL_law_11 ?_
  refine c_callI (st := [.ref y]) (w := wX (qx, g.2) iniX) (a := 73) (b := 4016) hC0 hLm (by decide) (by decide) (fun l D => X7_init_ok l D g y) (by decide) (by decide) mln_L_33 mi_X7_init min_X7 mcd_X7_init rfl mds_X7_init (Nat.le_of_ble_eq_true rfl) dL_law_12 (fun qm0 => ?_)
  have hC := okp hC0 hLm (a := 104) (b := 145612) (by decide) (by decide)
  generalize hqm : atH y qm0 = qm
  have hy0 : y = qm 0 := by rw [← hqm]; rfl
  subst hy0
  refine j_astore_n hC dL_law_15 rfl (by decide) rfl ?_
  refine j_iconst (v := 1) hC dL_law_16 (by decide) ?_
  refine c_newl (a := 104) (b := 145612) hC0 hLm (by decide) (by decide) dL_law_17 (fun oa => ?_)
  have hC := okp hC0 hLm (a := 105) (b := 145613) (by decide) (by decide)
  refine j_rot ?_
  refine j_cba ?_
  refine j_astore_n hC dL_law_19 rfl (by decide) rfl ?_
  refine j_iconst (v := 0) hC dL_law_20 (by decide) ?_
  refine j_istore hC dL_law_21 (by decide) rfl ?_
  refine j_sub (lv2 := [(0, .ref b), (1, .ref (qx 0)), (2, .ref (qm 0)), (3, .ref oa), (4, .int (nI 0))]) [4, 3, 2, 1, 0] rfl ?_
  exact law_loop hSim hC0 hS hL hLm hlt (hend qx qm oa) (L + 1) 0 0 (fun _ => 0) iniX iniM rfl (by omega) (by decide) hSim.1

set_option maxHeartbeats 4000000 in
set_option maxRecDepth 100000 in
theorem start_open {N : Nat} {Rel : Nat → St → St → Prop} (hSim : Sim N Rel) {p : Program} {e : Env} {s : State} {m : MethodId} {below : List Frame} {meth : Method} {c : Code} (l : Launch) (hl : l.stackTraces = false) {b L : Nat} {xs : Nat → Int32} (hL : L ≤ 3072) (C0 : lw_At p s m meth c b L xs) : W p l e room_1 s m #[Value.ref b] below meth c s.heap [] 0 0 (lw_Z below #[Value.ref b] s) (entryFrame m ([Value.ref b] : List Value).toArray 7) := by
  obtain ⟨hx, hb, hr, hml, hown, hts, hX, hbl, hlocks, hgv⟩ := id C0
  have htg : ∀ w ∈ GW, w.before #[Value.ref b] s = true := fun w hw => hts w (List.mem_filter.mp hw).1
  obtain ⟨c0, iS0, hKn0⟩ := u_known (C := RX0) (T := TX0) (N := 7) (n := 7) htg uwX0 (htg _ mins_X0)
  obtain ⟨c1, iS1, hKn1⟩ := u_known (C := RX1) (T := TX1) (N := 10) (n := 10) htg uwX1 (htg _ mins_X1)
  obtain ⟨c2, iS2, hKn2⟩ := u_known (C := RX2) (T := TX2) (N := 20) (n := 20) htg uwX2 (htg _ mins_X2)
  obtain ⟨c3, iS3, hKn3⟩ := u_known (C := RX3) (T := TX3) (N := 4) (n := 4) htg uwX3 (htg _ mins_X3)
  obtain ⟨c4, iS4, hKn4⟩ := u_known (C := RX4) (T := TX4) (N := 14) (n := 14) htg uwX4 (htg _ mins_X4)
  obtain ⟨c5, iS5, hKn5⟩ := u_known (C := RX5) (T := TX5) (N := 9) (n := 9) htg uwX5 (htg _ mins_X5)
  obtain ⟨c6, iS6, hKn6⟩ := u_known (C := RX6) (T := TX6) (N := 7) (n := 7) htg uwX6 (htg _ mins_X6)
  obtain ⟨c7, iS7, hKn7⟩ := u_known (C := RX7) (T := TX7) (N := 54) (n := 54) htg uwX7 (htg _ mins_X7)
  obtain ⟨dC, dI, hKc⟩ : ∃ (dC : Nat → ClassId) (dI : Nat → Nat → Nat), ∀ (k : Nat) (q : vw_C), vwCl[k]? = some q → u_Kn s q.1 q.2.1 q.2.2 (dC k) (dI k) := by
    refine ⟨fun k => if k = 0 then c0 else if k = 1 then c1 else if k = 2 then c2 else if k = 3 then c3 else if k = 4 then c4 else if k = 5 then c5 else if k = 6 then c6 else c7, fun k => if k = 0 then iS0 else if k = 1 then iS1 else if k = 2 then iS2 else if k = 3 then iS3 else if k = 4 then iS4 else if k = 5 then iS5 else if k = 6 then iS6 else iS7, ?_⟩
    intro k q hq
    match k, hq with
    | 0, hq => cases hq; exact hKn0
    | 1, hq => cases hq; exact hKn1
    | 2, hq => cases hq; exact hKn2
    | 3, hq => cases hq; exact hKn3
    | 4, hq => cases hq; exact hKn4
    | 5, hq => cases hq; exact hKn5
    | 6, hq => cases hq; exact hKn6
    | 7, hq => cases hq; exact hKn7
    | k + 8, hq => simp [vwCl] at hq
  obtain ⟨cI, aI⟩ := arr_ex (Or.inl rfl) (htg _ ma_int)
  obtain ⟨cB, aB⟩ := arr_ex (Or.inr (Or.inl rfl)) (htg _ ma_byte)
  obtain ⟨cZ, aZ⟩ := arr_ex (Or.inr (Or.inr (Or.inl rfl))) (htg _ ma_boolean)
  obtain ⟨cJ, aJ⟩ := arr_ex (Or.inr (Or.inr (Or.inr rfl))) (htg _ ma_long)
  obtain ⟨cC, aC⟩ := arr_exq (hts _ mao)
  have hK : va_K (dC, dI) vwCl (tysG ((fun _ => 0), cI, cB, cZ, cC, cJ, s)) s := by
    refine ⟨hKc, ?_⟩
    intro k q hq
    match k, hq with
    | 0, hq => cases hq; exact aI
    | 1, hq => cases hq; exact aB
    | 2, hq => cases hq; exact aZ
    | 3, hq => cases hq; exact aC
    | 4, hq => cases hq; exact aJ
    | k + 5, hq => simp [tysG] at hq
  have hSF : SF ((fun _ => 0), cI, cB, cZ, cC, cJ, s) (fun q : Nat => s.heap.size ≤ q) s := ⟨⟨_, hgv, hts⟩, State.WarmedH.refl s, fun a ha => ⟨Nat.not_le.mpr ha, rfl⟩⟩
  rw [lg_entry_eq]
  have hb0 := law_begin hSim (K := (p, l, e, room_1, s, m, #[Value.ref b], below, meth, c, (dC, dI), (fun q : Nat => s.heap.size ≤ q), 0, 0)) (g := ((fun _ => 0), cI, cB, cZ, cC, cJ, s)) (b := b) (L := L) (xs := xs) ⟨hx, hb, hml, hown, htg, hK, fun _ h => h, hSF, ⟨by decide, by decide, by decide, by decide⟩, hr, hlocks⟩ ⟨hX, hbl, Nat.not_le.mpr hbl⟩ hL ⟨by decide, by decide⟩ hl ?_
  · exact hb0 s.heap [] _ (lv_entry [.ref b] (Nat.le_of_ble_eq_true rfl)) (fun k q h => by simp at h) ⟨fun i j p q h => by simp at h, fun k q h => by simp at h⟩ va_S.rf
  · intro qx qm oa a2 b2 lf σx σm lv h1 h2
    intro H locs ls hl2 hP hD hS
    refine lv_iconst (v := 1) hx hb dL_law_870 (by decide) ?_
    refine va_forget (fun q hq => hS.2.2 q hq) ?_
    refine W.widen (k := 601024) (n := 7293034) (by omega) (by omega) ?_
    exact lw_ret hx hb hr hlocks dL_law_871
