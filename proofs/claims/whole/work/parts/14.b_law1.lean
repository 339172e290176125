section ROT
variable {D : va_G} {cl : List vw_C} {a b c : va_W} {H : Heap} {A : Nat → Prop}
theorem appD (ha : va_D A a) (hb : va_D A b) (hx : ∀ (i j : Nat) (p q : Nat × va_E), a[i]? = some p → b[j]? = some q → p.1 ≠ q.1) : va_D A (a ++ b) := ha.app hb hx
theorem rotP (h : va_P D cl ((a ++ b) ++ c) H) : va_P D cl ((c ++ a) ++ b) H := ((pR h).app (pL (pL h))).app (pR (pL h))
theorem rotD (h : va_D A ((a ++ b) ++ c)) : va_D A ((c ++ a) ++ b) := by
  refine appD (appD (dR h) (dL (dL h)) ?_) (dR (dL h)) ?_
  · intro i j p q hi hj
    exact (dX h (getL hj) hi).symm
  · intro i j p q hi hj
    by_cases hl : i < c.length
    · rw [List.getElem?_append_left hl] at hi
      exact (dX h (getR hj) hi).symm
    · rw [List.getElem?_append_right (by omega)] at hi
      exact dX (dL h) hi hj
theorem sepP (h : va_P D cl ((a ++ b) ++ c) H) : va_P D cl (b ++ (a ++ c)) H := (pR (pL h)).app ((pL (pL h)).app (pR h))
theorem sepD (h : va_D A ((a ++ b) ++ c)) : va_D A (b ++ (a ++ c)) := by
  refine appD (dR (dL h)) (appD (dL (dL h)) (dR h) ?_) ?_
  · intro i j p q hi hj
    exact dX h (getL hi) hj
  · intro i j p q hi hj
    by_cases hl : j < a.length
    · rw [List.getElem?_append_left hl] at hj
      exact (dX (dL h) hj hi).symm
    · rw [List.getElem?_append_right (by omega)] at hj
      exact dX h (getR hi) hj
theorem gluP (h : va_P D cl (b ++ (a ++ c)) H) : va_P D cl ((a ++ b) ++ c) H := ((pL (pR h)).app (pL h)).app (pR (pR h))
theorem gluD (h : va_D A (b ++ (a ++ c))) : va_D A ((a ++ b) ++ c) := by
  refine appD (appD (dL (dR h)) (dL h) ?_) (dR (dR h)) ?_
  · intro i j p q hi hj
    exact (dX h hj (getL hi)).symm
  · intro i j p q hi hj
    by_cases hl : i < a.length
    · rw [List.getElem?_append_left hl] at hi
      exact dX (dR h) hi hj
    · rw [List.getElem?_append_right (by omega)] at hi
      exact dX h hi (getR hj)
end ROT
theorem j_rot {K : Kx} {nL : Nat} {Q : State → Prop} {pc : Nat} {lv : List (Nat × Value)} {st : List Value} {σ : St} {a b c : va_W} (k : J K (fun _ => (c ++ a) ++ b) nL Q pc lv st σ) : J K (fun _ => (a ++ b) ++ c) nL Q pc lv st σ := by
  obtain ⟨p, l, e, R, s, m, args, below, meth, cd, D, A, ce, sl⟩ := K
  exact fun H locs ls hl hP hD hS => k H locs ls hl (rotP hP) (rotD hD) hS
theorem j_sep {K : Kx} {nL : Nat} {Q : State → Prop} {pc : Nat} {lv : List (Nat × Value)} {st : List Value} {σ : St} {a b c : va_W} (k : J K (fun _ => b ++ (a ++ c)) nL Q pc lv st σ) : J K (fun _ => (a ++ b) ++ c) nL Q pc lv st σ := by
  obtain ⟨p, l, e, R, s, m, args, below, meth, cd, D, A, ce, sl⟩ := K
  exact fun H locs ls hl hP hD hS => k H locs ls hl (sepP hP) (sepD hD) hS
theorem j_glu {K : Kx} {nL : Nat} {Q : State → Prop} {pc : Nat} {lv : List (Nat × Value)} {st : List Value} {σ : St} {a b c : va_W} (k : J K (fun _ => (a ++ b) ++ c) nL Q pc lv st σ) : J K (fun _ => b ++ (a ++ c)) nL Q pc lv st σ := by
  obtain ⟨p, l, e, R, s, m, args, below, meth, cd, D, A, ce, sl⟩ := K
  exact fun H locs ls hl hP hD hS => k H locs ls hl (gluP hP) (gluD hD) hS
def wO (g : Gm) (oa : Nat) (lf : Nat → Int64) : va_W := [(oa, .inl (g.2.2.2.2.2.1, 1, .inr (.inl lf)))]
abbrev LW (g : Gm) (qx qm : Nat → Nat) (oa : Nat) (lf : Nat → Int64) (σx σm : St) : va_W := (wO g oa lf ++ wM (qm, g.2) σm) ++ wX (qx, g.2) σx
theorem j_fr {K : Kx} {cc : ByteArray} {own : String} {g : Gm} {nL d : Nat} {ret : Option FieldType} {Q : State → Prop} {pc : Nat} {lv : List (Nat × Value)} {st : List Value} {σd : St} (hC : Ok K cc own g nL d ret) {w : va_W} {ws : St → va_W} {q2 : Nat → Nat} {σ σ2 : St} {y : MethodName} {c2 : ByteArray} {n2 d2 ix : Nat} {ret2 : Option FieldType} {As : List Value} {r : Int32} {stk : List Value} {C : String} {b q0 ci : Nat} {fs : List Value} {Tc : u_T} {nc : Nat} (hM : ∀ (l : Launch) (D : va_G), MI l y c2 n2 ret2 d2 D (q2, g.2) ws (.ref b :: As) σ (r, σ2)) (hdd : d2 < d) (hn2 : n2 ≤ 70) (w1 : Cond.methodLink own ix y ∈ GW) (w2 : Cond.instanceMethod y ∈ GW) (w3 : Cond.selects C y y ∈ GW) (w4 : Cond.initialized C ∈ GW) (w5 : Cond.code y c2 n2 ret2 ∈ GW) (hyC : y.cls = C) (hy : y.cls ≠ "java/lang/invoke/MethodHandle" ∧ y.cls ≠ "java/lang/invoke/VarHandle" ∧ (parseMethodDescriptor y.desc).map (fun d => d.parameters.length) = some As.length) (hc : vwCl[ci]? = some (C, Tc, nc)) (he : (ws σ)[q0]? = some (b, .inr (ci, fs))) (hcat : (st.map fun v => v.category).sum ≤ 8) (hst : stk = As.reverse ++ .ref b :: st) (hd : decode cc pc = .ok (.invokevirtual ix, 3)) (k : J K (fun _ => w ++ ws σ2) nL Q (pc + 3) lv (.int r :: st) σd) : J K (fun _ => w ++ ws σ) nL Q pc lv stk σd := by
  obtain ⟨p, l, e, R, s, m, args, below, meth, c, D, A, ce, sl⟩ := K
  obtain ⟨hx, hb, hml, hown, hts, hK, hA, hSF, ⟨hR1, hR2, hR3, hR4⟩, hr, hlk⟩ := hC
  subst hst
  intro H locs ls hl hP hD hS
  have hF : ∀ q : Nat, va_A (ws σ) H.size q → A q := freeW (dR hD) hS hA
  have hG : GoodIn GW (wsV own ix C y (Cond.code y c2 n2 ret2 :: GW)) := by
    intro w hw
    rcases List.mem_append.mp hw with h | h
    · rcases List.mem_cons.mp h with rfl | h
      · exact goodG1 w1
      rcases List.mem_cons.mp h with rfl | h
      · exact goodG1 w2
      rcases List.mem_cons.mp h with rfl | h
      · exact goodG1 w3
      rcases List.mem_cons.mp h with rfl | h
      · exact goodG1 w4
      · cases h
    · rcases List.mem_cons.mp h with rfl | h
      · exact goodG1 w5
      · exact goodG1 h
  refine va_calli (va_runV (As := As) (rest := st) ⟨hx, hb, hml, hown, hts⟩ (hM l D H.size) (cwV As.length hts hG rfl rfl rfl ⟨hyC, hy⟩ ⟨Nat.le_trans hdd hR1, Nat.le_trans (show 8 + (n2 + 11) + 100 * d2 ≤ 100 * d by omega) hR2⟩) ⟨preW_blind, va_recv hK (pR hP) hc he, fun U hU hW => ⟨rfl, by rw [hU], by rw [hU]; exact pR hP, va_K.moved hW.alike hK, (dR hD).weaken (fun _ _ _ _ => trivial), hSF.next hA hS hF hU hW⟩⟩ rfl rfl hl.1 rfl (lv_room hcat) hd ⟨hR3, hR4⟩) hS (fun q _ h => hF q h) hF ?_
  · intro r9 u t H1 locs1 ht hvm hw hB hz1 hk1 hS1
    obtain ⟨rfl, rfl⟩ := Prod.mk.inj hw
    obtain ⟨hP1, hK1, hD1⟩ := hB
    rw [ht] at hP1
    obtain ⟨hP2, hD2⟩ := joinR hP hD hk1 hF hP1 hD1
    exact k H1 locs1 ls hl hP2 hD2 hS1
def LtL (K : Kx) (hh : List (Nat × Nat × Nat × Nat)) : Prop := match K with
  | (p, l, e, R, s, m, args, below, meth, c, D, A, ce, sl) => l.stackTraces = false ∧ c.exceptionTable.toList = tableOf hh ∧ ce + 1 ≤ R.cells ∧ sl + 6 ≤ R.slots
theorem j_frX {K : Kx} {cc : ByteArray} {own : String} {g : Gm} {nL d : Nat} {ret : Option FieldType} {Q : State → Prop} {pc : Nat} {lv : List (Nat × Value)} {st : List Value} {σd : St} (hC : Ok K cc own g nL d ret) {w : va_W} {ws : St → va_W} {q2 : Nat → Nat} {σ σ2 : St} {y : MethodName} {c2 : ByteArray} {n2 d2 ix : Nat} {ret2 : Option FieldType} {As : List Value} {stk : List Value} {C E : String} {b q0 ci : Nat} {fs : List Value} {Tc : u_T} {nc : Nat} {hh : List (Nat × Nat × Nat × Nat)} (x : ExceptionTableEntry) (hL : LtL K hh) (ht1 : tableOf hh = [x]) (hcov : covers x pc = true) (hct : x.catchType ≠ 0) (hcl : Cond.classLink own x.catchType E ∈ GW) (hca : Cond.castable E E ∈ lw_tbl) (hM : ∀ (l : Launch) (_ : l.stackTraces = false) (D : va_G), MX l y c2 n2 ret2 d2 D (q2, g.2) ws (.ref b :: As) σ E σ2) (hdd : d2 < d) (hn2 : n2 ≤ 70) (w1 : Cond.methodLink own ix y ∈ GW) (w2 : Cond.instanceMethod y ∈ GW) (w3 : Cond.selects C y y ∈ GW) (w4 : Cond.initialized C ∈ GW) (w5 : Cond.code y c2 n2 ret2 ∈ GW) (hyC : y.cls = C) (hy : y.cls ≠ "java/lang/invoke/MethodHandle" ∧ y.cls ≠ "java/lang/invoke/VarHandle" ∧ (parseMethodDescriptor y.desc).map (fun d => d.parameters.length) = some As.length) (hc : vwCl[ci]? = some (C, Tc, nc)) (he : (ws σ)[q0]? = some (b, .inr (ci, fs))) (hcat : (st.map fun v => v.category).sum ≤ 8) (hst : stk = As.reverse ++ .ref b :: st) (hd : decode cc pc = .ok (.invokevirtual ix, 3)) (k : ∀ q : Nat, J (Kp K 1 6) (fun _ => w ++ ws σ2) nL Q x.handlerPc lv [.ref q] σd) : J K (fun _ => w ++ ws σ) nL Q pc lv stk σd := by
  obtain ⟨p, l, e, R, s, m, args, below, meth, c, D, A, ce, sl⟩ := K
  obtain ⟨hx, hb, hml, hown, hts, hK, hA, hSF, ⟨hR1, hR2, hR3, hR4⟩, hr, hlk⟩ := hC
  obtain ⟨hl0, htab, hL1, hL2⟩ := hL
  subst hst
  intro H locs ls hl hP hD hS
  have hF : ∀ q : Nat, va_A (ws σ) H.size q → A q := freeW (dR hD) hS hA
  have hG : GoodIn GW (wsV own ix C y (Cond.code y c2 n2 ret2 :: GW)) := by
    intro w hw
    rcases List.mem_append.mp hw with h | h
    · rcases List.mem_cons.mp h with rfl | h
      · exact goodG1 w1
      rcases List.mem_cons.mp h with rfl | h
      · exact goodG1 w2
      rcases List.mem_cons.mp h with rfl | h
      · exact goodG1 w3
      rcases List.mem_cons.mp h with rfl | h
      · exact goodG1 w4
      · cases h
    · rcases List.mem_cons.mp h with rfl | h
      · exact goodG1 w5
      · exact goodG1 h
  obtain ⟨⟨args0, -, hB0⟩, hvm0, -⟩ := id hSF
  have hcast : (Cond.castable E E).before args s = true := va_Nw.use rfl (va_Nw.warmC hvm0 (va_Nw.of rfl (hB0 _ hca)))
  refine vx_calli (vx_runV (As := As) (rest := st) ⟨hx, hb, hml, hown, hts⟩ (hM l hl0 D H.size) (cwV As.length hts hG rfl rfl rfl ⟨hyC, hy⟩ ⟨Nat.le_trans hdd hR1, Nat.le_trans (show 8 + (n2 + 11) + 100 * d2 ≤ 100 * d by omega) hR2⟩) ⟨preW_blind, va_recv hK (pR hP) hc he, fun U hU hW => ⟨rfl, by rw [hU], by rw [hU]; exact pR hP, va_K.moved hW.alike hK, (dR hD).weaken (fun _ _ _ _ => trivial), hSF.next hA hS hF hU hW⟩⟩ rfl rfl hl.1 rfl (lv_room hcat) hd ⟨hL1, hL2⟩) hS (fun q _ h => hF q h) hF (fun q _ h => hF q h) ?_ ?_
  · intro E2 cex q9 u t H1 locs1 ht hvm hpx hB hz1 hk1 hS1 hcell hv hcl9
    obtain ⟨rfl, hP1, hK1, hD1⟩ := hB
    have hu : u = σ2 := hpx
    subst hu
    rw [ht] at hP1
    obtain ⟨hP2, hD2⟩ := joinR hP hD hk1 hF hP1 hD1
    exact vx_catch (name := E2) hown [] x [] (by rw [htab, ht1]; rfl) (fun z hz => by cases hz) hcov hct (hts _ hcl) hcast hcell hv hcl9 (k q9 H1 locs1 ls hl hP2 hD2 hS1)
  · intro r9 u t H1 locs1 ht hvm hw
    exact hw.elim
def IsZ (K : Kx) : Prop := match K with
  | (p, l, e, R, s, m, args, below, meth, c, D, A, ce, sl) => ce = 0 ∧ sl = 0
def QLw (K : Kx) (g : Gm) (qx : Nat → Nat) (oa : Nat) (post : Int32 → St × (Nat → Int64) → Prop) : State → Prop := match K with
  | (p, l, e, R, s, m, args, below, meth, c, D, A, ce, sl) => vx_MQ below (va_Qi post (fun u t => va_P D vwCl (wO g oa u.2 ++ wX (qx, g.2) u.1) t.heap ∧ va_K D vwCl (tysG g) t ∧ va_D A (wO g oa u.2 ++ wX (qx, g.2) u.1)) A) (vx_X (fun _ : Unit => False) (fun _ _ _ => False) A) args s 1 6 A
def MLw (l : Launch) (y : MethodName) (cc : ByteArray) (nL : Nat) (hh : List (Nat × Nat × Nat × Nat)) (d : Nat) (D : va_G) (g : Gm) (qx : Nat → Nat) (oa : Nat) (av : List Value) (lf : Nat → Int64) (σ : St) (post : Int32 → St × (Nat → Int64) → Prop) : Prop := ∀ sz : Nat, vx_Met l y (Cond.codeWith y cc nL (some .int) hh :: GW) { frames := d, cells := 1, slots := 6, locals := 100 * d } (va_Pc av (PreW g (fun σ => wO g oa lf ++ wX (qx, g.2) σ) D sz σ)) (va_Qi post (fun u t => va_P D vwCl (wO g oa u.2 ++ wX (qx, g.2) u.1) t.heap ∧ va_K D vwCl (tysG g) t ∧ va_D (va_A (wO g oa lf ++ wX (qx, g.2) σ) sz) (wO g oa u.2 ++ wX (qx, g.2) u.1)) (va_A (wO g oa lf ++ wX (qx, g.2) σ) sz)) (vx_X (fun _ : Unit => False) (fun _ _ _ => False) (va_A (wO g oa lf ++ wX (qx, g.2) σ) sz)) 1 6 (va_A (wO g oa lf ++ wX (qx, g.2) σ) sz)
theorem met_Lw {l : Launch} {y : MethodName} {cc : ByteArray} {nL : Nat} {hh : List (Nat × Nat × Nat × Nat)} {d : Nat} {D : va_G} {g : Gm} {qx : Nat → Nat} {oa : Nat} {av : List Value} {lf : Nat → Int64} {σ : St} {post : Int32 → St × (Nat → Int64) → Prop} {own : String} (hl : l.stackTraces = false) (hy : plainName y.cls = true) (ho : y.cls = own) (hn : (lg_sl av).length ≤ nL)
    (body : ∀ K : Kx, Ok K cc own g nL d (some .int) → LtL K hh → IsZ K → J K (fun _ => wO g oa lf ++ wX (qx, g.2) σ) nL (QLw K g qx oa post) 0 (lv_args 0 av) [] σ) : MLw l y cc nL hh d D g qx oa av lf σ post := by
  intro sz
  refine vx_ofWH (cc := cc) (maxL := nL) (ret := some .int) hy rfl ?_
  intro p e s m args below meth c s₁ B hml hv
  obtain ⟨rfl, hsz, hP, hK, hD0, hSF⟩ := hv
  have hts := atoms_spec (ws := Cond.codeWith y cc nL (some .int) hh :: GW) B.pre
  have hown : s.vm.findClass own = some m.cls := by rw [← ho]; exact findClass_of_methodNamed B.named
  subst hsz
  have hD := hD0.self (sz := s.heap.size)
  rw [lg_entry_eq]
  have hb := body (p, l, e, { frames := d, cells := 1, slots := 6, locals := 100 * d }, s, m, av.toArray, below, meth, c, D, va_A (wO g oa lf ++ wX (qx, g.2) σ) s.heap.size, 0, 0) ⟨B.exec, B.bytes, hml, hown, fun w hw => hts w (List.mem_cons_of_mem _ hw), hK, fun q h => Or.inr h, hSF, ⟨Nat.le_refl _, Nat.le_refl _, Nat.zero_le _, Nat.zero_le _⟩, B.returns, B.notSynchronized⟩ ⟨hl, vx_table (x := y) B (hts _ List.mem_cons_self), Nat.le_refl _, Nat.le_refl _⟩ ⟨rfl, rfl⟩
  exact hb s.heap [] _ (lv_entry av hn) hP hD va_S.rf
theorem j_lwret {K : Kx} {cc : ByteArray} {own : String} {g : Gm} {nL d : Nat} {pc : Nat} {lv : List (Nat × Value)} {σd σ : St} {qx : Nat → Nat} {oa : Nat} {lf : Nat → Int64} {v : Int32} {post : Int32 → St × (Nat → Int64) → Prop} {a b : Nat} (hC : Ok K cc own g nL d (some .int)) (hz : IsZ K) (ha : a ≤ 1) (hb6 : b ≤ 6) (hd : decode cc pc = .ok (.ireturn, 1)) (h : post v (σ, lf)) : J (Kp K a b) (fun _ => wO g oa lf ++ wX (qx, g.2) σ) nL (QLw K g qx oa post) pc lv [.int v] σd := by
  obtain ⟨p, l, e, R, s, m, args, below, meth, c, D, A, ce, sl⟩ := K
  obtain ⟨hx, hb, hml, hown, hts, hK, hA, hSF, ⟨hR1, hR2, hR3, hR4⟩, hr, hlk⟩ := hC
  obtain ⟨rfl, rfl⟩ := hz
  intro H locs ls hl hP hD hS
  refine vx_ret ?_
  refine W.widen (k := 1) (n := 6) (by omega) (by omega) ?_
  exact W.zret (ty := .int) hx hb hr rfl (fun t ht hW => ⟨⟨v, (σ, lf), rfl, h, by rw [ht]; exact hP, va_K.moved hW.alike hK, hD⟩, hS.F ht⟩) hS.2.2 hd hlk
theorem j_kp0 {K : Kx} {nL : Nat} {ws : St → va_W} {Q : State → Prop} {pc : Nat} {lv : List (Nat × Value)} {st : List Value} {σ : St} (k : J (Kp K 0 0) ws nL Q pc lv st σ) : J K ws nL Q pc lv st σ := by
  obtain ⟨p, l, e, R, s, m, args, below, meth, cd, D, A, ce, sl⟩ := K
  exact k
theorem okL {K : Kx} {cc : ByteArray} {own : String} {g : Gm} {nL d : Nat} {ret : Option FieldType} {hh : List (Nat × Nat × Nat × Nat)} (hC : Ok K cc own g nL d ret) (hL : LtL K hh) : Ok (Kp K 1 6) cc own g nL d ret := by
  obtain ⟨p, l, e, R, s, m, args, below, meth, c, D, A, ce, sl⟩ := K
  obtain ⟨hx, hb, hml, hown, hts, hK, hA, hSF, ⟨hR1, hR2, hR3, hR4⟩, hr, hlk⟩ := hC
  exact ⟨hx, hb, hml, hown, hts, hK, hA, hSF, ⟨hR1, hR2, hL.2.2.1, hL.2.2.2⟩, hr, hlk⟩
theorem c_last {K : Kx} {cc : ByteArray} {own : String} {g : Gm} {nL d : Nat} {ret : Option FieldType} {Q : State → Prop} {pc : Nat} {lv : List (Nat × Value)} {st : List Value} {σd : St} (hC : Ok K cc own g nL d ret) {w w2 : va_W} {n x : Nat} {f : Nat → Int64} {i : Int32} {v : Int64} (q0 : Nat) (he : w[q0]? = some (x, .inl (g.2.2.2.2.2.1, n, .inr (.inl f)))) (hin : vp_in i n) (hw2 : w.set q0 (x, .inl (g.2.2.2.2.2.1, n, .inr (.inl (vp_updL f i.toNatClampNeg v)))) = w2) (hd : decode cc pc = .ok (.lastore, 1)) (k : J K (fun _ => w2) nL Q (pc + 1) lv st σd) : J K (fun _ => w) nL Q pc lv (.long v :: .int i :: .ref x :: st) σd := by
  obtain ⟨p, l, e, R, s, m, args, below, meth, c, D, A, ce, sl⟩ := K
  obtain ⟨hx, hb, hml, hown, hts, hK, hA, hSF, ⟨hR1, hR2, hR3, hR4⟩, hr, hlk⟩ := hC
  subst hw2
  exact fun H locs ls hl hP hD hS => va_last hx hb hK hP hD hS q0 4 he rfl hin hd (fun H locs hP hD hS => k H locs ls hl hP hD hS)
theorem c_lald {K : Kx} {cc : ByteArray} {own : String} {g : Gm} {nL d : Nat} {ret : Option FieldType} {Q : State → Prop} {pc : Nat} {lv : List (Nat × Value)} {st : List Value} {σd : St} (hC : Ok K cc own g nL d ret) {w : va_W} {n x : Nat} {f : Nat → Int64} {i : Int32} (q0 : Nat) (he : w[q0]? = some (x, .inl (g.2.2.2.2.2.1, n, .inr (.inl f)))) (hin : vp_in i n) (hd : decode cc pc = .ok (.laload, 1)) (k : J K (fun _ => w) nL Q (pc + 1) lv (.long (f i.toNatClampNeg) :: st) σd) : J K (fun _ => w) nL Q pc lv (.int i :: .ref x :: st) σd := by
  obtain ⟨p, l, e, R, s, m, args, below, meth, c, D, A, ce, sl⟩ := K
  obtain ⟨hx, hb, hml, hown, hts, hK, hA, hSF, ⟨hR1, hR2, hR3, hR4⟩, hr, hlk⟩ := hC
  exact fun H locs ls hl hP hD hS => va_lald hx hb hK hP q0 4 he rfl hin hd (k H locs ls hl hP hD hS)
theorem j_astore {K : Kx} {cc : ByteArray} {own : String} {g : Gm} {nL d : Nat} {ret : Option FieldType} {Q : State → Prop} {pc : Nat} {lv : List (Nat × Value)} {st : List Value} {σd : St} (hC : Ok K cc own g nL d ret) {ws : St → va_W} {i x : Nat} {lv2 : List (Nat × Value)} (hd : decode cc pc = .ok (.astore i, 2)) (hn : i < nL) (hl2 : (i, Value.ref x) :: lv.filter (fun q => !(q.1 == i) && !(q.1 + 1 == i && q.2.category == 2)) = lv2) (k : J K ws nL Q (pc + 2) lv2 st σd) : J K ws nL Q pc lv (.ref x :: st) σd := by
  obtain ⟨p, l, e, R, s, m, args, below, meth, c, D, A, ce, sl⟩ := K
  obtain ⟨hx, hb, hml, hown, hts, hK, hA, hSF, ⟨hR1, hR2, hR3, hR4⟩, hr, hlk⟩ := hC
  exact fun H locs ls hl hP hD hS => lv_astore hx hb hd hl hn hl2 (fun ls hl => k H locs ls hl hP hD hS)
theorem ml_L_34 : Cond.methodLink RL 34 yX6_feed ∈ GW := memT (i := 340) (by decide +kernel) rfl
theorem ml_L_39 : Cond.methodLink RL 39 yX6_end ∈ GW := memT (i := 352) (by decide +kernel) rfl
theorem ml_L_44 : Cond.methodLink RL 44 yX6_rules ∈ GW := memT (i := 356) (by decide +kernel) rfl
theorem ml_L_58 : Cond.methodLink RL 58 yX6_fault ∈ GW := memT (i := 480) (by decide +kernel) rfl
theorem ml_L_62 : Cond.methodLink RL 62 yX6_rule ∈ GW := memT (i := 484) (by decide +kernel) rfl
theorem ml_L_66 : Cond.methodLink RL 66 yX6_song ∈ GW := memT (i := 488) (by decide +kernel) rfl
theorem ml_L_71 : Cond.methodLink RL 71 yX6_vote ∈ GW := memT (i := 497) (by decide +kernel) rfl
theorem ml_L_75 : Cond.methodLink RL 75 yX6_ask ∈ GW := memT (i := 513) (by decide +kernel) rfl
theorem ml_L_82 : Cond.methodLink RL 82 yX6_told ∈ GW := memT (i := 517) (by decide +kernel) rfl
theorem ml_L_93 : Cond.methodLink RL 93 yX6_at ∈ GW := memT (i := 521) (by decide +kernel) rfl
theorem ml_L_97 : Cond.methodLink RL 97 yX6_rights ∈ GW := memT (i := 529) (by decide +kernel) rfl
theorem ml_L_105 : Cond.methodLink RL 105 yX6_count ∈ GW := memT (i := 541) (by decide +kernel) rfl
theorem ml_L_7 : Cond.methodLink RL 7 yX6_clock ∈ GW := memT (i := 553) (by decide +kernel) rfl
theorem ml_L_15 : Cond.methodLink RL 15 yX6_lay ∈ GW := memT (i := 659) (by decide +kernel) rfl
theorem ml_L_18 : Cond.methodLink RL 18 yX6_play ∈ GW := memT (i := 760) (by decide +kernel) rfl
theorem ml_L_24 : Cond.methodLink RL 24 yX6_left ∈ GW := memT (i := 783) (by decide +kernel) rfl
theorem ml_L_27 : Cond.methodLink RL 27 yX6_items ∈ GW := memT (i := 791) (by decide +kernel) rfl
theorem ml_L_55 : Cond.methodLink RL 55 yX7_thrown ∈ GW := memT (i := 965) (by decide +kernel) rfl
theorem ml_L_38 : Cond.methodLink RL 38 yX7_feed ∈ GW := memT (i := 969) (by decide +kernel) rfl
theorem ml_L_43 : Cond.methodLink RL 43 yX7_end ∈ GW := memT (i := 977) (by decide +kernel) rfl
theorem ml_L_48 : Cond.methodLink RL 48 yX7_rules ∈ GW := memT (i := 981) (by decide +kernel) rfl
theorem ml_L_54 : Cond.methodLink RL 54 yX7_clock ∈ GW := memT (i := 1029) (by decide +kernel) rfl
theorem ml_L_61 : Cond.methodLink RL 61 yX7_fault ∈ GW := memT (i := 1044) (by decide +kernel) rfl
theorem ml_L_65 : Cond.methodLink RL 65 yX7_rule ∈ GW := memT (i := 1048) (by decide +kernel) rfl
theorem ml_L_70 : Cond.methodLink RL 70 yX7_song ∈ GW := memT (i := 1052) (by decide +kernel) rfl
theorem ml_L_74 : Cond.methodLink RL 74 yX7_vote ∈ GW := memT (i := 1059) (by decide +kernel) rfl
theorem ml_L_78 : Cond.methodLink RL 78 yX7_ask ∈ GW := memT (i := 1071) (by decide +kernel) rfl
theorem ml_L_81 : Cond.methodLink RL 81 yX7_lay ∈ GW := memT (i := 1075) (by decide +kernel) rfl
theorem ml_L_85 : Cond.methodLink RL 85 yX7_told ∈ GW := memT (i := 1115) (by decide +kernel) rfl
theorem ml_L_89 : Cond.methodLink RL 89 yX7_play ∈ GW := memT (i := 1123) (by decide +kernel) rfl
theorem ml_L_92 : Cond.methodLink RL 92 yX7_left ∈ GW := memT (i := 1127) (by decide +kernel) rfl
theorem ml_L_96 : Cond.methodLink RL 96 yX7_at ∈ GW := memT (i := 1131) (by decide +kernel) rfl
theorem ml_L_101 : Cond.methodLink RL 101 yX7_rights ∈ GW := memT (i := 1135) (by decide +kernel) rfl
theorem ml_L_104 : Cond.methodLink RL 104 yX7_items ∈ GW := memT (i := 1139) (by decide +kernel) rfl
theorem ml_L_108 : Cond.methodLink RL 108 yX7_count ∈ GW := memT (i := 1143) (by decide +kernel) rfl
theorem mlc_13 : Cond.classLink RL 13 "java/lang/IndexOutOfBoundsException" ∈ GW := memT (i := 552) (by decide +kernel) rfl
theorem mlc_22 : Cond.classLink RL 22 "java/util/NoSuchElementException" ∈ GW := memT (i := 759) (by decide +kernel) rfl
theorem mca_1 : Cond.castable "java/lang/IndexOutOfBoundsException" "java/lang/IndexOutOfBoundsException" ∈ lw_tbl := List.mem_append_right _ (List.mem_of_getElem? (i := 562) (by decide +kernel))
theorem mca_2 : Cond.castable "java/util/NoSuchElementException" "java/util/NoSuchElementException" ∈ lw_tbl := List.mem_append_right _ (List.mem_of_getElem? (i := 766) (by decide +kernel))
theorem L_clock_n (l : Launch) (hl : l.stackTraces = false) (D : va_G) (g : Gm) (qx : Nat → Nat) (oa : Nat) (lf : Nat → Int64) {N : Nat} {x1 r : Int32} {σ σ2 : St} (h : X6_clock_f N x1 σ = some (r, σ2)) : MLw l yL_clock cL_clock 4 [(0, 9, 12, 13)] 9 D g qx oa [.ref (qx 0), .int x1, .ref oa] lf σ (fun v u => v = 0 ∧ u.1 = σ2 ∧ u.2 0 = r.toInt64) := by
  refine met_Lw (own := RL) hl (by decide) rfl (Nat.le_of_ble_eq_true rfl) (fun K hC hL hz => ?_)
  show J K (fun _ => wO g oa lf ++ wX (qx, g.2) σ) 4 (QLw K g qx oa (fun v u => v = 0 ∧ u.1 = σ2 ∧ u.2 0 = r.toInt64)) 0 [(0, .ref (qx 0)), (1, .int x1), (2, .ref oa)] [] σ
  refine j_aload_n hC dL_clock_0 rfl 2 rfl ?_
  refine j_iconst (v := 0) hC dL_clock_1 (by decide) ?_
  refine j_aload_n hC dL_clock_2 rfl 0 rfl ?_
  refine j_iload_n hC dL_clock_3 rfl 1 rfl ?_
  refine j_fr (w := wO g oa lf) (ws := wX (qx, g.2)) (q2 := qx) (σ := σ) (σ2 := σ2) (r := r) (As := [.int x1]) (q0 := 0) (ci := 6) (C := RX6) hC (fun l D => X6_clock_ok l D (qx, g.2) h) (by decide) (by decide) ml_L_7 mi_X6_clock ms_X6_clock min_X6 mcd_X6_clock rfl mds_X6_clock rfl rfl (Nat.le_of_ble_eq_true rfl) rfl dL_clock_4 ?_
  refine j_i2l hC dL_clock_7 ?_
  refine c_last (w2 := wO g oa (vp_updL lf 0 r.toInt64) ++ wX (qx, g.2) σ2) hC 0 rfl (inB_in (by decide)) rfl dL_clock_8 ?_
  refine j_goto (tgt := 15) hC dL_clock_9 (by decide) ?_
  refine j_iconst (v := 0) hC dL_clock_15 (by decide) ?_
  exact j_kp0 (j_lwret (a := 0) (b := 0) hC hz (by decide) (by decide) dL_clock_16 ⟨rfl, rfl, rfl⟩)
theorem L_clock_x (l : Launch) (hl : l.stackTraces = false) (D : va_G) (g : Gm) (qx : Nat → Nat) (oa : Nat) (lf : Nat → Int64) {N : Nat} {x1 : Int32} {σ : St} {o : Int32 × St} (h : X6_clock_t N x1 σ = some o) : MLw l yL_clock cL_clock 4 [(0, 9, 12, 13)] 9 D g qx oa [.ref (qx 0), .int x1, .ref oa] lf σ (fun v u => v = 1 ∧ u.1 = o.2) := by
  refine met_Lw (own := RL) hl (by decide) rfl (Nat.le_of_ble_eq_true rfl) (fun K hC hL hz => ?_)
  show J K (fun _ => wO g oa lf ++ wX (qx, g.2) σ) 4 (QLw K g qx oa (fun v u => v = 1 ∧ u.1 = o.2)) 0 [(0, .ref (qx 0)), (1, .int x1), (2, .ref oa)] [] σ
  refine j_aload_n hC dL_clock_0 rfl 2 rfl ?_
  refine j_iconst (v := 0) hC dL_clock_1 (by decide) ?_
  refine j_aload_n hC dL_clock_2 rfl 0 rfl ?_
  refine j_iload_n hC dL_clock_3 rfl 1 rfl ?_
  refine j_frX (E := "java/lang/IndexOutOfBoundsException") (w := wO g oa lf) (ws := wX (qx, g.2)) (q2 := qx) (σ := σ) (σ2 := o.2) (hh := [(0, 9, 12, 13)]) (As := [.int x1]) (q0 := 0) (ci := 6) (C := RX6) hC ⟨0, 9, 12, 13⟩ hL rfl rfl (by decide) mlc_13 mca_1 (fun l hl D => X6_clock_thr l hl D (qx, g.2) h) (by decide) (by decide) ml_L_7 mi_X6_clock ms_X6_clock min_X6 mcd_X6_clock rfl mds_X6_clock rfl rfl (Nat.le_of_ble_eq_true rfl) rfl dL_clock_4 (fun q => ?_)
  have hC2 := okL hC hL
  refine j_astore_n hC2 dL_clock_12 rfl (by decide) rfl ?_
  refine j_iconst (v := 1) hC2 dL_clock_13 (by decide) ?_
  exact j_lwret (a := 1) (b := 6) hC hz (by decide) (by decide) dL_clock_14 ⟨rfl, rfl⟩
theorem L_lay_n (l : Launch) (hl : l.stackTraces = false) (D : va_G) (g : Gm) (qx : Nat → Nat) (oa : Nat) (lf : Nat → Int64) {N : Nat} {x1 r : Int32} {σ σ2 : St} (h : X6_lay_f N x1 σ = some (r, σ2)) : MLw l yL_lay cL_lay 4 [(0, 9, 12, 13)] 18 D g qx oa [.ref (qx 0), .int x1, .ref oa] lf σ (fun v u => v = 0 ∧ u.1 = σ2 ∧ u.2 0 = r.toInt64) := by
  refine met_Lw (own := RL) hl (by decide) rfl (Nat.le_of_ble_eq_true rfl) (fun K hC hL hz => ?_)
  show J K (fun _ => wO g oa lf ++ wX (qx, g.2) σ) 4 (QLw K g qx oa (fun v u => v = 0 ∧ u.1 = σ2 ∧ u.2 0 = r.toInt64)) 0 [(0, .ref (qx 0)), (1, .int x1), (2, .ref oa)] [] σ
  refine j_aload_n hC dL_lay_0 rfl 2 rfl ?_
  refine j_iconst (v := 0) hC dL_lay_1 (by decide) ?_
  refine j_aload_n hC dL_lay_2 rfl 0 rfl ?_
  refine j_iload_n hC dL_lay_3 rfl 1 rfl ?_
  refine j_fr (w := wO g oa lf) (ws := wX (qx, g.2)) (q2 := qx) (σ := σ) (σ2 := σ2) (r := r) (As := [.int x1]) (q0 := 0) (ci := 6) (C := RX6) hC (fun l D => X6_lay_ok l D (qx, g.2) h) (by decide) (by decide) ml_L_15 mi_X6_lay ms_X6_lay min_X6 mcd_X6_lay rfl mds_X6_lay rfl rfl (Nat.le_of_ble_eq_true rfl) rfl dL_lay_4 ?_
  refine j_i2l hC dL_lay_7 ?_
  refine c_last (w2 := wO g oa (vp_updL lf 0 r.toInt64) ++ wX (qx, g.2) σ2) hC 0 rfl (inB_in (by decide)) rfl dL_lay_8 ?_
  refine j_goto (tgt := 15) hC dL_lay_9 (by decide) ?_
  refine j_iconst (v := 0) hC dL_lay_15 (by decide) ?_
  exact j_kp0 (j_lwret (a := 0) (b := 0) hC hz (by decide) (by decide) dL_lay_16 ⟨rfl, rfl, rfl⟩)
theorem L_lay_x (l : Launch) (hl : l.stackTraces = false) (D : va_G) (g : Gm) (qx : Nat → Nat) (oa : Nat) (lf : Nat → Int64) {N : Nat} {x1 : Int32} {σ : St} {o : Int32 × St} (h : X6_lay_t N x1 σ = some o) : MLw l yL_lay cL_lay 4 [(0, 9, 12, 13)] 18 D g qx oa [.ref (qx 0), .int x1, .ref oa] lf σ (fun v u => v = 1 ∧ u.1 = o.2) := by
  refine met_Lw (own := RL) hl (by decide) rfl (Nat.le_of_ble_eq_true rfl) (fun K hC hL hz => ?_)
  show J K (fun _ => wO g oa lf ++ wX (qx, g.2) σ) 4 (QLw K g qx oa (fun v u => v = 1 ∧ u.1 = o.2)) 0 [(0, .ref (qx 0)), (1, .int x1), (2, .ref oa)] [] σ
  refine j_aload_n hC dL_lay_0 rfl 2 rfl ?_
  refine j_iconst (v := 0) hC dL_lay_1 (by decide) ?_
  refine j_aload_n hC dL_lay_2 rfl 0 rfl ?_
  refine j_iload_n hC dL_lay_3 rfl 1 rfl ?_
  refine j_frX (E := "java/lang/IndexOutOfBoundsException") (w := wO g oa lf) (ws := wX (qx, g.2)) (q2 := qx) (σ := σ) (σ2 := o.2) (hh := [(0, 9, 12, 13)]) (As := [.int x1]) (q0 := 0) (ci := 6) (C := RX6) hC ⟨0, 9, 12, 13⟩ hL rfl rfl (by decide) mlc_13 mca_1 (fun l hl D => X6_lay_thr l hl D (qx, g.2) h) (by decide) (by decide) ml_L_15 mi_X6_lay ms_X6_lay min_X6 mcd_X6_lay rfl mds_X6_lay rfl rfl (Nat.le_of_ble_eq_true rfl) rfl dL_lay_4 (fun q => ?_)
  have hC2 := okL hC hL
  refine j_astore_n hC2 dL_lay_12 rfl (by decide) rfl ?_
  refine j_iconst (v := 1) hC2 dL_lay_13 (by decide) ?_
  exact j_lwret (a := 1) (b := 6) hC hz (by decide) (by decide) dL_lay_14 ⟨rfl, rfl⟩
theorem L_items_n (l : Launch) (hl : l.stackTraces = false) (D : va_G) (g : Gm) (qx : Nat → Nat) (oa : Nat) (lf : Nat → Int64) {N : Nat} {x1 r : Int32} {σ σ2 : St} (h : X6_items_f N x1 σ = some (r, σ2)) : MLw l yL_items cL_items 4 [(0, 9, 12, 13)] 9 D g qx oa [.ref (qx 0), .int x1, .ref oa] lf σ (fun v u => v = 0 ∧ u.1 = σ2 ∧ u.2 0 = r.toInt64) := by
  refine met_Lw (own := RL) hl (by decide) rfl (Nat.le_of_ble_eq_true rfl) (fun K hC hL hz => ?_)
  show J K (fun _ => wO g oa lf ++ wX (qx, g.2) σ) 4 (QLw K g qx oa (fun v u => v = 0 ∧ u.1 = σ2 ∧ u.2 0 = r.toInt64)) 0 [(0, .ref (qx 0)), (1, .int x1), (2, .ref oa)] [] σ
  refine j_aload_n hC dL_items_0 rfl 2 rfl ?_
  refine j_iconst (v := 0) hC dL_items_1 (by decide) ?_
  refine j_aload_n hC dL_items_2 rfl 0 rfl ?_
  refine j_iload_n hC dL_items_3 rfl 1 rfl ?_
  refine j_fr (w := wO g oa lf) (ws := wX (qx, g.2)) (q2 := qx) (σ := σ) (σ2 := σ2) (r := r) (As := [.int x1]) (q0 := 0) (ci := 6) (C := RX6) hC (fun l D => X6_items_ok l D (qx, g.2) h) (by decide) (by decide) ml_L_27 mi_X6_items ms_X6_items min_X6 mcd_X6_items rfl mds_X6_items rfl rfl (Nat.le_of_ble_eq_true rfl) rfl dL_items_4 ?_
  refine j_i2l hC dL_items_7 ?_
  refine c_last (w2 := wO g oa (vp_updL lf 0 r.toInt64) ++ wX (qx, g.2) σ2) hC 0 rfl (inB_in (by decide)) rfl dL_items_8 ?_
  refine j_goto (tgt := 15) hC dL_items_9 (by decide) ?_
  refine j_iconst (v := 0) hC dL_items_15 (by decide) ?_
  exact j_kp0 (j_lwret (a := 0) (b := 0) hC hz (by decide) (by decide) dL_items_16 ⟨rfl, rfl, rfl⟩)
theorem L_items_x (l : Launch) (hl : l.stackTraces = false) (D : va_G) (g : Gm) (qx : Nat → Nat) (oa : Nat) (lf : Nat → Int64) {N : Nat} {x1 : Int32} {σ : St} {o : Int32 × St} (h : X6_items_t N x1 σ = some o) : MLw l yL_items cL_items 4 [(0, 9, 12, 13)] 9 D g qx oa [.ref (qx 0), .int x1, .ref oa] lf σ (fun v u => v = 1 ∧ u.1 = o.2) := by
  refine met_Lw (own := RL) hl (by decide) rfl (Nat.le_of_ble_eq_true rfl) (fun K hC hL hz => ?_)
  show J K (fun _ => wO g oa lf ++ wX (qx, g.2) σ) 4 (QLw K g qx oa (fun v u => v = 1 ∧ u.1 = o.2)) 0 [(0, .ref (qx 0)), (1, .int x1), (2, .ref oa)] [] σ
  refine j_aload_n hC dL_items_0 rfl 2 rfl ?_
  refine j_iconst (v := 0) hC dL_items_1 (by decide) ?_
  refine j_aload_n hC dL_items_2 rfl 0 rfl ?_
  refine j_iload_n hC dL_items_3 rfl 1 rfl ?_
  refine j_frX (E := "java/lang/IndexOutOfBoundsException") (w := wO g oa lf) (ws := wX (qx, g.2)) (q2 := qx) (σ := σ) (σ2 := o.2) (hh := [(0, 9, 12, 13)]) (As := [.int x1]) (q0 := 0) (ci := 6) (C := RX6) hC ⟨0, 9, 12, 13⟩ hL rfl rfl (by decide) mlc_13 mca_1 (fun l hl D => X6_items_thr l hl D (qx, g.2) h) (by decide) (by decide) ml_L_27 mi_X6_items ms_X6_items min_X6 mcd_X6_items rfl mds_X6_items rfl rfl (Nat.le_of_ble_eq_true rfl) rfl dL_items_4 (fun q => ?_)
  have hC2 := okL hC hL
  refine j_astore_n hC2 dL_items_12 rfl (by decide) rfl ?_
  refine j_iconst (v := 1) hC2 dL_items_13 (by decide) ?_
  exact j_lwret (a := 1) (b := 6) hC hz (by decide) (by decide) dL_items_14 ⟨rfl, rfl⟩
theorem L_play_n (l : Launch) (hl : l.stackTraces = false) (D : va_G) (g : Gm) (qx : Nat → Nat) (oa : Nat) (lf : Nat → Int64) {N : Nat} {x1 x2 r : Int32} {σ σ2 : St} (h : X6_play_f N x1 x2 σ = some (r, σ2)) : MLw l yL_play cL_play 5 [(0, 10, 13, 22)] 9 D g qx oa [.ref (qx 0), .int x1, .int x2, .ref oa] lf σ (fun v u => v = 0 ∧ u.1 = σ2 ∧ u.2 0 = r.toInt64) := by
  refine met_Lw (own := RL) hl (by decide) rfl (Nat.le_of_ble_eq_true rfl) (fun K hC hL hz => ?_)
  show J K (fun _ => wO g oa lf ++ wX (qx, g.2) σ) 5 (QLw K g qx oa (fun v u => v = 0 ∧ u.1 = σ2 ∧ u.2 0 = r.toInt64)) 0 [(0, .ref (qx 0)), (1, .int x1), (2, .int x2), (3, .ref oa)] [] σ
  refine j_aload_n hC dL_play_0 rfl 3 rfl ?_
  refine j_iconst (v := 0) hC dL_play_1 (by decide) ?_
  refine j_aload_n hC dL_play_2 rfl 0 rfl ?_
  refine j_iload_n hC dL_play_3 rfl 1 rfl ?_
  refine j_iload_n hC dL_play_4 rfl 2 rfl ?_
  refine j_fr (w := wO g oa lf) (ws := wX (qx, g.2)) (q2 := qx) (σ := σ) (σ2 := σ2) (r := r) (As := [.int x1, .int x2]) (q0 := 0) (ci := 6) (C := RX6) hC (fun l D => X6_play_ok l D (qx, g.2) h) (by decide) (by decide) ml_L_18 mi_X6_play ms_X6_play min_X6 mcd_X6_play rfl mds_X6_play rfl rfl (Nat.le_of_ble_eq_true rfl) rfl dL_play_5 ?_
  refine j_i2l hC dL_play_8 ?_
  refine c_last (w2 := wO g oa (vp_updL lf 0 r.toInt64) ++ wX (qx, g.2) σ2) hC 0 rfl (inB_in (by decide)) rfl dL_play_9 ?_
  refine j_goto (tgt := 17) hC dL_play_10 (by decide) ?_
  refine j_iconst (v := 0) hC dL_play_17 (by decide) ?_
  exact j_kp0 (j_lwret (a := 0) (b := 0) hC hz (by decide) (by decide) dL_play_18 ⟨rfl, rfl, rfl⟩)
theorem L_play_x (l : Launch) (hl : l.stackTraces = false) (D : va_G) (g : Gm) (qx : Nat → Nat) (oa : Nat) (lf : Nat → Int64) {N : Nat} {x1 x2 : Int32} {σ : St} {o : Int32 × St} (h : X6_play_t N x1 x2 σ = some o) : MLw l yL_play cL_play 5 [(0, 10, 13, 22)] 9 D g qx oa [.ref (qx 0), .int x1, .int x2, .ref oa] lf σ (fun v u => v = 1 ∧ u.1 = o.2) := by
  refine met_Lw (own := RL) hl (by decide) rfl (Nat.le_of_ble_eq_true rfl) (fun K hC hL hz => ?_)
  show J K (fun _ => wO g oa lf ++ wX (qx, g.2) σ) 5 (QLw K g qx oa (fun v u => v = 1 ∧ u.1 = o.2)) 0 [(0, .ref (qx 0)), (1, .int x1), (2, .int x2), (3, .ref oa)] [] σ
  refine j_aload_n hC dL_play_0 rfl 3 rfl ?_
  refine j_iconst (v := 0) hC dL_play_1 (by decide) ?_
  refine j_aload_n hC dL_play_2 rfl 0 rfl ?_
  refine j_iload_n hC dL_play_3 rfl 1 rfl ?_
  refine j_iload_n hC dL_play_4 rfl 2 rfl ?_
  refine j_frX (E := "java/util/NoSuchElementException") (w := wO g oa lf) (ws := wX (qx, g.2)) (q2 := qx) (σ := σ) (σ2 := o.2) (hh := [(0, 10, 13, 22)]) (As := [.int x1, .int x2]) (q0 := 0) (ci := 6) (C := RX6) hC ⟨0, 10, 13, 22⟩ hL rfl rfl (by decide) mlc_22 mca_2 (fun l hl D => X6_play_thr l hl D (qx, g.2) h) (by decide) (by decide) ml_L_18 mi_X6_play ms_X6_play min_X6 mcd_X6_play rfl mds_X6_play rfl rfl (Nat.le_of_ble_eq_true rfl) rfl dL_play_5 (fun q => ?_)
  have hC2 := okL hC hL
  refine j_astore hC2 dL_play_13 (by decide) rfl ?_
  refine j_iconst (v := 1) hC2 dL_play_15 (by decide) ?_
  exact j_lwret (a := 1) (b := 6) hC hz (by decide) (by decide) dL_play_16 ⟨rfl, rfl⟩
theorem L_left_n (l : Launch) (hl : l.stackTraces = false) (D : va_G) (g : Gm) (qx : Nat → Nat) (oa : Nat) (lf : Nat → Int64) {N : Nat} {x1 x2 r : Int32} {σ σ2 : St} (h : X6_left_f N x1 x2 σ = some (r, σ2)) : MLw l yL_left cL_left 5 [(0, 10, 13, 22)] 9 D g qx oa [.ref (qx 0), .int x1, .int x2, .ref oa] lf σ (fun v u => v = 0 ∧ u.1 = σ2 ∧ u.2 0 = r.toInt64) := by
  refine met_Lw (own := RL) hl (by decide) rfl (Nat.le_of_ble_eq_true rfl) (fun K hC hL hz => ?_)
  show J K (fun _ => wO g oa lf ++ wX (qx, g.2) σ) 5 (QLw K g qx oa (fun v u => v = 0 ∧ u.1 = σ2 ∧ u.2 0 = r.toInt64)) 0 [(0, .ref (qx 0)), (1, .int x1), (2, .int x2), (3, .ref oa)] [] σ
  refine j_aload_n hC dL_left_0 rfl 3 rfl ?_
  refine j_iconst (v := 0) hC dL_left_1 (by decide) ?_
  refine j_aload_n hC dL_left_2 rfl 0 rfl ?_
  refine j_iload_n hC dL_left_3 rfl 1 rfl ?_
  refine j_iload_n hC dL_left_4 rfl 2 rfl ?_
  refine j_fr (w := wO g oa lf) (ws := wX (qx, g.2)) (q2 := qx) (σ := σ) (σ2 := σ2) (r := r) (As := [.int x1, .int x2]) (q0 := 0) (ci := 6) (C := RX6) hC (fun l D => X6_left_ok l D (qx, g.2) h) (by decide) (by decide) ml_L_24 mi_X6_left ms_X6_left min_X6 mcd_X6_left rfl mds_X6_left rfl rfl (Nat.le_of_ble_eq_true rfl) rfl dL_left_5 ?_
  refine j_i2l hC dL_left_8 ?_
  refine c_last (w2 := wO g oa (vp_updL lf 0 r.toInt64) ++ wX (qx, g.2) σ2) hC 0 rfl (inB_in (by decide)) rfl dL_left_9 ?_
  refine j_goto (tgt := 17) hC dL_left_10 (by decide) ?_
  refine j_iconst (v := 0) hC dL_left_17 (by decide) ?_
  exact j_kp0 (j_lwret (a := 0) (b := 0) hC hz (by decide) (by decide) dL_left_18 ⟨rfl, rfl, rfl⟩)
theorem L_left_x (l : Launch) (hl : l.stackTraces = false) (D : va_G) (g : Gm) (qx : Nat → Nat) (oa : Nat) (lf : Nat → Int64) {N : Nat} {x1 x2 : Int32} {σ : St} {o : Int32 × St} (h : X6_left_t N x1 x2 σ = some o) : MLw l yL_left cL_left 5 [(0, 10, 13, 22)] 9 D g qx oa [.ref (qx 0), .int x1, .int x2, .ref oa] lf σ (fun v u => v = 1 ∧ u.1 = o.2) := by
  refine met_Lw (own := RL) hl (by decide) rfl (Nat.le_of_ble_eq_true rfl) (fun K hC hL hz => ?_)
  show J K (fun _ => wO g oa lf ++ wX (qx, g.2) σ) 5 (QLw K g qx oa (fun v u => v = 1 ∧ u.1 = o.2)) 0 [(0, .ref (qx 0)), (1, .int x1), (2, .int x2), (3, .ref oa)] [] σ
  refine j_aload_n hC dL_left_0 rfl 3 rfl ?_
  refine j_iconst (v := 0) hC dL_left_1 (by decide) ?_
  refine j_aload_n hC dL_left_2 rfl 0 rfl ?_
  refine j_iload_n hC dL_left_3 rfl 1 rfl ?_
  refine j_iload_n hC dL_left_4 rfl 2 rfl ?_
  refine j_frX (E := "java/util/NoSuchElementException") (w := wO g oa lf) (ws := wX (qx, g.2)) (q2 := qx) (σ := σ) (σ2 := o.2) (hh := [(0, 10, 13, 22)]) (As := [.int x1, .int x2]) (q0 := 0) (ci := 6) (C := RX6) hC ⟨0, 10, 13, 22⟩ hL rfl rfl (by decide) mlc_22 mca_2 (fun l hl D => X6_left_thr l hl D (qx, g.2) h) (by decide) (by decide) ml_L_24 mi_X6_left ms_X6_left min_X6 mcd_X6_left rfl mds_X6_left rfl rfl (Nat.le_of_ble_eq_true rfl) rfl dL_left_5 (fun q => ?_)
  have hC2 := okL hC hL
  refine j_astore hC2 dL_left_13 (by decide) rfl ?_
  refine j_iconst (v := 1) hC2 dL_left_15 (by decide) ?_
  exact j_lwret (a := 1) (b := 6) hC hz (by decide) (by decide) dL_left_16 ⟨rfl, rfl⟩
