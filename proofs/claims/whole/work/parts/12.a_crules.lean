def ini0 : St := (fun _ => 0, fun _ _ => 0, 0)
def Kp (K : Kx) (a b : Nat) : Kx := match K with
  | (p, l, e, R, s, m, args, below, meth, c, D, A, ce, sl) => (p, l, e, R, s, m, args, below, meth, c, D, A, ce + a, sl + b)
def Lim (K : Kx) (a b : Nat) : Prop := match K with
  | (p, l, e, R, s, m, args, below, meth, c, D, A, ce, sl) => ce + a ≤ R.cells ∧ sl + b ≤ R.slots
def IsIn (K : Kx) : Prop := match K with
  | (p, l, e, R, s, m, args, below, meth, c, D, A, ce, sl) => meth.name = "<init>" ∧ ce = 0 ∧ sl = 0
theorem okp {K : Kx} {cc : ByteArray} {own : String} {g : Gm} {nL d : Nat} {ret : Option FieldType} {mc ms : Nat} (hC : Ok K cc own g nL d ret) (hL : Lim K mc ms) {a b : Nat} (h1 : a ≤ mc) (h2 : b ≤ ms) : Ok (Kp K a b) cc own g nL d ret := by
  obtain ⟨p, l, e, R, s, m, args, below, meth, c, D, A, ce, sl⟩ := K
  obtain ⟨hx, hb, hml, hown, hts, hK, hA, hSF, ⟨hR1, hR2, hR3, hR4⟩, hr, hlk⟩ := hC
  obtain ⟨hL1, hL2⟩ := hL
  exact ⟨hx, hb, hml, hown, hts, hK, hA, hSF, ⟨hR1, hR2, by show ce + a ≤ R.cells; omega, by show sl + b ≤ R.slots; omega⟩, hr, hlk⟩
theorem isInp {K : Kx} {a b : Nat} (h : IsIn K) : (match Kp K a b with | (p, l, e, R, s, m, args, below, meth, c, D, A, ce, sl) => meth.name = "<init>") := by
  obtain ⟨p, l, e, R, s, m, args, below, meth, c, D, A, ce, sl⟩ := K
  exact h.1
section APPEND
variable {D : va_G} {cl : List vw_C} {w1 w2 w3 : va_W} {H H1 : Heap} {A0 B0 : Nat → Prop}
theorem getR {α : Type} {a b : List α} {k : Nat} {x : α} (h : b[k]? = some x) : (a ++ b)[a.length + k]? = some x := by
  rw [List.getElem?_append_right (by omega), show a.length + k - a.length = k by omega]; exact h
theorem getL {α : Type} {a b : List α} {k : Nat} {x : α} (h : a[k]? = some x) : (a ++ b)[k]? = some x := by
  rw [List.getElem?_append_left (List.getElem?_eq_some_iff.mp h).1]; exact h
theorem pR (h : va_P D cl (w1 ++ w2) H) : va_P D cl w2 H := fun _ q hk => h _ q (getR hk)
theorem pL (h : va_P D cl (w1 ++ w2) H) : va_P D cl w1 H := fun k q hk => h k q (getL hk)
theorem dR (h : va_D A0 (w1 ++ w2)) : va_D A0 w2 := ⟨fun i j p q hi hj e => by have := h.1 _ _ p q (getR hi) (getR hj) e; omega, fun k q hk => h.2 _ q (getR hk)⟩
theorem dL (h : va_D A0 (w1 ++ w2)) : va_D A0 w1 := ⟨fun i j p q hi hj e => h.1 i j p q (getL hi) (getL hj) e, fun k q hk => h.2 k q (getL hk)⟩
theorem dX (h : va_D A0 (w1 ++ w2)) {i j : Nat} {p q : Nat × va_E} (hi : w1[i]? = some p) (hj : w2[j]? = some q) : p.1 ≠ q.1 := by
  intro e
  have h1 := h.1 _ _ p q (getL hi) (getR hj) e
  have h2 := (List.getElem?_eq_some_iff.mp hi).1
  omega
theorem joinR (hP : va_P D cl (w1 ++ w2) H) (hD : va_D A0 (w1 ++ w2)) (hk : ∀ q : Nat, q < H.size → ¬ va_A w2 H.size q → H1[q]? = H[q]?) (hF : ∀ q, va_A w2 H.size q → A0 q) (hP1 : va_P D cl w3 H1) (hD1 : va_D (va_A w2 H.size) w3) : va_P D cl (w1 ++ w3) H1 ∧ va_D A0 (w1 ++ w3) := by
  have hn : ∀ (k : Nat) (q : Nat × va_E), w1[k]? = some q → q.1 < H.size ∧ ¬ va_A w2 H.size q.1 := by
    intro k q hq
    have hlt := (pL hP k q hq).lt
    refine ⟨hlt, ?_⟩
    rintro (⟨j, e, hj⟩ | h)
    · exact dX hD hq hj rfl
    · omega
  refine ⟨((pL hP).kept (fun k q hq => hk q.1 (hn k q hq).1 (hn k q hq).2)).app hP1, (dL hD).app (hD1.weaken (fun _ q _ h => hF q.1 h)) ?_⟩
  intro i j p q hi hj e
  exact (hn i p hi).2 (by rw [e]; exact hD1.2 j q hj)
end APPEND
theorem c_newa {K : Kx} {cc : ByteArray} {own : String} {g : Gm} {nL d : Nat} {ret : Option FieldType} {Q : State → Prop} {pc : Nat} {lv : List (Nat × Value)} {st : List Value} {σ : St} {w : va_W} (hC : Ok K cc own g nL d ret) {a b mc ms : Nat} {atp : ArrayType} {ty : FieldType} {cA : ClassId} {t0 N : Nat} {n : Int32} (hL : Lim K mc ms) (h1 : a + 1 ≤ mc) (h2 : b + N ≤ ms) (hw : Cond.arrayClass ty ∈ GW) (hty : newarray.typeOf atp = ty) (hpr : ty = .int ∨ ty = .byte ∨ ty = .boolean) (ht : (tysG g)[t0]? = some (cA, ty)) (hn : ¬ n < 0) (hN : n.toNatClampNeg = N) (hby : N * componentBytes ty ≤ 536870912) (hd : decode cc pc = .ok (.newarray atp, 2)) (k : ∀ q : Nat, J (Kp K (a + 1) (b + N)) (fun _ => w ++ [(q, .inl (cA, N, .inl (fun _ => 0)))]) nL Q (pc + 2) lv (.ref q :: st) σ) : J (Kp K a b) (fun _ => w) nL Q pc lv (.int n :: st) σ := by
  obtain ⟨p, l, e, R, s, m, args, below, meth, c, D, A, ce, sl⟩ := K
  obtain ⟨hx, hb, hml, hown, hts, hK, hA, hSF, ⟨hR1, hR2, hR3, hR4⟩, hr, hlk⟩ := hC
  obtain ⟨hL1, hL2⟩ := hL
  intro H locs ls hl hP hD hS
  refine va_newa (a0 := (N, .inl (fun _ => 0))) hx hb (by rw [hty]; exact hts _ hw) hty hK hP hD hS hA (fun cA => by rcases hpr with rfl | rfl | rfl <;> rfl) hn hN hby (by omega) (by omega) hd ?_
  intro q cA2 H1 hK2 hP hD hS
  have e : cA2 = cA := by
    have q1 := (hK.2 t0 _ ht).2
    have q2 := (hK2.2 (tysG g).length (cA2, ty) (by simp)).2
    rcases hpr with rfl | rfl | rfl <;> exact Option.some.inj (Eq.trans (Eq.symm q2) q1)
  subst e
  rw [Nat.add_assoc sl b N]
  exact k q H1 locs ls hl hP hD hS
theorem c_newq {K : Kx} {cc : ByteArray} {own : String} {g : Gm} {nL d : Nat} {ret : Option FieldType} {Q : State → Prop} {pc : Nat} {lv : List (Nat × Value)} {st : List Value} {σ : St} {w : va_W} (hC : Ok K cc own g nL d ret) {a b mc ms N : Nat} {n : Int32} {ix : Nat} (hL : Lim K mc ms) (h1 : a + 1 ≤ mc) (h2 : b + N ≤ ms) (hcl : Cond.classLink own ix "SongHour$Clock" ∈ GW) (ho : Cond.arrayOver (.object "SongHour$Clock") ∈ lw_tbl) (hn : ¬ n < 0) (hN : n.toNatClampNeg = N) (hby : N * 4 ≤ 536870912) (hd : decode cc pc = .ok (.anewarray ix, 3)) (k : ∀ q : Nat, J (Kp K (a + 1) (b + N)) (fun _ => w ++ [(q, .inl (g.2.2.2.2.1, N, .inr (.inr (.inr (.inr (fun _ => none))))))]) nL Q (pc + 3) lv (.ref q :: st) σ) : J (Kp K a b) (fun _ => w) nL Q pc lv (.int n :: st) σ := by
  obtain ⟨p, l, e, R, s, m, args, below, meth, c, D, A, ce, sl⟩ := K
  obtain ⟨hx, hb, hml, hown, hts, hK, hA, hSF, ⟨hR1, hR2, hR3, hR4⟩, hr, hlk⟩ := hC
  obtain ⟨hL1, hL2⟩ := hL
  intro H locs ls hl hP hD hS
  obtain ⟨⟨args0, -, hB⟩, hvm0, -⟩ := id hSF
  refine va_newq (C := "SongHour$Clock") hx hb hown (hts _ hcl) (va_AO.moved hvm0.alike (va_AO.of (hB _ ho))) hK hP hD hS hA hn hN hby (by omega) (by omega) hd ?_
  intro q cA2 H1 hK2 hP hD hS
  have e : cA2 = g.2.2.2.2.1 := by
    obtain ⟨kA, comp, -, -, -, q1⟩ := (hK.2 3 _ rfl).2
    obtain ⟨kA2, comp2, -, -, -, q2⟩ := (hK2.2 (tysG g).length (cA2, .object "SongHour$Clock") (by simp)).2
    exact Option.some.inj (Eq.trans (Eq.symm q2) q1)
  subst e
  rw [Nat.add_assoc sl b N]
  exact k q H1 locs ls hl hP hD hS
theorem c_new {K : Kx} {cc : ByteArray} {own : String} {g : Gm} {nL d : Nat} {ret : Option FieldType} {Q : State → Prop} {pc : Nat} {lv : List (Nat × Value)} {st : List Value} {σ : St} {w : va_W} (hC : Ok K cc own g nL d ret) {a b mc ms N ix ci : Nat} {C : String} {T : u_T} {fs : List Value} (hL : Lim K mc ms) (h1 : a + 1 ≤ mc) (h2 : b + N ≤ ms) (hu : ∀ w ∈ u_ws C T N, w ∈ GW) (ty : Nat → FieldType) (hty : ∀ k, k < N → parseFieldDescriptor (T k).2.2.1 = some (ty k)) (w1 : Cond.classLink own ix C ∈ GW) (w2 : Cond.instantiable C N ∈ GW) (w3 : Cond.initialized C ∈ GW) (hc : vwCl[ci]? = some (C, T, N)) (hfs : ∀ j, j < N → defaultValue (ty j) = vp_V fs j) (hd : decode cc pc = .ok (.new ix, 3)) (k : ∀ q : Nat, J (Kp K (a + 1) (b + N)) (fun _ => w ++ [(q, .inr (ci, fs))]) nL Q (pc + 3) lv (.ref q :: st) σ) : J (Kp K a b) (fun _ => w) nL Q pc lv st σ := by
  obtain ⟨p, l, e, R, s, m, args, below, meth, c, D, A, ce, sl⟩ := K
  obtain ⟨hx, hb, hml, hown, hts, hK, hA, hSF, ⟨hR1, hR2, hR3, hR4⟩, hr, hlk⟩ := hC
  obtain ⟨hL1, hL2⟩ := hL
  intro H locs ls hl hP hD hS
  refine va_new (ci := ci) (fs := fs) hx hb hts hu ty hty hown (hts _ w1) (hts _ w2) (hts _ w3) hK hP hD hS hA hc hfs (by omega) (by omega) hd ?_
  intro q H1 hP hD hS
  rw [Nat.add_assoc sl b N]
  exact k q H1 locs ls hl hP hD hS
theorem c_putF {K : Kx} {cc : ByteArray} {own : String} {g : Gm} {nL d : Nat} {ret : Option FieldType} {Q : State → Prop} {pc : Nat} {lv : List (Nat × Value)} {st : List Value} {σ : St} {w : va_W} (hC : Ok K cc own g nL d ret) {w2 : va_W} {C : String} {T : u_T} {N ci ix x : Nat} {v : Value} {ty : FieldType} {fs : List Value} (hI : (match K with | (p, l, e, R, s, m, args, below, meth, c, D, A, ce, sl) => meth.name = "<init>")) (hu : ∀ w ∈ u_ws C T N, w ∈ GW) (ty0 : Nat → FieldType) (hty : ∀ k, k < N → parseFieldDescriptor (T k).2.2.1 = some (ty0 k)) (hnm : ∀ a, a < N → ∀ b, b < N → a ≠ b → (T a).2.1 ≠ (T b).2.1) (q0 : Nat) (he : w[q0]? = some (x, .inr (ci, fs))) (hc : vwCl[ci]? = some (C, T, N)) (kf : Nat) (hk : kf < N) (hlink : Cond.fieldLink own ix (T kf).1 (T kf).2.1 (T kf).2.2.1 ∈ GW) (hfin : (T kf).2.2.2 = true) (hdecl : (T kf).1 = own) (hdd : parseFieldDescriptor (T kf).2.2.1 = some ty) (hn : narrow ty v = v) (hfit : fits ty v = true) (hl0 : kf < fs.length) (hw2 : w.set q0 (x, .inr (ci, fs.set kf v)) = w2) (hd : decode cc pc = .ok (.putfield ix, 3)) (k : J K (fun _ => w2) nL Q (pc + 3) lv st σ) : J K (fun _ => w) nL Q pc lv (v :: .ref x :: st) σ := by
  obtain ⟨p, l, e, R, s, m, args, below, meth, c, D, A, ce, sl⟩ := K
  obtain ⟨hx, hb, hml, hown, hts, hK, hA, hSF, ⟨hR1, hR2, hR3, hR4⟩, hr, hlk⟩ := hC
  subst hw2
  exact fun H locs ls hl hP hD hS => va_putF (D := D) (ci := ci) (v := v) (ty := ty) hx hb hts hu ty0 hty hnm hown hK hP hD hS q0 he hc kf hk (hts _ hlink) (fun _ h9 => h9) hfin hI hdecl hdd hn hfit hl0 hd (fun H locs hP hD hS => k H locs ls hl hP hD hS)
theorem c_get {K : Kx} {cc : ByteArray} {own : String} {g : Gm} {nL d : Nat} {ret : Option FieldType} {Q : State → Prop} {pc : Nat} {lv : List (Nat × Value)} {st : List Value} {σ : St} {w : va_W} (hC : Ok K cc own g nL d ret) {C : String} {T : u_T} {N ci ix x : Nat} {v : Value} {fs : List Value} (hu : ∀ w ∈ u_ws C T N, w ∈ GW) (q0 : Nat) (he : w[q0]? = some (x, .inr (ci, fs))) (hc : vwCl[ci]? = some (C, T, N)) (kf : Nat) (hk : kf < N) (hlink : Cond.fieldLink own ix (T kf).1 (T kf).2.1 (T kf).2.2.1 ∈ GW) (hv : fs[kf]? = some v) (hd : decode cc pc = .ok (.getfield ix, 3)) (k : J K (fun _ => w) nL Q (pc + 3) lv (v :: st) σ) : J K (fun _ => w) nL Q pc lv (.ref x :: st) σ := by
  obtain ⟨p, l, e, R, s, m, args, below, meth, c, D, A, ce, sl⟩ := K
  obtain ⟨hx, hb, hml, hown, hts, hK, hA, hSF, ⟨hR1, hR2, hR3, hR4⟩, hr, hlk⟩ := hC
  exact fun H locs ls hl hP hD hS => va_get (D := D) (ci := ci) (v := v) hx hb hts hu hown hK hP q0 he hc kf hk (hts _ hlink) (fun _ h9 => h9) hv hd (k H locs ls hl hP hD hS)
theorem c_iast {K : Kx} {cc : ByteArray} {own : String} {g : Gm} {nL d : Nat} {ret : Option FieldType} {Q : State → Prop} {pc : Nat} {lv : List (Nat × Value)} {st : List Value} {σ : St} {w : va_W} (hC : Ok K cc own g nL d ret) {w2 : va_W} {cA : ClassId} {n x : Nat} {f : Nat → Int32} {i v : Int32} (q0 t0 : Nat) (he : w[q0]? = some (x, .inl (cA, n, .inl f))) (ht : (tysG g)[t0]? = some (cA, .int)) (hin : vp_in i n) (hw2 : w.set q0 (x, .inl (cA, n, .inl (upd f i.toNatClampNeg v))) = w2) (hd : decode cc pc = .ok (.iastore, 1)) (k : J K (fun _ => w2) nL Q (pc + 1) lv st σ) : J K (fun _ => w) nL Q pc lv (.int v :: .int i :: .ref x :: st) σ := by
  obtain ⟨p, l, e, R, s, m, args, below, meth, c, D, A, ce, sl⟩ := K
  obtain ⟨hx, hb, hml, hown, hts, hK, hA, hSF, ⟨hR1, hR2, hR3, hR4⟩, hr, hlk⟩ := hC
  subst hw2
  exact fun H locs ls hl hP hD hS => va_iast hx hb hK hP hD hS q0 t0 he ht hin hd (fun H locs hP hD hS => k H locs ls hl hP hD hS)
theorem c_aast {K : Kx} {cc : ByteArray} {own : String} {g : Gm} {nL d : Nat} {ret : Option FieldType} {Q : State → Prop} {pc : Nat} {lv : List (Nat × Value)} {st : List Value} {σ : St} {w : va_W} (hC : Ok K cc own g nL d ret) {w2 : va_W} {n x v : Nat} {f : Nat → Option Nat} {vs : List Value} {i : Int32} (q0 qk : Nat) (he : w[q0]? = some (x, .inl (g.2.2.2.2.1, n, .inr (.inr (.inr (.inr f)))))) (hv : w[qk]? = some (v, .inr (0, vs))) (hin : vp_in i n) (hw2 : w.set q0 (x, .inl (g.2.2.2.2.1, n, .inr (.inr (.inr (.inr (va_up f i.toNatClampNeg (some v))))))) = w2) (hd : decode cc pc = .ok (.aastore, 1)) (k : J K (fun _ => w2) nL Q (pc + 1) lv st σ) : J K (fun _ => w) nL Q pc lv (.ref v :: .int i :: .ref x :: st) σ := by
  obtain ⟨p, l, e, R, s, m, args, below, meth, c, D, A, ce, sl⟩ := K
  obtain ⟨hx, hb, hml, hown, hts, hK, hA, hSF, ⟨hR1, hR2, hR3, hR4⟩, hr, hlk⟩ := hC
  subst hw2
  exact fun H locs ls hl hP hD hS => va_astq (r := (RX0, TX0, 7)) hx hb hK hP hD hS q0 3 qk 0 he rfl hv rfl hin hd (fun H locs hP hD hS => k H locs ls hl hP hD hS)
theorem c_obj {K : Kx} {cc : ByteArray} {own : String} {g : Gm} {nL d : Nat} {ret : Option FieldType} {Q : State → Prop} {pc : Nat} {lv : List (Nat × Value)} {st : List Value} {σ : St} (hC : Ok K cc own g nL d ret) {ws : St → va_W} {x ix : Nat} (w1 : Cond.methodLink own ix objectInit ∈ GW) (hd0 : 1 ≤ d) (hcat : (st.map fun v => v.category).sum ≤ 8) (hd : decode cc pc = .ok (.invokespecial ix, 3)) (w2 : Cond.instanceMethod objectInit ∈ GW) (w3 : Cond.code objectInit ⟨#[0xb1]⟩ 1 none ∈ GW) (k : J K ws nL Q (pc + 3) lv st σ) : J K ws nL Q pc lv (.ref x :: st) σ := by
  obtain ⟨p, l, e, R, s, m, args, below, meth, c, D, A, ce, sl⟩ := K
  obtain ⟨hx, hb, hml, hown, hts, hK, hA, hSF, ⟨hR1, hR2, hR3, hR4⟩, hr, hlk⟩ := hC
  exact fun H locs ls hl hP hD hS => W.objInit hx hb hown (hts _ w1) (hts _ w2) (hts _ w3) rfl (by rw [hml]; exact hl.1) rfl hd (Nat.le_trans hd0 hR1) (by show 2 * 0 + _ + 12 ≤ _; omega) (k H locs ls hl hP hD hS)
def MC (l : Launch) (y : MethodName) (cc : ByteArray) (nL d mc ms : Nat) (D : va_G) (g : Gm) (h ci : Nat) (fs : List Value) (wp : (Nat → Nat) → va_W) : Prop := ∀ sz : Nat, Met l y (Cond.code y cc nL none :: GW) { frames := d, cells := mc, slots := ms, locals := 100 * d } (va_Pc [.ref h] (PreW g (fun _ => [(h, .inr (ci, fs))]) D sz ini0)) (va_Qv (fun _ : Nat → Nat => True) (fun q t => va_P D vwCl (wp q) t.heap ∧ va_K D vwCl (tysG g) t ∧ va_D (va_A [(h, .inr (ci, fs))] sz) (wp q)) (va_A [(h, .inr (ci, fs))] sz)) mc ms (va_A [(h, .inr (ci, fs))] sz)
def QC (K : Kx) (g : Gm) (wp : (Nat → Nat) → va_W) (mc ms : Nat) : State → Prop := match K with
  | (p, l, e, R, s, m, args, below, meth, c, D, A, ce, sl) => MQ below (va_Qv (fun _ : Nat → Nat => True) (fun q t => va_P D vwCl (wp q) t.heap ∧ va_K D vwCl (tysG g) t ∧ va_D A (wp q)) A) args s mc ms A
theorem met_C {l : Launch} {y : MethodName} {cc : ByteArray} {nL d mc ms : Nat} {D : va_G} {g : Gm} {h ci : Nat} {fs : List Value} {wp : (Nat → Nat) → va_W} {own : String} (hy : plainName y.cls = true) (ho : y.cls = own) (hin : y.name = "<init>") (hn : 1 ≤ nL)
    (body : ∀ K : Kx, Ok K cc own g nL d none → Lim K mc ms → IsIn K → J (Kp K 0 0) (fun _ => [(h, .inr (ci, fs))]) nL (QC K g wp mc ms) 0 [(0, .ref h)] [] ini0) : MC l y cc nL d mc ms D g h ci fs wp := by
  intro sz
  refine Met.ofW (cc := cc) (maxL := nL) (ret := none) hy rfl ?_
  intro p e s m args below meth c s₁ B hml hv
  obtain ⟨rfl, hsz, hP, hK, hD0, hSF⟩ := hv
  have hts := atoms_spec (ws := Cond.code y cc nL none :: GW) B.pre
  have hown : s.vm.findClass own = some m.cls := by rw [← ho]; exact findClass_of_methodNamed B.named
  have hnm : meth.name = "<init>" := by rw [(name_of_methodNamed B.named B.method).1]; exact hin
  subst hsz
  have hD := hD0.self (sz := s.heap.size)
  rw [lg_entry_eq]
  have hb := body (p, l, e, { frames := d, cells := mc, slots := ms, locals := 100 * d }, s, m, [.ref h].toArray, below, meth, c, D, va_A [(h, .inr (ci, fs))] s.heap.size, 0, 0) ⟨B.exec, B.bytes, hml, hown, fun w hw => hts w (List.mem_cons_of_mem _ hw), hK, fun q h => Or.inr h, hSF, ⟨Nat.le_refl _, Nat.le_refl _, Nat.zero_le _, Nat.zero_le _⟩, B.returns, B.notSynchronized⟩ ⟨by show 0 + mc ≤ mc; omega, by show 0 + ms ≤ ms; omega⟩ ⟨hnm, rfl, rfl⟩
  exact hb s.heap [] _ (lv_entry [.ref h] hn) hP hD va_S.rf
theorem c_ret {K : Kx} {cc : ByteArray} {own : String} {g : Gm} {nL d : Nat} {pc : Nat} {lv : List (Nat × Value)} {σ : St} {w : va_W} (hC : Ok K cc own g nL d none) {wp : (Nat → Nat) → va_W} {a b mc ms : Nat} (hL : Lim K mc ms) (hI : IsIn K) (h1 : a ≤ mc) (h2 : b ≤ ms) (q : Nat → Nat) (is : List Nat) (hs1 : is.filterMap (fun i => w[i]?) = wp q) (hnd : va_nd is = true) (hs2 : is.map (fun i => w[i]?) = (wp q).map some) (hd : decode cc pc = .ok (.return_, 1)) : J (Kp K a b) (fun _ => w) nL (QC K g wp mc ms) pc lv [] σ := by
  obtain ⟨p, l, e, R, s, m, args, below, meth, c, D, A, ce, sl⟩ := K
  obtain ⟨hx, hb, hml, hown, hts, hK, hA, hSF, ⟨hR1, hR2, hR3, hR4⟩, hr, hlk⟩ := hC
  obtain ⟨-, hI1, hI2⟩ := hI
  intro H locs ls hl hP hD hS
  have hP9 := hP.sub is hs1
  have hD9 := hD.sub is hnd hs2
  refine W.widen (k := mc) (n := ms) (by show ce + a ≤ mc; omega) (by show sl + b ≤ ms; omega) ?_
  exact W.vret hx hb hr (fun t ht hW => ⟨⟨q, rfl, trivial, by rw [ht]; exact hP9, va_K.moved hW.alike hK, hD9⟩, hS.F ht⟩) hS.2.2 hd hlk
theorem c_callI {K : Kx} {cc : ByteArray} {own : String} {g : Gm} {nL d : Nat} {ret : Option FieldType} {Q : State → Prop} {pc : Nat} {lv : List (Nat × Value)} {st : List Value} {σ : St} {w : va_W} (hC : Ok K cc own g nL d ret) {y : MethodName} {c2 : ByteArray} {n2 d2 mc2 ms2 a b mc ms ix h ci : Nat} {fs : List Value} {wp : (Nat → Nat) → va_W} (hL : Lim K mc ms) (h1 : a + mc2 ≤ mc) (h2 : b + ms2 ≤ ms) (hM : ∀ (l : Launch) (D : va_G), MC l y c2 n2 d2 mc2 ms2 D g h ci fs wp) (hdd : d2 < d) (hn2 : n2 ≤ 70) (w1 : Cond.methodLink own ix y ∈ GW ∨ ∃ host, Cond.methodLinkNest own ix y host ∈ lw_tbl) (w2 : Cond.instanceMethod y ∈ GW) (w4 : Cond.initialized y.cls ∈ GW) (w5 : Cond.code y c2 n2 none ∈ GW) (hy1 : y.name = "<init>") (hy : y.cls ≠ "java/lang/invoke/MethodHandle" ∧ y.cls ≠ "java/lang/invoke/VarHandle" ∧ (parseMethodDescriptor y.desc).map (fun d => d.parameters.length) = some 0) (hcat : (st.map fun v => v.category).sum ≤ 8) (hd : decode cc pc = .ok (.invokespecial ix, 3)) (k : ∀ q : Nat → Nat, J (Kp K (a + mc2) (b + ms2)) (fun _ => w ++ wp q) nL Q (pc + 3) lv st σ) : J (Kp K a b) (fun _ => w ++ [(h, .inr (ci, fs))]) nL Q pc lv (.ref h :: st) σ := by
  obtain ⟨p, l, e, R, s, m, args, below, meth, c, D, A, ce, sl⟩ := K
  obtain ⟨hx, hb, hml, hown, hts, hK, hA, hSF, ⟨hR1, hR2, hR3, hR4⟩, hr, hlk⟩ := hC
  obtain ⟨hL1, hL2⟩ := hL
  intro H locs ls hl hP hD hS
  have hDc := dR hD
  have hF : ∀ q : Nat, va_A [(h, Sum.inr (ci, fs))] H.size q → A q := freeW hDc hS hA
  have hG : GoodIn GW (Cond.code y c2 n2 none :: GW) := by
    intro w hw
    rcases List.mem_cons.mp hw with rfl | h
    · exact goodG1 w5
    · exact goodG1 h
  have hfit : (ce + a) + mc2 ≤ R.cells ∧ (sl + b) + ms2 ≤ R.slots := ⟨by omega, by omega⟩
  have hrun : va_Run p l e R s m args below meth c H locs (ce + a) (sl + b) mc2 ms2 (F0 m pc ls (.ref h :: st)) st (va_Qv (fun _ : Nat → Nat => True) (fun q t => va_P D vwCl (wp q) t.heap ∧ va_K D vwCl (tysG g) t ∧ va_D (va_A [(h, .inr (ci, fs))] H.size) (wp q)) (va_A [(h, .inr (ci, fs))] H.size) (Value.ref h :: []).toArray) (va_A [(h, .inr (ci, fs))] H.size) := by
    have hpre : PreS s H (va_Pc [.ref h] (PreW g (fun _ => [(h, .inr (ci, fs))]) D H.size ini0)) (.ref h :: []) := ⟨preW_blind, fun U hU hW => ⟨rfl, by rw [hU], by rw [hU]; exact pR hP, va_K.moved hW.alike hK, hDc.weaken (fun _ _ _ _ => trivial), hSF.next hA hS hF hU hW⟩⟩
    rcases w1 with w1 | ⟨host, w1⟩
    · exact va_runI (As := []) (rest := st) ⟨hx, hb, hml, hown, hts⟩ (hM l D H.size) (cwI 0 hts hG rfl rfl rfl (hts _ w4) (hts _ w1) (hts _ w2) hy1 hy ⟨Nat.le_trans hdd hR1, Nat.le_trans (show 8 + (n2 + 11) + 100 * d2 ≤ 100 * d by omega) hR2⟩) hpre rfl rfl hl.1 rfl (lv_room hcat) hd hfit
    · obtain ⟨⟨args0, -, hB⟩, hvm0, -⟩ := id hSF
      have hN : va_Nw (.methodLinkNest own ix y host) s := va_Nw.warmM hvm0 (va_Nw.of rfl (hB _ w1))
      exact va_runIN (As := []) (rest := st) ⟨hx, hb, hml, hown, hts⟩ (hM l D H.size) ⟨va_cnB 0 hts hG rfl rfl rfl hN (hts _ w4) hy ⟨Nat.le_trans hdd hR1, Nat.le_trans (show 8 + (n2 + 11) + 100 * d2 ≤ 100 * d by omega) hR2⟩, hy1, hts _ w2⟩ hpre rfl rfl hl.1 rfl (lv_room hcat) hd hfit
  refine va_callv hrun hS (fun q _ h => hF q h) hF ?_
  intro u t H1 locs1 ht hvm hw hB hz1 hk1 hS1
  obtain ⟨hP1, hK1, hD1⟩ := hB
  rw [ht] at hP1
  obtain ⟨hP, hD⟩ := joinR hP hD hk1 hF hP1 hD1
  rw [Nat.add_assoc ce a mc2, Nat.add_assoc sl b ms2]
  exact k u H1 locs1 ls hl hP hD hS1
theorem j_ws {K : Kx} {nL : Nat} {ws ws2 : St → va_W} {Q : State → Prop} {pc : Nat} {lv : List (Nat × Value)} {st : List Value} {σ σ2 : St} (h : ws σ = ws2 σ2) (k : J K ws2 nL Q pc lv st σ2) : J K ws nL Q pc lv st σ := by
  obtain ⟨p, l, e, R, s, m, args, below, meth, c, D, A, ce, sl⟩ := K
  intro H locs ls hl hP hD hS
  rw [h] at hP hD
  exact k H locs ls hl hP hD hS
def fillF (n : Nat) (x : Int32) (f : Nat → Int32) : Nat → Int32 := fun j => if j < n then x else f j
theorem fillF_0 (x : Int32) (f : Nat → Int32) : fillF 0 x f = f := by funext j; simp [fillF]
theorem fillF_s (n : Nat) (x : Int32) (f : Nat → Int32) : upd (fillF n x f) n x = fillF (n + 1) x f := by
  funext j
  unfold upd fillF
  by_cases h : j = n
  · rw [if_pos h, if_pos (by omega)]
  · rw [if_neg h]
    by_cases h2 : j < n
    · rw [if_pos h2, if_pos (by omega)]
    · rw [if_neg h2, if_neg (by omega)]
theorem sg_sg (σ : St) (a : Nat) (f f2 : Nat → Int32) : sg (sg σ a f) a f2 = sg σ a f2 := by
  unfold sg
  refine congrArg (fun z => (σ.1, z, σ.2.2)) ?_
  funext b
  by_cases h : b = a
  · simp [h]
  · simp [h]
theorem ga_sg (σ : St) (a : Nat) (f : Nat → Int32) : ga (sg σ a f) a = f := by simp [ga, sg]
section FILL
variable {K : Kx} {cc : ByteArray} {own : String} {g : Gm} {nL d : Nat} {ret : Option FieldType} {Q : State → Prop} {pc : Nat} {lv : List (Nat × Value)} {st : List Value} {σ : St} {ws : St → va_W} {q0 q n : Nat}
theorem f_len (hC : Ok K cc own g nL d ret) (hpl : ∀ σ, (ws σ)[q0]? = some (q, .inl (g.2.1, n, .inl (ga σ 0)))) (hd : decode cc pc = .ok (.arraylength, 1)) (k : J K ws nL Q (pc + 1) lv (.int (nI n) :: st) σ) : J K ws nL Q pc lv (.ref q :: st) σ := by
  obtain ⟨p, l, e, R, s, m, args, below, meth, c, D, A, ce, sl⟩ := K
  obtain ⟨hx, hb, hml, hown, hts, hK, hA, hSF, ⟨hR1, hR2, hR3, hR4⟩, hr, hlk⟩ := hC
  exact fun H locs ls hl hP hD hS => va_alen hx hb hK hP q0 0 (hpl σ) rfl rfl hd (k H locs ls hl hP hD hS)
theorem f_ast (hC : Ok K cc own g nL d ret) (hpl : ∀ σ, (ws σ)[q0]? = some (q, .inl (g.2.1, n, .inl (ga σ 0)))) (hset : ∀ σ f, (ws σ).set q0 (q, .inl (g.2.1, n, .inl f)) = ws (sg σ 0 f)) {i x : Int32} (hin : vp_in i n) (hd : decode cc pc = .ok (.iastore, 1)) (k : J K ws nL Q (pc + 1) lv st (sg σ 0 (upd (ga σ 0) i.toNatClampNeg x))) : J K ws nL Q pc lv (.int x :: .int i :: .ref q :: st) σ := by
  obtain ⟨p, l, e, R, s, m, args, below, meth, c, D, A, ce, sl⟩ := K
  obtain ⟨hx, hb, hml, hown, hts, hK, hA, hSF, ⟨hR1, hR2, hR3, hR4⟩, hr, hlk⟩ := hC
  exact fun H locs ls hl hP hD hS => va_iast hx hb hK hP hD hS q0 0 (hpl σ) rfl hin hd (fun H locs hP hD hS => k H locs ls hl (by rw [← hset]; exact hP) (by rw [← hset]; exact hD) hS)
end FILL
theorem fill_loop {K : Kx} {g : Gm} {ws : St → va_W} {q0 q n d : Nat} {x : Int32} {s0 : St} (hn : n < 2 ^ 31) (hC : Ok K cJ7_fill_53178 RJ7 g 4 d none) (hpl : ∀ σ, (ws σ)[q0]? = some (q, .inl (g.2.1, n, .inl (ga σ 0)))) (hset : ∀ σ f, (ws σ).set q0 (q, .inl (g.2.1, n, .inl f)) = ws (sg σ 0 f)) : ∀ (k i : Nat), i + k = n → J K ws 4 (QV K g ws (0, sg s0 0 (fillF n x (ga s0 0)))) 5 [(0, .ref q), (1, .int x), (2, .int (nI i)), (3, .int (nI n))] [] (sg s0 0 (fillF i x (ga s0 0))) := by
  intro k
  induction k with
  | zero =>
    intro i hi
    have hi : i = n := by omega
    subst hi
    refine j_iload_n hC dJ7_fill_53178_5 rfl 2 rfl ?_
    refine j_iload_n hC dJ7_fill_53178_6 rfl 3 rfl ?_
    refine j_icmp_ge (o := ()) (T := some ()) (F := none) (tgt := 20) hC dJ7_fill_53178_7 (by decide) (if_pos (nI_le (Nat.le_refl _) hn)) (fun _ => ?_) (fun h => by cases h)
    exact j_vret (v := 0) hC dJ7_fill_53178_20 rfl
  | succ k ih =>
    intro i hi
    refine j_iload_n hC dJ7_fill_53178_5 rfl 2 rfl ?_
    refine j_iload_n hC dJ7_fill_53178_6 rfl 3 rfl ?_
    refine j_icmp_ge (o := ()) (T := none) (F := some ()) (tgt := 20) hC dJ7_fill_53178_7 (by decide) (if_neg (nI_ge (by omega) hn)) (fun h => by cases h) (fun _ => ?_)
    refine j_aload_n hC dJ7_fill_53178_10 rfl 0 rfl ?_
    refine j_iload_n hC dJ7_fill_53178_11 rfl 2 rfl ?_
    refine j_iload_n hC dJ7_fill_53178_12 rfl 1 rfl ?_
    refine f_ast hC hpl hset (vp_in_nI (by omega) hn) dJ7_fill_53178_13 ?_
    rw [nI_clamp (by omega), ga_sg, sg_sg, fillF_s]
    refine j_iinc (k0 := 2) (n2 := 1) hC dJ7_fill_53178_14 rfl (by decide) (by decide) rfl ?_
    refine j_goto (tgt := 5) hC dJ7_fill_53178_17 (by decide) ?_
    rw [nI_1]
    refine j_sub [1, 2, 0, 3] rfl ?_
    exact ih (i + 1) (by omega)
theorem fill_ok (l : Launch) (D : va_G) (g : Gm) {ws : St → va_W} {q0 q n : Nat} (hn : n < 2 ^ 31) (hpl : ∀ σ, (ws σ)[q0]? = some (q, .inl (g.2.1, n, .inl (ga σ 0)))) (hset : ∀ σ f, (ws σ).set q0 (q, .inl (g.2.1, n, .inl f)) = ws (sg σ 0 f)) (x : Int32) (s0 : St) (hs : sg s0 0 (ga s0 0) = s0) : MV l yJ7_fill_53178 cJ7_fill_53178 4 none 0 D g ws [.ref q, .int x] s0 (0, sg s0 0 (fillF n x (ga s0 0))) := by
  refine met_V (own := RJ7) (by decide) rfl (Nat.le_of_ble_eq_true rfl) (fun K hC => ?_)
  show J K ws 4 (QV K g ws (0, sg s0 0 (fillF n x (ga s0 0)))) 0 [(0, .ref q), (1, .int x)] [] s0
  refine j_iconst (v := 0) hC dJ7_fill_53178_0 (by decide) ?_
  refine j_istore_n hC dJ7_fill_53178_1 rfl (by decide) rfl ?_
  refine j_aload_n hC dJ7_fill_53178_2 rfl 1 rfl ?_
  refine f_len hC hpl dJ7_fill_53178_3 ?_
  refine j_istore_n hC dJ7_fill_53178_4 rfl (by decide) rfl ?_
  refine j_sub (lv2 := [(0, .ref q), (1, .int x), (2, .int 0), (3, .int (nI n))]) [2, 3, 1, 0] rfl ?_
  have h := fill_loop (x := x) (s0 := s0) hn hC hpl hset n 0 (by omega)
  rw [fillF_0, hs] at h
  exact h
theorem mcd_fill : Cond.code yJ7_fill_53178 cJ7_fill_53178 4 none ∈ GW := memT (i := 142) (by decide +kernel) rfl
theorem mst_fill : Cond.static yJ7_fill_53178 ∈ GW := memT (i := 141) (by decide +kernel) rfl
theorem min_J7 : Cond.initialized RJ7 ∈ GW := memT (i := 7) (by decide +kernel) rfl
theorem ml_X4_52 : Cond.methodLink RX4 52 yJ7_fill_53178 ∈ GW := memT (i := 140) (by decide +kernel) rfl
theorem mds_fill : yJ7_fill_53178.cls ≠ "java/lang/invoke/MethodHandle" ∧ yJ7_fill_53178.cls ≠ "java/lang/invoke/VarHandle" ∧ (parseMethodDescriptor yJ7_fill_53178.desc).map (fun d => d.parameters.length) = some 2 := by decide +kernel
theorem c_fill {K : Kx} {cc : ByteArray} {g : Gm} {nL d : Nat} {ret : Option FieldType} {Q : State → Prop} {pc : Nat} {lv : List (Nat × Value)} {st : List Value} {w w2 : va_W} (hC : Ok K cc RX4 g nL d ret) (q0 : Nat) {q n : Nat} (hn : n < 2 ^ 31) (he : w[q0]? = some (q, .inl (g.2.1, n, .inl (fun _ => 0)))) (x : Int32) (hdd : 0 < d) (hcat : (st.map fun v => v.category).sum ≤ 8) (hw2 : w.set q0 (q, .inl (g.2.1, n, .inl (fillF n x (fun _ => 0)))) = w2) (hd : decode cc pc = .ok (.invokestatic 52, 3)) (k : J K (fun _ => w2) nL Q (pc + 3) lv st ini0) : J K (fun _ => w) nL Q pc lv (.int x :: .ref q :: st) ini0 := by
  have hlt : q0 < w.length := (List.getElem?_eq_some_iff.mp he).1
  refine j_ws (ws2 := fun σ => w.set q0 (q, .inl (g.2.1, n, .inl (ga σ 0)))) (σ2 := ini0) ?_ ?_
  · show w = w.set q0 (q, .inl (g.2.1, n, .inl (fun _ => 0)))
    apply List.ext_getElem?
    intro j
    rw [List.getElem?_set]
    split
    · next h => subst h; first | exact he | (rw [if_pos hlt]; exact he)
    · rfl
  · refine j_callSv (As := [.ref q, .int x]) (σ2 := sg ini0 0 (fillF n x (ga ini0 0))) (r := 0) hC (fun l D => fill_ok l D g (q0 := q0) hn ?_ ?_ x ini0 ?_) hdd (by decide) ml_X4_52 mst_fill min_J7 mcd_fill mds_fill hcat rfl hd ?_
    · intro σ
      rw [List.getElem?_set_self hlt]
    · intro σ f
      rw [List.set_set, ga_sg]
    · unfold sg ini0 ga
      refine congrArg (fun z => ((fun _ => 0 : Nat → Int32), z, (0 : Int64))) ?_
      funext b
      by_cases h : b = 0 <;> simp [h]
    · refine j_ws (ws2 := fun _ => w2) (σ2 := ini0) ?_ k
      rw [ga_sg]
      exact hw2
theorem c_cpyT {K : Kx} {cc : ByteArray} {g : Gm} {nL d : Nat} {ret : Option FieldType} {Q : State → Prop} {pc : Nat} {lv : List (Nat × Value)} {st : List Value} {σ : St} {w w2 : va_W} (hC : Ok K cc RX3 g nL d ret) {t q : Nat} {f : Nat → Int32} (hT : va_T .int t 5 (fun j => .int (tb_USUAL j)) (oldA (s0G g)) (s0G g) (s0G g).heap) (q0 : Nat) (he : w[q0]? = some (q, .inl (g.2.1, 5, .inl f))) (hd0 : 1 ≤ d) (hcat : (st.map fun v => v.category).sum ≤ 8) (hw2 : w.set q0 (q, .inl (g.2.1, 5, .inl (va_cpy tb_USUAL f 0 0 5))) = w2) (hd : decode cc pc = .ok (.invokestatic 25, 3)) (k : J K (fun _ => w2) nL Q (pc + 3) lv st σ) : J K (fun _ => w) nL Q pc lv (.int 5 :: .int 0 :: .ref q :: .int 0 :: .ref t :: st) σ := by
  obtain ⟨p, l, e, R, s, m, args, below, meth, c, D, A, ce, sl⟩ := K
  obtain ⟨hx, hb, hml, hown, hts, hK, hA, hSF, ⟨hR1, hR2, hR3, hR4⟩, hr, hlk⟩ := hC
  subst hw2
  have hn := nfw
  exact fun H locs ls hl hP hD hS => w_copyT (k := 5) hx hb (by rw [hml]; exact hl.1.symm) hown (hts _ mac_l) (hts _ mac_n) (hts _ mac_s) (hts _ mac_i) hK hP hD hS (hSF.T hT) q0 0 he rfl (by decide) (by decide) (by decide) (Nat.le_trans hd0 hR1) (by omega) hd (fun H locs hP hD hS => k H locs ls hl hP hD hS)
theorem mo_i : Cond.instanceMethod objectInit ∈ GW := memT (i := 27) (by decide +kernel) rfl
theorem mo_c : Cond.code objectInit ⟨#[0xb1]⟩ 1 none ∈ GW := memT (i := 28) (by decide +kernel) rfl
theorem ma_int : Cond.arrayClass .int ∈ GW := memT (i := 98) (by decide +kernel) rfl
theorem ma_byte : Cond.arrayClass .byte ∈ GW := memT (i := 70) (by decide +kernel) rfl
theorem ma_boolean : Cond.arrayClass .boolean ∈ GW := memT (i := 99) (by decide +kernel) rfl
theorem ma_long : Cond.arrayClass .long ∈ GW := memT (i := 1147) (by decide +kernel) rfl
theorem mo_l_X0 : Cond.methodLink RX0 3 objectInit ∈ GW := memT (i := 106) (by decide +kernel) rfl
theorem mi_X0_init : Cond.instanceMethod yX0_init ∈ GW := memT (i := 104) (by decide +kernel) rfl
theorem mcd_X0_init : Cond.code yX0_init cX0_init 1 none ∈ GW := memT (i := 105) (by decide +kernel) rfl
theorem mds_X0_init : yX0_init.cls ≠ "java/lang/invoke/MethodHandle" ∧ yX0_init.cls ≠ "java/lang/invoke/VarHandle" ∧ (parseMethodDescriptor yX0_init.desc).map (fun d => d.parameters.length) = some 0 := by decide +kernel
theorem mins_X0 : Cond.instantiable RX0 7 ∈ GW := memT (i := 102) (by decide +kernel) rfl
theorem mo_l_X1 : Cond.methodLink RX1 3 objectInit ∈ GW := memT (i := 207) (by decide +kernel) rfl
theorem mi_X1_init : Cond.instanceMethod yX1_init ∈ GW := memT (i := 205) (by decide +kernel) rfl
theorem mcd_X1_init : Cond.code yX1_init cX1_init 1 none ∈ GW := memT (i := 206) (by decide +kernel) rfl
theorem mds_X1_init : yX1_init.cls ≠ "java/lang/invoke/MethodHandle" ∧ yX1_init.cls ≠ "java/lang/invoke/VarHandle" ∧ (parseMethodDescriptor yX1_init.desc).map (fun d => d.parameters.length) = some 0 := by decide +kernel
theorem mins_X1 : Cond.instantiable RX1 10 ∈ GW := memT (i := 203) (by decide +kernel) rfl
theorem mo_l_X2 : Cond.methodLink RX2 3 objectInit ∈ GW := memT (i := 254) (by decide +kernel) rfl
theorem mi_X2_init : Cond.instanceMethod yX2_init ∈ GW := memT (i := 252) (by decide +kernel) rfl
theorem mcd_X2_init : Cond.code yX2_init cX2_init 1 none ∈ GW := memT (i := 253) (by decide +kernel) rfl
theorem mds_X2_init : yX2_init.cls ≠ "java/lang/invoke/MethodHandle" ∧ yX2_init.cls ≠ "java/lang/invoke/VarHandle" ∧ (parseMethodDescriptor yX2_init.desc).map (fun d => d.parameters.length) = some 0 := by decide +kernel
theorem mins_X2 : Cond.instantiable RX2 20 ∈ GW := memT (i := 250) (by decide +kernel) rfl
theorem mo_l_X3 : Cond.methodLink RX3 3 objectInit ∈ GW := memT (i := 76) (by decide +kernel) rfl
theorem mi_X3_init : Cond.instanceMethod yX3_init ∈ GW := memT (i := 74) (by decide +kernel) rfl
theorem mcd_X3_init : Cond.code yX3_init cX3_init 1 none ∈ GW := memT (i := 75) (by decide +kernel) rfl
theorem mds_X3_init : yX3_init.cls ≠ "java/lang/invoke/MethodHandle" ∧ yX3_init.cls ≠ "java/lang/invoke/VarHandle" ∧ (parseMethodDescriptor yX3_init.desc).map (fun d => d.parameters.length) = some 0 := by decide +kernel
theorem mins_X3 : Cond.instantiable RX3 4 ∈ GW := memT (i := 72) (by decide +kernel) rfl
theorem mo_l_X4 : Cond.methodLink RX4 3 objectInit ∈ GW := memT (i := 139) (by decide +kernel) rfl
theorem mi_X4_init : Cond.instanceMethod yX4_init ∈ GW := memT (i := 137) (by decide +kernel) rfl
theorem mcd_X4_init : Cond.code yX4_init cX4_init 1 none ∈ GW := memT (i := 138) (by decide +kernel) rfl
theorem mds_X4_init : yX4_init.cls ≠ "java/lang/invoke/MethodHandle" ∧ yX4_init.cls ≠ "java/lang/invoke/VarHandle" ∧ (parseMethodDescriptor yX4_init.desc).map (fun d => d.parameters.length) = some 0 := by decide +kernel
theorem mins_X4 : Cond.instantiable RX4 14 ∈ GW := memT (i := 135) (by decide +kernel) rfl
theorem mo_l_X5 : Cond.methodLink RX5 1 objectInit ∈ GW := memT (i := 34) (by decide +kernel) rfl
theorem mi_X5_init : Cond.instanceMethod yX5_init ∈ GW := memT (i := 32) (by decide +kernel) rfl
theorem mcd_X5_init : Cond.code yX5_init cX5_init 1 none ∈ GW := memT (i := 33) (by decide +kernel) rfl
theorem mds_X5_init : yX5_init.cls ≠ "java/lang/invoke/MethodHandle" ∧ yX5_init.cls ≠ "java/lang/invoke/VarHandle" ∧ (parseMethodDescriptor yX5_init.desc).map (fun d => d.parameters.length) = some 0 := by decide +kernel
theorem mins_X5 : Cond.instantiable RX5 9 ∈ GW := memT (i := 30) (by decide +kernel) rfl
theorem mo_l_X6 : Cond.methodLink RX6 1 objectInit ∈ GW := memT (i := 26) (by decide +kernel) rfl
theorem mi_X6_init : Cond.instanceMethod yX6_init ∈ GW := memT (i := 24) (by decide +kernel) rfl
theorem mcd_X6_init : Cond.code yX6_init cX6_init 2 none ∈ GW := memT (i := 25) (by decide +kernel) rfl
theorem mds_X6_init : yX6_init.cls ≠ "java/lang/invoke/MethodHandle" ∧ yX6_init.cls ≠ "java/lang/invoke/VarHandle" ∧ (parseMethodDescriptor yX6_init.desc).map (fun d => d.parameters.length) = some 0 := by decide +kernel
theorem mins_X6 : Cond.instantiable RX6 7 ∈ GW := memT (i := 22) (by decide +kernel) rfl
theorem mo_l_X7 : Cond.methodLink RX7 1 objectInit ∈ GW := memT (i := 800) (by decide +kernel) rfl
theorem mi_X7_init : Cond.instanceMethod yX7_init ∈ GW := memT (i := 798) (by decide +kernel) rfl
theorem mcd_X7_init : Cond.code yX7_init cX7_init 1 none ∈ GW := memT (i := 799) (by decide +kernel) rfl
theorem mds_X7_init : yX7_init.cls ≠ "java/lang/invoke/MethodHandle" ∧ yX7_init.cls ≠ "java/lang/invoke/VarHandle" ∧ (parseMethodDescriptor yX7_init.desc).map (fun d => d.parameters.length) = some 0 := by decide +kernel
theorem mins_X7 : Cond.instantiable RX7 54 ∈ GW := memT (i := 796) (by decide +kernel) rfl
theorem mcl_X5 : Cond.classLink RX6 7 RX5 ∈ GW := memT (i := 29) (by decide +kernel) rfl
theorem mcl_X3 : Cond.classLink RX6 16 RX3 ∈ GW := memT (i := 71) (by decide +kernel) rfl
theorem mcl_X0 : Cond.classLink RX6 23 RX0 ∈ GW := memT (i := 100) (by decide +kernel) rfl
theorem mcl_X4 : Cond.classLink RX6 34 RX4 ∈ GW := memT (i := 134) (by decide +kernel) rfl
theorem mcl_X1 : Cond.classLink RX6 41 RX1 ∈ GW := memT (i := 202) (by decide +kernel) rfl
theorem mcl_X2 : Cond.classLink RX6 48 RX2 ∈ GW := memT (i := 249) (by decide +kernel) rfl
theorem mao : Cond.arrayOver (.object "SongHour$Clock") ∈ lw_tbl := List.mem_append_right _ (List.mem_of_getElem? (i := 101) (by decide +kernel))
theorem mln_X6_9 : Cond.methodLink RX6 9 yX5_init ∈ GW ∨ ∃ host, Cond.methodLinkNest RX6 9 yX5_init host ∈ lw_tbl := Or.inr ⟨"SongHour", List.mem_append_right _ (List.mem_of_getElem? (i := 31) (by decide +kernel))⟩
theorem mln_X6_29 : Cond.methodLink RX6 29 yX0_init ∈ GW ∨ ∃ host, Cond.methodLinkNest RX6 29 yX0_init host ∈ lw_tbl := Or.inr ⟨"SongHour", List.mem_append_right _ (List.mem_of_getElem? (i := 103) (by decide +kernel))⟩
theorem mln_X6_43 : Cond.methodLink RX6 43 yX1_init ∈ GW ∨ ∃ host, Cond.methodLinkNest RX6 43 yX1_init host ∈ lw_tbl := Or.inr ⟨"SongHour", List.mem_append_right _ (List.mem_of_getElem? (i := 204) (by decide +kernel))⟩
theorem mln_X6_50 : Cond.methodLink RX6 50 yX2_init ∈ GW ∨ ∃ host, Cond.methodLinkNest RX6 50 yX2_init host ∈ lw_tbl := Or.inr ⟨"SongHour", List.mem_append_right _ (List.mem_of_getElem? (i := 251) (by decide +kernel))⟩
theorem mln_X6_18 : Cond.methodLink RX6 18 yX3_init ∈ GW ∨ ∃ host, Cond.methodLinkNest RX6 18 yX3_init host ∈ lw_tbl := Or.inl (memT (i := 73) (by decide +kernel) rfl)
theorem mln_X6_36 : Cond.methodLink RX6 36 yX4_init ∈ GW ∨ ∃ host, Cond.methodLinkNest RX6 36 yX4_init host ∈ lw_tbl := Or.inl (memT (i := 136) (by decide +kernel) rfl)
