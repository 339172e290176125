/-! the flat state of a world: int fields, int arrays, one long -/
abbrev St : Type := (Nat → Int32) × (Nat → Nat → Int32) × Int64
def gi (σ : St) (k : Nat) : Int32 := σ.1 k
def ga (σ : St) (a : Nat) : Nat → Int32 := σ.2.1 a
def gl (σ : St) : Int64 := σ.2.2
def si (σ : St) (k : Nat) (v : Int32) : St := (upd σ.1 k v, σ.2)
def sg (σ : St) (a : Nat) (f : Nat → Int32) : St := (σ.1, (fun b => if b = a then f else σ.2.1 b), σ.2.2)
def sa (σ : St) (a i : Nat) (v : Int32) : St := sg σ a (upd (ga σ a) i v)
def sl (σ : St) (v : Int64) : St := (σ.1, σ.2.1, v)
/-- the words that every method here is given -/
def GW : List Cond := lw_tbl.filter goodWord
theorem memT {i : Nat} {w : Cond} (h : tables_1[i]? = some w) (hg : goodWord w = true) : w ∈ GW := List.mem_filter.mpr ⟨List.mem_append_right _ (List.mem_of_getElem? h), hg⟩
theorem memS {i : Nat} {w : Cond} (h : (k2_sels lw_privs)[i]? = some w) (hg : goodWord w = true) : w ∈ GW := List.mem_filter.mpr ⟨List.mem_append_left _ (List.mem_of_getElem? h), hg⟩
theorem goodGW {big : List Cond} (hb : ∀ w ∈ GW, w ∈ big) : GoodIn big GW := fun w hw => ⟨hb w hw, good_of_word (List.mem_filter.mp hw).2⟩
theorem goodG1 {w : Cond} (h : w ∈ GW) : w ∈ GW ∧ ((w.onTables && w.keeps) = true ∨ ∃ ty, w = .arrayClass ty) := ⟨h, good_of_word (List.mem_filter.mp h).2⟩
def Rm (d : Nat) : Room := { frames := d, cells := 0, slots := 0, locals := 100 * d }
/-- addresses, array classes, the state at the law's start -/
abbrev Gm : Type := (Nat → Nat) × ClassId × ClassId × ClassId × ClassId × ClassId × State
def tysG (g : Gm) : List (ClassId × FieldType) := [(g.2.1, .int), (g.2.2.1, .byte), (g.2.2.2.1, .boolean), (g.2.2.2.2.1, .object "SongHour$Clock"), (g.2.2.2.2.2.1, .long)]
def s0G (g : Gm) : State := g.2.2.2.2.2.2
def BaseS (s0 : State) : Prop := ∃ args0 : Array Value, (Jvm.Cond.and given_1 narrow_1).before args0 s0 = true ∧ ∀ w ∈ lw_tbl, w.before args0 s0 = true
def SF (g : Gm) (A : Nat → Prop) (U : State) : Prop := BaseS (s0G g) ∧ (s0G g).WarmedH U.vm ∧ ∀ a : Nat, a < (s0G g).heap.size → ¬ A a ∧ U.heap[a]? = (s0G g).heap[a]?
abbrev Kx : Type := Program × Launch × Env × Room × State × MethodId × Array Value × List Frame × Method × Code × va_G × (Nat → Prop) × Nat × Nat
def J (K : Kx) (ws : St → va_W) (nL : Nat) (Q : State → Prop) (pc : Nat) (lv : List (Nat × Value)) (st : List Value) (σ : St) : Prop := match K with
  | (p, l, e, R, s, m, args, below, meth, c, D, A, ce, sl) => ∀ (H : Heap) (locs : List Loc) (ls : Array Slot), lv_has ls nL lv → va_P D vwCl (ws σ) H → va_D A (ws σ) → va_S A s.heap H locs → W p l e R s m args below meth c H locs ce sl Q (F0 m pc ls st)
def Ok (K : Kx) (cc : ByteArray) (own : String) (g : Gm) (nL d : Nat) (ret : Option FieldType) : Prop := match K with
  | (p, l, e, R, s, m, args, below, meth, c, D, A, ce, sl) => p.tables.exec = Jvm.exec ∧ c.code = cc ∧ c.maxLocals = nL ∧ s.vm.findClass own = some m.cls ∧ (∀ w ∈ GW, w.before args s = true) ∧ va_K D vwCl (tysG g) s ∧ (∀ q : Nat, s.heap.size ≤ q → A q) ∧ SF g A s ∧ (d ≤ R.frames ∧ 100 * d ≤ R.locals ∧ ce ≤ R.cells ∧ sl ≤ R.slots) ∧ meth.sig.returnType = ret ∧ meth.locks = false
def Bw (g : Gm) (ws : St → va_W) (D : va_G) (A : Nat → Prop) (u : St) (t : State) : Prop := va_P D vwCl (ws u) t.heap ∧ va_K D vwCl (tysG g) t ∧ va_D A (ws u)
def QI (K : Kx) (g : Gm) (ws : St → va_W) (o : Int32 × St) : State → Prop := match K with
  | (p, l, e, R, s, m, args, below, meth, c, D, A, ce, sl) => MQ below (va_Qi (fun r u => (r, u) = o) (Bw g ws D A) A) args s ce sl A
def QV (K : Kx) (g : Gm) (ws : St → va_W) (o : Int32 × St) : State → Prop := match K with
  | (p, l, e, R, s, m, args, below, meth, c, D, A, ce, sl) => MQ below (va_Qv (fun u => u = o.2) (Bw g ws D A) A) args s ce sl A
def QL (K : Kx) (g : Gm) (ws : St → va_W) (o : Int64 × St) : State → Prop := match K with
  | (p, l, e, R, s, m, args, below, meth, c, D, A, ce, sl) => MQ below (va_Ql (fun r u => (r, u) = o) (Bw g ws D A) A) args s ce sl A
/-- contracts: from the world at σ the method comes back with o -/
def PreW (g : Gm) (ws : St → va_W) (D : va_G) (sz : Nat) (σ : St) (U : State) : Prop := U.heap.size = sz ∧ va_P D vwCl (ws σ) U.heap ∧ va_K D vwCl (tysG g) U ∧ va_D (fun _ => True) (ws σ) ∧ SF g (va_A (ws σ) sz) U
def MI (l : Launch) (y : MethodName) (cc : ByteArray) (nL : Nat) (ret : Option FieldType) (d : Nat) (D : va_G) (g : Gm) (ws : St → va_W) (av : List Value) (σ : St) (o : Int32 × St) : Prop := ∀ sz : Nat, Met l y (Cond.code y cc nL ret :: GW) (Rm d) (va_Pc av (PreW g ws D sz σ)) (va_Qi (fun r u => (r, u) = o) (Bw g ws D (va_A (ws σ) sz)) (va_A (ws σ) sz)) 0 0 (va_A (ws σ) sz)
def MV (l : Launch) (y : MethodName) (cc : ByteArray) (nL : Nat) (ret : Option FieldType) (d : Nat) (D : va_G) (g : Gm) (ws : St → va_W) (av : List Value) (σ : St) (o : Int32 × St) : Prop := ∀ sz : Nat, Met l y (Cond.code y cc nL ret :: GW) (Rm d) (va_Pc av (PreW g ws D sz σ)) (va_Qv (fun u => u = o.2) (Bw g ws D (va_A (ws σ) sz)) (va_A (ws σ) sz)) 0 0 (va_A (ws σ) sz)
def ML (l : Launch) (y : MethodName) (cc : ByteArray) (nL : Nat) (ret : Option FieldType) (d : Nat) (D : va_G) (g : Gm) (ws : St → va_W) (av : List Value) (σ : St) (o : Int64 × St) : Prop := ∀ sz : Nat, Met l y (Cond.code y cc nL ret :: GW) (Rm d) (va_Pc av (PreW g ws D sz σ)) (va_Ql (fun r u => (r, u) = o) (Bw g ws D (va_A (ws σ) sz)) (va_A (ws σ) sz)) 0 0 (va_A (ws σ) sz)

theorem met_I {l : Launch} {y : MethodName} {cc : ByteArray} {nL : Nat} {ret : Option FieldType} {d : Nat} {D : va_G} {g : Gm} {ws : St → va_W} {av : List Value} {σ : St} {o : Int32 × St} {own : String} (hy : plainName y.cls = true) (ho : y.cls = own) (hn : (lg_sl av).length ≤ nL)
    (body : ∀ K : Kx, Ok K cc own g nL d ret → J K ws nL (QI K g ws o) 0 (lv_args 0 av) [] σ) : MI l y cc nL ret d D g ws av σ o := by
  intro sz
  refine Met.ofW (cc := cc) (maxL := nL) (ret := ret) hy rfl ?_
  intro p e s m args below meth c s₁ B hml hv
  obtain ⟨rfl, hsz, hP, hK, hD0, hSF⟩ := hv
  have hts := atoms_spec (ws := Cond.code y cc nL ret :: GW) B.pre
  have hown : s.vm.findClass own = some m.cls := by rw [← ho]; exact findClass_of_methodNamed B.named
  subst hsz
  have hD := hD0.self (sz := s.heap.size)
  rw [lg_entry_eq]
  have hb := body (p, l, e, Rm d, s, m, av.toArray, below, meth, c, D, va_A (ws σ) s.heap.size, 0, 0) ⟨B.exec, B.bytes, hml, hown, fun w hw => hts w (List.mem_cons_of_mem _ hw), hK, fun q h => Or.inr h, hSF, ⟨Nat.le_refl _, Nat.le_refl _, Nat.le_refl _, Nat.le_refl _⟩, B.returns, B.notSynchronized⟩
  exact hb s.heap [] _ (lv_entry av hn) hP hD va_S.rf
theorem met_V {l : Launch} {y : MethodName} {cc : ByteArray} {nL : Nat} {ret : Option FieldType} {d : Nat} {D : va_G} {g : Gm} {ws : St → va_W} {av : List Value} {σ : St} {o : Int32 × St} {own : String} (hy : plainName y.cls = true) (ho : y.cls = own) (hn : (lg_sl av).length ≤ nL)
    (body : ∀ K : Kx, Ok K cc own g nL d ret → J K ws nL (QV K g ws o) 0 (lv_args 0 av) [] σ) : MV l y cc nL ret d D g ws av σ o := by
  intro sz
  refine Met.ofW (cc := cc) (maxL := nL) (ret := ret) hy rfl ?_
  intro p e s m args below meth c s₁ B hml hv
  obtain ⟨rfl, hsz, hP, hK, hD0, hSF⟩ := hv
  have hts := atoms_spec (ws := Cond.code y cc nL ret :: GW) B.pre
  have hown : s.vm.findClass own = some m.cls := by rw [← ho]; exact findClass_of_methodNamed B.named
  subst hsz
  have hD := hD0.self (sz := s.heap.size)
  rw [lg_entry_eq]
  have hb := body (p, l, e, Rm d, s, m, av.toArray, below, meth, c, D, va_A (ws σ) s.heap.size, 0, 0) ⟨B.exec, B.bytes, hml, hown, fun w hw => hts w (List.mem_cons_of_mem _ hw), hK, fun q h => Or.inr h, hSF, ⟨Nat.le_refl _, Nat.le_refl _, Nat.le_refl _, Nat.le_refl _⟩, B.returns, B.notSynchronized⟩
  exact hb s.heap [] _ (lv_entry av hn) hP hD va_S.rf
theorem met_L {l : Launch} {y : MethodName} {cc : ByteArray} {nL : Nat} {ret : Option FieldType} {d : Nat} {D : va_G} {g : Gm} {ws : St → va_W} {av : List Value} {σ : St} {o : Int64 × St} {own : String} (hy : plainName y.cls = true) (ho : y.cls = own) (hn : (lg_sl av).length ≤ nL)
    (body : ∀ K : Kx, Ok K cc own g nL d ret → J K ws nL (QL K g ws o) 0 (lv_args 0 av) [] σ) : ML l y cc nL ret d D g ws av σ o := by
  intro sz
  refine Met.ofW (cc := cc) (maxL := nL) (ret := ret) hy rfl ?_
  intro p e s m args below meth c s₁ B hml hv
  obtain ⟨rfl, hsz, hP, hK, hD0, hSF⟩ := hv
  have hts := atoms_spec (ws := Cond.code y cc nL ret :: GW) B.pre
  have hown : s.vm.findClass own = some m.cls := by rw [← ho]; exact findClass_of_methodNamed B.named
  subst hsz
  have hD := hD0.self (sz := s.heap.size)
  rw [lg_entry_eq]
  have hb := body (p, l, e, Rm d, s, m, av.toArray, below, meth, c, D, va_A (ws σ) s.heap.size, 0, 0) ⟨B.exec, B.bytes, hml, hown, fun w hw => hts w (List.mem_cons_of_mem _ hw), hK, fun q h => Or.inr h, hSF, ⟨Nat.le_refl _, Nat.le_refl _, Nat.le_refl _, Nat.le_refl _⟩, B.returns, B.notSynchronized⟩
  exact hb s.heap [] _ (lv_entry av hn) hP hD va_S.rf
theorem j_aload_n {K : Kx} {cc : ByteArray} {own : String} {g : Gm} {nL d : Nat} {ret : Option FieldType} {ws : St → va_W} {Q : State → Prop} {pc : Nat} {lv : List (Nat × Value)} {st : List Value} {σ : St} (hC : Ok K cc own g nL d ret) {q : Fin 4} {i : Nat} {x : Nat} (hd : decode cc pc = .ok (.aload_n q, 1)) (hi : (q : Nat) = i) (k0 : Nat) (hk : lv[k0]? = some (i, .ref x)) (k : J K ws nL Q (pc + 1) lv (.ref x :: st) σ) : J K ws nL Q (pc) lv (st) σ := by
  obtain ⟨p, l, e, R, s, m, args, below, meth, c, D, A, ce, sl⟩ := K
  obtain ⟨hx, hb, hml, hown, hts, hK, hA, hSF, ⟨hR1, hR2, hR3, hR4⟩, hr, hlk⟩ := hC
  exact fun H locs ls hl hP hD hS => lv_aload_n hx hb hd hi (lv_at hl k0 hk) (k H locs ls hl hP hD hS)
theorem j_iload_n {K : Kx} {cc : ByteArray} {own : String} {g : Gm} {nL d : Nat} {ret : Option FieldType} {ws : St → va_W} {Q : State → Prop} {pc : Nat} {lv : List (Nat × Value)} {st : List Value} {σ : St} (hC : Ok K cc own g nL d ret) {q : Fin 4} {i : Nat} {x : Int32} (hd : decode cc pc = .ok (.iload_n q, 1)) (hi : (q : Nat) = i) (k0 : Nat) (hk : lv[k0]? = some (i, .int x)) (k : J K ws nL Q (pc + 1) lv (.int x :: st) σ) : J K ws nL Q (pc) lv (st) σ := by
  obtain ⟨p, l, e, R, s, m, args, below, meth, c, D, A, ce, sl⟩ := K
  obtain ⟨hx, hb, hml, hown, hts, hK, hA, hSF, ⟨hR1, hR2, hR3, hR4⟩, hr, hlk⟩ := hC
  exact fun H locs ls hl hP hD hS => lv_iload_n hx hb hd hi (lv_at hl k0 hk) (k H locs ls hl hP hD hS)
theorem j_iload {K : Kx} {cc : ByteArray} {own : String} {g : Gm} {nL d : Nat} {ret : Option FieldType} {ws : St → va_W} {Q : State → Prop} {pc : Nat} {lv : List (Nat × Value)} {st : List Value} {σ : St} (hC : Ok K cc own g nL d ret) {i : Nat} {x : Int32} (hd : decode cc pc = .ok (.iload i, 2)) (k0 : Nat) (hk : lv[k0]? = some (i, .int x)) (k : J K ws nL Q (pc + 2) lv (.int x :: st) σ) : J K ws nL Q (pc) lv (st) σ := by
  obtain ⟨p, l, e, R, s, m, args, below, meth, c, D, A, ce, sl⟩ := K
  obtain ⟨hx, hb, hml, hown, hts, hK, hA, hSF, ⟨hR1, hR2, hR3, hR4⟩, hr, hlk⟩ := hC
  exact fun H locs ls hl hP hD hS => lv_iload hx hb hd (lv_at hl k0 hk) (k H locs ls hl hP hD hS)
theorem j_lload {K : Kx} {cc : ByteArray} {own : String} {g : Gm} {nL d : Nat} {ret : Option FieldType} {ws : St → va_W} {Q : State → Prop} {pc : Nat} {lv : List (Nat × Value)} {st : List Value} {σ : St} (hC : Ok K cc own g nL d ret) {i : Nat} {x : Int64} (hd : decode cc pc = .ok (.lload i, 2)) (k0 : Nat) (hk : lv[k0]? = some (i, .long x)) (k : J K ws nL Q (pc + 2) lv (.long x :: st) σ) : J K ws nL Q (pc) lv (st) σ := by
  obtain ⟨p, l, e, R, s, m, args, below, meth, c, D, A, ce, sl⟩ := K
  obtain ⟨hx, hb, hml, hown, hts, hK, hA, hSF, ⟨hR1, hR2, hR3, hR4⟩, hr, hlk⟩ := hC
  exact fun H locs ls hl hP hD hS => lv_lload hx hb hd (lv_at hl k0 hk) (k H locs ls hl hP hD hS)
theorem j_lload_n {K : Kx} {cc : ByteArray} {own : String} {g : Gm} {nL d : Nat} {ret : Option FieldType} {ws : St → va_W} {Q : State → Prop} {pc : Nat} {lv : List (Nat × Value)} {st : List Value} {σ : St} (hC : Ok K cc own g nL d ret) {q : Fin 4} {i : Nat} {x : Int64} (hd : decode cc pc = .ok (.lload_n q, 1)) (hi : (q : Nat) = i) (k0 : Nat) (hk : lv[k0]? = some (i, .long x)) (k : J K ws nL Q (pc + 1) lv (.long x :: st) σ) : J K ws nL Q (pc) lv (st) σ := by
  obtain ⟨p, l, e, R, s, m, args, below, meth, c, D, A, ce, sl⟩ := K
  obtain ⟨hx, hb, hml, hown, hts, hK, hA, hSF, ⟨hR1, hR2, hR3, hR4⟩, hr, hlk⟩ := hC
  exact fun H locs ls hl hP hD hS => lv_lload_n hx hb hd hi (lv_at hl k0 hk) (k H locs ls hl hP hD hS)
theorem j_iconst {K : Kx} {cc : ByteArray} {own : String} {g : Gm} {nL d : Nat} {ret : Option FieldType} {ws : St → va_W} {Q : State → Prop} {pc : Nat} {lv : List (Nat × Value)} {st : List Value} {σ : St} (hC : Ok K cc own g nL d ret) {n : Int} {v : Int32} (hd : decode cc pc = .ok (.iconst n, 1)) (hv : Int32.ofInt n = v) (k : J K ws nL Q (pc + 1) lv (.int v :: st) σ) : J K ws nL Q (pc) lv (st) σ := by
  obtain ⟨p, l, e, R, s, m, args, below, meth, c, D, A, ce, sl⟩ := K
  obtain ⟨hx, hb, hml, hown, hts, hK, hA, hSF, ⟨hR1, hR2, hR3, hR4⟩, hr, hlk⟩ := hC
  exact fun H locs ls hl hP hD hS => lv_iconst hx hb hd hv (k H locs ls hl hP hD hS)
theorem j_lconst {K : Kx} {cc : ByteArray} {own : String} {g : Gm} {nL d : Nat} {ret : Option FieldType} {ws : St → va_W} {Q : State → Prop} {pc : Nat} {lv : List (Nat × Value)} {st : List Value} {σ : St} (hC : Ok K cc own g nL d ret) {n : Fin 2} {v : Int64} (hd : decode cc pc = .ok (.lconst n, 1)) (hv : Int64.ofNat (n : Nat) = v) (k : J K ws nL Q (pc + 1) lv (.long v :: st) σ) : J K ws nL Q (pc) lv (st) σ := by
  obtain ⟨p, l, e, R, s, m, args, below, meth, c, D, A, ce, sl⟩ := K
  obtain ⟨hx, hb, hml, hown, hts, hK, hA, hSF, ⟨hR1, hR2, hR3, hR4⟩, hr, hlk⟩ := hC
  exact fun H locs ls hl hP hD hS => lv_lconst hx hb hd hv (k H locs ls hl hP hD hS)
theorem j_bipush {K : Kx} {cc : ByteArray} {own : String} {g : Gm} {nL d : Nat} {ret : Option FieldType} {ws : St → va_W} {Q : State → Prop} {pc : Nat} {lv : List (Nat × Value)} {st : List Value} {σ : St} (hC : Ok K cc own g nL d ret) {n : Int} {v : Int32} (hd : decode cc pc = .ok (.bipush n, 2)) (hv : (Int8.ofInt n).toInt32 = v) (k : J K ws nL Q (pc + 2) lv (.int v :: st) σ) : J K ws nL Q (pc) lv (st) σ := by
  obtain ⟨p, l, e, R, s, m, args, below, meth, c, D, A, ce, sl⟩ := K
  obtain ⟨hx, hb, hml, hown, hts, hK, hA, hSF, ⟨hR1, hR2, hR3, hR4⟩, hr, hlk⟩ := hC
  exact fun H locs ls hl hP hD hS => lv_bipush hx hb hd hv (k H locs ls hl hP hD hS)
theorem j_sipush {K : Kx} {cc : ByteArray} {own : String} {g : Gm} {nL d : Nat} {ret : Option FieldType} {ws : St → va_W} {Q : State → Prop} {pc : Nat} {lv : List (Nat × Value)} {st : List Value} {σ : St} (hC : Ok K cc own g nL d ret) {n : Int} {v : Int32} (hd : decode cc pc = .ok (.sipush n, 3)) (hv : (Int16.ofInt n).toInt32 = v) (k : J K ws nL Q (pc + 3) lv (.int v :: st) σ) : J K ws nL Q (pc) lv (st) σ := by
  obtain ⟨p, l, e, R, s, m, args, below, meth, c, D, A, ce, sl⟩ := K
  obtain ⟨hx, hb, hml, hown, hts, hK, hA, hSF, ⟨hR1, hR2, hR3, hR4⟩, hr, hlk⟩ := hC
  exact fun H locs ls hl hP hD hS => lv_sipush hx hb hd hv (k H locs ls hl hP hD hS)
theorem j_ldc {K : Kx} {cc : ByteArray} {own : String} {g : Gm} {nL d : Nat} {ret : Option FieldType} {ws : St → va_W} {Q : State → Prop} {pc : Nat} {lv : List (Nat × Value)} {st : List Value} {σ : St} (hC : Ok K cc own g nL d ret) {ix : Nat} {v : Int32} (hw : Cond.constant own ix v ∈ GW) (hd : decode cc pc = .ok (.ldc ix, 2)) (k : J K ws nL Q (pc + 2) lv (.int v :: st) σ) : J K ws nL Q (pc) lv (st) σ := by
  obtain ⟨p, l, e, R, s, m, args, below, meth, c, D, A, ce, sl⟩ := K
  obtain ⟨hx, hb, hml, hown, hts, hK, hA, hSF, ⟨hR1, hR2, hR3, hR4⟩, hr, hlk⟩ := hC
  exact fun H locs ls hl hP hD hS => lv_ldc hx hb hown (hts _ hw) hd (k H locs ls hl hP hD hS)
theorem j_ldc2 {K : Kx} {cc : ByteArray} {own : String} {g : Gm} {nL d : Nat} {ret : Option FieldType} {ws : St → va_W} {Q : State → Prop} {pc : Nat} {lv : List (Nat × Value)} {st : List Value} {σ : St} (hC : Ok K cc own g nL d ret) {ix : Nat} {v : Int64} (hw : Cond.constantLong own ix v ∈ GW) (hd : decode cc pc = .ok (.ldc2_w ix, 3)) (k : J K ws nL Q (pc + 3) lv (.long v :: st) σ) : J K ws nL Q (pc) lv (st) σ := by
  obtain ⟨p, l, e, R, s, m, args, below, meth, c, D, A, ce, sl⟩ := K
  obtain ⟨hx, hb, hml, hown, hts, hK, hA, hSF, ⟨hR1, hR2, hR3, hR4⟩, hr, hlk⟩ := hC
  exact fun H locs ls hl hP hD hS => lv_ldc2 hx hb hown (hts _ hw) hd (k H locs ls hl hP hD hS)
theorem j_iadd {K : Kx} {cc : ByteArray} {own : String} {g : Gm} {nL d : Nat} {ret : Option FieldType} {ws : St → va_W} {Q : State → Prop} {pc : Nat} {lv : List (Nat × Value)} {st : List Value} {σ : St} (hC : Ok K cc own g nL d ret) {x y : Int32} (hd : decode cc pc = .ok (.iadd, 1)) (k : J K ws nL Q (pc + 1) lv (.int (x + y) :: st) σ) : J K ws nL Q (pc) lv (.int y :: .int x :: st) σ := by
  obtain ⟨p, l, e, R, s, m, args, below, meth, c, D, A, ce, sl⟩ := K
  obtain ⟨hx, hb, hml, hown, hts, hK, hA, hSF, ⟨hR1, hR2, hR3, hR4⟩, hr, hlk⟩ := hC
  exact fun H locs ls hl hP hD hS => lv_iadd hx hb hd (k H locs ls hl hP hD hS)
theorem j_isub {K : Kx} {cc : ByteArray} {own : String} {g : Gm} {nL d : Nat} {ret : Option FieldType} {ws : St → va_W} {Q : State → Prop} {pc : Nat} {lv : List (Nat × Value)} {st : List Value} {σ : St} (hC : Ok K cc own g nL d ret) {x y : Int32} (hd : decode cc pc = .ok (.isub, 1)) (k : J K ws nL Q (pc + 1) lv (.int (x - y) :: st) σ) : J K ws nL Q (pc) lv (.int y :: .int x :: st) σ := by
  obtain ⟨p, l, e, R, s, m, args, below, meth, c, D, A, ce, sl⟩ := K
  obtain ⟨hx, hb, hml, hown, hts, hK, hA, hSF, ⟨hR1, hR2, hR3, hR4⟩, hr, hlk⟩ := hC
  exact fun H locs ls hl hP hD hS => lv_isub hx hb hd (k H locs ls hl hP hD hS)
theorem j_imul {K : Kx} {cc : ByteArray} {own : String} {g : Gm} {nL d : Nat} {ret : Option FieldType} {ws : St → va_W} {Q : State → Prop} {pc : Nat} {lv : List (Nat × Value)} {st : List Value} {σ : St} (hC : Ok K cc own g nL d ret) {x y : Int32} (hd : decode cc pc = .ok (.imul, 1)) (k : J K ws nL Q (pc + 1) lv (.int (x * y) :: st) σ) : J K ws nL Q (pc) lv (.int y :: .int x :: st) σ := by
  obtain ⟨p, l, e, R, s, m, args, below, meth, c, D, A, ce, sl⟩ := K
  obtain ⟨hx, hb, hml, hown, hts, hK, hA, hSF, ⟨hR1, hR2, hR3, hR4⟩, hr, hlk⟩ := hC
  exact fun H locs ls hl hP hD hS => lv_imul hx hb hd (k H locs ls hl hP hD hS)
theorem j_iand {K : Kx} {cc : ByteArray} {own : String} {g : Gm} {nL d : Nat} {ret : Option FieldType} {ws : St → va_W} {Q : State → Prop} {pc : Nat} {lv : List (Nat × Value)} {st : List Value} {σ : St} (hC : Ok K cc own g nL d ret) {x y : Int32} (hd : decode cc pc = .ok (.iand, 1)) (k : J K ws nL Q (pc + 1) lv (.int (x &&& y) :: st) σ) : J K ws nL Q (pc) lv (.int y :: .int x :: st) σ := by
  obtain ⟨p, l, e, R, s, m, args, below, meth, c, D, A, ce, sl⟩ := K
  obtain ⟨hx, hb, hml, hown, hts, hK, hA, hSF, ⟨hR1, hR2, hR3, hR4⟩, hr, hlk⟩ := hC
  exact fun H locs ls hl hP hD hS => lv_iand hx hb hd (k H locs ls hl hP hD hS)
theorem j_ior {K : Kx} {cc : ByteArray} {own : String} {g : Gm} {nL d : Nat} {ret : Option FieldType} {ws : St → va_W} {Q : State → Prop} {pc : Nat} {lv : List (Nat × Value)} {st : List Value} {σ : St} (hC : Ok K cc own g nL d ret) {x y : Int32} (hd : decode cc pc = .ok (.ior, 1)) (k : J K ws nL Q (pc + 1) lv (.int (x ||| y) :: st) σ) : J K ws nL Q (pc) lv (.int y :: .int x :: st) σ := by
  obtain ⟨p, l, e, R, s, m, args, below, meth, c, D, A, ce, sl⟩ := K
  obtain ⟨hx, hb, hml, hown, hts, hK, hA, hSF, ⟨hR1, hR2, hR3, hR4⟩, hr, hlk⟩ := hC
  exact fun H locs ls hl hP hD hS => lv_ior hx hb hd (k H locs ls hl hP hD hS)
theorem j_ishr {K : Kx} {cc : ByteArray} {own : String} {g : Gm} {nL d : Nat} {ret : Option FieldType} {ws : St → va_W} {Q : State → Prop} {pc : Nat} {lv : List (Nat × Value)} {st : List Value} {σ : St} (hC : Ok K cc own g nL d ret) {x y : Int32} (hd : decode cc pc = .ok (.ishr, 1)) (k : J K ws nL Q (pc + 1) lv (.int (x >>> (y &&& 31)) :: st) σ) : J K ws nL Q (pc) lv (.int y :: .int x :: st) σ := by
  obtain ⟨p, l, e, R, s, m, args, below, meth, c, D, A, ce, sl⟩ := K
  obtain ⟨hx, hb, hml, hown, hts, hK, hA, hSF, ⟨hR1, hR2, hR3, hR4⟩, hr, hlk⟩ := hC
  exact fun H locs ls hl hP hD hS => lv_ishr hx hb hd (k H locs ls hl hP hD hS)
theorem j_ishl {K : Kx} {cc : ByteArray} {own : String} {g : Gm} {nL d : Nat} {ret : Option FieldType} {ws : St → va_W} {Q : State → Prop} {pc : Nat} {lv : List (Nat × Value)} {st : List Value} {σ : St} (hC : Ok K cc own g nL d ret) {x y : Int32} (hd : decode cc pc = .ok (.ishl, 1)) (k : J K ws nL Q (pc + 1) lv (.int (x <<< (y &&& 31)) :: st) σ) : J K ws nL Q (pc) lv (.int y :: .int x :: st) σ := by
  obtain ⟨p, l, e, R, s, m, args, below, meth, c, D, A, ce, sl⟩ := K
  obtain ⟨hx, hb, hml, hown, hts, hK, hA, hSF, ⟨hR1, hR2, hR3, hR4⟩, hr, hlk⟩ := hC
  exact fun H locs ls hl hP hD hS => lv_ishl hx hb hd (k H locs ls hl hP hD hS)
theorem j_idiv {K : Kx} {cc : ByteArray} {own : String} {g : Gm} {nL d : Nat} {ret : Option FieldType} {ws : St → va_W} {Q : State → Prop} {pc : Nat} {lv : List (Nat × Value)} {st : List Value} {σ : St} (hC : Ok K cc own g nL d ret) {x y : Int32} (hne : ¬ y = 0) (hd : decode cc pc = .ok (.idiv, 1)) (k : J K ws nL Q (pc + 1) lv (.int (x / y) :: st) σ) : J K ws nL Q (pc) lv (.int y :: .int x :: st) σ := by
  obtain ⟨p, l, e, R, s, m, args, below, meth, c, D, A, ce, sl⟩ := K
  obtain ⟨hx, hb, hml, hown, hts, hK, hA, hSF, ⟨hR1, hR2, hR3, hR4⟩, hr, hlk⟩ := hC
  exact fun H locs ls hl hP hD hS => lv_idiv hx hb hd hne (k H locs ls hl hP hD hS)
theorem j_irem {K : Kx} {cc : ByteArray} {own : String} {g : Gm} {nL d : Nat} {ret : Option FieldType} {ws : St → va_W} {Q : State → Prop} {pc : Nat} {lv : List (Nat × Value)} {st : List Value} {σ : St} (hC : Ok K cc own g nL d ret) {x y : Int32} (hne : ¬ y = 0) (hd : decode cc pc = .ok (.irem, 1)) (k : J K ws nL Q (pc + 1) lv (.int (x - x / y * y) :: st) σ) : J K ws nL Q (pc) lv (.int y :: .int x :: st) σ := by
  obtain ⟨p, l, e, R, s, m, args, below, meth, c, D, A, ce, sl⟩ := K
  obtain ⟨hx, hb, hml, hown, hts, hK, hA, hSF, ⟨hR1, hR2, hR3, hR4⟩, hr, hlk⟩ := hC
  exact fun H locs ls hl hP hD hS => lv_irem hx hb hd hne (k H locs ls hl hP hD hS)
theorem j_ladd {K : Kx} {cc : ByteArray} {own : String} {g : Gm} {nL d : Nat} {ret : Option FieldType} {ws : St → va_W} {Q : State → Prop} {pc : Nat} {lv : List (Nat × Value)} {st : List Value} {σ : St} (hC : Ok K cc own g nL d ret) {x y : Int64} (hd : decode cc pc = .ok (.ladd, 1)) (k : J K ws nL Q (pc + 1) lv (.long (x + y) :: st) σ) : J K ws nL Q (pc) lv (.long y :: .long x :: st) σ := by
  obtain ⟨p, l, e, R, s, m, args, below, meth, c, D, A, ce, sl⟩ := K
  obtain ⟨hx, hb, hml, hown, hts, hK, hA, hSF, ⟨hR1, hR2, hR3, hR4⟩, hr, hlk⟩ := hC
  exact fun H locs ls hl hP hD hS => lv_ladd hx hb hd (k H locs ls hl hP hD hS)
theorem j_lsub {K : Kx} {cc : ByteArray} {own : String} {g : Gm} {nL d : Nat} {ret : Option FieldType} {ws : St → va_W} {Q : State → Prop} {pc : Nat} {lv : List (Nat × Value)} {st : List Value} {σ : St} (hC : Ok K cc own g nL d ret) {x y : Int64} (hd : decode cc pc = .ok (.lsub, 1)) (k : J K ws nL Q (pc + 1) lv (.long (x - y) :: st) σ) : J K ws nL Q (pc) lv (.long y :: .long x :: st) σ := by
  obtain ⟨p, l, e, R, s, m, args, below, meth, c, D, A, ce, sl⟩ := K
  obtain ⟨hx, hb, hml, hown, hts, hK, hA, hSF, ⟨hR1, hR2, hR3, hR4⟩, hr, hlk⟩ := hC
  exact fun H locs ls hl hP hD hS => lv_lsub hx hb hd (k H locs ls hl hP hD hS)
theorem j_lmul {K : Kx} {cc : ByteArray} {own : String} {g : Gm} {nL d : Nat} {ret : Option FieldType} {ws : St → va_W} {Q : State → Prop} {pc : Nat} {lv : List (Nat × Value)} {st : List Value} {σ : St} (hC : Ok K cc own g nL d ret) {x y : Int64} (hd : decode cc pc = .ok (.lmul, 1)) (k : J K ws nL Q (pc + 1) lv (.long (x * y) :: st) σ) : J K ws nL Q (pc) lv (.long y :: .long x :: st) σ := by
  obtain ⟨p, l, e, R, s, m, args, below, meth, c, D, A, ce, sl⟩ := K
  obtain ⟨hx, hb, hml, hown, hts, hK, hA, hSF, ⟨hR1, hR2, hR3, hR4⟩, hr, hlk⟩ := hC
  exact fun H locs ls hl hP hD hS => lv_lmul hx hb hd (k H locs ls hl hP hD hS)
def iushr (x y : Int32) : Int32 := (x.toUInt32 >>> (y.toUInt32 &&& Int32.toUInt32 31)).toInt32
theorem j_iushr {K : Kx} {cc : ByteArray} {own : String} {g : Gm} {nL d : Nat} {ret : Option FieldType} {ws : St → va_W} {Q : State → Prop} {pc : Nat} {lv : List (Nat × Value)} {st : List Value} {σ : St} (hC : Ok K cc own g nL d ret) {x y : Int32} (hd : decode cc pc = .ok (.iushr, 1)) (k : J K ws nL Q (pc + 1) lv (.int (iushr x y) :: st) σ) : J K ws nL Q (pc) lv (.int y :: .int x :: st) σ := by
  obtain ⟨p, l, e, R, s, m, args, below, meth, c, D, A, ce, sl⟩ := K
  obtain ⟨hx, hb, hml, hown, hts, hK, hA, hSF, ⟨hR1, hR2, hR3, hR4⟩, hr, hlk⟩ := hC
  exact fun H locs ls hl hP hD hS => lv_iushr hx hb hd rfl (k H locs ls hl hP hD hS)
theorem j_i2b {K : Kx} {cc : ByteArray} {own : String} {g : Gm} {nL d : Nat} {ret : Option FieldType} {ws : St → va_W} {Q : State → Prop} {pc : Nat} {lv : List (Nat × Value)} {st : List Value} {σ : St} (hC : Ok K cc own g nL d ret) {x : Int32} (hd : decode cc pc = .ok (.i2b, 1)) (k : J K ws nL Q (pc + 1) lv (.int (x.toInt8.toInt32) :: st) σ) : J K ws nL Q (pc) lv (.int x :: st) σ := by
  obtain ⟨p, l, e, R, s, m, args, below, meth, c, D, A, ce, sl⟩ := K
  obtain ⟨hx, hb, hml, hown, hts, hK, hA, hSF, ⟨hR1, hR2, hR3, hR4⟩, hr, hlk⟩ := hC
  exact fun H locs ls hl hP hD hS => lv_i2b hx hb hd rfl (k H locs ls hl hP hD hS)
theorem j_i2l {K : Kx} {cc : ByteArray} {own : String} {g : Gm} {nL d : Nat} {ret : Option FieldType} {ws : St → va_W} {Q : State → Prop} {pc : Nat} {lv : List (Nat × Value)} {st : List Value} {σ : St} (hC : Ok K cc own g nL d ret) {x : Int32} (hd : decode cc pc = .ok (.i2l, 1)) (k : J K ws nL Q (pc + 1) lv (.long (x.toInt64) :: st) σ) : J K ws nL Q (pc) lv (.int x :: st) σ := by
  obtain ⟨p, l, e, R, s, m, args, below, meth, c, D, A, ce, sl⟩ := K
  obtain ⟨hx, hb, hml, hown, hts, hK, hA, hSF, ⟨hR1, hR2, hR3, hR4⟩, hr, hlk⟩ := hC
  exact fun H locs ls hl hP hD hS => lv_i2l hx hb hd rfl (k H locs ls hl hP hD hS)
theorem j_lcmp {K : Kx} {cc : ByteArray} {own : String} {g : Gm} {nL d : Nat} {ret : Option FieldType} {ws : St → va_W} {Q : State → Prop} {pc : Nat} {lv : List (Nat × Value)} {st : List Value} {σ : St} (hC : Ok K cc own g nL d ret) {x y : Int64} (hd : decode cc pc = .ok (.lcmp, 1)) (k : J K ws nL Q (pc + 1) lv (.int (lg_cmp x y) :: st) σ) : J K ws nL Q (pc) lv (.long y :: .long x :: st) σ := by
  obtain ⟨p, l, e, R, s, m, args, below, meth, c, D, A, ce, sl⟩ := K
  obtain ⟨hx, hb, hml, hown, hts, hK, hA, hSF, ⟨hR1, hR2, hR3, hR4⟩, hr, hlk⟩ := hC
  exact fun H locs ls hl hP hD hS => W.lcmp hx hb hd (k H locs ls hl hP hD hS)
theorem j_dup {K : Kx} {cc : ByteArray} {own : String} {g : Gm} {nL d : Nat} {ret : Option FieldType} {ws : St → va_W} {Q : State → Prop} {pc : Nat} {lv : List (Nat × Value)} {st : List Value} {σ : St} (hC : Ok K cc own g nL d ret) {v : Value} (hv : v.category = 1) (hd : decode cc pc = .ok (.dup, 1)) (k : J K ws nL Q (pc + 1) lv (v :: v :: st) σ) : J K ws nL Q (pc) lv (v :: st) σ := by
  obtain ⟨p, l, e, R, s, m, args, below, meth, c, D, A, ce, sl⟩ := K
  obtain ⟨hx, hb, hml, hown, hts, hK, hA, hSF, ⟨hR1, hR2, hR3, hR4⟩, hr, hlk⟩ := hC
  exact fun H locs ls hl hP hD hS => lv_dup hx hb hd hv (k H locs ls hl hP hD hS)
theorem j_pop {K : Kx} {cc : ByteArray} {own : String} {g : Gm} {nL d : Nat} {ret : Option FieldType} {ws : St → va_W} {Q : State → Prop} {pc : Nat} {lv : List (Nat × Value)} {st : List Value} {σ : St} (hC : Ok K cc own g nL d ret) {v : Value} (hv : v.category = 1) (hd : decode cc pc = .ok (.pop, 1)) (k : J K ws nL Q (pc + 1) lv (st) σ) : J K ws nL Q (pc) lv (v :: st) σ := by
  obtain ⟨p, l, e, R, s, m, args, below, meth, c, D, A, ce, sl⟩ := K
  obtain ⟨hx, hb, hml, hown, hts, hK, hA, hSF, ⟨hR1, hR2, hR3, hR4⟩, hr, hlk⟩ := hC
  exact fun H locs ls hl hP hD hS => lv_pop hx hb hd hv (k H locs ls hl hP hD hS)
theorem j_dup2 {K : Kx} {cc : ByteArray} {own : String} {g : Gm} {nL d : Nat} {ret : Option FieldType} {ws : St → va_W} {Q : State → Prop} {pc : Nat} {lv : List (Nat × Value)} {st : List Value} {σ : St} (hC : Ok K cc own g nL d ret) {v w : Value} (hv : v.category = 1) (hw : w.category = 1) (hd : decode cc pc = .ok (.dup2, 1)) (k : J K ws nL Q (pc + 1) lv (v :: w :: v :: w :: st) σ) : J K ws nL Q (pc) lv (v :: w :: st) σ := by
  obtain ⟨p, l, e, R, s, m, args, below, meth, c, D, A, ce, sl⟩ := K
  obtain ⟨hx, hb, hml, hown, hts, hK, hA, hSF, ⟨hR1, hR2, hR3, hR4⟩, hr, hlk⟩ := hC
  exact fun H locs ls hl hP hD hS => lv_dup2_11 hx hb hd hv hw (k H locs ls hl hP hD hS)
theorem j_goto {K : Kx} {cc : ByteArray} {own : String} {g : Gm} {nL d : Nat} {ret : Option FieldType} {ws : St → va_W} {Q : State → Prop} {pc : Nat} {lv : List (Nat × Value)} {st : List Value} {σ : St} (hC : Ok K cc own g nL d ret) {off : Int} {tgt : Nat} (hd : decode cc pc = .ok (.goto off, 3)) (ht : (pc : Int) + off = (tgt : Int)) (k : J K ws nL Q (tgt) lv (st) σ) : J K ws nL Q (pc) lv (st) σ := by
  obtain ⟨p, l, e, R, s, m, args, below, meth, c, D, A, ce, sl⟩ := K
  obtain ⟨hx, hb, hml, hown, hts, hK, hA, hSF, ⟨hR1, hR2, hR3, hR4⟩, hr, hlk⟩ := hC
  exact fun H locs ls hl hP hD hS => lv_goto hx hb hd ht (k H locs ls hl hP hD hS)
theorem j_icmp_eq {K : Kx} {cc : ByteArray} {own : String} {g : Gm} {nL d : Nat} {ret : Option FieldType} {ws : St → va_W} {Q : State → Prop} {pc : Nat} {lv : List (Nat × Value)} {st : List Value} {σ : St} (hC : Ok K cc own g nL d ret) {ρ : Type} {o : ρ} {T F : Option ρ} {x y : Int32} {off : Int} {tgt : Nat} (hd : decode cc pc = .ok (.if_icmp .eq off, 3)) (ht : (pc : Int) + off = (tgt : Int)) (h : ite (x = y) T F = some o) (kt : T = some o → J K ws nL Q (tgt) lv (st) σ) (kf : F = some o → J K ws nL Q (pc + 3) lv (st) σ) : J K ws nL Q (pc) lv (.int y :: .int x :: st) σ := by
  obtain ⟨p, l, e, R, s, m, args, below, meth, c, D, A, ce, sl⟩ := K
  obtain ⟨hx, hb, hml, hown, hts, hK, hA, hSF, ⟨hR1, hR2, hR3, hR4⟩, hr, hlk⟩ := hC
  exact fun H locs ls hl hP hD hS => lv_icmp_eq hx hb hd ht (fun q => kt (by rw [if_pos q] at h; exact h) H locs ls hl hP hD hS) (fun q => kf (by rw [if_neg q] at h; exact h) H locs ls hl hP hD hS)
theorem j_if_eq {K : Kx} {cc : ByteArray} {own : String} {g : Gm} {nL d : Nat} {ret : Option FieldType} {ws : St → va_W} {Q : State → Prop} {pc : Nat} {lv : List (Nat × Value)} {st : List Value} {σ : St} (hC : Ok K cc own g nL d ret) {ρ : Type} {o : ρ} {T F : Option ρ} {x : Int32} {off : Int} {tgt : Nat} (hd : decode cc pc = .ok (.ifCond .eq off, 3)) (ht : (pc : Int) + off = (tgt : Int)) (h : ite (x = 0) T F = some o) (kt : T = some o → J K ws nL Q (tgt) lv (st) σ) (kf : F = some o → J K ws nL Q (pc + 3) lv (st) σ) : J K ws nL Q (pc) lv (.int x :: st) σ := by
  obtain ⟨p, l, e, R, s, m, args, below, meth, c, D, A, ce, sl⟩ := K
  obtain ⟨hx, hb, hml, hown, hts, hK, hA, hSF, ⟨hR1, hR2, hR3, hR4⟩, hr, hlk⟩ := hC
  exact fun H locs ls hl hP hD hS => lv_if_eq hx hb hd ht (fun q => kt (by rw [if_pos q] at h; exact h) H locs ls hl hP hD hS) (fun q => kf (by rw [if_neg q] at h; exact h) H locs ls hl hP hD hS)
theorem j_icmp_ne {K : Kx} {cc : ByteArray} {own : String} {g : Gm} {nL d : Nat} {ret : Option FieldType} {ws : St → va_W} {Q : State → Prop} {pc : Nat} {lv : List (Nat × Value)} {st : List Value} {σ : St} (hC : Ok K cc own g nL d ret) {ρ : Type} {o : ρ} {T F : Option ρ} {x y : Int32} {off : Int} {tgt : Nat} (hd : decode cc pc = .ok (.if_icmp .ne off, 3)) (ht : (pc : Int) + off = (tgt : Int)) (h : ite (x = y) F T = some o) (kt : T = some o → J K ws nL Q (tgt) lv (st) σ) (kf : F = some o → J K ws nL Q (pc + 3) lv (st) σ) : J K ws nL Q (pc) lv (.int y :: .int x :: st) σ := by
  obtain ⟨p, l, e, R, s, m, args, below, meth, c, D, A, ce, sl⟩ := K
  obtain ⟨hx, hb, hml, hown, hts, hK, hA, hSF, ⟨hR1, hR2, hR3, hR4⟩, hr, hlk⟩ := hC
  exact fun H locs ls hl hP hD hS => lv_icmp_ne hx hb hd ht (fun q => kt (by rw [if_neg q] at h; exact h) H locs ls hl hP hD hS) (fun q => kf (by rw [if_pos q] at h; exact h) H locs ls hl hP hD hS)
theorem j_if_ne {K : Kx} {cc : ByteArray} {own : String} {g : Gm} {nL d : Nat} {ret : Option FieldType} {ws : St → va_W} {Q : State → Prop} {pc : Nat} {lv : List (Nat × Value)} {st : List Value} {σ : St} (hC : Ok K cc own g nL d ret) {ρ : Type} {o : ρ} {T F : Option ρ} {x : Int32} {off : Int} {tgt : Nat} (hd : decode cc pc = .ok (.ifCond .ne off, 3)) (ht : (pc : Int) + off = (tgt : Int)) (h : ite (x = 0) F T = some o) (kt : T = some o → J K ws nL Q (tgt) lv (st) σ) (kf : F = some o → J K ws nL Q (pc + 3) lv (st) σ) : J K ws nL Q (pc) lv (.int x :: st) σ := by
  obtain ⟨p, l, e, R, s, m, args, below, meth, c, D, A, ce, sl⟩ := K
  obtain ⟨hx, hb, hml, hown, hts, hK, hA, hSF, ⟨hR1, hR2, hR3, hR4⟩, hr, hlk⟩ := hC
  exact fun H locs ls hl hP hD hS => lv_if_ne hx hb hd ht (fun q => kt (by rw [if_neg q] at h; exact h) H locs ls hl hP hD hS) (fun q => kf (by rw [if_pos q] at h; exact h) H locs ls hl hP hD hS)
theorem j_icmp_lt {K : Kx} {cc : ByteArray} {own : String} {g : Gm} {nL d : Nat} {ret : Option FieldType} {ws : St → va_W} {Q : State → Prop} {pc : Nat} {lv : List (Nat × Value)} {st : List Value} {σ : St} (hC : Ok K cc own g nL d ret) {ρ : Type} {o : ρ} {T F : Option ρ} {x y : Int32} {off : Int} {tgt : Nat} (hd : decode cc pc = .ok (.if_icmp .lt off, 3)) (ht : (pc : Int) + off = (tgt : Int)) (h : ite (x < y) T F = some o) (kt : T = some o → J K ws nL Q (tgt) lv (st) σ) (kf : F = some o → J K ws nL Q (pc + 3) lv (st) σ) : J K ws nL Q (pc) lv (.int y :: .int x :: st) σ := by
  obtain ⟨p, l, e, R, s, m, args, below, meth, c, D, A, ce, sl⟩ := K
  obtain ⟨hx, hb, hml, hown, hts, hK, hA, hSF, ⟨hR1, hR2, hR3, hR4⟩, hr, hlk⟩ := hC
  exact fun H locs ls hl hP hD hS => lv_icmp_lt hx hb hd ht (fun q => kt (by rw [if_pos q] at h; exact h) H locs ls hl hP hD hS) (fun q => kf (by rw [if_neg q] at h; exact h) H locs ls hl hP hD hS)
theorem j_if_lt {K : Kx} {cc : ByteArray} {own : String} {g : Gm} {nL d : Nat} {ret : Option FieldType} {ws : St → va_W} {Q : State → Prop} {pc : Nat} {lv : List (Nat × Value)} {st : List Value} {σ : St} (hC : Ok K cc own g nL d ret) {ρ : Type} {o : ρ} {T F : Option ρ} {x : Int32} {off : Int} {tgt : Nat} (hd : decode cc pc = .ok (.ifCond .lt off, 3)) (ht : (pc : Int) + off = (tgt : Int)) (h : ite (x < 0) T F = some o) (kt : T = some o → J K ws nL Q (tgt) lv (st) σ) (kf : F = some o → J K ws nL Q (pc + 3) lv (st) σ) : J K ws nL Q (pc) lv (.int x :: st) σ := by
  obtain ⟨p, l, e, R, s, m, args, below, meth, c, D, A, ce, sl⟩ := K
  obtain ⟨hx, hb, hml, hown, hts, hK, hA, hSF, ⟨hR1, hR2, hR3, hR4⟩, hr, hlk⟩ := hC
  exact fun H locs ls hl hP hD hS => lv_if_lt hx hb hd ht (fun q => kt (by rw [if_pos q] at h; exact h) H locs ls hl hP hD hS) (fun q => kf (by rw [if_neg q] at h; exact h) H locs ls hl hP hD hS)
theorem j_icmp_ge {K : Kx} {cc : ByteArray} {own : String} {g : Gm} {nL d : Nat} {ret : Option FieldType} {ws : St → va_W} {Q : State → Prop} {pc : Nat} {lv : List (Nat × Value)} {st : List Value} {σ : St} (hC : Ok K cc own g nL d ret) {ρ : Type} {o : ρ} {T F : Option ρ} {x y : Int32} {off : Int} {tgt : Nat} (hd : decode cc pc = .ok (.if_icmp .ge off, 3)) (ht : (pc : Int) + off = (tgt : Int)) (h : ite (y ≤ x) T F = some o) (kt : T = some o → J K ws nL Q (tgt) lv (st) σ) (kf : F = some o → J K ws nL Q (pc + 3) lv (st) σ) : J K ws nL Q (pc) lv (.int y :: .int x :: st) σ := by
  obtain ⟨p, l, e, R, s, m, args, below, meth, c, D, A, ce, sl⟩ := K
  obtain ⟨hx, hb, hml, hown, hts, hK, hA, hSF, ⟨hR1, hR2, hR3, hR4⟩, hr, hlk⟩ := hC
  exact fun H locs ls hl hP hD hS => lv_icmp_ge hx hb hd ht (fun q => kt (by rw [if_pos q] at h; exact h) H locs ls hl hP hD hS) (fun q => kf (by rw [if_neg q] at h; exact h) H locs ls hl hP hD hS)
theorem j_if_ge {K : Kx} {cc : ByteArray} {own : String} {g : Gm} {nL d : Nat} {ret : Option FieldType} {ws : St → va_W} {Q : State → Prop} {pc : Nat} {lv : List (Nat × Value)} {st : List Value} {σ : St} (hC : Ok K cc own g nL d ret) {ρ : Type} {o : ρ} {T F : Option ρ} {x : Int32} {off : Int} {tgt : Nat} (hd : decode cc pc = .ok (.ifCond .ge off, 3)) (ht : (pc : Int) + off = (tgt : Int)) (h : ite (0 ≤ x) T F = some o) (kt : T = some o → J K ws nL Q (tgt) lv (st) σ) (kf : F = some o → J K ws nL Q (pc + 3) lv (st) σ) : J K ws nL Q (pc) lv (.int x :: st) σ := by
  obtain ⟨p, l, e, R, s, m, args, below, meth, c, D, A, ce, sl⟩ := K
  obtain ⟨hx, hb, hml, hown, hts, hK, hA, hSF, ⟨hR1, hR2, hR3, hR4⟩, hr, hlk⟩ := hC
  exact fun H locs ls hl hP hD hS => lv_if_ge hx hb hd ht (fun q => kt (by rw [if_pos q] at h; exact h) H locs ls hl hP hD hS) (fun q => kf (by rw [if_neg q] at h; exact h) H locs ls hl hP hD hS)
theorem j_icmp_gt {K : Kx} {cc : ByteArray} {own : String} {g : Gm} {nL d : Nat} {ret : Option FieldType} {ws : St → va_W} {Q : State → Prop} {pc : Nat} {lv : List (Nat × Value)} {st : List Value} {σ : St} (hC : Ok K cc own g nL d ret) {ρ : Type} {o : ρ} {T F : Option ρ} {x y : Int32} {off : Int} {tgt : Nat} (hd : decode cc pc = .ok (.if_icmp .gt off, 3)) (ht : (pc : Int) + off = (tgt : Int)) (h : ite (y < x) T F = some o) (kt : T = some o → J K ws nL Q (tgt) lv (st) σ) (kf : F = some o → J K ws nL Q (pc + 3) lv (st) σ) : J K ws nL Q (pc) lv (.int y :: .int x :: st) σ := by
  obtain ⟨p, l, e, R, s, m, args, below, meth, c, D, A, ce, sl⟩ := K
  obtain ⟨hx, hb, hml, hown, hts, hK, hA, hSF, ⟨hR1, hR2, hR3, hR4⟩, hr, hlk⟩ := hC
  exact fun H locs ls hl hP hD hS => lv_icmp_gt hx hb hd ht (fun q => kt (by rw [if_pos q] at h; exact h) H locs ls hl hP hD hS) (fun q => kf (by rw [if_neg q] at h; exact h) H locs ls hl hP hD hS)
theorem j_if_gt {K : Kx} {cc : ByteArray} {own : String} {g : Gm} {nL d : Nat} {ret : Option FieldType} {ws : St → va_W} {Q : State → Prop} {pc : Nat} {lv : List (Nat × Value)} {st : List Value} {σ : St} (hC : Ok K cc own g nL d ret) {ρ : Type} {o : ρ} {T F : Option ρ} {x : Int32} {off : Int} {tgt : Nat} (hd : decode cc pc = .ok (.ifCond .gt off, 3)) (ht : (pc : Int) + off = (tgt : Int)) (h : ite (0 < x) T F = some o) (kt : T = some o → J K ws nL Q (tgt) lv (st) σ) (kf : F = some o → J K ws nL Q (pc + 3) lv (st) σ) : J K ws nL Q (pc) lv (.int x :: st) σ := by
  obtain ⟨p, l, e, R, s, m, args, below, meth, c, D, A, ce, sl⟩ := K
  obtain ⟨hx, hb, hml, hown, hts, hK, hA, hSF, ⟨hR1, hR2, hR3, hR4⟩, hr, hlk⟩ := hC
  exact fun H locs ls hl hP hD hS => lv_if_gt hx hb hd ht (fun q => kt (by rw [if_pos q] at h; exact h) H locs ls hl hP hD hS) (fun q => kf (by rw [if_neg q] at h; exact h) H locs ls hl hP hD hS)
theorem j_icmp_le {K : Kx} {cc : ByteArray} {own : String} {g : Gm} {nL d : Nat} {ret : Option FieldType} {ws : St → va_W} {Q : State → Prop} {pc : Nat} {lv : List (Nat × Value)} {st : List Value} {σ : St} (hC : Ok K cc own g nL d ret) {ρ : Type} {o : ρ} {T F : Option ρ} {x y : Int32} {off : Int} {tgt : Nat} (hd : decode cc pc = .ok (.if_icmp .le off, 3)) (ht : (pc : Int) + off = (tgt : Int)) (h : ite (x ≤ y) T F = some o) (kt : T = some o → J K ws nL Q (tgt) lv (st) σ) (kf : F = some o → J K ws nL Q (pc + 3) lv (st) σ) : J K ws nL Q (pc) lv (.int y :: .int x :: st) σ := by
  obtain ⟨p, l, e, R, s, m, args, below, meth, c, D, A, ce, sl⟩ := K
  obtain ⟨hx, hb, hml, hown, hts, hK, hA, hSF, ⟨hR1, hR2, hR3, hR4⟩, hr, hlk⟩ := hC
  exact fun H locs ls hl hP hD hS => lv_icmp_le hx hb hd ht (fun q => kt (by rw [if_pos q] at h; exact h) H locs ls hl hP hD hS) (fun q => kf (by rw [if_neg q] at h; exact h) H locs ls hl hP hD hS)
theorem j_if_le {K : Kx} {cc : ByteArray} {own : String} {g : Gm} {nL d : Nat} {ret : Option FieldType} {ws : St → va_W} {Q : State → Prop} {pc : Nat} {lv : List (Nat × Value)} {st : List Value} {σ : St} (hC : Ok K cc own g nL d ret) {ρ : Type} {o : ρ} {T F : Option ρ} {x : Int32} {off : Int} {tgt : Nat} (hd : decode cc pc = .ok (.ifCond .le off, 3)) (ht : (pc : Int) + off = (tgt : Int)) (h : ite (x ≤ 0) T F = some o) (kt : T = some o → J K ws nL Q (tgt) lv (st) σ) (kf : F = some o → J K ws nL Q (pc + 3) lv (st) σ) : J K ws nL Q (pc) lv (.int x :: st) σ := by
  obtain ⟨p, l, e, R, s, m, args, below, meth, c, D, A, ce, sl⟩ := K
  obtain ⟨hx, hb, hml, hown, hts, hK, hA, hSF, ⟨hR1, hR2, hR3, hR4⟩, hr, hlk⟩ := hC
  exact fun H locs ls hl hP hD hS => lv_if_le hx hb hd ht (fun q => kt (by rw [if_pos q] at h; exact h) H locs ls hl hP hD hS) (fun q => kf (by rw [if_neg q] at h; exact h) H locs ls hl hP hD hS)
theorem j_istore_n {K : Kx} {cc : ByteArray} {own : String} {g : Gm} {nL d : Nat} {ret : Option FieldType} {ws : St → va_W} {Q : State → Prop} {pc : Nat} {lv : List (Nat × Value)} {st : List Value} {σ : St} (hC : Ok K cc own g nL d ret) {q : Fin 4} {i : Nat} {x : Int32} {lv2 : List (Nat × Value)} (hd : decode cc pc = .ok (.istore_n q, 1)) (hi : (q : Nat) = i) (hn : i < nL) (hl2 : (i, Value.int x) :: lv.filter (fun q => !(q.1 == i) && !(q.1 + 1 == i && q.2.category == 2)) = lv2) (k : J K ws nL Q (pc + 1) lv2 (st) σ) : J K ws nL Q (pc) lv (.int x :: st) σ := by
  obtain ⟨p, l, e, R, s, m, args, below, meth, c, D, A, ce, sl⟩ := K
  obtain ⟨hx, hb, hml, hown, hts, hK, hA, hSF, ⟨hR1, hR2, hR3, hR4⟩, hr, hlk⟩ := hC
  exact fun H locs ls hl hP hD hS => lv_istore_n hx hb hd hi hl hn hl2 (fun ls hl => k H locs ls hl hP hD hS)
theorem j_istore {K : Kx} {cc : ByteArray} {own : String} {g : Gm} {nL d : Nat} {ret : Option FieldType} {ws : St → va_W} {Q : State → Prop} {pc : Nat} {lv : List (Nat × Value)} {st : List Value} {σ : St} (hC : Ok K cc own g nL d ret) {i : Nat} {x : Int32} {lv2 : List (Nat × Value)} (hd : decode cc pc = .ok (.istore i, 2)) (hn : i < nL) (hl2 : (i, Value.int x) :: lv.filter (fun q => !(q.1 == i) && !(q.1 + 1 == i && q.2.category == 2)) = lv2) (k : J K ws nL Q (pc + 2) lv2 (st) σ) : J K ws nL Q (pc) lv (.int x :: st) σ := by
  obtain ⟨p, l, e, R, s, m, args, below, meth, c, D, A, ce, sl⟩ := K
  obtain ⟨hx, hb, hml, hown, hts, hK, hA, hSF, ⟨hR1, hR2, hR3, hR4⟩, hr, hlk⟩ := hC
  exact fun H locs ls hl hP hD hS => lv_istore hx hb hd hl hn hl2 (fun ls hl => k H locs ls hl hP hD hS)
theorem j_astore_n {K : Kx} {cc : ByteArray} {own : String} {g : Gm} {nL d : Nat} {ret : Option FieldType} {ws : St → va_W} {Q : State → Prop} {pc : Nat} {lv : List (Nat × Value)} {st : List Value} {σ : St} (hC : Ok K cc own g nL d ret) {q : Fin 4} {i : Nat} {x : Nat} {lv2 : List (Nat × Value)} (hd : decode cc pc = .ok (.astore_n q, 1)) (hi : (q : Nat) = i) (hn : i < nL) (hl2 : (i, Value.ref x) :: lv.filter (fun q => !(q.1 == i) && !(q.1 + 1 == i && q.2.category == 2)) = lv2) (k : J K ws nL Q (pc + 1) lv2 (st) σ) : J K ws nL Q (pc) lv (.ref x :: st) σ := by
  obtain ⟨p, l, e, R, s, m, args, below, meth, c, D, A, ce, sl⟩ := K
  obtain ⟨hx, hb, hml, hown, hts, hK, hA, hSF, ⟨hR1, hR2, hR3, hR4⟩, hr, hlk⟩ := hC
  exact fun H locs ls hl hP hD hS => lv_astore_n hx hb hd hi hl hn hl2 (fun ls hl => k H locs ls hl hP hD hS)
theorem j_lstore {K : Kx} {cc : ByteArray} {own : String} {g : Gm} {nL d : Nat} {ret : Option FieldType} {ws : St → va_W} {Q : State → Prop} {pc : Nat} {lv : List (Nat × Value)} {st : List Value} {σ : St} (hC : Ok K cc own g nL d ret) {i : Nat} {x : Int64} {lv2 : List (Nat × Value)} (hd : decode cc pc = .ok (.lstore i, 2)) (hn : i + 1 < nL) (hl2 : (i, Value.long x) :: lv.filter (fun q => !(q.1 == i) && (!(q.1 == i + 1) && !(q.1 + 1 == i && q.2.category == 2))) = lv2) (k : J K ws nL Q (pc + 2) lv2 (st) σ) : J K ws nL Q (pc) lv (.long x :: st) σ := by
  obtain ⟨p, l, e, R, s, m, args, below, meth, c, D, A, ce, sl⟩ := K
  obtain ⟨hx, hb, hml, hown, hts, hK, hA, hSF, ⟨hR1, hR2, hR3, hR4⟩, hr, hlk⟩ := hC
  exact fun H locs ls hl hP hD hS => lv_lstore hx hb hd hl hn hl2 (fun ls hl => k H locs ls hl hP hD hS)
theorem j_iinc {K : Kx} {cc : ByteArray} {own : String} {g : Gm} {nL d : Nat} {ret : Option FieldType} {ws : St → va_W} {Q : State → Prop} {pc : Nat} {lv : List (Nat × Value)} {st : List Value} {σ : St} (hC : Ok K cc own g nL d ret) {i k0 : Nat} {n : Int} {x n2 : Int32} {lv2 : List (Nat × Value)} (hd : decode cc pc = .ok (.iinc i n, 3)) (hk : lv[k0]? = some (i, .int x)) (hv : Int32.ofInt n = n2) (hn : i < nL) (hl2 : (i, Value.int (x + n2)) :: lv.filter (fun q => !(q.1 == i) && !(q.1 + 1 == i && q.2.category == 2)) = lv2) (k : J K ws nL Q (pc + 3) lv2 (st) σ) : J K ws nL Q (pc) lv (st) σ := by
  obtain ⟨p, l, e, R, s, m, args, below, meth, c, D, A, ce, sl⟩ := K
  obtain ⟨hx, hb, hml, hown, hts, hK, hA, hSF, ⟨hR1, hR2, hR3, hR4⟩, hr, hlk⟩ := hC
  exact fun H locs ls hl hP hD hS => lv_iinc hx hb hd hl hk (by rw [hv]) hn hl2 (fun ls hl => k H locs ls hl hP hD hS)
theorem j_sub {K : Kx} {nL : Nat} {ws : St → va_W} {Q : State → Prop} {pc : Nat} {lv lv2 : List (Nat × Value)} {st : List Value} {σ : St} (ks : List Nat) (hl2 : lv_pick lv ks = lv2) (k : J K ws nL Q (pc) lv2 (st) σ) : J K ws nL Q (pc) lv (st) σ := by
  obtain ⟨p, l, e, R, s, m, args, below, meth, c, D, A, ce, sl⟩ := K
  exact fun H locs ls hl hP hD hS => k H locs ls (lv_sub hl ks hl2) hP hD hS
def imax (x y : Int32) : Int32 := if x < y then y else x
theorem j_max {K : Kx} {cc : ByteArray} {own : String} {g : Gm} {nL d : Nat} {ret : Option FieldType} {ws : St → va_W} {Q : State → Prop} {pc : Nat} {lv : List (Nat × Value)} {st : List Value} {σ : St} (hC : Ok K cc own g nL d ret) {x y : Int32} {ix : Nat} (w1 : Cond.methodLink own ix Lib.Math.max.name ∈ GW) (w2 : Cond.static Lib.Math.max.name ∈ GW) (w3 : Cond.initialized "java/lang/Math" ∈ GW) (w4 : Cond.code Lib.Math.max.name Lib.Math.max.code 2 (some .int) ∈ GW) (hd0 : 1 ≤ d) (hcat : (st.map fun v => v.category).sum ≤ 8) (hd : decode cc pc = .ok (.invokestatic ix, 3)) (k : J K ws nL Q (pc + 3) lv (.int (imax x y) :: st) σ) : J K ws nL Q (pc) lv (.int y :: .int x :: st) σ := by
  obtain ⟨p, l, e, R, s, m, args, below, meth, c, D, A, ce, sl⟩ := K
  obtain ⟨hx, hb, hml, hown, hts, hK, hA, hSF, ⟨hR1, hR2, hR3, hR4⟩, hr, hlk⟩ := hC
  exact fun H locs ls hl hP hD hS => va_mmax hx hb (by rw [hml]; exact hl.1.symm) hown (hts _ w1) (hts _ w2) (hts _ w3) (hts _ w4) (Nat.le_trans hd0 hR1) (by omega) hR3 hR4 hd (k H locs ls hl hP hD hS)
def imin (x y : Int32) : Int32 := if y < x then y else x
theorem j_min {K : Kx} {cc : ByteArray} {own : String} {g : Gm} {nL d : Nat} {ret : Option FieldType} {ws : St → va_W} {Q : State → Prop} {pc : Nat} {lv : List (Nat × Value)} {st : List Value} {σ : St} (hC : Ok K cc own g nL d ret) {x y : Int32} {ix : Nat} (w1 : Cond.methodLink own ix Lib.Math.min.name ∈ GW) (w2 : Cond.static Lib.Math.min.name ∈ GW) (w3 : Cond.initialized "java/lang/Math" ∈ GW) (w4 : Cond.code Lib.Math.min.name Lib.Math.min.code 2 (some .int) ∈ GW) (hd0 : 1 ≤ d) (hcat : (st.map fun v => v.category).sum ≤ 8) (hd : decode cc pc = .ok (.invokestatic ix, 3)) (k : J K ws nL Q (pc + 3) lv (.int (imin x y) :: st) σ) : J K ws nL Q (pc) lv (.int y :: .int x :: st) σ := by
  obtain ⟨p, l, e, R, s, m, args, below, meth, c, D, A, ce, sl⟩ := K
  obtain ⟨hx, hb, hml, hown, hts, hK, hA, hSF, ⟨hR1, hR2, hR3, hR4⟩, hr, hlk⟩ := hC
  exact fun H locs ls hl hP hD hS => va_mmin hx hb (by rw [hml]; exact hl.1.symm) hown (hts _ w1) (hts _ w2) (hts _ w3) (hts _ w4) (Nat.le_trans hd0 hR1) (by omega) hR3 hR4 hd (k H locs ls hl hP hD hS)
def iabs (x : Int32) : Int32 := if 0 ≤ x then x else 0 - x
theorem j_abs {K : Kx} {cc : ByteArray} {own : String} {g : Gm} {nL d : Nat} {ret : Option FieldType} {ws : St → va_W} {Q : State → Prop} {pc : Nat} {lv : List (Nat × Value)} {st : List Value} {σ : St} (hC : Ok K cc own g nL d ret) {x : Int32} {ix : Nat} (w1 : Cond.methodLink own ix Lib.Math.abs.name ∈ GW) (w2 : Cond.static Lib.Math.abs.name ∈ GW) (w3 : Cond.initialized "java/lang/Math" ∈ GW) (w4 : Cond.code Lib.Math.abs.name Lib.Math.abs.code 1 (some .int) ∈ GW) (hd0 : 1 ≤ d) (hcat : (st.map fun v => v.category).sum ≤ 8) (hd : decode cc pc = .ok (.invokestatic ix, 3)) (k : J K ws nL Q (pc + 3) lv (.int (iabs x) :: st) σ) : J K ws nL Q (pc) lv (.int x :: st) σ := by
  obtain ⟨p, l, e, R, s, m, args, below, meth, c, D, A, ce, sl⟩ := K
  obtain ⟨hx, hb, hml, hown, hts, hK, hA, hSF, ⟨hR1, hR2, hR3, hR4⟩, hr, hlk⟩ := hC
  exact fun H locs ls hl hP hD hS => va_mabs hx hb (by rw [hml]; exact hl.1.symm) hown (hts _ w1) (hts _ w2) (hts _ w3) (hts _ w4) (Nat.le_trans hd0 hR1) (by omega) hR3 hR4 hd (k H locs ls hl hP hD hS)
theorem j_iret {K : Kx} {cc : ByteArray} {own : String} {g : Gm} {nL d : Nat} {ty : FieldType} {ws : St → va_W} {pc : Nat} {lv : List (Nat × Value)} {σ : St} {v : Int32} {o : Int32 × St} (hC : Ok K cc own g nL d (some ty)) (hd : decode cc pc = .ok (.ireturn, 1)) (hn : narrow ty (.int v) = .int v) (h : some (v, σ) = some o) : J K ws nL (QI K g ws o) pc lv [.int v] σ := by
  obtain ⟨p, l, e, R, s, m, args, below, meth, c, D, A, ce, sl⟩ := K
  obtain ⟨hx, hb, hml, hown, hts, hK, hA, hSF, ⟨hR1, hR2, hR3, hR4⟩, hr, hlk⟩ := hC
  cases h
  exact fun H locs ls hl hP hD hS => W.zret (ty := ty) hx hb hr hn (fun t ht hW => ⟨⟨v, σ, rfl, rfl, by rw [ht]; exact hP, va_K.moved hW.alike hK, hD⟩, hS.F ht⟩) hS.2.2 hd hlk
theorem j_vret {K : Kx} {cc : ByteArray} {own : String} {g : Gm} {nL d : Nat} {ws : St → va_W} {pc : Nat} {lv : List (Nat × Value)} {σ : St} {v : Int32} {o : Int32 × St} (hC : Ok K cc own g nL d none) (hd : decode cc pc = .ok (.return_, 1)) (h : some (v, σ) = some o) : J K ws nL (QV K g ws o) pc lv [] σ := by
  obtain ⟨p, l, e, R, s, m, args, below, meth, c, D, A, ce, sl⟩ := K
  obtain ⟨hx, hb, hml, hown, hts, hK, hA, hSF, ⟨hR1, hR2, hR3, hR4⟩, hr, hlk⟩ := hC
  cases h
  exact fun H locs ls hl hP hD hS => W.vret hx hb hr (fun t ht hW => ⟨⟨σ, rfl, rfl, by rw [ht]; exact hP, va_K.moved hW.alike hK, hD⟩, hS.F ht⟩) hS.2.2 hd hlk
theorem j_lret {K : Kx} {cc : ByteArray} {own : String} {g : Gm} {nL d : Nat} {ws : St → va_W} {pc : Nat} {lv : List (Nat × Value)} {σ : St} {v : Int64} {o : Int64 × St} (hC : Ok K cc own g nL d (some .long)) (hd : decode cc pc = .ok (.lreturn, 1)) (h : some (v, σ) = some o) : J K ws nL (QL K g ws o) pc lv [.long v] σ := by
  obtain ⟨p, l, e, R, s, m, args, below, meth, c, D, A, ce, sl⟩ := K
  obtain ⟨hx, hb, hml, hown, hts, hK, hA, hSF, ⟨hR1, hR2, hR3, hR4⟩, hr, hlk⟩ := hC
  cases h
  exact fun H locs ls hl hP hD hS => W.lret hx hb hr (fun t ht hW => ⟨⟨v, σ, rfl, rfl, by rw [ht]; exact hP, va_K.moved hW.alike hK, hD⟩, hS.F ht⟩) hS.2.2 hd hlk
theorem freeW {A0 : Nat → Prop} {w : va_W} {H0 H : Heap} {locs : List Loc} (hD : va_D A0 w) (hS : va_S A0 H0 H locs) (hA : ∀ q : Nat, H0.size ≤ q → A0 q) : ∀ q : Nat, va_A w H.size q → A0 q := by
  intro q h
  rcases h with ⟨k, e, h⟩ | h
  · exact hD.2 k _ h
  · exact hA q (Nat.le_trans hS.1 h)
theorem SF.next {g : Gm} {A B : Nat → Prop} {s U : State} {H : Heap} {locs : List Loc} (h : SF g A s) (hA : ∀ q : Nat, s.heap.size ≤ q → A q) (hS : va_S A s.heap H locs) (hAB : ∀ q, B q → A q) (hU : U.heap = H) (hvm : s.WarmedH U.vm) : SF g B U := by
  obtain ⟨h1, h2, h3⟩ := h
  refine ⟨h1, State.WarmedH.trans h2 hvm, fun a ha => ⟨fun q => (h3 a ha).1 (hAB a q), ?_⟩⟩
  have hlt : a < s.heap.size := Nat.lt_of_not_le (fun q => (h3 a ha).1 (hA a q))
  rw [hU, hS.2.1 a hlt (h3 a ha).1]
  exact (h3 a ha).2
theorem preW_blind {g : Gm} {ws : St → va_W} {D : va_G} {sz : Nat} {σ : St} {av : List Value} : FrameBlind (va_Pc av (PreW g ws D sz σ)) := by
  intro a U gf mk h
  obtain ⟨q0, q1, q2, q3, q4, q5, q6, q7⟩ := h
  exact ⟨q0, q1, q2, va_K.moved (u := U) (U := U.calling gf mk a) (Vm.Alike.refl U.vm) q3, q4, q5, q6, q7⟩
theorem j_callVi {K : Kx} {cc : ByteArray} {own : String} {g : Gm} {nL d : Nat} {ret : Option FieldType} {ws : St → va_W} {Q : State → Prop} {pc : Nat} {lv : List (Nat × Value)} {st : List Value} {σ : St} (hC : Ok K cc own g nL d ret) {y : MethodName} {c2 : ByteArray} {n2 d2 ix : Nat} {ret2 : Option FieldType} {As : List Value} {r : Int32} {σ2 : St} {stk : List Value} {C : String} {b q0 ci : Nat} {fs : List Value} {Tc : u_T} {nc : Nat} (hM : ∀ (l : Launch) (D : va_G), MI l y c2 n2 ret2 d2 D g ws (.ref b :: As) σ (r, σ2)) (hdd : d2 < d) (hn2 : n2 ≤ 70) (w1 : Cond.methodLink own ix y ∈ GW) (w2 : Cond.instanceMethod y ∈ GW) (w3 : Cond.selects C y y ∈ GW) (w4 : Cond.initialized C ∈ GW) (w5 : Cond.code y c2 n2 ret2 ∈ GW) (hyC : y.cls = C) (hy : y.cls ≠ "java/lang/invoke/MethodHandle" ∧ y.cls ≠ "java/lang/invoke/VarHandle" ∧ (parseMethodDescriptor y.desc).map (fun d => d.parameters.length) = some As.length) (hc : vwCl[ci]? = some (C, Tc, nc)) (he : (ws σ)[q0]? = some (b, .inr (ci, fs))) (hcat : (st.map fun v => v.category).sum ≤ 8) (hst : stk = As.reverse ++ .ref b :: st) (hd : decode cc pc = .ok (.invokevirtual ix, 3)) (k : J K ws nL Q (pc + 3) lv (.int r :: st) σ2) : J K ws nL Q (pc) lv (stk) σ := by
  obtain ⟨p, l, e, R, s, m, args, below, meth, c, D, A, ce, sl⟩ := K
  obtain ⟨hx, hb, hml, hown, hts, hK, hA, hSF, ⟨hR1, hR2, hR3, hR4⟩, hr, hlk⟩ := hC
  subst hst
  intro H locs ls hl hP hD hS
  have hF := freeW hD hS hA
  have hG : GoodIn GW (wsV own ix C y (Cond.code y c2 n2 ret2 :: GW)) := by
    intro w hw
    rcases List.mem_append.mp hw with h | h
    · rcases List.mem_cons.mp h with rfl | h
      · exact goodG1 w1
      rcases List.mem_cons.mp h with rfl | h
      · exact goodG1 w2
      rcases List.mem_cons.mp h with rfl | h
      · exact goodG1 w3
      rcases List.mem_cons.mp h with rfl | h
      · exact goodG1 w4
      · cases h
    · rcases List.mem_cons.mp h with rfl | h
      · exact goodG1 w5
      · exact goodG1 h
  refine va_calli (va_runV (As := As) (rest := st) ⟨hx, hb, hml, hown, hts⟩ (hM l D H.size) (cwV As.length hts hG rfl rfl rfl ⟨hyC, hy⟩ ⟨Nat.le_trans hdd hR1, Nat.le_trans (show 8 + (n2 + 11) + 100 * d2 ≤ 100 * d by omega) hR2⟩) ⟨preW_blind, va_recv hK hP hc he, fun U hU hW => ⟨rfl, by rw [hU], by rw [hU]; exact hP, va_K.moved hW.alike hK, hD.weaken (fun _ _ _ _ => trivial), hSF.next hA hS hF hU hW⟩⟩ rfl rfl hl.1 rfl (lv_room hcat) hd ⟨hR3, hR4⟩) hS (fun q _ h => hF q h) hF ?_
  · intro r9 u t H1 locs1 ht hvm hw hB hz1 hk1 hS1
    obtain ⟨rfl, rfl⟩ := Prod.mk.inj hw
    obtain ⟨hP1, hK1, hD1⟩ := hB
    exact k H1 locs1 ls hl (by rw [← ht]; exact hP1) (hD1.weaken (fun _ q _ h => hF q.1 h)) hS1
theorem j_callSi {K : Kx} {cc : ByteArray} {own : String} {g : Gm} {nL d : Nat} {ret : Option FieldType} {ws : St → va_W} {Q : State → Prop} {pc : Nat} {lv : List (Nat × Value)} {st : List Value} {σ : St} (hC : Ok K cc own g nL d ret) {y : MethodName} {c2 : ByteArray} {n2 d2 ix : Nat} {ret2 : Option FieldType} {As : List Value} {r : Int32} {σ2 : St} {stk : List Value} (hM : ∀ (l : Launch) (D : va_G), MI l y c2 n2 ret2 d2 D g ws (As) σ (r, σ2)) (hdd : d2 < d) (hn2 : n2 ≤ 70) (w1 : Cond.methodLink own ix y ∈ GW) (w2 : Cond.static y ∈ GW) (w4 : Cond.initialized y.cls ∈ GW) (w5 : Cond.code y c2 n2 ret2 ∈ GW) (hy : y.cls ≠ "java/lang/invoke/MethodHandle" ∧ y.cls ≠ "java/lang/invoke/VarHandle" ∧ (parseMethodDescriptor y.desc).map (fun d => d.parameters.length) = some As.length) (hcat : (st.map fun v => v.category).sum ≤ 8) (hst : stk = As.reverse ++ st) (hd : decode cc pc = .ok (.invokestatic ix, 3)) (k : J K ws nL Q (pc + 3) lv (.int r :: st) σ2) : J K ws nL Q (pc) lv (stk) σ := by
  obtain ⟨p, l, e, R, s, m, args, below, meth, c, D, A, ce, sl⟩ := K
  obtain ⟨hx, hb, hml, hown, hts, hK, hA, hSF, ⟨hR1, hR2, hR3, hR4⟩, hr, hlk⟩ := hC
  subst hst
  intro H locs ls hl hP hD hS
  have hF := freeW hD hS hA
  have hG : GoodIn GW (va_wsS own ix y (Cond.code y c2 n2 ret2 :: GW)) := by
    intro w hw
    rcases List.mem_append.mp hw with h | h
    · rcases List.mem_cons.mp h with rfl | h
      · exact goodG1 w1
      rcases List.mem_cons.mp h with rfl | h
      · exact goodG1 w2
      rcases List.mem_cons.mp h with rfl | h
      · exact goodG1 w4
      · cases h
    · rcases List.mem_cons.mp h with rfl | h
      · exact goodG1 w5
      · exact goodG1 h
  refine va_calli (va_runS (As := As) (rest := st) ⟨hx, hb, hml, hown, hts⟩ (hM l D H.size) (va_cwS As.length hts hG rfl rfl rfl hy ⟨Nat.le_trans hdd hR1, Nat.le_trans (show 8 + (n2 + 11) + 100 * d2 ≤ 100 * d by omega) hR2⟩) ⟨preW_blind, fun U hU hW => ⟨rfl, by rw [hU], by rw [hU]; exact hP, va_K.moved hW.alike hK, hD.weaken (fun _ _ _ _ => trivial), hSF.next hA hS hF hU hW⟩⟩ rfl rfl hl.1 rfl (lv_room hcat) hd ⟨hR3, hR4⟩) hS (fun q _ h => hF q h) hF ?_
  · intro r9 u t H1 locs1 ht hvm hw hB hz1 hk1 hS1
    obtain ⟨rfl, rfl⟩ := Prod.mk.inj hw
    obtain ⟨hP1, hK1, hD1⟩ := hB
    exact k H1 locs1 ls hl (by rw [← ht]; exact hP1) (hD1.weaken (fun _ q _ h => hF q.1 h)) hS1
theorem j_callVv {K : Kx} {cc : ByteArray} {own : String} {g : Gm} {nL d : Nat} {ret : Option FieldType} {ws : St → va_W} {Q : State → Prop} {pc : Nat} {lv : List (Nat × Value)} {st : List Value} {σ : St} (hC : Ok K cc own g nL d ret) {y : MethodName} {c2 : ByteArray} {n2 d2 ix : Nat} {ret2 : Option FieldType} {As : List Value} {r : Int32} {σ2 : St} {stk : List Value} {C : String} {b q0 ci : Nat} {fs : List Value} {Tc : u_T} {nc : Nat} (hM : ∀ (l : Launch) (D : va_G), MV l y c2 n2 ret2 d2 D g ws (.ref b :: As) σ (r, σ2)) (hdd : d2 < d) (hn2 : n2 ≤ 70) (w1 : Cond.methodLink own ix y ∈ GW) (w2 : Cond.instanceMethod y ∈ GW) (w3 : Cond.selects C y y ∈ GW) (w4 : Cond.initialized C ∈ GW) (w5 : Cond.code y c2 n2 ret2 ∈ GW) (hyC : y.cls = C) (hy : y.cls ≠ "java/lang/invoke/MethodHandle" ∧ y.cls ≠ "java/lang/invoke/VarHandle" ∧ (parseMethodDescriptor y.desc).map (fun d => d.parameters.length) = some As.length) (hc : vwCl[ci]? = some (C, Tc, nc)) (he : (ws σ)[q0]? = some (b, .inr (ci, fs))) (hcat : (st.map fun v => v.category).sum ≤ 8) (hst : stk = As.reverse ++ .ref b :: st) (hd : decode cc pc = .ok (.invokevirtual ix, 3)) (k : J K ws nL Q (pc + 3) lv (st) σ2) : J K ws nL Q (pc) lv (stk) σ := by
  obtain ⟨p, l, e, R, s, m, args, below, meth, c, D, A, ce, sl⟩ := K
  obtain ⟨hx, hb, hml, hown, hts, hK, hA, hSF, ⟨hR1, hR2, hR3, hR4⟩, hr, hlk⟩ := hC
  subst hst
  intro H locs ls hl hP hD hS
  have hF := freeW hD hS hA
  have hG : GoodIn GW (wsV own ix C y (Cond.code y c2 n2 ret2 :: GW)) := by
    intro w hw
    rcases List.mem_append.mp hw with h | h
    · rcases List.mem_cons.mp h with rfl | h
      · exact goodG1 w1
      rcases List.mem_cons.mp h with rfl | h
      · exact goodG1 w2
      rcases List.mem_cons.mp h with rfl | h
      · exact goodG1 w3
      rcases List.mem_cons.mp h with rfl | h
      · exact goodG1 w4
      · cases h
    · rcases List.mem_cons.mp h with rfl | h
      · exact goodG1 w5
      · exact goodG1 h
  refine va_callv (va_runV (As := As) (rest := st) ⟨hx, hb, hml, hown, hts⟩ (hM l D H.size) (cwV As.length hts hG rfl rfl rfl ⟨hyC, hy⟩ ⟨Nat.le_trans hdd hR1, Nat.le_trans (show 8 + (n2 + 11) + 100 * d2 ≤ 100 * d by omega) hR2⟩) ⟨preW_blind, va_recv hK hP hc he, fun U hU hW => ⟨rfl, by rw [hU], by rw [hU]; exact hP, va_K.moved hW.alike hK, hD.weaken (fun _ _ _ _ => trivial), hSF.next hA hS hF hU hW⟩⟩ rfl rfl hl.1 rfl (lv_room hcat) hd ⟨hR3, hR4⟩) hS (fun q _ h => hF q h) hF ?_
  · intro u t H1 locs1 ht hvm hw hB hz1 hk1 hS1
    have hw : u = σ2 := hw
    subst hw
    obtain ⟨hP1, hK1, hD1⟩ := hB
    exact k H1 locs1 ls hl (by rw [← ht]; exact hP1) (hD1.weaken (fun _ q _ h => hF q.1 h)) hS1
theorem j_callSv {K : Kx} {cc : ByteArray} {own : String} {g : Gm} {nL d : Nat} {ret : Option FieldType} {ws : St → va_W} {Q : State → Prop} {pc : Nat} {lv : List (Nat × Value)} {st : List Value} {σ : St} (hC : Ok K cc own g nL d ret) {y : MethodName} {c2 : ByteArray} {n2 d2 ix : Nat} {ret2 : Option FieldType} {As : List Value} {r : Int32} {σ2 : St} {stk : List Value} (hM : ∀ (l : Launch) (D : va_G), MV l y c2 n2 ret2 d2 D g ws (As) σ (r, σ2)) (hdd : d2 < d) (hn2 : n2 ≤ 70) (w1 : Cond.methodLink own ix y ∈ GW) (w2 : Cond.static y ∈ GW) (w4 : Cond.initialized y.cls ∈ GW) (w5 : Cond.code y c2 n2 ret2 ∈ GW) (hy : y.cls ≠ "java/lang/invoke/MethodHandle" ∧ y.cls ≠ "java/lang/invoke/VarHandle" ∧ (parseMethodDescriptor y.desc).map (fun d => d.parameters.length) = some As.length) (hcat : (st.map fun v => v.category).sum ≤ 8) (hst : stk = As.reverse ++ st) (hd : decode cc pc = .ok (.invokestatic ix, 3)) (k : J K ws nL Q (pc + 3) lv (st) σ2) : J K ws nL Q (pc) lv (stk) σ := by
  obtain ⟨p, l, e, R, s, m, args, below, meth, c, D, A, ce, sl⟩ := K
  obtain ⟨hx, hb, hml, hown, hts, hK, hA, hSF, ⟨hR1, hR2, hR3, hR4⟩, hr, hlk⟩ := hC
  subst hst
  intro H locs ls hl hP hD hS
  have hF := freeW hD hS hA
  have hG : GoodIn GW (va_wsS own ix y (Cond.code y c2 n2 ret2 :: GW)) := by
    intro w hw
    rcases List.mem_append.mp hw with h | h
    · rcases List.mem_cons.mp h with rfl | h
      · exact goodG1 w1
      rcases List.mem_cons.mp h with rfl | h
      · exact goodG1 w2
      rcases List.mem_cons.mp h with rfl | h
      · exact goodG1 w4
      · cases h
    · rcases List.mem_cons.mp h with rfl | h
      · exact goodG1 w5
      · exact goodG1 h
  refine va_callv (va_runS (As := As) (rest := st) ⟨hx, hb, hml, hown, hts⟩ (hM l D H.size) (va_cwS As.length hts hG rfl rfl rfl hy ⟨Nat.le_trans hdd hR1, Nat.le_trans (show 8 + (n2 + 11) + 100 * d2 ≤ 100 * d by omega) hR2⟩) ⟨preW_blind, fun U hU hW => ⟨rfl, by rw [hU], by rw [hU]; exact hP, va_K.moved hW.alike hK, hD.weaken (fun _ _ _ _ => trivial), hSF.next hA hS hF hU hW⟩⟩ rfl rfl hl.1 rfl (lv_room hcat) hd ⟨hR3, hR4⟩) hS (fun q _ h => hF q h) hF ?_
  · intro u t H1 locs1 ht hvm hw hB hz1 hk1 hS1
    have hw : u = σ2 := hw
    subst hw
    obtain ⟨hP1, hK1, hD1⟩ := hB
    exact k H1 locs1 ls hl (by rw [← ht]; exact hP1) (hD1.weaken (fun _ q _ h => hF q.1 h)) hS1
theorem j_callVl {K : Kx} {cc : ByteArray} {own : String} {g : Gm} {nL d : Nat} {ret : Option FieldType} {ws : St → va_W} {Q : State → Prop} {pc : Nat} {lv : List (Nat × Value)} {st : List Value} {σ : St} (hC : Ok K cc own g nL d ret) {y : MethodName} {c2 : ByteArray} {n2 d2 ix : Nat} {ret2 : Option FieldType} {As : List Value} {r : Int64} {σ2 : St} {stk : List Value} {C : String} {b q0 ci : Nat} {fs : List Value} {Tc : u_T} {nc : Nat} (hM : ∀ (l : Launch) (D : va_G), ML l y c2 n2 ret2 d2 D g ws (.ref b :: As) σ (r, σ2)) (hdd : d2 < d) (hn2 : n2 ≤ 70) (w1 : Cond.methodLink own ix y ∈ GW) (w2 : Cond.instanceMethod y ∈ GW) (w3 : Cond.selects C y y ∈ GW) (w4 : Cond.initialized C ∈ GW) (w5 : Cond.code y c2 n2 ret2 ∈ GW) (hyC : y.cls = C) (hy : y.cls ≠ "java/lang/invoke/MethodHandle" ∧ y.cls ≠ "java/lang/invoke/VarHandle" ∧ (parseMethodDescriptor y.desc).map (fun d => d.parameters.length) = some As.length) (hc : vwCl[ci]? = some (C, Tc, nc)) (he : (ws σ)[q0]? = some (b, .inr (ci, fs))) (hcat : (st.map fun v => v.category).sum ≤ 8) (hst : stk = As.reverse ++ .ref b :: st) (hd : decode cc pc = .ok (.invokevirtual ix, 3)) (k : J K ws nL Q (pc + 3) lv (.long r :: st) σ2) : J K ws nL Q (pc) lv (stk) σ := by
  obtain ⟨p, l, e, R, s, m, args, below, meth, c, D, A, ce, sl⟩ := K
  obtain ⟨hx, hb, hml, hown, hts, hK, hA, hSF, ⟨hR1, hR2, hR3, hR4⟩, hr, hlk⟩ := hC
  subst hst
  intro H locs ls hl hP hD hS
  have hF := freeW hD hS hA
  have hG : GoodIn GW (wsV own ix C y (Cond.code y c2 n2 ret2 :: GW)) := by
    intro w hw
    rcases List.mem_append.mp hw with h | h
    · rcases List.mem_cons.mp h with rfl | h
      · exact goodG1 w1
      rcases List.mem_cons.mp h with rfl | h
      · exact goodG1 w2
      rcases List.mem_cons.mp h with rfl | h
      · exact goodG1 w3
      rcases List.mem_cons.mp h with rfl | h
      · exact goodG1 w4
      · cases h
    · rcases List.mem_cons.mp h with rfl | h
      · exact goodG1 w5
      · exact goodG1 h
  refine va_calll (va_runV (As := As) (rest := st) ⟨hx, hb, hml, hown, hts⟩ (hM l D H.size) (cwV As.length hts hG rfl rfl rfl ⟨hyC, hy⟩ ⟨Nat.le_trans hdd hR1, Nat.le_trans (show 8 + (n2 + 11) + 100 * d2 ≤ 100 * d by omega) hR2⟩) ⟨preW_blind, va_recv hK hP hc he, fun U hU hW => ⟨rfl, by rw [hU], by rw [hU]; exact hP, va_K.moved hW.alike hK, hD.weaken (fun _ _ _ _ => trivial), hSF.next hA hS hF hU hW⟩⟩ rfl rfl hl.1 rfl (lv_room hcat) hd ⟨hR3, hR4⟩) hS (fun q _ h => hF q h) hF ?_
  · intro r9 u t H1 locs1 ht hvm hw hB hz1 hk1 hS1
    obtain ⟨rfl, rfl⟩ := Prod.mk.inj hw
    obtain ⟨hP1, hK1, hD1⟩ := hB
    exact k H1 locs1 ls hl (by rw [← ht]; exact hP1) (hD1.weaken (fun _ q _ h => hF q.1 h)) hS1
theorem j_callSl {K : Kx} {cc : ByteArray} {own : String} {g : Gm} {nL d : Nat} {ret : Option FieldType} {ws : St → va_W} {Q : State → Prop} {pc : Nat} {lv : List (Nat × Value)} {st : List Value} {σ : St} (hC : Ok K cc own g nL d ret) {y : MethodName} {c2 : ByteArray} {n2 d2 ix : Nat} {ret2 : Option FieldType} {As : List Value} {r : Int64} {σ2 : St} {stk : List Value} (hM : ∀ (l : Launch) (D : va_G), ML l y c2 n2 ret2 d2 D g ws (As) σ (r, σ2)) (hdd : d2 < d) (hn2 : n2 ≤ 70) (w1 : Cond.methodLink own ix y ∈ GW) (w2 : Cond.static y ∈ GW) (w4 : Cond.initialized y.cls ∈ GW) (w5 : Cond.code y c2 n2 ret2 ∈ GW) (hy : y.cls ≠ "java/lang/invoke/MethodHandle" ∧ y.cls ≠ "java/lang/invoke/VarHandle" ∧ (parseMethodDescriptor y.desc).map (fun d => d.parameters.length) = some As.length) (hcat : (st.map fun v => v.category).sum ≤ 8) (hst : stk = As.reverse ++ st) (hd : decode cc pc = .ok (.invokestatic ix, 3)) (k : J K ws nL Q (pc + 3) lv (.long r :: st) σ2) : J K ws nL Q (pc) lv (stk) σ := by
  obtain ⟨p, l, e, R, s, m, args, below, meth, c, D, A, ce, sl⟩ := K
  obtain ⟨hx, hb, hml, hown, hts, hK, hA, hSF, ⟨hR1, hR2, hR3, hR4⟩, hr, hlk⟩ := hC
  subst hst
  intro H locs ls hl hP hD hS
  have hF := freeW hD hS hA
  have hG : GoodIn GW (va_wsS own ix y (Cond.code y c2 n2 ret2 :: GW)) := by
    intro w hw
    rcases List.mem_append.mp hw with h | h
    · rcases List.mem_cons.mp h with rfl | h
      · exact goodG1 w1
      rcases List.mem_cons.mp h with rfl | h
      · exact goodG1 w2
      rcases List.mem_cons.mp h with rfl | h
      · exact goodG1 w4
      · cases h
    · rcases List.mem_cons.mp h with rfl | h
      · exact goodG1 w5
      · exact goodG1 h
  refine va_calll (va_runS (As := As) (rest := st) ⟨hx, hb, hml, hown, hts⟩ (hM l D H.size) (va_cwS As.length hts hG rfl rfl rfl hy ⟨Nat.le_trans hdd hR1, Nat.le_trans (show 8 + (n2 + 11) + 100 * d2 ≤ 100 * d by omega) hR2⟩) ⟨preW_blind, fun U hU hW => ⟨rfl, by rw [hU], by rw [hU]; exact hP, va_K.moved hW.alike hK, hD.weaken (fun _ _ _ _ => trivial), hSF.next hA hS hF hU hW⟩⟩ rfl rfl hl.1 rfl (lv_room hcat) hd ⟨hR3, hR4⟩) hS (fun q _ h => hF q h) hF ?_
  · intro r9 u t H1 locs1 ht hvm hw hB hz1 hk1 hS1
    obtain ⟨rfl, rfl⟩ := Prod.mk.inj hw
    obtain ⟨hP1, hK1, hD1⟩ := hB
    exact k H1 locs1 ls hl (by rw [← ht]; exact hP1) (hD1.weaken (fun _ q _ h => hF q.1 h)) hS1
/-! the pieces of which the functions are made -/
def bnd {α ρ : Type} (v : α) (f : α → Option ρ) : Option ρ := f v
def inB (i : Int32) (n : Nat) : Bool := decide (0 ≤ i.toInt) && decide (i.toInt < (n : Int))
theorem inB_in {i : Int32} {n : Nat} (h : inB i n = true) : vp_in i n := by
  unfold inB at h
  rw [Bool.and_eq_true, decide_eq_true_eq, decide_eq_true_eq] at h
  exact vp_in_iff.mpr h
def ald {ρ : Type} (σ : St) (a n : Nat) (i : Int32) (f : Int32 → Option ρ) : Option ρ := if inB i n = true then f (ga σ a i.toNatClampNeg) else none
def ast {ρ : Type} (σ : St) (a n : Nat) (i v : Int32) (f : St → Option ρ) : Option ρ := if inB i n = true then f (sa σ a i.toNatClampNeg v) else none
def cal {α ρ : Type} (o : Option (α × St)) (f : α → St → Option ρ) : Option ρ := match o with
  | none => none
  | some (r, u) => f r u
def chk {ρ : Type} (c : Bool) (f : Option ρ) : Option ρ := if c = true then f else none
theorem ald_some {ρ : Type} {σ : St} {a n : Nat} {i : Int32} {f : Int32 → Option ρ} {o : ρ} (h : ald σ a n i f = some o) : vp_in i n ∧ f (ga σ a i.toNatClampNeg) = some o := by
  unfold ald at h
  split at h
  · next q => exact ⟨inB_in q, h⟩
  · cases h
theorem ast_some {ρ : Type} {σ : St} {a n : Nat} {i v : Int32} {f : St → Option ρ} {o : ρ} (h : ast σ a n i v f = some o) : vp_in i n ∧ f (sa σ a i.toNatClampNeg v) = some o := by
  unfold ast at h
  split at h
  · next q => exact ⟨inB_in q, h⟩
  · cases h
theorem cal_some {α ρ : Type} {o : Option (α × St)} {f : α → St → Option ρ} {v : ρ} (h : cal o f = some v) : ∃ r u, o = some (r, u) ∧ f r u = some v := by
  cases o with
  | none => cases h
  | some q => exact ⟨q.1, q.2, rfl, h⟩
theorem chk_some {ρ : Type} {c : Bool} {f : Option ρ} {o : ρ} (h : chk c f = some o) : c = true ∧ f = some o := by
  unfold chk at h
  split at h
  · next q => exact ⟨q, h⟩
  · cases h
def isZ (v : Int32) : Bool := decide (v = 0) || decide (v = 1)
theorem isZ_nar {v : Int32} (h : isZ v = true) : narrow .boolean (.int v) = .int v := by
  unfold isZ at h
  rw [Bool.or_eq_true, decide_eq_true_eq, decide_eq_true_eq] at h
  rcases h with rfl | rfl <;> rfl
