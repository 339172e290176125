def strOwn : List String := ["SongHour$Rulebook", "SongHour$Rulebook", "SongHour$Rulebook", "SongHour$Rulebook", "SongHour$Rulebook", "SongHour", "SongHour$Clock", "SongHour$Clock", "SongHour$Clock", "SongHour$Clock", "SongHour", "SongHour"]
def strIx : List Nat := [79, 85, 87, 89, 91, 83, 52, 58, 82, 83, 164, 182]
def strTx : List String := ["gap", "artist", "keys", "slack", "most", "no such clock", "songs", "talk", "mood", "new", "no such play", "no such item"]
def strTm (i : Nat) : Term := .string (strOwn.getD i "") (strIx.getD i 0)
def lenS : List Nat := [3, 6, 4, 5, 4, 13, 5, 4, 4, 3, 12, 12]
def bytS : List (List Int32) := [[103, 97, 112], [97, 114, 116, 105, 115, 116], [107, 101, 121, 115], [115, 108, 97, 99, 107], [109, 111, 115, 116], [110, 111, 32, 115, 117, 99, 104, 32, 99, 108, 111, 99, 107], [115, 111, 110, 103, 115], [116, 97, 108, 107], [109, 111, 111, 100], [110, 101, 119], [110, 111, 32, 115, 117, 99, 104, 32, 112, 108, 97, 121], [110, 111, 32, 115, 117, 99, 104, 32, 105, 116, 101, 109]]
def tb_USUAL (k : Nat) : Int32 := ([180, 60, 6, 60, 4] : List Int32).getD k 0
def tb_LOWEST (k : Nat) : Int32 := ([0, 0, 0, 0, 1] : List Int32).getD k 0
def tb_HIGHEST (k : Nat) : Int32 := ([9999, 9999, 6, 900, 4] : List Int32).getD k 0
def stb {ρ : Type} (t : Nat → Int32) (n : Nat) (i : Int32) (f : Int32 → Option ρ) : Option ρ := if inB i n = true then f (t i.toNatClampNeg) else none
theorem stb_some {ρ : Type} {t : Nat → Int32} {n : Nat} {i : Int32} {f : Int32 → Option ρ} {o : ρ} (h : stb t n i f = some o) : vp_in i n ∧ f (t i.toNatClampNeg) = some o := by
  unfold stb at h
  split at h
  · next q => exact ⟨inB_in q, h⟩
  · cases h
def oldA (s0 : State) : Nat → Prop := fun q => s0.heap.size ≤ q
theorem old_not (s0 : State) : ∀ a : Nat, a < s0.heap.size → ¬ oldA s0 a := fun a h q => Nat.lt_irrefl _ (Nat.lt_of_lt_of_le h q)
abbrev FLT : List Cond := flatC (Jvm.Cond.and given_1 narrow_1)
theorem SF.sub {g : Gm} {A : Nat → Prop} {s : State} (h : SF g A s) : ∀ q, A q → oldA (s0G g) q := fun q hq => Nat.le_of_not_lt (fun hl => (h.2.2 q hl).1 hq)
theorem SF.Z {g : Gm} {A : Nat → Prop} {s : State} (h : SF g A s) {C n d : String} {v : Value} (hZ : va_Z C n d v (oldA (s0G g)) (s0G g) (s0G g).heap) : va_Z C n d v A s s.heap := ((hZ.moved h.2.1.alike).kept (fun a ha _ => (h.2.2 a ha).2)).narrow h.sub
theorem SF.Zq {g : Gm} {A : Nat → Prop} {s : State} (h : SF g A s) {C n d : String} (hZ : va_Zq C n d (oldA (s0G g)) (s0G g) (s0G g).heap) : va_Zq C n d A s s.heap := ((hZ.moved h.2.1.alike).kept (fun a ha _ => (h.2.2 a ha).2)).narrow h.sub
theorem SF.T {g : Gm} {A : Nat → Prop} {s : State} (h : SF g A s) {ty : FieldType} {t N : Nat} {f : Nat → Value} (hZ : va_T ty t N f (oldA (s0G g)) (s0G g) (s0G g).heap) : va_T ty t N f A s s.heap := ((hZ.moved h.2.1.alike).kept (fun a ha _ => (h.2.2 a ha).2)).narrow h.sub
theorem SF.S {g : Gm} {A : Nat → Prop} {s : State} (h : SF g A s) {N : Nat} {len : List Nat} {byt : List (List Int32)} {adK adV : Nat → Nat} (hZ : vk_S N len byt adK adV (oldA (s0G g)) (s0G g) (s0G g).heap) : vk_S N len byt adK adV A s s.heap := ((hZ.moved h.2.1.alike).kept (fun a ha _ => (h.2.2 a ha).2)).narrow h.sub
theorem tab_USUAL {s0 : State} (hB : BaseS s0) : ∃ t : Nat, va_Z "SongHour$Rulebook" "USUAL" "[I" (.ref t) (oldA s0) s0 s0.heap ∧ va_T .int t 5 (fun j => .int (tb_USUAL j)) (oldA s0) s0 s0.heap := by
  obtain ⟨args0, hg, hw⟩ := hB
  have hs := flat_of_before _ hg
  obtain ⟨t, ht, hT⟩ := va_Tof (args := args0) (s := s0) (tm := (.static "SongHour$Rulebook" "USUAL" "[I")) (ty := .int) (N := 5) (f := fun j => .int (tb_USUAL j)) (A := oldA s0) (by decide) (hs _ (by decide +kernel)) (va_eqt (hs _ (by decide +kernel))) (fun j hj => by
    rcases (show j = 0 ∨ j = 1 ∨ j = 2 ∨ j = 3 ∨ j = 4 by omega) with rfl | rfl | rfl | rfl | rfl
    · exact va_eqt (hs (.eq (.elem (.static "SongHour$Rulebook" "USUAL" "[I") (.int 0)) (.int 180)) (by decide +kernel))
    · exact va_eqt (hs (.eq (.elem (.static "SongHour$Rulebook" "USUAL" "[I") (.int 1)) (.int 60)) (by decide +kernel))
    · exact va_eqt (hs (.eq (.elem (.static "SongHour$Rulebook" "USUAL" "[I") (.int 2)) (.int 6)) (by decide +kernel))
    · exact va_eqt (hs (.eq (.elem (.static "SongHour$Rulebook" "USUAL" "[I") (.int 3)) (.int 60)) (by decide +kernel))
    · exact va_eqt (hs (.eq (.elem (.static "SongHour$Rulebook" "USUAL" "[I") (.int 4)) (.int 4)) (by decide +kernel))) (old_not s0)
  exact ⟨t, va_Zof (hw (.laysStatic "SongHour$Rulebook" "USUAL" "[I") (by decide +kernel)) (hw (.initialized "SongHour$Rulebook") (by decide +kernel)) ht (old_not s0), hT⟩
theorem tab_LOWEST {s0 : State} (hB : BaseS s0) : ∃ t : Nat, va_Z "SongHour$Rulebook" "LOWEST" "[I" (.ref t) (oldA s0) s0 s0.heap ∧ va_T .int t 5 (fun j => .int (tb_LOWEST j)) (oldA s0) s0 s0.heap := by
  obtain ⟨args0, hg, hw⟩ := hB
  have hs := flat_of_before _ hg
  obtain ⟨t, ht, hT⟩ := va_Tof (args := args0) (s := s0) (tm := (.static "SongHour$Rulebook" "LOWEST" "[I")) (ty := .int) (N := 5) (f := fun j => .int (tb_LOWEST j)) (A := oldA s0) (by decide) (hs _ (by decide +kernel)) (va_eqt (hs _ (by decide +kernel))) (fun j hj => by
    rcases (show j = 0 ∨ j = 1 ∨ j = 2 ∨ j = 3 ∨ j = 4 by omega) with rfl | rfl | rfl | rfl | rfl
    · exact va_eqt (hs (.eq (.elem (.static "SongHour$Rulebook" "LOWEST" "[I") (.int 0)) (.int 0)) (by decide +kernel))
    · exact va_eqt (hs (.eq (.elem (.static "SongHour$Rulebook" "LOWEST" "[I") (.int 1)) (.int 0)) (by decide +kernel))
    · exact va_eqt (hs (.eq (.elem (.static "SongHour$Rulebook" "LOWEST" "[I") (.int 2)) (.int 0)) (by decide +kernel))
    · exact va_eqt (hs (.eq (.elem (.static "SongHour$Rulebook" "LOWEST" "[I") (.int 3)) (.int 0)) (by decide +kernel))
    · exact va_eqt (hs (.eq (.elem (.static "SongHour$Rulebook" "LOWEST" "[I") (.int 4)) (.int 1)) (by decide +kernel))) (old_not s0)
  exact ⟨t, va_Zof (hw (.laysStatic "SongHour$Rulebook" "LOWEST" "[I") (by decide +kernel)) (hw (.initialized "SongHour$Rulebook") (by decide +kernel)) ht (old_not s0), hT⟩
theorem tab_HIGHEST {s0 : State} (hB : BaseS s0) : ∃ t : Nat, va_Z "SongHour$Rulebook" "HIGHEST" "[I" (.ref t) (oldA s0) s0 s0.heap ∧ va_T .int t 5 (fun j => .int (tb_HIGHEST j)) (oldA s0) s0 s0.heap := by
  obtain ⟨args0, hg, hw⟩ := hB
  have hs := flat_of_before _ hg
  obtain ⟨t, ht, hT⟩ := va_Tof (args := args0) (s := s0) (tm := (.static "SongHour$Rulebook" "HIGHEST" "[I")) (ty := .int) (N := 5) (f := fun j => .int (tb_HIGHEST j)) (A := oldA s0) (by decide) (hs _ (by decide +kernel)) (va_eqt (hs _ (by decide +kernel))) (fun j hj => by
    rcases (show j = 0 ∨ j = 1 ∨ j = 2 ∨ j = 3 ∨ j = 4 by omega) with rfl | rfl | rfl | rfl | rfl
    · exact va_eqt (hs (.eq (.elem (.static "SongHour$Rulebook" "HIGHEST" "[I") (.int 0)) (.int 9999)) (by decide +kernel))
    · exact va_eqt (hs (.eq (.elem (.static "SongHour$Rulebook" "HIGHEST" "[I") (.int 1)) (.int 9999)) (by decide +kernel))
    · exact va_eqt (hs (.eq (.elem (.static "SongHour$Rulebook" "HIGHEST" "[I") (.int 2)) (.int 6)) (by decide +kernel))
    · exact va_eqt (hs (.eq (.elem (.static "SongHour$Rulebook" "HIGHEST" "[I") (.int 3)) (.int 900)) (by decide +kernel))
    · exact va_eqt (hs (.eq (.elem (.static "SongHour$Rulebook" "HIGHEST" "[I") (.int 4)) (.int 4)) (by decide +kernel))) (old_not s0)
  exact ⟨t, va_Zof (hw (.laysStatic "SongHour$Rulebook" "HIGHEST" "[I") (by decide +kernel)) (hw (.initialized "SongHour$Rulebook") (by decide +kernel)) ht (old_not s0), hT⟩
theorem str_c1 : ∀ i, i < 12 → Cond.exactly (strTm i) "java/lang/String" ∈ FLT := by decide +kernel
theorem str_c2 : ∀ i, i < 12 → Cond.eq (.field (strTm i) "java/lang/String" "coder" "B") (.int 0) ∈ FLT := by decide +kernel
theorem str_c3 : ∀ i, i < 12 → Cond.arrayOf (.field (strTm i) "java/lang/String" "value" "[B") .byte ∈ FLT := by decide +kernel
theorem str_c4 : ∀ i, i < 12 → Cond.eq (.length (.field (strTm i) "java/lang/String" "value" "[B")) (.int (Int32.ofNat (lenS.getD i 0))) ∈ FLT := by decide +kernel
theorem str_c5 : ∀ i, i < 12 → ∀ j, j < lenS.getD i 0 → Cond.eq (.elem (.field (strTm i) "java/lang/String" "value" "[B") (.int (Int32.ofNat j))) (.int ((bytS.getD i []).getD j 0)) ∈ FLT := by decide +kernel
theorem str_c6 : ∀ i, i < 12 → ∀ j, j < 12 → i ≠ j → (Cond.not (Cond.eq (strTm i) (strTm j)) ∈ FLT ∨ Cond.not (Cond.eq (strTm j) (strTm i)) ∈ FLT) := by decide +kernel
theorem str_c7 : ∀ i, i < 12 → Cond.stringRef (strOwn.getD i "") (strIx.getD i 0) (strTx.getD i "") ∈ lw_tbl := by decide +kernel
def StrP (s0 : State) (q : (Nat → Nat) × (Nat → Nat)) : Prop := vk_S 12 lenS bytS q.1 q.2 (oldA s0) s0 s0.heap ∧ ∀ i, i < 12 → vk_R (strOwn.getD i "") (strIx.getD i 0) (strTx.getD i "") (q.1 i) s0
theorem str_ex {s0 : State} (hB : BaseS s0) : ∃ q, StrP s0 q := by
  obtain ⟨args0, hg, hw⟩ := hB
  have hs := flat_of_before _ hg
  obtain ⟨aK, aV, h1, h2⟩ := vk_Sof (args := args0) (s := s0) (N := 12) (tm := strTm) (len := lenS) (byt := bytS) (A := oldA s0) (by decide) (fun i hi => hs _ (str_c1 i hi)) (fun i hi => hs _ (str_c2 i hi)) (fun i hi => hs _ (str_c3 i hi)) (fun i hi => hs _ (str_c4 i hi)) (fun i hi j hj => hs _ (str_c5 i hi j hj)) (fun i j hi hj hn => (str_c6 i hi j hj hn).imp (hs _) (hs _)) (old_not s0)
  exact ⟨(aK, aV), h1, fun i hi => vk_R.of (A := args0) (hw _ (str_c7 i hi)) (h2 i hi)⟩
noncomputable def adS (s0 : State) : (Nat → Nat) × (Nat → Nat) := Classical.epsilon (StrP s0)
theorem adS_ok {s0 : State} (hB : BaseS s0) : StrP s0 (adS s0) := Classical.epsilon_spec (str_ex hB)
theorem SF.str {g : Gm} {A : Nat → Prop} {s : State} (h : SF g A s) : vk_S 12 lenS bytS (adS (s0G g)).1 (adS (s0G g)).2 A s s.heap := h.S (adS_ok h.1).1
theorem SF.strR {g : Gm} {A : Nat → Prop} {s : State} (h : SF g A s) {i : Nat} (hi : i < 12) : vk_R (strOwn.getD i "") (strIx.getD i 0) (strTx.getD i "") ((adS (s0G g)).1 i) s := vk_R.warm h.2.1 ((adS_ok h.1).2 i hi)
theorem compact {s0 : State} (hB : BaseS s0) : va_Z "java/lang/String" "COMPACT_STRINGS" "Z" (.int 1) (oldA s0) s0 s0.heap := by
  obtain ⟨args0, hg, hw⟩ := hB
  have hs := flat_of_before _ hg
  exact va_Zof (hw (.laysStatic "java/lang/String" "COMPACT_STRINGS" "Z") (by decide +kernel)) (hw (.initialized "java/lang/String") (by decide +kernel)) (va_eqt (hs (.eq (.static "java/lang/String" "COMPACT_STRINGS" "Z") (.int 1)) (by decide +kernel))) (old_not s0)
theorem formatter {s0 : State} (hB : BaseS s0) : va_Zq "jdk/internal/util/Preconditions" "SIOOBE_FORMATTER" "Ljava/util/function/BiFunction;" (oldA s0) s0 s0.heap := by
  obtain ⟨args0, hg, hw⟩ := hB
  have hs := flat_of_before _ hg
  exact va_Zqof (hw (.laysStatic "jdk/internal/util/Preconditions" "SIOOBE_FORMATTER" "Ljava/util/function/BiFunction;") (by decide +kernel)) (hw (.initialized "jdk/internal/util/Preconditions") (by decide +kernel)) (hs _ (by decide +kernel)) (old_not s0)
theorem j_gets {K : Kx} {cc : ByteArray} {own : String} {g : Gm} {nL d : Nat} {ret : Option FieldType} {ws : St → va_W} {Q : State → Prop} {pc : Nat} {lv : List (Nat × Value)} {st : List Value} {σ : St} (hC : Ok K cc own g nL d ret) {C n dd : String} {v : Value} {ix : Nat} (hZ : va_Z C n dd v (oldA (s0G g)) (s0G g) (s0G g).heap) (w : Cond.fieldLink own ix C n dd ∈ GW) (hd : decode cc pc = .ok (.getstatic ix, 3)) (k : J K ws nL Q (pc + 3) lv (v :: st) σ) : J K ws nL Q pc lv st σ := by
  obtain ⟨p, l, e, R, s, m, args, below, meth, c, D, A, ce, sl⟩ := K
  obtain ⟨hx, hb, hml, hown, hts, hK, hA, hSF, ⟨hR1, hR2, hR3, hR4⟩, hr, hlk⟩ := hC
  exact fun H locs ls hl hP hD hS => va_gets hx hb (hSF.Z hZ) hS hown (hts _ w) (fun _ h => h) hd (k H locs ls hl hP hD hS)
theorem Ok.base {K : Kx} {cc : ByteArray} {own : String} {g : Gm} {nL d : Nat} {ret : Option FieldType} (hC : Ok K cc own g nL d ret) : BaseS (s0G g) := by
  obtain ⟨p, l, e, R, s, m, args, below, meth, c, D, A, ce, sl⟩ := K
  obtain ⟨hx, hb, hml, hown, hts, hK, hA, hSF, ⟨hR1, hR2, hR3, hR4⟩, hr, hlk⟩ := hC
  exact hSF.1
theorem j_i2c {K : Kx} {cc : ByteArray} {own : String} {g : Gm} {nL d : Nat} {ret : Option FieldType} {ws : St → va_W} {Q : State → Prop} {pc : Nat} {lv : List (Nat × Value)} {st : List Value} {σ : St} (hC : Ok K cc own g nL d ret) {x : Int32} (hd : decode cc pc = .ok (.i2c, 1)) (k : J K ws nL Q (pc + 1) lv (.int ((x.toUInt32 % 65536).toInt32) :: st) σ) : J K ws nL Q pc lv (.int x :: st) σ := by
  obtain ⟨p, l, e, R, s, m, args, below, meth, c, D, A, ce, sl⟩ := K
  obtain ⟨hx, hb, hml, hown, hts, hK, hA, hSF, ⟨hR1, hR2, hR3, hR4⟩, hr, hlk⟩ := hC
  exact fun H locs ls hl hP hD hS => lv_i2c hx hb hd rfl (k H locs ls hl hP hD hS)
theorem j_tb {K : Kx} {cc : ByteArray} {own : String} {g : Gm} {nL d : Nat} {ret : Option FieldType} {ws : St → va_W} {Q : State → Prop} {pc : Nat} {lv : List (Nat × Value)} {st : List Value} {σ : St} (hC : Ok K cc own g nL d ret) {t N : Nat} {f : Nat → Int32} {i : Int32} (hT : va_T .byte t N (fun j => .int (f j)) (oldA (s0G g)) (s0G g) (s0G g).heap) (hin : vp_in i N) (hd : decode cc pc = .ok (.baload, 1)) (k : J K ws nL Q (pc + 1) lv (.int (f i.toNatClampNeg) :: st) σ) : J K ws nL Q pc lv (.int i :: .ref t :: st) σ := by
  obtain ⟨p, l, e, R, s, m, args, below, meth, c, D, A, ce, sl⟩ := K
  obtain ⟨hx, hb, hml, hown, hts, hK, hA, hSF, ⟨hR1, hR2, hR3, hR4⟩, hr, hlk⟩ := hC
  exact fun H locs ls hl hP hD hS => va_tb hx hb (hSF.T hT) hS hin rfl hd (k H locs ls hl hP hD hS)
theorem j_ti {K : Kx} {cc : ByteArray} {own : String} {g : Gm} {nL d : Nat} {ret : Option FieldType} {ws : St → va_W} {Q : State → Prop} {pc : Nat} {lv : List (Nat × Value)} {st : List Value} {σ : St} (hC : Ok K cc own g nL d ret) {t N : Nat} {f : Nat → Int32} {i : Int32} (hT : va_T .int t N (fun j => .int (f j)) (oldA (s0G g)) (s0G g) (s0G g).heap) (hin : vp_in i N) (hd : decode cc pc = .ok (.iaload, 1)) (k : J K ws nL Q (pc + 1) lv (.int (f i.toNatClampNeg) :: st) σ) : J K ws nL Q pc lv (.int i :: .ref t :: st) σ := by
  obtain ⟨p, l, e, R, s, m, args, below, meth, c, D, A, ce, sl⟩ := K
  obtain ⟨hx, hb, hml, hown, hts, hK, hA, hSF, ⟨hR1, hR2, hR3, hR4⟩, hr, hlk⟩ := hC
  exact fun H locs ls hl hP hD hS => va_ti hx hb (hSF.T hT) hS hin rfl hd (k H locs ls hl hP hD hS)
theorem j_tlen {K : Kx} {cc : ByteArray} {own : String} {g : Gm} {nL d : Nat} {ret : Option FieldType} {ws : St → va_W} {Q : State → Prop} {pc : Nat} {lv : List (Nat × Value)} {st : List Value} {σ : St} (hC : Ok K cc own g nL d ret) {t N : Nat} {ty : FieldType} {f : Nat → Value} (hT : va_T ty t N f (oldA (s0G g)) (s0G g) (s0G g).heap) (hd : decode cc pc = .ok (.arraylength, 1)) (k : J K ws nL Q (pc + 1) lv (.int (nI N) :: st) σ) : J K ws nL Q pc lv (.ref t :: st) σ := by
  obtain ⟨p, l, e, R, s, m, args, below, meth, c, D, A, ce, sl⟩ := K
  obtain ⟨hx, hb, hml, hown, hts, hK, hA, hSF, ⟨hR1, hR2, hR3, hR4⟩, hr, hlk⟩ := hC
  exact fun H locs ls hl hP hD hS => va_tlen hx hb (hSF.T hT) hS rfl hd (k H locs ls hl hP hD hS)
theorem j_getO {K : Kx} {cc : ByteArray} {own : String} {g : Gm} {nL d : Nat} {ret : Option FieldType} {ws : St → va_W} {Q : State → Prop} {pc : Nat} {lv : List (Nat × Value)} {st : List Value} {σ : St} (hC : Ok K cc own g nL d ret) {n dd : String} {q ix : Nat} {v : Value} (hE : ∀ (A : Nat → Prop) (s : State), SF g A s → va_OF "java/lang/String" n dd v q A s s.heap) (w : Cond.fieldLink own ix "java/lang/String" n dd ∈ GW) (hd : decode cc pc = .ok (.getfield ix, 3)) (k : J K ws nL Q (pc + 3) lv (v :: st) σ) : J K ws nL Q pc lv (.ref q :: st) σ := by
  obtain ⟨p, l, e, R, s, m, args, below, meth, c, D, A, ce, sl⟩ := K
  obtain ⟨hx, hb, hml, hown, hts, hK, hA, hSF, ⟨hR1, hR2, hR3, hR4⟩, hr, hlk⟩ := hC
  exact fun H locs ls hl hP hD hS => vk_getf hx hb (hE A s hSF) hS hown (hts _ w) (fun _ h => h) hd (k H locs ls hl hP hD hS)
theorem j_ldcS {K : Kx} {cc : ByteArray} {own : String} {g : Gm} {nL d : Nat} {ret : Option FieldType} {ws : St → va_W} {Q : State → Prop} {pc : Nat} {lv : List (Nat × Value)} {st : List Value} {σ : St} (hC : Ok K cc own g nL d ret) {i : Nat} (hi : i < 12) (hd : decode cc pc = .ok (.ldc (strIx.getD i 0), 2)) (ho : strOwn.getD i "" = own) (k : J K ws nL Q (pc + 2) lv (.ref ((adS (s0G g)).1 i) :: st) σ) : J K ws nL Q pc lv st σ := by
  obtain ⟨p, l, e, R, s, m, args, below, meth, c, D, A, ce, sl⟩ := K
  obtain ⟨hx, hb, hml, hown, hts, hK, hA, hSF, ⟨hR1, hR2, hR3, hR4⟩, hr, hlk⟩ := hC
  exact fun H locs ls hl hP hD hS => va_ldcS hx hb (own := strOwn.getD i "") (by rw [ho]; exact hown) (hSF.strR hi) hd (k H locs ls hl hP hD hS)
theorem j_callT {K : Kx} {cc : ByteArray} {own : String} {g : Gm} {nL d : Nat} {ret : Option FieldType} {ws : St → va_W} {Q : State → Prop} {pc : Nat} {lv : List (Nat × Value)} {st : List Value} {σ : St} (hC : Ok K cc own g nL d ret) {y : MethodName} {c2 : ByteArray} {n2 d2 ix i : Nat} {ret2 : Option FieldType} {As : List Value} {r : Int32} {σ2 : St} {stk : List Value} (hi : i < 12) (hM : ∀ (l : Launch) (D : va_G), MI l y c2 n2 ret2 d2 D g ws (.ref ((adS (s0G g)).1 i) :: As) σ (r, σ2)) (hdd : d2 < d) (hn2 : n2 ≤ 70) (w1 : Cond.methodLink own ix y ∈ GW) (w2 : Cond.instanceMethod y ∈ GW) (w3 : Cond.selects "java/lang/String" y y ∈ GW) (w4 : Cond.initialized "java/lang/String" ∈ GW) (w5 : Cond.code y c2 n2 ret2 ∈ GW) (hyC : y.cls = "java/lang/String") (hy : y.cls ≠ "java/lang/invoke/MethodHandle" ∧ y.cls ≠ "java/lang/invoke/VarHandle" ∧ (parseMethodDescriptor y.desc).map (fun d => d.parameters.length) = some As.length) (hcat : (st.map fun v => v.category).sum ≤ 8) (hst : stk = As.reverse ++ .ref ((adS (s0G g)).1 i) :: st) (hd : decode cc pc = .ok (.invokevirtual ix, 3)) (k : J K ws nL Q (pc + 3) lv (.int r :: st) σ2) : J K ws nL Q pc lv stk σ := by
  obtain ⟨p, l, e, R, s, m, args, below, meth, c, D, A, ce, sl⟩ := K
  obtain ⟨hx, hb, hml, hown, hts, hK, hA, hSF, ⟨hR1, hR2, hR3, hR4⟩, hr, hlk⟩ := hC
  subst hst
  intro H locs ls hl hP hD hS
  have hF := freeW hD hS hA
  have hG : GoodIn GW (wsV own ix "java/lang/String" y (Cond.code y c2 n2 ret2 :: GW)) := by
    intro w hw
    rcases List.mem_append.mp hw with h | h
    · rcases List.mem_cons.mp h with rfl | h
      · exact goodG1 w1
      rcases List.mem_cons.mp h with rfl | h
      · exact goodG1 w2
      rcases List.mem_cons.mp h with rfl | h
      · exact goodG1 w3
      rcases List.mem_cons.mp h with rfl | h
      · exact goodG1 w4
      · cases h
    · rcases List.mem_cons.mp h with rfl | h
      · exact goodG1 w5
      · exact goodG1 h
  refine va_calli (va_runV (As := As) (rest := st) ⟨hx, hb, hml, hown, hts⟩ (hM l D H.size) (cwV As.length hts hG rfl rfl rfl ⟨hyC, hy⟩ ⟨Nat.le_trans hdd hR1, Nat.le_trans (show 8 + (n2 + 11) + 100 * d2 ≤ 100 * d by omega) hR2⟩) ⟨preW_blind, vk_recv hSF.str hi hS, fun U hU hW => ⟨rfl, by rw [hU], by rw [hU]; exact hP, va_K.moved hW.alike hK, hD.weaken (fun _ _ _ _ => trivial), hSF.next hA hS hF hU hW⟩⟩ rfl rfl hl.1 rfl (lv_room hcat) hd ⟨hR3, hR4⟩) hS (fun q _ h => hF q h) hF ?_
  · intro r9 u t H1 locs1 ht hvm hw hB hz1 hk1 hS1
    obtain ⟨rfl, rfl⟩ := Prod.mk.inj hw
    obtain ⟨hP1, hK1, hD1⟩ := hB
    exact k H1 locs1 ls hl (by rw [← ht]; exact hP1) (hD1.weaken (fun _ q _ h => hF q.1 h)) hS1
theorem mf_sta_LOWEST : Cond.fieldLink RX3 59 "SongHour$Rulebook" "LOWEST" "[I" ∈ GW := memT (i := 463) (by decide +kernel) rfl
theorem sta_LOWEST {K : Kx} {cc : ByteArray} {g : Gm} {nL d : Nat} {ret : Option FieldType} {ws : St → va_W} {Q : State → Prop} {pc : Nat} {lv : List (Nat × Value)} {st : List Value} {σ : St} (hC : Ok K cc RX3 g nL d ret) {q : Fin 4} {i : Nat} {x : Int32} {ρ : Type} {o : ρ} {f : Int32 → Option ρ} (hd : decode cc pc = .ok (.getstatic 59, 3)) (hd1 : decode cc (pc + 3) = .ok (.iload_n q, 1)) (hi : (q : Nat) = i) (k0 : Nat) (hk : lv[k0]? = some (i, .int x)) (hd2 : decode cc (pc + 3 + 1) = .ok (.iaload, 1)) (h : stb tb_LOWEST 5 x f = some o) (k : ∀ v, f v = some o → J K ws nL Q (pc + 3 + 1 + 1) lv (.int v :: st) σ) : J K ws nL Q pc lv st σ := by
  obtain ⟨t, hZ, hT⟩ := tab_LOWEST hC.base
  obtain ⟨hin, h⟩ := stb_some h
  refine j_gets hC hZ mf_sta_LOWEST hd ?_
  refine j_iload_n hC hd1 hi k0 hk ?_
  exact j_ti hC hT hin hd2 (k _ h)
theorem mf_sta_HIGHEST : Cond.fieldLink RX3 62 "SongHour$Rulebook" "HIGHEST" "[I" ∈ GW := memT (i := 465) (by decide +kernel) rfl
theorem sta_HIGHEST {K : Kx} {cc : ByteArray} {g : Gm} {nL d : Nat} {ret : Option FieldType} {ws : St → va_W} {Q : State → Prop} {pc : Nat} {lv : List (Nat × Value)} {st : List Value} {σ : St} (hC : Ok K cc RX3 g nL d ret) {q : Fin 4} {i : Nat} {x : Int32} {ρ : Type} {o : ρ} {f : Int32 → Option ρ} (hd : decode cc pc = .ok (.getstatic 62, 3)) (hd1 : decode cc (pc + 3) = .ok (.iload_n q, 1)) (hi : (q : Nat) = i) (k0 : Nat) (hk : lv[k0]? = some (i, .int x)) (hd2 : decode cc (pc + 3 + 1) = .ok (.iaload, 1)) (h : stb tb_HIGHEST 5 x f = some o) (k : ∀ v, f v = some o → J K ws nL Q (pc + 3 + 1 + 1) lv (.int v :: st) σ) : J K ws nL Q pc lv st σ := by
  obtain ⟨t, hZ, hT⟩ := tab_HIGHEST hC.base
  obtain ⟨hin, h⟩ := stb_some h
  refine j_gets hC hZ mf_sta_HIGHEST hd ?_
  refine j_iload_n hC hd1 hi k0 hk ?_
  exact j_ti hC hT hin hd2 (k _ h)
theorem mcd_J0_coder_7d493 : Cond.code yJ0_coder_7d493 cJ0_coder_7d493 1 (some .byte) ∈ GW := memT (i := 414) (by decide +kernel) rfl
theorem mi_J0_coder_7d493 : Cond.instanceMethod yJ0_coder_7d493 ∈ GW := memT (i := 412) (by decide +kernel) rfl
theorem ms_J0_coder_7d493 : Cond.selects "java/lang/String" yJ0_coder_7d493 yJ0_coder_7d493 ∈ GW := memT (i := 413) (by decide +kernel) rfl
theorem mds_J0_coder_7d493 : yJ0_coder_7d493.cls ≠ "java/lang/invoke/MethodHandle" ∧ yJ0_coder_7d493.cls ≠ "java/lang/invoke/VarHandle" ∧ (parseMethodDescriptor yJ0_coder_7d493.desc).map (fun d => d.parameters.length) = some 0 := by decide +kernel
theorem mcd_J0_length_8abf5 : Cond.code yJ0_length_8abf5 cJ0_length_8abf5 1 (some .int) ∈ GW := memT (i := 410) (by decide +kernel) rfl
theorem mi_J0_length_8abf5 : Cond.instanceMethod yJ0_length_8abf5 ∈ GW := memT (i := 408) (by decide +kernel) rfl
theorem ms_J0_length_8abf5 : Cond.selects "java/lang/String" yJ0_length_8abf5 yJ0_length_8abf5 ∈ GW := memT (i := 409) (by decide +kernel) rfl
theorem mds_J0_length_8abf5 : yJ0_length_8abf5.cls ≠ "java/lang/invoke/MethodHandle" ∧ yJ0_length_8abf5.cls ≠ "java/lang/invoke/VarHandle" ∧ (parseMethodDescriptor yJ0_length_8abf5.desc).map (fun d => d.parameters.length) = some 0 := by decide +kernel
theorem mcd_J0_isLatin1_aae02 : Cond.code yJ0_isLatin1_aae02 cJ0_isLatin1_aae02 1 (some .boolean) ∈ GW := memT (i := 424) (by decide +kernel) rfl
theorem mi_J0_isLatin1_aae02 : Cond.instanceMethod yJ0_isLatin1_aae02 ∈ GW := memT (i := 422) (by decide +kernel) rfl
theorem ms_J0_isLatin1_aae02 : Cond.selects "java/lang/String" yJ0_isLatin1_aae02 yJ0_isLatin1_aae02 ∈ GW := memT (i := 423) (by decide +kernel) rfl
theorem mds_J0_isLatin1_aae02 : yJ0_isLatin1_aae02.cls ≠ "java/lang/invoke/MethodHandle" ∧ yJ0_isLatin1_aae02.cls ≠ "java/lang/invoke/VarHandle" ∧ (parseMethodDescriptor yJ0_isLatin1_aae02.desc).map (fun d => d.parameters.length) = some 0 := by decide +kernel
theorem mcd_J0_charAt_5068e : Cond.code yJ0_charAt_5068e cJ0_charAt_5068e 2 (some .char) ∈ GW := memT (i := 420) (by decide +kernel) rfl
theorem mi_J0_charAt_5068e : Cond.instanceMethod yJ0_charAt_5068e ∈ GW := memT (i := 418) (by decide +kernel) rfl
theorem ms_J0_charAt_5068e : Cond.selects "java/lang/String" yJ0_charAt_5068e yJ0_charAt_5068e ∈ GW := memT (i := 419) (by decide +kernel) rfl
theorem mds_J0_charAt_5068e : yJ0_charAt_5068e.cls ≠ "java/lang/invoke/MethodHandle" ∧ yJ0_charAt_5068e.cls ≠ "java/lang/invoke/VarHandle" ∧ (parseMethodDescriptor yJ0_charAt_5068e.desc).map (fun d => d.parameters.length) = some 1 := by decide +kernel
theorem mcd_J1_charAt_3b067 : Cond.code yJ1_charAt_3b067 cJ1_charAt_3b067 2 (some .char) ∈ GW := memT (i := 427) (by decide +kernel) rfl
theorem mst_J1_charAt_3b067 : Cond.static yJ1_charAt_3b067 ∈ GW := memT (i := 426) (by decide +kernel) rfl
theorem mds_J1_charAt_3b067 : yJ1_charAt_3b067.cls ≠ "java/lang/invoke/MethodHandle" ∧ yJ1_charAt_3b067.cls ≠ "java/lang/invoke/VarHandle" ∧ (parseMethodDescriptor yJ1_charAt_3b067.desc).map (fun d => d.parameters.length) = some 2 := by decide +kernel
theorem mcd_J0_checkIndex_df160 : Cond.code yJ0_checkIndex_df160 cJ0_checkIndex_df160 2 none ∈ GW := memT (i := 430) (by decide +kernel) rfl
theorem mst_J0_checkIndex_df160 : Cond.static yJ0_checkIndex_df160 ∈ GW := memT (i := 429) (by decide +kernel) rfl
theorem mds_J0_checkIndex_df160 : yJ0_checkIndex_df160.cls ≠ "java/lang/invoke/MethodHandle" ∧ yJ0_checkIndex_df160.cls ≠ "java/lang/invoke/VarHandle" ∧ (parseMethodDescriptor yJ0_checkIndex_df160.desc).map (fun d => d.parameters.length) = some 2 := by decide +kernel
theorem mcd_J3_checkIndex_8e157 : Cond.code yJ3_checkIndex_8e157 cJ3_checkIndex_8e157 3 (some .int) ∈ GW := memT (i := 435) (by decide +kernel) rfl
theorem mst_J3_checkIndex_8e157 : Cond.static yJ3_checkIndex_8e157 ∈ GW := memT (i := 434) (by decide +kernel) rfl
theorem mds_J3_checkIndex_8e157 : yJ3_checkIndex_8e157.cls ≠ "java/lang/invoke/MethodHandle" ∧ yJ3_checkIndex_8e157.cls ≠ "java/lang/invoke/VarHandle" ∧ (parseMethodDescriptor yJ3_checkIndex_8e157.desc).map (fun d => d.parameters.length) = some 3 := by decide +kernel
theorem min_J0 : Cond.initialized RJ0 ∈ GW := memT (i := 12) (by decide +kernel) rfl
theorem min_J1 : Cond.initialized RJ1 ∈ GW := memT (i := 13) (by decide +kernel) rfl
theorem min_J3 : Cond.initialized RJ3 ∈ GW := memT (i := 14) (by decide +kernel) rfl
theorem ml_J0_335 : Cond.methodLink RJ0 335 yJ0_coder_7d493 ∈ GW := memT (i := 411) (by decide +kernel) rfl
theorem ml_J0_492 : Cond.methodLink RJ0 492 yJ0_isLatin1_aae02 ∈ GW := memT (i := 421) (by decide +kernel) rfl
theorem ml_J0_495 : Cond.methodLink RJ0 495 yJ1_charAt_3b067 ∈ GW := memT (i := 425) (by decide +kernel) rfl
theorem ml_J1_9 : Cond.methodLink RJ1 9 yJ0_checkIndex_df160 ∈ GW := memT (i := 428) (by decide +kernel) rfl
theorem ml_J0_1059 : Cond.methodLink RJ0 1059 yJ3_checkIndex_8e157 ∈ GW := memT (i := 433) (by decide +kernel) rfl
theorem ml_X5_64 : Cond.methodLink RX5 64 yJ0_length_8abf5 ∈ GW := memT (i := 407) (by decide +kernel) rfl
theorem ml_X5_70 : Cond.methodLink RX5 70 yJ0_charAt_5068e ∈ GW := memT (i := 417) (by decide +kernel) rfl
theorem mf_J0_9 : Cond.fieldLink RJ0 9 "java/lang/String" "value" "[B" ∈ GW := memT (i := 1161) (by decide +kernel) rfl
theorem mf_J0_15 : Cond.fieldLink RJ0 15 "java/lang/String" "coder" "B" ∈ GW := memT (i := 1162) (by decide +kernel) rfl
theorem mf_J0_38 : Cond.fieldLink RJ0 38 "java/lang/String" "COMPACT_STRINGS" "Z" ∈ GW := memT (i := 415) (by decide +kernel) rfl
theorem mf_J0_1053 : Cond.fieldLink RJ0 1053 "jdk/internal/util/Preconditions" "SIOOBE_FORMATTER" "Ljava/util/function/BiFunction;" ∈ GW := memT (i := 431) (by decide +kernel) rfl
theorem strC {g : Gm} {i : Nat} (hi : i < 12) : ∀ (A : Nat → Prop) (s : State), SF g A s → va_OF "java/lang/String" "coder" "B" (.int 0) ((adS (s0G g)).1 i) A s s.heap := fun A s h => (h.str.1 i hi).2.1
theorem strV {g : Gm} {i : Nat} (hi : i < 12) : ∀ (A : Nat → Prop) (s : State), SF g A s → va_OF "java/lang/String" "value" "[B" (.ref ((adS (s0G g)).2 i)) ((adS (s0G g)).1 i) A s s.heap := fun A s h => (h.str.1 i hi).2.2.1
theorem strT {s0 : State} (hB : BaseS s0) {i : Nat} (hi : i < 12) : va_T .byte ((adS s0).2 i) (lenS.getD i 0) (fun j => .int ((bytS.getD i []).getD j 0)) (oldA s0) s0 s0.heap := ((adS_ok hB).1.1 i hi).2.2.2
theorem J0_coder_ok (l : Launch) (D : va_G) (g : Gm) {ws : St → va_W} {i : Nat} (hi : i < 12) (s0 : St) : MI l yJ0_coder_7d493 cJ0_coder_7d493 1 (some .byte) 0 D g ws [.ref ((adS (s0G g)).1 i)] s0 (0, s0) := by
  refine met_I (own := RJ0) (by decide) rfl (Nat.le_of_ble_eq_true rfl) (fun K hC => ?_)
  show J K ws 1 (QI K g ws (0, s0)) 0 [(0, .ref ((adS (s0G g)).1 i))] [] s0
  refine j_gets hC (compact hC.base) mf_J0_38 dJ0_coder_7d493_0 ?_
  refine j_if_eq (o := ()) (T := none) (F := some ()) (tgt := 13) hC dJ0_coder_7d493_3 (by decide) rfl (fun h => by cases h) (fun _ => ?_)
  refine j_aload_n hC dJ0_coder_7d493_6 rfl 0 rfl ?_
  refine j_getO hC (strC hi) mf_J0_15 dJ0_coder_7d493_7 ?_
  refine j_goto (tgt := 14) hC dJ0_coder_7d493_10 (by decide) ?_
  exact j_iret hC dJ0_coder_7d493_14 rfl rfl
theorem J0_isLatin1_ok (l : Launch) (D : va_G) (g : Gm) {ws : St → va_W} {i : Nat} (hi : i < 12) (s0 : St) : MI l yJ0_isLatin1_aae02 cJ0_isLatin1_aae02 1 (some .boolean) 0 D g ws [.ref ((adS (s0G g)).1 i)] s0 (1, s0) := by
  refine met_I (own := RJ0) (by decide) rfl (Nat.le_of_ble_eq_true rfl) (fun K hC => ?_)
  show J K ws 1 (QI K g ws (1, s0)) 0 [(0, .ref ((adS (s0G g)).1 i))] [] s0
  refine j_gets hC (compact hC.base) mf_J0_38 dJ0_isLatin1_aae02_0 ?_
  refine j_if_eq (o := ()) (T := none) (F := some ()) (tgt := 17) hC dJ0_isLatin1_aae02_3 (by decide) rfl (fun h => by cases h) (fun _ => ?_)
  refine j_aload_n hC dJ0_isLatin1_aae02_6 rfl 0 rfl ?_
  refine j_getO hC (strC hi) mf_J0_15 dJ0_isLatin1_aae02_7 ?_
  refine j_if_ne (o := ()) (T := none) (F := some ()) (tgt := 17) hC dJ0_isLatin1_aae02_10 (by decide) rfl (fun h => by cases h) (fun _ => ?_)
  refine j_iconst (v := 1) hC dJ0_isLatin1_aae02_13 (by decide) ?_
  refine j_goto (tgt := 18) hC dJ0_isLatin1_aae02_14 (by decide) ?_
  exact j_iret hC dJ0_isLatin1_aae02_18 rfl rfl
theorem J0_length_ok (l : Launch) (D : va_G) (g : Gm) {ws : St → va_W} {i : Nat} (hi : i < 12) (s0 : St) : MI l yJ0_length_8abf5 cJ0_length_8abf5 1 (some .int) 1 D g ws [.ref ((adS (s0G g)).1 i)] s0 (nI (lenS.getD i 0), s0) := by
  refine met_I (own := RJ0) (by decide) rfl (Nat.le_of_ble_eq_true rfl) (fun K hC => ?_)
  show J K ws 1 (QI K g ws (nI (lenS.getD i 0), s0)) 0 [(0, .ref ((adS (s0G g)).1 i))] [] s0
  refine j_aload_n hC dJ0_length_8abf5_0 rfl 0 rfl ?_
  refine j_getO hC (strV hi) mf_J0_9 dJ0_length_8abf5_1 ?_
  refine j_tlen hC (strT hC.base hi) dJ0_length_8abf5_4 ?_
  refine j_aload_n hC dJ0_length_8abf5_5 rfl 0 rfl ?_
  refine j_callT (As := []) hC hi (fun l D => J0_coder_ok l D g hi s0) (by decide) (by decide) ml_J0_335 mi_J0_coder_7d493 ms_J0_coder_7d493 min_J0 mcd_J0_coder_7d493 rfl mds_J0_coder_7d493 (Nat.le_of_ble_eq_true rfl) rfl dJ0_length_8abf5_6 ?_
  refine j_ishr hC dJ0_length_8abf5_9 ?_
  rw [sb_shr0]
  exact j_iret hC dJ0_length_8abf5_10 rfl rfl
theorem J3_check_ok (l : Launch) (D : va_G) (g : Gm) {ws : St → va_W} {x n : Int32} {v : Value} (hv : v.category = 1) (h0 : ¬ x < 0) (h1 : x < n) (s0 : St) : MI l yJ3_checkIndex_8e157 cJ3_checkIndex_8e157 3 (some .int) 0 D g ws [.int x, .int n, v] s0 (x, s0) := by
  have hsl : lg_sl [.int x, .int n, v] = [.val (.int x), .val (.int n), .val v] := by
    show [Slot.val (.int x)] ++ ([Slot.val (.int n)] ++ ((if v.category = 2 then [Slot.val v, Slot.second] else [Slot.val v]) ++ [])) = _
    rw [if_neg (by rw [hv]; decide)]
    rfl
  refine met_I (own := RJ3) (by decide) rfl (by rw [hsl]; exact Nat.le_of_ble_eq_true rfl) (fun K hC => ?_)
  refine j_sub (lv2 := [(0, .int x), (1, .int n)]) [0, 1] rfl ?_
  refine j_iload_n hC dJ3_checkIndex_8e157_0 rfl 0 rfl ?_
  refine j_if_lt (o := ()) (T := none) (F := some ()) (tgt := 9) hC dJ3_checkIndex_8e157_1 (by decide) (if_neg h0) (fun h => by cases h) (fun _ => ?_)
  refine j_iload_n hC dJ3_checkIndex_8e157_4 rfl 0 rfl ?_
  refine j_iload_n hC dJ3_checkIndex_8e157_5 rfl 1 rfl ?_
  refine j_icmp_lt (o := ()) (T := some ()) (F := none) (tgt := 16) hC dJ3_checkIndex_8e157_6 (by decide) (if_pos h1) (fun _ => ?_) (fun h => by cases h)
  refine j_iload_n hC dJ3_checkIndex_8e157_16 rfl 0 rfl ?_
  exact j_iret hC dJ3_checkIndex_8e157_17 rfl rfl
theorem J0_check_ok (l : Launch) (D : va_G) (g : Gm) {ws : St → va_W} {x n : Int32} (h0 : ¬ x < 0) (h1 : x < n) (s0 : St) : MV l yJ0_checkIndex_df160 cJ0_checkIndex_df160 2 none 1 D g ws [.int x, .int n] s0 (0, s0) := by
  refine met_V (own := RJ0) (by decide) rfl (Nat.le_of_ble_eq_true rfl) (fun K hC => ?_)
  show J K ws 2 (QV K g ws (0, s0)) 0 [(0, .int x), (1, .int n)] [] s0
  refine j_iload_n hC dJ0_checkIndex_df160_0 rfl 0 rfl ?_
  refine j_iload_n hC dJ0_checkIndex_df160_1 rfl 1 rfl ?_
  rcases formatter hC.base with hZ | ⟨t, hZ⟩
  · refine j_gets hC hZ mf_J0_1053 dJ0_checkIndex_df160_2 ?_
    refine j_callSi (As := [.int x, .int n, .null]) hC (fun l D => J3_check_ok l D g rfl h0 h1 s0) (by decide) (by decide) ml_J0_1059 mst_J3_checkIndex_8e157 min_J3 mcd_J3_checkIndex_8e157 mds_J3_checkIndex_8e157 (Nat.le_of_ble_eq_true rfl) rfl dJ0_checkIndex_df160_5 ?_
    refine j_pop hC rfl dJ0_checkIndex_df160_8 ?_
    exact j_vret (v := 0) hC dJ0_checkIndex_df160_9 rfl
  · refine j_gets hC hZ mf_J0_1053 dJ0_checkIndex_df160_2 ?_
    refine j_callSi (As := [.int x, .int n, .ref t]) hC (fun l D => J3_check_ok l D g rfl h0 h1 s0) (by decide) (by decide) ml_J0_1059 mst_J3_checkIndex_8e157 min_J3 mcd_J3_checkIndex_8e157 mds_J3_checkIndex_8e157 (Nat.le_of_ble_eq_true rfl) rfl dJ0_checkIndex_df160_5 ?_
    refine j_pop hC rfl dJ0_checkIndex_df160_8 ?_
    exact j_vret (v := 0) hC dJ0_checkIndex_df160_9 rfl
theorem lenS_lt : ∀ i, i < 12 → lenS.getD i 0 < 100 := by decide
theorem vp_in_lt {x : Int32} {n : Nat} (hn : n < 2 ^ 31) (h : vp_in x n) : ¬ x < 0 ∧ x < nI n := by
  obtain ⟨j, hj, rfl⟩ := vp_in_of h hn
  exact ⟨nI_pos (by omega), nI_lt hj hn⟩
def chS (i : Nat) (k : Nat) : Int32 := (bytS.getD i []).getD k 0 &&& 255
theorem J1_charAt_ok (l : Launch) (D : va_G) (g : Gm) {ws : St → va_W} {i : Nat} (hi : i < 12) {x : Int32} (hin : vp_in x (lenS.getD i 0)) (hB : BaseS (s0G g)) (s0 : St) : MI l yJ1_charAt_3b067 cJ1_charAt_3b067 2 (some .char) 2 D g ws [.ref ((adS (s0G g)).2 i), .int x] s0 (chS i x.toNatClampNeg, s0) := by
  refine met_I (own := RJ1) (by decide) rfl (Nat.le_of_ble_eq_true rfl) (fun K hC => ?_)
  show J K ws 2 (QI K g ws (chS i x.toNatClampNeg, s0)) 0 [(0, .ref ((adS (s0G g)).2 i)), (1, .int x)] [] s0
  have hlt := vp_in_lt (Nat.lt_trans (lenS_lt i hi) (by decide)) hin
  refine j_iload_n hC dJ1_charAt_3b067_0 rfl 1 rfl ?_
  refine j_aload_n hC dJ1_charAt_3b067_1 rfl 0 rfl ?_
  refine j_tlen hC (strT hB hi) dJ1_charAt_3b067_2 ?_
  refine j_callSv (As := [.int x, .int (nI (lenS.getD i 0))]) hC (fun l D => J0_check_ok l D g hlt.1 hlt.2 s0) (by decide) (by decide) ml_J1_9 mst_J0_checkIndex_df160 min_J0 mcd_J0_checkIndex_df160 mds_J0_checkIndex_df160 (Nat.le_of_ble_eq_true rfl) rfl dJ1_charAt_3b067_3 ?_
  refine j_aload_n hC dJ1_charAt_3b067_6 rfl 0 rfl ?_
  refine j_iload_n hC dJ1_charAt_3b067_7 rfl 1 rfl ?_
  refine j_tb hC (strT hB hi) hin dJ1_charAt_3b067_8 ?_
  refine j_sipush (v := 255) hC dJ1_charAt_3b067_9 (by decide) ?_
  refine j_iand hC dJ1_charAt_3b067_12 ?_
  refine j_i2c hC dJ1_charAt_3b067_13 ?_
  rw [sc_c2]
  exact j_iret hC dJ1_charAt_3b067_14 (sc_nar _) rfl
theorem J0_charAt_ok (l : Launch) (D : va_G) (g : Gm) {ws : St → va_W} {i : Nat} (hi : i < 12) {x : Int32} (hin : vp_in x (lenS.getD i 0)) (s0 : St) : MI l yJ0_charAt_5068e cJ0_charAt_5068e 2 (some .char) 3 D g ws [.ref ((adS (s0G g)).1 i), .int x] s0 (chS i x.toNatClampNeg, s0) := by
  refine met_I (own := RJ0) (by decide) rfl (Nat.le_of_ble_eq_true rfl) (fun K hC => ?_)
  show J K ws 2 (QI K g ws (chS i x.toNatClampNeg, s0)) 0 [(0, .ref ((adS (s0G g)).1 i)), (1, .int x)] [] s0
  refine j_aload_n hC dJ0_charAt_5068e_0 rfl 0 rfl ?_
  refine j_callT (As := []) hC hi (fun l D => J0_isLatin1_ok l D g hi s0) (by decide) (by decide) ml_J0_492 mi_J0_isLatin1_aae02 ms_J0_isLatin1_aae02 min_J0 mcd_J0_isLatin1_aae02 rfl mds_J0_isLatin1_aae02 (Nat.le_of_ble_eq_true rfl) rfl dJ0_charAt_5068e_1 ?_
  refine j_if_eq (o := ()) (T := none) (F := some ()) (tgt := 16) hC dJ0_charAt_5068e_4 (by decide) rfl (fun h => by cases h) (fun _ => ?_)
  refine j_aload_n hC dJ0_charAt_5068e_7 rfl 0 rfl ?_
  refine j_getO hC (strV hi) mf_J0_9 dJ0_charAt_5068e_8 ?_
  refine j_iload_n hC dJ0_charAt_5068e_11 rfl 1 rfl ?_
  refine j_callSi (As := [.ref ((adS (s0G g)).2 i), .int x]) hC (fun l D => J1_charAt_ok l D g hi hin hC.base s0) (by decide) (by decide) ml_J0_495 mst_J1_charAt_3b067 min_J1 mcd_J1_charAt_3b067 mds_J1_charAt_3b067 (Nat.le_of_ble_eq_true rfl) rfl dJ0_charAt_5068e_12 ?_
  exact j_iret hC dJ0_charAt_5068e_15 (sc_nar _) rfl
theorem str_len {K : Kx} {cc : ByteArray} {g : Gm} {nL d : Nat} {ret : Option FieldType} {ws : St → va_W} {Q : State → Prop} {pc : Nat} {lv : List (Nat × Value)} {st : List Value} {σ : St} (hC : Ok K cc RX5 g nL d ret) {i : Nat} (hi : i < 12) (hdd : 1 < d) (hcat : (st.map fun v => v.category).sum ≤ 8) (hd : decode cc pc = .ok (.invokevirtual 64, 3)) (k : J K ws nL Q (pc + 3) lv (.int (nI (lenS.getD i 0)) :: st) σ) : J K ws nL Q pc lv (.ref ((adS (s0G g)).1 i) :: st) σ :=
  j_callT (As := []) hC hi (fun l D => J0_length_ok l D g hi σ) hdd (by decide) ml_X5_64 mi_J0_length_8abf5 ms_J0_length_8abf5 min_J0 mcd_J0_length_8abf5 rfl mds_J0_length_8abf5 hcat rfl hd k
theorem str_chr {K : Kx} {cc : ByteArray} {g : Gm} {nL d : Nat} {ret : Option FieldType} {ws : St → va_W} {Q : State → Prop} {pc : Nat} {lv : List (Nat × Value)} {st : List Value} {σ : St} (hC : Ok K cc RX5 g nL d ret) {i : Nat} (hi : i < 12) {x : Int32} {ρ : Type} {o : ρ} {f : Int32 → Option ρ} (hdd : 3 < d) (hcat : (st.map fun v => v.category).sum ≤ 8) (hd : decode cc pc = .ok (.invokevirtual 70, 3)) (h : stb (chS i) (lenS.getD i 0) x f = some o) (k : ∀ v, f v = some o → J K ws nL Q (pc + 3) lv (.int v :: st) σ) : J K ws nL Q pc lv (.int x :: .ref ((adS (s0G g)).1 i) :: st) σ := by
  obtain ⟨hin, h⟩ := stb_some h
  exact j_callT (As := [.int x]) hC hi (fun l D => J0_charAt_ok l D g hi hin σ) hdd (by decide) ml_X5_70 mi_J0_charAt_5068e ms_J0_charAt_5068e min_J0 mcd_J0_charAt_5068e rfl mds_J0_charAt_5068e hcat rfl hd (k _ h)
