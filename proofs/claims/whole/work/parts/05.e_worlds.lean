/-- the cells of the class -/
def wX (g : Gm) (σ : St) : va_W := [
  (g.1 0, .inr (6, [.ref (g.1 2), .ref (g.1 4), .ref (g.1 1), .ref (g.1 67), .ref (g.1 8), .ref (g.1 22), .ref (g.1 29)])),
  (g.1 1, .inl (g.2.2.2.2.1, 6, .inr (.inr (.inr (.inr (fun i => some (g.1 (37 + 5 * i)))))))),
  (g.1 2, .inr (5, [.ref (g.1 3), .int (gi σ 0), .int (gi σ 1), .int (gi σ 2), .int (gi σ 3), .int (gi σ 4), .int (gi σ 5), .int (gi σ 6), .int (gi σ 7)])),
  (g.1 3, .inl (g.2.2.1, 260, .inl (ga σ 0))),
  (g.1 4, .inr (3, [.ref (g.1 5), .ref (g.1 6), .ref (g.1 7), .int (gi σ 8)])),
  (g.1 5, .inl (g.2.1, 5, .inl (ga σ 1))),
  (g.1 6, .inl (g.2.1, 5, .inl (ga σ 2))),
  (g.1 7, .inl (g.2.2.2.1, 5, .inl (ga σ 3))),
  (g.1 8, .inr (4, [.int (gi σ 9), .ref (g.1 9), .ref (g.1 10), .ref (g.1 11), .ref (g.1 12), .ref (g.1 13), .ref (g.1 14), .ref (g.1 15), .ref (g.1 16), .ref (g.1 17), .ref (g.1 18), .ref (g.1 19), .ref (g.1 20), .ref (g.1 21)])),
  (g.1 9, .inl (g.2.1, 24, .inl (ga σ 4))),
  (g.1 10, .inl (g.2.1, 24, .inl (ga σ 5))),
  (g.1 11, .inl (g.2.1, 24, .inl (ga σ 6))),
  (g.1 12, .inl (g.2.1, 24, .inl (ga σ 7))),
  (g.1 13, .inl (g.2.1, 24, .inl (ga σ 8))),
  (g.1 14, .inl (g.2.1, 24, .inl (ga σ 9))),
  (g.1 15, .inl (g.2.1, 24, .inl (ga σ 10))),
  (g.1 16, .inl (g.2.1, 24, .inl (ga σ 11))),
  (g.1 17, .inl (g.2.1, 24, .inl (ga σ 12))),
  (g.1 18, .inl (g.2.1, 12, .inl (ga σ 13))),
  (g.1 19, .inl (g.2.1, 24, .inl (ga σ 14))),
  (g.1 20, .inl (g.2.1, 24, .inl (ga σ 15))),
  (g.1 21, .inl (g.2.2.1, 240, .inl (ga σ 16))),
  (g.1 22, .inr (1, [.int (gi σ 10), .int (gi σ 11), .int (gi σ 12), .int (gi σ 13), .ref (g.1 23), .ref (g.1 24), .ref (g.1 25), .ref (g.1 26), .ref (g.1 27), .ref (g.1 28)])),
  (g.1 23, .inl (g.2.1, 168, .inl (ga σ 17))),
  (g.1 24, .inl (g.2.1, 1344, .inl (ga σ 18))),
  (g.1 25, .inl (g.2.1, 300, .inl (ga σ 19))),
  (g.1 26, .inl (g.2.1, 300, .inl (ga σ 20))),
  (g.1 27, .inl (g.2.1, 300, .inl (ga σ 21))),
  (g.1 28, .inl (g.2.1, 300, .inl (ga σ 22))),
  (g.1 29, .inr (2, [.ref (g.1 30), .int (gi σ 14), .int (gi σ 15), .int (gi σ 16), .ref (g.1 31), .ref (g.1 32), .ref (g.1 33), .ref (g.1 34), .ref (g.1 35), .ref (g.1 36), .int (gi σ 17), .int (gi σ 18), .int (gi σ 19), .int (gi σ 20), .int (gi σ 21), .int (gi σ 22), .int (gi σ 23), .int (gi σ 24), .int (gi σ 25), .int (gi σ 26)])),
  (g.1 30, .inl (g.2.1, 4, .inl (ga σ 23))),
  (g.1 31, .inl (g.2.1, 4, .inl (ga σ 24))),
  (g.1 32, .inl (g.2.1, 24, .inl (ga σ 25))),
  (g.1 33, .inl (g.2.1, 24, .inl (ga σ 26))),
  (g.1 34, .inl (g.2.1, 12, .inl (ga σ 27))),
  (g.1 35, .inl (g.2.1, 24, .inl (ga σ 28))),
  (g.1 36, .inl (g.2.1, 24, .inl (ga σ 29))),
  (g.1 37, .inr (0, [.int (gi σ 27), .int (gi σ 28), .ref (g.1 38), .ref (g.1 39), .ref (g.1 40), .ref (g.1 41), .int (gi σ 29)])),
  (g.1 38, .inl (g.2.1, 8, .inl (ga σ 30))),
  (g.1 39, .inl (g.2.1, 8, .inl (ga σ 31))),
  (g.1 40, .inl (g.2.1, 8, .inl (ga σ 32))),
  (g.1 41, .inl (g.2.2.2.1, 8, .inl (ga σ 33))),
  (g.1 42, .inr (0, [.int (gi σ 30), .int (gi σ 31), .ref (g.1 43), .ref (g.1 44), .ref (g.1 45), .ref (g.1 46), .int (gi σ 32)])),
  (g.1 43, .inl (g.2.1, 8, .inl (ga σ 34))),
  (g.1 44, .inl (g.2.1, 8, .inl (ga σ 35))),
  (g.1 45, .inl (g.2.1, 8, .inl (ga σ 36))),
  (g.1 46, .inl (g.2.2.2.1, 8, .inl (ga σ 37))),
  (g.1 47, .inr (0, [.int (gi σ 33), .int (gi σ 34), .ref (g.1 48), .ref (g.1 49), .ref (g.1 50), .ref (g.1 51), .int (gi σ 35)])),
  (g.1 48, .inl (g.2.1, 8, .inl (ga σ 38))),
  (g.1 49, .inl (g.2.1, 8, .inl (ga σ 39))),
  (g.1 50, .inl (g.2.1, 8, .inl (ga σ 40))),
  (g.1 51, .inl (g.2.2.2.1, 8, .inl (ga σ 41))),
  (g.1 52, .inr (0, [.int (gi σ 36), .int (gi σ 37), .ref (g.1 53), .ref (g.1 54), .ref (g.1 55), .ref (g.1 56), .int (gi σ 38)])),
  (g.1 53, .inl (g.2.1, 8, .inl (ga σ 42))),
  (g.1 54, .inl (g.2.1, 8, .inl (ga σ 43))),
  (g.1 55, .inl (g.2.1, 8, .inl (ga σ 44))),
  (g.1 56, .inl (g.2.2.2.1, 8, .inl (ga σ 45))),
  (g.1 57, .inr (0, [.int (gi σ 39), .int (gi σ 40), .ref (g.1 58), .ref (g.1 59), .ref (g.1 60), .ref (g.1 61), .int (gi σ 41)])),
  (g.1 58, .inl (g.2.1, 8, .inl (ga σ 46))),
  (g.1 59, .inl (g.2.1, 8, .inl (ga σ 47))),
  (g.1 60, .inl (g.2.1, 8, .inl (ga σ 48))),
  (g.1 61, .inl (g.2.2.2.1, 8, .inl (ga σ 49))),
  (g.1 62, .inr (0, [.int (gi σ 42), .int (gi σ 43), .ref (g.1 63), .ref (g.1 64), .ref (g.1 65), .ref (g.1 66), .int (gi σ 44)])),
  (g.1 63, .inl (g.2.1, 8, .inl (ga σ 50))),
  (g.1 64, .inl (g.2.1, 8, .inl (ga σ 51))),
  (g.1 65, .inl (g.2.1, 8, .inl (ga σ 52))),
  (g.1 66, .inl (g.2.2.2.1, 8, .inl (ga σ 53))),
  (g.1 67, .inr (0, [.int (gi σ 45), .int (gi σ 46), .ref (g.1 68), .ref (g.1 69), .ref (g.1 70), .ref (g.1 71), .int (gi σ 47)])),
  (g.1 68, .inl (g.2.1, 8, .inl (ga σ 54))),
  (g.1 69, .inl (g.2.1, 8, .inl (ga σ 55))),
  (g.1 70, .inl (g.2.1, 8, .inl (ga σ 56))),
  (g.1 71, .inl (g.2.2.2.1, 8, .inl (ga σ 57)))]
/-- the cells of the reference -/
def wM (g : Gm) (σ : St) : va_W := [
  (g.1 0, .inr (7, [.int (gi σ 0), .ref (g.1 1), .int (gi σ 1), .int (gi σ 2), .int (gi σ 3), .int (gi σ 4), .int (gi σ 5), .int (gi σ 6), .int (gi σ 7), .int (gi σ 8), .int (gi σ 9), .int (gi σ 10), .long (gl σ), .ref (g.1 2), .ref (g.1 3), .ref (g.1 4), .ref (g.1 5), .ref (g.1 6), .ref (g.1 7), .ref (g.1 8), .ref (g.1 9), .ref (g.1 10), .int (gi σ 11), .ref (g.1 11), .ref (g.1 12), .ref (g.1 13), .ref (g.1 14), .ref (g.1 15), .ref (g.1 16), .ref (g.1 17), .ref (g.1 18), .ref (g.1 19), .ref (g.1 20), .int (gi σ 12), .ref (g.1 21), .ref (g.1 22), .ref (g.1 23), .ref (g.1 24), .int (gi σ 13), .int (gi σ 14), .int (gi σ 15), .int (gi σ 16), .ref (g.1 25), .ref (g.1 26), .ref (g.1 27), .ref (g.1 28), .ref (g.1 29), .ref (g.1 30), .int (gi σ 17), .int (gi σ 18), .int (gi σ 19), .int (gi σ 20), .int (gi σ 21), .ref (g.1 31)])),
  (g.1 1, .inl (g.2.1, 260, .inl (ga σ 0))),
  (g.1 2, .inl (g.2.1, 5, .inl (ga σ 1))),
  (g.1 3, .inl (g.2.1, 5, .inl (ga σ 2))),
  (g.1 4, .inl (g.2.1, 5, .inl (ga σ 3))),
  (g.1 5, .inl (g.2.1, 5, .inl (ga σ 4))),
  (g.1 6, .inl (g.2.1, 5, .inl (ga σ 5))),
  (g.1 7, .inl (g.2.1, 7, .inl (ga σ 6))),
  (g.1 8, .inl (g.2.1, 56, .inl (ga σ 7))),
  (g.1 9, .inl (g.2.1, 56, .inl (ga σ 8))),
  (g.1 10, .inl (g.2.1, 56, .inl (ga σ 9))),
  (g.1 11, .inl (g.2.1, 24, .inl (ga σ 10))),
  (g.1 12, .inl (g.2.1, 24, .inl (ga σ 11))),
  (g.1 13, .inl (g.2.1, 24, .inl (ga σ 12))),
  (g.1 14, .inl (g.2.1, 24, .inl (ga σ 13))),
  (g.1 15, .inl (g.2.1, 24, .inl (ga σ 14))),
  (g.1 16, .inl (g.2.1, 24, .inl (ga σ 15))),
  (g.1 17, .inl (g.2.1, 24, .inl (ga σ 16))),
  (g.1 18, .inl (g.2.1, 240, .inl (ga σ 17))),
  (g.1 19, .inl (g.2.1, 24, .inl (ga σ 18))),
  (g.1 20, .inl (g.2.2.2.1, 24, .inl (ga σ 19))),
  (g.1 21, .inl (g.2.1, 300, .inl (ga σ 20))),
  (g.1 22, .inl (g.2.1, 300, .inl (ga σ 21))),
  (g.1 23, .inl (g.2.1, 300, .inl (ga σ 22))),
  (g.1 24, .inl (g.2.1, 1344, .inl (ga σ 23))),
  (g.1 25, .inl (g.2.1, 24, .inl (ga σ 24))),
  (g.1 26, .inl (g.2.1, 55296, .inl (ga σ 25))),
  (g.1 27, .inl (g.2.1, 55296, .inl (ga σ 26))),
  (g.1 28, .inl (g.2.1, 13824, .inl (ga σ 27))),
  (g.1 29, .inl (g.2.1, 13824, .inl (ga σ 28))),
  (g.1 30, .inl (g.2.1, 4, .inl (ga σ 29))),
  (g.1 31, .inl (g.2.1, 168, .inl (ga σ 30)))]
theorem uwX0 : ∀ w ∈ u_ws RX0 TX0 7, w ∈ GW := by decide +kernel
theorem uwX1 : ∀ w ∈ u_ws RX1 TX1 10, w ∈ GW := by decide +kernel
theorem uwX2 : ∀ w ∈ u_ws RX2 TX2 20, w ∈ GW := by decide +kernel
theorem uwX3 : ∀ w ∈ u_ws RX3 TX3 4, w ∈ GW := by decide +kernel
theorem uwX4 : ∀ w ∈ u_ws RX4 TX4 14, w ∈ GW := by decide +kernel
theorem uwX5 : ∀ w ∈ u_ws RX5 TX5 9, w ∈ GW := by decide +kernel
theorem uwX6 : ∀ w ∈ u_ws RX6 TX6 7, w ∈ GW := by decide +kernel
theorem uwX7 : ∀ w ∈ u_ws RX7 TX7 54, w ∈ GW := by decide +kernel
theorem mf_X6_10 : Cond.fieldLink RX6 10 "SongHour" "text" "LSongHour$Text;" ∈ GW := memT (i := 318) (by decide +kernel) rfl
theorem get_X6_10 {K : Kx} {cc : ByteArray} {g : Gm} {nL d : Nat} {ret : Option FieldType} {Q : State → Prop} {pc : Nat} {lv : List (Nat × Value)} {st : List Value} {σ : St} (hC : Ok K cc RX6 g nL d ret) (hd : decode cc pc = .ok (.getfield 10, 3)) (k : J K (wX g) nL Q (pc + 3) lv (.ref (g.1 2) :: st) σ) : J K (wX g) nL Q (pc) lv (.ref (g.1 0) :: st) σ := by
  obtain ⟨p, l, e, R, s, m, args, below, meth, c, D, A, ce, sl⟩ := K
  obtain ⟨hx, hb, hml, hown, hts, hK, hA, hSF, ⟨hR1, hR2, hR3, hR4⟩, hr, hlk⟩ := hC
  exact fun H locs ls hl hP hD hS => va_get (D := D) (ci := 6) (v := .ref (g.1 2)) (C := RX6) (T := TX6) (N := 7) hx hb hts uwX6 hown hK hP 0 rfl rfl 0 (by decide) (hts _ mf_X6_10) (fun _ h9 => h9) rfl hd (k H locs ls hl hP hD hS)
theorem mf_X6_19 : Cond.fieldLink RX6 19 "SongHour" "rulebook" "LSongHour$Rulebook;" ∈ GW := memT (i := 319) (by decide +kernel) rfl
theorem get_X6_19 {K : Kx} {cc : ByteArray} {g : Gm} {nL d : Nat} {ret : Option FieldType} {Q : State → Prop} {pc : Nat} {lv : List (Nat × Value)} {st : List Value} {σ : St} (hC : Ok K cc RX6 g nL d ret) (hd : decode cc pc = .ok (.getfield 19, 3)) (k : J K (wX g) nL Q (pc + 3) lv (.ref (g.1 4) :: st) σ) : J K (wX g) nL Q (pc) lv (.ref (g.1 0) :: st) σ := by
  obtain ⟨p, l, e, R, s, m, args, below, meth, c, D, A, ce, sl⟩ := K
  obtain ⟨hx, hb, hml, hown, hts, hK, hA, hSF, ⟨hR1, hR2, hR3, hR4⟩, hr, hlk⟩ := hC
  exact fun H locs ls hl hP hD hS => va_get (D := D) (ci := 6) (v := .ref (g.1 4)) (C := RX6) (T := TX6) (N := 7) hx hb hts uwX6 hown hK hP 0 rfl rfl 1 (by decide) (hts _ mf_X6_19) (fun _ h9 => h9) rfl hd (k H locs ls hl hP hD hS)
theorem mf_X6_25 : Cond.fieldLink RX6 25 "SongHour" "clocks" "[LSongHour$Clock;" ∈ GW := memT (i := 320) (by decide +kernel) rfl
theorem get_X6_25 {K : Kx} {cc : ByteArray} {g : Gm} {nL d : Nat} {ret : Option FieldType} {Q : State → Prop} {pc : Nat} {lv : List (Nat × Value)} {st : List Value} {σ : St} (hC : Ok K cc RX6 g nL d ret) (hd : decode cc pc = .ok (.getfield 25, 3)) (k : J K (wX g) nL Q (pc + 3) lv (.ref (g.1 1) :: st) σ) : J K (wX g) nL Q (pc) lv (.ref (g.1 0) :: st) σ := by
  obtain ⟨p, l, e, R, s, m, args, below, meth, c, D, A, ce, sl⟩ := K
  obtain ⟨hx, hb, hml, hown, hts, hK, hA, hSF, ⟨hR1, hR2, hR3, hR4⟩, hr, hlk⟩ := hC
  exact fun H locs ls hl hP hD hS => va_get (D := D) (ci := 6) (v := .ref (g.1 1)) (C := RX6) (T := TX6) (N := 7) hx hb hts uwX6 hown hK hP 0 rfl rfl 2 (by decide) (hts _ mf_X6_25) (fun _ h9 => h9) rfl hd (k H locs ls hl hP hD hS)
theorem mf_X6_30 : Cond.fieldLink RX6 30 "SongHour" "draft" "LSongHour$Clock;" ∈ GW := memT (i := 321) (by decide +kernel) rfl
theorem get_X6_30 {K : Kx} {cc : ByteArray} {g : Gm} {nL d : Nat} {ret : Option FieldType} {Q : State → Prop} {pc : Nat} {lv : List (Nat × Value)} {st : List Value} {σ : St} (hC : Ok K cc RX6 g nL d ret) (hd : decode cc pc = .ok (.getfield 30, 3)) (k : J K (wX g) nL Q (pc + 3) lv (.ref (g.1 67) :: st) σ) : J K (wX g) nL Q (pc) lv (.ref (g.1 0) :: st) σ := by
  obtain ⟨p, l, e, R, s, m, args, below, meth, c, D, A, ce, sl⟩ := K
  obtain ⟨hx, hb, hml, hown, hts, hK, hA, hSF, ⟨hR1, hR2, hR3, hR4⟩, hr, hlk⟩ := hC
  exact fun H locs ls hl hP hD hS => va_get (D := D) (ci := 6) (v := .ref (g.1 67)) (C := RX6) (T := TX6) (N := 7) hx hb hts uwX6 hown hK hP 0 rfl rfl 3 (by decide) (hts _ mf_X6_30) (fun _ h9 => h9) rfl hd (k H locs ls hl hP hD hS)
theorem mf_X6_37 : Cond.fieldLink RX6 37 "SongHour" "songs" "LSongHour$Songs;" ∈ GW := memT (i := 322) (by decide +kernel) rfl
theorem get_X6_37 {K : Kx} {cc : ByteArray} {g : Gm} {nL d : Nat} {ret : Option FieldType} {Q : State → Prop} {pc : Nat} {lv : List (Nat × Value)} {st : List Value} {σ : St} (hC : Ok K cc RX6 g nL d ret) (hd : decode cc pc = .ok (.getfield 37, 3)) (k : J K (wX g) nL Q (pc + 3) lv (.ref (g.1 8) :: st) σ) : J K (wX g) nL Q (pc) lv (.ref (g.1 0) :: st) σ := by
  obtain ⟨p, l, e, R, s, m, args, below, meth, c, D, A, ce, sl⟩ := K
  obtain ⟨hx, hb, hml, hown, hts, hK, hA, hSF, ⟨hR1, hR2, hR3, hR4⟩, hr, hlk⟩ := hC
  exact fun H locs ls hl hP hD hS => va_get (D := D) (ci := 6) (v := .ref (g.1 8)) (C := RX6) (T := TX6) (N := 7) hx hb hts uwX6 hown hK hP 0 rfl rfl 4 (by decide) (hts _ mf_X6_37) (fun _ h9 => h9) rfl hd (k H locs ls hl hP hD hS)
theorem mf_X6_44 : Cond.fieldLink RX6 44 "SongHour" "log" "LSongHour$Log;" ∈ GW := memT (i := 323) (by decide +kernel) rfl
theorem get_X6_44 {K : Kx} {cc : ByteArray} {g : Gm} {nL d : Nat} {ret : Option FieldType} {Q : State → Prop} {pc : Nat} {lv : List (Nat × Value)} {st : List Value} {σ : St} (hC : Ok K cc RX6 g nL d ret) (hd : decode cc pc = .ok (.getfield 44, 3)) (k : J K (wX g) nL Q (pc + 3) lv (.ref (g.1 22) :: st) σ) : J K (wX g) nL Q (pc) lv (.ref (g.1 0) :: st) σ := by
  obtain ⟨p, l, e, R, s, m, args, below, meth, c, D, A, ce, sl⟩ := K
  obtain ⟨hx, hb, hml, hown, hts, hK, hA, hSF, ⟨hR1, hR2, hR3, hR4⟩, hr, hlk⟩ := hC
  exact fun H locs ls hl hP hD hS => va_get (D := D) (ci := 6) (v := .ref (g.1 22)) (C := RX6) (T := TX6) (N := 7) hx hb hts uwX6 hown hK hP 0 rfl rfl 5 (by decide) (hts _ mf_X6_44) (fun _ h9 => h9) rfl hd (k H locs ls hl hP hD hS)
theorem mf_X6_51 : Cond.fieldLink RX6 51 "SongHour" "search" "LSongHour$RowSearch;" ∈ GW := memT (i := 324) (by decide +kernel) rfl
theorem get_X6_51 {K : Kx} {cc : ByteArray} {g : Gm} {nL d : Nat} {ret : Option FieldType} {Q : State → Prop} {pc : Nat} {lv : List (Nat × Value)} {st : List Value} {σ : St} (hC : Ok K cc RX6 g nL d ret) (hd : decode cc pc = .ok (.getfield 51, 3)) (k : J K (wX g) nL Q (pc + 3) lv (.ref (g.1 29) :: st) σ) : J K (wX g) nL Q (pc) lv (.ref (g.1 0) :: st) σ := by
  obtain ⟨p, l, e, R, s, m, args, below, meth, c, D, A, ce, sl⟩ := K
  obtain ⟨hx, hb, hml, hown, hts, hK, hA, hSF, ⟨hR1, hR2, hR3, hR4⟩, hr, hlk⟩ := hC
  exact fun H locs ls hl hP hD hS => va_get (D := D) (ci := 6) (v := .ref (g.1 29)) (C := RX6) (T := TX6) (N := 7) hx hb hts uwX6 hown hK hP 0 rfl rfl 6 (by decide) (hts _ mf_X6_51) (fun _ h9 => h9) rfl hd (k H locs ls hl hP hD hS)
theorem mf_X6_63 : Cond.fieldLink RX6 63 "SongHour$Text" "size" "I" ∈ GW := memT (i := 37) (by decide +kernel) rfl
theorem get_X6_63 {K : Kx} {cc : ByteArray} {g : Gm} {nL d : Nat} {ret : Option FieldType} {Q : State → Prop} {pc : Nat} {lv : List (Nat × Value)} {st : List Value} {σ : St} (hC : Ok K cc RX6 g nL d ret) (hd : decode cc pc = .ok (.getfield 63, 3)) (k : J K (wX g) nL Q (pc + 3) lv (.int (gi σ 0) :: st) σ) : J K (wX g) nL Q (pc) lv (.ref (g.1 2) :: st) σ := by
  obtain ⟨p, l, e, R, s, m, args, below, meth, c, D, A, ce, sl⟩ := K
  obtain ⟨hx, hb, hml, hown, hts, hK, hA, hSF, ⟨hR1, hR2, hR3, hR4⟩, hr, hlk⟩ := hC
  exact fun H locs ls hl hP hD hS => va_get (D := D) (ci := 5) (v := .int (gi σ 0)) (C := RX5) (T := TX5) (N := 9) hx hb hts uwX5 hown hK hP 2 rfl rfl 1 (by decide) (hts _ mf_X6_63) (fun _ h9 => h9) rfl hd (k H locs ls hl hP hD hS)
theorem put_X6_63 {K : Kx} {cc : ByteArray} {g : Gm} {nL d : Nat} {ret : Option FieldType} {Q : State → Prop} {pc : Nat} {lv : List (Nat × Value)} {st : List Value} {σ : St} (hC : Ok K cc RX6 g nL d ret) {v : Int32} {ρ : Type} {o : ρ} {f : St → Option ρ} (hd : decode cc pc = .ok (.putfield 63, 3)) (h : bnd (si σ 0 v) f = some o) (k : ∀ σ2, f σ2 = some o → J K (wX g) nL Q (pc + 3) lv (st) σ2) : J K (wX g) nL Q (pc) lv (.int v :: .ref (g.1 2) :: st) σ := by
  obtain ⟨p, l, e, R, s, m, args, below, meth, c, D, A, ce, sl⟩ := K
  obtain ⟨hx, hb, hml, hown, hts, hK, hA, hSF, ⟨hR1, hR2, hR3, hR4⟩, hr, hlk⟩ := hC
  exact fun H locs ls hl hP hD hS => va_put (D := D) (ci := 5) (v := .int v) (ty := .int) (C := RX5) (T := TX5) (N := 9) hx hb hts uwX5 tyX5 tyX5_ok nmX5 hown hK hP hD hS 2 rfl rfl 1 (by decide) (hts _ mf_X6_63) (fun _ h9 => h9) rfl (by decide +kernel) rfl rfl (Nat.le_of_ble_eq_true rfl) hd (fun H locs hP hD hS => k _ h H locs ls hl hP hD hS)
theorem mf_X6_71 : Cond.fieldLink RX6 71 "SongHour$Rulebook" "howMany" "I" ∈ GW := memT (i := 88) (by decide +kernel) rfl
theorem get_X6_71 {K : Kx} {cc : ByteArray} {g : Gm} {nL d : Nat} {ret : Option FieldType} {Q : State → Prop} {pc : Nat} {lv : List (Nat × Value)} {st : List Value} {σ : St} (hC : Ok K cc RX6 g nL d ret) (hd : decode cc pc = .ok (.getfield 71, 3)) (k : J K (wX g) nL Q (pc + 3) lv (.int (gi σ 8) :: st) σ) : J K (wX g) nL Q (pc) lv (.ref (g.1 4) :: st) σ := by
  obtain ⟨p, l, e, R, s, m, args, below, meth, c, D, A, ce, sl⟩ := K
  obtain ⟨hx, hb, hml, hown, hts, hK, hA, hSF, ⟨hR1, hR2, hR3, hR4⟩, hr, hlk⟩ := hC
  exact fun H locs ls hl hP hD hS => va_get (D := D) (ci := 3) (v := .int (gi σ 8)) (C := RX3) (T := TX3) (N := 4) hx hb hts uwX3 hown hK hP 4 rfl rfl 3 (by decide) (hts _ mf_X6_71) (fun _ h9 => h9) rfl hd (k H locs ls hl hP hD hS)
theorem put_X6_71 {K : Kx} {cc : ByteArray} {g : Gm} {nL d : Nat} {ret : Option FieldType} {Q : State → Prop} {pc : Nat} {lv : List (Nat × Value)} {st : List Value} {σ : St} (hC : Ok K cc RX6 g nL d ret) {v : Int32} {ρ : Type} {o : ρ} {f : St → Option ρ} (hd : decode cc pc = .ok (.putfield 71, 3)) (h : bnd (si σ 8 v) f = some o) (k : ∀ σ2, f σ2 = some o → J K (wX g) nL Q (pc + 3) lv (st) σ2) : J K (wX g) nL Q (pc) lv (.int v :: .ref (g.1 4) :: st) σ := by
  obtain ⟨p, l, e, R, s, m, args, below, meth, c, D, A, ce, sl⟩ := K
  obtain ⟨hx, hb, hml, hown, hts, hK, hA, hSF, ⟨hR1, hR2, hR3, hR4⟩, hr, hlk⟩ := hC
  exact fun H locs ls hl hP hD hS => va_put (D := D) (ci := 3) (v := .int v) (ty := .int) (C := RX3) (T := TX3) (N := 4) hx hb hts uwX3 tyX3 tyX3_ok nmX3 hown hK hP hD hS 4 rfl rfl 3 (by decide) (hts _ mf_X6_71) (fun _ h9 => h9) rfl (by decide +kernel) rfl rfl (Nat.le_of_ble_eq_true rfl) hd (fun H locs hP hD hS => k _ h H locs ls hl hP hD hS)
theorem mf_X6_74 : Cond.fieldLink RX6 74 "SongHour$Text" "faultPlace" "I" ∈ GW := memT (i := 41) (by decide +kernel) rfl
theorem get_X6_74 {K : Kx} {cc : ByteArray} {g : Gm} {nL d : Nat} {ret : Option FieldType} {Q : State → Prop} {pc : Nat} {lv : List (Nat × Value)} {st : List Value} {σ : St} (hC : Ok K cc RX6 g nL d ret) (hd : decode cc pc = .ok (.getfield 74, 3)) (k : J K (wX g) nL Q (pc + 3) lv (.int (gi σ 2) :: st) σ) : J K (wX g) nL Q (pc) lv (.ref (g.1 2) :: st) σ := by
  obtain ⟨p, l, e, R, s, m, args, below, meth, c, D, A, ce, sl⟩ := K
  obtain ⟨hx, hb, hml, hown, hts, hK, hA, hSF, ⟨hR1, hR2, hR3, hR4⟩, hr, hlk⟩ := hC
  exact fun H locs ls hl hP hD hS => va_get (D := D) (ci := 5) (v := .int (gi σ 2)) (C := RX5) (T := TX5) (N := 9) hx hb hts uwX5 hown hK hP 2 rfl rfl 3 (by decide) (hts _ mf_X6_74) (fun _ h9 => h9) rfl hd (k H locs ls hl hP hD hS)
theorem put_X6_74 {K : Kx} {cc : ByteArray} {g : Gm} {nL d : Nat} {ret : Option FieldType} {Q : State → Prop} {pc : Nat} {lv : List (Nat × Value)} {st : List Value} {σ : St} (hC : Ok K cc RX6 g nL d ret) {v : Int32} {ρ : Type} {o : ρ} {f : St → Option ρ} (hd : decode cc pc = .ok (.putfield 74, 3)) (h : bnd (si σ 2 v) f = some o) (k : ∀ σ2, f σ2 = some o → J K (wX g) nL Q (pc + 3) lv (st) σ2) : J K (wX g) nL Q (pc) lv (.int v :: .ref (g.1 2) :: st) σ := by
  obtain ⟨p, l, e, R, s, m, args, below, meth, c, D, A, ce, sl⟩ := K
  obtain ⟨hx, hb, hml, hown, hts, hK, hA, hSF, ⟨hR1, hR2, hR3, hR4⟩, hr, hlk⟩ := hC
  exact fun H locs ls hl hP hD hS => va_put (D := D) (ci := 5) (v := .int v) (ty := .int) (C := RX5) (T := TX5) (N := 9) hx hb hts uwX5 tyX5 tyX5_ok nmX5 hown hK hP hD hS 2 rfl rfl 3 (by decide) (hts _ mf_X6_74) (fun _ h9 => h9) rfl (by decide +kernel) rfl rfl (Nat.le_of_ble_eq_true rfl) hd (fun H locs hP hD hS => k _ h H locs ls hl hP hD hS)
theorem mf_X6_93 : Cond.fieldLink RX6 93 "SongHour$Clock" "size" "I" ∈ GW := memT (i := 108) (by decide +kernel) rfl
theorem get_X6_93 {K : Kx} {cc : ByteArray} {g : Gm} {nL d : Nat} {ret : Option FieldType} {Q : State → Prop} {pc : Nat} {lv : List (Nat × Value)} {st : List Value} {σ : St} (hC : Ok K cc RX6 g nL d ret) (j : Nat) (hj : j < 7) (hd : decode cc pc = .ok (.getfield 93, 3)) (k : J K (wX g) nL Q (pc + 3) lv (.int (gi σ (27 + 3 * j + 0)) :: st) σ) : J K (wX g) nL Q (pc) lv (.ref (g.1 (37 + 5 * j)) :: st) σ := by
  obtain ⟨p, l, e, R, s, m, args, below, meth, c, D, A, ce, sl⟩ := K
  obtain ⟨hx, hb, hml, hown, hts, hK, hA, hSF, ⟨hR1, hR2, hR3, hR4⟩, hr, hlk⟩ := hC
  rcases (show j = 0 ∨ j = 1 ∨ j = 2 ∨ j = 3 ∨ j = 4 ∨ j = 5 ∨ j = 6 by omega) with rfl | rfl | rfl | rfl | rfl | rfl | rfl
  · exact fun H locs ls hl hP hD hS => va_get (D := D) (ci := 0) (C := RX0) (T := TX0) (N := 7) hx hb hts uwX0 hown hK hP 37 rfl rfl 0 (by decide) (hts _ mf_X6_93) (fun _ h9 => h9) rfl hd (k H locs ls hl hP hD hS)
  · exact fun H locs ls hl hP hD hS => va_get (D := D) (ci := 0) (C := RX0) (T := TX0) (N := 7) hx hb hts uwX0 hown hK hP 42 rfl rfl 0 (by decide) (hts _ mf_X6_93) (fun _ h9 => h9) rfl hd (k H locs ls hl hP hD hS)
  · exact fun H locs ls hl hP hD hS => va_get (D := D) (ci := 0) (C := RX0) (T := TX0) (N := 7) hx hb hts uwX0 hown hK hP 47 rfl rfl 0 (by decide) (hts _ mf_X6_93) (fun _ h9 => h9) rfl hd (k H locs ls hl hP hD hS)
  · exact fun H locs ls hl hP hD hS => va_get (D := D) (ci := 0) (C := RX0) (T := TX0) (N := 7) hx hb hts uwX0 hown hK hP 52 rfl rfl 0 (by decide) (hts _ mf_X6_93) (fun _ h9 => h9) rfl hd (k H locs ls hl hP hD hS)
  · exact fun H locs ls hl hP hD hS => va_get (D := D) (ci := 0) (C := RX0) (T := TX0) (N := 7) hx hb hts uwX0 hown hK hP 57 rfl rfl 0 (by decide) (hts _ mf_X6_93) (fun _ h9 => h9) rfl hd (k H locs ls hl hP hD hS)
  · exact fun H locs ls hl hP hD hS => va_get (D := D) (ci := 0) (C := RX0) (T := TX0) (N := 7) hx hb hts uwX0 hown hK hP 62 rfl rfl 0 (by decide) (hts _ mf_X6_93) (fun _ h9 => h9) rfl hd (k H locs ls hl hP hD hS)
  · exact fun H locs ls hl hP hD hS => va_get (D := D) (ci := 0) (C := RX0) (T := TX0) (N := 7) hx hb hts uwX0 hown hK hP 67 rfl rfl 0 (by decide) (hts _ mf_X6_93) (fun _ h9 => h9) rfl hd (k H locs ls hl hP hD hS)
theorem put_X6_93 {K : Kx} {cc : ByteArray} {g : Gm} {nL d : Nat} {ret : Option FieldType} {Q : State → Prop} {pc : Nat} {lv : List (Nat × Value)} {st : List Value} {σ : St} (hC : Ok K cc RX6 g nL d ret) (j : Nat) (hj : j < 7) {v : Int32} {ρ : Type} {o : ρ} {f : St → Option ρ} (hd : decode cc pc = .ok (.putfield 93, 3)) (h : bnd (si σ (27 + 3 * j + 0) v) f = some o) (k : ∀ σ2, f σ2 = some o → J K (wX g) nL Q (pc + 3) lv (st) σ2) : J K (wX g) nL Q (pc) lv (.int v :: .ref (g.1 (37 + 5 * j)) :: st) σ := by
  obtain ⟨p, l, e, R, s, m, args, below, meth, c, D, A, ce, sl⟩ := K
  obtain ⟨hx, hb, hml, hown, hts, hK, hA, hSF, ⟨hR1, hR2, hR3, hR4⟩, hr, hlk⟩ := hC
  rcases (show j = 0 ∨ j = 1 ∨ j = 2 ∨ j = 3 ∨ j = 4 ∨ j = 5 ∨ j = 6 by omega) with rfl | rfl | rfl | rfl | rfl | rfl | rfl
  · exact fun H locs ls hl hP hD hS => va_put (D := D) (ci := 0) (v := .int v) (ty := .int) (C := RX0) (T := TX0) (N := 7) hx hb hts uwX0 tyX0 tyX0_ok nmX0 hown hK hP hD hS 37 rfl rfl 0 (by decide) (hts _ mf_X6_93) (fun _ h9 => h9) rfl (by decide +kernel) rfl rfl (Nat.le_of_ble_eq_true rfl) hd (fun H locs hP hD hS => k _ h H locs ls hl hP hD hS)
  · exact fun H locs ls hl hP hD hS => va_put (D := D) (ci := 0) (v := .int v) (ty := .int) (C := RX0) (T := TX0) (N := 7) hx hb hts uwX0 tyX0 tyX0_ok nmX0 hown hK hP hD hS 42 rfl rfl 0 (by decide) (hts _ mf_X6_93) (fun _ h9 => h9) rfl (by decide +kernel) rfl rfl (Nat.le_of_ble_eq_true rfl) hd (fun H locs hP hD hS => k _ h H locs ls hl hP hD hS)
  · exact fun H locs ls hl hP hD hS => va_put (D := D) (ci := 0) (v := .int v) (ty := .int) (C := RX0) (T := TX0) (N := 7) hx hb hts uwX0 tyX0 tyX0_ok nmX0 hown hK hP hD hS 47 rfl rfl 0 (by decide) (hts _ mf_X6_93) (fun _ h9 => h9) rfl (by decide +kernel) rfl rfl (Nat.le_of_ble_eq_true rfl) hd (fun H locs hP hD hS => k _ h H locs ls hl hP hD hS)
  · exact fun H locs ls hl hP hD hS => va_put (D := D) (ci := 0) (v := .int v) (ty := .int) (C := RX0) (T := TX0) (N := 7) hx hb hts uwX0 tyX0 tyX0_ok nmX0 hown hK hP hD hS 52 rfl rfl 0 (by decide) (hts _ mf_X6_93) (fun _ h9 => h9) rfl (by decide +kernel) rfl rfl (Nat.le_of_ble_eq_true rfl) hd (fun H locs hP hD hS => k _ h H locs ls hl hP hD hS)
  · exact fun H locs ls hl hP hD hS => va_put (D := D) (ci := 0) (v := .int v) (ty := .int) (C := RX0) (T := TX0) (N := 7) hx hb hts uwX0 tyX0 tyX0_ok nmX0 hown hK hP hD hS 57 rfl rfl 0 (by decide) (hts _ mf_X6_93) (fun _ h9 => h9) rfl (by decide +kernel) rfl rfl (Nat.le_of_ble_eq_true rfl) hd (fun H locs hP hD hS => k _ h H locs ls hl hP hD hS)
  · exact fun H locs ls hl hP hD hS => va_put (D := D) (ci := 0) (v := .int v) (ty := .int) (C := RX0) (T := TX0) (N := 7) hx hb hts uwX0 tyX0 tyX0_ok nmX0 hown hK hP hD hS 62 rfl rfl 0 (by decide) (hts _ mf_X6_93) (fun _ h9 => h9) rfl (by decide +kernel) rfl rfl (Nat.le_of_ble_eq_true rfl) hd (fun H locs hP hD hS => k _ h H locs ls hl hP hD hS)
  · exact fun H locs ls hl hP hD hS => va_put (D := D) (ci := 0) (v := .int v) (ty := .int) (C := RX0) (T := TX0) (N := 7) hx hb hts uwX0 tyX0 tyX0_ok nmX0 hown hK hP hD hS 67 rfl rfl 0 (by decide) (hts _ mf_X6_93) (fun _ h9 => h9) rfl (by decide +kernel) rfl rfl (Nat.le_of_ble_eq_true rfl) hd (fun H locs hP hD hS => k _ h H locs ls hl hP hD hS)
theorem mf_X6_94 : Cond.fieldLink RX6 94 "SongHour$Text" "faultKind" "I" ∈ GW := memT (i := 39) (by decide +kernel) rfl
theorem get_X6_94 {K : Kx} {cc : ByteArray} {g : Gm} {nL d : Nat} {ret : Option FieldType} {Q : State → Prop} {pc : Nat} {lv : List (Nat × Value)} {st : List Value} {σ : St} (hC : Ok K cc RX6 g nL d ret) (hd : decode cc pc = .ok (.getfield 94, 3)) (k : J K (wX g) nL Q (pc + 3) lv (.int (gi σ 1) :: st) σ) : J K (wX g) nL Q (pc) lv (.ref (g.1 2) :: st) σ := by
  obtain ⟨p, l, e, R, s, m, args, below, meth, c, D, A, ce, sl⟩ := K
  obtain ⟨hx, hb, hml, hown, hts, hK, hA, hSF, ⟨hR1, hR2, hR3, hR4⟩, hr, hlk⟩ := hC
  exact fun H locs ls hl hP hD hS => va_get (D := D) (ci := 5) (v := .int (gi σ 1)) (C := RX5) (T := TX5) (N := 9) hx hb hts uwX5 hown hK hP 2 rfl rfl 2 (by decide) (hts _ mf_X6_94) (fun _ h9 => h9) rfl hd (k H locs ls hl hP hD hS)
theorem put_X6_94 {K : Kx} {cc : ByteArray} {g : Gm} {nL d : Nat} {ret : Option FieldType} {Q : State → Prop} {pc : Nat} {lv : List (Nat × Value)} {st : List Value} {σ : St} (hC : Ok K cc RX6 g nL d ret) {v : Int32} {ρ : Type} {o : ρ} {f : St → Option ρ} (hd : decode cc pc = .ok (.putfield 94, 3)) (h : bnd (si σ 1 v) f = some o) (k : ∀ σ2, f σ2 = some o → J K (wX g) nL Q (pc + 3) lv (st) σ2) : J K (wX g) nL Q (pc) lv (.int v :: .ref (g.1 2) :: st) σ := by
  obtain ⟨p, l, e, R, s, m, args, below, meth, c, D, A, ce, sl⟩ := K
  obtain ⟨hx, hb, hml, hown, hts, hK, hA, hSF, ⟨hR1, hR2, hR3, hR4⟩, hr, hlk⟩ := hC
  exact fun H locs ls hl hP hD hS => va_put (D := D) (ci := 5) (v := .int v) (ty := .int) (C := RX5) (T := TX5) (N := 9) hx hb hts uwX5 tyX5 tyX5_ok nmX5 hown hK hP hD hS 2 rfl rfl 2 (by decide) (hts _ mf_X6_94) (fun _ h9 => h9) rfl (by decide +kernel) rfl rfl (Nat.le_of_ble_eq_true rfl) hd (fun H locs hP hD hS => k _ h H locs ls hl hP hD hS)
theorem mf_X6_97 : Cond.fieldLink RX6 97 "SongHour$Rulebook" "now" "[I" ∈ GW := memT (i := 84) (by decide +kernel) rfl
theorem get_X6_97 {K : Kx} {cc : ByteArray} {g : Gm} {nL d : Nat} {ret : Option FieldType} {Q : State → Prop} {pc : Nat} {lv : List (Nat × Value)} {st : List Value} {σ : St} (hC : Ok K cc RX6 g nL d ret) (hd : decode cc pc = .ok (.getfield 97, 3)) (k : J K (wX g) nL Q (pc + 3) lv (.ref (g.1 5) :: st) σ) : J K (wX g) nL Q (pc) lv (.ref (g.1 4) :: st) σ := by
  obtain ⟨p, l, e, R, s, m, args, below, meth, c, D, A, ce, sl⟩ := K
  obtain ⟨hx, hb, hml, hown, hts, hK, hA, hSF, ⟨hR1, hR2, hR3, hR4⟩, hr, hlk⟩ := hC
  exact fun H locs ls hl hP hD hS => va_get (D := D) (ci := 3) (v := .ref (g.1 5)) (C := RX3) (T := TX3) (N := 4) hx hb hts uwX3 hown hK hP 4 rfl rfl 0 (by decide) (hts _ mf_X6_97) (fun _ h9 => h9) rfl hd (k H locs ls hl hP hD hS)
theorem mf_X6_105 : Cond.fieldLink RX6 105 "SongHour$Songs" "size" "I" ∈ GW := memT (i := 145) (by decide +kernel) rfl
theorem get_X6_105 {K : Kx} {cc : ByteArray} {g : Gm} {nL d : Nat} {ret : Option FieldType} {Q : State → Prop} {pc : Nat} {lv : List (Nat × Value)} {st : List Value} {σ : St} (hC : Ok K cc RX6 g nL d ret) (hd : decode cc pc = .ok (.getfield 105, 3)) (k : J K (wX g) nL Q (pc + 3) lv (.int (gi σ 9) :: st) σ) : J K (wX g) nL Q (pc) lv (.ref (g.1 8) :: st) σ := by
  obtain ⟨p, l, e, R, s, m, args, below, meth, c, D, A, ce, sl⟩ := K
  obtain ⟨hx, hb, hml, hown, hts, hK, hA, hSF, ⟨hR1, hR2, hR3, hR4⟩, hr, hlk⟩ := hC
  exact fun H locs ls hl hP hD hS => va_get (D := D) (ci := 4) (v := .int (gi σ 9)) (C := RX4) (T := TX4) (N := 14) hx hb hts uwX4 hown hK hP 8 rfl rfl 0 (by decide) (hts _ mf_X6_105) (fun _ h9 => h9) rfl hd (k H locs ls hl hP hD hS)
theorem put_X6_105 {K : Kx} {cc : ByteArray} {g : Gm} {nL d : Nat} {ret : Option FieldType} {Q : State → Prop} {pc : Nat} {lv : List (Nat × Value)} {st : List Value} {σ : St} (hC : Ok K cc RX6 g nL d ret) {v : Int32} {ρ : Type} {o : ρ} {f : St → Option ρ} (hd : decode cc pc = .ok (.putfield 105, 3)) (h : bnd (si σ 9 v) f = some o) (k : ∀ σ2, f σ2 = some o → J K (wX g) nL Q (pc + 3) lv (st) σ2) : J K (wX g) nL Q (pc) lv (.int v :: .ref (g.1 8) :: st) σ := by
  obtain ⟨p, l, e, R, s, m, args, below, meth, c, D, A, ce, sl⟩ := K
  obtain ⟨hx, hb, hml, hown, hts, hK, hA, hSF, ⟨hR1, hR2, hR3, hR4⟩, hr, hlk⟩ := hC
  exact fun H locs ls hl hP hD hS => va_put (D := D) (ci := 4) (v := .int v) (ty := .int) (C := RX4) (T := TX4) (N := 14) hx hb hts uwX4 tyX4 tyX4_ok nmX4 hown hK hP hD hS 8 rfl rfl 0 (by decide) (hts _ mf_X6_105) (fun _ h9 => h9) rfl (by decide +kernel) rfl rfl (Nat.le_of_ble_eq_true rfl) hd (fun H locs hP hD hS => k _ h H locs ls hl hP hD hS)
theorem mf_X6_121 : Cond.fieldLink RX6 121 "SongHour$Songs" "asksOpen" "[I" ∈ GW := memT (i := 160) (by decide +kernel) rfl
theorem get_X6_121 {K : Kx} {cc : ByteArray} {g : Gm} {nL d : Nat} {ret : Option FieldType} {Q : State → Prop} {pc : Nat} {lv : List (Nat × Value)} {st : List Value} {σ : St} (hC : Ok K cc RX6 g nL d ret) (hd : decode cc pc = .ok (.getfield 121, 3)) (k : J K (wX g) nL Q (pc + 3) lv (.ref (g.1 14) :: st) σ) : J K (wX g) nL Q (pc) lv (.ref (g.1 8) :: st) σ := by
  obtain ⟨p, l, e, R, s, m, args, below, meth, c, D, A, ce, sl⟩ := K
  obtain ⟨hx, hb, hml, hown, hts, hK, hA, hSF, ⟨hR1, hR2, hR3, hR4⟩, hr, hlk⟩ := hC
  exact fun H locs ls hl hP hD hS => va_get (D := D) (ci := 4) (v := .ref (g.1 14)) (C := RX4) (T := TX4) (N := 14) hx hb hts uwX4 hown hK hP 8 rfl rfl 6 (by decide) (hts _ mf_X6_121) (fun _ h9 => h9) rfl hd (k H locs ls hl hP hD hS)
theorem mf_X6_124 : Cond.fieldLink RX6 124 "SongHour$Clock" "stretches" "I" ∈ GW := memT (i := 110) (by decide +kernel) rfl
theorem get_X6_124 {K : Kx} {cc : ByteArray} {g : Gm} {nL d : Nat} {ret : Option FieldType} {Q : State → Prop} {pc : Nat} {lv : List (Nat × Value)} {st : List Value} {σ : St} (hC : Ok K cc RX6 g nL d ret) (j : Nat) (hj : j < 7) (hd : decode cc pc = .ok (.getfield 124, 3)) (k : J K (wX g) nL Q (pc + 3) lv (.int (gi σ (27 + 3 * j + 1)) :: st) σ) : J K (wX g) nL Q (pc) lv (.ref (g.1 (37 + 5 * j)) :: st) σ := by
  obtain ⟨p, l, e, R, s, m, args, below, meth, c, D, A, ce, sl⟩ := K
  obtain ⟨hx, hb, hml, hown, hts, hK, hA, hSF, ⟨hR1, hR2, hR3, hR4⟩, hr, hlk⟩ := hC
  rcases (show j = 0 ∨ j = 1 ∨ j = 2 ∨ j = 3 ∨ j = 4 ∨ j = 5 ∨ j = 6 by omega) with rfl | rfl | rfl | rfl | rfl | rfl | rfl
  · exact fun H locs ls hl hP hD hS => va_get (D := D) (ci := 0) (C := RX0) (T := TX0) (N := 7) hx hb hts uwX0 hown hK hP 37 rfl rfl 1 (by decide) (hts _ mf_X6_124) (fun _ h9 => h9) rfl hd (k H locs ls hl hP hD hS)
  · exact fun H locs ls hl hP hD hS => va_get (D := D) (ci := 0) (C := RX0) (T := TX0) (N := 7) hx hb hts uwX0 hown hK hP 42 rfl rfl 1 (by decide) (hts _ mf_X6_124) (fun _ h9 => h9) rfl hd (k H locs ls hl hP hD hS)
  · exact fun H locs ls hl hP hD hS => va_get (D := D) (ci := 0) (C := RX0) (T := TX0) (N := 7) hx hb hts uwX0 hown hK hP 47 rfl rfl 1 (by decide) (hts _ mf_X6_124) (fun _ h9 => h9) rfl hd (k H locs ls hl hP hD hS)
  · exact fun H locs ls hl hP hD hS => va_get (D := D) (ci := 0) (C := RX0) (T := TX0) (N := 7) hx hb hts uwX0 hown hK hP 52 rfl rfl 1 (by decide) (hts _ mf_X6_124) (fun _ h9 => h9) rfl hd (k H locs ls hl hP hD hS)
  · exact fun H locs ls hl hP hD hS => va_get (D := D) (ci := 0) (C := RX0) (T := TX0) (N := 7) hx hb hts uwX0 hown hK hP 57 rfl rfl 1 (by decide) (hts _ mf_X6_124) (fun _ h9 => h9) rfl hd (k H locs ls hl hP hD hS)
  · exact fun H locs ls hl hP hD hS => va_get (D := D) (ci := 0) (C := RX0) (T := TX0) (N := 7) hx hb hts uwX0 hown hK hP 62 rfl rfl 1 (by decide) (hts _ mf_X6_124) (fun _ h9 => h9) rfl hd (k H locs ls hl hP hD hS)
  · exact fun H locs ls hl hP hD hS => va_get (D := D) (ci := 0) (C := RX0) (T := TX0) (N := 7) hx hb hts uwX0 hown hK hP 67 rfl rfl 1 (by decide) (hts _ mf_X6_124) (fun _ h9 => h9) rfl hd (k H locs ls hl hP hD hS)
theorem put_X6_124 {K : Kx} {cc : ByteArray} {g : Gm} {nL d : Nat} {ret : Option FieldType} {Q : State → Prop} {pc : Nat} {lv : List (Nat × Value)} {st : List Value} {σ : St} (hC : Ok K cc RX6 g nL d ret) (j : Nat) (hj : j < 7) {v : Int32} {ρ : Type} {o : ρ} {f : St → Option ρ} (hd : decode cc pc = .ok (.putfield 124, 3)) (h : bnd (si σ (27 + 3 * j + 1) v) f = some o) (k : ∀ σ2, f σ2 = some o → J K (wX g) nL Q (pc + 3) lv (st) σ2) : J K (wX g) nL Q (pc) lv (.int v :: .ref (g.1 (37 + 5 * j)) :: st) σ := by
  obtain ⟨p, l, e, R, s, m, args, below, meth, c, D, A, ce, sl⟩ := K
  obtain ⟨hx, hb, hml, hown, hts, hK, hA, hSF, ⟨hR1, hR2, hR3, hR4⟩, hr, hlk⟩ := hC
  rcases (show j = 0 ∨ j = 1 ∨ j = 2 ∨ j = 3 ∨ j = 4 ∨ j = 5 ∨ j = 6 by omega) with rfl | rfl | rfl | rfl | rfl | rfl | rfl
  · exact fun H locs ls hl hP hD hS => va_put (D := D) (ci := 0) (v := .int v) (ty := .int) (C := RX0) (T := TX0) (N := 7) hx hb hts uwX0 tyX0 tyX0_ok nmX0 hown hK hP hD hS 37 rfl rfl 1 (by decide) (hts _ mf_X6_124) (fun _ h9 => h9) rfl (by decide +kernel) rfl rfl (Nat.le_of_ble_eq_true rfl) hd (fun H locs hP hD hS => k _ h H locs ls hl hP hD hS)
  · exact fun H locs ls hl hP hD hS => va_put (D := D) (ci := 0) (v := .int v) (ty := .int) (C := RX0) (T := TX0) (N := 7) hx hb hts uwX0 tyX0 tyX0_ok nmX0 hown hK hP hD hS 42 rfl rfl 1 (by decide) (hts _ mf_X6_124) (fun _ h9 => h9) rfl (by decide +kernel) rfl rfl (Nat.le_of_ble_eq_true rfl) hd (fun H locs hP hD hS => k _ h H locs ls hl hP hD hS)
  · exact fun H locs ls hl hP hD hS => va_put (D := D) (ci := 0) (v := .int v) (ty := .int) (C := RX0) (T := TX0) (N := 7) hx hb hts uwX0 tyX0 tyX0_ok nmX0 hown hK hP hD hS 47 rfl rfl 1 (by decide) (hts _ mf_X6_124) (fun _ h9 => h9) rfl (by decide +kernel) rfl rfl (Nat.le_of_ble_eq_true rfl) hd (fun H locs hP hD hS => k _ h H locs ls hl hP hD hS)
  · exact fun H locs ls hl hP hD hS => va_put (D := D) (ci := 0) (v := .int v) (ty := .int) (C := RX0) (T := TX0) (N := 7) hx hb hts uwX0 tyX0 tyX0_ok nmX0 hown hK hP hD hS 52 rfl rfl 1 (by decide) (hts _ mf_X6_124) (fun _ h9 => h9) rfl (by decide +kernel) rfl rfl (Nat.le_of_ble_eq_true rfl) hd (fun H locs hP hD hS => k _ h H locs ls hl hP hD hS)
  · exact fun H locs ls hl hP hD hS => va_put (D := D) (ci := 0) (v := .int v) (ty := .int) (C := RX0) (T := TX0) (N := 7) hx hb hts uwX0 tyX0 tyX0_ok nmX0 hown hK hP hD hS 57 rfl rfl 1 (by decide) (hts _ mf_X6_124) (fun _ h9 => h9) rfl (by decide +kernel) rfl rfl (Nat.le_of_ble_eq_true rfl) hd (fun H locs hP hD hS => k _ h H locs ls hl hP hD hS)
  · exact fun H locs ls hl hP hD hS => va_put (D := D) (ci := 0) (v := .int v) (ty := .int) (C := RX0) (T := TX0) (N := 7) hx hb hts uwX0 tyX0 tyX0_ok nmX0 hown hK hP hD hS 62 rfl rfl 1 (by decide) (hts _ mf_X6_124) (fun _ h9 => h9) rfl (by decide +kernel) rfl rfl (Nat.le_of_ble_eq_true rfl) hd (fun H locs hP hD hS => k _ h H locs ls hl hP hD hS)
  · exact fun H locs ls hl hP hD hS => va_put (D := D) (ci := 0) (v := .int v) (ty := .int) (C := RX0) (T := TX0) (N := 7) hx hb hts uwX0 tyX0 tyX0_ok nmX0 hown hK hP hD hS 67 rfl rfl 1 (by decide) (hts _ mf_X6_124) (fun _ h9 => h9) rfl (by decide +kernel) rfl rfl (Nat.le_of_ble_eq_true rfl) hd (fun H locs hP hD hS => k _ h H locs ls hl hP hD hS)
theorem mf_X6_134 : Cond.fieldLink RX6 134 "SongHour$Log" "hours" "I" ∈ GW := memT (i := 209) (by decide +kernel) rfl
theorem get_X6_134 {K : Kx} {cc : ByteArray} {g : Gm} {nL d : Nat} {ret : Option FieldType} {Q : State → Prop} {pc : Nat} {lv : List (Nat × Value)} {st : List Value} {σ : St} (hC : Ok K cc RX6 g nL d ret) (hd : decode cc pc = .ok (.getfield 134, 3)) (k : J K (wX g) nL Q (pc + 3) lv (.int (gi σ 10) :: st) σ) : J K (wX g) nL Q (pc) lv (.ref (g.1 22) :: st) σ := by
  obtain ⟨p, l, e, R, s, m, args, below, meth, c, D, A, ce, sl⟩ := K
  obtain ⟨hx, hb, hml, hown, hts, hK, hA, hSF, ⟨hR1, hR2, hR3, hR4⟩, hr, hlk⟩ := hC
  exact fun H locs ls hl hP hD hS => va_get (D := D) (ci := 1) (v := .int (gi σ 10)) (C := RX1) (T := TX1) (N := 10) hx hb hts uwX1 hown hK hP 22 rfl rfl 0 (by decide) (hts _ mf_X6_134) (fun _ h9 => h9) rfl hd (k H locs ls hl hP hD hS)
theorem put_X6_134 {K : Kx} {cc : ByteArray} {g : Gm} {nL d : Nat} {ret : Option FieldType} {Q : State → Prop} {pc : Nat} {lv : List (Nat × Value)} {st : List Value} {σ : St} (hC : Ok K cc RX6 g nL d ret) {v : Int32} {ρ : Type} {o : ρ} {f : St → Option ρ} (hd : decode cc pc = .ok (.putfield 134, 3)) (h : bnd (si σ 10 v) f = some o) (k : ∀ σ2, f σ2 = some o → J K (wX g) nL Q (pc + 3) lv (st) σ2) : J K (wX g) nL Q (pc) lv (.int v :: .ref (g.1 22) :: st) σ := by
  obtain ⟨p, l, e, R, s, m, args, below, meth, c, D, A, ce, sl⟩ := K
  obtain ⟨hx, hb, hml, hown, hts, hK, hA, hSF, ⟨hR1, hR2, hR3, hR4⟩, hr, hlk⟩ := hC
  exact fun H locs ls hl hP hD hS => va_put (D := D) (ci := 1) (v := .int v) (ty := .int) (C := RX1) (T := TX1) (N := 10) hx hb hts uwX1 tyX1 tyX1_ok nmX1 hown hK hP hD hS 22 rfl rfl 0 (by decide) (hts _ mf_X6_134) (fun _ h9 => h9) rfl (by decide +kernel) rfl rfl (Nat.le_of_ble_eq_true rfl) hd (fun H locs hP hD hS => k _ h H locs ls hl hP hD hS)
theorem mf_X6_144 : Cond.fieldLink RX6 144 "SongHour$Clock" "seconds" "[I" ∈ GW := memT (i := 112) (by decide +kernel) rfl
theorem get_X6_144 {K : Kx} {cc : ByteArray} {g : Gm} {nL d : Nat} {ret : Option FieldType} {Q : State → Prop} {pc : Nat} {lv : List (Nat × Value)} {st : List Value} {σ : St} (hC : Ok K cc RX6 g nL d ret) (j : Nat) (hj : j < 7) (hd : decode cc pc = .ok (.getfield 144, 3)) (k : J K (wX g) nL Q (pc + 3) lv (.ref (g.1 (37 + 5 * j + 1)) :: st) σ) : J K (wX g) nL Q (pc) lv (.ref (g.1 (37 + 5 * j)) :: st) σ := by
  obtain ⟨p, l, e, R, s, m, args, below, meth, c, D, A, ce, sl⟩ := K
  obtain ⟨hx, hb, hml, hown, hts, hK, hA, hSF, ⟨hR1, hR2, hR3, hR4⟩, hr, hlk⟩ := hC
  rcases (show j = 0 ∨ j = 1 ∨ j = 2 ∨ j = 3 ∨ j = 4 ∨ j = 5 ∨ j = 6 by omega) with rfl | rfl | rfl | rfl | rfl | rfl | rfl
  · exact fun H locs ls hl hP hD hS => va_get (D := D) (ci := 0) (C := RX0) (T := TX0) (N := 7) hx hb hts uwX0 hown hK hP 37 rfl rfl 2 (by decide) (hts _ mf_X6_144) (fun _ h9 => h9) rfl hd (k H locs ls hl hP hD hS)
  · exact fun H locs ls hl hP hD hS => va_get (D := D) (ci := 0) (C := RX0) (T := TX0) (N := 7) hx hb hts uwX0 hown hK hP 42 rfl rfl 2 (by decide) (hts _ mf_X6_144) (fun _ h9 => h9) rfl hd (k H locs ls hl hP hD hS)
  · exact fun H locs ls hl hP hD hS => va_get (D := D) (ci := 0) (C := RX0) (T := TX0) (N := 7) hx hb hts uwX0 hown hK hP 47 rfl rfl 2 (by decide) (hts _ mf_X6_144) (fun _ h9 => h9) rfl hd (k H locs ls hl hP hD hS)
  · exact fun H locs ls hl hP hD hS => va_get (D := D) (ci := 0) (C := RX0) (T := TX0) (N := 7) hx hb hts uwX0 hown hK hP 52 rfl rfl 2 (by decide) (hts _ mf_X6_144) (fun _ h9 => h9) rfl hd (k H locs ls hl hP hD hS)
  · exact fun H locs ls hl hP hD hS => va_get (D := D) (ci := 0) (C := RX0) (T := TX0) (N := 7) hx hb hts uwX0 hown hK hP 57 rfl rfl 2 (by decide) (hts _ mf_X6_144) (fun _ h9 => h9) rfl hd (k H locs ls hl hP hD hS)
  · exact fun H locs ls hl hP hD hS => va_get (D := D) (ci := 0) (C := RX0) (T := TX0) (N := 7) hx hb hts uwX0 hown hK hP 62 rfl rfl 2 (by decide) (hts _ mf_X6_144) (fun _ h9 => h9) rfl hd (k H locs ls hl hP hD hS)
  · exact fun H locs ls hl hP hD hS => va_get (D := D) (ci := 0) (C := RX0) (T := TX0) (N := 7) hx hb hts uwX0 hown hK hP 67 rfl rfl 2 (by decide) (hts _ mf_X6_144) (fun _ h9 => h9) rfl hd (k H locs ls hl hP hD hS)
theorem mf_X6_150 : Cond.fieldLink RX6 150 "SongHour$Songs" "played" "[I" ∈ GW := memT (i := 164) (by decide +kernel) rfl
theorem get_X6_150 {K : Kx} {cc : ByteArray} {g : Gm} {nL d : Nat} {ret : Option FieldType} {Q : State → Prop} {pc : Nat} {lv : List (Nat × Value)} {st : List Value} {σ : St} (hC : Ok K cc RX6 g nL d ret) (hd : decode cc pc = .ok (.getfield 150, 3)) (k : J K (wX g) nL Q (pc + 3) lv (.ref (g.1 16) :: st) σ) : J K (wX g) nL Q (pc) lv (.ref (g.1 8) :: st) σ := by
  obtain ⟨p, l, e, R, s, m, args, below, meth, c, D, A, ce, sl⟩ := K
  obtain ⟨hx, hb, hml, hown, hts, hK, hA, hSF, ⟨hR1, hR2, hR3, hR4⟩, hr, hlk⟩ := hC
  exact fun H locs ls hl hP hD hS => va_get (D := D) (ci := 4) (v := .ref (g.1 16)) (C := RX4) (T := TX4) (N := 14) hx hb hts uwX4 hown hK hP 8 rfl rfl 8 (by decide) (hts _ mf_X6_150) (fun _ h9 => h9) rfl hd (k H locs ls hl hP hD hS)
theorem mf_X6_153 : Cond.fieldLink RX6 153 "SongHour$Songs" "began" "[I" ∈ GW := memT (i := 167) (by decide +kernel) rfl
theorem get_X6_153 {K : Kx} {cc : ByteArray} {g : Gm} {nL d : Nat} {ret : Option FieldType} {Q : State → Prop} {pc : Nat} {lv : List (Nat × Value)} {st : List Value} {σ : St} (hC : Ok K cc RX6 g nL d ret) (hd : decode cc pc = .ok (.getfield 153, 3)) (k : J K (wX g) nL Q (pc + 3) lv (.ref (g.1 17) :: st) σ) : J K (wX g) nL Q (pc) lv (.ref (g.1 8) :: st) σ := by
  obtain ⟨p, l, e, R, s, m, args, below, meth, c, D, A, ce, sl⟩ := K
  obtain ⟨hx, hb, hml, hown, hts, hK, hA, hSF, ⟨hR1, hR2, hR3, hR4⟩, hr, hlk⟩ := hC
  exact fun H locs ls hl hP hD hS => va_get (D := D) (ci := 4) (v := .ref (g.1 17)) (C := RX4) (T := TX4) (N := 14) hx hb hts uwX4 hown hK hP 8 rfl rfl 9 (by decide) (hts _ mf_X6_153) (fun _ h9 => h9) rfl hd (k H locs ls hl hP hD hS)
theorem mf_X6_156 : Cond.fieldLink RX6 156 "SongHour$Songs" "asksDone" "[I" ∈ GW := memT (i := 162) (by decide +kernel) rfl
theorem get_X6_156 {K : Kx} {cc : ByteArray} {g : Gm} {nL d : Nat} {ret : Option FieldType} {Q : State → Prop} {pc : Nat} {lv : List (Nat × Value)} {st : List Value} {σ : St} (hC : Ok K cc RX6 g nL d ret) (hd : decode cc pc = .ok (.getfield 156, 3)) (k : J K (wX g) nL Q (pc + 3) lv (.ref (g.1 15) :: st) σ) : J K (wX g) nL Q (pc) lv (.ref (g.1 8) :: st) σ := by
  obtain ⟨p, l, e, R, s, m, args, below, meth, c, D, A, ce, sl⟩ := K
  obtain ⟨hx, hb, hml, hown, hts, hK, hA, hSF, ⟨hR1, hR2, hR3, hR4⟩, hr, hlk⟩ := hC
  exact fun H locs ls hl hP hD hS => va_get (D := D) (ci := 4) (v := .ref (g.1 15)) (C := RX4) (T := TX4) (N := 14) hx hb hts uwX4 hown hK hP 8 rfl rfl 7 (by decide) (hts _ mf_X6_156) (fun _ h9 => h9) rfl hd (k H locs ls hl hP hD hS)
theorem mf_X6_159 : Cond.fieldLink RX6 159 "SongHour$Log" "plays" "I" ∈ GW := memT (i := 211) (by decide +kernel) rfl
theorem get_X6_159 {K : Kx} {cc : ByteArray} {g : Gm} {nL d : Nat} {ret : Option FieldType} {Q : State → Prop} {pc : Nat} {lv : List (Nat × Value)} {st : List Value} {σ : St} (hC : Ok K cc RX6 g nL d ret) (hd : decode cc pc = .ok (.getfield 159, 3)) (k : J K (wX g) nL Q (pc + 3) lv (.int (gi σ 11) :: st) σ) : J K (wX g) nL Q (pc) lv (.ref (g.1 22) :: st) σ := by
  obtain ⟨p, l, e, R, s, m, args, below, meth, c, D, A, ce, sl⟩ := K
  obtain ⟨hx, hb, hml, hown, hts, hK, hA, hSF, ⟨hR1, hR2, hR3, hR4⟩, hr, hlk⟩ := hC
  exact fun H locs ls hl hP hD hS => va_get (D := D) (ci := 1) (v := .int (gi σ 11)) (C := RX1) (T := TX1) (N := 10) hx hb hts uwX1 hown hK hP 22 rfl rfl 1 (by decide) (hts _ mf_X6_159) (fun _ h9 => h9) rfl hd (k H locs ls hl hP hD hS)
theorem put_X6_159 {K : Kx} {cc : ByteArray} {g : Gm} {nL d : Nat} {ret : Option FieldType} {Q : State → Prop} {pc : Nat} {lv : List (Nat × Value)} {st : List Value} {σ : St} (hC : Ok K cc RX6 g nL d ret) {v : Int32} {ρ : Type} {o : ρ} {f : St → Option ρ} (hd : decode cc pc = .ok (.putfield 159, 3)) (h : bnd (si σ 11 v) f = some o) (k : ∀ σ2, f σ2 = some o → J K (wX g) nL Q (pc + 3) lv (st) σ2) : J K (wX g) nL Q (pc) lv (.int v :: .ref (g.1 22) :: st) σ := by
  obtain ⟨p, l, e, R, s, m, args, below, meth, c, D, A, ce, sl⟩ := K
  obtain ⟨hx, hb, hml, hown, hts, hK, hA, hSF, ⟨hR1, hR2, hR3, hR4⟩, hr, hlk⟩ := hC
  exact fun H locs ls hl hP hD hS => va_put (D := D) (ci := 1) (v := .int v) (ty := .int) (C := RX1) (T := TX1) (N := 10) hx hb hts uwX1 tyX1 tyX1_ok nmX1 hown hK hP hD hS 22 rfl rfl 1 (by decide) (hts _ mf_X6_159) (fun _ h9 => h9) rfl (by decide +kernel) rfl rfl (Nat.le_of_ble_eq_true rfl) hd (fun H locs hP hD hS => k _ h H locs ls hl hP hD hS)
theorem mf_X6_167 : Cond.fieldLink RX6 167 "SongHour$Log" "playSong" "[I" ∈ GW := memT (i := 221) (by decide +kernel) rfl
theorem get_X6_167 {K : Kx} {cc : ByteArray} {g : Gm} {nL d : Nat} {ret : Option FieldType} {Q : State → Prop} {pc : Nat} {lv : List (Nat × Value)} {st : List Value} {σ : St} (hC : Ok K cc RX6 g nL d ret) (hd : decode cc pc = .ok (.getfield 167, 3)) (k : J K (wX g) nL Q (pc + 3) lv (.ref (g.1 25) :: st) σ) : J K (wX g) nL Q (pc) lv (.ref (g.1 22) :: st) σ := by
  obtain ⟨p, l, e, R, s, m, args, below, meth, c, D, A, ce, sl⟩ := K
  obtain ⟨hx, hb, hml, hown, hts, hK, hA, hSF, ⟨hR1, hR2, hR3, hR4⟩, hr, hlk⟩ := hC
  exact fun H locs ls hl hP hD hS => va_get (D := D) (ci := 1) (v := .ref (g.1 25)) (C := RX1) (T := TX1) (N := 10) hx hb hts uwX1 hown hK hP 22 rfl rfl 6 (by decide) (hts _ mf_X6_167) (fun _ h9 => h9) rfl hd (k H locs ls hl hP hD hS)
theorem mf_X6_170 : Cond.fieldLink RX6 170 "SongHour$Log" "playBegan" "[I" ∈ GW := memT (i := 223) (by decide +kernel) rfl
theorem get_X6_170 {K : Kx} {cc : ByteArray} {g : Gm} {nL d : Nat} {ret : Option FieldType} {Q : State → Prop} {pc : Nat} {lv : List (Nat × Value)} {st : List Value} {σ : St} (hC : Ok K cc RX6 g nL d ret) (hd : decode cc pc = .ok (.getfield 170, 3)) (k : J K (wX g) nL Q (pc + 3) lv (.ref (g.1 26) :: st) σ) : J K (wX g) nL Q (pc) lv (.ref (g.1 22) :: st) σ := by
  obtain ⟨p, l, e, R, s, m, args, below, meth, c, D, A, ce, sl⟩ := K
  obtain ⟨hx, hb, hml, hown, hts, hK, hA, hSF, ⟨hR1, hR2, hR3, hR4⟩, hr, hlk⟩ := hC
  exact fun H locs ls hl hP hD hS => va_get (D := D) (ci := 1) (v := .ref (g.1 26)) (C := RX1) (T := TX1) (N := 10) hx hb hts uwX1 hown hK hP 22 rfl rfl 7 (by decide) (hts _ mf_X6_170) (fun _ h9 => h9) rfl hd (k H locs ls hl hP hD hS)
theorem mf_X6_173 : Cond.fieldLink RX6 173 "SongHour$Log" "playHour" "[I" ∈ GW := memT (i := 225) (by decide +kernel) rfl
theorem get_X6_173 {K : Kx} {cc : ByteArray} {g : Gm} {nL d : Nat} {ret : Option FieldType} {Q : State → Prop} {pc : Nat} {lv : List (Nat × Value)} {st : List Value} {σ : St} (hC : Ok K cc RX6 g nL d ret) (hd : decode cc pc = .ok (.getfield 173, 3)) (k : J K (wX g) nL Q (pc + 3) lv (.ref (g.1 27) :: st) σ) : J K (wX g) nL Q (pc) lv (.ref (g.1 22) :: st) σ := by
  obtain ⟨p, l, e, R, s, m, args, below, meth, c, D, A, ce, sl⟩ := K
  obtain ⟨hx, hb, hml, hown, hts, hK, hA, hSF, ⟨hR1, hR2, hR3, hR4⟩, hr, hlk⟩ := hC
  exact fun H locs ls hl hP hD hS => va_get (D := D) (ci := 1) (v := .ref (g.1 27)) (C := RX1) (T := TX1) (N := 10) hx hb hts uwX1 hown hK hP 22 rfl rfl 8 (by decide) (hts _ mf_X6_173) (fun _ h9 => h9) rfl hd (k H locs ls hl hP hD hS)
theorem mf_X6_176 : Cond.fieldLink RX6 176 "SongHour$Log" "playItem" "[I" ∈ GW := memT (i := 227) (by decide +kernel) rfl
theorem get_X6_176 {K : Kx} {cc : ByteArray} {g : Gm} {nL d : Nat} {ret : Option FieldType} {Q : State → Prop} {pc : Nat} {lv : List (Nat × Value)} {st : List Value} {σ : St} (hC : Ok K cc RX6 g nL d ret) (hd : decode cc pc = .ok (.getfield 176, 3)) (k : J K (wX g) nL Q (pc + 3) lv (.ref (g.1 28) :: st) σ) : J K (wX g) nL Q (pc) lv (.ref (g.1 22) :: st) σ := by
  obtain ⟨p, l, e, R, s, m, args, below, meth, c, D, A, ce, sl⟩ := K
  obtain ⟨hx, hb, hml, hown, hts, hK, hA, hSF, ⟨hR1, hR2, hR3, hR4⟩, hr, hlk⟩ := hC
  exact fun H locs ls hl hP hD hS => va_get (D := D) (ci := 1) (v := .ref (g.1 28)) (C := RX1) (T := TX1) (N := 10) hx hb hts uwX1 hown hK hP 22 rfl rfl 9 (by decide) (hts _ mf_X6_176) (fun _ h9 => h9) rfl hd (k H locs ls hl hP hD hS)
theorem mf_X6_179 : Cond.fieldLink RX6 179 "SongHour$Log" "hourItems" "[I" ∈ GW := memT (i := 217) (by decide +kernel) rfl
theorem get_X6_179 {K : Kx} {cc : ByteArray} {g : Gm} {nL d : Nat} {ret : Option FieldType} {Q : State → Prop} {pc : Nat} {lv : List (Nat × Value)} {st : List Value} {σ : St} (hC : Ok K cc RX6 g nL d ret) (hd : decode cc pc = .ok (.getfield 179, 3)) (k : J K (wX g) nL Q (pc + 3) lv (.ref (g.1 23) :: st) σ) : J K (wX g) nL Q (pc) lv (.ref (g.1 22) :: st) σ := by
  obtain ⟨p, l, e, R, s, m, args, below, meth, c, D, A, ce, sl⟩ := K
  obtain ⟨hx, hb, hml, hown, hts, hK, hA, hSF, ⟨hR1, hR2, hR3, hR4⟩, hr, hlk⟩ := hC
  exact fun H locs ls hl hP hD hS => va_get (D := D) (ci := 1) (v := .ref (g.1 23)) (C := RX1) (T := TX1) (N := 10) hx hb hts uwX1 hown hK hP 22 rfl rfl 4 (by decide) (hts _ mf_X6_179) (fun _ h9 => h9) rfl hd (k H locs ls hl hP hD hS)
theorem mf_X6_184 : Cond.fieldLink RX6 184 "SongHour$Log" "itemLeft" "[I" ∈ GW := memT (i := 219) (by decide +kernel) rfl
theorem get_X6_184 {K : Kx} {cc : ByteArray} {g : Gm} {nL d : Nat} {ret : Option FieldType} {Q : State → Prop} {pc : Nat} {lv : List (Nat × Value)} {st : List Value} {σ : St} (hC : Ok K cc RX6 g nL d ret) (hd : decode cc pc = .ok (.getfield 184, 3)) (k : J K (wX g) nL Q (pc + 3) lv (.ref (g.1 24) :: st) σ) : J K (wX g) nL Q (pc) lv (.ref (g.1 22) :: st) σ := by
  obtain ⟨p, l, e, R, s, m, args, below, meth, c, D, A, ce, sl⟩ := K
  obtain ⟨hx, hb, hml, hown, hts, hK, hA, hSF, ⟨hR1, hR2, hR3, hR4⟩, hr, hlk⟩ := hC
  exact fun H locs ls hl hP hD hS => va_get (D := D) (ci := 1) (v := .ref (g.1 24)) (C := RX1) (T := TX1) (N := 10) hx hb hts uwX1 hown hK hP 22 rfl rfl 5 (by decide) (hts _ mf_X6_184) (fun _ h9 => h9) rfl hd (k H locs ls hl hP hD hS)
theorem mf_X6_190 : Cond.fieldLink RX6 190 "SongHour$Songs" "artist" "[I" ∈ GW := memT (i := 151) (by decide +kernel) rfl
theorem get_X6_190 {K : Kx} {cc : ByteArray} {g : Gm} {nL d : Nat} {ret : Option FieldType} {Q : State → Prop} {pc : Nat} {lv : List (Nat × Value)} {st : List Value} {σ : St} (hC : Ok K cc RX6 g nL d ret) (hd : decode cc pc = .ok (.getfield 190, 3)) (k : J K (wX g) nL Q (pc + 3) lv (.ref (g.1 10) :: st) σ) : J K (wX g) nL Q (pc) lv (.ref (g.1 8) :: st) σ := by
  obtain ⟨p, l, e, R, s, m, args, below, meth, c, D, A, ce, sl⟩ := K
  obtain ⟨hx, hb, hml, hown, hts, hK, hA, hSF, ⟨hR1, hR2, hR3, hR4⟩, hr, hlk⟩ := hC
  exact fun H locs ls hl hP hD hS => va_get (D := D) (ci := 4) (v := .ref (g.1 10)) (C := RX4) (T := TX4) (N := 14) hx hb hts uwX4 hown hK hP 8 rfl rfl 2 (by decide) (hts _ mf_X6_190) (fun _ h9 => h9) rfl hd (k H locs ls hl hP hD hS)
theorem mf_X6_197 : Cond.fieldLink RX6 197 "SongHour$Log" "emptyStretches" "I" ∈ GW := memT (i := 213) (by decide +kernel) rfl
theorem get_X6_197 {K : Kx} {cc : ByteArray} {g : Gm} {nL d : Nat} {ret : Option FieldType} {Q : State → Prop} {pc : Nat} {lv : List (Nat × Value)} {st : List Value} {σ : St} (hC : Ok K cc RX6 g nL d ret) (hd : decode cc pc = .ok (.getfield 197, 3)) (k : J K (wX g) nL Q (pc + 3) lv (.int (gi σ 12) :: st) σ) : J K (wX g) nL Q (pc) lv (.ref (g.1 22) :: st) σ := by
  obtain ⟨p, l, e, R, s, m, args, below, meth, c, D, A, ce, sl⟩ := K
  obtain ⟨hx, hb, hml, hown, hts, hK, hA, hSF, ⟨hR1, hR2, hR3, hR4⟩, hr, hlk⟩ := hC
  exact fun H locs ls hl hP hD hS => va_get (D := D) (ci := 1) (v := .int (gi σ 12)) (C := RX1) (T := TX1) (N := 10) hx hb hts uwX1 hown hK hP 22 rfl rfl 2 (by decide) (hts _ mf_X6_197) (fun _ h9 => h9) rfl hd (k H locs ls hl hP hD hS)
theorem put_X6_197 {K : Kx} {cc : ByteArray} {g : Gm} {nL d : Nat} {ret : Option FieldType} {Q : State → Prop} {pc : Nat} {lv : List (Nat × Value)} {st : List Value} {σ : St} (hC : Ok K cc RX6 g nL d ret) {v : Int32} {ρ : Type} {o : ρ} {f : St → Option ρ} (hd : decode cc pc = .ok (.putfield 197, 3)) (h : bnd (si σ 12 v) f = some o) (k : ∀ σ2, f σ2 = some o → J K (wX g) nL Q (pc + 3) lv (st) σ2) : J K (wX g) nL Q (pc) lv (.int v :: .ref (g.1 22) :: st) σ := by
  obtain ⟨p, l, e, R, s, m, args, below, meth, c, D, A, ce, sl⟩ := K
  obtain ⟨hx, hb, hml, hown, hts, hK, hA, hSF, ⟨hR1, hR2, hR3, hR4⟩, hr, hlk⟩ := hC
  exact fun H locs ls hl hP hD hS => va_put (D := D) (ci := 1) (v := .int v) (ty := .int) (C := RX1) (T := TX1) (N := 10) hx hb hts uwX1 tyX1 tyX1_ok nmX1 hown hK hP hD hS 22 rfl rfl 2 (by decide) (hts _ mf_X6_197) (fun _ h9 => h9) rfl (by decide +kernel) rfl rfl (Nat.le_of_ble_eq_true rfl) hd (fun H locs hP hD hS => k _ h H locs ls hl hP hD hS)
theorem mf_X6_200 : Cond.fieldLink RX6 200 "SongHour$Log" "secondsLeft" "I" ∈ GW := memT (i := 215) (by decide +kernel) rfl
theorem get_X6_200 {K : Kx} {cc : ByteArray} {g : Gm} {nL d : Nat} {ret : Option FieldType} {Q : State → Prop} {pc : Nat} {lv : List (Nat × Value)} {st : List Value} {σ : St} (hC : Ok K cc RX6 g nL d ret) (hd : decode cc pc = .ok (.getfield 200, 3)) (k : J K (wX g) nL Q (pc + 3) lv (.int (gi σ 13) :: st) σ) : J K (wX g) nL Q (pc) lv (.ref (g.1 22) :: st) σ := by
  obtain ⟨p, l, e, R, s, m, args, below, meth, c, D, A, ce, sl⟩ := K
  obtain ⟨hx, hb, hml, hown, hts, hK, hA, hSF, ⟨hR1, hR2, hR3, hR4⟩, hr, hlk⟩ := hC
  exact fun H locs ls hl hP hD hS => va_get (D := D) (ci := 1) (v := .int (gi σ 13)) (C := RX1) (T := TX1) (N := 10) hx hb hts uwX1 hown hK hP 22 rfl rfl 3 (by decide) (hts _ mf_X6_200) (fun _ h9 => h9) rfl hd (k H locs ls hl hP hD hS)
theorem put_X6_200 {K : Kx} {cc : ByteArray} {g : Gm} {nL d : Nat} {ret : Option FieldType} {Q : State → Prop} {pc : Nat} {lv : List (Nat × Value)} {st : List Value} {σ : St} (hC : Ok K cc RX6 g nL d ret) {v : Int32} {ρ : Type} {o : ρ} {f : St → Option ρ} (hd : decode cc pc = .ok (.putfield 200, 3)) (h : bnd (si σ 13 v) f = some o) (k : ∀ σ2, f σ2 = some o → J K (wX g) nL Q (pc + 3) lv (st) σ2) : J K (wX g) nL Q (pc) lv (.int v :: .ref (g.1 22) :: st) σ := by
  obtain ⟨p, l, e, R, s, m, args, below, meth, c, D, A, ce, sl⟩ := K
  obtain ⟨hx, hb, hml, hown, hts, hK, hA, hSF, ⟨hR1, hR2, hR3, hR4⟩, hr, hlk⟩ := hC
  exact fun H locs ls hl hP hD hS => va_put (D := D) (ci := 1) (v := .int v) (ty := .int) (C := RX1) (T := TX1) (N := 10) hx hb hts uwX1 tyX1 tyX1_ok nmX1 hown hK hP hD hS 22 rfl rfl 3 (by decide) (hts _ mf_X6_200) (fun _ h9 => h9) rfl (by decide +kernel) rfl rfl (Nat.le_of_ble_eq_true rfl) hd (fun H locs hP hD hS => k _ h H locs ls hl hP hD hS)
theorem mf_X6_207 : Cond.fieldLink RX6 207 "SongHour$Clock" "mood" "[I" ∈ GW := memT (i := 114) (by decide +kernel) rfl
theorem get_X6_207 {K : Kx} {cc : ByteArray} {g : Gm} {nL d : Nat} {ret : Option FieldType} {Q : State → Prop} {pc : Nat} {lv : List (Nat × Value)} {st : List Value} {σ : St} (hC : Ok K cc RX6 g nL d ret) (j : Nat) (hj : j < 7) (hd : decode cc pc = .ok (.getfield 207, 3)) (k : J K (wX g) nL Q (pc + 3) lv (.ref (g.1 (37 + 5 * j + 2)) :: st) σ) : J K (wX g) nL Q (pc) lv (.ref (g.1 (37 + 5 * j)) :: st) σ := by
  obtain ⟨p, l, e, R, s, m, args, below, meth, c, D, A, ce, sl⟩ := K
  obtain ⟨hx, hb, hml, hown, hts, hK, hA, hSF, ⟨hR1, hR2, hR3, hR4⟩, hr, hlk⟩ := hC
  rcases (show j = 0 ∨ j = 1 ∨ j = 2 ∨ j = 3 ∨ j = 4 ∨ j = 5 ∨ j = 6 by omega) with rfl | rfl | rfl | rfl | rfl | rfl | rfl
  · exact fun H locs ls hl hP hD hS => va_get (D := D) (ci := 0) (C := RX0) (T := TX0) (N := 7) hx hb hts uwX0 hown hK hP 37 rfl rfl 3 (by decide) (hts _ mf_X6_207) (fun _ h9 => h9) rfl hd (k H locs ls hl hP hD hS)
  · exact fun H locs ls hl hP hD hS => va_get (D := D) (ci := 0) (C := RX0) (T := TX0) (N := 7) hx hb hts uwX0 hown hK hP 42 rfl rfl 3 (by decide) (hts _ mf_X6_207) (fun _ h9 => h9) rfl hd (k H locs ls hl hP hD hS)
  · exact fun H locs ls hl hP hD hS => va_get (D := D) (ci := 0) (C := RX0) (T := TX0) (N := 7) hx hb hts uwX0 hown hK hP 47 rfl rfl 3 (by decide) (hts _ mf_X6_207) (fun _ h9 => h9) rfl hd (k H locs ls hl hP hD hS)
  · exact fun H locs ls hl hP hD hS => va_get (D := D) (ci := 0) (C := RX0) (T := TX0) (N := 7) hx hb hts uwX0 hown hK hP 52 rfl rfl 3 (by decide) (hts _ mf_X6_207) (fun _ h9 => h9) rfl hd (k H locs ls hl hP hD hS)
  · exact fun H locs ls hl hP hD hS => va_get (D := D) (ci := 0) (C := RX0) (T := TX0) (N := 7) hx hb hts uwX0 hown hK hP 57 rfl rfl 3 (by decide) (hts _ mf_X6_207) (fun _ h9 => h9) rfl hd (k H locs ls hl hP hD hS)
  · exact fun H locs ls hl hP hD hS => va_get (D := D) (ci := 0) (C := RX0) (T := TX0) (N := 7) hx hb hts uwX0 hown hK hP 62 rfl rfl 3 (by decide) (hts _ mf_X6_207) (fun _ h9 => h9) rfl hd (k H locs ls hl hP hD hS)
  · exact fun H locs ls hl hP hD hS => va_get (D := D) (ci := 0) (C := RX0) (T := TX0) (N := 7) hx hb hts uwX0 hown hK hP 67 rfl rfl 3 (by decide) (hts _ mf_X6_207) (fun _ h9 => h9) rfl hd (k H locs ls hl hP hD hS)
theorem mf_X6_210 : Cond.fieldLink RX6 210 "SongHour$Clock" "wantedNew" "[I" ∈ GW := memT (i := 116) (by decide +kernel) rfl
theorem get_X6_210 {K : Kx} {cc : ByteArray} {g : Gm} {nL d : Nat} {ret : Option FieldType} {Q : State → Prop} {pc : Nat} {lv : List (Nat × Value)} {st : List Value} {σ : St} (hC : Ok K cc RX6 g nL d ret) (j : Nat) (hj : j < 7) (hd : decode cc pc = .ok (.getfield 210, 3)) (k : J K (wX g) nL Q (pc + 3) lv (.ref (g.1 (37 + 5 * j + 3)) :: st) σ) : J K (wX g) nL Q (pc) lv (.ref (g.1 (37 + 5 * j)) :: st) σ := by
  obtain ⟨p, l, e, R, s, m, args, below, meth, c, D, A, ce, sl⟩ := K
  obtain ⟨hx, hb, hml, hown, hts, hK, hA, hSF, ⟨hR1, hR2, hR3, hR4⟩, hr, hlk⟩ := hC
  rcases (show j = 0 ∨ j = 1 ∨ j = 2 ∨ j = 3 ∨ j = 4 ∨ j = 5 ∨ j = 6 by omega) with rfl | rfl | rfl | rfl | rfl | rfl | rfl
  · exact fun H locs ls hl hP hD hS => va_get (D := D) (ci := 0) (C := RX0) (T := TX0) (N := 7) hx hb hts uwX0 hown hK hP 37 rfl rfl 4 (by decide) (hts _ mf_X6_210) (fun _ h9 => h9) rfl hd (k H locs ls hl hP hD hS)
  · exact fun H locs ls hl hP hD hS => va_get (D := D) (ci := 0) (C := RX0) (T := TX0) (N := 7) hx hb hts uwX0 hown hK hP 42 rfl rfl 4 (by decide) (hts _ mf_X6_210) (fun _ h9 => h9) rfl hd (k H locs ls hl hP hD hS)
  · exact fun H locs ls hl hP hD hS => va_get (D := D) (ci := 0) (C := RX0) (T := TX0) (N := 7) hx hb hts uwX0 hown hK hP 47 rfl rfl 4 (by decide) (hts _ mf_X6_210) (fun _ h9 => h9) rfl hd (k H locs ls hl hP hD hS)
  · exact fun H locs ls hl hP hD hS => va_get (D := D) (ci := 0) (C := RX0) (T := TX0) (N := 7) hx hb hts uwX0 hown hK hP 52 rfl rfl 4 (by decide) (hts _ mf_X6_210) (fun _ h9 => h9) rfl hd (k H locs ls hl hP hD hS)
  · exact fun H locs ls hl hP hD hS => va_get (D := D) (ci := 0) (C := RX0) (T := TX0) (N := 7) hx hb hts uwX0 hown hK hP 57 rfl rfl 4 (by decide) (hts _ mf_X6_210) (fun _ h9 => h9) rfl hd (k H locs ls hl hP hD hS)
  · exact fun H locs ls hl hP hD hS => va_get (D := D) (ci := 0) (C := RX0) (T := TX0) (N := 7) hx hb hts uwX0 hown hK hP 62 rfl rfl 4 (by decide) (hts _ mf_X6_210) (fun _ h9 => h9) rfl hd (k H locs ls hl hP hD hS)
  · exact fun H locs ls hl hP hD hS => va_get (D := D) (ci := 0) (C := RX0) (T := TX0) (N := 7) hx hb hts uwX0 hown hK hP 67 rfl rfl 4 (by decide) (hts _ mf_X6_210) (fun _ h9 => h9) rfl hd (k H locs ls hl hP hD hS)
theorem mf_X6_224 : Cond.fieldLink RX6 224 "SongHour$RowSearch" "bestSize" "I" ∈ GW := memT (i := 258) (by decide +kernel) rfl
theorem get_X6_224 {K : Kx} {cc : ByteArray} {g : Gm} {nL d : Nat} {ret : Option FieldType} {Q : State → Prop} {pc : Nat} {lv : List (Nat × Value)} {st : List Value} {σ : St} (hC : Ok K cc RX6 g nL d ret) (hd : decode cc pc = .ok (.getfield 224, 3)) (k : J K (wX g) nL Q (pc + 3) lv (.int (gi σ 14) :: st) σ) : J K (wX g) nL Q (pc) lv (.ref (g.1 29) :: st) σ := by
  obtain ⟨p, l, e, R, s, m, args, below, meth, c, D, A, ce, sl⟩ := K
  obtain ⟨hx, hb, hml, hown, hts, hK, hA, hSF, ⟨hR1, hR2, hR3, hR4⟩, hr, hlk⟩ := hC
  exact fun H locs ls hl hP hD hS => va_get (D := D) (ci := 2) (v := .int (gi σ 14)) (C := RX2) (T := TX2) (N := 20) hx hb hts uwX2 hown hK hP 29 rfl rfl 1 (by decide) (hts _ mf_X6_224) (fun _ h9 => h9) rfl hd (k H locs ls hl hP hD hS)
theorem put_X6_224 {K : Kx} {cc : ByteArray} {g : Gm} {nL d : Nat} {ret : Option FieldType} {Q : State → Prop} {pc : Nat} {lv : List (Nat × Value)} {st : List Value} {σ : St} (hC : Ok K cc RX6 g nL d ret) {v : Int32} {ρ : Type} {o : ρ} {f : St → Option ρ} (hd : decode cc pc = .ok (.putfield 224, 3)) (h : bnd (si σ 14 v) f = some o) (k : ∀ σ2, f σ2 = some o → J K (wX g) nL Q (pc + 3) lv (st) σ2) : J K (wX g) nL Q (pc) lv (.int v :: .ref (g.1 29) :: st) σ := by
  obtain ⟨p, l, e, R, s, m, args, below, meth, c, D, A, ce, sl⟩ := K
  obtain ⟨hx, hb, hml, hown, hts, hK, hA, hSF, ⟨hR1, hR2, hR3, hR4⟩, hr, hlk⟩ := hC
  exact fun H locs ls hl hP hD hS => va_put (D := D) (ci := 2) (v := .int v) (ty := .int) (C := RX2) (T := TX2) (N := 20) hx hb hts uwX2 tyX2 tyX2_ok nmX2 hown hK hP hD hS 29 rfl rfl 1 (by decide) (hts _ mf_X6_224) (fun _ h9 => h9) rfl (by decide +kernel) rfl rfl (Nat.le_of_ble_eq_true rfl) hd (fun H locs hP hD hS => k _ h H locs ls hl hP hD hS)
theorem mf_X6_227 : Cond.fieldLink RX6 227 "SongHour$RowSearch" "best" "[I" ∈ GW := memT (i := 256) (by decide +kernel) rfl
theorem get_X6_227 {K : Kx} {cc : ByteArray} {g : Gm} {nL d : Nat} {ret : Option FieldType} {Q : State → Prop} {pc : Nat} {lv : List (Nat × Value)} {st : List Value} {σ : St} (hC : Ok K cc RX6 g nL d ret) (hd : decode cc pc = .ok (.getfield 227, 3)) (k : J K (wX g) nL Q (pc + 3) lv (.ref (g.1 30) :: st) σ) : J K (wX g) nL Q (pc) lv (.ref (g.1 29) :: st) σ := by
  obtain ⟨p, l, e, R, s, m, args, below, meth, c, D, A, ce, sl⟩ := K
  obtain ⟨hx, hb, hml, hown, hts, hK, hA, hSF, ⟨hR1, hR2, hR3, hR4⟩, hr, hlk⟩ := hC
  exact fun H locs ls hl hP hD hS => va_get (D := D) (ci := 2) (v := .ref (g.1 30)) (C := RX2) (T := TX2) (N := 20) hx hb hts uwX2 hown hK hP 29 rfl rfl 0 (by decide) (hts _ mf_X6_227) (fun _ h9 => h9) rfl hd (k H locs ls hl hP hD hS)
theorem mf_X6_237 : Cond.fieldLink RX6 237 "SongHour$Songs" "seconds" "[I" ∈ GW := memT (i := 148) (by decide +kernel) rfl
theorem get_X6_237 {K : Kx} {cc : ByteArray} {g : Gm} {nL d : Nat} {ret : Option FieldType} {Q : State → Prop} {pc : Nat} {lv : List (Nat × Value)} {st : List Value} {σ : St} (hC : Ok K cc RX6 g nL d ret) (hd : decode cc pc = .ok (.getfield 237, 3)) (k : J K (wX g) nL Q (pc + 3) lv (.ref (g.1 9) :: st) σ) : J K (wX g) nL Q (pc) lv (.ref (g.1 8) :: st) σ := by
  obtain ⟨p, l, e, R, s, m, args, below, meth, c, D, A, ce, sl⟩ := K
  obtain ⟨hx, hb, hml, hown, hts, hK, hA, hSF, ⟨hR1, hR2, hR3, hR4⟩, hr, hlk⟩ := hC
  exact fun H locs ls hl hP hD hS => va_get (D := D) (ci := 4) (v := .ref (g.1 9)) (C := RX4) (T := TX4) (N := 14) hx hb hts uwX4 hown hK hP 8 rfl rfl 1 (by decide) (hts _ mf_X6_237) (fun _ h9 => h9) rfl hd (k H locs ls hl hP hD hS)
theorem mf_X6_242 : Cond.fieldLink RX6 242 "SongHour$Songs" "key" "[I" ∈ GW := memT (i := 154) (by decide +kernel) rfl
theorem get_X6_242 {K : Kx} {cc : ByteArray} {g : Gm} {nL d : Nat} {ret : Option FieldType} {Q : State → Prop} {pc : Nat} {lv : List (Nat × Value)} {st : List Value} {σ : St} (hC : Ok K cc RX6 g nL d ret) (hd : decode cc pc = .ok (.getfield 242, 3)) (k : J K (wX g) nL Q (pc + 3) lv (.ref (g.1 11) :: st) σ) : J K (wX g) nL Q (pc) lv (.ref (g.1 8) :: st) σ := by
  obtain ⟨p, l, e, R, s, m, args, below, meth, c, D, A, ce, sl⟩ := K
  obtain ⟨hx, hb, hml, hown, hts, hK, hA, hSF, ⟨hR1, hR2, hR3, hR4⟩, hr, hlk⟩ := hC
  exact fun H locs ls hl hP hD hS => va_get (D := D) (ci := 4) (v := .ref (g.1 11)) (C := RX4) (T := TX4) (N := 14) hx hb hts uwX4 hown hK hP 8 rfl rfl 3 (by decide) (hts _ mf_X6_242) (fun _ h9 => h9) rfl hd (k H locs ls hl hP hD hS)
theorem mf_X0_9 : Cond.fieldLink RX0 9 "SongHour$Clock" "seconds" "[I" ∈ GW := memT (i := 111) (by decide +kernel) rfl
theorem get_X0_9 {K : Kx} {cc : ByteArray} {g : Gm} {nL d : Nat} {ret : Option FieldType} {Q : State → Prop} {pc : Nat} {lv : List (Nat × Value)} {st : List Value} {σ : St} (hC : Ok K cc RX0 g nL d ret) (j : Nat) (hj : j < 7) (hd : decode cc pc = .ok (.getfield 9, 3)) (k : J K (wX g) nL Q (pc + 3) lv (.ref (g.1 (37 + 5 * j + 1)) :: st) σ) : J K (wX g) nL Q (pc) lv (.ref (g.1 (37 + 5 * j)) :: st) σ := by
  obtain ⟨p, l, e, R, s, m, args, below, meth, c, D, A, ce, sl⟩ := K
  obtain ⟨hx, hb, hml, hown, hts, hK, hA, hSF, ⟨hR1, hR2, hR3, hR4⟩, hr, hlk⟩ := hC
  rcases (show j = 0 ∨ j = 1 ∨ j = 2 ∨ j = 3 ∨ j = 4 ∨ j = 5 ∨ j = 6 by omega) with rfl | rfl | rfl | rfl | rfl | rfl | rfl
  · exact fun H locs ls hl hP hD hS => va_get (D := D) (ci := 0) (C := RX0) (T := TX0) (N := 7) hx hb hts uwX0 hown hK hP 37 rfl rfl 2 (by decide) (hts _ mf_X0_9) (fun _ h9 => h9) rfl hd (k H locs ls hl hP hD hS)
  · exact fun H locs ls hl hP hD hS => va_get (D := D) (ci := 0) (C := RX0) (T := TX0) (N := 7) hx hb hts uwX0 hown hK hP 42 rfl rfl 2 (by decide) (hts _ mf_X0_9) (fun _ h9 => h9) rfl hd (k H locs ls hl hP hD hS)
  · exact fun H locs ls hl hP hD hS => va_get (D := D) (ci := 0) (C := RX0) (T := TX0) (N := 7) hx hb hts uwX0 hown hK hP 47 rfl rfl 2 (by decide) (hts _ mf_X0_9) (fun _ h9 => h9) rfl hd (k H locs ls hl hP hD hS)
  · exact fun H locs ls hl hP hD hS => va_get (D := D) (ci := 0) (C := RX0) (T := TX0) (N := 7) hx hb hts uwX0 hown hK hP 52 rfl rfl 2 (by decide) (hts _ mf_X0_9) (fun _ h9 => h9) rfl hd (k H locs ls hl hP hD hS)
  · exact fun H locs ls hl hP hD hS => va_get (D := D) (ci := 0) (C := RX0) (T := TX0) (N := 7) hx hb hts uwX0 hown hK hP 57 rfl rfl 2 (by decide) (hts _ mf_X0_9) (fun _ h9 => h9) rfl hd (k H locs ls hl hP hD hS)
  · exact fun H locs ls hl hP hD hS => va_get (D := D) (ci := 0) (C := RX0) (T := TX0) (N := 7) hx hb hts uwX0 hown hK hP 62 rfl rfl 2 (by decide) (hts _ mf_X0_9) (fun _ h9 => h9) rfl hd (k H locs ls hl hP hD hS)
  · exact fun H locs ls hl hP hD hS => va_get (D := D) (ci := 0) (C := RX0) (T := TX0) (N := 7) hx hb hts uwX0 hown hK hP 67 rfl rfl 2 (by decide) (hts _ mf_X0_9) (fun _ h9 => h9) rfl hd (k H locs ls hl hP hD hS)
theorem mf_X0_15 : Cond.fieldLink RX0 15 "SongHour$Clock" "mood" "[I" ∈ GW := memT (i := 113) (by decide +kernel) rfl
theorem get_X0_15 {K : Kx} {cc : ByteArray} {g : Gm} {nL d : Nat} {ret : Option FieldType} {Q : State → Prop} {pc : Nat} {lv : List (Nat × Value)} {st : List Value} {σ : St} (hC : Ok K cc RX0 g nL d ret) (j : Nat) (hj : j < 7) (hd : decode cc pc = .ok (.getfield 15, 3)) (k : J K (wX g) nL Q (pc + 3) lv (.ref (g.1 (37 + 5 * j + 2)) :: st) σ) : J K (wX g) nL Q (pc) lv (.ref (g.1 (37 + 5 * j)) :: st) σ := by
  obtain ⟨p, l, e, R, s, m, args, below, meth, c, D, A, ce, sl⟩ := K
  obtain ⟨hx, hb, hml, hown, hts, hK, hA, hSF, ⟨hR1, hR2, hR3, hR4⟩, hr, hlk⟩ := hC
  rcases (show j = 0 ∨ j = 1 ∨ j = 2 ∨ j = 3 ∨ j = 4 ∨ j = 5 ∨ j = 6 by omega) with rfl | rfl | rfl | rfl | rfl | rfl | rfl
  · exact fun H locs ls hl hP hD hS => va_get (D := D) (ci := 0) (C := RX0) (T := TX0) (N := 7) hx hb hts uwX0 hown hK hP 37 rfl rfl 3 (by decide) (hts _ mf_X0_15) (fun _ h9 => h9) rfl hd (k H locs ls hl hP hD hS)
  · exact fun H locs ls hl hP hD hS => va_get (D := D) (ci := 0) (C := RX0) (T := TX0) (N := 7) hx hb hts uwX0 hown hK hP 42 rfl rfl 3 (by decide) (hts _ mf_X0_15) (fun _ h9 => h9) rfl hd (k H locs ls hl hP hD hS)
  · exact fun H locs ls hl hP hD hS => va_get (D := D) (ci := 0) (C := RX0) (T := TX0) (N := 7) hx hb hts uwX0 hown hK hP 47 rfl rfl 3 (by decide) (hts _ mf_X0_15) (fun _ h9 => h9) rfl hd (k H locs ls hl hP hD hS)
  · exact fun H locs ls hl hP hD hS => va_get (D := D) (ci := 0) (C := RX0) (T := TX0) (N := 7) hx hb hts uwX0 hown hK hP 52 rfl rfl 3 (by decide) (hts _ mf_X0_15) (fun _ h9 => h9) rfl hd (k H locs ls hl hP hD hS)
  · exact fun H locs ls hl hP hD hS => va_get (D := D) (ci := 0) (C := RX0) (T := TX0) (N := 7) hx hb hts uwX0 hown hK hP 57 rfl rfl 3 (by decide) (hts _ mf_X0_15) (fun _ h9 => h9) rfl hd (k H locs ls hl hP hD hS)
  · exact fun H locs ls hl hP hD hS => va_get (D := D) (ci := 0) (C := RX0) (T := TX0) (N := 7) hx hb hts uwX0 hown hK hP 62 rfl rfl 3 (by decide) (hts _ mf_X0_15) (fun _ h9 => h9) rfl hd (k H locs ls hl hP hD hS)
  · exact fun H locs ls hl hP hD hS => va_get (D := D) (ci := 0) (C := RX0) (T := TX0) (N := 7) hx hb hts uwX0 hown hK hP 67 rfl rfl 3 (by decide) (hts _ mf_X0_15) (fun _ h9 => h9) rfl hd (k H locs ls hl hP hD hS)
theorem mf_X0_18 : Cond.fieldLink RX0 18 "SongHour$Clock" "wantedNew" "[I" ∈ GW := memT (i := 115) (by decide +kernel) rfl
theorem get_X0_18 {K : Kx} {cc : ByteArray} {g : Gm} {nL d : Nat} {ret : Option FieldType} {Q : State → Prop} {pc : Nat} {lv : List (Nat × Value)} {st : List Value} {σ : St} (hC : Ok K cc RX0 g nL d ret) (j : Nat) (hj : j < 7) (hd : decode cc pc = .ok (.getfield 18, 3)) (k : J K (wX g) nL Q (pc + 3) lv (.ref (g.1 (37 + 5 * j + 3)) :: st) σ) : J K (wX g) nL Q (pc) lv (.ref (g.1 (37 + 5 * j)) :: st) σ := by
  obtain ⟨p, l, e, R, s, m, args, below, meth, c, D, A, ce, sl⟩ := K
  obtain ⟨hx, hb, hml, hown, hts, hK, hA, hSF, ⟨hR1, hR2, hR3, hR4⟩, hr, hlk⟩ := hC
  rcases (show j = 0 ∨ j = 1 ∨ j = 2 ∨ j = 3 ∨ j = 4 ∨ j = 5 ∨ j = 6 by omega) with rfl | rfl | rfl | rfl | rfl | rfl | rfl
  · exact fun H locs ls hl hP hD hS => va_get (D := D) (ci := 0) (C := RX0) (T := TX0) (N := 7) hx hb hts uwX0 hown hK hP 37 rfl rfl 4 (by decide) (hts _ mf_X0_18) (fun _ h9 => h9) rfl hd (k H locs ls hl hP hD hS)
  · exact fun H locs ls hl hP hD hS => va_get (D := D) (ci := 0) (C := RX0) (T := TX0) (N := 7) hx hb hts uwX0 hown hK hP 42 rfl rfl 4 (by decide) (hts _ mf_X0_18) (fun _ h9 => h9) rfl hd (k H locs ls hl hP hD hS)
  · exact fun H locs ls hl hP hD hS => va_get (D := D) (ci := 0) (C := RX0) (T := TX0) (N := 7) hx hb hts uwX0 hown hK hP 47 rfl rfl 4 (by decide) (hts _ mf_X0_18) (fun _ h9 => h9) rfl hd (k H locs ls hl hP hD hS)
  · exact fun H locs ls hl hP hD hS => va_get (D := D) (ci := 0) (C := RX0) (T := TX0) (N := 7) hx hb hts uwX0 hown hK hP 52 rfl rfl 4 (by decide) (hts _ mf_X0_18) (fun _ h9 => h9) rfl hd (k H locs ls hl hP hD hS)
  · exact fun H locs ls hl hP hD hS => va_get (D := D) (ci := 0) (C := RX0) (T := TX0) (N := 7) hx hb hts uwX0 hown hK hP 57 rfl rfl 4 (by decide) (hts _ mf_X0_18) (fun _ h9 => h9) rfl hd (k H locs ls hl hP hD hS)
  · exact fun H locs ls hl hP hD hS => va_get (D := D) (ci := 0) (C := RX0) (T := TX0) (N := 7) hx hb hts uwX0 hown hK hP 62 rfl rfl 4 (by decide) (hts _ mf_X0_18) (fun _ h9 => h9) rfl hd (k H locs ls hl hP hD hS)
  · exact fun H locs ls hl hP hD hS => va_get (D := D) (ci := 0) (C := RX0) (T := TX0) (N := 7) hx hb hts uwX0 hown hK hP 67 rfl rfl 4 (by decide) (hts _ mf_X0_18) (fun _ h9 => h9) rfl hd (k H locs ls hl hP hD hS)
theorem mf_X0_21 : Cond.fieldLink RX0 21 "SongHour$Clock" "hasSongs" "[Z" ∈ GW := memT (i := 117) (by decide +kernel) rfl
theorem get_X0_21 {K : Kx} {cc : ByteArray} {g : Gm} {nL d : Nat} {ret : Option FieldType} {Q : State → Prop} {pc : Nat} {lv : List (Nat × Value)} {st : List Value} {σ : St} (hC : Ok K cc RX0 g nL d ret) (j : Nat) (hj : j < 7) (hd : decode cc pc = .ok (.getfield 21, 3)) (k : J K (wX g) nL Q (pc + 3) lv (.ref (g.1 (37 + 5 * j + 4)) :: st) σ) : J K (wX g) nL Q (pc) lv (.ref (g.1 (37 + 5 * j)) :: st) σ := by
  obtain ⟨p, l, e, R, s, m, args, below, meth, c, D, A, ce, sl⟩ := K
  obtain ⟨hx, hb, hml, hown, hts, hK, hA, hSF, ⟨hR1, hR2, hR3, hR4⟩, hr, hlk⟩ := hC
  rcases (show j = 0 ∨ j = 1 ∨ j = 2 ∨ j = 3 ∨ j = 4 ∨ j = 5 ∨ j = 6 by omega) with rfl | rfl | rfl | rfl | rfl | rfl | rfl
  · exact fun H locs ls hl hP hD hS => va_get (D := D) (ci := 0) (C := RX0) (T := TX0) (N := 7) hx hb hts uwX0 hown hK hP 37 rfl rfl 5 (by decide) (hts _ mf_X0_21) (fun _ h9 => h9) rfl hd (k H locs ls hl hP hD hS)
  · exact fun H locs ls hl hP hD hS => va_get (D := D) (ci := 0) (C := RX0) (T := TX0) (N := 7) hx hb hts uwX0 hown hK hP 42 rfl rfl 5 (by decide) (hts _ mf_X0_21) (fun _ h9 => h9) rfl hd (k H locs ls hl hP hD hS)
  · exact fun H locs ls hl hP hD hS => va_get (D := D) (ci := 0) (C := RX0) (T := TX0) (N := 7) hx hb hts uwX0 hown hK hP 47 rfl rfl 5 (by decide) (hts _ mf_X0_21) (fun _ h9 => h9) rfl hd (k H locs ls hl hP hD hS)
  · exact fun H locs ls hl hP hD hS => va_get (D := D) (ci := 0) (C := RX0) (T := TX0) (N := 7) hx hb hts uwX0 hown hK hP 52 rfl rfl 5 (by decide) (hts _ mf_X0_21) (fun _ h9 => h9) rfl hd (k H locs ls hl hP hD hS)
  · exact fun H locs ls hl hP hD hS => va_get (D := D) (ci := 0) (C := RX0) (T := TX0) (N := 7) hx hb hts uwX0 hown hK hP 57 rfl rfl 5 (by decide) (hts _ mf_X0_21) (fun _ h9 => h9) rfl hd (k H locs ls hl hP hD hS)
  · exact fun H locs ls hl hP hD hS => va_get (D := D) (ci := 0) (C := RX0) (T := TX0) (N := 7) hx hb hts uwX0 hown hK hP 62 rfl rfl 5 (by decide) (hts _ mf_X0_21) (fun _ h9 => h9) rfl hd (k H locs ls hl hP hD hS)
  · exact fun H locs ls hl hP hD hS => va_get (D := D) (ci := 0) (C := RX0) (T := TX0) (N := 7) hx hb hts uwX0 hown hK hP 67 rfl rfl 5 (by decide) (hts _ mf_X0_21) (fun _ h9 => h9) rfl hd (k H locs ls hl hP hD hS)
theorem mf_X0_25 : Cond.fieldLink RX0 25 "SongHour$Clock" "size" "I" ∈ GW := memT (i := 107) (by decide +kernel) rfl
theorem get_X0_25 {K : Kx} {cc : ByteArray} {g : Gm} {nL d : Nat} {ret : Option FieldType} {Q : State → Prop} {pc : Nat} {lv : List (Nat × Value)} {st : List Value} {σ : St} (hC : Ok K cc RX0 g nL d ret) (j : Nat) (hj : j < 7) (hd : decode cc pc = .ok (.getfield 25, 3)) (k : J K (wX g) nL Q (pc + 3) lv (.int (gi σ (27 + 3 * j + 0)) :: st) σ) : J K (wX g) nL Q (pc) lv (.ref (g.1 (37 + 5 * j)) :: st) σ := by
  obtain ⟨p, l, e, R, s, m, args, below, meth, c, D, A, ce, sl⟩ := K
  obtain ⟨hx, hb, hml, hown, hts, hK, hA, hSF, ⟨hR1, hR2, hR3, hR4⟩, hr, hlk⟩ := hC
  rcases (show j = 0 ∨ j = 1 ∨ j = 2 ∨ j = 3 ∨ j = 4 ∨ j = 5 ∨ j = 6 by omega) with rfl | rfl | rfl | rfl | rfl | rfl | rfl
  · exact fun H locs ls hl hP hD hS => va_get (D := D) (ci := 0) (C := RX0) (T := TX0) (N := 7) hx hb hts uwX0 hown hK hP 37 rfl rfl 0 (by decide) (hts _ mf_X0_25) (fun _ h9 => h9) rfl hd (k H locs ls hl hP hD hS)
  · exact fun H locs ls hl hP hD hS => va_get (D := D) (ci := 0) (C := RX0) (T := TX0) (N := 7) hx hb hts uwX0 hown hK hP 42 rfl rfl 0 (by decide) (hts _ mf_X0_25) (fun _ h9 => h9) rfl hd (k H locs ls hl hP hD hS)
  · exact fun H locs ls hl hP hD hS => va_get (D := D) (ci := 0) (C := RX0) (T := TX0) (N := 7) hx hb hts uwX0 hown hK hP 47 rfl rfl 0 (by decide) (hts _ mf_X0_25) (fun _ h9 => h9) rfl hd (k H locs ls hl hP hD hS)
  · exact fun H locs ls hl hP hD hS => va_get (D := D) (ci := 0) (C := RX0) (T := TX0) (N := 7) hx hb hts uwX0 hown hK hP 52 rfl rfl 0 (by decide) (hts _ mf_X0_25) (fun _ h9 => h9) rfl hd (k H locs ls hl hP hD hS)
  · exact fun H locs ls hl hP hD hS => va_get (D := D) (ci := 0) (C := RX0) (T := TX0) (N := 7) hx hb hts uwX0 hown hK hP 57 rfl rfl 0 (by decide) (hts _ mf_X0_25) (fun _ h9 => h9) rfl hd (k H locs ls hl hP hD hS)
  · exact fun H locs ls hl hP hD hS => va_get (D := D) (ci := 0) (C := RX0) (T := TX0) (N := 7) hx hb hts uwX0 hown hK hP 62 rfl rfl 0 (by decide) (hts _ mf_X0_25) (fun _ h9 => h9) rfl hd (k H locs ls hl hP hD hS)
  · exact fun H locs ls hl hP hD hS => va_get (D := D) (ci := 0) (C := RX0) (T := TX0) (N := 7) hx hb hts uwX0 hown hK hP 67 rfl rfl 0 (by decide) (hts _ mf_X0_25) (fun _ h9 => h9) rfl hd (k H locs ls hl hP hD hS)
theorem put_X0_25 {K : Kx} {cc : ByteArray} {g : Gm} {nL d : Nat} {ret : Option FieldType} {Q : State → Prop} {pc : Nat} {lv : List (Nat × Value)} {st : List Value} {σ : St} (hC : Ok K cc RX0 g nL d ret) (j : Nat) (hj : j < 7) {v : Int32} {ρ : Type} {o : ρ} {f : St → Option ρ} (hd : decode cc pc = .ok (.putfield 25, 3)) (h : bnd (si σ (27 + 3 * j + 0) v) f = some o) (k : ∀ σ2, f σ2 = some o → J K (wX g) nL Q (pc + 3) lv (st) σ2) : J K (wX g) nL Q (pc) lv (.int v :: .ref (g.1 (37 + 5 * j)) :: st) σ := by
  obtain ⟨p, l, e, R, s, m, args, below, meth, c, D, A, ce, sl⟩ := K
  obtain ⟨hx, hb, hml, hown, hts, hK, hA, hSF, ⟨hR1, hR2, hR3, hR4⟩, hr, hlk⟩ := hC
  rcases (show j = 0 ∨ j = 1 ∨ j = 2 ∨ j = 3 ∨ j = 4 ∨ j = 5 ∨ j = 6 by omega) with rfl | rfl | rfl | rfl | rfl | rfl | rfl
  · exact fun H locs ls hl hP hD hS => va_put (D := D) (ci := 0) (v := .int v) (ty := .int) (C := RX0) (T := TX0) (N := 7) hx hb hts uwX0 tyX0 tyX0_ok nmX0 hown hK hP hD hS 37 rfl rfl 0 (by decide) (hts _ mf_X0_25) (fun _ h9 => h9) rfl (by decide +kernel) rfl rfl (Nat.le_of_ble_eq_true rfl) hd (fun H locs hP hD hS => k _ h H locs ls hl hP hD hS)
  · exact fun H locs ls hl hP hD hS => va_put (D := D) (ci := 0) (v := .int v) (ty := .int) (C := RX0) (T := TX0) (N := 7) hx hb hts uwX0 tyX0 tyX0_ok nmX0 hown hK hP hD hS 42 rfl rfl 0 (by decide) (hts _ mf_X0_25) (fun _ h9 => h9) rfl (by decide +kernel) rfl rfl (Nat.le_of_ble_eq_true rfl) hd (fun H locs hP hD hS => k _ h H locs ls hl hP hD hS)
  · exact fun H locs ls hl hP hD hS => va_put (D := D) (ci := 0) (v := .int v) (ty := .int) (C := RX0) (T := TX0) (N := 7) hx hb hts uwX0 tyX0 tyX0_ok nmX0 hown hK hP hD hS 47 rfl rfl 0 (by decide) (hts _ mf_X0_25) (fun _ h9 => h9) rfl (by decide +kernel) rfl rfl (Nat.le_of_ble_eq_true rfl) hd (fun H locs hP hD hS => k _ h H locs ls hl hP hD hS)
  · exact fun H locs ls hl hP hD hS => va_put (D := D) (ci := 0) (v := .int v) (ty := .int) (C := RX0) (T := TX0) (N := 7) hx hb hts uwX0 tyX0 tyX0_ok nmX0 hown hK hP hD hS 52 rfl rfl 0 (by decide) (hts _ mf_X0_25) (fun _ h9 => h9) rfl (by decide +kernel) rfl rfl (Nat.le_of_ble_eq_true rfl) hd (fun H locs hP hD hS => k _ h H locs ls hl hP hD hS)
  · exact fun H locs ls hl hP hD hS => va_put (D := D) (ci := 0) (v := .int v) (ty := .int) (C := RX0) (T := TX0) (N := 7) hx hb hts uwX0 tyX0 tyX0_ok nmX0 hown hK hP hD hS 57 rfl rfl 0 (by decide) (hts _ mf_X0_25) (fun _ h9 => h9) rfl (by decide +kernel) rfl rfl (Nat.le_of_ble_eq_true rfl) hd (fun H locs hP hD hS => k _ h H locs ls hl hP hD hS)
  · exact fun H locs ls hl hP hD hS => va_put (D := D) (ci := 0) (v := .int v) (ty := .int) (C := RX0) (T := TX0) (N := 7) hx hb hts uwX0 tyX0 tyX0_ok nmX0 hown hK hP hD hS 62 rfl rfl 0 (by decide) (hts _ mf_X0_25) (fun _ h9 => h9) rfl (by decide +kernel) rfl rfl (Nat.le_of_ble_eq_true rfl) hd (fun H locs hP hD hS => k _ h H locs ls hl hP hD hS)
  · exact fun H locs ls hl hP hD hS => va_put (D := D) (ci := 0) (v := .int v) (ty := .int) (C := RX0) (T := TX0) (N := 7) hx hb hts uwX0 tyX0 tyX0_ok nmX0 hown hK hP hD hS 67 rfl rfl 0 (by decide) (hts _ mf_X0_25) (fun _ h9 => h9) rfl (by decide +kernel) rfl rfl (Nat.le_of_ble_eq_true rfl) hd (fun H locs hP hD hS => k _ h H locs ls hl hP hD hS)
theorem mf_X0_29 : Cond.fieldLink RX0 29 "SongHour$Clock" "stretches" "I" ∈ GW := memT (i := 109) (by decide +kernel) rfl
theorem get_X0_29 {K : Kx} {cc : ByteArray} {g : Gm} {nL d : Nat} {ret : Option FieldType} {Q : State → Prop} {pc : Nat} {lv : List (Nat × Value)} {st : List Value} {σ : St} (hC : Ok K cc RX0 g nL d ret) (j : Nat) (hj : j < 7) (hd : decode cc pc = .ok (.getfield 29, 3)) (k : J K (wX g) nL Q (pc + 3) lv (.int (gi σ (27 + 3 * j + 1)) :: st) σ) : J K (wX g) nL Q (pc) lv (.ref (g.1 (37 + 5 * j)) :: st) σ := by
  obtain ⟨p, l, e, R, s, m, args, below, meth, c, D, A, ce, sl⟩ := K
  obtain ⟨hx, hb, hml, hown, hts, hK, hA, hSF, ⟨hR1, hR2, hR3, hR4⟩, hr, hlk⟩ := hC
  rcases (show j = 0 ∨ j = 1 ∨ j = 2 ∨ j = 3 ∨ j = 4 ∨ j = 5 ∨ j = 6 by omega) with rfl | rfl | rfl | rfl | rfl | rfl | rfl
  · exact fun H locs ls hl hP hD hS => va_get (D := D) (ci := 0) (C := RX0) (T := TX0) (N := 7) hx hb hts uwX0 hown hK hP 37 rfl rfl 1 (by decide) (hts _ mf_X0_29) (fun _ h9 => h9) rfl hd (k H locs ls hl hP hD hS)
  · exact fun H locs ls hl hP hD hS => va_get (D := D) (ci := 0) (C := RX0) (T := TX0) (N := 7) hx hb hts uwX0 hown hK hP 42 rfl rfl 1 (by decide) (hts _ mf_X0_29) (fun _ h9 => h9) rfl hd (k H locs ls hl hP hD hS)
  · exact fun H locs ls hl hP hD hS => va_get (D := D) (ci := 0) (C := RX0) (T := TX0) (N := 7) hx hb hts uwX0 hown hK hP 47 rfl rfl 1 (by decide) (hts _ mf_X0_29) (fun _ h9 => h9) rfl hd (k H locs ls hl hP hD hS)
  · exact fun H locs ls hl hP hD hS => va_get (D := D) (ci := 0) (C := RX0) (T := TX0) (N := 7) hx hb hts uwX0 hown hK hP 52 rfl rfl 1 (by decide) (hts _ mf_X0_29) (fun _ h9 => h9) rfl hd (k H locs ls hl hP hD hS)
  · exact fun H locs ls hl hP hD hS => va_get (D := D) (ci := 0) (C := RX0) (T := TX0) (N := 7) hx hb hts uwX0 hown hK hP 57 rfl rfl 1 (by decide) (hts _ mf_X0_29) (fun _ h9 => h9) rfl hd (k H locs ls hl hP hD hS)
  · exact fun H locs ls hl hP hD hS => va_get (D := D) (ci := 0) (C := RX0) (T := TX0) (N := 7) hx hb hts uwX0 hown hK hP 62 rfl rfl 1 (by decide) (hts _ mf_X0_29) (fun _ h9 => h9) rfl hd (k H locs ls hl hP hD hS)
  · exact fun H locs ls hl hP hD hS => va_get (D := D) (ci := 0) (C := RX0) (T := TX0) (N := 7) hx hb hts uwX0 hown hK hP 67 rfl rfl 1 (by decide) (hts _ mf_X0_29) (fun _ h9 => h9) rfl hd (k H locs ls hl hP hD hS)
theorem put_X0_29 {K : Kx} {cc : ByteArray} {g : Gm} {nL d : Nat} {ret : Option FieldType} {Q : State → Prop} {pc : Nat} {lv : List (Nat × Value)} {st : List Value} {σ : St} (hC : Ok K cc RX0 g nL d ret) (j : Nat) (hj : j < 7) {v : Int32} {ρ : Type} {o : ρ} {f : St → Option ρ} (hd : decode cc pc = .ok (.putfield 29, 3)) (h : bnd (si σ (27 + 3 * j + 1) v) f = some o) (k : ∀ σ2, f σ2 = some o → J K (wX g) nL Q (pc + 3) lv (st) σ2) : J K (wX g) nL Q (pc) lv (.int v :: .ref (g.1 (37 + 5 * j)) :: st) σ := by
  obtain ⟨p, l, e, R, s, m, args, below, meth, c, D, A, ce, sl⟩ := K
  obtain ⟨hx, hb, hml, hown, hts, hK, hA, hSF, ⟨hR1, hR2, hR3, hR4⟩, hr, hlk⟩ := hC
  rcases (show j = 0 ∨ j = 1 ∨ j = 2 ∨ j = 3 ∨ j = 4 ∨ j = 5 ∨ j = 6 by omega) with rfl | rfl | rfl | rfl | rfl | rfl | rfl
  · exact fun H locs ls hl hP hD hS => va_put (D := D) (ci := 0) (v := .int v) (ty := .int) (C := RX0) (T := TX0) (N := 7) hx hb hts uwX0 tyX0 tyX0_ok nmX0 hown hK hP hD hS 37 rfl rfl 1 (by decide) (hts _ mf_X0_29) (fun _ h9 => h9) rfl (by decide +kernel) rfl rfl (Nat.le_of_ble_eq_true rfl) hd (fun H locs hP hD hS => k _ h H locs ls hl hP hD hS)
  · exact fun H locs ls hl hP hD hS => va_put (D := D) (ci := 0) (v := .int v) (ty := .int) (C := RX0) (T := TX0) (N := 7) hx hb hts uwX0 tyX0 tyX0_ok nmX0 hown hK hP hD hS 42 rfl rfl 1 (by decide) (hts _ mf_X0_29) (fun _ h9 => h9) rfl (by decide +kernel) rfl rfl (Nat.le_of_ble_eq_true rfl) hd (fun H locs hP hD hS => k _ h H locs ls hl hP hD hS)
  · exact fun H locs ls hl hP hD hS => va_put (D := D) (ci := 0) (v := .int v) (ty := .int) (C := RX0) (T := TX0) (N := 7) hx hb hts uwX0 tyX0 tyX0_ok nmX0 hown hK hP hD hS 47 rfl rfl 1 (by decide) (hts _ mf_X0_29) (fun _ h9 => h9) rfl (by decide +kernel) rfl rfl (Nat.le_of_ble_eq_true rfl) hd (fun H locs hP hD hS => k _ h H locs ls hl hP hD hS)
  · exact fun H locs ls hl hP hD hS => va_put (D := D) (ci := 0) (v := .int v) (ty := .int) (C := RX0) (T := TX0) (N := 7) hx hb hts uwX0 tyX0 tyX0_ok nmX0 hown hK hP hD hS 52 rfl rfl 1 (by decide) (hts _ mf_X0_29) (fun _ h9 => h9) rfl (by decide +kernel) rfl rfl (Nat.le_of_ble_eq_true rfl) hd (fun H locs hP hD hS => k _ h H locs ls hl hP hD hS)
  · exact fun H locs ls hl hP hD hS => va_put (D := D) (ci := 0) (v := .int v) (ty := .int) (C := RX0) (T := TX0) (N := 7) hx hb hts uwX0 tyX0 tyX0_ok nmX0 hown hK hP hD hS 57 rfl rfl 1 (by decide) (hts _ mf_X0_29) (fun _ h9 => h9) rfl (by decide +kernel) rfl rfl (Nat.le_of_ble_eq_true rfl) hd (fun H locs hP hD hS => k _ h H locs ls hl hP hD hS)
  · exact fun H locs ls hl hP hD hS => va_put (D := D) (ci := 0) (v := .int v) (ty := .int) (C := RX0) (T := TX0) (N := 7) hx hb hts uwX0 tyX0 tyX0_ok nmX0 hown hK hP hD hS 62 rfl rfl 1 (by decide) (hts _ mf_X0_29) (fun _ h9 => h9) rfl (by decide +kernel) rfl rfl (Nat.le_of_ble_eq_true rfl) hd (fun H locs hP hD hS => k _ h H locs ls hl hP hD hS)
  · exact fun H locs ls hl hP hD hS => va_put (D := D) (ci := 0) (v := .int v) (ty := .int) (C := RX0) (T := TX0) (N := 7) hx hb hts uwX0 tyX0 tyX0_ok nmX0 hown hK hP hD hS 67 rfl rfl 1 (by decide) (hts _ mf_X0_29) (fun _ h9 => h9) rfl (by decide +kernel) rfl rfl (Nat.le_of_ble_eq_true rfl) hd (fun H locs hP hD hS => k _ h H locs ls hl hP hD hS)
theorem mf_X0_32 : Cond.fieldLink RX0 32 "SongHour$Clock" "total" "I" ∈ GW := memT (i := 118) (by decide +kernel) rfl
theorem get_X0_32 {K : Kx} {cc : ByteArray} {g : Gm} {nL d : Nat} {ret : Option FieldType} {Q : State → Prop} {pc : Nat} {lv : List (Nat × Value)} {st : List Value} {σ : St} (hC : Ok K cc RX0 g nL d ret) (j : Nat) (hj : j < 7) (hd : decode cc pc = .ok (.getfield 32, 3)) (k : J K (wX g) nL Q (pc + 3) lv (.int (gi σ (27 + 3 * j + 2)) :: st) σ) : J K (wX g) nL Q (pc) lv (.ref (g.1 (37 + 5 * j)) :: st) σ := by
  obtain ⟨p, l, e, R, s, m, args, below, meth, c, D, A, ce, sl⟩ := K
  obtain ⟨hx, hb, hml, hown, hts, hK, hA, hSF, ⟨hR1, hR2, hR3, hR4⟩, hr, hlk⟩ := hC
  rcases (show j = 0 ∨ j = 1 ∨ j = 2 ∨ j = 3 ∨ j = 4 ∨ j = 5 ∨ j = 6 by omega) with rfl | rfl | rfl | rfl | rfl | rfl | rfl
  · exact fun H locs ls hl hP hD hS => va_get (D := D) (ci := 0) (C := RX0) (T := TX0) (N := 7) hx hb hts uwX0 hown hK hP 37 rfl rfl 6 (by decide) (hts _ mf_X0_32) (fun _ h9 => h9) rfl hd (k H locs ls hl hP hD hS)
  · exact fun H locs ls hl hP hD hS => va_get (D := D) (ci := 0) (C := RX0) (T := TX0) (N := 7) hx hb hts uwX0 hown hK hP 42 rfl rfl 6 (by decide) (hts _ mf_X0_32) (fun _ h9 => h9) rfl hd (k H locs ls hl hP hD hS)
  · exact fun H locs ls hl hP hD hS => va_get (D := D) (ci := 0) (C := RX0) (T := TX0) (N := 7) hx hb hts uwX0 hown hK hP 47 rfl rfl 6 (by decide) (hts _ mf_X0_32) (fun _ h9 => h9) rfl hd (k H locs ls hl hP hD hS)
  · exact fun H locs ls hl hP hD hS => va_get (D := D) (ci := 0) (C := RX0) (T := TX0) (N := 7) hx hb hts uwX0 hown hK hP 52 rfl rfl 6 (by decide) (hts _ mf_X0_32) (fun _ h9 => h9) rfl hd (k H locs ls hl hP hD hS)
  · exact fun H locs ls hl hP hD hS => va_get (D := D) (ci := 0) (C := RX0) (T := TX0) (N := 7) hx hb hts uwX0 hown hK hP 57 rfl rfl 6 (by decide) (hts _ mf_X0_32) (fun _ h9 => h9) rfl hd (k H locs ls hl hP hD hS)
  · exact fun H locs ls hl hP hD hS => va_get (D := D) (ci := 0) (C := RX0) (T := TX0) (N := 7) hx hb hts uwX0 hown hK hP 62 rfl rfl 6 (by decide) (hts _ mf_X0_32) (fun _ h9 => h9) rfl hd (k H locs ls hl hP hD hS)
  · exact fun H locs ls hl hP hD hS => va_get (D := D) (ci := 0) (C := RX0) (T := TX0) (N := 7) hx hb hts uwX0 hown hK hP 67 rfl rfl 6 (by decide) (hts _ mf_X0_32) (fun _ h9 => h9) rfl hd (k H locs ls hl hP hD hS)
theorem put_X0_32 {K : Kx} {cc : ByteArray} {g : Gm} {nL d : Nat} {ret : Option FieldType} {Q : State → Prop} {pc : Nat} {lv : List (Nat × Value)} {st : List Value} {σ : St} (hC : Ok K cc RX0 g nL d ret) (j : Nat) (hj : j < 7) {v : Int32} {ρ : Type} {o : ρ} {f : St → Option ρ} (hd : decode cc pc = .ok (.putfield 32, 3)) (h : bnd (si σ (27 + 3 * j + 2) v) f = some o) (k : ∀ σ2, f σ2 = some o → J K (wX g) nL Q (pc + 3) lv (st) σ2) : J K (wX g) nL Q (pc) lv (.int v :: .ref (g.1 (37 + 5 * j)) :: st) σ := by
  obtain ⟨p, l, e, R, s, m, args, below, meth, c, D, A, ce, sl⟩ := K
  obtain ⟨hx, hb, hml, hown, hts, hK, hA, hSF, ⟨hR1, hR2, hR3, hR4⟩, hr, hlk⟩ := hC
  rcases (show j = 0 ∨ j = 1 ∨ j = 2 ∨ j = 3 ∨ j = 4 ∨ j = 5 ∨ j = 6 by omega) with rfl | rfl | rfl | rfl | rfl | rfl | rfl
  · exact fun H locs ls hl hP hD hS => va_put (D := D) (ci := 0) (v := .int v) (ty := .int) (C := RX0) (T := TX0) (N := 7) hx hb hts uwX0 tyX0 tyX0_ok nmX0 hown hK hP hD hS 37 rfl rfl 6 (by decide) (hts _ mf_X0_32) (fun _ h9 => h9) rfl (by decide +kernel) rfl rfl (Nat.le_of_ble_eq_true rfl) hd (fun H locs hP hD hS => k _ h H locs ls hl hP hD hS)
  · exact fun H locs ls hl hP hD hS => va_put (D := D) (ci := 0) (v := .int v) (ty := .int) (C := RX0) (T := TX0) (N := 7) hx hb hts uwX0 tyX0 tyX0_ok nmX0 hown hK hP hD hS 42 rfl rfl 6 (by decide) (hts _ mf_X0_32) (fun _ h9 => h9) rfl (by decide +kernel) rfl rfl (Nat.le_of_ble_eq_true rfl) hd (fun H locs hP hD hS => k _ h H locs ls hl hP hD hS)
  · exact fun H locs ls hl hP hD hS => va_put (D := D) (ci := 0) (v := .int v) (ty := .int) (C := RX0) (T := TX0) (N := 7) hx hb hts uwX0 tyX0 tyX0_ok nmX0 hown hK hP hD hS 47 rfl rfl 6 (by decide) (hts _ mf_X0_32) (fun _ h9 => h9) rfl (by decide +kernel) rfl rfl (Nat.le_of_ble_eq_true rfl) hd (fun H locs hP hD hS => k _ h H locs ls hl hP hD hS)
  · exact fun H locs ls hl hP hD hS => va_put (D := D) (ci := 0) (v := .int v) (ty := .int) (C := RX0) (T := TX0) (N := 7) hx hb hts uwX0 tyX0 tyX0_ok nmX0 hown hK hP hD hS 52 rfl rfl 6 (by decide) (hts _ mf_X0_32) (fun _ h9 => h9) rfl (by decide +kernel) rfl rfl (Nat.le_of_ble_eq_true rfl) hd (fun H locs hP hD hS => k _ h H locs ls hl hP hD hS)
  · exact fun H locs ls hl hP hD hS => va_put (D := D) (ci := 0) (v := .int v) (ty := .int) (C := RX0) (T := TX0) (N := 7) hx hb hts uwX0 tyX0 tyX0_ok nmX0 hown hK hP hD hS 57 rfl rfl 6 (by decide) (hts _ mf_X0_32) (fun _ h9 => h9) rfl (by decide +kernel) rfl rfl (Nat.le_of_ble_eq_true rfl) hd (fun H locs hP hD hS => k _ h H locs ls hl hP hD hS)
  · exact fun H locs ls hl hP hD hS => va_put (D := D) (ci := 0) (v := .int v) (ty := .int) (C := RX0) (T := TX0) (N := 7) hx hb hts uwX0 tyX0 tyX0_ok nmX0 hown hK hP hD hS 62 rfl rfl 6 (by decide) (hts _ mf_X0_32) (fun _ h9 => h9) rfl (by decide +kernel) rfl rfl (Nat.le_of_ble_eq_true rfl) hd (fun H locs hP hD hS => k _ h H locs ls hl hP hD hS)
  · exact fun H locs ls hl hP hD hS => va_put (D := D) (ci := 0) (v := .int v) (ty := .int) (C := RX0) (T := TX0) (N := 7) hx hb hts uwX0 tyX0 tyX0_ok nmX0 hown hK hP hD hS 67 rfl rfl 6 (by decide) (hts _ mf_X0_32) (fun _ h9 => h9) rfl (by decide +kernel) rfl rfl (Nat.le_of_ble_eq_true rfl) hd (fun H locs hP hD hS => k _ h H locs ls hl hP hD hS)
theorem mf_X0_41 : Cond.fieldLink RX0 41 "SongHour$Text" "token" "I" ∈ GW := memT (i := 43) (by decide +kernel) rfl
theorem get_X0_41 {K : Kx} {cc : ByteArray} {g : Gm} {nL d : Nat} {ret : Option FieldType} {Q : State → Prop} {pc : Nat} {lv : List (Nat × Value)} {st : List Value} {σ : St} (hC : Ok K cc RX0 g nL d ret) (hd : decode cc pc = .ok (.getfield 41, 3)) (k : J K (wX g) nL Q (pc + 3) lv (.int (gi σ 3) :: st) σ) : J K (wX g) nL Q (pc) lv (.ref (g.1 2) :: st) σ := by
  obtain ⟨p, l, e, R, s, m, args, below, meth, c, D, A, ce, sl⟩ := K
  obtain ⟨hx, hb, hml, hown, hts, hK, hA, hSF, ⟨hR1, hR2, hR3, hR4⟩, hr, hlk⟩ := hC
  exact fun H locs ls hl hP hD hS => va_get (D := D) (ci := 5) (v := .int (gi σ 3)) (C := RX5) (T := TX5) (N := 9) hx hb hts uwX5 hown hK hP 2 rfl rfl 4 (by decide) (hts _ mf_X0_41) (fun _ h9 => h9) rfl hd (k H locs ls hl hP hD hS)
theorem put_X0_41 {K : Kx} {cc : ByteArray} {g : Gm} {nL d : Nat} {ret : Option FieldType} {Q : State → Prop} {pc : Nat} {lv : List (Nat × Value)} {st : List Value} {σ : St} (hC : Ok K cc RX0 g nL d ret) {v : Int32} {ρ : Type} {o : ρ} {f : St → Option ρ} (hd : decode cc pc = .ok (.putfield 41, 3)) (h : bnd (si σ 3 v) f = some o) (k : ∀ σ2, f σ2 = some o → J K (wX g) nL Q (pc + 3) lv (st) σ2) : J K (wX g) nL Q (pc) lv (.int v :: .ref (g.1 2) :: st) σ := by
  obtain ⟨p, l, e, R, s, m, args, below, meth, c, D, A, ce, sl⟩ := K
  obtain ⟨hx, hb, hml, hown, hts, hK, hA, hSF, ⟨hR1, hR2, hR3, hR4⟩, hr, hlk⟩ := hC
  exact fun H locs ls hl hP hD hS => va_put (D := D) (ci := 5) (v := .int v) (ty := .int) (C := RX5) (T := TX5) (N := 9) hx hb hts uwX5 tyX5 tyX5_ok nmX5 hown hK hP hD hS 2 rfl rfl 4 (by decide) (hts _ mf_X0_41) (fun _ h9 => h9) rfl (by decide +kernel) rfl rfl (Nat.le_of_ble_eq_true rfl) hd (fun H locs hP hD hS => k _ h H locs ls hl hP hD hS)
theorem mf_X0_64 : Cond.fieldLink RX0 64 "SongHour$Text" "value" "I" ∈ GW := memT (i := 46) (by decide +kernel) rfl
theorem get_X0_64 {K : Kx} {cc : ByteArray} {g : Gm} {nL d : Nat} {ret : Option FieldType} {Q : State → Prop} {pc : Nat} {lv : List (Nat × Value)} {st : List Value} {σ : St} (hC : Ok K cc RX0 g nL d ret) (hd : decode cc pc = .ok (.getfield 64, 3)) (k : J K (wX g) nL Q (pc + 3) lv (.int (gi σ 4) :: st) σ) : J K (wX g) nL Q (pc) lv (.ref (g.1 2) :: st) σ := by
  obtain ⟨p, l, e, R, s, m, args, below, meth, c, D, A, ce, sl⟩ := K
  obtain ⟨hx, hb, hml, hown, hts, hK, hA, hSF, ⟨hR1, hR2, hR3, hR4⟩, hr, hlk⟩ := hC
  exact fun H locs ls hl hP hD hS => va_get (D := D) (ci := 5) (v := .int (gi σ 4)) (C := RX5) (T := TX5) (N := 9) hx hb hts uwX5 hown hK hP 2 rfl rfl 5 (by decide) (hts _ mf_X0_64) (fun _ h9 => h9) rfl hd (k H locs ls hl hP hD hS)
theorem put_X0_64 {K : Kx} {cc : ByteArray} {g : Gm} {nL d : Nat} {ret : Option FieldType} {Q : State → Prop} {pc : Nat} {lv : List (Nat × Value)} {st : List Value} {σ : St} (hC : Ok K cc RX0 g nL d ret) {v : Int32} {ρ : Type} {o : ρ} {f : St → Option ρ} (hd : decode cc pc = .ok (.putfield 64, 3)) (h : bnd (si σ 4 v) f = some o) (k : ∀ σ2, f σ2 = some o → J K (wX g) nL Q (pc + 3) lv (st) σ2) : J K (wX g) nL Q (pc) lv (.int v :: .ref (g.1 2) :: st) σ := by
  obtain ⟨p, l, e, R, s, m, args, below, meth, c, D, A, ce, sl⟩ := K
  obtain ⟨hx, hb, hml, hown, hts, hK, hA, hSF, ⟨hR1, hR2, hR3, hR4⟩, hr, hlk⟩ := hC
  exact fun H locs ls hl hP hD hS => va_put (D := D) (ci := 5) (v := .int v) (ty := .int) (C := RX5) (T := TX5) (N := 9) hx hb hts uwX5 tyX5 tyX5_ok nmX5 hown hK hP hD hS 2 rfl rfl 5 (by decide) (hts _ mf_X0_64) (fun _ h9 => h9) rfl (by decide +kernel) rfl rfl (Nat.le_of_ble_eq_true rfl) hd (fun H locs hP hD hS => k _ h H locs ls hl hP hD hS)
theorem mf_X1_9 : Cond.fieldLink RX1 9 "SongHour$Log" "hourItems" "[I" ∈ GW := memT (i := 216) (by decide +kernel) rfl
theorem get_X1_9 {K : Kx} {cc : ByteArray} {g : Gm} {nL d : Nat} {ret : Option FieldType} {Q : State → Prop} {pc : Nat} {lv : List (Nat × Value)} {st : List Value} {σ : St} (hC : Ok K cc RX1 g nL d ret) (hd : decode cc pc = .ok (.getfield 9, 3)) (k : J K (wX g) nL Q (pc + 3) lv (.ref (g.1 23) :: st) σ) : J K (wX g) nL Q (pc) lv (.ref (g.1 22) :: st) σ := by
  obtain ⟨p, l, e, R, s, m, args, below, meth, c, D, A, ce, sl⟩ := K
  obtain ⟨hx, hb, hml, hown, hts, hK, hA, hSF, ⟨hR1, hR2, hR3, hR4⟩, hr, hlk⟩ := hC
  exact fun H locs ls hl hP hD hS => va_get (D := D) (ci := 1) (v := .ref (g.1 23)) (C := RX1) (T := TX1) (N := 10) hx hb hts uwX1 hown hK hP 22 rfl rfl 4 (by decide) (hts _ mf_X1_9) (fun _ h9 => h9) rfl hd (k H locs ls hl hP hD hS)
theorem mf_X1_15 : Cond.fieldLink RX1 15 "SongHour$Log" "itemLeft" "[I" ∈ GW := memT (i := 218) (by decide +kernel) rfl
theorem get_X1_15 {K : Kx} {cc : ByteArray} {g : Gm} {nL d : Nat} {ret : Option FieldType} {Q : State → Prop} {pc : Nat} {lv : List (Nat × Value)} {st : List Value} {σ : St} (hC : Ok K cc RX1 g nL d ret) (hd : decode cc pc = .ok (.getfield 15, 3)) (k : J K (wX g) nL Q (pc + 3) lv (.ref (g.1 24) :: st) σ) : J K (wX g) nL Q (pc) lv (.ref (g.1 22) :: st) σ := by
  obtain ⟨p, l, e, R, s, m, args, below, meth, c, D, A, ce, sl⟩ := K
  obtain ⟨hx, hb, hml, hown, hts, hK, hA, hSF, ⟨hR1, hR2, hR3, hR4⟩, hr, hlk⟩ := hC
  exact fun H locs ls hl hP hD hS => va_get (D := D) (ci := 1) (v := .ref (g.1 24)) (C := RX1) (T := TX1) (N := 10) hx hb hts uwX1 hown hK hP 22 rfl rfl 5 (by decide) (hts _ mf_X1_15) (fun _ h9 => h9) rfl hd (k H locs ls hl hP hD hS)
theorem mf_X1_18 : Cond.fieldLink RX1 18 "SongHour$Log" "playSong" "[I" ∈ GW := memT (i := 220) (by decide +kernel) rfl
theorem get_X1_18 {K : Kx} {cc : ByteArray} {g : Gm} {nL d : Nat} {ret : Option FieldType} {Q : State → Prop} {pc : Nat} {lv : List (Nat × Value)} {st : List Value} {σ : St} (hC : Ok K cc RX1 g nL d ret) (hd : decode cc pc = .ok (.getfield 18, 3)) (k : J K (wX g) nL Q (pc + 3) lv (.ref (g.1 25) :: st) σ) : J K (wX g) nL Q (pc) lv (.ref (g.1 22) :: st) σ := by
  obtain ⟨p, l, e, R, s, m, args, below, meth, c, D, A, ce, sl⟩ := K
  obtain ⟨hx, hb, hml, hown, hts, hK, hA, hSF, ⟨hR1, hR2, hR3, hR4⟩, hr, hlk⟩ := hC
  exact fun H locs ls hl hP hD hS => va_get (D := D) (ci := 1) (v := .ref (g.1 25)) (C := RX1) (T := TX1) (N := 10) hx hb hts uwX1 hown hK hP 22 rfl rfl 6 (by decide) (hts _ mf_X1_18) (fun _ h9 => h9) rfl hd (k H locs ls hl hP hD hS)
theorem mf_X1_21 : Cond.fieldLink RX1 21 "SongHour$Log" "playBegan" "[I" ∈ GW := memT (i := 222) (by decide +kernel) rfl
theorem get_X1_21 {K : Kx} {cc : ByteArray} {g : Gm} {nL d : Nat} {ret : Option FieldType} {Q : State → Prop} {pc : Nat} {lv : List (Nat × Value)} {st : List Value} {σ : St} (hC : Ok K cc RX1 g nL d ret) (hd : decode cc pc = .ok (.getfield 21, 3)) (k : J K (wX g) nL Q (pc + 3) lv (.ref (g.1 26) :: st) σ) : J K (wX g) nL Q (pc) lv (.ref (g.1 22) :: st) σ := by
  obtain ⟨p, l, e, R, s, m, args, below, meth, c, D, A, ce, sl⟩ := K
  obtain ⟨hx, hb, hml, hown, hts, hK, hA, hSF, ⟨hR1, hR2, hR3, hR4⟩, hr, hlk⟩ := hC
  exact fun H locs ls hl hP hD hS => va_get (D := D) (ci := 1) (v := .ref (g.1 26)) (C := RX1) (T := TX1) (N := 10) hx hb hts uwX1 hown hK hP 22 rfl rfl 7 (by decide) (hts _ mf_X1_21) (fun _ h9 => h9) rfl hd (k H locs ls hl hP hD hS)
theorem mf_X1_24 : Cond.fieldLink RX1 24 "SongHour$Log" "playHour" "[I" ∈ GW := memT (i := 224) (by decide +kernel) rfl
theorem get_X1_24 {K : Kx} {cc : ByteArray} {g : Gm} {nL d : Nat} {ret : Option FieldType} {Q : State → Prop} {pc : Nat} {lv : List (Nat × Value)} {st : List Value} {σ : St} (hC : Ok K cc RX1 g nL d ret) (hd : decode cc pc = .ok (.getfield 24, 3)) (k : J K (wX g) nL Q (pc + 3) lv (.ref (g.1 27) :: st) σ) : J K (wX g) nL Q (pc) lv (.ref (g.1 22) :: st) σ := by
  obtain ⟨p, l, e, R, s, m, args, below, meth, c, D, A, ce, sl⟩ := K
  obtain ⟨hx, hb, hml, hown, hts, hK, hA, hSF, ⟨hR1, hR2, hR3, hR4⟩, hr, hlk⟩ := hC
  exact fun H locs ls hl hP hD hS => va_get (D := D) (ci := 1) (v := .ref (g.1 27)) (C := RX1) (T := TX1) (N := 10) hx hb hts uwX1 hown hK hP 22 rfl rfl 8 (by decide) (hts _ mf_X1_24) (fun _ h9 => h9) rfl hd (k H locs ls hl hP hD hS)
theorem mf_X1_27 : Cond.fieldLink RX1 27 "SongHour$Log" "playItem" "[I" ∈ GW := memT (i := 226) (by decide +kernel) rfl
theorem get_X1_27 {K : Kx} {cc : ByteArray} {g : Gm} {nL d : Nat} {ret : Option FieldType} {Q : State → Prop} {pc : Nat} {lv : List (Nat × Value)} {st : List Value} {σ : St} (hC : Ok K cc RX1 g nL d ret) (hd : decode cc pc = .ok (.getfield 27, 3)) (k : J K (wX g) nL Q (pc + 3) lv (.ref (g.1 28) :: st) σ) : J K (wX g) nL Q (pc) lv (.ref (g.1 22) :: st) σ := by
  obtain ⟨p, l, e, R, s, m, args, below, meth, c, D, A, ce, sl⟩ := K
  obtain ⟨hx, hb, hml, hown, hts, hK, hA, hSF, ⟨hR1, hR2, hR3, hR4⟩, hr, hlk⟩ := hC
  exact fun H locs ls hl hP hD hS => va_get (D := D) (ci := 1) (v := .ref (g.1 28)) (C := RX1) (T := TX1) (N := 10) hx hb hts uwX1 hown hK hP 22 rfl rfl 9 (by decide) (hts _ mf_X1_27) (fun _ h9 => h9) rfl hd (k H locs ls hl hP hD hS)
theorem mf_X1_30 : Cond.fieldLink RX1 30 "SongHour$Log" "hours" "I" ∈ GW := memT (i := 208) (by decide +kernel) rfl
theorem get_X1_30 {K : Kx} {cc : ByteArray} {g : Gm} {nL d : Nat} {ret : Option FieldType} {Q : State → Prop} {pc : Nat} {lv : List (Nat × Value)} {st : List Value} {σ : St} (hC : Ok K cc RX1 g nL d ret) (hd : decode cc pc = .ok (.getfield 30, 3)) (k : J K (wX g) nL Q (pc + 3) lv (.int (gi σ 10) :: st) σ) : J K (wX g) nL Q (pc) lv (.ref (g.1 22) :: st) σ := by
  obtain ⟨p, l, e, R, s, m, args, below, meth, c, D, A, ce, sl⟩ := K
  obtain ⟨hx, hb, hml, hown, hts, hK, hA, hSF, ⟨hR1, hR2, hR3, hR4⟩, hr, hlk⟩ := hC
  exact fun H locs ls hl hP hD hS => va_get (D := D) (ci := 1) (v := .int (gi σ 10)) (C := RX1) (T := TX1) (N := 10) hx hb hts uwX1 hown hK hP 22 rfl rfl 0 (by decide) (hts _ mf_X1_30) (fun _ h9 => h9) rfl hd (k H locs ls hl hP hD hS)
theorem put_X1_30 {K : Kx} {cc : ByteArray} {g : Gm} {nL d : Nat} {ret : Option FieldType} {Q : State → Prop} {pc : Nat} {lv : List (Nat × Value)} {st : List Value} {σ : St} (hC : Ok K cc RX1 g nL d ret) {v : Int32} {ρ : Type} {o : ρ} {f : St → Option ρ} (hd : decode cc pc = .ok (.putfield 30, 3)) (h : bnd (si σ 10 v) f = some o) (k : ∀ σ2, f σ2 = some o → J K (wX g) nL Q (pc + 3) lv (st) σ2) : J K (wX g) nL Q (pc) lv (.int v :: .ref (g.1 22) :: st) σ := by
  obtain ⟨p, l, e, R, s, m, args, below, meth, c, D, A, ce, sl⟩ := K
  obtain ⟨hx, hb, hml, hown, hts, hK, hA, hSF, ⟨hR1, hR2, hR3, hR4⟩, hr, hlk⟩ := hC
  exact fun H locs ls hl hP hD hS => va_put (D := D) (ci := 1) (v := .int v) (ty := .int) (C := RX1) (T := TX1) (N := 10) hx hb hts uwX1 tyX1 tyX1_ok nmX1 hown hK hP hD hS 22 rfl rfl 0 (by decide) (hts _ mf_X1_30) (fun _ h9 => h9) rfl (by decide +kernel) rfl rfl (Nat.le_of_ble_eq_true rfl) hd (fun H locs hP hD hS => k _ h H locs ls hl hP hD hS)
theorem mf_X1_34 : Cond.fieldLink RX1 34 "SongHour$Log" "plays" "I" ∈ GW := memT (i := 210) (by decide +kernel) rfl
theorem get_X1_34 {K : Kx} {cc : ByteArray} {g : Gm} {nL d : Nat} {ret : Option FieldType} {Q : State → Prop} {pc : Nat} {lv : List (Nat × Value)} {st : List Value} {σ : St} (hC : Ok K cc RX1 g nL d ret) (hd : decode cc pc = .ok (.getfield 34, 3)) (k : J K (wX g) nL Q (pc + 3) lv (.int (gi σ 11) :: st) σ) : J K (wX g) nL Q (pc) lv (.ref (g.1 22) :: st) σ := by
  obtain ⟨p, l, e, R, s, m, args, below, meth, c, D, A, ce, sl⟩ := K
  obtain ⟨hx, hb, hml, hown, hts, hK, hA, hSF, ⟨hR1, hR2, hR3, hR4⟩, hr, hlk⟩ := hC
  exact fun H locs ls hl hP hD hS => va_get (D := D) (ci := 1) (v := .int (gi σ 11)) (C := RX1) (T := TX1) (N := 10) hx hb hts uwX1 hown hK hP 22 rfl rfl 1 (by decide) (hts _ mf_X1_34) (fun _ h9 => h9) rfl hd (k H locs ls hl hP hD hS)
theorem put_X1_34 {K : Kx} {cc : ByteArray} {g : Gm} {nL d : Nat} {ret : Option FieldType} {Q : State → Prop} {pc : Nat} {lv : List (Nat × Value)} {st : List Value} {σ : St} (hC : Ok K cc RX1 g nL d ret) {v : Int32} {ρ : Type} {o : ρ} {f : St → Option ρ} (hd : decode cc pc = .ok (.putfield 34, 3)) (h : bnd (si σ 11 v) f = some o) (k : ∀ σ2, f σ2 = some o → J K (wX g) nL Q (pc + 3) lv (st) σ2) : J K (wX g) nL Q (pc) lv (.int v :: .ref (g.1 22) :: st) σ := by
  obtain ⟨p, l, e, R, s, m, args, below, meth, c, D, A, ce, sl⟩ := K
  obtain ⟨hx, hb, hml, hown, hts, hK, hA, hSF, ⟨hR1, hR2, hR3, hR4⟩, hr, hlk⟩ := hC
  exact fun H locs ls hl hP hD hS => va_put (D := D) (ci := 1) (v := .int v) (ty := .int) (C := RX1) (T := TX1) (N := 10) hx hb hts uwX1 tyX1 tyX1_ok nmX1 hown hK hP hD hS 22 rfl rfl 1 (by decide) (hts _ mf_X1_34) (fun _ h9 => h9) rfl (by decide +kernel) rfl rfl (Nat.le_of_ble_eq_true rfl) hd (fun H locs hP hD hS => k _ h H locs ls hl hP hD hS)
theorem mf_X1_37 : Cond.fieldLink RX1 37 "SongHour$Log" "secondsLeft" "I" ∈ GW := memT (i := 214) (by decide +kernel) rfl
theorem get_X1_37 {K : Kx} {cc : ByteArray} {g : Gm} {nL d : Nat} {ret : Option FieldType} {Q : State → Prop} {pc : Nat} {lv : List (Nat × Value)} {st : List Value} {σ : St} (hC : Ok K cc RX1 g nL d ret) (hd : decode cc pc = .ok (.getfield 37, 3)) (k : J K (wX g) nL Q (pc + 3) lv (.int (gi σ 13) :: st) σ) : J K (wX g) nL Q (pc) lv (.ref (g.1 22) :: st) σ := by
  obtain ⟨p, l, e, R, s, m, args, below, meth, c, D, A, ce, sl⟩ := K
  obtain ⟨hx, hb, hml, hown, hts, hK, hA, hSF, ⟨hR1, hR2, hR3, hR4⟩, hr, hlk⟩ := hC
  exact fun H locs ls hl hP hD hS => va_get (D := D) (ci := 1) (v := .int (gi σ 13)) (C := RX1) (T := TX1) (N := 10) hx hb hts uwX1 hown hK hP 22 rfl rfl 3 (by decide) (hts _ mf_X1_37) (fun _ h9 => h9) rfl hd (k H locs ls hl hP hD hS)
theorem put_X1_37 {K : Kx} {cc : ByteArray} {g : Gm} {nL d : Nat} {ret : Option FieldType} {Q : State → Prop} {pc : Nat} {lv : List (Nat × Value)} {st : List Value} {σ : St} (hC : Ok K cc RX1 g nL d ret) {v : Int32} {ρ : Type} {o : ρ} {f : St → Option ρ} (hd : decode cc pc = .ok (.putfield 37, 3)) (h : bnd (si σ 13 v) f = some o) (k : ∀ σ2, f σ2 = some o → J K (wX g) nL Q (pc + 3) lv (st) σ2) : J K (wX g) nL Q (pc) lv (.int v :: .ref (g.1 22) :: st) σ := by
  obtain ⟨p, l, e, R, s, m, args, below, meth, c, D, A, ce, sl⟩ := K
  obtain ⟨hx, hb, hml, hown, hts, hK, hA, hSF, ⟨hR1, hR2, hR3, hR4⟩, hr, hlk⟩ := hC
  exact fun H locs ls hl hP hD hS => va_put (D := D) (ci := 1) (v := .int v) (ty := .int) (C := RX1) (T := TX1) (N := 10) hx hb hts uwX1 tyX1 tyX1_ok nmX1 hown hK hP hD hS 22 rfl rfl 3 (by decide) (hts _ mf_X1_37) (fun _ h9 => h9) rfl (by decide +kernel) rfl rfl (Nat.le_of_ble_eq_true rfl) hd (fun H locs hP hD hS => k _ h H locs ls hl hP hD hS)
theorem mf_X1_40 : Cond.fieldLink RX1 40 "SongHour$Log" "emptyStretches" "I" ∈ GW := memT (i := 212) (by decide +kernel) rfl
theorem get_X1_40 {K : Kx} {cc : ByteArray} {g : Gm} {nL d : Nat} {ret : Option FieldType} {Q : State → Prop} {pc : Nat} {lv : List (Nat × Value)} {st : List Value} {σ : St} (hC : Ok K cc RX1 g nL d ret) (hd : decode cc pc = .ok (.getfield 40, 3)) (k : J K (wX g) nL Q (pc + 3) lv (.int (gi σ 12) :: st) σ) : J K (wX g) nL Q (pc) lv (.ref (g.1 22) :: st) σ := by
  obtain ⟨p, l, e, R, s, m, args, below, meth, c, D, A, ce, sl⟩ := K
  obtain ⟨hx, hb, hml, hown, hts, hK, hA, hSF, ⟨hR1, hR2, hR3, hR4⟩, hr, hlk⟩ := hC
  exact fun H locs ls hl hP hD hS => va_get (D := D) (ci := 1) (v := .int (gi σ 12)) (C := RX1) (T := TX1) (N := 10) hx hb hts uwX1 hown hK hP 22 rfl rfl 2 (by decide) (hts _ mf_X1_40) (fun _ h9 => h9) rfl hd (k H locs ls hl hP hD hS)
theorem put_X1_40 {K : Kx} {cc : ByteArray} {g : Gm} {nL d : Nat} {ret : Option FieldType} {Q : State → Prop} {pc : Nat} {lv : List (Nat × Value)} {st : List Value} {σ : St} (hC : Ok K cc RX1 g nL d ret) {v : Int32} {ρ : Type} {o : ρ} {f : St → Option ρ} (hd : decode cc pc = .ok (.putfield 40, 3)) (h : bnd (si σ 12 v) f = some o) (k : ∀ σ2, f σ2 = some o → J K (wX g) nL Q (pc + 3) lv (st) σ2) : J K (wX g) nL Q (pc) lv (.int v :: .ref (g.1 22) :: st) σ := by
  obtain ⟨p, l, e, R, s, m, args, below, meth, c, D, A, ce, sl⟩ := K
  obtain ⟨hx, hb, hml, hown, hts, hK, hA, hSF, ⟨hR1, hR2, hR3, hR4⟩, hr, hlk⟩ := hC
  exact fun H locs ls hl hP hD hS => va_put (D := D) (ci := 1) (v := .int v) (ty := .int) (C := RX1) (T := TX1) (N := 10) hx hb hts uwX1 tyX1 tyX1_ok nmX1 hown hK hP hD hS 22 rfl rfl 2 (by decide) (hts _ mf_X1_40) (fun _ h9 => h9) rfl (by decide +kernel) rfl rfl (Nat.le_of_ble_eq_true rfl) hd (fun H locs hP hD hS => k _ h H locs ls hl hP hD hS)
theorem mf_X2_9 : Cond.fieldLink RX2 9 "SongHour$RowSearch" "best" "[I" ∈ GW := memT (i := 255) (by decide +kernel) rfl
theorem get_X2_9 {K : Kx} {cc : ByteArray} {g : Gm} {nL d : Nat} {ret : Option FieldType} {Q : State → Prop} {pc : Nat} {lv : List (Nat × Value)} {st : List Value} {σ : St} (hC : Ok K cc RX2 g nL d ret) (hd : decode cc pc = .ok (.getfield 9, 3)) (k : J K (wX g) nL Q (pc + 3) lv (.ref (g.1 30) :: st) σ) : J K (wX g) nL Q (pc) lv (.ref (g.1 29) :: st) σ := by
  obtain ⟨p, l, e, R, s, m, args, below, meth, c, D, A, ce, sl⟩ := K
  obtain ⟨hx, hb, hml, hown, hts, hK, hA, hSF, ⟨hR1, hR2, hR3, hR4⟩, hr, hlk⟩ := hC
  exact fun H locs ls hl hP hD hS => va_get (D := D) (ci := 2) (v := .ref (g.1 30)) (C := RX2) (T := TX2) (N := 20) hx hb hts uwX2 hown hK hP 29 rfl rfl 0 (by decide) (hts _ mf_X2_9) (fun _ h9 => h9) rfl hd (k H locs ls hl hP hD hS)
theorem mf_X2_15 : Cond.fieldLink RX2 15 "SongHour$RowSearch" "row" "[I" ∈ GW := memT (i := 261) (by decide +kernel) rfl
theorem get_X2_15 {K : Kx} {cc : ByteArray} {g : Gm} {nL d : Nat} {ret : Option FieldType} {Q : State → Prop} {pc : Nat} {lv : List (Nat × Value)} {st : List Value} {σ : St} (hC : Ok K cc RX2 g nL d ret) (hd : decode cc pc = .ok (.getfield 15, 3)) (k : J K (wX g) nL Q (pc + 3) lv (.ref (g.1 31) :: st) σ) : J K (wX g) nL Q (pc) lv (.ref (g.1 29) :: st) σ := by
  obtain ⟨p, l, e, R, s, m, args, below, meth, c, D, A, ce, sl⟩ := K
  obtain ⟨hx, hb, hml, hown, hts, hK, hA, hSF, ⟨hR1, hR2, hR3, hR4⟩, hr, hlk⟩ := hC
  exact fun H locs ls hl hP hD hS => va_get (D := D) (ci := 2) (v := .ref (g.1 31)) (C := RX2) (T := TX2) (N := 20) hx hb hts uwX2 hown hK hP 29 rfl rfl 4 (by decide) (hts _ mf_X2_15) (fun _ h9 => h9) rfl hd (k H locs ls hl hP hD hS)
theorem mf_X2_18 : Cond.fieldLink RX2 18 "SongHour$RowSearch" "heat" "[I" ∈ GW := memT (i := 262) (by decide +kernel) rfl
theorem get_X2_18 {K : Kx} {cc : ByteArray} {g : Gm} {nL d : Nat} {ret : Option FieldType} {Q : State → Prop} {pc : Nat} {lv : List (Nat × Value)} {st : List Value} {σ : St} (hC : Ok K cc RX2 g nL d ret) (hd : decode cc pc = .ok (.getfield 18, 3)) (k : J K (wX g) nL Q (pc + 3) lv (.ref (g.1 32) :: st) σ) : J K (wX g) nL Q (pc) lv (.ref (g.1 29) :: st) σ := by
  obtain ⟨p, l, e, R, s, m, args, below, meth, c, D, A, ce, sl⟩ := K
  obtain ⟨hx, hb, hml, hown, hts, hK, hA, hSF, ⟨hR1, hR2, hR3, hR4⟩, hr, hlk⟩ := hC
  exact fun H locs ls hl hP hD hS => va_get (D := D) (ci := 2) (v := .ref (g.1 32)) (C := RX2) (T := TX2) (N := 20) hx hb hts uwX2 hown hK hP 29 rfl rfl 5 (by decide) (hts _ mf_X2_18) (fun _ h9 => h9) rfl hd (k H locs ls hl hP hD hS)
theorem mf_X2_21 : Cond.fieldLink RX2 21 "SongHour$RowSearch" "songFree" "[I" ∈ GW := memT (i := 263) (by decide +kernel) rfl
theorem get_X2_21 {K : Kx} {cc : ByteArray} {g : Gm} {nL d : Nat} {ret : Option FieldType} {Q : State → Prop} {pc : Nat} {lv : List (Nat × Value)} {st : List Value} {σ : St} (hC : Ok K cc RX2 g nL d ret) (hd : decode cc pc = .ok (.getfield 21, 3)) (k : J K (wX g) nL Q (pc + 3) lv (.ref (g.1 33) :: st) σ) : J K (wX g) nL Q (pc) lv (.ref (g.1 29) :: st) σ := by
  obtain ⟨p, l, e, R, s, m, args, below, meth, c, D, A, ce, sl⟩ := K
  obtain ⟨hx, hb, hml, hown, hts, hK, hA, hSF, ⟨hR1, hR2, hR3, hR4⟩, hr, hlk⟩ := hC
  exact fun H locs ls hl hP hD hS => va_get (D := D) (ci := 2) (v := .ref (g.1 33)) (C := RX2) (T := TX2) (N := 20) hx hb hts uwX2 hown hK hP 29 rfl rfl 6 (by decide) (hts _ mf_X2_21) (fun _ h9 => h9) rfl hd (k H locs ls hl hP hD hS)
theorem mf_X2_24 : Cond.fieldLink RX2 24 "SongHour$RowSearch" "artistFree" "[I" ∈ GW := memT (i := 264) (by decide +kernel) rfl
theorem get_X2_24 {K : Kx} {cc : ByteArray} {g : Gm} {nL d : Nat} {ret : Option FieldType} {Q : State → Prop} {pc : Nat} {lv : List (Nat × Value)} {st : List Value} {σ : St} (hC : Ok K cc RX2 g nL d ret) (hd : decode cc pc = .ok (.getfield 24, 3)) (k : J K (wX g) nL Q (pc + 3) lv (.ref (g.1 34) :: st) σ) : J K (wX g) nL Q (pc) lv (.ref (g.1 29) :: st) σ := by
  obtain ⟨p, l, e, R, s, m, args, below, meth, c, D, A, ce, sl⟩ := K
  obtain ⟨hx, hb, hml, hown, hts, hK, hA, hSF, ⟨hR1, hR2, hR3, hR4⟩, hr, hlk⟩ := hC
  exact fun H locs ls hl hP hD hS => va_get (D := D) (ci := 2) (v := .ref (g.1 34)) (C := RX2) (T := TX2) (N := 20) hx hb hts uwX2 hown hK hP 29 rfl rfl 7 (by decide) (hts _ mf_X2_24) (fun _ h9 => h9) rfl hd (k H locs ls hl hP hD hS)
theorem mf_X2_27 : Cond.fieldLink RX2 27 "SongHour$RowSearch" "pool" "[I" ∈ GW := memT (i := 265) (by decide +kernel) rfl
theorem get_X2_27 {K : Kx} {cc : ByteArray} {g : Gm} {nL d : Nat} {ret : Option FieldType} {Q : State → Prop} {pc : Nat} {lv : List (Nat × Value)} {st : List Value} {σ : St} (hC : Ok K cc RX2 g nL d ret) (hd : decode cc pc = .ok (.getfield 27, 3)) (k : J K (wX g) nL Q (pc + 3) lv (.ref (g.1 35) :: st) σ) : J K (wX g) nL Q (pc) lv (.ref (g.1 29) :: st) σ := by
  obtain ⟨p, l, e, R, s, m, args, below, meth, c, D, A, ce, sl⟩ := K
  obtain ⟨hx, hb, hml, hown, hts, hK, hA, hSF, ⟨hR1, hR2, hR3, hR4⟩, hr, hlk⟩ := hC
  exact fun H locs ls hl hP hD hS => va_get (D := D) (ci := 2) (v := .ref (g.1 35)) (C := RX2) (T := TX2) (N := 20) hx hb hts uwX2 hown hK hP 29 rfl rfl 8 (by decide) (hts _ mf_X2_27) (fun _ h9 => h9) rfl hd (k H locs ls hl hP hD hS)
theorem mf_X2_30 : Cond.fieldLink RX2 30 "SongHour$RowSearch" "longestFirst" "[I" ∈ GW := memT (i := 266) (by decide +kernel) rfl
theorem get_X2_30 {K : Kx} {cc : ByteArray} {g : Gm} {nL d : Nat} {ret : Option FieldType} {Q : State → Prop} {pc : Nat} {lv : List (Nat × Value)} {st : List Value} {σ : St} (hC : Ok K cc RX2 g nL d ret) (hd : decode cc pc = .ok (.getfield 30, 3)) (k : J K (wX g) nL Q (pc + 3) lv (.ref (g.1 36) :: st) σ) : J K (wX g) nL Q (pc) lv (.ref (g.1 29) :: st) σ := by
  obtain ⟨p, l, e, R, s, m, args, below, meth, c, D, A, ce, sl⟩ := K
  obtain ⟨hx, hb, hml, hown, hts, hK, hA, hSF, ⟨hR1, hR2, hR3, hR4⟩, hr, hlk⟩ := hC
  exact fun H locs ls hl hP hD hS => va_get (D := D) (ci := 2) (v := .ref (g.1 36)) (C := RX2) (T := TX2) (N := 20) hx hb hts uwX2 hown hK hP 29 rfl rfl 9 (by decide) (hts _ mf_X2_30) (fun _ h9 => h9) rfl hd (k H locs ls hl hP hD hS)
theorem mf_X2_33 : Cond.fieldLink RX2 33 "SongHour$Rulebook" "now" "[I" ∈ GW := memT (i := 83) (by decide +kernel) rfl
theorem get_X2_33 {K : Kx} {cc : ByteArray} {g : Gm} {nL d : Nat} {ret : Option FieldType} {Q : State → Prop} {pc : Nat} {lv : List (Nat × Value)} {st : List Value} {σ : St} (hC : Ok K cc RX2 g nL d ret) (hd : decode cc pc = .ok (.getfield 33, 3)) (k : J K (wX g) nL Q (pc + 3) lv (.ref (g.1 5) :: st) σ) : J K (wX g) nL Q (pc) lv (.ref (g.1 4) :: st) σ := by
  obtain ⟨p, l, e, R, s, m, args, below, meth, c, D, A, ce, sl⟩ := K
  obtain ⟨hx, hb, hml, hown, hts, hK, hA, hSF, ⟨hR1, hR2, hR3, hR4⟩, hr, hlk⟩ := hC
  exact fun H locs ls hl hP hD hS => va_get (D := D) (ci := 3) (v := .ref (g.1 5)) (C := RX3) (T := TX3) (N := 4) hx hb hts uwX3 hown hK hP 4 rfl rfl 0 (by decide) (hts _ mf_X2_33) (fun _ h9 => h9) rfl hd (k H locs ls hl hP hD hS)
theorem mf_X2_38 : Cond.fieldLink RX2 38 "SongHour$RowSearch" "gap" "I" ∈ GW := memT (i := 270) (by decide +kernel) rfl
theorem get_X2_38 {K : Kx} {cc : ByteArray} {g : Gm} {nL d : Nat} {ret : Option FieldType} {Q : State → Prop} {pc : Nat} {lv : List (Nat × Value)} {st : List Value} {σ : St} (hC : Ok K cc RX2 g nL d ret) (hd : decode cc pc = .ok (.getfield 38, 3)) (k : J K (wX g) nL Q (pc + 3) lv (.int (gi σ 20) :: st) σ) : J K (wX g) nL Q (pc) lv (.ref (g.1 29) :: st) σ := by
  obtain ⟨p, l, e, R, s, m, args, below, meth, c, D, A, ce, sl⟩ := K
  obtain ⟨hx, hb, hml, hown, hts, hK, hA, hSF, ⟨hR1, hR2, hR3, hR4⟩, hr, hlk⟩ := hC
  exact fun H locs ls hl hP hD hS => va_get (D := D) (ci := 2) (v := .int (gi σ 20)) (C := RX2) (T := TX2) (N := 20) hx hb hts uwX2 hown hK hP 29 rfl rfl 13 (by decide) (hts _ mf_X2_38) (fun _ h9 => h9) rfl hd (k H locs ls hl hP hD hS)
theorem put_X2_38 {K : Kx} {cc : ByteArray} {g : Gm} {nL d : Nat} {ret : Option FieldType} {Q : State → Prop} {pc : Nat} {lv : List (Nat × Value)} {st : List Value} {σ : St} (hC : Ok K cc RX2 g nL d ret) {v : Int32} {ρ : Type} {o : ρ} {f : St → Option ρ} (hd : decode cc pc = .ok (.putfield 38, 3)) (h : bnd (si σ 20 v) f = some o) (k : ∀ σ2, f σ2 = some o → J K (wX g) nL Q (pc + 3) lv (st) σ2) : J K (wX g) nL Q (pc) lv (.int v :: .ref (g.1 29) :: st) σ := by
  obtain ⟨p, l, e, R, s, m, args, below, meth, c, D, A, ce, sl⟩ := K
  obtain ⟨hx, hb, hml, hown, hts, hK, hA, hSF, ⟨hR1, hR2, hR3, hR4⟩, hr, hlk⟩ := hC
  exact fun H locs ls hl hP hD hS => va_put (D := D) (ci := 2) (v := .int v) (ty := .int) (C := RX2) (T := TX2) (N := 20) hx hb hts uwX2 tyX2 tyX2_ok nmX2 hown hK hP hD hS 29 rfl rfl 13 (by decide) (hts _ mf_X2_38) (fun _ h9 => h9) rfl (by decide +kernel) rfl rfl (Nat.le_of_ble_eq_true rfl) hd (fun H locs hP hD hS => k _ h H locs ls hl hP hD hS)
theorem mf_X2_42 : Cond.fieldLink RX2 42 "SongHour$RowSearch" "artistGap" "I" ∈ GW := memT (i := 271) (by decide +kernel) rfl
theorem get_X2_42 {K : Kx} {cc : ByteArray} {g : Gm} {nL d : Nat} {ret : Option FieldType} {Q : State → Prop} {pc : Nat} {lv : List (Nat × Value)} {st : List Value} {σ : St} (hC : Ok K cc RX2 g nL d ret) (hd : decode cc pc = .ok (.getfield 42, 3)) (k : J K (wX g) nL Q (pc + 3) lv (.int (gi σ 21) :: st) σ) : J K (wX g) nL Q (pc) lv (.ref (g.1 29) :: st) σ := by
  obtain ⟨p, l, e, R, s, m, args, below, meth, c, D, A, ce, sl⟩ := K
  obtain ⟨hx, hb, hml, hown, hts, hK, hA, hSF, ⟨hR1, hR2, hR3, hR4⟩, hr, hlk⟩ := hC
  exact fun H locs ls hl hP hD hS => va_get (D := D) (ci := 2) (v := .int (gi σ 21)) (C := RX2) (T := TX2) (N := 20) hx hb hts uwX2 hown hK hP 29 rfl rfl 14 (by decide) (hts _ mf_X2_42) (fun _ h9 => h9) rfl hd (k H locs ls hl hP hD hS)
theorem put_X2_42 {K : Kx} {cc : ByteArray} {g : Gm} {nL d : Nat} {ret : Option FieldType} {Q : State → Prop} {pc : Nat} {lv : List (Nat × Value)} {st : List Value} {σ : St} (hC : Ok K cc RX2 g nL d ret) {v : Int32} {ρ : Type} {o : ρ} {f : St → Option ρ} (hd : decode cc pc = .ok (.putfield 42, 3)) (h : bnd (si σ 21 v) f = some o) (k : ∀ σ2, f σ2 = some o → J K (wX g) nL Q (pc + 3) lv (st) σ2) : J K (wX g) nL Q (pc) lv (.int v :: .ref (g.1 29) :: st) σ := by
  obtain ⟨p, l, e, R, s, m, args, below, meth, c, D, A, ce, sl⟩ := K
  obtain ⟨hx, hb, hml, hown, hts, hK, hA, hSF, ⟨hR1, hR2, hR3, hR4⟩, hr, hlk⟩ := hC
  exact fun H locs ls hl hP hD hS => va_put (D := D) (ci := 2) (v := .int v) (ty := .int) (C := RX2) (T := TX2) (N := 20) hx hb hts uwX2 tyX2 tyX2_ok nmX2 hown hK hP hD hS 29 rfl rfl 14 (by decide) (hts _ mf_X2_42) (fun _ h9 => h9) rfl (by decide +kernel) rfl rfl (Nat.le_of_ble_eq_true rfl) hd (fun H locs hP hD hS => k _ h H locs ls hl hP hD hS)
theorem mf_X2_45 : Cond.fieldLink RX2 45 "SongHour$RowSearch" "steps" "I" ∈ GW := memT (i := 272) (by decide +kernel) rfl
theorem get_X2_45 {K : Kx} {cc : ByteArray} {g : Gm} {nL d : Nat} {ret : Option FieldType} {Q : State → Prop} {pc : Nat} {lv : List (Nat × Value)} {st : List Value} {σ : St} (hC : Ok K cc RX2 g nL d ret) (hd : decode cc pc = .ok (.getfield 45, 3)) (k : J K (wX g) nL Q (pc + 3) lv (.int (gi σ 22) :: st) σ) : J K (wX g) nL Q (pc) lv (.ref (g.1 29) :: st) σ := by
  obtain ⟨p, l, e, R, s, m, args, below, meth, c, D, A, ce, sl⟩ := K
  obtain ⟨hx, hb, hml, hown, hts, hK, hA, hSF, ⟨hR1, hR2, hR3, hR4⟩, hr, hlk⟩ := hC
  exact fun H locs ls hl hP hD hS => va_get (D := D) (ci := 2) (v := .int (gi σ 22)) (C := RX2) (T := TX2) (N := 20) hx hb hts uwX2 hown hK hP 29 rfl rfl 15 (by decide) (hts _ mf_X2_45) (fun _ h9 => h9) rfl hd (k H locs ls hl hP hD hS)
theorem put_X2_45 {K : Kx} {cc : ByteArray} {g : Gm} {nL d : Nat} {ret : Option FieldType} {Q : State → Prop} {pc : Nat} {lv : List (Nat × Value)} {st : List Value} {σ : St} (hC : Ok K cc RX2 g nL d ret) {v : Int32} {ρ : Type} {o : ρ} {f : St → Option ρ} (hd : decode cc pc = .ok (.putfield 45, 3)) (h : bnd (si σ 22 v) f = some o) (k : ∀ σ2, f σ2 = some o → J K (wX g) nL Q (pc + 3) lv (st) σ2) : J K (wX g) nL Q (pc) lv (.int v :: .ref (g.1 29) :: st) σ := by
  obtain ⟨p, l, e, R, s, m, args, below, meth, c, D, A, ce, sl⟩ := K
  obtain ⟨hx, hb, hml, hown, hts, hK, hA, hSF, ⟨hR1, hR2, hR3, hR4⟩, hr, hlk⟩ := hC
  exact fun H locs ls hl hP hD hS => va_put (D := D) (ci := 2) (v := .int v) (ty := .int) (C := RX2) (T := TX2) (N := 20) hx hb hts uwX2 tyX2 tyX2_ok nmX2 hown hK hP hD hS 29 rfl rfl 15 (by decide) (hts _ mf_X2_45) (fun _ h9 => h9) rfl (by decide +kernel) rfl rfl (Nat.le_of_ble_eq_true rfl) hd (fun H locs hP hD hS => k _ h H locs ls hl hP hD hS)
theorem mf_X2_48 : Cond.fieldLink RX2 48 "SongHour$RowSearch" "slack" "I" ∈ GW := memT (i := 273) (by decide +kernel) rfl
theorem get_X2_48 {K : Kx} {cc : ByteArray} {g : Gm} {nL d : Nat} {ret : Option FieldType} {Q : State → Prop} {pc : Nat} {lv : List (Nat × Value)} {st : List Value} {σ : St} (hC : Ok K cc RX2 g nL d ret) (hd : decode cc pc = .ok (.getfield 48, 3)) (k : J K (wX g) nL Q (pc + 3) lv (.int (gi σ 23) :: st) σ) : J K (wX g) nL Q (pc) lv (.ref (g.1 29) :: st) σ := by
  obtain ⟨p, l, e, R, s, m, args, below, meth, c, D, A, ce, sl⟩ := K
  obtain ⟨hx, hb, hml, hown, hts, hK, hA, hSF, ⟨hR1, hR2, hR3, hR4⟩, hr, hlk⟩ := hC
  exact fun H locs ls hl hP hD hS => va_get (D := D) (ci := 2) (v := .int (gi σ 23)) (C := RX2) (T := TX2) (N := 20) hx hb hts uwX2 hown hK hP 29 rfl rfl 16 (by decide) (hts _ mf_X2_48) (fun _ h9 => h9) rfl hd (k H locs ls hl hP hD hS)
theorem put_X2_48 {K : Kx} {cc : ByteArray} {g : Gm} {nL d : Nat} {ret : Option FieldType} {Q : State → Prop} {pc : Nat} {lv : List (Nat × Value)} {st : List Value} {σ : St} (hC : Ok K cc RX2 g nL d ret) {v : Int32} {ρ : Type} {o : ρ} {f : St → Option ρ} (hd : decode cc pc = .ok (.putfield 48, 3)) (h : bnd (si σ 23 v) f = some o) (k : ∀ σ2, f σ2 = some o → J K (wX g) nL Q (pc + 3) lv (st) σ2) : J K (wX g) nL Q (pc) lv (.int v :: .ref (g.1 29) :: st) σ := by
  obtain ⟨p, l, e, R, s, m, args, below, meth, c, D, A, ce, sl⟩ := K
  obtain ⟨hx, hb, hml, hown, hts, hK, hA, hSF, ⟨hR1, hR2, hR3, hR4⟩, hr, hlk⟩ := hC
  exact fun H locs ls hl hP hD hS => va_put (D := D) (ci := 2) (v := .int v) (ty := .int) (C := RX2) (T := TX2) (N := 20) hx hb hts uwX2 tyX2 tyX2_ok nmX2 hown hK hP hD hS 29 rfl rfl 16 (by decide) (hts _ mf_X2_48) (fun _ h9 => h9) rfl (by decide +kernel) rfl rfl (Nat.le_of_ble_eq_true rfl) hd (fun H locs hP hD hS => k _ h H locs ls hl hP hD hS)
theorem mf_X2_57 : Cond.fieldLink RX2 57 "SongHour$RowSearch" "most" "I" ∈ GW := memT (i := 274) (by decide +kernel) rfl
theorem get_X2_57 {K : Kx} {cc : ByteArray} {g : Gm} {nL d : Nat} {ret : Option FieldType} {Q : State → Prop} {pc : Nat} {lv : List (Nat × Value)} {st : List Value} {σ : St} (hC : Ok K cc RX2 g nL d ret) (hd : decode cc pc = .ok (.getfield 57, 3)) (k : J K (wX g) nL Q (pc + 3) lv (.int (gi σ 24) :: st) σ) : J K (wX g) nL Q (pc) lv (.ref (g.1 29) :: st) σ := by
  obtain ⟨p, l, e, R, s, m, args, below, meth, c, D, A, ce, sl⟩ := K
  obtain ⟨hx, hb, hml, hown, hts, hK, hA, hSF, ⟨hR1, hR2, hR3, hR4⟩, hr, hlk⟩ := hC
  exact fun H locs ls hl hP hD hS => va_get (D := D) (ci := 2) (v := .int (gi σ 24)) (C := RX2) (T := TX2) (N := 20) hx hb hts uwX2 hown hK hP 29 rfl rfl 17 (by decide) (hts _ mf_X2_57) (fun _ h9 => h9) rfl hd (k H locs ls hl hP hD hS)
theorem put_X2_57 {K : Kx} {cc : ByteArray} {g : Gm} {nL d : Nat} {ret : Option FieldType} {Q : State → Prop} {pc : Nat} {lv : List (Nat × Value)} {st : List Value} {σ : St} (hC : Ok K cc RX2 g nL d ret) {v : Int32} {ρ : Type} {o : ρ} {f : St → Option ρ} (hd : decode cc pc = .ok (.putfield 57, 3)) (h : bnd (si σ 24 v) f = some o) (k : ∀ σ2, f σ2 = some o → J K (wX g) nL Q (pc + 3) lv (st) σ2) : J K (wX g) nL Q (pc) lv (.int v :: .ref (g.1 29) :: st) σ := by
  obtain ⟨p, l, e, R, s, m, args, below, meth, c, D, A, ce, sl⟩ := K
  obtain ⟨hx, hb, hml, hown, hts, hK, hA, hSF, ⟨hR1, hR2, hR3, hR4⟩, hr, hlk⟩ := hC
  exact fun H locs ls hl hP hD hS => va_put (D := D) (ci := 2) (v := .int v) (ty := .int) (C := RX2) (T := TX2) (N := 20) hx hb hts uwX2 tyX2 tyX2_ok nmX2 hown hK hP hD hS 29 rfl rfl 17 (by decide) (hts _ mf_X2_57) (fun _ h9 => h9) rfl (by decide +kernel) rfl rfl (Nat.le_of_ble_eq_true rfl) hd (fun H locs hP hD hS => k _ h H locs ls hl hP hD hS)
theorem mf_X2_60 : Cond.fieldLink RX2 60 "SongHour$Songs" "size" "I" ∈ GW := memT (i := 144) (by decide +kernel) rfl
theorem get_X2_60 {K : Kx} {cc : ByteArray} {g : Gm} {nL d : Nat} {ret : Option FieldType} {Q : State → Prop} {pc : Nat} {lv : List (Nat × Value)} {st : List Value} {σ : St} (hC : Ok K cc RX2 g nL d ret) (hd : decode cc pc = .ok (.getfield 60, 3)) (k : J K (wX g) nL Q (pc + 3) lv (.int (gi σ 9) :: st) σ) : J K (wX g) nL Q (pc) lv (.ref (g.1 8) :: st) σ := by
  obtain ⟨p, l, e, R, s, m, args, below, meth, c, D, A, ce, sl⟩ := K
  obtain ⟨hx, hb, hml, hown, hts, hK, hA, hSF, ⟨hR1, hR2, hR3, hR4⟩, hr, hlk⟩ := hC
  exact fun H locs ls hl hP hD hS => va_get (D := D) (ci := 4) (v := .int (gi σ 9)) (C := RX4) (T := TX4) (N := 14) hx hb hts uwX4 hown hK hP 8 rfl rfl 0 (by decide) (hts _ mf_X2_60) (fun _ h9 => h9) rfl hd (k H locs ls hl hP hD hS)
theorem put_X2_60 {K : Kx} {cc : ByteArray} {g : Gm} {nL d : Nat} {ret : Option FieldType} {Q : State → Prop} {pc : Nat} {lv : List (Nat × Value)} {st : List Value} {σ : St} (hC : Ok K cc RX2 g nL d ret) {v : Int32} {ρ : Type} {o : ρ} {f : St → Option ρ} (hd : decode cc pc = .ok (.putfield 60, 3)) (h : bnd (si σ 9 v) f = some o) (k : ∀ σ2, f σ2 = some o → J K (wX g) nL Q (pc + 3) lv (st) σ2) : J K (wX g) nL Q (pc) lv (.int v :: .ref (g.1 8) :: st) σ := by
  obtain ⟨p, l, e, R, s, m, args, below, meth, c, D, A, ce, sl⟩ := K
  obtain ⟨hx, hb, hml, hown, hts, hK, hA, hSF, ⟨hR1, hR2, hR3, hR4⟩, hr, hlk⟩ := hC
  exact fun H locs ls hl hP hD hS => va_put (D := D) (ci := 4) (v := .int v) (ty := .int) (C := RX4) (T := TX4) (N := 14) hx hb hts uwX4 tyX4 tyX4_ok nmX4 hown hK hP hD hS 8 rfl rfl 0 (by decide) (hts _ mf_X2_60) (fun _ h9 => h9) rfl (by decide +kernel) rfl rfl (Nat.le_of_ble_eq_true rfl) hd (fun H locs hP hD hS => k _ h H locs ls hl hP hD hS)
theorem mf_X2_68 : Cond.fieldLink RX2 68 "SongHour$RowSearch" "finish" "I" ∈ GW := memT (i := 275) (by decide +kernel) rfl
theorem get_X2_68 {K : Kx} {cc : ByteArray} {g : Gm} {nL d : Nat} {ret : Option FieldType} {Q : State → Prop} {pc : Nat} {lv : List (Nat × Value)} {st : List Value} {σ : St} (hC : Ok K cc RX2 g nL d ret) (hd : decode cc pc = .ok (.getfield 68, 3)) (k : J K (wX g) nL Q (pc + 3) lv (.int (gi σ 25) :: st) σ) : J K (wX g) nL Q (pc) lv (.ref (g.1 29) :: st) σ := by
  obtain ⟨p, l, e, R, s, m, args, below, meth, c, D, A, ce, sl⟩ := K
  obtain ⟨hx, hb, hml, hown, hts, hK, hA, hSF, ⟨hR1, hR2, hR3, hR4⟩, hr, hlk⟩ := hC
  exact fun H locs ls hl hP hD hS => va_get (D := D) (ci := 2) (v := .int (gi σ 25)) (C := RX2) (T := TX2) (N := 20) hx hb hts uwX2 hown hK hP 29 rfl rfl 18 (by decide) (hts _ mf_X2_68) (fun _ h9 => h9) rfl hd (k H locs ls hl hP hD hS)
theorem put_X2_68 {K : Kx} {cc : ByteArray} {g : Gm} {nL d : Nat} {ret : Option FieldType} {Q : State → Prop} {pc : Nat} {lv : List (Nat × Value)} {st : List Value} {σ : St} (hC : Ok K cc RX2 g nL d ret) {v : Int32} {ρ : Type} {o : ρ} {f : St → Option ρ} (hd : decode cc pc = .ok (.putfield 68, 3)) (h : bnd (si σ 25 v) f = some o) (k : ∀ σ2, f σ2 = some o → J K (wX g) nL Q (pc + 3) lv (st) σ2) : J K (wX g) nL Q (pc) lv (.int v :: .ref (g.1 29) :: st) σ := by
  obtain ⟨p, l, e, R, s, m, args, below, meth, c, D, A, ce, sl⟩ := K
  obtain ⟨hx, hb, hml, hown, hts, hK, hA, hSF, ⟨hR1, hR2, hR3, hR4⟩, hr, hlk⟩ := hC
  exact fun H locs ls hl hP hD hS => va_put (D := D) (ci := 2) (v := .int v) (ty := .int) (C := RX2) (T := TX2) (N := 20) hx hb hts uwX2 tyX2 tyX2_ok nmX2 hown hK hP hD hS 29 rfl rfl 18 (by decide) (hts _ mf_X2_68) (fun _ h9 => h9) rfl (by decide +kernel) rfl rfl (Nat.le_of_ble_eq_true rfl) hd (fun H locs hP hD hS => k _ h H locs ls hl hP hD hS)
theorem mf_X2_71 : Cond.fieldLink RX2 71 "SongHour$RowSearch" "wantedNew" "I" ∈ GW := memT (i := 276) (by decide +kernel) rfl
theorem get_X2_71 {K : Kx} {cc : ByteArray} {g : Gm} {nL d : Nat} {ret : Option FieldType} {Q : State → Prop} {pc : Nat} {lv : List (Nat × Value)} {st : List Value} {σ : St} (hC : Ok K cc RX2 g nL d ret) (hd : decode cc pc = .ok (.getfield 71, 3)) (k : J K (wX g) nL Q (pc + 3) lv (.int (gi σ 26) :: st) σ) : J K (wX g) nL Q (pc) lv (.ref (g.1 29) :: st) σ := by
  obtain ⟨p, l, e, R, s, m, args, below, meth, c, D, A, ce, sl⟩ := K
  obtain ⟨hx, hb, hml, hown, hts, hK, hA, hSF, ⟨hR1, hR2, hR3, hR4⟩, hr, hlk⟩ := hC
  exact fun H locs ls hl hP hD hS => va_get (D := D) (ci := 2) (v := .int (gi σ 26)) (C := RX2) (T := TX2) (N := 20) hx hb hts uwX2 hown hK hP 29 rfl rfl 19 (by decide) (hts _ mf_X2_71) (fun _ h9 => h9) rfl hd (k H locs ls hl hP hD hS)
theorem put_X2_71 {K : Kx} {cc : ByteArray} {g : Gm} {nL d : Nat} {ret : Option FieldType} {Q : State → Prop} {pc : Nat} {lv : List (Nat × Value)} {st : List Value} {σ : St} (hC : Ok K cc RX2 g nL d ret) {v : Int32} {ρ : Type} {o : ρ} {f : St → Option ρ} (hd : decode cc pc = .ok (.putfield 71, 3)) (h : bnd (si σ 26 v) f = some o) (k : ∀ σ2, f σ2 = some o → J K (wX g) nL Q (pc + 3) lv (st) σ2) : J K (wX g) nL Q (pc) lv (.int v :: .ref (g.1 29) :: st) σ := by
  obtain ⟨p, l, e, R, s, m, args, below, meth, c, D, A, ce, sl⟩ := K
  obtain ⟨hx, hb, hml, hown, hts, hK, hA, hSF, ⟨hR1, hR2, hR3, hR4⟩, hr, hlk⟩ := hC
  exact fun H locs ls hl hP hD hS => va_put (D := D) (ci := 2) (v := .int v) (ty := .int) (C := RX2) (T := TX2) (N := 20) hx hb hts uwX2 tyX2 tyX2_ok nmX2 hown hK hP hD hS 29 rfl rfl 19 (by decide) (hts _ mf_X2_71) (fun _ h9 => h9) rfl (by decide +kernel) rfl rfl (Nat.le_of_ble_eq_true rfl) hd (fun H locs hP hD hS => k _ h H locs ls hl hP hD hS)
theorem mf_X2_74 : Cond.fieldLink RX2 74 "SongHour$RowSearch" "bestSize" "I" ∈ GW := memT (i := 257) (by decide +kernel) rfl
theorem get_X2_74 {K : Kx} {cc : ByteArray} {g : Gm} {nL d : Nat} {ret : Option FieldType} {Q : State → Prop} {pc : Nat} {lv : List (Nat × Value)} {st : List Value} {σ : St} (hC : Ok K cc RX2 g nL d ret) (hd : decode cc pc = .ok (.getfield 74, 3)) (k : J K (wX g) nL Q (pc + 3) lv (.int (gi σ 14) :: st) σ) : J K (wX g) nL Q (pc) lv (.ref (g.1 29) :: st) σ := by
  obtain ⟨p, l, e, R, s, m, args, below, meth, c, D, A, ce, sl⟩ := K
  obtain ⟨hx, hb, hml, hown, hts, hK, hA, hSF, ⟨hR1, hR2, hR3, hR4⟩, hr, hlk⟩ := hC
  exact fun H locs ls hl hP hD hS => va_get (D := D) (ci := 2) (v := .int (gi σ 14)) (C := RX2) (T := TX2) (N := 20) hx hb hts uwX2 hown hK hP 29 rfl rfl 1 (by decide) (hts _ mf_X2_74) (fun _ h9 => h9) rfl hd (k H locs ls hl hP hD hS)
theorem put_X2_74 {K : Kx} {cc : ByteArray} {g : Gm} {nL d : Nat} {ret : Option FieldType} {Q : State → Prop} {pc : Nat} {lv : List (Nat × Value)} {st : List Value} {σ : St} (hC : Ok K cc RX2 g nL d ret) {v : Int32} {ρ : Type} {o : ρ} {f : St → Option ρ} (hd : decode cc pc = .ok (.putfield 74, 3)) (h : bnd (si σ 14 v) f = some o) (k : ∀ σ2, f σ2 = some o → J K (wX g) nL Q (pc + 3) lv (st) σ2) : J K (wX g) nL Q (pc) lv (.int v :: .ref (g.1 29) :: st) σ := by
  obtain ⟨p, l, e, R, s, m, args, below, meth, c, D, A, ce, sl⟩ := K
  obtain ⟨hx, hb, hml, hown, hts, hK, hA, hSF, ⟨hR1, hR2, hR3, hR4⟩, hr, hlk⟩ := hC
  exact fun H locs ls hl hP hD hS => va_put (D := D) (ci := 2) (v := .int v) (ty := .int) (C := RX2) (T := TX2) (N := 20) hx hb hts uwX2 tyX2 tyX2_ok nmX2 hown hK hP hD hS 29 rfl rfl 1 (by decide) (hts _ mf_X2_74) (fun _ h9 => h9) rfl (by decide +kernel) rfl rfl (Nat.le_of_ble_eq_true rfl) hd (fun H locs hP hD hS => k _ h H locs ls hl hP hD hS)
theorem mf_X2_77 : Cond.fieldLink RX2 77 "SongHour$RowSearch" "bestLeft" "I" ∈ GW := memT (i := 259) (by decide +kernel) rfl
theorem get_X2_77 {K : Kx} {cc : ByteArray} {g : Gm} {nL d : Nat} {ret : Option FieldType} {Q : State → Prop} {pc : Nat} {lv : List (Nat × Value)} {st : List Value} {σ : St} (hC : Ok K cc RX2 g nL d ret) (hd : decode cc pc = .ok (.getfield 77, 3)) (k : J K (wX g) nL Q (pc + 3) lv (.int (gi σ 15) :: st) σ) : J K (wX g) nL Q (pc) lv (.ref (g.1 29) :: st) σ := by
  obtain ⟨p, l, e, R, s, m, args, below, meth, c, D, A, ce, sl⟩ := K
  obtain ⟨hx, hb, hml, hown, hts, hK, hA, hSF, ⟨hR1, hR2, hR3, hR4⟩, hr, hlk⟩ := hC
  exact fun H locs ls hl hP hD hS => va_get (D := D) (ci := 2) (v := .int (gi σ 15)) (C := RX2) (T := TX2) (N := 20) hx hb hts uwX2 hown hK hP 29 rfl rfl 2 (by decide) (hts _ mf_X2_77) (fun _ h9 => h9) rfl hd (k H locs ls hl hP hD hS)
theorem put_X2_77 {K : Kx} {cc : ByteArray} {g : Gm} {nL d : Nat} {ret : Option FieldType} {Q : State → Prop} {pc : Nat} {lv : List (Nat × Value)} {st : List Value} {σ : St} (hC : Ok K cc RX2 g nL d ret) {v : Int32} {ρ : Type} {o : ρ} {f : St → Option ρ} (hd : decode cc pc = .ok (.putfield 77, 3)) (h : bnd (si σ 15 v) f = some o) (k : ∀ σ2, f σ2 = some o → J K (wX g) nL Q (pc + 3) lv (st) σ2) : J K (wX g) nL Q (pc) lv (.int v :: .ref (g.1 29) :: st) σ := by
  obtain ⟨p, l, e, R, s, m, args, below, meth, c, D, A, ce, sl⟩ := K
  obtain ⟨hx, hb, hml, hown, hts, hK, hA, hSF, ⟨hR1, hR2, hR3, hR4⟩, hr, hlk⟩ := hC
  exact fun H locs ls hl hP hD hS => va_put (D := D) (ci := 2) (v := .int v) (ty := .int) (C := RX2) (T := TX2) (N := 20) hx hb hts uwX2 tyX2 tyX2_ok nmX2 hown hK hP hD hS 29 rfl rfl 2 (by decide) (hts _ mf_X2_77) (fun _ h9 => h9) rfl (by decide +kernel) rfl rfl (Nat.le_of_ble_eq_true rfl) hd (fun H locs hP hD hS => k _ h H locs ls hl hP hD hS)
theorem mf_X2_80 : Cond.fieldLink RX2 80 "SongHour$RowSearch" "bestHeat" "I" ∈ GW := memT (i := 260) (by decide +kernel) rfl
theorem get_X2_80 {K : Kx} {cc : ByteArray} {g : Gm} {nL d : Nat} {ret : Option FieldType} {Q : State → Prop} {pc : Nat} {lv : List (Nat × Value)} {st : List Value} {σ : St} (hC : Ok K cc RX2 g nL d ret) (hd : decode cc pc = .ok (.getfield 80, 3)) (k : J K (wX g) nL Q (pc + 3) lv (.int (gi σ 16) :: st) σ) : J K (wX g) nL Q (pc) lv (.ref (g.1 29) :: st) σ := by
  obtain ⟨p, l, e, R, s, m, args, below, meth, c, D, A, ce, sl⟩ := K
  obtain ⟨hx, hb, hml, hown, hts, hK, hA, hSF, ⟨hR1, hR2, hR3, hR4⟩, hr, hlk⟩ := hC
  exact fun H locs ls hl hP hD hS => va_get (D := D) (ci := 2) (v := .int (gi σ 16)) (C := RX2) (T := TX2) (N := 20) hx hb hts uwX2 hown hK hP 29 rfl rfl 3 (by decide) (hts _ mf_X2_80) (fun _ h9 => h9) rfl hd (k H locs ls hl hP hD hS)
theorem put_X2_80 {K : Kx} {cc : ByteArray} {g : Gm} {nL d : Nat} {ret : Option FieldType} {Q : State → Prop} {pc : Nat} {lv : List (Nat × Value)} {st : List Value} {σ : St} (hC : Ok K cc RX2 g nL d ret) {v : Int32} {ρ : Type} {o : ρ} {f : St → Option ρ} (hd : decode cc pc = .ok (.putfield 80, 3)) (h : bnd (si σ 16 v) f = some o) (k : ∀ σ2, f σ2 = some o → J K (wX g) nL Q (pc + 3) lv (st) σ2) : J K (wX g) nL Q (pc) lv (.int v :: .ref (g.1 29) :: st) σ := by
  obtain ⟨p, l, e, R, s, m, args, below, meth, c, D, A, ce, sl⟩ := K
  obtain ⟨hx, hb, hml, hown, hts, hK, hA, hSF, ⟨hR1, hR2, hR3, hR4⟩, hr, hlk⟩ := hC
  exact fun H locs ls hl hP hD hS => va_put (D := D) (ci := 2) (v := .int v) (ty := .int) (C := RX2) (T := TX2) (N := 20) hx hb hts uwX2 tyX2 tyX2_ok nmX2 hown hK hP hD hS 29 rfl rfl 3 (by decide) (hts _ mf_X2_80) (fun _ h9 => h9) rfl (by decide +kernel) rfl rfl (Nat.le_of_ble_eq_true rfl) hd (fun H locs hP hD hS => k _ h H locs ls hl hP hD hS)
theorem mf_X2_83 : Cond.fieldLink RX2 83 "SongHour$Songs" "began" "[I" ∈ GW := memT (i := 166) (by decide +kernel) rfl
theorem get_X2_83 {K : Kx} {cc : ByteArray} {g : Gm} {nL d : Nat} {ret : Option FieldType} {Q : State → Prop} {pc : Nat} {lv : List (Nat × Value)} {st : List Value} {σ : St} (hC : Ok K cc RX2 g nL d ret) (hd : decode cc pc = .ok (.getfield 83, 3)) (k : J K (wX g) nL Q (pc + 3) lv (.ref (g.1 17) :: st) σ) : J K (wX g) nL Q (pc) lv (.ref (g.1 8) :: st) σ := by
  obtain ⟨p, l, e, R, s, m, args, below, meth, c, D, A, ce, sl⟩ := K
  obtain ⟨hx, hb, hml, hown, hts, hK, hA, hSF, ⟨hR1, hR2, hR3, hR4⟩, hr, hlk⟩ := hC
  exact fun H locs ls hl hP hD hS => va_get (D := D) (ci := 4) (v := .ref (g.1 17)) (C := RX4) (T := TX4) (N := 14) hx hb hts uwX4 hown hK hP 8 rfl rfl 9 (by decide) (hts _ mf_X2_83) (fun _ h9 => h9) rfl hd (k H locs ls hl hP hD hS)
theorem mf_X2_86 : Cond.fieldLink RX2 86 "SongHour$Songs" "artistBegan" "[I" ∈ GW := memT (i := 169) (by decide +kernel) rfl
theorem get_X2_86 {K : Kx} {cc : ByteArray} {g : Gm} {nL d : Nat} {ret : Option FieldType} {Q : State → Prop} {pc : Nat} {lv : List (Nat × Value)} {st : List Value} {σ : St} (hC : Ok K cc RX2 g nL d ret) (hd : decode cc pc = .ok (.getfield 86, 3)) (k : J K (wX g) nL Q (pc + 3) lv (.ref (g.1 18) :: st) σ) : J K (wX g) nL Q (pc) lv (.ref (g.1 8) :: st) σ := by
  obtain ⟨p, l, e, R, s, m, args, below, meth, c, D, A, ce, sl⟩ := K
  obtain ⟨hx, hb, hml, hown, hts, hK, hA, hSF, ⟨hR1, hR2, hR3, hR4⟩, hr, hlk⟩ := hC
  exact fun H locs ls hl hP hD hS => va_get (D := D) (ci := 4) (v := .ref (g.1 18)) (C := RX4) (T := TX4) (N := 14) hx hb hts uwX4 hown hK hP 8 rfl rfl 10 (by decide) (hts _ mf_X2_86) (fun _ h9 => h9) rfl hd (k H locs ls hl hP hD hS)
theorem mf_X2_97 : Cond.fieldLink RX2 97 "SongHour$RowSearch" "poolSize" "I" ∈ GW := memT (i := 267) (by decide +kernel) rfl
theorem get_X2_97 {K : Kx} {cc : ByteArray} {g : Gm} {nL d : Nat} {ret : Option FieldType} {Q : State → Prop} {pc : Nat} {lv : List (Nat × Value)} {st : List Value} {σ : St} (hC : Ok K cc RX2 g nL d ret) (hd : decode cc pc = .ok (.getfield 97, 3)) (k : J K (wX g) nL Q (pc + 3) lv (.int (gi σ 17) :: st) σ) : J K (wX g) nL Q (pc) lv (.ref (g.1 29) :: st) σ := by
  obtain ⟨p, l, e, R, s, m, args, below, meth, c, D, A, ce, sl⟩ := K
  obtain ⟨hx, hb, hml, hown, hts, hK, hA, hSF, ⟨hR1, hR2, hR3, hR4⟩, hr, hlk⟩ := hC
  exact fun H locs ls hl hP hD hS => va_get (D := D) (ci := 2) (v := .int (gi σ 17)) (C := RX2) (T := TX2) (N := 20) hx hb hts uwX2 hown hK hP 29 rfl rfl 10 (by decide) (hts _ mf_X2_97) (fun _ h9 => h9) rfl hd (k H locs ls hl hP hD hS)
theorem put_X2_97 {K : Kx} {cc : ByteArray} {g : Gm} {nL d : Nat} {ret : Option FieldType} {Q : State → Prop} {pc : Nat} {lv : List (Nat × Value)} {st : List Value} {σ : St} (hC : Ok K cc RX2 g nL d ret) {v : Int32} {ρ : Type} {o : ρ} {f : St → Option ρ} (hd : decode cc pc = .ok (.putfield 97, 3)) (h : bnd (si σ 17 v) f = some o) (k : ∀ σ2, f σ2 = some o → J K (wX g) nL Q (pc + 3) lv (st) σ2) : J K (wX g) nL Q (pc) lv (.int v :: .ref (g.1 29) :: st) σ := by
  obtain ⟨p, l, e, R, s, m, args, below, meth, c, D, A, ce, sl⟩ := K
  obtain ⟨hx, hb, hml, hown, hts, hK, hA, hSF, ⟨hR1, hR2, hR3, hR4⟩, hr, hlk⟩ := hC
  exact fun H locs ls hl hP hD hS => va_put (D := D) (ci := 2) (v := .int v) (ty := .int) (C := RX2) (T := TX2) (N := 20) hx hb hts uwX2 tyX2 tyX2_ok nmX2 hown hK hP hD hS 29 rfl rfl 10 (by decide) (hts _ mf_X2_97) (fun _ h9 => h9) rfl (by decide +kernel) rfl rfl (Nat.le_of_ble_eq_true rfl) hd (fun H locs hP hD hS => k _ h H locs ls hl hP hD hS)
theorem mf_X2_100 : Cond.fieldLink RX2 100 "SongHour$RowSearch" "longest" "I" ∈ GW := memT (i := 268) (by decide +kernel) rfl
theorem get_X2_100 {K : Kx} {cc : ByteArray} {g : Gm} {nL d : Nat} {ret : Option FieldType} {Q : State → Prop} {pc : Nat} {lv : List (Nat × Value)} {st : List Value} {σ : St} (hC : Ok K cc RX2 g nL d ret) (hd : decode cc pc = .ok (.getfield 100, 3)) (k : J K (wX g) nL Q (pc + 3) lv (.int (gi σ 18) :: st) σ) : J K (wX g) nL Q (pc) lv (.ref (g.1 29) :: st) σ := by
  obtain ⟨p, l, e, R, s, m, args, below, meth, c, D, A, ce, sl⟩ := K
  obtain ⟨hx, hb, hml, hown, hts, hK, hA, hSF, ⟨hR1, hR2, hR3, hR4⟩, hr, hlk⟩ := hC
  exact fun H locs ls hl hP hD hS => va_get (D := D) (ci := 2) (v := .int (gi σ 18)) (C := RX2) (T := TX2) (N := 20) hx hb hts uwX2 hown hK hP 29 rfl rfl 11 (by decide) (hts _ mf_X2_100) (fun _ h9 => h9) rfl hd (k H locs ls hl hP hD hS)
theorem put_X2_100 {K : Kx} {cc : ByteArray} {g : Gm} {nL d : Nat} {ret : Option FieldType} {Q : State → Prop} {pc : Nat} {lv : List (Nat × Value)} {st : List Value} {σ : St} (hC : Ok K cc RX2 g nL d ret) {v : Int32} {ρ : Type} {o : ρ} {f : St → Option ρ} (hd : decode cc pc = .ok (.putfield 100, 3)) (h : bnd (si σ 18 v) f = some o) (k : ∀ σ2, f σ2 = some o → J K (wX g) nL Q (pc + 3) lv (st) σ2) : J K (wX g) nL Q (pc) lv (.int v :: .ref (g.1 29) :: st) σ := by
  obtain ⟨p, l, e, R, s, m, args, below, meth, c, D, A, ce, sl⟩ := K
  obtain ⟨hx, hb, hml, hown, hts, hK, hA, hSF, ⟨hR1, hR2, hR3, hR4⟩, hr, hlk⟩ := hC
  exact fun H locs ls hl hP hD hS => va_put (D := D) (ci := 2) (v := .int v) (ty := .int) (C := RX2) (T := TX2) (N := 20) hx hb hts uwX2 tyX2 tyX2_ok nmX2 hown hK hP hD hS 29 rfl rfl 11 (by decide) (hts _ mf_X2_100) (fun _ h9 => h9) rfl (by decide +kernel) rfl rfl (Nat.le_of_ble_eq_true rfl) hd (fun H locs hP hD hS => k _ h H locs ls hl hP hD hS)
theorem mf_X2_103 : Cond.fieldLink RX2 103 "SongHour$RowSearch" "hottest" "I" ∈ GW := memT (i := 269) (by decide +kernel) rfl
theorem get_X2_103 {K : Kx} {cc : ByteArray} {g : Gm} {nL d : Nat} {ret : Option FieldType} {Q : State → Prop} {pc : Nat} {lv : List (Nat × Value)} {st : List Value} {σ : St} (hC : Ok K cc RX2 g nL d ret) (hd : decode cc pc = .ok (.getfield 103, 3)) (k : J K (wX g) nL Q (pc + 3) lv (.int (gi σ 19) :: st) σ) : J K (wX g) nL Q (pc) lv (.ref (g.1 29) :: st) σ := by
  obtain ⟨p, l, e, R, s, m, args, below, meth, c, D, A, ce, sl⟩ := K
  obtain ⟨hx, hb, hml, hown, hts, hK, hA, hSF, ⟨hR1, hR2, hR3, hR4⟩, hr, hlk⟩ := hC
  exact fun H locs ls hl hP hD hS => va_get (D := D) (ci := 2) (v := .int (gi σ 19)) (C := RX2) (T := TX2) (N := 20) hx hb hts uwX2 hown hK hP 29 rfl rfl 12 (by decide) (hts _ mf_X2_103) (fun _ h9 => h9) rfl hd (k H locs ls hl hP hD hS)
theorem put_X2_103 {K : Kx} {cc : ByteArray} {g : Gm} {nL d : Nat} {ret : Option FieldType} {Q : State → Prop} {pc : Nat} {lv : List (Nat × Value)} {st : List Value} {σ : St} (hC : Ok K cc RX2 g nL d ret) {v : Int32} {ρ : Type} {o : ρ} {f : St → Option ρ} (hd : decode cc pc = .ok (.putfield 103, 3)) (h : bnd (si σ 19 v) f = some o) (k : ∀ σ2, f σ2 = some o → J K (wX g) nL Q (pc + 3) lv (st) σ2) : J K (wX g) nL Q (pc) lv (.int v :: .ref (g.1 29) :: st) σ := by
  obtain ⟨p, l, e, R, s, m, args, below, meth, c, D, A, ce, sl⟩ := K
  obtain ⟨hx, hb, hml, hown, hts, hK, hA, hSF, ⟨hR1, hR2, hR3, hR4⟩, hr, hlk⟩ := hC
  exact fun H locs ls hl hP hD hS => va_put (D := D) (ci := 2) (v := .int v) (ty := .int) (C := RX2) (T := TX2) (N := 20) hx hb hts uwX2 tyX2 tyX2_ok nmX2 hown hK hP hD hS 29 rfl rfl 12 (by decide) (hts _ mf_X2_103) (fun _ h9 => h9) rfl (by decide +kernel) rfl rfl (Nat.le_of_ble_eq_true rfl) hd (fun H locs hP hD hS => k _ h H locs ls hl hP hD hS)
theorem mf_X2_106 : Cond.fieldLink RX2 106 "SongHour$Songs" "mood" "[I" ∈ GW := memT (i := 156) (by decide +kernel) rfl
theorem get_X2_106 {K : Kx} {cc : ByteArray} {g : Gm} {nL d : Nat} {ret : Option FieldType} {Q : State → Prop} {pc : Nat} {lv : List (Nat × Value)} {st : List Value} {σ : St} (hC : Ok K cc RX2 g nL d ret) (hd : decode cc pc = .ok (.getfield 106, 3)) (k : J K (wX g) nL Q (pc + 3) lv (.ref (g.1 12) :: st) σ) : J K (wX g) nL Q (pc) lv (.ref (g.1 8) :: st) σ := by
  obtain ⟨p, l, e, R, s, m, args, below, meth, c, D, A, ce, sl⟩ := K
  obtain ⟨hx, hb, hml, hown, hts, hK, hA, hSF, ⟨hR1, hR2, hR3, hR4⟩, hr, hlk⟩ := hC
  exact fun H locs ls hl hP hD hS => va_get (D := D) (ci := 4) (v := .ref (g.1 12)) (C := RX4) (T := TX4) (N := 14) hx hb hts uwX4 hown hK hP 8 rfl rfl 4 (by decide) (hts _ mf_X2_106) (fun _ h9 => h9) rfl hd (k H locs ls hl hP hD hS)
theorem mf_X2_116 : Cond.fieldLink RX2 116 "SongHour$Songs" "seconds" "[I" ∈ GW := memT (i := 147) (by decide +kernel) rfl
theorem get_X2_116 {K : Kx} {cc : ByteArray} {g : Gm} {nL d : Nat} {ret : Option FieldType} {Q : State → Prop} {pc : Nat} {lv : List (Nat × Value)} {st : List Value} {σ : St} (hC : Ok K cc RX2 g nL d ret) (hd : decode cc pc = .ok (.getfield 116, 3)) (k : J K (wX g) nL Q (pc + 3) lv (.ref (g.1 9) :: st) σ) : J K (wX g) nL Q (pc) lv (.ref (g.1 8) :: st) σ := by
  obtain ⟨p, l, e, R, s, m, args, below, meth, c, D, A, ce, sl⟩ := K
  obtain ⟨hx, hb, hml, hown, hts, hK, hA, hSF, ⟨hR1, hR2, hR3, hR4⟩, hr, hlk⟩ := hC
  exact fun H locs ls hl hP hD hS => va_get (D := D) (ci := 4) (v := .ref (g.1 9)) (C := RX4) (T := TX4) (N := 14) hx hb hts uwX4 hown hK hP 8 rfl rfl 1 (by decide) (hts _ mf_X2_116) (fun _ h9 => h9) rfl hd (k H locs ls hl hP hD hS)
theorem mf_X2_122 : Cond.fieldLink RX2 122 "SongHour$Songs" "newness" "[I" ∈ GW := memT (i := 158) (by decide +kernel) rfl
theorem get_X2_122 {K : Kx} {cc : ByteArray} {g : Gm} {nL d : Nat} {ret : Option FieldType} {Q : State → Prop} {pc : Nat} {lv : List (Nat × Value)} {st : List Value} {σ : St} (hC : Ok K cc RX2 g nL d ret) (hd : decode cc pc = .ok (.getfield 122, 3)) (k : J K (wX g) nL Q (pc + 3) lv (.ref (g.1 13) :: st) σ) : J K (wX g) nL Q (pc) lv (.ref (g.1 8) :: st) σ := by
  obtain ⟨p, l, e, R, s, m, args, below, meth, c, D, A, ce, sl⟩ := K
  obtain ⟨hx, hb, hml, hown, hts, hK, hA, hSF, ⟨hR1, hR2, hR3, hR4⟩, hr, hlk⟩ := hC
  exact fun H locs ls hl hP hD hS => va_get (D := D) (ci := 4) (v := .ref (g.1 13)) (C := RX4) (T := TX4) (N := 14) hx hb hts uwX4 hown hK hP 8 rfl rfl 5 (by decide) (hts _ mf_X2_122) (fun _ h9 => h9) rfl hd (k H locs ls hl hP hD hS)
theorem mf_X2_125 : Cond.fieldLink RX2 125 "SongHour$Songs" "artist" "[I" ∈ GW := memT (i := 150) (by decide +kernel) rfl
theorem get_X2_125 {K : Kx} {cc : ByteArray} {g : Gm} {nL d : Nat} {ret : Option FieldType} {Q : State → Prop} {pc : Nat} {lv : List (Nat × Value)} {st : List Value} {σ : St} (hC : Ok K cc RX2 g nL d ret) (hd : decode cc pc = .ok (.getfield 125, 3)) (k : J K (wX g) nL Q (pc + 3) lv (.ref (g.1 10) :: st) σ) : J K (wX g) nL Q (pc) lv (.ref (g.1 8) :: st) σ := by
  obtain ⟨p, l, e, R, s, m, args, below, meth, c, D, A, ce, sl⟩ := K
  obtain ⟨hx, hb, hml, hown, hts, hK, hA, hSF, ⟨hR1, hR2, hR3, hR4⟩, hr, hlk⟩ := hC
  exact fun H locs ls hl hP hD hS => va_get (D := D) (ci := 4) (v := .ref (g.1 10)) (C := RX4) (T := TX4) (N := 14) hx hb hts uwX4 hown hK hP 8 rfl rfl 2 (by decide) (hts _ mf_X2_125) (fun _ h9 => h9) rfl hd (k H locs ls hl hP hD hS)
theorem mf_X2_146 : Cond.fieldLink RX2 146 "SongHour$Songs" "key" "[I" ∈ GW := memT (i := 153) (by decide +kernel) rfl
theorem get_X2_146 {K : Kx} {cc : ByteArray} {g : Gm} {nL d : Nat} {ret : Option FieldType} {Q : State → Prop} {pc : Nat} {lv : List (Nat × Value)} {st : List Value} {σ : St} (hC : Ok K cc RX2 g nL d ret) (hd : decode cc pc = .ok (.getfield 146, 3)) (k : J K (wX g) nL Q (pc + 3) lv (.ref (g.1 11) :: st) σ) : J K (wX g) nL Q (pc) lv (.ref (g.1 8) :: st) σ := by
  obtain ⟨p, l, e, R, s, m, args, below, meth, c, D, A, ce, sl⟩ := K
  obtain ⟨hx, hb, hml, hown, hts, hK, hA, hSF, ⟨hR1, hR2, hR3, hR4⟩, hr, hlk⟩ := hC
  exact fun H locs ls hl hP hD hS => va_get (D := D) (ci := 4) (v := .ref (g.1 11)) (C := RX4) (T := TX4) (N := 14) hx hb hts uwX4 hown hK hP 8 rfl rfl 3 (by decide) (hts _ mf_X2_146) (fun _ h9 => h9) rfl hd (k H locs ls hl hP hD hS)
theorem mf_X3_11 : Cond.fieldLink RX3 11 "SongHour$Rulebook" "now" "[I" ∈ GW := memT (i := 82) (by decide +kernel) rfl
theorem get_X3_11 {K : Kx} {cc : ByteArray} {g : Gm} {nL d : Nat} {ret : Option FieldType} {Q : State → Prop} {pc : Nat} {lv : List (Nat × Value)} {st : List Value} {σ : St} (hC : Ok K cc RX3 g nL d ret) (hd : decode cc pc = .ok (.getfield 11, 3)) (k : J K (wX g) nL Q (pc + 3) lv (.ref (g.1 5) :: st) σ) : J K (wX g) nL Q (pc) lv (.ref (g.1 4) :: st) σ := by
  obtain ⟨p, l, e, R, s, m, args, below, meth, c, D, A, ce, sl⟩ := K
  obtain ⟨hx, hb, hml, hown, hts, hK, hA, hSF, ⟨hR1, hR2, hR3, hR4⟩, hr, hlk⟩ := hC
  exact fun H locs ls hl hP hD hS => va_get (D := D) (ci := 3) (v := .ref (g.1 5)) (C := RX3) (T := TX3) (N := 4) hx hb hts uwX3 hown hK hP 4 rfl rfl 0 (by decide) (hts _ mf_X3_11) (fun _ h9 => h9) rfl hd (k H locs ls hl hP hD hS)
theorem mf_X3_15 : Cond.fieldLink RX3 15 "SongHour$Rulebook" "next" "[I" ∈ GW := memT (i := 85) (by decide +kernel) rfl
theorem get_X3_15 {K : Kx} {cc : ByteArray} {g : Gm} {nL d : Nat} {ret : Option FieldType} {Q : State → Prop} {pc : Nat} {lv : List (Nat × Value)} {st : List Value} {σ : St} (hC : Ok K cc RX3 g nL d ret) (hd : decode cc pc = .ok (.getfield 15, 3)) (k : J K (wX g) nL Q (pc + 3) lv (.ref (g.1 6) :: st) σ) : J K (wX g) nL Q (pc) lv (.ref (g.1 4) :: st) σ := by
  obtain ⟨p, l, e, R, s, m, args, below, meth, c, D, A, ce, sl⟩ := K
  obtain ⟨hx, hb, hml, hown, hts, hK, hA, hSF, ⟨hR1, hR2, hR3, hR4⟩, hr, hlk⟩ := hC
  exact fun H locs ls hl hP hD hS => va_get (D := D) (ci := 3) (v := .ref (g.1 6)) (C := RX3) (T := TX3) (N := 4) hx hb hts uwX3 hown hK hP 4 rfl rfl 1 (by decide) (hts _ mf_X3_15) (fun _ h9 => h9) rfl hd (k H locs ls hl hP hD hS)
theorem mf_X3_18 : Cond.fieldLink RX3 18 "SongHour$Rulebook" "isTold" "[Z" ∈ GW := memT (i := 86) (by decide +kernel) rfl
theorem get_X3_18 {K : Kx} {cc : ByteArray} {g : Gm} {nL d : Nat} {ret : Option FieldType} {Q : State → Prop} {pc : Nat} {lv : List (Nat × Value)} {st : List Value} {σ : St} (hC : Ok K cc RX3 g nL d ret) (hd : decode cc pc = .ok (.getfield 18, 3)) (k : J K (wX g) nL Q (pc + 3) lv (.ref (g.1 7) :: st) σ) : J K (wX g) nL Q (pc) lv (.ref (g.1 4) :: st) σ := by
  obtain ⟨p, l, e, R, s, m, args, below, meth, c, D, A, ce, sl⟩ := K
  obtain ⟨hx, hb, hml, hown, hts, hK, hA, hSF, ⟨hR1, hR2, hR3, hR4⟩, hr, hlk⟩ := hC
  exact fun H locs ls hl hP hD hS => va_get (D := D) (ci := 3) (v := .ref (g.1 7)) (C := RX3) (T := TX3) (N := 4) hx hb hts uwX3 hown hK hP 4 rfl rfl 2 (by decide) (hts _ mf_X3_18) (fun _ h9 => h9) rfl hd (k H locs ls hl hP hD hS)
theorem mf_X3_40 : Cond.fieldLink RX3 40 "SongHour$Text" "token" "I" ∈ GW := memT (i := 42) (by decide +kernel) rfl
theorem get_X3_40 {K : Kx} {cc : ByteArray} {g : Gm} {nL d : Nat} {ret : Option FieldType} {Q : State → Prop} {pc : Nat} {lv : List (Nat × Value)} {st : List Value} {σ : St} (hC : Ok K cc RX3 g nL d ret) (hd : decode cc pc = .ok (.getfield 40, 3)) (k : J K (wX g) nL Q (pc + 3) lv (.int (gi σ 3) :: st) σ) : J K (wX g) nL Q (pc) lv (.ref (g.1 2) :: st) σ := by
  obtain ⟨p, l, e, R, s, m, args, below, meth, c, D, A, ce, sl⟩ := K
  obtain ⟨hx, hb, hml, hown, hts, hK, hA, hSF, ⟨hR1, hR2, hR3, hR4⟩, hr, hlk⟩ := hC
  exact fun H locs ls hl hP hD hS => va_get (D := D) (ci := 5) (v := .int (gi σ 3)) (C := RX5) (T := TX5) (N := 9) hx hb hts uwX5 hown hK hP 2 rfl rfl 4 (by decide) (hts _ mf_X3_40) (fun _ h9 => h9) rfl hd (k H locs ls hl hP hD hS)
theorem put_X3_40 {K : Kx} {cc : ByteArray} {g : Gm} {nL d : Nat} {ret : Option FieldType} {Q : State → Prop} {pc : Nat} {lv : List (Nat × Value)} {st : List Value} {σ : St} (hC : Ok K cc RX3 g nL d ret) {v : Int32} {ρ : Type} {o : ρ} {f : St → Option ρ} (hd : decode cc pc = .ok (.putfield 40, 3)) (h : bnd (si σ 3 v) f = some o) (k : ∀ σ2, f σ2 = some o → J K (wX g) nL Q (pc + 3) lv (st) σ2) : J K (wX g) nL Q (pc) lv (.int v :: .ref (g.1 2) :: st) σ := by
  obtain ⟨p, l, e, R, s, m, args, below, meth, c, D, A, ce, sl⟩ := K
  obtain ⟨hx, hb, hml, hown, hts, hK, hA, hSF, ⟨hR1, hR2, hR3, hR4⟩, hr, hlk⟩ := hC
  exact fun H locs ls hl hP hD hS => va_put (D := D) (ci := 5) (v := .int v) (ty := .int) (C := RX5) (T := TX5) (N := 9) hx hb hts uwX5 tyX5 tyX5_ok nmX5 hown hK hP hD hS 2 rfl rfl 4 (by decide) (hts _ mf_X3_40) (fun _ h9 => h9) rfl (by decide +kernel) rfl rfl (Nat.le_of_ble_eq_true rfl) hd (fun H locs hP hD hS => k _ h H locs ls hl hP hD hS)
theorem mf_X3_48 : Cond.fieldLink RX3 48 "SongHour$Rulebook" "howMany" "I" ∈ GW := memT (i := 87) (by decide +kernel) rfl
theorem get_X3_48 {K : Kx} {cc : ByteArray} {g : Gm} {nL d : Nat} {ret : Option FieldType} {Q : State → Prop} {pc : Nat} {lv : List (Nat × Value)} {st : List Value} {σ : St} (hC : Ok K cc RX3 g nL d ret) (hd : decode cc pc = .ok (.getfield 48, 3)) (k : J K (wX g) nL Q (pc + 3) lv (.int (gi σ 8) :: st) σ) : J K (wX g) nL Q (pc) lv (.ref (g.1 4) :: st) σ := by
  obtain ⟨p, l, e, R, s, m, args, below, meth, c, D, A, ce, sl⟩ := K
  obtain ⟨hx, hb, hml, hown, hts, hK, hA, hSF, ⟨hR1, hR2, hR3, hR4⟩, hr, hlk⟩ := hC
  exact fun H locs ls hl hP hD hS => va_get (D := D) (ci := 3) (v := .int (gi σ 8)) (C := RX3) (T := TX3) (N := 4) hx hb hts uwX3 hown hK hP 4 rfl rfl 3 (by decide) (hts _ mf_X3_48) (fun _ h9 => h9) rfl hd (k H locs ls hl hP hD hS)
theorem put_X3_48 {K : Kx} {cc : ByteArray} {g : Gm} {nL d : Nat} {ret : Option FieldType} {Q : State → Prop} {pc : Nat} {lv : List (Nat × Value)} {st : List Value} {σ : St} (hC : Ok K cc RX3 g nL d ret) {v : Int32} {ρ : Type} {o : ρ} {f : St → Option ρ} (hd : decode cc pc = .ok (.putfield 48, 3)) (h : bnd (si σ 8 v) f = some o) (k : ∀ σ2, f σ2 = some o → J K (wX g) nL Q (pc + 3) lv (st) σ2) : J K (wX g) nL Q (pc) lv (.int v :: .ref (g.1 4) :: st) σ := by
  obtain ⟨p, l, e, R, s, m, args, below, meth, c, D, A, ce, sl⟩ := K
  obtain ⟨hx, hb, hml, hown, hts, hK, hA, hSF, ⟨hR1, hR2, hR3, hR4⟩, hr, hlk⟩ := hC
  exact fun H locs ls hl hP hD hS => va_put (D := D) (ci := 3) (v := .int v) (ty := .int) (C := RX3) (T := TX3) (N := 4) hx hb hts uwX3 tyX3 tyX3_ok nmX3 hown hK hP hD hS 4 rfl rfl 3 (by decide) (hts _ mf_X3_48) (fun _ h9 => h9) rfl (by decide +kernel) rfl rfl (Nat.le_of_ble_eq_true rfl) hd (fun H locs hP hD hS => k _ h H locs ls hl hP hD hS)
theorem mf_X3_69 : Cond.fieldLink RX3 69 "SongHour$Text" "value" "I" ∈ GW := memT (i := 45) (by decide +kernel) rfl
theorem get_X3_69 {K : Kx} {cc : ByteArray} {g : Gm} {nL d : Nat} {ret : Option FieldType} {Q : State → Prop} {pc : Nat} {lv : List (Nat × Value)} {st : List Value} {σ : St} (hC : Ok K cc RX3 g nL d ret) (hd : decode cc pc = .ok (.getfield 69, 3)) (k : J K (wX g) nL Q (pc + 3) lv (.int (gi σ 4) :: st) σ) : J K (wX g) nL Q (pc) lv (.ref (g.1 2) :: st) σ := by
  obtain ⟨p, l, e, R, s, m, args, below, meth, c, D, A, ce, sl⟩ := K
  obtain ⟨hx, hb, hml, hown, hts, hK, hA, hSF, ⟨hR1, hR2, hR3, hR4⟩, hr, hlk⟩ := hC
  exact fun H locs ls hl hP hD hS => va_get (D := D) (ci := 5) (v := .int (gi σ 4)) (C := RX5) (T := TX5) (N := 9) hx hb hts uwX5 hown hK hP 2 rfl rfl 5 (by decide) (hts _ mf_X3_69) (fun _ h9 => h9) rfl hd (k H locs ls hl hP hD hS)
theorem put_X3_69 {K : Kx} {cc : ByteArray} {g : Gm} {nL d : Nat} {ret : Option FieldType} {Q : State → Prop} {pc : Nat} {lv : List (Nat × Value)} {st : List Value} {σ : St} (hC : Ok K cc RX3 g nL d ret) {v : Int32} {ρ : Type} {o : ρ} {f : St → Option ρ} (hd : decode cc pc = .ok (.putfield 69, 3)) (h : bnd (si σ 4 v) f = some o) (k : ∀ σ2, f σ2 = some o → J K (wX g) nL Q (pc + 3) lv (st) σ2) : J K (wX g) nL Q (pc) lv (.int v :: .ref (g.1 2) :: st) σ := by
  obtain ⟨p, l, e, R, s, m, args, below, meth, c, D, A, ce, sl⟩ := K
  obtain ⟨hx, hb, hml, hown, hts, hK, hA, hSF, ⟨hR1, hR2, hR3, hR4⟩, hr, hlk⟩ := hC
  exact fun H locs ls hl hP hD hS => va_put (D := D) (ci := 5) (v := .int v) (ty := .int) (C := RX5) (T := TX5) (N := 9) hx hb hts uwX5 tyX5 tyX5_ok nmX5 hown hK hP hD hS 2 rfl rfl 5 (by decide) (hts _ mf_X3_69) (fun _ h9 => h9) rfl (by decide +kernel) rfl rfl (Nat.le_of_ble_eq_true rfl) hd (fun H locs hP hD hS => k _ h H locs ls hl hP hD hS)
theorem mf_X4_9 : Cond.fieldLink RX4 9 "SongHour$Songs" "seconds" "[I" ∈ GW := memT (i := 146) (by decide +kernel) rfl
theorem get_X4_9 {K : Kx} {cc : ByteArray} {g : Gm} {nL d : Nat} {ret : Option FieldType} {Q : State → Prop} {pc : Nat} {lv : List (Nat × Value)} {st : List Value} {σ : St} (hC : Ok K cc RX4 g nL d ret) (hd : decode cc pc = .ok (.getfield 9, 3)) (k : J K (wX g) nL Q (pc + 3) lv (.ref (g.1 9) :: st) σ) : J K (wX g) nL Q (pc) lv (.ref (g.1 8) :: st) σ := by
  obtain ⟨p, l, e, R, s, m, args, below, meth, c, D, A, ce, sl⟩ := K
  obtain ⟨hx, hb, hml, hown, hts, hK, hA, hSF, ⟨hR1, hR2, hR3, hR4⟩, hr, hlk⟩ := hC
  exact fun H locs ls hl hP hD hS => va_get (D := D) (ci := 4) (v := .ref (g.1 9)) (C := RX4) (T := TX4) (N := 14) hx hb hts uwX4 hown hK hP 8 rfl rfl 1 (by decide) (hts _ mf_X4_9) (fun _ h9 => h9) rfl hd (k H locs ls hl hP hD hS)
theorem mf_X4_15 : Cond.fieldLink RX4 15 "SongHour$Songs" "artist" "[I" ∈ GW := memT (i := 149) (by decide +kernel) rfl
theorem get_X4_15 {K : Kx} {cc : ByteArray} {g : Gm} {nL d : Nat} {ret : Option FieldType} {Q : State → Prop} {pc : Nat} {lv : List (Nat × Value)} {st : List Value} {σ : St} (hC : Ok K cc RX4 g nL d ret) (hd : decode cc pc = .ok (.getfield 15, 3)) (k : J K (wX g) nL Q (pc + 3) lv (.ref (g.1 10) :: st) σ) : J K (wX g) nL Q (pc) lv (.ref (g.1 8) :: st) σ := by
  obtain ⟨p, l, e, R, s, m, args, below, meth, c, D, A, ce, sl⟩ := K
  obtain ⟨hx, hb, hml, hown, hts, hK, hA, hSF, ⟨hR1, hR2, hR3, hR4⟩, hr, hlk⟩ := hC
  exact fun H locs ls hl hP hD hS => va_get (D := D) (ci := 4) (v := .ref (g.1 10)) (C := RX4) (T := TX4) (N := 14) hx hb hts uwX4 hown hK hP 8 rfl rfl 2 (by decide) (hts _ mf_X4_15) (fun _ h9 => h9) rfl hd (k H locs ls hl hP hD hS)
theorem mf_X4_18 : Cond.fieldLink RX4 18 "SongHour$Songs" "key" "[I" ∈ GW := memT (i := 152) (by decide +kernel) rfl
theorem get_X4_18 {K : Kx} {cc : ByteArray} {g : Gm} {nL d : Nat} {ret : Option FieldType} {Q : State → Prop} {pc : Nat} {lv : List (Nat × Value)} {st : List Value} {σ : St} (hC : Ok K cc RX4 g nL d ret) (hd : decode cc pc = .ok (.getfield 18, 3)) (k : J K (wX g) nL Q (pc + 3) lv (.ref (g.1 11) :: st) σ) : J K (wX g) nL Q (pc) lv (.ref (g.1 8) :: st) σ := by
  obtain ⟨p, l, e, R, s, m, args, below, meth, c, D, A, ce, sl⟩ := K
  obtain ⟨hx, hb, hml, hown, hts, hK, hA, hSF, ⟨hR1, hR2, hR3, hR4⟩, hr, hlk⟩ := hC
  exact fun H locs ls hl hP hD hS => va_get (D := D) (ci := 4) (v := .ref (g.1 11)) (C := RX4) (T := TX4) (N := 14) hx hb hts uwX4 hown hK hP 8 rfl rfl 3 (by decide) (hts _ mf_X4_18) (fun _ h9 => h9) rfl hd (k H locs ls hl hP hD hS)
theorem mf_X4_21 : Cond.fieldLink RX4 21 "SongHour$Songs" "mood" "[I" ∈ GW := memT (i := 155) (by decide +kernel) rfl
theorem get_X4_21 {K : Kx} {cc : ByteArray} {g : Gm} {nL d : Nat} {ret : Option FieldType} {Q : State → Prop} {pc : Nat} {lv : List (Nat × Value)} {st : List Value} {σ : St} (hC : Ok K cc RX4 g nL d ret) (hd : decode cc pc = .ok (.getfield 21, 3)) (k : J K (wX g) nL Q (pc + 3) lv (.ref (g.1 12) :: st) σ) : J K (wX g) nL Q (pc) lv (.ref (g.1 8) :: st) σ := by
  obtain ⟨p, l, e, R, s, m, args, below, meth, c, D, A, ce, sl⟩ := K
  obtain ⟨hx, hb, hml, hown, hts, hK, hA, hSF, ⟨hR1, hR2, hR3, hR4⟩, hr, hlk⟩ := hC
  exact fun H locs ls hl hP hD hS => va_get (D := D) (ci := 4) (v := .ref (g.1 12)) (C := RX4) (T := TX4) (N := 14) hx hb hts uwX4 hown hK hP 8 rfl rfl 4 (by decide) (hts _ mf_X4_21) (fun _ h9 => h9) rfl hd (k H locs ls hl hP hD hS)
theorem mf_X4_24 : Cond.fieldLink RX4 24 "SongHour$Songs" "newness" "[I" ∈ GW := memT (i := 157) (by decide +kernel) rfl
theorem get_X4_24 {K : Kx} {cc : ByteArray} {g : Gm} {nL d : Nat} {ret : Option FieldType} {Q : State → Prop} {pc : Nat} {lv : List (Nat × Value)} {st : List Value} {σ : St} (hC : Ok K cc RX4 g nL d ret) (hd : decode cc pc = .ok (.getfield 24, 3)) (k : J K (wX g) nL Q (pc + 3) lv (.ref (g.1 13) :: st) σ) : J K (wX g) nL Q (pc) lv (.ref (g.1 8) :: st) σ := by
  obtain ⟨p, l, e, R, s, m, args, below, meth, c, D, A, ce, sl⟩ := K
  obtain ⟨hx, hb, hml, hown, hts, hK, hA, hSF, ⟨hR1, hR2, hR3, hR4⟩, hr, hlk⟩ := hC
  exact fun H locs ls hl hP hD hS => va_get (D := D) (ci := 4) (v := .ref (g.1 13)) (C := RX4) (T := TX4) (N := 14) hx hb hts uwX4 hown hK hP 8 rfl rfl 5 (by decide) (hts _ mf_X4_24) (fun _ h9 => h9) rfl hd (k H locs ls hl hP hD hS)
theorem mf_X4_27 : Cond.fieldLink RX4 27 "SongHour$Songs" "asksOpen" "[I" ∈ GW := memT (i := 159) (by decide +kernel) rfl
theorem get_X4_27 {K : Kx} {cc : ByteArray} {g : Gm} {nL d : Nat} {ret : Option FieldType} {Q : State → Prop} {pc : Nat} {lv : List (Nat × Value)} {st : List Value} {σ : St} (hC : Ok K cc RX4 g nL d ret) (hd : decode cc pc = .ok (.getfield 27, 3)) (k : J K (wX g) nL Q (pc + 3) lv (.ref (g.1 14) :: st) σ) : J K (wX g) nL Q (pc) lv (.ref (g.1 8) :: st) σ := by
  obtain ⟨p, l, e, R, s, m, args, below, meth, c, D, A, ce, sl⟩ := K
  obtain ⟨hx, hb, hml, hown, hts, hK, hA, hSF, ⟨hR1, hR2, hR3, hR4⟩, hr, hlk⟩ := hC
  exact fun H locs ls hl hP hD hS => va_get (D := D) (ci := 4) (v := .ref (g.1 14)) (C := RX4) (T := TX4) (N := 14) hx hb hts uwX4 hown hK hP 8 rfl rfl 6 (by decide) (hts _ mf_X4_27) (fun _ h9 => h9) rfl hd (k H locs ls hl hP hD hS)
theorem mf_X4_30 : Cond.fieldLink RX4 30 "SongHour$Songs" "asksDone" "[I" ∈ GW := memT (i := 161) (by decide +kernel) rfl
theorem get_X4_30 {K : Kx} {cc : ByteArray} {g : Gm} {nL d : Nat} {ret : Option FieldType} {Q : State → Prop} {pc : Nat} {lv : List (Nat × Value)} {st : List Value} {σ : St} (hC : Ok K cc RX4 g nL d ret) (hd : decode cc pc = .ok (.getfield 30, 3)) (k : J K (wX g) nL Q (pc + 3) lv (.ref (g.1 15) :: st) σ) : J K (wX g) nL Q (pc) lv (.ref (g.1 8) :: st) σ := by
  obtain ⟨p, l, e, R, s, m, args, below, meth, c, D, A, ce, sl⟩ := K
  obtain ⟨hx, hb, hml, hown, hts, hK, hA, hSF, ⟨hR1, hR2, hR3, hR4⟩, hr, hlk⟩ := hC
  exact fun H locs ls hl hP hD hS => va_get (D := D) (ci := 4) (v := .ref (g.1 15)) (C := RX4) (T := TX4) (N := 14) hx hb hts uwX4 hown hK hP 8 rfl rfl 7 (by decide) (hts _ mf_X4_30) (fun _ h9 => h9) rfl hd (k H locs ls hl hP hD hS)
theorem mf_X4_33 : Cond.fieldLink RX4 33 "SongHour$Songs" "played" "[I" ∈ GW := memT (i := 163) (by decide +kernel) rfl
theorem get_X4_33 {K : Kx} {cc : ByteArray} {g : Gm} {nL d : Nat} {ret : Option FieldType} {Q : State → Prop} {pc : Nat} {lv : List (Nat × Value)} {st : List Value} {σ : St} (hC : Ok K cc RX4 g nL d ret) (hd : decode cc pc = .ok (.getfield 33, 3)) (k : J K (wX g) nL Q (pc + 3) lv (.ref (g.1 16) :: st) σ) : J K (wX g) nL Q (pc) lv (.ref (g.1 8) :: st) σ := by
  obtain ⟨p, l, e, R, s, m, args, below, meth, c, D, A, ce, sl⟩ := K
  obtain ⟨hx, hb, hml, hown, hts, hK, hA, hSF, ⟨hR1, hR2, hR3, hR4⟩, hr, hlk⟩ := hC
  exact fun H locs ls hl hP hD hS => va_get (D := D) (ci := 4) (v := .ref (g.1 16)) (C := RX4) (T := TX4) (N := 14) hx hb hts uwX4 hown hK hP 8 rfl rfl 8 (by decide) (hts _ mf_X4_33) (fun _ h9 => h9) rfl hd (k H locs ls hl hP hD hS)
theorem mf_X4_36 : Cond.fieldLink RX4 36 "SongHour$Songs" "began" "[I" ∈ GW := memT (i := 165) (by decide +kernel) rfl
theorem get_X4_36 {K : Kx} {cc : ByteArray} {g : Gm} {nL d : Nat} {ret : Option FieldType} {Q : State → Prop} {pc : Nat} {lv : List (Nat × Value)} {st : List Value} {σ : St} (hC : Ok K cc RX4 g nL d ret) (hd : decode cc pc = .ok (.getfield 36, 3)) (k : J K (wX g) nL Q (pc + 3) lv (.ref (g.1 17) :: st) σ) : J K (wX g) nL Q (pc) lv (.ref (g.1 8) :: st) σ := by
  obtain ⟨p, l, e, R, s, m, args, below, meth, c, D, A, ce, sl⟩ := K
  obtain ⟨hx, hb, hml, hown, hts, hK, hA, hSF, ⟨hR1, hR2, hR3, hR4⟩, hr, hlk⟩ := hC
  exact fun H locs ls hl hP hD hS => va_get (D := D) (ci := 4) (v := .ref (g.1 17)) (C := RX4) (T := TX4) (N := 14) hx hb hts uwX4 hown hK hP 8 rfl rfl 9 (by decide) (hts _ mf_X4_36) (fun _ h9 => h9) rfl hd (k H locs ls hl hP hD hS)
theorem mf_X4_39 : Cond.fieldLink RX4 39 "SongHour$Songs" "artistBegan" "[I" ∈ GW := memT (i := 168) (by decide +kernel) rfl
theorem get_X4_39 {K : Kx} {cc : ByteArray} {g : Gm} {nL d : Nat} {ret : Option FieldType} {Q : State → Prop} {pc : Nat} {lv : List (Nat × Value)} {st : List Value} {σ : St} (hC : Ok K cc RX4 g nL d ret) (hd : decode cc pc = .ok (.getfield 39, 3)) (k : J K (wX g) nL Q (pc + 3) lv (.ref (g.1 18) :: st) σ) : J K (wX g) nL Q (pc) lv (.ref (g.1 8) :: st) σ := by
  obtain ⟨p, l, e, R, s, m, args, below, meth, c, D, A, ce, sl⟩ := K
  obtain ⟨hx, hb, hml, hown, hts, hK, hA, hSF, ⟨hR1, hR2, hR3, hR4⟩, hr, hlk⟩ := hC
  exact fun H locs ls hl hP hD hS => va_get (D := D) (ci := 4) (v := .ref (g.1 18)) (C := RX4) (T := TX4) (N := 14) hx hb hts uwX4 hown hK hP 8 rfl rfl 10 (by decide) (hts _ mf_X4_39) (fun _ h9 => h9) rfl hd (k H locs ls hl hP hD hS)
theorem mf_X4_42 : Cond.fieldLink RX4 42 "SongHour$Songs" "voteSum" "[I" ∈ GW := memT (i := 170) (by decide +kernel) rfl
theorem get_X4_42 {K : Kx} {cc : ByteArray} {g : Gm} {nL d : Nat} {ret : Option FieldType} {Q : State → Prop} {pc : Nat} {lv : List (Nat × Value)} {st : List Value} {σ : St} (hC : Ok K cc RX4 g nL d ret) (hd : decode cc pc = .ok (.getfield 42, 3)) (k : J K (wX g) nL Q (pc + 3) lv (.ref (g.1 19) :: st) σ) : J K (wX g) nL Q (pc) lv (.ref (g.1 8) :: st) σ := by
  obtain ⟨p, l, e, R, s, m, args, below, meth, c, D, A, ce, sl⟩ := K
  obtain ⟨hx, hb, hml, hown, hts, hK, hA, hSF, ⟨hR1, hR2, hR3, hR4⟩, hr, hlk⟩ := hC
  exact fun H locs ls hl hP hD hS => va_get (D := D) (ci := 4) (v := .ref (g.1 19)) (C := RX4) (T := TX4) (N := 14) hx hb hts uwX4 hown hK hP 8 rfl rfl 11 (by decide) (hts _ mf_X4_42) (fun _ h9 => h9) rfl hd (k H locs ls hl hP hD hS)
theorem mf_X4_45 : Cond.fieldLink RX4 45 "SongHour$Songs" "oldestVote" "[I" ∈ GW := memT (i := 171) (by decide +kernel) rfl
theorem get_X4_45 {K : Kx} {cc : ByteArray} {g : Gm} {nL d : Nat} {ret : Option FieldType} {Q : State → Prop} {pc : Nat} {lv : List (Nat × Value)} {st : List Value} {σ : St} (hC : Ok K cc RX4 g nL d ret) (hd : decode cc pc = .ok (.getfield 45, 3)) (k : J K (wX g) nL Q (pc + 3) lv (.ref (g.1 20) :: st) σ) : J K (wX g) nL Q (pc) lv (.ref (g.1 8) :: st) σ := by
  obtain ⟨p, l, e, R, s, m, args, below, meth, c, D, A, ce, sl⟩ := K
  obtain ⟨hx, hb, hml, hown, hts, hK, hA, hSF, ⟨hR1, hR2, hR3, hR4⟩, hr, hlk⟩ := hC
  exact fun H locs ls hl hP hD hS => va_get (D := D) (ci := 4) (v := .ref (g.1 20)) (C := RX4) (T := TX4) (N := 14) hx hb hts uwX4 hown hK hP 8 rfl rfl 12 (by decide) (hts _ mf_X4_45) (fun _ h9 => h9) rfl hd (k H locs ls hl hP hD hS)
theorem mf_X4_48 : Cond.fieldLink RX4 48 "SongHour$Songs" "votes" "[B" ∈ GW := memT (i := 172) (by decide +kernel) rfl
theorem get_X4_48 {K : Kx} {cc : ByteArray} {g : Gm} {nL d : Nat} {ret : Option FieldType} {Q : State → Prop} {pc : Nat} {lv : List (Nat × Value)} {st : List Value} {σ : St} (hC : Ok K cc RX4 g nL d ret) (hd : decode cc pc = .ok (.getfield 48, 3)) (k : J K (wX g) nL Q (pc + 3) lv (.ref (g.1 21) :: st) σ) : J K (wX g) nL Q (pc) lv (.ref (g.1 8) :: st) σ := by
  obtain ⟨p, l, e, R, s, m, args, below, meth, c, D, A, ce, sl⟩ := K
  obtain ⟨hx, hb, hml, hown, hts, hK, hA, hSF, ⟨hR1, hR2, hR3, hR4⟩, hr, hlk⟩ := hC
  exact fun H locs ls hl hP hD hS => va_get (D := D) (ci := 4) (v := .ref (g.1 21)) (C := RX4) (T := TX4) (N := 14) hx hb hts uwX4 hown hK hP 8 rfl rfl 13 (by decide) (hts _ mf_X4_48) (fun _ h9 => h9) rfl hd (k H locs ls hl hP hD hS)
theorem mf_X4_58 : Cond.fieldLink RX4 58 "SongHour$Songs" "size" "I" ∈ GW := memT (i := 143) (by decide +kernel) rfl
theorem get_X4_58 {K : Kx} {cc : ByteArray} {g : Gm} {nL d : Nat} {ret : Option FieldType} {Q : State → Prop} {pc : Nat} {lv : List (Nat × Value)} {st : List Value} {σ : St} (hC : Ok K cc RX4 g nL d ret) (hd : decode cc pc = .ok (.getfield 58, 3)) (k : J K (wX g) nL Q (pc + 3) lv (.int (gi σ 9) :: st) σ) : J K (wX g) nL Q (pc) lv (.ref (g.1 8) :: st) σ := by
  obtain ⟨p, l, e, R, s, m, args, below, meth, c, D, A, ce, sl⟩ := K
  obtain ⟨hx, hb, hml, hown, hts, hK, hA, hSF, ⟨hR1, hR2, hR3, hR4⟩, hr, hlk⟩ := hC
  exact fun H locs ls hl hP hD hS => va_get (D := D) (ci := 4) (v := .int (gi σ 9)) (C := RX4) (T := TX4) (N := 14) hx hb hts uwX4 hown hK hP 8 rfl rfl 0 (by decide) (hts _ mf_X4_58) (fun _ h9 => h9) rfl hd (k H locs ls hl hP hD hS)
theorem put_X4_58 {K : Kx} {cc : ByteArray} {g : Gm} {nL d : Nat} {ret : Option FieldType} {Q : State → Prop} {pc : Nat} {lv : List (Nat × Value)} {st : List Value} {σ : St} (hC : Ok K cc RX4 g nL d ret) {v : Int32} {ρ : Type} {o : ρ} {f : St → Option ρ} (hd : decode cc pc = .ok (.putfield 58, 3)) (h : bnd (si σ 9 v) f = some o) (k : ∀ σ2, f σ2 = some o → J K (wX g) nL Q (pc + 3) lv (st) σ2) : J K (wX g) nL Q (pc) lv (.int v :: .ref (g.1 8) :: st) σ := by
  obtain ⟨p, l, e, R, s, m, args, below, meth, c, D, A, ce, sl⟩ := K
  obtain ⟨hx, hb, hml, hown, hts, hK, hA, hSF, ⟨hR1, hR2, hR3, hR4⟩, hr, hlk⟩ := hC
  exact fun H locs ls hl hP hD hS => va_put (D := D) (ci := 4) (v := .int v) (ty := .int) (C := RX4) (T := TX4) (N := 14) hx hb hts uwX4 tyX4 tyX4_ok nmX4 hown hK hP hD hS 8 rfl rfl 0 (by decide) (hts _ mf_X4_58) (fun _ h9 => h9) rfl (by decide +kernel) rfl rfl (Nat.le_of_ble_eq_true rfl) hd (fun H locs hP hD hS => k _ h H locs ls hl hP hD hS)
theorem mf_X5_9 : Cond.fieldLink RX5 9 "SongHour$Text" "bytes" "[B" ∈ GW := memT (i := 35) (by decide +kernel) rfl
theorem get_X5_9 {K : Kx} {cc : ByteArray} {g : Gm} {nL d : Nat} {ret : Option FieldType} {Q : State → Prop} {pc : Nat} {lv : List (Nat × Value)} {st : List Value} {σ : St} (hC : Ok K cc RX5 g nL d ret) (hd : decode cc pc = .ok (.getfield 9, 3)) (k : J K (wX g) nL Q (pc + 3) lv (.ref (g.1 3) :: st) σ) : J K (wX g) nL Q (pc) lv (.ref (g.1 2) :: st) σ := by
  obtain ⟨p, l, e, R, s, m, args, below, meth, c, D, A, ce, sl⟩ := K
  obtain ⟨hx, hb, hml, hown, hts, hK, hA, hSF, ⟨hR1, hR2, hR3, hR4⟩, hr, hlk⟩ := hC
  exact fun H locs ls hl hP hD hS => va_get (D := D) (ci := 5) (v := .ref (g.1 3)) (C := RX5) (T := TX5) (N := 9) hx hb hts uwX5 hown hK hP 2 rfl rfl 0 (by decide) (hts _ mf_X5_9) (fun _ h9 => h9) rfl hd (k H locs ls hl hP hD hS)
theorem mf_X5_13 : Cond.fieldLink RX5 13 "SongHour$Text" "size" "I" ∈ GW := memT (i := 36) (by decide +kernel) rfl
theorem get_X5_13 {K : Kx} {cc : ByteArray} {g : Gm} {nL d : Nat} {ret : Option FieldType} {Q : State → Prop} {pc : Nat} {lv : List (Nat × Value)} {st : List Value} {σ : St} (hC : Ok K cc RX5 g nL d ret) (hd : decode cc pc = .ok (.getfield 13, 3)) (k : J K (wX g) nL Q (pc + 3) lv (.int (gi σ 0) :: st) σ) : J K (wX g) nL Q (pc) lv (.ref (g.1 2) :: st) σ := by
  obtain ⟨p, l, e, R, s, m, args, below, meth, c, D, A, ce, sl⟩ := K
  obtain ⟨hx, hb, hml, hown, hts, hK, hA, hSF, ⟨hR1, hR2, hR3, hR4⟩, hr, hlk⟩ := hC
  exact fun H locs ls hl hP hD hS => va_get (D := D) (ci := 5) (v := .int (gi σ 0)) (C := RX5) (T := TX5) (N := 9) hx hb hts uwX5 hown hK hP 2 rfl rfl 1 (by decide) (hts _ mf_X5_13) (fun _ h9 => h9) rfl hd (k H locs ls hl hP hD hS)
theorem put_X5_13 {K : Kx} {cc : ByteArray} {g : Gm} {nL d : Nat} {ret : Option FieldType} {Q : State → Prop} {pc : Nat} {lv : List (Nat × Value)} {st : List Value} {σ : St} (hC : Ok K cc RX5 g nL d ret) {v : Int32} {ρ : Type} {o : ρ} {f : St → Option ρ} (hd : decode cc pc = .ok (.putfield 13, 3)) (h : bnd (si σ 0 v) f = some o) (k : ∀ σ2, f σ2 = some o → J K (wX g) nL Q (pc + 3) lv (st) σ2) : J K (wX g) nL Q (pc) lv (.int v :: .ref (g.1 2) :: st) σ := by
  obtain ⟨p, l, e, R, s, m, args, below, meth, c, D, A, ce, sl⟩ := K
  obtain ⟨hx, hb, hml, hown, hts, hK, hA, hSF, ⟨hR1, hR2, hR3, hR4⟩, hr, hlk⟩ := hC
  exact fun H locs ls hl hP hD hS => va_put (D := D) (ci := 5) (v := .int v) (ty := .int) (C := RX5) (T := TX5) (N := 9) hx hb hts uwX5 tyX5 tyX5_ok nmX5 hown hK hP hD hS 2 rfl rfl 1 (by decide) (hts _ mf_X5_13) (fun _ h9 => h9) rfl (by decide +kernel) rfl rfl (Nat.le_of_ble_eq_true rfl) hd (fun H locs hP hD hS => k _ h H locs ls hl hP hD hS)
theorem mf_X5_17 : Cond.fieldLink RX5 17 "SongHour$Text" "limit" "I" ∈ GW := memT (i := 48) (by decide +kernel) rfl
theorem get_X5_17 {K : Kx} {cc : ByteArray} {g : Gm} {nL d : Nat} {ret : Option FieldType} {Q : State → Prop} {pc : Nat} {lv : List (Nat × Value)} {st : List Value} {σ : St} (hC : Ok K cc RX5 g nL d ret) (hd : decode cc pc = .ok (.getfield 17, 3)) (k : J K (wX g) nL Q (pc + 3) lv (.int (gi σ 5) :: st) σ) : J K (wX g) nL Q (pc) lv (.ref (g.1 2) :: st) σ := by
  obtain ⟨p, l, e, R, s, m, args, below, meth, c, D, A, ce, sl⟩ := K
  obtain ⟨hx, hb, hml, hown, hts, hK, hA, hSF, ⟨hR1, hR2, hR3, hR4⟩, hr, hlk⟩ := hC
  exact fun H locs ls hl hP hD hS => va_get (D := D) (ci := 5) (v := .int (gi σ 5)) (C := RX5) (T := TX5) (N := 9) hx hb hts uwX5 hown hK hP 2 rfl rfl 6 (by decide) (hts _ mf_X5_17) (fun _ h9 => h9) rfl hd (k H locs ls hl hP hD hS)
theorem put_X5_17 {K : Kx} {cc : ByteArray} {g : Gm} {nL d : Nat} {ret : Option FieldType} {Q : State → Prop} {pc : Nat} {lv : List (Nat × Value)} {st : List Value} {σ : St} (hC : Ok K cc RX5 g nL d ret) {v : Int32} {ρ : Type} {o : ρ} {f : St → Option ρ} (hd : decode cc pc = .ok (.putfield 17, 3)) (h : bnd (si σ 5 v) f = some o) (k : ∀ σ2, f σ2 = some o → J K (wX g) nL Q (pc + 3) lv (st) σ2) : J K (wX g) nL Q (pc) lv (.int v :: .ref (g.1 2) :: st) σ := by
  obtain ⟨p, l, e, R, s, m, args, below, meth, c, D, A, ce, sl⟩ := K
  obtain ⟨hx, hb, hml, hown, hts, hK, hA, hSF, ⟨hR1, hR2, hR3, hR4⟩, hr, hlk⟩ := hC
  exact fun H locs ls hl hP hD hS => va_put (D := D) (ci := 5) (v := .int v) (ty := .int) (C := RX5) (T := TX5) (N := 9) hx hb hts uwX5 tyX5 tyX5_ok nmX5 hown hK hP hD hS 2 rfl rfl 6 (by decide) (hts _ mf_X5_17) (fun _ h9 => h9) rfl (by decide +kernel) rfl rfl (Nat.le_of_ble_eq_true rfl) hd (fun H locs hP hD hS => k _ h H locs ls hl hP hD hS)
theorem mf_X5_20 : Cond.fieldLink RX5 20 "SongHour$Text" "faultKind" "I" ∈ GW := memT (i := 38) (by decide +kernel) rfl
theorem get_X5_20 {K : Kx} {cc : ByteArray} {g : Gm} {nL d : Nat} {ret : Option FieldType} {Q : State → Prop} {pc : Nat} {lv : List (Nat × Value)} {st : List Value} {σ : St} (hC : Ok K cc RX5 g nL d ret) (hd : decode cc pc = .ok (.getfield 20, 3)) (k : J K (wX g) nL Q (pc + 3) lv (.int (gi σ 1) :: st) σ) : J K (wX g) nL Q (pc) lv (.ref (g.1 2) :: st) σ := by
  obtain ⟨p, l, e, R, s, m, args, below, meth, c, D, A, ce, sl⟩ := K
  obtain ⟨hx, hb, hml, hown, hts, hK, hA, hSF, ⟨hR1, hR2, hR3, hR4⟩, hr, hlk⟩ := hC
  exact fun H locs ls hl hP hD hS => va_get (D := D) (ci := 5) (v := .int (gi σ 1)) (C := RX5) (T := TX5) (N := 9) hx hb hts uwX5 hown hK hP 2 rfl rfl 2 (by decide) (hts _ mf_X5_20) (fun _ h9 => h9) rfl hd (k H locs ls hl hP hD hS)
theorem put_X5_20 {K : Kx} {cc : ByteArray} {g : Gm} {nL d : Nat} {ret : Option FieldType} {Q : State → Prop} {pc : Nat} {lv : List (Nat × Value)} {st : List Value} {σ : St} (hC : Ok K cc RX5 g nL d ret) {v : Int32} {ρ : Type} {o : ρ} {f : St → Option ρ} (hd : decode cc pc = .ok (.putfield 20, 3)) (h : bnd (si σ 1 v) f = some o) (k : ∀ σ2, f σ2 = some o → J K (wX g) nL Q (pc + 3) lv (st) σ2) : J K (wX g) nL Q (pc) lv (.int v :: .ref (g.1 2) :: st) σ := by
  obtain ⟨p, l, e, R, s, m, args, below, meth, c, D, A, ce, sl⟩ := K
  obtain ⟨hx, hb, hml, hown, hts, hK, hA, hSF, ⟨hR1, hR2, hR3, hR4⟩, hr, hlk⟩ := hC
  exact fun H locs ls hl hP hD hS => va_put (D := D) (ci := 5) (v := .int v) (ty := .int) (C := RX5) (T := TX5) (N := 9) hx hb hts uwX5 tyX5 tyX5_ok nmX5 hown hK hP hD hS 2 rfl rfl 2 (by decide) (hts _ mf_X5_20) (fun _ h9 => h9) rfl (by decide +kernel) rfl rfl (Nat.le_of_ble_eq_true rfl) hd (fun H locs hP hD hS => k _ h H locs ls hl hP hD hS)
theorem mf_X5_23 : Cond.fieldLink RX5 23 "SongHour$Text" "faultPlace" "I" ∈ GW := memT (i := 40) (by decide +kernel) rfl
theorem get_X5_23 {K : Kx} {cc : ByteArray} {g : Gm} {nL d : Nat} {ret : Option FieldType} {Q : State → Prop} {pc : Nat} {lv : List (Nat × Value)} {st : List Value} {σ : St} (hC : Ok K cc RX5 g nL d ret) (hd : decode cc pc = .ok (.getfield 23, 3)) (k : J K (wX g) nL Q (pc + 3) lv (.int (gi σ 2) :: st) σ) : J K (wX g) nL Q (pc) lv (.ref (g.1 2) :: st) σ := by
  obtain ⟨p, l, e, R, s, m, args, below, meth, c, D, A, ce, sl⟩ := K
  obtain ⟨hx, hb, hml, hown, hts, hK, hA, hSF, ⟨hR1, hR2, hR3, hR4⟩, hr, hlk⟩ := hC
  exact fun H locs ls hl hP hD hS => va_get (D := D) (ci := 5) (v := .int (gi σ 2)) (C := RX5) (T := TX5) (N := 9) hx hb hts uwX5 hown hK hP 2 rfl rfl 3 (by decide) (hts _ mf_X5_23) (fun _ h9 => h9) rfl hd (k H locs ls hl hP hD hS)
theorem put_X5_23 {K : Kx} {cc : ByteArray} {g : Gm} {nL d : Nat} {ret : Option FieldType} {Q : State → Prop} {pc : Nat} {lv : List (Nat × Value)} {st : List Value} {σ : St} (hC : Ok K cc RX5 g nL d ret) {v : Int32} {ρ : Type} {o : ρ} {f : St → Option ρ} (hd : decode cc pc = .ok (.putfield 23, 3)) (h : bnd (si σ 2 v) f = some o) (k : ∀ σ2, f σ2 = some o → J K (wX g) nL Q (pc + 3) lv (st) σ2) : J K (wX g) nL Q (pc) lv (.int v :: .ref (g.1 2) :: st) σ := by
  obtain ⟨p, l, e, R, s, m, args, below, meth, c, D, A, ce, sl⟩ := K
  obtain ⟨hx, hb, hml, hown, hts, hK, hA, hSF, ⟨hR1, hR2, hR3, hR4⟩, hr, hlk⟩ := hC
  exact fun H locs ls hl hP hD hS => va_put (D := D) (ci := 5) (v := .int v) (ty := .int) (C := RX5) (T := TX5) (N := 9) hx hb hts uwX5 tyX5 tyX5_ok nmX5 hown hK hP hD hS 2 rfl rfl 3 (by decide) (hts _ mf_X5_23) (fun _ h9 => h9) rfl (by decide +kernel) rfl rfl (Nat.le_of_ble_eq_true rfl) hd (fun H locs hP hD hS => k _ h H locs ls hl hP hD hS)
theorem mf_X5_26 : Cond.fieldLink RX5 26 "SongHour$Text" "to" "I" ∈ GW := memT (i := 50) (by decide +kernel) rfl
theorem get_X5_26 {K : Kx} {cc : ByteArray} {g : Gm} {nL d : Nat} {ret : Option FieldType} {Q : State → Prop} {pc : Nat} {lv : List (Nat × Value)} {st : List Value} {σ : St} (hC : Ok K cc RX5 g nL d ret) (hd : decode cc pc = .ok (.getfield 26, 3)) (k : J K (wX g) nL Q (pc + 3) lv (.int (gi σ 7) :: st) σ) : J K (wX g) nL Q (pc) lv (.ref (g.1 2) :: st) σ := by
  obtain ⟨p, l, e, R, s, m, args, below, meth, c, D, A, ce, sl⟩ := K
  obtain ⟨hx, hb, hml, hown, hts, hK, hA, hSF, ⟨hR1, hR2, hR3, hR4⟩, hr, hlk⟩ := hC
  exact fun H locs ls hl hP hD hS => va_get (D := D) (ci := 5) (v := .int (gi σ 7)) (C := RX5) (T := TX5) (N := 9) hx hb hts uwX5 hown hK hP 2 rfl rfl 8 (by decide) (hts _ mf_X5_26) (fun _ h9 => h9) rfl hd (k H locs ls hl hP hD hS)
theorem put_X5_26 {K : Kx} {cc : ByteArray} {g : Gm} {nL d : Nat} {ret : Option FieldType} {Q : State → Prop} {pc : Nat} {lv : List (Nat × Value)} {st : List Value} {σ : St} (hC : Ok K cc RX5 g nL d ret) {v : Int32} {ρ : Type} {o : ρ} {f : St → Option ρ} (hd : decode cc pc = .ok (.putfield 26, 3)) (h : bnd (si σ 7 v) f = some o) (k : ∀ σ2, f σ2 = some o → J K (wX g) nL Q (pc + 3) lv (st) σ2) : J K (wX g) nL Q (pc) lv (.int v :: .ref (g.1 2) :: st) σ := by
  obtain ⟨p, l, e, R, s, m, args, below, meth, c, D, A, ce, sl⟩ := K
  obtain ⟨hx, hb, hml, hown, hts, hK, hA, hSF, ⟨hR1, hR2, hR3, hR4⟩, hr, hlk⟩ := hC
  exact fun H locs ls hl hP hD hS => va_put (D := D) (ci := 5) (v := .int v) (ty := .int) (C := RX5) (T := TX5) (N := 9) hx hb hts uwX5 tyX5 tyX5_ok nmX5 hown hK hP hD hS 2 rfl rfl 8 (by decide) (hts _ mf_X5_26) (fun _ h9 => h9) rfl (by decide +kernel) rfl rfl (Nat.le_of_ble_eq_true rfl) hd (fun H locs hP hD hS => k _ h H locs ls hl hP hD hS)
theorem mf_X5_40 : Cond.fieldLink RX5 40 "SongHour$Text" "token" "I" ∈ GW := memT (i := 44) (by decide +kernel) rfl
theorem get_X5_40 {K : Kx} {cc : ByteArray} {g : Gm} {nL d : Nat} {ret : Option FieldType} {Q : State → Prop} {pc : Nat} {lv : List (Nat × Value)} {st : List Value} {σ : St} (hC : Ok K cc RX5 g nL d ret) (hd : decode cc pc = .ok (.getfield 40, 3)) (k : J K (wX g) nL Q (pc + 3) lv (.int (gi σ 3) :: st) σ) : J K (wX g) nL Q (pc) lv (.ref (g.1 2) :: st) σ := by
  obtain ⟨p, l, e, R, s, m, args, below, meth, c, D, A, ce, sl⟩ := K
  obtain ⟨hx, hb, hml, hown, hts, hK, hA, hSF, ⟨hR1, hR2, hR3, hR4⟩, hr, hlk⟩ := hC
  exact fun H locs ls hl hP hD hS => va_get (D := D) (ci := 5) (v := .int (gi σ 3)) (C := RX5) (T := TX5) (N := 9) hx hb hts uwX5 hown hK hP 2 rfl rfl 4 (by decide) (hts _ mf_X5_40) (fun _ h9 => h9) rfl hd (k H locs ls hl hP hD hS)
theorem put_X5_40 {K : Kx} {cc : ByteArray} {g : Gm} {nL d : Nat} {ret : Option FieldType} {Q : State → Prop} {pc : Nat} {lv : List (Nat × Value)} {st : List Value} {σ : St} (hC : Ok K cc RX5 g nL d ret) {v : Int32} {ρ : Type} {o : ρ} {f : St → Option ρ} (hd : decode cc pc = .ok (.putfield 40, 3)) (h : bnd (si σ 3 v) f = some o) (k : ∀ σ2, f σ2 = some o → J K (wX g) nL Q (pc + 3) lv (st) σ2) : J K (wX g) nL Q (pc) lv (.int v :: .ref (g.1 2) :: st) σ := by
  obtain ⟨p, l, e, R, s, m, args, below, meth, c, D, A, ce, sl⟩ := K
  obtain ⟨hx, hb, hml, hown, hts, hK, hA, hSF, ⟨hR1, hR2, hR3, hR4⟩, hr, hlk⟩ := hC
  exact fun H locs ls hl hP hD hS => va_put (D := D) (ci := 5) (v := .int v) (ty := .int) (C := RX5) (T := TX5) (N := 9) hx hb hts uwX5 tyX5 tyX5_ok nmX5 hown hK hP hD hS 2 rfl rfl 4 (by decide) (hts _ mf_X5_40) (fun _ h9 => h9) rfl (by decide +kernel) rfl rfl (Nat.le_of_ble_eq_true rfl) hd (fun H locs hP hD hS => k _ h H locs ls hl hP hD hS)
theorem mf_X5_49 : Cond.fieldLink RX5 49 "SongHour$Text" "from" "I" ∈ GW := memT (i := 49) (by decide +kernel) rfl
theorem get_X5_49 {K : Kx} {cc : ByteArray} {g : Gm} {nL d : Nat} {ret : Option FieldType} {Q : State → Prop} {pc : Nat} {lv : List (Nat × Value)} {st : List Value} {σ : St} (hC : Ok K cc RX5 g nL d ret) (hd : decode cc pc = .ok (.getfield 49, 3)) (k : J K (wX g) nL Q (pc + 3) lv (.int (gi σ 6) :: st) σ) : J K (wX g) nL Q (pc) lv (.ref (g.1 2) :: st) σ := by
  obtain ⟨p, l, e, R, s, m, args, below, meth, c, D, A, ce, sl⟩ := K
  obtain ⟨hx, hb, hml, hown, hts, hK, hA, hSF, ⟨hR1, hR2, hR3, hR4⟩, hr, hlk⟩ := hC
  exact fun H locs ls hl hP hD hS => va_get (D := D) (ci := 5) (v := .int (gi σ 6)) (C := RX5) (T := TX5) (N := 9) hx hb hts uwX5 hown hK hP 2 rfl rfl 7 (by decide) (hts _ mf_X5_49) (fun _ h9 => h9) rfl hd (k H locs ls hl hP hD hS)
theorem put_X5_49 {K : Kx} {cc : ByteArray} {g : Gm} {nL d : Nat} {ret : Option FieldType} {Q : State → Prop} {pc : Nat} {lv : List (Nat × Value)} {st : List Value} {σ : St} (hC : Ok K cc RX5 g nL d ret) {v : Int32} {ρ : Type} {o : ρ} {f : St → Option ρ} (hd : decode cc pc = .ok (.putfield 49, 3)) (h : bnd (si σ 6 v) f = some o) (k : ∀ σ2, f σ2 = some o → J K (wX g) nL Q (pc + 3) lv (st) σ2) : J K (wX g) nL Q (pc) lv (.int v :: .ref (g.1 2) :: st) σ := by
  obtain ⟨p, l, e, R, s, m, args, below, meth, c, D, A, ce, sl⟩ := K
  obtain ⟨hx, hb, hml, hown, hts, hK, hA, hSF, ⟨hR1, hR2, hR3, hR4⟩, hr, hlk⟩ := hC
  exact fun H locs ls hl hP hD hS => va_put (D := D) (ci := 5) (v := .int v) (ty := .int) (C := RX5) (T := TX5) (N := 9) hx hb hts uwX5 tyX5 tyX5_ok nmX5 hown hK hP hD hS 2 rfl rfl 7 (by decide) (hts _ mf_X5_49) (fun _ h9 => h9) rfl (by decide +kernel) rfl rfl (Nat.le_of_ble_eq_true rfl) hd (fun H locs hP hD hS => k _ h H locs ls hl hP hD hS)
theorem mf_X5_58 : Cond.fieldLink RX5 58 "SongHour$Text" "value" "I" ∈ GW := memT (i := 47) (by decide +kernel) rfl
theorem get_X5_58 {K : Kx} {cc : ByteArray} {g : Gm} {nL d : Nat} {ret : Option FieldType} {Q : State → Prop} {pc : Nat} {lv : List (Nat × Value)} {st : List Value} {σ : St} (hC : Ok K cc RX5 g nL d ret) (hd : decode cc pc = .ok (.getfield 58, 3)) (k : J K (wX g) nL Q (pc + 3) lv (.int (gi σ 4) :: st) σ) : J K (wX g) nL Q (pc) lv (.ref (g.1 2) :: st) σ := by
  obtain ⟨p, l, e, R, s, m, args, below, meth, c, D, A, ce, sl⟩ := K
  obtain ⟨hx, hb, hml, hown, hts, hK, hA, hSF, ⟨hR1, hR2, hR3, hR4⟩, hr, hlk⟩ := hC
  exact fun H locs ls hl hP hD hS => va_get (D := D) (ci := 5) (v := .int (gi σ 4)) (C := RX5) (T := TX5) (N := 9) hx hb hts uwX5 hown hK hP 2 rfl rfl 5 (by decide) (hts _ mf_X5_58) (fun _ h9 => h9) rfl hd (k H locs ls hl hP hD hS)
theorem put_X5_58 {K : Kx} {cc : ByteArray} {g : Gm} {nL d : Nat} {ret : Option FieldType} {Q : State → Prop} {pc : Nat} {lv : List (Nat × Value)} {st : List Value} {σ : St} (hC : Ok K cc RX5 g nL d ret) {v : Int32} {ρ : Type} {o : ρ} {f : St → Option ρ} (hd : decode cc pc = .ok (.putfield 58, 3)) (h : bnd (si σ 4 v) f = some o) (k : ∀ σ2, f σ2 = some o → J K (wX g) nL Q (pc + 3) lv (st) σ2) : J K (wX g) nL Q (pc) lv (.int v :: .ref (g.1 2) :: st) σ := by
  obtain ⟨p, l, e, R, s, m, args, below, meth, c, D, A, ce, sl⟩ := K
  obtain ⟨hx, hb, hml, hown, hts, hK, hA, hSF, ⟨hR1, hR2, hR3, hR4⟩, hr, hlk⟩ := hC
  exact fun H locs ls hl hP hD hS => va_put (D := D) (ci := 5) (v := .int v) (ty := .int) (C := RX5) (T := TX5) (N := 9) hx hb hts uwX5 tyX5 tyX5_ok nmX5 hown hK hP hD hS 2 rfl rfl 5 (by decide) (hts _ mf_X5_58) (fun _ h9 => h9) rfl (by decide +kernel) rfl rfl (Nat.le_of_ble_eq_true rfl) hd (fun H locs hP hD hS => k _ h H locs ls hl hP hD hS)
theorem mf_X7_7 : Cond.fieldLink RX7 7 "SongHourModel" "tape" "[I" ∈ GW := memT (i := 803) (by decide +kernel) rfl
theorem get_X7_7 {K : Kx} {cc : ByteArray} {g : Gm} {nL d : Nat} {ret : Option FieldType} {Q : State → Prop} {pc : Nat} {lv : List (Nat × Value)} {st : List Value} {σ : St} (hC : Ok K cc RX7 g nL d ret) (hd : decode cc pc = .ok (.getfield 7, 3)) (k : J K (wM g) nL Q (pc + 3) lv (.ref (g.1 1) :: st) σ) : J K (wM g) nL Q (pc) lv (.ref (g.1 0) :: st) σ := by
  obtain ⟨p, l, e, R, s, m, args, below, meth, c, D, A, ce, sl⟩ := K
  obtain ⟨hx, hb, hml, hown, hts, hK, hA, hSF, ⟨hR1, hR2, hR3, hR4⟩, hr, hlk⟩ := hC
  exact fun H locs ls hl hP hD hS => va_get (D := D) (ci := 7) (v := .ref (g.1 1)) (C := RX7) (T := TX7) (N := 54) hx hb hts uwX7 hown hK hP 0 rfl rfl 1 (by decide) (hts _ mf_X7_7) (fun _ h9 => h9) rfl hd (k H locs ls hl hP hD hS)
theorem mf_X7_13 : Cond.fieldLink RX7 13 "SongHourModel" "rule" "[I" ∈ GW := memT (i := 815) (by decide +kernel) rfl
theorem get_X7_13 {K : Kx} {cc : ByteArray} {g : Gm} {nL d : Nat} {ret : Option FieldType} {Q : State → Prop} {pc : Nat} {lv : List (Nat × Value)} {st : List Value} {σ : St} (hC : Ok K cc RX7 g nL d ret) (hd : decode cc pc = .ok (.getfield 13, 3)) (k : J K (wM g) nL Q (pc + 3) lv (.ref (g.1 2) :: st) σ) : J K (wM g) nL Q (pc) lv (.ref (g.1 0) :: st) σ := by
  obtain ⟨p, l, e, R, s, m, args, below, meth, c, D, A, ce, sl⟩ := K
  obtain ⟨hx, hb, hml, hown, hts, hK, hA, hSF, ⟨hR1, hR2, hR3, hR4⟩, hr, hlk⟩ := hC
  exact fun H locs ls hl hP hD hS => va_get (D := D) (ci := 7) (v := .ref (g.1 2)) (C := RX7) (T := TX7) (N := 54) hx hb hts uwX7 hown hK hP 0 rfl rfl 13 (by decide) (hts _ mf_X7_13) (fun _ h9 => h9) rfl hd (k H locs ls hl hP hD hS)
theorem mf_X7_16 : Cond.fieldLink RX7 16 "SongHourModel" "usual" "[I" ∈ GW := memT (i := 816) (by decide +kernel) rfl
theorem get_X7_16 {K : Kx} {cc : ByteArray} {g : Gm} {nL d : Nat} {ret : Option FieldType} {Q : State → Prop} {pc : Nat} {lv : List (Nat × Value)} {st : List Value} {σ : St} (hC : Ok K cc RX7 g nL d ret) (hd : decode cc pc = .ok (.getfield 16, 3)) (k : J K (wM g) nL Q (pc + 3) lv (.ref (g.1 3) :: st) σ) : J K (wM g) nL Q (pc) lv (.ref (g.1 0) :: st) σ := by
  obtain ⟨p, l, e, R, s, m, args, below, meth, c, D, A, ce, sl⟩ := K
  obtain ⟨hx, hb, hml, hown, hts, hK, hA, hSF, ⟨hR1, hR2, hR3, hR4⟩, hr, hlk⟩ := hC
  exact fun H locs ls hl hP hD hS => va_get (D := D) (ci := 7) (v := .ref (g.1 3)) (C := RX7) (T := TX7) (N := 54) hx hb hts uwX7 hown hK hP 0 rfl rfl 14 (by decide) (hts _ mf_X7_16) (fun _ h9 => h9) rfl hd (k H locs ls hl hP hD hS)
theorem mf_X7_19 : Cond.fieldLink RX7 19 "SongHourModel" "fresh" "[I" ∈ GW := memT (i := 817) (by decide +kernel) rfl
theorem get_X7_19 {K : Kx} {cc : ByteArray} {g : Gm} {nL d : Nat} {ret : Option FieldType} {Q : State → Prop} {pc : Nat} {lv : List (Nat × Value)} {st : List Value} {σ : St} (hC : Ok K cc RX7 g nL d ret) (hd : decode cc pc = .ok (.getfield 19, 3)) (k : J K (wM g) nL Q (pc + 3) lv (.ref (g.1 4) :: st) σ) : J K (wM g) nL Q (pc) lv (.ref (g.1 0) :: st) σ := by
  obtain ⟨p, l, e, R, s, m, args, below, meth, c, D, A, ce, sl⟩ := K
  obtain ⟨hx, hb, hml, hown, hts, hK, hA, hSF, ⟨hR1, hR2, hR3, hR4⟩, hr, hlk⟩ := hC
  exact fun H locs ls hl hP hD hS => va_get (D := D) (ci := 7) (v := .ref (g.1 4)) (C := RX7) (T := TX7) (N := 54) hx hb hts uwX7 hown hK hP 0 rfl rfl 15 (by decide) (hts _ mf_X7_19) (fun _ h9 => h9) rfl hd (k H locs ls hl hP hD hS)
theorem mf_X7_22 : Cond.fieldLink RX7 22 "SongHourModel" "low" "[I" ∈ GW := memT (i := 818) (by decide +kernel) rfl
theorem get_X7_22 {K : Kx} {cc : ByteArray} {g : Gm} {nL d : Nat} {ret : Option FieldType} {Q : State → Prop} {pc : Nat} {lv : List (Nat × Value)} {st : List Value} {σ : St} (hC : Ok K cc RX7 g nL d ret) (hd : decode cc pc = .ok (.getfield 22, 3)) (k : J K (wM g) nL Q (pc + 3) lv (.ref (g.1 5) :: st) σ) : J K (wM g) nL Q (pc) lv (.ref (g.1 0) :: st) σ := by
  obtain ⟨p, l, e, R, s, m, args, below, meth, c, D, A, ce, sl⟩ := K
  obtain ⟨hx, hb, hml, hown, hts, hK, hA, hSF, ⟨hR1, hR2, hR3, hR4⟩, hr, hlk⟩ := hC
  exact fun H locs ls hl hP hD hS => va_get (D := D) (ci := 7) (v := .ref (g.1 5)) (C := RX7) (T := TX7) (N := 54) hx hb hts uwX7 hown hK hP 0 rfl rfl 16 (by decide) (hts _ mf_X7_22) (fun _ h9 => h9) rfl hd (k H locs ls hl hP hD hS)
theorem mf_X7_25 : Cond.fieldLink RX7 25 "SongHourModel" "high" "[I" ∈ GW := memT (i := 819) (by decide +kernel) rfl
theorem get_X7_25 {K : Kx} {cc : ByteArray} {g : Gm} {nL d : Nat} {ret : Option FieldType} {Q : State → Prop} {pc : Nat} {lv : List (Nat × Value)} {st : List Value} {σ : St} (hC : Ok K cc RX7 g nL d ret) (hd : decode cc pc = .ok (.getfield 25, 3)) (k : J K (wM g) nL Q (pc + 3) lv (.ref (g.1 6) :: st) σ) : J K (wM g) nL Q (pc) lv (.ref (g.1 0) :: st) σ := by
  obtain ⟨p, l, e, R, s, m, args, below, meth, c, D, A, ce, sl⟩ := K
  obtain ⟨hx, hb, hml, hown, hts, hK, hA, hSF, ⟨hR1, hR2, hR3, hR4⟩, hr, hlk⟩ := hC
  exact fun H locs ls hl hP hD hS => va_get (D := D) (ci := 7) (v := .ref (g.1 6)) (C := RX7) (T := TX7) (N := 54) hx hb hts uwX7 hown hK hP 0 rfl rfl 17 (by decide) (hts _ mf_X7_25) (fun _ h9 => h9) rfl hd (k H locs ls hl hP hD hS)
theorem mf_X7_28 : Cond.fieldLink RX7 28 "SongHourModel" "many" "[I" ∈ GW := memT (i := 820) (by decide +kernel) rfl
theorem get_X7_28 {K : Kx} {cc : ByteArray} {g : Gm} {nL d : Nat} {ret : Option FieldType} {Q : State → Prop} {pc : Nat} {lv : List (Nat × Value)} {st : List Value} {σ : St} (hC : Ok K cc RX7 g nL d ret) (hd : decode cc pc = .ok (.getfield 28, 3)) (k : J K (wM g) nL Q (pc + 3) lv (.ref (g.1 7) :: st) σ) : J K (wM g) nL Q (pc) lv (.ref (g.1 0) :: st) σ := by
  obtain ⟨p, l, e, R, s, m, args, below, meth, c, D, A, ce, sl⟩ := K
  obtain ⟨hx, hb, hml, hown, hts, hK, hA, hSF, ⟨hR1, hR2, hR3, hR4⟩, hr, hlk⟩ := hC
  exact fun H locs ls hl hP hD hS => va_get (D := D) (ci := 7) (v := .ref (g.1 7)) (C := RX7) (T := TX7) (N := 54) hx hb hts uwX7 hown hK hP 0 rfl rfl 18 (by decide) (hts _ mf_X7_28) (fun _ h9 => h9) rfl hd (k H locs ls hl hP hD hS)
theorem mf_X7_31 : Cond.fieldLink RX7 31 "SongHourModel" "seconds" "[I" ∈ GW := memT (i := 821) (by decide +kernel) rfl
theorem get_X7_31 {K : Kx} {cc : ByteArray} {g : Gm} {nL d : Nat} {ret : Option FieldType} {Q : State → Prop} {pc : Nat} {lv : List (Nat × Value)} {st : List Value} {σ : St} (hC : Ok K cc RX7 g nL d ret) (hd : decode cc pc = .ok (.getfield 31, 3)) (k : J K (wM g) nL Q (pc + 3) lv (.ref (g.1 8) :: st) σ) : J K (wM g) nL Q (pc) lv (.ref (g.1 0) :: st) σ := by
  obtain ⟨p, l, e, R, s, m, args, below, meth, c, D, A, ce, sl⟩ := K
  obtain ⟨hx, hb, hml, hown, hts, hK, hA, hSF, ⟨hR1, hR2, hR3, hR4⟩, hr, hlk⟩ := hC
  exact fun H locs ls hl hP hD hS => va_get (D := D) (ci := 7) (v := .ref (g.1 8)) (C := RX7) (T := TX7) (N := 54) hx hb hts uwX7 hown hK hP 0 rfl rfl 19 (by decide) (hts _ mf_X7_31) (fun _ h9 => h9) rfl hd (k H locs ls hl hP hD hS)
theorem mf_X7_34 : Cond.fieldLink RX7 34 "SongHourModel" "mood" "[I" ∈ GW := memT (i := 822) (by decide +kernel) rfl
theorem get_X7_34 {K : Kx} {cc : ByteArray} {g : Gm} {nL d : Nat} {ret : Option FieldType} {Q : State → Prop} {pc : Nat} {lv : List (Nat × Value)} {st : List Value} {σ : St} (hC : Ok K cc RX7 g nL d ret) (hd : decode cc pc = .ok (.getfield 34, 3)) (k : J K (wM g) nL Q (pc + 3) lv (.ref (g.1 9) :: st) σ) : J K (wM g) nL Q (pc) lv (.ref (g.1 0) :: st) σ := by
  obtain ⟨p, l, e, R, s, m, args, below, meth, c, D, A, ce, sl⟩ := K
  obtain ⟨hx, hb, hml, hown, hts, hK, hA, hSF, ⟨hR1, hR2, hR3, hR4⟩, hr, hlk⟩ := hC
  exact fun H locs ls hl hP hD hS => va_get (D := D) (ci := 7) (v := .ref (g.1 9)) (C := RX7) (T := TX7) (N := 54) hx hb hts uwX7 hown hK hP 0 rfl rfl 20 (by decide) (hts _ mf_X7_34) (fun _ h9 => h9) rfl hd (k H locs ls hl hP hD hS)
theorem mf_X7_37 : Cond.fieldLink RX7 37 "SongHourModel" "fresh0" "[I" ∈ GW := memT (i := 823) (by decide +kernel) rfl
theorem get_X7_37 {K : Kx} {cc : ByteArray} {g : Gm} {nL d : Nat} {ret : Option FieldType} {Q : State → Prop} {pc : Nat} {lv : List (Nat × Value)} {st : List Value} {σ : St} (hC : Ok K cc RX7 g nL d ret) (hd : decode cc pc = .ok (.getfield 37, 3)) (k : J K (wM g) nL Q (pc + 3) lv (.ref (g.1 10) :: st) σ) : J K (wM g) nL Q (pc) lv (.ref (g.1 0) :: st) σ := by
  obtain ⟨p, l, e, R, s, m, args, below, meth, c, D, A, ce, sl⟩ := K
  obtain ⟨hx, hb, hml, hown, hts, hK, hA, hSF, ⟨hR1, hR2, hR3, hR4⟩, hr, hlk⟩ := hC
  exact fun H locs ls hl hP hD hS => va_get (D := D) (ci := 7) (v := .ref (g.1 10)) (C := RX7) (T := TX7) (N := 54) hx hb hts uwX7 hown hK hP 0 rfl rfl 21 (by decide) (hts _ mf_X7_37) (fun _ h9 => h9) rfl hd (k H locs ls hl hP hD hS)
theorem mf_X7_40 : Cond.fieldLink RX7 40 "SongHourModel" "lasts" "[I" ∈ GW := memT (i := 825) (by decide +kernel) rfl
theorem get_X7_40 {K : Kx} {cc : ByteArray} {g : Gm} {nL d : Nat} {ret : Option FieldType} {Q : State → Prop} {pc : Nat} {lv : List (Nat × Value)} {st : List Value} {σ : St} (hC : Ok K cc RX7 g nL d ret) (hd : decode cc pc = .ok (.getfield 40, 3)) (k : J K (wM g) nL Q (pc + 3) lv (.ref (g.1 11) :: st) σ) : J K (wM g) nL Q (pc) lv (.ref (g.1 0) :: st) σ := by
  obtain ⟨p, l, e, R, s, m, args, below, meth, c, D, A, ce, sl⟩ := K
  obtain ⟨hx, hb, hml, hown, hts, hK, hA, hSF, ⟨hR1, hR2, hR3, hR4⟩, hr, hlk⟩ := hC
  exact fun H locs ls hl hP hD hS => va_get (D := D) (ci := 7) (v := .ref (g.1 11)) (C := RX7) (T := TX7) (N := 54) hx hb hts uwX7 hown hK hP 0 rfl rfl 23 (by decide) (hts _ mf_X7_40) (fun _ h9 => h9) rfl hd (k H locs ls hl hP hD hS)
theorem mf_X7_43 : Cond.fieldLink RX7 43 "SongHourModel" "artist" "[I" ∈ GW := memT (i := 826) (by decide +kernel) rfl
theorem get_X7_43 {K : Kx} {cc : ByteArray} {g : Gm} {nL d : Nat} {ret : Option FieldType} {Q : State → Prop} {pc : Nat} {lv : List (Nat × Value)} {st : List Value} {σ : St} (hC : Ok K cc RX7 g nL d ret) (hd : decode cc pc = .ok (.getfield 43, 3)) (k : J K (wM g) nL Q (pc + 3) lv (.ref (g.1 12) :: st) σ) : J K (wM g) nL Q (pc) lv (.ref (g.1 0) :: st) σ := by
  obtain ⟨p, l, e, R, s, m, args, below, meth, c, D, A, ce, sl⟩ := K
  obtain ⟨hx, hb, hml, hown, hts, hK, hA, hSF, ⟨hR1, hR2, hR3, hR4⟩, hr, hlk⟩ := hC
  exact fun H locs ls hl hP hD hS => va_get (D := D) (ci := 7) (v := .ref (g.1 12)) (C := RX7) (T := TX7) (N := 54) hx hb hts uwX7 hown hK hP 0 rfl rfl 24 (by decide) (hts _ mf_X7_43) (fun _ h9 => h9) rfl hd (k H locs ls hl hP hD hS)
theorem mf_X7_46 : Cond.fieldLink RX7 46 "SongHourModel" "key" "[I" ∈ GW := memT (i := 827) (by decide +kernel) rfl
theorem get_X7_46 {K : Kx} {cc : ByteArray} {g : Gm} {nL d : Nat} {ret : Option FieldType} {Q : State → Prop} {pc : Nat} {lv : List (Nat × Value)} {st : List Value} {σ : St} (hC : Ok K cc RX7 g nL d ret) (hd : decode cc pc = .ok (.getfield 46, 3)) (k : J K (wM g) nL Q (pc + 3) lv (.ref (g.1 13) :: st) σ) : J K (wM g) nL Q (pc) lv (.ref (g.1 0) :: st) σ := by
  obtain ⟨p, l, e, R, s, m, args, below, meth, c, D, A, ce, sl⟩ := K
  obtain ⟨hx, hb, hml, hown, hts, hK, hA, hSF, ⟨hR1, hR2, hR3, hR4⟩, hr, hlk⟩ := hC
  exact fun H locs ls hl hP hD hS => va_get (D := D) (ci := 7) (v := .ref (g.1 13)) (C := RX7) (T := TX7) (N := 54) hx hb hts uwX7 hown hK hP 0 rfl rfl 25 (by decide) (hts _ mf_X7_46) (fun _ h9 => h9) rfl hd (k H locs ls hl hP hD hS)
theorem mf_X7_49 : Cond.fieldLink RX7 49 "SongHourModel" "songMood" "[I" ∈ GW := memT (i := 828) (by decide +kernel) rfl
theorem get_X7_49 {K : Kx} {cc : ByteArray} {g : Gm} {nL d : Nat} {ret : Option FieldType} {Q : State → Prop} {pc : Nat} {lv : List (Nat × Value)} {st : List Value} {σ : St} (hC : Ok K cc RX7 g nL d ret) (hd : decode cc pc = .ok (.getfield 49, 3)) (k : J K (wM g) nL Q (pc + 3) lv (.ref (g.1 14) :: st) σ) : J K (wM g) nL Q (pc) lv (.ref (g.1 0) :: st) σ := by
  obtain ⟨p, l, e, R, s, m, args, below, meth, c, D, A, ce, sl⟩ := K
  obtain ⟨hx, hb, hml, hown, hts, hK, hA, hSF, ⟨hR1, hR2, hR3, hR4⟩, hr, hlk⟩ := hC
  exact fun H locs ls hl hP hD hS => va_get (D := D) (ci := 7) (v := .ref (g.1 14)) (C := RX7) (T := TX7) (N := 54) hx hb hts uwX7 hown hK hP 0 rfl rfl 26 (by decide) (hts _ mf_X7_49) (fun _ h9 => h9) rfl hd (k H locs ls hl hP hD hS)
theorem mf_X7_52 : Cond.fieldLink RX7 52 "SongHourModel" "votes" "[I" ∈ GW := memT (i := 829) (by decide +kernel) rfl
theorem get_X7_52 {K : Kx} {cc : ByteArray} {g : Gm} {nL d : Nat} {ret : Option FieldType} {Q : State → Prop} {pc : Nat} {lv : List (Nat × Value)} {st : List Value} {σ : St} (hC : Ok K cc RX7 g nL d ret) (hd : decode cc pc = .ok (.getfield 52, 3)) (k : J K (wM g) nL Q (pc + 3) lv (.ref (g.1 15) :: st) σ) : J K (wM g) nL Q (pc) lv (.ref (g.1 0) :: st) σ := by
  obtain ⟨p, l, e, R, s, m, args, below, meth, c, D, A, ce, sl⟩ := K
  obtain ⟨hx, hb, hml, hown, hts, hK, hA, hSF, ⟨hR1, hR2, hR3, hR4⟩, hr, hlk⟩ := hC
  exact fun H locs ls hl hP hD hS => va_get (D := D) (ci := 7) (v := .ref (g.1 15)) (C := RX7) (T := TX7) (N := 54) hx hb hts uwX7 hown hK hP 0 rfl rfl 27 (by decide) (hts _ mf_X7_52) (fun _ h9 => h9) rfl hd (k H locs ls hl hP hD hS)
theorem mf_X7_55 : Cond.fieldLink RX7 55 "SongHourModel" "open" "[I" ∈ GW := memT (i := 830) (by decide +kernel) rfl
theorem get_X7_55 {K : Kx} {cc : ByteArray} {g : Gm} {nL d : Nat} {ret : Option FieldType} {Q : State → Prop} {pc : Nat} {lv : List (Nat × Value)} {st : List Value} {σ : St} (hC : Ok K cc RX7 g nL d ret) (hd : decode cc pc = .ok (.getfield 55, 3)) (k : J K (wM g) nL Q (pc + 3) lv (.ref (g.1 16) :: st) σ) : J K (wM g) nL Q (pc) lv (.ref (g.1 0) :: st) σ := by
  obtain ⟨p, l, e, R, s, m, args, below, meth, c, D, A, ce, sl⟩ := K
  obtain ⟨hx, hb, hml, hown, hts, hK, hA, hSF, ⟨hR1, hR2, hR3, hR4⟩, hr, hlk⟩ := hC
  exact fun H locs ls hl hP hD hS => va_get (D := D) (ci := 7) (v := .ref (g.1 16)) (C := RX7) (T := TX7) (N := 54) hx hb hts uwX7 hown hK hP 0 rfl rfl 28 (by decide) (hts _ mf_X7_55) (fun _ h9 => h9) rfl hd (k H locs ls hl hP hD hS)
theorem mf_X7_58 : Cond.fieldLink RX7 58 "SongHourModel" "done" "[I" ∈ GW := memT (i := 831) (by decide +kernel) rfl
theorem get_X7_58 {K : Kx} {cc : ByteArray} {g : Gm} {nL d : Nat} {ret : Option FieldType} {Q : State → Prop} {pc : Nat} {lv : List (Nat × Value)} {st : List Value} {σ : St} (hC : Ok K cc RX7 g nL d ret) (hd : decode cc pc = .ok (.getfield 58, 3)) (k : J K (wM g) nL Q (pc + 3) lv (.ref (g.1 17) :: st) σ) : J K (wM g) nL Q (pc) lv (.ref (g.1 0) :: st) σ := by
  obtain ⟨p, l, e, R, s, m, args, below, meth, c, D, A, ce, sl⟩ := K
  obtain ⟨hx, hb, hml, hown, hts, hK, hA, hSF, ⟨hR1, hR2, hR3, hR4⟩, hr, hlk⟩ := hC
  exact fun H locs ls hl hP hD hS => va_get (D := D) (ci := 7) (v := .ref (g.1 17)) (C := RX7) (T := TX7) (N := 54) hx hb hts uwX7 hown hK hP 0 rfl rfl 29 (by decide) (hts _ mf_X7_58) (fun _ h9 => h9) rfl hd (k H locs ls hl hP hD hS)
theorem mf_X7_61 : Cond.fieldLink RX7 61 "SongHourModel" "vote" "[I" ∈ GW := memT (i := 832) (by decide +kernel) rfl
theorem get_X7_61 {K : Kx} {cc : ByteArray} {g : Gm} {nL d : Nat} {ret : Option FieldType} {Q : State → Prop} {pc : Nat} {lv : List (Nat × Value)} {st : List Value} {σ : St} (hC : Ok K cc RX7 g nL d ret) (hd : decode cc pc = .ok (.getfield 61, 3)) (k : J K (wM g) nL Q (pc + 3) lv (.ref (g.1 18) :: st) σ) : J K (wM g) nL Q (pc) lv (.ref (g.1 0) :: st) σ := by
  obtain ⟨p, l, e, R, s, m, args, below, meth, c, D, A, ce, sl⟩ := K
  obtain ⟨hx, hb, hml, hown, hts, hK, hA, hSF, ⟨hR1, hR2, hR3, hR4⟩, hr, hlk⟩ := hC
  exact fun H locs ls hl hP hD hS => va_get (D := D) (ci := 7) (v := .ref (g.1 18)) (C := RX7) (T := TX7) (N := 54) hx hb hts uwX7 hown hK hP 0 rfl rfl 30 (by decide) (hts _ mf_X7_61) (fun _ h9 => h9) rfl hd (k H locs ls hl hP hD hS)
theorem mf_X7_64 : Cond.fieldLink RX7 64 "SongHourModel" "heat" "[I" ∈ GW := memT (i := 833) (by decide +kernel) rfl
theorem get_X7_64 {K : Kx} {cc : ByteArray} {g : Gm} {nL d : Nat} {ret : Option FieldType} {Q : State → Prop} {pc : Nat} {lv : List (Nat × Value)} {st : List Value} {σ : St} (hC : Ok K cc RX7 g nL d ret) (hd : decode cc pc = .ok (.getfield 64, 3)) (k : J K (wM g) nL Q (pc + 3) lv (.ref (g.1 19) :: st) σ) : J K (wM g) nL Q (pc) lv (.ref (g.1 0) :: st) σ := by
  obtain ⟨p, l, e, R, s, m, args, below, meth, c, D, A, ce, sl⟩ := K
  obtain ⟨hx, hb, hml, hown, hts, hK, hA, hSF, ⟨hR1, hR2, hR3, hR4⟩, hr, hlk⟩ := hC
  exact fun H locs ls hl hP hD hS => va_get (D := D) (ci := 7) (v := .ref (g.1 19)) (C := RX7) (T := TX7) (N := 54) hx hb hts uwX7 hown hK hP 0 rfl rfl 31 (by decide) (hts _ mf_X7_64) (fun _ h9 => h9) rfl hd (k H locs ls hl hP hD hS)
theorem mf_X7_67 : Cond.fieldLink RX7 67 "SongHourModel" "isNew" "[Z" ∈ GW := memT (i := 834) (by decide +kernel) rfl
theorem get_X7_67 {K : Kx} {cc : ByteArray} {g : Gm} {nL d : Nat} {ret : Option FieldType} {Q : State → Prop} {pc : Nat} {lv : List (Nat × Value)} {st : List Value} {σ : St} (hC : Ok K cc RX7 g nL d ret) (hd : decode cc pc = .ok (.getfield 67, 3)) (k : J K (wM g) nL Q (pc + 3) lv (.ref (g.1 20) :: st) σ) : J K (wM g) nL Q (pc) lv (.ref (g.1 0) :: st) σ := by
  obtain ⟨p, l, e, R, s, m, args, below, meth, c, D, A, ce, sl⟩ := K
  obtain ⟨hx, hb, hml, hown, hts, hK, hA, hSF, ⟨hR1, hR2, hR3, hR4⟩, hr, hlk⟩ := hC
  exact fun H locs ls hl hP hD hS => va_get (D := D) (ci := 7) (v := .ref (g.1 20)) (C := RX7) (T := TX7) (N := 54) hx hb hts uwX7 hown hK hP 0 rfl rfl 32 (by decide) (hts _ mf_X7_67) (fun _ h9 => h9) rfl hd (k H locs ls hl hP hD hS)
theorem mf_X7_71 : Cond.fieldLink RX7 71 "SongHourModel" "played" "[I" ∈ GW := memT (i := 836) (by decide +kernel) rfl
theorem get_X7_71 {K : Kx} {cc : ByteArray} {g : Gm} {nL d : Nat} {ret : Option FieldType} {Q : State → Prop} {pc : Nat} {lv : List (Nat × Value)} {st : List Value} {σ : St} (hC : Ok K cc RX7 g nL d ret) (hd : decode cc pc = .ok (.getfield 71, 3)) (k : J K (wM g) nL Q (pc + 3) lv (.ref (g.1 21) :: st) σ) : J K (wM g) nL Q (pc) lv (.ref (g.1 0) :: st) σ := by
  obtain ⟨p, l, e, R, s, m, args, below, meth, c, D, A, ce, sl⟩ := K
  obtain ⟨hx, hb, hml, hown, hts, hK, hA, hSF, ⟨hR1, hR2, hR3, hR4⟩, hr, hlk⟩ := hC
  exact fun H locs ls hl hP hD hS => va_get (D := D) (ci := 7) (v := .ref (g.1 21)) (C := RX7) (T := TX7) (N := 54) hx hb hts uwX7 hown hK hP 0 rfl rfl 34 (by decide) (hts _ mf_X7_71) (fun _ h9 => h9) rfl hd (k H locs ls hl hP hD hS)
theorem mf_X7_74 : Cond.fieldLink RX7 74 "SongHourModel" "began" "[I" ∈ GW := memT (i := 837) (by decide +kernel) rfl
theorem get_X7_74 {K : Kx} {cc : ByteArray} {g : Gm} {nL d : Nat} {ret : Option FieldType} {Q : State → Prop} {pc : Nat} {lv : List (Nat × Value)} {st : List Value} {σ : St} (hC : Ok K cc RX7 g nL d ret) (hd : decode cc pc = .ok (.getfield 74, 3)) (k : J K (wM g) nL Q (pc + 3) lv (.ref (g.1 22) :: st) σ) : J K (wM g) nL Q (pc) lv (.ref (g.1 0) :: st) σ := by
  obtain ⟨p, l, e, R, s, m, args, below, meth, c, D, A, ce, sl⟩ := K
  obtain ⟨hx, hb, hml, hown, hts, hK, hA, hSF, ⟨hR1, hR2, hR3, hR4⟩, hr, hlk⟩ := hC
  exact fun H locs ls hl hP hD hS => va_get (D := D) (ci := 7) (v := .ref (g.1 22)) (C := RX7) (T := TX7) (N := 54) hx hb hts uwX7 hown hK hP 0 rfl rfl 35 (by decide) (hts _ mf_X7_74) (fun _ h9 => h9) rfl hd (k H locs ls hl hP hD hS)
theorem mf_X7_77 : Cond.fieldLink RX7 77 "SongHourModel" "inItem" "[I" ∈ GW := memT (i := 838) (by decide +kernel) rfl
theorem get_X7_77 {K : Kx} {cc : ByteArray} {g : Gm} {nL d : Nat} {ret : Option FieldType} {Q : State → Prop} {pc : Nat} {lv : List (Nat × Value)} {st : List Value} {σ : St} (hC : Ok K cc RX7 g nL d ret) (hd : decode cc pc = .ok (.getfield 77, 3)) (k : J K (wM g) nL Q (pc + 3) lv (.ref (g.1 23) :: st) σ) : J K (wM g) nL Q (pc) lv (.ref (g.1 0) :: st) σ := by
  obtain ⟨p, l, e, R, s, m, args, below, meth, c, D, A, ce, sl⟩ := K
  obtain ⟨hx, hb, hml, hown, hts, hK, hA, hSF, ⟨hR1, hR2, hR3, hR4⟩, hr, hlk⟩ := hC
  exact fun H locs ls hl hP hD hS => va_get (D := D) (ci := 7) (v := .ref (g.1 23)) (C := RX7) (T := TX7) (N := 54) hx hb hts uwX7 hown hK hP 0 rfl rfl 36 (by decide) (hts _ mf_X7_77) (fun _ h9 => h9) rfl hd (k H locs ls hl hP hD hS)
theorem mf_X7_80 : Cond.fieldLink RX7 80 "SongHourModel" "left" "[I" ∈ GW := memT (i := 839) (by decide +kernel) rfl
theorem get_X7_80 {K : Kx} {cc : ByteArray} {g : Gm} {nL d : Nat} {ret : Option FieldType} {Q : State → Prop} {pc : Nat} {lv : List (Nat × Value)} {st : List Value} {σ : St} (hC : Ok K cc RX7 g nL d ret) (hd : decode cc pc = .ok (.getfield 80, 3)) (k : J K (wM g) nL Q (pc + 3) lv (.ref (g.1 24) :: st) σ) : J K (wM g) nL Q (pc) lv (.ref (g.1 0) :: st) σ := by
  obtain ⟨p, l, e, R, s, m, args, below, meth, c, D, A, ce, sl⟩ := K
  obtain ⟨hx, hb, hml, hown, hts, hK, hA, hSF, ⟨hR1, hR2, hR3, hR4⟩, hr, hlk⟩ := hC
  exact fun H locs ls hl hP hD hS => va_get (D := D) (ci := 7) (v := .ref (g.1 24)) (C := RX7) (T := TX7) (N := 54) hx hb hts uwX7 hown hK hP 0 rfl rfl 37 (by decide) (hts _ mf_X7_80) (fun _ h9 => h9) rfl hd (k H locs ls hl hP hD hS)
theorem mf_X7_83 : Cond.fieldLink RX7 83 "SongHourModel" "soonest" "[I" ∈ GW := memT (i := 844) (by decide +kernel) rfl
theorem get_X7_83 {K : Kx} {cc : ByteArray} {g : Gm} {nL d : Nat} {ret : Option FieldType} {Q : State → Prop} {pc : Nat} {lv : List (Nat × Value)} {st : List Value} {σ : St} (hC : Ok K cc RX7 g nL d ret) (hd : decode cc pc = .ok (.getfield 83, 3)) (k : J K (wM g) nL Q (pc + 3) lv (.ref (g.1 25) :: st) σ) : J K (wM g) nL Q (pc) lv (.ref (g.1 0) :: st) σ := by
  obtain ⟨p, l, e, R, s, m, args, below, meth, c, D, A, ce, sl⟩ := K
  obtain ⟨hx, hb, hml, hown, hts, hK, hA, hSF, ⟨hR1, hR2, hR3, hR4⟩, hr, hlk⟩ := hC
  exact fun H locs ls hl hP hD hS => va_get (D := D) (ci := 7) (v := .ref (g.1 25)) (C := RX7) (T := TX7) (N := 54) hx hb hts uwX7 hown hK hP 0 rfl rfl 42 (by decide) (hts _ mf_X7_83) (fun _ h9 => h9) rfl hd (k H locs ls hl hP hD hS)
theorem mf_X7_87 : Cond.fieldLink RX7 87 "SongHourModel" "rows" "[I" ∈ GW := memT (i := 845) (by decide +kernel) rfl
theorem get_X7_87 {K : Kx} {cc : ByteArray} {g : Gm} {nL d : Nat} {ret : Option FieldType} {Q : State → Prop} {pc : Nat} {lv : List (Nat × Value)} {st : List Value} {σ : St} (hC : Ok K cc RX7 g nL d ret) (hd : decode cc pc = .ok (.getfield 87, 3)) (k : J K (wM g) nL Q (pc + 3) lv (.ref (g.1 26) :: st) σ) : J K (wM g) nL Q (pc) lv (.ref (g.1 0) :: st) σ := by
  obtain ⟨p, l, e, R, s, m, args, below, meth, c, D, A, ce, sl⟩ := K
  obtain ⟨hx, hb, hml, hown, hts, hK, hA, hSF, ⟨hR1, hR2, hR3, hR4⟩, hr, hlk⟩ := hC
  exact fun H locs ls hl hP hD hS => va_get (D := D) (ci := 7) (v := .ref (g.1 26)) (C := RX7) (T := TX7) (N := 54) hx hb hts uwX7 hown hK hP 0 rfl rfl 43 (by decide) (hts _ mf_X7_87) (fun _ h9 => h9) rfl hd (k H locs ls hl hP hD hS)
theorem mf_X7_90 : Cond.fieldLink RX7 90 "SongHourModel" "next" "[I" ∈ GW := memT (i := 846) (by decide +kernel) rfl
theorem get_X7_90 {K : Kx} {cc : ByteArray} {g : Gm} {nL d : Nat} {ret : Option FieldType} {Q : State → Prop} {pc : Nat} {lv : List (Nat × Value)} {st : List Value} {σ : St} (hC : Ok K cc RX7 g nL d ret) (hd : decode cc pc = .ok (.getfield 90, 3)) (k : J K (wM g) nL Q (pc + 3) lv (.ref (g.1 27) :: st) σ) : J K (wM g) nL Q (pc) lv (.ref (g.1 0) :: st) σ := by
  obtain ⟨p, l, e, R, s, m, args, below, meth, c, D, A, ce, sl⟩ := K
  obtain ⟨hx, hb, hml, hown, hts, hK, hA, hSF, ⟨hR1, hR2, hR3, hR4⟩, hr, hlk⟩ := hC
  exact fun H locs ls hl hP hD hS => va_get (D := D) (ci := 7) (v := .ref (g.1 27)) (C := RX7) (T := TX7) (N := 54) hx hb hts uwX7 hown hK hP 0 rfl rfl 44 (by decide) (hts _ mf_X7_90) (fun _ h9 => h9) rfl hd (k H locs ls hl hP hD hS)
theorem mf_X7_93 : Cond.fieldLink RX7 93 "SongHourModel" "taken" "[I" ∈ GW := memT (i := 847) (by decide +kernel) rfl
theorem get_X7_93 {K : Kx} {cc : ByteArray} {g : Gm} {nL d : Nat} {ret : Option FieldType} {Q : State → Prop} {pc : Nat} {lv : List (Nat × Value)} {st : List Value} {σ : St} (hC : Ok K cc RX7 g nL d ret) (hd : decode cc pc = .ok (.getfield 93, 3)) (k : J K (wM g) nL Q (pc + 3) lv (.ref (g.1 28) :: st) σ) : J K (wM g) nL Q (pc) lv (.ref (g.1 0) :: st) σ := by
  obtain ⟨p, l, e, R, s, m, args, below, meth, c, D, A, ce, sl⟩ := K
  obtain ⟨hx, hb, hml, hown, hts, hK, hA, hSF, ⟨hR1, hR2, hR3, hR4⟩, hr, hlk⟩ := hC
  exact fun H locs ls hl hP hD hS => va_get (D := D) (ci := 7) (v := .ref (g.1 28)) (C := RX7) (T := TX7) (N := 54) hx hb hts uwX7 hown hK hP 0 rfl rfl 45 (by decide) (hts _ mf_X7_93) (fun _ h9 => h9) rfl hd (k H locs ls hl hP hD hS)
theorem mf_X7_96 : Cond.fieldLink RX7 96 "SongHourModel" "nextTaken" "[I" ∈ GW := memT (i := 848) (by decide +kernel) rfl
theorem get_X7_96 {K : Kx} {cc : ByteArray} {g : Gm} {nL d : Nat} {ret : Option FieldType} {Q : State → Prop} {pc : Nat} {lv : List (Nat × Value)} {st : List Value} {σ : St} (hC : Ok K cc RX7 g nL d ret) (hd : decode cc pc = .ok (.getfield 96, 3)) (k : J K (wM g) nL Q (pc + 3) lv (.ref (g.1 29) :: st) σ) : J K (wM g) nL Q (pc) lv (.ref (g.1 0) :: st) σ := by
  obtain ⟨p, l, e, R, s, m, args, below, meth, c, D, A, ce, sl⟩ := K
  obtain ⟨hx, hb, hml, hown, hts, hK, hA, hSF, ⟨hR1, hR2, hR3, hR4⟩, hr, hlk⟩ := hC
  exact fun H locs ls hl hP hD hS => va_get (D := D) (ci := 7) (v := .ref (g.1 29)) (C := RX7) (T := TX7) (N := 54) hx hb hts uwX7 hown hK hP 0 rfl rfl 46 (by decide) (hts _ mf_X7_96) (fun _ h9 => h9) rfl hd (k H locs ls hl hP hD hS)
theorem mf_X7_99 : Cond.fieldLink RX7 99 "SongHourModel" "best" "[I" ∈ GW := memT (i := 849) (by decide +kernel) rfl
theorem get_X7_99 {K : Kx} {cc : ByteArray} {g : Gm} {nL d : Nat} {ret : Option FieldType} {Q : State → Prop} {pc : Nat} {lv : List (Nat × Value)} {st : List Value} {σ : St} (hC : Ok K cc RX7 g nL d ret) (hd : decode cc pc = .ok (.getfield 99, 3)) (k : J K (wM g) nL Q (pc + 3) lv (.ref (g.1 30) :: st) σ) : J K (wM g) nL Q (pc) lv (.ref (g.1 0) :: st) σ := by
  obtain ⟨p, l, e, R, s, m, args, below, meth, c, D, A, ce, sl⟩ := K
  obtain ⟨hx, hb, hml, hown, hts, hK, hA, hSF, ⟨hR1, hR2, hR3, hR4⟩, hr, hlk⟩ := hC
  exact fun H locs ls hl hP hD hS => va_get (D := D) (ci := 7) (v := .ref (g.1 30)) (C := RX7) (T := TX7) (N := 54) hx hb hts uwX7 hown hK hP 0 rfl rfl 47 (by decide) (hts _ mf_X7_99) (fun _ h9 => h9) rfl hd (k H locs ls hl hP hD hS)
theorem mf_X7_102 : Cond.fieldLink RX7 102 "SongHourModel" "itemsOf" "[I" ∈ GW := memT (i := 855) (by decide +kernel) rfl
theorem get_X7_102 {K : Kx} {cc : ByteArray} {g : Gm} {nL d : Nat} {ret : Option FieldType} {Q : State → Prop} {pc : Nat} {lv : List (Nat × Value)} {st : List Value} {σ : St} (hC : Ok K cc RX7 g nL d ret) (hd : decode cc pc = .ok (.getfield 102, 3)) (k : J K (wM g) nL Q (pc + 3) lv (.ref (g.1 31) :: st) σ) : J K (wM g) nL Q (pc) lv (.ref (g.1 0) :: st) σ := by
  obtain ⟨p, l, e, R, s, m, args, below, meth, c, D, A, ce, sl⟩ := K
  obtain ⟨hx, hb, hml, hown, hts, hK, hA, hSF, ⟨hR1, hR2, hR3, hR4⟩, hr, hlk⟩ := hC
  exact fun H locs ls hl hP hD hS => va_get (D := D) (ci := 7) (v := .ref (g.1 31)) (C := RX7) (T := TX7) (N := 54) hx hb hts uwX7 hown hK hP 0 rfl rfl 53 (by decide) (hts _ mf_X7_102) (fun _ h9 => h9) rfl hd (k H locs ls hl hP hD hS)
theorem mf_X7_105 : Cond.fieldLink RX7 105 "SongHourModel" "thrown" "I" ∈ GW := memT (i := 802) (by decide +kernel) rfl
theorem get_X7_105 {K : Kx} {cc : ByteArray} {g : Gm} {nL d : Nat} {ret : Option FieldType} {Q : State → Prop} {pc : Nat} {lv : List (Nat × Value)} {st : List Value} {σ : St} (hC : Ok K cc RX7 g nL d ret) (hd : decode cc pc = .ok (.getfield 105, 3)) (k : J K (wM g) nL Q (pc + 3) lv (.int (gi σ 0) :: st) σ) : J K (wM g) nL Q (pc) lv (.ref (g.1 0) :: st) σ := by
  obtain ⟨p, l, e, R, s, m, args, below, meth, c, D, A, ce, sl⟩ := K
  obtain ⟨hx, hb, hml, hown, hts, hK, hA, hSF, ⟨hR1, hR2, hR3, hR4⟩, hr, hlk⟩ := hC
  exact fun H locs ls hl hP hD hS => va_get (D := D) (ci := 7) (v := .int (gi σ 0)) (C := RX7) (T := TX7) (N := 54) hx hb hts uwX7 hown hK hP 0 rfl rfl 0 (by decide) (hts _ mf_X7_105) (fun _ h9 => h9) rfl hd (k H locs ls hl hP hD hS)
theorem put_X7_105 {K : Kx} {cc : ByteArray} {g : Gm} {nL d : Nat} {ret : Option FieldType} {Q : State → Prop} {pc : Nat} {lv : List (Nat × Value)} {st : List Value} {σ : St} (hC : Ok K cc RX7 g nL d ret) {v : Int32} {ρ : Type} {o : ρ} {f : St → Option ρ} (hd : decode cc pc = .ok (.putfield 105, 3)) (h : bnd (si σ 0 v) f = some o) (k : ∀ σ2, f σ2 = some o → J K (wM g) nL Q (pc + 3) lv (st) σ2) : J K (wM g) nL Q (pc) lv (.int v :: .ref (g.1 0) :: st) σ := by
  obtain ⟨p, l, e, R, s, m, args, below, meth, c, D, A, ce, sl⟩ := K
  obtain ⟨hx, hb, hml, hown, hts, hK, hA, hSF, ⟨hR1, hR2, hR3, hR4⟩, hr, hlk⟩ := hC
  exact fun H locs ls hl hP hD hS => va_put (D := D) (ci := 7) (v := .int v) (ty := .int) (C := RX7) (T := TX7) (N := 54) hx hb hts uwX7 tyX7 tyX7_ok nmX7 hown hK hP hD hS 0 rfl rfl 0 (by decide) (hts _ mf_X7_105) (fun _ h9 => h9) rfl (by decide +kernel) rfl rfl (Nat.le_of_ble_eq_true rfl) hd (fun H locs hP hD hS => k _ h H locs ls hl hP hD hS)
theorem mf_X7_109 : Cond.fieldLink RX7 109 "SongHourModel" "taped" "I" ∈ GW := memT (i := 804) (by decide +kernel) rfl
theorem get_X7_109 {K : Kx} {cc : ByteArray} {g : Gm} {nL d : Nat} {ret : Option FieldType} {Q : State → Prop} {pc : Nat} {lv : List (Nat × Value)} {st : List Value} {σ : St} (hC : Ok K cc RX7 g nL d ret) (hd : decode cc pc = .ok (.getfield 109, 3)) (k : J K (wM g) nL Q (pc + 3) lv (.int (gi σ 1) :: st) σ) : J K (wM g) nL Q (pc) lv (.ref (g.1 0) :: st) σ := by
  obtain ⟨p, l, e, R, s, m, args, below, meth, c, D, A, ce, sl⟩ := K
  obtain ⟨hx, hb, hml, hown, hts, hK, hA, hSF, ⟨hR1, hR2, hR3, hR4⟩, hr, hlk⟩ := hC
  exact fun H locs ls hl hP hD hS => va_get (D := D) (ci := 7) (v := .int (gi σ 1)) (C := RX7) (T := TX7) (N := 54) hx hb hts uwX7 hown hK hP 0 rfl rfl 2 (by decide) (hts _ mf_X7_109) (fun _ h9 => h9) rfl hd (k H locs ls hl hP hD hS)
theorem put_X7_109 {K : Kx} {cc : ByteArray} {g : Gm} {nL d : Nat} {ret : Option FieldType} {Q : State → Prop} {pc : Nat} {lv : List (Nat × Value)} {st : List Value} {σ : St} (hC : Ok K cc RX7 g nL d ret) {v : Int32} {ρ : Type} {o : ρ} {f : St → Option ρ} (hd : decode cc pc = .ok (.putfield 109, 3)) (h : bnd (si σ 1 v) f = some o) (k : ∀ σ2, f σ2 = some o → J K (wM g) nL Q (pc + 3) lv (st) σ2) : J K (wM g) nL Q (pc) lv (.int v :: .ref (g.1 0) :: st) σ := by
  obtain ⟨p, l, e, R, s, m, args, below, meth, c, D, A, ce, sl⟩ := K
  obtain ⟨hx, hb, hml, hown, hts, hK, hA, hSF, ⟨hR1, hR2, hR3, hR4⟩, hr, hlk⟩ := hC
  exact fun H locs ls hl hP hD hS => va_put (D := D) (ci := 7) (v := .int v) (ty := .int) (C := RX7) (T := TX7) (N := 54) hx hb hts uwX7 tyX7 tyX7_ok nmX7 hown hK hP hD hS 0 rfl rfl 2 (by decide) (hts _ mf_X7_109) (fun _ h9 => h9) rfl (by decide +kernel) rfl rfl (Nat.le_of_ble_eq_true rfl) hd (fun H locs hP hD hS => k _ h H locs ls hl hP hD hS)
theorem mf_X7_116 : Cond.fieldLink RX7 116 "SongHourModel" "size" "I" ∈ GW := memT (i := 805) (by decide +kernel) rfl
theorem get_X7_116 {K : Kx} {cc : ByteArray} {g : Gm} {nL d : Nat} {ret : Option FieldType} {Q : State → Prop} {pc : Nat} {lv : List (Nat × Value)} {st : List Value} {σ : St} (hC : Ok K cc RX7 g nL d ret) (hd : decode cc pc = .ok (.getfield 116, 3)) (k : J K (wM g) nL Q (pc + 3) lv (.int (gi σ 2) :: st) σ) : J K (wM g) nL Q (pc) lv (.ref (g.1 0) :: st) σ := by
  obtain ⟨p, l, e, R, s, m, args, below, meth, c, D, A, ce, sl⟩ := K
  obtain ⟨hx, hb, hml, hown, hts, hK, hA, hSF, ⟨hR1, hR2, hR3, hR4⟩, hr, hlk⟩ := hC
  exact fun H locs ls hl hP hD hS => va_get (D := D) (ci := 7) (v := .int (gi σ 2)) (C := RX7) (T := TX7) (N := 54) hx hb hts uwX7 hown hK hP 0 rfl rfl 3 (by decide) (hts _ mf_X7_116) (fun _ h9 => h9) rfl hd (k H locs ls hl hP hD hS)
theorem put_X7_116 {K : Kx} {cc : ByteArray} {g : Gm} {nL d : Nat} {ret : Option FieldType} {Q : State → Prop} {pc : Nat} {lv : List (Nat × Value)} {st : List Value} {σ : St} (hC : Ok K cc RX7 g nL d ret) {v : Int32} {ρ : Type} {o : ρ} {f : St → Option ρ} (hd : decode cc pc = .ok (.putfield 116, 3)) (h : bnd (si σ 2 v) f = some o) (k : ∀ σ2, f σ2 = some o → J K (wM g) nL Q (pc + 3) lv (st) σ2) : J K (wM g) nL Q (pc) lv (.int v :: .ref (g.1 0) :: st) σ := by
  obtain ⟨p, l, e, R, s, m, args, below, meth, c, D, A, ce, sl⟩ := K
  obtain ⟨hx, hb, hml, hown, hts, hK, hA, hSF, ⟨hR1, hR2, hR3, hR4⟩, hr, hlk⟩ := hC
  exact fun H locs ls hl hP hD hS => va_put (D := D) (ci := 7) (v := .int v) (ty := .int) (C := RX7) (T := TX7) (N := 54) hx hb hts uwX7 tyX7 tyX7_ok nmX7 hown hK hP hD hS 0 rfl rfl 3 (by decide) (hts _ mf_X7_116) (fun _ h9 => h9) rfl (by decide +kernel) rfl rfl (Nat.le_of_ble_eq_true rfl) hd (fun H locs hP hD hS => k _ h H locs ls hl hP hD hS)
theorem mf_X7_119 : Cond.fieldLink RX7 119 "SongHourModel" "to" "I" ∈ GW := memT (i := 807) (by decide +kernel) rfl
theorem get_X7_119 {K : Kx} {cc : ByteArray} {g : Gm} {nL d : Nat} {ret : Option FieldType} {Q : State → Prop} {pc : Nat} {lv : List (Nat × Value)} {st : List Value} {σ : St} (hC : Ok K cc RX7 g nL d ret) (hd : decode cc pc = .ok (.getfield 119, 3)) (k : J K (wM g) nL Q (pc + 3) lv (.int (gi σ 4) :: st) σ) : J K (wM g) nL Q (pc) lv (.ref (g.1 0) :: st) σ := by
  obtain ⟨p, l, e, R, s, m, args, below, meth, c, D, A, ce, sl⟩ := K
  obtain ⟨hx, hb, hml, hown, hts, hK, hA, hSF, ⟨hR1, hR2, hR3, hR4⟩, hr, hlk⟩ := hC
  exact fun H locs ls hl hP hD hS => va_get (D := D) (ci := 7) (v := .int (gi σ 4)) (C := RX7) (T := TX7) (N := 54) hx hb hts uwX7 hown hK hP 0 rfl rfl 5 (by decide) (hts _ mf_X7_119) (fun _ h9 => h9) rfl hd (k H locs ls hl hP hD hS)
theorem put_X7_119 {K : Kx} {cc : ByteArray} {g : Gm} {nL d : Nat} {ret : Option FieldType} {Q : State → Prop} {pc : Nat} {lv : List (Nat × Value)} {st : List Value} {σ : St} (hC : Ok K cc RX7 g nL d ret) {v : Int32} {ρ : Type} {o : ρ} {f : St → Option ρ} (hd : decode cc pc = .ok (.putfield 119, 3)) (h : bnd (si σ 4 v) f = some o) (k : ∀ σ2, f σ2 = some o → J K (wM g) nL Q (pc + 3) lv (st) σ2) : J K (wM g) nL Q (pc) lv (.int v :: .ref (g.1 0) :: st) σ := by
  obtain ⟨p, l, e, R, s, m, args, below, meth, c, D, A, ce, sl⟩ := K
  obtain ⟨hx, hb, hml, hown, hts, hK, hA, hSF, ⟨hR1, hR2, hR3, hR4⟩, hr, hlk⟩ := hC
  exact fun H locs ls hl hP hD hS => va_put (D := D) (ci := 7) (v := .int v) (ty := .int) (C := RX7) (T := TX7) (N := 54) hx hb hts uwX7 tyX7 tyX7_ok nmX7 hown hK hP hD hS 0 rfl rfl 5 (by decide) (hts _ mf_X7_119) (fun _ h9 => h9) rfl (by decide +kernel) rfl rfl (Nat.le_of_ble_eq_true rfl) hd (fun H locs hP hD hS => k _ h H locs ls hl hP hD hS)
theorem mf_X7_122 : Cond.fieldLink RX7 122 "SongHourModel" "from" "I" ∈ GW := memT (i := 808) (by decide +kernel) rfl
theorem get_X7_122 {K : Kx} {cc : ByteArray} {g : Gm} {nL d : Nat} {ret : Option FieldType} {Q : State → Prop} {pc : Nat} {lv : List (Nat × Value)} {st : List Value} {σ : St} (hC : Ok K cc RX7 g nL d ret) (hd : decode cc pc = .ok (.getfield 122, 3)) (k : J K (wM g) nL Q (pc + 3) lv (.int (gi σ 5) :: st) σ) : J K (wM g) nL Q (pc) lv (.ref (g.1 0) :: st) σ := by
  obtain ⟨p, l, e, R, s, m, args, below, meth, c, D, A, ce, sl⟩ := K
  obtain ⟨hx, hb, hml, hown, hts, hK, hA, hSF, ⟨hR1, hR2, hR3, hR4⟩, hr, hlk⟩ := hC
  exact fun H locs ls hl hP hD hS => va_get (D := D) (ci := 7) (v := .int (gi σ 5)) (C := RX7) (T := TX7) (N := 54) hx hb hts uwX7 hown hK hP 0 rfl rfl 6 (by decide) (hts _ mf_X7_122) (fun _ h9 => h9) rfl hd (k H locs ls hl hP hD hS)
theorem put_X7_122 {K : Kx} {cc : ByteArray} {g : Gm} {nL d : Nat} {ret : Option FieldType} {Q : State → Prop} {pc : Nat} {lv : List (Nat × Value)} {st : List Value} {σ : St} (hC : Ok K cc RX7 g nL d ret) {v : Int32} {ρ : Type} {o : ρ} {f : St → Option ρ} (hd : decode cc pc = .ok (.putfield 122, 3)) (h : bnd (si σ 5 v) f = some o) (k : ∀ σ2, f σ2 = some o → J K (wM g) nL Q (pc + 3) lv (st) σ2) : J K (wM g) nL Q (pc) lv (.int v :: .ref (g.1 0) :: st) σ := by
  obtain ⟨p, l, e, R, s, m, args, below, meth, c, D, A, ce, sl⟩ := K
  obtain ⟨hx, hb, hml, hown, hts, hK, hA, hSF, ⟨hR1, hR2, hR3, hR4⟩, hr, hlk⟩ := hC
  exact fun H locs ls hl hP hD hS => va_put (D := D) (ci := 7) (v := .int v) (ty := .int) (C := RX7) (T := TX7) (N := 54) hx hb hts uwX7 tyX7 tyX7_ok nmX7 hown hK hP hD hS 0 rfl rfl 6 (by decide) (hts _ mf_X7_122) (fun _ h9 => h9) rfl (by decide +kernel) rfl rfl (Nat.le_of_ble_eq_true rfl) hd (fun H locs hP hD hS => k _ h H locs ls hl hP hD hS)
theorem mf_X7_125 : Cond.fieldLink RX7 125 "SongHourModel" "most" "I" ∈ GW := memT (i := 806) (by decide +kernel) rfl
theorem get_X7_125 {K : Kx} {cc : ByteArray} {g : Gm} {nL d : Nat} {ret : Option FieldType} {Q : State → Prop} {pc : Nat} {lv : List (Nat × Value)} {st : List Value} {σ : St} (hC : Ok K cc RX7 g nL d ret) (hd : decode cc pc = .ok (.getfield 125, 3)) (k : J K (wM g) nL Q (pc + 3) lv (.int (gi σ 3) :: st) σ) : J K (wM g) nL Q (pc) lv (.ref (g.1 0) :: st) σ := by
  obtain ⟨p, l, e, R, s, m, args, below, meth, c, D, A, ce, sl⟩ := K
  obtain ⟨hx, hb, hml, hown, hts, hK, hA, hSF, ⟨hR1, hR2, hR3, hR4⟩, hr, hlk⟩ := hC
  exact fun H locs ls hl hP hD hS => va_get (D := D) (ci := 7) (v := .int (gi σ 3)) (C := RX7) (T := TX7) (N := 54) hx hb hts uwX7 hown hK hP 0 rfl rfl 4 (by decide) (hts _ mf_X7_125) (fun _ h9 => h9) rfl hd (k H locs ls hl hP hD hS)
theorem put_X7_125 {K : Kx} {cc : ByteArray} {g : Gm} {nL d : Nat} {ret : Option FieldType} {Q : State → Prop} {pc : Nat} {lv : List (Nat × Value)} {st : List Value} {σ : St} (hC : Ok K cc RX7 g nL d ret) {v : Int32} {ρ : Type} {o : ρ} {f : St → Option ρ} (hd : decode cc pc = .ok (.putfield 125, 3)) (h : bnd (si σ 3 v) f = some o) (k : ∀ σ2, f σ2 = some o → J K (wM g) nL Q (pc + 3) lv (st) σ2) : J K (wM g) nL Q (pc) lv (.int v :: .ref (g.1 0) :: st) σ := by
  obtain ⟨p, l, e, R, s, m, args, below, meth, c, D, A, ce, sl⟩ := K
  obtain ⟨hx, hb, hml, hown, hts, hK, hA, hSF, ⟨hR1, hR2, hR3, hR4⟩, hr, hlk⟩ := hC
  exact fun H locs ls hl hP hD hS => va_put (D := D) (ci := 7) (v := .int v) (ty := .int) (C := RX7) (T := TX7) (N := 54) hx hb hts uwX7 tyX7 tyX7_ok nmX7 hown hK hP hD hS 0 rfl rfl 4 (by decide) (hts _ mf_X7_125) (fun _ h9 => h9) rfl (by decide +kernel) rfl rfl (Nat.le_of_ble_eq_true rfl) hd (fun H locs hP hD hS => k _ h H locs ls hl hP hD hS)
theorem mf_X7_128 : Cond.fieldLink RX7 128 "SongHourModel" "kind" "I" ∈ GW := memT (i := 809) (by decide +kernel) rfl
theorem get_X7_128 {K : Kx} {cc : ByteArray} {g : Gm} {nL d : Nat} {ret : Option FieldType} {Q : State → Prop} {pc : Nat} {lv : List (Nat × Value)} {st : List Value} {σ : St} (hC : Ok K cc RX7 g nL d ret) (hd : decode cc pc = .ok (.getfield 128, 3)) (k : J K (wM g) nL Q (pc + 3) lv (.int (gi σ 6) :: st) σ) : J K (wM g) nL Q (pc) lv (.ref (g.1 0) :: st) σ := by
  obtain ⟨p, l, e, R, s, m, args, below, meth, c, D, A, ce, sl⟩ := K
  obtain ⟨hx, hb, hml, hown, hts, hK, hA, hSF, ⟨hR1, hR2, hR3, hR4⟩, hr, hlk⟩ := hC
  exact fun H locs ls hl hP hD hS => va_get (D := D) (ci := 7) (v := .int (gi σ 6)) (C := RX7) (T := TX7) (N := 54) hx hb hts uwX7 hown hK hP 0 rfl rfl 7 (by decide) (hts _ mf_X7_128) (fun _ h9 => h9) rfl hd (k H locs ls hl hP hD hS)
theorem put_X7_128 {K : Kx} {cc : ByteArray} {g : Gm} {nL d : Nat} {ret : Option FieldType} {Q : State → Prop} {pc : Nat} {lv : List (Nat × Value)} {st : List Value} {σ : St} (hC : Ok K cc RX7 g nL d ret) {v : Int32} {ρ : Type} {o : ρ} {f : St → Option ρ} (hd : decode cc pc = .ok (.putfield 128, 3)) (h : bnd (si σ 6 v) f = some o) (k : ∀ σ2, f σ2 = some o → J K (wM g) nL Q (pc + 3) lv (st) σ2) : J K (wM g) nL Q (pc) lv (.int v :: .ref (g.1 0) :: st) σ := by
  obtain ⟨p, l, e, R, s, m, args, below, meth, c, D, A, ce, sl⟩ := K
  obtain ⟨hx, hb, hml, hown, hts, hK, hA, hSF, ⟨hR1, hR2, hR3, hR4⟩, hr, hlk⟩ := hC
  exact fun H locs ls hl hP hD hS => va_put (D := D) (ci := 7) (v := .int v) (ty := .int) (C := RX7) (T := TX7) (N := 54) hx hb hts uwX7 tyX7 tyX7_ok nmX7 hown hK hP hD hS 0 rfl rfl 7 (by decide) (hts _ mf_X7_128) (fun _ h9 => h9) rfl (by decide +kernel) rfl rfl (Nat.le_of_ble_eq_true rfl) hd (fun H locs hP hD hS => k _ h H locs ls hl hP hD hS)
theorem mf_X7_138 : Cond.fieldLink RX7 138 "SongHourModel" "word" "J" ∈ GW := memT (i := 814) (by decide +kernel) rfl
theorem get_X7_138 {K : Kx} {cc : ByteArray} {g : Gm} {nL d : Nat} {ret : Option FieldType} {Q : State → Prop} {pc : Nat} {lv : List (Nat × Value)} {st : List Value} {σ : St} (hC : Ok K cc RX7 g nL d ret) (hd : decode cc pc = .ok (.getfield 138, 3)) (k : J K (wM g) nL Q (pc + 3) lv (.long (gl σ) :: st) σ) : J K (wM g) nL Q (pc) lv (.ref (g.1 0) :: st) σ := by
  obtain ⟨p, l, e, R, s, m, args, below, meth, c, D, A, ce, sl⟩ := K
  obtain ⟨hx, hb, hml, hown, hts, hK, hA, hSF, ⟨hR1, hR2, hR3, hR4⟩, hr, hlk⟩ := hC
  exact fun H locs ls hl hP hD hS => va_get (D := D) (ci := 7) (v := .long (gl σ)) (C := RX7) (T := TX7) (N := 54) hx hb hts uwX7 hown hK hP 0 rfl rfl 12 (by decide) (hts _ mf_X7_138) (fun _ h9 => h9) rfl hd (k H locs ls hl hP hD hS)
theorem put_X7_138 {K : Kx} {cc : ByteArray} {g : Gm} {nL d : Nat} {ret : Option FieldType} {Q : State → Prop} {pc : Nat} {lv : List (Nat × Value)} {st : List Value} {σ : St} (hC : Ok K cc RX7 g nL d ret) {v : Int64} {ρ : Type} {o : ρ} {f : St → Option ρ} (hd : decode cc pc = .ok (.putfield 138, 3)) (h : bnd (sl σ v) f = some o) (k : ∀ σ2, f σ2 = some o → J K (wM g) nL Q (pc + 3) lv (st) σ2) : J K (wM g) nL Q (pc) lv (.long v :: .ref (g.1 0) :: st) σ := by
  obtain ⟨p, l, e, R, s, m, args, below, meth, c, D, A, ce, sl⟩ := K
  obtain ⟨hx, hb, hml, hown, hts, hK, hA, hSF, ⟨hR1, hR2, hR3, hR4⟩, hr, hlk⟩ := hC
  exact fun H locs ls hl hP hD hS => va_put (D := D) (ci := 7) (v := .long v) (ty := .long) (C := RX7) (T := TX7) (N := 54) hx hb hts uwX7 tyX7 tyX7_ok nmX7 hown hK hP hD hS 0 rfl rfl 12 (by decide) (hts _ mf_X7_138) (fun _ h9 => h9) rfl (by decide +kernel) rfl rfl (Nat.le_of_ble_eq_true rfl) hd (fun H locs hP hD hS => k _ h H locs ls hl hP hD hS)
theorem mf_X7_142 : Cond.fieldLink RX7 142 "SongHourModel" "number" "I" ∈ GW := memT (i := 810) (by decide +kernel) rfl
theorem get_X7_142 {K : Kx} {cc : ByteArray} {g : Gm} {nL d : Nat} {ret : Option FieldType} {Q : State → Prop} {pc : Nat} {lv : List (Nat × Value)} {st : List Value} {σ : St} (hC : Ok K cc RX7 g nL d ret) (hd : decode cc pc = .ok (.getfield 142, 3)) (k : J K (wM g) nL Q (pc + 3) lv (.int (gi σ 7) :: st) σ) : J K (wM g) nL Q (pc) lv (.ref (g.1 0) :: st) σ := by
  obtain ⟨p, l, e, R, s, m, args, below, meth, c, D, A, ce, sl⟩ := K
  obtain ⟨hx, hb, hml, hown, hts, hK, hA, hSF, ⟨hR1, hR2, hR3, hR4⟩, hr, hlk⟩ := hC
  exact fun H locs ls hl hP hD hS => va_get (D := D) (ci := 7) (v := .int (gi σ 7)) (C := RX7) (T := TX7) (N := 54) hx hb hts uwX7 hown hK hP 0 rfl rfl 8 (by decide) (hts _ mf_X7_142) (fun _ h9 => h9) rfl hd (k H locs ls hl hP hD hS)
theorem put_X7_142 {K : Kx} {cc : ByteArray} {g : Gm} {nL d : Nat} {ret : Option FieldType} {Q : State → Prop} {pc : Nat} {lv : List (Nat × Value)} {st : List Value} {σ : St} (hC : Ok K cc RX7 g nL d ret) {v : Int32} {ρ : Type} {o : ρ} {f : St → Option ρ} (hd : decode cc pc = .ok (.putfield 142, 3)) (h : bnd (si σ 7 v) f = some o) (k : ∀ σ2, f σ2 = some o → J K (wM g) nL Q (pc + 3) lv (st) σ2) : J K (wM g) nL Q (pc) lv (.int v :: .ref (g.1 0) :: st) σ := by
  obtain ⟨p, l, e, R, s, m, args, below, meth, c, D, A, ce, sl⟩ := K
  obtain ⟨hx, hb, hml, hown, hts, hK, hA, hSF, ⟨hR1, hR2, hR3, hR4⟩, hr, hlk⟩ := hC
  exact fun H locs ls hl hP hD hS => va_put (D := D) (ci := 7) (v := .int v) (ty := .int) (C := RX7) (T := TX7) (N := 54) hx hb hts uwX7 tyX7 tyX7_ok nmX7 hown hK hP hD hS 0 rfl rfl 8 (by decide) (hts _ mf_X7_142) (fun _ h9 => h9) rfl (by decide +kernel) rfl rfl (Nat.le_of_ble_eq_true rfl) hd (fun H locs hP hD hS => k _ h H locs ls hl hP hD hS)
theorem mf_X7_155 : Cond.fieldLink RX7 155 "SongHourModel" "fault" "I" ∈ GW := memT (i := 811) (by decide +kernel) rfl
theorem get_X7_155 {K : Kx} {cc : ByteArray} {g : Gm} {nL d : Nat} {ret : Option FieldType} {Q : State → Prop} {pc : Nat} {lv : List (Nat × Value)} {st : List Value} {σ : St} (hC : Ok K cc RX7 g nL d ret) (hd : decode cc pc = .ok (.getfield 155, 3)) (k : J K (wM g) nL Q (pc + 3) lv (.int (gi σ 8) :: st) σ) : J K (wM g) nL Q (pc) lv (.ref (g.1 0) :: st) σ := by
  obtain ⟨p, l, e, R, s, m, args, below, meth, c, D, A, ce, sl⟩ := K
  obtain ⟨hx, hb, hml, hown, hts, hK, hA, hSF, ⟨hR1, hR2, hR3, hR4⟩, hr, hlk⟩ := hC
  exact fun H locs ls hl hP hD hS => va_get (D := D) (ci := 7) (v := .int (gi σ 8)) (C := RX7) (T := TX7) (N := 54) hx hb hts uwX7 hown hK hP 0 rfl rfl 9 (by decide) (hts _ mf_X7_155) (fun _ h9 => h9) rfl hd (k H locs ls hl hP hD hS)
theorem put_X7_155 {K : Kx} {cc : ByteArray} {g : Gm} {nL d : Nat} {ret : Option FieldType} {Q : State → Prop} {pc : Nat} {lv : List (Nat × Value)} {st : List Value} {σ : St} (hC : Ok K cc RX7 g nL d ret) {v : Int32} {ρ : Type} {o : ρ} {f : St → Option ρ} (hd : decode cc pc = .ok (.putfield 155, 3)) (h : bnd (si σ 8 v) f = some o) (k : ∀ σ2, f σ2 = some o → J K (wM g) nL Q (pc + 3) lv (st) σ2) : J K (wM g) nL Q (pc) lv (.int v :: .ref (g.1 0) :: st) σ := by
  obtain ⟨p, l, e, R, s, m, args, below, meth, c, D, A, ce, sl⟩ := K
  obtain ⟨hx, hb, hml, hown, hts, hK, hA, hSF, ⟨hR1, hR2, hR3, hR4⟩, hr, hlk⟩ := hC
  exact fun H locs ls hl hP hD hS => va_put (D := D) (ci := 7) (v := .int v) (ty := .int) (C := RX7) (T := TX7) (N := 54) hx hb hts uwX7 tyX7 tyX7_ok nmX7 hown hK hP hD hS 0 rfl rfl 9 (by decide) (hts _ mf_X7_155) (fun _ h9 => h9) rfl (by decide +kernel) rfl rfl (Nat.le_of_ble_eq_true rfl) hd (fun H locs hP hD hS => k _ h H locs ls hl hP hD hS)
theorem mf_X7_158 : Cond.fieldLink RX7 158 "SongHourModel" "place" "I" ∈ GW := memT (i := 812) (by decide +kernel) rfl
theorem get_X7_158 {K : Kx} {cc : ByteArray} {g : Gm} {nL d : Nat} {ret : Option FieldType} {Q : State → Prop} {pc : Nat} {lv : List (Nat × Value)} {st : List Value} {σ : St} (hC : Ok K cc RX7 g nL d ret) (hd : decode cc pc = .ok (.getfield 158, 3)) (k : J K (wM g) nL Q (pc + 3) lv (.int (gi σ 9) :: st) σ) : J K (wM g) nL Q (pc) lv (.ref (g.1 0) :: st) σ := by
  obtain ⟨p, l, e, R, s, m, args, below, meth, c, D, A, ce, sl⟩ := K
  obtain ⟨hx, hb, hml, hown, hts, hK, hA, hSF, ⟨hR1, hR2, hR3, hR4⟩, hr, hlk⟩ := hC
  exact fun H locs ls hl hP hD hS => va_get (D := D) (ci := 7) (v := .int (gi σ 9)) (C := RX7) (T := TX7) (N := 54) hx hb hts uwX7 hown hK hP 0 rfl rfl 10 (by decide) (hts _ mf_X7_158) (fun _ h9 => h9) rfl hd (k H locs ls hl hP hD hS)
theorem put_X7_158 {K : Kx} {cc : ByteArray} {g : Gm} {nL d : Nat} {ret : Option FieldType} {Q : State → Prop} {pc : Nat} {lv : List (Nat × Value)} {st : List Value} {σ : St} (hC : Ok K cc RX7 g nL d ret) {v : Int32} {ρ : Type} {o : ρ} {f : St → Option ρ} (hd : decode cc pc = .ok (.putfield 158, 3)) (h : bnd (si σ 9 v) f = some o) (k : ∀ σ2, f σ2 = some o → J K (wM g) nL Q (pc + 3) lv (st) σ2) : J K (wM g) nL Q (pc) lv (.int v :: .ref (g.1 0) :: st) σ := by
  obtain ⟨p, l, e, R, s, m, args, below, meth, c, D, A, ce, sl⟩ := K
  obtain ⟨hx, hb, hml, hown, hts, hK, hA, hSF, ⟨hR1, hR2, hR3, hR4⟩, hr, hlk⟩ := hC
  exact fun H locs ls hl hP hD hS => va_put (D := D) (ci := 7) (v := .int v) (ty := .int) (C := RX7) (T := TX7) (N := 54) hx hb hts uwX7 tyX7 tyX7_ok nmX7 hown hK hP hD hS 0 rfl rfl 10 (by decide) (hts _ mf_X7_158) (fun _ h9 => h9) rfl (by decide +kernel) rfl rfl (Nat.le_of_ble_eq_true rfl) hd (fun H locs hP hD hS => k _ h H locs ls hl hP hD hS)
theorem mf_X7_161 : Cond.fieldLink RX7 161 "SongHourModel" "told" "I" ∈ GW := memT (i := 813) (by decide +kernel) rfl
theorem get_X7_161 {K : Kx} {cc : ByteArray} {g : Gm} {nL d : Nat} {ret : Option FieldType} {Q : State → Prop} {pc : Nat} {lv : List (Nat × Value)} {st : List Value} {σ : St} (hC : Ok K cc RX7 g nL d ret) (hd : decode cc pc = .ok (.getfield 161, 3)) (k : J K (wM g) nL Q (pc + 3) lv (.int (gi σ 10) :: st) σ) : J K (wM g) nL Q (pc) lv (.ref (g.1 0) :: st) σ := by
  obtain ⟨p, l, e, R, s, m, args, below, meth, c, D, A, ce, sl⟩ := K
  obtain ⟨hx, hb, hml, hown, hts, hK, hA, hSF, ⟨hR1, hR2, hR3, hR4⟩, hr, hlk⟩ := hC
  exact fun H locs ls hl hP hD hS => va_get (D := D) (ci := 7) (v := .int (gi σ 10)) (C := RX7) (T := TX7) (N := 54) hx hb hts uwX7 hown hK hP 0 rfl rfl 11 (by decide) (hts _ mf_X7_161) (fun _ h9 => h9) rfl hd (k H locs ls hl hP hD hS)
theorem put_X7_161 {K : Kx} {cc : ByteArray} {g : Gm} {nL d : Nat} {ret : Option FieldType} {Q : State → Prop} {pc : Nat} {lv : List (Nat × Value)} {st : List Value} {σ : St} (hC : Ok K cc RX7 g nL d ret) {v : Int32} {ρ : Type} {o : ρ} {f : St → Option ρ} (hd : decode cc pc = .ok (.putfield 161, 3)) (h : bnd (si σ 10 v) f = some o) (k : ∀ σ2, f σ2 = some o → J K (wM g) nL Q (pc + 3) lv (st) σ2) : J K (wM g) nL Q (pc) lv (.int v :: .ref (g.1 0) :: st) σ := by
  obtain ⟨p, l, e, R, s, m, args, below, meth, c, D, A, ce, sl⟩ := K
  obtain ⟨hx, hb, hml, hown, hts, hK, hA, hSF, ⟨hR1, hR2, hR3, hR4⟩, hr, hlk⟩ := hC
  exact fun H locs ls hl hP hD hS => va_put (D := D) (ci := 7) (v := .int v) (ty := .int) (C := RX7) (T := TX7) (N := 54) hx hb hts uwX7 tyX7 tyX7_ok nmX7 hown hK hP hD hS 0 rfl rfl 11 (by decide) (hts _ mf_X7_161) (fun _ h9 => h9) rfl (by decide +kernel) rfl rfl (Nat.le_of_ble_eq_true rfl) hd (fun H locs hP hD hS => k _ h H locs ls hl hP hD hS)
theorem mf_X7_193 : Cond.fieldLink RX7 193 "SongHourModel" "sum" "I" ∈ GW := memT (i := 824) (by decide +kernel) rfl
theorem get_X7_193 {K : Kx} {cc : ByteArray} {g : Gm} {nL d : Nat} {ret : Option FieldType} {Q : State → Prop} {pc : Nat} {lv : List (Nat × Value)} {st : List Value} {σ : St} (hC : Ok K cc RX7 g nL d ret) (hd : decode cc pc = .ok (.getfield 193, 3)) (k : J K (wM g) nL Q (pc + 3) lv (.int (gi σ 11) :: st) σ) : J K (wM g) nL Q (pc) lv (.ref (g.1 0) :: st) σ := by
  obtain ⟨p, l, e, R, s, m, args, below, meth, c, D, A, ce, sl⟩ := K
  obtain ⟨hx, hb, hml, hown, hts, hK, hA, hSF, ⟨hR1, hR2, hR3, hR4⟩, hr, hlk⟩ := hC
  exact fun H locs ls hl hP hD hS => va_get (D := D) (ci := 7) (v := .int (gi σ 11)) (C := RX7) (T := TX7) (N := 54) hx hb hts uwX7 hown hK hP 0 rfl rfl 22 (by decide) (hts _ mf_X7_193) (fun _ h9 => h9) rfl hd (k H locs ls hl hP hD hS)
theorem put_X7_193 {K : Kx} {cc : ByteArray} {g : Gm} {nL d : Nat} {ret : Option FieldType} {Q : State → Prop} {pc : Nat} {lv : List (Nat × Value)} {st : List Value} {σ : St} (hC : Ok K cc RX7 g nL d ret) {v : Int32} {ρ : Type} {o : ρ} {f : St → Option ρ} (hd : decode cc pc = .ok (.putfield 193, 3)) (h : bnd (si σ 11 v) f = some o) (k : ∀ σ2, f σ2 = some o → J K (wM g) nL Q (pc + 3) lv (st) σ2) : J K (wM g) nL Q (pc) lv (.int v :: .ref (g.1 0) :: st) σ := by
  obtain ⟨p, l, e, R, s, m, args, below, meth, c, D, A, ce, sl⟩ := K
  obtain ⟨hx, hb, hml, hown, hts, hK, hA, hSF, ⟨hR1, hR2, hR3, hR4⟩, hr, hlk⟩ := hC
  exact fun H locs ls hl hP hD hS => va_put (D := D) (ci := 7) (v := .int v) (ty := .int) (C := RX7) (T := TX7) (N := 54) hx hb hts uwX7 tyX7 tyX7_ok nmX7 hown hK hP hD hS 0 rfl rfl 22 (by decide) (hts _ mf_X7_193) (fun _ h9 => h9) rfl (by decide +kernel) rfl rfl (Nat.le_of_ble_eq_true rfl) hd (fun H locs hP hD hS => k _ h H locs ls hl hP hD hS)
theorem mf_X7_205 : Cond.fieldLink RX7 205 "SongHourModel" "songs" "I" ∈ GW := memT (i := 835) (by decide +kernel) rfl
theorem get_X7_205 {K : Kx} {cc : ByteArray} {g : Gm} {nL d : Nat} {ret : Option FieldType} {Q : State → Prop} {pc : Nat} {lv : List (Nat × Value)} {st : List Value} {σ : St} (hC : Ok K cc RX7 g nL d ret) (hd : decode cc pc = .ok (.getfield 205, 3)) (k : J K (wM g) nL Q (pc + 3) lv (.int (gi σ 12) :: st) σ) : J K (wM g) nL Q (pc) lv (.ref (g.1 0) :: st) σ := by
  obtain ⟨p, l, e, R, s, m, args, below, meth, c, D, A, ce, sl⟩ := K
  obtain ⟨hx, hb, hml, hown, hts, hK, hA, hSF, ⟨hR1, hR2, hR3, hR4⟩, hr, hlk⟩ := hC
  exact fun H locs ls hl hP hD hS => va_get (D := D) (ci := 7) (v := .int (gi σ 12)) (C := RX7) (T := TX7) (N := 54) hx hb hts uwX7 hown hK hP 0 rfl rfl 33 (by decide) (hts _ mf_X7_205) (fun _ h9 => h9) rfl hd (k H locs ls hl hP hD hS)
theorem put_X7_205 {K : Kx} {cc : ByteArray} {g : Gm} {nL d : Nat} {ret : Option FieldType} {Q : State → Prop} {pc : Nat} {lv : List (Nat × Value)} {st : List Value} {σ : St} (hC : Ok K cc RX7 g nL d ret) {v : Int32} {ρ : Type} {o : ρ} {f : St → Option ρ} (hd : decode cc pc = .ok (.putfield 205, 3)) (h : bnd (si σ 12 v) f = some o) (k : ∀ σ2, f σ2 = some o → J K (wM g) nL Q (pc + 3) lv (st) σ2) : J K (wM g) nL Q (pc) lv (.int v :: .ref (g.1 0) :: st) σ := by
  obtain ⟨p, l, e, R, s, m, args, below, meth, c, D, A, ce, sl⟩ := K
  obtain ⟨hx, hb, hml, hown, hts, hK, hA, hSF, ⟨hR1, hR2, hR3, hR4⟩, hr, hlk⟩ := hC
  exact fun H locs ls hl hP hD hS => va_put (D := D) (ci := 7) (v := .int v) (ty := .int) (C := RX7) (T := TX7) (N := 54) hx hb hts uwX7 tyX7 tyX7_ok nmX7 hown hK hP hD hS 0 rfl rfl 33 (by decide) (hts _ mf_X7_205) (fun _ h9 => h9) rfl (by decide +kernel) rfl rfl (Nat.le_of_ble_eq_true rfl) hd (fun H locs hP hD hS => k _ h H locs ls hl hP hD hS)
theorem mf_X7_218 : Cond.fieldLink RX7 218 "SongHourModel" "plays" "I" ∈ GW := memT (i := 840) (by decide +kernel) rfl
theorem get_X7_218 {K : Kx} {cc : ByteArray} {g : Gm} {nL d : Nat} {ret : Option FieldType} {Q : State → Prop} {pc : Nat} {lv : List (Nat × Value)} {st : List Value} {σ : St} (hC : Ok K cc RX7 g nL d ret) (hd : decode cc pc = .ok (.getfield 218, 3)) (k : J K (wM g) nL Q (pc + 3) lv (.int (gi σ 13) :: st) σ) : J K (wM g) nL Q (pc) lv (.ref (g.1 0) :: st) σ := by
  obtain ⟨p, l, e, R, s, m, args, below, meth, c, D, A, ce, sl⟩ := K
  obtain ⟨hx, hb, hml, hown, hts, hK, hA, hSF, ⟨hR1, hR2, hR3, hR4⟩, hr, hlk⟩ := hC
  exact fun H locs ls hl hP hD hS => va_get (D := D) (ci := 7) (v := .int (gi σ 13)) (C := RX7) (T := TX7) (N := 54) hx hb hts uwX7 hown hK hP 0 rfl rfl 38 (by decide) (hts _ mf_X7_218) (fun _ h9 => h9) rfl hd (k H locs ls hl hP hD hS)
theorem put_X7_218 {K : Kx} {cc : ByteArray} {g : Gm} {nL d : Nat} {ret : Option FieldType} {Q : State → Prop} {pc : Nat} {lv : List (Nat × Value)} {st : List Value} {σ : St} (hC : Ok K cc RX7 g nL d ret) {v : Int32} {ρ : Type} {o : ρ} {f : St → Option ρ} (hd : decode cc pc = .ok (.putfield 218, 3)) (h : bnd (si σ 13 v) f = some o) (k : ∀ σ2, f σ2 = some o → J K (wM g) nL Q (pc + 3) lv (st) σ2) : J K (wM g) nL Q (pc) lv (.int v :: .ref (g.1 0) :: st) σ := by
  obtain ⟨p, l, e, R, s, m, args, below, meth, c, D, A, ce, sl⟩ := K
  obtain ⟨hx, hb, hml, hown, hts, hK, hA, hSF, ⟨hR1, hR2, hR3, hR4⟩, hr, hlk⟩ := hC
  exact fun H locs ls hl hP hD hS => va_put (D := D) (ci := 7) (v := .int v) (ty := .int) (C := RX7) (T := TX7) (N := 54) hx hb hts uwX7 tyX7 tyX7_ok nmX7 hown hK hP hD hS 0 rfl rfl 38 (by decide) (hts _ mf_X7_218) (fun _ h9 => h9) rfl (by decide +kernel) rfl rfl (Nat.le_of_ble_eq_true rfl) hd (fun H locs hP hD hS => k _ h H locs ls hl hP hD hS)
theorem mf_X7_225 : Cond.fieldLink RX7 225 "SongHourModel" "bestMany" "I" ∈ GW := memT (i := 852) (by decide +kernel) rfl
theorem get_X7_225 {K : Kx} {cc : ByteArray} {g : Gm} {nL d : Nat} {ret : Option FieldType} {Q : State → Prop} {pc : Nat} {lv : List (Nat × Value)} {st : List Value} {σ : St} (hC : Ok K cc RX7 g nL d ret) (hd : decode cc pc = .ok (.getfield 225, 3)) (k : J K (wM g) nL Q (pc + 3) lv (.int (gi σ 19) :: st) σ) : J K (wM g) nL Q (pc) lv (.ref (g.1 0) :: st) σ := by
  obtain ⟨p, l, e, R, s, m, args, below, meth, c, D, A, ce, sl⟩ := K
  obtain ⟨hx, hb, hml, hown, hts, hK, hA, hSF, ⟨hR1, hR2, hR3, hR4⟩, hr, hlk⟩ := hC
  exact fun H locs ls hl hP hD hS => va_get (D := D) (ci := 7) (v := .int (gi σ 19)) (C := RX7) (T := TX7) (N := 54) hx hb hts uwX7 hown hK hP 0 rfl rfl 50 (by decide) (hts _ mf_X7_225) (fun _ h9 => h9) rfl hd (k H locs ls hl hP hD hS)
theorem put_X7_225 {K : Kx} {cc : ByteArray} {g : Gm} {nL d : Nat} {ret : Option FieldType} {Q : State → Prop} {pc : Nat} {lv : List (Nat × Value)} {st : List Value} {σ : St} (hC : Ok K cc RX7 g nL d ret) {v : Int32} {ρ : Type} {o : ρ} {f : St → Option ρ} (hd : decode cc pc = .ok (.putfield 225, 3)) (h : bnd (si σ 19 v) f = some o) (k : ∀ σ2, f σ2 = some o → J K (wM g) nL Q (pc + 3) lv (st) σ2) : J K (wM g) nL Q (pc) lv (.int v :: .ref (g.1 0) :: st) σ := by
  obtain ⟨p, l, e, R, s, m, args, below, meth, c, D, A, ce, sl⟩ := K
  obtain ⟨hx, hb, hml, hown, hts, hK, hA, hSF, ⟨hR1, hR2, hR3, hR4⟩, hr, hlk⟩ := hC
  exact fun H locs ls hl hP hD hS => va_put (D := D) (ci := 7) (v := .int v) (ty := .int) (C := RX7) (T := TX7) (N := 54) hx hb hts uwX7 tyX7 tyX7_ok nmX7 hown hK hP hD hS 0 rfl rfl 50 (by decide) (hts _ mf_X7_225) (fun _ h9 => h9) rfl (by decide +kernel) rfl rfl (Nat.le_of_ble_eq_true rfl) hd (fun H locs hP hD hS => k _ h H locs ls hl hP hD hS)
theorem mf_X7_228 : Cond.fieldLink RX7 228 "SongHourModel" "bestLeft" "I" ∈ GW := memT (i := 853) (by decide +kernel) rfl
theorem get_X7_228 {K : Kx} {cc : ByteArray} {g : Gm} {nL d : Nat} {ret : Option FieldType} {Q : State → Prop} {pc : Nat} {lv : List (Nat × Value)} {st : List Value} {σ : St} (hC : Ok K cc RX7 g nL d ret) (hd : decode cc pc = .ok (.getfield 228, 3)) (k : J K (wM g) nL Q (pc + 3) lv (.int (gi σ 20) :: st) σ) : J K (wM g) nL Q (pc) lv (.ref (g.1 0) :: st) σ := by
  obtain ⟨p, l, e, R, s, m, args, below, meth, c, D, A, ce, sl⟩ := K
  obtain ⟨hx, hb, hml, hown, hts, hK, hA, hSF, ⟨hR1, hR2, hR3, hR4⟩, hr, hlk⟩ := hC
  exact fun H locs ls hl hP hD hS => va_get (D := D) (ci := 7) (v := .int (gi σ 20)) (C := RX7) (T := TX7) (N := 54) hx hb hts uwX7 hown hK hP 0 rfl rfl 51 (by decide) (hts _ mf_X7_228) (fun _ h9 => h9) rfl hd (k H locs ls hl hP hD hS)
theorem put_X7_228 {K : Kx} {cc : ByteArray} {g : Gm} {nL d : Nat} {ret : Option FieldType} {Q : State → Prop} {pc : Nat} {lv : List (Nat × Value)} {st : List Value} {σ : St} (hC : Ok K cc RX7 g nL d ret) {v : Int32} {ρ : Type} {o : ρ} {f : St → Option ρ} (hd : decode cc pc = .ok (.putfield 228, 3)) (h : bnd (si σ 20 v) f = some o) (k : ∀ σ2, f σ2 = some o → J K (wM g) nL Q (pc + 3) lv (st) σ2) : J K (wM g) nL Q (pc) lv (.int v :: .ref (g.1 0) :: st) σ := by
  obtain ⟨p, l, e, R, s, m, args, below, meth, c, D, A, ce, sl⟩ := K
  obtain ⟨hx, hb, hml, hown, hts, hK, hA, hSF, ⟨hR1, hR2, hR3, hR4⟩, hr, hlk⟩ := hC
  exact fun H locs ls hl hP hD hS => va_put (D := D) (ci := 7) (v := .int v) (ty := .int) (C := RX7) (T := TX7) (N := 54) hx hb hts uwX7 tyX7 tyX7_ok nmX7 hown hK hP hD hS 0 rfl rfl 51 (by decide) (hts _ mf_X7_228) (fun _ h9 => h9) rfl (by decide +kernel) rfl rfl (Nat.le_of_ble_eq_true rfl) hd (fun H locs hP hD hS => k _ h H locs ls hl hP hD hS)
theorem mf_X7_231 : Cond.fieldLink RX7 231 "SongHourModel" "bestHeat" "I" ∈ GW := memT (i := 854) (by decide +kernel) rfl
theorem get_X7_231 {K : Kx} {cc : ByteArray} {g : Gm} {nL d : Nat} {ret : Option FieldType} {Q : State → Prop} {pc : Nat} {lv : List (Nat × Value)} {st : List Value} {σ : St} (hC : Ok K cc RX7 g nL d ret) (hd : decode cc pc = .ok (.getfield 231, 3)) (k : J K (wM g) nL Q (pc + 3) lv (.int (gi σ 21) :: st) σ) : J K (wM g) nL Q (pc) lv (.ref (g.1 0) :: st) σ := by
  obtain ⟨p, l, e, R, s, m, args, below, meth, c, D, A, ce, sl⟩ := K
  obtain ⟨hx, hb, hml, hown, hts, hK, hA, hSF, ⟨hR1, hR2, hR3, hR4⟩, hr, hlk⟩ := hC
  exact fun H locs ls hl hP hD hS => va_get (D := D) (ci := 7) (v := .int (gi σ 21)) (C := RX7) (T := TX7) (N := 54) hx hb hts uwX7 hown hK hP 0 rfl rfl 52 (by decide) (hts _ mf_X7_231) (fun _ h9 => h9) rfl hd (k H locs ls hl hP hD hS)
theorem put_X7_231 {K : Kx} {cc : ByteArray} {g : Gm} {nL d : Nat} {ret : Option FieldType} {Q : State → Prop} {pc : Nat} {lv : List (Nat × Value)} {st : List Value} {σ : St} (hC : Ok K cc RX7 g nL d ret) {v : Int32} {ρ : Type} {o : ρ} {f : St → Option ρ} (hd : decode cc pc = .ok (.putfield 231, 3)) (h : bnd (si σ 21 v) f = some o) (k : ∀ σ2, f σ2 = some o → J K (wM g) nL Q (pc + 3) lv (st) σ2) : J K (wM g) nL Q (pc) lv (.int v :: .ref (g.1 0) :: st) σ := by
  obtain ⟨p, l, e, R, s, m, args, below, meth, c, D, A, ce, sl⟩ := K
  obtain ⟨hx, hb, hml, hown, hts, hK, hA, hSF, ⟨hR1, hR2, hR3, hR4⟩, hr, hlk⟩ := hC
  exact fun H locs ls hl hP hD hS => va_put (D := D) (ci := 7) (v := .int v) (ty := .int) (C := RX7) (T := TX7) (N := 54) hx hb hts uwX7 tyX7 tyX7_ok nmX7 hown hK hP hD hS 0 rfl rfl 52 (by decide) (hts _ mf_X7_231) (fun _ h9 => h9) rfl (by decide +kernel) rfl rfl (Nat.le_of_ble_eq_true rfl) hd (fun H locs hP hD hS => k _ h H locs ls hl hP hD hS)
theorem mf_X7_246 : Cond.fieldLink RX7 246 "SongHourModel" "rowsMany" "I" ∈ GW := memT (i := 850) (by decide +kernel) rfl
theorem get_X7_246 {K : Kx} {cc : ByteArray} {g : Gm} {nL d : Nat} {ret : Option FieldType} {Q : State → Prop} {pc : Nat} {lv : List (Nat × Value)} {st : List Value} {σ : St} (hC : Ok K cc RX7 g nL d ret) (hd : decode cc pc = .ok (.getfield 246, 3)) (k : J K (wM g) nL Q (pc + 3) lv (.int (gi σ 17) :: st) σ) : J K (wM g) nL Q (pc) lv (.ref (g.1 0) :: st) σ := by
  obtain ⟨p, l, e, R, s, m, args, below, meth, c, D, A, ce, sl⟩ := K
  obtain ⟨hx, hb, hml, hown, hts, hK, hA, hSF, ⟨hR1, hR2, hR3, hR4⟩, hr, hlk⟩ := hC
  exact fun H locs ls hl hP hD hS => va_get (D := D) (ci := 7) (v := .int (gi σ 17)) (C := RX7) (T := TX7) (N := 54) hx hb hts uwX7 hown hK hP 0 rfl rfl 48 (by decide) (hts _ mf_X7_246) (fun _ h9 => h9) rfl hd (k H locs ls hl hP hD hS)
theorem put_X7_246 {K : Kx} {cc : ByteArray} {g : Gm} {nL d : Nat} {ret : Option FieldType} {Q : State → Prop} {pc : Nat} {lv : List (Nat × Value)} {st : List Value} {σ : St} (hC : Ok K cc RX7 g nL d ret) {v : Int32} {ρ : Type} {o : ρ} {f : St → Option ρ} (hd : decode cc pc = .ok (.putfield 246, 3)) (h : bnd (si σ 17 v) f = some o) (k : ∀ σ2, f σ2 = some o → J K (wM g) nL Q (pc + 3) lv (st) σ2) : J K (wM g) nL Q (pc) lv (.int v :: .ref (g.1 0) :: st) σ := by
  obtain ⟨p, l, e, R, s, m, args, below, meth, c, D, A, ce, sl⟩ := K
  obtain ⟨hx, hb, hml, hown, hts, hK, hA, hSF, ⟨hR1, hR2, hR3, hR4⟩, hr, hlk⟩ := hC
  exact fun H locs ls hl hP hD hS => va_put (D := D) (ci := 7) (v := .int v) (ty := .int) (C := RX7) (T := TX7) (N := 54) hx hb hts uwX7 tyX7 tyX7_ok nmX7 hown hK hP hD hS 0 rfl rfl 48 (by decide) (hts _ mf_X7_246) (fun _ h9 => h9) rfl (by decide +kernel) rfl rfl (Nat.le_of_ble_eq_true rfl) hd (fun H locs hP hD hS => k _ h H locs ls hl hP hD hS)
theorem mf_X7_249 : Cond.fieldLink RX7 249 "SongHourModel" "nextMany" "I" ∈ GW := memT (i := 851) (by decide +kernel) rfl
theorem get_X7_249 {K : Kx} {cc : ByteArray} {g : Gm} {nL d : Nat} {ret : Option FieldType} {Q : State → Prop} {pc : Nat} {lv : List (Nat × Value)} {st : List Value} {σ : St} (hC : Ok K cc RX7 g nL d ret) (hd : decode cc pc = .ok (.getfield 249, 3)) (k : J K (wM g) nL Q (pc + 3) lv (.int (gi σ 18) :: st) σ) : J K (wM g) nL Q (pc) lv (.ref (g.1 0) :: st) σ := by
  obtain ⟨p, l, e, R, s, m, args, below, meth, c, D, A, ce, sl⟩ := K
  obtain ⟨hx, hb, hml, hown, hts, hK, hA, hSF, ⟨hR1, hR2, hR3, hR4⟩, hr, hlk⟩ := hC
  exact fun H locs ls hl hP hD hS => va_get (D := D) (ci := 7) (v := .int (gi σ 18)) (C := RX7) (T := TX7) (N := 54) hx hb hts uwX7 hown hK hP 0 rfl rfl 49 (by decide) (hts _ mf_X7_249) (fun _ h9 => h9) rfl hd (k H locs ls hl hP hD hS)
theorem put_X7_249 {K : Kx} {cc : ByteArray} {g : Gm} {nL d : Nat} {ret : Option FieldType} {Q : State → Prop} {pc : Nat} {lv : List (Nat × Value)} {st : List Value} {σ : St} (hC : Ok K cc RX7 g nL d ret) {v : Int32} {ρ : Type} {o : ρ} {f : St → Option ρ} (hd : decode cc pc = .ok (.putfield 249, 3)) (h : bnd (si σ 18 v) f = some o) (k : ∀ σ2, f σ2 = some o → J K (wM g) nL Q (pc + 3) lv (st) σ2) : J K (wM g) nL Q (pc) lv (.int v :: .ref (g.1 0) :: st) σ := by
  obtain ⟨p, l, e, R, s, m, args, below, meth, c, D, A, ce, sl⟩ := K
  obtain ⟨hx, hb, hml, hown, hts, hK, hA, hSF, ⟨hR1, hR2, hR3, hR4⟩, hr, hlk⟩ := hC
  exact fun H locs ls hl hP hD hS => va_put (D := D) (ci := 7) (v := .int v) (ty := .int) (C := RX7) (T := TX7) (N := 54) hx hb hts uwX7 tyX7 tyX7_ok nmX7 hown hK hP hD hS 0 rfl rfl 49 (by decide) (hts _ mf_X7_249) (fun _ h9 => h9) rfl (by decide +kernel) rfl rfl (Nat.le_of_ble_eq_true rfl) hd (fun H locs hP hD hS => k _ h H locs ls hl hP hD hS)
theorem mf_X7_264 : Cond.fieldLink RX7 264 "SongHourModel" "hours" "I" ∈ GW := memT (i := 841) (by decide +kernel) rfl
theorem get_X7_264 {K : Kx} {cc : ByteArray} {g : Gm} {nL d : Nat} {ret : Option FieldType} {Q : State → Prop} {pc : Nat} {lv : List (Nat × Value)} {st : List Value} {σ : St} (hC : Ok K cc RX7 g nL d ret) (hd : decode cc pc = .ok (.getfield 264, 3)) (k : J K (wM g) nL Q (pc + 3) lv (.int (gi σ 14) :: st) σ) : J K (wM g) nL Q (pc) lv (.ref (g.1 0) :: st) σ := by
  obtain ⟨p, l, e, R, s, m, args, below, meth, c, D, A, ce, sl⟩ := K
  obtain ⟨hx, hb, hml, hown, hts, hK, hA, hSF, ⟨hR1, hR2, hR3, hR4⟩, hr, hlk⟩ := hC
  exact fun H locs ls hl hP hD hS => va_get (D := D) (ci := 7) (v := .int (gi σ 14)) (C := RX7) (T := TX7) (N := 54) hx hb hts uwX7 hown hK hP 0 rfl rfl 39 (by decide) (hts _ mf_X7_264) (fun _ h9 => h9) rfl hd (k H locs ls hl hP hD hS)
theorem put_X7_264 {K : Kx} {cc : ByteArray} {g : Gm} {nL d : Nat} {ret : Option FieldType} {Q : State → Prop} {pc : Nat} {lv : List (Nat × Value)} {st : List Value} {σ : St} (hC : Ok K cc RX7 g nL d ret) {v : Int32} {ρ : Type} {o : ρ} {f : St → Option ρ} (hd : decode cc pc = .ok (.putfield 264, 3)) (h : bnd (si σ 14 v) f = some o) (k : ∀ σ2, f σ2 = some o → J K (wM g) nL Q (pc + 3) lv (st) σ2) : J K (wM g) nL Q (pc) lv (.int v :: .ref (g.1 0) :: st) σ := by
  obtain ⟨p, l, e, R, s, m, args, below, meth, c, D, A, ce, sl⟩ := K
  obtain ⟨hx, hb, hml, hown, hts, hK, hA, hSF, ⟨hR1, hR2, hR3, hR4⟩, hr, hlk⟩ := hC
  exact fun H locs ls hl hP hD hS => va_put (D := D) (ci := 7) (v := .int v) (ty := .int) (C := RX7) (T := TX7) (N := 54) hx hb hts uwX7 tyX7 tyX7_ok nmX7 hown hK hP hD hS 0 rfl rfl 39 (by decide) (hts _ mf_X7_264) (fun _ h9 => h9) rfl (by decide +kernel) rfl rfl (Nat.le_of_ble_eq_true rfl) hd (fun H locs hP hD hS => k _ h H locs ls hl hP hD hS)
theorem mf_X7_267 : Cond.fieldLink RX7 267 "SongHourModel" "leftAll" "I" ∈ GW := memT (i := 843) (by decide +kernel) rfl
theorem get_X7_267 {K : Kx} {cc : ByteArray} {g : Gm} {nL d : Nat} {ret : Option FieldType} {Q : State → Prop} {pc : Nat} {lv : List (Nat × Value)} {st : List Value} {σ : St} (hC : Ok K cc RX7 g nL d ret) (hd : decode cc pc = .ok (.getfield 267, 3)) (k : J K (wM g) nL Q (pc + 3) lv (.int (gi σ 16) :: st) σ) : J K (wM g) nL Q (pc) lv (.ref (g.1 0) :: st) σ := by
  obtain ⟨p, l, e, R, s, m, args, below, meth, c, D, A, ce, sl⟩ := K
  obtain ⟨hx, hb, hml, hown, hts, hK, hA, hSF, ⟨hR1, hR2, hR3, hR4⟩, hr, hlk⟩ := hC
  exact fun H locs ls hl hP hD hS => va_get (D := D) (ci := 7) (v := .int (gi σ 16)) (C := RX7) (T := TX7) (N := 54) hx hb hts uwX7 hown hK hP 0 rfl rfl 41 (by decide) (hts _ mf_X7_267) (fun _ h9 => h9) rfl hd (k H locs ls hl hP hD hS)
theorem put_X7_267 {K : Kx} {cc : ByteArray} {g : Gm} {nL d : Nat} {ret : Option FieldType} {Q : State → Prop} {pc : Nat} {lv : List (Nat × Value)} {st : List Value} {σ : St} (hC : Ok K cc RX7 g nL d ret) {v : Int32} {ρ : Type} {o : ρ} {f : St → Option ρ} (hd : decode cc pc = .ok (.putfield 267, 3)) (h : bnd (si σ 16 v) f = some o) (k : ∀ σ2, f σ2 = some o → J K (wM g) nL Q (pc + 3) lv (st) σ2) : J K (wM g) nL Q (pc) lv (.int v :: .ref (g.1 0) :: st) σ := by
  obtain ⟨p, l, e, R, s, m, args, below, meth, c, D, A, ce, sl⟩ := K
  obtain ⟨hx, hb, hml, hown, hts, hK, hA, hSF, ⟨hR1, hR2, hR3, hR4⟩, hr, hlk⟩ := hC
  exact fun H locs ls hl hP hD hS => va_put (D := D) (ci := 7) (v := .int v) (ty := .int) (C := RX7) (T := TX7) (N := 54) hx hb hts uwX7 tyX7 tyX7_ok nmX7 hown hK hP hD hS 0 rfl rfl 41 (by decide) (hts _ mf_X7_267) (fun _ h9 => h9) rfl (by decide +kernel) rfl rfl (Nat.le_of_ble_eq_true rfl) hd (fun H locs hP hD hS => k _ h H locs ls hl hP hD hS)
theorem mf_X7_270 : Cond.fieldLink RX7 270 "SongHourModel" "empty" "I" ∈ GW := memT (i := 842) (by decide +kernel) rfl
theorem get_X7_270 {K : Kx} {cc : ByteArray} {g : Gm} {nL d : Nat} {ret : Option FieldType} {Q : State → Prop} {pc : Nat} {lv : List (Nat × Value)} {st : List Value} {σ : St} (hC : Ok K cc RX7 g nL d ret) (hd : decode cc pc = .ok (.getfield 270, 3)) (k : J K (wM g) nL Q (pc + 3) lv (.int (gi σ 15) :: st) σ) : J K (wM g) nL Q (pc) lv (.ref (g.1 0) :: st) σ := by
  obtain ⟨p, l, e, R, s, m, args, below, meth, c, D, A, ce, sl⟩ := K
  obtain ⟨hx, hb, hml, hown, hts, hK, hA, hSF, ⟨hR1, hR2, hR3, hR4⟩, hr, hlk⟩ := hC
  exact fun H locs ls hl hP hD hS => va_get (D := D) (ci := 7) (v := .int (gi σ 15)) (C := RX7) (T := TX7) (N := 54) hx hb hts uwX7 hown hK hP 0 rfl rfl 40 (by decide) (hts _ mf_X7_270) (fun _ h9 => h9) rfl hd (k H locs ls hl hP hD hS)
theorem put_X7_270 {K : Kx} {cc : ByteArray} {g : Gm} {nL d : Nat} {ret : Option FieldType} {Q : State → Prop} {pc : Nat} {lv : List (Nat × Value)} {st : List Value} {σ : St} (hC : Ok K cc RX7 g nL d ret) {v : Int32} {ρ : Type} {o : ρ} {f : St → Option ρ} (hd : decode cc pc = .ok (.putfield 270, 3)) (h : bnd (si σ 15 v) f = some o) (k : ∀ σ2, f σ2 = some o → J K (wM g) nL Q (pc + 3) lv (st) σ2) : J K (wM g) nL Q (pc) lv (.int v :: .ref (g.1 0) :: st) σ := by
  obtain ⟨p, l, e, R, s, m, args, below, meth, c, D, A, ce, sl⟩ := K
  obtain ⟨hx, hb, hml, hown, hts, hK, hA, hSF, ⟨hR1, hR2, hR3, hR4⟩, hr, hlk⟩ := hC
  exact fun H locs ls hl hP hD hS => va_put (D := D) (ci := 7) (v := .int v) (ty := .int) (C := RX7) (T := TX7) (N := 54) hx hb hts uwX7 tyX7 tyX7_ok nmX7 hown hK hP hD hS 0 rfl rfl 40 (by decide) (hts _ mf_X7_270) (fun _ h9 => h9) rfl (by decide +kernel) rfl rfl (Nat.le_of_ble_eq_true rfl) hd (fun H locs hP hD hS => k _ h H locs ls hl hP hD hS)
theorem ald_X5_bytes {K : Kx} {cc : ByteArray} {own : String} {g : Gm} {nL d : Nat} {ret : Option FieldType} {Q : State → Prop} {pc : Nat} {lv : List (Nat × Value)} {st : List Value} {σ : St} (hC : Ok K cc own g nL d ret) {i : Int32} {ρ : Type} {o : ρ} {f : Int32 → Option ρ} (hd : decode cc pc = .ok (.baload, 1)) (h : ald σ 0 260 i f = some o) (k : ∀ v, f v = some o → J K (wX g) nL Q (pc + 1) lv (.int v :: st) σ) : J K (wX g) nL Q (pc) lv (.int i :: .ref (g.1 3) :: st) σ := by
  obtain ⟨p, l, e, R, s, m, args, below, meth, c, D, A, ce, sl⟩ := K
  obtain ⟨hx, hb, hml, hown, hts, hK, hA, hSF, ⟨hR1, hR2, hR3, hR4⟩, hr, hlk⟩ := hC
  obtain ⟨hin, h⟩ := ald_some h
  exact fun H locs ls hl hP hD hS => va_bald hx hb hK hP 3 1 rfl rfl hin hd (k _ h H locs ls hl hP hD hS)
theorem ast_X5_bytes {K : Kx} {cc : ByteArray} {own : String} {g : Gm} {nL d : Nat} {ret : Option FieldType} {Q : State → Prop} {pc : Nat} {lv : List (Nat × Value)} {st : List Value} {σ : St} (hC : Ok K cc own g nL d ret) {i x : Int32} {ρ : Type} {o : ρ} {f : St → Option ρ} (hd : decode cc pc = .ok (.bastore, 1)) (h : ast σ 0 260 i (vp_nar .byte x) f = some o) (k : ∀ σ2, f σ2 = some o → J K (wX g) nL Q (pc + 1) lv (st) σ2) : J K (wX g) nL Q (pc) lv (.int x :: .int i :: .ref (g.1 3) :: st) σ := by
  obtain ⟨p, l, e, R, s, m, args, below, meth, c, D, A, ce, sl⟩ := K
  obtain ⟨hx, hb, hml, hown, hts, hK, hA, hSF, ⟨hR1, hR2, hR3, hR4⟩, hr, hlk⟩ := hC
  obtain ⟨hin, h⟩ := ast_some h
  exact fun H locs ls hl hP hD hS => va_bast hx hb hK hP hD hS 3 1 rfl rfl hin hd (fun H locs hP hD hS => k _ h H locs ls hl hP hD hS)
theorem ald_X3_now {K : Kx} {cc : ByteArray} {own : String} {g : Gm} {nL d : Nat} {ret : Option FieldType} {Q : State → Prop} {pc : Nat} {lv : List (Nat × Value)} {st : List Value} {σ : St} (hC : Ok K cc own g nL d ret) {i : Int32} {ρ : Type} {o : ρ} {f : Int32 → Option ρ} (hd : decode cc pc = .ok (.iaload, 1)) (h : ald σ 1 5 i f = some o) (k : ∀ v, f v = some o → J K (wX g) nL Q (pc + 1) lv (.int v :: st) σ) : J K (wX g) nL Q (pc) lv (.int i :: .ref (g.1 5) :: st) σ := by
  obtain ⟨p, l, e, R, s, m, args, below, meth, c, D, A, ce, sl⟩ := K
  obtain ⟨hx, hb, hml, hown, hts, hK, hA, hSF, ⟨hR1, hR2, hR3, hR4⟩, hr, hlk⟩ := hC
  obtain ⟨hin, h⟩ := ald_some h
  exact fun H locs ls hl hP hD hS => va_iald hx hb hK hP 5 0 rfl rfl hin hd (k _ h H locs ls hl hP hD hS)
theorem ast_X3_now {K : Kx} {cc : ByteArray} {own : String} {g : Gm} {nL d : Nat} {ret : Option FieldType} {Q : State → Prop} {pc : Nat} {lv : List (Nat × Value)} {st : List Value} {σ : St} (hC : Ok K cc own g nL d ret) {i x : Int32} {ρ : Type} {o : ρ} {f : St → Option ρ} (hd : decode cc pc = .ok (.iastore, 1)) (h : ast σ 1 5 i x f = some o) (k : ∀ σ2, f σ2 = some o → J K (wX g) nL Q (pc + 1) lv (st) σ2) : J K (wX g) nL Q (pc) lv (.int x :: .int i :: .ref (g.1 5) :: st) σ := by
  obtain ⟨p, l, e, R, s, m, args, below, meth, c, D, A, ce, sl⟩ := K
  obtain ⟨hx, hb, hml, hown, hts, hK, hA, hSF, ⟨hR1, hR2, hR3, hR4⟩, hr, hlk⟩ := hC
  obtain ⟨hin, h⟩ := ast_some h
  exact fun H locs ls hl hP hD hS => va_iast hx hb hK hP hD hS 5 0 rfl rfl hin hd (fun H locs hP hD hS => k _ h H locs ls hl hP hD hS)
theorem ald_X3_next {K : Kx} {cc : ByteArray} {own : String} {g : Gm} {nL d : Nat} {ret : Option FieldType} {Q : State → Prop} {pc : Nat} {lv : List (Nat × Value)} {st : List Value} {σ : St} (hC : Ok K cc own g nL d ret) {i : Int32} {ρ : Type} {o : ρ} {f : Int32 → Option ρ} (hd : decode cc pc = .ok (.iaload, 1)) (h : ald σ 2 5 i f = some o) (k : ∀ v, f v = some o → J K (wX g) nL Q (pc + 1) lv (.int v :: st) σ) : J K (wX g) nL Q (pc) lv (.int i :: .ref (g.1 6) :: st) σ := by
  obtain ⟨p, l, e, R, s, m, args, below, meth, c, D, A, ce, sl⟩ := K
  obtain ⟨hx, hb, hml, hown, hts, hK, hA, hSF, ⟨hR1, hR2, hR3, hR4⟩, hr, hlk⟩ := hC
  obtain ⟨hin, h⟩ := ald_some h
  exact fun H locs ls hl hP hD hS => va_iald hx hb hK hP 6 0 rfl rfl hin hd (k _ h H locs ls hl hP hD hS)
theorem ast_X3_next {K : Kx} {cc : ByteArray} {own : String} {g : Gm} {nL d : Nat} {ret : Option FieldType} {Q : State → Prop} {pc : Nat} {lv : List (Nat × Value)} {st : List Value} {σ : St} (hC : Ok K cc own g nL d ret) {i x : Int32} {ρ : Type} {o : ρ} {f : St → Option ρ} (hd : decode cc pc = .ok (.iastore, 1)) (h : ast σ 2 5 i x f = some o) (k : ∀ σ2, f σ2 = some o → J K (wX g) nL Q (pc + 1) lv (st) σ2) : J K (wX g) nL Q (pc) lv (.int x :: .int i :: .ref (g.1 6) :: st) σ := by
  obtain ⟨p, l, e, R, s, m, args, below, meth, c, D, A, ce, sl⟩ := K
  obtain ⟨hx, hb, hml, hown, hts, hK, hA, hSF, ⟨hR1, hR2, hR3, hR4⟩, hr, hlk⟩ := hC
  obtain ⟨hin, h⟩ := ast_some h
  exact fun H locs ls hl hP hD hS => va_iast hx hb hK hP hD hS 6 0 rfl rfl hin hd (fun H locs hP hD hS => k _ h H locs ls hl hP hD hS)
theorem ald_X3_isTold {K : Kx} {cc : ByteArray} {own : String} {g : Gm} {nL d : Nat} {ret : Option FieldType} {Q : State → Prop} {pc : Nat} {lv : List (Nat × Value)} {st : List Value} {σ : St} (hC : Ok K cc own g nL d ret) {i : Int32} {ρ : Type} {o : ρ} {f : Int32 → Option ρ} (hd : decode cc pc = .ok (.baload, 1)) (h : ald σ 3 5 i f = some o) (k : ∀ v, f v = some o → J K (wX g) nL Q (pc + 1) lv (.int v :: st) σ) : J K (wX g) nL Q (pc) lv (.int i :: .ref (g.1 7) :: st) σ := by
  obtain ⟨p, l, e, R, s, m, args, below, meth, c, D, A, ce, sl⟩ := K
  obtain ⟨hx, hb, hml, hown, hts, hK, hA, hSF, ⟨hR1, hR2, hR3, hR4⟩, hr, hlk⟩ := hC
  obtain ⟨hin, h⟩ := ald_some h
  exact fun H locs ls hl hP hD hS => va_zald hx hb hK hP 7 2 rfl rfl hin hd (k _ h H locs ls hl hP hD hS)
theorem ast_X3_isTold {K : Kx} {cc : ByteArray} {own : String} {g : Gm} {nL d : Nat} {ret : Option FieldType} {Q : State → Prop} {pc : Nat} {lv : List (Nat × Value)} {st : List Value} {σ : St} (hC : Ok K cc own g nL d ret) {i x : Int32} {ρ : Type} {o : ρ} {f : St → Option ρ} (hd : decode cc pc = .ok (.bastore, 1)) (h : ast σ 3 5 i (vp_nar .boolean x) f = some o) (k : ∀ σ2, f σ2 = some o → J K (wX g) nL Q (pc + 1) lv (st) σ2) : J K (wX g) nL Q (pc) lv (.int x :: .int i :: .ref (g.1 7) :: st) σ := by
  obtain ⟨p, l, e, R, s, m, args, below, meth, c, D, A, ce, sl⟩ := K
  obtain ⟨hx, hb, hml, hown, hts, hK, hA, hSF, ⟨hR1, hR2, hR3, hR4⟩, hr, hlk⟩ := hC
  obtain ⟨hin, h⟩ := ast_some h
  exact fun H locs ls hl hP hD hS => va_zast hx hb hK hP hD hS 7 2 rfl rfl hin hd (fun H locs hP hD hS => k _ h H locs ls hl hP hD hS)
theorem ald_X4_seconds {K : Kx} {cc : ByteArray} {own : String} {g : Gm} {nL d : Nat} {ret : Option FieldType} {Q : State → Prop} {pc : Nat} {lv : List (Nat × Value)} {st : List Value} {σ : St} (hC : Ok K cc own g nL d ret) {i : Int32} {ρ : Type} {o : ρ} {f : Int32 → Option ρ} (hd : decode cc pc = .ok (.iaload, 1)) (h : ald σ 4 24 i f = some o) (k : ∀ v, f v = some o → J K (wX g) nL Q (pc + 1) lv (.int v :: st) σ) : J K (wX g) nL Q (pc) lv (.int i :: .ref (g.1 9) :: st) σ := by
  obtain ⟨p, l, e, R, s, m, args, below, meth, c, D, A, ce, sl⟩ := K
  obtain ⟨hx, hb, hml, hown, hts, hK, hA, hSF, ⟨hR1, hR2, hR3, hR4⟩, hr, hlk⟩ := hC
  obtain ⟨hin, h⟩ := ald_some h
  exact fun H locs ls hl hP hD hS => va_iald hx hb hK hP 9 0 rfl rfl hin hd (k _ h H locs ls hl hP hD hS)
theorem ast_X4_seconds {K : Kx} {cc : ByteArray} {own : String} {g : Gm} {nL d : Nat} {ret : Option FieldType} {Q : State → Prop} {pc : Nat} {lv : List (Nat × Value)} {st : List Value} {σ : St} (hC : Ok K cc own g nL d ret) {i x : Int32} {ρ : Type} {o : ρ} {f : St → Option ρ} (hd : decode cc pc = .ok (.iastore, 1)) (h : ast σ 4 24 i x f = some o) (k : ∀ σ2, f σ2 = some o → J K (wX g) nL Q (pc + 1) lv (st) σ2) : J K (wX g) nL Q (pc) lv (.int x :: .int i :: .ref (g.1 9) :: st) σ := by
  obtain ⟨p, l, e, R, s, m, args, below, meth, c, D, A, ce, sl⟩ := K
  obtain ⟨hx, hb, hml, hown, hts, hK, hA, hSF, ⟨hR1, hR2, hR3, hR4⟩, hr, hlk⟩ := hC
  obtain ⟨hin, h⟩ := ast_some h
  exact fun H locs ls hl hP hD hS => va_iast hx hb hK hP hD hS 9 0 rfl rfl hin hd (fun H locs hP hD hS => k _ h H locs ls hl hP hD hS)
theorem ald_X4_artist {K : Kx} {cc : ByteArray} {own : String} {g : Gm} {nL d : Nat} {ret : Option FieldType} {Q : State → Prop} {pc : Nat} {lv : List (Nat × Value)} {st : List Value} {σ : St} (hC : Ok K cc own g nL d ret) {i : Int32} {ρ : Type} {o : ρ} {f : Int32 → Option ρ} (hd : decode cc pc = .ok (.iaload, 1)) (h : ald σ 5 24 i f = some o) (k : ∀ v, f v = some o → J K (wX g) nL Q (pc + 1) lv (.int v :: st) σ) : J K (wX g) nL Q (pc) lv (.int i :: .ref (g.1 10) :: st) σ := by
  obtain ⟨p, l, e, R, s, m, args, below, meth, c, D, A, ce, sl⟩ := K
  obtain ⟨hx, hb, hml, hown, hts, hK, hA, hSF, ⟨hR1, hR2, hR3, hR4⟩, hr, hlk⟩ := hC
  obtain ⟨hin, h⟩ := ald_some h
  exact fun H locs ls hl hP hD hS => va_iald hx hb hK hP 10 0 rfl rfl hin hd (k _ h H locs ls hl hP hD hS)
theorem ast_X4_artist {K : Kx} {cc : ByteArray} {own : String} {g : Gm} {nL d : Nat} {ret : Option FieldType} {Q : State → Prop} {pc : Nat} {lv : List (Nat × Value)} {st : List Value} {σ : St} (hC : Ok K cc own g nL d ret) {i x : Int32} {ρ : Type} {o : ρ} {f : St → Option ρ} (hd : decode cc pc = .ok (.iastore, 1)) (h : ast σ 5 24 i x f = some o) (k : ∀ σ2, f σ2 = some o → J K (wX g) nL Q (pc + 1) lv (st) σ2) : J K (wX g) nL Q (pc) lv (.int x :: .int i :: .ref (g.1 10) :: st) σ := by
  obtain ⟨p, l, e, R, s, m, args, below, meth, c, D, A, ce, sl⟩ := K
  obtain ⟨hx, hb, hml, hown, hts, hK, hA, hSF, ⟨hR1, hR2, hR3, hR4⟩, hr, hlk⟩ := hC
  obtain ⟨hin, h⟩ := ast_some h
  exact fun H locs ls hl hP hD hS => va_iast hx hb hK hP hD hS 10 0 rfl rfl hin hd (fun H locs hP hD hS => k _ h H locs ls hl hP hD hS)
theorem ald_X4_key {K : Kx} {cc : ByteArray} {own : String} {g : Gm} {nL d : Nat} {ret : Option FieldType} {Q : State → Prop} {pc : Nat} {lv : List (Nat × Value)} {st : List Value} {σ : St} (hC : Ok K cc own g nL d ret) {i : Int32} {ρ : Type} {o : ρ} {f : Int32 → Option ρ} (hd : decode cc pc = .ok (.iaload, 1)) (h : ald σ 6 24 i f = some o) (k : ∀ v, f v = some o → J K (wX g) nL Q (pc + 1) lv (.int v :: st) σ) : J K (wX g) nL Q (pc) lv (.int i :: .ref (g.1 11) :: st) σ := by
  obtain ⟨p, l, e, R, s, m, args, below, meth, c, D, A, ce, sl⟩ := K
  obtain ⟨hx, hb, hml, hown, hts, hK, hA, hSF, ⟨hR1, hR2, hR3, hR4⟩, hr, hlk⟩ := hC
  obtain ⟨hin, h⟩ := ald_some h
  exact fun H locs ls hl hP hD hS => va_iald hx hb hK hP 11 0 rfl rfl hin hd (k _ h H locs ls hl hP hD hS)
theorem ast_X4_key {K : Kx} {cc : ByteArray} {own : String} {g : Gm} {nL d : Nat} {ret : Option FieldType} {Q : State → Prop} {pc : Nat} {lv : List (Nat × Value)} {st : List Value} {σ : St} (hC : Ok K cc own g nL d ret) {i x : Int32} {ρ : Type} {o : ρ} {f : St → Option ρ} (hd : decode cc pc = .ok (.iastore, 1)) (h : ast σ 6 24 i x f = some o) (k : ∀ σ2, f σ2 = some o → J K (wX g) nL Q (pc + 1) lv (st) σ2) : J K (wX g) nL Q (pc) lv (.int x :: .int i :: .ref (g.1 11) :: st) σ := by
  obtain ⟨p, l, e, R, s, m, args, below, meth, c, D, A, ce, sl⟩ := K
  obtain ⟨hx, hb, hml, hown, hts, hK, hA, hSF, ⟨hR1, hR2, hR3, hR4⟩, hr, hlk⟩ := hC
  obtain ⟨hin, h⟩ := ast_some h
  exact fun H locs ls hl hP hD hS => va_iast hx hb hK hP hD hS 11 0 rfl rfl hin hd (fun H locs hP hD hS => k _ h H locs ls hl hP hD hS)
theorem ald_X4_mood {K : Kx} {cc : ByteArray} {own : String} {g : Gm} {nL d : Nat} {ret : Option FieldType} {Q : State → Prop} {pc : Nat} {lv : List (Nat × Value)} {st : List Value} {σ : St} (hC : Ok K cc own g nL d ret) {i : Int32} {ρ : Type} {o : ρ} {f : Int32 → Option ρ} (hd : decode cc pc = .ok (.iaload, 1)) (h : ald σ 7 24 i f = some o) (k : ∀ v, f v = some o → J K (wX g) nL Q (pc + 1) lv (.int v :: st) σ) : J K (wX g) nL Q (pc) lv (.int i :: .ref (g.1 12) :: st) σ := by
  obtain ⟨p, l, e, R, s, m, args, below, meth, c, D, A, ce, sl⟩ := K
  obtain ⟨hx, hb, hml, hown, hts, hK, hA, hSF, ⟨hR1, hR2, hR3, hR4⟩, hr, hlk⟩ := hC
  obtain ⟨hin, h⟩ := ald_some h
  exact fun H locs ls hl hP hD hS => va_iald hx hb hK hP 12 0 rfl rfl hin hd (k _ h H locs ls hl hP hD hS)
theorem ast_X4_mood {K : Kx} {cc : ByteArray} {own : String} {g : Gm} {nL d : Nat} {ret : Option FieldType} {Q : State → Prop} {pc : Nat} {lv : List (Nat × Value)} {st : List Value} {σ : St} (hC : Ok K cc own g nL d ret) {i x : Int32} {ρ : Type} {o : ρ} {f : St → Option ρ} (hd : decode cc pc = .ok (.iastore, 1)) (h : ast σ 7 24 i x f = some o) (k : ∀ σ2, f σ2 = some o → J K (wX g) nL Q (pc + 1) lv (st) σ2) : J K (wX g) nL Q (pc) lv (.int x :: .int i :: .ref (g.1 12) :: st) σ := by
  obtain ⟨p, l, e, R, s, m, args, below, meth, c, D, A, ce, sl⟩ := K
  obtain ⟨hx, hb, hml, hown, hts, hK, hA, hSF, ⟨hR1, hR2, hR3, hR4⟩, hr, hlk⟩ := hC
  obtain ⟨hin, h⟩ := ast_some h
  exact fun H locs ls hl hP hD hS => va_iast hx hb hK hP hD hS 12 0 rfl rfl hin hd (fun H locs hP hD hS => k _ h H locs ls hl hP hD hS)
theorem ald_X4_newness {K : Kx} {cc : ByteArray} {own : String} {g : Gm} {nL d : Nat} {ret : Option FieldType} {Q : State → Prop} {pc : Nat} {lv : List (Nat × Value)} {st : List Value} {σ : St} (hC : Ok K cc own g nL d ret) {i : Int32} {ρ : Type} {o : ρ} {f : Int32 → Option ρ} (hd : decode cc pc = .ok (.iaload, 1)) (h : ald σ 8 24 i f = some o) (k : ∀ v, f v = some o → J K (wX g) nL Q (pc + 1) lv (.int v :: st) σ) : J K (wX g) nL Q (pc) lv (.int i :: .ref (g.1 13) :: st) σ := by
  obtain ⟨p, l, e, R, s, m, args, below, meth, c, D, A, ce, sl⟩ := K
  obtain ⟨hx, hb, hml, hown, hts, hK, hA, hSF, ⟨hR1, hR2, hR3, hR4⟩, hr, hlk⟩ := hC
  obtain ⟨hin, h⟩ := ald_some h
  exact fun H locs ls hl hP hD hS => va_iald hx hb hK hP 13 0 rfl rfl hin hd (k _ h H locs ls hl hP hD hS)
theorem ast_X4_newness {K : Kx} {cc : ByteArray} {own : String} {g : Gm} {nL d : Nat} {ret : Option FieldType} {Q : State → Prop} {pc : Nat} {lv : List (Nat × Value)} {st : List Value} {σ : St} (hC : Ok K cc own g nL d ret) {i x : Int32} {ρ : Type} {o : ρ} {f : St → Option ρ} (hd : decode cc pc = .ok (.iastore, 1)) (h : ast σ 8 24 i x f = some o) (k : ∀ σ2, f σ2 = some o → J K (wX g) nL Q (pc + 1) lv (st) σ2) : J K (wX g) nL Q (pc) lv (.int x :: .int i :: .ref (g.1 13) :: st) σ := by
  obtain ⟨p, l, e, R, s, m, args, below, meth, c, D, A, ce, sl⟩ := K
  obtain ⟨hx, hb, hml, hown, hts, hK, hA, hSF, ⟨hR1, hR2, hR3, hR4⟩, hr, hlk⟩ := hC
  obtain ⟨hin, h⟩ := ast_some h
  exact fun H locs ls hl hP hD hS => va_iast hx hb hK hP hD hS 13 0 rfl rfl hin hd (fun H locs hP hD hS => k _ h H locs ls hl hP hD hS)
theorem ald_X4_asksOpen {K : Kx} {cc : ByteArray} {own : String} {g : Gm} {nL d : Nat} {ret : Option FieldType} {Q : State → Prop} {pc : Nat} {lv : List (Nat × Value)} {st : List Value} {σ : St} (hC : Ok K cc own g nL d ret) {i : Int32} {ρ : Type} {o : ρ} {f : Int32 → Option ρ} (hd : decode cc pc = .ok (.iaload, 1)) (h : ald σ 9 24 i f = some o) (k : ∀ v, f v = some o → J K (wX g) nL Q (pc + 1) lv (.int v :: st) σ) : J K (wX g) nL Q (pc) lv (.int i :: .ref (g.1 14) :: st) σ := by
  obtain ⟨p, l, e, R, s, m, args, below, meth, c, D, A, ce, sl⟩ := K
  obtain ⟨hx, hb, hml, hown, hts, hK, hA, hSF, ⟨hR1, hR2, hR3, hR4⟩, hr, hlk⟩ := hC
  obtain ⟨hin, h⟩ := ald_some h
  exact fun H locs ls hl hP hD hS => va_iald hx hb hK hP 14 0 rfl rfl hin hd (k _ h H locs ls hl hP hD hS)
theorem ast_X4_asksOpen {K : Kx} {cc : ByteArray} {own : String} {g : Gm} {nL d : Nat} {ret : Option FieldType} {Q : State → Prop} {pc : Nat} {lv : List (Nat × Value)} {st : List Value} {σ : St} (hC : Ok K cc own g nL d ret) {i x : Int32} {ρ : Type} {o : ρ} {f : St → Option ρ} (hd : decode cc pc = .ok (.iastore, 1)) (h : ast σ 9 24 i x f = some o) (k : ∀ σ2, f σ2 = some o → J K (wX g) nL Q (pc + 1) lv (st) σ2) : J K (wX g) nL Q (pc) lv (.int x :: .int i :: .ref (g.1 14) :: st) σ := by
  obtain ⟨p, l, e, R, s, m, args, below, meth, c, D, A, ce, sl⟩ := K
  obtain ⟨hx, hb, hml, hown, hts, hK, hA, hSF, ⟨hR1, hR2, hR3, hR4⟩, hr, hlk⟩ := hC
  obtain ⟨hin, h⟩ := ast_some h
  exact fun H locs ls hl hP hD hS => va_iast hx hb hK hP hD hS 14 0 rfl rfl hin hd (fun H locs hP hD hS => k _ h H locs ls hl hP hD hS)
theorem ald_X4_asksDone {K : Kx} {cc : ByteArray} {own : String} {g : Gm} {nL d : Nat} {ret : Option FieldType} {Q : State → Prop} {pc : Nat} {lv : List (Nat × Value)} {st : List Value} {σ : St} (hC : Ok K cc own g nL d ret) {i : Int32} {ρ : Type} {o : ρ} {f : Int32 → Option ρ} (hd : decode cc pc = .ok (.iaload, 1)) (h : ald σ 10 24 i f = some o) (k : ∀ v, f v = some o → J K (wX g) nL Q (pc + 1) lv (.int v :: st) σ) : J K (wX g) nL Q (pc) lv (.int i :: .ref (g.1 15) :: st) σ := by
  obtain ⟨p, l, e, R, s, m, args, below, meth, c, D, A, ce, sl⟩ := K
  obtain ⟨hx, hb, hml, hown, hts, hK, hA, hSF, ⟨hR1, hR2, hR3, hR4⟩, hr, hlk⟩ := hC
  obtain ⟨hin, h⟩ := ald_some h
  exact fun H locs ls hl hP hD hS => va_iald hx hb hK hP 15 0 rfl rfl hin hd (k _ h H locs ls hl hP hD hS)
theorem ast_X4_asksDone {K : Kx} {cc : ByteArray} {own : String} {g : Gm} {nL d : Nat} {ret : Option FieldType} {Q : State → Prop} {pc : Nat} {lv : List (Nat × Value)} {st : List Value} {σ : St} (hC : Ok K cc own g nL d ret) {i x : Int32} {ρ : Type} {o : ρ} {f : St → Option ρ} (hd : decode cc pc = .ok (.iastore, 1)) (h : ast σ 10 24 i x f = some o) (k : ∀ σ2, f σ2 = some o → J K (wX g) nL Q (pc + 1) lv (st) σ2) : J K (wX g) nL Q (pc) lv (.int x :: .int i :: .ref (g.1 15) :: st) σ := by
  obtain ⟨p, l, e, R, s, m, args, below, meth, c, D, A, ce, sl⟩ := K
  obtain ⟨hx, hb, hml, hown, hts, hK, hA, hSF, ⟨hR1, hR2, hR3, hR4⟩, hr, hlk⟩ := hC
  obtain ⟨hin, h⟩ := ast_some h
  exact fun H locs ls hl hP hD hS => va_iast hx hb hK hP hD hS 15 0 rfl rfl hin hd (fun H locs hP hD hS => k _ h H locs ls hl hP hD hS)
theorem ald_X4_played {K : Kx} {cc : ByteArray} {own : String} {g : Gm} {nL d : Nat} {ret : Option FieldType} {Q : State → Prop} {pc : Nat} {lv : List (Nat × Value)} {st : List Value} {σ : St} (hC : Ok K cc own g nL d ret) {i : Int32} {ρ : Type} {o : ρ} {f : Int32 → Option ρ} (hd : decode cc pc = .ok (.iaload, 1)) (h : ald σ 11 24 i f = some o) (k : ∀ v, f v = some o → J K (wX g) nL Q (pc + 1) lv (.int v :: st) σ) : J K (wX g) nL Q (pc) lv (.int i :: .ref (g.1 16) :: st) σ := by
  obtain ⟨p, l, e, R, s, m, args, below, meth, c, D, A, ce, sl⟩ := K
  obtain ⟨hx, hb, hml, hown, hts, hK, hA, hSF, ⟨hR1, hR2, hR3, hR4⟩, hr, hlk⟩ := hC
  obtain ⟨hin, h⟩ := ald_some h
  exact fun H locs ls hl hP hD hS => va_iald hx hb hK hP 16 0 rfl rfl hin hd (k _ h H locs ls hl hP hD hS)
theorem ast_X4_played {K : Kx} {cc : ByteArray} {own : String} {g : Gm} {nL d : Nat} {ret : Option FieldType} {Q : State → Prop} {pc : Nat} {lv : List (Nat × Value)} {st : List Value} {σ : St} (hC : Ok K cc own g nL d ret) {i x : Int32} {ρ : Type} {o : ρ} {f : St → Option ρ} (hd : decode cc pc = .ok (.iastore, 1)) (h : ast σ 11 24 i x f = some o) (k : ∀ σ2, f σ2 = some o → J K (wX g) nL Q (pc + 1) lv (st) σ2) : J K (wX g) nL Q (pc) lv (.int x :: .int i :: .ref (g.1 16) :: st) σ := by
  obtain ⟨p, l, e, R, s, m, args, below, meth, c, D, A, ce, sl⟩ := K
  obtain ⟨hx, hb, hml, hown, hts, hK, hA, hSF, ⟨hR1, hR2, hR3, hR4⟩, hr, hlk⟩ := hC
  obtain ⟨hin, h⟩ := ast_some h
  exact fun H locs ls hl hP hD hS => va_iast hx hb hK hP hD hS 16 0 rfl rfl hin hd (fun H locs hP hD hS => k _ h H locs ls hl hP hD hS)
theorem ald_X4_began {K : Kx} {cc : ByteArray} {own : String} {g : Gm} {nL d : Nat} {ret : Option FieldType} {Q : State → Prop} {pc : Nat} {lv : List (Nat × Value)} {st : List Value} {σ : St} (hC : Ok K cc own g nL d ret) {i : Int32} {ρ : Type} {o : ρ} {f : Int32 → Option ρ} (hd : decode cc pc = .ok (.iaload, 1)) (h : ald σ 12 24 i f = some o) (k : ∀ v, f v = some o → J K (wX g) nL Q (pc + 1) lv (.int v :: st) σ) : J K (wX g) nL Q (pc) lv (.int i :: .ref (g.1 17) :: st) σ := by
  obtain ⟨p, l, e, R, s, m, args, below, meth, c, D, A, ce, sl⟩ := K
  obtain ⟨hx, hb, hml, hown, hts, hK, hA, hSF, ⟨hR1, hR2, hR3, hR4⟩, hr, hlk⟩ := hC
  obtain ⟨hin, h⟩ := ald_some h
  exact fun H locs ls hl hP hD hS => va_iald hx hb hK hP 17 0 rfl rfl hin hd (k _ h H locs ls hl hP hD hS)
theorem ast_X4_began {K : Kx} {cc : ByteArray} {own : String} {g : Gm} {nL d : Nat} {ret : Option FieldType} {Q : State → Prop} {pc : Nat} {lv : List (Nat × Value)} {st : List Value} {σ : St} (hC : Ok K cc own g nL d ret) {i x : Int32} {ρ : Type} {o : ρ} {f : St → Option ρ} (hd : decode cc pc = .ok (.iastore, 1)) (h : ast σ 12 24 i x f = some o) (k : ∀ σ2, f σ2 = some o → J K (wX g) nL Q (pc + 1) lv (st) σ2) : J K (wX g) nL Q (pc) lv (.int x :: .int i :: .ref (g.1 17) :: st) σ := by
  obtain ⟨p, l, e, R, s, m, args, below, meth, c, D, A, ce, sl⟩ := K
  obtain ⟨hx, hb, hml, hown, hts, hK, hA, hSF, ⟨hR1, hR2, hR3, hR4⟩, hr, hlk⟩ := hC
  obtain ⟨hin, h⟩ := ast_some h
  exact fun H locs ls hl hP hD hS => va_iast hx hb hK hP hD hS 17 0 rfl rfl hin hd (fun H locs hP hD hS => k _ h H locs ls hl hP hD hS)
theorem ald_X4_artistBegan {K : Kx} {cc : ByteArray} {own : String} {g : Gm} {nL d : Nat} {ret : Option FieldType} {Q : State → Prop} {pc : Nat} {lv : List (Nat × Value)} {st : List Value} {σ : St} (hC : Ok K cc own g nL d ret) {i : Int32} {ρ : Type} {o : ρ} {f : Int32 → Option ρ} (hd : decode cc pc = .ok (.iaload, 1)) (h : ald σ 13 12 i f = some o) (k : ∀ v, f v = some o → J K (wX g) nL Q (pc + 1) lv (.int v :: st) σ) : J K (wX g) nL Q (pc) lv (.int i :: .ref (g.1 18) :: st) σ := by
  obtain ⟨p, l, e, R, s, m, args, below, meth, c, D, A, ce, sl⟩ := K
  obtain ⟨hx, hb, hml, hown, hts, hK, hA, hSF, ⟨hR1, hR2, hR3, hR4⟩, hr, hlk⟩ := hC
  obtain ⟨hin, h⟩ := ald_some h
  exact fun H locs ls hl hP hD hS => va_iald hx hb hK hP 18 0 rfl rfl hin hd (k _ h H locs ls hl hP hD hS)
theorem ast_X4_artistBegan {K : Kx} {cc : ByteArray} {own : String} {g : Gm} {nL d : Nat} {ret : Option FieldType} {Q : State → Prop} {pc : Nat} {lv : List (Nat × Value)} {st : List Value} {σ : St} (hC : Ok K cc own g nL d ret) {i x : Int32} {ρ : Type} {o : ρ} {f : St → Option ρ} (hd : decode cc pc = .ok (.iastore, 1)) (h : ast σ 13 12 i x f = some o) (k : ∀ σ2, f σ2 = some o → J K (wX g) nL Q (pc + 1) lv (st) σ2) : J K (wX g) nL Q (pc) lv (.int x :: .int i :: .ref (g.1 18) :: st) σ := by
  obtain ⟨p, l, e, R, s, m, args, below, meth, c, D, A, ce, sl⟩ := K
  obtain ⟨hx, hb, hml, hown, hts, hK, hA, hSF, ⟨hR1, hR2, hR3, hR4⟩, hr, hlk⟩ := hC
  obtain ⟨hin, h⟩ := ast_some h
  exact fun H locs ls hl hP hD hS => va_iast hx hb hK hP hD hS 18 0 rfl rfl hin hd (fun H locs hP hD hS => k _ h H locs ls hl hP hD hS)
theorem ald_X4_voteSum {K : Kx} {cc : ByteArray} {own : String} {g : Gm} {nL d : Nat} {ret : Option FieldType} {Q : State → Prop} {pc : Nat} {lv : List (Nat × Value)} {st : List Value} {σ : St} (hC : Ok K cc own g nL d ret) {i : Int32} {ρ : Type} {o : ρ} {f : Int32 → Option ρ} (hd : decode cc pc = .ok (.iaload, 1)) (h : ald σ 14 24 i f = some o) (k : ∀ v, f v = some o → J K (wX g) nL Q (pc + 1) lv (.int v :: st) σ) : J K (wX g) nL Q (pc) lv (.int i :: .ref (g.1 19) :: st) σ := by
  obtain ⟨p, l, e, R, s, m, args, below, meth, c, D, A, ce, sl⟩ := K
  obtain ⟨hx, hb, hml, hown, hts, hK, hA, hSF, ⟨hR1, hR2, hR3, hR4⟩, hr, hlk⟩ := hC
  obtain ⟨hin, h⟩ := ald_some h
  exact fun H locs ls hl hP hD hS => va_iald hx hb hK hP 19 0 rfl rfl hin hd (k _ h H locs ls hl hP hD hS)
theorem ast_X4_voteSum {K : Kx} {cc : ByteArray} {own : String} {g : Gm} {nL d : Nat} {ret : Option FieldType} {Q : State → Prop} {pc : Nat} {lv : List (Nat × Value)} {st : List Value} {σ : St} (hC : Ok K cc own g nL d ret) {i x : Int32} {ρ : Type} {o : ρ} {f : St → Option ρ} (hd : decode cc pc = .ok (.iastore, 1)) (h : ast σ 14 24 i x f = some o) (k : ∀ σ2, f σ2 = some o → J K (wX g) nL Q (pc + 1) lv (st) σ2) : J K (wX g) nL Q (pc) lv (.int x :: .int i :: .ref (g.1 19) :: st) σ := by
  obtain ⟨p, l, e, R, s, m, args, below, meth, c, D, A, ce, sl⟩ := K
  obtain ⟨hx, hb, hml, hown, hts, hK, hA, hSF, ⟨hR1, hR2, hR3, hR4⟩, hr, hlk⟩ := hC
  obtain ⟨hin, h⟩ := ast_some h
  exact fun H locs ls hl hP hD hS => va_iast hx hb hK hP hD hS 19 0 rfl rfl hin hd (fun H locs hP hD hS => k _ h H locs ls hl hP hD hS)
theorem ald_X4_oldestVote {K : Kx} {cc : ByteArray} {own : String} {g : Gm} {nL d : Nat} {ret : Option FieldType} {Q : State → Prop} {pc : Nat} {lv : List (Nat × Value)} {st : List Value} {σ : St} (hC : Ok K cc own g nL d ret) {i : Int32} {ρ : Type} {o : ρ} {f : Int32 → Option ρ} (hd : decode cc pc = .ok (.iaload, 1)) (h : ald σ 15 24 i f = some o) (k : ∀ v, f v = some o → J K (wX g) nL Q (pc + 1) lv (.int v :: st) σ) : J K (wX g) nL Q (pc) lv (.int i :: .ref (g.1 20) :: st) σ := by
  obtain ⟨p, l, e, R, s, m, args, below, meth, c, D, A, ce, sl⟩ := K
  obtain ⟨hx, hb, hml, hown, hts, hK, hA, hSF, ⟨hR1, hR2, hR3, hR4⟩, hr, hlk⟩ := hC
  obtain ⟨hin, h⟩ := ald_some h
  exact fun H locs ls hl hP hD hS => va_iald hx hb hK hP 20 0 rfl rfl hin hd (k _ h H locs ls hl hP hD hS)
theorem ast_X4_oldestVote {K : Kx} {cc : ByteArray} {own : String} {g : Gm} {nL d : Nat} {ret : Option FieldType} {Q : State → Prop} {pc : Nat} {lv : List (Nat × Value)} {st : List Value} {σ : St} (hC : Ok K cc own g nL d ret) {i x : Int32} {ρ : Type} {o : ρ} {f : St → Option ρ} (hd : decode cc pc = .ok (.iastore, 1)) (h : ast σ 15 24 i x f = some o) (k : ∀ σ2, f σ2 = some o → J K (wX g) nL Q (pc + 1) lv (st) σ2) : J K (wX g) nL Q (pc) lv (.int x :: .int i :: .ref (g.1 20) :: st) σ := by
  obtain ⟨p, l, e, R, s, m, args, below, meth, c, D, A, ce, sl⟩ := K
  obtain ⟨hx, hb, hml, hown, hts, hK, hA, hSF, ⟨hR1, hR2, hR3, hR4⟩, hr, hlk⟩ := hC
  obtain ⟨hin, h⟩ := ast_some h
  exact fun H locs ls hl hP hD hS => va_iast hx hb hK hP hD hS 20 0 rfl rfl hin hd (fun H locs hP hD hS => k _ h H locs ls hl hP hD hS)
theorem ald_X4_votes {K : Kx} {cc : ByteArray} {own : String} {g : Gm} {nL d : Nat} {ret : Option FieldType} {Q : State → Prop} {pc : Nat} {lv : List (Nat × Value)} {st : List Value} {σ : St} (hC : Ok K cc own g nL d ret) {i : Int32} {ρ : Type} {o : ρ} {f : Int32 → Option ρ} (hd : decode cc pc = .ok (.baload, 1)) (h : ald σ 16 240 i f = some o) (k : ∀ v, f v = some o → J K (wX g) nL Q (pc + 1) lv (.int v :: st) σ) : J K (wX g) nL Q (pc) lv (.int i :: .ref (g.1 21) :: st) σ := by
  obtain ⟨p, l, e, R, s, m, args, below, meth, c, D, A, ce, sl⟩ := K
  obtain ⟨hx, hb, hml, hown, hts, hK, hA, hSF, ⟨hR1, hR2, hR3, hR4⟩, hr, hlk⟩ := hC
  obtain ⟨hin, h⟩ := ald_some h
  exact fun H locs ls hl hP hD hS => va_bald hx hb hK hP 21 1 rfl rfl hin hd (k _ h H locs ls hl hP hD hS)
theorem ast_X4_votes {K : Kx} {cc : ByteArray} {own : String} {g : Gm} {nL d : Nat} {ret : Option FieldType} {Q : State → Prop} {pc : Nat} {lv : List (Nat × Value)} {st : List Value} {σ : St} (hC : Ok K cc own g nL d ret) {i x : Int32} {ρ : Type} {o : ρ} {f : St → Option ρ} (hd : decode cc pc = .ok (.bastore, 1)) (h : ast σ 16 240 i (vp_nar .byte x) f = some o) (k : ∀ σ2, f σ2 = some o → J K (wX g) nL Q (pc + 1) lv (st) σ2) : J K (wX g) nL Q (pc) lv (.int x :: .int i :: .ref (g.1 21) :: st) σ := by
  obtain ⟨p, l, e, R, s, m, args, below, meth, c, D, A, ce, sl⟩ := K
  obtain ⟨hx, hb, hml, hown, hts, hK, hA, hSF, ⟨hR1, hR2, hR3, hR4⟩, hr, hlk⟩ := hC
  obtain ⟨hin, h⟩ := ast_some h
  exact fun H locs ls hl hP hD hS => va_bast hx hb hK hP hD hS 21 1 rfl rfl hin hd (fun H locs hP hD hS => k _ h H locs ls hl hP hD hS)
theorem ald_X1_hourItems {K : Kx} {cc : ByteArray} {own : String} {g : Gm} {nL d : Nat} {ret : Option FieldType} {Q : State → Prop} {pc : Nat} {lv : List (Nat × Value)} {st : List Value} {σ : St} (hC : Ok K cc own g nL d ret) {i : Int32} {ρ : Type} {o : ρ} {f : Int32 → Option ρ} (hd : decode cc pc = .ok (.iaload, 1)) (h : ald σ 17 168 i f = some o) (k : ∀ v, f v = some o → J K (wX g) nL Q (pc + 1) lv (.int v :: st) σ) : J K (wX g) nL Q (pc) lv (.int i :: .ref (g.1 23) :: st) σ := by
  obtain ⟨p, l, e, R, s, m, args, below, meth, c, D, A, ce, sl⟩ := K
  obtain ⟨hx, hb, hml, hown, hts, hK, hA, hSF, ⟨hR1, hR2, hR3, hR4⟩, hr, hlk⟩ := hC
  obtain ⟨hin, h⟩ := ald_some h
  exact fun H locs ls hl hP hD hS => va_iald hx hb hK hP 23 0 rfl rfl hin hd (k _ h H locs ls hl hP hD hS)
theorem ast_X1_hourItems {K : Kx} {cc : ByteArray} {own : String} {g : Gm} {nL d : Nat} {ret : Option FieldType} {Q : State → Prop} {pc : Nat} {lv : List (Nat × Value)} {st : List Value} {σ : St} (hC : Ok K cc own g nL d ret) {i x : Int32} {ρ : Type} {o : ρ} {f : St → Option ρ} (hd : decode cc pc = .ok (.iastore, 1)) (h : ast σ 17 168 i x f = some o) (k : ∀ σ2, f σ2 = some o → J K (wX g) nL Q (pc + 1) lv (st) σ2) : J K (wX g) nL Q (pc) lv (.int x :: .int i :: .ref (g.1 23) :: st) σ := by
  obtain ⟨p, l, e, R, s, m, args, below, meth, c, D, A, ce, sl⟩ := K
  obtain ⟨hx, hb, hml, hown, hts, hK, hA, hSF, ⟨hR1, hR2, hR3, hR4⟩, hr, hlk⟩ := hC
  obtain ⟨hin, h⟩ := ast_some h
  exact fun H locs ls hl hP hD hS => va_iast hx hb hK hP hD hS 23 0 rfl rfl hin hd (fun H locs hP hD hS => k _ h H locs ls hl hP hD hS)
theorem ald_X1_itemLeft {K : Kx} {cc : ByteArray} {own : String} {g : Gm} {nL d : Nat} {ret : Option FieldType} {Q : State → Prop} {pc : Nat} {lv : List (Nat × Value)} {st : List Value} {σ : St} (hC : Ok K cc own g nL d ret) {i : Int32} {ρ : Type} {o : ρ} {f : Int32 → Option ρ} (hd : decode cc pc = .ok (.iaload, 1)) (h : ald σ 18 1344 i f = some o) (k : ∀ v, f v = some o → J K (wX g) nL Q (pc + 1) lv (.int v :: st) σ) : J K (wX g) nL Q (pc) lv (.int i :: .ref (g.1 24) :: st) σ := by
  obtain ⟨p, l, e, R, s, m, args, below, meth, c, D, A, ce, sl⟩ := K
  obtain ⟨hx, hb, hml, hown, hts, hK, hA, hSF, ⟨hR1, hR2, hR3, hR4⟩, hr, hlk⟩ := hC
  obtain ⟨hin, h⟩ := ald_some h
  exact fun H locs ls hl hP hD hS => va_iald hx hb hK hP 24 0 rfl rfl hin hd (k _ h H locs ls hl hP hD hS)
theorem ast_X1_itemLeft {K : Kx} {cc : ByteArray} {own : String} {g : Gm} {nL d : Nat} {ret : Option FieldType} {Q : State → Prop} {pc : Nat} {lv : List (Nat × Value)} {st : List Value} {σ : St} (hC : Ok K cc own g nL d ret) {i x : Int32} {ρ : Type} {o : ρ} {f : St → Option ρ} (hd : decode cc pc = .ok (.iastore, 1)) (h : ast σ 18 1344 i x f = some o) (k : ∀ σ2, f σ2 = some o → J K (wX g) nL Q (pc + 1) lv (st) σ2) : J K (wX g) nL Q (pc) lv (.int x :: .int i :: .ref (g.1 24) :: st) σ := by
  obtain ⟨p, l, e, R, s, m, args, below, meth, c, D, A, ce, sl⟩ := K
  obtain ⟨hx, hb, hml, hown, hts, hK, hA, hSF, ⟨hR1, hR2, hR3, hR4⟩, hr, hlk⟩ := hC
  obtain ⟨hin, h⟩ := ast_some h
  exact fun H locs ls hl hP hD hS => va_iast hx hb hK hP hD hS 24 0 rfl rfl hin hd (fun H locs hP hD hS => k _ h H locs ls hl hP hD hS)
theorem ald_X1_playSong {K : Kx} {cc : ByteArray} {own : String} {g : Gm} {nL d : Nat} {ret : Option FieldType} {Q : State → Prop} {pc : Nat} {lv : List (Nat × Value)} {st : List Value} {σ : St} (hC : Ok K cc own g nL d ret) {i : Int32} {ρ : Type} {o : ρ} {f : Int32 → Option ρ} (hd : decode cc pc = .ok (.iaload, 1)) (h : ald σ 19 300 i f = some o) (k : ∀ v, f v = some o → J K (wX g) nL Q (pc + 1) lv (.int v :: st) σ) : J K (wX g) nL Q (pc) lv (.int i :: .ref (g.1 25) :: st) σ := by
  obtain ⟨p, l, e, R, s, m, args, below, meth, c, D, A, ce, sl⟩ := K
  obtain ⟨hx, hb, hml, hown, hts, hK, hA, hSF, ⟨hR1, hR2, hR3, hR4⟩, hr, hlk⟩ := hC
  obtain ⟨hin, h⟩ := ald_some h
  exact fun H locs ls hl hP hD hS => va_iald hx hb hK hP 25 0 rfl rfl hin hd (k _ h H locs ls hl hP hD hS)
theorem ast_X1_playSong {K : Kx} {cc : ByteArray} {own : String} {g : Gm} {nL d : Nat} {ret : Option FieldType} {Q : State → Prop} {pc : Nat} {lv : List (Nat × Value)} {st : List Value} {σ : St} (hC : Ok K cc own g nL d ret) {i x : Int32} {ρ : Type} {o : ρ} {f : St → Option ρ} (hd : decode cc pc = .ok (.iastore, 1)) (h : ast σ 19 300 i x f = some o) (k : ∀ σ2, f σ2 = some o → J K (wX g) nL Q (pc + 1) lv (st) σ2) : J K (wX g) nL Q (pc) lv (.int x :: .int i :: .ref (g.1 25) :: st) σ := by
  obtain ⟨p, l, e, R, s, m, args, below, meth, c, D, A, ce, sl⟩ := K
  obtain ⟨hx, hb, hml, hown, hts, hK, hA, hSF, ⟨hR1, hR2, hR3, hR4⟩, hr, hlk⟩ := hC
  obtain ⟨hin, h⟩ := ast_some h
  exact fun H locs ls hl hP hD hS => va_iast hx hb hK hP hD hS 25 0 rfl rfl hin hd (fun H locs hP hD hS => k _ h H locs ls hl hP hD hS)
theorem ald_X1_playBegan {K : Kx} {cc : ByteArray} {own : String} {g : Gm} {nL d : Nat} {ret : Option FieldType} {Q : State → Prop} {pc : Nat} {lv : List (Nat × Value)} {st : List Value} {σ : St} (hC : Ok K cc own g nL d ret) {i : Int32} {ρ : Type} {o : ρ} {f : Int32 → Option ρ} (hd : decode cc pc = .ok (.iaload, 1)) (h : ald σ 20 300 i f = some o) (k : ∀ v, f v = some o → J K (wX g) nL Q (pc + 1) lv (.int v :: st) σ) : J K (wX g) nL Q (pc) lv (.int i :: .ref (g.1 26) :: st) σ := by
  obtain ⟨p, l, e, R, s, m, args, below, meth, c, D, A, ce, sl⟩ := K
  obtain ⟨hx, hb, hml, hown, hts, hK, hA, hSF, ⟨hR1, hR2, hR3, hR4⟩, hr, hlk⟩ := hC
  obtain ⟨hin, h⟩ := ald_some h
  exact fun H locs ls hl hP hD hS => va_iald hx hb hK hP 26 0 rfl rfl hin hd (k _ h H locs ls hl hP hD hS)
theorem ast_X1_playBegan {K : Kx} {cc : ByteArray} {own : String} {g : Gm} {nL d : Nat} {ret : Option FieldType} {Q : State → Prop} {pc : Nat} {lv : List (Nat × Value)} {st : List Value} {σ : St} (hC : Ok K cc own g nL d ret) {i x : Int32} {ρ : Type} {o : ρ} {f : St → Option ρ} (hd : decode cc pc = .ok (.iastore, 1)) (h : ast σ 20 300 i x f = some o) (k : ∀ σ2, f σ2 = some o → J K (wX g) nL Q (pc + 1) lv (st) σ2) : J K (wX g) nL Q (pc) lv (.int x :: .int i :: .ref (g.1 26) :: st) σ := by
  obtain ⟨p, l, e, R, s, m, args, below, meth, c, D, A, ce, sl⟩ := K
  obtain ⟨hx, hb, hml, hown, hts, hK, hA, hSF, ⟨hR1, hR2, hR3, hR4⟩, hr, hlk⟩ := hC
  obtain ⟨hin, h⟩ := ast_some h
  exact fun H locs ls hl hP hD hS => va_iast hx hb hK hP hD hS 26 0 rfl rfl hin hd (fun H locs hP hD hS => k _ h H locs ls hl hP hD hS)
theorem ald_X1_playHour {K : Kx} {cc : ByteArray} {own : String} {g : Gm} {nL d : Nat} {ret : Option FieldType} {Q : State → Prop} {pc : Nat} {lv : List (Nat × Value)} {st : List Value} {σ : St} (hC : Ok K cc own g nL d ret) {i : Int32} {ρ : Type} {o : ρ} {f : Int32 → Option ρ} (hd : decode cc pc = .ok (.iaload, 1)) (h : ald σ 21 300 i f = some o) (k : ∀ v, f v = some o → J K (wX g) nL Q (pc + 1) lv (.int v :: st) σ) : J K (wX g) nL Q (pc) lv (.int i :: .ref (g.1 27) :: st) σ := by
  obtain ⟨p, l, e, R, s, m, args, below, meth, c, D, A, ce, sl⟩ := K
  obtain ⟨hx, hb, hml, hown, hts, hK, hA, hSF, ⟨hR1, hR2, hR3, hR4⟩, hr, hlk⟩ := hC
  obtain ⟨hin, h⟩ := ald_some h
  exact fun H locs ls hl hP hD hS => va_iald hx hb hK hP 27 0 rfl rfl hin hd (k _ h H locs ls hl hP hD hS)
theorem ast_X1_playHour {K : Kx} {cc : ByteArray} {own : String} {g : Gm} {nL d : Nat} {ret : Option FieldType} {Q : State → Prop} {pc : Nat} {lv : List (Nat × Value)} {st : List Value} {σ : St} (hC : Ok K cc own g nL d ret) {i x : Int32} {ρ : Type} {o : ρ} {f : St → Option ρ} (hd : decode cc pc = .ok (.iastore, 1)) (h : ast σ 21 300 i x f = some o) (k : ∀ σ2, f σ2 = some o → J K (wX g) nL Q (pc + 1) lv (st) σ2) : J K (wX g) nL Q (pc) lv (.int x :: .int i :: .ref (g.1 27) :: st) σ := by
  obtain ⟨p, l, e, R, s, m, args, below, meth, c, D, A, ce, sl⟩ := K
  obtain ⟨hx, hb, hml, hown, hts, hK, hA, hSF, ⟨hR1, hR2, hR3, hR4⟩, hr, hlk⟩ := hC
  obtain ⟨hin, h⟩ := ast_some h
  exact fun H locs ls hl hP hD hS => va_iast hx hb hK hP hD hS 27 0 rfl rfl hin hd (fun H locs hP hD hS => k _ h H locs ls hl hP hD hS)
theorem ald_X1_playItem {K : Kx} {cc : ByteArray} {own : String} {g : Gm} {nL d : Nat} {ret : Option FieldType} {Q : State → Prop} {pc : Nat} {lv : List (Nat × Value)} {st : List Value} {σ : St} (hC : Ok K cc own g nL d ret) {i : Int32} {ρ : Type} {o : ρ} {f : Int32 → Option ρ} (hd : decode cc pc = .ok (.iaload, 1)) (h : ald σ 22 300 i f = some o) (k : ∀ v, f v = some o → J K (wX g) nL Q (pc + 1) lv (.int v :: st) σ) : J K (wX g) nL Q (pc) lv (.int i :: .ref (g.1 28) :: st) σ := by
  obtain ⟨p, l, e, R, s, m, args, below, meth, c, D, A, ce, sl⟩ := K
  obtain ⟨hx, hb, hml, hown, hts, hK, hA, hSF, ⟨hR1, hR2, hR3, hR4⟩, hr, hlk⟩ := hC
  obtain ⟨hin, h⟩ := ald_some h
  exact fun H locs ls hl hP hD hS => va_iald hx hb hK hP 28 0 rfl rfl hin hd (k _ h H locs ls hl hP hD hS)
theorem ast_X1_playItem {K : Kx} {cc : ByteArray} {own : String} {g : Gm} {nL d : Nat} {ret : Option FieldType} {Q : State → Prop} {pc : Nat} {lv : List (Nat × Value)} {st : List Value} {σ : St} (hC : Ok K cc own g nL d ret) {i x : Int32} {ρ : Type} {o : ρ} {f : St → Option ρ} (hd : decode cc pc = .ok (.iastore, 1)) (h : ast σ 22 300 i x f = some o) (k : ∀ σ2, f σ2 = some o → J K (wX g) nL Q (pc + 1) lv (st) σ2) : J K (wX g) nL Q (pc) lv (.int x :: .int i :: .ref (g.1 28) :: st) σ := by
  obtain ⟨p, l, e, R, s, m, args, below, meth, c, D, A, ce, sl⟩ := K
  obtain ⟨hx, hb, hml, hown, hts, hK, hA, hSF, ⟨hR1, hR2, hR3, hR4⟩, hr, hlk⟩ := hC
  obtain ⟨hin, h⟩ := ast_some h
  exact fun H locs ls hl hP hD hS => va_iast hx hb hK hP hD hS 28 0 rfl rfl hin hd (fun H locs hP hD hS => k _ h H locs ls hl hP hD hS)
theorem ald_X2_best {K : Kx} {cc : ByteArray} {own : String} {g : Gm} {nL d : Nat} {ret : Option FieldType} {Q : State → Prop} {pc : Nat} {lv : List (Nat × Value)} {st : List Value} {σ : St} (hC : Ok K cc own g nL d ret) {i : Int32} {ρ : Type} {o : ρ} {f : Int32 → Option ρ} (hd : decode cc pc = .ok (.iaload, 1)) (h : ald σ 23 4 i f = some o) (k : ∀ v, f v = some o → J K (wX g) nL Q (pc + 1) lv (.int v :: st) σ) : J K (wX g) nL Q (pc) lv (.int i :: .ref (g.1 30) :: st) σ := by
  obtain ⟨p, l, e, R, s, m, args, below, meth, c, D, A, ce, sl⟩ := K
  obtain ⟨hx, hb, hml, hown, hts, hK, hA, hSF, ⟨hR1, hR2, hR3, hR4⟩, hr, hlk⟩ := hC
  obtain ⟨hin, h⟩ := ald_some h
  exact fun H locs ls hl hP hD hS => va_iald hx hb hK hP 30 0 rfl rfl hin hd (k _ h H locs ls hl hP hD hS)
theorem ast_X2_best {K : Kx} {cc : ByteArray} {own : String} {g : Gm} {nL d : Nat} {ret : Option FieldType} {Q : State → Prop} {pc : Nat} {lv : List (Nat × Value)} {st : List Value} {σ : St} (hC : Ok K cc own g nL d ret) {i x : Int32} {ρ : Type} {o : ρ} {f : St → Option ρ} (hd : decode cc pc = .ok (.iastore, 1)) (h : ast σ 23 4 i x f = some o) (k : ∀ σ2, f σ2 = some o → J K (wX g) nL Q (pc + 1) lv (st) σ2) : J K (wX g) nL Q (pc) lv (.int x :: .int i :: .ref (g.1 30) :: st) σ := by
  obtain ⟨p, l, e, R, s, m, args, below, meth, c, D, A, ce, sl⟩ := K
  obtain ⟨hx, hb, hml, hown, hts, hK, hA, hSF, ⟨hR1, hR2, hR3, hR4⟩, hr, hlk⟩ := hC
  obtain ⟨hin, h⟩ := ast_some h
  exact fun H locs ls hl hP hD hS => va_iast hx hb hK hP hD hS 30 0 rfl rfl hin hd (fun H locs hP hD hS => k _ h H locs ls hl hP hD hS)
theorem ald_X2_row {K : Kx} {cc : ByteArray} {own : String} {g : Gm} {nL d : Nat} {ret : Option FieldType} {Q : State → Prop} {pc : Nat} {lv : List (Nat × Value)} {st : List Value} {σ : St} (hC : Ok K cc own g nL d ret) {i : Int32} {ρ : Type} {o : ρ} {f : Int32 → Option ρ} (hd : decode cc pc = .ok (.iaload, 1)) (h : ald σ 24 4 i f = some o) (k : ∀ v, f v = some o → J K (wX g) nL Q (pc + 1) lv (.int v :: st) σ) : J K (wX g) nL Q (pc) lv (.int i :: .ref (g.1 31) :: st) σ := by
  obtain ⟨p, l, e, R, s, m, args, below, meth, c, D, A, ce, sl⟩ := K
  obtain ⟨hx, hb, hml, hown, hts, hK, hA, hSF, ⟨hR1, hR2, hR3, hR4⟩, hr, hlk⟩ := hC
  obtain ⟨hin, h⟩ := ald_some h
  exact fun H locs ls hl hP hD hS => va_iald hx hb hK hP 31 0 rfl rfl hin hd (k _ h H locs ls hl hP hD hS)
theorem ast_X2_row {K : Kx} {cc : ByteArray} {own : String} {g : Gm} {nL d : Nat} {ret : Option FieldType} {Q : State → Prop} {pc : Nat} {lv : List (Nat × Value)} {st : List Value} {σ : St} (hC : Ok K cc own g nL d ret) {i x : Int32} {ρ : Type} {o : ρ} {f : St → Option ρ} (hd : decode cc pc = .ok (.iastore, 1)) (h : ast σ 24 4 i x f = some o) (k : ∀ σ2, f σ2 = some o → J K (wX g) nL Q (pc + 1) lv (st) σ2) : J K (wX g) nL Q (pc) lv (.int x :: .int i :: .ref (g.1 31) :: st) σ := by
  obtain ⟨p, l, e, R, s, m, args, below, meth, c, D, A, ce, sl⟩ := K
  obtain ⟨hx, hb, hml, hown, hts, hK, hA, hSF, ⟨hR1, hR2, hR3, hR4⟩, hr, hlk⟩ := hC
  obtain ⟨hin, h⟩ := ast_some h
  exact fun H locs ls hl hP hD hS => va_iast hx hb hK hP hD hS 31 0 rfl rfl hin hd (fun H locs hP hD hS => k _ h H locs ls hl hP hD hS)
theorem ald_X2_heat {K : Kx} {cc : ByteArray} {own : String} {g : Gm} {nL d : Nat} {ret : Option FieldType} {Q : State → Prop} {pc : Nat} {lv : List (Nat × Value)} {st : List Value} {σ : St} (hC : Ok K cc own g nL d ret) {i : Int32} {ρ : Type} {o : ρ} {f : Int32 → Option ρ} (hd : decode cc pc = .ok (.iaload, 1)) (h : ald σ 25 24 i f = some o) (k : ∀ v, f v = some o → J K (wX g) nL Q (pc + 1) lv (.int v :: st) σ) : J K (wX g) nL Q (pc) lv (.int i :: .ref (g.1 32) :: st) σ := by
  obtain ⟨p, l, e, R, s, m, args, below, meth, c, D, A, ce, sl⟩ := K
  obtain ⟨hx, hb, hml, hown, hts, hK, hA, hSF, ⟨hR1, hR2, hR3, hR4⟩, hr, hlk⟩ := hC
  obtain ⟨hin, h⟩ := ald_some h
  exact fun H locs ls hl hP hD hS => va_iald hx hb hK hP 32 0 rfl rfl hin hd (k _ h H locs ls hl hP hD hS)
theorem ast_X2_heat {K : Kx} {cc : ByteArray} {own : String} {g : Gm} {nL d : Nat} {ret : Option FieldType} {Q : State → Prop} {pc : Nat} {lv : List (Nat × Value)} {st : List Value} {σ : St} (hC : Ok K cc own g nL d ret) {i x : Int32} {ρ : Type} {o : ρ} {f : St → Option ρ} (hd : decode cc pc = .ok (.iastore, 1)) (h : ast σ 25 24 i x f = some o) (k : ∀ σ2, f σ2 = some o → J K (wX g) nL Q (pc + 1) lv (st) σ2) : J K (wX g) nL Q (pc) lv (.int x :: .int i :: .ref (g.1 32) :: st) σ := by
  obtain ⟨p, l, e, R, s, m, args, below, meth, c, D, A, ce, sl⟩ := K
  obtain ⟨hx, hb, hml, hown, hts, hK, hA, hSF, ⟨hR1, hR2, hR3, hR4⟩, hr, hlk⟩ := hC
  obtain ⟨hin, h⟩ := ast_some h
  exact fun H locs ls hl hP hD hS => va_iast hx hb hK hP hD hS 32 0 rfl rfl hin hd (fun H locs hP hD hS => k _ h H locs ls hl hP hD hS)
theorem ald_X2_songFree {K : Kx} {cc : ByteArray} {own : String} {g : Gm} {nL d : Nat} {ret : Option FieldType} {Q : State → Prop} {pc : Nat} {lv : List (Nat × Value)} {st : List Value} {σ : St} (hC : Ok K cc own g nL d ret) {i : Int32} {ρ : Type} {o : ρ} {f : Int32 → Option ρ} (hd : decode cc pc = .ok (.iaload, 1)) (h : ald σ 26 24 i f = some o) (k : ∀ v, f v = some o → J K (wX g) nL Q (pc + 1) lv (.int v :: st) σ) : J K (wX g) nL Q (pc) lv (.int i :: .ref (g.1 33) :: st) σ := by
  obtain ⟨p, l, e, R, s, m, args, below, meth, c, D, A, ce, sl⟩ := K
  obtain ⟨hx, hb, hml, hown, hts, hK, hA, hSF, ⟨hR1, hR2, hR3, hR4⟩, hr, hlk⟩ := hC
  obtain ⟨hin, h⟩ := ald_some h
  exact fun H locs ls hl hP hD hS => va_iald hx hb hK hP 33 0 rfl rfl hin hd (k _ h H locs ls hl hP hD hS)
theorem ast_X2_songFree {K : Kx} {cc : ByteArray} {own : String} {g : Gm} {nL d : Nat} {ret : Option FieldType} {Q : State → Prop} {pc : Nat} {lv : List (Nat × Value)} {st : List Value} {σ : St} (hC : Ok K cc own g nL d ret) {i x : Int32} {ρ : Type} {o : ρ} {f : St → Option ρ} (hd : decode cc pc = .ok (.iastore, 1)) (h : ast σ 26 24 i x f = some o) (k : ∀ σ2, f σ2 = some o → J K (wX g) nL Q (pc + 1) lv (st) σ2) : J K (wX g) nL Q (pc) lv (.int x :: .int i :: .ref (g.1 33) :: st) σ := by
  obtain ⟨p, l, e, R, s, m, args, below, meth, c, D, A, ce, sl⟩ := K
  obtain ⟨hx, hb, hml, hown, hts, hK, hA, hSF, ⟨hR1, hR2, hR3, hR4⟩, hr, hlk⟩ := hC
  obtain ⟨hin, h⟩ := ast_some h
  exact fun H locs ls hl hP hD hS => va_iast hx hb hK hP hD hS 33 0 rfl rfl hin hd (fun H locs hP hD hS => k _ h H locs ls hl hP hD hS)
theorem ald_X2_artistFree {K : Kx} {cc : ByteArray} {own : String} {g : Gm} {nL d : Nat} {ret : Option FieldType} {Q : State → Prop} {pc : Nat} {lv : List (Nat × Value)} {st : List Value} {σ : St} (hC : Ok K cc own g nL d ret) {i : Int32} {ρ : Type} {o : ρ} {f : Int32 → Option ρ} (hd : decode cc pc = .ok (.iaload, 1)) (h : ald σ 27 12 i f = some o) (k : ∀ v, f v = some o → J K (wX g) nL Q (pc + 1) lv (.int v :: st) σ) : J K (wX g) nL Q (pc) lv (.int i :: .ref (g.1 34) :: st) σ := by
  obtain ⟨p, l, e, R, s, m, args, below, meth, c, D, A, ce, sl⟩ := K
  obtain ⟨hx, hb, hml, hown, hts, hK, hA, hSF, ⟨hR1, hR2, hR3, hR4⟩, hr, hlk⟩ := hC
  obtain ⟨hin, h⟩ := ald_some h
  exact fun H locs ls hl hP hD hS => va_iald hx hb hK hP 34 0 rfl rfl hin hd (k _ h H locs ls hl hP hD hS)
theorem ast_X2_artistFree {K : Kx} {cc : ByteArray} {own : String} {g : Gm} {nL d : Nat} {ret : Option FieldType} {Q : State → Prop} {pc : Nat} {lv : List (Nat × Value)} {st : List Value} {σ : St} (hC : Ok K cc own g nL d ret) {i x : Int32} {ρ : Type} {o : ρ} {f : St → Option ρ} (hd : decode cc pc = .ok (.iastore, 1)) (h : ast σ 27 12 i x f = some o) (k : ∀ σ2, f σ2 = some o → J K (wX g) nL Q (pc + 1) lv (st) σ2) : J K (wX g) nL Q (pc) lv (.int x :: .int i :: .ref (g.1 34) :: st) σ := by
  obtain ⟨p, l, e, R, s, m, args, below, meth, c, D, A, ce, sl⟩ := K
  obtain ⟨hx, hb, hml, hown, hts, hK, hA, hSF, ⟨hR1, hR2, hR3, hR4⟩, hr, hlk⟩ := hC
  obtain ⟨hin, h⟩ := ast_some h
  exact fun H locs ls hl hP hD hS => va_iast hx hb hK hP hD hS 34 0 rfl rfl hin hd (fun H locs hP hD hS => k _ h H locs ls hl hP hD hS)
theorem ald_X2_pool {K : Kx} {cc : ByteArray} {own : String} {g : Gm} {nL d : Nat} {ret : Option FieldType} {Q : State → Prop} {pc : Nat} {lv : List (Nat × Value)} {st : List Value} {σ : St} (hC : Ok K cc own g nL d ret) {i : Int32} {ρ : Type} {o : ρ} {f : Int32 → Option ρ} (hd : decode cc pc = .ok (.iaload, 1)) (h : ald σ 28 24 i f = some o) (k : ∀ v, f v = some o → J K (wX g) nL Q (pc + 1) lv (.int v :: st) σ) : J K (wX g) nL Q (pc) lv (.int i :: .ref (g.1 35) :: st) σ := by
  obtain ⟨p, l, e, R, s, m, args, below, meth, c, D, A, ce, sl⟩ := K
  obtain ⟨hx, hb, hml, hown, hts, hK, hA, hSF, ⟨hR1, hR2, hR3, hR4⟩, hr, hlk⟩ := hC
  obtain ⟨hin, h⟩ := ald_some h
  exact fun H locs ls hl hP hD hS => va_iald hx hb hK hP 35 0 rfl rfl hin hd (k _ h H locs ls hl hP hD hS)
theorem ast_X2_pool {K : Kx} {cc : ByteArray} {own : String} {g : Gm} {nL d : Nat} {ret : Option FieldType} {Q : State → Prop} {pc : Nat} {lv : List (Nat × Value)} {st : List Value} {σ : St} (hC : Ok K cc own g nL d ret) {i x : Int32} {ρ : Type} {o : ρ} {f : St → Option ρ} (hd : decode cc pc = .ok (.iastore, 1)) (h : ast σ 28 24 i x f = some o) (k : ∀ σ2, f σ2 = some o → J K (wX g) nL Q (pc + 1) lv (st) σ2) : J K (wX g) nL Q (pc) lv (.int x :: .int i :: .ref (g.1 35) :: st) σ := by
  obtain ⟨p, l, e, R, s, m, args, below, meth, c, D, A, ce, sl⟩ := K
  obtain ⟨hx, hb, hml, hown, hts, hK, hA, hSF, ⟨hR1, hR2, hR3, hR4⟩, hr, hlk⟩ := hC
  obtain ⟨hin, h⟩ := ast_some h
  exact fun H locs ls hl hP hD hS => va_iast hx hb hK hP hD hS 35 0 rfl rfl hin hd (fun H locs hP hD hS => k _ h H locs ls hl hP hD hS)
theorem ald_X2_longestFirst {K : Kx} {cc : ByteArray} {own : String} {g : Gm} {nL d : Nat} {ret : Option FieldType} {Q : State → Prop} {pc : Nat} {lv : List (Nat × Value)} {st : List Value} {σ : St} (hC : Ok K cc own g nL d ret) {i : Int32} {ρ : Type} {o : ρ} {f : Int32 → Option ρ} (hd : decode cc pc = .ok (.iaload, 1)) (h : ald σ 29 24 i f = some o) (k : ∀ v, f v = some o → J K (wX g) nL Q (pc + 1) lv (.int v :: st) σ) : J K (wX g) nL Q (pc) lv (.int i :: .ref (g.1 36) :: st) σ := by
  obtain ⟨p, l, e, R, s, m, args, below, meth, c, D, A, ce, sl⟩ := K
  obtain ⟨hx, hb, hml, hown, hts, hK, hA, hSF, ⟨hR1, hR2, hR3, hR4⟩, hr, hlk⟩ := hC
  obtain ⟨hin, h⟩ := ald_some h
  exact fun H locs ls hl hP hD hS => va_iald hx hb hK hP 36 0 rfl rfl hin hd (k _ h H locs ls hl hP hD hS)
theorem ast_X2_longestFirst {K : Kx} {cc : ByteArray} {own : String} {g : Gm} {nL d : Nat} {ret : Option FieldType} {Q : State → Prop} {pc : Nat} {lv : List (Nat × Value)} {st : List Value} {σ : St} (hC : Ok K cc own g nL d ret) {i x : Int32} {ρ : Type} {o : ρ} {f : St → Option ρ} (hd : decode cc pc = .ok (.iastore, 1)) (h : ast σ 29 24 i x f = some o) (k : ∀ σ2, f σ2 = some o → J K (wX g) nL Q (pc + 1) lv (st) σ2) : J K (wX g) nL Q (pc) lv (.int x :: .int i :: .ref (g.1 36) :: st) σ := by
  obtain ⟨p, l, e, R, s, m, args, below, meth, c, D, A, ce, sl⟩ := K
  obtain ⟨hx, hb, hml, hown, hts, hK, hA, hSF, ⟨hR1, hR2, hR3, hR4⟩, hr, hlk⟩ := hC
  obtain ⟨hin, h⟩ := ast_some h
  exact fun H locs ls hl hP hD hS => va_iast hx hb hK hP hD hS 36 0 rfl rfl hin hd (fun H locs hP hD hS => k _ h H locs ls hl hP hD hS)
theorem ald_X7_tape {K : Kx} {cc : ByteArray} {own : String} {g : Gm} {nL d : Nat} {ret : Option FieldType} {Q : State → Prop} {pc : Nat} {lv : List (Nat × Value)} {st : List Value} {σ : St} (hC : Ok K cc own g nL d ret) {i : Int32} {ρ : Type} {o : ρ} {f : Int32 → Option ρ} (hd : decode cc pc = .ok (.iaload, 1)) (h : ald σ 0 260 i f = some o) (k : ∀ v, f v = some o → J K (wM g) nL Q (pc + 1) lv (.int v :: st) σ) : J K (wM g) nL Q (pc) lv (.int i :: .ref (g.1 1) :: st) σ := by
  obtain ⟨p, l, e, R, s, m, args, below, meth, c, D, A, ce, sl⟩ := K
  obtain ⟨hx, hb, hml, hown, hts, hK, hA, hSF, ⟨hR1, hR2, hR3, hR4⟩, hr, hlk⟩ := hC
  obtain ⟨hin, h⟩ := ald_some h
  exact fun H locs ls hl hP hD hS => va_iald hx hb hK hP 1 0 rfl rfl hin hd (k _ h H locs ls hl hP hD hS)
theorem ast_X7_tape {K : Kx} {cc : ByteArray} {own : String} {g : Gm} {nL d : Nat} {ret : Option FieldType} {Q : State → Prop} {pc : Nat} {lv : List (Nat × Value)} {st : List Value} {σ : St} (hC : Ok K cc own g nL d ret) {i x : Int32} {ρ : Type} {o : ρ} {f : St → Option ρ} (hd : decode cc pc = .ok (.iastore, 1)) (h : ast σ 0 260 i x f = some o) (k : ∀ σ2, f σ2 = some o → J K (wM g) nL Q (pc + 1) lv (st) σ2) : J K (wM g) nL Q (pc) lv (.int x :: .int i :: .ref (g.1 1) :: st) σ := by
  obtain ⟨p, l, e, R, s, m, args, below, meth, c, D, A, ce, sl⟩ := K
  obtain ⟨hx, hb, hml, hown, hts, hK, hA, hSF, ⟨hR1, hR2, hR3, hR4⟩, hr, hlk⟩ := hC
  obtain ⟨hin, h⟩ := ast_some h
  exact fun H locs ls hl hP hD hS => va_iast hx hb hK hP hD hS 1 0 rfl rfl hin hd (fun H locs hP hD hS => k _ h H locs ls hl hP hD hS)
theorem ald_X7_rule {K : Kx} {cc : ByteArray} {own : String} {g : Gm} {nL d : Nat} {ret : Option FieldType} {Q : State → Prop} {pc : Nat} {lv : List (Nat × Value)} {st : List Value} {σ : St} (hC : Ok K cc own g nL d ret) {i : Int32} {ρ : Type} {o : ρ} {f : Int32 → Option ρ} (hd : decode cc pc = .ok (.iaload, 1)) (h : ald σ 1 5 i f = some o) (k : ∀ v, f v = some o → J K (wM g) nL Q (pc + 1) lv (.int v :: st) σ) : J K (wM g) nL Q (pc) lv (.int i :: .ref (g.1 2) :: st) σ := by
  obtain ⟨p, l, e, R, s, m, args, below, meth, c, D, A, ce, sl⟩ := K
  obtain ⟨hx, hb, hml, hown, hts, hK, hA, hSF, ⟨hR1, hR2, hR3, hR4⟩, hr, hlk⟩ := hC
  obtain ⟨hin, h⟩ := ald_some h
  exact fun H locs ls hl hP hD hS => va_iald hx hb hK hP 2 0 rfl rfl hin hd (k _ h H locs ls hl hP hD hS)
theorem ast_X7_rule {K : Kx} {cc : ByteArray} {own : String} {g : Gm} {nL d : Nat} {ret : Option FieldType} {Q : State → Prop} {pc : Nat} {lv : List (Nat × Value)} {st : List Value} {σ : St} (hC : Ok K cc own g nL d ret) {i x : Int32} {ρ : Type} {o : ρ} {f : St → Option ρ} (hd : decode cc pc = .ok (.iastore, 1)) (h : ast σ 1 5 i x f = some o) (k : ∀ σ2, f σ2 = some o → J K (wM g) nL Q (pc + 1) lv (st) σ2) : J K (wM g) nL Q (pc) lv (.int x :: .int i :: .ref (g.1 2) :: st) σ := by
  obtain ⟨p, l, e, R, s, m, args, below, meth, c, D, A, ce, sl⟩ := K
  obtain ⟨hx, hb, hml, hown, hts, hK, hA, hSF, ⟨hR1, hR2, hR3, hR4⟩, hr, hlk⟩ := hC
  obtain ⟨hin, h⟩ := ast_some h
  exact fun H locs ls hl hP hD hS => va_iast hx hb hK hP hD hS 2 0 rfl rfl hin hd (fun H locs hP hD hS => k _ h H locs ls hl hP hD hS)
theorem ald_X7_usual {K : Kx} {cc : ByteArray} {own : String} {g : Gm} {nL d : Nat} {ret : Option FieldType} {Q : State → Prop} {pc : Nat} {lv : List (Nat × Value)} {st : List Value} {σ : St} (hC : Ok K cc own g nL d ret) {i : Int32} {ρ : Type} {o : ρ} {f : Int32 → Option ρ} (hd : decode cc pc = .ok (.iaload, 1)) (h : ald σ 2 5 i f = some o) (k : ∀ v, f v = some o → J K (wM g) nL Q (pc + 1) lv (.int v :: st) σ) : J K (wM g) nL Q (pc) lv (.int i :: .ref (g.1 3) :: st) σ := by
  obtain ⟨p, l, e, R, s, m, args, below, meth, c, D, A, ce, sl⟩ := K
  obtain ⟨hx, hb, hml, hown, hts, hK, hA, hSF, ⟨hR1, hR2, hR3, hR4⟩, hr, hlk⟩ := hC
  obtain ⟨hin, h⟩ := ald_some h
  exact fun H locs ls hl hP hD hS => va_iald hx hb hK hP 3 0 rfl rfl hin hd (k _ h H locs ls hl hP hD hS)
theorem ast_X7_usual {K : Kx} {cc : ByteArray} {own : String} {g : Gm} {nL d : Nat} {ret : Option FieldType} {Q : State → Prop} {pc : Nat} {lv : List (Nat × Value)} {st : List Value} {σ : St} (hC : Ok K cc own g nL d ret) {i x : Int32} {ρ : Type} {o : ρ} {f : St → Option ρ} (hd : decode cc pc = .ok (.iastore, 1)) (h : ast σ 2 5 i x f = some o) (k : ∀ σ2, f σ2 = some o → J K (wM g) nL Q (pc + 1) lv (st) σ2) : J K (wM g) nL Q (pc) lv (.int x :: .int i :: .ref (g.1 3) :: st) σ := by
  obtain ⟨p, l, e, R, s, m, args, below, meth, c, D, A, ce, sl⟩ := K
  obtain ⟨hx, hb, hml, hown, hts, hK, hA, hSF, ⟨hR1, hR2, hR3, hR4⟩, hr, hlk⟩ := hC
  obtain ⟨hin, h⟩ := ast_some h
  exact fun H locs ls hl hP hD hS => va_iast hx hb hK hP hD hS 3 0 rfl rfl hin hd (fun H locs hP hD hS => k _ h H locs ls hl hP hD hS)
theorem ald_X7_fresh {K : Kx} {cc : ByteArray} {own : String} {g : Gm} {nL d : Nat} {ret : Option FieldType} {Q : State → Prop} {pc : Nat} {lv : List (Nat × Value)} {st : List Value} {σ : St} (hC : Ok K cc own g nL d ret) {i : Int32} {ρ : Type} {o : ρ} {f : Int32 → Option ρ} (hd : decode cc pc = .ok (.iaload, 1)) (h : ald σ 3 5 i f = some o) (k : ∀ v, f v = some o → J K (wM g) nL Q (pc + 1) lv (.int v :: st) σ) : J K (wM g) nL Q (pc) lv (.int i :: .ref (g.1 4) :: st) σ := by
  obtain ⟨p, l, e, R, s, m, args, below, meth, c, D, A, ce, sl⟩ := K
  obtain ⟨hx, hb, hml, hown, hts, hK, hA, hSF, ⟨hR1, hR2, hR3, hR4⟩, hr, hlk⟩ := hC
  obtain ⟨hin, h⟩ := ald_some h
  exact fun H locs ls hl hP hD hS => va_iald hx hb hK hP 4 0 rfl rfl hin hd (k _ h H locs ls hl hP hD hS)
theorem ast_X7_fresh {K : Kx} {cc : ByteArray} {own : String} {g : Gm} {nL d : Nat} {ret : Option FieldType} {Q : State → Prop} {pc : Nat} {lv : List (Nat × Value)} {st : List Value} {σ : St} (hC : Ok K cc own g nL d ret) {i x : Int32} {ρ : Type} {o : ρ} {f : St → Option ρ} (hd : decode cc pc = .ok (.iastore, 1)) (h : ast σ 3 5 i x f = some o) (k : ∀ σ2, f σ2 = some o → J K (wM g) nL Q (pc + 1) lv (st) σ2) : J K (wM g) nL Q (pc) lv (.int x :: .int i :: .ref (g.1 4) :: st) σ := by
  obtain ⟨p, l, e, R, s, m, args, below, meth, c, D, A, ce, sl⟩ := K
  obtain ⟨hx, hb, hml, hown, hts, hK, hA, hSF, ⟨hR1, hR2, hR3, hR4⟩, hr, hlk⟩ := hC
  obtain ⟨hin, h⟩ := ast_some h
  exact fun H locs ls hl hP hD hS => va_iast hx hb hK hP hD hS 4 0 rfl rfl hin hd (fun H locs hP hD hS => k _ h H locs ls hl hP hD hS)
theorem ald_X7_low {K : Kx} {cc : ByteArray} {own : String} {g : Gm} {nL d : Nat} {ret : Option FieldType} {Q : State → Prop} {pc : Nat} {lv : List (Nat × Value)} {st : List Value} {σ : St} (hC : Ok K cc own g nL d ret) {i : Int32} {ρ : Type} {o : ρ} {f : Int32 → Option ρ} (hd : decode cc pc = .ok (.iaload, 1)) (h : ald σ 4 5 i f = some o) (k : ∀ v, f v = some o → J K (wM g) nL Q (pc + 1) lv (.int v :: st) σ) : J K (wM g) nL Q (pc) lv (.int i :: .ref (g.1 5) :: st) σ := by
  obtain ⟨p, l, e, R, s, m, args, below, meth, c, D, A, ce, sl⟩ := K
  obtain ⟨hx, hb, hml, hown, hts, hK, hA, hSF, ⟨hR1, hR2, hR3, hR4⟩, hr, hlk⟩ := hC
  obtain ⟨hin, h⟩ := ald_some h
  exact fun H locs ls hl hP hD hS => va_iald hx hb hK hP 5 0 rfl rfl hin hd (k _ h H locs ls hl hP hD hS)
theorem ast_X7_low {K : Kx} {cc : ByteArray} {own : String} {g : Gm} {nL d : Nat} {ret : Option FieldType} {Q : State → Prop} {pc : Nat} {lv : List (Nat × Value)} {st : List Value} {σ : St} (hC : Ok K cc own g nL d ret) {i x : Int32} {ρ : Type} {o : ρ} {f : St → Option ρ} (hd : decode cc pc = .ok (.iastore, 1)) (h : ast σ 4 5 i x f = some o) (k : ∀ σ2, f σ2 = some o → J K (wM g) nL Q (pc + 1) lv (st) σ2) : J K (wM g) nL Q (pc) lv (.int x :: .int i :: .ref (g.1 5) :: st) σ := by
  obtain ⟨p, l, e, R, s, m, args, below, meth, c, D, A, ce, sl⟩ := K
  obtain ⟨hx, hb, hml, hown, hts, hK, hA, hSF, ⟨hR1, hR2, hR3, hR4⟩, hr, hlk⟩ := hC
  obtain ⟨hin, h⟩ := ast_some h
  exact fun H locs ls hl hP hD hS => va_iast hx hb hK hP hD hS 5 0 rfl rfl hin hd (fun H locs hP hD hS => k _ h H locs ls hl hP hD hS)
theorem ald_X7_high {K : Kx} {cc : ByteArray} {own : String} {g : Gm} {nL d : Nat} {ret : Option FieldType} {Q : State → Prop} {pc : Nat} {lv : List (Nat × Value)} {st : List Value} {σ : St} (hC : Ok K cc own g nL d ret) {i : Int32} {ρ : Type} {o : ρ} {f : Int32 → Option ρ} (hd : decode cc pc = .ok (.iaload, 1)) (h : ald σ 5 5 i f = some o) (k : ∀ v, f v = some o → J K (wM g) nL Q (pc + 1) lv (.int v :: st) σ) : J K (wM g) nL Q (pc) lv (.int i :: .ref (g.1 6) :: st) σ := by
  obtain ⟨p, l, e, R, s, m, args, below, meth, c, D, A, ce, sl⟩ := K
  obtain ⟨hx, hb, hml, hown, hts, hK, hA, hSF, ⟨hR1, hR2, hR3, hR4⟩, hr, hlk⟩ := hC
  obtain ⟨hin, h⟩ := ald_some h
  exact fun H locs ls hl hP hD hS => va_iald hx hb hK hP 6 0 rfl rfl hin hd (k _ h H locs ls hl hP hD hS)
theorem ast_X7_high {K : Kx} {cc : ByteArray} {own : String} {g : Gm} {nL d : Nat} {ret : Option FieldType} {Q : State → Prop} {pc : Nat} {lv : List (Nat × Value)} {st : List Value} {σ : St} (hC : Ok K cc own g nL d ret) {i x : Int32} {ρ : Type} {o : ρ} {f : St → Option ρ} (hd : decode cc pc = .ok (.iastore, 1)) (h : ast σ 5 5 i x f = some o) (k : ∀ σ2, f σ2 = some o → J K (wM g) nL Q (pc + 1) lv (st) σ2) : J K (wM g) nL Q (pc) lv (.int x :: .int i :: .ref (g.1 6) :: st) σ := by
  obtain ⟨p, l, e, R, s, m, args, below, meth, c, D, A, ce, sl⟩ := K
  obtain ⟨hx, hb, hml, hown, hts, hK, hA, hSF, ⟨hR1, hR2, hR3, hR4⟩, hr, hlk⟩ := hC
  obtain ⟨hin, h⟩ := ast_some h
  exact fun H locs ls hl hP hD hS => va_iast hx hb hK hP hD hS 6 0 rfl rfl hin hd (fun H locs hP hD hS => k _ h H locs ls hl hP hD hS)
theorem ald_X7_many {K : Kx} {cc : ByteArray} {own : String} {g : Gm} {nL d : Nat} {ret : Option FieldType} {Q : State → Prop} {pc : Nat} {lv : List (Nat × Value)} {st : List Value} {σ : St} (hC : Ok K cc own g nL d ret) {i : Int32} {ρ : Type} {o : ρ} {f : Int32 → Option ρ} (hd : decode cc pc = .ok (.iaload, 1)) (h : ald σ 6 7 i f = some o) (k : ∀ v, f v = some o → J K (wM g) nL Q (pc + 1) lv (.int v :: st) σ) : J K (wM g) nL Q (pc) lv (.int i :: .ref (g.1 7) :: st) σ := by
  obtain ⟨p, l, e, R, s, m, args, below, meth, c, D, A, ce, sl⟩ := K
  obtain ⟨hx, hb, hml, hown, hts, hK, hA, hSF, ⟨hR1, hR2, hR3, hR4⟩, hr, hlk⟩ := hC
  obtain ⟨hin, h⟩ := ald_some h
  exact fun H locs ls hl hP hD hS => va_iald hx hb hK hP 7 0 rfl rfl hin hd (k _ h H locs ls hl hP hD hS)
theorem ast_X7_many {K : Kx} {cc : ByteArray} {own : String} {g : Gm} {nL d : Nat} {ret : Option FieldType} {Q : State → Prop} {pc : Nat} {lv : List (Nat × Value)} {st : List Value} {σ : St} (hC : Ok K cc own g nL d ret) {i x : Int32} {ρ : Type} {o : ρ} {f : St → Option ρ} (hd : decode cc pc = .ok (.iastore, 1)) (h : ast σ 6 7 i x f = some o) (k : ∀ σ2, f σ2 = some o → J K (wM g) nL Q (pc + 1) lv (st) σ2) : J K (wM g) nL Q (pc) lv (.int x :: .int i :: .ref (g.1 7) :: st) σ := by
  obtain ⟨p, l, e, R, s, m, args, below, meth, c, D, A, ce, sl⟩ := K
  obtain ⟨hx, hb, hml, hown, hts, hK, hA, hSF, ⟨hR1, hR2, hR3, hR4⟩, hr, hlk⟩ := hC
  obtain ⟨hin, h⟩ := ast_some h
  exact fun H locs ls hl hP hD hS => va_iast hx hb hK hP hD hS 7 0 rfl rfl hin hd (fun H locs hP hD hS => k _ h H locs ls hl hP hD hS)
theorem ald_X7_seconds {K : Kx} {cc : ByteArray} {own : String} {g : Gm} {nL d : Nat} {ret : Option FieldType} {Q : State → Prop} {pc : Nat} {lv : List (Nat × Value)} {st : List Value} {σ : St} (hC : Ok K cc own g nL d ret) {i : Int32} {ρ : Type} {o : ρ} {f : Int32 → Option ρ} (hd : decode cc pc = .ok (.iaload, 1)) (h : ald σ 7 56 i f = some o) (k : ∀ v, f v = some o → J K (wM g) nL Q (pc + 1) lv (.int v :: st) σ) : J K (wM g) nL Q (pc) lv (.int i :: .ref (g.1 8) :: st) σ := by
  obtain ⟨p, l, e, R, s, m, args, below, meth, c, D, A, ce, sl⟩ := K
  obtain ⟨hx, hb, hml, hown, hts, hK, hA, hSF, ⟨hR1, hR2, hR3, hR4⟩, hr, hlk⟩ := hC
  obtain ⟨hin, h⟩ := ald_some h
  exact fun H locs ls hl hP hD hS => va_iald hx hb hK hP 8 0 rfl rfl hin hd (k _ h H locs ls hl hP hD hS)
theorem ast_X7_seconds {K : Kx} {cc : ByteArray} {own : String} {g : Gm} {nL d : Nat} {ret : Option FieldType} {Q : State → Prop} {pc : Nat} {lv : List (Nat × Value)} {st : List Value} {σ : St} (hC : Ok K cc own g nL d ret) {i x : Int32} {ρ : Type} {o : ρ} {f : St → Option ρ} (hd : decode cc pc = .ok (.iastore, 1)) (h : ast σ 7 56 i x f = some o) (k : ∀ σ2, f σ2 = some o → J K (wM g) nL Q (pc + 1) lv (st) σ2) : J K (wM g) nL Q (pc) lv (.int x :: .int i :: .ref (g.1 8) :: st) σ := by
  obtain ⟨p, l, e, R, s, m, args, below, meth, c, D, A, ce, sl⟩ := K
  obtain ⟨hx, hb, hml, hown, hts, hK, hA, hSF, ⟨hR1, hR2, hR3, hR4⟩, hr, hlk⟩ := hC
  obtain ⟨hin, h⟩ := ast_some h
  exact fun H locs ls hl hP hD hS => va_iast hx hb hK hP hD hS 8 0 rfl rfl hin hd (fun H locs hP hD hS => k _ h H locs ls hl hP hD hS)
theorem ald_X7_mood {K : Kx} {cc : ByteArray} {own : String} {g : Gm} {nL d : Nat} {ret : Option FieldType} {Q : State → Prop} {pc : Nat} {lv : List (Nat × Value)} {st : List Value} {σ : St} (hC : Ok K cc own g nL d ret) {i : Int32} {ρ : Type} {o : ρ} {f : Int32 → Option ρ} (hd : decode cc pc = .ok (.iaload, 1)) (h : ald σ 8 56 i f = some o) (k : ∀ v, f v = some o → J K (wM g) nL Q (pc + 1) lv (.int v :: st) σ) : J K (wM g) nL Q (pc) lv (.int i :: .ref (g.1 9) :: st) σ := by
  obtain ⟨p, l, e, R, s, m, args, below, meth, c, D, A, ce, sl⟩ := K
  obtain ⟨hx, hb, hml, hown, hts, hK, hA, hSF, ⟨hR1, hR2, hR3, hR4⟩, hr, hlk⟩ := hC
  obtain ⟨hin, h⟩ := ald_some h
  exact fun H locs ls hl hP hD hS => va_iald hx hb hK hP 9 0 rfl rfl hin hd (k _ h H locs ls hl hP hD hS)
theorem ast_X7_mood {K : Kx} {cc : ByteArray} {own : String} {g : Gm} {nL d : Nat} {ret : Option FieldType} {Q : State → Prop} {pc : Nat} {lv : List (Nat × Value)} {st : List Value} {σ : St} (hC : Ok K cc own g nL d ret) {i x : Int32} {ρ : Type} {o : ρ} {f : St → Option ρ} (hd : decode cc pc = .ok (.iastore, 1)) (h : ast σ 8 56 i x f = some o) (k : ∀ σ2, f σ2 = some o → J K (wM g) nL Q (pc + 1) lv (st) σ2) : J K (wM g) nL Q (pc) lv (.int x :: .int i :: .ref (g.1 9) :: st) σ := by
  obtain ⟨p, l, e, R, s, m, args, below, meth, c, D, A, ce, sl⟩ := K
  obtain ⟨hx, hb, hml, hown, hts, hK, hA, hSF, ⟨hR1, hR2, hR3, hR4⟩, hr, hlk⟩ := hC
  obtain ⟨hin, h⟩ := ast_some h
  exact fun H locs ls hl hP hD hS => va_iast hx hb hK hP hD hS 9 0 rfl rfl hin hd (fun H locs hP hD hS => k _ h H locs ls hl hP hD hS)
theorem ald_X7_fresh0 {K : Kx} {cc : ByteArray} {own : String} {g : Gm} {nL d : Nat} {ret : Option FieldType} {Q : State → Prop} {pc : Nat} {lv : List (Nat × Value)} {st : List Value} {σ : St} (hC : Ok K cc own g nL d ret) {i : Int32} {ρ : Type} {o : ρ} {f : Int32 → Option ρ} (hd : decode cc pc = .ok (.iaload, 1)) (h : ald σ 9 56 i f = some o) (k : ∀ v, f v = some o → J K (wM g) nL Q (pc + 1) lv (.int v :: st) σ) : J K (wM g) nL Q (pc) lv (.int i :: .ref (g.1 10) :: st) σ := by
  obtain ⟨p, l, e, R, s, m, args, below, meth, c, D, A, ce, sl⟩ := K
  obtain ⟨hx, hb, hml, hown, hts, hK, hA, hSF, ⟨hR1, hR2, hR3, hR4⟩, hr, hlk⟩ := hC
  obtain ⟨hin, h⟩ := ald_some h
  exact fun H locs ls hl hP hD hS => va_iald hx hb hK hP 10 0 rfl rfl hin hd (k _ h H locs ls hl hP hD hS)
theorem ast_X7_fresh0 {K : Kx} {cc : ByteArray} {own : String} {g : Gm} {nL d : Nat} {ret : Option FieldType} {Q : State → Prop} {pc : Nat} {lv : List (Nat × Value)} {st : List Value} {σ : St} (hC : Ok K cc own g nL d ret) {i x : Int32} {ρ : Type} {o : ρ} {f : St → Option ρ} (hd : decode cc pc = .ok (.iastore, 1)) (h : ast σ 9 56 i x f = some o) (k : ∀ σ2, f σ2 = some o → J K (wM g) nL Q (pc + 1) lv (st) σ2) : J K (wM g) nL Q (pc) lv (.int x :: .int i :: .ref (g.1 10) :: st) σ := by
  obtain ⟨p, l, e, R, s, m, args, below, meth, c, D, A, ce, sl⟩ := K
  obtain ⟨hx, hb, hml, hown, hts, hK, hA, hSF, ⟨hR1, hR2, hR3, hR4⟩, hr, hlk⟩ := hC
  obtain ⟨hin, h⟩ := ast_some h
  exact fun H locs ls hl hP hD hS => va_iast hx hb hK hP hD hS 10 0 rfl rfl hin hd (fun H locs hP hD hS => k _ h H locs ls hl hP hD hS)
theorem ald_X7_lasts {K : Kx} {cc : ByteArray} {own : String} {g : Gm} {nL d : Nat} {ret : Option FieldType} {Q : State → Prop} {pc : Nat} {lv : List (Nat × Value)} {st : List Value} {σ : St} (hC : Ok K cc own g nL d ret) {i : Int32} {ρ : Type} {o : ρ} {f : Int32 → Option ρ} (hd : decode cc pc = .ok (.iaload, 1)) (h : ald σ 10 24 i f = some o) (k : ∀ v, f v = some o → J K (wM g) nL Q (pc + 1) lv (.int v :: st) σ) : J K (wM g) nL Q (pc) lv (.int i :: .ref (g.1 11) :: st) σ := by
  obtain ⟨p, l, e, R, s, m, args, below, meth, c, D, A, ce, sl⟩ := K
  obtain ⟨hx, hb, hml, hown, hts, hK, hA, hSF, ⟨hR1, hR2, hR3, hR4⟩, hr, hlk⟩ := hC
  obtain ⟨hin, h⟩ := ald_some h
  exact fun H locs ls hl hP hD hS => va_iald hx hb hK hP 11 0 rfl rfl hin hd (k _ h H locs ls hl hP hD hS)
theorem ast_X7_lasts {K : Kx} {cc : ByteArray} {own : String} {g : Gm} {nL d : Nat} {ret : Option FieldType} {Q : State → Prop} {pc : Nat} {lv : List (Nat × Value)} {st : List Value} {σ : St} (hC : Ok K cc own g nL d ret) {i x : Int32} {ρ : Type} {o : ρ} {f : St → Option ρ} (hd : decode cc pc = .ok (.iastore, 1)) (h : ast σ 10 24 i x f = some o) (k : ∀ σ2, f σ2 = some o → J K (wM g) nL Q (pc + 1) lv (st) σ2) : J K (wM g) nL Q (pc) lv (.int x :: .int i :: .ref (g.1 11) :: st) σ := by
  obtain ⟨p, l, e, R, s, m, args, below, meth, c, D, A, ce, sl⟩ := K
  obtain ⟨hx, hb, hml, hown, hts, hK, hA, hSF, ⟨hR1, hR2, hR3, hR4⟩, hr, hlk⟩ := hC
  obtain ⟨hin, h⟩ := ast_some h
  exact fun H locs ls hl hP hD hS => va_iast hx hb hK hP hD hS 11 0 rfl rfl hin hd (fun H locs hP hD hS => k _ h H locs ls hl hP hD hS)
theorem ald_X7_artist {K : Kx} {cc : ByteArray} {own : String} {g : Gm} {nL d : Nat} {ret : Option FieldType} {Q : State → Prop} {pc : Nat} {lv : List (Nat × Value)} {st : List Value} {σ : St} (hC : Ok K cc own g nL d ret) {i : Int32} {ρ : Type} {o : ρ} {f : Int32 → Option ρ} (hd : decode cc pc = .ok (.iaload, 1)) (h : ald σ 11 24 i f = some o) (k : ∀ v, f v = some o → J K (wM g) nL Q (pc + 1) lv (.int v :: st) σ) : J K (wM g) nL Q (pc) lv (.int i :: .ref (g.1 12) :: st) σ := by
  obtain ⟨p, l, e, R, s, m, args, below, meth, c, D, A, ce, sl⟩ := K
  obtain ⟨hx, hb, hml, hown, hts, hK, hA, hSF, ⟨hR1, hR2, hR3, hR4⟩, hr, hlk⟩ := hC
  obtain ⟨hin, h⟩ := ald_some h
  exact fun H locs ls hl hP hD hS => va_iald hx hb hK hP 12 0 rfl rfl hin hd (k _ h H locs ls hl hP hD hS)
theorem ast_X7_artist {K : Kx} {cc : ByteArray} {own : String} {g : Gm} {nL d : Nat} {ret : Option FieldType} {Q : State → Prop} {pc : Nat} {lv : List (Nat × Value)} {st : List Value} {σ : St} (hC : Ok K cc own g nL d ret) {i x : Int32} {ρ : Type} {o : ρ} {f : St → Option ρ} (hd : decode cc pc = .ok (.iastore, 1)) (h : ast σ 11 24 i x f = some o) (k : ∀ σ2, f σ2 = some o → J K (wM g) nL Q (pc + 1) lv (st) σ2) : J K (wM g) nL Q (pc) lv (.int x :: .int i :: .ref (g.1 12) :: st) σ := by
  obtain ⟨p, l, e, R, s, m, args, below, meth, c, D, A, ce, sl⟩ := K
  obtain ⟨hx, hb, hml, hown, hts, hK, hA, hSF, ⟨hR1, hR2, hR3, hR4⟩, hr, hlk⟩ := hC
  obtain ⟨hin, h⟩ := ast_some h
  exact fun H locs ls hl hP hD hS => va_iast hx hb hK hP hD hS 12 0 rfl rfl hin hd (fun H locs hP hD hS => k _ h H locs ls hl hP hD hS)
theorem ald_X7_key {K : Kx} {cc : ByteArray} {own : String} {g : Gm} {nL d : Nat} {ret : Option FieldType} {Q : State → Prop} {pc : Nat} {lv : List (Nat × Value)} {st : List Value} {σ : St} (hC : Ok K cc own g nL d ret) {i : Int32} {ρ : Type} {o : ρ} {f : Int32 → Option ρ} (hd : decode cc pc = .ok (.iaload, 1)) (h : ald σ 12 24 i f = some o) (k : ∀ v, f v = some o → J K (wM g) nL Q (pc + 1) lv (.int v :: st) σ) : J K (wM g) nL Q (pc) lv (.int i :: .ref (g.1 13) :: st) σ := by
  obtain ⟨p, l, e, R, s, m, args, below, meth, c, D, A, ce, sl⟩ := K
  obtain ⟨hx, hb, hml, hown, hts, hK, hA, hSF, ⟨hR1, hR2, hR3, hR4⟩, hr, hlk⟩ := hC
  obtain ⟨hin, h⟩ := ald_some h
  exact fun H locs ls hl hP hD hS => va_iald hx hb hK hP 13 0 rfl rfl hin hd (k _ h H locs ls hl hP hD hS)
theorem ast_X7_key {K : Kx} {cc : ByteArray} {own : String} {g : Gm} {nL d : Nat} {ret : Option FieldType} {Q : State → Prop} {pc : Nat} {lv : List (Nat × Value)} {st : List Value} {σ : St} (hC : Ok K cc own g nL d ret) {i x : Int32} {ρ : Type} {o : ρ} {f : St → Option ρ} (hd : decode cc pc = .ok (.iastore, 1)) (h : ast σ 12 24 i x f = some o) (k : ∀ σ2, f σ2 = some o → J K (wM g) nL Q (pc + 1) lv (st) σ2) : J K (wM g) nL Q (pc) lv (.int x :: .int i :: .ref (g.1 13) :: st) σ := by
  obtain ⟨p, l, e, R, s, m, args, below, meth, c, D, A, ce, sl⟩ := K
  obtain ⟨hx, hb, hml, hown, hts, hK, hA, hSF, ⟨hR1, hR2, hR3, hR4⟩, hr, hlk⟩ := hC
  obtain ⟨hin, h⟩ := ast_some h
  exact fun H locs ls hl hP hD hS => va_iast hx hb hK hP hD hS 13 0 rfl rfl hin hd (fun H locs hP hD hS => k _ h H locs ls hl hP hD hS)
theorem ald_X7_songMood {K : Kx} {cc : ByteArray} {own : String} {g : Gm} {nL d : Nat} {ret : Option FieldType} {Q : State → Prop} {pc : Nat} {lv : List (Nat × Value)} {st : List Value} {σ : St} (hC : Ok K cc own g nL d ret) {i : Int32} {ρ : Type} {o : ρ} {f : Int32 → Option ρ} (hd : decode cc pc = .ok (.iaload, 1)) (h : ald σ 13 24 i f = some o) (k : ∀ v, f v = some o → J K (wM g) nL Q (pc + 1) lv (.int v :: st) σ) : J K (wM g) nL Q (pc) lv (.int i :: .ref (g.1 14) :: st) σ := by
  obtain ⟨p, l, e, R, s, m, args, below, meth, c, D, A, ce, sl⟩ := K
  obtain ⟨hx, hb, hml, hown, hts, hK, hA, hSF, ⟨hR1, hR2, hR3, hR4⟩, hr, hlk⟩ := hC
  obtain ⟨hin, h⟩ := ald_some h
  exact fun H locs ls hl hP hD hS => va_iald hx hb hK hP 14 0 rfl rfl hin hd (k _ h H locs ls hl hP hD hS)
theorem ast_X7_songMood {K : Kx} {cc : ByteArray} {own : String} {g : Gm} {nL d : Nat} {ret : Option FieldType} {Q : State → Prop} {pc : Nat} {lv : List (Nat × Value)} {st : List Value} {σ : St} (hC : Ok K cc own g nL d ret) {i x : Int32} {ρ : Type} {o : ρ} {f : St → Option ρ} (hd : decode cc pc = .ok (.iastore, 1)) (h : ast σ 13 24 i x f = some o) (k : ∀ σ2, f σ2 = some o → J K (wM g) nL Q (pc + 1) lv (st) σ2) : J K (wM g) nL Q (pc) lv (.int x :: .int i :: .ref (g.1 14) :: st) σ := by
  obtain ⟨p, l, e, R, s, m, args, below, meth, c, D, A, ce, sl⟩ := K
  obtain ⟨hx, hb, hml, hown, hts, hK, hA, hSF, ⟨hR1, hR2, hR3, hR4⟩, hr, hlk⟩ := hC
  obtain ⟨hin, h⟩ := ast_some h
  exact fun H locs ls hl hP hD hS => va_iast hx hb hK hP hD hS 14 0 rfl rfl hin hd (fun H locs hP hD hS => k _ h H locs ls hl hP hD hS)
theorem ald_X7_votes {K : Kx} {cc : ByteArray} {own : String} {g : Gm} {nL d : Nat} {ret : Option FieldType} {Q : State → Prop} {pc : Nat} {lv : List (Nat × Value)} {st : List Value} {σ : St} (hC : Ok K cc own g nL d ret) {i : Int32} {ρ : Type} {o : ρ} {f : Int32 → Option ρ} (hd : decode cc pc = .ok (.iaload, 1)) (h : ald σ 14 24 i f = some o) (k : ∀ v, f v = some o → J K (wM g) nL Q (pc + 1) lv (.int v :: st) σ) : J K (wM g) nL Q (pc) lv (.int i :: .ref (g.1 15) :: st) σ := by
  obtain ⟨p, l, e, R, s, m, args, below, meth, c, D, A, ce, sl⟩ := K
  obtain ⟨hx, hb, hml, hown, hts, hK, hA, hSF, ⟨hR1, hR2, hR3, hR4⟩, hr, hlk⟩ := hC
  obtain ⟨hin, h⟩ := ald_some h
  exact fun H locs ls hl hP hD hS => va_iald hx hb hK hP 15 0 rfl rfl hin hd (k _ h H locs ls hl hP hD hS)
theorem ast_X7_votes {K : Kx} {cc : ByteArray} {own : String} {g : Gm} {nL d : Nat} {ret : Option FieldType} {Q : State → Prop} {pc : Nat} {lv : List (Nat × Value)} {st : List Value} {σ : St} (hC : Ok K cc own g nL d ret) {i x : Int32} {ρ : Type} {o : ρ} {f : St → Option ρ} (hd : decode cc pc = .ok (.iastore, 1)) (h : ast σ 14 24 i x f = some o) (k : ∀ σ2, f σ2 = some o → J K (wM g) nL Q (pc + 1) lv (st) σ2) : J K (wM g) nL Q (pc) lv (.int x :: .int i :: .ref (g.1 15) :: st) σ := by
  obtain ⟨p, l, e, R, s, m, args, below, meth, c, D, A, ce, sl⟩ := K
  obtain ⟨hx, hb, hml, hown, hts, hK, hA, hSF, ⟨hR1, hR2, hR3, hR4⟩, hr, hlk⟩ := hC
  obtain ⟨hin, h⟩ := ast_some h
  exact fun H locs ls hl hP hD hS => va_iast hx hb hK hP hD hS 15 0 rfl rfl hin hd (fun H locs hP hD hS => k _ h H locs ls hl hP hD hS)
theorem ald_X7_open {K : Kx} {cc : ByteArray} {own : String} {g : Gm} {nL d : Nat} {ret : Option FieldType} {Q : State → Prop} {pc : Nat} {lv : List (Nat × Value)} {st : List Value} {σ : St} (hC : Ok K cc own g nL d ret) {i : Int32} {ρ : Type} {o : ρ} {f : Int32 → Option ρ} (hd : decode cc pc = .ok (.iaload, 1)) (h : ald σ 15 24 i f = some o) (k : ∀ v, f v = some o → J K (wM g) nL Q (pc + 1) lv (.int v :: st) σ) : J K (wM g) nL Q (pc) lv (.int i :: .ref (g.1 16) :: st) σ := by
  obtain ⟨p, l, e, R, s, m, args, below, meth, c, D, A, ce, sl⟩ := K
  obtain ⟨hx, hb, hml, hown, hts, hK, hA, hSF, ⟨hR1, hR2, hR3, hR4⟩, hr, hlk⟩ := hC
  obtain ⟨hin, h⟩ := ald_some h
  exact fun H locs ls hl hP hD hS => va_iald hx hb hK hP 16 0 rfl rfl hin hd (k _ h H locs ls hl hP hD hS)
theorem ast_X7_open {K : Kx} {cc : ByteArray} {own : String} {g : Gm} {nL d : Nat} {ret : Option FieldType} {Q : State → Prop} {pc : Nat} {lv : List (Nat × Value)} {st : List Value} {σ : St} (hC : Ok K cc own g nL d ret) {i x : Int32} {ρ : Type} {o : ρ} {f : St → Option ρ} (hd : decode cc pc = .ok (.iastore, 1)) (h : ast σ 15 24 i x f = some o) (k : ∀ σ2, f σ2 = some o → J K (wM g) nL Q (pc + 1) lv (st) σ2) : J K (wM g) nL Q (pc) lv (.int x :: .int i :: .ref (g.1 16) :: st) σ := by
  obtain ⟨p, l, e, R, s, m, args, below, meth, c, D, A, ce, sl⟩ := K
  obtain ⟨hx, hb, hml, hown, hts, hK, hA, hSF, ⟨hR1, hR2, hR3, hR4⟩, hr, hlk⟩ := hC
  obtain ⟨hin, h⟩ := ast_some h
  exact fun H locs ls hl hP hD hS => va_iast hx hb hK hP hD hS 16 0 rfl rfl hin hd (fun H locs hP hD hS => k _ h H locs ls hl hP hD hS)
theorem ald_X7_done {K : Kx} {cc : ByteArray} {own : String} {g : Gm} {nL d : Nat} {ret : Option FieldType} {Q : State → Prop} {pc : Nat} {lv : List (Nat × Value)} {st : List Value} {σ : St} (hC : Ok K cc own g nL d ret) {i : Int32} {ρ : Type} {o : ρ} {f : Int32 → Option ρ} (hd : decode cc pc = .ok (.iaload, 1)) (h : ald σ 16 24 i f = some o) (k : ∀ v, f v = some o → J K (wM g) nL Q (pc + 1) lv (.int v :: st) σ) : J K (wM g) nL Q (pc) lv (.int i :: .ref (g.1 17) :: st) σ := by
  obtain ⟨p, l, e, R, s, m, args, below, meth, c, D, A, ce, sl⟩ := K
  obtain ⟨hx, hb, hml, hown, hts, hK, hA, hSF, ⟨hR1, hR2, hR3, hR4⟩, hr, hlk⟩ := hC
  obtain ⟨hin, h⟩ := ald_some h
  exact fun H locs ls hl hP hD hS => va_iald hx hb hK hP 17 0 rfl rfl hin hd (k _ h H locs ls hl hP hD hS)
theorem ast_X7_done {K : Kx} {cc : ByteArray} {own : String} {g : Gm} {nL d : Nat} {ret : Option FieldType} {Q : State → Prop} {pc : Nat} {lv : List (Nat × Value)} {st : List Value} {σ : St} (hC : Ok K cc own g nL d ret) {i x : Int32} {ρ : Type} {o : ρ} {f : St → Option ρ} (hd : decode cc pc = .ok (.iastore, 1)) (h : ast σ 16 24 i x f = some o) (k : ∀ σ2, f σ2 = some o → J K (wM g) nL Q (pc + 1) lv (st) σ2) : J K (wM g) nL Q (pc) lv (.int x :: .int i :: .ref (g.1 17) :: st) σ := by
  obtain ⟨p, l, e, R, s, m, args, below, meth, c, D, A, ce, sl⟩ := K
  obtain ⟨hx, hb, hml, hown, hts, hK, hA, hSF, ⟨hR1, hR2, hR3, hR4⟩, hr, hlk⟩ := hC
  obtain ⟨hin, h⟩ := ast_some h
  exact fun H locs ls hl hP hD hS => va_iast hx hb hK hP hD hS 17 0 rfl rfl hin hd (fun H locs hP hD hS => k _ h H locs ls hl hP hD hS)
theorem ald_X7_vote {K : Kx} {cc : ByteArray} {own : String} {g : Gm} {nL d : Nat} {ret : Option FieldType} {Q : State → Prop} {pc : Nat} {lv : List (Nat × Value)} {st : List Value} {σ : St} (hC : Ok K cc own g nL d ret) {i : Int32} {ρ : Type} {o : ρ} {f : Int32 → Option ρ} (hd : decode cc pc = .ok (.iaload, 1)) (h : ald σ 17 240 i f = some o) (k : ∀ v, f v = some o → J K (wM g) nL Q (pc + 1) lv (.int v :: st) σ) : J K (wM g) nL Q (pc) lv (.int i :: .ref (g.1 18) :: st) σ := by
  obtain ⟨p, l, e, R, s, m, args, below, meth, c, D, A, ce, sl⟩ := K
  obtain ⟨hx, hb, hml, hown, hts, hK, hA, hSF, ⟨hR1, hR2, hR3, hR4⟩, hr, hlk⟩ := hC
  obtain ⟨hin, h⟩ := ald_some h
  exact fun H locs ls hl hP hD hS => va_iald hx hb hK hP 18 0 rfl rfl hin hd (k _ h H locs ls hl hP hD hS)
theorem ast_X7_vote {K : Kx} {cc : ByteArray} {own : String} {g : Gm} {nL d : Nat} {ret : Option FieldType} {Q : State → Prop} {pc : Nat} {lv : List (Nat × Value)} {st : List Value} {σ : St} (hC : Ok K cc own g nL d ret) {i x : Int32} {ρ : Type} {o : ρ} {f : St → Option ρ} (hd : decode cc pc = .ok (.iastore, 1)) (h : ast σ 17 240 i x f = some o) (k : ∀ σ2, f σ2 = some o → J K (wM g) nL Q (pc + 1) lv (st) σ2) : J K (wM g) nL Q (pc) lv (.int x :: .int i :: .ref (g.1 18) :: st) σ := by
  obtain ⟨p, l, e, R, s, m, args, below, meth, c, D, A, ce, sl⟩ := K
  obtain ⟨hx, hb, hml, hown, hts, hK, hA, hSF, ⟨hR1, hR2, hR3, hR4⟩, hr, hlk⟩ := hC
  obtain ⟨hin, h⟩ := ast_some h
  exact fun H locs ls hl hP hD hS => va_iast hx hb hK hP hD hS 18 0 rfl rfl hin hd (fun H locs hP hD hS => k _ h H locs ls hl hP hD hS)
theorem ald_X7_heat {K : Kx} {cc : ByteArray} {own : String} {g : Gm} {nL d : Nat} {ret : Option FieldType} {Q : State → Prop} {pc : Nat} {lv : List (Nat × Value)} {st : List Value} {σ : St} (hC : Ok K cc own g nL d ret) {i : Int32} {ρ : Type} {o : ρ} {f : Int32 → Option ρ} (hd : decode cc pc = .ok (.iaload, 1)) (h : ald σ 18 24 i f = some o) (k : ∀ v, f v = some o → J K (wM g) nL Q (pc + 1) lv (.int v :: st) σ) : J K (wM g) nL Q (pc) lv (.int i :: .ref (g.1 19) :: st) σ := by
  obtain ⟨p, l, e, R, s, m, args, below, meth, c, D, A, ce, sl⟩ := K
  obtain ⟨hx, hb, hml, hown, hts, hK, hA, hSF, ⟨hR1, hR2, hR3, hR4⟩, hr, hlk⟩ := hC
  obtain ⟨hin, h⟩ := ald_some h
  exact fun H locs ls hl hP hD hS => va_iald hx hb hK hP 19 0 rfl rfl hin hd (k _ h H locs ls hl hP hD hS)
theorem ast_X7_heat {K : Kx} {cc : ByteArray} {own : String} {g : Gm} {nL d : Nat} {ret : Option FieldType} {Q : State → Prop} {pc : Nat} {lv : List (Nat × Value)} {st : List Value} {σ : St} (hC : Ok K cc own g nL d ret) {i x : Int32} {ρ : Type} {o : ρ} {f : St → Option ρ} (hd : decode cc pc = .ok (.iastore, 1)) (h : ast σ 18 24 i x f = some o) (k : ∀ σ2, f σ2 = some o → J K (wM g) nL Q (pc + 1) lv (st) σ2) : J K (wM g) nL Q (pc) lv (.int x :: .int i :: .ref (g.1 19) :: st) σ := by
  obtain ⟨p, l, e, R, s, m, args, below, meth, c, D, A, ce, sl⟩ := K
  obtain ⟨hx, hb, hml, hown, hts, hK, hA, hSF, ⟨hR1, hR2, hR3, hR4⟩, hr, hlk⟩ := hC
  obtain ⟨hin, h⟩ := ast_some h
  exact fun H locs ls hl hP hD hS => va_iast hx hb hK hP hD hS 19 0 rfl rfl hin hd (fun H locs hP hD hS => k _ h H locs ls hl hP hD hS)
theorem ald_X7_isNew {K : Kx} {cc : ByteArray} {own : String} {g : Gm} {nL d : Nat} {ret : Option FieldType} {Q : State → Prop} {pc : Nat} {lv : List (Nat × Value)} {st : List Value} {σ : St} (hC : Ok K cc own g nL d ret) {i : Int32} {ρ : Type} {o : ρ} {f : Int32 → Option ρ} (hd : decode cc pc = .ok (.baload, 1)) (h : ald σ 19 24 i f = some o) (k : ∀ v, f v = some o → J K (wM g) nL Q (pc + 1) lv (.int v :: st) σ) : J K (wM g) nL Q (pc) lv (.int i :: .ref (g.1 20) :: st) σ := by
  obtain ⟨p, l, e, R, s, m, args, below, meth, c, D, A, ce, sl⟩ := K
  obtain ⟨hx, hb, hml, hown, hts, hK, hA, hSF, ⟨hR1, hR2, hR3, hR4⟩, hr, hlk⟩ := hC
  obtain ⟨hin, h⟩ := ald_some h
  exact fun H locs ls hl hP hD hS => va_zald hx hb hK hP 20 2 rfl rfl hin hd (k _ h H locs ls hl hP hD hS)
theorem ast_X7_isNew {K : Kx} {cc : ByteArray} {own : String} {g : Gm} {nL d : Nat} {ret : Option FieldType} {Q : State → Prop} {pc : Nat} {lv : List (Nat × Value)} {st : List Value} {σ : St} (hC : Ok K cc own g nL d ret) {i x : Int32} {ρ : Type} {o : ρ} {f : St → Option ρ} (hd : decode cc pc = .ok (.bastore, 1)) (h : ast σ 19 24 i (vp_nar .boolean x) f = some o) (k : ∀ σ2, f σ2 = some o → J K (wM g) nL Q (pc + 1) lv (st) σ2) : J K (wM g) nL Q (pc) lv (.int x :: .int i :: .ref (g.1 20) :: st) σ := by
  obtain ⟨p, l, e, R, s, m, args, below, meth, c, D, A, ce, sl⟩ := K
  obtain ⟨hx, hb, hml, hown, hts, hK, hA, hSF, ⟨hR1, hR2, hR3, hR4⟩, hr, hlk⟩ := hC
  obtain ⟨hin, h⟩ := ast_some h
  exact fun H locs ls hl hP hD hS => va_zast hx hb hK hP hD hS 20 2 rfl rfl hin hd (fun H locs hP hD hS => k _ h H locs ls hl hP hD hS)
theorem ald_X7_played {K : Kx} {cc : ByteArray} {own : String} {g : Gm} {nL d : Nat} {ret : Option FieldType} {Q : State → Prop} {pc : Nat} {lv : List (Nat × Value)} {st : List Value} {σ : St} (hC : Ok K cc own g nL d ret) {i : Int32} {ρ : Type} {o : ρ} {f : Int32 → Option ρ} (hd : decode cc pc = .ok (.iaload, 1)) (h : ald σ 20 300 i f = some o) (k : ∀ v, f v = some o → J K (wM g) nL Q (pc + 1) lv (.int v :: st) σ) : J K (wM g) nL Q (pc) lv (.int i :: .ref (g.1 21) :: st) σ := by
  obtain ⟨p, l, e, R, s, m, args, below, meth, c, D, A, ce, sl⟩ := K
  obtain ⟨hx, hb, hml, hown, hts, hK, hA, hSF, ⟨hR1, hR2, hR3, hR4⟩, hr, hlk⟩ := hC
  obtain ⟨hin, h⟩ := ald_some h
  exact fun H locs ls hl hP hD hS => va_iald hx hb hK hP 21 0 rfl rfl hin hd (k _ h H locs ls hl hP hD hS)
theorem ast_X7_played {K : Kx} {cc : ByteArray} {own : String} {g : Gm} {nL d : Nat} {ret : Option FieldType} {Q : State → Prop} {pc : Nat} {lv : List (Nat × Value)} {st : List Value} {σ : St} (hC : Ok K cc own g nL d ret) {i x : Int32} {ρ : Type} {o : ρ} {f : St → Option ρ} (hd : decode cc pc = .ok (.iastore, 1)) (h : ast σ 20 300 i x f = some o) (k : ∀ σ2, f σ2 = some o → J K (wM g) nL Q (pc + 1) lv (st) σ2) : J K (wM g) nL Q (pc) lv (.int x :: .int i :: .ref (g.1 21) :: st) σ := by
  obtain ⟨p, l, e, R, s, m, args, below, meth, c, D, A, ce, sl⟩ := K
  obtain ⟨hx, hb, hml, hown, hts, hK, hA, hSF, ⟨hR1, hR2, hR3, hR4⟩, hr, hlk⟩ := hC
  obtain ⟨hin, h⟩ := ast_some h
  exact fun H locs ls hl hP hD hS => va_iast hx hb hK hP hD hS 21 0 rfl rfl hin hd (fun H locs hP hD hS => k _ h H locs ls hl hP hD hS)
theorem ald_X7_began {K : Kx} {cc : ByteArray} {own : String} {g : Gm} {nL d : Nat} {ret : Option FieldType} {Q : State → Prop} {pc : Nat} {lv : List (Nat × Value)} {st : List Value} {σ : St} (hC : Ok K cc own g nL d ret) {i : Int32} {ρ : Type} {o : ρ} {f : Int32 → Option ρ} (hd : decode cc pc = .ok (.iaload, 1)) (h : ald σ 21 300 i f = some o) (k : ∀ v, f v = some o → J K (wM g) nL Q (pc + 1) lv (.int v :: st) σ) : J K (wM g) nL Q (pc) lv (.int i :: .ref (g.1 22) :: st) σ := by
  obtain ⟨p, l, e, R, s, m, args, below, meth, c, D, A, ce, sl⟩ := K
  obtain ⟨hx, hb, hml, hown, hts, hK, hA, hSF, ⟨hR1, hR2, hR3, hR4⟩, hr, hlk⟩ := hC
  obtain ⟨hin, h⟩ := ald_some h
  exact fun H locs ls hl hP hD hS => va_iald hx hb hK hP 22 0 rfl rfl hin hd (k _ h H locs ls hl hP hD hS)
theorem ast_X7_began {K : Kx} {cc : ByteArray} {own : String} {g : Gm} {nL d : Nat} {ret : Option FieldType} {Q : State → Prop} {pc : Nat} {lv : List (Nat × Value)} {st : List Value} {σ : St} (hC : Ok K cc own g nL d ret) {i x : Int32} {ρ : Type} {o : ρ} {f : St → Option ρ} (hd : decode cc pc = .ok (.iastore, 1)) (h : ast σ 21 300 i x f = some o) (k : ∀ σ2, f σ2 = some o → J K (wM g) nL Q (pc + 1) lv (st) σ2) : J K (wM g) nL Q (pc) lv (.int x :: .int i :: .ref (g.1 22) :: st) σ := by
  obtain ⟨p, l, e, R, s, m, args, below, meth, c, D, A, ce, sl⟩ := K
  obtain ⟨hx, hb, hml, hown, hts, hK, hA, hSF, ⟨hR1, hR2, hR3, hR4⟩, hr, hlk⟩ := hC
  obtain ⟨hin, h⟩ := ast_some h
  exact fun H locs ls hl hP hD hS => va_iast hx hb hK hP hD hS 22 0 rfl rfl hin hd (fun H locs hP hD hS => k _ h H locs ls hl hP hD hS)
theorem ald_X7_inItem {K : Kx} {cc : ByteArray} {own : String} {g : Gm} {nL d : Nat} {ret : Option FieldType} {Q : State → Prop} {pc : Nat} {lv : List (Nat × Value)} {st : List Value} {σ : St} (hC : Ok K cc own g nL d ret) {i : Int32} {ρ : Type} {o : ρ} {f : Int32 → Option ρ} (hd : decode cc pc = .ok (.iaload, 1)) (h : ald σ 22 300 i f = some o) (k : ∀ v, f v = some o → J K (wM g) nL Q (pc + 1) lv (.int v :: st) σ) : J K (wM g) nL Q (pc) lv (.int i :: .ref (g.1 23) :: st) σ := by
  obtain ⟨p, l, e, R, s, m, args, below, meth, c, D, A, ce, sl⟩ := K
  obtain ⟨hx, hb, hml, hown, hts, hK, hA, hSF, ⟨hR1, hR2, hR3, hR4⟩, hr, hlk⟩ := hC
  obtain ⟨hin, h⟩ := ald_some h
  exact fun H locs ls hl hP hD hS => va_iald hx hb hK hP 23 0 rfl rfl hin hd (k _ h H locs ls hl hP hD hS)
theorem ast_X7_inItem {K : Kx} {cc : ByteArray} {own : String} {g : Gm} {nL d : Nat} {ret : Option FieldType} {Q : State → Prop} {pc : Nat} {lv : List (Nat × Value)} {st : List Value} {σ : St} (hC : Ok K cc own g nL d ret) {i x : Int32} {ρ : Type} {o : ρ} {f : St → Option ρ} (hd : decode cc pc = .ok (.iastore, 1)) (h : ast σ 22 300 i x f = some o) (k : ∀ σ2, f σ2 = some o → J K (wM g) nL Q (pc + 1) lv (st) σ2) : J K (wM g) nL Q (pc) lv (.int x :: .int i :: .ref (g.1 23) :: st) σ := by
  obtain ⟨p, l, e, R, s, m, args, below, meth, c, D, A, ce, sl⟩ := K
  obtain ⟨hx, hb, hml, hown, hts, hK, hA, hSF, ⟨hR1, hR2, hR3, hR4⟩, hr, hlk⟩ := hC
  obtain ⟨hin, h⟩ := ast_some h
  exact fun H locs ls hl hP hD hS => va_iast hx hb hK hP hD hS 23 0 rfl rfl hin hd (fun H locs hP hD hS => k _ h H locs ls hl hP hD hS)
theorem ald_X7_left {K : Kx} {cc : ByteArray} {own : String} {g : Gm} {nL d : Nat} {ret : Option FieldType} {Q : State → Prop} {pc : Nat} {lv : List (Nat × Value)} {st : List Value} {σ : St} (hC : Ok K cc own g nL d ret) {i : Int32} {ρ : Type} {o : ρ} {f : Int32 → Option ρ} (hd : decode cc pc = .ok (.iaload, 1)) (h : ald σ 23 1344 i f = some o) (k : ∀ v, f v = some o → J K (wM g) nL Q (pc + 1) lv (.int v :: st) σ) : J K (wM g) nL Q (pc) lv (.int i :: .ref (g.1 24) :: st) σ := by
  obtain ⟨p, l, e, R, s, m, args, below, meth, c, D, A, ce, sl⟩ := K
  obtain ⟨hx, hb, hml, hown, hts, hK, hA, hSF, ⟨hR1, hR2, hR3, hR4⟩, hr, hlk⟩ := hC
  obtain ⟨hin, h⟩ := ald_some h
  exact fun H locs ls hl hP hD hS => va_iald hx hb hK hP 24 0 rfl rfl hin hd (k _ h H locs ls hl hP hD hS)
theorem ast_X7_left {K : Kx} {cc : ByteArray} {own : String} {g : Gm} {nL d : Nat} {ret : Option FieldType} {Q : State → Prop} {pc : Nat} {lv : List (Nat × Value)} {st : List Value} {σ : St} (hC : Ok K cc own g nL d ret) {i x : Int32} {ρ : Type} {o : ρ} {f : St → Option ρ} (hd : decode cc pc = .ok (.iastore, 1)) (h : ast σ 23 1344 i x f = some o) (k : ∀ σ2, f σ2 = some o → J K (wM g) nL Q (pc + 1) lv (st) σ2) : J K (wM g) nL Q (pc) lv (.int x :: .int i :: .ref (g.1 24) :: st) σ := by
  obtain ⟨p, l, e, R, s, m, args, below, meth, c, D, A, ce, sl⟩ := K
  obtain ⟨hx, hb, hml, hown, hts, hK, hA, hSF, ⟨hR1, hR2, hR3, hR4⟩, hr, hlk⟩ := hC
  obtain ⟨hin, h⟩ := ast_some h
  exact fun H locs ls hl hP hD hS => va_iast hx hb hK hP hD hS 24 0 rfl rfl hin hd (fun H locs hP hD hS => k _ h H locs ls hl hP hD hS)
theorem ald_X7_soonest {K : Kx} {cc : ByteArray} {own : String} {g : Gm} {nL d : Nat} {ret : Option FieldType} {Q : State → Prop} {pc : Nat} {lv : List (Nat × Value)} {st : List Value} {σ : St} (hC : Ok K cc own g nL d ret) {i : Int32} {ρ : Type} {o : ρ} {f : Int32 → Option ρ} (hd : decode cc pc = .ok (.iaload, 1)) (h : ald σ 24 24 i f = some o) (k : ∀ v, f v = some o → J K (wM g) nL Q (pc + 1) lv (.int v :: st) σ) : J K (wM g) nL Q (pc) lv (.int i :: .ref (g.1 25) :: st) σ := by
  obtain ⟨p, l, e, R, s, m, args, below, meth, c, D, A, ce, sl⟩ := K
  obtain ⟨hx, hb, hml, hown, hts, hK, hA, hSF, ⟨hR1, hR2, hR3, hR4⟩, hr, hlk⟩ := hC
  obtain ⟨hin, h⟩ := ald_some h
  exact fun H locs ls hl hP hD hS => va_iald hx hb hK hP 25 0 rfl rfl hin hd (k _ h H locs ls hl hP hD hS)
theorem ast_X7_soonest {K : Kx} {cc : ByteArray} {own : String} {g : Gm} {nL d : Nat} {ret : Option FieldType} {Q : State → Prop} {pc : Nat} {lv : List (Nat × Value)} {st : List Value} {σ : St} (hC : Ok K cc own g nL d ret) {i x : Int32} {ρ : Type} {o : ρ} {f : St → Option ρ} (hd : decode cc pc = .ok (.iastore, 1)) (h : ast σ 24 24 i x f = some o) (k : ∀ σ2, f σ2 = some o → J K (wM g) nL Q (pc + 1) lv (st) σ2) : J K (wM g) nL Q (pc) lv (.int x :: .int i :: .ref (g.1 25) :: st) σ := by
  obtain ⟨p, l, e, R, s, m, args, below, meth, c, D, A, ce, sl⟩ := K
  obtain ⟨hx, hb, hml, hown, hts, hK, hA, hSF, ⟨hR1, hR2, hR3, hR4⟩, hr, hlk⟩ := hC
  obtain ⟨hin, h⟩ := ast_some h
  exact fun H locs ls hl hP hD hS => va_iast hx hb hK hP hD hS 25 0 rfl rfl hin hd (fun H locs hP hD hS => k _ h H locs ls hl hP hD hS)
theorem ald_X7_rows {K : Kx} {cc : ByteArray} {own : String} {g : Gm} {nL d : Nat} {ret : Option FieldType} {Q : State → Prop} {pc : Nat} {lv : List (Nat × Value)} {st : List Value} {σ : St} (hC : Ok K cc own g nL d ret) {i : Int32} {ρ : Type} {o : ρ} {f : Int32 → Option ρ} (hd : decode cc pc = .ok (.iaload, 1)) (h : ald σ 25 55296 i f = some o) (k : ∀ v, f v = some o → J K (wM g) nL Q (pc + 1) lv (.int v :: st) σ) : J K (wM g) nL Q (pc) lv (.int i :: .ref (g.1 26) :: st) σ := by
  obtain ⟨p, l, e, R, s, m, args, below, meth, c, D, A, ce, sl⟩ := K
  obtain ⟨hx, hb, hml, hown, hts, hK, hA, hSF, ⟨hR1, hR2, hR3, hR4⟩, hr, hlk⟩ := hC
  obtain ⟨hin, h⟩ := ald_some h
  exact fun H locs ls hl hP hD hS => va_iald hx hb hK hP 26 0 rfl rfl hin hd (k _ h H locs ls hl hP hD hS)
theorem ast_X7_rows {K : Kx} {cc : ByteArray} {own : String} {g : Gm} {nL d : Nat} {ret : Option FieldType} {Q : State → Prop} {pc : Nat} {lv : List (Nat × Value)} {st : List Value} {σ : St} (hC : Ok K cc own g nL d ret) {i x : Int32} {ρ : Type} {o : ρ} {f : St → Option ρ} (hd : decode cc pc = .ok (.iastore, 1)) (h : ast σ 25 55296 i x f = some o) (k : ∀ σ2, f σ2 = some o → J K (wM g) nL Q (pc + 1) lv (st) σ2) : J K (wM g) nL Q (pc) lv (.int x :: .int i :: .ref (g.1 26) :: st) σ := by
  obtain ⟨p, l, e, R, s, m, args, below, meth, c, D, A, ce, sl⟩ := K
  obtain ⟨hx, hb, hml, hown, hts, hK, hA, hSF, ⟨hR1, hR2, hR3, hR4⟩, hr, hlk⟩ := hC
  obtain ⟨hin, h⟩ := ast_some h
  exact fun H locs ls hl hP hD hS => va_iast hx hb hK hP hD hS 26 0 rfl rfl hin hd (fun H locs hP hD hS => k _ h H locs ls hl hP hD hS)
theorem ald_X7_next {K : Kx} {cc : ByteArray} {own : String} {g : Gm} {nL d : Nat} {ret : Option FieldType} {Q : State → Prop} {pc : Nat} {lv : List (Nat × Value)} {st : List Value} {σ : St} (hC : Ok K cc own g nL d ret) {i : Int32} {ρ : Type} {o : ρ} {f : Int32 → Option ρ} (hd : decode cc pc = .ok (.iaload, 1)) (h : ald σ 26 55296 i f = some o) (k : ∀ v, f v = some o → J K (wM g) nL Q (pc + 1) lv (.int v :: st) σ) : J K (wM g) nL Q (pc) lv (.int i :: .ref (g.1 27) :: st) σ := by
  obtain ⟨p, l, e, R, s, m, args, below, meth, c, D, A, ce, sl⟩ := K
  obtain ⟨hx, hb, hml, hown, hts, hK, hA, hSF, ⟨hR1, hR2, hR3, hR4⟩, hr, hlk⟩ := hC
  obtain ⟨hin, h⟩ := ald_some h
  exact fun H locs ls hl hP hD hS => va_iald hx hb hK hP 27 0 rfl rfl hin hd (k _ h H locs ls hl hP hD hS)
theorem ast_X7_next {K : Kx} {cc : ByteArray} {own : String} {g : Gm} {nL d : Nat} {ret : Option FieldType} {Q : State → Prop} {pc : Nat} {lv : List (Nat × Value)} {st : List Value} {σ : St} (hC : Ok K cc own g nL d ret) {i x : Int32} {ρ : Type} {o : ρ} {f : St → Option ρ} (hd : decode cc pc = .ok (.iastore, 1)) (h : ast σ 26 55296 i x f = some o) (k : ∀ σ2, f σ2 = some o → J K (wM g) nL Q (pc + 1) lv (st) σ2) : J K (wM g) nL Q (pc) lv (.int x :: .int i :: .ref (g.1 27) :: st) σ := by
  obtain ⟨p, l, e, R, s, m, args, below, meth, c, D, A, ce, sl⟩ := K
  obtain ⟨hx, hb, hml, hown, hts, hK, hA, hSF, ⟨hR1, hR2, hR3, hR4⟩, hr, hlk⟩ := hC
  obtain ⟨hin, h⟩ := ast_some h
  exact fun H locs ls hl hP hD hS => va_iast hx hb hK hP hD hS 27 0 rfl rfl hin hd (fun H locs hP hD hS => k _ h H locs ls hl hP hD hS)
theorem ald_X7_taken {K : Kx} {cc : ByteArray} {own : String} {g : Gm} {nL d : Nat} {ret : Option FieldType} {Q : State → Prop} {pc : Nat} {lv : List (Nat × Value)} {st : List Value} {σ : St} (hC : Ok K cc own g nL d ret) {i : Int32} {ρ : Type} {o : ρ} {f : Int32 → Option ρ} (hd : decode cc pc = .ok (.iaload, 1)) (h : ald σ 27 13824 i f = some o) (k : ∀ v, f v = some o → J K (wM g) nL Q (pc + 1) lv (.int v :: st) σ) : J K (wM g) nL Q (pc) lv (.int i :: .ref (g.1 28) :: st) σ := by
  obtain ⟨p, l, e, R, s, m, args, below, meth, c, D, A, ce, sl⟩ := K
  obtain ⟨hx, hb, hml, hown, hts, hK, hA, hSF, ⟨hR1, hR2, hR3, hR4⟩, hr, hlk⟩ := hC
  obtain ⟨hin, h⟩ := ald_some h
  exact fun H locs ls hl hP hD hS => va_iald hx hb hK hP 28 0 rfl rfl hin hd (k _ h H locs ls hl hP hD hS)
theorem ast_X7_taken {K : Kx} {cc : ByteArray} {own : String} {g : Gm} {nL d : Nat} {ret : Option FieldType} {Q : State → Prop} {pc : Nat} {lv : List (Nat × Value)} {st : List Value} {σ : St} (hC : Ok K cc own g nL d ret) {i x : Int32} {ρ : Type} {o : ρ} {f : St → Option ρ} (hd : decode cc pc = .ok (.iastore, 1)) (h : ast σ 27 13824 i x f = some o) (k : ∀ σ2, f σ2 = some o → J K (wM g) nL Q (pc + 1) lv (st) σ2) : J K (wM g) nL Q (pc) lv (.int x :: .int i :: .ref (g.1 28) :: st) σ := by
  obtain ⟨p, l, e, R, s, m, args, below, meth, c, D, A, ce, sl⟩ := K
  obtain ⟨hx, hb, hml, hown, hts, hK, hA, hSF, ⟨hR1, hR2, hR3, hR4⟩, hr, hlk⟩ := hC
  obtain ⟨hin, h⟩ := ast_some h
  exact fun H locs ls hl hP hD hS => va_iast hx hb hK hP hD hS 28 0 rfl rfl hin hd (fun H locs hP hD hS => k _ h H locs ls hl hP hD hS)
theorem ald_X7_nextTaken {K : Kx} {cc : ByteArray} {own : String} {g : Gm} {nL d : Nat} {ret : Option FieldType} {Q : State → Prop} {pc : Nat} {lv : List (Nat × Value)} {st : List Value} {σ : St} (hC : Ok K cc own g nL d ret) {i : Int32} {ρ : Type} {o : ρ} {f : Int32 → Option ρ} (hd : decode cc pc = .ok (.iaload, 1)) (h : ald σ 28 13824 i f = some o) (k : ∀ v, f v = some o → J K (wM g) nL Q (pc + 1) lv (.int v :: st) σ) : J K (wM g) nL Q (pc) lv (.int i :: .ref (g.1 29) :: st) σ := by
  obtain ⟨p, l, e, R, s, m, args, below, meth, c, D, A, ce, sl⟩ := K
  obtain ⟨hx, hb, hml, hown, hts, hK, hA, hSF, ⟨hR1, hR2, hR3, hR4⟩, hr, hlk⟩ := hC
  obtain ⟨hin, h⟩ := ald_some h
  exact fun H locs ls hl hP hD hS => va_iald hx hb hK hP 29 0 rfl rfl hin hd (k _ h H locs ls hl hP hD hS)
theorem ast_X7_nextTaken {K : Kx} {cc : ByteArray} {own : String} {g : Gm} {nL d : Nat} {ret : Option FieldType} {Q : State → Prop} {pc : Nat} {lv : List (Nat × Value)} {st : List Value} {σ : St} (hC : Ok K cc own g nL d ret) {i x : Int32} {ρ : Type} {o : ρ} {f : St → Option ρ} (hd : decode cc pc = .ok (.iastore, 1)) (h : ast σ 28 13824 i x f = some o) (k : ∀ σ2, f σ2 = some o → J K (wM g) nL Q (pc + 1) lv (st) σ2) : J K (wM g) nL Q (pc) lv (.int x :: .int i :: .ref (g.1 29) :: st) σ := by
  obtain ⟨p, l, e, R, s, m, args, below, meth, c, D, A, ce, sl⟩ := K
  obtain ⟨hx, hb, hml, hown, hts, hK, hA, hSF, ⟨hR1, hR2, hR3, hR4⟩, hr, hlk⟩ := hC
  obtain ⟨hin, h⟩ := ast_some h
  exact fun H locs ls hl hP hD hS => va_iast hx hb hK hP hD hS 29 0 rfl rfl hin hd (fun H locs hP hD hS => k _ h H locs ls hl hP hD hS)
theorem ald_X7_best {K : Kx} {cc : ByteArray} {own : String} {g : Gm} {nL d : Nat} {ret : Option FieldType} {Q : State → Prop} {pc : Nat} {lv : List (Nat × Value)} {st : List Value} {σ : St} (hC : Ok K cc own g nL d ret) {i : Int32} {ρ : Type} {o : ρ} {f : Int32 → Option ρ} (hd : decode cc pc = .ok (.iaload, 1)) (h : ald σ 29 4 i f = some o) (k : ∀ v, f v = some o → J K (wM g) nL Q (pc + 1) lv (.int v :: st) σ) : J K (wM g) nL Q (pc) lv (.int i :: .ref (g.1 30) :: st) σ := by
  obtain ⟨p, l, e, R, s, m, args, below, meth, c, D, A, ce, sl⟩ := K
  obtain ⟨hx, hb, hml, hown, hts, hK, hA, hSF, ⟨hR1, hR2, hR3, hR4⟩, hr, hlk⟩ := hC
  obtain ⟨hin, h⟩ := ald_some h
  exact fun H locs ls hl hP hD hS => va_iald hx hb hK hP 30 0 rfl rfl hin hd (k _ h H locs ls hl hP hD hS)
theorem ast_X7_best {K : Kx} {cc : ByteArray} {own : String} {g : Gm} {nL d : Nat} {ret : Option FieldType} {Q : State → Prop} {pc : Nat} {lv : List (Nat × Value)} {st : List Value} {σ : St} (hC : Ok K cc own g nL d ret) {i x : Int32} {ρ : Type} {o : ρ} {f : St → Option ρ} (hd : decode cc pc = .ok (.iastore, 1)) (h : ast σ 29 4 i x f = some o) (k : ∀ σ2, f σ2 = some o → J K (wM g) nL Q (pc + 1) lv (st) σ2) : J K (wM g) nL Q (pc) lv (.int x :: .int i :: .ref (g.1 30) :: st) σ := by
  obtain ⟨p, l, e, R, s, m, args, below, meth, c, D, A, ce, sl⟩ := K
  obtain ⟨hx, hb, hml, hown, hts, hK, hA, hSF, ⟨hR1, hR2, hR3, hR4⟩, hr, hlk⟩ := hC
  obtain ⟨hin, h⟩ := ast_some h
  exact fun H locs ls hl hP hD hS => va_iast hx hb hK hP hD hS 30 0 rfl rfl hin hd (fun H locs hP hD hS => k _ h H locs ls hl hP hD hS)
theorem ald_X7_itemsOf {K : Kx} {cc : ByteArray} {own : String} {g : Gm} {nL d : Nat} {ret : Option FieldType} {Q : State → Prop} {pc : Nat} {lv : List (Nat × Value)} {st : List Value} {σ : St} (hC : Ok K cc own g nL d ret) {i : Int32} {ρ : Type} {o : ρ} {f : Int32 → Option ρ} (hd : decode cc pc = .ok (.iaload, 1)) (h : ald σ 30 168 i f = some o) (k : ∀ v, f v = some o → J K (wM g) nL Q (pc + 1) lv (.int v :: st) σ) : J K (wM g) nL Q (pc) lv (.int i :: .ref (g.1 31) :: st) σ := by
  obtain ⟨p, l, e, R, s, m, args, below, meth, c, D, A, ce, sl⟩ := K
  obtain ⟨hx, hb, hml, hown, hts, hK, hA, hSF, ⟨hR1, hR2, hR3, hR4⟩, hr, hlk⟩ := hC
  obtain ⟨hin, h⟩ := ald_some h
  exact fun H locs ls hl hP hD hS => va_iald hx hb hK hP 31 0 rfl rfl hin hd (k _ h H locs ls hl hP hD hS)
theorem ast_X7_itemsOf {K : Kx} {cc : ByteArray} {own : String} {g : Gm} {nL d : Nat} {ret : Option FieldType} {Q : State → Prop} {pc : Nat} {lv : List (Nat × Value)} {st : List Value} {σ : St} (hC : Ok K cc own g nL d ret) {i x : Int32} {ρ : Type} {o : ρ} {f : St → Option ρ} (hd : decode cc pc = .ok (.iastore, 1)) (h : ast σ 30 168 i x f = some o) (k : ∀ σ2, f σ2 = some o → J K (wM g) nL Q (pc + 1) lv (st) σ2) : J K (wM g) nL Q (pc) lv (.int x :: .int i :: .ref (g.1 31) :: st) σ := by
  obtain ⟨p, l, e, R, s, m, args, below, meth, c, D, A, ce, sl⟩ := K
  obtain ⟨hx, hb, hml, hown, hts, hK, hA, hSF, ⟨hR1, hR2, hR3, hR4⟩, hr, hlk⟩ := hC
  obtain ⟨hin, h⟩ := ast_some h
  exact fun H locs ls hl hP hD hS => va_iast hx hb hK hP hD hS 31 0 rfl rfl hin hd (fun H locs hP hD hS => k _ h H locs ls hl hP hD hS)
theorem ald_X0_seconds {K : Kx} {cc : ByteArray} {own : String} {g : Gm} {nL d : Nat} {ret : Option FieldType} {Q : State → Prop} {pc : Nat} {lv : List (Nat × Value)} {st : List Value} {σ : St} (hC : Ok K cc own g nL d ret) (j : Nat) (hj : j < 7) {i : Int32} {ρ : Type} {o : ρ} {f : Int32 → Option ρ} (hd : decode cc pc = .ok (.iaload, 1)) (h : ald σ (30 + 4 * j + 0) 8 i f = some o) (k : ∀ v, f v = some o → J K (wX g) nL Q (pc + 1) lv (.int v :: st) σ) : J K (wX g) nL Q (pc) lv (.int i :: .ref (g.1 (37 + 5 * j + 1)) :: st) σ := by
  obtain ⟨p, l, e, R, s, m, args, below, meth, c, D, A, ce, sl⟩ := K
  obtain ⟨hx, hb, hml, hown, hts, hK, hA, hSF, ⟨hR1, hR2, hR3, hR4⟩, hr, hlk⟩ := hC
  obtain ⟨hin, h⟩ := ald_some h
  rcases (show j = 0 ∨ j = 1 ∨ j = 2 ∨ j = 3 ∨ j = 4 ∨ j = 5 ∨ j = 6 by omega) with rfl | rfl | rfl | rfl | rfl | rfl | rfl
  · exact fun H locs ls hl hP hD hS => va_iald hx hb hK hP 38 0 rfl rfl hin hd (k _ h H locs ls hl hP hD hS)
  · exact fun H locs ls hl hP hD hS => va_iald hx hb hK hP 43 0 rfl rfl hin hd (k _ h H locs ls hl hP hD hS)
  · exact fun H locs ls hl hP hD hS => va_iald hx hb hK hP 48 0 rfl rfl hin hd (k _ h H locs ls hl hP hD hS)
  · exact fun H locs ls hl hP hD hS => va_iald hx hb hK hP 53 0 rfl rfl hin hd (k _ h H locs ls hl hP hD hS)
  · exact fun H locs ls hl hP hD hS => va_iald hx hb hK hP 58 0 rfl rfl hin hd (k _ h H locs ls hl hP hD hS)
  · exact fun H locs ls hl hP hD hS => va_iald hx hb hK hP 63 0 rfl rfl hin hd (k _ h H locs ls hl hP hD hS)
  · exact fun H locs ls hl hP hD hS => va_iald hx hb hK hP 68 0 rfl rfl hin hd (k _ h H locs ls hl hP hD hS)
theorem ast_X0_seconds {K : Kx} {cc : ByteArray} {own : String} {g : Gm} {nL d : Nat} {ret : Option FieldType} {Q : State → Prop} {pc : Nat} {lv : List (Nat × Value)} {st : List Value} {σ : St} (hC : Ok K cc own g nL d ret) (j : Nat) (hj : j < 7) {i x : Int32} {ρ : Type} {o : ρ} {f : St → Option ρ} (hd : decode cc pc = .ok (.iastore, 1)) (h : ast σ (30 + 4 * j + 0) 8 i x f = some o) (k : ∀ σ2, f σ2 = some o → J K (wX g) nL Q (pc + 1) lv (st) σ2) : J K (wX g) nL Q (pc) lv (.int x :: .int i :: .ref (g.1 (37 + 5 * j + 1)) :: st) σ := by
  obtain ⟨p, l, e, R, s, m, args, below, meth, c, D, A, ce, sl⟩ := K
  obtain ⟨hx, hb, hml, hown, hts, hK, hA, hSF, ⟨hR1, hR2, hR3, hR4⟩, hr, hlk⟩ := hC
  obtain ⟨hin, h⟩ := ast_some h
  rcases (show j = 0 ∨ j = 1 ∨ j = 2 ∨ j = 3 ∨ j = 4 ∨ j = 5 ∨ j = 6 by omega) with rfl | rfl | rfl | rfl | rfl | rfl | rfl
  · exact fun H locs ls hl hP hD hS => va_iast hx hb hK hP hD hS 38 0 rfl rfl hin hd (fun H locs hP hD hS => k _ h H locs ls hl hP hD hS)
  · exact fun H locs ls hl hP hD hS => va_iast hx hb hK hP hD hS 43 0 rfl rfl hin hd (fun H locs hP hD hS => k _ h H locs ls hl hP hD hS)
  · exact fun H locs ls hl hP hD hS => va_iast hx hb hK hP hD hS 48 0 rfl rfl hin hd (fun H locs hP hD hS => k _ h H locs ls hl hP hD hS)
  · exact fun H locs ls hl hP hD hS => va_iast hx hb hK hP hD hS 53 0 rfl rfl hin hd (fun H locs hP hD hS => k _ h H locs ls hl hP hD hS)
  · exact fun H locs ls hl hP hD hS => va_iast hx hb hK hP hD hS 58 0 rfl rfl hin hd (fun H locs hP hD hS => k _ h H locs ls hl hP hD hS)
  · exact fun H locs ls hl hP hD hS => va_iast hx hb hK hP hD hS 63 0 rfl rfl hin hd (fun H locs hP hD hS => k _ h H locs ls hl hP hD hS)
  · exact fun H locs ls hl hP hD hS => va_iast hx hb hK hP hD hS 68 0 rfl rfl hin hd (fun H locs hP hD hS => k _ h H locs ls hl hP hD hS)
theorem ald_X0_mood {K : Kx} {cc : ByteArray} {own : String} {g : Gm} {nL d : Nat} {ret : Option FieldType} {Q : State → Prop} {pc : Nat} {lv : List (Nat × Value)} {st : List Value} {σ : St} (hC : Ok K cc own g nL d ret) (j : Nat) (hj : j < 7) {i : Int32} {ρ : Type} {o : ρ} {f : Int32 → Option ρ} (hd : decode cc pc = .ok (.iaload, 1)) (h : ald σ (30 + 4 * j + 1) 8 i f = some o) (k : ∀ v, f v = some o → J K (wX g) nL Q (pc + 1) lv (.int v :: st) σ) : J K (wX g) nL Q (pc) lv (.int i :: .ref (g.1 (37 + 5 * j + 2)) :: st) σ := by
  obtain ⟨p, l, e, R, s, m, args, below, meth, c, D, A, ce, sl⟩ := K
  obtain ⟨hx, hb, hml, hown, hts, hK, hA, hSF, ⟨hR1, hR2, hR3, hR4⟩, hr, hlk⟩ := hC
  obtain ⟨hin, h⟩ := ald_some h
  rcases (show j = 0 ∨ j = 1 ∨ j = 2 ∨ j = 3 ∨ j = 4 ∨ j = 5 ∨ j = 6 by omega) with rfl | rfl | rfl | rfl | rfl | rfl | rfl
  · exact fun H locs ls hl hP hD hS => va_iald hx hb hK hP 39 0 rfl rfl hin hd (k _ h H locs ls hl hP hD hS)
  · exact fun H locs ls hl hP hD hS => va_iald hx hb hK hP 44 0 rfl rfl hin hd (k _ h H locs ls hl hP hD hS)
  · exact fun H locs ls hl hP hD hS => va_iald hx hb hK hP 49 0 rfl rfl hin hd (k _ h H locs ls hl hP hD hS)
  · exact fun H locs ls hl hP hD hS => va_iald hx hb hK hP 54 0 rfl rfl hin hd (k _ h H locs ls hl hP hD hS)
  · exact fun H locs ls hl hP hD hS => va_iald hx hb hK hP 59 0 rfl rfl hin hd (k _ h H locs ls hl hP hD hS)
  · exact fun H locs ls hl hP hD hS => va_iald hx hb hK hP 64 0 rfl rfl hin hd (k _ h H locs ls hl hP hD hS)
  · exact fun H locs ls hl hP hD hS => va_iald hx hb hK hP 69 0 rfl rfl hin hd (k _ h H locs ls hl hP hD hS)
theorem ast_X0_mood {K : Kx} {cc : ByteArray} {own : String} {g : Gm} {nL d : Nat} {ret : Option FieldType} {Q : State → Prop} {pc : Nat} {lv : List (Nat × Value)} {st : List Value} {σ : St} (hC : Ok K cc own g nL d ret) (j : Nat) (hj : j < 7) {i x : Int32} {ρ : Type} {o : ρ} {f : St → Option ρ} (hd : decode cc pc = .ok (.iastore, 1)) (h : ast σ (30 + 4 * j + 1) 8 i x f = some o) (k : ∀ σ2, f σ2 = some o → J K (wX g) nL Q (pc + 1) lv (st) σ2) : J K (wX g) nL Q (pc) lv (.int x :: .int i :: .ref (g.1 (37 + 5 * j + 2)) :: st) σ := by
  obtain ⟨p, l, e, R, s, m, args, below, meth, c, D, A, ce, sl⟩ := K
  obtain ⟨hx, hb, hml, hown, hts, hK, hA, hSF, ⟨hR1, hR2, hR3, hR4⟩, hr, hlk⟩ := hC
  obtain ⟨hin, h⟩ := ast_some h
  rcases (show j = 0 ∨ j = 1 ∨ j = 2 ∨ j = 3 ∨ j = 4 ∨ j = 5 ∨ j = 6 by omega) with rfl | rfl | rfl | rfl | rfl | rfl | rfl
  · exact fun H locs ls hl hP hD hS => va_iast hx hb hK hP hD hS 39 0 rfl rfl hin hd (fun H locs hP hD hS => k _ h H locs ls hl hP hD hS)
  · exact fun H locs ls hl hP hD hS => va_iast hx hb hK hP hD hS 44 0 rfl rfl hin hd (fun H locs hP hD hS => k _ h H locs ls hl hP hD hS)
  · exact fun H locs ls hl hP hD hS => va_iast hx hb hK hP hD hS 49 0 rfl rfl hin hd (fun H locs hP hD hS => k _ h H locs ls hl hP hD hS)
  · exact fun H locs ls hl hP hD hS => va_iast hx hb hK hP hD hS 54 0 rfl rfl hin hd (fun H locs hP hD hS => k _ h H locs ls hl hP hD hS)
  · exact fun H locs ls hl hP hD hS => va_iast hx hb hK hP hD hS 59 0 rfl rfl hin hd (fun H locs hP hD hS => k _ h H locs ls hl hP hD hS)
  · exact fun H locs ls hl hP hD hS => va_iast hx hb hK hP hD hS 64 0 rfl rfl hin hd (fun H locs hP hD hS => k _ h H locs ls hl hP hD hS)
  · exact fun H locs ls hl hP hD hS => va_iast hx hb hK hP hD hS 69 0 rfl rfl hin hd (fun H locs hP hD hS => k _ h H locs ls hl hP hD hS)
theorem ald_X0_wantedNew {K : Kx} {cc : ByteArray} {own : String} {g : Gm} {nL d : Nat} {ret : Option FieldType} {Q : State → Prop} {pc : Nat} {lv : List (Nat × Value)} {st : List Value} {σ : St} (hC : Ok K cc own g nL d ret) (j : Nat) (hj : j < 7) {i : Int32} {ρ : Type} {o : ρ} {f : Int32 → Option ρ} (hd : decode cc pc = .ok (.iaload, 1)) (h : ald σ (30 + 4 * j + 2) 8 i f = some o) (k : ∀ v, f v = some o → J K (wX g) nL Q (pc + 1) lv (.int v :: st) σ) : J K (wX g) nL Q (pc) lv (.int i :: .ref (g.1 (37 + 5 * j + 3)) :: st) σ := by
  obtain ⟨p, l, e, R, s, m, args, below, meth, c, D, A, ce, sl⟩ := K
  obtain ⟨hx, hb, hml, hown, hts, hK, hA, hSF, ⟨hR1, hR2, hR3, hR4⟩, hr, hlk⟩ := hC
  obtain ⟨hin, h⟩ := ald_some h
  rcases (show j = 0 ∨ j = 1 ∨ j = 2 ∨ j = 3 ∨ j = 4 ∨ j = 5 ∨ j = 6 by omega) with rfl | rfl | rfl | rfl | rfl | rfl | rfl
  · exact fun H locs ls hl hP hD hS => va_iald hx hb hK hP 40 0 rfl rfl hin hd (k _ h H locs ls hl hP hD hS)
  · exact fun H locs ls hl hP hD hS => va_iald hx hb hK hP 45 0 rfl rfl hin hd (k _ h H locs ls hl hP hD hS)
  · exact fun H locs ls hl hP hD hS => va_iald hx hb hK hP 50 0 rfl rfl hin hd (k _ h H locs ls hl hP hD hS)
  · exact fun H locs ls hl hP hD hS => va_iald hx hb hK hP 55 0 rfl rfl hin hd (k _ h H locs ls hl hP hD hS)
  · exact fun H locs ls hl hP hD hS => va_iald hx hb hK hP 60 0 rfl rfl hin hd (k _ h H locs ls hl hP hD hS)
  · exact fun H locs ls hl hP hD hS => va_iald hx hb hK hP 65 0 rfl rfl hin hd (k _ h H locs ls hl hP hD hS)
  · exact fun H locs ls hl hP hD hS => va_iald hx hb hK hP 70 0 rfl rfl hin hd (k _ h H locs ls hl hP hD hS)
theorem ast_X0_wantedNew {K : Kx} {cc : ByteArray} {own : String} {g : Gm} {nL d : Nat} {ret : Option FieldType} {Q : State → Prop} {pc : Nat} {lv : List (Nat × Value)} {st : List Value} {σ : St} (hC : Ok K cc own g nL d ret) (j : Nat) (hj : j < 7) {i x : Int32} {ρ : Type} {o : ρ} {f : St → Option ρ} (hd : decode cc pc = .ok (.iastore, 1)) (h : ast σ (30 + 4 * j + 2) 8 i x f = some o) (k : ∀ σ2, f σ2 = some o → J K (wX g) nL Q (pc + 1) lv (st) σ2) : J K (wX g) nL Q (pc) lv (.int x :: .int i :: .ref (g.1 (37 + 5 * j + 3)) :: st) σ := by
  obtain ⟨p, l, e, R, s, m, args, below, meth, c, D, A, ce, sl⟩ := K
  obtain ⟨hx, hb, hml, hown, hts, hK, hA, hSF, ⟨hR1, hR2, hR3, hR4⟩, hr, hlk⟩ := hC
  obtain ⟨hin, h⟩ := ast_some h
  rcases (show j = 0 ∨ j = 1 ∨ j = 2 ∨ j = 3 ∨ j = 4 ∨ j = 5 ∨ j = 6 by omega) with rfl | rfl | rfl | rfl | rfl | rfl | rfl
  · exact fun H locs ls hl hP hD hS => va_iast hx hb hK hP hD hS 40 0 rfl rfl hin hd (fun H locs hP hD hS => k _ h H locs ls hl hP hD hS)
  · exact fun H locs ls hl hP hD hS => va_iast hx hb hK hP hD hS 45 0 rfl rfl hin hd (fun H locs hP hD hS => k _ h H locs ls hl hP hD hS)
  · exact fun H locs ls hl hP hD hS => va_iast hx hb hK hP hD hS 50 0 rfl rfl hin hd (fun H locs hP hD hS => k _ h H locs ls hl hP hD hS)
  · exact fun H locs ls hl hP hD hS => va_iast hx hb hK hP hD hS 55 0 rfl rfl hin hd (fun H locs hP hD hS => k _ h H locs ls hl hP hD hS)
  · exact fun H locs ls hl hP hD hS => va_iast hx hb hK hP hD hS 60 0 rfl rfl hin hd (fun H locs hP hD hS => k _ h H locs ls hl hP hD hS)
  · exact fun H locs ls hl hP hD hS => va_iast hx hb hK hP hD hS 65 0 rfl rfl hin hd (fun H locs hP hD hS => k _ h H locs ls hl hP hD hS)
  · exact fun H locs ls hl hP hD hS => va_iast hx hb hK hP hD hS 70 0 rfl rfl hin hd (fun H locs hP hD hS => k _ h H locs ls hl hP hD hS)
theorem ald_X0_hasSongs {K : Kx} {cc : ByteArray} {own : String} {g : Gm} {nL d : Nat} {ret : Option FieldType} {Q : State → Prop} {pc : Nat} {lv : List (Nat × Value)} {st : List Value} {σ : St} (hC : Ok K cc own g nL d ret) (j : Nat) (hj : j < 7) {i : Int32} {ρ : Type} {o : ρ} {f : Int32 → Option ρ} (hd : decode cc pc = .ok (.baload, 1)) (h : ald σ (30 + 4 * j + 3) 8 i f = some o) (k : ∀ v, f v = some o → J K (wX g) nL Q (pc + 1) lv (.int v :: st) σ) : J K (wX g) nL Q (pc) lv (.int i :: .ref (g.1 (37 + 5 * j + 4)) :: st) σ := by
  obtain ⟨p, l, e, R, s, m, args, below, meth, c, D, A, ce, sl⟩ := K
  obtain ⟨hx, hb, hml, hown, hts, hK, hA, hSF, ⟨hR1, hR2, hR3, hR4⟩, hr, hlk⟩ := hC
  obtain ⟨hin, h⟩ := ald_some h
  rcases (show j = 0 ∨ j = 1 ∨ j = 2 ∨ j = 3 ∨ j = 4 ∨ j = 5 ∨ j = 6 by omega) with rfl | rfl | rfl | rfl | rfl | rfl | rfl
  · exact fun H locs ls hl hP hD hS => va_zald hx hb hK hP 41 2 rfl rfl hin hd (k _ h H locs ls hl hP hD hS)
  · exact fun H locs ls hl hP hD hS => va_zald hx hb hK hP 46 2 rfl rfl hin hd (k _ h H locs ls hl hP hD hS)
  · exact fun H locs ls hl hP hD hS => va_zald hx hb hK hP 51 2 rfl rfl hin hd (k _ h H locs ls hl hP hD hS)
  · exact fun H locs ls hl hP hD hS => va_zald hx hb hK hP 56 2 rfl rfl hin hd (k _ h H locs ls hl hP hD hS)
  · exact fun H locs ls hl hP hD hS => va_zald hx hb hK hP 61 2 rfl rfl hin hd (k _ h H locs ls hl hP hD hS)
  · exact fun H locs ls hl hP hD hS => va_zald hx hb hK hP 66 2 rfl rfl hin hd (k _ h H locs ls hl hP hD hS)
  · exact fun H locs ls hl hP hD hS => va_zald hx hb hK hP 71 2 rfl rfl hin hd (k _ h H locs ls hl hP hD hS)
theorem ast_X0_hasSongs {K : Kx} {cc : ByteArray} {own : String} {g : Gm} {nL d : Nat} {ret : Option FieldType} {Q : State → Prop} {pc : Nat} {lv : List (Nat × Value)} {st : List Value} {σ : St} (hC : Ok K cc own g nL d ret) (j : Nat) (hj : j < 7) {i x : Int32} {ρ : Type} {o : ρ} {f : St → Option ρ} (hd : decode cc pc = .ok (.bastore, 1)) (h : ast σ (30 + 4 * j + 3) 8 i (vp_nar .boolean x) f = some o) (k : ∀ σ2, f σ2 = some o → J K (wX g) nL Q (pc + 1) lv (st) σ2) : J K (wX g) nL Q (pc) lv (.int x :: .int i :: .ref (g.1 (37 + 5 * j + 4)) :: st) σ := by
  obtain ⟨p, l, e, R, s, m, args, below, meth, c, D, A, ce, sl⟩ := K
  obtain ⟨hx, hb, hml, hown, hts, hK, hA, hSF, ⟨hR1, hR2, hR3, hR4⟩, hr, hlk⟩ := hC
  obtain ⟨hin, h⟩ := ast_some h
  rcases (show j = 0 ∨ j = 1 ∨ j = 2 ∨ j = 3 ∨ j = 4 ∨ j = 5 ∨ j = 6 by omega) with rfl | rfl | rfl | rfl | rfl | rfl | rfl
  · exact fun H locs ls hl hP hD hS => va_zast hx hb hK hP hD hS 41 2 rfl rfl hin hd (fun H locs hP hD hS => k _ h H locs ls hl hP hD hS)
  · exact fun H locs ls hl hP hD hS => va_zast hx hb hK hP hD hS 46 2 rfl rfl hin hd (fun H locs hP hD hS => k _ h H locs ls hl hP hD hS)
  · exact fun H locs ls hl hP hD hS => va_zast hx hb hK hP hD hS 51 2 rfl rfl hin hd (fun H locs hP hD hS => k _ h H locs ls hl hP hD hS)
  · exact fun H locs ls hl hP hD hS => va_zast hx hb hK hP hD hS 56 2 rfl rfl hin hd (fun H locs hP hD hS => k _ h H locs ls hl hP hD hS)
  · exact fun H locs ls hl hP hD hS => va_zast hx hb hK hP hD hS 61 2 rfl rfl hin hd (fun H locs hP hD hS => k _ h H locs ls hl hP hD hS)
  · exact fun H locs ls hl hP hD hS => va_zast hx hb hK hP hD hS 66 2 rfl rfl hin hd (fun H locs hP hD hS => k _ h H locs ls hl hP hD hS)
  · exact fun H locs ls hl hP hD hS => va_zast hx hb hK hP hD hS 71 2 rfl rfl hin hd (fun H locs hP hD hS => k _ h H locs ls hl hP hD hS)
theorem ald_clocks {K : Kx} {cc : ByteArray} {own : String} {g : Gm} {nL d : Nat} {ret : Option FieldType} {Q : State → Prop} {pc : Nat} {lv : List (Nat × Value)} {st : List Value} {σ : St} (hC : Ok K cc own g nL d ret) {i : Int32} {ρ : Type} {o : ρ} {F : Option ρ} (hd : decode cc pc = .ok (.aaload, 1)) (h : chk (inB i 6) F = some o) (k : i.toNatClampNeg < 7 → F = some o → J K (wX g) nL Q (pc + 1) lv (.ref (g.1 (37 + 5 * i.toNatClampNeg)) :: st) σ) : J K (wX g) nL Q (pc) lv (.int i :: .ref (g.1 1) :: st) σ := by
  obtain ⟨p, l, e, R, s, m, args, below, meth, c, D, A, ce, sl⟩ := K
  obtain ⟨hx, hb, hml, hown, hts, hK, hA, hSF, ⟨hR1, hR2, hR3, hR4⟩, hr, hlk⟩ := hC
  obtain ⟨hin, h⟩ := chk_some h
  have hv := inB_in hin
  have h7 : i.toNatClampNeg < 7 := Nat.lt_of_lt_of_le (Nat.not_le.mp fun q => hv (Or.inr q)) (by decide)
  exact fun H locs ls hl hP hD hS => va_aldq hx hb hK hP 1 3 rfl rfl hv hd (k h7 h H locs ls hl hP hD hS)
