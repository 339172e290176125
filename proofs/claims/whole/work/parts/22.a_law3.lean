/-! WHAT THE PURE PART OWES: a relation, and each call answers alike and keeps it -/
def Sim_feed (N : Nat) (Rel : Nat → St → St → Prop) : Prop := (∀ (x1 x2 x3 x4 x5 : Int32) (k : Nat) (σx σm : St), k < 512 → Rel k σx σm → ∃ (r : Int32) (σx2 σm2 : St), X6_feed_f N x1 x2 x3 x4 x5 σx = some (r, σx2) ∧ X7_feed_f N x1 x2 x3 x4 x5 σm = some (r, σm2) ∧ Rel (k + 1) σx2 σm2)
def Sim_end (N : Nat) (Rel : Nat → St → St → Prop) : Prop := (∀ (x1 : Int32) (k : Nat) (σx σm : St), k < 512 → Rel k σx σm → ∃ (r : Int32) (σx2 σm2 : St), X6_end_f N x1 σx = some (r, σx2) ∧ X7_end_f N x1 σm = some (r, σm2) ∧ Rel (k + 1) σx2 σm2)
def Sim_rules (N : Nat) (Rel : Nat → St → St → Prop) : Prop := (∀ (k : Nat) (σx σm : St), k < 512 → Rel k σx σm → ∃ (r : Int32) (σx2 σm2 : St), X6_rules_f N  σx = some (r, σx2) ∧ X7_rules_f N  σm = some (r, σm2) ∧ Rel (k + 1) σx2 σm2)
def Sim_clock (N : Nat) (Rel : Nat → St → St → Prop) : Prop := (∀ (x1 : Int32) (k : Nat) (σx σm : St), k < 512 → Rel k σx σm → (∃ (r : Int32) (σx2 σm2 : St), X6_clock_f N x1 σx = some (r, σx2) ∧ X7_clock_f N x1 σm = some (r, σm2) ∧ gi σm2 0 = 0 ∧ Rel (k + 1) σx2 σm2) ∨ (∃ (o : Int32 × St) (r : Int32) (σm2 : St), X6_clock_t N x1 σx = some o ∧ X7_clock_f N x1 σm = some (r, σm2) ∧ gi σm2 0 = 1 ∧ Rel (k + 1) o.2 σm2))
def Sim_fault (N : Nat) (Rel : Nat → St → St → Prop) : Prop := (∀ (k : Nat) (σx σm : St), k < 512 → Rel k σx σm → ∃ (r : Int32) (σx2 σm2 : St), X6_fault_f N  σx = some (r, σx2) ∧ X7_fault_f N  σm = some (r, σm2) ∧ Rel (k + 1) σx2 σm2)
def Sim_rule (N : Nat) (Rel : Nat → St → St → Prop) : Prop := (∀ (x1 : Int32) (k : Nat) (σx σm : St), k < 512 → Rel k σx σm → ∃ (r : Int32) (σx2 σm2 : St), X6_rule_f N x1 σx = some (r, σx2) ∧ X7_rule_f N x1 σm = some (r, σm2) ∧ Rel (k + 1) σx2 σm2)
def Sim_song (N : Nat) (Rel : Nat → St → St → Prop) : Prop := (∀ (x1 x2 x3 x4 x5 : Int32) (k : Nat) (σx σm : St), k < 512 → (x5 = 0 ∨ x5 = 1) → Rel k σx σm → ∃ (r : Int32) (σx2 σm2 : St), X6_song_f N x1 x2 x3 x4 x5 σx = some (r, σx2) ∧ X7_song_f N x1 x2 x3 x4 x5 σm = some (r, σm2) ∧ Rel (k + 1) σx2 σm2)
def Sim_vote (N : Nat) (Rel : Nat → St → St → Prop) : Prop := (∀ (x1 x2 : Int32) (k : Nat) (σx σm : St), k < 512 → Rel k σx σm → ∃ (r : Int32) (σx2 σm2 : St), X6_vote_f N x1 x2 σx = some (r, σx2) ∧ X7_vote_f N x1 x2 σm = some (r, σm2) ∧ Rel (k + 1) σx2 σm2)
def Sim_ask (N : Nat) (Rel : Nat → St → St → Prop) : Prop := (∀ (x1 : Int32) (k : Nat) (σx σm : St), k < 512 → Rel k σx σm → ∃ (r : Int32) (σx2 σm2 : St), X6_ask_f N x1 σx = some (r, σx2) ∧ X7_ask_f N x1 σm = some (r, σm2) ∧ Rel (k + 1) σx2 σm2)
def Sim_lay (N : Nat) (Rel : Nat → St → St → Prop) : Prop := (∀ (x1 : Int32) (k : Nat) (σx σm : St), k < 512 → Rel k σx σm → (∃ (r : Int32) (σx2 σm2 : St), X6_lay_f N x1 σx = some (r, σx2) ∧ X7_lay_f N x1 σm = some (r, σm2) ∧ gi σm2 0 = 0 ∧ Rel (k + 1) σx2 σm2) ∨ (∃ (o : Int32 × St) (r : Int32) (σm2 : St), X6_lay_t N x1 σx = some o ∧ X7_lay_f N x1 σm = some (r, σm2) ∧ gi σm2 0 = 1 ∧ Rel (k + 1) o.2 σm2))
def Sim_told (N : Nat) (Rel : Nat → St → St → Prop) : Prop := (∀ (x1 x2 : Int32) (k : Nat) (σx σm : St), k < 512 → Rel k σx σm → ∃ (r : Int32) (σx2 σm2 : St), X6_told_f N x1 x2 σx = some (r, σx2) ∧ X7_told_f N x1 x2 σm = some (r, σm2) ∧ Rel (k + 1) σx2 σm2)
def Sim_play (N : Nat) (Rel : Nat → St → St → Prop) : Prop := (∀ (x1 x2 : Int32) (k : Nat) (σx σm : St), k < 512 → Rel k σx σm → (∃ (r : Int32) (σx2 σm2 : St), X6_play_f N x1 x2 σx = some (r, σx2) ∧ X7_play_f N x1 x2 σm = some (r, σm2) ∧ gi σm2 0 = 0 ∧ Rel (k + 1) σx2 σm2) ∨ (∃ (o : Int32 × St) (r : Int32) (σm2 : St), X6_play_t N x1 x2 σx = some o ∧ X7_play_f N x1 x2 σm = some (r, σm2) ∧ gi σm2 0 = 1 ∧ Rel (k + 1) o.2 σm2))
def Sim_left (N : Nat) (Rel : Nat → St → St → Prop) : Prop := (∀ (x1 x2 : Int32) (k : Nat) (σx σm : St), k < 512 → Rel k σx σm → (∃ (r : Int32) (σx2 σm2 : St), X6_left_f N x1 x2 σx = some (r, σx2) ∧ X7_left_f N x1 x2 σm = some (r, σm2) ∧ gi σm2 0 = 0 ∧ Rel (k + 1) σx2 σm2) ∨ (∃ (o : Int32 × St) (r : Int32) (σm2 : St), X6_left_t N x1 x2 σx = some o ∧ X7_left_f N x1 x2 σm = some (r, σm2) ∧ gi σm2 0 = 1 ∧ Rel (k + 1) o.2 σm2))
def Sim_at (N : Nat) (Rel : Nat → St → St → Prop) : Prop := (∀ (x1 : Int32) (k : Nat) (σx σm : St), k < 512 → Rel k σx σm → ∃ (r : Int32) (σx2 σm2 : St), X6_at_f N x1 σx = some (r, σx2) ∧ X7_at_f N x1 σm = some (r, σm2) ∧ Rel (k + 1) σx2 σm2)
def Sim_rights (N : Nat) (Rel : Nat → St → St → Prop) : Prop := (∀ (x1 x2 x3 : Int32) (k : Nat) (σx σm : St), k < 512 → Rel k σx σm → ∃ (r : Int32) (σx2 σm2 : St), X6_rights_f N x1 x2 x3 σx = some (r, σx2) ∧ X7_rights_f N x1 x2 x3 σm = some (r, σm2) ∧ Rel (k + 1) σx2 σm2)
def Sim_items (N : Nat) (Rel : Nat → St → St → Prop) : Prop := (∀ (x1 : Int32) (k : Nat) (σx σm : St), k < 512 → Rel k σx σm → (∃ (r : Int32) (σx2 σm2 : St), X6_items_f N x1 σx = some (r, σx2) ∧ X7_items_f N x1 σm = some (r, σm2) ∧ gi σm2 0 = 0 ∧ Rel (k + 1) σx2 σm2) ∨ (∃ (o : Int32 × St) (r : Int32) (σm2 : St), X6_items_t N x1 σx = some o ∧ X7_items_f N x1 σm = some (r, σm2) ∧ gi σm2 0 = 1 ∧ Rel (k + 1) o.2 σm2))
def Sim_count (N : Nat) (Rel : Nat → St → St → Prop) : Prop := (∀ (x1 : Int32) (k : Nat) (σx σm : St), k < 512 → Rel k σx σm → ∃ (r : Int32) (σx2 σm2 : St), X6_count_f N x1 σx = some (r, σx2) ∧ X7_count_f N x1 σm = some (r, σm2) ∧ Rel (k + 1) σx2 σm2)
def Sim (N : Nat) (Rel : Nat → St → St → Prop) : Prop := Rel 0 iniX iniM ∧ (∀ k σx σm, Rel k σx σm → Rel (k + 1) σx σm) ∧ Sim_feed N Rel ∧ Sim_end N Rel ∧ Sim_rules N Rel ∧ Sim_clock N Rel ∧ Sim_fault N Rel ∧ Sim_rule N Rel ∧ Sim_song N Rel ∧ Sim_vote N Rel ∧ Sim_ask N Rel ∧ Sim_lay N Rel ∧ Sim_told N Rel ∧ Sim_play N Rel ∧ Sim_left N Rel ∧ Sim_at N Rel ∧ Sim_rights N Rel ∧ Sim_items N Rel ∧ Sim_count N Rel
theorem j_wid {K : Kx} {nL : Nat} {ws : St → va_W} {Q : State → Prop} {pc : Nat} {lv : List (Nat × Value)} {st : List Value} {σ : St} {a b a2 b2 : Nat} (h1 : a ≤ a2) (h2 : b ≤ b2) (k : J (Kp K a2 b2) ws nL Q pc lv st σ) : J (Kp K a b) ws nL Q pc lv st σ := by
  obtain ⟨p, l, e, R, s, m, args, below, meth, c, D, A, ce, sl⟩ := K
  exact fun H locs ls hl hP hD hS => W.widen (by omega) (by omega) (k H locs ls hl hP hD hS)
theorem kpkp {K : Kx} {nL : Nat} {ws : St → va_W} {Q : State → Prop} {pc : Nat} {lv : List (Nat × Value)} {st : List Value} {σ : St} {a b c d : Nat} (k : J (Kp K (a + c) (b + d)) ws nL Q pc lv st σ) : J (Kp (Kp K a b) c d) ws nL Q pc lv st σ := by
  obtain ⟨p, l, e, R, s, m, args, below, meth, cd, D, A, ce, sl⟩ := K
  show J (p, l, e, R, s, m, args, below, meth, cd, D, A, ce + a + c, sl + b + d) ws nL Q pc lv st σ
  rw [Nat.add_assoc ce, Nat.add_assoc sl]
  exact k
theorem limp {K : Kx} {mc ms a b c d : Nat} (h : Lim K mc ms) (h1 : a + c ≤ mc) (h2 : b + d ≤ ms) : Lim (Kp K a b) c d := by
  obtain ⟨p, l, e, R, s, m, args, below, meth, cd, D, A, ce, sl⟩ := K
  obtain ⟨q1, q2⟩ := h
  exact ⟨by show ce + a + c ≤ R.cells; omega, by show sl + b + d ≤ R.slots; omega⟩
theorem ltkp {K : Kx} {a b : Nat} (h : LtK K) : LtK (Kp K a b) := by
  obtain ⟨p, l, e, R, s, m, args, below, meth, cd, D, A, ce, sl⟩ := K
  exact h
def Qlw (K : Kx) : State → Prop := match K with
  | (p, l, e, R, s, m, args, below, meth, c, D, A, ce, sl) => lw_Z below args s
theorem sw_in (x : Int32) : ∃ c : Nat, c < 32 ∧ x &&& 31 = nI c := pk_andE x 5 (by decide)

theorem sub6 {j L : Nat} (hL : L ≤ 3072) : (nI L - 6 : Int32).toInt = (L : Int) - 6 := pk_sub_toInt (a := L) (b := 6) (by omega) (by decide)
theorem gt6 {j L : Nat} (hj : j < 2 ^ 30) (hL : L ≤ 3072) : (nI L - 6 < nI j) ↔ L < j + 6 := by
  rw [Int32.lt_iff_toInt_lt, sub6 (j := j) hL, nI_toInt (by omega)]
  omega
theorem loop_step0 {K : Kx} {g : Gm} {qx qm : Nat → Nat} {oa b L j k : Nat} {xs : Nat → Int32} {lf : Nat → Int64} {σx σm : St} (hC : Ok K cL_law RL g 7 40 (some .boolean)) (hS : Scr K b L xs) (hL : L ≤ 3072) (hLm : Lim K 705 149213) (hjk : j = 6 * k) (hj : L < j + 6) (hk : k ≤ 512) (kk : 105 + k ≤ 705 → 145613 + 6 * k ≤ 149213 → J (Kp K (105 + k) (145613 + 6 * k)) (fun _ => LW g qx qm oa lf σx σm) 7 (Qlw K) 870 [(0, .ref b), (1, .ref (qx 0)), (2, .ref (qm 0)), (3, .ref oa), (4, .int (nI j))] [] ini0) : J (Kp K (105 + k) (145613 + 6 * k)) (fun _ => LW g qx qm oa lf σx σm) 7 (Qlw K) 23 [(0, .ref b), (1, .ref (qx 0)), (2, .ref (qm 0)), (3, .ref oa), (4, .int (nI j))] [] ini0 := by
  have hCk := okp hC hLm (a := 105 + k) (b := 145613 + 6 * k) (by omega) (by omega)
  have hSk := scrp (a2 := 105 + k) (b2 := 145613 + 6 * k) hS
  refine j_iload hCk dL_law_23 4 rfl ?_
  refine j_aload_n hCk dL_law_25 rfl 0 rfl ?_
  refine j_slen hCk hSk dL_law_26 ?_
  refine j_bipush (v := 6) hCk dL_law_27 (by decide) ?_
  refine j_isub hCk dL_law_29 ?_
  exact j_icmp_gt (o := ()) (T := some ()) (F := none) (tgt := 870) hCk dL_law_30 (by decide) (if_pos ((gt6 (by omega) hL).mpr hj)) (fun _ => kk (by omega) (by omega)) (fun h => by cases h)
theorem loop_inc {K : Kx} {g : Gm} {qx qm : Nat → Nat} {oa b L j k : Nat} {xs : Nat → Int32} {lf : Nat → Int64} {σx σm : St} (hC : Ok K cL_law RL g 7 40 (some .boolean)) (hS : Scr K b L xs) (hL : L ≤ 3072) (hLm : Lim K 705 149213) (hjk : j = 6 * k) (hj : j + 6 ≤ L) (hk : k < 512) (kk : J (Kp K (105 + (k + 1)) (145613 + 6 * (k + 1))) (fun _ => LW g qx qm oa lf σx σm) 7 (Qlw K) 23 [(0, .ref b), (1, .ref (qx 0)), (2, .ref (qm 0)), (3, .ref oa), (4, .int (nI (j + 6)))] [] ini0) : J (Kp K (105 + (k + 1)) (145613 + 6 * (k + 1))) (fun _ => LW g qx qm oa lf σx σm) 7 (Qlw K) 864 [(0, .ref b), (1, .ref (qx 0)), (2, .ref (qm 0)), (3, .ref oa), (4, .int (nI j))] [] ini0 := by
  have hCk := okp hC hLm (a := 105 + (k + 1)) (b := 145613 + 6 * (k + 1)) (by omega) (by omega)
  refine j_iinc (k0 := 4) (n2 := 6) hCk dL_law_864 rfl (by decide) (by decide) rfl ?_
  refine j_goto (tgt := 23) hCk dL_law_867 (by decide) ?_
  rw [show (nI j + 6 : Int32) = nI (j + 6) from nI_add j 6]
  exact j_sub [1, 2, 3, 4, 0] rfl kk
theorem j_sw {K : Kx} {cc : ByteArray} {own : String} {g : Gm} {nL d : Nat} {ret : Option FieldType} {ws : St → va_W} {Q : State → Prop} {pc : Nat} {lv : List (Nat × Value)} {st : List Value} {σ : St} {hi dflt : Int} {offs : Array Int} {len : Nat} (hC : Ok K cc own g nL d ret) (hd : decode cc pc = .ok (.tableswitch dflt 0 hi offs, len)) (c : Nat) (hc : (c : Int) ≤ hi) (hc2 : c < 2 ^ 31) {off : Int} {tgt : Nat} (ho : offs[c]? = some off) (ht : (pc : Int) + off = (tgt : Int)) (k : J K ws nL Q tgt lv st σ) : J K ws nL Q pc lv (.int (nI c) :: st) σ := by
  obtain ⟨p, l, e, R, s, m, args, below, meth, cd, D, A, ce, sl⟩ := K
  obtain ⟨hx, hb, hml, hown, hts, hK, hA, hSF, ⟨hR1, hR2, hR3, hR4⟩, hr, hlk⟩ := hC
  have e1 : (nI c).toInt = (c : Int) := nI_toInt hc2
  exact fun H locs ls hl hP hD hS => lv_tableIn hx hb hd (by rw [e1]; omega) (by rw [e1]; omega) (by rw [e1]; simpa using ho) ht (k H locs ls hl hP hD hS)
theorem j_swd {K : Kx} {cc : ByteArray} {own : String} {g : Gm} {nL d : Nat} {ret : Option FieldType} {ws : St → va_W} {Q : State → Prop} {pc : Nat} {lv : List (Nat × Value)} {st : List Value} {σ : St} {hi dflt : Int} {offs : Array Int} {len : Nat} (hC : Ok K cc own g nL d ret) (hd : decode cc pc = .ok (.tableswitch dflt 0 hi offs, len)) (c : Nat) (hc : hi < (c : Int)) (hc2 : c < 2 ^ 31) {tgt : Nat} (ht : (pc : Int) + dflt = (tgt : Int)) (k : J K ws nL Q tgt lv st σ) : J K ws nL Q pc lv (.int (nI c) :: st) σ := by
  obtain ⟨p, l, e, R, s, m, args, below, meth, cd, D, A, ce, sl⟩ := K
  obtain ⟨hx, hb, hml, hown, hts, hK, hA, hSF, ⟨hR1, hR2, hR3, hR4⟩, hr, hlk⟩ := hC
  have e1 : (nI c).toInt = (c : Int) := nI_toInt hc2
  exact fun H locs ls hl hP hD hS => lv_tableOut hx hb hd (Or.inr (by rw [e1]; exact hc)) ht (k H locs ls hl hP hD hS)
set_option maxHeartbeats 2000000 in
theorem loop_step {N : Nat} {Rel : Nat → St → St → Prop} (hSim : Sim N Rel) {K : Kx} {g : Gm} {qx qm : Nat → Nat} {oa b L j k : Nat} {xs : Nat → Int32} {lf : Nat → Int64} {σx σm : St} (hC : Ok K cL_law RL g 7 40 (some .boolean)) (hS : Scr K b L xs) (hL : L ≤ 3072) (hLm : Lim K 705 149213) (hlt : LtK K) (hjk : j = 6 * k) (hj : j + 6 ≤ L) (hk : k < 512) (hR : Rel k σx σm) (kk : ∀ (lf2 : Nat → Int64) (σx2 σm2 : St), Rel (k + 1) σx2 σm2 → J (Kp K (105 + (k + 1)) (145613 + 6 * (k + 1))) (fun _ => LW g qx qm oa lf2 σx2 σm2) 7 (Qlw K) 23 [(0, .ref b), (1, .ref (qx 0)), (2, .ref (qm 0)), (3, .ref oa), (4, .int (nI (j + 6)))] [] ini0) : J (Kp K (105 + k) (145613 + 6 * k)) (fun _ => LW g qx qm oa lf σx σm) 7 (Qlw K) 23 [(0, .ref b), (1, .ref (qx 0)), (2, .ref (qm 0)), (3, .ref oa), (4, .int (nI j))] [] ini0 := by
  have hCk := okp hC hLm (a := 105 + k) (b := 145613 + 6 * k) (by omega) (by omega)
  have hSk := scrp (a2 := 105 + k) (b2 := 145613 + 6 * k) hS
  have hLk : Lim (Kp K (105 + k) (145613 + 6 * k)) 1 6 := limp hLm (by omega) (by omega)
  have hlk := ltkp (a := 105 + k) (b := 145613 + 6 * k) hlt
  have fin : ∀ (lf2 : Nat → Int64) (σx2 σm2 : St), Rel (k + 1) σx2 σm2 → J (Kp K (105 + k) (145613 + 6 * k)) (fun _ => LW g qx qm oa lf2 σx2 σm2) 7 (Qlw K) 864 [(0, .ref b), (1, .ref (qx 0)), (2, .ref (qm 0)), (3, .ref oa), (4, .int (nI j))] [] ini0 := fun lf2 σx2 σm2 hR2 => j_wid (a2 := 105 + (k + 1)) (b2 := 145613 + 6 * (k + 1)) (by omega) (by omega) (loop_inc hC hS hL hLm hjk hj hk (kk lf2 σx2 σm2 hR2))
  have fin2 : ∀ (lf2 : Nat → Int64) (σx2 σm2 : St), Rel (k + 1) σx2 σm2 → J (Kp (Kp K (105 + k) (145613 + 6 * k)) 1 6) (fun _ => LW g qx qm oa lf2 σx2 σm2) 7 (Qlw K) 864 [(0, .ref b), (1, .ref (qx 0)), (2, .ref (qm 0)), (3, .ref oa), (4, .int (nI j))] [] ini0 := fun lf2 σx2 σm2 hR2 => kpkp (j_wid (a2 := 105 + (k + 1)) (b2 := 145613 + 6 * (k + 1)) (by omega) (by omega) (loop_inc hC hS hL hLm hjk hj hk (kk lf2 σx2 σm2 hR2)))
  obtain ⟨hS0, hSk0, s_feed, s_end, s_rules, s_clock, s_fault, s_rule, s_song, s_vote, s_ask, s_lay, s_told, s_play, s_left, s_at, s_rights, s_items, s_count⟩ := hSim
  refine j_iload hCk dL_law_23 4 rfl ?_
  refine j_aload_n hCk dL_law_25 rfl 0 rfl ?_
  refine j_slen hCk hSk dL_law_26 ?_
  refine j_bipush (v := 6) hCk dL_law_27 (by decide) ?_
  refine j_isub hCk dL_law_29 ?_
  refine j_icmp_gt (o := ()) (T := none) (F := some ()) (tgt := 870) hCk dL_law_30 (by decide) (if_neg (fun h => absurd ((gt6 (by omega) hL).mp h) (by omega))) (fun h => by cases h) (fun _ => ?_)
  refine j_aload_n hCk dL_law_33 rfl 0 rfl ?_
  refine j_iload hCk dL_law_34 4 rfl ?_
  refine j_sld hCk hSk j rfl (by omega) hL dL_law_36 ?_
  refine j_bipush (v := 31) hCk dL_law_37 (by decide) ?_
  refine j_iand hCk dL_law_39 ?_
  obtain ⟨c, hc, ec⟩ := sw_in (xs j)
  rw [ec]
  by_cases hc17 : 17 ≤ c
  · exact j_swd (tgt := 864) hCk dL_law_40 c (by omega) (by omega) (by decide) (fin lf σx σm (hSk0 k σx σm hR))
  by_cases hc0 : c = 0
  · subst hc0; refine j_sw (tgt := 124) hCk dL_law_40 0 (by decide) (by decide) rfl (by decide) ?_
    obtain ⟨r, σx2, σm2, e1, e2, hR2⟩ := s_feed (xs (j + 1)) (xs (j + 2)) (xs (j + 3)) (xs (j + 4)) (xs (j + 5)) k σx σm hk hR
    exact law_feed hCk hSk hj hL e1 e2 (fin lf σx2 σm2 hR2)
  by_cases hc1 : c = 1
  · subst hc1; refine j_sw (tgt := 197) hCk dL_law_40 1 (by decide) (by decide) rfl (by decide) ?_
    obtain ⟨r, σx2, σm2, e1, e2, hR2⟩ := s_end (xs (j + 1)) k σx σm hk hR
    exact law_end hCk hSk hj hL e1 e2 (fin lf σx2 σm2 hR2)
  by_cases hc2 : c = 2
  · subst hc2; refine j_sw (tgt := 222) hCk dL_law_40 2 (by decide) (by decide) rfl (by decide) ?_
    obtain ⟨r, σx2, σm2, e1, e2, hR2⟩ := s_rules  k σx σm hk hR
    exact law_rules hCk hSk hj hL e1 e2 (fin lf σx2 σm2 hR2)
  by_cases hc3 : c = 3
  · subst hc3; refine j_sw (tgt := 235) hCk dL_law_40 3 (by decide) (by decide) rfl (by decide) ?_
    rcases s_clock (xs (j + 1)) k σx σm hk hR with ⟨r, σx2, σm2, e1, e2, e3, hR2⟩ | ⟨o, r, σm2, e1, e2, e3, hR2⟩
    · exact law_clock_n hCk hSk hj hL hLk hlk e1 e2 e3 (fun lf2 => fin2 lf2 σx2 σm2 hR2)
    · exact law_clock_x hCk hSk hj hL hLk hlk e1 e2 e3 (fun lf2 => fin2 lf2 o.2 σm2 hR2)
  by_cases hc4 : c = 4
  · subst hc4; refine j_sw (tgt := 291) hCk dL_law_40 4 (by decide) (by decide) rfl (by decide) ?_
    obtain ⟨r, σx2, σm2, e1, e2, hR2⟩ := s_fault  k σx σm hk hR
    exact law_fault hCk hSk hj hL e1 e2 (fin lf σx2 σm2 hR2)
  by_cases hc5 : c = 5
  · subst hc5; refine j_sw (tgt := 304) hCk dL_law_40 5 (by decide) (by decide) rfl (by decide) ?_
    obtain ⟨r, σx2, σm2, e1, e2, hR2⟩ := s_rule (xs (j + 1)) k σx σm hk hR
    exact law_rule hCk hSk hj hL e1 e2 (fin lf σx2 σm2 hR2)
  by_cases hc6 : c = 6
  · subst hc6; refine j_sw (tgt := 329) hCk dL_law_40 6 (by decide) (by decide) rfl (by decide) ?_
    by_cases h5 : xs (j + 5) = 0
    · obtain ⟨r, σx2, σm2, e1, e2, hR2⟩ := s_song (xs (j + 1)) (xs (j + 2)) (xs (j + 3)) (xs (j + 4)) 0 k σx σm hk (Or.inl rfl) hR
      exact law_song_0 hCk hSk hj hL h5 e1 e2 (fin lf σx2 σm2 hR2)
    · obtain ⟨r, σx2, σm2, e1, e2, hR2⟩ := s_song (xs (j + 1)) (xs (j + 2)) (xs (j + 3)) (xs (j + 4)) 1 k σx σm hk (Or.inr rfl) hR
      exact law_song_1 hCk hSk hj hL h5 e1 e2 (fin lf σx2 σm2 hR2)
  by_cases hc7 : c = 7
  · subst hc7; refine j_sw (tgt := 418) hCk dL_law_40 7 (by decide) (by decide) rfl (by decide) ?_
    obtain ⟨r, σx2, σm2, e1, e2, hR2⟩ := s_vote (xs (j + 1)) (xs (j + 2)) k σx σm hk hR
    exact law_vote hCk hSk hj hL e1 e2 (fin lf σx2 σm2 hR2)
  by_cases hc8 : c = 8
  · subst hc8; refine j_sw (tgt := 455) hCk dL_law_40 8 (by decide) (by decide) rfl (by decide) ?_
    obtain ⟨r, σx2, σm2, e1, e2, hR2⟩ := s_ask (xs (j + 1)) k σx σm hk hR
    exact law_ask hCk hSk hj hL e1 e2 (fin lf σx2 σm2 hR2)
  by_cases hc9 : c = 9
  · subst hc9; refine j_sw (tgt := 480) hCk dL_law_40 9 (by decide) (by decide) rfl (by decide) ?_
    rcases s_lay (xs (j + 1)) k σx σm hk hR with ⟨r, σx2, σm2, e1, e2, e3, hR2⟩ | ⟨o, r, σm2, e1, e2, e3, hR2⟩
    · exact law_lay_n hCk hSk hj hL hLk hlk e1 e2 e3 (fun lf2 => fin2 lf2 σx2 σm2 hR2)
    · exact law_lay_x hCk hSk hj hL hLk hlk e1 e2 e3 (fun lf2 => fin2 lf2 o.2 σm2 hR2)
  by_cases hc10 : c = 10
  · subst hc10; refine j_sw (tgt := 536) hCk dL_law_40 10 (by decide) (by decide) rfl (by decide) ?_
    obtain ⟨r, σx2, σm2, e1, e2, hR2⟩ := s_told (xs (j + 1)) (xs (j + 2)) k σx σm hk hR
    exact law_told hCk hSk hj hL e1 e2 (fin lf σx2 σm2 hR2)
  by_cases hc11 : c = 11
  · subst hc11; refine j_sw (tgt := 573) hCk dL_law_40 11 (by decide) (by decide) rfl (by decide) ?_
    rcases s_play (xs (j + 1)) (xs (j + 2)) k σx σm hk hR with ⟨r, σx2, σm2, e1, e2, e3, hR2⟩ | ⟨o, r, σm2, e1, e2, e3, hR2⟩
    · exact law_play_n hCk hSk hj hL hLk hlk e1 e2 e3 (fun lf2 => fin2 lf2 σx2 σm2 hR2)
    · exact law_play_x hCk hSk hj hL hLk hlk e1 e2 e3 (fun lf2 => fin2 lf2 o.2 σm2 hR2)
  by_cases hc12 : c = 12
  · subst hc12; refine j_sw (tgt := 641) hCk dL_law_40 12 (by decide) (by decide) rfl (by decide) ?_
    rcases s_left (xs (j + 1)) (xs (j + 2)) k σx σm hk hR with ⟨r, σx2, σm2, e1, e2, e3, hR2⟩ | ⟨o, r, σm2, e1, e2, e3, hR2⟩
    · exact law_left_n hCk hSk hj hL hLk hlk e1 e2 e3 (fun lf2 => fin2 lf2 σx2 σm2 hR2)
    · exact law_left_x hCk hSk hj hL hLk hlk e1 e2 e3 (fun lf2 => fin2 lf2 o.2 σm2 hR2)
  by_cases hc13 : c = 13
  · subst hc13; refine j_sw (tgt := 709) hCk dL_law_40 13 (by decide) (by decide) rfl (by decide) ?_
    obtain ⟨r, σx2, σm2, e1, e2, hR2⟩ := s_at (xs (j + 1)) k σx σm hk hR
    exact law_at hCk hSk hj hL e1 e2 (fin lf σx2 σm2 hR2)
  by_cases hc14 : c = 14
  · subst hc14; refine j_sw (tgt := 734) hCk dL_law_40 14 (by decide) (by decide) rfl (by decide) ?_
    obtain ⟨r, σx2, σm2, e1, e2, hR2⟩ := s_rights (xs (j + 1)) (xs (j + 2)) (xs (j + 3)) k σx σm hk hR
    exact law_rights hCk hSk hj hL e1 e2 (fin lf σx2 σm2 hR2)
  by_cases hc15 : c = 15
  · subst hc15; refine j_sw (tgt := 783) hCk dL_law_40 15 (by decide) (by decide) rfl (by decide) ?_
    rcases s_items (xs (j + 1)) k σx σm hk hR with ⟨r, σx2, σm2, e1, e2, e3, hR2⟩ | ⟨o, r, σm2, e1, e2, e3, hR2⟩
    · exact law_items_n hCk hSk hj hL hLk hlk e1 e2 e3 (fun lf2 => fin2 lf2 σx2 σm2 hR2)
    · exact law_items_x hCk hSk hj hL hLk hlk e1 e2 e3 (fun lf2 => fin2 lf2 o.2 σm2 hR2)
  by_cases hc16 : c = 16
  · subst hc16; refine j_sw (tgt := 839) hCk dL_law_40 16 (by decide) (by decide) rfl (by decide) ?_
    obtain ⟨r, σx2, σm2, e1, e2, hR2⟩ := s_count (xs (j + 1)) k σx σm hk hR
    exact law_count hCk hSk hj hL e1 e2 (fin lf σx2 σm2 hR2)
  exact absurd hc17 (by omega)
/-- the law's loop -/
theorem law_loop {N : Nat} {Rel : Nat → St → St → Prop} (hSim : Sim N Rel) {K : Kx} {g : Gm} {qx qm : Nat → Nat} {oa b L : Nat} {xs : Nat → Int32} (hC : Ok K cL_law RL g 7 40 (some .boolean)) (hS : Scr K b L xs) (hL : L ≤ 3072) (hLm : Lim K 705 149213) (hlt : LtK K)
    (hend : ∀ (a2 b2 : Nat) (lf : Nat → Int64) (σx σm : St) (lv : List (Nat × Value)), a2 ≤ 705 → b2 ≤ 149213 → J (Kp K a2 b2) (fun _ => LW g qx qm oa lf σx σm) 7 (Qlw K) 870 lv [] ini0) :
    ∀ (n k j : Nat) (lf : Nat → Int64) (σx σm : St), j = 6 * k → L < j + 6 * n → k ≤ 512 → Rel k σx σm → J (Kp K (105 + k) (145613 + 6 * k)) (fun _ => LW g qx qm oa lf σx σm) 7 (Qlw K) 23 [(0, .ref b), (1, .ref (qx 0)), (2, .ref (qm 0)), (3, .ref oa), (4, .int (nI j))] [] ini0 := by
  intro n
  induction n with
  | zero =>
    intro k j lf σx σm hjk hn hk hR
    exact loop_step0 hC hS hL hLm hjk (by omega) hk (hend _ _ _ _ _ _)
  | succ n ih =>
    intro k j lf σx σm hjk hn hk hR
    have hCk := okp hC hLm (a := 105 + k) (b := 145613 + 6 * k) (by omega) (by omega)
    by_cases hj : j + 6 ≤ L
    · exact loop_step hSim hC hS hL hLm hlt hjk hj (by omega) hR (fun lf2 σx2 σm2 hR2 => ih (k + 1) (j + 6) lf2 σx2 σm2 (by omega) (by omega) (by omega) hR2)
    · exact loop_step0 hC hS hL hLm hjk (by omega) hk (hend _ _ _ _ _ _)
