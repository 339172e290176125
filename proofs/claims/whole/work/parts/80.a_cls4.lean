/-! lay: the class's search by depth -/
def ExS (q : Nat → Nat → Nat) (c : Nat → Nat) (lg : Nat → Nat → Prop) (m : Nat) (p e : Nat → Nat) (ext : Int32 → Int32 → Int32 → Int32 → Int32 → St → Option (Int32 × St)) (r : List Nat) : Prop := ∀ (σ : St) (U W : Nat → Nat) (P : List Nat → Prop) (b : Option (List Nat)), InX q c σ → Po q c lg m p e σ → UWx c U W σ → Fre q c lg U W r → BeX q c σ b → IsB q c P b → Bf b r → RowAt (ga σ 24) 0 r → ∃ (b2 : Option (List Nat)) (σ2 : St), ext (nI r.length) (nI (c 0 + sm (q 0) r)) (kyI q c r) (nI (sm (q 3) r)) (nI (sm (q 4) r)) σ = some (nI 0, σ2) ∧ BeX q c σ2 b2 ∧ IsB q c (fun x => P x ∨ (Ad q c lg x ∧ Ex r x)) b2 ∧ (b2 = b ∨ ∃ x, b2 = some x ∧ Ex r x) ∧ FrS r.length σ σ2
theorem lx_up {s t : Nat} (h : s < t) (r a d : List Nat) : lx (a ++ (s :: r)).reverse (d ++ (t :: r)).reverse := by
  rw [List.reverse_append, List.reverse_append, List.reverse_cons, List.reverse_cons, List.append_assoc, List.append_assoc, lx_app]
  exact Or.inl h
theorem lx_ext (r : List Nat) {a : List Nat} (h : a ≠ []) : lx r.reverse (a ++ r).reverse := by
  have e : r.reverse = r.reverse ++ [] := (List.append_nil _).symm
  rw [List.reverse_append, e, List.append_assoc, lx_app]
  cases ha : a.reverse with
  | nil => exact absurd (List.reverse_eq_nil_iff.mp ha) h
  | cons _ _ => trivial
/-- one song more: compare the row, go on from it -/
theorem x_next (N : Nat) (hN : 10 < N) {q : Nat → Nat → Nat} {c : Nat → Nat} {lg : Nat → Nat → Prop} {m : Nat} {p e U W : Nat → Nat} (ext : Int32 → Int32 → Int32 → Int32 → Int32 → St → Option (Int32 × St)) (r : List Nat) (hf : Fs q c lg r) (hl : r.length + 2 ≤ c 4) (hfr : Fre q c lg U W r) {s : Nat} (hcan : can q c lg r s) (hx : ExS q c lg m p e ext (s :: r)) {σ : St} {P : List Nat → Prop} {b : Option (List Nat)} (h : InX q c σ) (hp : Po q c lg m p e σ) (hu : UWx c U W σ) (hb : BeX q c σ b) (hr : RowAt (ga σ 24) 0 r) (hI : IsB q c P b) (hlx : ∀ r0, b = some r0 → ∀ a, lx r0.reverse (a ++ (s :: r)).reverse) : ∃ (b2 : Option (List Nat)) (σ2 : St), X2_tryNext_f N ext (nI r.length) (nI s) (nI (c 0 + sm (q 0) r)) (nI (sm (q 3) r)) (nI (sm (q 4) r)) σ = some (nI 0, σ2) ∧ BeX q c σ2 b2 ∧ IsB q c (fun x => P x ∨ (Ad q c lg x ∧ ∃ a, x = a ++ (s :: r))) b2 ∧ (b2 = b ∨ ∃ a, b2 = some (a ++ (s :: r))) ∧ FrS r.length σ σ2 := by
  have hrm := Fs_lt hf
  have hsum := Fs_sum _ hf
  obtain ⟨t0, t3, t4⟩ := sm_bx h hrm
  obtain ⟨h24, -, h3, g20, g21, -, -, g25, -, c5, c6, -, c4a, c4b, c0, c1, c2, c9, c3⟩ := id h
  have hs := hcan.1
  have hcs := hcan.2.2.1
  obtain ⟨x4, x5, x6, x25, x8, b1, b2, b3, b4, b5, b6⟩ := h3 s hs
  have w0 : sm (q 0) (s :: r) = sm (q 0) r + q 0 s := rfl
  have w3 : sm (q 3) (s :: r) = sm (q 3) r + q 3 s := rfl
  have w4 : sm (q 4) (s :: r) = sm (q 4) r + q 4 s := rfl
  obtain ⟨u1, u2⟩ := hu.1 s hs
  obtain ⟨v1, v2⟩ := hu.2 (q 1 s) (by omega)
  have fr0 := (hfr s hs (c 0 + sm (q 0) r) (Nat.le_refl _)).mpr ⟨hcan.2.2.2.1, hcan.2.2.2.2.1⟩
  have hm2 : ∀ x, x ∈ s :: r → x < c 8 := fun x hx => by
    rcases List.mem_cons.mp hx with u | u
    · rw [u]
      exact hs
    · exact hrm x u
  have frr : FrS r.length σ (sa σ 24 r.length (nI s)) := ⟨fun _ _ _ _ => rfl, fun a a1 a2 => by rw [ga_sa, if_neg a2], fun k hk => by
    rw [ga_sa, if_pos rfl, upd_e, if_neg (by omega)]⟩
  have hr2 : RowAt (ga (sa σ 24 r.length (nI s)) 24) 0 (s :: r) := ⟨by
    rw [Nat.zero_add, ga_sa, if_pos rfl, upd_e, if_pos rfl], RowAt_fr hr frr (Nat.le_refl _)⟩
  obtain ⟨ba, σa, k1, k2, k3, k4, k5⟩ := x_cmp N hN (InX_fr h frr) (BeX_cg hb rfl rfl rfl rfl) (s :: r) (by show 1 ≤ r.length + 1; omega) (by show r.length + 1 ≤ 4; omega) hr2 hm2
  have fra : FrS r.length σ σa := FrS_tr frr ⟨k4, fun a a1 _ => k5 a a1, fun k _ => by rw [k5 24 (by omega)]⟩
  have hIa : IsB q c (fun x => P x ∨ (x = s :: r ∧ Ad q c lg (s :: r))) ba ∧ Bf ba (s :: r) ∧ (ba = b ∨ ba = some (s :: r)) := by
    rcases k3 with ⟨o1, o2, o3⟩ | ⟨o1, o2⟩
    · have had : Ad q c lg (s :: r) := ⟨⟨hf, hcan⟩, List.cons_ne_nil _ _, by show r.length + 1 ≤ c 4; omega, by
        cases b with
        | none => exact o1
        | some r0 =>
          have := hb.2.2.2.2.2.2.2
          have o1b : c 1 - sm (q 0) (s :: r) < c 1 - sm (q 0) r0 ∨ (c 1 - sm (q 0) (s :: r) = c 1 - sm (q 0) r0 ∧ sm (q 3) r0 < sm (q 3) (s :: r)) := o1
          omega, o2⟩
      rw [o3]
      refine ⟨IsB_tk hI had o1, fun r0 z x hx => ?_, Or.inr rfl⟩
      obtain ⟨a, ha, hxa⟩ := hx
      cases z
      rw [hxa]
      exact lx_ext _ ha
    · rw [o2]
      refine ⟨IsB_out hI (fun had => ?_), fun r0 z x hx => ?_, Or.inl rfl⟩
      · have nb : ¬ btr q c b (c 1 - sm (q 0) (s :: r)) (sm (q 3) (s :: r)) := fun o => o1 ⟨o, had.2.2.2.2⟩
        cases b with
        | none => exact absurd had.2.2.2.1 nb
        | some r0 =>
          refine ⟨r0, rfl, Or.inr ?_⟩
          have nb2 : ¬ (c 1 - sm (q 0) (s :: r) < c 1 - sm (q 0) r0 ∨ (c 1 - sm (q 0) (s :: r) = c 1 - sm (q 0) r0 ∧ sm (q 3) r0 < sm (q 3) (s :: r))) := nb
          unfold bb vb
          by_cases y1 : c 1 - sm (q 0) r0 < c 1 - sm (q 0) (s :: r)
          · exact Or.inl (Or.inl y1)
          · by_cases y2 : sm (q 3) (s :: r) < sm (q 3) r0
            · exact Or.inl (Or.inr ⟨by omega, y2⟩)
            · exact Or.inr ⟨by omega, by omega, hlx r0 rfl []⟩
      · obtain ⟨a, ha, hxa⟩ := hx
        rw [hxa]
        exact hlx r0 z a
  have g20a : gi σa 20 = nI (c 5) := by rw [fra.1 20 (by omega) (by omega) (by omega)]; exact g20
  have g21a : gi σa 21 = nI (c 6) := by rw [fra.1 21 (by omega) (by omega) (by omega)]; exact g21
  have x6a : ga σa 6 s = nI (q 2 s) := by rw [fra.2.1 6 (by omega) (by omega)]; exact x6
  have hua := UWx_fr hu fra
  have inb : InX q c (sa (sa σa 26 s (nI (c 0 + sm (q 0) r + c 5))) 27 (q 1 s) (nI (c 0 + sm (q 0) r + c 6))) := (InX_fr h fra : InX q c σa)
  have pob : Po q c lg m p e (sa (sa σa 26 s (nI (c 0 + sm (q 0) r + c 5))) 27 (q 1 s) (nI (c 0 + sm (q 0) r + c 6))) := (Po_fr hp fra : Po q c lg m p e σa)
  have uwb : UWx c (updN U s (c 0 + sm (q 0) r + c 5)) (updN W (q 1 s) (c 0 + sm (q 0) r + c 6)) (sa (sa σa 26 s (nI (c 0 + sm (q 0) r + c 5))) 27 (q 1 s) (nI (c 0 + sm (q 0) r + c 6))) := by
    refine ⟨fun y hy => ?_, fun y hy => ?_⟩
    · simp only [gi_si, gi_sg, gi_sa, gi_sl, ga_si, ga_sg2, ga_sa, ga_sl, gl_si, gl_sg, gl_sa, gl_sl, Nat.not_lt_zero, Nat.le_zero_eq, Nat.zero_le, not_true_eq_false, not_false_eq_true, reduceIte, if_true, if_false, ite_self, Bool.false_eq_true, Nat.reduceEqDiff, Nat.reduceAdd, Nat.reduceMul, Nat.reduceSub, Nat.reduceLT, Nat.reduceLeDiff, Nat.reducePow, upd_e, updN]
      by_cases z : y = s
      · rw [if_pos z, if_pos z]
        exact ⟨rfl, by omega⟩
      · rw [if_neg z, if_neg z]
        exact hua.1 y hy
    · simp only [gi_si, gi_sg, gi_sa, gi_sl, ga_si, ga_sg2, ga_sa, ga_sl, gl_si, gl_sg, gl_sa, gl_sl, Nat.not_lt_zero, Nat.le_zero_eq, Nat.zero_le, not_true_eq_false, not_false_eq_true, reduceIte, if_true, if_false, ite_self, Bool.false_eq_true, Nat.reduceEqDiff, Nat.reduceAdd, Nat.reduceMul, Nat.reduceSub, Nat.reduceLT, Nat.reduceLeDiff, Nat.reducePow, upd_e, updN]
      by_cases z : y = q 1 s
      · rw [if_pos z, if_pos z]
        exact ⟨rfl, by omega⟩
      · rw [if_neg z, if_neg z]
        exact hua.2 y hy
  have hra : RowAt (ga σa 24) 0 (s :: r) := by
    rw [k5 24 (by omega)]
    exact hr2
  obtain ⟨bc, σc, m1, m2, m3, m4, m5⟩ := hx (sa (sa σa 26 s (nI (c 0 + sm (q 0) r + c 5))) 27 (q 1 s) (nI (c 0 + sm (q 0) r + c 6))) _ _ _ ba inb pob uwb (Fre_s hfr hs fr0.1 fr0.2) (BeX_cg k2 rfl rfl rfl rfl) hIa.1 hIa.2.1 hra
  have a26 : upd (ga σc 26) s (ga σ 26 s) = ga σ 26 := by
    rw [m5.2.1 26 (by omega) (by omega)]
    funext j
    simp only [gi_si, gi_sg, gi_sa, gi_sl, ga_si, ga_sg2, ga_sa, ga_sl, gl_si, gl_sg, gl_sa, gl_sl, Nat.not_lt_zero, Nat.le_zero_eq, Nat.zero_le, not_true_eq_false, not_false_eq_true, reduceIte, if_true, if_false, ite_self, Bool.false_eq_true, Nat.reduceEqDiff, Nat.reduceAdd, Nat.reduceMul, Nat.reduceSub, Nat.reduceLT, Nat.reduceLeDiff, Nat.reducePow, upd_e]
    by_cases z : j = s
    · rw [if_pos z, z]
    · rw [if_neg z, if_neg z, fra.2.1 26 (by omega) (by omega)]
  have a27 : upd (ga σc 27) (q 1 s) (ga σ 27 (q 1 s)) = ga σ 27 := by
    rw [m5.2.1 27 (by omega) (by omega)]
    funext j
    simp only [gi_si, gi_sg, gi_sa, gi_sl, ga_si, ga_sg2, ga_sa, ga_sl, gl_si, gl_sg, gl_sa, gl_sl, Nat.not_lt_zero, Nat.le_zero_eq, Nat.zero_le, not_true_eq_false, not_false_eq_true, reduceIte, if_true, if_false, ite_self, Bool.false_eq_true, Nat.reduceEqDiff, Nat.reduceAdd, Nat.reduceMul, Nat.reduceSub, Nat.reduceLT, Nat.reduceLeDiff, Nat.reducePow, upd_e]
    by_cases z : j = q 1 s
    · rw [if_pos z, z]
    · rw [if_neg z, if_neg z, fra.2.1 27 (by omega) (by omega)]
  refine ⟨bc, sa (sa σc 26 s (nI (U s))) 27 (q 1 s) (nI (W (q 1 s))), ?_, BeX_cg m2 rfl rfl rfl rfl, IsB_iff m3 fun x => ?_, ?_, fun j j1 j2 j3 => ?_, fun a a1 a2 => ?_, fun k hk => ?_⟩
  · have k1b : X2_compare_f N (nI (r.length + 1)) (nI (c 0 + c 1 - (c 0 + sm (q 0) r + q 0 s))) (nI (sm (q 3) r + q 3 s)) (nI (sm (q 4) r + q 4 s)) (sa σ 24 r.length (nI s)) = some (nI 0, σa) := by
      rw [← k1, w0, w3, w4, show c 0 + c 1 - (c 0 + sm (q 0) r + q 0 s) = c 1 - (sm (q 0) r + q 0 s) by omega]
      rfl
    have m1b : ext (nI (r.length + 1)) (nI (c 0 + sm (q 0) r + q 0 s)) (nI (q 2 s)) (nI (sm (q 3) r + q 3 s)) (nI (sm (q 4) r + q 4 s)) (sa (sa σa 26 s (nI (c 0 + sm (q 0) r + c 5))) 27 (q 1 s) (nI (c 0 + sm (q 0) r + c 6))) = some (nI 0, σc) := by
      rw [← m1, w0, w3, w4, Nat.add_assoc (c 0)]
      rfl
    unfold X2_tryNext_f
    simp (disch := omega) only [if_pos, if_neg, bnd_e, cal_e, chk_t, isZ_0, isZ_1, isZ_n0, isZ_n1, ald_n, ast_n, stb_n, litI, nI_add, pk_mul, pk_sub, Nat.add_sub_cancel, nar_0, nar_1, nI_leI, nI_ltI, nI_eq, Nat.not_lt_zero, Nat.le_zero_eq, Nat.zero_le, not_true_eq_false, not_false_eq_true, reduceIte, if_true, if_false, ite_self, Bool.false_eq_true, Nat.reduceEqDiff, Nat.reduceAdd, Nat.reduceMul, Nat.reduceSub, Nat.reduceLT, Nat.reduceLeDiff, Nat.reducePow, gi_si, gi_sg, gi_sa, gi_sl, ga_si, ga_sg2, ga_sa, ga_sl, gl_si, gl_sg, gl_sa, gl_sl, x4, x5, x25, x8, u1, v1, g25, k1b, g20a, g21a, x6a, m1b]
  · constructor
    · rintro ((y | ⟨y1, y2⟩) | ⟨y1, a, y2, y3⟩)
      · exact Or.inl y
      · exact Or.inr ⟨by rw [y1]; exact y2, [], y1⟩
      · exact Or.inr ⟨y1, a, y3⟩
    · rintro (y | ⟨y1, a, y2⟩)
      · exact Or.inl (Or.inl y)
      · cases a with
        | nil => exact Or.inl (Or.inr ⟨y2, by rw [show s :: r = x from y2.symm]; exact y1⟩)
        | cons z a => exact Or.inr ⟨y1, z :: a, List.cons_ne_nil _ _, y2⟩
  · rcases m4 with y | ⟨x, y1, a, -, y2⟩
    · rw [y]
      rcases hIa.2.2 with z | z
      · exact Or.inl z
      · exact Or.inr ⟨[], z⟩
    · exact Or.inr ⟨a, by rw [y1, y2]⟩
  · rw [gi_sa, gi_sa, m5.1 j j1 j2 j3, gi_sa, gi_sa]
    exact fra.1 j j1 j2 j3
  · by_cases z : a = 27
    · subst z
      rw [ga_sa, if_pos rfl, ga_sa, if_neg (by omega), ← v1]
      exact a27
    · rw [ga_sa, if_neg z]
      by_cases y : a = 26
      · subst y
        rw [ga_sa, if_pos rfl, ← u1]
        exact a26
      · rw [ga_sa, if_neg y, m5.2.1 a a1 a2, ga_sa, if_neg z, ga_sa, if_neg y]
        exact fra.2.1 a a1 a2
  · have hk2 : k < (s :: r).length := Nat.lt_succ_of_lt hk
    rw [ga_sa, if_neg (by omega), ga_sa, if_neg (by omega), m5.2.2 k hk2]
    exact fra.2.2 k hk
theorem ext_l (N : Nat) (hN : 10 < N) {q : Nat → Nat → Nat} {c : Nat → Nat} {lg : Nat → Nat → Prop} {m : Nat} {p e U W : Nat → Nat} (ext : Int32 → Int32 → Int32 → Int32 → Int32 → St → Option (Int32 × St)) (r : List Nat) (hf : Fs q c lg r) (hl : r.length + 2 ≤ c 4) (hfr : Fre q c lg U W r) (hx : ∀ s, can q c lg r s → ExS q c lg m p e ext (s :: r)) {P : List Nat → Prop} {b0 : Option (List Nat)} (hbf : Bf b0 r) : ∀ (d i n : Nat) (σ : St) (b : Option (List Nat)), InX q c σ → Po q c lg m p e σ → UWx c U W σ → BeX q c σ b → RowAt (ga σ 24) 0 r → IsB q c (fun x => P x ∨ (Ad q c lg x ∧ ∃ j a, j < i ∧ x = a ++ (p j :: r))) b → (b = b0 ∨ ∃ j a, j < i ∧ b = some (a ++ (p j :: r))) → i + d = m → d < n → ∃ (b2 : Option (List Nat)) (σ2 : St), X2_extend_l56 N ext n (nI r.length) (nI (c 0 + sm (q 0) r)) (kyI q c r) (nI (sm (q 3) r)) (nI (sm (q 4) r)) (nI i) σ = some (nI 0, σ2) ∧ BeX q c σ2 b2 ∧ IsB q c (fun x => P x ∨ (Ad q c lg x ∧ ∃ j a, j < m ∧ x = a ++ (p j :: r))) b2 ∧ (b2 = b0 ∨ ∃ j a, j < m ∧ b2 = some (a ++ (p j :: r))) ∧ FrS r.length σ σ2
  | _, _, 0, _, _, _, _, _, _, _, _, _, _, h => absurd h (by omega)
  | 0, i, n + 1, σ, b, h, hp, hu, hb, hr, hI, ho, h1, h2 => by
    obtain rfl : i = m := by omega
    have e17 := hp.2.1
    have hm := hp.1
    have h24 := h.1
    refine ⟨b, σ, ?_, hb, hI, ho, FrS_rfl _ σ⟩
    rw [X2_extend_l56.eq_def]
    simp (disch := omega) only [if_pos, if_neg, bnd_e, cal_e, chk_t, isZ_0, isZ_1, isZ_n0, isZ_n1, ald_n, ast_n, stb_n, litI, nI_add, pk_mul, pk_sub, Nat.add_sub_cancel, nar_0, nar_1, nI_leI, nI_ltI, nI_eq, Nat.not_lt_zero, Nat.le_zero_eq, Nat.zero_le, not_true_eq_false, not_false_eq_true, reduceIte, if_true, if_false, ite_self, Bool.false_eq_true, Nat.reduceEqDiff, Nat.reduceAdd, Nat.reduceMul, Nat.reduceSub, Nat.reduceLT, Nat.reduceLeDiff, Nat.reducePow, gi_si, gi_sg, gi_sa, gi_sl, ga_si, ga_sg2, ga_sa, ga_sl, gl_si, gl_sg, gl_sa, gl_sl, e17]
  | d + 1, i, n + 1, σ, b, h, hp, hu, hb, hr, hI, ho, h1, h2 => by
    have e17 := hp.2.1
    have hm := hp.1
    have hrm := Fs_lt hf
    have hsum := Fs_sum _ hf
    obtain ⟨h24, -, h3, -, -, -, -, g25, g26, -, -, -, c4a, c4b, c0, c1, c2, c9, c3⟩ := id h
    obtain ⟨p1, -, p3, -, p5, -⟩ := hp.2.2.1 i (by omega)
    obtain ⟨x4, x5, x6, x25, x8, b1, b2, b3, b4, b5, b6⟩ := h3 _ p3
    have so := hp.2.2.2.1
    have grow : ∀ {b2 : Option (List Nat)}, IsB q c (fun x => (P x ∨ (Ad q c lg x ∧ ∃ j a, j < i ∧ x = a ++ (p j :: r))) ∨ (Ad q c lg x ∧ ∃ a, x = a ++ (p i :: r))) b2 → IsB q c (fun x => P x ∨ (Ad q c lg x ∧ ∃ j a, j < i + 1 ∧ x = a ++ (p j :: r))) b2 := fun hh => IsB_iff hh fun x => by
      constructor
      · rintro ((y | ⟨y1, j, a, y2, y3⟩) | ⟨y1, a, y2⟩)
        · exact Or.inl y
        · exact Or.inr ⟨y1, j, a, by omega, y3⟩
        · exact Or.inr ⟨y1, i, a, by omega, y2⟩
      · rintro (y | ⟨y1, j, a, y2, y3⟩)
        · exact Or.inl (Or.inl y)
        · by_cases v : j < i
          · exact Or.inl (Or.inr ⟨y1, j, a, v, y3⟩)
          · obtain rfl : j = i := by omega
            exact Or.inr ⟨y1, a, y3⟩
    have nx : ¬ can q c lg r (p i) → IsB q c (fun x => P x ∨ (Ad q c lg x ∧ ∃ j a, j < i + 1 ∧ x = a ++ (p j :: r))) b := fun hn => grow (IsB_no hI (fun x ⟨hx1, a, hx2⟩ => by
      have := hx1.1
      rw [hx2] at this
      exact hn (Fs_tail a (p i :: r) this).2))
    have go : ∀ (σ2 : St) (b2 : Option (List Nat)), BeX q c σ2 b2 → IsB q c (fun x => P x ∨ (Ad q c lg x ∧ ∃ j a, j < i + 1 ∧ x = a ++ (p j :: r))) b2 → (b2 = b0 ∨ ∃ j a, j < i + 1 ∧ b2 = some (a ++ (p j :: r))) → FrS r.length σ σ2 → X2_extend_l56 N ext (n + 1) (nI r.length) (nI (c 0 + sm (q 0) r)) (kyI q c r) (nI (sm (q 3) r)) (nI (sm (q 4) r)) (nI i) σ = X2_extend_l56 N ext n (nI r.length) (nI (c 0 + sm (q 0) r)) (kyI q c r) (nI (sm (q 3) r)) (nI (sm (q 4) r)) (nI (i + 1)) σ2 → ∃ (b2 : Option (List Nat)) (σ2 : St), X2_extend_l56 N ext (n + 1) (nI r.length) (nI (c 0 + sm (q 0) r)) (kyI q c r) (nI (sm (q 3) r)) (nI (sm (q 4) r)) (nI i) σ = some (nI 0, σ2) ∧ BeX q c σ2 b2 ∧ IsB q c (fun x => P x ∨ (Ad q c lg x ∧ ∃ j a, j < m ∧ x = a ++ (p j :: r))) b2 ∧ (b2 = b0 ∨ ∃ j a, j < m ∧ b2 = some (a ++ (p j :: r))) ∧ FrS r.length σ σ2 := fun σ2 b2 k1 k2 k3 k4 k5 => by
      obtain ⟨b3, σ3, s1, s2, s3, s4, s5⟩ := ext_l N hN ext r hf hl hfr hx hbf d (i + 1) n σ2 b2 (InX_fr h k4) (Po_fr hp k4) (UWx_fr hu k4) k1 (RowAt_fr hr k4 (Nat.le_refl _)) k2 k3 (by omega) (by omega)
      exact ⟨b3, σ3, k5.trans s1, s2, s3, s4, FrS_tr k4 s5⟩
    have ho2 : b = b0 ∨ ∃ j a, j < i + 1 ∧ b = some (a ++ (p j :: r)) := ho.imp id (fun ⟨j, a, j1, j2⟩ => ⟨j, a, by omega, j2⟩)
    by_cases z : c 1 - sm (q 0) r < q 0 (p i)
    · refine go σ b hb (nx (fun y => absurd y.2.2.1 (by omega))) ho2 (FrS_rfl _ σ) ?_
      rw [X2_extend_l56.eq_def]
      unfold X2_extend_l116
      simp (disch := omega) only [if_pos, if_neg, bnd_e, cal_e, chk_t, isZ_0, isZ_1, isZ_n0, isZ_n1, ald_n, ast_n, stb_n, litI, nI_add, pk_mul, pk_sub, Nat.add_sub_cancel, nar_0, nar_1, nI_leI, nI_ltI, nI_eq, Nat.not_lt_zero, Nat.le_zero_eq, Nat.zero_le, not_true_eq_false, not_false_eq_true, reduceIte, if_true, if_false, ite_self, Bool.false_eq_true, Nat.reduceEqDiff, Nat.reduceAdd, Nat.reduceMul, Nat.reduceSub, Nat.reduceLT, Nat.reduceLeDiff, Nat.reducePow, gi_si, gi_sg, gi_sa, gi_sl, ga_si, ga_sg2, ga_sa, ga_sl, gl_si, gl_sg, gl_sa, gl_sl, e17, p1, x4, g25]
    have mb := x_may N h hu (s := p i) (t := c 0 + sm (q 0) r) p3 (by omega) r hrm
    have fr := hfr (p i) p3 (c 0 + sm (q 0) r) (Nat.le_refl _)
    by_cases y : (U (p i) ≤ c 0 + sm (q 0) r ∧ W (q 1 (p i)) ≤ c 0 + sm (q 0) r) ∧ okK q c r (p i)
    · have hcan : can q c lg r (p i) := ⟨p3, p5, by omega, (fr.mp y.1).1, (fr.mp y.1).2, y.2⟩
      have mb1 := mb.1 y
      obtain ⟨b2, σ2, k1, k2, k3, k4, k5⟩ := x_next N hN ext r hf hl hfr hcan (hx _ hcan) h hp hu hb hr hI (fun r0 hz a => by
        rcases ho with o | ⟨j, d2, j1, j2⟩
        · exact hbf r0 (by rw [← o, hz]) _ ⟨a ++ [p i], fun w => by
            have := congrArg List.length w
            rw [List.length_append] at this
            exact absurd this (Nat.succ_ne_zero _), by rw [List.append_assoc]; rfl⟩
        · rw [hz] at j2
          cases j2
          exact lx_up (so j i j1 (by omega)) r d2 a)
      refine go σ2 b2 k2 (grow k3) ?_ k5 ?_
      · rcases k4 with o | ⟨a, o⟩
        · rw [o]
          exact ho2
        · exact Or.inr ⟨i, a, by omega, o⟩
      · rw [X2_extend_l56.eq_def]
        unfold X2_extend_l116
        simp (disch := omega) only [if_pos, if_neg, bnd_e, cal_e, chk_t, isZ_0, isZ_1, isZ_n0, isZ_n1, ald_n, ast_n, stb_n, litI, nI_add, pk_mul, pk_sub, Nat.add_sub_cancel, nar_0, nar_1, nI_leI, nI_ltI, nI_eq, Nat.not_lt_zero, Nat.le_zero_eq, Nat.zero_le, not_true_eq_false, not_false_eq_true, reduceIte, if_true, if_false, ite_self, Bool.false_eq_true, Nat.reduceEqDiff, Nat.reduceAdd, Nat.reduceMul, Nat.reduceSub, Nat.reduceLT, Nat.reduceLeDiff, Nat.reducePow, gi_si, gi_sg, gi_sa, gi_sl, ga_si, ga_sg2, ga_sa, ga_sl, gl_si, gl_sg, gl_sa, gl_sl, e17, p1, x4, g25, mb1, k1]
    · have mb0 := mb.2 y
      refine go σ b hb (nx (fun u => y ⟨fr.mpr ⟨u.2.2.2.1, u.2.2.2.2.1⟩, u.2.2.2.2.2⟩)) ho2 (FrS_rfl _ σ) ?_
      rw [X2_extend_l56.eq_def]
      unfold X2_extend_l116
      simp (disch := omega) only [if_pos, if_neg, bnd_e, cal_e, chk_t, isZ_0, isZ_1, isZ_n0, isZ_n1, ald_n, ast_n, stb_n, litI, nI_add, pk_mul, pk_sub, Nat.add_sub_cancel, nar_0, nar_1, nI_leI, nI_ltI, nI_eq, Nat.not_lt_zero, Nat.le_zero_eq, Nat.zero_le, not_true_eq_false, not_false_eq_true, reduceIte, if_true, if_false, ite_self, Bool.false_eq_true, Nat.reduceEqDiff, Nat.reduceAdd, Nat.reduceMul, Nat.reduceSub, Nat.reduceLT, Nat.reduceLeDiff, Nat.reducePow, gi_si, gi_sg, gi_sa, gi_sl, ga_si, ga_sg2, ga_sa, ga_sl, gl_si, gl_sg, gl_sa, gl_sl, e17, p1, x4, g25, mb0]
