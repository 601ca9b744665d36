/-! the reference's game -/
def rv (one : Nat) (J : Nat → Bool) (n : Nat) : Nat → Nat → Bool → Bool
  | 0, c, _ => J c
  | d + 1, c, l => if l then anyU (fun k => decide (dg c k = 0) && rv one J n d (c + one * 3 ^ k) false) n else allU (fun k => !decide (dg c k = 0) || rv one J n d (c + (3 - one) * 3 ^ k) true) n
noncomputable def jB (P : Prop) : Bool := @decide P (Classical.propDecidable _)
theorem jB_t {P : Prop} (h : P) : jB P = true := by unfold jB; exact @decide_eq_true _ (Classical.propDecidable _) h
theorem jB_f {P : Prop} (h : ¬ P) : jB P = false := by unfold jB; exact @decide_eq_false _ (Classical.propDecidable _) h
theorem jB_iff {P : Prop} : jB P = true ↔ P := by unfold jB; exact @decide_eq_true_iff _ (Classical.propDecidable _)
noncomputable def jb (R C : Nat) (b ey : Nat → Nat) (em one : Nat) (c : Nat) : Bool := jB (mJ R C (mFill b ey c em) one)
noncomputable def jl (R C : Nat) (b ey : Nat → Nat) (em one x y : Nat) (c : Nat) : Bool := jB (mFill b ey c em x = one ∧ mFill b ey c em y = one ∧ mG R C (mFill b ey c em) x y)
def wOwn (J : Nat → Bool) (one n c k : Nat) : Bool := rv one J n (zs c n - 1) (c + one * 3 ^ k) false
def wOth (J : Nat → Bool) (one n c k : Nat) : Bool := rv one J n (zs c n - 1) (c + (3 - one) * 3 ^ k) true
def wOp (J : Nat → Bool) (one n c k : Nat) : Bool := decide (dg c k = 0) && wOwn J one n c k
def wTp (J : Nat → Bool) (one n c k : Nat) : Bool := !decide (dg c k = 0) || wOth J one n c k
def wyP (J : Nat → Bool) (one n m : Nat) (y1 y2 : Nat → Bool) : Prop := ∀ c, m ≤ c → c < 3 ^ n → y1 c = rv one J n (zs c n) c (decide (one = 1)) ∧ y2 c = rv one J n (zs c n) c (decide (one = 2))
def flP (c k : Nat) (fl : Bool) : Prop := fl = true ↔ ∀ j, j < k → dg c j ≠ 0
theorem fl_0 {c : Nat} : flP c 0 true := ⟨fun _ j hj => absurd hj (Nat.not_lt_zero j), fun _ => rfl⟩
theorem fl_n1 {c k : Nat} {fl : Bool} (h : flP c k fl) (hf : fl = false) : flP c (k + 1) false := ⟨fun h9 => (by cases h9), fun h9 => by have := h.mpr (fun j hj => h9 j (by omega)); rw [hf] at this; exact this⟩
theorem fl_n2 {c k : Nat} (hd : dg c k = 0) : flP c (k + 1) false := ⟨fun h9 => (by cases h9), fun h9 => absurd hd (h9 k (Nat.lt_succ_self k))⟩
theorem fl_y {c k : Nat} {fl : Bool} (h : flP c k fl) (hf : fl = true) (hd : 0 < dg c k) : flP c (k + 1) true := ⟨fun _ j hj => by
  rcases Nat.eq_or_lt_of_le (Nat.le_of_lt_succ hj) with e | e
  · rw [e]; omega
  · exact h.mp hf j e, fun _ => rfl⟩
theorem zs_none {c : Nat} : ∀ {n : Nat}, (∀ j, j < n → dg c j ≠ 0) → zs c n = 0
  | 0, _ => rfl
  | n + 1, h => by unfold zs; rw [zs_none (fun j hj => h j (by omega)), if_neg (h n (Nat.lt_succ_self n))]
theorem zs_some {c k : Nat} : ∀ {n : Nat}, k < n → dg c k = 0 → 0 < zs c n
  | 0, h, _ => absurd h (Nat.not_lt_zero _)
  | n + 1, h, e => by
    unfold zs
    rcases Nat.eq_or_lt_of_le (Nat.le_of_lt_succ h) with q | q
    · rw [← q, if_pos e]; omega
    · have := zs_some q e; omega
theorem wy_full {J : Nat → Bool} {one n c : Nat} {y1 y2 : Nat → Bool} {v : Bool} (h : wyP J one n (c + 1) y1 y2) (hf : ∀ j, j < n → dg c j ≠ 0) (hv : J c = v) : wyP J one n c (uB y1 c v) (uB y2 c v) := by
  intro x h1 h2
  by_cases e : x = c
  · rw [e, uB_s, uB_s, zs_none hf]; exact ⟨hv.symm, hv.symm⟩
  · rw [uB_n e, uB_n e]; exact h x (by omega) h2
theorem an_s {p : Nat → Bool} {ow x : Bool} {k : Nat} (h : ow = anyU p k) (hp : p k = x) : (ow || x) = anyU p (k + 1) := by show _ = (anyU p k || p k); rw [h, hp]
theorem an_n {p : Nat → Bool} {ow : Bool} {k : Nat} (h : ow = anyU p k) (hp : p k = false) : ow = anyU p (k + 1) := by show _ = (anyU p k || p k); rw [h, hp, Bool.or_false]
theorem al_s {p : Nat → Bool} {ot x : Bool} {k : Nat} (h : ot = allU p k) (hp : p k = x) : (ot && x) = allU p (k + 1) := by show _ = (allU p k && p k); rw [h, hp]
theorem al_n {p : Nat → Bool} {ot : Bool} {k : Nat} (h : ot = allU p k) (hp : p k = true) : ot = allU p (k + 1) := by show _ = (allU p k && p k); rw [h, hp, Bool.and_true]
theorem wOp_0 {J : Nat → Bool} {one n c k : Nat} (h : dg c k = 0) : wOp J one n c k = wOwn J one n c k := by unfold wOp; rw [decide_eq_true h]; rfl
theorem wOp_n {J : Nat → Bool} {one n c k : Nat} (h : ¬ dg c k = 0) : wOp J one n c k = false := by unfold wOp; rw [decide_eq_false h]; rfl
theorem wTp_0 {J : Nat → Bool} {one n c k : Nat} (h : dg c k = 0) : wTp J one n c k = wOth J one n c k := by unfold wTp; rw [decide_eq_true h]; rfl
theorem wTp_n {J : Nat → Bool} {one n c k : Nat} (h : ¬ dg c k = 0) : wTp J one n c k = true := by unfold wTp; rw [decide_eq_false h]; rfl
theorem wy_at {J : Nat → Bool} {one n c k a : Nat} {y1 y2 : Nat → Bool} (h : wyP J one n (c + 1) y1 y2) (hc : c < 3 ^ n) (h0 : dg c k = 0) (hk : k < n) (ha : a = 1 ∨ a = 2) : c + a * 3 ^ k < 3 ^ n ∧ y1 (c + a * 3 ^ k) = rv one J n (zs c n - 1) (c + a * 3 ^ k) (decide (one = 1)) ∧ y2 (c + a * 3 ^ k) = rv one J n (zs c n - 1) (c + a * 3 ^ k) (decide (one = 2)) := by
  have hb := dg_bound (a := a) hc h0 (by omega) hk
  have hp : 0 < a * 3 ^ k := Nat.mul_pos (by omega) (Nat.pow_pos (by decide))
  have hz := zs_put (a := a) h0 (by omega) (by omega) hk
  have hh := h (c + a * 3 ^ k) (by omega) hb
  rw [show zs (c + a * 3 ^ k) n = zs c n - 1 by omega] at hh
  exact ⟨hb, hh⟩
theorem wm_1 {J : Nat → Bool} {one n c k : Nat} {y1 y2 : Nat → Bool} (h : wyP J one n (c + 1) y1 y2) (hc : c < 3 ^ n) (h0 : dg c k = 0) (hk : k < n) (ho : one = 1) : y2 (c + one * 3 ^ k) = wOwn J one n c k := by
  have := (wy_at h hc h0 hk (Or.inl ho)).2.2
  rw [this, decide_eq_false (by omega)]; rfl
theorem wm_2 {J : Nat → Bool} {one n c k : Nat} {y1 y2 : Nat → Bool} (h : wyP J one n (c + 1) y1 y2) (hc : c < 3 ^ n) (h0 : dg c k = 0) (hk : k < n) (h12 : one = 1 ∨ one = 2) (ho : one ≠ 1) : y1 (c + one * 3 ^ k) = wOwn J one n c k := by
  have := (wy_at h hc h0 hk h12).2.1
  rw [this, decide_eq_false ho]; rfl
theorem wo_1 {J : Nat → Bool} {one n c k : Nat} {y1 y2 : Nat → Bool} (h : wyP J one n (c + 1) y1 y2) (hc : c < 3 ^ n) (h0 : dg c k = 0) (hk : k < n) (ho : one = 1) : y1 (c + (3 - one) * 3 ^ k) = wOth J one n c k := by
  have := (wy_at (a := 3 - one) h hc h0 hk (by omega)).2.1
  rw [this, decide_eq_true ho]; rfl
theorem wo_2 {J : Nat → Bool} {one n c k : Nat} {y1 y2 : Nat → Bool} (h : wyP J one n (c + 1) y1 y2) (hc : c < 3 ^ n) (h0 : dg c k = 0) (hk : k < n) (h12 : one = 1 ∨ one = 2) (ho : one ≠ 1) : y2 (c + (3 - one) * 3 ^ k) = wOth J one n c k := by
  have := (wy_at (a := 3 - one) h hc h0 hk (by omega)).2.2
  rw [this, decide_eq_true (show one = 2 by omega)]; rfl
theorem wv_own {J : Nat → Bool} {one n c : Nat} (hz : 0 < zs c n) : rv one J n (zs c n) c true = anyU (wOp J one n c) n := by
  obtain ⟨d, hd⟩ : ∃ d, zs c n = d + 1 := ⟨zs c n - 1, by omega⟩
  have e : wOp J one n c = fun k => decide (dg c k = 0) && rv one J n d (c + one * 3 ^ k) false := by
    funext k; unfold wOp wOwn; rw [hd]; rfl
  rw [hd, e]; rfl
theorem wv_oth {J : Nat → Bool} {one n c : Nat} (hz : 0 < zs c n) : rv one J n (zs c n) c false = allU (wTp J one n c) n := by
  obtain ⟨d, hd⟩ : ∃ d, zs c n = d + 1 := ⟨zs c n - 1, by omega⟩
  have e : wTp J one n c = fun k => !decide (dg c k = 0) || rv one J n d (c + (3 - one) * 3 ^ k) true := by
    funext k; unfold wTp wOth; rw [hd]; rfl
  rw [hd, e]; rfl
theorem fl_zs {c n : Nat} {fl : Bool} (h : flP c n fl) (hf : fl = false) : 0 < zs c n := by
  apply Nat.pos_of_ne_zero
  intro hz
  have := h.mpr (fun j hj => zs_zero hz hj)
  rw [hf] at this; cases this
theorem wy_p1 {J : Nat → Bool} {one n c : Nat} {y1 y2 : Nat → Bool} {ow ot : Bool} (h : wyP J one n (c + 1) y1 y2) (hz : 0 < zs c n) (h1 : ow = anyU (wOp J one n c) n) (h2 : ot = allU (wTp J one n c) n) (ho : one = 1) : wyP J one n c (uB y1 c ow) (uB y2 c ot) := by
  intro x h3 h4
  by_cases e : x = c
  · rw [e, uB_s, uB_s, decide_eq_true ho, decide_eq_false (show ¬ one = 2 by omega), wv_own hz, wv_oth hz]; exact ⟨h1, h2⟩
  · rw [uB_n e, uB_n e]; exact h x (by omega) h4
theorem wy_p2 {J : Nat → Bool} {one n c : Nat} {y1 y2 : Nat → Bool} {ow ot : Bool} (h : wyP J one n (c + 1) y1 y2) (hz : 0 < zs c n) (h1 : ow = anyU (wOp J one n c) n) (h2 : ot = allU (wTp J one n c) n) (h12 : one = 1 ∨ one = 2) (ho : one ≠ 1) : wyP J one n c (uB y1 c ot) (uB y2 c ow) := by
  intro x h3 h4
  by_cases e : x = c
  · rw [e, uB_s, uB_s, decide_eq_false ho, decide_eq_true (show one = 2 by omega), wv_own hz, wv_oth hz]; exact ⟨h2, h1⟩
  · rw [uB_n e, uB_n e]; exact h x (by omega) h4
theorem bA_updB {z : Nat → Bool} {k : Nat} {v : Bool} : upd (bA z) k (nI v.toNat) = bA (uB z k v) := by
  cases v
  · exact bA_upd0
  · exact bA_upd1
theorem nB_01 (v : Bool) : nI v.toNat = 0 ∨ nI v.toNat = 1 := by
  cases v
  · exact Or.inl rfl
  · exact Or.inr rfl
theorem kiX6_works_X6 : ∀ w ∈ u_ws RX6 TX6 17, w ∈ wsX6_works := fun w h => List.mem_cons_of_mem _ (List.mem_append_right _ h)
set_option maxHeartbeats 4000000 in
set_option maxRecDepth 100000 in
theorem c_R_works_b (l : Launch) (D : va_G) (cI cJ cZ : ClassId) (h0 : Nat) (q : Nat → Nat) (R C tn dn ag md em : Nat) (b ey pw : Nat → Nat) (z y1 y2 : Nat → Bool) (one : Nat) (hR1 : 1 ≤ R) (hR2 : R ≤ 6) (hC1 : 1 ≤ C) (hC2 : C ≤ 6) (hRC : R * C ≤ 36) (hbv : ∀ f, f < R * C → b f ≤ 2) (hey : ∀ k, k < em → ey k < R * C) (hpw : ∀ i, i < 11 → pw i = 3 ^ i) (qem : em ≤ 10) (hin : ∀ i j, i < em → j < em → ey i = ey j → i = j) (hb0 : ∀ k, k < em → b (ey k) = 0) (qone : one = 1 ∨ one = 2) (sz : Nat) : kMV l yX6_works wsX6_works 4 93 D cI cJ cZ [.ref h0, .int (nI one), .int (-1), .int (-1)] [(h0, wMo q R C tn dn ag md em), ((q 0), .inl (cI, 36, .inl (nA b))), ((q 2), .inl (cZ, 36, .inl (bA z))), ((q 5), .inl (cI, 10, .inl (nA ey))), ((q 6), .inl (cI, 11, .inl (nA pw))), ((q 7), .inl (cZ, 59049, .inl (bA y1))), ((q 8), .inl (cZ, 59049, .inl (bA y2)))] sz (fun (u : (Nat → Bool) × (Nat → Bool) × (Nat → Bool)) => wyP (jb R C b ey em one) one em 0 u.2.1 u.2.2) (fun u : (Nat → Bool) × (Nat → Bool) × (Nat → Bool) => match u with | (za, y1a, y2a) => [(h0, wMo q R C tn dn ag md em), ((q 0), .inl (cI, 36, .inl (nA b))), ((q 2), .inl (cZ, 36, .inl (bA za))), ((q 5), .inl (cI, 10, .inl (nA ey))), ((q 6), .inl (cI, 11, .inl (nA pw))), ((q 7), .inl (cZ, 59049, .inl (bA y1a))), ((q 8), .inl (cZ, 59049, .inl (bA y2a)))]) := by
  refine Met.ofW (cc := cX6_works) (maxL := 11) (ret := none) (by decide) rfl ?_
  intro p e s m args below meth c s₁ B hml hv
  obtain ⟨rfl, hsz, hP, ⟨hK, hN⟩, hD0⟩ := hv
  have hx := B.exec
  have hb := B.bytes
  have hr := B.returns
  have hts := atoms_spec (ws := wsX6_works) B.pre
  have hown : s.vm.findClass RX6 = some m.cls := findClass_of_methodNamed B.named
  have hlocks := B.notSynchronized
  subst hsz
  have hD := hD0.self (sz := s.heap.size)
  generalize hAe : va_A [(h0, wMo q R C tn dn ag md em), ((q 0), .inl (cI, 36, .inl (nA b))), ((q 2), .inl (cZ, 36, .inl (bA z))), ((q 5), .inl (cI, 10, .inl (nA ey))), ((q 6), .inl (cI, 11, .inl (nA pw))), ((q 7), .inl (cZ, 59049, .inl (bA y1))), ((q 8), .inl (cZ, 59049, .inl (bA y2)))] s.heap.size = A at hD ⊢
  have hA : ∀ q : Nat, s.heap.size ≤ q → A q := fun q h => by rw [← hAe]; exact Or.inr h
  have hS : va_S A s.heap s.heap [] := va_S.rf
  have hl := lv_entry ([.ref h0, .int (nI one), .int (-1), .int (-1)]) (n := 11) (Nat.le_of_ble_eq_true rfl)
  rw [lg_entry_eq]
  generalize (lg_sl ([.ref h0, .int (nI one), .int (-1), .int (-1)]) ++ List.replicate (11 - (lg_sl ([.ref h0, .int (nI one), .int (-1), .int (-1)])).length) Slot.unset).toArray = ls at hl ⊢
  have hl : lv_has ls 11 [(0, .ref h0), (1, .int (nI one)), (2, .int (-1)), (3, .int (-1))] := hl
  have hK2 : kK D cI cJ cZ s := ⟨hK, hN⟩
  clear hD0
  have h3n := p3_le qem
  have h3p : 0 < 3 ^ em := Nat.pow_pos (by decide)
  refine lv_aload_n hx hb dX6_works_0 rfl (lv_at hl 0 rfl) ?_
  refine va_get (D := D) (ci := 6) (v := .ref (q 6)) (C := RX6) (T := TX6) (N := 17) hx hb hts kiX6_works_X6 hown hK hP 0 rfl rfl 13 (by decide) (hts (.fieldLink RX6 43 "TwoBanksModel" "power" "[I") (List.mem_of_getElem? (i := 1) rfl)) (fun _ h9 => h9) rfl dX6_works_1 ?_
  refine lv_aload_n hx hb dX6_works_4 rfl (lv_at hl 0 rfl) ?_
  refine va_get (D := D) (ci := 6) (v := .int (nI em)) (C := RX6) (T := TX6) (N := 17) hx hb hts kiX6_works_X6 hown hK hP 0 rfl rfl 11 (by decide) (hts (.fieldLink RX6 130 "TwoBanksModel" "empties" "I") (List.mem_of_getElem? (i := 2) rfl)) (fun _ h9 => h9) rfl dX6_works_5 ?_
  refine va_iald hx hb hK hP 4 0 rfl rfl (vp_in_nI (by omega) (by omega)) dX6_works_8 ?_
  refine k_toi (y := nI (pw em)) (congrArg (nA pw) (nI_clamp (by omega))) ?_
  refine k_toi (y := nI (3 ^ em)) (congrArg nI (hpw em (by omega))) ?_
  refine lv_iconst (v := (nI 1)) hx hb dX6_works_9 (by decide) ?_
  refine lv_isub hx hb dX6_works_10 ?_
  refine k_toi (y := nI ((3 ^ em) - 1)) (pk_sub (by omega)) ?_
  refine k_toi (y := kPr (3 ^ em)) ((kPr_pos (by omega)).symm) ?_
  refine lv_istore (lv' := [(4, .int (kPr (3 ^ em))), (0, .ref h0), (1, .int (nI one)), (2, .int (-1)), (3, .int (-1))]) hx hb dX6_works_11 hl (by decide) rfl (fun ls hl => ?_)
  refine kw_loop (σ := Nat × (Nat → Nat) × (Nat → Bool) × (Nat → Bool) × (Nat → Bool)) (fun zz H locs ls => match zz with | (m, bx, zx, y1x, y2x) => va_P D vwCl [(h0, wMo q R C tn dn ag md em), ((q 0), .inl (cI, 36, .inl (nA bx))), ((q 2), .inl (cZ, 36, .inl (bA zx))), ((q 5), .inl (cI, 10, .inl (nA ey))), ((q 6), .inl (cI, 11, .inl (nA pw))), ((q 7), .inl (cZ, 59049, .inl (bA y1x))), ((q 8), .inl (cZ, 59049, .inl (bA y2x)))] H ∧ va_D A [(h0, wMo q R C tn dn ag md em), ((q 0), .inl (cI, 36, .inl (nA bx))), ((q 2), .inl (cZ, 36, .inl (bA zx))), ((q 5), .inl (cI, 10, .inl (nA ey))), ((q 6), .inl (cI, 11, .inl (nA pw))), ((q 7), .inl (cZ, 59049, .inl (bA y1x))), ((q 8), .inl (cZ, 59049, .inl (bA y2x)))] ∧ va_S A s.heap H locs ∧ lv_has ls 11 [(0, .ref h0), (1, .int (nI one)), (2, .int (-1)), (3, .int (-1)), (4, .int (kPr m))] ∧ (m ≤ 3 ^ em) ∧ (∀ cd, mFill bx ey cd em = mFill b ey cd em) ∧ (∀ f, f < R * C → bx f ≤ 2) ∧ (wyP (jb R C b ey em one) one em m y1x y2x)) (fun zz => match zz with | (m, bx, zx, y1x, y2x) => m) ((3 ^ em), b, z, y1, y2) ⟨hP, hD, hS, lv_sub hl [1, 2, 3, 4, 0] rfl, Nat.le_refl _, fun _ => rfl, hbv, fun c h1 h2 => absurd h2 (Nat.not_lt.mpr h1)⟩ ?_
  clear hP hD hS hl
  rintro ⟨m, bx, zx, y1x, y2x⟩ H locs ls ⟨hP, hD, hS, hl, hm9, hx1, hx2, hy9⟩ ih_13
  have hP : va_P D vwCl [(h0, wMo q R C tn dn ag md em), ((q 0), .inl (cI, 36, .inl (nA bx))), ((q 2), .inl (cZ, 36, .inl (bA zx))), ((q 5), .inl (cI, 10, .inl (nA ey))), ((q 6), .inl (cI, 11, .inl (nA pw))), ((q 7), .inl (cZ, 59049, .inl (bA y1x))), ((q 8), .inl (cZ, 59049, .inl (bA y2x)))] H := hP
  have hD : va_D A [(h0, wMo q R C tn dn ag md em), ((q 0), .inl (cI, 36, .inl (nA bx))), ((q 2), .inl (cZ, 36, .inl (bA zx))), ((q 5), .inl (cI, 10, .inl (nA ey))), ((q 6), .inl (cI, 11, .inl (nA pw))), ((q 7), .inl (cZ, 59049, .inl (bA y1x))), ((q 8), .inl (cZ, 59049, .inl (bA y2x)))] := hD
  have hl : lv_has ls 11 [(0, .ref h0), (1, .int (nI one)), (2, .int (-1)), (3, .int (-1)), (4, .int (kPr m))] := hl
  have hm9 : m ≤ 3 ^ em := hm9
  have hx1 : ∀ cd, mFill bx ey cd em = mFill b ey cd em := hx1
  have hx2 : ∀ f, f < R * C → bx f ≤ 2 := hx2
  have hy9 : wyP (jb R C b ey em one) one em m y1x y2x := hy9
  rcases (show m = 0 ∨ ∃ c, m = c + 1 from by cases m with | zero => exact Or.inl rfl | succ c => exact Or.inr ⟨c, rfl⟩) with rfl | ⟨c, rfl⟩
  · have hl : lv_has ls 11 [(0, .ref h0), (1, .int (nI one)), (2, .int (-1)), (3, .int (-1)), (4, .int (-1))] := hl
    refine lv_iload hx hb dX6_works_13 (lv_at hl 4 rfl) ?_
    refine lv_if_lt (tgt := 316) hx hb dX6_works_15 (by decide) (fun c_15_1 => ?_) (fun c_15_1 => absurd c_15_1 (by decide))
    skip
    refine lv_aload_n hx hb dX6_works_316 rfl (lv_at hl 0 rfl) ?_
    refine lv_iconst (v := (nI 0)) hx hb dX6_works_317 (by decide) ?_
    refine k_callv (wr := [((q 2), .inl (cZ, 36, .inl (bA zx))), ((q 7), .inl (cZ, 59049, .inl (bA y1x))), ((q 8), .inl (cZ, 59049, .inl (bA y2x)))]) (w2 := (fun _ : Unit => [(h0, wMo q R C tn dn ag md em), ((q 0), .inl (cI, 36, .inl (nA (mFill bx ey 0 em)))), ((q 2), .inl (cZ, 36, .inl (bA zx))), ((q 5), .inl (cI, 10, .inl (nA ey))), ((q 6), .inl (cI, 11, .inl (nA pw))), ((q 7), .inl (cZ, 59049, .inl (bA y1x))), ((q 8), .inl (cZ, 59049, .inl (bA y2x)))])) (va_runV (As := [.int (nI 0)]) (rest := []) ⟨hx, hb, hml, hown, hts⟩ (c_R_fills l D cI cJ cZ h0 q R C tn dn ag md em bx ey pw 0 hR1 hR2 hC1 hC2 hRC hey hpw qem (by omega)  H.size) (cwV 1 hts gX6_works_X6_fills rfl rfl rfl (by decide +kernel) ⟨Nat.le_of_ble_eq_true rfl, Nat.le_of_ble_eq_true rfl⟩) (kPV (ci := 6) (q0 := 0) (wc := [(h0, wMo q R C tn dn ag md em), ((q 0), .inl (cI, 36, .inl (nA bx))), ((q 5), .inl (cI, 10, .inl (nA ey))), ((q 6), .inl (cI, 11, .inl (nA pw)))]) hK2 hP hD [0, 1, 3, 4] rfl (by decide) rfl rfl) rfl rfl hl.1 rfl (lv_room (Nat.le_of_ble_eq_true rfl)) dX6_works_318 ⟨Nat.le_of_ble_eq_true rfl, Nat.le_of_ble_eq_true rfl⟩) hP hD hS hA [0, 1, 3, 4] [2, 5, 6] [3, 4, 0, 5, 6, 1, 2] rfl rfl (by decide) (by decide) (fun _ => rfl) (by decide) (fun u_2 H locs hw_2 hP hD hS => ?_)
    have hP : va_P D vwCl [(h0, wMo q R C tn dn ag md em), ((q 0), .inl (cI, 36, .inl (nA (mFill bx ey 0 em)))), ((q 2), .inl (cZ, 36, .inl (bA zx))), ((q 5), .inl (cI, 10, .inl (nA ey))), ((q 6), .inl (cI, 11, .inl (nA pw))), ((q 7), .inl (cZ, 59049, .inl (bA y1x))), ((q 8), .inl (cZ, 59049, .inl (bA y2x)))] H := hP
    have hD : va_D A [(h0, wMo q R C tn dn ag md em), ((q 0), .inl (cI, 36, .inl (nA (mFill bx ey 0 em)))), ((q 2), .inl (cZ, 36, .inl (bA zx))), ((q 5), .inl (cI, 10, .inl (nA ey))), ((q 6), .inl (cI, 11, .inl (nA pw))), ((q 7), .inl (cZ, 59049, .inl (bA y1x))), ((q 8), .inl (cZ, 59049, .inl (bA y2x)))] := hD
    have hP : va_P D vwCl [(h0, wMo q R C tn dn ag md em), ((q 0), .inl (cI, 36, .inl (nA b))), ((q 2), .inl (cZ, 36, .inl (bA zx))), ((q 5), .inl (cI, 10, .inl (nA ey))), ((q 6), .inl (cI, 11, .inl (nA pw))), ((q 7), .inl (cZ, 59049, .inl (bA y1x))), ((q 8), .inl (cZ, 59049, .inl (bA y2x)))] H := (by have e9 : mFill bx ey 0 em = b := (hx1 0).trans (mFill_0 hin hb0); rw [e9] at hP; exact hP)
    have hD : va_D A [(h0, wMo q R C tn dn ag md em), ((q 0), .inl (cI, 36, .inl (nA b))), ((q 2), .inl (cZ, 36, .inl (bA zx))), ((q 5), .inl (cI, 10, .inl (nA ey))), ((q 6), .inl (cI, 11, .inl (nA pw))), ((q 7), .inl (cZ, 59049, .inl (bA y1x))), ((q 8), .inl (cZ, 59049, .inl (bA y2x)))] := (by have e9 : mFill bx ey 0 em = b := (hx1 0).trans (mFill_0 hin hb0); rw [e9] at hD; exact hD)
    exact W.vret hx hb hr (fun t ht hW => ⟨⟨(zx, y1x, y2x), rfl, hy9, by rw [ht]; exact hP, hD⟩, hS.F ht⟩) hS.2.2 dX6_works_321
  · have hl : lv_has ls 11 [(0, .ref h0), (1, .int (nI one)), (2, .int (-1)), (3, .int (-1)), (4, .int (nI c))] := hl
    have hcl : c < 3 ^ em := hm9
    refine lv_iload hx hb dX6_works_13 (lv_at hl 4 rfl) ?_
    refine kw_if_lt (tgt := 316) hx hb dX6_works_15 (by decide) (by omega) (fun c_15_3 => False.elim c_15_3) (fun c_15_3 => ?_)
    refine lv_iconst (v := (nI 1)) hx hb dX6_works_18 (by decide) ?_
    refine lv_istore (lv' := [(5, .int (nI 1)), (0, .ref h0), (1, .int (nI one)), (2, .int (-1)), (3, .int (-1)), (4, .int (nI c))]) hx hb dX6_works_19 hl (by decide) rfl (fun ls hl => ?_)
    refine lv_iconst (v := (nI 0)) hx hb dX6_works_21 (by decide) ?_
    refine lv_istore (lv' := [(6, .int (nI 0)), (5, .int (nI 1)), (0, .ref h0), (1, .int (nI one)), (2, .int (-1)), (3, .int (-1)), (4, .int (nI c))]) hx hb dX6_works_22 hl (by decide) rfl (fun ls hl => ?_)
    refine kw_loop (σ := Nat × Bool) (fun zz H locs ls => match zz with | (k, fl) => va_P D vwCl [(h0, wMo q R C tn dn ag md em), ((q 0), .inl (cI, 36, .inl (nA bx))), ((q 2), .inl (cZ, 36, .inl (bA zx))), ((q 5), .inl (cI, 10, .inl (nA ey))), ((q 6), .inl (cI, 11, .inl (nA pw))), ((q 7), .inl (cZ, 59049, .inl (bA y1x))), ((q 8), .inl (cZ, 59049, .inl (bA y2x)))] H ∧ va_D A [(h0, wMo q R C tn dn ag md em), ((q 0), .inl (cI, 36, .inl (nA bx))), ((q 2), .inl (cZ, 36, .inl (bA zx))), ((q 5), .inl (cI, 10, .inl (nA ey))), ((q 6), .inl (cI, 11, .inl (nA pw))), ((q 7), .inl (cZ, 59049, .inl (bA y1x))), ((q 8), .inl (cZ, 59049, .inl (bA y2x)))] ∧ va_S A s.heap H locs ∧ lv_has ls 11 [(0, .ref h0), (1, .int (nI one)), (2, .int (-1)), (3, .int (-1)), (4, .int (nI c)), (5, .int (nI (Bool.toNat fl))), (6, .int (nI k))] ∧ (k ≤ em) ∧ (flP c k fl)) (fun zz => match zz with | (k, fl) => em - k) (0, true) ⟨hP, hD, hS, lv_sub hl [2, 3, 4, 5, 6, 1, 0] rfl, Nat.zero_le _, fl_0⟩ ?_
    clear hP hD hS hl
    rintro ⟨k, fl⟩ H locs ls ⟨hP, hD, hS, hl, hk9, hfl9⟩ ih_24
    have hP : va_P D vwCl [(h0, wMo q R C tn dn ag md em), ((q 0), .inl (cI, 36, .inl (nA bx))), ((q 2), .inl (cZ, 36, .inl (bA zx))), ((q 5), .inl (cI, 10, .inl (nA ey))), ((q 6), .inl (cI, 11, .inl (nA pw))), ((q 7), .inl (cZ, 59049, .inl (bA y1x))), ((q 8), .inl (cZ, 59049, .inl (bA y2x)))] H := hP
    have hD : va_D A [(h0, wMo q R C tn dn ag md em), ((q 0), .inl (cI, 36, .inl (nA bx))), ((q 2), .inl (cZ, 36, .inl (bA zx))), ((q 5), .inl (cI, 10, .inl (nA ey))), ((q 6), .inl (cI, 11, .inl (nA pw))), ((q 7), .inl (cZ, 59049, .inl (bA y1x))), ((q 8), .inl (cZ, 59049, .inl (bA y2x)))] := hD
    have hl : lv_has ls 11 [(0, .ref h0), (1, .int (nI one)), (2, .int (-1)), (3, .int (-1)), (4, .int (nI c)), (5, .int (nI (Bool.toNat fl))), (6, .int (nI k))] := hl
    have hfb : (Bool.toNat fl) ≤ 1 := Bool.toNat_le fl
    have hk9 : k ≤ em := hk9
    have hfl9 : flP c k fl := hfl9
    refine lv_iload hx hb dX6_works_24 (lv_at hl 6 rfl) ?_
    refine lv_aload_n hx hb dX6_works_26 rfl (lv_at hl 0 rfl) ?_
    refine va_get (D := D) (ci := 6) (v := .int (nI em)) (C := RX6) (T := TX6) (N := 17) hx hb hts kiX6_works_X6 hown hK hP 0 rfl rfl 11 (by decide) (hts (.fieldLink RX6 130 "TwoBanksModel" "empties" "I") (List.mem_of_getElem? (i := 2) rfl)) (fun _ h9 => h9) rfl dX6_works_27 ?_
    refine kw_icmp_ge (tgt := 66) hx hb dX6_works_30 (by decide) (by omega) (by omega) (fun c_30_4 => ?_) (fun c_30_4 => ?_)
    · have hfl9 : flP c em fl := (by have e9 : k = em := (by omega); rw [e9] at hfl9; exact hfl9)
      refine lv_iload hx hb dX6_works_66 (lv_at hl 5 rfl) ?_
      refine kw_if_eq (tgt := 120) hx hb dX6_works_68 (by decide) (by omega) (fun c_68_5 => ?_) (fun c_68_5 => ?_)
      · have hft : fl = false := bz_f c_68_5
        refine lv_iconst (v := (nI 0)) hx hb dX6_works_120 (by decide) ?_
        refine lv_istore (lv' := [(6, .int (nI 0)), (0, .ref h0), (1, .int (nI one)), (2, .int (-1)), (3, .int (-1)), (4, .int (nI c)), (5, .int (nI (Bool.toNat fl)))]) hx hb dX6_works_121 hl (by decide) rfl (fun ls hl => ?_)
        refine lv_iconst (v := (nI 1)) hx hb dX6_works_123 (by decide) ?_
        refine lv_istore (lv' := [(7, .int (nI 1)), (6, .int (nI 0)), (0, .ref h0), (1, .int (nI one)), (2, .int (-1)), (3, .int (-1)), (4, .int (nI c)), (5, .int (nI (Bool.toNat fl)))]) hx hb dX6_works_124 hl (by decide) rfl (fun ls hl => ?_)
        refine lv_iconst (v := (nI 0)) hx hb dX6_works_126 (by decide) ?_
        refine lv_istore (lv' := [(8, .int (nI 0)), (7, .int (nI 1)), (6, .int (nI 0)), (0, .ref h0), (1, .int (nI one)), (2, .int (-1)), (3, .int (-1)), (4, .int (nI c)), (5, .int (nI (Bool.toNat fl)))]) hx hb dX6_works_127 hl (by decide) rfl (fun ls hl => ?_)
        refine kw_loop (σ := Nat × Bool × Bool) (fun zz H locs ls => match zz with | (k, ow, ot) => va_P D vwCl [(h0, wMo q R C tn dn ag md em), ((q 0), .inl (cI, 36, .inl (nA bx))), ((q 2), .inl (cZ, 36, .inl (bA zx))), ((q 5), .inl (cI, 10, .inl (nA ey))), ((q 6), .inl (cI, 11, .inl (nA pw))), ((q 7), .inl (cZ, 59049, .inl (bA y1x))), ((q 8), .inl (cZ, 59049, .inl (bA y2x)))] H ∧ va_D A [(h0, wMo q R C tn dn ag md em), ((q 0), .inl (cI, 36, .inl (nA bx))), ((q 2), .inl (cZ, 36, .inl (bA zx))), ((q 5), .inl (cI, 10, .inl (nA ey))), ((q 6), .inl (cI, 11, .inl (nA pw))), ((q 7), .inl (cZ, 59049, .inl (bA y1x))), ((q 8), .inl (cZ, 59049, .inl (bA y2x)))] ∧ va_S A s.heap H locs ∧ lv_has ls 11 [(0, .ref h0), (1, .int (nI one)), (2, .int (-1)), (3, .int (-1)), (4, .int (nI c)), (6, .int (nI (Bool.toNat ow))), (7, .int (nI (Bool.toNat ot))), (8, .int (nI k))] ∧ (k ≤ em) ∧ (ow = anyU (wOp (jb R C b ey em one) one em c) k) ∧ (ot = allU (wTp (jb R C b ey em one) one em c) k)) (fun zz => match zz with | (k, ow, ot) => em - k) (0, false, true) ⟨hP, hD, hS, lv_sub hl [3, 4, 5, 6, 7, 2, 1, 0] rfl, Nat.zero_le _, rfl, rfl⟩ ?_
        clear hP hD hS hl
        rintro ⟨k, ow, ot⟩ H locs ls ⟨hP, hD, hS, hl, hk9, how9, hot9⟩ ih_129
        have hP : va_P D vwCl [(h0, wMo q R C tn dn ag md em), ((q 0), .inl (cI, 36, .inl (nA bx))), ((q 2), .inl (cZ, 36, .inl (bA zx))), ((q 5), .inl (cI, 10, .inl (nA ey))), ((q 6), .inl (cI, 11, .inl (nA pw))), ((q 7), .inl (cZ, 59049, .inl (bA y1x))), ((q 8), .inl (cZ, 59049, .inl (bA y2x)))] H := hP
        have hD : va_D A [(h0, wMo q R C tn dn ag md em), ((q 0), .inl (cI, 36, .inl (nA bx))), ((q 2), .inl (cZ, 36, .inl (bA zx))), ((q 5), .inl (cI, 10, .inl (nA ey))), ((q 6), .inl (cI, 11, .inl (nA pw))), ((q 7), .inl (cZ, 59049, .inl (bA y1x))), ((q 8), .inl (cZ, 59049, .inl (bA y2x)))] := hD
        have hl : lv_has ls 11 [(0, .ref h0), (1, .int (nI one)), (2, .int (-1)), (3, .int (-1)), (4, .int (nI c)), (6, .int (nI (Bool.toNat ow))), (7, .int (nI (Bool.toNat ot))), (8, .int (nI k))] := hl
        have hob : (Bool.toNat ow) ≤ 1 := Bool.toNat_le ow
        have htb : (Bool.toNat ot) ≤ 1 := Bool.toNat_le ot
        have hk9 : k ≤ em := hk9
        have how9 : ow = anyU (wOp (jb R C b ey em one) one em c) k := how9
        have hot9 : ot = allU (wTp (jb R C b ey em one) one em c) k := hot9
        refine lv_iload hx hb dX6_works_129 (lv_at hl 7 rfl) ?_
        refine lv_aload_n hx hb dX6_works_131 rfl (lv_at hl 0 rfl) ?_
        refine va_get (D := D) (ci := 6) (v := .int (nI em)) (C := RX6) (T := TX6) (N := 17) hx hb hts kiX6_works_X6 hown hK hP 0 rfl rfl 11 (by decide) (hts (.fieldLink RX6 130 "TwoBanksModel" "empties" "I") (List.mem_of_getElem? (i := 2) rfl)) (fun _ h9 => h9) rfl dX6_works_132 ?_
        refine kw_icmp_ge (tgt := 272) hx hb dX6_works_135 (by decide) (by omega) (by omega) (fun c_135_6 => ?_) (fun c_135_6 => ?_)
        · have how9 : ow = anyU (wOp (jb R C b ey em one) one em c) em := (by have e9 : k = em := (by omega); rw [e9] at how9; exact how9)
          have hot9 : ot = allU (wTp (jb R C b ey em one) one em c) em := (by have e9 : k = em := (by omega); rw [e9] at hot9; exact hot9)
          have hw01 := nB_01 ow
          have ht01 := nB_01 ot
          refine lv_aload_n hx hb dX6_works_272 rfl (lv_at hl 0 rfl) ?_
          refine va_get (D := D) (ci := 6) (v := .ref (q 7)) (C := RX6) (T := TX6) (N := 17) hx hb hts kiX6_works_X6 hown hK hP 0 rfl rfl 14 (by decide) (hts (.fieldLink RX6 47 "TwoBanksModel" "byOne" "[Z") (List.mem_of_getElem? (i := 3) rfl)) (fun _ h9 => h9) rfl dX6_works_273 ?_
          refine lv_iload hx hb dX6_works_276 (lv_at hl 4 rfl) ?_
          refine lv_iload_n hx hb dX6_works_278 rfl (lv_at hl 1 rfl) ?_
          refine lv_iconst (v := (nI 1)) hx hb dX6_works_279 (by decide) ?_
          refine kw_icmp_ne (tgt := 288) hx hb dX6_works_280 (by decide) (by omega) (by omega) (fun c_280_7 => ?_) (fun c_280_7 => ?_)
          · have ho1 : one ≠ 1 := c_280_7
            refine lv_iload hx hb dX6_works_288 (lv_at hl 6 rfl) ?_
            refine va_zast hx hb hK hP hD hS 5 2 rfl rfl (vp_in_nI (by omega) (by omega)) dX6_works_290 (fun H locs hP hD hS => ?_)
            rw [nI_clamp (by omega)] at hP hD
            rw [kz_nar (by first | decide | assumption | omega)] at hP hD
            have hP : va_P D vwCl [(h0, wMo q R C tn dn ag md em), ((q 0), .inl (cI, 36, .inl (nA bx))), ((q 2), .inl (cZ, 36, .inl (bA zx))), ((q 5), .inl (cI, 10, .inl (nA ey))), ((q 6), .inl (cI, 11, .inl (nA pw))), ((q 7), .inl (cZ, 59049, .inl (upd (bA y1x) c (nI (Bool.toNat ot))))), ((q 8), .inl (cZ, 59049, .inl (bA y2x)))] H := hP
            have hD : va_D A [(h0, wMo q R C tn dn ag md em), ((q 0), .inl (cI, 36, .inl (nA bx))), ((q 2), .inl (cZ, 36, .inl (bA zx))), ((q 5), .inl (cI, 10, .inl (nA ey))), ((q 6), .inl (cI, 11, .inl (nA pw))), ((q 7), .inl (cZ, 59049, .inl (upd (bA y1x) c (nI (Bool.toNat ot))))), ((q 8), .inl (cZ, 59049, .inl (bA y2x)))] := hD
            rw [bA_updB] at hP hD
            have hP : va_P D vwCl [(h0, wMo q R C tn dn ag md em), ((q 0), .inl (cI, 36, .inl (nA bx))), ((q 2), .inl (cZ, 36, .inl (bA zx))), ((q 5), .inl (cI, 10, .inl (nA ey))), ((q 6), .inl (cI, 11, .inl (nA pw))), ((q 7), .inl (cZ, 59049, .inl (bA (uB y1x c ot)))), ((q 8), .inl (cZ, 59049, .inl (bA y2x)))] H := hP
            have hD : va_D A [(h0, wMo q R C tn dn ag md em), ((q 0), .inl (cI, 36, .inl (nA bx))), ((q 2), .inl (cZ, 36, .inl (bA zx))), ((q 5), .inl (cI, 10, .inl (nA ey))), ((q 6), .inl (cI, 11, .inl (nA pw))), ((q 7), .inl (cZ, 59049, .inl (bA (uB y1x c ot)))), ((q 8), .inl (cZ, 59049, .inl (bA y2x)))] := hD
            refine lv_aload_n hx hb dX6_works_291 rfl (lv_at hl 0 rfl) ?_
            refine va_get (D := D) (ci := 6) (v := .ref (q 8)) (C := RX6) (T := TX6) (N := 17) hx hb hts kiX6_works_X6 hown hK hP 0 rfl rfl 15 (by decide) (hts (.fieldLink RX6 50 "TwoBanksModel" "byTwo" "[Z") (List.mem_of_getElem? (i := 4) rfl)) (fun _ h9 => h9) rfl dX6_works_292 ?_
            refine lv_iload hx hb dX6_works_295 (lv_at hl 4 rfl) ?_
            refine lv_iload_n hx hb dX6_works_297 rfl (lv_at hl 1 rfl) ?_
            refine lv_iconst (v := (nI 1)) hx hb dX6_works_298 (by decide) ?_
            refine kw_icmp_ne (tgt := 307) hx hb dX6_works_299 (by decide) (by omega) (by omega) (fun c_299_8 => ?_) (fun c_299_8 => absurd c_299_8 ho1)
            refine lv_iload hx hb dX6_works_307 (lv_at hl 5 rfl) ?_
            refine va_zast hx hb hK hP hD hS 6 2 rfl rfl (vp_in_nI (by omega) (by omega)) dX6_works_309 (fun H locs hP hD hS => ?_)
            rw [nI_clamp (by omega)] at hP hD
            rw [kz_nar (by first | decide | assumption | omega)] at hP hD
            have hP : va_P D vwCl [(h0, wMo q R C tn dn ag md em), ((q 0), .inl (cI, 36, .inl (nA bx))), ((q 2), .inl (cZ, 36, .inl (bA zx))), ((q 5), .inl (cI, 10, .inl (nA ey))), ((q 6), .inl (cI, 11, .inl (nA pw))), ((q 7), .inl (cZ, 59049, .inl (bA (uB y1x c ot)))), ((q 8), .inl (cZ, 59049, .inl (upd (bA y2x) c (nI (Bool.toNat ow)))))] H := hP
            have hD : va_D A [(h0, wMo q R C tn dn ag md em), ((q 0), .inl (cI, 36, .inl (nA bx))), ((q 2), .inl (cZ, 36, .inl (bA zx))), ((q 5), .inl (cI, 10, .inl (nA ey))), ((q 6), .inl (cI, 11, .inl (nA pw))), ((q 7), .inl (cZ, 59049, .inl (bA (uB y1x c ot)))), ((q 8), .inl (cZ, 59049, .inl (upd (bA y2x) c (nI (Bool.toNat ow)))))] := hD
            rw [bA_updB] at hP hD
            have hP : va_P D vwCl [(h0, wMo q R C tn dn ag md em), ((q 0), .inl (cI, 36, .inl (nA bx))), ((q 2), .inl (cZ, 36, .inl (bA zx))), ((q 5), .inl (cI, 10, .inl (nA ey))), ((q 6), .inl (cI, 11, .inl (nA pw))), ((q 7), .inl (cZ, 59049, .inl (bA (uB y1x c ot)))), ((q 8), .inl (cZ, 59049, .inl (bA (uB y2x c ow))))] H := hP
            have hD : va_D A [(h0, wMo q R C tn dn ag md em), ((q 0), .inl (cI, 36, .inl (nA bx))), ((q 2), .inl (cZ, 36, .inl (bA zx))), ((q 5), .inl (cI, 10, .inl (nA ey))), ((q 6), .inl (cI, 11, .inl (nA pw))), ((q 7), .inl (cZ, 59049, .inl (bA (uB y1x c ot)))), ((q 8), .inl (cZ, 59049, .inl (bA (uB y2x c ow))))] := hD
            refine lv_iinc (v := (kPr c)) (lv' := [(4, .int (kPr c)), (0, .ref h0), (1, .int (nI one)), (2, .int (-1)), (3, .int (-1)), (6, .int (nI (Bool.toNat ow))), (7, .int (nI (Bool.toNat ot))), (8, .int (nI k))]) hx hb dX6_works_310 hl (k := 4) rfl (k_dec _) (by decide) rfl (fun ls hl => ?_)
            refine lv_goto (tgt := 13) hx hb dX6_works_313 (by decide) ?_
            exact ih_13 (c, bx, zx, (uB y1x c ot), (uB y2x c ow)) _ _ _ (Nat.lt_succ_self _) ⟨hP, hD, hS, lv_sub hl [1, 2, 3, 4, 0] rfl, by omega, hx1, hx2, wy_p2 hy9 (fl_zs hfl9 hft) how9 hot9 qone ho1⟩
          · have ho1 : one = 1 := c_280_7
            refine lv_iload hx hb dX6_works_283 (lv_at hl 5 rfl) ?_
            refine lv_goto (tgt := 290) hx hb dX6_works_285 (by decide) ?_
            refine va_zast hx hb hK hP hD hS 5 2 rfl rfl (vp_in_nI (by omega) (by omega)) dX6_works_290 (fun H locs hP hD hS => ?_)
            rw [nI_clamp (by omega)] at hP hD
            rw [kz_nar (by first | decide | assumption | omega)] at hP hD
            have hP : va_P D vwCl [(h0, wMo q R C tn dn ag md em), ((q 0), .inl (cI, 36, .inl (nA bx))), ((q 2), .inl (cZ, 36, .inl (bA zx))), ((q 5), .inl (cI, 10, .inl (nA ey))), ((q 6), .inl (cI, 11, .inl (nA pw))), ((q 7), .inl (cZ, 59049, .inl (upd (bA y1x) c (nI (Bool.toNat ow))))), ((q 8), .inl (cZ, 59049, .inl (bA y2x)))] H := hP
            have hD : va_D A [(h0, wMo q R C tn dn ag md em), ((q 0), .inl (cI, 36, .inl (nA bx))), ((q 2), .inl (cZ, 36, .inl (bA zx))), ((q 5), .inl (cI, 10, .inl (nA ey))), ((q 6), .inl (cI, 11, .inl (nA pw))), ((q 7), .inl (cZ, 59049, .inl (upd (bA y1x) c (nI (Bool.toNat ow))))), ((q 8), .inl (cZ, 59049, .inl (bA y2x)))] := hD
            rw [bA_updB] at hP hD
            have hP : va_P D vwCl [(h0, wMo q R C tn dn ag md em), ((q 0), .inl (cI, 36, .inl (nA bx))), ((q 2), .inl (cZ, 36, .inl (bA zx))), ((q 5), .inl (cI, 10, .inl (nA ey))), ((q 6), .inl (cI, 11, .inl (nA pw))), ((q 7), .inl (cZ, 59049, .inl (bA (uB y1x c ow)))), ((q 8), .inl (cZ, 59049, .inl (bA y2x)))] H := hP
            have hD : va_D A [(h0, wMo q R C tn dn ag md em), ((q 0), .inl (cI, 36, .inl (nA bx))), ((q 2), .inl (cZ, 36, .inl (bA zx))), ((q 5), .inl (cI, 10, .inl (nA ey))), ((q 6), .inl (cI, 11, .inl (nA pw))), ((q 7), .inl (cZ, 59049, .inl (bA (uB y1x c ow)))), ((q 8), .inl (cZ, 59049, .inl (bA y2x)))] := hD
            refine lv_aload_n hx hb dX6_works_291 rfl (lv_at hl 0 rfl) ?_
            refine va_get (D := D) (ci := 6) (v := .ref (q 8)) (C := RX6) (T := TX6) (N := 17) hx hb hts kiX6_works_X6 hown hK hP 0 rfl rfl 15 (by decide) (hts (.fieldLink RX6 50 "TwoBanksModel" "byTwo" "[Z") (List.mem_of_getElem? (i := 4) rfl)) (fun _ h9 => h9) rfl dX6_works_292 ?_
            refine lv_iload hx hb dX6_works_295 (lv_at hl 4 rfl) ?_
            refine lv_iload_n hx hb dX6_works_297 rfl (lv_at hl 1 rfl) ?_
            refine lv_iconst (v := (nI 1)) hx hb dX6_works_298 (by decide) ?_
            refine kw_icmp_ne (tgt := 307) hx hb dX6_works_299 (by decide) (by omega) (by omega) (fun c_299_9 => absurd ho1 c_299_9) (fun c_299_9 => ?_)
            refine lv_iload hx hb dX6_works_302 (lv_at hl 6 rfl) ?_
            refine lv_goto (tgt := 309) hx hb dX6_works_304 (by decide) ?_
            refine va_zast hx hb hK hP hD hS 6 2 rfl rfl (vp_in_nI (by omega) (by omega)) dX6_works_309 (fun H locs hP hD hS => ?_)
            rw [nI_clamp (by omega)] at hP hD
            rw [kz_nar (by first | decide | assumption | omega)] at hP hD
            have hP : va_P D vwCl [(h0, wMo q R C tn dn ag md em), ((q 0), .inl (cI, 36, .inl (nA bx))), ((q 2), .inl (cZ, 36, .inl (bA zx))), ((q 5), .inl (cI, 10, .inl (nA ey))), ((q 6), .inl (cI, 11, .inl (nA pw))), ((q 7), .inl (cZ, 59049, .inl (bA (uB y1x c ow)))), ((q 8), .inl (cZ, 59049, .inl (upd (bA y2x) c (nI (Bool.toNat ot)))))] H := hP
            have hD : va_D A [(h0, wMo q R C tn dn ag md em), ((q 0), .inl (cI, 36, .inl (nA bx))), ((q 2), .inl (cZ, 36, .inl (bA zx))), ((q 5), .inl (cI, 10, .inl (nA ey))), ((q 6), .inl (cI, 11, .inl (nA pw))), ((q 7), .inl (cZ, 59049, .inl (bA (uB y1x c ow)))), ((q 8), .inl (cZ, 59049, .inl (upd (bA y2x) c (nI (Bool.toNat ot)))))] := hD
            rw [bA_updB] at hP hD
            have hP : va_P D vwCl [(h0, wMo q R C tn dn ag md em), ((q 0), .inl (cI, 36, .inl (nA bx))), ((q 2), .inl (cZ, 36, .inl (bA zx))), ((q 5), .inl (cI, 10, .inl (nA ey))), ((q 6), .inl (cI, 11, .inl (nA pw))), ((q 7), .inl (cZ, 59049, .inl (bA (uB y1x c ow)))), ((q 8), .inl (cZ, 59049, .inl (bA (uB y2x c ot))))] H := hP
            have hD : va_D A [(h0, wMo q R C tn dn ag md em), ((q 0), .inl (cI, 36, .inl (nA bx))), ((q 2), .inl (cZ, 36, .inl (bA zx))), ((q 5), .inl (cI, 10, .inl (nA ey))), ((q 6), .inl (cI, 11, .inl (nA pw))), ((q 7), .inl (cZ, 59049, .inl (bA (uB y1x c ow)))), ((q 8), .inl (cZ, 59049, .inl (bA (uB y2x c ot))))] := hD
            refine lv_iinc (v := (kPr c)) (lv' := [(4, .int (kPr c)), (0, .ref h0), (1, .int (nI one)), (2, .int (-1)), (3, .int (-1)), (6, .int (nI (Bool.toNat ow))), (7, .int (nI (Bool.toNat ot))), (8, .int (nI k))]) hx hb dX6_works_310 hl (k := 4) rfl (k_dec _) (by decide) rfl (fun ls hl => ?_)
            refine lv_goto (tgt := 13) hx hb dX6_works_313 (by decide) ?_
            exact ih_13 (c, bx, zx, (uB y1x c ow), (uB y2x c ot)) _ _ _ (Nat.lt_succ_self _) ⟨hP, hD, hS, lv_sub hl [1, 2, 3, 4, 0] rfl, by omega, hx1, hx2, wy_p1 hy9 (fl_zs hfl9 hft) how9 hot9 ho1⟩
        · have hkl : k < em := c_135_6
          have hpk := hpw k (by omega)
          have hp0 : 0 < 3 ^ k := Nat.pow_pos (by decide)
          have hpb : 3 ^ k ≤ 3 ^ 10 := Nat.pow_le_pow_right (by decide) (by omega)
          have hdv : c / 3 ^ k ≤ c := Nat.div_le_self _ _
          refine lv_iload hx hb dX6_works_138 (lv_at hl 4 rfl) ?_
          refine lv_aload_n hx hb dX6_works_140 rfl (lv_at hl 0 rfl) ?_
          refine va_get (D := D) (ci := 6) (v := .ref (q 6)) (C := RX6) (T := TX6) (N := 17) hx hb hts kiX6_works_X6 hown hK hP 0 rfl rfl 13 (by decide) (hts (.fieldLink RX6 43 "TwoBanksModel" "power" "[I") (List.mem_of_getElem? (i := 1) rfl)) (fun _ h9 => h9) rfl dX6_works_141 ?_
          refine lv_iload hx hb dX6_works_144 (lv_at hl 7 rfl) ?_
          refine va_iald hx hb hK hP 4 0 rfl rfl (vp_in_nI (by omega) (by omega)) dX6_works_146 ?_
          refine k_toi (y := nI (pw k)) (congrArg (nA pw) (nI_clamp (by omega))) ?_
          refine k_toi (y := nI (3 ^ k)) (congrArg nI hpk) ?_
          refine lv_idiv hx hb dX6_works_147 (nI_ne0 (by omega) (by omega)) ?_
          refine k_toi (y := nI (c / (3 ^ k))) (pk_div (by omega) (by omega) (by omega)) ?_
          refine lv_iconst (v := (nI 3)) hx hb dX6_works_148 (by decide) ?_
          refine lv_irem hx hb dX6_works_149 (nI_ne0 (by omega) (by omega)) ?_
          refine k_toi (y := nI ((c / (3 ^ k)) % 3)) (pk_rem (by omega) (by omega) (by omega)) ?_
          refine k_toi (y := nI (dg c k)) (rfl) ?_
          have hdg := dg_lt c k
          refine kw_if_eq (tgt := 156) hx hb dX6_works_150 (by decide) (by omega) (fun c_150_10 => ?_) (fun c_150_10 => ?_)
          · have hd9 : dg c k = 0 := c_150_10
            refine lv_iload hx hb dX6_works_156 (lv_at hl 4 rfl) ?_
            refine lv_iload_n hx hb dX6_works_158 rfl (lv_at hl 1 rfl) ?_
            refine lv_aload_n hx hb dX6_works_159 rfl (lv_at hl 0 rfl) ?_
            refine va_get (D := D) (ci := 6) (v := .ref (q 6)) (C := RX6) (T := TX6) (N := 17) hx hb hts kiX6_works_X6 hown hK hP 0 rfl rfl 13 (by decide) (hts (.fieldLink RX6 43 "TwoBanksModel" "power" "[I") (List.mem_of_getElem? (i := 1) rfl)) (fun _ h9 => h9) rfl dX6_works_160 ?_
            refine lv_iload hx hb dX6_works_163 (lv_at hl 7 rfl) ?_
            refine va_iald hx hb hK hP 4 0 rfl rfl (vp_in_nI (by omega) (by omega)) dX6_works_165 ?_
            refine k_toi (y := nI (pw k)) (congrArg (nA pw) (nI_clamp (by omega))) ?_
            refine k_toi (y := nI (3 ^ k)) (congrArg nI hpk) ?_
            refine lv_imul hx hb dX6_works_166 ?_
            refine k_toi (y := nI (one * (3 ^ k))) (pk_mul _ _) ?_
            refine lv_iadd hx hb dX6_works_167 ?_
            refine k_toi (y := nI (c + (one * (3 ^ k)))) (nI_add _ _) ?_
            refine lv_istore (lv' := [(9, .int (nI (c + (one * (3 ^ k))))), (0, .ref h0), (1, .int (nI one)), (2, .int (-1)), (3, .int (-1)), (4, .int (nI c)), (6, .int (nI (Bool.toNat ow))), (7, .int (nI (Bool.toNat ot))), (8, .int (nI k))]) hx hb dX6_works_168 hl (by decide) rfl (fun ls hl => ?_)
            refine lv_iload hx hb dX6_works_170 (lv_at hl 5 rfl) ?_
            refine lv_iconst (v := (nI 3)) hx hb dX6_works_172 (by decide) ?_
            refine lv_iload_n hx hb dX6_works_173 rfl (lv_at hl 2 rfl) ?_
            refine lv_isub hx hb dX6_works_174 ?_
            refine k_toi (y := nI (3 - one)) (pk_sub (by omega)) ?_
            refine lv_aload_n hx hb dX6_works_175 rfl (lv_at hl 1 rfl) ?_
            refine va_get (D := D) (ci := 6) (v := .ref (q 6)) (C := RX6) (T := TX6) (N := 17) hx hb hts kiX6_works_X6 hown hK hP 0 rfl rfl 13 (by decide) (hts (.fieldLink RX6 43 "TwoBanksModel" "power" "[I") (List.mem_of_getElem? (i := 1) rfl)) (fun _ h9 => h9) rfl dX6_works_176 ?_
            refine lv_iload hx hb dX6_works_179 (lv_at hl 8 rfl) ?_
            refine va_iald hx hb hK hP 4 0 rfl rfl (vp_in_nI (by omega) (by omega)) dX6_works_181 ?_
            refine k_toi (y := nI (pw k)) (congrArg (nA pw) (nI_clamp (by omega))) ?_
            refine k_toi (y := nI (3 ^ k)) (congrArg nI hpk) ?_
            refine lv_imul hx hb dX6_works_182 ?_
            refine k_toi (y := nI ((3 - one) * (3 ^ k))) (pk_mul _ _) ?_
            refine lv_iadd hx hb dX6_works_183 ?_
            refine k_toi (y := nI (c + ((3 - one) * (3 ^ k)))) (nI_add _ _) ?_
            refine lv_istore (lv' := [(10, .int (nI (c + ((3 - one) * (3 ^ k))))), (9, .int (nI (c + (one * (3 ^ k))))), (0, .ref h0), (1, .int (nI one)), (2, .int (-1)), (3, .int (-1)), (4, .int (nI c)), (6, .int (nI (Bool.toNat ow))), (7, .int (nI (Bool.toNat ot))), (8, .int (nI k))]) hx hb dX6_works_184 hl (by decide) rfl (fun ls hl => ?_)
            have hmi := (wy_at hy9 hcl hd9 hkl qone).1
            have hoi := (wy_at (a := 3 - one) hy9 hcl hd9 hkl (by omega)).1
            have hb_y1x_m : (y1x (c + one * 3 ^ k)).toNat ≤ 1 := Bool.toNat_le _
            have hb_y1x_o : (y1x (c + (3 - one) * 3 ^ k)).toNat ≤ 1 := Bool.toNat_le _
            have hb_y2x_m : (y2x (c + one * 3 ^ k)).toNat ≤ 1 := Bool.toNat_le _
            have hb_y2x_o : (y2x (c + (3 - one) * 3 ^ k)).toNat ≤ 1 := Bool.toNat_le _
            refine kw_cut (σ := Nat) (fun (v6 : Nat) H locs ls => va_P D vwCl [(h0, wMo q R C tn dn ag md em), ((q 0), .inl (cI, 36, .inl (nA bx))), ((q 2), .inl (cZ, 36, .inl (bA zx))), ((q 5), .inl (cI, 10, .inl (nA ey))), ((q 6), .inl (cI, 11, .inl (nA pw))), ((q 7), .inl (cZ, 59049, .inl (bA y1x))), ((q 8), .inl (cZ, 59049, .inl (bA y2x)))] H ∧ va_D A [(h0, wMo q R C tn dn ag md em), ((q 0), .inl (cI, 36, .inl (nA bx))), ((q 2), .inl (cZ, 36, .inl (bA zx))), ((q 5), .inl (cI, 10, .inl (nA ey))), ((q 6), .inl (cI, 11, .inl (nA pw))), ((q 7), .inl (cZ, 59049, .inl (bA y1x))), ((q 8), .inl (cZ, 59049, .inl (bA y2x)))] ∧ va_S A s.heap H locs ∧ lv_has ls 11 [(0, .ref h0), (1, .int (nI one)), (2, .int (-1)), (3, .int (-1)), (4, .int (nI c)), (6, .int (nI (Bool.toNat ow))), (7, .int (nI (Bool.toNat ot))), (8, .int (nI k)), (9, .int (nI (c + (one * (3 ^ k))))), (10, .int (nI (c + ((3 - one) * (3 ^ k)))))] ∧ (v6 = Bool.toNat (ow || wOwn (jb R C b ey em one) one em c k))) 224 (fun (v6 : Nat) => [.int (nI v6)]) (fun J_224 => ?_) ?_
            · refine lv_iload hx hb dX6_works_186 (lv_at hl 7 rfl) ?_
              refine kw_if_ne (tgt := 219) hx hb dX6_works_188 (by decide) (by omega) (fun c_188_11 => ?_) (fun c_188_11 => ?_)
              · have how8 : ow = true := bz_t c_188_11
                refine lv_iconst (v := (nI 1)) hx hb dX6_works_219 (by decide) ?_
                refine lv_goto (tgt := 224) hx hb dX6_works_220 (by decide) ?_
                exact J_224 1 _ _ _ ⟨hP, hD, hS, lv_sub hl [2, 3, 4, 5, 6, 7, 8, 9, 1, 0] rfl, by rw [how8]; rfl⟩
              · have how8 : ow = false := bz_f c_188_11
                refine lv_iload_n hx hb dX6_works_191 rfl (lv_at hl 3 rfl) ?_
                refine lv_iconst (v := (nI 1)) hx hb dX6_works_192 (by decide) ?_
                refine kw_icmp_ne (tgt := 209) hx hb dX6_works_193 (by decide) (by omega) (by omega) (fun c_193_12 => ?_) (fun c_193_12 => ?_)
                · have hX9 := wm_2 hy9 hcl hd9 hkl qone c_193_12
                  refine lv_aload_n hx hb dX6_works_209 rfl (lv_at hl 2 rfl) ?_
                  refine va_get (D := D) (ci := 6) (v := .ref (q 7)) (C := RX6) (T := TX6) (N := 17) hx hb hts kiX6_works_X6 hown hK hP 0 rfl rfl 14 (by decide) (hts (.fieldLink RX6 47 "TwoBanksModel" "byOne" "[Z") (List.mem_of_getElem? (i := 3) rfl)) (fun _ h9 => h9) rfl dX6_works_210 ?_
                  refine lv_iload hx hb dX6_works_213 (lv_at hl 1 rfl) ?_
                  refine va_zald hx hb hK hP 5 2 rfl rfl (vp_in_nI (by omega) (by omega)) dX6_works_215 ?_
                  refine k_toi (y := nI ((y1x (c + (one * (3 ^ k)))).toNat)) (congrArg (bA y1x) (nI_clamp (by omega))) ?_
                  refine kw_if_eq (tgt := 223) hx hb dX6_works_216 (by decide) (by omega) (fun c_216_13 => ?_) (fun c_216_13 => ?_)
                  · have hval := bz_f c_216_13
                    refine lv_iconst (v := (nI 0)) hx hb dX6_works_223 (by decide) ?_
                    exact J_224 0 _ _ _ ⟨hP, hD, hS, lv_sub hl [2, 3, 4, 5, 6, 7, 8, 9, 1, 0] rfl, by rw [how8, ← hX9, hval]; rfl⟩
                  · have hval := bz_t c_216_13
                    refine lv_iconst (v := (nI 1)) hx hb dX6_works_219 (by decide) ?_
                    refine lv_goto (tgt := 224) hx hb dX6_works_220 (by decide) ?_
                    exact J_224 1 _ _ _ ⟨hP, hD, hS, lv_sub hl [2, 3, 4, 5, 6, 7, 8, 9, 1, 0] rfl, by rw [how8, ← hX9, hval]; rfl⟩
                · have hX9 := wm_1 hy9 hcl hd9 hkl c_193_12
                  refine lv_aload_n hx hb dX6_works_196 rfl (lv_at hl 2 rfl) ?_
                  refine va_get (D := D) (ci := 6) (v := .ref (q 8)) (C := RX6) (T := TX6) (N := 17) hx hb hts kiX6_works_X6 hown hK hP 0 rfl rfl 15 (by decide) (hts (.fieldLink RX6 50 "TwoBanksModel" "byTwo" "[Z") (List.mem_of_getElem? (i := 4) rfl)) (fun _ h9 => h9) rfl dX6_works_197 ?_
                  refine lv_iload hx hb dX6_works_200 (lv_at hl 1 rfl) ?_
                  refine va_zald hx hb hK hP 6 2 rfl rfl (vp_in_nI (by omega) (by omega)) dX6_works_202 ?_
                  refine k_toi (y := nI ((y2x (c + (one * (3 ^ k)))).toNat)) (congrArg (bA y2x) (nI_clamp (by omega))) ?_
                  refine kw_if_eq (tgt := 223) hx hb dX6_works_203 (by decide) (by omega) (fun c_203_14 => ?_) (fun c_203_14 => ?_)
                  · have hval := bz_f c_203_14
                    refine lv_iconst (v := (nI 0)) hx hb dX6_works_223 (by decide) ?_
                    exact J_224 0 _ _ _ ⟨hP, hD, hS, lv_sub hl [2, 3, 4, 5, 6, 7, 8, 9, 1, 0] rfl, by rw [how8, ← hX9, hval]; rfl⟩
                  · have hval := bz_t c_203_14
                    refine lv_goto (tgt := 219) hx hb dX6_works_206 (by decide) ?_
                    refine lv_iconst (v := (nI 1)) hx hb dX6_works_219 (by decide) ?_
                    refine lv_goto (tgt := 224) hx hb dX6_works_220 (by decide) ?_
                    exact J_224 1 _ _ _ ⟨hP, hD, hS, lv_sub hl [2, 3, 4, 5, 6, 7, 8, 9, 1, 0] rfl, by rw [how8, ← hX9, hval]; rfl⟩
            · clear hP hD hS hl
              rintro v6 H locs ls ⟨hP, hD, hS, hl, hv6⟩
              have hP : va_P D vwCl [(h0, wMo q R C tn dn ag md em), ((q 0), .inl (cI, 36, .inl (nA bx))), ((q 2), .inl (cZ, 36, .inl (bA zx))), ((q 5), .inl (cI, 10, .inl (nA ey))), ((q 6), .inl (cI, 11, .inl (nA pw))), ((q 7), .inl (cZ, 59049, .inl (bA y1x))), ((q 8), .inl (cZ, 59049, .inl (bA y2x)))] H := hP
              have hD : va_D A [(h0, wMo q R C tn dn ag md em), ((q 0), .inl (cI, 36, .inl (nA bx))), ((q 2), .inl (cZ, 36, .inl (bA zx))), ((q 5), .inl (cI, 10, .inl (nA ey))), ((q 6), .inl (cI, 11, .inl (nA pw))), ((q 7), .inl (cZ, 59049, .inl (bA y1x))), ((q 8), .inl (cZ, 59049, .inl (bA y2x)))] := hD
              have hl : lv_has ls 11 [(0, .ref h0), (1, .int (nI one)), (2, .int (-1)), (3, .int (-1)), (4, .int (nI c)), (6, .int (nI (Bool.toNat ow))), (7, .int (nI (Bool.toNat ot))), (8, .int (nI k)), (9, .int (nI (c + (one * (3 ^ k))))), (10, .int (nI (c + ((3 - one) * (3 ^ k)))))] := hl
              have hv6 : v6 = Bool.toNat (ow || wOwn (jb R C b ey em one) one em c k) := hv6
              subst hv6
              refine lv_istore (lv' := [(6, .int (nI (Bool.toNat (ow || wOwn (jb R C b ey em one) one em c k)))), (0, .ref h0), (1, .int (nI one)), (2, .int (-1)), (3, .int (-1)), (4, .int (nI c)), (7, .int (nI (Bool.toNat ot))), (8, .int (nI k)), (9, .int (nI (c + (one * (3 ^ k))))), (10, .int (nI (c + ((3 - one) * (3 ^ k)))))]) hx hb dX6_works_224 hl (by decide) rfl (fun ls hl => ?_)
              refine kw_cut (σ := Nat) (fun (v7 : Nat) H locs ls => va_P D vwCl [(h0, wMo q R C tn dn ag md em), ((q 0), .inl (cI, 36, .inl (nA bx))), ((q 2), .inl (cZ, 36, .inl (bA zx))), ((q 5), .inl (cI, 10, .inl (nA ey))), ((q 6), .inl (cI, 11, .inl (nA pw))), ((q 7), .inl (cZ, 59049, .inl (bA y1x))), ((q 8), .inl (cZ, 59049, .inl (bA y2x)))] H ∧ va_D A [(h0, wMo q R C tn dn ag md em), ((q 0), .inl (cI, 36, .inl (nA bx))), ((q 2), .inl (cZ, 36, .inl (bA zx))), ((q 5), .inl (cI, 10, .inl (nA ey))), ((q 6), .inl (cI, 11, .inl (nA pw))), ((q 7), .inl (cZ, 59049, .inl (bA y1x))), ((q 8), .inl (cZ, 59049, .inl (bA y2x)))] ∧ va_S A s.heap H locs ∧ lv_has ls 11 [(0, .ref h0), (1, .int (nI one)), (2, .int (-1)), (3, .int (-1)), (4, .int (nI c)), (6, .int (nI (Bool.toNat (ow || wOwn (jb R C b ey em one) one em c k)))), (7, .int (nI (Bool.toNat ot))), (8, .int (nI k)), (9, .int (nI (c + (one * (3 ^ k))))), (10, .int (nI (c + ((3 - one) * (3 ^ k)))))] ∧ (v7 = Bool.toNat (ot && wOth (jb R C b ey em one) one em c k))) 264 (fun (v7 : Nat) => [.int (nI v7)]) (fun J_264 => ?_) ?_
              · refine lv_iload hx hb dX6_works_226 (lv_at hl 6 rfl) ?_
                refine kw_if_eq (tgt := 263) hx hb dX6_works_228 (by decide) (by omega) (fun c_228_15 => ?_) (fun c_228_15 => ?_)
                · have hot8 : ot = false := bz_f c_228_15
                  refine lv_iconst (v := (nI 0)) hx hb dX6_works_263 (by decide) ?_
                  exact J_264 0 _ _ _ ⟨hP, hD, hS, lv_sub hl [1, 2, 3, 4, 5, 0, 6, 7, 8, 9] rfl, by rw [hot8]; rfl⟩
                · have hot8 : ot = true := bz_t c_228_15
                  refine lv_iload_n hx hb dX6_works_231 rfl (lv_at hl 2 rfl) ?_
                  refine lv_iconst (v := (nI 1)) hx hb dX6_works_232 (by decide) ?_
                  refine kw_icmp_ne (tgt := 249) hx hb dX6_works_233 (by decide) (by omega) (by omega) (fun c_233_16 => ?_) (fun c_233_16 => ?_)
                  · have hX9 := wo_2 hy9 hcl hd9 hkl qone c_233_16
                    refine lv_aload_n hx hb dX6_works_249 rfl (lv_at hl 1 rfl) ?_
                    refine va_get (D := D) (ci := 6) (v := .ref (q 8)) (C := RX6) (T := TX6) (N := 17) hx hb hts kiX6_works_X6 hown hK hP 0 rfl rfl 15 (by decide) (hts (.fieldLink RX6 50 "TwoBanksModel" "byTwo" "[Z") (List.mem_of_getElem? (i := 4) rfl)) (fun _ h9 => h9) rfl dX6_works_250 ?_
                    refine lv_iload hx hb dX6_works_253 (lv_at hl 9 rfl) ?_
                    refine va_zald hx hb hK hP 6 2 rfl rfl (vp_in_nI (by omega) (by omega)) dX6_works_255 ?_
                    refine k_toi (y := nI ((y2x (c + ((3 - one) * (3 ^ k)))).toNat)) (congrArg (bA y2x) (nI_clamp (by omega))) ?_
                    refine kw_if_eq (tgt := 263) hx hb dX6_works_256 (by decide) (by omega) (fun c_256_17 => ?_) (fun c_256_17 => ?_)
                    · have hval := bz_f c_256_17
                      refine lv_iconst (v := (nI 0)) hx hb dX6_works_263 (by decide) ?_
                      exact J_264 0 _ _ _ ⟨hP, hD, hS, lv_sub hl [1, 2, 3, 4, 5, 0, 6, 7, 8, 9] rfl, by rw [hot8, ← hX9, hval]; rfl⟩
                    · have hval := bz_t c_256_17
                      refine lv_iconst (v := (nI 1)) hx hb dX6_works_259 (by decide) ?_
                      refine lv_goto (tgt := 264) hx hb dX6_works_260 (by decide) ?_
                      exact J_264 1 _ _ _ ⟨hP, hD, hS, lv_sub hl [1, 2, 3, 4, 5, 0, 6, 7, 8, 9] rfl, by rw [hot8, ← hX9, hval]; rfl⟩
                  · have hX9 := wo_1 hy9 hcl hd9 hkl c_233_16
                    refine lv_aload_n hx hb dX6_works_236 rfl (lv_at hl 1 rfl) ?_
                    refine va_get (D := D) (ci := 6) (v := .ref (q 7)) (C := RX6) (T := TX6) (N := 17) hx hb hts kiX6_works_X6 hown hK hP 0 rfl rfl 14 (by decide) (hts (.fieldLink RX6 47 "TwoBanksModel" "byOne" "[Z") (List.mem_of_getElem? (i := 3) rfl)) (fun _ h9 => h9) rfl dX6_works_237 ?_
                    refine lv_iload hx hb dX6_works_240 (lv_at hl 9 rfl) ?_
                    refine va_zald hx hb hK hP 5 2 rfl rfl (vp_in_nI (by omega) (by omega)) dX6_works_242 ?_
                    refine k_toi (y := nI ((y1x (c + ((3 - one) * (3 ^ k)))).toNat)) (congrArg (bA y1x) (nI_clamp (by omega))) ?_
                    refine kw_if_eq (tgt := 263) hx hb dX6_works_243 (by decide) (by omega) (fun c_243_18 => ?_) (fun c_243_18 => ?_)
                    · have hval := bz_f c_243_18
                      refine lv_iconst (v := (nI 0)) hx hb dX6_works_263 (by decide) ?_
                      exact J_264 0 _ _ _ ⟨hP, hD, hS, lv_sub hl [1, 2, 3, 4, 5, 0, 6, 7, 8, 9] rfl, by rw [hot8, ← hX9, hval]; rfl⟩
                    · have hval := bz_t c_243_18
                      refine lv_goto (tgt := 259) hx hb dX6_works_246 (by decide) ?_
                      refine lv_iconst (v := (nI 1)) hx hb dX6_works_259 (by decide) ?_
                      refine lv_goto (tgt := 264) hx hb dX6_works_260 (by decide) ?_
                      exact J_264 1 _ _ _ ⟨hP, hD, hS, lv_sub hl [1, 2, 3, 4, 5, 0, 6, 7, 8, 9] rfl, by rw [hot8, ← hX9, hval]; rfl⟩
              · clear hP hD hS hl
                rintro v7 H locs ls ⟨hP, hD, hS, hl, hv7⟩
                have hP : va_P D vwCl [(h0, wMo q R C tn dn ag md em), ((q 0), .inl (cI, 36, .inl (nA bx))), ((q 2), .inl (cZ, 36, .inl (bA zx))), ((q 5), .inl (cI, 10, .inl (nA ey))), ((q 6), .inl (cI, 11, .inl (nA pw))), ((q 7), .inl (cZ, 59049, .inl (bA y1x))), ((q 8), .inl (cZ, 59049, .inl (bA y2x)))] H := hP
                have hD : va_D A [(h0, wMo q R C tn dn ag md em), ((q 0), .inl (cI, 36, .inl (nA bx))), ((q 2), .inl (cZ, 36, .inl (bA zx))), ((q 5), .inl (cI, 10, .inl (nA ey))), ((q 6), .inl (cI, 11, .inl (nA pw))), ((q 7), .inl (cZ, 59049, .inl (bA y1x))), ((q 8), .inl (cZ, 59049, .inl (bA y2x)))] := hD
                have hl : lv_has ls 11 [(0, .ref h0), (1, .int (nI one)), (2, .int (-1)), (3, .int (-1)), (4, .int (nI c)), (6, .int (nI (Bool.toNat (ow || wOwn (jb R C b ey em one) one em c k)))), (7, .int (nI (Bool.toNat ot))), (8, .int (nI k)), (9, .int (nI (c + (one * (3 ^ k))))), (10, .int (nI (c + ((3 - one) * (3 ^ k)))))] := hl
                have hv7 : v7 = Bool.toNat (ot && wOth (jb R C b ey em one) one em c k) := hv7
                subst hv7
                refine lv_istore (lv' := [(7, .int (nI (Bool.toNat (ot && wOth (jb R C b ey em one) one em c k)))), (0, .ref h0), (1, .int (nI one)), (2, .int (-1)), (3, .int (-1)), (4, .int (nI c)), (6, .int (nI (Bool.toNat (ow || wOwn (jb R C b ey em one) one em c k)))), (8, .int (nI k)), (9, .int (nI (c + (one * (3 ^ k))))), (10, .int (nI (c + ((3 - one) * (3 ^ k)))))]) hx hb dX6_works_264 hl (by decide) rfl (fun ls hl => ?_)
                refine lv_iinc (v := (nI (k + 1))) (lv' := [(8, .int (nI (k + 1))), (7, .int (nI (Bool.toNat (ot && wOth (jb R C b ey em one) one em c k)))), (0, .ref h0), (1, .int (nI one)), (2, .int (-1)), (3, .int (-1)), (4, .int (nI c)), (6, .int (nI (Bool.toNat (ow || wOwn (jb R C b ey em one) one em c k)))), (9, .int (nI (c + (one * (3 ^ k))))), (10, .int (nI (c + ((3 - one) * (3 ^ k)))))]) hx hb dX6_works_266 hl (k := 7) rfl (k_inc _ 1) (by decide) rfl (fun ls hl => ?_)
                refine lv_goto (tgt := 129) hx hb dX6_works_269 (by decide) ?_
                exact ih_129 ((k + 1), (ow || wOwn (jb R C b ey em one) one em c k), (ot && wOth (jb R C b ey em one) one em c k)) _ _ _ (by show em - (k + 1) < em - k; omega) ⟨hP, hD, hS, lv_sub hl [2, 3, 4, 5, 6, 7, 1, 0] rfl, by omega, an_s how9 (wOp_0 hd9), al_s hot9 (wTp_0 hd9)⟩
          · have hd9 : ¬ dg c k = 0 := by omega
            refine lv_goto (tgt := 266) hx hb dX6_works_153 (by decide) ?_
            refine lv_iinc (v := (nI (k + 1))) (lv' := [(8, .int (nI (k + 1))), (0, .ref h0), (1, .int (nI one)), (2, .int (-1)), (3, .int (-1)), (4, .int (nI c)), (6, .int (nI (Bool.toNat ow))), (7, .int (nI (Bool.toNat ot)))]) hx hb dX6_works_266 hl (k := 7) rfl (k_inc _ 1) (by decide) rfl (fun ls hl => ?_)
            refine lv_goto (tgt := 129) hx hb dX6_works_269 (by decide) ?_
            exact ih_129 ((k + 1), ow, ot) _ _ _ (by show em - (k + 1) < em - k; omega) ⟨hP, hD, hS, lv_sub hl [1, 2, 3, 4, 5, 6, 7, 0] rfl, by omega, an_n how9 (wOp_n hd9), al_n hot9 (wTp_n hd9)⟩
      · have hft : fl = true := bz_t c_68_5
        refine lv_aload_n hx hb dX6_works_71 rfl (lv_at hl 0 rfl) ?_
        refine lv_iload hx hb dX6_works_72 (lv_at hl 4 rfl) ?_
        refine k_callv (wr := [((q 2), .inl (cZ, 36, .inl (bA zx))), ((q 7), .inl (cZ, 59049, .inl (bA y1x))), ((q 8), .inl (cZ, 59049, .inl (bA y2x)))]) (w2 := (fun _ : Unit => [(h0, wMo q R C tn dn ag md em), ((q 0), .inl (cI, 36, .inl (nA (mFill bx ey c em)))), ((q 2), .inl (cZ, 36, .inl (bA zx))), ((q 5), .inl (cI, 10, .inl (nA ey))), ((q 6), .inl (cI, 11, .inl (nA pw))), ((q 7), .inl (cZ, 59049, .inl (bA y1x))), ((q 8), .inl (cZ, 59049, .inl (bA y2x)))])) (va_runV (As := [.int (nI c)]) (rest := []) ⟨hx, hb, hml, hown, hts⟩ (c_R_fills l D cI cJ cZ h0 q R C tn dn ag md em bx ey pw c hR1 hR2 hC1 hC2 hRC hey hpw qem (by omega)  H.size) (cwV 1 hts gX6_works_X6_fills rfl rfl rfl (by decide +kernel) ⟨Nat.le_of_ble_eq_true rfl, Nat.le_of_ble_eq_true rfl⟩) (kPV (ci := 6) (q0 := 0) (wc := [(h0, wMo q R C tn dn ag md em), ((q 0), .inl (cI, 36, .inl (nA bx))), ((q 5), .inl (cI, 10, .inl (nA ey))), ((q 6), .inl (cI, 11, .inl (nA pw)))]) hK2 hP hD [0, 1, 3, 4] rfl (by decide) rfl rfl) rfl rfl hl.1 rfl (lv_room (Nat.le_of_ble_eq_true rfl)) dX6_works_74 ⟨Nat.le_of_ble_eq_true rfl, Nat.le_of_ble_eq_true rfl⟩) hP hD hS hA [0, 1, 3, 4] [2, 5, 6] [3, 4, 0, 5, 6, 1, 2] rfl rfl (by decide) (by decide) (fun _ => rfl) (by decide) (fun u_19 H locs hw_19 hP hD hS => ?_)
        have hP : va_P D vwCl [(h0, wMo q R C tn dn ag md em), ((q 0), .inl (cI, 36, .inl (nA (mFill bx ey c em)))), ((q 2), .inl (cZ, 36, .inl (bA zx))), ((q 5), .inl (cI, 10, .inl (nA ey))), ((q 6), .inl (cI, 11, .inl (nA pw))), ((q 7), .inl (cZ, 59049, .inl (bA y1x))), ((q 8), .inl (cZ, 59049, .inl (bA y2x)))] H := hP
        have hD : va_D A [(h0, wMo q R C tn dn ag md em), ((q 0), .inl (cI, 36, .inl (nA (mFill bx ey c em)))), ((q 2), .inl (cZ, 36, .inl (bA zx))), ((q 5), .inl (cI, 10, .inl (nA ey))), ((q 6), .inl (cI, 11, .inl (nA pw))), ((q 7), .inl (cZ, 59049, .inl (bA y1x))), ((q 8), .inl (cZ, 59049, .inl (bA y2x)))] := hD
        refine lv_iload_n hx hb dX6_works_77 rfl (lv_at hl 2 rfl) ?_
        refine lv_iconst (v := (-1)) hx hb dX6_works_78 (by decide) ?_
        refine lv_icmp_ne (tgt := 90) hx hb dX6_works_79 (by decide) (fun c_79_20 => absurd c_79_20 (by decide)) (fun c_79_20 => ?_)
        refine lv_aload_n hx hb dX6_works_82 rfl (lv_at hl 0 rfl) ?_
        refine lv_iload_n hx hb dX6_works_83 rfl (lv_at hl 1 rfl) ?_
        refine k_calli (wr := [((q 5), .inl (cI, 10, .inl (nA ey))), ((q 6), .inl (cI, 11, .inl (nA pw))), ((q 7), .inl (cZ, 59049, .inl (bA y1x))), ((q 8), .inl (cZ, 59049, .inl (bA y2x)))]) (w2 := (fun za : Nat → Bool => [(h0, wMo q R C tn dn ag md em), ((q 0), .inl (cI, 36, .inl (nA (mFill bx ey c em)))), ((q 2), .inl (cZ, 36, .inl (bA za))), ((q 5), .inl (cI, 10, .inl (nA ey))), ((q 6), .inl (cI, 11, .inl (nA pw))), ((q 7), .inl (cZ, 59049, .inl (bA y1x))), ((q 8), .inl (cZ, 59049, .inl (bA y2x)))])) (va_runV (As := [.int (nI one)]) (rest := []) ⟨hx, hb, hml, hown, hts⟩ (c_R_joins l D cI cJ cZ h0 q R C tn dn ag md em (mFill bx ey c em) zx one hR1 hR2 hC1 hC2 hRC (mFill_bv hx2 em) (by omega)  H.size) (cwV 1 hts gX6_works_X6_joins rfl rfl rfl (by decide +kernel) ⟨Nat.le_of_ble_eq_true rfl, Nat.le_of_ble_eq_true rfl⟩) (kPV (ci := 6) (q0 := 0) (wc := [(h0, wMo q R C tn dn ag md em), ((q 0), .inl (cI, 36, .inl (nA (mFill bx ey c em)))), ((q 2), .inl (cZ, 36, .inl (bA zx)))]) hK2 hP hD [0, 1, 2] rfl (by decide) rfl rfl) rfl rfl hl.1 rfl (lv_room (Nat.le_of_ble_eq_true rfl)) dX6_works_84 ⟨Nat.le_of_ble_eq_true rfl, Nat.le_of_ble_eq_true rfl⟩) hP hD hS hA [0, 1, 2] [3, 4, 5, 6] [4, 5, 6, 0, 1, 2, 3] rfl rfl (by decide) (by decide) (fun _ => rfl) (by decide) (fun r_22 u_22 H locs hw_22 hP hD hS => ?_)
        obtain ⟨za_21, rfl⟩ : ∃ z, z = u_22 := ⟨_, rfl⟩
        have hP : va_P D vwCl [(h0, wMo q R C tn dn ag md em), ((q 0), .inl (cI, 36, .inl (nA (mFill bx ey c em)))), ((q 2), .inl (cZ, 36, .inl (bA za_21))), ((q 5), .inl (cI, 10, .inl (nA ey))), ((q 6), .inl (cI, 11, .inl (nA pw))), ((q 7), .inl (cZ, 59049, .inl (bA y1x))), ((q 8), .inl (cZ, 59049, .inl (bA y2x)))] H := hP
        have hD : va_D A [(h0, wMo q R C tn dn ag md em), ((q 0), .inl (cI, 36, .inl (nA (mFill bx ey c em)))), ((q 2), .inl (cZ, 36, .inl (bA za_21))), ((q 5), .inl (cI, 10, .inl (nA ey))), ((q 6), .inl (cI, 11, .inl (nA pw))), ((q 7), .inl (cZ, 59049, .inl (bA y1x))), ((q 8), .inl (cZ, 59049, .inl (bA y2x)))] := hD
        rcases hw_22 with ⟨rfl, hw_22⟩ | ⟨rfl, hw_22⟩
        · skip
          refine lv_goto (tgt := 97) hx hb dX6_works_87 (by decide) ?_
          refine lv_istore (lv' := [(6, .int (nI 1)), (0, .ref h0), (1, .int (nI one)), (2, .int (-1)), (3, .int (-1)), (4, .int (nI c)), (5, .int (nI (Bool.toNat fl)))]) hx hb dX6_works_97 hl (by decide) rfl (fun ls hl => ?_)
          refine lv_aload_n hx hb dX6_works_99 rfl (lv_at hl 1 rfl) ?_
          refine va_get (D := D) (ci := 6) (v := .ref (q 7)) (C := RX6) (T := TX6) (N := 17) hx hb hts kiX6_works_X6 hown hK hP 0 rfl rfl 14 (by decide) (hts (.fieldLink RX6 47 "TwoBanksModel" "byOne" "[Z") (List.mem_of_getElem? (i := 3) rfl)) (fun _ h9 => h9) rfl dX6_works_100 ?_
          refine lv_iload hx hb dX6_works_103 (lv_at hl 5 rfl) ?_
          refine lv_iload hx hb dX6_works_105 (lv_at hl 0 rfl) ?_
          refine va_zast hx hb hK hP hD hS 5 2 rfl rfl (vp_in_nI (by omega) (by omega)) dX6_works_107 (fun H locs hP hD hS => ?_)
          rw [nI_clamp (by omega)] at hP hD
          rw [kz_nar (by first | decide | assumption | omega)] at hP hD
          rw [bA_upd1] at hP hD
          have hP : va_P D vwCl [(h0, wMo q R C tn dn ag md em), ((q 0), .inl (cI, 36, .inl (nA (mFill bx ey c em)))), ((q 2), .inl (cZ, 36, .inl (bA za_21))), ((q 5), .inl (cI, 10, .inl (nA ey))), ((q 6), .inl (cI, 11, .inl (nA pw))), ((q 7), .inl (cZ, 59049, .inl (bA (uB y1x c true)))), ((q 8), .inl (cZ, 59049, .inl (bA y2x)))] H := hP
          have hD : va_D A [(h0, wMo q R C tn dn ag md em), ((q 0), .inl (cI, 36, .inl (nA (mFill bx ey c em)))), ((q 2), .inl (cZ, 36, .inl (bA za_21))), ((q 5), .inl (cI, 10, .inl (nA ey))), ((q 6), .inl (cI, 11, .inl (nA pw))), ((q 7), .inl (cZ, 59049, .inl (bA (uB y1x c true)))), ((q 8), .inl (cZ, 59049, .inl (bA y2x)))] := hD
          refine lv_aload_n hx hb dX6_works_108 rfl (lv_at hl 1 rfl) ?_
          refine va_get (D := D) (ci := 6) (v := .ref (q 8)) (C := RX6) (T := TX6) (N := 17) hx hb hts kiX6_works_X6 hown hK hP 0 rfl rfl 15 (by decide) (hts (.fieldLink RX6 50 "TwoBanksModel" "byTwo" "[Z") (List.mem_of_getElem? (i := 4) rfl)) (fun _ h9 => h9) rfl dX6_works_109 ?_
          refine lv_iload hx hb dX6_works_112 (lv_at hl 5 rfl) ?_
          refine lv_iload hx hb dX6_works_114 (lv_at hl 0 rfl) ?_
          refine va_zast hx hb hK hP hD hS 6 2 rfl rfl (vp_in_nI (by omega) (by omega)) dX6_works_116 (fun H locs hP hD hS => ?_)
          rw [nI_clamp (by omega)] at hP hD
          rw [kz_nar (by first | decide | assumption | omega)] at hP hD
          rw [bA_upd1] at hP hD
          have hP : va_P D vwCl [(h0, wMo q R C tn dn ag md em), ((q 0), .inl (cI, 36, .inl (nA (mFill bx ey c em)))), ((q 2), .inl (cZ, 36, .inl (bA za_21))), ((q 5), .inl (cI, 10, .inl (nA ey))), ((q 6), .inl (cI, 11, .inl (nA pw))), ((q 7), .inl (cZ, 59049, .inl (bA (uB y1x c true)))), ((q 8), .inl (cZ, 59049, .inl (bA (uB y2x c true))))] H := hP
          have hD : va_D A [(h0, wMo q R C tn dn ag md em), ((q 0), .inl (cI, 36, .inl (nA (mFill bx ey c em)))), ((q 2), .inl (cZ, 36, .inl (bA za_21))), ((q 5), .inl (cI, 10, .inl (nA ey))), ((q 6), .inl (cI, 11, .inl (nA pw))), ((q 7), .inl (cZ, 59049, .inl (bA (uB y1x c true)))), ((q 8), .inl (cZ, 59049, .inl (bA (uB y2x c true))))] := hD
          refine lv_goto (tgt := 310) hx hb dX6_works_117 (by decide) ?_
          refine lv_iinc (v := (kPr c)) (lv' := [(4, .int (kPr c)), (6, .int (nI 1)), (0, .ref h0), (1, .int (nI one)), (2, .int (-1)), (3, .int (-1)), (5, .int (nI (Bool.toNat fl)))]) hx hb dX6_works_310 hl (k := 5) rfl (k_dec _) (by decide) rfl (fun ls hl => ?_)
          refine lv_goto (tgt := 13) hx hb dX6_works_313 (by decide) ?_
          exact ih_13 (c, (mFill bx ey c em), za_21, (uB y1x c true), (uB y2x c true)) _ _ _ (Nat.lt_succ_self _) ⟨hP, hD, hS, lv_sub hl [2, 3, 4, 5, 0] rfl, by omega, fun cd => by rw [mFill_over hin]; exact hx1 cd, mFill_bv hx2 em, wy_full hy9 (hfl9.mp hft) (jB_t (by rw [← hx1]; exact hw_22))⟩
        · skip
          refine lv_goto (tgt := 97) hx hb dX6_works_87 (by decide) ?_
          refine lv_istore (lv' := [(6, .int (nI 0)), (0, .ref h0), (1, .int (nI one)), (2, .int (-1)), (3, .int (-1)), (4, .int (nI c)), (5, .int (nI (Bool.toNat fl)))]) hx hb dX6_works_97 hl (by decide) rfl (fun ls hl => ?_)
          refine lv_aload_n hx hb dX6_works_99 rfl (lv_at hl 1 rfl) ?_
          refine va_get (D := D) (ci := 6) (v := .ref (q 7)) (C := RX6) (T := TX6) (N := 17) hx hb hts kiX6_works_X6 hown hK hP 0 rfl rfl 14 (by decide) (hts (.fieldLink RX6 47 "TwoBanksModel" "byOne" "[Z") (List.mem_of_getElem? (i := 3) rfl)) (fun _ h9 => h9) rfl dX6_works_100 ?_
          refine lv_iload hx hb dX6_works_103 (lv_at hl 5 rfl) ?_
          refine lv_iload hx hb dX6_works_105 (lv_at hl 0 rfl) ?_
          refine va_zast hx hb hK hP hD hS 5 2 rfl rfl (vp_in_nI (by omega) (by omega)) dX6_works_107 (fun H locs hP hD hS => ?_)
          rw [nI_clamp (by omega)] at hP hD
          rw [kz_nar (by first | decide | assumption | omega)] at hP hD
          rw [bA_upd0] at hP hD
          have hP : va_P D vwCl [(h0, wMo q R C tn dn ag md em), ((q 0), .inl (cI, 36, .inl (nA (mFill bx ey c em)))), ((q 2), .inl (cZ, 36, .inl (bA za_21))), ((q 5), .inl (cI, 10, .inl (nA ey))), ((q 6), .inl (cI, 11, .inl (nA pw))), ((q 7), .inl (cZ, 59049, .inl (bA (uB y1x c false)))), ((q 8), .inl (cZ, 59049, .inl (bA y2x)))] H := hP
          have hD : va_D A [(h0, wMo q R C tn dn ag md em), ((q 0), .inl (cI, 36, .inl (nA (mFill bx ey c em)))), ((q 2), .inl (cZ, 36, .inl (bA za_21))), ((q 5), .inl (cI, 10, .inl (nA ey))), ((q 6), .inl (cI, 11, .inl (nA pw))), ((q 7), .inl (cZ, 59049, .inl (bA (uB y1x c false)))), ((q 8), .inl (cZ, 59049, .inl (bA y2x)))] := hD
          refine lv_aload_n hx hb dX6_works_108 rfl (lv_at hl 1 rfl) ?_
          refine va_get (D := D) (ci := 6) (v := .ref (q 8)) (C := RX6) (T := TX6) (N := 17) hx hb hts kiX6_works_X6 hown hK hP 0 rfl rfl 15 (by decide) (hts (.fieldLink RX6 50 "TwoBanksModel" "byTwo" "[Z") (List.mem_of_getElem? (i := 4) rfl)) (fun _ h9 => h9) rfl dX6_works_109 ?_
          refine lv_iload hx hb dX6_works_112 (lv_at hl 5 rfl) ?_
          refine lv_iload hx hb dX6_works_114 (lv_at hl 0 rfl) ?_
          refine va_zast hx hb hK hP hD hS 6 2 rfl rfl (vp_in_nI (by omega) (by omega)) dX6_works_116 (fun H locs hP hD hS => ?_)
          rw [nI_clamp (by omega)] at hP hD
          rw [kz_nar (by first | decide | assumption | omega)] at hP hD
          rw [bA_upd0] at hP hD
          have hP : va_P D vwCl [(h0, wMo q R C tn dn ag md em), ((q 0), .inl (cI, 36, .inl (nA (mFill bx ey c em)))), ((q 2), .inl (cZ, 36, .inl (bA za_21))), ((q 5), .inl (cI, 10, .inl (nA ey))), ((q 6), .inl (cI, 11, .inl (nA pw))), ((q 7), .inl (cZ, 59049, .inl (bA (uB y1x c false)))), ((q 8), .inl (cZ, 59049, .inl (bA (uB y2x c false))))] H := hP
          have hD : va_D A [(h0, wMo q R C tn dn ag md em), ((q 0), .inl (cI, 36, .inl (nA (mFill bx ey c em)))), ((q 2), .inl (cZ, 36, .inl (bA za_21))), ((q 5), .inl (cI, 10, .inl (nA ey))), ((q 6), .inl (cI, 11, .inl (nA pw))), ((q 7), .inl (cZ, 59049, .inl (bA (uB y1x c false)))), ((q 8), .inl (cZ, 59049, .inl (bA (uB y2x c false))))] := hD
          refine lv_goto (tgt := 310) hx hb dX6_works_117 (by decide) ?_
          refine lv_iinc (v := (kPr c)) (lv' := [(4, .int (kPr c)), (6, .int (nI 0)), (0, .ref h0), (1, .int (nI one)), (2, .int (-1)), (3, .int (-1)), (5, .int (nI (Bool.toNat fl)))]) hx hb dX6_works_310 hl (k := 5) rfl (k_dec _) (by decide) rfl (fun ls hl => ?_)
          refine lv_goto (tgt := 13) hx hb dX6_works_313 (by decide) ?_
          exact ih_13 (c, (mFill bx ey c em), za_21, (uB y1x c false), (uB y2x c false)) _ _ _ (Nat.lt_succ_self _) ⟨hP, hD, hS, lv_sub hl [2, 3, 4, 5, 0] rfl, by omega, fun cd => by rw [mFill_over hin]; exact hx1 cd, mFill_bv hx2 em, wy_full hy9 (hfl9.mp hft) (jB_f (by rw [← hx1]; exact hw_22))⟩
    · have hkl : k < em := c_30_4
      have hpk := hpw k (by omega)
      have hp0 : 0 < 3 ^ k := Nat.pow_pos (by decide)
      have hpb : 3 ^ k ≤ 3 ^ 10 := Nat.pow_le_pow_right (by decide) (by omega)
      have hdv : c / 3 ^ k ≤ c := Nat.div_le_self _ _
      refine lv_iload hx hb dX6_works_33 (lv_at hl 5 rfl) ?_
      refine kw_if_eq (tgt := 57) hx hb dX6_works_35 (by decide) (by omega) (fun c_35_23 => ?_) (fun c_35_23 => ?_)
      · have hff : fl = false := bz_f c_35_23
        refine lv_iconst (v := (nI 0)) hx hb dX6_works_57 (by decide) ?_
        refine lv_istore (lv' := [(5, .int (nI 0)), (0, .ref h0), (1, .int (nI one)), (2, .int (-1)), (3, .int (-1)), (4, .int (nI c)), (6, .int (nI k))]) hx hb dX6_works_58 hl (by decide) rfl (fun ls hl => ?_)
        refine lv_iinc (v := (nI (k + 1))) (lv' := [(6, .int (nI (k + 1))), (5, .int (nI 0)), (0, .ref h0), (1, .int (nI one)), (2, .int (-1)), (3, .int (-1)), (4, .int (nI c))]) hx hb dX6_works_60 hl (k := 6) rfl (k_inc _ 1) (by decide) rfl (fun ls hl => ?_)
        refine lv_goto (tgt := 24) hx hb dX6_works_63 (by decide) ?_
        exact ih_24 ((k + 1), false) _ _ _ (by show em - (k + 1) < em - k; omega) ⟨hP, hD, hS, lv_sub hl [2, 3, 4, 5, 6, 1, 0] rfl, by omega, fl_n1 hfl9 hff⟩
      · have hff : fl = true := bz_t c_35_23
        refine lv_iload hx hb dX6_works_38 (lv_at hl 4 rfl) ?_
        refine lv_aload_n hx hb dX6_works_40 rfl (lv_at hl 0 rfl) ?_
        refine va_get (D := D) (ci := 6) (v := .ref (q 6)) (C := RX6) (T := TX6) (N := 17) hx hb hts kiX6_works_X6 hown hK hP 0 rfl rfl 13 (by decide) (hts (.fieldLink RX6 43 "TwoBanksModel" "power" "[I") (List.mem_of_getElem? (i := 1) rfl)) (fun _ h9 => h9) rfl dX6_works_41 ?_
        refine lv_iload hx hb dX6_works_44 (lv_at hl 6 rfl) ?_
        refine va_iald hx hb hK hP 4 0 rfl rfl (vp_in_nI (by omega) (by omega)) dX6_works_46 ?_
        refine k_toi (y := nI (pw k)) (congrArg (nA pw) (nI_clamp (by omega))) ?_
        refine k_toi (y := nI (3 ^ k)) (congrArg nI hpk) ?_
        refine lv_idiv hx hb dX6_works_47 (nI_ne0 (by omega) (by omega)) ?_
        refine k_toi (y := nI (c / (3 ^ k))) (pk_div (by omega) (by omega) (by omega)) ?_
        refine lv_iconst (v := (nI 3)) hx hb dX6_works_48 (by decide) ?_
        refine lv_irem hx hb dX6_works_49 (nI_ne0 (by omega) (by omega)) ?_
        refine k_toi (y := nI ((c / (3 ^ k)) % 3)) (pk_rem (by omega) (by omega) (by omega)) ?_
        refine k_toi (y := nI (dg c k)) (rfl) ?_
        have hdg := dg_lt c k
        refine kw_if_eq (tgt := 57) hx hb dX6_works_50 (by decide) (by omega) (fun c_50_24 => ?_) (fun c_50_24 => ?_)
        · have hd9 : dg c k = 0 := c_50_24
          refine lv_iconst (v := (nI 0)) hx hb dX6_works_57 (by decide) ?_
          refine lv_istore (lv' := [(5, .int (nI 0)), (0, .ref h0), (1, .int (nI one)), (2, .int (-1)), (3, .int (-1)), (4, .int (nI c)), (6, .int (nI k))]) hx hb dX6_works_58 hl (by decide) rfl (fun ls hl => ?_)
          refine lv_iinc (v := (nI (k + 1))) (lv' := [(6, .int (nI (k + 1))), (5, .int (nI 0)), (0, .ref h0), (1, .int (nI one)), (2, .int (-1)), (3, .int (-1)), (4, .int (nI c))]) hx hb dX6_works_60 hl (k := 6) rfl (k_inc _ 1) (by decide) rfl (fun ls hl => ?_)
          refine lv_goto (tgt := 24) hx hb dX6_works_63 (by decide) ?_
          exact ih_24 ((k + 1), false) _ _ _ (by show em - (k + 1) < em - k; omega) ⟨hP, hD, hS, lv_sub hl [2, 3, 4, 5, 6, 1, 0] rfl, by omega, fl_n2 hd9⟩
        · have hd9 : 0 < dg c k := c_50_24
          refine lv_iconst (v := (nI 1)) hx hb dX6_works_53 (by decide) ?_
          refine lv_goto (tgt := 58) hx hb dX6_works_54 (by decide) ?_
          refine lv_istore (lv' := [(5, .int (nI 1)), (0, .ref h0), (1, .int (nI one)), (2, .int (-1)), (3, .int (-1)), (4, .int (nI c)), (6, .int (nI k))]) hx hb dX6_works_58 hl (by decide) rfl (fun ls hl => ?_)
          refine lv_iinc (v := (nI (k + 1))) (lv' := [(6, .int (nI (k + 1))), (5, .int (nI 1)), (0, .ref h0), (1, .int (nI one)), (2, .int (-1)), (3, .int (-1)), (4, .int (nI c))]) hx hb dX6_works_60 hl (k := 6) rfl (k_inc _ 1) (by decide) rfl (fun ls hl => ?_)
          refine lv_goto (tgt := 24) hx hb dX6_works_63 (by decide) ?_
          exact ih_24 ((k + 1), true) _ _ _ (by show em - (k + 1) < em - k; omega) ⟨hP, hD, hS, lv_sub hl [2, 3, 4, 5, 6, 1, 0] rfl, by omega, fl_y hfl9 hff hd9⟩

set_option maxHeartbeats 4000000 in
set_option maxRecDepth 100000 in
theorem c_R_works_l (l : Launch) (D : va_G) (cI cJ cZ : ClassId) (h0 : Nat) (q : Nat → Nat) (R C tn dn ag md em : Nat) (b ey pw : Nat → Nat) (z y1 y2 : Nat → Bool) (one x y : Nat) (hR1 : 1 ≤ R) (hR2 : R ≤ 6) (hC1 : 1 ≤ C) (hC2 : C ≤ 6) (hRC : R * C ≤ 36) (hbv : ∀ f, f < R * C → b f ≤ 2) (hey : ∀ k, k < em → ey k < R * C) (hpw : ∀ i, i < 11 → pw i = 3 ^ i) (qem : em ≤ 10) (hin : ∀ i j, i < em → j < em → ey i = ey j → i = j) (hb0 : ∀ k, k < em → b (ey k) = 0) (qone : one = 1 ∨ one = 2) (qx : x < R * C) (qy : y < R * C) (sz : Nat) : kMV l yX6_works wsX6_works 5 115 D cI cJ cZ [.ref h0, .int (nI one), .int (nI x), .int (nI y)] [(h0, wMo q R C tn dn ag md em), ((q 0), .inl (cI, 36, .inl (nA b))), ((q 2), .inl (cZ, 36, .inl (bA z))), ((q 5), .inl (cI, 10, .inl (nA ey))), ((q 6), .inl (cI, 11, .inl (nA pw))), ((q 7), .inl (cZ, 59049, .inl (bA y1))), ((q 8), .inl (cZ, 59049, .inl (bA y2)))] sz (fun (u : (Nat → Bool) × (Nat → Bool) × (Nat → Bool)) => wyP (jl R C b ey em one x y) one em 0 u.2.1 u.2.2) (fun u : (Nat → Bool) × (Nat → Bool) × (Nat → Bool) => match u with | (za, y1a, y2a) => [(h0, wMo q R C tn dn ag md em), ((q 0), .inl (cI, 36, .inl (nA b))), ((q 2), .inl (cZ, 36, .inl (bA za))), ((q 5), .inl (cI, 10, .inl (nA ey))), ((q 6), .inl (cI, 11, .inl (nA pw))), ((q 7), .inl (cZ, 59049, .inl (bA y1a))), ((q 8), .inl (cZ, 59049, .inl (bA y2a)))]) := by
  refine Met.ofW (cc := cX6_works) (maxL := 11) (ret := none) (by decide) rfl ?_
  intro p e s m args below meth c s₁ B hml hv
  obtain ⟨rfl, hsz, hP, ⟨hK, hN⟩, hD0⟩ := hv
  have hx := B.exec
  have hb := B.bytes
  have hr := B.returns
  have hts := atoms_spec (ws := wsX6_works) B.pre
  have hown : s.vm.findClass RX6 = some m.cls := findClass_of_methodNamed B.named
  have hlocks := B.notSynchronized
  subst hsz
  have hD := hD0.self (sz := s.heap.size)
  generalize hAe : va_A [(h0, wMo q R C tn dn ag md em), ((q 0), .inl (cI, 36, .inl (nA b))), ((q 2), .inl (cZ, 36, .inl (bA z))), ((q 5), .inl (cI, 10, .inl (nA ey))), ((q 6), .inl (cI, 11, .inl (nA pw))), ((q 7), .inl (cZ, 59049, .inl (bA y1))), ((q 8), .inl (cZ, 59049, .inl (bA y2)))] s.heap.size = A at hD ⊢
  have hA : ∀ q : Nat, s.heap.size ≤ q → A q := fun q h => by rw [← hAe]; exact Or.inr h
  have hS : va_S A s.heap s.heap [] := va_S.rf
  have hl := lv_entry ([.ref h0, .int (nI one), .int (nI x), .int (nI y)]) (n := 11) (Nat.le_of_ble_eq_true rfl)
  rw [lg_entry_eq]
  generalize (lg_sl ([.ref h0, .int (nI one), .int (nI x), .int (nI y)]) ++ List.replicate (11 - (lg_sl ([.ref h0, .int (nI one), .int (nI x), .int (nI y)])).length) Slot.unset).toArray = ls at hl ⊢
  have hl : lv_has ls 11 [(0, .ref h0), (1, .int (nI one)), (2, .int (nI x)), (3, .int (nI y))] := hl
  have hK2 : kK D cI cJ cZ s := ⟨hK, hN⟩
  clear hD0
  have h3n := p3_le qem
  have h3p : 0 < 3 ^ em := Nat.pow_pos (by decide)
  refine lv_aload_n hx hb dX6_works_0 rfl (lv_at hl 0 rfl) ?_
  refine va_get (D := D) (ci := 6) (v := .ref (q 6)) (C := RX6) (T := TX6) (N := 17) hx hb hts kiX6_works_X6 hown hK hP 0 rfl rfl 13 (by decide) (hts (.fieldLink RX6 43 "TwoBanksModel" "power" "[I") (List.mem_of_getElem? (i := 1) rfl)) (fun _ h9 => h9) rfl dX6_works_1 ?_
  refine lv_aload_n hx hb dX6_works_4 rfl (lv_at hl 0 rfl) ?_
  refine va_get (D := D) (ci := 6) (v := .int (nI em)) (C := RX6) (T := TX6) (N := 17) hx hb hts kiX6_works_X6 hown hK hP 0 rfl rfl 11 (by decide) (hts (.fieldLink RX6 130 "TwoBanksModel" "empties" "I") (List.mem_of_getElem? (i := 2) rfl)) (fun _ h9 => h9) rfl dX6_works_5 ?_
  refine va_iald hx hb hK hP 4 0 rfl rfl (vp_in_nI (by omega) (by omega)) dX6_works_8 ?_
  refine k_toi (y := nI (pw em)) (congrArg (nA pw) (nI_clamp (by omega))) ?_
  refine k_toi (y := nI (3 ^ em)) (congrArg nI (hpw em (by omega))) ?_
  refine lv_iconst (v := (nI 1)) hx hb dX6_works_9 (by decide) ?_
  refine lv_isub hx hb dX6_works_10 ?_
  refine k_toi (y := nI ((3 ^ em) - 1)) (pk_sub (by omega)) ?_
  refine k_toi (y := kPr (3 ^ em)) ((kPr_pos (by omega)).symm) ?_
  refine lv_istore (lv' := [(4, .int (kPr (3 ^ em))), (0, .ref h0), (1, .int (nI one)), (2, .int (nI x)), (3, .int (nI y))]) hx hb dX6_works_11 hl (by decide) rfl (fun ls hl => ?_)
  refine kw_loop (σ := Nat × (Nat → Nat) × (Nat → Bool) × (Nat → Bool) × (Nat → Bool)) (fun zz H locs ls => match zz with | (m, bx, zx, y1x, y2x) => va_P D vwCl [(h0, wMo q R C tn dn ag md em), ((q 0), .inl (cI, 36, .inl (nA bx))), ((q 2), .inl (cZ, 36, .inl (bA zx))), ((q 5), .inl (cI, 10, .inl (nA ey))), ((q 6), .inl (cI, 11, .inl (nA pw))), ((q 7), .inl (cZ, 59049, .inl (bA y1x))), ((q 8), .inl (cZ, 59049, .inl (bA y2x)))] H ∧ va_D A [(h0, wMo q R C tn dn ag md em), ((q 0), .inl (cI, 36, .inl (nA bx))), ((q 2), .inl (cZ, 36, .inl (bA zx))), ((q 5), .inl (cI, 10, .inl (nA ey))), ((q 6), .inl (cI, 11, .inl (nA pw))), ((q 7), .inl (cZ, 59049, .inl (bA y1x))), ((q 8), .inl (cZ, 59049, .inl (bA y2x)))] ∧ va_S A s.heap H locs ∧ lv_has ls 11 [(0, .ref h0), (1, .int (nI one)), (2, .int (nI x)), (3, .int (nI y)), (4, .int (kPr m))] ∧ (m ≤ 3 ^ em) ∧ (∀ cd, mFill bx ey cd em = mFill b ey cd em) ∧ (∀ f, f < R * C → bx f ≤ 2) ∧ (wyP (jl R C b ey em one x y) one em m y1x y2x)) (fun zz => match zz with | (m, bx, zx, y1x, y2x) => m) ((3 ^ em), b, z, y1, y2) ⟨hP, hD, hS, lv_sub hl [1, 2, 3, 4, 0] rfl, Nat.le_refl _, fun _ => rfl, hbv, fun c h1 h2 => absurd h2 (Nat.not_lt.mpr h1)⟩ ?_
  clear hP hD hS hl
  rintro ⟨m, bx, zx, y1x, y2x⟩ H locs ls ⟨hP, hD, hS, hl, hm9, hx1, hx2, hy9⟩ ih_13
  have hP : va_P D vwCl [(h0, wMo q R C tn dn ag md em), ((q 0), .inl (cI, 36, .inl (nA bx))), ((q 2), .inl (cZ, 36, .inl (bA zx))), ((q 5), .inl (cI, 10, .inl (nA ey))), ((q 6), .inl (cI, 11, .inl (nA pw))), ((q 7), .inl (cZ, 59049, .inl (bA y1x))), ((q 8), .inl (cZ, 59049, .inl (bA y2x)))] H := hP
  have hD : va_D A [(h0, wMo q R C tn dn ag md em), ((q 0), .inl (cI, 36, .inl (nA bx))), ((q 2), .inl (cZ, 36, .inl (bA zx))), ((q 5), .inl (cI, 10, .inl (nA ey))), ((q 6), .inl (cI, 11, .inl (nA pw))), ((q 7), .inl (cZ, 59049, .inl (bA y1x))), ((q 8), .inl (cZ, 59049, .inl (bA y2x)))] := hD
  have hl : lv_has ls 11 [(0, .ref h0), (1, .int (nI one)), (2, .int (nI x)), (3, .int (nI y)), (4, .int (kPr m))] := hl
  have hm9 : m ≤ 3 ^ em := hm9
  have hx1 : ∀ cd, mFill bx ey cd em = mFill b ey cd em := hx1
  have hx2 : ∀ f, f < R * C → bx f ≤ 2 := hx2
  have hy9 : wyP (jl R C b ey em one x y) one em m y1x y2x := hy9
  rcases (show m = 0 ∨ ∃ c, m = c + 1 from by cases m with | zero => exact Or.inl rfl | succ c => exact Or.inr ⟨c, rfl⟩) with rfl | ⟨c, rfl⟩
  · have hl : lv_has ls 11 [(0, .ref h0), (1, .int (nI one)), (2, .int (nI x)), (3, .int (nI y)), (4, .int (-1))] := hl
    refine lv_iload hx hb dX6_works_13 (lv_at hl 4 rfl) ?_
    refine lv_if_lt (tgt := 316) hx hb dX6_works_15 (by decide) (fun c_15_1 => ?_) (fun c_15_1 => absurd c_15_1 (by decide))
    skip
    refine lv_aload_n hx hb dX6_works_316 rfl (lv_at hl 0 rfl) ?_
    refine lv_iconst (v := (nI 0)) hx hb dX6_works_317 (by decide) ?_
    refine k_callv (wr := [((q 2), .inl (cZ, 36, .inl (bA zx))), ((q 7), .inl (cZ, 59049, .inl (bA y1x))), ((q 8), .inl (cZ, 59049, .inl (bA y2x)))]) (w2 := (fun _ : Unit => [(h0, wMo q R C tn dn ag md em), ((q 0), .inl (cI, 36, .inl (nA (mFill bx ey 0 em)))), ((q 2), .inl (cZ, 36, .inl (bA zx))), ((q 5), .inl (cI, 10, .inl (nA ey))), ((q 6), .inl (cI, 11, .inl (nA pw))), ((q 7), .inl (cZ, 59049, .inl (bA y1x))), ((q 8), .inl (cZ, 59049, .inl (bA y2x)))])) (va_runV (As := [.int (nI 0)]) (rest := []) ⟨hx, hb, hml, hown, hts⟩ (c_R_fills l D cI cJ cZ h0 q R C tn dn ag md em bx ey pw 0 hR1 hR2 hC1 hC2 hRC hey hpw qem (by omega)  H.size) (cwV 1 hts gX6_works_X6_fills rfl rfl rfl (by decide +kernel) ⟨Nat.le_of_ble_eq_true rfl, Nat.le_of_ble_eq_true rfl⟩) (kPV (ci := 6) (q0 := 0) (wc := [(h0, wMo q R C tn dn ag md em), ((q 0), .inl (cI, 36, .inl (nA bx))), ((q 5), .inl (cI, 10, .inl (nA ey))), ((q 6), .inl (cI, 11, .inl (nA pw)))]) hK2 hP hD [0, 1, 3, 4] rfl (by decide) rfl rfl) rfl rfl hl.1 rfl (lv_room (Nat.le_of_ble_eq_true rfl)) dX6_works_318 ⟨Nat.le_of_ble_eq_true rfl, Nat.le_of_ble_eq_true rfl⟩) hP hD hS hA [0, 1, 3, 4] [2, 5, 6] [3, 4, 0, 5, 6, 1, 2] rfl rfl (by decide) (by decide) (fun _ => rfl) (by decide) (fun u_2 H locs hw_2 hP hD hS => ?_)
    have hP : va_P D vwCl [(h0, wMo q R C tn dn ag md em), ((q 0), .inl (cI, 36, .inl (nA (mFill bx ey 0 em)))), ((q 2), .inl (cZ, 36, .inl (bA zx))), ((q 5), .inl (cI, 10, .inl (nA ey))), ((q 6), .inl (cI, 11, .inl (nA pw))), ((q 7), .inl (cZ, 59049, .inl (bA y1x))), ((q 8), .inl (cZ, 59049, .inl (bA y2x)))] H := hP
    have hD : va_D A [(h0, wMo q R C tn dn ag md em), ((q 0), .inl (cI, 36, .inl (nA (mFill bx ey 0 em)))), ((q 2), .inl (cZ, 36, .inl (bA zx))), ((q 5), .inl (cI, 10, .inl (nA ey))), ((q 6), .inl (cI, 11, .inl (nA pw))), ((q 7), .inl (cZ, 59049, .inl (bA y1x))), ((q 8), .inl (cZ, 59049, .inl (bA y2x)))] := hD
    have hP : va_P D vwCl [(h0, wMo q R C tn dn ag md em), ((q 0), .inl (cI, 36, .inl (nA b))), ((q 2), .inl (cZ, 36, .inl (bA zx))), ((q 5), .inl (cI, 10, .inl (nA ey))), ((q 6), .inl (cI, 11, .inl (nA pw))), ((q 7), .inl (cZ, 59049, .inl (bA y1x))), ((q 8), .inl (cZ, 59049, .inl (bA y2x)))] H := (by have e9 : mFill bx ey 0 em = b := (hx1 0).trans (mFill_0 hin hb0); rw [e9] at hP; exact hP)
    have hD : va_D A [(h0, wMo q R C tn dn ag md em), ((q 0), .inl (cI, 36, .inl (nA b))), ((q 2), .inl (cZ, 36, .inl (bA zx))), ((q 5), .inl (cI, 10, .inl (nA ey))), ((q 6), .inl (cI, 11, .inl (nA pw))), ((q 7), .inl (cZ, 59049, .inl (bA y1x))), ((q 8), .inl (cZ, 59049, .inl (bA y2x)))] := (by have e9 : mFill bx ey 0 em = b := (hx1 0).trans (mFill_0 hin hb0); rw [e9] at hD; exact hD)
    exact W.vret hx hb hr (fun t ht hW => ⟨⟨(zx, y1x, y2x), rfl, hy9, by rw [ht]; exact hP, hD⟩, hS.F ht⟩) hS.2.2 dX6_works_321
  · have hl : lv_has ls 11 [(0, .ref h0), (1, .int (nI one)), (2, .int (nI x)), (3, .int (nI y)), (4, .int (nI c))] := hl
    have hcl : c < 3 ^ em := hm9
    refine lv_iload hx hb dX6_works_13 (lv_at hl 4 rfl) ?_
    refine kw_if_lt (tgt := 316) hx hb dX6_works_15 (by decide) (by omega) (fun c_15_3 => False.elim c_15_3) (fun c_15_3 => ?_)
    refine lv_iconst (v := (nI 1)) hx hb dX6_works_18 (by decide) ?_
    refine lv_istore (lv' := [(5, .int (nI 1)), (0, .ref h0), (1, .int (nI one)), (2, .int (nI x)), (3, .int (nI y)), (4, .int (nI c))]) hx hb dX6_works_19 hl (by decide) rfl (fun ls hl => ?_)
    refine lv_iconst (v := (nI 0)) hx hb dX6_works_21 (by decide) ?_
    refine lv_istore (lv' := [(6, .int (nI 0)), (5, .int (nI 1)), (0, .ref h0), (1, .int (nI one)), (2, .int (nI x)), (3, .int (nI y)), (4, .int (nI c))]) hx hb dX6_works_22 hl (by decide) rfl (fun ls hl => ?_)
    refine kw_loop (σ := Nat × Bool) (fun zz H locs ls => match zz with | (k, fl) => va_P D vwCl [(h0, wMo q R C tn dn ag md em), ((q 0), .inl (cI, 36, .inl (nA bx))), ((q 2), .inl (cZ, 36, .inl (bA zx))), ((q 5), .inl (cI, 10, .inl (nA ey))), ((q 6), .inl (cI, 11, .inl (nA pw))), ((q 7), .inl (cZ, 59049, .inl (bA y1x))), ((q 8), .inl (cZ, 59049, .inl (bA y2x)))] H ∧ va_D A [(h0, wMo q R C tn dn ag md em), ((q 0), .inl (cI, 36, .inl (nA bx))), ((q 2), .inl (cZ, 36, .inl (bA zx))), ((q 5), .inl (cI, 10, .inl (nA ey))), ((q 6), .inl (cI, 11, .inl (nA pw))), ((q 7), .inl (cZ, 59049, .inl (bA y1x))), ((q 8), .inl (cZ, 59049, .inl (bA y2x)))] ∧ va_S A s.heap H locs ∧ lv_has ls 11 [(0, .ref h0), (1, .int (nI one)), (2, .int (nI x)), (3, .int (nI y)), (4, .int (nI c)), (5, .int (nI (Bool.toNat fl))), (6, .int (nI k))] ∧ (k ≤ em) ∧ (flP c k fl)) (fun zz => match zz with | (k, fl) => em - k) (0, true) ⟨hP, hD, hS, lv_sub hl [2, 3, 4, 5, 6, 1, 0] rfl, Nat.zero_le _, fl_0⟩ ?_
    clear hP hD hS hl
    rintro ⟨k, fl⟩ H locs ls ⟨hP, hD, hS, hl, hk9, hfl9⟩ ih_24
    have hP : va_P D vwCl [(h0, wMo q R C tn dn ag md em), ((q 0), .inl (cI, 36, .inl (nA bx))), ((q 2), .inl (cZ, 36, .inl (bA zx))), ((q 5), .inl (cI, 10, .inl (nA ey))), ((q 6), .inl (cI, 11, .inl (nA pw))), ((q 7), .inl (cZ, 59049, .inl (bA y1x))), ((q 8), .inl (cZ, 59049, .inl (bA y2x)))] H := hP
    have hD : va_D A [(h0, wMo q R C tn dn ag md em), ((q 0), .inl (cI, 36, .inl (nA bx))), ((q 2), .inl (cZ, 36, .inl (bA zx))), ((q 5), .inl (cI, 10, .inl (nA ey))), ((q 6), .inl (cI, 11, .inl (nA pw))), ((q 7), .inl (cZ, 59049, .inl (bA y1x))), ((q 8), .inl (cZ, 59049, .inl (bA y2x)))] := hD
    have hl : lv_has ls 11 [(0, .ref h0), (1, .int (nI one)), (2, .int (nI x)), (3, .int (nI y)), (4, .int (nI c)), (5, .int (nI (Bool.toNat fl))), (6, .int (nI k))] := hl
    have hfb : (Bool.toNat fl) ≤ 1 := Bool.toNat_le fl
    have hk9 : k ≤ em := hk9
    have hfl9 : flP c k fl := hfl9
    refine lv_iload hx hb dX6_works_24 (lv_at hl 6 rfl) ?_
    refine lv_aload_n hx hb dX6_works_26 rfl (lv_at hl 0 rfl) ?_
    refine va_get (D := D) (ci := 6) (v := .int (nI em)) (C := RX6) (T := TX6) (N := 17) hx hb hts kiX6_works_X6 hown hK hP 0 rfl rfl 11 (by decide) (hts (.fieldLink RX6 130 "TwoBanksModel" "empties" "I") (List.mem_of_getElem? (i := 2) rfl)) (fun _ h9 => h9) rfl dX6_works_27 ?_
    refine kw_icmp_ge (tgt := 66) hx hb dX6_works_30 (by decide) (by omega) (by omega) (fun c_30_4 => ?_) (fun c_30_4 => ?_)
    · have hfl9 : flP c em fl := (by have e9 : k = em := (by omega); rw [e9] at hfl9; exact hfl9)
      refine lv_iload hx hb dX6_works_66 (lv_at hl 5 rfl) ?_
      refine kw_if_eq (tgt := 120) hx hb dX6_works_68 (by decide) (by omega) (fun c_68_5 => ?_) (fun c_68_5 => ?_)
      · have hft : fl = false := bz_f c_68_5
        refine lv_iconst (v := (nI 0)) hx hb dX6_works_120 (by decide) ?_
        refine lv_istore (lv' := [(6, .int (nI 0)), (0, .ref h0), (1, .int (nI one)), (2, .int (nI x)), (3, .int (nI y)), (4, .int (nI c)), (5, .int (nI (Bool.toNat fl)))]) hx hb dX6_works_121 hl (by decide) rfl (fun ls hl => ?_)
        refine lv_iconst (v := (nI 1)) hx hb dX6_works_123 (by decide) ?_
        refine lv_istore (lv' := [(7, .int (nI 1)), (6, .int (nI 0)), (0, .ref h0), (1, .int (nI one)), (2, .int (nI x)), (3, .int (nI y)), (4, .int (nI c)), (5, .int (nI (Bool.toNat fl)))]) hx hb dX6_works_124 hl (by decide) rfl (fun ls hl => ?_)
        refine lv_iconst (v := (nI 0)) hx hb dX6_works_126 (by decide) ?_
        refine lv_istore (lv' := [(8, .int (nI 0)), (7, .int (nI 1)), (6, .int (nI 0)), (0, .ref h0), (1, .int (nI one)), (2, .int (nI x)), (3, .int (nI y)), (4, .int (nI c)), (5, .int (nI (Bool.toNat fl)))]) hx hb dX6_works_127 hl (by decide) rfl (fun ls hl => ?_)
        refine kw_loop (σ := Nat × Bool × Bool) (fun zz H locs ls => match zz with | (k, ow, ot) => va_P D vwCl [(h0, wMo q R C tn dn ag md em), ((q 0), .inl (cI, 36, .inl (nA bx))), ((q 2), .inl (cZ, 36, .inl (bA zx))), ((q 5), .inl (cI, 10, .inl (nA ey))), ((q 6), .inl (cI, 11, .inl (nA pw))), ((q 7), .inl (cZ, 59049, .inl (bA y1x))), ((q 8), .inl (cZ, 59049, .inl (bA y2x)))] H ∧ va_D A [(h0, wMo q R C tn dn ag md em), ((q 0), .inl (cI, 36, .inl (nA bx))), ((q 2), .inl (cZ, 36, .inl (bA zx))), ((q 5), .inl (cI, 10, .inl (nA ey))), ((q 6), .inl (cI, 11, .inl (nA pw))), ((q 7), .inl (cZ, 59049, .inl (bA y1x))), ((q 8), .inl (cZ, 59049, .inl (bA y2x)))] ∧ va_S A s.heap H locs ∧ lv_has ls 11 [(0, .ref h0), (1, .int (nI one)), (2, .int (nI x)), (3, .int (nI y)), (4, .int (nI c)), (6, .int (nI (Bool.toNat ow))), (7, .int (nI (Bool.toNat ot))), (8, .int (nI k))] ∧ (k ≤ em) ∧ (ow = anyU (wOp (jl R C b ey em one x y) one em c) k) ∧ (ot = allU (wTp (jl R C b ey em one x y) one em c) k)) (fun zz => match zz with | (k, ow, ot) => em - k) (0, false, true) ⟨hP, hD, hS, lv_sub hl [3, 4, 5, 6, 7, 2, 1, 0] rfl, Nat.zero_le _, rfl, rfl⟩ ?_
        clear hP hD hS hl
        rintro ⟨k, ow, ot⟩ H locs ls ⟨hP, hD, hS, hl, hk9, how9, hot9⟩ ih_129
        have hP : va_P D vwCl [(h0, wMo q R C tn dn ag md em), ((q 0), .inl (cI, 36, .inl (nA bx))), ((q 2), .inl (cZ, 36, .inl (bA zx))), ((q 5), .inl (cI, 10, .inl (nA ey))), ((q 6), .inl (cI, 11, .inl (nA pw))), ((q 7), .inl (cZ, 59049, .inl (bA y1x))), ((q 8), .inl (cZ, 59049, .inl (bA y2x)))] H := hP
        have hD : va_D A [(h0, wMo q R C tn dn ag md em), ((q 0), .inl (cI, 36, .inl (nA bx))), ((q 2), .inl (cZ, 36, .inl (bA zx))), ((q 5), .inl (cI, 10, .inl (nA ey))), ((q 6), .inl (cI, 11, .inl (nA pw))), ((q 7), .inl (cZ, 59049, .inl (bA y1x))), ((q 8), .inl (cZ, 59049, .inl (bA y2x)))] := hD
        have hl : lv_has ls 11 [(0, .ref h0), (1, .int (nI one)), (2, .int (nI x)), (3, .int (nI y)), (4, .int (nI c)), (6, .int (nI (Bool.toNat ow))), (7, .int (nI (Bool.toNat ot))), (8, .int (nI k))] := hl
        have hob : (Bool.toNat ow) ≤ 1 := Bool.toNat_le ow
        have htb : (Bool.toNat ot) ≤ 1 := Bool.toNat_le ot
        have hk9 : k ≤ em := hk9
        have how9 : ow = anyU (wOp (jl R C b ey em one x y) one em c) k := how9
        have hot9 : ot = allU (wTp (jl R C b ey em one x y) one em c) k := hot9
        refine lv_iload hx hb dX6_works_129 (lv_at hl 7 rfl) ?_
        refine lv_aload_n hx hb dX6_works_131 rfl (lv_at hl 0 rfl) ?_
        refine va_get (D := D) (ci := 6) (v := .int (nI em)) (C := RX6) (T := TX6) (N := 17) hx hb hts kiX6_works_X6 hown hK hP 0 rfl rfl 11 (by decide) (hts (.fieldLink RX6 130 "TwoBanksModel" "empties" "I") (List.mem_of_getElem? (i := 2) rfl)) (fun _ h9 => h9) rfl dX6_works_132 ?_
        refine kw_icmp_ge (tgt := 272) hx hb dX6_works_135 (by decide) (by omega) (by omega) (fun c_135_6 => ?_) (fun c_135_6 => ?_)
        · have how9 : ow = anyU (wOp (jl R C b ey em one x y) one em c) em := (by have e9 : k = em := (by omega); rw [e9] at how9; exact how9)
          have hot9 : ot = allU (wTp (jl R C b ey em one x y) one em c) em := (by have e9 : k = em := (by omega); rw [e9] at hot9; exact hot9)
          have hw01 := nB_01 ow
          have ht01 := nB_01 ot
          refine lv_aload_n hx hb dX6_works_272 rfl (lv_at hl 0 rfl) ?_
          refine va_get (D := D) (ci := 6) (v := .ref (q 7)) (C := RX6) (T := TX6) (N := 17) hx hb hts kiX6_works_X6 hown hK hP 0 rfl rfl 14 (by decide) (hts (.fieldLink RX6 47 "TwoBanksModel" "byOne" "[Z") (List.mem_of_getElem? (i := 3) rfl)) (fun _ h9 => h9) rfl dX6_works_273 ?_
          refine lv_iload hx hb dX6_works_276 (lv_at hl 4 rfl) ?_
          refine lv_iload_n hx hb dX6_works_278 rfl (lv_at hl 1 rfl) ?_
          refine lv_iconst (v := (nI 1)) hx hb dX6_works_279 (by decide) ?_
          refine kw_icmp_ne (tgt := 288) hx hb dX6_works_280 (by decide) (by omega) (by omega) (fun c_280_7 => ?_) (fun c_280_7 => ?_)
          · have ho1 : one ≠ 1 := c_280_7
            refine lv_iload hx hb dX6_works_288 (lv_at hl 6 rfl) ?_
            refine va_zast hx hb hK hP hD hS 5 2 rfl rfl (vp_in_nI (by omega) (by omega)) dX6_works_290 (fun H locs hP hD hS => ?_)
            rw [nI_clamp (by omega)] at hP hD
            rw [kz_nar (by first | decide | assumption | omega)] at hP hD
            have hP : va_P D vwCl [(h0, wMo q R C tn dn ag md em), ((q 0), .inl (cI, 36, .inl (nA bx))), ((q 2), .inl (cZ, 36, .inl (bA zx))), ((q 5), .inl (cI, 10, .inl (nA ey))), ((q 6), .inl (cI, 11, .inl (nA pw))), ((q 7), .inl (cZ, 59049, .inl (upd (bA y1x) c (nI (Bool.toNat ot))))), ((q 8), .inl (cZ, 59049, .inl (bA y2x)))] H := hP
            have hD : va_D A [(h0, wMo q R C tn dn ag md em), ((q 0), .inl (cI, 36, .inl (nA bx))), ((q 2), .inl (cZ, 36, .inl (bA zx))), ((q 5), .inl (cI, 10, .inl (nA ey))), ((q 6), .inl (cI, 11, .inl (nA pw))), ((q 7), .inl (cZ, 59049, .inl (upd (bA y1x) c (nI (Bool.toNat ot))))), ((q 8), .inl (cZ, 59049, .inl (bA y2x)))] := hD
            rw [bA_updB] at hP hD
            have hP : va_P D vwCl [(h0, wMo q R C tn dn ag md em), ((q 0), .inl (cI, 36, .inl (nA bx))), ((q 2), .inl (cZ, 36, .inl (bA zx))), ((q 5), .inl (cI, 10, .inl (nA ey))), ((q 6), .inl (cI, 11, .inl (nA pw))), ((q 7), .inl (cZ, 59049, .inl (bA (uB y1x c ot)))), ((q 8), .inl (cZ, 59049, .inl (bA y2x)))] H := hP
            have hD : va_D A [(h0, wMo q R C tn dn ag md em), ((q 0), .inl (cI, 36, .inl (nA bx))), ((q 2), .inl (cZ, 36, .inl (bA zx))), ((q 5), .inl (cI, 10, .inl (nA ey))), ((q 6), .inl (cI, 11, .inl (nA pw))), ((q 7), .inl (cZ, 59049, .inl (bA (uB y1x c ot)))), ((q 8), .inl (cZ, 59049, .inl (bA y2x)))] := hD
            refine lv_aload_n hx hb dX6_works_291 rfl (lv_at hl 0 rfl) ?_
            refine va_get (D := D) (ci := 6) (v := .ref (q 8)) (C := RX6) (T := TX6) (N := 17) hx hb hts kiX6_works_X6 hown hK hP 0 rfl rfl 15 (by decide) (hts (.fieldLink RX6 50 "TwoBanksModel" "byTwo" "[Z") (List.mem_of_getElem? (i := 4) rfl)) (fun _ h9 => h9) rfl dX6_works_292 ?_
            refine lv_iload hx hb dX6_works_295 (lv_at hl 4 rfl) ?_
            refine lv_iload_n hx hb dX6_works_297 rfl (lv_at hl 1 rfl) ?_
            refine lv_iconst (v := (nI 1)) hx hb dX6_works_298 (by decide) ?_
            refine kw_icmp_ne (tgt := 307) hx hb dX6_works_299 (by decide) (by omega) (by omega) (fun c_299_8 => ?_) (fun c_299_8 => absurd c_299_8 ho1)
            refine lv_iload hx hb dX6_works_307 (lv_at hl 5 rfl) ?_
            refine va_zast hx hb hK hP hD hS 6 2 rfl rfl (vp_in_nI (by omega) (by omega)) dX6_works_309 (fun H locs hP hD hS => ?_)
            rw [nI_clamp (by omega)] at hP hD
            rw [kz_nar (by first | decide | assumption | omega)] at hP hD
            have hP : va_P D vwCl [(h0, wMo q R C tn dn ag md em), ((q 0), .inl (cI, 36, .inl (nA bx))), ((q 2), .inl (cZ, 36, .inl (bA zx))), ((q 5), .inl (cI, 10, .inl (nA ey))), ((q 6), .inl (cI, 11, .inl (nA pw))), ((q 7), .inl (cZ, 59049, .inl (bA (uB y1x c ot)))), ((q 8), .inl (cZ, 59049, .inl (upd (bA y2x) c (nI (Bool.toNat ow)))))] H := hP
            have hD : va_D A [(h0, wMo q R C tn dn ag md em), ((q 0), .inl (cI, 36, .inl (nA bx))), ((q 2), .inl (cZ, 36, .inl (bA zx))), ((q 5), .inl (cI, 10, .inl (nA ey))), ((q 6), .inl (cI, 11, .inl (nA pw))), ((q 7), .inl (cZ, 59049, .inl (bA (uB y1x c ot)))), ((q 8), .inl (cZ, 59049, .inl (upd (bA y2x) c (nI (Bool.toNat ow)))))] := hD
            rw [bA_updB] at hP hD
            have hP : va_P D vwCl [(h0, wMo q R C tn dn ag md em), ((q 0), .inl (cI, 36, .inl (nA bx))), ((q 2), .inl (cZ, 36, .inl (bA zx))), ((q 5), .inl (cI, 10, .inl (nA ey))), ((q 6), .inl (cI, 11, .inl (nA pw))), ((q 7), .inl (cZ, 59049, .inl (bA (uB y1x c ot)))), ((q 8), .inl (cZ, 59049, .inl (bA (uB y2x c ow))))] H := hP
            have hD : va_D A [(h0, wMo q R C tn dn ag md em), ((q 0), .inl (cI, 36, .inl (nA bx))), ((q 2), .inl (cZ, 36, .inl (bA zx))), ((q 5), .inl (cI, 10, .inl (nA ey))), ((q 6), .inl (cI, 11, .inl (nA pw))), ((q 7), .inl (cZ, 59049, .inl (bA (uB y1x c ot)))), ((q 8), .inl (cZ, 59049, .inl (bA (uB y2x c ow))))] := hD
            refine lv_iinc (v := (kPr c)) (lv' := [(4, .int (kPr c)), (0, .ref h0), (1, .int (nI one)), (2, .int (nI x)), (3, .int (nI y)), (6, .int (nI (Bool.toNat ow))), (7, .int (nI (Bool.toNat ot))), (8, .int (nI k))]) hx hb dX6_works_310 hl (k := 4) rfl (k_dec _) (by decide) rfl (fun ls hl => ?_)
            refine lv_goto (tgt := 13) hx hb dX6_works_313 (by decide) ?_
            exact ih_13 (c, bx, zx, (uB y1x c ot), (uB y2x c ow)) _ _ _ (Nat.lt_succ_self _) ⟨hP, hD, hS, lv_sub hl [1, 2, 3, 4, 0] rfl, by omega, hx1, hx2, wy_p2 hy9 (fl_zs hfl9 hft) how9 hot9 qone ho1⟩
          · have ho1 : one = 1 := c_280_7
            refine lv_iload hx hb dX6_works_283 (lv_at hl 5 rfl) ?_
            refine lv_goto (tgt := 290) hx hb dX6_works_285 (by decide) ?_
            refine va_zast hx hb hK hP hD hS 5 2 rfl rfl (vp_in_nI (by omega) (by omega)) dX6_works_290 (fun H locs hP hD hS => ?_)
            rw [nI_clamp (by omega)] at hP hD
            rw [kz_nar (by first | decide | assumption | omega)] at hP hD
            have hP : va_P D vwCl [(h0, wMo q R C tn dn ag md em), ((q 0), .inl (cI, 36, .inl (nA bx))), ((q 2), .inl (cZ, 36, .inl (bA zx))), ((q 5), .inl (cI, 10, .inl (nA ey))), ((q 6), .inl (cI, 11, .inl (nA pw))), ((q 7), .inl (cZ, 59049, .inl (upd (bA y1x) c (nI (Bool.toNat ow))))), ((q 8), .inl (cZ, 59049, .inl (bA y2x)))] H := hP
            have hD : va_D A [(h0, wMo q R C tn dn ag md em), ((q 0), .inl (cI, 36, .inl (nA bx))), ((q 2), .inl (cZ, 36, .inl (bA zx))), ((q 5), .inl (cI, 10, .inl (nA ey))), ((q 6), .inl (cI, 11, .inl (nA pw))), ((q 7), .inl (cZ, 59049, .inl (upd (bA y1x) c (nI (Bool.toNat ow))))), ((q 8), .inl (cZ, 59049, .inl (bA y2x)))] := hD
            rw [bA_updB] at hP hD
            have hP : va_P D vwCl [(h0, wMo q R C tn dn ag md em), ((q 0), .inl (cI, 36, .inl (nA bx))), ((q 2), .inl (cZ, 36, .inl (bA zx))), ((q 5), .inl (cI, 10, .inl (nA ey))), ((q 6), .inl (cI, 11, .inl (nA pw))), ((q 7), .inl (cZ, 59049, .inl (bA (uB y1x c ow)))), ((q 8), .inl (cZ, 59049, .inl (bA y2x)))] H := hP
            have hD : va_D A [(h0, wMo q R C tn dn ag md em), ((q 0), .inl (cI, 36, .inl (nA bx))), ((q 2), .inl (cZ, 36, .inl (bA zx))), ((q 5), .inl (cI, 10, .inl (nA ey))), ((q 6), .inl (cI, 11, .inl (nA pw))), ((q 7), .inl (cZ, 59049, .inl (bA (uB y1x c ow)))), ((q 8), .inl (cZ, 59049, .inl (bA y2x)))] := hD
            refine lv_aload_n hx hb dX6_works_291 rfl (lv_at hl 0 rfl) ?_
            refine va_get (D := D) (ci := 6) (v := .ref (q 8)) (C := RX6) (T := TX6) (N := 17) hx hb hts kiX6_works_X6 hown hK hP 0 rfl rfl 15 (by decide) (hts (.fieldLink RX6 50 "TwoBanksModel" "byTwo" "[Z") (List.mem_of_getElem? (i := 4) rfl)) (fun _ h9 => h9) rfl dX6_works_292 ?_
            refine lv_iload hx hb dX6_works_295 (lv_at hl 4 rfl) ?_
            refine lv_iload_n hx hb dX6_works_297 rfl (lv_at hl 1 rfl) ?_
            refine lv_iconst (v := (nI 1)) hx hb dX6_works_298 (by decide) ?_
            refine kw_icmp_ne (tgt := 307) hx hb dX6_works_299 (by decide) (by omega) (by omega) (fun c_299_9 => absurd ho1 c_299_9) (fun c_299_9 => ?_)
            refine lv_iload hx hb dX6_works_302 (lv_at hl 6 rfl) ?_
            refine lv_goto (tgt := 309) hx hb dX6_works_304 (by decide) ?_
            refine va_zast hx hb hK hP hD hS 6 2 rfl rfl (vp_in_nI (by omega) (by omega)) dX6_works_309 (fun H locs hP hD hS => ?_)
            rw [nI_clamp (by omega)] at hP hD
            rw [kz_nar (by first | decide | assumption | omega)] at hP hD
            have hP : va_P D vwCl [(h0, wMo q R C tn dn ag md em), ((q 0), .inl (cI, 36, .inl (nA bx))), ((q 2), .inl (cZ, 36, .inl (bA zx))), ((q 5), .inl (cI, 10, .inl (nA ey))), ((q 6), .inl (cI, 11, .inl (nA pw))), ((q 7), .inl (cZ, 59049, .inl (bA (uB y1x c ow)))), ((q 8), .inl (cZ, 59049, .inl (upd (bA y2x) c (nI (Bool.toNat ot)))))] H := hP
            have hD : va_D A [(h0, wMo q R C tn dn ag md em), ((q 0), .inl (cI, 36, .inl (nA bx))), ((q 2), .inl (cZ, 36, .inl (bA zx))), ((q 5), .inl (cI, 10, .inl (nA ey))), ((q 6), .inl (cI, 11, .inl (nA pw))), ((q 7), .inl (cZ, 59049, .inl (bA (uB y1x c ow)))), ((q 8), .inl (cZ, 59049, .inl (upd (bA y2x) c (nI (Bool.toNat ot)))))] := hD
            rw [bA_updB] at hP hD
            have hP : va_P D vwCl [(h0, wMo q R C tn dn ag md em), ((q 0), .inl (cI, 36, .inl (nA bx))), ((q 2), .inl (cZ, 36, .inl (bA zx))), ((q 5), .inl (cI, 10, .inl (nA ey))), ((q 6), .inl (cI, 11, .inl (nA pw))), ((q 7), .inl (cZ, 59049, .inl (bA (uB y1x c ow)))), ((q 8), .inl (cZ, 59049, .inl (bA (uB y2x c ot))))] H := hP
            have hD : va_D A [(h0, wMo q R C tn dn ag md em), ((q 0), .inl (cI, 36, .inl (nA bx))), ((q 2), .inl (cZ, 36, .inl (bA zx))), ((q 5), .inl (cI, 10, .inl (nA ey))), ((q 6), .inl (cI, 11, .inl (nA pw))), ((q 7), .inl (cZ, 59049, .inl (bA (uB y1x c ow)))), ((q 8), .inl (cZ, 59049, .inl (bA (uB y2x c ot))))] := hD
            refine lv_iinc (v := (kPr c)) (lv' := [(4, .int (kPr c)), (0, .ref h0), (1, .int (nI one)), (2, .int (nI x)), (3, .int (nI y)), (6, .int (nI (Bool.toNat ow))), (7, .int (nI (Bool.toNat ot))), (8, .int (nI k))]) hx hb dX6_works_310 hl (k := 4) rfl (k_dec _) (by decide) rfl (fun ls hl => ?_)
            refine lv_goto (tgt := 13) hx hb dX6_works_313 (by decide) ?_
            exact ih_13 (c, bx, zx, (uB y1x c ow), (uB y2x c ot)) _ _ _ (Nat.lt_succ_self _) ⟨hP, hD, hS, lv_sub hl [1, 2, 3, 4, 0] rfl, by omega, hx1, hx2, wy_p1 hy9 (fl_zs hfl9 hft) how9 hot9 ho1⟩
        · have hkl : k < em := c_135_6
          have hpk := hpw k (by omega)
          have hp0 : 0 < 3 ^ k := Nat.pow_pos (by decide)
          have hpb : 3 ^ k ≤ 3 ^ 10 := Nat.pow_le_pow_right (by decide) (by omega)
          have hdv : c / 3 ^ k ≤ c := Nat.div_le_self _ _
          refine lv_iload hx hb dX6_works_138 (lv_at hl 4 rfl) ?_
          refine lv_aload_n hx hb dX6_works_140 rfl (lv_at hl 0 rfl) ?_
          refine va_get (D := D) (ci := 6) (v := .ref (q 6)) (C := RX6) (T := TX6) (N := 17) hx hb hts kiX6_works_X6 hown hK hP 0 rfl rfl 13 (by decide) (hts (.fieldLink RX6 43 "TwoBanksModel" "power" "[I") (List.mem_of_getElem? (i := 1) rfl)) (fun _ h9 => h9) rfl dX6_works_141 ?_
          refine lv_iload hx hb dX6_works_144 (lv_at hl 7 rfl) ?_
          refine va_iald hx hb hK hP 4 0 rfl rfl (vp_in_nI (by omega) (by omega)) dX6_works_146 ?_
          refine k_toi (y := nI (pw k)) (congrArg (nA pw) (nI_clamp (by omega))) ?_
          refine k_toi (y := nI (3 ^ k)) (congrArg nI hpk) ?_
          refine lv_idiv hx hb dX6_works_147 (nI_ne0 (by omega) (by omega)) ?_
          refine k_toi (y := nI (c / (3 ^ k))) (pk_div (by omega) (by omega) (by omega)) ?_
          refine lv_iconst (v := (nI 3)) hx hb dX6_works_148 (by decide) ?_
          refine lv_irem hx hb dX6_works_149 (nI_ne0 (by omega) (by omega)) ?_
          refine k_toi (y := nI ((c / (3 ^ k)) % 3)) (pk_rem (by omega) (by omega) (by omega)) ?_
          refine k_toi (y := nI (dg c k)) (rfl) ?_
          have hdg := dg_lt c k
          refine kw_if_eq (tgt := 156) hx hb dX6_works_150 (by decide) (by omega) (fun c_150_10 => ?_) (fun c_150_10 => ?_)
          · have hd9 : dg c k = 0 := c_150_10
            refine lv_iload hx hb dX6_works_156 (lv_at hl 4 rfl) ?_
            refine lv_iload_n hx hb dX6_works_158 rfl (lv_at hl 1 rfl) ?_
            refine lv_aload_n hx hb dX6_works_159 rfl (lv_at hl 0 rfl) ?_
            refine va_get (D := D) (ci := 6) (v := .ref (q 6)) (C := RX6) (T := TX6) (N := 17) hx hb hts kiX6_works_X6 hown hK hP 0 rfl rfl 13 (by decide) (hts (.fieldLink RX6 43 "TwoBanksModel" "power" "[I") (List.mem_of_getElem? (i := 1) rfl)) (fun _ h9 => h9) rfl dX6_works_160 ?_
            refine lv_iload hx hb dX6_works_163 (lv_at hl 7 rfl) ?_
            refine va_iald hx hb hK hP 4 0 rfl rfl (vp_in_nI (by omega) (by omega)) dX6_works_165 ?_
            refine k_toi (y := nI (pw k)) (congrArg (nA pw) (nI_clamp (by omega))) ?_
            refine k_toi (y := nI (3 ^ k)) (congrArg nI hpk) ?_
            refine lv_imul hx hb dX6_works_166 ?_
            refine k_toi (y := nI (one * (3 ^ k))) (pk_mul _ _) ?_
            refine lv_iadd hx hb dX6_works_167 ?_
            refine k_toi (y := nI (c + (one * (3 ^ k)))) (nI_add _ _) ?_
            refine lv_istore (lv' := [(9, .int (nI (c + (one * (3 ^ k))))), (0, .ref h0), (1, .int (nI one)), (2, .int (nI x)), (3, .int (nI y)), (4, .int (nI c)), (6, .int (nI (Bool.toNat ow))), (7, .int (nI (Bool.toNat ot))), (8, .int (nI k))]) hx hb dX6_works_168 hl (by decide) rfl (fun ls hl => ?_)
            refine lv_iload hx hb dX6_works_170 (lv_at hl 5 rfl) ?_
            refine lv_iconst (v := (nI 3)) hx hb dX6_works_172 (by decide) ?_
            refine lv_iload_n hx hb dX6_works_173 rfl (lv_at hl 2 rfl) ?_
            refine lv_isub hx hb dX6_works_174 ?_
            refine k_toi (y := nI (3 - one)) (pk_sub (by omega)) ?_
            refine lv_aload_n hx hb dX6_works_175 rfl (lv_at hl 1 rfl) ?_
            refine va_get (D := D) (ci := 6) (v := .ref (q 6)) (C := RX6) (T := TX6) (N := 17) hx hb hts kiX6_works_X6 hown hK hP 0 rfl rfl 13 (by decide) (hts (.fieldLink RX6 43 "TwoBanksModel" "power" "[I") (List.mem_of_getElem? (i := 1) rfl)) (fun _ h9 => h9) rfl dX6_works_176 ?_
            refine lv_iload hx hb dX6_works_179 (lv_at hl 8 rfl) ?_
            refine va_iald hx hb hK hP 4 0 rfl rfl (vp_in_nI (by omega) (by omega)) dX6_works_181 ?_
            refine k_toi (y := nI (pw k)) (congrArg (nA pw) (nI_clamp (by omega))) ?_
            refine k_toi (y := nI (3 ^ k)) (congrArg nI hpk) ?_
            refine lv_imul hx hb dX6_works_182 ?_
            refine k_toi (y := nI ((3 - one) * (3 ^ k))) (pk_mul _ _) ?_
            refine lv_iadd hx hb dX6_works_183 ?_
            refine k_toi (y := nI (c + ((3 - one) * (3 ^ k)))) (nI_add _ _) ?_
            refine lv_istore (lv' := [(10, .int (nI (c + ((3 - one) * (3 ^ k))))), (9, .int (nI (c + (one * (3 ^ k))))), (0, .ref h0), (1, .int (nI one)), (2, .int (nI x)), (3, .int (nI y)), (4, .int (nI c)), (6, .int (nI (Bool.toNat ow))), (7, .int (nI (Bool.toNat ot))), (8, .int (nI k))]) hx hb dX6_works_184 hl (by decide) rfl (fun ls hl => ?_)
            have hmi := (wy_at hy9 hcl hd9 hkl qone).1
            have hoi := (wy_at (a := 3 - one) hy9 hcl hd9 hkl (by omega)).1
            have hb_y1x_m : (y1x (c + one * 3 ^ k)).toNat ≤ 1 := Bool.toNat_le _
            have hb_y1x_o : (y1x (c + (3 - one) * 3 ^ k)).toNat ≤ 1 := Bool.toNat_le _
            have hb_y2x_m : (y2x (c + one * 3 ^ k)).toNat ≤ 1 := Bool.toNat_le _
            have hb_y2x_o : (y2x (c + (3 - one) * 3 ^ k)).toNat ≤ 1 := Bool.toNat_le _
            refine kw_cut (σ := Nat) (fun (v6 : Nat) H locs ls => va_P D vwCl [(h0, wMo q R C tn dn ag md em), ((q 0), .inl (cI, 36, .inl (nA bx))), ((q 2), .inl (cZ, 36, .inl (bA zx))), ((q 5), .inl (cI, 10, .inl (nA ey))), ((q 6), .inl (cI, 11, .inl (nA pw))), ((q 7), .inl (cZ, 59049, .inl (bA y1x))), ((q 8), .inl (cZ, 59049, .inl (bA y2x)))] H ∧ va_D A [(h0, wMo q R C tn dn ag md em), ((q 0), .inl (cI, 36, .inl (nA bx))), ((q 2), .inl (cZ, 36, .inl (bA zx))), ((q 5), .inl (cI, 10, .inl (nA ey))), ((q 6), .inl (cI, 11, .inl (nA pw))), ((q 7), .inl (cZ, 59049, .inl (bA y1x))), ((q 8), .inl (cZ, 59049, .inl (bA y2x)))] ∧ va_S A s.heap H locs ∧ lv_has ls 11 [(0, .ref h0), (1, .int (nI one)), (2, .int (nI x)), (3, .int (nI y)), (4, .int (nI c)), (6, .int (nI (Bool.toNat ow))), (7, .int (nI (Bool.toNat ot))), (8, .int (nI k)), (9, .int (nI (c + (one * (3 ^ k))))), (10, .int (nI (c + ((3 - one) * (3 ^ k)))))] ∧ (v6 = Bool.toNat (ow || wOwn (jl R C b ey em one x y) one em c k))) 224 (fun (v6 : Nat) => [.int (nI v6)]) (fun J_224 => ?_) ?_
            · refine lv_iload hx hb dX6_works_186 (lv_at hl 7 rfl) ?_
              refine kw_if_ne (tgt := 219) hx hb dX6_works_188 (by decide) (by omega) (fun c_188_11 => ?_) (fun c_188_11 => ?_)
              · have how8 : ow = true := bz_t c_188_11
                refine lv_iconst (v := (nI 1)) hx hb dX6_works_219 (by decide) ?_
                refine lv_goto (tgt := 224) hx hb dX6_works_220 (by decide) ?_
                exact J_224 1 _ _ _ ⟨hP, hD, hS, lv_sub hl [2, 3, 4, 5, 6, 7, 8, 9, 1, 0] rfl, by rw [how8]; rfl⟩
              · have how8 : ow = false := bz_f c_188_11
                refine lv_iload_n hx hb dX6_works_191 rfl (lv_at hl 3 rfl) ?_
                refine lv_iconst (v := (nI 1)) hx hb dX6_works_192 (by decide) ?_
                refine kw_icmp_ne (tgt := 209) hx hb dX6_works_193 (by decide) (by omega) (by omega) (fun c_193_12 => ?_) (fun c_193_12 => ?_)
                · have hX9 := wm_2 hy9 hcl hd9 hkl qone c_193_12
                  refine lv_aload_n hx hb dX6_works_209 rfl (lv_at hl 2 rfl) ?_
                  refine va_get (D := D) (ci := 6) (v := .ref (q 7)) (C := RX6) (T := TX6) (N := 17) hx hb hts kiX6_works_X6 hown hK hP 0 rfl rfl 14 (by decide) (hts (.fieldLink RX6 47 "TwoBanksModel" "byOne" "[Z") (List.mem_of_getElem? (i := 3) rfl)) (fun _ h9 => h9) rfl dX6_works_210 ?_
                  refine lv_iload hx hb dX6_works_213 (lv_at hl 1 rfl) ?_
                  refine va_zald hx hb hK hP 5 2 rfl rfl (vp_in_nI (by omega) (by omega)) dX6_works_215 ?_
                  refine k_toi (y := nI ((y1x (c + (one * (3 ^ k)))).toNat)) (congrArg (bA y1x) (nI_clamp (by omega))) ?_
                  refine kw_if_eq (tgt := 223) hx hb dX6_works_216 (by decide) (by omega) (fun c_216_13 => ?_) (fun c_216_13 => ?_)
                  · have hval := bz_f c_216_13
                    refine lv_iconst (v := (nI 0)) hx hb dX6_works_223 (by decide) ?_
                    exact J_224 0 _ _ _ ⟨hP, hD, hS, lv_sub hl [2, 3, 4, 5, 6, 7, 8, 9, 1, 0] rfl, by rw [how8, ← hX9, hval]; rfl⟩
                  · have hval := bz_t c_216_13
                    refine lv_iconst (v := (nI 1)) hx hb dX6_works_219 (by decide) ?_
                    refine lv_goto (tgt := 224) hx hb dX6_works_220 (by decide) ?_
                    exact J_224 1 _ _ _ ⟨hP, hD, hS, lv_sub hl [2, 3, 4, 5, 6, 7, 8, 9, 1, 0] rfl, by rw [how8, ← hX9, hval]; rfl⟩
                · have hX9 := wm_1 hy9 hcl hd9 hkl c_193_12
                  refine lv_aload_n hx hb dX6_works_196 rfl (lv_at hl 2 rfl) ?_
                  refine va_get (D := D) (ci := 6) (v := .ref (q 8)) (C := RX6) (T := TX6) (N := 17) hx hb hts kiX6_works_X6 hown hK hP 0 rfl rfl 15 (by decide) (hts (.fieldLink RX6 50 "TwoBanksModel" "byTwo" "[Z") (List.mem_of_getElem? (i := 4) rfl)) (fun _ h9 => h9) rfl dX6_works_197 ?_
                  refine lv_iload hx hb dX6_works_200 (lv_at hl 1 rfl) ?_
                  refine va_zald hx hb hK hP 6 2 rfl rfl (vp_in_nI (by omega) (by omega)) dX6_works_202 ?_
                  refine k_toi (y := nI ((y2x (c + (one * (3 ^ k)))).toNat)) (congrArg (bA y2x) (nI_clamp (by omega))) ?_
                  refine kw_if_eq (tgt := 223) hx hb dX6_works_203 (by decide) (by omega) (fun c_203_14 => ?_) (fun c_203_14 => ?_)
                  · have hval := bz_f c_203_14
                    refine lv_iconst (v := (nI 0)) hx hb dX6_works_223 (by decide) ?_
                    exact J_224 0 _ _ _ ⟨hP, hD, hS, lv_sub hl [2, 3, 4, 5, 6, 7, 8, 9, 1, 0] rfl, by rw [how8, ← hX9, hval]; rfl⟩
                  · have hval := bz_t c_203_14
                    refine lv_goto (tgt := 219) hx hb dX6_works_206 (by decide) ?_
                    refine lv_iconst (v := (nI 1)) hx hb dX6_works_219 (by decide) ?_
                    refine lv_goto (tgt := 224) hx hb dX6_works_220 (by decide) ?_
                    exact J_224 1 _ _ _ ⟨hP, hD, hS, lv_sub hl [2, 3, 4, 5, 6, 7, 8, 9, 1, 0] rfl, by rw [how8, ← hX9, hval]; rfl⟩
            · clear hP hD hS hl
              rintro v6 H locs ls ⟨hP, hD, hS, hl, hv6⟩
              have hP : va_P D vwCl [(h0, wMo q R C tn dn ag md em), ((q 0), .inl (cI, 36, .inl (nA bx))), ((q 2), .inl (cZ, 36, .inl (bA zx))), ((q 5), .inl (cI, 10, .inl (nA ey))), ((q 6), .inl (cI, 11, .inl (nA pw))), ((q 7), .inl (cZ, 59049, .inl (bA y1x))), ((q 8), .inl (cZ, 59049, .inl (bA y2x)))] H := hP
              have hD : va_D A [(h0, wMo q R C tn dn ag md em), ((q 0), .inl (cI, 36, .inl (nA bx))), ((q 2), .inl (cZ, 36, .inl (bA zx))), ((q 5), .inl (cI, 10, .inl (nA ey))), ((q 6), .inl (cI, 11, .inl (nA pw))), ((q 7), .inl (cZ, 59049, .inl (bA y1x))), ((q 8), .inl (cZ, 59049, .inl (bA y2x)))] := hD
              have hl : lv_has ls 11 [(0, .ref h0), (1, .int (nI one)), (2, .int (nI x)), (3, .int (nI y)), (4, .int (nI c)), (6, .int (nI (Bool.toNat ow))), (7, .int (nI (Bool.toNat ot))), (8, .int (nI k)), (9, .int (nI (c + (one * (3 ^ k))))), (10, .int (nI (c + ((3 - one) * (3 ^ k)))))] := hl
              have hv6 : v6 = Bool.toNat (ow || wOwn (jl R C b ey em one x y) one em c k) := hv6
              subst hv6
              refine lv_istore (lv' := [(6, .int (nI (Bool.toNat (ow || wOwn (jl R C b ey em one x y) one em c k)))), (0, .ref h0), (1, .int (nI one)), (2, .int (nI x)), (3, .int (nI y)), (4, .int (nI c)), (7, .int (nI (Bool.toNat ot))), (8, .int (nI k)), (9, .int (nI (c + (one * (3 ^ k))))), (10, .int (nI (c + ((3 - one) * (3 ^ k)))))]) hx hb dX6_works_224 hl (by decide) rfl (fun ls hl => ?_)
              refine kw_cut (σ := Nat) (fun (v7 : Nat) H locs ls => va_P D vwCl [(h0, wMo q R C tn dn ag md em), ((q 0), .inl (cI, 36, .inl (nA bx))), ((q 2), .inl (cZ, 36, .inl (bA zx))), ((q 5), .inl (cI, 10, .inl (nA ey))), ((q 6), .inl (cI, 11, .inl (nA pw))), ((q 7), .inl (cZ, 59049, .inl (bA y1x))), ((q 8), .inl (cZ, 59049, .inl (bA y2x)))] H ∧ va_D A [(h0, wMo q R C tn dn ag md em), ((q 0), .inl (cI, 36, .inl (nA bx))), ((q 2), .inl (cZ, 36, .inl (bA zx))), ((q 5), .inl (cI, 10, .inl (nA ey))), ((q 6), .inl (cI, 11, .inl (nA pw))), ((q 7), .inl (cZ, 59049, .inl (bA y1x))), ((q 8), .inl (cZ, 59049, .inl (bA y2x)))] ∧ va_S A s.heap H locs ∧ lv_has ls 11 [(0, .ref h0), (1, .int (nI one)), (2, .int (nI x)), (3, .int (nI y)), (4, .int (nI c)), (6, .int (nI (Bool.toNat (ow || wOwn (jl R C b ey em one x y) one em c k)))), (7, .int (nI (Bool.toNat ot))), (8, .int (nI k)), (9, .int (nI (c + (one * (3 ^ k))))), (10, .int (nI (c + ((3 - one) * (3 ^ k)))))] ∧ (v7 = Bool.toNat (ot && wOth (jl R C b ey em one x y) one em c k))) 264 (fun (v7 : Nat) => [.int (nI v7)]) (fun J_264 => ?_) ?_
              · refine lv_iload hx hb dX6_works_226 (lv_at hl 6 rfl) ?_
                refine kw_if_eq (tgt := 263) hx hb dX6_works_228 (by decide) (by omega) (fun c_228_15 => ?_) (fun c_228_15 => ?_)
                · have hot8 : ot = false := bz_f c_228_15
                  refine lv_iconst (v := (nI 0)) hx hb dX6_works_263 (by decide) ?_
                  exact J_264 0 _ _ _ ⟨hP, hD, hS, lv_sub hl [1, 2, 3, 4, 5, 0, 6, 7, 8, 9] rfl, by rw [hot8]; rfl⟩
                · have hot8 : ot = true := bz_t c_228_15
                  refine lv_iload_n hx hb dX6_works_231 rfl (lv_at hl 2 rfl) ?_
                  refine lv_iconst (v := (nI 1)) hx hb dX6_works_232 (by decide) ?_
                  refine kw_icmp_ne (tgt := 249) hx hb dX6_works_233 (by decide) (by omega) (by omega) (fun c_233_16 => ?_) (fun c_233_16 => ?_)
                  · have hX9 := wo_2 hy9 hcl hd9 hkl qone c_233_16
                    refine lv_aload_n hx hb dX6_works_249 rfl (lv_at hl 1 rfl) ?_
                    refine va_get (D := D) (ci := 6) (v := .ref (q 8)) (C := RX6) (T := TX6) (N := 17) hx hb hts kiX6_works_X6 hown hK hP 0 rfl rfl 15 (by decide) (hts (.fieldLink RX6 50 "TwoBanksModel" "byTwo" "[Z") (List.mem_of_getElem? (i := 4) rfl)) (fun _ h9 => h9) rfl dX6_works_250 ?_
                    refine lv_iload hx hb dX6_works_253 (lv_at hl 9 rfl) ?_
                    refine va_zald hx hb hK hP 6 2 rfl rfl (vp_in_nI (by omega) (by omega)) dX6_works_255 ?_
                    refine k_toi (y := nI ((y2x (c + ((3 - one) * (3 ^ k)))).toNat)) (congrArg (bA y2x) (nI_clamp (by omega))) ?_
                    refine kw_if_eq (tgt := 263) hx hb dX6_works_256 (by decide) (by omega) (fun c_256_17 => ?_) (fun c_256_17 => ?_)
                    · have hval := bz_f c_256_17
                      refine lv_iconst (v := (nI 0)) hx hb dX6_works_263 (by decide) ?_
                      exact J_264 0 _ _ _ ⟨hP, hD, hS, lv_sub hl [1, 2, 3, 4, 5, 0, 6, 7, 8, 9] rfl, by rw [hot8, ← hX9, hval]; rfl⟩
                    · have hval := bz_t c_256_17
                      refine lv_iconst (v := (nI 1)) hx hb dX6_works_259 (by decide) ?_
                      refine lv_goto (tgt := 264) hx hb dX6_works_260 (by decide) ?_
                      exact J_264 1 _ _ _ ⟨hP, hD, hS, lv_sub hl [1, 2, 3, 4, 5, 0, 6, 7, 8, 9] rfl, by rw [hot8, ← hX9, hval]; rfl⟩
                  · have hX9 := wo_1 hy9 hcl hd9 hkl c_233_16
                    refine lv_aload_n hx hb dX6_works_236 rfl (lv_at hl 1 rfl) ?_
                    refine va_get (D := D) (ci := 6) (v := .ref (q 7)) (C := RX6) (T := TX6) (N := 17) hx hb hts kiX6_works_X6 hown hK hP 0 rfl rfl 14 (by decide) (hts (.fieldLink RX6 47 "TwoBanksModel" "byOne" "[Z") (List.mem_of_getElem? (i := 3) rfl)) (fun _ h9 => h9) rfl dX6_works_237 ?_
                    refine lv_iload hx hb dX6_works_240 (lv_at hl 9 rfl) ?_
                    refine va_zald hx hb hK hP 5 2 rfl rfl (vp_in_nI (by omega) (by omega)) dX6_works_242 ?_
                    refine k_toi (y := nI ((y1x (c + ((3 - one) * (3 ^ k)))).toNat)) (congrArg (bA y1x) (nI_clamp (by omega))) ?_
                    refine kw_if_eq (tgt := 263) hx hb dX6_works_243 (by decide) (by omega) (fun c_243_18 => ?_) (fun c_243_18 => ?_)
                    · have hval := bz_f c_243_18
                      refine lv_iconst (v := (nI 0)) hx hb dX6_works_263 (by decide) ?_
                      exact J_264 0 _ _ _ ⟨hP, hD, hS, lv_sub hl [1, 2, 3, 4, 5, 0, 6, 7, 8, 9] rfl, by rw [hot8, ← hX9, hval]; rfl⟩
                    · have hval := bz_t c_243_18
                      refine lv_goto (tgt := 259) hx hb dX6_works_246 (by decide) ?_
                      refine lv_iconst (v := (nI 1)) hx hb dX6_works_259 (by decide) ?_
                      refine lv_goto (tgt := 264) hx hb dX6_works_260 (by decide) ?_
                      exact J_264 1 _ _ _ ⟨hP, hD, hS, lv_sub hl [1, 2, 3, 4, 5, 0, 6, 7, 8, 9] rfl, by rw [hot8, ← hX9, hval]; rfl⟩
              · clear hP hD hS hl
                rintro v7 H locs ls ⟨hP, hD, hS, hl, hv7⟩
                have hP : va_P D vwCl [(h0, wMo q R C tn dn ag md em), ((q 0), .inl (cI, 36, .inl (nA bx))), ((q 2), .inl (cZ, 36, .inl (bA zx))), ((q 5), .inl (cI, 10, .inl (nA ey))), ((q 6), .inl (cI, 11, .inl (nA pw))), ((q 7), .inl (cZ, 59049, .inl (bA y1x))), ((q 8), .inl (cZ, 59049, .inl (bA y2x)))] H := hP
                have hD : va_D A [(h0, wMo q R C tn dn ag md em), ((q 0), .inl (cI, 36, .inl (nA bx))), ((q 2), .inl (cZ, 36, .inl (bA zx))), ((q 5), .inl (cI, 10, .inl (nA ey))), ((q 6), .inl (cI, 11, .inl (nA pw))), ((q 7), .inl (cZ, 59049, .inl (bA y1x))), ((q 8), .inl (cZ, 59049, .inl (bA y2x)))] := hD
                have hl : lv_has ls 11 [(0, .ref h0), (1, .int (nI one)), (2, .int (nI x)), (3, .int (nI y)), (4, .int (nI c)), (6, .int (nI (Bool.toNat (ow || wOwn (jl R C b ey em one x y) one em c k)))), (7, .int (nI (Bool.toNat ot))), (8, .int (nI k)), (9, .int (nI (c + (one * (3 ^ k))))), (10, .int (nI (c + ((3 - one) * (3 ^ k)))))] := hl
                have hv7 : v7 = Bool.toNat (ot && wOth (jl R C b ey em one x y) one em c k) := hv7
                subst hv7
                refine lv_istore (lv' := [(7, .int (nI (Bool.toNat (ot && wOth (jl R C b ey em one x y) one em c k)))), (0, .ref h0), (1, .int (nI one)), (2, .int (nI x)), (3, .int (nI y)), (4, .int (nI c)), (6, .int (nI (Bool.toNat (ow || wOwn (jl R C b ey em one x y) one em c k)))), (8, .int (nI k)), (9, .int (nI (c + (one * (3 ^ k))))), (10, .int (nI (c + ((3 - one) * (3 ^ k)))))]) hx hb dX6_works_264 hl (by decide) rfl (fun ls hl => ?_)
                refine lv_iinc (v := (nI (k + 1))) (lv' := [(8, .int (nI (k + 1))), (7, .int (nI (Bool.toNat (ot && wOth (jl R C b ey em one x y) one em c k)))), (0, .ref h0), (1, .int (nI one)), (2, .int (nI x)), (3, .int (nI y)), (4, .int (nI c)), (6, .int (nI (Bool.toNat (ow || wOwn (jl R C b ey em one x y) one em c k)))), (9, .int (nI (c + (one * (3 ^ k))))), (10, .int (nI (c + ((3 - one) * (3 ^ k)))))]) hx hb dX6_works_266 hl (k := 7) rfl (k_inc _ 1) (by decide) rfl (fun ls hl => ?_)
                refine lv_goto (tgt := 129) hx hb dX6_works_269 (by decide) ?_
                exact ih_129 ((k + 1), (ow || wOwn (jl R C b ey em one x y) one em c k), (ot && wOth (jl R C b ey em one x y) one em c k)) _ _ _ (by show em - (k + 1) < em - k; omega) ⟨hP, hD, hS, lv_sub hl [2, 3, 4, 5, 6, 7, 1, 0] rfl, by omega, an_s how9 (wOp_0 hd9), al_s hot9 (wTp_0 hd9)⟩
          · have hd9 : ¬ dg c k = 0 := by omega
            refine lv_goto (tgt := 266) hx hb dX6_works_153 (by decide) ?_
            refine lv_iinc (v := (nI (k + 1))) (lv' := [(8, .int (nI (k + 1))), (0, .ref h0), (1, .int (nI one)), (2, .int (nI x)), (3, .int (nI y)), (4, .int (nI c)), (6, .int (nI (Bool.toNat ow))), (7, .int (nI (Bool.toNat ot)))]) hx hb dX6_works_266 hl (k := 7) rfl (k_inc _ 1) (by decide) rfl (fun ls hl => ?_)
            refine lv_goto (tgt := 129) hx hb dX6_works_269 (by decide) ?_
            exact ih_129 ((k + 1), ow, ot) _ _ _ (by show em - (k + 1) < em - k; omega) ⟨hP, hD, hS, lv_sub hl [1, 2, 3, 4, 5, 6, 7, 0] rfl, by omega, an_n how9 (wOp_n hd9), al_n hot9 (wTp_n hd9)⟩
      · have hft : fl = true := bz_t c_68_5
        refine lv_aload_n hx hb dX6_works_71 rfl (lv_at hl 0 rfl) ?_
        refine lv_iload hx hb dX6_works_72 (lv_at hl 4 rfl) ?_
        refine k_callv (wr := [((q 2), .inl (cZ, 36, .inl (bA zx))), ((q 7), .inl (cZ, 59049, .inl (bA y1x))), ((q 8), .inl (cZ, 59049, .inl (bA y2x)))]) (w2 := (fun _ : Unit => [(h0, wMo q R C tn dn ag md em), ((q 0), .inl (cI, 36, .inl (nA (mFill bx ey c em)))), ((q 2), .inl (cZ, 36, .inl (bA zx))), ((q 5), .inl (cI, 10, .inl (nA ey))), ((q 6), .inl (cI, 11, .inl (nA pw))), ((q 7), .inl (cZ, 59049, .inl (bA y1x))), ((q 8), .inl (cZ, 59049, .inl (bA y2x)))])) (va_runV (As := [.int (nI c)]) (rest := []) ⟨hx, hb, hml, hown, hts⟩ (c_R_fills l D cI cJ cZ h0 q R C tn dn ag md em bx ey pw c hR1 hR2 hC1 hC2 hRC hey hpw qem (by omega)  H.size) (cwV 1 hts gX6_works_X6_fills rfl rfl rfl (by decide +kernel) ⟨Nat.le_of_ble_eq_true rfl, Nat.le_of_ble_eq_true rfl⟩) (kPV (ci := 6) (q0 := 0) (wc := [(h0, wMo q R C tn dn ag md em), ((q 0), .inl (cI, 36, .inl (nA bx))), ((q 5), .inl (cI, 10, .inl (nA ey))), ((q 6), .inl (cI, 11, .inl (nA pw)))]) hK2 hP hD [0, 1, 3, 4] rfl (by decide) rfl rfl) rfl rfl hl.1 rfl (lv_room (Nat.le_of_ble_eq_true rfl)) dX6_works_74 ⟨Nat.le_of_ble_eq_true rfl, Nat.le_of_ble_eq_true rfl⟩) hP hD hS hA [0, 1, 3, 4] [2, 5, 6] [3, 4, 0, 5, 6, 1, 2] rfl rfl (by decide) (by decide) (fun _ => rfl) (by decide) (fun u_19 H locs hw_19 hP hD hS => ?_)
        have hP : va_P D vwCl [(h0, wMo q R C tn dn ag md em), ((q 0), .inl (cI, 36, .inl (nA (mFill bx ey c em)))), ((q 2), .inl (cZ, 36, .inl (bA zx))), ((q 5), .inl (cI, 10, .inl (nA ey))), ((q 6), .inl (cI, 11, .inl (nA pw))), ((q 7), .inl (cZ, 59049, .inl (bA y1x))), ((q 8), .inl (cZ, 59049, .inl (bA y2x)))] H := hP
        have hD : va_D A [(h0, wMo q R C tn dn ag md em), ((q 0), .inl (cI, 36, .inl (nA (mFill bx ey c em)))), ((q 2), .inl (cZ, 36, .inl (bA zx))), ((q 5), .inl (cI, 10, .inl (nA ey))), ((q 6), .inl (cI, 11, .inl (nA pw))), ((q 7), .inl (cZ, 59049, .inl (bA y1x))), ((q 8), .inl (cZ, 59049, .inl (bA y2x)))] := hD
        refine lv_iload_n hx hb dX6_works_77 rfl (lv_at hl 2 rfl) ?_
        refine lv_iconst (v := (-1)) hx hb dX6_works_78 (by decide) ?_
        refine lv_icmp_ne (tgt := 90) hx hb dX6_works_79 (by decide) (fun c_79_20 => ?_) (fun c_79_20 => absurd c_79_20 (k_ne_m (by omega) (by decide)))
        refine lv_aload_n hx hb dX6_works_90 rfl (lv_at hl 0 rfl) ?_
        refine lv_iload_n hx hb dX6_works_91 rfl (lv_at hl 1 rfl) ?_
        refine lv_iload_n hx hb dX6_works_92 rfl (lv_at hl 2 rfl) ?_
        refine lv_iload_n hx hb dX6_works_93 rfl (lv_at hl 3 rfl) ?_
        refine k_calli (wr := [((q 5), .inl (cI, 10, .inl (nA ey))), ((q 6), .inl (cI, 11, .inl (nA pw))), ((q 7), .inl (cZ, 59049, .inl (bA y1x))), ((q 8), .inl (cZ, 59049, .inl (bA y2x)))]) (w2 := (fun za : Nat → Bool => [(h0, wMo q R C tn dn ag md em), ((q 0), .inl (cI, 36, .inl (nA (mFill bx ey c em)))), ((q 2), .inl (cZ, 36, .inl (bA za))), ((q 5), .inl (cI, 10, .inl (nA ey))), ((q 6), .inl (cI, 11, .inl (nA pw))), ((q 7), .inl (cZ, 59049, .inl (bA y1x))), ((q 8), .inl (cZ, 59049, .inl (bA y2x)))])) (va_runV (As := [.int (nI one), .int (nI x), .int (nI y)]) (rest := []) ⟨hx, hb, hml, hown, hts⟩ (c_R_hang l D cI cJ cZ h0 q R C tn dn ag md em (mFill bx ey c em) zx one x y hR1 hR2 hC1 hC2 hRC (mFill_bv hx2 em) (by omega) qx qy  H.size) (cwV 3 hts gX6_works_X6_hang rfl rfl rfl (by decide +kernel) ⟨Nat.le_of_ble_eq_true rfl, Nat.le_of_ble_eq_true rfl⟩) (kPV (ci := 6) (q0 := 0) (wc := [(h0, wMo q R C tn dn ag md em), ((q 0), .inl (cI, 36, .inl (nA (mFill bx ey c em)))), ((q 2), .inl (cZ, 36, .inl (bA zx)))]) hK2 hP hD [0, 1, 2] rfl (by decide) rfl rfl) rfl rfl hl.1 rfl (lv_room (Nat.le_of_ble_eq_true rfl)) dX6_works_94 ⟨Nat.le_of_ble_eq_true rfl, Nat.le_of_ble_eq_true rfl⟩) hP hD hS hA [0, 1, 2] [3, 4, 5, 6] [4, 5, 6, 0, 1, 2, 3] rfl rfl (by decide) (by decide) (fun _ => rfl) (by decide) (fun r_22 u_22 H locs hw_22 hP hD hS => ?_)
        obtain ⟨za_21, rfl⟩ : ∃ z, z = u_22 := ⟨_, rfl⟩
        have hP : va_P D vwCl [(h0, wMo q R C tn dn ag md em), ((q 0), .inl (cI, 36, .inl (nA (mFill bx ey c em)))), ((q 2), .inl (cZ, 36, .inl (bA za_21))), ((q 5), .inl (cI, 10, .inl (nA ey))), ((q 6), .inl (cI, 11, .inl (nA pw))), ((q 7), .inl (cZ, 59049, .inl (bA y1x))), ((q 8), .inl (cZ, 59049, .inl (bA y2x)))] H := hP
        have hD : va_D A [(h0, wMo q R C tn dn ag md em), ((q 0), .inl (cI, 36, .inl (nA (mFill bx ey c em)))), ((q 2), .inl (cZ, 36, .inl (bA za_21))), ((q 5), .inl (cI, 10, .inl (nA ey))), ((q 6), .inl (cI, 11, .inl (nA pw))), ((q 7), .inl (cZ, 59049, .inl (bA y1x))), ((q 8), .inl (cZ, 59049, .inl (bA y2x)))] := hD
        rcases hw_22 with ⟨rfl, hw_22⟩ | ⟨rfl, hw_22⟩
        · skip
          refine lv_istore (lv' := [(6, .int (nI 1)), (0, .ref h0), (1, .int (nI one)), (2, .int (nI x)), (3, .int (nI y)), (4, .int (nI c)), (5, .int (nI (Bool.toNat fl)))]) hx hb dX6_works_97 hl (by decide) rfl (fun ls hl => ?_)
          refine lv_aload_n hx hb dX6_works_99 rfl (lv_at hl 1 rfl) ?_
          refine va_get (D := D) (ci := 6) (v := .ref (q 7)) (C := RX6) (T := TX6) (N := 17) hx hb hts kiX6_works_X6 hown hK hP 0 rfl rfl 14 (by decide) (hts (.fieldLink RX6 47 "TwoBanksModel" "byOne" "[Z") (List.mem_of_getElem? (i := 3) rfl)) (fun _ h9 => h9) rfl dX6_works_100 ?_
          refine lv_iload hx hb dX6_works_103 (lv_at hl 5 rfl) ?_
          refine lv_iload hx hb dX6_works_105 (lv_at hl 0 rfl) ?_
          refine va_zast hx hb hK hP hD hS 5 2 rfl rfl (vp_in_nI (by omega) (by omega)) dX6_works_107 (fun H locs hP hD hS => ?_)
          rw [nI_clamp (by omega)] at hP hD
          rw [kz_nar (by first | decide | assumption | omega)] at hP hD
          rw [bA_upd1] at hP hD
          have hP : va_P D vwCl [(h0, wMo q R C tn dn ag md em), ((q 0), .inl (cI, 36, .inl (nA (mFill bx ey c em)))), ((q 2), .inl (cZ, 36, .inl (bA za_21))), ((q 5), .inl (cI, 10, .inl (nA ey))), ((q 6), .inl (cI, 11, .inl (nA pw))), ((q 7), .inl (cZ, 59049, .inl (bA (uB y1x c true)))), ((q 8), .inl (cZ, 59049, .inl (bA y2x)))] H := hP
          have hD : va_D A [(h0, wMo q R C tn dn ag md em), ((q 0), .inl (cI, 36, .inl (nA (mFill bx ey c em)))), ((q 2), .inl (cZ, 36, .inl (bA za_21))), ((q 5), .inl (cI, 10, .inl (nA ey))), ((q 6), .inl (cI, 11, .inl (nA pw))), ((q 7), .inl (cZ, 59049, .inl (bA (uB y1x c true)))), ((q 8), .inl (cZ, 59049, .inl (bA y2x)))] := hD
          refine lv_aload_n hx hb dX6_works_108 rfl (lv_at hl 1 rfl) ?_
          refine va_get (D := D) (ci := 6) (v := .ref (q 8)) (C := RX6) (T := TX6) (N := 17) hx hb hts kiX6_works_X6 hown hK hP 0 rfl rfl 15 (by decide) (hts (.fieldLink RX6 50 "TwoBanksModel" "byTwo" "[Z") (List.mem_of_getElem? (i := 4) rfl)) (fun _ h9 => h9) rfl dX6_works_109 ?_
          refine lv_iload hx hb dX6_works_112 (lv_at hl 5 rfl) ?_
          refine lv_iload hx hb dX6_works_114 (lv_at hl 0 rfl) ?_
          refine va_zast hx hb hK hP hD hS 6 2 rfl rfl (vp_in_nI (by omega) (by omega)) dX6_works_116 (fun H locs hP hD hS => ?_)
          rw [nI_clamp (by omega)] at hP hD
          rw [kz_nar (by first | decide | assumption | omega)] at hP hD
          rw [bA_upd1] at hP hD
          have hP : va_P D vwCl [(h0, wMo q R C tn dn ag md em), ((q 0), .inl (cI, 36, .inl (nA (mFill bx ey c em)))), ((q 2), .inl (cZ, 36, .inl (bA za_21))), ((q 5), .inl (cI, 10, .inl (nA ey))), ((q 6), .inl (cI, 11, .inl (nA pw))), ((q 7), .inl (cZ, 59049, .inl (bA (uB y1x c true)))), ((q 8), .inl (cZ, 59049, .inl (bA (uB y2x c true))))] H := hP
          have hD : va_D A [(h0, wMo q R C tn dn ag md em), ((q 0), .inl (cI, 36, .inl (nA (mFill bx ey c em)))), ((q 2), .inl (cZ, 36, .inl (bA za_21))), ((q 5), .inl (cI, 10, .inl (nA ey))), ((q 6), .inl (cI, 11, .inl (nA pw))), ((q 7), .inl (cZ, 59049, .inl (bA (uB y1x c true)))), ((q 8), .inl (cZ, 59049, .inl (bA (uB y2x c true))))] := hD
          refine lv_goto (tgt := 310) hx hb dX6_works_117 (by decide) ?_
          refine lv_iinc (v := (kPr c)) (lv' := [(4, .int (kPr c)), (6, .int (nI 1)), (0, .ref h0), (1, .int (nI one)), (2, .int (nI x)), (3, .int (nI y)), (5, .int (nI (Bool.toNat fl)))]) hx hb dX6_works_310 hl (k := 5) rfl (k_dec _) (by decide) rfl (fun ls hl => ?_)
          refine lv_goto (tgt := 13) hx hb dX6_works_313 (by decide) ?_
          exact ih_13 (c, (mFill bx ey c em), za_21, (uB y1x c true), (uB y2x c true)) _ _ _ (Nat.lt_succ_self _) ⟨hP, hD, hS, lv_sub hl [2, 3, 4, 5, 0] rfl, by omega, fun cd => by rw [mFill_over hin]; exact hx1 cd, mFill_bv hx2 em, wy_full hy9 (hfl9.mp hft) (jB_t (by rw [← hx1]; exact hw_22))⟩
        · skip
          refine lv_istore (lv' := [(6, .int (nI 0)), (0, .ref h0), (1, .int (nI one)), (2, .int (nI x)), (3, .int (nI y)), (4, .int (nI c)), (5, .int (nI (Bool.toNat fl)))]) hx hb dX6_works_97 hl (by decide) rfl (fun ls hl => ?_)
          refine lv_aload_n hx hb dX6_works_99 rfl (lv_at hl 1 rfl) ?_
          refine va_get (D := D) (ci := 6) (v := .ref (q 7)) (C := RX6) (T := TX6) (N := 17) hx hb hts kiX6_works_X6 hown hK hP 0 rfl rfl 14 (by decide) (hts (.fieldLink RX6 47 "TwoBanksModel" "byOne" "[Z") (List.mem_of_getElem? (i := 3) rfl)) (fun _ h9 => h9) rfl dX6_works_100 ?_
          refine lv_iload hx hb dX6_works_103 (lv_at hl 5 rfl) ?_
          refine lv_iload hx hb dX6_works_105 (lv_at hl 0 rfl) ?_
          refine va_zast hx hb hK hP hD hS 5 2 rfl rfl (vp_in_nI (by omega) (by omega)) dX6_works_107 (fun H locs hP hD hS => ?_)
          rw [nI_clamp (by omega)] at hP hD
          rw [kz_nar (by first | decide | assumption | omega)] at hP hD
          rw [bA_upd0] at hP hD
          have hP : va_P D vwCl [(h0, wMo q R C tn dn ag md em), ((q 0), .inl (cI, 36, .inl (nA (mFill bx ey c em)))), ((q 2), .inl (cZ, 36, .inl (bA za_21))), ((q 5), .inl (cI, 10, .inl (nA ey))), ((q 6), .inl (cI, 11, .inl (nA pw))), ((q 7), .inl (cZ, 59049, .inl (bA (uB y1x c false)))), ((q 8), .inl (cZ, 59049, .inl (bA y2x)))] H := hP
          have hD : va_D A [(h0, wMo q R C tn dn ag md em), ((q 0), .inl (cI, 36, .inl (nA (mFill bx ey c em)))), ((q 2), .inl (cZ, 36, .inl (bA za_21))), ((q 5), .inl (cI, 10, .inl (nA ey))), ((q 6), .inl (cI, 11, .inl (nA pw))), ((q 7), .inl (cZ, 59049, .inl (bA (uB y1x c false)))), ((q 8), .inl (cZ, 59049, .inl (bA y2x)))] := hD
          refine lv_aload_n hx hb dX6_works_108 rfl (lv_at hl 1 rfl) ?_
          refine va_get (D := D) (ci := 6) (v := .ref (q 8)) (C := RX6) (T := TX6) (N := 17) hx hb hts kiX6_works_X6 hown hK hP 0 rfl rfl 15 (by decide) (hts (.fieldLink RX6 50 "TwoBanksModel" "byTwo" "[Z") (List.mem_of_getElem? (i := 4) rfl)) (fun _ h9 => h9) rfl dX6_works_109 ?_
          refine lv_iload hx hb dX6_works_112 (lv_at hl 5 rfl) ?_
          refine lv_iload hx hb dX6_works_114 (lv_at hl 0 rfl) ?_
          refine va_zast hx hb hK hP hD hS 6 2 rfl rfl (vp_in_nI (by omega) (by omega)) dX6_works_116 (fun H locs hP hD hS => ?_)
          rw [nI_clamp (by omega)] at hP hD
          rw [kz_nar (by first | decide | assumption | omega)] at hP hD
          rw [bA_upd0] at hP hD
          have hP : va_P D vwCl [(h0, wMo q R C tn dn ag md em), ((q 0), .inl (cI, 36, .inl (nA (mFill bx ey c em)))), ((q 2), .inl (cZ, 36, .inl (bA za_21))), ((q 5), .inl (cI, 10, .inl (nA ey))), ((q 6), .inl (cI, 11, .inl (nA pw))), ((q 7), .inl (cZ, 59049, .inl (bA (uB y1x c false)))), ((q 8), .inl (cZ, 59049, .inl (bA (uB y2x c false))))] H := hP
          have hD : va_D A [(h0, wMo q R C tn dn ag md em), ((q 0), .inl (cI, 36, .inl (nA (mFill bx ey c em)))), ((q 2), .inl (cZ, 36, .inl (bA za_21))), ((q 5), .inl (cI, 10, .inl (nA ey))), ((q 6), .inl (cI, 11, .inl (nA pw))), ((q 7), .inl (cZ, 59049, .inl (bA (uB y1x c false)))), ((q 8), .inl (cZ, 59049, .inl (bA (uB y2x c false))))] := hD
          refine lv_goto (tgt := 310) hx hb dX6_works_117 (by decide) ?_
          refine lv_iinc (v := (kPr c)) (lv' := [(4, .int (kPr c)), (6, .int (nI 0)), (0, .ref h0), (1, .int (nI one)), (2, .int (nI x)), (3, .int (nI y)), (5, .int (nI (Bool.toNat fl)))]) hx hb dX6_works_310 hl (k := 5) rfl (k_dec _) (by decide) rfl (fun ls hl => ?_)
          refine lv_goto (tgt := 13) hx hb dX6_works_313 (by decide) ?_
          exact ih_13 (c, (mFill bx ey c em), za_21, (uB y1x c false), (uB y2x c false)) _ _ _ (Nat.lt_succ_self _) ⟨hP, hD, hS, lv_sub hl [2, 3, 4, 5, 0] rfl, by omega, fun cd => by rw [mFill_over hin]; exact hx1 cd, mFill_bv hx2 em, wy_full hy9 (hfl9.mp hft) (jB_f (by rw [← hx1]; exact hw_22))⟩
    · have hkl : k < em := c_30_4
      have hpk := hpw k (by omega)
      have hp0 : 0 < 3 ^ k := Nat.pow_pos (by decide)
      have hpb : 3 ^ k ≤ 3 ^ 10 := Nat.pow_le_pow_right (by decide) (by omega)
      have hdv : c / 3 ^ k ≤ c := Nat.div_le_self _ _
      refine lv_iload hx hb dX6_works_33 (lv_at hl 5 rfl) ?_
      refine kw_if_eq (tgt := 57) hx hb dX6_works_35 (by decide) (by omega) (fun c_35_23 => ?_) (fun c_35_23 => ?_)
      · have hff : fl = false := bz_f c_35_23
        refine lv_iconst (v := (nI 0)) hx hb dX6_works_57 (by decide) ?_
        refine lv_istore (lv' := [(5, .int (nI 0)), (0, .ref h0), (1, .int (nI one)), (2, .int (nI x)), (3, .int (nI y)), (4, .int (nI c)), (6, .int (nI k))]) hx hb dX6_works_58 hl (by decide) rfl (fun ls hl => ?_)
        refine lv_iinc (v := (nI (k + 1))) (lv' := [(6, .int (nI (k + 1))), (5, .int (nI 0)), (0, .ref h0), (1, .int (nI one)), (2, .int (nI x)), (3, .int (nI y)), (4, .int (nI c))]) hx hb dX6_works_60 hl (k := 6) rfl (k_inc _ 1) (by decide) rfl (fun ls hl => ?_)
        refine lv_goto (tgt := 24) hx hb dX6_works_63 (by decide) ?_
        exact ih_24 ((k + 1), false) _ _ _ (by show em - (k + 1) < em - k; omega) ⟨hP, hD, hS, lv_sub hl [2, 3, 4, 5, 6, 1, 0] rfl, by omega, fl_n1 hfl9 hff⟩
      · have hff : fl = true := bz_t c_35_23
        refine lv_iload hx hb dX6_works_38 (lv_at hl 4 rfl) ?_
        refine lv_aload_n hx hb dX6_works_40 rfl (lv_at hl 0 rfl) ?_
        refine va_get (D := D) (ci := 6) (v := .ref (q 6)) (C := RX6) (T := TX6) (N := 17) hx hb hts kiX6_works_X6 hown hK hP 0 rfl rfl 13 (by decide) (hts (.fieldLink RX6 43 "TwoBanksModel" "power" "[I") (List.mem_of_getElem? (i := 1) rfl)) (fun _ h9 => h9) rfl dX6_works_41 ?_
        refine lv_iload hx hb dX6_works_44 (lv_at hl 6 rfl) ?_
        refine va_iald hx hb hK hP 4 0 rfl rfl (vp_in_nI (by omega) (by omega)) dX6_works_46 ?_
        refine k_toi (y := nI (pw k)) (congrArg (nA pw) (nI_clamp (by omega))) ?_
        refine k_toi (y := nI (3 ^ k)) (congrArg nI hpk) ?_
        refine lv_idiv hx hb dX6_works_47 (nI_ne0 (by omega) (by omega)) ?_
        refine k_toi (y := nI (c / (3 ^ k))) (pk_div (by omega) (by omega) (by omega)) ?_
        refine lv_iconst (v := (nI 3)) hx hb dX6_works_48 (by decide) ?_
        refine lv_irem hx hb dX6_works_49 (nI_ne0 (by omega) (by omega)) ?_
        refine k_toi (y := nI ((c / (3 ^ k)) % 3)) (pk_rem (by omega) (by omega) (by omega)) ?_
        refine k_toi (y := nI (dg c k)) (rfl) ?_
        have hdg := dg_lt c k
        refine kw_if_eq (tgt := 57) hx hb dX6_works_50 (by decide) (by omega) (fun c_50_24 => ?_) (fun c_50_24 => ?_)
        · have hd9 : dg c k = 0 := c_50_24
          refine lv_iconst (v := (nI 0)) hx hb dX6_works_57 (by decide) ?_
          refine lv_istore (lv' := [(5, .int (nI 0)), (0, .ref h0), (1, .int (nI one)), (2, .int (nI x)), (3, .int (nI y)), (4, .int (nI c)), (6, .int (nI k))]) hx hb dX6_works_58 hl (by decide) rfl (fun ls hl => ?_)
          refine lv_iinc (v := (nI (k + 1))) (lv' := [(6, .int (nI (k + 1))), (5, .int (nI 0)), (0, .ref h0), (1, .int (nI one)), (2, .int (nI x)), (3, .int (nI y)), (4, .int (nI c))]) hx hb dX6_works_60 hl (k := 6) rfl (k_inc _ 1) (by decide) rfl (fun ls hl => ?_)
          refine lv_goto (tgt := 24) hx hb dX6_works_63 (by decide) ?_
          exact ih_24 ((k + 1), false) _ _ _ (by show em - (k + 1) < em - k; omega) ⟨hP, hD, hS, lv_sub hl [2, 3, 4, 5, 6, 1, 0] rfl, by omega, fl_n2 hd9⟩
        · have hd9 : 0 < dg c k := c_50_24
          refine lv_iconst (v := (nI 1)) hx hb dX6_works_53 (by decide) ?_
          refine lv_goto (tgt := 58) hx hb dX6_works_54 (by decide) ?_
          refine lv_istore (lv' := [(5, .int (nI 1)), (0, .ref h0), (1, .int (nI one)), (2, .int (nI x)), (3, .int (nI y)), (4, .int (nI c)), (6, .int (nI k))]) hx hb dX6_works_58 hl (by decide) rfl (fun ls hl => ?_)
          refine lv_iinc (v := (nI (k + 1))) (lv' := [(6, .int (nI (k + 1))), (5, .int (nI 1)), (0, .ref h0), (1, .int (nI one)), (2, .int (nI x)), (3, .int (nI y)), (4, .int (nI c))]) hx hb dX6_works_60 hl (k := 6) rfl (k_inc _ 1) (by decide) rfl (fun ls hl => ?_)
          refine lv_goto (tgt := 24) hx hb dX6_works_63 (by decide) ?_
          exact ih_24 ((k + 1), true) _ _ _ (by show em - (k + 1) < em - k; omega) ⟨hP, hD, hS, lv_sub hl [2, 3, 4, 5, 6, 1, 0] rfl, by omega, fl_y hfl9 hff hd9⟩
