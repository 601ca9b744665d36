/-! the board changed over -/
def chV (v : Nat) : Nat := if v = 0 then 0 else 3 - v
theorem chV_0 {v : Nat} (h : v = 0) : chV v = 0 := if_pos h
theorem chV_1 {v : Nat} (h : 0 < v) : chV v = 3 - v := if_neg (by omega)
def tW (R C x : Nat) : Nat := R * (x % C) + x / C
theorem tW_lt {R C x : Nat} (hR1 : 1 ≤ R) (hC1 : 1 ≤ C) (h : x < R * C) : tW R C x < R * C := by
  have h1 := fd_lt h
  have h2 := Nat.mod_lt x (show 0 < C by omega)
  unfold tW
  have : R * (x % C + 1) ≤ R * C := Nat.mul_le_mul_left R h2
  rw [Nat.mul_succ] at this
  omega
theorem tW_mod {R C x : Nat} (hR1 : 1 ≤ R) (h : x < R * C) : tW R C x % R = x / C := by
  unfold tW
  rw [Nat.mul_add_mod, Nat.mod_eq_of_lt (fd_lt h)]
theorem tW_div {R C x : Nat} (hR1 : 1 ≤ R) (h : x < R * C) : tW R C x / R = x % C := by
  unfold tW
  rw [Nat.mul_add_div (by omega), Nat.div_eq_of_lt (fd_lt h), Nat.add_zero]
theorem tW_inv {R C x : Nat} (hR1 : 1 ≤ R) (h : x < R * C) : tW C R (tW R C x) = x := by
  show C * (tW R C x % R) + tW R C x / R = x
  rw [tW_mod hR1 h, tW_div hR1 h]
  exact Nat.div_add_mod x C
theorem tW_inj {R C x y : Nat} (hR1 : 1 ≤ R) (hx : x < R * C) (hy : y < R * C) (e : tW R C x = tW R C y) : x = y := by
  rw [← tW_inv hR1 hx, e, tW_inv hR1 hy]
def tuP (R C : Nat) (b : Nat → Nat) (f : Nat) (t : Nat → Nat) : Prop := ∀ x, x < f → t (tW R C x) = chV (b x)
theorem tu_put {R C f v : Nat} {b t : Nat → Nat} (hR1 : 1 ≤ R) (hf : f < R * C) (h : tuP R C b f t) (hv : v = chV (b f)) : tuP R C b (f + 1) (uN t (tW R C f) v) := by
  intro x hx
  by_cases e : x = f
  · rw [e, uN_s]; exact hv
  · have h9 : tW R C x ≠ tW R C f := fun e2 => e (tW_inj hR1 (by omega) hf e2)
    rw [uN_n h9]; exact h x (by omega)
theorem cp_put {f : Nat} {b t : Nat → Nat} (h : ∀ x, x < f → b x = t x) : ∀ x, x < f + 1 → uN b f (t f) x = t x := by
  intro x hx
  by_cases e : x = f
  · rw [e, uN_s]
  · rw [uN_n e]; exact h x (by omega)
/-! what look counts -/
noncomputable def mGb (R C : Nat) (b : Nat → Nat) (F x : Nat) : Bool := @decide (mG R C b F x) (Classical.propDecidable _)
theorem mGb_iff {R C : Nat} {b : Nat → Nat} {F x : Nat} : mGb R C b F x = true ↔ mG R C b F x := by unfold mGb; exact @decide_eq_true_iff _ (Classical.propDecidable _)
theorem mGb_z {R C : Nat} {b : Nat → Nat} {F x : Nat} {v : Bool} (h : v = true ↔ mG R C b F x) : mGb R C b F x = v := by
  cases v with
  | true => exact mGb_iff.mpr (h.mp rfl)
  | false =>
    cases e : mGb R C b F x with
    | false => rfl
    | true => exact absurd (h.mpr (mGb_iff.mp e)) (by decide)
noncomputable def mOr (R C : Nat) (b : Nat → Nat) (F : Nat) : Nat → Nat | 0 => 0 | n + 1 => mOr R C b F n ||| (if mGb R C b F n = true then mBk R C n else 0)
theorem mOr_t {R C F g : Nat} {b : Nat → Nat} (h : mGb R C b F g = true) : mOr R C b F (g + 1) = mOr R C b F g ||| mBk R C g := by show _ ||| _ = _; rw [if_pos h]
theorem mOr_f {R C F g : Nat} {b : Nat → Nat} (h : mGb R C b F g = false) : mOr R C b F (g + 1) = mOr R C b F g := by show _ ||| _ = _; rw [if_neg (by rw [h]; decide), Nat.or_zero]
noncomputable def mLb (R C : Nat) (b : Nat → Nat) (F x : Nat) : Bool := @decide (b x = 0 ∧ ∃ y, y < R * C ∧ adj C y x ∧ mG R C b F y) (Classical.propDecidable _)
theorem mLb_iff {R C : Nat} {b : Nat → Nat} {F x : Nat} : mLb R C b F x = true ↔ (b x = 0 ∧ ∃ y, y < R * C ∧ adj C y x ∧ mG R C b F y) := by unfold mLb; exact @decide_eq_true_iff _ (Classical.propDecidable _)
theorem mLb_f {R C : Nat} {b : Nat → Nat} {F x : Nat} (h : ¬ (b x = 0 ∧ ∃ y, y < R * C ∧ adj C y x ∧ mG R C b F y)) : mLb R C b F x = false := by
  cases e : mLb R C b F x with
  | false => rfl
  | true => exact absurd (mLb_iff.mp e) h
theorem kiX6_change_X6 : ∀ w ∈ u_ws RX6 TX6 17, w ∈ wsX6_change := fun w h => List.mem_cons_of_mem _ (List.mem_append_right _ h)
set_option maxHeartbeats 4000000 in
set_option maxRecDepth 100000 in
theorem c_R_change (l : Launch) (D : va_G) (cI cJ cZ : ClassId) (h0 : Nat) (q : Nat → Nat) (R C tn dn ag md em : Nat) (b tu : Nat → Nat) (hR1 : 1 ≤ R) (hR2 : R ≤ 6) (hC1 : 1 ≤ C) (hC2 : C ≤ 6) (hRC : R * C ≤ 36) (hbv : ∀ f, f < R * C → b f ≤ 2) (htn : tn = 1 ∨ tn = 2) (sz : Nat) : kMV l yX6_change wsX6_change 1 20 D cI cJ cZ [.ref h0] [(h0, wMo q R C tn dn ag md em), ((q 0), .inl (cI, 36, .inl (nA b))), ((q 3), .inl (cI, 36, .inl (nA tu)))] sz (fun (u : (Nat → Nat) × (Nat → Nat)) => ∀ x, x < R * C → u.1 (tW R C x) = chV (b x)) (fun u : (Nat → Nat) × (Nat → Nat) => match u with | (ba, tua) => [(h0, wMo q C R (3 - tn) 0 0 0 em), ((q 0), .inl (cI, 36, .inl (nA ba))), ((q 3), .inl (cI, 36, .inl (nA tua)))]) := by
  refine Met.ofW (cc := cX6_change) (maxL := 2) (ret := none) (by decide) rfl ?_
  intro p e s m args below meth c s₁ B hml hv
  obtain ⟨rfl, hsz, hP, ⟨hK, hN⟩, hD0⟩ := hv
  have hx := B.exec
  have hb := B.bytes
  have hr := B.returns
  have hts := atoms_spec (ws := wsX6_change) B.pre
  have hown : s.vm.findClass RX6 = some m.cls := findClass_of_methodNamed B.named
  have hlocks := B.notSynchronized
  subst hsz
  have hD := hD0.self (sz := s.heap.size)
  generalize hAe : va_A [(h0, wMo q R C tn dn ag md em), ((q 0), .inl (cI, 36, .inl (nA b))), ((q 3), .inl (cI, 36, .inl (nA tu)))] s.heap.size = A at hD ⊢
  have hA : ∀ q : Nat, s.heap.size ≤ q → A q := fun q h => by rw [← hAe]; exact Or.inr h
  have hS : va_S A s.heap s.heap [] := va_S.rf
  have hl := lv_entry ([.ref h0]) (n := 2) (Nat.le_of_ble_eq_true rfl)
  rw [lg_entry_eq]
  generalize (lg_sl ([.ref h0]) ++ List.replicate (2 - (lg_sl ([.ref h0])).length) Slot.unset).toArray = ls at hl ⊢
  have hl : lv_has ls 2 [(0, .ref h0)] := hl
  have hK2 : kK D cI cJ cZ s := ⟨hK, hN⟩
  clear hD0
  refine lv_iconst (v := (nI 0)) hx hb dX6_change_0 (by decide) ?_
  refine lv_istore_n (lv' := [(1, .int (nI 0)), (0, .ref h0)]) hx hb dX6_change_1 rfl hl (by decide) rfl (fun ls hl => ?_)
  refine kw_loop (σ := Nat × (Nat → Nat)) (fun zz H locs ls => match zz with | (f, tf) => va_P D vwCl [(h0, wMo q R C tn dn ag md em), ((q 0), .inl (cI, 36, .inl (nA b))), ((q 3), .inl (cI, 36, .inl (nA tf)))] H ∧ va_D A [(h0, wMo q R C tn dn ag md em), ((q 0), .inl (cI, 36, .inl (nA b))), ((q 3), .inl (cI, 36, .inl (nA tf)))] ∧ va_S A s.heap H locs ∧ lv_has ls 2 [(0, .ref h0), (1, .int (nI f))] ∧ (f ≤ R * C) ∧ (tuP R C b f tf)) (fun zz => match zz with | (f, tf) => R * C - f) (0, tu) ⟨hP, hD, hS, lv_sub hl [1, 0] rfl, Nat.zero_le _, fun x hx => absurd hx (Nat.not_lt_zero _)⟩ ?_
  clear hP hD hS hl
  rintro ⟨f, tf⟩ H locs ls ⟨hP, hD, hS, hl, hf9, ht9⟩ ih_2
  have hP : va_P D vwCl [(h0, wMo q R C tn dn ag md em), ((q 0), .inl (cI, 36, .inl (nA b))), ((q 3), .inl (cI, 36, .inl (nA tf)))] H := hP
  have hD : va_D A [(h0, wMo q R C tn dn ag md em), ((q 0), .inl (cI, 36, .inl (nA b))), ((q 3), .inl (cI, 36, .inl (nA tf)))] := hD
  have hl : lv_has ls 2 [(0, .ref h0), (1, .int (nI f))] := hl
  have hf9 : f ≤ R * C := hf9
  have ht9 : tuP R C b f tf := ht9
  refine lv_iload_n hx hb dX6_change_2 rfl (lv_at hl 1 rfl) ?_
  refine lv_aload_n hx hb dX6_change_3 rfl (lv_at hl 0 rfl) ?_
  refine k_calli (wr := [((q 0), .inl (cI, 36, .inl (nA b))), ((q 3), .inl (cI, 36, .inl (nA tf)))]) (w2 := (fun _ : Unit => [(h0, wMo q R C tn dn ag md em), ((q 0), .inl (cI, 36, .inl (nA b))), ((q 3), .inl (cI, 36, .inl (nA tf)))])) (va_runV (As := []) (rest := [.int (nI f)]) ⟨hx, hb, hml, hown, hts⟩ (c_R_fields l D cI cJ cZ h0 q R C tn dn ag md em  H.size) (cwV 0 hts gX6_change_X6_fields rfl rfl rfl (by decide +kernel) ⟨Nat.le_of_ble_eq_true rfl, Nat.le_of_ble_eq_true rfl⟩) (kPV (ci := 6) (q0 := 0) (wc := [(h0, wMo q R C tn dn ag md em)]) hK2 hP hD [0] rfl (by decide) rfl rfl) rfl rfl hl.1 rfl (lv_room (Nat.le_of_ble_eq_true rfl)) dX6_change_4 ⟨Nat.le_of_ble_eq_true rfl, Nat.le_of_ble_eq_true rfl⟩) hP hD hS hA [0] [1, 2] [2, 0, 1] rfl rfl (by decide) (by decide) (fun _ => rfl) (by decide) (fun r_1 u_1 H locs hw_1 hP hD hS => ?_)
  have hP : va_P D vwCl [(h0, wMo q R C tn dn ag md em), ((q 0), .inl (cI, 36, .inl (nA b))), ((q 3), .inl (cI, 36, .inl (nA tf)))] H := hP
  have hD : va_D A [(h0, wMo q R C tn dn ag md em), ((q 0), .inl (cI, 36, .inl (nA b))), ((q 3), .inl (cI, 36, .inl (nA tf)))] := hD
  subst hw_1
  refine kw_icmp_ge (tgt := 60) hx hb dX6_change_7 (by decide) (by omega) (by omega) (fun c_7_2 => ?_) (fun c_7_2 => ?_)
  · have ht8 : tuP R C b (R * C) tf := (by have e9 : f = R * C := (by omega); rw [e9] at ht9; exact ht9)
    refine lv_iconst (v := (nI 0)) hx hb dX6_change_60 (by decide) ?_
    refine lv_istore_n (lv' := [(1, .int (nI 0)), (0, .ref h0)]) hx hb dX6_change_61 rfl hl (by decide) rfl (fun ls hl => ?_)
    refine kw_loop (σ := Nat × (Nat → Nat)) (fun zz H locs ls => match zz with | (f, bx) => va_P D vwCl [(h0, wMo q R C tn dn ag md em), ((q 0), .inl (cI, 36, .inl (nA bx))), ((q 3), .inl (cI, 36, .inl (nA tf)))] H ∧ va_D A [(h0, wMo q R C tn dn ag md em), ((q 0), .inl (cI, 36, .inl (nA bx))), ((q 3), .inl (cI, 36, .inl (nA tf)))] ∧ va_S A s.heap H locs ∧ lv_has ls 2 [(0, .ref h0), (1, .int (nI f))] ∧ (f ≤ R * C) ∧ (∀ x, x < f → bx x = tf x)) (fun zz => match zz with | (f, bx) => R * C - f) (0, b) ⟨hP, hD, hS, lv_sub hl [1, 0] rfl, Nat.zero_le _, fun x hx => absurd hx (Nat.not_lt_zero _)⟩ ?_
    clear hP hD hS hl
    rintro ⟨f, bx⟩ H locs ls ⟨hP, hD, hS, hl, hf8, hb8⟩ ih_62
    have hP : va_P D vwCl [(h0, wMo q R C tn dn ag md em), ((q 0), .inl (cI, 36, .inl (nA bx))), ((q 3), .inl (cI, 36, .inl (nA tf)))] H := hP
    have hD : va_D A [(h0, wMo q R C tn dn ag md em), ((q 0), .inl (cI, 36, .inl (nA bx))), ((q 3), .inl (cI, 36, .inl (nA tf)))] := hD
    have hl : lv_has ls 2 [(0, .ref h0), (1, .int (nI f))] := hl
    have hf8 : f ≤ R * C := hf8
    have hb8 : ∀ x, x < f → bx x = tf x := hb8
    refine lv_iload_n hx hb dX6_change_62 rfl (lv_at hl 1 rfl) ?_
    refine lv_aload_n hx hb dX6_change_63 rfl (lv_at hl 0 rfl) ?_
    refine k_calli (wr := [((q 0), .inl (cI, 36, .inl (nA bx))), ((q 3), .inl (cI, 36, .inl (nA tf)))]) (w2 := (fun _ : Unit => [(h0, wMo q R C tn dn ag md em), ((q 0), .inl (cI, 36, .inl (nA bx))), ((q 3), .inl (cI, 36, .inl (nA tf)))])) (va_runV (As := []) (rest := [.int (nI f)]) ⟨hx, hb, hml, hown, hts⟩ (c_R_fields l D cI cJ cZ h0 q R C tn dn ag md em  H.size) (cwV 0 hts gX6_change_X6_fields rfl rfl rfl (by decide +kernel) ⟨Nat.le_of_ble_eq_true rfl, Nat.le_of_ble_eq_true rfl⟩) (kPV (ci := 6) (q0 := 0) (wc := [(h0, wMo q R C tn dn ag md em)]) hK2 hP hD [0] rfl (by decide) rfl rfl) rfl rfl hl.1 rfl (lv_room (Nat.le_of_ble_eq_true rfl)) dX6_change_64 ⟨Nat.le_of_ble_eq_true rfl, Nat.le_of_ble_eq_true rfl⟩) hP hD hS hA [0] [1, 2] [2, 0, 1] rfl rfl (by decide) (by decide) (fun _ => rfl) (by decide) (fun r_3 u_3 H locs hw_3 hP hD hS => ?_)
    have hP : va_P D vwCl [(h0, wMo q R C tn dn ag md em), ((q 0), .inl (cI, 36, .inl (nA bx))), ((q 3), .inl (cI, 36, .inl (nA tf)))] H := hP
    have hD : va_D A [(h0, wMo q R C tn dn ag md em), ((q 0), .inl (cI, 36, .inl (nA bx))), ((q 3), .inl (cI, 36, .inl (nA tf)))] := hD
    subst hw_3
    refine kw_icmp_ge (tgt := 88) hx hb dX6_change_67 (by decide) (by omega) (by omega) (fun c_67_4 => ?_) (fun c_67_4 => ?_)
    · refine lv_aload_n hx hb dX6_change_88 rfl (lv_at hl 0 rfl) ?_
      refine va_get (D := D) (ci := 6) (v := .int (nI R)) (C := RX6) (T := TX6) (N := 17) hx hb hts kiX6_change_X6 hown hK hP 0 rfl rfl 0 (by decide) (hts (.fieldLink RX6 7 "TwoBanksModel" "rows" "I") (List.mem_of_getElem? (i := 2) rfl)) (fun _ h9 => h9) rfl dX6_change_89 ?_
      refine lv_istore_n (lv' := [(1, .int (nI R)), (0, .ref h0)]) hx hb dX6_change_92 rfl hl (by decide) rfl (fun ls hl => ?_)
      refine lv_aload_n hx hb dX6_change_93 rfl (lv_at hl 1 rfl) ?_
      refine lv_aload_n hx hb dX6_change_94 rfl (lv_at hl 1 rfl) ?_
      refine va_get (D := D) (ci := 6) (v := .int (nI C)) (C := RX6) (T := TX6) (N := 17) hx hb hts kiX6_change_X6 hown hK hP 0 rfl rfl 1 (by decide) (hts (.fieldLink RX6 13 "TwoBanksModel" "columns" "I") (List.mem_of_getElem? (i := 3) rfl)) (fun _ h9 => h9) rfl dX6_change_95 ?_
      refine va_put (D := D) (ci := 6) (v := .int (nI C)) (ty := .int) (C := RX6) (T := TX6) (N := 17) hx hb hts kiX6_change_X6 tyX6 tyX6_ok nmX6 hown hK hP hD hS 0 rfl rfl 0 (by decide) (hts (.fieldLink RX6 7 "TwoBanksModel" "rows" "I") (List.mem_of_getElem? (i := 2) rfl)) (fun _ h9 => h9) rfl  (by decide +kernel) rfl rfl (Nat.le_of_ble_eq_true rfl) dX6_change_98 (fun H locs hP hD hS => ?_)
      have hP : va_P D vwCl [(h0, .inr (6, [.int (nI C), .int (nI C), .int (nI tn), .ref (q 0), .int (nI dn), .int (nI ag), .ref (q 1), .int (nI md), .ref (q 2), .ref (q 3), .ref (q 4), .int (nI em), .ref (q 5), .ref (q 6), .ref (q 7), .ref (q 8), .ref (q 9)])), ((q 0), .inl (cI, 36, .inl (nA bx))), ((q 3), .inl (cI, 36, .inl (nA tf)))] H := hP
      have hD : va_D A [(h0, .inr (6, [.int (nI C), .int (nI C), .int (nI tn), .ref (q 0), .int (nI dn), .int (nI ag), .ref (q 1), .int (nI md), .ref (q 2), .ref (q 3), .ref (q 4), .int (nI em), .ref (q 5), .ref (q 6), .ref (q 7), .ref (q 8), .ref (q 9)])), ((q 0), .inl (cI, 36, .inl (nA bx))), ((q 3), .inl (cI, 36, .inl (nA tf)))] := hD
      refine lv_aload_n hx hb dX6_change_101 rfl (lv_at hl 1 rfl) ?_
      refine lv_iload_n hx hb dX6_change_102 rfl (lv_at hl 0 rfl) ?_
      refine va_put (D := D) (ci := 6) (v := .int (nI R)) (ty := .int) (C := RX6) (T := TX6) (N := 17) hx hb hts kiX6_change_X6 tyX6 tyX6_ok nmX6 hown hK hP hD hS 0 rfl rfl 1 (by decide) (hts (.fieldLink RX6 13 "TwoBanksModel" "columns" "I") (List.mem_of_getElem? (i := 3) rfl)) (fun _ h9 => h9) rfl  (by decide +kernel) rfl rfl (Nat.le_of_ble_eq_true rfl) dX6_change_103 (fun H locs hP hD hS => ?_)
      have hP : va_P D vwCl [(h0, .inr (6, [.int (nI C), .int (nI R), .int (nI tn), .ref (q 0), .int (nI dn), .int (nI ag), .ref (q 1), .int (nI md), .ref (q 2), .ref (q 3), .ref (q 4), .int (nI em), .ref (q 5), .ref (q 6), .ref (q 7), .ref (q 8), .ref (q 9)])), ((q 0), .inl (cI, 36, .inl (nA bx))), ((q 3), .inl (cI, 36, .inl (nA tf)))] H := hP
      have hD : va_D A [(h0, .inr (6, [.int (nI C), .int (nI R), .int (nI tn), .ref (q 0), .int (nI dn), .int (nI ag), .ref (q 1), .int (nI md), .ref (q 2), .ref (q 3), .ref (q 4), .int (nI em), .ref (q 5), .ref (q 6), .ref (q 7), .ref (q 8), .ref (q 9)])), ((q 0), .inl (cI, 36, .inl (nA bx))), ((q 3), .inl (cI, 36, .inl (nA tf)))] := hD
      refine lv_aload_n hx hb dX6_change_106 rfl (lv_at hl 1 rfl) ?_
      refine lv_iconst (v := (nI 3)) hx hb dX6_change_107 (by decide) ?_
      refine lv_aload_n hx hb dX6_change_108 rfl (lv_at hl 1 rfl) ?_
      refine va_get (D := D) (ci := 6) (v := .int (nI tn)) (C := RX6) (T := TX6) (N := 17) hx hb hts kiX6_change_X6 hown hK hP 0 rfl rfl 2 (by decide) (hts (.fieldLink RX6 16 "TwoBanksModel" "turn" "I") (List.mem_of_getElem? (i := 5) rfl)) (fun _ h9 => h9) rfl dX6_change_109 ?_
      refine lv_isub hx hb dX6_change_112 ?_
      refine k_toi (y := nI (3 - tn)) (pk_sub (by omega)) ?_
      refine va_put (D := D) (ci := 6) (v := .int (nI (3 - tn))) (ty := .int) (C := RX6) (T := TX6) (N := 17) hx hb hts kiX6_change_X6 tyX6 tyX6_ok nmX6 hown hK hP hD hS 0 rfl rfl 2 (by decide) (hts (.fieldLink RX6 16 "TwoBanksModel" "turn" "I") (List.mem_of_getElem? (i := 5) rfl)) (fun _ h9 => h9) rfl  (by decide +kernel) rfl rfl (Nat.le_of_ble_eq_true rfl) dX6_change_113 (fun H locs hP hD hS => ?_)
      have hP : va_P D vwCl [(h0, .inr (6, [.int (nI C), .int (nI R), .int (nI (3 - tn)), .ref (q 0), .int (nI dn), .int (nI ag), .ref (q 1), .int (nI md), .ref (q 2), .ref (q 3), .ref (q 4), .int (nI em), .ref (q 5), .ref (q 6), .ref (q 7), .ref (q 8), .ref (q 9)])), ((q 0), .inl (cI, 36, .inl (nA bx))), ((q 3), .inl (cI, 36, .inl (nA tf)))] H := hP
      have hD : va_D A [(h0, .inr (6, [.int (nI C), .int (nI R), .int (nI (3 - tn)), .ref (q 0), .int (nI dn), .int (nI ag), .ref (q 1), .int (nI md), .ref (q 2), .ref (q 3), .ref (q 4), .int (nI em), .ref (q 5), .ref (q 6), .ref (q 7), .ref (q 8), .ref (q 9)])), ((q 0), .inl (cI, 36, .inl (nA bx))), ((q 3), .inl (cI, 36, .inl (nA tf)))] := hD
      refine lv_aload_n hx hb dX6_change_116 rfl (lv_at hl 1 rfl) ?_
      refine lv_iconst (v := (nI 0)) hx hb dX6_change_117 (by decide) ?_
      refine va_put (D := D) (ci := 6) (v := .int (nI 0)) (ty := .boolean) (C := RX6) (T := TX6) (N := 17) hx hb hts kiX6_change_X6 tyX6 tyX6_ok nmX6 hown hK hP hD hS 0 rfl rfl 7 (by decide) (hts (.fieldLink RX6 26 "TwoBanksModel" "isMade" "Z") (List.mem_of_getElem? (i := 6) rfl)) (fun _ h9 => h9) rfl  (by decide +kernel) (by decide +kernel) (by decide +kernel) (Nat.le_of_ble_eq_true rfl) dX6_change_118 (fun H locs hP hD hS => ?_)
      have hP : va_P D vwCl [(h0, .inr (6, [.int (nI C), .int (nI R), .int (nI (3 - tn)), .ref (q 0), .int (nI dn), .int (nI ag), .ref (q 1), .int (nI 0), .ref (q 2), .ref (q 3), .ref (q 4), .int (nI em), .ref (q 5), .ref (q 6), .ref (q 7), .ref (q 8), .ref (q 9)])), ((q 0), .inl (cI, 36, .inl (nA bx))), ((q 3), .inl (cI, 36, .inl (nA tf)))] H := hP
      have hD : va_D A [(h0, .inr (6, [.int (nI C), .int (nI R), .int (nI (3 - tn)), .ref (q 0), .int (nI dn), .int (nI ag), .ref (q 1), .int (nI 0), .ref (q 2), .ref (q 3), .ref (q 4), .int (nI em), .ref (q 5), .ref (q 6), .ref (q 7), .ref (q 8), .ref (q 9)])), ((q 0), .inl (cI, 36, .inl (nA bx))), ((q 3), .inl (cI, 36, .inl (nA tf)))] := hD
      refine lv_aload_n hx hb dX6_change_121 rfl (lv_at hl 1 rfl) ?_
      refine k_callv (wr := [((q 0), .inl (cI, 36, .inl (nA bx))), ((q 3), .inl (cI, 36, .inl (nA tf)))]) (w2 := (fun _ : Unit => [(h0, wMo q C R (3 - tn) 0 0 0 em), ((q 0), .inl (cI, 36, .inl (nA bx))), ((q 3), .inl (cI, 36, .inl (nA tf)))])) (va_runV (As := []) (rest := []) ⟨hx, hb, hml, hown, hts⟩ (c_R_forgets l D cI cJ cZ h0 q C R (3 - tn) dn ag 0 em  H.size) (cwV 0 hts gX6_change_X6_forgets rfl rfl rfl (by decide +kernel) ⟨Nat.le_of_ble_eq_true rfl, Nat.le_of_ble_eq_true rfl⟩) (kPV (ci := 6) (q0 := 0) (wc := [(h0, .inr (6, [.int (nI C), .int (nI R), .int (nI (3 - tn)), .ref (q 0), .int (nI dn), .int (nI ag), .ref (q 1), .int (nI 0), .ref (q 2), .ref (q 3), .ref (q 4), .int (nI em), .ref (q 5), .ref (q 6), .ref (q 7), .ref (q 8), .ref (q 9)]))]) hK2 hP hD [0] rfl (by decide) rfl rfl) rfl rfl hl.1 rfl (lv_room (Nat.le_of_ble_eq_true rfl)) dX6_change_122 ⟨Nat.le_of_ble_eq_true rfl, Nat.le_of_ble_eq_true rfl⟩) hP hD hS hA [0] [1, 2] [2, 0, 1] rfl rfl (by decide) (by decide) (fun _ => rfl) (by decide) (fun u_5 H locs hw_5 hP hD hS => ?_)
      have hP : va_P D vwCl [(h0, wMo q C R (3 - tn) 0 0 0 em), ((q 0), .inl (cI, 36, .inl (nA bx))), ((q 3), .inl (cI, 36, .inl (nA tf)))] H := hP
      have hD : va_D A [(h0, wMo q C R (3 - tn) 0 0 0 em), ((q 0), .inl (cI, 36, .inl (nA bx))), ((q 3), .inl (cI, 36, .inl (nA tf)))] := hD
      exact W.vret hx hb hr (fun t ht hW => ⟨⟨(bx, tf), rfl, fun x hx => by show bx (tW R C x) = _; rw [hb8 _ (by have := tW_lt hR1 hC1 hx; omega)]; exact ht8 x hx, by rw [ht]; exact hP, hD⟩, hS.F ht⟩) hS.2.2 dX6_change_125
    · have hfl : f < R * C := c_67_4
      refine lv_aload_n hx hb dX6_change_70 rfl (lv_at hl 0 rfl) ?_
      refine va_get (D := D) (ci := 6) (v := .ref (q 0)) (C := RX6) (T := TX6) (N := 17) hx hb hts kiX6_change_X6 hown hK hP 0 rfl rfl 3 (by decide) (hts (.fieldLink RX6 19 "TwoBanksModel" "at" "[I") (List.mem_of_getElem? (i := 4) rfl)) (fun _ h9 => h9) rfl dX6_change_71 ?_
      refine lv_iload_n hx hb dX6_change_74 rfl (lv_at hl 1 rfl) ?_
      refine lv_aload_n hx hb dX6_change_75 rfl (lv_at hl 0 rfl) ?_
      refine va_get (D := D) (ci := 6) (v := .ref (q 3)) (C := RX6) (T := TX6) (N := 17) hx hb hts kiX6_change_X6 hown hK hP 0 rfl rfl 9 (by decide) (hts (.fieldLink RX6 34 "TwoBanksModel" "turned" "[I") (List.mem_of_getElem? (i := 1) rfl)) (fun _ h9 => h9) rfl dX6_change_76 ?_
      refine lv_iload_n hx hb dX6_change_79 rfl (lv_at hl 1 rfl) ?_
      refine va_iald hx hb hK hP 2 0 rfl rfl (vp_in_nI (by omega) (by omega)) dX6_change_80 ?_
      refine k_toi (y := nI (tf f)) (congrArg (nA tf) (nI_clamp (by omega))) ?_
      refine va_iast hx hb hK hP hD hS 1 0 rfl rfl (vp_in_nI (by omega) (by omega)) dX6_change_81 (fun H locs hP hD hS => ?_)
      rw [nI_clamp (by omega)] at hP hD
      rw [nA_upd] at hP hD
      have hP : va_P D vwCl [(h0, wMo q R C tn dn ag md em), ((q 0), .inl (cI, 36, .inl (nA (uN bx f (tf f))))), ((q 3), .inl (cI, 36, .inl (nA tf)))] H := hP
      have hD : va_D A [(h0, wMo q R C tn dn ag md em), ((q 0), .inl (cI, 36, .inl (nA (uN bx f (tf f))))), ((q 3), .inl (cI, 36, .inl (nA tf)))] := hD
      refine lv_iinc (v := (nI (f + 1))) (lv' := [(1, .int (nI (f + 1))), (0, .ref h0)]) hx hb dX6_change_82 hl (k := 1) rfl (k_inc _ 1) (by decide) rfl (fun ls hl => ?_)
      refine lv_goto (tgt := 62) hx hb dX6_change_85 (by decide) ?_
      exact ih_62 ((f + 1), (uN bx f (tf f))) _ _ _ (by show R * C - (f + 1) < R * C - f; omega) ⟨hP, hD, hS, lv_sub hl [1, 0] rfl, by omega, cp_put hb8⟩
  · have hfl : f < R * C := c_7_2
    have hbf := hbv f hfl
    have hfn := Nat.zero_le (f / C)
    have htw := tW_lt hR1 hC1 hfl
    refine lv_aload_n hx hb dX6_change_10 rfl (lv_at hl 0 rfl) ?_
    refine va_get (D := D) (ci := 6) (v := .ref (q 3)) (C := RX6) (T := TX6) (N := 17) hx hb hts kiX6_change_X6 hown hK hP 0 rfl rfl 9 (by decide) (hts (.fieldLink RX6 34 "TwoBanksModel" "turned" "[I") (List.mem_of_getElem? (i := 1) rfl)) (fun _ h9 => h9) rfl dX6_change_11 ?_
    refine lv_aload_n hx hb dX6_change_14 rfl (lv_at hl 0 rfl) ?_
    refine va_get (D := D) (ci := 6) (v := .int (nI R)) (C := RX6) (T := TX6) (N := 17) hx hb hts kiX6_change_X6 hown hK hP 0 rfl rfl 0 (by decide) (hts (.fieldLink RX6 7 "TwoBanksModel" "rows" "I") (List.mem_of_getElem? (i := 2) rfl)) (fun _ h9 => h9) rfl dX6_change_15 ?_
    refine lv_iload_n hx hb dX6_change_18 rfl (lv_at hl 1 rfl) ?_
    refine lv_aload_n hx hb dX6_change_19 rfl (lv_at hl 0 rfl) ?_
    refine va_get (D := D) (ci := 6) (v := .int (nI C)) (C := RX6) (T := TX6) (N := 17) hx hb hts kiX6_change_X6 hown hK hP 0 rfl rfl 1 (by decide) (hts (.fieldLink RX6 13 "TwoBanksModel" "columns" "I") (List.mem_of_getElem? (i := 3) rfl)) (fun _ h9 => h9) rfl dX6_change_20 ?_
    refine lv_irem hx hb dX6_change_23 (nI_ne0 (by omega) (by omega)) ?_
    refine k_toi (y := nI (f % C)) (pk_rem (by omega) (by omega) (by omega)) ?_
    refine lv_imul hx hb dX6_change_24 ?_
    refine k_toi (y := nI (R * (f % C))) (pk_mul _ _) ?_
    refine lv_iload_n hx hb dX6_change_25 rfl (lv_at hl 1 rfl) ?_
    refine lv_aload_n hx hb dX6_change_26 rfl (lv_at hl 0 rfl) ?_
    refine va_get (D := D) (ci := 6) (v := .int (nI C)) (C := RX6) (T := TX6) (N := 17) hx hb hts kiX6_change_X6 hown hK hP 0 rfl rfl 1 (by decide) (hts (.fieldLink RX6 13 "TwoBanksModel" "columns" "I") (List.mem_of_getElem? (i := 3) rfl)) (fun _ h9 => h9) rfl dX6_change_27 ?_
    refine lv_idiv hx hb dX6_change_30 (nI_ne0 (by omega) (by omega)) ?_
    refine k_toi (y := nI (f / C)) (pk_div (by omega) (by omega) (by omega)) ?_
    refine lv_iadd hx hb dX6_change_31 ?_
    refine k_toi (y := nI (tW R C f)) (nI_add _ _) ?_
    refine lv_aload_n hx hb dX6_change_32 rfl (lv_at hl 0 rfl) ?_
    refine va_get (D := D) (ci := 6) (v := .ref (q 0)) (C := RX6) (T := TX6) (N := 17) hx hb hts kiX6_change_X6 hown hK hP 0 rfl rfl 3 (by decide) (hts (.fieldLink RX6 19 "TwoBanksModel" "at" "[I") (List.mem_of_getElem? (i := 4) rfl)) (fun _ h9 => h9) rfl dX6_change_33 ?_
    refine lv_iload_n hx hb dX6_change_36 rfl (lv_at hl 1 rfl) ?_
    refine va_iald hx hb hK hP 1 0 rfl rfl (vp_in_nI (by omega) (by omega)) dX6_change_37 ?_
    refine k_toi (y := nI (b f)) (congrArg (nA b) (nI_clamp (by omega))) ?_
    refine kw_if_ne (tgt := 45) hx hb dX6_change_38 (by decide) (by omega) (fun c_38_6 => ?_) (fun c_38_6 => ?_)
    · have hv9 : 0 < b f := c_38_6
      refine lv_iconst (v := (nI 3)) hx hb dX6_change_45 (by decide) ?_
      refine lv_aload_n hx hb dX6_change_46 rfl (lv_at hl 0 rfl) ?_
      refine va_get (D := D) (ci := 6) (v := .ref (q 0)) (C := RX6) (T := TX6) (N := 17) hx hb hts kiX6_change_X6 hown hK hP 0 rfl rfl 3 (by decide) (hts (.fieldLink RX6 19 "TwoBanksModel" "at" "[I") (List.mem_of_getElem? (i := 4) rfl)) (fun _ h9 => h9) rfl dX6_change_47 ?_
      refine lv_iload_n hx hb dX6_change_50 rfl (lv_at hl 1 rfl) ?_
      refine va_iald hx hb hK hP 1 0 rfl rfl (vp_in_nI (by omega) (by omega)) dX6_change_51 ?_
      refine k_toi (y := nI (b f)) (congrArg (nA b) (nI_clamp (by omega))) ?_
      refine lv_isub hx hb dX6_change_52 ?_
      refine k_toi (y := nI (3 - (b f))) (pk_sub (by omega)) ?_
      refine va_iast hx hb hK hP hD hS 2 0 rfl rfl (vp_in_nI (by omega) (by omega)) dX6_change_53 (fun H locs hP hD hS => ?_)
      rw [nI_clamp (by omega)] at hP hD
      rw [nA_upd] at hP hD
      have hP : va_P D vwCl [(h0, wMo q R C tn dn ag md em), ((q 0), .inl (cI, 36, .inl (nA b))), ((q 3), .inl (cI, 36, .inl (nA (uN tf (tW R C f) (3 - (b f))))))] H := hP
      have hD : va_D A [(h0, wMo q R C tn dn ag md em), ((q 0), .inl (cI, 36, .inl (nA b))), ((q 3), .inl (cI, 36, .inl (nA (uN tf (tW R C f) (3 - (b f))))))] := hD
      refine lv_iinc (v := (nI (f + 1))) (lv' := [(1, .int (nI (f + 1))), (0, .ref h0)]) hx hb dX6_change_54 hl (k := 1) rfl (k_inc _ 1) (by decide) rfl (fun ls hl => ?_)
      refine lv_goto (tgt := 2) hx hb dX6_change_57 (by decide) ?_
      exact ih_2 ((f + 1), (uN tf (tW R C f) (3 - (b f)))) _ _ _ (by show R * C - (f + 1) < R * C - f; omega) ⟨hP, hD, hS, lv_sub hl [1, 0] rfl, by omega, tu_put hR1 hfl ht9 ((chV_1 hv9).symm)⟩
    · have hv9 : b f = 0 := c_38_6
      refine lv_iconst (v := (nI 0)) hx hb dX6_change_41 (by decide) ?_
      refine lv_goto (tgt := 53) hx hb dX6_change_42 (by decide) ?_
      refine va_iast hx hb hK hP hD hS 2 0 rfl rfl (vp_in_nI (by omega) (by omega)) dX6_change_53 (fun H locs hP hD hS => ?_)
      rw [nI_clamp (by omega)] at hP hD
      rw [nA_upd] at hP hD
      have hP : va_P D vwCl [(h0, wMo q R C tn dn ag md em), ((q 0), .inl (cI, 36, .inl (nA b))), ((q 3), .inl (cI, 36, .inl (nA (uN tf (tW R C f) 0))))] H := hP
      have hD : va_D A [(h0, wMo q R C tn dn ag md em), ((q 0), .inl (cI, 36, .inl (nA b))), ((q 3), .inl (cI, 36, .inl (nA (uN tf (tW R C f) 0))))] := hD
      refine lv_iinc (v := (nI (f + 1))) (lv' := [(1, .int (nI (f + 1))), (0, .ref h0)]) hx hb dX6_change_54 hl (k := 1) rfl (k_inc _ 1) (by decide) rfl (fun ls hl => ?_)
      refine lv_goto (tgt := 2) hx hb dX6_change_57 (by decide) ?_
      exact ih_2 ((f + 1), (uN tf (tW R C f) 0)) _ _ _ (by show R * C - (f + 1) < R * C - f; omega) ⟨hP, hD, hS, lv_sub hl [1, 0] rfl, by omega, tu_put hR1 hfl ht9 ((chV_0 hv9).symm)⟩
