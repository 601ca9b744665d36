/-! the reference's small methods -/
theorem kPr_pos {a : Nat} (h : 0 < a) : kPr a = nI (a - 1) := by
  obtain ⟨b, rfl⟩ : ∃ b, a = b + 1 := ⟨a - 1, by omega⟩
  rfl
theorem ls_1 {v lo hi : Int32} {vi li ui : Int} (hv : v.toInt = vi) (hl : lo.toInt = li) (hu : hi.toInt = ui) (h1 : ¬ v < lo) (h2 : ¬ hi < v) : li ≤ vi ∧ vi ≤ ui := by
  rw [Int32.lt_iff_toInt_lt] at h1 h2
  omega
theorem ls_0 {v lo hi : Int32} {vi li ui : Int} (hv : v.toInt = vi) (hl : lo.toInt = li) (hu : hi.toInt = ui) (h : v < lo ∨ hi < v) : ¬ (li ≤ vi ∧ vi ≤ ui) := by
  rw [Int32.lt_iff_toInt_lt, Int32.lt_iff_toInt_lt] at h
  omega
theorem fIn_iff {n : Nat} {f : Int32} (hn : n ≤ 36) (h1 : 1 ≤ n) : fIn n f ↔ 0 ≤ f.toInt ∧ f.toInt ≤ ((n - 1 : Nat) : Int) := by
  constructor
  · rintro ⟨k, hk, rfl⟩
    rw [nI_toInt (by omega)]
    omega
  · rintro ⟨h2, h3⟩
    obtain ⟨j, hj, rfl⟩ := nI_of (x := f) (fun h => by
      have := Int32.lt_iff_toInt_lt.mp h
      have e0 : (0 : Int32).toInt = 0 := by decide
      omega)
    rw [nI_toInt hj] at h3
    exact ⟨j, by omega, rfl⟩
theorem rc_1 {R C : Nat} (h1 : 1 ≤ R) (h2 : 1 ≤ C) : 1 ≤ R * C := Nat.mul_le_mul h1 h2
theorem fd_lt {R C F : Nat} (h : F < R * C) : F / C < R := Nat.div_lt_of_lt_mul (by rw [Nat.mul_comm]; exact h)
theorem bs_0 {C F : Nat} (h : 0 < F % C) : C * (F / C) + (F % C - 1) = F - 1 := by have := Nat.div_add_mod F C; omega
theorem bs_1 {C F : Nat} : C * (F / C) + (F % C + 1) = F + 1 := by have := Nat.div_add_mod F C; omega
theorem bs_2 {C F : Nat} (h : 0 < F / C) : C * (F / C - 1) + F % C = F - C := by
  have e := Nat.div_add_mod F C
  obtain ⟨a, ha⟩ : ∃ a, F / C = a + 1 := ⟨F / C - 1, by omega⟩
  rw [ha] at e ⊢
  rw [Nat.mul_succ] at e
  rw [Nat.add_sub_cancel]
  omega
theorem bs_3 {C F : Nat} : C * (F / C + 1) + F % C = F + C := by
  have e := Nat.div_add_mod F C
  rw [Nat.mul_succ]
  omega
theorem bs_4 {C F : Nat} (h : 0 < F / C) : C * (F / C - 1) + (F % C + 1) = F + 1 - C := by
  have := bs_2 h
  have e := Nat.div_add_mod F C
  have : C ≤ F := by
    obtain ⟨a, ha⟩ : ∃ a, F / C = a + 1 := ⟨F / C - 1, by omega⟩
    rw [ha, Nat.mul_succ] at e
    omega
  omega
theorem bs_5 {C F : Nat} (h : 0 < F % C) : C * (F / C + 1) + (F % C - 1) = F + C - 1 := by
  have e := Nat.div_add_mod F C
  rw [Nat.mul_succ]
  omega
theorem uB_put {k : Nat} {g : Nat → Bool} {v : Bool} (h : ∀ i, i < k → g i = v) : ∀ i, i < k + 1 → uB g k v i = v := by
  intro i hi
  by_cases e : i = k
  · rw [e]; exact uB_s
  · rw [uB_n e]; exact h i (by omega)
theorem mb0n {R C F : Nat} (h : F % C = 0) : (-1 : Int32) = kOp (mBe R C F 0) := by
  show (-1 : Int32) = kOp (if F % C = 0 then none else some (F - 1))
  rw [if_pos h]; rfl
theorem mb0s {R C F : Nat} (h : ¬ (F % C = 0)) : nI (C * (F / C) + (F % C - 1)) = kOp (mBe R C F 0) := by
  show nI (C * (F / C) + (F % C - 1)) = kOp (if F % C = 0 then none else some (F - 1))
  rw [if_neg h, bs_0 (by omega)]; rfl
theorem mb1n {R C F : Nat} (h : F % C + 1 = C) : (-1 : Int32) = kOp (mBe R C F 1) := by
  show (-1 : Int32) = kOp (if F % C + 1 = C then none else some (F + 1))
  rw [if_pos h]; rfl
theorem mb1s {R C F : Nat} (h : ¬ (F % C + 1 = C)) : nI (C * (F / C) + (F % C + 1)) = kOp (mBe R C F 1) := by
  show nI (C * (F / C) + (F % C + 1)) = kOp (if F % C + 1 = C then none else some (F + 1))
  rw [if_neg h, bs_1]; rfl
theorem mb2n {R C F : Nat} (h : F / C = 0) : (-1 : Int32) = kOp (mBe R C F 2) := by
  show (-1 : Int32) = kOp (if F / C = 0 then none else some (F - C))
  rw [if_pos h]; rfl
theorem mb2s {R C F : Nat} (h : ¬ (F / C = 0)) : nI (C * (F / C - 1) + F % C) = kOp (mBe R C F 2) := by
  show nI (C * (F / C - 1) + F % C) = kOp (if F / C = 0 then none else some (F - C))
  rw [if_neg h, bs_2 (Nat.pos_of_ne_zero h)]; rfl
theorem mb3n {R C F : Nat} (h : F / C + 1 = R) : (-1 : Int32) = kOp (mBe R C F 3) := by
  show (-1 : Int32) = kOp (if F / C + 1 = R then none else some (F + C))
  rw [if_pos h]; rfl
theorem mb3s {R C F : Nat} (h : ¬ (F / C + 1 = R)) : nI (C * (F / C + 1) + F % C) = kOp (mBe R C F 3) := by
  show nI (C * (F / C + 1) + F % C) = kOp (if F / C + 1 = R then none else some (F + C))
  rw [if_neg h, bs_3]; rfl
theorem mb4n {R C F : Nat} (h : F / C = 0 ∨ F % C + 1 = C) : (-1 : Int32) = kOp (mBe R C F 4) := by
  show (-1 : Int32) = kOp (if F / C = 0 ∨ F % C + 1 = C then none else some (F + 1 - C))
  rw [if_pos h]; rfl
theorem mb4s {R C F : Nat} (h : ¬ (F / C = 0 ∨ F % C + 1 = C)) : nI (C * (F / C - 1) + (F % C + 1)) = kOp (mBe R C F 4) := by
  show nI (C * (F / C - 1) + (F % C + 1)) = kOp (if F / C = 0 ∨ F % C + 1 = C then none else some (F + 1 - C))
  rw [if_neg h, bs_4 (Nat.pos_of_ne_zero (fun q => h (Or.inl q)))]; rfl
theorem mb5n {R C F : Nat} (h : F / C + 1 = R ∨ F % C = 0) : (-1 : Int32) = kOp (mBe R C F 5) := by
  show (-1 : Int32) = kOp (if F / C + 1 = R ∨ F % C = 0 then none else some (F + C - 1))
  rw [if_pos h]; rfl
theorem mb5s {R C F : Nat} (h : ¬ (F / C + 1 = R ∨ F % C = 0)) : nI (C * (F / C + 1) + (F % C - 1)) = kOp (mBe R C F 5) := by
  show nI (C * (F / C + 1) + (F % C - 1)) = kOp (if F / C + 1 = R ∨ F % C = 0 then none else some (F + C - 1))
  rw [if_neg h, bs_5 (by omega)]; rfl
set_option maxHeartbeats 4000000 in
set_option maxRecDepth 100000 in
theorem c_R_lies (l : Launch) (D : va_G) (cI cJ cZ : ClassId) (v lo hi : Int32) (vi li ui : Int) (hv : v.toInt = vi) (hl1 : lo.toInt = li) (hu1 : hi.toInt = ui) (sz : Nat) : kMI l yX6_lies wsX6_lies 0 0 D cI cJ cZ [.int v, .int lo, .int hi] [] sz (fun r (_ : Unit) => (r = nI 1 ∧ (li ≤ vi ∧ vi ≤ ui)) ∨ (r = nI 0 ∧ ¬ (li ≤ vi ∧ vi ≤ ui))) (fun _ : Unit => []) := by
  refine Met.ofW (cc := cX6_lies) (maxL := 3) (ret := (some .boolean)) (by decide) rfl ?_
  intro p e s m args below meth c s₁ B hml hv
  obtain ⟨rfl, hsz, hP, ⟨hK, hN⟩, hD0⟩ := hv
  have hx := B.exec
  have hb := B.bytes
  have hr := B.returns
  have hts := atoms_spec (ws := wsX6_lies) B.pre
  have hown : s.vm.findClass RX6 = some m.cls := findClass_of_methodNamed B.named
  have hlocks := B.notSynchronized
  subst hsz
  have hD := hD0.self (sz := s.heap.size)
  generalize hAe : va_A [] s.heap.size = A at hD ⊢
  have hA : ∀ q : Nat, s.heap.size ≤ q → A q := fun q h => by rw [← hAe]; exact Or.inr h
  have hS : va_S A s.heap s.heap [] := va_S.rf
  have hl := lv_entry ([.int v, .int lo, .int hi]) (n := 3) (Nat.le_of_ble_eq_true rfl)
  rw [lg_entry_eq]
  generalize (lg_sl ([.int v, .int lo, .int hi]) ++ List.replicate (3 - (lg_sl ([.int v, .int lo, .int hi])).length) Slot.unset).toArray = ls at hl ⊢
  have hl : lv_has ls 3 [(0, .int v), (1, .int lo), (2, .int hi)] := hl
  have hK2 : kK D cI cJ cZ s := ⟨hK, hN⟩
  clear hD0
  refine lv_iload_n hx hb dX6_lies_0 rfl (lv_at hl 0 rfl) ?_
  refine lv_iload_n hx hb dX6_lies_1 rfl (lv_at hl 1 rfl) ?_
  refine lv_icmp_lt (tgt := 14) hx hb dX6_lies_2 (by decide) (fun c_2_1 => ?_) (fun c_2_1 => ?_)
  · refine lv_iconst (v := (nI 0)) hx hb dX6_lies_14 (by decide) ?_
    exact W.zret (v := (nI 0)) hx hb hr (by first | decide +kernel | assumption | exact kz_narr (by first | assumption | omega)) (fun t ht hW => ⟨⟨(nI 0), (), rfl, Or.inr ⟨rfl, (ls_0 hv hl1 hu1 (by first | exact Or.inl (by assumption) | exact Or.inr (by assumption)))⟩, by rw [ht]; exact hP, hD⟩, hS.F ht⟩) hS.2.2 dX6_lies_15
  · refine lv_iload_n hx hb dX6_lies_5 rfl (lv_at hl 0 rfl) ?_
    refine lv_iload_n hx hb dX6_lies_6 rfl (lv_at hl 2 rfl) ?_
    refine lv_icmp_gt (tgt := 14) hx hb dX6_lies_7 (by decide) (fun c_7_2 => ?_) (fun c_7_2 => ?_)
    · refine lv_iconst (v := (nI 0)) hx hb dX6_lies_14 (by decide) ?_
      exact W.zret (v := (nI 0)) hx hb hr (by first | decide +kernel | assumption | exact kz_narr (by first | assumption | omega)) (fun t ht hW => ⟨⟨(nI 0), (), rfl, Or.inr ⟨rfl, (ls_0 hv hl1 hu1 (by first | exact Or.inl (by assumption) | exact Or.inr (by assumption)))⟩, by rw [ht]; exact hP, hD⟩, hS.F ht⟩) hS.2.2 dX6_lies_15
    · refine lv_iconst (v := (nI 1)) hx hb dX6_lies_10 (by decide) ?_
      refine lv_goto (tgt := 15) hx hb dX6_lies_11 (by decide) ?_
      exact W.zret (v := (nI 1)) hx hb hr (by first | decide +kernel | assumption | exact kz_narr (by first | assumption | omega)) (fun t ht hW => ⟨⟨(nI 1), (), rfl, Or.inl ⟨rfl, (ls_1 hv hl1 hu1 (by assumption) (by assumption))⟩, by rw [ht]; exact hP, hD⟩, hS.F ht⟩) hS.2.2 dX6_lies_15

theorem kiX6_fields_X6 : ∀ w ∈ u_ws RX6 TX6 17, w ∈ wsX6_fields := fun w h => List.mem_cons_of_mem _ (List.mem_append_right _ h)
set_option maxHeartbeats 4000000 in
set_option maxRecDepth 100000 in
theorem c_R_fields (l : Launch) (D : va_G) (cI cJ cZ : ClassId) (h0 : Nat) (q : Nat → Nat) (R C tn dn ag md em : Nat) (sz : Nat) : kMI l yX6_fields wsX6_fields 0 0 D cI cJ cZ [.ref h0] [(h0, wMo q R C tn dn ag md em)] sz (fun r (_ : Unit) => r = nI (R * C)) (fun _ : Unit => [(h0, wMo q R C tn dn ag md em)]) := by
  refine Met.ofW (cc := cX6_fields) (maxL := 1) (ret := (some .int)) (by decide) rfl ?_
  intro p e s m args below meth c s₁ B hml hv
  obtain ⟨rfl, hsz, hP, ⟨hK, hN⟩, hD0⟩ := hv
  have hx := B.exec
  have hb := B.bytes
  have hr := B.returns
  have hts := atoms_spec (ws := wsX6_fields) B.pre
  have hown : s.vm.findClass RX6 = some m.cls := findClass_of_methodNamed B.named
  have hlocks := B.notSynchronized
  subst hsz
  have hD := hD0.self (sz := s.heap.size)
  generalize hAe : va_A [(h0, wMo q R C tn dn ag md em)] s.heap.size = A at hD ⊢
  have hA : ∀ q : Nat, s.heap.size ≤ q → A q := fun q h => by rw [← hAe]; exact Or.inr h
  have hS : va_S A s.heap s.heap [] := va_S.rf
  have hl := lv_entry ([.ref h0]) (n := 1) (Nat.le_of_ble_eq_true rfl)
  rw [lg_entry_eq]
  generalize (lg_sl ([.ref h0]) ++ List.replicate (1 - (lg_sl ([.ref h0])).length) Slot.unset).toArray = ls at hl ⊢
  have hl : lv_has ls 1 [(0, .ref h0)] := hl
  have hK2 : kK D cI cJ cZ s := ⟨hK, hN⟩
  clear hD0
  refine lv_aload_n hx hb dX6_fields_0 rfl (lv_at hl 0 rfl) ?_
  refine va_get (D := D) (ci := 6) (v := .int (nI R)) (C := RX6) (T := TX6) (N := 17) hx hb hts kiX6_fields_X6 hown hK hP 0 rfl rfl 0 (by decide) (hts (.fieldLink RX6 7 "TwoBanksModel" "rows" "I") (List.mem_of_getElem? (i := 1) rfl)) (fun _ h9 => h9) rfl dX6_fields_1 ?_
  refine lv_aload_n hx hb dX6_fields_4 rfl (lv_at hl 0 rfl) ?_
  refine va_get (D := D) (ci := 6) (v := .int (nI C)) (C := RX6) (T := TX6) (N := 17) hx hb hts kiX6_fields_X6 hown hK hP 0 rfl rfl 1 (by decide) (hts (.fieldLink RX6 13 "TwoBanksModel" "columns" "I") (List.mem_of_getElem? (i := 2) rfl)) (fun _ h9 => h9) rfl dX6_fields_5 ?_
  refine lv_imul hx hb dX6_fields_8 ?_
  refine k_toi (y := nI (R * C)) (pk_mul _ _) ?_
  exact W.iret (v := (nI (R * C))) hx hb hr (fun t ht hW => ⟨⟨(nI (R * C)), (), rfl, rfl, by rw [ht]; exact hP, hD⟩, hS.F ht⟩) hS.2.2 dX6_fields_9

set_option maxHeartbeats 4000000 in
set_option maxRecDepth 100000 in
theorem c_R_isField (l : Launch) (D : va_G) (cI cJ cZ : ClassId) (h0 : Nat) (q : Nat → Nat) (R C tn dn ag md em : Nat) (f : Int32) (hR1 : 1 ≤ R) (hR2 : R ≤ 6) (hC1 : 1 ≤ C) (hC2 : C ≤ 6) (hRC : R * C ≤ 36) (sz : Nat) : kMI l yX6_isField wsX6_isField 1 22 D cI cJ cZ [.ref h0, .int f] [(h0, wMo q R C tn dn ag md em)] sz (fun r (_ : Unit) => (r = nI 1 ∧ fIn (R * C) f) ∨ (r = nI 0 ∧ ¬ fIn (R * C) f)) (fun _ : Unit => [(h0, wMo q R C tn dn ag md em)]) := by
  refine Met.ofW (cc := cX6_isField) (maxL := 2) (ret := (some .boolean)) (by decide) rfl ?_
  intro p e s m args below meth c s₁ B hml hv
  obtain ⟨rfl, hsz, hP, ⟨hK, hN⟩, hD0⟩ := hv
  have hx := B.exec
  have hb := B.bytes
  have hr := B.returns
  have hts := atoms_spec (ws := wsX6_isField) B.pre
  have hown : s.vm.findClass RX6 = some m.cls := findClass_of_methodNamed B.named
  have hlocks := B.notSynchronized
  subst hsz
  have hD := hD0.self (sz := s.heap.size)
  generalize hAe : va_A [(h0, wMo q R C tn dn ag md em)] s.heap.size = A at hD ⊢
  have hA : ∀ q : Nat, s.heap.size ≤ q → A q := fun q h => by rw [← hAe]; exact Or.inr h
  have hS : va_S A s.heap s.heap [] := va_S.rf
  have hl := lv_entry ([.ref h0, .int f]) (n := 2) (Nat.le_of_ble_eq_true rfl)
  rw [lg_entry_eq]
  generalize (lg_sl ([.ref h0, .int f]) ++ List.replicate (2 - (lg_sl ([.ref h0, .int f])).length) Slot.unset).toArray = ls at hl ⊢
  have hl : lv_has ls 2 [(0, .ref h0), (1, .int f)] := hl
  have hK2 : kK D cI cJ cZ s := ⟨hK, hN⟩
  clear hD0
  have h1n := rc_1 hR1 hC1
  refine lv_iload_n hx hb dX6_isField_0 rfl (lv_at hl 1 rfl) ?_
  refine lv_iconst (v := (nI 0)) hx hb dX6_isField_1 (by decide) ?_
  refine lv_aload_n hx hb dX6_isField_2 rfl (lv_at hl 0 rfl) ?_
  refine k_calli (wr := []) (w2 := (fun _ : Unit => [(h0, wMo q R C tn dn ag md em)])) (va_runV (As := []) (rest := [.int (nI 0), .int f]) ⟨hx, hb, hml, hown, hts⟩ (c_R_fields l D cI cJ cZ h0 q R C tn dn ag md em  s.heap.size) (cwV 0 hts gX6_isField_X6_fields rfl rfl rfl (by decide +kernel) ⟨Nat.le_of_ble_eq_true rfl, Nat.le_of_ble_eq_true rfl⟩) (kPV (ci := 6) (q0 := 0) (wc := [(h0, wMo q R C tn dn ag md em)]) hK2 hP hD [0] rfl (by decide) rfl rfl) rfl rfl hl.1 rfl (lv_room (Nat.le_of_ble_eq_true rfl)) dX6_isField_3 ⟨Nat.le_of_ble_eq_true rfl, Nat.le_of_ble_eq_true rfl⟩) hP hD hS hA [0] [] [0] rfl rfl (by decide) (by decide) (fun _ => rfl) (by decide) (fun r_1 u_1 H locs hw_1 hP hD hS => ?_)
  have hP : va_P D vwCl [(h0, wMo q R C tn dn ag md em)] H := hP
  have hD : va_D A [(h0, wMo q R C tn dn ag md em)] := hD
  subst hw_1
  refine lv_iconst (v := (nI 1)) hx hb dX6_isField_6 (by decide) ?_
  refine lv_isub hx hb dX6_isField_7 ?_
  refine k_toi (y := nI ((R * C) - 1)) (pk_sub (by omega)) ?_
  refine k_calli (wr := [(h0, wMo q R C tn dn ag md em)]) (w2 := (fun _ : Unit => [(h0, wMo q R C tn dn ag md em)])) (va_runS (As := [.int f, .int (nI 0), .int (nI ((R * C) - 1))]) (rest := []) ⟨hx, hb, hml, hown, hts⟩ (c_R_lies l D cI cJ cZ f (nI 0) (nI ((R * C) - 1)) (f.toInt) ((0 : Nat) : Int) ((((R * C) - 1) : Nat) : Int) rfl (nI_toInt (by omega)) (nI_toInt (by omega)) H.size) (va_cwS 3 hts gX6_isField_X6_lies rfl rfl rfl (by decide +kernel) ⟨Nat.le_of_ble_eq_true rfl, Nat.le_of_ble_eq_true rfl⟩) (kPS (wc := []) hK2 hP hD [] rfl (by decide)) rfl rfl hl.1 rfl (lv_room (Nat.le_of_ble_eq_true rfl)) dX6_isField_8 ⟨Nat.le_of_ble_eq_true rfl, Nat.le_of_ble_eq_true rfl⟩) hP hD hS hA [] [0] [0] rfl rfl (by decide) (by decide) (fun _ => rfl) (by decide) (fun r_2 u_2 H locs hw_2 hP hD hS => ?_)
  have hP : va_P D vwCl [(h0, wMo q R C tn dn ag md em)] H := hP
  have hD : va_D A [(h0, wMo q R C tn dn ag md em)] := hD
  rcases hw_2 with ⟨rfl, hw_2⟩ | ⟨rfl, hw_2⟩
  · skip
    exact W.zret (v := (nI 1)) hx hb hr (by first | decide +kernel | assumption | exact kz_narr (by first | assumption | omega)) (fun t ht hW => ⟨⟨(nI 1), (), rfl, Or.inl ⟨rfl, (fIn_iff hRC h1n).mpr hw_2⟩, by rw [ht]; exact hP, hD⟩, hS.F ht⟩) hS.2.2 dX6_isField_11
  · skip
    exact W.zret (v := (nI 0)) hx hb hr (by first | decide +kernel | assumption | exact kz_narr (by first | assumption | omega)) (fun t ht hW => ⟨⟨(nI 0), (), rfl, Or.inr ⟨rfl, fun h9 => hw_2 ((fIn_iff hRC h1n).mp h9)⟩, by rw [ht]; exact hP, hD⟩, hS.F ht⟩) hS.2.2 dX6_isField_11

theorem kiX6_forgets_X6 : ∀ w ∈ u_ws RX6 TX6 17, w ∈ wsX6_forgets := fun w h => List.mem_cons_of_mem _ (List.mem_append_right _ h)
set_option maxHeartbeats 4000000 in
set_option maxRecDepth 100000 in
theorem c_R_forgets (l : Launch) (D : va_G) (cI cJ cZ : ClassId) (h0 : Nat) (q : Nat → Nat) (R C tn dn ag md em : Nat) (sz : Nat) : kMV l yX6_forgets wsX6_forgets 0 0 D cI cJ cZ [.ref h0] [(h0, wMo q R C tn dn ag md em)] sz (fun (_ : Unit) => True) (fun _ : Unit => [(h0, wMo q R C tn 0 0 md em)]) := by
  refine Met.ofW (cc := cX6_forgets) (maxL := 1) (ret := none) (by decide) rfl ?_
  intro p e s m args below meth c s₁ B hml hv
  obtain ⟨rfl, hsz, hP, ⟨hK, hN⟩, hD0⟩ := hv
  have hx := B.exec
  have hb := B.bytes
  have hr := B.returns
  have hts := atoms_spec (ws := wsX6_forgets) B.pre
  have hown : s.vm.findClass RX6 = some m.cls := findClass_of_methodNamed B.named
  have hlocks := B.notSynchronized
  subst hsz
  have hD := hD0.self (sz := s.heap.size)
  generalize hAe : va_A [(h0, wMo q R C tn dn ag md em)] s.heap.size = A at hD ⊢
  have hA : ∀ q : Nat, s.heap.size ≤ q → A q := fun q h => by rw [← hAe]; exact Or.inr h
  have hS : va_S A s.heap s.heap [] := va_S.rf
  have hl := lv_entry ([.ref h0]) (n := 1) (Nat.le_of_ble_eq_true rfl)
  rw [lg_entry_eq]
  generalize (lg_sl ([.ref h0]) ++ List.replicate (1 - (lg_sl ([.ref h0])).length) Slot.unset).toArray = ls at hl ⊢
  have hl : lv_has ls 1 [(0, .ref h0)] := hl
  have hK2 : kK D cI cJ cZ s := ⟨hK, hN⟩
  clear hD0
  refine lv_aload_n hx hb dX6_forgets_0 rfl (lv_at hl 0 rfl) ?_
  refine lv_iconst (v := (nI 0)) hx hb dX6_forgets_1 (by decide) ?_
  refine va_put (D := D) (ci := 6) (v := .int (nI 0)) (ty := .int) (C := RX6) (T := TX6) (N := 17) hx hb hts kiX6_forgets_X6 tyX6 tyX6_ok nmX6 hown hK hP hD hS 0 rfl rfl 4 (by decide) (hts (.fieldLink RX6 64 "TwoBanksModel" "done" "I") (List.mem_of_getElem? (i := 1) rfl)) (fun _ h9 => h9) rfl  (by decide +kernel) rfl rfl (Nat.le_of_ble_eq_true rfl) dX6_forgets_2 (fun H locs hP hD hS => ?_)
  have hP : va_P D vwCl [(h0, .inr (6, [.int (nI R), .int (nI C), .int (nI tn), .ref (q 0), .int (nI 0), .int (nI ag), .ref (q 1), .int (nI md), .ref (q 2), .ref (q 3), .ref (q 4), .int (nI em), .ref (q 5), .ref (q 6), .ref (q 7), .ref (q 8), .ref (q 9)]))] H := hP
  have hD : va_D A [(h0, .inr (6, [.int (nI R), .int (nI C), .int (nI tn), .ref (q 0), .int (nI 0), .int (nI ag), .ref (q 1), .int (nI md), .ref (q 2), .ref (q 3), .ref (q 4), .int (nI em), .ref (q 5), .ref (q 6), .ref (q 7), .ref (q 8), .ref (q 9)]))] := hD
  refine lv_aload_n hx hb dX6_forgets_5 rfl (lv_at hl 0 rfl) ?_
  refine lv_iconst (v := (nI 0)) hx hb dX6_forgets_6 (by decide) ?_
  refine va_put (D := D) (ci := 6) (v := .int (nI 0)) (ty := .int) (C := RX6) (T := TX6) (N := 17) hx hb hts kiX6_forgets_X6 tyX6 tyX6_ok nmX6 hown hK hP hD hS 0 rfl rfl 5 (by decide) (hts (.fieldLink RX6 67 "TwoBanksModel" "again" "I") (List.mem_of_getElem? (i := 2) rfl)) (fun _ h9 => h9) rfl  (by decide +kernel) rfl rfl (Nat.le_of_ble_eq_true rfl) dX6_forgets_7 (fun H locs hP hD hS => ?_)
  have hP : va_P D vwCl [(h0, .inr (6, [.int (nI R), .int (nI C), .int (nI tn), .ref (q 0), .int (nI 0), .int (nI 0), .ref (q 1), .int (nI md), .ref (q 2), .ref (q 3), .ref (q 4), .int (nI em), .ref (q 5), .ref (q 6), .ref (q 7), .ref (q 8), .ref (q 9)]))] H := hP
  have hD : va_D A [(h0, .inr (6, [.int (nI R), .int (nI C), .int (nI tn), .ref (q 0), .int (nI 0), .int (nI 0), .ref (q 1), .int (nI md), .ref (q 2), .ref (q 3), .ref (q 4), .int (nI em), .ref (q 5), .ref (q 6), .ref (q 7), .ref (q 8), .ref (q 9)]))] := hD
  exact W.vret hx hb hr (fun t ht hW => ⟨⟨(), rfl, trivial, by rw [ht]; exact hP, hD⟩, hS.F ht⟩) hS.2.2 dX6_forgets_10

set_option maxHeartbeats 4000000 in
set_option maxRecDepth 100000 in
theorem c_R_first (l : Launch) (D : va_G) (cI cJ cZ : ClassId) (cl : Nat) (qcl : cl ≤ 2) (sz : Nat) : kMI l yX6_first wsX6_first 0 0 D cI cJ cZ [.int (nI cl)] [] sz (fun r (_ : Unit) => r = nI (if cl = 1 then 1 else 4)) (fun _ : Unit => []) := by
  refine Met.ofW (cc := cX6_first) (maxL := 1) (ret := (some .int)) (by decide) rfl ?_
  intro p e s m args below meth c s₁ B hml hv
  obtain ⟨rfl, hsz, hP, ⟨hK, hN⟩, hD0⟩ := hv
  have hx := B.exec
  have hb := B.bytes
  have hr := B.returns
  have hts := atoms_spec (ws := wsX6_first) B.pre
  have hown : s.vm.findClass RX6 = some m.cls := findClass_of_methodNamed B.named
  have hlocks := B.notSynchronized
  subst hsz
  have hD := hD0.self (sz := s.heap.size)
  generalize hAe : va_A [] s.heap.size = A at hD ⊢
  have hA : ∀ q : Nat, s.heap.size ≤ q → A q := fun q h => by rw [← hAe]; exact Or.inr h
  have hS : va_S A s.heap s.heap [] := va_S.rf
  have hl := lv_entry ([.int (nI cl)]) (n := 1) (Nat.le_of_ble_eq_true rfl)
  rw [lg_entry_eq]
  generalize (lg_sl ([.int (nI cl)]) ++ List.replicate (1 - (lg_sl ([.int (nI cl)])).length) Slot.unset).toArray = ls at hl ⊢
  have hl : lv_has ls 1 [(0, .int (nI cl))] := hl
  have hK2 : kK D cI cJ cZ s := ⟨hK, hN⟩
  clear hD0
  refine lv_iload_n hx hb dX6_first_0 rfl (lv_at hl 0 rfl) ?_
  refine lv_iconst (v := (nI 1)) hx hb dX6_first_1 (by decide) ?_
  refine kw_icmp_ne (tgt := 9) hx hb dX6_first_2 (by decide) (by omega) (by omega) (fun c_2_1 => ?_) (fun c_2_1 => ?_)
  · refine lv_iconst (v := (nI 4)) hx hb dX6_first_9 (by decide) ?_
    exact W.iret (v := (nI 4)) hx hb hr (fun t ht hW => ⟨⟨(nI 4), (), rfl, (by first | rw [if_pos (by assumption)] | rw [if_neg (by assumption)]), by rw [ht]; exact hP, hD⟩, hS.F ht⟩) hS.2.2 dX6_first_10
  · refine lv_iconst (v := (nI 1)) hx hb dX6_first_5 (by decide) ?_
    refine lv_goto (tgt := 10) hx hb dX6_first_6 (by decide) ?_
    exact W.iret (v := (nI 1)) hx hb hr (fun t ht hW => ⟨⟨(nI 1), (), rfl, (by first | rw [if_pos (by assumption)] | rw [if_neg (by assumption)]), by rw [ht]; exact hP, hD⟩, hS.F ht⟩) hS.2.2 dX6_first_10

set_option maxHeartbeats 4000000 in
set_option maxRecDepth 100000 in
theorem c_R_last (l : Launch) (D : va_G) (cI cJ cZ : ClassId) (cl : Nat) (qcl : cl ≤ 2) (sz : Nat) : kMI l yX6_last wsX6_last 0 0 D cI cJ cZ [.int (nI cl)] [] sz (fun r (_ : Unit) => r = nI (if cl = 1 then 2 else 8)) (fun _ : Unit => []) := by
  refine Met.ofW (cc := cX6_last) (maxL := 1) (ret := (some .int)) (by decide) rfl ?_
  intro p e s m args below meth c s₁ B hml hv
  obtain ⟨rfl, hsz, hP, ⟨hK, hN⟩, hD0⟩ := hv
  have hx := B.exec
  have hb := B.bytes
  have hr := B.returns
  have hts := atoms_spec (ws := wsX6_last) B.pre
  have hown : s.vm.findClass RX6 = some m.cls := findClass_of_methodNamed B.named
  have hlocks := B.notSynchronized
  subst hsz
  have hD := hD0.self (sz := s.heap.size)
  generalize hAe : va_A [] s.heap.size = A at hD ⊢
  have hA : ∀ q : Nat, s.heap.size ≤ q → A q := fun q h => by rw [← hAe]; exact Or.inr h
  have hS : va_S A s.heap s.heap [] := va_S.rf
  have hl := lv_entry ([.int (nI cl)]) (n := 1) (Nat.le_of_ble_eq_true rfl)
  rw [lg_entry_eq]
  generalize (lg_sl ([.int (nI cl)]) ++ List.replicate (1 - (lg_sl ([.int (nI cl)])).length) Slot.unset).toArray = ls at hl ⊢
  have hl : lv_has ls 1 [(0, .int (nI cl))] := hl
  have hK2 : kK D cI cJ cZ s := ⟨hK, hN⟩
  clear hD0
  refine lv_iload_n hx hb dX6_last_0 rfl (lv_at hl 0 rfl) ?_
  refine lv_iconst (v := (nI 1)) hx hb dX6_last_1 (by decide) ?_
  refine kw_icmp_ne (tgt := 9) hx hb dX6_last_2 (by decide) (by omega) (by omega) (fun c_2_1 => ?_) (fun c_2_1 => ?_)
  · refine lv_bipush (v := (nI 8)) hx hb dX6_last_9 (by decide) ?_
    exact W.iret (v := (nI 8)) hx hb hr (fun t ht hW => ⟨⟨(nI 8), (), rfl, (by first | rw [if_pos (by assumption)] | rw [if_neg (by assumption)]), by rw [ht]; exact hP, hD⟩, hS.F ht⟩) hS.2.2 dX6_last_11
  · refine lv_iconst (v := (nI 2)) hx hb dX6_last_5 (by decide) ?_
    refine lv_goto (tgt := 11) hx hb dX6_last_6 (by decide) ?_
    exact W.iret (v := (nI 2)) hx hb hr (fun t ht hW => ⟨⟨(nI 2), (), rfl, (by first | rw [if_pos (by assumption)] | rw [if_neg (by assumption)]), by rw [ht]; exact hP, hD⟩, hS.F ht⟩) hS.2.2 dX6_last_11

theorem kiX6_beside_X6 : ∀ w ∈ u_ws RX6 TX6 17, w ∈ wsX6_beside := fun w h => List.mem_cons_of_mem _ (List.mem_append_right _ h)
set_option maxHeartbeats 4000000 in
set_option maxRecDepth 100000 in
theorem c_R_beside (l : Launch) (D : va_G) (cI cJ cZ : ClassId) (h0 : Nat) (q : Nat → Nat) (R C tn dn ag md em : Nat) (F k : Nat) (hR1 : 1 ≤ R) (hR2 : R ≤ 6) (hC1 : 1 ≤ C) (hC2 : C ≤ 6) (hRC : R * C ≤ 36) (qF : F < R * C) (qk : k < 6) (sz : Nat) : kMI l yX6_beside wsX6_beside 1 22 D cI cJ cZ [.ref h0, .int (nI F), .int (nI k)] [(h0, wMo q R C tn dn ag md em)] sz (fun r (_ : Unit) => r = kOp (mBe R C F k)) (fun _ : Unit => [(h0, wMo q R C tn dn ag md em)]) := by
  refine Met.ofW (cc := cX6_beside) (maxL := 5) (ret := (some .int)) (by decide) rfl ?_
  intro p e s m args below meth c s₁ B hml hv
  obtain ⟨rfl, hsz, hP, ⟨hK, hN⟩, hD0⟩ := hv
  have hx := B.exec
  have hb := B.bytes
  have hr := B.returns
  have hts := atoms_spec (ws := wsX6_beside) B.pre
  have hown : s.vm.findClass RX6 = some m.cls := findClass_of_methodNamed B.named
  have hlocks := B.notSynchronized
  subst hsz
  have hD := hD0.self (sz := s.heap.size)
  generalize hAe : va_A [(h0, wMo q R C tn dn ag md em)] s.heap.size = A at hD ⊢
  have hA : ∀ q : Nat, s.heap.size ≤ q → A q := fun q h => by rw [← hAe]; exact Or.inr h
  have hS : va_S A s.heap s.heap [] := va_S.rf
  have hl := lv_entry ([.ref h0, .int (nI F), .int (nI k)]) (n := 5) (Nat.le_of_ble_eq_true rfl)
  rw [lg_entry_eq]
  generalize (lg_sl ([.ref h0, .int (nI F), .int (nI k)]) ++ List.replicate (5 - (lg_sl ([.ref h0, .int (nI F), .int (nI k)])).length) Slot.unset).toArray = ls at hl ⊢
  have hl : lv_has ls 5 [(0, .ref h0), (1, .int (nI F)), (2, .int (nI k))] := hl
  have hK2 : kK D cI cJ cZ s := ⟨hK, hN⟩
  clear hD0
  have hfn := Nat.zero_le (F / C)
  have hfr := fd_lt qF
  have hfc := Nat.mod_lt F (show 0 < C by omega)
  refine lv_iload_n hx hb dX6_beside_0 rfl (lv_at hl 1 rfl) ?_
  refine lv_aload_n hx hb dX6_beside_1 rfl (lv_at hl 0 rfl) ?_
  refine va_get (D := D) (ci := 6) (v := .int (nI C)) (C := RX6) (T := TX6) (N := 17) hx hb hts kiX6_beside_X6 hown hK hP 0 rfl rfl 1 (by decide) (hts (.fieldLink RX6 13 "TwoBanksModel" "columns" "I") (List.mem_of_getElem? (i := 1) rfl)) (fun _ h9 => h9) rfl dX6_beside_2 ?_
  refine lv_idiv hx hb dX6_beside_5 (nI_ne0 (by omega) (by omega)) ?_
  refine k_toi (y := nI (F / C)) (pk_div (by omega) (by omega) (by omega)) ?_
  refine lv_istore_n (lv' := [(3, .int (nI (F / C))), (0, .ref h0), (1, .int (nI F)), (2, .int (nI k))]) hx hb dX6_beside_6 rfl hl (by decide) rfl (fun ls hl => ?_)
  refine lv_iload_n hx hb dX6_beside_7 rfl (lv_at hl 2 rfl) ?_
  refine lv_aload_n hx hb dX6_beside_8 rfl (lv_at hl 1 rfl) ?_
  refine va_get (D := D) (ci := 6) (v := .int (nI C)) (C := RX6) (T := TX6) (N := 17) hx hb hts kiX6_beside_X6 hown hK hP 0 rfl rfl 1 (by decide) (hts (.fieldLink RX6 13 "TwoBanksModel" "columns" "I") (List.mem_of_getElem? (i := 1) rfl)) (fun _ h9 => h9) rfl dX6_beside_9 ?_
  refine lv_irem hx hb dX6_beside_12 (nI_ne0 (by omega) (by omega)) ?_
  refine k_toi (y := nI (F % C)) (pk_rem (by omega) (by omega) (by omega)) ?_
  refine lv_istore (lv' := [(4, .int (nI (F % C))), (3, .int (nI (F / C))), (0, .ref h0), (1, .int (nI F)), (2, .int (nI k))]) hx hb dX6_beside_13 hl (by decide) rfl (fun ls hl => ?_)
  refine lv_iload_n hx hb dX6_beside_15 rfl (lv_at hl 4 rfl) ?_
  rcases (show k = 0 ∨ k = 1 ∨ k = 2 ∨ k = 3 ∨ k = 4 ∨ k = 5 by omega) with rfl | rfl | rfl | rfl | rfl | rfl
  · refine lv_tableIn (off := 36) (tgt := 52) hx hb dX6_beside_16 (by decide) (by decide) rfl (by decide) ?_
    refine lv_iinc (v := (kPr (F % C))) (lv' := [(4, .int (kPr (F % C))), (3, .int (nI (F / C))), (0, .ref h0), (1, .int (nI F)), (2, .int (nI 0))]) hx hb dX6_beside_52 hl (k := 0) rfl (k_dec _) (by decide) rfl (fun ls hl => ?_)
    refine lv_goto (tgt := 91) hx hb dX6_beside_55 (by decide) ?_
    refine lv_iload_n hx hb dX6_beside_91 rfl (lv_at hl 1 rfl) ?_
    refine lv_iconst (v := (nI 0)) hx hb dX6_beside_92 (by decide) ?_
    refine lv_aload_n hx hb dX6_beside_93 rfl (lv_at hl 2 rfl) ?_
    refine va_get (D := D) (ci := 6) (v := .int (nI R)) (C := RX6) (T := TX6) (N := 17) hx hb hts kiX6_beside_X6 hown hK hP 0 rfl rfl 0 (by decide) (hts (.fieldLink RX6 7 "TwoBanksModel" "rows" "I") (List.mem_of_getElem? (i := 2) rfl)) (fun _ h9 => h9) rfl dX6_beside_94 ?_
    refine lv_iconst (v := (nI 1)) hx hb dX6_beside_97 (by decide) ?_
    refine lv_isub hx hb dX6_beside_98 ?_
    refine k_toi (y := nI (R - 1)) (pk_sub (by omega)) ?_
    refine k_calli (wr := [(h0, wMo q R C tn dn ag md em)]) (w2 := (fun _ : Unit => [(h0, wMo q R C tn dn ag md em)])) (va_runS (As := [.int (nI (F / C)), .int (nI 0), .int (nI (R - 1))]) (rest := []) ⟨hx, hb, hml, hown, hts⟩ (c_R_lies l D cI cJ cZ (nI (F / C)) (nI 0) (nI (R - 1)) (((F / C) : Nat) : Int) ((0 : Nat) : Int) (((R - 1) : Nat) : Int) (nI_toInt (by omega)) (nI_toInt (by omega)) (nI_toInt (by omega)) s.heap.size) (va_cwS 3 hts gX6_beside_X6_lies rfl rfl rfl (by decide +kernel) ⟨Nat.le_of_ble_eq_true rfl, Nat.le_of_ble_eq_true rfl⟩) (kPS (wc := []) hK2 hP hD [] rfl (by decide)) rfl rfl hl.1 rfl (lv_room (Nat.le_of_ble_eq_true rfl)) dX6_beside_99 ⟨Nat.le_of_ble_eq_true rfl, Nat.le_of_ble_eq_true rfl⟩) hP hD hS hA [] [0] [0] rfl rfl (by decide) (by decide) (fun _ => rfl) (by decide) (fun r_1 u_1 H locs hw_1 hP hD hS => ?_)
    have hP : va_P D vwCl [(h0, wMo q R C tn dn ag md em)] H := hP
    have hD : va_D A [(h0, wMo q R C tn dn ag md em)] := hD
    rcases hw_1 with ⟨rfl, hw_1⟩ | ⟨rfl, hw_1⟩
    · skip
      refine lv_if_eq (tgt := 132) hx hb dX6_beside_102 (by decide) (fun c_102_2 => absurd c_102_2 (by decide)) (fun c_102_2 => ?_)
      refine lv_iload hx hb dX6_beside_105 (lv_at hl 0 rfl) ?_
      refine lv_iconst (v := (nI 0)) hx hb dX6_beside_107 (by decide) ?_
      refine lv_aload_n hx hb dX6_beside_108 rfl (lv_at hl 2 rfl) ?_
      refine va_get (D := D) (ci := 6) (v := .int (nI C)) (C := RX6) (T := TX6) (N := 17) hx hb hts kiX6_beside_X6 hown hK hP 0 rfl rfl 1 (by decide) (hts (.fieldLink RX6 13 "TwoBanksModel" "columns" "I") (List.mem_of_getElem? (i := 1) rfl)) (fun _ h9 => h9) rfl dX6_beside_109 ?_
      refine lv_iconst (v := (nI 1)) hx hb dX6_beside_112 (by decide) ?_
      refine lv_isub hx hb dX6_beside_113 ?_
      refine k_toi (y := nI (C - 1)) (pk_sub (by omega)) ?_
      refine k_calli (wr := [(h0, wMo q R C tn dn ag md em)]) (w2 := (fun _ : Unit => [(h0, wMo q R C tn dn ag md em)])) (va_runS (As := [.int (kPr (F % C)), .int (nI 0), .int (nI (C - 1))]) (rest := []) ⟨hx, hb, hml, hown, hts⟩ (c_R_lies l D cI cJ cZ (kPr (F % C)) (nI 0) (nI (C - 1)) ((((F % C) : Nat) : Int) - 1) ((0 : Nat) : Int) (((C - 1) : Nat) : Int) (kPr_toInt (by omega)) (nI_toInt (by omega)) (nI_toInt (by omega)) H.size) (va_cwS 3 hts gX6_beside_X6_lies rfl rfl rfl (by decide +kernel) ⟨Nat.le_of_ble_eq_true rfl, Nat.le_of_ble_eq_true rfl⟩) (kPS (wc := []) hK2 hP hD [] rfl (by decide)) rfl rfl hl.1 rfl (lv_room (Nat.le_of_ble_eq_true rfl)) dX6_beside_114 ⟨Nat.le_of_ble_eq_true rfl, Nat.le_of_ble_eq_true rfl⟩) hP hD hS hA [] [0] [0] rfl rfl (by decide) (by decide) (fun _ => rfl) (by decide) (fun r_3 u_3 H locs hw_3 hP hD hS => ?_)
      have hP : va_P D vwCl [(h0, wMo q R C tn dn ag md em)] H := hP
      have hD : va_D A [(h0, wMo q R C tn dn ag md em)] := hD
      rcases hw_3 with ⟨rfl, hw_3⟩ | ⟨rfl, hw_3⟩
      · have hp4 : 0 < (F % C) := by omega
        have hl : lv_has ls 5 [(4, .int (nI ((F % C) - 1))), (3, .int (nI (F / C))), (0, .ref h0), (1, .int (nI F)), (2, .int (nI 0))] := by rw [← kPr_pos hp4]; exact hl
        refine lv_if_eq (tgt := 132) hx hb dX6_beside_117 (by decide) (fun c_117_4 => absurd c_117_4 (by decide)) (fun c_117_4 => ?_)
        refine lv_aload_n hx hb dX6_beside_120 rfl (lv_at hl 2 rfl) ?_
        refine va_get (D := D) (ci := 6) (v := .int (nI C)) (C := RX6) (T := TX6) (N := 17) hx hb hts kiX6_beside_X6 hown hK hP 0 rfl rfl 1 (by decide) (hts (.fieldLink RX6 13 "TwoBanksModel" "columns" "I") (List.mem_of_getElem? (i := 1) rfl)) (fun _ h9 => h9) rfl dX6_beside_121 ?_
        refine lv_iload_n hx hb dX6_beside_124 rfl (lv_at hl 1 rfl) ?_
        refine lv_imul hx hb dX6_beside_125 ?_
        refine k_toi (y := nI (C * (F / C))) (pk_mul _ _) ?_
        refine lv_iload hx hb dX6_beside_126 (lv_at hl 0 rfl) ?_
        refine lv_iadd hx hb dX6_beside_128 ?_
        refine k_toi (y := nI ((C * (F / C)) + ((F % C) - 1))) (nI_add _ _) ?_
        refine lv_goto (tgt := 133) hx hb dX6_beside_129 (by decide) ?_
        exact W.iret (v := (nI ((C * (F / C)) + ((F % C) - 1)))) hx hb hr (fun t ht hW => ⟨⟨(nI ((C * (F / C)) + ((F % C) - 1))), (), rfl, (mb0s (by omega)), by rw [ht]; exact hP, hD⟩, hS.F ht⟩) hS.2.2 dX6_beside_133
      · skip
        refine lv_if_eq (tgt := 132) hx hb dX6_beside_117 (by decide) (fun c_117_5 => ?_) (fun c_117_5 => absurd c_117_5 (by decide))
        refine lv_iconst (v := (-1)) hx hb dX6_beside_132 (by decide) ?_
        exact W.iret (v := (-1)) hx hb hr (fun t ht hW => ⟨⟨(-1), (), rfl, (mb0n (by omega)), by rw [ht]; exact hP, hD⟩, hS.F ht⟩) hS.2.2 dX6_beside_133
    · skip
      refine lv_if_eq (tgt := 132) hx hb dX6_beside_102 (by decide) (fun c_102_6 => ?_) (fun c_102_6 => absurd c_102_6 (by decide))
      refine lv_iconst (v := (-1)) hx hb dX6_beside_132 (by decide) ?_
      exact W.iret (v := (-1)) hx hb hr (fun t ht hW => ⟨⟨(-1), (), rfl, (mb0n (by omega)), by rw [ht]; exact hP, hD⟩, hS.F ht⟩) hS.2.2 dX6_beside_133
  · refine lv_tableIn (off := 42) (tgt := 58) hx hb dX6_beside_16 (by decide) (by decide) rfl (by decide) ?_
    refine lv_iinc (v := (nI ((F % C) + 1))) (lv' := [(4, .int (nI ((F % C) + 1))), (3, .int (nI (F / C))), (0, .ref h0), (1, .int (nI F)), (2, .int (nI 1))]) hx hb dX6_beside_58 hl (k := 0) rfl (k_inc _ 1) (by decide) rfl (fun ls hl => ?_)
    refine lv_goto (tgt := 91) hx hb dX6_beside_61 (by decide) ?_
    refine lv_iload_n hx hb dX6_beside_91 rfl (lv_at hl 1 rfl) ?_
    refine lv_iconst (v := (nI 0)) hx hb dX6_beside_92 (by decide) ?_
    refine lv_aload_n hx hb dX6_beside_93 rfl (lv_at hl 2 rfl) ?_
    refine va_get (D := D) (ci := 6) (v := .int (nI R)) (C := RX6) (T := TX6) (N := 17) hx hb hts kiX6_beside_X6 hown hK hP 0 rfl rfl 0 (by decide) (hts (.fieldLink RX6 7 "TwoBanksModel" "rows" "I") (List.mem_of_getElem? (i := 2) rfl)) (fun _ h9 => h9) rfl dX6_beside_94 ?_
    refine lv_iconst (v := (nI 1)) hx hb dX6_beside_97 (by decide) ?_
    refine lv_isub hx hb dX6_beside_98 ?_
    refine k_toi (y := nI (R - 1)) (pk_sub (by omega)) ?_
    refine k_calli (wr := [(h0, wMo q R C tn dn ag md em)]) (w2 := (fun _ : Unit => [(h0, wMo q R C tn dn ag md em)])) (va_runS (As := [.int (nI (F / C)), .int (nI 0), .int (nI (R - 1))]) (rest := []) ⟨hx, hb, hml, hown, hts⟩ (c_R_lies l D cI cJ cZ (nI (F / C)) (nI 0) (nI (R - 1)) (((F / C) : Nat) : Int) ((0 : Nat) : Int) (((R - 1) : Nat) : Int) (nI_toInt (by omega)) (nI_toInt (by omega)) (nI_toInt (by omega)) s.heap.size) (va_cwS 3 hts gX6_beside_X6_lies rfl rfl rfl (by decide +kernel) ⟨Nat.le_of_ble_eq_true rfl, Nat.le_of_ble_eq_true rfl⟩) (kPS (wc := []) hK2 hP hD [] rfl (by decide)) rfl rfl hl.1 rfl (lv_room (Nat.le_of_ble_eq_true rfl)) dX6_beside_99 ⟨Nat.le_of_ble_eq_true rfl, Nat.le_of_ble_eq_true rfl⟩) hP hD hS hA [] [0] [0] rfl rfl (by decide) (by decide) (fun _ => rfl) (by decide) (fun r_7 u_7 H locs hw_7 hP hD hS => ?_)
    have hP : va_P D vwCl [(h0, wMo q R C tn dn ag md em)] H := hP
    have hD : va_D A [(h0, wMo q R C tn dn ag md em)] := hD
    rcases hw_7 with ⟨rfl, hw_7⟩ | ⟨rfl, hw_7⟩
    · skip
      refine lv_if_eq (tgt := 132) hx hb dX6_beside_102 (by decide) (fun c_102_8 => absurd c_102_8 (by decide)) (fun c_102_8 => ?_)
      refine lv_iload hx hb dX6_beside_105 (lv_at hl 0 rfl) ?_
      refine lv_iconst (v := (nI 0)) hx hb dX6_beside_107 (by decide) ?_
      refine lv_aload_n hx hb dX6_beside_108 rfl (lv_at hl 2 rfl) ?_
      refine va_get (D := D) (ci := 6) (v := .int (nI C)) (C := RX6) (T := TX6) (N := 17) hx hb hts kiX6_beside_X6 hown hK hP 0 rfl rfl 1 (by decide) (hts (.fieldLink RX6 13 "TwoBanksModel" "columns" "I") (List.mem_of_getElem? (i := 1) rfl)) (fun _ h9 => h9) rfl dX6_beside_109 ?_
      refine lv_iconst (v := (nI 1)) hx hb dX6_beside_112 (by decide) ?_
      refine lv_isub hx hb dX6_beside_113 ?_
      refine k_toi (y := nI (C - 1)) (pk_sub (by omega)) ?_
      refine k_calli (wr := [(h0, wMo q R C tn dn ag md em)]) (w2 := (fun _ : Unit => [(h0, wMo q R C tn dn ag md em)])) (va_runS (As := [.int (nI ((F % C) + 1)), .int (nI 0), .int (nI (C - 1))]) (rest := []) ⟨hx, hb, hml, hown, hts⟩ (c_R_lies l D cI cJ cZ (nI ((F % C) + 1)) (nI 0) (nI (C - 1)) ((((F % C) + 1) : Nat) : Int) ((0 : Nat) : Int) (((C - 1) : Nat) : Int) (nI_toInt (by omega)) (nI_toInt (by omega)) (nI_toInt (by omega)) H.size) (va_cwS 3 hts gX6_beside_X6_lies rfl rfl rfl (by decide +kernel) ⟨Nat.le_of_ble_eq_true rfl, Nat.le_of_ble_eq_true rfl⟩) (kPS (wc := []) hK2 hP hD [] rfl (by decide)) rfl rfl hl.1 rfl (lv_room (Nat.le_of_ble_eq_true rfl)) dX6_beside_114 ⟨Nat.le_of_ble_eq_true rfl, Nat.le_of_ble_eq_true rfl⟩) hP hD hS hA [] [0] [0] rfl rfl (by decide) (by decide) (fun _ => rfl) (by decide) (fun r_9 u_9 H locs hw_9 hP hD hS => ?_)
      have hP : va_P D vwCl [(h0, wMo q R C tn dn ag md em)] H := hP
      have hD : va_D A [(h0, wMo q R C tn dn ag md em)] := hD
      rcases hw_9 with ⟨rfl, hw_9⟩ | ⟨rfl, hw_9⟩
      · skip
        refine lv_if_eq (tgt := 132) hx hb dX6_beside_117 (by decide) (fun c_117_10 => absurd c_117_10 (by decide)) (fun c_117_10 => ?_)
        refine lv_aload_n hx hb dX6_beside_120 rfl (lv_at hl 2 rfl) ?_
        refine va_get (D := D) (ci := 6) (v := .int (nI C)) (C := RX6) (T := TX6) (N := 17) hx hb hts kiX6_beside_X6 hown hK hP 0 rfl rfl 1 (by decide) (hts (.fieldLink RX6 13 "TwoBanksModel" "columns" "I") (List.mem_of_getElem? (i := 1) rfl)) (fun _ h9 => h9) rfl dX6_beside_121 ?_
        refine lv_iload_n hx hb dX6_beside_124 rfl (lv_at hl 1 rfl) ?_
        refine lv_imul hx hb dX6_beside_125 ?_
        refine k_toi (y := nI (C * (F / C))) (pk_mul _ _) ?_
        refine lv_iload hx hb dX6_beside_126 (lv_at hl 0 rfl) ?_
        refine lv_iadd hx hb dX6_beside_128 ?_
        refine k_toi (y := nI ((C * (F / C)) + ((F % C) + 1))) (nI_add _ _) ?_
        refine lv_goto (tgt := 133) hx hb dX6_beside_129 (by decide) ?_
        exact W.iret (v := (nI ((C * (F / C)) + ((F % C) + 1)))) hx hb hr (fun t ht hW => ⟨⟨(nI ((C * (F / C)) + ((F % C) + 1))), (), rfl, (mb1s (by omega)), by rw [ht]; exact hP, hD⟩, hS.F ht⟩) hS.2.2 dX6_beside_133
      · skip
        refine lv_if_eq (tgt := 132) hx hb dX6_beside_117 (by decide) (fun c_117_11 => ?_) (fun c_117_11 => absurd c_117_11 (by decide))
        refine lv_iconst (v := (-1)) hx hb dX6_beside_132 (by decide) ?_
        exact W.iret (v := (-1)) hx hb hr (fun t ht hW => ⟨⟨(-1), (), rfl, (mb1n (by omega)), by rw [ht]; exact hP, hD⟩, hS.F ht⟩) hS.2.2 dX6_beside_133
    · skip
      refine lv_if_eq (tgt := 132) hx hb dX6_beside_102 (by decide) (fun c_102_12 => ?_) (fun c_102_12 => absurd c_102_12 (by decide))
      refine lv_iconst (v := (-1)) hx hb dX6_beside_132 (by decide) ?_
      exact W.iret (v := (-1)) hx hb hr (fun t ht hW => ⟨⟨(-1), (), rfl, (mb1n (by omega)), by rw [ht]; exact hP, hD⟩, hS.F ht⟩) hS.2.2 dX6_beside_133
  · refine lv_tableIn (off := 48) (tgt := 64) hx hb dX6_beside_16 (by decide) (by decide) rfl (by decide) ?_
    refine lv_iinc (v := (kPr (F / C))) (lv' := [(3, .int (kPr (F / C))), (4, .int (nI (F % C))), (0, .ref h0), (1, .int (nI F)), (2, .int (nI 2))]) hx hb dX6_beside_64 hl (k := 1) rfl (k_dec _) (by decide) rfl (fun ls hl => ?_)
    refine lv_goto (tgt := 91) hx hb dX6_beside_67 (by decide) ?_
    refine lv_iload_n hx hb dX6_beside_91 rfl (lv_at hl 0 rfl) ?_
    refine lv_iconst (v := (nI 0)) hx hb dX6_beside_92 (by decide) ?_
    refine lv_aload_n hx hb dX6_beside_93 rfl (lv_at hl 2 rfl) ?_
    refine va_get (D := D) (ci := 6) (v := .int (nI R)) (C := RX6) (T := TX6) (N := 17) hx hb hts kiX6_beside_X6 hown hK hP 0 rfl rfl 0 (by decide) (hts (.fieldLink RX6 7 "TwoBanksModel" "rows" "I") (List.mem_of_getElem? (i := 2) rfl)) (fun _ h9 => h9) rfl dX6_beside_94 ?_
    refine lv_iconst (v := (nI 1)) hx hb dX6_beside_97 (by decide) ?_
    refine lv_isub hx hb dX6_beside_98 ?_
    refine k_toi (y := nI (R - 1)) (pk_sub (by omega)) ?_
    refine k_calli (wr := [(h0, wMo q R C tn dn ag md em)]) (w2 := (fun _ : Unit => [(h0, wMo q R C tn dn ag md em)])) (va_runS (As := [.int (kPr (F / C)), .int (nI 0), .int (nI (R - 1))]) (rest := []) ⟨hx, hb, hml, hown, hts⟩ (c_R_lies l D cI cJ cZ (kPr (F / C)) (nI 0) (nI (R - 1)) ((((F / C) : Nat) : Int) - 1) ((0 : Nat) : Int) (((R - 1) : Nat) : Int) (kPr_toInt (by omega)) (nI_toInt (by omega)) (nI_toInt (by omega)) s.heap.size) (va_cwS 3 hts gX6_beside_X6_lies rfl rfl rfl (by decide +kernel) ⟨Nat.le_of_ble_eq_true rfl, Nat.le_of_ble_eq_true rfl⟩) (kPS (wc := []) hK2 hP hD [] rfl (by decide)) rfl rfl hl.1 rfl (lv_room (Nat.le_of_ble_eq_true rfl)) dX6_beside_99 ⟨Nat.le_of_ble_eq_true rfl, Nat.le_of_ble_eq_true rfl⟩) hP hD hS hA [] [0] [0] rfl rfl (by decide) (by decide) (fun _ => rfl) (by decide) (fun r_13 u_13 H locs hw_13 hP hD hS => ?_)
    have hP : va_P D vwCl [(h0, wMo q R C tn dn ag md em)] H := hP
    have hD : va_D A [(h0, wMo q R C tn dn ag md em)] := hD
    rcases hw_13 with ⟨rfl, hw_13⟩ | ⟨rfl, hw_13⟩
    · have hp3 : 0 < (F / C) := by omega
      have hl : lv_has ls 5 [(3, .int (nI ((F / C) - 1))), (4, .int (nI (F % C))), (0, .ref h0), (1, .int (nI F)), (2, .int (nI 2))] := by rw [← kPr_pos hp3]; exact hl
      refine lv_if_eq (tgt := 132) hx hb dX6_beside_102 (by decide) (fun c_102_14 => absurd c_102_14 (by decide)) (fun c_102_14 => ?_)
      refine lv_iload hx hb dX6_beside_105 (lv_at hl 1 rfl) ?_
      refine lv_iconst (v := (nI 0)) hx hb dX6_beside_107 (by decide) ?_
      refine lv_aload_n hx hb dX6_beside_108 rfl (lv_at hl 2 rfl) ?_
      refine va_get (D := D) (ci := 6) (v := .int (nI C)) (C := RX6) (T := TX6) (N := 17) hx hb hts kiX6_beside_X6 hown hK hP 0 rfl rfl 1 (by decide) (hts (.fieldLink RX6 13 "TwoBanksModel" "columns" "I") (List.mem_of_getElem? (i := 1) rfl)) (fun _ h9 => h9) rfl dX6_beside_109 ?_
      refine lv_iconst (v := (nI 1)) hx hb dX6_beside_112 (by decide) ?_
      refine lv_isub hx hb dX6_beside_113 ?_
      refine k_toi (y := nI (C - 1)) (pk_sub (by omega)) ?_
      refine k_calli (wr := [(h0, wMo q R C tn dn ag md em)]) (w2 := (fun _ : Unit => [(h0, wMo q R C tn dn ag md em)])) (va_runS (As := [.int (nI (F % C)), .int (nI 0), .int (nI (C - 1))]) (rest := []) ⟨hx, hb, hml, hown, hts⟩ (c_R_lies l D cI cJ cZ (nI (F % C)) (nI 0) (nI (C - 1)) (((F % C) : Nat) : Int) ((0 : Nat) : Int) (((C - 1) : Nat) : Int) (nI_toInt (by omega)) (nI_toInt (by omega)) (nI_toInt (by omega)) H.size) (va_cwS 3 hts gX6_beside_X6_lies rfl rfl rfl (by decide +kernel) ⟨Nat.le_of_ble_eq_true rfl, Nat.le_of_ble_eq_true rfl⟩) (kPS (wc := []) hK2 hP hD [] rfl (by decide)) rfl rfl hl.1 rfl (lv_room (Nat.le_of_ble_eq_true rfl)) dX6_beside_114 ⟨Nat.le_of_ble_eq_true rfl, Nat.le_of_ble_eq_true rfl⟩) hP hD hS hA [] [0] [0] rfl rfl (by decide) (by decide) (fun _ => rfl) (by decide) (fun r_15 u_15 H locs hw_15 hP hD hS => ?_)
      have hP : va_P D vwCl [(h0, wMo q R C tn dn ag md em)] H := hP
      have hD : va_D A [(h0, wMo q R C tn dn ag md em)] := hD
      rcases hw_15 with ⟨rfl, hw_15⟩ | ⟨rfl, hw_15⟩
      · skip
        refine lv_if_eq (tgt := 132) hx hb dX6_beside_117 (by decide) (fun c_117_16 => absurd c_117_16 (by decide)) (fun c_117_16 => ?_)
        refine lv_aload_n hx hb dX6_beside_120 rfl (lv_at hl 2 rfl) ?_
        refine va_get (D := D) (ci := 6) (v := .int (nI C)) (C := RX6) (T := TX6) (N := 17) hx hb hts kiX6_beside_X6 hown hK hP 0 rfl rfl 1 (by decide) (hts (.fieldLink RX6 13 "TwoBanksModel" "columns" "I") (List.mem_of_getElem? (i := 1) rfl)) (fun _ h9 => h9) rfl dX6_beside_121 ?_
        refine lv_iload_n hx hb dX6_beside_124 rfl (lv_at hl 0 rfl) ?_
        refine lv_imul hx hb dX6_beside_125 ?_
        refine k_toi (y := nI (C * ((F / C) - 1))) (pk_mul _ _) ?_
        refine lv_iload hx hb dX6_beside_126 (lv_at hl 1 rfl) ?_
        refine lv_iadd hx hb dX6_beside_128 ?_
        refine k_toi (y := nI ((C * ((F / C) - 1)) + (F % C))) (nI_add _ _) ?_
        refine lv_goto (tgt := 133) hx hb dX6_beside_129 (by decide) ?_
        exact W.iret (v := (nI ((C * ((F / C) - 1)) + (F % C)))) hx hb hr (fun t ht hW => ⟨⟨(nI ((C * ((F / C) - 1)) + (F % C))), (), rfl, (mb2s (by omega)), by rw [ht]; exact hP, hD⟩, hS.F ht⟩) hS.2.2 dX6_beside_133
      · skip
        refine lv_if_eq (tgt := 132) hx hb dX6_beside_117 (by decide) (fun c_117_17 => ?_) (fun c_117_17 => absurd c_117_17 (by decide))
        refine lv_iconst (v := (-1)) hx hb dX6_beside_132 (by decide) ?_
        exact W.iret (v := (-1)) hx hb hr (fun t ht hW => ⟨⟨(-1), (), rfl, (mb2n (by omega)), by rw [ht]; exact hP, hD⟩, hS.F ht⟩) hS.2.2 dX6_beside_133
    · skip
      refine lv_if_eq (tgt := 132) hx hb dX6_beside_102 (by decide) (fun c_102_18 => ?_) (fun c_102_18 => absurd c_102_18 (by decide))
      refine lv_iconst (v := (-1)) hx hb dX6_beside_132 (by decide) ?_
      exact W.iret (v := (-1)) hx hb hr (fun t ht hW => ⟨⟨(-1), (), rfl, (mb2n (by omega)), by rw [ht]; exact hP, hD⟩, hS.F ht⟩) hS.2.2 dX6_beside_133
  · refine lv_tableIn (off := 54) (tgt := 70) hx hb dX6_beside_16 (by decide) (by decide) rfl (by decide) ?_
    refine lv_iinc (v := (nI ((F / C) + 1))) (lv' := [(3, .int (nI ((F / C) + 1))), (4, .int (nI (F % C))), (0, .ref h0), (1, .int (nI F)), (2, .int (nI 3))]) hx hb dX6_beside_70 hl (k := 1) rfl (k_inc _ 1) (by decide) rfl (fun ls hl => ?_)
    refine lv_goto (tgt := 91) hx hb dX6_beside_73 (by decide) ?_
    refine lv_iload_n hx hb dX6_beside_91 rfl (lv_at hl 0 rfl) ?_
    refine lv_iconst (v := (nI 0)) hx hb dX6_beside_92 (by decide) ?_
    refine lv_aload_n hx hb dX6_beside_93 rfl (lv_at hl 2 rfl) ?_
    refine va_get (D := D) (ci := 6) (v := .int (nI R)) (C := RX6) (T := TX6) (N := 17) hx hb hts kiX6_beside_X6 hown hK hP 0 rfl rfl 0 (by decide) (hts (.fieldLink RX6 7 "TwoBanksModel" "rows" "I") (List.mem_of_getElem? (i := 2) rfl)) (fun _ h9 => h9) rfl dX6_beside_94 ?_
    refine lv_iconst (v := (nI 1)) hx hb dX6_beside_97 (by decide) ?_
    refine lv_isub hx hb dX6_beside_98 ?_
    refine k_toi (y := nI (R - 1)) (pk_sub (by omega)) ?_
    refine k_calli (wr := [(h0, wMo q R C tn dn ag md em)]) (w2 := (fun _ : Unit => [(h0, wMo q R C tn dn ag md em)])) (va_runS (As := [.int (nI ((F / C) + 1)), .int (nI 0), .int (nI (R - 1))]) (rest := []) ⟨hx, hb, hml, hown, hts⟩ (c_R_lies l D cI cJ cZ (nI ((F / C) + 1)) (nI 0) (nI (R - 1)) ((((F / C) + 1) : Nat) : Int) ((0 : Nat) : Int) (((R - 1) : Nat) : Int) (nI_toInt (by omega)) (nI_toInt (by omega)) (nI_toInt (by omega)) s.heap.size) (va_cwS 3 hts gX6_beside_X6_lies rfl rfl rfl (by decide +kernel) ⟨Nat.le_of_ble_eq_true rfl, Nat.le_of_ble_eq_true rfl⟩) (kPS (wc := []) hK2 hP hD [] rfl (by decide)) rfl rfl hl.1 rfl (lv_room (Nat.le_of_ble_eq_true rfl)) dX6_beside_99 ⟨Nat.le_of_ble_eq_true rfl, Nat.le_of_ble_eq_true rfl⟩) hP hD hS hA [] [0] [0] rfl rfl (by decide) (by decide) (fun _ => rfl) (by decide) (fun r_19 u_19 H locs hw_19 hP hD hS => ?_)
    have hP : va_P D vwCl [(h0, wMo q R C tn dn ag md em)] H := hP
    have hD : va_D A [(h0, wMo q R C tn dn ag md em)] := hD
    rcases hw_19 with ⟨rfl, hw_19⟩ | ⟨rfl, hw_19⟩
    · skip
      refine lv_if_eq (tgt := 132) hx hb dX6_beside_102 (by decide) (fun c_102_20 => absurd c_102_20 (by decide)) (fun c_102_20 => ?_)
      refine lv_iload hx hb dX6_beside_105 (lv_at hl 1 rfl) ?_
      refine lv_iconst (v := (nI 0)) hx hb dX6_beside_107 (by decide) ?_
      refine lv_aload_n hx hb dX6_beside_108 rfl (lv_at hl 2 rfl) ?_
      refine va_get (D := D) (ci := 6) (v := .int (nI C)) (C := RX6) (T := TX6) (N := 17) hx hb hts kiX6_beside_X6 hown hK hP 0 rfl rfl 1 (by decide) (hts (.fieldLink RX6 13 "TwoBanksModel" "columns" "I") (List.mem_of_getElem? (i := 1) rfl)) (fun _ h9 => h9) rfl dX6_beside_109 ?_
      refine lv_iconst (v := (nI 1)) hx hb dX6_beside_112 (by decide) ?_
      refine lv_isub hx hb dX6_beside_113 ?_
      refine k_toi (y := nI (C - 1)) (pk_sub (by omega)) ?_
      refine k_calli (wr := [(h0, wMo q R C tn dn ag md em)]) (w2 := (fun _ : Unit => [(h0, wMo q R C tn dn ag md em)])) (va_runS (As := [.int (nI (F % C)), .int (nI 0), .int (nI (C - 1))]) (rest := []) ⟨hx, hb, hml, hown, hts⟩ (c_R_lies l D cI cJ cZ (nI (F % C)) (nI 0) (nI (C - 1)) (((F % C) : Nat) : Int) ((0 : Nat) : Int) (((C - 1) : Nat) : Int) (nI_toInt (by omega)) (nI_toInt (by omega)) (nI_toInt (by omega)) H.size) (va_cwS 3 hts gX6_beside_X6_lies rfl rfl rfl (by decide +kernel) ⟨Nat.le_of_ble_eq_true rfl, Nat.le_of_ble_eq_true rfl⟩) (kPS (wc := []) hK2 hP hD [] rfl (by decide)) rfl rfl hl.1 rfl (lv_room (Nat.le_of_ble_eq_true rfl)) dX6_beside_114 ⟨Nat.le_of_ble_eq_true rfl, Nat.le_of_ble_eq_true rfl⟩) hP hD hS hA [] [0] [0] rfl rfl (by decide) (by decide) (fun _ => rfl) (by decide) (fun r_21 u_21 H locs hw_21 hP hD hS => ?_)
      have hP : va_P D vwCl [(h0, wMo q R C tn dn ag md em)] H := hP
      have hD : va_D A [(h0, wMo q R C tn dn ag md em)] := hD
      rcases hw_21 with ⟨rfl, hw_21⟩ | ⟨rfl, hw_21⟩
      · skip
        refine lv_if_eq (tgt := 132) hx hb dX6_beside_117 (by decide) (fun c_117_22 => absurd c_117_22 (by decide)) (fun c_117_22 => ?_)
        refine lv_aload_n hx hb dX6_beside_120 rfl (lv_at hl 2 rfl) ?_
        refine va_get (D := D) (ci := 6) (v := .int (nI C)) (C := RX6) (T := TX6) (N := 17) hx hb hts kiX6_beside_X6 hown hK hP 0 rfl rfl 1 (by decide) (hts (.fieldLink RX6 13 "TwoBanksModel" "columns" "I") (List.mem_of_getElem? (i := 1) rfl)) (fun _ h9 => h9) rfl dX6_beside_121 ?_
        refine lv_iload_n hx hb dX6_beside_124 rfl (lv_at hl 0 rfl) ?_
        refine lv_imul hx hb dX6_beside_125 ?_
        refine k_toi (y := nI (C * ((F / C) + 1))) (pk_mul _ _) ?_
        refine lv_iload hx hb dX6_beside_126 (lv_at hl 1 rfl) ?_
        refine lv_iadd hx hb dX6_beside_128 ?_
        refine k_toi (y := nI ((C * ((F / C) + 1)) + (F % C))) (nI_add _ _) ?_
        refine lv_goto (tgt := 133) hx hb dX6_beside_129 (by decide) ?_
        exact W.iret (v := (nI ((C * ((F / C) + 1)) + (F % C)))) hx hb hr (fun t ht hW => ⟨⟨(nI ((C * ((F / C) + 1)) + (F % C))), (), rfl, (mb3s (by omega)), by rw [ht]; exact hP, hD⟩, hS.F ht⟩) hS.2.2 dX6_beside_133
      · skip
        refine lv_if_eq (tgt := 132) hx hb dX6_beside_117 (by decide) (fun c_117_23 => ?_) (fun c_117_23 => absurd c_117_23 (by decide))
        refine lv_iconst (v := (-1)) hx hb dX6_beside_132 (by decide) ?_
        exact W.iret (v := (-1)) hx hb hr (fun t ht hW => ⟨⟨(-1), (), rfl, (mb3n (by omega)), by rw [ht]; exact hP, hD⟩, hS.F ht⟩) hS.2.2 dX6_beside_133
    · skip
      refine lv_if_eq (tgt := 132) hx hb dX6_beside_102 (by decide) (fun c_102_24 => ?_) (fun c_102_24 => absurd c_102_24 (by decide))
      refine lv_iconst (v := (-1)) hx hb dX6_beside_132 (by decide) ?_
      exact W.iret (v := (-1)) hx hb hr (fun t ht hW => ⟨⟨(-1), (), rfl, (mb3n (by omega)), by rw [ht]; exact hP, hD⟩, hS.F ht⟩) hS.2.2 dX6_beside_133
  · refine lv_tableIn (off := 60) (tgt := 76) hx hb dX6_beside_16 (by decide) (by decide) rfl (by decide) ?_
    refine lv_iinc (v := (kPr (F / C))) (lv' := [(3, .int (kPr (F / C))), (4, .int (nI (F % C))), (0, .ref h0), (1, .int (nI F)), (2, .int (nI 4))]) hx hb dX6_beside_76 hl (k := 1) rfl (k_dec _) (by decide) rfl (fun ls hl => ?_)
    refine lv_iinc (v := (nI ((F % C) + 1))) (lv' := [(4, .int (nI ((F % C) + 1))), (3, .int (kPr (F / C))), (0, .ref h0), (1, .int (nI F)), (2, .int (nI 4))]) hx hb dX6_beside_79 hl (k := 1) rfl (k_inc _ 1) (by decide) rfl (fun ls hl => ?_)
    refine lv_goto (tgt := 91) hx hb dX6_beside_82 (by decide) ?_
    refine lv_iload_n hx hb dX6_beside_91 rfl (lv_at hl 1 rfl) ?_
    refine lv_iconst (v := (nI 0)) hx hb dX6_beside_92 (by decide) ?_
    refine lv_aload_n hx hb dX6_beside_93 rfl (lv_at hl 2 rfl) ?_
    refine va_get (D := D) (ci := 6) (v := .int (nI R)) (C := RX6) (T := TX6) (N := 17) hx hb hts kiX6_beside_X6 hown hK hP 0 rfl rfl 0 (by decide) (hts (.fieldLink RX6 7 "TwoBanksModel" "rows" "I") (List.mem_of_getElem? (i := 2) rfl)) (fun _ h9 => h9) rfl dX6_beside_94 ?_
    refine lv_iconst (v := (nI 1)) hx hb dX6_beside_97 (by decide) ?_
    refine lv_isub hx hb dX6_beside_98 ?_
    refine k_toi (y := nI (R - 1)) (pk_sub (by omega)) ?_
    refine k_calli (wr := [(h0, wMo q R C tn dn ag md em)]) (w2 := (fun _ : Unit => [(h0, wMo q R C tn dn ag md em)])) (va_runS (As := [.int (kPr (F / C)), .int (nI 0), .int (nI (R - 1))]) (rest := []) ⟨hx, hb, hml, hown, hts⟩ (c_R_lies l D cI cJ cZ (kPr (F / C)) (nI 0) (nI (R - 1)) ((((F / C) : Nat) : Int) - 1) ((0 : Nat) : Int) (((R - 1) : Nat) : Int) (kPr_toInt (by omega)) (nI_toInt (by omega)) (nI_toInt (by omega)) s.heap.size) (va_cwS 3 hts gX6_beside_X6_lies rfl rfl rfl (by decide +kernel) ⟨Nat.le_of_ble_eq_true rfl, Nat.le_of_ble_eq_true rfl⟩) (kPS (wc := []) hK2 hP hD [] rfl (by decide)) rfl rfl hl.1 rfl (lv_room (Nat.le_of_ble_eq_true rfl)) dX6_beside_99 ⟨Nat.le_of_ble_eq_true rfl, Nat.le_of_ble_eq_true rfl⟩) hP hD hS hA [] [0] [0] rfl rfl (by decide) (by decide) (fun _ => rfl) (by decide) (fun r_25 u_25 H locs hw_25 hP hD hS => ?_)
    have hP : va_P D vwCl [(h0, wMo q R C tn dn ag md em)] H := hP
    have hD : va_D A [(h0, wMo q R C tn dn ag md em)] := hD
    rcases hw_25 with ⟨rfl, hw_25⟩ | ⟨rfl, hw_25⟩
    · have hp3 : 0 < (F / C) := by omega
      have hl : lv_has ls 5 [(4, .int (nI ((F % C) + 1))), (3, .int (nI ((F / C) - 1))), (0, .ref h0), (1, .int (nI F)), (2, .int (nI 4))] := by rw [← kPr_pos hp3]; exact hl
      refine lv_if_eq (tgt := 132) hx hb dX6_beside_102 (by decide) (fun c_102_26 => absurd c_102_26 (by decide)) (fun c_102_26 => ?_)
      refine lv_iload hx hb dX6_beside_105 (lv_at hl 0 rfl) ?_
      refine lv_iconst (v := (nI 0)) hx hb dX6_beside_107 (by decide) ?_
      refine lv_aload_n hx hb dX6_beside_108 rfl (lv_at hl 2 rfl) ?_
      refine va_get (D := D) (ci := 6) (v := .int (nI C)) (C := RX6) (T := TX6) (N := 17) hx hb hts kiX6_beside_X6 hown hK hP 0 rfl rfl 1 (by decide) (hts (.fieldLink RX6 13 "TwoBanksModel" "columns" "I") (List.mem_of_getElem? (i := 1) rfl)) (fun _ h9 => h9) rfl dX6_beside_109 ?_
      refine lv_iconst (v := (nI 1)) hx hb dX6_beside_112 (by decide) ?_
      refine lv_isub hx hb dX6_beside_113 ?_
      refine k_toi (y := nI (C - 1)) (pk_sub (by omega)) ?_
      refine k_calli (wr := [(h0, wMo q R C tn dn ag md em)]) (w2 := (fun _ : Unit => [(h0, wMo q R C tn dn ag md em)])) (va_runS (As := [.int (nI ((F % C) + 1)), .int (nI 0), .int (nI (C - 1))]) (rest := []) ⟨hx, hb, hml, hown, hts⟩ (c_R_lies l D cI cJ cZ (nI ((F % C) + 1)) (nI 0) (nI (C - 1)) ((((F % C) + 1) : Nat) : Int) ((0 : Nat) : Int) (((C - 1) : Nat) : Int) (nI_toInt (by omega)) (nI_toInt (by omega)) (nI_toInt (by omega)) H.size) (va_cwS 3 hts gX6_beside_X6_lies rfl rfl rfl (by decide +kernel) ⟨Nat.le_of_ble_eq_true rfl, Nat.le_of_ble_eq_true rfl⟩) (kPS (wc := []) hK2 hP hD [] rfl (by decide)) rfl rfl hl.1 rfl (lv_room (Nat.le_of_ble_eq_true rfl)) dX6_beside_114 ⟨Nat.le_of_ble_eq_true rfl, Nat.le_of_ble_eq_true rfl⟩) hP hD hS hA [] [0] [0] rfl rfl (by decide) (by decide) (fun _ => rfl) (by decide) (fun r_27 u_27 H locs hw_27 hP hD hS => ?_)
      have hP : va_P D vwCl [(h0, wMo q R C tn dn ag md em)] H := hP
      have hD : va_D A [(h0, wMo q R C tn dn ag md em)] := hD
      rcases hw_27 with ⟨rfl, hw_27⟩ | ⟨rfl, hw_27⟩
      · skip
        refine lv_if_eq (tgt := 132) hx hb dX6_beside_117 (by decide) (fun c_117_28 => absurd c_117_28 (by decide)) (fun c_117_28 => ?_)
        refine lv_aload_n hx hb dX6_beside_120 rfl (lv_at hl 2 rfl) ?_
        refine va_get (D := D) (ci := 6) (v := .int (nI C)) (C := RX6) (T := TX6) (N := 17) hx hb hts kiX6_beside_X6 hown hK hP 0 rfl rfl 1 (by decide) (hts (.fieldLink RX6 13 "TwoBanksModel" "columns" "I") (List.mem_of_getElem? (i := 1) rfl)) (fun _ h9 => h9) rfl dX6_beside_121 ?_
        refine lv_iload_n hx hb dX6_beside_124 rfl (lv_at hl 1 rfl) ?_
        refine lv_imul hx hb dX6_beside_125 ?_
        refine k_toi (y := nI (C * ((F / C) - 1))) (pk_mul _ _) ?_
        refine lv_iload hx hb dX6_beside_126 (lv_at hl 0 rfl) ?_
        refine lv_iadd hx hb dX6_beside_128 ?_
        refine k_toi (y := nI ((C * ((F / C) - 1)) + ((F % C) + 1))) (nI_add _ _) ?_
        refine lv_goto (tgt := 133) hx hb dX6_beside_129 (by decide) ?_
        exact W.iret (v := (nI ((C * ((F / C) - 1)) + ((F % C) + 1)))) hx hb hr (fun t ht hW => ⟨⟨(nI ((C * ((F / C) - 1)) + ((F % C) + 1))), (), rfl, (mb4s (by omega)), by rw [ht]; exact hP, hD⟩, hS.F ht⟩) hS.2.2 dX6_beside_133
      · skip
        refine lv_if_eq (tgt := 132) hx hb dX6_beside_117 (by decide) (fun c_117_29 => ?_) (fun c_117_29 => absurd c_117_29 (by decide))
        refine lv_iconst (v := (-1)) hx hb dX6_beside_132 (by decide) ?_
        exact W.iret (v := (-1)) hx hb hr (fun t ht hW => ⟨⟨(-1), (), rfl, (mb4n (by omega)), by rw [ht]; exact hP, hD⟩, hS.F ht⟩) hS.2.2 dX6_beside_133
    · skip
      refine lv_if_eq (tgt := 132) hx hb dX6_beside_102 (by decide) (fun c_102_30 => ?_) (fun c_102_30 => absurd c_102_30 (by decide))
      refine lv_iconst (v := (-1)) hx hb dX6_beside_132 (by decide) ?_
      exact W.iret (v := (-1)) hx hb hr (fun t ht hW => ⟨⟨(-1), (), rfl, (mb4n (by omega)), by rw [ht]; exact hP, hD⟩, hS.F ht⟩) hS.2.2 dX6_beside_133
  · refine lv_tableOut (tgt := 85) hx hb dX6_beside_16 (Or.inr (by decide)) (by decide) ?_
    refine lv_iinc (v := (nI ((F / C) + 1))) (lv' := [(3, .int (nI ((F / C) + 1))), (4, .int (nI (F % C))), (0, .ref h0), (1, .int (nI F)), (2, .int (nI 5))]) hx hb dX6_beside_85 hl (k := 1) rfl (k_inc _ 1) (by decide) rfl (fun ls hl => ?_)
    refine lv_iinc (v := (kPr (F % C))) (lv' := [(4, .int (kPr (F % C))), (3, .int (nI ((F / C) + 1))), (0, .ref h0), (1, .int (nI F)), (2, .int (nI 5))]) hx hb dX6_beside_88 hl (k := 1) rfl (k_dec _) (by decide) rfl (fun ls hl => ?_)
    refine lv_iload_n hx hb dX6_beside_91 rfl (lv_at hl 1 rfl) ?_
    refine lv_iconst (v := (nI 0)) hx hb dX6_beside_92 (by decide) ?_
    refine lv_aload_n hx hb dX6_beside_93 rfl (lv_at hl 2 rfl) ?_
    refine va_get (D := D) (ci := 6) (v := .int (nI R)) (C := RX6) (T := TX6) (N := 17) hx hb hts kiX6_beside_X6 hown hK hP 0 rfl rfl 0 (by decide) (hts (.fieldLink RX6 7 "TwoBanksModel" "rows" "I") (List.mem_of_getElem? (i := 2) rfl)) (fun _ h9 => h9) rfl dX6_beside_94 ?_
    refine lv_iconst (v := (nI 1)) hx hb dX6_beside_97 (by decide) ?_
    refine lv_isub hx hb dX6_beside_98 ?_
    refine k_toi (y := nI (R - 1)) (pk_sub (by omega)) ?_
    refine k_calli (wr := [(h0, wMo q R C tn dn ag md em)]) (w2 := (fun _ : Unit => [(h0, wMo q R C tn dn ag md em)])) (va_runS (As := [.int (nI ((F / C) + 1)), .int (nI 0), .int (nI (R - 1))]) (rest := []) ⟨hx, hb, hml, hown, hts⟩ (c_R_lies l D cI cJ cZ (nI ((F / C) + 1)) (nI 0) (nI (R - 1)) ((((F / C) + 1) : Nat) : Int) ((0 : Nat) : Int) (((R - 1) : Nat) : Int) (nI_toInt (by omega)) (nI_toInt (by omega)) (nI_toInt (by omega)) s.heap.size) (va_cwS 3 hts gX6_beside_X6_lies rfl rfl rfl (by decide +kernel) ⟨Nat.le_of_ble_eq_true rfl, Nat.le_of_ble_eq_true rfl⟩) (kPS (wc := []) hK2 hP hD [] rfl (by decide)) rfl rfl hl.1 rfl (lv_room (Nat.le_of_ble_eq_true rfl)) dX6_beside_99 ⟨Nat.le_of_ble_eq_true rfl, Nat.le_of_ble_eq_true rfl⟩) hP hD hS hA [] [0] [0] rfl rfl (by decide) (by decide) (fun _ => rfl) (by decide) (fun r_31 u_31 H locs hw_31 hP hD hS => ?_)
    have hP : va_P D vwCl [(h0, wMo q R C tn dn ag md em)] H := hP
    have hD : va_D A [(h0, wMo q R C tn dn ag md em)] := hD
    rcases hw_31 with ⟨rfl, hw_31⟩ | ⟨rfl, hw_31⟩
    · skip
      refine lv_if_eq (tgt := 132) hx hb dX6_beside_102 (by decide) (fun c_102_32 => absurd c_102_32 (by decide)) (fun c_102_32 => ?_)
      refine lv_iload hx hb dX6_beside_105 (lv_at hl 0 rfl) ?_
      refine lv_iconst (v := (nI 0)) hx hb dX6_beside_107 (by decide) ?_
      refine lv_aload_n hx hb dX6_beside_108 rfl (lv_at hl 2 rfl) ?_
      refine va_get (D := D) (ci := 6) (v := .int (nI C)) (C := RX6) (T := TX6) (N := 17) hx hb hts kiX6_beside_X6 hown hK hP 0 rfl rfl 1 (by decide) (hts (.fieldLink RX6 13 "TwoBanksModel" "columns" "I") (List.mem_of_getElem? (i := 1) rfl)) (fun _ h9 => h9) rfl dX6_beside_109 ?_
      refine lv_iconst (v := (nI 1)) hx hb dX6_beside_112 (by decide) ?_
      refine lv_isub hx hb dX6_beside_113 ?_
      refine k_toi (y := nI (C - 1)) (pk_sub (by omega)) ?_
      refine k_calli (wr := [(h0, wMo q R C tn dn ag md em)]) (w2 := (fun _ : Unit => [(h0, wMo q R C tn dn ag md em)])) (va_runS (As := [.int (kPr (F % C)), .int (nI 0), .int (nI (C - 1))]) (rest := []) ⟨hx, hb, hml, hown, hts⟩ (c_R_lies l D cI cJ cZ (kPr (F % C)) (nI 0) (nI (C - 1)) ((((F % C) : Nat) : Int) - 1) ((0 : Nat) : Int) (((C - 1) : Nat) : Int) (kPr_toInt (by omega)) (nI_toInt (by omega)) (nI_toInt (by omega)) H.size) (va_cwS 3 hts gX6_beside_X6_lies rfl rfl rfl (by decide +kernel) ⟨Nat.le_of_ble_eq_true rfl, Nat.le_of_ble_eq_true rfl⟩) (kPS (wc := []) hK2 hP hD [] rfl (by decide)) rfl rfl hl.1 rfl (lv_room (Nat.le_of_ble_eq_true rfl)) dX6_beside_114 ⟨Nat.le_of_ble_eq_true rfl, Nat.le_of_ble_eq_true rfl⟩) hP hD hS hA [] [0] [0] rfl rfl (by decide) (by decide) (fun _ => rfl) (by decide) (fun r_33 u_33 H locs hw_33 hP hD hS => ?_)
      have hP : va_P D vwCl [(h0, wMo q R C tn dn ag md em)] H := hP
      have hD : va_D A [(h0, wMo q R C tn dn ag md em)] := hD
      rcases hw_33 with ⟨rfl, hw_33⟩ | ⟨rfl, hw_33⟩
      · have hp4 : 0 < (F % C) := by omega
        have hl : lv_has ls 5 [(4, .int (nI ((F % C) - 1))), (3, .int (nI ((F / C) + 1))), (0, .ref h0), (1, .int (nI F)), (2, .int (nI 5))] := by rw [← kPr_pos hp4]; exact hl
        refine lv_if_eq (tgt := 132) hx hb dX6_beside_117 (by decide) (fun c_117_34 => absurd c_117_34 (by decide)) (fun c_117_34 => ?_)
        refine lv_aload_n hx hb dX6_beside_120 rfl (lv_at hl 2 rfl) ?_
        refine va_get (D := D) (ci := 6) (v := .int (nI C)) (C := RX6) (T := TX6) (N := 17) hx hb hts kiX6_beside_X6 hown hK hP 0 rfl rfl 1 (by decide) (hts (.fieldLink RX6 13 "TwoBanksModel" "columns" "I") (List.mem_of_getElem? (i := 1) rfl)) (fun _ h9 => h9) rfl dX6_beside_121 ?_
        refine lv_iload_n hx hb dX6_beside_124 rfl (lv_at hl 1 rfl) ?_
        refine lv_imul hx hb dX6_beside_125 ?_
        refine k_toi (y := nI (C * ((F / C) + 1))) (pk_mul _ _) ?_
        refine lv_iload hx hb dX6_beside_126 (lv_at hl 0 rfl) ?_
        refine lv_iadd hx hb dX6_beside_128 ?_
        refine k_toi (y := nI ((C * ((F / C) + 1)) + ((F % C) - 1))) (nI_add _ _) ?_
        refine lv_goto (tgt := 133) hx hb dX6_beside_129 (by decide) ?_
        exact W.iret (v := (nI ((C * ((F / C) + 1)) + ((F % C) - 1)))) hx hb hr (fun t ht hW => ⟨⟨(nI ((C * ((F / C) + 1)) + ((F % C) - 1))), (), rfl, (mb5s (by omega)), by rw [ht]; exact hP, hD⟩, hS.F ht⟩) hS.2.2 dX6_beside_133
      · skip
        refine lv_if_eq (tgt := 132) hx hb dX6_beside_117 (by decide) (fun c_117_35 => ?_) (fun c_117_35 => absurd c_117_35 (by decide))
        refine lv_iconst (v := (-1)) hx hb dX6_beside_132 (by decide) ?_
        exact W.iret (v := (-1)) hx hb hr (fun t ht hW => ⟨⟨(-1), (), rfl, (mb5n (by omega)), by rw [ht]; exact hP, hD⟩, hS.F ht⟩) hS.2.2 dX6_beside_133
    · skip
      refine lv_if_eq (tgt := 132) hx hb dX6_beside_102 (by decide) (fun c_102_36 => ?_) (fun c_102_36 => absurd c_102_36 (by decide))
      refine lv_iconst (v := (-1)) hx hb dX6_beside_132 (by decide) ?_
      exact W.iret (v := (-1)) hx hb hr (fun t ht hW => ⟨⟨(-1), (), rfl, (mb5n (by omega)), by rw [ht]; exact hP, hD⟩, hS.F ht⟩) hS.2.2 dX6_beside_133

theorem kiX6_reachesNone_X6 : ∀ w ∈ u_ws RX6 TX6 17, w ∈ wsX6_reachesNone := fun w h => List.mem_cons_of_mem _ (List.mem_append_right _ h)
set_option maxHeartbeats 4000000 in
set_option maxRecDepth 100000 in
theorem c_R_none (l : Launch) (D : va_G) (cI cJ cZ : ClassId) (h0 : Nat) (q : Nat → Nat) (R C tn dn ag md em : Nat) (z : Nat → Bool) (sz : Nat) : kMV l yX6_reachesNone wsX6_reachesNone 0 0 D cI cJ cZ [.ref h0] [(h0, wMo q R C tn dn ag md em), ((q 2), .inl (cZ, 36, .inl (bA z)))] sz (fun (zz : Nat → Bool) => ∀ i, i < 36 → zz i = false) (fun za : Nat → Bool => [(h0, wMo q R C tn dn ag md em), ((q 2), .inl (cZ, 36, .inl (bA za)))]) := by
  refine Met.ofW (cc := cX6_reachesNone) (maxL := 2) (ret := none) (by decide) rfl ?_
  intro p e s m args below meth c s₁ B hml hv
  obtain ⟨rfl, hsz, hP, ⟨hK, hN⟩, hD0⟩ := hv
  have hx := B.exec
  have hb := B.bytes
  have hr := B.returns
  have hts := atoms_spec (ws := wsX6_reachesNone) B.pre
  have hown : s.vm.findClass RX6 = some m.cls := findClass_of_methodNamed B.named
  have hlocks := B.notSynchronized
  subst hsz
  have hD := hD0.self (sz := s.heap.size)
  generalize hAe : va_A [(h0, wMo q R C tn dn ag md em), ((q 2), .inl (cZ, 36, .inl (bA z)))] s.heap.size = A at hD ⊢
  have hA : ∀ q : Nat, s.heap.size ≤ q → A q := fun q h => by rw [← hAe]; exact Or.inr h
  have hS : va_S A s.heap s.heap [] := va_S.rf
  have hl := lv_entry ([.ref h0]) (n := 2) (Nat.le_of_ble_eq_true rfl)
  rw [lg_entry_eq]
  generalize (lg_sl ([.ref h0]) ++ List.replicate (2 - (lg_sl ([.ref h0])).length) Slot.unset).toArray = ls at hl ⊢
  have hl : lv_has ls 2 [(0, .ref h0)] := hl
  have hK2 : kK D cI cJ cZ s := ⟨hK, hN⟩
  clear hD0
  refine lv_iconst (v := (nI 0)) hx hb dX6_reachesNone_0 (by decide) ?_
  refine lv_istore_n (lv' := [(1, .int (nI 0)), (0, .ref h0)]) hx hb dX6_reachesNone_1 rfl hl (by decide) rfl (fun ls hl => ?_)
  refine kw_loop (σ := Nat × (Nat → Bool)) (fun zz H locs ls => match zz with | (f, za) => va_P D vwCl [(h0, wMo q R C tn dn ag md em), ((q 2), .inl (cZ, 36, .inl (bA za)))] H ∧ va_D A [(h0, wMo q R C tn dn ag md em), ((q 2), .inl (cZ, 36, .inl (bA za)))] ∧ va_S A s.heap H locs ∧ lv_has ls 2 [(0, .ref h0), (1, .int (nI f))] ∧ (f ≤ 36) ∧ (∀ i, i < f → za i = false)) (fun zz => match zz with | (f, za) => 36 - f) (0, z) ⟨hP, hD, hS, lv_sub hl [1, 0] rfl, Nat.zero_le _, fun i hi => absurd hi (Nat.not_lt_zero i)⟩ ?_
  clear hP hD hS hl
  rintro ⟨f, za⟩ H locs ls ⟨hP, hD, hS, hl, hf9, hz9⟩ ih_2
  have hP : va_P D vwCl [(h0, wMo q R C tn dn ag md em), ((q 2), .inl (cZ, 36, .inl (bA za)))] H := hP
  have hD : va_D A [(h0, wMo q R C tn dn ag md em), ((q 2), .inl (cZ, 36, .inl (bA za)))] := hD
  have hl : lv_has ls 2 [(0, .ref h0), (1, .int (nI f))] := hl
  have hf9 : f ≤ 36 := hf9
  have hz9 : ∀ i, i < f → za i = false := hz9
  refine lv_iload_n hx hb dX6_reachesNone_2 rfl (lv_at hl 1 rfl) ?_
  refine lv_bipush (v := (nI 36)) hx hb dX6_reachesNone_3 (by decide) ?_
  refine kw_icmp_ge (tgt := 21) hx hb dX6_reachesNone_5 (by decide) (by omega) (by omega) (fun c_5_1 => ?_) (fun c_5_1 => ?_)
  · exact W.vret hx hb hr (fun t ht hW => ⟨⟨za, rfl, fun i hi => hz9 i (by omega), by rw [ht]; exact hP, hD⟩, hS.F ht⟩) hS.2.2 dX6_reachesNone_21
  · refine lv_aload_n hx hb dX6_reachesNone_8 rfl (lv_at hl 0 rfl) ?_
    refine va_get (D := D) (ci := 6) (v := .ref (q 2)) (C := RX6) (T := TX6) (N := 17) hx hb hts kiX6_reachesNone_X6 hown hK hP 0 rfl rfl 8 (by decide) (hts (.fieldLink RX6 30 "TwoBanksModel" "isReached" "[Z") (List.mem_of_getElem? (i := 1) rfl)) (fun _ h9 => h9) rfl dX6_reachesNone_9 ?_
    refine lv_iload_n hx hb dX6_reachesNone_12 rfl (lv_at hl 1 rfl) ?_
    refine lv_iconst (v := (nI 0)) hx hb dX6_reachesNone_13 (by decide) ?_
    refine va_zast hx hb hK hP hD hS 1 2 rfl rfl (vp_in_nI (by omega) (by omega)) dX6_reachesNone_14 (fun H locs hP hD hS => ?_)
    rw [nI_clamp (by omega)] at hP hD
    rw [kz_nar (by first | decide | assumption | omega)] at hP hD
    rw [bA_upd0] at hP hD
    have hP : va_P D vwCl [(h0, wMo q R C tn dn ag md em), ((q 2), .inl (cZ, 36, .inl (bA (uB za f false))))] H := hP
    have hD : va_D A [(h0, wMo q R C tn dn ag md em), ((q 2), .inl (cZ, 36, .inl (bA (uB za f false))))] := hD
    refine lv_iinc (v := (nI (f + 1))) (lv' := [(1, .int (nI (f + 1))), (0, .ref h0)]) hx hb dX6_reachesNone_15 hl (k := 1) rfl (k_inc _ 1) (by decide) rfl (fun ls hl => ?_)
    refine lv_goto (tgt := 2) hx hb dX6_reachesNone_18 (by decide) ?_
    exact ih_2 ((f + 1), (uB za f false)) _ _ _ (by show 36 - (f + 1) < 36 - f; omega) ⟨hP, hD, hS, lv_sub hl [1, 0] rfl, by omega, uB_put hz9⟩
