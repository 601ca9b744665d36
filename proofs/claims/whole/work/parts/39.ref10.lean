theorem mFill_off {b ey : Nat → Nat} {cd x : Nat} : ∀ {n : Nat}, (∀ k, k < n → ey k ≠ x) → mFill b ey cd n x = b x
  | 0, _ => rfl
  | n + 1, h => by
    show uN (mFill b ey cd n) (ey n) (dg cd n) x = b x
    rw [uN_n (fun e => h n (Nat.lt_succ_self _) e.symm)]
    exact mFill_off (fun k hk => h k (by omega))
theorem mFill_at {b ey : Nat → Nat} {cd k : Nat} : ∀ {n : Nat}, (∀ i j, i < n → j < n → ey i = ey j → i = j) → k < n → mFill b ey cd n (ey k) = dg cd k
  | 0, _, h => absurd h (Nat.not_lt_zero _)
  | n + 1, hi, h => by
    show uN (mFill b ey cd n) (ey n) (dg cd n) (ey k) = dg cd k
    by_cases e : k = n
    · rw [e, uN_s]
    · rw [uN_n (fun e2 => e (hi k n (by omega) (by omega) e2))]
      exact mFill_at (fun i j h1 h2 => hi i j (by omega) (by omega)) (by omega)
theorem mFill_over {b ey : Nat → Nat} {c1 c2 n : Nat} (hi : ∀ i j, i < n → j < n → ey i = ey j → i = j) : mFill (mFill b ey c1 n) ey c2 n = mFill b ey c2 n := by
  funext x
  by_cases h : ∃ k, k < n ∧ ey k = x
  · obtain ⟨k, hk, rfl⟩ := h
    rw [mFill_at hi hk, mFill_at hi hk]
  · have h2 : ∀ k, k < n → ey k ≠ x := fun k hk e => h ⟨k, hk, e⟩
    rw [mFill_off h2, mFill_off h2, mFill_off h2]
theorem mFill_0 {b ey : Nat → Nat} {n : Nat} (hi : ∀ i j, i < n → j < n → ey i = ey j → i = j) (h0 : ∀ k, k < n → b (ey k) = 0) : mFill b ey 0 n = b := by
  funext x
  by_cases h : ∃ k, k < n ∧ ey k = x
  · obtain ⟨k, hk, rfl⟩ := h
    rw [mFill_at hi hk, dg_0, h0 k hk]
  · exact mFill_off (fun k hk e => h ⟨k, hk, e⟩)
theorem mFill_bv {R C : Nat} {b ey : Nat → Nat} {cd : Nat} (hb : ∀ f, f < R * C → b f ≤ 2) : ∀ n, ∀ f, f < R * C → mFill b ey cd n f ≤ 2
  | 0 => hb
  | n + 1 => fun f hf => hbv_up (mFill_bv hb n) (by have := dg_lt cd n; omega) f hf
/-- whether NORTH has joined, by the bits of a filling -/
noncomputable def nJ (R C : Nat) (b ey : Nat → Nat) (em bits : Nat) : Bool := @decide (mJ R C (mFill b ey (cdOf bits em) em) 1) (Classical.propDecidable _)
theorem nJ_t {R C : Nat} {b ey : Nat → Nat} {em bits : Nat} (h : mJ R C (mFill b ey (cdOf bits em) em) 1) : nJ R C b ey em bits = true := by unfold nJ; exact @decide_eq_true _ (Classical.propDecidable _) h
theorem nJ_f {R C : Nat} {b ey : Nat → Nat} {em bits : Nat} (h : ¬ mJ R C (mFill b ey (cdOf bits em) em) 1) : nJ R C b ey em bits = false := by unfold nJ; exact @decide_eq_false _ (Classical.propDecidable _) h
theorem uB_pt {k : Nat} {v : Bool} {g F : Nat → Bool} (h : ∀ i, i < k → g i = F i) (hv : F k = v) : ∀ i, i < k + 1 → uB g k v i = F i := fun i hi => by
  by_cases e : i = k
  · rw [e, uB_s, hv]
  · rw [uB_n e]; exact h i (by omega)
theorem kiX6_fillings0_X6 : ∀ w ∈ u_ws RX6 TX6 17, w ∈ wsX6_fillings0 := fun w h => List.mem_cons_of_mem _ (List.mem_append_right _ h)
set_option maxHeartbeats 4000000 in
set_option maxRecDepth 100000 in
theorem c_R_fillings0 (l : Launch) (D : va_G) (cI cJ cZ : ClassId) (h0 : Nat) (q : Nat → Nat) (R C tn dn ag md em : Nat) (b ey pw : Nat → Nat) (z no : Nat → Bool) (hR1 : 1 ≤ R) (hR2 : R ≤ 6) (hC1 : 1 ≤ C) (hC2 : C ≤ 6) (hRC : R * C ≤ 36) (hbv : ∀ f, f < R * C → b f ≤ 2) (hey : ∀ k, k < em → ey k < R * C) (hpw : ∀ i, i < 11 → pw i = 3 ^ i) (qem : em ≤ 10) (hin : ∀ i j, i < em → j < em → ey i = ey j → i = j) (hb0 : ∀ k, k < em → b (ey k) = 0) (sz : Nat) : kMV l yX6_fillings0 wsX6_fillings0 4 93 D cI cJ cZ [.ref h0] [(h0, wMo q R C tn dn ag md em), ((q 0), .inl (cI, 36, .inl (nA b))), ((q 2), .inl (cZ, 36, .inl (bA z))), ((q 5), .inl (cI, 10, .inl (nA ey))), ((q 6), .inl (cI, 11, .inl (nA pw))), ((q 9), .inl (cZ, 1024, .inl (bA no)))] sz (fun (u : (Nat → Bool) × (Nat → Bool)) => ∀ i, i < 2 ^ em → u.2 i = nJ R C b ey em i) (fun u : (Nat → Bool) × (Nat → Bool) => match u with | (za, noa) => [(h0, wMo q R C tn dn ag md em), ((q 0), .inl (cI, 36, .inl (nA b))), ((q 2), .inl (cZ, 36, .inl (bA za))), ((q 5), .inl (cI, 10, .inl (nA ey))), ((q 6), .inl (cI, 11, .inl (nA pw))), ((q 9), .inl (cZ, 1024, .inl (bA noa)))]) := by
  refine Met.ofW (cc := cX6_fillings0) (maxL := 2) (ret := none) (by decide) rfl ?_
  intro p e s m args below meth c s₁ B hml hv
  obtain ⟨rfl, hsz, hP, ⟨hK, hN⟩, hD0⟩ := hv
  have hx := B.exec
  have hb := B.bytes
  have hr := B.returns
  have hts := atoms_spec (ws := wsX6_fillings0) B.pre
  have hown : s.vm.findClass RX6 = some m.cls := findClass_of_methodNamed B.named
  have hlocks := B.notSynchronized
  subst hsz
  have hD := hD0.self (sz := s.heap.size)
  generalize hAe : va_A [(h0, wMo q R C tn dn ag md em), ((q 0), .inl (cI, 36, .inl (nA b))), ((q 2), .inl (cZ, 36, .inl (bA z))), ((q 5), .inl (cI, 10, .inl (nA ey))), ((q 6), .inl (cI, 11, .inl (nA pw))), ((q 9), .inl (cZ, 1024, .inl (bA no)))] s.heap.size = A at hD ⊢
  have hA : ∀ q : Nat, s.heap.size ≤ q → A q := fun q h => by rw [← hAe]; exact Or.inr h
  have hS : va_S A s.heap s.heap [] := va_S.rf
  have hl := lv_entry ([.ref h0]) (n := 2) (Nat.le_of_ble_eq_true rfl)
  rw [lg_entry_eq]
  generalize (lg_sl ([.ref h0]) ++ List.replicate (2 - (lg_sl ([.ref h0])).length) Slot.unset).toArray = ls at hl ⊢
  have hl : lv_has ls 2 [(0, .ref h0)] := hl
  have hK2 : kK D cI cJ cZ s := ⟨hK, hN⟩
  clear hD0
  have h2n := p2_le qem
  refine lv_iconst (v := (nI 0)) hx hb dX6_fillings0_0 (by decide) ?_
  refine lv_istore_n (lv' := [(1, .int (nI 0)), (0, .ref h0)]) hx hb dX6_fillings0_1 rfl hl (by decide) rfl (fun ls hl => ?_)
  refine kw_loop (σ := Nat × (Nat → Nat) × (Nat → Bool) × (Nat → Bool)) (fun zz H locs ls => match zz with | (i9, bx, zs, nx) => va_P D vwCl [(h0, wMo q R C tn dn ag md em), ((q 0), .inl (cI, 36, .inl (nA bx))), ((q 2), .inl (cZ, 36, .inl (bA zs))), ((q 5), .inl (cI, 10, .inl (nA ey))), ((q 6), .inl (cI, 11, .inl (nA pw))), ((q 9), .inl (cZ, 1024, .inl (bA nx)))] H ∧ va_D A [(h0, wMo q R C tn dn ag md em), ((q 0), .inl (cI, 36, .inl (nA bx))), ((q 2), .inl (cZ, 36, .inl (bA zs))), ((q 5), .inl (cI, 10, .inl (nA ey))), ((q 6), .inl (cI, 11, .inl (nA pw))), ((q 9), .inl (cZ, 1024, .inl (bA nx)))] ∧ va_S A s.heap H locs ∧ lv_has ls 2 [(0, .ref h0), (1, .int (nI i9))] ∧ (i9 ≤ 2 ^ em) ∧ (∀ cd, mFill bx ey cd em = mFill b ey cd em) ∧ (∀ f, f < R * C → bx f ≤ 2) ∧ (∀ i, i < i9 → nx i = nJ R C b ey em i)) (fun zz => match zz with | (i9, bx, zs, nx) => 2 ^ em - i9) (0, b, z, no) ⟨hP, hD, hS, lv_sub hl [1, 0] rfl, Nat.zero_le _, fun _ => rfl, hbv, fun i hi => absurd hi (Nat.not_lt_zero _)⟩ ?_
  clear hP hD hS hl
  rintro ⟨i9, bx, zs, nx⟩ H locs ls ⟨hP, hD, hS, hl, hi9, hx1, hx2, hx3⟩ ih_2
  have hP : va_P D vwCl [(h0, wMo q R C tn dn ag md em), ((q 0), .inl (cI, 36, .inl (nA bx))), ((q 2), .inl (cZ, 36, .inl (bA zs))), ((q 5), .inl (cI, 10, .inl (nA ey))), ((q 6), .inl (cI, 11, .inl (nA pw))), ((q 9), .inl (cZ, 1024, .inl (bA nx)))] H := hP
  have hD : va_D A [(h0, wMo q R C tn dn ag md em), ((q 0), .inl (cI, 36, .inl (nA bx))), ((q 2), .inl (cZ, 36, .inl (bA zs))), ((q 5), .inl (cI, 10, .inl (nA ey))), ((q 6), .inl (cI, 11, .inl (nA pw))), ((q 9), .inl (cZ, 1024, .inl (bA nx)))] := hD
  have hl : lv_has ls 2 [(0, .ref h0), (1, .int (nI i9))] := hl
  have hi9 : i9 ≤ 2 ^ em := hi9
  have hx1 : ∀ cd, mFill bx ey cd em = mFill b ey cd em := hx1
  have hx2 : ∀ f, f < R * C → bx f ≤ 2 := hx2
  have hx3 : ∀ i, i < i9 → nx i = nJ R C b ey em i := hx3
  refine lv_iload_n hx hb dX6_fillings0_2 rfl (lv_at hl 1 rfl) ?_
  refine lv_iconst (v := (nI 1)) hx hb dX6_fillings0_3 (by decide) ?_
  refine lv_aload_n hx hb dX6_fillings0_4 rfl (lv_at hl 0 rfl) ?_
  refine va_get (D := D) (ci := 6) (v := .int (nI em)) (C := RX6) (T := TX6) (N := 17) hx hb hts kiX6_fillings0_X6 hown hK hP 0 rfl rfl 11 (by decide) (hts (.fieldLink RX6 130 "TwoBanksModel" "empties" "I") (List.mem_of_getElem? (i := 1) rfl)) (fun _ h9 => h9) rfl dX6_fillings0_5 ?_
  refine lv_ishl hx hb dX6_fillings0_8 ?_
  refine k_toi (y := nI (2 ^ em)) (kf_shl1 (by omega)) ?_
  refine kw_icmp_ge (tgt := 38) hx hb dX6_fillings0_9 (by decide) (by omega) (by omega) (fun c_9_1 => ?_) (fun c_9_1 => ?_)
  · refine lv_aload_n hx hb dX6_fillings0_38 rfl (lv_at hl 0 rfl) ?_
    refine lv_iconst (v := (nI 0)) hx hb dX6_fillings0_39 (by decide) ?_
    refine k_callv (wr := [((q 2), .inl (cZ, 36, .inl (bA zs))), ((q 9), .inl (cZ, 1024, .inl (bA nx)))]) (w2 := (fun _ : Unit => [(h0, wMo q R C tn dn ag md em), ((q 0), .inl (cI, 36, .inl (nA (mFill bx ey 0 em)))), ((q 2), .inl (cZ, 36, .inl (bA zs))), ((q 5), .inl (cI, 10, .inl (nA ey))), ((q 6), .inl (cI, 11, .inl (nA pw))), ((q 9), .inl (cZ, 1024, .inl (bA nx)))])) (va_runV (As := [.int (nI 0)]) (rest := []) ⟨hx, hb, hml, hown, hts⟩ (c_R_fills l D cI cJ cZ h0 q R C tn dn ag md em bx ey pw 0 hR1 hR2 hC1 hC2 hRC hey hpw qem (by omega)  H.size) (cwV 1 hts gX6_fillings0_X6_fills rfl rfl rfl (by decide +kernel) ⟨Nat.le_of_ble_eq_true rfl, Nat.le_of_ble_eq_true rfl⟩) (kPV (ci := 6) (q0 := 0) (wc := [(h0, wMo q R C tn dn ag md em), ((q 0), .inl (cI, 36, .inl (nA bx))), ((q 5), .inl (cI, 10, .inl (nA ey))), ((q 6), .inl (cI, 11, .inl (nA pw)))]) hK2 hP hD [0, 1, 3, 4] rfl (by decide) rfl rfl) rfl rfl hl.1 rfl (lv_room (Nat.le_of_ble_eq_true rfl)) dX6_fillings0_40 ⟨Nat.le_of_ble_eq_true rfl, Nat.le_of_ble_eq_true rfl⟩) hP hD hS hA [0, 1, 3, 4] [2, 5] [2, 3, 0, 4, 5, 1] rfl rfl (by decide) (by decide) (fun _ => rfl) (by decide) (fun u_2 H locs hw_2 hP hD hS => ?_)
    have hP : va_P D vwCl [(h0, wMo q R C tn dn ag md em), ((q 0), .inl (cI, 36, .inl (nA (mFill bx ey 0 em)))), ((q 2), .inl (cZ, 36, .inl (bA zs))), ((q 5), .inl (cI, 10, .inl (nA ey))), ((q 6), .inl (cI, 11, .inl (nA pw))), ((q 9), .inl (cZ, 1024, .inl (bA nx)))] H := hP
    have hD : va_D A [(h0, wMo q R C tn dn ag md em), ((q 0), .inl (cI, 36, .inl (nA (mFill bx ey 0 em)))), ((q 2), .inl (cZ, 36, .inl (bA zs))), ((q 5), .inl (cI, 10, .inl (nA ey))), ((q 6), .inl (cI, 11, .inl (nA pw))), ((q 9), .inl (cZ, 1024, .inl (bA nx)))] := hD
    have hP : va_P D vwCl [(h0, wMo q R C tn dn ag md em), ((q 0), .inl (cI, 36, .inl (nA b))), ((q 2), .inl (cZ, 36, .inl (bA zs))), ((q 5), .inl (cI, 10, .inl (nA ey))), ((q 6), .inl (cI, 11, .inl (nA pw))), ((q 9), .inl (cZ, 1024, .inl (bA nx)))] H := (by have e9 : mFill bx ey 0 em = b := (hx1 0).trans (mFill_0 hin hb0); rw [e9] at hP; exact hP)
    have hD : va_D A [(h0, wMo q R C tn dn ag md em), ((q 0), .inl (cI, 36, .inl (nA b))), ((q 2), .inl (cZ, 36, .inl (bA zs))), ((q 5), .inl (cI, 10, .inl (nA ey))), ((q 6), .inl (cI, 11, .inl (nA pw))), ((q 9), .inl (cZ, 1024, .inl (bA nx)))] := (by have e9 : mFill bx ey 0 em = b := (hx1 0).trans (mFill_0 hin hb0); rw [e9] at hD; exact hD)
    exact W.vret hx hb hr (fun t ht hW => ⟨⟨(zs, nx), rfl, fun i hi => hx3 i (by omega), by rw [ht]; exact hP, hD⟩, hS.F ht⟩) hS.2.2 dX6_fillings0_43
  · have hcl := cdOf_lt i9 em
    have h3n := p3_le qem
    refine lv_aload_n hx hb dX6_fillings0_12 rfl (lv_at hl 0 rfl) ?_
    refine lv_aload_n hx hb dX6_fillings0_13 rfl (lv_at hl 0 rfl) ?_
    refine lv_iload_n hx hb dX6_fillings0_14 rfl (lv_at hl 1 rfl) ?_
    refine k_calli (wr := [((q 0), .inl (cI, 36, .inl (nA bx))), ((q 2), .inl (cZ, 36, .inl (bA zs))), ((q 5), .inl (cI, 10, .inl (nA ey))), ((q 9), .inl (cZ, 1024, .inl (bA nx)))]) (w2 := (fun _ : Unit => [(h0, wMo q R C tn dn ag md em), ((q 0), .inl (cI, 36, .inl (nA bx))), ((q 2), .inl (cZ, 36, .inl (bA zs))), ((q 5), .inl (cI, 10, .inl (nA ey))), ((q 6), .inl (cI, 11, .inl (nA pw))), ((q 9), .inl (cZ, 1024, .inl (bA nx)))])) (va_runV (As := [.int (nI i9)]) (rest := [.ref h0]) ⟨hx, hb, hml, hown, hts⟩ (c_R_codeOf l D cI cJ cZ h0 q R C tn dn ag md em pw i9 hpw qem (by omega)  H.size) (cwV 1 hts gX6_fillings0_X6_codeOf rfl rfl rfl (by decide +kernel) ⟨Nat.le_of_ble_eq_true rfl, Nat.le_of_ble_eq_true rfl⟩) (kPV (ci := 6) (q0 := 0) (wc := [(h0, wMo q R C tn dn ag md em), ((q 6), .inl (cI, 11, .inl (nA pw)))]) hK2 hP hD [0, 4] rfl (by decide) rfl rfl) rfl rfl hl.1 rfl (lv_room (Nat.le_of_ble_eq_true rfl)) dX6_fillings0_15 ⟨Nat.le_of_ble_eq_true rfl, Nat.le_of_ble_eq_true rfl⟩) hP hD hS hA [0, 4] [1, 2, 3, 5] [4, 0, 1, 2, 5, 3] rfl rfl (by decide) (by decide) (fun _ => rfl) (by decide) (fun r_3 u_3 H locs hw_3 hP hD hS => ?_)
    have hP : va_P D vwCl [(h0, wMo q R C tn dn ag md em), ((q 0), .inl (cI, 36, .inl (nA bx))), ((q 2), .inl (cZ, 36, .inl (bA zs))), ((q 5), .inl (cI, 10, .inl (nA ey))), ((q 6), .inl (cI, 11, .inl (nA pw))), ((q 9), .inl (cZ, 1024, .inl (bA nx)))] H := hP
    have hD : va_D A [(h0, wMo q R C tn dn ag md em), ((q 0), .inl (cI, 36, .inl (nA bx))), ((q 2), .inl (cZ, 36, .inl (bA zs))), ((q 5), .inl (cI, 10, .inl (nA ey))), ((q 6), .inl (cI, 11, .inl (nA pw))), ((q 9), .inl (cZ, 1024, .inl (bA nx)))] := hD
    subst hw_3
    refine k_callv (wr := [((q 2), .inl (cZ, 36, .inl (bA zs))), ((q 9), .inl (cZ, 1024, .inl (bA nx)))]) (w2 := (fun _ : Unit => [(h0, wMo q R C tn dn ag md em), ((q 0), .inl (cI, 36, .inl (nA (mFill bx ey (cdOf i9 em) em)))), ((q 2), .inl (cZ, 36, .inl (bA zs))), ((q 5), .inl (cI, 10, .inl (nA ey))), ((q 6), .inl (cI, 11, .inl (nA pw))), ((q 9), .inl (cZ, 1024, .inl (bA nx)))])) (va_runV (As := [.int (nI (cdOf i9 em))]) (rest := []) ⟨hx, hb, hml, hown, hts⟩ (c_R_fills l D cI cJ cZ h0 q R C tn dn ag md em bx ey pw (cdOf i9 em) hR1 hR2 hC1 hC2 hRC hey hpw qem (by omega)  H.size) (cwV 1 hts gX6_fillings0_X6_fills rfl rfl rfl (by decide +kernel) ⟨Nat.le_of_ble_eq_true rfl, Nat.le_of_ble_eq_true rfl⟩) (kPV (ci := 6) (q0 := 0) (wc := [(h0, wMo q R C tn dn ag md em), ((q 0), .inl (cI, 36, .inl (nA bx))), ((q 5), .inl (cI, 10, .inl (nA ey))), ((q 6), .inl (cI, 11, .inl (nA pw)))]) hK2 hP hD [0, 1, 3, 4] rfl (by decide) rfl rfl) rfl rfl hl.1 rfl (lv_room (Nat.le_of_ble_eq_true rfl)) dX6_fillings0_18 ⟨Nat.le_of_ble_eq_true rfl, Nat.le_of_ble_eq_true rfl⟩) hP hD hS hA [0, 1, 3, 4] [2, 5] [2, 3, 0, 4, 5, 1] rfl rfl (by decide) (by decide) (fun _ => rfl) (by decide) (fun u_4 H locs hw_4 hP hD hS => ?_)
    have hP : va_P D vwCl [(h0, wMo q R C tn dn ag md em), ((q 0), .inl (cI, 36, .inl (nA (mFill bx ey (cdOf i9 em) em)))), ((q 2), .inl (cZ, 36, .inl (bA zs))), ((q 5), .inl (cI, 10, .inl (nA ey))), ((q 6), .inl (cI, 11, .inl (nA pw))), ((q 9), .inl (cZ, 1024, .inl (bA nx)))] H := hP
    have hD : va_D A [(h0, wMo q R C tn dn ag md em), ((q 0), .inl (cI, 36, .inl (nA (mFill bx ey (cdOf i9 em) em)))), ((q 2), .inl (cZ, 36, .inl (bA zs))), ((q 5), .inl (cI, 10, .inl (nA ey))), ((q 6), .inl (cI, 11, .inl (nA pw))), ((q 9), .inl (cZ, 1024, .inl (bA nx)))] := hD
    refine lv_aload_n hx hb dX6_fillings0_21 rfl (lv_at hl 0 rfl) ?_
    refine va_get (D := D) (ci := 6) (v := .ref (q 9)) (C := RX6) (T := TX6) (N := 17) hx hb hts kiX6_fillings0_X6 hown hK hP 0 rfl rfl 16 (by decide) (hts (.fieldLink RX6 53 "TwoBanksModel" "isNorth" "[Z") (List.mem_of_getElem? (i := 2) rfl)) (fun _ h9 => h9) rfl dX6_fillings0_22 ?_
    refine lv_iload_n hx hb dX6_fillings0_25 rfl (lv_at hl 1 rfl) ?_
    refine lv_aload_n hx hb dX6_fillings0_26 rfl (lv_at hl 0 rfl) ?_
    refine lv_iconst (v := (nI 1)) hx hb dX6_fillings0_27 (by decide) ?_
    refine k_calli (wr := [((q 5), .inl (cI, 10, .inl (nA ey))), ((q 6), .inl (cI, 11, .inl (nA pw))), ((q 9), .inl (cZ, 1024, .inl (bA nx)))]) (w2 := (fun za : Nat → Bool => [(h0, wMo q R C tn dn ag md em), ((q 0), .inl (cI, 36, .inl (nA (mFill bx ey (cdOf i9 em) em)))), ((q 2), .inl (cZ, 36, .inl (bA za))), ((q 5), .inl (cI, 10, .inl (nA ey))), ((q 6), .inl (cI, 11, .inl (nA pw))), ((q 9), .inl (cZ, 1024, .inl (bA nx)))])) (va_runV (As := [.int (nI 1)]) (rest := [.int (nI i9), .ref (q 9)]) ⟨hx, hb, hml, hown, hts⟩ (c_R_joins l D cI cJ cZ h0 q R C tn dn ag md em (mFill bx ey (cdOf i9 em) em) zs 1 hR1 hR2 hC1 hC2 hRC (mFill_bv hx2 em) (by omega)  H.size) (cwV 1 hts gX6_fillings0_X6_joins rfl rfl rfl (by decide +kernel) ⟨Nat.le_of_ble_eq_true rfl, Nat.le_of_ble_eq_true rfl⟩) (kPV (ci := 6) (q0 := 0) (wc := [(h0, wMo q R C tn dn ag md em), ((q 0), .inl (cI, 36, .inl (nA (mFill bx ey (cdOf i9 em) em)))), ((q 2), .inl (cZ, 36, .inl (bA zs)))]) hK2 hP hD [0, 1, 2] rfl (by decide) rfl rfl) rfl rfl hl.1 rfl (lv_room (Nat.le_of_ble_eq_true rfl)) dX6_fillings0_28 ⟨Nat.le_of_ble_eq_true rfl, Nat.le_of_ble_eq_true rfl⟩) hP hD hS hA [0, 1, 2] [3, 4, 5] [3, 4, 5, 0, 1, 2] rfl rfl (by decide) (by decide) (fun _ => rfl) (by decide) (fun r_6 u_6 H locs hw_6 hP hD hS => ?_)
    obtain ⟨za_5, rfl⟩ : ∃ z, z = u_6 := ⟨_, rfl⟩
    have hP : va_P D vwCl [(h0, wMo q R C tn dn ag md em), ((q 0), .inl (cI, 36, .inl (nA (mFill bx ey (cdOf i9 em) em)))), ((q 2), .inl (cZ, 36, .inl (bA za_5))), ((q 5), .inl (cI, 10, .inl (nA ey))), ((q 6), .inl (cI, 11, .inl (nA pw))), ((q 9), .inl (cZ, 1024, .inl (bA nx)))] H := hP
    have hD : va_D A [(h0, wMo q R C tn dn ag md em), ((q 0), .inl (cI, 36, .inl (nA (mFill bx ey (cdOf i9 em) em)))), ((q 2), .inl (cZ, 36, .inl (bA za_5))), ((q 5), .inl (cI, 10, .inl (nA ey))), ((q 6), .inl (cI, 11, .inl (nA pw))), ((q 9), .inl (cZ, 1024, .inl (bA nx)))] := hD
    rcases hw_6 with ⟨rfl, hw_6⟩ | ⟨rfl, hw_6⟩
    · skip
      refine va_zast hx hb hK hP hD hS 5 2 rfl rfl (vp_in_nI (by omega) (by omega)) dX6_fillings0_31 (fun H locs hP hD hS => ?_)
      rw [nI_clamp (by omega)] at hP hD
      rw [kz_nar (by first | decide | assumption | omega)] at hP hD
      rw [bA_upd1] at hP hD
      have hP : va_P D vwCl [(h0, wMo q R C tn dn ag md em), ((q 0), .inl (cI, 36, .inl (nA (mFill bx ey (cdOf i9 em) em)))), ((q 2), .inl (cZ, 36, .inl (bA za_5))), ((q 5), .inl (cI, 10, .inl (nA ey))), ((q 6), .inl (cI, 11, .inl (nA pw))), ((q 9), .inl (cZ, 1024, .inl (bA (uB nx i9 true))))] H := hP
      have hD : va_D A [(h0, wMo q R C tn dn ag md em), ((q 0), .inl (cI, 36, .inl (nA (mFill bx ey (cdOf i9 em) em)))), ((q 2), .inl (cZ, 36, .inl (bA za_5))), ((q 5), .inl (cI, 10, .inl (nA ey))), ((q 6), .inl (cI, 11, .inl (nA pw))), ((q 9), .inl (cZ, 1024, .inl (bA (uB nx i9 true))))] := hD
      refine lv_iinc (v := (nI (i9 + 1))) (lv' := [(1, .int (nI (i9 + 1))), (0, .ref h0)]) hx hb dX6_fillings0_32 hl (k := 1) rfl (k_inc _ 1) (by decide) rfl (fun ls hl => ?_)
      refine lv_goto (tgt := 2) hx hb dX6_fillings0_35 (by decide) ?_
      exact ih_2 ((i9 + 1), (mFill bx ey (cdOf i9 em) em), za_5, (uB nx i9 true)) _ _ _ (by show 2 ^ em - (i9 + 1) < 2 ^ em - i9; omega) ⟨hP, hD, hS, lv_sub hl [1, 0] rfl, by omega, fun cd => by rw [mFill_over hin]; exact hx1 cd, mFill_bv hx2 em, uB_pt hx3 (nJ_t (by rw [← hx1]; exact hw_6))⟩
    · skip
      refine va_zast hx hb hK hP hD hS 5 2 rfl rfl (vp_in_nI (by omega) (by omega)) dX6_fillings0_31 (fun H locs hP hD hS => ?_)
      rw [nI_clamp (by omega)] at hP hD
      rw [kz_nar (by first | decide | assumption | omega)] at hP hD
      rw [bA_upd0] at hP hD
      have hP : va_P D vwCl [(h0, wMo q R C tn dn ag md em), ((q 0), .inl (cI, 36, .inl (nA (mFill bx ey (cdOf i9 em) em)))), ((q 2), .inl (cZ, 36, .inl (bA za_5))), ((q 5), .inl (cI, 10, .inl (nA ey))), ((q 6), .inl (cI, 11, .inl (nA pw))), ((q 9), .inl (cZ, 1024, .inl (bA (uB nx i9 false))))] H := hP
      have hD : va_D A [(h0, wMo q R C tn dn ag md em), ((q 0), .inl (cI, 36, .inl (nA (mFill bx ey (cdOf i9 em) em)))), ((q 2), .inl (cZ, 36, .inl (bA za_5))), ((q 5), .inl (cI, 10, .inl (nA ey))), ((q 6), .inl (cI, 11, .inl (nA pw))), ((q 9), .inl (cZ, 1024, .inl (bA (uB nx i9 false))))] := hD
      refine lv_iinc (v := (nI (i9 + 1))) (lv' := [(1, .int (nI (i9 + 1))), (0, .ref h0)]) hx hb dX6_fillings0_32 hl (k := 1) rfl (k_inc _ 1) (by decide) rfl (fun ls hl => ?_)
      refine lv_goto (tgt := 2) hx hb dX6_fillings0_35 (by decide) ?_
      exact ih_2 ((i9 + 1), (mFill bx ey (cdOf i9 em) em), za_5, (uB nx i9 false)) _ _ _ (by show 2 ^ em - (i9 + 1) < 2 ^ em - i9; omega) ⟨hP, hD, hS, lv_sub hl [1, 0] rfl, by omega, fun cd => by rw [mFill_over hin]; exact hx1 cd, mFill_bv hx2 em, uB_pt hx3 (nJ_f (by rw [← hx1]; exact hw_6))⟩
