theorem bs_no {R C F k : Nat} {z : Nat → Bool} (h : ∀ j x, j < k → mBe R C F j = some x → z x = false) (hk : ∀ x, mBe R C F k = some x → z x = false) : ∀ j x, j < k + 1 → mBe R C F j = some x → z x = false := k_sp h hk
/-- f is the lowest of its group, of one colour -/
noncomputable def mGrP (R C : Nat) (b : Nat → Nat) (cl f : Nat) : Bool := @decide (b f = cl ∧ ∀ x, x < f → ¬ mG R C b f x) (Classical.propDecidable _)
theorem mGrP_t {R C : Nat} {b : Nat → Nat} {cl f : Nat} (h : b f = cl) (h2 : ∀ x, x < f → ¬ mG R C b f x) : mGrP R C b cl f = true := by unfold mGrP; exact @decide_eq_true _ (Classical.propDecidable _) ⟨h, h2⟩
theorem mGrP_f {R C : Nat} {b : Nat → Nat} {cl f : Nat} (h : ¬ (b f = cl ∧ ∀ x, x < f → ¬ mG R C b f x)) : mGrP R C b cl f = false := by unfold mGrP; exact @decide_eq_false _ (Classical.propDecidable _) h
theorem kiX6_isBeside_X6 : ∀ w ∈ u_ws RX6 TX6 17, w ∈ wsX6_isBeside := fun w h => List.mem_cons_of_mem _ (List.mem_append_right _ h)
set_option maxHeartbeats 4000000 in
set_option maxRecDepth 100000 in
theorem c_R_isBeside (l : Launch) (D : va_G) (cI cJ cZ : ClassId) (h0 : Nat) (q : Nat → Nat) (R C tn dn ag md em : Nat) (z : Nat → Bool) (F : Nat) (hR1 : 1 ≤ R) (hR2 : R ≤ 6) (hC1 : 1 ≤ C) (hC2 : C ≤ 6) (hRC : R * C ≤ 36) (qF : F < R * C) (sz : Nat) : kMI l yX6_isBeside wsX6_isBeside 2 46 D cI cJ cZ [.ref h0, .int (nI F)] [(h0, wMo q R C tn dn ag md em), ((q 2), .inl (cZ, 36, .inl (bA z)))] sz (fun r (_ : Unit) => (r = nI 1 ∧ ∃ x, x < R * C ∧ adj C x F ∧ z x = true) ∨ (r = nI 0 ∧ ¬ ∃ x, x < R * C ∧ adj C x F ∧ z x = true)) (fun _ : Unit => [(h0, wMo q R C tn dn ag md em), ((q 2), .inl (cZ, 36, .inl (bA z)))]) := by
  refine Met.ofW (cc := cX6_isBeside) (maxL := 3) (ret := (some .boolean)) (by decide) rfl ?_
  intro p e s m args below meth c s₁ B hml hv
  obtain ⟨rfl, hsz, hP, ⟨hK, hN⟩, hD0⟩ := hv
  have hx := B.exec
  have hb := B.bytes
  have hr := B.returns
  have hts := atoms_spec (ws := wsX6_isBeside) B.pre
  have hown : s.vm.findClass RX6 = some m.cls := findClass_of_methodNamed B.named
  have hlocks := B.notSynchronized
  subst hsz
  have hD := hD0.self (sz := s.heap.size)
  generalize hAe : va_A [(h0, wMo q R C tn dn ag md em), ((q 2), .inl (cZ, 36, .inl (bA z)))] s.heap.size = A at hD ⊢
  have hA : ∀ q : Nat, s.heap.size ≤ q → A q := fun q h => by rw [← hAe]; exact Or.inr h
  have hS : va_S A s.heap s.heap [] := va_S.rf
  have hl := lv_entry ([.ref h0, .int (nI F)]) (n := 3) (Nat.le_of_ble_eq_true rfl)
  rw [lg_entry_eq]
  generalize (lg_sl ([.ref h0, .int (nI F)]) ++ List.replicate (3 - (lg_sl ([.ref h0, .int (nI F)])).length) Slot.unset).toArray = ls at hl ⊢
  have hl : lv_has ls 3 [(0, .ref h0), (1, .int (nI F))] := hl
  have hK2 : kK D cI cJ cZ s := ⟨hK, hN⟩
  clear hD0
  refine lv_iconst (v := (nI 0)) hx hb dX6_isBeside_0 (by decide) ?_
  refine lv_istore_n (lv' := [(2, .int (nI 0)), (0, .ref h0), (1, .int (nI F))]) hx hb dX6_isBeside_1 rfl hl (by decide) rfl (fun ls hl => ?_)
  refine kw_loop (σ := Nat) (fun (k : Nat) H locs ls => va_P D vwCl [(h0, wMo q R C tn dn ag md em), ((q 2), .inl (cZ, 36, .inl (bA z)))] H ∧ va_D A [(h0, wMo q R C tn dn ag md em), ((q 2), .inl (cZ, 36, .inl (bA z)))] ∧ va_S A s.heap H locs ∧ lv_has ls 3 [(0, .ref h0), (1, .int (nI F)), (2, .int (nI k))] ∧ (k ≤ 6) ∧ (∀ j x, j < k → mBe R C F j = some x → z x = false)) (fun (k : Nat) => 6 - k) 0 ⟨hP, hD, hS, lv_sub hl [1, 2, 0] rfl, Nat.zero_le _, fun j x hj => absurd hj (Nat.not_lt_zero _)⟩ ?_
  clear hP hD hS hl
  rintro k H locs ls ⟨hP, hD, hS, hl, hk9, hn9⟩ ih_2
  have hP : va_P D vwCl [(h0, wMo q R C tn dn ag md em), ((q 2), .inl (cZ, 36, .inl (bA z)))] H := hP
  have hD : va_D A [(h0, wMo q R C tn dn ag md em), ((q 2), .inl (cZ, 36, .inl (bA z)))] := hD
  have hl : lv_has ls 3 [(0, .ref h0), (1, .int (nI F)), (2, .int (nI k))] := hl
  have hk9 : k ≤ 6 := hk9
  have hn9 : ∀ j x, j < k → mBe R C F j = some x → z x = false := hn9
  refine lv_iload_n hx hb dX6_isBeside_2 rfl (lv_at hl 2 rfl) ?_
  refine lv_bipush (v := (nI 6)) hx hb dX6_isBeside_3 (by decide) ?_
  refine kw_icmp_ge (tgt := 40) hx hb dX6_isBeside_5 (by decide) (by omega) (by omega) (fun c_5_1 => ?_) (fun c_5_1 => ?_)
  · refine lv_iconst (v := (nI 0)) hx hb dX6_isBeside_40 (by decide) ?_
    exact W.zret (v := (nI 0)) hx hb hr (by first | decide +kernel | assumption | exact kz_narr (by first | assumption | omega)) (fun t ht hW => ⟨⟨(nI 0), (), rfl, Or.inr ⟨rfl, fun ⟨x, h1, h2, h3⟩ => by obtain ⟨j, hj, e⟩ := mBe_of hC1 qF h1 h2; rw [hn9 j x (by omega) e] at h3; cases h3⟩, by rw [ht]; exact hP, hD⟩, hS.F ht⟩) hS.2.2 dX6_isBeside_41
  · refine lv_aload_n hx hb dX6_isBeside_8 rfl (lv_at hl 0 rfl) ?_
    refine lv_iload_n hx hb dX6_isBeside_9 rfl (lv_at hl 1 rfl) ?_
    refine lv_iload_n hx hb dX6_isBeside_10 rfl (lv_at hl 2 rfl) ?_
    refine k_calli (wr := [((q 2), .inl (cZ, 36, .inl (bA z)))]) (w2 := (fun _ : Unit => [(h0, wMo q R C tn dn ag md em), ((q 2), .inl (cZ, 36, .inl (bA z)))])) (va_runV (As := [.int (nI F), .int (nI k)]) (rest := []) ⟨hx, hb, hml, hown, hts⟩ (c_R_beside l D cI cJ cZ h0 q R C tn dn ag md em F k hR1 hR2 hC1 hC2 hRC qF (by omega)  H.size) (cwV 2 hts gX6_isBeside_X6_beside rfl rfl rfl (by decide +kernel) ⟨Nat.le_of_ble_eq_true rfl, Nat.le_of_ble_eq_true rfl⟩) (kPV (ci := 6) (q0 := 0) (wc := [(h0, wMo q R C tn dn ag md em)]) hK2 hP hD [0] rfl (by decide) rfl rfl) rfl rfl hl.1 rfl (lv_room (Nat.le_of_ble_eq_true rfl)) dX6_isBeside_11 ⟨Nat.le_of_ble_eq_true rfl, Nat.le_of_ble_eq_true rfl⟩) hP hD hS hA [0] [1] [1, 0] rfl rfl (by decide) (by decide) (fun _ => rfl) (by decide) (fun r_2 u_2 H locs hw_2 hP hD hS => ?_)
    have hP : va_P D vwCl [(h0, wMo q R C tn dn ag md em), ((q 2), .inl (cZ, 36, .inl (bA z)))] H := hP
    have hD : va_D A [(h0, wMo q R C tn dn ag md em), ((q 2), .inl (cZ, 36, .inl (bA z)))] := hD
    subst hw_2
    rcases hm9 : mBe R C F k with _ | g9
    · refine k_toi (y := (-1)) rfl ?_
      refine lv_iconst (v := (-1)) hx hb dX6_isBeside_14 (by decide) ?_
      refine lv_icmp_eq (tgt := 34) hx hb dX6_isBeside_15 (by decide) (fun c_15_3 => ?_) (fun c_15_3 => absurd c_15_3 (by decide))
      refine lv_iinc (v := (nI (k + 1))) (lv' := [(2, .int (nI (k + 1))), (0, .ref h0), (1, .int (nI F))]) hx hb dX6_isBeside_34 hl (k := 2) rfl (k_inc _ 1) (by decide) rfl (fun ls hl => ?_)
      refine lv_goto (tgt := 2) hx hb dX6_isBeside_37 (by decide) ?_
      exact ih_2 (k + 1) _ _ _ (by show 6 - (k + 1) < 6 - k; omega) ⟨hP, hD, hS, lv_sub hl [1, 2, 0] rfl, by omega, bs_no hn9 (fun x h9 => by rw [hm9] at h9; cases h9)⟩
    · refine k_toi (y := nI g9) rfl ?_
      have hg9 := mBe_adj hC1 qF (by omega) hm9
      have hgl := hg9.1
      have hzb2 : (z g9).toNat ≤ 1 := Bool.toNat_le (z g9)
      refine lv_iconst (v := (-1)) hx hb dX6_isBeside_14 (by decide) ?_
      refine lv_icmp_eq (tgt := 34) hx hb dX6_isBeside_15 (by decide) (fun c_15_4 => absurd c_15_4 (k_ne_m (by omega) (by decide))) (fun c_15_4 => ?_)
      refine lv_aload_n hx hb dX6_isBeside_18 rfl (lv_at hl 0 rfl) ?_
      refine va_get (D := D) (ci := 6) (v := .ref (q 2)) (C := RX6) (T := TX6) (N := 17) hx hb hts kiX6_isBeside_X6 hown hK hP 0 rfl rfl 8 (by decide) (hts (.fieldLink RX6 30 "TwoBanksModel" "isReached" "[Z") (List.mem_of_getElem? (i := 1) rfl)) (fun _ h9 => h9) rfl dX6_isBeside_19 ?_
      refine lv_aload_n hx hb dX6_isBeside_22 rfl (lv_at hl 0 rfl) ?_
      refine lv_iload_n hx hb dX6_isBeside_23 rfl (lv_at hl 1 rfl) ?_
      refine lv_iload_n hx hb dX6_isBeside_24 rfl (lv_at hl 2 rfl) ?_
      refine k_calli (wr := [((q 2), .inl (cZ, 36, .inl (bA z)))]) (w2 := (fun _ : Unit => [(h0, wMo q R C tn dn ag md em), ((q 2), .inl (cZ, 36, .inl (bA z)))])) (va_runV (As := [.int (nI F), .int (nI k)]) (rest := [.ref (q 2)]) ⟨hx, hb, hml, hown, hts⟩ (c_R_beside l D cI cJ cZ h0 q R C tn dn ag md em F k hR1 hR2 hC1 hC2 hRC qF (by omega)  H.size) (cwV 2 hts gX6_isBeside_X6_beside rfl rfl rfl (by decide +kernel) ⟨Nat.le_of_ble_eq_true rfl, Nat.le_of_ble_eq_true rfl⟩) (kPV (ci := 6) (q0 := 0) (wc := [(h0, wMo q R C tn dn ag md em)]) hK2 hP hD [0] rfl (by decide) rfl rfl) rfl rfl hl.1 rfl (lv_room (Nat.le_of_ble_eq_true rfl)) dX6_isBeside_25 ⟨Nat.le_of_ble_eq_true rfl, Nat.le_of_ble_eq_true rfl⟩) hP hD hS hA [0] [1] [1, 0] rfl rfl (by decide) (by decide) (fun _ => rfl) (by decide) (fun r_5 u_5 H locs hw_5 hP hD hS => ?_)
      have hP : va_P D vwCl [(h0, wMo q R C tn dn ag md em), ((q 2), .inl (cZ, 36, .inl (bA z)))] H := hP
      have hD : va_D A [(h0, wMo q R C tn dn ag md em), ((q 2), .inl (cZ, 36, .inl (bA z)))] := hD
      subst hw_5
      refine k_toi (y := nI g9) (by rw [hm9]; rfl) ?_
      refine va_zald hx hb hK hP 1 2 rfl rfl (vp_in_nI (by omega) (by omega)) dX6_isBeside_28 ?_
      refine k_toi (y := nI ((z g9).toNat)) (congrArg (bA z) (nI_clamp (by omega))) ?_
      refine kw_if_eq (tgt := 34) hx hb dX6_isBeside_29 (by decide) (by omega) (fun c_29_6 => ?_) (fun c_29_6 => ?_)
      · have hzg := bz_f c_29_6
        refine lv_iinc (v := (nI (k + 1))) (lv' := [(2, .int (nI (k + 1))), (0, .ref h0), (1, .int (nI F))]) hx hb dX6_isBeside_34 hl (k := 2) rfl (k_inc _ 1) (by decide) rfl (fun ls hl => ?_)
        refine lv_goto (tgt := 2) hx hb dX6_isBeside_37 (by decide) ?_
        exact ih_2 (k + 1) _ _ _ (by show 6 - (k + 1) < 6 - k; omega) ⟨hP, hD, hS, lv_sub hl [1, 2, 0] rfl, by omega, bs_no hn9 (fun x h9 => by rw [hm9] at h9; cases h9; exact hzg)⟩
      · have hzg := bz_t c_29_6
        refine lv_iconst (v := (nI 1)) hx hb dX6_isBeside_32 (by decide) ?_
        exact W.zret (v := (nI 1)) hx hb hr (by first | decide +kernel | assumption | exact kz_narr (by first | assumption | omega)) (fun t ht hW => ⟨⟨(nI 1), (), rfl, Or.inl ⟨rfl, g9, hg9.1, hg9.2, hzg⟩, by rw [ht]; exact hP, hD⟩, hS.F ht⟩) hS.2.2 dX6_isBeside_33

theorem kiX6_groups_X6 : ∀ w ∈ u_ws RX6 TX6 17, w ∈ wsX6_groups := fun w h => List.mem_cons_of_mem _ (List.mem_append_right _ h)
set_option maxHeartbeats 4000000 in
set_option maxRecDepth 100000 in
theorem c_R_groups (l : Launch) (D : va_G) (cI cJ cZ : ClassId) (h0 : Nat) (q : Nat → Nat) (R C tn dn ag md em : Nat) (b : Nat → Nat) (z : Nat → Bool) (cl : Nat) (hR1 : 1 ≤ R) (hR2 : R ≤ 6) (hC1 : 1 ≤ C) (hC2 : C ≤ 6) (hRC : R * C ≤ 36) (hbv : ∀ f, f < R * C → b f ≤ 2) (qcl : cl = 1 ∨ cl = 2) (sz : Nat) : kMI l yX6_groups wsX6_groups 5 114 D cI cJ cZ [.ref h0, .int (nI cl)] [(h0, wMo q R C tn dn ag md em), ((q 0), .inl (cI, 36, .inl (nA b))), ((q 2), .inl (cZ, 36, .inl (bA z)))] sz (fun r (_ : Nat → Bool) => r = nI (fb_ct (mGrP R C b cl) (R * C))) (fun za : Nat → Bool => [(h0, wMo q R C tn dn ag md em), ((q 0), .inl (cI, 36, .inl (nA b))), ((q 2), .inl (cZ, 36, .inl (bA za)))]) := by
  refine Met.ofW (cc := cX6_groups) (maxL := 4) (ret := (some .int)) (by decide) rfl ?_
  intro p e s m args below meth c s₁ B hml hv
  obtain ⟨rfl, hsz, hP, ⟨hK, hN⟩, hD0⟩ := hv
  have hx := B.exec
  have hb := B.bytes
  have hr := B.returns
  have hts := atoms_spec (ws := wsX6_groups) B.pre
  have hown : s.vm.findClass RX6 = some m.cls := findClass_of_methodNamed B.named
  have hlocks := B.notSynchronized
  subst hsz
  have hD := hD0.self (sz := s.heap.size)
  generalize hAe : va_A [(h0, wMo q R C tn dn ag md em), ((q 0), .inl (cI, 36, .inl (nA b))), ((q 2), .inl (cZ, 36, .inl (bA z)))] s.heap.size = A at hD ⊢
  have hA : ∀ q : Nat, s.heap.size ≤ q → A q := fun q h => by rw [← hAe]; exact Or.inr h
  have hS : va_S A s.heap s.heap [] := va_S.rf
  have hl := lv_entry ([.ref h0, .int (nI cl)]) (n := 4) (Nat.le_of_ble_eq_true rfl)
  rw [lg_entry_eq]
  generalize (lg_sl ([.ref h0, .int (nI cl)]) ++ List.replicate (4 - (lg_sl ([.ref h0, .int (nI cl)])).length) Slot.unset).toArray = ls at hl ⊢
  have hl : lv_has ls 4 [(0, .ref h0), (1, .int (nI cl))] := hl
  have hK2 : kK D cI cJ cZ s := ⟨hK, hN⟩
  clear hD0
  refine lv_iconst (v := (nI 0)) hx hb dX6_groups_0 (by decide) ?_
  refine lv_istore_n (lv' := [(2, .int (nI 0)), (0, .ref h0), (1, .int (nI cl))]) hx hb dX6_groups_1 rfl hl (by decide) rfl (fun ls hl => ?_)
  refine lv_iconst (v := (nI 0)) hx hb dX6_groups_2 (by decide) ?_
  refine lv_istore_n (lv' := [(3, .int (nI 0)), (2, .int (nI 0)), (0, .ref h0), (1, .int (nI cl))]) hx hb dX6_groups_3 rfl hl (by decide) rfl (fun ls hl => ?_)
  refine kw_loop (σ := Nat × Nat × (Nat → Bool)) (fun zz H locs ls => match zz with | (n, f, zs) => va_P D vwCl [(h0, wMo q R C tn dn ag md em), ((q 0), .inl (cI, 36, .inl (nA b))), ((q 2), .inl (cZ, 36, .inl (bA zs)))] H ∧ va_D A [(h0, wMo q R C tn dn ag md em), ((q 0), .inl (cI, 36, .inl (nA b))), ((q 2), .inl (cZ, 36, .inl (bA zs)))] ∧ va_S A s.heap H locs ∧ lv_has ls 4 [(0, .ref h0), (1, .int (nI cl)), (2, .int (nI n)), (3, .int (nI f))] ∧ (f ≤ R * C) ∧ (n = fb_ct (mGrP R C b cl) f)) (fun zz => match zz with | (n, f, zs) => R * C - f) (0, 0, z) ⟨hP, hD, hS, lv_sub hl [2, 3, 1, 0] rfl, Nat.zero_le _, rfl⟩ ?_
  clear hP hD hS hl
  rintro ⟨n, f, zs⟩ H locs ls ⟨hP, hD, hS, hl, hf9, hn9⟩ ih_4
  have hP : va_P D vwCl [(h0, wMo q R C tn dn ag md em), ((q 0), .inl (cI, 36, .inl (nA b))), ((q 2), .inl (cZ, 36, .inl (bA zs)))] H := hP
  have hD : va_D A [(h0, wMo q R C tn dn ag md em), ((q 0), .inl (cI, 36, .inl (nA b))), ((q 2), .inl (cZ, 36, .inl (bA zs)))] := hD
  have hl : lv_has ls 4 [(0, .ref h0), (1, .int (nI cl)), (2, .int (nI n)), (3, .int (nI f))] := hl
  have hf9 : f ≤ R * C := hf9
  have hn9 : n = fb_ct (mGrP R C b cl) f := hn9
  refine lv_iload_n hx hb dX6_groups_4 rfl (lv_at hl 3 rfl) ?_
  refine lv_aload_n hx hb dX6_groups_5 rfl (lv_at hl 0 rfl) ?_
  refine k_calli (wr := [((q 0), .inl (cI, 36, .inl (nA b))), ((q 2), .inl (cZ, 36, .inl (bA zs)))]) (w2 := (fun _ : Unit => [(h0, wMo q R C tn dn ag md em), ((q 0), .inl (cI, 36, .inl (nA b))), ((q 2), .inl (cZ, 36, .inl (bA zs)))])) (va_runV (As := []) (rest := [.int (nI f)]) ⟨hx, hb, hml, hown, hts⟩ (c_R_fields l D cI cJ cZ h0 q R C tn dn ag md em  H.size) (cwV 0 hts gX6_groups_X6_fields rfl rfl rfl (by decide +kernel) ⟨Nat.le_of_ble_eq_true rfl, Nat.le_of_ble_eq_true rfl⟩) (kPV (ci := 6) (q0 := 0) (wc := [(h0, wMo q R C tn dn ag md em)]) hK2 hP hD [0] rfl (by decide) rfl rfl) rfl rfl hl.1 rfl (lv_room (Nat.le_of_ble_eq_true rfl)) dX6_groups_6 ⟨Nat.le_of_ble_eq_true rfl, Nat.le_of_ble_eq_true rfl⟩) hP hD hS hA [0] [1, 2] [2, 0, 1] rfl rfl (by decide) (by decide) (fun _ => rfl) (by decide) (fun r_1 u_1 H locs hw_1 hP hD hS => ?_)
  have hP : va_P D vwCl [(h0, wMo q R C tn dn ag md em), ((q 0), .inl (cI, 36, .inl (nA b))), ((q 2), .inl (cZ, 36, .inl (bA zs)))] H := hP
  have hD : va_D A [(h0, wMo q R C tn dn ag md em), ((q 0), .inl (cI, 36, .inl (nA b))), ((q 2), .inl (cZ, 36, .inl (bA zs)))] := hD
  subst hw_1
  refine kw_icmp_ge (tgt := 45) hx hb dX6_groups_9 (by decide) (by omega) (by omega) (fun c_9_2 => ?_) (fun c_9_2 => ?_)
  · refine lv_iload_n hx hb dX6_groups_45 rfl (lv_at hl 2 rfl) ?_
    exact W.iret (v := (nI n)) hx hb hr (fun t ht hW => ⟨⟨(nI n), zs, rfl, by rw [hn9, show f = R * C by omega], by rw [ht]; exact hP, hD⟩, hS.F ht⟩) hS.2.2 dX6_groups_46
  · have hfl : f < R * C := c_9_2
    have hbf := hbv f hfl
    have hnl := fb_ct_le (mGrP R C b cl) f
    refine lv_iload_n hx hb dX6_groups_12 rfl (lv_at hl 2 rfl) ?_
    refine lv_aload_n hx hb dX6_groups_13 rfl (lv_at hl 0 rfl) ?_
    refine va_get (D := D) (ci := 6) (v := .ref (q 0)) (C := RX6) (T := TX6) (N := 17) hx hb hts kiX6_groups_X6 hown hK hP 0 rfl rfl 3 (by decide) (hts (.fieldLink RX6 19 "TwoBanksModel" "at" "[I") (List.mem_of_getElem? (i := 1) rfl)) (fun _ h9 => h9) rfl dX6_groups_14 ?_
    refine lv_iload_n hx hb dX6_groups_17 rfl (lv_at hl 3 rfl) ?_
    refine va_iald hx hb hK hP 1 0 rfl rfl (vp_in_nI (by omega) (by omega)) dX6_groups_18 ?_
    refine k_toi (y := nI (b f)) (congrArg (nA b) (nI_clamp (by omega))) ?_
    refine lv_iload_n hx hb dX6_groups_19 rfl (lv_at hl 1 rfl) ?_
    refine kw_icmp_ne (tgt := 36) hx hb dX6_groups_20 (by decide) (by omega) (by omega) (fun c_20_3 => ?_) (fun c_20_3 => ?_)
    · have hp9 : mGrP R C b cl f = false := mGrP_f (fun h => c_20_3 h.1)
      refine lv_iconst (v := (nI 0)) hx hb dX6_groups_36 (by decide) ?_
      refine lv_iadd hx hb dX6_groups_37 ?_
      refine k_toi (y := nI (n + 0)) (nI_add _ _) ?_
      refine lv_istore_n (lv' := [(2, .int (nI (n + 0))), (0, .ref h0), (1, .int (nI cl)), (3, .int (nI f))]) hx hb dX6_groups_38 rfl hl (by decide) rfl (fun ls hl => ?_)
      refine lv_iinc (v := (nI (f + 1))) (lv' := [(3, .int (nI (f + 1))), (2, .int (nI (n + 0))), (0, .ref h0), (1, .int (nI cl))]) hx hb dX6_groups_39 hl (k := 3) rfl (k_inc _ 1) (by decide) rfl (fun ls hl => ?_)
      refine lv_goto (tgt := 4) hx hb dX6_groups_42 (by decide) ?_
      exact ih_4 ((n + 0), (f + 1), zs) _ _ _ (by show R * C - (f + 1) < R * C - f; omega) ⟨hP, hD, hS, lv_sub hl [2, 3, 1, 0] rfl, by omega, by rw [ct_0 hp9]; exact hn9⟩
    · have hbc : b f = cl := c_20_3
      refine lv_aload_n hx hb dX6_groups_23 rfl (lv_at hl 0 rfl) ?_
      refine lv_iload_n hx hb dX6_groups_24 rfl (lv_at hl 3 rfl) ?_
      refine k_calli (wr := []) (w2 := (fun za : Nat → Bool => [(h0, wMo q R C tn dn ag md em), ((q 0), .inl (cI, 36, .inl (nA b))), ((q 2), .inl (cZ, 36, .inl (bA za)))])) (va_runV (As := [.int (nI f)]) (rest := [.int (nI n)]) ⟨hx, hb, hml, hown, hts⟩ (c_R_group l D cI cJ cZ h0 q R C tn dn ag md em b zs (nI f) hR1 hR2 hC1 hC2 hRC hbv  H.size) (cwV 1 hts gX6_groups_X6_group rfl rfl rfl (by decide +kernel) ⟨Nat.le_of_ble_eq_true rfl, Nat.le_of_ble_eq_true rfl⟩) (kPV (ci := 6) (q0 := 0) (wc := [(h0, wMo q R C tn dn ag md em), ((q 0), .inl (cI, 36, .inl (nA b))), ((q 2), .inl (cZ, 36, .inl (bA zs)))]) hK2 hP hD [0, 1, 2] rfl (by decide) rfl rfl) rfl rfl hl.1 rfl (lv_room (Nat.le_of_ble_eq_true rfl)) dX6_groups_25 ⟨Nat.le_of_ble_eq_true rfl, Nat.le_of_ble_eq_true rfl⟩) hP hD hS hA [0, 1, 2] [] [0, 1, 2] rfl rfl (by decide) (by decide) (fun _ => rfl) (by decide) (fun r_5 u_5 H locs hw_5 hP hD hS => ?_)
      obtain ⟨za_4, rfl⟩ : ∃ z, z = u_5 := ⟨_, rfl⟩
      have hP : va_P D vwCl [(h0, wMo q R C tn dn ag md em), ((q 0), .inl (cI, 36, .inl (nA b))), ((q 2), .inl (cZ, 36, .inl (bA za_4)))] H := hP
      have hD : va_D A [(h0, wMo q R C tn dn ag md em), ((q 0), .inl (cI, 36, .inl (nA b))), ((q 2), .inl (cZ, 36, .inl (bA za_4)))] := hD
      obtain ⟨g, hgf, hmg, hmin, rfl⟩ : ∃ g, g ≤ f ∧ mG R C b f g ∧ (∀ x, x < g → ¬ mG R C b f x) ∧ r_5 = nI g := by rcases hw_5 with ⟨h9, -⟩ | ⟨k9, g, h1, h2, h3, h4, h5, h6, h7⟩; exact absurd ⟨f, hfl, rfl, by omega⟩ h9; have e9 := (nI_eq (by omega) (by omega)).mp h2; subst e9; exact ⟨g, h4, h5, h6, h7⟩
      refine lv_iload_n hx hb dX6_groups_28 rfl (lv_at hl 3 rfl) ?_
      refine kw_icmp_ne (tgt := 36) hx hb dX6_groups_29 (by decide) (by omega) (by omega) (fun c_29_6 => ?_) (fun c_29_6 => ?_)
      · have hp9 : mGrP R C b cl f = false := mGrP_f (fun h => h.2 g (by omega) hmg)
        refine lv_iconst (v := (nI 0)) hx hb dX6_groups_36 (by decide) ?_
        refine lv_iadd hx hb dX6_groups_37 ?_
        refine k_toi (y := nI (n + 0)) (nI_add _ _) ?_
        refine lv_istore_n (lv' := [(2, .int (nI (n + 0))), (0, .ref h0), (1, .int (nI cl)), (3, .int (nI f))]) hx hb dX6_groups_38 rfl hl (by decide) rfl (fun ls hl => ?_)
        refine lv_iinc (v := (nI (f + 1))) (lv' := [(3, .int (nI (f + 1))), (2, .int (nI (n + 0))), (0, .ref h0), (1, .int (nI cl))]) hx hb dX6_groups_39 hl (k := 3) rfl (k_inc _ 1) (by decide) rfl (fun ls hl => ?_)
        refine lv_goto (tgt := 4) hx hb dX6_groups_42 (by decide) ?_
        exact ih_4 ((n + 0), (f + 1), za_4) _ _ _ (by show R * C - (f + 1) < R * C - f; omega) ⟨hP, hD, hS, lv_sub hl [2, 3, 1, 0] rfl, by omega, by rw [ct_0 hp9]; exact hn9⟩
      · have hp9 : mGrP R C b cl f = true := mGrP_t hbc (by have e9 : g = f := c_29_6; rw [e9] at hmin; exact hmin)
        refine lv_iconst (v := (nI 1)) hx hb dX6_groups_32 (by decide) ?_
        refine lv_goto (tgt := 37) hx hb dX6_groups_33 (by decide) ?_
        refine lv_iadd hx hb dX6_groups_37 ?_
        refine k_toi (y := nI (n + 1)) (nI_add _ _) ?_
        refine lv_istore_n (lv' := [(2, .int (nI (n + 1))), (0, .ref h0), (1, .int (nI cl)), (3, .int (nI f))]) hx hb dX6_groups_38 rfl hl (by decide) rfl (fun ls hl => ?_)
        refine lv_iinc (v := (nI (f + 1))) (lv' := [(3, .int (nI (f + 1))), (2, .int (nI (n + 1))), (0, .ref h0), (1, .int (nI cl))]) hx hb dX6_groups_39 hl (k := 3) rfl (k_inc _ 1) (by decide) rfl (fun ls hl => ?_)
        refine lv_goto (tgt := 4) hx hb dX6_groups_42 (by decide) ?_
        exact ih_4 ((n + 1), (f + 1), za_4) _ _ _ (by show R * C - (f + 1) < R * C - f; omega) ⟨hP, hD, hS, lv_sub hl [2, 3, 1, 0] rfl, by omega, by rw [ct_1 hp9, ← hn9]⟩
