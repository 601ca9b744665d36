theorem kiX6_dead_X6 : ∀ w ∈ u_ws RX6 TX6 17, w ∈ wsX6_dead := fun w h => List.mem_cons_of_mem _ (List.mem_append_right _ h)
set_option maxHeartbeats 4000000 in
set_option maxRecDepth 100000 in
theorem c_R_dead (l : Launch) (D : va_G) (cI cJ cZ : ClassId) (h0 : Nat) (q : Nat → Nat) (R C tn dn ag md em : Nat) (b ey pw : Nat → Nat) (z no : Nat → Bool) (f : Int32) (hR1 : 1 ≤ R) (hR2 : R ≤ 6) (hC1 : 1 ≤ C) (hC2 : C ≤ 6) (hRC : R * C ≤ 36) (hbv : ∀ f, f < R * C → b f ≤ 2) (sz : Nat) : kMI l yX6_dead wsX6_dead 5 114 D cI cJ cZ [.ref h0, .int f] [(h0, wMo q R C tn dn ag md em), ((q 0), .inl (cI, 36, .inl (nA b))), ((q 2), .inl (cZ, 36, .inl (bA z))), ((q 5), .inl (cI, 10, .inl (nA ey))), ((q 6), .inl (cI, 11, .inl (nA pw))), ((q 9), .inl (cZ, 1024, .inl (bA no)))] sz (fun r (_ : Nat × (Nat → Bool) × (Nat → Nat) × (Nat → Nat) × (Nat → Bool)) => (r = -1 ∧ ¬ (∃ k, k < R * C ∧ f = nI k ∧ b k = 0 ∧ (fb_ct (mE b) (R * C)) ≤ 10)) ∨ ((fb_ct (mE b) (R * C)) ≤ 10 ∧ ∃ F ey, F < R * C ∧ f = nI F ∧ b F = 0 ∧ eyP b (R * C) ey ∧ ((r = nI 1 ∧ ∀ i, i < 2 ^ (fb_ct (mE b) (R * C)) → nJ R C b ey (fb_ct (mE b) (R * C)) i = nJ R C b ey (fb_ct (mE b) (R * C)) (i ^^^ 2 ^ fb_ct (mE b) F)) ∨ (r = nI 0 ∧ ¬ ∀ i, i < 2 ^ (fb_ct (mE b) (R * C)) → nJ R C b ey (fb_ct (mE b) (R * C)) i = nJ R C b ey (fb_ct (mE b) (R * C)) (i ^^^ 2 ^ fb_ct (mE b) F))))) (fun u : Nat × (Nat → Bool) × (Nat → Nat) × (Nat → Nat) × (Nat → Bool) => match u with | (emz, za, eya, pwa, noa) => [(h0, wMo q R C tn dn ag md emz), ((q 0), .inl (cI, 36, .inl (nA b))), ((q 2), .inl (cZ, 36, .inl (bA za))), ((q 5), .inl (cI, 10, .inl (nA eya))), ((q 6), .inl (cI, 11, .inl (nA pwa))), ((q 9), .inl (cZ, 1024, .inl (bA noa)))]) := by
  refine Met.ofW (cc := cX6_dead) (maxL := 3) (ret := (some .int)) (by decide) rfl ?_
  intro p e s m args below meth c s₁ B hml hv
  obtain ⟨rfl, hsz, hP, ⟨hK, hN⟩, hD0⟩ := hv
  have hx := B.exec
  have hb := B.bytes
  have hr := B.returns
  have hts := atoms_spec (ws := wsX6_dead) B.pre
  have hown : s.vm.findClass RX6 = some m.cls := findClass_of_methodNamed B.named
  have hlocks := B.notSynchronized
  subst hsz
  have hD := hD0.self (sz := s.heap.size)
  generalize hAe : va_A [(h0, wMo q R C tn dn ag md em), ((q 0), .inl (cI, 36, .inl (nA b))), ((q 2), .inl (cZ, 36, .inl (bA z))), ((q 5), .inl (cI, 10, .inl (nA ey))), ((q 6), .inl (cI, 11, .inl (nA pw))), ((q 9), .inl (cZ, 1024, .inl (bA no)))] s.heap.size = A at hD ⊢
  have hA : ∀ q : Nat, s.heap.size ≤ q → A q := fun q h => by rw [← hAe]; exact Or.inr h
  have hS : va_S A s.heap s.heap [] := va_S.rf
  have hl := lv_entry ([.ref h0, .int f]) (n := 3) (Nat.le_of_ble_eq_true rfl)
  rw [lg_entry_eq]
  generalize (lg_sl ([.ref h0, .int f]) ++ List.replicate (3 - (lg_sl ([.ref h0, .int f])).length) Slot.unset).toArray = ls at hl ⊢
  have hl : lv_has ls 3 [(0, .ref h0), (1, .int f)] := hl
  have hK2 : kK D cI cJ cZ s := ⟨hK, hN⟩
  clear hD0
  refine lv_aload_n hx hb dX6_dead_0 rfl (lv_at hl 0 rfl) ?_
  refine lv_iload_n hx hb dX6_dead_1 rfl (lv_at hl 1 rfl) ?_
  refine k_calli (wr := [((q 0), .inl (cI, 36, .inl (nA b))), ((q 2), .inl (cZ, 36, .inl (bA z))), ((q 5), .inl (cI, 10, .inl (nA ey))), ((q 6), .inl (cI, 11, .inl (nA pw))), ((q 9), .inl (cZ, 1024, .inl (bA no)))]) (w2 := (fun _ : Unit => [(h0, wMo q R C tn dn ag md em), ((q 0), .inl (cI, 36, .inl (nA b))), ((q 2), .inl (cZ, 36, .inl (bA z))), ((q 5), .inl (cI, 10, .inl (nA ey))), ((q 6), .inl (cI, 11, .inl (nA pw))), ((q 9), .inl (cZ, 1024, .inl (bA no)))])) (va_runV (As := [.int f]) (rest := []) ⟨hx, hb, hml, hown, hts⟩ (c_R_isField l D cI cJ cZ h0 q R C tn dn ag md em f hR1 hR2 hC1 hC2 hRC  s.heap.size) (cwV 1 hts gX6_dead_X6_isField rfl rfl rfl (by decide +kernel) ⟨Nat.le_of_ble_eq_true rfl, Nat.le_of_ble_eq_true rfl⟩) (kPV (ci := 6) (q0 := 0) (wc := [(h0, wMo q R C tn dn ag md em)]) hK2 hP hD [0] rfl (by decide) rfl rfl) rfl rfl hl.1 rfl (lv_room (Nat.le_of_ble_eq_true rfl)) dX6_dead_2 ⟨Nat.le_of_ble_eq_true rfl, Nat.le_of_ble_eq_true rfl⟩) hP hD hS hA [0] [1, 2, 3, 4, 5] [5, 0, 1, 2, 3, 4] rfl rfl (by decide) (by decide) (fun _ => rfl) (by decide) (fun r_1 u_1 H locs hw_1 hP hD hS => ?_)
  have hP : va_P D vwCl [(h0, wMo q R C tn dn ag md em), ((q 0), .inl (cI, 36, .inl (nA b))), ((q 2), .inl (cZ, 36, .inl (bA z))), ((q 5), .inl (cI, 10, .inl (nA ey))), ((q 6), .inl (cI, 11, .inl (nA pw))), ((q 9), .inl (cZ, 1024, .inl (bA no)))] H := hP
  have hD : va_D A [(h0, wMo q R C tn dn ag md em), ((q 0), .inl (cI, 36, .inl (nA b))), ((q 2), .inl (cZ, 36, .inl (bA z))), ((q 5), .inl (cI, 10, .inl (nA ey))), ((q 6), .inl (cI, 11, .inl (nA pw))), ((q 9), .inl (cZ, 1024, .inl (bA no)))] := hD
  rcases hw_1 with ⟨rfl, hw_1⟩ | ⟨rfl, hw_1⟩
  · obtain ⟨k, hk, rfl⟩ := hw_1
    refine lv_if_eq (tgt := 24) hx hb dX6_dead_5 (by decide) (fun c_5_2 => absurd c_5_2 (by decide)) (fun c_5_2 => ?_)
    have hbk := hbv k hk
    refine lv_aload_n hx hb dX6_dead_8 rfl (lv_at hl 0 rfl) ?_
    refine va_get (D := D) (ci := 6) (v := .ref (q 0)) (C := RX6) (T := TX6) (N := 17) hx hb hts kiX6_dead_X6 hown hK hP 0 rfl rfl 3 (by decide) (hts (.fieldLink RX6 19 "TwoBanksModel" "at" "[I") (List.mem_of_getElem? (i := 1) rfl)) (fun _ h9 => h9) rfl dX6_dead_9 ?_
    refine lv_iload_n hx hb dX6_dead_12 rfl (lv_at hl 1 rfl) ?_
    refine va_iald hx hb hK hP 1 0 rfl rfl (vp_in_nI (by omega) (by omega)) dX6_dead_13 ?_
    refine k_toi (y := nI (b k)) (congrArg (nA b) (nI_clamp (by omega))) ?_
    refine kw_if_ne (tgt := 24) hx hb dX6_dead_14 (by decide) (by omega) (fun c_14_3 => ?_) (fun c_14_3 => ?_)
    · refine lv_iconst (v := (-1)) hx hb dX6_dead_24 (by decide) ?_
      exact W.iret (v := (-1)) hx hb hr (fun t ht hW => ⟨⟨(-1), (em, z, ey, pw, no), rfl, Or.inl ⟨rfl, fun ⟨k9, h1, h2, h3, h4⟩ => by have e9 := (nI_eq (by omega) (by omega)).mp h2; subst e9; omega⟩, by rw [ht]; exact hP, hD⟩, hS.F ht⟩) hS.2.2 dX6_dead_25
    · refine lv_aload_n hx hb dX6_dead_17 rfl (lv_at hl 0 rfl) ?_
      refine k_calli (wr := [((q 2), .inl (cZ, 36, .inl (bA z))), ((q 9), .inl (cZ, 1024, .inl (bA no)))]) (w2 := (fun u : (Nat → Nat) × (Nat → Nat) => match u with | (eya, pwa) => [(h0, wMo q R C tn dn ag md (fb_ct (mE b) (R * C))), ((q 0), .inl (cI, 36, .inl (nA b))), ((q 2), .inl (cZ, 36, .inl (bA z))), ((q 5), .inl (cI, 10, .inl (nA eya))), ((q 6), .inl (cI, 11, .inl (nA pwa))), ((q 9), .inl (cZ, 1024, .inl (bA no)))])) (va_runV (As := []) (rest := []) ⟨hx, hb, hml, hown, hts⟩ (c_R_opens l D cI cJ cZ h0 q R C tn dn ag md em b ey pw hR1 hR2 hC1 hC2 hRC hbv  H.size) (cwV 0 hts gX6_dead_X6_opens rfl rfl rfl (by decide +kernel) ⟨Nat.le_of_ble_eq_true rfl, Nat.le_of_ble_eq_true rfl⟩) (kPV (ci := 6) (q0 := 0) (wc := [(h0, wMo q R C tn dn ag md em), ((q 0), .inl (cI, 36, .inl (nA b))), ((q 5), .inl (cI, 10, .inl (nA ey))), ((q 6), .inl (cI, 11, .inl (nA pw)))]) hK2 hP hD [0, 1, 3, 4] rfl (by decide) rfl rfl) rfl rfl hl.1 rfl (lv_room (Nat.le_of_ble_eq_true rfl)) dX6_dead_18 ⟨Nat.le_of_ble_eq_true rfl, Nat.le_of_ble_eq_true rfl⟩) hP hD hS hA [0, 1, 3, 4] [2, 5] [2, 3, 0, 4, 5, 1] rfl rfl (by decide) (by decide) (fun ⟨_, _⟩ => rfl) (by decide) (fun r_6 u_6 H locs hw_6 hP hD hS => ?_)
      obtain ⟨eya_4, pwa_5⟩ := u_6
      have hP : va_P D vwCl [(h0, wMo q R C tn dn ag md (fb_ct (mE b) (R * C))), ((q 0), .inl (cI, 36, .inl (nA b))), ((q 2), .inl (cZ, 36, .inl (bA z))), ((q 5), .inl (cI, 10, .inl (nA eya_4))), ((q 6), .inl (cI, 11, .inl (nA pwa_5))), ((q 9), .inl (cZ, 1024, .inl (bA no)))] H := hP
      have hD : va_D A [(h0, wMo q R C tn dn ag md (fb_ct (mE b) (R * C))), ((q 0), .inl (cI, 36, .inl (nA b))), ((q 2), .inl (cZ, 36, .inl (bA z))), ((q 5), .inl (cI, 10, .inl (nA eya_4))), ((q 6), .inl (cI, 11, .inl (nA pwa_5))), ((q 9), .inl (cZ, 1024, .inl (bA no)))] := hD
      obtain ⟨hw_6, hey9, hpw⟩ := hw_6
      rcases hw_6 with ⟨rfl, hw_6⟩ | ⟨rfl, hw_6⟩
      · have hec : (fb_ct (mE b) (R * C)) ≤ 10 := hw_6
        have hey : ∀ k, k < (fb_ct (mE b) (R * C)) → eya_4 k < R * C := fun k hk => (ey_lt hey9 hec k hk).1
        have hin := ey_inj hey9 hec
        have hb0 : ∀ k, k < (fb_ct (mE b) (R * C)) → b (eya_4 k) = 0 := fun k hk => (ey_lt hey9 hec k hk).2.1
        have h2n := p2_le hec
        refine lv_if_ne (tgt := 26) hx hb dX6_dead_21 (by decide) (fun c_21_7 => ?_) (fun c_21_7 => absurd c_21_7 (by decide))
        refine lv_aload_n hx hb dX6_dead_26 rfl (lv_at hl 0 rfl) ?_
        refine k_callv (wr := []) (w2 := (fun u : (Nat → Bool) × (Nat → Bool) => match u with | (za, noa) => [(h0, wMo q R C tn dn ag md (fb_ct (mE b) (R * C))), ((q 0), .inl (cI, 36, .inl (nA b))), ((q 2), .inl (cZ, 36, .inl (bA za))), ((q 5), .inl (cI, 10, .inl (nA eya_4))), ((q 6), .inl (cI, 11, .inl (nA pwa_5))), ((q 9), .inl (cZ, 1024, .inl (bA noa)))])) (va_runV (As := []) (rest := []) ⟨hx, hb, hml, hown, hts⟩ (c_R_fillings0 l D cI cJ cZ h0 q R C tn dn ag md (fb_ct (mE b) (R * C)) b eya_4 pwa_5 z no hR1 hR2 hC1 hC2 hRC hbv hey hpw (by omega) hin hb0  H.size) (cwV 0 hts gX6_dead_X6_fillings0 rfl rfl rfl (by decide +kernel) ⟨Nat.le_of_ble_eq_true rfl, Nat.le_of_ble_eq_true rfl⟩) (kPV (ci := 6) (q0 := 0) (wc := [(h0, wMo q R C tn dn ag md (fb_ct (mE b) (R * C))), ((q 0), .inl (cI, 36, .inl (nA b))), ((q 2), .inl (cZ, 36, .inl (bA z))), ((q 5), .inl (cI, 10, .inl (nA eya_4))), ((q 6), .inl (cI, 11, .inl (nA pwa_5))), ((q 9), .inl (cZ, 1024, .inl (bA no)))]) hK2 hP hD [0, 1, 2, 3, 4, 5] rfl (by decide) rfl rfl) rfl rfl hl.1 rfl (lv_room (Nat.le_of_ble_eq_true rfl)) dX6_dead_27 ⟨Nat.le_of_ble_eq_true rfl, Nat.le_of_ble_eq_true rfl⟩) hP hD hS hA [0, 1, 2, 3, 4, 5] [] [0, 1, 2, 3, 4, 5] rfl rfl (by decide) (by decide) (fun ⟨_, _⟩ => rfl) (by decide) (fun u_10 H locs hw_10 hP hD hS => ?_)
        obtain ⟨za_8, noa_9⟩ := u_10
        have hP : va_P D vwCl [(h0, wMo q R C tn dn ag md (fb_ct (mE b) (R * C))), ((q 0), .inl (cI, 36, .inl (nA b))), ((q 2), .inl (cZ, 36, .inl (bA za_8))), ((q 5), .inl (cI, 10, .inl (nA eya_4))), ((q 6), .inl (cI, 11, .inl (nA pwa_5))), ((q 9), .inl (cZ, 1024, .inl (bA noa_9)))] H := hP
        have hD : va_D A [(h0, wMo q R C tn dn ag md (fb_ct (mE b) (R * C))), ((q 0), .inl (cI, 36, .inl (nA b))), ((q 2), .inl (cZ, 36, .inl (bA za_8))), ((q 5), .inl (cI, 10, .inl (nA eya_4))), ((q 6), .inl (cI, 11, .inl (nA pwa_5))), ((q 9), .inl (cZ, 1024, .inl (bA noa_9)))] := hD
        have hno9 : ∀ i, i < 2 ^ (fb_ct (mE b) (R * C)) → noa_9 i = nJ R C b eya_4 (fb_ct (mE b) (R * C)) i := hw_10
        have hey9 : eyP b (R * C) eya_4 := hey9
        have hbk0 : b k = 0 := by omega
        have hrk : fb_ct (mE b) k < (fb_ct (mE b) (R * C)) := by have h8 := fb_ct_mono (mE b) (show k + 1 ≤ R * C by omega); rw [ct_1 (decide_eq_true hbk0)] at h8; omega
        have hek : eya_4 (fb_ct (mE b) k) = k := hey9 k hk hbk0 (by omega)
        refine lv_iconst (v := (nI 0)) hx hb dX6_dead_30 (by decide) ?_
        refine lv_istore_n (lv' := [(2, .int (nI 0)), (0, .ref h0), (1, .int (nI k))]) hx hb dX6_dead_31 rfl hl (by decide) rfl (fun ls hl => ?_)
        refine kw_loop (σ := Nat) (fun (i9 : Nat) H locs ls => va_P D vwCl [(h0, wMo q R C tn dn ag md (fb_ct (mE b) (R * C))), ((q 0), .inl (cI, 36, .inl (nA b))), ((q 2), .inl (cZ, 36, .inl (bA za_8))), ((q 5), .inl (cI, 10, .inl (nA eya_4))), ((q 6), .inl (cI, 11, .inl (nA pwa_5))), ((q 9), .inl (cZ, 1024, .inl (bA noa_9)))] H ∧ va_D A [(h0, wMo q R C tn dn ag md (fb_ct (mE b) (R * C))), ((q 0), .inl (cI, 36, .inl (nA b))), ((q 2), .inl (cZ, 36, .inl (bA za_8))), ((q 5), .inl (cI, 10, .inl (nA eya_4))), ((q 6), .inl (cI, 11, .inl (nA pwa_5))), ((q 9), .inl (cZ, 1024, .inl (bA noa_9)))] ∧ va_S A s.heap H locs ∧ lv_has ls 3 [(0, .ref h0), (1, .int (nI k)), (2, .int (nI i9))] ∧ (i9 ≤ fb_ct (mE b) k)) (fun (i9 : Nat) => fb_ct (mE b) k - i9) 0 ⟨hP, hD, hS, lv_sub hl [1, 2, 0] rfl, Nat.zero_le _⟩ ?_
        clear hP hD hS hl
        rintro i9 H locs ls ⟨hP, hD, hS, hl, hi9⟩ ih_32
        have hP : va_P D vwCl [(h0, wMo q R C tn dn ag md (fb_ct (mE b) (R * C))), ((q 0), .inl (cI, 36, .inl (nA b))), ((q 2), .inl (cZ, 36, .inl (bA za_8))), ((q 5), .inl (cI, 10, .inl (nA eya_4))), ((q 6), .inl (cI, 11, .inl (nA pwa_5))), ((q 9), .inl (cZ, 1024, .inl (bA noa_9)))] H := hP
        have hD : va_D A [(h0, wMo q R C tn dn ag md (fb_ct (mE b) (R * C))), ((q 0), .inl (cI, 36, .inl (nA b))), ((q 2), .inl (cZ, 36, .inl (bA za_8))), ((q 5), .inl (cI, 10, .inl (nA eya_4))), ((q 6), .inl (cI, 11, .inl (nA pwa_5))), ((q 9), .inl (cZ, 1024, .inl (bA noa_9)))] := hD
        have hl : lv_has ls 3 [(0, .ref h0), (1, .int (nI k)), (2, .int (nI i9))] := hl
        have hel := hey i9 (by omega)
        have hi9 : i9 ≤ fb_ct (mE b) k := hi9
        refine lv_aload_n hx hb dX6_dead_32 rfl (lv_at hl 0 rfl) ?_
        refine va_get (D := D) (ci := 6) (v := .ref (q 5)) (C := RX6) (T := TX6) (N := 17) hx hb hts kiX6_dead_X6 hown hK hP 0 rfl rfl 12 (by decide) (hts (.fieldLink RX6 40 "TwoBanksModel" "empty" "[I") (List.mem_of_getElem? (i := 2) rfl)) (fun _ h9 => h9) rfl dX6_dead_33 ?_
        refine lv_iload_n hx hb dX6_dead_36 rfl (lv_at hl 2 rfl) ?_
        refine va_iald hx hb hK hP 3 0 rfl rfl (vp_in_nI (by omega) (by omega)) dX6_dead_37 ?_
        refine k_toi (y := nI (eya_4 i9)) (congrArg (nA eya_4) (nI_clamp (by omega))) ?_
        refine lv_iload_n hx hb dX6_dead_38 rfl (lv_at hl 1 rfl) ?_
        refine kw_icmp_eq (tgt := 48) hx hb dX6_dead_39 (by decide) (by omega) (by omega) (fun c_39_11 => ?_) (fun c_39_11 => ?_)
        · have hik : i9 = fb_ct (mE b) k := by have h8 := (ey_lt hey9 hec i9 (by omega)).2.2; rw [c_39_11] at h8; exact h8.symm
          refine lv_aload_n hx hb dX6_dead_48 rfl (lv_at hl 0 rfl) ?_
          refine lv_iload_n hx hb dX6_dead_49 rfl (lv_at hl 2 rfl) ?_
          refine k_calli (wr := [((q 0), .inl (cI, 36, .inl (nA b))), ((q 2), .inl (cZ, 36, .inl (bA za_8))), ((q 5), .inl (cI, 10, .inl (nA eya_4))), ((q 6), .inl (cI, 11, .inl (nA pwa_5)))]) (w2 := (fun _ : Unit => [(h0, wMo q R C tn dn ag md (fb_ct (mE b) (R * C))), ((q 0), .inl (cI, 36, .inl (nA b))), ((q 2), .inl (cZ, 36, .inl (bA za_8))), ((q 5), .inl (cI, 10, .inl (nA eya_4))), ((q 6), .inl (cI, 11, .inl (nA pwa_5))), ((q 9), .inl (cZ, 1024, .inl (bA noa_9)))])) (va_runV (As := [.int (nI i9)]) (rest := []) ⟨hx, hb, hml, hown, hts⟩ (c_R_isDead l D cI cJ cZ h0 q R C tn dn ag md (fb_ct (mE b) (R * C)) noa_9 i9 (by omega) (by omega)  H.size) (cwV 1 hts gX6_dead_X6_isDead rfl rfl rfl (by decide +kernel) ⟨Nat.le_of_ble_eq_true rfl, Nat.le_of_ble_eq_true rfl⟩) (kPV (ci := 6) (q0 := 0) (wc := [(h0, wMo q R C tn dn ag md (fb_ct (mE b) (R * C))), ((q 9), .inl (cZ, 1024, .inl (bA noa_9)))]) hK2 hP hD [0, 5] rfl (by decide) rfl rfl) rfl rfl hl.1 rfl (lv_room (Nat.le_of_ble_eq_true rfl)) dX6_dead_50 ⟨Nat.le_of_ble_eq_true rfl, Nat.le_of_ble_eq_true rfl⟩) hP hD hS hA [0, 5] [1, 2, 3, 4] [4, 0, 1, 2, 3, 5] rfl rfl (by decide) (by decide) (fun _ => rfl) (by decide) (fun r_12 u_12 H locs hw_12 hP hD hS => ?_)
          have hP : va_P D vwCl [(h0, wMo q R C tn dn ag md (fb_ct (mE b) (R * C))), ((q 0), .inl (cI, 36, .inl (nA b))), ((q 2), .inl (cZ, 36, .inl (bA za_8))), ((q 5), .inl (cI, 10, .inl (nA eya_4))), ((q 6), .inl (cI, 11, .inl (nA pwa_5))), ((q 9), .inl (cZ, 1024, .inl (bA noa_9)))] H := hP
          have hD : va_D A [(h0, wMo q R C tn dn ag md (fb_ct (mE b) (R * C))), ((q 0), .inl (cI, 36, .inl (nA b))), ((q 2), .inl (cZ, 36, .inl (bA za_8))), ((q 5), .inl (cI, 10, .inl (nA eya_4))), ((q 6), .inl (cI, 11, .inl (nA pwa_5))), ((q 9), .inl (cZ, 1024, .inl (bA noa_9)))] := hD
          rcases hw_12 with ⟨rfl, hw_12⟩ | ⟨rfl, hw_12⟩
          · skip
            refine lv_if_eq (tgt := 60) hx hb dX6_dead_53 (by decide) (fun c_53_13 => absurd c_53_13 (by decide)) (fun c_53_13 => ?_)
            refine lv_iconst (v := (nI 1)) hx hb dX6_dead_56 (by decide) ?_
            refine lv_goto (tgt := 61) hx hb dX6_dead_57 (by decide) ?_
            exact W.iret (v := (nI 1)) hx hb hr (fun t ht hW => ⟨⟨(nI 1), ((fb_ct (mE b) (R * C)), za_8, eya_4, pwa_5, noa_9), rfl, Or.inr ⟨hec, k, eya_4, hk, rfl, hbk0, hey9, Or.inl ⟨rfl, fun i hi => by have h8 := hw_12 i hi; rw [hik, hno9 i hi, hno9 _ (Nat.xor_lt_two_pow hi (Nat.pow_lt_pow_right (by decide) hrk))] at h8; exact h8⟩⟩, by rw [ht]; exact hP, hD⟩, hS.F ht⟩) hS.2.2 dX6_dead_61
          · skip
            refine lv_if_eq (tgt := 60) hx hb dX6_dead_53 (by decide) (fun c_53_14 => ?_) (fun c_53_14 => absurd c_53_14 (by decide))
            refine lv_iconst (v := (nI 0)) hx hb dX6_dead_60 (by decide) ?_
            exact W.iret (v := (nI 0)) hx hb hr (fun t ht hW => ⟨⟨(nI 0), ((fb_ct (mE b) (R * C)), za_8, eya_4, pwa_5, noa_9), rfl, Or.inr ⟨hec, k, eya_4, hk, rfl, hbk0, hey9, Or.inr ⟨rfl, fun h9 => hw_12 (fun i hi => by rw [hik, hno9 i hi, hno9 _ (Nat.xor_lt_two_pow hi (Nat.pow_lt_pow_right (by decide) hrk))]; exact h9 i hi)⟩⟩, by rw [ht]; exact hP, hD⟩, hS.F ht⟩) hS.2.2 dX6_dead_61
        · have hik : i9 ≠ fb_ct (mE b) k := fun h8 => c_39_11 (by rw [h8]; exact hek)
          refine lv_iinc (v := (nI (i9 + 1))) (lv' := [(2, .int (nI (i9 + 1))), (0, .ref h0), (1, .int (nI k))]) hx hb dX6_dead_42 hl (k := 2) rfl (k_inc _ 1) (by decide) rfl (fun ls hl => ?_)
          refine lv_goto (tgt := 32) hx hb dX6_dead_45 (by decide) ?_
          exact ih_32 (i9 + 1) _ _ _ (by show fb_ct (mE b) k - (i9 + 1) < fb_ct (mE b) k - i9; omega) ⟨hP, hD, hS, lv_sub hl [1, 2, 0] rfl, by omega⟩
      · skip
        refine lv_if_ne (tgt := 26) hx hb dX6_dead_21 (by decide) (fun c_21_15 => absurd c_21_15 (by decide)) (fun c_21_15 => ?_)
        refine lv_iconst (v := (-1)) hx hb dX6_dead_24 (by decide) ?_
        exact W.iret (v := (-1)) hx hb hr (fun t ht hW => ⟨⟨(-1), ((fb_ct (mE b) (R * C)), z, eya_4, pwa_5, no), rfl, Or.inl ⟨rfl, fun ⟨k9, h1, h2, h3, h4⟩ => by have e9 := (nI_eq (by omega) (by omega)).mp h2; subst e9; omega⟩, by rw [ht]; exact hP, hD⟩, hS.F ht⟩) hS.2.2 dX6_dead_25
  · skip
    refine lv_if_eq (tgt := 24) hx hb dX6_dead_5 (by decide) (fun c_5_16 => ?_) (fun c_5_16 => absurd c_5_16 (by decide))
    refine lv_iconst (v := (-1)) hx hb dX6_dead_24 (by decide) ?_
    exact W.iret (v := (-1)) hx hb hr (fun t ht hW => ⟨⟨(-1), (em, z, ey, pw, no), rfl, Or.inl ⟨rfl, fun ⟨k9, h1, h2, _⟩ => hw_1 ⟨k9, h1, h2⟩⟩, by rw [ht]; exact hP, hD⟩, hS.F ht⟩) hS.2.2 dX6_dead_25
