theorem kiX6_fillings_X6 : ∀ w ∈ u_ws RX6 TX6 17, w ∈ wsX6_fillings := fun w h => List.mem_cons_of_mem _ (List.mem_append_right _ h)
set_option maxHeartbeats 4000000 in
set_option maxRecDepth 100000 in
theorem c_R_fillings (l : Launch) (D : va_G) (cI cJ cZ : ClassId) (h0 : Nat) (q : Nat → Nat) (R C tn dn ag md em : Nat) (b ey pw : Nat → Nat) (z no : Nat → Bool) (hR1 : 1 ≤ R) (hR2 : R ≤ 6) (hC1 : 1 ≤ C) (hC2 : C ≤ 6) (hRC : R * C ≤ 36) (hbv : ∀ f, f < R * C → b f ≤ 2) (sz : Nat) : kMI l yX6_fillings wsX6_fillings 5 114 D cI cJ cZ [.ref h0] [(h0, wMo q R C tn dn ag md em), ((q 0), .inl (cI, 36, .inl (nA b))), ((q 2), .inl (cZ, 36, .inl (bA z))), ((q 5), .inl (cI, 10, .inl (nA ey))), ((q 6), .inl (cI, 11, .inl (nA pw))), ((q 9), .inl (cZ, 1024, .inl (bA no)))] sz (fun r (_ : (Nat → Bool) × (Nat → Nat) × (Nat → Nat) × (Nat → Bool)) => (r = -1 ∧ 10 < (fb_ct (mE b) (R * C))) ∨ ((fb_ct (mE b) (R * C)) ≤ 10 ∧ ∃ ey, eyP b (R * C) ey ∧ r = nI (fb_ct (nJ R C b ey (fb_ct (mE b) (R * C))) (2 ^ (fb_ct (mE b) (R * C)))))) (fun u : (Nat → Bool) × (Nat → Nat) × (Nat → Nat) × (Nat → Bool) => match u with | (za, eya, pwa, noa) => [(h0, wMo q R C tn dn ag md (fb_ct (mE b) (R * C))), ((q 0), .inl (cI, 36, .inl (nA b))), ((q 2), .inl (cZ, 36, .inl (bA za))), ((q 5), .inl (cI, 10, .inl (nA eya))), ((q 6), .inl (cI, 11, .inl (nA pwa))), ((q 9), .inl (cZ, 1024, .inl (bA noa)))]) := by
  refine Met.ofW (cc := cX6_fillings) (maxL := 3) (ret := (some .int)) (by decide) rfl ?_
  intro p e s m args below meth c s₁ B hml hv
  obtain ⟨rfl, hsz, hP, ⟨hK, hN⟩, hD0⟩ := hv
  have hx := B.exec
  have hb := B.bytes
  have hr := B.returns
  have hts := atoms_spec (ws := wsX6_fillings) B.pre
  have hown : s.vm.findClass RX6 = some m.cls := findClass_of_methodNamed B.named
  have hlocks := B.notSynchronized
  subst hsz
  have hD := hD0.self (sz := s.heap.size)
  generalize hAe : va_A [(h0, wMo q R C tn dn ag md em), ((q 0), .inl (cI, 36, .inl (nA b))), ((q 2), .inl (cZ, 36, .inl (bA z))), ((q 5), .inl (cI, 10, .inl (nA ey))), ((q 6), .inl (cI, 11, .inl (nA pw))), ((q 9), .inl (cZ, 1024, .inl (bA no)))] s.heap.size = A at hD ⊢
  have hA : ∀ q : Nat, s.heap.size ≤ q → A q := fun q h => by rw [← hAe]; exact Or.inr h
  have hS : va_S A s.heap s.heap [] := va_S.rf
  have hl := lv_entry ([.ref h0]) (n := 3) (Nat.le_of_ble_eq_true rfl)
  rw [lg_entry_eq]
  generalize (lg_sl ([.ref h0]) ++ List.replicate (3 - (lg_sl ([.ref h0])).length) Slot.unset).toArray = ls at hl ⊢
  have hl : lv_has ls 3 [(0, .ref h0)] := hl
  have hK2 : kK D cI cJ cZ s := ⟨hK, hN⟩
  clear hD0
  refine lv_aload_n hx hb dX6_fillings_0 rfl (lv_at hl 0 rfl) ?_
  refine k_calli (wr := [((q 2), .inl (cZ, 36, .inl (bA z))), ((q 9), .inl (cZ, 1024, .inl (bA no)))]) (w2 := (fun u : (Nat → Nat) × (Nat → Nat) => match u with | (eya, pwa) => [(h0, wMo q R C tn dn ag md (fb_ct (mE b) (R * C))), ((q 0), .inl (cI, 36, .inl (nA b))), ((q 2), .inl (cZ, 36, .inl (bA z))), ((q 5), .inl (cI, 10, .inl (nA eya))), ((q 6), .inl (cI, 11, .inl (nA pwa))), ((q 9), .inl (cZ, 1024, .inl (bA no)))])) (va_runV (As := []) (rest := []) ⟨hx, hb, hml, hown, hts⟩ (c_R_opens l D cI cJ cZ h0 q R C tn dn ag md em b ey pw hR1 hR2 hC1 hC2 hRC hbv  s.heap.size) (cwV 0 hts gX6_fillings_X6_opens rfl rfl rfl (by decide +kernel) ⟨Nat.le_of_ble_eq_true rfl, Nat.le_of_ble_eq_true rfl⟩) (kPV (ci := 6) (q0 := 0) (wc := [(h0, wMo q R C tn dn ag md em), ((q 0), .inl (cI, 36, .inl (nA b))), ((q 5), .inl (cI, 10, .inl (nA ey))), ((q 6), .inl (cI, 11, .inl (nA pw)))]) hK2 hP hD [0, 1, 3, 4] rfl (by decide) rfl rfl) rfl rfl hl.1 rfl (lv_room (Nat.le_of_ble_eq_true rfl)) dX6_fillings_1 ⟨Nat.le_of_ble_eq_true rfl, Nat.le_of_ble_eq_true rfl⟩) hP hD hS hA [0, 1, 3, 4] [2, 5] [2, 3, 0, 4, 5, 1] rfl rfl (by decide) (by decide) (fun ⟨_, _⟩ => rfl) (by decide) (fun r_3 u_3 H locs hw_3 hP hD hS => ?_)
  obtain ⟨eya_1, pwa_2⟩ := u_3
  have hP : va_P D vwCl [(h0, wMo q R C tn dn ag md (fb_ct (mE b) (R * C))), ((q 0), .inl (cI, 36, .inl (nA b))), ((q 2), .inl (cZ, 36, .inl (bA z))), ((q 5), .inl (cI, 10, .inl (nA eya_1))), ((q 6), .inl (cI, 11, .inl (nA pwa_2))), ((q 9), .inl (cZ, 1024, .inl (bA no)))] H := hP
  have hD : va_D A [(h0, wMo q R C tn dn ag md (fb_ct (mE b) (R * C))), ((q 0), .inl (cI, 36, .inl (nA b))), ((q 2), .inl (cZ, 36, .inl (bA z))), ((q 5), .inl (cI, 10, .inl (nA eya_1))), ((q 6), .inl (cI, 11, .inl (nA pwa_2))), ((q 9), .inl (cZ, 1024, .inl (bA no)))] := hD
  obtain ⟨hw_3, hey9, hpw⟩ := hw_3
  rcases hw_3 with ⟨rfl, hw_3⟩ | ⟨rfl, hw_3⟩
  · have hec : (fb_ct (mE b) (R * C)) ≤ 10 := hw_3
    have hey : ∀ k, k < (fb_ct (mE b) (R * C)) → eya_1 k < R * C := fun k hk => (ey_lt hey9 hec k hk).1
    have hin := ey_inj hey9 hec
    have hb0 : ∀ k, k < (fb_ct (mE b) (R * C)) → b (eya_1 k) = 0 := fun k hk => (ey_lt hey9 hec k hk).2.1
    have h2n := p2_le hec
    refine lv_if_ne (tgt := 9) hx hb dX6_fillings_4 (by decide) (fun c_4_4 => ?_) (fun c_4_4 => absurd c_4_4 (by decide))
    refine lv_aload_n hx hb dX6_fillings_9 rfl (lv_at hl 0 rfl) ?_
    refine k_callv (wr := []) (w2 := (fun u : (Nat → Bool) × (Nat → Bool) => match u with | (za, noa) => [(h0, wMo q R C tn dn ag md (fb_ct (mE b) (R * C))), ((q 0), .inl (cI, 36, .inl (nA b))), ((q 2), .inl (cZ, 36, .inl (bA za))), ((q 5), .inl (cI, 10, .inl (nA eya_1))), ((q 6), .inl (cI, 11, .inl (nA pwa_2))), ((q 9), .inl (cZ, 1024, .inl (bA noa)))])) (va_runV (As := []) (rest := []) ⟨hx, hb, hml, hown, hts⟩ (c_R_fillings0 l D cI cJ cZ h0 q R C tn dn ag md (fb_ct (mE b) (R * C)) b eya_1 pwa_2 z no hR1 hR2 hC1 hC2 hRC hbv hey hpw (by omega) hin hb0  H.size) (cwV 0 hts gX6_fillings_X6_fillings0 rfl rfl rfl (by decide +kernel) ⟨Nat.le_of_ble_eq_true rfl, Nat.le_of_ble_eq_true rfl⟩) (kPV (ci := 6) (q0 := 0) (wc := [(h0, wMo q R C tn dn ag md (fb_ct (mE b) (R * C))), ((q 0), .inl (cI, 36, .inl (nA b))), ((q 2), .inl (cZ, 36, .inl (bA z))), ((q 5), .inl (cI, 10, .inl (nA eya_1))), ((q 6), .inl (cI, 11, .inl (nA pwa_2))), ((q 9), .inl (cZ, 1024, .inl (bA no)))]) hK2 hP hD [0, 1, 2, 3, 4, 5] rfl (by decide) rfl rfl) rfl rfl hl.1 rfl (lv_room (Nat.le_of_ble_eq_true rfl)) dX6_fillings_10 ⟨Nat.le_of_ble_eq_true rfl, Nat.le_of_ble_eq_true rfl⟩) hP hD hS hA [0, 1, 2, 3, 4, 5] [] [0, 1, 2, 3, 4, 5] rfl rfl (by decide) (by decide) (fun ⟨_, _⟩ => rfl) (by decide) (fun u_7 H locs hw_7 hP hD hS => ?_)
    obtain ⟨za_5, noa_6⟩ := u_7
    have hP : va_P D vwCl [(h0, wMo q R C tn dn ag md (fb_ct (mE b) (R * C))), ((q 0), .inl (cI, 36, .inl (nA b))), ((q 2), .inl (cZ, 36, .inl (bA za_5))), ((q 5), .inl (cI, 10, .inl (nA eya_1))), ((q 6), .inl (cI, 11, .inl (nA pwa_2))), ((q 9), .inl (cZ, 1024, .inl (bA noa_6)))] H := hP
    have hD : va_D A [(h0, wMo q R C tn dn ag md (fb_ct (mE b) (R * C))), ((q 0), .inl (cI, 36, .inl (nA b))), ((q 2), .inl (cZ, 36, .inl (bA za_5))), ((q 5), .inl (cI, 10, .inl (nA eya_1))), ((q 6), .inl (cI, 11, .inl (nA pwa_2))), ((q 9), .inl (cZ, 1024, .inl (bA noa_6)))] := hD
    have hno9 := hw_7
    refine lv_iconst (v := (nI 0)) hx hb dX6_fillings_13 (by decide) ?_
    refine lv_istore_n (lv' := [(1, .int (nI 0)), (0, .ref h0)]) hx hb dX6_fillings_14 rfl hl (by decide) rfl (fun ls hl => ?_)
    refine lv_iconst (v := (nI 0)) hx hb dX6_fillings_15 (by decide) ?_
    refine lv_istore_n (lv' := [(2, .int (nI 0)), (1, .int (nI 0)), (0, .ref h0)]) hx hb dX6_fillings_16 rfl hl (by decide) rfl (fun ls hl => ?_)
    refine kw_loop (σ := Nat × Nat) (fun zz H locs ls => match zz with | (n9, i9) => va_P D vwCl [(h0, wMo q R C tn dn ag md (fb_ct (mE b) (R * C))), ((q 0), .inl (cI, 36, .inl (nA b))), ((q 2), .inl (cZ, 36, .inl (bA za_5))), ((q 5), .inl (cI, 10, .inl (nA eya_1))), ((q 6), .inl (cI, 11, .inl (nA pwa_2))), ((q 9), .inl (cZ, 1024, .inl (bA noa_6)))] H ∧ va_D A [(h0, wMo q R C tn dn ag md (fb_ct (mE b) (R * C))), ((q 0), .inl (cI, 36, .inl (nA b))), ((q 2), .inl (cZ, 36, .inl (bA za_5))), ((q 5), .inl (cI, 10, .inl (nA eya_1))), ((q 6), .inl (cI, 11, .inl (nA pwa_2))), ((q 9), .inl (cZ, 1024, .inl (bA noa_6)))] ∧ va_S A s.heap H locs ∧ lv_has ls 3 [(0, .ref h0), (1, .int (nI n9)), (2, .int (nI i9))] ∧ (i9 ≤ 2 ^ (fb_ct (mE b) (R * C))) ∧ (n9 = fb_ct (nJ R C b eya_1 (fb_ct (mE b) (R * C))) i9)) (fun zz => match zz with | (n9, i9) => 2 ^ (fb_ct (mE b) (R * C)) - i9) (0, 0) ⟨hP, hD, hS, lv_sub hl [2, 1, 0] rfl, Nat.zero_le _, rfl⟩ ?_
    clear hP hD hS hl
    rintro ⟨n9, i9⟩ H locs ls ⟨hP, hD, hS, hl, hi9, hn9⟩ ih_17
    have hP : va_P D vwCl [(h0, wMo q R C tn dn ag md (fb_ct (mE b) (R * C))), ((q 0), .inl (cI, 36, .inl (nA b))), ((q 2), .inl (cZ, 36, .inl (bA za_5))), ((q 5), .inl (cI, 10, .inl (nA eya_1))), ((q 6), .inl (cI, 11, .inl (nA pwa_2))), ((q 9), .inl (cZ, 1024, .inl (bA noa_6)))] H := hP
    have hD : va_D A [(h0, wMo q R C tn dn ag md (fb_ct (mE b) (R * C))), ((q 0), .inl (cI, 36, .inl (nA b))), ((q 2), .inl (cZ, 36, .inl (bA za_5))), ((q 5), .inl (cI, 10, .inl (nA eya_1))), ((q 6), .inl (cI, 11, .inl (nA pwa_2))), ((q 9), .inl (cZ, 1024, .inl (bA noa_6)))] := hD
    have hl : lv_has ls 3 [(0, .ref h0), (1, .int (nI n9)), (2, .int (nI i9))] := hl
    have hb1 : (noa_6 i9).toNat ≤ 1 := Bool.toNat_le _
    have hnb := fb_ct_le (nJ R C b eya_1 (fb_ct (mE b) (R * C))) i9
    have hi9 : i9 ≤ 2 ^ (fb_ct (mE b) (R * C)) := hi9
    have hn9 : n9 = fb_ct (nJ R C b eya_1 (fb_ct (mE b) (R * C))) i9 := hn9
    refine lv_iload_n hx hb dX6_fillings_17 rfl (lv_at hl 2 rfl) ?_
    refine lv_iconst (v := (nI 1)) hx hb dX6_fillings_18 (by decide) ?_
    refine lv_aload_n hx hb dX6_fillings_19 rfl (lv_at hl 0 rfl) ?_
    refine va_get (D := D) (ci := 6) (v := .int (nI (fb_ct (mE b) (R * C)))) (C := RX6) (T := TX6) (N := 17) hx hb hts kiX6_fillings_X6 hown hK hP 0 rfl rfl 11 (by decide) (hts (.fieldLink RX6 130 "TwoBanksModel" "empties" "I") (List.mem_of_getElem? (i := 1) rfl)) (fun _ h9 => h9) rfl dX6_fillings_20 ?_
    refine lv_ishl hx hb dX6_fillings_23 ?_
    refine k_toi (y := nI (2 ^ (fb_ct (mE b) (R * C)))) (kf_shl1 (by omega)) ?_
    refine kw_icmp_ge (tgt := 50) hx hb dX6_fillings_24 (by decide) (by omega) (by omega) (fun c_24_8 => ?_) (fun c_24_8 => ?_)
    · refine lv_iload_n hx hb dX6_fillings_50 rfl (lv_at hl 1 rfl) ?_
      exact W.iret (v := (nI n9)) hx hb hr (fun t ht hW => ⟨⟨(nI n9), (za_5, eya_1, pwa_2, noa_6), rfl, Or.inr ⟨hec, eya_1, hey9, by rw [hn9, show i9 = 2 ^ (fb_ct (mE b) (R * C)) by omega]⟩, by rw [ht]; exact hP, hD⟩, hS.F ht⟩) hS.2.2 dX6_fillings_51
    · have hil : i9 < 2 ^ (fb_ct (mE b) (R * C)) := c_24_8
      refine lv_iload_n hx hb dX6_fillings_27 rfl (lv_at hl 1 rfl) ?_
      refine lv_aload_n hx hb dX6_fillings_28 rfl (lv_at hl 0 rfl) ?_
      refine va_get (D := D) (ci := 6) (v := .ref (q 9)) (C := RX6) (T := TX6) (N := 17) hx hb hts kiX6_fillings_X6 hown hK hP 0 rfl rfl 16 (by decide) (hts (.fieldLink RX6 53 "TwoBanksModel" "isNorth" "[Z") (List.mem_of_getElem? (i := 2) rfl)) (fun _ h9 => h9) rfl dX6_fillings_29 ?_
      refine lv_iload_n hx hb dX6_fillings_32 rfl (lv_at hl 2 rfl) ?_
      refine va_zald hx hb hK hP 5 2 rfl rfl (vp_in_nI (by omega) (by omega)) dX6_fillings_33 ?_
      refine k_toi (y := nI ((noa_6 i9).toNat)) (congrArg (bA noa_6) (nI_clamp (by omega))) ?_
      refine kw_if_eq (tgt := 41) hx hb dX6_fillings_34 (by decide) (by omega) (fun c_34_9 => ?_) (fun c_34_9 => ?_)
      · have hz9 := bz_f c_34_9
        refine lv_iconst (v := (nI 0)) hx hb dX6_fillings_41 (by decide) ?_
        refine lv_iadd hx hb dX6_fillings_42 ?_
        refine k_toi (y := nI (n9 + 0)) (nI_add _ _) ?_
        refine lv_istore_n (lv' := [(1, .int (nI (n9 + 0))), (0, .ref h0), (2, .int (nI i9))]) hx hb dX6_fillings_43 rfl hl (by decide) rfl (fun ls hl => ?_)
        refine lv_iinc (v := (nI (i9 + 1))) (lv' := [(2, .int (nI (i9 + 1))), (1, .int (nI (n9 + 0))), (0, .ref h0)]) hx hb dX6_fillings_44 hl (k := 2) rfl (k_inc _ 1) (by decide) rfl (fun ls hl => ?_)
        refine lv_goto (tgt := 17) hx hb dX6_fillings_47 (by decide) ?_
        exact ih_17 ((n9 + 0), (i9 + 1)) _ _ _ (by show 2 ^ (fb_ct (mE b) (R * C)) - (i9 + 1) < 2 ^ (fb_ct (mE b) (R * C)) - i9; omega) ⟨hP, hD, hS, lv_sub hl [2, 1, 0] rfl, by omega, by rw [ct_0 (by rw [← hno9 i9 hil]; exact hz9)]; exact hn9⟩
      · have hz9 := bz_t c_34_9
        refine lv_iconst (v := (nI 1)) hx hb dX6_fillings_37 (by decide) ?_
        refine lv_goto (tgt := 42) hx hb dX6_fillings_38 (by decide) ?_
        refine lv_iadd hx hb dX6_fillings_42 ?_
        refine k_toi (y := nI (n9 + 1)) (nI_add _ _) ?_
        refine lv_istore_n (lv' := [(1, .int (nI (n9 + 1))), (0, .ref h0), (2, .int (nI i9))]) hx hb dX6_fillings_43 rfl hl (by decide) rfl (fun ls hl => ?_)
        refine lv_iinc (v := (nI (i9 + 1))) (lv' := [(2, .int (nI (i9 + 1))), (1, .int (nI (n9 + 1))), (0, .ref h0)]) hx hb dX6_fillings_44 hl (k := 2) rfl (k_inc _ 1) (by decide) rfl (fun ls hl => ?_)
        refine lv_goto (tgt := 17) hx hb dX6_fillings_47 (by decide) ?_
        exact ih_17 ((n9 + 1), (i9 + 1)) _ _ _ (by show 2 ^ (fb_ct (mE b) (R * C)) - (i9 + 1) < 2 ^ (fb_ct (mE b) (R * C)) - i9; omega) ⟨hP, hD, hS, lv_sub hl [2, 1, 0] rfl, by omega, by rw [ct_1 (by rw [← hno9 i9 hil]; exact hz9), ← hn9]⟩
  · skip
    refine lv_if_ne (tgt := 9) hx hb dX6_fillings_4 (by decide) (fun c_4_10 => absurd c_4_10 (by decide)) (fun c_4_10 => ?_)
    refine lv_iconst (v := (-1)) hx hb dX6_fillings_7 (by decide) ?_
    exact W.iret (v := (-1)) hx hb hr (fun t ht hW => ⟨⟨(-1), (z, eya_1, pwa_2, no), rfl, Or.inl ⟨rfl, hw_3⟩, by rw [ht]; exact hP, hD⟩, hS.F ht⟩) hS.2.2 dX6_fillings_8
