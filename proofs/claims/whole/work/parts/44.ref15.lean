theorem mLb_t {R C : Nat} {b : Nat → Nat} {F x : Nat} {z : Nat → Bool} (hz : ∀ f, f < R * C → (z f = true ↔ mG R C b F f)) (h0 : b x = 0) (h : ∃ y, y < R * C ∧ adj C y x ∧ z y = true) : mLb R C b F x = true := mLb_iff.mpr ⟨h0, by obtain ⟨y, h1, h2, h3⟩ := h; exact ⟨y, h1, h2, (hz y h1).mp h3⟩⟩
theorem mLb_n {R C : Nat} {b : Nat → Nat} {F x : Nat} {z : Nat → Bool} (hz : ∀ f, f < R * C → (z f = true ↔ mG R C b F f)) (h : ¬ ∃ y, y < R * C ∧ adj C y x ∧ z y = true) : mLb R C b F x = false := mLb_f (fun ⟨_, y, h1, h2, h3⟩ => h ⟨y, h1, h2, (hz y h1).mpr h3⟩)
noncomputable def lkV (R C : Nat) (b : Nat → Nat) (F : Nat) : Nat → Nat
  | 0 => fb_ct (mGb R C b F) (R * C)
  | 1 => mOr R C b F (R * C)
  | _ => fb_ct (mLb R C b F) (R * C)
theorem kiX6_look_X6 : ∀ w ∈ u_ws RX6 TX6 17, w ∈ wsX6_look := fun w h => List.mem_cons_of_mem _ (List.mem_append_right _ h)
set_option maxHeartbeats 4000000 in
set_option maxRecDepth 100000 in
theorem c_R_look (l : Launch) (D : va_G) (cI cJ cZ : ClassId) (h0 : Nat) (q : Nat → Nat) (R C tn dn ag md em : Nat) (b : Nat → Nat) (z : Nat → Bool) (f wh : Int32) (hR1 : 1 ≤ R) (hR2 : R ≤ 6) (hC1 : 1 ≤ C) (hC2 : C ≤ 6) (hRC : R * C ≤ 36) (hbv : ∀ f, f < R * C → b f ≤ 2) (sz : Nat) : kMI l yX6_look wsX6_look 4 92 D cI cJ cZ [.ref h0, .int f, .int wh] [(h0, wMo q R C tn dn ag md em), ((q 0), .inl (cI, 36, .inl (nA b))), ((q 2), .inl (cZ, 36, .inl (bA z)))] sz (fun r (_ : Nat → Bool) => (r = -1 ∧ ¬ ((∃ k, k < R * C ∧ f = nI k ∧ 0 < b k) ∧ 0 ≤ wh.toInt ∧ wh.toInt ≤ 2)) ∨ (∃ k w, k < R * C ∧ f = nI k ∧ 0 < b k ∧ w ≤ 2 ∧ wh = nI w ∧ r = nI (lkV R C b k w))) (fun za : Nat → Bool => [(h0, wMo q R C tn dn ag md em), ((q 0), .inl (cI, 36, .inl (nA b))), ((q 2), .inl (cZ, 36, .inl (bA za)))]) := by
  refine Met.ofW (cc := cX6_look) (maxL := 5) (ret := (some .int)) (by decide) rfl ?_
  intro p e s m args below meth c s₁ B hml hv
  obtain ⟨rfl, hsz, hP, ⟨hK, hN⟩, hD0⟩ := hv
  have hx := B.exec
  have hb := B.bytes
  have hr := B.returns
  have hts := atoms_spec (ws := wsX6_look) B.pre
  have hown : s.vm.findClass RX6 = some m.cls := findClass_of_methodNamed B.named
  have hlocks := B.notSynchronized
  subst hsz
  have hD := hD0.self (sz := s.heap.size)
  generalize hAe : va_A [(h0, wMo q R C tn dn ag md em), ((q 0), .inl (cI, 36, .inl (nA b))), ((q 2), .inl (cZ, 36, .inl (bA z)))] s.heap.size = A at hD ⊢
  have hA : ∀ q : Nat, s.heap.size ≤ q → A q := fun q h => by rw [← hAe]; exact Or.inr h
  have hS : va_S A s.heap s.heap [] := va_S.rf
  have hl := lv_entry ([.ref h0, .int f, .int wh]) (n := 5) (Nat.le_of_ble_eq_true rfl)
  rw [lg_entry_eq]
  generalize (lg_sl ([.ref h0, .int f, .int wh]) ++ List.replicate (5 - (lg_sl ([.ref h0, .int f, .int wh])).length) Slot.unset).toArray = ls at hl ⊢
  have hl : lv_has ls 5 [(0, .ref h0), (1, .int f), (2, .int wh)] := hl
  have hK2 : kK D cI cJ cZ s := ⟨hK, hN⟩
  clear hD0
  refine lv_aload_n hx hb dX6_look_0 rfl (lv_at hl 0 rfl) ?_
  refine lv_iload_n hx hb dX6_look_1 rfl (lv_at hl 1 rfl) ?_
  refine k_calli (wr := [((q 2), .inl (cZ, 36, .inl (bA z)))]) (w2 := (fun _ : Unit => [(h0, wMo q R C tn dn ag md em), ((q 0), .inl (cI, 36, .inl (nA b))), ((q 2), .inl (cZ, 36, .inl (bA z)))])) (va_runV (As := [.int f]) (rest := []) ⟨hx, hb, hml, hown, hts⟩ (c_R_isStone l D cI cJ cZ h0 q R C tn dn ag md em b f hR1 hR2 hC1 hC2 hRC hbv  s.heap.size) (cwV 1 hts gX6_look_X6_isStone rfl rfl rfl (by decide +kernel) ⟨Nat.le_of_ble_eq_true rfl, Nat.le_of_ble_eq_true rfl⟩) (kPV (ci := 6) (q0 := 0) (wc := [(h0, wMo q R C tn dn ag md em), ((q 0), .inl (cI, 36, .inl (nA b)))]) hK2 hP hD [0, 1] rfl (by decide) rfl rfl) rfl rfl hl.1 rfl (lv_room (Nat.le_of_ble_eq_true rfl)) dX6_look_2 ⟨Nat.le_of_ble_eq_true rfl, Nat.le_of_ble_eq_true rfl⟩) hP hD hS hA [0, 1] [2] [1, 2, 0] rfl rfl (by decide) (by decide) (fun _ => rfl) (by decide) (fun r_1 u_1 H locs hw_1 hP hD hS => ?_)
  have hP : va_P D vwCl [(h0, wMo q R C tn dn ag md em), ((q 0), .inl (cI, 36, .inl (nA b))), ((q 2), .inl (cZ, 36, .inl (bA z)))] H := hP
  have hD : va_D A [(h0, wMo q R C tn dn ag md em), ((q 0), .inl (cI, 36, .inl (nA b))), ((q 2), .inl (cZ, 36, .inl (bA z)))] := hD
  rcases hw_1 with ⟨rfl, hw_1⟩ | ⟨rfl, hw_1⟩
  · obtain ⟨k, hk, rfl, hb0⟩ := hw_1
    refine lv_if_eq (tgt := 17) hx hb dX6_look_5 (by decide) (fun c_5_2 => absurd c_5_2 (by decide)) (fun c_5_2 => ?_)
    refine lv_iload_n hx hb dX6_look_8 rfl (lv_at hl 2 rfl) ?_
    refine lv_iconst (v := (nI 0)) hx hb dX6_look_9 (by decide) ?_
    refine lv_iconst (v := (nI 2)) hx hb dX6_look_10 (by decide) ?_
    refine k_calli (wr := [(h0, wMo q R C tn dn ag md em), ((q 0), .inl (cI, 36, .inl (nA b))), ((q 2), .inl (cZ, 36, .inl (bA z)))]) (w2 := (fun _ : Unit => [(h0, wMo q R C tn dn ag md em), ((q 0), .inl (cI, 36, .inl (nA b))), ((q 2), .inl (cZ, 36, .inl (bA z)))])) (va_runS (As := [.int wh, .int (nI 0), .int (nI 2)]) (rest := []) ⟨hx, hb, hml, hown, hts⟩ (c_R_lies l D cI cJ cZ wh (nI 0) (nI 2) (wh.toInt) ((0 : Nat) : Int) ((2 : Nat) : Int) rfl (nI_toInt (by omega)) (nI_toInt (by omega)) H.size) (va_cwS 3 hts gX6_look_X6_lies rfl rfl rfl (by decide +kernel) ⟨Nat.le_of_ble_eq_true rfl, Nat.le_of_ble_eq_true rfl⟩) (kPS (wc := []) hK2 hP hD [] rfl (by decide)) rfl rfl hl.1 rfl (lv_room (Nat.le_of_ble_eq_true rfl)) dX6_look_11 ⟨Nat.le_of_ble_eq_true rfl, Nat.le_of_ble_eq_true rfl⟩) hP hD hS hA [] [0, 1, 2] [0, 1, 2] rfl rfl (by decide) (by decide) (fun _ => rfl) (by decide) (fun r_3 u_3 H locs hw_3 hP hD hS => ?_)
    have hP : va_P D vwCl [(h0, wMo q R C tn dn ag md em), ((q 0), .inl (cI, 36, .inl (nA b))), ((q 2), .inl (cZ, 36, .inl (bA z)))] H := hP
    have hD : va_D A [(h0, wMo q R C tn dn ag md em), ((q 0), .inl (cI, 36, .inl (nA b))), ((q 2), .inl (cZ, 36, .inl (bA z)))] := hD
    rcases hw_3 with ⟨rfl, hw_3⟩ | ⟨rfl, hw_3⟩
    · skip
      refine lv_if_ne (tgt := 19) hx hb dX6_look_14 (by decide) (fun c_14_4 => ?_) (fun c_14_4 => absurd c_14_4 (by decide))
      obtain ⟨w, -, hw2, rfl⟩ := rng_nat hw_3.1 hw_3.2
      rcases (show w = 0 ∨ w = 1 ∨ w = 2 by omega) with rfl | rfl | rfl
      · refine lv_aload_n hx hb dX6_look_19 rfl (lv_at hl 0 rfl) ?_
        refine lv_iload_n hx hb dX6_look_20 rfl (lv_at hl 1 rfl) ?_
        refine k_callv (wr := []) (w2 := (fun za : Nat → Bool => [(h0, wMo q R C tn dn ag md em), ((q 0), .inl (cI, 36, .inl (nA b))), ((q 2), .inl (cZ, 36, .inl (bA za)))])) (va_runV (As := [.int (nI k)]) (rest := []) ⟨hx, hb, hml, hown, hts⟩ (c_R_groupOf l D cI cJ cZ h0 q R C tn dn ag md em b z k hR1 hR2 hC1 hC2 hRC hbv (by omega)  H.size) (cwV 1 hts gX6_look_X6_groupOf rfl rfl rfl (by decide +kernel) ⟨Nat.le_of_ble_eq_true rfl, Nat.le_of_ble_eq_true rfl⟩) (kPV (ci := 6) (q0 := 0) (wc := [(h0, wMo q R C tn dn ag md em), ((q 0), .inl (cI, 36, .inl (nA b))), ((q 2), .inl (cZ, 36, .inl (bA z)))]) hK2 hP hD [0, 1, 2] rfl (by decide) rfl rfl) rfl rfl hl.1 rfl (lv_room (Nat.le_of_ble_eq_true rfl)) dX6_look_21 ⟨Nat.le_of_ble_eq_true rfl, Nat.le_of_ble_eq_true rfl⟩) hP hD hS hA [0, 1, 2] [] [0, 1, 2] rfl rfl (by decide) (by decide) (fun _ => rfl) (by decide) (fun u_6 H locs hw_6 hP hD hS => ?_)
        obtain ⟨za_5, rfl⟩ : ∃ z, z = u_6 := ⟨_, rfl⟩
        have hP : va_P D vwCl [(h0, wMo q R C tn dn ag md em), ((q 0), .inl (cI, 36, .inl (nA b))), ((q 2), .inl (cZ, 36, .inl (bA za_5)))] H := hP
        have hD : va_D A [(h0, wMo q R C tn dn ag md em), ((q 0), .inl (cI, 36, .inl (nA b))), ((q 2), .inl (cZ, 36, .inl (bA za_5)))] := hD
        have hz9 := hw_6
        refine lv_iconst (v := (nI 0)) hx hb dX6_look_24 (by decide) ?_
        refine lv_istore_n (lv' := [(3, .int (nI 0)), (0, .ref h0), (1, .int (nI k)), (2, .int (nI 0))]) hx hb dX6_look_25 rfl hl (by decide) rfl (fun ls hl => ?_)
        refine lv_iconst (v := (nI 0)) hx hb dX6_look_26 (by decide) ?_
        refine lv_istore (lv' := [(4, .int (nI 0)), (3, .int (nI 0)), (0, .ref h0), (1, .int (nI k)), (2, .int (nI 0))]) hx hb dX6_look_27 hl (by decide) rfl (fun ls hl => ?_)
        refine kw_loop (σ := Nat × Nat) (fun zz H locs ls => match zz with | (n, g) => va_P D vwCl [(h0, wMo q R C tn dn ag md em), ((q 0), .inl (cI, 36, .inl (nA b))), ((q 2), .inl (cZ, 36, .inl (bA za_5)))] H ∧ va_D A [(h0, wMo q R C tn dn ag md em), ((q 0), .inl (cI, 36, .inl (nA b))), ((q 2), .inl (cZ, 36, .inl (bA za_5)))] ∧ va_S A s.heap H locs ∧ lv_has ls 5 [(0, .ref h0), (1, .int (nI k)), (2, .int (nI 0)), (3, .int (nI n)), (4, .int (nI g))] ∧ (g ≤ R * C) ∧ (n = fb_ct (mGb R C b k) g)) (fun zz => match zz with | (n, g) => R * C - g) (0, 0) ⟨hP, hD, hS, lv_sub hl [2, 3, 4, 1, 0] rfl, Nat.zero_le _, rfl⟩ ?_
        clear hP hD hS hl
        rintro ⟨n, g⟩ H locs ls ⟨hP, hD, hS, hl, hg9, hn9⟩ ih_29
        have hP : va_P D vwCl [(h0, wMo q R C tn dn ag md em), ((q 0), .inl (cI, 36, .inl (nA b))), ((q 2), .inl (cZ, 36, .inl (bA za_5)))] H := hP
        have hD : va_D A [(h0, wMo q R C tn dn ag md em), ((q 0), .inl (cI, 36, .inl (nA b))), ((q 2), .inl (cZ, 36, .inl (bA za_5)))] := hD
        have hl : lv_has ls 5 [(0, .ref h0), (1, .int (nI k)), (2, .int (nI 0)), (3, .int (nI n)), (4, .int (nI g))] := hl
        have hg9 : g ≤ R * C := hg9
        have hn9 : n = fb_ct (mGb R C b k) g := hn9
        refine lv_iload hx hb dX6_look_29 (lv_at hl 4 rfl) ?_
        refine lv_aload_n hx hb dX6_look_31 rfl (lv_at hl 0 rfl) ?_
        refine k_calli (wr := [((q 0), .inl (cI, 36, .inl (nA b))), ((q 2), .inl (cZ, 36, .inl (bA za_5)))]) (w2 := (fun _ : Unit => [(h0, wMo q R C tn dn ag md em), ((q 0), .inl (cI, 36, .inl (nA b))), ((q 2), .inl (cZ, 36, .inl (bA za_5)))])) (va_runV (As := []) (rest := [.int (nI g)]) ⟨hx, hb, hml, hown, hts⟩ (c_R_fields l D cI cJ cZ h0 q R C tn dn ag md em  H.size) (cwV 0 hts gX6_look_X6_fields rfl rfl rfl (by decide +kernel) ⟨Nat.le_of_ble_eq_true rfl, Nat.le_of_ble_eq_true rfl⟩) (kPV (ci := 6) (q0 := 0) (wc := [(h0, wMo q R C tn dn ag md em)]) hK2 hP hD [0] rfl (by decide) rfl rfl) rfl rfl hl.1 rfl (lv_room (Nat.le_of_ble_eq_true rfl)) dX6_look_32 ⟨Nat.le_of_ble_eq_true rfl, Nat.le_of_ble_eq_true rfl⟩) hP hD hS hA [0] [1, 2] [2, 0, 1] rfl rfl (by decide) (by decide) (fun _ => rfl) (by decide) (fun r_7 u_7 H locs hw_7 hP hD hS => ?_)
        have hP : va_P D vwCl [(h0, wMo q R C tn dn ag md em), ((q 0), .inl (cI, 36, .inl (nA b))), ((q 2), .inl (cZ, 36, .inl (bA za_5)))] H := hP
        have hD : va_D A [(h0, wMo q R C tn dn ag md em), ((q 0), .inl (cI, 36, .inl (nA b))), ((q 2), .inl (cZ, 36, .inl (bA za_5)))] := hD
        subst hw_7
        refine kw_icmp_ge (tgt := 126) hx hb dX6_look_35 (by decide) (by omega) (by omega) (fun c_35_8 => ?_) (fun c_35_8 => ?_)
        · refine lv_iload_n hx hb dX6_look_126 rfl (lv_at hl 3 rfl) ?_
          exact W.iret (v := (nI n)) hx hb hr (fun t ht hW => ⟨⟨(nI n), za_5, rfl, Or.inr ⟨k, 0, hk, rfl, hb0, by decide, rfl, by rw [hn9, show g = R * C by omega]; rfl⟩, by rw [ht]; exact hP, hD⟩, hS.F ht⟩) hS.2.2 dX6_look_127
        · have hgl : g < R * C := c_35_8
          have hbg := hbv g hgl
          have hzb : (za_5 g).toNat ≤ 1 := Bool.toNat_le (za_5 g)
          refine lv_iload_n hx hb dX6_look_38 rfl (lv_at hl 2 rfl) ?_
          refine lv_if_ne (tgt := 60) hx hb dX6_look_39 (by decide) (fun c_39_9 => absurd c_39_9 (by decide)) (fun c_39_9 => ?_)
          refine lv_iload_n hx hb dX6_look_42 rfl (lv_at hl 3 rfl) ?_
          refine lv_aload_n hx hb dX6_look_43 rfl (lv_at hl 0 rfl) ?_
          refine va_get (D := D) (ci := 6) (v := .ref (q 2)) (C := RX6) (T := TX6) (N := 17) hx hb hts kiX6_look_X6 hown hK hP 0 rfl rfl 8 (by decide) (hts (.fieldLink RX6 30 "TwoBanksModel" "isReached" "[Z") (List.mem_of_getElem? (i := 1) rfl)) (fun _ h9 => h9) rfl dX6_look_44 ?_
          refine lv_iload hx hb dX6_look_47 (lv_at hl 4 rfl) ?_
          refine va_zald hx hb hK hP 2 2 rfl rfl (vp_in_nI (by omega) (by omega)) dX6_look_49 ?_
          refine k_toi (y := nI ((za_5 g).toNat)) (congrArg (bA za_5) (nI_clamp (by omega))) ?_
          refine kw_if_eq (tgt := 57) hx hb dX6_look_50 (by decide) (by omega) (fun c_50_10 => ?_) (fun c_50_10 => ?_)
          · have hm9 : mGb R C b k g = false := (mGb_z (hz9 g hgl)).trans (bz_f c_50_10)
            refine lv_iconst (v := (nI 0)) hx hb dX6_look_57 (by decide) ?_
            refine lv_iadd hx hb dX6_look_58 ?_
            refine k_toi (y := nI (n + 0)) (nI_add _ _) ?_
            refine lv_istore_n (lv' := [(3, .int (nI (n + 0))), (0, .ref h0), (1, .int (nI k)), (2, .int (nI 0)), (4, .int (nI g))]) hx hb dX6_look_59 rfl hl (by decide) rfl (fun ls hl => ?_)
            refine lv_iload_n hx hb dX6_look_60 rfl (lv_at hl 3 rfl) ?_
            refine lv_iconst (v := (nI 1)) hx hb dX6_look_61 (by decide) ?_
            refine lv_icmp_ne (tgt := 88) hx hb dX6_look_62 (by decide) (fun c_62_11 => ?_) (fun c_62_11 => absurd c_62_11 (by decide))
            refine lv_iload_n hx hb dX6_look_88 rfl (lv_at hl 3 rfl) ?_
            refine lv_iconst (v := (nI 2)) hx hb dX6_look_89 (by decide) ?_
            refine lv_icmp_ne (tgt := 120) hx hb dX6_look_90 (by decide) (fun c_90_12 => ?_) (fun c_90_12 => absurd c_90_12 (by decide))
            refine lv_iinc (v := (nI (g + 1))) (lv' := [(4, .int (nI (g + 1))), (3, .int (nI (n + 0))), (0, .ref h0), (1, .int (nI k)), (2, .int (nI 0))]) hx hb dX6_look_120 hl (k := 4) rfl (k_inc _ 1) (by decide) rfl (fun ls hl => ?_)
            refine lv_goto (tgt := 29) hx hb dX6_look_123 (by decide) ?_
            exact ih_29 ((n + 0), (g + 1)) _ _ _ (by show R * C - (g + 1) < R * C - g; omega) ⟨hP, hD, hS, lv_sub hl [2, 3, 4, 1, 0] rfl, by omega, by rw [ct_0 hm9]; exact hn9⟩
          · have hm9 : mGb R C b k g = true := (mGb_z (hz9 g hgl)).trans (bz_t c_50_10)
            refine lv_iconst (v := (nI 1)) hx hb dX6_look_53 (by decide) ?_
            refine lv_goto (tgt := 58) hx hb dX6_look_54 (by decide) ?_
            refine lv_iadd hx hb dX6_look_58 ?_
            refine k_toi (y := nI (n + 1)) (nI_add _ _) ?_
            refine lv_istore_n (lv' := [(3, .int (nI (n + 1))), (0, .ref h0), (1, .int (nI k)), (2, .int (nI 0)), (4, .int (nI g))]) hx hb dX6_look_59 rfl hl (by decide) rfl (fun ls hl => ?_)
            refine lv_iload_n hx hb dX6_look_60 rfl (lv_at hl 3 rfl) ?_
            refine lv_iconst (v := (nI 1)) hx hb dX6_look_61 (by decide) ?_
            refine lv_icmp_ne (tgt := 88) hx hb dX6_look_62 (by decide) (fun c_62_13 => ?_) (fun c_62_13 => absurd c_62_13 (by decide))
            refine lv_iload_n hx hb dX6_look_88 rfl (lv_at hl 3 rfl) ?_
            refine lv_iconst (v := (nI 2)) hx hb dX6_look_89 (by decide) ?_
            refine lv_icmp_ne (tgt := 120) hx hb dX6_look_90 (by decide) (fun c_90_14 => ?_) (fun c_90_14 => absurd c_90_14 (by decide))
            refine lv_iinc (v := (nI (g + 1))) (lv' := [(4, .int (nI (g + 1))), (3, .int (nI (n + 1))), (0, .ref h0), (1, .int (nI k)), (2, .int (nI 0))]) hx hb dX6_look_120 hl (k := 4) rfl (k_inc _ 1) (by decide) rfl (fun ls hl => ?_)
            refine lv_goto (tgt := 29) hx hb dX6_look_123 (by decide) ?_
            exact ih_29 ((n + 1), (g + 1)) _ _ _ (by show R * C - (g + 1) < R * C - g; omega) ⟨hP, hD, hS, lv_sub hl [2, 3, 4, 1, 0] rfl, by omega, by rw [ct_1 hm9, ← hn9]⟩
      · refine lv_aload_n hx hb dX6_look_19 rfl (lv_at hl 0 rfl) ?_
        refine lv_iload_n hx hb dX6_look_20 rfl (lv_at hl 1 rfl) ?_
        refine k_callv (wr := []) (w2 := (fun za : Nat → Bool => [(h0, wMo q R C tn dn ag md em), ((q 0), .inl (cI, 36, .inl (nA b))), ((q 2), .inl (cZ, 36, .inl (bA za)))])) (va_runV (As := [.int (nI k)]) (rest := []) ⟨hx, hb, hml, hown, hts⟩ (c_R_groupOf l D cI cJ cZ h0 q R C tn dn ag md em b z k hR1 hR2 hC1 hC2 hRC hbv (by omega)  H.size) (cwV 1 hts gX6_look_X6_groupOf rfl rfl rfl (by decide +kernel) ⟨Nat.le_of_ble_eq_true rfl, Nat.le_of_ble_eq_true rfl⟩) (kPV (ci := 6) (q0 := 0) (wc := [(h0, wMo q R C tn dn ag md em), ((q 0), .inl (cI, 36, .inl (nA b))), ((q 2), .inl (cZ, 36, .inl (bA z)))]) hK2 hP hD [0, 1, 2] rfl (by decide) rfl rfl) rfl rfl hl.1 rfl (lv_room (Nat.le_of_ble_eq_true rfl)) dX6_look_21 ⟨Nat.le_of_ble_eq_true rfl, Nat.le_of_ble_eq_true rfl⟩) hP hD hS hA [0, 1, 2] [] [0, 1, 2] rfl rfl (by decide) (by decide) (fun _ => rfl) (by decide) (fun u_16 H locs hw_16 hP hD hS => ?_)
        obtain ⟨za_15, rfl⟩ : ∃ z, z = u_16 := ⟨_, rfl⟩
        have hP : va_P D vwCl [(h0, wMo q R C tn dn ag md em), ((q 0), .inl (cI, 36, .inl (nA b))), ((q 2), .inl (cZ, 36, .inl (bA za_15)))] H := hP
        have hD : va_D A [(h0, wMo q R C tn dn ag md em), ((q 0), .inl (cI, 36, .inl (nA b))), ((q 2), .inl (cZ, 36, .inl (bA za_15)))] := hD
        have hz9 := hw_16
        refine lv_iconst (v := (nI 0)) hx hb dX6_look_24 (by decide) ?_
        refine lv_istore_n (lv' := [(3, .int (nI 0)), (0, .ref h0), (1, .int (nI k)), (2, .int (nI 1))]) hx hb dX6_look_25 rfl hl (by decide) rfl (fun ls hl => ?_)
        refine lv_iconst (v := (nI 0)) hx hb dX6_look_26 (by decide) ?_
        refine lv_istore (lv' := [(4, .int (nI 0)), (3, .int (nI 0)), (0, .ref h0), (1, .int (nI k)), (2, .int (nI 1))]) hx hb dX6_look_27 hl (by decide) rfl (fun ls hl => ?_)
        refine kw_loop (σ := Nat × Nat) (fun zz H locs ls => match zz with | (n, g) => va_P D vwCl [(h0, wMo q R C tn dn ag md em), ((q 0), .inl (cI, 36, .inl (nA b))), ((q 2), .inl (cZ, 36, .inl (bA za_15)))] H ∧ va_D A [(h0, wMo q R C tn dn ag md em), ((q 0), .inl (cI, 36, .inl (nA b))), ((q 2), .inl (cZ, 36, .inl (bA za_15)))] ∧ va_S A s.heap H locs ∧ lv_has ls 5 [(0, .ref h0), (1, .int (nI k)), (2, .int (nI 1)), (3, .int (nI n)), (4, .int (nI g))] ∧ (g ≤ R * C) ∧ (n = mOr R C b k g)) (fun zz => match zz with | (n, g) => R * C - g) (0, 0) ⟨hP, hD, hS, lv_sub hl [2, 3, 4, 1, 0] rfl, Nat.zero_le _, rfl⟩ ?_
        clear hP hD hS hl
        rintro ⟨n, g⟩ H locs ls ⟨hP, hD, hS, hl, hg9, hn9⟩ ih_29
        have hP : va_P D vwCl [(h0, wMo q R C tn dn ag md em), ((q 0), .inl (cI, 36, .inl (nA b))), ((q 2), .inl (cZ, 36, .inl (bA za_15)))] H := hP
        have hD : va_D A [(h0, wMo q R C tn dn ag md em), ((q 0), .inl (cI, 36, .inl (nA b))), ((q 2), .inl (cZ, 36, .inl (bA za_15)))] := hD
        have hl : lv_has ls 5 [(0, .ref h0), (1, .int (nI k)), (2, .int (nI 1)), (3, .int (nI n)), (4, .int (nI g))] := hl
        have hg9 : g ≤ R * C := hg9
        have hn9 : n = mOr R C b k g := hn9
        refine lv_iload hx hb dX6_look_29 (lv_at hl 4 rfl) ?_
        refine lv_aload_n hx hb dX6_look_31 rfl (lv_at hl 0 rfl) ?_
        refine k_calli (wr := [((q 0), .inl (cI, 36, .inl (nA b))), ((q 2), .inl (cZ, 36, .inl (bA za_15)))]) (w2 := (fun _ : Unit => [(h0, wMo q R C tn dn ag md em), ((q 0), .inl (cI, 36, .inl (nA b))), ((q 2), .inl (cZ, 36, .inl (bA za_15)))])) (va_runV (As := []) (rest := [.int (nI g)]) ⟨hx, hb, hml, hown, hts⟩ (c_R_fields l D cI cJ cZ h0 q R C tn dn ag md em  H.size) (cwV 0 hts gX6_look_X6_fields rfl rfl rfl (by decide +kernel) ⟨Nat.le_of_ble_eq_true rfl, Nat.le_of_ble_eq_true rfl⟩) (kPV (ci := 6) (q0 := 0) (wc := [(h0, wMo q R C tn dn ag md em)]) hK2 hP hD [0] rfl (by decide) rfl rfl) rfl rfl hl.1 rfl (lv_room (Nat.le_of_ble_eq_true rfl)) dX6_look_32 ⟨Nat.le_of_ble_eq_true rfl, Nat.le_of_ble_eq_true rfl⟩) hP hD hS hA [0] [1, 2] [2, 0, 1] rfl rfl (by decide) (by decide) (fun _ => rfl) (by decide) (fun r_17 u_17 H locs hw_17 hP hD hS => ?_)
        have hP : va_P D vwCl [(h0, wMo q R C tn dn ag md em), ((q 0), .inl (cI, 36, .inl (nA b))), ((q 2), .inl (cZ, 36, .inl (bA za_15)))] H := hP
        have hD : va_D A [(h0, wMo q R C tn dn ag md em), ((q 0), .inl (cI, 36, .inl (nA b))), ((q 2), .inl (cZ, 36, .inl (bA za_15)))] := hD
        subst hw_17
        refine kw_icmp_ge (tgt := 126) hx hb dX6_look_35 (by decide) (by omega) (by omega) (fun c_35_18 => ?_) (fun c_35_18 => ?_)
        · refine lv_iload_n hx hb dX6_look_126 rfl (lv_at hl 3 rfl) ?_
          exact W.iret (v := (nI n)) hx hb hr (fun t ht hW => ⟨⟨(nI n), za_15, rfl, Or.inr ⟨k, 1, hk, rfl, hb0, by decide, rfl, by rw [hn9, show g = R * C by omega]; rfl⟩, by rw [ht]; exact hP, hD⟩, hS.F ht⟩) hS.2.2 dX6_look_127
        · have hgl : g < R * C := c_35_18
          have hbg := hbv g hgl
          have hzb : (za_15 g).toNat ≤ 1 := Bool.toNat_le (za_15 g)
          refine lv_iload_n hx hb dX6_look_38 rfl (lv_at hl 2 rfl) ?_
          refine lv_if_ne (tgt := 60) hx hb dX6_look_39 (by decide) (fun c_39_19 => ?_) (fun c_39_19 => absurd c_39_19 (by decide))
          refine lv_iload_n hx hb dX6_look_60 rfl (lv_at hl 2 rfl) ?_
          refine lv_iconst (v := (nI 1)) hx hb dX6_look_61 (by decide) ?_
          refine lv_icmp_ne (tgt := 88) hx hb dX6_look_62 (by decide) (fun c_62_20 => absurd c_62_20 (by decide)) (fun c_62_20 => ?_)
          refine lv_iload_n hx hb dX6_look_65 rfl (lv_at hl 3 rfl) ?_
          refine lv_aload_n hx hb dX6_look_66 rfl (lv_at hl 0 rfl) ?_
          refine va_get (D := D) (ci := 6) (v := .ref (q 2)) (C := RX6) (T := TX6) (N := 17) hx hb hts kiX6_look_X6 hown hK hP 0 rfl rfl 8 (by decide) (hts (.fieldLink RX6 30 "TwoBanksModel" "isReached" "[Z") (List.mem_of_getElem? (i := 1) rfl)) (fun _ h9 => h9) rfl dX6_look_67 ?_
          refine lv_iload hx hb dX6_look_70 (lv_at hl 4 rfl) ?_
          refine va_zald hx hb hK hP 2 2 rfl rfl (vp_in_nI (by omega) (by omega)) dX6_look_72 ?_
          refine k_toi (y := nI ((za_15 g).toNat)) (congrArg (bA za_15) (nI_clamp (by omega))) ?_
          refine kw_if_eq (tgt := 85) hx hb dX6_look_73 (by decide) (by omega) (fun c_73_21 => ?_) (fun c_73_21 => ?_)
          · have hm9 : mGb R C b k g = false := (mGb_z (hz9 g hgl)).trans (bz_f c_73_21)
            refine lv_iconst (v := (nI 0)) hx hb dX6_look_85 (by decide) ?_
            refine lv_ior hx hb dX6_look_86 ?_
            refine k_toi (y := nI (n ||| 0)) (fa_or _ _) ?_
            refine lv_istore_n (lv' := [(3, .int (nI (n ||| 0))), (0, .ref h0), (1, .int (nI k)), (2, .int (nI 1)), (4, .int (nI g))]) hx hb dX6_look_87 rfl hl (by decide) rfl (fun ls hl => ?_)
            refine lv_iload_n hx hb dX6_look_88 rfl (lv_at hl 3 rfl) ?_
            refine lv_iconst (v := (nI 2)) hx hb dX6_look_89 (by decide) ?_
            refine lv_icmp_ne (tgt := 120) hx hb dX6_look_90 (by decide) (fun c_90_22 => ?_) (fun c_90_22 => absurd c_90_22 (by decide))
            refine lv_iinc (v := (nI (g + 1))) (lv' := [(4, .int (nI (g + 1))), (3, .int (nI (n ||| 0))), (0, .ref h0), (1, .int (nI k)), (2, .int (nI 1))]) hx hb dX6_look_120 hl (k := 4) rfl (k_inc _ 1) (by decide) rfl (fun ls hl => ?_)
            refine lv_goto (tgt := 29) hx hb dX6_look_123 (by decide) ?_
            exact ih_29 ((n ||| 0), (g + 1)) _ _ _ (by show R * C - (g + 1) < R * C - g; omega) ⟨hP, hD, hS, lv_sub hl [2, 3, 4, 1, 0] rfl, by omega, by rw [mOr_f hm9, ← hn9]; exact Nat.or_zero _⟩
          · have hm9 : mGb R C b k g = true := (mGb_z (hz9 g hgl)).trans (bz_t c_73_21)
            refine lv_aload_n hx hb dX6_look_76 rfl (lv_at hl 0 rfl) ?_
            refine lv_iload hx hb dX6_look_77 (lv_at hl 4 rfl) ?_
            refine k_calli (wr := [((q 0), .inl (cI, 36, .inl (nA b))), ((q 2), .inl (cZ, 36, .inl (bA za_15)))]) (w2 := (fun _ : Unit => [(h0, wMo q R C tn dn ag md em), ((q 0), .inl (cI, 36, .inl (nA b))), ((q 2), .inl (cZ, 36, .inl (bA za_15)))])) (va_runV (As := [.int (nI g)]) (rest := [.int (nI n)]) ⟨hx, hb, hml, hown, hts⟩ (c_R_banks l D cI cJ cZ h0 q R C tn dn ag md em g hR1 hR2 hC1 hC2 hRC (by omega)  H.size) (cwV 1 hts gX6_look_X6_banks rfl rfl rfl (by decide +kernel) ⟨Nat.le_of_ble_eq_true rfl, Nat.le_of_ble_eq_true rfl⟩) (kPV (ci := 6) (q0 := 0) (wc := [(h0, wMo q R C tn dn ag md em)]) hK2 hP hD [0] rfl (by decide) rfl rfl) rfl rfl hl.1 rfl (lv_room (Nat.le_of_ble_eq_true rfl)) dX6_look_79 ⟨Nat.le_of_ble_eq_true rfl, Nat.le_of_ble_eq_true rfl⟩) hP hD hS hA [0] [1, 2] [2, 0, 1] rfl rfl (by decide) (by decide) (fun _ => rfl) (by decide) (fun r_23 u_23 H locs hw_23 hP hD hS => ?_)
            have hP : va_P D vwCl [(h0, wMo q R C tn dn ag md em), ((q 0), .inl (cI, 36, .inl (nA b))), ((q 2), .inl (cZ, 36, .inl (bA za_15)))] H := hP
            have hD : va_D A [(h0, wMo q R C tn dn ag md em), ((q 0), .inl (cI, 36, .inl (nA b))), ((q 2), .inl (cZ, 36, .inl (bA za_15)))] := hD
            subst hw_23
            refine lv_goto (tgt := 86) hx hb dX6_look_82 (by decide) ?_
            refine lv_ior hx hb dX6_look_86 ?_
            refine k_toi (y := nI (n ||| (mBk R C g))) (fa_or _ _) ?_
            refine lv_istore_n (lv' := [(3, .int (nI (n ||| (mBk R C g)))), (0, .ref h0), (1, .int (nI k)), (2, .int (nI 1)), (4, .int (nI g))]) hx hb dX6_look_87 rfl hl (by decide) rfl (fun ls hl => ?_)
            refine lv_iload_n hx hb dX6_look_88 rfl (lv_at hl 3 rfl) ?_
            refine lv_iconst (v := (nI 2)) hx hb dX6_look_89 (by decide) ?_
            refine lv_icmp_ne (tgt := 120) hx hb dX6_look_90 (by decide) (fun c_90_24 => ?_) (fun c_90_24 => absurd c_90_24 (by decide))
            refine lv_iinc (v := (nI (g + 1))) (lv' := [(4, .int (nI (g + 1))), (3, .int (nI (n ||| (mBk R C g)))), (0, .ref h0), (1, .int (nI k)), (2, .int (nI 1))]) hx hb dX6_look_120 hl (k := 4) rfl (k_inc _ 1) (by decide) rfl (fun ls hl => ?_)
            refine lv_goto (tgt := 29) hx hb dX6_look_123 (by decide) ?_
            exact ih_29 ((n ||| (mBk R C g)), (g + 1)) _ _ _ (by show R * C - (g + 1) < R * C - g; omega) ⟨hP, hD, hS, lv_sub hl [2, 3, 4, 1, 0] rfl, by omega, by rw [mOr_t hm9, ← hn9]⟩
      · refine lv_aload_n hx hb dX6_look_19 rfl (lv_at hl 0 rfl) ?_
        refine lv_iload_n hx hb dX6_look_20 rfl (lv_at hl 1 rfl) ?_
        refine k_callv (wr := []) (w2 := (fun za : Nat → Bool => [(h0, wMo q R C tn dn ag md em), ((q 0), .inl (cI, 36, .inl (nA b))), ((q 2), .inl (cZ, 36, .inl (bA za)))])) (va_runV (As := [.int (nI k)]) (rest := []) ⟨hx, hb, hml, hown, hts⟩ (c_R_groupOf l D cI cJ cZ h0 q R C tn dn ag md em b z k hR1 hR2 hC1 hC2 hRC hbv (by omega)  H.size) (cwV 1 hts gX6_look_X6_groupOf rfl rfl rfl (by decide +kernel) ⟨Nat.le_of_ble_eq_true rfl, Nat.le_of_ble_eq_true rfl⟩) (kPV (ci := 6) (q0 := 0) (wc := [(h0, wMo q R C tn dn ag md em), ((q 0), .inl (cI, 36, .inl (nA b))), ((q 2), .inl (cZ, 36, .inl (bA z)))]) hK2 hP hD [0, 1, 2] rfl (by decide) rfl rfl) rfl rfl hl.1 rfl (lv_room (Nat.le_of_ble_eq_true rfl)) dX6_look_21 ⟨Nat.le_of_ble_eq_true rfl, Nat.le_of_ble_eq_true rfl⟩) hP hD hS hA [0, 1, 2] [] [0, 1, 2] rfl rfl (by decide) (by decide) (fun _ => rfl) (by decide) (fun u_26 H locs hw_26 hP hD hS => ?_)
        obtain ⟨za_25, rfl⟩ : ∃ z, z = u_26 := ⟨_, rfl⟩
        have hP : va_P D vwCl [(h0, wMo q R C tn dn ag md em), ((q 0), .inl (cI, 36, .inl (nA b))), ((q 2), .inl (cZ, 36, .inl (bA za_25)))] H := hP
        have hD : va_D A [(h0, wMo q R C tn dn ag md em), ((q 0), .inl (cI, 36, .inl (nA b))), ((q 2), .inl (cZ, 36, .inl (bA za_25)))] := hD
        have hz9 := hw_26
        refine lv_iconst (v := (nI 0)) hx hb dX6_look_24 (by decide) ?_
        refine lv_istore_n (lv' := [(3, .int (nI 0)), (0, .ref h0), (1, .int (nI k)), (2, .int (nI 2))]) hx hb dX6_look_25 rfl hl (by decide) rfl (fun ls hl => ?_)
        refine lv_iconst (v := (nI 0)) hx hb dX6_look_26 (by decide) ?_
        refine lv_istore (lv' := [(4, .int (nI 0)), (3, .int (nI 0)), (0, .ref h0), (1, .int (nI k)), (2, .int (nI 2))]) hx hb dX6_look_27 hl (by decide) rfl (fun ls hl => ?_)
        refine kw_loop (σ := Nat × Nat) (fun zz H locs ls => match zz with | (n, g) => va_P D vwCl [(h0, wMo q R C tn dn ag md em), ((q 0), .inl (cI, 36, .inl (nA b))), ((q 2), .inl (cZ, 36, .inl (bA za_25)))] H ∧ va_D A [(h0, wMo q R C tn dn ag md em), ((q 0), .inl (cI, 36, .inl (nA b))), ((q 2), .inl (cZ, 36, .inl (bA za_25)))] ∧ va_S A s.heap H locs ∧ lv_has ls 5 [(0, .ref h0), (1, .int (nI k)), (2, .int (nI 2)), (3, .int (nI n)), (4, .int (nI g))] ∧ (g ≤ R * C) ∧ (n = fb_ct (mLb R C b k) g)) (fun zz => match zz with | (n, g) => R * C - g) (0, 0) ⟨hP, hD, hS, lv_sub hl [2, 3, 4, 1, 0] rfl, Nat.zero_le _, rfl⟩ ?_
        clear hP hD hS hl
        rintro ⟨n, g⟩ H locs ls ⟨hP, hD, hS, hl, hg9, hn9⟩ ih_29
        have hP : va_P D vwCl [(h0, wMo q R C tn dn ag md em), ((q 0), .inl (cI, 36, .inl (nA b))), ((q 2), .inl (cZ, 36, .inl (bA za_25)))] H := hP
        have hD : va_D A [(h0, wMo q R C tn dn ag md em), ((q 0), .inl (cI, 36, .inl (nA b))), ((q 2), .inl (cZ, 36, .inl (bA za_25)))] := hD
        have hl : lv_has ls 5 [(0, .ref h0), (1, .int (nI k)), (2, .int (nI 2)), (3, .int (nI n)), (4, .int (nI g))] := hl
        have hg9 : g ≤ R * C := hg9
        have hn9 : n = fb_ct (mLb R C b k) g := hn9
        refine lv_iload hx hb dX6_look_29 (lv_at hl 4 rfl) ?_
        refine lv_aload_n hx hb dX6_look_31 rfl (lv_at hl 0 rfl) ?_
        refine k_calli (wr := [((q 0), .inl (cI, 36, .inl (nA b))), ((q 2), .inl (cZ, 36, .inl (bA za_25)))]) (w2 := (fun _ : Unit => [(h0, wMo q R C tn dn ag md em), ((q 0), .inl (cI, 36, .inl (nA b))), ((q 2), .inl (cZ, 36, .inl (bA za_25)))])) (va_runV (As := []) (rest := [.int (nI g)]) ⟨hx, hb, hml, hown, hts⟩ (c_R_fields l D cI cJ cZ h0 q R C tn dn ag md em  H.size) (cwV 0 hts gX6_look_X6_fields rfl rfl rfl (by decide +kernel) ⟨Nat.le_of_ble_eq_true rfl, Nat.le_of_ble_eq_true rfl⟩) (kPV (ci := 6) (q0 := 0) (wc := [(h0, wMo q R C tn dn ag md em)]) hK2 hP hD [0] rfl (by decide) rfl rfl) rfl rfl hl.1 rfl (lv_room (Nat.le_of_ble_eq_true rfl)) dX6_look_32 ⟨Nat.le_of_ble_eq_true rfl, Nat.le_of_ble_eq_true rfl⟩) hP hD hS hA [0] [1, 2] [2, 0, 1] rfl rfl (by decide) (by decide) (fun _ => rfl) (by decide) (fun r_27 u_27 H locs hw_27 hP hD hS => ?_)
        have hP : va_P D vwCl [(h0, wMo q R C tn dn ag md em), ((q 0), .inl (cI, 36, .inl (nA b))), ((q 2), .inl (cZ, 36, .inl (bA za_25)))] H := hP
        have hD : va_D A [(h0, wMo q R C tn dn ag md em), ((q 0), .inl (cI, 36, .inl (nA b))), ((q 2), .inl (cZ, 36, .inl (bA za_25)))] := hD
        subst hw_27
        refine kw_icmp_ge (tgt := 126) hx hb dX6_look_35 (by decide) (by omega) (by omega) (fun c_35_28 => ?_) (fun c_35_28 => ?_)
        · refine lv_iload_n hx hb dX6_look_126 rfl (lv_at hl 3 rfl) ?_
          exact W.iret (v := (nI n)) hx hb hr (fun t ht hW => ⟨⟨(nI n), za_25, rfl, Or.inr ⟨k, 2, hk, rfl, hb0, by decide, rfl, by rw [hn9, show g = R * C by omega]; rfl⟩, by rw [ht]; exact hP, hD⟩, hS.F ht⟩) hS.2.2 dX6_look_127
        · have hgl : g < R * C := c_35_28
          have hbg := hbv g hgl
          have hzb : (za_25 g).toNat ≤ 1 := Bool.toNat_le (za_25 g)
          refine lv_iload_n hx hb dX6_look_38 rfl (lv_at hl 2 rfl) ?_
          refine lv_if_ne (tgt := 60) hx hb dX6_look_39 (by decide) (fun c_39_29 => ?_) (fun c_39_29 => absurd c_39_29 (by decide))
          refine lv_iload_n hx hb dX6_look_60 rfl (lv_at hl 2 rfl) ?_
          refine lv_iconst (v := (nI 1)) hx hb dX6_look_61 (by decide) ?_
          refine lv_icmp_ne (tgt := 88) hx hb dX6_look_62 (by decide) (fun c_62_30 => ?_) (fun c_62_30 => absurd c_62_30 (by decide))
          refine lv_iload_n hx hb dX6_look_88 rfl (lv_at hl 2 rfl) ?_
          refine lv_iconst (v := (nI 2)) hx hb dX6_look_89 (by decide) ?_
          refine lv_icmp_ne (tgt := 120) hx hb dX6_look_90 (by decide) (fun c_90_31 => absurd c_90_31 (by decide)) (fun c_90_31 => ?_)
          refine lv_iload_n hx hb dX6_look_93 rfl (lv_at hl 3 rfl) ?_
          refine lv_aload_n hx hb dX6_look_94 rfl (lv_at hl 0 rfl) ?_
          refine va_get (D := D) (ci := 6) (v := .ref (q 0)) (C := RX6) (T := TX6) (N := 17) hx hb hts kiX6_look_X6 hown hK hP 0 rfl rfl 3 (by decide) (hts (.fieldLink RX6 19 "TwoBanksModel" "at" "[I") (List.mem_of_getElem? (i := 2) rfl)) (fun _ h9 => h9) rfl dX6_look_95 ?_
          refine lv_iload hx hb dX6_look_98 (lv_at hl 4 rfl) ?_
          refine va_iald hx hb hK hP 1 0 rfl rfl (vp_in_nI (by omega) (by omega)) dX6_look_100 ?_
          refine k_toi (y := nI (b g)) (congrArg (nA b) (nI_clamp (by omega))) ?_
          refine kw_if_ne (tgt := 117) hx hb dX6_look_101 (by decide) (by omega) (fun c_101_32 => ?_) (fun c_101_32 => ?_)
          · have hm9 : mLb R C b k g = false := mLb_f (fun h9 => by have := h9.1; omega)
            refine lv_iconst (v := (nI 0)) hx hb dX6_look_117 (by decide) ?_
            refine lv_iadd hx hb dX6_look_118 ?_
            refine k_toi (y := nI (n + 0)) (nI_add _ _) ?_
            refine lv_istore_n (lv' := [(3, .int (nI (n + 0))), (0, .ref h0), (1, .int (nI k)), (2, .int (nI 2)), (4, .int (nI g))]) hx hb dX6_look_119 rfl hl (by decide) rfl (fun ls hl => ?_)
            refine lv_iinc (v := (nI (g + 1))) (lv' := [(4, .int (nI (g + 1))), (3, .int (nI (n + 0))), (0, .ref h0), (1, .int (nI k)), (2, .int (nI 2))]) hx hb dX6_look_120 hl (k := 4) rfl (k_inc _ 1) (by decide) rfl (fun ls hl => ?_)
            refine lv_goto (tgt := 29) hx hb dX6_look_123 (by decide) ?_
            exact ih_29 ((n + 0), (g + 1)) _ _ _ (by show R * C - (g + 1) < R * C - g; omega) ⟨hP, hD, hS, lv_sub hl [2, 3, 4, 1, 0] rfl, by omega, by rw [ct_0 hm9]; exact hn9⟩
          · have hb9 : b g = 0 := c_101_32
            refine lv_aload_n hx hb dX6_look_104 rfl (lv_at hl 0 rfl) ?_
            refine lv_iload hx hb dX6_look_105 (lv_at hl 4 rfl) ?_
            refine k_calli (wr := [((q 0), .inl (cI, 36, .inl (nA b)))]) (w2 := (fun _ : Unit => [(h0, wMo q R C tn dn ag md em), ((q 0), .inl (cI, 36, .inl (nA b))), ((q 2), .inl (cZ, 36, .inl (bA za_25)))])) (va_runV (As := [.int (nI g)]) (rest := [.int (nI n)]) ⟨hx, hb, hml, hown, hts⟩ (c_R_isBeside l D cI cJ cZ h0 q R C tn dn ag md em za_25 g hR1 hR2 hC1 hC2 hRC (by omega)  H.size) (cwV 1 hts gX6_look_X6_isBeside rfl rfl rfl (by decide +kernel) ⟨Nat.le_of_ble_eq_true rfl, Nat.le_of_ble_eq_true rfl⟩) (kPV (ci := 6) (q0 := 0) (wc := [(h0, wMo q R C tn dn ag md em), ((q 2), .inl (cZ, 36, .inl (bA za_25)))]) hK2 hP hD [0, 2] rfl (by decide) rfl rfl) rfl rfl hl.1 rfl (lv_room (Nat.le_of_ble_eq_true rfl)) dX6_look_107 ⟨Nat.le_of_ble_eq_true rfl, Nat.le_of_ble_eq_true rfl⟩) hP hD hS hA [0, 2] [1] [1, 0, 2] rfl rfl (by decide) (by decide) (fun _ => rfl) (by decide) (fun r_33 u_33 H locs hw_33 hP hD hS => ?_)
            have hP : va_P D vwCl [(h0, wMo q R C tn dn ag md em), ((q 0), .inl (cI, 36, .inl (nA b))), ((q 2), .inl (cZ, 36, .inl (bA za_25)))] H := hP
            have hD : va_D A [(h0, wMo q R C tn dn ag md em), ((q 0), .inl (cI, 36, .inl (nA b))), ((q 2), .inl (cZ, 36, .inl (bA za_25)))] := hD
            rcases hw_33 with ⟨rfl, hw_33⟩ | ⟨rfl, hw_33⟩
            · have hm9 : mLb R C b k g = true := mLb_t hz9 hb9 hw_33
              refine lv_if_eq (tgt := 117) hx hb dX6_look_110 (by decide) (fun c_110_34 => absurd c_110_34 (by decide)) (fun c_110_34 => ?_)
              refine lv_iconst (v := (nI 1)) hx hb dX6_look_113 (by decide) ?_
              refine lv_goto (tgt := 118) hx hb dX6_look_114 (by decide) ?_
              refine lv_iadd hx hb dX6_look_118 ?_
              refine k_toi (y := nI (n + 1)) (nI_add _ _) ?_
              refine lv_istore_n (lv' := [(3, .int (nI (n + 1))), (0, .ref h0), (1, .int (nI k)), (2, .int (nI 2)), (4, .int (nI g))]) hx hb dX6_look_119 rfl hl (by decide) rfl (fun ls hl => ?_)
              refine lv_iinc (v := (nI (g + 1))) (lv' := [(4, .int (nI (g + 1))), (3, .int (nI (n + 1))), (0, .ref h0), (1, .int (nI k)), (2, .int (nI 2))]) hx hb dX6_look_120 hl (k := 4) rfl (k_inc _ 1) (by decide) rfl (fun ls hl => ?_)
              refine lv_goto (tgt := 29) hx hb dX6_look_123 (by decide) ?_
              exact ih_29 ((n + 1), (g + 1)) _ _ _ (by show R * C - (g + 1) < R * C - g; omega) ⟨hP, hD, hS, lv_sub hl [2, 3, 4, 1, 0] rfl, by omega, by rw [ct_1 hm9, ← hn9]⟩
            · have hm9 : mLb R C b k g = false := mLb_n hz9 hw_33
              refine lv_if_eq (tgt := 117) hx hb dX6_look_110 (by decide) (fun c_110_35 => ?_) (fun c_110_35 => absurd c_110_35 (by decide))
              refine lv_iconst (v := (nI 0)) hx hb dX6_look_117 (by decide) ?_
              refine lv_iadd hx hb dX6_look_118 ?_
              refine k_toi (y := nI (n + 0)) (nI_add _ _) ?_
              refine lv_istore_n (lv' := [(3, .int (nI (n + 0))), (0, .ref h0), (1, .int (nI k)), (2, .int (nI 2)), (4, .int (nI g))]) hx hb dX6_look_119 rfl hl (by decide) rfl (fun ls hl => ?_)
              refine lv_iinc (v := (nI (g + 1))) (lv' := [(4, .int (nI (g + 1))), (3, .int (nI (n + 0))), (0, .ref h0), (1, .int (nI k)), (2, .int (nI 2))]) hx hb dX6_look_120 hl (k := 4) rfl (k_inc _ 1) (by decide) rfl (fun ls hl => ?_)
              refine lv_goto (tgt := 29) hx hb dX6_look_123 (by decide) ?_
              exact ih_29 ((n + 0), (g + 1)) _ _ _ (by show R * C - (g + 1) < R * C - g; omega) ⟨hP, hD, hS, lv_sub hl [2, 3, 4, 1, 0] rfl, by omega, by rw [ct_0 hm9]; exact hn9⟩
    · skip
      refine lv_if_ne (tgt := 19) hx hb dX6_look_14 (by decide) (fun c_14_36 => absurd c_14_36 (by decide)) (fun c_14_36 => ?_)
      refine lv_iconst (v := (-1)) hx hb dX6_look_17 (by decide) ?_
      exact W.iret (v := (-1)) hx hb hr (fun t ht hW => ⟨⟨(-1), z, rfl, Or.inl ⟨rfl, fun h9 => hw_3 h9.2⟩, by rw [ht]; exact hP, hD⟩, hS.F ht⟩) hS.2.2 dX6_look_18
  · skip
    refine lv_if_eq (tgt := 17) hx hb dX6_look_5 (by decide) (fun c_5_37 => ?_) (fun c_5_37 => absurd c_5_37 (by decide))
    refine lv_iconst (v := (-1)) hx hb dX6_look_17 (by decide) ?_
    exact W.iret (v := (-1)) hx hb hr (fun t ht hW => ⟨⟨(-1), z, rfl, Or.inl ⟨rfl, fun h9 => hw_1 h9.1⟩, by rw [ht]; exact hP, hD⟩, hS.F ht⟩) hS.2.2 dX6_look_18
