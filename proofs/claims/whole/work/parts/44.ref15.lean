theorem mLb_t {R C : Nat} {b : Nat → Nat} {F x : Nat} {z : Nat → Bool} (hz : ∀ f, f < R * C → (z f = true ↔ mG R C b F f)) (h0 : b x = 0) (h : ∃ y, y < R * C ∧ adj C y x ∧ z y = true) : mLb R C b F x = true := mLb_iff.mpr ⟨h0, by obtain ⟨y, h1, h2, h3⟩ := h; exact ⟨y, h1, h2, (hz y h1).mp h3⟩⟩
theorem mLb_n {R C : Nat} {b : Nat → Nat} {F x : Nat} {z : Nat → Bool} (hz : ∀ f, f < R * C → (z f = true ↔ mG R C b F f)) (h : ¬ ∃ y, y < R * C ∧ adj C y x ∧ z y = true) : mLb R C b F x = false := mLb_f (fun ⟨_, y, h1, h2, h3⟩ => h ⟨y, h1, h2, (hz y h1).mpr h3⟩)
noncomputable def lkV (R C : Nat) (b : Nat → Nat) (F : Nat) : Nat → Nat
  | 0 => fb_ct (mGb R C b F) (R * C)
  | 1 => mOr R C b F (R * C)
  | _ => fb_ct (mLb R C b F) (R * C)
theorem kiX6_look_X6 : ∀ w ∈ u_ws RX6 TX6 17, w ∈ wsX6_look := fun w h => List.mem_cons_of_mem _ (List.mem_append_right _ h)
set_option maxHeartbeats 4000000 in
set_option maxRecDepth 100000 in
theorem c_R_look (l : Launch) (D : va_G) (cI cJ cZ : ClassId) (h0 : Nat) (q : Nat → Nat) (R C tn dn ag md em : Nat) (b : Nat → Nat) (z : Nat → Bool) (f wh : Int32) (hR1 : 1 ≤ R) (hR2 : R ≤ 6) (hC1 : 1 ≤ C) (hC2 : C ≤ 6) (hRC : R * C ≤ 36) (hbv : ∀ f, f < R * C → b f ≤ 2) (sz : Nat) : kMI l yX6_look wsX6_look 4 92 D cI cJ cZ [.ref h0, .int f, .int wh] [(h0, wMo q R C tn dn ag md em), ((q 0), .inl (cI, 36, .inl (nA b))), ((q 2), .inl (cZ, 36, .inl (bA z)))] sz (fun r (_ : Nat → Bool) => (r = -1 ∧ ¬ ((∃ k, k < R * C ∧ f = nI k ∧ 0 < b k) ∧ 0 ≤ wh.toInt ∧ wh.toInt ≤ 2)) ∨ (∃ k w, k < R * C ∧ f = nI k ∧ 0 < b k ∧ w ≤ 2 ∧ wh = nI w ∧ r = nI (lkV R C b k w))) (fun za : Nat → Bool => [(h0, wMo q R C tn dn ag md em), ((q 0), .inl (cI, 36, .inl (nA b))), ((q 2), .inl (cZ, 36, .inl (bA za)))]) := by
  refine Met.ofW (cc := cX6_look) (maxL := 5) (ret := (some .int)) (by decide) rfl ?_
  intro p e s m args below meth c s₁ B hml hv
  obtain ⟨rfl, hsz, hP, ⟨hK, hN⟩, hD0⟩ := hv
  have hx := B.exec
  have hb := B.bytes
  have hr := B.returns
  have hts := atoms_spec (ws := wsX6_look) B.pre
  have hown : s.vm.findClass RX6 = some m.cls := findClass_of_methodNamed B.named
  have hlocks := B.notSynchronized
  subst hsz
  have hD := hD0.self (sz := s.heap.size)
  generalize hAe : va_A [(h0, wMo q R C tn dn ag md em), ((q 0), .inl (cI, 36, .inl (nA b))), ((q 2), .inl (cZ, 36, .inl (bA z)))] s.heap.size = A at hD ⊢
  have hA : ∀ q : Nat, s.heap.size ≤ q → A q := fun q h => by rw [← hAe]; exact Or.inr h
  have hS : va_S A s.heap s.heap [] := va_S.rf
  have hl := lv_entry ([.ref h0, .int f, .int wh]) (n := 5) (Nat.le_of_ble_eq_true rfl)
  rw [lg_entry_eq]
  generalize (lg_sl ([.ref h0, .int f, .int wh]) ++ List.replicate (5 - (lg_sl ([.ref h0, .int f, .int wh])).length) Slot.unset).toArray = ls at hl ⊢
  have hl : lv_has ls 5 [(0, .ref h0), (1, .int f), (2, .int wh)] := hl
  have hK2 : kK D cI cJ cZ s := ⟨hK, hN⟩
  clear hD0
  refine lv_aload_n hx hb dX6_look_0 rfl (lv_at hl 0 rfl) ?_
  refine lv_iload_n hx hb dX6_look_1 rfl (lv_at hl 1 rfl) ?_
  refine k_calli (wr := [((q 2), .inl (cZ, 36, .inl (bA z)))]) (w2 := (fun _ : Unit => [(h0, wMo q R C tn dn ag md em), ((q 0), .inl (cI, 36, .inl (nA b))), ((q 2), .inl (cZ, 36, .inl (bA z)))])) (va_runV (As := [.int f]) (rest := []) ⟨hx, hb, hml, hown, hts⟩ (c_R_isStone l D cI cJ cZ h0 q R C tn dn ag md em b f hR1 hR2 hC1 hC2 hRC hbv  s.heap.size) (cwV 1 hts gX6_look_X6_isStone rfl rfl rfl (by decide +kernel) ⟨Nat.le_of_ble_eq_true rfl, Nat.le_of_ble_eq_true rfl⟩) (kPV (ci := 6) (q0 := 0) (wc := [(h0, wMo q R C tn dn ag md em), ((q 0), .inl (cI, 36, .inl (nA b)))]) hK2 hP hD [0, 1] rfl (by decide) rfl rfl) rfl rfl hl.1 rfl (lv_room (Nat.le_of_ble_eq_true rfl)) dX6_look_2 ⟨Nat.le_of_ble_eq_true rfl, Nat.le_of_ble_eq_true rfl⟩) hP hD hS hA [0, 1] [2] [1, 2, 0] rfl rfl (by decide) (by decide) (fun _ => rfl) (by decide) (fun r_1 u_1 H locs hw_1 hP hD hS => ?_)
  have hP : va_P D vwCl [(h0, wMo q R C tn dn ag md em), ((q 0), .inl (cI, 36, .inl (nA b))), ((q 2), .inl (cZ, 36, .inl (bA z)))] H := hP
  have hD : va_D A [(h0, wMo q R C tn dn ag md em), ((q 0), .inl (cI, 36, .inl (nA b))), ((q 2), .inl (cZ, 36, .inl (bA z)))] := hD
  rcases hw_1 with ⟨rfl, hw_1⟩ | ⟨rfl, hw_1⟩
  · obtain ⟨k, hk, rfl, hb0⟩ := hw_1
    refine lv_if_eq (tgt := 17) hx hb dX6_look_5 (by decide) (fun c_5_2 => absurd c_5_2 (by decide)) (fun c_5_2 => ?_)
    refine lv_iload_n hx hb dX6_look_8 rfl (lv_at hl 2 rfl) ?_
    refine lv_iconst (v := (nI 0)) hx hb dX6_look_9 (by decide) ?_
    refine lv_iconst (v := (nI 2)) hx hb dX6_look_10 (by decide) ?_
    refine k_calli (wr := [(h0, wMo q R C tn dn ag md em), ((q 0), .inl (cI, 36, .inl (nA b))), ((q 2), .inl (cZ, 36, .inl (bA z)))]) (w2 := (fun _ : Unit => [(h0, wMo q R C tn dn ag md em), ((q 0), .inl (cI, 36, .inl (nA b))), ((q 2), .inl (cZ, 36, .inl (bA z)))])) (va_runS (As := [.int wh, .int (nI 0), .int (nI 2)]) (rest := []) ⟨hx, hb, hml, hown, hts⟩ (c_R_lies l D cI cJ cZ wh (nI 0) (nI 2) (wh.toInt) ((0 : Nat) : Int) ((2 : Nat) : Int) rfl (nI_toInt (by omega)) (nI_toInt (by omega)) H.size) (va_cwS 3 hts gX6_look_X6_lies rfl rfl rfl (by decide +kernel) ⟨Nat.le_of_ble_eq_true rfl, Nat.le_of_ble_eq_true rfl⟩) (kPS (wc := []) hK2 hP hD [] rfl (by decide)) rfl rfl hl.1 rfl (lv_room (Nat.le_of_ble_eq_true rfl)) dX6_look_11 ⟨Nat.le_of_ble_eq_true rfl, Nat.le_of_ble_eq_true rfl⟩) hP hD hS hA [] [0, 1, 2] [0, 1, 2] rfl rfl (by decide) (by decide) (fun _ => rfl) (by decide) (fun r_3 u_3 H locs hw_3 hP hD hS => ?_)
    have hP : va_P D vwCl [(h0, wMo q R C tn dn ag md em), ((q 0), .inl (cI, 36, .inl (nA b))), ((q 2), .inl (cZ, 36, .inl (bA z)))] H := hP
    have hD : va_D A [(h0, wMo q R C tn dn ag md em), ((q 0), .inl (cI, 36, .inl (nA b))), ((q 2), .inl (cZ, 36, .inl (bA z)))] := hD
    rcases hw_3 with ⟨rfl, hw_3⟩ | ⟨rfl, hw_3⟩
    · skip
      refine lv_if_ne (tgt := 19) hx hb dX6_look_14 (by decide) (fun c_14_4 => ?_) (fun c_14_4 => absurd c_14_4 (by decide))
      obtain ⟨w, -, hw2, rfl⟩ := rng_nat hw_3.1 hw_3.2
      rcases (show w = 0 ∨ w = 1 ∨ w = 2 by omega) with rfl | rfl | rfl
      · refine lv_aload_n hx hb dX6_look_19 rfl (lv_at hl 0 rfl) ?_
        refine lv_iload_n hx hb dX6_look_20 rfl (lv_at hl 1 rfl) ?_
        refine k_callv (wr := []) (w2 := (fun za : Nat → Bool => [(h0, wMo q R C tn dn ag md em), ((q 0), .inl (cI, 36, .inl (nA b))), ((q 2), .inl (cZ, 36, .inl (bA za)))])) (va_runV (As := [.int (nI k)]) (rest := []) ⟨hx, hb, hml, hown, hts⟩ (c_R_groupOf l D cI cJ cZ h0 q R C tn dn ag md em b z k hR1 hR2 hC1 hC2 hRC hbv (by omega)  H.size) (cwV 1 hts gX6_look_X6_groupOf rfl rfl rfl (by decide +kernel) ⟨Nat.le_of_ble_eq_true rfl, Nat.le_of_ble_eq_true rfl⟩) (kPV (ci := 6) (q0 := 0) (wc := [(h0, wMo q R C tn dn ag md em), ((q 0), .inl (cI, 36, .inl (nA b))), ((q 2), .inl (cZ, 36, .inl (bA z)))]) hK2 hP hD [0, 1, 2] rfl (by decide) rfl rfl) rfl rfl hl.1 rfl (lv_room (Nat.le_of_ble_eq_true rfl)) dX6_look_21 ⟨Nat.le_of_ble_eq_true rfl, Nat.le_of_ble_eq_true rfl⟩) hP hD hS hA [0, 1, 2] [] [0, 1, 2] rfl rfl (by decide) (by decide) (fun _ => rfl) (by decide) (fun u_6 H locs hw_6 hP hD hS => ?_)
        obtain ⟨za_5, rfl⟩ : ∃ z, z = u_6 := ⟨_, rfl⟩
        have hP : va_P D vwCl [(h0, wMo q R C tn dn ag md em), ((q 0), .inl (cI, 36, .inl (nA b))), ((q 2), .inl (cZ, 36, .inl (bA za_5)))] H := hP
        have hD : va_D A [(h0, wMo q R C tn dn ag md em), ((q 0), .inl (cI, 36, .inl (nA b))), ((q 2), .inl (cZ, 36, .inl (bA za_5)))] := hD
        have hz9 := hw_6
        refine lv_iconst (v := (nI 0)) hx hb dX6_look_24 (by decide) ?_
        refine lv_istore_n (lv' := [(3, .int (nI 0)), (0, .ref h0), (1, .int (nI k)), (2, .int (nI 0))]) hx hb dX6_look_25 rfl hl (by decide) rfl (fun ls hl => ?_)
        refine lv_iconst (v := (nI 0)) hx hb dX6_look_26 (by decide) ?_
        refine lv_istore (lv' := [(4, .int (nI 0)), (3, .int (nI 0)), (0, .ref h0), (1, .int (nI k)), (2, .int (nI 0))]) hx hb dX6_look_27 hl (by decide) rfl (fun ls hl => ?_)
        refine kw_loop (σ := Nat × Nat) (fun zz H locs ls => match zz with | (n, g) => va_P D vwCl [(h0, wMo q R C tn dn ag md em), ((q 0), .inl (cI, 36, .inl (nA b))), ((q 2), .inl (cZ, 36, .inl (bA za_5)))] H ∧ va_D A [(h0, wMo q R C tn dn ag md em), ((q 0), .inl (cI, 36, .inl (nA b))), ((q 2), .inl (cZ, 36, .inl (bA za_5)))] ∧ va_S A s.heap H locs ∧ lv_has ls 5 [(0, .ref h0), (1, .int (nI k)), (2, .int (nI 0)), (3, .int (nI n)), (4, .int (nI g))] ∧ (g ≤ R * C) ∧ (n = fb_ct (mGb R C b k) g)) (fun zz => match zz with | (n, g) => R * C - g) (0, 0) ⟨hP, hD, hS, lv_sub hl [2, 3, 4, 1, 0] rfl, Nat.zero_le _, rfl⟩ ?_
        clear hP hD hS hl
        rintro ⟨n, g⟩ H locs ls ⟨hP, hD, hS, hl, hg9, hn9⟩ ih_29
        have hP : va_P D vwCl [(h0, wMo q R C tn dn ag md em), ((q 0), .inl (cI, 36, .inl (nA b))), ((q 2), .inl (cZ, 36, .inl (bA za_5)))] H := hP
        have hD : va_D A [(h0, wMo q R C tn dn ag md em), ((q 0), .inl (cI, 36, .inl (nA b))), ((q 2), .inl (cZ, 36, .inl (bA za_5)))] := hD
        have hl : lv_has ls 5 [(0, .ref h0), (1, .int (nI k)), (2, .int (nI 0)), (3, .int (nI n)), (4, .int (nI g))] := hl
        have hg9 : g ≤ R * C := hg9
        have hn9 : n = fb_ct (mGb R C b k) g := hn9
        refine lv_iload hx hb dX6_look_29 (lv_at hl 4 rfl) ?_
        refine lv_aload_n hx hb dX6_look_31 rfl (lv_at hl 0 rfl) ?_
        refine k_calli (wr := [((q 0), .inl (cI, 36, .inl (nA b))), ((q 2), .inl (cZ, 36, .inl (bA za_5)))]) (w2 := (fun _ : Unit => [(h0, wMo q R C tn dn ag md em), ((q 0), .inl (cI, 36, .inl (nA b))), ((q 2), .inl (cZ, 36, .inl (bA za_5)))])) (va_runV (As := []) (rest := [.int (nI g)]) ⟨hx, hb, hml, hown, hts⟩ (c_R_fields l D cI cJ cZ h0 q R C tn dn ag md em  H.size) (cwV 0 hts gX6_look_X6_fields rfl rfl rfl (by decide +kernel) ⟨Nat.le_of_ble_eq_true rfl, Nat.le_of_ble_eq_true rfl⟩) (kPV (ci := 6) (q0 := 0) (wc := [(h0, wMo q R C tn dn ag md em)]) hK2 hP hD [0] rfl (by decide) rfl rfl) rfl rfl hl.1 rfl (lv_room (Nat.le_of_ble_eq_true rfl)) dX6_look_32 ⟨Nat.le_of_ble_eq_true rfl, Nat.le_of_ble_eq_true rfl⟩) hP hD hS hA [0] [1, 2] [2, 0, 1] rfl rfl (by decide) (by decide) (fun _ => rfl) (by decide) (fun r_7 u_7 H locs hw_7 hP hD hS => ?_)
        have hP : va_P D vwCl [(h0, wMo q R C tn dn ag md em), ((q 0), .inl (cI, 36, .inl (nA b))), ((q 2), .inl (cZ, 36, .inl (bA za_5)))] H := hP
        have hD : va_D A [(h0, wMo q R C tn dn ag md em), ((q 0), .inl (cI, 36, .inl (nA b))), ((q 2), .inl (cZ, 36, .inl (bA za_5)))] := hD
        subst hw_7
        refine kw_icmp_ge (tgt := 126) hx hb dX6_look_35 (by decide) (by omega) (by omega) (fun c_35_8 => ?_) (fun c_35_8 => ?_)
        · refine lv_iload_n hx hb dX6_look_126 rfl (lv_at hl 3 rfl) ?_
          exact W.iret (v := (nI n)) hx hb hr (fun t ht hW => ⟨⟨(nI n), za_5, rfl, Or.inr ⟨k, 0, hk, rfl, hb0, by decide, rfl, by rw [hn9, show g = R * C by omega]; rfl⟩, by rw [ht]; exact hP, hD⟩, hS.F ht⟩) hS.2.2 dX6_look_127
        · have hgl : g < R * C := c_35_8
          have hbg := hbv g hgl
          have hzb : (za_5 g).toNat ≤ 1 := Bool.toNat_le (za_5 g)
          refine lv_iload_n hx hb dX6_look_38 rfl (lv_at hl 2 rfl) ?_
          refine lv_if_ne (tgt := 60) hx hb dX6_look_39 (by decide) (fun c_39_9 => absurd c_39_9 (by decide)) (fun c_39_9 => ?_)
          refine lv_iload_n hx hb dX6_look_42 rfl (lv_at hl 3 rfl) ?_
          refine lv_aload_n hx hb dX6_look_43 rfl (lv_at hl 0 rfl) ?_
          refine va_get (D := D) (ci := 6) (v := .ref (q 2)) (C := RX6) (T := TX6) (N := 17) hx hb hts kiX6_look_X6 hown hK hP 0 rfl rfl 8 (by decide) (hts (.fieldLink RX6 30 "TwoBanksModel" "isReached" "[Z") (List.mem_of_getElem? (i := 1) rfl)) (fun _ h9 => h9) rfl dX6_look_44 ?_
          refine lv_iload hx hb dX6_look_47 (lv_at hl 4 rfl) ?_
          refine va_zald hx hb hK hP 2 2 rfl rfl (vp_in_nI (by omega) (by omega)) dX6_look_49 ?_
          refine k_toi (y := nI ((za_5 g).toNat)) (congrArg (bA za_5) (nI_clamp (by omega))) ?_
          refine kw_if_eq (tgt := 57) hx hb dX6_look_50 (by decide) (by omega) (fun c_50_10 => ?_) (fun c_50_10 => ?_)
          · have hm9 : mGb R C b k g = false := (mGb_z (hz9 g hgl)).trans (bz_f c_50_10)
            refine lv_iconst (v := (nI 0)) hx hb dX6_look_57 (by decide) ?_
            refine lv_iadd hx hb dX6_look_58 ?_
            refine k_toi (y := nI (n + 0)) (nI_add _ _) ?_
            refine lv_istore_n (lv' := [(3, .int (nI (n + 0))), (0, .ref h0), (1, .int (nI k)), (2, .int (nI 0)), (4, .int (nI g))]) hx hb dX6_look_59 rfl hl (by decide) rfl (fun ls hl => ?_)
            refine lv_iload_n hx hb dX6_look_60 rfl (lv_at hl 3 rfl) ?_
            refine lv_iconst (v := (nI 1)) hx hb dX6_look_61 (by decide) ?_
            refine lv_icmp_ne (tgt := 88) hx hb dX6_look_62 (by decide) (fun c_62_11 => ?_) (fun c_62_11 => absurd c_62_11 (by decide))
            refine lv_iload_n hx hb dX6_look_88 rfl (lv_at hl 3 rfl) ?_
            refine lv_iconst (v := (nI 2)) hx hb dX6_look_89 (by decide) ?_
            refine lv_icmp_ne (tgt := 120) hx hb dX6_look_90 (by decide) (fun c_90_12 => ?_) (fun c_90_12 => absurd c_90_12 (by decide))
            refine lv_iinc (v := (nI (g + 1))) (lv' := [(4, .int (nI (g + 1))), (3, .int (nI (n + 0))), (0, .ref h0), (1, .int (nI k)), (2, .int (nI 0))]) hx hb dX6_look_120 hl (k := 4) rfl (k_inc _ 1) (by decide) rfl (fun ls hl => ?_)
            refine lv_goto (tgt := 29) hx hb dX6_look_123 (by decide) ?_
            exact ih_29 ((n + 0), (g + 1)) _ _ _ (by show R * C - (g + 1) < R * C - g; omega) ⟨hP, hD, hS, lv_sub hl [2, 3, 4, 1, 0] rfl, by omega, by rw [ct_0 hm9]; exact hn9⟩
          · have hm9 : mGb R C b k g = true := (mGb_z (hz9 g hgl)).trans (bz_t c_50_10)
            refine lv_iconst (v := (nI 1)) hx hb dX6_look_53 (by decide) ?_
            refine lv_goto (tgt := 58) hx hb dX6_look_54 (by decide) ?_
            refine lv_iadd hx hb dX6_look_58 ?_
            refine k_toi (y := nI (n + 1)) (nI_add _ _) ?_
            refine lv_istore_n (lv' := [(3, .int (nI (n + 1))), (0, .ref h0), (1, .int (nI k)), (2, .int (nI 0)), (4, .int (nI g))]) hx hb dX6_look_59 rfl hl (by decide) rfl (fun ls hl => ?_)
            refine lv_iload_n hx hb dX6_look_60 rfl (lv_at hl 3 rfl) ?_
            refine lv_iconst (v := (nI 1)) hx hb dX6_look_61 (by decide) ?_
            refine lv_icmp_ne (tgt := 88) hx hb dX6_look_62 (by decide) (fun c_62_13 => ?_) (fun c_62_13 => absurd c_62_13 (by decide))
            refine lv_iload_n hx hb dX6_look_88 rfl (lv_at hl 3 rfl) ?_
            refine lv_iconst (v := (nI 2)) hx hb dX6_look_89 (by decide) ?_
            refine lv_icmp_ne (tgt := 120) hx hb dX6_look_90 (by decide) (fun c_90_14 => ?_) (fun c_90_14 => absurd c_90_14 (by decide))
            refine lv_iinc (v := (nI (g + 1))) (lv' := [(4, .int (nI (g + 1))), (3, .int (nI (n + 1))), (0, .ref h0), (1, .int (nI k)), (2, .int (nI 0))]) hx hb dX6_look_120 hl (k := 4) rfl (k_inc _ 1) (by decide) rfl (fun ls hl => ?_)
            refine lv_goto (tgt := 29) hx hb dX6_look_123 (by decide) ?_
            exact ih_29 ((n + 1), (g + 1)) _ _ _ (by show R * C - (g + 1) < R * C - g; omega) ⟨hP, hD, hS, lv_sub hl [2, 3, 4, 1, 0] rfl, by omega, by rw [ct_1 hm9, ← hn9]⟩
      · refine lv_aload_n hx hb dX6_look_19 rfl (lv_at hl 0 rfl) ?_
        refine lv_iload_n hx hb dX6_look_20 rfl (lv_at hl 1 rfl) ?_
        refine k_callv (wr := []) (w2 := (fun za : Nat → Bool => [(h0, wMo q R C tn dn ag md em), ((q 0), .inl (cI, 36, .inl (nA b))), ((q 2), .inl (cZ, 36, .inl (bA za)))])) (va_runV (As := [.int (nI k)]) (rest := []) ⟨hx, hb, hml, hown, hts⟩ (c_R_groupOf l D cI cJ cZ h0 q R C tn dn ag md em b z k hR1 hR2 hC1 hC2 hRC hbv (by omega)  H.size) (cwV 1 hts gX6_look_X6_groupOf rfl rfl rfl (by decide +kernel) ⟨Nat.le_of_ble_eq_true rfl, Nat.le_of_ble_eq_true rfl⟩) (kPV (ci := 6) (q0 := 0) (wc := [(h0, wMo q R C tn dn ag md em), ((q 0), .inl (cI, 36, .inl (nA b))), ((q 2), .inl (cZ, 36, .inl (bA z)))]) hK2 hP hD [0, 1, 2] rfl (by decide) rfl rfl) rfl rfl hl.1 rfl (lv_room (Nat.le_of_ble_eq_true rfl)) dX6_look_21 ⟨Nat.le_of_ble_eq_true rfl, Nat.le_of_ble_eq_true rfl⟩) hP hD hS hA [0, 1, 2] [] [0, 1, 2] rfl rfl (by decide) (by decide) (fun _ => rfl) (by decide) (fun u_16 H locs hw_16 hP hD hS => ?_)
        obtain ⟨za_15, rfl⟩ : ∃ z, z = u_16 := ⟨_, rfl⟩
        have hP : va_P D vwCl [(h0, wMo q R C tn dn ag md em), ((q 0), .inl (cI, 36, .inl (nA b))), ((q 2), .inl (cZ, 36, .inl (bA za_15)))] H := hP
        have hD : va_D A [(h0, wMo q R C tn dn ag md em), ((q 0), .inl (cI, 36, .inl (nA b))), ((q 2), .inl (cZ, 36, .inl (bA za_15)))] := hD
        have hz9 := hw_16
        refine lv_iconst (v := (nI 0)) hx hb dX6_look_24 (by decide) ?_
        refine lv_istore_n (lv' := [(3, .int (nI 0)), (0, .ref h0), (1, .int (nI k)), (2, .int (nI 1))]) hx hb dX6_look_25 rfl hl (by decide) rfl (fun ls hl => ?_)
        refine lv_iconst (v := (nI 0)) hx hb dX6_look_26 (by decide) ?_
        refine lv_istore (lv' := [(4, .int (nI 0)), (3, .int (nI 0)), (0, .ref h0), (1, .int (nI k)), (2, .int (nI 1))]) hx hb dX6_look_27 hl (by decide) rfl (fun ls hl => ?_)
        refine kw_loop (σ := Nat × Nat) (fun zz H locs ls => match zz with | (n, g) => va_P D vwCl [(h0, wMo q R C tn dn ag md em), ((q 0), .inl (cI, 36, .inl (nA b))), ((q 2), .inl (cZ, 36, .inl (bA za_15)))] H ∧ va_D A [(h0, wMo q R C tn dn ag md em), ((q 0), .inl (cI, 36, .inl (nA b))), ((q 2), .inl (cZ, 36, .inl (bA za_15)))] ∧ va_S A s.heap H locs ∧ lv_has ls 5 [(0, .ref h0), (1, .int (nI k)), (2, .int (nI 1)), (3, .int (nI n)), (4, .int (nI g))] ∧ (g ≤ R * C) ∧ (n = mOr R C b k g)) (fun zz => match zz with | (n, g) => R * C - g) (0, 0) ⟨hP, hD, hS, lv_sub hl [2, 3, 4, 1, 0] rfl, Nat.zero_le _, rfl⟩ ?_
        clear hP hD hS hl
        rintro ⟨n, g⟩ H locs ls ⟨hP, hD, hS, hl, hg9, hn9⟩ ih_29
        have hP : va_P D vwCl [(h0, wMo q R C tn dn ag md em), ((q 0), .inl (cI, 36, .inl (nA b))), ((q 2), .inl (cZ, 36, .inl (bA za_15)))] H := hP
        have hD : va_D A [(h0, wMo q R C tn dn ag md em), ((q 0), .inl (cI, 36, .inl (nA b))), ((q 2), .inl (cZ, 36, .inl (bA za_15)))] := hD
        have hl : lv_has ls 5 [(0, .ref h0), (1, .int (nI k)), (2, .int (nI 1)), (3, .int (nI n)), (4, .int (nI g))] := hl
        have hg9 : g ≤ R * C := hg9
        have hn9 : n = mOr R C b k g := hn9
        refine lv_iload hx hb dX6_look_29 (lv_at hl 4 rfl) ?_
        refine lv_aload_n hx hb dX6_look_31 rfl (lv_at hl 0 rfl) ?_
        refine k_calli (wr := [((q 0), .inl (cI, 36, .inl (nA b))), ((q 2), .inl (cZ, 36, .inl (bA za_15)))]) (w2 := (fun _ : Unit => [(h0, wMo q R C tn dn ag md em), ((q 0), .inl (cI, 36, .inl (nA b))), ((q 2), .inl (cZ, 36, .inl (bA za_15)))])) (va_runV (As := []) (rest := [.int (nI g)]) ⟨hx, hb, hml, hown, hts⟩ (c_R_fields l D cI cJ cZ h0 q R C tn dn ag md em  H.size) (cwV 0 hts gX6_look_X6_fields rfl rfl rfl (by decide +kernel) ⟨Nat.le_of_ble_eq_true rfl, Nat.le_of_ble_eq_true rfl⟩) (kPV (ci := 6) (q0 := 0) (wc := [(h0, wMo q R C tn dn ag md em)]) hK2 hP hD [0] rfl (by decide) rfl rfl) rfl rfl hl.1 rfl (lv_room (Nat.le_of_ble_eq_true rfl)) dX6_look_32 ⟨Nat.le_of_ble_eq_true rfl, Nat.le_of_ble_eq_true rfl⟩) hP hD hS hA [0] [1, 2] [2, 0, 1] rfl rfl (by decide) (by decide) (fun _ => rfl) (by decide) (fun r_17 u_17 H locs hw_17 hP hD hS => ?_)
        have hP : va_P D vwCl [(h0, wMo q R C tn dn ag md em), ((q 0), .inl (cI, 36, .inl (nA b))), ((q 2), .inl (cZ, 36, .inl (bA za_15)))] H := hP
        have hD : va_D A [(h0, wMo q R C tn dn ag md em), ((q 0), .inl (cI, 36, .inl (nA b))), ((q 2), .inl (cZ, 36, .inl (bA za_15)))] := hD
        subst hw_17
        refine kw_icmp_ge (tgt := 126) hx hb dX6_look_35 (by decide) (by omega) (by omega) (fun c_35_18 => ?_) (fun c_35_18 => ?_)
        · refine lv_iload_n hx hb dX6_look_126 rfl (lv_at hl 3 rfl) ?_
          exact W.iret (v := (nI n)) hx hb hr (fun t ht hW => ⟨⟨(nI n), za_15, rfl, Or.inr ⟨k, 1, hk, rfl, hb0, by decide, rfl, by rw [hn9, show g = R * C by omega]; rfl⟩, by rw [ht]; exact hP, hD⟩, hS.F ht⟩) hS.2.2 dX6_look_127
        · have hgl : g < R * C := c_35_18
          have hbg := hbv g hgl
          have hzb : (za_15 g).toNat ≤ 1 := Bool.toNat_le (za_15 g)
          refine lv_iload_n hx hb dX6_look_38 rfl (lv_at hl 2 rfl) ?_
          refine lv_if_ne (tgt := 60) hx hb dX6_look_39 (by decide) (fun c_39_19 => ?_) (fun c_39_19 => absurd c_39_19 (by decide))
          refine lv_iload_n hx hb dX6_look_60 rfl (lv_at hl 2 rfl) ?_
          refine lv_iconst (v := (nI 1)) hx hb dX6_look_61 (by decide) ?_
          refine lv_icmp_ne (tgt := 88) hx hb dX6_look_62 (by decide) (fun c_62_20 => absurd c_62_20 (by decide)) (fun c_62_20 => ?_)
          refine lv_iload_n hx hb dX6_look_65 rfl (lv_at hl 3 rfl) ?_
          refine lv_aload_n hx hb dX6_look_66 rfl (lv_at hl 0 rfl) ?_
          refine va_get (D := D) (ci := 6) (v := .ref (q 2)) (C := RX6) (T := TX6) (N := 17) hx hb hts kiX6_look_X6 hown hK hP 0 rfl rfl 8 (by decide) (hts (.fieldLink RX6 30 "TwoBanksModel" "isReached" "[Z") (List.mem_of_getElem? (i := 1) rfl)) (fun _ h9 => h9) rfl dX6_look_67 ?_
          refine lv_iload hx hb dX6_look_70 (lv_at hl 4 rfl) ?_
          refine va_zald hx hb hK hP 2 2 rfl rfl (vp_in_nI (by omega) (by omega)) dX6_look_72 ?_
          refine k_toi (y := nI ((za_15 g).toNat)) (congrArg (bA za_15) (nI_clamp (by omega))) ?_
          refine kw_if_eq (tgt := 85) hx hb dX6_look_73 (by decide) (by omega) (fun c_73_21 => ?_) (fun c_73_21 => ?_)
          · have hm9 : mGb R C b k g = false := (mGb_z (hz9 g hgl)).trans (bz_f c_73_21)
            refine lv_iconst (v := (nI 0)) hx hb dX6_look_85 (by decide) ?_
            refine lv_ior hx hb dX6_look_86 ?_
            refine k_toi (y := nI (n ||| 0)) (fa_or _ _) ?_
            refine lv_istore_n (lv' := [(3, .int (nI (n ||| 0))), (0, .ref h0), (1, .int (nI k)), (2, .int (nI 1)), (4, .int (nI g))]) hx hb dX6_look_87 rfl hl (by decide) rfl (fun ls hl => ?_)
            refine lv_iload_n hx hb dX6_look_88 rfl (lv_at hl 3 rfl) ?_
            refine lv_iconst (v := (nI 2)) hx hb dX6_look_89 (by decide) ?_
            refine lv_icmp_ne (tgt := 120) hx hb dX6_look_90 (by decide) (fun c_90_22 => ?_) (fun c_90_22 => absurd c_90_22 (by decide))
            refine lv_iinc (v := (nI (g + 1))) (lv' := [(4, .int (nI (g + 1))), (3, .int (nI (n ||| 0))), (0, .ref h0), (1, .int (nI k)), (2, .int (nI 1))]) hx hb dX6_look_120 hl (k := 4) rfl (k_inc _ 1) (by decide) rfl (fun ls hl => ?_)
            refine lv_goto (tgt := 29) hx hb dX6_look_123 (by decide) ?_
            exact ih_29 ((n ||| 0), (g + 1)) _ _ _ (by show R * C - (g + 1) < R * C - g; omega) ⟨hP, hD, hS, lv_sub hl [2, 3, 4, 1, 0] rfl, by omega, by rw [mOr_f hm9, ← hn9]; exact Nat.or_zero _⟩
          · have hm9 : mGb R C b k g = true := (mGb_z (hz9 g hgl)).trans (bz_t c_73_21)
            refine lv_aload_n hx hb dX6_look_76 rfl (lv_at hl 0 rfl) ?_
            refine lv_iload hx hb dX6_look_77 (lv_at hl 4 rfl) ?_
            refine k_calli (wr := [((q 0), .inl (cI, 36, .inl (nA b))), ((q 2), .inl (cZ, 36, .inl (bA za_15)))]) (w2 := (fun _ : Unit => [(h0, wMo q R C tn dn ag md em), ((q 0), .inl (cI, 36, .inl (nA b))), ((q 2), .inl (cZ, 36, .inl (bA za_15)))])) (va_runV (As := [.int (nI g)]) (rest := [.int (nI n)]) ⟨hx, hb, hml, hown, hts⟩ (c_R_banks l D cI cJ cZ h0 q R C tn dn ag md em g hR1 hR2 hC1 hC2 hRC (by omega)  H.size) (cwV 1 hts gX6_look_X6_banks rfl rfl rfl (by decide +kernel) ⟨Nat.le_of_ble_eq_true rfl, Nat.le_of_ble_eq_true rfl⟩) (kPV (ci := 6) (q0 := 0) (wc := [(h0, wMo q R C tn dn ag md em)]) hK2 hP hD [0] rfl (by decide) rfl rfl) rfl rfl hl.1 rfl (lv_room (Nat.le_of_ble_eq_true rfl)) dX6_look_79 ⟨Nat.le_of_ble_eq_true rfl, Nat.le_of_ble_eq_true rfl⟩) hP hD hS hA [0] [1, 2] [2, 0, 1] rfl rfl (by decide) (by decide) (fun _ => rfl) (by decide) (fun r_23 u_23 H locs hw_23 hP hD hS => ?_)
            have hP : va_P D vwCl [(h0, wMo q R C tn dn ag md em), ((q 0), .inl (cI, 36, .inl (nA b))), ((q 2), .inl (cZ, 36, .inl (bA za_15)))] H := hP
            have hD : va_D A [(h0, wMo q R C tn dn ag md em), ((q 0), .inl (cI, 36, .inl (nA b))), ((q 2), .inl (cZ, 36, .inl (bA za_15)))] := hD
            subst hw_23
            refine lv_goto (tgt := 86) hx hb dX6_look_82 (by decide) ?_
            refine lv_ior hx hb dX6_look_86 ?_
            refine k_toi (y := nI (n ||| (mBk R C g))) (fa_or _ _) ?_
            refine lv_istore_n (lv' := [(3, .int (nI (n ||| (mBk R C g)))), (0, .ref h0), (1, .int (nI k)), (2, .int (nI 1)), (4, .int (nI g))]) hx hb dX6_look_87 rfl hl (by decide) rfl (fun ls hl => ?_)
            refine lv_iload_n hx hb dX6_look_88 rfl (lv_at hl 3 rfl) ?_
            refine lv_iconst (v := (nI 2)) hx hb dX6_look_89 (by decide) ?_
            refine lv_icmp_ne (tgt := 120) hx hb dX6_look_90 (by decide) (fun c_90_24 => ?_) (fun c_90_24 => absurd c_90_24 (by decide))
            refine lv_iinc (v := (nI (g + 1))) (lv' := [(4, .int (nI (g + 1))), (3, .int (nI (n ||| (mBk R C g)))), (0, .ref h0), (1, .int (nI k)), (2, .int (nI 1))]) hx hb dX6_look_120 hl (k := 4) rfl (k_inc _ 1) (by decide) rfl (fun ls hl => ?_)
            refine lv_goto (tgt := 29) hx hb dX6_look_123 (by decide) ?_
            exact ih_29 ((n ||| (mBk R C g)), (g + 1)) _ _ _ (by show R * C - (g + 1) < R * C - g; omega) ⟨hP, hD, hS, lv_sub hl [2, 3, 4, 1, 0] rfl, by omega, by rw [mOr_t hm9, ← hn9]⟩
      · refine lv_aload_n hx hb dX6_look_19 rfl (lv_at hl 0 rfl) ?_
        refine lv_iload_n hx hb dX6_look_20 rfl (lv_at hl 1 rfl) ?_
        refine k_callv (wr := []) (w2 := (fun za : Nat → Bool => [(h0, wMo q R C tn dn ag md em), ((q 0), .inl (cI, 36, .inl (nA b))), ((q 2), .inl (cZ, 36, .inl (bA za)))])) (va_runV (As := [.int (nI k)]) (rest := []) ⟨hx, hb, hml, hown, hts⟩ (c_R_groupOf l D cI cJ cZ h0 q R C tn dn ag md em b z k hR1 hR2 hC1 hC2 hRC hbv (by omega)  H.size) (cwV 1 hts gX6_look_X6_groupOf rfl rfl rfl (by decide +kernel) ⟨Nat.le_of_ble_eq_true rfl, Nat.le_of_ble_eq_true rfl⟩) (kPV (ci := 6) (q0 := 0) (wc := [(h0, wMo q R C tn dn ag md em), ((q 0), .inl (cI, 36, .inl (nA b))), ((q 2), .inl (cZ, 36, .inl (bA z)))]) hK2 hP hD [0, 1, 2] rfl (by decide) rfl rfl) rfl rfl hl.1 rfl (lv_room (Nat.le_of_ble_eq_true rfl)) dX6_look_21 ⟨Nat.le_of_ble_eq_true rfl, Nat.le_of_ble_eq_true rfl⟩) hP hD hS hA [0, 1, 2] [] [0, 1, 2] rfl rfl (by decide) (by decide) (fun _ => rfl) (by decide) (fun u_26 H locs hw_26 hP hD hS => ?_)
        obtain ⟨za_25, rfl⟩ : ∃ z, z = u_26 := ⟨_, rfl⟩
        have hP : va_P D vwCl [(h0, wMo q R C tn dn ag md em), ((q 0), .inl (cI, 36, .inl (nA b))), ((q 2), .inl (cZ, 36, .inl (bA za_25)))] H := hP
        have hD : va_D A [(h0, wMo q R C tn dn ag md em), ((q 0), .inl (cI, 36, .inl (nA b))), ((q 2), .inl (cZ, 36, .inl (bA za_25)))] := hD
        have hz9 := hw_26
        refine lv_iconst (v := (nI 0)) hx hb dX6_look_24 (by decide) ?_
        refine lv_istore_n (lv' := [(3, .int (nI 0)), (0, .ref h0), (1, .int (nI k)), (2, .int (nI 2))]) hx hb dX6_look_25 rfl hl (by decide) rfl (fun ls hl => ?_)
        refine lv_iconst (v := (nI 0)) hx hb dX6_look_26 (by decide) ?_
        refine lv_istore (lv' := [(4, .int (nI 0)), (3, .int (nI 0)), (0, .ref h0), (1, .int (nI k)), (2, .int (nI 2))]) hx hb dX6_look_27 hl (by decide) rfl (fun ls hl => ?_)
        refine kw_loop (σ := Nat × Nat) (fun zz H locs ls => match zz with | (n, g) => va_P D vwCl [(h0, wMo q R C tn dn ag md em), ((q 0), .inl (cI, 36, .inl (nA b))), ((q 2), .inl (cZ, 36, .inl (bA za_25)))] H ∧ va_D A [(h0, wMo q R C tn dn ag md em), ((q 0), .inl (cI, 36, .inl (nA b))), ((q 2), .inl (cZ, 36, .inl (bA za_25)))] ∧ va_S A s.heap H locs ∧ lv_has ls 5 [(0, .ref h0), (1, .int (nI k)), (2, .int (nI 2)), (3, .int (nI n)), (4, .int (nI g))] ∧ (g ≤ R * C) ∧ (n = fb_ct (mLb R C b k) g)) (fun zz => match zz with | (n, g) => R * C - g) (0, 0) ⟨hP, hD, hS, lv_sub hl [2, 3, 4, 1, 0] rfl, Nat.zero_le _, rfl⟩ ?_
        clear hP hD hS hl
        rintro ⟨n, g⟩ H locs ls ⟨hP, hD, hS, hl, hg9, hn9⟩ ih_29
        have hP : va_P D vwCl [(h0, wMo q R C tn dn ag md em), ((q 0), .inl (cI, 36, .inl (nA b))), ((q 2), .inl (cZ, 36, .inl (bA za_25)))] H := hP
        have hD : va_D A [(h0, wMo q R C tn dn ag md em), ((q 0), .inl (cI, 36, .inl (nA b))), ((q 2), .inl (cZ, 36, .inl (bA za_25)))] := hD
        have hl : lv_has ls 5 [(0, .ref h0), (1, .int (nI k)), (2, .int (nI 2)), (3, .int (nI n)), (4, .int (nI g))] := hl
        have hg9 : g ≤ R * C := hg9
        have hn9 : n = fb_ct (mLb R C b k) g := hn9
        refine lv_iload hx hb dX6_look_29 (lv_at hl 4 rfl) ?_
        refine lv_aload_n hx hb dX6_look_31 rfl (lv_at hl 0 rfl) ?_
        refine k_calli (wr := [((q 0), .inl (cI, 36, .inl (nA b))), ((q 2), .inl (cZ, 36, .inl (bA za_25)))]) (w2 := (fun _ : Unit => [(h0, wMo q R C tn dn ag md em), ((q 0), .inl (cI, 36, .inl (nA b))), ((q 2), .inl (cZ, 36, .inl (bA za_25)))])) (va_runV (As := []) (rest := [.int (nI g)]) ⟨hx, hb, hml, hown, hts⟩ (c_R_fields l D cI cJ cZ h0 q R C tn dn ag md em  H.size) (cwV 0 hts gX6_look_X6_fields rfl rfl rfl (by decide +kernel) ⟨Nat.le_of_ble_eq_true rfl, Nat.le_of_ble_eq_true rfl⟩) (kPV (ci := 6) (q0 := 0) (wc := [(h0, wMo q R C tn dn ag md em)]) hK2 hP hD [0] rfl (by decide) rfl rfl) rfl rfl hl.1 rfl (lv_room (Nat.le_of_ble_eq_true rfl)) dX6_look_32 ⟨Nat.le_of_ble_eq_true rfl, Nat.le_of_ble_eq_true rfl⟩) hP hD hS hA [0] [1, 2] [2, 0, 1] rfl rfl (by decide) (by decide) (fun _ => rfl) (by decide) (fun r_27 u_27 H locs hw_27 hP hD hS => ?_)
        have hP : va_P D vwCl [(h0, wMo q R C tn dn ag md em), ((q 0), .inl (cI, 36, .inl (nA b))), ((q 2), .inl (cZ, 36, .inl (bA za_25)))] H := hP
        have hD : va_D A [(h0, wMo q R C tn dn ag md em), ((q 0), .inl (cI, 36, .inl (nA b))), ((q 2), .inl (cZ, 36, .inl (bA za_25)))] := hD
        subst hw_27
        refine kw_icmp_ge (tgt := 126) hx hb dX6_look_35 (by decide) (by omega) (by omega) (fun c_35_28 => ?_) (fun c_35_28 => ?_)
        · refine lv_iload_n hx hb dX6_look_126 rfl (lv_at hl 3 rfl) ?_
          exact W.iret (v := (nI n)) hx hb hr (fun t ht hW => ⟨⟨(nI n), za_25, rfl, Or.inr ⟨k, 2, hk, rfl, hb0, by decide, rfl, by rw [hn9, show g = R * C by omega]; rfl⟩, by rw [ht]; exact hP, hD⟩, hS.F ht⟩) hS.2.2 dX6_look_127
        · have hgl : g < R * C := c_35_28
          have hbg := hbv g hgl
          have hzb : (za_25 g).toNat ≤ 1 := Bool.toNat_le (za_25 g)
          refine lv_iload_n hx hb dX6_look_38 rfl (lv_at hl 2 rfl) ?_
          refine lv_if_ne (tgt := 60) hx hb dX6_look_39 (by decide) (fun c_39_29 => ?_) (fun c_39_29 => absurd c_39_29 (by decide))
          refine lv_iload_n hx hb dX6_look_60 rfl (lv_at hl 2 rfl) ?_
          refine lv_iconst (v := (nI 1)) hx hb dX6_look_61 (by decide) ?_
          refine lv_icmp_ne (tgt := 88) hx hb dX6_look_62 (by decide) (fun c_62_30 => ?_) (fun c_62_30 => absurd c_62_30 (by decide))
          refine lv_iload_n hx hb dX6_look_88 rfl (lv_at hl 2 rfl) ?_
          refine lv_iconst (v := (nI 2)) hx hb dX6_look_89 (by decide) ?_
          refine lv_icmp_ne (tgt := 120) hx hb dX6_look_90 (by decide) (fun c_90_31 => absurd c_90_31 (by decide)) (fun c_90_31 => ?_)
          refine lv_iload_n hx hb dX6_look_93 rfl (lv_at hl 3 rfl) ?_
          refine lv_aload_n hx hb dX6_look_94 rfl (lv_at hl 0 rfl) ?_
          refine va_get (D := D) (ci := 6) (v := .ref (q 0)) (C := RX6) (T := TX6) (N := 17) hx hb hts kiX6_look_X6 hown hK hP 0 rfl rfl 3 (by decide) (hts (.fieldLink RX6 19 "TwoBanksModel" "at" "[I") (List.mem_of_getElem? (i := 2) rfl)) (fun _ h9 => h9) rfl dX6_look_95 ?_
          refine lv_iload hx hb dX6_look_98 (lv_at hl 4 rfl) ?_
          refine va_iald hx hb hK hP 1 0 rfl rfl (vp_in_nI (by omega) (by omega)) dX6_look_100 ?_
          refine k_toi (y := nI (b g)) (congrArg (nA b) (nI_clamp (by omega))) ?_
          refine kw_if_ne (tgt := 117) hx hb dX6_look_101 (by decide) (by omega) (fun c_101_32 => ?_) (fun c_101_32 => ?_)
          · have hm9 : mLb R C b k g = false := mLb_f (fun h9 => by have := h9.1; omega)
            refine lv_iconst (v := (nI 0)) hx hb dX6_look_117 (by decide) ?_
            refine lv_iadd hx hb dX6_look_118 ?_
            refine k_toi (y := nI (n + 0)) (nI_add _ _) ?_
            refine lv_istore_n (lv' := [(3, .int (nI (n + 0))), (0, .ref h0), (1, .int (nI k)), (2, .int (nI 2)), (4, .int (nI g))]) hx hb dX6_look_119 rfl hl (by decide) rfl (fun ls hl => ?_)
            refine lv_iinc (v := (nI (g + 1))) (lv' := [(4, .int (nI (g + 1))), (3, .int (nI (n + 0))), (0, .ref h0), (1, .int (nI k)), (2, .int (nI 2))]) hx hb dX6_look_120 hl (k := 4) rfl (k_inc _ 1) (by decide) rfl (fun ls hl => ?_)
            refine lv_goto (tgt := 29) hx hb dX6_look_123 (by decide) ?_
            exact ih_29 ((n + 0), (g + 1)) _ _ _ (by show R * C - (g + 1) < R * C - g; omega) ⟨hP, hD, hS, lv_sub hl [2, 3, 4, 1, 0] rfl, by omega, by rw [ct_0 hm9]; exact hn9⟩
          · have hb9 : b g = 0 := c_101_32
            refine lv_aload_n hx hb dX6_look_104 rfl (lv_at hl 0 rfl) ?_
            refine lv_iload hx hb dX6_look_105 (lv_at hl 4 rfl) ?_
            refine k_calli (wr := [((q 0), .inl (cI, 36, .inl (nA b)))]) (w2 := (fun _ : Unit => [(h0, wMo q R C tn dn ag md em), ((q 0), .inl (cI, 36, .inl (nA b))), ((q 2), .inl (cZ, 36, .inl (bA za_25)))])) (va_runV (As := [.int (nI g)]) (rest := [.int (nI n)]) ⟨hx, hb, hml, hown, hts⟩ (c_R_isBeside l D cI cJ cZ h0 q R C tn dn ag md em za_25 g hR1 hR2 hC1 hC2 hRC (by omega)  H.size) (cwV 1 hts gX6_look_X6_isBeside rfl rfl rfl (by decide +kernel) ⟨Nat.le_of_ble_eq_true rfl, Nat.le_of_ble_eq_true rfl⟩) (kPV (ci := 6) (q0 := 0) (wc := [(h0, wMo q R C tn dn ag md em), ((q 2), .inl (cZ, 36, .inl (bA za_25)))]) hK2 hP hD [0, 2] rfl (by decide) rfl rfl) rfl rfl hl.1 rfl (lv_room (Nat.le_of_ble_eq_true rfl)) dX6_look_107 ⟨Nat.le_of_ble_eq_true rfl, Nat.le_of_ble_eq_true rfl⟩) hP hD hS hA [0, 2] [1] [1, 0, 2] rfl rfl (by decide) (by decide) (fun _ => rfl) (by decide) (fun r_33 u_33 H locs hw_33 hP hD hS => ?_)
            have hP : va_P D vwCl [(h0, wMo q R C tn dn ag md em), ((q 0), .inl (cI, 36, .inl (nA b))), ((q 2), .inl (cZ, 36, .inl (bA za_25)))] H := hP
            have hD : va_D A [(h0, wMo q R C tn dn ag md em), ((q 0), .inl (cI, 36, .inl (nA b))), ((q 2), .inl (cZ, 36, .inl (bA za_25)))] := hD
            rcases hw_33 with ⟨rfl, hw_33⟩ | ⟨rfl, hw_33⟩
            · have hm9 : mLb R C b k g = true := mLb_t hz9 hb9 hw_33
              refine lv_if_eq (tgt := 117) hx hb dX6_look_110 (by decide) (fun c_110_34 => absurd c_110_34 (by decide)) (fun c_110_34 => ?_)
              refine lv_iconst (v := (nI 1)) hx hb dX6_look_113 (by decide) ?_
              refine lv_goto (tgt := 118) hx hb dX6_look_114 (by decide) ?_
              refine lv_iadd hx hb dX6_look_118 ?_
              refine k_toi (y := nI (n + 1)) (nI_add _ _) ?_
              refine lv_istore_n (lv' := [(3, .int (nI (n + 1))), (0, .ref h0), (1, .int (nI k)), (2, .int (nI 2)), (4, .int (nI g))]) hx hb dX6_look_119 rfl hl (by decide) rfl (fun ls hl => ?_)
              refine lv_iinc (v := (nI (g + 1))) (lv' := [(4, .int (nI (g + 1))), (3, .int (nI (n + 1))), (0, .ref h0), (1, .int (nI k)), (2, .int (nI 2))]) hx hb dX6_look_120 hl (k := 4) rfl (k_inc _ 1) (by decide) rfl (fun ls hl => ?_)
              refine lv_goto (tgt := 29) hx hb dX6_look_123 (by decide) ?_
              exact ih_29 ((n + 1), (g + 1)) _ _ _ (by show R * C - (g + 1) < R * C - g; omega) ⟨hP, hD, hS, lv_sub hl [2, 3, 4, 1, 0] rfl, by omega, by rw [ct_1 hm9, ← hn9]⟩
            · have hm9 : mLb R C b k g = false := mLb_n hz9 hw_33
              refine lv_if_eq (tgt := 117) hx hb dX6_look_110 (by decide) (fun c_110_35 => ?_) (fun c_110_35 => absurd c_110_35 (by decide))
              refine lv_iconst (v := (nI 0)) hx hb dX6_look_117 (by decide) ?_
              refine lv_iadd hx hb dX6_look_118 ?_
              refine k_toi (y := nI (n + 0)) (nI_add _ _) ?_
              refine lv_istore_n (lv' := [(3, .int (nI (n + 0))), (0, .ref h0), (1, .int (nI k)), (2, .int (nI 2)), (4, .int (nI g))]) hx hb dX6_look_119 rfl hl (by decide) rfl (fun ls hl => ?_)
              refine lv_iinc (v := (nI (g + 1))) (lv' := [(4, .int (nI (g + 1))), (3, .int (nI (n + 0))), (0, .ref h0), (1, .int (nI k)), (2, .int (nI 2))]) hx hb dX6_look_120 hl (k := 4) rfl (k_inc _ 1) (by decide) rfl (fun ls hl => ?_)
              refine lv_goto (tgt := 29) hx hb dX6_look_123 (by decide) ?_
              exact ih_29 ((n + 0), (g + 1)) _ _ _ (by show R * C - (g + 1) < R * C - g; omega) ⟨hP, hD, hS, lv_sub hl [2, 3, 4, 1, 0] rfl, by omega, by rw [ct_0 hm9]; exact hn9⟩
    · skip
      refine lv_if_ne (tgt := 19) hx hb dX6_look_14 (by decide) (fun c_14_36 => absurd c_14_36 (by decide)) (fun c_14_36 => ?_)
      refine lv_iconst (v := (-1)) hx hb dX6_look_17 (by decide) ?_
      exact W.iret (v := (-1)) hx hb hr (fun t ht hW => ⟨⟨(-1), z, rfl, Or.inl ⟨rfl, fun h9 => hw_3 h9.2⟩, by rw [ht]; exact hP, hD⟩, hS.F ht⟩) hS.2.2 dX6_look_18
  · skip
    refine lv_if_eq (tgt := 17) hx hb dX6_look_5 (by decide) (fun c_5_37 => ?_) (fun c_5_37 => absurd c_5_37 (by decide))
    refine lv_iconst (v := (-1)) hx hb dX6_look_17 (by decide) ?_
    exact W.iret (v := (-1)) hx hb hr (fun t ht hW => ⟨⟨(-1), z, rfl, Or.inl ⟨rfl, fun h9 => hw_1 h9.1⟩, by rw [ht]; exact hP, hD⟩, hS.F ht⟩) hS.2.2 dX6_look_18
/-! the fields of a triangle: of two colours just one joins all three sides; and so of a board full of stones just one has joined -/
def tc (E : Nat × Nat → Nat × Nat → Prop) (P S : Nat × Nat → Prop) : Nat → Nat × Nat → Prop
  | 0, f => S f
  | n + 1, f => tc E P S n f ∨ (P f ∧ ∃ g, tc E P S n g ∧ E g f)
def TR (E : Nat × Nat → Nat × Nat → Prop) (P S : Nat × Nat → Prop) (f : Nat × Nat) : Prop := ∃ n, tc E P S n f
theorem TR_base {E : Nat × Nat → Nat × Nat → Prop} {P S : Nat × Nat → Prop} {f : Nat × Nat} (h : S f) : TR E P S f := ⟨0, h⟩
theorem TR_step {E : Nat × Nat → Nat × Nat → Prop} {P S : Nat × Nat → Prop} {g f : Nat × Nat} (h : TR E P S g) (e : E g f) (p : P f) : TR E P S f := by
  obtain ⟨n, h⟩ := h
  exact ⟨n + 1, Or.inr ⟨p, g, h, e⟩⟩
theorem TR_ind {E : Nat × Nat → Nat × Nat → Prop} {P S : Nat × Nat → Prop} (T : Nat × Nat → Prop) (hb : ∀ f, S f → T f) (hs : ∀ g f, T g → E g f → P f → T f) {f : Nat × Nat} (h : TR E P S f) : T f := by
  obtain ⟨n, h⟩ := h
  induction n generalizing f with
  | zero => exact hb f h
  | succ n ih =>
    rcases h with h | ⟨p, g, h, e⟩
    · exact ih h
    · exact hs g f (ih h) e p
theorem TR_trans {E : Nat × Nat → Nat × Nat → Prop} {P S T : Nat × Nat → Prop} {f : Nat × Nat} (h : TR E P T f) (hT : ∀ g, T g → TR E P S g) : TR E P S f := TR_ind (fun f => TR E P S f) hT (fun _ _ h e p => TR_step h e p) h
theorem TR_sym1 {E : Nat × Nat → Nat × Nat → Prop} {P : Nat × Nat → Prop} (hE : ∀ a b, E a b → E b a) {x y : Nat × Nat} (hx : P x) (h : TR E P (fun z => z = x) y) : P y ∧ TR E P (fun z => z = y) x := by
  refine TR_ind (fun y => P y ∧ TR E P (fun z => z = y) x) (fun f hf => ?_) (fun g f hg e p => ?_) h
  · rw [hf]; exact ⟨hx, TR_base rfl⟩
  · exact ⟨p, TR_trans hg.2 (fun z hz => by rw [hz]; exact TR_step (TR_base rfl) (hE g f e) hg.1)⟩
def tA (a b : Nat × Nat) : Prop := (a.1 = b.1 ∧ (a.2 = b.2 + 1 ∨ b.2 = a.2 + 1)) ∨ (a.2 = b.2 ∧ (a.1 = b.1 + 1 ∨ b.1 = a.1 + 1)) ∨ (a.1 = b.1 + 1 ∧ b.2 = a.2 + 1) ∨ (b.1 = a.1 + 1 ∧ a.2 = b.2 + 1)
theorem tA_symm (a b : Nat × Nat) (h : tA a b) : tA b a := by unfold tA at h ⊢; omega
/-- the fields of a triangle of side n that are P -/
def tP (n : Nat) (P : Nat × Nat → Prop) (a : Nat × Nat) : Prop := a.1 + a.2 < n ∧ P a
def cn (n : Nat) (P : Nat × Nat → Prop) (a b : Nat × Nat) : Prop := TR tA (tP n P) (fun z => z = a) b
def yW (n : Nat) (P : Nat × Nat → Prop) : Prop := ∃ a b c, tP n P a ∧ a.1 = 0 ∧ b.2 = 0 ∧ c.1 + c.2 + 1 = n ∧ cn n P a b ∧ cn n P a c
/-- a field's triangle, and what more than half of it has -/
def tT (x u : Nat × Nat) : Prop := (u.1 = x.1 ∧ u.2 = x.2) ∨ (u.1 = x.1 + 1 ∧ u.2 = x.2) ∨ (u.1 = x.1 ∧ u.2 = x.2 + 1)
def rd (P : Nat × Nat → Prop) (x : Nat × Nat) : Prop := (P (x.1, x.2) ∧ P (x.1 + 1, x.2)) ∨ (P (x.1 + 1, x.2) ∧ P (x.1, x.2 + 1)) ∨ (P (x.1, x.2) ∧ P (x.1, x.2 + 1))
theorem cn_same {n : Nat} {P : Nat × Nat → Prop} {x u v : Nat × Nat} (hu : tT x u) (hv : tT x v) (hx : tP n P v) : cn n P u v := by
  by_cases e : v = u
  · exact TR_base e
  · refine TR_step (g := u) (TR_base rfl) ?_ hx
    have : ¬ (v.1 = u.1 ∧ v.2 = u.2) := fun h => e (Prod.ext h.1 h.2)
    unfold tT at hu hv
    unfold tA
    omega
theorem pr_eq {a b : Nat × Nat} (h1 : a.1 = b.1) (h2 : a.2 = b.2) : a = b := Prod.ext h1 h2
theorem rd_link {P : Nat × Nat → Prop} {y z : Nat × Nat} (hy : rd P y) (hz : rd P z) (h : tA y z) : ∃ v w, tT y v ∧ tT z w ∧ P v ∧ P w ∧ (w = v ∨ tA v w) := by
  have key : ∀ y z : Nat × Nat, rd P y → rd P z → ((z.1 = y.1 ∧ z.2 = y.2 + 1) ∨ (z.2 = y.2 ∧ z.1 = y.1 + 1) ∨ (z.1 = y.1 + 1 ∧ y.2 = z.2 + 1)) → ∃ v w, tT y v ∧ tT z w ∧ P v ∧ P w ∧ (w = v ∨ tA v w) := by
    rintro ⟨i, j⟩ ⟨k, l⟩ hy hz h
    simp only at h
    unfold rd at hy hz
    simp only at hy hz
    rcases h with ⟨rfl, rfl⟩ | ⟨rfl, rfl⟩ | ⟨rfl, rfl⟩
    · by_cases c : P (k, j + 1)
      · exact ⟨(k, j + 1), (k, j + 1), Or.inr (Or.inr ⟨rfl, rfl⟩), Or.inl ⟨rfl, rfl⟩, c, c, Or.inl rfl⟩
      · have h1 : P (k + 1, j) := by
          rcases hy with h | h | h
          · exact h.2
          · exact absurd h.2 c
          · exact absurd h.2 c
        have h2 : P (k + 1, j + 1) := by
          rcases hz with h | h | h
          · exact h.2
          · exact h.1
          · exact absurd h.1 c
        exact ⟨(k + 1, j), (k + 1, j + 1), Or.inr (Or.inl ⟨rfl, rfl⟩), Or.inr (Or.inl ⟨rfl, rfl⟩), h1, h2, Or.inr (Or.inl ⟨rfl, Or.inr rfl⟩)⟩
    · by_cases c : P (i + 1, l)
      · exact ⟨(i + 1, l), (i + 1, l), Or.inr (Or.inl ⟨rfl, rfl⟩), Or.inl ⟨rfl, rfl⟩, c, c, Or.inl rfl⟩
      · have h1 : P (i, l + 1) := by
          rcases hy with h | h | h
          · exact absurd h.2 c
          · exact h.2
          · exact h.2
        have h2 : P (i + 1, l + 1) := by
          rcases hz with h | h | h
          · exact absurd h.1 c
          · exact h.2
          · exact h.2
        exact ⟨(i, l + 1), (i + 1, l + 1), Or.inr (Or.inr ⟨rfl, rfl⟩), Or.inr (Or.inr ⟨rfl, rfl⟩), h1, h2, Or.inr (Or.inr (Or.inl ⟨rfl, Or.inr rfl⟩))⟩
    · by_cases c : P (i + 1, l + 1)
      · exact ⟨(i + 1, l + 1), (i + 1, l + 1), Or.inr (Or.inl ⟨rfl, rfl⟩), Or.inr (Or.inr ⟨rfl, rfl⟩), c, c, Or.inl rfl⟩
      · have h1 : P (i, l + 1) := by
          rcases hy with h | h | h
          · exact h.1
          · exact absurd h.1 c
          · exact h.1
        have h2 : P (i + 1, l) := by
          rcases hz with h | h | h
          · exact h.1
          · exact absurd h.2 c
          · exact h.1
        exact ⟨(i, l + 1), (i + 1, l), Or.inl ⟨rfl, rfl⟩, Or.inl ⟨rfl, rfl⟩, h1, h2, Or.inr (Or.inr (Or.inr (Or.inr ⟨rfl, rfl⟩)))⟩
  have h2 : ((z.1 = y.1 ∧ z.2 = y.2 + 1) ∨ (z.2 = y.2 ∧ z.1 = y.1 + 1) ∨ (z.1 = y.1 + 1 ∧ y.2 = z.2 + 1)) ∨ ((y.1 = z.1 ∧ y.2 = z.2 + 1) ∨ (y.2 = z.2 ∧ y.1 = z.1 + 1) ∨ (y.1 = z.1 + 1 ∧ z.2 = y.2 + 1)) := by
    unfold tA at h
    omega
  rcases h2 with h2 | h2
  · exact key y z hy hz h2
  · obtain ⟨v, w, a1, a2, a3, a4, a5⟩ := key z y hz hy h2
    refine ⟨w, v, a2, a1, a4, a3, ?_⟩
    rcases a5 with e | e
    · exact Or.inl e.symm
    · exact Or.inr (tA_symm _ _ e)
theorem tT_in {n : Nat} {x u : Nat × Nat} (h : tT x u) (hx : x.1 + x.2 < n) : u.1 + u.2 < n + 1 := by unfold tT at h; omega
theorem cn_up {n : Nat} {P : Nat × Nat → Prop} {x y u : Nat × Nat} (hx : tP n (rd P) x) (hu : tT x u) (hPu : P u) (h : cn n (rd P) x y) : ∀ v, tT y v → P v → cn (n + 1) P u v := by
  have key : tP n (rd P) y ∧ ∀ v, tT y v → P v → cn (n + 1) P u v := by
    refine TR_ind (fun y => tP n (rd P) y ∧ ∀ v, tT y v → P v → cn (n + 1) P u v) (fun f hf => ?_) (fun g f hg e p => ?_) h
    · rw [hf]; exact ⟨hx, fun v hv hp => cn_same hu hv ⟨tT_in hv hx.1, hp⟩⟩
    · refine ⟨p, fun v hv hp => ?_⟩
      obtain ⟨a, b, h1, h2, h3, h4, h5⟩ := rd_link hg.1.2 p.2 e
      have c1 := hg.2 a h1 h3
      have c2 : cn (n + 1) P u b := by
        rcases h5 with h5 | h5
        · rw [h5]; exact c1
        · exact TR_step c1 h5 ⟨tT_in h2 p.1, h4⟩
      exact TR_trans (cn_same h2 hv ⟨tT_in hv p.1, hp⟩) (fun z hz => by rw [hz]; exact c2)
  exact key.2
theorem yW_up {n : Nat} {P : Nat × Nat → Prop} (h : yW n (rd P)) : yW (n + 1) P := by
  obtain ⟨a, b, c, ha, ha0, hb0, hc0, hab, hac⟩ := h
  have hb := (TR_sym1 tA_symm ha hab).1
  have hc := (TR_sym1 tA_symm ha hac).1
  have h1 : ∃ u, tT a u ∧ P u ∧ u.1 = 0 := by
    rcases ha.2 with h | h | h
    · exact ⟨_, Or.inl ⟨rfl, rfl⟩, h.1, ha0⟩
    · exact ⟨_, Or.inr (Or.inr ⟨rfl, rfl⟩), h.2, ha0⟩
    · exact ⟨_, Or.inl ⟨rfl, rfl⟩, h.1, ha0⟩
  have h2 : ∃ u, tT b u ∧ P u ∧ u.2 = 0 := by
    rcases hb.2 with h | h | h
    · exact ⟨_, Or.inl ⟨rfl, rfl⟩, h.1, hb0⟩
    · exact ⟨_, Or.inr (Or.inl ⟨rfl, rfl⟩), h.1, hb0⟩
    · exact ⟨_, Or.inl ⟨rfl, rfl⟩, h.1, hb0⟩
  have h3 : ∃ u, tT c u ∧ P u ∧ u.1 + u.2 + 1 = n + 1 := by
    rcases hc.2 with h | h | h
    · exact ⟨_, Or.inr (Or.inl ⟨rfl, rfl⟩), h.2, by show c.1 + 1 + c.2 + 1 = n + 1; omega⟩
    · exact ⟨_, Or.inr (Or.inl ⟨rfl, rfl⟩), h.1, by show c.1 + 1 + c.2 + 1 = n + 1; omega⟩
    · exact ⟨_, Or.inr (Or.inr ⟨rfl, rfl⟩), h.2, by show c.1 + (c.2 + 1) + 1 = n + 1; omega⟩
  obtain ⟨u, u1, u2, u3⟩ := h1
  obtain ⟨v, v1, v2, v3⟩ := h2
  obtain ⟨w, w1, w2, w3⟩ := h3
  exact ⟨u, v, w, ⟨tT_in u1 ha.1, u2⟩, u3, v3, w3, cn_up ha u1 u2 hab v v1 v2, cn_up ha u1 u2 hac w w1 w2⟩
/-- two neighbours lie in one triangle -/
theorem tA_tri {n : Nat} {P : Nat × Nat → Prop} {v w : Nat × Nat} (h : tA v w) (hv : tP (n + 1) P v) (hw : tP (n + 1) P w) : ∃ e, tP n (rd P) e ∧ tT e v ∧ tT e w := by
  obtain ⟨i, j⟩ := v
  obtain ⟨k, l⟩ := w
  obtain ⟨v1, v2⟩ := hv
  obtain ⟨w1, w2⟩ := hw
  unfold tA at h
  simp only at h v1 w1
  rcases h with ⟨rfl, rfl | rfl⟩ | ⟨rfl, rfl | rfl⟩ | ⟨rfl, rfl⟩ | ⟨rfl, rfl⟩
  · exact ⟨(i, l), ⟨by show i + l < n; omega, Or.inr (Or.inr ⟨w2, v2⟩)⟩, Or.inr (Or.inr ⟨rfl, rfl⟩), Or.inl ⟨rfl, rfl⟩⟩
  · exact ⟨(i, j), ⟨by show i + j < n; omega, Or.inr (Or.inr ⟨v2, w2⟩)⟩, Or.inl ⟨rfl, rfl⟩, Or.inr (Or.inr ⟨rfl, rfl⟩)⟩
  · exact ⟨(k, j), ⟨by show k + j < n; omega, Or.inl ⟨w2, v2⟩⟩, Or.inr (Or.inl ⟨rfl, rfl⟩), Or.inl ⟨rfl, rfl⟩⟩
  · exact ⟨(i, j), ⟨by show i + j < n; omega, Or.inl ⟨v2, w2⟩⟩, Or.inl ⟨rfl, rfl⟩, Or.inr (Or.inl ⟨rfl, rfl⟩)⟩
  · exact ⟨(k, j), ⟨by show k + j < n; omega, Or.inr (Or.inl ⟨v2, w2⟩)⟩, Or.inr (Or.inl ⟨rfl, rfl⟩), Or.inr (Or.inr ⟨rfl, rfl⟩)⟩
  · exact ⟨(i, l), ⟨by show i + l < n; omega, Or.inr (Or.inl ⟨w2, v2⟩)⟩, Or.inr (Or.inr ⟨rfl, rfl⟩), Or.inr (Or.inl ⟨rfl, rfl⟩)⟩
theorem tT_two {n : Nat} {P : Nat × Nat → Prop} {x y v : Nat × Nat} (h1 : tT x v) (h2 : tT y v) (hy : tP n P y) : cn n P x y := by
  by_cases e : y = x
  · exact TR_base e
  · refine TR_step (g := x) (TR_base rfl) ?_ hy
    have : ¬ (y.1 = x.1 ∧ y.2 = x.2) := fun h => e (Prod.ext h.1 h.2)
    unfold tT at h1 h2
    unfold tA
    omega
theorem cn_dn {n : Nat} {P : Nat × Nat → Prop} {a x0 v : Nat × Nat} (ha : tP (n + 1) P a) (hx : tP n (rd P) x0) (hxa : tT x0 a) (h : cn (n + 1) P a v) : ∃ x, tP n (rd P) x ∧ tT x v ∧ cn n (rd P) x0 x := by
  have key : tP (n + 1) P v ∧ ∃ x, tP n (rd P) x ∧ tT x v ∧ cn n (rd P) x0 x := by
    refine TR_ind (fun v => tP (n + 1) P v ∧ ∃ x, tP n (rd P) x ∧ tT x v ∧ cn n (rd P) x0 x) (fun f hf => ?_) (fun g f hg e p => ?_) h
    · rw [hf]; exact ⟨ha, x0, hx, hxa, TR_base rfl⟩
    · obtain ⟨hg1, x, x1, x2, x3⟩ := hg
      obtain ⟨t, t1, t2, t3⟩ := tA_tri e hg1 p
      exact ⟨p, t, t1, t3, TR_trans (tT_two x2 t2 t1) (fun z hz => by rw [hz]; exact x3)⟩
  exact key.2
theorem cn_first {n : Nat} {P : Nat × Nat → Prop} {a b : Nat × Nat} (h : cn n P a b) (hne : b ≠ a) : ∃ c, tA a c ∧ tP n P c := by
  have key : b = a ∨ ∃ c, tA a c ∧ tP n P c := by
    refine TR_ind (fun b => b = a ∨ ∃ c, tA a c ∧ tP n P c) (fun f hf => Or.inl hf) (fun g f hg e p => ?_) h
    rcases hg with hg | hg
    · rw [hg] at e; exact Or.inr ⟨f, e, p⟩
    · exact Or.inr hg
  rcases key with h | h
  · exact absurd h hne
  · exact h
theorem yW_dn {n : Nat} (hn : 1 ≤ n) {P : Nat × Nat → Prop} (h : yW (n + 1) P) : yW n (rd P) := by
  obtain ⟨a, b, c, ha, ha0, hb0, hc0, hab, hac⟩ := h
  have hf : ∃ d, tA a d ∧ tP (n + 1) P d := by
    by_cases e1 : b = a
    · by_cases e2 : c = a
      · exfalso
        rw [e1] at hb0
        rw [e2] at hc0
        omega
      · exact cn_first hac e2
    · exact cn_first hab e1
  obtain ⟨d, d1, d2⟩ := hf
  obtain ⟨x0, x1, x2, x3⟩ := tA_tri d1 ha d2
  obtain ⟨y, y1, y2, y3⟩ := cn_dn ha x1 x2 hab
  obtain ⟨z, z1, z2, z3⟩ := cn_dn ha x1 x2 hac
  have hz1 := z1.1
  refine ⟨x0, y, z, x1, ?_, ?_, ?_, y3, z3⟩
  · unfold tT at x2; omega
  · unfold tT at y2; omega
  · unfold tT at z2; omega
theorem rd_not {P : Nat × Nat → Prop} : rd (fun c => ¬ P c) = fun c => ¬ rd P c := by
  funext c
  apply propext
  unfold rd
  by_cases h1 : P (c.1, c.2) <;> by_cases h2 : P (c.1 + 1, c.2) <;> by_cases h3 : P (c.1, c.2 + 1) <;> simp [h1, h2, h3]
theorem yW_one {P : Nat × Nat → Prop} : yW 1 P ↔ P (0, 0) := by
  constructor
  · rintro ⟨a, b, c, ha, ha0, hb0, hc0, hab, hac⟩
    have h1 := ha.1
    have : a = (0, 0) := pr_eq (by show a.1 = 0; omega) (by show a.2 = 0; omega)
    rw [← this]; exact ha.2
  · intro h
    exact ⟨(0, 0), (0, 0), (0, 0), ⟨by show 0 + 0 < 1; omega, h⟩, rfl, rfl, rfl, TR_base rfl, TR_base rfl⟩
theorem yW_some : ∀ (n : Nat) (P : Nat × Nat → Prop), 1 ≤ n → yW n P ∨ yW n (fun c => ¬ P c)
  | 0, _, h => absurd h (by decide)
  | 1, P, _ => by
    rw [yW_one, yW_one]
    exact Classical.em _
  | n + 2, P, _ => by
    rcases yW_some (n + 1) (rd P) (by omega) with h | h
    · exact Or.inl (yW_up h)
    · rw [← rd_not] at h
      exact Or.inr (yW_up h)
theorem yW_both : ∀ (n : Nat) (P : Nat × Nat → Prop), 1 ≤ n → yW n P → ¬ yW n (fun c => ¬ P c)
  | 0, _, h => absurd h (by decide)
  | 1, P, _ => by
    rw [yW_one, yW_one]
    exact fun h h2 => h2 h
  | n + 2, P, _ => by
    intro h h2
    have h3 := yW_dn (by omega) h
    have h4 := yW_dn (by omega) h2
    rw [rd_not] at h4
    exact yW_both (n + 1) (rd P) (by omega) h3 h4
theorem yW_swap {n : Nat} {P : Nat × Nat → Prop} (h : yW n P) : yW n (fun c => P (c.2, c.1)) := by
  have mv : ∀ {a b : Nat × Nat}, cn n P a b → cn n (fun c => P (c.2, c.1)) (a.2, a.1) (b.2, b.1) := by
    intro a b h
    refine TR_ind (fun b => cn n (fun c => P (c.2, c.1)) (a.2, a.1) (b.2, b.1)) (fun f hf => ?_) (fun g f hg e p => ?_) h
    · rw [hf]; exact TR_base rfl
    · refine TR_step hg ?_ ⟨?_, p.2⟩
      · unfold tA at e ⊢; simp only; omega
      · have := p.1; show f.2 + f.1 < n; omega
  obtain ⟨a, b, c, ha, ha0, hb0, hc0, hab, hac⟩ := h
  have hb := TR_sym1 tA_symm ha hab
  refine ⟨(b.2, b.1), (a.2, a.1), (c.2, c.1), ⟨?_, hb.1.2⟩, hb0, ha0, ?_, mv hb.2, ?_⟩
  · have := hb.1.1; show b.2 + b.1 < n; omega
  · show c.2 + c.1 + 1 = n; omega
  · exact mv (TR_trans hac (fun z hz => by rw [hz]; exact hb.2))
/-- a board of h rows, w columns: from the first row to the last -/
def hP (h w : Nat) (B : Nat × Nat → Prop) (a : Nat × Nat) : Prop := a.1 < h ∧ a.2 < w ∧ B a
def hJ (h w : Nat) (B : Nat × Nat → Prop) : Prop := ∃ a c, hP h w B a ∧ a.1 = 0 ∧ c.1 + 1 = h ∧ TR tA (hP h w B) (fun z => z = a) c
def hY (n h w : Nat) (B P : Nat × Nat → Prop) : Prop := (∀ a : Nat × Nat, a.1 + a.2 < n → a.1 < h → a.2 < w → (P a ↔ B a)) ∧ (∀ a : Nat × Nat, a.1 + a.2 < n → h ≤ a.1 → P a) ∧ ∀ a : Nat × Nat, a.1 + a.2 < n → a.1 < h → w ≤ a.2 → ¬ P a
theorem hJ_y {n h w : Nat} (hn : n = h + w - 1) (hh : 1 ≤ h) (hw : 1 ≤ w) {B P : Nat × Nat → Prop} (hy : hY n h w B P) (hj : hJ h w B) : yW n P := by
  obtain ⟨a, c, ha, ha0, hc0, hac⟩ := hj
  have up : ∀ v, hP h w B v → tP n P v := fun v hv => by
    have h1 := hv.1
    have h2 := hv.2.1
    have h3 : v.1 + v.2 < n := by omega
    exact ⟨h3, (hy.1 v h3 h1 h2).mpr hv.2.2⟩
  have mv : cn n P a c ∧ hP h w B c := by
    refine TR_ind (fun c => cn n P a c ∧ hP h w B c) (fun f hf => ?_) (fun g f hg e p => ?_) hac
    · rw [hf]; exact ⟨TR_base rfl, ha⟩
    · exact ⟨TR_step hg.1 e (up f p), p⟩
  obtain ⟨mv, hc⟩ := mv
  rcases Nat.lt_or_ge 1 w with hw2 | hw2
  · have row : ∀ j, j + 1 < w → tP n P (h, j) := fun j hj => by
      have h3 : h + j < n := by omega
      exact ⟨h3, hy.2.1 (h, j) h3 (Nat.le_refl _)⟩
    have h1 : ∃ j, j + 1 < w ∧ cn n P a (h, j) := by
      have h4 := hc.2.1
      rcases Nat.lt_or_ge (c.2 + 1) w with e | e
      · exact ⟨c.2, e, TR_step mv (Or.inr (Or.inl ⟨rfl, Or.inr hc0.symm⟩)) (row _ e)⟩
      · exact ⟨c.2 - 1, by omega, TR_step mv (Or.inr (Or.inr (Or.inr ⟨hc0.symm, by show c.2 = c.2 - 1 + 1; omega⟩))) (row _ (by omega))⟩
    obtain ⟨j, hj, hcj⟩ := h1
    have left : ∀ d, d ≤ j → cn n P a (h, j - d) := by
      intro d
      induction d with
      | zero => intro _; exact hcj
      | succ d ih => intro hd; exact TR_step (ih (by omega)) (Or.inl ⟨rfl, Or.inl (by show j - d = j - (d + 1) + 1; omega)⟩) (row _ (by omega))
    have right : ∀ d, j + d + 1 < w → cn n P a (h, j + d) := by
      intro d
      induction d with
      | zero => intro _; exact hcj
      | succ d ih => intro hd; exact TR_step (ih (by omega)) (Or.inl ⟨rfl, Or.inr (by show j + (d + 1) = j + d + 1; omega)⟩) (row _ (by omega))
    exact ⟨a, (h, j - j), (h, j + (w - 2 - j)), up a ha, ha0, by show j - j = 0; omega, by show h + (j + (w - 2 - j)) + 1 = n; omega, left j (Nat.le_refl _), right _ (by omega)⟩
  · have h4 := hc.2.1
    exact ⟨a, c, c, up a ha, ha0, by omega, by omega, mv, mv⟩
theorem y_hJ {n h w : Nat} (hn : n = h + w - 1) (hh : 1 ≤ h) {B P : Nat × Nat → Prop} (hy : hY n h w B P) (hj : yW n P) : hJ h w B := by
  obtain ⟨a, b, c, ha, ha0, hb0, hc0, hab, hac⟩ := hj
  have ha1 := ha.1
  have haw : a.2 < w := by
    rcases Nat.lt_or_ge a.2 w with e | e
    · exact e
    · exact absurd ha.2 (hy.2.2 a ha1 (by omega) e)
  have hA : hP h w B a := ⟨by omega, haw, (hy.1 a ha1 (by omega) haw).mp ha.2⟩
  have key : hJ h w B ∨ (TR tA (hP h w B) (fun z => z = a) c ∧ hP h w B c) := by
    refine TR_ind (fun c => hJ h w B ∨ (TR tA (hP h w B) (fun z => z = a) c ∧ hP h w B c)) (fun f hf => ?_) (fun g f hg e p => ?_) hac
    · rw [hf]; exact Or.inr ⟨TR_base rfl, hA⟩
    · rcases hg with hg | ⟨hg, hg2⟩
      · exact Or.inl hg
      · have hp1 := p.1
        rcases Nat.lt_or_ge f.1 h with q | q
        · have hfw : f.2 < w := by
            rcases Nat.lt_or_ge f.2 w with e | e
            · exact e
            · exact absurd p.2 (hy.2.2 f hp1 q e)
          have hF : hP h w B f := ⟨q, hfw, (hy.1 f hp1 q hfw).mp p.2⟩
          exact Or.inr ⟨TR_step hg e hF, hF⟩
        · refine Or.inl ⟨a, g, hA, ha0, ?_, hg⟩
          have h5 := hg2.1
          unfold tA at e
          omega
  rcases key with k | ⟨k1, k2⟩
  · exact k
  · have h5 := k2.1
    have h6 := k2.2.1
    exact ⟨a, c, hA, ha0, by omega, k1⟩
/-- of a board full of two colours just one has joined -/
theorem hex {R C : Nat} (hR : 1 ≤ R) (hC : 1 ≤ C) (B : Nat × Nat → Prop) : hJ R C B ↔ ¬ hJ C R (fun c => ¬ B (c.2, c.1)) := by
  have h1 : hY (R + C - 1) R C B (fun c => (c.1 < R ∧ c.2 < C ∧ B c) ∨ R ≤ c.1) := by
    refine ⟨fun a _ a1 a2 => ⟨fun h => ?_, fun h => Or.inl ⟨a1, a2, h⟩⟩, fun a _ ha => Or.inr ha, fun a _ a1 a2 h => ?_⟩
    · rcases h with h | h
      · exact h.2.2
      · omega
    · rcases h with h | h
      · omega
      · omega
  have h2 : hY (R + C - 1) C R (fun c => ¬ B (c.2, c.1)) (fun c => ¬ ((c.2 < R ∧ c.1 < C ∧ B (c.2, c.1)) ∨ R ≤ c.2)) := by
    refine ⟨fun a _ a1 a2 => ⟨fun h h8 => h (Or.inl ⟨a2, a1, h8⟩), fun h h8 => ?_⟩, fun a a0 ha h8 => ?_, fun a _ a1 a2 h => h (Or.inr a2)⟩
    · rcases h8 with h8 | h8
      · exact h h8.2.2
      · omega
    · rcases h8 with h8 | h8
      · omega
      · omega
  constructor
  · intro h hh
    exact yW_both _ _ (by omega) (hJ_y rfl hR hC h1 h) (yW_swap (hJ_y (by omega) hC hR h2 hh))
  · intro h
    rcases yW_some (R + C - 1) (fun c => (c.1 < R ∧ c.2 < C ∧ B c) ∨ R ≤ c.1) (by omega) with y | y
    · exact y_hJ rfl hR h1 y
    · exact absurd (y_hJ (by omega) hC h2 (yW_swap y)) h
