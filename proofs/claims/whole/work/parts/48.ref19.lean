noncomputable def dkP (R C : Nat) (b ey : Nat → Nat) (em k : Nat) : Bool := jB (∀ i, i < 2 ^ em → nJ R C b ey em i = nJ R C b ey em (i ^^^ 2 ^ k))
def cntR (R C : Nat) (b : Nat → Nat) (tn dn ag : Nat) (what r : Int32) : Prop :=
  (what = nI 0 ∧ r = nI R) ∨ (what = nI 1 ∧ r = nI C) ∨ (what = nI 2 ∧ r = nI (fb_ct (mE b) (R * C))) ∨ (what = nI 3 ∧ r = nI tn) ∨ (what = nI 4 ∧ r = nI dn) ∨ (what = nI 5 ∧ r = nI ag) ∨ (what = nI 6 ∧ r = nI (fb_ct (mGrP R C b 1) (R * C))) ∨ (what = nI 7 ∧ r = nI (fb_ct (mGrP R C b 2) (R * C))) ∨ (what = nI 8 ∧ ((r = -1 ∧ 10 < fb_ct (mE b) (R * C)) ∨ (fb_ct (mE b) (R * C) ≤ 10 ∧ ∃ ey, eyP b (R * C) ey ∧ r = nI (fb_ct (dkP R C b ey (fb_ct (mE b) (R * C))) (fb_ct (mE b) (R * C)))))) ∨ (what = nI 9 ∧ ((mWho R C b = 0 ∧ r = nI 0) ∨ (0 < mWho R C b ∧ ∃ n fa, r = nI n ∧ faP R C b (mWho R C b) 36 fa ∧ beP R C (mWho R C b) fa (R * C) n))) ∨ ((∀ j, j < 10 → what ≠ nI j) ∧ r = -1)
theorem kiX6_count_X6 : ∀ w ∈ u_ws RX6 TX6 17, w ∈ wsX6_count := fun w h => List.mem_cons_of_mem _ (List.mem_append_right _ h)
set_option maxHeartbeats 4000000 in
set_option maxRecDepth 100000 in
theorem c_R_count (l : Launch) (D : va_G) (cI cJ cZ : ClassId) (h0 : Nat) (q : Nat → Nat) (R C tn dn ag md em : Nat) (b fa ey pw : Nat → Nat) (z no : Nat → Bool) (what : Int32) (hR1 : 1 ≤ R) (hR2 : R ≤ 6) (hC1 : 1 ≤ C) (hC2 : C ≤ 6) (hRC : R * C ≤ 36) (hbv : ∀ f, f < R * C → b f ≤ 2) (sz : Nat) : kMI l yX6_count wsX6_count 6 137 D cI cJ cZ [.ref h0, .int what] [(h0, wMo q R C tn dn ag md em), ((q 0), .inl (cI, 36, .inl (nA b))), ((q 2), .inl (cZ, 36, .inl (bA z))), ((q 4), .inl (cI, 36, .inl (nA fa))), ((q 5), .inl (cI, 10, .inl (nA ey))), ((q 6), .inl (cI, 11, .inl (nA pw))), ((q 9), .inl (cZ, 1024, .inl (bA no)))] sz (fun r (_ : Nat × (Nat → Bool) × (Nat → Nat) × (Nat → Nat) × (Nat → Nat) × (Nat → Bool)) => cntR R C b tn dn ag what r) (fun u : Nat × (Nat → Bool) × (Nat → Nat) × (Nat → Nat) × (Nat → Nat) × (Nat → Bool) => match u with | (emz, za, faa, eya, pwa, noa) => [(h0, wMo q R C tn dn ag md emz), ((q 0), .inl (cI, 36, .inl (nA b))), ((q 2), .inl (cZ, 36, .inl (bA za))), ((q 4), .inl (cI, 36, .inl (nA faa))), ((q 5), .inl (cI, 10, .inl (nA eya))), ((q 6), .inl (cI, 11, .inl (nA pwa))), ((q 9), .inl (cZ, 1024, .inl (bA noa)))]) := by
  refine Met.ofW (cc := cX6_count) (maxL := 4) (ret := (some .int)) (by decide) rfl ?_
  intro p e s m args below meth c s₁ B hml hv
  obtain ⟨rfl, hsz, hP, ⟨hK, hN⟩, hD0⟩ := hv
  have hx := B.exec
  have hb := B.bytes
  have hr := B.returns
  have hts := atoms_spec (ws := wsX6_count) B.pre
  have hown : s.vm.findClass RX6 = some m.cls := findClass_of_methodNamed B.named
  have hlocks := B.notSynchronized
  subst hsz
  have hD := hD0.self (sz := s.heap.size)
  generalize hAe : va_A [(h0, wMo q R C tn dn ag md em), ((q 0), .inl (cI, 36, .inl (nA b))), ((q 2), .inl (cZ, 36, .inl (bA z))), ((q 4), .inl (cI, 36, .inl (nA fa))), ((q 5), .inl (cI, 10, .inl (nA ey))), ((q 6), .inl (cI, 11, .inl (nA pw))), ((q 9), .inl (cZ, 1024, .inl (bA no)))] s.heap.size = A at hD ⊢
  have hA : ∀ q : Nat, s.heap.size ≤ q → A q := fun q h => by rw [← hAe]; exact Or.inr h
  have hS : va_S A s.heap s.heap [] := va_S.rf
  have hl := lv_entry ([.ref h0, .int what]) (n := 4) (Nat.le_of_ble_eq_true rfl)
  rw [lg_entry_eq]
  generalize (lg_sl ([.ref h0, .int what]) ++ List.replicate (4 - (lg_sl ([.ref h0, .int what])).length) Slot.unset).toArray = ls at hl ⊢
  have hl : lv_has ls 4 [(0, .ref h0), (1, .int what)] := hl
  have hK2 : kK D cI cJ cZ s := ⟨hK, hN⟩
  clear hD0
  refine lv_iconst (v := (nI 0)) hx hb dX6_count_0 (by decide) ?_
  refine lv_istore_n (lv' := [(2, .int (nI 0)), (0, .ref h0), (1, .int what)]) hx hb dX6_count_1 rfl hl (by decide) rfl (fun ls hl => ?_)
  refine lv_iload_n hx hb dX6_count_2 rfl (lv_at hl 2 rfl) ?_
  by_cases hw0 : what = nI 0
  · subst hw0
    refine lv_tableIn (off := 53) (tgt := 56) hx hb dX6_count_3 (by decide) (by decide) rfl (by decide) ?_
    refine lv_aload_n hx hb dX6_count_56 rfl (lv_at hl 1 rfl) ?_
    refine va_get (D := D) (ci := 6) (v := .int (nI R)) (C := RX6) (T := TX6) (N := 17) hx hb hts kiX6_count_X6 hown hK hP 0 rfl rfl 0 (by decide) (hts (.fieldLink RX6 7 "TwoBanksModel" "rows" "I") (List.mem_of_getElem? (i := 1) rfl)) (fun _ h9 => h9) rfl dX6_count_57 ?_
    exact W.iret (v := (nI R)) hx hb hr (fun t ht hW => ⟨⟨(nI R), (em, z, fa, ey, pw, no), rfl, Or.inl ⟨rfl, rfl⟩, by rw [ht]; exact hP, hD⟩, hS.F ht⟩) hS.2.2 dX6_count_60
  · by_cases hw1 : what = nI 1
    · subst hw1
      refine lv_tableIn (off := 58) (tgt := 61) hx hb dX6_count_3 (by decide) (by decide) rfl (by decide) ?_
      refine lv_aload_n hx hb dX6_count_61 rfl (lv_at hl 1 rfl) ?_
      refine va_get (D := D) (ci := 6) (v := .int (nI C)) (C := RX6) (T := TX6) (N := 17) hx hb hts kiX6_count_X6 hown hK hP 0 rfl rfl 1 (by decide) (hts (.fieldLink RX6 13 "TwoBanksModel" "columns" "I") (List.mem_of_getElem? (i := 2) rfl)) (fun _ h9 => h9) rfl dX6_count_62 ?_
      exact W.iret (v := (nI C)) hx hb hr (fun t ht hW => ⟨⟨(nI C), (em, z, fa, ey, pw, no), rfl, Or.inr (Or.inl ⟨rfl, rfl⟩), by rw [ht]; exact hP, hD⟩, hS.F ht⟩) hS.2.2 dX6_count_65
    · by_cases hw2 : what = nI 2
      · subst hw2
        refine lv_tableIn (off := 63) (tgt := 66) hx hb dX6_count_3 (by decide) (by decide) rfl (by decide) ?_
        refine lv_iconst (v := (nI 0)) hx hb dX6_count_66 (by decide) ?_
        refine lv_istore_n (lv' := [(3, .int (nI 0)), (2, .int (nI 0)), (0, .ref h0), (1, .int (nI 2))]) hx hb dX6_count_67 rfl hl (by decide) rfl (fun ls hl => ?_)
        refine kw_loop (σ := Nat × Nat) (fun zz H locs ls => match zz with | (n, f) => va_P D vwCl [(h0, wMo q R C tn dn ag md em), ((q 0), .inl (cI, 36, .inl (nA b))), ((q 2), .inl (cZ, 36, .inl (bA z))), ((q 4), .inl (cI, 36, .inl (nA fa))), ((q 5), .inl (cI, 10, .inl (nA ey))), ((q 6), .inl (cI, 11, .inl (nA pw))), ((q 9), .inl (cZ, 1024, .inl (bA no)))] H ∧ va_D A [(h0, wMo q R C tn dn ag md em), ((q 0), .inl (cI, 36, .inl (nA b))), ((q 2), .inl (cZ, 36, .inl (bA z))), ((q 4), .inl (cI, 36, .inl (nA fa))), ((q 5), .inl (cI, 10, .inl (nA ey))), ((q 6), .inl (cI, 11, .inl (nA pw))), ((q 9), .inl (cZ, 1024, .inl (bA no)))] ∧ va_S A s.heap H locs ∧ lv_has ls 4 [(0, .ref h0), (2, .int (nI n)), (3, .int (nI f))] ∧ (f ≤ R * C) ∧ (n = fb_ct (mE b) f)) (fun zz => match zz with | (n, f) => R * C - f) (0, 0) ⟨hP, hD, hS, lv_sub hl [2, 1, 0] rfl, Nat.zero_le _, rfl⟩ ?_
        clear hP hD hS hl
        rintro ⟨n, f⟩ H locs ls ⟨hP, hD, hS, hl, hf9, hn9⟩ ih_68
        have hP : va_P D vwCl [(h0, wMo q R C tn dn ag md em), ((q 0), .inl (cI, 36, .inl (nA b))), ((q 2), .inl (cZ, 36, .inl (bA z))), ((q 4), .inl (cI, 36, .inl (nA fa))), ((q 5), .inl (cI, 10, .inl (nA ey))), ((q 6), .inl (cI, 11, .inl (nA pw))), ((q 9), .inl (cZ, 1024, .inl (bA no)))] H := hP
        have hD : va_D A [(h0, wMo q R C tn dn ag md em), ((q 0), .inl (cI, 36, .inl (nA b))), ((q 2), .inl (cZ, 36, .inl (bA z))), ((q 4), .inl (cI, 36, .inl (nA fa))), ((q 5), .inl (cI, 10, .inl (nA ey))), ((q 6), .inl (cI, 11, .inl (nA pw))), ((q 9), .inl (cZ, 1024, .inl (bA no)))] := hD
        have hl : lv_has ls 4 [(0, .ref h0), (2, .int (nI n)), (3, .int (nI f))] := hl
        have hf9 : f ≤ R * C := hf9
        have hn9 : n = fb_ct (mE b) f := hn9
        refine lv_iload_n hx hb dX6_count_68 rfl (lv_at hl 2 rfl) ?_
        refine lv_aload_n hx hb dX6_count_69 rfl (lv_at hl 0 rfl) ?_
        refine k_calli (wr := [((q 0), .inl (cI, 36, .inl (nA b))), ((q 2), .inl (cZ, 36, .inl (bA z))), ((q 4), .inl (cI, 36, .inl (nA fa))), ((q 5), .inl (cI, 10, .inl (nA ey))), ((q 6), .inl (cI, 11, .inl (nA pw))), ((q 9), .inl (cZ, 1024, .inl (bA no)))]) (w2 := (fun _ : Unit => [(h0, wMo q R C tn dn ag md em), ((q 0), .inl (cI, 36, .inl (nA b))), ((q 2), .inl (cZ, 36, .inl (bA z))), ((q 4), .inl (cI, 36, .inl (nA fa))), ((q 5), .inl (cI, 10, .inl (nA ey))), ((q 6), .inl (cI, 11, .inl (nA pw))), ((q 9), .inl (cZ, 1024, .inl (bA no)))])) (va_runV (As := []) (rest := [.int (nI f)]) ⟨hx, hb, hml, hown, hts⟩ (c_R_fields l D cI cJ cZ h0 q R C tn dn ag md em  H.size) (cwV 0 hts gX6_count_X6_fields rfl rfl rfl (by decide +kernel) ⟨Nat.le_of_ble_eq_true rfl, Nat.le_of_ble_eq_true rfl⟩) (kPV (ci := 6) (q0 := 0) (wc := [(h0, wMo q R C tn dn ag md em)]) hK2 hP hD [0] rfl (by decide) rfl rfl) rfl rfl hl.1 rfl (lv_room (Nat.le_of_ble_eq_true rfl)) dX6_count_70 ⟨Nat.le_of_ble_eq_true rfl, Nat.le_of_ble_eq_true rfl⟩) hP hD hS hA [0] [1, 2, 3, 4, 5, 6] [6, 0, 1, 2, 3, 4, 5] rfl rfl (by decide) (by decide) (fun _ => rfl) (by decide) (fun r_1 u_1 H locs hw_1 hP hD hS => ?_)
        have hP : va_P D vwCl [(h0, wMo q R C tn dn ag md em), ((q 0), .inl (cI, 36, .inl (nA b))), ((q 2), .inl (cZ, 36, .inl (bA z))), ((q 4), .inl (cI, 36, .inl (nA fa))), ((q 5), .inl (cI, 10, .inl (nA ey))), ((q 6), .inl (cI, 11, .inl (nA pw))), ((q 9), .inl (cZ, 1024, .inl (bA no)))] H := hP
        have hD : va_D A [(h0, wMo q R C tn dn ag md em), ((q 0), .inl (cI, 36, .inl (nA b))), ((q 2), .inl (cZ, 36, .inl (bA z))), ((q 4), .inl (cI, 36, .inl (nA fa))), ((q 5), .inl (cI, 10, .inl (nA ey))), ((q 6), .inl (cI, 11, .inl (nA pw))), ((q 9), .inl (cZ, 1024, .inl (bA no)))] := hD
        subst hw_1
        refine kw_icmp_ge (tgt := 99) hx hb dX6_count_73 (by decide) (by omega) (by omega) (fun c_73_2 => ?_) (fun c_73_2 => ?_)
        · refine lv_iload_n hx hb dX6_count_99 rfl (lv_at hl 1 rfl) ?_
          exact W.iret (v := (nI n)) hx hb hr (fun t ht hW => ⟨⟨(nI n), (em, z, fa, ey, pw, no), rfl, Or.inr (Or.inr (Or.inl ⟨rfl, by rw [hn9, show f = R * C by omega]⟩)), by rw [ht]; exact hP, hD⟩, hS.F ht⟩) hS.2.2 dX6_count_100
        · have hfl : f < R * C := c_73_2
          have hbf := hbv f hfl
          refine lv_iload_n hx hb dX6_count_76 rfl (lv_at hl 1 rfl) ?_
          refine lv_aload_n hx hb dX6_count_77 rfl (lv_at hl 0 rfl) ?_
          refine va_get (D := D) (ci := 6) (v := .ref (q 0)) (C := RX6) (T := TX6) (N := 17) hx hb hts kiX6_count_X6 hown hK hP 0 rfl rfl 3 (by decide) (hts (.fieldLink RX6 19 "TwoBanksModel" "at" "[I") (List.mem_of_getElem? (i := 3) rfl)) (fun _ h9 => h9) rfl dX6_count_78 ?_
          refine lv_iload_n hx hb dX6_count_81 rfl (lv_at hl 2 rfl) ?_
          refine va_iald hx hb hK hP 1 0 rfl rfl (vp_in_nI (by omega) (by omega)) dX6_count_82 ?_
          refine k_toi (y := nI (b f)) (congrArg (nA b) (nI_clamp (by omega))) ?_
          refine kw_if_ne (tgt := 90) hx hb dX6_count_83 (by decide) (by omega) (fun c_83_3 => ?_) (fun c_83_3 => ?_)
          · have hp9 : mE b f = false := decide_eq_false (by omega)
            refine lv_iconst (v := (nI 0)) hx hb dX6_count_90 (by decide) ?_
            refine lv_iadd hx hb dX6_count_91 ?_
            refine k_toi (y := nI (n + 0)) (nI_add _ _) ?_
            refine lv_istore_n (lv' := [(2, .int (nI (n + 0))), (0, .ref h0), (3, .int (nI f))]) hx hb dX6_count_92 rfl hl (by decide) rfl (fun ls hl => ?_)
            refine lv_iinc (v := (nI (f + 1))) (lv' := [(3, .int (nI (f + 1))), (2, .int (nI (n + 0))), (0, .ref h0)]) hx hb dX6_count_93 hl (k := 2) rfl (k_inc _ 1) (by decide) rfl (fun ls hl => ?_)
            refine lv_goto (tgt := 68) hx hb dX6_count_96 (by decide) ?_
            exact ih_68 ((n + 0), (f + 1)) _ _ _ (by show R * C - (f + 1) < R * C - f; omega) ⟨hP, hD, hS, lv_sub hl [2, 1, 0] rfl, by omega, by rw [ct_0 hp9]; exact hn9⟩
          · have hp9 : mE b f = true := decide_eq_true c_83_3
            refine lv_iconst (v := (nI 1)) hx hb dX6_count_86 (by decide) ?_
            refine lv_goto (tgt := 91) hx hb dX6_count_87 (by decide) ?_
            refine lv_iadd hx hb dX6_count_91 ?_
            refine k_toi (y := nI (n + 1)) (nI_add _ _) ?_
            refine lv_istore_n (lv' := [(2, .int (nI (n + 1))), (0, .ref h0), (3, .int (nI f))]) hx hb dX6_count_92 rfl hl (by decide) rfl (fun ls hl => ?_)
            refine lv_iinc (v := (nI (f + 1))) (lv' := [(3, .int (nI (f + 1))), (2, .int (nI (n + 1))), (0, .ref h0)]) hx hb dX6_count_93 hl (k := 2) rfl (k_inc _ 1) (by decide) rfl (fun ls hl => ?_)
            refine lv_goto (tgt := 68) hx hb dX6_count_96 (by decide) ?_
            exact ih_68 ((n + 1), (f + 1)) _ _ _ (by show R * C - (f + 1) < R * C - f; omega) ⟨hP, hD, hS, lv_sub hl [2, 1, 0] rfl, by omega, by rw [ct_1 hp9, ← hn9]⟩
      · by_cases hw3 : what = nI 3
        · subst hw3
          refine lv_tableIn (off := 98) (tgt := 101) hx hb dX6_count_3 (by decide) (by decide) rfl (by decide) ?_
          refine lv_aload_n hx hb dX6_count_101 rfl (lv_at hl 1 rfl) ?_
          refine va_get (D := D) (ci := 6) (v := .int (nI tn)) (C := RX6) (T := TX6) (N := 17) hx hb hts kiX6_count_X6 hown hK hP 0 rfl rfl 2 (by decide) (hts (.fieldLink RX6 16 "TwoBanksModel" "turn" "I") (List.mem_of_getElem? (i := 4) rfl)) (fun _ h9 => h9) rfl dX6_count_102 ?_
          exact W.iret (v := (nI tn)) hx hb hr (fun t ht hW => ⟨⟨(nI tn), (em, z, fa, ey, pw, no), rfl, Or.inr (Or.inr (Or.inr (Or.inl ⟨rfl, rfl⟩))), by rw [ht]; exact hP, hD⟩, hS.F ht⟩) hS.2.2 dX6_count_105
        · by_cases hw4 : what = nI 4
          · subst hw4
            refine lv_tableIn (off := 103) (tgt := 106) hx hb dX6_count_3 (by decide) (by decide) rfl (by decide) ?_
            refine lv_aload_n hx hb dX6_count_106 rfl (lv_at hl 1 rfl) ?_
            refine va_get (D := D) (ci := 6) (v := .int (nI dn)) (C := RX6) (T := TX6) (N := 17) hx hb hts kiX6_count_X6 hown hK hP 0 rfl rfl 4 (by decide) (hts (.fieldLink RX6 64 "TwoBanksModel" "done" "I") (List.mem_of_getElem? (i := 5) rfl)) (fun _ h9 => h9) rfl dX6_count_107 ?_
            exact W.iret (v := (nI dn)) hx hb hr (fun t ht hW => ⟨⟨(nI dn), (em, z, fa, ey, pw, no), rfl, Or.inr (Or.inr (Or.inr (Or.inr (Or.inl ⟨rfl, rfl⟩)))), by rw [ht]; exact hP, hD⟩, hS.F ht⟩) hS.2.2 dX6_count_110
          · by_cases hw5 : what = nI 5
            · subst hw5
              refine lv_tableIn (off := 108) (tgt := 111) hx hb dX6_count_3 (by decide) (by decide) rfl (by decide) ?_
              refine lv_aload_n hx hb dX6_count_111 rfl (lv_at hl 1 rfl) ?_
              refine va_get (D := D) (ci := 6) (v := .int (nI ag)) (C := RX6) (T := TX6) (N := 17) hx hb hts kiX6_count_X6 hown hK hP 0 rfl rfl 5 (by decide) (hts (.fieldLink RX6 67 "TwoBanksModel" "again" "I") (List.mem_of_getElem? (i := 6) rfl)) (fun _ h9 => h9) rfl dX6_count_112 ?_
              exact W.iret (v := (nI ag)) hx hb hr (fun t ht hW => ⟨⟨(nI ag), (em, z, fa, ey, pw, no), rfl, Or.inr (Or.inr (Or.inr (Or.inr (Or.inr (Or.inl ⟨rfl, rfl⟩))))), by rw [ht]; exact hP, hD⟩, hS.F ht⟩) hS.2.2 dX6_count_115
            · by_cases hw6 : what = nI 6
              · subst hw6
                refine lv_tableIn (off := 113) (tgt := 116) hx hb dX6_count_3 (by decide) (by decide) rfl (by decide) ?_
                refine lv_aload_n hx hb dX6_count_116 rfl (lv_at hl 1 rfl) ?_
                refine lv_iconst (v := (nI 1)) hx hb dX6_count_117 (by decide) ?_
                refine k_calli (wr := [((q 4), .inl (cI, 36, .inl (nA fa))), ((q 5), .inl (cI, 10, .inl (nA ey))), ((q 6), .inl (cI, 11, .inl (nA pw))), ((q 9), .inl (cZ, 1024, .inl (bA no)))]) (w2 := (fun za : Nat → Bool => [(h0, wMo q R C tn dn ag md em), ((q 0), .inl (cI, 36, .inl (nA b))), ((q 2), .inl (cZ, 36, .inl (bA za))), ((q 4), .inl (cI, 36, .inl (nA fa))), ((q 5), .inl (cI, 10, .inl (nA ey))), ((q 6), .inl (cI, 11, .inl (nA pw))), ((q 9), .inl (cZ, 1024, .inl (bA no)))])) (va_runV (As := [.int (nI 1)]) (rest := []) ⟨hx, hb, hml, hown, hts⟩ (c_R_groups l D cI cJ cZ h0 q R C tn dn ag md em b z 1 hR1 hR2 hC1 hC2 hRC hbv (by omega)  s.heap.size) (cwV 1 hts gX6_count_X6_groups rfl rfl rfl (by decide +kernel) ⟨Nat.le_of_ble_eq_true rfl, Nat.le_of_ble_eq_true rfl⟩) (kPV (ci := 6) (q0 := 0) (wc := [(h0, wMo q R C tn dn ag md em), ((q 0), .inl (cI, 36, .inl (nA b))), ((q 2), .inl (cZ, 36, .inl (bA z)))]) hK2 hP hD [0, 1, 2] rfl (by decide) rfl rfl) rfl rfl hl.1 rfl (lv_room (Nat.le_of_ble_eq_true rfl)) dX6_count_118 ⟨Nat.le_of_ble_eq_true rfl, Nat.le_of_ble_eq_true rfl⟩) hP hD hS hA [0, 1, 2] [3, 4, 5, 6] [4, 5, 6, 0, 1, 2, 3] rfl rfl (by decide) (by decide) (fun _ => rfl) (by decide) (fun r_5 u_5 H locs hw_5 hP hD hS => ?_)
                obtain ⟨za_4, rfl⟩ : ∃ z, z = u_5 := ⟨_, rfl⟩
                have hP : va_P D vwCl [(h0, wMo q R C tn dn ag md em), ((q 0), .inl (cI, 36, .inl (nA b))), ((q 2), .inl (cZ, 36, .inl (bA za_4))), ((q 4), .inl (cI, 36, .inl (nA fa))), ((q 5), .inl (cI, 10, .inl (nA ey))), ((q 6), .inl (cI, 11, .inl (nA pw))), ((q 9), .inl (cZ, 1024, .inl (bA no)))] H := hP
                have hD : va_D A [(h0, wMo q R C tn dn ag md em), ((q 0), .inl (cI, 36, .inl (nA b))), ((q 2), .inl (cZ, 36, .inl (bA za_4))), ((q 4), .inl (cI, 36, .inl (nA fa))), ((q 5), .inl (cI, 10, .inl (nA ey))), ((q 6), .inl (cI, 11, .inl (nA pw))), ((q 9), .inl (cZ, 1024, .inl (bA no)))] := hD
                subst hw_5
                exact W.iret (v := (nI (fb_ct (mGrP R C b 1) (R * C)))) hx hb hr (fun t ht hW => ⟨⟨(nI (fb_ct (mGrP R C b 1) (R * C))), (em, za_4, fa, ey, pw, no), rfl, Or.inr (Or.inr (Or.inr (Or.inr (Or.inr (Or.inr (Or.inl ⟨rfl, rfl⟩)))))), by rw [ht]; exact hP, hD⟩, hS.F ht⟩) hS.2.2 dX6_count_121
              · by_cases hw7 : what = nI 7
                · subst hw7
                  refine lv_tableIn (off := 119) (tgt := 122) hx hb dX6_count_3 (by decide) (by decide) rfl (by decide) ?_
                  refine lv_aload_n hx hb dX6_count_122 rfl (lv_at hl 1 rfl) ?_
                  refine lv_iconst (v := (nI 2)) hx hb dX6_count_123 (by decide) ?_
                  refine k_calli (wr := [((q 4), .inl (cI, 36, .inl (nA fa))), ((q 5), .inl (cI, 10, .inl (nA ey))), ((q 6), .inl (cI, 11, .inl (nA pw))), ((q 9), .inl (cZ, 1024, .inl (bA no)))]) (w2 := (fun za : Nat → Bool => [(h0, wMo q R C tn dn ag md em), ((q 0), .inl (cI, 36, .inl (nA b))), ((q 2), .inl (cZ, 36, .inl (bA za))), ((q 4), .inl (cI, 36, .inl (nA fa))), ((q 5), .inl (cI, 10, .inl (nA ey))), ((q 6), .inl (cI, 11, .inl (nA pw))), ((q 9), .inl (cZ, 1024, .inl (bA no)))])) (va_runV (As := [.int (nI 2)]) (rest := []) ⟨hx, hb, hml, hown, hts⟩ (c_R_groups l D cI cJ cZ h0 q R C tn dn ag md em b z 2 hR1 hR2 hC1 hC2 hRC hbv (by omega)  s.heap.size) (cwV 1 hts gX6_count_X6_groups rfl rfl rfl (by decide +kernel) ⟨Nat.le_of_ble_eq_true rfl, Nat.le_of_ble_eq_true rfl⟩) (kPV (ci := 6) (q0 := 0) (wc := [(h0, wMo q R C tn dn ag md em), ((q 0), .inl (cI, 36, .inl (nA b))), ((q 2), .inl (cZ, 36, .inl (bA z)))]) hK2 hP hD [0, 1, 2] rfl (by decide) rfl rfl) rfl rfl hl.1 rfl (lv_room (Nat.le_of_ble_eq_true rfl)) dX6_count_124 ⟨Nat.le_of_ble_eq_true rfl, Nat.le_of_ble_eq_true rfl⟩) hP hD hS hA [0, 1, 2] [3, 4, 5, 6] [4, 5, 6, 0, 1, 2, 3] rfl rfl (by decide) (by decide) (fun _ => rfl) (by decide) (fun r_7 u_7 H locs hw_7 hP hD hS => ?_)
                  obtain ⟨za_6, rfl⟩ : ∃ z, z = u_7 := ⟨_, rfl⟩
                  have hP : va_P D vwCl [(h0, wMo q R C tn dn ag md em), ((q 0), .inl (cI, 36, .inl (nA b))), ((q 2), .inl (cZ, 36, .inl (bA za_6))), ((q 4), .inl (cI, 36, .inl (nA fa))), ((q 5), .inl (cI, 10, .inl (nA ey))), ((q 6), .inl (cI, 11, .inl (nA pw))), ((q 9), .inl (cZ, 1024, .inl (bA no)))] H := hP
                  have hD : va_D A [(h0, wMo q R C tn dn ag md em), ((q 0), .inl (cI, 36, .inl (nA b))), ((q 2), .inl (cZ, 36, .inl (bA za_6))), ((q 4), .inl (cI, 36, .inl (nA fa))), ((q 5), .inl (cI, 10, .inl (nA ey))), ((q 6), .inl (cI, 11, .inl (nA pw))), ((q 9), .inl (cZ, 1024, .inl (bA no)))] := hD
                  subst hw_7
                  exact W.iret (v := (nI (fb_ct (mGrP R C b 2) (R * C)))) hx hb hr (fun t ht hW => ⟨⟨(nI (fb_ct (mGrP R C b 2) (R * C))), (em, za_6, fa, ey, pw, no), rfl, Or.inr (Or.inr (Or.inr (Or.inr (Or.inr (Or.inr (Or.inr (Or.inl ⟨rfl, rfl⟩))))))), by rw [ht]; exact hP, hD⟩, hS.F ht⟩) hS.2.2 dX6_count_127
                · by_cases hw8 : what = nI 8
                  · subst hw8
                    refine lv_tableIn (off := 125) (tgt := 128) hx hb dX6_count_3 (by decide) (by decide) rfl (by decide) ?_
                    refine lv_aload_n hx hb dX6_count_128 rfl (lv_at hl 1 rfl) ?_
                    refine k_calli (wr := [((q 2), .inl (cZ, 36, .inl (bA z))), ((q 4), .inl (cI, 36, .inl (nA fa))), ((q 9), .inl (cZ, 1024, .inl (bA no)))]) (w2 := (fun u : (Nat → Nat) × (Nat → Nat) => match u with | (eya, pwa) => [(h0, wMo q R C tn dn ag md (fb_ct (mE b) (R * C))), ((q 0), .inl (cI, 36, .inl (nA b))), ((q 2), .inl (cZ, 36, .inl (bA z))), ((q 4), .inl (cI, 36, .inl (nA fa))), ((q 5), .inl (cI, 10, .inl (nA eya))), ((q 6), .inl (cI, 11, .inl (nA pwa))), ((q 9), .inl (cZ, 1024, .inl (bA no)))])) (va_runV (As := []) (rest := []) ⟨hx, hb, hml, hown, hts⟩ (c_R_opens l D cI cJ cZ h0 q R C tn dn ag md em b ey pw hR1 hR2 hC1 hC2 hRC hbv  s.heap.size) (cwV 0 hts gX6_count_X6_opens rfl rfl rfl (by decide +kernel) ⟨Nat.le_of_ble_eq_true rfl, Nat.le_of_ble_eq_true rfl⟩) (kPV (ci := 6) (q0 := 0) (wc := [(h0, wMo q R C tn dn ag md em), ((q 0), .inl (cI, 36, .inl (nA b))), ((q 5), .inl (cI, 10, .inl (nA ey))), ((q 6), .inl (cI, 11, .inl (nA pw)))]) hK2 hP hD [0, 1, 4, 5] rfl (by decide) rfl rfl) rfl rfl hl.1 rfl (lv_room (Nat.le_of_ble_eq_true rfl)) dX6_count_129 ⟨Nat.le_of_ble_eq_true rfl, Nat.le_of_ble_eq_true rfl⟩) hP hD hS hA [0, 1, 4, 5] [2, 3, 6] [3, 4, 0, 1, 5, 6, 2] rfl rfl (by decide) (by decide) (fun ⟨_, _⟩ => rfl) (by decide) (fun r_10 u_10 H locs hw_10 hP hD hS => ?_)
                    obtain ⟨eya_8, pwa_9⟩ := u_10
                    have hP : va_P D vwCl [(h0, wMo q R C tn dn ag md (fb_ct (mE b) (R * C))), ((q 0), .inl (cI, 36, .inl (nA b))), ((q 2), .inl (cZ, 36, .inl (bA z))), ((q 4), .inl (cI, 36, .inl (nA fa))), ((q 5), .inl (cI, 10, .inl (nA eya_8))), ((q 6), .inl (cI, 11, .inl (nA pwa_9))), ((q 9), .inl (cZ, 1024, .inl (bA no)))] H := hP
                    have hD : va_D A [(h0, wMo q R C tn dn ag md (fb_ct (mE b) (R * C))), ((q 0), .inl (cI, 36, .inl (nA b))), ((q 2), .inl (cZ, 36, .inl (bA z))), ((q 4), .inl (cI, 36, .inl (nA fa))), ((q 5), .inl (cI, 10, .inl (nA eya_8))), ((q 6), .inl (cI, 11, .inl (nA pwa_9))), ((q 9), .inl (cZ, 1024, .inl (bA no)))] := hD
                    obtain ⟨hw_10, hey9, hpw⟩ := hw_10
                    rcases hw_10 with ⟨rfl, hw_10⟩ | ⟨rfl, hw_10⟩
                    · have hec : (fb_ct (mE b) (R * C)) ≤ 10 := hw_10
                      have hey : ∀ k, k < (fb_ct (mE b) (R * C)) → eya_8 k < R * C := fun k hk => (ey_lt hey9 hec k hk).1
                      have hin := ey_inj hey9 hec
                      have hb0 : ∀ k, k < (fb_ct (mE b) (R * C)) → b (eya_8 k) = 0 := fun k hk => (ey_lt hey9 hec k hk).2.1
                      have h2n := p2_le hec
                      refine lv_if_ne (tgt := 137) hx hb dX6_count_132 (by decide) (fun c_132_11 => ?_) (fun c_132_11 => absurd c_132_11 (by decide))
                      refine lv_aload_n hx hb dX6_count_137 rfl (lv_at hl 1 rfl) ?_
                      refine k_callv (wr := [((q 4), .inl (cI, 36, .inl (nA fa)))]) (w2 := (fun u : (Nat → Bool) × (Nat → Bool) => match u with | (za, noa) => [(h0, wMo q R C tn dn ag md (fb_ct (mE b) (R * C))), ((q 0), .inl (cI, 36, .inl (nA b))), ((q 2), .inl (cZ, 36, .inl (bA za))), ((q 4), .inl (cI, 36, .inl (nA fa))), ((q 5), .inl (cI, 10, .inl (nA eya_8))), ((q 6), .inl (cI, 11, .inl (nA pwa_9))), ((q 9), .inl (cZ, 1024, .inl (bA noa)))])) (va_runV (As := []) (rest := []) ⟨hx, hb, hml, hown, hts⟩ (c_R_fillings0 l D cI cJ cZ h0 q R C tn dn ag md (fb_ct (mE b) (R * C)) b eya_8 pwa_9 z no hR1 hR2 hC1 hC2 hRC hbv hey hpw (by omega) hin hb0  H.size) (cwV 0 hts gX6_count_X6_fillings0 rfl rfl rfl (by decide +kernel) ⟨Nat.le_of_ble_eq_true rfl, Nat.le_of_ble_eq_true rfl⟩) (kPV (ci := 6) (q0 := 0) (wc := [(h0, wMo q R C tn dn ag md (fb_ct (mE b) (R * C))), ((q 0), .inl (cI, 36, .inl (nA b))), ((q 2), .inl (cZ, 36, .inl (bA z))), ((q 5), .inl (cI, 10, .inl (nA eya_8))), ((q 6), .inl (cI, 11, .inl (nA pwa_9))), ((q 9), .inl (cZ, 1024, .inl (bA no)))]) hK2 hP hD [0, 1, 2, 4, 5, 6] rfl (by decide) rfl rfl) rfl rfl hl.1 rfl (lv_room (Nat.le_of_ble_eq_true rfl)) dX6_count_138 ⟨Nat.le_of_ble_eq_true rfl, Nat.le_of_ble_eq_true rfl⟩) hP hD hS hA [0, 1, 2, 4, 5, 6] [3] [1, 2, 3, 0, 4, 5, 6] rfl rfl (by decide) (by decide) (fun ⟨_, _⟩ => rfl) (by decide) (fun u_14 H locs hw_14 hP hD hS => ?_)
                      obtain ⟨za_12, noa_13⟩ := u_14
                      have hP : va_P D vwCl [(h0, wMo q R C tn dn ag md (fb_ct (mE b) (R * C))), ((q 0), .inl (cI, 36, .inl (nA b))), ((q 2), .inl (cZ, 36, .inl (bA za_12))), ((q 4), .inl (cI, 36, .inl (nA fa))), ((q 5), .inl (cI, 10, .inl (nA eya_8))), ((q 6), .inl (cI, 11, .inl (nA pwa_9))), ((q 9), .inl (cZ, 1024, .inl (bA noa_13)))] H := hP
                      have hD : va_D A [(h0, wMo q R C tn dn ag md (fb_ct (mE b) (R * C))), ((q 0), .inl (cI, 36, .inl (nA b))), ((q 2), .inl (cZ, 36, .inl (bA za_12))), ((q 4), .inl (cI, 36, .inl (nA fa))), ((q 5), .inl (cI, 10, .inl (nA eya_8))), ((q 6), .inl (cI, 11, .inl (nA pwa_9))), ((q 9), .inl (cZ, 1024, .inl (bA noa_13)))] := hD
                      have hno9 : ∀ i, i < 2 ^ (fb_ct (mE b) (R * C)) → noa_13 i = nJ R C b eya_8 (fb_ct (mE b) (R * C)) i := hw_14
                      refine lv_iconst (v := (nI 0)) hx hb dX6_count_141 (by decide) ?_
                      refine lv_istore_n (lv' := [(3, .int (nI 0)), (2, .int (nI 0)), (0, .ref h0), (1, .int (nI 8))]) hx hb dX6_count_142 rfl hl (by decide) rfl (fun ls hl => ?_)
                      refine kw_loop (σ := Nat × Nat) (fun zz H locs ls => match zz with | (n, k) => va_P D vwCl [(h0, wMo q R C tn dn ag md (fb_ct (mE b) (R * C))), ((q 0), .inl (cI, 36, .inl (nA b))), ((q 2), .inl (cZ, 36, .inl (bA za_12))), ((q 4), .inl (cI, 36, .inl (nA fa))), ((q 5), .inl (cI, 10, .inl (nA eya_8))), ((q 6), .inl (cI, 11, .inl (nA pwa_9))), ((q 9), .inl (cZ, 1024, .inl (bA noa_13)))] H ∧ va_D A [(h0, wMo q R C tn dn ag md (fb_ct (mE b) (R * C))), ((q 0), .inl (cI, 36, .inl (nA b))), ((q 2), .inl (cZ, 36, .inl (bA za_12))), ((q 4), .inl (cI, 36, .inl (nA fa))), ((q 5), .inl (cI, 10, .inl (nA eya_8))), ((q 6), .inl (cI, 11, .inl (nA pwa_9))), ((q 9), .inl (cZ, 1024, .inl (bA noa_13)))] ∧ va_S A s.heap H locs ∧ lv_has ls 4 [(0, .ref h0), (2, .int (nI n)), (3, .int (nI k))] ∧ (k ≤ (fb_ct (mE b) (R * C))) ∧ (n = fb_ct (dkP R C b eya_8 (fb_ct (mE b) (R * C))) k)) (fun zz => match zz with | (n, k) => (fb_ct (mE b) (R * C)) - k) (0, 0) ⟨hP, hD, hS, lv_sub hl [2, 1, 0] rfl, Nat.zero_le _, rfl⟩ ?_
                      clear hP hD hS hl
                      rintro ⟨n, k⟩ H locs ls ⟨hP, hD, hS, hl, hk9, hn9⟩ ih_143
                      have hP : va_P D vwCl [(h0, wMo q R C tn dn ag md (fb_ct (mE b) (R * C))), ((q 0), .inl (cI, 36, .inl (nA b))), ((q 2), .inl (cZ, 36, .inl (bA za_12))), ((q 4), .inl (cI, 36, .inl (nA fa))), ((q 5), .inl (cI, 10, .inl (nA eya_8))), ((q 6), .inl (cI, 11, .inl (nA pwa_9))), ((q 9), .inl (cZ, 1024, .inl (bA noa_13)))] H := hP
                      have hD : va_D A [(h0, wMo q R C tn dn ag md (fb_ct (mE b) (R * C))), ((q 0), .inl (cI, 36, .inl (nA b))), ((q 2), .inl (cZ, 36, .inl (bA za_12))), ((q 4), .inl (cI, 36, .inl (nA fa))), ((q 5), .inl (cI, 10, .inl (nA eya_8))), ((q 6), .inl (cI, 11, .inl (nA pwa_9))), ((q 9), .inl (cZ, 1024, .inl (bA noa_13)))] := hD
                      have hl : lv_has ls 4 [(0, .ref h0), (2, .int (nI n)), (3, .int (nI k))] := hl
                      have hk9 : k ≤ (fb_ct (mE b) (R * C)) := hk9
                      have hn9 : n = fb_ct (dkP R C b eya_8 (fb_ct (mE b) (R * C))) k := hn9
                      refine lv_iload_n hx hb dX6_count_143 rfl (lv_at hl 2 rfl) ?_
                      refine lv_aload_n hx hb dX6_count_144 rfl (lv_at hl 0 rfl) ?_
                      refine va_get (D := D) (ci := 6) (v := .int (nI (fb_ct (mE b) (R * C)))) (C := RX6) (T := TX6) (N := 17) hx hb hts kiX6_count_X6 hown hK hP 0 rfl rfl 11 (by decide) (hts (.fieldLink RX6 130 "TwoBanksModel" "empties" "I") (List.mem_of_getElem? (i := 7) rfl)) (fun _ h9 => h9) rfl dX6_count_145 ?_
                      refine kw_icmp_ge (tgt := 173) hx hb dX6_count_148 (by decide) (by omega) (by omega) (fun c_148_15 => ?_) (fun c_148_15 => ?_)
                      · refine lv_iload_n hx hb dX6_count_173 rfl (lv_at hl 1 rfl) ?_
                        exact W.iret (v := (nI n)) hx hb hr (fun t ht hW => ⟨⟨(nI n), ((fb_ct (mE b) (R * C)), za_12, fa, eya_8, pwa_9, noa_13), rfl, Or.inr (Or.inr (Or.inr (Or.inr (Or.inr (Or.inr (Or.inr (Or.inr (Or.inl ⟨rfl, Or.inr ⟨hec, eya_8, hey9, by rw [hn9, show k = (fb_ct (mE b) (R * C)) by omega]⟩⟩)))))))), by rw [ht]; exact hP, hD⟩, hS.F ht⟩) hS.2.2 dX6_count_174
                      · have hkl : k < (fb_ct (mE b) (R * C)) := c_148_15
                        refine lv_iload_n hx hb dX6_count_151 rfl (lv_at hl 1 rfl) ?_
                        refine lv_aload_n hx hb dX6_count_152 rfl (lv_at hl 0 rfl) ?_
                        refine lv_iload_n hx hb dX6_count_153 rfl (lv_at hl 2 rfl) ?_
                        refine k_calli (wr := [((q 0), .inl (cI, 36, .inl (nA b))), ((q 2), .inl (cZ, 36, .inl (bA za_12))), ((q 4), .inl (cI, 36, .inl (nA fa))), ((q 5), .inl (cI, 10, .inl (nA eya_8))), ((q 6), .inl (cI, 11, .inl (nA pwa_9)))]) (w2 := (fun _ : Unit => [(h0, wMo q R C tn dn ag md (fb_ct (mE b) (R * C))), ((q 0), .inl (cI, 36, .inl (nA b))), ((q 2), .inl (cZ, 36, .inl (bA za_12))), ((q 4), .inl (cI, 36, .inl (nA fa))), ((q 5), .inl (cI, 10, .inl (nA eya_8))), ((q 6), .inl (cI, 11, .inl (nA pwa_9))), ((q 9), .inl (cZ, 1024, .inl (bA noa_13)))])) (va_runV (As := [.int (nI k)]) (rest := [.int (nI n)]) ⟨hx, hb, hml, hown, hts⟩ (c_R_isDead l D cI cJ cZ h0 q R C tn dn ag md (fb_ct (mE b) (R * C)) noa_13 k (by omega) (by omega)  H.size) (cwV 1 hts gX6_count_X6_isDead rfl rfl rfl (by decide +kernel) ⟨Nat.le_of_ble_eq_true rfl, Nat.le_of_ble_eq_true rfl⟩) (kPV (ci := 6) (q0 := 0) (wc := [(h0, wMo q R C tn dn ag md (fb_ct (mE b) (R * C))), ((q 9), .inl (cZ, 1024, .inl (bA noa_13)))]) hK2 hP hD [0, 6] rfl (by decide) rfl rfl) rfl rfl hl.1 rfl (lv_room (Nat.le_of_ble_eq_true rfl)) dX6_count_154 ⟨Nat.le_of_ble_eq_true rfl, Nat.le_of_ble_eq_true rfl⟩) hP hD hS hA [0, 6] [1, 2, 3, 4, 5] [5, 0, 1, 2, 3, 4, 6] rfl rfl (by decide) (by decide) (fun _ => rfl) (by decide) (fun r_16 u_16 H locs hw_16 hP hD hS => ?_)
                        have hP : va_P D vwCl [(h0, wMo q R C tn dn ag md (fb_ct (mE b) (R * C))), ((q 0), .inl (cI, 36, .inl (nA b))), ((q 2), .inl (cZ, 36, .inl (bA za_12))), ((q 4), .inl (cI, 36, .inl (nA fa))), ((q 5), .inl (cI, 10, .inl (nA eya_8))), ((q 6), .inl (cI, 11, .inl (nA pwa_9))), ((q 9), .inl (cZ, 1024, .inl (bA noa_13)))] H := hP
                        have hD : va_D A [(h0, wMo q R C tn dn ag md (fb_ct (mE b) (R * C))), ((q 0), .inl (cI, 36, .inl (nA b))), ((q 2), .inl (cZ, 36, .inl (bA za_12))), ((q 4), .inl (cI, 36, .inl (nA fa))), ((q 5), .inl (cI, 10, .inl (nA eya_8))), ((q 6), .inl (cI, 11, .inl (nA pwa_9))), ((q 9), .inl (cZ, 1024, .inl (bA noa_13)))] := hD
                        rcases hw_16 with ⟨rfl, hw_16⟩ | ⟨rfl, hw_16⟩
                        · have hp9 : dkP R C b eya_8 (fb_ct (mE b) (R * C)) k = true := jB_t (fun i hi => by have h8 := hw_16 i hi; rw [hno9 i hi, hno9 _ (Nat.xor_lt_two_pow hi (Nat.pow_lt_pow_right (by decide) hkl))] at h8; exact h8)
                          refine lv_if_eq (tgt := 164) hx hb dX6_count_157 (by decide) (fun c_157_17 => absurd c_157_17 (by decide)) (fun c_157_17 => ?_)
                          refine lv_iconst (v := (nI 1)) hx hb dX6_count_160 (by decide) ?_
                          refine lv_goto (tgt := 165) hx hb dX6_count_161 (by decide) ?_
                          refine lv_iadd hx hb dX6_count_165 ?_
                          refine k_toi (y := nI (n + 1)) (nI_add _ _) ?_
                          refine lv_istore_n (lv' := [(2, .int (nI (n + 1))), (0, .ref h0), (3, .int (nI k))]) hx hb dX6_count_166 rfl hl (by decide) rfl (fun ls hl => ?_)
                          refine lv_iinc (v := (nI (k + 1))) (lv' := [(3, .int (nI (k + 1))), (2, .int (nI (n + 1))), (0, .ref h0)]) hx hb dX6_count_167 hl (k := 2) rfl (k_inc _ 1) (by decide) rfl (fun ls hl => ?_)
                          refine lv_goto (tgt := 143) hx hb dX6_count_170 (by decide) ?_
                          exact ih_143 ((n + 1), (k + 1)) _ _ _ (by show (fb_ct (mE b) (R * C)) - (k + 1) < (fb_ct (mE b) (R * C)) - k; omega) ⟨hP, hD, hS, lv_sub hl [2, 1, 0] rfl, by omega, by rw [ct_1 hp9, ← hn9]⟩
                        · have hp9 : dkP R C b eya_8 (fb_ct (mE b) (R * C)) k = false := jB_f (fun h9 => hw_16 (fun i hi => by rw [hno9 i hi, hno9 _ (Nat.xor_lt_two_pow hi (Nat.pow_lt_pow_right (by decide) hkl))]; exact h9 i hi))
                          refine lv_if_eq (tgt := 164) hx hb dX6_count_157 (by decide) (fun c_157_18 => ?_) (fun c_157_18 => absurd c_157_18 (by decide))
                          refine lv_iconst (v := (nI 0)) hx hb dX6_count_164 (by decide) ?_
                          refine lv_iadd hx hb dX6_count_165 ?_
                          refine k_toi (y := nI (n + 0)) (nI_add _ _) ?_
                          refine lv_istore_n (lv' := [(2, .int (nI (n + 0))), (0, .ref h0), (3, .int (nI k))]) hx hb dX6_count_166 rfl hl (by decide) rfl (fun ls hl => ?_)
                          refine lv_iinc (v := (nI (k + 1))) (lv' := [(3, .int (nI (k + 1))), (2, .int (nI (n + 0))), (0, .ref h0)]) hx hb dX6_count_167 hl (k := 2) rfl (k_inc _ 1) (by decide) rfl (fun ls hl => ?_)
                          refine lv_goto (tgt := 143) hx hb dX6_count_170 (by decide) ?_
                          exact ih_143 ((n + 0), (k + 1)) _ _ _ (by show (fb_ct (mE b) (R * C)) - (k + 1) < (fb_ct (mE b) (R * C)) - k; omega) ⟨hP, hD, hS, lv_sub hl [2, 1, 0] rfl, by omega, by rw [ct_0 hp9]; exact hn9⟩
                    · skip
                      refine lv_if_ne (tgt := 137) hx hb dX6_count_132 (by decide) (fun c_132_19 => absurd c_132_19 (by decide)) (fun c_132_19 => ?_)
                      refine lv_iconst (v := (-1)) hx hb dX6_count_135 (by decide) ?_
                      exact W.iret (v := (-1)) hx hb hr (fun t ht hW => ⟨⟨(-1), ((fb_ct (mE b) (R * C)), z, fa, eya_8, pwa_9, no), rfl, Or.inr (Or.inr (Or.inr (Or.inr (Or.inr (Or.inr (Or.inr (Or.inr (Or.inl ⟨rfl, Or.inl ⟨rfl, hw_10⟩⟩)))))))), by rw [ht]; exact hP, hD⟩, hS.F ht⟩) hS.2.2 dX6_count_136
                  · by_cases hw9 : what = nI 9
                    · subst hw9
                      refine lv_tableIn (off := 172) (tgt := 175) hx hb dX6_count_3 (by decide) (by decide) rfl (by decide) ?_
                      refine lv_aload_n hx hb dX6_count_175 rfl (lv_at hl 1 rfl) ?_
                      refine k_calli (wr := [((q 5), .inl (cI, 10, .inl (nA ey))), ((q 6), .inl (cI, 11, .inl (nA pw))), ((q 9), .inl (cZ, 1024, .inl (bA no)))]) (w2 := (fun u : (Nat → Bool) × (Nat → Nat) => match u with | (za, faa) => [(h0, wMo q R C tn dn ag md em), ((q 0), .inl (cI, 36, .inl (nA b))), ((q 2), .inl (cZ, 36, .inl (bA za))), ((q 4), .inl (cI, 36, .inl (nA faa))), ((q 5), .inl (cI, 10, .inl (nA ey))), ((q 6), .inl (cI, 11, .inl (nA pw))), ((q 9), .inl (cZ, 1024, .inl (bA no)))])) (va_runV (As := []) (rest := []) ⟨hx, hb, hml, hown, hts⟩ (c_R_wayLong l D cI cJ cZ h0 q R C tn dn ag md em b fa z hR1 hR2 hC1 hC2 hRC hbv  s.heap.size) (cwV 0 hts gX6_count_X6_wayLong rfl rfl rfl (by decide +kernel) ⟨Nat.le_of_ble_eq_true rfl, Nat.le_of_ble_eq_true rfl⟩) (kPV (ci := 6) (q0 := 0) (wc := [(h0, wMo q R C tn dn ag md em), ((q 0), .inl (cI, 36, .inl (nA b))), ((q 2), .inl (cZ, 36, .inl (bA z))), ((q 4), .inl (cI, 36, .inl (nA fa)))]) hK2 hP hD [0, 1, 2, 3] rfl (by decide) rfl rfl) rfl rfl hl.1 rfl (lv_room (Nat.le_of_ble_eq_true rfl)) dX6_count_176 ⟨Nat.le_of_ble_eq_true rfl, Nat.le_of_ble_eq_true rfl⟩) hP hD hS hA [0, 1, 2, 3] [4, 5, 6] [3, 4, 5, 6, 0, 1, 2] rfl rfl (by decide) (by decide) (fun ⟨_, _⟩ => rfl) (by decide) (fun r_22 u_22 H locs hw_22 hP hD hS => ?_)
                      obtain ⟨za_20, faa_21⟩ := u_22
                      have hP : va_P D vwCl [(h0, wMo q R C tn dn ag md em), ((q 0), .inl (cI, 36, .inl (nA b))), ((q 2), .inl (cZ, 36, .inl (bA za_20))), ((q 4), .inl (cI, 36, .inl (nA faa_21))), ((q 5), .inl (cI, 10, .inl (nA ey))), ((q 6), .inl (cI, 11, .inl (nA pw))), ((q 9), .inl (cZ, 1024, .inl (bA no)))] H := hP
                      have hD : va_D A [(h0, wMo q R C tn dn ag md em), ((q 0), .inl (cI, 36, .inl (nA b))), ((q 2), .inl (cZ, 36, .inl (bA za_20))), ((q 4), .inl (cI, 36, .inl (nA faa_21))), ((q 5), .inl (cI, 10, .inl (nA ey))), ((q 6), .inl (cI, 11, .inl (nA pw))), ((q 9), .inl (cZ, 1024, .inl (bA no)))] := hD
                      exact W.iret (v := r_22) hx hb hr (fun t ht hW => ⟨⟨r_22, (em, za_20, faa_21, ey, pw, no), rfl, Or.inr (Or.inr (Or.inr (Or.inr (Or.inr (Or.inr (Or.inr (Or.inr (Or.inr (Or.inl ⟨rfl, by rcases hw_22 with h9 | ⟨h9, n9, h8, h7⟩; exact Or.inl h9; exact Or.inr ⟨h9, n9, faa_21, h8, h7⟩⟩))))))))), by rw [ht]; exact hP, hD⟩, hS.F ht⟩) hS.2.2 dX6_count_179
                    · have hout : (what).toInt < 0 ∨ (9 : Int) < (what).toInt := k_out (hi := 9) (by decide) (fun j hj => by rcases (show j = 0 ∨ j = 1 ∨ j = 2 ∨ j = 3 ∨ j = 4 ∨ j = 5 ∨ j = 6 ∨ j = 7 ∨ j = 8 ∨ j = 9 by omega) with rfl | rfl | rfl | rfl | rfl | rfl | rfl | rfl | rfl | rfl; exact hw0; exact hw1; exact hw2; exact hw3; exact hw4; exact hw5; exact hw6; exact hw7; exact hw8; exact hw9)
                      refine lv_tableOut (tgt := 180) hx hb dX6_count_3 hout (by decide) ?_
                      refine lv_iconst (v := (-1)) hx hb dX6_count_180 (by decide) ?_
                      exact W.iret (v := (-1)) hx hb hr (fun t ht hW => ⟨⟨(-1), (em, z, fa, ey, pw, no), rfl, Or.inr (Or.inr (Or.inr (Or.inr (Or.inr (Or.inr (Or.inr (Or.inr (Or.inr (Or.inr (⟨fun j hj => by rcases (show j = 0 ∨ j = 1 ∨ j = 2 ∨ j = 3 ∨ j = 4 ∨ j = 5 ∨ j = 6 ∨ j = 7 ∨ j = 8 ∨ j = 9 by omega) with rfl | rfl | rfl | rfl | rfl | rfl | rfl | rfl | rfl | rfl; exact hw0; exact hw1; exact hw2; exact hw3; exact hw4; exact hw5; exact hw6; exact hw7; exact hw8; exact hw9, rfl⟩)))))))))), by rw [ht]; exact hP, hD⟩, hS.F ht⟩) hS.2.2 dX6_count_181
