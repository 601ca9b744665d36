theorem wy_get {J : Nat → Bool} {one n wh c : Nat} {y1 y2 : Nat → Bool} (h : wyP J one n 0 y1 y2) (hc : c < 3 ^ n) (hw : wh = 1 ∨ wh = 2) : (if wh = 1 then y1 c else y2 c) = rv one J n (zs c n) c (decide (one = wh)) := by
  rcases hw with rfl | rfl
  · rw [if_pos rfl]; exact (h c (Nat.zero_le _) hc).1
  · rw [if_neg (by decide)]; exact (h c (Nat.zero_le _) hc).2
theorem wy_g0 {J : Nat → Bool} {one n wh : Nat} {y1 y2 : Nat → Bool} (h : wyP J one n 0 y1 y2) (hw : wh = 1 ∨ wh = 2) : (if wh = 1 then y1 0 else y2 0) = rv one J n n 0 (decide (one = wh)) := by
  have := wy_get h (Nat.pow_pos (by decide)) hw
  rw [zs_0] at this
  exact this
theorem wy_g0t {J : Nat → Bool} {one n : Nat} {y1 y2 : Nat → Bool} (h : wyP J one n 0 y1 y2) (hw : one = 1 ∨ one = 2) : (if one = 1 then y1 0 else y2 0) = rv one J n n 0 true := by
  have := wy_g0 h hw
  rw [decide_eq_true rfl] at this
  exact this
theorem wy_g0f {J : Nat → Bool} {one n : Nat} {y1 y2 : Nat → Bool} (h : wyP J one n 0 y1 y2) (hw : one = 1 ∨ one = 2) : (if 3 - one = 1 then y1 0 else y2 0) = rv one J n n 0 false := by
  have := wy_g0 (wh := 3 - one) h (by omega)
  rw [decide_eq_false (show ¬ one = 3 - one by omega)] at this
  exact this
theorem first_lt {one n k : Nat} (hw : one = 1 ∨ one = 2) (hk : k < n) : one * 3 ^ k < 3 ^ n := by
  have := dg_bound (c := 0) (a := one) (k := k) (n := n) (Nat.pow_pos (by decide)) (dg_0 k) (by omega) hk
  rw [Nat.zero_add] at this
  exact this
theorem wy_first {J : Nat → Bool} {one n k : Nat} {y1 y2 : Nat → Bool} (h : wyP J one n 0 y1 y2) (hw : one = 1 ∨ one = 2) (hk : k < n) : (if 3 - one = 1 then y1 (one * 3 ^ k) else y2 (one * 3 ^ k)) = wOwn J one n 0 k := by
  have h1 := wy_get (wh := 3 - one) h (first_lt hw hk) (by omega)
  rw [decide_eq_false (show ¬ one = 3 - one by omega)] at h1
  have hz := zs_put (c := 0) (a := one) (dg_0 k) (by omega) (by omega) hk
  rw [Nat.zero_add, zs_0] at hz
  rw [h1]
  unfold wOwn
  rw [Nat.zero_add, zs_0, show zs (one * 3 ^ k) n = n - 1 by omega]
def lkS (p q : Bool) : Nat := if p = true then 2 else if q = true then 1 else 0
theorem lkS_2 {p q : Bool} (h : p = true) : lkS p q = 2 := if_pos h
theorem lkS_1 {p q : Bool} (h : p = false) (h2 : q = true) : lkS p q = 1 := by unfold lkS; rw [h, h2]; rfl
theorem lkS_0 {p q : Bool} (h : p = false) (h2 : q = false) : lkS p q = 0 := by unfold lkS; rw [h, h2]; rfl
theorem lkS_le (p q : Bool) : lkS p q ≤ 2 := by cases p <;> cases q <;> decide
def okL (R C : Nat) (b : Nat → Nat) (c0 f g : Int32) (cl x y : Nat) : Prop := (cl = 1 ∨ cl = 2) ∧ c0 = nI cl ∧ x < R * C ∧ f = nI x ∧ y < R * C ∧ g = nI y ∧ x ≠ y ∧ b x ≠ 3 - cl ∧ b y ≠ 3 - cl ∧ fb_ct (mE b) (R * C) ≤ 10
theorem okL_u {R C : Nat} {b : Nat → Nat} {cl x y : Nat} (hRC : R * C ≤ 36) (hc : cl ≤ 2) (hx : x < R * C) (hy : y < R * C) {cl2 x2 y2 : Nat} (h : okL R C b (nI cl) (nI x) (nI y) cl2 x2 y2) : cl = cl2 ∧ x = x2 ∧ y = y2 := by
  obtain ⟨h1, h2, h3, h4, h5, h6, _⟩ := h
  exact ⟨(nI_eq (by omega) (by omega)).mp h2, (nI_eq (by omega) (by omega)).mp h4, (nI_eq (by omega) (by omega)).mp h6⟩
theorem okL_n {R C : Nat} {b : Nat → Nat} {cl x y : Nat} (hRC : R * C ≤ 36) (hc : cl ≤ 2) (hx : x < R * C) (hy : y < R * C) (h : ∃ cl2 x2 y2, okL R C b (nI cl) (nI x) (nI y) cl2 x2 y2) : x ≠ y ∧ b x ≠ 3 - cl ∧ b y ≠ 3 - cl ∧ fb_ct (mE b) (R * C) ≤ 10 := by
  obtain ⟨cl2, x2, y2, h⟩ := h
  obtain ⟨rfl, rfl, rfl⟩ := okL_u hRC hc hx hy h
  obtain ⟨_, _, _, _, _, _, h7⟩ := h
  exact h7
set_option maxHeartbeats 4000000 in
set_option maxRecDepth 100000 in
theorem c_R_winner (l : Launch) (D : va_G) (cI cJ cZ : ClassId) (h0 : Nat) (q : Nat → Nat) (R C tn dn ag md em : Nat) (b ey pw : Nat → Nat) (z y1 y2 : Nat → Bool) (wh : Int32) (hR1 : 1 ≤ R) (hR2 : R ≤ 6) (hC1 : 1 ≤ C) (hC2 : C ≤ 6) (hRC : R * C ≤ 36) (hbv : ∀ f, f < R * C → b f ≤ 2) (sz : Nat) : kMI l yX6_winner wsX6_winner 5 123 D cI cJ cZ [.ref h0, .int wh] [(h0, wMo q R C tn dn ag md em), ((q 0), .inl (cI, 36, .inl (nA b))), ((q 2), .inl (cZ, 36, .inl (bA z))), ((q 5), .inl (cI, 10, .inl (nA ey))), ((q 6), .inl (cI, 11, .inl (nA pw))), ((q 7), .inl (cZ, 59049, .inl (bA y1))), ((q 8), .inl (cZ, 59049, .inl (bA y2)))] sz (fun r (_ : Nat × (Nat → Bool) × (Nat → Nat) × (Nat → Nat) × (Nat → Bool) × (Nat → Bool)) => (r = -1 ∧ ¬ ((((1 : Nat) : Int) ≤ wh.toInt ∧ wh.toInt ≤ ((2 : Nat) : Int)) ∧ (fb_ct (mE b) (R * C)) ≤ 10)) ∨ (∃ wn ey, (wn = 1 ∨ wn = 2) ∧ wh = nI wn ∧ (fb_ct (mE b) (R * C)) ≤ 10 ∧ eyP b (R * C) ey ∧ r = nI (if rv 1 (jb R C b ey (fb_ct (mE b) (R * C)) 1) (fb_ct (mE b) (R * C)) (fb_ct (mE b) (R * C)) 0 (decide (1 = wn)) = true then 1 else 2))) (fun u : Nat × (Nat → Bool) × (Nat → Nat) × (Nat → Nat) × (Nat → Bool) × (Nat → Bool) => match u with | (emz, za, eya, pwa, y1a, y2a) => [(h0, wMo q R C tn dn ag md emz), ((q 0), .inl (cI, 36, .inl (nA b))), ((q 2), .inl (cZ, 36, .inl (bA za))), ((q 5), .inl (cI, 10, .inl (nA eya))), ((q 6), .inl (cI, 11, .inl (nA pwa))), ((q 7), .inl (cZ, 59049, .inl (bA y1a))), ((q 8), .inl (cZ, 59049, .inl (bA y2a)))]) := by
  refine Met.ofW (cc := cX6_winner) (maxL := 2) (ret := (some .int)) (by decide) rfl ?_
  intro p e s m args below meth c s₁ B hml hv
  obtain ⟨rfl, hsz, hP, ⟨hK, hN⟩, hD0⟩ := hv
  have hx := B.exec
  have hb := B.bytes
  have hr := B.returns
  have hts := atoms_spec (ws := wsX6_winner) B.pre
  have hown : s.vm.findClass RX6 = some m.cls := findClass_of_methodNamed B.named
  have hlocks := B.notSynchronized
  subst hsz
  have hD := hD0.self (sz := s.heap.size)
  generalize hAe : va_A [(h0, wMo q R C tn dn ag md em), ((q 0), .inl (cI, 36, .inl (nA b))), ((q 2), .inl (cZ, 36, .inl (bA z))), ((q 5), .inl (cI, 10, .inl (nA ey))), ((q 6), .inl (cI, 11, .inl (nA pw))), ((q 7), .inl (cZ, 59049, .inl (bA y1))), ((q 8), .inl (cZ, 59049, .inl (bA y2)))] s.heap.size = A at hD ⊢
  have hA : ∀ q : Nat, s.heap.size ≤ q → A q := fun q h => by rw [← hAe]; exact Or.inr h
  have hS : va_S A s.heap s.heap [] := va_S.rf
  have hl := lv_entry ([.ref h0, .int wh]) (n := 2) (Nat.le_of_ble_eq_true rfl)
  rw [lg_entry_eq]
  generalize (lg_sl ([.ref h0, .int wh]) ++ List.replicate (2 - (lg_sl ([.ref h0, .int wh])).length) Slot.unset).toArray = ls at hl ⊢
  have hl : lv_has ls 2 [(0, .ref h0), (1, .int wh)] := hl
  have hK2 : kK D cI cJ cZ s := ⟨hK, hN⟩
  clear hD0
  refine lv_iload_n hx hb dX6_winner_0 rfl (lv_at hl 1 rfl) ?_
  refine lv_iconst (v := (nI 1)) hx hb dX6_winner_1 (by decide) ?_
  refine lv_iconst (v := (nI 2)) hx hb dX6_winner_2 (by decide) ?_
  refine k_calli (wr := [(h0, wMo q R C tn dn ag md em), ((q 0), .inl (cI, 36, .inl (nA b))), ((q 2), .inl (cZ, 36, .inl (bA z))), ((q 5), .inl (cI, 10, .inl (nA ey))), ((q 6), .inl (cI, 11, .inl (nA pw))), ((q 7), .inl (cZ, 59049, .inl (bA y1))), ((q 8), .inl (cZ, 59049, .inl (bA y2)))]) (w2 := (fun _ : Unit => [(h0, wMo q R C tn dn ag md em), ((q 0), .inl (cI, 36, .inl (nA b))), ((q 2), .inl (cZ, 36, .inl (bA z))), ((q 5), .inl (cI, 10, .inl (nA ey))), ((q 6), .inl (cI, 11, .inl (nA pw))), ((q 7), .inl (cZ, 59049, .inl (bA y1))), ((q 8), .inl (cZ, 59049, .inl (bA y2)))])) (va_runS (As := [.int wh, .int (nI 1), .int (nI 2)]) (rest := []) ⟨hx, hb, hml, hown, hts⟩ (c_R_lies l D cI cJ cZ wh (nI 1) (nI 2) (wh.toInt) ((1 : Nat) : Int) ((2 : Nat) : Int) rfl (nI_toInt (by omega)) (nI_toInt (by omega)) s.heap.size) (va_cwS 3 hts gX6_winner_X6_lies rfl rfl rfl (by decide +kernel) ⟨Nat.le_of_ble_eq_true rfl, Nat.le_of_ble_eq_true rfl⟩) (kPS (wc := []) hK2 hP hD [] rfl (by decide)) rfl rfl hl.1 rfl (lv_room (Nat.le_of_ble_eq_true rfl)) dX6_winner_3 ⟨Nat.le_of_ble_eq_true rfl, Nat.le_of_ble_eq_true rfl⟩) hP hD hS hA [] [0, 1, 2, 3, 4, 5, 6] [0, 1, 2, 3, 4, 5, 6] rfl rfl (by decide) (by decide) (fun _ => rfl) (by decide) (fun r_1 u_1 H locs hw_1 hP hD hS => ?_)
  have hP : va_P D vwCl [(h0, wMo q R C tn dn ag md em), ((q 0), .inl (cI, 36, .inl (nA b))), ((q 2), .inl (cZ, 36, .inl (bA z))), ((q 5), .inl (cI, 10, .inl (nA ey))), ((q 6), .inl (cI, 11, .inl (nA pw))), ((q 7), .inl (cZ, 59049, .inl (bA y1))), ((q 8), .inl (cZ, 59049, .inl (bA y2)))] H := hP
  have hD : va_D A [(h0, wMo q R C tn dn ag md em), ((q 0), .inl (cI, 36, .inl (nA b))), ((q 2), .inl (cZ, 36, .inl (bA z))), ((q 5), .inl (cI, 10, .inl (nA ey))), ((q 6), .inl (cI, 11, .inl (nA pw))), ((q 7), .inl (cZ, 59049, .inl (bA y1))), ((q 8), .inl (cZ, 59049, .inl (bA y2)))] := hD
  rcases hw_1 with ⟨rfl, hw_1⟩ | ⟨rfl, hw_1⟩
  · obtain ⟨wn, hwn1, hwn2, rfl⟩ := rng_nat hw_1.1 hw_1.2
    refine lv_if_eq (tgt := 16) hx hb dX6_winner_6 (by decide) (fun c_6_2 => absurd c_6_2 (by decide)) (fun c_6_2 => ?_)
    refine lv_aload_n hx hb dX6_winner_9 rfl (lv_at hl 0 rfl) ?_
    refine k_calli (wr := [((q 2), .inl (cZ, 36, .inl (bA z))), ((q 7), .inl (cZ, 59049, .inl (bA y1))), ((q 8), .inl (cZ, 59049, .inl (bA y2)))]) (w2 := (fun u : (Nat → Nat) × (Nat → Nat) => match u with | (eya, pwa) => [(h0, wMo q R C tn dn ag md (fb_ct (mE b) (R * C))), ((q 0), .inl (cI, 36, .inl (nA b))), ((q 2), .inl (cZ, 36, .inl (bA z))), ((q 5), .inl (cI, 10, .inl (nA eya))), ((q 6), .inl (cI, 11, .inl (nA pwa))), ((q 7), .inl (cZ, 59049, .inl (bA y1))), ((q 8), .inl (cZ, 59049, .inl (bA y2)))])) (va_runV (As := []) (rest := []) ⟨hx, hb, hml, hown, hts⟩ (c_R_opens l D cI cJ cZ h0 q R C tn dn ag md em b ey pw hR1 hR2 hC1 hC2 hRC hbv  H.size) (cwV 0 hts gX6_winner_X6_opens rfl rfl rfl (by decide +kernel) ⟨Nat.le_of_ble_eq_true rfl, Nat.le_of_ble_eq_true rfl⟩) (kPV (ci := 6) (q0 := 0) (wc := [(h0, wMo q R C tn dn ag md em), ((q 0), .inl (cI, 36, .inl (nA b))), ((q 5), .inl (cI, 10, .inl (nA ey))), ((q 6), .inl (cI, 11, .inl (nA pw)))]) hK2 hP hD [0, 1, 3, 4] rfl (by decide) rfl rfl) rfl rfl hl.1 rfl (lv_room (Nat.le_of_ble_eq_true rfl)) dX6_winner_10 ⟨Nat.le_of_ble_eq_true rfl, Nat.le_of_ble_eq_true rfl⟩) hP hD hS hA [0, 1, 3, 4] [2, 5, 6] [3, 4, 0, 5, 6, 1, 2] rfl rfl (by decide) (by decide) (fun ⟨_, _⟩ => rfl) (by decide) (fun r_5 u_5 H locs hw_5 hP hD hS => ?_)
    obtain ⟨eya_3, pwa_4⟩ := u_5
    have hP : va_P D vwCl [(h0, wMo q R C tn dn ag md (fb_ct (mE b) (R * C))), ((q 0), .inl (cI, 36, .inl (nA b))), ((q 2), .inl (cZ, 36, .inl (bA z))), ((q 5), .inl (cI, 10, .inl (nA eya_3))), ((q 6), .inl (cI, 11, .inl (nA pwa_4))), ((q 7), .inl (cZ, 59049, .inl (bA y1))), ((q 8), .inl (cZ, 59049, .inl (bA y2)))] H := hP
    have hD : va_D A [(h0, wMo q R C tn dn ag md (fb_ct (mE b) (R * C))), ((q 0), .inl (cI, 36, .inl (nA b))), ((q 2), .inl (cZ, 36, .inl (bA z))), ((q 5), .inl (cI, 10, .inl (nA eya_3))), ((q 6), .inl (cI, 11, .inl (nA pwa_4))), ((q 7), .inl (cZ, 59049, .inl (bA y1))), ((q 8), .inl (cZ, 59049, .inl (bA y2)))] := hD
    obtain ⟨hw_5, hey9, hpw⟩ := hw_5
    rcases hw_5 with ⟨rfl, hw_5⟩ | ⟨rfl, hw_5⟩
    · have hec : (fb_ct (mE b) (R * C)) ≤ 10 := hw_5
      have hey : ∀ k, k < (fb_ct (mE b) (R * C)) → eya_3 k < R * C := fun k hk => (ey_lt hey9 hec k hk).1
      have hin := ey_inj hey9 hec
      have hb0 : ∀ k, k < (fb_ct (mE b) (R * C)) → b (eya_3 k) = 0 := fun k hk => (ey_lt hey9 hec k hk).2.1
      have h2n := p2_le hec
      refine lv_if_ne (tgt := 18) hx hb dX6_winner_13 (by decide) (fun c_13_6 => ?_) (fun c_13_6 => absurd c_13_6 (by decide))
      refine lv_aload_n hx hb dX6_winner_18 rfl (lv_at hl 0 rfl) ?_
      refine lv_iconst (v := (nI 1)) hx hb dX6_winner_19 (by decide) ?_
      refine lv_iconst (v := (-1)) hx hb dX6_winner_20 (by decide) ?_
      refine lv_iconst (v := (-1)) hx hb dX6_winner_21 (by decide) ?_
      refine k_callv (wr := []) (w2 := (fun u : (Nat → Bool) × (Nat → Bool) × (Nat → Bool) => match u with | (za, y1a, y2a) => [(h0, wMo q R C tn dn ag md (fb_ct (mE b) (R * C))), ((q 0), .inl (cI, 36, .inl (nA b))), ((q 2), .inl (cZ, 36, .inl (bA za))), ((q 5), .inl (cI, 10, .inl (nA eya_3))), ((q 6), .inl (cI, 11, .inl (nA pwa_4))), ((q 7), .inl (cZ, 59049, .inl (bA y1a))), ((q 8), .inl (cZ, 59049, .inl (bA y2a)))])) (va_runV (As := [.int (nI 1), .int (-1), .int (-1)]) (rest := []) ⟨hx, hb, hml, hown, hts⟩ (c_R_works_b l D cI cJ cZ h0 q R C tn dn ag md (fb_ct (mE b) (R * C)) b eya_3 pwa_4 z y1 y2 1 hR1 hR2 hC1 hC2 hRC hbv hey hpw (by omega) hin hb0 (by omega)  H.size) (cwV 3 hts gX6_winner_X6_works rfl rfl rfl (by decide +kernel) ⟨Nat.le_of_ble_eq_true rfl, Nat.le_of_ble_eq_true rfl⟩) (kPV (ci := 6) (q0 := 0) (wc := [(h0, wMo q R C tn dn ag md (fb_ct (mE b) (R * C))), ((q 0), .inl (cI, 36, .inl (nA b))), ((q 2), .inl (cZ, 36, .inl (bA z))), ((q 5), .inl (cI, 10, .inl (nA eya_3))), ((q 6), .inl (cI, 11, .inl (nA pwa_4))), ((q 7), .inl (cZ, 59049, .inl (bA y1))), ((q 8), .inl (cZ, 59049, .inl (bA y2)))]) hK2 hP hD [0, 1, 2, 3, 4, 5, 6] rfl (by decide) rfl rfl) rfl rfl hl.1 rfl (lv_room (Nat.le_of_ble_eq_true rfl)) dX6_winner_22 ⟨Nat.le_of_ble_eq_true rfl, Nat.le_of_ble_eq_true rfl⟩) hP hD hS hA [0, 1, 2, 3, 4, 5, 6] [] [0, 1, 2, 3, 4, 5, 6] rfl rfl (by decide) (by decide) (fun ⟨_, _, _⟩ => rfl) (by decide) (fun u_10 H locs hw_10 hP hD hS => ?_)
      obtain ⟨za_7, y1a_8, y2a_9⟩ := u_10
      have hP : va_P D vwCl [(h0, wMo q R C tn dn ag md (fb_ct (mE b) (R * C))), ((q 0), .inl (cI, 36, .inl (nA b))), ((q 2), .inl (cZ, 36, .inl (bA za_7))), ((q 5), .inl (cI, 10, .inl (nA eya_3))), ((q 6), .inl (cI, 11, .inl (nA pwa_4))), ((q 7), .inl (cZ, 59049, .inl (bA y1a_8))), ((q 8), .inl (cZ, 59049, .inl (bA y2a_9)))] H := hP
      have hD : va_D A [(h0, wMo q R C tn dn ag md (fb_ct (mE b) (R * C))), ((q 0), .inl (cI, 36, .inl (nA b))), ((q 2), .inl (cZ, 36, .inl (bA za_7))), ((q 5), .inl (cI, 10, .inl (nA eya_3))), ((q 6), .inl (cI, 11, .inl (nA pwa_4))), ((q 7), .inl (cZ, 59049, .inl (bA y1a_8))), ((q 8), .inl (cZ, 59049, .inl (bA y2a_9)))] := hD
      have hwy := hw_10
      refine lv_aload_n hx hb dX6_winner_25 rfl (lv_at hl 0 rfl) ?_
      refine lv_iconst (v := (nI 0)) hx hb dX6_winner_26 (by decide) ?_
      refine lv_iload_n hx hb dX6_winner_27 rfl (lv_at hl 1 rfl) ?_
      refine k_calli (wr := [((q 0), .inl (cI, 36, .inl (nA b))), ((q 2), .inl (cZ, 36, .inl (bA za_7))), ((q 5), .inl (cI, 10, .inl (nA eya_3))), ((q 6), .inl (cI, 11, .inl (nA pwa_4)))]) (w2 := (fun _ : Unit => [(h0, wMo q R C tn dn ag md (fb_ct (mE b) (R * C))), ((q 0), .inl (cI, 36, .inl (nA b))), ((q 2), .inl (cZ, 36, .inl (bA za_7))), ((q 5), .inl (cI, 10, .inl (nA eya_3))), ((q 6), .inl (cI, 11, .inl (nA pwa_4))), ((q 7), .inl (cZ, 59049, .inl (bA y1a_8))), ((q 8), .inl (cZ, 59049, .inl (bA y2a_9)))])) (va_runV (As := [.int (nI 0), .int (nI wn)]) (rest := []) ⟨hx, hb, hml, hown, hts⟩ (c_R_gets l D cI cJ cZ h0 q R C tn dn ag md (fb_ct (mE b) (R * C)) y1a_8 y2a_9 0 wn (by omega) (by omega)  H.size) (cwV 2 hts gX6_winner_X6_gets rfl rfl rfl (by decide +kernel) ⟨Nat.le_of_ble_eq_true rfl, Nat.le_of_ble_eq_true rfl⟩) (kPV (ci := 6) (q0 := 0) (wc := [(h0, wMo q R C tn dn ag md (fb_ct (mE b) (R * C))), ((q 7), .inl (cZ, 59049, .inl (bA y1a_8))), ((q 8), .inl (cZ, 59049, .inl (bA y2a_9)))]) hK2 hP hD [0, 5, 6] rfl (by decide) rfl rfl) rfl rfl hl.1 rfl (lv_room (Nat.le_of_ble_eq_true rfl)) dX6_winner_28 ⟨Nat.le_of_ble_eq_true rfl, Nat.le_of_ble_eq_true rfl⟩) hP hD hS hA [0, 5, 6] [1, 2, 3, 4] [4, 0, 1, 2, 3, 5, 6] rfl rfl (by decide) (by decide) (fun _ => rfl) (by decide) (fun r_11 u_11 H locs hw_11 hP hD hS => ?_)
      have hP : va_P D vwCl [(h0, wMo q R C tn dn ag md (fb_ct (mE b) (R * C))), ((q 0), .inl (cI, 36, .inl (nA b))), ((q 2), .inl (cZ, 36, .inl (bA za_7))), ((q 5), .inl (cI, 10, .inl (nA eya_3))), ((q 6), .inl (cI, 11, .inl (nA pwa_4))), ((q 7), .inl (cZ, 59049, .inl (bA y1a_8))), ((q 8), .inl (cZ, 59049, .inl (bA y2a_9)))] H := hP
      have hD : va_D A [(h0, wMo q R C tn dn ag md (fb_ct (mE b) (R * C))), ((q 0), .inl (cI, 36, .inl (nA b))), ((q 2), .inl (cZ, 36, .inl (bA za_7))), ((q 5), .inl (cI, 10, .inl (nA eya_3))), ((q 6), .inl (cI, 11, .inl (nA pwa_4))), ((q 7), .inl (cZ, 59049, .inl (bA y1a_8))), ((q 8), .inl (cZ, 59049, .inl (bA y2a_9)))] := hD
      rcases hw_11 with ⟨rfl, hw_11⟩ | ⟨rfl, hw_11⟩
      · skip
        refine lv_if_eq (tgt := 38) hx hb dX6_winner_31 (by decide) (fun c_31_12 => absurd c_31_12 (by decide)) (fun c_31_12 => ?_)
        refine lv_iconst (v := (nI 1)) hx hb dX6_winner_34 (by decide) ?_
        refine lv_goto (tgt := 39) hx hb dX6_winner_35 (by decide) ?_
        exact W.iret (v := (nI 1)) hx hb hr (fun t ht hW => ⟨⟨(nI 1), ((fb_ct (mE b) (R * C)), za_7, eya_3, pwa_4, y1a_8, y2a_9), rfl, Or.inr ⟨wn, eya_3, by omega, rfl, hec, hey9, by rw [if_pos ((wy_g0 hwy (by omega)).symm.trans hw_11)]⟩, by rw [ht]; exact hP, hD⟩, hS.F ht⟩) hS.2.2 dX6_winner_39
      · skip
        refine lv_if_eq (tgt := 38) hx hb dX6_winner_31 (by decide) (fun c_31_13 => ?_) (fun c_31_13 => absurd c_31_13 (by decide))
        refine lv_iconst (v := (nI 2)) hx hb dX6_winner_38 (by decide) ?_
        exact W.iret (v := (nI 2)) hx hb hr (fun t ht hW => ⟨⟨(nI 2), ((fb_ct (mE b) (R * C)), za_7, eya_3, pwa_4, y1a_8, y2a_9), rfl, Or.inr ⟨wn, eya_3, by omega, rfl, hec, hey9, by rw [if_neg (by rw [← wy_g0 hwy (by omega), hw_11]; decide)]⟩, by rw [ht]; exact hP, hD⟩, hS.F ht⟩) hS.2.2 dX6_winner_39
    · skip
      refine lv_if_ne (tgt := 18) hx hb dX6_winner_13 (by decide) (fun c_13_14 => absurd c_13_14 (by decide)) (fun c_13_14 => ?_)
      refine lv_iconst (v := (-1)) hx hb dX6_winner_16 (by decide) ?_
      exact W.iret (v := (-1)) hx hb hr (fun t ht hW => ⟨⟨(-1), ((fb_ct (mE b) (R * C)), z, eya_3, pwa_4, y1, y2), rfl, Or.inl ⟨rfl, fun h9 => by have := h9.2; have := hw_5; omega⟩, by rw [ht]; exact hP, hD⟩, hS.F ht⟩) hS.2.2 dX6_winner_17
  · skip
    refine lv_if_eq (tgt := 16) hx hb dX6_winner_6 (by decide) (fun c_6_15 => ?_) (fun c_6_15 => absurd c_6_15 (by decide))
    refine lv_iconst (v := (-1)) hx hb dX6_winner_16 (by decide) ?_
    exact W.iret (v := (-1)) hx hb hr (fun t ht hW => ⟨⟨(-1), (em, z, ey, pw, y1, y2), rfl, Or.inl ⟨rfl, fun h9 => hw_1 h9.1⟩, by rw [ht]; exact hP, hD⟩, hS.F ht⟩) hS.2.2 dX6_winner_17

theorem kiX6_first__X6 : ∀ w ∈ u_ws RX6 TX6 17, w ∈ wsX6_first_ := fun w h => List.mem_cons_of_mem _ (List.mem_append_right _ h)
set_option maxHeartbeats 4000000 in
set_option maxRecDepth 100000 in
theorem c_R_firstP (l : Launch) (D : va_G) (cI cJ cZ : ClassId) (h0 : Nat) (q : Nat → Nat) (R C tn dn ag md em : Nat) (b ey pw : Nat → Nat) (z y1 y2 : Nat → Bool) (wh i : Int32) (hR1 : 1 ≤ R) (hR2 : R ≤ 6) (hC1 : 1 ≤ C) (hC2 : C ≤ 6) (hRC : R * C ≤ 36) (hbv : ∀ f, f < R * C → b f ≤ 2) (sz : Nat) : kMI l yX6_first_ wsX6_first_ 5 123 D cI cJ cZ [.ref h0, .int wh, .int i] [(h0, wMo q R C tn dn ag md em), ((q 0), .inl (cI, 36, .inl (nA b))), ((q 2), .inl (cZ, 36, .inl (bA z))), ((q 5), .inl (cI, 10, .inl (nA ey))), ((q 6), .inl (cI, 11, .inl (nA pw))), ((q 7), .inl (cZ, 59049, .inl (bA y1))), ((q 8), .inl (cZ, 59049, .inl (bA y2)))] sz (fun r (_ : Nat × (Nat → Bool) × (Nat → Nat) × (Nat → Nat) × (Nat → Bool) × (Nat → Bool)) => (r = -1 ∧ ¬ ((((1 : Nat) : Int) ≤ wh.toInt ∧ wh.toInt ≤ ((2 : Nat) : Int)) ∧ ¬ i < 0 ∧ (fb_ct (mE b) (R * C)) ≤ 10)) ∨ (∃ wn ey j, (wn = 1 ∨ wn = 2) ∧ wh = nI wn ∧ (j < 2 ^ 31 ∧ i = nI j) ∧ (fb_ct (mE b) (R * C)) ≤ 10 ∧ eyP b (R * C) ey ∧ ((r = -1 ∧ fb_ct (wOwn (jb R C b ey (fb_ct (mE b) (R * C)) wn) wn (fb_ct (mE b) (R * C)) 0) (fb_ct (mE b) (R * C)) ≤ j) ∨ ∃ k, k < (fb_ct (mE b) (R * C)) ∧ wOwn (jb R C b ey (fb_ct (mE b) (R * C)) wn) wn (fb_ct (mE b) (R * C)) 0 k = true ∧ fb_ct (wOwn (jb R C b ey (fb_ct (mE b) (R * C)) wn) wn (fb_ct (mE b) (R * C)) 0) k = j ∧ r = nI (ey k)))) (fun u : Nat × (Nat → Bool) × (Nat → Nat) × (Nat → Nat) × (Nat → Bool) × (Nat → Bool) => match u with | (emz, za, eya, pwa, y1a, y2a) => [(h0, wMo q R C tn dn ag md emz), ((q 0), .inl (cI, 36, .inl (nA b))), ((q 2), .inl (cZ, 36, .inl (bA za))), ((q 5), .inl (cI, 10, .inl (nA eya))), ((q 6), .inl (cI, 11, .inl (nA pwa))), ((q 7), .inl (cZ, 59049, .inl (bA y1a))), ((q 8), .inl (cZ, 59049, .inl (bA y2a)))]) := by
  refine Met.ofW (cc := cX6_first_) (maxL := 5) (ret := (some .int)) (by decide) rfl ?_
  intro p e s m args below meth c s₁ B hml hv
  obtain ⟨rfl, hsz, hP, ⟨hK, hN⟩, hD0⟩ := hv
  have hx := B.exec
  have hb := B.bytes
  have hr := B.returns
  have hts := atoms_spec (ws := wsX6_first_) B.pre
  have hown : s.vm.findClass RX6 = some m.cls := findClass_of_methodNamed B.named
  have hlocks := B.notSynchronized
  subst hsz
  have hD := hD0.self (sz := s.heap.size)
  generalize hAe : va_A [(h0, wMo q R C tn dn ag md em), ((q 0), .inl (cI, 36, .inl (nA b))), ((q 2), .inl (cZ, 36, .inl (bA z))), ((q 5), .inl (cI, 10, .inl (nA ey))), ((q 6), .inl (cI, 11, .inl (nA pw))), ((q 7), .inl (cZ, 59049, .inl (bA y1))), ((q 8), .inl (cZ, 59049, .inl (bA y2)))] s.heap.size = A at hD ⊢
  have hA : ∀ q : Nat, s.heap.size ≤ q → A q := fun q h => by rw [← hAe]; exact Or.inr h
  have hS : va_S A s.heap s.heap [] := va_S.rf
  have hl := lv_entry ([.ref h0, .int wh, .int i]) (n := 5) (Nat.le_of_ble_eq_true rfl)
  rw [lg_entry_eq]
  generalize (lg_sl ([.ref h0, .int wh, .int i]) ++ List.replicate (5 - (lg_sl ([.ref h0, .int wh, .int i])).length) Slot.unset).toArray = ls at hl ⊢
  have hl : lv_has ls 5 [(0, .ref h0), (1, .int wh), (2, .int i)] := hl
  have hK2 : kK D cI cJ cZ s := ⟨hK, hN⟩
  clear hD0
  refine lv_iload_n hx hb dX6_first__0 rfl (lv_at hl 1 rfl) ?_
  refine lv_iconst (v := (nI 1)) hx hb dX6_first__1 (by decide) ?_
  refine lv_iconst (v := (nI 2)) hx hb dX6_first__2 (by decide) ?_
  refine k_calli (wr := [(h0, wMo q R C tn dn ag md em), ((q 0), .inl (cI, 36, .inl (nA b))), ((q 2), .inl (cZ, 36, .inl (bA z))), ((q 5), .inl (cI, 10, .inl (nA ey))), ((q 6), .inl (cI, 11, .inl (nA pw))), ((q 7), .inl (cZ, 59049, .inl (bA y1))), ((q 8), .inl (cZ, 59049, .inl (bA y2)))]) (w2 := (fun _ : Unit => [(h0, wMo q R C tn dn ag md em), ((q 0), .inl (cI, 36, .inl (nA b))), ((q 2), .inl (cZ, 36, .inl (bA z))), ((q 5), .inl (cI, 10, .inl (nA ey))), ((q 6), .inl (cI, 11, .inl (nA pw))), ((q 7), .inl (cZ, 59049, .inl (bA y1))), ((q 8), .inl (cZ, 59049, .inl (bA y2)))])) (va_runS (As := [.int wh, .int (nI 1), .int (nI 2)]) (rest := []) ⟨hx, hb, hml, hown, hts⟩ (c_R_lies l D cI cJ cZ wh (nI 1) (nI 2) (wh.toInt) ((1 : Nat) : Int) ((2 : Nat) : Int) rfl (nI_toInt (by omega)) (nI_toInt (by omega)) s.heap.size) (va_cwS 3 hts gX6_first__X6_lies rfl rfl rfl (by decide +kernel) ⟨Nat.le_of_ble_eq_true rfl, Nat.le_of_ble_eq_true rfl⟩) (kPS (wc := []) hK2 hP hD [] rfl (by decide)) rfl rfl hl.1 rfl (lv_room (Nat.le_of_ble_eq_true rfl)) dX6_first__3 ⟨Nat.le_of_ble_eq_true rfl, Nat.le_of_ble_eq_true rfl⟩) hP hD hS hA [] [0, 1, 2, 3, 4, 5, 6] [0, 1, 2, 3, 4, 5, 6] rfl rfl (by decide) (by decide) (fun _ => rfl) (by decide) (fun r_1 u_1 H locs hw_1 hP hD hS => ?_)
  have hP : va_P D vwCl [(h0, wMo q R C tn dn ag md em), ((q 0), .inl (cI, 36, .inl (nA b))), ((q 2), .inl (cZ, 36, .inl (bA z))), ((q 5), .inl (cI, 10, .inl (nA ey))), ((q 6), .inl (cI, 11, .inl (nA pw))), ((q 7), .inl (cZ, 59049, .inl (bA y1))), ((q 8), .inl (cZ, 59049, .inl (bA y2)))] H := hP
  have hD : va_D A [(h0, wMo q R C tn dn ag md em), ((q 0), .inl (cI, 36, .inl (nA b))), ((q 2), .inl (cZ, 36, .inl (bA z))), ((q 5), .inl (cI, 10, .inl (nA ey))), ((q 6), .inl (cI, 11, .inl (nA pw))), ((q 7), .inl (cZ, 59049, .inl (bA y1))), ((q 8), .inl (cZ, 59049, .inl (bA y2)))] := hD
  rcases hw_1 with ⟨rfl, hw_1⟩ | ⟨rfl, hw_1⟩
  · obtain ⟨wn, hwn1, hwn2, rfl⟩ := rng_nat hw_1.1 hw_1.2
    refine lv_if_eq (tgt := 20) hx hb dX6_first__6 (by decide) (fun c_6_2 => absurd c_6_2 (by decide)) (fun c_6_2 => ?_)
    refine lv_iload_n hx hb dX6_first__9 rfl (lv_at hl 2 rfl) ?_
    refine lv_if_lt (tgt := 20) hx hb dX6_first__10 (by decide) (fun c_10_3 => ?_) (fun c_10_3 => ?_)
    · have hi9 := c_10_3
      refine lv_iconst (v := (-1)) hx hb dX6_first__20 (by decide) ?_
      exact W.iret (v := (-1)) hx hb hr (fun t ht hW => ⟨⟨(-1), (em, z, ey, pw, y1, y2), rfl, Or.inl ⟨rfl, fun h9 => h9.2.1 hi9⟩, by rw [ht]; exact hP, hD⟩, hS.F ht⟩) hS.2.2 dX6_first__21
    · have hi9 := c_10_3
      refine lv_aload_n hx hb dX6_first__13 rfl (lv_at hl 0 rfl) ?_
      refine k_calli (wr := [((q 2), .inl (cZ, 36, .inl (bA z))), ((q 7), .inl (cZ, 59049, .inl (bA y1))), ((q 8), .inl (cZ, 59049, .inl (bA y2)))]) (w2 := (fun u : (Nat → Nat) × (Nat → Nat) => match u with | (eya, pwa) => [(h0, wMo q R C tn dn ag md (fb_ct (mE b) (R * C))), ((q 0), .inl (cI, 36, .inl (nA b))), ((q 2), .inl (cZ, 36, .inl (bA z))), ((q 5), .inl (cI, 10, .inl (nA eya))), ((q 6), .inl (cI, 11, .inl (nA pwa))), ((q 7), .inl (cZ, 59049, .inl (bA y1))), ((q 8), .inl (cZ, 59049, .inl (bA y2)))])) (va_runV (As := []) (rest := []) ⟨hx, hb, hml, hown, hts⟩ (c_R_opens l D cI cJ cZ h0 q R C tn dn ag md em b ey pw hR1 hR2 hC1 hC2 hRC hbv  H.size) (cwV 0 hts gX6_first__X6_opens rfl rfl rfl (by decide +kernel) ⟨Nat.le_of_ble_eq_true rfl, Nat.le_of_ble_eq_true rfl⟩) (kPV (ci := 6) (q0 := 0) (wc := [(h0, wMo q R C tn dn ag md em), ((q 0), .inl (cI, 36, .inl (nA b))), ((q 5), .inl (cI, 10, .inl (nA ey))), ((q 6), .inl (cI, 11, .inl (nA pw)))]) hK2 hP hD [0, 1, 3, 4] rfl (by decide) rfl rfl) rfl rfl hl.1 rfl (lv_room (Nat.le_of_ble_eq_true rfl)) dX6_first__14 ⟨Nat.le_of_ble_eq_true rfl, Nat.le_of_ble_eq_true rfl⟩) hP hD hS hA [0, 1, 3, 4] [2, 5, 6] [3, 4, 0, 5, 6, 1, 2] rfl rfl (by decide) (by decide) (fun ⟨_, _⟩ => rfl) (by decide) (fun r_6 u_6 H locs hw_6 hP hD hS => ?_)
      obtain ⟨eya_4, pwa_5⟩ := u_6
      have hP : va_P D vwCl [(h0, wMo q R C tn dn ag md (fb_ct (mE b) (R * C))), ((q 0), .inl (cI, 36, .inl (nA b))), ((q 2), .inl (cZ, 36, .inl (bA z))), ((q 5), .inl (cI, 10, .inl (nA eya_4))), ((q 6), .inl (cI, 11, .inl (nA pwa_5))), ((q 7), .inl (cZ, 59049, .inl (bA y1))), ((q 8), .inl (cZ, 59049, .inl (bA y2)))] H := hP
      have hD : va_D A [(h0, wMo q R C tn dn ag md (fb_ct (mE b) (R * C))), ((q 0), .inl (cI, 36, .inl (nA b))), ((q 2), .inl (cZ, 36, .inl (bA z))), ((q 5), .inl (cI, 10, .inl (nA eya_4))), ((q 6), .inl (cI, 11, .inl (nA pwa_5))), ((q 7), .inl (cZ, 59049, .inl (bA y1))), ((q 8), .inl (cZ, 59049, .inl (bA y2)))] := hD
      obtain ⟨hw_6, hey9, hpw⟩ := hw_6
      rcases hw_6 with ⟨rfl, hw_6⟩ | ⟨rfl, hw_6⟩
      · have hec : (fb_ct (mE b) (R * C)) ≤ 10 := hw_6
        have hey : ∀ k, k < (fb_ct (mE b) (R * C)) → eya_4 k < R * C := fun k hk => (ey_lt hey9 hec k hk).1
        have hin := ey_inj hey9 hec
        have hb0 : ∀ k, k < (fb_ct (mE b) (R * C)) → b (eya_4 k) = 0 := fun k hk => (ey_lt hey9 hec k hk).2.1
        have h2n := p2_le hec
        refine lv_if_ne (tgt := 22) hx hb dX6_first__17 (by decide) (fun c_17_7 => ?_) (fun c_17_7 => absurd c_17_7 (by decide))
        obtain ⟨j, hj9, rfl⟩ := nI_of hi9
        refine lv_aload_n hx hb dX6_first__22 rfl (lv_at hl 0 rfl) ?_
        refine lv_iload_n hx hb dX6_first__23 rfl (lv_at hl 1 rfl) ?_
        refine lv_iconst (v := (-1)) hx hb dX6_first__24 (by decide) ?_
        refine lv_iconst (v := (-1)) hx hb dX6_first__25 (by decide) ?_
        refine k_callv (wr := []) (w2 := (fun u : (Nat → Bool) × (Nat → Bool) × (Nat → Bool) => match u with | (za, y1a, y2a) => [(h0, wMo q R C tn dn ag md (fb_ct (mE b) (R * C))), ((q 0), .inl (cI, 36, .inl (nA b))), ((q 2), .inl (cZ, 36, .inl (bA za))), ((q 5), .inl (cI, 10, .inl (nA eya_4))), ((q 6), .inl (cI, 11, .inl (nA pwa_5))), ((q 7), .inl (cZ, 59049, .inl (bA y1a))), ((q 8), .inl (cZ, 59049, .inl (bA y2a)))])) (va_runV (As := [.int (nI wn), .int (-1), .int (-1)]) (rest := []) ⟨hx, hb, hml, hown, hts⟩ (c_R_works_b l D cI cJ cZ h0 q R C tn dn ag md (fb_ct (mE b) (R * C)) b eya_4 pwa_5 z y1 y2 wn hR1 hR2 hC1 hC2 hRC hbv hey hpw (by omega) hin hb0 (by omega)  H.size) (cwV 3 hts gX6_first__X6_works rfl rfl rfl (by decide +kernel) ⟨Nat.le_of_ble_eq_true rfl, Nat.le_of_ble_eq_true rfl⟩) (kPV (ci := 6) (q0 := 0) (wc := [(h0, wMo q R C tn dn ag md (fb_ct (mE b) (R * C))), ((q 0), .inl (cI, 36, .inl (nA b))), ((q 2), .inl (cZ, 36, .inl (bA z))), ((q 5), .inl (cI, 10, .inl (nA eya_4))), ((q 6), .inl (cI, 11, .inl (nA pwa_5))), ((q 7), .inl (cZ, 59049, .inl (bA y1))), ((q 8), .inl (cZ, 59049, .inl (bA y2)))]) hK2 hP hD [0, 1, 2, 3, 4, 5, 6] rfl (by decide) rfl rfl) rfl rfl hl.1 rfl (lv_room (Nat.le_of_ble_eq_true rfl)) dX6_first__26 ⟨Nat.le_of_ble_eq_true rfl, Nat.le_of_ble_eq_true rfl⟩) hP hD hS hA [0, 1, 2, 3, 4, 5, 6] [] [0, 1, 2, 3, 4, 5, 6] rfl rfl (by decide) (by decide) (fun ⟨_, _, _⟩ => rfl) (by decide) (fun u_11 H locs hw_11 hP hD hS => ?_)
        obtain ⟨za_8, y1a_9, y2a_10⟩ := u_11
        have hP : va_P D vwCl [(h0, wMo q R C tn dn ag md (fb_ct (mE b) (R * C))), ((q 0), .inl (cI, 36, .inl (nA b))), ((q 2), .inl (cZ, 36, .inl (bA za_8))), ((q 5), .inl (cI, 10, .inl (nA eya_4))), ((q 6), .inl (cI, 11, .inl (nA pwa_5))), ((q 7), .inl (cZ, 59049, .inl (bA y1a_9))), ((q 8), .inl (cZ, 59049, .inl (bA y2a_10)))] H := hP
        have hD : va_D A [(h0, wMo q R C tn dn ag md (fb_ct (mE b) (R * C))), ((q 0), .inl (cI, 36, .inl (nA b))), ((q 2), .inl (cZ, 36, .inl (bA za_8))), ((q 5), .inl (cI, 10, .inl (nA eya_4))), ((q 6), .inl (cI, 11, .inl (nA pwa_5))), ((q 7), .inl (cZ, 59049, .inl (bA y1a_9))), ((q 8), .inl (cZ, 59049, .inl (bA y2a_10)))] := hD
        have hwy := hw_11
        refine lv_iconst (v := (nI 0)) hx hb dX6_first__29 (by decide) ?_
        refine lv_istore_n (lv' := [(3, .int (nI 0)), (0, .ref h0), (1, .int (nI wn)), (2, .int (nI j))]) hx hb dX6_first__30 rfl hl (by decide) rfl (fun ls hl => ?_)
        refine lv_iconst (v := (nI 0)) hx hb dX6_first__31 (by decide) ?_
        refine lv_istore (lv' := [(4, .int (nI 0)), (3, .int (nI 0)), (0, .ref h0), (1, .int (nI wn)), (2, .int (nI j))]) hx hb dX6_first__32 hl (by decide) rfl (fun ls hl => ?_)
        refine kw_loop (σ := Nat × Nat) (fun zz H locs ls => match zz with | (n, k) => va_P D vwCl [(h0, wMo q R C tn dn ag md (fb_ct (mE b) (R * C))), ((q 0), .inl (cI, 36, .inl (nA b))), ((q 2), .inl (cZ, 36, .inl (bA za_8))), ((q 5), .inl (cI, 10, .inl (nA eya_4))), ((q 6), .inl (cI, 11, .inl (nA pwa_5))), ((q 7), .inl (cZ, 59049, .inl (bA y1a_9))), ((q 8), .inl (cZ, 59049, .inl (bA y2a_10)))] H ∧ va_D A [(h0, wMo q R C tn dn ag md (fb_ct (mE b) (R * C))), ((q 0), .inl (cI, 36, .inl (nA b))), ((q 2), .inl (cZ, 36, .inl (bA za_8))), ((q 5), .inl (cI, 10, .inl (nA eya_4))), ((q 6), .inl (cI, 11, .inl (nA pwa_5))), ((q 7), .inl (cZ, 59049, .inl (bA y1a_9))), ((q 8), .inl (cZ, 59049, .inl (bA y2a_10)))] ∧ va_S A s.heap H locs ∧ lv_has ls 5 [(0, .ref h0), (1, .int (nI wn)), (2, .int (nI j)), (3, .int (nI n)), (4, .int (nI k))] ∧ (k ≤ (fb_ct (mE b) (R * C))) ∧ (n = fb_ct (wOwn (jb R C b eya_4 (fb_ct (mE b) (R * C)) wn) wn (fb_ct (mE b) (R * C)) 0) k) ∧ (n ≤ j)) (fun zz => match zz with | (n, k) => (fb_ct (mE b) (R * C)) - k) (0, 0) ⟨hP, hD, hS, lv_sub hl [2, 3, 4, 1, 0] rfl, Nat.zero_le _, rfl, Nat.zero_le _⟩ ?_
        clear hP hD hS hl
        rintro ⟨n, k⟩ H locs ls ⟨hP, hD, hS, hl, hk9, hn9, hnj⟩ ih_34
        have hP : va_P D vwCl [(h0, wMo q R C tn dn ag md (fb_ct (mE b) (R * C))), ((q 0), .inl (cI, 36, .inl (nA b))), ((q 2), .inl (cZ, 36, .inl (bA za_8))), ((q 5), .inl (cI, 10, .inl (nA eya_4))), ((q 6), .inl (cI, 11, .inl (nA pwa_5))), ((q 7), .inl (cZ, 59049, .inl (bA y1a_9))), ((q 8), .inl (cZ, 59049, .inl (bA y2a_10)))] H := hP
        have hD : va_D A [(h0, wMo q R C tn dn ag md (fb_ct (mE b) (R * C))), ((q 0), .inl (cI, 36, .inl (nA b))), ((q 2), .inl (cZ, 36, .inl (bA za_8))), ((q 5), .inl (cI, 10, .inl (nA eya_4))), ((q 6), .inl (cI, 11, .inl (nA pwa_5))), ((q 7), .inl (cZ, 59049, .inl (bA y1a_9))), ((q 8), .inl (cZ, 59049, .inl (bA y2a_10)))] := hD
        have hl : lv_has ls 5 [(0, .ref h0), (1, .int (nI wn)), (2, .int (nI j)), (3, .int (nI n)), (4, .int (nI k))] := hl
        have hk9 : k ≤ (fb_ct (mE b) (R * C)) := hk9
        have hn9 : n = fb_ct (wOwn (jb R C b eya_4 (fb_ct (mE b) (R * C)) wn) wn (fb_ct (mE b) (R * C)) 0) k := hn9
        have hnj : n ≤ j := hnj
        refine lv_iload hx hb dX6_first__34 (lv_at hl 4 rfl) ?_
        refine lv_aload_n hx hb dX6_first__36 rfl (lv_at hl 0 rfl) ?_
        refine va_get (D := D) (ci := 6) (v := .int (nI (fb_ct (mE b) (R * C)))) (C := RX6) (T := TX6) (N := 17) hx hb hts kiX6_first__X6 hown hK hP 0 rfl rfl 11 (by decide) (hts (.fieldLink RX6 130 "TwoBanksModel" "empties" "I") (List.mem_of_getElem? (i := 1) rfl)) (fun _ h9 => h9) rfl dX6_first__37 ?_
        refine kw_icmp_ge (tgt := 87) hx hb dX6_first__40 (by decide) (by omega) (by omega) (fun c_40_12 => ?_) (fun c_40_12 => ?_)
        · refine lv_iconst (v := (-1)) hx hb dX6_first__87 (by decide) ?_
          exact W.iret (v := (-1)) hx hb hr (fun t ht hW => ⟨⟨(-1), ((fb_ct (mE b) (R * C)), za_8, eya_4, pwa_5, y1a_9, y2a_10), rfl, Or.inr ⟨wn, eya_4, j, by omega, rfl, ⟨hj9, rfl⟩, hec, hey9, Or.inl ⟨rfl, by have e9 : k = (fb_ct (mE b) (R * C)) := (by omega); rw [e9] at hn9; omega⟩⟩, by rw [ht]; exact hP, hD⟩, hS.F ht⟩) hS.2.2 dX6_first__88
        · have hkl : k < (fb_ct (mE b) (R * C)) := c_40_12
          have hpk := hpw k (by omega)
          have hp0 : 0 < 3 ^ k := Nat.pow_pos (by decide)
          have hpb : 3 ^ k ≤ 3 ^ 10 := Nat.pow_le_pow_right (by decide) (by omega)
          have h3n := p3_le hec
          have hcb : wn * 3 ^ k < 3 ^ (fb_ct (mE b) (R * C)) := first_lt (by omega) hkl
          have hek := hey k hkl
          refine lv_aload_n hx hb dX6_first__43 rfl (lv_at hl 0 rfl) ?_
          refine lv_iload_n hx hb dX6_first__44 rfl (lv_at hl 1 rfl) ?_
          refine lv_aload_n hx hb dX6_first__45 rfl (lv_at hl 0 rfl) ?_
          refine va_get (D := D) (ci := 6) (v := .ref (q 6)) (C := RX6) (T := TX6) (N := 17) hx hb hts kiX6_first__X6 hown hK hP 0 rfl rfl 13 (by decide) (hts (.fieldLink RX6 43 "TwoBanksModel" "power" "[I") (List.mem_of_getElem? (i := 2) rfl)) (fun _ h9 => h9) rfl dX6_first__46 ?_
          refine lv_iload hx hb dX6_first__49 (lv_at hl 4 rfl) ?_
          refine va_iald hx hb hK hP 4 0 rfl rfl (vp_in_nI (by omega) (by omega)) dX6_first__51 ?_
          refine k_toi (y := nI (pwa_5 k)) (congrArg (nA pwa_5) (nI_clamp (by omega))) ?_
          refine k_toi (y := nI (3 ^ k)) (congrArg nI hpk) ?_
          refine lv_imul hx hb dX6_first__52 ?_
          refine k_toi (y := nI (wn * (3 ^ k))) (pk_mul _ _) ?_
          refine lv_iconst (v := (nI 3)) hx hb dX6_first__53 (by decide) ?_
          refine lv_iload_n hx hb dX6_first__54 rfl (lv_at hl 1 rfl) ?_
          refine lv_isub hx hb dX6_first__55 ?_
          refine k_toi (y := nI (3 - wn)) (pk_sub (by omega)) ?_
          refine k_calli (wr := [((q 0), .inl (cI, 36, .inl (nA b))), ((q 2), .inl (cZ, 36, .inl (bA za_8))), ((q 5), .inl (cI, 10, .inl (nA eya_4))), ((q 6), .inl (cI, 11, .inl (nA pwa_5)))]) (w2 := (fun _ : Unit => [(h0, wMo q R C tn dn ag md (fb_ct (mE b) (R * C))), ((q 0), .inl (cI, 36, .inl (nA b))), ((q 2), .inl (cZ, 36, .inl (bA za_8))), ((q 5), .inl (cI, 10, .inl (nA eya_4))), ((q 6), .inl (cI, 11, .inl (nA pwa_5))), ((q 7), .inl (cZ, 59049, .inl (bA y1a_9))), ((q 8), .inl (cZ, 59049, .inl (bA y2a_10)))])) (va_runV (As := [.int (nI (wn * (3 ^ k))), .int (nI (3 - wn))]) (rest := []) ⟨hx, hb, hml, hown, hts⟩ (c_R_gets l D cI cJ cZ h0 q R C tn dn ag md (fb_ct (mE b) (R * C)) y1a_9 y2a_10 (wn * (3 ^ k)) (3 - wn) (by omega) (by omega)  H.size) (cwV 2 hts gX6_first__X6_gets rfl rfl rfl (by decide +kernel) ⟨Nat.le_of_ble_eq_true rfl, Nat.le_of_ble_eq_true rfl⟩) (kPV (ci := 6) (q0 := 0) (wc := [(h0, wMo q R C tn dn ag md (fb_ct (mE b) (R * C))), ((q 7), .inl (cZ, 59049, .inl (bA y1a_9))), ((q 8), .inl (cZ, 59049, .inl (bA y2a_10)))]) hK2 hP hD [0, 5, 6] rfl (by decide) rfl rfl) rfl rfl hl.1 rfl (lv_room (Nat.le_of_ble_eq_true rfl)) dX6_first__56 ⟨Nat.le_of_ble_eq_true rfl, Nat.le_of_ble_eq_true rfl⟩) hP hD hS hA [0, 5, 6] [1, 2, 3, 4] [4, 0, 1, 2, 3, 5, 6] rfl rfl (by decide) (by decide) (fun _ => rfl) (by decide) (fun r_13 u_13 H locs hw_13 hP hD hS => ?_)
          have hP : va_P D vwCl [(h0, wMo q R C tn dn ag md (fb_ct (mE b) (R * C))), ((q 0), .inl (cI, 36, .inl (nA b))), ((q 2), .inl (cZ, 36, .inl (bA za_8))), ((q 5), .inl (cI, 10, .inl (nA eya_4))), ((q 6), .inl (cI, 11, .inl (nA pwa_5))), ((q 7), .inl (cZ, 59049, .inl (bA y1a_9))), ((q 8), .inl (cZ, 59049, .inl (bA y2a_10)))] H := hP
          have hD : va_D A [(h0, wMo q R C tn dn ag md (fb_ct (mE b) (R * C))), ((q 0), .inl (cI, 36, .inl (nA b))), ((q 2), .inl (cZ, 36, .inl (bA za_8))), ((q 5), .inl (cI, 10, .inl (nA eya_4))), ((q 6), .inl (cI, 11, .inl (nA pwa_5))), ((q 7), .inl (cZ, 59049, .inl (bA y1a_9))), ((q 8), .inl (cZ, 59049, .inl (bA y2a_10)))] := hD
          rcases hw_13 with ⟨rfl, hw_13⟩ | ⟨rfl, hw_13⟩
          · have hp9 : wOwn (jb R C b eya_4 (fb_ct (mE b) (R * C)) wn) wn (fb_ct (mE b) (R * C)) 0 k = true := (wy_first hwy (by omega) hkl).symm.trans hw_13
            refine lv_if_ne (tgt := 65) hx hb dX6_first__59 (by decide) (fun c_59_14 => ?_) (fun c_59_14 => absurd c_59_14 (by decide))
            refine lv_iload_n hx hb dX6_first__65 rfl (lv_at hl 3 rfl) ?_
            refine lv_iload_n hx hb dX6_first__66 rfl (lv_at hl 2 rfl) ?_
            refine kw_icmp_ne (tgt := 78) hx hb dX6_first__67 (by decide) (by omega) (by omega) (fun c_67_15 => ?_) (fun c_67_15 => ?_)
            · have hne9 : n ≠ j := c_67_15
              refine lv_iinc (v := (nI (n + 1))) (lv' := [(3, .int (nI (n + 1))), (0, .ref h0), (1, .int (nI wn)), (2, .int (nI j)), (4, .int (nI k))]) hx hb dX6_first__78 hl (k := 3) rfl (k_inc _ 1) (by decide) rfl (fun ls hl => ?_)
              refine lv_iinc (v := (nI (k + 1))) (lv' := [(4, .int (nI (k + 1))), (3, .int (nI (n + 1))), (0, .ref h0), (1, .int (nI wn)), (2, .int (nI j))]) hx hb dX6_first__81 hl (k := 4) rfl (k_inc _ 1) (by decide) rfl (fun ls hl => ?_)
              refine lv_goto (tgt := 34) hx hb dX6_first__84 (by decide) ?_
              exact ih_34 ((n + 1), (k + 1)) _ _ _ (by show (fb_ct (mE b) (R * C)) - (k + 1) < (fb_ct (mE b) (R * C)) - k; omega) ⟨hP, hD, hS, lv_sub hl [2, 3, 4, 1, 0] rfl, by omega, by rw [ct_1 hp9, ← hn9], by omega⟩
            · have heq9 : n = j := c_67_15
              refine lv_aload_n hx hb dX6_first__70 rfl (lv_at hl 0 rfl) ?_
              refine va_get (D := D) (ci := 6) (v := .ref (q 5)) (C := RX6) (T := TX6) (N := 17) hx hb hts kiX6_first__X6 hown hK hP 0 rfl rfl 12 (by decide) (hts (.fieldLink RX6 40 "TwoBanksModel" "empty" "[I") (List.mem_of_getElem? (i := 3) rfl)) (fun _ h9 => h9) rfl dX6_first__71 ?_
              refine lv_iload hx hb dX6_first__74 (lv_at hl 4 rfl) ?_
              refine va_iald hx hb hK hP 3 0 rfl rfl (vp_in_nI (by omega) (by omega)) dX6_first__76 ?_
              refine k_toi (y := nI (eya_4 k)) (congrArg (nA eya_4) (nI_clamp (by omega))) ?_
              exact W.iret (v := (nI (eya_4 k))) hx hb hr (fun t ht hW => ⟨⟨(nI (eya_4 k)), ((fb_ct (mE b) (R * C)), za_8, eya_4, pwa_5, y1a_9, y2a_10), rfl, Or.inr ⟨wn, eya_4, j, by omega, rfl, ⟨hj9, rfl⟩, hec, hey9, Or.inr ⟨k, hkl, hp9, by rw [← hn9]; exact heq9, rfl⟩⟩, by rw [ht]; exact hP, hD⟩, hS.F ht⟩) hS.2.2 dX6_first__77
          · have hp9 : wOwn (jb R C b eya_4 (fb_ct (mE b) (R * C)) wn) wn (fb_ct (mE b) (R * C)) 0 k = false := (wy_first hwy (by omega) hkl).symm.trans hw_13
            refine lv_if_ne (tgt := 65) hx hb dX6_first__59 (by decide) (fun c_59_16 => absurd c_59_16 (by decide)) (fun c_59_16 => ?_)
            refine lv_goto (tgt := 81) hx hb dX6_first__62 (by decide) ?_
            refine lv_iinc (v := (nI (k + 1))) (lv' := [(4, .int (nI (k + 1))), (0, .ref h0), (1, .int (nI wn)), (2, .int (nI j)), (3, .int (nI n))]) hx hb dX6_first__81 hl (k := 4) rfl (k_inc _ 1) (by decide) rfl (fun ls hl => ?_)
            refine lv_goto (tgt := 34) hx hb dX6_first__84 (by decide) ?_
            exact ih_34 (n, (k + 1)) _ _ _ (by show (fb_ct (mE b) (R * C)) - (k + 1) < (fb_ct (mE b) (R * C)) - k; omega) ⟨hP, hD, hS, lv_sub hl [1, 2, 3, 4, 0] rfl, by omega, by rw [ct_0 hp9]; exact hn9, hnj⟩
      · skip
        refine lv_if_ne (tgt := 22) hx hb dX6_first__17 (by decide) (fun c_17_17 => absurd c_17_17 (by decide)) (fun c_17_17 => ?_)
        refine lv_iconst (v := (-1)) hx hb dX6_first__20 (by decide) ?_
        exact W.iret (v := (-1)) hx hb hr (fun t ht hW => ⟨⟨(-1), ((fb_ct (mE b) (R * C)), z, eya_4, pwa_5, y1, y2), rfl, Or.inl ⟨rfl, fun h9 => by have := h9.2.2; have := hw_6; omega⟩, by rw [ht]; exact hP, hD⟩, hS.F ht⟩) hS.2.2 dX6_first__21
  · skip
    refine lv_if_eq (tgt := 20) hx hb dX6_first__6 (by decide) (fun c_6_18 => ?_) (fun c_6_18 => absurd c_6_18 (by decide))
    refine lv_iconst (v := (-1)) hx hb dX6_first__20 (by decide) ?_
    exact W.iret (v := (-1)) hx hb hr (fun t ht hW => ⟨⟨(-1), (em, z, ey, pw, y1, y2), rfl, Or.inl ⟨rfl, fun h9 => hw_1 h9.1⟩, by rw [ht]; exact hP, hD⟩, hS.F ht⟩) hS.2.2 dX6_first__21

theorem kiX6_mayLink_X6 : ∀ w ∈ u_ws RX6 TX6 17, w ∈ wsX6_mayLink := fun w h => List.mem_cons_of_mem _ (List.mem_append_right _ h)
set_option maxHeartbeats 4000000 in
set_option maxRecDepth 100000 in
theorem c_R_mayLink (l : Launch) (D : va_G) (cI cJ cZ : ClassId) (h0 : Nat) (q : Nat → Nat) (R C tn dn ag md em : Nat) (b ey pw : Nat → Nat) (c0 f g : Int32) (hR1 : 1 ≤ R) (hR2 : R ≤ 6) (hC1 : 1 ≤ C) (hC2 : C ≤ 6) (hRC : R * C ≤ 36) (hbv : ∀ f, f < R * C → b f ≤ 2) (sz : Nat) : kMI l yX6_mayLink wsX6_mayLink 2 43 D cI cJ cZ [.ref h0, .int c0, .int f, .int g] [(h0, wMo q R C tn dn ag md em), ((q 0), .inl (cI, 36, .inl (nA b))), ((q 5), .inl (cI, 10, .inl (nA ey))), ((q 6), .inl (cI, 11, .inl (nA pw)))] sz (fun r (u : Nat × (Nat → Nat) × (Nat → Nat)) => (r = nI 0 ∧ ¬ ∃ cl x y, okL R C b c0 f g cl x y) ∨ (r = nI 1 ∧ (∃ cl x y, okL R C b c0 f g cl x y) ∧ u.1 = (fb_ct (mE b) (R * C)) ∧ eyP b (R * C) u.2.1 ∧ ∀ i, i < 11 → u.2.2 i = 3 ^ i)) (fun u : Nat × (Nat → Nat) × (Nat → Nat) => match u with | (emz, eya, pwa) => [(h0, wMo q R C tn dn ag md emz), ((q 0), .inl (cI, 36, .inl (nA b))), ((q 5), .inl (cI, 10, .inl (nA eya))), ((q 6), .inl (cI, 11, .inl (nA pwa)))]) := by
  refine Met.ofW (cc := cX6_mayLink) (maxL := 4) (ret := (some .boolean)) (by decide) rfl ?_
  intro p e s m args below meth c s₁ B hml hv
  obtain ⟨rfl, hsz, hP, ⟨hK, hN⟩, hD0⟩ := hv
  have hx := B.exec
  have hb := B.bytes
  have hr := B.returns
  have hts := atoms_spec (ws := wsX6_mayLink) B.pre
  have hown : s.vm.findClass RX6 = some m.cls := findClass_of_methodNamed B.named
  have hlocks := B.notSynchronized
  subst hsz
  have hD := hD0.self (sz := s.heap.size)
  generalize hAe : va_A [(h0, wMo q R C tn dn ag md em), ((q 0), .inl (cI, 36, .inl (nA b))), ((q 5), .inl (cI, 10, .inl (nA ey))), ((q 6), .inl (cI, 11, .inl (nA pw)))] s.heap.size = A at hD ⊢
  have hA : ∀ q : Nat, s.heap.size ≤ q → A q := fun q h => by rw [← hAe]; exact Or.inr h
  have hS : va_S A s.heap s.heap [] := va_S.rf
  have hl := lv_entry ([.ref h0, .int c0, .int f, .int g]) (n := 4) (Nat.le_of_ble_eq_true rfl)
  rw [lg_entry_eq]
  generalize (lg_sl ([.ref h0, .int c0, .int f, .int g]) ++ List.replicate (4 - (lg_sl ([.ref h0, .int c0, .int f, .int g])).length) Slot.unset).toArray = ls at hl ⊢
  have hl : lv_has ls 4 [(0, .ref h0), (1, .int c0), (2, .int f), (3, .int g)] := hl
  have hK2 : kK D cI cJ cZ s := ⟨hK, hN⟩
  clear hD0
  refine lv_iload_n hx hb dX6_mayLink_0 rfl (lv_at hl 1 rfl) ?_
  refine lv_iconst (v := (nI 1)) hx hb dX6_mayLink_1 (by decide) ?_
  refine lv_iconst (v := (nI 2)) hx hb dX6_mayLink_2 (by decide) ?_
  refine k_calli (wr := [(h0, wMo q R C tn dn ag md em), ((q 0), .inl (cI, 36, .inl (nA b))), ((q 5), .inl (cI, 10, .inl (nA ey))), ((q 6), .inl (cI, 11, .inl (nA pw)))]) (w2 := (fun _ : Unit => [(h0, wMo q R C tn dn ag md em), ((q 0), .inl (cI, 36, .inl (nA b))), ((q 5), .inl (cI, 10, .inl (nA ey))), ((q 6), .inl (cI, 11, .inl (nA pw)))])) (va_runS (As := [.int c0, .int (nI 1), .int (nI 2)]) (rest := []) ⟨hx, hb, hml, hown, hts⟩ (c_R_lies l D cI cJ cZ c0 (nI 1) (nI 2) (c0.toInt) ((1 : Nat) : Int) ((2 : Nat) : Int) rfl (nI_toInt (by omega)) (nI_toInt (by omega)) s.heap.size) (va_cwS 3 hts gX6_mayLink_X6_lies rfl rfl rfl (by decide +kernel) ⟨Nat.le_of_ble_eq_true rfl, Nat.le_of_ble_eq_true rfl⟩) (kPS (wc := []) hK2 hP hD [] rfl (by decide)) rfl rfl hl.1 rfl (lv_room (Nat.le_of_ble_eq_true rfl)) dX6_mayLink_3 ⟨Nat.le_of_ble_eq_true rfl, Nat.le_of_ble_eq_true rfl⟩) hP hD hS hA [] [0, 1, 2, 3] [0, 1, 2, 3] rfl rfl (by decide) (by decide) (fun _ => rfl) (by decide) (fun r_1 u_1 H locs hw_1 hP hD hS => ?_)
  have hP : va_P D vwCl [(h0, wMo q R C tn dn ag md em), ((q 0), .inl (cI, 36, .inl (nA b))), ((q 5), .inl (cI, 10, .inl (nA ey))), ((q 6), .inl (cI, 11, .inl (nA pw)))] H := hP
  have hD : va_D A [(h0, wMo q R C tn dn ag md em), ((q 0), .inl (cI, 36, .inl (nA b))), ((q 5), .inl (cI, 10, .inl (nA ey))), ((q 6), .inl (cI, 11, .inl (nA pw)))] := hD
  rcases hw_1 with ⟨rfl, hw_1⟩ | ⟨rfl, hw_1⟩
  · obtain ⟨cl, hcl1, hcl2, rfl⟩ := rng_nat hw_1.1 hw_1.2
    refine lv_if_eq (tgt := 65) hx hb dX6_mayLink_6 (by decide) (fun c_6_2 => absurd c_6_2 (by decide)) (fun c_6_2 => ?_)
    refine lv_aload_n hx hb dX6_mayLink_9 rfl (lv_at hl 0 rfl) ?_
    refine lv_iload_n hx hb dX6_mayLink_10 rfl (lv_at hl 2 rfl) ?_
    refine k_calli (wr := [((q 0), .inl (cI, 36, .inl (nA b))), ((q 5), .inl (cI, 10, .inl (nA ey))), ((q 6), .inl (cI, 11, .inl (nA pw)))]) (w2 := (fun _ : Unit => [(h0, wMo q R C tn dn ag md em), ((q 0), .inl (cI, 36, .inl (nA b))), ((q 5), .inl (cI, 10, .inl (nA ey))), ((q 6), .inl (cI, 11, .inl (nA pw)))])) (va_runV (As := [.int f]) (rest := []) ⟨hx, hb, hml, hown, hts⟩ (c_R_isField l D cI cJ cZ h0 q R C tn dn ag md em f hR1 hR2 hC1 hC2 hRC  H.size) (cwV 1 hts gX6_mayLink_X6_isField rfl rfl rfl (by decide +kernel) ⟨Nat.le_of_ble_eq_true rfl, Nat.le_of_ble_eq_true rfl⟩) (kPV (ci := 6) (q0 := 0) (wc := [(h0, wMo q R C tn dn ag md em)]) hK2 hP hD [0] rfl (by decide) rfl rfl) rfl rfl hl.1 rfl (lv_room (Nat.le_of_ble_eq_true rfl)) dX6_mayLink_11 ⟨Nat.le_of_ble_eq_true rfl, Nat.le_of_ble_eq_true rfl⟩) hP hD hS hA [0] [1, 2, 3] [3, 0, 1, 2] rfl rfl (by decide) (by decide) (fun _ => rfl) (by decide) (fun r_3 u_3 H locs hw_3 hP hD hS => ?_)
    have hP : va_P D vwCl [(h0, wMo q R C tn dn ag md em), ((q 0), .inl (cI, 36, .inl (nA b))), ((q 5), .inl (cI, 10, .inl (nA ey))), ((q 6), .inl (cI, 11, .inl (nA pw)))] H := hP
    have hD : va_D A [(h0, wMo q R C tn dn ag md em), ((q 0), .inl (cI, 36, .inl (nA b))), ((q 5), .inl (cI, 10, .inl (nA ey))), ((q 6), .inl (cI, 11, .inl (nA pw)))] := hD
    rcases hw_3 with ⟨rfl, hw_3⟩ | ⟨rfl, hw_3⟩
    · obtain ⟨xa, hxa, rfl⟩ := hw_3
      have hbxa := hbv xa hxa
      refine lv_if_eq (tgt := 65) hx hb dX6_mayLink_14 (by decide) (fun c_14_4 => absurd c_14_4 (by decide)) (fun c_14_4 => ?_)
      refine lv_aload_n hx hb dX6_mayLink_17 rfl (lv_at hl 0 rfl) ?_
      refine lv_iload_n hx hb dX6_mayLink_18 rfl (lv_at hl 3 rfl) ?_
      refine k_calli (wr := [((q 0), .inl (cI, 36, .inl (nA b))), ((q 5), .inl (cI, 10, .inl (nA ey))), ((q 6), .inl (cI, 11, .inl (nA pw)))]) (w2 := (fun _ : Unit => [(h0, wMo q R C tn dn ag md em), ((q 0), .inl (cI, 36, .inl (nA b))), ((q 5), .inl (cI, 10, .inl (nA ey))), ((q 6), .inl (cI, 11, .inl (nA pw)))])) (va_runV (As := [.int g]) (rest := []) ⟨hx, hb, hml, hown, hts⟩ (c_R_isField l D cI cJ cZ h0 q R C tn dn ag md em g hR1 hR2 hC1 hC2 hRC  H.size) (cwV 1 hts gX6_mayLink_X6_isField rfl rfl rfl (by decide +kernel) ⟨Nat.le_of_ble_eq_true rfl, Nat.le_of_ble_eq_true rfl⟩) (kPV (ci := 6) (q0 := 0) (wc := [(h0, wMo q R C tn dn ag md em)]) hK2 hP hD [0] rfl (by decide) rfl rfl) rfl rfl hl.1 rfl (lv_room (Nat.le_of_ble_eq_true rfl)) dX6_mayLink_19 ⟨Nat.le_of_ble_eq_true rfl, Nat.le_of_ble_eq_true rfl⟩) hP hD hS hA [0] [1, 2, 3] [3, 0, 1, 2] rfl rfl (by decide) (by decide) (fun _ => rfl) (by decide) (fun r_5 u_5 H locs hw_5 hP hD hS => ?_)
      have hP : va_P D vwCl [(h0, wMo q R C tn dn ag md em), ((q 0), .inl (cI, 36, .inl (nA b))), ((q 5), .inl (cI, 10, .inl (nA ey))), ((q 6), .inl (cI, 11, .inl (nA pw)))] H := hP
      have hD : va_D A [(h0, wMo q R C tn dn ag md em), ((q 0), .inl (cI, 36, .inl (nA b))), ((q 5), .inl (cI, 10, .inl (nA ey))), ((q 6), .inl (cI, 11, .inl (nA pw)))] := hD
      rcases hw_5 with ⟨rfl, hw_5⟩ | ⟨rfl, hw_5⟩
      · obtain ⟨xb, hxb, rfl⟩ := hw_5
        have hbxb := hbv xb hxb
        refine lv_if_eq (tgt := 65) hx hb dX6_mayLink_22 (by decide) (fun c_22_6 => absurd c_22_6 (by decide)) (fun c_22_6 => ?_)
        refine lv_iload_n hx hb dX6_mayLink_25 rfl (lv_at hl 2 rfl) ?_
        refine lv_iload_n hx hb dX6_mayLink_26 rfl (lv_at hl 3 rfl) ?_
        refine kw_icmp_eq (tgt := 65) hx hb dX6_mayLink_27 (by decide) (by omega) (by omega) (fun c_27_7 => ?_) (fun c_27_7 => ?_)
        · refine lv_iconst (v := (nI 0)) hx hb dX6_mayLink_65 (by decide) ?_
          exact W.zret (v := (nI 0)) hx hb hr (by first | decide +kernel | assumption | exact kz_bA | exact kz_narr (by first | assumption | omega)) (fun t ht hW => ⟨⟨(nI 0), (em, ey, pw), rfl, Or.inl ⟨rfl, fun h9 => by have h8 := okL_n hRC hcl2 hxa hxb h9; omega⟩, by rw [ht]; exact hP, hD⟩, hS.F ht⟩) hS.2.2 dX6_mayLink_66
        · refine lv_aload_n hx hb dX6_mayLink_30 rfl (lv_at hl 0 rfl) ?_
          refine va_get (D := D) (ci := 6) (v := .ref (q 0)) (C := RX6) (T := TX6) (N := 17) hx hb hts kiX6_mayLink_X6 hown hK hP 0 rfl rfl 3 (by decide) (hts (.fieldLink RX6 19 "TwoBanksModel" "at" "[I") (List.mem_of_getElem? (i := 1) rfl)) (fun _ h9 => h9) rfl dX6_mayLink_31 ?_
          refine lv_iload_n hx hb dX6_mayLink_34 rfl (lv_at hl 2 rfl) ?_
          refine va_iald hx hb hK hP 1 0 rfl rfl (vp_in_nI (by omega) (by omega)) dX6_mayLink_35 ?_
          refine k_toi (y := nI (b xa)) (congrArg (nA b) (nI_clamp (by omega))) ?_
          refine lv_iconst (v := (nI 3)) hx hb dX6_mayLink_36 (by decide) ?_
          refine lv_iload_n hx hb dX6_mayLink_37 rfl (lv_at hl 1 rfl) ?_
          refine lv_isub hx hb dX6_mayLink_38 ?_
          refine k_toi (y := nI (3 - cl)) (pk_sub (by omega)) ?_
          refine kw_icmp_eq (tgt := 65) hx hb dX6_mayLink_39 (by decide) (by omega) (by omega) (fun c_39_8 => ?_) (fun c_39_8 => ?_)
          · refine lv_iconst (v := (nI 0)) hx hb dX6_mayLink_65 (by decide) ?_
            exact W.zret (v := (nI 0)) hx hb hr (by first | decide +kernel | assumption | exact kz_bA | exact kz_narr (by first | assumption | omega)) (fun t ht hW => ⟨⟨(nI 0), (em, ey, pw), rfl, Or.inl ⟨rfl, fun h9 => by have h8 := okL_n hRC hcl2 hxa hxb h9; omega⟩, by rw [ht]; exact hP, hD⟩, hS.F ht⟩) hS.2.2 dX6_mayLink_66
          · refine lv_aload_n hx hb dX6_mayLink_42 rfl (lv_at hl 0 rfl) ?_
            refine va_get (D := D) (ci := 6) (v := .ref (q 0)) (C := RX6) (T := TX6) (N := 17) hx hb hts kiX6_mayLink_X6 hown hK hP 0 rfl rfl 3 (by decide) (hts (.fieldLink RX6 19 "TwoBanksModel" "at" "[I") (List.mem_of_getElem? (i := 1) rfl)) (fun _ h9 => h9) rfl dX6_mayLink_43 ?_
            refine lv_iload_n hx hb dX6_mayLink_46 rfl (lv_at hl 3 rfl) ?_
            refine va_iald hx hb hK hP 1 0 rfl rfl (vp_in_nI (by omega) (by omega)) dX6_mayLink_47 ?_
            refine k_toi (y := nI (b xb)) (congrArg (nA b) (nI_clamp (by omega))) ?_
            refine lv_iconst (v := (nI 3)) hx hb dX6_mayLink_48 (by decide) ?_
            refine lv_iload_n hx hb dX6_mayLink_49 rfl (lv_at hl 1 rfl) ?_
            refine lv_isub hx hb dX6_mayLink_50 ?_
            refine k_toi (y := nI (3 - cl)) (pk_sub (by omega)) ?_
            refine kw_icmp_eq (tgt := 65) hx hb dX6_mayLink_51 (by decide) (by omega) (by omega) (fun c_51_9 => ?_) (fun c_51_9 => ?_)
            · refine lv_iconst (v := (nI 0)) hx hb dX6_mayLink_65 (by decide) ?_
              exact W.zret (v := (nI 0)) hx hb hr (by first | decide +kernel | assumption | exact kz_bA | exact kz_narr (by first | assumption | omega)) (fun t ht hW => ⟨⟨(nI 0), (em, ey, pw), rfl, Or.inl ⟨rfl, fun h9 => by have h8 := okL_n hRC hcl2 hxa hxb h9; omega⟩, by rw [ht]; exact hP, hD⟩, hS.F ht⟩) hS.2.2 dX6_mayLink_66
            · refine lv_aload_n hx hb dX6_mayLink_54 rfl (lv_at hl 0 rfl) ?_
              refine k_calli (wr := []) (w2 := (fun u : (Nat → Nat) × (Nat → Nat) => match u with | (eya, pwa) => [(h0, wMo q R C tn dn ag md (fb_ct (mE b) (R * C))), ((q 0), .inl (cI, 36, .inl (nA b))), ((q 5), .inl (cI, 10, .inl (nA eya))), ((q 6), .inl (cI, 11, .inl (nA pwa)))])) (va_runV (As := []) (rest := []) ⟨hx, hb, hml, hown, hts⟩ (c_R_opens l D cI cJ cZ h0 q R C tn dn ag md em b ey pw hR1 hR2 hC1 hC2 hRC hbv  H.size) (cwV 0 hts gX6_mayLink_X6_opens rfl rfl rfl (by decide +kernel) ⟨Nat.le_of_ble_eq_true rfl, Nat.le_of_ble_eq_true rfl⟩) (kPV (ci := 6) (q0 := 0) (wc := [(h0, wMo q R C tn dn ag md em), ((q 0), .inl (cI, 36, .inl (nA b))), ((q 5), .inl (cI, 10, .inl (nA ey))), ((q 6), .inl (cI, 11, .inl (nA pw)))]) hK2 hP hD [0, 1, 2, 3] rfl (by decide) rfl rfl) rfl rfl hl.1 rfl (lv_room (Nat.le_of_ble_eq_true rfl)) dX6_mayLink_55 ⟨Nat.le_of_ble_eq_true rfl, Nat.le_of_ble_eq_true rfl⟩) hP hD hS hA [0, 1, 2, 3] [] [0, 1, 2, 3] rfl rfl (by decide) (by decide) (fun ⟨_, _⟩ => rfl) (by decide) (fun r_12 u_12 H locs hw_12 hP hD hS => ?_)
              obtain ⟨eya_10, pwa_11⟩ := u_12
              have hP : va_P D vwCl [(h0, wMo q R C tn dn ag md (fb_ct (mE b) (R * C))), ((q 0), .inl (cI, 36, .inl (nA b))), ((q 5), .inl (cI, 10, .inl (nA eya_10))), ((q 6), .inl (cI, 11, .inl (nA pwa_11)))] H := hP
              have hD : va_D A [(h0, wMo q R C tn dn ag md (fb_ct (mE b) (R * C))), ((q 0), .inl (cI, 36, .inl (nA b))), ((q 5), .inl (cI, 10, .inl (nA eya_10))), ((q 6), .inl (cI, 11, .inl (nA pwa_11)))] := hD
              obtain ⟨hw_12, hey9, hpw⟩ := hw_12
              rcases hw_12 with ⟨rfl, hw_12⟩ | ⟨rfl, hw_12⟩
              · have hec : (fb_ct (mE b) (R * C)) ≤ 10 := hw_12
                have hey : ∀ k, k < (fb_ct (mE b) (R * C)) → eya_10 k < R * C := fun k hk => (ey_lt hey9 hec k hk).1
                have hin := ey_inj hey9 hec
                have hb0 : ∀ k, k < (fb_ct (mE b) (R * C)) → b (eya_10 k) = 0 := fun k hk => (ey_lt hey9 hec k hk).2.1
                have h2n := p2_le hec
                refine lv_if_eq (tgt := 65) hx hb dX6_mayLink_58 (by decide) (fun c_58_13 => absurd c_58_13 (by decide)) (fun c_58_13 => ?_)
                refine lv_iconst (v := (nI 1)) hx hb dX6_mayLink_61 (by decide) ?_
                refine lv_goto (tgt := 66) hx hb dX6_mayLink_62 (by decide) ?_
                exact W.zret (v := (nI 1)) hx hb hr (by first | decide +kernel | assumption | exact kz_bA | exact kz_narr (by first | assumption | omega)) (fun t ht hW => ⟨⟨(nI 1), ((fb_ct (mE b) (R * C)), eya_10, pwa_11), rfl, Or.inr ⟨rfl, ⟨cl, xa, xb, by omega, rfl, hxa, rfl, hxb, rfl, by omega, by omega, by omega, hec⟩, rfl, hey9, hpw⟩, by rw [ht]; exact hP, hD⟩, hS.F ht⟩) hS.2.2 dX6_mayLink_66
              · skip
                refine lv_if_eq (tgt := 65) hx hb dX6_mayLink_58 (by decide) (fun c_58_14 => ?_) (fun c_58_14 => absurd c_58_14 (by decide))
                refine lv_iconst (v := (nI 0)) hx hb dX6_mayLink_65 (by decide) ?_
                exact W.zret (v := (nI 0)) hx hb hr (by first | decide +kernel | assumption | exact kz_bA | exact kz_narr (by first | assumption | omega)) (fun t ht hW => ⟨⟨(nI 0), ((fb_ct (mE b) (R * C)), eya_10, pwa_11), rfl, Or.inl ⟨rfl, fun h9 => by have h8 := okL_n hRC hcl2 hxa hxb h9; omega⟩, by rw [ht]; exact hP, hD⟩, hS.F ht⟩) hS.2.2 dX6_mayLink_66
      · skip
        refine lv_if_eq (tgt := 65) hx hb dX6_mayLink_22 (by decide) (fun c_22_15 => ?_) (fun c_22_15 => absurd c_22_15 (by decide))
        refine lv_iconst (v := (nI 0)) hx hb dX6_mayLink_65 (by decide) ?_
        exact W.zret (v := (nI 0)) hx hb hr (by first | decide +kernel | assumption | exact kz_bA | exact kz_narr (by first | assumption | omega)) (fun t ht hW => ⟨⟨(nI 0), (em, ey, pw), rfl, Or.inl ⟨rfl, fun ⟨_, _, y, h9⟩ => hw_5 ⟨y, h9.2.2.2.2.1, h9.2.2.2.2.2.1⟩⟩, by rw [ht]; exact hP, hD⟩, hS.F ht⟩) hS.2.2 dX6_mayLink_66
    · skip
      refine lv_if_eq (tgt := 65) hx hb dX6_mayLink_14 (by decide) (fun c_14_16 => ?_) (fun c_14_16 => absurd c_14_16 (by decide))
      refine lv_iconst (v := (nI 0)) hx hb dX6_mayLink_65 (by decide) ?_
      exact W.zret (v := (nI 0)) hx hb hr (by first | decide +kernel | assumption | exact kz_bA | exact kz_narr (by first | assumption | omega)) (fun t ht hW => ⟨⟨(nI 0), (em, ey, pw), rfl, Or.inl ⟨rfl, fun ⟨_, x, _, h9⟩ => hw_3 ⟨x, h9.2.2.1, h9.2.2.2.1⟩⟩, by rw [ht]; exact hP, hD⟩, hS.F ht⟩) hS.2.2 dX6_mayLink_66
  · skip
    refine lv_if_eq (tgt := 65) hx hb dX6_mayLink_6 (by decide) (fun c_6_17 => ?_) (fun c_6_17 => absurd c_6_17 (by decide))
    refine lv_iconst (v := (nI 0)) hx hb dX6_mayLink_65 (by decide) ?_
    exact W.zret (v := (nI 0)) hx hb hr (by first | decide +kernel | assumption | exact kz_bA | exact kz_narr (by first | assumption | omega)) (fun t ht hW => ⟨⟨(nI 0), (em, ey, pw), rfl, Or.inl ⟨rfl, fun ⟨cl, x, y, h9⟩ => hw_1 (rng_of h9.2.1 (by have := h9.1; omega) (by have := h9.1; omega) (by have := h9.1; omega))⟩, by rw [ht]; exact hP, hD⟩, hS.F ht⟩) hS.2.2 dX6_mayLink_66

set_option maxHeartbeats 4000000 in
set_option maxRecDepth 100000 in
theorem c_R_link (l : Launch) (D : va_G) (cI cJ cZ : ClassId) (h0 : Nat) (q : Nat → Nat) (R C tn dn ag md em : Nat) (b ey pw : Nat → Nat) (z y1 y2 : Nat → Bool) (c0 f g : Int32) (hR1 : 1 ≤ R) (hR2 : R ≤ 6) (hC1 : 1 ≤ C) (hC2 : C ≤ 6) (hRC : R * C ≤ 36) (hbv : ∀ f, f < R * C → b f ≤ 2) (sz : Nat) : kMI l yX6_link wsX6_link 6 145 D cI cJ cZ [.ref h0, .int c0, .int f, .int g] [(h0, wMo q R C tn dn ag md em), ((q 0), .inl (cI, 36, .inl (nA b))), ((q 2), .inl (cZ, 36, .inl (bA z))), ((q 5), .inl (cI, 10, .inl (nA ey))), ((q 6), .inl (cI, 11, .inl (nA pw))), ((q 7), .inl (cZ, 59049, .inl (bA y1))), ((q 8), .inl (cZ, 59049, .inl (bA y2)))] sz (fun r (u : Nat × (Nat → Bool) × (Nat → Nat) × (Nat → Nat) × (Nat → Bool) × (Nat → Bool)) => (r = -1 ∧ ¬ ∃ cl x y, okL R C b c0 f g cl x y) ∨ (∃ cl x y ey, okL R C b c0 f g cl x y ∧ r = nI (lkS (rv cl (jl R C b ey (fb_ct (mE b) (R * C)) cl x y) (fb_ct (mE b) (R * C)) (fb_ct (mE b) (R * C)) 0 false) (rv cl (jl R C b ey (fb_ct (mE b) (R * C)) cl x y) (fb_ct (mE b) (R * C)) (fb_ct (mE b) (R * C)) 0 true)) ∧ u.1 = (fb_ct (mE b) (R * C)) ∧ u.2.2.1 = ey ∧ eyP b (R * C) ey ∧ (∀ i, i < 11 → u.2.2.2.1 i = 3 ^ i) ∧ wyP (jl R C b ey (fb_ct (mE b) (R * C)) cl x y) cl (fb_ct (mE b) (R * C)) 0 u.2.2.2.2.1 u.2.2.2.2.2)) (fun u : Nat × (Nat → Bool) × (Nat → Nat) × (Nat → Nat) × (Nat → Bool) × (Nat → Bool) => match u with | (emz, za, eya, pwa, y1a, y2a) => [(h0, wMo q R C tn dn ag md emz), ((q 0), .inl (cI, 36, .inl (nA b))), ((q 2), .inl (cZ, 36, .inl (bA za))), ((q 5), .inl (cI, 10, .inl (nA eya))), ((q 6), .inl (cI, 11, .inl (nA pwa))), ((q 7), .inl (cZ, 59049, .inl (bA y1a))), ((q 8), .inl (cZ, 59049, .inl (bA y2a)))]) := by
  refine Met.ofW (cc := cX6_link) (maxL := 4) (ret := (some .int)) (by decide) rfl ?_
  intro p e s m args below meth c s₁ B hml hv
  obtain ⟨rfl, hsz, hP, ⟨hK, hN⟩, hD0⟩ := hv
  have hx := B.exec
  have hb := B.bytes
  have hr := B.returns
  have hts := atoms_spec (ws := wsX6_link) B.pre
  have hown : s.vm.findClass RX6 = some m.cls := findClass_of_methodNamed B.named
  have hlocks := B.notSynchronized
  subst hsz
  have hD := hD0.self (sz := s.heap.size)
  generalize hAe : va_A [(h0, wMo q R C tn dn ag md em), ((q 0), .inl (cI, 36, .inl (nA b))), ((q 2), .inl (cZ, 36, .inl (bA z))), ((q 5), .inl (cI, 10, .inl (nA ey))), ((q 6), .inl (cI, 11, .inl (nA pw))), ((q 7), .inl (cZ, 59049, .inl (bA y1))), ((q 8), .inl (cZ, 59049, .inl (bA y2)))] s.heap.size = A at hD ⊢
  have hA : ∀ q : Nat, s.heap.size ≤ q → A q := fun q h => by rw [← hAe]; exact Or.inr h
  have hS : va_S A s.heap s.heap [] := va_S.rf
  have hl := lv_entry ([.ref h0, .int c0, .int f, .int g]) (n := 4) (Nat.le_of_ble_eq_true rfl)
  rw [lg_entry_eq]
  generalize (lg_sl ([.ref h0, .int c0, .int f, .int g]) ++ List.replicate (4 - (lg_sl ([.ref h0, .int c0, .int f, .int g])).length) Slot.unset).toArray = ls at hl ⊢
  have hl : lv_has ls 4 [(0, .ref h0), (1, .int c0), (2, .int f), (3, .int g)] := hl
  have hK2 : kK D cI cJ cZ s := ⟨hK, hN⟩
  clear hD0
  refine lv_aload_n hx hb dX6_link_0 rfl (lv_at hl 0 rfl) ?_
  refine lv_iload_n hx hb dX6_link_1 rfl (lv_at hl 1 rfl) ?_
  refine lv_iload_n hx hb dX6_link_2 rfl (lv_at hl 2 rfl) ?_
  refine lv_iload_n hx hb dX6_link_3 rfl (lv_at hl 3 rfl) ?_
  refine k_calli (wr := [((q 2), .inl (cZ, 36, .inl (bA z))), ((q 7), .inl (cZ, 59049, .inl (bA y1))), ((q 8), .inl (cZ, 59049, .inl (bA y2)))]) (w2 := (fun u : Nat × (Nat → Nat) × (Nat → Nat) => match u with | (emz, eya, pwa) => [(h0, wMo q R C tn dn ag md emz), ((q 0), .inl (cI, 36, .inl (nA b))), ((q 2), .inl (cZ, 36, .inl (bA z))), ((q 5), .inl (cI, 10, .inl (nA eya))), ((q 6), .inl (cI, 11, .inl (nA pwa))), ((q 7), .inl (cZ, 59049, .inl (bA y1))), ((q 8), .inl (cZ, 59049, .inl (bA y2)))])) (va_runV (As := [.int c0, .int f, .int g]) (rest := []) ⟨hx, hb, hml, hown, hts⟩ (c_R_mayLink l D cI cJ cZ h0 q R C tn dn ag md em b ey pw c0 f g hR1 hR2 hC1 hC2 hRC hbv  s.heap.size) (cwV 3 hts gX6_link_X6_mayLink rfl rfl rfl (by decide +kernel) ⟨Nat.le_of_ble_eq_true rfl, Nat.le_of_ble_eq_true rfl⟩) (kPV (ci := 6) (q0 := 0) (wc := [(h0, wMo q R C tn dn ag md em), ((q 0), .inl (cI, 36, .inl (nA b))), ((q 5), .inl (cI, 10, .inl (nA ey))), ((q 6), .inl (cI, 11, .inl (nA pw)))]) hK2 hP hD [0, 1, 3, 4] rfl (by decide) rfl rfl) rfl rfl hl.1 rfl (lv_room (Nat.le_of_ble_eq_true rfl)) dX6_link_4 ⟨Nat.le_of_ble_eq_true rfl, Nat.le_of_ble_eq_true rfl⟩) hP hD hS hA [0, 1, 3, 4] [2, 5, 6] [3, 4, 0, 5, 6, 1, 2] rfl rfl (by decide) (by decide) (fun ⟨_, _, _⟩ => rfl) (by decide) (fun r_4 u_4 H locs hw_4 hP hD hS => ?_)
  obtain ⟨emz_1, eya_2, pwa_3⟩ := u_4
  have hP : va_P D vwCl [(h0, wMo q R C tn dn ag md emz_1), ((q 0), .inl (cI, 36, .inl (nA b))), ((q 2), .inl (cZ, 36, .inl (bA z))), ((q 5), .inl (cI, 10, .inl (nA eya_2))), ((q 6), .inl (cI, 11, .inl (nA pwa_3))), ((q 7), .inl (cZ, 59049, .inl (bA y1))), ((q 8), .inl (cZ, 59049, .inl (bA y2)))] H := hP
  have hD : va_D A [(h0, wMo q R C tn dn ag md emz_1), ((q 0), .inl (cI, 36, .inl (nA b))), ((q 2), .inl (cZ, 36, .inl (bA z))), ((q 5), .inl (cI, 10, .inl (nA eya_2))), ((q 6), .inl (cI, 11, .inl (nA pwa_3))), ((q 7), .inl (cZ, 59049, .inl (bA y1))), ((q 8), .inl (cZ, 59049, .inl (bA y2)))] := hD
  rcases hw_4 with ⟨rfl, hw_4⟩ | ⟨rfl, ⟨cl, x, y, hok⟩, hem9, hey9, hpw⟩
  · skip
    refine lv_if_ne (tgt := 12) hx hb dX6_link_7 (by decide) (fun c_7_5 => absurd c_7_5 (by decide)) (fun c_7_5 => ?_)
    refine lv_iconst (v := (-1)) hx hb dX6_link_10 (by decide) ?_
    exact W.iret (v := (-1)) hx hb hr (fun t ht hW => ⟨⟨(-1), (emz_1, z, eya_2, pwa_3, y1, y2), rfl, Or.inl ⟨rfl, hw_4⟩, by rw [ht]; exact hP, hD⟩, hS.F ht⟩) hS.2.2 dX6_link_11
  · subst hem9
    have hok9 := hok
    obtain ⟨hk12, rfl, hxa, rfl, hxb, rfl, hxy, hbx, hby, hec⟩ := hok
    have hey : ∀ k, k < (fb_ct (mE b) (R * C)) → eya_2 k < R * C := fun k hk => (ey_lt hey9 hec k hk).1
    have hin := ey_inj hey9 hec
    have hb0 : ∀ k, k < (fb_ct (mE b) (R * C)) → b (eya_2 k) = 0 := fun k hk => (ey_lt hey9 hec k hk).2.1
    refine lv_if_ne (tgt := 12) hx hb dX6_link_7 (by decide) (fun c_7_6 => ?_) (fun c_7_6 => absurd c_7_6 (by decide))
    refine lv_aload_n hx hb dX6_link_12 rfl (lv_at hl 0 rfl) ?_
    refine lv_iload_n hx hb dX6_link_13 rfl (lv_at hl 1 rfl) ?_
    refine lv_iload_n hx hb dX6_link_14 rfl (lv_at hl 2 rfl) ?_
    refine lv_iload_n hx hb dX6_link_15 rfl (lv_at hl 3 rfl) ?_
    refine k_callv (wr := []) (w2 := (fun u : (Nat → Bool) × (Nat → Bool) × (Nat → Bool) => match u with | (za, y1a, y2a) => [(h0, wMo q R C tn dn ag md (fb_ct (mE b) (R * C))), ((q 0), .inl (cI, 36, .inl (nA b))), ((q 2), .inl (cZ, 36, .inl (bA za))), ((q 5), .inl (cI, 10, .inl (nA eya_2))), ((q 6), .inl (cI, 11, .inl (nA pwa_3))), ((q 7), .inl (cZ, 59049, .inl (bA y1a))), ((q 8), .inl (cZ, 59049, .inl (bA y2a)))])) (va_runV (As := [.int (nI cl), .int (nI x), .int (nI y)]) (rest := []) ⟨hx, hb, hml, hown, hts⟩ (c_R_works_l l D cI cJ cZ h0 q R C tn dn ag md (fb_ct (mE b) (R * C)) b eya_2 pwa_3 z y1 y2 cl x y hR1 hR2 hC1 hC2 hRC hbv hey hpw (by omega) hin hb0 (by omega) (by omega) (by omega)  H.size) (cwV 3 hts gX6_link_X6_works rfl rfl rfl (by decide +kernel) ⟨Nat.le_of_ble_eq_true rfl, Nat.le_of_ble_eq_true rfl⟩) (kPV (ci := 6) (q0 := 0) (wc := [(h0, wMo q R C tn dn ag md (fb_ct (mE b) (R * C))), ((q 0), .inl (cI, 36, .inl (nA b))), ((q 2), .inl (cZ, 36, .inl (bA z))), ((q 5), .inl (cI, 10, .inl (nA eya_2))), ((q 6), .inl (cI, 11, .inl (nA pwa_3))), ((q 7), .inl (cZ, 59049, .inl (bA y1))), ((q 8), .inl (cZ, 59049, .inl (bA y2)))]) hK2 hP hD [0, 1, 2, 3, 4, 5, 6] rfl (by decide) rfl rfl) rfl rfl hl.1 rfl (lv_room (Nat.le_of_ble_eq_true rfl)) dX6_link_16 ⟨Nat.le_of_ble_eq_true rfl, Nat.le_of_ble_eq_true rfl⟩) hP hD hS hA [0, 1, 2, 3, 4, 5, 6] [] [0, 1, 2, 3, 4, 5, 6] rfl rfl (by decide) (by decide) (fun ⟨_, _, _⟩ => rfl) (by decide) (fun u_10 H locs hw_10 hP hD hS => ?_)
    obtain ⟨za_7, y1a_8, y2a_9⟩ := u_10
    have hP : va_P D vwCl [(h0, wMo q R C tn dn ag md (fb_ct (mE b) (R * C))), ((q 0), .inl (cI, 36, .inl (nA b))), ((q 2), .inl (cZ, 36, .inl (bA za_7))), ((q 5), .inl (cI, 10, .inl (nA eya_2))), ((q 6), .inl (cI, 11, .inl (nA pwa_3))), ((q 7), .inl (cZ, 59049, .inl (bA y1a_8))), ((q 8), .inl (cZ, 59049, .inl (bA y2a_9)))] H := hP
    have hD : va_D A [(h0, wMo q R C tn dn ag md (fb_ct (mE b) (R * C))), ((q 0), .inl (cI, 36, .inl (nA b))), ((q 2), .inl (cZ, 36, .inl (bA za_7))), ((q 5), .inl (cI, 10, .inl (nA eya_2))), ((q 6), .inl (cI, 11, .inl (nA pwa_3))), ((q 7), .inl (cZ, 59049, .inl (bA y1a_8))), ((q 8), .inl (cZ, 59049, .inl (bA y2a_9)))] := hD
    have hwy := hw_10
    refine lv_aload_n hx hb dX6_link_19 rfl (lv_at hl 0 rfl) ?_
    refine lv_iconst (v := (nI 0)) hx hb dX6_link_20 (by decide) ?_
    refine lv_iconst (v := (nI 3)) hx hb dX6_link_21 (by decide) ?_
    refine lv_iload_n hx hb dX6_link_22 rfl (lv_at hl 1 rfl) ?_
    refine lv_isub hx hb dX6_link_23 ?_
    refine k_toi (y := nI (3 - cl)) (pk_sub (by omega)) ?_
    refine k_calli (wr := [((q 0), .inl (cI, 36, .inl (nA b))), ((q 2), .inl (cZ, 36, .inl (bA za_7))), ((q 5), .inl (cI, 10, .inl (nA eya_2))), ((q 6), .inl (cI, 11, .inl (nA pwa_3)))]) (w2 := (fun _ : Unit => [(h0, wMo q R C tn dn ag md (fb_ct (mE b) (R * C))), ((q 0), .inl (cI, 36, .inl (nA b))), ((q 2), .inl (cZ, 36, .inl (bA za_7))), ((q 5), .inl (cI, 10, .inl (nA eya_2))), ((q 6), .inl (cI, 11, .inl (nA pwa_3))), ((q 7), .inl (cZ, 59049, .inl (bA y1a_8))), ((q 8), .inl (cZ, 59049, .inl (bA y2a_9)))])) (va_runV (As := [.int (nI 0), .int (nI (3 - cl))]) (rest := []) ⟨hx, hb, hml, hown, hts⟩ (c_R_gets l D cI cJ cZ h0 q R C tn dn ag md (fb_ct (mE b) (R * C)) y1a_8 y2a_9 0 (3 - cl) (by omega) (by omega)  H.size) (cwV 2 hts gX6_link_X6_gets rfl rfl rfl (by decide +kernel) ⟨Nat.le_of_ble_eq_true rfl, Nat.le_of_ble_eq_true rfl⟩) (kPV (ci := 6) (q0 := 0) (wc := [(h0, wMo q R C tn dn ag md (fb_ct (mE b) (R * C))), ((q 7), .inl (cZ, 59049, .inl (bA y1a_8))), ((q 8), .inl (cZ, 59049, .inl (bA y2a_9)))]) hK2 hP hD [0, 5, 6] rfl (by decide) rfl rfl) rfl rfl hl.1 rfl (lv_room (Nat.le_of_ble_eq_true rfl)) dX6_link_24 ⟨Nat.le_of_ble_eq_true rfl, Nat.le_of_ble_eq_true rfl⟩) hP hD hS hA [0, 5, 6] [1, 2, 3, 4] [4, 0, 1, 2, 3, 5, 6] rfl rfl (by decide) (by decide) (fun _ => rfl) (by decide) (fun r_11 u_11 H locs hw_11 hP hD hS => ?_)
    have hP : va_P D vwCl [(h0, wMo q R C tn dn ag md (fb_ct (mE b) (R * C))), ((q 0), .inl (cI, 36, .inl (nA b))), ((q 2), .inl (cZ, 36, .inl (bA za_7))), ((q 5), .inl (cI, 10, .inl (nA eya_2))), ((q 6), .inl (cI, 11, .inl (nA pwa_3))), ((q 7), .inl (cZ, 59049, .inl (bA y1a_8))), ((q 8), .inl (cZ, 59049, .inl (bA y2a_9)))] H := hP
    have hD : va_D A [(h0, wMo q R C tn dn ag md (fb_ct (mE b) (R * C))), ((q 0), .inl (cI, 36, .inl (nA b))), ((q 2), .inl (cZ, 36, .inl (bA za_7))), ((q 5), .inl (cI, 10, .inl (nA eya_2))), ((q 6), .inl (cI, 11, .inl (nA pwa_3))), ((q 7), .inl (cZ, 59049, .inl (bA y1a_8))), ((q 8), .inl (cZ, 59049, .inl (bA y2a_9)))] := hD
    rcases hw_11 with ⟨rfl, hw_11⟩ | ⟨rfl, hw_11⟩
    · skip
      refine lv_if_eq (tgt := 34) hx hb dX6_link_27 (by decide) (fun c_27_12 => absurd c_27_12 (by decide)) (fun c_27_12 => ?_)
      refine lv_iconst (v := (nI 2)) hx hb dX6_link_30 (by decide) ?_
      refine lv_goto (tgt := 48) hx hb dX6_link_31 (by decide) ?_
      exact W.iret (v := (nI 2)) hx hb hr (fun t ht hW => ⟨⟨(nI 2), ((fb_ct (mE b) (R * C)), za_7, eya_2, pwa_3, y1a_8, y2a_9), rfl, Or.inr ⟨cl, x, y, eya_2, hok9, by rw [lkS_2 ((wy_g0f hwy (by omega)).symm.trans hw_11)], rfl, rfl, hey9, hpw, hwy⟩, by rw [ht]; exact hP, hD⟩, hS.F ht⟩) hS.2.2 dX6_link_48
    · skip
      refine lv_if_eq (tgt := 34) hx hb dX6_link_27 (by decide) (fun c_27_13 => ?_) (fun c_27_13 => absurd c_27_13 (by decide))
      refine lv_aload_n hx hb dX6_link_34 rfl (lv_at hl 0 rfl) ?_
      refine lv_iconst (v := (nI 0)) hx hb dX6_link_35 (by decide) ?_
      refine lv_iload_n hx hb dX6_link_36 rfl (lv_at hl 1 rfl) ?_
      refine k_calli (wr := [((q 0), .inl (cI, 36, .inl (nA b))), ((q 2), .inl (cZ, 36, .inl (bA za_7))), ((q 5), .inl (cI, 10, .inl (nA eya_2))), ((q 6), .inl (cI, 11, .inl (nA pwa_3)))]) (w2 := (fun _ : Unit => [(h0, wMo q R C tn dn ag md (fb_ct (mE b) (R * C))), ((q 0), .inl (cI, 36, .inl (nA b))), ((q 2), .inl (cZ, 36, .inl (bA za_7))), ((q 5), .inl (cI, 10, .inl (nA eya_2))), ((q 6), .inl (cI, 11, .inl (nA pwa_3))), ((q 7), .inl (cZ, 59049, .inl (bA y1a_8))), ((q 8), .inl (cZ, 59049, .inl (bA y2a_9)))])) (va_runV (As := [.int (nI 0), .int (nI cl)]) (rest := []) ⟨hx, hb, hml, hown, hts⟩ (c_R_gets l D cI cJ cZ h0 q R C tn dn ag md (fb_ct (mE b) (R * C)) y1a_8 y2a_9 0 cl (by omega) (by omega)  H.size) (cwV 2 hts gX6_link_X6_gets rfl rfl rfl (by decide +kernel) ⟨Nat.le_of_ble_eq_true rfl, Nat.le_of_ble_eq_true rfl⟩) (kPV (ci := 6) (q0 := 0) (wc := [(h0, wMo q R C tn dn ag md (fb_ct (mE b) (R * C))), ((q 7), .inl (cZ, 59049, .inl (bA y1a_8))), ((q 8), .inl (cZ, 59049, .inl (bA y2a_9)))]) hK2 hP hD [0, 5, 6] rfl (by decide) rfl rfl) rfl rfl hl.1 rfl (lv_room (Nat.le_of_ble_eq_true rfl)) dX6_link_37 ⟨Nat.le_of_ble_eq_true rfl, Nat.le_of_ble_eq_true rfl⟩) hP hD hS hA [0, 5, 6] [1, 2, 3, 4] [4, 0, 1, 2, 3, 5, 6] rfl rfl (by decide) (by decide) (fun _ => rfl) (by decide) (fun r_14 u_14 H locs hw_14 hP hD hS => ?_)
      have hP : va_P D vwCl [(h0, wMo q R C tn dn ag md (fb_ct (mE b) (R * C))), ((q 0), .inl (cI, 36, .inl (nA b))), ((q 2), .inl (cZ, 36, .inl (bA za_7))), ((q 5), .inl (cI, 10, .inl (nA eya_2))), ((q 6), .inl (cI, 11, .inl (nA pwa_3))), ((q 7), .inl (cZ, 59049, .inl (bA y1a_8))), ((q 8), .inl (cZ, 59049, .inl (bA y2a_9)))] H := hP
      have hD : va_D A [(h0, wMo q R C tn dn ag md (fb_ct (mE b) (R * C))), ((q 0), .inl (cI, 36, .inl (nA b))), ((q 2), .inl (cZ, 36, .inl (bA za_7))), ((q 5), .inl (cI, 10, .inl (nA eya_2))), ((q 6), .inl (cI, 11, .inl (nA pwa_3))), ((q 7), .inl (cZ, 59049, .inl (bA y1a_8))), ((q 8), .inl (cZ, 59049, .inl (bA y2a_9)))] := hD
      rcases hw_14 with ⟨rfl, hw_14⟩ | ⟨rfl, hw_14⟩
      · skip
        refine lv_if_eq (tgt := 47) hx hb dX6_link_40 (by decide) (fun c_40_15 => absurd c_40_15 (by decide)) (fun c_40_15 => ?_)
        refine lv_iconst (v := (nI 1)) hx hb dX6_link_43 (by decide) ?_
        refine lv_goto (tgt := 48) hx hb dX6_link_44 (by decide) ?_
        exact W.iret (v := (nI 1)) hx hb hr (fun t ht hW => ⟨⟨(nI 1), ((fb_ct (mE b) (R * C)), za_7, eya_2, pwa_3, y1a_8, y2a_9), rfl, Or.inr ⟨cl, x, y, eya_2, hok9, by rw [lkS_1 ((wy_g0f hwy (by omega)).symm.trans hw_11) ((wy_g0t hwy (by omega)).symm.trans hw_14)], rfl, rfl, hey9, hpw, hwy⟩, by rw [ht]; exact hP, hD⟩, hS.F ht⟩) hS.2.2 dX6_link_48
      · skip
        refine lv_if_eq (tgt := 47) hx hb dX6_link_40 (by decide) (fun c_40_16 => ?_) (fun c_40_16 => absurd c_40_16 (by decide))
        refine lv_iconst (v := (nI 0)) hx hb dX6_link_47 (by decide) ?_
        exact W.iret (v := (nI 0)) hx hb hr (fun t ht hW => ⟨⟨(nI 0), ((fb_ct (mE b) (R * C)), za_7, eya_2, pwa_3, y1a_8, y2a_9), rfl, Or.inr ⟨cl, x, y, eya_2, hok9, by rw [lkS_0 ((wy_g0f hwy (by omega)).symm.trans hw_11) ((wy_g0t hwy (by omega)).symm.trans hw_14)], rfl, rfl, hey9, hpw, hwy⟩, by rw [ht]; exact hP, hD⟩, hS.F ht⟩) hS.2.2 dX6_link_48

theorem kiX6_half_X6 : ∀ w ∈ u_ws RX6 TX6 17, w ∈ wsX6_half := fun w h => List.mem_cons_of_mem _ (List.mem_append_right _ h)
set_option maxHeartbeats 4000000 in
set_option maxRecDepth 100000 in
theorem c_R_half (l : Launch) (D : va_G) (cI cJ cZ : ClassId) (h0 : Nat) (q : Nat → Nat) (R C tn dn ag md em : Nat) (b ey pw : Nat → Nat) (z y1 y2 : Nat → Bool) (c0 f g i : Int32) (hR1 : 1 ≤ R) (hR2 : R ≤ 6) (hC1 : 1 ≤ C) (hC2 : C ≤ 6) (hRC : R * C ≤ 36) (hbv : ∀ f, f < R * C → b f ≤ 2) (sz : Nat) : kMI l yX6_half wsX6_half 7 168 D cI cJ cZ [.ref h0, .int c0, .int f, .int g, .int i] [(h0, wMo q R C tn dn ag md em), ((q 0), .inl (cI, 36, .inl (nA b))), ((q 2), .inl (cZ, 36, .inl (bA z))), ((q 5), .inl (cI, 10, .inl (nA ey))), ((q 6), .inl (cI, 11, .inl (nA pw))), ((q 7), .inl (cZ, 59049, .inl (bA y1))), ((q 8), .inl (cZ, 59049, .inl (bA y2)))] sz (fun r (_ : Nat × (Nat → Bool) × (Nat → Nat) × (Nat → Nat) × (Nat → Bool) × (Nat → Bool)) => (r = -1 ∧ ¬ (¬ i < 0 ∧ ∃ cl x y, okL R C b c0 f g cl x y)) ∨ (∃ cl x y ey j, okL R C b c0 f g cl x y ∧ (j < 2 ^ 31 ∧ i = nI j) ∧ eyP b (R * C) ey ∧ ((r = -1 ∧ (lkS (rv cl (jl R C b ey (fb_ct (mE b) (R * C)) cl x y) (fb_ct (mE b) (R * C)) (fb_ct (mE b) (R * C)) 0 false) (rv cl (jl R C b ey (fb_ct (mE b) (R * C)) cl x y) (fb_ct (mE b) (R * C)) (fb_ct (mE b) (R * C)) 0 true) ≠ 1 ∨ fb_ct (wOwn (jl R C b ey (fb_ct (mE b) (R * C)) cl x y) cl (fb_ct (mE b) (R * C)) 0) (fb_ct (mE b) (R * C)) ≤ j)) ∨ (lkS (rv cl (jl R C b ey (fb_ct (mE b) (R * C)) cl x y) (fb_ct (mE b) (R * C)) (fb_ct (mE b) (R * C)) 0 false) (rv cl (jl R C b ey (fb_ct (mE b) (R * C)) cl x y) (fb_ct (mE b) (R * C)) (fb_ct (mE b) (R * C)) 0 true) = 1 ∧ ∃ k, k < (fb_ct (mE b) (R * C)) ∧ wOwn (jl R C b ey (fb_ct (mE b) (R * C)) cl x y) cl (fb_ct (mE b) (R * C)) 0 k = true ∧ fb_ct (wOwn (jl R C b ey (fb_ct (mE b) (R * C)) cl x y) cl (fb_ct (mE b) (R * C)) 0) k = j ∧ r = nI (ey k))))) (fun u : Nat × (Nat → Bool) × (Nat → Nat) × (Nat → Nat) × (Nat → Bool) × (Nat → Bool) => match u with | (emz, za, eya, pwa, y1a, y2a) => [(h0, wMo q R C tn dn ag md emz), ((q 0), .inl (cI, 36, .inl (nA b))), ((q 2), .inl (cZ, 36, .inl (bA za))), ((q 5), .inl (cI, 10, .inl (nA eya))), ((q 6), .inl (cI, 11, .inl (nA pwa))), ((q 7), .inl (cZ, 59049, .inl (bA y1a))), ((q 8), .inl (cZ, 59049, .inl (bA y2a)))]) := by
  refine Met.ofW (cc := cX6_half) (maxL := 7) (ret := (some .int)) (by decide) rfl ?_
  intro p e s m args below meth c s₁ B hml hv
  obtain ⟨rfl, hsz, hP, ⟨hK, hN⟩, hD0⟩ := hv
  have hx := B.exec
  have hb := B.bytes
  have hr := B.returns
  have hts := atoms_spec (ws := wsX6_half) B.pre
  have hown : s.vm.findClass RX6 = some m.cls := findClass_of_methodNamed B.named
  have hlocks := B.notSynchronized
  subst hsz
  have hD := hD0.self (sz := s.heap.size)
  generalize hAe : va_A [(h0, wMo q R C tn dn ag md em), ((q 0), .inl (cI, 36, .inl (nA b))), ((q 2), .inl (cZ, 36, .inl (bA z))), ((q 5), .inl (cI, 10, .inl (nA ey))), ((q 6), .inl (cI, 11, .inl (nA pw))), ((q 7), .inl (cZ, 59049, .inl (bA y1))), ((q 8), .inl (cZ, 59049, .inl (bA y2)))] s.heap.size = A at hD ⊢
  have hA : ∀ q : Nat, s.heap.size ≤ q → A q := fun q h => by rw [← hAe]; exact Or.inr h
  have hS : va_S A s.heap s.heap [] := va_S.rf
  have hl := lv_entry ([.ref h0, .int c0, .int f, .int g, .int i]) (n := 7) (Nat.le_of_ble_eq_true rfl)
  rw [lg_entry_eq]
  generalize (lg_sl ([.ref h0, .int c0, .int f, .int g, .int i]) ++ List.replicate (7 - (lg_sl ([.ref h0, .int c0, .int f, .int g, .int i])).length) Slot.unset).toArray = ls at hl ⊢
  have hl : lv_has ls 7 [(0, .ref h0), (1, .int c0), (2, .int f), (3, .int g), (4, .int i)] := hl
  have hK2 : kK D cI cJ cZ s := ⟨hK, hN⟩
  clear hD0
  refine lv_iload hx hb dX6_half_0 (lv_at hl 4 rfl) ?_
  refine lv_if_lt (tgt := 16) hx hb dX6_half_2 (by decide) (fun c_2_1 => ?_) (fun c_2_1 => ?_)
  · have hi9 := c_2_1
    refine lv_iconst (v := (-1)) hx hb dX6_half_16 (by decide) ?_
    exact W.iret (v := (-1)) hx hb hr (fun t ht hW => ⟨⟨(-1), (em, z, ey, pw, y1, y2), rfl, Or.inl ⟨rfl, fun h9 => h9.1 hi9⟩, by rw [ht]; exact hP, hD⟩, hS.F ht⟩) hS.2.2 dX6_half_17
  · have hi9 := c_2_1
    refine lv_aload_n hx hb dX6_half_5 rfl (lv_at hl 0 rfl) ?_
    refine lv_iload_n hx hb dX6_half_6 rfl (lv_at hl 1 rfl) ?_
    refine lv_iload_n hx hb dX6_half_7 rfl (lv_at hl 2 rfl) ?_
    refine lv_iload_n hx hb dX6_half_8 rfl (lv_at hl 3 rfl) ?_
    refine k_calli (wr := []) (w2 := (fun u : Nat × (Nat → Bool) × (Nat → Nat) × (Nat → Nat) × (Nat → Bool) × (Nat → Bool) => match u with | (emz, za, eya, pwa, y1a, y2a) => [(h0, wMo q R C tn dn ag md emz), ((q 0), .inl (cI, 36, .inl (nA b))), ((q 2), .inl (cZ, 36, .inl (bA za))), ((q 5), .inl (cI, 10, .inl (nA eya))), ((q 6), .inl (cI, 11, .inl (nA pwa))), ((q 7), .inl (cZ, 59049, .inl (bA y1a))), ((q 8), .inl (cZ, 59049, .inl (bA y2a)))])) (va_runV (As := [.int c0, .int f, .int g]) (rest := []) ⟨hx, hb, hml, hown, hts⟩ (c_R_link l D cI cJ cZ h0 q R C tn dn ag md em b ey pw z y1 y2 c0 f g hR1 hR2 hC1 hC2 hRC hbv  s.heap.size) (cwV 3 hts gX6_half_X6_link rfl rfl rfl (by decide +kernel) ⟨Nat.le_of_ble_eq_true rfl, Nat.le_of_ble_eq_true rfl⟩) (kPV (ci := 6) (q0 := 0) (wc := [(h0, wMo q R C tn dn ag md em), ((q 0), .inl (cI, 36, .inl (nA b))), ((q 2), .inl (cZ, 36, .inl (bA z))), ((q 5), .inl (cI, 10, .inl (nA ey))), ((q 6), .inl (cI, 11, .inl (nA pw))), ((q 7), .inl (cZ, 59049, .inl (bA y1))), ((q 8), .inl (cZ, 59049, .inl (bA y2)))]) hK2 hP hD [0, 1, 2, 3, 4, 5, 6] rfl (by decide) rfl rfl) rfl rfl hl.1 rfl (lv_room (Nat.le_of_ble_eq_true rfl)) dX6_half_9 ⟨Nat.le_of_ble_eq_true rfl, Nat.le_of_ble_eq_true rfl⟩) hP hD hS hA [0, 1, 2, 3, 4, 5, 6] [] [0, 1, 2, 3, 4, 5, 6] rfl rfl (by decide) (by decide) (fun ⟨_, _, _, _, _, _⟩ => rfl) (by decide) (fun r_8 u_8 H locs hw_8 hP hD hS => ?_)
    obtain ⟨emz_2, za_3, eya_4, pwa_5, y1a_6, y2a_7⟩ := u_8
    have hP : va_P D vwCl [(h0, wMo q R C tn dn ag md emz_2), ((q 0), .inl (cI, 36, .inl (nA b))), ((q 2), .inl (cZ, 36, .inl (bA za_3))), ((q 5), .inl (cI, 10, .inl (nA eya_4))), ((q 6), .inl (cI, 11, .inl (nA pwa_5))), ((q 7), .inl (cZ, 59049, .inl (bA y1a_6))), ((q 8), .inl (cZ, 59049, .inl (bA y2a_7)))] H := hP
    have hD : va_D A [(h0, wMo q R C tn dn ag md emz_2), ((q 0), .inl (cI, 36, .inl (nA b))), ((q 2), .inl (cZ, 36, .inl (bA za_3))), ((q 5), .inl (cI, 10, .inl (nA eya_4))), ((q 6), .inl (cI, 11, .inl (nA pwa_5))), ((q 7), .inl (cZ, 59049, .inl (bA y1a_6))), ((q 8), .inl (cZ, 59049, .inl (bA y2a_7)))] := hD
    rcases hw_8 with ⟨rfl, hw_8⟩ | hw_8
    · skip
      refine lv_iconst (v := (nI 1)) hx hb dX6_half_12 (by decide) ?_
      refine lv_icmp_eq (tgt := 18) hx hb dX6_half_13 (by decide) (fun c_13_9 => absurd c_13_9 (by decide)) (fun c_13_9 => ?_)
      have hl1 := c_13_9
      refine lv_iconst (v := (-1)) hx hb dX6_half_16 (by decide) ?_
      exact W.iret (v := (-1)) hx hb hr (fun t ht hW => ⟨⟨(-1), (emz_2, za_3, eya_4, pwa_5, y1a_6, y2a_7), rfl, Or.inl ⟨rfl, fun h9 => hw_8 h9.2⟩, by rw [ht]; exact hP, hD⟩, hS.F ht⟩) hS.2.2 dX6_half_17
    · obtain ⟨cl, x, y, ey9, hok, rfl, hem9, rfl, hey9, hpw, hwy⟩ := hw_8
      subst hem9
      refine k_toi (y := nI (lkS (rv cl (jl R C b eya_4 (fb_ct (mE b) (R * C)) cl x y) (fb_ct (mE b) (R * C)) (fb_ct (mE b) (R * C)) 0 false) (rv cl (jl R C b eya_4 (fb_ct (mE b) (R * C)) cl x y) (fb_ct (mE b) (R * C)) (fb_ct (mE b) (R * C)) 0 true))) rfl ?_
      have hwy : wyP (jl R C b eya_4 (fb_ct (mE b) (R * C)) cl x y) cl (fb_ct (mE b) (R * C)) 0 y1a_6 y2a_7 := hwy
      have hey9 : eyP b (R * C) eya_4 := hey9
      have hpw : ∀ i, i < 11 → pwa_5 i = 3 ^ i := hpw
      have hok9 := hok
      obtain ⟨hk12, rfl, hxa, rfl, hxb, rfl, hxy, hbx, hby, hec⟩ := hok
      obtain ⟨j, hj9, rfl⟩ := nI_of hi9
      have hey : ∀ k, k < (fb_ct (mE b) (R * C)) → eya_4 k < R * C := fun k hk => (ey_lt hey9 hec k hk).1
      have hlb := lkS_le (rv cl (jl R C b eya_4 (fb_ct (mE b) (R * C)) cl x y) (fb_ct (mE b) (R * C)) (fb_ct (mE b) (R * C)) 0 false) (rv cl (jl R C b eya_4 (fb_ct (mE b) (R * C)) cl x y) (fb_ct (mE b) (R * C)) (fb_ct (mE b) (R * C)) 0 true)
      refine lv_iconst (v := (nI 1)) hx hb dX6_half_12 (by decide) ?_
      refine kw_icmp_eq (tgt := 18) hx hb dX6_half_13 (by decide) (by omega) (by omega) (fun c_13_10 => ?_) (fun c_13_10 => ?_)
      · have hl1 := c_13_10
        refine lv_iconst (v := (nI 0)) hx hb dX6_half_18 (by decide) ?_
        refine lv_istore (lv' := [(5, .int (nI 0)), (0, .ref h0), (1, .int (nI cl)), (2, .int (nI x)), (3, .int (nI y)), (4, .int (nI j))]) hx hb dX6_half_19 hl (by decide) rfl (fun ls hl => ?_)
        refine lv_iconst (v := (nI 0)) hx hb dX6_half_21 (by decide) ?_
        refine lv_istore (lv' := [(6, .int (nI 0)), (5, .int (nI 0)), (0, .ref h0), (1, .int (nI cl)), (2, .int (nI x)), (3, .int (nI y)), (4, .int (nI j))]) hx hb dX6_half_22 hl (by decide) rfl (fun ls hl => ?_)
        refine kw_loop (σ := Nat × Nat) (fun zz H locs ls => match zz with | (n, k) => va_P D vwCl [(h0, wMo q R C tn dn ag md (fb_ct (mE b) (R * C))), ((q 0), .inl (cI, 36, .inl (nA b))), ((q 2), .inl (cZ, 36, .inl (bA za_3))), ((q 5), .inl (cI, 10, .inl (nA eya_4))), ((q 6), .inl (cI, 11, .inl (nA pwa_5))), ((q 7), .inl (cZ, 59049, .inl (bA y1a_6))), ((q 8), .inl (cZ, 59049, .inl (bA y2a_7)))] H ∧ va_D A [(h0, wMo q R C tn dn ag md (fb_ct (mE b) (R * C))), ((q 0), .inl (cI, 36, .inl (nA b))), ((q 2), .inl (cZ, 36, .inl (bA za_3))), ((q 5), .inl (cI, 10, .inl (nA eya_4))), ((q 6), .inl (cI, 11, .inl (nA pwa_5))), ((q 7), .inl (cZ, 59049, .inl (bA y1a_6))), ((q 8), .inl (cZ, 59049, .inl (bA y2a_7)))] ∧ va_S A s.heap H locs ∧ lv_has ls 7 [(0, .ref h0), (1, .int (nI cl)), (2, .int (nI x)), (3, .int (nI y)), (4, .int (nI j)), (5, .int (nI n)), (6, .int (nI k))] ∧ (k ≤ (fb_ct (mE b) (R * C))) ∧ (n = fb_ct (wOwn (jl R C b eya_4 (fb_ct (mE b) (R * C)) cl x y) cl (fb_ct (mE b) (R * C)) 0) k) ∧ (n ≤ j)) (fun zz => match zz with | (n, k) => (fb_ct (mE b) (R * C)) - k) (0, 0) ⟨hP, hD, hS, lv_sub hl [2, 3, 4, 5, 6, 1, 0] rfl, Nat.zero_le _, rfl, Nat.zero_le _⟩ ?_
        clear hP hD hS hl
        rintro ⟨n, k⟩ H locs ls ⟨hP, hD, hS, hl, hk9, hn9, hnj⟩ ih_24
        have hP : va_P D vwCl [(h0, wMo q R C tn dn ag md (fb_ct (mE b) (R * C))), ((q 0), .inl (cI, 36, .inl (nA b))), ((q 2), .inl (cZ, 36, .inl (bA za_3))), ((q 5), .inl (cI, 10, .inl (nA eya_4))), ((q 6), .inl (cI, 11, .inl (nA pwa_5))), ((q 7), .inl (cZ, 59049, .inl (bA y1a_6))), ((q 8), .inl (cZ, 59049, .inl (bA y2a_7)))] H := hP
        have hD : va_D A [(h0, wMo q R C tn dn ag md (fb_ct (mE b) (R * C))), ((q 0), .inl (cI, 36, .inl (nA b))), ((q 2), .inl (cZ, 36, .inl (bA za_3))), ((q 5), .inl (cI, 10, .inl (nA eya_4))), ((q 6), .inl (cI, 11, .inl (nA pwa_5))), ((q 7), .inl (cZ, 59049, .inl (bA y1a_6))), ((q 8), .inl (cZ, 59049, .inl (bA y2a_7)))] := hD
        have hl : lv_has ls 7 [(0, .ref h0), (1, .int (nI cl)), (2, .int (nI x)), (3, .int (nI y)), (4, .int (nI j)), (5, .int (nI n)), (6, .int (nI k))] := hl
        have hk9 : k ≤ (fb_ct (mE b) (R * C)) := hk9
        have hn9 : n = fb_ct (wOwn (jl R C b eya_4 (fb_ct (mE b) (R * C)) cl x y) cl (fb_ct (mE b) (R * C)) 0) k := hn9
        have hnj : n ≤ j := hnj
        refine lv_iload hx hb dX6_half_24 (lv_at hl 6 rfl) ?_
        refine lv_aload_n hx hb dX6_half_26 rfl (lv_at hl 0 rfl) ?_
        refine va_get (D := D) (ci := 6) (v := .int (nI (fb_ct (mE b) (R * C)))) (C := RX6) (T := TX6) (N := 17) hx hb hts kiX6_half_X6 hown hK hP 0 rfl rfl 11 (by decide) (hts (.fieldLink RX6 130 "TwoBanksModel" "empties" "I") (List.mem_of_getElem? (i := 1) rfl)) (fun _ h9 => h9) rfl dX6_half_27 ?_
        refine kw_icmp_ge (tgt := 79) hx hb dX6_half_30 (by decide) (by omega) (by omega) (fun c_30_11 => ?_) (fun c_30_11 => ?_)
        · refine lv_iconst (v := (-1)) hx hb dX6_half_79 (by decide) ?_
          exact W.iret (v := (-1)) hx hb hr (fun t ht hW => ⟨⟨(-1), ((fb_ct (mE b) (R * C)), za_3, eya_4, pwa_5, y1a_6, y2a_7), rfl, Or.inr ⟨cl, x, y, eya_4, j, hok9, ⟨hj9, rfl⟩, hey9, Or.inl ⟨rfl, Or.inr (by have e9 : k = (fb_ct (mE b) (R * C)) := (by omega); rw [e9] at hn9; omega)⟩⟩, by rw [ht]; exact hP, hD⟩, hS.F ht⟩) hS.2.2 dX6_half_80
        · have hkl : k < (fb_ct (mE b) (R * C)) := c_30_11
          have hpk := hpw k (by omega)
          have hp0 : 0 < 3 ^ k := Nat.pow_pos (by decide)
          have hpb : 3 ^ k ≤ 3 ^ 10 := Nat.pow_le_pow_right (by decide) (by omega)
          have h3n := p3_le hec
          have hcb : cl * 3 ^ k < 3 ^ (fb_ct (mE b) (R * C)) := first_lt (by omega) hkl
          have hek := hey k hkl
          refine lv_aload_n hx hb dX6_half_33 rfl (lv_at hl 0 rfl) ?_
          refine lv_iload_n hx hb dX6_half_34 rfl (lv_at hl 1 rfl) ?_
          refine lv_aload_n hx hb dX6_half_35 rfl (lv_at hl 0 rfl) ?_
          refine va_get (D := D) (ci := 6) (v := .ref (q 6)) (C := RX6) (T := TX6) (N := 17) hx hb hts kiX6_half_X6 hown hK hP 0 rfl rfl 13 (by decide) (hts (.fieldLink RX6 43 "TwoBanksModel" "power" "[I") (List.mem_of_getElem? (i := 2) rfl)) (fun _ h9 => h9) rfl dX6_half_36 ?_
          refine lv_iload hx hb dX6_half_39 (lv_at hl 6 rfl) ?_
          refine va_iald hx hb hK hP 4 0 rfl rfl (vp_in_nI (by omega) (by omega)) dX6_half_41 ?_
          refine k_toi (y := nI (pwa_5 k)) (congrArg (nA pwa_5) (nI_clamp (by omega))) ?_
          refine k_toi (y := nI (3 ^ k)) (congrArg nI hpk) ?_
          refine lv_imul hx hb dX6_half_42 ?_
          refine k_toi (y := nI (cl * (3 ^ k))) (pk_mul _ _) ?_
          refine lv_iconst (v := (nI 3)) hx hb dX6_half_43 (by decide) ?_
          refine lv_iload_n hx hb dX6_half_44 rfl (lv_at hl 1 rfl) ?_
          refine lv_isub hx hb dX6_half_45 ?_
          refine k_toi (y := nI (3 - cl)) (pk_sub (by omega)) ?_
          refine k_calli (wr := [((q 0), .inl (cI, 36, .inl (nA b))), ((q 2), .inl (cZ, 36, .inl (bA za_3))), ((q 5), .inl (cI, 10, .inl (nA eya_4))), ((q 6), .inl (cI, 11, .inl (nA pwa_5)))]) (w2 := (fun _ : Unit => [(h0, wMo q R C tn dn ag md (fb_ct (mE b) (R * C))), ((q 0), .inl (cI, 36, .inl (nA b))), ((q 2), .inl (cZ, 36, .inl (bA za_3))), ((q 5), .inl (cI, 10, .inl (nA eya_4))), ((q 6), .inl (cI, 11, .inl (nA pwa_5))), ((q 7), .inl (cZ, 59049, .inl (bA y1a_6))), ((q 8), .inl (cZ, 59049, .inl (bA y2a_7)))])) (va_runV (As := [.int (nI (cl * (3 ^ k))), .int (nI (3 - cl))]) (rest := []) ⟨hx, hb, hml, hown, hts⟩ (c_R_gets l D cI cJ cZ h0 q R C tn dn ag md (fb_ct (mE b) (R * C)) y1a_6 y2a_7 (cl * (3 ^ k)) (3 - cl) (by omega) (by omega)  H.size) (cwV 2 hts gX6_half_X6_gets rfl rfl rfl (by decide +kernel) ⟨Nat.le_of_ble_eq_true rfl, Nat.le_of_ble_eq_true rfl⟩) (kPV (ci := 6) (q0 := 0) (wc := [(h0, wMo q R C tn dn ag md (fb_ct (mE b) (R * C))), ((q 7), .inl (cZ, 59049, .inl (bA y1a_6))), ((q 8), .inl (cZ, 59049, .inl (bA y2a_7)))]) hK2 hP hD [0, 5, 6] rfl (by decide) rfl rfl) rfl rfl hl.1 rfl (lv_room (Nat.le_of_ble_eq_true rfl)) dX6_half_46 ⟨Nat.le_of_ble_eq_true rfl, Nat.le_of_ble_eq_true rfl⟩) hP hD hS hA [0, 5, 6] [1, 2, 3, 4] [4, 0, 1, 2, 3, 5, 6] rfl rfl (by decide) (by decide) (fun _ => rfl) (by decide) (fun r_12 u_12 H locs hw_12 hP hD hS => ?_)
          have hP : va_P D vwCl [(h0, wMo q R C tn dn ag md (fb_ct (mE b) (R * C))), ((q 0), .inl (cI, 36, .inl (nA b))), ((q 2), .inl (cZ, 36, .inl (bA za_3))), ((q 5), .inl (cI, 10, .inl (nA eya_4))), ((q 6), .inl (cI, 11, .inl (nA pwa_5))), ((q 7), .inl (cZ, 59049, .inl (bA y1a_6))), ((q 8), .inl (cZ, 59049, .inl (bA y2a_7)))] H := hP
          have hD : va_D A [(h0, wMo q R C tn dn ag md (fb_ct (mE b) (R * C))), ((q 0), .inl (cI, 36, .inl (nA b))), ((q 2), .inl (cZ, 36, .inl (bA za_3))), ((q 5), .inl (cI, 10, .inl (nA eya_4))), ((q 6), .inl (cI, 11, .inl (nA pwa_5))), ((q 7), .inl (cZ, 59049, .inl (bA y1a_6))), ((q 8), .inl (cZ, 59049, .inl (bA y2a_7)))] := hD
          rcases hw_12 with ⟨rfl, hw_12⟩ | ⟨rfl, hw_12⟩
          · have hp9 : wOwn (jl R C b eya_4 (fb_ct (mE b) (R * C)) cl x y) cl (fb_ct (mE b) (R * C)) 0 k = true := (wy_first hwy (by omega) hkl).symm.trans hw_12
            refine lv_if_ne (tgt := 55) hx hb dX6_half_49 (by decide) (fun c_49_13 => ?_) (fun c_49_13 => absurd c_49_13 (by decide))
            refine lv_iload hx hb dX6_half_55 (lv_at hl 5 rfl) ?_
            refine lv_iload hx hb dX6_half_57 (lv_at hl 4 rfl) ?_
            refine kw_icmp_ne (tgt := 70) hx hb dX6_half_59 (by decide) (by omega) (by omega) (fun c_59_14 => ?_) (fun c_59_14 => ?_)
            · have hne9 : n ≠ j := c_59_14
              refine lv_iinc (v := (nI (n + 1))) (lv' := [(5, .int (nI (n + 1))), (0, .ref h0), (1, .int (nI cl)), (2, .int (nI x)), (3, .int (nI y)), (4, .int (nI j)), (6, .int (nI k))]) hx hb dX6_half_70 hl (k := 5) rfl (k_inc _ 1) (by decide) rfl (fun ls hl => ?_)
              refine lv_iinc (v := (nI (k + 1))) (lv' := [(6, .int (nI (k + 1))), (5, .int (nI (n + 1))), (0, .ref h0), (1, .int (nI cl)), (2, .int (nI x)), (3, .int (nI y)), (4, .int (nI j))]) hx hb dX6_half_73 hl (k := 6) rfl (k_inc _ 1) (by decide) rfl (fun ls hl => ?_)
              refine lv_goto (tgt := 24) hx hb dX6_half_76 (by decide) ?_
              exact ih_24 ((n + 1), (k + 1)) _ _ _ (by show (fb_ct (mE b) (R * C)) - (k + 1) < (fb_ct (mE b) (R * C)) - k; omega) ⟨hP, hD, hS, lv_sub hl [2, 3, 4, 5, 6, 1, 0] rfl, by omega, by rw [ct_1 hp9, ← hn9], by omega⟩
            · have heq9 : n = j := c_59_14
              refine lv_aload_n hx hb dX6_half_62 rfl (lv_at hl 0 rfl) ?_
              refine va_get (D := D) (ci := 6) (v := .ref (q 5)) (C := RX6) (T := TX6) (N := 17) hx hb hts kiX6_half_X6 hown hK hP 0 rfl rfl 12 (by decide) (hts (.fieldLink RX6 40 "TwoBanksModel" "empty" "[I") (List.mem_of_getElem? (i := 3) rfl)) (fun _ h9 => h9) rfl dX6_half_63 ?_
              refine lv_iload hx hb dX6_half_66 (lv_at hl 6 rfl) ?_
              refine va_iald hx hb hK hP 3 0 rfl rfl (vp_in_nI (by omega) (by omega)) dX6_half_68 ?_
              refine k_toi (y := nI (eya_4 k)) (congrArg (nA eya_4) (nI_clamp (by omega))) ?_
              exact W.iret (v := (nI (eya_4 k))) hx hb hr (fun t ht hW => ⟨⟨(nI (eya_4 k)), ((fb_ct (mE b) (R * C)), za_3, eya_4, pwa_5, y1a_6, y2a_7), rfl, Or.inr ⟨cl, x, y, eya_4, j, hok9, ⟨hj9, rfl⟩, hey9, Or.inr ⟨hl1, k, hkl, hp9, by rw [← hn9]; exact heq9, rfl⟩⟩, by rw [ht]; exact hP, hD⟩, hS.F ht⟩) hS.2.2 dX6_half_69
          · have hp9 : wOwn (jl R C b eya_4 (fb_ct (mE b) (R * C)) cl x y) cl (fb_ct (mE b) (R * C)) 0 k = false := (wy_first hwy (by omega) hkl).symm.trans hw_12
            refine lv_if_ne (tgt := 55) hx hb dX6_half_49 (by decide) (fun c_49_15 => absurd c_49_15 (by decide)) (fun c_49_15 => ?_)
            refine lv_goto (tgt := 73) hx hb dX6_half_52 (by decide) ?_
            refine lv_iinc (v := (nI (k + 1))) (lv' := [(6, .int (nI (k + 1))), (0, .ref h0), (1, .int (nI cl)), (2, .int (nI x)), (3, .int (nI y)), (4, .int (nI j)), (5, .int (nI n))]) hx hb dX6_half_73 hl (k := 6) rfl (k_inc _ 1) (by decide) rfl (fun ls hl => ?_)
            refine lv_goto (tgt := 24) hx hb dX6_half_76 (by decide) ?_
            exact ih_24 (n, (k + 1)) _ _ _ (by show (fb_ct (mE b) (R * C)) - (k + 1) < (fb_ct (mE b) (R * C)) - k; omega) ⟨hP, hD, hS, lv_sub hl [1, 2, 3, 4, 5, 6, 0] rfl, by omega, by rw [ct_0 hp9]; exact hn9, hnj⟩
      · have hl1 := c_13_10
        refine lv_iconst (v := (-1)) hx hb dX6_half_16 (by decide) ?_
        exact W.iret (v := (-1)) hx hb hr (fun t ht hW => ⟨⟨(-1), ((fb_ct (mE b) (R * C)), za_3, eya_4, pwa_5, y1a_6, y2a_7), rfl, Or.inr ⟨cl, x, y, eya_4, j, hok9, ⟨hj9, rfl⟩, hey9, Or.inl ⟨rfl, Or.inl hl1⟩⟩, by rw [ht]; exact hP, hD⟩, hS.F ht⟩) hS.2.2 dX6_half_17
