/-! the empty fields, in order -/
def mE (b : Nat → Nat) (x : Nat) : Bool := decide (b x = 0)
def eyP (b : Nat → Nat) (f : Nat) (ey : Nat → Nat) : Prop := ∀ x, x < f → b x = 0 → fb_ct (mE b) x < 10 → ey (fb_ct (mE b) x) = x
theorem eyP_n {b : Nat → Nat} {f : Nat} {ey : Nat → Nat} (h : eyP b f ey) (hb : ¬ b f = 0) : eyP b (f + 1) ey := fun x hx hb0 hl => by
  rcases Nat.eq_or_lt_of_le (Nat.le_of_lt_succ hx) with e | e
  · rw [e] at hb0; exact absurd hb0 hb
  · exact h x e hb0 hl
theorem eyP_y {b : Nat → Nat} {f n : Nat} {ey : Nat → Nat} (h : eyP b f ey) (hn : n = fb_ct (mE b) f) (_hb : b f = 0) : eyP b (f + 1) (uN ey n f) := fun x hx hb0 hl => by
  rcases Nat.eq_or_lt_of_le (Nat.le_of_lt_succ hx) with e | e
  · rw [e, ← hn, uN_s]
  · have hx1 : fb_ct (mE b) (x + 1) = fb_ct (mE b) x + 1 := ct_1 (decide_eq_true hb0)
    have hm : fb_ct (mE b) x + 1 ≤ fb_ct (mE b) f := by rw [← hx1]; exact fb_ct_mono (mE b) e
    have hne : fb_ct (mE b) x ≠ n := by rw [hn]; clear hx1; omega
    rw [uN_n hne]
    exact h x e hb0 hl
theorem eyP_o {b : Nat → Nat} {f : Nat} {ey : Nat → Nat} (h : eyP b f ey) (hn : 10 ≤ fb_ct (mE b) f) : eyP b (f + 1) ey := fun x hx hb0 hl => by
  rcases Nat.eq_or_lt_of_le (Nat.le_of_lt_succ hx) with e | e
  · rw [e] at hl; omega
  · exact h x e hb0 hl
theorem pw_put {k : Nat} {pw : Nat → Nat} (h : ∀ i, i < k → pw i = 3 ^ i) (hk : 0 < k) : ∀ i, i < k + 1 → uN pw k (3 * pw (k - 1)) i = 3 ^ i := fun i hi => by
  rcases Nat.eq_or_lt_of_le (Nat.le_of_lt_succ hi) with e | e
  · rw [e, uN_s, h (k - 1) (by omega), ← Nat.pow_succ', show (k - 1).succ = k by omega]
  · rw [uN_n (by omega)]; exact h i e
theorem pw_1st {pw : Nat → Nat} : ∀ i, i < 1 → uN pw 0 1 i = 3 ^ i := fun i hi => by
  rw [show i = 0 by omega, uN_s]
theorem gt_or {a v : Bool} (h : a = v) : (nI v.toNat = nI 1 ∧ a = true) ∨ (nI v.toNat = nI 0 ∧ a = false) := by
  subst h
  cases a
  · exact Or.inr ⟨rfl, rfl⟩
  · exact Or.inl ⟨rfl, rfl⟩
theorem kz_bA {v : Bool} : narrow .boolean (.int (nI v.toNat)) = .int (nI v.toNat) := by cases v <;> decide
theorem kiX6_opens_X6 : ∀ w ∈ u_ws RX6 TX6 17, w ∈ wsX6_opens := fun w h => List.mem_cons_of_mem _ (List.mem_append_right _ h)
set_option maxHeartbeats 4000000 in
set_option maxRecDepth 100000 in
theorem c_R_opens (l : Launch) (D : va_G) (cI cJ cZ : ClassId) (h0 : Nat) (q : Nat → Nat) (R C tn dn ag md em : Nat) (b ey pw : Nat → Nat) (hR1 : 1 ≤ R) (hR2 : R ≤ 6) (hC1 : 1 ≤ C) (hC2 : C ≤ 6) (hRC : R * C ≤ 36) (hbv : ∀ f, f < R * C → b f ≤ 2) (sz : Nat) : kMI l yX6_opens wsX6_opens 1 20 D cI cJ cZ [.ref h0] [(h0, wMo q R C tn dn ag md em), ((q 0), .inl (cI, 36, .inl (nA b))), ((q 5), .inl (cI, 10, .inl (nA ey))), ((q 6), .inl (cI, 11, .inl (nA pw)))] sz (fun r (u : (Nat → Nat) × (Nat → Nat)) => ((r = nI 1 ∧ (fb_ct (mE b) (R * C)) ≤ 10) ∨ (r = nI 0 ∧ 10 < (fb_ct (mE b) (R * C)))) ∧ eyP b (R * C) u.1 ∧ ∀ i, i < 11 → u.2 i = 3 ^ i) (fun u : (Nat → Nat) × (Nat → Nat) => match u with | (eya, pwa) => [(h0, wMo q R C tn dn ag md (fb_ct (mE b) (R * C))), ((q 0), .inl (cI, 36, .inl (nA b))), ((q 5), .inl (cI, 10, .inl (nA eya))), ((q 6), .inl (cI, 11, .inl (nA pwa)))]) := by
  refine Met.ofW (cc := cX6_opens) (maxL := 3) (ret := (some .boolean)) (by decide) rfl ?_
  intro p e s m args below meth c s₁ B hml hv
  obtain ⟨rfl, hsz, hP, ⟨hK, hN⟩, hD0⟩ := hv
  have hx := B.exec
  have hb := B.bytes
  have hr := B.returns
  have hts := atoms_spec (ws := wsX6_opens) B.pre
  have hown : s.vm.findClass RX6 = some m.cls := findClass_of_methodNamed B.named
  have hlocks := B.notSynchronized
  subst hsz
  have hD := hD0.self (sz := s.heap.size)
  generalize hAe : va_A [(h0, wMo q R C tn dn ag md em), ((q 0), .inl (cI, 36, .inl (nA b))), ((q 5), .inl (cI, 10, .inl (nA ey))), ((q 6), .inl (cI, 11, .inl (nA pw)))] s.heap.size = A at hD ⊢
  have hA : ∀ q : Nat, s.heap.size ≤ q → A q := fun q h => by rw [← hAe]; exact Or.inr h
  have hS : va_S A s.heap s.heap [] := va_S.rf
  have hl := lv_entry ([.ref h0]) (n := 3) (Nat.le_of_ble_eq_true rfl)
  rw [lg_entry_eq]
  generalize (lg_sl ([.ref h0]) ++ List.replicate (3 - (lg_sl ([.ref h0])).length) Slot.unset).toArray = ls at hl ⊢
  have hl : lv_has ls 3 [(0, .ref h0)] := hl
  have hK2 : kK D cI cJ cZ s := ⟨hK, hN⟩
  clear hD0
  refine lv_aload_n hx hb dX6_opens_0 rfl (lv_at hl 0 rfl) ?_
  refine lv_iconst (v := (nI 0)) hx hb dX6_opens_1 (by decide) ?_
  refine va_put (D := D) (ci := 6) (v := .int (nI 0)) (ty := .int) (C := RX6) (T := TX6) (N := 17) hx hb hts kiX6_opens_X6 tyX6 tyX6_ok nmX6 hown hK hP hD hS 0 rfl rfl 11 (by decide) (hts (.fieldLink RX6 130 "TwoBanksModel" "empties" "I") (List.mem_of_getElem? (i := 1) rfl)) (fun _ h9 => h9) rfl  (by decide +kernel) rfl rfl (Nat.le_of_ble_eq_true rfl) dX6_opens_2 (fun H locs hP hD hS => ?_)
  have hP : va_P D vwCl [(h0, .inr (6, [.int (nI R), .int (nI C), .int (nI tn), .ref (q 0), .int (nI dn), .int (nI ag), .ref (q 1), .int (nI md), .ref (q 2), .ref (q 3), .ref (q 4), .int (nI 0), .ref (q 5), .ref (q 6), .ref (q 7), .ref (q 8), .ref (q 9)])), ((q 0), .inl (cI, 36, .inl (nA b))), ((q 5), .inl (cI, 10, .inl (nA ey))), ((q 6), .inl (cI, 11, .inl (nA pw)))] H := hP
  have hD : va_D A [(h0, .inr (6, [.int (nI R), .int (nI C), .int (nI tn), .ref (q 0), .int (nI dn), .int (nI ag), .ref (q 1), .int (nI md), .ref (q 2), .ref (q 3), .ref (q 4), .int (nI 0), .ref (q 5), .ref (q 6), .ref (q 7), .ref (q 8), .ref (q 9)])), ((q 0), .inl (cI, 36, .inl (nA b))), ((q 5), .inl (cI, 10, .inl (nA ey))), ((q 6), .inl (cI, 11, .inl (nA pw)))] := hD
  refine lv_iconst (v := (nI 0)) hx hb dX6_opens_5 (by decide) ?_
  refine lv_istore_n (lv' := [(1, .int (nI 0)), (0, .ref h0)]) hx hb dX6_opens_6 rfl hl (by decide) rfl (fun ls hl => ?_)
  refine lv_iconst (v := (nI 0)) hx hb dX6_opens_7 (by decide) ?_
  refine lv_istore_n (lv' := [(2, .int (nI 0)), (1, .int (nI 0)), (0, .ref h0)]) hx hb dX6_opens_8 rfl hl (by decide) rfl (fun ls hl => ?_)
  refine kw_loop (σ := Nat × Nat × (Nat → Nat)) (fun zz H locs ls => match zz with | (n, f, eyf) => va_P D vwCl [(h0, .inr (6, [.int (nI R), .int (nI C), .int (nI tn), .ref (q 0), .int (nI dn), .int (nI ag), .ref (q 1), .int (nI md), .ref (q 2), .ref (q 3), .ref (q 4), .int (nI 0), .ref (q 5), .ref (q 6), .ref (q 7), .ref (q 8), .ref (q 9)])), ((q 0), .inl (cI, 36, .inl (nA b))), ((q 5), .inl (cI, 10, .inl (nA eyf))), ((q 6), .inl (cI, 11, .inl (nA pw)))] H ∧ va_D A [(h0, .inr (6, [.int (nI R), .int (nI C), .int (nI tn), .ref (q 0), .int (nI dn), .int (nI ag), .ref (q 1), .int (nI md), .ref (q 2), .ref (q 3), .ref (q 4), .int (nI 0), .ref (q 5), .ref (q 6), .ref (q 7), .ref (q 8), .ref (q 9)])), ((q 0), .inl (cI, 36, .inl (nA b))), ((q 5), .inl (cI, 10, .inl (nA eyf))), ((q 6), .inl (cI, 11, .inl (nA pw)))] ∧ va_S A s.heap H locs ∧ lv_has ls 3 [(0, .ref h0), (1, .int (nI n)), (2, .int (nI f))] ∧ (f ≤ R * C) ∧ (n = fb_ct (mE b) f) ∧ (eyP b f eyf)) (fun zz => match zz with | (n, f, eyf) => R * C - f) (0, 0, ey) ⟨hP, hD, hS, lv_sub hl [2, 1, 0] rfl, Nat.zero_le _, rfl, fun x hx => absurd hx (Nat.not_lt_zero _)⟩ ?_
  clear hP hD hS hl
  rintro ⟨n, f, eyf⟩ H locs ls ⟨hP, hD, hS, hl, hf9, hn9, he9⟩ ih_9
  have hP : va_P D vwCl [(h0, .inr (6, [.int (nI R), .int (nI C), .int (nI tn), .ref (q 0), .int (nI dn), .int (nI ag), .ref (q 1), .int (nI md), .ref (q 2), .ref (q 3), .ref (q 4), .int (nI 0), .ref (q 5), .ref (q 6), .ref (q 7), .ref (q 8), .ref (q 9)])), ((q 0), .inl (cI, 36, .inl (nA b))), ((q 5), .inl (cI, 10, .inl (nA eyf))), ((q 6), .inl (cI, 11, .inl (nA pw)))] H := hP
  have hD : va_D A [(h0, .inr (6, [.int (nI R), .int (nI C), .int (nI tn), .ref (q 0), .int (nI dn), .int (nI ag), .ref (q 1), .int (nI md), .ref (q 2), .ref (q 3), .ref (q 4), .int (nI 0), .ref (q 5), .ref (q 6), .ref (q 7), .ref (q 8), .ref (q 9)])), ((q 0), .inl (cI, 36, .inl (nA b))), ((q 5), .inl (cI, 10, .inl (nA eyf))), ((q 6), .inl (cI, 11, .inl (nA pw)))] := hD
  have hl : lv_has ls 3 [(0, .ref h0), (1, .int (nI n)), (2, .int (nI f))] := hl
  have hnl := fb_ct_le (mE b) f
  have hf9 : f ≤ R * C := hf9
  have hn9 : n = fb_ct (mE b) f := hn9
  have he9 : eyP b f eyf := he9
  refine lv_iload_n hx hb dX6_opens_9 rfl (lv_at hl 2 rfl) ?_
  refine lv_aload_n hx hb dX6_opens_10 rfl (lv_at hl 0 rfl) ?_
  refine k_calli (wr := [((q 0), .inl (cI, 36, .inl (nA b))), ((q 5), .inl (cI, 10, .inl (nA eyf))), ((q 6), .inl (cI, 11, .inl (nA pw)))]) (w2 := (fun _ : Unit => [(h0, wMo q R C tn dn ag md 0), ((q 0), .inl (cI, 36, .inl (nA b))), ((q 5), .inl (cI, 10, .inl (nA eyf))), ((q 6), .inl (cI, 11, .inl (nA pw)))])) (va_runV (As := []) (rest := [.int (nI f)]) ⟨hx, hb, hml, hown, hts⟩ (c_R_fields l D cI cJ cZ h0 q R C tn dn ag md 0  H.size) (cwV 0 hts gX6_opens_X6_fields rfl rfl rfl (by decide +kernel) ⟨Nat.le_of_ble_eq_true rfl, Nat.le_of_ble_eq_true rfl⟩) (kPV (ci := 6) (q0 := 0) (wc := [(h0, .inr (6, [.int (nI R), .int (nI C), .int (nI tn), .ref (q 0), .int (nI dn), .int (nI ag), .ref (q 1), .int (nI md), .ref (q 2), .ref (q 3), .ref (q 4), .int (nI 0), .ref (q 5), .ref (q 6), .ref (q 7), .ref (q 8), .ref (q 9)]))]) hK2 hP hD [0] rfl (by decide) rfl rfl) rfl rfl hl.1 rfl (lv_room (Nat.le_of_ble_eq_true rfl)) dX6_opens_11 ⟨Nat.le_of_ble_eq_true rfl, Nat.le_of_ble_eq_true rfl⟩) hP hD hS hA [0] [1, 2, 3] [3, 0, 1, 2] rfl rfl (by decide) (by decide) (fun _ => rfl) (by decide) (fun r_1 u_1 H locs hw_1 hP hD hS => ?_)
  have hP : va_P D vwCl [(h0, wMo q R C tn dn ag md 0), ((q 0), .inl (cI, 36, .inl (nA b))), ((q 5), .inl (cI, 10, .inl (nA eyf))), ((q 6), .inl (cI, 11, .inl (nA pw)))] H := hP
  have hD : va_D A [(h0, wMo q R C tn dn ag md 0), ((q 0), .inl (cI, 36, .inl (nA b))), ((q 5), .inl (cI, 10, .inl (nA eyf))), ((q 6), .inl (cI, 11, .inl (nA pw)))] := hD
  subst hw_1
  refine kw_icmp_ge (tgt := 51) hx hb dX6_opens_14 (by decide) (by omega) (by omega) (fun c_14_2 => ?_) (fun c_14_2 => ?_)
  · have hnE : n = (fb_ct (mE b) (R * C)) := by rw [hn9, show f = R * C by omega]
    have he8 : eyP b (R * C) eyf := (by have e9 : f = R * C := (by omega); rw [e9] at he9; exact he9)
    have hnl2 := fb_ct_le (mE b) (R * C)
    have hl : lv_has ls 3 [(0, .ref h0), (1, .int (nI (fb_ct (mE b) (R * C)))), (2, .int (nI f))] := by rw [← hnE]; exact hl
    refine lv_aload_n hx hb dX6_opens_51 rfl (lv_at hl 0 rfl) ?_
    refine lv_iload_n hx hb dX6_opens_52 rfl (lv_at hl 1 rfl) ?_
    refine va_put (D := D) (ci := 6) (v := .int (nI (fb_ct (mE b) (R * C)))) (ty := .int) (C := RX6) (T := TX6) (N := 17) hx hb hts kiX6_opens_X6 tyX6 tyX6_ok nmX6 hown hK hP hD hS 0 rfl rfl 11 (by decide) (hts (.fieldLink RX6 130 "TwoBanksModel" "empties" "I") (List.mem_of_getElem? (i := 1) rfl)) (fun _ h9 => h9) rfl  (by decide +kernel) rfl rfl (Nat.le_of_ble_eq_true rfl) dX6_opens_53 (fun H locs hP hD hS => ?_)
    have hP : va_P D vwCl [(h0, .inr (6, [.int (nI R), .int (nI C), .int (nI tn), .ref (q 0), .int (nI dn), .int (nI ag), .ref (q 1), .int (nI md), .ref (q 2), .ref (q 3), .ref (q 4), .int (nI (fb_ct (mE b) (R * C))), .ref (q 5), .ref (q 6), .ref (q 7), .ref (q 8), .ref (q 9)])), ((q 0), .inl (cI, 36, .inl (nA b))), ((q 5), .inl (cI, 10, .inl (nA eyf))), ((q 6), .inl (cI, 11, .inl (nA pw)))] H := hP
    have hD : va_D A [(h0, .inr (6, [.int (nI R), .int (nI C), .int (nI tn), .ref (q 0), .int (nI dn), .int (nI ag), .ref (q 1), .int (nI md), .ref (q 2), .ref (q 3), .ref (q 4), .int (nI (fb_ct (mE b) (R * C))), .ref (q 5), .ref (q 6), .ref (q 7), .ref (q 8), .ref (q 9)])), ((q 0), .inl (cI, 36, .inl (nA b))), ((q 5), .inl (cI, 10, .inl (nA eyf))), ((q 6), .inl (cI, 11, .inl (nA pw)))] := hD
    refine lv_aload_n hx hb dX6_opens_56 rfl (lv_at hl 0 rfl) ?_
    refine va_get (D := D) (ci := 6) (v := .ref (q 6)) (C := RX6) (T := TX6) (N := 17) hx hb hts kiX6_opens_X6 hown hK hP 0 rfl rfl 13 (by decide) (hts (.fieldLink RX6 43 "TwoBanksModel" "power" "[I") (List.mem_of_getElem? (i := 4) rfl)) (fun _ h9 => h9) rfl dX6_opens_57 ?_
    refine lv_iconst (v := (nI 0)) hx hb dX6_opens_60 (by decide) ?_
    refine lv_iconst (v := (nI 1)) hx hb dX6_opens_61 (by decide) ?_
    refine va_iast hx hb hK hP hD hS 3 0 rfl rfl (vp_in_nI (by omega) (by omega)) dX6_opens_62 (fun H locs hP hD hS => ?_)
    rw [nI_clamp (by omega)] at hP hD
    rw [nA_upd] at hP hD
    have hP : va_P D vwCl [(h0, .inr (6, [.int (nI R), .int (nI C), .int (nI tn), .ref (q 0), .int (nI dn), .int (nI ag), .ref (q 1), .int (nI md), .ref (q 2), .ref (q 3), .ref (q 4), .int (nI (fb_ct (mE b) (R * C))), .ref (q 5), .ref (q 6), .ref (q 7), .ref (q 8), .ref (q 9)])), ((q 0), .inl (cI, 36, .inl (nA b))), ((q 5), .inl (cI, 10, .inl (nA eyf))), ((q 6), .inl (cI, 11, .inl (nA (uN pw 0 1))))] H := hP
    have hD : va_D A [(h0, .inr (6, [.int (nI R), .int (nI C), .int (nI tn), .ref (q 0), .int (nI dn), .int (nI ag), .ref (q 1), .int (nI md), .ref (q 2), .ref (q 3), .ref (q 4), .int (nI (fb_ct (mE b) (R * C))), .ref (q 5), .ref (q 6), .ref (q 7), .ref (q 8), .ref (q 9)])), ((q 0), .inl (cI, 36, .inl (nA b))), ((q 5), .inl (cI, 10, .inl (nA eyf))), ((q 6), .inl (cI, 11, .inl (nA (uN pw 0 1))))] := hD
    refine lv_iconst (v := (nI 1)) hx hb dX6_opens_63 (by decide) ?_
    refine lv_istore_n (lv' := [(2, .int (nI 1)), (0, .ref h0), (1, .int (nI (fb_ct (mE b) (R * C))))]) hx hb dX6_opens_64 rfl hl (by decide) rfl (fun ls hl => ?_)
    refine kw_loop (σ := Nat × (Nat → Nat)) (fun zz H locs ls => match zz with | (k, pwk) => va_P D vwCl [(h0, .inr (6, [.int (nI R), .int (nI C), .int (nI tn), .ref (q 0), .int (nI dn), .int (nI ag), .ref (q 1), .int (nI md), .ref (q 2), .ref (q 3), .ref (q 4), .int (nI (fb_ct (mE b) (R * C))), .ref (q 5), .ref (q 6), .ref (q 7), .ref (q 8), .ref (q 9)])), ((q 0), .inl (cI, 36, .inl (nA b))), ((q 5), .inl (cI, 10, .inl (nA eyf))), ((q 6), .inl (cI, 11, .inl (nA pwk)))] H ∧ va_D A [(h0, .inr (6, [.int (nI R), .int (nI C), .int (nI tn), .ref (q 0), .int (nI dn), .int (nI ag), .ref (q 1), .int (nI md), .ref (q 2), .ref (q 3), .ref (q 4), .int (nI (fb_ct (mE b) (R * C))), .ref (q 5), .ref (q 6), .ref (q 7), .ref (q 8), .ref (q 9)])), ((q 0), .inl (cI, 36, .inl (nA b))), ((q 5), .inl (cI, 10, .inl (nA eyf))), ((q 6), .inl (cI, 11, .inl (nA pwk)))] ∧ va_S A s.heap H locs ∧ lv_has ls 3 [(0, .ref h0), (1, .int (nI (fb_ct (mE b) (R * C)))), (2, .int (nI k))] ∧ (1 ≤ k ∧ k ≤ 11) ∧ (∀ i, i < k → pwk i = 3 ^ i)) (fun zz => match zz with | (k, pwk) => 11 - k) (1, (uN pw 0 1)) ⟨hP, hD, hS, lv_sub hl [1, 2, 0] rfl, by decide, pw_1st⟩ ?_
    clear hP hD hS hl
    rintro ⟨k, pwk⟩ H locs ls ⟨hP, hD, hS, hl, hk9, hp9⟩ ih_65
    have hP : va_P D vwCl [(h0, .inr (6, [.int (nI R), .int (nI C), .int (nI tn), .ref (q 0), .int (nI dn), .int (nI ag), .ref (q 1), .int (nI md), .ref (q 2), .ref (q 3), .ref (q 4), .int (nI (fb_ct (mE b) (R * C))), .ref (q 5), .ref (q 6), .ref (q 7), .ref (q 8), .ref (q 9)])), ((q 0), .inl (cI, 36, .inl (nA b))), ((q 5), .inl (cI, 10, .inl (nA eyf))), ((q 6), .inl (cI, 11, .inl (nA pwk)))] H := hP
    have hD : va_D A [(h0, .inr (6, [.int (nI R), .int (nI C), .int (nI tn), .ref (q 0), .int (nI dn), .int (nI ag), .ref (q 1), .int (nI md), .ref (q 2), .ref (q 3), .ref (q 4), .int (nI (fb_ct (mE b) (R * C))), .ref (q 5), .ref (q 6), .ref (q 7), .ref (q 8), .ref (q 9)])), ((q 0), .inl (cI, 36, .inl (nA b))), ((q 5), .inl (cI, 10, .inl (nA eyf))), ((q 6), .inl (cI, 11, .inl (nA pwk)))] := hD
    have hl : lv_has ls 3 [(0, .ref h0), (1, .int (nI (fb_ct (mE b) (R * C)))), (2, .int (nI k))] := hl
    have hpk := hp9 (k - 1) (by omega)
    have hpb : 3 ^ (k - 1) ≤ 3 ^ 10 := Nat.pow_le_pow_right (by decide) (by omega)
    have hk9 : 1 ≤ k ∧ k ≤ 11 := hk9
    have hp9 : ∀ i, i < k → pwk i = 3 ^ i := hp9
    refine lv_iload_n hx hb dX6_opens_65 rfl (lv_at hl 2 rfl) ?_
    refine lv_bipush (v := (nI 10)) hx hb dX6_opens_66 (by decide) ?_
    refine kw_icmp_gt (tgt := 93) hx hb dX6_opens_68 (by decide) (by omega) (by omega) (fun c_68_3 => ?_) (fun c_68_3 => ?_)
    · refine lv_iload_n hx hb dX6_opens_93 rfl (lv_at hl 1 rfl) ?_
      refine lv_bipush (v := (nI 10)) hx hb dX6_opens_94 (by decide) ?_
      refine kw_icmp_gt (tgt := 103) hx hb dX6_opens_96 (by decide) (by omega) (by omega) (fun c_96_4 => ?_) (fun c_96_4 => ?_)
      · refine lv_iconst (v := (nI 0)) hx hb dX6_opens_103 (by decide) ?_
        exact W.zret (v := (nI 0)) hx hb hr (by first | decide +kernel | assumption | exact kz_bA | exact kz_narr (by first | assumption | omega)) (fun t ht hW => ⟨⟨(nI 0), (eyf, pwk), rfl, ⟨Or.inr ⟨rfl, by omega⟩, he8, fun i hi => hp9 i (by omega)⟩, by rw [ht]; exact hP, hD⟩, hS.F ht⟩) hS.2.2 dX6_opens_104
      · refine lv_iconst (v := (nI 1)) hx hb dX6_opens_99 (by decide) ?_
        refine lv_goto (tgt := 104) hx hb dX6_opens_100 (by decide) ?_
        exact W.zret (v := (nI 1)) hx hb hr (by first | decide +kernel | assumption | exact kz_bA | exact kz_narr (by first | assumption | omega)) (fun t ht hW => ⟨⟨(nI 1), (eyf, pwk), rfl, ⟨Or.inl ⟨rfl, by omega⟩, he8, fun i hi => hp9 i (by omega)⟩, by rw [ht]; exact hP, hD⟩, hS.F ht⟩) hS.2.2 dX6_opens_104
    · refine lv_aload_n hx hb dX6_opens_71 rfl (lv_at hl 0 rfl) ?_
      refine va_get (D := D) (ci := 6) (v := .ref (q 6)) (C := RX6) (T := TX6) (N := 17) hx hb hts kiX6_opens_X6 hown hK hP 0 rfl rfl 13 (by decide) (hts (.fieldLink RX6 43 "TwoBanksModel" "power" "[I") (List.mem_of_getElem? (i := 4) rfl)) (fun _ h9 => h9) rfl dX6_opens_72 ?_
      refine lv_iload_n hx hb dX6_opens_75 rfl (lv_at hl 2 rfl) ?_
      refine lv_iconst (v := (nI 3)) hx hb dX6_opens_76 (by decide) ?_
      refine lv_aload_n hx hb dX6_opens_77 rfl (lv_at hl 0 rfl) ?_
      refine va_get (D := D) (ci := 6) (v := .ref (q 6)) (C := RX6) (T := TX6) (N := 17) hx hb hts kiX6_opens_X6 hown hK hP 0 rfl rfl 13 (by decide) (hts (.fieldLink RX6 43 "TwoBanksModel" "power" "[I") (List.mem_of_getElem? (i := 4) rfl)) (fun _ h9 => h9) rfl dX6_opens_78 ?_
      refine lv_iload_n hx hb dX6_opens_81 rfl (lv_at hl 2 rfl) ?_
      refine lv_iconst (v := (nI 1)) hx hb dX6_opens_82 (by decide) ?_
      refine lv_isub hx hb dX6_opens_83 ?_
      refine k_toi (y := nI (k - 1)) (pk_sub (by omega)) ?_
      refine va_iald hx hb hK hP 3 0 rfl rfl (vp_in_nI (by omega) (by omega)) dX6_opens_84 ?_
      refine k_toi (y := nI (pwk (k - 1))) (congrArg (nA pwk) (nI_clamp (by omega))) ?_
      refine lv_imul hx hb dX6_opens_85 ?_
      refine k_toi (y := nI (3 * (pwk (k - 1)))) (pk_mul _ _) ?_
      refine va_iast hx hb hK hP hD hS 3 0 rfl rfl (vp_in_nI (by omega) (by omega)) dX6_opens_86 (fun H locs hP hD hS => ?_)
      rw [nI_clamp (by omega)] at hP hD
      rw [nA_upd] at hP hD
      have hP : va_P D vwCl [(h0, .inr (6, [.int (nI R), .int (nI C), .int (nI tn), .ref (q 0), .int (nI dn), .int (nI ag), .ref (q 1), .int (nI md), .ref (q 2), .ref (q 3), .ref (q 4), .int (nI (fb_ct (mE b) (R * C))), .ref (q 5), .ref (q 6), .ref (q 7), .ref (q 8), .ref (q 9)])), ((q 0), .inl (cI, 36, .inl (nA b))), ((q 5), .inl (cI, 10, .inl (nA eyf))), ((q 6), .inl (cI, 11, .inl (nA (uN pwk k (3 * (pwk (k - 1)))))))] H := hP
      have hD : va_D A [(h0, .inr (6, [.int (nI R), .int (nI C), .int (nI tn), .ref (q 0), .int (nI dn), .int (nI ag), .ref (q 1), .int (nI md), .ref (q 2), .ref (q 3), .ref (q 4), .int (nI (fb_ct (mE b) (R * C))), .ref (q 5), .ref (q 6), .ref (q 7), .ref (q 8), .ref (q 9)])), ((q 0), .inl (cI, 36, .inl (nA b))), ((q 5), .inl (cI, 10, .inl (nA eyf))), ((q 6), .inl (cI, 11, .inl (nA (uN pwk k (3 * (pwk (k - 1)))))))] := hD
      refine lv_iinc (v := (nI (k + 1))) (lv' := [(2, .int (nI (k + 1))), (0, .ref h0), (1, .int (nI (fb_ct (mE b) (R * C))))]) hx hb dX6_opens_87 hl (k := 2) rfl (k_inc _ 1) (by decide) rfl (fun ls hl => ?_)
      refine lv_goto (tgt := 65) hx hb dX6_opens_90 (by decide) ?_
      exact ih_65 ((k + 1), (uN pwk k (3 * (pwk (k - 1))))) _ _ _ (by show 11 - (k + 1) < 11 - k; omega) ⟨hP, hD, hS, lv_sub hl [1, 2, 0] rfl, by omega, pw_put hp9 (by omega)⟩
  · have hfl : f < R * C := c_14_2
    have hbf := hbv f hfl
    refine lv_aload_n hx hb dX6_opens_17 rfl (lv_at hl 0 rfl) ?_
    refine va_get (D := D) (ci := 6) (v := .ref (q 0)) (C := RX6) (T := TX6) (N := 17) hx hb hts kiX6_opens_X6 hown hK hP 0 rfl rfl 3 (by decide) (hts (.fieldLink RX6 19 "TwoBanksModel" "at" "[I") (List.mem_of_getElem? (i := 2) rfl)) (fun _ h9 => h9) rfl dX6_opens_18 ?_
    refine lv_iload_n hx hb dX6_opens_21 rfl (lv_at hl 2 rfl) ?_
    refine va_iald hx hb hK hP 1 0 rfl rfl (vp_in_nI (by omega) (by omega)) dX6_opens_22 ?_
    refine k_toi (y := nI (b f)) (congrArg (nA b) (nI_clamp (by omega))) ?_
    refine kw_if_eq (tgt := 29) hx hb dX6_opens_23 (by decide) (by omega) (fun c_23_5 => ?_) (fun c_23_5 => ?_)
    · have hb9 : b f = 0 := c_23_5
      refine lv_iload_n hx hb dX6_opens_29 rfl (lv_at hl 1 rfl) ?_
      refine lv_bipush (v := (nI 10)) hx hb dX6_opens_30 (by decide) ?_
      refine kw_icmp_ge (tgt := 42) hx hb dX6_opens_32 (by decide) (by omega) (by omega) (fun c_32_6 => ?_) (fun c_32_6 => ?_)
      · refine lv_iinc (v := (nI (n + 1))) (lv' := [(1, .int (nI (n + 1))), (0, .ref h0), (2, .int (nI f))]) hx hb dX6_opens_42 hl (k := 1) rfl (k_inc _ 1) (by decide) rfl (fun ls hl => ?_)
        refine lv_iinc (v := (nI (f + 1))) (lv' := [(2, .int (nI (f + 1))), (1, .int (nI (n + 1))), (0, .ref h0)]) hx hb dX6_opens_45 hl (k := 2) rfl (k_inc _ 1) (by decide) rfl (fun ls hl => ?_)
        refine lv_goto (tgt := 9) hx hb dX6_opens_48 (by decide) ?_
        exact ih_9 ((n + 1), (f + 1), eyf) _ _ _ (by show R * C - (f + 1) < R * C - f; omega) ⟨hP, hD, hS, lv_sub hl [2, 1, 0] rfl, by omega, by rw [ct_1 (decide_eq_true hb9), ← hn9], eyP_o he9 (by omega)⟩
      · refine lv_aload_n hx hb dX6_opens_35 rfl (lv_at hl 0 rfl) ?_
        refine va_get (D := D) (ci := 6) (v := .ref (q 5)) (C := RX6) (T := TX6) (N := 17) hx hb hts kiX6_opens_X6 hown hK hP 0 rfl rfl 12 (by decide) (hts (.fieldLink RX6 40 "TwoBanksModel" "empty" "[I") (List.mem_of_getElem? (i := 3) rfl)) (fun _ h9 => h9) rfl dX6_opens_36 ?_
        refine lv_iload_n hx hb dX6_opens_39 rfl (lv_at hl 1 rfl) ?_
        refine lv_iload_n hx hb dX6_opens_40 rfl (lv_at hl 2 rfl) ?_
        refine va_iast hx hb hK hP hD hS 2 0 rfl rfl (vp_in_nI (by omega) (by omega)) dX6_opens_41 (fun H locs hP hD hS => ?_)
        rw [nI_clamp (by omega)] at hP hD
        rw [nA_upd] at hP hD
        have hP : va_P D vwCl [(h0, wMo q R C tn dn ag md 0), ((q 0), .inl (cI, 36, .inl (nA b))), ((q 5), .inl (cI, 10, .inl (nA (uN eyf n f)))), ((q 6), .inl (cI, 11, .inl (nA pw)))] H := hP
        have hD : va_D A [(h0, wMo q R C tn dn ag md 0), ((q 0), .inl (cI, 36, .inl (nA b))), ((q 5), .inl (cI, 10, .inl (nA (uN eyf n f)))), ((q 6), .inl (cI, 11, .inl (nA pw)))] := hD
        refine lv_iinc (v := (nI (n + 1))) (lv' := [(1, .int (nI (n + 1))), (0, .ref h0), (2, .int (nI f))]) hx hb dX6_opens_42 hl (k := 1) rfl (k_inc _ 1) (by decide) rfl (fun ls hl => ?_)
        refine lv_iinc (v := (nI (f + 1))) (lv' := [(2, .int (nI (f + 1))), (1, .int (nI (n + 1))), (0, .ref h0)]) hx hb dX6_opens_45 hl (k := 2) rfl (k_inc _ 1) (by decide) rfl (fun ls hl => ?_)
        refine lv_goto (tgt := 9) hx hb dX6_opens_48 (by decide) ?_
        exact ih_9 ((n + 1), (f + 1), (uN eyf n f)) _ _ _ (by show R * C - (f + 1) < R * C - f; omega) ⟨hP, hD, hS, lv_sub hl [2, 1, 0] rfl, by omega, by rw [ct_1 (decide_eq_true hb9), ← hn9], eyP_y he9 hn9 hb9⟩
    · have hb9 : ¬ b f = 0 := by omega
      refine lv_goto (tgt := 45) hx hb dX6_opens_26 (by decide) ?_
      refine lv_iinc (v := (nI (f + 1))) (lv' := [(2, .int (nI (f + 1))), (0, .ref h0), (1, .int (nI n))]) hx hb dX6_opens_45 hl (k := 2) rfl (k_inc _ 1) (by decide) rfl (fun ls hl => ?_)
      refine lv_goto (tgt := 9) hx hb dX6_opens_48 (by decide) ?_
      exact ih_9 (n, (f + 1), eyf) _ _ _ (by show R * C - (f + 1) < R * C - f; omega) ⟨hP, hD, hS, lv_sub hl [1, 2, 0] rfl, by omega, by rw [ct_0 (decide_eq_false hb9)]; exact hn9, eyP_n he9 hb9⟩

theorem kiX6_gets_X6 : ∀ w ∈ u_ws RX6 TX6 17, w ∈ wsX6_gets := fun w h => List.mem_cons_of_mem _ (List.mem_append_right _ h)
set_option maxHeartbeats 4000000 in
set_option maxRecDepth 100000 in
theorem c_R_gets (l : Launch) (D : va_G) (cI cJ cZ : ClassId) (h0 : Nat) (q : Nat → Nat) (R C tn dn ag md em : Nat) (y1 y2 : Nat → Bool) (cd wh : Nat) (qcd : cd < 59049) (qwh : wh ≤ 2) (sz : Nat) : kMI l yX6_gets wsX6_gets 0 0 D cI cJ cZ [.ref h0, .int (nI cd), .int (nI wh)] [(h0, wMo q R C tn dn ag md em), ((q 7), .inl (cZ, 59049, .inl (bA y1))), ((q 8), .inl (cZ, 59049, .inl (bA y2)))] sz (fun r (_ : Unit) => (r = nI 1 ∧ (if wh = 1 then y1 cd else y2 cd) = true) ∨ (r = nI 0 ∧ (if wh = 1 then y1 cd else y2 cd) = false)) (fun _ : Unit => [(h0, wMo q R C tn dn ag md em), ((q 7), .inl (cZ, 59049, .inl (bA y1))), ((q 8), .inl (cZ, 59049, .inl (bA y2)))]) := by
  refine Met.ofW (cc := cX6_gets) (maxL := 3) (ret := (some .boolean)) (by decide) rfl ?_
  intro p e s m args below meth c s₁ B hml hv
  obtain ⟨rfl, hsz, hP, ⟨hK, hN⟩, hD0⟩ := hv
  have hx := B.exec
  have hb := B.bytes
  have hr := B.returns
  have hts := atoms_spec (ws := wsX6_gets) B.pre
  have hown : s.vm.findClass RX6 = some m.cls := findClass_of_methodNamed B.named
  have hlocks := B.notSynchronized
  subst hsz
  have hD := hD0.self (sz := s.heap.size)
  generalize hAe : va_A [(h0, wMo q R C tn dn ag md em), ((q 7), .inl (cZ, 59049, .inl (bA y1))), ((q 8), .inl (cZ, 59049, .inl (bA y2)))] s.heap.size = A at hD ⊢
  have hA : ∀ q : Nat, s.heap.size ≤ q → A q := fun q h => by rw [← hAe]; exact Or.inr h
  have hS : va_S A s.heap s.heap [] := va_S.rf
  have hl := lv_entry ([.ref h0, .int (nI cd), .int (nI wh)]) (n := 3) (Nat.le_of_ble_eq_true rfl)
  rw [lg_entry_eq]
  generalize (lg_sl ([.ref h0, .int (nI cd), .int (nI wh)]) ++ List.replicate (3 - (lg_sl ([.ref h0, .int (nI cd), .int (nI wh)])).length) Slot.unset).toArray = ls at hl ⊢
  have hl : lv_has ls 3 [(0, .ref h0), (1, .int (nI cd)), (2, .int (nI wh))] := hl
  have hK2 : kK D cI cJ cZ s := ⟨hK, hN⟩
  clear hD0
  refine lv_iload_n hx hb dX6_gets_0 rfl (lv_at hl 2 rfl) ?_
  refine lv_iconst (v := (nI 1)) hx hb dX6_gets_1 (by decide) ?_
  refine kw_icmp_ne (tgt := 14) hx hb dX6_gets_2 (by decide) (by omega) (by omega) (fun c_2_1 => ?_) (fun c_2_1 => ?_)
  · refine lv_aload_n hx hb dX6_gets_14 rfl (lv_at hl 0 rfl) ?_
    refine va_get (D := D) (ci := 6) (v := .ref (q 8)) (C := RX6) (T := TX6) (N := 17) hx hb hts kiX6_gets_X6 hown hK hP 0 rfl rfl 15 (by decide) (hts (.fieldLink RX6 50 "TwoBanksModel" "byTwo" "[Z") (List.mem_of_getElem? (i := 2) rfl)) (fun _ h9 => h9) rfl dX6_gets_15 ?_
    refine lv_iload_n hx hb dX6_gets_18 rfl (lv_at hl 1 rfl) ?_
    refine va_zald hx hb hK hP 2 2 rfl rfl (vp_in_nI (by omega) (by omega)) dX6_gets_19 ?_
    refine k_toi (y := nI ((y2 cd).toNat)) (congrArg (bA y2) (nI_clamp (by omega))) ?_
    exact W.zret (v := (nI ((y2 cd).toNat))) hx hb hr (by first | decide +kernel | assumption | exact kz_bA | exact kz_narr (by first | assumption | omega)) (fun t ht hW => ⟨⟨(nI ((y2 cd).toNat)), (), rfl, (gt_or (by first | exact if_pos (by assumption) | exact if_neg (by assumption))), by rw [ht]; exact hP, hD⟩, hS.F ht⟩) hS.2.2 dX6_gets_20
  · refine lv_aload_n hx hb dX6_gets_5 rfl (lv_at hl 0 rfl) ?_
    refine va_get (D := D) (ci := 6) (v := .ref (q 7)) (C := RX6) (T := TX6) (N := 17) hx hb hts kiX6_gets_X6 hown hK hP 0 rfl rfl 14 (by decide) (hts (.fieldLink RX6 47 "TwoBanksModel" "byOne" "[Z") (List.mem_of_getElem? (i := 1) rfl)) (fun _ h9 => h9) rfl dX6_gets_6 ?_
    refine lv_iload_n hx hb dX6_gets_9 rfl (lv_at hl 1 rfl) ?_
    refine va_zald hx hb hK hP 1 2 rfl rfl (vp_in_nI (by omega) (by omega)) dX6_gets_10 ?_
    refine k_toi (y := nI ((y1 cd).toNat)) (congrArg (bA y1) (nI_clamp (by omega))) ?_
    refine lv_goto (tgt := 20) hx hb dX6_gets_11 (by decide) ?_
    exact W.zret (v := (nI ((y1 cd).toNat))) hx hb hr (by first | decide +kernel | assumption | exact kz_bA | exact kz_narr (by first | assumption | omega)) (fun t ht hW => ⟨⟨(nI ((y1 cd).toNat)), (), rfl, (gt_or (by first | exact if_pos (by assumption) | exact if_neg (by assumption))), by rw [ht]; exact hP, hD⟩, hS.F ht⟩) hS.2.2 dX6_gets_20
