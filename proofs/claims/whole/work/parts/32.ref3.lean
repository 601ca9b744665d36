def cAt (R C : Nat) (b : Nat → Nat) (cl : Nat) (z : Nat → Bool) (f : Nat) : Prop := b f = cl → ∀ g, g < R * C → adj C g f → z g = true → z f = true
theorem ct_uB {z : Nat → Bool} {f n : Nat} (hf : f < n) (h : z f = false) : fb_ct (uB z f true) n = fb_ct z n + 1 := by
  have := fb_ct_upd z true hf
  rw [h, if_neg (by decide), if_pos rfl] at this
  exact this
theorem ct_uB_le {z : Nat → Bool} {f n : Nat} : fb_ct z n ≤ fb_ct (uB z f true) n := by
  apply fb_ct_sub
  intro k _ hk
  unfold uB
  by_cases e : k = f
  · rw [if_pos e]
  · rw [if_neg e]; exact hk
theorem uB_up {z : Nat → Bool} {f k : Nat} (h : z k = true) : uB z f true k = true := by
  unfold uB
  by_cases e : k = f
  · rw [if_pos e]
  · rw [if_neg e]; exact h
/-- closed under neighbours, and between the seeds and what they reach: all that they reach -/
theorem ME_end {R C : Nat} {b : Nat → Nat} {cl : Nat} {z0 z : Nat → Bool} (h1 : ∀ f, f < R * C → z f = true → ME R C b cl (fun x => x < R * C ∧ z0 x = true) f) (h2 : ∀ f, f < R * C → z0 f = true → z f = true) (hc : ∀ f, f < R * C → cAt R C b cl z f) : ∀ f, f < R * C → (z f = true ↔ ME R C b cl (fun x => x < R * C ∧ z0 x = true) f) := by
  intro f hf
  refine ⟨h1 f hf, fun h => ?_⟩
  have key : f < R * C ∧ z f = true := by
    refine RE_ind (fun x => x < R * C ∧ z x = true) (fun x hx => ⟨hx.1, h2 x hx.1 hx.2⟩) (fun g x hg e hp => ⟨hp.1, hc x hp.1 hp.2 g hg.1 e hg.2⟩) h
  exact key.2
theorem ME_put {R C : Nat} {b : Nat → Nat} {cl : Nat} {z0 z : Nat → Bool} {f g : Nat} (h1 : ∀ f, f < R * C → z f = true → ME R C b cl (fun x => x < R * C ∧ z0 x = true) f) (hf : f < R * C) (hb : b f = cl) (hg : g < R * C) (ha : adj C g f) (hz : z g = true) : ∀ x, x < R * C → uB z f true x = true → ME R C b cl (fun x => x < R * C ∧ z0 x = true) x := by
  intro x hx hh
  by_cases e : x = f
  · subst e; exact RE_step (h1 g hg hz) ha ⟨hf, hb⟩
  · rw [uB_n e] at hh; exact h1 x hx hh
theorem cAt_of {R C : Nat} (hC1 : 1 ≤ C) {b : Nat → Nat} {cl : Nat} {z : Nat → Bool} {f : Nat} (hf : f < R * C) (h : ∀ k g, k < 6 → mBe R C f k = some g → z g = false) : cAt R C b cl z f := by
  intro hb g hg ha hz
  obtain ⟨k, hk, e⟩ := mBe_of hC1 hf hg ha
  rw [h k g hk e] at hz
  cases hz
theorem ou_dec {n : Nat} {zs zf : Nat → Bool} {mf : Bool} (h4 : mf = false → zf = zs) (h5 : mf = true → fb_ct zs n < fb_ct zf n) : 2 * (n - fb_ct zf n) + mf.toNat < 2 * (n - fb_ct zs n) + true.toNat := by
  have l9 := fb_ct_le zf n
  cases mf with
  | false => rw [h4 rfl]; exact Nat.lt_succ_self _
  | true => have := h5 rfl; show _ + 1 < _ + 1; omega
theorem rh_cnt {n f : Nat} {zs zk : Nat → Bool} {mk : Bool} (hf : f < n) (h4 : mk = false → zk = zs) (h5 : mk = true → fb_ct zs n < fb_ct zk n) (h6 : mk = false → zk f = false) : fb_ct zs n < fb_ct (uB zk f true) n := by
  cases mk with
  | false => rw [ct_uB hf (h6 rfl), h4 rfl]; omega
  | true => have := h5 rfl; have := ct_uB_le (z := zk) (f := f) (n := n); omega
theorem lt_sp {f : Nat} {p : Nat → Prop} (h : ∀ x, x < f → p x) (hf : p f) : ∀ x, x < f + 1 → p x := fun x hx => by
  rcases Nat.eq_or_lt_of_le (Nat.le_of_lt_succ hx) with e | e
  · rw [e]; exact hf
  · exact h x e
theorem k_sp {R C f k : Nat} {zs : Nat → Bool} (h : ∀ j g, j < k → mBe R C f j = some g → zs g = false) (hk : ∀ g, mBe R C f k = some g → zs g = false) : ∀ j g, j < k + 1 → mBe R C f j = some g → zs g = false := fun j g hj => by
  rcases Nat.eq_or_lt_of_le (Nat.le_of_lt_succ hj) with e | e
  · rw [e]; exact hk g
  · exact h j g e
theorem kiX6_reaches_X6 : ∀ w ∈ u_ws RX6 TX6 17, w ∈ wsX6_reaches := fun w h => List.mem_cons_of_mem _ (List.mem_append_right _ h)
set_option maxHeartbeats 4000000 in
set_option maxRecDepth 100000 in
theorem c_R_reaches (l : Launch) (D : va_G) (cI cJ cZ : ClassId) (h0 : Nat) (q : Nat → Nat) (R C tn dn ag md em : Nat) (b : Nat → Nat) (z : Nat → Bool) (cl : Nat) (hR1 : 1 ≤ R) (hR2 : R ≤ 6) (hC1 : 1 ≤ C) (hC2 : C ≤ 6) (hRC : R * C ≤ 36) (hbv : ∀ f, f < R * C → b f ≤ 2) (qcl : cl ≤ 2) (sz : Nat) : kMV l yX6_reaches wsX6_reaches 2 46 D cI cJ cZ [.ref h0, .int (nI cl)] [(h0, wMo q R C tn dn ag md em), ((q 0), .inl (cI, 36, .inl (nA b))), ((q 2), .inl (cZ, 36, .inl (bA z)))] sz (fun (zz : Nat → Bool) => ∀ f, f < R * C → (zz f = true ↔ ME R C b cl (fun x => x < R * C ∧ z x = true) f)) (fun za : Nat → Bool => [(h0, wMo q R C tn dn ag md em), ((q 0), .inl (cI, 36, .inl (nA b))), ((q 2), .inl (cZ, 36, .inl (bA za)))]) := by
  refine Met.ofW (cc := cX6_reaches) (maxL := 6) (ret := none) (by decide) rfl ?_
  intro p e s m args below meth c s₁ B hml hv
  obtain ⟨rfl, hsz, hP, ⟨hK, hN⟩, hD0⟩ := hv
  have hx := B.exec
  have hb := B.bytes
  have hr := B.returns
  have hts := atoms_spec (ws := wsX6_reaches) B.pre
  have hown : s.vm.findClass RX6 = some m.cls := findClass_of_methodNamed B.named
  have hlocks := B.notSynchronized
  subst hsz
  have hD := hD0.self (sz := s.heap.size)
  generalize hAe : va_A [(h0, wMo q R C tn dn ag md em), ((q 0), .inl (cI, 36, .inl (nA b))), ((q 2), .inl (cZ, 36, .inl (bA z)))] s.heap.size = A at hD ⊢
  have hA : ∀ q : Nat, s.heap.size ≤ q → A q := fun q h => by rw [← hAe]; exact Or.inr h
  have hS : va_S A s.heap s.heap [] := va_S.rf
  have hl := lv_entry ([.ref h0, .int (nI cl)]) (n := 6) (Nat.le_of_ble_eq_true rfl)
  rw [lg_entry_eq]
  generalize (lg_sl ([.ref h0, .int (nI cl)]) ++ List.replicate (6 - (lg_sl ([.ref h0, .int (nI cl)])).length) Slot.unset).toArray = ls at hl ⊢
  have hl : lv_has ls 6 [(0, .ref h0), (1, .int (nI cl))] := hl
  have hK2 : kK D cI cJ cZ s := ⟨hK, hN⟩
  clear hD0
  refine lv_iconst (v := (nI 1)) hx hb dX6_reaches_0 (by decide) ?_
  refine lv_istore_n (lv' := [(2, .int (nI 1)), (0, .ref h0), (1, .int (nI cl))]) hx hb dX6_reaches_1 rfl hl (by decide) rfl (fun ls hl => ?_)
  refine kw_loop (σ := (Nat → Bool) × Bool) (fun zz H locs ls => match zz with | (zs, mo) => va_P D vwCl [(h0, wMo q R C tn dn ag md em), ((q 0), .inl (cI, 36, .inl (nA b))), ((q 2), .inl (cZ, 36, .inl (bA zs)))] H ∧ va_D A [(h0, wMo q R C tn dn ag md em), ((q 0), .inl (cI, 36, .inl (nA b))), ((q 2), .inl (cZ, 36, .inl (bA zs)))] ∧ va_S A s.heap H locs ∧ lv_has ls 6 [(0, .ref h0), (1, .int (nI cl)), (2, .int (nI (Bool.toNat mo)))] ∧ (∀ f, f < R * C → zs f = true → ME R C b cl (fun x => x < R * C ∧ z x = true) f) ∧ (∀ f, f < R * C → z f = true → zs f = true) ∧ (mo = false → ∀ f, f < R * C → cAt R C b cl zs f)) (fun zz => match zz with | (zs, mo) => 2 * (R * C - fb_ct zs (R * C)) + mo.toNat) (z, true) ⟨hP, hD, hS, lv_sub hl [1, 2, 0] rfl, fun f hf hz => RE_base ⟨hf, hz⟩, fun f hf hz => hz, fun h => (by cases h)⟩ ?_
  clear hP hD hS hl
  rintro ⟨zs, mo⟩ H locs ls ⟨hP, hD, hS, hl, ho1, ho2, ho3⟩ ih_2
  have hP : va_P D vwCl [(h0, wMo q R C tn dn ag md em), ((q 0), .inl (cI, 36, .inl (nA b))), ((q 2), .inl (cZ, 36, .inl (bA zs)))] H := hP
  have hD : va_D A [(h0, wMo q R C tn dn ag md em), ((q 0), .inl (cI, 36, .inl (nA b))), ((q 2), .inl (cZ, 36, .inl (bA zs)))] := hD
  have hl : lv_has ls 6 [(0, .ref h0), (1, .int (nI cl)), (2, .int (nI (Bool.toNat mo)))] := hl
  have ho1 : ∀ f, f < R * C → zs f = true → ME R C b cl (fun x => x < R * C ∧ z x = true) f := ho1
  have ho2 : ∀ f, f < R * C → z f = true → zs f = true := ho2
  have ho3 : mo = false → ∀ f, f < R * C → cAt R C b cl zs f := ho3
  cases mo
  · have hl : lv_has ls 6 [(0, .ref h0), (1, .int (nI cl)), (2, .int (nI 0))] := hl
    refine lv_iload_n hx hb dX6_reaches_2 rfl (lv_at hl 2 rfl) ?_
    refine lv_if_eq (tgt := 102) hx hb dX6_reaches_3 (by decide) (fun c_3_1 => ?_) (fun c_3_1 => absurd c_3_1 (by decide))
    exact W.vret hx hb hr (fun t ht hW => ⟨⟨zs, rfl, ME_end ho1 ho2 (ho3 rfl), by rw [ht]; exact hP, hD⟩, hS.F ht⟩) hS.2.2 dX6_reaches_102
  · have hl : lv_has ls 6 [(0, .ref h0), (1, .int (nI cl)), (2, .int (nI 1))] := hl
    refine lv_iload_n hx hb dX6_reaches_2 rfl (lv_at hl 2 rfl) ?_
    refine lv_if_eq (tgt := 102) hx hb dX6_reaches_3 (by decide) (fun c_3_2 => absurd c_3_2 (by decide)) (fun c_3_2 => ?_)
    refine lv_iconst (v := (nI 0)) hx hb dX6_reaches_6 (by decide) ?_
    refine lv_istore_n (lv' := [(2, .int (nI 0)), (0, .ref h0), (1, .int (nI cl))]) hx hb dX6_reaches_7 rfl hl (by decide) rfl (fun ls hl => ?_)
    refine lv_iconst (v := (nI 0)) hx hb dX6_reaches_8 (by decide) ?_
    refine lv_istore_n (lv' := [(3, .int (nI 0)), (2, .int (nI 0)), (0, .ref h0), (1, .int (nI cl))]) hx hb dX6_reaches_9 rfl hl (by decide) rfl (fun ls hl => ?_)
    refine kw_loop (σ := Nat × (Nat → Bool) × Bool) (fun zz H locs ls => match zz with | (f, zf, mf) => va_P D vwCl [(h0, wMo q R C tn dn ag md em), ((q 0), .inl (cI, 36, .inl (nA b))), ((q 2), .inl (cZ, 36, .inl (bA zf)))] H ∧ va_D A [(h0, wMo q R C tn dn ag md em), ((q 0), .inl (cI, 36, .inl (nA b))), ((q 2), .inl (cZ, 36, .inl (bA zf)))] ∧ va_S A s.heap H locs ∧ lv_has ls 6 [(0, .ref h0), (1, .int (nI cl)), (2, .int (nI (Bool.toNat mf))), (3, .int (nI f))] ∧ (∀ f, f < R * C → zf f = true → ME R C b cl (fun x => x < R * C ∧ z x = true) f) ∧ (∀ f, f < R * C → z f = true → zf f = true) ∧ (f ≤ R * C) ∧ (mf = false → zf = zs ∧ ∀ x, x < f → cAt R C b cl zs x) ∧ (mf = true → fb_ct zs (R * C) < fb_ct zf (R * C))) (fun zz => match zz with | (f, zf, mf) => R * C - f) (0, zs, false) ⟨hP, hD, hS, lv_sub hl [2, 3, 1, 0] rfl, ho1, ho2, Nat.zero_le _, fun _ => ⟨rfl, fun x hx => absurd hx (Nat.not_lt_zero _)⟩, fun h => (by cases h)⟩ ?_
    clear hP hD hS hl
    rintro ⟨f, zf, mf⟩ H locs ls ⟨hP, hD, hS, hl, hf1, hf2, hf3, hf4, hf5⟩ ih_10
    have hP : va_P D vwCl [(h0, wMo q R C tn dn ag md em), ((q 0), .inl (cI, 36, .inl (nA b))), ((q 2), .inl (cZ, 36, .inl (bA zf)))] H := hP
    have hD : va_D A [(h0, wMo q R C tn dn ag md em), ((q 0), .inl (cI, 36, .inl (nA b))), ((q 2), .inl (cZ, 36, .inl (bA zf)))] := hD
    have hl : lv_has ls 6 [(0, .ref h0), (1, .int (nI cl)), (2, .int (nI (Bool.toNat mf))), (3, .int (nI f))] := hl
    have hzb : (zf f).toNat ≤ 1 := Bool.toNat_le (zf f)
    have hf1 : ∀ f, f < R * C → zf f = true → ME R C b cl (fun x => x < R * C ∧ z x = true) f := hf1
    have hf2 : ∀ f, f < R * C → z f = true → zf f = true := hf2
    have hf3 : f ≤ R * C := hf3
    have hf4 : mf = false → zf = zs ∧ ∀ x, x < f → cAt R C b cl zs x := hf4
    have hf5 : mf = true → fb_ct zs (R * C) < fb_ct zf (R * C) := hf5
    refine lv_iload_n hx hb dX6_reaches_10 rfl (lv_at hl 3 rfl) ?_
    refine lv_aload_n hx hb dX6_reaches_11 rfl (lv_at hl 0 rfl) ?_
    refine k_calli (wr := [((q 0), .inl (cI, 36, .inl (nA b))), ((q 2), .inl (cZ, 36, .inl (bA zf)))]) (w2 := (fun _ : Unit => [(h0, wMo q R C tn dn ag md em), ((q 0), .inl (cI, 36, .inl (nA b))), ((q 2), .inl (cZ, 36, .inl (bA zf)))])) (va_runV (As := []) (rest := [.int (nI f)]) ⟨hx, hb, hml, hown, hts⟩ (c_R_fields l D cI cJ cZ h0 q R C tn dn ag md em  H.size) (cwV 0 hts gX6_reaches_X6_fields rfl rfl rfl (by decide +kernel) ⟨Nat.le_of_ble_eq_true rfl, Nat.le_of_ble_eq_true rfl⟩) (kPV (ci := 6) (q0 := 0) (wc := [(h0, wMo q R C tn dn ag md em)]) hK2 hP hD [0] rfl (by decide) rfl rfl) rfl rfl hl.1 rfl (lv_room (Nat.le_of_ble_eq_true rfl)) dX6_reaches_12 ⟨Nat.le_of_ble_eq_true rfl, Nat.le_of_ble_eq_true rfl⟩) hP hD hS hA [0] [1, 2] [2, 0, 1] rfl rfl (by decide) (by decide) (fun _ => rfl) (by decide) (fun r_3 u_3 H locs hw_3 hP hD hS => ?_)
    have hP : va_P D vwCl [(h0, wMo q R C tn dn ag md em), ((q 0), .inl (cI, 36, .inl (nA b))), ((q 2), .inl (cZ, 36, .inl (bA zf)))] H := hP
    have hD : va_D A [(h0, wMo q R C tn dn ag md em), ((q 0), .inl (cI, 36, .inl (nA b))), ((q 2), .inl (cZ, 36, .inl (bA zf)))] := hD
    subst hw_3
    refine kw_icmp_ge (tgt := 99) hx hb dX6_reaches_15 (by decide) (by omega) (by omega) (fun c_15_4 => ?_) (fun c_15_4 => ?_)
    · refine lv_goto (tgt := 2) hx hb dX6_reaches_99 (by decide) ?_
      exact ih_2 (zf, mf) _ _ _ (ou_dec (fun h => (hf4 h).1) hf5) ⟨hP, hD, hS, lv_sub hl [0, 1, 2] rfl, hf1, hf2, fun h x hx => by obtain ⟨e9, h9⟩ := hf4 h; rw [e9]; exact h9 x (by omega)⟩
    · have hfl : f < R * C := c_15_4
      have hbf := hbv f hfl
      refine lv_aload_n hx hb dX6_reaches_18 rfl (lv_at hl 0 rfl) ?_
      refine va_get (D := D) (ci := 6) (v := .ref (q 2)) (C := RX6) (T := TX6) (N := 17) hx hb hts kiX6_reaches_X6 hown hK hP 0 rfl rfl 8 (by decide) (hts (.fieldLink RX6 30 "TwoBanksModel" "isReached" "[Z") (List.mem_of_getElem? (i := 1) rfl)) (fun _ h9 => h9) rfl dX6_reaches_19 ?_
      refine lv_iload_n hx hb dX6_reaches_22 rfl (lv_at hl 3 rfl) ?_
      refine va_zald hx hb hK hP 2 2 rfl rfl (vp_in_nI (by omega) (by omega)) dX6_reaches_23 ?_
      refine k_toi (y := nI ((zf f).toNat)) (congrArg (bA zf) (nI_clamp (by omega))) ?_
      refine kw_if_ne (tgt := 93) hx hb dX6_reaches_24 (by decide) (by omega) (fun c_24_5 => ?_) (fun c_24_5 => ?_)
      · have hzt := bz_t c_24_5
        refine lv_iinc (v := (nI (f + 1))) (lv' := [(3, .int (nI (f + 1))), (0, .ref h0), (1, .int (nI cl)), (2, .int (nI (Bool.toNat mf)))]) hx hb dX6_reaches_93 hl (k := 3) rfl (k_inc _ 1) (by decide) rfl (fun ls hl => ?_)
        refine lv_goto (tgt := 10) hx hb dX6_reaches_96 (by decide) ?_
        exact ih_10 ((f + 1), zf, mf) _ _ _ (by show R * C - (f + 1) < R * C - f; omega) ⟨hP, hD, hS, lv_sub hl [1, 2, 3, 0] rfl, hf1, hf2, by omega, fun h => ⟨(hf4 h).1, lt_sp (hf4 h).2 (fun _ _ _ _ _ => by rw [← (hf4 h).1]; exact hzt)⟩, hf5⟩
      · have hzf := bz_f c_24_5
        refine lv_aload_n hx hb dX6_reaches_27 rfl (lv_at hl 0 rfl) ?_
        refine va_get (D := D) (ci := 6) (v := .ref (q 0)) (C := RX6) (T := TX6) (N := 17) hx hb hts kiX6_reaches_X6 hown hK hP 0 rfl rfl 3 (by decide) (hts (.fieldLink RX6 19 "TwoBanksModel" "at" "[I") (List.mem_of_getElem? (i := 2) rfl)) (fun _ h9 => h9) rfl dX6_reaches_28 ?_
        refine lv_iload_n hx hb dX6_reaches_31 rfl (lv_at hl 3 rfl) ?_
        refine va_iald hx hb hK hP 1 0 rfl rfl (vp_in_nI (by omega) (by omega)) dX6_reaches_32 ?_
        refine k_toi (y := nI (b f)) (congrArg (nA b) (nI_clamp (by omega))) ?_
        refine lv_iload_n hx hb dX6_reaches_33 rfl (lv_at hl 1 rfl) ?_
        refine kw_icmp_eq (tgt := 40) hx hb dX6_reaches_34 (by decide) (by omega) (by omega) (fun c_34_6 => ?_) (fun c_34_6 => ?_)
        · have hbc : b f = cl := c_34_6
          refine lv_iconst (v := (nI 0)) hx hb dX6_reaches_40 (by decide) ?_
          refine lv_istore (lv' := [(4, .int (nI 0)), (0, .ref h0), (1, .int (nI cl)), (2, .int (nI (Bool.toNat mf))), (3, .int (nI f))]) hx hb dX6_reaches_41 hl (by decide) rfl (fun ls hl => ?_)
          refine kw_loop (σ := Nat × (Nat → Bool) × Bool) (fun zz H locs ls => match zz with | (k, zk, mx) => va_P D vwCl [(h0, wMo q R C tn dn ag md em), ((q 0), .inl (cI, 36, .inl (nA b))), ((q 2), .inl (cZ, 36, .inl (bA zk)))] H ∧ va_D A [(h0, wMo q R C tn dn ag md em), ((q 0), .inl (cI, 36, .inl (nA b))), ((q 2), .inl (cZ, 36, .inl (bA zk)))] ∧ va_S A s.heap H locs ∧ lv_has ls 6 [(0, .ref h0), (1, .int (nI cl)), (2, .int (nI (Bool.toNat mx))), (3, .int (nI f)), (4, .int (nI k))] ∧ (∀ f, f < R * C → zk f = true → ME R C b cl (fun x => x < R * C ∧ z x = true) f) ∧ (∀ f, f < R * C → z f = true → zk f = true) ∧ (k ≤ 6) ∧ (mx = false → (zk = zs ∧ ∀ x, x < f → cAt R C b cl zs x) ∧ ∀ j g, j < k → mBe R C f j = some g → zs g = false) ∧ (mx = true → fb_ct zs (R * C) < fb_ct zk (R * C)) ∧ (mx = false → zk f = false)) (fun zz => match zz with | (k, zk, mx) => 6 - k) (0, zf, mf) ⟨hP, hD, hS, lv_sub hl [1, 2, 3, 4, 0] rfl, hf1, hf2, Nat.zero_le _, fun h => ⟨hf4 h, fun j g hj => absurd hj (Nat.not_lt_zero _)⟩, hf5, fun _ => hzf⟩ ?_
          clear hP hD hS hl
          rintro ⟨k, zk, mx⟩ H locs ls ⟨hP, hD, hS, hl, hk1, hk2, hk3, hk4, hk5, hk6⟩ ih_43
          have hP : va_P D vwCl [(h0, wMo q R C tn dn ag md em), ((q 0), .inl (cI, 36, .inl (nA b))), ((q 2), .inl (cZ, 36, .inl (bA zk)))] H := hP
          have hD : va_D A [(h0, wMo q R C tn dn ag md em), ((q 0), .inl (cI, 36, .inl (nA b))), ((q 2), .inl (cZ, 36, .inl (bA zk)))] := hD
          have hl : lv_has ls 6 [(0, .ref h0), (1, .int (nI cl)), (2, .int (nI (Bool.toNat mx))), (3, .int (nI f)), (4, .int (nI k))] := hl
          have hk1 : ∀ f, f < R * C → zk f = true → ME R C b cl (fun x => x < R * C ∧ z x = true) f := hk1
          have hk2 : ∀ f, f < R * C → z f = true → zk f = true := hk2
          have hk3 : k ≤ 6 := hk3
          have hk4 : mx = false → (zk = zs ∧ ∀ x, x < f → cAt R C b cl zs x) ∧ ∀ j g, j < k → mBe R C f j = some g → zs g = false := hk4
          have hk5 : mx = true → fb_ct zs (R * C) < fb_ct zk (R * C) := hk5
          have hk6 : mx = false → zk f = false := hk6
          refine lv_iload hx hb dX6_reaches_43 (lv_at hl 4 rfl) ?_
          refine lv_bipush (v := (nI 6)) hx hb dX6_reaches_45 (by decide) ?_
          refine kw_icmp_ge (tgt := 93) hx hb dX6_reaches_47 (by decide) (by omega) (by omega) (fun c_47_7 => ?_) (fun c_47_7 => ?_)
          · refine lv_iinc (v := (nI (f + 1))) (lv' := [(3, .int (nI (f + 1))), (0, .ref h0), (1, .int (nI cl)), (2, .int (nI (Bool.toNat mx))), (4, .int (nI k))]) hx hb dX6_reaches_93 hl (k := 3) rfl (k_inc _ 1) (by decide) rfl (fun ls hl => ?_)
            refine lv_goto (tgt := 10) hx hb dX6_reaches_96 (by decide) ?_
            exact ih_10 ((f + 1), zk, mx) _ _ _ (by show R * C - (f + 1) < R * C - f; omega) ⟨hP, hD, hS, lv_sub hl [1, 2, 3, 0] rfl, hk1, hk2, by omega, fun h => ⟨(hk4 h).1.1, lt_sp (hk4 h).1.2 (cAt_of hC1 hfl (fun j g hj => (hk4 h).2 j g (by omega)))⟩, hk5⟩
          · refine lv_aload_n hx hb dX6_reaches_50 rfl (lv_at hl 0 rfl) ?_
            refine lv_iload_n hx hb dX6_reaches_51 rfl (lv_at hl 3 rfl) ?_
            refine lv_iload hx hb dX6_reaches_52 (lv_at hl 4 rfl) ?_
            refine k_calli (wr := [((q 0), .inl (cI, 36, .inl (nA b))), ((q 2), .inl (cZ, 36, .inl (bA zk)))]) (w2 := (fun _ : Unit => [(h0, wMo q R C tn dn ag md em), ((q 0), .inl (cI, 36, .inl (nA b))), ((q 2), .inl (cZ, 36, .inl (bA zk)))])) (va_runV (As := [.int (nI f), .int (nI k)]) (rest := []) ⟨hx, hb, hml, hown, hts⟩ (c_R_beside l D cI cJ cZ h0 q R C tn dn ag md em f k hR1 hR2 hC1 hC2 hRC (by omega) (by omega)  H.size) (cwV 2 hts gX6_reaches_X6_beside rfl rfl rfl (by decide +kernel) ⟨Nat.le_of_ble_eq_true rfl, Nat.le_of_ble_eq_true rfl⟩) (kPV (ci := 6) (q0 := 0) (wc := [(h0, wMo q R C tn dn ag md em)]) hK2 hP hD [0] rfl (by decide) rfl rfl) rfl rfl hl.1 rfl (lv_room (Nat.le_of_ble_eq_true rfl)) dX6_reaches_54 ⟨Nat.le_of_ble_eq_true rfl, Nat.le_of_ble_eq_true rfl⟩) hP hD hS hA [0] [1, 2] [2, 0, 1] rfl rfl (by decide) (by decide) (fun _ => rfl) (by decide) (fun r_8 u_8 H locs hw_8 hP hD hS => ?_)
            have hP : va_P D vwCl [(h0, wMo q R C tn dn ag md em), ((q 0), .inl (cI, 36, .inl (nA b))), ((q 2), .inl (cZ, 36, .inl (bA zk)))] H := hP
            have hD : va_D A [(h0, wMo q R C tn dn ag md em), ((q 0), .inl (cI, 36, .inl (nA b))), ((q 2), .inl (cZ, 36, .inl (bA zk)))] := hD
            subst hw_8
            rcases hm9 : mBe R C f k with _ | g9
            · refine k_toi (y := (-1)) rfl ?_
              refine lv_istore (lv' := [(5, .int (-1)), (0, .ref h0), (1, .int (nI cl)), (2, .int (nI (Bool.toNat mx))), (3, .int (nI f)), (4, .int (nI k))]) hx hb dX6_reaches_57 hl (by decide) rfl (fun ls hl => ?_)
              refine lv_iload hx hb dX6_reaches_59 (lv_at hl 0 rfl) ?_
              refine lv_iconst (v := (-1)) hx hb dX6_reaches_61 (by decide) ?_
              refine lv_icmp_eq (tgt := 87) hx hb dX6_reaches_62 (by decide) (fun c_62_9 => ?_) (fun c_62_9 => absurd c_62_9 (by decide))
              refine lv_iinc (v := (nI (k + 1))) (lv' := [(4, .int (nI (k + 1))), (5, .int (-1)), (0, .ref h0), (1, .int (nI cl)), (2, .int (nI (Bool.toNat mx))), (3, .int (nI f))]) hx hb dX6_reaches_87 hl (k := 5) rfl (k_inc _ 1) (by decide) rfl (fun ls hl => ?_)
              refine lv_goto (tgt := 43) hx hb dX6_reaches_90 (by decide) ?_
              exact ih_43 ((k + 1), zk, mx) _ _ _ (by show 6 - (k + 1) < 6 - k; omega) ⟨hP, hD, hS, lv_sub hl [2, 3, 4, 5, 0] rfl, hk1, hk2, by omega, fun h => ⟨(hk4 h).1, k_sp (hk4 h).2 (fun g h9 => by rw [hm9] at h9; cases h9)⟩, hk5, hk6⟩
            · refine k_toi (y := nI g9) rfl ?_
              have hg9 := mBe_adj hC1 hfl (by omega) hm9
              have hgl := hg9.1
              have hzb2 : (zk g9).toNat ≤ 1 := Bool.toNat_le (zk g9)
              refine lv_istore (lv' := [(5, .int (nI g9)), (0, .ref h0), (1, .int (nI cl)), (2, .int (nI (Bool.toNat mx))), (3, .int (nI f)), (4, .int (nI k))]) hx hb dX6_reaches_57 hl (by decide) rfl (fun ls hl => ?_)
              refine lv_iload hx hb dX6_reaches_59 (lv_at hl 0 rfl) ?_
              refine lv_iconst (v := (-1)) hx hb dX6_reaches_61 (by decide) ?_
              refine lv_icmp_eq (tgt := 87) hx hb dX6_reaches_62 (by decide) (fun c_62_10 => absurd c_62_10 (k_ne_m (by omega) (by decide))) (fun c_62_10 => ?_)
              refine lv_aload_n hx hb dX6_reaches_65 rfl (lv_at hl 1 rfl) ?_
              refine va_get (D := D) (ci := 6) (v := .ref (q 2)) (C := RX6) (T := TX6) (N := 17) hx hb hts kiX6_reaches_X6 hown hK hP 0 rfl rfl 8 (by decide) (hts (.fieldLink RX6 30 "TwoBanksModel" "isReached" "[Z") (List.mem_of_getElem? (i := 1) rfl)) (fun _ h9 => h9) rfl dX6_reaches_66 ?_
              refine lv_iload hx hb dX6_reaches_69 (lv_at hl 0 rfl) ?_
              refine va_zald hx hb hK hP 2 2 rfl rfl (vp_in_nI (by omega) (by omega)) dX6_reaches_71 ?_
              refine k_toi (y := nI ((zk g9).toNat)) (congrArg (bA zk) (nI_clamp (by omega))) ?_
              refine kw_if_ne (tgt := 78) hx hb dX6_reaches_72 (by decide) (by omega) (fun c_72_11 => ?_) (fun c_72_11 => ?_)
              · have hzg := bz_t c_72_11
                refine lv_aload_n hx hb dX6_reaches_78 rfl (lv_at hl 1 rfl) ?_
                refine va_get (D := D) (ci := 6) (v := .ref (q 2)) (C := RX6) (T := TX6) (N := 17) hx hb hts kiX6_reaches_X6 hown hK hP 0 rfl rfl 8 (by decide) (hts (.fieldLink RX6 30 "TwoBanksModel" "isReached" "[Z") (List.mem_of_getElem? (i := 1) rfl)) (fun _ h9 => h9) rfl dX6_reaches_79 ?_
                refine lv_iload_n hx hb dX6_reaches_82 rfl (lv_at hl 4 rfl) ?_
                refine lv_iconst (v := (nI 1)) hx hb dX6_reaches_83 (by decide) ?_
                refine va_zast hx hb hK hP hD hS 2 2 rfl rfl (vp_in_nI (by omega) (by omega)) dX6_reaches_84 (fun H locs hP hD hS => ?_)
                rw [nI_clamp (by omega)] at hP hD
                rw [kz_nar (by first | decide | assumption | omega)] at hP hD
                rw [bA_upd1] at hP hD
                have hP : va_P D vwCl [(h0, wMo q R C tn dn ag md em), ((q 0), .inl (cI, 36, .inl (nA b))), ((q 2), .inl (cZ, 36, .inl (bA (uB zk f true))))] H := hP
                have hD : va_D A [(h0, wMo q R C tn dn ag md em), ((q 0), .inl (cI, 36, .inl (nA b))), ((q 2), .inl (cZ, 36, .inl (bA (uB zk f true))))] := hD
                refine lv_iconst (v := (nI 1)) hx hb dX6_reaches_85 (by decide) ?_
                refine lv_istore_n (lv' := [(2, .int (nI 1)), (5, .int (nI g9)), (0, .ref h0), (1, .int (nI cl)), (3, .int (nI f)), (4, .int (nI k))]) hx hb dX6_reaches_86 rfl hl (by decide) rfl (fun ls hl => ?_)
                refine lv_iinc (v := (nI (k + 1))) (lv' := [(4, .int (nI (k + 1))), (2, .int (nI 1)), (5, .int (nI g9)), (0, .ref h0), (1, .int (nI cl)), (3, .int (nI f))]) hx hb dX6_reaches_87 hl (k := 5) rfl (k_inc _ 1) (by decide) rfl (fun ls hl => ?_)
                refine lv_goto (tgt := 43) hx hb dX6_reaches_90 (by decide) ?_
                exact ih_43 ((k + 1), (uB zk f true), true) _ _ _ (by show 6 - (k + 1) < 6 - k; omega) ⟨hP, hD, hS, lv_sub hl [3, 4, 1, 5, 0] rfl, ME_put hk1 hfl hbc hg9.1 hg9.2 hzg, fun x hx h => uB_up (hk2 x hx h), by omega, fun h => (by cases h), fun _ => rh_cnt hfl (fun h => (hk4 h).1.1) hk5 hk6, fun h => (by cases h)⟩
              · have hzg := bz_f c_72_11
                refine lv_goto (tgt := 87) hx hb dX6_reaches_75 (by decide) ?_
                refine lv_iinc (v := (nI (k + 1))) (lv' := [(4, .int (nI (k + 1))), (5, .int (nI g9)), (0, .ref h0), (1, .int (nI cl)), (2, .int (nI (Bool.toNat mx))), (3, .int (nI f))]) hx hb dX6_reaches_87 hl (k := 5) rfl (k_inc _ 1) (by decide) rfl (fun ls hl => ?_)
                refine lv_goto (tgt := 43) hx hb dX6_reaches_90 (by decide) ?_
                exact ih_43 ((k + 1), zk, mx) _ _ _ (by show 6 - (k + 1) < 6 - k; omega) ⟨hP, hD, hS, lv_sub hl [2, 3, 4, 5, 0] rfl, hk1, hk2, by omega, fun h => ⟨(hk4 h).1, k_sp (hk4 h).2 (fun g h9 => by rw [hm9] at h9; cases h9; rw [← (hk4 h).1.1]; exact hzg)⟩, hk5, hk6⟩
        · have hbn : ¬ b f = cl := c_34_6
          refine lv_goto (tgt := 93) hx hb dX6_reaches_37 (by decide) ?_
          refine lv_iinc (v := (nI (f + 1))) (lv' := [(3, .int (nI (f + 1))), (0, .ref h0), (1, .int (nI cl)), (2, .int (nI (Bool.toNat mf)))]) hx hb dX6_reaches_93 hl (k := 3) rfl (k_inc _ 1) (by decide) rfl (fun ls hl => ?_)
          refine lv_goto (tgt := 10) hx hb dX6_reaches_96 (by decide) ?_
          exact ih_10 ((f + 1), zf, mf) _ _ _ (by show R * C - (f + 1) < R * C - f; omega) ⟨hP, hD, hS, lv_sub hl [1, 2, 3, 0] rfl, hf1, hf2, by omega, fun h => ⟨(hf4 h).1, lt_sp (hf4 h).2 (fun hh => absurd hh hbn)⟩, hf5⟩
