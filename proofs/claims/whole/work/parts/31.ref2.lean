/-! neighbours by Java's table are neighbours; what the reference reaches -/
theorem mBe_adj {R C F k g : Nat} (hC1 : 1 ≤ C) (hF : F < R * C) (hk : k < 6) (h : mBe R C F k = some g) : g < R * C ∧ adj C g F := by
  have hfr := fd_lt hF
  have hfc := Nat.mod_lt F (show 0 < C by omega)
  have key : ∀ a b, a < R → b < C → g = C * a + b → ((a = F / C ∧ (b + 1 = F % C ∨ b = F % C + 1)) ∨ (b = F % C ∧ (a + 1 = F / C ∨ a = F / C + 1)) ∨ (a + 1 = F / C ∧ b = F % C + 1) ∨ (a = F / C + 1 ∧ b + 1 = F % C)) → g < R * C ∧ adj C g F := by
    intro a b ha hb hg hh
    have h1 : g / C = a := by rw [hg, Nat.mul_add_div (by omega), Nat.div_eq_of_lt hb, Nat.add_zero]
    have h2 : g % C = b := by rw [hg, Nat.mul_add_mod, Nat.mod_eq_of_lt hb]
    refine ⟨?_, ?_⟩
    · rw [hg]
      have : C * (a + 1) ≤ C * R := Nat.mul_le_mul_left C ha
      rw [Nat.mul_succ, Nat.mul_comm C R] at this
      omega
    · unfold adj
      rw [h1, h2]
      omega
  have nz := Nat.zero_le (F / C)
  rcases (show k = 0 ∨ k = 1 ∨ k = 2 ∨ k = 3 ∨ k = 4 ∨ k = 5 by omega) with rfl | rfl | rfl | rfl | rfl | rfl
  · change (if F % C = 0 then none else some (F - 1)) = some g at h
    by_cases c : F % C = 0
    · rw [if_pos c] at h; cases h
    · rw [if_neg c] at h
      exact key (F / C) (F % C - 1) hfr (by omega) (by rw [bs_0 (by omega)]; exact (Option.some.inj h).symm) (Or.inl ⟨rfl, by omega⟩)
  · change (if F % C + 1 = C then none else some (F + 1)) = some g at h
    by_cases c : F % C + 1 = C
    · rw [if_pos c] at h; cases h
    · rw [if_neg c] at h
      exact key (F / C) (F % C + 1) hfr (by omega) (by rw [bs_1]; exact (Option.some.inj h).symm) (Or.inl ⟨rfl, by omega⟩)
  · change (if F / C = 0 then none else some (F - C)) = some g at h
    by_cases c : F / C = 0
    · rw [if_pos c] at h; cases h
    · rw [if_neg c] at h
      exact key (F / C - 1) (F % C) (by omega) hfc (by rw [bs_2 (by omega)]; exact (Option.some.inj h).symm) (Or.inr (Or.inl ⟨rfl, by omega⟩))
  · change (if F / C + 1 = R then none else some (F + C)) = some g at h
    by_cases c : F / C + 1 = R
    · rw [if_pos c] at h; cases h
    · rw [if_neg c] at h
      exact key (F / C + 1) (F % C) (by omega) hfc (by rw [bs_3]; exact (Option.some.inj h).symm) (Or.inr (Or.inl ⟨rfl, by omega⟩))
  · change (if F / C = 0 ∨ F % C + 1 = C then none else some (F + 1 - C)) = some g at h
    by_cases c : F / C = 0 ∨ F % C + 1 = C
    · rw [if_pos c] at h; cases h
    · rw [if_neg c] at h
      exact key (F / C - 1) (F % C + 1) (by omega) (by omega) (by rw [bs_4 (by omega)]; exact (Option.some.inj h).symm) (Or.inr (Or.inr (Or.inl ⟨by omega, rfl⟩)))
  · change (if F / C + 1 = R ∨ F % C = 0 then none else some (F + C - 1)) = some g at h
    by_cases c : F / C + 1 = R ∨ F % C = 0
    · rw [if_pos c] at h; cases h
    · rw [if_neg c] at h
      exact key (F / C + 1) (F % C - 1) (by omega) (by omega) (by rw [bs_5 (by omega)]; exact (Option.some.inj h).symm) (Or.inr (Or.inr (Or.inr ⟨rfl, by omega⟩)))
theorem mBe_of {R C F g : Nat} (hC1 : 1 ≤ C) (hF : F < R * C) (hg : g < R * C) (h : adj C g F) : ∃ k, k < 6 ∧ mBe R C F k = some g := by
  have hfr := fd_lt hF
  have hgr := fd_lt hg
  have hfc := Nat.mod_lt F (show 0 < C by omega)
  have hgc := Nat.mod_lt g (show 0 < C by omega)
  have eg := Nat.div_add_mod g C
  have nz := Nat.zero_le (F / C)
  have nz2 := Nat.zero_le (g / C)
  unfold adj at h
  rcases h with ⟨h1, h2 | h2⟩ | ⟨h1, h2 | h2⟩ | ⟨h1, h2⟩ | ⟨h1, h2⟩
  · refine ⟨1, by decide, ?_⟩
    show (if F % C + 1 = C then none else some (F + 1)) = some g
    rw [if_neg (by omega), ← bs_1 (C := C) (F := F), ← h1, ← h2, eg]
  · refine ⟨0, by decide, ?_⟩
    show (if F % C = 0 then none else some (F - 1)) = some g
    rw [if_neg (by omega), ← bs_0 (C := C) (F := F) (by omega), ← h1, h2, Nat.add_sub_cancel, eg]
  · refine ⟨3, by decide, ?_⟩
    show (if F / C + 1 = R then none else some (F + C)) = some g
    rw [if_neg (by omega), ← bs_3 (C := C) (F := F), ← h1, ← h2, eg]
  · refine ⟨2, by decide, ?_⟩
    show (if F / C = 0 then none else some (F - C)) = some g
    rw [if_neg (by omega), ← bs_2 (C := C) (F := F) (by omega), ← h1, h2, Nat.add_sub_cancel, eg]
  · refine ⟨5, by decide, ?_⟩
    show (if F / C + 1 = R ∨ F % C = 0 then none else some (F + C - 1)) = some g
    rw [if_neg (by omega), ← bs_5 (C := C) (F := F) (by omega), ← h1, h2, Nat.add_sub_cancel, eg]
  · refine ⟨4, by decide, ?_⟩
    show (if F / C = 0 ∨ F % C + 1 = C then none else some (F + 1 - C)) = some g
    rw [if_neg (by omega), ← bs_4 (C := C) (F := F) (by omega), h1, Nat.add_sub_cancel, ← h2, eg]
/-- all that hangs together with the seeds, among the fields of one kind -/
def ME (R C : Nat) (b : Nat → Nat) (cl : Nat) (S : Nat → Prop) : Nat → Prop := RE (adj C) (fun f => f < R * C ∧ b f = cl) S
theorem kiX6_banks_X6 : ∀ w ∈ u_ws RX6 TX6 17, w ∈ wsX6_banks := fun w h => List.mem_cons_of_mem _ (List.mem_append_right _ h)
set_option maxHeartbeats 4000000 in
set_option maxRecDepth 100000 in
theorem c_R_banks (l : Launch) (D : va_G) (cI cJ cZ : ClassId) (h0 : Nat) (q : Nat → Nat) (R C tn dn ag md em : Nat) (F : Nat) (hR1 : 1 ≤ R) (hR2 : R ≤ 6) (hC1 : 1 ≤ C) (hC2 : C ≤ 6) (hRC : R * C ≤ 36) (qF : F < R * C) (sz : Nat) : kMI l yX6_banks wsX6_banks 0 0 D cI cJ cZ [.ref h0, .int (nI F)] [(h0, wMo q R C tn dn ag md em)] sz (fun r (_ : Unit) => r = nI (mBk R C F)) (fun _ : Unit => [(h0, wMo q R C tn dn ag md em)]) := by
  refine Met.ofW (cc := cX6_banks) (maxL := 3) (ret := (some .int)) (by decide) rfl ?_
  intro p e s m args below meth c s₁ B hml hv
  obtain ⟨rfl, hsz, hP, ⟨hK, hN⟩, hD0⟩ := hv
  have hx := B.exec
  have hb := B.bytes
  have hr := B.returns
  have hts := atoms_spec (ws := wsX6_banks) B.pre
  have hown : s.vm.findClass RX6 = some m.cls := findClass_of_methodNamed B.named
  have hlocks := B.notSynchronized
  subst hsz
  have hD := hD0.self (sz := s.heap.size)
  generalize hAe : va_A [(h0, wMo q R C tn dn ag md em)] s.heap.size = A at hD ⊢
  have hA : ∀ q : Nat, s.heap.size ≤ q → A q := fun q h => by rw [← hAe]; exact Or.inr h
  have hS : va_S A s.heap s.heap [] := va_S.rf
  have hl := lv_entry ([.ref h0, .int (nI F)]) (n := 3) (Nat.le_of_ble_eq_true rfl)
  rw [lg_entry_eq]
  generalize (lg_sl ([.ref h0, .int (nI F)]) ++ List.replicate (3 - (lg_sl ([.ref h0, .int (nI F)])).length) Slot.unset).toArray = ls at hl ⊢
  have hl : lv_has ls 3 [(0, .ref h0), (1, .int (nI F))] := hl
  have hK2 : kK D cI cJ cZ s := ⟨hK, hN⟩
  clear hD0
  have hfn := Nat.zero_le (F / C)
  have hfr := fd_lt qF
  have hfc := Nat.mod_lt F (show 0 < C by omega)
  refine kw_cut (σ := Nat) (fun (v0 : Nat) H locs ls => va_P D vwCl [(h0, wMo q R C tn dn ag md em)] H ∧ va_D A [(h0, wMo q R C tn dn ag md em)] ∧ va_S A s.heap H locs ∧ lv_has ls 3 [(0, .ref h0), (1, .int (nI F))] ∧ (v0 = if F / C = 0 then 1 else 0)) 14 (fun (v0 : Nat) => [.int (nI v0)]) (fun J_14 => ?_) ?_
  · refine lv_iload_n hx hb dX6_banks_0 rfl (lv_at hl 1 rfl) ?_
    refine lv_aload_n hx hb dX6_banks_1 rfl (lv_at hl 0 rfl) ?_
    refine va_get (D := D) (ci := 6) (v := .int (nI C)) (C := RX6) (T := TX6) (N := 17) hx hb hts kiX6_banks_X6 hown hK hP 0 rfl rfl 1 (by decide) (hts (.fieldLink RX6 13 "TwoBanksModel" "columns" "I") (List.mem_of_getElem? (i := 1) rfl)) (fun _ h9 => h9) rfl dX6_banks_2 ?_
    refine lv_idiv hx hb dX6_banks_5 (nI_ne0 (by omega) (by omega)) ?_
    refine k_toi (y := nI (F / C)) (pk_div (by omega) (by omega) (by omega)) ?_
    refine kw_if_ne (tgt := 13) hx hb dX6_banks_6 (by decide) (by omega) (fun c_6_1 => ?_) (fun c_6_1 => ?_)
    · refine lv_iconst (v := (nI 0)) hx hb dX6_banks_13 (by decide) ?_
      exact J_14 0 _ _ _ ⟨hP, hD, hS, lv_sub hl [0, 1] rfl, by first | rw [if_pos (by omega)] | rw [if_neg (by omega)]⟩
    · refine lv_iconst (v := (nI 1)) hx hb dX6_banks_9 (by decide) ?_
      refine lv_goto (tgt := 14) hx hb dX6_banks_10 (by decide) ?_
      exact J_14 1 _ _ _ ⟨hP, hD, hS, lv_sub hl [0, 1] rfl, by first | rw [if_pos (by omega)] | rw [if_neg (by omega)]⟩
  · clear hP hD hS hl
    rintro v0 H locs ls ⟨hP, hD, hS, hl, hv0⟩
    have hP : va_P D vwCl [(h0, wMo q R C tn dn ag md em)] H := hP
    have hD : va_D A [(h0, wMo q R C tn dn ag md em)] := hD
    have hl : lv_has ls 3 [(0, .ref h0), (1, .int (nI F))] := hl
    have hv0 : v0 = if F / C = 0 then 1 else 0 := hv0
    refine lv_istore_n (lv' := [(2, .int (nI v0)), (0, .ref h0), (1, .int (nI F))]) hx hb dX6_banks_14 rfl hl (by decide) rfl (fun ls hl => ?_)
    refine lv_iload_n hx hb dX6_banks_15 rfl (lv_at hl 0 rfl) ?_
    refine kw_cut (σ := Nat) (fun (v1 : Nat) H locs ls => va_P D vwCl [(h0, wMo q R C tn dn ag md em)] H ∧ va_D A [(h0, wMo q R C tn dn ag md em)] ∧ va_S A s.heap H locs ∧ lv_has ls 3 [(0, .ref h0), (1, .int (nI F)), (2, .int (nI v0))] ∧ (v1 = if F / C = R - 1 then 2 else 0)) 36 (fun (v1 : Nat) => [.int (nI v1), .int (nI v0)]) (fun J_36 => ?_) ?_
    · refine lv_iload_n hx hb dX6_banks_16 rfl (lv_at hl 2 rfl) ?_
      refine lv_aload_n hx hb dX6_banks_17 rfl (lv_at hl 1 rfl) ?_
      refine va_get (D := D) (ci := 6) (v := .int (nI C)) (C := RX6) (T := TX6) (N := 17) hx hb hts kiX6_banks_X6 hown hK hP 0 rfl rfl 1 (by decide) (hts (.fieldLink RX6 13 "TwoBanksModel" "columns" "I") (List.mem_of_getElem? (i := 1) rfl)) (fun _ h9 => h9) rfl dX6_banks_18 ?_
      refine lv_idiv hx hb dX6_banks_21 (nI_ne0 (by omega) (by omega)) ?_
      refine k_toi (y := nI (F / C)) (pk_div (by omega) (by omega) (by omega)) ?_
      refine lv_aload_n hx hb dX6_banks_22 rfl (lv_at hl 1 rfl) ?_
      refine va_get (D := D) (ci := 6) (v := .int (nI R)) (C := RX6) (T := TX6) (N := 17) hx hb hts kiX6_banks_X6 hown hK hP 0 rfl rfl 0 (by decide) (hts (.fieldLink RX6 7 "TwoBanksModel" "rows" "I") (List.mem_of_getElem? (i := 2) rfl)) (fun _ h9 => h9) rfl dX6_banks_23 ?_
      refine lv_iconst (v := (nI 1)) hx hb dX6_banks_26 (by decide) ?_
      refine lv_isub hx hb dX6_banks_27 ?_
      refine k_toi (y := nI (R - 1)) (pk_sub (by omega)) ?_
      refine kw_icmp_ne (tgt := 35) hx hb dX6_banks_28 (by decide) (by omega) (by omega) (fun c_28_2 => ?_) (fun c_28_2 => ?_)
      · refine lv_iconst (v := (nI 0)) hx hb dX6_banks_35 (by decide) ?_
        exact J_36 0 _ _ _ ⟨hP, hD, hS, lv_sub hl [1, 2, 0] rfl, by first | rw [if_pos (by omega)] | rw [if_neg (by omega)]⟩
      · refine lv_iconst (v := (nI 2)) hx hb dX6_banks_31 (by decide) ?_
        refine lv_goto (tgt := 36) hx hb dX6_banks_32 (by decide) ?_
        exact J_36 2 _ _ _ ⟨hP, hD, hS, lv_sub hl [1, 2, 0] rfl, by first | rw [if_pos (by omega)] | rw [if_neg (by omega)]⟩
    · clear hP hD hS hl
      rintro v1 H locs ls ⟨hP, hD, hS, hl, hv1⟩
      have hP : va_P D vwCl [(h0, wMo q R C tn dn ag md em)] H := hP
      have hD : va_D A [(h0, wMo q R C tn dn ag md em)] := hD
      have hl : lv_has ls 3 [(0, .ref h0), (1, .int (nI F)), (2, .int (nI v0))] := hl
      have hv1 : v1 = if F / C = R - 1 then 2 else 0 := hv1
      refine lv_ior hx hb dX6_banks_36 ?_
      refine k_toi (y := nI (v0 ||| v1)) (fa_or _ _) ?_
      refine lv_istore_n (lv' := [(2, .int (nI (v0 ||| v1))), (0, .ref h0), (1, .int (nI F))]) hx hb dX6_banks_37 rfl hl (by decide) rfl (fun ls hl => ?_)
      refine lv_iload_n hx hb dX6_banks_38 rfl (lv_at hl 0 rfl) ?_
      refine kw_cut (σ := Nat) (fun (v2 : Nat) H locs ls => va_P D vwCl [(h0, wMo q R C tn dn ag md em)] H ∧ va_D A [(h0, wMo q R C tn dn ag md em)] ∧ va_S A s.heap H locs ∧ lv_has ls 3 [(0, .ref h0), (1, .int (nI F)), (2, .int (nI (v0 ||| v1)))] ∧ (v2 = if F % C = 0 then 4 else 0)) 53 (fun (v2 : Nat) => [.int (nI v2), .int (nI (v0 ||| v1))]) (fun J_53 => ?_) ?_
      · refine lv_iload_n hx hb dX6_banks_39 rfl (lv_at hl 2 rfl) ?_
        refine lv_aload_n hx hb dX6_banks_40 rfl (lv_at hl 1 rfl) ?_
        refine va_get (D := D) (ci := 6) (v := .int (nI C)) (C := RX6) (T := TX6) (N := 17) hx hb hts kiX6_banks_X6 hown hK hP 0 rfl rfl 1 (by decide) (hts (.fieldLink RX6 13 "TwoBanksModel" "columns" "I") (List.mem_of_getElem? (i := 1) rfl)) (fun _ h9 => h9) rfl dX6_banks_41 ?_
        refine lv_irem hx hb dX6_banks_44 (nI_ne0 (by omega) (by omega)) ?_
        refine k_toi (y := nI (F % C)) (pk_rem (by omega) (by omega) (by omega)) ?_
        refine kw_if_ne (tgt := 52) hx hb dX6_banks_45 (by decide) (by omega) (fun c_45_3 => ?_) (fun c_45_3 => ?_)
        · refine lv_iconst (v := (nI 0)) hx hb dX6_banks_52 (by decide) ?_
          exact J_53 0 _ _ _ ⟨hP, hD, hS, lv_sub hl [1, 2, 0] rfl, by first | rw [if_pos (by omega)] | rw [if_neg (by omega)]⟩
        · refine lv_iconst (v := (nI 4)) hx hb dX6_banks_48 (by decide) ?_
          refine lv_goto (tgt := 53) hx hb dX6_banks_49 (by decide) ?_
          exact J_53 4 _ _ _ ⟨hP, hD, hS, lv_sub hl [1, 2, 0] rfl, by first | rw [if_pos (by omega)] | rw [if_neg (by omega)]⟩
      · clear hP hD hS hl
        rintro v2 H locs ls ⟨hP, hD, hS, hl, hv2⟩
        have hP : va_P D vwCl [(h0, wMo q R C tn dn ag md em)] H := hP
        have hD : va_D A [(h0, wMo q R C tn dn ag md em)] := hD
        have hl : lv_has ls 3 [(0, .ref h0), (1, .int (nI F)), (2, .int (nI (v0 ||| v1)))] := hl
        have hv2 : v2 = if F % C = 0 then 4 else 0 := hv2
        refine lv_ior hx hb dX6_banks_53 ?_
        refine k_toi (y := nI ((v0 ||| v1) ||| v2)) (fa_or _ _) ?_
        refine lv_istore_n (lv' := [(2, .int (nI ((v0 ||| v1) ||| v2))), (0, .ref h0), (1, .int (nI F))]) hx hb dX6_banks_54 rfl hl (by decide) rfl (fun ls hl => ?_)
        refine lv_iload_n hx hb dX6_banks_55 rfl (lv_at hl 0 rfl) ?_
        refine kw_cut (σ := Nat) (fun (v3 : Nat) H locs ls => va_P D vwCl [(h0, wMo q R C tn dn ag md em)] H ∧ va_D A [(h0, wMo q R C tn dn ag md em)] ∧ va_S A s.heap H locs ∧ lv_has ls 3 [(0, .ref h0), (1, .int (nI F)), (2, .int (nI ((v0 ||| v1) ||| v2)))] ∧ (v3 = if F % C = C - 1 then 8 else 0)) 77 (fun (v3 : Nat) => [.int (nI v3), .int (nI ((v0 ||| v1) ||| v2))]) (fun J_77 => ?_) ?_
        · refine lv_iload_n hx hb dX6_banks_56 rfl (lv_at hl 2 rfl) ?_
          refine lv_aload_n hx hb dX6_banks_57 rfl (lv_at hl 1 rfl) ?_
          refine va_get (D := D) (ci := 6) (v := .int (nI C)) (C := RX6) (T := TX6) (N := 17) hx hb hts kiX6_banks_X6 hown hK hP 0 rfl rfl 1 (by decide) (hts (.fieldLink RX6 13 "TwoBanksModel" "columns" "I") (List.mem_of_getElem? (i := 1) rfl)) (fun _ h9 => h9) rfl dX6_banks_58 ?_
          refine lv_irem hx hb dX6_banks_61 (nI_ne0 (by omega) (by omega)) ?_
          refine k_toi (y := nI (F % C)) (pk_rem (by omega) (by omega) (by omega)) ?_
          refine lv_aload_n hx hb dX6_banks_62 rfl (lv_at hl 1 rfl) ?_
          refine va_get (D := D) (ci := 6) (v := .int (nI C)) (C := RX6) (T := TX6) (N := 17) hx hb hts kiX6_banks_X6 hown hK hP 0 rfl rfl 1 (by decide) (hts (.fieldLink RX6 13 "TwoBanksModel" "columns" "I") (List.mem_of_getElem? (i := 1) rfl)) (fun _ h9 => h9) rfl dX6_banks_63 ?_
          refine lv_iconst (v := (nI 1)) hx hb dX6_banks_66 (by decide) ?_
          refine lv_isub hx hb dX6_banks_67 ?_
          refine k_toi (y := nI (C - 1)) (pk_sub (by omega)) ?_
          refine kw_icmp_ne (tgt := 76) hx hb dX6_banks_68 (by decide) (by omega) (by omega) (fun c_68_4 => ?_) (fun c_68_4 => ?_)
          · refine lv_iconst (v := (nI 0)) hx hb dX6_banks_76 (by decide) ?_
            exact J_77 0 _ _ _ ⟨hP, hD, hS, lv_sub hl [1, 2, 0] rfl, by first | rw [if_pos (by omega)] | rw [if_neg (by omega)]⟩
          · refine lv_bipush (v := (nI 8)) hx hb dX6_banks_71 (by decide) ?_
            refine lv_goto (tgt := 77) hx hb dX6_banks_73 (by decide) ?_
            exact J_77 8 _ _ _ ⟨hP, hD, hS, lv_sub hl [1, 2, 0] rfl, by first | rw [if_pos (by omega)] | rw [if_neg (by omega)]⟩
        · clear hP hD hS hl
          rintro v3 H locs ls ⟨hP, hD, hS, hl, hv3⟩
          have hP : va_P D vwCl [(h0, wMo q R C tn dn ag md em)] H := hP
          have hD : va_D A [(h0, wMo q R C tn dn ag md em)] := hD
          have hl : lv_has ls 3 [(0, .ref h0), (1, .int (nI F)), (2, .int (nI ((v0 ||| v1) ||| v2)))] := hl
          have hv3 : v3 = if F % C = C - 1 then 8 else 0 := hv3
          refine lv_ior hx hb dX6_banks_77 ?_
          refine k_toi (y := nI (((v0 ||| v1) ||| v2) ||| v3)) (fa_or _ _) ?_
          exact W.iret (v := (nI (((v0 ||| v1) ||| v2) ||| v3))) hx hb hr (fun t ht hW => ⟨⟨(nI (((v0 ||| v1) ||| v2) ||| v3)), (), rfl, (by subst hv0 hv1 hv2 hv3; unfold mBk; rw [Nat.or_assoc]), by rw [ht]; exact hP, hD⟩, hS.F ht⟩) hS.2.2 dX6_banks_78
