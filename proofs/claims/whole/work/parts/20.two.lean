abbrev wTB (tg td tp b0 l0 : Nat) (no we : Int64) (tl un : Nat) : va_E := .inr (5, [.ref tg, .ref td, .ref tp, .ref b0, .ref l0, .long no, .long we, .int (nI tl), .int (nI un)])
def sAt (no we : Int64) (k : Nat) : Nat := if bq no k = true then 1 else if bq we k = true then 2 else 0
theorem sAt_le (no we : Int64) (k : Nat) : sAt no we k ≤ 2 := by unfold sAt; split; omega; split <;> omega
theorem sAt_1 {no we : Int64} {k : Nat} (hk : k < 36) (h : ¬ no &&& gBit (nI k) = 0) : sAt no we k = 1 := if_pos (bit_on hk h)
theorem sAt_2 {no we : Int64} {k : Nat} (hk : k < 36) (h0 : no &&& gBit (nI k) = 0) (h : ¬ we &&& gBit (nI k) = 0) : sAt no we k = 2 := by unfold sAt; rw [if_neg (by rw [bit_off hk h0]; decide), if_pos (bit_on hk h)]
theorem sAt_0 {no we : Int64} {k : Nat} (hk : k < 36) (h0 : no &&& gBit (nI k) = 0) (h : we &&& gBit (nI k) = 0) : sAt no we k = 0 := by unfold sAt; rw [if_neg (by rw [bit_off hk h0]; decide), if_neg (by rw [bit_off hk h]; decide)]
def gPut (x : Int64) (k : Nat) (b : Bool) : Int64 := if b then (x &&& (gBit (nI k) ^^^ (-1))) ||| gBit (nI k) else x &&& (gBit (nI k) ^^^ (-1))
theorem gPut_1 {x : Int64} {k cv d : Nat} (h : cv = d) : gPut x k (decide (cv = d)) = (x &&& (gBit (nI k) ^^^ (-1))) ||| gBit (nI k) := by unfold gPut; rw [decide_eq_true h]; rfl
theorem gPut_0 {x : Int64} {k cv d : Nat} (h : ¬ cv = d) : gPut x k (decide (cv = d)) = x &&& (gBit (nI k) ^^^ (-1)) := by unfold gPut; rw [decide_eq_false h]; rfl
def gSt (no we : Int64) (cv : Nat) : Int64 := if cv = 1 then no else we
def gGrp (R C : Nat) (no we : Int64) (k : Nat) : Int64 := if sAt no we k = 0 then 0 else gSp R C (gBit (nI k)) (gSt no we (sAt no we k))
def gWho (R C : Nat) (no we : Int64) : Nat := if gSp R C (gNo C) no &&& gSo R C ≠ 0 then 1 else if gSp R C (gWeN C R) we &&& gEa R C ≠ 0 then 2 else 0
theorem gWho_1 {R C : Nat} {no we : Int64} (h : gSp R C (gNo C) no &&& gSo R C ≠ 0) : gWho R C no we = 1 := if_pos h
theorem gWho_2 {R C : Nat} {no we : Int64} (h0 : gSp R C (gNo C) no &&& gSo R C = 0) (h : gSp R C (gWeN C R) we &&& gEa R C ≠ 0) : gWho R C no we = 2 := by unfold gWho; rw [if_neg (fun hh => hh h0), if_pos h]
theorem gWho_0 {R C : Nat} {no we : Int64} (h0 : gSp R C (gNo C) no &&& gSo R C = 0) (h : gSp R C (gWeN C R) we &&& gEa R C = 0) : gWho R C no we = 0 := by unfold gWho; rw [if_neg (fun hh => hh h0), if_neg (fun hh => hh h)]
theorem gWho_le (R C : Nat) (no we : Int64) : gWho R C no we ≤ 2 := by unfold gWho; split; omega; split <;> omega
theorem gWho_i1 {R C : Nat} {no we : Int64} (h : gWho R C no we = 1) : gSp R C (gNo C) no &&& gSo R C ≠ 0 := by
  unfold gWho at h
  by_cases e : gSp R C (gNo C) no &&& gSo R C ≠ 0
  · exact e
  · rw [if_neg e] at h
    split at h <;> cases h
theorem gWho_i2 {R C : Nat} {no we : Int64} (h : gWho R C no we = 2) : gSp R C (gWeN C R) we &&& gEa R C ≠ 0 := by
  unfold gWho at h
  by_cases e : gSp R C (gNo C) no &&& gSo R C ≠ 0
  · rw [if_pos e] at h; cases h
  · rw [if_neg e] at h
    by_cases e2 : gSp R C (gWeN C R) we &&& gEa R C ≠ 0
    · exact e2
    · rw [if_neg e2] at h; cases h
theorem col_nat {n : Int32} (h : n = nI 1 ∨ n = nI 2) : ∃ w, (w = 1 ∨ w = 2) ∧ n = nI w := by
  rcases h with h | h
  · exact ⟨1, Or.inl rfl, h⟩
  · exact ⟨2, Or.inr rfl, h⟩
theorem k_oth {n : Nat} (h : n = 1 ∨ n = 2) : (if nI n = nI 1 then nI 2 else nI 1) = nI (3 - n) := by
  rcases h with rfl | rfl <;> rfl
/-- K layers lead from the far bank to the near one -/
def pathK (R C : Nat) (x st t : Int64) (K : Nat) : Prop := K < 36 ∧ (∀ j, j < K → (pL R C x t j).1 &&& st = 0) ∧ (pL R C x t K).1 &&& st ≠ 0 ∧ ∀ j, j ≤ K → (pL R C x t j).1 ≠ 0
/-- the way, as the object holds it -/
def wayOK (R C : Nat) (x st t : Int64) (ln : Nat) (fs : Nat → Int32) : Prop := ∃ K, pathK R C x st t K ∧ ln = K + 1 ∧ ∀ j, j ≤ K → fs j = pF R C x t st K j
def wayIs (R C : Nat) (no we : Int64) (ln : Nat) (fs : Nat → Int32) : Prop := (gWho R C no we = 1 ∧ wayOK R C no (gNo C) (gSo R C) ln fs) ∨ (gWho R C no we = 2 ∧ wayOK R C we (gWeN C R) (gEa R C) ln fs) ∨ (gWho R C no we = 0 ∧ ln = 0)
theorem pathK_ex {R C : Nat} (hR1 : 1 ≤ R) (hR2 : R ≤ 6) (hC1 : 1 ≤ C) (hC2 : C ≤ 6) {x st t : Int64} (hx : ∀ i, bq x i = true → i < R * C) (h : gSp R C st x &&& t ≠ 0) : ∃ K, pathK R C x st t K := pathK_ex9 hR1 hR2 hC1 hC2 hx h
theorem kiX5_stoneAt_X5 : ∀ w ∈ u_ws RX5 TX5 9, w ∈ wsX5_stoneAt := fun w h => List.mem_cons_of_mem _ (List.mem_append_right _ h)
set_option maxHeartbeats 4000000 in
set_option maxRecDepth 100000 in
theorem c_T_stoneAt (l : Launch) (D : va_G) (cI cJ cZ : ClassId) (t0 tg td tp b0 l0 : Nat) (no we : Int64) (tl un : Nat) (k : Nat) (qk : k < 36) (sz : Nat) : kMI l yX5_stoneAt wsX5_stoneAt 1 20 D cI cJ cZ [.ref t0, .int (nI k)] [(t0, wTB tg td tp b0 l0 no we tl un)] sz (fun r (_ : Unit) => r = nI (sAt no we k)) (fun _ : Unit => [(t0, wTB tg td tp b0 l0 no we tl un)]) := by
  refine Met.ofW (cc := cX5_stoneAt) (maxL := 2) (ret := (some .int)) (by decide) rfl ?_
  intro p e s m args below meth c s₁ B hml hv
  obtain ⟨rfl, hsz, hP, ⟨hK, hN⟩, hD0⟩ := hv
  have hx := B.exec
  have hb := B.bytes
  have hr := B.returns
  have hts := atoms_spec (ws := wsX5_stoneAt) B.pre
  have hown : s.vm.findClass RX5 = some m.cls := findClass_of_methodNamed B.named
  have hlocks := B.notSynchronized
  subst hsz
  have hD := hD0.self (sz := s.heap.size)
  generalize hAe : va_A [(t0, wTB tg td tp b0 l0 no we tl un)] s.heap.size = A at hD ⊢
  have hA : ∀ q : Nat, s.heap.size ≤ q → A q := fun q h => by rw [← hAe]; exact Or.inr h
  have hS : va_S A s.heap s.heap [] := va_S.rf
  have hl := lv_entry ([.ref t0, .int (nI k)]) (n := 2) (Nat.le_of_ble_eq_true rfl)
  rw [lg_entry_eq]
  generalize (lg_sl ([.ref t0, .int (nI k)]) ++ List.replicate (2 - (lg_sl ([.ref t0, .int (nI k)])).length) Slot.unset).toArray = ls at hl ⊢
  have hl : lv_has ls 2 [(0, .ref t0), (1, .int (nI k))] := hl
  have hK2 : kK D cI cJ cZ s := ⟨hK, hN⟩
  clear hD0
  refine lv_aload_n hx hb dX5_stoneAt_0 rfl (lv_at hl 0 rfl) ?_
  refine va_get (D := D) (ci := 5) (v := .long no) (C := RX5) (T := TX5) (N := 9) hx hb hts kiX5_stoneAt_X5 hown hK hP 0 rfl rfl 5 (by decide) (hts (.fieldLink RX5 115 "TwoBanks" "north" "J") (List.mem_of_getElem? (i := 1) rfl)) (fun _ h9 => h9) rfl dX5_stoneAt_1 ?_
  refine lv_iload_n hx hb dX5_stoneAt_4 rfl (lv_at hl 1 rfl) ?_
  refine k_calll (wr := [(t0, wTB tg td tp b0 l0 no we tl un)]) (w2 := (fun _ : Unit => [(t0, wTB tg td tp b0 l0 no we tl un)])) (va_runS (As := [.int (nI k)]) (rest := [.long no]) ⟨hx, hb, hml, hown, hts⟩ (c_bit l D cI cJ cZ (nI k)  s.heap.size) (va_cwS 1 hts gX5_stoneAt_X5_bit rfl rfl rfl (by decide +kernel) ⟨Nat.le_of_ble_eq_true rfl, Nat.le_of_ble_eq_true rfl⟩) (kPS (wc := []) hK2 hP hD [] rfl (by decide)) rfl rfl hl.1 rfl (lv_room (Nat.le_of_ble_eq_true rfl)) dX5_stoneAt_5 ⟨Nat.le_of_ble_eq_true rfl, Nat.le_of_ble_eq_true rfl⟩) hP hD hS hA [] [0] [0] rfl rfl (by decide) (by decide) (fun _ => rfl) (by decide) (fun r_1 u_1 H locs hw_1 hP hD hS => ?_)
  have hP : va_P D vwCl [(t0, wTB tg td tp b0 l0 no we tl un)] H := hP
  have hD : va_D A [(t0, wTB tg td tp b0 l0 no we tl un)] := hD
  subst hw_1
  refine lv_land hx hb dX5_stoneAt_8 ?_
  refine lv_lconst (v := 0) hx hb dX5_stoneAt_9 (by decide) ?_
  refine W.lcmp hx hb dX5_stoneAt_10 ?_
  refine kw_cmp_eq (tgt := 16) hx hb dX5_stoneAt_11 (by decide) (fun c_11_2 => ?_) (fun c_11_2 => ?_)
  · refine lv_aload_n hx hb dX5_stoneAt_16 rfl (lv_at hl 0 rfl) ?_
    refine va_get (D := D) (ci := 5) (v := .long we) (C := RX5) (T := TX5) (N := 9) hx hb hts kiX5_stoneAt_X5 hown hK hP 0 rfl rfl 6 (by decide) (hts (.fieldLink RX5 107 "TwoBanks" "west" "J") (List.mem_of_getElem? (i := 2) rfl)) (fun _ h9 => h9) rfl dX5_stoneAt_17 ?_
    refine lv_iload_n hx hb dX5_stoneAt_20 rfl (lv_at hl 1 rfl) ?_
    refine k_calll (wr := [(t0, wTB tg td tp b0 l0 no we tl un)]) (w2 := (fun _ : Unit => [(t0, wTB tg td tp b0 l0 no we tl un)])) (va_runS (As := [.int (nI k)]) (rest := [.long we]) ⟨hx, hb, hml, hown, hts⟩ (c_bit l D cI cJ cZ (nI k)  H.size) (va_cwS 1 hts gX5_stoneAt_X5_bit rfl rfl rfl (by decide +kernel) ⟨Nat.le_of_ble_eq_true rfl, Nat.le_of_ble_eq_true rfl⟩) (kPS (wc := []) hK2 hP hD [] rfl (by decide)) rfl rfl hl.1 rfl (lv_room (Nat.le_of_ble_eq_true rfl)) dX5_stoneAt_21 ⟨Nat.le_of_ble_eq_true rfl, Nat.le_of_ble_eq_true rfl⟩) hP hD hS hA [] [0] [0] rfl rfl (by decide) (by decide) (fun _ => rfl) (by decide) (fun r_3 u_3 H locs hw_3 hP hD hS => ?_)
    have hP : va_P D vwCl [(t0, wTB tg td tp b0 l0 no we tl un)] H := hP
    have hD : va_D A [(t0, wTB tg td tp b0 l0 no we tl un)] := hD
    subst hw_3
    refine lv_land hx hb dX5_stoneAt_24 ?_
    refine lv_lconst (v := 0) hx hb dX5_stoneAt_25 (by decide) ?_
    refine W.lcmp hx hb dX5_stoneAt_26 ?_
    refine kw_cmp_eq (tgt := 34) hx hb dX5_stoneAt_27 (by decide) (fun c_27_4 => ?_) (fun c_27_4 => ?_)
    · refine lv_iconst (v := (nI 0)) hx hb dX5_stoneAt_34 (by decide) ?_
      exact W.iret (v := (nI 0)) hx hb hr (fun t ht hW => ⟨⟨(nI 0), (), rfl, (by first | rw [sAt_1 qk (by assumption)] | rw [sAt_2 qk (by assumption) (by assumption)] | rw [sAt_0 qk (by assumption) (by assumption)]), by rw [ht]; exact hP, hD⟩, hS.F ht⟩) hS.2.2 dX5_stoneAt_35
    · refine lv_iconst (v := (nI 2)) hx hb dX5_stoneAt_30 (by decide) ?_
      refine lv_goto (tgt := 35) hx hb dX5_stoneAt_31 (by decide) ?_
      exact W.iret (v := (nI 2)) hx hb hr (fun t ht hW => ⟨⟨(nI 2), (), rfl, (by first | rw [sAt_1 qk (by assumption)] | rw [sAt_2 qk (by assumption) (by assumption)] | rw [sAt_0 qk (by assumption) (by assumption)]), by rw [ht]; exact hP, hD⟩, hS.F ht⟩) hS.2.2 dX5_stoneAt_35
  · refine lv_iconst (v := (nI 1)) hx hb dX5_stoneAt_14 (by decide) ?_
    exact W.iret (v := (nI 1)) hx hb hr (fun t ht hW => ⟨⟨(nI 1), (), rfl, (by first | rw [sAt_1 qk (by assumption)] | rw [sAt_2 qk (by assumption) (by assumption)] | rw [sAt_0 qk (by assumption) (by assumption)]), by rw [ht]; exact hP, hD⟩, hS.F ht⟩) hS.2.2 dX5_stoneAt_15

theorem kiX5_put_X5 : ∀ w ∈ u_ws RX5 TX5 9, w ∈ wsX5_put := fun w h => List.mem_cons_of_mem _ (List.mem_append_right _ h)
set_option maxHeartbeats 4000000 in
set_option maxRecDepth 100000 in
theorem c_T_put (l : Launch) (D : va_G) (cI cJ cZ : ClassId) (t0 tg td tp b0 l0 : Nat) (no we : Int64) (tl un : Nat) (k cv : Nat) (qk : k < 36) (qcv : cv ≤ 2) (sz : Nat) : kMV l yX5_put wsX5_put 1 20 D cI cJ cZ [.ref t0, .int (nI k), .int (nI cv)] [(t0, wTB tg td tp b0 l0 no we tl un)] sz (fun (_ : Unit) => True) (fun _ : Unit => [(t0, wTB tg td tp b0 l0 (gPut no k (decide (cv = 1))) (gPut we k (decide (cv = 2))) tl un)]) := by
  refine Met.ofW (cc := cX5_put) (maxL := 3) (ret := none) (by decide) rfl ?_
  intro p e s m args below meth c s₁ B hml hv
  obtain ⟨rfl, hsz, hP, ⟨hK, hN⟩, hD0⟩ := hv
  have hx := B.exec
  have hb := B.bytes
  have hr := B.returns
  have hts := atoms_spec (ws := wsX5_put) B.pre
  have hown : s.vm.findClass RX5 = some m.cls := findClass_of_methodNamed B.named
  have hlocks := B.notSynchronized
  subst hsz
  have hD := hD0.self (sz := s.heap.size)
  generalize hAe : va_A [(t0, wTB tg td tp b0 l0 no we tl un)] s.heap.size = A at hD ⊢
  have hA : ∀ q : Nat, s.heap.size ≤ q → A q := fun q h => by rw [← hAe]; exact Or.inr h
  have hS : va_S A s.heap s.heap [] := va_S.rf
  have hl := lv_entry ([.ref t0, .int (nI k), .int (nI cv)]) (n := 3) (Nat.le_of_ble_eq_true rfl)
  rw [lg_entry_eq]
  generalize (lg_sl ([.ref t0, .int (nI k), .int (nI cv)]) ++ List.replicate (3 - (lg_sl ([.ref t0, .int (nI k), .int (nI cv)])).length) Slot.unset).toArray = ls at hl ⊢
  have hl : lv_has ls 3 [(0, .ref t0), (1, .int (nI k)), (2, .int (nI cv))] := hl
  have hK2 : kK D cI cJ cZ s := ⟨hK, hN⟩
  clear hD0
  refine lv_aload_n hx hb dX5_put_0 rfl (lv_at hl 0 rfl) ?_
  refine lv_dup hx hb dX5_put_1 rfl ?_
  refine va_get (D := D) (ci := 5) (v := .long no) (C := RX5) (T := TX5) (N := 9) hx hb hts kiX5_put_X5 hown hK hP 0 rfl rfl 5 (by decide) (hts (.fieldLink RX5 115 "TwoBanks" "north" "J") (List.mem_of_getElem? (i := 1) rfl)) (fun _ h9 => h9) rfl dX5_put_2 ?_
  refine lv_iload_n hx hb dX5_put_5 rfl (lv_at hl 1 rfl) ?_
  refine k_calll (wr := [(t0, wTB tg td tp b0 l0 no we tl un)]) (w2 := (fun _ : Unit => [(t0, wTB tg td tp b0 l0 no we tl un)])) (va_runS (As := [.int (nI k)]) (rest := [.long no, .ref t0]) ⟨hx, hb, hml, hown, hts⟩ (c_bit l D cI cJ cZ (nI k)  s.heap.size) (va_cwS 1 hts gX5_put_X5_bit rfl rfl rfl (by decide +kernel) ⟨Nat.le_of_ble_eq_true rfl, Nat.le_of_ble_eq_true rfl⟩) (kPS (wc := []) hK2 hP hD [] rfl (by decide)) rfl rfl hl.1 rfl (lv_room (Nat.le_of_ble_eq_true rfl)) dX5_put_6 ⟨Nat.le_of_ble_eq_true rfl, Nat.le_of_ble_eq_true rfl⟩) hP hD hS hA [] [0] [0] rfl rfl (by decide) (by decide) (fun _ => rfl) (by decide) (fun r_1 u_1 H locs hw_1 hP hD hS => ?_)
  have hP : va_P D vwCl [(t0, wTB tg td tp b0 l0 no we tl un)] H := hP
  have hD : va_D A [(t0, wTB tg td tp b0 l0 no we tl un)] := hD
  subst hw_1
  refine lv_ldc2 (v := (-1)) hx hb hown (hts (.constantLong RX5 197 (-1)) (List.mem_of_getElem? (i := 2) rfl)) dX5_put_9 ?_
  refine lv_lxor hx hb dX5_put_12 ?_
  refine lv_land hx hb dX5_put_13 ?_
  refine va_put (D := D) (ci := 5) (v := .long (no &&& ((gBit (nI k)) ^^^ (-1)))) (ty := .long) (C := RX5) (T := TX5) (N := 9) hx hb hts kiX5_put_X5 tyX5 tyX5_ok nmX5 hown hK hP hD hS 0 rfl rfl 5 (by decide) (hts (.fieldLink RX5 115 "TwoBanks" "north" "J") (List.mem_of_getElem? (i := 1) rfl)) (fun _ h9 => h9) rfl  (by decide +kernel) rfl rfl (Nat.le_of_ble_eq_true rfl) dX5_put_14 (fun H locs hP hD hS => ?_)
  have hP : va_P D vwCl [(t0, .inr (5, [.ref tg, .ref td, .ref tp, .ref b0, .ref l0, .long (no &&& ((gBit (nI k)) ^^^ (-1))), .long we, .int (nI tl), .int (nI un)]))] H := hP
  have hD : va_D A [(t0, .inr (5, [.ref tg, .ref td, .ref tp, .ref b0, .ref l0, .long (no &&& ((gBit (nI k)) ^^^ (-1))), .long we, .int (nI tl), .int (nI un)]))] := hD
  refine lv_aload_n hx hb dX5_put_17 rfl (lv_at hl 0 rfl) ?_
  refine lv_dup hx hb dX5_put_18 rfl ?_
  refine va_get (D := D) (ci := 5) (v := .long we) (C := RX5) (T := TX5) (N := 9) hx hb hts kiX5_put_X5 hown hK hP 0 rfl rfl 6 (by decide) (hts (.fieldLink RX5 107 "TwoBanks" "west" "J") (List.mem_of_getElem? (i := 3) rfl)) (fun _ h9 => h9) rfl dX5_put_19 ?_
  refine lv_iload_n hx hb dX5_put_22 rfl (lv_at hl 1 rfl) ?_
  refine k_calll (wr := [(t0, .inr (5, [.ref tg, .ref td, .ref tp, .ref b0, .ref l0, .long (no &&& ((gBit (nI k)) ^^^ (-1))), .long we, .int (nI tl), .int (nI un)]))]) (w2 := (fun _ : Unit => [(t0, .inr (5, [.ref tg, .ref td, .ref tp, .ref b0, .ref l0, .long (no &&& ((gBit (nI k)) ^^^ (-1))), .long we, .int (nI tl), .int (nI un)]))])) (va_runS (As := [.int (nI k)]) (rest := [.long we, .ref t0]) ⟨hx, hb, hml, hown, hts⟩ (c_bit l D cI cJ cZ (nI k)  H.size) (va_cwS 1 hts gX5_put_X5_bit rfl rfl rfl (by decide +kernel) ⟨Nat.le_of_ble_eq_true rfl, Nat.le_of_ble_eq_true rfl⟩) (kPS (wc := []) hK2 hP hD [] rfl (by decide)) rfl rfl hl.1 rfl (lv_room (Nat.le_of_ble_eq_true rfl)) dX5_put_23 ⟨Nat.le_of_ble_eq_true rfl, Nat.le_of_ble_eq_true rfl⟩) hP hD hS hA [] [0] [0] rfl rfl (by decide) (by decide) (fun _ => rfl) (by decide) (fun r_2 u_2 H locs hw_2 hP hD hS => ?_)
  have hP : va_P D vwCl [(t0, .inr (5, [.ref tg, .ref td, .ref tp, .ref b0, .ref l0, .long (no &&& ((gBit (nI k)) ^^^ (-1))), .long we, .int (nI tl), .int (nI un)]))] H := hP
  have hD : va_D A [(t0, .inr (5, [.ref tg, .ref td, .ref tp, .ref b0, .ref l0, .long (no &&& ((gBit (nI k)) ^^^ (-1))), .long we, .int (nI tl), .int (nI un)]))] := hD
  subst hw_2
  refine lv_ldc2 (v := (-1)) hx hb hown (hts (.constantLong RX5 197 (-1)) (List.mem_of_getElem? (i := 2) rfl)) dX5_put_26 ?_
  refine lv_lxor hx hb dX5_put_29 ?_
  refine lv_land hx hb dX5_put_30 ?_
  refine va_put (D := D) (ci := 5) (v := .long (we &&& ((gBit (nI k)) ^^^ (-1)))) (ty := .long) (C := RX5) (T := TX5) (N := 9) hx hb hts kiX5_put_X5 tyX5 tyX5_ok nmX5 hown hK hP hD hS 0 rfl rfl 6 (by decide) (hts (.fieldLink RX5 107 "TwoBanks" "west" "J") (List.mem_of_getElem? (i := 3) rfl)) (fun _ h9 => h9) rfl  (by decide +kernel) rfl rfl (Nat.le_of_ble_eq_true rfl) dX5_put_31 (fun H locs hP hD hS => ?_)
  have hP : va_P D vwCl [(t0, .inr (5, [.ref tg, .ref td, .ref tp, .ref b0, .ref l0, .long (no &&& ((gBit (nI k)) ^^^ (-1))), .long (we &&& ((gBit (nI k)) ^^^ (-1))), .int (nI tl), .int (nI un)]))] H := hP
  have hD : va_D A [(t0, .inr (5, [.ref tg, .ref td, .ref tp, .ref b0, .ref l0, .long (no &&& ((gBit (nI k)) ^^^ (-1))), .long (we &&& ((gBit (nI k)) ^^^ (-1))), .int (nI tl), .int (nI un)]))] := hD
  refine lv_iload_n hx hb dX5_put_34 rfl (lv_at hl 2 rfl) ?_
  refine lv_iconst (v := (nI 1)) hx hb dX5_put_35 (by decide) ?_
  refine kw_icmp_ne (tgt := 55) hx hb dX5_put_36 (by decide) (by omega) (by omega) (fun c_36_3 => ?_) (fun c_36_3 => ?_)
  · refine lv_iload_n hx hb dX5_put_55 rfl (lv_at hl 2 rfl) ?_
    refine lv_iconst (v := (nI 2)) hx hb dX5_put_56 (by decide) ?_
    refine kw_icmp_ne (tgt := 73) hx hb dX5_put_57 (by decide) (by omega) (by omega) (fun c_57_4 => ?_) (fun c_57_4 => ?_)
    · have hP : va_P D vwCl [(t0, wTB tg td tp b0 l0 (gPut no k (decide (cv = 1))) (gPut we k (decide (cv = 2))) tl un)] H := (by first | (rw [gPut_1 (by assumption), gPut_0 (by omega)]; exact hP) | (rw [gPut_0 (by assumption), gPut_1 (by assumption)]; exact hP) | (rw [gPut_0 (by assumption), gPut_0 (by assumption)]; exact hP))
      have hD : va_D A [(t0, wTB tg td tp b0 l0 (gPut no k (decide (cv = 1))) (gPut we k (decide (cv = 2))) tl un)] := (by first | (rw [gPut_1 (by assumption), gPut_0 (by omega)]; exact hD) | (rw [gPut_0 (by assumption), gPut_1 (by assumption)]; exact hD) | (rw [gPut_0 (by assumption), gPut_0 (by assumption)]; exact hD))
      exact W.vret hx hb hr (fun t ht hW => ⟨⟨(), rfl, trivial, by rw [ht]; exact hP, hD⟩, hS.F ht⟩) hS.2.2 dX5_put_73
    · refine lv_aload_n hx hb dX5_put_60 rfl (lv_at hl 0 rfl) ?_
      refine lv_dup hx hb dX5_put_61 rfl ?_
      refine va_get (D := D) (ci := 5) (v := .long (we &&& ((gBit (nI k)) ^^^ (-1)))) (C := RX5) (T := TX5) (N := 9) hx hb hts kiX5_put_X5 hown hK hP 0 rfl rfl 6 (by decide) (hts (.fieldLink RX5 107 "TwoBanks" "west" "J") (List.mem_of_getElem? (i := 3) rfl)) (fun _ h9 => h9) rfl dX5_put_62 ?_
      refine lv_iload_n hx hb dX5_put_65 rfl (lv_at hl 1 rfl) ?_
      refine k_calll (wr := [(t0, .inr (5, [.ref tg, .ref td, .ref tp, .ref b0, .ref l0, .long (no &&& ((gBit (nI k)) ^^^ (-1))), .long (we &&& ((gBit (nI k)) ^^^ (-1))), .int (nI tl), .int (nI un)]))]) (w2 := (fun _ : Unit => [(t0, .inr (5, [.ref tg, .ref td, .ref tp, .ref b0, .ref l0, .long (no &&& ((gBit (nI k)) ^^^ (-1))), .long (we &&& ((gBit (nI k)) ^^^ (-1))), .int (nI tl), .int (nI un)]))])) (va_runS (As := [.int (nI k)]) (rest := [.long (we &&& ((gBit (nI k)) ^^^ (-1))), .ref t0]) ⟨hx, hb, hml, hown, hts⟩ (c_bit l D cI cJ cZ (nI k)  H.size) (va_cwS 1 hts gX5_put_X5_bit rfl rfl rfl (by decide +kernel) ⟨Nat.le_of_ble_eq_true rfl, Nat.le_of_ble_eq_true rfl⟩) (kPS (wc := []) hK2 hP hD [] rfl (by decide)) rfl rfl hl.1 rfl (lv_room (Nat.le_of_ble_eq_true rfl)) dX5_put_66 ⟨Nat.le_of_ble_eq_true rfl, Nat.le_of_ble_eq_true rfl⟩) hP hD hS hA [] [0] [0] rfl rfl (by decide) (by decide) (fun _ => rfl) (by decide) (fun r_5 u_5 H locs hw_5 hP hD hS => ?_)
      have hP : va_P D vwCl [(t0, .inr (5, [.ref tg, .ref td, .ref tp, .ref b0, .ref l0, .long (no &&& ((gBit (nI k)) ^^^ (-1))), .long (we &&& ((gBit (nI k)) ^^^ (-1))), .int (nI tl), .int (nI un)]))] H := hP
      have hD : va_D A [(t0, .inr (5, [.ref tg, .ref td, .ref tp, .ref b0, .ref l0, .long (no &&& ((gBit (nI k)) ^^^ (-1))), .long (we &&& ((gBit (nI k)) ^^^ (-1))), .int (nI tl), .int (nI un)]))] := hD
      subst hw_5
      refine lv_lor hx hb dX5_put_69 ?_
      refine va_put (D := D) (ci := 5) (v := .long ((we &&& ((gBit (nI k)) ^^^ (-1))) ||| (gBit (nI k)))) (ty := .long) (C := RX5) (T := TX5) (N := 9) hx hb hts kiX5_put_X5 tyX5 tyX5_ok nmX5 hown hK hP hD hS 0 rfl rfl 6 (by decide) (hts (.fieldLink RX5 107 "TwoBanks" "west" "J") (List.mem_of_getElem? (i := 3) rfl)) (fun _ h9 => h9) rfl  (by decide +kernel) rfl rfl (Nat.le_of_ble_eq_true rfl) dX5_put_70 (fun H locs hP hD hS => ?_)
      have hP : va_P D vwCl [(t0, .inr (5, [.ref tg, .ref td, .ref tp, .ref b0, .ref l0, .long (no &&& ((gBit (nI k)) ^^^ (-1))), .long ((we &&& ((gBit (nI k)) ^^^ (-1))) ||| (gBit (nI k))), .int (nI tl), .int (nI un)]))] H := hP
      have hD : va_D A [(t0, .inr (5, [.ref tg, .ref td, .ref tp, .ref b0, .ref l0, .long (no &&& ((gBit (nI k)) ^^^ (-1))), .long ((we &&& ((gBit (nI k)) ^^^ (-1))) ||| (gBit (nI k))), .int (nI tl), .int (nI un)]))] := hD
      have hP : va_P D vwCl [(t0, wTB tg td tp b0 l0 (gPut no k (decide (cv = 1))) (gPut we k (decide (cv = 2))) tl un)] H := (by first | (rw [gPut_1 (by assumption), gPut_0 (by omega)]; exact hP) | (rw [gPut_0 (by assumption), gPut_1 (by assumption)]; exact hP) | (rw [gPut_0 (by assumption), gPut_0 (by assumption)]; exact hP))
      have hD : va_D A [(t0, wTB tg td tp b0 l0 (gPut no k (decide (cv = 1))) (gPut we k (decide (cv = 2))) tl un)] := (by first | (rw [gPut_1 (by assumption), gPut_0 (by omega)]; exact hD) | (rw [gPut_0 (by assumption), gPut_1 (by assumption)]; exact hD) | (rw [gPut_0 (by assumption), gPut_0 (by assumption)]; exact hD))
      exact W.vret hx hb hr (fun t ht hW => ⟨⟨(), rfl, trivial, by rw [ht]; exact hP, hD⟩, hS.F ht⟩) hS.2.2 dX5_put_73
  · refine lv_aload_n hx hb dX5_put_39 rfl (lv_at hl 0 rfl) ?_
    refine lv_dup hx hb dX5_put_40 rfl ?_
    refine va_get (D := D) (ci := 5) (v := .long (no &&& ((gBit (nI k)) ^^^ (-1)))) (C := RX5) (T := TX5) (N := 9) hx hb hts kiX5_put_X5 hown hK hP 0 rfl rfl 5 (by decide) (hts (.fieldLink RX5 115 "TwoBanks" "north" "J") (List.mem_of_getElem? (i := 1) rfl)) (fun _ h9 => h9) rfl dX5_put_41 ?_
    refine lv_iload_n hx hb dX5_put_44 rfl (lv_at hl 1 rfl) ?_
    refine k_calll (wr := [(t0, .inr (5, [.ref tg, .ref td, .ref tp, .ref b0, .ref l0, .long (no &&& ((gBit (nI k)) ^^^ (-1))), .long (we &&& ((gBit (nI k)) ^^^ (-1))), .int (nI tl), .int (nI un)]))]) (w2 := (fun _ : Unit => [(t0, .inr (5, [.ref tg, .ref td, .ref tp, .ref b0, .ref l0, .long (no &&& ((gBit (nI k)) ^^^ (-1))), .long (we &&& ((gBit (nI k)) ^^^ (-1))), .int (nI tl), .int (nI un)]))])) (va_runS (As := [.int (nI k)]) (rest := [.long (no &&& ((gBit (nI k)) ^^^ (-1))), .ref t0]) ⟨hx, hb, hml, hown, hts⟩ (c_bit l D cI cJ cZ (nI k)  H.size) (va_cwS 1 hts gX5_put_X5_bit rfl rfl rfl (by decide +kernel) ⟨Nat.le_of_ble_eq_true rfl, Nat.le_of_ble_eq_true rfl⟩) (kPS (wc := []) hK2 hP hD [] rfl (by decide)) rfl rfl hl.1 rfl (lv_room (Nat.le_of_ble_eq_true rfl)) dX5_put_45 ⟨Nat.le_of_ble_eq_true rfl, Nat.le_of_ble_eq_true rfl⟩) hP hD hS hA [] [0] [0] rfl rfl (by decide) (by decide) (fun _ => rfl) (by decide) (fun r_6 u_6 H locs hw_6 hP hD hS => ?_)
    have hP : va_P D vwCl [(t0, .inr (5, [.ref tg, .ref td, .ref tp, .ref b0, .ref l0, .long (no &&& ((gBit (nI k)) ^^^ (-1))), .long (we &&& ((gBit (nI k)) ^^^ (-1))), .int (nI tl), .int (nI un)]))] H := hP
    have hD : va_D A [(t0, .inr (5, [.ref tg, .ref td, .ref tp, .ref b0, .ref l0, .long (no &&& ((gBit (nI k)) ^^^ (-1))), .long (we &&& ((gBit (nI k)) ^^^ (-1))), .int (nI tl), .int (nI un)]))] := hD
    subst hw_6
    refine lv_lor hx hb dX5_put_48 ?_
    refine va_put (D := D) (ci := 5) (v := .long ((no &&& ((gBit (nI k)) ^^^ (-1))) ||| (gBit (nI k)))) (ty := .long) (C := RX5) (T := TX5) (N := 9) hx hb hts kiX5_put_X5 tyX5 tyX5_ok nmX5 hown hK hP hD hS 0 rfl rfl 5 (by decide) (hts (.fieldLink RX5 115 "TwoBanks" "north" "J") (List.mem_of_getElem? (i := 1) rfl)) (fun _ h9 => h9) rfl  (by decide +kernel) rfl rfl (Nat.le_of_ble_eq_true rfl) dX5_put_49 (fun H locs hP hD hS => ?_)
    have hP : va_P D vwCl [(t0, .inr (5, [.ref tg, .ref td, .ref tp, .ref b0, .ref l0, .long ((no &&& ((gBit (nI k)) ^^^ (-1))) ||| (gBit (nI k))), .long (we &&& ((gBit (nI k)) ^^^ (-1))), .int (nI tl), .int (nI un)]))] H := hP
    have hD : va_D A [(t0, .inr (5, [.ref tg, .ref td, .ref tp, .ref b0, .ref l0, .long ((no &&& ((gBit (nI k)) ^^^ (-1))) ||| (gBit (nI k))), .long (we &&& ((gBit (nI k)) ^^^ (-1))), .int (nI tl), .int (nI un)]))] := hD
    refine lv_goto (tgt := 73) hx hb dX5_put_52 (by decide) ?_
    have hP : va_P D vwCl [(t0, wTB tg td tp b0 l0 (gPut no k (decide (cv = 1))) (gPut we k (decide (cv = 2))) tl un)] H := (by first | (rw [gPut_1 (by assumption), gPut_0 (by omega)]; exact hP) | (rw [gPut_0 (by assumption), gPut_1 (by assumption)]; exact hP) | (rw [gPut_0 (by assumption), gPut_0 (by assumption)]; exact hP))
    have hD : va_D A [(t0, wTB tg td tp b0 l0 (gPut no k (decide (cv = 1))) (gPut we k (decide (cv = 2))) tl un)] := (by first | (rw [gPut_1 (by assumption), gPut_0 (by omega)]; exact hD) | (rw [gPut_0 (by assumption), gPut_1 (by assumption)]; exact hD) | (rw [gPut_0 (by assumption), gPut_0 (by assumption)]; exact hD))
    exact W.vret hx hb hr (fun t ht hW => ⟨⟨(), rfl, trivial, by rw [ht]; exact hP, hD⟩, hS.F ht⟩) hS.2.2 dX5_put_73

theorem kiX5_stonesOf_X5 : ∀ w ∈ u_ws RX5 TX5 9, w ∈ wsX5_stonesOf := fun w h => List.mem_cons_of_mem _ (List.mem_append_right _ h)
set_option maxHeartbeats 4000000 in
set_option maxRecDepth 100000 in
theorem c_T_stonesOf (l : Launch) (D : va_G) (cI cJ cZ : ClassId) (t0 tg td tp b0 l0 : Nat) (no we : Int64) (tl un : Nat) (cv : Nat) (qcv : cv ≤ 2) (sz : Nat) : kMJ l yX5_stonesOf wsX5_stonesOf 0 0 D cI cJ cZ [.ref t0, .int (nI cv)] [(t0, wTB tg td tp b0 l0 no we tl un)] sz (fun r (_ : Unit) => r = gSt no we cv) (fun _ : Unit => [(t0, wTB tg td tp b0 l0 no we tl un)]) := by
  refine Met.ofW (cc := cX5_stonesOf) (maxL := 2) (ret := (some .long)) (by decide) rfl ?_
  intro p e s m args below meth c s₁ B hml hv
  obtain ⟨rfl, hsz, hP, ⟨hK, hN⟩, hD0⟩ := hv
  have hx := B.exec
  have hb := B.bytes
  have hr := B.returns
  have hts := atoms_spec (ws := wsX5_stonesOf) B.pre
  have hown : s.vm.findClass RX5 = some m.cls := findClass_of_methodNamed B.named
  have hlocks := B.notSynchronized
  subst hsz
  have hD := hD0.self (sz := s.heap.size)
  generalize hAe : va_A [(t0, wTB tg td tp b0 l0 no we tl un)] s.heap.size = A at hD ⊢
  have hA : ∀ q : Nat, s.heap.size ≤ q → A q := fun q h => by rw [← hAe]; exact Or.inr h
  have hS : va_S A s.heap s.heap [] := va_S.rf
  have hl := lv_entry ([.ref t0, .int (nI cv)]) (n := 2) (Nat.le_of_ble_eq_true rfl)
  rw [lg_entry_eq]
  generalize (lg_sl ([.ref t0, .int (nI cv)]) ++ List.replicate (2 - (lg_sl ([.ref t0, .int (nI cv)])).length) Slot.unset).toArray = ls at hl ⊢
  have hl : lv_has ls 2 [(0, .ref t0), (1, .int (nI cv))] := hl
  have hK2 : kK D cI cJ cZ s := ⟨hK, hN⟩
  clear hD0
  refine lv_iload_n hx hb dX5_stonesOf_0 rfl (lv_at hl 1 rfl) ?_
  refine lv_iconst (v := (nI 1)) hx hb dX5_stonesOf_1 (by decide) ?_
  refine kw_icmp_ne (tgt := 12) hx hb dX5_stonesOf_2 (by decide) (by omega) (by omega) (fun c_2_1 => ?_) (fun c_2_1 => ?_)
  · refine lv_aload_n hx hb dX5_stonesOf_12 rfl (lv_at hl 0 rfl) ?_
    refine va_get (D := D) (ci := 5) (v := .long we) (C := RX5) (T := TX5) (N := 9) hx hb hts kiX5_stonesOf_X5 hown hK hP 0 rfl rfl 6 (by decide) (hts (.fieldLink RX5 107 "TwoBanks" "west" "J") (List.mem_of_getElem? (i := 2) rfl)) (fun _ h9 => h9) rfl dX5_stonesOf_13 ?_
    exact W.lret (v := we) hx hb hr (fun t ht hW => ⟨⟨we, (), rfl, (by unfold gSt; first | rw [if_pos (by assumption)] | rw [if_neg (by assumption)]), by rw [ht]; exact hP, hD⟩, hS.F ht⟩) hS.2.2 dX5_stonesOf_16
  · refine lv_aload_n hx hb dX5_stonesOf_5 rfl (lv_at hl 0 rfl) ?_
    refine va_get (D := D) (ci := 5) (v := .long no) (C := RX5) (T := TX5) (N := 9) hx hb hts kiX5_stonesOf_X5 hown hK hP 0 rfl rfl 5 (by decide) (hts (.fieldLink RX5 115 "TwoBanks" "north" "J") (List.mem_of_getElem? (i := 1) rfl)) (fun _ h9 => h9) rfl dX5_stonesOf_6 ?_
    refine lv_goto (tgt := 16) hx hb dX5_stonesOf_9 (by decide) ?_
    exact W.lret (v := no) hx hb hr (fun t ht hW => ⟨⟨no, (), rfl, (by unfold gSt; first | rw [if_pos (by assumption)] | rw [if_neg (by assumption)]), by rw [ht]; exact hP, hD⟩, hS.F ht⟩) hS.2.2 dX5_stonesOf_16

theorem kiX5_empties_X5 : ∀ w ∈ u_ws RX5 TX5 9, w ∈ wsX5_empties := fun w h => List.mem_cons_of_mem _ (List.mem_append_left _ (List.mem_append_right _ h))
set_option maxHeartbeats 4000000 in
set_option maxRecDepth 100000 in
theorem c_T_empties (l : Launch) (D : va_G) (cI cJ cZ : ClassId) (t0 tg td tp b0 l0 : Nat) (no we : Int64) (tl un : Nat) (R C : Nat) (sz : Nat) : kMJ l yX5_empties wsX5_empties 1 20 D cI cJ cZ [.ref t0] [(t0, wTB tg td tp b0 l0 no we tl un), (tg, wGr R C)] sz (fun r (_ : Unit) => r = gSpots R C no we) (fun _ : Unit => [(t0, wTB tg td tp b0 l0 no we tl un), (tg, wGr R C)]) := by
  refine Met.ofW (cc := cX5_empties) (maxL := 1) (ret := (some .long)) (by decide) rfl ?_
  intro p e s m args below meth c s₁ B hml hv
  obtain ⟨rfl, hsz, hP, ⟨hK, hN⟩, hD0⟩ := hv
  have hx := B.exec
  have hb := B.bytes
  have hr := B.returns
  have hts := atoms_spec (ws := wsX5_empties) B.pre
  have hown : s.vm.findClass RX5 = some m.cls := findClass_of_methodNamed B.named
  have hlocks := B.notSynchronized
  subst hsz
  have hD := hD0.self (sz := s.heap.size)
  generalize hAe : va_A [(t0, wTB tg td tp b0 l0 no we tl un), (tg, wGr R C)] s.heap.size = A at hD ⊢
  have hA : ∀ q : Nat, s.heap.size ≤ q → A q := fun q h => by rw [← hAe]; exact Or.inr h
  have hS : va_S A s.heap s.heap [] := va_S.rf
  have hl := lv_entry ([.ref t0]) (n := 1) (Nat.le_of_ble_eq_true rfl)
  rw [lg_entry_eq]
  generalize (lg_sl ([.ref t0]) ++ List.replicate (1 - (lg_sl ([.ref t0])).length) Slot.unset).toArray = ls at hl ⊢
  have hl : lv_has ls 1 [(0, .ref t0)] := hl
  have hK2 : kK D cI cJ cZ s := ⟨hK, hN⟩
  clear hD0
  refine lv_aload_n hx hb dX5_empties_0 rfl (lv_at hl 0 rfl) ?_
  refine va_get (D := D) (ci := 5) (v := .ref tg) (C := RX5) (T := TX5) (N := 9) hx hb hts kiX5_empties_X5 hown hK hP 0 rfl rfl 0 (by decide) (hts (.fieldLink RX5 12 "TwoBanks" "grid" "LTwoBanks$Grid;") (List.mem_of_getElem? (i := 1) rfl)) (fun _ h9 => h9) rfl dX5_empties_1 ?_
  refine k_calll (wr := [(t0, wTB tg td tp b0 l0 no we tl un)]) (w2 := (fun _ : Unit => [(t0, wTB tg td tp b0 l0 no we tl un), (tg, wGr R C)])) (va_runV (As := []) (rest := []) ⟨hx, hb, hml, hown, hts⟩ (c_G_all l D cI cJ cZ tg R C  s.heap.size) (cwV 0 hts gX5_empties_X2_all rfl rfl rfl (by decide +kernel) ⟨Nat.le_of_ble_eq_true rfl, Nat.le_of_ble_eq_true rfl⟩) (kPV (ci := 2) (q0 := 0) (wc := [(tg, wGr R C)]) hK2 hP hD [1] rfl (by decide) rfl rfl) rfl rfl hl.1 rfl (lv_room (Nat.le_of_ble_eq_true rfl)) dX5_empties_4 ⟨Nat.le_of_ble_eq_true rfl, Nat.le_of_ble_eq_true rfl⟩) hP hD hS hA [1] [0] [0, 1] rfl rfl (by decide) (by decide) (fun _ => rfl) (by decide) (fun r_1 u_1 H locs hw_1 hP hD hS => ?_)
  have hP : va_P D vwCl [(t0, wTB tg td tp b0 l0 no we tl un), (tg, wGr R C)] H := hP
  have hD : va_D A [(t0, wTB tg td tp b0 l0 no we tl un), (tg, wGr R C)] := hD
  subst hw_1
  refine lv_aload_n hx hb dX5_empties_7 rfl (lv_at hl 0 rfl) ?_
  refine va_get (D := D) (ci := 5) (v := .long no) (C := RX5) (T := TX5) (N := 9) hx hb hts kiX5_empties_X5 hown hK hP 0 rfl rfl 5 (by decide) (hts (.fieldLink RX5 115 "TwoBanks" "north" "J") (List.mem_of_getElem? (i := 2) rfl)) (fun _ h9 => h9) rfl dX5_empties_8 ?_
  refine lv_aload_n hx hb dX5_empties_11 rfl (lv_at hl 0 rfl) ?_
  refine va_get (D := D) (ci := 5) (v := .long we) (C := RX5) (T := TX5) (N := 9) hx hb hts kiX5_empties_X5 hown hK hP 0 rfl rfl 6 (by decide) (hts (.fieldLink RX5 107 "TwoBanks" "west" "J") (List.mem_of_getElem? (i := 3) rfl)) (fun _ h9 => h9) rfl dX5_empties_12 ?_
  refine lv_lor hx hb dX5_empties_15 ?_
  refine lv_ldc2 (v := (-1)) hx hb hown (hts (.constantLong RX5 197 (-1)) (List.mem_of_getElem? (i := 4) rfl)) dX5_empties_16 ?_
  refine lv_lxor hx hb dX5_empties_19 ?_
  refine lv_land hx hb dX5_empties_20 ?_
  exact W.lret (v := ((gAll R C) &&& ((no ||| we) ^^^ (-1)))) hx hb hr (fun t ht hW => ⟨⟨((gAll R C) &&& ((no ||| we) ^^^ (-1))), (), rfl, rfl, by rw [ht]; exact hP, hD⟩, hS.F ht⟩) hS.2.2 dX5_empties_21

set_option maxHeartbeats 4000000 in
set_option maxRecDepth 100000 in
theorem c_T_tooMany (l : Launch) (D : va_G) (cI cJ cZ : ClassId) (t0 tg td tp b0 l0 : Nat) (no we : Int64) (tl un : Nat) (R C : Nat) (sz : Nat) : kMI l yX5_tooManyEmpty wsX5_tooManyEmpty 2 40 D cI cJ cZ [.ref t0] [(t0, wTB tg td tp b0 l0 no we tl un), (tg, wGr R C)] sz (fun r (_ : Unit) => (r = nI 1 ∧ 10 < pcn (gSpots R C no we)) ∨ (r = nI 0 ∧ pcn (gSpots R C no we) ≤ 10)) (fun _ : Unit => [(t0, wTB tg td tp b0 l0 no we tl un), (tg, wGr R C)]) := by
  refine Met.ofW (cc := cX5_tooManyEmpty) (maxL := 1) (ret := (some .boolean)) (by decide) rfl ?_
  intro p e s m args below meth c s₁ B hml hv
  obtain ⟨rfl, hsz, hP, ⟨hK, hN⟩, hD0⟩ := hv
  have hx := B.exec
  have hb := B.bytes
  have hr := B.returns
  have hts := atoms_spec (ws := wsX5_tooManyEmpty) B.pre
  have hown : s.vm.findClass RX5 = some m.cls := findClass_of_methodNamed B.named
  have hlocks := B.notSynchronized
  subst hsz
  have hD := hD0.self (sz := s.heap.size)
  generalize hAe : va_A [(t0, wTB tg td tp b0 l0 no we tl un), (tg, wGr R C)] s.heap.size = A at hD ⊢
  have hA : ∀ q : Nat, s.heap.size ≤ q → A q := fun q h => by rw [← hAe]; exact Or.inr h
  have hS : va_S A s.heap s.heap [] := va_S.rf
  have hl := lv_entry ([.ref t0]) (n := 1) (Nat.le_of_ble_eq_true rfl)
  rw [lg_entry_eq]
  generalize (lg_sl ([.ref t0]) ++ List.replicate (1 - (lg_sl ([.ref t0])).length) Slot.unset).toArray = ls at hl ⊢
  have hl : lv_has ls 1 [(0, .ref t0)] := hl
  have hK2 : kK D cI cJ cZ s := ⟨hK, hN⟩
  clear hD0
  have hpb : pcn (gSpots R C no we) ≤ 64 := fb_ct_le _ _
  refine lv_aload_n hx hb dX5_tooManyEmpty_0 rfl (lv_at hl 0 rfl) ?_
  refine k_calll (wr := []) (w2 := (fun _ : Unit => [(t0, wTB tg td tp b0 l0 no we tl un), (tg, wGr R C)])) (va_runV (As := []) (rest := []) ⟨hx, hb, hml, hown, hts⟩ (c_T_empties l D cI cJ cZ t0 tg td tp b0 l0 no we tl un R C  s.heap.size) (cwV 0 hts gX5_tooManyEmpty_X5_empties rfl rfl rfl (by decide +kernel) ⟨Nat.le_of_ble_eq_true rfl, Nat.le_of_ble_eq_true rfl⟩) (kPV (ci := 5) (q0 := 0) (wc := [(t0, wTB tg td tp b0 l0 no we tl un), (tg, wGr R C)]) hK2 hP hD [0, 1] rfl (by decide) rfl rfl) rfl rfl hl.1 rfl (lv_room (Nat.le_of_ble_eq_true rfl)) dX5_tooManyEmpty_1 ⟨Nat.le_of_ble_eq_true rfl, Nat.le_of_ble_eq_true rfl⟩) hP hD hS hA [0, 1] [] [0, 1] rfl rfl (by decide) (by decide) (fun _ => rfl) (by decide) (fun r_1 u_1 H locs hw_1 hP hD hS => ?_)
  have hP : va_P D vwCl [(t0, wTB tg td tp b0 l0 no we tl un), (tg, wGr R C)] H := hP
  have hD : va_D A [(t0, wTB tg td tp b0 l0 no we tl un), (tg, wGr R C)] := hD
  subst hw_1
  refine k_calli (wr := [(t0, wTB tg td tp b0 l0 no we tl un), (tg, wGr R C)]) (w2 := (fun _ : Unit => [(t0, wTB tg td tp b0 l0 no we tl un), (tg, wGr R C)])) (va_runS (As := [.long (gSpots R C no we)]) (rest := []) ⟨hx, hb, hml, hown, hts⟩ (c_bitCount l D cI cJ cZ (gSpots R C no we)  H.size) (va_cwS 1 hts gX5_tooManyEmpty_J13_bitCount_95d88 rfl rfl rfl (by decide +kernel) ⟨Nat.le_of_ble_eq_true rfl, Nat.le_of_ble_eq_true rfl⟩) (kPS (wc := []) hK2 hP hD [] rfl (by decide)) rfl rfl hl.1 rfl (lv_room (Nat.le_of_ble_eq_true rfl)) dX5_tooManyEmpty_4 ⟨Nat.le_of_ble_eq_true rfl, Nat.le_of_ble_eq_true rfl⟩) hP hD hS hA [] [0, 1] [0, 1] rfl rfl (by decide) (by decide) (fun _ => rfl) (by decide) (fun r_2 u_2 H locs hw_2 hP hD hS => ?_)
  have hP : va_P D vwCl [(t0, wTB tg td tp b0 l0 no we tl un), (tg, wGr R C)] H := hP
  have hD : va_D A [(t0, wTB tg td tp b0 l0 no we tl un), (tg, wGr R C)] := hD
  subst hw_2
  refine k_toi (y := nI (pcn (gSpots R C no we))) (jBC_eq _) ?_
  refine lv_bipush (v := (nI 10)) hx hb dX5_tooManyEmpty_7 (by decide) ?_
  refine kw_icmp_le (tgt := 16) hx hb dX5_tooManyEmpty_9 (by decide) (by omega) (by omega) (fun c_9_3 => ?_) (fun c_9_3 => ?_)
  · refine lv_iconst (v := (nI 0)) hx hb dX5_tooManyEmpty_16 (by decide) ?_
    exact W.zret (v := (nI 0)) hx hb hr (by first | decide +kernel | assumption | exact kz_narr (by first | assumption | omega)) (fun t ht hW => ⟨⟨(nI 0), (), rfl, Or.inr ⟨rfl, by omega⟩, by rw [ht]; exact hP, hD⟩, hS.F ht⟩) hS.2.2 dX5_tooManyEmpty_17
  · refine lv_iconst (v := (nI 1)) hx hb dX5_tooManyEmpty_12 (by decide) ?_
    refine lv_goto (tgt := 17) hx hb dX5_tooManyEmpty_13 (by decide) ?_
    exact W.zret (v := (nI 1)) hx hb hr (by first | decide +kernel | assumption | exact kz_narr (by first | assumption | omega)) (fun t ht hW => ⟨⟨(nI 1), (), rfl, Or.inl ⟨rfl, by omega⟩, by rw [ht]; exact hP, hD⟩, hS.F ht⟩) hS.2.2 dX5_tooManyEmpty_17

set_option maxHeartbeats 4000000 in
set_option maxRecDepth 100000 in
theorem c_other_n (l : Launch) (D : va_G) (cI cJ cZ : ClassId) (n : Nat) (qn1 : n = 1 ∨ n = 2) (sz : Nat) : kMI l yX5_other wsX5_other 0 0 D cI cJ cZ [.int (nI n)] [] sz (fun r (_ : Unit) => r = nI (3 - n)) (fun _ : Unit => []) := by
  refine Met.ofW (cc := cX5_other) (maxL := 1) (ret := (some .int)) (by decide) rfl ?_
  intro p e s m args below meth c s₁ B hml hv
  obtain ⟨rfl, hsz, hP, ⟨hK, hN⟩, hD0⟩ := hv
  have hx := B.exec
  have hb := B.bytes
  have hr := B.returns
  have hts := atoms_spec (ws := wsX5_other) B.pre
  have hown : s.vm.findClass RX5 = some m.cls := findClass_of_methodNamed B.named
  have hlocks := B.notSynchronized
  subst hsz
  have hD := hD0.self (sz := s.heap.size)
  generalize hAe : va_A [] s.heap.size = A at hD ⊢
  have hA : ∀ q : Nat, s.heap.size ≤ q → A q := fun q h => by rw [← hAe]; exact Or.inr h
  have hS : va_S A s.heap s.heap [] := va_S.rf
  have hl := lv_entry ([.int (nI n)]) (n := 1) (Nat.le_of_ble_eq_true rfl)
  rw [lg_entry_eq]
  generalize (lg_sl ([.int (nI n)]) ++ List.replicate (1 - (lg_sl ([.int (nI n)])).length) Slot.unset).toArray = ls at hl ⊢
  have hl : lv_has ls 1 [(0, .int (nI n))] := hl
  have hK2 : kK D cI cJ cZ s := ⟨hK, hN⟩
  clear hD0
  refine lv_iload_n hx hb dX5_other_0 rfl (lv_at hl 0 rfl) ?_
  refine lv_iconst (v := (nI 1)) hx hb dX5_other_1 (by decide) ?_
  refine kw_icmp_ne (tgt := 9) hx hb dX5_other_2 (by decide) (by omega) (by omega) (fun c_2_1 => ?_) (fun c_2_1 => ?_)
  · refine lv_iconst (v := (nI 1)) hx hb dX5_other_9 (by decide) ?_
    exact W.iret (v := (nI 1)) hx hb hr (fun t ht hW => ⟨⟨(nI 1), (), rfl, (by congr 1; omega), by rw [ht]; exact hP, hD⟩, hS.F ht⟩) hS.2.2 dX5_other_10
  · refine lv_iconst (v := (nI 2)) hx hb dX5_other_5 (by decide) ?_
    refine lv_goto (tgt := 10) hx hb dX5_other_6 (by decide) ?_
    exact W.iret (v := (nI 2)) hx hb hr (fun t ht hW => ⟨⟨(nI 2), (), rfl, (by congr 1; omega), by rw [ht]; exact hP, hD⟩, hS.F ht⟩) hS.2.2 dX5_other_10

theorem kiX5_layStone_X5 : ∀ w ∈ u_ws RX5 TX5 9, w ∈ wsX5_layStone := fun w h => List.mem_cons_of_mem _ (List.mem_append_right _ h)
set_option maxHeartbeats 4000000 in
set_option maxRecDepth 100000 in
theorem c_T_layStone (l : Launch) (D : va_G) (cI cJ cZ : ClassId) (t0 tg td tp b0 l0 : Nat) (no we : Int64) (tl un : Nat) (k : Nat) (qk : k < 36) (qtl : tl = 1 ∨ tl = 2) (sz : Nat) : kMV l yX5_layStone wsX5_layStone 2 42 D cI cJ cZ [.ref t0, .int (nI k)] [(t0, wTB tg td tp b0 l0 no we tl un)] sz (fun (_ : Unit) => True) (fun _ : Unit => [(t0, wTB tg td tp b0 l0 (gPut no k (decide (tl = 1))) (gPut we k (decide (tl = 2))) (3 - tl) un)]) := by
  refine Met.ofW (cc := cX5_layStone) (maxL := 2) (ret := none) (by decide) rfl ?_
  intro p e s m args below meth c s₁ B hml hv
  obtain ⟨rfl, hsz, hP, ⟨hK, hN⟩, hD0⟩ := hv
  have hx := B.exec
  have hb := B.bytes
  have hr := B.returns
  have hts := atoms_spec (ws := wsX5_layStone) B.pre
  have hown : s.vm.findClass RX5 = some m.cls := findClass_of_methodNamed B.named
  have hlocks := B.notSynchronized
  subst hsz
  have hD := hD0.self (sz := s.heap.size)
  generalize hAe : va_A [(t0, wTB tg td tp b0 l0 no we tl un)] s.heap.size = A at hD ⊢
  have hA : ∀ q : Nat, s.heap.size ≤ q → A q := fun q h => by rw [← hAe]; exact Or.inr h
  have hS : va_S A s.heap s.heap [] := va_S.rf
  have hl := lv_entry ([.ref t0, .int (nI k)]) (n := 2) (Nat.le_of_ble_eq_true rfl)
  rw [lg_entry_eq]
  generalize (lg_sl ([.ref t0, .int (nI k)]) ++ List.replicate (2 - (lg_sl ([.ref t0, .int (nI k)])).length) Slot.unset).toArray = ls at hl ⊢
  have hl : lv_has ls 2 [(0, .ref t0), (1, .int (nI k))] := hl
  have hK2 : kK D cI cJ cZ s := ⟨hK, hN⟩
  clear hD0
  refine lv_aload_n hx hb dX5_layStone_0 rfl (lv_at hl 0 rfl) ?_
  refine lv_iload_n hx hb dX5_layStone_1 rfl (lv_at hl 1 rfl) ?_
  refine lv_aload_n hx hb dX5_layStone_2 rfl (lv_at hl 0 rfl) ?_
  refine va_get (D := D) (ci := 5) (v := .int (nI tl)) (C := RX5) (T := TX5) (N := 9) hx hb hts kiX5_layStone_X5 hown hK hP 0 rfl rfl 7 (by decide) (hts (.fieldLink RX5 57 "TwoBanks" "toLay" "I") (List.mem_of_getElem? (i := 1) rfl)) (fun _ h9 => h9) rfl dX5_layStone_3 ?_
  refine k_callv (wr := []) (w2 := (fun _ : Unit => [(t0, wTB tg td tp b0 l0 (gPut no k (decide (tl = 1))) (gPut we k (decide (tl = 2))) tl un)])) (va_runV (As := [.int (nI k), .int (nI tl)]) (rest := []) ⟨hx, hb, hml, hown, hts⟩ (c_T_put l D cI cJ cZ t0 tg td tp b0 l0 no we tl un k tl qk (by omega)  s.heap.size) (cwV 2 hts gX5_layStone_X5_put rfl rfl rfl (by decide +kernel) ⟨Nat.le_of_ble_eq_true rfl, Nat.le_of_ble_eq_true rfl⟩) (kPV (ci := 5) (q0 := 0) (wc := [(t0, wTB tg td tp b0 l0 no we tl un)]) hK2 hP hD [0] rfl (by decide) rfl rfl) rfl rfl hl.1 rfl (lv_room (Nat.le_of_ble_eq_true rfl)) dX5_layStone_6 ⟨Nat.le_of_ble_eq_true rfl, Nat.le_of_ble_eq_true rfl⟩) hP hD hS hA [0] [] [0] rfl rfl (by decide) (by decide) (fun _ => rfl) (by decide) (fun u_1 H locs hw_1 hP hD hS => ?_)
  have hP : va_P D vwCl [(t0, wTB tg td tp b0 l0 (gPut no k (decide (tl = 1))) (gPut we k (decide (tl = 2))) tl un)] H := hP
  have hD : va_D A [(t0, wTB tg td tp b0 l0 (gPut no k (decide (tl = 1))) (gPut we k (decide (tl = 2))) tl un)] := hD
  refine lv_aload_n hx hb dX5_layStone_9 rfl (lv_at hl 0 rfl) ?_
  refine lv_aload_n hx hb dX5_layStone_10 rfl (lv_at hl 0 rfl) ?_
  refine va_get (D := D) (ci := 5) (v := .int (nI tl)) (C := RX5) (T := TX5) (N := 9) hx hb hts kiX5_layStone_X5 hown hK hP 0 rfl rfl 7 (by decide) (hts (.fieldLink RX5 57 "TwoBanks" "toLay" "I") (List.mem_of_getElem? (i := 1) rfl)) (fun _ h9 => h9) rfl dX5_layStone_11 ?_
  refine k_calli (wr := [(t0, wTB tg td tp b0 l0 (gPut no k (decide (tl = 1))) (gPut we k (decide (tl = 2))) tl un)]) (w2 := (fun _ : Unit => [(t0, wTB tg td tp b0 l0 (gPut no k (decide (tl = 1))) (gPut we k (decide (tl = 2))) tl un)])) (va_runS (As := [.int (nI tl)]) (rest := [.ref t0]) ⟨hx, hb, hml, hown, hts⟩ (c_other_n l D cI cJ cZ tl (by omega)  H.size) (va_cwS 1 hts gX5_layStone_X5_other rfl rfl rfl (by decide +kernel) ⟨Nat.le_of_ble_eq_true rfl, Nat.le_of_ble_eq_true rfl⟩) (kPS (wc := []) hK2 hP hD [] rfl (by decide)) rfl rfl hl.1 rfl (lv_room (Nat.le_of_ble_eq_true rfl)) dX5_layStone_14 ⟨Nat.le_of_ble_eq_true rfl, Nat.le_of_ble_eq_true rfl⟩) hP hD hS hA [] [0] [0] rfl rfl (by decide) (by decide) (fun _ => rfl) (by decide) (fun r_2 u_2 H locs hw_2 hP hD hS => ?_)
  have hP : va_P D vwCl [(t0, wTB tg td tp b0 l0 (gPut no k (decide (tl = 1))) (gPut we k (decide (tl = 2))) tl un)] H := hP
  have hD : va_D A [(t0, wTB tg td tp b0 l0 (gPut no k (decide (tl = 1))) (gPut we k (decide (tl = 2))) tl un)] := hD
  subst hw_2
  refine va_put (D := D) (ci := 5) (v := .int (nI (3 - tl))) (ty := .int) (C := RX5) (T := TX5) (N := 9) hx hb hts kiX5_layStone_X5 tyX5 tyX5_ok nmX5 hown hK hP hD hS 0 rfl rfl 7 (by decide) (hts (.fieldLink RX5 57 "TwoBanks" "toLay" "I") (List.mem_of_getElem? (i := 1) rfl)) (fun _ h9 => h9) rfl  (by decide +kernel) rfl rfl (Nat.le_of_ble_eq_true rfl) dX5_layStone_17 (fun H locs hP hD hS => ?_)
  have hP : va_P D vwCl [(t0, .inr (5, [.ref tg, .ref td, .ref tp, .ref b0, .ref l0, .long (gPut no k (decide (tl = 1))), .long (gPut we k (decide (tl = 2))), .int (nI (3 - tl)), .int (nI un)]))] H := hP
  have hD : va_D A [(t0, .inr (5, [.ref tg, .ref td, .ref tp, .ref b0, .ref l0, .long (gPut no k (decide (tl = 1))), .long (gPut we k (decide (tl = 2))), .int (nI (3 - tl)), .int (nI un)]))] := hD
  exact W.vret hx hb hr (fun t ht hW => ⟨⟨(), rfl, trivial, by rw [ht]; exact hP, hD⟩, hS.F ht⟩) hS.2.2 dX5_layStone_20

theorem kiX5_takeOver_X5 : ∀ w ∈ u_ws RX5 TX5 9, w ∈ wsX5_takeOver := fun w h => List.mem_cons_of_mem _ (List.mem_append_left _ (List.mem_append_right _ h))
set_option maxHeartbeats 4000000 in
set_option maxRecDepth 100000 in
theorem c_T_takeOver (l : Launch) (D : va_G) (cI cJ cZ : ClassId) (t0 tg td tp b0 l0 : Nat) (no we : Int64) (tl un : Nat) (R C : Nat) (hR1 : 1 ≤ R) (hR2 : R ≤ 6) (hC1 : 1 ≤ C) (hC2 : C ≤ 6) (hRC : R * C ≤ 36) (sz : Nat) : kMV l yX5_takeOver wsX5_takeOver 2 46 D cI cJ cZ [.ref t0] [(t0, wTB tg td tp b0 l0 no we tl un), (tg, wGr R C)] sz (fun (_ : Unit) => True) (fun _ : Unit => [(t0, wTB tg td tp b0 l0 0 (gTu R C no) 1 un), (tg, wGr R C)]) := by
  refine Met.ofW (cc := cX5_takeOver) (maxL := 1) (ret := none) (by decide) rfl ?_
  intro p e s m args below meth c s₁ B hml hv
  obtain ⟨rfl, hsz, hP, ⟨hK, hN⟩, hD0⟩ := hv
  have hx := B.exec
  have hb := B.bytes
  have hr := B.returns
  have hts := atoms_spec (ws := wsX5_takeOver) B.pre
  have hown : s.vm.findClass RX5 = some m.cls := findClass_of_methodNamed B.named
  have hlocks := B.notSynchronized
  subst hsz
  have hD := hD0.self (sz := s.heap.size)
  generalize hAe : va_A [(t0, wTB tg td tp b0 l0 no we tl un), (tg, wGr R C)] s.heap.size = A at hD ⊢
  have hA : ∀ q : Nat, s.heap.size ≤ q → A q := fun q h => by rw [← hAe]; exact Or.inr h
  have hS : va_S A s.heap s.heap [] := va_S.rf
  have hl := lv_entry ([.ref t0]) (n := 1) (Nat.le_of_ble_eq_true rfl)
  rw [lg_entry_eq]
  generalize (lg_sl ([.ref t0]) ++ List.replicate (1 - (lg_sl ([.ref t0])).length) Slot.unset).toArray = ls at hl ⊢
  have hl : lv_has ls 1 [(0, .ref t0)] := hl
  have hK2 : kK D cI cJ cZ s := ⟨hK, hN⟩
  clear hD0
  refine lv_aload_n hx hb dX5_takeOver_0 rfl (lv_at hl 0 rfl) ?_
  refine lv_aload_n hx hb dX5_takeOver_1 rfl (lv_at hl 0 rfl) ?_
  refine va_get (D := D) (ci := 5) (v := .ref tg) (C := RX5) (T := TX5) (N := 9) hx hb hts kiX5_takeOver_X5 hown hK hP 0 rfl rfl 0 (by decide) (hts (.fieldLink RX5 12 "TwoBanks" "grid" "LTwoBanks$Grid;") (List.mem_of_getElem? (i := 1) rfl)) (fun _ h9 => h9) rfl dX5_takeOver_2 ?_
  refine lv_aload_n hx hb dX5_takeOver_5 rfl (lv_at hl 0 rfl) ?_
  refine va_get (D := D) (ci := 5) (v := .long no) (C := RX5) (T := TX5) (N := 9) hx hb hts kiX5_takeOver_X5 hown hK hP 0 rfl rfl 5 (by decide) (hts (.fieldLink RX5 115 "TwoBanks" "north" "J") (List.mem_of_getElem? (i := 2) rfl)) (fun _ h9 => h9) rfl dX5_takeOver_6 ?_
  refine k_calll (wr := [(t0, wTB tg td tp b0 l0 no we tl un)]) (w2 := (fun _ : Unit => [(t0, wTB tg td tp b0 l0 no we tl un), (tg, wGr R C)])) (va_runV (As := [.long no]) (rest := [.ref t0]) ⟨hx, hb, hml, hown, hts⟩ (c_G_turned l D cI cJ cZ tg R C no hR1 hR2 hC1 hC2 hRC  s.heap.size) (cwV 1 hts gX5_takeOver_X2_turned rfl rfl rfl (by decide +kernel) ⟨Nat.le_of_ble_eq_true rfl, Nat.le_of_ble_eq_true rfl⟩) (kPV (ci := 2) (q0 := 0) (wc := [(tg, wGr R C)]) hK2 hP hD [1] rfl (by decide) rfl rfl) rfl rfl hl.1 rfl (lv_room (Nat.le_of_ble_eq_true rfl)) dX5_takeOver_9 ⟨Nat.le_of_ble_eq_true rfl, Nat.le_of_ble_eq_true rfl⟩) hP hD hS hA [1] [0] [0, 1] rfl rfl (by decide) (by decide) (fun _ => rfl) (by decide) (fun r_1 u_1 H locs hw_1 hP hD hS => ?_)
  have hP : va_P D vwCl [(t0, wTB tg td tp b0 l0 no we tl un), (tg, wGr R C)] H := hP
  have hD : va_D A [(t0, wTB tg td tp b0 l0 no we tl un), (tg, wGr R C)] := hD
  subst hw_1
  refine va_put (D := D) (ci := 5) (v := .long (gTu R C no)) (ty := .long) (C := RX5) (T := TX5) (N := 9) hx hb hts kiX5_takeOver_X5 tyX5 tyX5_ok nmX5 hown hK hP hD hS 0 rfl rfl 6 (by decide) (hts (.fieldLink RX5 107 "TwoBanks" "west" "J") (List.mem_of_getElem? (i := 3) rfl)) (fun _ h9 => h9) rfl  (by decide +kernel) rfl rfl (Nat.le_of_ble_eq_true rfl) dX5_takeOver_12 (fun H locs hP hD hS => ?_)
  have hP : va_P D vwCl [(t0, .inr (5, [.ref tg, .ref td, .ref tp, .ref b0, .ref l0, .long no, .long (gTu R C no), .int (nI tl), .int (nI un)])), (tg, wGr R C)] H := hP
  have hD : va_D A [(t0, .inr (5, [.ref tg, .ref td, .ref tp, .ref b0, .ref l0, .long no, .long (gTu R C no), .int (nI tl), .int (nI un)])), (tg, wGr R C)] := hD
  refine lv_aload_n hx hb dX5_takeOver_15 rfl (lv_at hl 0 rfl) ?_
  refine lv_lconst (v := 0) hx hb dX5_takeOver_16 (by decide) ?_
  refine va_put (D := D) (ci := 5) (v := .long 0) (ty := .long) (C := RX5) (T := TX5) (N := 9) hx hb hts kiX5_takeOver_X5 tyX5 tyX5_ok nmX5 hown hK hP hD hS 0 rfl rfl 5 (by decide) (hts (.fieldLink RX5 115 "TwoBanks" "north" "J") (List.mem_of_getElem? (i := 2) rfl)) (fun _ h9 => h9) rfl  (by decide +kernel) rfl rfl (Nat.le_of_ble_eq_true rfl) dX5_takeOver_17 (fun H locs hP hD hS => ?_)
  have hP : va_P D vwCl [(t0, .inr (5, [.ref tg, .ref td, .ref tp, .ref b0, .ref l0, .long 0, .long (gTu R C no), .int (nI tl), .int (nI un)])), (tg, wGr R C)] H := hP
  have hD : va_D A [(t0, .inr (5, [.ref tg, .ref td, .ref tp, .ref b0, .ref l0, .long 0, .long (gTu R C no), .int (nI tl), .int (nI un)])), (tg, wGr R C)] := hD
  refine lv_aload_n hx hb dX5_takeOver_20 rfl (lv_at hl 0 rfl) ?_
  refine lv_iconst (v := (nI 1)) hx hb dX5_takeOver_21 (by decide) ?_
  refine va_put (D := D) (ci := 5) (v := .int (nI 1)) (ty := .int) (C := RX5) (T := TX5) (N := 9) hx hb hts kiX5_takeOver_X5 tyX5 tyX5_ok nmX5 hown hK hP hD hS 0 rfl rfl 7 (by decide) (hts (.fieldLink RX5 57 "TwoBanks" "toLay" "I") (List.mem_of_getElem? (i := 4) rfl)) (fun _ h9 => h9) rfl  (by decide +kernel) rfl rfl (Nat.le_of_ble_eq_true rfl) dX5_takeOver_22 (fun H locs hP hD hS => ?_)
  have hP : va_P D vwCl [(t0, .inr (5, [.ref tg, .ref td, .ref tp, .ref b0, .ref l0, .long 0, .long (gTu R C no), .int (nI 1), .int (nI un)])), (tg, wGr R C)] H := hP
  have hD : va_D A [(t0, .inr (5, [.ref tg, .ref td, .ref tp, .ref b0, .ref l0, .long 0, .long (gTu R C no), .int (nI 1), .int (nI un)])), (tg, wGr R C)] := hD
  exact W.vret hx hb hr (fun t ht hW => ⟨⟨(), rfl, trivial, by rw [ht]; exact hP, hD⟩, hS.F ht⟩) hS.2.2 dX5_takeOver_25

theorem kiX5_giveBack_X5 : ∀ w ∈ u_ws RX5 TX5 9, w ∈ wsX5_giveBack := fun w h => List.mem_cons_of_mem _ (List.mem_append_left _ (List.mem_append_right _ h))
set_option maxHeartbeats 4000000 in
set_option maxRecDepth 100000 in
theorem c_T_giveBack (l : Launch) (D : va_G) (cI cJ cZ : ClassId) (t0 tg td tp b0 l0 : Nat) (no we : Int64) (tl un : Nat) (R C : Nat) (hR1 : 1 ≤ R) (hR2 : R ≤ 6) (hC1 : 1 ≤ C) (hC2 : C ≤ 6) (hRC : R * C ≤ 36) (sz : Nat) : kMV l yX5_giveBack wsX5_giveBack 2 46 D cI cJ cZ [.ref t0] [(t0, wTB tg td tp b0 l0 no we tl un), (tg, wGr R C)] sz (fun (_ : Unit) => True) (fun _ : Unit => [(t0, wTB tg td tp b0 l0 (gTu R C we) 0 2 un), (tg, wGr R C)]) := by
  refine Met.ofW (cc := cX5_giveBack) (maxL := 1) (ret := none) (by decide) rfl ?_
  intro p e s m args below meth c s₁ B hml hv
  obtain ⟨rfl, hsz, hP, ⟨hK, hN⟩, hD0⟩ := hv
  have hx := B.exec
  have hb := B.bytes
  have hr := B.returns
  have hts := atoms_spec (ws := wsX5_giveBack) B.pre
  have hown : s.vm.findClass RX5 = some m.cls := findClass_of_methodNamed B.named
  have hlocks := B.notSynchronized
  subst hsz
  have hD := hD0.self (sz := s.heap.size)
  generalize hAe : va_A [(t0, wTB tg td tp b0 l0 no we tl un), (tg, wGr R C)] s.heap.size = A at hD ⊢
  have hA : ∀ q : Nat, s.heap.size ≤ q → A q := fun q h => by rw [← hAe]; exact Or.inr h
  have hS : va_S A s.heap s.heap [] := va_S.rf
  have hl := lv_entry ([.ref t0]) (n := 1) (Nat.le_of_ble_eq_true rfl)
  rw [lg_entry_eq]
  generalize (lg_sl ([.ref t0]) ++ List.replicate (1 - (lg_sl ([.ref t0])).length) Slot.unset).toArray = ls at hl ⊢
  have hl : lv_has ls 1 [(0, .ref t0)] := hl
  have hK2 : kK D cI cJ cZ s := ⟨hK, hN⟩
  clear hD0
  refine lv_aload_n hx hb dX5_giveBack_0 rfl (lv_at hl 0 rfl) ?_
  refine lv_aload_n hx hb dX5_giveBack_1 rfl (lv_at hl 0 rfl) ?_
  refine va_get (D := D) (ci := 5) (v := .ref tg) (C := RX5) (T := TX5) (N := 9) hx hb hts kiX5_giveBack_X5 hown hK hP 0 rfl rfl 0 (by decide) (hts (.fieldLink RX5 12 "TwoBanks" "grid" "LTwoBanks$Grid;") (List.mem_of_getElem? (i := 1) rfl)) (fun _ h9 => h9) rfl dX5_giveBack_2 ?_
  refine lv_aload_n hx hb dX5_giveBack_5 rfl (lv_at hl 0 rfl) ?_
  refine va_get (D := D) (ci := 5) (v := .long we) (C := RX5) (T := TX5) (N := 9) hx hb hts kiX5_giveBack_X5 hown hK hP 0 rfl rfl 6 (by decide) (hts (.fieldLink RX5 107 "TwoBanks" "west" "J") (List.mem_of_getElem? (i := 2) rfl)) (fun _ h9 => h9) rfl dX5_giveBack_6 ?_
  refine k_calll (wr := [(t0, wTB tg td tp b0 l0 no we tl un)]) (w2 := (fun _ : Unit => [(t0, wTB tg td tp b0 l0 no we tl un), (tg, wGr R C)])) (va_runV (As := [.long we]) (rest := [.ref t0]) ⟨hx, hb, hml, hown, hts⟩ (c_G_turned l D cI cJ cZ tg R C we hR1 hR2 hC1 hC2 hRC  s.heap.size) (cwV 1 hts gX5_giveBack_X2_turned rfl rfl rfl (by decide +kernel) ⟨Nat.le_of_ble_eq_true rfl, Nat.le_of_ble_eq_true rfl⟩) (kPV (ci := 2) (q0 := 0) (wc := [(tg, wGr R C)]) hK2 hP hD [1] rfl (by decide) rfl rfl) rfl rfl hl.1 rfl (lv_room (Nat.le_of_ble_eq_true rfl)) dX5_giveBack_9 ⟨Nat.le_of_ble_eq_true rfl, Nat.le_of_ble_eq_true rfl⟩) hP hD hS hA [1] [0] [0, 1] rfl rfl (by decide) (by decide) (fun _ => rfl) (by decide) (fun r_1 u_1 H locs hw_1 hP hD hS => ?_)
  have hP : va_P D vwCl [(t0, wTB tg td tp b0 l0 no we tl un), (tg, wGr R C)] H := hP
  have hD : va_D A [(t0, wTB tg td tp b0 l0 no we tl un), (tg, wGr R C)] := hD
  subst hw_1
  refine va_put (D := D) (ci := 5) (v := .long (gTu R C we)) (ty := .long) (C := RX5) (T := TX5) (N := 9) hx hb hts kiX5_giveBack_X5 tyX5 tyX5_ok nmX5 hown hK hP hD hS 0 rfl rfl 5 (by decide) (hts (.fieldLink RX5 115 "TwoBanks" "north" "J") (List.mem_of_getElem? (i := 3) rfl)) (fun _ h9 => h9) rfl  (by decide +kernel) rfl rfl (Nat.le_of_ble_eq_true rfl) dX5_giveBack_12 (fun H locs hP hD hS => ?_)
  have hP : va_P D vwCl [(t0, .inr (5, [.ref tg, .ref td, .ref tp, .ref b0, .ref l0, .long (gTu R C we), .long we, .int (nI tl), .int (nI un)])), (tg, wGr R C)] H := hP
  have hD : va_D A [(t0, .inr (5, [.ref tg, .ref td, .ref tp, .ref b0, .ref l0, .long (gTu R C we), .long we, .int (nI tl), .int (nI un)])), (tg, wGr R C)] := hD
  refine lv_aload_n hx hb dX5_giveBack_15 rfl (lv_at hl 0 rfl) ?_
  refine lv_lconst (v := 0) hx hb dX5_giveBack_16 (by decide) ?_
  refine va_put (D := D) (ci := 5) (v := .long 0) (ty := .long) (C := RX5) (T := TX5) (N := 9) hx hb hts kiX5_giveBack_X5 tyX5 tyX5_ok nmX5 hown hK hP hD hS 0 rfl rfl 6 (by decide) (hts (.fieldLink RX5 107 "TwoBanks" "west" "J") (List.mem_of_getElem? (i := 2) rfl)) (fun _ h9 => h9) rfl  (by decide +kernel) rfl rfl (Nat.le_of_ble_eq_true rfl) dX5_giveBack_17 (fun H locs hP hD hS => ?_)
  have hP : va_P D vwCl [(t0, .inr (5, [.ref tg, .ref td, .ref tp, .ref b0, .ref l0, .long (gTu R C we), .long 0, .int (nI tl), .int (nI un)])), (tg, wGr R C)] H := hP
  have hD : va_D A [(t0, .inr (5, [.ref tg, .ref td, .ref tp, .ref b0, .ref l0, .long (gTu R C we), .long 0, .int (nI tl), .int (nI un)])), (tg, wGr R C)] := hD
  refine lv_aload_n hx hb dX5_giveBack_20 rfl (lv_at hl 0 rfl) ?_
  refine lv_iconst (v := (nI 2)) hx hb dX5_giveBack_21 (by decide) ?_
  refine va_put (D := D) (ci := 5) (v := .int (nI 2)) (ty := .int) (C := RX5) (T := TX5) (N := 9) hx hb hts kiX5_giveBack_X5 tyX5 tyX5_ok nmX5 hown hK hP hD hS 0 rfl rfl 7 (by decide) (hts (.fieldLink RX5 57 "TwoBanks" "toLay" "I") (List.mem_of_getElem? (i := 4) rfl)) (fun _ h9 => h9) rfl  (by decide +kernel) rfl rfl (Nat.le_of_ble_eq_true rfl) dX5_giveBack_22 (fun H locs hP hD hS => ?_)
  have hP : va_P D vwCl [(t0, .inr (5, [.ref tg, .ref td, .ref tp, .ref b0, .ref l0, .long (gTu R C we), .long 0, .int (nI 2), .int (nI un)])), (tg, wGr R C)] H := hP
  have hD : va_D A [(t0, .inr (5, [.ref tg, .ref td, .ref tp, .ref b0, .ref l0, .long (gTu R C we), .long 0, .int (nI 2), .int (nI un)])), (tg, wGr R C)] := hD
  exact W.vret hx hb hr (fun t ht hW => ⟨⟨(), rfl, trivial, by rw [ht]; exact hP, hD⟩, hS.F ht⟩) hS.2.2 dX5_giveBack_25

theorem kiX5_groupAt_X5 : ∀ w ∈ u_ws RX5 TX5 9, w ∈ wsX5_groupAt := fun w h => List.mem_cons_of_mem _ (List.mem_append_left _ (List.mem_append_right _ h))
set_option maxHeartbeats 4000000 in
set_option maxRecDepth 100000 in
theorem c_T_groupAt (l : Launch) (D : va_G) (cI cJ cZ : ClassId) (t0 tg td tp b0 l0 : Nat) (no we : Int64) (tl un : Nat) (R C : Nat) (f : Int32) (hR1 : 1 ≤ R) (hR2 : R ≤ 6) (hC1 : 1 ≤ C) (hC2 : C ≤ 6) (hRC : R * C ≤ 36) (sz : Nat) : kMJ l yX5_groupAt wsX5_groupAt 2 61 D cI cJ cZ [.ref t0, .int f] [(t0, wTB tg td tp b0 l0 no we tl un), (tg, wGr R C)] sz (fun r (_ : Unit) => (r = 0 ∧ ¬ fIn (R * C) f) ∨ (∃ k, k < R * C ∧ f = nI k ∧ r = gGrp R C no we k)) (fun _ : Unit => [(t0, wTB tg td tp b0 l0 no we tl un), (tg, wGr R C)]) := by
  refine Met.ofW (cc := cX5_groupAt) (maxL := 3) (ret := (some .long)) (by decide) rfl ?_
  intro p e s m args below meth c s₁ B hml hv
  obtain ⟨rfl, hsz, hP, ⟨hK, hN⟩, hD0⟩ := hv
  have hx := B.exec
  have hb := B.bytes
  have hr := B.returns
  have hts := atoms_spec (ws := wsX5_groupAt) B.pre
  have hown : s.vm.findClass RX5 = some m.cls := findClass_of_methodNamed B.named
  have hlocks := B.notSynchronized
  subst hsz
  have hD := hD0.self (sz := s.heap.size)
  generalize hAe : va_A [(t0, wTB tg td tp b0 l0 no we tl un), (tg, wGr R C)] s.heap.size = A at hD ⊢
  have hA : ∀ q : Nat, s.heap.size ≤ q → A q := fun q h => by rw [← hAe]; exact Or.inr h
  have hS : va_S A s.heap s.heap [] := va_S.rf
  have hl := lv_entry ([.ref t0, .int f]) (n := 3) (Nat.le_of_ble_eq_true rfl)
  rw [lg_entry_eq]
  generalize (lg_sl ([.ref t0, .int f]) ++ List.replicate (3 - (lg_sl ([.ref t0, .int f])).length) Slot.unset).toArray = ls at hl ⊢
  have hl : lv_has ls 3 [(0, .ref t0), (1, .int f)] := hl
  have hK2 : kK D cI cJ cZ s := ⟨hK, hN⟩
  clear hD0
  have hsl := sAt_le no we
  refine lv_aload_n hx hb dX5_groupAt_0 rfl (lv_at hl 0 rfl) ?_
  refine va_get (D := D) (ci := 5) (v := .ref tg) (C := RX5) (T := TX5) (N := 9) hx hb hts kiX5_groupAt_X5 hown hK hP 0 rfl rfl 0 (by decide) (hts (.fieldLink RX5 12 "TwoBanks" "grid" "LTwoBanks$Grid;") (List.mem_of_getElem? (i := 1) rfl)) (fun _ h9 => h9) rfl dX5_groupAt_1 ?_
  refine lv_iload_n hx hb dX5_groupAt_4 rfl (lv_at hl 1 rfl) ?_
  refine k_calli (wr := [(t0, wTB tg td tp b0 l0 no we tl un)]) (w2 := (fun _ : Unit => [(t0, wTB tg td tp b0 l0 no we tl un), (tg, wGr R C)])) (va_runV (As := [.int f]) (rest := []) ⟨hx, hb, hml, hown, hts⟩ (c_G_has l D cI cJ cZ tg R C f hRC  s.heap.size) (cwV 1 hts gX5_groupAt_X2_has rfl rfl rfl (by decide +kernel) ⟨Nat.le_of_ble_eq_true rfl, Nat.le_of_ble_eq_true rfl⟩) (kPV (ci := 2) (q0 := 0) (wc := [(tg, wGr R C)]) hK2 hP hD [1] rfl (by decide) rfl rfl) rfl rfl hl.1 rfl (lv_room (Nat.le_of_ble_eq_true rfl)) dX5_groupAt_5 ⟨Nat.le_of_ble_eq_true rfl, Nat.le_of_ble_eq_true rfl⟩) hP hD hS hA [1] [0] [0, 1] rfl rfl (by decide) (by decide) (fun _ => rfl) (by decide) (fun r_1 u_1 H locs hw_1 hP hD hS => ?_)
  have hP : va_P D vwCl [(t0, wTB tg td tp b0 l0 no we tl un), (tg, wGr R C)] H := hP
  have hD : va_D A [(t0, wTB tg td tp b0 l0 no we tl un), (tg, wGr R C)] := hD
  rcases hw_1 with ⟨rfl, hw_1⟩ | ⟨rfl, hw_1⟩
  · obtain ⟨k, hk, rfl⟩ := hw_1
    refine lv_if_ne (tgt := 13) hx hb dX5_groupAt_8 (by decide) (fun c_8_2 => ?_) (fun c_8_2 => absurd c_8_2 (by decide))
    refine lv_aload_n hx hb dX5_groupAt_13 rfl (lv_at hl 0 rfl) ?_
    refine lv_iload_n hx hb dX5_groupAt_14 rfl (lv_at hl 1 rfl) ?_
    refine k_calli (wr := [(tg, wGr R C)]) (w2 := (fun _ : Unit => [(t0, wTB tg td tp b0 l0 no we tl un), (tg, wGr R C)])) (va_runV (As := [.int (nI k)]) (rest := []) ⟨hx, hb, hml, hown, hts⟩ (c_T_stoneAt l D cI cJ cZ t0 tg td tp b0 l0 no we tl un k (by omega)  H.size) (cwV 1 hts gX5_groupAt_X5_stoneAt rfl rfl rfl (by decide +kernel) ⟨Nat.le_of_ble_eq_true rfl, Nat.le_of_ble_eq_true rfl⟩) (kPV (ci := 5) (q0 := 0) (wc := [(t0, wTB tg td tp b0 l0 no we tl un)]) hK2 hP hD [0] rfl (by decide) rfl rfl) rfl rfl hl.1 rfl (lv_room (Nat.le_of_ble_eq_true rfl)) dX5_groupAt_15 ⟨Nat.le_of_ble_eq_true rfl, Nat.le_of_ble_eq_true rfl⟩) hP hD hS hA [0] [1] [1, 0] rfl rfl (by decide) (by decide) (fun _ => rfl) (by decide) (fun r_3 u_3 H locs hw_3 hP hD hS => ?_)
    have hP : va_P D vwCl [(t0, wTB tg td tp b0 l0 no we tl un), (tg, wGr R C)] H := hP
    have hD : va_D A [(t0, wTB tg td tp b0 l0 no we tl un), (tg, wGr R C)] := hD
    subst hw_3
    have hsk := sAt_le no we k
    refine lv_istore_n (lv' := [(2, .int (nI (sAt no we k))), (0, .ref t0), (1, .int (nI k))]) hx hb dX5_groupAt_18 rfl hl (by decide) rfl (fun ls hl => ?_)
    refine lv_iload_n hx hb dX5_groupAt_19 rfl (lv_at hl 0 rfl) ?_
    refine kw_if_ne (tgt := 27) hx hb dX5_groupAt_20 (by decide) (by omega) (fun c_20_4 => ?_) (fun c_20_4 => ?_)
    · refine lv_aload_n hx hb dX5_groupAt_27 rfl (lv_at hl 1 rfl) ?_
      refine va_get (D := D) (ci := 5) (v := .ref tg) (C := RX5) (T := TX5) (N := 9) hx hb hts kiX5_groupAt_X5 hown hK hP 0 rfl rfl 0 (by decide) (hts (.fieldLink RX5 12 "TwoBanks" "grid" "LTwoBanks$Grid;") (List.mem_of_getElem? (i := 1) rfl)) (fun _ h9 => h9) rfl dX5_groupAt_28 ?_
      refine lv_iload_n hx hb dX5_groupAt_31 rfl (lv_at hl 2 rfl) ?_
      refine k_calll (wr := [(t0, wTB tg td tp b0 l0 no we tl un), (tg, wGr R C)]) (w2 := (fun _ : Unit => [(t0, wTB tg td tp b0 l0 no we tl un), (tg, wGr R C)])) (va_runS (As := [.int (nI k)]) (rest := [.ref tg]) ⟨hx, hb, hml, hown, hts⟩ (c_bit l D cI cJ cZ (nI k)  H.size) (va_cwS 1 hts gX5_groupAt_X5_bit rfl rfl rfl (by decide +kernel) ⟨Nat.le_of_ble_eq_true rfl, Nat.le_of_ble_eq_true rfl⟩) (kPS (wc := []) hK2 hP hD [] rfl (by decide)) rfl rfl hl.1 rfl (lv_room (Nat.le_of_ble_eq_true rfl)) dX5_groupAt_32 ⟨Nat.le_of_ble_eq_true rfl, Nat.le_of_ble_eq_true rfl⟩) hP hD hS hA [] [0, 1] [0, 1] rfl rfl (by decide) (by decide) (fun _ => rfl) (by decide) (fun r_5 u_5 H locs hw_5 hP hD hS => ?_)
      have hP : va_P D vwCl [(t0, wTB tg td tp b0 l0 no we tl un), (tg, wGr R C)] H := hP
      have hD : va_D A [(t0, wTB tg td tp b0 l0 no we tl un), (tg, wGr R C)] := hD
      subst hw_5
      refine lv_aload_n hx hb dX5_groupAt_35 rfl (lv_at hl 1 rfl) ?_
      refine lv_iload_n hx hb dX5_groupAt_36 rfl (lv_at hl 0 rfl) ?_
      refine k_calll (wr := [(tg, wGr R C)]) (w2 := (fun _ : Unit => [(t0, wTB tg td tp b0 l0 no we tl un), (tg, wGr R C)])) (va_runV (As := [.int (nI (sAt no we k))]) (rest := [.long (gBit (nI k)), .ref tg]) ⟨hx, hb, hml, hown, hts⟩ (c_T_stonesOf l D cI cJ cZ t0 tg td tp b0 l0 no we tl un (sAt no we k) (by omega)  H.size) (cwV 1 hts gX5_groupAt_X5_stonesOf rfl rfl rfl (by decide +kernel) ⟨Nat.le_of_ble_eq_true rfl, Nat.le_of_ble_eq_true rfl⟩) (kPV (ci := 5) (q0 := 0) (wc := [(t0, wTB tg td tp b0 l0 no we tl un)]) hK2 hP hD [0] rfl (by decide) rfl rfl) rfl rfl hl.1 rfl (lv_room (Nat.le_of_ble_eq_true rfl)) dX5_groupAt_37 ⟨Nat.le_of_ble_eq_true rfl, Nat.le_of_ble_eq_true rfl⟩) hP hD hS hA [0] [1] [1, 0] rfl rfl (by decide) (by decide) (fun _ => rfl) (by decide) (fun r_6 u_6 H locs hw_6 hP hD hS => ?_)
      have hP : va_P D vwCl [(t0, wTB tg td tp b0 l0 no we tl un), (tg, wGr R C)] H := hP
      have hD : va_D A [(t0, wTB tg td tp b0 l0 no we tl un), (tg, wGr R C)] := hD
      subst hw_6
      refine k_calll (wr := [(t0, wTB tg td tp b0 l0 no we tl un)]) (w2 := (fun _ : Unit => [(t0, wTB tg td tp b0 l0 no we tl un), (tg, wGr R C)])) (va_runV (As := [.long (gBit (nI k)), .long (gSt no we (sAt no we k))]) (rest := []) ⟨hx, hb, hml, hown, hts⟩ (c_G_spread l D cI cJ cZ tg R C (gBit (nI k)) (gSt no we (sAt no we k)) hR1 hR2 hC1 hC2 hRC  H.size) (cwV 2 hts gX5_groupAt_X2_spread rfl rfl rfl (by decide +kernel) ⟨Nat.le_of_ble_eq_true rfl, Nat.le_of_ble_eq_true rfl⟩) (kPV (ci := 2) (q0 := 0) (wc := [(tg, wGr R C)]) hK2 hP hD [1] rfl (by decide) rfl rfl) rfl rfl hl.1 rfl (lv_room (Nat.le_of_ble_eq_true rfl)) dX5_groupAt_40 ⟨Nat.le_of_ble_eq_true rfl, Nat.le_of_ble_eq_true rfl⟩) hP hD hS hA [1] [0] [0, 1] rfl rfl (by decide) (by decide) (fun _ => rfl) (by decide) (fun r_7 u_7 H locs hw_7 hP hD hS => ?_)
      have hP : va_P D vwCl [(t0, wTB tg td tp b0 l0 no we tl un), (tg, wGr R C)] H := hP
      have hD : va_D A [(t0, wTB tg td tp b0 l0 no we tl un), (tg, wGr R C)] := hD
      subst hw_7
      exact W.lret (v := (gSp R C (gBit (nI k)) (gSt no we (sAt no we k)))) hx hb hr (fun t ht hW => ⟨⟨(gSp R C (gBit (nI k)) (gSt no we (sAt no we k))), (), rfl, Or.inr ⟨k, hk, rfl, (by unfold gGrp; first | rw [if_pos (by omega)] | rw [if_neg (by omega)])⟩, by rw [ht]; exact hP, hD⟩, hS.F ht⟩) hS.2.2 dX5_groupAt_43
    · refine lv_lconst (v := 0) hx hb dX5_groupAt_23 (by decide) ?_
      refine lv_goto (tgt := 43) hx hb dX5_groupAt_24 (by decide) ?_
      exact W.lret (v := 0) hx hb hr (fun t ht hW => ⟨⟨0, (), rfl, Or.inr ⟨k, hk, rfl, (by unfold gGrp; first | rw [if_pos (by omega)] | rw [if_neg (by omega)])⟩, by rw [ht]; exact hP, hD⟩, hS.F ht⟩) hS.2.2 dX5_groupAt_43
  · skip
    refine lv_if_ne (tgt := 13) hx hb dX5_groupAt_8 (by decide) (fun c_8_8 => absurd c_8_8 (by decide)) (fun c_8_8 => ?_)
    refine lv_lconst (v := 0) hx hb dX5_groupAt_11 (by decide) ?_
    exact W.lret (v := 0) hx hb hr (fun t ht hW => ⟨⟨0, (), rfl, Or.inl ⟨rfl, hw_1⟩, by rw [ht]; exact hP, hD⟩, hS.F ht⟩) hS.2.2 dX5_groupAt_12

theorem kiX5_whoJoined_X5 : ∀ w ∈ u_ws RX5 TX5 9, w ∈ wsX5_whoJoined := fun w h => List.mem_cons_of_mem _ (List.mem_append_left _ (List.mem_append_right _ h))
set_option maxHeartbeats 4000000 in
set_option maxRecDepth 100000 in
theorem c_T_who (l : Launch) (D : va_G) (cI cJ cZ : ClassId) (t0 tg td tp b0 l0 : Nat) (no we : Int64) (tl un : Nat) (R C : Nat) (hR1 : 1 ≤ R) (hR2 : R ≤ 6) (hC1 : 1 ≤ C) (hC2 : C ≤ 6) (hRC : R * C ≤ 36) (sz : Nat) : kMI l yX5_whoJoined wsX5_whoJoined 3 87 D cI cJ cZ [.ref t0] [(t0, wTB tg td tp b0 l0 no we tl un), (tg, wGr R C)] sz (fun r (_ : Unit) => r = nI (gWho R C no we)) (fun _ : Unit => [(t0, wTB tg td tp b0 l0 no we tl un), (tg, wGr R C)]) := by
  refine Met.ofW (cc := cX5_whoJoined) (maxL := 1) (ret := (some .int)) (by decide) rfl ?_
  intro p e s m args below meth c s₁ B hml hv
  obtain ⟨rfl, hsz, hP, ⟨hK, hN⟩, hD0⟩ := hv
  have hx := B.exec
  have hb := B.bytes
  have hr := B.returns
  have hts := atoms_spec (ws := wsX5_whoJoined) B.pre
  have hown : s.vm.findClass RX5 = some m.cls := findClass_of_methodNamed B.named
  have hlocks := B.notSynchronized
  subst hsz
  have hD := hD0.self (sz := s.heap.size)
  generalize hAe : va_A [(t0, wTB tg td tp b0 l0 no we tl un), (tg, wGr R C)] s.heap.size = A at hD ⊢
  have hA : ∀ q : Nat, s.heap.size ≤ q → A q := fun q h => by rw [← hAe]; exact Or.inr h
  have hS : va_S A s.heap s.heap [] := va_S.rf
  have hl := lv_entry ([.ref t0]) (n := 1) (Nat.le_of_ble_eq_true rfl)
  rw [lg_entry_eq]
  generalize (lg_sl ([.ref t0]) ++ List.replicate (1 - (lg_sl ([.ref t0])).length) Slot.unset).toArray = ls at hl ⊢
  have hl : lv_has ls 1 [(0, .ref t0)] := hl
  have hK2 : kK D cI cJ cZ s := ⟨hK, hN⟩
  clear hD0
  refine lv_aload_n hx hb dX5_whoJoined_0 rfl (lv_at hl 0 rfl) ?_
  refine va_get (D := D) (ci := 5) (v := .ref tg) (C := RX5) (T := TX5) (N := 9) hx hb hts kiX5_whoJoined_X5 hown hK hP 0 rfl rfl 0 (by decide) (hts (.fieldLink RX5 12 "TwoBanks" "grid" "LTwoBanks$Grid;") (List.mem_of_getElem? (i := 1) rfl)) (fun _ h9 => h9) rfl dX5_whoJoined_1 ?_
  refine lv_aload_n hx hb dX5_whoJoined_4 rfl (lv_at hl 0 rfl) ?_
  refine va_get (D := D) (ci := 5) (v := .long no) (C := RX5) (T := TX5) (N := 9) hx hb hts kiX5_whoJoined_X5 hown hK hP 0 rfl rfl 5 (by decide) (hts (.fieldLink RX5 115 "TwoBanks" "north" "J") (List.mem_of_getElem? (i := 2) rfl)) (fun _ h9 => h9) rfl dX5_whoJoined_5 ?_
  refine lv_aload_n hx hb dX5_whoJoined_8 rfl (lv_at hl 0 rfl) ?_
  refine va_get (D := D) (ci := 5) (v := .ref tg) (C := RX5) (T := TX5) (N := 9) hx hb hts kiX5_whoJoined_X5 hown hK hP 0 rfl rfl 0 (by decide) (hts (.fieldLink RX5 12 "TwoBanks" "grid" "LTwoBanks$Grid;") (List.mem_of_getElem? (i := 1) rfl)) (fun _ h9 => h9) rfl dX5_whoJoined_9 ?_
  refine k_calll (wr := [(t0, wTB tg td tp b0 l0 no we tl un)]) (w2 := (fun _ : Unit => [(t0, wTB tg td tp b0 l0 no we tl un), (tg, wGr R C)])) (va_runV (As := []) (rest := [.long no, .ref tg]) ⟨hx, hb, hml, hown, hts⟩ (c_G_northBank l D cI cJ cZ tg R C  s.heap.size) (cwV 0 hts gX5_whoJoined_X2_northBank rfl rfl rfl (by decide +kernel) ⟨Nat.le_of_ble_eq_true rfl, Nat.le_of_ble_eq_true rfl⟩) (kPV (ci := 2) (q0 := 0) (wc := [(tg, wGr R C)]) hK2 hP hD [1] rfl (by decide) rfl rfl) rfl rfl hl.1 rfl (lv_room (Nat.le_of_ble_eq_true rfl)) dX5_whoJoined_12 ⟨Nat.le_of_ble_eq_true rfl, Nat.le_of_ble_eq_true rfl⟩) hP hD hS hA [1] [0] [0, 1] rfl rfl (by decide) (by decide) (fun _ => rfl) (by decide) (fun r_1 u_1 H locs hw_1 hP hD hS => ?_)
  have hP : va_P D vwCl [(t0, wTB tg td tp b0 l0 no we tl un), (tg, wGr R C)] H := hP
  have hD : va_D A [(t0, wTB tg td tp b0 l0 no we tl un), (tg, wGr R C)] := hD
  subst hw_1
  refine lv_aload_n hx hb dX5_whoJoined_15 rfl (lv_at hl 0 rfl) ?_
  refine va_get (D := D) (ci := 5) (v := .ref tg) (C := RX5) (T := TX5) (N := 9) hx hb hts kiX5_whoJoined_X5 hown hK hP 0 rfl rfl 0 (by decide) (hts (.fieldLink RX5 12 "TwoBanks" "grid" "LTwoBanks$Grid;") (List.mem_of_getElem? (i := 1) rfl)) (fun _ h9 => h9) rfl dX5_whoJoined_16 ?_
  refine k_calll (wr := [(t0, wTB tg td tp b0 l0 no we tl un)]) (w2 := (fun _ : Unit => [(t0, wTB tg td tp b0 l0 no we tl un), (tg, wGr R C)])) (va_runV (As := []) (rest := [.long (gNo C), .long no, .ref tg]) ⟨hx, hb, hml, hown, hts⟩ (c_G_southBank l D cI cJ cZ tg R C  H.size) (cwV 0 hts gX5_whoJoined_X2_southBank rfl rfl rfl (by decide +kernel) ⟨Nat.le_of_ble_eq_true rfl, Nat.le_of_ble_eq_true rfl⟩) (kPV (ci := 2) (q0 := 0) (wc := [(tg, wGr R C)]) hK2 hP hD [1] rfl (by decide) rfl rfl) rfl rfl hl.1 rfl (lv_room (Nat.le_of_ble_eq_true rfl)) dX5_whoJoined_19 ⟨Nat.le_of_ble_eq_true rfl, Nat.le_of_ble_eq_true rfl⟩) hP hD hS hA [1] [0] [0, 1] rfl rfl (by decide) (by decide) (fun _ => rfl) (by decide) (fun r_2 u_2 H locs hw_2 hP hD hS => ?_)
  have hP : va_P D vwCl [(t0, wTB tg td tp b0 l0 no we tl un), (tg, wGr R C)] H := hP
  have hD : va_D A [(t0, wTB tg td tp b0 l0 no we tl un), (tg, wGr R C)] := hD
  subst hw_2
  refine k_calli (wr := [(t0, wTB tg td tp b0 l0 no we tl un)]) (w2 := (fun _ : Unit => [(t0, wTB tg td tp b0 l0 no we tl un), (tg, wGr R C)])) (va_runV (As := [.long no, .long (gNo C), .long (gSo R C)]) (rest := []) ⟨hx, hb, hml, hown, hts⟩ (c_G_joins l D cI cJ cZ tg R C no (gNo C) (gSo R C) hR1 hR2 hC1 hC2 hRC  H.size) (cwV 3 hts gX5_whoJoined_X2_joins rfl rfl rfl (by decide +kernel) ⟨Nat.le_of_ble_eq_true rfl, Nat.le_of_ble_eq_true rfl⟩) (kPV (ci := 2) (q0 := 0) (wc := [(tg, wGr R C)]) hK2 hP hD [1] rfl (by decide) rfl rfl) rfl rfl hl.1 rfl (lv_room (Nat.le_of_ble_eq_true rfl)) dX5_whoJoined_22 ⟨Nat.le_of_ble_eq_true rfl, Nat.le_of_ble_eq_true rfl⟩) hP hD hS hA [1] [0] [0, 1] rfl rfl (by decide) (by decide) (fun _ => rfl) (by decide) (fun r_3 u_3 H locs hw_3 hP hD hS => ?_)
  have hP : va_P D vwCl [(t0, wTB tg td tp b0 l0 no we tl un), (tg, wGr R C)] H := hP
  have hD : va_D A [(t0, wTB tg td tp b0 l0 no we tl un), (tg, wGr R C)] := hD
  rcases hw_3 with ⟨rfl, hw_3⟩ | ⟨rfl, hw_3⟩
  · skip
    refine lv_if_eq (tgt := 30) hx hb dX5_whoJoined_25 (by decide) (fun c_25_4 => absurd c_25_4 (by decide)) (fun c_25_4 => ?_)
    refine lv_iconst (v := (nI 1)) hx hb dX5_whoJoined_28 (by decide) ?_
    exact W.iret (v := (nI 1)) hx hb hr (fun t ht hW => ⟨⟨(nI 1), (), rfl, (by rw [gWho_1 hw_3]), by rw [ht]; exact hP, hD⟩, hS.F ht⟩) hS.2.2 dX5_whoJoined_29
  · skip
    refine lv_if_eq (tgt := 30) hx hb dX5_whoJoined_25 (by decide) (fun c_25_5 => ?_) (fun c_25_5 => absurd c_25_5 (by decide))
    refine lv_aload_n hx hb dX5_whoJoined_30 rfl (lv_at hl 0 rfl) ?_
    refine va_get (D := D) (ci := 5) (v := .ref tg) (C := RX5) (T := TX5) (N := 9) hx hb hts kiX5_whoJoined_X5 hown hK hP 0 rfl rfl 0 (by decide) (hts (.fieldLink RX5 12 "TwoBanks" "grid" "LTwoBanks$Grid;") (List.mem_of_getElem? (i := 1) rfl)) (fun _ h9 => h9) rfl dX5_whoJoined_31 ?_
    refine lv_aload_n hx hb dX5_whoJoined_34 rfl (lv_at hl 0 rfl) ?_
    refine va_get (D := D) (ci := 5) (v := .long we) (C := RX5) (T := TX5) (N := 9) hx hb hts kiX5_whoJoined_X5 hown hK hP 0 rfl rfl 6 (by decide) (hts (.fieldLink RX5 107 "TwoBanks" "west" "J") (List.mem_of_getElem? (i := 3) rfl)) (fun _ h9 => h9) rfl dX5_whoJoined_35 ?_
    refine lv_aload_n hx hb dX5_whoJoined_38 rfl (lv_at hl 0 rfl) ?_
    refine va_get (D := D) (ci := 5) (v := .ref tg) (C := RX5) (T := TX5) (N := 9) hx hb hts kiX5_whoJoined_X5 hown hK hP 0 rfl rfl 0 (by decide) (hts (.fieldLink RX5 12 "TwoBanks" "grid" "LTwoBanks$Grid;") (List.mem_of_getElem? (i := 1) rfl)) (fun _ h9 => h9) rfl dX5_whoJoined_39 ?_
    refine k_calll (wr := [(t0, wTB tg td tp b0 l0 no we tl un)]) (w2 := (fun _ : Unit => [(t0, wTB tg td tp b0 l0 no we tl un), (tg, wGr R C)])) (va_runV (As := []) (rest := [.long we, .ref tg]) ⟨hx, hb, hml, hown, hts⟩ (c_G_westBank l D cI cJ cZ tg R C  H.size) (cwV 0 hts gX5_whoJoined_X2_westBank rfl rfl rfl (by decide +kernel) ⟨Nat.le_of_ble_eq_true rfl, Nat.le_of_ble_eq_true rfl⟩) (kPV (ci := 2) (q0 := 0) (wc := [(tg, wGr R C)]) hK2 hP hD [1] rfl (by decide) rfl rfl) rfl rfl hl.1 rfl (lv_room (Nat.le_of_ble_eq_true rfl)) dX5_whoJoined_42 ⟨Nat.le_of_ble_eq_true rfl, Nat.le_of_ble_eq_true rfl⟩) hP hD hS hA [1] [0] [0, 1] rfl rfl (by decide) (by decide) (fun _ => rfl) (by decide) (fun r_6 u_6 H locs hw_6 hP hD hS => ?_)
    have hP : va_P D vwCl [(t0, wTB tg td tp b0 l0 no we tl un), (tg, wGr R C)] H := hP
    have hD : va_D A [(t0, wTB tg td tp b0 l0 no we tl un), (tg, wGr R C)] := hD
    subst hw_6
    refine lv_aload_n hx hb dX5_whoJoined_45 rfl (lv_at hl 0 rfl) ?_
    refine va_get (D := D) (ci := 5) (v := .ref tg) (C := RX5) (T := TX5) (N := 9) hx hb hts kiX5_whoJoined_X5 hown hK hP 0 rfl rfl 0 (by decide) (hts (.fieldLink RX5 12 "TwoBanks" "grid" "LTwoBanks$Grid;") (List.mem_of_getElem? (i := 1) rfl)) (fun _ h9 => h9) rfl dX5_whoJoined_46 ?_
    refine k_calll (wr := [(t0, wTB tg td tp b0 l0 no we tl un)]) (w2 := (fun _ : Unit => [(t0, wTB tg td tp b0 l0 no we tl un), (tg, wGr R C)])) (va_runV (As := []) (rest := [.long (gWeN C R), .long we, .ref tg]) ⟨hx, hb, hml, hown, hts⟩ (c_G_eastBank l D cI cJ cZ tg R C  H.size) (cwV 0 hts gX5_whoJoined_X2_eastBank rfl rfl rfl (by decide +kernel) ⟨Nat.le_of_ble_eq_true rfl, Nat.le_of_ble_eq_true rfl⟩) (kPV (ci := 2) (q0 := 0) (wc := [(tg, wGr R C)]) hK2 hP hD [1] rfl (by decide) rfl rfl) rfl rfl hl.1 rfl (lv_room (Nat.le_of_ble_eq_true rfl)) dX5_whoJoined_49 ⟨Nat.le_of_ble_eq_true rfl, Nat.le_of_ble_eq_true rfl⟩) hP hD hS hA [1] [0] [0, 1] rfl rfl (by decide) (by decide) (fun _ => rfl) (by decide) (fun r_7 u_7 H locs hw_7 hP hD hS => ?_)
    have hP : va_P D vwCl [(t0, wTB tg td tp b0 l0 no we tl un), (tg, wGr R C)] H := hP
    have hD : va_D A [(t0, wTB tg td tp b0 l0 no we tl un), (tg, wGr R C)] := hD
    subst hw_7
    refine k_calli (wr := [(t0, wTB tg td tp b0 l0 no we tl un)]) (w2 := (fun _ : Unit => [(t0, wTB tg td tp b0 l0 no we tl un), (tg, wGr R C)])) (va_runV (As := [.long we, .long (gWeN C R), .long (gEa R C)]) (rest := []) ⟨hx, hb, hml, hown, hts⟩ (c_G_joins l D cI cJ cZ tg R C we (gWeN C R) (gEa R C) hR1 hR2 hC1 hC2 hRC  H.size) (cwV 3 hts gX5_whoJoined_X2_joins rfl rfl rfl (by decide +kernel) ⟨Nat.le_of_ble_eq_true rfl, Nat.le_of_ble_eq_true rfl⟩) (kPV (ci := 2) (q0 := 0) (wc := [(tg, wGr R C)]) hK2 hP hD [1] rfl (by decide) rfl rfl) rfl rfl hl.1 rfl (lv_room (Nat.le_of_ble_eq_true rfl)) dX5_whoJoined_52 ⟨Nat.le_of_ble_eq_true rfl, Nat.le_of_ble_eq_true rfl⟩) hP hD hS hA [1] [0] [0, 1] rfl rfl (by decide) (by decide) (fun _ => rfl) (by decide) (fun r_8 u_8 H locs hw_8 hP hD hS => ?_)
    have hP : va_P D vwCl [(t0, wTB tg td tp b0 l0 no we tl un), (tg, wGr R C)] H := hP
    have hD : va_D A [(t0, wTB tg td tp b0 l0 no we tl un), (tg, wGr R C)] := hD
    rcases hw_8 with ⟨rfl, hw_8⟩ | ⟨rfl, hw_8⟩
    · skip
      refine lv_if_eq (tgt := 62) hx hb dX5_whoJoined_55 (by decide) (fun c_55_9 => absurd c_55_9 (by decide)) (fun c_55_9 => ?_)
      refine lv_iconst (v := (nI 2)) hx hb dX5_whoJoined_58 (by decide) ?_
      refine lv_goto (tgt := 63) hx hb dX5_whoJoined_59 (by decide) ?_
      exact W.iret (v := (nI 2)) hx hb hr (fun t ht hW => ⟨⟨(nI 2), (), rfl, (by rw [gWho_2 hw_3 hw_8]), by rw [ht]; exact hP, hD⟩, hS.F ht⟩) hS.2.2 dX5_whoJoined_63
    · skip
      refine lv_if_eq (tgt := 62) hx hb dX5_whoJoined_55 (by decide) (fun c_55_10 => ?_) (fun c_55_10 => absurd c_55_10 (by decide))
      refine lv_iconst (v := (nI 0)) hx hb dX5_whoJoined_62 (by decide) ?_
      exact W.iret (v := (nI 0)) hx hb hr (fun t ht hW => ⟨⟨(nI 0), (), rfl, (by rw [gWho_0 hw_3 hw_8]), by rw [ht]; exact hP, hD⟩, hS.F ht⟩) hS.2.2 dX5_whoJoined_63

theorem kiX5_findPath_X5 : ∀ w ∈ u_ws RX5 TX5 9, w ∈ wsX5_findPath := fun w h => List.mem_cons_of_mem _ (List.mem_append_left _ (List.mem_append_left _ (List.mem_append_right _ h)))
set_option maxHeartbeats 4000000 in
set_option maxRecDepth 100000 in
theorem c_T_findPath (l : Launch) (D : va_G) (cI cJ cZ : ClassId) (t0 tg td tp b0 l0 : Nat) (no we : Int64) (tl un : Nat) (R C : Nat) (pl pf ln : Nat) (lay : Nat → Int64) (fs : Nat → Int32) (hR1 : 1 ≤ R) (hR2 : R ≤ 6) (hC1 : 1 ≤ C) (hC2 : C ≤ 6) (hRC : R * C ≤ 36) (hno : ∀ i, bq no i = true → i < R * C) (hwe : ∀ i, bq we i = true → i < R * C) (sz : Nat) : kMV l yX5_findPath wsX5_findPath 4 107 D cI cJ cZ [.ref t0] [(t0, wTB tg td tp b0 l0 no we tl un), (tg, wGr R C), (tp, .inr (4, [.ref pl, .ref pf, .int (nI ln)])), (pl, .inl (cJ, 36, .inr (.inl lay))), (pf, .inl (cI, 36, .inl fs))] sz (fun (u : Nat × (Nat → Int64) × (Nat → Int32)) => wayIs R C no we u.1 u.2.2 ∧ u.1 ≤ 36) (fun u : Nat × (Nat → Int64) × (Nat → Int32) => match u with | (lna, laya, fsa) => [(t0, wTB tg td tp b0 l0 no we tl un), (tg, wGr R C), (tp, .inr (4, [.ref pl, .ref pf, .int (nI lna)])), (pl, .inl (cJ, 36, .inr (.inl laya))), (pf, .inl (cI, 36, .inl fsa))]) := by
  refine Met.ofW (cc := cX5_findPath) (maxL := 2) (ret := none) (by decide) rfl ?_
  intro p e s m args below meth c s₁ B hml hv
  obtain ⟨rfl, hsz, hP, ⟨hK, hN⟩, hD0⟩ := hv
  have hx := B.exec
  have hb := B.bytes
  have hr := B.returns
  have hts := atoms_spec (ws := wsX5_findPath) B.pre
  have hown : s.vm.findClass RX5 = some m.cls := findClass_of_methodNamed B.named
  have hlocks := B.notSynchronized
  subst hsz
  have hD := hD0.self (sz := s.heap.size)
  generalize hAe : va_A [(t0, wTB tg td tp b0 l0 no we tl un), (tg, wGr R C), (tp, .inr (4, [.ref pl, .ref pf, .int (nI ln)])), (pl, .inl (cJ, 36, .inr (.inl lay))), (pf, .inl (cI, 36, .inl fs))] s.heap.size = A at hD ⊢
  have hA : ∀ q : Nat, s.heap.size ≤ q → A q := fun q h => by rw [← hAe]; exact Or.inr h
  have hS : va_S A s.heap s.heap [] := va_S.rf
  have hl := lv_entry ([.ref t0]) (n := 2) (Nat.le_of_ble_eq_true rfl)
  rw [lg_entry_eq]
  generalize (lg_sl ([.ref t0]) ++ List.replicate (2 - (lg_sl ([.ref t0])).length) Slot.unset).toArray = ls at hl ⊢
  have hl : lv_has ls 2 [(0, .ref t0)] := hl
  have hK2 : kK D cI cJ cZ s := ⟨hK, hN⟩
  clear hD0
  have hwl := gWho_le R C no we
  refine lv_aload_n hx hb dX5_findPath_0 rfl (lv_at hl 0 rfl) ?_
  refine k_calli (wr := [(tp, .inr (4, [.ref pl, .ref pf, .int (nI ln)])), (pl, .inl (cJ, 36, .inr (.inl lay))), (pf, .inl (cI, 36, .inl fs))]) (w2 := (fun _ : Unit => [(t0, wTB tg td tp b0 l0 no we tl un), (tg, wGr R C), (tp, .inr (4, [.ref pl, .ref pf, .int (nI ln)])), (pl, .inl (cJ, 36, .inr (.inl lay))), (pf, .inl (cI, 36, .inl fs))])) (va_runV (As := []) (rest := []) ⟨hx, hb, hml, hown, hts⟩ (c_T_who l D cI cJ cZ t0 tg td tp b0 l0 no we tl un R C hR1 hR2 hC1 hC2 hRC  s.heap.size) (cwV 0 hts gX5_findPath_X5_whoJoined rfl rfl rfl (by decide +kernel) ⟨Nat.le_of_ble_eq_true rfl, Nat.le_of_ble_eq_true rfl⟩) (kPV (ci := 5) (q0 := 0) (wc := [(t0, wTB tg td tp b0 l0 no we tl un), (tg, wGr R C)]) hK2 hP hD [0, 1] rfl (by decide) rfl rfl) rfl rfl hl.1 rfl (lv_room (Nat.le_of_ble_eq_true rfl)) dX5_findPath_1 ⟨Nat.le_of_ble_eq_true rfl, Nat.le_of_ble_eq_true rfl⟩) hP hD hS hA [0, 1] [2, 3, 4] [3, 4, 0, 1, 2] rfl rfl (by decide) (by decide) (fun _ => rfl) (by decide) (fun r_1 u_1 H locs hw_1 hP hD hS => ?_)
  have hP : va_P D vwCl [(t0, wTB tg td tp b0 l0 no we tl un), (tg, wGr R C), (tp, .inr (4, [.ref pl, .ref pf, .int (nI ln)])), (pl, .inl (cJ, 36, .inr (.inl lay))), (pf, .inl (cI, 36, .inl fs))] H := hP
  have hD : va_D A [(t0, wTB tg td tp b0 l0 no we tl un), (tg, wGr R C), (tp, .inr (4, [.ref pl, .ref pf, .int (nI ln)])), (pl, .inl (cJ, 36, .inr (.inl lay))), (pf, .inl (cI, 36, .inl fs))] := hD
  subst hw_1
  refine lv_istore_n (lv' := [(1, .int (nI (gWho R C no we))), (0, .ref t0)]) hx hb dX5_findPath_4 rfl hl (by decide) rfl (fun ls hl => ?_)
  refine lv_iload_n hx hb dX5_findPath_5 rfl (lv_at hl 0 rfl) ?_
  refine lv_iconst (v := (nI 1)) hx hb dX5_findPath_6 (by decide) ?_
  refine kw_icmp_ne (tgt := 42) hx hb dX5_findPath_7 (by decide) (by omega) (by omega) (fun c_7_2 => ?_) (fun c_7_2 => ?_)
  · refine lv_iload_n hx hb dX5_findPath_42 rfl (lv_at hl 0 rfl) ?_
    refine lv_iconst (v := (nI 2)) hx hb dX5_findPath_43 (by decide) ?_
    refine kw_icmp_ne (tgt := 79) hx hb dX5_findPath_44 (by decide) (by omega) (by omega) (fun c_44_3 => ?_) (fun c_44_3 => ?_)
    · refine lv_aload_n hx hb dX5_findPath_79 rfl (lv_at hl 1 rfl) ?_
      refine va_get (D := D) (ci := 5) (v := .ref tp) (C := RX5) (T := TX5) (N := 9) hx hb hts kiX5_findPath_X5 hown hK hP 0 rfl rfl 2 (by decide) (hts (.fieldLink RX5 26 "TwoBanks" "path" "LTwoBanks$Path;") (List.mem_of_getElem? (i := 1) rfl)) (fun _ h9 => h9) rfl dX5_findPath_80 ?_
      refine k_callv (wr := [(t0, wTB tg td tp b0 l0 no we tl un), (tg, wGr R C)]) (w2 := (fun _ : Unit => [(t0, wTB tg td tp b0 l0 no we tl un), (tg, wGr R C), (tp, .inr (4, [.ref pl, .ref pf, .int (nI 0)])), (pl, .inl (cJ, 36, .inr (.inl lay))), (pf, .inl (cI, 36, .inl fs))])) (va_runV (As := []) (rest := []) ⟨hx, hb, hml, hown, hts⟩ (c_P_forget l D cI cJ cZ tp pl pf ln lay fs  H.size) (cwV 0 hts gX5_findPath_X4_forget rfl rfl rfl (by decide +kernel) ⟨Nat.le_of_ble_eq_true rfl, Nat.le_of_ble_eq_true rfl⟩) (kPV (ci := 4) (q0 := 0) (wc := [(tp, .inr (4, [.ref pl, .ref pf, .int (nI ln)])), (pl, .inl (cJ, 36, .inr (.inl lay))), (pf, .inl (cI, 36, .inl fs))]) hK2 hP hD [2, 3, 4] rfl (by decide) rfl rfl) rfl rfl hl.1 rfl (lv_room (Nat.le_of_ble_eq_true rfl)) dX5_findPath_83 ⟨Nat.le_of_ble_eq_true rfl, Nat.le_of_ble_eq_true rfl⟩) hP hD hS hA [2, 3, 4] [0, 1] [0, 1, 2, 3, 4] rfl rfl (by decide) (by decide) (fun _ => rfl) (by decide) (fun u_4 H locs hw_4 hP hD hS => ?_)
      have hP : va_P D vwCl [(t0, wTB tg td tp b0 l0 no we tl un), (tg, wGr R C), (tp, .inr (4, [.ref pl, .ref pf, .int (nI 0)])), (pl, .inl (cJ, 36, .inr (.inl lay))), (pf, .inl (cI, 36, .inl fs))] H := hP
      have hD : va_D A [(t0, wTB tg td tp b0 l0 no we tl un), (tg, wGr R C), (tp, .inr (4, [.ref pl, .ref pf, .int (nI 0)])), (pl, .inl (cJ, 36, .inr (.inl lay))), (pf, .inl (cI, 36, .inl fs))] := hD
      exact W.vret hx hb hr (fun t ht hW => ⟨⟨(0, lay, fs), rfl, ⟨Or.inr (Or.inr ⟨by omega, rfl⟩), Nat.zero_le _⟩, by rw [ht]; exact hP, hD⟩, hS.F ht⟩) hS.2.2 dX5_findPath_86
    · obtain ⟨K, hK9, hK1, hK2b, hK3⟩ := pathK_ex hR1 hR2 hC1 hC2 hwe (gWho_i2 c_44_3)
      have hwc : gWho R C no we = 2 := c_44_3
      refine lv_aload_n hx hb dX5_findPath_47 rfl (lv_at hl 1 rfl) ?_
      refine va_get (D := D) (ci := 5) (v := .ref tp) (C := RX5) (T := TX5) (N := 9) hx hb hts kiX5_findPath_X5 hown hK hP 0 rfl rfl 2 (by decide) (hts (.fieldLink RX5 26 "TwoBanks" "path" "LTwoBanks$Path;") (List.mem_of_getElem? (i := 1) rfl)) (fun _ h9 => h9) rfl dX5_findPath_48 ?_
      refine lv_aload_n hx hb dX5_findPath_51 rfl (lv_at hl 1 rfl) ?_
      refine va_get (D := D) (ci := 5) (v := .ref tg) (C := RX5) (T := TX5) (N := 9) hx hb hts kiX5_findPath_X5 hown hK hP 0 rfl rfl 0 (by decide) (hts (.fieldLink RX5 12 "TwoBanks" "grid" "LTwoBanks$Grid;") (List.mem_of_getElem? (i := 2) rfl)) (fun _ h9 => h9) rfl dX5_findPath_52 ?_
      refine lv_aload_n hx hb dX5_findPath_55 rfl (lv_at hl 1 rfl) ?_
      refine va_get (D := D) (ci := 5) (v := .long we) (C := RX5) (T := TX5) (N := 9) hx hb hts kiX5_findPath_X5 hown hK hP 0 rfl rfl 6 (by decide) (hts (.fieldLink RX5 107 "TwoBanks" "west" "J") (List.mem_of_getElem? (i := 4) rfl)) (fun _ h9 => h9) rfl dX5_findPath_56 ?_
      refine lv_aload_n hx hb dX5_findPath_59 rfl (lv_at hl 1 rfl) ?_
      refine va_get (D := D) (ci := 5) (v := .ref tg) (C := RX5) (T := TX5) (N := 9) hx hb hts kiX5_findPath_X5 hown hK hP 0 rfl rfl 0 (by decide) (hts (.fieldLink RX5 12 "TwoBanks" "grid" "LTwoBanks$Grid;") (List.mem_of_getElem? (i := 2) rfl)) (fun _ h9 => h9) rfl dX5_findPath_60 ?_
      refine k_calll (wr := [(t0, wTB tg td tp b0 l0 no we tl un), (tp, .inr (4, [.ref pl, .ref pf, .int (nI ln)])), (pl, .inl (cJ, 36, .inr (.inl lay))), (pf, .inl (cI, 36, .inl fs))]) (w2 := (fun _ : Unit => [(t0, wTB tg td tp b0 l0 no we tl un), (tg, wGr R C), (tp, .inr (4, [.ref pl, .ref pf, .int (nI ln)])), (pl, .inl (cJ, 36, .inr (.inl lay))), (pf, .inl (cI, 36, .inl fs))])) (va_runV (As := []) (rest := [.long we, .ref tg, .ref tp]) ⟨hx, hb, hml, hown, hts⟩ (c_G_westBank l D cI cJ cZ tg R C  H.size) (cwV 0 hts gX5_findPath_X2_westBank rfl rfl rfl (by decide +kernel) ⟨Nat.le_of_ble_eq_true rfl, Nat.le_of_ble_eq_true rfl⟩) (kPV (ci := 2) (q0 := 0) (wc := [(tg, wGr R C)]) hK2 hP hD [1] rfl (by decide) rfl rfl) rfl rfl hl.1 rfl (lv_room (Nat.le_of_ble_eq_true rfl)) dX5_findPath_63 ⟨Nat.le_of_ble_eq_true rfl, Nat.le_of_ble_eq_true rfl⟩) hP hD hS hA [1] [0, 2, 3, 4] [0, 4, 1, 2, 3] rfl rfl (by decide) (by decide) (fun _ => rfl) (by decide) (fun r_5 u_5 H locs hw_5 hP hD hS => ?_)
      have hP : va_P D vwCl [(t0, wTB tg td tp b0 l0 no we tl un), (tg, wGr R C), (tp, .inr (4, [.ref pl, .ref pf, .int (nI ln)])), (pl, .inl (cJ, 36, .inr (.inl lay))), (pf, .inl (cI, 36, .inl fs))] H := hP
      have hD : va_D A [(t0, wTB tg td tp b0 l0 no we tl un), (tg, wGr R C), (tp, .inr (4, [.ref pl, .ref pf, .int (nI ln)])), (pl, .inl (cJ, 36, .inr (.inl lay))), (pf, .inl (cI, 36, .inl fs))] := hD
      subst hw_5
      refine lv_aload_n hx hb dX5_findPath_66 rfl (lv_at hl 1 rfl) ?_
      refine va_get (D := D) (ci := 5) (v := .ref tg) (C := RX5) (T := TX5) (N := 9) hx hb hts kiX5_findPath_X5 hown hK hP 0 rfl rfl 0 (by decide) (hts (.fieldLink RX5 12 "TwoBanks" "grid" "LTwoBanks$Grid;") (List.mem_of_getElem? (i := 2) rfl)) (fun _ h9 => h9) rfl dX5_findPath_67 ?_
      refine k_calll (wr := [(t0, wTB tg td tp b0 l0 no we tl un), (tp, .inr (4, [.ref pl, .ref pf, .int (nI ln)])), (pl, .inl (cJ, 36, .inr (.inl lay))), (pf, .inl (cI, 36, .inl fs))]) (w2 := (fun _ : Unit => [(t0, wTB tg td tp b0 l0 no we tl un), (tg, wGr R C), (tp, .inr (4, [.ref pl, .ref pf, .int (nI ln)])), (pl, .inl (cJ, 36, .inr (.inl lay))), (pf, .inl (cI, 36, .inl fs))])) (va_runV (As := []) (rest := [.long (gWeN C R), .long we, .ref tg, .ref tp]) ⟨hx, hb, hml, hown, hts⟩ (c_G_eastBank l D cI cJ cZ tg R C  H.size) (cwV 0 hts gX5_findPath_X2_eastBank rfl rfl rfl (by decide +kernel) ⟨Nat.le_of_ble_eq_true rfl, Nat.le_of_ble_eq_true rfl⟩) (kPV (ci := 2) (q0 := 0) (wc := [(tg, wGr R C)]) hK2 hP hD [1] rfl (by decide) rfl rfl) rfl rfl hl.1 rfl (lv_room (Nat.le_of_ble_eq_true rfl)) dX5_findPath_70 ⟨Nat.le_of_ble_eq_true rfl, Nat.le_of_ble_eq_true rfl⟩) hP hD hS hA [1] [0, 2, 3, 4] [0, 4, 1, 2, 3] rfl rfl (by decide) (by decide) (fun _ => rfl) (by decide) (fun r_6 u_6 H locs hw_6 hP hD hS => ?_)
      have hP : va_P D vwCl [(t0, wTB tg td tp b0 l0 no we tl un), (tg, wGr R C), (tp, .inr (4, [.ref pl, .ref pf, .int (nI ln)])), (pl, .inl (cJ, 36, .inr (.inl lay))), (pf, .inl (cI, 36, .inl fs))] H := hP
      have hD : va_D A [(t0, wTB tg td tp b0 l0 no we tl un), (tg, wGr R C), (tp, .inr (4, [.ref pl, .ref pf, .int (nI ln)])), (pl, .inl (cJ, 36, .inr (.inl lay))), (pf, .inl (cI, 36, .inl fs))] := hD
      subst hw_6
      refine k_callv (wr := [(t0, wTB tg td tp b0 l0 no we tl un)]) (w2 := (fun u : (Nat → Int64) × (Nat → Int32) => match u with | (la, ga) => [(t0, wTB tg td tp b0 l0 no we tl un), (tg, wGr R C), (tp, .inr (4, [.ref pl, .ref pf, .int (nI (K + 1))])), (pl, .inl (cJ, 36, .inr (.inl la))), (pf, .inl (cI, 36, .inl ga))])) (va_runV (As := [.ref tg, .long we, .long (gWeN C R), .long (gEa R C)]) (rest := []) ⟨hx, hb, hml, hown, hts⟩ (c_P_find l D cI cJ cZ tp pl pf tg ln lay fs R C we (gWeN C R) (gEa R C) K hR1 hR2 hC1 hC2 hRC hK9 hK1 hK2b hK3  H.size) (cwV 4 hts gX5_findPath_X4_find rfl rfl rfl (by decide +kernel) ⟨Nat.le_of_ble_eq_true rfl, Nat.le_of_ble_eq_true rfl⟩) (kPV (ci := 4) (q0 := 0) (wc := [(tp, .inr (4, [.ref pl, .ref pf, .int (nI ln)])), (pl, .inl (cJ, 36, .inr (.inl lay))), (pf, .inl (cI, 36, .inl fs)), (tg, wGr R C)]) hK2 hP hD [2, 3, 4, 1] rfl (by decide) rfl rfl) rfl rfl hl.1 rfl (lv_room (Nat.le_of_ble_eq_true rfl)) dX5_findPath_73 ⟨Nat.le_of_ble_eq_true rfl, Nat.le_of_ble_eq_true rfl⟩) hP hD hS hA [2, 3, 4, 1] [0] [0, 4, 1, 2, 3] rfl rfl (by decide) (by decide) (fun ⟨_, _⟩ => rfl) (by decide) (fun u_9 H locs hw_9 hP hD hS => ?_)
      obtain ⟨la_7, ga_8⟩ := u_9
      have hP : va_P D vwCl [(t0, wTB tg td tp b0 l0 no we tl un), (tg, wGr R C), (tp, .inr (4, [.ref pl, .ref pf, .int (nI (K + 1))])), (pl, .inl (cJ, 36, .inr (.inl la_7))), (pf, .inl (cI, 36, .inl ga_8))] H := hP
      have hD : va_D A [(t0, wTB tg td tp b0 l0 no we tl un), (tg, wGr R C), (tp, .inr (4, [.ref pl, .ref pf, .int (nI (K + 1))])), (pl, .inl (cJ, 36, .inr (.inl la_7))), (pf, .inl (cI, 36, .inl ga_8))] := hD
      refine lv_goto (tgt := 86) hx hb dX5_findPath_76 (by decide) ?_
      exact W.vret hx hb hr (fun t ht hW => ⟨⟨(K + 1, la_7, ga_8), rfl, ⟨Or.inr (Or.inl ⟨hwc, K, ⟨hK9, hK1, hK2b, hK3⟩, rfl, hw_9⟩), by show K + 1 ≤ 36; omega⟩, by rw [ht]; exact hP, hD⟩, hS.F ht⟩) hS.2.2 dX5_findPath_86
  · obtain ⟨K, hK9, hK1, hK2b, hK3⟩ := pathK_ex hR1 hR2 hC1 hC2 hno (gWho_i1 c_7_2)
    have hwc : gWho R C no we = 1 := c_7_2
    refine lv_aload_n hx hb dX5_findPath_10 rfl (lv_at hl 1 rfl) ?_
    refine va_get (D := D) (ci := 5) (v := .ref tp) (C := RX5) (T := TX5) (N := 9) hx hb hts kiX5_findPath_X5 hown hK hP 0 rfl rfl 2 (by decide) (hts (.fieldLink RX5 26 "TwoBanks" "path" "LTwoBanks$Path;") (List.mem_of_getElem? (i := 1) rfl)) (fun _ h9 => h9) rfl dX5_findPath_11 ?_
    refine lv_aload_n hx hb dX5_findPath_14 rfl (lv_at hl 1 rfl) ?_
    refine va_get (D := D) (ci := 5) (v := .ref tg) (C := RX5) (T := TX5) (N := 9) hx hb hts kiX5_findPath_X5 hown hK hP 0 rfl rfl 0 (by decide) (hts (.fieldLink RX5 12 "TwoBanks" "grid" "LTwoBanks$Grid;") (List.mem_of_getElem? (i := 2) rfl)) (fun _ h9 => h9) rfl dX5_findPath_15 ?_
    refine lv_aload_n hx hb dX5_findPath_18 rfl (lv_at hl 1 rfl) ?_
    refine va_get (D := D) (ci := 5) (v := .long no) (C := RX5) (T := TX5) (N := 9) hx hb hts kiX5_findPath_X5 hown hK hP 0 rfl rfl 5 (by decide) (hts (.fieldLink RX5 115 "TwoBanks" "north" "J") (List.mem_of_getElem? (i := 3) rfl)) (fun _ h9 => h9) rfl dX5_findPath_19 ?_
    refine lv_aload_n hx hb dX5_findPath_22 rfl (lv_at hl 1 rfl) ?_
    refine va_get (D := D) (ci := 5) (v := .ref tg) (C := RX5) (T := TX5) (N := 9) hx hb hts kiX5_findPath_X5 hown hK hP 0 rfl rfl 0 (by decide) (hts (.fieldLink RX5 12 "TwoBanks" "grid" "LTwoBanks$Grid;") (List.mem_of_getElem? (i := 2) rfl)) (fun _ h9 => h9) rfl dX5_findPath_23 ?_
    refine k_calll (wr := [(t0, wTB tg td tp b0 l0 no we tl un), (tp, .inr (4, [.ref pl, .ref pf, .int (nI ln)])), (pl, .inl (cJ, 36, .inr (.inl lay))), (pf, .inl (cI, 36, .inl fs))]) (w2 := (fun _ : Unit => [(t0, wTB tg td tp b0 l0 no we tl un), (tg, wGr R C), (tp, .inr (4, [.ref pl, .ref pf, .int (nI ln)])), (pl, .inl (cJ, 36, .inr (.inl lay))), (pf, .inl (cI, 36, .inl fs))])) (va_runV (As := []) (rest := [.long no, .ref tg, .ref tp]) ⟨hx, hb, hml, hown, hts⟩ (c_G_northBank l D cI cJ cZ tg R C  H.size) (cwV 0 hts gX5_findPath_X2_northBank rfl rfl rfl (by decide +kernel) ⟨Nat.le_of_ble_eq_true rfl, Nat.le_of_ble_eq_true rfl⟩) (kPV (ci := 2) (q0 := 0) (wc := [(tg, wGr R C)]) hK2 hP hD [1] rfl (by decide) rfl rfl) rfl rfl hl.1 rfl (lv_room (Nat.le_of_ble_eq_true rfl)) dX5_findPath_26 ⟨Nat.le_of_ble_eq_true rfl, Nat.le_of_ble_eq_true rfl⟩) hP hD hS hA [1] [0, 2, 3, 4] [0, 4, 1, 2, 3] rfl rfl (by decide) (by decide) (fun _ => rfl) (by decide) (fun r_10 u_10 H locs hw_10 hP hD hS => ?_)
    have hP : va_P D vwCl [(t0, wTB tg td tp b0 l0 no we tl un), (tg, wGr R C), (tp, .inr (4, [.ref pl, .ref pf, .int (nI ln)])), (pl, .inl (cJ, 36, .inr (.inl lay))), (pf, .inl (cI, 36, .inl fs))] H := hP
    have hD : va_D A [(t0, wTB tg td tp b0 l0 no we tl un), (tg, wGr R C), (tp, .inr (4, [.ref pl, .ref pf, .int (nI ln)])), (pl, .inl (cJ, 36, .inr (.inl lay))), (pf, .inl (cI, 36, .inl fs))] := hD
    subst hw_10
    refine lv_aload_n hx hb dX5_findPath_29 rfl (lv_at hl 1 rfl) ?_
    refine va_get (D := D) (ci := 5) (v := .ref tg) (C := RX5) (T := TX5) (N := 9) hx hb hts kiX5_findPath_X5 hown hK hP 0 rfl rfl 0 (by decide) (hts (.fieldLink RX5 12 "TwoBanks" "grid" "LTwoBanks$Grid;") (List.mem_of_getElem? (i := 2) rfl)) (fun _ h9 => h9) rfl dX5_findPath_30 ?_
    refine k_calll (wr := [(t0, wTB tg td tp b0 l0 no we tl un), (tp, .inr (4, [.ref pl, .ref pf, .int (nI ln)])), (pl, .inl (cJ, 36, .inr (.inl lay))), (pf, .inl (cI, 36, .inl fs))]) (w2 := (fun _ : Unit => [(t0, wTB tg td tp b0 l0 no we tl un), (tg, wGr R C), (tp, .inr (4, [.ref pl, .ref pf, .int (nI ln)])), (pl, .inl (cJ, 36, .inr (.inl lay))), (pf, .inl (cI, 36, .inl fs))])) (va_runV (As := []) (rest := [.long (gNo C), .long no, .ref tg, .ref tp]) ⟨hx, hb, hml, hown, hts⟩ (c_G_southBank l D cI cJ cZ tg R C  H.size) (cwV 0 hts gX5_findPath_X2_southBank rfl rfl rfl (by decide +kernel) ⟨Nat.le_of_ble_eq_true rfl, Nat.le_of_ble_eq_true rfl⟩) (kPV (ci := 2) (q0 := 0) (wc := [(tg, wGr R C)]) hK2 hP hD [1] rfl (by decide) rfl rfl) rfl rfl hl.1 rfl (lv_room (Nat.le_of_ble_eq_true rfl)) dX5_findPath_33 ⟨Nat.le_of_ble_eq_true rfl, Nat.le_of_ble_eq_true rfl⟩) hP hD hS hA [1] [0, 2, 3, 4] [0, 4, 1, 2, 3] rfl rfl (by decide) (by decide) (fun _ => rfl) (by decide) (fun r_11 u_11 H locs hw_11 hP hD hS => ?_)
    have hP : va_P D vwCl [(t0, wTB tg td tp b0 l0 no we tl un), (tg, wGr R C), (tp, .inr (4, [.ref pl, .ref pf, .int (nI ln)])), (pl, .inl (cJ, 36, .inr (.inl lay))), (pf, .inl (cI, 36, .inl fs))] H := hP
    have hD : va_D A [(t0, wTB tg td tp b0 l0 no we tl un), (tg, wGr R C), (tp, .inr (4, [.ref pl, .ref pf, .int (nI ln)])), (pl, .inl (cJ, 36, .inr (.inl lay))), (pf, .inl (cI, 36, .inl fs))] := hD
    subst hw_11
    refine k_callv (wr := [(t0, wTB tg td tp b0 l0 no we tl un)]) (w2 := (fun u : (Nat → Int64) × (Nat → Int32) => match u with | (la, ga) => [(t0, wTB tg td tp b0 l0 no we tl un), (tg, wGr R C), (tp, .inr (4, [.ref pl, .ref pf, .int (nI (K + 1))])), (pl, .inl (cJ, 36, .inr (.inl la))), (pf, .inl (cI, 36, .inl ga))])) (va_runV (As := [.ref tg, .long no, .long (gNo C), .long (gSo R C)]) (rest := []) ⟨hx, hb, hml, hown, hts⟩ (c_P_find l D cI cJ cZ tp pl pf tg ln lay fs R C no (gNo C) (gSo R C) K hR1 hR2 hC1 hC2 hRC hK9 hK1 hK2b hK3  H.size) (cwV 4 hts gX5_findPath_X4_find rfl rfl rfl (by decide +kernel) ⟨Nat.le_of_ble_eq_true rfl, Nat.le_of_ble_eq_true rfl⟩) (kPV (ci := 4) (q0 := 0) (wc := [(tp, .inr (4, [.ref pl, .ref pf, .int (nI ln)])), (pl, .inl (cJ, 36, .inr (.inl lay))), (pf, .inl (cI, 36, .inl fs)), (tg, wGr R C)]) hK2 hP hD [2, 3, 4, 1] rfl (by decide) rfl rfl) rfl rfl hl.1 rfl (lv_room (Nat.le_of_ble_eq_true rfl)) dX5_findPath_36 ⟨Nat.le_of_ble_eq_true rfl, Nat.le_of_ble_eq_true rfl⟩) hP hD hS hA [2, 3, 4, 1] [0] [0, 4, 1, 2, 3] rfl rfl (by decide) (by decide) (fun ⟨_, _⟩ => rfl) (by decide) (fun u_14 H locs hw_14 hP hD hS => ?_)
    obtain ⟨la_12, ga_13⟩ := u_14
    have hP : va_P D vwCl [(t0, wTB tg td tp b0 l0 no we tl un), (tg, wGr R C), (tp, .inr (4, [.ref pl, .ref pf, .int (nI (K + 1))])), (pl, .inl (cJ, 36, .inr (.inl la_12))), (pf, .inl (cI, 36, .inl ga_13))] H := hP
    have hD : va_D A [(t0, wTB tg td tp b0 l0 no we tl un), (tg, wGr R C), (tp, .inr (4, [.ref pl, .ref pf, .int (nI (K + 1))])), (pl, .inl (cJ, 36, .inr (.inl la_12))), (pf, .inl (cI, 36, .inl ga_13))] := hD
    refine lv_goto (tgt := 86) hx hb dX5_findPath_39 (by decide) ?_
    exact W.vret hx hb hr (fun t ht hW => ⟨⟨(K + 1, la_12, ga_13), rfl, ⟨Or.inl ⟨hwc, K, ⟨hK9, hK1, hK2b, hK3⟩, rfl, hw_14⟩, by show K + 1 ≤ 36; omega⟩, by rw [ht]; exact hP, hD⟩, hS.F ht⟩) hS.2.2 dX5_findPath_86
