theorem lw_le {L i : Nat} (hL : L ≤ 2560) (hi : i ≤ L) (h : ¬ (Int32.ofNat L - nI 5 < nI i)) : i + 5 ≤ L := by
  rcases Nat.lt_or_ge L 5 with q | q
  · exfalso
    apply h
    have hl : Int32.ofNat L - nI 5 < 0 := by
      rcases (show L = 0 ∨ L = 1 ∨ L = 2 ∨ L = 3 ∨ L = 4 by omega) with rfl | rfl | rfl | rfl | rfl <;> decide
    have h0 := nI_pos (n := i) (by omega)
    rw [Int32.lt_iff_toInt_lt] at hl h0 ⊢
    omega
  · have e : Int32.ofNat L - nI 5 = nI (L - 5) := pk_sub q
    rw [e] at h
    have h2 : ¬ L - 5 < i := fun hh => h ((nI_ltI (by omega) (by omega)).mpr hh)
    omega
set_option maxHeartbeats 4000000 in
set_option maxRecDepth 100000 in
theorem law_loop {p : Program} {l : Launch} {e : Env} {s : State} {m : MethodId} {below : List Frame} {meth : Method} {c : Code} {Q : State → Prop} {D : va_G} {cI cJ cZ : ClassId} {A : Nat → Prop} {sb L : Nat} {xs : Nat → Int32} {t0 tg td tr tp pl pf b0 b1 b2 b3 b4 b5 b6 l0 l1 l2 l3 l4 l5 l6 h0 : Nat} {q : Nat → Nat} (C0 : LCt p s m c D cI cJ cZ A sb L xs) (hend : ∀ (H : Heap) (locs : List Loc) (ls : Array Slot), va_S A s.heap H locs → W p l e room_1 s m #[Value.ref sb] below meth c H locs 600000 7302250 Q (F0 m 605 ls [])) : ∀ (n i : Nat) (H : Heap) (locs : List Loc) (ls : Array Slot), i ≤ L → L < i + n → LInv D cI cJ cZ A s.heap sb t0 tg td tr tp pl pf b0 b1 b2 b3 b4 b5 b6 l0 l1 l2 l3 l4 l5 l6 h0 q i H locs ls → W p l e room_1 s m #[Value.ref sb] below meth c H locs 600000 7302250 Q (F0 m 18 ls []) := by
  obtain ⟨hx, hb, hml, hown, hts, hX, hbl, hK2, hA, hbA, hL⟩ := id C0
  intro n
  induction n with
  | zero => intro i H locs ls h1 h2; exact absurd h2 (by omega)
  | succ n ih =>
    intro i H locs ls hi hn h
    obtain ⟨R, C, no, we, tl, un, dn, kn, row, ln, lay, fs, B9, L9, R2, C2, tn, dn2, ag, md, em, bo, ac, zz, tu, fa, ey, pw, y1, y2, n9, hP, hD, hS, hl, hrel9, hBin, hLin⟩ := id h
    refine lv_iload_n hx hb dL_law_18 rfl (lv_at hl 3 rfl) ?_
    refine lv_aload_n hx hb dL_law_19 rfl (lv_at hl 0 rfl) ?_
    refine va_slen hx hb hX hbl hbA hS dL_law_20 ?_
    refine lv_iconst (v := nI 5) hx hb dL_law_21 (by decide) ?_
    refine lv_isub hx hb dL_law_22 ?_
    refine lv_icmp_gt (tgt := 605) hx hb dL_law_23 (by decide) (fun c9 => hend H locs ls hS) (fun c9 => ?_)
    have hlt : i + 5 ≤ L := lw_le hL hi c9
    have hIH : ∀ (H : Heap) (locs : List Loc) (ls : Array Slot), LInv D cI cJ cZ A s.heap sb t0 tg td tr tp pl pf b0 b1 b2 b3 b4 b5 b6 l0 l1 l2 l3 l4 l5 l6 h0 q (i + 5) H locs ls → W p l e room_1 s m #[Value.ref sb] below meth c H locs 600000 7302250 Q (F0 m 18 ls []) := fun H locs ls h9 => ih (i + 5) H locs ls hlt (by omega) h9
    refine lv_aload_n hx hb dL_law_26 rfl (lv_at hl 0 rfl) ?_
    refine lv_iload_n hx hb dL_law_27 rfl (lv_at hl 3 rfl) ?_
    refine va_sld hx hb hX hbl hbA hS (vp_in_nI (by omega) (by omega)) dL_law_28 ?_
    refine lv_bipush (v := nI 31) hx hb dL_law_29 (by decide) ?_
    refine lv_iand hx hb dL_law_31 ?_
    refine lv_topi (fun v9 ev9 => ?_)
    clear ev9
    by_cases hw0 : v9 = nI 0
    · subst hw0
      refine lv_tableIn (off := 92) (tgt := 124) hx hb dL_law_32 (by decide) (by decide) rfl (by decide) ?_
      exact lc_board C0 hlt hIH h
    by_cases hw1 : v9 = nI 1
    · subst hw1
      refine lv_tableIn (off := 125) (tgt := 157) hx hb dL_law_32 (by decide) (by decide) rfl (by decide) ?_
      exact lc_set C0 hlt hIH h
    by_cases hw2 : v9 = nI 2
    · subst hw2
      refine lv_tableIn (off := 168) (tgt := 200) hx hb dL_law_32 (by decide) (by decide) rfl (by decide) ?_
      exact lc_lay C0 hlt hIH h
    by_cases hw3 : v9 = nI 3
    · subst hw3
      refine lv_tableIn (off := 191) (tgt := 223) hx hb dL_law_32 (by decide) (by decide) rfl (by decide) ?_
      exact lc_swap C0 hlt hIH h
    by_cases hw4 : v9 = nI 4
    · subst hw4
      refine lv_tableIn (off := 204) (tgt := 236) hx hb dL_law_32 (by decide) (by decide) rfl (by decide) ?_
      exact lc_undo C0 hlt hIH h
    by_cases hw5 : v9 = nI 5
    · subst hw5
      refine lv_tableIn (off := 217) (tgt := 249) hx hb dL_law_32 (by decide) (by decide) rfl (by decide) ?_
      exact lc_redo C0 hlt hIH h
    by_cases hw6 : v9 = nI 6
    · subst hw6
      refine lv_tableIn (off := 230) (tgt := 262) hx hb dL_law_32 (by decide) (by decide) rfl (by decide) ?_
      exact lc_change C0 hlt hIH h
    by_cases hw7 : v9 = nI 7
    · subst hw7
      refine lv_tableIn (off := 241) (tgt := 273) hx hb dL_law_32 (by decide) (by decide) rfl (by decide) ?_
      exact lc_at C0 hlt hIH h
    by_cases hw8 : v9 = nI 8
    · subst hw8
      refine lv_tableIn (off := 264) (tgt := 296) hx hb dL_law_32 (by decide) (by decide) rfl (by decide) ?_
      exact lc_group C0 hlt hIH h
    by_cases hw9 : v9 = nI 9
    · subst hw9
      refine lv_tableIn (off := 287) (tgt := 319) hx hb dL_law_32 (by decide) (by decide) rfl (by decide) ?_
      exact lc_look C0 hlt hIH h
    by_cases hw10 : v9 = nI 10
    · subst hw10
      refine lv_tableIn (off := 320) (tgt := 352) hx hb dL_law_32 (by decide) (by decide) rfl (by decide) ?_
      exact lc_joined C0 hlt hIH h
    by_cases hw11 : v9 = nI 11
    · subst hw11
      refine lv_tableIn (off := 333) (tgt := 365) hx hb dL_law_32 (by decide) (by decide) rfl (by decide) ?_
      exact lc_way C0 hlt hIH h
    by_cases hw12 : v9 = nI 12
    · subst hw12
      refine lv_tableIn (off := 356) (tgt := 388) hx hb dL_law_32 (by decide) (by decide) rfl (by decide) ?_
      exact lc_winner C0 hlt hIH h
    by_cases hw13 : v9 = nI 13
    · subst hw13
      refine lv_tableIn (off := 379) (tgt := 411) hx hb dL_law_32 (by decide) (by decide) rfl (by decide) ?_
      exact lc_first C0 hlt hIH h
    by_cases hw14 : v9 = nI 14
    · subst hw14
      refine lv_tableIn (off := 412) (tgt := 444) hx hb dL_law_32 (by decide) (by decide) rfl (by decide) ?_
      exact lc_fillings C0 hlt hIH h
    by_cases hw15 : v9 = nI 15
    · subst hw15
      refine lv_tableIn (off := 425) (tgt := 457) hx hb dL_law_32 (by decide) (by decide) rfl (by decide) ?_
      exact lc_dead C0 hlt hIH h
    by_cases hw16 : v9 = nI 16
    · subst hw16
      refine lv_tableIn (off := 448) (tgt := 480) hx hb dL_law_32 (by decide) (by decide) rfl (by decide) ?_
      exact lc_link C0 hlt hIH h
    by_cases hw17 : v9 = nI 17
    · subst hw17
      refine lv_tableIn (off := 491) (tgt := 523) hx hb dL_law_32 (by decide) (by decide) rfl (by decide) ?_
      exact lc_half C0 hlt hIH h
    by_cases hw18 : v9 = nI 18
    · subst hw18
      refine lv_tableIn (off := 544) (tgt := 576) hx hb dL_law_32 (by decide) (by decide) rfl (by decide) ?_
      exact lc_count C0 hlt hIH h
    have hout : v9.toInt < 0 ∨ (18 : Int) < v9.toInt := k_out (hi := 18) (by decide) (fun j hj => by rcases (show j = 0 ∨ j = 1 ∨ j = 2 ∨ j = 3 ∨ j = 4 ∨ j = 5 ∨ j = 6 ∨ j = 7 ∨ j = 8 ∨ j = 9 ∨ j = 10 ∨ j = 11 ∨ j = 12 ∨ j = 13 ∨ j = 14 ∨ j = 15 ∨ j = 16 ∨ j = 17 ∨ j = 18 by omega) with rfl | rfl | rfl | rfl | rfl | rfl | rfl | rfl | rfl | rfl | rfl | rfl | rfl | rfl | rfl | rfl | rfl | rfl | rfl; exact hw0; exact hw1; exact hw2; exact hw3; exact hw4; exact hw5; exact hw6; exact hw7; exact hw8; exact hw9; exact hw10; exact hw11; exact hw12; exact hw13; exact hw14; exact hw15; exact hw16; exact hw17; exact hw18)
    refine lv_tableOut (tgt := 599) hx hb dL_law_32 hout (by decide) ?_
    refine lv_iinc (v := (nI (i + 5))) (lv' := [(3, .int (nI (i + 5))), (0, .ref sb), (1, .ref t0), (2, .ref h0)]) hx hb dL_law_599 hl (k := 3) rfl (k_inc _ 5) (by decide) rfl (fun ls hl => ?_)
    refine lv_goto (tgt := 18) hx hb dL_law_602 (by decide) ?_
    exact hIH H locs ls ⟨R, C, no, we, tl, un, dn, kn, row, ln, lay, fs, B9, L9, R2, C2, tn, dn2, ag, md, em, bo, ac, zz, tu, fa, ey, pw, y1, y2, n9, hP, hD, hS, lv_sub hl [1, 2, 3, 0] rfl, hrel9, hBin, hLin⟩
