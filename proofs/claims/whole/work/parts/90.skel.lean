/-! THE CLAIM OUT OF ONE WALK OF THE LAW'S BODY. Your part is whole_start (and what it stands on); all else here is the same for every law, but numbers. -/
def R_law : String := "TwoBanksLaw"
def lw_P (b : Addr) (xs : List Int32) (args : Array Value) (s : State) : Prop := args = #[.ref b] ∧ s.IntsAt b xs ∧ xs.length ≤ 2560 ∧ (Jvm.Cond.and given_1 narrow_1).before args s = true
def lw_Q (_ : Array Value) (s : State) (o : Outcome) (t : State) : Prop := o = .returned (some (.int 1)) ∧ Framed s o t [] 600000 7302250
def lw_Z (below : List Frame) (a : Array Value) (s : State) : State → Prop := fun t => ∃ o, t.status = .running ∧ Ended t below o ∧ lw_Q a s o t
/-- the law's own end, with 1 on the stack, nothing written that was there before, its room as the claim has it -/
theorem lw_ret {p : Program} {l : Launch} {e : Env} {s : State} {m : MethodId} {below : List Frame} {meth : Method} {c : Code} {b : Nat} (hx : p.tables.exec = Jvm.exec) (hb : c.code = code) (hr : meth.sig.returnType = ret) (hlocks : meth.locks = false) {pc : Nat} {H : Heap} {ls : Array Slot} (hdg : decode code pc = .ok (.ireturn, 1)) : W p l e room_1 s m #[Value.ref b] below meth c H [] 600000 7302250 (lw_Z below #[Value.ref b] s) (F0 m pc ls [.int 1]) := by
  intro T hT X
  obtain ⟨fs, hret, hrun, hended, hW, hframe⟩ := X.leave (v := some (.int 1)) (hlocks := hlocks) (fun h => by rw [hr] at h; cases h)
  have hmeth' : T.vm.method? m = some meth := X.method'
  refine ⟨T.setFrames fs, ?_, .returned (some (.int 1)), hrun, hended, rfl, ⟨_, rfl⟩, hW, hframe⟩
  jvm_step X.here [X.here.top, hx, hb, hdg, hmeth', hr, ret, narrow_b1]
  (try refine ⟨rfl, ?_⟩); (try refine ⟨rfl, ?_⟩)
  first | (intro acts; rw [hret _ acts rfl rfl rfl]) | rw [hret _ _ rfl rfl rfl]
  exact Steps.refl _
/-- what holds at the law's entry: the machine, the code, the tables' words (any of lw_tbl by 'hts w (by decide +kernel)'), the script of L ints xs at the cell b, what the Statement gives of the start (any of its parts by flat_of_before) -/
def lw_At (p : Program) (s : State) (m : MethodId) (meth : Method) (c : Code) (b L : Nat) (xs : Nat → Int32) : Prop :=
  p.tables.exec = Jvm.exec ∧ c.code = code ∧ meth.sig.returnType = ret ∧ c.maxLocals = 4 ∧ s.vm.findClass R_law = some m.cls ∧ (∀ w ∈ lw_tbl, w.before #[Value.ref b] s = true) ∧ va_X b L xs s s.heap ∧ b < s.heap.size ∧ meth.locks = false ∧ (Jvm.Cond.and given_1 narrow_1).before #[Value.ref b] s = true
theorem k_arr {s : State} {args : Array Value} {ty : FieldType} (ht : ty = .int ∨ ty = .long ∨ ty = .boolean) (h : (Cond.arrayClass ty).before args s = true) : ∃ cA, ArrOfT s cA ty ∧ va_RA s cA ty := by
  obtain ⟨cA, kA, comp, h1, h2, h3⟩ := Cond.arrayClass_spec h
  exact ⟨cA, fun n z => ⟨fun k h => (by cases h), kA, h2, comp, h3⟩, by rcases ht with rfl | rfl | rfl <;> exact h1⟩
theorem rel_init (row : Nat → Int32) : rel 3 3 0 0 1 1 0 0 row 0 (fun _ => 0) (fun _ => 0) := by
  refine ⟨⟨⟨by decide, by decide⟩, by decide, by decide⟩, ⟨fun f => ?_, fun f => ?_, fun _ _ => Nat.zero_le _⟩, Or.inl rfl, Nat.le_refl _, rfl, fun _ => (show (0 : Nat) < 200 by decide), _, _, hR_0 (Or.inl rfl) (fun _ => ⟨fun _ _ => rfl, rfl⟩)⟩
  · rw [bq_0]; exact ⟨fun q => (by cases q), fun q => absurd (show (0 : Nat) = 1 from q.2) (by decide)⟩
  · rw [bq_0]; exact ⟨fun q => (by cases q), fun q => absurd (show (0 : Nat) = 2 from q.2) (by decide)⟩
theorem kiL_law_X5 : ∀ w ∈ u_ws RX5 TX5 9, w ∈ wsL_law := inlX5
theorem kiL_law_X6 : ∀ w ∈ u_ws RX6 TX6 17, w ∈ wsL_law := inlX6
set_option maxHeartbeats 4000000 in
set_option maxRecDepth 100000 in
theorem whole_start {p : Program} {e : Env} {s : State} {m : MethodId} {below : List Frame} {meth : Method} {c : Code} (l : Launch) (hflags : l.flags = flags0) {sb L : Nat} {xs : Nat → Int32} (hL : L ≤ 2560) (C0 : lw_At p s m meth c sb L xs) : W p l e room_1 s m #[Value.ref sb] below meth c s.heap [] 0 0 (lw_Z below #[Value.ref sb] s) (entryFrame m ([Value.ref sb] : List Value).toArray 4) := by
  obtain ⟨hx, hb, hr, hml, hown, hts0, hX, hbl, hlocks, hgv⟩ := id C0
  have hb : c.code = cL_law := hb
  have hown : s.vm.findClass RL = some m.cls := hown
  have hts : ∀ w ∈ wsL_law, w.before #[Value.ref sb] s = true := fun w h => hts0 w (wsL_law_in w h)
  have hA : ∀ q : Nat, s.heap.size ≤ q → (fun q : Nat => s.heap.size ≤ q) q := fun _ h => h
  have hbA : ¬ (fun q : Nat => s.heap.size ≤ q) sb := Nat.not_le.mpr hbl
  obtain ⟨c0, iS0, hKn0⟩ := u_known (C := RX0) (T := TX0) (N := 3) (n := 3) hts0 inX0 (hts0 _ wix_0)
  obtain ⟨c1, iS1, hKn1⟩ := u_known (C := RX1) (T := TX1) (N := 15) (n := 15) hts0 inX1 (hts0 _ wix_1)
  obtain ⟨c2, iS2, hKn2⟩ := u_known (C := RX2) (T := TX2) (N := 7) (n := 7) hts0 inX2 (hts0 _ wix_2)
  obtain ⟨c3, iS3, hKn3⟩ := u_known (C := RX3) (T := TX3) (N := 1) (n := 1) hts0 inX3 (hts0 _ wix_3)
  obtain ⟨c4, iS4, hKn4⟩ := u_known (C := RX4) (T := TX4) (N := 3) (n := 3) hts0 inX4 (hts0 _ wix_4)
  obtain ⟨c5, iS5, hKn5⟩ := u_known (C := RX5) (T := TX5) (N := 9) (n := 9) hts0 inX5 (hts0 _ wix_5)
  obtain ⟨c6, iS6, hKn6⟩ := u_known (C := RX6) (T := TX6) (N := 17) (n := 17) hts0 inX6 (hts0 _ wix_6)
  obtain ⟨cI, hcI1, hcI2⟩ := k_arr (ty := .int) (by decide) (hts0 _ war_int)
  obtain ⟨cJ, hcJ1, hcJ2⟩ := k_arr (ty := .long) (by decide) (hts0 _ war_long)
  obtain ⟨cZ, hcZ1, hcZ2⟩ := k_arr (ty := .boolean) (by decide) (hts0 _ war_boolean)
  obtain ⟨D, hKc⟩ : ∃ D : va_G, ∀ (k : Nat) (q : vw_C), vwCl[k]? = some q → u_Kn s q.1 q.2.1 q.2.2 (D.1 k) (D.2 k) := by
    refine ⟨(fun k => match k with | 0 => c0 | 1 => c1 | 2 => c2 | 3 => c3 | 4 => c4 | 5 => c5 | _ => c6, fun k => match k with | 0 => iS0 | 1 => iS1 | 2 => iS2 | 3 => iS3 | 4 => iS4 | 5 => iS5 | _ => iS6), ?_⟩
    intro k q hq
    match k, hq with
    | 0, hq => cases hq; exact hKn0
    | 1, hq => cases hq; exact hKn1
    | 2, hq => cases hq; exact hKn2
    | 3, hq => cases hq; exact hKn3
    | 4, hq => cases hq; exact hKn4
    | 5, hq => cases hq; exact hKn5
    | 6, hq => cases hq; exact hKn6
    | k + 7, hq => simp [vwCl] at hq
  have hN : kN s := ⟨va_Nw.of rfl (hts0 _ wnw_0), va_Nw.of rfl (hts0 _ wnw_1), va_Nw.of rfl (hts0 _ wnw_2), va_Nw.of rfl (hts0 _ wnw_3), va_Nw.of rfl (hts0 _ wnw_4), va_Nw.of rfl (hts0 _ wnw_5), va_Nw.of rfl (hts0 _ wnw_6), va_Nw.of rfl (hts0 _ wnw_7), va_Nw.of rfl (hts0 _ wnw_8)⟩
  have hK : va_K D vwCl (kT cI cJ cZ) s := ⟨hKc, fun k q hq => by
    match k, hq with
    | 0, hq => cases hq; exact ⟨hcI1, hcI2⟩
    | 1, hq => cases hq; exact ⟨hcJ1, hcJ2⟩
    | 2, hq => cases hq; exact ⟨hcZ1, hcZ2⟩
    | k + 3, hq => simp [kT] at hq⟩
  have hK2 : kK D cI cJ cZ s := ⟨hK, hN⟩
  have C1 : LCt p s m c D cI cJ cZ (fun q : Nat => s.heap.size ≤ q) sb L xs := ⟨hx, hb, hml, hown, hts, hX, hbl, hK2, hA, hbA, hL⟩
  have hS : va_S (fun q : Nat => s.heap.size ≤ q) s.heap s.heap [] := va_S.rf
  have hP : va_P D vwCl [] s.heap := fun k q h => by simp at h
  have hD : va_D (fun q : Nat => s.heap.size ≤ q) [] := ⟨fun i j p q h => by simp at h, fun k q h => by simp at h⟩
  have hl := lv_entry ([.ref sb]) (n := 4) (Nat.le_of_ble_eq_true rfl)
  rw [lg_entry_eq]
  generalize (lg_sl ([.ref sb]) ++ List.replicate (4 - (lg_sl ([.ref sb])).length) Slot.unset).toArray = ls at hl ⊢
  have hl : lv_has ls 4 [(0, .ref sb)] := hl
  refine va_new (ci := 5) (fs := [.null, .null, .null, .null, .null, .long 0, .long 0, .int (nI 0), .int (nI 0)]) (C := RX5) (T := TX5) (N := 9) hx hb hts kiL_law_X5 tyX5 tyX5_ok hown (hts (.classLink RL 7 RX5) wlw_3) (hts (.instantiable RX5 9) wlw_4) (hts (.initialized RX5) wlw_0) hK hP hD hS hA rfl (fun j hj => by rcases (show j = 0 ∨ j = 1 ∨ j = 2 ∨ j = 3 ∨ j = 4 ∨ j = 5 ∨ j = 6 ∨ j = 7 ∨ j = 8 by omega) with rfl | rfl | rfl | rfl | rfl | rfl | rfl | rfl | rfl <;> rfl) (Nat.le_of_ble_eq_true rfl) (Nat.le_of_ble_eq_true rfl) dL_law_0 (fun q_1 H hP hD hS => ?_)
  have hP : va_P D vwCl [(q_1, .inr (5, [.null, .null, .null, .null, .null, .long 0, .long 0, .int (nI 0), .int (nI 0)]))] H := hP
  have hD : va_D (fun q : Nat => s.heap.size ≤ q) [(q_1, .inr (5, [.null, .null, .null, .null, .null, .long 0, .long 0, .int (nI 0), .int (nI 0)]))] := hD
  refine lv_dup hx hb dL_law_3 rfl ?_
  refine k_callvn (wr := []) (w2 := (fun u : Nat × Nat × Nat × Nat × Nat × Nat × Nat × Nat × Nat × Nat × Nat × Nat × Nat × Nat × Nat × Nat × Nat × Nat × Nat × Nat => match u with | (tga, tda, tra, tpa, pla, pfa, b0a, b1a, b2a, b3a, b4a, b5a, b6a, l0a, l1a, l2a, l3a, l4a, l5a, l6a) => [(q_1, wTB tga tda tpa b0a l0a 0 0 1 1), (tga, wGr 3 3), (tda, .inr (0, [.ref tra, .int (nI 0), .int (nI 0)])), (tra, .inl (cI, 37, .inl (fun _ => nI 0))), (tpa, .inr (4, [.ref pla, .ref pfa, .int (nI 0)])), (pla, .inl (cJ, 36, .inr (.inl (fun _ => 0)))), (pfa, .inl (cI, 36, .inl (fun _ => nI 0))), (b0a, wFi b1a b3a b5a 0 0 0 0 0 0 0 0 0 0 0 0), (b1a, .inr (3, [.ref b2a])), (b2a, .inl (cJ, 16, .inr (.inl (fun _ => 0)))), (b3a, .inr (3, [.ref b4a])), (b4a, .inl (cJ, 1846, .inr (.inl (fun _ => 0)))), (b5a, .inr (3, [.ref b6a])), (b6a, .inl (cJ, 1846, .inr (.inl (fun _ => 0)))), (l0a, wFi l1a l3a l5a 0 0 0 0 0 0 0 0 0 0 0 0), (l1a, .inr (3, [.ref l2a])), (l2a, .inl (cJ, 16, .inr (.inl (fun _ => 0)))), (l3a, .inr (3, [.ref l4a])), (l4a, .inl (cJ, 1846, .inr (.inl (fun _ => 0)))), (l5a, .inr (3, [.ref l6a])), (l6a, .inl (cJ, 1846, .inr (.inl (fun _ => 0))))])) (va_runI (As := []) (rest := [.ref q_1]) ⟨hx, hb, hml, hown, hts⟩ (c_T_init l D cI cJ cZ q_1  H.size) (cwI 0 hts gL_law_X5_init rfl rfl rfl (hts (.initialized RX5) wlw_0) (hts (.methodLink RL 9 yX5_init) wlw_1) (hts (.instanceMethod yX5_init) wlw_2) rfl (by decide +kernel) ⟨Nat.le_of_ble_eq_true rfl, Nat.le_of_ble_eq_true rfl⟩) (kPS (wc := [(q_1, .inr (5, [.null, .null, .null, .null, .null, .long 0, .long 0, .int (nI 0), .int (nI 0)]))]) hK2 hP hD [0] rfl (by decide)) rfl rfl hl.1 rfl (lv_room (Nat.le_of_ble_eq_true rfl)) dL_law_4 ⟨Nat.le_of_ble_eq_true rfl, Nat.le_of_ble_eq_true rfl⟩) hP hD hS hA [0] [] [0, 1, 2, 3, 4, 5, 6, 7, 8, 9, 10, 11, 12, 13, 14, 15, 16, 17, 18, 19, 20] rfl rfl (by decide) (by decide) (fun ⟨_, _, _, _, _, _, _, _, _, _, _, _, _, _, _, _, _, _, _, _⟩ => rfl) (by decide) (fun u_22 H locs hw_22 hP hD hS => ?_)
  obtain ⟨tga_2, tda_3, tra_4, tpa_5, pla_6, pfa_7, b0a_8, b1a_9, b2a_10, b3a_11, b4a_12, b5a_13, b6a_14, l0a_15, l1a_16, l2a_17, l3a_18, l4a_19, l5a_20, l6a_21⟩ := u_22
  have hP : va_P D vwCl [(q_1, wTB tga_2 tda_3 tpa_5 b0a_8 l0a_15 0 0 1 1), (tga_2, wGr 3 3), (tda_3, .inr (0, [.ref tra_4, .int (nI 0), .int (nI 0)])), (tra_4, .inl (cI, 37, .inl (fun _ => nI 0))), (tpa_5, .inr (4, [.ref pla_6, .ref pfa_7, .int (nI 0)])), (pla_6, .inl (cJ, 36, .inr (.inl (fun _ => 0)))), (pfa_7, .inl (cI, 36, .inl (fun _ => nI 0))), (b0a_8, wFi b1a_9 b3a_11 b5a_13 0 0 0 0 0 0 0 0 0 0 0 0), (b1a_9, .inr (3, [.ref b2a_10])), (b2a_10, .inl (cJ, 16, .inr (.inl (fun _ => 0)))), (b3a_11, .inr (3, [.ref b4a_12])), (b4a_12, .inl (cJ, 1846, .inr (.inl (fun _ => 0)))), (b5a_13, .inr (3, [.ref b6a_14])), (b6a_14, .inl (cJ, 1846, .inr (.inl (fun _ => 0)))), (l0a_15, wFi l1a_16 l3a_18 l5a_20 0 0 0 0 0 0 0 0 0 0 0 0), (l1a_16, .inr (3, [.ref l2a_17])), (l2a_17, .inl (cJ, 16, .inr (.inl (fun _ => 0)))), (l3a_18, .inr (3, [.ref l4a_19])), (l4a_19, .inl (cJ, 1846, .inr (.inl (fun _ => 0)))), (l5a_20, .inr (3, [.ref l6a_21])), (l6a_21, .inl (cJ, 1846, .inr (.inl (fun _ => 0))))] H := hP
  have hD : va_D (fun q : Nat => s.heap.size ≤ q) [(q_1, wTB tga_2 tda_3 tpa_5 b0a_8 l0a_15 0 0 1 1), (tga_2, wGr 3 3), (tda_3, .inr (0, [.ref tra_4, .int (nI 0), .int (nI 0)])), (tra_4, .inl (cI, 37, .inl (fun _ => nI 0))), (tpa_5, .inr (4, [.ref pla_6, .ref pfa_7, .int (nI 0)])), (pla_6, .inl (cJ, 36, .inr (.inl (fun _ => 0)))), (pfa_7, .inl (cI, 36, .inl (fun _ => nI 0))), (b0a_8, wFi b1a_9 b3a_11 b5a_13 0 0 0 0 0 0 0 0 0 0 0 0), (b1a_9, .inr (3, [.ref b2a_10])), (b2a_10, .inl (cJ, 16, .inr (.inl (fun _ => 0)))), (b3a_11, .inr (3, [.ref b4a_12])), (b4a_12, .inl (cJ, 1846, .inr (.inl (fun _ => 0)))), (b5a_13, .inr (3, [.ref b6a_14])), (b6a_14, .inl (cJ, 1846, .inr (.inl (fun _ => 0)))), (l0a_15, wFi l1a_16 l3a_18 l5a_20 0 0 0 0 0 0 0 0 0 0 0 0), (l1a_16, .inr (3, [.ref l2a_17])), (l2a_17, .inl (cJ, 16, .inr (.inl (fun _ => 0)))), (l3a_18, .inr (3, [.ref l4a_19])), (l4a_19, .inl (cJ, 1846, .inr (.inl (fun _ => 0)))), (l5a_20, .inr (3, [.ref l6a_21])), (l6a_21, .inl (cJ, 1846, .inr (.inl (fun _ => 0))))] := hD
  refine lv_astore_n (lv' := [(1, .ref q_1), (0, .ref sb)]) hx hb dL_law_7 rfl hl (by decide) rfl (fun ls hl => ?_)
  refine va_new (ci := 6) (fs := [.int (nI 0), .int (nI 0), .int (nI 0), .null, .int (nI 0), .int (nI 0), .null, .int (nI 0), .null, .null, .null, .int (nI 0), .null, .null, .null, .null, .null]) (C := RX6) (T := TX6) (N := 17) hx hb hts kiL_law_X6 tyX6 tyX6_ok hown (hts (.classLink RL 10 RX6) wlw_8) (hts (.instantiable RX6 17) wlw_9) (hts (.initialized RX6) wlw_5) hK hP hD hS hA rfl (fun j hj => by rcases (show j = 0 ∨ j = 1 ∨ j = 2 ∨ j = 3 ∨ j = 4 ∨ j = 5 ∨ j = 6 ∨ j = 7 ∨ j = 8 ∨ j = 9 ∨ j = 10 ∨ j = 11 ∨ j = 12 ∨ j = 13 ∨ j = 14 ∨ j = 15 ∨ j = 16 by omega) with rfl | rfl | rfl | rfl | rfl | rfl | rfl | rfl | rfl | rfl | rfl | rfl | rfl | rfl | rfl | rfl | rfl <;> rfl) (Nat.le_of_ble_eq_true rfl) (Nat.le_of_ble_eq_true rfl) dL_law_8 (fun q_23 H hP hD hS => ?_)
  have hP : va_P D vwCl [(q_1, wTB tga_2 tda_3 tpa_5 b0a_8 l0a_15 0 0 1 1), (tga_2, wGr 3 3), (tda_3, .inr (0, [.ref tra_4, .int (nI 0), .int (nI 0)])), (tra_4, .inl (cI, 37, .inl (fun _ => nI 0))), (tpa_5, .inr (4, [.ref pla_6, .ref pfa_7, .int (nI 0)])), (pla_6, .inl (cJ, 36, .inr (.inl (fun _ => 0)))), (pfa_7, .inl (cI, 36, .inl (fun _ => nI 0))), (b0a_8, wFi b1a_9 b3a_11 b5a_13 0 0 0 0 0 0 0 0 0 0 0 0), (b1a_9, .inr (3, [.ref b2a_10])), (b2a_10, .inl (cJ, 16, .inr (.inl (fun _ => 0)))), (b3a_11, .inr (3, [.ref b4a_12])), (b4a_12, .inl (cJ, 1846, .inr (.inl (fun _ => 0)))), (b5a_13, .inr (3, [.ref b6a_14])), (b6a_14, .inl (cJ, 1846, .inr (.inl (fun _ => 0)))), (l0a_15, wFi l1a_16 l3a_18 l5a_20 0 0 0 0 0 0 0 0 0 0 0 0), (l1a_16, .inr (3, [.ref l2a_17])), (l2a_17, .inl (cJ, 16, .inr (.inl (fun _ => 0)))), (l3a_18, .inr (3, [.ref l4a_19])), (l4a_19, .inl (cJ, 1846, .inr (.inl (fun _ => 0)))), (l5a_20, .inr (3, [.ref l6a_21])), (l6a_21, .inl (cJ, 1846, .inr (.inl (fun _ => 0)))), (q_23, .inr (6, [.int (nI 0), .int (nI 0), .int (nI 0), .null, .int (nI 0), .int (nI 0), .null, .int (nI 0), .null, .null, .null, .int (nI 0), .null, .null, .null, .null, .null]))] H := hP
  have hD : va_D (fun q : Nat => s.heap.size ≤ q) [(q_1, wTB tga_2 tda_3 tpa_5 b0a_8 l0a_15 0 0 1 1), (tga_2, wGr 3 3), (tda_3, .inr (0, [.ref tra_4, .int (nI 0), .int (nI 0)])), (tra_4, .inl (cI, 37, .inl (fun _ => nI 0))), (tpa_5, .inr (4, [.ref pla_6, .ref pfa_7, .int (nI 0)])), (pla_6, .inl (cJ, 36, .inr (.inl (fun _ => 0)))), (pfa_7, .inl (cI, 36, .inl (fun _ => nI 0))), (b0a_8, wFi b1a_9 b3a_11 b5a_13 0 0 0 0 0 0 0 0 0 0 0 0), (b1a_9, .inr (3, [.ref b2a_10])), (b2a_10, .inl (cJ, 16, .inr (.inl (fun _ => 0)))), (b3a_11, .inr (3, [.ref b4a_12])), (b4a_12, .inl (cJ, 1846, .inr (.inl (fun _ => 0)))), (b5a_13, .inr (3, [.ref b6a_14])), (b6a_14, .inl (cJ, 1846, .inr (.inl (fun _ => 0)))), (l0a_15, wFi l1a_16 l3a_18 l5a_20 0 0 0 0 0 0 0 0 0 0 0 0), (l1a_16, .inr (3, [.ref l2a_17])), (l2a_17, .inl (cJ, 16, .inr (.inl (fun _ => 0)))), (l3a_18, .inr (3, [.ref l4a_19])), (l4a_19, .inl (cJ, 1846, .inr (.inl (fun _ => 0)))), (l5a_20, .inr (3, [.ref l6a_21])), (l6a_21, .inl (cJ, 1846, .inr (.inl (fun _ => 0)))), (q_23, .inr (6, [.int (nI 0), .int (nI 0), .int (nI 0), .null, .int (nI 0), .int (nI 0), .null, .int (nI 0), .null, .null, .null, .int (nI 0), .null, .null, .null, .null, .null]))] := hD
  refine lv_dup hx hb dL_law_11 rfl ?_
  refine k_callvn (wr := [(q_1, wTB tga_2 tda_3 tpa_5 b0a_8 l0a_15 0 0 1 1), (tga_2, wGr 3 3), (tda_3, .inr (0, [.ref tra_4, .int (nI 0), .int (nI 0)])), (tra_4, .inl (cI, 37, .inl (fun _ => nI 0))), (tpa_5, .inr (4, [.ref pla_6, .ref pfa_7, .int (nI 0)])), (pla_6, .inl (cJ, 36, .inr (.inl (fun _ => 0)))), (pfa_7, .inl (cI, 36, .inl (fun _ => nI 0))), (b0a_8, wFi b1a_9 b3a_11 b5a_13 0 0 0 0 0 0 0 0 0 0 0 0), (b1a_9, .inr (3, [.ref b2a_10])), (b2a_10, .inl (cJ, 16, .inr (.inl (fun _ => 0)))), (b3a_11, .inr (3, [.ref b4a_12])), (b4a_12, .inl (cJ, 1846, .inr (.inl (fun _ => 0)))), (b5a_13, .inr (3, [.ref b6a_14])), (b6a_14, .inl (cJ, 1846, .inr (.inl (fun _ => 0)))), (l0a_15, wFi l1a_16 l3a_18 l5a_20 0 0 0 0 0 0 0 0 0 0 0 0), (l1a_16, .inr (3, [.ref l2a_17])), (l2a_17, .inl (cJ, 16, .inr (.inl (fun _ => 0)))), (l3a_18, .inr (3, [.ref l4a_19])), (l4a_19, .inl (cJ, 1846, .inr (.inl (fun _ => 0)))), (l5a_20, .inr (3, [.ref l6a_21])), (l6a_21, .inl (cJ, 1846, .inr (.inl (fun _ => 0))))]) (w2 := (fun u : Nat × Nat × Nat × Nat × Nat × Nat × Nat × Nat × Nat × Nat => match u with | (q0a, q1a, q2a, q3a, q4a, q5a, q6a, q7a, q8a, q9a) => [(q_1, wTB tga_2 tda_3 tpa_5 b0a_8 l0a_15 0 0 1 1), (tga_2, wGr 3 3), (tda_3, .inr (0, [.ref tra_4, .int (nI 0), .int (nI 0)])), (tra_4, .inl (cI, 37, .inl (fun _ => nI 0))), (tpa_5, .inr (4, [.ref pla_6, .ref pfa_7, .int (nI 0)])), (pla_6, .inl (cJ, 36, .inr (.inl (fun _ => 0)))), (pfa_7, .inl (cI, 36, .inl (fun _ => nI 0))), (b0a_8, wFi b1a_9 b3a_11 b5a_13 0 0 0 0 0 0 0 0 0 0 0 0), (b1a_9, .inr (3, [.ref b2a_10])), (b2a_10, .inl (cJ, 16, .inr (.inl (fun _ => 0)))), (b3a_11, .inr (3, [.ref b4a_12])), (b4a_12, .inl (cJ, 1846, .inr (.inl (fun _ => 0)))), (b5a_13, .inr (3, [.ref b6a_14])), (b6a_14, .inl (cJ, 1846, .inr (.inl (fun _ => 0)))), (l0a_15, wFi l1a_16 l3a_18 l5a_20 0 0 0 0 0 0 0 0 0 0 0 0), (l1a_16, .inr (3, [.ref l2a_17])), (l2a_17, .inl (cJ, 16, .inr (.inl (fun _ => 0)))), (l3a_18, .inr (3, [.ref l4a_19])), (l4a_19, .inl (cJ, 1846, .inr (.inl (fun _ => 0)))), (l5a_20, .inr (3, [.ref l6a_21])), (l6a_21, .inl (cJ, 1846, .inr (.inl (fun _ => 0)))), (q_23, .inr (6, [.int (nI 3), .int (nI 3), .int (nI 1), .ref q0a, .int (nI 0), .int (nI 0), .ref q1a, .int (nI 1), .ref q2a, .ref q3a, .ref q4a, .int (nI 0), .ref q5a, .ref q6a, .ref q7a, .ref q8a, .ref q9a])), (q0a, .inl (cI, 36, .inl (fun _ => nI 0))), (q1a, .inl (cI, 80, .inl (fun _ => nI 0))), (q2a, .inl (cZ, 36, .inl (bA (fun _ => false)))), (q3a, .inl (cI, 36, .inl (fun _ => nI 0))), (q4a, .inl (cI, 36, .inl (fun _ => nI 0))), (q5a, .inl (cI, 10, .inl (fun _ => nI 0))), (q6a, .inl (cI, 11, .inl (fun _ => nI 0))), (q7a, .inl (cZ, 59049, .inl (bA (fun _ => false)))), (q8a, .inl (cZ, 59049, .inl (bA (fun _ => false)))), (q9a, .inl (cZ, 1024, .inl (bA (fun _ => false))))])) (va_runI (As := []) (rest := [.ref q_23]) ⟨hx, hb, hml, hown, hts⟩ (c_R_init l D cI cJ cZ q_23  H.size) (cwI 0 hts gL_law_X6_init rfl rfl rfl (hts (.initialized RX6) wlw_5) (hts (.methodLink RL 12 yX6_init) wlw_6) (hts (.instanceMethod yX6_init) wlw_7) rfl (by decide +kernel) ⟨Nat.le_of_ble_eq_true rfl, Nat.le_of_ble_eq_true rfl⟩) (kPS (wc := [(q_23, .inr (6, [.int (nI 0), .int (nI 0), .int (nI 0), .null, .int (nI 0), .int (nI 0), .null, .int (nI 0), .null, .null, .null, .int (nI 0), .null, .null, .null, .null, .null]))]) hK2 hP hD [21] rfl (by decide)) rfl rfl hl.1 rfl (lv_room (Nat.le_of_ble_eq_true rfl)) dL_law_12 ⟨Nat.le_of_ble_eq_true rfl, Nat.le_of_ble_eq_true rfl⟩) hP hD hS hA [21] [0, 1, 2, 3, 4, 5, 6, 7, 8, 9, 10, 11, 12, 13, 14, 15, 16, 17, 18, 19, 20] [0, 1, 2, 3, 4, 5, 6, 7, 8, 9, 10, 11, 12, 13, 14, 15, 16, 17, 18, 19, 20, 21, 22, 23, 24, 25, 26, 27, 28, 29, 30, 31] rfl rfl (by decide) (by decide) (fun ⟨_, _, _, _, _, _, _, _, _, _⟩ => rfl) (by decide) (fun u_34 H locs hw_34 hP hD hS => ?_)
  obtain ⟨q0a_24, q1a_25, q2a_26, q3a_27, q4a_28, q5a_29, q6a_30, q7a_31, q8a_32, q9a_33⟩ := u_34
  have hP : va_P D vwCl [(q_1, wTB tga_2 tda_3 tpa_5 b0a_8 l0a_15 0 0 1 1), (tga_2, wGr 3 3), (tda_3, .inr (0, [.ref tra_4, .int (nI 0), .int (nI 0)])), (tra_4, .inl (cI, 37, .inl (fun _ => nI 0))), (tpa_5, .inr (4, [.ref pla_6, .ref pfa_7, .int (nI 0)])), (pla_6, .inl (cJ, 36, .inr (.inl (fun _ => 0)))), (pfa_7, .inl (cI, 36, .inl (fun _ => nI 0))), (b0a_8, wFi b1a_9 b3a_11 b5a_13 0 0 0 0 0 0 0 0 0 0 0 0), (b1a_9, .inr (3, [.ref b2a_10])), (b2a_10, .inl (cJ, 16, .inr (.inl (fun _ => 0)))), (b3a_11, .inr (3, [.ref b4a_12])), (b4a_12, .inl (cJ, 1846, .inr (.inl (fun _ => 0)))), (b5a_13, .inr (3, [.ref b6a_14])), (b6a_14, .inl (cJ, 1846, .inr (.inl (fun _ => 0)))), (l0a_15, wFi l1a_16 l3a_18 l5a_20 0 0 0 0 0 0 0 0 0 0 0 0), (l1a_16, .inr (3, [.ref l2a_17])), (l2a_17, .inl (cJ, 16, .inr (.inl (fun _ => 0)))), (l3a_18, .inr (3, [.ref l4a_19])), (l4a_19, .inl (cJ, 1846, .inr (.inl (fun _ => 0)))), (l5a_20, .inr (3, [.ref l6a_21])), (l6a_21, .inl (cJ, 1846, .inr (.inl (fun _ => 0)))), (q_23, .inr (6, [.int (nI 3), .int (nI 3), .int (nI 1), .ref q0a_24, .int (nI 0), .int (nI 0), .ref q1a_25, .int (nI 1), .ref q2a_26, .ref q3a_27, .ref q4a_28, .int (nI 0), .ref q5a_29, .ref q6a_30, .ref q7a_31, .ref q8a_32, .ref q9a_33])), (q0a_24, .inl (cI, 36, .inl (fun _ => nI 0))), (q1a_25, .inl (cI, 80, .inl (fun _ => nI 0))), (q2a_26, .inl (cZ, 36, .inl (bA (fun _ => false)))), (q3a_27, .inl (cI, 36, .inl (fun _ => nI 0))), (q4a_28, .inl (cI, 36, .inl (fun _ => nI 0))), (q5a_29, .inl (cI, 10, .inl (fun _ => nI 0))), (q6a_30, .inl (cI, 11, .inl (fun _ => nI 0))), (q7a_31, .inl (cZ, 59049, .inl (bA (fun _ => false)))), (q8a_32, .inl (cZ, 59049, .inl (bA (fun _ => false)))), (q9a_33, .inl (cZ, 1024, .inl (bA (fun _ => false))))] H := hP
  have hD : va_D (fun q : Nat => s.heap.size ≤ q) [(q_1, wTB tga_2 tda_3 tpa_5 b0a_8 l0a_15 0 0 1 1), (tga_2, wGr 3 3), (tda_3, .inr (0, [.ref tra_4, .int (nI 0), .int (nI 0)])), (tra_4, .inl (cI, 37, .inl (fun _ => nI 0))), (tpa_5, .inr (4, [.ref pla_6, .ref pfa_7, .int (nI 0)])), (pla_6, .inl (cJ, 36, .inr (.inl (fun _ => 0)))), (pfa_7, .inl (cI, 36, .inl (fun _ => nI 0))), (b0a_8, wFi b1a_9 b3a_11 b5a_13 0 0 0 0 0 0 0 0 0 0 0 0), (b1a_9, .inr (3, [.ref b2a_10])), (b2a_10, .inl (cJ, 16, .inr (.inl (fun _ => 0)))), (b3a_11, .inr (3, [.ref b4a_12])), (b4a_12, .inl (cJ, 1846, .inr (.inl (fun _ => 0)))), (b5a_13, .inr (3, [.ref b6a_14])), (b6a_14, .inl (cJ, 1846, .inr (.inl (fun _ => 0)))), (l0a_15, wFi l1a_16 l3a_18 l5a_20 0 0 0 0 0 0 0 0 0 0 0 0), (l1a_16, .inr (3, [.ref l2a_17])), (l2a_17, .inl (cJ, 16, .inr (.inl (fun _ => 0)))), (l3a_18, .inr (3, [.ref l4a_19])), (l4a_19, .inl (cJ, 1846, .inr (.inl (fun _ => 0)))), (l5a_20, .inr (3, [.ref l6a_21])), (l6a_21, .inl (cJ, 1846, .inr (.inl (fun _ => 0)))), (q_23, .inr (6, [.int (nI 3), .int (nI 3), .int (nI 1), .ref q0a_24, .int (nI 0), .int (nI 0), .ref q1a_25, .int (nI 1), .ref q2a_26, .ref q3a_27, .ref q4a_28, .int (nI 0), .ref q5a_29, .ref q6a_30, .ref q7a_31, .ref q8a_32, .ref q9a_33])), (q0a_24, .inl (cI, 36, .inl (fun _ => nI 0))), (q1a_25, .inl (cI, 80, .inl (fun _ => nI 0))), (q2a_26, .inl (cZ, 36, .inl (bA (fun _ => false)))), (q3a_27, .inl (cI, 36, .inl (fun _ => nI 0))), (q4a_28, .inl (cI, 36, .inl (fun _ => nI 0))), (q5a_29, .inl (cI, 10, .inl (fun _ => nI 0))), (q6a_30, .inl (cI, 11, .inl (fun _ => nI 0))), (q7a_31, .inl (cZ, 59049, .inl (bA (fun _ => false)))), (q8a_32, .inl (cZ, 59049, .inl (bA (fun _ => false)))), (q9a_33, .inl (cZ, 1024, .inl (bA (fun _ => false))))] := hD
  refine lv_astore_n (lv' := [(2, .ref q_23), (1, .ref q_1), (0, .ref sb)]) hx hb dL_law_15 rfl hl (by decide) rfl (fun ls hl => ?_)
  refine lv_iconst (v := (nI 0)) hx hb dL_law_16 (by decide) ?_
  refine lv_istore_n (lv' := [(3, .int (nI 0)), (2, .ref q_23), (1, .ref q_1), (0, .ref sb)]) hx hb dL_law_17 rfl hl (by decide) rfl (fun ls hl => ?_)
  refine W.widen (k := 600000) (n := 7302250) (Nat.le_of_ble_eq_true rfl) (Nat.le_of_ble_eq_true rfl) ?_
  have hend : ∀ (H : Heap) (locs : List Loc) (ls : Array Slot), va_S (fun q : Nat => s.heap.size ≤ q) s.heap H locs → W p l e room_1 s m #[Value.ref sb] below meth c H locs 600000 7302250 (lw_Z below #[Value.ref sb] s) (F0 m 605 ls []) := by
    intro H locs ls hS9
    refine lv_iconst (v := 1) hx hb dL_law_605 (by decide) ?_
    refine va_forget (fun q hq => hS9.2.2 q hq) ?_
    exact lw_ret hx hb hr hlocks dL_law_606
  have hP : va_P D vwCl (wG1 cI q_1 tga_2 tda_3 tra_4 tpa_5 b0a_8 l0a_15 3 3 0 0 1 1 0 0 (fun _ => nI 0) ++ (wG2 cI cJ tpa_5 pla_6 pfa_7 0 (fun _ => 0) (fun _ => nI 0) ++ (wFt cJ b0a_8 b1a_9 b2a_10 b3a_11 b4a_12 b5a_13 b6a_14 (0, 0, 0, 0, 0, 0, 0, 0, 0, 0, 0, 0, (fun _ => 0), (fun _ => 0), (fun _ => 0)) ++ (wFt cJ l0a_15 l1a_16 l2a_17 l3a_18 l4a_19 l5a_20 l6a_21 (0, 0, 0, 0, 0, 0, 0, 0, 0, 0, 0, 0, (fun _ => 0), (fun _ => 0), (fun _ => 0)) ++ (wMM cI cZ q_23 (fun k => match k with | 0 => q0a_24 | 1 => q1a_25 | 2 => q2a_26 | 3 => q3a_27 | 4 => q4a_28 | 5 => q5a_29 | 6 => q6a_30 | 7 => q7a_31 | 8 => q8a_32 | _ => q9a_33) 3 3 1 0 0 1 0 (fun _ => 0) (fun _ => 0) (fun _ => false) (fun _ => 0) (fun _ => 0) (fun _ => 0) (fun _ => 0) (fun _ => false) (fun _ => false) (fun _ => false)))))) H := hP
  have hD : va_D (fun q : Nat => s.heap.size ≤ q) (wG1 cI q_1 tga_2 tda_3 tra_4 tpa_5 b0a_8 l0a_15 3 3 0 0 1 1 0 0 (fun _ => nI 0) ++ (wG2 cI cJ tpa_5 pla_6 pfa_7 0 (fun _ => 0) (fun _ => nI 0) ++ (wFt cJ b0a_8 b1a_9 b2a_10 b3a_11 b4a_12 b5a_13 b6a_14 (0, 0, 0, 0, 0, 0, 0, 0, 0, 0, 0, 0, (fun _ => 0), (fun _ => 0), (fun _ => 0)) ++ (wFt cJ l0a_15 l1a_16 l2a_17 l3a_18 l4a_19 l5a_20 l6a_21 (0, 0, 0, 0, 0, 0, 0, 0, 0, 0, 0, 0, (fun _ => 0), (fun _ => 0), (fun _ => 0)) ++ (wMM cI cZ q_23 (fun k => match k with | 0 => q0a_24 | 1 => q1a_25 | 2 => q2a_26 | 3 => q3a_27 | 4 => q4a_28 | 5 => q5a_29 | 6 => q6a_30 | 7 => q7a_31 | 8 => q8a_32 | _ => q9a_33) 3 3 1 0 0 1 0 (fun _ => 0) (fun _ => 0) (fun _ => false) (fun _ => 0) (fun _ => 0) (fun _ => 0) (fun _ => 0) (fun _ => false) (fun _ => false) (fun _ => false)))))) := hD
  exact law_loop (t0 := q_1) (tg := tga_2) (td := tda_3) (tr := tra_4) (tp := tpa_5) (pl := pla_6) (pf := pfa_7) (b0 := b0a_8) (b1 := b1a_9) (b2 := b2a_10) (b3 := b3a_11) (b4 := b4a_12) (b5 := b5a_13) (b6 := b6a_14) (l0 := l0a_15) (l1 := l1a_16) (l2 := l2a_17) (l3 := l3a_18) (l4 := l4a_19) (l5 := l5a_20) (l6 := l6a_21) (h0 := q_23) (q := (fun k => match k with | 0 => q0a_24 | 1 => q1a_25 | 2 => q2a_26 | 3 => q3a_27 | 4 => q4a_28 | 5 => q5a_29 | 6 => q6a_30 | 7 => q7a_31 | 8 => q8a_32 | _ => q9a_33)) C1 hend (L + 1) 0 H locs ls (Nat.zero_le _) (by omega) ⟨3, 3, 0, 0, 1, 1, 0, 0, (fun _ => nI 0), 0, (fun _ => 0), (fun _ => nI 0), (0, 0, 0, 0, 0, 0, 0, 0, 0, 0, 0, 0, (fun _ => 0), (fun _ => 0), (fun _ => 0)), (0, 0, 0, 0, 0, 0, 0, 0, 0, 0, 0, 0, (fun _ => 0), (fun _ => 0), (fun _ => 0)), 3, 3, 1, 0, 0, 1, 0, (fun _ => 0), (fun _ => 0), (fun _ => false), (fun _ => 0), (fun _ => 0), (fun _ => 0), (fun _ => 0), (fun _ => false), (fun _ => false), (fun _ => false), hP, hD, hS, lv_sub hl [3, 2, 1, 0] rfl, ⟨rfl, rfl, rfl, rfl, rfl, rel_init _⟩, Or.inl rfl, Or.inl rfl⟩
set_option maxHeartbeats 4000000 in
theorem lw_walk (l : Launch) (hflags : l.flags = flags0) (b : Addr) (xs : List Int32) : MetFree l x (headSpec (Jvm.Cond.code x code maxLocals ret :: tables_1) room_1) (lw_P b xs) (fun _ _ _ _ _ => True) lw_Q := by
  refine MetFree.of_bodyS (code := code) (maxLocals := maxLocals) (ret := ret) (by decide) ?_ ?_
  · intro args s m h hn
    obtain ⟨meth, c, h1, h2, h3, h4, h5, h6, -, -⟩ := Cond.code_spec hn (atoms_spec (ws := Jvm.Cond.code x code maxLocals ret :: tables_1) h _ List.mem_cons_self)
    exact ⟨meth, c, h1, h2, h3, h4, h5, h6⟩
  · intro p e s m args below meth c s₁ B hml0 hP _
    obtain ⟨rfl, hx, hbd, hgv⟩ := hP
    obtain ⟨scr, harrAt, hlist, hof, hsmall⟩ := hx
    obtain ⟨hcb, hkn, -, -⟩ := State.arrayAt?_spec harrAt
    have hown : s.vm.findClass R_law = some m.cls := findClass_of_methodNamed B.named
    have hts0 : ∀ c ∈ (Jvm.Cond.code x code maxLocals ret :: tables_1), c.before #[Value.ref b] s = true := atoms_spec (ws := Jvm.Cond.code x code maxLocals ret :: tables_1) B.pre
    have hts : ∀ w ∈ lw_tbl, w.before #[Value.ref b] s = true := k2_hts_sels lw_privs (fun w hw => hts0 w (List.mem_cons_of_mem _ hw)) lw_privs_ok
    have hml : c.maxLocals = 4 := B.maxLocals_eq (hts0 _ List.mem_cons_self)
    have X₀ : Stand p l e room_1 s m #[Value.ref b] below meth c s₁ [] 0 0 := Stand.of_body B
    have hh0 : s₁.heap = s.heap := by rw [B.state]; rfl
    have hsz : scr.slots.size = xs.length := by rw [← Array.length_toList, hlist, List.length_map]
    have hval : ∀ j : Nat, j < xs.length → scr.slots[j]? = some (.int (xs.getD j 0)) := fun j hj => by
      rw [← Array.getElem?_toList, hlist]
      simp [hj]
    have hbl : b < s.heap.size := (Array.getElem?_eq_some_iff.mp hcb).1
    have hX : va_X b xs.length (fun j => xs.getD j 0) s s.heap := ⟨scr, hcb, hof, hkn, hsz, hval⟩
    have K : W p l e room_1 s m #[Value.ref b] below meth c s₁.heap [] 0 0 (lw_Z below #[Value.ref b] s) (entryFrame m ([Value.ref b] : List Value).toArray 4) := by
      rw [hh0]
      exact whole_start l hflags hbd ⟨B.exec, B.bytes, B.returns, hml, hown, hts, hX, hbl, B.notSynchronized, hgv⟩
    obtain ⟨t, a1, o, b1, b2, b3⟩ := K s₁ rfl X₀
    exact ⟨t, o, a1, b1, b2, b3⟩
theorem lw_pre_spec {args : Array Value} {s : State} (h : (Jvm.Cond.and given_1 narrow_1).before args s = true) (hr : rest_1_c.before args s = true) : ∃ (b : Addr) (xs : List Int32), lw_P b xs args s := by
  have hs := flat_of_before _ h
  have hq := flat_of_before _ hr
  have hc : (Cond.count 1).before args s = true := hs _ (by decide +kernel)
  have harr : (Cond.arrayOf (.arg 0) .int).before args s = true := hs _ (by decide +kernel)
  have hle : (Cond.le (.length (.arg 0)) (.int 2560)).before args s = true := hs _ (by decide +kernel)
  have hlen : (Cond.isInt (.length (.arg 0))).before args s = true := hq _ (by decide +kernel)
  have hall : (Cond.all (.arg 0) (.isInt (.elem (.arg 0) (.index 0)))).before args s = true := hq _ (by decide +kernel)
  obtain ⟨b, xs, hb, hx⟩ := State.ints_of_pre rfl harr hlen hall
  have hsm : xs.length < 2 ^ 31 := hx.choose_spec.2.2.2
  have hev : (Term.length (.arg 0)).eval args s none [] s = some (.int xs.length.toInt32) := hx.length_eval hb
  have hv := Cond.le_ints hev (show (Term.int 2560).eval args s none [] s = some (.int 2560) from rfl)
  have hd : xs.length.toInt32 ≤ 2560 := by
    simpa [Cond.before, Cond.holds, hv] using hle
  have hN : xs.length ≤ 2560 := (Int32.ofNat_le_ofNat hsm (by decide)).mp (show Int32.ofNat xs.length ≤ Int32.ofNat 2560 from hd)
  exact ⟨b, xs, Cond.one_arg hc (show args[0]? = some (.ref b) from hb), hx, hN, h⟩
theorem lw_comes (l : Launch) (hflags : l.flags = flags0) : Comes l x (Jvm.Cond.code x code maxLocals ret :: tables_1) room_1 (fun tb e args s => Calls_1 tb e args s ∧ rest_1 tb e args s ∧ Pre_1 tb e args s)
    (fun _ _ args s o t => lw_Q args s o t) := by
  intro p e ha hc hk s m args below hf hfit hheap happ hpre
  obtain ⟨b, xs, hP⟩ := lw_pre_spec hpre.2.2 hpre.2.1
  obtain ⟨k, o, h1, h2, h3, hQ⟩ := lw_walk l hflags b xs p e ha hc hk s m args below hf ((Spec.applies_iff_loose hf).mp happ).1 hP trivial
  exact ⟨k, o, h1, h2, h3, hQ⟩
theorem lw_frame {s t : State} {o : Outcome} {args : Array Value} (h : Framed s o t [] 600000 7302250) :
    Framed s o t (fieldLocs frame_1_writes args s ++ arrayLocs frame_1_arrays args s ++ staticLocs frame_1_statics s) 600000 7302250 := h
theorem lw_limb (L : Cond) (hL : ∀ (args : Array Value) (s t : State), L.after args s (.returned (some (.int 1))) t = true) :
    ArmFor flags0 classFile x code maxLocals ret World_1 tables_1 room_1 Calls_1 rest_1 Pre_1
      (fun tb e a s o t => postC L tb e a s o t ∧ Framed s o t (fieldLocs frame_1_writes a s ++ arrayLocs frame_1_arrays a s ++ staticLocs frame_1_statics s) 600000 7302250) := by
  intro l hflags _ _ p e ha hc hk s m args below hf hfit hheap happ hpre
  obtain ⟨k, o, h1, h2, h3, rfl, hF⟩ := lw_comes l hflags p e ha hc hk s m args below hf hfit hheap happ hpre
  exact ⟨k, _, h1, h2, h3, hL args s _, lw_frame hF⟩
theorem i_vc : Claimed_1_1 ∧ Claimed_1_2 := ⟨lw_limb limb_1_1 (fun args s t => by simp [limb_1_1, Cond.after, Cond.holds, Cond.value]), lw_limb limb_1_2 (fun args s t => Cond.after_iff.mpr (by
  first | (rw [show limb_1_2 = Cond.eq .result (.int 1) from rfl, Cond.eq_ints (x := 1) (y := 1) rfl rfl]; simp; done) | (simp [limb_1_2, Cond.value, Term.eval]; done)))⟩
