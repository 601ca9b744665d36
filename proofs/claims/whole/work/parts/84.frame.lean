/-! calls over a part of the cells: the others stay as they are -/
theorem va_D_addr {A : Nat → Prop} {ws ws2 : va_W} (h : va_D A ws) (e : ws2.map Prod.fst = ws.map Prod.fst) : va_D A ws2 := by
  have key : ∀ (k : Nat) (q : Nat × va_E), ws2[k]? = some q → ∃ x, ws[k]? = some x ∧ x.1 = q.1 := by
    intro k q hq
    have h1 : (ws2.map Prod.fst)[k]? = some q.1 := by rw [List.getElem?_map, hq]; rfl
    rw [e, List.getElem?_map] at h1
    cases h2 : ws[k]? with
    | none => rw [h2] at h1; cases h1
    | some x => rw [h2] at h1; exact ⟨x, rfl, Option.some.inj h1⟩
  refine ⟨fun i j p q hi hj hpq => ?_, fun k q hq => ?_⟩
  · obtain ⟨x, x1, x2⟩ := key i p hi
    obtain ⟨y, y1, y2⟩ := key j q hj
    exact h.1 i j x y x1 y1 (by rw [x2, y2, hpq])
  · obtain ⟨x, x1, x2⟩ := key k q hq
    rw [← x2]; exact h.2 k x x1
theorem va_D_nod {A : Nat → Prop} {ws : va_W} (h : va_D A ws) : (ws.map Prod.fst).Nodup := by
  rw [List.nodup_iff_pairwise_ne, List.pairwise_iff_getElem]
  intro i j hi hj hij he
  have hi2 : i < ws.length := by rw [List.length_map] at hi; exact hi
  have hj2 : j < ws.length := by rw [List.length_map] at hj; exact hj
  rw [List.getElem_map, List.getElem_map] at he
  have := h.1 i j ws[i] ws[j] (List.getElem?_eq_getElem hi2) (List.getElem?_eq_getElem hj2) he
  omega
theorem va_D_of {A : Nat → Prop} {ws : va_W} (h1 : (ws.map Prod.fst).Nodup) (h2 : ∀ q ∈ ws, A q.1) : va_D A ws := by
  refine ⟨fun i j p q hi hj hpq => ?_, fun k q hq => h2 q (List.mem_of_getElem? hq)⟩
  rw [List.nodup_iff_pairwise_ne, List.pairwise_iff_getElem] at h1
  obtain ⟨hi1, hi2⟩ := List.getElem?_eq_some_iff.mp hi
  obtain ⟨hj1, hj2⟩ := List.getElem?_eq_some_iff.mp hj
  have e : ∀ (a b : Nat) (ha : a < ws.length) (hb : b < ws.length), a < b → ws[a].1 ≠ ws[b].1 := fun a b ha hb hab => by
    have := h1 a b (by rw [List.length_map]; exact ha) (by rw [List.length_map]; exact hb) hab
    rw [List.getElem_map, List.getElem_map] at this
    exact this
  rcases Nat.lt_trichotomy i j with c | c | c
  · exact absurd (by rw [hi2, hj2, hpq]) (e i j hi1 hj1 c)
  · exact c
  · exact absurd (by rw [hi2, hj2, hpq]) (e j i hj1 hi1 c)
theorem va_D_perm {A : Nat → Prop} {ws ws2 : va_W} (h : va_D A ws) (p : ws.Perm ws2) : va_D A ws2 := va_D_of ((p.map Prod.fst).nodup (va_D_nod h)) (fun q hq => by
  obtain ⟨k, hk⟩ := List.getElem?_of_mem (p.mem_iff.mpr hq)
  exact h.2 k q hk)
theorem va_P_perm {D : va_G} {cl : List vw_C} {ws ws2 : va_W} {H : Heap} (h : va_P D cl ws H) (p : ws.Perm ws2) : va_P D cl ws2 H := fun k q hq => by
  obtain ⟨j, hj⟩ := List.getElem?_of_mem (p.mem_iff.mpr (List.mem_of_getElem? hq))
  exact h j q hj
theorem va_Pl {D : va_G} {cl : List vw_C} {X Y : va_W} {H : Heap} (h : va_P D cl (X ++ Y) H) : va_P D cl X H := fun k q hq => by
  obtain ⟨hk, _⟩ := List.getElem?_eq_some_iff.mp hq
  exact h k q (by rw [List.getElem?_append_left hk]; exact hq)
theorem va_Pr {D : va_G} {cl : List vw_C} {X Y : va_W} {H : Heap} (h : va_P D cl (X ++ Y) H) : va_P D cl Y H := fun k q hq => by
  refine h (X.length + k) q ?_
  rw [List.getElem?_append_right (by omega), Nat.add_sub_cancel_left]
  exact hq
theorem va_Dl {A : Nat → Prop} {X Y : va_W} (h : va_D A (X ++ Y)) : va_D A X := by
  have key : ∀ (k : Nat) (q : Nat × va_E), X[k]? = some q → (X ++ Y)[k]? = some q := fun k q hq => by
    obtain ⟨hk, _⟩ := List.getElem?_eq_some_iff.mp hq
    rw [List.getElem?_append_left hk]; exact hq
  exact ⟨fun i j p q hi hj hpq => h.1 i j p q (key i p hi) (key j q hj) hpq, fun k q hq => h.2 k q (key k q hq)⟩
theorem pm_1 {a b c d m : va_W} : (a ++ (b ++ (c ++ (d ++ m)))).Perm (m ++ (a ++ (b ++ (c ++ d)))) := by
  have := List.perm_append_comm (l₁ := a ++ (b ++ (c ++ d))) (l₂ := m)
  rw [List.append_assoc, List.append_assoc, List.append_assoc] at this
  exact this
theorem pm_2 {a b c r : va_W} : (a ++ (b ++ (c ++ r))).Perm (a ++ (c ++ (b ++ r))) := List.Perm.append_left a (List.perm_append_comm_assoc b c r)
theorem pm_3 {a b c d m : va_W} : (a ++ (b ++ (c ++ (d ++ m)))).Perm (a ++ (d ++ (b ++ (c ++ m)))) := List.Perm.append_left a ((List.Perm.append_left b (List.perm_append_comm_assoc c d m)).trans (List.perm_append_comm_assoc b d (c ++ m)))
section KF
variable {p : Program} {l : Launch} {e : Env} {R : Room} {s : State} {m : MethodId} {args : Array Value} {below : List Frame} {meth : Method} {c : Code} {H : Heap} {locs : List Loc} {cells slots : Nat} {Q : State → Prop} {pc : Nat} {ls : Array Slot} {rest st0 : List Value}
theorem k_calliF {D : va_G} {A : Nat → Prop} {S : Type} {post : Int32 → S → Prop} {f : S → va_W} {X wc wr pl : va_W} {a : Array Value} {w2 : S → va_W}
    (hr : va_Run p l e R s m args below meth c H locs cells slots 0 0 (F0 m pc ls st0) rest (va_Qi post (kB D (va_A wc H.size) f) (va_A wc H.size) a) (va_A wc H.size))
    (hP : va_P D vwCl (X ++ pl) H) (hD : va_D A (X ++ pl)) (hS : va_S A s.heap H locs) (hA : ∀ q, s.heap.size ≤ q → A q) (isC isR perm : List Nat) (hC : isC.map (fun i => X[i]?) = wc.map some) (hR : isR.map (fun i => X[i]?) = wr.map some) (hn : va_nd isR = true) (hdis : ∀ i ∈ isR, i ∉ isC)
    (hp1 : ∀ u, perm.map (fun i => (wr ++ f u)[i]?) = (w2 u).map some) (had : ∀ u, (w2 u).map Prod.fst = X.map Prod.fst)
    (kk : ∀ (r : Int32) (u : S) (H1 : Heap) (locs1 : List Loc), post r u → va_P D vwCl (w2 u ++ pl) H1 → va_D A (w2 u ++ pl) → va_S A s.heap H1 locs1 → W p l e R s m args below meth c H1 locs1 cells slots Q (F0 m (pc + 3) ls (.int r :: rest))) :
    W p l e R s m args below meth c H locs cells slots Q (F0 m pc ls st0) := by
  have hF := va_free (wc := wc) (va_Dl hD) hS hA isC hC
  refine va_calli hr hS (fun q _ h => hF q h) hF (fun r u t H1 locs1 ht hvm hw hB hz1 hk1 hS1 => ?_)
  obtain ⟨hP1, hD1⟩ := hB
  rw [ht] at hP1
  obtain ⟨h1, h2⟩ := va_joinQ hP hD isC isR hC hR hn hdis hk1 hF hP1 hD1
  exact kk r u H1 locs1 hw (((va_Pl h1).sub perm (k_pick (hp1 u))).app (va_Pr h1)) (va_D_addr hD (by rw [List.map_append, List.map_append, had u])) hS1
theorem k_callvF {D : va_G} {A : Nat → Prop} {S : Type} {post : S → Prop} {f : S → va_W} {X wc wr pl : va_W} {a : Array Value} {w2 : S → va_W}
    (hr : va_Run p l e R s m args below meth c H locs cells slots 0 0 (F0 m pc ls st0) rest (va_Qv post (kB D (va_A wc H.size) f) (va_A wc H.size) a) (va_A wc H.size))
    (hP : va_P D vwCl (X ++ pl) H) (hD : va_D A (X ++ pl)) (hS : va_S A s.heap H locs) (hA : ∀ q, s.heap.size ≤ q → A q) (isC isR perm : List Nat) (hC : isC.map (fun i => X[i]?) = wc.map some) (hR : isR.map (fun i => X[i]?) = wr.map some) (hn : va_nd isR = true) (hdis : ∀ i ∈ isR, i ∉ isC)
    (hp1 : ∀ u, perm.map (fun i => (wr ++ f u)[i]?) = (w2 u).map some) (had : ∀ u, (w2 u).map Prod.fst = X.map Prod.fst)
    (kk : ∀ (u : S) (H1 : Heap) (locs1 : List Loc), post u → va_P D vwCl (w2 u ++ pl) H1 → va_D A (w2 u ++ pl) → va_S A s.heap H1 locs1 → W p l e R s m args below meth c H1 locs1 cells slots Q (F0 m (pc + 3) ls rest)) :
    W p l e R s m args below meth c H locs cells slots Q (F0 m pc ls st0) := by
  have hF := va_free (wc := wc) (va_Dl hD) hS hA isC hC
  refine va_callv hr hS (fun q _ h => hF q h) hF (fun u t H1 locs1 ht hvm hw hB hz1 hk1 hS1 => ?_)
  obtain ⟨hP1, hD1⟩ := hB
  rw [ht] at hP1
  obtain ⟨h1, h2⟩ := va_joinQ hP hD isC isR hC hR hn hdis hk1 hF hP1 hD1
  exact kk u H1 locs1 hw (((va_Pl h1).sub perm (k_pick (hp1 u))).app (va_Pr h1)) (va_D_addr hD (by rw [List.map_append, List.map_append, had u])) hS1
end KF
