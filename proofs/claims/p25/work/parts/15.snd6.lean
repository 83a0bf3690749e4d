/-! Returns, throws, calls; and every run of every method, by its fuel. -/
theorem s1_inv {α : Type} {st : List av} {k : Int → Option α} {u : α} (h : s1 st k none = some u) : ∃ x, st = [vi x] ∧ k x = some u := by
  unfold s1 at h
  split at h
  · exact ⟨_, rfl, h⟩
  · cases h
theorem s0_inv {α : Type} {st : List av} {k : Option α} {u : α} (h : s0 st k none = some u) : st = [] ∧ k = some u := by
  unfold s0 at h
  split at h
  · exact ⟨rfl, h⟩
  · cases h
theorem sn_ireturn {l : Launch} {D : va_G} {A : Nat → Prop} {bS : Nat} {p : Program} {e : Env} {R : Room} {s : State} {mm : MethodId} {args : Array Value} {below : List Frame} {meth : Method} {cc : Code} {q : mI} {m pc : Nat} {H : Heap} {locs : List Loc} {cells slots : Nat} {sl : Array Slot} {ads : Nat → Nat} {cas : Nat → ClassId} {ls : lo} {st : List av} {I : IT} {C : CT} {n c z : Nat} {w : List Nat} {len a b d : Nat} {o : Option av ⊕ Nat} {I1 : IT} {C1 : CT} {n1 c1 z1 n0 : Nat} {ads0 : Nat → Nat} {cas0 : Nat → ClassId} {k : Nat} (B : Bx p R s mm args meth cc q) (X : Cx A D s) (hA : ∀ q : Nat, s.heap.size ≤ q → A q) (J : Jw D A s m q.2.2.1 ads cas bS I C n H locs sl ls st) (hc1 : cells + c1 ≤ R.cells + c) (hz1 : slots + z1 ≤ R.slots + z) (hn0 : n0 ≤ n) (hEx : Ex n0 ads0 cas0 (ads, cas)) (hok : okE m q pc (.ireturn, len, a, b, d) w = true) (h : stp (.ireturn, len, a, b, d) pc ls st I C n c z (fun pc' ls' st' I' C' n' c' z' => run k m pc' ls' st' [] I' C' n' c' z') (fun y as r => run k y 0 (ini y as) [] [(m, pc, ls, r)] I C n c z) (fun v => fin (run k) (Sum.inl v) [] I C n c z) (fun E c' z' => fin (run k) (Sum.inr E) [] I C n c' z') none = some (o, I1, C1, n1, c1, z1)) : W p l e R s mm args below meth cc H locs cells slots (vx_MQ below (Qo D A bS ads0 cas0 n0 o I1 C1 n1) (Xo D A bS ads0 cas0 n0 o I1 C1 n1) args s R.cells R.slots A) (F0 mm pc sl (st.map (ev ads bS))) := by
  obtain ⟨hd0, hk⟩ := and2 hok
  have hd := of_decide_eq_true hd0
  have J0 := J
  obtain ⟨jP, jD, jK, jG, jL, jT, jV, jS, jX⟩ := J
  obtain ⟨hl, hty⟩ := and2 hk
  have hl := beqN hl
  subst hl
  obtain ⟨x, rfl, h9⟩ := s1_inv (show s1 st (fun x => bif Nat.beq a 1 then (if x = 0 ∨ x = 1 then fin (run k) (Sum.inl (some (vi x))) [] I C n c z else none) else fin (run k) (Sum.inl (some (vi x))) [] I C n c z) none = some (o, I1, C1, n1, c1, z1) from h)
  have hx : in32 x := jT.head
  have key : (∃ ty, meth.sig.returnType = some ty ∧ narrow ty (.int (Int32.ofInt x)) = .int (Int32.ofInt x)) ∧ some (Sum.inl (some (vi x)), I, C, n, c, z) = some (o, I1, C1, n1, c1, z1) := by
    by_cases ha : Nat.beq a 1 = true
    · rw [ha] at h9 hty
      obtain ⟨h01, h8⟩ := ite_inv (show (if x = 0 ∨ x = 1 then fin (run k) (Sum.inl (some (vi x))) [] I C n c z else none) = _ from h9)
      exact ⟨⟨.boolean, B.2.2.1.trans (of_decide_eq_true hty), by rcases h01 with rfl | rfl <;> rfl⟩, h8⟩
    · rw [bfalse ha] at h9 hty
      exact ⟨⟨.int, B.2.2.1.trans (of_decide_eq_true hty), rfl⟩, h9⟩
  obtain ⟨⟨ty, hr, hn⟩, h8⟩ := key
  cases h8
  refine W.widen (k := R.cells) (n := R.slots) (by omega) (by omega) (vx_ret ?_)
  refine W.zret B.1 B.2.1 hr hn (fun t ht hW => ?_) (fun q9 hq9 => jS.2.2 q9 hq9) hd B.2.2.2.2.2.2.1
  exact ⟨⟨_, (ads, cas), rfl, ⟨rfl, hx, hEx, jG⟩, ⟨by rw [ht]; exact jP, jD, jK.moved hW.alike⟩⟩, jS.F ht⟩
theorem sn_return {l : Launch} {D : va_G} {A : Nat → Prop} {bS : Nat} {p : Program} {e : Env} {R : Room} {s : State} {mm : MethodId} {args : Array Value} {below : List Frame} {meth : Method} {cc : Code} {q : mI} {m pc : Nat} {H : Heap} {locs : List Loc} {cells slots : Nat} {sl : Array Slot} {ads : Nat → Nat} {cas : Nat → ClassId} {ls : lo} {st : List av} {I : IT} {C : CT} {n c z : Nat} {w : List Nat} {len a b d : Nat} {o : Option av ⊕ Nat} {I1 : IT} {C1 : CT} {n1 c1 z1 n0 : Nat} {ads0 : Nat → Nat} {cas0 : Nat → ClassId} {k : Nat} (B : Bx p R s mm args meth cc q) (X : Cx A D s) (hA : ∀ q : Nat, s.heap.size ≤ q → A q) (J : Jw D A s m q.2.2.1 ads cas bS I C n H locs sl ls st) (hc1 : cells + c1 ≤ R.cells + c) (hz1 : slots + z1 ≤ R.slots + z) (hn0 : n0 ≤ n) (hEx : Ex n0 ads0 cas0 (ads, cas)) (hok : okE m q pc (.return_, len, a, b, d) w = true) (h : stp (.return_, len, a, b, d) pc ls st I C n c z (fun pc' ls' st' I' C' n' c' z' => run k m pc' ls' st' [] I' C' n' c' z') (fun y as r => run k y 0 (ini y as) [] [(m, pc, ls, r)] I C n c z) (fun v => fin (run k) (Sum.inl v) [] I C n c z) (fun E c' z' => fin (run k) (Sum.inr E) [] I C n c' z') none = some (o, I1, C1, n1, c1, z1)) : W p l e R s mm args below meth cc H locs cells slots (vx_MQ below (Qo D A bS ads0 cas0 n0 o I1 C1 n1) (Xo D A bS ads0 cas0 n0 o I1 C1 n1) args s R.cells R.slots A) (F0 mm pc sl (st.map (ev ads bS))) := by
  obtain ⟨hd0, hk⟩ := and2 hok
  have hd := of_decide_eq_true hd0
  have J0 := J
  obtain ⟨jP, jD, jK, jG, jL, jT, jV, jS, jX⟩ := J
  obtain ⟨hl, hty⟩ := and2 hk
  have hl := beqN hl
  subst hl
  obtain ⟨rfl, h9⟩ := s0_inv (show s0 st (fin (run k) (Sum.inl none) [] I C n c z) none = some (o, I1, C1, n1, c1, z1) from h)
  have h8 : some (Sum.inl none, I, C, n, c, z) = some (o, I1, C1, n1, c1, z1) := h9
  cases h8
  refine W.widen (k := R.cells) (n := R.slots) (by omega) (by omega) (vx_ret ?_)
  refine W.vret B.1 B.2.1 (B.2.2.1.trans (of_decide_eq_true hty)) (fun t ht hW => ?_) (fun q9 hq9 => jS.2.2 q9 hq9) hd B.2.2.2.2.2.2.1
  exact ⟨⟨(ads, cas), rfl, ⟨hEx, jG⟩, ⟨by rw [ht]; exact jP, jD, jK.moved hW.alike⟩⟩, jS.F ht⟩
theorem thr_w0 : (vx_atS "CompassRolls" (thK 0).2 (exN 0) exS).all (fun v => decide (v ∈ lw_tbl) && (goodWord v || wrm v)) = true := by decide +kernel
theorem thr_g0 : (Cond.classLink "CompassRolls" (thK 0).1 (exN 0) :: Cond.initialized (exN 0) :: vx_atS "CompassRolls" (thK 0).2 (exN 0) exS).all vx_ot = true := by decide +kernel
theorem thr_k0 : (decide (Cond.classLink "CompassRolls" (thK 0).1 (exN 0) ∈ TW) && decide (Cond.initialized (exN 0) ∈ TW) && Bundle.fit (exN 0) && exS.all Bundle.fit) = true := by decide +kernel
theorem thr_w1 : (vx_atS "CompassRolls" (thK 1).2 (exN 1) exS).all (fun v => decide (v ∈ lw_tbl) && (goodWord v || wrm v)) = true := by decide +kernel
theorem thr_g1 : (Cond.classLink "CompassRolls" (thK 1).1 (exN 1) :: Cond.initialized (exN 1) :: vx_atS "CompassRolls" (thK 1).2 (exN 1) exS).all vx_ot = true := by decide +kernel
theorem thr_k1 : (decide (Cond.classLink "CompassRolls" (thK 1).1 (exN 1) ∈ TW) && decide (Cond.initialized (exN 1) ∈ TW) && Bundle.fit (exN 1) && exS.all Bundle.fit) = true := by decide +kernel
theorem thr_w2 : (vx_atS "CompassRolls" (thK 2).2 (exN 2) exS).all (fun v => decide (v ∈ lw_tbl) && (goodWord v || wrm v)) = true := by decide +kernel
theorem thr_g2 : (Cond.classLink "CompassRolls" (thK 2).1 (exN 2) :: Cond.initialized (exN 2) :: vx_atS "CompassRolls" (thK 2).2 (exN 2) exS).all vx_ot = true := by decide +kernel
theorem thr_k2 : (decide (Cond.classLink "CompassRolls" (thK 2).1 (exN 2) ∈ TW) && decide (Cond.initialized (exN 2) ∈ TW) && Bundle.fit (exN 2) && exS.all Bundle.fit) = true := by decide +kernel
theorem thr_all {E : Nat} (hE : E ≤ 2) : (∀ v ∈ vx_atS "CompassRolls" (thK E).2 (exN E) exS, v ∈ lw_tbl ∧ (goodWord v = true ∨ wrm v = true)) ∧ (∀ v ∈ Cond.classLink "CompassRolls" (thK E).1 (exN E) :: Cond.initialized (exN E) :: vx_atS "CompassRolls" (thK E).2 (exN E) exS, vx_ot v = true) ∧ Cond.classLink "CompassRolls" (thK E).1 (exN E) ∈ TW ∧ Cond.initialized (exN E) ∈ TW ∧ Bundle.fit (exN E) = true ∧ ∀ v ∈ exS, Bundle.fit v = true := by
  have go : ∀ {x1 : Bool} {L1 L2 : List Cond}, L1.all (fun v => decide (v ∈ lw_tbl) && (goodWord v || wrm v)) = true → L2.all vx_ot = true → (∀ v ∈ L1, v ∈ lw_tbl ∧ (goodWord v = true ∨ wrm v = true)) ∧ ∀ v ∈ L2, vx_ot v = true := fun {x1 L1 L2} h1 h2 => ⟨fun v hv => by
    have := List.all_eq_true.mp h1 v hv
    obtain ⟨a1, a2⟩ := and2 this
    exact ⟨of_decide_eq_true a1, by simpa using a2⟩, fun v hv => List.all_eq_true.mp h2 v hv⟩
  have g3 : ∀ {x1 x2 x3 x4 : Bool}, (x1 && x2 && x3 && x4) = true → x1 = true ∧ x2 = true ∧ x3 = true ∧ x4 = true := fun {x1 x2 x3 x4} h => by
    obtain ⟨h, h4⟩ := and2 h
    obtain ⟨h, h3⟩ := and2 h
    obtain ⟨h1, h2⟩ := and2 h
    exact ⟨h1, h2, h3, h4⟩
  rcases (show E = 0 ∨ E = 1 ∨ E = 2 by omega) with rfl | rfl | rfl
  · obtain ⟨a1, a2⟩ := go (x1 := true) thr_w0 thr_g0
    obtain ⟨b1, b2, b3, b4⟩ := g3 thr_k0
    exact ⟨a1, a2, of_decide_eq_true b1, of_decide_eq_true b2, b3, List.all_eq_true.mp b4⟩
  · obtain ⟨a1, a2⟩ := go (x1 := true) thr_w1 thr_g1
    obtain ⟨b1, b2, b3, b4⟩ := g3 thr_k1
    exact ⟨a1, a2, of_decide_eq_true b1, of_decide_eq_true b2, b3, List.all_eq_true.mp b4⟩
  · obtain ⟨a1, a2⟩ := go (x1 := true) thr_w2 thr_g2
    obtain ⟨b1, b2, b3, b4⟩ := g3 thr_k2
    exact ⟨a1, a2, of_decide_eq_true b1, of_decide_eq_true b2, b3, List.all_eq_true.mp b4⟩
theorem sn_throw {l : Launch} {D : va_G} {A : Nat → Prop} {bS : Nat} {p : Program} {e : Env} {R : Room} {s : State} {mm : MethodId} {args : Array Value} {below : List Frame} {meth : Method} {cc : Code} {q : mI} {m pc : Nat} {H : Heap} {locs : List Loc} {cells slots : Nat} {sl : Array Slot} {ads : Nat → Nat} {cas : Nat → ClassId} {ls : lo} {st : List av} {I : IT} {C : CT} {n c z : Nat} {w : List Nat} {len a b d : Nat} {o : Option av ⊕ Nat} {I1 : IT} {C1 : CT} {n1 c1 z1 n0 : Nat} {ads0 : Nat → Nat} {cas0 : Nat → ClassId} {k : Nat} {j : Nat} (B : Bx p R s mm args meth cc q) (X : Cx A D s) (hA : ∀ q : Nat, s.heap.size ≤ q → A q) (J : Jw D A s m q.2.2.1 ads cas bS I C n H locs sl ls st) (hc1 : cells + c1 ≤ R.cells + c) (hz1 : slots + z1 ≤ R.slots + z) (hn0 : n0 ≤ n) (hEx : Ex n0 ads0 cas0 (ads, cas)) (hst : l.stackTraces = false) (hd9 : Nat.beq d 9 = true) (hok : okE m q pc (.new j, len, a, b, d) w = true) (h : stp (.new j, len, a, b, d) pc ls st I C n c z (fun pc' ls' st' I' C' n' c' z' => run k m pc' ls' st' [] I' C' n' c' z') (fun y as r => run k y 0 (ini y as) [] [(m, pc, ls, r)] I C n c z) (fun v => fin (run k) (Sum.inl v) [] I C n c z) (fun E c' z' => fin (run k) (Sum.inr E) [] I C n c' z') none = some (o, I1, C1, n1, c1, z1)) : W p l e R s mm args below meth cc H locs cells slots (vx_MQ below (Qo D A bS ads0 cas0 n0 o I1 C1 n1) (Xo D A bS ads0 cas0 n0 o I1 C1 n1) args s R.cells R.slots A) (F0 mm pc sl (st.map (ev ads bS))) := by
  obtain ⟨hd0, hk⟩ := and2 hok
  have hd := of_decide_eq_true hd0
  have J0 := J
  obtain ⟨jP, jD, jK, jG, jL, jT, jV, jS, jX⟩ := J
  have hk : (bif Nat.beq d 9 then (Nat.beq len 3 && decide (q.1.cls = "CompassRolls") && q.2.2.2.2.2.2.isEmpty && Nat.ble b 2 && decide (thK b = (j, gW w 2)) && decide (decode q.2.1 (pc + 3) = .ok (.dup, 1)) && (strs.any (fun s => Nat.beq s.1 (gW w 1))) && Nat.ble 6 q.2.2.2.2.1 && Nat.ble 90 q.2.2.2.2.2.1 && (bif Nat.beq a 0 then (decide (decode q.2.1 (pc + 4) = .ok (.ldc (gW w 1), 2)) && decide (decode q.2.1 (pc + 6) = .ok (.invokespecial (gW w 2), 3)) && decide (decode q.2.1 (pc + 9) = .ok (.athrow, 1))) else (decide (decode q.2.1 (pc + 4) = .ok (.ldc_w (gW w 1), 3)) && decide (decode q.2.1 (pc + 7) = .ok (.invokespecial (gW w 2), 3)) && decide (decode q.2.1 (pc + 10) = .ok (.athrow, 1))))) else _) = true := hk
  rw [hd9] at hk
  have hk : (Nat.beq len 3 && decide (q.1.cls = "CompassRolls") && q.2.2.2.2.2.2.isEmpty && Nat.ble b 2 && decide (thK b = (j, gW w 2)) && decide (decode q.2.1 (pc + 3) = .ok (.dup, 1)) && (strs.any (fun s => Nat.beq s.1 (gW w 1))) && Nat.ble 6 q.2.2.2.2.1 && Nat.ble 90 q.2.2.2.2.2.1 && (bif Nat.beq a 0 then (decide (decode q.2.1 (pc + 4) = .ok (.ldc (gW w 1), 2)) && decide (decode q.2.1 (pc + 6) = .ok (.invokespecial (gW w 2), 3)) && decide (decode q.2.1 (pc + 9) = .ok (.athrow, 1))) else (decide (decode q.2.1 (pc + 4) = .ok (.ldc_w (gW w 1), 3)) && decide (decode q.2.1 (pc + 7) = .ok (.invokespecial (gW w 2), 3)) && decide (decode q.2.1 (pc + 10) = .ok (.athrow, 1))))) = true := hk
  obtain ⟨hk, t9⟩ := and2 hk
  obtain ⟨hk, t8⟩ := and2 hk
  obtain ⟨hk, t7⟩ := and2 hk
  obtain ⟨hk, t6⟩ := and2 hk
  obtain ⟨hk, t5⟩ := and2 hk
  obtain ⟨hk, t4⟩ := and2 hk
  obtain ⟨hk, t3⟩ := and2 hk
  obtain ⟨hk, t2⟩ := and2 hk
  obtain ⟨hl, t1⟩ := and2 hk
  have hl := beqN hl
  subst hl
  have t1 := of_decide_eq_true t1
  have t3 := bleN t3
  have t4 := of_decide_eq_true t4
  have t5 := of_decide_eq_true t5
  have t7 := bleN t7
  have t8 := bleN t8
  obtain ⟨⟨is9, tx9⟩, hm9, hs9⟩ := List.any_eq_true.mp t6
  have hs9 := beqN hs9
  obtain ⟨sa, hstr⟩ := X.2.2.1 _ hm9
  obtain ⟨rfl, h8⟩ := s0_inv (show s0 st (fin (run k) (Sum.inr b) [] I C n (c + 1) (z + 6)) none = some (o, I1, C1, n1, c1, z1) from by
    have h8 : (bif Nat.beq d 9 then s0 st (fin (run k) (Sum.inr b) [] I C n (c + 1) (z + 6)) none else _) = some (o, I1, C1, n1, c1, z1) := h
    rw [hd9] at h8
    exact h8)
  have h7 : some (Sum.inr b, I, C, n, c + 1, z + 6) = some (o, I1, C1, n1, c1, z1) := h8
  cases h7
  obtain ⟨w1, w2, w3, w4, w5, w6⟩ := thr_all t3
  have hcl : s.vm.findClass "CompassRolls" = some mm.cls := by rw [← t1]; exact B.2.2.2.2.1
  have hat : ∀ v ∈ vx_atS "CompassRolls" (thK b).2 (exN b) exS, v.before args s = true := fun v hv => by
    obtain ⟨g1, g2⟩ := w1 v hv
    rcases g2 with g2 | g2
    · exact B.2.2.2.2.2.1 v (List.mem_filter.mpr ⟨g1, g2⟩)
    · have g3 := X.1 v g1 g2
      cases v with
      | fieldLinkNest _ _ _ _ _ _ => exact va_Nw.use rfl g3
      | methodLinkNest _ _ _ _ => exact va_Nw.use rfl g3
      | declares _ => exact va_Nw.use rfl g3
      | castable _ _ => exact va_Nw.use rfl g3
      | arrayOver t9 => cases t9 with
        | object C9 => exact va_AO.use g3
        | _ => cases g2
      | _ => cases g2
  have hout : ∀ (x9 : Nat), ∀ x ∈ cc.exceptionTable.toList, covers x x9 = false := fun x9 x hx => by
    rw [B.2.2.2.2.2.2.2.1, List.isEmpty_iff.mp t2] at hx
    cases hx
  have hX9 : ∀ t : State, s.vm.Alike t.vm → H.size ≤ t.heap.size → (∀ q : Nat, q < H.size → t.heap[q]? = H[q]?) → Xo D A bS ads0 cas0 n0 (Sum.inr b) I C n (exN b) s t := fun t h1 h2 h3 => by
    refine ⟨(ads, cas), ⟨hEx, jG⟩, ⟨rfl, jP.kept (fun k9 q9 hk9 => h3 _ (jP k9 q9 hk9).lt), jD, jK.moved h1⟩, ⟨Nat.le_trans jS.1 h2, fun q9 h4 h5 => ?_⟩⟩
    rw [h3 q9 (Nat.lt_of_lt_of_le h4 jS.1)]
    exact jS.2.1 q9 h4 h5
  have e1 : (thK b).1 = j := by rw [t4]
  have e2 : (thK b).2 = gW w 2 := by rw [t4]
  rw [e1] at w2 w3
  rw [e2] at w2 hat
  have hstr : vk_R "CompassRolls" (gW w 1) tx9 sa s := by rw [← hs9]; exact hstr
  by_cases ha : Nat.beq a 0 = true
  · rw [ha] at t9
    have t9 : (decide (decode q.2.1 (pc + 4) = .ok (.ldc (gW w 1), 2)) && decide (decode q.2.1 (pc + 6) = .ok (.invokespecial (gW w 2), 3)) && decide (decode q.2.1 (pc + 9) = .ok (.athrow, 1))) = true := t9
    obtain ⟨t9, u3⟩ := and2 t9
    obtain ⟨u1, u2⟩ := and2 t9
    exact vx_throwS (rest := []) (names := exS) B.1 B.2.1 hst hcl w5 w6 (B.2.2.2.2.2.1 _ w3) (B.2.2.2.2.2.1 _ w4) hstr hat w2 X.2.2.2.2.1 X.2.2.2.2.2 jS (jV.1.trans B.2.2.2.1.symm) hd t5 (of_decide_eq_true u1) (of_decide_eq_true u2) (of_decide_eq_true u3) (hout _) (by rw [B.2.2.2.2.2.2.2.2.2.1]; exact t7) (by rw [B.2.2.2.2.2.2.2.2.2.2]; exact Nat.le_trans (by decide) t8) (by omega) (by omega) B.2.2.2.2.2.2.1 hX9 (fun z9 hz9 => jS.2.2 z9 hz9) (by omega) (by omega)
  · rw [bfalse ha] at t9
    have t9 : (decide (decode q.2.1 (pc + 4) = .ok (.ldc_w (gW w 1), 3)) && decide (decode q.2.1 (pc + 7) = .ok (.invokespecial (gW w 2), 3)) && decide (decode q.2.1 (pc + 10) = .ok (.athrow, 1))) = true := t9
    obtain ⟨t9, u3⟩ := and2 t9
    obtain ⟨u1, u2⟩ := and2 t9
    exact vx_throwSW (rest := []) (names := exS) B.1 B.2.1 hst hcl w5 w6 (B.2.2.2.2.2.1 _ w3) (B.2.2.2.2.2.1 _ w4) hstr hat w2 X.2.2.2.2.1 X.2.2.2.2.2 jS (jV.1.trans B.2.2.2.1.symm) hd t5 (of_decide_eq_true u1) (of_decide_eq_true u2) (of_decide_eq_true u3) (hout _) (by rw [B.2.2.2.2.2.2.2.2.2.1]; exact t7) (by rw [B.2.2.2.2.2.2.2.2.2.2]; exact Nat.le_trans (by decide) t8) (by omega) (by omega) B.2.2.2.2.2.2.1 hX9 (fun z9 hz9 => jS.2.2 z9 hz9) (by omega) (by omega)
