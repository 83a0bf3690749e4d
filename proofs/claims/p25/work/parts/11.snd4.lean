/-! The step, fourth part: what is made, Object(), Math.max; and all kinds of instructions that go on, together. -/
theorem id_ln : ∀ k, k < 211 → 0 < lnN (idOf k).1 ∧ lnN (idOf k).1 < 1000 := by decide +kernel
theorem id_end : kd (idOf 211).1 = 98 := by decide +kernel
theorem wen_ext {ads ads' : Nat → Nat} {cas cas' : Nat → ClassId} {bS : Nat} {I : IT} {C : CT} {n k : Nat} (hk : k < n) (G : Gs n I C) (h1 : ∀ k, k < n → ads' k = ads k) (h2 : cas' k = cas k) : wen ads' cas' bS I C k = wen ads cas bS I C k := by
  have hv : vd n (idOf k) := vd_id hk G.1
  have e : ∀ j, j < lnN (idOf k).1 → (C (idOf k).1 (idOf k).2 j).map (adr ads' bS) = (C (idOf k).1 (idOf k).2 j).map (adr ads bS) := by
    intro j hj
    cases g : C (idOf k).1 (idOf k).2 j with
    | none => rfl
    | some q =>
      show some _ = some _
      rcases G.2.2.2.1 (idOf k).1 (idOf k).2 j q hv hj g with g2 | g2
      · unfold adr; rw [h1 _ g2.1]
      · subst g2; rfl
  have e1 : (List.range (lnN (idOf k).1)).map (fsv ads' bS I C (idOf k).1 (idOf k).2) = (List.range (lnN (idOf k).1)).map (fsv ads bS I C (idOf k).1 (idOf k).2) := by
    apply List.map_congr_left
    intro j hj
    unfold fsv
    rw [e j (List.mem_range.mp hj)]
  have e2 : (fun j => if j < lnN (idOf k).1 then (C (idOf k).1 (idOf k).2 j).map (adr ads' bS) else none) = fun j => if j < lnN (idOf k).1 then (C (idOf k).1 (idOf k).2 j).map (adr ads bS) else none := by
    funext j
    by_cases hj : j < lnN (idOf k).1
    · rw [if_pos hj, if_pos hj, e j hj]
    · rw [if_neg hj, if_neg hj]
  unfold wen
  rw [e1, e2, h2]
theorem vu_ne {α : Type} {f : Nat → α} {k j : Nat} {v : α} (h : ¬ j = k) : va_up f k v j = f j := if_neg h
theorem vu_eq {α : Type} {f : Nat → α} {k : Nat} {v : α} : va_up f k v k = v := if_pos rfl
theorem vd_succ {n : Nat} {q : Nat × Nat} (h : vd (n + 1) q) : vd n q ∨ q = idOf n := by
  by_cases hk : offA q.1 q.2 = n
  · exact Or.inr (by rw [← hk]; exact h.2.symm)
  · exact Or.inl ⟨by have := h.1; omega, h.2⟩
theorem Gs.push {n : Nat} {I : IT} {C : CT} (G : Gs n I C) (hn : n < 211) : Gs (n + 1) I C := by
  obtain ⟨g1, g2, g3, g4, g5, g6, g7⟩ := G
  refine ⟨hn, fun f i j hv hj hk => ?_, fun f i j hv hj hk => ?_, fun f i j q hv hj hq => ?_, fun k hk => g5 k (by omega), g6, g7⟩
  · rcases vd_succ hv with h | h
    · exact g2 f i j h hj hk
    · have := (g5 n (Nat.le_refl _) hn j).1
      rw [← h] at this
      rw [this]; exact in32_0
  · rcases vd_succ hv with h | h
    · exact g3 f i j h hj hk
    · have := (g5 n (Nat.le_refl _) hn j).1
      rw [← h] at this
      rw [this]; exact in32_64 in32_0
  · rcases vd_succ hv with h | h
    · exact gq_mono (g4 f i j q h hj hq) (Nat.le_succ _)
    · have := (g5 n (Nat.le_refl _) hn j).2
      rw [← h] at this
      rw [this hj] at hq; cases hq
theorem LV.ext {sl : Array Slot} {mx : Nat} {ads ads' : Nat → Nat} {bS n : Nat} {ls : lo} (h : LV sl mx ads bS ls) (g : Gl n ls) (h1 : ∀ k, k < n → ads' k = ads k) : LV sl mx ads' bS ls := ⟨h.1, h.2.1, h.2.2.1, fun i v hi => by rw [ev_ext h1 (g i v hi).1]; exact h.2.2.2 i v hi⟩
theorem map_ext {ads ads' : Nat → Nat} {bS n : Nat} {st : List av} (h1 : ∀ k, k < n → ads' k = ads k) (g : Gt n st) : st.map (ev ads' bS) = st.map (ev ads bS) := List.map_congr_left fun v hv => ev_ext h1 (g v hv)
theorem Jw.push {D : va_G} {A : Nat → Prop} {s : State} {m mx bS n : Nat} {ads : Nat → Nat} {cas : Nat → ClassId} {I : IT} {C : CT} {H H1 : Heap} {locs : List Loc} {sl : Array Slot} {ls : lo} {st r : List av} (J : Jw D A s m mx ads cas bS I C n H locs sl ls st) (hn : n < 211) {q : Nat} {cA : ClassId} {e : va_E} (he : wen (va_up ads n q) (va_up cas n cA) bS I C n = e) (p1 : va_P D vwCl (wl ads cas bS I C n ++ [(q, e)]) H1) (p2 : va_D A (wl ads cas bS I C n ++ [(q, e)])) (p3 : va_S A s.heap H1 locs) (hKA : 20 ≤ kd (idOf n).1 → ArrOfT s cA (aty (kd (idOf n).1)) ∧ va_RA s cA (aty (kd (idOf n).1))) (ht : Gt n r) :
    Jw D A s m mx (va_up ads n q) (va_up cas n cA) bS I C (n + 1) H1 locs sl ls (vr (idOf n).1 (idOf n).2 :: r) ∧ (vr (idOf n).1 (idOf n).2 :: r).map (ev (va_up ads n q) bS) = .ref q :: r.map (ev ads bS) := by
  obtain ⟨jP, jD, jK, jG, jL, jT, jV, jS, jX⟩ := J
  have h1 : ∀ k, k < n → va_up ads n q k = ads k := fun k hk => vu_ne (by omega)
  have hw := wl_push (ads := ads) (cas := cas) (bS := bS) (I := I) (C := C) (fun k hk => wen_ext hk jG h1 (vu_ne (by omega))) he
  rw [hw] at p1 p2
  refine ⟨⟨p1, p2, fun k hk h20 => ?_, jG.push hn, fun i v hi => ⟨Gv_mono (jL i v hi).1 (Nat.le_succ _), (jL i v hi).2⟩, Gt.cons (fun v hv => Gv_mono (ht v hv) (Nat.le_succ _)) (fun q9 hq9 => ?_), jV.ext jL h1, p3, jX⟩, ?_⟩
  · by_cases hkn : k = n
    · subst hkn
      rw [vu_eq]; exact hKA h20
    · rw [vu_ne hkn]; exact jK k (by omega) h20
  · cases hq9; exact Or.inl (vd_id (Nat.lt_succ_self n) hn)
  · rw [List.map_cons, map_ext h1 ht]
    congr 1
    show va_rf (some (adr (va_up ads n q) bS ((idOf n).1, (idOf n).2))) = .ref q
    rw [adr_of (id_kd n hn).2, id_off n hn, vu_eq]
    rfl
theorem n_lt {n a : Nat} (hn : n ≤ 211) (hk : kd (idOf n).1 = a) (ha : a ≤ 50) : n < 211 := by
  rcases Nat.lt_or_ge n 211 with h | h
  · exact h
  · have e : n = 211 := by omega
    rw [e, id_end] at hk; omega
theorem sn_newarray {l : Launch} {D : va_G} {A : Nat → Prop} {bS : Nat} {p : Program} {e : Env} {R : Room} {s : State} {mm : MethodId} {args : Array Value} {below : List Frame} {meth : Method} {cc : Code} {q : mI} {m pc : Nat} {H : Heap} {locs : List Loc} {cells slots : Nat} {Q : State → Prop} {sl : Array Slot} {ads : Nat → Nat} {cas : Nat → ClassId} {ls : lo} {st : List av} {I : IT} {C : CT} {n c z : Nat} {w : List Nat} {u : ou} {len a b d : Nat} {kc : Nat → lo → List av → IT → CT → Nat → Nat → Nat → Option ou} {ky : Nat → List av → List av → Option ou} {kr : Option av → Option ou} {kt : Nat → Nat → Nat → Option ou} {t : ArrayType} (B : Bx p R s mm args meth cc q) (J : Jw D A s m q.2.2.1 ads cas bS I C n H locs sl ls st) (X : Cx A D s) (hA : ∀ q : Nat, s.heap.size ≤ q → A q) (hok : okE m q pc (.newarray t, len, a, b, d) w = true) (h : stp (.newarray t, len, a, b, d) pc ls st I C n c z kc ky kr kt none = some u) (hbud : ∀ (pc' : Nat) (ls' : lo) (st' : List av) (I' : IT) (C' : CT) (n' c' z' : Nat), kc pc' ls' st' I' C' n' c' z' = some u → cells + c' ≤ R.cells + c ∧ slots + z' ≤ R.slots + z) (K : Kn p l e R s mm args below meth cc D A m q.2.2.1 bS Q kc u ads cas n c z cells slots) : W p l e R s mm args below meth cc H locs cells slots Q (F0 mm pc sl (st.map (ev ads bS))) := by
  obtain ⟨hd0, hk⟩ := and2 hok
  have hd := of_decide_eq_true hd0
  have J0 := J
  obtain ⟨jP, jD, jK, jG, jL, jT, jV, jS, jX⟩ := J
  obtain ⟨hl, hW⟩ := and2 hk
  obtain ⟨hl, ha2⟩ := and2 hl
  obtain ⟨hl, ha1⟩ := and2 hl
  obtain ⟨hl, hty⟩ := and2 hl
  have hl := beqN hl
  have ha1 := bleN ha1
  have ha2 := bleN ha2
  have hty := of_decide_eq_true hty
  subst hl
  have h8 : sI st (fun x r => bif Nat.beq (kd (idOf n).1) a then (bif Nat.beq (lnN (idOf n).1) x.toNat then kc (pc + 2) ls (vr (idOf n).1 (idOf n).2 :: r) I C (n + 1) (c + 1) (z + x.toNat) else none) else none) none = some u := h
  obtain ⟨x, r, rfl, h7⟩ := sI_inv h8
  have hx : in32 x := jT.head
  obtain ⟨hkf, h6⟩ := bif_inv h7
  have hkf := beqN hkf
  obtain ⟨hL, h5⟩ := bif_inv h6
  have hL := beqN hL
  replace h := h5
  have hn := n_lt jG.1 hkf (by omega)
  obtain ⟨l1, l2⟩ := id_ln n hn
  have hbb := hbud _ _ _ _ _ _ _ _ h
  have hvn : vd (n + 1) ((idOf n).1, (idOf n).2) := vd_id (Nat.lt_succ_self n) hn
  have hz : ∀ j, I (idOf n).1 (idOf n).2 j = 0 := fun j => (jG.2.2.2.2.1 n (Nat.le_refl _) hn j).1
  have hzC : ∀ j, j < lnN (idOf n).1 → C (idOf n).1 (idOf n).2 j = none := fun j hj => (jG.2.2.2.2.1 n (Nat.le_refl _) hn j).2 hj
  have hK : va_K D vwCl [] s := ⟨X.2.1, fun _ _ z => by simp at z⟩
  show W p l e R s mm args below meth cc H locs cells slots Q (F0 mm pc sl (.int (Int32.ofInt x) :: r.map (ev ads bS)))
  rcases (show a = 20 ∨ a = 21 ∨ a = 22 by omega) with e20 | e20 | e20
  · refine va_newa (a0 := (x.toNat, .inl (fun _ => 0))) B.1 B.2.1 (B.2.2.2.2.2.1 _ (isW_mem hW)) hty hK jP jD jS hA (fun _ => by rw [e20]; rfl) (by rw [show (0 : Int32) = Int32.ofInt 0 from rfl, i32_lt hx in32_0]; omega) (i32_nat hx) (by rw [e20]; show _ * 4 ≤ _; omega) (by omega) (by omega) hd (fun q9 cA H1 k1 p1 p2 p3 => ?_)
    have hKA : 20 ≤ kd (idOf n).1 → ArrOfT s cA (aty (kd (idOf n).1)) ∧ va_RA s cA (aty (kd (idOf n).1)) := fun _ => by rw [hkf]; exact k1.2 0 (cA, aty a) rfl
    have he : wen (va_up ads n q9) (va_up cas n cA) bS I C n = .inl (cA, x.toNat, .inl (fun _ => 0)) := by
      have e3 := wen_int (ads := va_up ads n q9) (cas := va_up cas n cA) (bS := bS) (I := I) (C := C) hvn (Or.inl (hkf.trans e20))
      rw [id_off n hn, vu_eq] at e3
      rw [e3, hL]
      simp only [hz]
      rfl
    obtain ⟨e1, e2⟩ := Jw.push J0 hn he p1 p2 p3 hKA jT.tail
    rw [← e2]
    exact K _ _ _ _ _ _ _ _ (va_up ads n q9) (va_up cas n cA) H1 locs _ (cells + 1) (slots + x.toNat) h (Nat.le_succ _) (fun k hk => ⟨vu_ne (by omega), vu_ne (by omega)⟩) e1 (by omega) (by omega)
  · refine va_newa (a0 := (x.toNat, .inl (fun _ => 0))) B.1 B.2.1 (B.2.2.2.2.2.1 _ (isW_mem hW)) hty hK jP jD jS hA (fun _ => by rw [e20]; rfl) (by rw [show (0 : Int32) = Int32.ofInt 0 from rfl, i32_lt hx in32_0]; omega) (i32_nat hx) (by rw [e20]; show _ * 1 ≤ _; omega) (by omega) (by omega) hd (fun q9 cA H1 k1 p1 p2 p3 => ?_)
    have hKA : 20 ≤ kd (idOf n).1 → ArrOfT s cA (aty (kd (idOf n).1)) ∧ va_RA s cA (aty (kd (idOf n).1)) := fun _ => by rw [hkf]; exact k1.2 0 (cA, aty a) rfl
    have he : wen (va_up ads n q9) (va_up cas n cA) bS I C n = .inl (cA, x.toNat, .inl (fun _ => 0)) := by
      have e3 := wen_int (ads := va_up ads n q9) (cas := va_up cas n cA) (bS := bS) (I := I) (C := C) hvn (Or.inr (hkf.trans e20))
      rw [id_off n hn, vu_eq] at e3
      rw [e3, hL]
      simp only [hz]
      rfl
    obtain ⟨e1, e2⟩ := Jw.push J0 hn he p1 p2 p3 hKA jT.tail
    rw [← e2]
    exact K _ _ _ _ _ _ _ _ (va_up ads n q9) (va_up cas n cA) H1 locs _ (cells + 1) (slots + x.toNat) h (Nat.le_succ _) (fun k hk => ⟨vu_ne (by omega), vu_ne (by omega)⟩) e1 (by omega) (by omega)
  · refine va_newa (a0 := (x.toNat, .inr (.inl (fun _ => 0)))) B.1 B.2.1 (B.2.2.2.2.2.1 _ (isW_mem hW)) hty hK jP jD jS hA (fun _ => by rw [e20]; rfl) (by rw [show (0 : Int32) = Int32.ofInt 0 from rfl, i32_lt hx in32_0]; omega) (i32_nat hx) (by rw [e20]; show _ * 8 ≤ _; omega) (by omega) (by omega) hd (fun q9 cA H1 k1 p1 p2 p3 => ?_)
    have hKA : 20 ≤ kd (idOf n).1 → ArrOfT s cA (aty (kd (idOf n).1)) ∧ va_RA s cA (aty (kd (idOf n).1)) := fun _ => by rw [hkf]; exact k1.2 0 (cA, aty a) rfl
    have he : wen (va_up ads n q9) (va_up cas n cA) bS I C n = .inl (cA, x.toNat, .inr (.inl (fun _ => 0))) := by
      have e3 := wen_long (ads := va_up ads n q9) (cas := va_up cas n cA) (bS := bS) (I := I) (C := C) hvn (hkf.trans e20)
      rw [id_off n hn, vu_eq] at e3
      rw [e3, hL]
      simp only [hz]
      rfl
    obtain ⟨e1, e2⟩ := Jw.push J0 hn he p1 p2 p3 hKA jT.tail
    rw [← e2]
    exact K _ _ _ _ _ _ _ _ (va_up ads n q9) (va_up cas n cA) H1 locs _ (cells + 1) (slots + x.toNat) h (Nat.le_succ _) (fun k hk => ⟨vu_ne (by omega), vu_ne (by omega)⟩) e1 (by omega) (by omega)
theorem sn_anewarray {l : Launch} {D : va_G} {A : Nat → Prop} {bS : Nat} {p : Program} {e : Env} {R : Room} {s : State} {mm : MethodId} {args : Array Value} {below : List Frame} {meth : Method} {cc : Code} {q : mI} {m pc : Nat} {H : Heap} {locs : List Loc} {cells slots : Nat} {Q : State → Prop} {sl : Array Slot} {ads : Nat → Nat} {cas : Nat → ClassId} {ls : lo} {st : List av} {I : IT} {C : CT} {n c z : Nat} {w : List Nat} {u : ou} {len a b d : Nat} {kc : Nat → lo → List av → IT → CT → Nat → Nat → Nat → Option ou} {ky : Nat → List av → List av → Option ou} {kr : Option av → Option ou} {kt : Nat → Nat → Nat → Option ou} {j : Nat} (B : Bx p R s mm args meth cc q) (J : Jw D A s m q.2.2.1 ads cas bS I C n H locs sl ls st) (X : Cx A D s) (hA : ∀ q : Nat, s.heap.size ≤ q → A q) (hok : okE m q pc (.anewarray j, len, a, b, d) w = true) (h : stp (.anewarray j, len, a, b, d) pc ls st I C n c z kc ky kr kt none = some u) (hbud : ∀ (pc' : Nat) (ls' : lo) (st' : List av) (I' : IT) (C' : CT) (n' c' z' : Nat), kc pc' ls' st' I' C' n' c' z' = some u → cells + c' ≤ R.cells + c ∧ slots + z' ≤ R.slots + z) (K : Kn p l e R s mm args below meth cc D A m q.2.2.1 bS Q kc u ads cas n c z cells slots) : W p l e R s mm args below meth cc H locs cells slots Q (F0 mm pc sl (st.map (ev ads bS))) := by
  obtain ⟨hd0, hk⟩ := and2 hok
  have hd := of_decide_eq_true hd0
  have J0 := J
  obtain ⟨jP, jD, jK, jG, jL, jT, jV, jS, jX⟩ := J
  obtain ⟨hl, hN⟩ := and2 hk
  obtain ⟨hl, hW⟩ := and2 hl
  obtain ⟨hl, ha2⟩ := and2 hl
  obtain ⟨hl, ha1⟩ := and2 hl
  have hl := beqN hl
  have ha1 := bleN ha1
  have ha2 := bleN ha2
  subst hl
  have h8 : sI st (fun x r => bif Nat.beq (kd (idOf n).1) a then (bif Nat.beq (lnN (idOf n).1) x.toNat then kc (pc + 3) ls (vr (idOf n).1 (idOf n).2 :: r) I C (n + 1) (c + 1) (z + x.toNat) else none) else none) none = some u := h
  obtain ⟨x, r, rfl, h7⟩ := sI_inv h8
  have hx : in32 x := jT.head
  obtain ⟨hkf, h6⟩ := bif_inv h7
  have hkf := beqN hkf
  obtain ⟨hL, h5⟩ := bif_inv h6
  have hL := beqN hL
  replace h := h5
  have hn := n_lt jG.1 hkf (by omega)
  obtain ⟨l1, l2⟩ := id_ln n hn
  have hbb := hbud _ _ _ _ _ _ _ _ h
  have hvn : vd (n + 1) ((idOf n).1, (idOf n).2) := vd_id (Nat.lt_succ_self n) hn
  have hz : ∀ j, I (idOf n).1 (idOf n).2 j = 0 := fun j => (jG.2.2.2.2.1 n (Nat.le_refl _) hn j).1
  have hzC : ∀ j, j < lnN (idOf n).1 → C (idOf n).1 (idOf n).2 j = none := fun j hj => (jG.2.2.2.2.1 n (Nat.le_refl _) hn j).2 hj
  have hK : va_K D vwCl [] s := ⟨X.2.1, fun _ _ z => by simp at z⟩
  show W p l e R s mm args below meth cc H locs cells slots Q (F0 mm pc sl (.int (Int32.ofInt x) :: r.map (ev ads bS)))
  refine va_newq B.1 B.2.1 B.2.2.2.2.1 (B.2.2.2.2.2.1 _ (isW_mem hW)) (X.1 _ (isN_mem hN).1 (isN_mem hN).2) hK jP jD jS hA (by rw [show (0 : Int32) = Int32.ofInt 0 from rfl, i32_lt hx in32_0]; omega) (i32_nat hx) (by omega) (by omega) (by omega) hd (fun q9 cA H1 k1 p1 p2 p3 => ?_)
  have hKA : 20 ≤ kd (idOf n).1 → ArrOfT s cA (aty (kd (idOf n).1)) ∧ va_RA s cA (aty (kd (idOf n).1)) := fun _ => by
    rw [hkf, aty_obj ha1]; exact k1.2 0 (cA, .object (cN (a - 30))) rfl
  have he : wen (va_up ads n q9) (va_up cas n cA) bS I C n = .inl (cA, x.toNat, .inr (.inr (.inr (.inr (fun _ => none))))) := by
    have e3 := wen_ref (ads := va_up ads n q9) (cas := va_up cas n cA) (bS := bS) (I := I) (C := C) hvn (by show 30 ≤ kd (idOf n).1; omega)
    rw [id_off n hn, vu_eq] at e3
    rw [e3, hL]
    have e4 : (fun j => if j < x.toNat then (C (idOf n).1 (idOf n).2 j).map (adr (va_up ads n q9) bS) else none) = fun _ => none := by
      funext j
      by_cases hj : j < x.toNat
      · rw [if_pos hj, hzC j (by omega)]; rfl
      · rw [if_neg hj]
    rw [e4]
  have hgo : W p l e R s mm args below meth cc H1 locs (cells + 1) (slots + x.toNat) Q (F0 mm (pc + 3) sl (.ref q9 :: r.map (ev ads bS))) := by
    obtain ⟨e1, e2⟩ := Jw.push J0 hn he p1 p2 p3 hKA jT.tail
    rw [← e2]
    exact K _ _ _ _ _ _ _ _ (va_up ads n q9) (va_up cas n cA) H1 locs _ (cells + 1) (slots + x.toNat) h (Nat.le_succ _) (fun k hk => ⟨vu_ne (by omega), vu_ne (by omega)⟩) e1 (by omega) (by omega)
  exact hgo
theorem sn_new {l : Launch} {D : va_G} {A : Nat → Prop} {bS : Nat} {p : Program} {e : Env} {R : Room} {s : State} {mm : MethodId} {args : Array Value} {below : List Frame} {meth : Method} {cc : Code} {q : mI} {m pc : Nat} {H : Heap} {locs : List Loc} {cells slots : Nat} {Q : State → Prop} {sl : Array Slot} {ads : Nat → Nat} {cas : Nat → ClassId} {ls : lo} {st : List av} {I : IT} {C : CT} {n c z : Nat} {w : List Nat} {u : ou} {len a b d : Nat} {kc : Nat → lo → List av → IT → CT → Nat → Nat → Nat → Option ou} {ky : Nat → List av → List av → Option ou} {kr : Option av → Option ou} {kt : Nat → Nat → Nat → Option ou} {j : Nat} (B : Bx p R s mm args meth cc q) (J : Jw D A s m q.2.2.1 ads cas bS I C n H locs sl ls st) (X : Cx A D s) (hA : ∀ q : Nat, s.heap.size ≤ q → A q) (hd9 : ¬ Nat.beq d 9 = true) (hok : okE m q pc (.new j, len, a, b, d) w = true) (h : stp (.new j, len, a, b, d) pc ls st I C n c z kc ky kr kt none = some u) (hbud : ∀ (pc' : Nat) (ls' : lo) (st' : List av) (I' : IT) (C' : CT) (n' c' z' : Nat), kc pc' ls' st' I' C' n' c' z' = some u → cells + c' ≤ R.cells + c ∧ slots + z' ≤ R.slots + z) (K : Kn p l e R s mm args below meth cc D A m q.2.2.1 bS Q kc u ads cas n c z cells slots) : W p l e R s mm args below meth cc H locs cells slots Q (F0 mm pc sl (st.map (ev ads bS))) := by
  obtain ⟨hd0, hk⟩ := and2 hok
  have hd := of_decide_eq_true hd0
  have J0 := J
  obtain ⟨jP, jD, jK, jG, jL, jT, jV, jS, jX⟩ := J
  have hd9 := bfalse hd9
  have hk : (bif Nat.beq d 9 then _ else (Nat.beq len 3 && Nat.ble a 10 && isW (gW w 0) (.classLink q.1.cls j (cN a)) && isW (gW w 1) (.instantiable (cN a) (cM a)) && isW (gW w 2) (.initialized (cN a)))) = true := hk
  rw [hd9] at hk
  have hk : (Nat.beq len 3 && Nat.ble a 10 && isW (gW w 0) (.classLink q.1.cls j (cN a)) && isW (gW w 1) (.instantiable (cN a) (cM a)) && isW (gW w 2) (.initialized (cN a))) = true := hk
  obtain ⟨hk, hW2⟩ := and2 hk
  obtain ⟨hk, hW1⟩ := and2 hk
  obtain ⟨hk, hW0⟩ := and2 hk
  obtain ⟨hl, ha⟩ := and2 hk
  have hl := beqN hl
  have ha := bleN ha
  subst hl
  have h8 : (bif Nat.beq d 9 then _ else bif Nat.beq (kd (idOf n).1) a then kc (pc + 3) ls (vr (idOf n).1 (idOf n).2 :: st) I C (n + 1) (c + 1) (z + lnN (idOf n).1) else none) = some u := h
  rw [hd9] at h8
  obtain ⟨hkf, h6⟩ := bif_inv (show (bif Nat.beq (kd (idOf n).1) a then _ else none) = some u from h8)
  have hkf := beqN hkf
  replace h := h6
  have hn := n_lt jG.1 hkf (by omega)
  have hbb := hbud _ _ _ _ _ _ _ _ h
  have hvn : vd (n + 1) ((idOf n).1, (idOf n).2) := vd_id (Nat.lt_succ_self n) hn
  have hz : ∀ j, I (idOf n).1 (idOf n).2 j = 0 := fun j => (jG.2.2.2.2.1 n (Nat.le_refl _) hn j).1
  have hzC : ∀ j, j < lnN (idOf n).1 → C (idOf n).1 (idOf n).2 j = none := fun j hj => (jG.2.2.2.2.1 n (Nat.le_refl _) hn j).2 hj
  have hK : va_K D vwCl [] s := ⟨X.2.1, fun _ _ z => by simp at z⟩
  have hln : lnN (idOf n).1 = cM a := by
    have h1 := id_cls n hn (Nat.ble_eq.mpr (by omega))
    rw [hkf, cls_at a ha] at h1
    exact (Option.some.inj h1).symm
  refine va_new (ci := a) (T := cT a) (N := cM a) (fs := (List.range (cM a)).map (fun k => bif frf a k then Value.null else Value.int 0)) B.1 B.2.1 B.2.2.2.2.2.1 (in_ws ha) (cY a) (cY_ok a ha) B.2.2.2.2.1 (B.2.2.2.2.2.1 _ (isW_mem hW0)) (B.2.2.2.2.2.1 _ (isW_mem hW1)) (B.2.2.2.2.2.1 _ (isW_mem hW2)) hK jP jD jS hA (cls_at a ha) (fun k hk => ?_) (by omega) (by omega) hd (fun q9 H1 p1 p2 p3 => ?_)
  · rw [cDef a (by omega) k hk]
    simp [vp_V, hk]
  have cA : ClassId := D.1 0
  have he : wen (va_up ads n q9) (va_up cas n cA) bS I C n = .inr (a, (List.range (cM a)).map (fun k => bif frf a k then Value.null else Value.int 0)) := by
    have e3 := wen_obj (ads := va_up ads n q9) (cas := va_up cas n cA) (bS := bS) (I := I) (C := C) hvn (by show kd (idOf n).1 ≤ 10; omega)
    rw [id_off n hn] at e3
    rw [e3, hkf, hln]
    congr 2
    apply List.map_congr_left
    intro k hk
    unfold fsv
    rw [hkf, hz k, hzC k (by rw [hln]; exact List.mem_range.mp hk)]
    rfl
  have hgo : W p l e R s mm args below meth cc H1 locs (cells + 1) (slots + cM a) Q (F0 mm (pc + 3) sl (.ref q9 :: st.map (ev ads bS))) := by
    obtain ⟨e1, e2⟩ := Jw.push J0 hn he p1 p2 p3 (fun g => by omega) jT
    rw [← e2]
    exact K _ _ _ _ _ _ _ _ (va_up ads n q9) (va_up cas n cA) H1 locs _ (cells + 1) (slots + cM a) h (Nat.le_succ _) (fun k hk => ⟨vu_ne (by omega), vu_ne (by omega)⟩) e1 (by omega) (by omega)
  exact hgo
theorem ctg_eq {ads : Nat → Nat} {bS : Nat} : ∀ (st : List av), ((st.map (ev ads bS)).map fun v => v.category).sum = ctg st
  | [] => rfl
  | Sum.inl x :: l => by simp only [List.map_cons, List.sum_cons, ctg_eq l]; rfl
  | Sum.inr (Sum.inl x) :: l => by simp only [List.map_cons, List.sum_cons, ctg_eq l]; rfl
  | Sum.inr (Sum.inr none) :: l => by simp only [List.map_cons, List.sum_cons, ctg_eq l]; rfl
  | Sum.inr (Sum.inr (some x)) :: l => by simp only [List.map_cons, List.sum_cons, ctg_eq l]; rfl
theorem sn_objInit {l : Launch} {D : va_G} {A : Nat → Prop} {bS : Nat} {p : Program} {e : Env} {R : Room} {s : State} {mm : MethodId} {args : Array Value} {below : List Frame} {meth : Method} {cc : Code} {q : mI} {m pc : Nat} {H : Heap} {locs : List Loc} {cells slots : Nat} {Q : State → Prop} {sl : Array Slot} {ads : Nat → Nat} {cas : Nat → ClassId} {ls : lo} {st : List av} {I : IT} {C : CT} {n c z : Nat} {w : List Nat} {u : ou} {len a b d : Nat} {kc : Nat → lo → List av → IT → CT → Nat → Nat → Nat → Option ou} {ky : Nat → List av → List av → Option ou} {kr : Option av → Option ou} {kt : Nat → Nat → Nat → Option ou} {j : Nat} (B : Bx p R s mm args meth cc q) (J : Jw D A s m q.2.2.1 ads cas bS I C n H locs sl ls st) (hd2 : Nat.beq d 2 = true) (hok : okE m q pc (.invokespecial j, len, a, b, d) w = true) (h : stp (.invokespecial j, len, a, b, d) pc ls st I C n c z kc ky kr kt none = some u) (K : Kn p l e R s mm args below meth cc D A m q.2.2.1 bS Q kc u ads cas n c z cells slots) : W p l e R s mm args below meth cc H locs cells slots Q (F0 mm pc sl (st.map (ev ads bS))) := by
  obtain ⟨hd0, hk⟩ := and2 hok
  have hd := of_decide_eq_true hd0
  obtain ⟨jP, jD, jK, jG, jL, jT, jV, jS, jX⟩ := J
  have hk : (bif Nat.beq d 2 then (Nat.beq len 3 && isW (gW w 0) (.methodLink q.1.cls j objectInit) && isW (gW w 1) (.instanceMethod objectInit) && isW (gW w 2) (.code objectInit ⟨#[0xb1]⟩ 1 none) && Nat.ble 1 q.2.2.2.2.1 && Nat.ble 22 q.2.2.2.2.2.1) else _) = true := hk
  rw [hd2] at hk
  have hk : (Nat.beq len 3 && isW (gW w 0) (.methodLink q.1.cls j objectInit) && isW (gW w 1) (.instanceMethod objectInit) && isW (gW w 2) (.code objectInit ⟨#[0xb1]⟩ 1 none) && Nat.ble 1 q.2.2.2.2.1 && Nat.ble 22 q.2.2.2.2.2.1) = true := hk
  obtain ⟨hk, hR2⟩ := and2 hk
  obtain ⟨hk, hR1⟩ := and2 hk
  obtain ⟨hk, hW2⟩ := and2 hk
  obtain ⟨hk, hW1⟩ := and2 hk
  obtain ⟨hl, hW0⟩ := and2 hk
  have hl := beqN hl
  have hR1 := bleN hR1
  have hR2 := bleN hR2
  subst hl
  have h8 : (bif Nat.beq d 2 then sO st (fun _ _ r => bif Nat.ble (ctg r) 8 then kc (pc + 3) ls r I C n c z else none) none else _) = some u := h
  rw [hd2] at h8
  obtain ⟨f, i, r, rfl, h7⟩ := sO_inv (show sO st (fun _ _ r => bif Nat.ble (ctg r) 8 then kc (pc + 3) ls r I C n c z else none) none = some u from h8)
  obtain ⟨hct, h6⟩ := bif_inv h7
  have hct := bleN hct
  replace h := h6
  refine W.objInit B.1 B.2.1 B.2.2.2.2.1 (B.2.2.2.2.2.1 _ (isW_mem hW0)) (B.2.2.2.2.2.1 _ (isW_mem hW1)) (B.2.2.2.2.2.1 _ (isW_mem hW2)) rfl (by rw [B.2.2.2.1]; exact jV.1) (rest := r.map (ev ads bS)) rfl hd (by rw [B.2.2.2.2.2.2.2.2.2.1]; exact hR1) ?_ ?_
  · rw [B.2.2.2.2.2.2.2.2.2.2, ctg_eq]
    show 2 * 0 + ctg r + 12 ≤ _
    omega
  exact K _ _ _ _ _ _ _ _ ads cas H locs _ _ _ h (Nat.le_refl _) (fun _ _ => ⟨rfl, rfl⟩) ⟨jP, jD, jK, jG, jL, jT.tail, jV, jS, jX⟩ rfl rfl
theorem sn_mmax {l : Launch} {D : va_G} {A : Nat → Prop} {bS : Nat} {p : Program} {e : Env} {R : Room} {s : State} {mm : MethodId} {args : Array Value} {below : List Frame} {meth : Method} {cc : Code} {q : mI} {m pc : Nat} {H : Heap} {locs : List Loc} {cells slots : Nat} {Q : State → Prop} {sl : Array Slot} {ads : Nat → Nat} {cas : Nat → ClassId} {ls : lo} {st : List av} {I : IT} {C : CT} {n c z : Nat} {w : List Nat} {u : ou} {len a b d : Nat} {kc : Nat → lo → List av → IT → CT → Nat → Nat → Nat → Option ou} {ky : Nat → List av → List av → Option ou} {kr : Option av → Option ou} {kt : Nat → Nat → Nat → Option ou} {j : Nat} (B : Bx p R s mm args meth cc q) (J : Jw D A s m q.2.2.1 ads cas bS I C n H locs sl ls st) (hd3 : Nat.beq d 3 = true) (hcs : cells ≤ R.cells ∧ slots ≤ R.slots) (hok : okE m q pc (.invokestatic j, len, a, b, d) w = true) (h : stp (.invokestatic j, len, a, b, d) pc ls st I C n c z kc ky kr kt none = some u) (K : Kn p l e R s mm args below meth cc D A m q.2.2.1 bS Q kc u ads cas n c z cells slots) : W p l e R s mm args below meth cc H locs cells slots Q (F0 mm pc sl (st.map (ev ads bS))) := by
  obtain ⟨hd0, hk⟩ := and2 hok
  have hd := of_decide_eq_true hd0
  obtain ⟨jP, jD, jK, jG, jL, jT, jV, jS, jX⟩ := J
  have hk : (bif Nat.beq d 3 then (Nat.beq len 3 && isW (gW w 1) (.methodLink q.1.cls j Lib.Math.max.name) && isW (gW w 2) (.code Lib.Math.max.name Lib.Math.max.code 2 (some .int)) && isW (gW w 3) (.static Lib.Math.max.name) && isW (gW w 4) (.initialized "java/lang/Math") && Nat.ble 1 q.2.2.2.2.1 && Nat.ble 22 q.2.2.2.2.2.1) else _) = true := hk
  rw [hd3] at hk
  have hk : (Nat.beq len 3 && isW (gW w 1) (.methodLink q.1.cls j Lib.Math.max.name) && isW (gW w 2) (.code Lib.Math.max.name Lib.Math.max.code 2 (some .int)) && isW (gW w 3) (.static Lib.Math.max.name) && isW (gW w 4) (.initialized "java/lang/Math") && Nat.ble 1 q.2.2.2.2.1 && Nat.ble 22 q.2.2.2.2.2.1) = true := hk
  obtain ⟨hk, hR2⟩ := and2 hk
  obtain ⟨hk, hR1⟩ := and2 hk
  obtain ⟨hk, hW3⟩ := and2 hk
  obtain ⟨hk, hW2⟩ := and2 hk
  obtain ⟨hk, hW1⟩ := and2 hk
  obtain ⟨hl, hW0⟩ := and2 hk
  have hl := beqN hl
  have hR1 := bleN hR1
  have hR2 := bleN hR2
  subst hl
  have h8 : (bif Nat.beq d 3 then sII st (fun x y r => bif Nat.ble (ctg r) 8 then kc (pc + 3) ls (vi (mxI x y) :: r) I C n c z else none) none else _) = some u := h
  rw [hd3] at h8
  obtain ⟨x, y, r, rfl, h7⟩ := sII_inv (show sII st (fun x y r => bif Nat.ble (ctg r) 8 then kc (pc + 3) ls (vi (mxI x y) :: r) I C n c z else none) none = some u from h8)
  obtain ⟨hct, h6⟩ := bif_inv h7
  have hct := bleN hct
  replace h := h6
  have hy : in32 y := jT.head
  have hx : in32 x := jT.tail.head
  have e : (if Int32.ofInt x < Int32.ofInt y then Int32.ofInt y else Int32.ofInt x) = Int32.ofInt (mxI x y) := by
    unfold mxI
    by_cases g : x < y
    · rw [if_pos g, if_pos ((i32_lt hx hy).mpr g)]
    · rw [if_neg g, if_neg (fun g2 => g ((i32_lt hx hy).mp g2))]
  have hmx : in32 (mxI x y) := by
    unfold mxI
    split
    · exact hy
    · exact hx
  refine va_mmax B.1 B.2.1 (by rw [B.2.2.2.1]; exact jV.1.symm) B.2.2.2.2.1 (B.2.2.2.2.2.1 _ (isW_mem hW0)) (B.2.2.2.2.2.1 _ (isW_mem hW2)) (B.2.2.2.2.2.1 _ (isW_mem hW3)) (B.2.2.2.2.2.1 _ (isW_mem hW1)) (by rw [B.2.2.2.2.2.2.2.2.2.1]; exact hR1) ?_ hcs.1 hcs.2 hd ?_
  · rw [B.2.2.2.2.2.2.2.2.2.2, ctg_eq]
    omega
  rw [e]
  exact K _ _ _ _ _ _ _ _ ads cas H locs _ _ _ h (Nat.le_refl _) (fun _ _ => ⟨rfl, rfl⟩) ⟨jP, jD, jK, jG, jL, jT.tail.tail.cons (v := vi (mxI x y)) hmx, jV, jS, jX⟩ rfl rfl
