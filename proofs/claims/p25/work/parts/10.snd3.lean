/-! The step, third part: putfield, rows of numbers and of references, what is made, Object(), Math.max. -/
theorem put_h {l : Launch} {D : va_G} {A : Nat → Prop} {bS : Nat} {p : Program} {e : Env} {R : Room} {s : State} {mm : MethodId} {args : Array Value} {below : List Frame} {meth : Method} {cc : Code} {q : mI} {m pc : Nat} {H : Heap} {locs : List Loc} {cells slots : Nat} {Q : State → Prop} {sl : Array Slot} {ads : Nat → Nat} {cas : Nat → ClassId} {ls : lo} {st : List av} {I : IT} {C : CT} {n : Nat} {w : List Nat} {b : Nat} {j f i : Nat} {v : Value} {ty : FieldType} {I2 : IT} {C2 : CT} {rest : List Value} (B : Bx p R s mm args meth cc q) (J : Jw D A s m q.2.2.1 ads cas bS I C n H locs sl ls st) (X : Cx A D s) (hv : vd n (f, i)) (ha : kd f ≤ 10) (hb : b < cM (kd f)) (hlk : (bif Nat.beq (gW w 0) 0 then isW (gW w 1) (.fieldLink q.1.cls j (cN (kd f)) (cT (kd f) b).2.1 (cT (kd f) b).2.2.1) else isN (gW w 1) (.fieldLinkNest q.1.cls j (cN (kd f)) (cT (kd f) b).2.1 (cT (kd f) b).2.2.1 "CompassRolls")) = true)
    (hfin : (bif (cT (kd f) b).2.2.2 then (Nat.beq (gW w 0) 0 && decide (q.1.name = "<init>") && decide ((cT (kd f) b).1 = q.1.cls)) else true) = true) (hty : parseFieldDescriptor (cT (kd f) b).2.2.1 = some ty) (hn : narrow ty v = v) (hfit : fits ty v = true) (hd : decode q.2.1 pc = .ok (.putfield j, 3))
    (hI : ∀ f2 i2 j, ¬ (f2 = f ∧ i2 = i) → I2 f2 i2 j = I f2 i2 j) (hC : ∀ f2 i2 j, ¬ (f2 = f ∧ i2 = i) → C2 f2 i2 j = C f2 i2 j) (hs : ((List.range (lnN f)).map (fsv ads bS I C f i)).set b v = (List.range (lnN f)).map (fsv ads bS I2 C2 f i))
    (hgo : ∀ (H1 : Heap) (locs1 : List Loc), va_P D vwCl (wl ads cas bS I2 C2 n) H1 → va_D A (wl ads cas bS I2 C2 n) → va_S A s.heap H1 locs1 → W p l e R s mm args below meth cc H1 locs1 cells slots Q (F0 mm (pc + 3) sl rest)) :
    W p l e R s mm args below meth cc H locs cells slots Q (F0 mm pc sl (v :: .ref (ads (offA f i)) :: rest)) := by
  obtain ⟨jP, jD, jK, jG, jL, jT, jV, jS, jX⟩ := J
  have hln := ln_cM hv jG.1 ha
  have hK : va_K D vwCl [] s := ⟨X.2.1, fun _ _ z => by simp at z⟩
  have he : (wl ads cas bS I C n)[offA f i]? = some (ads (offA f i), .inr (kd f, (List.range (lnN f)).map (fsv ads bS I C f i))) := by rw [wl_get hv.1, wen_obj hv ha]
  have hset : (wl ads cas bS I C n).set (offA f i) (ads (offA f i), .inr (kd f, ((List.range (lnN f)).map (fsv ads bS I C f i)).set b v)) = wl ads cas bS I2 C2 n := wl_set jG.1 hv hI hC (by rw [wen_obj hv ha, hs])
  have hgo2 : ∀ (H1 : Heap) (locs1 : List Loc), va_P D vwCl ((wl ads cas bS I C n).set (offA f i) (ads (offA f i), .inr (kd f, ((List.range (lnN f)).map (fsv ads bS I C f i)).set b v))) H1 → va_D A ((wl ads cas bS I C n).set (offA f i) (ads (offA f i), .inr (kd f, ((List.range (lnN f)).map (fsv ads bS I C f i)).set b v))) → va_S A s.heap H1 locs1 → W p l e R s mm args below meth cc H1 locs1 cells slots Q (F0 mm (pc + 3) sl rest) := by
    rw [hset]; exact hgo
  have hl : b < ((List.range (lnN f)).map (fsv ads bS I C f i)).length := by simp; omega
  by_cases hw : Nat.beq (gW w 0) 0 = true
  · rw [hw] at hlk hfin
    by_cases hf : (cT (kd f) b).2.2.2 = true
    · rw [hf] at hfin
      obtain ⟨h1, h2⟩ := and2 hfin
      obtain ⟨h1, h3⟩ := and2 h1
      exact va_putF (T := cT (kd f)) (N := cM (kd f)) B.1 B.2.1 B.2.2.2.2.2.1 (in_ws ha) (cY (kd f)) (cY_ok _ ha) (cN_nm _ ha) B.2.2.2.2.1 hK jP jD jS (offA f i) he (cls_at _ ha) b hb (B.2.2.2.2.2.1 _ (isW_mem hlk)) (fun _ g => by rw [← cT_decl _ ha b hb]; exact g) hf (B.2.2.2.2.2.2.2.2.1.trans (of_decide_eq_true h3)) (of_decide_eq_true h2) hty hn hfit hl hd hgo2
    · exact va_put (T := cT (kd f)) (N := cM (kd f)) B.1 B.2.1 B.2.2.2.2.2.1 (in_ws ha) (cY (kd f)) (cY_ok _ ha) (cN_nm _ ha) B.2.2.2.2.1 hK jP jD jS (offA f i) he (cls_at _ ha) b hb (B.2.2.2.2.2.1 _ (isW_mem hlk)) (fun _ g => by rw [← cT_decl _ ha b hb]; exact g) (bfalse hf) hty hn hfit hl hd hgo2
  · have hw := bfalse hw
    rw [hw] at hlk hfin
    have hf : ¬ (cT (kd f) b).2.2.2 = true := fun z => by rw [z] at hfin; cases hfin
    exact va_putN (T := cT (kd f)) (N := cM (kd f)) B.1 B.2.1 B.2.2.2.2.2.1 (in_ws ha) (cY (kd f)) (cY_ok _ ha) (cN_nm _ ha) B.2.2.2.2.1 hK jP jD jS (offA f i) he (cls_at _ ha) b hb (va_Nw.use rfl (X.1 _ (isN_mem hlk).1 (isN_mem hlk).2)) (fun _ g => by rw [← cT_decl _ ha b hb]; exact g) (bfalse hf) hty hn hfit hl hd hgo2
theorem sn_putfield {l : Launch} {D : va_G} {A : Nat → Prop} {bS : Nat} {p : Program} {e : Env} {R : Room} {s : State} {mm : MethodId} {args : Array Value} {below : List Frame} {meth : Method} {cc : Code} {q : mI} {m pc : Nat} {H : Heap} {locs : List Loc} {cells slots : Nat} {Q : State → Prop} {sl : Array Slot} {ads : Nat → Nat} {cas : Nat → ClassId} {ls : lo} {st : List av} {I : IT} {C : CT} {n c z : Nat} {w : List Nat} {u : ou} {len a b d : Nat} {kc : Nat → lo → List av → IT → CT → Nat → Nat → Nat → Option ou} {ky : Nat → List av → List av → Option ou} {kr : Option av → Option ou} {kt : Nat → Nat → Nat → Option ou} {j : Nat} (B : Bx p R s mm args meth cc q) (J : Jw D A s m q.2.2.1 ads cas bS I C n H locs sl ls st) (X : Cx A D s) (hok : okE m q pc (.putfield j, len, a, b, d) w = true) (h : stp (.putfield j, len, a, b, d) pc ls st I C n c z kc ky kr kt none = some u) (K : Kn p l e R s mm args below meth cc D A m q.2.2.1 bS Q kc u ads cas n c z cells slots) : W p l e R s mm args below meth cc H locs cells slots Q (F0 mm pc sl (st.map (ev ads bS))) := by
  obtain ⟨hd0, hk⟩ := and2 hok
  have hd := of_decide_eq_true hd0
  have J0 := J
  obtain ⟨jP, jD, jK, jG, jL, jT, jV, jS, jX⟩ := J
  obtain ⟨hl, hty⟩ := and2 hk
  obtain ⟨hl, hfin⟩ := and2 hl
  obtain ⟨hl, hfr⟩ := and2 hl
  obtain ⟨hl, hF⟩ := and2 hl
  obtain ⟨hF, hlk⟩ := and2 hF
  obtain ⟨ha, hbM⟩ := and2 hF
  have hl := beqN hl
  have ha := bleN ha
  have hbM := bleN hbM
  have hfr := frf_b hfr
  subst hl
  have h8 : (bif Nat.beq d 2
          then sR st (fun q r => sO r (fun f i r' => bif Nat.beq (kd f) a then kc (pc + 3) ls r' I (up3 C f i b q) n c z else none) none) none
          else sI st (fun x r => sO r (fun f i r' => bif Nat.beq (kd f) a then (bif Nat.beq d 1 then (if x = 0 ∨ x = 1 then kc (pc + 3) ls r' (up3 I f i b x) C n c z else none) else kc (pc + 3) ls r' (up3 I f i b x) C n c z) else none) none) none) = some u := h
  by_cases hd2 : Nat.beq d 2 = true
  · rw [hd2] at h8 hty
    obtain ⟨x, r, rfl, h7⟩ := sR_inv h8
    obtain ⟨f, i, r2, rfl, h6⟩ := sO_inv h7
    obtain ⟨hkf, h5⟩ := bif_inv h6
    have hkf := beqN hkf
    replace h := h5
    obtain ⟨hv, hf9⟩ := vd_of jT.tail.head (by omega)
    subst hkf
    have hfs : ((List.range (lnN f)).map (fsv ads bS I C f i)).set b (va_rf (x.map (adr ads bS))) = (List.range (lnN f)).map (fsv ads bS I (up3 C f i b x) f i) := fsl_set (fun _ _ => rfl) (fun j z => up3_nj z) (by unfold fsv; rw [← hfr, hd2, up3_eq]; rfl)
    have hln := ln_cM hv jG.1 ha
    have hgo : ∀ (H1 : Heap) (locs1 : List Loc), va_P D vwCl (wl ads cas bS I (up3 C f i b x) n) H1 → va_D A (wl ads cas bS I (up3 C f i b x) n) → va_S A s.heap H1 locs1 → W p l e R s mm args below meth cc H1 locs1 cells slots Q (F0 mm (pc + 3) sl (r2.map (ev ads bS))) := fun H1 locs1 p1 p2 p3 => by
      exact K _ _ _ _ _ _ _ _ ads cas H1 locs1 _ _ _ h (Nat.le_refl _) (fun _ _ => ⟨rfl, rfl⟩) ⟨p1, p2, jK, jG.upC hv (fun q2 z => jT.head q2 z), jL, jT.tail.tail, jV, p3, jX⟩ rfl rfl
    show W p l e R s mm args below meth cc H locs cells slots Q (F0 mm pc sl (va_rf (x.map (adr ads bS)) :: .ref (adr ads bS (f, i)) :: r2.map (ev ads bS)))
    rw [adr_of hf9]
    have hty2 : ∃ ty, parseFieldDescriptor (cT (kd f) b).2.2.1 = some ty ∧ ∀ y : Option Nat, narrow ty (va_rf y) = va_rf y ∧ fits ty (va_rf y) = true := by
      revert hty
      generalize parseFieldDescriptor (cT (kd f) b).2.2.1 = o
      intro hty
      rcases o with _ | ty
      · cases hty
      · cases ty with
        | object c9 => exact ⟨_, rfl, fun y => by cases y <;> exact ⟨rfl, rfl⟩⟩
        | array t9 => exact ⟨_, rfl, fun y => by cases y <;> exact ⟨rfl, rfl⟩⟩
        | _ => cases hty
    obtain ⟨ty, t1, t2⟩ := hty2
    exact put_h B J0 X hv ha (by omega) hlk hfin t1 (t2 _).1 (t2 _).2 hd (fun _ _ _ _ => rfl) (fun f2 i2 j z => up3_ne z) hfs hgo
  · have hd2 := bfalse hd2
    rw [hd2] at h8 hty
    obtain ⟨x, r, rfl, h7⟩ := sI_inv h8
    obtain ⟨f, i, r2, rfl, h6⟩ := sO_inv h7
    obtain ⟨hkf, h5⟩ := bif_inv h6
    have hkf := beqN hkf
    obtain ⟨hv, hf9⟩ := vd_of jT.tail.head (by omega)
    subst hkf
    by_cases hd1 : Nat.beq d 1 = true
    · rw [hd1] at h5 hty
      obtain ⟨hx01, h4⟩ := ite_inv h5
      replace h := h4
      have hI9 : ∀ f2 i2 j, ¬ (f2 = f ∧ i2 = i) → up3 I f i b x f2 i2 j = I f2 i2 j := fun f2 i2 j z => up3_ne z
      have hx : in32 x := jT.head
      have hfs : ((List.range (lnN f)).map (fsv ads bS I C f i)).set b (.int (Int32.ofInt x)) = (List.range (lnN f)).map (fsv ads bS (up3 I f i b x) C f i) := fsl_set (fun j z => up3_nj z) (fun _ _ => rfl) (by unfold fsv; rw [← hfr, hd2, up3_eq]; rfl)
      have hln := ln_cM hv jG.1 ha
      have hgo : ∀ (H1 : Heap) (locs1 : List Loc), va_P D vwCl (wl ads cas bS (up3 I f i b x) C n) H1 → va_D A (wl ads cas bS (up3 I f i b x) C n) → va_S A s.heap H1 locs1 → W p l e R s mm args below meth cc H1 locs1 cells slots Q (F0 mm (pc + 3) sl (r2.map (ev ads bS))) := fun H1 locs1 p1 p2 p3 => by
        exact K _ _ _ _ _ _ _ _ ads cas H1 locs1 _ _ _ h (Nat.le_refl _) (fun _ _ => ⟨rfl, rfl⟩) ⟨p1, p2, jK, jG.upI hv (fun _ => hx) (fun _ => in32_64 hx), jL, jT.tail.tail, jV, p3, sxI jX (fun i2 j => up3_ne (fun z => hf9 z.1.symm))⟩ rfl rfl
      show W p l e R s mm args below meth cc H locs cells slots Q (F0 mm pc sl (.int (Int32.ofInt x) :: .ref (adr ads bS (f, i)) :: r2.map (ev ads bS)))
      rw [adr_of hf9]
      exact put_h B J0 X hv ha (by omega) hlk hfin (of_decide_eq_true hty) (by rcases hx01 with rfl | rfl <;> rfl) (by rcases hx01 with rfl | rfl <;> rfl) hd hI9 (fun _ _ _ _ => rfl) hfs hgo
    · have hd1 := bfalse hd1
      rw [hd1] at h5 hty
      replace h := h5
      have hI9 : ∀ f2 i2 j, ¬ (f2 = f ∧ i2 = i) → up3 I f i b x f2 i2 j = I f2 i2 j := fun f2 i2 j z => up3_ne z
      have hx : in32 x := jT.head
      have hfs : ((List.range (lnN f)).map (fsv ads bS I C f i)).set b (.int (Int32.ofInt x)) = (List.range (lnN f)).map (fsv ads bS (up3 I f i b x) C f i) := fsl_set (fun j z => up3_nj z) (fun _ _ => rfl) (by unfold fsv; rw [← hfr, hd2, up3_eq]; rfl)
      have hln := ln_cM hv jG.1 ha
      have hgo : ∀ (H1 : Heap) (locs1 : List Loc), va_P D vwCl (wl ads cas bS (up3 I f i b x) C n) H1 → va_D A (wl ads cas bS (up3 I f i b x) C n) → va_S A s.heap H1 locs1 → W p l e R s mm args below meth cc H1 locs1 cells slots Q (F0 mm (pc + 3) sl (r2.map (ev ads bS))) := fun H1 locs1 p1 p2 p3 => by
        exact K _ _ _ _ _ _ _ _ ads cas H1 locs1 _ _ _ h (Nat.le_refl _) (fun _ _ => ⟨rfl, rfl⟩) ⟨p1, p2, jK, jG.upI hv (fun _ => hx) (fun _ => in32_64 hx), jL, jT.tail.tail, jV, p3, sxI jX (fun i2 j => up3_ne (fun z => hf9 z.1.symm))⟩ rfl rfl
      show W p l e R s mm args below meth cc H locs cells slots Q (F0 mm pc sl (.int (Int32.ofInt x) :: .ref (adr ads bS (f, i)) :: r2.map (ev ads bS)))
      rw [adr_of hf9]
      exact put_h B J0 X hv ha (by omega) hlk hfin (of_decide_eq_true hty) rfl rfl hd hI9 (fun _ _ _ _ => rfl) hfs hgo
theorem aty_obj {k : Nat} (h : 30 ≤ k) : aty k = .object (cN (k - 30)) := by
  have e : ∀ j : Nat, j < 30 → Nat.beq k j = false := fun j hj => by
    cases g : Nat.beq k j
    · rfl
    · have := Nat.eq_of_beq_eq_true g; omega
  unfold aty
  rw [e 20 (by omega), e 21 (by omega), e 22 (by omega)]
  rfl
theorem cas_K {D : va_G} {s : State} {cas : Nat → ClassId} {n f i : Nat} {ty : FieldType} (X : ∀ (c : Nat) (q : vw_C), vwCl[c]? = some q → u_Kn s q.1 q.2.1 q.2.2 (D.1 c) (D.2 c)) (jK : KA s cas n) (hv : vd n (f, i)) (hk : 20 ≤ kd f) (hty : aty (kd f) = ty) : va_K D vwCl [(cas (offA f i), ty)] s := by
  have hKA := jK (offA f i) hv.1 (by rw [hv.2]; exact hk)
  rw [hv.2] at hKA
  rw [← hty]
  exact ⟨X, fun k q z => by
    cases k with
    | zero => simp at z; subst z; exact hKA
    | succ k => simp at z⟩
theorem upd_i {I : IT} {f i k : Nat} {x : Int} : upd (fun j => Int32.ofInt (I f i j)) k (Int32.ofInt x) = fun j => Int32.ofInt (up3 I f i k x f i j) := by
  funext j
  unfold upd
  by_cases h : j = k
  · subst h; rw [if_pos rfl, up3_eq]
  · rw [if_neg h, up3_nj h]
theorem upd_l {I : IT} {f i k : Nat} {x : Int} : vp_updL (fun j => Int64.ofInt (I f i j)) k (Int64.ofInt x) = fun j => Int64.ofInt (up3 I f i k x f i j) := by
  funext j
  unfold vp_updL
  by_cases h : j = k
  · subst h; rw [if_pos rfl, up3_eq]
  · rw [if_neg h, up3_nj h]
theorem upd_r {C : CT} {ads : Nat → Nat} {bS f i k : Nat} {x : Nat × Nat} (hk : k < lnN f) : va_up (fun j => if j < lnN f then (C f i j).map (adr ads bS) else none) k (some (adr ads bS x)) = fun j => if j < lnN f then (up3 C f i k (some x) f i j).map (adr ads bS) else none := by
  funext j
  unfold va_up
  by_cases h : j = k
  · subst h; rw [if_pos rfl, up3_eq, if_pos hk]; rfl
  · rw [if_neg h, up3_nj h]
theorem sn_baload {l : Launch} {D : va_G} {A : Nat → Prop} {bS : Nat} {p : Program} {e : Env} {R : Room} {s : State} {mm : MethodId} {args : Array Value} {below : List Frame} {meth : Method} {cc : Code} {q : mI} {m pc : Nat} {H : Heap} {locs : List Loc} {cells slots : Nat} {Q : State → Prop} {sl : Array Slot} {ads : Nat → Nat} {cas : Nat → ClassId} {ls : lo} {st : List av} {I : IT} {C : CT} {n c z : Nat} {w : List Nat} {u : ou} {len a b d : Nat} {kc : Nat → lo → List av → IT → CT → Nat → Nat → Nat → Option ou} {ky : Nat → List av → List av → Option ou} {kr : Option av → Option ou} {kt : Nat → Nat → Nat → Option ou}  (B : Bx p R s mm args meth cc q) (J : Jw D A s m q.2.2.1 ads cas bS I C n H locs sl ls st) (X : Cx A D s) (hok : okE m q pc (.baload, len, a, b, d) w = true) (h : stp (.baload, len, a, b, d) pc ls st I C n c z kc ky kr kt none = some u) (K : Kn p l e R s mm args below meth cc D A m q.2.2.1 bS Q kc u ads cas n c z cells slots) : W p l e R s mm args below meth cc H locs cells slots Q (F0 mm pc sl (st.map (ev ads bS))) := by
  obtain ⟨hd0, hk⟩ := and2 hok
  have hd := of_decide_eq_true hd0
  obtain ⟨jP, jD, jK, jG, jL, jT, jV, jS, jX⟩ := J
  have hl := beqN hk
  subst hl
  have h8 : sI st (fun x r => sO r (fun f i r' => bif Nat.beq (kd f) 21 then (if 0 ≤ x ∧ x < Int.ofNat (lnN f) then kc (pc + 1) ls (vi (I f i x.toNat) :: r') I C n c z else none) else none) none) none = some u := h
  obtain ⟨x, r, rfl, h7⟩ := sI_inv h8
  obtain ⟨f, i, r2, rfl, h6⟩ := sO_inv h7
  have hx : in32 x := jT.head
  obtain ⟨hkf, h5⟩ := bif_inv h6
  have hkf := beqN hkf
  obtain ⟨hin, h4⟩ := ite_inv h5
  replace h := h4
  obtain ⟨hv, hf9⟩ := vd_of jT.tail.head (by omega)
  have hK := cas_K X.2.1 jK hv (by omega) (show aty (kd f) = .boolean by rw [hkf]; rfl)
  have he := wl_get (ads := ads) (cas := cas) (bS := bS) (I := I) (C := C) hv.1
  rw [wen_int hv (Or.inr hkf)] at he
  show W p l e R s mm args below meth cc H locs cells slots Q (F0 mm pc sl (.int (Int32.ofInt x) :: .ref (adr ads bS (f, i)) :: r2.map (ev ads bS)))
  rw [adr_of hf9]
  refine va_zald B.1 B.2.1 hK jP (offA f i) 0 he rfl (vpin hx hin) hd ?_
  rw [i32_nat hx]
  have hlt : x.toNat < lnN f := by have := hin.1; have h3 := hin.2; simp at h3; omega
  exact K _ _ _ _ _ _ _ _ ads cas H locs _ _ _ h (Nat.le_refl _) (fun _ _ => ⟨rfl, rfl⟩) ⟨jP, jD, jK, jG, jL, jT.tail.tail.cons (v := vi (I f i x.toNat)) (jG.2.1 f i _ hv hlt (by omega)), jV, jS, jX⟩ rfl rfl
theorem sn_laload {l : Launch} {D : va_G} {A : Nat → Prop} {bS : Nat} {p : Program} {e : Env} {R : Room} {s : State} {mm : MethodId} {args : Array Value} {below : List Frame} {meth : Method} {cc : Code} {q : mI} {m pc : Nat} {H : Heap} {locs : List Loc} {cells slots : Nat} {Q : State → Prop} {sl : Array Slot} {ads : Nat → Nat} {cas : Nat → ClassId} {ls : lo} {st : List av} {I : IT} {C : CT} {n c z : Nat} {w : List Nat} {u : ou} {len a b d : Nat} {kc : Nat → lo → List av → IT → CT → Nat → Nat → Nat → Option ou} {ky : Nat → List av → List av → Option ou} {kr : Option av → Option ou} {kt : Nat → Nat → Nat → Option ou}  (B : Bx p R s mm args meth cc q) (J : Jw D A s m q.2.2.1 ads cas bS I C n H locs sl ls st) (X : Cx A D s) (hok : okE m q pc (.laload, len, a, b, d) w = true) (h : stp (.laload, len, a, b, d) pc ls st I C n c z kc ky kr kt none = some u) (K : Kn p l e R s mm args below meth cc D A m q.2.2.1 bS Q kc u ads cas n c z cells slots) : W p l e R s mm args below meth cc H locs cells slots Q (F0 mm pc sl (st.map (ev ads bS))) := by
  obtain ⟨hd0, hk⟩ := and2 hok
  have hd := of_decide_eq_true hd0
  obtain ⟨jP, jD, jK, jG, jL, jT, jV, jS, jX⟩ := J
  have hl := beqN hk
  subst hl
  have h8 : sI st (fun x r => sO r (fun f i r' => bif Nat.beq (kd f) 22 then (if 0 ≤ x ∧ x < Int.ofNat (lnN f) then kc (pc + 1) ls (vl (I f i x.toNat) :: r') I C n c z else none) else none) none) none = some u := h
  obtain ⟨x, r, rfl, h7⟩ := sI_inv h8
  obtain ⟨f, i, r2, rfl, h6⟩ := sO_inv h7
  have hx : in32 x := jT.head
  obtain ⟨hkf, h5⟩ := bif_inv h6
  have hkf := beqN hkf
  obtain ⟨hin, h4⟩ := ite_inv h5
  replace h := h4
  obtain ⟨hv, hf9⟩ := vd_of jT.tail.head (by omega)
  have hK := cas_K X.2.1 jK hv (by omega) (show aty (kd f) = .long by rw [hkf]; rfl)
  have he := wl_get (ads := ads) (cas := cas) (bS := bS) (I := I) (C := C) hv.1
  rw [wen_long hv hkf] at he
  show W p l e R s mm args below meth cc H locs cells slots Q (F0 mm pc sl (.int (Int32.ofInt x) :: .ref (adr ads bS (f, i)) :: r2.map (ev ads bS)))
  rw [adr_of hf9]
  refine va_lald B.1 B.2.1 hK jP (offA f i) 0 he rfl (vpin hx hin) hd ?_
  rw [i32_nat hx]
  have hlt : x.toNat < lnN f := by have := hin.1; have h3 := hin.2; simp at h3; omega
  exact K _ _ _ _ _ _ _ _ ads cas H locs _ _ _ h (Nat.le_refl _) (fun _ _ => ⟨rfl, rfl⟩) ⟨jP, jD, jK, jG, jL, jT.tail.tail.cons (v := vl (I f i x.toNat)) (jG.2.2.1 f i _ hv hlt hkf), jV, jS, jX⟩ rfl rfl
theorem sn_iaload {l : Launch} {D : va_G} {A : Nat → Prop} {bS : Nat} {p : Program} {e : Env} {R : Room} {s : State} {mm : MethodId} {args : Array Value} {below : List Frame} {meth : Method} {cc : Code} {q : mI} {m pc : Nat} {H : Heap} {locs : List Loc} {cells slots : Nat} {Q : State → Prop} {sl : Array Slot} {ads : Nat → Nat} {cas : Nat → ClassId} {ls : lo} {st : List av} {I : IT} {C : CT} {n c z : Nat} {w : List Nat} {u : ou} {len a b d : Nat} {kc : Nat → lo → List av → IT → CT → Nat → Nat → Nat → Option ou} {ky : Nat → List av → List av → Option ou} {kr : Option av → Option ou} {kt : Nat → Nat → Nat → Option ou}  (B : Bx p R s mm args meth cc q) (J : Jw D A s m q.2.2.1 ads cas bS I C n H locs sl ls st) (X : Cx A D s) (hok : okE m q pc (.iaload, len, a, b, d) w = true) (h : stp (.iaload, len, a, b, d) pc ls st I C n c z kc ky kr kt none = some u) (K : Kn p l e R s mm args below meth cc D A m q.2.2.1 bS Q kc u ads cas n c z cells slots) : W p l e R s mm args below meth cc H locs cells slots Q (F0 mm pc sl (st.map (ev ads bS))) := by
  obtain ⟨hd0, hk⟩ := and2 hok
  have hd := of_decide_eq_true hd0
  obtain ⟨jP, jD, jK, jG, jL, jT, jV, jS, jX⟩ := J
  obtain ⟨hl, hlaw⟩ := and2 hk
  have hl := beqN hl
  subst hl
  have h8 : sI st (fun x r => sO r (fun f i r' => bif Nat.beq (kd f) 20 then (if 0 ≤ x ∧ x < Int.ofNat (lnN f) then kc (pc + 1) ls (vi (I f i x.toNat) :: r') I C n c z else none) else bif Nat.beq d 1 then (bif Nat.beq f 99 then (if 0 ≤ x ∧ x < I 99 1 0 then kc (pc + 1) ls (vi (I 99 0 x.toNat) :: r') I C n c z else none) else none) else none) none) none = some u := h
  obtain ⟨x, r, rfl, h7⟩ := sI_inv h8
  obtain ⟨f, i, r2, rfl, h6⟩ := sO_inv h7
  have hx : in32 x := jT.head
  by_cases hk2 : Nat.beq (kd f) 20 = true
  · rw [hk2] at h6
    have hkf := beqN hk2
    replace h6 : (if 0 ≤ x ∧ x < Int.ofNat (lnN f) then kc (pc + 1) ls (vi (I f i x.toNat) :: r2) I C n c z else none) = some u := h6
    obtain ⟨hin, h4⟩ := ite_inv h6
    replace h := h4
    obtain ⟨hv, hf9⟩ := vd_of jT.tail.head (by omega)
    have hK := cas_K X.2.1 jK hv (by omega) (show aty (kd f) = .int by rw [hkf]; rfl)
    have he := wl_get (ads := ads) (cas := cas) (bS := bS) (I := I) (C := C) hv.1
    rw [wen_int hv (Or.inl hkf)] at he
    show W p l e R s mm args below meth cc H locs cells slots Q (F0 mm pc sl (.int (Int32.ofInt x) :: .ref (adr ads bS (f, i)) :: r2.map (ev ads bS)))
    rw [adr_of hf9]
    refine va_iald B.1 B.2.1 hK jP (offA f i) 0 he rfl (vpin hx hin) hd ?_
    rw [i32_nat hx]
    have hlt : x.toNat < lnN f := by have := hin.1; have h3 := hin.2; simp at h3; omega
    exact K _ _ _ _ _ _ _ _ ads cas H locs _ _ _ h (Nat.le_refl _) (fun _ _ => ⟨rfl, rfl⟩) ⟨jP, jD, jK, jG, jL, jT.tail.tail.cons (v := vi (I f i x.toNat)) (jG.2.1 f i _ hv hlt (by omega)), jV, jS, jX⟩ rfl rfl
  · rw [bfalse hk2] at h6
    obtain ⟨hd1, h5⟩ := bif_inv (show (bif Nat.beq d 1 then _ else none) = some u from h6)
    obtain ⟨hf, h4⟩ := bif_inv h5
    obtain ⟨hin, h3⟩ := ite_inv h4
    replace h := h3
    have hf := beqN hf
    subst hf
    rw [hd1] at hlaw
    obtain ⟨L, xs, x1, x2, x3, x4, x5, x6⟩ := jX (beqN hlaw)
    have hin2 : vp_in (Int32.ofInt x) L := vpin hx ⟨hin.1, by rw [x5] at hin; exact hin.2⟩
    refine va_sld B.1 B.2.1 x1 x2 x3 jS hin2 hd ?_
    rw [i32_nat hx]
    have hlt : x.toNat < L := by rw [x5] at hin; have := hin.1; have h3 := hin.2; omega
    have e : Value.int (xs x.toNat) = ev ads bS (vi (I 99 0 x.toNat)) := by
      show Value.int _ = Value.int _
      rw [x6 _ hlt, Int32.ofInt_toInt]
    rw [e]
    exact K _ _ _ _ _ _ _ _ ads cas H locs _ _ _ h (Nat.le_refl _) (fun _ _ => ⟨rfl, rfl⟩) ⟨jP, jD, jK, jG, jL, jT.tail.tail.cons (v := vi (I 99 0 x.toNat)) (jG.2.2.2.2.2.1 _), jV, jS, jX⟩ rfl rfl
theorem sn_iastore {l : Launch} {D : va_G} {A : Nat → Prop} {bS : Nat} {p : Program} {e : Env} {R : Room} {s : State} {mm : MethodId} {args : Array Value} {below : List Frame} {meth : Method} {cc : Code} {q : mI} {m pc : Nat} {H : Heap} {locs : List Loc} {cells slots : Nat} {Q : State → Prop} {sl : Array Slot} {ads : Nat → Nat} {cas : Nat → ClassId} {ls : lo} {st : List av} {I : IT} {C : CT} {n c z : Nat} {w : List Nat} {u : ou} {len a b d : Nat} {kc : Nat → lo → List av → IT → CT → Nat → Nat → Nat → Option ou} {ky : Nat → List av → List av → Option ou} {kr : Option av → Option ou} {kt : Nat → Nat → Nat → Option ou}  (B : Bx p R s mm args meth cc q) (J : Jw D A s m q.2.2.1 ads cas bS I C n H locs sl ls st) (X : Cx A D s) (hok : okE m q pc (.iastore, len, a, b, d) w = true) (h : stp (.iastore, len, a, b, d) pc ls st I C n c z kc ky kr kt none = some u) (K : Kn p l e R s mm args below meth cc D A m q.2.2.1 bS Q kc u ads cas n c z cells slots) : W p l e R s mm args below meth cc H locs cells slots Q (F0 mm pc sl (st.map (ev ads bS))) := by
  obtain ⟨hd0, hk⟩ := and2 hok
  have hd := of_decide_eq_true hd0
  obtain ⟨jP, jD, jK, jG, jL, jT, jV, jS, jX⟩ := J
  have hl := beqN hk
  subst hl
  have h8 : sI st (fun v r => sI r (fun x r1 => sO r1 (fun f i r' => bif Nat.beq (kd f) 20 then (if 0 ≤ x ∧ x < Int.ofNat (lnN f) then kc (pc + 1) ls r' (up3 I f i x.toNat v) C n c z else none) else none) none) none) none = some u := h
  obtain ⟨v, r, rfl, h7⟩ := sI_inv h8
  obtain ⟨x, r2, rfl, h6⟩ := sI_inv h7
  obtain ⟨f, i, r3, rfl, h5⟩ := sO_inv h6
  have hvv : in32 v := jT.head
  have hx : in32 x := jT.tail.head
  obtain ⟨hkf, h4⟩ := bif_inv h5
  have hkf := beqN hkf
  obtain ⟨hin, h3⟩ := ite_inv h4
  obtain ⟨hv, hf9⟩ := vd_of jT.tail.tail.head (by omega)
  replace h := h3
  have hK := cas_K X.2.1 jK hv (by omega) (show aty (kd f) = .int by rw [hkf]; rfl)
  have he := wl_get (ads := ads) (cas := cas) (bS := bS) (I := I) (C := C) hv.1
  rw [wen_int hv (Or.inl hkf)] at he
  have hset := wl_set (ads := ads) (cas := cas) (bS := bS) (I2 := up3 I f i x.toNat v) (C2 := C) jG.1 hv (fun f2 i2 j z => up3_ne z) (fun _ _ _ _ => rfl) (wen_int hv (Or.inl hkf))
  show W p l e R s mm args below meth cc H locs cells slots Q (F0 mm pc sl (.int (Int32.ofInt v) :: .int (Int32.ofInt x) :: .ref (adr ads bS (f, i)) :: r3.map (ev ads bS)))
  rw [adr_of hf9]
  refine va_iast B.1 B.2.1 hK jP jD jS (offA f i) 0 he rfl (vpin hx hin) hd (fun H1 locs1 p1 p2 p3 => ?_)
  rw [i32_nat hx] at p1 p2
  rw [upd_i, hset] at p1 p2
  exact K _ _ _ _ _ _ _ _ ads cas H1 locs1 _ _ _ h (Nat.le_refl _) (fun _ _ => ⟨rfl, rfl⟩) ⟨p1, p2, jK, jG.upI hv (fun _ => hvv) (fun _ => in32_64 hvv), jL, jT.tail.tail.tail, jV, p3, sxI jX (fun i2 j => up3_ne (fun z => hf9 z.1.symm))⟩ rfl rfl
theorem sn_bastore {l : Launch} {D : va_G} {A : Nat → Prop} {bS : Nat} {p : Program} {e : Env} {R : Room} {s : State} {mm : MethodId} {args : Array Value} {below : List Frame} {meth : Method} {cc : Code} {q : mI} {m pc : Nat} {H : Heap} {locs : List Loc} {cells slots : Nat} {Q : State → Prop} {sl : Array Slot} {ads : Nat → Nat} {cas : Nat → ClassId} {ls : lo} {st : List av} {I : IT} {C : CT} {n c z : Nat} {w : List Nat} {u : ou} {len a b d : Nat} {kc : Nat → lo → List av → IT → CT → Nat → Nat → Nat → Option ou} {ky : Nat → List av → List av → Option ou} {kr : Option av → Option ou} {kt : Nat → Nat → Nat → Option ou}  (B : Bx p R s mm args meth cc q) (J : Jw D A s m q.2.2.1 ads cas bS I C n H locs sl ls st) (X : Cx A D s) (hok : okE m q pc (.bastore, len, a, b, d) w = true) (h : stp (.bastore, len, a, b, d) pc ls st I C n c z kc ky kr kt none = some u) (K : Kn p l e R s mm args below meth cc D A m q.2.2.1 bS Q kc u ads cas n c z cells slots) : W p l e R s mm args below meth cc H locs cells slots Q (F0 mm pc sl (st.map (ev ads bS))) := by
  obtain ⟨hd0, hk⟩ := and2 hok
  have hd := of_decide_eq_true hd0
  obtain ⟨jP, jD, jK, jG, jL, jT, jV, jS, jX⟩ := J
  have hl := beqN hk
  subst hl
  have h8 : sI st (fun v r => sI r (fun x r1 => sO r1 (fun f i r' => bif Nat.beq (kd f) 21 then (if 0 ≤ x ∧ x < Int.ofNat (lnN f) then (if v = 0 ∨ v = 1 then kc (pc + 1) ls r' (up3 I f i x.toNat v) C n c z else none) else none) else none) none) none) none = some u := h
  obtain ⟨v, r, rfl, h7⟩ := sI_inv h8
  obtain ⟨x, r2, rfl, h6⟩ := sI_inv h7
  obtain ⟨f, i, r3, rfl, h5⟩ := sO_inv h6
  have hvv : in32 v := jT.head
  have hx : in32 x := jT.tail.head
  obtain ⟨hkf, h4⟩ := bif_inv h5
  have hkf := beqN hkf
  obtain ⟨hin, h3⟩ := ite_inv h4
  obtain ⟨hv, hf9⟩ := vd_of jT.tail.tail.head (by omega)
  obtain ⟨hv01, h2⟩ := ite_inv h3
  replace h := h2
  have hK := cas_K X.2.1 jK hv (by omega) (show aty (kd f) = .boolean by rw [hkf]; rfl)
  have he := wl_get (ads := ads) (cas := cas) (bS := bS) (I := I) (C := C) hv.1
  rw [wen_int hv (Or.inr hkf)] at he
  have hset := wl_set (ads := ads) (cas := cas) (bS := bS) (I2 := up3 I f i x.toNat v) (C2 := C) jG.1 hv (fun f2 i2 j z => up3_ne z) (fun _ _ _ _ => rfl) (wen_int hv (Or.inr hkf))
  show W p l e R s mm args below meth cc H locs cells slots Q (F0 mm pc sl (.int (Int32.ofInt v) :: .int (Int32.ofInt x) :: .ref (adr ads bS (f, i)) :: r3.map (ev ads bS)))
  rw [adr_of hf9]
  refine va_zast B.1 B.2.1 hK jP jD jS (offA f i) 0 he rfl (vpin hx hin) hd (fun H1 locs1 p1 p2 p3 => ?_)
  rw [i32_nat hx] at p1 p2
  have hnar : vp_nar .boolean (Int32.ofInt v) = Int32.ofInt v := by rcases hv01 with rfl | rfl <;> rfl
  rw [hnar, upd_i, hset] at p1 p2
  exact K _ _ _ _ _ _ _ _ ads cas H1 locs1 _ _ _ h (Nat.le_refl _) (fun _ _ => ⟨rfl, rfl⟩) ⟨p1, p2, jK, jG.upI hv (fun _ => hvv) (fun _ => in32_64 hvv), jL, jT.tail.tail.tail, jV, p3, sxI jX (fun i2 j => up3_ne (fun z => hf9 z.1.symm))⟩ rfl rfl
theorem last_inv {α : Type} {st : List av} {k : Int → List av → Option α} {u : α} (h : (match st with
      | Sum.inr (Sum.inl v) :: r => k v r
      | _ => none) = some u) : ∃ v r, st = vl v :: r ∧ k v r = some u := by
  split at h
  · exact ⟨_, _, rfl, h⟩
  · cases h
theorem sn_lastore {l : Launch} {D : va_G} {A : Nat → Prop} {bS : Nat} {p : Program} {e : Env} {R : Room} {s : State} {mm : MethodId} {args : Array Value} {below : List Frame} {meth : Method} {cc : Code} {q : mI} {m pc : Nat} {H : Heap} {locs : List Loc} {cells slots : Nat} {Q : State → Prop} {sl : Array Slot} {ads : Nat → Nat} {cas : Nat → ClassId} {ls : lo} {st : List av} {I : IT} {C : CT} {n c z : Nat} {w : List Nat} {u : ou} {len a b d : Nat} {kc : Nat → lo → List av → IT → CT → Nat → Nat → Nat → Option ou} {ky : Nat → List av → List av → Option ou} {kr : Option av → Option ou} {kt : Nat → Nat → Nat → Option ou}  (B : Bx p R s mm args meth cc q) (J : Jw D A s m q.2.2.1 ads cas bS I C n H locs sl ls st) (X : Cx A D s) (hok : okE m q pc (.lastore, len, a, b, d) w = true) (h : stp (.lastore, len, a, b, d) pc ls st I C n c z kc ky kr kt none = some u) (K : Kn p l e R s mm args below meth cc D A m q.2.2.1 bS Q kc u ads cas n c z cells slots) : W p l e R s mm args below meth cc H locs cells slots Q (F0 mm pc sl (st.map (ev ads bS))) := by
  obtain ⟨hd0, hk⟩ := and2 hok
  have hd := of_decide_eq_true hd0
  obtain ⟨jP, jD, jK, jG, jL, jT, jV, jS, jX⟩ := J
  have hl := beqN hk
  subst hl
  obtain ⟨v, r, rfl, h7⟩ := last_inv (k := fun v r => sI r (fun x r1 => sO r1 (fun f i r' => bif Nat.beq (kd f) 22 then (if 0 ≤ x ∧ x < Int.ofNat (lnN f) then kc (pc + 1) ls r' (up3 I f i x.toNat v) C n c z else none) else none) none) none) h
  obtain ⟨x, r2, rfl, h6⟩ := sI_inv h7
  obtain ⟨f, i, r3, rfl, h5⟩ := sO_inv h6
  have hvv : in64 v := jT.head
  have hx : in32 x := jT.tail.head
  obtain ⟨hkf, h4⟩ := bif_inv h5
  have hkf := beqN hkf
  obtain ⟨hin, h3⟩ := ite_inv h4
  replace h := h3
  obtain ⟨hv, hf9⟩ := vd_of jT.tail.tail.head (by omega)
  have hK := cas_K X.2.1 jK hv (by omega) (show aty (kd f) = .long by rw [hkf]; rfl)
  have he := wl_get (ads := ads) (cas := cas) (bS := bS) (I := I) (C := C) hv.1
  rw [wen_long hv hkf] at he
  have hset := wl_set (ads := ads) (cas := cas) (bS := bS) (I2 := up3 I f i x.toNat v) (C2 := C) jG.1 hv (fun f2 i2 j z => up3_ne z) (fun _ _ _ _ => rfl) (wen_long hv hkf)
  show W p l e R s mm args below meth cc H locs cells slots Q (F0 mm pc sl (.long (Int64.ofInt v) :: .int (Int32.ofInt x) :: .ref (adr ads bS (f, i)) :: r3.map (ev ads bS)))
  rw [adr_of hf9]
  refine va_last B.1 B.2.1 hK jP jD jS (offA f i) 0 he rfl (vpin hx hin) hd (fun H1 locs1 p1 p2 p3 => ?_)
  rw [i32_nat hx] at p1 p2
  rw [upd_l, hset] at p1 p2
  exact K _ _ _ _ _ _ _ _ ads cas H1 locs1 _ _ _ h (Nat.le_refl _) (fun _ _ => ⟨rfl, rfl⟩) ⟨p1, p2, jK, jG.upI hv (fun z => absurd hkf z) (fun _ => hvv), jL, jT.tail.tail.tail, jV, p3, sxI jX (fun i2 j => up3_ne (fun z => hf9 z.1.symm))⟩ rfl rfl
theorem sn_aaload {l : Launch} {D : va_G} {A : Nat → Prop} {bS : Nat} {p : Program} {e : Env} {R : Room} {s : State} {mm : MethodId} {args : Array Value} {below : List Frame} {meth : Method} {cc : Code} {q : mI} {m pc : Nat} {H : Heap} {locs : List Loc} {cells slots : Nat} {Q : State → Prop} {sl : Array Slot} {ads : Nat → Nat} {cas : Nat → ClassId} {ls : lo} {st : List av} {I : IT} {C : CT} {n c z : Nat} {w : List Nat} {u : ou} {len a b d : Nat} {kc : Nat → lo → List av → IT → CT → Nat → Nat → Nat → Option ou} {ky : Nat → List av → List av → Option ou} {kr : Option av → Option ou} {kt : Nat → Nat → Nat → Option ou}  (B : Bx p R s mm args meth cc q) (J : Jw D A s m q.2.2.1 ads cas bS I C n H locs sl ls st) (X : Cx A D s) (hok : okE m q pc (.aaload, len, a, b, d) w = true) (h : stp (.aaload, len, a, b, d) pc ls st I C n c z kc ky kr kt none = some u) (K : Kn p l e R s mm args below meth cc D A m q.2.2.1 bS Q kc u ads cas n c z cells slots) : W p l e R s mm args below meth cc H locs cells slots Q (F0 mm pc sl (st.map (ev ads bS))) := by
  obtain ⟨hd0, hk⟩ := and2 hok
  have hd := of_decide_eq_true hd0
  obtain ⟨jP, jD, jK, jG, jL, jT, jV, jS, jX⟩ := J
  have hl := beqN hk
  subst hl
  have h8 : sI st (fun x r => sO r (fun f i r' => bif Nat.ble 30 (kd f) then (bif Nat.ble (kd f) 50 then (if 0 ≤ x ∧ x < Int.ofNat (lnN f) then kc (pc + 1) ls (vq (C f i x.toNat) :: r') I C n c z else none) else none) else none) none) none = some u := h
  obtain ⟨x, r, rfl, h7⟩ := sI_inv h8
  obtain ⟨f, i, r2, rfl, h6⟩ := sO_inv h7
  have hx : in32 x := jT.head
  obtain ⟨hk30, h5⟩ := bif_inv h6
  obtain ⟨hk50, h4⟩ := bif_inv h5
  have hk30 := bleN hk30
  have hk50 := bleN hk50
  obtain ⟨hin, h3⟩ := ite_inv h4
  replace h := h3
  obtain ⟨hv, hf9⟩ := vd_of jT.tail.head hk50
  have hK := cas_K X.2.1 jK hv (by omega) (aty_obj hk30)
  have he := wl_get (ads := ads) (cas := cas) (bS := bS) (I := I) (C := C) hv.1
  rw [wen_ref hv hk30] at he
  show W p l e R s mm args below meth cc H locs cells slots Q (F0 mm pc sl (.int (Int32.ofInt x) :: .ref (adr ads bS (f, i)) :: r2.map (ev ads bS)))
  rw [adr_of hf9]
  refine va_aldq B.1 B.2.1 hK jP (offA f i) 0 he rfl (vpin hx hin) hd ?_
  rw [i32_nat hx]
  have hlt : x.toNat < lnN f := by have := hin.1; have h3 := hin.2; simp at h3; omega
  rw [if_pos hlt]
  exact K _ _ _ _ _ _ _ _ ads cas H locs _ _ _ h (Nat.le_refl _) (fun _ _ => ⟨rfl, rfl⟩) ⟨jP, jD, jK, jG, jL, jT.tail.tail.cons (v := vq (C f i x.toNat)) (fun q9 z => jG.2.2.2.1 f i _ q9 hv hlt z), jV, jS, jX⟩ rfl rfl
theorem sn_aastore {l : Launch} {D : va_G} {A : Nat → Prop} {bS : Nat} {p : Program} {e : Env} {R : Room} {s : State} {mm : MethodId} {args : Array Value} {below : List Frame} {meth : Method} {cc : Code} {q : mI} {m pc : Nat} {H : Heap} {locs : List Loc} {cells slots : Nat} {Q : State → Prop} {sl : Array Slot} {ads : Nat → Nat} {cas : Nat → ClassId} {ls : lo} {st : List av} {I : IT} {C : CT} {n c z : Nat} {w : List Nat} {u : ou} {len a b d : Nat} {kc : Nat → lo → List av → IT → CT → Nat → Nat → Nat → Option ou} {ky : Nat → List av → List av → Option ou} {kr : Option av → Option ou} {kt : Nat → Nat → Nat → Option ou}  (B : Bx p R s mm args meth cc q) (J : Jw D A s m q.2.2.1 ads cas bS I C n H locs sl ls st) (X : Cx A D s) (hok : okE m q pc (.aastore, len, a, b, d) w = true) (h : stp (.aastore, len, a, b, d) pc ls st I C n c z kc ky kr kt none = some u) (K : Kn p l e R s mm args below meth cc D A m q.2.2.1 bS Q kc u ads cas n c z cells slots) : W p l e R s mm args below meth cc H locs cells slots Q (F0 mm pc sl (st.map (ev ads bS))) := by
  obtain ⟨hd0, hk⟩ := and2 hok
  have hd := of_decide_eq_true hd0
  obtain ⟨jP, jD, jK, jG, jL, jT, jV, jS, jX⟩ := J
  have hl := beqN hk
  subst hl
  have h8 : sO st (fun g j r => sI r (fun x r1 => sO r1 (fun f i r' => bif Nat.beq (kd f) (30 + kd g) then (bif Nat.ble (kd g) 10 then (if 0 ≤ x ∧ x < Int.ofNat (lnN f) then kc (pc + 1) ls r' I (up3 C f i x.toNat (some (g, j))) n c z else none) else none) else none) none) none) none = some u := h
  obtain ⟨g, j, r, rfl, h7⟩ := sO_inv h8
  obtain ⟨x, r2, rfl, h6⟩ := sI_inv h7
  obtain ⟨f, i, r3, rfl, h5⟩ := sO_inv h6
  have hx : in32 x := jT.tail.head
  obtain ⟨hkf, h4⟩ := bif_inv h5
  have hkf := beqN hkf
  obtain ⟨hg, h3⟩ := bif_inv h4
  have hg := bleN hg
  obtain ⟨hin, h2⟩ := ite_inv h3
  replace h := h2
  obtain ⟨hv, hf9⟩ := vd_of jT.tail.tail.head (by omega)
  obtain ⟨hvg, hg9⟩ := vd_of jT.head (by omega)
  have hty : aty (kd f) = .object (cN (kd g)) := by rw [aty_obj (by omega), hkf, Nat.add_sub_cancel_left]
  have hK := cas_K X.2.1 jK hv (by omega) hty
  have he := wl_get (ads := ads) (cas := cas) (bS := bS) (I := I) (C := C) hv.1
  rw [wen_ref hv (by omega)] at he
  have heg := wl_get (ads := ads) (cas := cas) (bS := bS) (I := I) (C := C) hvg.1
  rw [wen_obj hvg hg] at heg
  have hlt : x.toNat < lnN f := by have := hin.1; have h3 := hin.2; simp at h3; omega
  have hset := wl_set (ads := ads) (cas := cas) (bS := bS) (I2 := I) (C2 := up3 C f i x.toNat (some (g, j))) jG.1 hv (fun _ _ _ _ => rfl) (fun f2 i2 j z => up3_ne z) (wen_ref hv (by omega))
  show W p l e R s mm args below meth cc H locs cells slots Q (F0 mm pc sl (.ref (adr ads bS (g, j)) :: .int (Int32.ofInt x) :: .ref (adr ads bS (f, i)) :: r3.map (ev ads bS)))
  rw [adr_of hf9, adr_of hg9]
  refine va_astq B.1 B.2.1 hK jP jD jS (offA f i) 0 (offA g j) (kd g) he rfl heg (cls_at _ hg) (vpin hx hin) hd (fun H1 locs1 p1 p2 p3 => ?_)
  rw [i32_nat hx, ← adr_of (ads := ads) (bS := bS) (i := j) hg9, upd_r hlt, hset] at p1 p2
  exact K _ _ _ _ _ _ _ _ ads cas H1 locs1 _ _ _ h (Nat.le_refl _) (fun _ _ => ⟨rfl, rfl⟩) ⟨p1, p2, jK, jG.upC hv (fun q9 z => by cases z; exact Or.inl hvg), jL, jT.tail.tail.tail, jV, p3, jX⟩ rfl rfl
theorem sn_arraylength {l : Launch} {D : va_G} {A : Nat → Prop} {bS : Nat} {p : Program} {e : Env} {R : Room} {s : State} {mm : MethodId} {args : Array Value} {below : List Frame} {meth : Method} {cc : Code} {q : mI} {m pc : Nat} {H : Heap} {locs : List Loc} {cells slots : Nat} {Q : State → Prop} {sl : Array Slot} {ads : Nat → Nat} {cas : Nat → ClassId} {ls : lo} {st : List av} {I : IT} {C : CT} {n c z : Nat} {w : List Nat} {u : ou} {len a b d : Nat} {kc : Nat → lo → List av → IT → CT → Nat → Nat → Nat → Option ou} {ky : Nat → List av → List av → Option ou} {kr : Option av → Option ou} {kt : Nat → Nat → Nat → Option ou}  (B : Bx p R s mm args meth cc q) (J : Jw D A s m q.2.2.1 ads cas bS I C n H locs sl ls st) (X : Cx A D s) (hok : okE m q pc (.arraylength, len, a, b, d) w = true) (h : stp (.arraylength, len, a, b, d) pc ls st I C n c z kc ky kr kt none = some u) (K : Kn p l e R s mm args below meth cc D A m q.2.2.1 bS Q kc u ads cas n c z cells slots) : W p l e R s mm args below meth cc H locs cells slots Q (F0 mm pc sl (st.map (ev ads bS))) := by
  obtain ⟨hd0, hk⟩ := and2 hok
  have hd := of_decide_eq_true hd0
  obtain ⟨jP, jD, jK, jG, jL, jT, jV, jS, jX⟩ := J
  obtain ⟨hl, hlaw⟩ := and2 hk
  have hl := beqN hl
  subst hl
  have h8 : sO st (fun f _ r => bif Nat.beq f 99 then (bif Nat.beq d 1 then kc (pc + 1) ls (vi (I 99 1 0) :: r) I C n c z else none) else bif Nat.ble 20 (kd f) then (bif Nat.ble (kd f) 50 then kc (pc + 1) ls (vi (Int.ofNat (lnN f)) :: r) I C n c z else none) else none) none = some u := h
  obtain ⟨f, i, r, rfl, h7⟩ := sO_inv h8
  by_cases hf : Nat.beq f 99 = true
  · rw [hf] at h7
    obtain ⟨hd1, h6⟩ := bif_inv (show (bif Nat.beq d 1 then _ else none) = some u from h7)
    replace h := h6
    rw [hd1] at hlaw
    obtain ⟨L, xs, x1, x2, x3, x4, x5, x6⟩ := jX (beqN hlaw)
    have hf := beqN hf
    subst hf
    refine va_slen B.1 B.2.1 x1 x2 x3 jS hd ?_
    have e : Value.int (Int32.ofNat L) = ev ads bS (vi (I 99 1 0)) := by
      show Value.int _ = Value.int _
      rw [x5]; rfl
    rw [e]
    exact K _ _ _ _ _ _ _ _ ads cas H locs _ _ _ h (Nat.le_refl _) (fun _ _ => ⟨rfl, rfl⟩) ⟨jP, jD, jK, jG, jL, jT.tail.cons (v := vi (I 99 1 0)) jG.2.2.2.2.2.2, jV, jS, jX⟩ rfl rfl
  · rw [bfalse hf] at h7
    obtain ⟨hk20, h6⟩ := bif_inv (show (bif Nat.ble 20 (kd f) then _ else none) = some u from h7)
    obtain ⟨hk50, h5⟩ := bif_inv h6
    replace h := h5
    have hk20 := bleN hk20
    have hk50 := bleN hk50
    obtain ⟨hv, hf9⟩ := vd_of jT.head hk50
    have hkk := (id_kd _ (vd_211 hv jG.1)).1
    rw [hv.2] at hkk
    have he := wl_get (ads := ads) (cas := cas) (bS := bS) (I := I) (C := C) hv.1
    have hK := cas_K X.2.1 jK hv hk20 rfl
    have hex : ∃ x9 : vp_A, wen ads cas bS I C (offA f i) = .inl (cas (offA f i), x9) ∧ x9.1 = lnN f := by
      by_cases g30 : 30 ≤ kd f
      · exact ⟨_, wen_ref hv g30, rfl⟩
      · by_cases g22 : kd f = 22
        · exact ⟨_, wen_long hv g22, rfl⟩
        · have g3 : kd f = 20 ∨ kd f = 21 := by
            have hkk : (Nat.ble (kd f) 10 || (Nat.ble 20 (kd f) && Nat.ble (kd f) 22) || (Nat.ble 30 (kd f) && Nat.ble (kd f) 41)) = true := hkk
            simp only [Bool.or_eq_true, Bool.and_eq_true, Nat.ble_eq] at hkk
            omega
          exact ⟨_, wen_int hv g3, rfl⟩
    obtain ⟨x9, e1, e2⟩ := hex
    rw [e1] at he
    have hln : ∀ k, k < 211 → lnN (idOf k).1 < 1000 := by decide +kernel
    have hln := hln _ (vd_211 hv jG.1)
    rw [hv.2] at hln
    have hln : lnN f < 1000 := hln
    show W p l e R s mm args below meth cc H locs cells slots Q (F0 mm pc sl (.ref (adr ads bS (f, i)) :: r.map (ev ads bS)))
    rw [adr_of hf9]
    refine va_alen B.1 B.2.1 hK jP (offA f i) 0 he rfl (v := Int32.ofInt (Int.ofNat (lnN f))) (by rw [e2]; rfl) hd ?_
    exact K _ _ _ _ _ _ _ _ ads cas H locs _ _ _ h (Nat.le_refl _) (fun _ _ => ⟨rfl, rfl⟩) ⟨jP, jD, jK, jG, jL, jT.tail.cons (v := vi (Int.ofNat (lnN f))) ⟨by simp only [Int.ofNat_eq_natCast]; omega, by simp only [Int.ofNat_eq_natCast]; omega⟩, jV, jS, jX⟩ rfl rfl
