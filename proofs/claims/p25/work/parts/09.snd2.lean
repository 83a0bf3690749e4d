/-! The step, second part: null tests, switches, fields, rows of numbers and of references, what is made. -/
theorem cls_at : ∀ a : Nat, a ≤ 10 → vwCl[a]? = some (cN a, cT a, cM a)
  | 0, _ => rfl
  | 1, _ => rfl
  | 2, _ => rfl
  | 3, _ => rfl
  | 4, _ => rfl
  | 5, _ => rfl
  | 6, _ => rfl
  | 7, _ => rfl
  | 8, _ => rfl
  | 9, _ => rfl
  | 10, _ => rfl
  | k + 11, h => absurd h (by omega)
def cY : Nat → Nat → FieldType := fun a => match a with
  | 0 => tyX0
  | 1 => tyX1
  | 2 => tyX2
  | 3 => tyX3
  | 4 => tyX4
  | 5 => tyX5
  | 6 => tyX6
  | 7 => tyX7
  | 8 => tyX8
  | 9 => tyX9
  | 10 => tyX10
  | _ => fun _ => .int
theorem cY_ok : ∀ a : Nat, a ≤ 10 → ∀ k, k < cM a → parseFieldDescriptor (cT a k).2.2.1 = some (cY a k)
  | 0, _ => tyX0_ok
  | 1, _ => tyX1_ok
  | 2, _ => tyX2_ok
  | 3, _ => tyX3_ok
  | 4, _ => tyX4_ok
  | 5, _ => tyX5_ok
  | 6, _ => tyX6_ok
  | 7, _ => tyX7_ok
  | 8, _ => tyX8_ok
  | 9, _ => tyX9_ok
  | 10, _ => tyX10_ok
  | k + 11, h => absurd h (by omega)
theorem cN_nm : ∀ a : Nat, a ≤ 10 → ∀ i, i < cM a → ∀ j, j < cM a → i ≠ j → (cT a i).2.1 ≠ (cT a j).2.1
  | 0, _ => nmX0
  | 1, _ => nmX1
  | 2, _ => nmX2
  | 3, _ => nmX3
  | 4, _ => nmX4
  | 5, _ => nmX5
  | 6, _ => nmX6
  | 7, _ => nmX7
  | 8, _ => nmX8
  | 9, _ => nmX9
  | 10, _ => nmX10
  | k + 11, h => absurd h (by omega)
def lyp (a j : Nat) : Nat := (fun x => bif Nat.ble 500 x then (bif Nat.ble 702 x then (bif Nat.ble 902 x then (bif Nat.ble 1001 x then (bif Nat.ble 1003 x then (bif Nat.ble 1004 x then (297) else (295)) else (bif Nat.ble 1002 x then (293) else (291))) else (bif Nat.ble 903 x then (bif Nat.ble 1000 x then (289) else (90)) else (88))) else (bif Nat.ble 802 x then (bif Nat.ble 900 x then (bif Nat.ble 901 x then (86) else (84)) else (bif Nat.ble 803 x then (209) else (207))) else (bif Nat.ble 800 x then (bif Nat.ble 801 x then (205) else (203)) else (60)))) else (bif Nat.ble 604 x then (bif Nat.ble 607 x then (bif Nat.ble 700 x then (bif Nat.ble 701 x then (58) else (56)) else (bif Nat.ble 608 x then (266) else (264))) else (bif Nat.ble 605 x then (bif Nat.ble 606 x then (262) else (260)) else (258))) else (bif Nat.ble 601 x then (bif Nat.ble 602 x then (bif Nat.ble 603 x then (256) else (254)) else (252)) else (bif Nat.ble 501 x then (bif Nat.ble 600 x then (250) else (231)) else (229))))) else (bif Nat.ble 300 x then (bif Nat.ble 402 x then (bif Nat.ble 405 x then (bif Nat.ble 407 x then (bif Nat.ble 408 x then (135) else (133)) else (bif Nat.ble 406 x then (131) else (129))) else (bif Nat.ble 403 x then (bif Nat.ble 404 x then (127) else (125)) else (123))) else (bif Nat.ble 303 x then (bif Nat.ble 400 x then (bif Nat.ble 401 x then (121) else (119)) else (281)) else (bif Nat.ble 301 x then (bif Nat.ble 302 x then (279) else (277)) else (275)))) else (bif Nat.ble 104 x then (bif Nat.ble 107 x then (bif Nat.ble 201 x then (bif Nat.ble 202 x then (160) else (158)) else (bif Nat.ble 200 x then (156) else (194))) else (bif Nat.ble 105 x then (bif Nat.ble 106 x then (192) else (190)) else (188))) else (bif Nat.ble 101 x then (bif Nat.ble 102 x then (bif Nat.ble 103 x then (186) else (184)) else (182)) else (bif Nat.ble 1 x then (bif Nat.ble 100 x then (180) else (105)) else (103)))))) (a * 100 + j)
theorem lyp_0 : (List.range (cM 0)).all (fun k => isW (lyp 0 k) (u_lay (cN 0) (cT 0) k)) = true := by decide +kernel
theorem lyp_1 : (List.range (cM 1)).all (fun k => isW (lyp 1 k) (u_lay (cN 1) (cT 1) k)) = true := by decide +kernel
theorem lyp_2 : (List.range (cM 2)).all (fun k => isW (lyp 2 k) (u_lay (cN 2) (cT 2) k)) = true := by decide +kernel
theorem lyp_3 : (List.range (cM 3)).all (fun k => isW (lyp 3 k) (u_lay (cN 3) (cT 3) k)) = true := by decide +kernel
theorem lyp_4 : (List.range (cM 4)).all (fun k => isW (lyp 4 k) (u_lay (cN 4) (cT 4) k)) = true := by decide +kernel
theorem lyp_5 : (List.range (cM 5)).all (fun k => isW (lyp 5 k) (u_lay (cN 5) (cT 5) k)) = true := by decide +kernel
theorem lyp_6 : (List.range (cM 6)).all (fun k => isW (lyp 6 k) (u_lay (cN 6) (cT 6) k)) = true := by decide +kernel
theorem lyp_7 : (List.range (cM 7)).all (fun k => isW (lyp 7 k) (u_lay (cN 7) (cT 7) k)) = true := by decide +kernel
theorem lyp_8 : (List.range (cM 8)).all (fun k => isW (lyp 8 k) (u_lay (cN 8) (cT 8) k)) = true := by decide +kernel
theorem lyp_9 : (List.range (cM 9)).all (fun k => isW (lyp 9 k) (u_lay (cN 9) (cT 9) k)) = true := by decide +kernel
theorem lyp_10 : (List.range (cM 10)).all (fun k => isW (lyp 10 k) (u_lay (cN 10) (cT 10) k)) = true := by decide +kernel
theorem lyp_ok : ∀ a : Nat, a ≤ 10 → (List.range (cM a)).all (fun k => isW (lyp a k) (u_lay (cN a) (cT a) k)) = true
  | 0, _ => lyp_0
  | 1, _ => lyp_1
  | 2, _ => lyp_2
  | 3, _ => lyp_3
  | 4, _ => lyp_4
  | 5, _ => lyp_5
  | 6, _ => lyp_6
  | 7, _ => lyp_7
  | 8, _ => lyp_8
  | 9, _ => lyp_9
  | 10, _ => lyp_10
  | k + 11, h => absurd h (by omega)
theorem in_ws {a : Nat} (ha : a ≤ 10) : ∀ w ∈ u_ws (cN a) (cT a) (cM a), w ∈ TW := by
  intro w hw
  obtain ⟨k, hk, rfl⟩ := List.mem_map.mp hw
  exact isW_mem (List.all_eq_true.mp (lyp_ok a ha) k hk)
theorem bfalse {b : Bool} (h : ¬ b = true) : b = false := by
  cases b
  · rfl
  · exact absurd rfl h
theorem cT_decl9 : ∀ a, a < 11 → ∀ j, j < cM a → (cT a j).1 = cN a := by decide +kernel
theorem cT_decl (a : Nat) (ha : a ≤ 10) (j : Nat) (hj : j < cM a) : (cT a j).1 = cN a := cT_decl9 a (by omega) j hj
theorem cDef : ∀ a, a < 11 → ∀ j, j < cM a → defaultValue (cY a j) = bif frf a j then Value.null else Value.int 0 := by decide +kernel
theorem vd_of {n f i : Nat} (g : Gv n (vr f i)) (hk : kd f ≤ 50) : vd n (f, i) ∧ ¬ f = 99 := by
  have h99 : kd 99 = 99 := by decide +kernel
  have hf : ¬ f = 99 := fun z => by rw [z, h99] at hk; omega
  rcases g (f, i) rfl with h | h
  · exact ⟨h, hf⟩
  · cases h; exact absurd rfl hf
theorem vd_211 {n f i : Nat} (hv : vd n (f, i)) (hn : n ≤ 211) : offA f i < 211 := Nat.lt_of_lt_of_le hv.1 hn
theorem vd_n99 {n f i : Nat} (hv : vd n (f, i)) (hn : n ≤ 211) : ¬ f = 99 := by
  have h := (id_kd _ (vd_211 hv hn)).2
  rw [hv.2] at h
  exact h
theorem adr_of {ads : Nat → Nat} {bS f i : Nat} (hf : ¬ f = 99) : adr ads bS (f, i) = ads (offA f i) := if_neg hf
theorem wen_obj {ads : Nat → Nat} {cas : Nat → ClassId} {bS : Nat} {I : IT} {C : CT} {n f i : Nat} (hv : vd n (f, i)) (hk : kd f ≤ 10) : wen ads cas bS I C (offA f i) = .inr (kd f, (List.range (lnN f)).map (fsv ads bS I C f i)) := by
  have e : idOf (offA f i) = (f, i) := hv.2
  unfold wen
  rw [e, show Nat.ble (kd (f, i).1) 10 = true from Nat.ble_eq.mpr hk]
  rfl
theorem wen_int {ads : Nat → Nat} {cas : Nat → ClassId} {bS : Nat} {I : IT} {C : CT} {n f i : Nat} (hv : vd n (f, i)) (hk : kd f = 20 ∨ kd f = 21) : wen ads cas bS I C (offA f i) = .inl (cas (offA f i), lnN f, .inl (fun j => Int32.ofInt (I f i j))) := by
  have e : idOf (offA f i) = (f, i) := hv.2
  unfold wen
  rw [e]
  show (bif Nat.ble (kd f) 10 then _ else bif Nat.ble 30 (kd f) then _ else bif Nat.beq (kd f) 22 then _ else _) = _
  rcases hk with hk | hk <;> rw [hk] <;> rfl
theorem wen_long {ads : Nat → Nat} {cas : Nat → ClassId} {bS : Nat} {I : IT} {C : CT} {n f i : Nat} (hv : vd n (f, i)) (hk : kd f = 22) : wen ads cas bS I C (offA f i) = .inl (cas (offA f i), lnN f, .inr (.inl (fun j => Int64.ofInt (I f i j)))) := by
  have e : idOf (offA f i) = (f, i) := hv.2
  unfold wen
  rw [e]
  show (bif Nat.ble (kd f) 10 then _ else bif Nat.ble 30 (kd f) then _ else bif Nat.beq (kd f) 22 then _ else _) = _
  rw [hk]; rfl
theorem wen_ref {ads : Nat → Nat} {cas : Nat → ClassId} {bS : Nat} {I : IT} {C : CT} {n f i : Nat} (hv : vd n (f, i)) (hk : 30 ≤ kd f) : wen ads cas bS I C (offA f i) = .inl (cas (offA f i), lnN f, .inr (.inr (.inr (.inr (fun j => if j < lnN f then (C f i j).map (adr ads bS) else none))))) := by
  have e : idOf (offA f i) = (f, i) := hv.2
  unfold wen
  rw [e]
  show (bif Nat.ble (kd f) 10 then _ else bif Nat.ble 30 (kd f) then _ else bif Nat.beq (kd f) 22 then _ else _) = _
  rw [show Nat.ble (kd f) 10 = false from by
    cases h : Nat.ble (kd f) 10
    · rfl
    · have := Nat.le_of_ble_eq_true h; omega, show Nat.ble 30 (kd f) = true from Nat.ble_eq.mpr hk]
  rfl
theorem ln_cM {n f i : Nat} (hv : vd n (f, i)) (hn : n ≤ 211) (hk : kd f ≤ 10) : lnN f = cM (kd f) := by
  have h := id_cls _ (vd_211 hv hn)
  rw [hv.2] at h
  have h2 := h (Nat.ble_eq.mpr hk)
  rw [cls_at _ hk] at h2
  exact (Option.some.inj h2).symm
theorem fsl_get {ads : Nat → Nat} {bS : Nat} {I : IT} {C : CT} {f i b N : Nat} (hb : b < N) : ((List.range N).map (fsv ads bS I C f i))[b]? = some (fsv ads bS I C f i b) := by simp [hb]
theorem fsl_set {ads : Nat → Nat} {bS : Nat} {I I2 : IT} {C C2 : CT} {f i b N : Nat} {v : Value} (h1 : ∀ j, ¬ j = b → I2 f i j = I f i j) (h2 : ∀ j, ¬ j = b → C2 f i j = C f i j) (hv : fsv ads bS I2 C2 f i b = v) : ((List.range N).map (fsv ads bS I C f i)).set b v = (List.range N).map (fsv ads bS I2 C2 f i) := by
  apply List.ext_getElem?
  intro k
  rw [List.getElem?_set]
  by_cases hk : b = k
  · subst hk
    by_cases hb : b < N
    · simp [hb, hv]
    · simp [hb]
  · rw [if_neg hk]
    by_cases hb : k < N
    · simp only [List.getElem?_map, List.getElem?_range hb, Option.map_some]
      congr 1
      unfold fsv
      rw [h1 k (fun z => hk z.symm), h2 k (fun z => hk z.symm)]
    · simp [hb]
theorem Gs.upI {n : Nat} {I : IT} {C : CT} {f i b : Nat} {x : Int} (G : Gs n I C) (hv : vd n (f, i)) (h32 : ¬ kd f = 22 → in32 x) (h64 : kd f = 22 → in64 x) : Gs n (up3 I f i b x) C := by
  obtain ⟨g1, g2, g3, g4, g5, g6, g7⟩ := G
  have hf := vd_n99 hv g1
  refine ⟨g1, fun f2 i2 j hv2 hj hk => ?_, fun f2 i2 j hv2 hj hk => ?_, g4, fun k hk hk2 j => ⟨?_, (g5 k hk hk2 j).2⟩, fun j => ?_, ?_⟩
  · unfold up3
    split
    · next e => exact h32 (by rw [← e.1]; exact hk)
    · exact g2 f2 i2 j hv2 hj hk
  · unfold up3
    split
    · next e => exact h64 (by rw [← e.1]; exact hk)
    · exact g3 f2 i2 j hv2 hj hk
  · rw [up3_ne]
    · exact (g5 k hk hk2 j).1
    · intro e
      have h1 := id_off k hk2
      rw [e.1, e.2] at h1
      have h2 : offA f i < n := hv.1
      omega
  · rw [up3_ne (fun e => hf e.1.symm)]; exact g6 j
  · rw [up3_ne (fun e => hf e.1.symm)]; exact g7
theorem Gs.upC {n : Nat} {I : IT} {C : CT} {f i b : Nat} {r : Option (Nat × Nat)} (G : Gs n I C) (hv : vd n (f, i)) (hr : ∀ q, r = some q → gq n q) : Gs n I (up3 C f i b r) := by
  obtain ⟨g1, g2, g3, g4, g5, g6, g7⟩ := G
  refine ⟨g1, g2, g3, fun f2 i2 j q hv2 hj hq => ?_, fun k hk hk2 j => ⟨(g5 k hk hk2 j).1, fun hj => ?_⟩, g6, g7⟩
  · unfold up3 at hq
    split at hq
    · exact hr q hq
    · exact g4 f2 i2 j q hv2 hj hq
  · rw [up3_ne]
    · exact (g5 k hk hk2 j).2 hj
    · intro e
      have h1 := id_off k hk2
      rw [e.1, e.2] at h1
      have h2 : offA f i < n := hv.1
      omega
theorem frf_b {b c : Bool} (h : (b == c) = true) : b = c := by simpa using h
theorem nul_inv {α : Type} {st : List av} {k1 k2 : List av → Option α} {u : α} (h : (match st with
      | Sum.inr (Sum.inr none) :: r => k1 r
      | Sum.inr (Sum.inr (some _)) :: r => k2 r
      | _ => none) = some u) : (∃ r, st = vq none :: r ∧ k1 r = some u) ∨ ∃ q r, st = vq (some q) :: r ∧ k2 r = some u := by
  split at h
  · exact Or.inl ⟨_, rfl, h⟩
  · exact Or.inr ⟨_, _, rfl, h⟩
  · cases h
theorem sn_ifnull {l : Launch} {D : va_G} {A : Nat → Prop} {bS : Nat} {p : Program} {e : Env} {R : Room} {s : State} {mm : MethodId} {args : Array Value} {below : List Frame} {meth : Method} {cc : Code} {q : mI} {m pc : Nat} {H : Heap} {locs : List Loc} {cells slots : Nat} {Q : State → Prop} {sl : Array Slot} {ads : Nat → Nat} {cas : Nat → ClassId} {ls : lo} {st : List av} {I : IT} {C : CT} {n c z : Nat} {w : List Nat} {u : ou} {len a b d : Nat} {kc : Nat → lo → List av → IT → CT → Nat → Nat → Nat → Option ou} {ky : Nat → List av → List av → Option ou} {kr : Option av → Option ou} {kt : Nat → Nat → Nat → Option ou} {o : Int} (B : Bx p R s mm args meth cc q) (J : Jw D A s m q.2.2.1 ads cas bS I C n H locs sl ls st) (hok : okE m q pc (.ifnull o, len, a, b, d) w = true) (h : stp (.ifnull o, len, a, b, d) pc ls st I C n c z kc ky kr kt none = some u) (K : Kn p l e R s mm args below meth cc D A m q.2.2.1 bS Q kc u ads cas n c z cells slots) : W p l e R s mm args below meth cc H locs cells slots Q (F0 mm pc sl (st.map (ev ads bS))) := by
  obtain ⟨hd0, hk⟩ := and2 hok
  have hd := of_decide_eq_true hd0
  obtain ⟨jP, jD, jK, jG, jL, jT, jV, jS, jX⟩ := J
  obtain ⟨hl, ht⟩ := and2 hk
  have hl := beqN hl
  have ht := of_decide_eq_true ht
  subst hl
  rcases nul_inv (k1 := fun r => kc a ls r I C n c z) (k2 := fun r => kc (pc + 3) ls r I C n c z) h with ⟨r, rfl, h9⟩ | ⟨x, r, rfl, h9⟩
  · replace h := h9
    refine lv_ifnullN B.1 B.2.1 hd ht ?_
    exact K _ _ _ _ _ _ _ _ ads cas H locs _ _ _ h (Nat.le_refl _) (fun _ _ => ⟨rfl, rfl⟩) ⟨jP, jD, jK, jG, jL, jT.tail, jV, jS, jX⟩ rfl rfl
  · replace h := h9
    refine lv_ifnull B.1 B.2.1 hd ?_
    exact K _ _ _ _ _ _ _ _ ads cas H locs _ _ _ h (Nat.le_refl _) (fun _ _ => ⟨rfl, rfl⟩) ⟨jP, jD, jK, jG, jL, jT.tail, jV, jS, jX⟩ rfl rfl
theorem sn_ifnonnull {l : Launch} {D : va_G} {A : Nat → Prop} {bS : Nat} {p : Program} {e : Env} {R : Room} {s : State} {mm : MethodId} {args : Array Value} {below : List Frame} {meth : Method} {cc : Code} {q : mI} {m pc : Nat} {H : Heap} {locs : List Loc} {cells slots : Nat} {Q : State → Prop} {sl : Array Slot} {ads : Nat → Nat} {cas : Nat → ClassId} {ls : lo} {st : List av} {I : IT} {C : CT} {n c z : Nat} {w : List Nat} {u : ou} {len a b d : Nat} {kc : Nat → lo → List av → IT → CT → Nat → Nat → Nat → Option ou} {ky : Nat → List av → List av → Option ou} {kr : Option av → Option ou} {kt : Nat → Nat → Nat → Option ou} {o : Int} (B : Bx p R s mm args meth cc q) (J : Jw D A s m q.2.2.1 ads cas bS I C n H locs sl ls st) (hok : okE m q pc (.ifnonnull o, len, a, b, d) w = true) (h : stp (.ifnonnull o, len, a, b, d) pc ls st I C n c z kc ky kr kt none = some u) (K : Kn p l e R s mm args below meth cc D A m q.2.2.1 bS Q kc u ads cas n c z cells slots) : W p l e R s mm args below meth cc H locs cells slots Q (F0 mm pc sl (st.map (ev ads bS))) := by
  obtain ⟨hd0, hk⟩ := and2 hok
  have hd := of_decide_eq_true hd0
  obtain ⟨jP, jD, jK, jG, jL, jT, jV, jS, jX⟩ := J
  obtain ⟨hl, ht⟩ := and2 hk
  have hl := beqN hl
  have ht := of_decide_eq_true ht
  subst hl
  rcases nul_inv (k1 := fun r => kc (pc + 3) ls r I C n c z) (k2 := fun r => kc a ls r I C n c z) h with ⟨r, rfl, h9⟩ | ⟨x, r, rfl, h9⟩
  · replace h := h9
    refine lv_ifnonnullN B.1 B.2.1 hd ?_
    exact K _ _ _ _ _ _ _ _ ads cas H locs _ _ _ h (Nat.le_refl _) (fun _ _ => ⟨rfl, rfl⟩) ⟨jP, jD, jK, jG, jL, jT.tail, jV, jS, jX⟩ rfl rfl
  · replace h := h9
    refine lv_ifnonnull B.1 B.2.1 hd ht ?_
    exact K _ _ _ _ _ _ _ _ ads cas H locs _ _ _ h (Nat.le_refl _) (fun _ _ => ⟨rfl, rfl⟩) ⟨jP, jD, jK, jG, jL, jT.tail, jV, jS, jX⟩ rfl rfl
theorem swt_inv {α : Type} {pc : Nat} {x dflt : Int} {k : Nat → Option α} {u : α} : ∀ (os : List Int) (low : Int), swt pc x k dflt low os = some u → (∃ (j : Nat) (o : Int), os[j]? = some o ∧ x = low + (j : Int) ∧ k ((pc : Int) + o).toNat = some u) ∨ ((x < low ∨ low + (os.length : Int) ≤ x) ∧ k ((pc : Int) + dflt).toNat = some u)
  | [], low, h => Or.inr ⟨by simp; omega, h⟩
  | o :: os, low, h => by
    unfold swt at h
    by_cases hx : x = low
    · rw [if_pos hx] at h
      exact Or.inl ⟨0, o, rfl, by omega, h⟩
    · rw [if_neg hx] at h
      rcases swt_inv os (low + 1) h with ⟨j, o2, h1, h2, h3⟩ | ⟨h1, h2⟩
      · exact Or.inl ⟨j + 1, o2, by simpa using h1, by omega, h3⟩
      · refine Or.inr ⟨?_, h2⟩
        simp only [List.length_cons]
        omega
theorem swl_inv {α : Type} {pc : Nat} {x dflt : Int} {k : Nat → Option α} {u : α} : ∀ (os : List (Int × Int)), swl pc x k dflt os = some u → k ((pc : Int) + Op.lookupswitch.offset os dflt x).toNat = some u ∧ (Op.lookupswitch.offset os dflt x = dflt ∨ ∃ o ∈ os, Op.lookupswitch.offset os dflt x = o.2)
  | [], h => ⟨h, Or.inl rfl⟩
  | (a, o) :: os, h => by
    unfold swl at h
    rw [Op.lookupswitch.offset_cons]
    by_cases hx : x = a
    · rw [if_pos hx] at h
      rw [if_pos hx.symm]
      exact ⟨h, Or.inr ⟨(a, o), List.mem_cons_self, rfl⟩⟩
    · rw [if_neg hx] at h
      rw [if_neg (fun z => hx z.symm)]
      obtain ⟨h1, h2⟩ := swl_inv os h
      exact ⟨h1, h2.imp id (fun ⟨o2, g1, g2⟩ => ⟨o2, List.mem_cons_of_mem _ g1, g2⟩)⟩
theorem sn_tableswitch {l : Launch} {D : va_G} {A : Nat → Prop} {bS : Nat} {p : Program} {e : Env} {R : Room} {s : State} {mm : MethodId} {args : Array Value} {below : List Frame} {meth : Method} {cc : Code} {q : mI} {m pc : Nat} {H : Heap} {locs : List Loc} {cells slots : Nat} {Q : State → Prop} {sl : Array Slot} {ads : Nat → Nat} {cas : Nat → ClassId} {ls : lo} {st : List av} {I : IT} {C : CT} {n c z : Nat} {w : List Nat} {u : ou} {len a b d : Nat} {kc : Nat → lo → List av → IT → CT → Nat → Nat → Nat → Option ou} {ky : Nat → List av → List av → Option ou} {kr : Option av → Option ou} {kt : Nat → Nat → Nat → Option ou} {dflt low hi : Int} {offs : Array Int} (B : Bx p R s mm args meth cc q) (J : Jw D A s m q.2.2.1 ads cas bS I C n H locs sl ls st) (hok : okE m q pc (.tableswitch dflt low hi offs, len, a, b, d) w = true) (h : stp (.tableswitch dflt low hi offs, len, a, b, d) pc ls st I C n c z kc ky kr kt none = some u) (K : Kn p l e R s mm args below meth cc D A m q.2.2.1 bS Q kc u ads cas n c z cells slots) : W p l e R s mm args below meth cc H locs cells slots Q (F0 mm pc sl (st.map (ev ads bS))) := by
  obtain ⟨hd0, hk⟩ := and2 hok
  have hd := of_decide_eq_true hd0
  obtain ⟨jP, jD, jK, jG, jL, jT, jV, jS, jX⟩ := J
  obtain ⟨hl, ht⟩ := and2 hk
  obtain ⟨hl, ho⟩ := and2 hl
  have hl := of_decide_eq_true hl
  have ht := of_decide_eq_true ht
  obtain ⟨x, r, rfl, h9⟩ := sI_inv h
  have hx : in32 x := jT.head
  rcases swt_inv _ _ h9 with ⟨j, o, h1, h2, h3⟩ | ⟨h1, h3⟩
  · replace h := h3
    have hlen := (List.getElem?_eq_some_iff.mp h1).1
    have h0 := of_decide_eq_true (List.all_eq_true.mp ho o (List.mem_of_getElem? h1))
    have e1 : offs[((Int32.ofInt x).toInt - low).toNat]? = some o := by
      rw [i32_toInt hx, show (x - low).toNat = j by omega, ← Array.getElem?_toList]
      exact h1
    refine lv_tableIn B.1 B.2.1 hd (by rw [i32_toInt hx]; omega) (by rw [i32_toInt hx]; omega) e1 (tgt := ((pc : Int) + o).toNat) (by omega) ?_
    exact K _ _ _ _ _ _ _ _ ads cas H locs _ _ _ h (Nat.le_refl _) (fun _ _ => ⟨rfl, rfl⟩) ⟨jP, jD, jK, jG, jL, jT.tail, jV, jS, jX⟩ rfl rfl
  · replace h := h3
    refine lv_tableOut B.1 B.2.1 hd (by rw [i32_toInt hx]; omega) (tgt := ((pc : Int) + dflt).toNat) (by omega) ?_
    exact K _ _ _ _ _ _ _ _ ads cas H locs _ _ _ h (Nat.le_refl _) (fun _ _ => ⟨rfl, rfl⟩) ⟨jP, jD, jK, jG, jL, jT.tail, jV, jS, jX⟩ rfl rfl
theorem sn_lookupswitch {l : Launch} {D : va_G} {A : Nat → Prop} {bS : Nat} {p : Program} {e : Env} {R : Room} {s : State} {mm : MethodId} {args : Array Value} {below : List Frame} {meth : Method} {cc : Code} {q : mI} {m pc : Nat} {H : Heap} {locs : List Loc} {cells slots : Nat} {Q : State → Prop} {sl : Array Slot} {ads : Nat → Nat} {cas : Nat → ClassId} {ls : lo} {st : List av} {I : IT} {C : CT} {n c z : Nat} {w : List Nat} {u : ou} {len a b d : Nat} {kc : Nat → lo → List av → IT → CT → Nat → Nat → Nat → Option ou} {ky : Nat → List av → List av → Option ou} {kr : Option av → Option ou} {kt : Nat → Nat → Nat → Option ou} {dflt : Int} {prs : Array (Int × Int)} (B : Bx p R s mm args meth cc q) (J : Jw D A s m q.2.2.1 ads cas bS I C n H locs sl ls st) (hok : okE m q pc (.lookupswitch dflt prs, len, a, b, d) w = true) (h : stp (.lookupswitch dflt prs, len, a, b, d) pc ls st I C n c z kc ky kr kt none = some u) (K : Kn p l e R s mm args below meth cc D A m q.2.2.1 bS Q kc u ads cas n c z cells slots) : W p l e R s mm args below meth cc H locs cells slots Q (F0 mm pc sl (st.map (ev ads bS))) := by
  obtain ⟨hd0, hk⟩ := and2 hok
  have hd := of_decide_eq_true hd0
  obtain ⟨jP, jD, jK, jG, jL, jT, jV, jS, jX⟩ := J
  obtain ⟨hl, ht⟩ := and2 hk
  obtain ⟨hl, ho⟩ := and2 hl
  have hl := of_decide_eq_true hl
  obtain ⟨x, r, rfl, h9⟩ := sI_inv h
  have hx : in32 x := jT.head
  obtain ⟨h3, h4⟩ := swl_inv _ h9
  replace h := h3
  have h0 : 0 ≤ (pc : Int) + Op.lookupswitch.offset prs.toList dflt x := by
    rcases h4 with h4 | ⟨o, g1, g2⟩
    · rw [h4]; exact hl
    · rw [g2]; exact of_decide_eq_true (List.all_eq_true.mp ho o g1)
  refine lv_lookup B.1 B.2.1 hd ht (off := Op.lookupswitch.offset prs.toList dflt x) (by rw [i32_toInt hx]) (tgt := ((pc : Int) + Op.lookupswitch.offset prs.toList dflt x).toNat) (by omega) ?_
  exact K _ _ _ _ _ _ _ _ ads cas H locs _ _ _ h (Nat.le_refl _) (fun _ _ => ⟨rfl, rfl⟩) ⟨jP, jD, jK, jG, jL, jT.tail, jV, jS, jX⟩ rfl rfl
theorem sn_getfield {l : Launch} {D : va_G} {A : Nat → Prop} {bS : Nat} {p : Program} {e : Env} {R : Room} {s : State} {mm : MethodId} {args : Array Value} {below : List Frame} {meth : Method} {cc : Code} {q : mI} {m pc : Nat} {H : Heap} {locs : List Loc} {cells slots : Nat} {Q : State → Prop} {sl : Array Slot} {ads : Nat → Nat} {cas : Nat → ClassId} {ls : lo} {st : List av} {I : IT} {C : CT} {n c z : Nat} {w : List Nat} {u : ou} {len a b d : Nat} {kc : Nat → lo → List av → IT → CT → Nat → Nat → Nat → Option ou} {ky : Nat → List av → List av → Option ou} {kr : Option av → Option ou} {kt : Nat → Nat → Nat → Option ou} {j : Nat} (B : Bx p R s mm args meth cc q) (J : Jw D A s m q.2.2.1 ads cas bS I C n H locs sl ls st) (X : Cx A D s) (hok : okE m q pc (.getfield j, len, a, b, d) w = true) (h : stp (.getfield j, len, a, b, d) pc ls st I C n c z kc ky kr kt none = some u) (K : Kn p l e R s mm args below meth cc D A m q.2.2.1 bS Q kc u ads cas n c z cells slots) : W p l e R s mm args below meth cc H locs cells slots Q (F0 mm pc sl (st.map (ev ads bS))) := by
  obtain ⟨hd0, hk⟩ := and2 hok
  have hd := of_decide_eq_true hd0
  obtain ⟨jP, jD, jK, jG, jL, jT, jV, jS, jX⟩ := J
  obtain ⟨hl, hfr⟩ := and2 hk
  obtain ⟨hl, hF⟩ := and2 hl
  obtain ⟨hF, hlk⟩ := and2 hF
  obtain ⟨ha, hbM⟩ := and2 hF
  have hl := beqN hl
  have ha := bleN ha
  have hbM := bleN hbM
  have hfr := frf_b hfr
  subst hl
  have h8 : sO st (fun f i r => bif Nat.beq (kd f) a then (bif Nat.beq d 2 then kc (pc + 3) ls (vq (C f i b) :: r) I C n c z else kc (pc + 3) ls (vi (I f i b) :: r) I C n c z) else none) none = some u := h
  obtain ⟨f, i, r, rfl, h7⟩ := sO_inv h8
  obtain ⟨hkf, h9⟩ := bif_inv h7
  have hkf := beqN hkf
  obtain ⟨hv, hf9⟩ := vd_of jT.head (by omega)
  subst hkf
  have hln := ln_cM hv jG.1 ha
  have hK : va_K D vwCl [] s := ⟨X.2.1, fun _ _ z => by simp at z⟩
  have he : (wl ads cas bS I C n)[offA f i]? = some (ads (offA f i), .inr (kd f, (List.range (lnN f)).map (fsv ads bS I C f i))) := by rw [wl_get hv.1, wen_obj hv ha]
  have hval : ((List.range (lnN f)).map (fsv ads bS I C f i))[b]? = some (fsv ads bS I C f i b) := fsl_get (by omega)
  have hgo : W p l e R s mm args below meth cc H locs cells slots Q (F0 mm (pc + 3) sl (fsv ads bS I C f i b :: r.map (ev ads bS))) := by
    by_cases hd2 : Nat.beq d 2 = true
    · rw [hd2] at h9
      replace h := h9
      have e : fsv ads bS I C f i b = ev ads bS (vq (C f i b)) := by
        unfold fsv
        rw [← hfr, hd2]; rfl
      rw [e]
      exact K _ _ _ _ _ _ _ _ ads cas H locs _ _ _ h (Nat.le_refl _) (fun _ _ => ⟨rfl, rfl⟩) ⟨jP, jD, jK, jG, jL, jT.tail.cons (v := vq (C f i b)) (fun q hq => jG.2.2.2.1 f i b q hv (by omega) hq), jV, jS, jX⟩ rfl rfl
    · have hd2 := bfalse hd2
      rw [hd2] at h9
      replace h := h9
      have e : fsv ads bS I C f i b = ev ads bS (vi (I f i b)) := by
        unfold fsv
        rw [← hfr, hd2]; rfl
      rw [e]
      exact K _ _ _ _ _ _ _ _ ads cas H locs _ _ _ h (Nat.le_refl _) (fun _ _ => ⟨rfl, rfl⟩) ⟨jP, jD, jK, jG, jL, jT.tail.cons (v := vi (I f i b)) (jG.2.1 f i b hv (by omega) (by omega)), jV, jS, jX⟩ rfl rfl
  show W p l e R s mm args below meth cc H locs cells slots Q (F0 mm pc sl (.ref (adr ads bS (f, i)) :: r.map (ev ads bS)))
  rw [adr_of hf9]
  by_cases hw : Nat.beq (gW w 0) 0 = true
  · rw [hw] at hlk
    exact va_get (T := cT (kd f)) (N := cM (kd f)) B.1 B.2.1 B.2.2.2.2.2.1 (in_ws ha) B.2.2.2.2.1 hK jP (offA f i) he (cls_at _ ha) b (by omega) (B.2.2.2.2.2.1 _ (isW_mem hlk)) (fun _ g => by rw [← cT_decl _ ha b (by omega)]; exact g) hval hd hgo
  · have hw := bfalse hw
    rw [hw] at hlk
    exact va_getN (T := cT (kd f)) (N := cM (kd f)) B.1 B.2.1 B.2.2.2.2.2.1 (in_ws ha) B.2.2.2.2.1 hK jP (offA f i) he (cls_at _ ha) b (by omega) (va_Nw.use rfl (X.1 _ (isN_mem hlk).1 (isN_mem hlk).2)) (fun _ g => by rw [← cT_decl _ ha b (by omega)]; exact g) hval hd hgo
