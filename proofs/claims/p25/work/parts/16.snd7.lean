/-! Calls; and every run of every method is a run of the JVM. -/
theorem okMp (m pc : Nat) (e : ent) (h : mkd m pc = some e) : ∀ j, ¬ e.1 = .putfield j := by
  rcases (mkd_inv h).2 with ⟨rfl, rfl, rfl⟩ | ⟨rfl, rfl, rfl⟩ | ⟨rfl, rfl, rfl⟩ | ⟨rfl, rfl, rfl⟩ | ⟨rfl, rfl, rfl⟩ <;> exact fun j g => by cases g
theorem okMn (m pc : Nat) (e : ent) (h : mkd m pc = some e) : nm m = false := (mkd_inv h).1
theorem aft_J {D : va_G} {A : Nat → Prop} {bS : Nat} {s : State} {q : mI} {m : Nat} {H : Heap} {locs : List Loc} {sl : Array Slot} {ads : Nat → Nat} {cas : Nat → ClassId} {ls : lo} {st : List av} {I : IT} {C : CT} {n : Nat} {Ia : IT} {Ca : CT} {na : Nat} {H1 : Heap} {locs1 : List Loc} {st1 : List av} {ls1 : lo} {u : WU} {t : State} (J : Jw D A s m q.2.2.1 ads cas bS I C n H locs sl ls st) (hGa : n ≤ na) (hI9 : ∀ i j, Ia 99 i j = I 99 i j) (hx : Ex n ads cas u) (hG : Gs na Ia Ca) (hW : Wt D A bS u Ia Ca na t) (ht : t.heap = H1) (hvm : s.vm.Alike t.vm) (hS1 : va_S A s.heap H1 locs1) (hst : Gt na st1) (hls : Gl n ls1) (hlv : LV sl q.2.2.1 ads bS ls1) : Jw D A s m q.2.2.1 u.1 u.2 bS Ia Ca na H1 locs1 sl ls1 st1 := by
  obtain ⟨jP, jD, jK, jG, jL, jT, jV, jS, jX⟩ := J
  obtain ⟨w1, w2, w3⟩ := hW
  rw [ht] at w1
  exact ⟨w1, w2, w3.moved hvm.symm, hG, fun i v hi => ⟨Gv_mono (hls i v hi).1 hGa, (hls i v hi).2⟩, hst, hlv.ext hls (fun k hk => (hx k hk).1), hS1, sxI jX hI9⟩
theorem call_ret {l : Launch} {D : va_G} {A : Nat → Prop} {bS : Nat} {p : Program} {e : Env} {R : Room} {s : State} {mm : MethodId} {args : Array Value} {below : List Frame} {meth : Method} {cc : Code} {q : mI} {m pc : Nat} {H : Heap} {locs : List Loc} {cells slots : Nat} {sl : Array Slot} {ads : Nat → Nat} {cas : Nat → ClassId} {ls : lo} {st : List av} {I : IT} {C : CT} {n c z : Nat} {o : Option av ⊕ Nat} {I1 : IT} {C1 : CT} {n1 c1 z1 n0 : Nat} {ads0 : Nat → Nat} {cas0 : Nat → ClassId} {ca za : Nat} {Ia : IT} {Ca : CT} {na : Nat} {r : List av} {k2 : Nat} {v : Option av} {a9 : Array Value} {st0 : List Value} (B : Bx p R s mm args meth cc q) (X : Cx A D s) (hA : ∀ q : Nat, s.heap.size ≤ q → A q) (J : Jw D A s m q.2.2.1 ads cas bS I C n H locs sl ls st) (hc1 : cells + c1 ≤ R.cells + c) (hz1 : slots + z1 ≤ R.slots + z) (hn0 : n0 ≤ n) (hEx : Ex n0 ads0 cas0 (ads, cas)) (hq : MTf m = some q) (ih2 : Snd l D bS A k2) (hn9 : nm m = false → n0 = 0) (hr9 : Gt n r) (hGa : n ≤ na) (hI9 : ∀ i j, Ia 99 i j = I 99 i j) (hca : c ≤ ca) (hza : z ≤ za) (hrun : fin (run k2) (Sum.inl v) [(m, pc, ls, r)] Ia Ca na ca za = some (o, I1, C1, n1, c1, z1)) (hc9 : ca ≤ c1) (hz9 : za ≤ z1)
    (hr : va_Run p l e R s mm args below meth cc H locs cells slots (ca - c) (za - z) (F0 mm pc sl st0) (r.map (ev ads bS)) (Qo D A bS ads cas n (Sum.inl v) Ia Ca na a9) A) : W p l e R s mm args below meth cc H locs cells slots (vx_MQ below (Qo D A bS ads0 cas0 n0 o I1 C1 n1) (Xo D A bS ads0 cas0 n0 o I1 C1 n1) args s R.cells R.slots A) (F0 mm pc sl st0) := by
  have J0 := J
  obtain ⟨jP, jD, jK, jG, jL, jT, jV, jS, jX⟩ := J
  have hrun9 : run k2 m (pc + 3) ls (v.toList ++ r) [] Ia Ca na ca za = some (o, I1, C1, n1, c1, z1) := hrun
  have hgr : Gt na r := fun w hw => Gv_mono (hr9 w hw) hGa
  cases v with
  | none =>
    refine va_callv (a := a9) hr jS (fun _ _ h => h) (fun _ h => h) (fun u t H1 locs1 ht hvm hw hB hz1 hk1 hS1 => ?_)
    obtain ⟨hx, hG⟩ := hw
    have J1 := aft_J (st1 := r) J0 hGa hI9 hx hG hB ht hvm hS1 hgr jL jV
    rw [← map_ext (fun k hk => (hx k hk).1) hr9]
    exact ih2 m (pc + 3) ls r Ia Ca na ca za o I1 C1 n1 c1 z1 hrun9 p e R s mm args below meth cc q H1 locs1 _ _ sl u.1 u.2 n0 ads0 cas0 hq B X hA J1 (by omega) (by omega) (by omega) (fun k hk => ⟨(hx k (by omega)).1.trans (hEx k hk).1, (hx k (by omega)).2.trans (hEx k hk).2⟩) hn9
  | some v =>
    rcases v with x | y
    · refine va_calli (a := a9) hr jS (fun _ _ h => h) (fun _ h => h) (fun r9 u t H1 locs1 ht hvm hw hB hz1 hk1 hS1 => ?_)
      obtain ⟨rfl, hx32, hx, hG⟩ := hw
      have J1 := aft_J (st1 := vi x :: r) J0 hGa hI9 hx hG hB ht hvm hS1 (hgr.cons hx32) jL jV
      rw [← map_ext (fun k hk => (hx k hk).1) hr9]
      exact ih2 m (pc + 3) ls (vi x :: r) Ia Ca na ca za o I1 C1 n1 c1 z1 hrun9 p e R s mm args below meth cc q H1 locs1 _ _ sl u.1 u.2 n0 ads0 cas0 hq B X hA J1 (by omega) (by omega) (by omega) (fun k hk => ⟨(hx k (by omega)).1.trans (hEx k hk).1, (hx k (by omega)).2.trans (hEx k hk).2⟩) hn9
    · intro T hT X9
      obtain ⟨_, _, _, _, _, _, _, _, _, _, hf, _⟩ := hr T hT X9
      exact hf.elim
theorem hct_E {m p E : Nat} (h : 2 ≤ E) : hct m p E = hct m p 2 ∧ exN E = exN 2 := by
  have e0 : Nat.beq E 0 = Nat.beq 2 0 := by
    cases g : Nat.beq E 0
    · rfl
    · have := Nat.eq_of_beq_eq_true g; omega
  have e1 : Nat.beq E 1 = Nat.beq 2 1 := by
    cases g : Nat.beq E 1
    · rfl
    · have := Nat.eq_of_beq_eq_true g; omega
  unfold hct exN
  rw [e0, e1]
  exact ⟨rfl, rfl⟩
theorem exN_ne : ∀ E, E < 3 → ∀ E2, E2 < 3 → ¬ E2 = E → (exN E, exN E2) ∈ ncs := by
  have h : (List.range 3).all (fun E => (List.range 3).all (fun E2 => Nat.beq E2 E || decide ((exN E, exN E2) ∈ ncs))) = true := by decide +kernel
  intro E hE E2 hE2 hn
  have h1 := List.all_eq_true.mp (List.all_eq_true.mp h E (List.mem_range.mpr hE)) E2 (List.mem_range.mpr hE2)
  rw [show Nat.beq E2 E = false from Bool.eq_false_iff.mpr (fun g => hn (Nat.eq_of_beq_eq_true g))] at h1
  exact of_decide_eq_true h1
theorem run_999 {k E : Nat} {I : IT} {C : CT} {n c z : Nat} {u : ou} (h : run k 999 E [] [] [] I C n c z = some u) : u = (Sum.inr E, I, C, n, c, z) := by
  cases k with
  | zero => cases h
  | succ k =>
    have h9 : some (Sum.inr E, I, C, n, c, z) = some u := h
    exact (Option.some.inj h9).symm
theorem cat_W {l : Launch} {D : va_G} {A : Nat → Prop} {bS : Nat} {p : Program} {e : Env} {R : Room} {s : State} {mm : MethodId} {args : Array Value} {below : List Frame} {meth : Method} {cc : Code} {q : mI} {m pc : Nat} {cells slots : Nat} {sl : Array Slot} {ads : Nat → Nat} {ls : lo} {n : Nat} {w : List Nat}   {E h9 k9 : Nat} {r : List av} {H1 : Heap} {locs1 : List Loc} {Q : State → Prop} {q9 : Addr} {ce : Cell} (B : Bx p R s mm args meth cc q) (X : Cx A D s) (hEE : E < 3) (hct9 : hct m pc E = some (some (h9, k9))) (hcat : okCat m q pc w = true) (hcell : H1[q9]? = some ce) (hv : ce.vm = .none) (hcl : s.vm.findClass (exN E) = some ce.cls) (hV : LV sl q.2.2.1 ads bS ls) (hL : Gl n ls)
    (kk : ∀ (sl2 : Array Slot), LV sl2 q.2.2.1 ads bS (ls.set k9 none) → W p l e R s mm args below meth cc H1 locs1 cells slots Q (F0 mm h9 sl2 [])) : vx_W p l e R s mm args below meth cc H1 locs1 cells slots Q (F0 mm pc sl (r.map (ev ads bS))) q9 := by
  have h1 := List.all_eq_true.mp hcat E (List.mem_range.mpr hEE)
  rw [hct9] at h1
  obtain ⟨t, ht, h2⟩ := List.any_eq_true.mp h1
  have htl := List.mem_range.mp ht
  unfold okC at h2
  cases hx : q.2.2.2.2.2.2[t]? with
  | none => rw [hx] at h2; cases h2
  | some x =>
    rw [hx] at h2
    dsimp only at h2
    obtain ⟨h2, g6⟩ := and2 h2
    obtain ⟨h2, g5⟩ := and2 h2
    obtain ⟨h2, g4⟩ := and2 h2
    obtain ⟨h2, g3⟩ := and2 h2
    obtain ⟨h2, g2⟩ := and2 h2
    obtain ⟨g0, g1⟩ := and2 h2
    have g0 := of_decide_eq_true g0
    have g1 := of_decide_eq_true g1
    have g4 := bleN g4
    have g3 := isN_mem g3
    cases hz : (tableOf q.2.2.2.2.2.2)[t]? with
    | none => rw [hz] at g0; cases g0
    | some z =>
      rw [hz] at g0
      have g0 := Option.some.inj g0
      have z1 : covers z pc = true := congrArg (fun y => y.1) g0
      have z2 : z.handlerPc = x.2.2.1 := congrArg (fun y => y.2.1) g0
      have z3 : z.catchType = x.2.2.2 := congrArg (fun y => y.2.2) g0
      have htt : t < (tableOf q.2.2.2.2.2.2).length := (List.getElem?_eq_some_iff.mp hz).1
      have hsplit : cc.exceptionTable.toList = (tableOf q.2.2.2.2.2.2).take t ++ z :: (tableOf q.2.2.2.2.2.2).drop (t + 1) := by
        rw [B.2.2.2.2.2.2.2.1]
        have e9 : (tableOf q.2.2.2.2.2.2)[t] = z := (List.getElem?_eq_some_iff.mp hz).2
        rw [← e9, ← List.drop_eq_getElem_cons htt, List.take_append_drop]
      refine vx_catch (own := q.1.cls) (name := exN E) (E := exN E) B.2.2.2.2.1 _ z _ hsplit (fun y hy => ?_) z1 (by rw [z3]; exact g1) (by rw [z3]; exact B.2.2.2.2.2.1 _ (isW_mem g2)) (va_Nw.use rfl (X.1 _ g3.1 g3.2)) hcell hv hcl ?_
      · obtain ⟨j, hj, hy2⟩ := List.getElem_of_mem hy
        have hjt : j < t := by simp at hj; omega
        have hy3 : (tableOf q.2.2.2.2.2.2)[j]? = some y := by
          rw [← hy2, List.getElem_take]
          exact List.getElem?_eq_getElem _
        have h5 := List.all_eq_true.mp g5 j (List.mem_range.mpr hjt)
        rw [hy3] at h5
        obtain ⟨h5, h6⟩ := and2 h5
        obtain ⟨E2, hE2, h7⟩ := List.any_eq_true.mp h6
        obtain ⟨h7, h8⟩ := and2 h7
        exact Or.inr ⟨of_decide_eq_true h5, exN E2, B.2.2.2.2.2.1 _ (isW_mem h8), X.2.2.2.1 _ (exN_ne E hEE E2 (List.mem_range.mp hE2) (of_decide_eq_true h7))⟩
      · rw [z2]
        have fin9 : ∀ sl2 : Array Slot, lv_has sl2 q.2.2.1 ((k9, Value.ref q9) :: (eL ads bS 0 ls).filter (fun q => !(q.1 == k9) && !(q.1 + 1 == k9 && q.2.category == 2))) → LV sl2 q.2.2.1 ads bS (ls.set k9 none) := by
          intro sl2 h2
          refine ⟨h2.1, h2.2.1, by rw [List.length_set]; exact hV.2.2.1, fun i v hi => ?_⟩
          rw [List.getElem?_set] at hi
          by_cases hia : k9 = i
          · subst hia
            rw [if_pos rfl] at hi
            split at hi
            · cases hi
            · cases hi
          · rw [if_neg hia] at hi
            have h3 := eL_mem (ads := ads) (bS := bS) ls 0 i v hi
            rw [Nat.zero_add] at h3
            refine h2.2.2 (i, ev ads bS v) (List.mem_cons_of_mem _ (List.mem_filter.mpr ⟨h3, ?_⟩))
            have h4 := ev_cat (ads := ads) (bS := bS) (hL i v hi).2
            simp only [h4]
            simp
            omega
        rcases (show _ ∨ _ from by simpa only [Bool.or_eq_true] using g6) with g6 | g6
        · obtain ⟨e1, e2⟩ := and2 g6
          have e1 := of_decide_eq_true e1
          subst e1
          exact lv_astore B.1 B.2.1 (of_decide_eq_true e2) hV.has (by omega) rfl (fun sl2 h2 => kk sl2 (fin9 sl2 h2))
        · obtain ⟨e1, e2⟩ := and2 g6
          have e1 := of_decide_eq_true e1
          subst e1
          obtain ⟨kf, hkf, e3⟩ := List.any_eq_true.mp e2
          obtain ⟨e3, e4⟩ := and2 e3
          have e3 := of_decide_eq_true e3
          subst e3
          have hk4 := List.mem_range.mp hkf
          exact lv_astore_n B.1 B.2.1 (of_decide_eq_true e4) (show ((Fin.ofNat 4 kf : Fin 4) : Nat) = kf from Nat.mod_eq_of_lt hk4) hV.has (by omega) rfl (fun sl2 h2 => kk sl2 (fin9 sl2 h2))
theorem call_thr {l : Launch} {D : va_G} {A : Nat → Prop} {bS : Nat} {p : Program} {e : Env} {R : Room} {s : State} {mm : MethodId} {args : Array Value} {below : List Frame} {meth : Method} {cc : Code} {q : mI} {m pc : Nat} {H : Heap} {locs : List Loc} {cells slots : Nat} {sl : Array Slot} {ads : Nat → Nat} {cas : Nat → ClassId} {ls : lo} {st : List av} {I : IT} {C : CT} {n c z : Nat} {w : List Nat} {o : Option av ⊕ Nat} {I1 : IT} {C1 : CT} {n1 c1 z1 n0 : Nat} {ads0 : Nat → Nat} {cas0 : Nat → ClassId} {ca za : Nat} {Ia : IT} {Ca : CT} {na : Nat} {r : List av} {k2 : Nat} {E : Nat} {a9 : Array Value} {st0 : List Value} (B : Bx p R s mm args meth cc q) (X : Cx A D s) (hA : ∀ q : Nat, s.heap.size ≤ q → A q) (J : Jw D A s m q.2.2.1 ads cas bS I C n H locs sl ls st) (hc1 : cells + c1 ≤ R.cells + c) (hz1 : slots + z1 ≤ R.slots + z) (hn0 : n0 ≤ n) (hEx : Ex n0 ads0 cas0 (ads, cas)) (hq : MTf m = some q) (ih2 : Snd l D bS A k2) (hn9 : nm m = false → n0 = 0) (hr9 : Gt n r) (hGa : n ≤ na) (hI9 : ∀ i j, Ia 99 i j = I 99 i j) (hca : c ≤ ca) (hza : z ≤ za) (hrun : fin (run k2) (Sum.inr E) [(m, pc, ls, r)] Ia Ca na ca za = some (o, I1, C1, n1, c1, z1)) (hc9 : ca ≤ c1) (hz9 : za ≤ z1) (hprp : prp m pc = true → q.2.2.2.2.2.2 = []) (hcat : wrp m pc = true → okCat m q pc w = true)
    (hr : vx_Run p l e R s mm args below meth cc H locs cells slots (ca - c) (za - z) (F0 mm pc sl st0) (r.map (ev ads bS)) (Qo D A bS ads cas n (Sum.inr E) Ia Ca na a9) (Xo D A bS ads cas n (Sum.inr E) Ia Ca na) A) : W p l e R s mm args below meth cc H locs cells slots (vx_MQ below (Qo D A bS ads0 cas0 n0 o I1 C1 n1) (Xo D A bS ads0 cas0 n0 o I1 C1 n1) args s R.cells R.slots A) (F0 mm pc sl st0) := by
  have J0 := J
  obtain ⟨jP, jD, jK, jG, jL, jT, jV, jS, jX⟩ := J
  refine vx_calli (a := a9) hr jS (fun _ _ h => h) (fun _ h => h) (fun _ _ h => h) (fun nm ce q9 u t H1 locs1 ht hvm hw hB hz1 hk1 hS1 hcell hcv hcl => ?_) (fun _ _ _ _ _ _ _ hf => hf.elim)
  obtain ⟨hx, hG⟩ := hw
  obtain ⟨rfl, hW⟩ := hB
  have hrun9 : (match hnd m pc E with
      | none => none
      | some none => run k2 999 E [] [] [] Ia Ca na ca za
      | some (some (h, k)) => run k2 m h (ls.set k none) [] [] Ia Ca na ca za) = some (o, I1, C1, n1, c1, z1) := hrun
  by_cases g1 : prp m pc = true
  · have e1 : hnd m pc E = some none := by unfold hnd; rw [g1]; rfl
    rw [e1] at hrun9
    have e2 := run_999 hrun9
    cases e2
    refine vx_out (fun x hx9 => ?_) B.2.2.2.2.2.2.1 hcell hcv hcl (fun t9 ht9 hv9 => ?_) (fun z9 hz9 => hS1.2.2 z9 hz9) (by omega) (by omega)
    · rw [B.2.2.2.2.2.2.2.1, hprp g1] at hx9
      cases hx9
    · obtain ⟨w1, w2, w3⟩ := hW
      refine ⟨u, ⟨fun k hk => ⟨(hx k (by omega)).1.trans (hEx k hk).1, (hx k (by omega)).2.trans (hEx k hk).2⟩, hG⟩, ⟨rfl, ?_, w2, (w3.moved hvm.symm).moved hv9⟩, hS1.F ht9⟩
      rw [ht9, ← ht]; exact w1
  · by_cases g2 : wrp m pc = true
    · have e1 : hnd m pc E = hct m pc E := by unfold hnd; rw [bfalse g1, g2]; rfl
      rw [e1] at hrun9
      obtain ⟨E3, hE3, f1, f2⟩ : ∃ E3, E3 < 3 ∧ hct m pc E = hct m pc E3 ∧ exN E = exN E3 := by
        by_cases h : E < 3
        · exact ⟨E, h, rfl, rfl⟩
        · exact ⟨2, by omega, (hct_E (m := m) (p := pc) (by omega)).1, (hct_E (m := m) (p := pc) (by omega)).2⟩
      rw [f1] at hrun9
      rw [f2] at hcl
      cases hh : hct m pc E3 with
      | none => rw [hh] at hrun9; cases hrun9
      | some y =>
        cases y with
        | none =>
          have h1 := List.all_eq_true.mp (hcat g2) E3 (List.mem_range.mpr hE3)
          rw [hh] at h1
          cases h1
        | some y =>
          obtain ⟨h9, k9⟩ := y
          rw [hh] at hrun9
          refine cat_W (n := n) B X hE3 hh (hcat g2) hcell hcv hcl jV jL (fun sl2 hLV => ?_)
          have hls : Gl n (ls.set k9 none) := fun i v hi => by
            rw [List.getElem?_set] at hi
            by_cases hia : k9 = i
            · subst hia
              rw [if_pos rfl] at hi
              split at hi
              · cases hi
              · cases hi
            · rw [if_neg hia] at hi
              exact jL i v hi
          obtain ⟨w1, w2, w3⟩ := hW
          have w1 : va_P D vwCl (wl u.1 u.2 bS Ia Ca na) H1 := by rw [← ht]; exact w1
          have J1 : Jw D A s m q.2.2.1 u.1 u.2 bS Ia Ca na H1 locs1 sl2 (ls.set k9 none) [] := ⟨w1, w2, w3.moved hvm.symm, hG, fun i v hi => ⟨Gv_mono (hls i v hi).1 hGa, (hls i v hi).2⟩, (fun v hv => by cases hv), hLV.ext hls (fun k hk => (hx k hk).1), hS1, sxI jX hI9⟩
          exact ih2 m h9 (ls.set k9 none) [] Ia Ca na ca za o I1 C1 n1 c1 z1 hrun9 p e R s mm args below meth cc q H1 locs1 _ _ sl2 u.1 u.2 n0 ads0 cas0 hq B X hA J1 (by omega) (by omega) (by omega) (fun k hk => ⟨(hx k (by omega)).1.trans (hEx k hk).1, (hx k (by omega)).2.trans (hEx k hk).2⟩) hn9
    · have e1 : hnd m pc E = none := by unfold hnd; rw [bfalse g1, bfalse g2]; rfl
      rw [e1] at hrun9
      cases hrun9
theorem okY_inv {m pc : Nat} {q q2 : mI} {j b : Nat} {w : List Nat} (h : okY m pc q q2 j b w = true) : (q2.1.cls ≠ "java/lang/invoke/MethodHandle" ∧ q2.1.cls ≠ "java/lang/invoke/VarHandle") ∧ (q2.2.2.2.2.1 + 1 ≤ q.2.2.2.2.1 ∧ 8 + (q2.2.2.1 + 11) + q2.2.2.2.2.2.1 ≤ q.2.2.2.2.2.1) ∧ (bif Nat.beq (gW w 0) 0 then isW (gW w 1) (.methodLink q.1.cls j q2.1) else isN (gW w 1) (.methodLinkNest q.1.cls j q2.1 "CompassRolls")) = true ∧ ¬ q2.1 = x ∧ Cond.initialized q2.1.cls ∈ TW ∧ plainName q2.1.cls = true ∧ (prp m pc = true → q.2.2.2.2.2.2 = []) := by
  unfold okY at h
  obtain ⟨h, a8⟩ := and2 h
  obtain ⟨h, a7⟩ := and2 h
  obtain ⟨h, a6⟩ := and2 h
  obtain ⟨h, a5⟩ := and2 h
  obtain ⟨h, a4⟩ := and2 h
  obtain ⟨h, a3⟩ := and2 h
  obtain ⟨h, a2⟩ := and2 h
  obtain ⟨a0, a1⟩ := and2 h
  refine ⟨⟨of_decide_eq_true a0, of_decide_eq_true a1⟩, ⟨bleN a2, bleN a3⟩, a4, of_decide_eq_true a5, isW_mem a6, a7, fun g => ?_⟩
  rw [g] at a8
  simpa using a8
theorem cwd_nil {q2 : mI} (h : q2.2.2.2.2.2.2 = []) : cwd q2 = .code q2.1 q2.2.1 q2.2.2.1 q2.2.2.2.1 := by
  unfold cwd; rw [h]
theorem cwd_ne {q2 : mI} (h : ¬ q2.2.2.2.2.2.2 = []) : cwd q2 = .codeWith q2.1 q2.2.1 q2.2.2.1 q2.2.2.2.1 q2.2.2.2.2.2.2 := by
  unfold cwd
  cases g : q2.2.2.2.2.2.2 with
  | nil => exact absurd g h
  | cons x t => rfl
theorem in_TW {a : List Cond} {b : Cond} (h : ∀ w ∈ a, w ∈ TW) (hb : b ∈ TW) : GoodIn TW (a ++ (b :: TW)) := fun w hw => by
  rcases List.mem_append.mp hw with h1 | h1
  · exact TW_good w (h w h1)
  · rcases List.mem_cons.mp h1 with rfl | h2
    · exact TW_good _ hb
    · exact TW_good w h2

theorem sn_static {l : Launch} {D : va_G} {A : Nat → Prop} {bS : Nat} {p : Program} {e : Env} {R : Room} {s : State} {mm : MethodId} {args : Array Value} {below : List Frame} {meth : Method} {cc : Code} {q : mI} {m pc : Nat} {H : Heap} {locs : List Loc} {cells slots : Nat} {sl : Array Slot} {ads : Nat → Nat} {cas : Nat → ClassId} {ls : lo} {st : List av} {I : IT} {C : CT} {n c z : Nat} {w : List Nat} {len a b d : Nat} {o : Option av ⊕ Nat} {I1 : IT} {C1 : CT} {n1 c1 z1 n0 : Nat} {ads0 : Nat → Nat} {cas0 : Nat → ClassId} {k : Nat} {j : Nat} (ih : ∀ k9, k9 ≤ k → Snd l D bS A k9) (hq : MTf m = some q) (hn9 : nm m = false → n0 = 0) (hna : nm a = true ∨ n = 0) (B : Bx p R s mm args meth cc q) (X : Cx A D s) (hA : ∀ q : Nat, s.heap.size ≤ q → A q) (J : Jw D A s m q.2.2.1 ads cas bS I C n H locs sl ls st) (hc1 : cells + c1 ≤ R.cells + c) (hz1 : slots + z1 ≤ R.slots + z) (hn0 : n0 ≤ n) (hEx : Ex n0 ads0 cas0 (ads, cas)) (hd3 : ¬ Nat.beq d 3 = true) (hok : okE m q pc (.invokestatic j, len, a, b, d) w = true) (h : stp (.invokestatic j, len, a, b, d) pc ls st I C n c z (fun pc' ls' st' I' C' n' c' z' => run k m pc' ls' st' [] I' C' n' c' z') (fun y as r => run k y 0 (ini y as) [] [(m, pc, ls, r)] I C n c z) (fun v => fin (run k) (Sum.inl v) [] I C n c z) (fun E c' z' => fin (run k) (Sum.inr E) [] I C n c' z') none = some (o, I1, C1, n1, c1, z1)) : W p l e R s mm args below meth cc H locs cells slots (vx_MQ below (Qo D A bS ads0 cas0 n0 o I1 C1 n1) (Xo D A bS ads0 cas0 n0 o I1 C1 n1) args s R.cells R.slots A) (F0 mm pc sl (st.map (ev ads bS))) := by
  obtain ⟨hd0, hk⟩ := and2 hok
  have hd := of_decide_eq_true hd0
  have J0 := J
  obtain ⟨jP, jD, jK, jG, jL, jT, jV, jS, jX⟩ := J
  have hk : (bif Nat.beq d 3 then _ else Nat.beq len 3 && (match MTf a with | none => false | some q2 => okY m pc q q2 j b w && isW (gW w 3) (.static q2.1) && decide ((parseMethodDescriptor q2.1.desc).map (fun d => d.parameters.length) = some b) && Nat.beq (b + pad a) q2.2.2.1 && (Nat.beq (gW w 0) 0 || (!(prp m pc) && !(wrp m pc) && q2.2.2.2.2.2.2.isEmpty)) && (q2.2.2.2.2.2.2.isEmpty || (!(prp m pc) && !(wrp m pc))) && !(wrp m pc))) = true := hk
  rw [bfalse hd3] at hk
  obtain ⟨hl, hkm⟩ := and2 hk
  have hl := beqN hl
  subst hl
  cases hq2 : MTf a with
  | none => rw [hq2] at hkm; cases hkm
  | some q2 =>
  rw [hq2] at hkm
  dsimp only at hkm
  obtain ⟨hkm, y99⟩ := and2 hkm
  obtain ⟨hkm, y6⟩ := and2 hkm
  obtain ⟨hkm, y5⟩ := and2 hkm
  obtain ⟨hkm, y4⟩ := and2 hkm
  obtain ⟨hkm, y3⟩ := and2 hkm
  obtain ⟨y1, y2⟩ := and2 hkm
  obtain ⟨hmh, hfr, hlk, hcw, hin, hpl, hprp⟩ := okY_inv y1
  have hpad := beqN y4
  have y3 := of_decide_eq_true y3
  have h8 : (bif Nat.beq d 3 then _ else bif Nat.ble b st.length then (bif (Nat.ble (ctg (st.drop b)) 8 && Nat.beq (ctg (st.take b)) b) then run k a 0 (ini a (st.take b).reverse) [] [(m, pc, ls, st.drop b)] I C n c z else none) else none) = some (o, I1, C1, n1, c1, z1) := h
  rw [bfalse hd3] at h8
  obtain ⟨hlen, h7⟩ := bif_inv (show (bif Nat.ble b st.length then _ else none) = some (o, I1, C1, n1, c1, z1) from h8)
  obtain ⟨hct9, hcall⟩ := bif_inv h7
  have hlen := bleN hlen
  have hct := and2 hct9
  have hct1 := bleN hct.1
  have hct2 := beqN hct.2
  have hsplit : st.take b ++ st.drop b = st := List.take_append_drop b st
  have hlb : (st.take b).length = b := by rw [List.length_take]; omega
  have hgr : Gt n (st.drop b) := fun v hv => jT v (List.mem_of_mem_drop hv)
  have hsho : ∀ v ∈ (st.take b).reverse, sho v := fun v hv => ctg_sho (st.take b) (by omega) v (List.mem_reverse.mp hv)
  have hga : Gt n (st.take b).reverse := fun v hv => jT v (List.mem_of_mem_take (List.mem_reverse.mp hv))
  obtain ⟨k1, k2, oa, Ia, Ca, na, ca, za, b1, b2, b3, b4⟩ := run_split (m, pc, ls, st.drop b) [] (o, I1, C1, n1, c1, z1) k a 0 (ini a (st.take b).reverse) [] [] I C n c z hcall
  obtain ⟨_, d2, d3, d4⟩ := run_keep okAall okMp _ _ _ _ _ _ _ _ _ _ _ _ _ _ _ _ _ b3
  have d1 : n ≤ na := hna.elim (fun g => run_keepN okAall okMn _ _ _ _ _ _ _ _ _ _ _ _ _ _ _ _ _ g (fun _ hf => by cases hf) b3) (fun g => by omega)
  have hck : ca ≤ c1 ∧ za ≤ z1 := by
    cases oa with
    | inl v =>
      obtain ⟨_, e2, e3, _⟩ := run_keep okAall okMp _ _ _ _ _ _ _ _ _ _ _ _ _ _ _ _ _ (show run k2 m (pc + 3) ls (v.toList ++ st.drop b) [] Ia Ca na ca za = some (o, I1, C1, n1, c1, z1) from b4)
      exact ⟨e2, e3⟩
    | inr E =>
      have b5 : (match hnd m pc E with
        | none => none
        | some none => run k2 999 E [] [] [] Ia Ca na ca za
        | some (some (h, k)) => run k2 m h (ls.set k none) [] [] Ia Ca na ca za) = some (o, I1, C1, n1, c1, z1) := b4
      cases hh : hnd m pc E with
      | none => rw [hh] at b5; cases b5
      | some y =>
        rw [hh] at b5
        cases y with
        | none =>
          obtain ⟨_, e2, e3, _⟩ := run_keep okAall okMp _ _ _ _ _ _ _ _ _ _ _ _ _ _ _ _ _ b5
          exact ⟨e2, e3⟩
        | some y =>
          obtain ⟨_, e2, e3, _⟩ := run_keep okAall okMp _ _ _ _ _ _ _ _ _ _ _ _ _ _ _ _ _ b5
          exact ⟨e2, e3⟩
  have hcr : cells ≤ R.cells ∧ slots ≤ R.slots := by omega
  have hy9 : ¬ a = 173 := fun g => by
    subst g
    exact hcw (by rw [show q2 = _ from (Option.some.inj (hq2.symm.trans (show MTf 173 = some _ from rfl)))])
  have hcw := cw_all hq2 hy9
  have hM := met_of (D := D) (A := A) (bS := bS) (ih k1 (by omega)) hy9 b3 d2 d3 hq2 hpl hcw hsho (by rw [List.length_reverse, hlb]; exact hpad) hga jG hna ads cas
  have hpre : ∀ U : State, U.heap = H → s.WarmedH U.vm → Wc D A bS (ads, cas) I C n U := fun U hU hW => ⟨⟨by rw [hU]; exact jP, jD, jK.moved hW.alike⟩, X.warm hW (fun a9 h1 h2 => by rw [hU]; exact jS.2.1 a9 h1 h2), fun q9 hq9 => hA q9 (Nat.le_trans jS.1 (by rw [← hU]; exact hq9))⟩
  have hF : cells + (ca - c) ≤ R.cells ∧ slots + (za - z) ≤ R.slots := by omega
  have hR9 : q2.2.2.2.2.1 + 1 ≤ R.frames ∧ 8 + (q2.2.2.1 + 11) + q2.2.2.2.2.2.1 ≤ R.locals := by rw [B.2.2.2.2.2.2.2.2.2.1, B.2.2.2.2.2.2.2.2.2.2]; exact hfr
  have hcat9 : ((st.drop b).map (ev ads bS)).map (fun v => v.category) = ((st.drop b).map (ev ads bS)).map (fun v => v.category) := rfl
  have hroom : 2 * (F0 mm pc sl (st.map (ev ads bS))).monitorRoom + (((st.drop b).map (ev ads bS)).map fun v => v.category).sum ≤ 8 := by
    rw [ctg_eq]; show 2 * 0 + _ ≤ 8; omega
  have hAs : (((st.take b).reverse).map (ev ads bS)).length = b := by rw [List.length_map, List.length_reverse, hlb]
  have hstk : st.map (ev ads bS) = (((st.take b).reverse).map (ev ads bS)).reverse ++ (st.drop b).map (ev ads bS) := by
    rw [← List.map_reverse, List.reverse_reverse, ← List.map_append, hsplit]
  have hPS : PreS s H (va_Pc (((st.take b).reverse).map (ev ads bS)) (Wc D A bS (ads, cas) I C n)) (((st.take b).reverse).map (ev ads bS)) := ⟨Wc.blind, fun U hU hW => ⟨rfl, hpre U hU hW⟩⟩
  by_cases hh2 : q2.2.2.2.2.2.2 = []
  · have hcwd := cwd_nil hh2
    by_cases hw0 : Nat.beq (gW w 0) 0 = true
    · rw [hw0] at hlk
      have hcb : CallB R s args q.1.cls j q2.1 q2.2.1 q2.2.2.1 q2.2.2.2.1 (cwd q2 :: TW) { frames := q2.2.2.2.2.1, cells := ca - c, slots := za - z, locals := q2.2.2.2.2.2.1 } (ca - c) (za - z) b := callB_of b B.2.2.2.2.2.1 (in_TW (a := []) (fun _ h => by cases h) hcw) (by rw [hcwd]) rfl rfl (B.2.2.2.2.2.1 _ hin) (B.2.2.2.2.2.1 _ (isW_mem hlk)) ⟨hmh.1, hmh.2, y3⟩ hR9
      have hst9 := B.2.2.2.2.2.1 _ (isW_mem y2)
      cases oa with
      | inl v => exact call_ret B X hA J0 hc1 hz1 hn0 hEx hq (ih k2 (by omega)) hn9 hgr d1 d4 d2 d3 b4 hck.1 hck.2 (va_runS ⟨B.1, B.2.1, B.2.2.2.1, B.2.2.2.2.1, B.2.2.2.2.2.1⟩ (Met.of_vx hM) ⟨hcb, hst9⟩ hPS rfl hAs (jV.1) hstk hroom hd hF)
      | inr E => exact call_thr (w := w) B X hA J0 hc1 hz1 hn0 hEx hq (ih k2 (by omega)) hn9 hgr d1 d4 d2 d3 b4 hck.1 hck.2 hprp (fun g => by rw [g] at y99; cases y99) (vx_runS ⟨B.1, B.2.1, B.2.2.2.1, B.2.2.2.2.1, B.2.2.2.2.2.1⟩ hM ⟨hcb, hst9⟩ hPS rfl hAs (jV.1) hstk hroom hd hF)
    · rw [bfalse hw0] at hlk y5
      have y5 : (!(prp m pc) && !(wrp m pc) && q2.2.2.2.2.2.2.isEmpty) = true := by simpa using y5
      obtain ⟨y5, _⟩ := and2 y5
      obtain ⟨y51, y52⟩ := and2 y5
      have hcn : va_CN R s args q.1.cls j q2.1 "CompassRolls" q2.2.1 q2.2.2.1 q2.2.2.2.1 (cwd q2 :: TW) { frames := q2.2.2.2.2.1, cells := ca - c, slots := za - z, locals := q2.2.2.2.2.2.1 } (ca - c) (za - z) b := va_cnB b B.2.2.2.2.2.1 (in_TW (a := []) (fun _ h => by cases h) hcw) (by rw [hcwd]) rfl rfl (X.1 _ (isN_mem hlk).1 (isN_mem hlk).2) (B.2.2.2.2.2.1 _ hin) ⟨hmh.1, hmh.2, y3⟩ hR9
      cases oa with
      | inl v => exact call_ret B X hA J0 hc1 hz1 hn0 hEx hq (ih k2 (by omega)) hn9 hgr d1 d4 d2 d3 b4 hck.1 hck.2 (va_runSN ⟨B.1, B.2.1, B.2.2.2.1, B.2.2.2.2.1, B.2.2.2.2.2.1⟩ (Met.of_vx hM) ⟨hcn, B.2.2.2.2.2.1 _ (isW_mem y2), trivial⟩ hPS rfl hAs (jV.1) hstk hroom hd hF)
      | inr E =>
        have e1 : hnd m pc E = none := by
          unfold hnd
          rw [show prp m pc = false by simpa using y51, show wrp m pc = false by simpa using y52]; rfl
        have b5 : (match hnd m pc E with
          | none => none
          | some none => run k2 999 E [] [] [] Ia Ca na ca za
          | some (some (h, k)) => run k2 m h (ls.set k none) [] [] Ia Ca na ca za) = some (o, I1, C1, n1, c1, z1) := b4
        rw [e1] at b5
        cases b5
  · have hcwd := cwd_ne hh2
    have y6 : (!(prp m pc) && !(wrp m pc)) = true := by
      cases g : q2.2.2.2.2.2.2 with
      | nil => exact absurd g hh2
      | cons x t => rw [g] at y6; exact y6
    obtain ⟨y51, y52⟩ := and2 y6
    have hw0 : Nat.beq (gW w 0) 0 = true := by
      cases g : Nat.beq (gW w 0) 0
      · rw [g] at y5
        exfalso
        have y5 : (!(prp m pc) && !(wrp m pc) && q2.2.2.2.2.2.2.isEmpty) = true := by simpa using y5
        exact hh2 (List.isEmpty_iff.mp (and2 y5).2)
      · rfl
    rw [hw0] at hlk
    have hcs : vx_CSW R s args q.1.cls j q2.1 q2.2.1 q2.2.2.1 q2.2.2.2.1 q2.2.2.2.2.2.2 (cwd q2 :: TW) { frames := q2.2.2.2.2.1, cells := ca - c, slots := za - z, locals := q2.2.2.2.2.2.1 } (ca - c) (za - z) b := vx_cwSW b B.2.2.2.2.2.1 (in_TW (a := [.methodLink q.1.cls j q2.1, .static q2.1, .initialized q2.1.cls]) (fun v hv => by
      rcases List.mem_cons.mp hv with rfl | hv
      · exact isW_mem hlk
      · rcases List.mem_cons.mp hv with rfl | hv
        · exact isW_mem y2
        · rcases List.mem_cons.mp hv with rfl | hv
          · exact hin
          · cases hv) hcw) (by rw [hcwd]) rfl rfl ⟨hmh.1, hmh.2, y3⟩ hR9
    cases oa with
    | inl v => exact call_ret B X hA J0 hc1 hz1 hn0 hEx hq (ih k2 (by omega)) hn9 hgr d1 d4 d2 d3 b4 hck.1 hck.2 (vx_runSW ⟨B.1, B.2.1, B.2.2.2.1, B.2.2.2.2.1, B.2.2.2.2.2.1⟩ (Met.of_vx hM) hcs hPS rfl hAs (jV.1) hstk hroom hd hF)
    | inr E =>
      have e1 : hnd m pc E = none := by
        unfold hnd
        rw [show prp m pc = false by simpa using y51, show wrp m pc = false by simpa using y52]; rfl
      have b5 : (match hnd m pc E with
        | none => none
        | some none => run k2 999 E [] [] [] Ia Ca na ca za
        | some (some (h, k)) => run k2 m h (ls.set k none) [] [] Ia Ca na ca za) = some (o, I1, C1, n1, c1, z1) := b4
      rw [e1] at b5
      cases b5
theorem sn_virtual {l : Launch} {D : va_G} {A : Nat → Prop} {bS : Nat} {p : Program} {e : Env} {R : Room} {s : State} {mm : MethodId} {args : Array Value} {below : List Frame} {meth : Method} {cc : Code} {q : mI} {m pc : Nat} {H : Heap} {locs : List Loc} {cells slots : Nat} {sl : Array Slot} {ads : Nat → Nat} {cas : Nat → ClassId} {ls : lo} {st : List av} {I : IT} {C : CT} {n c z : Nat} {w : List Nat} {len a b d : Nat} {o : Option av ⊕ Nat} {I1 : IT} {C1 : CT} {n1 c1 z1 n0 : Nat} {ads0 : Nat → Nat} {cas0 : Nat → ClassId} {k : Nat} {j : Nat} (ih : ∀ k9, k9 ≤ k → Snd l D bS A k9) (hq : MTf m = some q) (hn9 : nm m = false → n0 = 0) (hna : nm a = true ∨ n = 0) (B : Bx p R s mm args meth cc q) (X : Cx A D s) (hA : ∀ q : Nat, s.heap.size ≤ q → A q) (J : Jw D A s m q.2.2.1 ads cas bS I C n H locs sl ls st) (hc1 : cells + c1 ≤ R.cells + c) (hz1 : slots + z1 ≤ R.slots + z) (hn0 : n0 ≤ n) (hEx : Ex n0 ads0 cas0 (ads, cas)) (hok : okE m q pc (.invokevirtual j, len, a, b, d) w = true) (h : stp (.invokevirtual j, len, a, b, d) pc ls st I C n c z (fun pc' ls' st' I' C' n' c' z' => run k m pc' ls' st' [] I' C' n' c' z') (fun y as r => run k y 0 (ini y as) [] [(m, pc, ls, r)] I C n c z) (fun v => fin (run k) (Sum.inl v) [] I C n c z) (fun E c' z' => fin (run k) (Sum.inr E) [] I C n c' z') none = some (o, I1, C1, n1, c1, z1)) : W p l e R s mm args below meth cc H locs cells slots (vx_MQ below (Qo D A bS ads0 cas0 n0 o I1 C1 n1) (Xo D A bS ads0 cas0 n0 o I1 C1 n1) args s R.cells R.slots A) (F0 mm pc sl (st.map (ev ads bS))) := by
  obtain ⟨hd0, hk⟩ := and2 hok
  have hd := of_decide_eq_true hd0
  have J0 := J
  obtain ⟨jP, jD, jK, jG, jL, jT, jV, jS, jX⟩ := J
  have hk : ((Nat.beq len 3 && Nat.ble 1 b) && (match MTf a with | none => false | some q2 => okY m pc q q2 j b w && Nat.beq (gW w 0) 0 && q2.2.2.2.2.2.2.isEmpty && isW (gW w 3) (.instanceMethod q2.1) && isW (gW w 5) (.selects q2.1.cls q2.1 q2.1) && decide ((parseMethodDescriptor q2.1.desc).map (fun d => d.parameters.length) = some (b - 1)) && Nat.beq (b + pad a) q2.2.2.1 && Nat.ble (mcl a) 10 && decide (cN (mcl a) = q2.1.cls) && (!(wrp m pc) || okCat m q pc w))) = true := hk
  obtain ⟨hl, hkm⟩ := and2 hk
  obtain ⟨hl, hb0⟩ := and2 hl
  have hl := beqN hl
  subst hl
  cases hq2 : MTf a with
  | none => rw [hq2] at hkm; cases hkm
  | some q2 =>
  rw [hq2] at hkm
  dsimp only at hkm
  obtain ⟨hkm, y9⟩ := and2 hkm
  obtain ⟨hkm, y8⟩ := and2 hkm
  obtain ⟨hkm, y7⟩ := and2 hkm
  obtain ⟨hkm, y6⟩ := and2 hkm
  obtain ⟨hkm, y5⟩ := and2 hkm
  obtain ⟨hkm, y4⟩ := and2 hkm
  obtain ⟨hkm, y3⟩ := and2 hkm
  obtain ⟨hkm, y2⟩ := and2 hkm
  obtain ⟨y1, y0⟩ := and2 hkm
  obtain ⟨hmh, hfr, hlk, hcw, hin, hpl, hprp⟩ := okY_inv y1
  have hpad := beqN y6
  have y5 := of_decide_eq_true y5
  have hmc := bleN y7
  have hcn := of_decide_eq_true y8
  have hh2 := List.isEmpty_iff.mp y2
  have h8 : (bif Nat.ble b st.length then (bif (Nat.ble (ctg (st.drop b)) 8 && Nat.beq (ctg (st.take b)) b) then sO (st.take b).reverse (fun f i as => bif Nat.beq (kd f) (mcl a) then run k a 0 (ini a (vr f i :: as)) [] [(m, pc, ls, st.drop b)] I C n c z else none) none else none) else none) = some (o, I1, C1, n1, c1, z1) := h
  obtain ⟨hlen, h7⟩ := bif_inv (show (bif Nat.ble b st.length then _ else none) = some (o, I1, C1, n1, c1, z1) from h8)
  obtain ⟨hct9, h6⟩ := bif_inv h7
  obtain ⟨f, i, as, has, h5⟩ := sO_inv h6
  obtain ⟨hkf, hcall⟩ := bif_inv h5
  have hkf := beqN hkf
  rw [← has] at hcall
  have hlen := bleN hlen
  have hct := and2 hct9
  have hct1 := bleN hct.1
  have hct2 := beqN hct.2
  have hsplit : st.take b ++ st.drop b = st := List.take_append_drop b st
  have hlb : (st.take b).length = b := by rw [List.length_take]; omega
  have hgr : Gt n (st.drop b) := fun v hv => jT v (List.mem_of_mem_drop hv)
  have hsho : ∀ v ∈ (st.take b).reverse, sho v := fun v hv => ctg_sho (st.take b) (by omega) v (List.mem_reverse.mp hv)
  have hga : Gt n (st.take b).reverse := fun v hv => jT v (List.mem_of_mem_take (List.mem_reverse.mp hv))
  obtain ⟨k1, k2, oa, Ia, Ca, na, ca, za, b1, b2, b3, b4⟩ := run_split (m, pc, ls, st.drop b) [] (o, I1, C1, n1, c1, z1) k a 0 (ini a (st.take b).reverse) [] [] I C n c z hcall
  obtain ⟨_, d2, d3, d4⟩ := run_keep okAall okMp _ _ _ _ _ _ _ _ _ _ _ _ _ _ _ _ _ b3
  have d1 : n ≤ na := hna.elim (fun g => run_keepN okAall okMn _ _ _ _ _ _ _ _ _ _ _ _ _ _ _ _ _ g (fun _ hf => by cases hf) b3) (fun g => by omega)
  have hck : ca ≤ c1 ∧ za ≤ z1 := by
    cases oa with
    | inl v =>
      obtain ⟨_, e2, e3, _⟩ := run_keep okAall okMp _ _ _ _ _ _ _ _ _ _ _ _ _ _ _ _ _ (show run k2 m (pc + 3) ls (v.toList ++ st.drop b) [] Ia Ca na ca za = some (o, I1, C1, n1, c1, z1) from b4)
      exact ⟨e2, e3⟩
    | inr E =>
      have b5 : (match hnd m pc E with
        | none => none
        | some none => run k2 999 E [] [] [] Ia Ca na ca za
        | some (some (h, k)) => run k2 m h (ls.set k none) [] [] Ia Ca na ca za) = some (o, I1, C1, n1, c1, z1) := b4
      cases hh : hnd m pc E with
      | none => rw [hh] at b5; cases b5
      | some y =>
        rw [hh] at b5
        cases y with
        | none =>
          obtain ⟨_, e2, e3, _⟩ := run_keep okAall okMp _ _ _ _ _ _ _ _ _ _ _ _ _ _ _ _ _ b5
          exact ⟨e2, e3⟩
        | some y =>
          obtain ⟨_, e2, e3, _⟩ := run_keep okAall okMp _ _ _ _ _ _ _ _ _ _ _ _ _ _ _ _ _ b5
          exact ⟨e2, e3⟩
  have hcr : cells ≤ R.cells ∧ slots ≤ R.slots := by omega
  have hy9 : ¬ a = 173 := fun g => by
    subst g
    exact hcw (by rw [show q2 = _ from (Option.some.inj (hq2.symm.trans (show MTf 173 = some _ from rfl)))])
  have hcw := cw_all hq2 hy9
  have hM := met_of (D := D) (A := A) (bS := bS) (ih k1 (by omega)) hy9 b3 d2 d3 hq2 hpl hcw hsho (by rw [List.length_reverse, hlb]; exact hpad) hga jG hna ads cas
  have hpre : ∀ U : State, U.heap = H → s.WarmedH U.vm → Wc D A bS (ads, cas) I C n U := fun U hU hW => ⟨⟨by rw [hU]; exact jP, jD, jK.moved hW.alike⟩, X.warm hW (fun a9 h1 h2 => by rw [hU]; exact jS.2.1 a9 h1 h2), fun q9 hq9 => hA q9 (Nat.le_trans jS.1 (by rw [← hU]; exact hq9))⟩
  have hF : cells + (ca - c) ≤ R.cells ∧ slots + (za - z) ≤ R.slots := by omega
  have hR9 : q2.2.2.2.2.1 + 1 ≤ R.frames ∧ 8 + (q2.2.2.1 + 11) + q2.2.2.2.2.2.1 ≤ R.locals := by rw [B.2.2.2.2.2.2.2.2.2.1, B.2.2.2.2.2.2.2.2.2.2]; exact hfr
  have hcat9 : ((st.drop b).map (ev ads bS)).map (fun v => v.category) = ((st.drop b).map (ev ads bS)).map (fun v => v.category) := rfl
  have hroom : 2 * (F0 mm pc sl (st.map (ev ads bS))).monitorRoom + (((st.drop b).map (ev ads bS)).map fun v => v.category).sum ≤ 8 := by
    rw [ctg_eq]; show 2 * 0 + _ ≤ 8; omega
  have hAs : (((st.take b).reverse).map (ev ads bS)).length = b := by rw [List.length_map, List.length_reverse, hlb]
  have hstk : st.map (ev ads bS) = (((st.take b).reverse).map (ev ads bS)).reverse ++ (st.drop b).map (ev ads bS) := by
    rw [← List.map_reverse, List.reverse_reverse, ← List.map_append, hsplit]
  have hb1 : as.length + 1 = b := by
    have e9 : (st.take b).reverse.length = b := by rw [List.length_reverse, hlb]
    rw [has] at e9
    exact e9
  have hgf : Gv n (vr f i) := hga (vr f i) (by rw [has]; exact List.mem_cons_self)
  obtain ⟨hv, hf9⟩ := vd_of hgf (by omega)
  have hK9 : va_K D vwCl [] s := ⟨X.2.1, fun _ _ z => by simp at z⟩
  have he9 : (wl ads cas bS I C n)[offA f i]? = some (ads (offA f i), .inr (kd f, (List.range (lnN f)).map (fsv ads bS I C f i))) := by rw [wl_get hv.1, wen_obj hv (by omega)]
  have hrec := va_recv hK9 jP (cls_at (kd f) (by omega)) he9
  have hrec : ∃ cell : Cell, H[adr ads bS (f, i)]? = some cell ∧ cell.vm.isStatics = false ∧ s.vm.findClass q2.1.cls = some cell.cls := by
    rw [adr_of hf9, ← hcn]
    rw [hkf] at hrec
    exact hrec
  rw [has] at hM hAs hstk
  have hstk2 : st.map (ev ads bS) = (as.map (ev ads bS)).reverse ++ .ref (adr ads bS (f, i)) :: (st.drop b).map (ev ads bS) := by
    rw [hstk, List.map_cons, List.reverse_cons, List.append_assoc]
    rfl
  have hAs2 : (as.map (ev ads bS)).length = b - 1 := by rw [List.length_map]; omega
  rw [y0] at hlk
  have hcb : CallB R s args q.1.cls j q2.1 q2.2.1 q2.2.2.1 q2.2.2.2.1 (cwd q2 :: TW) { frames := q2.2.2.2.2.1, cells := ca - c, slots := za - z, locals := q2.2.2.2.2.2.1 } (ca - c) (za - z) (b - 1) := callB_of (b - 1) B.2.2.2.2.2.1 (in_TW (a := []) (fun _ h => by cases h) hcw) (by rw [cwd_nil hh2]) rfl rfl (B.2.2.2.2.2.1 _ hin) (B.2.2.2.2.2.1 _ (isW_mem hlk)) ⟨hmh.1, hmh.2, y5⟩ hR9
  have hcw9 : CallW R s args q.1.cls q2.1.cls j q2.1 q2.2.1 q2.2.2.1 q2.2.2.2.1 (cwd q2 :: TW) { frames := q2.2.2.2.2.1, cells := ca - c, slots := za - z, locals := q2.2.2.2.2.2.1 } (ca - c) (za - z) (b - 1) := ⟨hcb, B.2.2.2.2.2.1 _ (isW_mem y3), B.2.2.2.2.2.1 _ (isW_mem y4)⟩
  have hPV : PreV s H q2.1.cls (adr ads bS (f, i)) (va_Pc ((vr f i :: as).map (ev ads bS)) (Wc D A bS (ads, cas) I C n)) (as.map (ev ads bS)) := ⟨Wc.blind, hrec, fun U hU hW => ⟨rfl, hpre U hU hW⟩⟩
  cases oa with
  | inl v => exact call_ret B X hA J0 hc1 hz1 hn0 hEx hq (ih k2 (by omega)) hn9 hgr d1 d4 d2 d3 b4 hck.1 hck.2 (va_runV ⟨B.1, B.2.1, B.2.2.2.1, B.2.2.2.2.1, B.2.2.2.2.2.1⟩ (Met.of_vx hM) hcw9 hPV rfl hAs2 (jV.1) hstk2 hroom hd hF)
  | inr E => exact call_thr (w := w) B X hA J0 hc1 hz1 hn0 hEx hq (ih k2 (by omega)) hn9 hgr d1 d4 d2 d3 b4 hck.1 hck.2 hprp (fun g => by rw [g] at y9; exact y9) (vx_runV ⟨B.1, B.2.1, B.2.2.2.1, B.2.2.2.2.1, B.2.2.2.2.2.1⟩ hM hcw9 hPV rfl hAs2 (jV.1) hstk2 hroom hd hF)
theorem sn_special {l : Launch} {D : va_G} {A : Nat → Prop} {bS : Nat} {p : Program} {e : Env} {R : Room} {s : State} {mm : MethodId} {args : Array Value} {below : List Frame} {meth : Method} {cc : Code} {q : mI} {m pc : Nat} {H : Heap} {locs : List Loc} {cells slots : Nat} {sl : Array Slot} {ads : Nat → Nat} {cas : Nat → ClassId} {ls : lo} {st : List av} {I : IT} {C : CT} {n c z : Nat} {w : List Nat} {len a b d : Nat} {o : Option av ⊕ Nat} {I1 : IT} {C1 : CT} {n1 c1 z1 n0 : Nat} {ads0 : Nat → Nat} {cas0 : Nat → ClassId} {k : Nat} {j : Nat} (ih : ∀ k9, k9 ≤ k → Snd l D bS A k9) (hq : MTf m = some q) (hn9 : nm m = false → n0 = 0) (hna : nm a = true ∨ n = 0) (B : Bx p R s mm args meth cc q) (X : Cx A D s) (hA : ∀ q : Nat, s.heap.size ≤ q → A q) (J : Jw D A s m q.2.2.1 ads cas bS I C n H locs sl ls st) (hc1 : cells + c1 ≤ R.cells + c) (hz1 : slots + z1 ≤ R.slots + z) (hn0 : n0 ≤ n) (hEx : Ex n0 ads0 cas0 (ads, cas)) (hd2 : ¬ Nat.beq d 2 = true) (hok : okE m q pc (.invokespecial j, len, a, b, d) w = true) (h : stp (.invokespecial j, len, a, b, d) pc ls st I C n c z (fun pc' ls' st' I' C' n' c' z' => run k m pc' ls' st' [] I' C' n' c' z') (fun y as r => run k y 0 (ini y as) [] [(m, pc, ls, r)] I C n c z) (fun v => fin (run k) (Sum.inl v) [] I C n c z) (fun E c' z' => fin (run k) (Sum.inr E) [] I C n c' z') none = some (o, I1, C1, n1, c1, z1)) : W p l e R s mm args below meth cc H locs cells slots (vx_MQ below (Qo D A bS ads0 cas0 n0 o I1 C1 n1) (Xo D A bS ads0 cas0 n0 o I1 C1 n1) args s R.cells R.slots A) (F0 mm pc sl (st.map (ev ads bS))) := by
  obtain ⟨hd0, hk⟩ := and2 hok
  have hd := of_decide_eq_true hd0
  have J0 := J
  obtain ⟨jP, jD, jK, jG, jL, jT, jV, jS, jX⟩ := J
  have hk : (bif Nat.beq d 2 then _ else (Nat.beq len 3 && Nat.ble 1 b && (match MTf a with | none => false | some q2 => okY m pc q q2 j b w && q2.2.2.2.2.2.2.isEmpty && isW (gW w 3) (.instanceMethod q2.1) && decide (q2.1.name = "<init>") && decide (q2.2.2.2.1 = none) && decide ((parseMethodDescriptor q2.1.desc).map (fun d => d.parameters.length) = some (b - 1)) && Nat.beq (b + pad a) q2.2.2.1 && Nat.ble (mcl a) 10 && decide (cN (mcl a) = q2.1.cls) && !(prp m pc) && !(wrp m pc)))) = true := hk
  rw [bfalse hd2] at hk
  have hk : ((Nat.beq len 3 && Nat.ble 1 b) && (match MTf a with | none => false | some q2 => okY m pc q q2 j b w && q2.2.2.2.2.2.2.isEmpty && isW (gW w 3) (.instanceMethod q2.1) && decide (q2.1.name = "<init>") && decide (q2.2.2.2.1 = none) && decide ((parseMethodDescriptor q2.1.desc).map (fun d => d.parameters.length) = some (b - 1)) && Nat.beq (b + pad a) q2.2.2.1 && Nat.ble (mcl a) 10 && decide (cN (mcl a) = q2.1.cls) && !(prp m pc) && !(wrp m pc))) = true := hk
  obtain ⟨hl, hkm⟩ := and2 hk
  obtain ⟨hl, hb0⟩ := and2 hl
  have hl := beqN hl
  subst hl
  cases hq2 : MTf a with
  | none => rw [hq2] at hkm; cases hkm
  | some q2 =>
  rw [hq2] at hkm
  dsimp only at hkm
  obtain ⟨hkm, y12⟩ := and2 hkm
  obtain ⟨hkm, y11⟩ := and2 hkm
  obtain ⟨hkm, y8⟩ := and2 hkm
  obtain ⟨hkm, y7⟩ := and2 hkm
  obtain ⟨hkm, y6⟩ := and2 hkm
  obtain ⟨hkm, y5⟩ := and2 hkm
  obtain ⟨hkm, y10⟩ := and2 hkm
  obtain ⟨hkm, y4⟩ := and2 hkm
  obtain ⟨hkm, y3⟩ := and2 hkm
  obtain ⟨y1, y2⟩ := and2 hkm
  obtain ⟨hmh, hfr, hlk, hcw, hin, hpl, hprp⟩ := okY_inv y1
  have hpad := beqN y6
  have y5 := of_decide_eq_true y5
  have y10 := of_decide_eq_true y10
  have hmc := bleN y7
  have hcn := of_decide_eq_true y8
  have hh2 := List.isEmpty_iff.mp y2
  have h8 : (bif Nat.beq d 2 then _ else bif Nat.ble b st.length then (bif (Nat.ble (ctg (st.drop b)) 8 && Nat.beq (ctg (st.take b)) b) then sO (st.take b).reverse (fun f i as => bif Nat.beq (kd f) (mcl a) then run k a 0 (ini a (vr f i :: as)) [] [(m, pc, ls, st.drop b)] I C n c z else none) none else none) else none) = some (o, I1, C1, n1, c1, z1) := h
  rw [bfalse hd2] at h8
  obtain ⟨hlen, h7⟩ := bif_inv (show (bif Nat.ble b st.length then _ else none) = some (o, I1, C1, n1, c1, z1) from h8)
  obtain ⟨hct9, h6⟩ := bif_inv h7
  obtain ⟨f, i, as, has, h5⟩ := sO_inv h6
  obtain ⟨hkf, hcall⟩ := bif_inv h5
  have hkf := beqN hkf
  rw [← has] at hcall
  have hlen := bleN hlen
  have hct := and2 hct9
  have hct1 := bleN hct.1
  have hct2 := beqN hct.2
  have hsplit : st.take b ++ st.drop b = st := List.take_append_drop b st
  have hlb : (st.take b).length = b := by rw [List.length_take]; omega
  have hgr : Gt n (st.drop b) := fun v hv => jT v (List.mem_of_mem_drop hv)
  have hsho : ∀ v ∈ (st.take b).reverse, sho v := fun v hv => ctg_sho (st.take b) (by omega) v (List.mem_reverse.mp hv)
  have hga : Gt n (st.take b).reverse := fun v hv => jT v (List.mem_of_mem_take (List.mem_reverse.mp hv))
  obtain ⟨k1, k2, oa, Ia, Ca, na, ca, za, b1, b2, b3, b4⟩ := run_split (m, pc, ls, st.drop b) [] (o, I1, C1, n1, c1, z1) k a 0 (ini a (st.take b).reverse) [] [] I C n c z hcall
  obtain ⟨_, d2, d3, d4⟩ := run_keep okAall okMp _ _ _ _ _ _ _ _ _ _ _ _ _ _ _ _ _ b3
  have d1 : n ≤ na := hna.elim (fun g => run_keepN okAall okMn _ _ _ _ _ _ _ _ _ _ _ _ _ _ _ _ _ g (fun _ hf => by cases hf) b3) (fun g => by omega)
  have hck : ca ≤ c1 ∧ za ≤ z1 := by
    cases oa with
    | inl v =>
      obtain ⟨_, e2, e3, _⟩ := run_keep okAall okMp _ _ _ _ _ _ _ _ _ _ _ _ _ _ _ _ _ (show run k2 m (pc + 3) ls (v.toList ++ st.drop b) [] Ia Ca na ca za = some (o, I1, C1, n1, c1, z1) from b4)
      exact ⟨e2, e3⟩
    | inr E =>
      have b5 : (match hnd m pc E with
        | none => none
        | some none => run k2 999 E [] [] [] Ia Ca na ca za
        | some (some (h, k)) => run k2 m h (ls.set k none) [] [] Ia Ca na ca za) = some (o, I1, C1, n1, c1, z1) := b4
      cases hh : hnd m pc E with
      | none => rw [hh] at b5; cases b5
      | some y =>
        rw [hh] at b5
        cases y with
        | none =>
          obtain ⟨_, e2, e3, _⟩ := run_keep okAall okMp _ _ _ _ _ _ _ _ _ _ _ _ _ _ _ _ _ b5
          exact ⟨e2, e3⟩
        | some y =>
          obtain ⟨_, e2, e3, _⟩ := run_keep okAall okMp _ _ _ _ _ _ _ _ _ _ _ _ _ _ _ _ _ b5
          exact ⟨e2, e3⟩
  have hcr : cells ≤ R.cells ∧ slots ≤ R.slots := by omega
  have hy9 : ¬ a = 173 := fun g => by
    subst g
    exact hcw (by rw [show q2 = _ from (Option.some.inj (hq2.symm.trans (show MTf 173 = some _ from rfl)))])
  have hcw := cw_all hq2 hy9
  have hM := met_of (D := D) (A := A) (bS := bS) (ih k1 (by omega)) hy9 b3 d2 d3 hq2 hpl hcw hsho (by rw [List.length_reverse, hlb]; exact hpad) hga jG hna ads cas
  have hpre : ∀ U : State, U.heap = H → s.WarmedH U.vm → Wc D A bS (ads, cas) I C n U := fun U hU hW => ⟨⟨by rw [hU]; exact jP, jD, jK.moved hW.alike⟩, X.warm hW (fun a9 h1 h2 => by rw [hU]; exact jS.2.1 a9 h1 h2), fun q9 hq9 => hA q9 (Nat.le_trans jS.1 (by rw [← hU]; exact hq9))⟩
  have hF : cells + (ca - c) ≤ R.cells ∧ slots + (za - z) ≤ R.slots := by omega
  have hR9 : q2.2.2.2.2.1 + 1 ≤ R.frames ∧ 8 + (q2.2.2.1 + 11) + q2.2.2.2.2.2.1 ≤ R.locals := by rw [B.2.2.2.2.2.2.2.2.2.1, B.2.2.2.2.2.2.2.2.2.2]; exact hfr
  have hcat9 : ((st.drop b).map (ev ads bS)).map (fun v => v.category) = ((st.drop b).map (ev ads bS)).map (fun v => v.category) := rfl
  have hroom : 2 * (F0 mm pc sl (st.map (ev ads bS))).monitorRoom + (((st.drop b).map (ev ads bS)).map fun v => v.category).sum ≤ 8 := by
    rw [ctg_eq]; show 2 * 0 + _ ≤ 8; omega
  have hAs : (((st.take b).reverse).map (ev ads bS)).length = b := by rw [List.length_map, List.length_reverse, hlb]
  have hstk : st.map (ev ads bS) = (((st.take b).reverse).map (ev ads bS)).reverse ++ (st.drop b).map (ev ads bS) := by
    rw [← List.map_reverse, List.reverse_reverse, ← List.map_append, hsplit]
  have hb1 : as.length + 1 = b := by
    have e9 : (st.take b).reverse.length = b := by rw [List.length_reverse, hlb]
    rw [has] at e9
    exact e9
  have hgf : Gv n (vr f i) := hga (vr f i) (by rw [has]; exact List.mem_cons_self)
  obtain ⟨hv, hf9⟩ := vd_of hgf (by omega)
  have hK9 : va_K D vwCl [] s := ⟨X.2.1, fun _ _ z => by simp at z⟩
  have he9 : (wl ads cas bS I C n)[offA f i]? = some (ads (offA f i), .inr (kd f, (List.range (lnN f)).map (fsv ads bS I C f i))) := by rw [wl_get hv.1, wen_obj hv (by omega)]
  have hrec := va_recv hK9 jP (cls_at (kd f) (by omega)) he9
  have hrec : ∃ cell : Cell, H[adr ads bS (f, i)]? = some cell ∧ cell.vm.isStatics = false ∧ s.vm.findClass q2.1.cls = some cell.cls := by
    rw [adr_of hf9, ← hcn]
    rw [hkf] at hrec
    exact hrec
  rw [has] at hM hAs hstk
  have hstk2 : st.map (ev ads bS) = (as.map (ev ads bS)).reverse ++ .ref (adr ads bS (f, i)) :: (st.drop b).map (ev ads bS) := by
    rw [hstk, List.map_cons, List.reverse_cons, List.append_assoc]
    rfl
  have hAs2 : (as.map (ev ads bS)).length = b - 1 := by rw [List.length_map]; omega
  have hPS : PreS s H (va_Pc ((vr f i :: as).map (ev ads bS)) (Wc D A bS (ads, cas) I C n)) (.ref (adr ads bS (f, i)) :: as.map (ev ads bS)) := ⟨Wc.blind, fun U hU hW => ⟨rfl, hpre U hU hW⟩⟩
  have hcwd : cwd q2 = .code q2.1 q2.2.1 q2.2.2.1 none := by rw [cwd_nil hh2, y10]
  cases oa with
  | inr E =>
    have e1 : hnd m pc E = none := by
      unfold hnd
      rw [show prp m pc = false by simpa using y11, show wrp m pc = false by simpa using y12]; rfl
    have b5 : (match hnd m pc E with
      | none => none
      | some none => run k2 999 E [] [] [] Ia Ca na ca za
      | some (some (h, k)) => run k2 m h (ls.set k none) [] [] Ia Ca na ca za) = some (o, I1, C1, n1, c1, z1) := b4
    rw [e1] at b5
    cases b5
  | inl v =>
    by_cases hw0 : Nat.beq (gW w 0) 0 = true
    · rw [hw0] at hlk
      have hcb : CallB R s args q.1.cls j q2.1 q2.2.1 q2.2.2.1 none (cwd q2 :: TW) { frames := q2.2.2.2.2.1, cells := ca - c, slots := za - z, locals := q2.2.2.2.2.2.1 } (ca - c) (za - z) (b - 1) := callB_of (b - 1) B.2.2.2.2.2.1 (in_TW (a := []) (fun _ h => by cases h) hcw) (by rw [hcwd]) rfl rfl (B.2.2.2.2.2.1 _ hin) (B.2.2.2.2.2.1 _ (isW_mem hlk)) ⟨hmh.1, hmh.2, y5⟩ hR9
      exact call_ret B X hA J0 hc1 hz1 hn0 hEx hq (ih k2 (by omega)) hn9 hgr d1 d4 d2 d3 b4 hck.1 hck.2 (va_runI ⟨B.1, B.2.1, B.2.2.2.1, B.2.2.2.2.1, B.2.2.2.2.2.1⟩ (Met.of_vx hM) ⟨hcb, of_decide_eq_true y4, B.2.2.2.2.2.1 _ (isW_mem y3)⟩ hPS rfl hAs2 (jV.1) hstk2 hroom hd hF)
    · rw [bfalse hw0] at hlk
      have hcnn : va_CN R s args q.1.cls j q2.1 "CompassRolls" q2.2.1 q2.2.2.1 none (cwd q2 :: TW) { frames := q2.2.2.2.2.1, cells := ca - c, slots := za - z, locals := q2.2.2.2.2.2.1 } (ca - c) (za - z) (b - 1) := va_cnB (b - 1) B.2.2.2.2.2.1 (in_TW (a := []) (fun _ h => by cases h) hcw) (by rw [hcwd]) rfl rfl (X.1 _ (isN_mem hlk).1 (isN_mem hlk).2) (B.2.2.2.2.2.1 _ hin) ⟨hmh.1, hmh.2, y5⟩ hR9
      exact call_ret B X hA J0 hc1 hz1 hn0 hEx hq (ih k2 (by omega)) hn9 hgr d1 d4 d2 d3 b4 hck.1 hck.2 (va_runIN ⟨B.1, B.2.1, B.2.2.2.1, B.2.2.2.2.1, B.2.2.2.2.2.1⟩ (Met.of_vx hM) ⟨hcnn, of_decide_eq_true y4, B.2.2.2.2.2.1 _ (isW_mem y3)⟩ hPS rfl hAs2 (jV.1) hstk2 hroom hd hF)
theorem Gv_0 {n : Nat} {v : av} (h : Gv n v) (h2 : ∀ q, v = vq (some q) → q = (99, 0)) : Gv 0 v := by
  rcases v with x | y | r
  · exact h
  · exact h
  · intro q hq
    subst hq
    exact Or.inr (h2 q rfl)
theorem C0_none : ∀ k, k < 211 → ∀ j, j < lnN (idOf k).1 → C0 (idOf k).1 (idOf k).2 j = none := by decide +kernel
/-- where all objects are let go of -/
theorem Jw.drop {D : va_G} {A : Nat → Prop} {s : State} {m mx : Nat} {ads : Nat → Nat} {cas : Nat → ClassId} {bS : Nat} {I : IT} {C : CT} {n : Nat} {H : Heap} {locs : List Loc} {sl : Array Slot} {ls : lo} {st : List av} (J : Jw D A s m mx ads cas bS I C n H locs sl ls st) : Jw D A s m mx ads cas bS (IZ I) CZ 0 H locs sl (kls ls) [] := by
  obtain ⟨jP, jD, jK, jG, jL, jT, jV, jS, jX⟩ := J
  refine ⟨jP.sub [] rfl, ?_, fun k hk => absurd hk (Nat.not_lt_zero _), ?_, fun i v hi => ?_, fun v hv => by (cases hv), ?_, jS, sxI jX (fun i j => IZ_99)⟩
  · exact jD.sub [] rfl rfl
  · obtain ⟨g1, g2, g3, g4, g5, g6, g7⟩ := jG
    refine ⟨Nat.zero_le _, fun f i j h => absurd h.1 (Nat.not_lt_zero _), fun f i j h => absurd h.1 (Nat.not_lt_zero _), fun f i j q h => absurd h.1 (Nat.not_lt_zero _), fun k _ hk j => ⟨if_neg (by have := id_27 k hk; omega), C0_none k hk j⟩, fun j => ?_, ?_⟩
    · rw [IZ_99]; exact g6 j
    · rw [IZ_99]; exact g7
  · obtain ⟨h1, h2⟩ := kls_inv hi
    obtain ⟨h3, h4⟩ := jL i v h1
    exact ⟨Gv_0 h3 h2, h4⟩
  · obtain ⟨l1, l2, l3, l4⟩ := jV
    exact ⟨l1, l2, by unfold kls; rw [List.length_map]; exact l3, fun i v hi => l4 i v (kls_inv hi).1⟩
set_option maxHeartbeats 4000000 in
/-- every run of every method, by any fuel -/
theorem snd_all (l : Launch) (hst : l.stackTraces = false) (D : va_G) (bS : Nat) (A : Nat → Prop) : ∀ k, Snd l D bS A k := by
  intro k
  induction k using Nat.strongRecOn with
  | _ k ih =>
  cases k with
  | zero => intro m pc ls st I C n c z o I1 C1 n1 c1 z1 h; cases h
  | succ k =>
    intro m pc ls st I C n c z o I1 C1 n1 c1 z1 h p e R s mm args below meth cc q H locs cells slots sl ads cas n0 ads0 cas0 hq B X hA J hc1 hz1 hn0 hEx hn9
    obtain ⟨kp1, kp2, kp3, kp4⟩ := run_keep okAall okMp _ _ _ _ _ _ _ _ _ _ _ _ _ _ _ _ _ h
    have ih2 : ∀ k9, k9 ≤ k → Snd l D bS A k9 := fun k9 hk9 => ih k9 (by omega)
    have key : ∀ (e9 : ent) (ls : lo) (st : List av) (I : IT) (C : CT) (n : Nat), (∃ w, okE m q pc e9 w = true) → (okA e9 ∨ n = 0) → Jw D A s m q.2.2.1 ads cas bS I C n H locs sl ls st → n0 ≤ n → stp e9 pc ls st I C n c z (fun pc' ls' st' I' C' n' c' z' => run k m pc' ls' st' [] I' C' n' c' z') (fun y as r => run k y 0 (ini y as) [] [(m, pc, ls, r)] I C n c z) (fun v => fin (run k) (Sum.inl v) [] I C n c z) (fun E c' z' => fin (run k) (Sum.inr E) [] I C n c' z') none = some (o, I1, C1, n1, c1, z1) → W p l e R s mm args below meth cc H locs cells slots (vx_MQ below (Qo D A bS ads0 cas0 n0 o I1 C1 n1) (Xo D A bS ads0 cas0 n0 o I1 C1 n1) args s R.cells R.slots A) (F0 mm pc sl (st.map (ev ads bS))) := by
      intro e9 ls st I C n hok hna J hn0 h9
      obtain ⟨w, hok⟩ := hok
      obtain ⟨i, len, a, b, d⟩ := e9
      by_cases hg : gos i d = true
      · refine sn_all B J X hA (by omega) hg hok h9 (fun pc' ls' st' I' C' n' c' z' hr => ?_) (fun pc' ls' st' I' C' n' c' z' ads' cas' H' locs' sl' cells' slots' hr h1 h2 h3 h4 h5 => ?_)
        · obtain ⟨e1, e2, e3, e4⟩ := run_keep okAall okMp _ _ _ _ _ _ _ _ _ _ _ _ _ _ _ _ _ hr
          omega
        · exact ih2 k (Nat.le_refl _) m pc' ls' st' I' C' n' c' z' o I1 C1 n1 c1 z1 hr p e R s mm args below meth cc q H' locs' cells' slots' sl' ads' cas' n0 ads0 cas0 hq B X hA h3 (by omega) (by omega) (by omega) (fun k hk => ⟨(h2 k (by omega)).1.trans (hEx k hk).1, (h2 k (by omega)).2.trans (hEx k hk).2⟩) hn9
      · cases i with
        | new j =>
          have hd9 : Nat.beq d 9 = true := by
            cases g : Nat.beq d 9
            · exact absurd (by simp [gos, g]) hg
            · rfl
          exact sn_throw B X hA J hc1 hz1 hn0 hEx hst hd9 hok h9
        | invokestatic j =>
          have hna2 : nm a = true ∨ n = 0 := hna.elim (fun g => (g.2.1 j rfl).imp id (fun g2 => by
            have g2 : d = 3 := g2
            subst g2
            exact absurd rfl hg)) Or.inr
          exact sn_static ih2 hq hn9 hna2 B X hA J hc1 hz1 hn0 hEx hg hok h9
        | invokevirtual j => exact sn_virtual ih2 hq hn9 (hna.imp (fun g => g.2.2.1 j rfl) id) B X hA J hc1 hz1 hn0 hEx hok h9
        | invokespecial j =>
          have hna2 : nm a = true ∨ n = 0 := hna.elim (fun g => (g.2.2.2 j rfl).imp id (fun g2 => by
            have g2 : d = 2 := g2
            subst g2
            exact absurd rfl hg)) Or.inr
          exact sn_special ih2 hq hn9 hna2 B X hA J hc1 hz1 hn0 hEx hg hok h9
        | ireturn => exact sn_ireturn B X hA J hc1 hz1 hn0 hEx hok h9
        | return_ => exact sn_return B X hA J hc1 hz1 hn0 hEx hok h9
        | athrow =>
          have hk := (and2 hok).2
          cases hk
        | _ => exact absurd rfl hg
    have h9 : (match cd m pc with
      | none => (match mkd m pc with
        | none => none
        | some e => s0 st (stp e pc (kls ls) [] (IZ I) CZ 0 c z (fun pc' ls' st' I' C' n' c' z' => run k m pc' ls' st' [] I' C' n' c' z') (fun y as r => run k y 0 (ini y as) [] [(m, pc, kls ls, r)] (IZ I) CZ 0 c z) (fun v => fin (run k) (Sum.inl v) [] (IZ I) CZ 0 c z) (fun E c' z' => fin (run k) (Sum.inr E) [] (IZ I) CZ 0 c' z') none) none)
      | some e => stp e pc ls st I C n c z (fun pc' ls' st' I' C' n' c' z' => run k m pc' ls' st' [] I' C' n' c' z') (fun y as r => run k y 0 (ini y as) [] [(m, pc, ls, r)] I C n c z) (fun v => fin (run k) (Sum.inl v) [] I C n c z) (fun E c' z' => fin (run k) (Sum.inr E) [] I C n c' z') none) = some (o, I1, C1, n1, c1, z1) := h
    cases hcd : cd m pc with
    | none =>
      rw [hcd] at h9
      dsimp only at h9
      cases hmk : mkd m pc with
      | none => rw [hmk] at h9; cases h9
      | some e9 =>
        rw [hmk] at h9
        dsimp only at h9
        obtain ⟨rfl, h8⟩ := s0_inv h9
        have hn : n0 = 0 := hn9 (okMn m pc e9 hmk)
        exact key e9 (kls ls) [] (IZ I) CZ 0 (okMk hq hmk) (Or.inr rfl) J.drop (by omega) h8
    | some e9 =>
      rw [hcd] at h9
      dsimp only at h9
      exact key e9 ls st I C n (okAll m q pc e9 hq hcd) (Or.inl (okAall m pc e9 hcd)) J hn0 h9
