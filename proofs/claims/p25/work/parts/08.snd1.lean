/-! A step of the abstract machine, held against the JVM's: what holds at a point, and the rows, a kind of instruction each. -/
theorem and2 {a b : Bool} (h : (a && b) = true) : a = true ∧ b = true := by
  cases a <;> cases b <;> simp_all
theorem beqN {a b : Nat} (h : Nat.beq a b = true) : a = b := Nat.eq_of_beq_eq_true h
theorem bleN {a b : Nat} (h : Nat.ble a b = true) : a ≤ b := Nat.le_of_ble_eq_true h
theorem xIl_inv {α : Type} {o : Option (Option av)} {k : Int → Option α} {u : α} (h : xIl o k none = some u) : ∃ x, o = some (some (vi x)) ∧ k x = some u := by
  unfold xIl at h
  split at h
  · exact ⟨_, rfl, h⟩
  · cases h
theorem xRl_inv {α : Type} {o : Option (Option av)} {k : Option (Nat × Nat) → Option α} {u : α} (h : xRl o k none = some u) : ∃ x, o = some (some (vq x)) ∧ k x = some u := by
  unfold xRl at h
  split at h
  · exact ⟨_, rfl, h⟩
  · cases h
theorem sI_inv {α : Type} {st : List av} {k : Int → List av → Option α} {u : α} (h : sI st k none = some u) : ∃ x r, st = vi x :: r ∧ k x r = some u := by
  unfold sI at h
  split at h
  · exact ⟨_, _, rfl, h⟩
  · cases h
theorem sII_inv {α : Type} {st : List av} {k : Int → Int → List av → Option α} {u : α} (h : sII st k none = some u) : ∃ x y r, st = vi y :: vi x :: r ∧ k x y r = some u := by
  unfold sII at h
  split at h
  · exact ⟨_, _, _, rfl, h⟩
  · cases h
theorem sLL_inv {α : Type} {st : List av} {k : Int → Int → List av → Option α} {u : α} (h : sLL st k none = some u) : ∃ x y r, st = vl y :: vl x :: r ∧ k x y r = some u := by
  unfold sLL at h
  split at h
  · exact ⟨_, _, _, rfl, h⟩
  · cases h
theorem sR_inv {α : Type} {st : List av} {k : Option (Nat × Nat) → List av → Option α} {u : α} (h : sR st k none = some u) : ∃ x r, st = vq x :: r ∧ k x r = some u := by
  unfold sR at h
  split at h
  · exact ⟨_, _, rfl, h⟩
  · cases h
theorem sO_inv {α : Type} {st : List av} {k : Nat → Nat → List av → Option α} {u : α} (h : sO st k none = some u) : ∃ f i r, st = vr f i :: r ∧ k f i r = some u := by
  unfold sO at h
  split at h
  · exact ⟨_, _, _, rfl, h⟩
  · cases h
theorem bif_inv {α : Type} {b : Bool} {x : Option α} {u : α} (h : (bif b then x else none) = some u) : b = true ∧ x = some u := by
  cases b
  · cases h
  · exact ⟨rfl, h⟩
theorem ite_inv {α : Type} {c : Prop} {d : Decidable c} {x : Option α} {u : α} (h : @ite _ c d x none = some u) : c ∧ x = some u := by
  by_cases hc : c
  · rw [if_pos hc] at h; exact ⟨hc, h⟩
  · rw [if_neg hc] at h; cases h
/-- the frame of a method, by the table's row of it -/
def Bx (p : Program) (R : Room) (s : State) (mm : MethodId) (args : Array Value) (meth : Method) (cc : Code) (q : mI) : Prop :=
  p.tables.exec = Jvm.exec ∧ cc.code = q.2.1 ∧ meth.sig.returnType = q.2.2.2.1 ∧ cc.maxLocals = q.2.2.1 ∧ s.vm.findClass q.1.cls = some mm.cls ∧ (∀ w ∈ TW, w.before args s = true) ∧ meth.locks = false ∧ cc.exceptionTable.toList = tableOf q.2.2.2.2.2.2 ∧ meth.name = q.1.name ∧ R.frames = q.2.2.2.2.1 ∧ R.locals = q.2.2.2.2.2.1
def ncs : List (String × String) := [(exN 0, exN 1), (exN 0, exN 2), (exN 1, exN 0), (exN 1, exN 2), (exN 2, exN 0), (exN 2, exN 1)]
/-- what the tables say at a state: the words that warm, the classes, the texts, the two statics of Throwable -/
def Cx (A : Nat → Prop) (D : va_G) (s : State) : Prop :=
  (∀ w ∈ lw_tbl, wrm w = true → va_Nw w s) ∧ (∀ (c : Nat) (q : vw_C), vwCl[c]? = some q → u_Kn s q.1 q.2.1 q.2.2 (D.1 c) (D.2 c)) ∧ (∀ q ∈ strs, ∃ sa : Nat, vk_R "CompassRolls" q.1 q.2 sa s) ∧ (∀ q ∈ ncs, va_Nc q.1 q.2 s) ∧
  vx_Zq Bundle.tN "UNASSIGNED_STACK" Bundle.steD A s s.heap ∧ vx_Zq Bundle.tN "SUPPRESSED_SENTINEL" Bundle.listD A s s.heap
def KA (s : State) (cas : Nat → ClassId) (n : Nat) : Prop := ∀ k, k < n → 20 ≤ kd (idOf k).1 → ArrOfT s (cas k) (aty (kd (idOf k).1)) ∧ va_RA s (cas k) (aty (kd (idOf k).1))
def Gs (n : Nat) (I : IT) (C : CT) : Prop := n ≤ 211 ∧ (∀ f i j, vd n (f, i) → j < lnN f → ¬ kd f = 22 → in32 (I f i j)) ∧ (∀ f i j, vd n (f, i) → j < lnN f → kd f = 22 → in64 (I f i j)) ∧ (∀ f i j q, vd n (f, i) → j < lnN f → C f i j = some q → gq n q) ∧ (∀ k, n ≤ k → k < 211 → ∀ j, I (idOf k).1 (idOf k).2 j = 0 ∧ (j < lnN (idOf k).1 → C (idOf k).1 (idOf k).2 j = none)) ∧ (∀ j, in32 (I 99 0 j)) ∧ in32 (I 99 1 0)
def Gl (n : Nat) (ls : lo) : Prop := ∀ (i : Nat) (v : av), ls[i]? = some (some v) → Gv n v ∧ sho v
def Gt (n : Nat) (st : List av) : Prop := ∀ v ∈ st, Gv n v
def LV (sl : Array Slot) (mx : Nat) (ads : Nat → Nat) (bS : Nat) (ls : lo) : Prop := sl.size = mx ∧ lv_wf sl ∧ ls.length = mx ∧ ∀ (i : Nat) (v : av), ls[i]? = some (some v) → sl[i]? = some (.val (ev ads bS v))
/-- the script, in the law's own frame -/
def Sx (m : Nat) (A : Nat → Prop) (bS : Nat) (I : IT) (s : State) : Prop := m = 173 → ∃ (L : Nat) (xs : Nat → Int32), va_X bS L xs s s.heap ∧ bS < s.heap.size ∧ ¬ A bS ∧ L < 2147483648 ∧ I 99 1 0 = (L : Int) ∧ ∀ j, j < L → I 99 0 j = (xs j).toInt
/-- what holds at a point of a method's run -/
def Jw (D : va_G) (A : Nat → Prop) (s : State) (m mx : Nat) (ads : Nat → Nat) (cas : Nat → ClassId) (bS : Nat) (I : IT) (C : CT) (n : Nat) (H : Heap) (locs : List Loc) (sl : Array Slot) (ls : lo) (st : List av) : Prop :=
  va_P D vwCl (wl ads cas bS I C n) H ∧ va_D A (wl ads cas bS I C n) ∧ KA s cas n ∧ Gs n I C ∧ Gl n ls ∧ Gt n st ∧ LV sl mx ads bS ls ∧ va_S A s.heap H locs ∧ Sx m A bS I s
/-- how it goes on -/
def Kn (p : Program) (l : Launch) (e : Env) (R : Room) (s : State) (mm : MethodId) (args : Array Value) (below : List Frame) (meth : Method) (cc : Code) (D : va_G) (A : Nat → Prop) (m mx bS : Nat) (Q : State → Prop) (kc : Nat → lo → List av → IT → CT → Nat → Nat → Nat → Option ou) (u : ou) (ads : Nat → Nat) (cas : Nat → ClassId) (n c z cells slots : Nat) : Prop :=
  ∀ (pc' : Nat) (ls' : lo) (st' : List av) (I' : IT) (C' : CT) (n' c' z' : Nat) (ads' : Nat → Nat) (cas' : Nat → ClassId) (H' : Heap) (locs' : List Loc) (sl' : Array Slot) (cells' slots' : Nat), kc pc' ls' st' I' C' n' c' z' = some u → n ≤ n' → (∀ k, k < n → ads' k = ads k ∧ cas' k = cas k) → Jw D A s m mx ads' cas' bS I' C' n' H' locs' sl' ls' st' → cells' + c = cells + c' → slots' + z = slots + z' → W p l e R s mm args below meth cc H' locs' cells' slots' Q (F0 mm pc' sl' (st'.map (ev ads' bS)))
theorem ev_ext {ads ads' : Nat → Nat} {bS n : Nat} {v : av} (h : ∀ k, k < n → ads' k = ads k) (g : Gv n v) : ev ads' bS v = ev ads bS v := by
  rcases v with x | y | r
  · rfl
  · rfl
  · cases r with
    | none => rfl
    | some q =>
      show va_rf (some (adr ads' bS q)) = va_rf (some (adr ads bS q))
      rcases g q rfl with h1 | h1
      · unfold adr
        rw [h _ h1.1]
      · subst h1; rfl
theorem Gt.tail {n : Nat} {v : av} {r : List av} (h : Gt n (v :: r)) : Gt n r := fun w hw => h w (List.mem_cons_of_mem _ hw)
theorem Gt.head {n : Nat} {v : av} {r : List av} (h : Gt n (v :: r)) : Gv n v := h v List.mem_cons_self
theorem Gt.cons {n : Nat} {v : av} {r : List av} (h : Gt n r) (g : Gv n v) : Gt n (v :: r) := fun w hw => by
  rcases List.mem_cons.mp hw with rfl | h1
  · exact g
  · exact h w h1
theorem gvN {n : Nat} : Gv n (vq none) := fun q h => by cases h
theorem ev_cat {ads : Nat → Nat} {bS : Nat} {v : av} (h : sho v) : (ev ads bS v).category = 1 := by
  rcases v with x | y | r
  · rfl
  · exact h.elim
  · cases r <;> rfl
def eL (ads : Nat → Nat) (bS : Nat) : Nat → lo → List (Nat × Value)
  | _, [] => []
  | i, none :: l => eL ads bS (i + 1) l
  | i, some v :: l => (i, ev ads bS v) :: eL ads bS (i + 1) l
theorem eL_mem {ads : Nat → Nat} {bS : Nat} : ∀ (ls : lo) (b i : Nat) (v : av), ls[i]? = some (some v) → (b + i, ev ads bS v) ∈ eL ads bS b ls
  | [], _, _, _, h => by simp at h
  | w :: l, b, 0, v, h => by
    simp at h
    subst h
    exact List.mem_cons_self
  | w :: l, b, i + 1, v, h => by
    have h1 := eL_mem (ads := ads) (bS := bS) l (b + 1) i v (by simpa using h)
    rw [show b + 1 + i = b + (i + 1) by omega] at h1
    cases w with
    | none => exact h1
    | some x => exact List.mem_cons_of_mem _ h1
theorem eL_sub {ads : Nat → Nat} {bS : Nat} : ∀ (ls : lo) (b : Nat) (q : Nat × Value), q ∈ eL ads bS b ls → ∃ i v, q = (b + i, ev ads bS v) ∧ ls[i]? = some (some v)
  | [], _, _, h => by cases h
  | w :: l, b, q, h => by
    cases w with
    | none =>
      obtain ⟨i, v, h1, h2⟩ := eL_sub l (b + 1) q h
      exact ⟨i + 1, v, by rw [h1]; congr 1; omega, by simpa using h2⟩
    | some x =>
      rcases List.mem_cons.mp h with h1 | h1
      · exact ⟨0, x, h1, rfl⟩
      · obtain ⟨i, v, h1, h2⟩ := eL_sub l (b + 1) q h1
        exact ⟨i + 1, v, by rw [h1]; congr 1; omega, by simpa using h2⟩
theorem LV.has {sl : Array Slot} {mx : Nat} {ads : Nat → Nat} {bS : Nat} {ls : lo} (h : LV sl mx ads bS ls) : lv_has sl mx (eL ads bS 0 ls) := ⟨h.1, h.2.1, fun q hq => by
  obtain ⟨i, v, rfl, h2⟩ := eL_sub ls 0 q hq
  show sl[0 + i]? = _
  rw [Nat.zero_add]
  exact h.2.2.2 i v h2⟩
theorem LV.put {sl sl2 : Array Slot} {mx : Nat} {ads : Nat → Nat} {bS n : Nat} {ls : lo} {a : Nat} {v : av} {w : Value} (h : LV sl mx ads bS ls) (g : Gl n ls) (hw : w = ev ads bS v) (h2 : lv_has sl2 mx ((a, w) :: (eL ads bS 0 ls).filter (fun q => !(q.1 == a) && !(q.1 + 1 == a && q.2.category == 2)))) : LV sl2 mx ads bS (ls.set a (some v)) := by
  subst hw
  refine ⟨h2.1, h2.2.1, by rw [List.length_set]; exact h.2.2.1, fun i w hi => ?_⟩
  rw [List.getElem?_set] at hi
  by_cases hia : a = i
  · subst hia
    rw [if_pos rfl] at hi
    split at hi
    · cases hi
      exact h2.2.2 _ List.mem_cons_self
    · cases hi
  · rw [if_neg hia] at hi
    have h3 := eL_mem (ads := ads) (bS := bS) ls 0 i w hi
    rw [Nat.zero_add] at h3
    refine h2.2.2 (i, ev ads bS w) (List.mem_cons_of_mem _ (List.mem_filter.mpr ⟨h3, ?_⟩))
    have h4 := ev_cat (ads := ads) (bS := bS) (g i w hi).2
    simp only [h4]
    simp
    omega
theorem Gl.put {n : Nat} {ls : lo} {a : Nat} {v : av} (g : Gl n ls) (hv : Gv n v) (hs : sho v) : Gl n (ls.set a (some v)) := by
  intro i w hi
  rw [List.getElem?_set] at hi
  by_cases hia : a = i
  · subst hia
    rw [if_pos rfl] at hi
    split at hi
    · cases hi; exact ⟨hv, hs⟩
    · cases hi
  · rw [if_neg hia] at hi
    exact g i w hi
theorem sxI {m : Nat} {A : Nat → Prop} {bS : Nat} {I I2 : IT} {s : State} (h : Sx m A bS I s) (h2 : ∀ i j, I2 99 i j = I 99 i j) : Sx m A bS I2 s := fun hm => by
  obtain ⟨L, xs, a1, a2, a3, a4, a5, a6⟩ := h hm
  exact ⟨L, xs, a1, a2, a3, a4, by rw [h2]; exact a5, fun j hj => by rw [h2]; exact a6 j hj⟩
theorem sn_iload {l : Launch} {D : va_G} {A : Nat → Prop} {bS : Nat} {p : Program} {e : Env} {R : Room} {s : State} {mm : MethodId} {args : Array Value} {below : List Frame} {meth : Method} {cc : Code} {q : mI} {m pc : Nat} {H : Heap} {locs : List Loc} {cells slots : Nat} {Q : State → Prop} {sl : Array Slot} {ads : Nat → Nat} {cas : Nat → ClassId} {ls : lo} {st : List av} {I : IT} {C : CT} {n c z : Nat} {w : List Nat} {u : ou} {len a b d : Nat} {kc : Nat → lo → List av → IT → CT → Nat → Nat → Nat → Option ou} {ky : Nat → List av → List av → Option ou} {kr : Option av → Option ou} {kt : Nat → Nat → Nat → Option ou} {j : Nat} (B : Bx p R s mm args meth cc q) (J : Jw D A s m q.2.2.1 ads cas bS I C n H locs sl ls st) (hok : okE m q pc (.iload j, len, a, b, d) w = true) (h : stp (.iload j, len, a, b, d) pc ls st I C n c z kc ky kr kt none = some u) (K : Kn p l e R s mm args below meth cc D A m q.2.2.1 bS Q kc u ads cas n c z cells slots) : W p l e R s mm args below meth cc H locs cells slots Q (F0 mm pc sl (st.map (ev ads bS))) := by
  obtain ⟨hd0, hk⟩ := and2 hok
  have hd := of_decide_eq_true hd0
  obtain ⟨jP, jD, jK, jG, jL, jT, jV, jS, jX⟩ := J
  obtain ⟨hl, ha⟩ := and2 hk
  have hl := beqN hl
  have ha := beqN ha
  subst hl; subst ha
  obtain ⟨x, hx, h⟩ := xIl_inv h
  rw [nth_eq] at hx
  refine lv_iload B.1 B.2.1 hd (jV.2.2.2 _ _ hx) ?_
  exact K _ _ _ _ _ _ _ _ ads cas H locs _ _ _ h (Nat.le_refl _) (fun _ _ => ⟨rfl, rfl⟩) ⟨jP, jD, jK, jG, jL, jT.cons (jL _ _ hx).1, jV, jS, jX⟩ rfl rfl
theorem sn_iload_n {l : Launch} {D : va_G} {A : Nat → Prop} {bS : Nat} {p : Program} {e : Env} {R : Room} {s : State} {mm : MethodId} {args : Array Value} {below : List Frame} {meth : Method} {cc : Code} {q : mI} {m pc : Nat} {H : Heap} {locs : List Loc} {cells slots : Nat} {Q : State → Prop} {sl : Array Slot} {ads : Nat → Nat} {cas : Nat → ClassId} {ls : lo} {st : List av} {I : IT} {C : CT} {n c z : Nat} {w : List Nat} {u : ou} {len a b d : Nat} {kc : Nat → lo → List av → IT → CT → Nat → Nat → Nat → Option ou} {ky : Nat → List av → List av → Option ou} {kr : Option av → Option ou} {kt : Nat → Nat → Nat → Option ou} {j : Fin 4} (B : Bx p R s mm args meth cc q) (J : Jw D A s m q.2.2.1 ads cas bS I C n H locs sl ls st) (hok : okE m q pc (.iload_n j, len, a, b, d) w = true) (h : stp (.iload_n j, len, a, b, d) pc ls st I C n c z kc ky kr kt none = some u) (K : Kn p l e R s mm args below meth cc D A m q.2.2.1 bS Q kc u ads cas n c z cells slots) : W p l e R s mm args below meth cc H locs cells slots Q (F0 mm pc sl (st.map (ev ads bS))) := by
  obtain ⟨hd0, hk⟩ := and2 hok
  have hd := of_decide_eq_true hd0
  obtain ⟨jP, jD, jK, jG, jL, jT, jV, jS, jX⟩ := J
  obtain ⟨hl, ha⟩ := and2 hk
  have hl := beqN hl
  have ha := beqN ha
  subst hl; subst ha
  obtain ⟨x, hx, h⟩ := xIl_inv h
  rw [nth_eq] at hx
  refine lv_iload_n B.1 B.2.1 hd rfl (jV.2.2.2 _ _ hx) ?_
  exact K _ _ _ _ _ _ _ _ ads cas H locs _ _ _ h (Nat.le_refl _) (fun _ _ => ⟨rfl, rfl⟩) ⟨jP, jD, jK, jG, jL, jT.cons (jL _ _ hx).1, jV, jS, jX⟩ rfl rfl
theorem sn_aload {l : Launch} {D : va_G} {A : Nat → Prop} {bS : Nat} {p : Program} {e : Env} {R : Room} {s : State} {mm : MethodId} {args : Array Value} {below : List Frame} {meth : Method} {cc : Code} {q : mI} {m pc : Nat} {H : Heap} {locs : List Loc} {cells slots : Nat} {Q : State → Prop} {sl : Array Slot} {ads : Nat → Nat} {cas : Nat → ClassId} {ls : lo} {st : List av} {I : IT} {C : CT} {n c z : Nat} {w : List Nat} {u : ou} {len a b d : Nat} {kc : Nat → lo → List av → IT → CT → Nat → Nat → Nat → Option ou} {ky : Nat → List av → List av → Option ou} {kr : Option av → Option ou} {kt : Nat → Nat → Nat → Option ou} {j : Nat} (B : Bx p R s mm args meth cc q) (J : Jw D A s m q.2.2.1 ads cas bS I C n H locs sl ls st) (hok : okE m q pc (.aload j, len, a, b, d) w = true) (h : stp (.aload j, len, a, b, d) pc ls st I C n c z kc ky kr kt none = some u) (K : Kn p l e R s mm args below meth cc D A m q.2.2.1 bS Q kc u ads cas n c z cells slots) : W p l e R s mm args below meth cc H locs cells slots Q (F0 mm pc sl (st.map (ev ads bS))) := by
  obtain ⟨hd0, hk⟩ := and2 hok
  have hd := of_decide_eq_true hd0
  obtain ⟨jP, jD, jK, jG, jL, jT, jV, jS, jX⟩ := J
  obtain ⟨hl, ha⟩ := and2 hk
  have hl := beqN hl
  have ha := beqN ha
  subst hl; subst ha
  obtain ⟨x, hx, h⟩ := xRl_inv h
  rw [nth_eq] at hx
  cases x with
  | none =>
    refine lv_aloadN B.1 B.2.1 hd (jV.2.2.2 _ _ hx) ?_
    exact K _ _ _ _ _ _ _ _ ads cas H locs _ _ _ h (Nat.le_refl _) (fun _ _ => ⟨rfl, rfl⟩) ⟨jP, jD, jK, jG, jL, jT.cons (jL _ _ hx).1, jV, jS, jX⟩ rfl rfl
  | some x =>
    refine lv_aload B.1 B.2.1 hd (jV.2.2.2 _ _ hx) ?_
    exact K _ _ _ _ _ _ _ _ ads cas H locs _ _ _ h (Nat.le_refl _) (fun _ _ => ⟨rfl, rfl⟩) ⟨jP, jD, jK, jG, jL, jT.cons (jL _ _ hx).1, jV, jS, jX⟩ rfl rfl
theorem sn_aload_n {l : Launch} {D : va_G} {A : Nat → Prop} {bS : Nat} {p : Program} {e : Env} {R : Room} {s : State} {mm : MethodId} {args : Array Value} {below : List Frame} {meth : Method} {cc : Code} {q : mI} {m pc : Nat} {H : Heap} {locs : List Loc} {cells slots : Nat} {Q : State → Prop} {sl : Array Slot} {ads : Nat → Nat} {cas : Nat → ClassId} {ls : lo} {st : List av} {I : IT} {C : CT} {n c z : Nat} {w : List Nat} {u : ou} {len a b d : Nat} {kc : Nat → lo → List av → IT → CT → Nat → Nat → Nat → Option ou} {ky : Nat → List av → List av → Option ou} {kr : Option av → Option ou} {kt : Nat → Nat → Nat → Option ou} {j : Fin 4} (B : Bx p R s mm args meth cc q) (J : Jw D A s m q.2.2.1 ads cas bS I C n H locs sl ls st) (hok : okE m q pc (.aload_n j, len, a, b, d) w = true) (h : stp (.aload_n j, len, a, b, d) pc ls st I C n c z kc ky kr kt none = some u) (K : Kn p l e R s mm args below meth cc D A m q.2.2.1 bS Q kc u ads cas n c z cells slots) : W p l e R s mm args below meth cc H locs cells slots Q (F0 mm pc sl (st.map (ev ads bS))) := by
  obtain ⟨hd0, hk⟩ := and2 hok
  have hd := of_decide_eq_true hd0
  obtain ⟨jP, jD, jK, jG, jL, jT, jV, jS, jX⟩ := J
  obtain ⟨hl, ha⟩ := and2 hk
  have hl := beqN hl
  have ha := beqN ha
  subst hl; subst ha
  obtain ⟨x, hx, h⟩ := xRl_inv h
  rw [nth_eq] at hx
  cases x with
  | none =>
    refine lv_aload_nN B.1 B.2.1 hd rfl (jV.2.2.2 _ _ hx) ?_
    exact K _ _ _ _ _ _ _ _ ads cas H locs _ _ _ h (Nat.le_refl _) (fun _ _ => ⟨rfl, rfl⟩) ⟨jP, jD, jK, jG, jL, jT.cons (jL _ _ hx).1, jV, jS, jX⟩ rfl rfl
  | some x =>
    refine lv_aload_n B.1 B.2.1 hd rfl (jV.2.2.2 _ _ hx) ?_
    exact K _ _ _ _ _ _ _ _ ads cas H locs _ _ _ h (Nat.le_refl _) (fun _ _ => ⟨rfl, rfl⟩) ⟨jP, jD, jK, jG, jL, jT.cons (jL _ _ hx).1, jV, jS, jX⟩ rfl rfl
theorem sn_istore {l : Launch} {D : va_G} {A : Nat → Prop} {bS : Nat} {p : Program} {e : Env} {R : Room} {s : State} {mm : MethodId} {args : Array Value} {below : List Frame} {meth : Method} {cc : Code} {q : mI} {m pc : Nat} {H : Heap} {locs : List Loc} {cells slots : Nat} {Q : State → Prop} {sl : Array Slot} {ads : Nat → Nat} {cas : Nat → ClassId} {ls : lo} {st : List av} {I : IT} {C : CT} {n c z : Nat} {w : List Nat} {u : ou} {len a b d : Nat} {kc : Nat → lo → List av → IT → CT → Nat → Nat → Nat → Option ou} {ky : Nat → List av → List av → Option ou} {kr : Option av → Option ou} {kt : Nat → Nat → Nat → Option ou} {j : Nat} (B : Bx p R s mm args meth cc q) (J : Jw D A s m q.2.2.1 ads cas bS I C n H locs sl ls st) (hok : okE m q pc (.istore j, len, a, b, d) w = true) (h : stp (.istore j, len, a, b, d) pc ls st I C n c z kc ky kr kt none = some u) (K : Kn p l e R s mm args below meth cc D A m q.2.2.1 bS Q kc u ads cas n c z cells slots) : W p l e R s mm args below meth cc H locs cells slots Q (F0 mm pc sl (st.map (ev ads bS))) := by
  obtain ⟨hd0, hk⟩ := and2 hok
  have hd := of_decide_eq_true hd0
  obtain ⟨jP, jD, jK, jG, jL, jT, jV, jS, jX⟩ := J
  obtain ⟨hl, hm⟩ := and2 hk
  obtain ⟨hl, ha⟩ := and2 hl
  have hl := beqN hl
  have ha := beqN ha
  have hm := bleN hm
  subst hl; subst ha
  obtain ⟨x, r, rfl, h9⟩ := sI_inv h
  replace h := h9
  refine lv_istore B.1 B.2.1 hd jV.has (by omega) rfl (fun sl2 h2 => ?_)
  exact K _ _ _ _ _ _ _ _ ads cas H locs _ _ _ h (Nat.le_refl _) (fun _ _ => ⟨rfl, rfl⟩) ⟨jP, jD, jK, jG, (jL.put jT.head trivial), jT.tail, (jV.put jL rfl h2), jS, jX⟩ rfl rfl
theorem sn_istore_n {l : Launch} {D : va_G} {A : Nat → Prop} {bS : Nat} {p : Program} {e : Env} {R : Room} {s : State} {mm : MethodId} {args : Array Value} {below : List Frame} {meth : Method} {cc : Code} {q : mI} {m pc : Nat} {H : Heap} {locs : List Loc} {cells slots : Nat} {Q : State → Prop} {sl : Array Slot} {ads : Nat → Nat} {cas : Nat → ClassId} {ls : lo} {st : List av} {I : IT} {C : CT} {n c z : Nat} {w : List Nat} {u : ou} {len a b d : Nat} {kc : Nat → lo → List av → IT → CT → Nat → Nat → Nat → Option ou} {ky : Nat → List av → List av → Option ou} {kr : Option av → Option ou} {kt : Nat → Nat → Nat → Option ou} {j : Fin 4} (B : Bx p R s mm args meth cc q) (J : Jw D A s m q.2.2.1 ads cas bS I C n H locs sl ls st) (hok : okE m q pc (.istore_n j, len, a, b, d) w = true) (h : stp (.istore_n j, len, a, b, d) pc ls st I C n c z kc ky kr kt none = some u) (K : Kn p l e R s mm args below meth cc D A m q.2.2.1 bS Q kc u ads cas n c z cells slots) : W p l e R s mm args below meth cc H locs cells slots Q (F0 mm pc sl (st.map (ev ads bS))) := by
  obtain ⟨hd0, hk⟩ := and2 hok
  have hd := of_decide_eq_true hd0
  obtain ⟨jP, jD, jK, jG, jL, jT, jV, jS, jX⟩ := J
  obtain ⟨hl, hm⟩ := and2 hk
  obtain ⟨hl, ha⟩ := and2 hl
  have hl := beqN hl
  have ha := beqN ha
  have hm := bleN hm
  subst hl; subst ha
  obtain ⟨x, r, rfl, h9⟩ := sI_inv h
  replace h := h9
  refine lv_istore_n B.1 B.2.1 hd rfl jV.has (by omega) rfl (fun sl2 h2 => ?_)
  exact K _ _ _ _ _ _ _ _ ads cas H locs _ _ _ h (Nat.le_refl _) (fun _ _ => ⟨rfl, rfl⟩) ⟨jP, jD, jK, jG, (jL.put jT.head trivial), jT.tail, (jV.put jL rfl h2), jS, jX⟩ rfl rfl
theorem sn_astore {l : Launch} {D : va_G} {A : Nat → Prop} {bS : Nat} {p : Program} {e : Env} {R : Room} {s : State} {mm : MethodId} {args : Array Value} {below : List Frame} {meth : Method} {cc : Code} {q : mI} {m pc : Nat} {H : Heap} {locs : List Loc} {cells slots : Nat} {Q : State → Prop} {sl : Array Slot} {ads : Nat → Nat} {cas : Nat → ClassId} {ls : lo} {st : List av} {I : IT} {C : CT} {n c z : Nat} {w : List Nat} {u : ou} {len a b d : Nat} {kc : Nat → lo → List av → IT → CT → Nat → Nat → Nat → Option ou} {ky : Nat → List av → List av → Option ou} {kr : Option av → Option ou} {kt : Nat → Nat → Nat → Option ou} {j : Nat} (B : Bx p R s mm args meth cc q) (J : Jw D A s m q.2.2.1 ads cas bS I C n H locs sl ls st) (hok : okE m q pc (.astore j, len, a, b, d) w = true) (h : stp (.astore j, len, a, b, d) pc ls st I C n c z kc ky kr kt none = some u) (K : Kn p l e R s mm args below meth cc D A m q.2.2.1 bS Q kc u ads cas n c z cells slots) : W p l e R s mm args below meth cc H locs cells slots Q (F0 mm pc sl (st.map (ev ads bS))) := by
  obtain ⟨hd0, hk⟩ := and2 hok
  have hd := of_decide_eq_true hd0
  obtain ⟨jP, jD, jK, jG, jL, jT, jV, jS, jX⟩ := J
  obtain ⟨hl, hm⟩ := and2 hk
  obtain ⟨hl, ha⟩ := and2 hl
  have hl := beqN hl
  have ha := beqN ha
  have hm := bleN hm
  subst hl; subst ha
  obtain ⟨x, r, rfl, h9⟩ := sR_inv h
  replace h := h9
  cases x with
  | none =>
    refine lv_astoreN B.1 B.2.1 hd jV.has (by omega) rfl (fun sl2 h2 => ?_)
    exact K _ _ _ _ _ _ _ _ ads cas H locs _ _ _ h (Nat.le_refl _) (fun _ _ => ⟨rfl, rfl⟩) ⟨jP, jD, jK, jG, (jL.put jT.head trivial), jT.tail, (jV.put jL rfl h2), jS, jX⟩ rfl rfl
  | some x =>
    refine lv_astore B.1 B.2.1 hd jV.has (by omega) rfl (fun sl2 h2 => ?_)
    exact K _ _ _ _ _ _ _ _ ads cas H locs _ _ _ h (Nat.le_refl _) (fun _ _ => ⟨rfl, rfl⟩) ⟨jP, jD, jK, jG, (jL.put jT.head trivial), jT.tail, (jV.put jL rfl h2), jS, jX⟩ rfl rfl
theorem sn_astore_n {l : Launch} {D : va_G} {A : Nat → Prop} {bS : Nat} {p : Program} {e : Env} {R : Room} {s : State} {mm : MethodId} {args : Array Value} {below : List Frame} {meth : Method} {cc : Code} {q : mI} {m pc : Nat} {H : Heap} {locs : List Loc} {cells slots : Nat} {Q : State → Prop} {sl : Array Slot} {ads : Nat → Nat} {cas : Nat → ClassId} {ls : lo} {st : List av} {I : IT} {C : CT} {n c z : Nat} {w : List Nat} {u : ou} {len a b d : Nat} {kc : Nat → lo → List av → IT → CT → Nat → Nat → Nat → Option ou} {ky : Nat → List av → List av → Option ou} {kr : Option av → Option ou} {kt : Nat → Nat → Nat → Option ou} {j : Fin 4} (B : Bx p R s mm args meth cc q) (J : Jw D A s m q.2.2.1 ads cas bS I C n H locs sl ls st) (hok : okE m q pc (.astore_n j, len, a, b, d) w = true) (h : stp (.astore_n j, len, a, b, d) pc ls st I C n c z kc ky kr kt none = some u) (K : Kn p l e R s mm args below meth cc D A m q.2.2.1 bS Q kc u ads cas n c z cells slots) : W p l e R s mm args below meth cc H locs cells slots Q (F0 mm pc sl (st.map (ev ads bS))) := by
  obtain ⟨hd0, hk⟩ := and2 hok
  have hd := of_decide_eq_true hd0
  obtain ⟨jP, jD, jK, jG, jL, jT, jV, jS, jX⟩ := J
  obtain ⟨hl, hm⟩ := and2 hk
  obtain ⟨hl, ha⟩ := and2 hl
  have hl := beqN hl
  have ha := beqN ha
  have hm := bleN hm
  subst hl; subst ha
  obtain ⟨x, r, rfl, h9⟩ := sR_inv h
  replace h := h9
  cases x with
  | none =>
    refine lv_astore_nN B.1 B.2.1 hd rfl jV.has (by omega) rfl (fun sl2 h2 => ?_)
    exact K _ _ _ _ _ _ _ _ ads cas H locs _ _ _ h (Nat.le_refl _) (fun _ _ => ⟨rfl, rfl⟩) ⟨jP, jD, jK, jG, (jL.put jT.head trivial), jT.tail, (jV.put jL rfl h2), jS, jX⟩ rfl rfl
  | some x =>
    refine lv_astore_n B.1 B.2.1 hd rfl jV.has (by omega) rfl (fun sl2 h2 => ?_)
    exact K _ _ _ _ _ _ _ _ ads cas H locs _ _ _ h (Nat.le_refl _) (fun _ _ => ⟨rfl, rfl⟩) ⟨jP, jD, jK, jG, (jL.put jT.head trivial), jT.tail, (jV.put jL rfl h2), jS, jX⟩ rfl rfl
theorem i32b_in {v : Int} (h : i32b v = true) : in32 v := by
  obtain ⟨h1, h2⟩ := and2 h
  exact ⟨of_decide_eq_true h1, of_decide_eq_true h2⟩
theorem sn_iinc {l : Launch} {D : va_G} {A : Nat → Prop} {bS : Nat} {p : Program} {e : Env} {R : Room} {s : State} {mm : MethodId} {args : Array Value} {below : List Frame} {meth : Method} {cc : Code} {q : mI} {m pc : Nat} {H : Heap} {locs : List Loc} {cells slots : Nat} {Q : State → Prop} {sl : Array Slot} {ads : Nat → Nat} {cas : Nat → ClassId} {ls : lo} {st : List av} {I : IT} {C : CT} {n c z : Nat} {w : List Nat} {u : ou} {len a b d : Nat} {kc : Nat → lo → List av → IT → CT → Nat → Nat → Nat → Option ou} {ky : Nat → List av → List av → Option ou} {kr : Option av → Option ou} {kt : Nat → Nat → Nat → Option ou} {j : Nat} {v : Int} (B : Bx p R s mm args meth cc q) (J : Jw D A s m q.2.2.1 ads cas bS I C n H locs sl ls st) (hok : okE m q pc (.iinc j v, len, a, b, d) w = true) (h : stp (.iinc j v, len, a, b, d) pc ls st I C n c z kc ky kr kt none = some u) (K : Kn p l e R s mm args below meth cc D A m q.2.2.1 bS Q kc u ads cas n c z cells slots) : W p l e R s mm args below meth cc H locs cells slots Q (F0 mm pc sl (st.map (ev ads bS))) := by
  obtain ⟨hd0, hk⟩ := and2 hok
  have hd := of_decide_eq_true hd0
  obtain ⟨jP, jD, jK, jG, jL, jT, jV, jS, jX⟩ := J
  obtain ⟨hl, hv⟩ := and2 hk
  obtain ⟨hl, hm⟩ := and2 hl
  obtain ⟨hl, ha⟩ := and2 hl
  have hl := beqN hl
  have ha := beqN ha
  have hm := bleN hm
  have hv := i32b_in hv
  subst hl; subst ha
  obtain ⟨x, hx, h⟩ := xIl_inv h
  rw [nth_eq] at hx
  have h8 := eL_mem (ads := ads) (bS := bS) ls 0 a (vi x) hx
  rw [Nat.zero_add] at h8
  obtain ⟨k, hk9⟩ := List.getElem?_of_mem h8
  have hx32 : in32 x := (jL _ _ hx).1
  refine lv_iinc (v := Int32.ofInt (wr (x + v))) B.1 B.2.1 hd jV.has (k := k) hk9 (i32_add hx32 hv) (by omega) rfl (fun sl2 h2 => ?_)
  exact K _ _ _ _ _ _ _ _ ads cas H locs _ _ _ h (Nat.le_refl _) (fun _ _ => ⟨rfl, rfl⟩) ⟨jP, jD, jK, jG, (jL.put (v := vi (wr (x + v))) (wr_in _) trivial), jT, (jV.put jL rfl h2), jS, jX⟩ rfl rfl
theorem sn_iconst {l : Launch} {D : va_G} {A : Nat → Prop} {bS : Nat} {p : Program} {e : Env} {R : Room} {s : State} {mm : MethodId} {args : Array Value} {below : List Frame} {meth : Method} {cc : Code} {q : mI} {m pc : Nat} {H : Heap} {locs : List Loc} {cells slots : Nat} {Q : State → Prop} {sl : Array Slot} {ads : Nat → Nat} {cas : Nat → ClassId} {ls : lo} {st : List av} {I : IT} {C : CT} {n c z : Nat} {w : List Nat} {u : ou} {len a b d : Nat} {kc : Nat → lo → List av → IT → CT → Nat → Nat → Nat → Option ou} {ky : Nat → List av → List av → Option ou} {kr : Option av → Option ou} {kt : Nat → Nat → Nat → Option ou} {v : Int} (B : Bx p R s mm args meth cc q) (J : Jw D A s m q.2.2.1 ads cas bS I C n H locs sl ls st) (hok : okE m q pc (.iconst v, len, a, b, d) w = true) (h : stp (.iconst v, len, a, b, d) pc ls st I C n c z kc ky kr kt none = some u) (K : Kn p l e R s mm args below meth cc D A m q.2.2.1 bS Q kc u ads cas n c z cells slots) : W p l e R s mm args below meth cc H locs cells slots Q (F0 mm pc sl (st.map (ev ads bS))) := by
  obtain ⟨hd0, hk⟩ := and2 hok
  have hd := of_decide_eq_true hd0
  obtain ⟨jP, jD, jK, jG, jL, jT, jV, jS, jX⟩ := J
  obtain ⟨hl, hv⟩ := and2 hk
  have hl := beqN hl
  have hv := i32b_in hv
  subst hl
  refine lv_iconst B.1 B.2.1 hd rfl ?_
  exact K _ _ _ _ _ _ _ _ ads cas H locs _ _ _ h (Nat.le_refl _) (fun _ _ => ⟨rfl, rfl⟩) ⟨jP, jD, jK, jG, jL, jT.cons (v := vi v) hv, jV, jS, jX⟩ rfl rfl
theorem sn_bipush {l : Launch} {D : va_G} {A : Nat → Prop} {bS : Nat} {p : Program} {e : Env} {R : Room} {s : State} {mm : MethodId} {args : Array Value} {below : List Frame} {meth : Method} {cc : Code} {q : mI} {m pc : Nat} {H : Heap} {locs : List Loc} {cells slots : Nat} {Q : State → Prop} {sl : Array Slot} {ads : Nat → Nat} {cas : Nat → ClassId} {ls : lo} {st : List av} {I : IT} {C : CT} {n c z : Nat} {w : List Nat} {u : ou} {len a b d : Nat} {kc : Nat → lo → List av → IT → CT → Nat → Nat → Nat → Option ou} {ky : Nat → List av → List av → Option ou} {kr : Option av → Option ou} {kt : Nat → Nat → Nat → Option ou} {v : Int} (B : Bx p R s mm args meth cc q) (J : Jw D A s m q.2.2.1 ads cas bS I C n H locs sl ls st) (hok : okE m q pc (.bipush v, len, a, b, d) w = true) (h : stp (.bipush v, len, a, b, d) pc ls st I C n c z kc ky kr kt none = some u) (K : Kn p l e R s mm args below meth cc D A m q.2.2.1 bS Q kc u ads cas n c z cells slots) : W p l e R s mm args below meth cc H locs cells slots Q (F0 mm pc sl (st.map (ev ads bS))) := by
  obtain ⟨hd0, hk⟩ := and2 hok
  have hd := of_decide_eq_true hd0
  obtain ⟨jP, jD, jK, jG, jL, jT, jV, jS, jX⟩ := J
  obtain ⟨hl, hv2⟩ := and2 hk
  obtain ⟨hl, hv⟩ := and2 hl
  have hl := beqN hl
  have hv := i32b_in hv
  have hv2 := of_decide_eq_true hv2
  subst hl
  refine lv_bipush B.1 B.2.1 hd hv2 ?_
  exact K _ _ _ _ _ _ _ _ ads cas H locs _ _ _ h (Nat.le_refl _) (fun _ _ => ⟨rfl, rfl⟩) ⟨jP, jD, jK, jG, jL, jT.cons (v := vi v) hv, jV, jS, jX⟩ rfl rfl
theorem sn_sipush {l : Launch} {D : va_G} {A : Nat → Prop} {bS : Nat} {p : Program} {e : Env} {R : Room} {s : State} {mm : MethodId} {args : Array Value} {below : List Frame} {meth : Method} {cc : Code} {q : mI} {m pc : Nat} {H : Heap} {locs : List Loc} {cells slots : Nat} {Q : State → Prop} {sl : Array Slot} {ads : Nat → Nat} {cas : Nat → ClassId} {ls : lo} {st : List av} {I : IT} {C : CT} {n c z : Nat} {w : List Nat} {u : ou} {len a b d : Nat} {kc : Nat → lo → List av → IT → CT → Nat → Nat → Nat → Option ou} {ky : Nat → List av → List av → Option ou} {kr : Option av → Option ou} {kt : Nat → Nat → Nat → Option ou} {v : Int} (B : Bx p R s mm args meth cc q) (J : Jw D A s m q.2.2.1 ads cas bS I C n H locs sl ls st) (hok : okE m q pc (.sipush v, len, a, b, d) w = true) (h : stp (.sipush v, len, a, b, d) pc ls st I C n c z kc ky kr kt none = some u) (K : Kn p l e R s mm args below meth cc D A m q.2.2.1 bS Q kc u ads cas n c z cells slots) : W p l e R s mm args below meth cc H locs cells slots Q (F0 mm pc sl (st.map (ev ads bS))) := by
  obtain ⟨hd0, hk⟩ := and2 hok
  have hd := of_decide_eq_true hd0
  obtain ⟨jP, jD, jK, jG, jL, jT, jV, jS, jX⟩ := J
  obtain ⟨hl, hv2⟩ := and2 hk
  obtain ⟨hl, hv⟩ := and2 hl
  have hl := beqN hl
  have hv := i32b_in hv
  have hv2 := of_decide_eq_true hv2
  subst hl
  refine lv_sipush B.1 B.2.1 hd hv2 ?_
  exact K _ _ _ _ _ _ _ _ ads cas H locs _ _ _ h (Nat.le_refl _) (fun _ _ => ⟨rfl, rfl⟩) ⟨jP, jD, jK, jG, jL, jT.cons (v := vi v) hv, jV, jS, jX⟩ rfl rfl
theorem sn_ldc {l : Launch} {D : va_G} {A : Nat → Prop} {bS : Nat} {p : Program} {e : Env} {R : Room} {s : State} {mm : MethodId} {args : Array Value} {below : List Frame} {meth : Method} {cc : Code} {q : mI} {m pc : Nat} {H : Heap} {locs : List Loc} {cells slots : Nat} {Q : State → Prop} {sl : Array Slot} {ads : Nat → Nat} {cas : Nat → ClassId} {ls : lo} {st : List av} {I : IT} {C : CT} {n c z : Nat} {w : List Nat} {u : ou} {len a b d : Nat} {kc : Nat → lo → List av → IT → CT → Nat → Nat → Nat → Option ou} {ky : Nat → List av → List av → Option ou} {kr : Option av → Option ou} {kt : Nat → Nat → Nat → Option ou} {j : Nat} (B : Bx p R s mm args meth cc q) (J : Jw D A s m q.2.2.1 ads cas bS I C n H locs sl ls st) (hok : okE m q pc (.ldc j, len, a, b, d) w = true) (h : stp (.ldc j, len, a, b, d) pc ls st I C n c z kc ky kr kt none = some u) (K : Kn p l e R s mm args below meth cc D A m q.2.2.1 bS Q kc u ads cas n c z cells slots) : W p l e R s mm args below meth cc H locs cells slots Q (F0 mm pc sl (st.map (ev ads bS))) := by
  obtain ⟨hd0, hk⟩ := and2 hok
  have hd := of_decide_eq_true hd0
  obtain ⟨jP, jD, jK, jG, jL, jT, jV, jS, jX⟩ := J
  obtain ⟨hl, hv2⟩ := and2 hk
  obtain ⟨hl, hv⟩ := and2 hl
  have hl := beqN hl
  have hv := i32b_in hv
  subst hl
  refine lv_ldc B.1 B.2.1 B.2.2.2.2.1 (B.2.2.2.2.2.1 _ (isW_mem hv2)) hd ?_
  exact K _ _ _ _ _ _ _ _ ads cas H locs _ _ _ h (Nat.le_refl _) (fun _ _ => ⟨rfl, rfl⟩) ⟨jP, jD, jK, jG, jL, jT.cons (v := vi (Int.ofNat a)) hv, jV, jS, jX⟩ rfl rfl
theorem sn_ldc_w {l : Launch} {D : va_G} {A : Nat → Prop} {bS : Nat} {p : Program} {e : Env} {R : Room} {s : State} {mm : MethodId} {args : Array Value} {below : List Frame} {meth : Method} {cc : Code} {q : mI} {m pc : Nat} {H : Heap} {locs : List Loc} {cells slots : Nat} {Q : State → Prop} {sl : Array Slot} {ads : Nat → Nat} {cas : Nat → ClassId} {ls : lo} {st : List av} {I : IT} {C : CT} {n c z : Nat} {w : List Nat} {u : ou} {len a b d : Nat} {kc : Nat → lo → List av → IT → CT → Nat → Nat → Nat → Option ou} {ky : Nat → List av → List av → Option ou} {kr : Option av → Option ou} {kt : Nat → Nat → Nat → Option ou} {j : Nat} (B : Bx p R s mm args meth cc q) (J : Jw D A s m q.2.2.1 ads cas bS I C n H locs sl ls st) (hok : okE m q pc (.ldc_w j, len, a, b, d) w = true) (h : stp (.ldc_w j, len, a, b, d) pc ls st I C n c z kc ky kr kt none = some u) (K : Kn p l e R s mm args below meth cc D A m q.2.2.1 bS Q kc u ads cas n c z cells slots) : W p l e R s mm args below meth cc H locs cells slots Q (F0 mm pc sl (st.map (ev ads bS))) := by
  obtain ⟨hd0, hk⟩ := and2 hok
  have hd := of_decide_eq_true hd0
  obtain ⟨jP, jD, jK, jG, jL, jT, jV, jS, jX⟩ := J
  obtain ⟨hl, hv2⟩ := and2 hk
  obtain ⟨hl, hv⟩ := and2 hl
  have hl := beqN hl
  have hv := i32b_in hv
  subst hl
  refine lv_ldcw B.1 B.2.1 B.2.2.2.2.1 (B.2.2.2.2.2.1 _ (isW_mem hv2)) hd ?_
  exact K _ _ _ _ _ _ _ _ ads cas H locs _ _ _ h (Nat.le_refl _) (fun _ _ => ⟨rfl, rfl⟩) ⟨jP, jD, jK, jG, jL, jT.cons (v := vi (Int.ofNat a)) hv, jV, jS, jX⟩ rfl rfl
theorem sn_lconst {l : Launch} {D : va_G} {A : Nat → Prop} {bS : Nat} {p : Program} {e : Env} {R : Room} {s : State} {mm : MethodId} {args : Array Value} {below : List Frame} {meth : Method} {cc : Code} {q : mI} {m pc : Nat} {H : Heap} {locs : List Loc} {cells slots : Nat} {Q : State → Prop} {sl : Array Slot} {ads : Nat → Nat} {cas : Nat → ClassId} {ls : lo} {st : List av} {I : IT} {C : CT} {n c z : Nat} {w : List Nat} {u : ou} {len a b d : Nat} {kc : Nat → lo → List av → IT → CT → Nat → Nat → Nat → Option ou} {ky : Nat → List av → List av → Option ou} {kr : Option av → Option ou} {kt : Nat → Nat → Nat → Option ou} {j : Fin 2} (B : Bx p R s mm args meth cc q) (J : Jw D A s m q.2.2.1 ads cas bS I C n H locs sl ls st) (hok : okE m q pc (.lconst j, len, a, b, d) w = true) (h : stp (.lconst j, len, a, b, d) pc ls st I C n c z kc ky kr kt none = some u) (K : Kn p l e R s mm args below meth cc D A m q.2.2.1 bS Q kc u ads cas n c z cells slots) : W p l e R s mm args below meth cc H locs cells slots Q (F0 mm pc sl (st.map (ev ads bS))) := by
  obtain ⟨hd0, hk⟩ := and2 hok
  have hd := of_decide_eq_true hd0
  obtain ⟨jP, jD, jK, jG, jL, jT, jV, jS, jX⟩ := J
  obtain ⟨hl, ha⟩ := and2 hk
  have hl := beqN hl
  have ha := beqN ha
  subst hl; subst ha
  refine lv_lconst B.1 B.2.1 hd (v := Int64.ofInt (Int.ofNat j.val)) rfl ?_
  exact K _ _ _ _ _ _ _ _ ads cas H locs _ _ _ h (Nat.le_refl _) (fun _ _ => ⟨rfl, rfl⟩) ⟨jP, jD, jK, jG, jL, jT.cons (v := vl (Int.ofNat j.val)) (by have := j.isLt; constructor <;> simp <;> omega), jV, jS, jX⟩ rfl rfl
theorem sn_aconst_null {l : Launch} {D : va_G} {A : Nat → Prop} {bS : Nat} {p : Program} {e : Env} {R : Room} {s : State} {mm : MethodId} {args : Array Value} {below : List Frame} {meth : Method} {cc : Code} {q : mI} {m pc : Nat} {H : Heap} {locs : List Loc} {cells slots : Nat} {Q : State → Prop} {sl : Array Slot} {ads : Nat → Nat} {cas : Nat → ClassId} {ls : lo} {st : List av} {I : IT} {C : CT} {n c z : Nat} {w : List Nat} {u : ou} {len a b d : Nat} {kc : Nat → lo → List av → IT → CT → Nat → Nat → Nat → Option ou} {ky : Nat → List av → List av → Option ou} {kr : Option av → Option ou} {kt : Nat → Nat → Nat → Option ou}  (B : Bx p R s mm args meth cc q) (J : Jw D A s m q.2.2.1 ads cas bS I C n H locs sl ls st) (hok : okE m q pc (.aconst_null, len, a, b, d) w = true) (h : stp (.aconst_null, len, a, b, d) pc ls st I C n c z kc ky kr kt none = some u) (K : Kn p l e R s mm args below meth cc D A m q.2.2.1 bS Q kc u ads cas n c z cells slots) : W p l e R s mm args below meth cc H locs cells slots Q (F0 mm pc sl (st.map (ev ads bS))) := by
  obtain ⟨hd0, hk⟩ := and2 hok
  have hd := of_decide_eq_true hd0
  obtain ⟨jP, jD, jK, jG, jL, jT, jV, jS, jX⟩ := J
  have hl := beqN hk
  subst hl
  refine lv_null B.1 B.2.1 hd ?_
  exact K _ _ _ _ _ _ _ _ ads cas H locs _ _ _ h (Nat.le_refl _) (fun _ _ => ⟨rfl, rfl⟩) ⟨jP, jD, jK, jG, jL, jT.cons (v := vq none) gvN, jV, jS, jX⟩ rfl rfl
theorem sn_iadd {l : Launch} {D : va_G} {A : Nat → Prop} {bS : Nat} {p : Program} {e : Env} {R : Room} {s : State} {mm : MethodId} {args : Array Value} {below : List Frame} {meth : Method} {cc : Code} {q : mI} {m pc : Nat} {H : Heap} {locs : List Loc} {cells slots : Nat} {Q : State → Prop} {sl : Array Slot} {ads : Nat → Nat} {cas : Nat → ClassId} {ls : lo} {st : List av} {I : IT} {C : CT} {n c z : Nat} {w : List Nat} {u : ou} {len a b d : Nat} {kc : Nat → lo → List av → IT → CT → Nat → Nat → Nat → Option ou} {ky : Nat → List av → List av → Option ou} {kr : Option av → Option ou} {kt : Nat → Nat → Nat → Option ou}  (B : Bx p R s mm args meth cc q) (J : Jw D A s m q.2.2.1 ads cas bS I C n H locs sl ls st) (hok : okE m q pc (.iadd, len, a, b, d) w = true) (h : stp (.iadd, len, a, b, d) pc ls st I C n c z kc ky kr kt none = some u) (K : Kn p l e R s mm args below meth cc D A m q.2.2.1 bS Q kc u ads cas n c z cells slots) : W p l e R s mm args below meth cc H locs cells slots Q (F0 mm pc sl (st.map (ev ads bS))) := by
  obtain ⟨hd0, hk⟩ := and2 hok
  have hd := of_decide_eq_true hd0
  obtain ⟨jP, jD, jK, jG, jL, jT, jV, jS, jX⟩ := J
  have hl := beqN hk
  subst hl
  obtain ⟨x, y, r, rfl, h9⟩ := sII_inv h
  replace h := h9
  refine lv_iadd B.1 B.2.1 hd ?_
  rw [i32_add (show in32 x from jT.tail.head) (show in32 y from jT.head)]
  exact K _ _ _ _ _ _ _ _ ads cas H locs _ _ _ h (Nat.le_refl _) (fun _ _ => ⟨rfl, rfl⟩) ⟨jP, jD, jK, jG, jL, jT.tail.tail.cons (v := vi (wr (x + y))) (wr_in _), jV, jS, jX⟩ rfl rfl
theorem sn_isub {l : Launch} {D : va_G} {A : Nat → Prop} {bS : Nat} {p : Program} {e : Env} {R : Room} {s : State} {mm : MethodId} {args : Array Value} {below : List Frame} {meth : Method} {cc : Code} {q : mI} {m pc : Nat} {H : Heap} {locs : List Loc} {cells slots : Nat} {Q : State → Prop} {sl : Array Slot} {ads : Nat → Nat} {cas : Nat → ClassId} {ls : lo} {st : List av} {I : IT} {C : CT} {n c z : Nat} {w : List Nat} {u : ou} {len a b d : Nat} {kc : Nat → lo → List av → IT → CT → Nat → Nat → Nat → Option ou} {ky : Nat → List av → List av → Option ou} {kr : Option av → Option ou} {kt : Nat → Nat → Nat → Option ou}  (B : Bx p R s mm args meth cc q) (J : Jw D A s m q.2.2.1 ads cas bS I C n H locs sl ls st) (hok : okE m q pc (.isub, len, a, b, d) w = true) (h : stp (.isub, len, a, b, d) pc ls st I C n c z kc ky kr kt none = some u) (K : Kn p l e R s mm args below meth cc D A m q.2.2.1 bS Q kc u ads cas n c z cells slots) : W p l e R s mm args below meth cc H locs cells slots Q (F0 mm pc sl (st.map (ev ads bS))) := by
  obtain ⟨hd0, hk⟩ := and2 hok
  have hd := of_decide_eq_true hd0
  obtain ⟨jP, jD, jK, jG, jL, jT, jV, jS, jX⟩ := J
  have hl := beqN hk
  subst hl
  obtain ⟨x, y, r, rfl, h9⟩ := sII_inv h
  replace h := h9
  refine lv_isub B.1 B.2.1 hd ?_
  rw [i32_sub (show in32 x from jT.tail.head) (show in32 y from jT.head)]
  exact K _ _ _ _ _ _ _ _ ads cas H locs _ _ _ h (Nat.le_refl _) (fun _ _ => ⟨rfl, rfl⟩) ⟨jP, jD, jK, jG, jL, jT.tail.tail.cons (v := vi (wr (x - y))) (wr_in _), jV, jS, jX⟩ rfl rfl
theorem sn_imul {l : Launch} {D : va_G} {A : Nat → Prop} {bS : Nat} {p : Program} {e : Env} {R : Room} {s : State} {mm : MethodId} {args : Array Value} {below : List Frame} {meth : Method} {cc : Code} {q : mI} {m pc : Nat} {H : Heap} {locs : List Loc} {cells slots : Nat} {Q : State → Prop} {sl : Array Slot} {ads : Nat → Nat} {cas : Nat → ClassId} {ls : lo} {st : List av} {I : IT} {C : CT} {n c z : Nat} {w : List Nat} {u : ou} {len a b d : Nat} {kc : Nat → lo → List av → IT → CT → Nat → Nat → Nat → Option ou} {ky : Nat → List av → List av → Option ou} {kr : Option av → Option ou} {kt : Nat → Nat → Nat → Option ou}  (B : Bx p R s mm args meth cc q) (J : Jw D A s m q.2.2.1 ads cas bS I C n H locs sl ls st) (hok : okE m q pc (.imul, len, a, b, d) w = true) (h : stp (.imul, len, a, b, d) pc ls st I C n c z kc ky kr kt none = some u) (K : Kn p l e R s mm args below meth cc D A m q.2.2.1 bS Q kc u ads cas n c z cells slots) : W p l e R s mm args below meth cc H locs cells slots Q (F0 mm pc sl (st.map (ev ads bS))) := by
  obtain ⟨hd0, hk⟩ := and2 hok
  have hd := of_decide_eq_true hd0
  obtain ⟨jP, jD, jK, jG, jL, jT, jV, jS, jX⟩ := J
  have hl := beqN hk
  subst hl
  obtain ⟨x, y, r, rfl, h9⟩ := sII_inv h
  replace h := h9
  refine lv_imul B.1 B.2.1 hd ?_
  rw [i32_mul (show in32 x from jT.tail.head) (show in32 y from jT.head)]
  exact K _ _ _ _ _ _ _ _ ads cas H locs _ _ _ h (Nat.le_refl _) (fun _ _ => ⟨rfl, rfl⟩) ⟨jP, jD, jK, jG, jL, jT.tail.tail.cons (v := vi (wr (x * y))) (wr_in _), jV, jS, jX⟩ rfl rfl
theorem sn_iand {l : Launch} {D : va_G} {A : Nat → Prop} {bS : Nat} {p : Program} {e : Env} {R : Room} {s : State} {mm : MethodId} {args : Array Value} {below : List Frame} {meth : Method} {cc : Code} {q : mI} {m pc : Nat} {H : Heap} {locs : List Loc} {cells slots : Nat} {Q : State → Prop} {sl : Array Slot} {ads : Nat → Nat} {cas : Nat → ClassId} {ls : lo} {st : List av} {I : IT} {C : CT} {n c z : Nat} {w : List Nat} {u : ou} {len a b d : Nat} {kc : Nat → lo → List av → IT → CT → Nat → Nat → Nat → Option ou} {ky : Nat → List av → List av → Option ou} {kr : Option av → Option ou} {kt : Nat → Nat → Nat → Option ou}  (B : Bx p R s mm args meth cc q) (J : Jw D A s m q.2.2.1 ads cas bS I C n H locs sl ls st) (hok : okE m q pc (.iand, len, a, b, d) w = true) (h : stp (.iand, len, a, b, d) pc ls st I C n c z kc ky kr kt none = some u) (K : Kn p l e R s mm args below meth cc D A m q.2.2.1 bS Q kc u ads cas n c z cells slots) : W p l e R s mm args below meth cc H locs cells slots Q (F0 mm pc sl (st.map (ev ads bS))) := by
  obtain ⟨hd0, hk⟩ := and2 hok
  have hd := of_decide_eq_true hd0
  obtain ⟨jP, jD, jK, jG, jL, jT, jV, jS, jX⟩ := J
  have hl := beqN hk
  subst hl
  obtain ⟨x, y, r, rfl, h9⟩ := sII_inv h
  replace h := h9
  refine lv_iand B.1 B.2.1 hd ?_
  rw [i32_and]
  exact K _ _ _ _ _ _ _ _ ads cas H locs _ _ _ h (Nat.le_refl _) (fun _ _ => ⟨rfl, rfl⟩) ⟨jP, jD, jK, jG, jL, jT.tail.tail.cons (v := vi (iandI x y)) (iand_in _ _), jV, jS, jX⟩ rfl rfl
theorem sn_ineg {l : Launch} {D : va_G} {A : Nat → Prop} {bS : Nat} {p : Program} {e : Env} {R : Room} {s : State} {mm : MethodId} {args : Array Value} {below : List Frame} {meth : Method} {cc : Code} {q : mI} {m pc : Nat} {H : Heap} {locs : List Loc} {cells slots : Nat} {Q : State → Prop} {sl : Array Slot} {ads : Nat → Nat} {cas : Nat → ClassId} {ls : lo} {st : List av} {I : IT} {C : CT} {n c z : Nat} {w : List Nat} {u : ou} {len a b d : Nat} {kc : Nat → lo → List av → IT → CT → Nat → Nat → Nat → Option ou} {ky : Nat → List av → List av → Option ou} {kr : Option av → Option ou} {kt : Nat → Nat → Nat → Option ou}  (B : Bx p R s mm args meth cc q) (J : Jw D A s m q.2.2.1 ads cas bS I C n H locs sl ls st) (hok : okE m q pc (.ineg, len, a, b, d) w = true) (h : stp (.ineg, len, a, b, d) pc ls st I C n c z kc ky kr kt none = some u) (K : Kn p l e R s mm args below meth cc D A m q.2.2.1 bS Q kc u ads cas n c z cells slots) : W p l e R s mm args below meth cc H locs cells slots Q (F0 mm pc sl (st.map (ev ads bS))) := by
  obtain ⟨hd0, hk⟩ := and2 hok
  have hd := of_decide_eq_true hd0
  obtain ⟨jP, jD, jK, jG, jL, jT, jV, jS, jX⟩ := J
  have hl := beqN hk
  subst hl
  obtain ⟨x, r, rfl, h9⟩ := sI_inv h
  replace h := h9
  refine lv_ineg B.1 B.2.1 hd ?_
  rw [i32_neg (show in32 x from jT.head)]
  exact K _ _ _ _ _ _ _ _ ads cas H locs _ _ _ h (Nat.le_refl _) (fun _ _ => ⟨rfl, rfl⟩) ⟨jP, jD, jK, jG, jL, jT.tail.cons (v := vi (wr (-x))) (wr_in _), jV, jS, jX⟩ rfl rfl
theorem sn_iushr {l : Launch} {D : va_G} {A : Nat → Prop} {bS : Nat} {p : Program} {e : Env} {R : Room} {s : State} {mm : MethodId} {args : Array Value} {below : List Frame} {meth : Method} {cc : Code} {q : mI} {m pc : Nat} {H : Heap} {locs : List Loc} {cells slots : Nat} {Q : State → Prop} {sl : Array Slot} {ads : Nat → Nat} {cas : Nat → ClassId} {ls : lo} {st : List av} {I : IT} {C : CT} {n c z : Nat} {w : List Nat} {u : ou} {len a b d : Nat} {kc : Nat → lo → List av → IT → CT → Nat → Nat → Nat → Option ou} {ky : Nat → List av → List av → Option ou} {kr : Option av → Option ou} {kt : Nat → Nat → Nat → Option ou}  (B : Bx p R s mm args meth cc q) (J : Jw D A s m q.2.2.1 ads cas bS I C n H locs sl ls st) (hok : okE m q pc (.iushr, len, a, b, d) w = true) (h : stp (.iushr, len, a, b, d) pc ls st I C n c z kc ky kr kt none = some u) (K : Kn p l e R s mm args below meth cc D A m q.2.2.1 bS Q kc u ads cas n c z cells slots) : W p l e R s mm args below meth cc H locs cells slots Q (F0 mm pc sl (st.map (ev ads bS))) := by
  obtain ⟨hd0, hk⟩ := and2 hok
  have hd := of_decide_eq_true hd0
  obtain ⟨jP, jD, jK, jG, jL, jT, jV, jS, jX⟩ := J
  have hl := beqN hk
  subst hl
  obtain ⟨x, y, r, rfl, h9⟩ := sII_inv h
  replace h := h9
  refine lv_iushr B.1 B.2.1 hd (i32_ush x y) ?_
  exact K _ _ _ _ _ _ _ _ ads cas H locs _ _ _ h (Nat.le_refl _) (fun _ _ => ⟨rfl, rfl⟩) ⟨jP, jD, jK, jG, jL, jT.tail.tail.cons (v := vi (ushI x y)) (ush_in _ _), jV, jS, jX⟩ rfl rfl
theorem sn_idiv {l : Launch} {D : va_G} {A : Nat → Prop} {bS : Nat} {p : Program} {e : Env} {R : Room} {s : State} {mm : MethodId} {args : Array Value} {below : List Frame} {meth : Method} {cc : Code} {q : mI} {m pc : Nat} {H : Heap} {locs : List Loc} {cells slots : Nat} {Q : State → Prop} {sl : Array Slot} {ads : Nat → Nat} {cas : Nat → ClassId} {ls : lo} {st : List av} {I : IT} {C : CT} {n c z : Nat} {w : List Nat} {u : ou} {len a b d : Nat} {kc : Nat → lo → List av → IT → CT → Nat → Nat → Nat → Option ou} {ky : Nat → List av → List av → Option ou} {kr : Option av → Option ou} {kt : Nat → Nat → Nat → Option ou}  (B : Bx p R s mm args meth cc q) (J : Jw D A s m q.2.2.1 ads cas bS I C n H locs sl ls st) (hok : okE m q pc (.idiv, len, a, b, d) w = true) (h : stp (.idiv, len, a, b, d) pc ls st I C n c z kc ky kr kt none = some u) (K : Kn p l e R s mm args below meth cc D A m q.2.2.1 bS Q kc u ads cas n c z cells slots) : W p l e R s mm args below meth cc H locs cells slots Q (F0 mm pc sl (st.map (ev ads bS))) := by
  obtain ⟨hd0, hk⟩ := and2 hok
  have hd := of_decide_eq_true hd0
  obtain ⟨jP, jD, jK, jG, jL, jT, jV, jS, jX⟩ := J
  have hl := beqN hk
  subst hl
  obtain ⟨x, y, r, rfl, h9⟩ := sII_inv h
  replace h := h9
  have hy : in32 y := jT.head
  have hx : in32 x := jT.tail.head
  have h0 : ¬ y = 0 := fun z => by rw [if_pos z] at h; cases h
  rw [if_neg h0] at h
  have h1 : ¬ Int32.ofInt y = 0 := fun z => h0 ((i32_inj hy in32_0).mp z)
  refine lv_idiv B.1 B.2.1 hd h1 ?_
  rw [i32_div hx hy]
  exact K _ _ _ _ _ _ _ _ ads cas H locs _ _ _ h (Nat.le_refl _) (fun _ _ => ⟨rfl, rfl⟩) ⟨jP, jD, jK, jG, jL, jT.tail.tail.cons (v := vi (wr (Int.tdiv x y))) (wr_in _), jV, jS, jX⟩ rfl rfl
theorem sn_irem {l : Launch} {D : va_G} {A : Nat → Prop} {bS : Nat} {p : Program} {e : Env} {R : Room} {s : State} {mm : MethodId} {args : Array Value} {below : List Frame} {meth : Method} {cc : Code} {q : mI} {m pc : Nat} {H : Heap} {locs : List Loc} {cells slots : Nat} {Q : State → Prop} {sl : Array Slot} {ads : Nat → Nat} {cas : Nat → ClassId} {ls : lo} {st : List av} {I : IT} {C : CT} {n c z : Nat} {w : List Nat} {u : ou} {len a b d : Nat} {kc : Nat → lo → List av → IT → CT → Nat → Nat → Nat → Option ou} {ky : Nat → List av → List av → Option ou} {kr : Option av → Option ou} {kt : Nat → Nat → Nat → Option ou}  (B : Bx p R s mm args meth cc q) (J : Jw D A s m q.2.2.1 ads cas bS I C n H locs sl ls st) (hok : okE m q pc (.irem, len, a, b, d) w = true) (h : stp (.irem, len, a, b, d) pc ls st I C n c z kc ky kr kt none = some u) (K : Kn p l e R s mm args below meth cc D A m q.2.2.1 bS Q kc u ads cas n c z cells slots) : W p l e R s mm args below meth cc H locs cells slots Q (F0 mm pc sl (st.map (ev ads bS))) := by
  obtain ⟨hd0, hk⟩ := and2 hok
  have hd := of_decide_eq_true hd0
  obtain ⟨jP, jD, jK, jG, jL, jT, jV, jS, jX⟩ := J
  have hl := beqN hk
  subst hl
  obtain ⟨x, y, r, rfl, h9⟩ := sII_inv h
  replace h := h9
  have hy : in32 y := jT.head
  have hx : in32 x := jT.tail.head
  have h0 : ¬ y = 0 := fun z => by rw [if_pos z] at h; cases h
  rw [if_neg h0] at h
  have h1 : ¬ Int32.ofInt y = 0 := fun z => h0 ((i32_inj hy in32_0).mp z)
  refine lv_irem B.1 B.2.1 hd h1 ?_
  rw [i32_rem hx hy h0]
  exact K _ _ _ _ _ _ _ _ ads cas H locs _ _ _ h (Nat.le_refl _) (fun _ _ => ⟨rfl, rfl⟩) ⟨jP, jD, jK, jG, jL, jT.tail.tail.cons (v := vi (Int.tmod x y)) (tmod_in hy h0), jV, jS, jX⟩ rfl rfl
theorem sn_i2l {l : Launch} {D : va_G} {A : Nat → Prop} {bS : Nat} {p : Program} {e : Env} {R : Room} {s : State} {mm : MethodId} {args : Array Value} {below : List Frame} {meth : Method} {cc : Code} {q : mI} {m pc : Nat} {H : Heap} {locs : List Loc} {cells slots : Nat} {Q : State → Prop} {sl : Array Slot} {ads : Nat → Nat} {cas : Nat → ClassId} {ls : lo} {st : List av} {I : IT} {C : CT} {n c z : Nat} {w : List Nat} {u : ou} {len a b d : Nat} {kc : Nat → lo → List av → IT → CT → Nat → Nat → Nat → Option ou} {ky : Nat → List av → List av → Option ou} {kr : Option av → Option ou} {kt : Nat → Nat → Nat → Option ou}  (B : Bx p R s mm args meth cc q) (J : Jw D A s m q.2.2.1 ads cas bS I C n H locs sl ls st) (hok : okE m q pc (.i2l, len, a, b, d) w = true) (h : stp (.i2l, len, a, b, d) pc ls st I C n c z kc ky kr kt none = some u) (K : Kn p l e R s mm args below meth cc D A m q.2.2.1 bS Q kc u ads cas n c z cells slots) : W p l e R s mm args below meth cc H locs cells slots Q (F0 mm pc sl (st.map (ev ads bS))) := by
  obtain ⟨hd0, hk⟩ := and2 hok
  have hd := of_decide_eq_true hd0
  obtain ⟨jP, jD, jK, jG, jL, jT, jV, jS, jX⟩ := J
  have hl := beqN hk
  subst hl
  obtain ⟨x, r, rfl, h9⟩ := sI_inv h
  replace h := h9
  have hx : in32 x := jT.head
  refine lv_i2l B.1 B.2.1 hd (i32_long hx) ?_
  exact K _ _ _ _ _ _ _ _ ads cas H locs _ _ _ h (Nat.le_refl _) (fun _ _ => ⟨rfl, rfl⟩) ⟨jP, jD, jK, jG, jL, jT.tail.cons (v := vl x) (in32_64 hx), jV, jS, jX⟩ rfl rfl
theorem sn_lcmp {l : Launch} {D : va_G} {A : Nat → Prop} {bS : Nat} {p : Program} {e : Env} {R : Room} {s : State} {mm : MethodId} {args : Array Value} {below : List Frame} {meth : Method} {cc : Code} {q : mI} {m pc : Nat} {H : Heap} {locs : List Loc} {cells slots : Nat} {Q : State → Prop} {sl : Array Slot} {ads : Nat → Nat} {cas : Nat → ClassId} {ls : lo} {st : List av} {I : IT} {C : CT} {n c z : Nat} {w : List Nat} {u : ou} {len a b d : Nat} {kc : Nat → lo → List av → IT → CT → Nat → Nat → Nat → Option ou} {ky : Nat → List av → List av → Option ou} {kr : Option av → Option ou} {kt : Nat → Nat → Nat → Option ou}  (B : Bx p R s mm args meth cc q) (J : Jw D A s m q.2.2.1 ads cas bS I C n H locs sl ls st) (hok : okE m q pc (.lcmp, len, a, b, d) w = true) (h : stp (.lcmp, len, a, b, d) pc ls st I C n c z kc ky kr kt none = some u) (K : Kn p l e R s mm args below meth cc D A m q.2.2.1 bS Q kc u ads cas n c z cells slots) : W p l e R s mm args below meth cc H locs cells slots Q (F0 mm pc sl (st.map (ev ads bS))) := by
  obtain ⟨hd0, hk⟩ := and2 hok
  have hd := of_decide_eq_true hd0
  obtain ⟨jP, jD, jK, jG, jL, jT, jV, jS, jX⟩ := J
  have hl := beqN hk
  subst hl
  obtain ⟨x, y, r, rfl, h9⟩ := sLL_inv h
  replace h := h9
  refine W.lcmp B.1 B.2.1 hd ?_
  rw [i64_cmp (show in64 x from jT.tail.head) (show in64 y from jT.head)]
  exact K _ _ _ _ _ _ _ _ ads cas H locs _ _ _ h (Nat.le_refl _) (fun _ _ => ⟨rfl, rfl⟩) ⟨jP, jD, jK, jG, jL, jT.tail.tail.cons (v := vi (cml x y)) (cml_in _ _), jV, jS, jX⟩ rfl rfl
theorem dup_inv {α : Type} {st : List av} {k : av → List av → Option α} {u : α} (h : (match st with
      | Sum.inl x :: r => k (vi x) r
      | Sum.inr (Sum.inr q) :: r => k (vq q) r
      | _ => none) = some u) : ∃ v r, st = v :: r ∧ sho v ∧ k v r = some u := by
  split at h
  · exact ⟨_, _, rfl, trivial, h⟩
  · exact ⟨_, _, rfl, trivial, h⟩
  · cases h
theorem sn_dup {l : Launch} {D : va_G} {A : Nat → Prop} {bS : Nat} {p : Program} {e : Env} {R : Room} {s : State} {mm : MethodId} {args : Array Value} {below : List Frame} {meth : Method} {cc : Code} {q : mI} {m pc : Nat} {H : Heap} {locs : List Loc} {cells slots : Nat} {Q : State → Prop} {sl : Array Slot} {ads : Nat → Nat} {cas : Nat → ClassId} {ls : lo} {st : List av} {I : IT} {C : CT} {n c z : Nat} {w : List Nat} {u : ou} {len a b d : Nat} {kc : Nat → lo → List av → IT → CT → Nat → Nat → Nat → Option ou} {ky : Nat → List av → List av → Option ou} {kr : Option av → Option ou} {kt : Nat → Nat → Nat → Option ou}  (B : Bx p R s mm args meth cc q) (J : Jw D A s m q.2.2.1 ads cas bS I C n H locs sl ls st) (hok : okE m q pc (.dup, len, a, b, d) w = true) (h : stp (.dup, len, a, b, d) pc ls st I C n c z kc ky kr kt none = some u) (K : Kn p l e R s mm args below meth cc D A m q.2.2.1 bS Q kc u ads cas n c z cells slots) : W p l e R s mm args below meth cc H locs cells slots Q (F0 mm pc sl (st.map (ev ads bS))) := by
  obtain ⟨hd0, hk⟩ := and2 hok
  have hd := of_decide_eq_true hd0
  obtain ⟨jP, jD, jK, jG, jL, jT, jV, jS, jX⟩ := J
  have hl := beqN hk
  subst hl
  obtain ⟨v, r, rfl, hs, h9⟩ := dup_inv (k := fun v r => kc (pc + 1) ls (v :: v :: r) I C n c z) h
  replace h := h9
  refine lv_dup B.1 B.2.1 hd (ev_cat hs) ?_
  exact K _ _ _ _ _ _ _ _ ads cas H locs _ _ _ h (Nat.le_refl _) (fun _ _ => ⟨rfl, rfl⟩) ⟨jP, jD, jK, jG, jL, jT.cons jT.head, jV, jS, jX⟩ rfl rfl
theorem dup2_inv {α : Type} {st : List av} {k : Int → Option (Nat × Nat) → List av → Option α} {u : α} (h : (match st with
      | Sum.inl x :: Sum.inr (Sum.inr q) :: r => k x q r
      | _ => none) = some u) : ∃ x q r, st = vi x :: vq q :: r ∧ k x q r = some u := by
  split at h
  · exact ⟨_, _, _, rfl, h⟩
  · cases h
theorem sn_dup2 {l : Launch} {D : va_G} {A : Nat → Prop} {bS : Nat} {p : Program} {e : Env} {R : Room} {s : State} {mm : MethodId} {args : Array Value} {below : List Frame} {meth : Method} {cc : Code} {q : mI} {m pc : Nat} {H : Heap} {locs : List Loc} {cells slots : Nat} {Q : State → Prop} {sl : Array Slot} {ads : Nat → Nat} {cas : Nat → ClassId} {ls : lo} {st : List av} {I : IT} {C : CT} {n c z : Nat} {w : List Nat} {u : ou} {len a b d : Nat} {kc : Nat → lo → List av → IT → CT → Nat → Nat → Nat → Option ou} {ky : Nat → List av → List av → Option ou} {kr : Option av → Option ou} {kt : Nat → Nat → Nat → Option ou}  (B : Bx p R s mm args meth cc q) (J : Jw D A s m q.2.2.1 ads cas bS I C n H locs sl ls st) (hok : okE m q pc (.dup2, len, a, b, d) w = true) (h : stp (.dup2, len, a, b, d) pc ls st I C n c z kc ky kr kt none = some u) (K : Kn p l e R s mm args below meth cc D A m q.2.2.1 bS Q kc u ads cas n c z cells slots) : W p l e R s mm args below meth cc H locs cells slots Q (F0 mm pc sl (st.map (ev ads bS))) := by
  obtain ⟨hd0, hk⟩ := and2 hok
  have hd := of_decide_eq_true hd0
  obtain ⟨jP, jD, jK, jG, jL, jT, jV, jS, jX⟩ := J
  have hl := beqN hk
  subst hl
  obtain ⟨x, y, r, rfl, h9⟩ := dup2_inv (k := fun x q r => kc (pc + 1) ls (vi x :: vq q :: vi x :: vq q :: r) I C n c z) h
  replace h := h9
  refine lv_dup2_11 B.1 B.2.1 hd (ev_cat (v := vi x) trivial) (ev_cat (v := vq y) trivial) ?_
  exact K _ _ _ _ _ _ _ _ ads cas H locs _ _ _ h (Nat.le_refl _) (fun _ _ => ⟨rfl, rfl⟩) ⟨jP, jD, jK, jG, jL, (jT.cons jT.tail.head).cons jT.head, jV, jS, jX⟩ rfl rfl
theorem sn_goto {l : Launch} {D : va_G} {A : Nat → Prop} {bS : Nat} {p : Program} {e : Env} {R : Room} {s : State} {mm : MethodId} {args : Array Value} {below : List Frame} {meth : Method} {cc : Code} {q : mI} {m pc : Nat} {H : Heap} {locs : List Loc} {cells slots : Nat} {Q : State → Prop} {sl : Array Slot} {ads : Nat → Nat} {cas : Nat → ClassId} {ls : lo} {st : List av} {I : IT} {C : CT} {n c z : Nat} {w : List Nat} {u : ou} {len a b d : Nat} {kc : Nat → lo → List av → IT → CT → Nat → Nat → Nat → Option ou} {ky : Nat → List av → List av → Option ou} {kr : Option av → Option ou} {kt : Nat → Nat → Nat → Option ou} {o : Int} (B : Bx p R s mm args meth cc q) (J : Jw D A s m q.2.2.1 ads cas bS I C n H locs sl ls st) (hok : okE m q pc (.goto o, len, a, b, d) w = true) (h : stp (.goto o, len, a, b, d) pc ls st I C n c z kc ky kr kt none = some u) (K : Kn p l e R s mm args below meth cc D A m q.2.2.1 bS Q kc u ads cas n c z cells slots) : W p l e R s mm args below meth cc H locs cells slots Q (F0 mm pc sl (st.map (ev ads bS))) := by
  obtain ⟨hd0, hk⟩ := and2 hok
  have hd := of_decide_eq_true hd0
  obtain ⟨jP, jD, jK, jG, jL, jT, jV, jS, jX⟩ := J
  obtain ⟨hl, ht⟩ := and2 hk
  have hl := beqN hl
  have ht := of_decide_eq_true ht
  subst hl
  refine lv_goto B.1 B.2.1 hd ht ?_
  exact K _ _ _ _ _ _ _ _ ads cas H locs _ _ _ h (Nat.le_refl _) (fun _ _ => ⟨rfl, rfl⟩) ⟨jP, jD, jK, jG, jL, jT, jV, jS, jX⟩ rfl rfl
theorem sn_if_icmp_eq {l : Launch} {D : va_G} {A : Nat → Prop} {bS : Nat} {p : Program} {e : Env} {R : Room} {s : State} {mm : MethodId} {args : Array Value} {below : List Frame} {meth : Method} {cc : Code} {q : mI} {m pc : Nat} {H : Heap} {locs : List Loc} {cells slots : Nat} {Q : State → Prop} {sl : Array Slot} {ads : Nat → Nat} {cas : Nat → ClassId} {ls : lo} {st : List av} {I : IT} {C : CT} {n c z : Nat} {w : List Nat} {u : ou} {len a b d : Nat} {kc : Nat → lo → List av → IT → CT → Nat → Nat → Nat → Option ou} {ky : Nat → List av → List av → Option ou} {kr : Option av → Option ou} {kt : Nat → Nat → Nat → Option ou} {o : Int} (B : Bx p R s mm args meth cc q) (J : Jw D A s m q.2.2.1 ads cas bS I C n H locs sl ls st) (hok : okE m q pc (.if_icmp .eq o, len, a, b, d) w = true) (h : stp (.if_icmp .eq o, len, a, b, d) pc ls st I C n c z kc ky kr kt none = some u) (K : Kn p l e R s mm args below meth cc D A m q.2.2.1 bS Q kc u ads cas n c z cells slots) : W p l e R s mm args below meth cc H locs cells slots Q (F0 mm pc sl (st.map (ev ads bS))) := by
  obtain ⟨hd0, hk⟩ := and2 hok
  have hd := of_decide_eq_true hd0
  obtain ⟨jP, jD, jK, jG, jL, jT, jV, jS, jX⟩ := J
  obtain ⟨hl, ht⟩ := and2 hk
  have hl := beqN hl
  have ht := of_decide_eq_true ht
  subst hl
  obtain ⟨x, y, r, rfl, h9⟩ := sII_inv h
  replace h := h9
  have hy : in32 y := jT.head
  have hx : in32 x := jT.tail.head
  refine lv_icmp_eq B.1 B.2.1 hd ht (fun z => ?_) (fun z => ?_)
  · have z2 : x = y := (i32_inj hx hy).mp z
    rw [if_pos z2] at h
    exact K _ _ _ _ _ _ _ _ ads cas H locs _ _ _ h (Nat.le_refl _) (fun _ _ => ⟨rfl, rfl⟩) ⟨jP, jD, jK, jG, jL, jT.tail.tail, jV, jS, jX⟩ rfl rfl
  · have z2 : ¬ (x = y) := fun g => z ((i32_inj hx hy).mpr g)
    rw [if_neg z2] at h
    exact K _ _ _ _ _ _ _ _ ads cas H locs _ _ _ h (Nat.le_refl _) (fun _ _ => ⟨rfl, rfl⟩) ⟨jP, jD, jK, jG, jL, jT.tail.tail, jV, jS, jX⟩ rfl rfl
theorem sn_ifCond_eq {l : Launch} {D : va_G} {A : Nat → Prop} {bS : Nat} {p : Program} {e : Env} {R : Room} {s : State} {mm : MethodId} {args : Array Value} {below : List Frame} {meth : Method} {cc : Code} {q : mI} {m pc : Nat} {H : Heap} {locs : List Loc} {cells slots : Nat} {Q : State → Prop} {sl : Array Slot} {ads : Nat → Nat} {cas : Nat → ClassId} {ls : lo} {st : List av} {I : IT} {C : CT} {n c z : Nat} {w : List Nat} {u : ou} {len a b d : Nat} {kc : Nat → lo → List av → IT → CT → Nat → Nat → Nat → Option ou} {ky : Nat → List av → List av → Option ou} {kr : Option av → Option ou} {kt : Nat → Nat → Nat → Option ou} {o : Int} (B : Bx p R s mm args meth cc q) (J : Jw D A s m q.2.2.1 ads cas bS I C n H locs sl ls st) (hok : okE m q pc (.ifCond .eq o, len, a, b, d) w = true) (h : stp (.ifCond .eq o, len, a, b, d) pc ls st I C n c z kc ky kr kt none = some u) (K : Kn p l e R s mm args below meth cc D A m q.2.2.1 bS Q kc u ads cas n c z cells slots) : W p l e R s mm args below meth cc H locs cells slots Q (F0 mm pc sl (st.map (ev ads bS))) := by
  obtain ⟨hd0, hk⟩ := and2 hok
  have hd := of_decide_eq_true hd0
  obtain ⟨jP, jD, jK, jG, jL, jT, jV, jS, jX⟩ := J
  obtain ⟨hl, ht⟩ := and2 hk
  have hl := beqN hl
  have ht := of_decide_eq_true ht
  subst hl
  obtain ⟨x, r, rfl, h9⟩ := sI_inv h
  replace h := h9
  have hy : in32 0 := in32_0
  have hx : in32 x := jT.head
  refine lv_if_eq B.1 B.2.1 hd ht (fun z => ?_) (fun z => ?_)
  · have z2 : x = 0 := (i32_inj hx hy).mp z
    rw [if_pos z2] at h
    exact K _ _ _ _ _ _ _ _ ads cas H locs _ _ _ h (Nat.le_refl _) (fun _ _ => ⟨rfl, rfl⟩) ⟨jP, jD, jK, jG, jL, jT.tail, jV, jS, jX⟩ rfl rfl
  · have z2 : ¬ (x = 0) := fun g => z ((i32_inj hx hy).mpr g)
    rw [if_neg z2] at h
    exact K _ _ _ _ _ _ _ _ ads cas H locs _ _ _ h (Nat.le_refl _) (fun _ _ => ⟨rfl, rfl⟩) ⟨jP, jD, jK, jG, jL, jT.tail, jV, jS, jX⟩ rfl rfl
theorem sn_if_icmp_ne {l : Launch} {D : va_G} {A : Nat → Prop} {bS : Nat} {p : Program} {e : Env} {R : Room} {s : State} {mm : MethodId} {args : Array Value} {below : List Frame} {meth : Method} {cc : Code} {q : mI} {m pc : Nat} {H : Heap} {locs : List Loc} {cells slots : Nat} {Q : State → Prop} {sl : Array Slot} {ads : Nat → Nat} {cas : Nat → ClassId} {ls : lo} {st : List av} {I : IT} {C : CT} {n c z : Nat} {w : List Nat} {u : ou} {len a b d : Nat} {kc : Nat → lo → List av → IT → CT → Nat → Nat → Nat → Option ou} {ky : Nat → List av → List av → Option ou} {kr : Option av → Option ou} {kt : Nat → Nat → Nat → Option ou} {o : Int} (B : Bx p R s mm args meth cc q) (J : Jw D A s m q.2.2.1 ads cas bS I C n H locs sl ls st) (hok : okE m q pc (.if_icmp .ne o, len, a, b, d) w = true) (h : stp (.if_icmp .ne o, len, a, b, d) pc ls st I C n c z kc ky kr kt none = some u) (K : Kn p l e R s mm args below meth cc D A m q.2.2.1 bS Q kc u ads cas n c z cells slots) : W p l e R s mm args below meth cc H locs cells slots Q (F0 mm pc sl (st.map (ev ads bS))) := by
  obtain ⟨hd0, hk⟩ := and2 hok
  have hd := of_decide_eq_true hd0
  obtain ⟨jP, jD, jK, jG, jL, jT, jV, jS, jX⟩ := J
  obtain ⟨hl, ht⟩ := and2 hk
  have hl := beqN hl
  have ht := of_decide_eq_true ht
  subst hl
  obtain ⟨x, y, r, rfl, h9⟩ := sII_inv h
  replace h := h9
  have hy : in32 y := jT.head
  have hx : in32 x := jT.tail.head
  refine lv_icmp_ne B.1 B.2.1 hd ht (fun z => ?_) (fun z => ?_)
  · have z2 : ¬ (x = y) := fun g => z ((i32_inj hx hy).mpr g)
    rw [if_neg z2] at h
    exact K _ _ _ _ _ _ _ _ ads cas H locs _ _ _ h (Nat.le_refl _) (fun _ _ => ⟨rfl, rfl⟩) ⟨jP, jD, jK, jG, jL, jT.tail.tail, jV, jS, jX⟩ rfl rfl
  · have z2 : x = y := (i32_inj hx hy).mp z
    rw [if_pos z2] at h
    exact K _ _ _ _ _ _ _ _ ads cas H locs _ _ _ h (Nat.le_refl _) (fun _ _ => ⟨rfl, rfl⟩) ⟨jP, jD, jK, jG, jL, jT.tail.tail, jV, jS, jX⟩ rfl rfl
theorem sn_ifCond_ne {l : Launch} {D : va_G} {A : Nat → Prop} {bS : Nat} {p : Program} {e : Env} {R : Room} {s : State} {mm : MethodId} {args : Array Value} {below : List Frame} {meth : Method} {cc : Code} {q : mI} {m pc : Nat} {H : Heap} {locs : List Loc} {cells slots : Nat} {Q : State → Prop} {sl : Array Slot} {ads : Nat → Nat} {cas : Nat → ClassId} {ls : lo} {st : List av} {I : IT} {C : CT} {n c z : Nat} {w : List Nat} {u : ou} {len a b d : Nat} {kc : Nat → lo → List av → IT → CT → Nat → Nat → Nat → Option ou} {ky : Nat → List av → List av → Option ou} {kr : Option av → Option ou} {kt : Nat → Nat → Nat → Option ou} {o : Int} (B : Bx p R s mm args meth cc q) (J : Jw D A s m q.2.2.1 ads cas bS I C n H locs sl ls st) (hok : okE m q pc (.ifCond .ne o, len, a, b, d) w = true) (h : stp (.ifCond .ne o, len, a, b, d) pc ls st I C n c z kc ky kr kt none = some u) (K : Kn p l e R s mm args below meth cc D A m q.2.2.1 bS Q kc u ads cas n c z cells slots) : W p l e R s mm args below meth cc H locs cells slots Q (F0 mm pc sl (st.map (ev ads bS))) := by
  obtain ⟨hd0, hk⟩ := and2 hok
  have hd := of_decide_eq_true hd0
  obtain ⟨jP, jD, jK, jG, jL, jT, jV, jS, jX⟩ := J
  obtain ⟨hl, ht⟩ := and2 hk
  have hl := beqN hl
  have ht := of_decide_eq_true ht
  subst hl
  obtain ⟨x, r, rfl, h9⟩ := sI_inv h
  replace h := h9
  have hy : in32 0 := in32_0
  have hx : in32 x := jT.head
  refine lv_if_ne B.1 B.2.1 hd ht (fun z => ?_) (fun z => ?_)
  · have z2 : ¬ (x = 0) := fun g => z ((i32_inj hx hy).mpr g)
    rw [if_neg z2] at h
    exact K _ _ _ _ _ _ _ _ ads cas H locs _ _ _ h (Nat.le_refl _) (fun _ _ => ⟨rfl, rfl⟩) ⟨jP, jD, jK, jG, jL, jT.tail, jV, jS, jX⟩ rfl rfl
  · have z2 : x = 0 := (i32_inj hx hy).mp z
    rw [if_pos z2] at h
    exact K _ _ _ _ _ _ _ _ ads cas H locs _ _ _ h (Nat.le_refl _) (fun _ _ => ⟨rfl, rfl⟩) ⟨jP, jD, jK, jG, jL, jT.tail, jV, jS, jX⟩ rfl rfl
theorem sn_if_icmp_lt {l : Launch} {D : va_G} {A : Nat → Prop} {bS : Nat} {p : Program} {e : Env} {R : Room} {s : State} {mm : MethodId} {args : Array Value} {below : List Frame} {meth : Method} {cc : Code} {q : mI} {m pc : Nat} {H : Heap} {locs : List Loc} {cells slots : Nat} {Q : State → Prop} {sl : Array Slot} {ads : Nat → Nat} {cas : Nat → ClassId} {ls : lo} {st : List av} {I : IT} {C : CT} {n c z : Nat} {w : List Nat} {u : ou} {len a b d : Nat} {kc : Nat → lo → List av → IT → CT → Nat → Nat → Nat → Option ou} {ky : Nat → List av → List av → Option ou} {kr : Option av → Option ou} {kt : Nat → Nat → Nat → Option ou} {o : Int} (B : Bx p R s mm args meth cc q) (J : Jw D A s m q.2.2.1 ads cas bS I C n H locs sl ls st) (hok : okE m q pc (.if_icmp .lt o, len, a, b, d) w = true) (h : stp (.if_icmp .lt o, len, a, b, d) pc ls st I C n c z kc ky kr kt none = some u) (K : Kn p l e R s mm args below meth cc D A m q.2.2.1 bS Q kc u ads cas n c z cells slots) : W p l e R s mm args below meth cc H locs cells slots Q (F0 mm pc sl (st.map (ev ads bS))) := by
  obtain ⟨hd0, hk⟩ := and2 hok
  have hd := of_decide_eq_true hd0
  obtain ⟨jP, jD, jK, jG, jL, jT, jV, jS, jX⟩ := J
  obtain ⟨hl, ht⟩ := and2 hk
  have hl := beqN hl
  have ht := of_decide_eq_true ht
  subst hl
  obtain ⟨x, y, r, rfl, h9⟩ := sII_inv h
  replace h := h9
  have hy : in32 y := jT.head
  have hx : in32 x := jT.tail.head
  refine lv_icmp_lt B.1 B.2.1 hd ht (fun z => ?_) (fun z => ?_)
  · have z2 : x < y := (i32_lt hx hy).mp z
    rw [if_pos z2] at h
    exact K _ _ _ _ _ _ _ _ ads cas H locs _ _ _ h (Nat.le_refl _) (fun _ _ => ⟨rfl, rfl⟩) ⟨jP, jD, jK, jG, jL, jT.tail.tail, jV, jS, jX⟩ rfl rfl
  · have z2 : ¬ (x < y) := fun g => z ((i32_lt hx hy).mpr g)
    rw [if_neg z2] at h
    exact K _ _ _ _ _ _ _ _ ads cas H locs _ _ _ h (Nat.le_refl _) (fun _ _ => ⟨rfl, rfl⟩) ⟨jP, jD, jK, jG, jL, jT.tail.tail, jV, jS, jX⟩ rfl rfl
theorem sn_ifCond_lt {l : Launch} {D : va_G} {A : Nat → Prop} {bS : Nat} {p : Program} {e : Env} {R : Room} {s : State} {mm : MethodId} {args : Array Value} {below : List Frame} {meth : Method} {cc : Code} {q : mI} {m pc : Nat} {H : Heap} {locs : List Loc} {cells slots : Nat} {Q : State → Prop} {sl : Array Slot} {ads : Nat → Nat} {cas : Nat → ClassId} {ls : lo} {st : List av} {I : IT} {C : CT} {n c z : Nat} {w : List Nat} {u : ou} {len a b d : Nat} {kc : Nat → lo → List av → IT → CT → Nat → Nat → Nat → Option ou} {ky : Nat → List av → List av → Option ou} {kr : Option av → Option ou} {kt : Nat → Nat → Nat → Option ou} {o : Int} (B : Bx p R s mm args meth cc q) (J : Jw D A s m q.2.2.1 ads cas bS I C n H locs sl ls st) (hok : okE m q pc (.ifCond .lt o, len, a, b, d) w = true) (h : stp (.ifCond .lt o, len, a, b, d) pc ls st I C n c z kc ky kr kt none = some u) (K : Kn p l e R s mm args below meth cc D A m q.2.2.1 bS Q kc u ads cas n c z cells slots) : W p l e R s mm args below meth cc H locs cells slots Q (F0 mm pc sl (st.map (ev ads bS))) := by
  obtain ⟨hd0, hk⟩ := and2 hok
  have hd := of_decide_eq_true hd0
  obtain ⟨jP, jD, jK, jG, jL, jT, jV, jS, jX⟩ := J
  obtain ⟨hl, ht⟩ := and2 hk
  have hl := beqN hl
  have ht := of_decide_eq_true ht
  subst hl
  obtain ⟨x, r, rfl, h9⟩ := sI_inv h
  replace h := h9
  have hy : in32 0 := in32_0
  have hx : in32 x := jT.head
  refine lv_if_lt B.1 B.2.1 hd ht (fun z => ?_) (fun z => ?_)
  · have z2 : x < 0 := (i32_lt hx hy).mp z
    rw [if_pos z2] at h
    exact K _ _ _ _ _ _ _ _ ads cas H locs _ _ _ h (Nat.le_refl _) (fun _ _ => ⟨rfl, rfl⟩) ⟨jP, jD, jK, jG, jL, jT.tail, jV, jS, jX⟩ rfl rfl
  · have z2 : ¬ (x < 0) := fun g => z ((i32_lt hx hy).mpr g)
    rw [if_neg z2] at h
    exact K _ _ _ _ _ _ _ _ ads cas H locs _ _ _ h (Nat.le_refl _) (fun _ _ => ⟨rfl, rfl⟩) ⟨jP, jD, jK, jG, jL, jT.tail, jV, jS, jX⟩ rfl rfl
theorem sn_if_icmp_ge {l : Launch} {D : va_G} {A : Nat → Prop} {bS : Nat} {p : Program} {e : Env} {R : Room} {s : State} {mm : MethodId} {args : Array Value} {below : List Frame} {meth : Method} {cc : Code} {q : mI} {m pc : Nat} {H : Heap} {locs : List Loc} {cells slots : Nat} {Q : State → Prop} {sl : Array Slot} {ads : Nat → Nat} {cas : Nat → ClassId} {ls : lo} {st : List av} {I : IT} {C : CT} {n c z : Nat} {w : List Nat} {u : ou} {len a b d : Nat} {kc : Nat → lo → List av → IT → CT → Nat → Nat → Nat → Option ou} {ky : Nat → List av → List av → Option ou} {kr : Option av → Option ou} {kt : Nat → Nat → Nat → Option ou} {o : Int} (B : Bx p R s mm args meth cc q) (J : Jw D A s m q.2.2.1 ads cas bS I C n H locs sl ls st) (hok : okE m q pc (.if_icmp .ge o, len, a, b, d) w = true) (h : stp (.if_icmp .ge o, len, a, b, d) pc ls st I C n c z kc ky kr kt none = some u) (K : Kn p l e R s mm args below meth cc D A m q.2.2.1 bS Q kc u ads cas n c z cells slots) : W p l e R s mm args below meth cc H locs cells slots Q (F0 mm pc sl (st.map (ev ads bS))) := by
  obtain ⟨hd0, hk⟩ := and2 hok
  have hd := of_decide_eq_true hd0
  obtain ⟨jP, jD, jK, jG, jL, jT, jV, jS, jX⟩ := J
  obtain ⟨hl, ht⟩ := and2 hk
  have hl := beqN hl
  have ht := of_decide_eq_true ht
  subst hl
  obtain ⟨x, y, r, rfl, h9⟩ := sII_inv h
  replace h := h9
  have hy : in32 y := jT.head
  have hx : in32 x := jT.tail.head
  refine lv_icmp_ge B.1 B.2.1 hd ht (fun z => ?_) (fun z => ?_)
  · have z2 : ¬ (x < y) := Int.not_lt.mpr ((i32_le hy hx).mp z)
    rw [if_neg z2] at h
    exact K _ _ _ _ _ _ _ _ ads cas H locs _ _ _ h (Nat.le_refl _) (fun _ _ => ⟨rfl, rfl⟩) ⟨jP, jD, jK, jG, jL, jT.tail.tail, jV, jS, jX⟩ rfl rfl
  · have z2 : x < y := Int.not_le.mp (fun g => z ((i32_le hy hx).mpr g))
    rw [if_pos z2] at h
    exact K _ _ _ _ _ _ _ _ ads cas H locs _ _ _ h (Nat.le_refl _) (fun _ _ => ⟨rfl, rfl⟩) ⟨jP, jD, jK, jG, jL, jT.tail.tail, jV, jS, jX⟩ rfl rfl
theorem sn_ifCond_ge {l : Launch} {D : va_G} {A : Nat → Prop} {bS : Nat} {p : Program} {e : Env} {R : Room} {s : State} {mm : MethodId} {args : Array Value} {below : List Frame} {meth : Method} {cc : Code} {q : mI} {m pc : Nat} {H : Heap} {locs : List Loc} {cells slots : Nat} {Q : State → Prop} {sl : Array Slot} {ads : Nat → Nat} {cas : Nat → ClassId} {ls : lo} {st : List av} {I : IT} {C : CT} {n c z : Nat} {w : List Nat} {u : ou} {len a b d : Nat} {kc : Nat → lo → List av → IT → CT → Nat → Nat → Nat → Option ou} {ky : Nat → List av → List av → Option ou} {kr : Option av → Option ou} {kt : Nat → Nat → Nat → Option ou} {o : Int} (B : Bx p R s mm args meth cc q) (J : Jw D A s m q.2.2.1 ads cas bS I C n H locs sl ls st) (hok : okE m q pc (.ifCond .ge o, len, a, b, d) w = true) (h : stp (.ifCond .ge o, len, a, b, d) pc ls st I C n c z kc ky kr kt none = some u) (K : Kn p l e R s mm args below meth cc D A m q.2.2.1 bS Q kc u ads cas n c z cells slots) : W p l e R s mm args below meth cc H locs cells slots Q (F0 mm pc sl (st.map (ev ads bS))) := by
  obtain ⟨hd0, hk⟩ := and2 hok
  have hd := of_decide_eq_true hd0
  obtain ⟨jP, jD, jK, jG, jL, jT, jV, jS, jX⟩ := J
  obtain ⟨hl, ht⟩ := and2 hk
  have hl := beqN hl
  have ht := of_decide_eq_true ht
  subst hl
  obtain ⟨x, r, rfl, h9⟩ := sI_inv h
  replace h := h9
  have hy : in32 0 := in32_0
  have hx : in32 x := jT.head
  refine lv_if_ge B.1 B.2.1 hd ht (fun z => ?_) (fun z => ?_)
  · have z2 : ¬ (x < 0) := Int.not_lt.mpr ((i32_le hy hx).mp z)
    rw [if_neg z2] at h
    exact K _ _ _ _ _ _ _ _ ads cas H locs _ _ _ h (Nat.le_refl _) (fun _ _ => ⟨rfl, rfl⟩) ⟨jP, jD, jK, jG, jL, jT.tail, jV, jS, jX⟩ rfl rfl
  · have z2 : x < 0 := Int.not_le.mp (fun g => z ((i32_le hy hx).mpr g))
    rw [if_pos z2] at h
    exact K _ _ _ _ _ _ _ _ ads cas H locs _ _ _ h (Nat.le_refl _) (fun _ _ => ⟨rfl, rfl⟩) ⟨jP, jD, jK, jG, jL, jT.tail, jV, jS, jX⟩ rfl rfl
theorem sn_if_icmp_gt {l : Launch} {D : va_G} {A : Nat → Prop} {bS : Nat} {p : Program} {e : Env} {R : Room} {s : State} {mm : MethodId} {args : Array Value} {below : List Frame} {meth : Method} {cc : Code} {q : mI} {m pc : Nat} {H : Heap} {locs : List Loc} {cells slots : Nat} {Q : State → Prop} {sl : Array Slot} {ads : Nat → Nat} {cas : Nat → ClassId} {ls : lo} {st : List av} {I : IT} {C : CT} {n c z : Nat} {w : List Nat} {u : ou} {len a b d : Nat} {kc : Nat → lo → List av → IT → CT → Nat → Nat → Nat → Option ou} {ky : Nat → List av → List av → Option ou} {kr : Option av → Option ou} {kt : Nat → Nat → Nat → Option ou} {o : Int} (B : Bx p R s mm args meth cc q) (J : Jw D A s m q.2.2.1 ads cas bS I C n H locs sl ls st) (hok : okE m q pc (.if_icmp .gt o, len, a, b, d) w = true) (h : stp (.if_icmp .gt o, len, a, b, d) pc ls st I C n c z kc ky kr kt none = some u) (K : Kn p l e R s mm args below meth cc D A m q.2.2.1 bS Q kc u ads cas n c z cells slots) : W p l e R s mm args below meth cc H locs cells slots Q (F0 mm pc sl (st.map (ev ads bS))) := by
  obtain ⟨hd0, hk⟩ := and2 hok
  have hd := of_decide_eq_true hd0
  obtain ⟨jP, jD, jK, jG, jL, jT, jV, jS, jX⟩ := J
  obtain ⟨hl, ht⟩ := and2 hk
  have hl := beqN hl
  have ht := of_decide_eq_true ht
  subst hl
  obtain ⟨x, y, r, rfl, h9⟩ := sII_inv h
  replace h := h9
  have hy : in32 y := jT.head
  have hx : in32 x := jT.tail.head
  refine lv_icmp_gt B.1 B.2.1 hd ht (fun z => ?_) (fun z => ?_)
  · have z2 : y < x := (i32_lt hy hx).mp z
    rw [if_pos z2] at h
    exact K _ _ _ _ _ _ _ _ ads cas H locs _ _ _ h (Nat.le_refl _) (fun _ _ => ⟨rfl, rfl⟩) ⟨jP, jD, jK, jG, jL, jT.tail.tail, jV, jS, jX⟩ rfl rfl
  · have z2 : ¬ (y < x) := fun g => z ((i32_lt hy hx).mpr g)
    rw [if_neg z2] at h
    exact K _ _ _ _ _ _ _ _ ads cas H locs _ _ _ h (Nat.le_refl _) (fun _ _ => ⟨rfl, rfl⟩) ⟨jP, jD, jK, jG, jL, jT.tail.tail, jV, jS, jX⟩ rfl rfl
theorem sn_ifCond_gt {l : Launch} {D : va_G} {A : Nat → Prop} {bS : Nat} {p : Program} {e : Env} {R : Room} {s : State} {mm : MethodId} {args : Array Value} {below : List Frame} {meth : Method} {cc : Code} {q : mI} {m pc : Nat} {H : Heap} {locs : List Loc} {cells slots : Nat} {Q : State → Prop} {sl : Array Slot} {ads : Nat → Nat} {cas : Nat → ClassId} {ls : lo} {st : List av} {I : IT} {C : CT} {n c z : Nat} {w : List Nat} {u : ou} {len a b d : Nat} {kc : Nat → lo → List av → IT → CT → Nat → Nat → Nat → Option ou} {ky : Nat → List av → List av → Option ou} {kr : Option av → Option ou} {kt : Nat → Nat → Nat → Option ou} {o : Int} (B : Bx p R s mm args meth cc q) (J : Jw D A s m q.2.2.1 ads cas bS I C n H locs sl ls st) (hok : okE m q pc (.ifCond .gt o, len, a, b, d) w = true) (h : stp (.ifCond .gt o, len, a, b, d) pc ls st I C n c z kc ky kr kt none = some u) (K : Kn p l e R s mm args below meth cc D A m q.2.2.1 bS Q kc u ads cas n c z cells slots) : W p l e R s mm args below meth cc H locs cells slots Q (F0 mm pc sl (st.map (ev ads bS))) := by
  obtain ⟨hd0, hk⟩ := and2 hok
  have hd := of_decide_eq_true hd0
  obtain ⟨jP, jD, jK, jG, jL, jT, jV, jS, jX⟩ := J
  obtain ⟨hl, ht⟩ := and2 hk
  have hl := beqN hl
  have ht := of_decide_eq_true ht
  subst hl
  obtain ⟨x, r, rfl, h9⟩ := sI_inv h
  replace h := h9
  have hy : in32 0 := in32_0
  have hx : in32 x := jT.head
  refine lv_if_gt B.1 B.2.1 hd ht (fun z => ?_) (fun z => ?_)
  · have z2 : 0 < x := (i32_lt hy hx).mp z
    rw [if_pos z2] at h
    exact K _ _ _ _ _ _ _ _ ads cas H locs _ _ _ h (Nat.le_refl _) (fun _ _ => ⟨rfl, rfl⟩) ⟨jP, jD, jK, jG, jL, jT.tail, jV, jS, jX⟩ rfl rfl
  · have z2 : ¬ (0 < x) := fun g => z ((i32_lt hy hx).mpr g)
    rw [if_neg z2] at h
    exact K _ _ _ _ _ _ _ _ ads cas H locs _ _ _ h (Nat.le_refl _) (fun _ _ => ⟨rfl, rfl⟩) ⟨jP, jD, jK, jG, jL, jT.tail, jV, jS, jX⟩ rfl rfl
theorem sn_if_icmp_le {l : Launch} {D : va_G} {A : Nat → Prop} {bS : Nat} {p : Program} {e : Env} {R : Room} {s : State} {mm : MethodId} {args : Array Value} {below : List Frame} {meth : Method} {cc : Code} {q : mI} {m pc : Nat} {H : Heap} {locs : List Loc} {cells slots : Nat} {Q : State → Prop} {sl : Array Slot} {ads : Nat → Nat} {cas : Nat → ClassId} {ls : lo} {st : List av} {I : IT} {C : CT} {n c z : Nat} {w : List Nat} {u : ou} {len a b d : Nat} {kc : Nat → lo → List av → IT → CT → Nat → Nat → Nat → Option ou} {ky : Nat → List av → List av → Option ou} {kr : Option av → Option ou} {kt : Nat → Nat → Nat → Option ou} {o : Int} (B : Bx p R s mm args meth cc q) (J : Jw D A s m q.2.2.1 ads cas bS I C n H locs sl ls st) (hok : okE m q pc (.if_icmp .le o, len, a, b, d) w = true) (h : stp (.if_icmp .le o, len, a, b, d) pc ls st I C n c z kc ky kr kt none = some u) (K : Kn p l e R s mm args below meth cc D A m q.2.2.1 bS Q kc u ads cas n c z cells slots) : W p l e R s mm args below meth cc H locs cells slots Q (F0 mm pc sl (st.map (ev ads bS))) := by
  obtain ⟨hd0, hk⟩ := and2 hok
  have hd := of_decide_eq_true hd0
  obtain ⟨jP, jD, jK, jG, jL, jT, jV, jS, jX⟩ := J
  obtain ⟨hl, ht⟩ := and2 hk
  have hl := beqN hl
  have ht := of_decide_eq_true ht
  subst hl
  obtain ⟨x, y, r, rfl, h9⟩ := sII_inv h
  replace h := h9
  have hy : in32 y := jT.head
  have hx : in32 x := jT.tail.head
  refine lv_icmp_le B.1 B.2.1 hd ht (fun z => ?_) (fun z => ?_)
  · have z2 : ¬ (y < x) := Int.not_lt.mpr ((i32_le hx hy).mp z)
    rw [if_neg z2] at h
    exact K _ _ _ _ _ _ _ _ ads cas H locs _ _ _ h (Nat.le_refl _) (fun _ _ => ⟨rfl, rfl⟩) ⟨jP, jD, jK, jG, jL, jT.tail.tail, jV, jS, jX⟩ rfl rfl
  · have z2 : y < x := Int.not_le.mp (fun g => z ((i32_le hx hy).mpr g))
    rw [if_pos z2] at h
    exact K _ _ _ _ _ _ _ _ ads cas H locs _ _ _ h (Nat.le_refl _) (fun _ _ => ⟨rfl, rfl⟩) ⟨jP, jD, jK, jG, jL, jT.tail.tail, jV, jS, jX⟩ rfl rfl
theorem sn_ifCond_le {l : Launch} {D : va_G} {A : Nat → Prop} {bS : Nat} {p : Program} {e : Env} {R : Room} {s : State} {mm : MethodId} {args : Array Value} {below : List Frame} {meth : Method} {cc : Code} {q : mI} {m pc : Nat} {H : Heap} {locs : List Loc} {cells slots : Nat} {Q : State → Prop} {sl : Array Slot} {ads : Nat → Nat} {cas : Nat → ClassId} {ls : lo} {st : List av} {I : IT} {C : CT} {n c z : Nat} {w : List Nat} {u : ou} {len a b d : Nat} {kc : Nat → lo → List av → IT → CT → Nat → Nat → Nat → Option ou} {ky : Nat → List av → List av → Option ou} {kr : Option av → Option ou} {kt : Nat → Nat → Nat → Option ou} {o : Int} (B : Bx p R s mm args meth cc q) (J : Jw D A s m q.2.2.1 ads cas bS I C n H locs sl ls st) (hok : okE m q pc (.ifCond .le o, len, a, b, d) w = true) (h : stp (.ifCond .le o, len, a, b, d) pc ls st I C n c z kc ky kr kt none = some u) (K : Kn p l e R s mm args below meth cc D A m q.2.2.1 bS Q kc u ads cas n c z cells slots) : W p l e R s mm args below meth cc H locs cells slots Q (F0 mm pc sl (st.map (ev ads bS))) := by
  obtain ⟨hd0, hk⟩ := and2 hok
  have hd := of_decide_eq_true hd0
  obtain ⟨jP, jD, jK, jG, jL, jT, jV, jS, jX⟩ := J
  obtain ⟨hl, ht⟩ := and2 hk
  have hl := beqN hl
  have ht := of_decide_eq_true ht
  subst hl
  obtain ⟨x, r, rfl, h9⟩ := sI_inv h
  replace h := h9
  have hy : in32 0 := in32_0
  have hx : in32 x := jT.head
  refine lv_if_le B.1 B.2.1 hd ht (fun z => ?_) (fun z => ?_)
  · have z2 : ¬ (0 < x) := Int.not_lt.mpr ((i32_le hx hy).mp z)
    rw [if_neg z2] at h
    exact K _ _ _ _ _ _ _ _ ads cas H locs _ _ _ h (Nat.le_refl _) (fun _ _ => ⟨rfl, rfl⟩) ⟨jP, jD, jK, jG, jL, jT.tail, jV, jS, jX⟩ rfl rfl
  · have z2 : 0 < x := Int.not_le.mp (fun g => z ((i32_le hx hy).mpr g))
    rw [if_pos z2] at h
    exact K _ _ _ _ _ _ _ _ ads cas H locs _ _ _ h (Nat.le_refl _) (fun _ _ => ⟨rfl, rfl⟩) ⟨jP, jD, jK, jG, jL, jT.tail, jV, jS, jX⟩ rfl rfl
