def agM (S S2 : IT) : Prop := ∀ f i j, 27 ≤ f → f ≤ 58 → S2 f i j = S f i j
theorem agM.up {S S2 : IT} (h : agM S S2) {f i j : Nat} {v w : Int} (e : w = v) : agM (up3 S f i j v) (up3 S2 f i j w) := fun a b c h1 h2 => by
  by_cases q : a = f ∧ b = i ∧ c = j
  · obtain ⟨rfl, rfl, rfl⟩ := q
    rw [up3_eq, up3_eq]; exact e
  · rw [up3_no q, up3_no q]; exact h a b c h1 h2
theorem agM.D {S S2 : IT} (h : agM S S2) : agD S S2 := ⟨h _ _ _ (by omega) (by omega), h _ _ _ (by omega) (by omega), fun f h1 h2 i j => h f i j (by omega) (by omega)⟩
theorem fr9_M {S S2 : IT} (h : agM S S2) {k : Nat} {p : Int} : fr9 S2 k p = fr9 S k p := by
  unfold fr9; rw [h 37 0 k (by omega) (by omega), h 28 0 _ (by omega) (by omega)]
theorem nb_M {S S2 : IT} (h : agM S S2) {p : Int} : ∀ k, nb S2 p k = nb S p k := by
  intro k
  induction k with
  | zero => rfl
  | succ k ih => unfold nb; rw [ih, h 39 0 k (by omega) (by omega), fr9_M h, fr9_M h]
theorem bst_M {S S2 : IT} (h : agM S S2) {q : Nat} : bst S2 q = bst S q := by
  unfold bst; rw [h 42 0 q (by omega) (by omega), h 44 0 q (by omega) (by omega), h 27 0 14 (by omega) (by omega), nb_M h]
theorem thr9_M {S S2 : IT} (h : agM S S2) {q b : Nat} : thr9 S2 q b = thr9 S q b := by
  unfold thr9; rw [h 27 0 0 (by omega) (by omega), h 44 0 q (by omega) (by omega), h 47 0 q (by omega) (by omega), fr9_M h]
theorem snd1_M {S S2 : IT} (h : agM S S2) {q : Nat} : agM (snd1 S q) (snd1 S2 q) := by
  unfold snd1
  rw [bst_M h]
  split
  · exact h
  · unfold snd0
    exact (((((h.up rfl).up rfl).up (thr9_M h)).up (by rw [thr9_M h])).up (h 44 0 q (by omega) (by omega))).up rfl
theorem sndF_M : ∀ (d q : Nat) (S S2 : IT), agM S S2 → agM (sndF d q S) (sndF d q S2) := by
  intro d
  induction d with
  | zero => intro q S S2 h; exact h
  | succ d ih => intro q S S2 h; exact ih (q + 1) _ _ (snd1_M h)
theorem sends_M {S S2 : IT} (h : agM S S2) : agM (sends S) (sends S2) := by
  unfold sends
  rw [h 27 0 18 (by omega) (by omega)]
  exact sndF_M _ _ _ _ h

