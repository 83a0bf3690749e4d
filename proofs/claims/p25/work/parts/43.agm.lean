def agM (S S2 : IT) : Prop := ∀ f i j, 27 ≤ f → f ≤ 58 → S2 f i j = S f i j
theorem agM.up {S S2 : IT} (h : agM S S2) {f i j : Nat} {v w : Int} (e : w = v) : agM (up3 S f i j v) (up3 S2 f i j w) := fun a b c h1 h2 => by
  by_cases q : a = f ∧ b = i ∧ c = j
  · obtain ⟨rfl, rfl, rfl⟩ := q
    rw [up3_eq, up3_eq]; exact e
  · rw [up3_no q, up3_no q]; exact h a b c h1 h2
theorem agM.D {S S2 : IT} (h : agM S S2) : agD S S2 := ⟨h _ _ _ (by omega) (by omega), h _ _ _ (by omega) (by omega), fun f h1 h2 i j => h f i j (by omega) (by omega)⟩
theorem fr9_M {S S2 : IT} (h : agM S S2) {k : Nat} {p : Int} : fr9 S2 k p = fr9 S k p := by
  unfold fr9; rw [h 37 0 k (by omega) (by omega), h 28 0 _ (by omega) (by omega)]
theorem nb_M {S S2 : IT} (h : agM S S2) {p : Int} : ∀ k, nb S2 p k = nb S p k := by
  intro k
  induction k with
  | zero => rfl
  | succ k ih => unfold nb; rw [ih, h 39 0 k (by omega) (by omega), fr9_M h, fr9_M h]
theorem bst_M {S S2 : IT} (h : agM S S2) {q : Nat} : bst S2 q = bst S q := by
  unfold bst; rw [h 42 0 q (by omega) (by omega), h 44 0 q (by omega) (by omega), h 27 0 14 (by omega) (by omega), nb_M h]
theorem thr9_M {S S2 : IT} (h : agM S S2) {q b : Nat} : thr9 S2 q b = thr9 S q b := by
  unfold thr9; rw [h 27 0 0 (by omega) (by omega), h 44 0 q (by omega) (by omega), h 47 0 q (by omega) (by omega), fr9_M h]
theorem snd1_M {S S2 : IT} (h : agM S S2) {q : Nat} : agM (snd1 S q) (snd1 S2 q) := by
  unfold snd1
  rw [bst_M h]
  split
  · exact h
  · unfold snd0
    exact (((((h.up rfl).up rfl).up (thr9_M h)).up (by rw [thr9_M h])).up (h 44 0 q (by omega) (by omega))).up rfl
theorem sndF_M : ∀ (d q : Nat) (S S2 : IT), agM S S2 → agM (sndF d q S) (sndF d q S2) := by
  intro d
  induction d with
  | zero => intro q S S2 h; exact h
  | succ d ih => intro q S S2 h; exact ih (q + 1) _ _ (snd1_M h)
theorem sends_M {S S2 : IT} (h : agM S S2) : agM (sends S) (sends S2) := by
  unfold sends
  rw [h 27 0 18 (by omega) (by omega)]
  exact sndF_M _ _ _ _ h
theorem fre1_M {S S2 : IT} (h : agM S S2) {k : Nat} : agM (fre1 S k) (fre1 S2 k) := by
  unfold fre1
  rw [h 39 0 k (by omega) (by omega), h 38 0 k (by omega) (by omega), h 27 0 0 (by omega) (by omega)]
  split
  · exact (h.up rfl).up rfl
  · exact h
theorem freF_M : ∀ (d k : Nat) (S S2 : IT), agM S S2 → agM (freF d k S) (freF d k S2) := by
  intro d
  induction d with
  | zero => intro k S S2 h; exact h
  | succ d ih => intro k S S2 h; exact ih (k + 1) _ _ (fre1_M h)
theorem rem9_M {S S2 : IT} (h : agM S S2) {p : Nat} {v : Int} : agM (rem9 S p v) (rem9 S2 p v) := by
  unfold rem9
  rw [h 55 0 p (by omega) (by omega), h 56 0 p (by omega) (by omega), h 49 0 _ (by omega) (by omega)]
  exact (h.up rfl).up rfl
theorem ret1_M {S S2 : IT} (h : agM S S2) {p : Nat} : agM (ret1 S p) (ret1 S2 p) := by
  unfold ret1
  rw [h 53 0 p (by omega) (by omega), h 27 0 0 (by omega) (by omega), h 57 0 p (by omega) (by omega)]
  split
  · exact rem9_M h
  · exact h
theorem retF_M : ∀ (d p : Nat) (S S2 : IT), agM S S2 → agM (retF d p S) (retF d p S2) := by
  intro d
  induction d with
  | zero => intro p S S2 h; exact h
  | succ d ih => intro p S S2 h; exact ih (p + 1) _ _ (ret1_M h)
theorem sz_M {S S2 : IT} (h : agM S S2) {l : Nat} : ∀ d i, sz S2 l d i = sz S l d i := by
  intro d
  induction d with
  | zero => intro i; rfl
  | succ d ih => intro i; unfold sz; rw [ih, h 49 0 _ (by omega) (by omega)]
theorem szo_M {S S2 : IT} (h : agM S S2) {l : Nat} {s : Int} : szo S2 l s = szo S l s := sz_M h _ _
theorem fl9_M {S S2 : IT} (h : agM S S2) {k : Nat} {p : Int} : fl9 S2 k p = fl9 S k p := by
  unfold fl9; rw [h 48 0 k (by omega) (by omega), h 28 0 _ (by omega) (by omega)]
theorem lb_M {S S2 : IT} (h : agM S S2) {p s : Int} : ∀ k, lb S2 p s k = lb S p s k := by
  intro k
  induction k with
  | zero => rfl
  | succ k ih => unfold lb; rw [ih, szo_M h, fl9_M h, fl9_M h]
theorem lkr_M {S S2 : IT} (h : agM S S2) {st : Int} {p : Nat} : lkr S2 st p = lkr S st p := by
  unfold lkr; rw [h 51 0 p (by omega) (by omega), h 52 0 p (by omega) (by omega), h 27 0 27 (by omega) (by omega), plc_ag h.D, lb_M h]
theorem dlvA_M {S S2 : IT} (h : agM S S2) {st : Int} {p : Nat} : agM (dlvA S st p) (dlvA S2 st p) := by
  unfold dlvA
  rw [lkr_M h, h 52 0 p (by omega) (by omega), szo_M h]
  split
  · exact h
  · unfold put9
    exact (((((h.up (by rw [h 49 0 _ (by omega) (by omega)])).up rfl).up rfl).up rfl).up (h 27 0 0 (by omega) (by omega))).up (by rw [h 54 0 p (by omega) (by omega)])
theorem ldo_ag {S S2 : IT} (h : agD S S2) {name num : Int} : ldo S2 name num = ldo S name num := by
  unfold ldo; rw [bf_ag h, ff_ag h, h.1]
theorem dlv1_M {S S2 : IT} (h : agM S S2) {p : Nat} : agM (dlv1 S p) (dlv1 S2 p) := by
  unfold dlv1
  rw [h 53 0 p (by omega) (by omega), h 50 0 p (by omega) (by omega), h 51 0 p (by omega) (by omega), ld_ag h.D]
  split
  · refine dlvA_M ?_
    unfold dlvO
    exact h.up (by rw [h 50 0 p (by omega) (by omega), h 51 0 p (by omega) (by omega), ldo_ag h.D])
  · exact h
theorem dlvF_M : ∀ (d p : Nat) (S S2 : IT), agM S S2 → agM (dlvF d p S) (dlvF d p S2) := by
  intro d
  induction d with
  | zero => intro p S S2 h; exact h
  | succ d ih => intro p S S2 h; exact ih (p + 1) _ _ (dlv1_M h)
theorem mnt_M {S S2 : IT} (h : agM S S2) : agM (mnt S) (mnt S2) := by
  unfold mnt
  refine sends_M ?_
  have h1 : agM (tick S) (tick S2) := by unfold tick; exact h.up (by rw [h 27 0 0 (by omega) (by omega)])
  have h2 : agM (fre9 (tick S)) (fre9 (tick S2)) := by
    unfold fre9
    rw [h1 27 0 14 (by omega) (by omega)]
    exact freF_M _ _ _ _ h1
  unfold day9
  rw [h2 27 0 0 (by omega) (by omega), h2 27 0 30 (by omega) (by omega)]
  split
  · exact dlvF_M _ _ _ _ (retF_M _ _ _ _ h2)
  · exact h2
theorem mntF_M : ∀ (d : Nat) (S S2 : IT), agM S S2 → agM (mntF d S) (mntF d S2) := by
  intro d
  induction d with
  | zero => intro S S2 h; exact h
  | succ d ih => intro S S2 h; exact ih _ _ (mnt_M h)
theorem jn_M {S S2 : IT} (h : agM S S2) {o p k : Nat} {m : Int} : agM (jn S o p m k) (jn S2 o p m k) := fun f i j h1 h2 => by
  show (if _ then _ else _) = (if _ then _ else _)
  have e : dS S2 = dS S := by funext a b; exact h 28 0 _ (by omega) (by omega)
  rw [e, h f i j h1 h2]
theorem un_M {S S2 : IT} (h : agM S S2) {a b : Int} {k : Nat} : agM (un S 36 a b k) (un S2 36 a b k) := fun f i j h1 h2 => by
  show (if _ then _ else _) = (if _ then _ else _)
  rw [h 36 0 j (by omega) (by omega), h f i j h1 h2]

