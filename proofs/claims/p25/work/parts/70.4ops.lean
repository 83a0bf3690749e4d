/-! The calls, as the law's loop needs them. -/
theorem tm {y p : Int} (hy : 0 ≤ y) (hp : 0 < p) : 0 ≤ Int.tmod y p ∧ Int.tmod y p < p := ⟨Int.tmod_nonneg _ hy, Int.tmod_lt_of_pos _ hp⟩
def IV (S : IT) (pl ca cl lo pa nw : Int) : Prop := LI S ∧ S 27 0 1 = pl ∧ S 27 0 14 = ca ∧ S 27 0 18 = cl ∧ S 27 0 27 = lo ∧ S 27 0 30 = pa ∧ S 27 0 0 = nw
theorem IV.no {S S2 : IT} {pl ca cl lo pa nw : Int} (h : IV S pl ca cl lo pa nw) (L : LI S2) (g : ∀ j, j = 0 ∨ j = 1 ∨ j = 14 ∨ j = 18 ∨ j = 27 ∨ j = 30 → S2 27 0 j = S 27 0 j) : IV S2 pl ca cl lo pa nw := by
  obtain ⟨_, e1, e2, e3, e4, e5, e6⟩ := h
  exact ⟨L, by rw [g 1 (by omega)]; exact e1, by rw [g 14 (by omega)]; exact e2, by rw [g 18 (by omega)]; exact e3, by rw [g 27 (by omega)]; exact e4, by rw [g 30 (by omega)]; exact e5, by rw [g 0 (by omega)]; exact e6⟩
theorem iv_place {S : IT} {pl ca cl lo pa nw : Int} (h : IV S pl ca cl lo pa nw) (g : plT S = 0) : IV (plZ S) (pl + 1) ca cl lo pa nw := by
  have L := LI_place h.1 g
  have N := VI_num h.1.1
  obtain ⟨_, e1, e2, e3, e4, e5, e6⟩ := h
  have o : ∀ j, ¬ j = 1 → ¬ j = 41 → plZ S 27 0 j = S 27 0 j := fun j q1 q2 => by unfold plZ; rw [up3_no (by omega), up3_no (by omega)]
  refine ⟨L, ?_, by rw [o _ (by omega) (by omega)]; exact e2, by rw [o _ (by omega) (by omega)]; exact e3, by rw [o _ (by omega) (by omega)]; exact e4, by rw [o _ (by omega) (by omega)]; exact e5, by rw [o _ (by omega) (by omega)]; exact e6⟩
  unfold plZ
  rw [up3_eq, wrI (by omega) (by omega)]; omega
theorem iv_join {S : IT} {pl ca cl lo pa nw : Int} (h : IV S pl ca cl lo pa nw) {o p m : Int} (g : joT S o p m = 0) : IV (joZ S o p m) pl ca cl lo pa nw := h.no (LI_join h.1 g) (fun j q => joZ_no (by omega) (by omega))
theorem iv_street {S : IT} {pl ca cl lo pa nw : Int} (h : IV S pl ca cl lo pa nw) (g : stT S = 0) : IV (stZ S) pl ca cl lo pa nw := h.no (LI_street h.1 g) (fun j q => by unfold stZ; rw [up3_no (by omega), up3_no (by omega)])
theorem st_4 {S : IT} : stZ S 27 0 4 = S 27 0 4 + 1 := by unfold stZ; exact up3_eq
theorem iv_span {S : IT} {pl ca cl lo pa nw : Int} (h : IV S pl ca cl lo pa nw) {s f t p : Int} (g : spT S s f t p = 0) : IV (spZ S s f t p) pl ca cl lo pa nw := h.no (LI_span h.1 g) (fun j q => spZ_no (by omega) (by omega))
theorem iv_name {S : IT} {pl ca cl lo pa nw : Int} (h : IV S pl ca cl lo pa nw) {s x : Int} (g : nmT S s x = 0) : IV (nmZ S s x) pl ca cl lo pa nw := h.no (LI_name h.1 g) (fun j q => nmZ_no (by omega) (by omega))
theorem iv_same {S : IT} {pl ca cl lo pa nw : Int} (h : IV S pl ca cl lo pa nw) {a b : Int} : IV (saZ S a b) pl ca cl lo pa nw := h.no (LI_same h.1) (fun j q => saZ_no (by omega) (by omega))
theorem iv_car {S : IT} {pl ca cl lo pa nw : Int} (h : IV S pl ca cl lo pa nw) {a : Int} (g : caT S a = 0) : IV (caZ S a) pl (ca + 1) cl lo pa nw := by
  have L := LI_car h.1 g
  obtain ⟨_, e1, e2, e3, e4, e5, e6⟩ := h
  have o : ∀ j, ¬ j = 14 → ¬ j = 41 → caZ S a 27 0 j = S 27 0 j := fun j q1 q2 => by unfold caZ; repeat rw [up3_no (by omega)]
  refine ⟨L, by rw [o _ (by omega) (by omega)]; exact e1, ?_, by rw [o _ (by omega) (by omega)]; exact e3, by rw [o _ (by omega) (by omega)]; exact e4, by rw [o _ (by omega) (by omega)]; exact e5, by rw [o _ (by omega) (by omega)]; exact e6⟩
  unfold caZ
  rw [up3_eq, e2]
theorem iv_locker {S : IT} {pl ca cl lo pa nw : Int} (h : IV S pl ca cl lo pa nw) {a s m b : Int} (g : loT S a s m b = 0) : IV (loZ S a s m b) pl ca cl (lo + 1) pa nw := by
  have L := LI_locker h.1 g
  obtain ⟨_, e1, e2, e3, e4, e5, e6⟩ := h
  have o : ∀ j, ¬ j = 27 → ¬ j = 41 → loZ S a s m b 27 0 j = S 27 0 j := fun j q1 q2 => by unfold loZ; repeat rw [up3_no (by omega)]
  refine ⟨L, by rw [o _ (by omega) (by omega)]; exact e1, by rw [o _ (by omega) (by omega)]; exact e2, by rw [o _ (by omega) (by omega)]; exact e3, ?_, by rw [o _ (by omega) (by omega)]; exact e5, by rw [o _ (by omega) (by omega)]; exact e6⟩
  unfold loZ
  rw [up3_eq, e4]
theorem snd_n {S : IT} {j : Nat} : sends S 27 0 j = S 27 0 j := sends_no (by omega) (by omega) (by omega) (by omega) (by omega) (by omega)
theorem iv_call {S : IT} {pl ca cl lo pa nw : Int} (h : IV S pl ca cl lo pa nw) {a b : Int} (g : clT S a b = 0) : IV (sends (clW S a b)) pl ca (cl + 1) lo pa nw := by
  have L := LI_call h.1 g
  obtain ⟨_, e1, e2, e3, e4, e5, e6⟩ := h
  have o : ∀ j, ¬ j = 18 → ¬ j = 40 → ¬ j = 41 → sends (clW S a b) 27 0 j = S 27 0 j := fun j q1 q2 q3 => snd_n.trans (clW_no (by omega) (by omega))
  refine ⟨L, by rw [o _ (by omega) (by omega) (by omega)]; exact e1, by rw [o _ (by omega) (by omega) (by omega)]; exact e2, ?_, by rw [o _ (by omega) (by omega) (by omega)]; exact e4, by rw [o _ (by omega) (by omega) (by omega)]; exact e5, by rw [o _ (by omega) (by omega) (by omega)]; exact e6⟩
  rw [snd_n, cwn, e3]
theorem iv_clear {S : IT} {pl ca cl lo pa nw : Int} (h : IV S pl ca cl lo pa nw) {a b : Int} (g : crT S a b = 0) : IV (sends (crW S a b)) pl ca cl lo pa nw := h.no (LI_clear h.1 g) (fun j q => snd_n.trans (crW_no (by omega) (by omega)))
theorem iv_post {S : IT} {pl ca cl lo pa nw : Int} (h : IV S pl ca cl lo pa nw) {a b s : Int} (g : psT S a b s = 0) : IV (psZ S a b s) pl ca cl lo (pa + 1) nw := by
  have L := LI_post h.1 g
  obtain ⟨_, e1, e2, e3, e4, e5, e6⟩ := h
  have o : ∀ j, ¬ j = 30 → ¬ j = 40 → ¬ j = 41 → psZ S a b s 27 0 j = S 27 0 j := fun j q1 q2 q3 => psZ_no (by omega) (by omega)
  refine ⟨L, by rw [o _ (by omega) (by omega) (by omega)]; exact e1, by rw [o _ (by omega) (by omega) (by omega)]; exact e2, by rw [o _ (by omega) (by omega) (by omega)]; exact e3, by rw [o _ (by omega) (by omega) (by omega)]; exact e4, ?_, by rw [o _ (by omega) (by omega) (by omega)]; exact e6⟩
  rw [psn, e5]
theorem iv_take {S : IT} {pl ca cl lo pa nw : Int} (h : IV S pl ca cl lo pa nw) {a : Int} (g : taT S a = 0) : IV (taZ S a) pl ca cl lo pa nw := h.no (LI_take h.1 g) (fun j q => taZ_no (by omega) (by omega) (by omega))
theorem iv_pass {S : IT} {pl ca cl lo pa nw : Int} (h : IV S pl ca cl lo pa nw) {m : Int} (g : paT S m = 0) : IV (paZ S m) pl ca cl lo pa (nw + m) := by
  obtain ⟨L, n⟩ := LI_pass h.1 g
  obtain ⟨_, e1, e2, e3, e4, e5, e6⟩ := h
  have o : ∀ j, ¬ j = 0 → ¬ j = 40 → ¬ j = 41 → paZ S m 27 0 j = S 27 0 j := fun j q1 q2 q3 => by
    unfold paZ
    rw [mntF_no (by omega) (by omega), up3_no (by omega)]
  refine ⟨L, by rw [o _ (by omega) (by omega) (by omega)]; exact e1, by rw [o _ (by omega) (by omega) (by omega)]; exact e2, by rw [o _ (by omega) (by omega) (by omega)]; exact e3, by rw [o _ (by omega) (by omega) (by omega)]; exact e4, by rw [o _ (by omega) (by omega) (by omega)]; exact e5, ?_⟩
  rw [n, e6]
/-- a new span leads its numbers to its place -/
theorem pl_sp {S : IT} {s f t p : Int} (h : spT S s f t p = 0) (V : VI S) : plc (spZ S s f t p) s.toNat f = p := by
  obtain ⟨⟨a1, a2, a3, a4⟩, ⟨b1, b2, b3, b4⟩, b5, b6⟩ := sp_if h
  have N := VI_num V
  have h29 := (V.2.2.1 s.toNat (by omega)).1
  unfold plc
  rw [sp29, if_pos rfl, show (S 29 0 s.toNat + 1).toNat = (S 29 0 s.toNat).toNat + 1 by omega]
  unfold pl
  rw [sp30, sp31, sp32, if_pos rfl, if_pos rfl, if_pos rfl, if_pos ⟨Int.le_refl _, b3⟩]
/-- and no other span may have one of them -/
theorem sp_sp {S : IT} {s f t p q : Int} (h : spT S s f t p = 0) (V : VI S) (hq : 0 ≤ q ∧ q < S 27 0 1) : spT (spZ S s f t p) s f f q = 3 := by
  obtain ⟨⟨a1, a2, a3, a4⟩, ⟨b1, b2, b3, b4⟩, b5, b6⟩ := sp_if h
  have N := VI_num V
  have h29 := (V.2.2.1 s.toNat (by omega)).1
  have e4 : spZ S s f t p 27 0 4 = S 27 0 4 := spZ_no (by omega) (by omega)
  have e1 : spZ S s f t p 27 0 1 = S 27 0 1 := spZ_no (by omega) (by omega)
  unfold spT
  rw [e4, e1, if_pos ⟨a1, a2, hq.1, hq.2⟩, if_pos ⟨b1, by omega, Int.le_refl _, by omega⟩]
  refine if_neg (fun g => ?_)
  have g2 := g.2
  rw [sp29, if_pos rfl, show (S 29 0 s.toNat + 1).toNat = (S 29 0 s.toNat).toNat + 1 by omega] at g2
  unfold hit at g2
  rw [sp30, sp31, if_pos rfl, if_pos rfl, if_pos ⟨b3, Int.le_refl _⟩] at g2
  omega
/-- a name is not given twice -/
theorem nm_nm {S : IT} {s x : Int} (h : nmT S s x = 0) (V : VI S) : nmT (nmZ S s x) s x = 2 := by
  obtain ⟨⟨a1, a2, a3, a4⟩, a5, a6⟩ := nm_if h
  have N := VI_num V
  have e4 : nmZ S s x 27 0 4 = S 27 0 4 := nmZ_no (by omega) (by omega)
  unfold nmT
  rw [e4, if_pos ⟨a1, a2, a3, a4⟩]
  refine if_pos (Or.inl ?_)
  rw [nm_nn (by omega)]
  have h2 := nm_bn (S := S) (by omega) (t := s.toNat) (x := x) (s := s.toNat)
  rw [if_pos rfl, show ((s.toNat : Nat) : Int) = s by omega] at h2
  exact h2
/-- names told to be the same are so -/
theorem sa_sa {S : IT} {a b : Int} (ha : 0 ≤ a ∧ a < 30) (hb : 0 ≤ b ∧ b < 30) : saV (saZ S a b) b a = 0 := by
  unfold saV
  refine if_pos ?_
  rw [sa36 (by omega), sa36 (by omega), if_pos rfl]
  split <;> rfl
-- what a sending keeps
theorem snd1_42 {S : IT} {q x : Nat} : (¬ S 42 0 x = 0 → snd1 S q 42 0 x = S 42 0 x) ∧ (S 42 0 x = 0 → snd1 S q 42 0 x = 0 ∨ snd1 S q 42 0 x = 1) := by
  by_cases g : bst S q = -1
  · have e : snd1 S q = S := if_pos g
    rw [e]; exact ⟨fun _ => rfl, fun h => Or.inl h⟩
  · have e : snd1 S q = snd0 S q (bst S q) := if_neg g
    rw [e, s42]
    have h0 : S 42 0 q = 0 := by
      unfold bst at g
      by_cases u : S 42 0 q = 0
      · exact u
      · rw [if_neg u] at g; exact absurd rfl g
    by_cases e2 : x = q
    · rw [if_pos e2]
      subst e2
      exact ⟨fun h => absurd h0 h, fun _ => Or.inr rfl⟩
    · rw [if_neg e2]; exact ⟨fun _ => rfl, fun h => Or.inl h⟩
theorem sndF_42 {x : Nat} : ∀ (d q : Nat) (S : IT), (¬ S 42 0 x = 0 → sndF d q S 42 0 x = S 42 0 x) ∧ (S 42 0 x = 0 ∨ S 42 0 x = 1 → sndF d q S 42 0 x = 0 ∨ sndF d q S 42 0 x = 1) := by
  intro d
  induction d with
  | zero => intro q S; exact ⟨fun _ => rfl, fun h => h⟩
  | succ d ih =>
    intro q S
    obtain ⟨a, b⟩ := ih (q + 1) (snd1 S q)
    obtain ⟨a1, b1⟩ := snd1_42 (S := S) (q := q) (x := x)
    have e : sndF (d + 1) q S = sndF d (q + 1) (snd1 S q) := rfl
    rw [e]
    refine ⟨fun h => ?_, fun h => ?_⟩
    · have h1 := a1 h
      rw [← h1]
      exact a (by rw [h1]; exact h)
    · rcases h with h | h
      · exact b (b1 h)
      · have h1 := a1 (by omega)
        exact b (Or.inr (by rw [h1]; exact h))
theorem snd1_45 {S : IT} {q x : Nat} (h : -1 ≤ S 45 0 x) : -1 ≤ snd1 S q 45 0 x := by
  by_cases g : bst S q = -1
  · have e : snd1 S q = S := if_pos g
    rw [e]; exact h
  · have e : snd1 S q = snd0 S q (bst S q) := if_neg g
    rw [e, s45]
    split
    · unfold bst
      split
      · exact (nb_in _).1
      · omega
    · exact h
theorem sndF_45 {x : Nat} : ∀ (d q : Nat) (S : IT), -1 ≤ S 45 0 x → -1 ≤ sndF d q S 45 0 x := by
  intro d
  induction d with
  | zero => intro q S h; exact h
  | succ d ih => intro q S h; exact ih (q + 1) (snd1 S q) (snd1_45 h)
/-- what a call tells of itself -/
theorem cl_42 {S : IT} {a b : Int} (V : VI S) : (ld S a b = -2 → sends (clW S a b) 42 0 (S 27 0 18).toNat = 3) ∧ (ld S a b = -1 → sends (clW S a b) 42 0 (S 27 0 18).toNat = 4) ∧ (¬ ld S a b = -2 → ¬ ld S a b = -1 → sends (clW S a b) 42 0 (S 27 0 18).toNat = 0 ∨ sends (clW S a b) 42 0 (S 27 0 18).toNat = 1) := by
  have e : clW S a b 42 0 (S 27 0 18).toNat = clS (ld S a b) := by rw [cw42, if_pos rfl]
  obtain ⟨u, v⟩ := sndF_42 (x := (S 27 0 18).toNat) (clW S a b 27 0 18).toNat 0 (clW S a b)
  rw [e] at u v
  unfold clS at u v
  refine ⟨fun h => ?_, fun h => ?_, fun h1 h2 => ?_⟩
  · rw [if_pos h] at u; exact u (by omega)
  · rw [if_neg (by omega), if_pos h] at u; exact u (by omega)
  · rw [if_neg h1, if_neg h2] at v; exact v (Or.inl rfl)
theorem cl_43 {S : IT} {a b : Int} : sends (clW S a b) 43 0 (S 27 0 18).toNat = clA (ld S a b) := by
  rw [sends_no (by omega) (by omega) (by omega) (by omega) (by omega) (by omega), cw43, if_pos rfl]
theorem cl_45 {S : IT} {a b c d : Int} (h : S 27 0 18 = c) : -1 ≤ crV (sends (clW S a b)) c d := by
  unfold crV
  refine sndF_45 _ _ _ ?_
  have e : crW (sends (clW S a b)) c d 45 0 c.toNat = sends (clW S a b) 45 0 c.toNat := crW_no (by omega) (by omega)
  rw [e]
  refine sndF_45 _ _ _ ?_
  rw [cw45, if_pos (by rw [h])]; omega
-- free cars
def fb (S : IT) : Nat → Int
  | 0 => 0
  | k + 1 => fb S k + (if S 39 0 k = -1 then 0 else 1)
theorem fb_in {S : IT} : ∀ k : Nat, 0 ≤ fb S k ∧ fb S k ≤ k := by
  intro k
  induction k with
  | zero => unfold fb; omega
  | succ k ih => unfold fb; split <;> omega
theorem cf_2 {S : IT} {k : Nat} : cf S 2 k = if (k : Int) < S 27 0 14 ∧ S 39 0 k = -1 then 1 else 0 := by
  have p1 : pc1 S 2 k = 0 := if_neg (fun q => by rcases q.2 with h | h | h <;> exact absurd h.1 (by decide))
  have p2 : pc2 S 2 k = 0 := if_neg (fun q => by rcases q.2 with h | h | h <;> exact absurd h.1 (by decide))
  have p3 : pc3 S 2 k = if (k : Int) < S 27 0 14 ∧ S 39 0 k = -1 then 1 else 0 := by
    unfold pc3
    by_cases h : (k : Int) < S 27 0 14 ∧ S 39 0 k = -1
    · rw [if_pos h]; exact if_pos ⟨rfl, h.1, h.2⟩
    · rw [if_neg h]; exact if_neg (fun q => h ⟨q.2.1, q.2.2⟩)
  unfold cf
  rw [p1, p2, p3]
  by_cases h : (k : Int) < S 27 0 14 ∧ S 39 0 k = -1
  · rw [if_pos h]; exact if_neg (by omega)
  · rw [if_neg h]; exact if_pos ⟨rfl, rfl, rfl⟩
theorem cnt_fb {S : IT} : ∀ k : Nat, (k : Int) ≤ S 27 0 14 → cnt (cf S 2) k = k - fb S k := by
  intro k
  induction k with
  | zero => intro _; unfold cnt fb; omega
  | succ k ih =>
    intro h
    unfold cnt fb
    rw [ih (by omega), cf_2]
    by_cases g : S 39 0 k = -1
    · rw [if_pos ⟨by omega, g⟩, if_pos g]; omega
    · rw [if_neg (fun q => g q.2), if_neg g]; omega
theorem coF_2 {S : IT} (V : VI S) : coV S 2 = S 27 0 14 - fb S (S 27 0 14).toNat := by
  have N := VI_num V
  unfold coV
  rw [if_neg (by omega), if_neg (by omega), cnt_stop (m := (S 27 0 14).toNat) (fun k hk => by rw [cf_2, if_neg (by omega)]) 40 (by omega), cnt_fb _ (by omega)]
  omega
/-- what a name and a number lead to -/
theorem ld_pl {S : IT} (V : VI S) {a b : Int} : ld S a b = -1 ∨ ld S a b = -2 ∨ (0 ≤ ld S a b ∧ ld S a b < S 27 0 4 ∧ 0 ≤ plc S (ld S a b).toNat b) := by
  have N := VI_num V
  rcases ld_in V.2.2.2 (name := a) (num := b) with h | h | ⟨h1, h2, h3⟩
  · exact Or.inl h
  · exact Or.inr (Or.inl h)
  · have := plc_in V.2.2.1 (s := (ld S a b).toNat) (by omega) b
    exact Or.inr (Or.inr ⟨h1, h2, by omega⟩)
