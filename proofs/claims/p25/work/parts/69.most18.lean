def Lmo_79_19 : List (Nat × List Int) := [(27, [3000, 12, 24, 0, 12, 0, 0, 0, 0, 100, 0, 0, 0, 0, 6, 0, 0, 0, 40, 0, 0, 0, 0, 0, 0, 0, 0, 6, 0, 0, 40, 0, 0, 0, 0, 0, 0, 0, 0, 0, 0, 0]), (28, [0, 38, 75, 122, 168, 213, 257, 300, 342, 383, 423, 462, 38, 0, 37, 84, 130, 175, 219, 262, 304, 345, 385, 424, 75, 37, 0, 47, 93, 138, 182, 225, 267, 308, 348, 387, 122, 84, 47, 0, 46, 91, 135, 178, 220, 261, 301, 340, 168, 130, 93, 46, 0, 45, 89, 132, 174, 215, 255, 294, 213, 175, 138, 91, 45, 0, 44, 87, 129, 170, 210, 249, 257, 219, 182, 135, 89, 44, 0, 43, 85, 126, 166, 205, 300, 262, 225, 178, 132, 87, 43, 0, 42, 83, 123, 162, 342, 304, 267, 220, 174, 129, 85, 42, 0, 41, 81, 120, 383, 345, 308, 261, 215, 170, 126, 83, 41, 0, 40, 79, 423, 385, 348, 301, 255, 210, 166, 123, 81, 40, 0, 39, 462, 424, 387, 340, 294, 249, 205, 162, 120, 79, 39, 0]), (29, [0, 0, 0, 0, 0, 0, 0, 0, 0, 0, 0, 4]), (30, [0, 0, 0, 0, 0, 0, 0, 0, 0, 0, 0, 0, 0, 0, 0, 0, 0, 0, 0, 0, 0, 0, 0, 0, 0, 0, 0, 0, 0, 0, 0, 0, 0, 0, 0, 0, 0, 0, 0, 0, 0, 0, 0, 0, 1, 250, 499, 748]), (31, [0, 0, 0, 0, 0, 0, 0, 0, 0, 0, 0, 0, 0, 0, 0, 0, 0, 0, 0, 0, 0, 0, 0, 0, 0, 0, 0, 0, 0, 0, 0, 0, 0, 0, 0, 0, 0, 0, 0, 0, 0, 0, 0, 0, 249, 498, 747, 996]), (32, [0, 0, 0, 0, 0, 0, 0, 0, 0, 0, 0, 0, 0, 0, 0, 0, 0, 0, 0, 0, 0, 0, 0, 0, 0, 0, 0, 0, 0, 0, 0, 0, 0, 0, 0, 0, 0, 0, 0, 0, 0, 0, 0, 0, 11, 11, 11, 11]), (33, [11, 11, 11, 11, 11, 11, 11, 11, 11, 11, 11, 11, 11, 11, 11, 11, 11, 11, 11, 11, 11, 11, 11, 11, 11, 11, 11, 11, 11, 11, 11, 11, 11, 11, 11, 11, 11, 11, 11, 11, 11, 11, 11, 11, 11, 11, 11, 11, 11, 11, 11, 11, 11, 11, 11, 11, 11, 11, 11, 11, 11, 11, 11, 11, 11, 11, 11, 11, 11, 11, 11, 11, 11, 11, 11, 11, 11, 11, 11, 11, 11, 11, 11, 11, 11, 11, 11, 11, 11, 11, 11, 11, 11, 11, 11, 11, 11, 11, 11, 11]), (34, [0, 1, 0, 1, 0, 1, 0, 1, 0, 1, 0, 1, 0, 1, 0, 1, 0, 1, 0, 1, 0, 1, 0, 1, 0, 1, 0, 1, 0, 1, 0, 1, 0, 1, 0, 1, 0, 1, 0, 1, 0, 1, 0, 1, 0, 1, 0, 1, 0, 1, 0, 1, 0, 1, 0, 1, 0, 1, 0, 1, 0, 1, 0, 1, 0, 1, 0, 1, 0, 1, 0, 1, 0, 1, 0, 1, 0, 1, 0, 1, 0, 1, 0, 1, 0, 1, 0, 1, 0, 1, 0, 1, 0, 1, 0, 1, 0, 1, 0, 1]), (35, [0, 0, 0, 0, 0, 0, 0, 0, 0, 0, 0, 0, 0, 0, 0, 0, 0, 0, 0, 0, 0, 0, 0, 0, 0, 0, 0, 0, 0, 0, 0, 0, 0, 0, 0, 0, 0, 0, 0, 0, 0, 0, 0, 0, 0, 0, 0, 0, 0, 0, 0, 0, 0, 0, 0, 0, 0, 0, 0, 0, 0, 0, 0, 0, 0, 0, 0, 0, 0, 0, 0, 0, 0, 0, 0, 0, 0, 0, 0, 0, 0, 0, 0, 0, 0, 0, 0, 0, 0, 0, 0, 0, 0, 0, 0, 0, 0, 0, 0, (-1)]), (36, [0, 1, 2, 3, 4, 5, 6, 7, 8, 9, 10, 11, 12, 13, 14, 15, 16, 17, 18, 19, 20, 21, 22, 23, 24, 25, 26, 27, 28, 29]), (37, [11, 11, 11, 11, 11, 11]), (38, [535, 536, 526, 535, 535, 525]), (39, [(-1), (-1), (-1), (-1), (-1), (-1)]), (40, [0, 1, 0, 1, 0, 1, 0, 1, 0, 1, 0, 1, 0, 1, 0, 1, 0, 1, 0, 1, 0, 1, 0, 1, 0, 1, 0, 1, 0, 1, 0, 1, 0, 1, 0, 1, 0, 1, 0, 1]), (41, [1, 2, 3, 4, 5, 6, 7, 8, 9, 10, 11, 12, 13, 14, 15, 16, 17, 18, 19, 20, 21, 22, 23, 24, 25, 26, 27, 28, 29, 30, 31, 32, 33, 34, 35, 36, 37, 38, 39, 40]), (42, [2, 2, 2, 2, 2, 2, 2, 2, 2, 2, 2, 2, 2, 2, 2, 2, 2, 2, 2, 2, 2, 2, 2, 2, 2, 2, 2, 2, 2, 2, 2, 2, 2, 2, 2, 2, 2, 2, 2, 2]), (43, [11, 11, 11, 11, 11, 11, 11, 11, 11, 11, 11, 11, 11, 11, 11, 11, 11, 11, 11, 11, 11, 11, 11, 11, 11, 11, 11, 11, 11, 11, 11, 11, 11, 11, 11, 11, 11, 11, 11, 11]), (44, [11, 11, 11, 11, 11, 11, 11, 11, 11, 11, 11, 11, 11, 11, 11, 11, 11, 11, 11, 11, 11, 11, 11, 11, 11, 11, 11, 11, 11, 11, 11, 11, 11, 11, 11, 11, 11, 11, 11, 11]), (45, [0, 1, 2, 3, 4, 5, 1, 3, 5, 0, 2, 4, 3, 0, 1, 4, 5, 2, 0, 3, 4, 1, 2, 5, 3, 0, 1, 4, 5, 2, 0, 3, 4, 1, 2, 5, 3, 0, 1, 4]), (46, [463, 462, 463, 462, 463, 462, 473, 472, 473, 473, 474, 473, 483, 483, 484, 483, 484, 484, 494, 493, 494, 494, 495, 494, 504, 504, 505, 504, 505, 505, 515, 514, 515, 515, 516, 515, 525, 525, 526, 525]), (47, [1, 0, 1, 0, 1, 0, 1, 0, 1, 0, 1, 0, 1, 0, 1, 0, 1, 0, 1, 0, 1, 0, 1, 0, 1, 0, 1, 0, 1, 0, 1, 0, 1, 0, 1, 0, 1, 0, 1, 0]), (48, [11, 11, 11, 11, 11, 11]), (49, [0, 0, 0, 0, 0, 0, 0, 0, 0, 0, 0, 0, 0, 0, 5, 0, 0, 9]), (50, [1, 1, 1, 1, 1, 1, 1, 1, 1, 1, 1, 1, 1, 1, 1, 1, 1, 1, 1, 1, 1, 1, 1, 1, 1, 1, 1, 1, 1, 1, 1, 1, 1, 1, 1, 1, 1, 1, 1, 1]), (51, [1, 1, 1, 1, 1, 1, 1, 1, 1, 1, 1, 1, 1, 1, 1, 1, 1, 1, 1, 1, 1, 1, 1, 1, 1, 1, 1, 1, 1, 1, 1, 1, 1, 1, 1, 1, 1, 1, 1, 1]), (52, [2, 2, 2, 2, 2, 2, 2, 2, 2, 2, 2, 2, 2, 2, 2, 2, 2, 2, 2, 2, 2, 2, 2, 2, 2, 2, 2, 2, 2, 2, 2, 2, 2, 2, 2, 2, 2, 2, 2, 2]), (53, [1, 1, 1, 1, 1, 1, 1, 1, 1, 1, 1, 1, 1, 1, 1, 1, 1, 1, 1, 1, 1, 1, 1, 1, 1, 1, 1, 1, 1, 1, 1, 1, 1, 1, 1, 1, 1, 1, 1, 1]), (54, [11, 11, 11, 11, 11, 11, 11, 11, 11, 11, 11, 11, 11, 11, 11, 11, 11, 11, 11, 11, 11, 11, 11, 11, 11, 11, 11, 11, 11, 11, 11, 11, 11, 11, 11, 11, 11, 11, 11, 11]), (55, [0, 0, 0, 0, 0, 0, 0, 0, 0, 1, 1, 1, 1, 1, 1, 1, 1, 1, 2, 2, 2, 2, 2, 2, 2, 2, 2, 3, 3, 3, 3, 3, 3, 3, 3, 3, 4, 4, 4, 4]), (56, [2, 2, 2, 2, 2, 2, 2, 2, 2, 2, 2, 2, 2, 2, 2, 2, 2, 2, 2, 2, 2, 2, 2, 2, 2, 2, 2, 2, 2, 2, 2, 2, 2, 2, 2, 2, 2, 2, 2, 2]), (57, [1440, 1440, 1440, 1440, 1440, 1440, 1440, 1440, 1440, 1440, 1440, 1440, 1440, 1440, 1440, 1440, 1440, 1440, 1440, 1440, 1440, 1440, 1440, 1440, 1440, 1440, 1440, 1440, 1440, 1440, 1440, 1440, 1440, 1440, 1440, 1440, 1440, 1440, 1440, 1440]), (58, [0, 0, 0, 0, 0, 0, 0, 0, 0, 0, 0, 0, 0, 0, 0, 0, 0, 0, 0, 0, 0, 0, 0, 0, 0, 0, 0, 0, 0, 0, 0, 0, 0, 0, 0, 0, 0, 0, 0, 0])]
def Smo_79_19 : IT := pat (fpass 400 1560 Smo_79_18) Lmo_79_19
theorem pmo_79_19 : chk (fpass 400 1560 Smo_79_18) Lmo_79_19 = true := by decide +kernel
theorem pass_Z {S S2 : IT} {mm : Int} {n : Nat} (hn : mm.toNat = n) (g : mntF n (up3 S 27 0 41 0) = S2) : sZ 21 S [mm] = S2 := by
  subst hn
  exact g
theorem fa {S0 S : IT} {n d m : Nat} {L : List (Nat × List Int)} (q : mntF n S0 = S) (h : chk (fpass 400 d S) L = true) (h0 : 0 ≤ S 27 0 0) (h1 : S 27 0 0 + (d : Int) ≤ 100000) (hn : n + d = m) : mntF m S0 = pat (fpass 400 d S) L := by
  subst hn
  rw [mntF_a, q, ← fpass_ok 400 d S h0 h1]
  exact (pat_eq h).symm
theorem dlvF_a : ∀ (a b k : Nat) (S : IT), dlvF (a + b) k S = dlvF b (k + a) (dlvF a k S) := by
  intro a
  induction a with
  | zero => intro b k S; rw [Nat.zero_add]; rfl
  | succ a ih =>
    intro b k S
    rw [Nat.succ_add]
    show dlvF (a + b) (k + 1) (dlv1 S k) = _
    rw [ih, show k + (a + 1) = k + 1 + a by omega]
    rfl
theorem retF_a : ∀ (a b k : Nat) (S : IT), retF (a + b) k S = retF b (k + a) (retF a k S) := by
  intro a
  induction a with
  | zero => intro b k S; rw [Nat.zero_add]; rfl
  | succ a ih =>
    intro b k S
    rw [Nat.succ_add]
    show retF (a + b) (k + 1) (ret1 S k) = _
    rw [ih, show k + (a + 1) = k + 1 + a by omega]
    rfl
theorem dlv_q {R D : IT} {a d m : Nat} {L : List (Nat × List Int)} (q : dlvF a 0 R = D) (h : chk (dlvF d a D) L = true) (hm : a + d = m) : dlvF m 0 R = pat (dlvF d a D) L := by
  subst hm
  rw [dlvF_a, q, Nat.zero_add]
  exact (pat_eq h).symm
theorem ret_q {R D : IT} {a d m : Nat} {L : List (Nat × List Int)} (q : retF a 0 R = D) (h : chk (retF d a D) L = true) (hm : a + d = m) : retF m 0 R = pat (retF d a D) L := by
  subst hm
  rw [retF_a, q, Nat.zero_add]
  exact (pat_eq h).symm
theorem day_q {S0 S U R D E : IT} {n m k : Nat} (q : mntF k S0 = S) (hU : fre9 (tick S) = U) (ht : Int.tmod (U 27 0 0) 1440 = 0) (hn : (U 27 0 30).toNat = n) (hR : retF n 0 U = R) (hD : dlvF n 0 R = D) (hE : sends D = E) (hm : k + 1 = m) : mntF m S0 = E := by
  subst hm
  rw [mntF_s, q]
  have e : day9 U = D := by
    unfold day9
    rw [if_pos ht, hn, hR, hD]
  unfold mnt
  rw [hU, e, hE]
def qt (S : IT) : Bool := (List.range (S 27 0 18).toNat).all (fun q => decide (bst S q = -1)) && (List.range (S 27 0 14).toNat).all (fun k => decide (S 39 0 k = -1)) && (List.range (S 27 0 30).toNat).all (fun p => decide (¬ S 53 0 p = 0 ∧ ¬ S 53 0 p = 1))
theorem retF_id {S : IT} : ∀ d k, (∀ p, k ≤ p → p < k + d → ¬ S 53 0 p = 1) → retF d k S = S := by
  intro d
  induction d with
  | zero => intro k _; rfl
  | succ d ih =>
    intro k h
    have e : ret1 S k = S := if_neg (fun q => h k (by omega) (by omega) q.1)
    show retF d (k + 1) (ret1 S k) = S
    rw [e]
    exact ih (k + 1) (fun p h1 h2 => h p (by omega) (by omega))
theorem dlvF_id {S : IT} : ∀ d k, (∀ p, k ≤ p → p < k + d → ¬ S 53 0 p = 0) → dlvF d k S = S := by
  intro d
  induction d with
  | zero => intro k _; rfl
  | succ d ih =>
    intro k h
    have e : dlv1 S k = S := if_neg (h k (by omega) (by omega))
    show dlvF d (k + 1) (dlv1 S k) = S
    rw [e]
    exact ih (k + 1) (fun p h1 h2 => h p (by omega) (by omega))
theorem mnt_j {S : IT} (h0 : 0 ≤ S 27 0 0) (h1 : S 27 0 0 < 100000) (hs : Stl S) (hc : ∀ j : Nat, (j : Int) < S 27 0 14 → S 39 0 j = -1) (hp : ∀ p : Nat, (p : Int) < S 27 0 30 → ¬ S 53 0 p = 0 ∧ ¬ S 53 0 p = 1) : mnt S = jump S 1 := by
  have e1 : tick S = jump S 1 := by
    unfold tick jump
    rw [wr_id (x := S 27 0 0 + 1) ⟨by omega, by omega⟩]; rfl
  have e2 : fre9 (jump S 1) = jump S 1 := by
    refine freF_st _ _ (fun j _ hj => ?_)
    rw [jump_o (by omega)] at hj
    rw [jump_o (by omega)]
    intro ⟨q1, q2⟩
    exact q1 (hc j (by omega))
  have e3 : day9 (jump S 1) = jump S 1 := by
    unfold day9
    split
    · rw [retF_id _ _ (fun p _ h => by rw [jump_o (by omega)] at h ⊢; exact (hp p (by omega)).2), dlvF_id _ _ (fun p _ h => by rw [jump_o (by omega)] at h ⊢; exact (hp p (by omega)).1)]
    · rfl
  have e4 : Stl (jump S 1) := Stl_ag hs (fun f i j hf => jump_o (by omega)) (jump_o (by omega)) (jump_o (by omega))
  unfold mnt
  rw [e1, e2, e3, stl_sends e4]
theorem mntF_j {S : IT} (h0 : 0 ≤ S 27 0 0) (hq : qt S = true) : ∀ d : Nat, S 27 0 0 + d ≤ 100000 → mntF d S = jump S d := by
  obtain ⟨h, a3⟩ := and2 hq
  obtain ⟨a1, a2⟩ := and2 h
  have hs : Stl S := fun q hq => of_decide_eq_true (List.all_eq_true.mp a1 q (List.mem_range.mpr (by omega)))
  have hc : ∀ j : Nat, (j : Int) < S 27 0 14 → S 39 0 j = -1 := fun q hq => of_decide_eq_true (List.all_eq_true.mp a2 q (List.mem_range.mpr (by omega)))
  have hp : ∀ p : Nat, (p : Int) < S 27 0 30 → ¬ S 53 0 p = 0 ∧ ¬ S 53 0 p = 1 := fun q hq => of_decide_eq_true (List.all_eq_true.mp a3 q (List.mem_range.mpr (by omega)))
  intro d
  induction d with
  | zero => intro _; exact jump_0.symm
  | succ d ih =>
    intro h1
    rw [mntF_s, ih (by omega), ← jump_s]
    refine mnt_j (by rw [jump_n]; omega) (by rw [jump_n]; omega) (Stl_ag hs (fun f i j hf => jump_o (by omega)) (jump_o (by omega)) (jump_o (by omega))) (fun j hj => ?_) (fun j hj => ?_)
    · rw [jump_o (by omega)] at hj ⊢
      exact hc j hj
    · rw [jump_o (by omega)] at hj ⊢
      exact hp j hj
theorem fj {S0 S : IT} {n d m : Nat} {L : List (Nat × List Int)} (q : mntF n S0 = S) (hq : qt S = true) (h : chk (jump S d) L = true) (h0 : 0 ≤ S 27 0 0) (h1 : S 27 0 0 + (d : Int) ≤ 100000) (hn : n + d = m) : mntF m S0 = pat (jump S d) L := by
  subst hn
  rw [mntF_a, q, mntF_j h0 hq d h1]
  exact (pat_eq h).symm
theorem qmo_79_0 : mntF 472 Smo_79z = Smo_79_0 := fa (S := Smo_79z) (d := 472) (L := Lmo_79_0) (n := 0) rfl pmo_79_0 (by decide +kernel) (by decide +kernel) rfl
theorem qmo_79_1 : mntF 473 Smo_79z = Smo_79_1 := fa (S := Smo_79_0) (d := 1) (L := Lmo_79_1) qmo_79_0 pmo_79_1 (by decide +kernel) (by decide +kernel) rfl
theorem qmo_79_2 : mntF 482 Smo_79z = Smo_79_2 := fa (S := Smo_79_1) (d := 9) (L := Lmo_79_2) qmo_79_1 pmo_79_2 (by decide +kernel) (by decide +kernel) rfl
theorem qmo_79_3 : mntF 483 Smo_79z = Smo_79_3 := fa (S := Smo_79_2) (d := 1) (L := Lmo_79_3) qmo_79_2 pmo_79_3 (by decide +kernel) (by decide +kernel) rfl
theorem qmo_79_4 : mntF 484 Smo_79z = Smo_79_4 := fa (S := Smo_79_3) (d := 1) (L := Lmo_79_4) qmo_79_3 pmo_79_4 (by decide +kernel) (by decide +kernel) rfl
theorem qmo_79_5 : mntF 493 Smo_79z = Smo_79_5 := fa (S := Smo_79_4) (d := 9) (L := Lmo_79_5) qmo_79_4 pmo_79_5 (by decide +kernel) (by decide +kernel) rfl
theorem qmo_79_6 : mntF 494 Smo_79z = Smo_79_6 := fa (S := Smo_79_5) (d := 1) (L := Lmo_79_6) qmo_79_5 pmo_79_6 (by decide +kernel) (by decide +kernel) rfl
theorem qmo_79_7 : mntF 503 Smo_79z = Smo_79_7 := fa (S := Smo_79_6) (d := 9) (L := Lmo_79_7) qmo_79_6 pmo_79_7 (by decide +kernel) (by decide +kernel) rfl
theorem qmo_79_8 : mntF 504 Smo_79z = Smo_79_8 := fa (S := Smo_79_7) (d := 1) (L := Lmo_79_8) qmo_79_7 pmo_79_8 (by decide +kernel) (by decide +kernel) rfl
theorem qmo_79_9 : mntF 505 Smo_79z = Smo_79_9 := fa (S := Smo_79_8) (d := 1) (L := Lmo_79_9) qmo_79_8 pmo_79_9 (by decide +kernel) (by decide +kernel) rfl
theorem qmo_79_10 : mntF 514 Smo_79z = Smo_79_10 := fa (S := Smo_79_9) (d := 9) (L := Lmo_79_10) qmo_79_9 pmo_79_10 (by decide +kernel) (by decide +kernel) rfl
theorem qmo_79_11 : mntF 515 Smo_79z = Smo_79_11 := fa (S := Smo_79_10) (d := 1) (L := Lmo_79_11) qmo_79_10 pmo_79_11 (by decide +kernel) (by decide +kernel) rfl
