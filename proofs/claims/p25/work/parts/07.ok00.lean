def okR (m : Nat) (w : Nat → List Nat) (lo n : Nat) : Bool := match MTf m with
  | none => false
  | some q => (List.range n).all (fun k => match trs m (lo + k) with | none => true | some e => okE m q (lo + k) e (w (lo + k)))
theorem okR_add {m : Nat} {w : Nat → List Nat} {lo n n2 lo2 n3 : Nat} (h : okR m w lo n = true) (h2 : okR m w lo2 n2 = true) (e1 : lo2 = lo + n) (e2 : n3 = n + n2) : okR m w lo n3 = true := by
  subst e1; subst e2
  unfold okR at *
  cases g : MTf m with
  | none => rw [g] at h; cases h
  | some q =>
    rw [g] at h h2
    dsimp only at *
    refine List.all_eq_true.mpr (fun k hk => ?_)
    have hk := List.mem_range.mp hk
    by_cases hn : k < n
    · exact List.all_eq_true.mp h k (List.mem_range.mpr hn)
    · have h3 := List.all_eq_true.mp h2 (k - n) (List.mem_range.mpr (by omega))
      rw [show lo + n + (k - n) = lo + k by omega] at h3
      exact h3
theorem ok_0 : okR 0 wp_0 0 54 = true := by decide +kernel
theorem ok_1 : okR 1 wp_1 0 30 = true := by decide +kernel
theorem ok_2 : okR 2 wp_2 0 79 = true := by decide +kernel
theorem ok_3 : okR 3 wp_3 0 30 = true := by decide +kernel
theorem ok_4 : okR 4 wp_4 0 70 = true := by decide +kernel
theorem ok_5 : okR 5 wp_5 0 77 = true := by decide +kernel
theorem ok_6 : okR 6 wp_6 0 18 = true := by decide +kernel
theorem ok_7 : okR 7 wp_7 0 18 = true := by decide +kernel
theorem ok_8 : okR 8 wp_8 0 18 = true := by decide +kernel
theorem ok_9 : okR 9 wp_9 0 19 = true := by decide +kernel
theorem ok_10 : okR 10 wp_10 0 20 = true := by decide +kernel
theorem ok_11 : okR 11 wp_11 0 36 = true := by decide +kernel
theorem ok_12 : okR 12 wp_12 0 61 = true := by decide +kernel
theorem ok_13 : okR 13 wp_13 0 73 = true := by decide +kernel
theorem ok_14 : okR 14 wp_14 0 20 = true := by decide +kernel
theorem ok_15 : okR 15 wp_15 0 43 = true := by decide +kernel
theorem ok_16 : okR 16 wp_16 0 53 = true := by decide +kernel
theorem ok_17 : okR 17 wp_17 0 68 = true := by decide +kernel
theorem ok_18 : okR 18 wp_18 0 39 = true := by decide +kernel
theorem ok_19 : okR 19 wp_19 0 20 = true := by decide +kernel
theorem ok_20 : okR 20 wp_20 0 52 = true := by decide +kernel
theorem ok_21 : okR 21 wp_21 0 147 = true := by decide +kernel
theorem ok_22 : okR 22 wp_22 0 130 = true := by decide +kernel
