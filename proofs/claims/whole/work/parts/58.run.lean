def rs : Nat → Nat → Nat → Bool := fun f i j => match f with
  | 0 => Nat.beq i 0 && Nat.ble j 3
  | 1 => Nat.beq i 0 && Nat.beq j 2
  | 3 => Nat.beq i 0 && (Nat.beq j 1 || Nat.beq j 2 || Nat.beq j 3 || Nat.beq j 4 || Nat.beq j 6 || Nat.beq j 7 || Nat.beq j 8)
  | 4 => Nat.beq i 0 && Nat.ble j 11
  | 5 => Nat.ble i 1 && Nat.ble j 11
  | 10 => Nat.ble i 11 && (Nat.beq j 1 || Nat.beq j 2 || Nat.beq j 3)
  | 14 => Nat.ble i 23 && Nat.beq j 1
  | 16 => Nat.beq i 0 && (Nat.beq j 2 || Nat.beq j 3)
  | 17 => Nat.beq i 0 && Nat.ble j 5
  | 18 => Nat.beq i 0 && Nat.ble j 39
  | 21 => Nat.beq i 0 && (Nat.beq j 2 || Nat.beq j 3)
  | 22 => Nat.beq i 0 && Nat.ble j 5
  | 23 => Nat.beq i 0 && Nat.ble j 39
  | 24 => Nat.ble i 5 && Nat.beq j 1
  | 27 => Nat.beq i 0 && (Nat.beq j 3 || Nat.beq j 5 || Nat.beq j 6 || Nat.beq j 7 || Nat.beq j 8 || Nat.beq j 10 || Nat.beq j 11 || Nat.beq j 12 || Nat.beq j 13 || Nat.beq j 15 || Nat.beq j 16 || Nat.beq j 17 || Nat.beq j 19 || Nat.beq j 20 || Nat.beq j 21 || Nat.beq j 22 || Nat.beq j 23 || Nat.beq j 24 || Nat.beq j 25 || Nat.beq j 26 || Nat.beq j 28 || Nat.beq j 29 || Nat.beq j 31 || Nat.beq j 32 || Nat.beq j 33 || Nat.beq j 34 || Nat.beq j 35 || Nat.beq j 36 || Nat.beq j 37 || Nat.beq j 38 || Nat.beq j 39)
  | _ => false
/-- the references as the law begins: none where one will be set -/
def C0 : CT := fun f i j => bif rs f i j then none else C9 f i j
theorem C0_Dn {f i j : Nat} (h : rs f i j = false) : Dn C0 f i j := by
  show (bif rs f i j then none else C9 f i j) = _
  rw [h]; rfl
theorem cn_1 {d : Nat → Nat → Int} {a : Nat} (h : d a a < 1000000) : ∀ n, a < n → 1 ≤ cn d a n := by
  intro n
  induction n with
  | zero => intro g; omega
  | succ n ih =>
    intro g
    have b := cn_in (d := d) (a := a) n
    unfold cn
    by_cases e : a = n
    · subst e; rw [if_pos h]; omega
    · have := ih (by omega)
      split <;> omega
theorem FI_init {I : IT} (h0 : ∀ f i j, ¬ (f = 2 ∨ f = 6 ∨ f = 14 ∨ f = 15 ∨ f = 20 ∨ f = 26 ∨ f = 28 ∨ f = 36 ∨ f = 99) → I f i j = 0) (h2 : ∀ x, x < 144 → I 2 0 x = -1) (h6 : ∀ x : Nat, x < 30 → I 6 0 x = (x : Int)) (hD : ∀ t, t < 12 → iD I t) (h20 : ∀ q, q < 40 → iC I q) (h26 : ∀ q, q < 40 → iP I q) (h28 : ∀ x, x < 144 → I 28 0 x = farv x) (h36 : ∀ x : Nat, x < 30 → I 36 0 x = (x : Int)) : FI I (fun _ => none) := by
  have z : ∀ f i j, (f ≤ 1 ∨ (3 ≤ f ∧ f ≤ 5) ∨ (7 ≤ f ∧ f ≤ 13) ∨ (16 ≤ f ∧ f ≤ 19) ∨ (21 ≤ f ∧ f ≤ 25) ∨ f = 27 ∨ (29 ≤ f ∧ f ≤ 35) ∨ (37 ≤ f ∧ f ≤ 58)) → I f i j = 0 := fun f i j q => h0 f i j (by omega)
  have hnn : nn I = 0 := by show (I 27 0 9).toNat = 0; rw [z 27 0 9 (by omega)]; rfl
  have hd : ∀ a b : Nat, a < 12 → b < 12 → I 28 0 (12 * a + b) = if a = b then 0 else 1000000 := fun a b ha hb => by
    rw [h28 _ (by omega)]
    unfold farv
    rw [show (12 * a + b) / 12 = a by omega, show (12 * a + b) % 12 = b by omega]
  have hd2 : ∀ a b : Nat, a < 12 → b < 12 → dS I a b = if a = b then 0 else 1000000 := hd
  have vs : VS I (I 27 0 1) := fun s hs => by
    rw [z 29 0 s (by omega)]
    exact ⟨by omega, by omega, fun j hj => by omega, fun i j _ hj => by omega⟩
  have vn : VN I (I 27 0 0) := by
    unfold VN
    rw [z 27 0 9 (by omega), z 27 0 4 (by omega)]
    exact ⟨by omega, by omega, by omega, by omega, fun k hk => by omega⟩
  refine ⟨⟨?_, ⟨?_, ?_, fun a b ha hb => ?_⟩, ⟨?_, ?_, fun s hs => ?_, fun x hx => ?_, fun s hs => ?_, vs, vn, ?_, ?_⟩, ⟨?_, ?_, fun k hk => ?_, fun q hq => ?_⟩, ⟨?_, ?_, fun k hk => ?_, fun p hp => ?_⟩⟩, ⟨⟨?_, ?_, fun a b ha hb => ?_, fun a b ha hb => ?_, ?_⟩, ⟨⟨fun a ha => ?_, fun a b ha hb => ?_, fun a b ha hb => ?_, fun a b e ha hb he => ?_, fun a b ha hb q => ?_⟩, ?_, ?_, ?_, fun a b ha hb _ => hd a b ha hb⟩, vs, vn⟩⟩
  · rw [z 0 0 4 (by omega), z 27 0 0 (by omega)]
  · rw [z 1 0 0 (by omega), z 27 0 1 (by omega)]
  · rw [z 1 0 1 (by omega), z 27 0 2 (by omega)]
  · rw [h2 _ (by omega), z 27 0 1 (by omega), if_neg (by omega)]
  · rw [z 3 0 0 (by omega), z 27 0 4 (by omega)]
  · rw [z 3 0 5 (by omega), z 27 0 9 (by omega)]
  · rw [hnn, show 12 * 0 + s = s by omega]
    exact ⟨(hD s hs).1.1, fun x hx => (hD s hs).1.2 x hx⟩
  · rw [h6 x hx, h36 x hx]
  · rw [z 10 s 0 (by omega), z 29 0 s (by omega)]
    exact ⟨rfl, fun j hj => by omega⟩
  · intro k hk; rw [z 27 0 9 (by omega)] at hk; omega
  · intro s hs x hx; rw [hnn]; rfl
  · rw [z 16 0 0 (by omega), z 27 0 14 (by omega)]
  · rw [z 16 0 1 (by omega), z 27 0 18 (by omega)]
  · rw [z 19 k 2 (by omega), z 38 0 k (by omega), z 27 0 14 (by omega)]
    exact ⟨rfl, fun g => by omega, fun _ => rfl⟩
  · rw [z 27 0 18 (by omega)]
    have u := h20 q hq
    refine ⟨fun g => by omega, fun _ => ⟨?_, ?_, ?_, ?_, ?_, ?_⟩⟩
    · rw [u 2, if_neg (by omega)]
    · rw [u 3, if_pos (by omega)]
    · rw [u 4, if_pos (by omega)]
    · rw [u 5, if_pos (by omega)]
    · rw [u 6, if_pos (by omega)]
    · rw [u 7, if_neg (by omega)]
  · rw [z 21 0 0 (by omega), z 27 0 27 (by omega)]
  · rw [z 21 0 1 (by omega), z 27 0 30 (by omega)]
  · rw [z 27 0 27 (by omega)]
    exact ⟨fun g => by omega, fun _ j hj => z 25 k j (by omega)⟩
  · rw [z 27 0 30 (by omega), z 57 0 p (by omega)]
    have u := h26 p hp
    refine ⟨?_, fun g => by omega, fun _ => ⟨?_, ?_, ?_⟩⟩
    · rw [u 7, if_neg (by omega)]
    · rw [u 5, if_pos (by omega)]
    · rw [u 6, if_pos (by omega)]
    · rw [u 8, if_neg (by omega)]
  · unfold VC
    rw [z 27 0 14 (by omega), z 27 0 18 (by omega), z 27 0 1 (by omega)]
    exact ⟨by omega, by omega, by omega, by omega, by omega, by omega, fun k hk => by omega, fun q hq => by omega⟩
  · unfold VD
    have ht := tk_in (S := I) 40
    rw [z 27 0 27 (by omega), z 27 0 30 (by omega), z 27 0 1 (by omega)]
    refine ⟨by omega, by omega, by omega, by omega, by omega, by omega, fun k hk => by omega, fun k hk => ?_, fun p hp => by omega, fun p hp _ => ⟨z 53 0 p (by omega), z 58 0 p (by omega)⟩⟩
    rw [z 49 0 k (by omega)]; omega
  · rw [hd a b ha hb]; split <;> omega
  · rw [hd a b ha hb, hd b a hb ha]
    by_cases e : a = b
    · rw [if_pos e, if_pos e.symm]
    · rw [if_neg e, if_neg (fun y => e y.symm)]
  · rw [z 27 0 0 (by omega)]; omega
  · rw [hd2 a a ha ha, if_pos rfl]
  · rw [hd2 a b ha hb, hd2 b a hb ha]
    by_cases e : a = b
    · rw [if_pos e, if_pos e.symm]
    · rw [if_neg e, if_neg (fun y => e y.symm)]
  · rw [hd2 a b ha hb]; split <;> omega
  · rw [hd2 a b ha hb, hd2 a e ha he, hd2 e b he hb]
    (repeat' split) <;> omega
  · rw [hd2 a b ha hb] at q ⊢
    have := cn_1 (d := dS I) (a := a) (by rw [hd2 a a ha ha, if_pos rfl]; omega) 12 ha
    by_cases e : a = b
    · rw [if_pos e]; omega
    · rw [if_neg e] at q; omega
  · rw [z 27 0 2 (by omega)]; omega
  · rw [z 27 0 2 (by omega)]; omega
  · rw [z 27 0 0 (by omega)]; omega

theorem law_init {fs : List fr} {out : oP} {I0 : IT} (hI0 : ∀ f i j, ¬ f = 99 → I0 f i j = 0) (h : ∀ I1 c z, c ≤ 400 → z ≤ 9000 → FI I1 (fun _ => none) → (∀ i j, I1 99 i j = I0 99 i j) → Rn 159 23 [some (vr 99 0), some (vr 0 0), some (vr 27 0), some (vr 59 0), some (vi 0), none, none] [] fs I1 C9 244 c z out) : Rn 159 0 [some (vr 99 0), none, none, none, none, none, none] [] fs I0 C0 0 0 0 out := by
  refine z159_0 (zf2_0 (z_f2 (v := -1) (I0 := I0) (fun I1 a1 a2 => Rf.nn (pc2 := 21) rfl (z113_21 ?_)) 144 0 I0 (by omega) (fun _ _ _ _ => rfl) (fun x hx => by omega)))
  generalize hC1 : up3 (up3 (up3 (up3 (up3 (up3 (up3 (up3 (up3 C0 1 0 2 (some (2, 0))) 0 0 0 (some (1, 0))) 3 0 1 (some (4, 0))) 3 0 2 (some (5, 0))) 3 0 3 (some (5, 1))) 3 0 4 (some (6, 0))) 3 0 6 (some (7, 0))) 3 0 7 (some (8, 0))) 3 0 8 (some (9, 0)) = C1
  have l1 : Le C0 C1 := by
      rw [← hC1]
      (repeat (refine Le.up ?_ rfl))
      exact Le.refl
  have k1 : C1 3 0 1 = some (4, 0) ∧ C1 3 0 2 = some (5, 0) ∧ C1 3 0 3 = some (5, 1) ∧ C1 3 0 4 = some (6, 0) := by rw [← hC1]; exact ⟨rfl, rfl, rfl, rfl⟩
  have d1 : Dn C1 1 0 2 ∧ Dn C1 0 0 0 ∧ Dn C1 3 0 1 ∧ Dn C1 3 0 2 ∧ Dn C1 3 0 3 ∧ Dn C1 3 0 4 ∧ Dn C1 3 0 6 ∧ Dn C1 3 0 7 ∧ Dn C1 3 0 8 := by rw [← hC1]; exact ⟨rfl, rfl, rfl, rfl, rfl, rfl, rfl, rfl, rfl⟩
  refine z_dir 12 0 I1 C1 _ _ (by omega) k1.1 k1.2.1 k1.2.2.1 (fun I2 C2 c2 z2 b1 b2 b3 b4 b5 b6 => ?_)
  have k2 : C2 3 0 4 = some (6, 0) := b3 3 0 4 d1.2.2.2.2.2.1
  refine z_grp k2 (I0 := I2) (fun I3 e1 e2 => Rf.nn (pc2 := 23) rfl (z0_23 ?_)) 30 0 I2 (by omega) (fun _ _ _ _ => rfl) (fun x hx => by omega)
  generalize hC3 : up3 (up3 (up3 C2 0 0 1 (some (3, 0))) 16 0 2 (some (17, 0))) 16 0 3 (some (18, 0)) = C3
  have l3 : Le C2 C3 := by
      rw [← hC3]
      (repeat (refine Le.up ?_ rfl))
      exact Le.refl
  have k3 : C3 16 0 2 = some (17, 0) ∧ C3 16 0 3 = some (18, 0) := by rw [← hC3]; exact ⟨rfl, rfl⟩
  have d3 : Dn C3 0 0 1 ∧ Dn C3 16 0 2 ∧ Dn C3 16 0 3 := by rw [← hC3]; exact ⟨rfl, rfl, rfl⟩
  refine z_cars 6 0 C3 _ _ (by omega) k3.1 k3.2 (fun C4 c4 z4 f1 f2 f3 f4 f5 => ?_)
  have n20 : ∀ q j, I3 20 q j = 0 := fun q j => by rw [e1 20 q j (by omega), b5 20 q j (by omega), a1 20 q j (by omega)]; exact hI0 _ _ _ (by omega)
  refine z_cals (I0 := I3) 40 0 I3 C4 _ _ (by omega) (fun _ _ _ _ => rfl) (fun q hq => by omega) (fun q j _ => n20 q j) f4 (fun I5 C5 c5 z5 g1 g2 g3 g4 g5 g6 => Rf.nn (pc2 := 34) rfl (z0_34 ?_))
  generalize hC6 : up3 (up3 (up3 C5 0 0 2 (some (16, 0))) 21 0 2 (some (22, 0))) 21 0 3 (some (23, 0)) = C6
  have l6 : Le C5 C6 := by
      rw [← hC6]
      (repeat (refine Le.up ?_ rfl))
      exact Le.refl
  have k6 : C6 21 0 2 = some (22, 0) ∧ C6 21 0 3 = some (23, 0) := by rw [← hC6]; exact ⟨rfl, rfl⟩
  have d6 : Dn C6 0 0 2 ∧ Dn C6 21 0 2 ∧ Dn C6 21 0 3 := by rw [← hC6]; exact ⟨rfl, rfl, rfl⟩
  refine z_locs 6 0 C6 _ _ (by omega) k6.1 k6.2 (fun C7 c7 z7 m1 m2 m3 m4 m5 => ?_)
  have n26 : ∀ q j, I5 26 q j = 0 := fun q j => by rw [g3 26 q j (by omega), e1 26 q j (by omega), b5 26 q j (by omega), a1 26 q j (by omega)]; exact hI0 _ _ _ (by omega)
  refine z_pars (I0 := I5) 40 0 I5 C7 _ _ (by omega) (fun _ _ _ _ => rfl) (fun q hq => by omega) (fun q j _ => n26 q j) m4 (fun I8 C8 c8 z8 p1 p2 p3 p4 p5 p6 => Rf.nn (pc2 := 45) rfl (z0_45 ?_))
  generalize hCa : up3 (up3 (up3 (up3 (up3 (up3 (up3 (up3 (up3 (up3 (up3 (up3 (up3 (up3 (up3 (up3 (up3 (up3 (up3 (up3 (up3 (up3 (up3 (up3 (up3 (up3 (up3 (up3 (up3 (up3 (up3 (up3 C8 0 0 3 (some (21, 0))) 27 0 3 (some (28, 0))) 27 0 5 (some (29, 0))) 27 0 6 (some (30, 0))) 27 0 7 (some (31, 0))) 27 0 8 (some (32, 0))) 27 0 10 (some (33, 0))) 27 0 11 (some (34, 0))) 27 0 12 (some (35, 0))) 27 0 13 (some (36, 0))) 27 0 15 (some (37, 0))) 27 0 16 (some (38, 0))) 27 0 17 (some (39, 0))) 27 0 19 (some (40, 0))) 27 0 20 (some (41, 0))) 27 0 21 (some (42, 0))) 27 0 22 (some (43, 0))) 27 0 23 (some (44, 0))) 27 0 24 (some (45, 0))) 27 0 25 (some (46, 0))) 27 0 26 (some (47, 0))) 27 0 28 (some (48, 0))) 27 0 29 (some (49, 0))) 27 0 31 (some (50, 0))) 27 0 32 (some (51, 0))) 27 0 33 (some (52, 0))) 27 0 34 (some (53, 0))) 27 0 35 (some (54, 0))) 27 0 36 (some (55, 0))) 27 0 37 (some (56, 0))) 27 0 38 (some (57, 0))) 27 0 39 (some (58, 0)) = Ca
  have la : Le C8 Ca := by
      rw [← hCa]
      (repeat (refine Le.up ?_ rfl))
      exact Le.refl
  have ka : Ca 27 0 3 = some (28, 0) ∧ Ca 27 0 13 = some (36, 0) := by rw [← hCa]; exact ⟨rfl, rfl⟩
  have da : Dn Ca 0 0 3 ∧ Dn Ca 27 0 3 ∧ Dn Ca 27 0 5 ∧ Dn Ca 27 0 6 ∧ Dn Ca 27 0 7 ∧ Dn Ca 27 0 8 ∧ Dn Ca 27 0 10 ∧ Dn Ca 27 0 11 ∧ Dn Ca 27 0 12 ∧ Dn Ca 27 0 13 ∧ Dn Ca 27 0 15 ∧ Dn Ca 27 0 16 ∧ Dn Ca 27 0 17 ∧ Dn Ca 27 0 19 ∧ Dn Ca 27 0 20 ∧ Dn Ca 27 0 21 ∧ Dn Ca 27 0 22 ∧ Dn Ca 27 0 23 ∧ Dn Ca 27 0 24 ∧ Dn Ca 27 0 25 ∧ Dn Ca 27 0 26 ∧ Dn Ca 27 0 28 ∧ Dn Ca 27 0 29 ∧ Dn Ca 27 0 31 ∧ Dn Ca 27 0 32 ∧ Dn Ca 27 0 33 ∧ Dn Ca 27 0 34 ∧ Dn Ca 27 0 35 ∧ Dn Ca 27 0 36 ∧ Dn Ca 27 0 37 ∧ Dn Ca 27 0 38 ∧ Dn Ca 27 0 39 := by rw [← hCa]; exact ⟨rfl, rfl, rfl, rfl, rfl, rfl, rfl, rfl, rfl, rfl, rfl, rfl, rfl, rfl, rfl, rfl, rfl, rfl, rfl, rfl, rfl, rfl, rfl, rfl, rfl, rfl, rfl, rfl, rfl, rfl, rfl, rfl⟩
  refine z_far ka.1 (I0 := up3 I8 0 0 4 0) (fun I9 q1 q2 => ?_) 144 0 _ (by omega) (fun _ _ _ _ => rfl) (fun x hx => by omega)
  refine z_alk ka.2 (I0 := I9) (fun Ib s1 s2 => Rf.nn (pc2 := 15) rfl (z159_15 ?_)) 30 0 I9 (by omega) (fun _ _ _ _ => rfl) (fun x hx => by omega)
  -- the references stand
  have t8 : Le C8 Ca := la
  have t7 : Le C7 Ca := p5.trans t8
  have t6 : Le C6 Ca := m3.trans t7
  have t5 : Le C5 Ca := l6.trans t6
  have t4 : Le C4 Ca := g5.trans t5
  have t3 : Le C3 Ca := f3.trans t4
  have t2 : Le C2 Ca := l3.trans t3
  have t1 : Le C1 Ca := b3.trans t2
  have all : ∀ f i j, Dn Ca f i j := fun f i j => by
    cases hr : rs f i j with
    | false => exact (l1.trans t1) f i j (C0_Dn hr)
    | true =>
      unfold rs at hr
      split at hr <;> (try simp only [Bool.and_eq_true, Bool.or_eq_true, Nat.beq_eq, Nat.ble_eq, or_assoc] at hr)
      · obtain ⟨rfl, hj⟩ := hr
        rcases (show j = 0 ∨ j = 1 ∨ j = 2 ∨ j = 3 by omega) with rfl | rfl | rfl | rfl
        · exact t1 _ _ _ d1.2.1
        · exact t3 _ _ _ d3.1
        · exact t6 _ _ _ d6.1
        · exact da.1
      · obtain ⟨rfl, rfl⟩ := hr; exact t1 _ _ _ d1.1
      · obtain ⟨rfl, rfl | rfl | rfl | rfl | rfl | rfl | rfl⟩ := hr
        · exact t1 _ _ _ d1.2.2.1
        · exact t1 _ _ _ d1.2.2.2.1
        · exact t1 _ _ _ d1.2.2.2.2.1
        · exact t1 _ _ _ d1.2.2.2.2.2.1
        · exact t1 _ _ _ d1.2.2.2.2.2.2.1
        · exact t1 _ _ _ d1.2.2.2.2.2.2.2.1
        · exact t1 _ _ _ d1.2.2.2.2.2.2.2.2
      · obtain ⟨rfl, hj⟩ := hr; exact t2 _ _ _ (b4 j (by omega) (by omega)).1
      · obtain ⟨hi, hj⟩ := hr
        rcases (show i = 0 ∨ i = 1 by omega) with rfl | rfl
        · exact t2 _ _ _ (b4 j (by omega) (by omega)).2.1
        · exact t2 _ _ _ (b4 j (by omega) (by omega)).2.2.1
      · obtain ⟨hi, rfl | rfl | rfl⟩ := hr
        · exact t2 _ _ _ (b4 i (by omega) (by omega)).2.2.2.1
        · exact t2 _ _ _ (b4 i (by omega) (by omega)).2.2.2.2.1
        · exact t2 _ _ _ (b4 i (by omega) (by omega)).2.2.2.2.2.1
      · obtain ⟨hi, rfl⟩ := hr
        by_cases g : i < 12
        · exact t2 _ _ _ (b4 i (by omega) g).2.2.2.2.2.2.1
        · have w := (b4 (i - 12) (by omega) (by omega)).2.2.2.2.2.2.2
          rw [show 12 + (i - 12) = i by omega] at w
          exact t2 _ _ _ w
      · obtain ⟨rfl, rfl | rfl⟩ := hr
        · exact t3 _ _ _ d3.2.1
        · exact t3 _ _ _ d3.2.2
      · obtain ⟨rfl, hj⟩ := hr; exact t4 _ _ _ (f5 j (by omega) (by omega))
      · obtain ⟨rfl, hj⟩ := hr; exact t5 _ _ _ (g6 j (by omega) (by omega))
      · obtain ⟨rfl, rfl | rfl⟩ := hr
        · exact t6 _ _ _ d6.2.1
        · exact t6 _ _ _ d6.2.2
      · obtain ⟨rfl, hj⟩ := hr; exact t7 _ _ _ (m5 j (by omega) (by omega)).1
      · obtain ⟨rfl, hj⟩ := hr; exact t8 _ _ _ (p6 j (by omega) (by omega))
      · obtain ⟨hi, rfl⟩ := hr; exact t7 _ _ _ (m5 i (by omega) (by omega)).2
      · obtain ⟨rfl, rfl | rfl | rfl | rfl | rfl | rfl | rfl | rfl | rfl | rfl | rfl | rfl | rfl | rfl | rfl | rfl | rfl | rfl | rfl | rfl | rfl | rfl | rfl | rfl | rfl | rfl | rfl | rfl | rfl | rfl | rfl⟩ := hr
        · exact da.2.1
        · exact da.2.2.1
        · exact da.2.2.2.1
        · exact da.2.2.2.2.1
        · exact da.2.2.2.2.2.1
        · exact da.2.2.2.2.2.2.1
        · exact da.2.2.2.2.2.2.2.1
        · exact da.2.2.2.2.2.2.2.2.1
        · exact da.2.2.2.2.2.2.2.2.2.1
        · exact da.2.2.2.2.2.2.2.2.2.2.1
        · exact da.2.2.2.2.2.2.2.2.2.2.2.1
        · exact da.2.2.2.2.2.2.2.2.2.2.2.2.1
        · exact da.2.2.2.2.2.2.2.2.2.2.2.2.2.1
        · exact da.2.2.2.2.2.2.2.2.2.2.2.2.2.2.1
        · exact da.2.2.2.2.2.2.2.2.2.2.2.2.2.2.2.1
        · exact da.2.2.2.2.2.2.2.2.2.2.2.2.2.2.2.2.1
        · exact da.2.2.2.2.2.2.2.2.2.2.2.2.2.2.2.2.2.1
        · exact da.2.2.2.2.2.2.2.2.2.2.2.2.2.2.2.2.2.2.1
        · exact da.2.2.2.2.2.2.2.2.2.2.2.2.2.2.2.2.2.2.2.1
        · exact da.2.2.2.2.2.2.2.2.2.2.2.2.2.2.2.2.2.2.2.2.1
        · exact da.2.2.2.2.2.2.2.2.2.2.2.2.2.2.2.2.2.2.2.2.2.1
        · exact da.2.2.2.2.2.2.2.2.2.2.2.2.2.2.2.2.2.2.2.2.2.2.1
        · exact da.2.2.2.2.2.2.2.2.2.2.2.2.2.2.2.2.2.2.2.2.2.2.2.1
        · exact da.2.2.2.2.2.2.2.2.2.2.2.2.2.2.2.2.2.2.2.2.2.2.2.2.1
        · exact da.2.2.2.2.2.2.2.2.2.2.2.2.2.2.2.2.2.2.2.2.2.2.2.2.2.1
        · exact da.2.2.2.2.2.2.2.2.2.2.2.2.2.2.2.2.2.2.2.2.2.2.2.2.2.2.1
        · exact da.2.2.2.2.2.2.2.2.2.2.2.2.2.2.2.2.2.2.2.2.2.2.2.2.2.2.2.1
        · exact da.2.2.2.2.2.2.2.2.2.2.2.2.2.2.2.2.2.2.2.2.2.2.2.2.2.2.2.2.1
        · exact da.2.2.2.2.2.2.2.2.2.2.2.2.2.2.2.2.2.2.2.2.2.2.2.2.2.2.2.2.2.1
        · exact da.2.2.2.2.2.2.2.2.2.2.2.2.2.2.2.2.2.2.2.2.2.2.2.2.2.2.2.2.2.2.1
        · exact da.2.2.2.2.2.2.2.2.2.2.2.2.2.2.2.2.2.2.2.2.2.2.2.2.2.2.2.2.2.2.2
      · cases hr
  rw [show Ca = C9 from by funext f i j; exact all f i j]
  have u : ∀ f i j, ¬ (f = 2 ∨ f = 6 ∨ f = 14 ∨ f = 15 ∨ f = 20 ∨ f = 26 ∨ f = 28 ∨ f = 36) → ¬ (f = 0 ∧ i = 0 ∧ j = 4) → Ib f i j = I0 f i j := fun f i j y1 y2 => by
    rw [s1 f i j (by omega), q1 f i j (by omega), up3_no y2, p3 f i j (by omega), g3 f i j (by omega), e1 f i j (by omega), b5 f i j (by omega), a1 f i j (by omega)]
  refine h Ib _ _ ?_ ?_ (FI_init (fun f i j y => ?_) (fun x hx => ?_) (fun x hx => ?_) (fun t ht => ?_) (fun q hq => ?_) (fun q hq => ?_) (fun x hx => ?_) s2) (fun i j => u 99 i j (by omega) (by omega))
  · omega
  · have w1 : Int.toNat 1 = 1 := rfl
    have w3 : Int.toNat 3 = 3 := rfl
    have w4 : Int.toNat 4 = 4 := rfl
    have w6 : Int.toNat 6 = 6 := rfl
    have w12 : Int.toNat 12 = 12 := rfl
    have w18 : Int.toNat 18 = 18 := rfl
    have w30 : Int.toNat 30 = 30 := rfl
    have w40 : Int.toNat 40 = 40 := rfl
    have w48 : Int.toNat 48 = 48 := rfl
    have w100 : Int.toNat 100 = 100 := rfl
    have w144 : Int.toNat 144 = 144 := rfl
    omega
  · by_cases e : f = 0 ∧ i = 0 ∧ j = 4
    · obtain ⟨rfl, rfl, rfl⟩ := e
      rw [s1 0 0 4 (by omega), q1 0 0 4 (by omega), up3_eq]
    · rw [u f i j (by omega) e]; exact hI0 f i j (by omega)
  · rw [s1 2 0 x (by omega), q1 2 0 x (by omega), up3_no (by omega), p3 2 0 x (by omega), g3 2 0 x (by omega), e1 2 0 x (by omega), b5 2 0 x (by omega)]; exact a2 x hx
  · rw [s1 6 0 x (by omega), q1 6 0 x (by omega), up3_no (by omega), p3 6 0 x (by omega), g3 6 0 x (by omega)]; exact e2 x hx
  · have w : ∀ f a b, f = 14 ∨ f = 15 → Ib f a b = I2 f a b := fun f a b y => by rw [s1 f a b (by omega), q1 f a b (by omega), up3_no (by omega), p3 f a b (by omega), g3 f a b (by omega), e1 f a b (by omega)]
    obtain ⟨⟨v1, v2⟩, v3, v4⟩ := b6 t (by omega) ht
    exact ⟨⟨by rw [w _ _ _ (by omega)]; exact v1, fun x hx => by rw [w _ _ _ (by omega)]; exact v2 x hx⟩, by rw [w _ _ _ (by omega)]; exact v3, fun x hx => by rw [w _ _ _ (by omega)]; exact v4 x hx⟩
  · intro j
    rw [s1 20 q j (by omega), q1 20 q j (by omega), up3_no (by omega), p3 20 q j (by omega)]; exact g4 q hq j
  · intro j
    rw [s1 26 q j (by omega), q1 26 q j (by omega), up3_no (by omega)]; exact p4 q hq j
  · rw [s1 28 0 x (by omega)]; exact q2 x hx
/-- the law's run: it ends, and answers 1 -/
theorem law_run {I0 : IT} (hI0 : ∀ f i j, ¬ f = 99 → I0 f i j = 0) (hL : 0 ≤ I0 99 1 0 ∧ I0 99 1 0 ≤ 2560) : ∃ k I1 C1 c1 z1, c1 ≤ 912 ∧ z1 ≤ 12072 ∧ run k 159 0 [some (vr 99 0), none, none, none, none, none, none] [] [] I0 C0 0 0 0 = some (Sum.inl (some (vi 1)), I1, C1, 244, c1, z1) := by
  have r : Rn 159 0 [some (vr 99 0), none, none, none, none, none, none] [] [] I0 C0 0 0 0 (fun u => ∃ I1 C1 c1 z1, c1 ≤ 912 ∧ z1 ≤ 12072 ∧ u = (Sum.inl (some (vi 1)), I1, C1, 244, c1, z1)) := by
    refine law_init hI0 (fun I1 c z hc hz F h99 => ?_)
    exact law_l (L := I0 99 1 0) (c0 := 400) (z0 := 9000) hL (fun I C c z h1 h2 => ⟨I, C, c, z, by omega, by omega, rfl⟩) 512 0 I1 (fun _ => none) c z none none (by omega) F (h99 1 0) (by omega) (by omega)
  obtain ⟨k0, x, ⟨I1, C1, c1, z1, h1, h2, rfl⟩, hr⟩ := r
  exact ⟨k0, I1, C1, c1, z1, h1, h2, hr k0 (Nat.le_refl _)⟩

