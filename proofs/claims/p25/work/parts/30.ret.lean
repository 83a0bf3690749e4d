def rem9 (S : IT) (p : Nat) (v : Int) : IT := up3 (up3 S 53 0 p v) 49 0 (3 * (S 55 0 p).toNat + (S 56 0 p).toNat) (wr (S 49 0 (3 * (S 55 0 p).toNat + (S 56 0 p).toNat) + 1))
def ret1 (S : IT) (p : Nat) : IT := if S 53 0 p = 1 ∧ ¬ wr (S 27 0 0 - S 57 0 p) < 4320 then rem9 S p 3 else S
def retF : Nat → Nat → IT → IT
  | 0, _, S => S
  | d + 1, p, S => retF d (p + 1) (ret1 S p)
theorem rem9_no {S : IT} {p f i j : Nat} {v : Int} (h1 : ¬ f = 53) (h2 : ¬ f = 49) : rem9 S p v f i j = S f i j := by
  unfold rem9; rw [up3_nf h2, up3_nf h1]
theorem ret1_no {S : IT} {p f i j : Nat} (h1 : ¬ f = 53) (h2 : ¬ f = 49) : ret1 S p f i j = S f i j := by
  unfold ret1
  split
  · exact rem9_no h1 h2
  · rfl
theorem retF_no {f i j : Nat} (h1 : ¬ f = 53) (h2 : ¬ f = 49) : ∀ d p S, retF d p S f i j = S f i j := by
  intro d
  induction d with
  | zero => intro p S; rfl
  | succ d ih => intro p S; exact (ih (p + 1) (ret1 S p)).trans (ret1_no h1 h2)
theorem tk_in {S : IT} : ∀ n, 0 ≤ tk S n ∧ tk S n ≤ n := by
  intro n
  induction n with
  | zero => unfold tk; omega
  | succ n ih => unfold tk; split <;> omega
theorem tk_eq {S S2 : IT} (h : ∀ x : Nat, (2 ≤ S2 53 0 x ↔ 2 ≤ S 53 0 x)) : ∀ n, tk S2 n = tk S n := by
  intro n
  induction n with
  | zero => rfl
  | succ n ih =>
    unfold tk
    rw [ih]
    by_cases g : 2 ≤ S 53 0 n
    · rw [if_pos g, if_pos ((h n).mpr g)]
    · rw [if_neg g, if_neg (fun q => g ((h n).mp q))]
theorem tk_up {S S2 : IT} {p : Nat} (h : ∀ x : Nat, ¬ x = p → (2 ≤ S2 53 0 x ↔ 2 ≤ S 53 0 x)) (h1 : ¬ 2 ≤ S 53 0 p) (h2 : 2 ≤ S2 53 0 p) : ∀ n, tk S2 n = tk S n + (if p < n then 1 else 0) := by
  intro n
  induction n with
  | zero => rfl
  | succ n ih =>
    unfold tk
    rw [ih]
    by_cases e : n = p
    · subst e
      rw [if_pos h2, if_neg h1, if_neg (by omega), if_pos (by omega)]; omega
    · have g2 : (if p < n + 1 then (1 : Int) else 0) = if p < n then 1 else 0 := by
        by_cases q : p < n
        · rw [if_pos q, if_pos (by omega)]
        · rw [if_neg q, if_neg (by omega)]
      rw [g2]
      by_cases g : 2 ≤ S 53 0 n
      · rw [if_pos g, if_pos ((h n e).mpr g)]; omega
      · rw [if_neg g, if_neg (fun q => g ((h n e).mp q))]; omega
theorem VD_rem {S : IT} (V : VD S) {p : Nat} {v : Int} (hp : (p : Int) < S 27 0 30) (h1 : S 53 0 p = 1) (hv : 2 ≤ v) : VD (rem9 S p v) := by
  obtain ⟨v1, v2, v3, v4, v5, v6, v7, v8, v9, v10⟩ := V
  obtain ⟨a1, a2, a3, a4, a5, a6⟩ := v9 p hp
  obtain ⟨b1, b2, b3, b4⟩ := a5 h1
  have e53 : ∀ x, rem9 S p v 53 0 x = if x = p then v else S 53 0 x := fun x => by unfold rem9; rw [up3_nf (by decide), up3_at]
  have e49 : ∀ x, rem9 S p v 49 0 x = if x = 3 * (S 55 0 p).toNat + (S 56 0 p).toNat then wr (S 49 0 (3 * (S 55 0 p).toNat + (S 56 0 p).toNat) + 1) else S 49 0 x := fun x => by unfold rem9; rw [up3_at, up3_nf (by decide)]
  have eno : ∀ f i j, ¬ f = 53 → ¬ f = 49 → rem9 S p v f i j = S f i j := fun f i j => rem9_no
  have htk : tk (rem9 S p v) 40 = tk S 40 + 1 := by
    have := tk_up (S := S) (S2 := rem9 S p v) (p := p) (fun x hx => by rw [e53, if_neg hx]) (by omega) (by rw [e53, if_pos rfl]; exact hv) 40
    rw [this, if_pos (by omega)]
  have e27 := fun j => eno 27 0 j (by decide) (by decide)
  have htk2 := tk_in (S := S) 40
  refine ⟨by rw [e27]; exact v1, by rw [e27]; exact v2, by rw [e27]; exact v3, by rw [e27]; exact v4, by rw [e27]; exact v5, by rw [e27]; exact v6, fun k hk => ?_, fun k hk => ?_, fun x hx => ?_, fun x hx hx2 => ?_⟩
  · rw [e27] at hk; rw [eno 48 0 k (by decide) (by decide), e27]; exact v7 k hk
  · rw [e49, htk]
    have := v8 k hk
    have h9 := v8 (3 * (S 55 0 p).toNat + (S 56 0 p).toNat) (by omega)
    split
    · rw [wrI (by omega) (by omega)]; omega
    · omega
  · rw [e27] at hx
    obtain ⟨c1, c2, c3, c4, c5, c6⟩ := v9 x hx
    rw [eno 50 0 x (by decide) (by decide), eno 52 0 x (by decide) (by decide), eno 55 0 x (by decide) (by decide), eno 56 0 x (by decide) (by decide), eno 58 0 x (by decide) (by decide), e27, e53]
    refine ⟨c1, c2, c3, c4, fun g => ?_, c6⟩
    by_cases q : x = p
    · rw [if_pos q] at g; omega
    · rw [if_neg q] at g; exact c5 g
  · rw [e27] at hx2
    rw [e53, eno 58 0 x (by decide) (by decide), if_neg (fun q => hx2 (by rw [q]; exact hp))]
    exact v10 x hx hx2
theorem RD_rem {I I2 S : IT} (R : RD I S) (V : VD S) {p : Nat} {v : Int} (hp : (p : Int) < S 27 0 30) (h1 : S 53 0 p = 1) (h21 : ∀ i j, I2 21 i j = I 21 i j) (h24 : ∀ i j, I2 24 i j = I 24 i j) (h26 : ∀ x j, I2 26 x j = if x = p ∧ j = 4 then v else I 26 x j) (h25 : ∀ x j, I2 25 x j = if x = (S 55 0 p).toNat ∧ j = (S 56 0 p).toNat then wr (S 49 0 (3 * (S 55 0 p).toNat + (S 56 0 p).toNat) + 1) else I 25 x j) : RD I2 (rem9 S p v) := by
  obtain ⟨r1, r2, r3, r4⟩ := R
  obtain ⟨v1, v2, v3, v4, v5, v6, v7, v8, v9, v10⟩ := V
  obtain ⟨a1, a2, a3, a4, a5, a6⟩ := v9 p hp
  obtain ⟨b1, b2, b3, b4⟩ := a5 h1
  have e53 : ∀ x, rem9 S p v 53 0 x = if x = p then v else S 53 0 x := fun x => by unfold rem9; rw [up3_nf (by decide), up3_at]
  have e49 : ∀ x, rem9 S p v 49 0 x = if x = 3 * (S 55 0 p).toNat + (S 56 0 p).toNat then wr (S 49 0 (3 * (S 55 0 p).toNat + (S 56 0 p).toNat) + 1) else S 49 0 x := fun x => by unfold rem9; rw [up3_at, up3_nf (by decide)]
  have eno : ∀ f i j, ¬ f = 53 → ¬ f = 49 → rem9 S p v f i j = S f i j := fun f i j => rem9_no
  have e27 := fun j => eno 27 0 j (by decide) (by decide)
  refine ⟨by rw [h21, e27]; exact r1, by rw [h21, e27]; exact r2, fun k hk => ?_, fun x hx => ?_⟩
  · obtain ⟨c1, c2⟩ := r3 k hk
    rw [e27, h24, eno 48 0 k (by decide) (by decide)]
    refine ⟨fun g => ⟨(c1 g).1, fun j hj => ?_⟩, fun g j hj => ?_⟩
    · rw [h25, e49]
      by_cases q : k = (S 55 0 p).toNat ∧ j = (S 56 0 p).toNat
      · rw [if_pos q, if_pos (by rw [q.1, q.2])]
      · rw [if_neg q, if_neg (fun y => q ⟨by omega, by omega⟩)]; exact (c1 g).2 j hj
    · rw [h25, if_neg (fun y => by omega)]; exact c2 g j hj
  · obtain ⟨c1, c2, c3⟩ := r4 x hx
    have mm : ∀ j, ¬ j = 4 → I2 26 x j = I 26 x j := fun j g => by rw [h26, if_neg (fun y => g y.2)]
    have m4 : I2 26 x 4 = if x = p then v else I 26 x 4 := by
      rw [h26]
      by_cases q : x = p
      · rw [if_pos ⟨q, rfl⟩, if_pos q]
      · rw [if_neg (fun y => q y.1), if_neg q]
    rw [mm 7 (by decide), mm 0 (by decide), mm 1 (by decide), mm 2 (by decide), mm 3 (by decide), mm 5 (by decide), mm 6 (by decide), mm 8 (by decide), m4, e27, e53, eno 50 0 x (by decide) (by decide), eno 51 0 x (by decide) (by decide), eno 52 0 x (by decide) (by decide), eno 54 0 x (by decide) (by decide), eno 55 0 x (by decide) (by decide), eno 56 0 x (by decide) (by decide), eno 57 0 x (by decide) (by decide), eno 58 0 x (by decide) (by decide)]
    refine ⟨c1, fun g => ?_, c3⟩
    obtain ⟨d0, d1, d2, d3, d4, d5, d6, d8⟩ := c2 g
    refine ⟨d0, d1, d2, d3, ?_, d5, d6, d8⟩
    by_cases q : x = p
    · rw [if_pos q, if_pos q]
    · rw [if_neg q, if_neg q]; exact d4
theorem VD_ret1 {S : IT} (V : VD S) {p : Nat} (hp : (p : Int) < S 27 0 30) : VD (ret1 S p) := by
  by_cases g : S 53 0 p = 1 ∧ ¬ wr (S 27 0 0 - S 57 0 p) < 4320
  · rw [show ret1 S p = _ from if_pos g]; exact VD_rem V hp g.1 (by omega)
  · rw [show ret1 S p = S from if_neg g]; exact V

theorem k68_0 {fs : List fr} {I : IT} {cc : Nat → Option Nat} {n c z : Nat} {out : oP}  (h : Rn 68 2 [some (vr 27 0), some (vi 0)] [] (fs) I (Cs cc) n c z out) : Rn 68 0 [some (vr 27 0), none] [] (fs) I (Cs cc) n c z out :=
  (Rn.iconst (pc2 := 1) rfl rfl (Rn.istore_n (pc2 := 2) (ls2 := [some (vr 27 0), some (vi 0)]) rfl rfl rfl h))

theorem k68_2 {fs : List fr} {I : IT} {cc : Nat → Option Nat} {n c z : Nat} {out : oP} {p : Int} (h : ((p < (I 27 0 30)) → ((0 ≤ p ∧ p < 40) ∧ ((((I 53 0 (Int.toNat p)) = 1) → ((((wr ((I 27 0 0) - (I 57 0 (Int.toNat p)))) < 4320) → (Rn 68 2 [some (vr 27 0), some (vi (wr (p + 1)))] [] (fs) I (Cs cc) n c z out)) ∧ (¬ ((wr ((I 27 0 0) - (I 57 0 (Int.toNat p)))) < 4320) → ((0 ≤ (wr ((wr (3 * (I 55 0 (Int.toNat p)))) + (I 56 0 (Int.toNat p)))) ∧ (wr ((wr (3 * (I 55 0 (Int.toNat p)))) + (I 56 0 (Int.toNat p)))) < 18) ∧ (Rn 68 2 [some (vr 27 0), some (vi (wr (p + 1)))] [] (fs) (up3 (up3 I 53 0 (Int.toNat p) 3) 49 0 (Int.toNat (wr ((wr (3 * (I 55 0 (Int.toNat p)))) + (I 56 0 (Int.toNat p))))) (wr ((I 49 0 (Int.toNat (wr ((wr (3 * (I 55 0 (Int.toNat p)))) + (I 56 0 (Int.toNat p)))))) + 1))) (Cs cc) n c z out))))) ∧ (¬ ((I 53 0 (Int.toNat p)) = 1) → (Rn 68 2 [some (vr 27 0), some (vi (wr (p + 1)))] [] (fs) I (Cs cc) n c z out))))) ∧ (¬ (p < (I 27 0 30)) → (Rn 68 74 [some (vr 27 0), some (vi p)] [] (fs) I (Cs cc) n c z out))) : Rn 68 2 [some (vr 27 0), some (vi p)] [] (fs) I (Cs cc) n c z out :=
  (Rn.iload_n (pc2 := 3) rfl rfl rfl (Rn.aload_n (pc2 := 4) rfl rfl rfl (Rn.getI (pc2 := 7) rfl rfl rfl rfl (Rn.ic_ge (pc2 := 10) rfl rfl (fun q18 => (Rn.aload_n (pc2 := 11) rfl rfl rfl (Rn.getR (pc2 := 14) (q := (some (53, 0))) rfl rfl rfl rfl rfl (Rn.iload_n (pc2 := 15) rfl rfl rfl (Rn.iald (pc2 := 16) (L := 40) rfl rfl rfl (h.1 q18).1 rfl (Rn.iconst (pc2 := 17) rfl rfl (Rn.ic_ne (pc2 := 20) rfl rfl (fun q19 => (Rn.aload_n (pc2 := 21) rfl rfl rfl (Rn.getI (pc2 := 24) rfl rfl rfl rfl (Rn.aload_n (pc2 := 25) rfl rfl rfl (Rn.getR (pc2 := 28) (q := (some (57, 0))) rfl rfl rfl rfl rfl (Rn.iload_n (pc2 := 29) rfl rfl rfl (Rn.iald (pc2 := 30) (L := 40) rfl rfl rfl (h.1 q18).1 rfl (Rn.isub (pc2 := 31) rfl rfl (Rn.sipush (pc2 := 34) rfl rfl (Rn.ic_lt (pc2 := 37) rfl rfl (fun q20 => (Rn.iinc (pc2 := 71) (ls2 := [some (vr 27 0), some (vi (wr (p + 1)))]) rfl rfl rfl rfl (Rn.goto rfl (((h.1 q18).2.1 q19).1 q20)))) (fun q20 => (Rn.aload_n (pc2 := 38) rfl rfl rfl (Rn.getR (pc2 := 41) (q := (some (53, 0))) rfl rfl rfl rfl rfl (Rn.iload_n (pc2 := 42) rfl rfl rfl (Rn.iconst (pc2 := 43) rfl rfl (Rn.iast (pc2 := 44) (L := 40) rfl rfl rfl (h.1 q18).1 rfl (Rn.aload_n (pc2 := 45) rfl rfl rfl (Rn.getR (pc2 := 48) (q := (some (49, 0))) rfl rfl rfl rfl rfl (Rn.iconst (pc2 := 49) rfl rfl (Rn.aload_n (pc2 := 50) rfl rfl rfl (Rn.getR (pc2 := 53) (q := (some (55, 0))) rfl rfl rfl rfl rfl (Rn.iload_n (pc2 := 54) rfl rfl rfl (Rn.iald (pc2 := 55) (L := 40) rfl rfl rfl (h.1 q18).1 rfl (Rn.imul (pc2 := 56) rfl rfl (Rn.aload_n (pc2 := 57) rfl rfl rfl (Rn.getR (pc2 := 60) (q := (some (56, 0))) rfl rfl rfl rfl rfl (Rn.iload_n (pc2 := 61) rfl rfl rfl (Rn.iald (pc2 := 62) (L := 40) rfl rfl rfl (h.1 q18).1 rfl (Rn.iadd (pc2 := 63) rfl rfl (Rn.dup2 (pc2 := 64) rfl rfl (Rn.iald (pc2 := 65) (L := 18) rfl rfl rfl (((h.1 q18).2.1 q19).2 q20).1 rfl (Rn.iconst (pc2 := 66) rfl rfl (Rn.iadd (pc2 := 67) rfl rfl (Rn.iast (pc2 := 68) (L := 18) rfl rfl rfl (((h.1 q18).2.1 q19).2 q20).1 rfl (Rn.iinc (pc2 := 71) (ls2 := [some (vr 27 0), some (vi (wr (p + 1)))]) rfl rfl rfl rfl (Rn.goto rfl (((h.1 q18).2.1 q19).2 q20).2)))))))))))))))))))))))))))))))))))) (fun q19 => (Rn.iinc (pc2 := 71) (ls2 := [some (vr 27 0), some (vi (wr (p + 1)))]) rfl rfl rfl rfl (Rn.goto rfl ((h.1 q18).2.2 q19))))))))))) (fun q18 => (h.2 q18))))))

theorem k82_0 {fs : List fr} {I : IT} {cc : Nat → Option Nat} {n c z : Nat} {out : oP} {now : Int} (h : Rn 82 2 [some (vr 21 0), some (vi now), some (vi 0), none] [] (fs) I (Cs cc) n c z out) : Rn 82 0 [some (vr 21 0), some (vi now), none, none] [] (fs) I (Cs cc) n c z out :=
  (Rn.iconst (pc2 := 1) rfl rfl (Rn.istore_n (pc2 := 2) (ls2 := [some (vr 21 0), some (vi now), some (vi 0), none]) rfl rfl rfl h))

theorem k82_2 {fs : List fr} {I : IT} {cc : Nat → Option Nat} {n c z : Nat} {out : oP} {now : Int} {i : Int} {x3 : Option av} (h : ((i < (I 21 0 1)) → ((0 ≤ i ∧ i < 40) ∧ ((((I 26 (Int.toNat i) 4) = 1) → ((((wr (now - (I 26 (Int.toNat i) 7))) < 4320) → (Rn 82 2 [some (vr 21 0), some (vi now), some (vi (wr (i + 1))), some (vr 26 (Int.toNat i))] [] (fs) I (Cs cc) n c z out)) ∧ (¬ ((wr (now - (I 26 (Int.toNat i) 7))) < 4320) → (((((up3 I 26 (Int.toNat i) 4 3) 26 (Int.toNat i) 5) < 0) → (Rn 82 2 [some (vr 21 0), some (vi now), some (vi (wr (i + 1))), some (vr 26 (Int.toNat i))] [] (fs) (up3 I 26 (Int.toNat i) 4 3) (Cs cc) n c z out)) ∧ (¬ (((up3 I 26 (Int.toNat i) 4 3) 26 (Int.toNat i) 5) < 0) → (((((up3 I 26 (Int.toNat i) 4 3) 26 (Int.toNat i) 5) < (I 21 0 0)) → ((0 ≤ ((up3 I 26 (Int.toNat i) 4 3) 26 (Int.toNat i) 5) ∧ ((up3 I 26 (Int.toNat i) 4 3) 26 (Int.toNat i) 5) < 6) ∧ (((((up3 I 26 (Int.toNat i) 4 3) 26 (Int.toNat i) 6) < 0) → (Rn 82 2 [some (vr 21 0), some (vi now), some (vi (wr (i + 1))), some (vr 26 (Int.toNat i))] [] (fs) (up3 I 26 (Int.toNat i) 4 3) (Cs cc) n c z out)) ∧ (¬ (((up3 I 26 (Int.toNat i) 4 3) 26 (Int.toNat i) 6) < 0) → (((((up3 I 26 (Int.toNat i) 4 3) 26 (Int.toNat i) 6) < 3) → ((0 ≤ ((up3 I 26 (Int.toNat i) 4 3) 26 (Int.toNat i) 6) ∧ ((up3 I 26 (Int.toNat i) 4 3) 26 (Int.toNat i) 6) < 3) ∧ (Rn 82 2 [some (vr 21 0), some (vi now), some (vi (wr (i + 1))), some (vr 26 (Int.toNat i))] [] (fs) (up3 (up3 I 26 (Int.toNat i) 4 3) 25 (Int.toNat ((up3 I 26 (Int.toNat i) 4 3) 26 (Int.toNat i) 5)) (Int.toNat ((up3 I 26 (Int.toNat i) 4 3) 26 (Int.toNat i) 6)) (wr ((I 25 (Int.toNat ((up3 I 26 (Int.toNat i) 4 3) 26 (Int.toNat i) 5)) (Int.toNat ((up3 I 26 (Int.toNat i) 4 3) 26 (Int.toNat i) 6))) + 1))) (Cs cc) n c z out))) ∧ (¬ (((up3 I 26 (Int.toNat i) 4 3) 26 (Int.toNat i) 6) < 3) → (Rn 82 2 [some (vr 21 0), some (vi now), some (vi (wr (i + 1))), some (vr 26 (Int.toNat i))] [] (fs) (up3 I 26 (Int.toNat i) 4 3) (Cs cc) n c z out))))))) ∧ (¬ (((up3 I 26 (Int.toNat i) 4 3) 26 (Int.toNat i) 5) < (I 21 0 0)) → (Rn 82 2 [some (vr 21 0), some (vi now), some (vi (wr (i + 1))), some (vr 26 (Int.toNat i))] [] (fs) (up3 I 26 (Int.toNat i) 4 3) (Cs cc) n c z out)))))))) ∧ (¬ ((I 26 (Int.toNat i) 4) = 1) → (Rn 82 2 [some (vr 21 0), some (vi now), some (vi (wr (i + 1))), some (vr 26 (Int.toNat i))] [] (fs) I (Cs cc) n c z out))))) ∧ (¬ (i < (I 21 0 1)) → (Rf (Sum.inl none) fs I (Cs cc) n c z out))) : Rn 82 2 [some (vr 21 0), some (vi now), some (vi i), x3] [] (fs) I (Cs cc) n c z out :=
  (Rn.iload_n (pc2 := 3) rfl rfl rfl (Rn.aload_n (pc2 := 4) rfl rfl rfl (Rn.getI (pc2 := 7) rfl rfl rfl rfl (Rn.ic_ge (pc2 := 10) rfl rfl (fun q21 => (Rn.aload_n (pc2 := 11) rfl rfl rfl (Rn.getR (pc2 := 14) (q := (some (23, 0))) rfl rfl rfl rfl rfl (Rn.iload_n (pc2 := 15) rfl rfl rfl (Rn.aald (pc2 := 16) (L := 40) (q := (some (26, (Int.toNat i)))) rfl rfl rfl rfl (h.1 q21).1 rfl rfl (Rn.astore_n (pc2 := 17) (ls2 := [some (vr 21 0), some (vi now), some (vi i), some (vr 26 (Int.toNat i))]) rfl rfl rfl (Rn.aload_n (pc2 := 18) rfl rfl rfl (Rn.getI (pc2 := 21) rfl rfl rfl rfl (Rn.iconst (pc2 := 22) rfl rfl (Rn.ic_ne (pc2 := 25) rfl rfl (fun q22 => (Rn.iload_n (pc2 := 26) rfl rfl rfl (Rn.aload_n (pc2 := 27) rfl rfl rfl (Rn.getI (pc2 := 30) rfl rfl rfl rfl (Rn.isub (pc2 := 31) rfl rfl (Rn.sipush (pc2 := 34) rfl rfl (Rn.ic_lt (pc2 := 37) rfl rfl (fun q23 => (Rn.iinc (pc2 := 46) (ls2 := [some (vr 21 0), some (vi now), some (vi (wr (i + 1))), some (vr 26 (Int.toNat i))]) rfl rfl rfl rfl (Rn.goto rfl (((h.1 q21).2.1 q22).1 q23)))) (fun q23 => (Rn.aload_n (pc2 := 38) rfl rfl rfl (Rn.aload_n (pc2 := 39) rfl rfl rfl (Rn.iconst (pc2 := 40) rfl rfl (Rn.ivir (as := [vr 26 (Int.toNat i), vi 3]) (r := []) (ls2 := [some (vr 21 0), some (vr 26 (Int.toNat i)), some (vi 3)]) (f := 21) (i := 0) rfl rfl rfl rfl rfl rfl rfl (Rn.aload_n (pc2 := 1) rfl rfl rfl (Rn.iload_n (pc2 := 2) rfl rfl rfl (Rn.putI (pc2 := 5) rfl rfl rfl rfl rfl (Rn.aload_n (pc2 := 6) rfl rfl rfl (Rn.getI (pc2 := 9) rfl rfl rfl rfl (Rn.aload_n (pc2 := 10) rfl rfl rfl (Rn.getI (pc2 := 13) rfl rfl rfl rfl (Rn.ista (as := [vi ((up3 I 26 (Int.toNat i) 4 3) 26 (Int.toNat i) 5), vi (I 21 0 0)]) (r := []) (ls2 := [some (vi ((up3 I 26 (Int.toNat i) 4 3) 26 (Int.toNat i) 5)), some (vi (I 21 0 0))]) rfl rfl rfl rfl rfl rfl rfl (Rn.iload_n (pc2 := 1) rfl rfl rfl (Rn.iz_lt (pc2 := 4) rfl rfl (fun q24 => (Rn.iconst (pc2 := 14) rfl rfl (Rn.zret rfl rfl (by decide) (Rf.sm (pc2 := 16) rfl (Rn.iz_eq (pc2 := 19) rfl rfl (fun _ =>  (Rn.vret rfl (Rf.nn (pc2 := 43) rfl (Rn.iinc (pc2 := 46) (ls2 := [some (vr 21 0), some (vi now), some (vi (wr (i + 1))), some (vr 26 (Int.toNat i))]) rfl rfl rfl rfl (Rn.goto rfl ((((h.1 q21).2.1 q22).2 q23).1 q24)))))) (fun q => absurd (show ((0 : Int) = 0) by decide) q)))))) (fun q24 => (Rn.iload_n (pc2 := 5) rfl rfl rfl (Rn.iload_n (pc2 := 6) rfl rfl rfl (Rn.ic_ge (pc2 := 9) rfl rfl (fun q25 => (Rn.iconst (pc2 := 10) rfl rfl (Rn.goto rfl (Rn.zret rfl rfl (by decide) (Rf.sm (pc2 := 16) rfl (Rn.iz_eq (pc2 := 19) rfl rfl (fun q => absurd q (show (¬ ((1 : Int) = 0)) by decide)) (fun _ =>  (Rn.aload_n (pc2 := 20) rfl rfl rfl (Rn.getR (pc2 := 23) (q := (some (22, 0))) rfl rfl rfl rfl rfl (Rn.aload_n (pc2 := 24) rfl rfl rfl (Rn.getI (pc2 := 27) rfl rfl rfl rfl (Rn.aald (pc2 := 28) (L := 6) (q := (some (24, (Int.toNat ((up3 I 26 (Int.toNat i) 4 3) 26 (Int.toNat i) 5))))) rfl rfl rfl rfl (((((h.1 q21).2.1 q22).2 q23).2 q24).1 q25).1 rfl rfl (Rn.aload_n (pc2 := 29) rfl rfl rfl (Rn.getI (pc2 := 32) rfl rfl rfl rfl (Rn.iconst (pc2 := 33) rfl rfl (Rn.ivir (as := [vi ((up3 I 26 (Int.toNat i) 4 3) 26 (Int.toNat i) 6), vi 1]) (r := []) (ls2 := [some (vr 24 (Int.toNat ((up3 I 26 (Int.toNat i) 4 3) 26 (Int.toNat i) 5))), some (vi ((up3 I 26 (Int.toNat i) 4 3) 26 (Int.toNat i) 6)), some (vi 1)]) (f := 24) (i := (Int.toNat ((up3 I 26 (Int.toNat i) 4 3) 26 (Int.toNat i) 5))) rfl rfl rfl rfl rfl rfl rfl (Rn.iload_n (pc2 := 1) rfl rfl rfl (Rn.iconst (pc2 := 2) rfl rfl (Rn.ista (as := [vi ((up3 I 26 (Int.toNat i) 4 3) 26 (Int.toNat i) 6), vi 3]) (r := []) (ls2 := [some (vi ((up3 I 26 (Int.toNat i) 4 3) 26 (Int.toNat i) 6)), some (vi 3)]) rfl rfl rfl rfl rfl rfl rfl (Rn.iload_n (pc2 := 1) rfl rfl rfl (Rn.iz_lt (pc2 := 4) rfl rfl (fun q26 => (Rn.iconst (pc2 := 14) rfl rfl (Rn.zret rfl rfl (by decide) (Rf.sm (pc2 := 5) rfl (Rn.iz_eq (pc2 := 8) rfl rfl (fun _ =>  (Rn.vret rfl (Rf.nn (pc2 := 36) rfl (Rn.vret rfl (Rf.nn (pc2 := 43) rfl (Rn.iinc (pc2 := 46) (ls2 := [some (vr 21 0), some (vi now), some (vi (wr (i + 1))), some (vr 26 (Int.toNat i))]) rfl rfl rfl rfl (Rn.goto rfl ((((((h.1 q21).2.1 q22).2 q23).2 q24).1 q25).2.1 q26)))))))) (fun q => absurd (show ((0 : Int) = 0) by decide) q)))))) (fun q26 => (Rn.iload_n (pc2 := 5) rfl rfl rfl (Rn.iload_n (pc2 := 6) rfl rfl rfl (Rn.ic_ge (pc2 := 9) rfl rfl (fun q27 => (Rn.iconst (pc2 := 10) rfl rfl (Rn.goto rfl (Rn.zret rfl rfl (by decide) (Rf.sm (pc2 := 5) rfl (Rn.iz_eq (pc2 := 8) rfl rfl (fun q => absurd q (show (¬ ((1 : Int) = 0)) by decide)) (fun _ =>  (Rn.aload_n (pc2 := 9) rfl rfl rfl (Rn.getR (pc2 := 12) (q := (some (25, (Int.toNat ((up3 I 26 (Int.toNat i) 4 3) 26 (Int.toNat i) 5))))) rfl rfl rfl rfl rfl (Rn.iload_n (pc2 := 13) rfl rfl rfl (Rn.dup2 (pc2 := 14) rfl rfl (Rn.iald (pc2 := 15) (L := 3) rfl rfl rfl (((((((h.1 q21).2.1 q22).2 q23).2 q24).1 q25).2.2 q26).1 q27).1 rfl (Rn.iload_n (pc2 := 16) rfl rfl rfl (Rn.iadd (pc2 := 17) rfl rfl (Rn.iast (pc2 := 18) (L := 3) rfl rfl rfl (((((((h.1 q21).2.1 q22).2 q23).2 q24).1 q25).2.2 q26).1 q27).1 rfl (Rn.vret rfl (Rf.nn (pc2 := 36) rfl (Rn.vret rfl (Rf.nn (pc2 := 43) rfl (Rn.iinc (pc2 := 46) (ls2 := [some (vr 21 0), some (vi now), some (vi (wr (i + 1))), some (vr 26 (Int.toNat i))]) rfl rfl rfl rfl (Rn.goto rfl (((((((h.1 q21).2.1 q22).2 q23).2 q24).1 q25).2.2 q26).1 q27).2))))))))))))))))))))) (fun q27 => (Rn.iconst (pc2 := 14) rfl rfl (Rn.zret rfl rfl (by decide) (Rf.sm (pc2 := 5) rfl (Rn.iz_eq (pc2 := 8) rfl rfl (fun _ =>  (Rn.vret rfl (Rf.nn (pc2 := 36) rfl (Rn.vret rfl (Rf.nn (pc2 := 43) rfl (Rn.iinc (pc2 := 46) (ls2 := [some (vr 21 0), some (vi now), some (vi (wr (i + 1))), some (vr 26 (Int.toNat i))]) rfl rfl rfl rfl (Rn.goto rfl (((((((h.1 q21).2.1 q22).2 q23).2 q24).1 q25).2.2 q26).2 q27)))))))) (fun q => absurd (show ((0 : Int) = 0) by decide) q))))))))))))))))))))))))))))))) (fun q25 => (Rn.iconst (pc2 := 14) rfl rfl (Rn.zret rfl rfl (by decide) (Rf.sm (pc2 := 16) rfl (Rn.iz_eq (pc2 := 19) rfl rfl (fun _ =>  (Rn.vret rfl (Rf.nn (pc2 := 43) rfl (Rn.iinc (pc2 := 46) (ls2 := [some (vr 21 0), some (vi now), some (vi (wr (i + 1))), some (vr 26 (Int.toNat i))]) rfl rfl rfl rfl (Rn.goto rfl (((((h.1 q21).2.1 q22).2 q23).2 q24).2 q25)))))) (fun q => absurd (show ((0 : Int) = 0) by decide) q)))))))))))))))))))))))))))))))) (fun q22 => (Rn.iinc (pc2 := 46) (ls2 := [some (vr 21 0), some (vi now), some (vi (wr (i + 1))), some (vr 26 (Int.toNat i))]) rfl rfl rfl rfl (Rn.goto rfl ((h.1 q21).2.2 q22)))))))))))))) (fun q21 => (Rn.vret rfl (h.2 q21)))))))

theorem m_ret_l {fs : List fr} {cc : Nat → Option Nat} {n c z : Nat} {out : oP} : ∀ (d p : Nat) (I : IT), VD I → p + d = (I 27 0 30).toNat → (∀ x, Rn 68 74 [some (vr 27 0), some (vi x)] [] fs (retF d p I) (Cs cc) n c z out) → Rn 68 2 [some (vr 27 0), some (vi (p : Int))] [] fs I (Cs cc) n c z out := by
  intro d
  induction d with
  | zero =>
    intro p I V hp h
    exact k68_2 ⟨fun h1 => by omega, fun h1 => h _⟩
  | succ d ih =>
    intro p I V hp h
    have v3 := V.2.2.1
    have v4 := V.2.2.2.1
    have hp2 : (p : Int) < I 27 0 30 := by omega
    have nx := ih (p + 1) (ret1 I p) (VD_ret1 V hp2) (by rw [ret1_no (by decide) (by decide)]; omega) h
    have a5 := (V.2.2.2.2.2.2.2.2.1 p hp2).2.2.2.2.1
    have v2 := V.2.1
    refine k68_2 ⟨fun h1 => ?_, fun h1 => by omega⟩
    simp (disch := omega) only [wrI (x := (p : Int) + 1), wrN, Int.toNat_natCast, nS]
    refine ⟨by omega, fun h2 => ⟨fun h3 => ?_, fun h3 => ?_⟩, fun h2 => ?_⟩
    · rw [show ret1 I p = I from if_neg (fun g => g.2 h3)] at nx; exact nx
    · obtain ⟨b1, b2, b3, b4⟩ := a5 h2
      rw [wrI (x := 3 * I 55 0 p) (by omega) (by omega), wrI (x := 3 * I 55 0 p + I 56 0 p) (by omega) (by omega), show (3 * I 55 0 p + I 56 0 p).toNat = 3 * (I 55 0 p).toNat + (I 56 0 p).toNat by omega]
      refine ⟨by omega, ?_⟩
      rw [show ret1 I p = rem9 I p 3 from if_pos ⟨h2, h3⟩] at nx; exact nx
    · rw [show ret1 I p = I from if_neg (fun g => h2 g.1)] at nx; exact nx
theorem c_ret_l {fs : List fr} {cc : Nat → Option Nat} {n c z : Nat} {out : oP} {now : Int} : ∀ (d p : Nat) (I S : IT) (x3 : Option av), RD I S → VD S → now = S 27 0 0 → p + d = (S 27 0 30).toNat → (∀ I2, RD I2 (retF d p S) → (∀ f i j, ¬ f = 26 → ¬ f = 25 → I2 f i j = I f i j) → Rf (Sum.inl none) fs I2 (Cs cc) n c z out) → Rn 82 2 [some (vr 21 0), some (vi now), some (vi (p : Int)), x3] [] fs I (Cs cc) n c z out := by
  intro d
  induction d with
  | zero =>
    intro p I S x3 R V hnow hp h
    have r2 := R.2.1
    exact k82_2 ⟨fun h1 => by omega, fun h1 => h I R (fun _ _ _ _ _ => rfl)⟩
  | succ d ih =>
    intro p I S x3 R V hnow hp h
    have v3 := V.2.2.1
    have v4 := V.2.2.2.1
    have v2 := V.2.1
    have r1 := R.1
    have r2 := R.2.1
    have hp2 : (p : Int) < S 27 0 30 := by omega
    have a5 := (V.2.2.2.2.2.2.2.2.1 p hp2).2.2.2.2.1
    obtain ⟨c1, c2, _⟩ := R.2.2.2 p (by omega)
    obtain ⟨d0, d1, d2, d3, d4, d5, d6, d8⟩ := c2 hp2
    have stay : ret1 S p = S → Rn 82 2 [some (vr 21 0), some (vi now), some (vi ((p + 1 : Nat) : Int)), some (vr 26 p)] [] fs I (Cs cc) n c z out := fun g => by
      refine ih (p + 1) I S _ R V hnow (by omega) ?_
      have h9 : ∀ I2, RD I2 (retF d (p + 1) (ret1 S p)) → (∀ f i j, ¬ f = 26 → ¬ f = 25 → I2 f i j = I f i j) → Rf (Sum.inl none) fs I2 (Cs cc) n c z out := h
      rw [g] at h9; exact h9
    refine k82_2 ⟨fun h1 => ?_, fun h1 => by omega⟩
    simp (disch := omega) only [wrI (x := (p : Int) + 1), wrN, Int.toNat_natCast, nS]
    rw [d4, c1, hnow]
    refine ⟨by omega, fun h2 => ⟨fun h3 => ?_, fun h3 => ?_⟩, fun h2 => ?_⟩
    · rw [← hnow]; exact stay (if_neg (fun g => g.2 h3))
    · obtain ⟨b1, b2, b3, b4⟩ := a5 h2
      have e5 : (up3 I 26 p 4 3) 26 p 5 = S 55 0 p := by rw [up3_ati, if_neg (by omega)]; exact d5
      have e6 : (up3 I 26 p 4 3) 26 p 6 = S 56 0 p := by rw [up3_ati, if_neg (by omega)]; exact d6
      have e25 : I 25 (S 55 0 p).toNat (S 56 0 p).toNat = S 49 0 (3 * (S 55 0 p).toNat + (S 56 0 p).toNat) := ((R.2.2.1 (S 55 0 p).toNat (by omega)).1 (by omega)).2 _ (by omega)
      rw [e5, e6, e25]
      refine ⟨fun h4 => by omega, fun h4 => ⟨fun h5 => ⟨by omega, fun h6 => by omega, fun h6 => ⟨fun h7 => ⟨by omega, ?_⟩, fun h7 => by omega⟩⟩, fun h5 => by omega⟩⟩
      have e : ret1 S p = rem9 S p 3 := if_pos ⟨h2, h3⟩
      have hR := RD_rem (I2 := up3 (up3 I 26 p 4 3) 25 (S 55 0 p).toNat (S 56 0 p).toNat (wr (S 49 0 (3 * (S 55 0 p).toNat + (S 56 0 p).toNat) + 1))) (v := 3) R V hp2 h2 (fun i j => by rw [up3_nf (by decide), up3_nf (by decide)]) (fun i j => by rw [up3_nf (by decide), up3_nf (by decide)]) (fun x j => by rw [up3_nf (by decide), up3_ati]) (fun x j => by rw [up3_ati, up3_nf (by decide)])
      rw [← e] at hR
      rw [← hnow]
      exact ih (p + 1) _ (ret1 S p) _ hR (VD_ret1 V hp2) (by rw [ret1_no (by decide) (by decide)]; exact hnow) (by rw [ret1_no (by decide) (by decide)]; omega) (fun I2 hR2 hI2 => h I2 hR2 (fun f i j g1 g2 => (hI2 f i j g1 g2).trans (by rw [up3_nf g2, up3_nf g1])))
    · rw [← hnow]; exact stay (if_neg (fun g => h2 g.1))

