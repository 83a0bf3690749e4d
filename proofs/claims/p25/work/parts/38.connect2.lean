theorem RA_eq {I S S2 : IT} (R : RA I S) (h1 : S2 27 0 1 = S 27 0 1) (h2 : S2 27 0 2 = S 27 0 2) (h : ∀ x y : Nat, x < 12 → y < 12 → (x : Int) < S 27 0 1 → (y : Int) < S 27 0 1 → S2 28 0 (12 * x + y) = S 28 0 (12 * x + y)) : RA I S2 := by
  obtain ⟨r1, r2, r3⟩ := R
  refine ⟨by rw [h1]; exact r1, by rw [h2]; exact r2, fun x y hx hy => ?_⟩
  rw [r3 x y hx hy, h1]
  by_cases g : (x : Int) < S 27 0 1 ∧ (y : Int) < S 27 0 1
  · rw [h x y hx hy g.1 g.2]
  · rw [if_neg (fun q => g ⟨q.1, q.2.1⟩), if_neg (fun q => g ⟨q.1, q.2.1⟩)]
/-- between the new ways and the old -/
def btwn (S : IT) (o p : Nat) (m L : Int) (Z : IT) : Prop := Z 27 0 1 = S 27 0 1 ∧ ∀ x y : Nat, x < 12 → y < 12 → nw (dS S) o p m x y ≤ Z 28 0 (12 * x + y) ∧ Z 28 0 (12 * x + y) ≤ S 28 0 (12 * x + y) ∧ (Z 28 0 (12 * x + y) < 1000000 → Z 28 0 (12 * x + y) ≤ L) ∧ 0 ≤ Z 28 0 (12 * x + y) ∧ Z 28 0 (12 * x + y) ≤ 1000000
theorem btwn_jn {S : IT} (M : Mt (dS S)) {o p k : Nat} {m : Int} (ho : o < 12) (hp : p < 12) (hm : 1 ≤ m) (hm2 : m ≤ 60) : btwn S o p m 660 (jn S o p m k) := by
  refine ⟨jn_no (by decide), fun x y hx hy => ?_⟩
  have N := Mt_nw M ho hp hm hm2
  have q := jn_mid (S := S) (o := o) (p := p) (m := m) (k := k) (x := x) (y := y) hy
  have n := N.2.2.1 x y hx hy
  have f : 0 ≤ S 28 0 (12 * x + y) ∧ S 28 0 (12 * x + y) ≤ 1000000 := M.2.2.1 x y hx hy
  have g1 := Mt_fin N (a := x) (b := y) hx hy
  have g2 : S 28 0 (12 * x + y) < 1000000 → S 28 0 (12 * x + y) ≤ 660 := Mt_fin M (a := x) (b := y) hx hy
  have e := jn_at (S := S) (o := o) (p := p) (k := k) (x := x) (m := m) hy
  refine ⟨q.1, q.2, fun h => ?_, by omega, by omega⟩
  by_cases r : 12 * x + y < k
  · rw [if_pos r] at e; omega
  · rw [if_neg r] at e; omega
theorem c_half {L : Int} (hL : L ≤ 2000) (hL0 : 0 ≤ L) {fs : List fr} {I Z S : IT} {cc : Nat → Option Nat} {n c z : Nat} {out : oP} (M : Mt (dS S)) {o p a b : Nat} {m : Int} (ho : (o : Int) < S 27 0 1) (hp : (p : Int) < S 27 0 1) (ha : (a : Int) < S 27 0 1) (hb : (b : Int) < S 27 0 1) (h12 : S 27 0 1 ≤ 12) (hm : 1 ≤ m) (hm2 : m ≤ 60) (B : btwn S o p m L Z) (R : RA I Z) (h : ∀ I2 w, RA I2 (up3 Z 28 0 (12 * a + b) w) → btwn S o p m (2 * L + 60) (up3 Z 28 0 (12 * a + b) w) → w ≤ Z 28 0 (12 * a + b) → w ≤ Z 28 0 (12 * a + o) + m + Z 28 0 (12 * p + b) → (w = Z 28 0 (12 * a + b) ∨ w = Z 28 0 (12 * a + o) + m + Z 28 0 (12 * p + b)) → (∀ f i j, ¬ f = 2 → I2 f i j = I f i j) → Rf (Sum.inl none) fs I2 (Cs cc) n c z out) : Rn 118 0 [some (vr 1 0), some (vi (a : Int)), some (vi (b : Int)), some (vi (adv (Z 28 0 (12 * a + o)) m (Z 28 0 (12 * p + b)))), none, none] [] fs I (Cs cc) n c z out := by
  have b1 := B.2 a b (by omega) (by omega)
  have b2 := B.2 a o (by omega) (by omega)
  have b3 := B.2 p b (by omega) (by omega)
  have mix := nw_mix M (o := o) (p := p) (a := a) (b := b) (by omega) (by omega) (by omega) (by omega) hm b2.1 b3.1
  have hadv : (Z 28 0 (12 * a + o) < 1000000 ∧ Z 28 0 (12 * p + b) < 1000000 ∧ adv (Z 28 0 (12 * a + o)) m (Z 28 0 (12 * p + b)) = Z 28 0 (12 * a + o) + m + Z 28 0 (12 * p + b)) ∨ (adv (Z 28 0 (12 * a + o)) m (Z 28 0 (12 * p + b)) = -1 ∧ 1000000 ≤ Z 28 0 (12 * a + o) + m + Z 28 0 (12 * p + b)) := by
    unfold adv
    by_cases g : Z 28 0 (12 * a + o) < 1000000 ∧ Z 28 0 (12 * p + b) < 1000000
    · rw [if_pos g]; exact Or.inl ⟨g.1, g.2, rfl⟩
    · rw [if_neg g]; refine Or.inr ⟨rfl, ?_⟩; omega
  refine c_short R (by rw [B.1]; exact h12) (by rw [B.1]; exact ha) (by rw [B.1]; exact hb) (by omega) b1.2.2.2.1 b1.2.2.2.2 (fun I2 hR hI => ?_)
  generalize hv : adv (Z 28 0 (12 * a + o)) m (Z 28 0 (12 * p + b)) = v at *
  generalize hw : (if ¬ v = -1 ∧ v < Z 28 0 (12 * a + b) then v else Z 28 0 (12 * a + b)) = w at *
  have w1 : (w = Z 28 0 (12 * a + b) ∨ w = Z 28 0 (12 * a + o) + m + Z 28 0 (12 * p + b)) ∧ w ≤ Z 28 0 (12 * a + b) ∧ w ≤ Z 28 0 (12 * a + o) + m + Z 28 0 (12 * p + b) ∧ (w < 1000000 → w ≤ 2 * L + 60) := by
    by_cases g : ¬ v = -1 ∧ v < Z 28 0 (12 * a + b)
    · rw [if_pos g] at hw
      rcases hadv with ⟨q1, q2, q3⟩ | ⟨q1, q2⟩
      · have := b2.2.2.1 q1
        have := b3.2.2.1 q2
        refine ⟨Or.inr (by omega), by omega, by omega, fun _ => by omega⟩
      · exact absurd q1 g.1
    · rw [if_neg g] at hw
      refine ⟨Or.inl hw.symm, by omega, ?_, fun y => by have := b1.2.2.1 (by omega); omega⟩
      rcases hadv with ⟨q1, q2, q3⟩ | ⟨q1, q2⟩
      · have : ¬ v < Z 28 0 (12 * a + b) := fun y => g ⟨by omega, y⟩
        omega
      · omega
  refine h I2 w hR ⟨by rw [up3_nf (by decide)]; exact B.1, fun x y hx hy => ?_⟩ w1.2.1 w1.2.2.1 w1.1 hI
  rw [up3_at]
  by_cases g : 12 * x + y = 12 * a + b
  · obtain ⟨rfl, rfl⟩ : x = a ∧ y = b := by omega
    rw [if_pos rfl]
    refine ⟨?_, by omega, w1.2.2.2, ?_, by omega⟩
    · rcases w1.1 with q | q
      · rw [q]; exact b1.1
      · rw [q]; exact mix
    · rcases w1.1 with q | q <;> omega
  · rw [if_neg g]
    have := B.2 x y hx hy
    exact ⟨this.1, this.2.1, fun q => by have := this.2.2.1 q; omega, this.2.2.2⟩

