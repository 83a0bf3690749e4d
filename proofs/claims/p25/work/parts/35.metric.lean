def cn (d : Nat → Nat → Int) (a : Nat) : Nat → Int
  | 0 => 0
  | x + 1 => (if d a x < 1000000 then 1 else 0) + cn d a x
def Mt (d : Nat → Nat → Int) : Prop := (∀ a, a < 12 → d a a = 0) ∧ (∀ a b, a < 12 → b < 12 → d a b = d b a) ∧ (∀ a b, a < 12 → b < 12 → 0 ≤ d a b ∧ d a b ≤ 1000000) ∧ (∀ a b e, a < 12 → b < 12 → e < 12 → d a b ≤ d a e + d e b) ∧ (∀ a b, a < 12 → b < 12 → d a b < 1000000 → d a b ≤ 60 * (cn d a 12 - 1))
def nw (d : Nat → Nat → Int) (o p : Nat) (m : Int) (a b : Nat) : Int := if (if d a p + m + d o b < d a o + m + d p b then d a p + m + d o b else d a o + m + d p b) < d a b then (if d a p + m + d o b < d a o + m + d p b then d a p + m + d o b else d a o + m + d p b) else d a b
theorem nw_sp {d : Nat → Nat → Int} {o p : Nat} {m : Int} {a b : Nat} : nw d o p m a b ≤ d a b ∧ nw d o p m a b ≤ d a o + m + d p b ∧ nw d o p m a b ≤ d a p + m + d o b ∧ (nw d o p m a b = d a b ∨ nw d o p m a b = d a o + m + d p b ∨ nw d o p m a b = d a p + m + d o b) := by
  unfold nw
  by_cases h : d a p + m + d o b < d a o + m + d p b
  · rw [if_pos h]; split <;> omega
  · rw [if_neg h]; split <;> omega
theorem cn_in {d : Nat → Nat → Int} {a : Nat} : ∀ n, 0 ≤ cn d a n ∧ cn d a n ≤ n := by
  intro n
  induction n with
  | zero => unfold cn; omega
  | succ n ih => unfold cn; split <;> omega
theorem cn_le {d e : Nat → Nat → Int} {a : Nat} : ∀ n, (∀ x, x < n → d a x < 1000000 → e a x < 1000000) → cn d a n ≤ cn e a n := by
  intro n
  induction n with
  | zero => intro _; unfold cn; omega
  | succ n ih =>
    intro h
    have i := ih (fun x hx => h x (by omega))
    unfold cn
    by_cases g : d a n < 1000000
    · rw [if_pos g, if_pos (h n (by omega) g)]; omega
    · rw [if_neg g]; split <;> omega
theorem cn_add {d e : Nat → Nat → Int} {a b : Nat} : ∀ n, (∀ x, x < n → d a x < 1000000 → e a x < 1000000) → (∀ x, x < n → d b x < 1000000 → e a x < 1000000) → (∀ x, x < n → ¬ (d a x < 1000000 ∧ d b x < 1000000)) → cn d a n + cn d b n ≤ cn e a n := by
  intro n
  induction n with
  | zero => intro _ _ _; unfold cn; omega
  | succ n ih =>
    intro h1 h2 h3
    have i := ih (fun x hx => h1 x (by omega)) (fun x hx => h2 x (by omega)) (fun x hx => h3 x (by omega))
    unfold cn
    by_cases g : d a n < 1000000
    · rw [if_pos g, if_pos (h1 n (by omega) g), if_neg (fun q => h3 n (by omega) ⟨g, q⟩)]; omega
    · rw [if_neg g]
      by_cases g2 : d b n < 1000000
      · rw [if_pos g2, if_pos (h2 n (by omega) g2)]; omega
      · rw [if_neg g2]; split <;> omega
theorem Mt_fin {d : Nat → Nat → Int} (M : Mt d) {a b : Nat} (ha : a < 12) (hb : b < 12) (h : d a b < 1000000) : d a b ≤ 660 := by
  have := M.2.2.2.2 a b ha hb h
  have := cn_in (d := d) (a := a) 12
  omega
theorem Mt_nw {d : Nat → Nat → Int} (M : Mt d) {o p : Nat} {m : Int} (ho : o < 12) (hp : p < 12) (hm : 1 ≤ m) (hm2 : m ≤ 60) : Mt (nw d o p m) := by
  have M0 := M
  obtain ⟨m1, m2, m3, m4, m5⟩ := M
  refine ⟨fun a ha => ?_, fun a b ha hb => ?_, fun a b ha hb => ?_, fun a b e ha hb he => ?_, fun a b ha hb h => ?_⟩
  · have s := nw_sp (d := d) (o := o) (p := p) (m := m) (a := a) (b := a)
    have := m1 a ha
    have := (m3 a o ha ho).1
    have := (m3 p a hp ha).1
    have := (m3 a p ha hp).1
    have := (m3 o a ho ha).1
    omega
  · have s := nw_sp (d := d) (o := o) (p := p) (m := m) (a := a) (b := b)
    have s2 := nw_sp (d := d) (o := o) (p := p) (m := m) (a := b) (b := a)
    have := m2 a b ha hb
    have := m2 a o ha ho
    have := m2 a p ha hp
    have := m2 b o hb ho
    have := m2 b p hb hp
    omega
  · have s := nw_sp (d := d) (o := o) (p := p) (m := m) (a := a) (b := b)
    have := m3 a b ha hb
    have := m3 a o ha ho
    have := m3 p b hp hb
    have := m3 a p ha hp
    have := m3 o b ho hb
    omega
  · have s := nw_sp (d := d) (o := o) (p := p) (m := m) (a := a) (b := b)
    have s2 := nw_sp (d := d) (o := o) (p := p) (m := m) (a := a) (b := e)
    have s3 := nw_sp (d := d) (o := o) (p := p) (m := m) (a := e) (b := b)
    have t1 := m4 a b e ha hb he
    have t2 := m4 a o e ha ho he
    have t3 := m4 a p e ha hp he
    have t4 := m4 p b e hp hb he
    have t5 := m4 o b e ho hb he
    have t6 := m4 a b o ha hb ho
    have t7 := m4 a b p ha hb hp
    have z1 := m3 e o he ho
    have z2 := m3 e p he hp
    have z3 := m3 o e ho he
    have z4 := m3 p e hp he
    have z5 := m3 a o ha ho
    have z6 := m3 a p ha hp
    have z7 := m3 o b ho hb
    have z8 := m3 p b hp hb
    rcases s2.2.2.2 with q | q | q <;> rcases s3.2.2.2 with r | r | r <;> omega
  · have s := nw_sp (d := d) (o := o) (p := p) (m := m) (a := a) (b := b)
    have mono : ∀ x, x < 12 → d a x < 1000000 → nw d o p m a x < 1000000 := fun x hx hd => by
      have := nw_sp (d := d) (o := o) (p := p) (m := m) (a := a) (b := x)
      omega
    have c1 := cn_le (d := d) (e := nw d o p m) (a := a) 12 mono
    by_cases g : d a b < 1000000
    · have := m5 a b ha hb g
      omega
    · have key : ∀ i j, i < 12 → j < 12 → nw d o p m a b = d a i + m + d j b → (∀ x, x < 12 → nw d o p m a x ≤ d a i + m + d j x) → nw d o p m a b ≤ 60 * (cn (nw d o p m) a 12 - 1) := by
        intro i j hi hj hq hx
        have z1 := m3 a i ha hi
        have z2 := m3 j b hj hb
        have f1 : d a i < 1000000 := by omega
        have f2 : d j b < 1000000 := by omega
        have sy := m2 j b hj hb
        have f3 := Mt_fin M0 ha hi f1
        have f4 := Mt_fin M0 hj hb f2
        have b1 := m5 a i ha hi f1
        have b2 := m5 b j hb hj (by omega)
        have c2 := cn_add (d := d) (e := nw d o p m) (a := a) (b := b) 12 mono (fun x hx2 hd => by
          have := hx x hx2
          have := m4 j x b hj hx2 hb
          have := Mt_fin M0 hb hx2 hd
          omega) (fun x hx2 hd => by
          have := m4 a b x ha hb hx2
          have := m2 b x hb hx2
          have := Mt_fin M0 ha hx2 hd.1
          have := Mt_fin M0 hb hx2 hd.2
          omega)
        omega
      rcases s.2.2.2 with q | q | q
      · omega
      · exact key o p ho hp q (fun x hx => nw_sp.2.1)
      · exact key p o hp ho q (fun x hx => nw_sp.2.2.1)
/-- reads that lie between the new and the old lead to the new -/
theorem nw_mix {d : Nat → Nat → Int} (M : Mt d) {o p a b : Nat} {m : Int} (ho : o < 12) (hp : p < 12) (ha : a < 12) (hb : b < 12) (hm : 1 ≤ m) {r1 r2 : Int} (h1 : nw d o p m a o ≤ r1) (h2 : nw d o p m p b ≤ r2) : nw d o p m a b ≤ r1 + m + r2 := by
  obtain ⟨m1, m2, m3, m4, m5⟩ := M
  have s := nw_sp (d := d) (o := o) (p := p) (m := m) (a := a) (b := b)
  have s1 := nw_sp (d := d) (o := o) (p := p) (m := m) (a := a) (b := o)
  have s2 := nw_sp (d := d) (o := o) (p := p) (m := m) (a := p) (b := b)
  have := m1 o ho
  have := m1 p hp
  have := m2 o p ho hp
  have := m3 o p ho hp
  have := m3 a o ha ho
  have := m3 a p ha hp
  have := m3 o b ho hb
  have := m3 p b hp hb
  have := m4 a b o ha hb ho
  have := m4 a b p ha hb hp
  have := m4 a p o ha hp ho
  have := m4 a o p ha ho hp
  have := m4 p b o hp hb ho
  have := m4 o b p ho hb hp
  rcases s1.2.2.2 with q | q | q <;> rcases s2.2.2.2 with r | r | r <;> omega
theorem nw_comm {d : Nat → Nat → Int} {o p a b : Nat} {m : Int} : nw d o p m a b = nw d p o m a b := by
  have s1 := nw_sp (d := d) (o := o) (p := p) (m := m) (a := a) (b := b)
  have s2 := nw_sp (d := d) (o := p) (p := o) (m := m) (a := a) (b := b)
  omega

