theorem k95_23 {fs : List fr} {I : IT} {cc : Nat → Option Nat} {n c z : Nat} {out : oP} {s : Int} {num : Int} {v : Int} (h : Rf (Sum.inl (some (vi v))) fs I (Cs cc) n c z out) : Rn 95 23 [some (vr 3 0), some (vi s), some (vi num)] [vi v] (fs) I (Cs cc) n c z out :=
  (Rn.iret rfl rfl h)

def btw (S : IT) (x y : Int) : Int := if 0 ≤ x ∧ x < S 27 0 1 ∧ 0 ≤ y ∧ y < S 27 0 1 ∧ S 28 0 (12 * x.toNat + y.toNat) < 1000000 then S 28 0 (12 * x.toNat + y.toNat) else -1
def RA (I S : IT) : Prop := I 1 0 0 = S 27 0 1 ∧ I 1 0 1 = S 27 0 2 ∧ ∀ a b : Nat, a < 12 → b < 12 → I 2 0 (12 * a + b) = if (a : Int) < S 27 0 1 ∧ (b : Int) < S 27 0 1 ∧ S 28 0 (12 * a + b) < 1000000 then S 28 0 (12 * a + b) else -1
theorem c_btw {fs : List fr} {I S : IT} {cc : Nat → Option Nat} {n c z : Nat} {out : oP} (R : RA I S) (hp : S 27 0 1 ≤ 12) {x y : Int} (h : Rf (Sum.inl (some (vi (btw S x y)))) fs I (Cs cc) n c z out) : Rn 116 0 [some (vr 1 0), some (vi x), some (vi y)] [] fs I (Cs cc) n c z out := by
  obtain ⟨r1, _, r3⟩ := R
  have neg : ¬ (0 ≤ x ∧ x < S 27 0 1 ∧ 0 ≤ y ∧ y < S 27 0 1) → btw S x y = -1 := fun g => if_neg (fun g2 => g ⟨g2.1, g2.2.1, g2.2.2.1, g2.2.2.2.1⟩)
  refine k116_0 ⟨fun h1 => ?_, fun h1 => ⟨fun h2 => ⟨fun h3 => ?_, fun h3 => ⟨fun h4 => ⟨?_, ?_⟩, fun h4 => ?_⟩⟩, fun h2 => ?_⟩⟩
  · rw [neg (by omega)] at h; exact h
  · rw [neg (by omega)] at h; exact h
  · rw [r1] at h2 h4
    rw [wrI (x := x * 12) (by omega) (by omega), wrI (by omega) (by omega)]
    omega
  · rw [r1] at h2 h4
    rw [wrI (x := x * 12) (by omega) (by omega), wrI (by omega) (by omega)]
    rw [show (x * 12 + y).toNat = 12 * x.toNat + y.toNat by omega, r3 x.toNat y.toNat (by omega) (by omega)]
    have e : btw S x y = (if ((x.toNat : Nat) : Int) < S 27 0 1 ∧ ((y.toNat : Nat) : Int) < S 27 0 1 ∧ S 28 0 (12 * x.toNat + y.toNat) < 1000000 then S 28 0 (12 * x.toNat + y.toNat) else -1) := by
      unfold btw
      by_cases g : S 28 0 (12 * x.toNat + y.toNat) < 1000000
      · rw [if_pos ⟨by omega, by omega, by omega, by omega, g⟩, if_pos ⟨by omega, by omega, g⟩]
      · rw [if_neg (fun q => g q.2.2.2.2), if_neg (fun q => g q.2.2)]
    rw [e] at h; exact h
  · rw [r1] at h4; rw [neg (by omega)] at h; exact h
  · rw [r1] at h2; rw [neg (by omega)] at h; exact h
def smv (S : IT) (x y : Int) : Int := if 0 ≤ x ∧ x < 30 ∧ 0 ≤ y ∧ y < 30 ∧ S 36 0 x.toNat = S 36 0 y.toNat then 1 else 0
def RG (I S : IT) : Prop := ∀ x : Nat, x < 30 → I 6 0 x = S 36 0 x
theorem c_same {fs : List fr} {I S : IT} {cc : Nat → Option Nat} {n c z : Nat} {out : oP} (R : RG I S) {x y : Int} (h : Rf (Sum.inl (some (vi (smv S x y)))) fs I (Cs cc) n c z out) : Rn 98 0 [some (vr 3 0), some (vi x), some (vi y)] [] fs I (Cs cc) n c z out := by
  refine k98_0 ⟨fun h1 => ?_, fun h1 => ⟨fun h2 => ⟨fun h3 => ?_, fun h3 => ⟨fun h4 => ⟨by omega, by omega, fun h5 => ?_, fun h5 => ?_⟩, fun h4 => ?_⟩⟩, fun h2 => ?_⟩⟩
  · rw [show smv S x y = 0 from if_neg (by omega)] at h; exact h
  · rw [show smv S x y = 0 from if_neg (by omega)] at h; exact h
  · rw [R _ (by omega), R _ (by omega)] at h5
    rw [show smv S x y = 1 from if_pos ⟨by omega, by omega, by omega, by omega, h5⟩] at h; exact h
  · rw [R _ (by omega), R _ (by omega)] at h5
    rw [show smv S x y = 0 from if_neg (fun g => h5 g.2.2.2.2)] at h; exact h
  · rw [show smv S x y = 0 from if_neg (by omega)] at h; exact h
  · rw [show smv S x y = 0 from if_neg (by omega)] at h; exact h
def plat (S : IT) (s num : Int) : Int := if 0 ≤ s ∧ s < S 27 0 4 then plc S s.toNat num else -1
theorem c_plat {fs : List fr} {I S : IT} {cc : Nat → Option Nat} {n c z : Nat} {out : oP} {p : Int} (R : RS I S) (V : VS S p) (r0 : I 3 0 0 = S 27 0 4) (h12 : S 27 0 4 ≤ 12) {s num : Int} (h : Rf (Sum.inl (some (vi (plat S s num)))) fs I (Cs cc) n c z out) : Rn 95 0 [some (vr 3 0), some (vi s), some (vi num)] [] fs I (Cs cc) n c z out := by
  refine k95_0 ⟨fun h1 => ?_, fun h1 => ⟨fun h2 => ⟨?_, ?_⟩, fun h2 => ?_⟩⟩
  · rw [show plat S s num = -1 from if_neg (by omega)] at h; exact h
  · rw [r0] at h2; omega
  · rw [r0] at h2
    rw [show plat S s num = plc S s.toNat num from if_pos (by omega)] at h
    exact c_pl R V (by omega) num (Rf.sm (pc2 := 23) rfl (k95_23 h))
  · rw [r0] at h2
    rw [show plat S s num = -1 from if_neg (by omega)] at h; exact h
-- the last naming of a street among the first k, its name; the greatest minute in which a street ceased to bear a name
def li (S : IT) (s : Nat) : Nat → Int
  | 0 => -1
  | k + 1 => if S 33 0 k = (s : Int) then (k : Int) else li S s k
def bn (S : IT) (s k : Nat) : Int := if li S s k = -1 then -1 else S 34 0 (li S s k).toNat
def cz (S : IT) (s : Nat) (x : Int) : Nat → Int
  | 0 => -1
  | k + 1 => if S 33 0 k = (s : Int) ∧ S 34 0 k = x ∧ cz S s x k < S 35 0 k then S 35 0 k else cz S s x k
abbrev nn (S : IT) : Nat := (S 27 0 9).toNat
def bP (S : IT) (name num : Int) (s : Nat) : Prop := (0 ≤ bn S s (nn S) ∧ S 36 0 (bn S s (nn S)).toNat = S 36 0 name.toNat) ∧ ¬ plc S s num = -1
theorem bPd (S : IT) (name num : Int) (s : Nat) : bP S name num s ∨ ¬ bP S name num s := Classical.em _
def bf (S : IT) (name num : Int) : Nat → Int
  | 0 => -1
  | s + 1 => if (0 ≤ bn S s (nn S) ∧ S 36 0 (bn S s (nn S)).toNat = S 36 0 name.toNat) ∧ ¬ plc S s num = -1 then (if bf S name num s = -1 then (s : Int) else -2) else bf S name num s
def VN (S : IT) (T : Int) : Prop := 0 ≤ S 27 0 9 ∧ S 27 0 9 ≤ 100 ∧ 0 ≤ S 27 0 4 ∧ S 27 0 4 ≤ 12 ∧ ∀ k : Nat, (k : Int) < S 27 0 9 → 0 ≤ S 33 0 k ∧ S 33 0 k < S 27 0 4 ∧ 0 ≤ S 34 0 k ∧ S 34 0 k < 30 ∧ -1 ≤ S 35 0 k ∧ S 35 0 k ≤ T
theorem li_in {S : IT} {s : Nat} : ∀ k, -1 ≤ li S s k ∧ li S s k < k := by
  intro k
  induction k with
  | zero => unfold li; omega
  | succ k ih => unfold li; split <;> omega
theorem bn_in {S : IT} {T : Int} (V : VN S T) (s : Nat) : ∀ k, k ≤ nn S → -1 ≤ bn S s k ∧ bn S s k < 30 := by
  intro k hk
  have h := li_in (S := S) (s := s) k
  unfold bn
  by_cases e : li S s k = -1
  · rw [if_pos e]; omega
  · rw [if_neg e]
    have hn : ((li S s k).toNat : Int) < S 27 0 9 := by unfold nn at hk; omega
    obtain ⟨_, _, a, b, _⟩ := V.2.2.2.2 _ hn
    omega
theorem bf_in {S : IT} {name num : Int} : ∀ s, (bf S name num s = -1 ∨ bf S name num s = -2) ∨ (0 ≤ bf S name num s ∧ bf S name num s < s) := by
  intro s
  induction s with
  | zero => exact Or.inl (Or.inl rfl)
  | succ s ih =>
    unfold bf
    split
    · split
      · omega
      · omega
    · omega
theorem bf_two {S : IT} {name num : Int} {k : Nat} (h : bf S name num k = -2) : ∀ d, bf S name num (k + d) = -2 := by
  intro d
  induction d with
  | zero => exact h
  | succ d ih =>
    show bf S name num (k + d + 1) = -2
    unfold bf
    rw [ih]
    split <;> rfl
/-- the bearings of the class: b = 0 those of today, b = 1 those told anew -/
def RBr (b : Nat) (I S : IT) : Prop := ∀ s, s < 12 → I 14 (12 * b + s) 0 = bn S s (nn S) ∧ ∀ x : Nat, x < 30 → I 15 (12 * b + s) x = cz S s x (nn S)
/-- the same of the streets that there are -/
def RBs (b : Nat) (I S : IT) : Prop := ∀ s : Nat, (s : Int) < S 27 0 4 → I 14 (12 * b + s) 0 = bn S s (nn S) ∧ ∀ x : Nat, x < 30 → I 15 (12 * b + s) x = cz S s x (nn S)
theorem RBs_of {b : Nat} {I S : IT} (h : RBr b I S) (h12 : S 27 0 4 ≤ 12) : RBs b I S := fun s hs => h s (by omega)

theorem k105_0 {fs : List fr} {I : IT} {cc : Nat → Option Nat} {n c z : Nat} {out : oP} {b : Nat} {name : Int} {num : Int} (h : Rn 105 6 [some (vr 3 0), some (vr 5 b), some (vi name), some (vi num), some (vi (-1)), some (vi 0)] [] (fs) I (Cs cc) n c z out) : Rn 105 0 [some (vr 3 0), some (vr 5 b), some (vi name), some (vi num), none, none] [] (fs) I (Cs cc) n c z out :=
  (Rn.iconst (pc2 := 1) rfl rfl (Rn.istore (pc2 := 3) (ls2 := [some (vr 3 0), some (vr 5 b), some (vi name), some (vi num), some (vi (-1)), none]) rfl rfl rfl (Rn.iconst (pc2 := 4) rfl rfl (Rn.istore (pc2 := 6) (ls2 := [some (vr 3 0), some (vr 5 b), some (vi name), some (vi num), some (vi (-1)), some (vi 0)]) rfl rfl rfl h))))

theorem k105_6 {fs : List fr} {I : IT} {cc : Nat → Option Nat} {n c z : Nat} {out : oP} {b : Nat} {name : Int} {num : Int} {found : Int} {i : Int} (h : ((i < (I 3 0 0)) → (((i < 12) → ((0 ≤ i ∧ i < 12) ∧ (Rn 98 0 [some (vr 3 0), some (vi (I 14 (12 * b + (Int.toNat i)) 0)), some (vi name)] [] ((105, 31, [some (vr 3 0), some (vr 5 b), some (vi name), some (vi num), some (vi found), some (vi i)], []) :: fs) I (Cs cc) n c z out))) ∧ (¬ (i < 12) → (Rf (Sum.inl (some (vi found))) fs I (Cs cc) n c z out)))) ∧ (¬ (i < (I 3 0 0)) → (Rf (Sum.inl (some (vi found))) fs I (Cs cc) n c z out))) : Rn 105 6 [some (vr 3 0), some (vr 5 b), some (vi name), some (vi num), some (vi found), some (vi i)] [] (fs) I (Cs cc) n c z out :=
  (Rn.iload (pc2 := 8) rfl rfl rfl (Rn.aload_n (pc2 := 9) rfl rfl rfl (Rn.getI (pc2 := 12) rfl rfl rfl rfl (Rn.ic_ge (pc2 := 15) rfl rfl (fun q18 => (Rn.iload (pc2 := 17) rfl rfl rfl (Rn.aload_n (pc2 := 18) rfl rfl rfl (Rn.alen (pc2 := 19) (L := 12) rfl rfl rfl rfl rfl rfl (Rn.ic_ge (pc2 := 22) rfl rfl (fun q19 => (Rn.aload_n (pc2 := 23) rfl rfl rfl (Rn.aload_n (pc2 := 24) rfl rfl rfl (Rn.iload (pc2 := 26) rfl rfl rfl (Rn.aald (pc2 := 27) (L := 12) (q := (some (14, (12 * b + (Int.toNat i))))) rfl rfl rfl rfl ((h.1 q18).1 q19).1 rfl rfl (Rn.getI (pc2 := 30) rfl rfl rfl rfl (Rn.iload_n (pc2 := 31) rfl rfl rfl (Rn.ivir (as := [vi (I 14 (12 * b + (Int.toNat i)) 0), vi name]) (r := []) (ls2 := [some (vr 3 0), some (vi (I 14 (12 * b + (Int.toNat i)) 0)), some (vi name)]) (f := 3) (i := 0) rfl rfl rfl rfl rfl rfl rfl ((h.1 q18).1 q19).2)))))))) (fun q19 => (Rn.iload (pc2 := 69) rfl rfl rfl (Rn.iret rfl rfl ((h.1 q18).2 q19))))))))) (fun q18 => (Rn.iload (pc2 := 69) rfl rfl rfl (Rn.iret rfl rfl (h.2 q18))))))))

theorem k105_34 {fs : List fr} {I : IT} {cc : Nat → Option Nat} {n c z : Nat} {out : oP} {b : Nat} {name : Int} {num : Int} {found : Int} {i : Int} {v : Int} (h : ((v = 0) → (Rn 105 6 [some (vr 3 0), some (vr 5 b), some (vi name), some (vi num), some (vi found), some (vi (wr (i + 1)))] [] (fs) I (Cs cc) n c z out)) ∧ (¬ (v = 0) → (Rn 95 0 [some (vr 3 0), some (vi i), some (vi num)] [] ((105, 41, [some (vr 3 0), some (vr 5 b), some (vi name), some (vi num), some (vi found), some (vi i)], []) :: fs) I (Cs cc) n c z out))) : Rn 105 34 [some (vr 3 0), some (vr 5 b), some (vi name), some (vi num), some (vi found), some (vi i)] [vi v] (fs) I (Cs cc) n c z out :=
  (Rn.iz_eq (pc2 := 37) rfl rfl (fun q20 => (Rn.iinc (pc2 := 64) (ls2 := [some (vr 3 0), some (vr 5 b), some (vi name), some (vi num), some (vi found), some (vi (wr (i + 1)))]) rfl rfl rfl rfl (Rn.goto rfl (h.1 q20)))) (fun q20 => (Rn.aload_n (pc2 := 38) rfl rfl rfl (Rn.iload (pc2 := 40) rfl rfl rfl (Rn.iload_n (pc2 := 41) rfl rfl rfl (Rn.ivir (as := [vi i, vi num]) (r := []) (ls2 := [some (vr 3 0), some (vi i), some (vi num)]) (f := 3) (i := 0) rfl rfl rfl rfl rfl rfl rfl (h.2 q20)))))))

theorem k105_44 {fs : List fr} {I : IT} {cc : Nat → Option Nat} {n c z : Nat} {out : oP} {b : Nat} {name : Int} {num : Int} {found : Int} {i : Int} {v : Int} (h : ((v = (-1)) → (Rn 105 6 [some (vr 3 0), some (vr 5 b), some (vi name), some (vi num), some (vi found), some (vi (wr (i + 1)))] [] (fs) I (Cs cc) n c z out)) ∧ (¬ (v = (-1)) → (((found = (-1)) → (Rn 105 6 [some (vr 3 0), some (vr 5 b), some (vi name), some (vi num), some (vi i), some (vi (wr (i + 1)))] [] (fs) I (Cs cc) n c z out)) ∧ (¬ (found = (-1)) → (Rf (Sum.inl (some (vi (-2)))) fs I (Cs cc) n c z out))))) : Rn 105 44 [some (vr 3 0), some (vr 5 b), some (vi name), some (vi num), some (vi found), some (vi i)] [vi v] (fs) I (Cs cc) n c z out :=
  (Rn.iconst (pc2 := 45) rfl rfl (Rn.ic_eq (pc2 := 48) rfl rfl (fun q21 => (Rn.iinc (pc2 := 64) (ls2 := [some (vr 3 0), some (vr 5 b), some (vi name), some (vi num), some (vi found), some (vi (wr (i + 1)))]) rfl rfl rfl rfl (Rn.goto rfl (h.1 q21)))) (fun q21 => (Rn.iload (pc2 := 50) rfl rfl rfl (Rn.iconst (pc2 := 51) rfl rfl (Rn.ic_eq (pc2 := 54) rfl rfl (fun q22 => (Rn.iload (pc2 := 59) rfl rfl rfl (Rn.istore (pc2 := 61) (ls2 := [some (vr 3 0), some (vr 5 b), some (vi name), some (vi num), some (vi i), some (vi i)]) rfl rfl rfl (Rn.iinc (pc2 := 64) (ls2 := [some (vr 3 0), some (vr 5 b), some (vi name), some (vi num), some (vi i), some (vi (wr (i + 1)))]) rfl rfl rfl rfl (Rn.goto rfl ((h.2 q21).1 q22)))))) (fun q22 => (Rn.bipush (pc2 := 56) rfl rfl (Rn.iret rfl rfl ((h.2 q21).2 q22))))))))))

theorem c_bearer_l {fs : List fr} {I S : IT} {cc : Nat → Option Nat} {n c z : Nat} {out : oP} {p T : Int} {b : Nat} (RB : RBs b I S) (hb : b < 2) (RGh : RG I S) (R : RS I S) (V : VS S p) (W : VN S T) (r0 : I 3 0 0 = S 27 0 4) {name num : Int} (hn0 : 0 ≤ name) (hn1 : name < 30) (h : Rf (Sum.inl (some (vi (bf S name num (S 27 0 4).toNat)))) fs I (Cs cc) n c z out) : ∀ d k : Nat, k + d = (S 27 0 4).toNat → ¬ bf S name num k = -2 → Rn 105 6 [some (vr 3 0), some (vr 5 b), some (vi name), some (vi num), some (vi (bf S name num k)), some (vi (k : Int))] [] fs I (Cs cc) n c z out := by
  obtain ⟨w1, w2, w3, w4, w5⟩ := W
  intro d
  induction d with
  | zero =>
    intro k hk h2
    refine k105_6 ⟨fun h1 => by rw [r0] at h1; omega, fun h1 => ?_⟩
    rw [show k = (S 27 0 4).toNat by omega]; exact h
  | succ d ih =>
    intro k hk h2
    have hnx := bn_in ⟨w1, w2, w3, w4, w5⟩ k (nn S) (Nat.le_refl _)
    have hbr := (RB k (by omega)).1
    have nx : ¬ bf S name num (k + 1) = -2 → Rn 105 6 [some (vr 3 0), some (vr 5 b), some (vi name), some (vi num), some (vi (bf S name num (k + 1))), some (vi ((k + 1 : Nat) : Int))] [] fs I (Cs cc) n c z out := fun g => ih (k + 1) (by omega) g
    refine k105_6 ⟨fun h1 => ⟨fun h3 => ⟨by omega, ?_⟩, fun h3 => by omega⟩, fun h1 => by rw [r0] at h1; omega⟩
    rw [Int.toNat_natCast, hbr]
    refine c_same RGh (Rf.sm (pc2 := 34) rfl (k105_34 ⟨fun h3 => ?_, fun h3 => ?_⟩))
    · have e : bf S name num (k + 1) = bf S name num k := if_neg (fun g => by
        unfold smv at h3
        rw [if_pos ⟨g.1.1, hnx.2, hn0, hn1, g.1.2⟩] at h3
        cases h3)
      rw [wrI (by omega) (by omega), nS, ← e]
      exact nx (by rw [e]; exact h2)
    · have h4 : 0 ≤ bn S k (nn S) ∧ S 36 0 (bn S k (nn S)).toNat = S 36 0 name.toNat := by
        unfold smv at h3
        by_cases g : 0 ≤ bn S k (nn S) ∧ bn S k (nn S) < 30 ∧ 0 ≤ name ∧ name < 30 ∧ S 36 0 (bn S k (nn S)).toNat = S 36 0 name.toNat
        · exact ⟨g.1, g.2.2.2.2⟩
        · rw [if_neg g] at h3; exact absurd rfl h3
      have e9 : plat S (k : Int) num = plc S k num := by
        unfold plat; rw [if_pos ⟨by omega, by omega⟩]; rfl
      refine c_plat R V r0 w4 (Rf.sm (pc2 := 44) rfl ?_)
      rw [e9]
      refine k105_44 ⟨fun h5 => ?_, fun h5 => ⟨fun h6 => ?_, fun h6 => ?_⟩⟩
      · have e : bf S name num (k + 1) = bf S name num k := if_neg (fun g => g.2 h5)
        rw [wrI (by omega) (by omega), nS, ← e]
        exact nx (by rw [e]; exact h2)
      · have e : bf S name num (k + 1) = (k : Int) := by
          show (if _ then _ else _) = _
          rw [if_pos ⟨h4, h5⟩, if_pos h6]
        have nx9 := nx (by rw [e]; omega)
        rw [e] at nx9
        rw [wrI (by omega) (by omega), nS]
        exact nx9
      · have e : bf S name num (k + 1) = -2 := by
          show (if _ then _ else _) = _
          rw [if_pos ⟨h4, h5⟩, if_neg h6]
        have e2 := bf_two e d
        rw [show k + 1 + d = (S 27 0 4).toNat by omega] at e2
        rw [e2] at h; exact h
theorem c_bearer {fs : List fr} {I S : IT} {cc : Nat → Option Nat} {n c z : Nat} {out : oP} {p T : Int} {b : Nat} (RB : RBs b I S) (hb : b < 2) (RGh : RG I S) (R : RS I S) (V : VS S p) (W : VN S T) (r0 : I 3 0 0 = S 27 0 4) {name num : Int} (hn0 : 0 ≤ name) (hn1 : name < 30) (h : Rf (Sum.inl (some (vi (bf S name num (S 27 0 4).toNat)))) fs I (Cs cc) n c z out) : Rn 105 0 [some (vr 3 0), some (vr 5 b), some (vi name), some (vi num), none, none] [] fs I (Cs cc) n c z out :=
  k105_0 (c_bearer_l RB hb RGh R V W r0 hn0 hn1 h (S 27 0 4).toNat 0 (by omega) (fun g => by cases g))

