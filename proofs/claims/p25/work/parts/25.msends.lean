theorem wrN {k : Nat} (h : k ≤ 2147483647) : wr ((k : Nat) : Int) = (k : Int) := wrI (by omega) (by omega)
theorem up3_at {β : Type} {F : Nat → Nat → Nat → β} {f i a x : Nat} {v : β} : up3 F f i a v f i x = if x = a then v else F f i x := by
  show (if _ then _ else _) = _
  by_cases h : x = a
  · rw [if_pos ⟨rfl, rfl, h⟩, if_pos h]
  · rw [if_neg (fun g => h g.2.2), if_neg h]
theorem up3_ati {β : Type} {F : Nat → Nat → Nat → β} {f i a x j : Nat} {v : β} : up3 F f i a v f x j = if x = i ∧ j = a then v else F f x j := by
  show (if _ then _ else _) = _
  by_cases h : x = i ∧ j = a
  · rw [if_pos ⟨rfl, h.1, h.2⟩, if_pos h]
  · rw [if_neg (fun g => h g.2), if_neg h]
theorem up3_nf {β : Type} {F : Nat → Nat → Nat → β} {f i a f2 i2 x : Nat} {v : β} (h : ¬ f2 = f) : up3 F f i a v f2 i2 x = F f2 i2 x := if_neg (fun g => h g.1)
theorem s42 {S : IT} {q x : Nat} {b : Int} : snd0 S q b 42 0 x = if x = q then 1 else S 42 0 x := by
  unfold snd0
  rw [up3_nf (by decide), up3_nf (by decide), up3_nf (by decide), up3_nf (by decide), up3_nf (by decide), up3_at]
theorem s45 {S : IT} {q x : Nat} {b : Int} : snd0 S q b 45 0 x = if x = q then b else S 45 0 x := by
  unfold snd0
  rw [up3_nf (by decide), up3_nf (by decide), up3_nf (by decide), up3_nf (by decide), up3_at, up3_nf (by decide)]
theorem s46 {S : IT} {q x : Nat} {b : Int} : snd0 S q b 46 0 x = if x = q then thr9 S q b.toNat else S 46 0 x := by
  unfold snd0
  rw [up3_nf (by decide), up3_nf (by decide), up3_nf (by decide), up3_at, up3_nf (by decide), up3_nf (by decide)]
theorem s38 {S : IT} {q x : Nat} {b : Int} : snd0 S q b 38 0 x = if x = b.toNat then wr (thr9 S q b.toNat + 10) else S 38 0 x := by
  unfold snd0
  rw [up3_nf (by decide), up3_nf (by decide), up3_at, up3_nf (by decide), up3_nf (by decide), up3_nf (by decide)]
theorem s37 {S : IT} {q x : Nat} {b : Int} : snd0 S q b 37 0 x = if x = b.toNat then S 44 0 q else S 37 0 x := by
  unfold snd0
  rw [up3_nf (by decide), up3_at, up3_nf (by decide), up3_nf (by decide), up3_nf (by decide), up3_nf (by decide)]
theorem s39 {S : IT} {q x : Nat} {b : Int} : snd0 S q b 39 0 x = if x = b.toNat then (q : Int) else S 39 0 x := by
  unfold snd0
  rw [up3_at, up3_nf (by decide), up3_nf (by decide), up3_nf (by decide), up3_nf (by decide), up3_nf (by decide)]
theorem s_no {S : IT} {q f i j : Nat} {b : Int} (h1 : ¬ f = 42) (h2 : ¬ f = 45) (h3 : ¬ f = 46) (h4 : ¬ f = 38) (h5 : ¬ f = 37) (h6 : ¬ f = 39) : snd0 S q b f i j = S f i j := by
  unfold snd0
  rw [up3_nf h6, up3_nf h5, up3_nf h4, up3_nf h3, up3_nf h2, up3_nf h1]
theorem bst_in {S : IT} (V : VC S) {q : Nat} (hb : ¬ bst S q = -1) : S 42 0 q = 0 ∧ 0 ≤ bst S q ∧ bst S q < S 27 0 14 ∧ bst S q = nb S (S 44 0 q) (S 27 0 14).toNat := by
  have v1 := V.1
  unfold bst at *
  by_cases h : S 42 0 q = 0
  · rw [if_pos h] at *
    have := nb_in (S := S) (p := S 44 0 q) (S 27 0 14).toNat
    exact ⟨h, by omega, by omega, rfl⟩
  · rw [if_neg h] at hb; exact absurd rfl hb
theorem VC_snd1 {S : IT} (V : VC S) {q : Nat} (hq : (q : Int) < S 27 0 18) : VC (snd1 S q) := by
  by_cases hb : bst S q = -1
  · rw [show snd1 S q = S from if_pos hb]; exact V
  · obtain ⟨b0, b1, b2, _⟩ := bst_in V hb
    rw [show snd1 S q = snd0 S q (bst S q) from if_neg hb]
    obtain ⟨v1, v2, v3, v4, v5, v6, v7, v8⟩ := V
    have e27 : ∀ j, snd0 S q (bst S q) 27 0 j = S 27 0 j := fun j => s_no (by decide) (by decide) (by decide) (by decide) (by decide) (by decide)
    have e44 : ∀ j, snd0 S q (bst S q) 44 0 j = S 44 0 j := fun j => s_no (by decide) (by decide) (by decide) (by decide) (by decide) (by decide)
    have e40 : ∀ j, snd0 S q (bst S q) 40 0 j = S 40 0 j := fun j => s_no (by decide) (by decide) (by decide) (by decide) (by decide) (by decide)
    have e47 : ∀ j, snd0 S q (bst S q) 47 0 j = S 47 0 j := fun j => s_no (by decide) (by decide) (by decide) (by decide) (by decide) (by decide)
    obtain ⟨u1, u2, _⟩ := v8 q hq
    have u1 := u1 b0
    refine ⟨by rw [e27]; exact v1, by rw [e27]; exact v2, by rw [e27]; exact v3, by rw [e27]; exact v4, by rw [e27]; exact v5, by rw [e27]; exact v6, fun k hk => ?_, fun x hx => ?_⟩
    · rw [e27] at hk
      obtain ⟨a1, a2, a3, a4⟩ := v7 k hk
      rw [s37, s39, e27, e27]
      by_cases g : k = (bst S q).toNat
      · rw [if_pos g, if_pos g]; omega
      · rw [if_neg g, if_neg g]; exact ⟨a1, a2, a3, a4⟩
    · rw [e27] at hx
      obtain ⟨a1, a2, a3, a4, a5⟩ := v8 x hx
      rw [s42, e44, e27, e40, e47]
      refine ⟨fun g => ?_, a2, a3, a4, a5⟩
      by_cases g2 : x = q
      · subst g2; exact u1
      · rw [if_neg g2] at g; exact a1 g
theorem m_sends_l {fs : List fr} {cc : Nat → Option Nat} {n c z : Nat} {out : oP} : ∀ (d q : Nat) (I : IT) (x2 x3 x4 x5 : Option av), VC I → q + d = (I 27 0 18).toNat → Rf (Sum.inl none) fs (sndF d q I) (Cs cc) n c z out → Rn 55 2 [some (vr 27 0), some (vi (q : Int)), x2, x3, x4, x5] [] fs I (Cs cc) n c z out := by
  intro d
  induction d with
  | zero =>
    intro q I x2 x3 x4 x5 V hq h
    exact k55_2 ⟨fun h1 => by omega, fun h1 => h⟩
  | succ d ih =>
    intro q I x2 x3 x4 x5 V hq h
    have v3 := V.2.2.1
    have hq2 : (q : Int) < I 27 0 18 := by omega
    have nx := fun x2 x3 x4 x5 => ih (q + 1) (snd1 I q) x2 x3 x4 x5 (VC_snd1 V hq2) (by rw [snd1_no (by decide) (by decide) (by decide) (by decide) (by decide) (by decide)]; omega) h
    have hq40 := V.2.2.2.1
    have main : ∀ k x4 x5, Rn 55 126 [some (vr 27 0), some (vi (q : Int)), some (vi (bst I q)), some (vi k), x4, x5] [] fs I (Cs cc) n c z out := by
      intro k x4 x5
      refine k55_126 ⟨fun h1 => ?_, fun h1 => ?_⟩
      · rw [wrI (by omega) (by omega), nS]
        have nx1 := nx (some (vi (bst I q))) (some (vi k)) x4 x5
        rw [show snd1 I q = I from if_pos h1] at nx1
        exact nx1
      · obtain ⟨b0, b1, b2, _⟩ := bst_in V h1
        have V0 := V
        obtain ⟨v1, v2, v3, v4, v5, v6, v7, v8⟩ := V
        obtain ⟨a1, a2, _⟩ := v7 (bst I q).toNat (by omega)
        obtain ⟨u1, u2, _⟩ := v8 q hq2
        have u1 := u1 b0
        have nx1 := nx (some (vi (bst I q))) (some (vi k)) x4 x5
        rw [show snd1 I q = snd0 I q (bst I q) from if_neg h1] at nx1
        simp (disch := omega) only [wrI (x := 12 * _), wrI (x := 12 * _ + _), wrI (x := (q : Int) + 1), wrN, Int.toNat_natCast, nS, tn2, up3_eq]
        refine ⟨by omega, by omega, by omega, fun h2 => ?_, fun h2 => ?_⟩
        · unfold snd0 thr9 fr9 at nx1
          rw [if_pos h2] at nx1
          exact nx1
        · unfold snd0 thr9 fr9 at nx1
          rw [if_neg h2] at nx1
          exact nx1
    refine k55_2 ⟨fun h1 => ?_, fun h1 => by omega⟩
    by_cases g : I 42 0 q = 0
    · have e : bst I q = nb I (I 44 0 q) (I 27 0 14).toNat := if_pos g
      rw [e] at main
      exact m_best V hq2 g main (I 27 0 14).toNat 0 x4 x5 (by have := V.1; omega)
    · have e : bst I q = -1 := if_neg g
      rw [e] at main
      refine k55_14 ⟨fun h2 => ⟨by omega, fun h3 => ?_, fun h3 => main _ _ _⟩, fun h2 => main _ _ _⟩
      rw [Int.toNat_natCast] at h3
      exact absurd h3 g
theorem m_sends {fs : List fr} {I : IT} {cc : Nat → Option Nat} {n c z : Nat} {out : oP} (V : VC I) (h : Rf (Sum.inl none) fs (sends I) (Cs cc) n c z out) : Rn 55 0 [some (vr 27 0), none, none, none, none, none] [] fs I (Cs cc) n c z out :=
  k55_0 (m_sends_l (I 27 0 18).toNat 0 I none none none none V (by omega) h)

