theorem RC_snd0 {I I2 S : IT} {cc : Nat → Option Nat} (R : RC I cc S) (V : VC S) {q : Nat} (hq : (q : Int) < S 27 0 18) (hb : ¬ bst S q = -1) (h16 : ∀ i j, I2 16 i j = I 16 i j) (h20 : ∀ x j, I2 20 x j = if x = q ∧ j = 6 then thr9 S q (bst S q).toNat else if x = q ∧ j = 5 then bst S q else if x = q ∧ j = 2 then 1 else I 20 x j) (h19 : ∀ x j, I2 19 x j = if x = (bst S q).toNat ∧ j = 2 then wr (thr9 S q (bst S q).toNat + 10) else if x = (bst S q).toNat ∧ j = 0 then S 44 0 q else I 19 x j) : RC I2 (fun x => if x = (bst S q).toNat then some q else cc x) (snd0 S q (bst S q)) := by
  obtain ⟨b0, b1, b2, _⟩ := bst_in V hb
  obtain ⟨v1, v2, v3, v4, v5, v6, v7, v8⟩ := V
  obtain ⟨r1, r2, r3, r4⟩ := R
  have e27 : ∀ j, snd0 S q (bst S q) 27 0 j = S 27 0 j := fun j => s_no (by decide) (by decide) (by decide) (by decide) (by decide) (by decide)
  have e40 : ∀ j, snd0 S q (bst S q) 40 0 j = S 40 0 j := fun j => s_no (by decide) (by decide) (by decide) (by decide) (by decide) (by decide)
  have e41 : ∀ j, snd0 S q (bst S q) 41 0 j = S 41 0 j := fun j => s_no (by decide) (by decide) (by decide) (by decide) (by decide) (by decide)
  have e43 : ∀ j, snd0 S q (bst S q) 43 0 j = S 43 0 j := fun j => s_no (by decide) (by decide) (by decide) (by decide) (by decide) (by decide)
  have e44 : ∀ j, snd0 S q (bst S q) 44 0 j = S 44 0 j := fun j => s_no (by decide) (by decide) (by decide) (by decide) (by decide) (by decide)
  have e47 : ∀ j, snd0 S q (bst S q) 47 0 j = S 47 0 j := fun j => s_no (by decide) (by decide) (by decide) (by decide) (by decide) (by decide)
  refine ⟨by rw [h16, e27]; exact r1, by rw [h16, e27]; exact r2, fun k hk => ?_, fun x hx => ?_⟩
  · obtain ⟨c1, c2, c3⟩ := r3 k hk
    by_cases g : k = (bst S q).toNat
    · subst g
      have m2 : I2 19 (bst S q).toNat 2 = wr (thr9 S q (bst S q).toNat + 10) := by rw [h19, if_pos ⟨rfl, rfl⟩]
      have m0 : I2 19 (bst S q).toNat 0 = S 44 0 q := by rw [h19, if_neg (by omega), if_pos ⟨rfl, rfl⟩]
      refine ⟨by rw [m2, s38, if_pos rfl], fun _ => ⟨by rw [m0, s37, if_pos rfl], ?_⟩, fun h => by rw [e27] at h; omega⟩
      dsimp only
      rw [s39, if_pos rfl, if_pos rfl]; rfl
    · have mm : ∀ j, I2 19 k j = I 19 k j := fun j => by rw [h19, if_neg (fun h => g h.1), if_neg (fun h => g h.1)]
      dsimp only
      rw [mm, mm, s38, if_neg g, s37, if_neg g, s39, if_neg g, e27, if_neg g]
      exact ⟨c1, c2, c3⟩
  · obtain ⟨c1, c2⟩ := r4 x hx
    rw [e27]
    by_cases g : x = q
    · subst g
      have m2 : I2 20 x 2 = 1 := by rw [h20, if_neg (by omega), if_neg (by omega), if_pos ⟨rfl, rfl⟩]
      have m5 : I2 20 x 5 = bst S x := by rw [h20, if_neg (by omega), if_pos ⟨rfl, rfl⟩]
      have m6 : I2 20 x 6 = thr9 S x (bst S x).toNat := by rw [h20, if_pos ⟨rfl, rfl⟩]
      have mm : ∀ j, ¬ j = 2 → ¬ j = 5 → ¬ j = 6 → I2 20 x j = I 20 x j := fun j g2 g5 g6 => by rw [h20, if_neg (fun h => g6 h.2), if_neg (fun h => g5 h.2), if_neg (fun h => g2 h.2)]
      refine ⟨fun h => ?_, fun h => absurd hq h⟩
      obtain ⟨d0, d1, d2, d3, d4, d5, d6, d7⟩ := c1 h
      rw [m2, m5, m6, mm 0 (by decide) (by decide) (by decide), mm 1 (by decide) (by decide) (by decide), mm 3 (by decide) (by decide) (by decide), mm 4 (by decide) (by decide) (by decide), mm 7 (by decide) (by decide) (by decide), s42, s45, s46, e40, e41, e43, e44, e47, if_pos rfl, if_pos rfl, if_pos rfl]
      exact ⟨d0, d1, rfl, d3, d4, rfl, rfl, d7⟩
    · have mm : ∀ j, I2 20 x j = I 20 x j := fun j => by rw [h20, if_neg (fun h => g h.1), if_neg (fun h => g h.1), if_neg (fun h => g h.1)]
      simp only [mm]
      rw [s42, s45, s46, e40, e41, e43, e44, e47, if_neg g, if_neg g, if_neg g]
      exact ⟨c1, c2⟩
theorem V0_snd1 {S : IT} {q : Nat} (v : V0 S) : V0 (snd1 S q) := fun a b ha hb => by rw [snd1_no (by decide) (by decide) (by decide) (by decide) (by decide) (by decide)]; exact v a b ha hb
theorem c_sends_l {fs : List fr} {n c z : Nat} {out : oP} {now : Int} : ∀ (d q : Nat) (I : IT) (cc : Nat → Option Nat) (S : IT) (x4 : Option av), RC I cc S → RA I S → VC S → V0 S → now = S 27 0 0 → q + d = (S 27 0 18).toNat → (∀ I2 cc2, RC I2 cc2 (sndF d q S) → (∀ f i j, ¬ f = 19 → ¬ f = 20 → I2 f i j = I f i j) → Rf (Sum.inl none) fs I2 (Cs cc2) n c z out) → Rn 125 2 [some (vr 16 0), some (vr 1 0), some (vi now), some (vi (q : Int)), x4] [] fs I (Cs cc) n c z out := by
  intro d
  induction d with
  | zero =>
    intro q I cc S x4 R RAh V v0 hnow hq h
    have r2 := R.2.1
    exact k125_2 ⟨fun h1 => by omega, fun h1 => h I cc R (fun _ _ _ _ _ => rfl)⟩
  | succ d ih =>
    intro q I cc S x4 R RAh V v0 hnow hq h
    have v3 := V.2.2.1
    have v4 := V.2.2.2.1
    have r2 := R.2.1
    have hq2 : (q : Int) < S 27 0 18 := by omega
    obtain ⟨d0, d1, d2, d3, d4, d5, d6, d7⟩ := (R.2.2.2 q (by omega)).1 hq2
    have e27 : ∀ j, snd1 S q 27 0 j = S 27 0 j := fun j => snd1_no (by decide) (by decide) (by decide) (by decide) (by decide) (by decide)
    have stay : ∀ x4, bst S q = -1 → Rn 125 2 [some (vr 16 0), some (vr 1 0), some (vi now), some (vi ((q + 1 : Nat) : Int)), x4] [] fs I (Cs cc) n c z out := fun x4 g => by
      refine ih (q + 1) I cc S x4 R RAh V v0 hnow (by omega) (fun I2 cc2 hR hI => h I2 cc2 ?_ hI)
      show RC I2 cc2 (sndF d (q + 1) (snd1 S q))
      rw [show snd1 S q = S from if_pos g]; exact hR
    refine k125_2 ⟨fun h1 => ⟨by omega, fun h2 => ?_, fun h2 => ?_⟩, fun h1 => by omega⟩
    · rw [Int.toNat_natCast] at h2 ⊢
      rw [d2] at h2
      have e : bst S q = nb S (S 44 0 q) (S 27 0 14).toNat := if_pos h2
      obtain ⟨u1, u2, _⟩ := V.2.2.2.2.2.2.2 q hq2
      have u1 := u1 h2
      rw [d4]
      refine c_near R RAh V v0 u1 u2 (Rf.sm (pc2 := 9) rfl (k126_9 ?_))
      rw [← e]
      refine ⟨fun h3 => ?_, fun h3 => ⟨fun h4 => ⟨?_, ?_⟩, fun h4 => ?_⟩⟩
      · have g : bst S q = -1 := by have := nb_in (S := S) (p := S 44 0 q) (S 27 0 14).toNat; omega
        refine Rf.nn (pc2 := 34) rfl (k125_34 ?_)
        rw [wrI (by omega) (by omega), nS]; exact stay _ g
      · have := R.1; have := V.2.1; omega
      · have hb : ¬ bst S q = -1 := by omega
        obtain ⟨b0, b1, b2, b3⟩ := bst_in V hb
        obtain ⟨a1, a2, _⟩ := V.2.2.2.2.2.2.1 (bst S q).toNat (by omega)
        obtain ⟨t1, t2, _⟩ := R.2.2.1 (bst S q).toNat (by have := V.2.1; omega)
        obtain ⟨t2, _⟩ := t2 (by omega)
        have hfr : fr9 S (bst S q).toNat (S 44 0 q) < 1000000 := by
          have := (nb_ok (S := S) (p := S 44 0 q) (S 27 0 14).toNat (by rw [← e]; exact hb)).2
          rw [← e] at this; exact this
        rw [t2, show (up3 (up3 I 20 q 2 1) 20 q 5 (bst S q)) 20 q 4 = S 44 0 q by rw [up3_ati, if_neg (by omega), up3_ati, if_neg (by omega)]; exact d4]
        have hbt : btw S (S 37 0 (bst S q).toNat) (S 44 0 q) = fr9 S (bst S q).toNat (S 44 0 q) := btw_fr a1 a2 u1 u2 hfr
        refine c_btw (RA_ag RAh (fun i j => by rw [up3_nf (by decide), up3_nf (by decide)]) (fun i j => by rw [up3_nf (by decide), up3_nf (by decide)])) V.2.2.2.2.2.1 (Rf.sm (pc2 := 59) rfl ?_)
        rw [hbt]
        have key : ∀ (I2 : IT), (∀ f i j, ¬ f = 19 → ¬ f = 20 → I2 f i j = I f i j) → (∀ x j, I2 20 x j = if x = q ∧ j = 6 then thr9 S q (bst S q).toNat else if x = q ∧ j = 5 then bst S q else if x = q ∧ j = 2 then 1 else I 20 x j) → (∀ x j, I2 19 x j = if x = (bst S q).toNat ∧ j = 2 then wr (thr9 S q (bst S q).toNat + 10) else if x = (bst S q).toNat ∧ j = 0 then S 44 0 q else I 19 x j) → Rf (Sum.inl none) ((125, 31, [some (vr 16 0), some (vr 1 0), some (vi now), some (vi (q : Int)), some (vr 20 q)], []) :: fs) I2 (up3 (Cs cc) 19 (bst S q).toNat 1 (some (20, q))) n c z out := by
          intro I2 hI hI20 hI19
          refine Rf.nn (pc2 := 34) rfl ?_
          rw [show up3 (Cs cc) 19 (bst S q).toNat 1 (some (20, q)) = Cs (fun x => if x = (bst S q).toNat then some q else cc x) from Cs_up (v := some q)]
          refine k125_34 ?_
          rw [wrI (by omega) (by omega), nS]
          have hR := RC_snd0 R V hq2 hb (fun i j => hI 16 i j (by decide) (by decide)) hI20 hI19
          rw [← show snd1 S q = snd0 S q (bst S q) from if_neg hb] at hR
          refine ih (q + 1) I2 _ (snd1 S q) _ hR (RA_agS (RA_ag RAh (fun i j => hI 1 i j (by decide) (by decide)) (fun i j => hI 2 i j (by decide) (by decide))) (e27 1) (e27 2) (fun i j => snd1_no (by decide) (by decide) (by decide) (by decide) (by decide) (by decide))) (VC_snd1 V hq2) (V0_snd1 v0) (by rw [e27]; exact hnow) (by rw [e27]; omega) (fun I3 cc3 hR3 hI3 => h I3 cc3 hR3 (fun f i j g1 g2 => (hI3 f i j g1 g2).trans (hI f i j g1 g2)))
        have hth : ∀ w : Int, (if S 47 0 q = 0 then (0 : Int) else 1) = w → wr (wr (now + fr9 S (bst S q).toNat (S 44 0 q)) + w) = thr9 S q (bst S q).toNat := fun w hw => by unfold thr9; rw [hw, hnow]
        have e4 : (up3 (up3 (up3 I 20 q 2 1) 20 q 5 (bst S q)) 20 q 6 (thr9 S q (bst S q).toNat)) 20 q 4 = S 44 0 q := by
          rw [up3_ati, if_neg (by omega), up3_ati, if_neg (by omega), up3_ati, if_neg (by omega)]; exact d4
        refine k126_59 ⟨fun h5 => ?_, fun h5 => ?_⟩
        · have hw := hth 0 (if_pos (by simp only [up3_ati] at h5; rw [if_neg (by omega), if_neg (by omega), d7] at h5; exact h5))
          rw [hw, up3_eq, e4]
          refine key _ (fun f i j g1 g2 => ?_) (fun x j => ?_) (fun x j => ?_)
          · simp only [up3_nf g1, up3_nf g2]
          · rw [up3_nf (by decide), up3_nf (by decide), up3_ati, up3_ati, up3_ati]
          · rw [up3_ati, up3_ati, up3_nf (by decide), up3_nf (by decide), up3_nf (by decide)]
        · have hw := hth 1 (if_neg (by simp only [up3_ati] at h5; rw [if_neg (by omega), if_neg (by omega), d7] at h5; exact h5))
          rw [hw, up3_eq, e4]
          refine key _ (fun f i j g1 g2 => ?_) (fun x j => ?_) (fun x j => ?_)
          · simp only [up3_nf g1, up3_nf g2]
          · rw [up3_nf (by decide), up3_nf (by decide), up3_ati, up3_ati, up3_ati]
          · rw [up3_ati, up3_ati, up3_nf (by decide), up3_nf (by decide), up3_nf (by decide)]
      · have hb : ¬ bst S q = -1 := by omega
        obtain ⟨_, b1, b2, _⟩ := bst_in V hb
        have := R.1
        omega
    · rw [Int.toNat_natCast] at h2 ⊢
      rw [d2] at h2
      rw [wrI (by omega) (by omega), nS]; exact stay _ (if_neg h2)

