def fre1 (S : IT) (k : Nat) : IT := if ¬ S 39 0 k = -1 ∧ S 38 0 k ≤ S 27 0 0 then up3 (up3 S 42 0 (S 39 0 k).toNat 2) 39 0 k (-1) else S
def freF : Nat → Nat → IT → IT
  | 0, _, S => S
  | d + 1, k, S => freF d (k + 1) (fre1 S k)
theorem fre1_no {S : IT} {k f i j : Nat} (h1 : ¬ f = 42) (h2 : ¬ f = 39) : fre1 S k f i j = S f i j := by
  unfold fre1
  split
  · rw [up3_nf h2, up3_nf h1]
  · rfl
theorem freF_no {f i j : Nat} (h1 : ¬ f = 42) (h2 : ¬ f = 39) : ∀ d k S, freF d k S f i j = S f i j := by
  intro d
  induction d with
  | zero => intro k S; rfl
  | succ d ih => intro k S; exact (ih (k + 1) (fre1 S k)).trans (fre1_no h1 h2)
theorem VC_fre1 {S : IT} (V : VC S) {k : Nat} (hk : (k : Int) < S 27 0 14) : VC (fre1 S k) := by
  by_cases g : ¬ S 39 0 k = -1 ∧ S 38 0 k ≤ S 27 0 0
  · rw [show fre1 S k = _ from if_pos g]
    obtain ⟨v1, v2, v3, v4, v5, v6, v7, v8⟩ := V
    refine ⟨v1, v2, v3, v4, v5, v6, fun x hx => ?_, fun x hx => ?_⟩
    · obtain ⟨a1, a2, a3, a4⟩ := v7 x hx
      have e : up3 (up3 S 42 0 (S 39 0 k).toNat 2) 39 0 k (-1) 39 0 x = if x = k then -1 else S 39 0 x := by rw [up3_at, up3_nf (by decide)]
      rw [e]
      refine ⟨a1, a2, ?_, ?_⟩
      · split
        · omega
        · exact a3
      · split
        · show (-1 : Int) < S 27 0 18; omega
        · exact a4
    · obtain ⟨a1, a2, a3, a4, a5⟩ := v8 x hx
      have e : up3 (up3 S 42 0 (S 39 0 k).toNat 2) 39 0 k (-1) 42 0 x = if x = (S 39 0 k).toNat then 2 else S 42 0 x := by rw [up3_nf (by decide), up3_at]
      refine ⟨fun h => ?_, a2, a3, a4, a5⟩
      rw [e] at h
      by_cases g2 : x = (S 39 0 k).toNat
      · rw [if_pos g2] at h; cases h
      · rw [if_neg g2] at h; exact a1 h
  · rw [show fre1 S k = S from if_neg g]; exact V
theorem RC_fre {I I2 S : IT} {cc : Nat → Option Nat} (R : RC I cc S) (V : VC S) {k u : Nat} (hk : (k : Int) < S 27 0 14) (hu : S 39 0 k = (u : Int)) (h16 : ∀ i j, I2 16 i j = I 16 i j) (h19 : ∀ i j, I2 19 i j = I 19 i j) (h20 : ∀ x j, I2 20 x j = if x = u ∧ j = 2 then 2 else I 20 x j) : RC I2 (fun x => if x = k then none else cc x) (up3 (up3 S 42 0 (S 39 0 k).toNat 2) 39 0 k (-1)) := by
  obtain ⟨r1, r2, r3, r4⟩ := R
  have e39 : ∀ x, up3 (up3 S 42 0 (S 39 0 k).toNat 2) 39 0 k (-1) 39 0 x = if x = k then -1 else S 39 0 x := fun x => by rw [up3_at, up3_nf (by decide)]
  have e42 : ∀ x, up3 (up3 S 42 0 (S 39 0 k).toNat 2) 39 0 k (-1) 42 0 x = if x = u then 2 else S 42 0 x := fun x => by rw [up3_nf (by decide), up3_at, hu, Int.toNat_natCast]
  have eno : ∀ f i j, ¬ f = 42 → ¬ f = 39 → up3 (up3 S 42 0 (S 39 0 k).toNat 2) 39 0 k (-1) f i j = S f i j := fun f i j g1 g2 => by rw [up3_nf g2, up3_nf g1]
  have e27 := fun j => eno 27 0 j (by decide) (by decide)
  refine ⟨by rw [h16, e27]; exact r1, by rw [h16, e27]; exact r2, fun x hx => ?_, fun x hx => ?_⟩
  · obtain ⟨c1, c2, c3⟩ := r3 x hx
    rw [h19, h19, e27, eno 38 0 x (by decide) (by decide), eno 37 0 x (by decide) (by decide), e39]
    dsimp only
    by_cases g : x = k
    · rw [if_pos g, if_pos g]
      exact ⟨c1, fun h => ⟨(c2 h).1, rfl⟩, fun _ => rfl⟩
    · rw [if_neg g, if_neg g]
      exact ⟨c1, c2, c3⟩
  · obtain ⟨c1, c2⟩ := r4 x hx
    have m2 : I2 20 x 2 = if x = u then 2 else I 20 x 2 := by
      rw [h20]
      by_cases g : x = u
      · rw [if_pos ⟨g, rfl⟩, if_pos g]
      · rw [if_neg (fun h => g h.1), if_neg g]
    have mm : ∀ j, ¬ j = 2 → I2 20 x j = I 20 x j := fun j g => by rw [h20, if_neg (fun h => g h.2)]
    have hul : (u : Int) < S 27 0 18 := by have := (V.2.2.2.2.2.2.1 k hk).2.2.2; omega
    rw [e27, m2, e42, mm 0 (by decide), mm 1 (by decide), mm 3 (by decide), mm 4 (by decide), mm 5 (by decide), mm 6 (by decide), mm 7 (by decide), eno 40 0 x (by decide) (by decide), eno 41 0 x (by decide) (by decide), eno 43 0 x (by decide) (by decide), eno 44 0 x (by decide) (by decide), eno 45 0 x (by decide) (by decide), eno 46 0 x (by decide) (by decide), eno 47 0 x (by decide) (by decide)]
    by_cases g : x = u
    · rw [if_pos g, if_pos g]
      refine ⟨fun h => ?_, fun h => absurd (by rw [g]; exact hul) h⟩
      obtain ⟨d0, d1, d2, d3, d4, d5, d6, d7⟩ := c1 h
      exact ⟨d0, d1, rfl, d3, d4, d5, d6, d7⟩
    · rw [if_neg g, if_neg g]
      exact ⟨c1, c2⟩

theorem k124_0 {fs : List fr} {I : IT} {cc : Nat → Option Nat} {n c z : Nat} {out : oP} {now : Int} (h : Rn 124 4 [some (vr 16 0), some (vi now), some (vi 0), some (vi 0), none, none] [] (fs) I (Cs cc) n c z out) : Rn 124 0 [some (vr 16 0), some (vi now), none, none, none, none] [] (fs) I (Cs cc) n c z out :=
  (Rn.iconst (pc2 := 1) rfl rfl (Rn.istore_n (pc2 := 2) (ls2 := [some (vr 16 0), some (vi now), some (vi 0), none, none, none]) rfl rfl rfl (Rn.iconst (pc2 := 3) rfl rfl (Rn.istore_n (pc2 := 4) (ls2 := [some (vr 16 0), some (vi now), some (vi 0), some (vi 0), none, none]) rfl rfl rfl h))))

theorem k124_4 {fs : List fr} {I : IT} {cc : Nat → Option Nat} {n c z : Nat} {out : oP} {now : Int} {freed : Int} {i : Int} {x4 : Option av} {x5 : Option av} (h : ((i < (I 16 0 0)) → ((0 ≤ i ∧ i < 6) ∧ ((cc (Int.toNat i) = none → (Rn 124 4 [some (vr 16 0), some (vi now), some (vi freed), some (vi (wr (i + 1))), some (vr 19 (Int.toNat i)), some (vq none)] [] (fs) I (Cs cc) n c z out)) ∧ (∀ u18, cc (Int.toNat i) = some u18 → (((now < (I 19 (Int.toNat i) 2)) → (Rn 124 4 [some (vr 16 0), some (vi now), some (vi freed), some (vi (wr (i + 1))), some (vr 19 (Int.toNat i)), some (vr 20 u18)] [] (fs) I (Cs cc) n c z out)) ∧ (¬ (now < (I 19 (Int.toNat i) 2)) → (Rn 124 4 [some (vr 16 0), some (vi now), some (vi 1), some (vi (wr (i + 1))), some (vr 19 (Int.toNat i)), some (vr 20 u18)] [] (fs) (up3 I 20 u18 2 2) (up3 (Cs cc) 19 (Int.toNat i) 1 none) n c z out))))))) ∧ (¬ (i < (I 16 0 0)) → ((freed = 0 ∨ freed = 1) ∧ (Rf (Sum.inl (some (vi freed))) fs I (Cs cc) n c z out)))) : Rn 124 4 [some (vr 16 0), some (vi now), some (vi freed), some (vi i), x4, x5] [] (fs) I (Cs cc) n c z out :=
  (Rn.iload_n (pc2 := 5) rfl rfl rfl (Rn.aload_n (pc2 := 6) rfl rfl rfl (Rn.getI (pc2 := 9) rfl rfl rfl rfl (Rn.ic_ge (pc2 := 12) rfl rfl (fun q19 => (Rn.aload_n (pc2 := 13) rfl rfl rfl (Rn.getR (pc2 := 16) (q := (some (17, 0))) rfl rfl rfl rfl rfl (Rn.iload_n (pc2 := 17) rfl rfl rfl (Rn.aald (pc2 := 18) (L := 6) (q := (some (19, (Int.toNat i)))) rfl rfl rfl rfl (h.1 q19).1 rfl rfl (Rn.astore (pc2 := 20) (ls2 := [some (vr 16 0), some (vi now), some (vi freed), some (vi i), some (vr 19 (Int.toNat i)), x5]) rfl rfl rfl (Rn.aload (pc2 := 22) rfl rfl rfl (Rn.getR (pc2 := 25) (q := (Option.map (fun q => (20, q)) (cc (Int.toNat i)))) rfl rfl rfl rfl rfl (Rn.astore (pc2 := 27) (ls2 := [some (vr 16 0), some (vi now), some (vi freed), some (vi i), some (vr 19 (Int.toNat i)), some (vq (Option.map (fun q => (20, q)) (cc (Int.toNat i))))]) rfl rfl rfl (Rn.aload (pc2 := 29) rfl rfl rfl (optc (fun r9 => Rn 124 29 [some (vr 16 0), some (vi now), some (vi freed), some (vi i), some (vr 19 (Int.toNat i)), some (vq r9)] [vq r9] (fs) I (Cs cc) n c z out) (cc (Int.toNat i)) (fun q20 => (Rn.ifnullN rfl (Rn.iinc (pc2 := 58) (ls2 := [some (vr 16 0), some (vi now), some (vi freed), some (vi (wr (i + 1))), some (vr 19 (Int.toNat i)), some (vq none)]) rfl rfl rfl rfl (Rn.goto rfl ((h.1 q19).2.1 q20))))) (fun u18 q20 => (Rn.ifnullS (pc2 := 32) rfl rfl (Rn.aload (pc2 := 34) rfl rfl rfl (Rn.getI (pc2 := 37) rfl rfl rfl rfl (Rn.iload_n (pc2 := 38) rfl rfl rfl (Rn.ic_gt (pc2 := 41) rfl rfl (fun q21 => (Rn.iinc (pc2 := 58) (ls2 := [some (vr 16 0), some (vi now), some (vi freed), some (vi (wr (i + 1))), some (vr 19 (Int.toNat i)), some (vr 20 u18)]) rfl rfl rfl rfl (Rn.goto rfl (((h.1 q19).2.2 u18 q20).1 q21)))) (fun q21 => (Rn.aload (pc2 := 43) rfl rfl rfl (Rn.iconst (pc2 := 44) rfl rfl (Rn.putI (pc2 := 47) rfl rfl rfl rfl rfl (Rn.aload (pc2 := 49) rfl rfl rfl (Rn.aconst_null (pc2 := 50) rfl rfl (Rn.putR (pc2 := 53) rfl rfl rfl rfl (Rn.iconst (pc2 := 54) rfl rfl (Rn.istore_n (pc2 := 55) (ls2 := [some (vr 16 0), some (vi now), some (vi 1), some (vi i), some (vr 19 (Int.toNat i)), some (vr 20 u18)]) rfl rfl rfl (Rn.iinc (pc2 := 58) (ls2 := [some (vr 16 0), some (vi now), some (vi 1), some (vi (wr (i + 1))), some (vr 19 (Int.toNat i)), some (vr 20 u18)]) rfl rfl rfl rfl (Rn.goto rfl (((h.1 q19).2.2 u18 q20).2 q21))))))))))))))))))))))))))))) (fun q19 => (Rn.iload_n (pc2 := 62) rfl rfl rfl (Rn.zret rfl rfl (h.2 q19).1 (h.2 q19).2)))))))

theorem k69_0 {fs : List fr} {I : IT} {cc : Nat → Option Nat} {n c z : Nat} {out : oP}  (h : Rn 69 12 [some (vr 27 0), some (vi 0)] [] (fs) (up3 I 27 0 0 (wr ((I 27 0 0) + 1))) (Cs cc) n c z out) : Rn 69 0 [some (vr 27 0), none] [] (fs) I (Cs cc) n c z out :=
  (Rn.aload_n (pc2 := 1) rfl rfl rfl (Rn.dupR (pc2 := 2) rfl rfl (Rn.getI (pc2 := 5) rfl rfl rfl rfl (Rn.iconst (pc2 := 6) rfl rfl (Rn.iadd (pc2 := 7) rfl rfl (Rn.putI (pc2 := 10) rfl rfl rfl rfl rfl (Rn.iconst (pc2 := 11) rfl rfl (Rn.istore_n (pc2 := 12) (ls2 := [some (vr 27 0), some (vi 0)]) rfl rfl rfl h))))))))

theorem k69_12 {fs : List fr} {I : IT} {cc : Nat → Option Nat} {n c z : Nat} {out : oP} {k : Int} (h : ((k < (I 27 0 14)) → ((0 ≤ k ∧ k < 6) ∧ ((((I 39 0 (Int.toNat k)) = (-1)) → (Rn 69 12 [some (vr 27 0), some (vi (wr (k + 1)))] [] (fs) I (Cs cc) n c z out)) ∧ (¬ ((I 39 0 (Int.toNat k)) = (-1)) → ((((I 27 0 0) < (I 38 0 (Int.toNat k))) → (Rn 69 12 [some (vr 27 0), some (vi (wr (k + 1)))] [] (fs) I (Cs cc) n c z out)) ∧ (¬ ((I 27 0 0) < (I 38 0 (Int.toNat k))) → ((0 ≤ (I 39 0 (Int.toNat k)) ∧ (I 39 0 (Int.toNat k)) < 40) ∧ (Rn 69 12 [some (vr 27 0), some (vi (wr (k + 1)))] [] (fs) (up3 (up3 I 42 0 (Int.toNat (I 39 0 (Int.toNat k))) 2) 39 0 (Int.toNat k) (-1)) (Cs cc) n c z out)))))))) ∧ (¬ (k < (I 27 0 14)) → (Rn 69 68 [some (vr 27 0), some (vi k)] [] (fs) I (Cs cc) n c z out))) : Rn 69 12 [some (vr 27 0), some (vi k)] [] (fs) I (Cs cc) n c z out :=
  (Rn.iload_n (pc2 := 13) rfl rfl rfl (Rn.aload_n (pc2 := 14) rfl rfl rfl (Rn.getI (pc2 := 17) rfl rfl rfl rfl (Rn.ic_ge (pc2 := 20) rfl rfl (fun q22 => (Rn.aload_n (pc2 := 21) rfl rfl rfl (Rn.getR (pc2 := 24) (q := (some (39, 0))) rfl rfl rfl rfl rfl (Rn.iload_n (pc2 := 25) rfl rfl rfl (Rn.iald (pc2 := 26) (L := 6) rfl rfl rfl (h.1 q22).1 rfl (Rn.iconst (pc2 := 27) rfl rfl (Rn.ic_eq (pc2 := 30) rfl rfl (fun q23 => (Rn.iinc (pc2 := 65) (ls2 := [some (vr 27 0), some (vi (wr (k + 1)))]) rfl rfl rfl rfl (Rn.goto rfl ((h.1 q22).2.1 q23)))) (fun q23 => (Rn.aload_n (pc2 := 31) rfl rfl rfl (Rn.getR (pc2 := 34) (q := (some (38, 0))) rfl rfl rfl rfl rfl (Rn.iload_n (pc2 := 35) rfl rfl rfl (Rn.iald (pc2 := 36) (L := 6) rfl rfl rfl (h.1 q22).1 rfl (Rn.aload_n (pc2 := 37) rfl rfl rfl (Rn.getI (pc2 := 40) rfl rfl rfl rfl (Rn.ic_gt (pc2 := 43) rfl rfl (fun q24 => (Rn.iinc (pc2 := 65) (ls2 := [some (vr 27 0), some (vi (wr (k + 1)))]) rfl rfl rfl rfl (Rn.goto rfl (((h.1 q22).2.2 q23).1 q24)))) (fun q24 => (Rn.aload_n (pc2 := 44) rfl rfl rfl (Rn.getR (pc2 := 47) (q := (some (42, 0))) rfl rfl rfl rfl rfl (Rn.aload_n (pc2 := 48) rfl rfl rfl (Rn.getR (pc2 := 51) (q := (some (39, 0))) rfl rfl rfl rfl rfl (Rn.iload_n (pc2 := 52) rfl rfl rfl (Rn.iald (pc2 := 53) (L := 6) rfl rfl rfl (h.1 q22).1 rfl (Rn.iconst (pc2 := 54) rfl rfl (Rn.iast (pc2 := 55) (L := 40) rfl rfl rfl (((h.1 q22).2.2 q23).2 q24).1 rfl (Rn.aload_n (pc2 := 56) rfl rfl rfl (Rn.getR (pc2 := 59) (q := (some (39, 0))) rfl rfl rfl rfl rfl (Rn.iload_n (pc2 := 60) rfl rfl rfl (Rn.iconst (pc2 := 61) rfl rfl (Rn.iast (pc2 := 62) (L := 6) rfl rfl rfl (h.1 q22).1 rfl (Rn.iinc (pc2 := 65) (ls2 := [some (vr 27 0), some (vi (wr (k + 1)))]) rfl rfl rfl rfl (Rn.goto rfl (((h.1 q22).2.2 q23).2 q24).2))))))))))))))))))))))))))))))) (fun q22 => (h.2 q22))))))

theorem k69_68 {fs : List fr} {I : IT} {cc : Nat → Option Nat} {n c z : Nat} {out : oP} {k : Int} (h : (((Int.tmod (I 27 0 0) 1440) = 0) → (Rn 68 0 [some (vr 27 0), none] [] ((69, 80, [some (vr 27 0), some (vi k)], []) :: fs) I (Cs cc) n c z out)) ∧ (¬ ((Int.tmod (I 27 0 0) 1440) = 0) → (Rn 55 0 [some (vr 27 0), none, none, none, none, none] [] ((69, 84, [some (vr 27 0), some (vi k)], []) :: fs) I (Cs cc) n c z out))) : Rn 69 68 [some (vr 27 0), some (vi k)] [] (fs) I (Cs cc) n c z out :=
  (Rn.aload_n (pc2 := 69) rfl rfl rfl (Rn.getI (pc2 := 72) rfl rfl rfl rfl (Rn.sipush (pc2 := 75) rfl rfl (Rn.irem (pc2 := 76) rfl (by decide) rfl (Rn.iz_ne (pc2 := 79) rfl rfl (fun q25 => (Rn.aload_n (pc2 := 80) rfl rfl rfl (Rn.ivir (as := []) (r := []) (ls2 := [some (vr 27 0), none]) (f := 27) (i := 0) rfl rfl rfl rfl rfl rfl rfl (h.1 q25)))) (fun q25 => (Rn.aload_n (pc2 := 84) rfl rfl rfl (Rn.ivir (as := []) (r := []) (ls2 := [some (vr 27 0), none, none, none, none, none]) (f := 27) (i := 0) rfl rfl rfl rfl rfl rfl rfl (h.2 q25)))))))))

theorem m_fre_l {fs : List fr} {cc : Nat → Option Nat} {n c z : Nat} {out : oP} : ∀ (d k : Nat) (I : IT), VC I → k + d = (I 27 0 14).toNat → (∀ x, Rn 69 68 [some (vr 27 0), some (vi x)] [] fs (freF d k I) (Cs cc) n c z out) → Rn 69 12 [some (vr 27 0), some (vi (k : Int))] [] fs I (Cs cc) n c z out := by
  intro d
  induction d with
  | zero =>
    intro k I V hk h
    exact k69_12 ⟨fun h1 => by omega, fun h1 => h _⟩
  | succ d ih =>
    intro k I V hk h
    have v1 := V.1
    have v2 := V.2.1
    have hk2 : (k : Int) < I 27 0 14 := by omega
    have nx := ih (k + 1) (fre1 I k) (VC_fre1 V hk2) (by rw [fre1_no (by decide) (by decide)]; omega) h
    obtain ⟨a1, a2, a3, a4⟩ := V.2.2.2.2.2.2.1 k hk2
    have a5 := V.2.2.2.1
    refine k69_12 ⟨fun h1 => ?_, fun h1 => by omega⟩
    simp (disch := omega) only [wrI (x := (k : Int) + 1), wrN, Int.toNat_natCast, nS]
    refine ⟨by omega, fun h2 => ?_, fun h2 => ⟨fun h3 => ?_, fun h3 => ⟨by omega, ?_⟩⟩⟩
    · rw [show fre1 I k = I from if_neg (fun g => g.1 h2)] at nx; exact nx
    · rw [show fre1 I k = I from if_neg (fun g => by omega)] at nx; exact nx
    · rw [show fre1 I k = _ from if_pos ⟨h2, by omega⟩] at nx; exact nx
theorem c_fre_l {fs : List fr} {n c z : Nat} {out : oP} {now : Int} {S0 : IT} : ∀ (d k : Nat) (v : Int) (I : IT) (cc : Nat → Option Nat) (S : IT) (x4 x5 : Option av), RC I cc S → VC S → now = S 27 0 0 → (v = 1 ∨ (v = 0 ∧ S = S0)) → k + d = (S 27 0 14).toNat → (∀ v2 I2 cc2, RC I2 cc2 (freF d k S) → (∀ f i j, ¬ f = 20 → I2 f i j = I f i j) → (v2 = 1 ∨ (v2 = 0 ∧ freF d k S = S0)) → Rf (Sum.inl (some (vi v2))) fs I2 (Cs cc2) n c z out) → Rn 124 4 [some (vr 16 0), some (vi now), some (vi v), some (vi (k : Int)), x4, x5] [] fs I (Cs cc) n c z out := by
  intro d
  induction d with
  | zero =>
    intro k v I cc S x4 x5 R V hnow hv hk h
    have r1 := R.1
    exact k124_4 ⟨fun h1 => by omega, fun h1 => ⟨by omega, h v I cc R (fun _ _ _ _ => rfl) hv⟩⟩
  | succ d ih =>
    intro k v I cc S x4 x5 R V hnow hv hk h
    have v1 := V.1
    have v2 := V.2.1
    have r1 := R.1
    have hk2 : (k : Int) < S 27 0 14 := by omega
    obtain ⟨a1, a2, a3, a4⟩ := V.2.2.2.2.2.2.1 k hk2
    obtain ⟨c1, c2, _⟩ := R.2.2.1 k (by omega)
    obtain ⟨c2, c3⟩ := c2 hk2
    have stay : ∀ x4 x5, fre1 S k = S → Rn 124 4 [some (vr 16 0), some (vi now), some (vi v), some (vi ((k + 1 : Nat) : Int)), x4, x5] [] fs I (Cs cc) n c z out := fun x4 x5 g => by
      refine ih (k + 1) v I cc S x4 x5 R V hnow hv (by omega) ?_
      have h9 : ∀ v2 I2 cc2, RC I2 cc2 (freF d (k + 1) (fre1 S k)) → (∀ f i j, ¬ f = 20 → I2 f i j = I f i j) → (v2 = 1 ∨ (v2 = 0 ∧ freF d (k + 1) (fre1 S k) = S0)) → Rf (Sum.inl (some (vi v2))) fs I2 (Cs cc2) n c z out := h
      rw [g] at h9; exact h9
    refine k124_4 ⟨fun h1 => ?_, fun h1 => by omega⟩
    simp (disch := omega) only [wrI (x := (k : Int) + 1), wrN, Int.toNat_natCast, nS]
    refine ⟨by omega, fun hc => ?_, fun u hc => ⟨fun h3 => ?_, fun h3 => ?_⟩⟩
    · rw [hc] at c3
      have c3 : S 39 0 k = -1 := c3
      exact stay _ _ (if_neg (fun g => g.1 c3))
    · rw [c1] at h3
      exact stay _ _ (if_neg (fun g => by omega))
    · rw [c1] at h3
      rw [hc] at c3
      have c3 : S 39 0 k = (u : Int) := c3
      have e : fre1 S k = up3 (up3 S 42 0 (S 39 0 k).toNat 2) 39 0 k (-1) := if_pos ⟨by omega, by omega⟩
      rw [show up3 (Cs cc) 19 k 1 none = Cs (fun x => if x = k then none else cc x) from Cs_up (v := none)]
      have hR := RC_fre (I2 := up3 I 20 u 2 2) R V hk2 c3 (fun i j => up3_nf (by decide)) (fun i j => up3_nf (by decide)) (fun x j => up3_ati)
      rw [← e] at hR
      exact ih (k + 1) 1 _ _ (fre1 S k) _ _ hR (VC_fre1 V hk2) (by rw [fre1_no (by decide) (by decide)]; exact hnow) (Or.inl rfl) (by rw [fre1_no (by decide) (by decide)]; omega) (fun v2 I2 cc2 hR2 hI2 hv2 => h v2 I2 cc2 hR2 (fun f i j g => (hI2 f i j g).trans (up3_nf g)) hv2)

