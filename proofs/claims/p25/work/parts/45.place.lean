theorem k137_0 {fs : List fr} {I : IT} {cc : Nat → Option Nat} {n c z : Nat} {out : oP}  (h : (((I 1 0 0) < 12) → ((0 ≤ (wr ((wr ((I 1 0 0) * 12)) + (I 1 0 0))) ∧ (wr ((wr ((I 1 0 0) * 12)) + (I 1 0 0))) < 144) ∧ (Rf (Sum.inl (some (vi 0))) fs (up3 (up3 (up3 I 1 0 0 (wr ((I 1 0 0) + 1))) 2 0 (Int.toNat (wr ((wr ((I 1 0 0) * 12)) + (I 1 0 0)))) 0) 59 0 (Int.toNat 0) (I 1 0 0)) (Cs cc) n c z out))) ∧ (¬ ((I 1 0 0) < 12) → (Rf (Sum.inl (some (vi 1))) fs I (Cs cc) n (c + 1) (z + 6) out))) : Rn 137 0 [some (vr 0 0), some (vr 59 0), none] [] (fs) I (Cs cc) n c z out :=
  (Rn.aload_n (pc2 := 1) rfl rfl rfl (Rn.iconst (pc2 := 2) rfl rfl (Rn.aload_n (pc2 := 3) rfl rfl rfl (Rn.ivir (as := []) (r := [vi 0, vr 59 0]) (ls2 := [some (vr 0 0)]) (f := 0) (i := 0) rfl rfl rfl rfl rfl rfl rfl (Rn.aload_n (pc2 := 1) rfl rfl rfl (Rn.getR (pc2 := 4) (q := (some (1, 0))) rfl rfl rfl rfl rfl (Rn.getI (pc2 := 7) rfl rfl rfl rfl (Rn.bipush (pc2 := 9) rfl rfl (Rn.ic_lt (pc2 := 12) rfl rfl (fun q18 => (Rn.aload_n (pc2 := 23) rfl rfl rfl (Rn.getR (pc2 := 26) (q := (some (1, 0))) rfl rfl rfl rfl rfl (Rn.ivir (as := []) (r := []) (ls2 := [some (vr 1 0), none]) (f := 1) (i := 0) rfl rfl rfl rfl rfl rfl rfl (Rn.aload_n (pc2 := 1) rfl rfl rfl (Rn.getI (pc2 := 4) rfl rfl rfl rfl (Rn.istore_n (pc2 := 5) (ls2 := [some (vr 1 0), some (vi (I 1 0 0))]) rfl rfl rfl (Rn.iload_n (pc2 := 6) rfl rfl rfl (Rn.bipush (pc2 := 8) rfl rfl (Rn.ic_ge (pc2 := 11) rfl rfl (fun _ => (Rn.aload_n (pc2 := 12) rfl rfl rfl (Rn.dupR (pc2 := 13) rfl rfl (Rn.getI (pc2 := 16) rfl rfl rfl rfl (Rn.iconst (pc2 := 17) rfl rfl (Rn.iadd (pc2 := 18) rfl rfl (Rn.putI (pc2 := 21) rfl rfl rfl rfl rfl (Rn.aload_n (pc2 := 22) rfl rfl rfl (Rn.getR (pc2 := 25) (q := (some (2, 0))) rfl rfl rfl rfl rfl (Rn.iload_n (pc2 := 26) rfl rfl rfl (Rn.bipush (pc2 := 28) rfl rfl (Rn.imul (pc2 := 29) rfl rfl (Rn.iload_n (pc2 := 30) rfl rfl rfl (Rn.iadd (pc2 := 31) rfl rfl (Rn.iconst (pc2 := 32) rfl rfl (Rn.iast (pc2 := 33) (L := 144) rfl rfl rfl (h.1 q18).1 rfl (Rn.iload_n (pc2 := 34) rfl rfl rfl (Rn.iret rfl rfl (Rf.sm (pc2 := 29) rfl (Rn.iret rfl rfl (Rf.sm (pc2 := 6) rfl (Rn.i2l (pc2 := 7) rfl rfl (Rn.last (pc2 := 8) (L := 1) rfl rfl rfl (by decide) rfl (Rn.goto rfl (Rn.iconst (pc2 := 15) rfl rfl (Rn.iret rfl rfl (h.1 q18).2)))))))))))))))))))))))))) (fun q => absurd q18 q))))))))))) (fun q18 => (Rn.thr (c2 := c + 1) (z2 := z + 6) rfl rfl rfl rfl (Rf.catch (ls2 := [some (vr 0 0), some (vr 59 0), none]) (hp := 12) rfl rfl (Rn.iconst (pc2 := 13) rfl rfl (Rn.iret rfl rfl (h.2 q18)))))))))))))))

theorem k39_0 {fs : List fr} {I : IT} {cc : Nat → Option Nat} {n c z : Nat} {out : oP}  (h : (((I 27 0 1) = 12) → (Rf (Sum.inl (some (vi 0))) fs (up3 I 27 0 41 1) (Cs cc) n c z out)) ∧ (¬ ((I 27 0 1) = 12) → (Rf (Sum.inl (some (vi (wr ((wr ((I 27 0 1) + 1)) - 1))))) fs (up3 (up3 I 27 0 41 0) 27 0 1 (wr ((I 27 0 1) + 1))) (Cs cc) n c z out))) : Rn 39 0 [some (vr 27 0)] [] (fs) I (Cs cc) n c z out :=
  (Rn.aload_n (pc2 := 1) rfl rfl rfl (Rn.aload_n (pc2 := 2) rfl rfl rfl (Rn.getI (pc2 := 5) rfl rfl rfl rfl (Rn.bipush (pc2 := 7) rfl rfl (Rn.ic_ne (pc2 := 10) rfl rfl (fun q19 => (Rn.iconst (pc2 := 11) rfl rfl (Rn.goto rfl (Rn.putI (pc2 := 18) rfl rfl rfl rfl rfl (Rn.aload_n (pc2 := 19) rfl rfl rfl (Rn.getI (pc2 := 22) rfl rfl rfl rfl (Rn.iz_le (pc2 := 25) rfl rfl (fun _ =>  (Rn.iconst (pc2 := 26) rfl rfl (Rn.iret rfl rfl (h.1 q19)))) (fun q => absurd (show ((0 : Int) < 1) by decide) q)))))))) (fun q19 => (Rn.iconst (pc2 := 15) rfl rfl (Rn.putI (pc2 := 18) rfl rfl rfl rfl rfl (Rn.aload_n (pc2 := 19) rfl rfl rfl (Rn.getI (pc2 := 22) rfl rfl rfl rfl (Rn.iz_le (pc2 := 25) rfl rfl (fun q => absurd q (show (¬ ((0 : Int) < 0)) by decide)) (fun _ =>  (Rn.aload_n (pc2 := 28) rfl rfl rfl (Rn.dupR (pc2 := 29) rfl rfl (Rn.getI (pc2 := 32) rfl rfl rfl rfl (Rn.iconst (pc2 := 33) rfl rfl (Rn.iadd (pc2 := 34) rfl rfl (Rn.putI (pc2 := 37) rfl rfl rfl rfl rfl (Rn.aload_n (pc2 := 38) rfl rfl rfl (Rn.getI (pc2 := 41) rfl rfl rfl rfl (Rn.iconst (pc2 := 42) rfl rfl (Rn.isub (pc2 := 43) rfl rfl (Rn.iret rfl rfl (h.2 q19))))))))))))))))))))))))

def plS (S : IT) : IT := if S 27 0 1 = 12 then up3 S 27 0 41 1 else up3 (up3 S 27 0 41 0) 27 0 1 (wr (S 27 0 1 + 1))
def plV (S : IT) : Int := if S 27 0 1 = 12 then 0 else wr (wr (S 27 0 1 + 1) - 1)
theorem mo_place {fs : List fr} {I : IT} {cc : Nat → Option Nat} {n c z : Nat} {out : oP} (h : Rf (Sum.inl (some (vi (plV I)))) fs (plS I) (Cs cc) n c z out) : Rn 39 0 [some (vr 27 0)] [] fs I (Cs cc) n c z out := by
  unfold plV plS at h
  refine k39_0 ⟨fun h1 => ?_, fun h1 => ?_⟩
  · rw [if_pos h1, if_pos h1] at h; exact h
  · rw [if_neg h1, if_neg h1] at h; exact h
theorem pl_M {S S2 : IT} (h : agM S S2) : agM (plS S) (plS S2) ∧ plV S2 = plV S := by
  unfold plS plV
  rw [h 27 0 1 (by omega) (by omega)]
  refine ⟨?_, rfl⟩
  split
  · exact h.up rfl
  · exact (h.up rfl).up rfl
theorem VS_le {S : IT} {p q : Int} (V : VS S p) (h : p ≤ q) : VS S q := fun s hs => by
  obtain ⟨a, b, c, d⟩ := V s hs
  exact ⟨a, b, fun j hj => ⟨(c j hj).1, (c j hj).2.1, by have := (c j hj).2.2; omega⟩, d⟩
theorem VI_place {S : IT} (V : VI S) : VI (plS S) := by
  unfold plS
  by_cases g : S 27 0 1 = 12
  · rw [if_pos g]; exact VI_N agN_thr V
  · rw [if_neg g]
    have V := VI_N (agN_thr (v := 0)) V
    have g : ¬ (up3 S 27 0 41 0) 27 0 1 = 12 := g
    have e1 : S 27 0 1 = (up3 S 27 0 41 0) 27 0 1 := rfl
    rw [e1]
    generalize up3 S 27 0 41 0 = Z at *
    obtain ⟨⟨v1, v2, v3, v4, v5⟩, ⟨a1, a2, a3, a4, a5⟩, w, t⟩ := V
    have h1 : 0 ≤ Z 27 0 1 ∧ Z 27 0 1 ≤ 12 := ⟨v1.2.2.2.2.1, v1.2.2.2.2.2.1⟩
    rw [wrI (by omega) (by omega)]
    have eP : up3 Z 27 0 1 (Z 27 0 1 + 1) 27 0 1 = Z 27 0 1 + 1 := up3_eq
    have eo : ∀ f i j, ¬ (f = 27 ∧ i = 0 ∧ j = 1) → up3 Z 27 0 1 (Z 27 0 1 + 1) f i j = Z f i j := fun f i j q => up3_no q
    have D : agD Z (up3 Z 27 0 1 (Z 27 0 1 + 1)) := ⟨eo _ _ _ (by omega), eo _ _ _ (by omega), fun f h1 h2 i j => eo _ _ _ (by omega)⟩
    refine ⟨⟨?_, ?_, V0_ag v3 (fun i j => eo _ _ _ (by omega)), V1_ag v4 (fun i j => eo _ _ _ (by omega)), by rw [eo _ _ _ (by omega)]; exact v5⟩, ⟨?_, by rw [eo _ _ _ (by omega)]; exact a2, by rw [eo _ _ _ (by omega)]; exact a3, by rw [eo _ _ _ (by omega)]; exact a4, fun a b ha hb hh => ?_⟩, ?_, ?_⟩
    · obtain ⟨u1, u2, u3, u4, u5, u6, u7, u8⟩ := v1
      refine ⟨by rw [eo _ _ _ (by omega)]; exact u1, by rw [eo _ _ _ (by omega)]; exact u2, by rw [eo _ _ _ (by omega)]; exact u3, by rw [eo _ _ _ (by omega)]; exact u4, by rw [eP]; omega, by rw [eP]; omega, fun k hk => ?_, fun q hq => ?_⟩
      · rw [eo _ _ _ (by omega)] at hk
        rw [eP, eo 37 0 k (by omega), eo 39 0 k (by omega), eo 27 0 18 (by omega)]
        have := u7 k hk; omega
      · rw [eo _ _ _ (by omega)] at hq
        rw [eP, eo 42 0 q (by omega), eo 44 0 q (by omega), eo 40 0 q (by omega), eo 47 0 q (by omega)]
        obtain ⟨b1, b2, b3⟩ := u8 q hq
        exact ⟨b1, by omega, b3⟩
    · have e : VD (up3 Z 27 0 1 (Z 27 0 1)) := by
        refine VD_ag v2 (fun f i j _ _ => up3_no (by omega)) up3_eq (up3_no (by omega)) (up3_no (by omega))
      obtain ⟨u1, u2, u3, u4, u5, u6, u7, u8, u9⟩ := v2
      have htk : tk (up3 Z 27 0 1 (Z 27 0 1 + 1)) 40 = tk Z 40 := tk_eq (fun x => by rw [eo 53 0 x (by omega)]) 40
      refine ⟨by rw [eo _ _ _ (by omega)]; exact u1, by rw [eo _ _ _ (by omega)]; exact u2, by rw [eo _ _ _ (by omega)]; exact u3, by rw [eo _ _ _ (by omega)]; exact u4, by rw [eP]; omega, by rw [eP]; omega, fun k hk => ?_, fun k hk => ?_, u9⟩
      · rw [eo _ _ _ (by omega)] at hk
        rw [eP, eo 48 0 k (by omega)]
        have := u7 k hk; omega
      · rw [htk, eo 49 0 k (by omega)]; exact u8 k hk
    · rw [show dS (up3 Z 27 0 1 (Z 27 0 1 + 1)) = dS Z from by funext a b; exact eo 28 0 _ (by omega)]; exact a1
    · rw [eP] at hh
      rw [eo 28 0 _ (by omega)]; exact a5 a b ha hb (by omega)
    · rw [eP]; exact VS_le (VS_ag D w) (by omega)
    · rw [eo 27 0 0 (by omega)]; exact VN_ag D t
theorem cl_place {fs : List fr} {I : IT} {cc : Nat → Option Nat} {n c z : Nat} {out : oP} (F : FI I cc) (h : CR I (plS I) (plV I) fs I n c z out) : Rn 137 0 [some (vr 0 0), some (vr 59 0), none] [] fs I (Cs cc) n c z out := by
  obtain ⟨M, V⟩ := F
  have M0 := M
  have V0 := V
  obtain ⟨m1, m2, m3, m4, m5⟩ := M
  obtain ⟨⟨v1, v2, v3, v4, v5⟩, ⟨a1, a2, a3, a4, a5⟩, w, t⟩ := V
  obtain ⟨r1, r2, r3⟩ := m2
  have h1 : 0 ≤ I 27 0 1 ∧ I 27 0 1 ≤ 12 := ⟨v1.2.2.2.2.1, v1.2.2.2.2.2.1⟩
  refine k137_0 ⟨fun g => ⟨?_, ?_⟩, fun g => ?_⟩
  · rw [r1, wrI (x := I 27 0 1 * 12) (by omega) (by omega), wrI (by omega) (by omega)]; omega
  · have g9 : ¬ I 27 0 1 = 12 := by omega
    have eS : plS I = up3 (up3 I 27 0 41 0) 27 0 1 (I 27 0 1 + 1) := by unfold plS; rw [if_neg g9, wrI (by omega) (by omega)]
    have eV : plV I = I 27 0 1 := by unfold plV; rw [if_neg g9, wrI (x := I 27 0 1 + 1) (by omega) (by omega), wrI (by omega) (by omega)]; omega
    rw [r1, wrI (x := I 27 0 1 * 12) (by omega) (by omega), wrI (x := I 27 0 1 * 12 + I 27 0 1) (by omega) (by omega), wrI (x := I 27 0 1 + 1) (by omega) (by omega), show (I 27 0 1 * 12 + I 27 0 1).toNat = 12 * (I 27 0 1).toNat + (I 27 0 1).toNat by omega]
    refine h _ cc 0 c z (by omega) (by omega) (fun f i j q1 q2 => by rw [up3_nf q2, up3_nf (by omega), up3_nf (by omega)]) ?_ (fun _ => ?_) ?_
    · rw [eS, up3_no (by omega), up3_eq]
    · rw [eV]; exact up3_eq
    · have eI : ∀ f i j, ¬ f = 59 → ¬ f = 1 → ¬ f = 2 → up3 (up3 (up3 I 1 0 0 (I 27 0 1 + 1)) 2 0 (12 * (I 27 0 1).toNat + (I 27 0 1).toNat) 0) 59 0 (Int.toNat 0) (I 27 0 1) f i j = I f i j := fun f i j q1 q2 q3 => by rw [up3_nf q1, up3_nf q3, up3_nf q2]
      have eo : ∀ f i j, ¬ (f = 27 ∧ i = 0 ∧ (j = 1 ∨ j = 41)) → plS I f i j = I f i j := fun f i j q => by rw [eS, up3_no (by omega), up3_no (by omega)]
      have eP : plS I 27 0 1 = I 27 0 1 + 1 := by rw [eS]; exact up3_eq
      have D : agD I (plS I) := ⟨eo _ _ _ (by omega), eo _ _ _ (by omega), fun f h1 h2 i j => eo _ _ _ (by omega)⟩
      refine ⟨by rw [eI 0 0 4 (by omega) (by omega) (by omega), eo 27 0 0 (by omega)]; exact m1, ⟨?_, ?_, fun x y hx hy => ?_⟩, ?_, ?_, ?_⟩
      · rw [eP, up3_nf (by omega), up3_nf (by omega), up3_eq]
      · rw [eo 27 0 2 (by omega), up3_nf (by omega), up3_nf (by omega), up3_no (by omega)]; exact r2
      · rw [up3_nf (by omega), up3_at, up3_nf (by omega), eP, eo 28 0 _ (by omega), r3 x y hx hy]
        by_cases q : (x : Int) = I 27 0 1 ∨ (y : Int) = I 27 0 1
        · have z := a5 x y hx hy (by omega)
          by_cases q2 : x = y
          · rw [if_pos (by omega)]
            rw [if_pos q2] at z
            rw [z, if_pos ⟨by omega, by omega, by omega⟩]
          · rw [if_neg (by omega), if_neg (by omega)]
            rw [if_neg q2] at z
            rw [z, if_neg (by omega)]
        · rw [if_neg (by omega)]
          by_cases q3 : (x : Int) < I 27 0 1 ∧ (y : Int) < I 27 0 1 ∧ I 28 0 (12 * x + y) < 1000000
          · rw [if_pos q3, if_pos ⟨by omega, by omega, q3.2.2⟩]
          · rw [if_neg q3, if_neg (fun y => q3 ⟨by omega, by omega, y.2.2⟩)]
      · rw [eP, eo 27 0 0 (by omega)]
        have D1 := DR_ag m3 D (fun f i j q1 q2 _ => eI f i j (by omega) (by omega) (by omega))
        exact ⟨D1.1, D1.2.1, D1.2.2.1, D1.2.2.2.1, D1.2.2.2.2.1, VS_le D1.2.2.2.2.2.1 (by omega), D1.2.2.2.2.2.2⟩
      · exact RC_ag m4 (fun f i j q => eI f i j (by omega) (by omega) (by omega)) (fun f i j _ _ => eo f i j (by omega)) (eo _ _ _ (by omega)) (eo _ _ _ (by omega))
      · exact RD_agS (RD_agI m5 (fun f i j q => eI f i j (by omega) (by omega) (by omega))) (eo _ _ _ (by omega)) (eo _ _ _ (by omega)) (fun f i j _ _ => eo f i j (by omega))
  · have g9 : I 27 0 1 = 12 := by omega
    have eS : plS I = up3 I 27 0 41 1 := if_pos g9
    exact CR.thr h (by rw [eS]; exact up3_eq.symm) (by omega) (by rw [eS]; exact Sm_N agN_thr M0)

