theorem k125_0b {fs : List fr} {I : IT} {cc : Nat → Option Nat} {n c z : Nat} {out : oP} {now : Int} (h : Rn 125 2 [some (vr 16 0), some (vr 1 0), some (vi now), some (vi 0), none] [] (fs) I (Cs cc) n c z out) : Rn 125 0 [some (vr 16 0), some (vr 1 0), some (vi now), none, none] [] (fs) I (Cs cc) n c z out :=
  (Rn.iconst (pc2 := 1) rfl rfl (Rn.istore_n (pc2 := 2) (ls2 := [some (vr 16 0), some (vr 1 0), some (vi now), some (vi 0), none]) rfl rfl rfl h))

theorem k82_0b {fs : List fr} {I : IT} {cc : Nat → Option Nat} {n c z : Nat} {out : oP} {now : Int} (h : Rn 82 2 [some (vr 21 0), some (vi now), some (vi 0), none] [] (fs) I (Cs cc) n c z out) : Rn 82 0 [some (vr 21 0), some (vi now), none, none] [] (fs) I (Cs cc) n c z out :=
  (Rn.iconst (pc2 := 1) rfl rfl (Rn.istore_n (pc2 := 2) (ls2 := [some (vr 21 0), some (vi now), some (vi 0), none]) rfl rfl rfl h))

theorem k84_0b {fs : List fr} {I : IT} {cc : Nat → Option Nat} {n c z : Nat} {out : oP} {now : Int} (h : Rn 84 3 [some (vr 21 0), some (vr 3 0), some (vr 1 0), some (vi now), some (vi 0), none, none, none, none] [] (fs) I (Cs cc) n c z out) : Rn 84 0 [some (vr 21 0), some (vr 3 0), some (vr 1 0), some (vi now), none, none, none, none, none] [] (fs) I (Cs cc) n c z out :=
  (Rn.iconst (pc2 := 1) rfl rfl (Rn.istore (pc2 := 3) (ls2 := [some (vr 21 0), some (vr 3 0), some (vr 1 0), some (vi now), some (vi 0), none, none, none, none]) rfl rfl rfl h))

theorem k21_45 {fs : List fr} {I : IT} {cc : Nat → Option Nat} {n c z : Nat} {out : oP} {m : Int} {g : Int} {x3 : Option av} (h : ((g < m) → (Rn 124 0 [some (vr 16 0), some (vi (wr ((I 0 0 4) + 1))), none, none, none, none] [] ((21, 68, [some (vr 0 0), some (vi m), some (vi g), x3], []) :: fs) (up3 I 0 0 4 (wr ((I 0 0 4) + 1))) (Cs cc) n c z out)) ∧ (¬ (g < m) → (Rf (Sum.inl (some (vi (I 0 0 4)))) fs I (Cs cc) n c z out))) : Rn 21 45 [some (vr 0 0), some (vi m), some (vi g), x3] [] (fs) I (Cs cc) n c z out :=
  (Rn.iload_n (pc2 := 46) rfl rfl rfl (Rn.iload_n (pc2 := 47) rfl rfl rfl (Rn.ic_ge (pc2 := 50) rfl rfl (fun q18 => (Rn.aload_n (pc2 := 51) rfl rfl rfl (Rn.dupR (pc2 := 52) rfl rfl (Rn.getI (pc2 := 55) rfl rfl rfl rfl (Rn.iconst (pc2 := 56) rfl rfl (Rn.iadd (pc2 := 57) rfl rfl (Rn.putI (pc2 := 60) rfl rfl rfl rfl rfl (Rn.aload_n (pc2 := 61) rfl rfl rfl (Rn.getR (pc2 := 64) (q := (some (16, 0))) rfl rfl rfl rfl rfl (Rn.aload_n (pc2 := 65) rfl rfl rfl (Rn.getI (pc2 := 68) rfl rfl rfl rfl (Rn.ivir (as := [vi (wr ((I 0 0 4) + 1))]) (r := []) (ls2 := [some (vr 16 0), some (vi (wr ((I 0 0 4) + 1))), none, none, none, none]) (f := 16) (i := 0) rfl rfl rfl rfl rfl rfl rfl (h.1 q18))))))))))))) (fun q18 => (Rn.aload_n (pc2 := 143) rfl rfl rfl (Rn.getI (pc2 := 146) rfl rfl rfl rfl (Rn.iret rfl rfl (h.2 q18))))))))

theorem k21_71 {fs : List fr} {I : IT} {cc : Nat → Option Nat} {n c z : Nat} {out : oP} {m : Int} {g : Int} {x3 : Option av} {v : Int} (h : (((Int.tmod (I 0 0 4) 1440) = 0) → (Rn 82 0 [some (vr 21 0), some (vi (I 0 0 4)), none, none] [] ((21, 91, [some (vr 0 0), some (vi m), some (vi g), some (vi v)], []) :: fs) I (Cs cc) n c z out)) ∧ (¬ ((Int.tmod (I 0 0 4) 1440) = 0) → (Rn 21 113 [some (vr 0 0), some (vi m), some (vi g), some (vi v)] [] (fs) I (Cs cc) n c z out))) : Rn 21 71 [some (vr 0 0), some (vi m), some (vi g), x3] [vi v] (fs) I (Cs cc) n c z out :=
  (Rn.istore_n (pc2 := 72) (ls2 := [some (vr 0 0), some (vi m), some (vi g), some (vi v)]) rfl rfl rfl (Rn.aload_n (pc2 := 73) rfl rfl rfl (Rn.getI (pc2 := 76) rfl rfl rfl rfl (Rn.sipush (pc2 := 79) rfl rfl (Rn.irem (pc2 := 80) rfl (by decide) rfl (Rn.iz_ne (pc2 := 83) rfl rfl (fun q19 => (Rn.aload_n (pc2 := 84) rfl rfl rfl (Rn.getR (pc2 := 87) (q := (some (21, 0))) rfl rfl rfl rfl rfl (Rn.aload_n (pc2 := 88) rfl rfl rfl (Rn.getI (pc2 := 91) rfl rfl rfl rfl (Rn.ivir (as := [vi (I 0 0 4)]) (r := []) (ls2 := [some (vr 21 0), some (vi (I 0 0 4)), none, none]) (f := 21) (i := 0) rfl rfl rfl rfl rfl rfl rfl (h.1 q19))))))) (fun q19 => (h.2 q19))))))))

theorem k21_94 {fs : List fr} {I : IT} {cc : Nat → Option Nat} {n c z : Nat} {out : oP} {m : Int} {g : Int} {v : Int} (h : Rn 84 0 [some (vr 21 0), some (vr 3 0), some (vr 1 0), some (vi (I 0 0 4)), none, none, none, none, none] [] ((21, 110, [some (vr 0 0), some (vi m), some (vi g), some (vi v)], []) :: fs) I (Cs cc) n c z out) : Rn 21 94 [some (vr 0 0), some (vi m), some (vi g), some (vi v)] [] (fs) I (Cs cc) n c z out :=
  (Rn.aload_n (pc2 := 95) rfl rfl rfl (Rn.getR (pc2 := 98) (q := (some (21, 0))) rfl rfl rfl rfl rfl (Rn.aload_n (pc2 := 99) rfl rfl rfl (Rn.getR (pc2 := 102) (q := (some (3, 0))) rfl rfl rfl rfl rfl (Rn.aload_n (pc2 := 103) rfl rfl rfl (Rn.getR (pc2 := 106) (q := (some (1, 0))) rfl rfl rfl rfl rfl (Rn.aload_n (pc2 := 107) rfl rfl rfl (Rn.getI (pc2 := 110) rfl rfl rfl rfl (Rn.ivir (as := [vr 3 0, vr 1 0, vi (I 0 0 4)]) (r := []) (ls2 := [some (vr 21 0), some (vr 3 0), some (vr 1 0), some (vi (I 0 0 4)), none, none, none, none, none]) (f := 21) (i := 0) rfl rfl rfl rfl rfl rfl rfl h)))))))))

theorem k21_113 {fs : List fr} {I : IT} {cc : Nat → Option Nat} {n c z : Nat} {out : oP} {m : Int} {g : Int} {v : Int} (h : ((v = 0) → (((g = 0) → (Rn 125 0 [some (vr 16 0), some (vr 1 0), some (vi (I 0 0 4)), none, none] [] ((21, 133, [some (vr 0 0), some (vi m), some (vi g), some (vi v)], []) :: fs) I (Cs cc) n c z out)) ∧ (¬ (g = 0) → (Rn 21 136 [some (vr 0 0), some (vi m), some (vi g), some (vi v)] [] (fs) I (Cs cc) n c z out)))) ∧ (¬ (v = 0) → (Rn 125 0 [some (vr 16 0), some (vr 1 0), some (vi (I 0 0 4)), none, none] [] ((21, 133, [some (vr 0 0), some (vi m), some (vi g), some (vi v)], []) :: fs) I (Cs cc) n c z out))) : Rn 21 113 [some (vr 0 0), some (vi m), some (vi g), some (vi v)] [] (fs) I (Cs cc) n c z out :=
  (Rn.iload_n (pc2 := 114) rfl rfl rfl (Rn.iz_ne (pc2 := 117) rfl rfl (fun q20 => (Rn.iload_n (pc2 := 118) rfl rfl rfl (Rn.iz_ne (pc2 := 121) rfl rfl (fun q21 => (Rn.aload_n (pc2 := 122) rfl rfl rfl (Rn.getR (pc2 := 125) (q := (some (16, 0))) rfl rfl rfl rfl rfl (Rn.aload_n (pc2 := 126) rfl rfl rfl (Rn.getR (pc2 := 129) (q := (some (1, 0))) rfl rfl rfl rfl rfl (Rn.aload_n (pc2 := 130) rfl rfl rfl (Rn.getI (pc2 := 133) rfl rfl rfl rfl (Rn.ivir (as := [vr 1 0, vi (I 0 0 4)]) (r := []) (ls2 := [some (vr 16 0), some (vr 1 0), some (vi (I 0 0 4)), none, none]) (f := 16) (i := 0) rfl rfl rfl rfl rfl rfl rfl ((h.1 q20).1 q21))))))))) (fun q21 => ((h.1 q20).2 q21))))) (fun q20 => (Rn.aload_n (pc2 := 122) rfl rfl rfl (Rn.getR (pc2 := 125) (q := (some (16, 0))) rfl rfl rfl rfl rfl (Rn.aload_n (pc2 := 126) rfl rfl rfl (Rn.getR (pc2 := 129) (q := (some (1, 0))) rfl rfl rfl rfl rfl (Rn.aload_n (pc2 := 130) rfl rfl rfl (Rn.getI (pc2 := 133) rfl rfl rfl rfl (Rn.ivir (as := [vr 1 0, vi (I 0 0 4)]) (r := []) (ls2 := [some (vr 16 0), some (vr 1 0), some (vi (I 0 0 4)), none, none]) (f := 16) (i := 0) rfl rfl rfl rfl rfl rfl rfl (h.2 q20)))))))))))

theorem k21_136 {fs : List fr} {I : IT} {cc : Nat → Option Nat} {n c z : Nat} {out : oP} {m : Int} {g : Int} {x3 : Option av} (h : Rn 21 45 [some (vr 0 0), some (vi m), some (vi (wr (g + 1))), x3] [] (fs) I (Cs cc) n c z out) : Rn 21 136 [some (vr 0 0), some (vi m), some (vi g), x3] [] (fs) I (Cs cc) n c z out :=
  (Rn.iinc (pc2 := 139) (ls2 := [some (vr 0 0), some (vi m), some (vi (wr (g + 1))), x3]) rfl rfl rfl rfl (Rn.goto rfl h))

/-- the class's store against the model's -/
def Sm (I : IT) (cc : Nat → Option Nat) (S : IT) : Prop := I 0 0 4 = S 27 0 0 ∧ RA I S ∧ DR I S (S 27 0 1) (S 27 0 0) ∧ RC I cc S ∧ RD I S
def VP (S : IT) : Prop := VC S ∧ VD S ∧ V0 S ∧ V1 S ∧ 0 ≤ S 27 0 0
theorem RC_ag {I I2 S S2 : IT} {cc : Nat → Option Nat} (R : RC I cc S) (hI : ∀ f i j, f = 16 ∨ f = 19 ∨ f = 20 → I2 f i j = I f i j) (hS : ∀ f i j, 37 ≤ f → f ≤ 47 → S2 f i j = S f i j) (h14 : S2 27 0 14 = S 27 0 14) (h18 : S2 27 0 18 = S 27 0 18) : RC I2 cc S2 := by
  obtain ⟨r1, r2, r3, r4⟩ := R
  refine ⟨by rw [hI 16 0 0 (by omega), h14]; exact r1, by rw [hI 16 0 1 (by omega), h18]; exact r2, fun k hk => ?_, fun q hq => ?_⟩
  · rw [hI 19 k 2 (by omega), hI 19 k 0 (by omega), h14, hS 38 0 k (by omega) (by omega), hS 37 0 k (by omega) (by omega), hS 39 0 k (by omega) (by omega)]; exact r3 k hk
  · have m : ∀ j, I2 20 q j = I 20 q j := fun j => hI 20 q j (by omega)
    rw [m, m, m, m, m, m, m, m, h18, hS 40 0 q (by omega) (by omega), hS 41 0 q (by omega) (by omega), hS 42 0 q (by omega) (by omega), hS 43 0 q (by omega) (by omega), hS 44 0 q (by omega) (by omega), hS 45 0 q (by omega) (by omega), hS 46 0 q (by omega) (by omega), hS 47 0 q (by omega) (by omega)]
    exact r4 q hq
theorem RD_agI {I I2 S : IT} (R : RD I S) (hI : ∀ f i j, f = 21 ∨ f = 24 ∨ f = 25 ∨ f = 26 → I2 f i j = I f i j) : RD I2 S := by
  obtain ⟨r1, r2, r3, r4⟩ := R
  refine ⟨by rw [hI 21 0 0 (by omega)]; exact r1, by rw [hI 21 0 1 (by omega)]; exact r2, fun k hk => ?_, fun x hx => ?_⟩
  · rw [hI 24 k 0 (by omega)]
    refine ⟨fun g => ⟨((r3 k hk).1 g).1, fun j hj => ?_⟩, fun g j hj => ?_⟩
    · rw [hI 25 k j (by omega)]; exact ((r3 k hk).1 g).2 j hj
    · rw [hI 25 k j (by omega)]; exact (r3 k hk).2 g j hj
  · have m : ∀ j, I2 26 x j = I 26 x j := fun j => hI 26 x j (by omega)
    rw [m, m, m, m, m, m, m, m, m]
    exact r4 x hx
theorem DR_le {I S : IT} {p T T2 : Int} (D : DR I S p T) (h : T ≤ T2) : DR I S p T2 := ⟨D.1, D.2.1, D.2.2.1, D.2.2.2.1, D.2.2.2.2.1, D.2.2.2.2.2.1, VN_le D.2.2.2.2.2.2.1 h, D.2.2.2.2.2.2.2⟩
theorem V0_ag {S S2 : IT} (v : V0 S) (h : ∀ i j, S2 28 i j = S 28 i j) : V0 S2 := fun a b ha hb => by rw [h]; exact v a b ha hb
theorem V1_ag {S S2 : IT} (v : V1 S) (h : ∀ i j, S2 28 i j = S 28 i j) : V1 S2 := fun a b ha hb => by rw [h, h]; exact v a b ha hb
theorem mnt_no {S : IT} {f i j : Nat} (h00 : ¬ (f = 27 ∧ i = 0 ∧ j = 0)) (h0 : ¬ (f = 27 ∧ i = 0 ∧ j = 40)) (h : ¬ (37 ≤ f ∧ f ≤ 58)) : mnt S f i j = S f i j := by
  unfold mnt
  rw [sends_no (by omega) (by omega) (by omega) (by omega) (by omega) (by omega), day9_no h0 (by omega) (by omega) (by omega) (by omega) (by omega) (by omega), fre9_no (by omega) (by omega), tick_no h00]
theorem mnt_now {S : IT} (h0 : 0 ≤ S 27 0 0) (h : S 27 0 0 < 100000) : mnt S 27 0 0 = S 27 0 0 + 1 := by
  unfold mnt
  rw [sends_no (by omega) (by omega) (by omega) (by omega) (by omega) (by omega), day9_no (by omega) (by omega) (by omega) (by omega) (by omega) (by omega) (by omega), fre9_no (by omega) (by omega)]
  unfold tick
  rw [up3_eq, wrI (by omega) (by omega)]
theorem VP_mnt {S : IT} (V : VP S) (h : S 27 0 0 < 100000) : VP (mnt S) := by
  obtain ⟨v1, v2, v3, v4, v5⟩ := V
  refine ⟨VC_sends (VC_day9 (VC_fre9 (VC_tick v1))), VD_sends (VD_day9 (VD_fre9 (VD_tick v2))), V0_ag v3 (fun i j => mnt_no (by omega) (by omega) (by omega)), V1_ag v4 (fun i j => mnt_no (by omega) (by omega) (by omega)), ?_⟩
  rw [mnt_now v5 h]; omega
theorem c_day {fs : List fr} {cc : Nat → Option Nat} {n c z : Nat} {out : oP} {I S : IT} {m g v : Int} {x3 : Option av} {T : Int} (R : RD I S) (V : VD S) (D : DR I S (S 27 0 1) T) (RAh : RA I S) (v0 : V0 S) (v1 : V1 S) (hnow : I 0 0 4 = S 27 0 0) (h : ∀ I2, RD I2 (day9 S) → (∀ f i j, ¬ f = 26 → ¬ f = 25 → I2 f i j = I f i j) → Rn 21 113 [some (vr 0 0), some (vi m), some (vi g), some (vi v)] [] fs I2 (Cs cc) n c z out) : Rn 21 71 [some (vr 0 0), some (vi m), some (vi g), x3] [vi v] fs I (Cs cc) n c z out := by
  refine k21_71 ⟨fun h1 => ?_, fun h1 => ?_⟩
  · rw [hnow] at h1
    have e9 : day9 S = dlvF (S 27 0 30).toNat 0 (retF (S 27 0 30).toNat 0 S) := if_pos h1
    have e : ∀ j, retF (S 27 0 30).toNat 0 S 27 0 j = S 27 0 j := fun j => retF_no (by omega) (by omega) _ _ _
    have vv := V.2.2.1
    refine k82_0b (c_ret_l (S 27 0 30).toNat 0 I S none R V hnow (by omega) (fun I2 hR hI => ?_))
    refine Rf.nn (pc2 := 94) rfl (k21_94 ?_)
    rw [hI 0 0 4 (by omega) (by omega), hnow]
    refine k84_0b (c_dlv_l (T := T) (S 27 0 30).toNat 0 I2 (retF (S 27 0 30).toNat 0 S) none none none none hR (VD_retF _ _ _ V (by omega)) ?_ ?_ (V0_ag v0 (fun i j => retF_no (by omega) (by omega) _ _ _)) (V1_ag v1 (fun i j => retF_no (by omega) (by omega) _ _ _)) (by rw [e]) (by rw [e]; omega) (fun I3 hR3 hI3 => ?_))
    · rw [e]
      exact DR_ag D agD_ret (fun f i j h1 h2 _ => hI f i j (by omega) (by omega))
    · exact RA_agS (RA_ag RAh (fun i j => hI 1 i j (by omega) (by omega)) (fun i j => hI 2 i j (by omega) (by omega))) (e 1) (e 2) (fun i j => retF_no (by omega) (by omega) _ _ _)
    · exact Rf.nn (pc2 := 113) rfl (h I3 (by rw [e9]; exact hR3) (fun f i j g1 g2 => (hI3 f i j g1 g2).trans (hI f i j g1 g2)))
  · rw [hnow] at h1
    exact h I (by rw [show day9 S = S from if_neg h1]; exact R) (fun _ _ _ _ _ => rfl)
theorem c_minute {fs : List fr} {cc : Nat → Option Nat} {n c z : Nat} {out : oP} {I S : IT} {m : Int} {g : Nat} {x3 : Option av} (M : Sm I cc S) (V : VP S) (hg : g = 0 ∨ Stl S) (hn : S 27 0 0 < 100000) (hm : (g : Int) < m) (hg2 : g < 3000) (h : ∀ I2 cc2 x3, Sm I2 cc2 (mnt S) → (∀ f i j, 27 ≤ f → I2 f i j = I f i j) → Rn 21 45 [some (vr 0 0), some (vi m), some (vi ((g + 1 : Nat) : Int)), x3] [] fs I2 (Cs cc2) n c z out) : Rn 21 45 [some (vr 0 0), some (vi m), some (vi (g : Int)), x3] [] fs I (Cs cc) n c z out := by
  obtain ⟨m1, m2, m3, m4, m5⟩ := M
  obtain ⟨v1, v2, v3, v4, v5⟩ := V
  refine k21_45 ⟨fun h1 => ?_, fun h1 => absurd hm h1⟩
  rw [m1]
  have eT : ∀ f i j, ¬ (f = 27 ∧ i = 0 ∧ j = 0) → tick S f i j = S f i j := fun f i j => tick_no
  have tn : tick S 27 0 0 = S 27 0 0 + 1 := by unfold tick; rw [up3_eq, wrI (by omega) (by omega)]
  have tw : wr (S 27 0 0 + 1) = tick S 27 0 0 := by rw [tn, wrI (by omega) (by omega)]
  rw [tw]
  have eI : ∀ f i j, ¬ f = 0 → up3 I 0 0 4 (tick S 27 0 0) f i j = I f i j := fun f i j hf => up3_nf hf
  have R1 : RC (up3 I 0 0 4 (tick S 27 0 0)) cc (tick S) := RC_ag m4 (fun f i j hf => eI f i j (by omega)) (fun f i j h1 h2 => eT f i j (by omega)) (eT _ _ _ (by omega)) (eT _ _ _ (by omega))
  refine k124_0 (c_fre_l (S0 := tick S) (tick S 27 0 14).toNat 0 0 _ cc (tick S) none none R1 (VC_tick v1) rfl (Or.inr ⟨rfl, rfl⟩) (by omega) (fun w I2 cc2 hR hI hw => Rf.sm (pc2 := 71) rfl ?_))
  have hR : RC I2 cc2 (fre9 (tick S)) := hR
  have hw : w = 1 ∨ (w = 0 ∧ fre9 (tick S) = tick S) := hw
  have eF : ∀ f i j, ¬ f = 42 → ¬ f = 39 → fre9 (tick S) f i j = tick S f i j := fun f i j => fre9_no
  have D1 : RD I2 (fre9 (tick S)) := RD_agS (RD_agI m5 (fun f i j hf => (hI f i j (by omega)).trans (eI f i j (by omega)))) ((eF _ _ _ (by omega) (by omega)).trans (eT _ _ _ (by omega))) ((eF _ _ _ (by omega) (by omega)).trans (eT _ _ _ (by omega))) (fun f i j h1 h2 => (eF _ _ _ (by omega) (by omega)).trans (eT _ _ _ (by omega)))
  have Q1 : DR I2 (fre9 (tick S)) (S 27 0 1) (S 27 0 0 + 1) := DR_le (DR_ag m3 (agD_tick.trans agD_fre9) (fun f i j h1 h2 _ => (hI f i j (by omega)).trans (eI f i j (by omega)))) (by omega)
  have A1 : RA I2 (fre9 (tick S)) := RA_agS (RA_ag m2 (fun i j => (hI 1 i j (by omega)).trans (eI 1 i j (by omega))) (fun i j => (hI 2 i j (by omega)).trans (eI 2 i j (by omega)))) ((eF _ _ _ (by omega) (by omega)).trans (eT _ _ _ (by omega))) ((eF _ _ _ (by omega) (by omega)).trans (eT _ _ _ (by omega))) (fun i j => (eF _ _ _ (by omega) (by omega)).trans (eT _ _ _ (by omega)))
  have e1 : fre9 (tick S) 27 0 1 = S 27 0 1 := (eF _ _ _ (by omega) (by omega)).trans (eT _ _ _ (by omega))
  have hn2 : I2 0 0 4 = fre9 (tick S) 27 0 0 := by rw [hI 0 0 4 (by omega), up3_eq, eF _ _ _ (by omega) (by omega)]
  refine c_day (T := S 27 0 0 + 1) D1 (VD_fre9 (VD_tick v2)) (by rw [e1]; exact Q1) A1 (V0_ag v3 (fun i j => (eF _ _ _ (by omega) (by omega)).trans (eT _ _ _ (by omega)))) (V1_ag v4 (fun i j => (eF _ _ _ (by omega) (by omega)).trans (eT _ _ _ (by omega)))) hn2 (fun I3 hR3 hI3 => ?_)
  have eD : ∀ f i j, ¬ (f = 27 ∧ i = 0 ∧ j = 40) → ¬ (48 ≤ f ∧ f ≤ 58) → day9 (fre9 (tick S)) f i j = fre9 (tick S) f i j := fun f i j g1 g2 => day9_no g1 (by omega) (by omega) (by omega) (by omega) (by omega) (by omega)
  have A2 : RA I3 (day9 (fre9 (tick S))) := RA_agS (RA_ag A1 (fun i j => hI3 1 i j (by omega) (by omega)) (fun i j => hI3 2 i j (by omega) (by omega))) (eD _ _ _ (by omega) (by omega)) (eD _ _ _ (by omega) (by omega)) (fun i j => eD _ _ _ (by omega) (by omega))
  have R2 : RC I3 cc2 (day9 (fre9 (tick S))) := RC_ag hR (fun f i j hf => hI3 f i j (by omega) (by omega)) (fun f i j h1 h2 => eD f i j (by omega) (by omega)) (eD _ _ _ (by omega) (by omega)) (eD _ _ _ (by omega) (by omega))
  have Q2 : DR I3 (day9 (fre9 (tick S))) (S 27 0 1) (S 27 0 0 + 1) := DR_ag Q1 agD_day9 (fun f i j h1 h2 _ => hI3 f i j (by omega) (by omega))
  have V2 : VC (day9 (fre9 (tick S))) := VC_day9 (VC_fre9 (VC_tick v1))
  have e2 : day9 (fre9 (tick S)) 27 0 0 = S 27 0 0 + 1 := by rw [eD _ _ _ (by omega) (by omega), eF _ _ _ (by omega) (by omega), tn]
  have hn3 : I3 0 0 4 = day9 (fre9 (tick S)) 27 0 0 := by rw [hI3 0 0 4 (by omega) (by omega), hn2, eD _ _ _ (by omega) (by omega)]
  have nx : ∀ I4 cc4 x3, RC I4 cc4 (mnt S) → (∀ f i j, ¬ f = 19 → ¬ f = 20 → I4 f i j = I3 f i j) → Rn 21 136 [some (vr 0 0), some (vi m), some (vi (g : Int)), x3] [] fs I4 (Cs cc4) n c z out := by
    intro I4 cc4 x3 hR4 hI4
    refine k21_136 ?_
    rw [wrI (by omega) (by omega), nS]
    have eS : ∀ f i j, ¬ f = 42 → ¬ f = 45 → ¬ f = 46 → ¬ f = 38 → ¬ f = 37 → ¬ f = 39 → mnt S f i j = day9 (fre9 (tick S)) f i j := fun f i j h1 h2 h3 h4 h5 h6 => sends_no h1 h2 h3 h4 h5 h6
    refine h I4 cc4 x3 ⟨?_, ?_, ?_, hR4, ?_⟩ (fun f i j hf => ?_)
    · rw [hI4 0 0 4 (by omega) (by omega), hn3, eS _ _ _ (by omega) (by omega) (by omega) (by omega) (by omega) (by omega)]
    · exact RA_agS (RA_ag A2 (fun i j => hI4 1 i j (by omega) (by omega)) (fun i j => hI4 2 i j (by omega) (by omega))) (eS _ _ _ (by omega) (by omega) (by omega) (by omega) (by omega) (by omega)) (eS _ _ _ (by omega) (by omega) (by omega) (by omega) (by omega) (by omega)) (fun i j => eS _ _ _ (by omega) (by omega) (by omega) (by omega) (by omega) (by omega))
    · rw [mnt_no (by omega) (by omega) (by omega), mnt_now v5 hn]
      exact DR_ag Q2 agD_sends (fun f i j h1 h2 _ => hI4 f i j (by omega) (by omega))
    · exact RD_agS (RD_agI hR3 (fun f i j hf => hI4 f i j (by omega) (by omega))) (eS _ _ _ (by omega) (by omega) (by omega) (by omega) (by omega) (by omega)) (eS _ _ _ (by omega) (by omega) (by omega) (by omega) (by omega) (by omega)) (fun f i j h1 h2 => eS _ _ _ (by omega) (by omega) (by omega) (by omega) (by omega) (by omega))
    · rw [hI4 f i j (by omega) (by omega), hI3 f i j (by omega) (by omega), hI f i j (by omega), eI f i j (by omega)]
  have snd : Rn 125 0 [some (vr 16 0), some (vr 1 0), some (vi (I3 0 0 4)), none, none] [] ((21, 133, [some (vr 0 0), some (vi m), some (vi (g : Int)), some (vi w)], []) :: fs) I3 (Cs cc2) n c z out := by
    refine k125_0b (c_sends_l (day9 (fre9 (tick S)) 27 0 18).toNat 0 I3 cc2 (day9 (fre9 (tick S))) none R2 A2 V2 (V0_ag v3 (fun i j => (eD _ _ _ (by omega) (by omega)).trans ((eF _ _ _ (by omega) (by omega)).trans (eT _ _ _ (by omega))))) hn3 (by omega) (fun I4 cc4 hR4 hI4 => Rf.nn (pc2 := 136) rfl (nx I4 cc4 _ hR4 hI4)))
  refine k21_113 ⟨fun h2 => ⟨fun h3 => snd, fun h3 => ?_⟩, fun h2 => snd⟩
  obtain ⟨w0, w1⟩ := hw.resolve_left (by omega)
  have hS : Stl S := hg.resolve_left (by omega)
  have hS2 : Stl (day9 (fre9 (tick S))) := Stl_ag hS (fun f i j hf => by rw [eD f i j (by omega) (by omega), w1, eT f i j (by omega)]) (by rw [eD _ _ _ (by omega) (by omega), w1, eT _ _ _ (by omega)]) (by rw [eD _ _ _ (by omega) (by omega), w1, eT _ _ _ (by omega)])
  have em : mnt S = day9 (fre9 (tick S)) := stl_sends hS2
  exact nx I3 cc2 _ (by rw [em]; exact R2) (fun _ _ _ _ _ => rfl)

