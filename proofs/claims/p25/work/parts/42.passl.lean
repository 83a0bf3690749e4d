theorem k70_37 {fs : List fr} {I : IT} {cc : Nat → Option Nat} {n c z : Nat} {out : oP} {m : Int} {k : Int} (h : ((k < m) → ((((I 27 0 41) = 0) → (Rn 69 0 [some (vr 27 0), none] [] ((70, 50, [some (vr 27 0), some (vi m), some (vi k)], []) :: fs) I (Cs cc) n c z out)) ∧ (¬ ((I 27 0 41) = 0) → (((0 < (I 27 0 41)) → (Rf (Sum.inl (some (vi 0))) fs I (Cs cc) n c z out)) ∧ (¬ (0 < (I 27 0 41)) → (Rf (Sum.inl (some (vi (I 27 0 0)))) fs I (Cs cc) n c z out)))))) ∧ (¬ (k < m) → (((0 < (I 27 0 41)) → (Rf (Sum.inl (some (vi 0))) fs I (Cs cc) n c z out)) ∧ (¬ (0 < (I 27 0 41)) → (Rf (Sum.inl (some (vi (I 27 0 0)))) fs I (Cs cc) n c z out))))) : Rn 70 37 [some (vr 27 0), some (vi m), some (vi k)] [] (fs) I (Cs cc) n c z out :=
  (Rn.iload_n (pc2 := 38) rfl rfl rfl (Rn.iload_n (pc2 := 39) rfl rfl rfl (Rn.ic_ge (pc2 := 42) rfl rfl (fun q18 => (Rn.aload_n (pc2 := 43) rfl rfl rfl (Rn.getI (pc2 := 46) rfl rfl rfl rfl (Rn.iz_ne (pc2 := 49) rfl rfl (fun q19 => (Rn.aload_n (pc2 := 50) rfl rfl rfl (Rn.ivir (as := []) (r := []) (ls2 := [some (vr 27 0), none]) (f := 27) (i := 0) rfl rfl rfl rfl rfl rfl rfl ((h.1 q18).1 q19)))) (fun q19 => (Rn.aload_n (pc2 := 60) rfl rfl rfl (Rn.getI (pc2 := 63) rfl rfl rfl rfl (Rn.iz_le (pc2 := 66) rfl rfl (fun q20 => (Rn.iconst (pc2 := 67) rfl rfl (Rn.goto rfl (Rn.iret rfl rfl (((h.1 q18).2 q19).1 q20))))) (fun q20 => (Rn.aload_n (pc2 := 71) rfl rfl rfl (Rn.getI (pc2 := 74) rfl rfl rfl rfl (Rn.iret rfl rfl (((h.1 q18).2 q19).2 q20))))))))))))) (fun q18 => (Rn.aload_n (pc2 := 60) rfl rfl rfl (Rn.getI (pc2 := 63) rfl rfl rfl rfl (Rn.iz_le (pc2 := 66) rfl rfl (fun q21 => (Rn.iconst (pc2 := 67) rfl rfl (Rn.goto rfl (Rn.iret rfl rfl ((h.2 q18).1 q21))))) (fun q21 => (Rn.aload_n (pc2 := 71) rfl rfl rfl (Rn.getI (pc2 := 74) rfl rfl rfl rfl (Rn.iret rfl rfl ((h.2 q18).2 q21))))))))))))

theorem k70_53 {fs : List fr} {I : IT} {cc : Nat → Option Nat} {n c z : Nat} {out : oP} {m : Int} {k : Int} (h : Rn 70 37 [some (vr 27 0), some (vi m), some (vi (wr (k + 1)))] [] (fs) I (Cs cc) n c z out) : Rn 70 53 [some (vr 27 0), some (vi m), some (vi k)] [] (fs) I (Cs cc) n c z out :=
  (Rn.iinc (pc2 := 56) (ls2 := [some (vr 27 0), some (vi m), some (vi (wr (k + 1)))]) rfl rfl rfl rfl (Rn.goto rfl h))

def mntF : Nat → IT → IT
  | 0, S => S
  | d + 1, S => mntF d (mnt S)
theorem c_pass_l {fs : List fr} {n c z : Nat} {out : oP} {m : Int} (hm : m ≤ 3000) : ∀ (d g : Nat) (I : IT) (cc : Nat → Option Nat) (S : IT) (x3 : Option av), Sm I cc S → VP S → (g = 0 ∨ Stl S) → (g : Int) + d = m → S 27 0 0 + d ≤ 100000 → (∀ I2 cc2, Sm I2 cc2 (mntF d S) → VP (mntF d S) → (∀ f i j, 27 ≤ f → I2 f i j = I f i j) → Rf (Sum.inl (some (vi (mntF d S 27 0 0)))) fs I2 (Cs cc2) n c z out) → Rn 21 45 [some (vr 0 0), some (vi m), some (vi (g : Int)), x3] [] fs I (Cs cc) n c z out := by
  intro d
  induction d with
  | zero =>
    intro g I cc S x3 M V hg hgm hn h
    refine k21_45 ⟨fun h1 => by omega, fun h1 => ?_⟩
    rw [M.1]; exact h I cc M V (fun _ _ _ _ => rfl)
  | succ d ih =>
    intro g I cc S x3 M V hg hgm hn h
    have v5 := V.2.2.2.2
    refine c_minute M V hg (by omega) (by omega) (by omega) (fun I2 cc2 x3 M2 hI2 => ?_)
    refine ih (g + 1) I2 cc2 (mnt S) x3 M2 (VP_mnt V (by omega)) (Or.inr (sends_stl (VC_day9 (VC_fre9 (VC_tick V.1))))) (by omega) (by rw [mnt_now v5 (by omega)]; omega) (fun I3 cc3 M3 V3 hI3 => h I3 cc3 M3 V3 (fun f i j q => (hI3 f i j q).trans (hI2 f i j q)))
theorem agD_mnt {S : IT} : agD S (mnt S) := ((agD_tick.trans agD_fre9).trans agD_day9).trans agD_sends
theorem m_pass_l {fs : List fr} {cc : Nat → Option Nat} {n c z : Nat} {out : oP} {m : Int} (hm : m ≤ 3000) : ∀ (d k : Nat) (I : IT), VP I → VS I (I 27 0 1) → VN I (I 27 0 0) → (k : Int) + d = m → I 27 0 0 + d ≤ 100000 → I 27 0 41 = 0 → Rf (Sum.inl (some (vi (mntF d I 27 0 0)))) fs (mntF d I) (Cs cc) n c z out → Rn 70 37 [some (vr 27 0), some (vi m), some (vi (k : Int))] [] fs I (Cs cc) n c z out := by
  intro d
  induction d with
  | zero =>
    intro k I V W N hk hn h41 h
    refine k70_37 ⟨fun h1 => by omega, fun h1 => ⟨fun h2 => by omega, fun h2 => h⟩⟩
  | succ d ih =>
    intro k I V W N hk hn h41 h
    have v5 := V.2.2.2.2
    refine k70_37 ⟨fun h1 => ⟨fun h2 => ?_, fun h2 => absurd h41 h2⟩, fun h1 => by omega⟩
    refine m_minute V.1 V.2.1 W N (Rf.nn (pc2 := 53) rfl (k70_53 ?_))
    rw [wrI (by omega) (by omega), nS]
    refine ih (k + 1) (mnt I) (VP_mnt V (by omega)) ?_ ?_ (by omega) (by rw [mnt_now v5 (by omega)]; omega) ?_ h
    · rw [mnt_no (by omega) (by omega) (by omega)]; exact VS_ag agD_mnt W
    · rw [mnt_now v5 (by omega)]; exact VN_le (VN_ag agD_mnt N) (by omega)
    · rw [mnt_no (by omega) (by omega) (by omega)]; exact h41

