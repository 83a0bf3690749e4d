/-! The law's own call of a call; a judgement over the store held apart; and a machine for the law's code over concrete stores. -/
theorem kA_1 {fs : List fr} {I : IT} {cc : Nat → Option Nat} {n c z : Nat} {out : oP} {a : Int} {b : Int} {d : Int} {e : Int} (h : Rn 1 0 [some (vr 0 0)] [] ((162, 5, [some (vr 0 0), some (vi 0), some (vi a), some (vi b), some (vi d), some (vi e), none], []) :: fs) I (Cs cc) n c z out) : Rn 162 0 [some (vr 0 0), some (vi 0), some (vi a), some (vi b), some (vi d), some (vi e), none] [] (fs) I (Cs cc) n c z out :=
  (Rn.iload_n (pc2 := 1) rfl rfl rfl (Rn.iz_ne (pc2 := 4) rfl rfl (fun _ =>  (Rn.aload_n (pc2 := 5) rfl rfl rfl (Rn.ivir (as := []) (r := []) (ls2 := [some (vr 0 0)]) (f := 0) (i := 0) rfl rfl rfl rfl rfl rfl rfl h))) (fun q => absurd (show ((0 : Int) = 0) by decide) q)))

theorem kR_1 {fs : List fr} {I : IT} {cc : Nat → Option Nat} {n c z : Nat} {out : oP} {a : Int} {b : Int} {d : Int} {e : Int} {v : Int} (h : Rf (Sum.inl (some (vi v))) fs I (Cs cc) n c z out) : Rn 162 8 [some (vr 0 0), some (vi 0), some (vi a), some (vi b), some (vi d), some (vi e), none] [vi v] (fs) I (Cs cc) n c z out :=
  (Rn.goto rfl (Rn.iret rfl rfl h))

theorem kA_2 {fs : List fr} {I : IT} {cc : Nat → Option Nat} {n c z : Nat} {out : oP} {a : Int} {b : Int} {d : Int} {e : Int} (h : Rn 2 0 [some (vr 0 0), some (vi a), some (vi b), some (vi d)] [] ((162, 21, [some (vr 0 0), some (vi 1), some (vi a), some (vi b), some (vi d), some (vi e), none], []) :: fs) I (Cs cc) n c z out) : Rn 162 0 [some (vr 0 0), some (vi 1), some (vi a), some (vi b), some (vi d), some (vi e), none] [] (fs) I (Cs cc) n c z out :=
  (Rn.iload_n (pc2 := 1) rfl rfl rfl (Rn.iz_ne (pc2 := 4) rfl rfl (fun q => absurd q (show (¬ ((1 : Int) = 0)) by decide)) (fun _ =>  (Rn.iload_n (pc2 := 12) rfl rfl rfl (Rn.iconst (pc2 := 13) rfl rfl (Rn.ic_ne (pc2 := 16) rfl rfl (fun _ =>  (Rn.aload_n (pc2 := 17) rfl rfl rfl (Rn.iload_n (pc2 := 18) rfl rfl rfl (Rn.iload_n (pc2 := 19) rfl rfl rfl (Rn.iload (pc2 := 21) rfl rfl rfl (Rn.ivir (as := [vi a, vi b, vi d]) (r := []) (ls2 := [some (vr 0 0), some (vi a), some (vi b), some (vi d)]) (f := 0) (i := 0) rfl rfl rfl rfl rfl rfl rfl h)))))) (fun q => absurd (show ((1 : Int) = 1) by decide) q)))))))

theorem kR_2 {fs : List fr} {I : IT} {cc : Nat → Option Nat} {n c z : Nat} {out : oP} {a : Int} {b : Int} {d : Int} {e : Int} {v : Int} (h : Rf (Sum.inl (some (vi v))) fs I (Cs cc) n c z out) : Rn 162 24 [some (vr 0 0), some (vi 1), some (vi a), some (vi b), some (vi d), some (vi e), none] [vi v] (fs) I (Cs cc) n c z out :=
  (Rn.goto rfl (Rn.iret rfl rfl h))

theorem kA_3 {fs : List fr} {I : IT} {cc : Nat → Option Nat} {n c z : Nat} {out : oP} {a : Int} {b : Int} {d : Int} {e : Int} (h : Rn 3 0 [some (vr 0 0)] [] ((162, 33, [some (vr 0 0), some (vi 2), some (vi a), some (vi b), some (vi d), some (vi e), none], []) :: fs) I (Cs cc) n c z out) : Rn 162 0 [some (vr 0 0), some (vi 2), some (vi a), some (vi b), some (vi d), some (vi e), none] [] (fs) I (Cs cc) n c z out :=
  (Rn.iload_n (pc2 := 1) rfl rfl rfl (Rn.iz_ne (pc2 := 4) rfl rfl (fun q => absurd q (show (¬ ((2 : Int) = 0)) by decide)) (fun _ =>  (Rn.iload_n (pc2 := 12) rfl rfl rfl (Rn.iconst (pc2 := 13) rfl rfl (Rn.ic_ne (pc2 := 16) rfl rfl (fun q => absurd q (show (¬ ((2 : Int) = 1)) by decide)) (fun _ =>  (Rn.iload_n (pc2 := 28) rfl rfl rfl (Rn.iconst (pc2 := 29) rfl rfl (Rn.ic_ne (pc2 := 32) rfl rfl (fun _ =>  (Rn.aload_n (pc2 := 33) rfl rfl rfl (Rn.ivir (as := []) (r := []) (ls2 := [some (vr 0 0)]) (f := 0) (i := 0) rfl rfl rfl rfl rfl rfl rfl h))) (fun q => absurd (show ((2 : Int) = 2) by decide) q)))))))))))

theorem kR_3 {fs : List fr} {I : IT} {cc : Nat → Option Nat} {n c z : Nat} {out : oP} {a : Int} {b : Int} {d : Int} {e : Int} {v : Int} (h : Rf (Sum.inl (some (vi v))) fs I (Cs cc) n c z out) : Rn 162 36 [some (vr 0 0), some (vi 2), some (vi a), some (vi b), some (vi d), some (vi e), none] [vi v] (fs) I (Cs cc) n c z out :=
  (Rn.goto rfl (Rn.iret rfl rfl h))

theorem kA_4 {fs : List fr} {I : IT} {cc : Nat → Option Nat} {n c z : Nat} {out : oP} {a : Int} {b : Int} {d : Int} {e : Int} (h : Rn 4 0 [some (vr 0 0), some (vi a), some (vi b), some (vi d), some (vi e)] [] ((162, 51, [some (vr 0 0), some (vi 3), some (vi a), some (vi b), some (vi d), some (vi e), none], []) :: fs) I (Cs cc) n c z out) : Rn 162 0 [some (vr 0 0), some (vi 3), some (vi a), some (vi b), some (vi d), some (vi e), none] [] (fs) I (Cs cc) n c z out :=
  (Rn.iload_n (pc2 := 1) rfl rfl rfl (Rn.iz_ne (pc2 := 4) rfl rfl (fun q => absurd q (show (¬ ((3 : Int) = 0)) by decide)) (fun _ =>  (Rn.iload_n (pc2 := 12) rfl rfl rfl (Rn.iconst (pc2 := 13) rfl rfl (Rn.ic_ne (pc2 := 16) rfl rfl (fun q => absurd q (show (¬ ((3 : Int) = 1)) by decide)) (fun _ =>  (Rn.iload_n (pc2 := 28) rfl rfl rfl (Rn.iconst (pc2 := 29) rfl rfl (Rn.ic_ne (pc2 := 32) rfl rfl (fun q => absurd q (show (¬ ((3 : Int) = 2)) by decide)) (fun _ =>  (Rn.iload_n (pc2 := 40) rfl rfl rfl (Rn.iconst (pc2 := 41) rfl rfl (Rn.ic_ne (pc2 := 44) rfl rfl (fun _ =>  (Rn.aload_n (pc2 := 45) rfl rfl rfl (Rn.iload_n (pc2 := 46) rfl rfl rfl (Rn.iload_n (pc2 := 47) rfl rfl rfl (Rn.iload (pc2 := 49) rfl rfl rfl (Rn.iload (pc2 := 51) rfl rfl rfl (Rn.ivir (as := [vi a, vi b, vi d, vi e]) (r := []) (ls2 := [some (vr 0 0), some (vi a), some (vi b), some (vi d), some (vi e)]) (f := 0) (i := 0) rfl rfl rfl rfl rfl rfl rfl h))))))) (fun q => absurd (show ((3 : Int) = 3) by decide) q)))))))))))))))

theorem kR_4 {fs : List fr} {I : IT} {cc : Nat → Option Nat} {n c z : Nat} {out : oP} {a : Int} {b : Int} {d : Int} {e : Int} {v : Int} (h : Rf (Sum.inl (some (vi v))) fs I (Cs cc) n c z out) : Rn 162 54 [some (vr 0 0), some (vi 3), some (vi a), some (vi b), some (vi d), some (vi e), none] [vi v] (fs) I (Cs cc) n c z out :=
  (Rn.goto rfl (Rn.iret rfl rfl h))

theorem kA_5 {fs : List fr} {I : IT} {cc : Nat → Option Nat} {n c z : Nat} {out : oP} {a : Int} {b : Int} {d : Int} {e : Int} (h : Rn 5 0 [some (vr 0 0), some (vi a), some (vi b), none] [] ((162, 65, [some (vr 0 0), some (vi 4), some (vi a), some (vi b), some (vi d), some (vi e), none], []) :: fs) I (Cs cc) n c z out) : Rn 162 0 [some (vr 0 0), some (vi 4), some (vi a), some (vi b), some (vi d), some (vi e), none] [] (fs) I (Cs cc) n c z out :=
  (Rn.iload_n (pc2 := 1) rfl rfl rfl (Rn.iz_ne (pc2 := 4) rfl rfl (fun q => absurd q (show (¬ ((4 : Int) = 0)) by decide)) (fun _ =>  (Rn.iload_n (pc2 := 12) rfl rfl rfl (Rn.iconst (pc2 := 13) rfl rfl (Rn.ic_ne (pc2 := 16) rfl rfl (fun q => absurd q (show (¬ ((4 : Int) = 1)) by decide)) (fun _ =>  (Rn.iload_n (pc2 := 28) rfl rfl rfl (Rn.iconst (pc2 := 29) rfl rfl (Rn.ic_ne (pc2 := 32) rfl rfl (fun q => absurd q (show (¬ ((4 : Int) = 2)) by decide)) (fun _ =>  (Rn.iload_n (pc2 := 40) rfl rfl rfl (Rn.iconst (pc2 := 41) rfl rfl (Rn.ic_ne (pc2 := 44) rfl rfl (fun q => absurd q (show (¬ ((4 : Int) = 3)) by decide)) (fun _ =>  (Rn.iload_n (pc2 := 58) rfl rfl rfl (Rn.iconst (pc2 := 59) rfl rfl (Rn.ic_ne (pc2 := 62) rfl rfl (fun _ =>  (Rn.aload_n (pc2 := 63) rfl rfl rfl (Rn.iload_n (pc2 := 64) rfl rfl rfl (Rn.iload_n (pc2 := 65) rfl rfl rfl (Rn.ivir (as := [vi a, vi b]) (r := []) (ls2 := [some (vr 0 0), some (vi a), some (vi b), none]) (f := 0) (i := 0) rfl rfl rfl rfl rfl rfl rfl h))))) (fun q => absurd (show ((4 : Int) = 4) by decide) q)))))))))))))))))))

theorem kR_5 {fs : List fr} {I : IT} {cc : Nat → Option Nat} {n c z : Nat} {out : oP} {a : Int} {b : Int} {d : Int} {e : Int} {v : Int} (h : Rf (Sum.inl (some (vi v))) fs I (Cs cc) n c z out) : Rn 162 68 [some (vr 0 0), some (vi 4), some (vi a), some (vi b), some (vi d), some (vi e), none] [vi v] (fs) I (Cs cc) n c z out :=
  (Rn.goto rfl (Rn.iret rfl rfl h))

theorem kA_6 {fs : List fr} {I : IT} {cc : Nat → Option Nat} {n c z : Nat} {out : oP} {a : Int} {b : Int} {d : Int} {e : Int} (h : Rn 6 0 [some (vr 0 0), some (vi a), some (vi b)] [] ((162, 79, [some (vr 0 0), some (vi 5), some (vi a), some (vi b), some (vi d), some (vi e), none], []) :: fs) I (Cs cc) n c z out) : Rn 162 0 [some (vr 0 0), some (vi 5), some (vi a), some (vi b), some (vi d), some (vi e), none] [] (fs) I (Cs cc) n c z out :=
  (Rn.iload_n (pc2 := 1) rfl rfl rfl (Rn.iz_ne (pc2 := 4) rfl rfl (fun q => absurd q (show (¬ ((5 : Int) = 0)) by decide)) (fun _ =>  (Rn.iload_n (pc2 := 12) rfl rfl rfl (Rn.iconst (pc2 := 13) rfl rfl (Rn.ic_ne (pc2 := 16) rfl rfl (fun q => absurd q (show (¬ ((5 : Int) = 1)) by decide)) (fun _ =>  (Rn.iload_n (pc2 := 28) rfl rfl rfl (Rn.iconst (pc2 := 29) rfl rfl (Rn.ic_ne (pc2 := 32) rfl rfl (fun q => absurd q (show (¬ ((5 : Int) = 2)) by decide)) (fun _ =>  (Rn.iload_n (pc2 := 40) rfl rfl rfl (Rn.iconst (pc2 := 41) rfl rfl (Rn.ic_ne (pc2 := 44) rfl rfl (fun q => absurd q (show (¬ ((5 : Int) = 3)) by decide)) (fun _ =>  (Rn.iload_n (pc2 := 58) rfl rfl rfl (Rn.iconst (pc2 := 59) rfl rfl (Rn.ic_ne (pc2 := 62) rfl rfl (fun q => absurd q (show (¬ ((5 : Int) = 4)) by decide)) (fun _ =>  (Rn.iload_n (pc2 := 72) rfl rfl rfl (Rn.iconst (pc2 := 73) rfl rfl (Rn.ic_ne (pc2 := 76) rfl rfl (fun _ =>  (Rn.aload_n (pc2 := 77) rfl rfl rfl (Rn.iload_n (pc2 := 78) rfl rfl rfl (Rn.iload_n (pc2 := 79) rfl rfl rfl (Rn.ivir (as := [vi a, vi b]) (r := []) (ls2 := [some (vr 0 0), some (vi a), some (vi b)]) (f := 0) (i := 0) rfl rfl rfl rfl rfl rfl rfl h))))) (fun q => absurd (show ((5 : Int) = 5) by decide) q)))))))))))))))))))))))

theorem kR_6 {fs : List fr} {I : IT} {cc : Nat → Option Nat} {n c z : Nat} {out : oP} {a : Int} {b : Int} {d : Int} {e : Int} {v : Int} (h : ((v = 0) → (Rf (Sum.inl (some (vi 0))) fs I (Cs cc) n c z out)) ∧ (¬ (v = 0) → (Rf (Sum.inl (some (vi 1))) fs I (Cs cc) n c z out))) : Rn 162 82 [some (vr 0 0), some (vi 5), some (vi a), some (vi b), some (vi d), some (vi e), none] [vi v] (fs) I (Cs cc) n c z out :=
  (Rn.iz_eq (pc2 := 85) rfl rfl (fun q1 => (Rn.iconst (pc2 := 90) rfl rfl (Rn.goto rfl (Rn.iret rfl rfl (h.1 q1))))) (fun q1 => (Rn.iconst (pc2 := 86) rfl rfl (Rn.goto rfl (Rn.iret rfl rfl (h.2 q1))))))

theorem kA_7 {fs : List fr} {I : IT} {cc : Nat → Option Nat} {n c z : Nat} {out : oP} {a : Int} {b : Int} {d : Int} {e : Int} (h : Rn 7 0 [some (vr 0 0), some (vi a), some (vi b)] [] ((162, 102, [some (vr 0 0), some (vi 6), some (vi a), some (vi b), some (vi d), some (vi e), none], []) :: fs) I (Cs cc) n c z out) : Rn 162 0 [some (vr 0 0), some (vi 6), some (vi a), some (vi b), some (vi d), some (vi e), none] [] (fs) I (Cs cc) n c z out :=
  (Rn.iload_n (pc2 := 1) rfl rfl rfl (Rn.iz_ne (pc2 := 4) rfl rfl (fun q => absurd q (show (¬ ((6 : Int) = 0)) by decide)) (fun _ =>  (Rn.iload_n (pc2 := 12) rfl rfl rfl (Rn.iconst (pc2 := 13) rfl rfl (Rn.ic_ne (pc2 := 16) rfl rfl (fun q => absurd q (show (¬ ((6 : Int) = 1)) by decide)) (fun _ =>  (Rn.iload_n (pc2 := 28) rfl rfl rfl (Rn.iconst (pc2 := 29) rfl rfl (Rn.ic_ne (pc2 := 32) rfl rfl (fun q => absurd q (show (¬ ((6 : Int) = 2)) by decide)) (fun _ =>  (Rn.iload_n (pc2 := 40) rfl rfl rfl (Rn.iconst (pc2 := 41) rfl rfl (Rn.ic_ne (pc2 := 44) rfl rfl (fun q => absurd q (show (¬ ((6 : Int) = 3)) by decide)) (fun _ =>  (Rn.iload_n (pc2 := 58) rfl rfl rfl (Rn.iconst (pc2 := 59) rfl rfl (Rn.ic_ne (pc2 := 62) rfl rfl (fun q => absurd q (show (¬ ((6 : Int) = 4)) by decide)) (fun _ =>  (Rn.iload_n (pc2 := 72) rfl rfl rfl (Rn.iconst (pc2 := 73) rfl rfl (Rn.ic_ne (pc2 := 76) rfl rfl (fun q => absurd q (show (¬ ((6 : Int) = 5)) by decide)) (fun _ =>  (Rn.iload_n (pc2 := 94) rfl rfl rfl (Rn.bipush (pc2 := 96) rfl rfl (Rn.ic_ne (pc2 := 99) rfl rfl (fun _ =>  (Rn.aload_n (pc2 := 100) rfl rfl rfl (Rn.iload_n (pc2 := 101) rfl rfl rfl (Rn.iload_n (pc2 := 102) rfl rfl rfl (Rn.ivir (as := [vi a, vi b]) (r := []) (ls2 := [some (vr 0 0), some (vi a), some (vi b)]) (f := 0) (i := 0) rfl rfl rfl rfl rfl rfl rfl h))))) (fun q => absurd (show ((6 : Int) = 6) by decide) q)))))))))))))))))))))))))))

theorem kR_7 {fs : List fr} {I : IT} {cc : Nat → Option Nat} {n c z : Nat} {out : oP} {a : Int} {b : Int} {d : Int} {e : Int} {v : Int} (h : Rf (Sum.inl (some (vi v))) fs I (Cs cc) n c z out) : Rn 162 105 [some (vr 0 0), some (vi 6), some (vi a), some (vi b), some (vi d), some (vi e), none] [vi v] (fs) I (Cs cc) n c z out :=
  (Rn.goto rfl (Rn.iret rfl rfl h))

theorem kA_8 {fs : List fr} {I : IT} {cc : Nat → Option Nat} {n c z : Nat} {out : oP} {a : Int} {b : Int} {d : Int} {e : Int} (h : Rn 8 0 [some (vr 0 0), some (vi a), some (vi b)] [] ((162, 117, [some (vr 0 0), some (vi 7), some (vi a), some (vi b), some (vi d), some (vi e), none], []) :: fs) I (Cs cc) n c z out) : Rn 162 0 [some (vr 0 0), some (vi 7), some (vi a), some (vi b), some (vi d), some (vi e), none] [] (fs) I (Cs cc) n c z out :=
  (Rn.iload_n (pc2 := 1) rfl rfl rfl (Rn.iz_ne (pc2 := 4) rfl rfl (fun q => absurd q (show (¬ ((7 : Int) = 0)) by decide)) (fun _ =>  (Rn.iload_n (pc2 := 12) rfl rfl rfl (Rn.iconst (pc2 := 13) rfl rfl (Rn.ic_ne (pc2 := 16) rfl rfl (fun q => absurd q (show (¬ ((7 : Int) = 1)) by decide)) (fun _ =>  (Rn.iload_n (pc2 := 28) rfl rfl rfl (Rn.iconst (pc2 := 29) rfl rfl (Rn.ic_ne (pc2 := 32) rfl rfl (fun q => absurd q (show (¬ ((7 : Int) = 2)) by decide)) (fun _ =>  (Rn.iload_n (pc2 := 40) rfl rfl rfl (Rn.iconst (pc2 := 41) rfl rfl (Rn.ic_ne (pc2 := 44) rfl rfl (fun q => absurd q (show (¬ ((7 : Int) = 3)) by decide)) (fun _ =>  (Rn.iload_n (pc2 := 58) rfl rfl rfl (Rn.iconst (pc2 := 59) rfl rfl (Rn.ic_ne (pc2 := 62) rfl rfl (fun q => absurd q (show (¬ ((7 : Int) = 4)) by decide)) (fun _ =>  (Rn.iload_n (pc2 := 72) rfl rfl rfl (Rn.iconst (pc2 := 73) rfl rfl (Rn.ic_ne (pc2 := 76) rfl rfl (fun q => absurd q (show (¬ ((7 : Int) = 5)) by decide)) (fun _ =>  (Rn.iload_n (pc2 := 94) rfl rfl rfl (Rn.bipush (pc2 := 96) rfl rfl (Rn.ic_ne (pc2 := 99) rfl rfl (fun q => absurd q (show (¬ ((7 : Int) = 6)) by decide)) (fun _ =>  (Rn.iload_n (pc2 := 109) rfl rfl rfl (Rn.bipush (pc2 := 111) rfl rfl (Rn.ic_ne (pc2 := 114) rfl rfl (fun _ =>  (Rn.aload_n (pc2 := 115) rfl rfl rfl (Rn.iload_n (pc2 := 116) rfl rfl rfl (Rn.iload_n (pc2 := 117) rfl rfl rfl (Rn.ivir (as := [vi a, vi b]) (r := []) (ls2 := [some (vr 0 0), some (vi a), some (vi b)]) (f := 0) (i := 0) rfl rfl rfl rfl rfl rfl rfl h))))) (fun q => absurd (show ((7 : Int) = 7) by decide) q)))))))))))))))))))))))))))))))

theorem kR_8 {fs : List fr} {I : IT} {cc : Nat → Option Nat} {n c z : Nat} {out : oP} {a : Int} {b : Int} {d : Int} {e : Int} {v : Int} (h : Rf (Sum.inl (some (vi v))) fs I (Cs cc) n c z out) : Rn 162 120 [some (vr 0 0), some (vi 7), some (vi a), some (vi b), some (vi d), some (vi e), none] [vi v] (fs) I (Cs cc) n c z out :=
  (Rn.goto rfl (Rn.iret rfl rfl h))

theorem kA_9 {fs : List fr} {I : IT} {cc : Nat → Option Nat} {n c z : Nat} {out : oP} {a : Int} {b : Int} {d : Int} {e : Int} (h : Rn 9 0 [some (vr 0 0), some (vi a), some (vi b)] [] ((162, 132, [some (vr 0 0), some (vi 8), some (vi a), some (vi b), some (vi d), some (vi e), none], []) :: fs) I (Cs cc) n c z out) : Rn 162 0 [some (vr 0 0), some (vi 8), some (vi a), some (vi b), some (vi d), some (vi e), none] [] (fs) I (Cs cc) n c z out :=
  (Rn.iload_n (pc2 := 1) rfl rfl rfl (Rn.iz_ne (pc2 := 4) rfl rfl (fun q => absurd q (show (¬ ((8 : Int) = 0)) by decide)) (fun _ =>  (Rn.iload_n (pc2 := 12) rfl rfl rfl (Rn.iconst (pc2 := 13) rfl rfl (Rn.ic_ne (pc2 := 16) rfl rfl (fun q => absurd q (show (¬ ((8 : Int) = 1)) by decide)) (fun _ =>  (Rn.iload_n (pc2 := 28) rfl rfl rfl (Rn.iconst (pc2 := 29) rfl rfl (Rn.ic_ne (pc2 := 32) rfl rfl (fun q => absurd q (show (¬ ((8 : Int) = 2)) by decide)) (fun _ =>  (Rn.iload_n (pc2 := 40) rfl rfl rfl (Rn.iconst (pc2 := 41) rfl rfl (Rn.ic_ne (pc2 := 44) rfl rfl (fun q => absurd q (show (¬ ((8 : Int) = 3)) by decide)) (fun _ =>  (Rn.iload_n (pc2 := 58) rfl rfl rfl (Rn.iconst (pc2 := 59) rfl rfl (Rn.ic_ne (pc2 := 62) rfl rfl (fun q => absurd q (show (¬ ((8 : Int) = 4)) by decide)) (fun _ =>  (Rn.iload_n (pc2 := 72) rfl rfl rfl (Rn.iconst (pc2 := 73) rfl rfl (Rn.ic_ne (pc2 := 76) rfl rfl (fun q => absurd q (show (¬ ((8 : Int) = 5)) by decide)) (fun _ =>  (Rn.iload_n (pc2 := 94) rfl rfl rfl (Rn.bipush (pc2 := 96) rfl rfl (Rn.ic_ne (pc2 := 99) rfl rfl (fun q => absurd q (show (¬ ((8 : Int) = 6)) by decide)) (fun _ =>  (Rn.iload_n (pc2 := 109) rfl rfl rfl (Rn.bipush (pc2 := 111) rfl rfl (Rn.ic_ne (pc2 := 114) rfl rfl (fun q => absurd q (show (¬ ((8 : Int) = 7)) by decide)) (fun _ =>  (Rn.iload_n (pc2 := 124) rfl rfl rfl (Rn.bipush (pc2 := 126) rfl rfl (Rn.ic_ne (pc2 := 129) rfl rfl (fun _ =>  (Rn.aload_n (pc2 := 130) rfl rfl rfl (Rn.iload_n (pc2 := 131) rfl rfl rfl (Rn.iload_n (pc2 := 132) rfl rfl rfl (Rn.ivir (as := [vi a, vi b]) (r := []) (ls2 := [some (vr 0 0), some (vi a), some (vi b)]) (f := 0) (i := 0) rfl rfl rfl rfl rfl rfl rfl h))))) (fun q => absurd (show ((8 : Int) = 8) by decide) q)))))))))))))))))))))))))))))))))))

theorem kR_9 {fs : List fr} {I : IT} {cc : Nat → Option Nat} {n c z : Nat} {out : oP} {a : Int} {b : Int} {d : Int} {e : Int} {v : Int} (h : Rf (Sum.inl (some (vi v))) fs I (Cs cc) n c z out) : Rn 162 135 [some (vr 0 0), some (vi 8), some (vi a), some (vi b), some (vi d), some (vi e), none] [vi v] (fs) I (Cs cc) n c z out :=
  (Rn.goto rfl (Rn.iret rfl rfl h))

theorem kA_10 {fs : List fr} {I : IT} {cc : Nat → Option Nat} {n c z : Nat} {out : oP} {a : Int} {b : Int} {d : Int} {e : Int} (h : Rn 10 0 [some (vr 0 0), some (vi a), some (vi b)] [] ((162, 147, [some (vr 0 0), some (vi 9), some (vi a), some (vi b), some (vi d), some (vi e), none], []) :: fs) I (Cs cc) n c z out) : Rn 162 0 [some (vr 0 0), some (vi 9), some (vi a), some (vi b), some (vi d), some (vi e), none] [] (fs) I (Cs cc) n c z out :=
  (Rn.iload_n (pc2 := 1) rfl rfl rfl (Rn.iz_ne (pc2 := 4) rfl rfl (fun q => absurd q (show (¬ ((9 : Int) = 0)) by decide)) (fun _ =>  (Rn.iload_n (pc2 := 12) rfl rfl rfl (Rn.iconst (pc2 := 13) rfl rfl (Rn.ic_ne (pc2 := 16) rfl rfl (fun q => absurd q (show (¬ ((9 : Int) = 1)) by decide)) (fun _ =>  (Rn.iload_n (pc2 := 28) rfl rfl rfl (Rn.iconst (pc2 := 29) rfl rfl (Rn.ic_ne (pc2 := 32) rfl rfl (fun q => absurd q (show (¬ ((9 : Int) = 2)) by decide)) (fun _ =>  (Rn.iload_n (pc2 := 40) rfl rfl rfl (Rn.iconst (pc2 := 41) rfl rfl (Rn.ic_ne (pc2 := 44) rfl rfl (fun q => absurd q (show (¬ ((9 : Int) = 3)) by decide)) (fun _ =>  (Rn.iload_n (pc2 := 58) rfl rfl rfl (Rn.iconst (pc2 := 59) rfl rfl (Rn.ic_ne (pc2 := 62) rfl rfl (fun q => absurd q (show (¬ ((9 : Int) = 4)) by decide)) (fun _ =>  (Rn.iload_n (pc2 := 72) rfl rfl rfl (Rn.iconst (pc2 := 73) rfl rfl (Rn.ic_ne (pc2 := 76) rfl rfl (fun q => absurd q (show (¬ ((9 : Int) = 5)) by decide)) (fun _ =>  (Rn.iload_n (pc2 := 94) rfl rfl rfl (Rn.bipush (pc2 := 96) rfl rfl (Rn.ic_ne (pc2 := 99) rfl rfl (fun q => absurd q (show (¬ ((9 : Int) = 6)) by decide)) (fun _ =>  (Rn.iload_n (pc2 := 109) rfl rfl rfl (Rn.bipush (pc2 := 111) rfl rfl (Rn.ic_ne (pc2 := 114) rfl rfl (fun q => absurd q (show (¬ ((9 : Int) = 7)) by decide)) (fun _ =>  (Rn.iload_n (pc2 := 124) rfl rfl rfl (Rn.bipush (pc2 := 126) rfl rfl (Rn.ic_ne (pc2 := 129) rfl rfl (fun q => absurd q (show (¬ ((9 : Int) = 8)) by decide)) (fun _ =>  (Rn.iload_n (pc2 := 139) rfl rfl rfl (Rn.bipush (pc2 := 141) rfl rfl (Rn.ic_ne (pc2 := 144) rfl rfl (fun _ =>  (Rn.aload_n (pc2 := 145) rfl rfl rfl (Rn.iload_n (pc2 := 146) rfl rfl rfl (Rn.iload_n (pc2 := 147) rfl rfl rfl (Rn.ivir (as := [vi a, vi b]) (r := []) (ls2 := [some (vr 0 0), some (vi a), some (vi b)]) (f := 0) (i := 0) rfl rfl rfl rfl rfl rfl rfl h))))) (fun q => absurd (show ((9 : Int) = 9) by decide) q)))))))))))))))))))))))))))))))))))))))

theorem kR_10 {fs : List fr} {I : IT} {cc : Nat → Option Nat} {n c z : Nat} {out : oP} {a : Int} {b : Int} {d : Int} {e : Int} {v : Int} (h : Rf (Sum.inl (some (vi v))) fs I (Cs cc) n c z out) : Rn 162 150 [some (vr 0 0), some (vi 9), some (vi a), some (vi b), some (vi d), some (vi e), none] [vi v] (fs) I (Cs cc) n c z out :=
  (Rn.goto rfl (Rn.iret rfl rfl h))

theorem kA_11 {fs : List fr} {I : IT} {cc : Nat → Option Nat} {n c z : Nat} {out : oP} {a : Int} {b : Int} {d : Int} {e : Int} (h : Rn 11 0 [some (vr 0 0), some (vi a)] [] ((162, 161, [some (vr 0 0), some (vi 10), some (vi a), some (vi b), some (vi d), some (vi e), none], []) :: fs) I (Cs cc) n c z out) : Rn 162 0 [some (vr 0 0), some (vi 10), some (vi a), some (vi b), some (vi d), some (vi e), none] [] (fs) I (Cs cc) n c z out :=
  (Rn.iload_n (pc2 := 1) rfl rfl rfl (Rn.iz_ne (pc2 := 4) rfl rfl (fun q => absurd q (show (¬ ((10 : Int) = 0)) by decide)) (fun _ =>  (Rn.iload_n (pc2 := 12) rfl rfl rfl (Rn.iconst (pc2 := 13) rfl rfl (Rn.ic_ne (pc2 := 16) rfl rfl (fun q => absurd q (show (¬ ((10 : Int) = 1)) by decide)) (fun _ =>  (Rn.iload_n (pc2 := 28) rfl rfl rfl (Rn.iconst (pc2 := 29) rfl rfl (Rn.ic_ne (pc2 := 32) rfl rfl (fun q => absurd q (show (¬ ((10 : Int) = 2)) by decide)) (fun _ =>  (Rn.iload_n (pc2 := 40) rfl rfl rfl (Rn.iconst (pc2 := 41) rfl rfl (Rn.ic_ne (pc2 := 44) rfl rfl (fun q => absurd q (show (¬ ((10 : Int) = 3)) by decide)) (fun _ =>  (Rn.iload_n (pc2 := 58) rfl rfl rfl (Rn.iconst (pc2 := 59) rfl rfl (Rn.ic_ne (pc2 := 62) rfl rfl (fun q => absurd q (show (¬ ((10 : Int) = 4)) by decide)) (fun _ =>  (Rn.iload_n (pc2 := 72) rfl rfl rfl (Rn.iconst (pc2 := 73) rfl rfl (Rn.ic_ne (pc2 := 76) rfl rfl (fun q => absurd q (show (¬ ((10 : Int) = 5)) by decide)) (fun _ =>  (Rn.iload_n (pc2 := 94) rfl rfl rfl (Rn.bipush (pc2 := 96) rfl rfl (Rn.ic_ne (pc2 := 99) rfl rfl (fun q => absurd q (show (¬ ((10 : Int) = 6)) by decide)) (fun _ =>  (Rn.iload_n (pc2 := 109) rfl rfl rfl (Rn.bipush (pc2 := 111) rfl rfl (Rn.ic_ne (pc2 := 114) rfl rfl (fun q => absurd q (show (¬ ((10 : Int) = 7)) by decide)) (fun _ =>  (Rn.iload_n (pc2 := 124) rfl rfl rfl (Rn.bipush (pc2 := 126) rfl rfl (Rn.ic_ne (pc2 := 129) rfl rfl (fun q => absurd q (show (¬ ((10 : Int) = 8)) by decide)) (fun _ =>  (Rn.iload_n (pc2 := 139) rfl rfl rfl (Rn.bipush (pc2 := 141) rfl rfl (Rn.ic_ne (pc2 := 144) rfl rfl (fun q => absurd q (show (¬ ((10 : Int) = 9)) by decide)) (fun _ =>  (Rn.iload_n (pc2 := 154) rfl rfl rfl (Rn.bipush (pc2 := 156) rfl rfl (Rn.ic_ne (pc2 := 159) rfl rfl (fun _ =>  (Rn.aload_n (pc2 := 160) rfl rfl rfl (Rn.iload_n (pc2 := 161) rfl rfl rfl (Rn.ivir (as := [vi a]) (r := []) (ls2 := [some (vr 0 0), some (vi a)]) (f := 0) (i := 0) rfl rfl rfl rfl rfl rfl rfl h)))) (fun q => absurd (show ((10 : Int) = 10) by decide) q)))))))))))))))))))))))))))))))))))))))))))

theorem kR_11 {fs : List fr} {I : IT} {cc : Nat → Option Nat} {n c z : Nat} {out : oP} {a : Int} {b : Int} {d : Int} {e : Int} {v : Int} (h : Rf (Sum.inl (some (vi v))) fs I (Cs cc) n c z out) : Rn 162 164 [some (vr 0 0), some (vi 10), some (vi a), some (vi b), some (vi d), some (vi e), none] [vi v] (fs) I (Cs cc) n c z out :=
  (Rn.goto rfl (Rn.iret rfl rfl h))

theorem kA_12 {fs : List fr} {I : IT} {cc : Nat → Option Nat} {n c z : Nat} {out : oP} {a : Int} {b : Int} {d : Int} {e : Int} (h : Rn 12 0 [some (vr 0 0), some (vi a), some (vi b), none] [] ((162, 176, [some (vr 0 0), some (vi 11), some (vi a), some (vi b), some (vi d), some (vi e), none], []) :: fs) I (Cs cc) n c z out) : Rn 162 0 [some (vr 0 0), some (vi 11), some (vi a), some (vi b), some (vi d), some (vi e), none] [] (fs) I (Cs cc) n c z out :=
  (Rn.iload_n (pc2 := 1) rfl rfl rfl (Rn.iz_ne (pc2 := 4) rfl rfl (fun q => absurd q (show (¬ ((11 : Int) = 0)) by decide)) (fun _ =>  (Rn.iload_n (pc2 := 12) rfl rfl rfl (Rn.iconst (pc2 := 13) rfl rfl (Rn.ic_ne (pc2 := 16) rfl rfl (fun q => absurd q (show (¬ ((11 : Int) = 1)) by decide)) (fun _ =>  (Rn.iload_n (pc2 := 28) rfl rfl rfl (Rn.iconst (pc2 := 29) rfl rfl (Rn.ic_ne (pc2 := 32) rfl rfl (fun q => absurd q (show (¬ ((11 : Int) = 2)) by decide)) (fun _ =>  (Rn.iload_n (pc2 := 40) rfl rfl rfl (Rn.iconst (pc2 := 41) rfl rfl (Rn.ic_ne (pc2 := 44) rfl rfl (fun q => absurd q (show (¬ ((11 : Int) = 3)) by decide)) (fun _ =>  (Rn.iload_n (pc2 := 58) rfl rfl rfl (Rn.iconst (pc2 := 59) rfl rfl (Rn.ic_ne (pc2 := 62) rfl rfl (fun q => absurd q (show (¬ ((11 : Int) = 4)) by decide)) (fun _ =>  (Rn.iload_n (pc2 := 72) rfl rfl rfl (Rn.iconst (pc2 := 73) rfl rfl (Rn.ic_ne (pc2 := 76) rfl rfl (fun q => absurd q (show (¬ ((11 : Int) = 5)) by decide)) (fun _ =>  (Rn.iload_n (pc2 := 94) rfl rfl rfl (Rn.bipush (pc2 := 96) rfl rfl (Rn.ic_ne (pc2 := 99) rfl rfl (fun q => absurd q (show (¬ ((11 : Int) = 6)) by decide)) (fun _ =>  (Rn.iload_n (pc2 := 109) rfl rfl rfl (Rn.bipush (pc2 := 111) rfl rfl (Rn.ic_ne (pc2 := 114) rfl rfl (fun q => absurd q (show (¬ ((11 : Int) = 7)) by decide)) (fun _ =>  (Rn.iload_n (pc2 := 124) rfl rfl rfl (Rn.bipush (pc2 := 126) rfl rfl (Rn.ic_ne (pc2 := 129) rfl rfl (fun q => absurd q (show (¬ ((11 : Int) = 8)) by decide)) (fun _ =>  (Rn.iload_n (pc2 := 139) rfl rfl rfl (Rn.bipush (pc2 := 141) rfl rfl (Rn.ic_ne (pc2 := 144) rfl rfl (fun q => absurd q (show (¬ ((11 : Int) = 9)) by decide)) (fun _ =>  (Rn.iload_n (pc2 := 154) rfl rfl rfl (Rn.bipush (pc2 := 156) rfl rfl (Rn.ic_ne (pc2 := 159) rfl rfl (fun q => absurd q (show (¬ ((11 : Int) = 10)) by decide)) (fun _ =>  (Rn.iload_n (pc2 := 168) rfl rfl rfl (Rn.bipush (pc2 := 170) rfl rfl (Rn.ic_ne (pc2 := 173) rfl rfl (fun _ =>  (Rn.aload_n (pc2 := 174) rfl rfl rfl (Rn.iload_n (pc2 := 175) rfl rfl rfl (Rn.iload_n (pc2 := 176) rfl rfl rfl (Rn.ivir (as := [vi a, vi b]) (r := []) (ls2 := [some (vr 0 0), some (vi a), some (vi b), none]) (f := 0) (i := 0) rfl rfl rfl rfl rfl rfl rfl h))))) (fun q => absurd (show ((11 : Int) = 11) by decide) q)))))))))))))))))))))))))))))))))))))))))))))))

theorem kR_12 {fs : List fr} {I : IT} {cc : Nat → Option Nat} {n c z : Nat} {out : oP} {a : Int} {b : Int} {d : Int} {e : Int} {v : Int} (h : Rf (Sum.inl (some (vi v))) fs I (Cs cc) n c z out) : Rn 162 179 [some (vr 0 0), some (vi 11), some (vi a), some (vi b), some (vi d), some (vi e), none] [vi v] (fs) I (Cs cc) n c z out :=
  (Rn.goto rfl (Rn.iret rfl rfl h))

theorem kA_13 {fs : List fr} {I : IT} {cc : Nat → Option Nat} {n c z : Nat} {out : oP} {a : Int} {b : Int} {d : Int} {e : Int} (h : Rn 13 0 [some (vr 0 0), some (vi a), some (vi b)] [] ((162, 191, [some (vr 0 0), some (vi 12), some (vi a), some (vi b), some (vi d), some (vi e), none], []) :: fs) I (Cs cc) n c z out) : Rn 162 0 [some (vr 0 0), some (vi 12), some (vi a), some (vi b), some (vi d), some (vi e), none] [] (fs) I (Cs cc) n c z out :=
  (Rn.iload_n (pc2 := 1) rfl rfl rfl (Rn.iz_ne (pc2 := 4) rfl rfl (fun q => absurd q (show (¬ ((12 : Int) = 0)) by decide)) (fun _ =>  (Rn.iload_n (pc2 := 12) rfl rfl rfl (Rn.iconst (pc2 := 13) rfl rfl (Rn.ic_ne (pc2 := 16) rfl rfl (fun q => absurd q (show (¬ ((12 : Int) = 1)) by decide)) (fun _ =>  (Rn.iload_n (pc2 := 28) rfl rfl rfl (Rn.iconst (pc2 := 29) rfl rfl (Rn.ic_ne (pc2 := 32) rfl rfl (fun q => absurd q (show (¬ ((12 : Int) = 2)) by decide)) (fun _ =>  (Rn.iload_n (pc2 := 40) rfl rfl rfl (Rn.iconst (pc2 := 41) rfl rfl (Rn.ic_ne (pc2 := 44) rfl rfl (fun q => absurd q (show (¬ ((12 : Int) = 3)) by decide)) (fun _ =>  (Rn.iload_n (pc2 := 58) rfl rfl rfl (Rn.iconst (pc2 := 59) rfl rfl (Rn.ic_ne (pc2 := 62) rfl rfl (fun q => absurd q (show (¬ ((12 : Int) = 4)) by decide)) (fun _ =>  (Rn.iload_n (pc2 := 72) rfl rfl rfl (Rn.iconst (pc2 := 73) rfl rfl (Rn.ic_ne (pc2 := 76) rfl rfl (fun q => absurd q (show (¬ ((12 : Int) = 5)) by decide)) (fun _ =>  (Rn.iload_n (pc2 := 94) rfl rfl rfl (Rn.bipush (pc2 := 96) rfl rfl (Rn.ic_ne (pc2 := 99) rfl rfl (fun q => absurd q (show (¬ ((12 : Int) = 6)) by decide)) (fun _ =>  (Rn.iload_n (pc2 := 109) rfl rfl rfl (Rn.bipush (pc2 := 111) rfl rfl (Rn.ic_ne (pc2 := 114) rfl rfl (fun q => absurd q (show (¬ ((12 : Int) = 7)) by decide)) (fun _ =>  (Rn.iload_n (pc2 := 124) rfl rfl rfl (Rn.bipush (pc2 := 126) rfl rfl (Rn.ic_ne (pc2 := 129) rfl rfl (fun q => absurd q (show (¬ ((12 : Int) = 8)) by decide)) (fun _ =>  (Rn.iload_n (pc2 := 139) rfl rfl rfl (Rn.bipush (pc2 := 141) rfl rfl (Rn.ic_ne (pc2 := 144) rfl rfl (fun q => absurd q (show (¬ ((12 : Int) = 9)) by decide)) (fun _ =>  (Rn.iload_n (pc2 := 154) rfl rfl rfl (Rn.bipush (pc2 := 156) rfl rfl (Rn.ic_ne (pc2 := 159) rfl rfl (fun q => absurd q (show (¬ ((12 : Int) = 10)) by decide)) (fun _ =>  (Rn.iload_n (pc2 := 168) rfl rfl rfl (Rn.bipush (pc2 := 170) rfl rfl (Rn.ic_ne (pc2 := 173) rfl rfl (fun q => absurd q (show (¬ ((12 : Int) = 11)) by decide)) (fun _ =>  (Rn.iload_n (pc2 := 183) rfl rfl rfl (Rn.bipush (pc2 := 185) rfl rfl (Rn.ic_ne (pc2 := 188) rfl rfl (fun _ =>  (Rn.aload_n (pc2 := 189) rfl rfl rfl (Rn.iload_n (pc2 := 190) rfl rfl rfl (Rn.iload_n (pc2 := 191) rfl rfl rfl (Rn.ivir (as := [vi a, vi b]) (r := []) (ls2 := [some (vr 0 0), some (vi a), some (vi b)]) (f := 0) (i := 0) rfl rfl rfl rfl rfl rfl rfl h))))) (fun q => absurd (show ((12 : Int) = 12) by decide) q)))))))))))))))))))))))))))))))))))))))))))))))))))

theorem kR_13 {fs : List fr} {I : IT} {cc : Nat → Option Nat} {n c z : Nat} {out : oP} {a : Int} {b : Int} {d : Int} {e : Int} {v : Int} (h : Rf (Sum.inl (some (vi v))) fs I (Cs cc) n c z out) : Rn 162 194 [some (vr 0 0), some (vi 12), some (vi a), some (vi b), some (vi d), some (vi e), none] [vi v] (fs) I (Cs cc) n c z out :=
  (Rn.goto rfl (Rn.iret rfl rfl h))

theorem kA_14 {fs : List fr} {I : IT} {cc : Nat → Option Nat} {n c z : Nat} {out : oP} {a : Int} {b : Int} {d : Int} {e : Int} (h : Rn 14 0 [some (vr 0 0), some (vi a), some (vi b)] [] ((162, 206, [some (vr 0 0), some (vi 13), some (vi a), some (vi b), some (vi d), some (vi e), none], []) :: fs) I (Cs cc) n c z out) : Rn 162 0 [some (vr 0 0), some (vi 13), some (vi a), some (vi b), some (vi d), some (vi e), none] [] (fs) I (Cs cc) n c z out :=
  (Rn.iload_n (pc2 := 1) rfl rfl rfl (Rn.iz_ne (pc2 := 4) rfl rfl (fun q => absurd q (show (¬ ((13 : Int) = 0)) by decide)) (fun _ =>  (Rn.iload_n (pc2 := 12) rfl rfl rfl (Rn.iconst (pc2 := 13) rfl rfl (Rn.ic_ne (pc2 := 16) rfl rfl (fun q => absurd q (show (¬ ((13 : Int) = 1)) by decide)) (fun _ =>  (Rn.iload_n (pc2 := 28) rfl rfl rfl (Rn.iconst (pc2 := 29) rfl rfl (Rn.ic_ne (pc2 := 32) rfl rfl (fun q => absurd q (show (¬ ((13 : Int) = 2)) by decide)) (fun _ =>  (Rn.iload_n (pc2 := 40) rfl rfl rfl (Rn.iconst (pc2 := 41) rfl rfl (Rn.ic_ne (pc2 := 44) rfl rfl (fun q => absurd q (show (¬ ((13 : Int) = 3)) by decide)) (fun _ =>  (Rn.iload_n (pc2 := 58) rfl rfl rfl (Rn.iconst (pc2 := 59) rfl rfl (Rn.ic_ne (pc2 := 62) rfl rfl (fun q => absurd q (show (¬ ((13 : Int) = 4)) by decide)) (fun _ =>  (Rn.iload_n (pc2 := 72) rfl rfl rfl (Rn.iconst (pc2 := 73) rfl rfl (Rn.ic_ne (pc2 := 76) rfl rfl (fun q => absurd q (show (¬ ((13 : Int) = 5)) by decide)) (fun _ =>  (Rn.iload_n (pc2 := 94) rfl rfl rfl (Rn.bipush (pc2 := 96) rfl rfl (Rn.ic_ne (pc2 := 99) rfl rfl (fun q => absurd q (show (¬ ((13 : Int) = 6)) by decide)) (fun _ =>  (Rn.iload_n (pc2 := 109) rfl rfl rfl (Rn.bipush (pc2 := 111) rfl rfl (Rn.ic_ne (pc2 := 114) rfl rfl (fun q => absurd q (show (¬ ((13 : Int) = 7)) by decide)) (fun _ =>  (Rn.iload_n (pc2 := 124) rfl rfl rfl (Rn.bipush (pc2 := 126) rfl rfl (Rn.ic_ne (pc2 := 129) rfl rfl (fun q => absurd q (show (¬ ((13 : Int) = 8)) by decide)) (fun _ =>  (Rn.iload_n (pc2 := 139) rfl rfl rfl (Rn.bipush (pc2 := 141) rfl rfl (Rn.ic_ne (pc2 := 144) rfl rfl (fun q => absurd q (show (¬ ((13 : Int) = 9)) by decide)) (fun _ =>  (Rn.iload_n (pc2 := 154) rfl rfl rfl (Rn.bipush (pc2 := 156) rfl rfl (Rn.ic_ne (pc2 := 159) rfl rfl (fun q => absurd q (show (¬ ((13 : Int) = 10)) by decide)) (fun _ =>  (Rn.iload_n (pc2 := 168) rfl rfl rfl (Rn.bipush (pc2 := 170) rfl rfl (Rn.ic_ne (pc2 := 173) rfl rfl (fun q => absurd q (show (¬ ((13 : Int) = 11)) by decide)) (fun _ =>  (Rn.iload_n (pc2 := 183) rfl rfl rfl (Rn.bipush (pc2 := 185) rfl rfl (Rn.ic_ne (pc2 := 188) rfl rfl (fun q => absurd q (show (¬ ((13 : Int) = 12)) by decide)) (fun _ =>  (Rn.iload_n (pc2 := 198) rfl rfl rfl (Rn.bipush (pc2 := 200) rfl rfl (Rn.ic_ne (pc2 := 203) rfl rfl (fun _ =>  (Rn.aload_n (pc2 := 204) rfl rfl rfl (Rn.iload_n (pc2 := 205) rfl rfl rfl (Rn.iload_n (pc2 := 206) rfl rfl rfl (Rn.ivir (as := [vi a, vi b]) (r := []) (ls2 := [some (vr 0 0), some (vi a), some (vi b)]) (f := 0) (i := 0) rfl rfl rfl rfl rfl rfl rfl h))))) (fun q => absurd (show ((13 : Int) = 13) by decide) q)))))))))))))))))))))))))))))))))))))))))))))))))))))))

theorem kR_14 {fs : List fr} {I : IT} {cc : Nat → Option Nat} {n c z : Nat} {out : oP} {a : Int} {b : Int} {d : Int} {e : Int} {v : Int} (h : Rf (Sum.inl (some (vi v))) fs I (Cs cc) n c z out) : Rn 162 209 [some (vr 0 0), some (vi 13), some (vi a), some (vi b), some (vi d), some (vi e), none] [vi v] (fs) I (Cs cc) n c z out :=
  (Rn.goto rfl (Rn.iret rfl rfl h))

theorem kA_15 {fs : List fr} {I : IT} {cc : Nat → Option Nat} {n c z : Nat} {out : oP} {a : Int} {b : Int} {d : Int} {e : Int} (h : Rn 15 0 [some (vr 0 0), some (vi a), some (vi b)] [] ((162, 221, [some (vr 0 0), some (vi 14), some (vi a), some (vi b), some (vi d), some (vi e), none], []) :: fs) I (Cs cc) n c z out) : Rn 162 0 [some (vr 0 0), some (vi 14), some (vi a), some (vi b), some (vi d), some (vi e), none] [] (fs) I (Cs cc) n c z out :=
  (Rn.iload_n (pc2 := 1) rfl rfl rfl (Rn.iz_ne (pc2 := 4) rfl rfl (fun q => absurd q (show (¬ ((14 : Int) = 0)) by decide)) (fun _ =>  (Rn.iload_n (pc2 := 12) rfl rfl rfl (Rn.iconst (pc2 := 13) rfl rfl (Rn.ic_ne (pc2 := 16) rfl rfl (fun q => absurd q (show (¬ ((14 : Int) = 1)) by decide)) (fun _ =>  (Rn.iload_n (pc2 := 28) rfl rfl rfl (Rn.iconst (pc2 := 29) rfl rfl (Rn.ic_ne (pc2 := 32) rfl rfl (fun q => absurd q (show (¬ ((14 : Int) = 2)) by decide)) (fun _ =>  (Rn.iload_n (pc2 := 40) rfl rfl rfl (Rn.iconst (pc2 := 41) rfl rfl (Rn.ic_ne (pc2 := 44) rfl rfl (fun q => absurd q (show (¬ ((14 : Int) = 3)) by decide)) (fun _ =>  (Rn.iload_n (pc2 := 58) rfl rfl rfl (Rn.iconst (pc2 := 59) rfl rfl (Rn.ic_ne (pc2 := 62) rfl rfl (fun q => absurd q (show (¬ ((14 : Int) = 4)) by decide)) (fun _ =>  (Rn.iload_n (pc2 := 72) rfl rfl rfl (Rn.iconst (pc2 := 73) rfl rfl (Rn.ic_ne (pc2 := 76) rfl rfl (fun q => absurd q (show (¬ ((14 : Int) = 5)) by decide)) (fun _ =>  (Rn.iload_n (pc2 := 94) rfl rfl rfl (Rn.bipush (pc2 := 96) rfl rfl (Rn.ic_ne (pc2 := 99) rfl rfl (fun q => absurd q (show (¬ ((14 : Int) = 6)) by decide)) (fun _ =>  (Rn.iload_n (pc2 := 109) rfl rfl rfl (Rn.bipush (pc2 := 111) rfl rfl (Rn.ic_ne (pc2 := 114) rfl rfl (fun q => absurd q (show (¬ ((14 : Int) = 7)) by decide)) (fun _ =>  (Rn.iload_n (pc2 := 124) rfl rfl rfl (Rn.bipush (pc2 := 126) rfl rfl (Rn.ic_ne (pc2 := 129) rfl rfl (fun q => absurd q (show (¬ ((14 : Int) = 8)) by decide)) (fun _ =>  (Rn.iload_n (pc2 := 139) rfl rfl rfl (Rn.bipush (pc2 := 141) rfl rfl (Rn.ic_ne (pc2 := 144) rfl rfl (fun q => absurd q (show (¬ ((14 : Int) = 9)) by decide)) (fun _ =>  (Rn.iload_n (pc2 := 154) rfl rfl rfl (Rn.bipush (pc2 := 156) rfl rfl (Rn.ic_ne (pc2 := 159) rfl rfl (fun q => absurd q (show (¬ ((14 : Int) = 10)) by decide)) (fun _ =>  (Rn.iload_n (pc2 := 168) rfl rfl rfl (Rn.bipush (pc2 := 170) rfl rfl (Rn.ic_ne (pc2 := 173) rfl rfl (fun q => absurd q (show (¬ ((14 : Int) = 11)) by decide)) (fun _ =>  (Rn.iload_n (pc2 := 183) rfl rfl rfl (Rn.bipush (pc2 := 185) rfl rfl (Rn.ic_ne (pc2 := 188) rfl rfl (fun q => absurd q (show (¬ ((14 : Int) = 12)) by decide)) (fun _ =>  (Rn.iload_n (pc2 := 198) rfl rfl rfl (Rn.bipush (pc2 := 200) rfl rfl (Rn.ic_ne (pc2 := 203) rfl rfl (fun q => absurd q (show (¬ ((14 : Int) = 13)) by decide)) (fun _ =>  (Rn.iload_n (pc2 := 213) rfl rfl rfl (Rn.bipush (pc2 := 215) rfl rfl (Rn.ic_ne (pc2 := 218) rfl rfl (fun _ =>  (Rn.aload_n (pc2 := 219) rfl rfl rfl (Rn.iload_n (pc2 := 220) rfl rfl rfl (Rn.iload_n (pc2 := 221) rfl rfl rfl (Rn.ivir (as := [vi a, vi b]) (r := []) (ls2 := [some (vr 0 0), some (vi a), some (vi b)]) (f := 0) (i := 0) rfl rfl rfl rfl rfl rfl rfl h))))) (fun q => absurd (show ((14 : Int) = 14) by decide) q)))))))))))))))))))))))))))))))))))))))))))))))))))))))))))

theorem kR_15 {fs : List fr} {I : IT} {cc : Nat → Option Nat} {n c z : Nat} {out : oP} {a : Int} {b : Int} {d : Int} {e : Int} {v : Int} (h : Rf (Sum.inl (some (vi v))) fs I (Cs cc) n c z out) : Rn 162 224 [some (vr 0 0), some (vi 14), some (vi a), some (vi b), some (vi d), some (vi e), none] [vi v] (fs) I (Cs cc) n c z out :=
  (Rn.goto rfl (Rn.iret rfl rfl h))

theorem kA_16 {fs : List fr} {I : IT} {cc : Nat → Option Nat} {n c z : Nat} {out : oP} {a : Int} {b : Int} {d : Int} {e : Int} (h : Rn 16 0 [some (vr 0 0), some (vi a), some (vi b), some (vi d), some (vi e)] [] ((162, 240, [some (vr 0 0), some (vi 15), some (vi a), some (vi b), some (vi d), some (vi e), none], []) :: fs) I (Cs cc) n c z out) : Rn 162 0 [some (vr 0 0), some (vi 15), some (vi a), some (vi b), some (vi d), some (vi e), none] [] (fs) I (Cs cc) n c z out :=
  (Rn.iload_n (pc2 := 1) rfl rfl rfl (Rn.iz_ne (pc2 := 4) rfl rfl (fun q => absurd q (show (¬ ((15 : Int) = 0)) by decide)) (fun _ =>  (Rn.iload_n (pc2 := 12) rfl rfl rfl (Rn.iconst (pc2 := 13) rfl rfl (Rn.ic_ne (pc2 := 16) rfl rfl (fun q => absurd q (show (¬ ((15 : Int) = 1)) by decide)) (fun _ =>  (Rn.iload_n (pc2 := 28) rfl rfl rfl (Rn.iconst (pc2 := 29) rfl rfl (Rn.ic_ne (pc2 := 32) rfl rfl (fun q => absurd q (show (¬ ((15 : Int) = 2)) by decide)) (fun _ =>  (Rn.iload_n (pc2 := 40) rfl rfl rfl (Rn.iconst (pc2 := 41) rfl rfl (Rn.ic_ne (pc2 := 44) rfl rfl (fun q => absurd q (show (¬ ((15 : Int) = 3)) by decide)) (fun _ =>  (Rn.iload_n (pc2 := 58) rfl rfl rfl (Rn.iconst (pc2 := 59) rfl rfl (Rn.ic_ne (pc2 := 62) rfl rfl (fun q => absurd q (show (¬ ((15 : Int) = 4)) by decide)) (fun _ =>  (Rn.iload_n (pc2 := 72) rfl rfl rfl (Rn.iconst (pc2 := 73) rfl rfl (Rn.ic_ne (pc2 := 76) rfl rfl (fun q => absurd q (show (¬ ((15 : Int) = 5)) by decide)) (fun _ =>  (Rn.iload_n (pc2 := 94) rfl rfl rfl (Rn.bipush (pc2 := 96) rfl rfl (Rn.ic_ne (pc2 := 99) rfl rfl (fun q => absurd q (show (¬ ((15 : Int) = 6)) by decide)) (fun _ =>  (Rn.iload_n (pc2 := 109) rfl rfl rfl (Rn.bipush (pc2 := 111) rfl rfl (Rn.ic_ne (pc2 := 114) rfl rfl (fun q => absurd q (show (¬ ((15 : Int) = 7)) by decide)) (fun _ =>  (Rn.iload_n (pc2 := 124) rfl rfl rfl (Rn.bipush (pc2 := 126) rfl rfl (Rn.ic_ne (pc2 := 129) rfl rfl (fun q => absurd q (show (¬ ((15 : Int) = 8)) by decide)) (fun _ =>  (Rn.iload_n (pc2 := 139) rfl rfl rfl (Rn.bipush (pc2 := 141) rfl rfl (Rn.ic_ne (pc2 := 144) rfl rfl (fun q => absurd q (show (¬ ((15 : Int) = 9)) by decide)) (fun _ =>  (Rn.iload_n (pc2 := 154) rfl rfl rfl (Rn.bipush (pc2 := 156) rfl rfl (Rn.ic_ne (pc2 := 159) rfl rfl (fun q => absurd q (show (¬ ((15 : Int) = 10)) by decide)) (fun _ =>  (Rn.iload_n (pc2 := 168) rfl rfl rfl (Rn.bipush (pc2 := 170) rfl rfl (Rn.ic_ne (pc2 := 173) rfl rfl (fun q => absurd q (show (¬ ((15 : Int) = 11)) by decide)) (fun _ =>  (Rn.iload_n (pc2 := 183) rfl rfl rfl (Rn.bipush (pc2 := 185) rfl rfl (Rn.ic_ne (pc2 := 188) rfl rfl (fun q => absurd q (show (¬ ((15 : Int) = 12)) by decide)) (fun _ =>  (Rn.iload_n (pc2 := 198) rfl rfl rfl (Rn.bipush (pc2 := 200) rfl rfl (Rn.ic_ne (pc2 := 203) rfl rfl (fun q => absurd q (show (¬ ((15 : Int) = 13)) by decide)) (fun _ =>  (Rn.iload_n (pc2 := 213) rfl rfl rfl (Rn.bipush (pc2 := 215) rfl rfl (Rn.ic_ne (pc2 := 218) rfl rfl (fun q => absurd q (show (¬ ((15 : Int) = 14)) by decide)) (fun _ =>  (Rn.iload_n (pc2 := 228) rfl rfl rfl (Rn.bipush (pc2 := 230) rfl rfl (Rn.ic_ne (pc2 := 233) rfl rfl (fun _ =>  (Rn.aload_n (pc2 := 234) rfl rfl rfl (Rn.iload_n (pc2 := 235) rfl rfl rfl (Rn.iload_n (pc2 := 236) rfl rfl rfl (Rn.iload (pc2 := 238) rfl rfl rfl (Rn.iload (pc2 := 240) rfl rfl rfl (Rn.ivir (as := [vi a, vi b, vi d, vi e]) (r := []) (ls2 := [some (vr 0 0), some (vi a), some (vi b), some (vi d), some (vi e)]) (f := 0) (i := 0) rfl rfl rfl rfl rfl rfl rfl h))))))) (fun q => absurd (show ((15 : Int) = 15) by decide) q)))))))))))))))))))))))))))))))))))))))))))))))))))))))))))))))

theorem kR_16 {fs : List fr} {I : IT} {cc : Nat → Option Nat} {n c z : Nat} {out : oP} {a : Int} {b : Int} {d : Int} {e : Int} {v : Int} (h : Rf (Sum.inl (some (vi v))) fs I (Cs cc) n c z out) : Rn 162 243 [some (vr 0 0), some (vi 15), some (vi a), some (vi b), some (vi d), some (vi e), none] [vi v] (fs) I (Cs cc) n c z out :=
  (Rn.goto rfl (Rn.iret rfl rfl h))

theorem kA_17 {fs : List fr} {I : IT} {cc : Nat → Option Nat} {n c z : Nat} {out : oP} {a : Int} {b : Int} {d : Int} {e : Int} (h : Rn 17 0 [some (vr 0 0), some (vi a), some (vi b), some (vi d)] [] ((162, 257, [some (vr 0 0), some (vi 16), some (vi a), some (vi b), some (vi d), some (vi e), none], []) :: fs) I (Cs cc) n c z out) : Rn 162 0 [some (vr 0 0), some (vi 16), some (vi a), some (vi b), some (vi d), some (vi e), none] [] (fs) I (Cs cc) n c z out :=
  (Rn.iload_n (pc2 := 1) rfl rfl rfl (Rn.iz_ne (pc2 := 4) rfl rfl (fun q => absurd q (show (¬ ((16 : Int) = 0)) by decide)) (fun _ =>  (Rn.iload_n (pc2 := 12) rfl rfl rfl (Rn.iconst (pc2 := 13) rfl rfl (Rn.ic_ne (pc2 := 16) rfl rfl (fun q => absurd q (show (¬ ((16 : Int) = 1)) by decide)) (fun _ =>  (Rn.iload_n (pc2 := 28) rfl rfl rfl (Rn.iconst (pc2 := 29) rfl rfl (Rn.ic_ne (pc2 := 32) rfl rfl (fun q => absurd q (show (¬ ((16 : Int) = 2)) by decide)) (fun _ =>  (Rn.iload_n (pc2 := 40) rfl rfl rfl (Rn.iconst (pc2 := 41) rfl rfl (Rn.ic_ne (pc2 := 44) rfl rfl (fun q => absurd q (show (¬ ((16 : Int) = 3)) by decide)) (fun _ =>  (Rn.iload_n (pc2 := 58) rfl rfl rfl (Rn.iconst (pc2 := 59) rfl rfl (Rn.ic_ne (pc2 := 62) rfl rfl (fun q => absurd q (show (¬ ((16 : Int) = 4)) by decide)) (fun _ =>  (Rn.iload_n (pc2 := 72) rfl rfl rfl (Rn.iconst (pc2 := 73) rfl rfl (Rn.ic_ne (pc2 := 76) rfl rfl (fun q => absurd q (show (¬ ((16 : Int) = 5)) by decide)) (fun _ =>  (Rn.iload_n (pc2 := 94) rfl rfl rfl (Rn.bipush (pc2 := 96) rfl rfl (Rn.ic_ne (pc2 := 99) rfl rfl (fun q => absurd q (show (¬ ((16 : Int) = 6)) by decide)) (fun _ =>  (Rn.iload_n (pc2 := 109) rfl rfl rfl (Rn.bipush (pc2 := 111) rfl rfl (Rn.ic_ne (pc2 := 114) rfl rfl (fun q => absurd q (show (¬ ((16 : Int) = 7)) by decide)) (fun _ =>  (Rn.iload_n (pc2 := 124) rfl rfl rfl (Rn.bipush (pc2 := 126) rfl rfl (Rn.ic_ne (pc2 := 129) rfl rfl (fun q => absurd q (show (¬ ((16 : Int) = 8)) by decide)) (fun _ =>  (Rn.iload_n (pc2 := 139) rfl rfl rfl (Rn.bipush (pc2 := 141) rfl rfl (Rn.ic_ne (pc2 := 144) rfl rfl (fun q => absurd q (show (¬ ((16 : Int) = 9)) by decide)) (fun _ =>  (Rn.iload_n (pc2 := 154) rfl rfl rfl (Rn.bipush (pc2 := 156) rfl rfl (Rn.ic_ne (pc2 := 159) rfl rfl (fun q => absurd q (show (¬ ((16 : Int) = 10)) by decide)) (fun _ =>  (Rn.iload_n (pc2 := 168) rfl rfl rfl (Rn.bipush (pc2 := 170) rfl rfl (Rn.ic_ne (pc2 := 173) rfl rfl (fun q => absurd q (show (¬ ((16 : Int) = 11)) by decide)) (fun _ =>  (Rn.iload_n (pc2 := 183) rfl rfl rfl (Rn.bipush (pc2 := 185) rfl rfl (Rn.ic_ne (pc2 := 188) rfl rfl (fun q => absurd q (show (¬ ((16 : Int) = 12)) by decide)) (fun _ =>  (Rn.iload_n (pc2 := 198) rfl rfl rfl (Rn.bipush (pc2 := 200) rfl rfl (Rn.ic_ne (pc2 := 203) rfl rfl (fun q => absurd q (show (¬ ((16 : Int) = 13)) by decide)) (fun _ =>  (Rn.iload_n (pc2 := 213) rfl rfl rfl (Rn.bipush (pc2 := 215) rfl rfl (Rn.ic_ne (pc2 := 218) rfl rfl (fun q => absurd q (show (¬ ((16 : Int) = 14)) by decide)) (fun _ =>  (Rn.iload_n (pc2 := 228) rfl rfl rfl (Rn.bipush (pc2 := 230) rfl rfl (Rn.ic_ne (pc2 := 233) rfl rfl (fun q => absurd q (show (¬ ((16 : Int) = 15)) by decide)) (fun _ =>  (Rn.iload_n (pc2 := 247) rfl rfl rfl (Rn.bipush (pc2 := 249) rfl rfl (Rn.ic_ne (pc2 := 252) rfl rfl (fun _ =>  (Rn.aload_n (pc2 := 253) rfl rfl rfl (Rn.iload_n (pc2 := 254) rfl rfl rfl (Rn.iload_n (pc2 := 255) rfl rfl rfl (Rn.iload (pc2 := 257) rfl rfl rfl (Rn.ivir (as := [vi a, vi b, vi d]) (r := []) (ls2 := [some (vr 0 0), some (vi a), some (vi b), some (vi d)]) (f := 0) (i := 0) rfl rfl rfl rfl rfl rfl rfl h)))))) (fun q => absurd (show ((16 : Int) = 16) by decide) q)))))))))))))))))))))))))))))))))))))))))))))))))))))))))))))))))))

theorem kR_17 {fs : List fr} {I : IT} {cc : Nat → Option Nat} {n c z : Nat} {out : oP} {a : Int} {b : Int} {d : Int} {e : Int} {v : Int} (h : Rf (Sum.inl (some (vi v))) fs I (Cs cc) n c z out) : Rn 162 260 [some (vr 0 0), some (vi 16), some (vi a), some (vi b), some (vi d), some (vi e), none] [vi v] (fs) I (Cs cc) n c z out :=
  (Rn.goto rfl (Rn.iret rfl rfl h))

theorem kA_18 {fs : List fr} {I : IT} {cc : Nat → Option Nat} {n c z : Nat} {out : oP} {a : Int} {b : Int} {d : Int} {e : Int} (h : Rn 18 0 [some (vr 0 0), some (vi a)] [] ((162, 271, [some (vr 0 0), some (vi 17), some (vi a), some (vi b), some (vi d), some (vi e), none], []) :: fs) I (Cs cc) n c z out) : Rn 162 0 [some (vr 0 0), some (vi 17), some (vi a), some (vi b), some (vi d), some (vi e), none] [] (fs) I (Cs cc) n c z out :=
  (Rn.iload_n (pc2 := 1) rfl rfl rfl (Rn.iz_ne (pc2 := 4) rfl rfl (fun q => absurd q (show (¬ ((17 : Int) = 0)) by decide)) (fun _ =>  (Rn.iload_n (pc2 := 12) rfl rfl rfl (Rn.iconst (pc2 := 13) rfl rfl (Rn.ic_ne (pc2 := 16) rfl rfl (fun q => absurd q (show (¬ ((17 : Int) = 1)) by decide)) (fun _ =>  (Rn.iload_n (pc2 := 28) rfl rfl rfl (Rn.iconst (pc2 := 29) rfl rfl (Rn.ic_ne (pc2 := 32) rfl rfl (fun q => absurd q (show (¬ ((17 : Int) = 2)) by decide)) (fun _ =>  (Rn.iload_n (pc2 := 40) rfl rfl rfl (Rn.iconst (pc2 := 41) rfl rfl (Rn.ic_ne (pc2 := 44) rfl rfl (fun q => absurd q (show (¬ ((17 : Int) = 3)) by decide)) (fun _ =>  (Rn.iload_n (pc2 := 58) rfl rfl rfl (Rn.iconst (pc2 := 59) rfl rfl (Rn.ic_ne (pc2 := 62) rfl rfl (fun q => absurd q (show (¬ ((17 : Int) = 4)) by decide)) (fun _ =>  (Rn.iload_n (pc2 := 72) rfl rfl rfl (Rn.iconst (pc2 := 73) rfl rfl (Rn.ic_ne (pc2 := 76) rfl rfl (fun q => absurd q (show (¬ ((17 : Int) = 5)) by decide)) (fun _ =>  (Rn.iload_n (pc2 := 94) rfl rfl rfl (Rn.bipush (pc2 := 96) rfl rfl (Rn.ic_ne (pc2 := 99) rfl rfl (fun q => absurd q (show (¬ ((17 : Int) = 6)) by decide)) (fun _ =>  (Rn.iload_n (pc2 := 109) rfl rfl rfl (Rn.bipush (pc2 := 111) rfl rfl (Rn.ic_ne (pc2 := 114) rfl rfl (fun q => absurd q (show (¬ ((17 : Int) = 7)) by decide)) (fun _ =>  (Rn.iload_n (pc2 := 124) rfl rfl rfl (Rn.bipush (pc2 := 126) rfl rfl (Rn.ic_ne (pc2 := 129) rfl rfl (fun q => absurd q (show (¬ ((17 : Int) = 8)) by decide)) (fun _ =>  (Rn.iload_n (pc2 := 139) rfl rfl rfl (Rn.bipush (pc2 := 141) rfl rfl (Rn.ic_ne (pc2 := 144) rfl rfl (fun q => absurd q (show (¬ ((17 : Int) = 9)) by decide)) (fun _ =>  (Rn.iload_n (pc2 := 154) rfl rfl rfl (Rn.bipush (pc2 := 156) rfl rfl (Rn.ic_ne (pc2 := 159) rfl rfl (fun q => absurd q (show (¬ ((17 : Int) = 10)) by decide)) (fun _ =>  (Rn.iload_n (pc2 := 168) rfl rfl rfl (Rn.bipush (pc2 := 170) rfl rfl (Rn.ic_ne (pc2 := 173) rfl rfl (fun q => absurd q (show (¬ ((17 : Int) = 11)) by decide)) (fun _ =>  (Rn.iload_n (pc2 := 183) rfl rfl rfl (Rn.bipush (pc2 := 185) rfl rfl (Rn.ic_ne (pc2 := 188) rfl rfl (fun q => absurd q (show (¬ ((17 : Int) = 12)) by decide)) (fun _ =>  (Rn.iload_n (pc2 := 198) rfl rfl rfl (Rn.bipush (pc2 := 200) rfl rfl (Rn.ic_ne (pc2 := 203) rfl rfl (fun q => absurd q (show (¬ ((17 : Int) = 13)) by decide)) (fun _ =>  (Rn.iload_n (pc2 := 213) rfl rfl rfl (Rn.bipush (pc2 := 215) rfl rfl (Rn.ic_ne (pc2 := 218) rfl rfl (fun q => absurd q (show (¬ ((17 : Int) = 14)) by decide)) (fun _ =>  (Rn.iload_n (pc2 := 228) rfl rfl rfl (Rn.bipush (pc2 := 230) rfl rfl (Rn.ic_ne (pc2 := 233) rfl rfl (fun q => absurd q (show (¬ ((17 : Int) = 15)) by decide)) (fun _ =>  (Rn.iload_n (pc2 := 247) rfl rfl rfl (Rn.bipush (pc2 := 249) rfl rfl (Rn.ic_ne (pc2 := 252) rfl rfl (fun q => absurd q (show (¬ ((17 : Int) = 16)) by decide)) (fun _ =>  (Rn.iload_n (pc2 := 264) rfl rfl rfl (Rn.bipush (pc2 := 266) rfl rfl (Rn.ic_ne (pc2 := 269) rfl rfl (fun _ =>  (Rn.aload_n (pc2 := 270) rfl rfl rfl (Rn.iload_n (pc2 := 271) rfl rfl rfl (Rn.ivir (as := [vi a]) (r := []) (ls2 := [some (vr 0 0), some (vi a)]) (f := 0) (i := 0) rfl rfl rfl rfl rfl rfl rfl h)))) (fun q => absurd (show ((17 : Int) = 17) by decide) q)))))))))))))))))))))))))))))))))))))))))))))))))))))))))))))))))))))))

theorem kR_18 {fs : List fr} {I : IT} {cc : Nat → Option Nat} {n c z : Nat} {out : oP} {a : Int} {b : Int} {d : Int} {e : Int} {v : Int} (h : Rf (Sum.inl (some (vi v))) fs I (Cs cc) n c z out) : Rn 162 274 [some (vr 0 0), some (vi 17), some (vi a), some (vi b), some (vi d), some (vi e), none] [vi v] (fs) I (Cs cc) n c z out :=
  (Rn.goto rfl (Rn.iret rfl rfl h))

theorem kA_19 {fs : List fr} {I : IT} {cc : Nat → Option Nat} {n c z : Nat} {out : oP} {a : Int} {b : Int} {d : Int} {e : Int} (h : Rn 19 0 [some (vr 0 0), some (vi a), some (vi b)] [] ((162, 286, [some (vr 0 0), some (vi 18), some (vi a), some (vi b), some (vi d), some (vi e), none], []) :: fs) I (Cs cc) n c z out) : Rn 162 0 [some (vr 0 0), some (vi 18), some (vi a), some (vi b), some (vi d), some (vi e), none] [] (fs) I (Cs cc) n c z out :=
  (Rn.iload_n (pc2 := 1) rfl rfl rfl (Rn.iz_ne (pc2 := 4) rfl rfl (fun q => absurd q (show (¬ ((18 : Int) = 0)) by decide)) (fun _ =>  (Rn.iload_n (pc2 := 12) rfl rfl rfl (Rn.iconst (pc2 := 13) rfl rfl (Rn.ic_ne (pc2 := 16) rfl rfl (fun q => absurd q (show (¬ ((18 : Int) = 1)) by decide)) (fun _ =>  (Rn.iload_n (pc2 := 28) rfl rfl rfl (Rn.iconst (pc2 := 29) rfl rfl (Rn.ic_ne (pc2 := 32) rfl rfl (fun q => absurd q (show (¬ ((18 : Int) = 2)) by decide)) (fun _ =>  (Rn.iload_n (pc2 := 40) rfl rfl rfl (Rn.iconst (pc2 := 41) rfl rfl (Rn.ic_ne (pc2 := 44) rfl rfl (fun q => absurd q (show (¬ ((18 : Int) = 3)) by decide)) (fun _ =>  (Rn.iload_n (pc2 := 58) rfl rfl rfl (Rn.iconst (pc2 := 59) rfl rfl (Rn.ic_ne (pc2 := 62) rfl rfl (fun q => absurd q (show (¬ ((18 : Int) = 4)) by decide)) (fun _ =>  (Rn.iload_n (pc2 := 72) rfl rfl rfl (Rn.iconst (pc2 := 73) rfl rfl (Rn.ic_ne (pc2 := 76) rfl rfl (fun q => absurd q (show (¬ ((18 : Int) = 5)) by decide)) (fun _ =>  (Rn.iload_n (pc2 := 94) rfl rfl rfl (Rn.bipush (pc2 := 96) rfl rfl (Rn.ic_ne (pc2 := 99) rfl rfl (fun q => absurd q (show (¬ ((18 : Int) = 6)) by decide)) (fun _ =>  (Rn.iload_n (pc2 := 109) rfl rfl rfl (Rn.bipush (pc2 := 111) rfl rfl (Rn.ic_ne (pc2 := 114) rfl rfl (fun q => absurd q (show (¬ ((18 : Int) = 7)) by decide)) (fun _ =>  (Rn.iload_n (pc2 := 124) rfl rfl rfl (Rn.bipush (pc2 := 126) rfl rfl (Rn.ic_ne (pc2 := 129) rfl rfl (fun q => absurd q (show (¬ ((18 : Int) = 8)) by decide)) (fun _ =>  (Rn.iload_n (pc2 := 139) rfl rfl rfl (Rn.bipush (pc2 := 141) rfl rfl (Rn.ic_ne (pc2 := 144) rfl rfl (fun q => absurd q (show (¬ ((18 : Int) = 9)) by decide)) (fun _ =>  (Rn.iload_n (pc2 := 154) rfl rfl rfl (Rn.bipush (pc2 := 156) rfl rfl (Rn.ic_ne (pc2 := 159) rfl rfl (fun q => absurd q (show (¬ ((18 : Int) = 10)) by decide)) (fun _ =>  (Rn.iload_n (pc2 := 168) rfl rfl rfl (Rn.bipush (pc2 := 170) rfl rfl (Rn.ic_ne (pc2 := 173) rfl rfl (fun q => absurd q (show (¬ ((18 : Int) = 11)) by decide)) (fun _ =>  (Rn.iload_n (pc2 := 183) rfl rfl rfl (Rn.bipush (pc2 := 185) rfl rfl (Rn.ic_ne (pc2 := 188) rfl rfl (fun q => absurd q (show (¬ ((18 : Int) = 12)) by decide)) (fun _ =>  (Rn.iload_n (pc2 := 198) rfl rfl rfl (Rn.bipush (pc2 := 200) rfl rfl (Rn.ic_ne (pc2 := 203) rfl rfl (fun q => absurd q (show (¬ ((18 : Int) = 13)) by decide)) (fun _ =>  (Rn.iload_n (pc2 := 213) rfl rfl rfl (Rn.bipush (pc2 := 215) rfl rfl (Rn.ic_ne (pc2 := 218) rfl rfl (fun q => absurd q (show (¬ ((18 : Int) = 14)) by decide)) (fun _ =>  (Rn.iload_n (pc2 := 228) rfl rfl rfl (Rn.bipush (pc2 := 230) rfl rfl (Rn.ic_ne (pc2 := 233) rfl rfl (fun q => absurd q (show (¬ ((18 : Int) = 15)) by decide)) (fun _ =>  (Rn.iload_n (pc2 := 247) rfl rfl rfl (Rn.bipush (pc2 := 249) rfl rfl (Rn.ic_ne (pc2 := 252) rfl rfl (fun q => absurd q (show (¬ ((18 : Int) = 16)) by decide)) (fun _ =>  (Rn.iload_n (pc2 := 264) rfl rfl rfl (Rn.bipush (pc2 := 266) rfl rfl (Rn.ic_ne (pc2 := 269) rfl rfl (fun q => absurd q (show (¬ ((18 : Int) = 17)) by decide)) (fun _ =>  (Rn.iload_n (pc2 := 278) rfl rfl rfl (Rn.bipush (pc2 := 280) rfl rfl (Rn.ic_ne (pc2 := 283) rfl rfl (fun _ =>  (Rn.aload_n (pc2 := 284) rfl rfl rfl (Rn.iload_n (pc2 := 285) rfl rfl rfl (Rn.iload_n (pc2 := 286) rfl rfl rfl (Rn.ivir (as := [vi a, vi b]) (r := []) (ls2 := [some (vr 0 0), some (vi a), some (vi b)]) (f := 0) (i := 0) rfl rfl rfl rfl rfl rfl rfl h))))) (fun q => absurd (show ((18 : Int) = 18) by decide) q)))))))))))))))))))))))))))))))))))))))))))))))))))))))))))))))))))))))))))

theorem kR_19 {fs : List fr} {I : IT} {cc : Nat → Option Nat} {n c z : Nat} {out : oP} {a : Int} {b : Int} {d : Int} {e : Int} {v : Int} (h : Rf (Sum.inl (some (vi v))) fs I (Cs cc) n c z out) : Rn 162 289 [some (vr 0 0), some (vi 18), some (vi a), some (vi b), some (vi d), some (vi e), none] [vi v] (fs) I (Cs cc) n c z out :=
  (Rn.goto rfl (Rn.iret rfl rfl h))

theorem kA_20 {fs : List fr} {I : IT} {cc : Nat → Option Nat} {n c z : Nat} {out : oP} {a : Int} {b : Int} {d : Int} {e : Int} (h : Rn 20 0 [some (vr 0 0), some (vi a), some (vi b)] [] ((162, 301, [some (vr 0 0), some (vi 19), some (vi a), some (vi b), some (vi d), some (vi e), none], []) :: fs) I (Cs cc) n c z out) : Rn 162 0 [some (vr 0 0), some (vi 19), some (vi a), some (vi b), some (vi d), some (vi e), none] [] (fs) I (Cs cc) n c z out :=
  (Rn.iload_n (pc2 := 1) rfl rfl rfl (Rn.iz_ne (pc2 := 4) rfl rfl (fun q => absurd q (show (¬ ((19 : Int) = 0)) by decide)) (fun _ =>  (Rn.iload_n (pc2 := 12) rfl rfl rfl (Rn.iconst (pc2 := 13) rfl rfl (Rn.ic_ne (pc2 := 16) rfl rfl (fun q => absurd q (show (¬ ((19 : Int) = 1)) by decide)) (fun _ =>  (Rn.iload_n (pc2 := 28) rfl rfl rfl (Rn.iconst (pc2 := 29) rfl rfl (Rn.ic_ne (pc2 := 32) rfl rfl (fun q => absurd q (show (¬ ((19 : Int) = 2)) by decide)) (fun _ =>  (Rn.iload_n (pc2 := 40) rfl rfl rfl (Rn.iconst (pc2 := 41) rfl rfl (Rn.ic_ne (pc2 := 44) rfl rfl (fun q => absurd q (show (¬ ((19 : Int) = 3)) by decide)) (fun _ =>  (Rn.iload_n (pc2 := 58) rfl rfl rfl (Rn.iconst (pc2 := 59) rfl rfl (Rn.ic_ne (pc2 := 62) rfl rfl (fun q => absurd q (show (¬ ((19 : Int) = 4)) by decide)) (fun _ =>  (Rn.iload_n (pc2 := 72) rfl rfl rfl (Rn.iconst (pc2 := 73) rfl rfl (Rn.ic_ne (pc2 := 76) rfl rfl (fun q => absurd q (show (¬ ((19 : Int) = 5)) by decide)) (fun _ =>  (Rn.iload_n (pc2 := 94) rfl rfl rfl (Rn.bipush (pc2 := 96) rfl rfl (Rn.ic_ne (pc2 := 99) rfl rfl (fun q => absurd q (show (¬ ((19 : Int) = 6)) by decide)) (fun _ =>  (Rn.iload_n (pc2 := 109) rfl rfl rfl (Rn.bipush (pc2 := 111) rfl rfl (Rn.ic_ne (pc2 := 114) rfl rfl (fun q => absurd q (show (¬ ((19 : Int) = 7)) by decide)) (fun _ =>  (Rn.iload_n (pc2 := 124) rfl rfl rfl (Rn.bipush (pc2 := 126) rfl rfl (Rn.ic_ne (pc2 := 129) rfl rfl (fun q => absurd q (show (¬ ((19 : Int) = 8)) by decide)) (fun _ =>  (Rn.iload_n (pc2 := 139) rfl rfl rfl (Rn.bipush (pc2 := 141) rfl rfl (Rn.ic_ne (pc2 := 144) rfl rfl (fun q => absurd q (show (¬ ((19 : Int) = 9)) by decide)) (fun _ =>  (Rn.iload_n (pc2 := 154) rfl rfl rfl (Rn.bipush (pc2 := 156) rfl rfl (Rn.ic_ne (pc2 := 159) rfl rfl (fun q => absurd q (show (¬ ((19 : Int) = 10)) by decide)) (fun _ =>  (Rn.iload_n (pc2 := 168) rfl rfl rfl (Rn.bipush (pc2 := 170) rfl rfl (Rn.ic_ne (pc2 := 173) rfl rfl (fun q => absurd q (show (¬ ((19 : Int) = 11)) by decide)) (fun _ =>  (Rn.iload_n (pc2 := 183) rfl rfl rfl (Rn.bipush (pc2 := 185) rfl rfl (Rn.ic_ne (pc2 := 188) rfl rfl (fun q => absurd q (show (¬ ((19 : Int) = 12)) by decide)) (fun _ =>  (Rn.iload_n (pc2 := 198) rfl rfl rfl (Rn.bipush (pc2 := 200) rfl rfl (Rn.ic_ne (pc2 := 203) rfl rfl (fun q => absurd q (show (¬ ((19 : Int) = 13)) by decide)) (fun _ =>  (Rn.iload_n (pc2 := 213) rfl rfl rfl (Rn.bipush (pc2 := 215) rfl rfl (Rn.ic_ne (pc2 := 218) rfl rfl (fun q => absurd q (show (¬ ((19 : Int) = 14)) by decide)) (fun _ =>  (Rn.iload_n (pc2 := 228) rfl rfl rfl (Rn.bipush (pc2 := 230) rfl rfl (Rn.ic_ne (pc2 := 233) rfl rfl (fun q => absurd q (show (¬ ((19 : Int) = 15)) by decide)) (fun _ =>  (Rn.iload_n (pc2 := 247) rfl rfl rfl (Rn.bipush (pc2 := 249) rfl rfl (Rn.ic_ne (pc2 := 252) rfl rfl (fun q => absurd q (show (¬ ((19 : Int) = 16)) by decide)) (fun _ =>  (Rn.iload_n (pc2 := 264) rfl rfl rfl (Rn.bipush (pc2 := 266) rfl rfl (Rn.ic_ne (pc2 := 269) rfl rfl (fun q => absurd q (show (¬ ((19 : Int) = 17)) by decide)) (fun _ =>  (Rn.iload_n (pc2 := 278) rfl rfl rfl (Rn.bipush (pc2 := 280) rfl rfl (Rn.ic_ne (pc2 := 283) rfl rfl (fun q => absurd q (show (¬ ((19 : Int) = 18)) by decide)) (fun _ =>  (Rn.iload_n (pc2 := 293) rfl rfl rfl (Rn.bipush (pc2 := 295) rfl rfl (Rn.ic_ne (pc2 := 298) rfl rfl (fun _ =>  (Rn.aload_n (pc2 := 299) rfl rfl rfl (Rn.iload_n (pc2 := 300) rfl rfl rfl (Rn.iload_n (pc2 := 301) rfl rfl rfl (Rn.ivir (as := [vi a, vi b]) (r := []) (ls2 := [some (vr 0 0), some (vi a), some (vi b)]) (f := 0) (i := 0) rfl rfl rfl rfl rfl rfl rfl h))))) (fun q => absurd (show ((19 : Int) = 19) by decide) q)))))))))))))))))))))))))))))))))))))))))))))))))))))))))))))))))))))))))))))))

theorem kR_20 {fs : List fr} {I : IT} {cc : Nat → Option Nat} {n c z : Nat} {out : oP} {a : Int} {b : Int} {d : Int} {e : Int} {v : Int} (h : Rf (Sum.inl (some (vi v))) fs I (Cs cc) n c z out) : Rn 162 304 [some (vr 0 0), some (vi 19), some (vi a), some (vi b), some (vi d), some (vi e), none] [vi v] (fs) I (Cs cc) n c z out :=
  (Rn.goto rfl (Rn.iret rfl rfl h))

theorem kA_21 {fs : List fr} {I : IT} {cc : Nat → Option Nat} {n c z : Nat} {out : oP} {a : Int} {b : Int} {d : Int} {e : Int} (h : Rn 21 0 [some (vr 0 0), some (vi a), none, none] [] ((162, 315, [some (vr 0 0), some (vi 20), some (vi a), some (vi b), some (vi d), some (vi e), none], []) :: fs) I (Cs cc) n c z out) : Rn 162 0 [some (vr 0 0), some (vi 20), some (vi a), some (vi b), some (vi d), some (vi e), none] [] (fs) I (Cs cc) n c z out :=
  (Rn.iload_n (pc2 := 1) rfl rfl rfl (Rn.iz_ne (pc2 := 4) rfl rfl (fun q => absurd q (show (¬ ((20 : Int) = 0)) by decide)) (fun _ =>  (Rn.iload_n (pc2 := 12) rfl rfl rfl (Rn.iconst (pc2 := 13) rfl rfl (Rn.ic_ne (pc2 := 16) rfl rfl (fun q => absurd q (show (¬ ((20 : Int) = 1)) by decide)) (fun _ =>  (Rn.iload_n (pc2 := 28) rfl rfl rfl (Rn.iconst (pc2 := 29) rfl rfl (Rn.ic_ne (pc2 := 32) rfl rfl (fun q => absurd q (show (¬ ((20 : Int) = 2)) by decide)) (fun _ =>  (Rn.iload_n (pc2 := 40) rfl rfl rfl (Rn.iconst (pc2 := 41) rfl rfl (Rn.ic_ne (pc2 := 44) rfl rfl (fun q => absurd q (show (¬ ((20 : Int) = 3)) by decide)) (fun _ =>  (Rn.iload_n (pc2 := 58) rfl rfl rfl (Rn.iconst (pc2 := 59) rfl rfl (Rn.ic_ne (pc2 := 62) rfl rfl (fun q => absurd q (show (¬ ((20 : Int) = 4)) by decide)) (fun _ =>  (Rn.iload_n (pc2 := 72) rfl rfl rfl (Rn.iconst (pc2 := 73) rfl rfl (Rn.ic_ne (pc2 := 76) rfl rfl (fun q => absurd q (show (¬ ((20 : Int) = 5)) by decide)) (fun _ =>  (Rn.iload_n (pc2 := 94) rfl rfl rfl (Rn.bipush (pc2 := 96) rfl rfl (Rn.ic_ne (pc2 := 99) rfl rfl (fun q => absurd q (show (¬ ((20 : Int) = 6)) by decide)) (fun _ =>  (Rn.iload_n (pc2 := 109) rfl rfl rfl (Rn.bipush (pc2 := 111) rfl rfl (Rn.ic_ne (pc2 := 114) rfl rfl (fun q => absurd q (show (¬ ((20 : Int) = 7)) by decide)) (fun _ =>  (Rn.iload_n (pc2 := 124) rfl rfl rfl (Rn.bipush (pc2 := 126) rfl rfl (Rn.ic_ne (pc2 := 129) rfl rfl (fun q => absurd q (show (¬ ((20 : Int) = 8)) by decide)) (fun _ =>  (Rn.iload_n (pc2 := 139) rfl rfl rfl (Rn.bipush (pc2 := 141) rfl rfl (Rn.ic_ne (pc2 := 144) rfl rfl (fun q => absurd q (show (¬ ((20 : Int) = 9)) by decide)) (fun _ =>  (Rn.iload_n (pc2 := 154) rfl rfl rfl (Rn.bipush (pc2 := 156) rfl rfl (Rn.ic_ne (pc2 := 159) rfl rfl (fun q => absurd q (show (¬ ((20 : Int) = 10)) by decide)) (fun _ =>  (Rn.iload_n (pc2 := 168) rfl rfl rfl (Rn.bipush (pc2 := 170) rfl rfl (Rn.ic_ne (pc2 := 173) rfl rfl (fun q => absurd q (show (¬ ((20 : Int) = 11)) by decide)) (fun _ =>  (Rn.iload_n (pc2 := 183) rfl rfl rfl (Rn.bipush (pc2 := 185) rfl rfl (Rn.ic_ne (pc2 := 188) rfl rfl (fun q => absurd q (show (¬ ((20 : Int) = 12)) by decide)) (fun _ =>  (Rn.iload_n (pc2 := 198) rfl rfl rfl (Rn.bipush (pc2 := 200) rfl rfl (Rn.ic_ne (pc2 := 203) rfl rfl (fun q => absurd q (show (¬ ((20 : Int) = 13)) by decide)) (fun _ =>  (Rn.iload_n (pc2 := 213) rfl rfl rfl (Rn.bipush (pc2 := 215) rfl rfl (Rn.ic_ne (pc2 := 218) rfl rfl (fun q => absurd q (show (¬ ((20 : Int) = 14)) by decide)) (fun _ =>  (Rn.iload_n (pc2 := 228) rfl rfl rfl (Rn.bipush (pc2 := 230) rfl rfl (Rn.ic_ne (pc2 := 233) rfl rfl (fun q => absurd q (show (¬ ((20 : Int) = 15)) by decide)) (fun _ =>  (Rn.iload_n (pc2 := 247) rfl rfl rfl (Rn.bipush (pc2 := 249) rfl rfl (Rn.ic_ne (pc2 := 252) rfl rfl (fun q => absurd q (show (¬ ((20 : Int) = 16)) by decide)) (fun _ =>  (Rn.iload_n (pc2 := 264) rfl rfl rfl (Rn.bipush (pc2 := 266) rfl rfl (Rn.ic_ne (pc2 := 269) rfl rfl (fun q => absurd q (show (¬ ((20 : Int) = 17)) by decide)) (fun _ =>  (Rn.iload_n (pc2 := 278) rfl rfl rfl (Rn.bipush (pc2 := 280) rfl rfl (Rn.ic_ne (pc2 := 283) rfl rfl (fun q => absurd q (show (¬ ((20 : Int) = 18)) by decide)) (fun _ =>  (Rn.iload_n (pc2 := 293) rfl rfl rfl (Rn.bipush (pc2 := 295) rfl rfl (Rn.ic_ne (pc2 := 298) rfl rfl (fun q => absurd q (show (¬ ((20 : Int) = 19)) by decide)) (fun _ =>  (Rn.iload_n (pc2 := 308) rfl rfl rfl (Rn.bipush (pc2 := 310) rfl rfl (Rn.ic_ne (pc2 := 313) rfl rfl (fun _ =>  (Rn.aload_n (pc2 := 314) rfl rfl rfl (Rn.iload_n (pc2 := 315) rfl rfl rfl (Rn.ivir (as := [vi a]) (r := []) (ls2 := [some (vr 0 0), some (vi a), none, none]) (f := 0) (i := 0) rfl rfl rfl rfl rfl rfl rfl h)))) (fun q => absurd (show ((20 : Int) = 20) by decide) q)))))))))))))))))))))))))))))))))))))))))))))))))))))))))))))))))))))))))))))))))))

theorem kR_21 {fs : List fr} {I : IT} {cc : Nat → Option Nat} {n c z : Nat} {out : oP} {a : Int} {b : Int} {d : Int} {e : Int} {v : Int} (h : Rf (Sum.inl (some (vi v))) fs I (Cs cc) n c z out) : Rn 162 318 [some (vr 0 0), some (vi 20), some (vi a), some (vi b), some (vi d), some (vi e), none] [vi v] (fs) I (Cs cc) n c z out :=
  (Rn.goto rfl (Rn.iret rfl rfl h))

theorem kA_22 {fs : List fr} {I : IT} {cc : Nat → Option Nat} {n c z : Nat} {out : oP} {a : Int} {b : Int} {d : Int} {e : Int} (h : Rn 22 0 [some (vr 0 0), some (vi a)] [] ((162, 323, [some (vr 0 0), some (vi 21), some (vi a), some (vi b), some (vi d), some (vi e), none], []) :: fs) I (Cs cc) n c z out) : Rn 162 0 [some (vr 0 0), some (vi 21), some (vi a), some (vi b), some (vi d), some (vi e), none] [] (fs) I (Cs cc) n c z out :=
  (Rn.iload_n (pc2 := 1) rfl rfl rfl (Rn.iz_ne (pc2 := 4) rfl rfl (fun q => absurd q (show (¬ ((21 : Int) = 0)) by decide)) (fun _ =>  (Rn.iload_n (pc2 := 12) rfl rfl rfl (Rn.iconst (pc2 := 13) rfl rfl (Rn.ic_ne (pc2 := 16) rfl rfl (fun q => absurd q (show (¬ ((21 : Int) = 1)) by decide)) (fun _ =>  (Rn.iload_n (pc2 := 28) rfl rfl rfl (Rn.iconst (pc2 := 29) rfl rfl (Rn.ic_ne (pc2 := 32) rfl rfl (fun q => absurd q (show (¬ ((21 : Int) = 2)) by decide)) (fun _ =>  (Rn.iload_n (pc2 := 40) rfl rfl rfl (Rn.iconst (pc2 := 41) rfl rfl (Rn.ic_ne (pc2 := 44) rfl rfl (fun q => absurd q (show (¬ ((21 : Int) = 3)) by decide)) (fun _ =>  (Rn.iload_n (pc2 := 58) rfl rfl rfl (Rn.iconst (pc2 := 59) rfl rfl (Rn.ic_ne (pc2 := 62) rfl rfl (fun q => absurd q (show (¬ ((21 : Int) = 4)) by decide)) (fun _ =>  (Rn.iload_n (pc2 := 72) rfl rfl rfl (Rn.iconst (pc2 := 73) rfl rfl (Rn.ic_ne (pc2 := 76) rfl rfl (fun q => absurd q (show (¬ ((21 : Int) = 5)) by decide)) (fun _ =>  (Rn.iload_n (pc2 := 94) rfl rfl rfl (Rn.bipush (pc2 := 96) rfl rfl (Rn.ic_ne (pc2 := 99) rfl rfl (fun q => absurd q (show (¬ ((21 : Int) = 6)) by decide)) (fun _ =>  (Rn.iload_n (pc2 := 109) rfl rfl rfl (Rn.bipush (pc2 := 111) rfl rfl (Rn.ic_ne (pc2 := 114) rfl rfl (fun q => absurd q (show (¬ ((21 : Int) = 7)) by decide)) (fun _ =>  (Rn.iload_n (pc2 := 124) rfl rfl rfl (Rn.bipush (pc2 := 126) rfl rfl (Rn.ic_ne (pc2 := 129) rfl rfl (fun q => absurd q (show (¬ ((21 : Int) = 8)) by decide)) (fun _ =>  (Rn.iload_n (pc2 := 139) rfl rfl rfl (Rn.bipush (pc2 := 141) rfl rfl (Rn.ic_ne (pc2 := 144) rfl rfl (fun q => absurd q (show (¬ ((21 : Int) = 9)) by decide)) (fun _ =>  (Rn.iload_n (pc2 := 154) rfl rfl rfl (Rn.bipush (pc2 := 156) rfl rfl (Rn.ic_ne (pc2 := 159) rfl rfl (fun q => absurd q (show (¬ ((21 : Int) = 10)) by decide)) (fun _ =>  (Rn.iload_n (pc2 := 168) rfl rfl rfl (Rn.bipush (pc2 := 170) rfl rfl (Rn.ic_ne (pc2 := 173) rfl rfl (fun q => absurd q (show (¬ ((21 : Int) = 11)) by decide)) (fun _ =>  (Rn.iload_n (pc2 := 183) rfl rfl rfl (Rn.bipush (pc2 := 185) rfl rfl (Rn.ic_ne (pc2 := 188) rfl rfl (fun q => absurd q (show (¬ ((21 : Int) = 12)) by decide)) (fun _ =>  (Rn.iload_n (pc2 := 198) rfl rfl rfl (Rn.bipush (pc2 := 200) rfl rfl (Rn.ic_ne (pc2 := 203) rfl rfl (fun q => absurd q (show (¬ ((21 : Int) = 13)) by decide)) (fun _ =>  (Rn.iload_n (pc2 := 213) rfl rfl rfl (Rn.bipush (pc2 := 215) rfl rfl (Rn.ic_ne (pc2 := 218) rfl rfl (fun q => absurd q (show (¬ ((21 : Int) = 14)) by decide)) (fun _ =>  (Rn.iload_n (pc2 := 228) rfl rfl rfl (Rn.bipush (pc2 := 230) rfl rfl (Rn.ic_ne (pc2 := 233) rfl rfl (fun q => absurd q (show (¬ ((21 : Int) = 15)) by decide)) (fun _ =>  (Rn.iload_n (pc2 := 247) rfl rfl rfl (Rn.bipush (pc2 := 249) rfl rfl (Rn.ic_ne (pc2 := 252) rfl rfl (fun q => absurd q (show (¬ ((21 : Int) = 16)) by decide)) (fun _ =>  (Rn.iload_n (pc2 := 264) rfl rfl rfl (Rn.bipush (pc2 := 266) rfl rfl (Rn.ic_ne (pc2 := 269) rfl rfl (fun q => absurd q (show (¬ ((21 : Int) = 17)) by decide)) (fun _ =>  (Rn.iload_n (pc2 := 278) rfl rfl rfl (Rn.bipush (pc2 := 280) rfl rfl (Rn.ic_ne (pc2 := 283) rfl rfl (fun q => absurd q (show (¬ ((21 : Int) = 18)) by decide)) (fun _ =>  (Rn.iload_n (pc2 := 293) rfl rfl rfl (Rn.bipush (pc2 := 295) rfl rfl (Rn.ic_ne (pc2 := 298) rfl rfl (fun q => absurd q (show (¬ ((21 : Int) = 19)) by decide)) (fun _ =>  (Rn.iload_n (pc2 := 308) rfl rfl rfl (Rn.bipush (pc2 := 310) rfl rfl (Rn.ic_ne (pc2 := 313) rfl rfl (fun q => absurd q (show (¬ ((21 : Int) = 20)) by decide)) (fun _ =>  (Rn.aload_n (pc2 := 322) rfl rfl rfl (Rn.iload_n (pc2 := 323) rfl rfl rfl (Rn.ivir (as := [vi a]) (r := []) (ls2 := [some (vr 0 0), some (vi a)]) (f := 0) (i := 0) rfl rfl rfl rfl rfl rfl rfl h))))))))))))))))))))))))))))))))))))))))))))))))))))))))))))))))))))))))))))))))))))))

theorem kR_22 {fs : List fr} {I : IT} {cc : Nat → Option Nat} {n c z : Nat} {out : oP} {a : Int} {b : Int} {d : Int} {e : Int} {v : Int} (h : Rf (Sum.inl (some (vi v))) fs I (Cs cc) n c z out) : Rn 162 326 [some (vr 0 0), some (vi 21), some (vi a), some (vi b), some (vi d), some (vi e), none] [vi v] (fs) I (Cs cc) n c z out :=
  (Rn.iret rfl rfl h)

theorem a_ret {ls : lo} {fs : List fr} {I : IT} {C : CT} {n c z : Nat} {out : oP} : ∀ e, e < 3 → Rf (Sum.inl (some (vi (-71 - (e : Nat))))) fs I C n c z out → Rn 162 (bif Nat.beq e 0 then 329 else bif Nat.beq e 1 then 334 else 339) ls [] fs I C n c z out
  | 0, _, h => Rn.bipush (pc2 := 331) rfl rfl (Rn.iret rfl rfl h)
  | 1, _, h => Rn.bipush (pc2 := 336) rfl rfl (Rn.iret rfl rfl h)
  | 2, _, h => Rn.bipush (pc2 := 341) rfl rfl (Rn.iret rfl rfl h)
  | k + 3, h, _ => by omega
theorem mE_lt (E : Nat) : mE E < 3 := by
  rcases E with _ | _ | E
  · exact (by decide : 0 < 3)
  · exact (by decide : 1 < 3)
  · exact (by decide : 2 < 3)
theorem a_exc {pcy : Nat} (hh : ∀ E, hnd 162 pcy E = some (some (bif Nat.beq (mE E) 0 then 329 else bif Nat.beq (mE E) 1 then 334 else 339, 6))) {E : Nat} {ls : lo} {st : List av} {fs : List fr} {I : IT} {C : CT} {n c z : Nat} {out : oP} (h : Rf (Sum.inl (some (vi (-71 - (mE E : Nat))))) fs I C n c z out) : Rf (Sum.inr E) ((162, pcy, ls, st) :: fs) I C n c z out :=
  Rf.catch (hh E) rfl (a_ret (mE E) (mE_lt E) h)
/-- the arguments of a call out of those of act -/
def aL : Nat → Int → Int → Int → Int → List Int
  | 1, _, _, _, _ => []
  | 2, a, b, d, _ => [a, b, d]
  | 3, _, _, _, _ => []
  | 4, a, b, d, e => [a, b, d, e]
  | 5, a, b, _, _ => [a, b]
  | 6, a, b, _, _ => [a, b]
  | 7, a, b, _, _ => [a, b]
  | 8, a, b, _, _ => [a, b]
  | 9, a, b, _, _ => [a, b]
  | 10, a, b, _, _ => [a, b]
  | 11, a, _, _, _ => [a]
  | 12, a, b, _, _ => [a, b]
  | 13, a, b, _, _ => [a, b]
  | 14, a, b, _, _ => [a, b]
  | 15, a, b, _, _ => [a, b]
  | 16, a, b, d, e => [a, b, d, e]
  | 17, a, b, d, _ => [a, b, d]
  | 18, a, _, _, _ => [a]
  | 19, a, b, _, _ => [a, b]
  | 20, a, b, _, _ => [a, b]
  | 21, a, _, _, _ => [a]
  | 22, a, _, _, _ => [a]
  | _, _, _, _, _ => []
/-- what act answers for an exception, by the code -/
def aX (y : Nat) (t : Int) : Int := if sE y 0 = some t then -71 else if sE y 1 = some t then -72 else -73
theorem ACT {S : IT} {I : IT} {cc : Nat → Option Nat} {fs : List fr} {n c z : Nat} {out : oP} {T : Int} : ∀ (w : Nat) (a b d e : Int), w ≤ 21 → sT (w + 1) S (aL (w + 1) a b d e) = some T → FS I cc S →
    (∀ I1 cc1 c1 z1, c1 ≤ c + 1 → z1 ≤ z + 6 → (∀ f i j, 59 < f → I1 f i j = I f i j) → FS I1 cc1 (if T = 0 then sZ (w + 1) S (aL (w + 1) a b d e) else S) → Rf (Sum.inl (some (vi (if T = 0 then sV (w + 1) S (aL (w + 1) a b d e) else aX (w + 1) T)))) fs I1 (Cs cc1) n c1 z1 out) →
    Rn 162 0 [some (vr 0 0), some (vi (w : Int)), some (vi a), some (vi b), some (vi d), some (vi e), none] [] fs I (Cs cc) n c z out
  | 0, a, b, d, e, _, hT, F, g => by
    refine kA_1 ?_
    obtain ⟨k, o, I1, cc1, c1, z1, h1, h2, h3, h4, h5⟩ := ctA (n := n) (c := c) (z := z) _ _ hT F
    refine Rn_run h1 ?_
    have g9 := g I1 cc1 c1 z1 h2 h3 h4
    rcases h5 with ⟨e0, F1, v, rfl, hv⟩ | ⟨e0, F1, E, rfl, hE⟩
    · rw [if_pos e0, if_pos e0] at g9
      have g8 := g9 F1
      rw [← hv] at g8
      exact Rf.sm (pc2 := 8) rfl (kR_1 g8)
    · rw [if_neg e0, if_neg e0] at g9
      have g8 := g9 F1
      refine a_exc (fun E => by rcases E with _ | _ | E <;> rfl) ?_
      rcases E with _ | _ | E
      · exact nomatch (show (none : Option Int) = some T from hE)
      · exact nomatch (show (none : Option Int) = some T from hE)
      · have hE : some (1 : Int) = some T := hE
        cases hE
        exact g8
  | 1, a, b, d, e, _, hT, F, g => by
    refine kA_2 ?_
    obtain ⟨k, o, I1, cc1, c1, z1, h1, h2, h3, h4, h5⟩ := ctA (n := n) (c := c) (z := z) _ _ hT F
    refine Rn_run h1 ?_
    have g9 := g I1 cc1 c1 z1 h2 h3 h4
    rcases h5 with ⟨e0, F1, v, rfl, hv⟩ | ⟨e0, F1, E, rfl, hE⟩
    · rw [if_pos e0, if_pos e0] at g9
      have g8 := g9 F1
      rw [← hv] at g8
      exact Rf.sm (pc2 := 24) rfl (kR_2 g8)
    · rw [if_neg e0, if_neg e0] at g9
      have g8 := g9 F1
      refine a_exc (fun E => by rcases E with _ | _ | E <;> rfl) ?_
      rcases E with _ | _ | E
      · have hE : some (1 : Int) = some T := hE
        cases hE
        exact g8
      · have hE : some (2 : Int) = some T := hE
        cases hE
        exact g8
      · have hE : some (3 : Int) = some T := hE
        cases hE
        exact g8
  | 2, a, b, d, e, _, hT, F, g => by
    refine kA_3 ?_
    obtain ⟨k, o, I1, cc1, c1, z1, h1, h2, h3, h4, h5⟩ := ctA (n := n) (c := c) (z := z) _ _ hT F
    refine Rn_run h1 ?_
    have g9 := g I1 cc1 c1 z1 h2 h3 h4
    rcases h5 with ⟨e0, F1, v, rfl, hv⟩ | ⟨e0, F1, E, rfl, hE⟩
    · rw [if_pos e0, if_pos e0] at g9
      have g8 := g9 F1
      rw [← hv] at g8
      exact Rf.sm (pc2 := 36) rfl (kR_3 g8)
    · rw [if_neg e0, if_neg e0] at g9
      have g8 := g9 F1
      refine a_exc (fun E => by rcases E with _ | _ | E <;> rfl) ?_
      rcases E with _ | _ | E
      · exact nomatch (show (none : Option Int) = some T from hE)
      · exact nomatch (show (none : Option Int) = some T from hE)
      · have hE : some (1 : Int) = some T := hE
        cases hE
        exact g8
  | 3, a, b, d, e, _, hT, F, g => by
    refine kA_4 ?_
    obtain ⟨k, o, I1, cc1, c1, z1, h1, h2, h3, h4, h5⟩ := ctA (n := n) (c := c) (z := z) _ _ hT F
    refine Rn_run h1 ?_
    have g9 := g I1 cc1 c1 z1 h2 h3 h4
    rcases h5 with ⟨e0, F1, v, rfl, hv⟩ | ⟨e0, F1, E, rfl, hE⟩
    · rw [if_pos e0, if_pos e0] at g9
      have g8 := g9 F1
      rw [← hv] at g8
      exact Rf.sm (pc2 := 54) rfl (kR_4 g8)
    · rw [if_neg e0, if_neg e0] at g9
      have g8 := g9 F1
      refine a_exc (fun E => by rcases E with _ | _ | E <;> rfl) ?_
      rcases E with _ | _ | E
      · have hE : some (1 : Int) = some T := hE
        cases hE
        exact g8
      · have hE : some (2 : Int) = some T := hE
        cases hE
        exact g8
      · have hE : some (3 : Int) = some T := hE
        cases hE
        exact g8
  | 4, a, b, d, e, _, hT, F, g => by
    refine kA_5 ?_
    obtain ⟨k, o, I1, cc1, c1, z1, h1, h2, h3, h4, h5⟩ := ctA (n := n) (c := c) (z := z) _ _ hT F
    refine Rn_run h1 ?_
    have g9 := g I1 cc1 c1 z1 h2 h3 h4
    rcases h5 with ⟨e0, F1, v, rfl, hv⟩ | ⟨e0, F1, E, rfl, hE⟩
    · rw [if_pos e0, if_pos e0] at g9
      have g8 := g9 F1
      rw [← hv] at g8
      exact Rf.sm (pc2 := 68) rfl (kR_5 g8)
    · rw [if_neg e0, if_neg e0] at g9
      have g8 := g9 F1
      refine a_exc (fun E => by rcases E with _ | _ | E <;> rfl) ?_
      rcases E with _ | _ | E
      · have hE : some (1 : Int) = some T := hE
        cases hE
        exact g8
      · exact nomatch (show (none : Option Int) = some T from hE)
      · have hE : some (2 : Int) = some T := hE
        cases hE
        exact g8
  | 5, a, b, d, e, _, hT, F, g => by
    refine kA_6 ?_
    obtain ⟨k, o, I1, cc1, c1, z1, h1, h2, h3, h4, h5⟩ := ctA (n := n) (c := c) (z := z) _ _ hT F
    refine Rn_run h1 ?_
    have g9 := g I1 cc1 c1 z1 h2 h3 h4
    rcases h5 with ⟨e0, F1, v, rfl, hv⟩ | ⟨e0, F1, E, rfl, hE⟩
    · rw [if_pos e0, if_pos e0] at g9
      have g8 := g9 F1
      rw [← hv] at g8
      refine Rf.sm (pc2 := 82) rfl (kR_6 ?_)
      have e6 : sF 6 v = if v = 0 then 0 else 1 := rfl
      by_cases q : v = 0
      · rw [e6, if_pos q] at g8; exact ⟨fun _ => g8, fun q2 => absurd q q2⟩
      · rw [e6, if_neg q] at g8; exact ⟨fun q2 => absurd q2 q, fun _ => g8⟩
    · rw [if_neg e0, if_neg e0] at g9
      have g8 := g9 F1
      refine a_exc (fun E => by rcases E with _ | _ | E <;> rfl) ?_
      rcases E with _ | _ | E
      · have hE : some (1 : Int) = some T := hE
        cases hE
        exact g8
      · exact nomatch (show (none : Option Int) = some T from hE)
      · exact nomatch (show (none : Option Int) = some T from hE)
  | 6, a, b, d, e, _, hT, F, g => by
    refine kA_7 ?_
    obtain ⟨k, o, I1, cc1, c1, z1, h1, h2, h3, h4, h5⟩ := ctA (n := n) (c := c) (z := z) _ _ hT F
    refine Rn_run h1 ?_
    have g9 := g I1 cc1 c1 z1 h2 h3 h4
    rcases h5 with ⟨e0, F1, v, rfl, hv⟩ | ⟨e0, F1, E, rfl, hE⟩
    · rw [if_pos e0, if_pos e0] at g9
      have g8 := g9 F1
      rw [← hv] at g8
      exact Rf.sm (pc2 := 105) rfl (kR_7 g8)
    · rw [if_neg e0, if_neg e0] at g9
      have g8 := g9 F1
      refine a_exc (fun E => by rcases E with _ | _ | E <;> rfl) ?_
      rcases E with _ | _ | E
      · have hE : some (1 : Int) = some T := hE
        cases hE
        exact g8
      · have hE : some (2 : Int) = some T := hE
        cases hE
        exact g8
      · exact nomatch (show (none : Option Int) = some T from hE)
  | 7, a, b, d, e, _, hT, F, g => by
    refine kA_8 ?_
    obtain ⟨k, o, I1, cc1, c1, z1, h1, h2, h3, h4, h5⟩ := ctA (n := n) (c := c) (z := z) _ _ hT F
    refine Rn_run h1 ?_
    have g9 := g I1 cc1 c1 z1 h2 h3 h4
    rcases h5 with ⟨e0, F1, v, rfl, hv⟩ | ⟨e0, F1, E, rfl, hE⟩
    · rw [if_pos e0, if_pos e0] at g9
      have g8 := g9 F1
      rw [← hv] at g8
      exact Rf.sm (pc2 := 120) rfl (kR_8 g8)
    · rw [if_neg e0, if_neg e0] at g9
      have g8 := g9 F1
      refine a_exc (fun E => by rcases E with _ | _ | E <;> rfl) ?_
      rcases E with _ | _ | E
      · have hE : some (1 : Int) = some T := hE
        cases hE
        exact g8
      · have hE : some (2 : Int) = some T := hE
        cases hE
        exact g8
      · exact nomatch (show (none : Option Int) = some T from hE)
  | 8, a, b, d, e, _, hT, F, g => by
    refine kA_9 ?_
    obtain ⟨k, o, I1, cc1, c1, z1, h1, h2, h3, h4, h5⟩ := ctA (n := n) (c := c) (z := z) _ _ hT F
    refine Rn_run h1 ?_
    have g9 := g I1 cc1 c1 z1 h2 h3 h4
    rcases h5 with ⟨e0, F1, v, rfl, hv⟩ | ⟨e0, F1, E, rfl, hE⟩
    · rw [if_pos e0, if_pos e0] at g9
      have g8 := g9 F1
      rw [← hv] at g8
      exact Rf.sm (pc2 := 135) rfl (kR_9 g8)
    · rw [if_neg e0, if_neg e0] at g9
      have g8 := g9 F1
      refine a_exc (fun E => by rcases E with _ | _ | E <;> rfl) ?_
      rcases E with _ | _ | E
      · have hE : some (1 : Int) = some T := hE
        cases hE
        exact g8
      · have hE : some (2 : Int) = some T := hE
        cases hE
        exact g8
      · exact nomatch (show (none : Option Int) = some T from hE)
  | 9, a, b, d, e, _, hT, F, g => by
    refine kA_10 ?_
    obtain ⟨k, o, I1, cc1, c1, z1, h1, h2, h3, h4, h5⟩ := ctA (n := n) (c := c) (z := z) _ _ hT F
    refine Rn_run h1 ?_
    have g9 := g I1 cc1 c1 z1 h2 h3 h4
    rcases h5 with ⟨e0, F1, v, rfl, hv⟩ | ⟨e0, F1, E, rfl, hE⟩
    · rw [if_pos e0, if_pos e0] at g9
      have g8 := g9 F1
      rw [← hv] at g8
      exact Rf.sm (pc2 := 150) rfl (kR_10 g8)
    · rw [if_neg e0, if_neg e0] at g9
      have g8 := g9 F1
      refine a_exc (fun E => by rcases E with _ | _ | E <;> rfl) ?_
      rcases E with _ | _ | E
      · have hE : some (1 : Int) = some T := hE
        cases hE
        exact g8
      · exact nomatch (show (none : Option Int) = some T from hE)
      · exact nomatch (show (none : Option Int) = some T from hE)
  | 10, a, b, d, e, _, hT, F, g => by
    refine kA_11 ?_
    obtain ⟨k, o, I1, cc1, c1, z1, h1, h2, h3, h4, h5⟩ := ctA (n := n) (c := c) (z := z) _ _ hT F
    refine Rn_run h1 ?_
    have g9 := g I1 cc1 c1 z1 h2 h3 h4
    rcases h5 with ⟨e0, F1, v, rfl, hv⟩ | ⟨e0, F1, E, rfl, hE⟩
    · rw [if_pos e0, if_pos e0] at g9
      have g8 := g9 F1
      rw [← hv] at g8
      exact Rf.sm (pc2 := 164) rfl (kR_11 g8)
    · rw [if_neg e0, if_neg e0] at g9
      have g8 := g9 F1
      refine a_exc (fun E => by rcases E with _ | _ | E <;> rfl) ?_
      rcases E with _ | _ | E
      · have hE : some (1 : Int) = some T := hE
        cases hE
        exact g8
      · exact nomatch (show (none : Option Int) = some T from hE)
      · have hE : some (2 : Int) = some T := hE
        cases hE
        exact g8
  | 11, a, b, d, e, _, hT, F, g => by
    refine kA_12 ?_
    obtain ⟨k, o, I1, cc1, c1, z1, h1, h2, h3, h4, h5⟩ := ctA (n := n) (c := c) (z := z) _ _ hT F
    refine Rn_run h1 ?_
    have g9 := g I1 cc1 c1 z1 h2 h3 h4
    rcases h5 with ⟨e0, F1, v, rfl, hv⟩ | ⟨e0, F1, E, rfl, hE⟩
    · rw [if_pos e0, if_pos e0] at g9
      have g8 := g9 F1
      rw [← hv] at g8
      exact Rf.sm (pc2 := 179) rfl (kR_12 g8)
    · rw [if_neg e0, if_neg e0] at g9
      have g8 := g9 F1
      refine a_exc (fun E => by rcases E with _ | _ | E <;> rfl) ?_
      rcases E with _ | _ | E
      · have hE : some (1 : Int) = some T := hE
        cases hE
        exact g8
      · have hE : some (2 : Int) = some T := hE
        cases hE
        exact g8
      · have hE : some (3 : Int) = some T := hE
        cases hE
        exact g8
  | 12, a, b, d, e, _, hT, F, g => by
    refine kA_13 ?_
    obtain ⟨k, o, I1, cc1, c1, z1, h1, h2, h3, h4, h5⟩ := ctA (n := n) (c := c) (z := z) _ _ hT F
    refine Rn_run h1 ?_
    have g9 := g I1 cc1 c1 z1 h2 h3 h4
    rcases h5 with ⟨e0, F1, v, rfl, hv⟩ | ⟨e0, F1, E, rfl, hE⟩
    · rw [if_pos e0, if_pos e0] at g9
      have g8 := g9 F1
      rw [← hv] at g8
      exact Rf.sm (pc2 := 194) rfl (kR_13 g8)
    · rw [if_neg e0, if_neg e0] at g9
      have g8 := g9 F1
      refine a_exc (fun E => by rcases E with _ | _ | E <;> rfl) ?_
      rcases E with _ | _ | E
      · have hE : some (1 : Int) = some T := hE
        cases hE
        exact g8
      · exact nomatch (show (none : Option Int) = some T from hE)
      · have hE : some (2 : Int) = some T := hE
        cases hE
        exact g8
  | 13, a, b, d, e, _, hT, F, g => by
    refine kA_14 ?_
    obtain ⟨k, o, I1, cc1, c1, z1, h1, h2, h3, h4, h5⟩ := ctA (n := n) (c := c) (z := z) _ _ hT F
    refine Rn_run h1 ?_
    have g9 := g I1 cc1 c1 z1 h2 h3 h4
    rcases h5 with ⟨e0, F1, v, rfl, hv⟩ | ⟨e0, F1, E, rfl, hE⟩
    · rw [if_pos e0, if_pos e0] at g9
      have g8 := g9 F1
      rw [← hv] at g8
      exact Rf.sm (pc2 := 209) rfl (kR_14 g8)
    · rw [if_neg e0, if_neg e0] at g9
      have g8 := g9 F1
      refine a_exc (fun E => by rcases E with _ | _ | E <;> rfl) ?_
      rcases E with _ | _ | E
      · have hE : some (1 : Int) = some T := hE
        cases hE
        exact g8
      · exact nomatch (show (none : Option Int) = some T from hE)
      · exact nomatch (show (none : Option Int) = some T from hE)
  | 14, a, b, d, e, _, hT, F, g => by
    refine kA_15 ?_
    obtain ⟨k, o, I1, cc1, c1, z1, h1, h2, h3, h4, h5⟩ := ctA (n := n) (c := c) (z := z) _ _ hT F
    refine Rn_run h1 ?_
    have g9 := g I1 cc1 c1 z1 h2 h3 h4
    rcases h5 with ⟨e0, F1, v, rfl, hv⟩ | ⟨e0, F1, E, rfl, hE⟩
    · rw [if_pos e0, if_pos e0] at g9
      have g8 := g9 F1
      rw [← hv] at g8
      exact Rf.sm (pc2 := 224) rfl (kR_15 g8)
    · rw [if_neg e0, if_neg e0] at g9
      have g8 := g9 F1
      refine a_exc (fun E => by rcases E with _ | _ | E <;> rfl) ?_
      rcases E with _ | _ | E
      · have hE : some (1 : Int) = some T := hE
        cases hE
        exact g8
      · exact nomatch (show (none : Option Int) = some T from hE)
      · exact nomatch (show (none : Option Int) = some T from hE)
  | 15, a, b, d, e, _, hT, F, g => by
    refine kA_16 ?_
    obtain ⟨k, o, I1, cc1, c1, z1, h1, h2, h3, h4, h5⟩ := ctA (n := n) (c := c) (z := z) _ _ hT F
    refine Rn_run h1 ?_
    have g9 := g I1 cc1 c1 z1 h2 h3 h4
    rcases h5 with ⟨e0, F1, v, rfl, hv⟩ | ⟨e0, F1, E, rfl, hE⟩
    · rw [if_pos e0, if_pos e0] at g9
      have g8 := g9 F1
      rw [← hv] at g8
      exact Rf.sm (pc2 := 243) rfl (kR_16 g8)
    · rw [if_neg e0, if_neg e0] at g9
      have g8 := g9 F1
      refine a_exc (fun E => by rcases E with _ | _ | E <;> rfl) ?_
      rcases E with _ | _ | E
      · have hE : some (1 : Int) = some T := hE
        cases hE
        exact g8
      · have hE : some (2 : Int) = some T := hE
        cases hE
        exact g8
      · have hE : some (3 : Int) = some T := hE
        cases hE
        exact g8
  | 16, a, b, d, e, _, hT, F, g => by
    refine kA_17 ?_
    obtain ⟨k, o, I1, cc1, c1, z1, h1, h2, h3, h4, h5⟩ := ctA (n := n) (c := c) (z := z) _ _ hT F
    refine Rn_run h1 ?_
    have g9 := g I1 cc1 c1 z1 h2 h3 h4
    rcases h5 with ⟨e0, F1, v, rfl, hv⟩ | ⟨e0, F1, E, rfl, hE⟩
    · rw [if_pos e0, if_pos e0] at g9
      have g8 := g9 F1
      rw [← hv] at g8
      exact Rf.sm (pc2 := 260) rfl (kR_17 g8)
    · rw [if_neg e0, if_neg e0] at g9
      have g8 := g9 F1
      refine a_exc (fun E => by rcases E with _ | _ | E <;> rfl) ?_
      rcases E with _ | _ | E
      · have hE : some (1 : Int) = some T := hE
        cases hE
        exact g8
      · have hE : some (2 : Int) = some T := hE
        cases hE
        exact g8
      · have hE : some (3 : Int) = some T := hE
        cases hE
        exact g8
  | 17, a, b, d, e, _, hT, F, g => by
    refine kA_18 ?_
    obtain ⟨k, o, I1, cc1, c1, z1, h1, h2, h3, h4, h5⟩ := ctA (n := n) (c := c) (z := z) _ _ hT F
    refine Rn_run h1 ?_
    have g9 := g I1 cc1 c1 z1 h2 h3 h4
    rcases h5 with ⟨e0, F1, v, rfl, hv⟩ | ⟨e0, F1, E, rfl, hE⟩
    · rw [if_pos e0, if_pos e0] at g9
      have g8 := g9 F1
      rw [← hv] at g8
      exact Rf.sm (pc2 := 274) rfl (kR_18 g8)
    · rw [if_neg e0, if_neg e0] at g9
      have g8 := g9 F1
      refine a_exc (fun E => by rcases E with _ | _ | E <;> rfl) ?_
      rcases E with _ | _ | E
      · have hE : some (1 : Int) = some T := hE
        cases hE
        exact g8
      · exact nomatch (show (none : Option Int) = some T from hE)
      · have hE : some (2 : Int) = some T := hE
        cases hE
        exact g8
  | 18, a, b, d, e, _, hT, F, g => by
    refine kA_19 ?_
    obtain ⟨k, o, I1, cc1, c1, z1, h1, h2, h3, h4, h5⟩ := ctA (n := n) (c := c) (z := z) _ _ hT F
    refine Rn_run h1 ?_
    have g9 := g I1 cc1 c1 z1 h2 h3 h4
    rcases h5 with ⟨e0, F1, v, rfl, hv⟩ | ⟨e0, F1, E, rfl, hE⟩
    · rw [if_pos e0, if_pos e0] at g9
      have g8 := g9 F1
      rw [← hv] at g8
      exact Rf.sm (pc2 := 289) rfl (kR_19 g8)
    · rw [if_neg e0, if_neg e0] at g9
      have g8 := g9 F1
      refine a_exc (fun E => by rcases E with _ | _ | E <;> rfl) ?_
      rcases E with _ | _ | E
      · have hE : some (1 : Int) = some T := hE
        cases hE
        exact g8
      · exact nomatch (show (none : Option Int) = some T from hE)
      · exact nomatch (show (none : Option Int) = some T from hE)
  | 19, a, b, d, e, _, hT, F, g => by
    refine kA_20 ?_
    obtain ⟨k, o, I1, cc1, c1, z1, h1, h2, h3, h4, h5⟩ := ctA (n := n) (c := c) (z := z) _ _ hT F
    refine Rn_run h1 ?_
    have g9 := g I1 cc1 c1 z1 h2 h3 h4
    rcases h5 with ⟨e0, F1, v, rfl, hv⟩ | ⟨e0, F1, E, rfl, hE⟩
    · rw [if_pos e0, if_pos e0] at g9
      have g8 := g9 F1
      rw [← hv] at g8
      exact Rf.sm (pc2 := 304) rfl (kR_20 g8)
    · rw [if_neg e0, if_neg e0] at g9
      have g8 := g9 F1
      refine a_exc (fun E => by rcases E with _ | _ | E <;> rfl) ?_
      rcases E with _ | _ | E
      · have hE : some (1 : Int) = some T := hE
        cases hE
        exact g8
      · exact nomatch (show (none : Option Int) = some T from hE)
      · exact nomatch (show (none : Option Int) = some T from hE)
  | 20, a, b, d, e, _, hT, F, g => by
    refine kA_21 ?_
    obtain ⟨k, o, I1, cc1, c1, z1, h1, h2, h3, h4, h5⟩ := ctA (n := n) (c := c) (z := z) _ _ hT F
    refine Rn_run h1 ?_
    have g9 := g I1 cc1 c1 z1 h2 h3 h4
    rcases h5 with ⟨e0, F1, v, rfl, hv⟩ | ⟨e0, F1, E, rfl, hE⟩
    · rw [if_pos e0, if_pos e0] at g9
      have g8 := g9 F1
      rw [← hv] at g8
      exact Rf.sm (pc2 := 318) rfl (kR_21 g8)
    · rw [if_neg e0, if_neg e0] at g9
      have g8 := g9 F1
      refine a_exc (fun E => by rcases E with _ | _ | E <;> rfl) ?_
      rcases E with _ | _ | E
      · exact nomatch (show (none : Option Int) = some T from hE)
      · have hE : some (1 : Int) = some T := hE
        cases hE
        exact g8
      · have hE : some (2 : Int) = some T := hE
        cases hE
        exact g8
  | 21, a, b, d, e, _, hT, F, g => by
    refine kA_22 ?_
    obtain ⟨k, o, I1, cc1, c1, z1, h1, h2, h3, h4, h5⟩ := ctA (n := n) (c := c) (z := z) _ _ hT F
    refine Rn_run h1 ?_
    have g9 := g I1 cc1 c1 z1 h2 h3 h4
    rcases h5 with ⟨e0, F1, v, rfl, hv⟩ | ⟨e0, F1, E, rfl, hE⟩
    · rw [if_pos e0, if_pos e0] at g9
      have g8 := g9 F1
      rw [← hv] at g8
      exact Rf.sm (pc2 := 326) rfl (kR_22 g8)
    · rw [if_neg e0, if_neg e0] at g9
      have g8 := g9 F1
      refine a_exc (fun E => by rcases E with _ | _ | E <;> rfl) ?_
      rcases E with _ | _ | E
      · exact nomatch (show (none : Option Int) = some T from hE)
      · have hE : some (1 : Int) = some T := hE
        cases hE
        exact g8
      · exact nomatch (show (none : Option Int) = some T from hE)
  | w + 22, _, _, _, _, h, _, _, _ => by omega
/-- the script stays -/
def J9 (I J : IT) : Prop := ∀ i j, I 99 i j = J 99 i j
theorem J9.k {I I1 J : IT} (h : J9 I J) (g : ∀ f i j, 59 < f → I1 f i j = I f i j) : J9 I1 J := fun i j => (g 99 i j (by omega)).trans (h i j)
/-- a run of the law's code, whatever the object's own store is, as long as it stands for S -/
def Ln (J : IT) (m pc : Nat) (ls : lo) (st : List av) (fs : List fr) (S : IT) (c z : Nat) (out : oP) : Prop := ∀ I cc c' z', FS I cc S → J9 I J → c' ≤ c → z' ≤ z → Rn m pc ls st fs I (Cs cc) 211 c' z' out
def Lf (J : IT) (v : Option av) (fs : List fr) (S : IT) (c z : Nat) (out : oP) : Prop := ∀ I cc c' z', FS I cc S → J9 I J → c' ≤ c → z' ≤ z → Rf (Sum.inl v) fs I (Cs cc) 211 c' z' out
theorem Ln.le {J : IT} {m pc : Nat} {ls : lo} {st : List av} {fs : List fr} {S : IT} {c z c2 z2 : Nat} {out : oP} (h : Ln J m pc ls st fs S c2 z2 out) (hc : c ≤ c2) (hz : z ≤ z2) : Ln J m pc ls st fs S c z out := fun I cc c' z' F hJ h1 h2 => h I cc c' z' F hJ (by omega) (by omega)
theorem Ln.N {J : IT} {m pc : Nat} {ls : lo} {st : List av} {fs : List fr} {S S2 : IT} {c z : Nat} {out : oP} (h : Ln J m pc ls st fs S2 c z out) (g : agN S S2) : Ln J m pc ls st fs S c z out := fun I cc c' z' F hJ h1 h2 => h I cc c' z' (F.N g) hJ h1 h2
theorem Lf.sm {J : IT} {m pc : Nat} {ls : lo} {st : List av} {fs : List fr} {S : IT} {c z pc2 : Nat} {out : oP} {v : av} (hp : pc + 3 = pc2) (h : Ln J m pc2 ls (v :: st) fs S c z out) : Lf J (some v) ((m, pc, ls, st) :: fs) S c z out := fun I cc c' z' F hJ h1 h2 => Rf.sm hp (h I cc c' z' F hJ h1 h2)
/-- what holds of every store that an object stands for -/
theorem Ln.vi {J : IT} {m pc : Nat} {ls : lo} {st : List av} {fs : List fr} {S : IT} {c z : Nat} {out : oP} (h : VI S → Ln J m pc ls st fs S c z out) : Ln J m pc ls st fs S c z out := fun I cc c' z' F hJ h1 h2 => h F.2 I cc c' z' F hJ h1 h2
-- calls, over frames
theorem act_L {J S S2 : IT} {I : IT} {cc : Nat → Option Nat} {m pc pc2 : Nat} {ls : lo} {st : List av} {fs : List fr} {c z c' z' : Nat} {out : oP} {T : Int} (w : Nat) {a b d e : Int} {r : Int} (hw : w ≤ 21) (hT : sT (w + 1) S (aL (w + 1) a b d e) = some T) (F : FS I cc S) (hJ : J9 I J) (hc : c' ≤ c) (hz : z' ≤ z) (hp : pc + 3 = pc2) (hr : (if T = 0 then sV (w + 1) S (aL (w + 1) a b d e) else aX (w + 1) T) = r) (hS : (if T = 0 then sZ (w + 1) S (aL (w + 1) a b d e) else S) = S2)
    (g : Ln J m pc2 ls (Sum.inl r :: st) fs S2 (c + 1) (z + 6) out) : Rn 162 0 [some (vr 0 0), some (vi (w : Int)), some (vi a), some (vi b), some (vi d), some (vi e), none] [] ((m, pc, ls, st) :: fs) I (Cs cc) 211 c' z' out := by
  subst hp
  subst hr
  subst hS
  exact ACT w a b d e hw hT F (fun I1 cc1 c1 z1 h1 h2 h3 F1 => Rf.sm rfl (g I1 cc1 c1 z1 F1 (hJ.k h3) (by omega) (by omega)))
theorem call_L {J S S2 : IT} {I : IT} {cc : Nat → Option Nat} {m pc pc2 : Nat} {ls : lo} {st : List av} {fs : List fr} {c z c' z' : Nat} {out : oP} {y : Nat} {l : List Int} {ls2 : lo} (hT : sT y S l = some 0) (hi : ini y (vr 0 0 :: l.map vi) = ls2) (F : FS I cc S) (hJ : J9 I J) (hc : c' ≤ c) (hz : z' ≤ z) (hp : pc + 3 = pc2) (hS : sZ y S l = S2)
    (g : ∀ v, sF y v = sV y S l → Ln J m pc2 ls (vi v :: st) fs S2 (c + 1) (z + 6) out) : Rn y 0 ls2 [] ((m, pc, ls, st) :: fs) I (Cs cc) 211 c' z' out := by
  subst hp
  subst hS
  subst hi
  obtain ⟨k, o, I1, cc1, c1, z1, h1, h2, h3, h4, h5⟩ := ctA (n := 211) (c := c') (z := z') _ _ hT F
  refine Rn_run h1 ?_
  rcases h5 with ⟨e0, F1, v, rfl, hv⟩ | ⟨e0, F1, E, rfl, hE⟩
  · exact Rf.sm rfl (g v hv I1 cc1 c1 z1 F1 (hJ.k h4) (by omega) (by omega))
  · exact absurd rfl e0
theorem call_V {J S S2 : IT} {I : IT} {cc : Nat → Option Nat} {m pc pc2 : Nat} {ls : lo} {st : List av} {fs : List fr} {c z c' z' : Nat} {out : oP} {y : Nat} {l : List Int} {ls2 : lo} (hy : ¬ y = 6) (hT : sT y S l = some 0) (hi : ini y (vr 0 0 :: l.map vi) = ls2) (F : FS I cc S) (hJ : J9 I J) (hc : c' ≤ c) (hz : z' ≤ z) (hp : pc + 3 = pc2) (hS : sZ y S l = S2)
    (g : Ln J m pc2 ls (Sum.inl (sV y S l) :: st) fs S2 (c + 1) (z + 6) out) : Rn y 0 ls2 [] ((m, pc, ls, st) :: fs) I (Cs cc) 211 c' z' out := by
  refine call_L hT hi F hJ hc hz hp hS (fun v hv => ?_)
  have e : sF y v = v := by
    unfold sF
    split
    · exact absurd rfl hy
    · rfl
  rw [← hv, e] at g
  exact g
