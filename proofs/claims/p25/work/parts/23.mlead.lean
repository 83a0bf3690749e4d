theorem up3_up3 {β : Type} {F : Nat → Nat → Nat → β} {f i j : Nat} {v w : β} : up3 (up3 F f i j v) f i j w = up3 F f i j w := by
  funext a b c
  show (if _ then _ else (if _ then _ else _)) = (if _ then _ else _)
  by_cases h : a = f ∧ b = i ∧ c = j
  · rw [if_pos h, if_pos h]
  · rw [if_neg h, if_neg h, if_neg h]
theorem up3_no {β : Type} {F : Nat → Nat → Nat → β} {f i j f2 i2 j2 : Nat} {v : β} (h : ¬ (f2 = f ∧ i2 = i ∧ j2 = j)) : up3 F f i j v f2 i2 j2 = F f2 i2 j2 := if_neg h
/-- the same directory -/
def agD (S S2 : IT) : Prop := S2 27 0 4 = S 27 0 4 ∧ S2 27 0 9 = S 27 0 9 ∧ ∀ f, 29 ≤ f → f ≤ 36 → ∀ i j, S2 f i j = S f i j
theorem pl_ag {S S2 : IT} (h : agD S S2) (s : Nat) (num : Int) : ∀ k, pl S2 s num k = pl S s num k := by
  intro k
  induction k with
  | zero => rfl
  | succ k ih =>
    unfold pl
    rw [ih, h.2.2 30 (by omega) (by omega), h.2.2 31 (by omega) (by omega), h.2.2 32 (by omega) (by omega)]
theorem plc_ag {S S2 : IT} (h : agD S S2) (s : Nat) (num : Int) : plc S2 s num = plc S s num := by
  unfold plc
  rw [h.2.2 29 (by omega) (by omega), pl_ag h]
theorem nn_ag {S S2 : IT} (h : agD S S2) : nn S2 = nn S := by
  show (S2 27 0 9).toNat = (S 27 0 9).toNat
  rw [h.2.1]
theorem li_ag {S S2 : IT} (h : agD S S2) (s : Nat) : ∀ k, li S2 s k = li S s k := by
  intro k
  induction k with
  | zero => rfl
  | succ k ih => unfold li; rw [ih, h.2.2 33 (by omega) (by omega)]
theorem bn_ag {S S2 : IT} (h : agD S S2) (s k : Nat) : bn S2 s k = bn S s k := by
  unfold bn
  rw [li_ag h, h.2.2 34 (by omega) (by omega)]
theorem cz_ag {S S2 : IT} (h : agD S S2) (s : Nat) (x : Int) : ∀ k, cz S2 s x k = cz S s x k := by
  intro k
  induction k with
  | zero => rfl
  | succ k ih => unfold cz; rw [ih, h.2.2 33 (by omega) (by omega), h.2.2 34 (by omega) (by omega), h.2.2 35 (by omega) (by omega)]
theorem lm_ag {S S2 : IT} (h : agD S S2) (s : Nat) (name : Int) : ∀ k, lm S2 s name k = lm S s name k := by
  intro k
  induction k with
  | zero => rfl
  | succ k ih => unfold lm; rw [ih, h.2.2 33 (by omega) (by omega), h.2.2 34 (by omega) (by omega), h.2.2 35 (by omega) (by omega), h.2.2 36 (by omega) (by omega), h.2.2 36 (by omega) (by omega)]
theorem bf_ag {S S2 : IT} (h : agD S S2) (name num : Int) : ∀ k, bf S2 name num k = bf S name num k := by
  intro k
  induction k with
  | zero => rfl
  | succ k ih => unfold bf; rw [ih, nn_ag h, bn_ag h, plc_ag h, h.2.2 36 (by omega) (by omega), h.2.2 36 (by omega) (by omega)]
theorem ff_ag {S S2 : IT} (h : agD S S2) (name num : Int) : ∀ k, ff S2 name num k = ff S name num k := by
  intro k
  induction k with
  | zero => rfl
  | succ k ih => unfold ff; rw [ih, nn_ag h, lm_ag h, plc_ag h]
theorem ld_ag {S S2 : IT} (h : agD S S2) (name num : Int) : ld S2 name num = ld S name num := by
  unfold ld
  rw [bf_ag h, ff_ag h, h.1]
theorem VS_ag {S S2 : IT} {p : Int} (h : agD S S2) (V : VS S p) : VS S2 p := by
  intro s hs
  obtain ⟨a, b, c, d⟩ := V s hs
  have e29 := h.2.2 29 (by omega) (by omega)
  have e30 := h.2.2 30 (by omega) (by omega)
  have e31 := h.2.2 31 (by omega) (by omega)
  have e32 := h.2.2 32 (by omega) (by omega)
  refine ⟨by rw [e29]; exact a, by rw [e29]; exact b, fun j hj => ?_, fun i j hij hj => ?_⟩
  · rw [e29] at hj; rw [e30, e31, e32]; exact c j hj
  · rw [e29] at hj; rw [e30, e31, e30, e31]; exact d i j hij hj
theorem VN_ag {S S2 : IT} {T : Int} (h : agD S S2) (V : VN S T) : VN S2 T := by
  obtain ⟨a, b, c, d, e⟩ := V
  have e33 := h.2.2 33 (by omega) (by omega)
  have e34 := h.2.2 34 (by omega) (by omega)
  have e35 := h.2.2 35 (by omega) (by omega)
  refine ⟨by rw [h.2.1]; exact a, by rw [h.2.1]; exact b, by rw [h.1]; exact c, by rw [h.1]; exact d, fun k hk => ?_⟩
  rw [h.2.1] at hk
  rw [e33, e34, e35, h.1]; exact e k hk
def brv (S : IT) (s : Nat) (name : Int) : Int := if 0 ≤ bn S s (nn S) ∧ S 36 0 (bn S s (nn S)).toNat = S 36 0 name.toNat then 1 else 0
def ldo (S : IT) (name num : Int) : Int := if bf S name num (S 27 0 4).toNat = -1 ∧ ¬ (ff S name num (S 27 0 4).toNat).1 = -1 then 1 else 0

theorem k43_0 {fs : List fr} {I : IT} {cc : Nat → Option Nat} {n c z : Nat} {out : oP} {s : Int} (h : Rn 43 4 [some (vr 27 0), some (vi s), some (vi (-1)), some (vi 0)] [] (fs) I (Cs cc) n c z out) : Rn 43 0 [some (vr 27 0), some (vi s), none, none] [] (fs) I (Cs cc) n c z out :=
  (Rn.iconst (pc2 := 1) rfl rfl (Rn.istore_n (pc2 := 2) (ls2 := [some (vr 27 0), some (vi s), some (vi (-1)), none]) rfl rfl rfl (Rn.iconst (pc2 := 3) rfl rfl (Rn.istore_n (pc2 := 4) (ls2 := [some (vr 27 0), some (vi s), some (vi (-1)), some (vi 0)]) rfl rfl rfl h))))

theorem k43_4 {fs : List fr} {I : IT} {cc : Nat → Option Nat} {n c z : Nat} {out : oP} {s : Int} {found : Int} {k : Int} (h : ((k < (I 27 0 9)) → ((0 ≤ k ∧ k < 100) ∧ ((((I 33 0 (Int.toNat k)) = s) → (Rn 43 4 [some (vr 27 0), some (vi s), some (vi k), some (vi (wr (k + 1)))] [] (fs) I (Cs cc) n c z out)) ∧ (¬ ((I 33 0 (Int.toNat k)) = s) → (Rn 43 4 [some (vr 27 0), some (vi s), some (vi found), some (vi (wr (k + 1)))] [] (fs) I (Cs cc) n c z out))))) ∧ (¬ (k < (I 27 0 9)) → (Rf (Sum.inl (some (vi found))) fs I (Cs cc) n c z out))) : Rn 43 4 [some (vr 27 0), some (vi s), some (vi found), some (vi k)] [] (fs) I (Cs cc) n c z out :=
  (Rn.iload_n (pc2 := 5) rfl rfl rfl (Rn.aload_n (pc2 := 6) rfl rfl rfl (Rn.getI (pc2 := 9) rfl rfl rfl rfl (Rn.ic_ge (pc2 := 12) rfl rfl (fun q18 => (Rn.aload_n (pc2 := 13) rfl rfl rfl (Rn.getR (pc2 := 16) (q := (some (33, 0))) rfl rfl rfl rfl rfl (Rn.iload_n (pc2 := 17) rfl rfl rfl (Rn.iald (pc2 := 18) (L := 100) rfl rfl rfl (h.1 q18).1 rfl (Rn.iload_n (pc2 := 19) rfl rfl rfl (Rn.ic_ne (pc2 := 22) rfl rfl (fun q19 => (Rn.iload_n (pc2 := 23) rfl rfl rfl (Rn.goto rfl (Rn.istore_n (pc2 := 28) (ls2 := [some (vr 27 0), some (vi s), some (vi k), some (vi k)]) rfl rfl rfl (Rn.iinc (pc2 := 31) (ls2 := [some (vr 27 0), some (vi s), some (vi k), some (vi (wr (k + 1)))]) rfl rfl rfl rfl (Rn.goto rfl ((h.1 q18).2.1 q19))))))) (fun q19 => (Rn.iload_n (pc2 := 27) rfl rfl rfl (Rn.istore_n (pc2 := 28) (ls2 := [some (vr 27 0), some (vi s), some (vi found), some (vi k)]) rfl rfl rfl (Rn.iinc (pc2 := 31) (ls2 := [some (vr 27 0), some (vi s), some (vi found), some (vi (wr (k + 1)))]) rfl rfl rfl rfl (Rn.goto rfl ((h.1 q18).2.2 q19))))))))))))) (fun q18 => (Rn.iload_n (pc2 := 35) rfl rfl rfl (Rn.iret rfl rfl (h.2 q18))))))))

theorem k47_0 {fs : List fr} {I : IT} {cc : Nat → Option Nat} {n c z : Nat} {out : oP} {s : Int} {name : Int} (h : Rn 43 0 [some (vr 27 0), some (vi s), none, none] [] ((47, 2, [some (vr 27 0), some (vi s), some (vi name), none], []) :: fs) I (Cs cc) n c z out) : Rn 47 0 [some (vr 27 0), some (vi s), some (vi name), none] [] (fs) I (Cs cc) n c z out :=
  (Rn.aload_n (pc2 := 1) rfl rfl rfl (Rn.iload_n (pc2 := 2) rfl rfl rfl (Rn.ivir (as := [vi s]) (r := []) (ls2 := [some (vr 27 0), some (vi s), none, none]) (f := 27) (i := 0) rfl rfl rfl rfl rfl rfl rfl h)))

theorem k47_5 {fs : List fr} {I : IT} {cc : Nat → Option Nat} {n c z : Nat} {out : oP} {s : Int} {name : Int} {v : Int} (h : ((v = (-1)) → (Rf (Sum.inl (some (vi 0))) fs I (Cs cc) n c z out)) ∧ (¬ (v = (-1)) → ((0 ≤ v ∧ v < 100) ∧ ((0 ≤ (I 34 0 (Int.toNat v)) ∧ (I 34 0 (Int.toNat v)) < 30) ∧ ((0 ≤ name ∧ name < 30) ∧ ((((I 36 0 (Int.toNat (I 34 0 (Int.toNat v)))) = (I 36 0 (Int.toNat name))) → (Rf (Sum.inl (some (vi 1))) fs I (Cs cc) n c z out)) ∧ (¬ ((I 36 0 (Int.toNat (I 34 0 (Int.toNat v)))) = (I 36 0 (Int.toNat name))) → (Rf (Sum.inl (some (vi 0))) fs I (Cs cc) n c z out)))))))) : Rn 47 5 [some (vr 27 0), some (vi s), some (vi name), none] [vi v] (fs) I (Cs cc) n c z out :=
  (Rn.istore_n (pc2 := 6) (ls2 := [some (vr 27 0), some (vi s), some (vi name), some (vi v)]) rfl rfl rfl (Rn.iload_n (pc2 := 7) rfl rfl rfl (Rn.iconst (pc2 := 8) rfl rfl (Rn.ic_eq (pc2 := 11) rfl rfl (fun q20 => (Rn.iconst (pc2 := 36) rfl rfl (Rn.zret rfl rfl (by decide) (h.1 q20)))) (fun q20 => (Rn.aload_n (pc2 := 12) rfl rfl rfl (Rn.getR (pc2 := 15) (q := (some (36, 0))) rfl rfl rfl rfl rfl (Rn.aload_n (pc2 := 16) rfl rfl rfl (Rn.getR (pc2 := 19) (q := (some (34, 0))) rfl rfl rfl rfl rfl (Rn.iload_n (pc2 := 20) rfl rfl rfl (Rn.iald (pc2 := 21) (L := 100) rfl rfl rfl (h.2 q20).1 rfl (Rn.iald (pc2 := 22) (L := 30) rfl rfl rfl (h.2 q20).2.1 rfl (Rn.aload_n (pc2 := 23) rfl rfl rfl (Rn.getR (pc2 := 26) (q := (some (36, 0))) rfl rfl rfl rfl rfl (Rn.iload_n (pc2 := 27) rfl rfl rfl (Rn.iald (pc2 := 28) (L := 30) rfl rfl rfl (h.2 q20).2.2.1 rfl (Rn.ic_ne (pc2 := 31) rfl rfl (fun q21 => (Rn.iconst (pc2 := 32) rfl rfl (Rn.goto rfl (Rn.zret rfl rfl (by decide) ((h.2 q20).2.2.2.1 q21))))) (fun q21 => (Rn.iconst (pc2 := 36) rfl rfl (Rn.zret rfl rfl (by decide) ((h.2 q20).2.2.2.2 q21)))))))))))))))))))))

theorem k48_0 {fs : List fr} {I : IT} {cc : Nat → Option Nat} {n c z : Nat} {out : oP} {name : Int} {num : Int} (h : Rn 48 10 [some (vr 27 0), some (vi name), some (vi num), some (vi (-1)), some (vi 0), none, none, none] [] (fs) (up3 I 27 0 40 0) (Cs cc) n c z out) : Rn 48 0 [some (vr 27 0), some (vi name), some (vi num), none, none, none, none, none] [] (fs) I (Cs cc) n c z out :=
  (Rn.iconst (pc2 := 1) rfl rfl (Rn.istore_n (pc2 := 2) (ls2 := [some (vr 27 0), some (vi name), some (vi num), some (vi (-1)), none, none, none, none]) rfl rfl rfl (Rn.aload_n (pc2 := 3) rfl rfl rfl (Rn.iconst (pc2 := 4) rfl rfl (Rn.putZ (pc2 := 7) rfl rfl rfl rfl (by decide) rfl (Rn.iconst (pc2 := 8) rfl rfl (Rn.istore (pc2 := 10) (ls2 := [some (vr 27 0), some (vi name), some (vi num), some (vi (-1)), some (vi 0), none, none, none]) rfl rfl rfl h)))))))

theorem k48_10 {fs : List fr} {I : IT} {cc : Nat → Option Nat} {n c z : Nat} {out : oP} {name : Int} {num : Int} {found : Int} {s : Int} {x5 : Option av} {x6 : Option av} {x7 : Option av} (h : ((s < (I 27 0 4)) → (Rn 47 0 [some (vr 27 0), some (vi s), some (vi name), none] [] ((48, 23, [some (vr 27 0), some (vi name), some (vi num), some (vi found), some (vi s), x5, x6, x7], []) :: fs) I (Cs cc) n c z out)) ∧ (¬ (s < (I 27 0 4)) → (((found = (-1)) → (Rn 48 72 [some (vr 27 0), some (vi name), some (vi num), some (vi found), some (vi (-1)), some (vi 0), x6, x7] [] (fs) I (Cs cc) n c z out)) ∧ (¬ (found = (-1)) → (Rf (Sum.inl (some (vi found))) fs I (Cs cc) n c z out))))) : Rn 48 10 [some (vr 27 0), some (vi name), some (vi num), some (vi found), some (vi s), x5, x6, x7] [] (fs) I (Cs cc) n c z out :=
  (Rn.iload (pc2 := 12) rfl rfl rfl (Rn.aload_n (pc2 := 13) rfl rfl rfl (Rn.getI (pc2 := 16) rfl rfl rfl rfl (Rn.ic_ge (pc2 := 19) rfl rfl (fun q22 => (Rn.aload_n (pc2 := 20) rfl rfl rfl (Rn.iload (pc2 := 22) rfl rfl rfl (Rn.iload_n (pc2 := 23) rfl rfl rfl (Rn.ivir (as := [vi s, vi name]) (r := []) (ls2 := [some (vr 27 0), some (vi s), some (vi name), none]) (f := 27) (i := 0) rfl rfl rfl rfl rfl rfl rfl (h.1 q22)))))) (fun q22 => (Rn.iload_n (pc2 := 60) rfl rfl rfl (Rn.iconst (pc2 := 61) rfl rfl (Rn.ic_eq (pc2 := 64) rfl rfl (fun q23 => (Rn.iconst (pc2 := 67) rfl rfl (Rn.istore (pc2 := 69) (ls2 := [some (vr 27 0), some (vi name), some (vi num), some (vi found), some (vi (-1)), x5, x6, x7]) rfl rfl rfl (Rn.iconst (pc2 := 70) rfl rfl (Rn.istore (pc2 := 72) (ls2 := [some (vr 27 0), some (vi name), some (vi num), some (vi found), some (vi (-1)), some (vi 0), x6, x7]) rfl rfl rfl ((h.2 q22).1 q23)))))) (fun q23 => (Rn.iload_n (pc2 := 65) rfl rfl rfl (Rn.iret rfl rfl ((h.2 q22).2 q23))))))))))))

theorem k48_26 {fs : List fr} {I : IT} {cc : Nat → Option Nat} {n c z : Nat} {out : oP} {name : Int} {num : Int} {found : Int} {s : Int} {x5 : Option av} {x6 : Option av} {x7 : Option av} {v : Int} (h : ((v = 0) → (Rn 48 10 [some (vr 27 0), some (vi name), some (vi num), some (vi found), some (vi (wr (s + 1))), x5, x6, x7] [] (fs) I (Cs cc) n c z out)) ∧ (¬ (v = 0) → (Rn 46 0 [some (vr 27 0), some (vi s), some (vi num), none, none] [] ((48, 33, [some (vr 27 0), some (vi name), some (vi num), some (vi found), some (vi s), x5, x6, x7], []) :: fs) I (Cs cc) n c z out))) : Rn 48 26 [some (vr 27 0), some (vi name), some (vi num), some (vi found), some (vi s), x5, x6, x7] [vi v] (fs) I (Cs cc) n c z out :=
  (Rn.iz_eq (pc2 := 29) rfl rfl (fun q24 => (Rn.iinc (pc2 := 56) (ls2 := [some (vr 27 0), some (vi name), some (vi num), some (vi found), some (vi (wr (s + 1))), x5, x6, x7]) rfl rfl rfl rfl (Rn.goto rfl (h.1 q24)))) (fun q24 => (Rn.aload_n (pc2 := 30) rfl rfl rfl (Rn.iload (pc2 := 32) rfl rfl rfl (Rn.iload_n (pc2 := 33) rfl rfl rfl (Rn.ivir (as := [vi s, vi num]) (r := []) (ls2 := [some (vr 27 0), some (vi s), some (vi num), none, none]) (f := 27) (i := 0) rfl rfl rfl rfl rfl rfl rfl (h.2 q24)))))))

theorem k48_36 {fs : List fr} {I : IT} {cc : Nat → Option Nat} {n c z : Nat} {out : oP} {name : Int} {num : Int} {found : Int} {s : Int} {x5 : Option av} {x6 : Option av} {x7 : Option av} {v : Int} (h : ((v = (-1)) → (Rn 48 10 [some (vr 27 0), some (vi name), some (vi num), some (vi found), some (vi (wr (s + 1))), x5, x6, x7] [] (fs) I (Cs cc) n c z out)) ∧ (¬ (v = (-1)) → (((found = (-1)) → (Rn 48 10 [some (vr 27 0), some (vi name), some (vi num), some (vi s), some (vi (wr (s + 1))), x5, x6, x7] [] (fs) I (Cs cc) n c z out)) ∧ (¬ (found = (-1)) → (Rn 48 10 [some (vr 27 0), some (vi name), some (vi num), some (vi (-2)), some (vi (wr (s + 1))), x5, x6, x7] [] (fs) I (Cs cc) n c z out))))) : Rn 48 36 [some (vr 27 0), some (vi name), some (vi num), some (vi found), some (vi s), x5, x6, x7] [vi v] (fs) I (Cs cc) n c z out :=
  (Rn.iconst (pc2 := 37) rfl rfl (Rn.ic_eq (pc2 := 40) rfl rfl (fun q25 => (Rn.iinc (pc2 := 56) (ls2 := [some (vr 27 0), some (vi name), some (vi num), some (vi found), some (vi (wr (s + 1))), x5, x6, x7]) rfl rfl rfl rfl (Rn.goto rfl (h.1 q25)))) (fun q25 => (Rn.iload_n (pc2 := 41) rfl rfl rfl (Rn.iconst (pc2 := 42) rfl rfl (Rn.ic_ne (pc2 := 45) rfl rfl (fun q26 => (Rn.iload (pc2 := 47) rfl rfl rfl (Rn.goto rfl (Rn.istore_n (pc2 := 53) (ls2 := [some (vr 27 0), some (vi name), some (vi num), some (vi s), some (vi s), x5, x6, x7]) rfl rfl rfl (Rn.iinc (pc2 := 56) (ls2 := [some (vr 27 0), some (vi name), some (vi num), some (vi s), some (vi (wr (s + 1))), x5, x6, x7]) rfl rfl rfl rfl (Rn.goto rfl ((h.2 q25).1 q26))))))) (fun q26 => (Rn.bipush (pc2 := 52) rfl rfl (Rn.istore_n (pc2 := 53) (ls2 := [some (vr 27 0), some (vi name), some (vi num), some (vi (-2)), some (vi s), x5, x6, x7]) rfl rfl rfl (Rn.iinc (pc2 := 56) (ls2 := [some (vr 27 0), some (vi name), some (vi num), some (vi (-2)), some (vi (wr (s + 1))), x5, x6, x7]) rfl rfl rfl rfl (Rn.goto rfl ((h.2 q25).2 q26))))))))))))

theorem k48_72 {fs : List fr} {I : IT} {cc : Nat → Option Nat} {n c z : Nat} {out : oP} {name : Int} {num : Int} {found : Int} {latest : Int} {s : Int} {x6 : Option av} {x7 : Option av} (h : ((s < (I 27 0 4)) → (Rn 48 84 [some (vr 27 0), some (vi name), some (vi num), some (vi found), some (vi latest), some (vi s), some (vi 0), x7] [] (fs) I (Cs cc) n c z out)) ∧ (¬ (s < (I 27 0 4)) → (((found = (-1)) → (Rf (Sum.inl (some (vi found))) fs (up3 I 27 0 40 0) (Cs cc) n c z out)) ∧ (¬ (found = (-1)) → (Rf (Sum.inl (some (vi found))) fs (up3 I 27 0 40 1) (Cs cc) n c z out))))) : Rn 48 72 [some (vr 27 0), some (vi name), some (vi num), some (vi found), some (vi latest), some (vi s), x6, x7] [] (fs) I (Cs cc) n c z out :=
  (Rn.iload (pc2 := 74) rfl rfl rfl (Rn.aload_n (pc2 := 75) rfl rfl rfl (Rn.getI (pc2 := 78) rfl rfl rfl rfl (Rn.ic_ge (pc2 := 81) rfl rfl (fun q27 => (Rn.iconst (pc2 := 82) rfl rfl (Rn.istore (pc2 := 84) (ls2 := [some (vr 27 0), some (vi name), some (vi num), some (vi found), some (vi latest), some (vi s), some (vi 0), x7]) rfl rfl rfl (h.1 q27)))) (fun q27 => (Rn.aload_n (pc2 := 197) rfl rfl rfl (Rn.iload_n (pc2 := 198) rfl rfl rfl (Rn.iconst (pc2 := 199) rfl rfl (Rn.ic_eq (pc2 := 202) rfl rfl (fun q28 => (Rn.iconst (pc2 := 207) rfl rfl (Rn.putZ (pc2 := 210) rfl rfl rfl rfl (by decide) rfl (Rn.iload_n (pc2 := 211) rfl rfl rfl (Rn.iret rfl rfl ((h.2 q27).1 q28)))))) (fun q28 => (Rn.iconst (pc2 := 203) rfl rfl (Rn.goto rfl (Rn.putZ (pc2 := 210) rfl rfl rfl rfl (by decide) rfl (Rn.iload_n (pc2 := 211) rfl rfl rfl (Rn.iret rfl rfl ((h.2 q27).2 q28))))))))))))))))

theorem k48_84 {fs : List fr} {I : IT} {cc : Nat → Option Nat} {n c z : Nat} {out : oP} {name : Int} {num : Int} {found : Int} {latest : Int} {s : Int} {k : Int} {x7 : Option av} (h : ((k < (I 27 0 9)) → ((0 ≤ k ∧ k < 100) ∧ ((((I 33 0 (Int.toNat k)) = s) → ((((I 35 0 (Int.toNat k)) = (-1)) → (Rn 48 84 [some (vr 27 0), some (vi name), some (vi num), some (vi found), some (vi latest), some (vi s), some (vi (wr (k + 1))), some (vi 0)] [] (fs) I (Cs cc) n c z out)) ∧ (¬ ((I 35 0 (Int.toNat k)) = (-1)) → ((0 ≤ (I 34 0 (Int.toNat k)) ∧ (I 34 0 (Int.toNat k)) < 30) ∧ ((0 ≤ name ∧ name < 30) ∧ ((((I 36 0 (Int.toNat (I 34 0 (Int.toNat k)))) = (I 36 0 (Int.toNat name))) → (Rn 46 0 [some (vr 27 0), some (vi s), some (vi num), none, none] [] ((48, 141, [some (vr 27 0), some (vi name), some (vi num), some (vi found), some (vi latest), some (vi s), some (vi k), x7], []) :: fs) I (Cs cc) n c z out)) ∧ (¬ ((I 36 0 (Int.toNat (I 34 0 (Int.toNat k)))) = (I 36 0 (Int.toNat name))) → (Rn 48 84 [some (vr 27 0), some (vi name), some (vi num), some (vi found), some (vi latest), some (vi s), some (vi (wr (k + 1))), some (vi 0)] [] (fs) I (Cs cc) n c z out)))))))) ∧ (¬ ((I 33 0 (Int.toNat k)) = s) → (Rn 48 84 [some (vr 27 0), some (vi name), some (vi num), some (vi found), some (vi latest), some (vi s), some (vi (wr (k + 1))), some (vi 0)] [] (fs) I (Cs cc) n c z out))))) ∧ (¬ (k < (I 27 0 9)) → (Rn 48 72 [some (vr 27 0), some (vi name), some (vi num), some (vi found), some (vi latest), some (vi (wr (s + 1))), some (vi k), x7] [] (fs) I (Cs cc) n c z out))) : Rn 48 84 [some (vr 27 0), some (vi name), some (vi num), some (vi found), some (vi latest), some (vi s), some (vi k), x7] [] (fs) I (Cs cc) n c z out :=
  (Rn.iload (pc2 := 86) rfl rfl rfl (Rn.aload_n (pc2 := 87) rfl rfl rfl (Rn.getI (pc2 := 90) rfl rfl rfl rfl (Rn.ic_ge (pc2 := 93) rfl rfl (fun q29 => (Rn.aload_n (pc2 := 94) rfl rfl rfl (Rn.getR (pc2 := 97) (q := (some (33, 0))) rfl rfl rfl rfl rfl (Rn.iload (pc2 := 99) rfl rfl rfl (Rn.iald (pc2 := 100) (L := 100) rfl rfl rfl (h.1 q29).1 rfl (Rn.iload (pc2 := 102) rfl rfl rfl (Rn.ic_ne (pc2 := 105) rfl rfl (fun q30 => (Rn.aload_n (pc2 := 106) rfl rfl rfl (Rn.getR (pc2 := 109) (q := (some (35, 0))) rfl rfl rfl rfl rfl (Rn.iload (pc2 := 111) rfl rfl rfl (Rn.iald (pc2 := 112) (L := 100) rfl rfl rfl (h.1 q29).1 rfl (Rn.iconst (pc2 := 113) rfl rfl (Rn.ic_eq (pc2 := 116) rfl rfl (fun q31 => (Rn.iconst (pc2 := 153) rfl rfl (Rn.istore (pc2 := 155) (ls2 := [some (vr 27 0), some (vi name), some (vi num), some (vi found), some (vi latest), some (vi s), some (vi k), some (vi 0)]) rfl rfl rfl (Rn.iload (pc2 := 157) rfl rfl rfl (Rn.iz_eq (pc2 := 160) rfl rfl (fun _ =>  (Rn.iinc (pc2 := 187) (ls2 := [some (vr 27 0), some (vi name), some (vi num), some (vi found), some (vi latest), some (vi s), some (vi (wr (k + 1))), some (vi 0)]) rfl rfl rfl rfl (Rn.goto rfl (((h.1 q29).2.1 q30).1 q31)))) (fun q => absurd (show ((0 : Int) = 0) by decide) q)))))) (fun q31 => (Rn.aload_n (pc2 := 117) rfl rfl rfl (Rn.getR (pc2 := 120) (q := (some (36, 0))) rfl rfl rfl rfl rfl (Rn.aload_n (pc2 := 121) rfl rfl rfl (Rn.getR (pc2 := 124) (q := (some (34, 0))) rfl rfl rfl rfl rfl (Rn.iload (pc2 := 126) rfl rfl rfl (Rn.iald (pc2 := 127) (L := 100) rfl rfl rfl (h.1 q29).1 rfl (Rn.iald (pc2 := 128) (L := 30) rfl rfl rfl (((h.1 q29).2.1 q30).2 q31).1 rfl (Rn.aload_n (pc2 := 129) rfl rfl rfl (Rn.getR (pc2 := 132) (q := (some (36, 0))) rfl rfl rfl rfl rfl (Rn.iload_n (pc2 := 133) rfl rfl rfl (Rn.iald (pc2 := 134) (L := 30) rfl rfl rfl (((h.1 q29).2.1 q30).2 q31).2.1 rfl (Rn.ic_ne (pc2 := 137) rfl rfl (fun q32 => (Rn.aload_n (pc2 := 138) rfl rfl rfl (Rn.iload (pc2 := 140) rfl rfl rfl (Rn.iload_n (pc2 := 141) rfl rfl rfl (Rn.ivir (as := [vi s, vi num]) (r := []) (ls2 := [some (vr 27 0), some (vi s), some (vi num), none, none]) (f := 27) (i := 0) rfl rfl rfl rfl rfl rfl rfl ((((h.1 q29).2.1 q30).2 q31).2.2.1 q32)))))) (fun q32 => (Rn.iconst (pc2 := 153) rfl rfl (Rn.istore (pc2 := 155) (ls2 := [some (vr 27 0), some (vi name), some (vi num), some (vi found), some (vi latest), some (vi s), some (vi k), some (vi 0)]) rfl rfl rfl (Rn.iload (pc2 := 157) rfl rfl rfl (Rn.iz_eq (pc2 := 160) rfl rfl (fun _ =>  (Rn.iinc (pc2 := 187) (ls2 := [some (vr 27 0), some (vi name), some (vi num), some (vi found), some (vi latest), some (vi s), some (vi (wr (k + 1))), some (vi 0)]) rfl rfl rfl rfl (Rn.goto rfl ((((h.1 q29).2.1 q30).2 q31).2.2.2 q32)))) (fun q => absurd (show ((0 : Int) = 0) by decide) q)))))))))))))))))))))))))) (fun q30 => (Rn.iconst (pc2 := 153) rfl rfl (Rn.istore (pc2 := 155) (ls2 := [some (vr 27 0), some (vi name), some (vi num), some (vi found), some (vi latest), some (vi s), some (vi k), some (vi 0)]) rfl rfl rfl (Rn.iload (pc2 := 157) rfl rfl rfl (Rn.iz_eq (pc2 := 160) rfl rfl (fun _ =>  (Rn.iinc (pc2 := 187) (ls2 := [some (vr 27 0), some (vi name), some (vi num), some (vi found), some (vi latest), some (vi s), some (vi (wr (k + 1))), some (vi 0)]) rfl rfl rfl rfl (Rn.goto rfl ((h.1 q29).2.2 q30)))) (fun q => absurd (show ((0 : Int) = 0) by decide) q))))))))))))) (fun q29 => (Rn.iinc (pc2 := 193) (ls2 := [some (vr 27 0), some (vi name), some (vi num), some (vi found), some (vi latest), some (vi (wr (s + 1))), some (vi k), x7]) rfl rfl rfl rfl (Rn.goto rfl (h.2 q29))))))))

theorem k48_144 {fs : List fr} {I : IT} {cc : Nat → Option Nat} {n c z : Nat} {out : oP} {name : Int} {num : Int} {found : Int} {latest : Int} {s : Int} {k : Int} {x7 : Option av} {v : Int} (h : ((v = (-1)) → (Rn 48 84 [some (vr 27 0), some (vi name), some (vi num), some (vi found), some (vi latest), some (vi s), some (vi (wr (k + 1))), some (vi 0)] [] (fs) I (Cs cc) n c z out)) ∧ (¬ (v = (-1)) → ((0 ≤ k ∧ k < 100) ∧ (((latest < (I 35 0 (Int.toNat k))) → (Rn 48 84 [some (vr 27 0), some (vi name), some (vi num), some (vi s), some (vi (I 35 0 (Int.toNat k))), some (vi s), some (vi (wr (k + 1))), some (vi 1)] [] (fs) I (Cs cc) n c z out)) ∧ (¬ (latest < (I 35 0 (Int.toNat k))) → (Rn 48 84 [some (vr 27 0), some (vi name), some (vi num), some (vi found), some (vi latest), some (vi s), some (vi (wr (k + 1))), some (vi 1)] [] (fs) I (Cs cc) n c z out)))))) : Rn 48 144 [some (vr 27 0), some (vi name), some (vi num), some (vi found), some (vi latest), some (vi s), some (vi k), x7] [vi v] (fs) I (Cs cc) n c z out :=
  (Rn.iconst (pc2 := 145) rfl rfl (Rn.ic_eq (pc2 := 148) rfl rfl (fun q33 => (Rn.iconst (pc2 := 153) rfl rfl (Rn.istore (pc2 := 155) (ls2 := [some (vr 27 0), some (vi name), some (vi num), some (vi found), some (vi latest), some (vi s), some (vi k), some (vi 0)]) rfl rfl rfl (Rn.iload (pc2 := 157) rfl rfl rfl (Rn.iz_eq (pc2 := 160) rfl rfl (fun _ =>  (Rn.iinc (pc2 := 187) (ls2 := [some (vr 27 0), some (vi name), some (vi num), some (vi found), some (vi latest), some (vi s), some (vi (wr (k + 1))), some (vi 0)]) rfl rfl rfl rfl (Rn.goto rfl (h.1 q33)))) (fun q => absurd (show ((0 : Int) = 0) by decide) q)))))) (fun q33 => (Rn.iconst (pc2 := 149) rfl rfl (Rn.goto rfl (Rn.istore (pc2 := 155) (ls2 := [some (vr 27 0), some (vi name), some (vi num), some (vi found), some (vi latest), some (vi s), some (vi k), some (vi 1)]) rfl rfl rfl (Rn.iload (pc2 := 157) rfl rfl rfl (Rn.iz_eq (pc2 := 160) rfl rfl (fun q => absurd q (show (¬ ((1 : Int) = 0)) by decide)) (fun _ =>  (Rn.aload_n (pc2 := 161) rfl rfl rfl (Rn.getR (pc2 := 164) (q := (some (35, 0))) rfl rfl rfl rfl rfl (Rn.iload (pc2 := 166) rfl rfl rfl (Rn.iald (pc2 := 167) (L := 100) rfl rfl rfl (h.2 q33).1 rfl (Rn.iload (pc2 := 169) rfl rfl rfl (Rn.ic_le (pc2 := 172) rfl rfl (fun q34 => (Rn.aload_n (pc2 := 173) rfl rfl rfl (Rn.getR (pc2 := 176) (q := (some (35, 0))) rfl rfl rfl rfl rfl (Rn.iload (pc2 := 178) rfl rfl rfl (Rn.iald (pc2 := 179) (L := 100) rfl rfl rfl (h.2 q33).1 rfl (Rn.istore (pc2 := 181) (ls2 := [some (vr 27 0), some (vi name), some (vi num), some (vi found), some (vi (I 35 0 (Int.toNat k))), some (vi s), some (vi k), some (vi 1)]) rfl rfl rfl (Rn.iload (pc2 := 183) rfl rfl rfl (Rn.istore_n (pc2 := 184) (ls2 := [some (vr 27 0), some (vi name), some (vi num), some (vi s), some (vi (I 35 0 (Int.toNat k))), some (vi s), some (vi k), some (vi 1)]) rfl rfl rfl (Rn.iinc (pc2 := 187) (ls2 := [some (vr 27 0), some (vi name), some (vi num), some (vi s), some (vi (I 35 0 (Int.toNat k))), some (vi s), some (vi (wr (k + 1))), some (vi 1)]) rfl rfl rfl rfl (Rn.goto rfl ((h.2 q33).2.1 q34))))))))))) (fun q34 => (Rn.iinc (pc2 := 187) (ls2 := [some (vr 27 0), some (vi name), some (vi num), some (vi found), some (vi latest), some (vi s), some (vi (wr (k + 1))), some (vi 1)]) rfl rfl rfl rfl (Rn.goto rfl ((h.2 q33).2.2 q34)))))))))))))))))))

theorem m_naming_l {fs : List fr} {I : IT} {cc : Nat → Option Nat} {n c z : Nat} {out : oP} {T : Int} (W : VN I T) (s : Nat) (h : Rf (Sum.inl (some (vi (li I s (nn I))))) fs I (Cs cc) n c z out) : ∀ d k : Nat, k + d = nn I → Rn 43 4 [some (vr 27 0), some (vi (s : Int)), some (vi (li I s k)), some (vi (k : Int))] [] fs I (Cs cc) n c z out := by
  obtain ⟨w1, w2, w3, w4, w5⟩ := W
  have hnn : ((nn I : Nat) : Int) = I 27 0 9 := by show (((I 27 0 9).toNat : Nat) : Int) = _; omega
  intro d
  induction d with
  | zero =>
    intro k hk
    refine k43_4 ⟨fun h1 => by omega, fun h1 => ?_⟩
    rw [show k = nn I by omega]; exact h
  | succ d ih =>
    intro k hk
    have nx := ih (k + 1) (by omega)
    refine k43_4 ⟨fun h1 => ⟨by omega, fun h2 => ?_, fun h2 => ?_⟩, fun h1 => by omega⟩
    · rw [Int.toNat_natCast] at h2
      rw [show li I s (k + 1) = (k : Int) from if_pos h2] at nx
      rw [wrI (by omega) (by omega), nS]; exact nx
    · rw [Int.toNat_natCast] at h2
      rw [show li I s (k + 1) = li I s k from if_neg h2] at nx
      rw [wrI (by omega) (by omega), nS]; exact nx
theorem m_naming {fs : List fr} {I : IT} {cc : Nat → Option Nat} {n c z : Nat} {out : oP} {T : Int} (W : VN I T) (s : Nat) (h : Rf (Sum.inl (some (vi (li I s (nn I))))) fs I (Cs cc) n c z out) : Rn 43 0 [some (vr 27 0), some (vi (s : Int)), none, none] [] fs I (Cs cc) n c z out :=
  k43_0 (m_naming_l W s h (nn I) 0 (by omega))
theorem m_bears {fs : List fr} {I : IT} {cc : Nat → Option Nat} {n c z : Nat} {out : oP} {T : Int} (W : VN I T) (s : Nat) {name : Int} (hn0 : 0 ≤ name) (hn1 : name < 30) (h : Rf (Sum.inl (some (vi (brv I s name)))) fs I (Cs cc) n c z out) : Rn 47 0 [some (vr 27 0), some (vi (s : Int)), some (vi name), none] [] fs I (Cs cc) n c z out := by
  have hnn : ((nn I : Nat) : Int) = I 27 0 9 := by have := W.1; show (((I 27 0 9).toNat : Nat) : Int) = _; omega
  have hli := li_in (S := I) (s := s) (nn I)
  have hw := W.2.1
  refine k47_0 (m_naming W s (Rf.sm (pc2 := 5) rfl (k47_5 ⟨fun h1 => ?_, fun h1 => ?_⟩)))
  · have e : brv I s name = 0 := if_neg (fun g => by
      have g1 := g.1
      unfold bn at g1
      rw [if_pos h1] at g1; omega)
    rw [e] at h; exact h
  · have hk : (((li I s (nn I)).toNat : Nat) : Int) < I 27 0 9 := by omega
    obtain ⟨_, _, n1, n2, _⟩ := W.2.2.2.2 _ hk
    have e9 : bn I s (nn I) = I 34 0 (li I s (nn I)).toNat := if_neg h1
    refine ⟨by omega, by omega, by omega, fun h2 => ?_, fun h2 => ?_⟩
    · rw [show brv I s name = 1 from if_pos ⟨by rw [e9]; exact n1, by rw [e9]; exact h2⟩] at h; exact h
    · rw [show brv I s name = 0 from if_neg (fun g => by rw [e9] at g; exact h2 g.2)] at h; exact h
theorem m_lead2 {fs : List fr} {I : IT} {cc : Nat → Option Nat} {n c z : Nat} {out : oP} {p T : Int} (V : VS I p) (W : VN I T) {name num : Int} (hn0 : 0 ≤ name) (hn1 : name < 30) {s : Nat} (hs : s < 12) (f0 l0 : Int) (hl0 : -1 ≤ l0) (h : ∀ k6 x7, Rn 48 72 [some (vr 27 0), some (vi name), some (vi num), some (vi (if ¬ plc I s num = -1 ∧ l0 < lm I s name (nn I) then ((s : Int), lm I s name (nn I)) else (f0, l0)).1), some (vi (if ¬ plc I s num = -1 ∧ l0 < lm I s name (nn I) then ((s : Int), lm I s name (nn I)) else (f0, l0)).2), some (vi ((s + 1 : Nat) : Int)), k6, x7] [] fs I (Cs cc) n c z out) : ∀ (d k : Nat) (x7 : Option av), k + d = nn I → Rn 48 84 [some (vr 27 0), some (vi name), some (vi num), some (vi (if ¬ plc I s num = -1 ∧ l0 < lm I s name k then ((s : Int), lm I s name k) else (f0, l0)).1), some (vi (if ¬ plc I s num = -1 ∧ l0 < lm I s name k then ((s : Int), lm I s name k) else (f0, l0)).2), some (vi (s : Int)), some (vi (k : Int)), x7] [] fs I (Cs cc) n c z out := by
  obtain ⟨w1, w2, w3, w4, w5⟩ := W
  have hnn : ((nn I : Nat) : Int) = I 27 0 9 := by show (((I 27 0 9).toNat : Nat) : Int) = _; omega
  intro d
  induction d with
  | zero =>
    intro k x7 hk
    refine k48_84 ⟨fun h1 => by omega, fun h1 => ?_⟩
    rw [show k = nn I by omega, wrI (by omega) (by omega), nS]; exact h _ _
  | succ d ih =>
    intro k x7 hk
    have nx := fun x7 => ih (k + 1) x7 (by omega)
    obtain ⟨n1, n2, n3, n4, n5, n6⟩ := w5 k (by omega)
    have hlm := lm_lb (S := I) (s := s) (name := name) k
    have same : ¬ (I 33 0 k = (s : Int) ∧ I 36 0 (I 34 0 k).toNat = I 36 0 name.toNat ∧ ¬ I 35 0 k = -1) → lm I s name (k + 1) = lm I s name k := fun g => if_neg (fun q => g ⟨q.1.1, q.1.2, by omega⟩)
    refine k48_84 ⟨fun h1 => ?_, fun h1 => by omega⟩
    rw [Int.toNat_natCast, wrI (by omega) (by omega), nS]
    refine ⟨by omega, fun h2 => ⟨fun h3 => ?_, fun h3 => ⟨by omega, by omega, fun h4 => ?_, fun h4 => ?_⟩⟩, fun h2 => ?_⟩
    · rw [← same (fun g => g.2.2 h3)]; exact nx _
    · refine m_pl V hs num (Rf.sm (pc2 := 144) rfl (k48_144 ?_))
      rw [Int.toNat_natCast, wrI (by omega) (by omega), nS]
      refine ⟨fun h5 => ?_, fun h5 => ⟨by omega, fun h6 => ?_, fun h6 => ?_⟩⟩
      · have nx1 := nx (some (vi 0))
        rw [if_neg (fun g => g.1 h5)] at nx1 ⊢
        exact nx1
      · have nx1 := nx (some (vi 1))
        have hu : l0 < I 35 0 k ∧ lm I s name k < I 35 0 k := by
          by_cases g : ¬ plc I s num = -1 ∧ l0 < lm I s name k
          · rw [if_pos g] at h6
            have h6 : lm I s name k < I 35 0 k := h6
            omega
          · rw [if_neg g] at h6
            have h6 : l0 < I 35 0 k := h6
            have : ¬ l0 < lm I s name k := fun q => g ⟨h5, q⟩
            omega
        have e : lm I s name (k + 1) = I 35 0 k := if_pos ⟨⟨h2, h4⟩, hu.2⟩
        rw [e, if_pos ⟨h5, hu.1⟩] at nx1
        exact nx1
      · have nx1 := nx (some (vi 1))
        by_cases g : ¬ plc I s num = -1 ∧ l0 < lm I s name k
        · rw [if_pos g] at h6 ⊢
          have h6 : ¬ lm I s name k < I 35 0 k := h6
          have e : lm I s name (k + 1) = lm I s name k := if_neg (fun q => h6 q.2)
          rw [e, if_pos g] at nx1
          exact nx1
        · rw [if_neg g] at h6 ⊢
          have h6 : ¬ l0 < I 35 0 k := h6
          have g2 : ¬ l0 < lm I s name k := fun q => g ⟨h5, q⟩
          have e : ¬ l0 < lm I s name (k + 1) := by
            unfold lm
            split
            · exact h6
            · exact g2
          rw [if_neg (fun q => e q.2)] at nx1
          exact nx1
    · rw [← same (fun g => h4 g.2.1)]; exact nx _
    · rw [← same (fun g => h2 g.1)]; exact nx _
theorem m_lead3 {fs : List fr} {I : IT} {cc : Nat → Option Nat} {n c z : Nat} {out : oP} {p T : Int} (V : VS I p) (W : VN I T) {name num : Int} (hn0 : 0 ≤ name) (hn1 : name < 30) (h : Rf (Sum.inl (some (vi (ff I name num (I 27 0 4).toNat).1))) fs (up3 I 27 0 40 (if (ff I name num (I 27 0 4).toNat).1 = -1 then 0 else 1)) (Cs cc) n c z out) : ∀ (d s : Nat) (x6 x7 : Option av), s + d = (I 27 0 4).toNat → Rn 48 72 [some (vr 27 0), some (vi name), some (vi num), some (vi (ff I name num s).1), some (vi (ff I name num s).2), some (vi (s : Int)), x6, x7] [] fs I (Cs cc) n c z out := by
  have W0 := W
  obtain ⟨w1, w2, w3, w4, w5⟩ := W
  intro d
  induction d with
  | zero =>
    intro s x6 x7 hs
    refine k48_72 ⟨fun h1 => by omega, fun h1 => ⟨fun h2 => ?_, fun h2 => ?_⟩⟩
    · rw [show s = (I 27 0 4).toNat by omega] at h2 ⊢
      rw [if_pos h2] at h; exact h
    · rw [show s = (I 27 0 4).toNat by omega] at h2 ⊢
      rw [if_neg h2] at h; exact h
  | succ d ih =>
    intro s x6 x7 hs
    have hf := ff_in (S := I) (name := name) (num := num) s
    refine k48_72 ⟨fun h1 => ?_, fun h1 => by omega⟩
    have l := m_lead2 (cc := cc) V W0 hn0 hn1 (s := s) (num := num) (by omega) (ff I name num s).1 (ff I name num s).2 hf.2.2 (fun k6 x7 => ih (s + 1) k6 x7 (by omega)) (nn I) 0 x7 (by omega)
    rw [if_neg (fun g => by have := g.2; unfold lm at this; omega)] at l
    exact l
theorem m_lead1 {fs : List fr} {I : IT} {cc : Nat → Option Nat} {n c z : Nat} {out : oP} {p T : Int} (V : VS I p) (W : VN I T) {name num : Int} (hn0 : 0 ≤ name) (hn1 : name < 30) (h1 : ¬ bf I name num (I 27 0 4).toNat = -1 → Rf (Sum.inl (some (vi (bf I name num (I 27 0 4).toNat)))) fs I (Cs cc) n c z out) (h2 : bf I name num (I 27 0 4).toNat = -1 → Rf (Sum.inl (some (vi (ff I name num (I 27 0 4).toNat).1))) fs (up3 I 27 0 40 (if (ff I name num (I 27 0 4).toNat).1 = -1 then 0 else 1)) (Cs cc) n c z out) : ∀ (d s : Nat) (x5 x6 x7 : Option av), s + d = (I 27 0 4).toNat → Rn 48 10 [some (vr 27 0), some (vi name), some (vi num), some (vi (bf I name num s)), some (vi (s : Int)), x5, x6, x7] [] fs I (Cs cc) n c z out := by
  have W0 := W
  obtain ⟨w1, w2, w3, w4, w5⟩ := W
  intro d
  induction d with
  | zero =>
    intro s x5 x6 x7 hs
    refine k48_10 ⟨fun h1 => by omega, fun h3 => ⟨fun h4 => ?_, fun h4 => ?_⟩⟩
    · rw [show s = (I 27 0 4).toNat by omega] at h4
      have l := m_lead3 V W0 hn0 hn1 (num := num) (h2 h4) (I 27 0 4).toNat 0 x6 x7 (by omega)
      rw [show s = (I 27 0 4).toNat by omega, h4]
      exact l
    · rw [show s = (I 27 0 4).toNat by omega] at h4 ⊢
      exact h1 h4
  | succ d ih =>
    intro s x5 x6 x7 hs
    have nx := fun x5 x6 x7 => ih (s + 1) x5 x6 x7 (by omega)
    refine k48_10 ⟨fun h3 => ?_, fun h3 => by omega⟩
    refine m_bears W0 s hn0 hn1 (Rf.sm (pc2 := 26) rfl (k48_26 ?_))
    rw [wrI (by omega) (by omega), nS]
    refine ⟨fun h4 => ?_, fun h4 => ?_⟩
    · have e : bf I name num (s + 1) = bf I name num s := if_neg (fun g => by
        unfold brv at h4
        rw [if_pos g.1] at h4; cases h4)
      rw [← e]; exact nx _ _ _
    · have h5 : 0 ≤ bn I s (nn I) ∧ I 36 0 (bn I s (nn I)).toNat = I 36 0 name.toNat := by
        unfold brv at h4
        by_cases g : 0 ≤ bn I s (nn I) ∧ I 36 0 (bn I s (nn I)).toNat = I 36 0 name.toNat
        · exact g
        · rw [if_neg g] at h4; exact absurd rfl h4
      refine m_pl V (by omega) num (Rf.sm (pc2 := 36) rfl (k48_36 ?_))
      rw [wrI (by omega) (by omega), nS]
      refine ⟨fun h6 => ?_, fun h6 => ⟨fun h7 => ?_, fun h7 => ?_⟩⟩
      · have e : bf I name num (s + 1) = bf I name num s := if_neg (fun g => g.2 h6)
        rw [← e]; exact nx _ _ _
      · have e : bf I name num (s + 1) = (s : Int) := by
          show (if _ then _ else _) = _
          rw [if_pos ⟨h5, h6⟩, if_pos h7]
        have nx1 := nx x5 x6 x7
        rw [e] at nx1; exact nx1
      · have e : bf I name num (s + 1) = -2 := by
          show (if _ then _ else _) = _
          rw [if_pos ⟨h5, h6⟩, if_neg h7]
        have nx1 := nx x5 x6 x7
        rw [e] at nx1; exact nx1
theorem agD_old {I : IT} {v : Int} : agD I (up3 I 27 0 40 v) := ⟨up3_no (by omega), up3_no (by omega), fun f h1 h2 i j => up3_no (by omega)⟩
theorem m_lead {fs : List fr} {I : IT} {cc : Nat → Option Nat} {n c z : Nat} {out : oP} {p T : Int} (V : VS I p) (W : VN I T) {name num : Int} (hn0 : 0 ≤ name) (hn1 : name < 30) (h : Rf (Sum.inl (some (vi (ld I name num)))) fs (up3 I 27 0 40 (ldo I name num)) (Cs cc) n c z out) : Rn 48 0 [some (vr 27 0), some (vi name), some (vi num), none, none, none, none, none] [] fs I (Cs cc) n c z out := by
  have a := agD_old (I := I) (v := 0)
  have e4 : (up3 I 27 0 40 0) 27 0 4 = I 27 0 4 := up3_no (by omega)
  refine k48_0 (m_lead1 (VS_ag a V) (VN_ag a W) hn0 hn1 (fun g => ?_) (fun g => ?_) ((up3 I 27 0 40 0) 27 0 4).toNat 0 none none none (by omega))
  · rw [bf_ag a, e4] at g ⊢
    rw [show ld I name num = _ from if_neg g, show ldo I name num = 0 from if_neg (fun q => g q.1)] at h
    exact h
  · rw [bf_ag a, e4] at g
    rw [ff_ag a, e4, up3_up3]
    rw [show ld I name num = _ from if_pos g] at h
    by_cases q : (ff I name num (I 27 0 4).toNat).1 = -1
    · rw [show ldo I name num = 0 from if_neg (fun r => r.2 q)] at h
      rw [if_pos q]; exact h
    · rw [show ldo I name num = 1 from if_pos ⟨g, q⟩] at h
      rw [if_neg q]; exact h

