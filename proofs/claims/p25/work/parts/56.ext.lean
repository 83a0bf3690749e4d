/-! The calls of the class by themselves, over a store held apart: out of what is known of a wrapper's run, by cutting it where the call ends. -/
theorem run_det {k1 k2 m pc : Nat} {ls : lo} {st : List av} {I : IT} {C : CT} {n c z : Nat} {x y : ou} (h1 : run k1 m pc ls st [] I C n c z = some x) (h2 : run k2 m pc ls st [] I C n c z = some y) : x = y := by
  obtain ⟨o, I1, C1, n1, c1, z1⟩ := x
  obtain ⟨o2, I2, C2, n2, c2, z2⟩ := y
  obtain ⟨t1, g1⟩ := run_app [] k1 m pc ls st [] I C n c z o I1 C1 n1 c1 z1 h1
  obtain ⟨t2, g2⟩ := run_app [] k2 m pc ls st [] I C n c z o2 I2 C2 n2 c2 z2 h2
  have e1 := g1 t2
  have e2 := g2 t1
  rw [Nat.add_comm t1 t2, e1] at e2
  exact Option.some.inj (show some (o, I1, C1, n1, c1, z1) = some (o2, I2, C2, n2, c2, z2) from e2)
/-- the kind of an exception -/
def mE (E : Nat) : Nat := bif Nat.beq E 0 then 0 else bif Nat.beq E 1 then 1 else 2
/-- how a call ends: its answer, or an exception of the kind of the code -/
def Oc (tE : Nat → Option Int) (Fv : Int → Int) (S2 : IT) (V : Int) (o : Option av ⊕ Nat) : Prop := (S2 27 0 41 = 0 ∧ ∃ v, o = Sum.inl (some (vi v)) ∧ Fv v = V) ∨ ∃ E t, o = Sum.inr E ∧ tE (mE E) = some t ∧ ¬ t = 0 ∧ S2 27 0 41 = t
theorem ext {w y pcw : Nat} {lsw : lo} {as : List av} {j0 : Nat} {Fv : Int → Int} {tE : Nat → Option Int} {S2 : IT} {V : Int} {I : IT} {cc : Nat → Option Nat} {n c z : Nat}
    (hcl : ∀ out, CR I S2 V [] I n c z out → Rn w 0 lsw [] [] I (Cs cc) n c z out)
    (hw : ∀ k, run (k + j0) w 0 lsw [] [] I (Cs cc) n c z = run k y 0 (ini y as) [] [(w, pcw, lsw, [vi 0, vr 59 0])] I (Cs cc) n c z)
    (hk : ∀ v k I C n c z x, run k w (pcw + 3) lsw (Option.toList v ++ [vi 0, vr 59 0]) [] I C n c z = some x → ∃ i, v = some (vi i))
    (hv : ∀ v I C n c z, ∃ j, run j w (pcw + 3) lsw [vi v, vi 0, vr 59 0] [] I C n c z = some (Sum.inl (some (vi 0)), up3 I 59 0 0 (Fv v), C, n, c, z))
    (hE : ∀ E k I C n c z x, fin (run k) (Sum.inr E) [(w, pcw, lsw, [vi 0, vr 59 0])] I C n c z = some x → ∃ t, tE (mE E) = some t ∧ ¬ t = 0 ∧ x = (Sum.inl (some (vi t)), I, C, n, c, z)) :
    ∃ k o I1 cc1 c1 z1, run k y 0 (ini y as) [] [] I (Cs cc) n c z = some (o, I1, Cs cc1, n, c1, z1) ∧ c1 ≤ c + 1 ∧ z1 ≤ z + 6 ∧ (∀ f i j, 27 ≤ f → ¬ f = 59 → I1 f i j = I f i j) ∧ Sm I1 cc1 S2 ∧ Oc tE Fv S2 V o := by
  have h := hcl (fun u => ∃ I2 cc2 k c2 z2, u = (Sum.inl (some (vi k)), I2, Cs cc2, n, c2, z2) ∧ c2 ≤ c + 1 ∧ z2 ≤ z + 6 ∧ (∀ f i j, 27 ≤ f → ¬ f = 59 → I2 f i j = I f i j) ∧ k = S2 27 0 41 ∧ (k = 0 → I2 59 0 0 = V) ∧ Sm I2 cc2 S2) (fun I2 cc2 k c2 z2 h1 h2 h3 h4 h5 h6 => Rf_end ⟨I2, cc2, k, c2, z2, rfl, h1, h2, h3, h4, h5, h6⟩)
  obtain ⟨k0, x, hx, hr⟩ := h
  have h : run (k0 + j0) w 0 lsw [] [] I (Cs cc) n c z = some x := hr (k0 + j0) (by omega)
  rw [hw] at h
  obtain ⟨k1, k2, o, I1, C1, n1, c1, z1, a1, a2, a3, a4⟩ := run_split (w, pcw, lsw, [vi 0, vr 59 0]) [] x k0 y 0 (ini y as) [] [] I (Cs cc) n c z h
  obtain ⟨I2, cc2, k, c2, z2, rfl, h1, h2, h3, h4, h5, h6⟩ := hx
  cases o with
  | inl v =>
    have a5 : run k2 w (pcw + 3) lsw (Option.toList v ++ [vi 0, vr 59 0]) [] I1 C1 n1 c1 z1 = some (Sum.inl (some (vi k)), I2, Cs cc2, n, c2, z2) := a4
    obtain ⟨i, rfl⟩ := hk v k2 I1 C1 n1 c1 z1 _ a5
    obtain ⟨j, hj⟩ := hv i I1 C1 n1 c1 z1
    have e := run_det (show run k2 w (pcw + 3) lsw [vi i, vi 0, vr 59 0] [] I1 C1 n1 c1 z1 = _ from a5) hj
    cases e
    exact ⟨k1, _, I1, cc2, _, _, a3, h1, h2, fun f i j q1 q2 => by rw [← h3 f i j q1 q2, up3_nf q2], Sm_I (fun f i j q => (up3_nf (by omega)).symm) h6, Or.inl ⟨h4.symm, i, rfl, by rw [← h5 rfl]; exact up3_eq.symm⟩⟩
  | inr E =>
    obtain ⟨t, e1, e2, e3⟩ := hE E k2 I1 C1 n1 c1 z1 _ a4
    cases e3
    exact ⟨k1, _, _, cc2, _, _, a3, h1, h2, h3, h6, Or.inr ⟨E, _, rfl, e1, e2, h4.symm⟩⟩
/-- the object stands for the store -/
def FS (I : IT) (cc : Nat → Option Nat) (S : IT) : Prop := Sm I cc S ∧ VI S
theorem agM_mix {I S : IT} : agM S (mix I S) := fun f i j h1 h2 => mix_at ⟨h1, h2⟩
theorem FS.fi {I S : IT} {cc : Nat → Option Nat} (F : FS I cc S) : FI (mix I S) cc := ⟨Sm_M agM_mix (Sm_I (fun f i j h => mix_no (by omega)) F.1), VI_M agM_mix F.2⟩
theorem FS.N {I S S2 : IT} {cc : Nat → Option Nat} (F : FS I cc S) (h : agN S S2) : FS I cc S2 := ⟨Sm_N h F.1, VI_N h F.2⟩
theorem FS.M {I S S2 : IT} {cc : Nat → Option Nat} (F : FS I cc S) (h : agM S S2) : FS I cc S2 := F.N h.N
theorem FS.I {I I2 S : IT} {cc : Nat → Option Nat} (F : FS I cc S) (h : ∀ f i j, f < 27 → I2 f i j = I f i j) : FS I2 cc S := ⟨Sm_I h F.1, F.2⟩
theorem gS_ints : ∀ (l : List Int), gS (l.map vi) := fun l v hv => by
  obtain ⟨x, _, rfl⟩ := List.mem_map.mp hv
  exact gA_i
theorem gS_as {l : List Int} : gS (vr 0 0 :: l.map vi) := (gS_ints l).cons (gA_r (by unfold g1; omega))
/-- from the store of the run to the store held apart -/
theorem ct {y : Nat} {l : List Int} {Fv : Int → Int} {tE : Nat → Option Int} {mS : IT → IT} {mV : IT → Int} (ok : OKm mS mV) {I : IT} {cc : Nat → Option Nat} {S : IT} {n c z : Nat} (F : FS I cc S)
    (h : ∀ I0, FI I0 cc → ∃ k o I1 cc1 c1 z1, run k y 0 (ini y (vr 0 0 :: l.map vi)) [] [] I0 (Cs cc) n c z = some (o, I1, Cs cc1, n, c1, z1) ∧ c1 ≤ c + 1 ∧ z1 ≤ z + 6 ∧ (∀ f i j, 27 ≤ f → ¬ f = 59 → I1 f i j = I0 f i j) ∧ Sm I1 cc1 (mS I0) ∧ Oc tE Fv (mS I0) (mV I0) o) :
    ∃ k o I1 cc1 c1 z1, run k y 0 (ini y (vr 0 0 :: l.map vi)) [] [] I (Cs cc) n c z = some (o, I1, Cs cc1, n, c1, z1) ∧ c1 ≤ c + 1 ∧ z1 ≤ z + 6 ∧ (∀ f i j, 59 < f → I1 f i j = I f i j) ∧ FS I1 cc1 (mS S) ∧ Oc tE Fv (mS S) (mV S) o := by
  obtain ⟨k, o, I1, cc1, c1, z1, h1, h2, h3, h4, h5, h6⟩ := h (mix I S) F.fi
  have h7 := run_mix I (fun _ => IZ_mix) k y 0 _ _ _ _ _ _ _ _ _ (gL_ini gS_as) gS_0 (fun f hf => by cases hf) gC_Cs h1
  rw [mix_mix, mix_self] at h7
  obtain ⟨g1, g2⟩ := ok.1 S (mix I S) agM_mix
  refine ⟨k, o, mix I1 I, cc1, c1, z1, h7, h2, h3, fun f i j q => ?_, ⟨Sm_M (fun f i j q1 q2 => (g1 f i j q1 q2).symm) (Sm_I (fun f i j q => mix_no (by omega)) h5), ok.2.1 S F.2⟩, ?_⟩
  · rw [mix_no (by omega), h4 f i j (by omega) (by omega), mix_no (by omega)]
  · rw [g2] at h6
    rcases h6 with ⟨e1, e2⟩ | ⟨E, t, e1, e2, e3, e4⟩
    · exact Or.inl ⟨by rw [← g1 27 0 41 (by omega) (by omega)]; exact e1, e2⟩
    · exact Or.inr ⟨E, t, e1, e2, e3, by rw [← g1 27 0 41 (by omega) (by omega)]; exact e4⟩
/-- by the code: the answer and the store behind it, or an exception and the store as it was -/
theorem ctO {y : Nat} {l : List Int} {Fv : Int → Int} {tE : Nat → Option Int} {T V : Int} {Z : IT} {I : IT} {cc : Nat → Option Nat} {S : IT} {n c z : Nat} (hV : VI S) (h0 : T = 0 → Z 27 0 41 = 0)
    (h : ∃ k o I1 cc1 c1 z1, run k y 0 (ini y (vr 0 0 :: l.map vi)) [] [] I (Cs cc) n c z = some (o, I1, Cs cc1, n, c1, z1) ∧ c1 ≤ c + 1 ∧ z1 ≤ z + 6 ∧ (∀ f i j, 59 < f → I1 f i j = I f i j) ∧ FS I1 cc1 (OP T Z S) ∧ Oc tE Fv (OP T Z S) (OV T V) o) :
    ∃ k o I1 cc1 c1 z1, run k y 0 (ini y (vr 0 0 :: l.map vi)) [] [] I (Cs cc) n c z = some (o, I1, Cs cc1, n, c1, z1) ∧ c1 ≤ c + 1 ∧ z1 ≤ z + 6 ∧ (∀ f i j, 59 < f → I1 f i j = I f i j) ∧ ((T = 0 ∧ FS I1 cc1 Z ∧ ∃ v, o = Sum.inl (some (vi v)) ∧ Fv v = V) ∨ (¬ T = 0 ∧ FS I1 cc1 S ∧ ∃ E, o = Sum.inr E ∧ tE (mE E) = some T)) := by
  obtain ⟨k, o, I1, cc1, c1, z1, h1, h2, h3, h4, h5, h6⟩ := h
  refine ⟨k, o, I1, cc1, c1, z1, h1, h2, h3, h4, ?_⟩
  by_cases g : T = 0
  · rw [OP0 g] at h5 h6
    refine Or.inl ⟨g, h5, ?_⟩
    rcases h6 with ⟨e1, v, e2, e3⟩ | ⟨E, t, e1, e2, e3, e4⟩
    · exact ⟨v, e2, by rw [e3]; exact if_pos g⟩
    · exact absurd (e4.symm.trans (h0 g)) e3
  · rw [OP1 g] at h5 h6
    refine Or.inr ⟨g, h5.N (fun f i j q1 q2 q3 => (up3_no (by omega)).symm), ?_⟩
    rcases h6 with ⟨e1, v, e2, e3⟩ | ⟨E, t, e1, e2, e3, e4⟩
    · rw [up3_eq] at e1; exact absurd e1 g
    · rw [up3_eq] at e4; exact ⟨E, e1, by rw [e2, e4]⟩
def tE_place : Nat → Option Int := fun E => bif Nat.beq E 2 then some 1 else none
def Fv_place : Int → Int := fun v => v
theorem ex_place {I : IT} {cc : Nat → Option Nat} {n c z : Nat} (F : FI I cc) : ∃ k o I1 cc1 c1 z1, run k 1 0 (ini 1 (vr 0 0 :: List.map vi [])) [] [] I (Cs cc) n c z = some (o, I1, Cs cc1, n, c1, z1) ∧ c1 ≤ c + 1 ∧ z1 ≤ z + 6 ∧ (∀ f i j, 27 ≤ f → ¬ f = 59 → I1 f i j = I f i j) ∧ Sm I1 cc1 (plS I) ∧ Oc tE_place Fv_place (plS I) (plV I) o := by
  refine ext (w := 137) (pcw := 3) (lsw := [some (vr 0 0), some (vr 59 0), none]) (j0 := 4) (fun out h => cl_place F h) (fun k => rfl) (fun v k I C n c z x h => ?_) (fun v I C n c z => ?_) (fun E k I C n c z x h => ?_)
  · rcases v with _ | (v | v | v)
    · rcases k with _ | _ | _ | _ | k <;> exact nomatch (show (none : Option ou) = some x from h)
    · exact ⟨v, rfl⟩
    · rcases k with _ | _ | k <;> exact nomatch (show (none : Option ou) = some x from h)
    · rcases k with _ | _ | k <;> exact nomatch (show (none : Option ou) = some x from h)
  · exact ⟨5, rfl⟩
  · rcases E with _ | _ | E
    · exact nomatch (show (none : Option ou) = some x from h)
    · exact nomatch (show (none : Option ou) = some x from h)
    · exact ⟨1, rfl, by decide, run_det (show run k 137 _ _ [] [] I C n c z = some x from h) (show run 2 137 _ _ [] [] I C n c z = _ from rfl)⟩
def tE_join : Nat → Option Int := fun E => bif Nat.beq E 0 then some 1 else bif Nat.beq E 1 then some 2 else bif Nat.beq E 2 then some 3 else none
def Fv_join : Int → Int := fun v => v
theorem ex_join {a b d : Int} {I : IT} {cc : Nat → Option Nat} {n c z : Nat} (F : FI I cc) : ∃ k o I1 cc1 c1 z1, run k 2 0 (ini 2 (vr 0 0 :: List.map vi [a, b, d])) [] [] I (Cs cc) n c z = some (o, I1, Cs cc1, n, c1, z1) ∧ c1 ≤ c + 1 ∧ z1 ≤ z + 6 ∧ (∀ f i j, 27 ≤ f → ¬ f = 59 → I1 f i j = I f i j) ∧ Sm I1 cc1 (OP (joT I a b d) (joZ I a b d) I) ∧ Oc tE_join Fv_join (OP (joT I a b d) (joZ I a b d) I) (OV (joT I a b d) (I 27 0 2 + 1)) o := by
  refine ext (w := 138) (pcw := 7) (lsw := [some (vr 0 0), some (vi a), some (vi b), some (vi d), some (vr 59 0), none]) (j0 := 7) (fun out h => cl_join F h) (fun k => rfl) (fun v k I C n c z x h => ?_) (fun v I C n c z => ?_) (fun E k I C n c z x h => ?_)
  · rcases v with _ | (v | v | v)
    · rcases k with _ | _ | _ | _ | k <;> exact nomatch (show (none : Option ou) = some x from h)
    · exact ⟨v, rfl⟩
    · rcases k with _ | _ | k <;> exact nomatch (show (none : Option ou) = some x from h)
    · rcases k with _ | _ | k <;> exact nomatch (show (none : Option ou) = some x from h)
  · exact ⟨5, rfl⟩
  · rcases E with _ | _ | E
    · exact ⟨1, rfl, by decide, run_det (show run k 138 _ _ [] [] I C n c z = some x from h) (show run 2 138 _ _ [] [] I C n c z = _ from rfl)⟩
    · exact ⟨2, rfl, by decide, run_det (show run k 138 _ _ [] [] I C n c z = some x from h) (show run 2 138 _ _ [] [] I C n c z = _ from rfl)⟩
    · exact ⟨3, rfl, by decide, run_det (show run k 138 _ _ [] [] I C n c z = some x from h) (show run 2 138 _ _ [] [] I C n c z = _ from rfl)⟩
def tE_street : Nat → Option Int := fun E => bif Nat.beq E 2 then some 1 else none
def Fv_street : Int → Int := fun v => v
theorem ex_street {I : IT} {cc : Nat → Option Nat} {n c z : Nat} (F : FI I cc) : ∃ k o I1 cc1 c1 z1, run k 3 0 (ini 3 (vr 0 0 :: List.map vi [])) [] [] I (Cs cc) n c z = some (o, I1, Cs cc1, n, c1, z1) ∧ c1 ≤ c + 1 ∧ z1 ≤ z + 6 ∧ (∀ f i j, 27 ≤ f → ¬ f = 59 → I1 f i j = I f i j) ∧ Sm I1 cc1 (OP (stT I) (stZ I) I) ∧ Oc tE_street Fv_street (OP (stT I) (stZ I) I) (OV (stT I) (I 27 0 4)) o := by
  refine ext (w := 139) (pcw := 3) (lsw := [some (vr 0 0), some (vr 59 0), none]) (j0 := 4) (fun out h => cl_street F h) (fun k => rfl) (fun v k I C n c z x h => ?_) (fun v I C n c z => ?_) (fun E k I C n c z x h => ?_)
  · rcases v with _ | (v | v | v)
    · rcases k with _ | _ | _ | _ | k <;> exact nomatch (show (none : Option ou) = some x from h)
    · exact ⟨v, rfl⟩
    · rcases k with _ | _ | k <;> exact nomatch (show (none : Option ou) = some x from h)
    · rcases k with _ | _ | k <;> exact nomatch (show (none : Option ou) = some x from h)
  · exact ⟨5, rfl⟩
  · rcases E with _ | _ | E
    · exact nomatch (show (none : Option ou) = some x from h)
    · exact nomatch (show (none : Option ou) = some x from h)
    · exact ⟨1, rfl, by decide, run_det (show run k 139 _ _ [] [] I C n c z = some x from h) (show run 2 139 _ _ [] [] I C n c z = _ from rfl)⟩
def tE_span : Nat → Option Int := fun E => bif Nat.beq E 0 then some 1 else bif Nat.beq E 1 then some 2 else bif Nat.beq E 2 then some 3 else none
def Fv_span : Int → Int := fun v => v
theorem ex_span {a b d e : Int} {I : IT} {cc : Nat → Option Nat} {n c z : Nat} (F : FI I cc) : ∃ k o I1 cc1 c1 z1, run k 4 0 (ini 4 (vr 0 0 :: List.map vi [a, b, d, e])) [] [] I (Cs cc) n c z = some (o, I1, Cs cc1, n, c1, z1) ∧ c1 ≤ c + 1 ∧ z1 ≤ z + 6 ∧ (∀ f i j, 27 ≤ f → ¬ f = 59 → I1 f i j = I f i j) ∧ Sm I1 cc1 (OP (spT I a b d e) (spZ I a b d e) I) ∧ Oc tE_span Fv_span (OP (spT I a b d e) (spZ I a b d e) I) (OV (spT I a b d e) (I 29 0 a.toNat + 1)) o := by
  refine ext (w := 140) (pcw := 9) (lsw := [some (vr 0 0), some (vi a), some (vi b), some (vi d), some (vi e), some (vr 59 0), none]) (j0 := 8) (fun out h => cl_span F h) (fun k => rfl) (fun v k I C n c z x h => ?_) (fun v I C n c z => ?_) (fun E k I C n c z x h => ?_)
  · rcases v with _ | (v | v | v)
    · rcases k with _ | _ | _ | _ | k <;> exact nomatch (show (none : Option ou) = some x from h)
    · exact ⟨v, rfl⟩
    · rcases k with _ | _ | k <;> exact nomatch (show (none : Option ou) = some x from h)
    · rcases k with _ | _ | k <;> exact nomatch (show (none : Option ou) = some x from h)
  · exact ⟨5, rfl⟩
  · rcases E with _ | _ | E
    · exact ⟨1, rfl, by decide, run_det (show run k 140 _ _ [] [] I C n c z = some x from h) (show run 2 140 _ _ [] [] I C n c z = _ from rfl)⟩
    · exact ⟨2, rfl, by decide, run_det (show run k 140 _ _ [] [] I C n c z = some x from h) (show run 2 140 _ _ [] [] I C n c z = _ from rfl)⟩
    · exact ⟨3, rfl, by decide, run_det (show run k 140 _ _ [] [] I C n c z = some x from h) (show run 2 140 _ _ [] [] I C n c z = _ from rfl)⟩
def tE_name : Nat → Option Int := fun E => bif Nat.beq E 0 then some 1 else bif Nat.beq E 2 then some 2 else none
def Fv_name : Int → Int := fun v => v
theorem ex_name {a b : Int} {I : IT} {cc : Nat → Option Nat} {n c z : Nat} (F : FI I cc) : ∃ k o I1 cc1 c1 z1, run k 5 0 (ini 5 (vr 0 0 :: List.map vi [a, b])) [] [] I (Cs cc) n c z = some (o, I1, Cs cc1, n, c1, z1) ∧ c1 ≤ c + 1 ∧ z1 ≤ z + 6 ∧ (∀ f i j, 27 ≤ f → ¬ f = 59 → I1 f i j = I f i j) ∧ Sm I1 cc1 (OP (nmT I a b) (nmZ I a b) I) ∧ Oc tE_name Fv_name (OP (nmT I a b) (nmZ I a b) I) (OV (nmT I a b) (bn I a.toNat (nn I))) o := by
  refine ext (w := 141) (pcw := 5) (lsw := [some (vr 0 0), some (vi a), some (vi b), some (vr 59 0), none]) (j0 := 6) (fun out h => cl_name F h) (fun k => rfl) (fun v k I C n c z x h => ?_) (fun v I C n c z => ?_) (fun E k I C n c z x h => ?_)
  · rcases v with _ | (v | v | v)
    · rcases k with _ | _ | _ | _ | k <;> exact nomatch (show (none : Option ou) = some x from h)
    · exact ⟨v, rfl⟩
    · rcases k with _ | _ | k <;> exact nomatch (show (none : Option ou) = some x from h)
    · rcases k with _ | _ | k <;> exact nomatch (show (none : Option ou) = some x from h)
  · exact ⟨5, rfl⟩
  · rcases E with _ | _ | E
    · exact ⟨1, rfl, by decide, run_det (show run k 141 _ _ [] [] I C n c z = some x from h) (show run 2 141 _ _ [] [] I C n c z = _ from rfl)⟩
    · exact nomatch (show (none : Option ou) = some x from h)
    · exact ⟨2, rfl, by decide, run_det (show run k 141 _ _ [] [] I C n c z = some x from h) (show run 2 141 _ _ [] [] I C n c z = _ from rfl)⟩
def tE_same : Nat → Option Int := fun E => bif Nat.beq E 0 then some 1 else none
def Fv_same : Int → Int := fun v => if v = 0 then 0 else 1
theorem ex_same {a b : Int} {I : IT} {cc : Nat → Option Nat} {n c z : Nat} (F : FI I cc) : ∃ k o I1 cc1 c1 z1, run k 6 0 (ini 6 (vr 0 0 :: List.map vi [a, b])) [] [] I (Cs cc) n c z = some (o, I1, Cs cc1, n, c1, z1) ∧ c1 ≤ c + 1 ∧ z1 ≤ z + 6 ∧ (∀ f i j, 27 ≤ f → ¬ f = 59 → I1 f i j = I f i j) ∧ Sm I1 cc1 (OP (saT a b) (saZ I a b) I) ∧ Oc tE_same Fv_same (OP (saT a b) (saZ I a b) I) (OV (saT a b) (saV I a b)) o := by
  refine ext (w := 142) (pcw := 5) (lsw := [some (vr 0 0), some (vi a), some (vi b), some (vr 59 0), none]) (j0 := 6) (fun out h => cl_same F h) (fun k => rfl) (fun v k I C n c z x h => ?_) (fun v I C n c z => ?_) (fun E k I C n c z x h => ?_)
  · rcases v with _ | (v | v | v)
    · rcases k with _ | _ | _ | _ | k <;> exact nomatch (show (none : Option ou) = some x from h)
    · exact ⟨v, rfl⟩
    · rcases k with _ | _ | k <;> exact nomatch (show (none : Option ou) = some x from h)
    · rcases k with _ | _ | k <;> exact nomatch (show (none : Option ou) = some x from h)
  · by_cases hv : v = 0
    · subst hv
      exact ⟨6, rfl⟩
    · refine ⟨7, ?_⟩
      have e1 : run 7 142 8 [some (vr 0 0), some (vi a), some (vi b), some (vr 59 0), none] [vi v, vi 0, vr 59 0] [] I C n c z = (if v = 0 then run 6 142 15 [some (vr 0 0), some (vi a), some (vi b), some (vr 59 0), none] [vi 0, vr 59 0] [] I C n c z else run 6 142 11 [some (vr 0 0), some (vi a), some (vi b), some (vr 59 0), none] [vi 0, vr 59 0] [] I C n c z) := rfl
      have e2 : Fv_same v = 1 := if_neg hv
      show run 7 142 8 [some (vr 0 0), some (vi a), some (vi b), some (vr 59 0), none] [vi v, vi 0, vr 59 0] [] I C n c z = _
      rw [e1, if_neg hv, e2]
      rfl
  · rcases E with _ | _ | E
    · exact ⟨1, rfl, by decide, run_det (show run k 142 _ _ [] [] I C n c z = some x from h) (show run 2 142 _ _ [] [] I C n c z = _ from rfl)⟩
    · exact nomatch (show (none : Option ou) = some x from h)
    · exact nomatch (show (none : Option ou) = some x from h)
def tE_leads : Nat → Option Int := fun E => bif Nat.beq E 0 then some 1 else bif Nat.beq E 1 then some 2 else none
def Fv_leads : Int → Int := fun v => v
theorem ex_leads {a b : Int} {I : IT} {cc : Nat → Option Nat} {n c z : Nat} (F : FI I cc) : ∃ k o I1 cc1 c1 z1, run k 7 0 (ini 7 (vr 0 0 :: List.map vi [a, b])) [] [] I (Cs cc) n c z = some (o, I1, Cs cc1, n, c1, z1) ∧ c1 ≤ c + 1 ∧ z1 ≤ z + 6 ∧ (∀ f i j, 27 ≤ f → ¬ f = 59 → I1 f i j = I f i j) ∧ Sm I1 cc1 (OP (ldT a b) (ldZ I a b) I) ∧ Oc tE_leads Fv_leads (OP (ldT a b) (ldZ I a b) I) (OV (ldT a b) (ld I a b)) o := by
  refine ext (w := 143) (pcw := 5) (lsw := [some (vr 0 0), some (vi a), some (vi b), some (vr 59 0), none]) (j0 := 6) (fun out h => cl_leads F h) (fun k => rfl) (fun v k I C n c z x h => ?_) (fun v I C n c z => ?_) (fun E k I C n c z x h => ?_)
  · rcases v with _ | (v | v | v)
    · rcases k with _ | _ | _ | _ | k <;> exact nomatch (show (none : Option ou) = some x from h)
    · exact ⟨v, rfl⟩
    · rcases k with _ | _ | k <;> exact nomatch (show (none : Option ou) = some x from h)
    · rcases k with _ | _ | k <;> exact nomatch (show (none : Option ou) = some x from h)
  · exact ⟨5, rfl⟩
  · rcases E with _ | _ | E
    · exact ⟨1, rfl, by decide, run_det (show run k 143 _ _ [] [] I C n c z = some x from h) (show run 2 143 _ _ [] [] I C n c z = _ from rfl)⟩
    · exact ⟨2, rfl, by decide, run_det (show run k 143 _ _ [] [] I C n c z = some x from h) (show run 2 143 _ _ [] [] I C n c z = _ from rfl)⟩
    · exact nomatch (show (none : Option ou) = some x from h)
def tE_leadsAnew : Nat → Option Int := fun E => bif Nat.beq E 0 then some 1 else bif Nat.beq E 1 then some 2 else none
def Fv_leadsAnew : Int → Int := fun v => v
theorem ex_leadsAnew {a b : Int} {I : IT} {cc : Nat → Option Nat} {n c z : Nat} (F : FI I cc) : ∃ k o I1 cc1 c1 z1, run k 8 0 (ini 8 (vr 0 0 :: List.map vi [a, b])) [] [] I (Cs cc) n c z = some (o, I1, Cs cc1, n, c1, z1) ∧ c1 ≤ c + 1 ∧ z1 ≤ z + 6 ∧ (∀ f i j, 27 ≤ f → ¬ f = 59 → I1 f i j = I f i j) ∧ Sm I1 cc1 (OP (ldT a b) (ldZ I a b) I) ∧ Oc tE_leadsAnew Fv_leadsAnew (OP (ldT a b) (ldZ I a b) I) (OV (ldT a b) (ld I a b)) o := by
  refine ext (w := 144) (pcw := 5) (lsw := [some (vr 0 0), some (vi a), some (vi b), some (vr 59 0), none]) (j0 := 6) (fun out h => cl_leadsAnew F h) (fun k => rfl) (fun v k I C n c z x h => ?_) (fun v I C n c z => ?_) (fun E k I C n c z x h => ?_)
  · rcases v with _ | (v | v | v)
    · rcases k with _ | _ | _ | _ | k <;> exact nomatch (show (none : Option ou) = some x from h)
    · exact ⟨v, rfl⟩
    · rcases k with _ | _ | k <;> exact nomatch (show (none : Option ou) = some x from h)
    · rcases k with _ | _ | k <;> exact nomatch (show (none : Option ou) = some x from h)
  · exact ⟨5, rfl⟩
  · rcases E with _ | _ | E
    · exact ⟨1, rfl, by decide, run_det (show run k 144 _ _ [] [] I C n c z = some x from h) (show run 2 144 _ _ [] [] I C n c z = _ from rfl)⟩
    · exact ⟨2, rfl, by decide, run_det (show run k 144 _ _ [] [] I C n c z = some x from h) (show run 2 144 _ _ [] [] I C n c z = _ from rfl)⟩
    · exact nomatch (show (none : Option ou) = some x from h)
def tE_placeOf : Nat → Option Int := fun E => bif Nat.beq E 0 then some 1 else bif Nat.beq E 1 then some 2 else none
def Fv_placeOf : Int → Int := fun v => v
theorem ex_placeOf {a b : Int} {I : IT} {cc : Nat → Option Nat} {n c z : Nat} (F : FI I cc) : ∃ k o I1 cc1 c1 z1, run k 9 0 (ini 9 (vr 0 0 :: List.map vi [a, b])) [] [] I (Cs cc) n c z = some (o, I1, Cs cc1, n, c1, z1) ∧ c1 ≤ c + 1 ∧ z1 ≤ z + 6 ∧ (∀ f i j, 27 ≤ f → ¬ f = 59 → I1 f i j = I f i j) ∧ Sm I1 cc1 (OP (poT I a b) (Zq I) I) ∧ Oc tE_placeOf Fv_placeOf (OP (poT I a b) (Zq I) I) (OV (poT I a b) (plc I a.toNat b)) o := by
  refine ext (w := 145) (pcw := 5) (lsw := [some (vr 0 0), some (vi a), some (vi b), some (vr 59 0), none]) (j0 := 6) (fun out h => cl_placeOf F h) (fun k => rfl) (fun v k I C n c z x h => ?_) (fun v I C n c z => ?_) (fun E k I C n c z x h => ?_)
  · rcases v with _ | (v | v | v)
    · rcases k with _ | _ | _ | _ | k <;> exact nomatch (show (none : Option ou) = some x from h)
    · exact ⟨v, rfl⟩
    · rcases k with _ | _ | k <;> exact nomatch (show (none : Option ou) = some x from h)
    · rcases k with _ | _ | k <;> exact nomatch (show (none : Option ou) = some x from h)
  · exact ⟨5, rfl⟩
  · rcases E with _ | _ | E
    · exact ⟨1, rfl, by decide, run_det (show run k 145 _ _ [] [] I C n c z = some x from h) (show run 2 145 _ _ [] [] I C n c z = _ from rfl)⟩
    · exact ⟨2, rfl, by decide, run_det (show run k 145 _ _ [] [] I C n c z = some x from h) (show run 2 145 _ _ [] [] I C n c z = _ from rfl)⟩
    · exact nomatch (show (none : Option ou) = some x from h)
def tE_way : Nat → Option Int := fun E => bif Nat.beq E 0 then some 1 else none
def Fv_way : Int → Int := fun v => v
theorem ex_way {a b : Int} {I : IT} {cc : Nat → Option Nat} {n c z : Nat} (F : FI I cc) : ∃ k o I1 cc1 c1 z1, run k 10 0 (ini 10 (vr 0 0 :: List.map vi [a, b])) [] [] I (Cs cc) n c z = some (o, I1, Cs cc1, n, c1, z1) ∧ c1 ≤ c + 1 ∧ z1 ≤ z + 6 ∧ (∀ f i j, 27 ≤ f → ¬ f = 59 → I1 f i j = I f i j) ∧ Sm I1 cc1 (OP (wyT I a b) (Zq I) I) ∧ Oc tE_way Fv_way (OP (wyT I a b) (Zq I) I) (OV (wyT I a b) (btw I a b)) o := by
  refine ext (w := 146) (pcw := 5) (lsw := [some (vr 0 0), some (vi a), some (vi b), some (vr 59 0), none]) (j0 := 6) (fun out h => cl_way F h) (fun k => rfl) (fun v k I C n c z x h => ?_) (fun v I C n c z => ?_) (fun E k I C n c z x h => ?_)
  · rcases v with _ | (v | v | v)
    · rcases k with _ | _ | _ | _ | k <;> exact nomatch (show (none : Option ou) = some x from h)
    · exact ⟨v, rfl⟩
    · rcases k with _ | _ | k <;> exact nomatch (show (none : Option ou) = some x from h)
    · rcases k with _ | _ | k <;> exact nomatch (show (none : Option ou) = some x from h)
  · exact ⟨5, rfl⟩
  · rcases E with _ | _ | E
    · exact ⟨1, rfl, by decide, run_det (show run k 146 _ _ [] [] I C n c z = some x from h) (show run 2 146 _ _ [] [] I C n c z = _ from rfl)⟩
    · exact nomatch (show (none : Option ou) = some x from h)
    · exact nomatch (show (none : Option ou) = some x from h)
def tE_car : Nat → Option Int := fun E => bif Nat.beq E 0 then some 1 else bif Nat.beq E 2 then some 2 else none
def Fv_car : Int → Int := fun v => v
theorem ex_car {a : Int} {I : IT} {cc : Nat → Option Nat} {n c z : Nat} (F : FI I cc) : ∃ k o I1 cc1 c1 z1, run k 11 0 (ini 11 (vr 0 0 :: List.map vi [a])) [] [] I (Cs cc) n c z = some (o, I1, Cs cc1, n, c1, z1) ∧ c1 ≤ c + 1 ∧ z1 ≤ z + 6 ∧ (∀ f i j, 27 ≤ f → ¬ f = 59 → I1 f i j = I f i j) ∧ Sm I1 cc1 (OP (caT I a) (caZ I a) I) ∧ Oc tE_car Fv_car (OP (caT I a) (caZ I a) I) (OV (caT I a) (I 27 0 14)) o := by
  refine ext (w := 147) (pcw := 4) (lsw := [some (vr 0 0), some (vi a), some (vr 59 0), none]) (j0 := 5) (fun out h => cl_car F h) (fun k => rfl) (fun v k I C n c z x h => ?_) (fun v I C n c z => ?_) (fun E k I C n c z x h => ?_)
  · rcases v with _ | (v | v | v)
    · rcases k with _ | _ | _ | _ | k <;> exact nomatch (show (none : Option ou) = some x from h)
    · exact ⟨v, rfl⟩
    · rcases k with _ | _ | k <;> exact nomatch (show (none : Option ou) = some x from h)
    · rcases k with _ | _ | k <;> exact nomatch (show (none : Option ou) = some x from h)
  · exact ⟨5, rfl⟩
  · rcases E with _ | _ | E
    · exact ⟨1, rfl, by decide, run_det (show run k 147 _ _ [] [] I C n c z = some x from h) (show run 2 147 _ _ [] [] I C n c z = _ from rfl)⟩
    · exact nomatch (show (none : Option ou) = some x from h)
    · exact ⟨2, rfl, by decide, run_det (show run k 147 _ _ [] [] I C n c z = some x from h) (show run 2 147 _ _ [] [] I C n c z = _ from rfl)⟩
def tE_call : Nat → Option Int := fun E => bif Nat.beq E 0 then some 1 else bif Nat.beq E 1 then some 2 else bif Nat.beq E 2 then some 3 else none
def Fv_call : Int → Int := fun v => v
theorem ex_call {a b : Int} {I : IT} {cc : Nat → Option Nat} {n c z : Nat} (F : FI I cc) : ∃ k o I1 cc1 c1 z1, run k 12 0 (ini 12 (vr 0 0 :: List.map vi [a, b])) [] [] I (Cs cc) n c z = some (o, I1, Cs cc1, n, c1, z1) ∧ c1 ≤ c + 1 ∧ z1 ≤ z + 6 ∧ (∀ f i j, 27 ≤ f → ¬ f = 59 → I1 f i j = I f i j) ∧ Sm I1 cc1 (OP (clT I a b) (sends (clW I a b)) I) ∧ Oc tE_call Fv_call (OP (clT I a b) (sends (clW I a b)) I) (OV (clT I a b) (I 27 0 18)) o := by
  refine ext (w := 148) (pcw := 5) (lsw := [some (vr 0 0), some (vi a), some (vi b), some (vr 59 0), none]) (j0 := 6) (fun out h => cl_call F h) (fun k => rfl) (fun v k I C n c z x h => ?_) (fun v I C n c z => ?_) (fun E k I C n c z x h => ?_)
  · rcases v with _ | (v | v | v)
    · rcases k with _ | _ | _ | _ | k <;> exact nomatch (show (none : Option ou) = some x from h)
    · exact ⟨v, rfl⟩
    · rcases k with _ | _ | k <;> exact nomatch (show (none : Option ou) = some x from h)
    · rcases k with _ | _ | k <;> exact nomatch (show (none : Option ou) = some x from h)
  · exact ⟨5, rfl⟩
  · rcases E with _ | _ | E
    · exact ⟨1, rfl, by decide, run_det (show run k 148 _ _ [] [] I C n c z = some x from h) (show run 2 148 _ _ [] [] I C n c z = _ from rfl)⟩
    · exact ⟨2, rfl, by decide, run_det (show run k 148 _ _ [] [] I C n c z = some x from h) (show run 2 148 _ _ [] [] I C n c z = _ from rfl)⟩
    · exact ⟨3, rfl, by decide, run_det (show run k 148 _ _ [] [] I C n c z = some x from h) (show run 2 148 _ _ [] [] I C n c z = _ from rfl)⟩
def tE_clear : Nat → Option Int := fun E => bif Nat.beq E 0 then some 1 else bif Nat.beq E 2 then some 2 else none
def Fv_clear : Int → Int := fun v => v
theorem ex_clear {a b : Int} {I : IT} {cc : Nat → Option Nat} {n c z : Nat} (F : FI I cc) : ∃ k o I1 cc1 c1 z1, run k 13 0 (ini 13 (vr 0 0 :: List.map vi [a, b])) [] [] I (Cs cc) n c z = some (o, I1, Cs cc1, n, c1, z1) ∧ c1 ≤ c + 1 ∧ z1 ≤ z + 6 ∧ (∀ f i j, 27 ≤ f → ¬ f = 59 → I1 f i j = I f i j) ∧ Sm I1 cc1 (OP (crT I a b) (sends (crW I a b)) I) ∧ Oc tE_clear Fv_clear (OP (crT I a b) (sends (crW I a b)) I) (OV (crT I a b) (crV I a b)) o := by
  refine ext (w := 149) (pcw := 5) (lsw := [some (vr 0 0), some (vi a), some (vi b), some (vr 59 0), none]) (j0 := 6) (fun out h => cl_clear F h) (fun k => rfl) (fun v k I C n c z x h => ?_) (fun v I C n c z => ?_) (fun E k I C n c z x h => ?_)
  · rcases v with _ | (v | v | v)
    · rcases k with _ | _ | _ | _ | k <;> exact nomatch (show (none : Option ou) = some x from h)
    · exact ⟨v, rfl⟩
    · rcases k with _ | _ | k <;> exact nomatch (show (none : Option ou) = some x from h)
    · rcases k with _ | _ | k <;> exact nomatch (show (none : Option ou) = some x from h)
  · exact ⟨5, rfl⟩
  · rcases E with _ | _ | E
    · exact ⟨1, rfl, by decide, run_det (show run k 149 _ _ [] [] I C n c z = some x from h) (show run 2 149 _ _ [] [] I C n c z = _ from rfl)⟩
    · exact nomatch (show (none : Option ou) = some x from h)
    · exact ⟨2, rfl, by decide, run_det (show run k 149 _ _ [] [] I C n c z = some x from h) (show run 2 149 _ _ [] [] I C n c z = _ from rfl)⟩
def tE_ofCall : Nat → Option Int := fun E => bif Nat.beq E 0 then some 1 else none
def Fv_ofCall : Int → Int := fun v => v
theorem ex_ofCall {a b : Int} {I : IT} {cc : Nat → Option Nat} {n c z : Nat} (F : FI I cc) : ∃ k o I1 cc1 c1 z1, run k 14 0 (ini 14 (vr 0 0 :: List.map vi [a, b])) [] [] I (Cs cc) n c z = some (o, I1, Cs cc1, n, c1, z1) ∧ c1 ≤ c + 1 ∧ z1 ≤ z + 6 ∧ (∀ f i j, 27 ≤ f → ¬ f = 59 → I1 f i j = I f i j) ∧ Sm I1 cc1 (OP (ocT I a b) (Zq I) I) ∧ Oc tE_ofCall Fv_ofCall (OP (ocT I a b) (Zq I) I) (OV (ocT I a b) (ocV I a b)) o := by
  refine ext (w := 150) (pcw := 5) (lsw := [some (vr 0 0), some (vi a), some (vi b), some (vr 59 0), none]) (j0 := 6) (fun out h => cl_ofCall F h) (fun k => rfl) (fun v k I C n c z x h => ?_) (fun v I C n c z => ?_) (fun E k I C n c z x h => ?_)
  · rcases v with _ | (v | v | v)
    · rcases k with _ | _ | _ | _ | k <;> exact nomatch (show (none : Option ou) = some x from h)
    · exact ⟨v, rfl⟩
    · rcases k with _ | _ | k <;> exact nomatch (show (none : Option ou) = some x from h)
    · rcases k with _ | _ | k <;> exact nomatch (show (none : Option ou) = some x from h)
  · exact ⟨5, rfl⟩
  · rcases E with _ | _ | E
    · exact ⟨1, rfl, by decide, run_det (show run k 150 _ _ [] [] I C n c z = some x from h) (show run 2 150 _ _ [] [] I C n c z = _ from rfl)⟩
    · exact nomatch (show (none : Option ou) = some x from h)
    · exact nomatch (show (none : Option ou) = some x from h)
def tE_ofCar : Nat → Option Int := fun E => bif Nat.beq E 0 then some 1 else none
def Fv_ofCar : Int → Int := fun v => v
theorem ex_ofCar {a b : Int} {I : IT} {cc : Nat → Option Nat} {n c z : Nat} (F : FI I cc) : ∃ k o I1 cc1 c1 z1, run k 15 0 (ini 15 (vr 0 0 :: List.map vi [a, b])) [] [] I (Cs cc) n c z = some (o, I1, Cs cc1, n, c1, z1) ∧ c1 ≤ c + 1 ∧ z1 ≤ z + 6 ∧ (∀ f i j, 27 ≤ f → ¬ f = 59 → I1 f i j = I f i j) ∧ Sm I1 cc1 (OP (orT I a b) (Zq I) I) ∧ Oc tE_ofCar Fv_ofCar (OP (orT I a b) (Zq I) I) (OV (orT I a b) (orV I a b)) o := by
  refine ext (w := 151) (pcw := 5) (lsw := [some (vr 0 0), some (vi a), some (vi b), some (vr 59 0), none]) (j0 := 6) (fun out h => cl_ofCar F h) (fun k => rfl) (fun v k I C n c z x h => ?_) (fun v I C n c z => ?_) (fun E k I C n c z x h => ?_)
  · rcases v with _ | (v | v | v)
    · rcases k with _ | _ | _ | _ | k <;> exact nomatch (show (none : Option ou) = some x from h)
    · exact ⟨v, rfl⟩
    · rcases k with _ | _ | k <;> exact nomatch (show (none : Option ou) = some x from h)
    · rcases k with _ | _ | k <;> exact nomatch (show (none : Option ou) = some x from h)
  · exact ⟨5, rfl⟩
  · rcases E with _ | _ | E
    · exact ⟨1, rfl, by decide, run_det (show run k 151 _ _ [] [] I C n c z = some x from h) (show run 2 151 _ _ [] [] I C n c z = _ from rfl)⟩
    · exact nomatch (show (none : Option ou) = some x from h)
    · exact nomatch (show (none : Option ou) = some x from h)
def tE_locker : Nat → Option Int := fun E => bif Nat.beq E 0 then some 1 else bif Nat.beq E 1 then some 2 else bif Nat.beq E 2 then some 3 else none
def Fv_locker : Int → Int := fun v => v
theorem ex_locker {a b d e : Int} {I : IT} {cc : Nat → Option Nat} {n c z : Nat} (F : FI I cc) : ∃ k o I1 cc1 c1 z1, run k 16 0 (ini 16 (vr 0 0 :: List.map vi [a, b, d, e])) [] [] I (Cs cc) n c z = some (o, I1, Cs cc1, n, c1, z1) ∧ c1 ≤ c + 1 ∧ z1 ≤ z + 6 ∧ (∀ f i j, 27 ≤ f → ¬ f = 59 → I1 f i j = I f i j) ∧ Sm I1 cc1 (OP (loT I a b d e) (loZ I a b d e) I) ∧ Oc tE_locker Fv_locker (OP (loT I a b d e) (loZ I a b d e) I) (OV (loT I a b d e) (I 27 0 27)) o := by
  refine ext (w := 152) (pcw := 9) (lsw := [some (vr 0 0), some (vi a), some (vi b), some (vi d), some (vi e), some (vr 59 0), none]) (j0 := 8) (fun out h => cl_locker F h) (fun k => rfl) (fun v k I C n c z x h => ?_) (fun v I C n c z => ?_) (fun E k I C n c z x h => ?_)
  · rcases v with _ | (v | v | v)
    · rcases k with _ | _ | _ | _ | k <;> exact nomatch (show (none : Option ou) = some x from h)
    · exact ⟨v, rfl⟩
    · rcases k with _ | _ | k <;> exact nomatch (show (none : Option ou) = some x from h)
    · rcases k with _ | _ | k <;> exact nomatch (show (none : Option ou) = some x from h)
  · exact ⟨5, rfl⟩
  · rcases E with _ | _ | E
    · exact ⟨1, rfl, by decide, run_det (show run k 152 _ _ [] [] I C n c z = some x from h) (show run 2 152 _ _ [] [] I C n c z = _ from rfl)⟩
    · exact ⟨2, rfl, by decide, run_det (show run k 152 _ _ [] [] I C n c z = some x from h) (show run 2 152 _ _ [] [] I C n c z = _ from rfl)⟩
    · exact ⟨3, rfl, by decide, run_det (show run k 152 _ _ [] [] I C n c z = some x from h) (show run 2 152 _ _ [] [] I C n c z = _ from rfl)⟩
def tE_post : Nat → Option Int := fun E => bif Nat.beq E 0 then some 1 else bif Nat.beq E 1 then some 2 else bif Nat.beq E 2 then some 3 else none
def Fv_post : Int → Int := fun v => v
theorem ex_post {a b d : Int} {I : IT} {cc : Nat → Option Nat} {n c z : Nat} (F : FI I cc) : ∃ k o I1 cc1 c1 z1, run k 17 0 (ini 17 (vr 0 0 :: List.map vi [a, b, d])) [] [] I (Cs cc) n c z = some (o, I1, Cs cc1, n, c1, z1) ∧ c1 ≤ c + 1 ∧ z1 ≤ z + 6 ∧ (∀ f i j, 27 ≤ f → ¬ f = 59 → I1 f i j = I f i j) ∧ Sm I1 cc1 (OP (psT I a b d) (psZ I a b d) I) ∧ Oc tE_post Fv_post (OP (psT I a b d) (psZ I a b d) I) (OV (psT I a b d) (I 27 0 30)) o := by
  refine ext (w := 153) (pcw := 7) (lsw := [some (vr 0 0), some (vi a), some (vi b), some (vi d), some (vr 59 0), none]) (j0 := 7) (fun out h => cl_post F h) (fun k => rfl) (fun v k I C n c z x h => ?_) (fun v I C n c z => ?_) (fun E k I C n c z x h => ?_)
  · rcases v with _ | (v | v | v)
    · rcases k with _ | _ | _ | _ | k <;> exact nomatch (show (none : Option ou) = some x from h)
    · exact ⟨v, rfl⟩
    · rcases k with _ | _ | k <;> exact nomatch (show (none : Option ou) = some x from h)
    · rcases k with _ | _ | k <;> exact nomatch (show (none : Option ou) = some x from h)
  · exact ⟨5, rfl⟩
  · rcases E with _ | _ | E
    · exact ⟨1, rfl, by decide, run_det (show run k 153 _ _ [] [] I C n c z = some x from h) (show run 2 153 _ _ [] [] I C n c z = _ from rfl)⟩
    · exact ⟨2, rfl, by decide, run_det (show run k 153 _ _ [] [] I C n c z = some x from h) (show run 2 153 _ _ [] [] I C n c z = _ from rfl)⟩
    · exact ⟨3, rfl, by decide, run_det (show run k 153 _ _ [] [] I C n c z = some x from h) (show run 2 153 _ _ [] [] I C n c z = _ from rfl)⟩
def tE_take : Nat → Option Int := fun E => bif Nat.beq E 0 then some 1 else bif Nat.beq E 2 then some 2 else none
def Fv_take : Int → Int := fun v => v
theorem ex_take {a : Int} {I : IT} {cc : Nat → Option Nat} {n c z : Nat} (F : FI I cc) : ∃ k o I1 cc1 c1 z1, run k 18 0 (ini 18 (vr 0 0 :: List.map vi [a])) [] [] I (Cs cc) n c z = some (o, I1, Cs cc1, n, c1, z1) ∧ c1 ≤ c + 1 ∧ z1 ≤ z + 6 ∧ (∀ f i j, 27 ≤ f → ¬ f = 59 → I1 f i j = I f i j) ∧ Sm I1 cc1 (OP (taT I a) (taZ I a) I) ∧ Oc tE_take Fv_take (OP (taT I a) (taZ I a) I) (OV (taT I a) (taV I a)) o := by
  refine ext (w := 154) (pcw := 4) (lsw := [some (vr 0 0), some (vi a), some (vr 59 0), none]) (j0 := 5) (fun out h => cl_take F h) (fun k => rfl) (fun v k I C n c z x h => ?_) (fun v I C n c z => ?_) (fun E k I C n c z x h => ?_)
  · rcases v with _ | (v | v | v)
    · rcases k with _ | _ | _ | _ | k <;> exact nomatch (show (none : Option ou) = some x from h)
    · exact ⟨v, rfl⟩
    · rcases k with _ | _ | k <;> exact nomatch (show (none : Option ou) = some x from h)
    · rcases k with _ | _ | k <;> exact nomatch (show (none : Option ou) = some x from h)
  · exact ⟨5, rfl⟩
  · rcases E with _ | _ | E
    · exact ⟨1, rfl, by decide, run_det (show run k 154 _ _ [] [] I C n c z = some x from h) (show run 2 154 _ _ [] [] I C n c z = _ from rfl)⟩
    · exact nomatch (show (none : Option ou) = some x from h)
    · exact ⟨2, rfl, by decide, run_det (show run k 154 _ _ [] [] I C n c z = some x from h) (show run 2 154 _ _ [] [] I C n c z = _ from rfl)⟩
def tE_ofParcel : Nat → Option Int := fun E => bif Nat.beq E 0 then some 1 else none
def Fv_ofParcel : Int → Int := fun v => v
theorem ex_ofParcel {a b : Int} {I : IT} {cc : Nat → Option Nat} {n c z : Nat} (F : FI I cc) : ∃ k o I1 cc1 c1 z1, run k 19 0 (ini 19 (vr 0 0 :: List.map vi [a, b])) [] [] I (Cs cc) n c z = some (o, I1, Cs cc1, n, c1, z1) ∧ c1 ≤ c + 1 ∧ z1 ≤ z + 6 ∧ (∀ f i j, 27 ≤ f → ¬ f = 59 → I1 f i j = I f i j) ∧ Sm I1 cc1 (OP (opT I a b) (Zq I) I) ∧ Oc tE_ofParcel Fv_ofParcel (OP (opT I a b) (Zq I) I) (OV (opT I a b) (opV I a b)) o := by
  refine ext (w := 155) (pcw := 5) (lsw := [some (vr 0 0), some (vi a), some (vi b), some (vr 59 0), none]) (j0 := 6) (fun out h => cl_ofParcel F h) (fun k => rfl) (fun v k I C n c z x h => ?_) (fun v I C n c z => ?_) (fun E k I C n c z x h => ?_)
  · rcases v with _ | (v | v | v)
    · rcases k with _ | _ | _ | _ | k <;> exact nomatch (show (none : Option ou) = some x from h)
    · exact ⟨v, rfl⟩
    · rcases k with _ | _ | k <;> exact nomatch (show (none : Option ou) = some x from h)
    · rcases k with _ | _ | k <;> exact nomatch (show (none : Option ou) = some x from h)
  · exact ⟨5, rfl⟩
  · rcases E with _ | _ | E
    · exact ⟨1, rfl, by decide, run_det (show run k 155 _ _ [] [] I C n c z = some x from h) (show run 2 155 _ _ [] [] I C n c z = _ from rfl)⟩
    · exact nomatch (show (none : Option ou) = some x from h)
    · exact nomatch (show (none : Option ou) = some x from h)
def tE_free : Nat → Option Int := fun E => bif Nat.beq E 0 then some 1 else none
def Fv_free : Int → Int := fun v => v
theorem ex_free {a b : Int} {I : IT} {cc : Nat → Option Nat} {n c z : Nat} (F : FI I cc) : ∃ k o I1 cc1 c1 z1, run k 20 0 (ini 20 (vr 0 0 :: List.map vi [a, b])) [] [] I (Cs cc) n c z = some (o, I1, Cs cc1, n, c1, z1) ∧ c1 ≤ c + 1 ∧ z1 ≤ z + 6 ∧ (∀ f i j, 27 ≤ f → ¬ f = 59 → I1 f i j = I f i j) ∧ Sm I1 cc1 (OP (frT I a b) (Zq I) I) ∧ Oc tE_free Fv_free (OP (frT I a b) (Zq I) I) (OV (frT I a b) (frV I a b)) o := by
  refine ext (w := 156) (pcw := 5) (lsw := [some (vr 0 0), some (vi a), some (vi b), some (vr 59 0), none]) (j0 := 6) (fun out h => cl_free F h) (fun k => rfl) (fun v k I C n c z x h => ?_) (fun v I C n c z => ?_) (fun E k I C n c z x h => ?_)
  · rcases v with _ | (v | v | v)
    · rcases k with _ | _ | _ | _ | k <;> exact nomatch (show (none : Option ou) = some x from h)
    · exact ⟨v, rfl⟩
    · rcases k with _ | _ | k <;> exact nomatch (show (none : Option ou) = some x from h)
    · rcases k with _ | _ | k <;> exact nomatch (show (none : Option ou) = some x from h)
  · exact ⟨5, rfl⟩
  · rcases E with _ | _ | E
    · exact ⟨1, rfl, by decide, run_det (show run k 156 _ _ [] [] I C n c z = some x from h) (show run 2 156 _ _ [] [] I C n c z = _ from rfl)⟩
    · exact nomatch (show (none : Option ou) = some x from h)
    · exact nomatch (show (none : Option ou) = some x from h)
def tE_pass : Nat → Option Int := fun E => bif Nat.beq E 1 then some 1 else bif Nat.beq E 2 then some 2 else none
def Fv_pass : Int → Int := fun v => v
theorem ex_pass {a : Int} {I : IT} {cc : Nat → Option Nat} {n c z : Nat} (F : FI I cc) : ∃ k o I1 cc1 c1 z1, run k 21 0 (ini 21 (vr 0 0 :: List.map vi [a])) [] [] I (Cs cc) n c z = some (o, I1, Cs cc1, n, c1, z1) ∧ c1 ≤ c + 1 ∧ z1 ≤ z + 6 ∧ (∀ f i j, 27 ≤ f → ¬ f = 59 → I1 f i j = I f i j) ∧ Sm I1 cc1 (OP (paT I a) (paZ I a) I) ∧ Oc tE_pass Fv_pass (OP (paT I a) (paZ I a) I) (OV (paT I a) (paV I a)) o := by
  refine ext (w := 157) (pcw := 4) (lsw := [some (vr 0 0), some (vi a), some (vr 59 0), none]) (j0 := 5) (fun out h => cl_pass F h) (fun k => rfl) (fun v k I C n c z x h => ?_) (fun v I C n c z => ?_) (fun E k I C n c z x h => ?_)
  · rcases v with _ | (v | v | v)
    · rcases k with _ | _ | _ | _ | k <;> exact nomatch (show (none : Option ou) = some x from h)
    · exact ⟨v, rfl⟩
    · rcases k with _ | _ | k <;> exact nomatch (show (none : Option ou) = some x from h)
    · rcases k with _ | _ | k <;> exact nomatch (show (none : Option ou) = some x from h)
  · exact ⟨5, rfl⟩
  · rcases E with _ | _ | E
    · exact nomatch (show (none : Option ou) = some x from h)
    · exact ⟨1, rfl, by decide, run_det (show run k 157 _ _ [] [] I C n c z = some x from h) (show run 2 157 _ _ [] [] I C n c z = _ from rfl)⟩
    · exact ⟨2, rfl, by decide, run_det (show run k 157 _ _ [] [] I C n c z = some x from h) (show run 2 157 _ _ [] [] I C n c z = _ from rfl)⟩
def tE_count : Nat → Option Int := fun E => bif Nat.beq E 1 then some 1 else none
def Fv_count : Int → Int := fun v => v
theorem ex_count {a : Int} {I : IT} {cc : Nat → Option Nat} {n c z : Nat} (F : FI I cc) : ∃ k o I1 cc1 c1 z1, run k 22 0 (ini 22 (vr 0 0 :: List.map vi [a])) [] [] I (Cs cc) n c z = some (o, I1, Cs cc1, n, c1, z1) ∧ c1 ≤ c + 1 ∧ z1 ≤ z + 6 ∧ (∀ f i j, 27 ≤ f → ¬ f = 59 → I1 f i j = I f i j) ∧ Sm I1 cc1 (OP (coT a) (Zq I) I) ∧ Oc tE_count Fv_count (OP (coT a) (Zq I) I) (OV (coT a) (coV I a)) o := by
  refine ext (w := 158) (pcw := 4) (lsw := [some (vr 0 0), some (vi a), some (vr 59 0), none]) (j0 := 5) (fun out h => cl_count F h) (fun k => rfl) (fun v k I C n c z x h => ?_) (fun v I C n c z => ?_) (fun E k I C n c z x h => ?_)
  · rcases v with _ | (v | v | v)
    · rcases k with _ | _ | _ | _ | k <;> exact nomatch (show (none : Option ou) = some x from h)
    · exact ⟨v, rfl⟩
    · rcases k with _ | _ | k <;> exact nomatch (show (none : Option ou) = some x from h)
    · rcases k with _ | _ | k <;> exact nomatch (show (none : Option ou) = some x from h)
  · exact ⟨5, rfl⟩
  · rcases E with _ | _ | E
    · exact nomatch (show (none : Option ou) = some x from h)
    · exact ⟨1, rfl, by decide, run_det (show run k 158 _ _ [] [] I C n c z = some x from h) (show run 2 158 _ _ [] [] I C n c z = _ from rfl)⟩
    · exact nomatch (show (none : Option ou) = some x from h)
theorem ok_place : OKm plS plV := ⟨fun S S2 h => pl_M h, fun S V => VI_place V, fun S f i j q => by
  unfold plS
  split
  · exact up3_nf (by omega)
  · rw [up3_nf (by omega), up3_nf (by omega)]⟩
def plT (S : IT) : Int := if S 27 0 1 = 12 then 1 else 0
def plZ (S : IT) : IT := up3 (up3 S 27 0 41 0) 27 0 1 (wr (S 27 0 1 + 1))
theorem plS_O {S : IT} : plS S = OP (plT S) (plZ S) S := by
  unfold plS plT
  by_cases g : S 27 0 1 = 12
  · rw [if_pos g, if_pos g, OP1 (by omega)]
  · rw [if_neg g, if_neg g, OP0 rfl]; rfl
theorem plV_O {S : IT} : plV S = OV (plT S) (wr (wr (S 27 0 1 + 1) - 1)) := by
  unfold plV plT OV
  by_cases g : S 27 0 1 = 12
  · rw [if_pos g, if_pos g, if_neg (by omega)]
  · rw [if_neg g, if_neg g, if_pos rfl]
theorem z0_place {S : IT} : (plZ S) 27 0 41 = 0 := by
  unfold plZ
  rw [up3_no (by omega)]
  exact up3_eq
theorem ct_place {I : IT} {cc : Nat → Option Nat} {S : IT} {n c z : Nat} (F : FS I cc S) : ∃ k o I1 cc1 c1 z1, run k 1 0 (ini 1 (vr 0 0 :: List.map vi [])) [] [] I (Cs cc) n c z = some (o, I1, Cs cc1, n, c1, z1) ∧ c1 ≤ c + 1 ∧ z1 ≤ z + 6 ∧ (∀ f i j, 59 < f → I1 f i j = I f i j) ∧ ((plT S = 0 ∧ FS I1 cc1 (plZ S) ∧ ∃ v, o = Sum.inl (some (vi v)) ∧ Fv_place v = wr (wr (S 27 0 1 + 1) - 1)) ∨ (¬ plT S = 0 ∧ FS I1 cc1 S ∧ ∃ E, o = Sum.inr E ∧ tE_place (mE E) = some (plT S))) := by
  have h := ct (n := n) (c := c) (z := z) ok_place F (fun I0 F0 => ex_place F0)
  rw [plS_O, plV_O] at h
  exact ctO F.2 (fun _ => z0_place) h
def sT_place (S : IT) : List Int → Option Int
  | [] => some (plT S)
  | _ => none
def sZ_place (S : IT) : List Int → IT := fun _ => plZ S
def sV_place (S : IT) : List Int → Int
  | [] => wr (wr (S 27 0 1 + 1) - 1)
  | _ => 0
theorem z0_join {a b d : Int} {S : IT} : (joZ S a b d) 27 0 41 = 0 := by
  unfold joZ jn
  rw [if_neg (by omega), up3_no (by omega)]
  exact up3_eq
theorem ct_join {a b d : Int} {I : IT} {cc : Nat → Option Nat} {S : IT} {n c z : Nat} (F : FS I cc S) : ∃ k o I1 cc1 c1 z1, run k 2 0 (ini 2 (vr 0 0 :: List.map vi [a, b, d])) [] [] I (Cs cc) n c z = some (o, I1, Cs cc1, n, c1, z1) ∧ c1 ≤ c + 1 ∧ z1 ≤ z + 6 ∧ (∀ f i j, 59 < f → I1 f i j = I f i j) ∧ ((joT S a b d = 0 ∧ FS I1 cc1 (joZ S a b d) ∧ ∃ v, o = Sum.inl (some (vi v)) ∧ Fv_join v = S 27 0 2 + 1) ∨ (¬ joT S a b d = 0 ∧ FS I1 cc1 S ∧ ∃ E, o = Sum.inr E ∧ tE_join (mE E) = some (joT S a b d))) := by
  have h := ct (n := n) (c := c) (z := z) (ok_join a b d) F (fun I0 F0 => ex_join F0)
  exact ctO F.2 (fun _ => z0_join) h
def sT_join (S : IT) : List Int → Option Int
  | [a, b, d] => some (joT S a b d)
  | _ => none
def sZ_join (S : IT) : List Int → IT
  | [a, b, d] => joZ S a b d
  | _ => S
def sV_join (S : IT) : List Int → Int
  | [_, _, _] => S 27 0 2 + 1
  | _ => 0
theorem z0_street {S : IT} : (stZ S) 27 0 41 = 0 := by
  unfold stZ
  repeat rw [up3_no (by omega)]
  exact up3_eq
theorem ct_street {I : IT} {cc : Nat → Option Nat} {S : IT} {n c z : Nat} (F : FS I cc S) : ∃ k o I1 cc1 c1 z1, run k 3 0 (ini 3 (vr 0 0 :: List.map vi [])) [] [] I (Cs cc) n c z = some (o, I1, Cs cc1, n, c1, z1) ∧ c1 ≤ c + 1 ∧ z1 ≤ z + 6 ∧ (∀ f i j, 59 < f → I1 f i j = I f i j) ∧ ((stT S = 0 ∧ FS I1 cc1 (stZ S) ∧ ∃ v, o = Sum.inl (some (vi v)) ∧ Fv_street v = S 27 0 4) ∨ (¬ stT S = 0 ∧ FS I1 cc1 S ∧ ∃ E, o = Sum.inr E ∧ tE_street (mE E) = some (stT S))) := by
  have h := ct (n := n) (c := c) (z := z) ok_street F (fun I0 F0 => ex_street F0)
  exact ctO F.2 (fun _ => z0_street) h
def sT_street (S : IT) : List Int → Option Int
  | [] => some (stT S)
  | _ => none
def sZ_street (S : IT) : List Int → IT := fun _ => stZ S
def sV_street (S : IT) : List Int → Int
  | [] => S 27 0 4
  | _ => 0
theorem z0_span {a b d e : Int} {S : IT} : (spZ S a b d e) 27 0 41 = 0 := by
  unfold spZ
  repeat rw [up3_no (by omega)]
  exact up3_eq
theorem ct_span {a b d e : Int} {I : IT} {cc : Nat → Option Nat} {S : IT} {n c z : Nat} (F : FS I cc S) : ∃ k o I1 cc1 c1 z1, run k 4 0 (ini 4 (vr 0 0 :: List.map vi [a, b, d, e])) [] [] I (Cs cc) n c z = some (o, I1, Cs cc1, n, c1, z1) ∧ c1 ≤ c + 1 ∧ z1 ≤ z + 6 ∧ (∀ f i j, 59 < f → I1 f i j = I f i j) ∧ ((spT S a b d e = 0 ∧ FS I1 cc1 (spZ S a b d e) ∧ ∃ v, o = Sum.inl (some (vi v)) ∧ Fv_span v = S 29 0 a.toNat + 1) ∨ (¬ spT S a b d e = 0 ∧ FS I1 cc1 S ∧ ∃ E, o = Sum.inr E ∧ tE_span (mE E) = some (spT S a b d e))) := by
  have h := ct (n := n) (c := c) (z := z) (ok_span a b d e) F (fun I0 F0 => ex_span F0)
  exact ctO F.2 (fun _ => z0_span) h
def sT_span (S : IT) : List Int → Option Int
  | [a, b, d, e] => some (spT S a b d e)
  | _ => none
def sZ_span (S : IT) : List Int → IT
  | [a, b, d, e] => spZ S a b d e
  | _ => S
def sV_span (S : IT) : List Int → Int
  | [a, _, _, _] => S 29 0 a.toNat + 1
  | _ => 0
theorem z0_name {a b : Int} {S : IT} : (nmZ S a b) 27 0 41 = 0 := by
  unfold nmZ nm0
  split <;> (repeat rw [up3_no (by omega)]) <;> exact up3_eq
theorem ct_name {a b : Int} {I : IT} {cc : Nat → Option Nat} {S : IT} {n c z : Nat} (F : FS I cc S) : ∃ k o I1 cc1 c1 z1, run k 5 0 (ini 5 (vr 0 0 :: List.map vi [a, b])) [] [] I (Cs cc) n c z = some (o, I1, Cs cc1, n, c1, z1) ∧ c1 ≤ c + 1 ∧ z1 ≤ z + 6 ∧ (∀ f i j, 59 < f → I1 f i j = I f i j) ∧ ((nmT S a b = 0 ∧ FS I1 cc1 (nmZ S a b) ∧ ∃ v, o = Sum.inl (some (vi v)) ∧ Fv_name v = bn S a.toNat (nn S)) ∨ (¬ nmT S a b = 0 ∧ FS I1 cc1 S ∧ ∃ E, o = Sum.inr E ∧ tE_name (mE E) = some (nmT S a b))) := by
  have h := ct (n := n) (c := c) (z := z) (ok_name a b) F (fun I0 F0 => ex_name F0)
  exact ctO F.2 (fun _ => z0_name) h
def sT_name (S : IT) : List Int → Option Int
  | [a, b] => some (nmT S a b)
  | _ => none
def sZ_name (S : IT) : List Int → IT
  | [a, b] => nmZ S a b
  | _ => S
def sV_name (S : IT) : List Int → Int
  | [a, _] => bn S a.toNat (nn S)
  | _ => 0
theorem z0_same {a b : Int} {S : IT} : (saZ S a b) 27 0 41 = 0 := by
  unfold saZ
  split <;> first | exact up3_eq | (unfold un; rw [if_neg (by omega)]; exact up3_eq)
theorem ct_same {a b : Int} {I : IT} {cc : Nat → Option Nat} {S : IT} {n c z : Nat} (F : FS I cc S) : ∃ k o I1 cc1 c1 z1, run k 6 0 (ini 6 (vr 0 0 :: List.map vi [a, b])) [] [] I (Cs cc) n c z = some (o, I1, Cs cc1, n, c1, z1) ∧ c1 ≤ c + 1 ∧ z1 ≤ z + 6 ∧ (∀ f i j, 59 < f → I1 f i j = I f i j) ∧ ((saT a b = 0 ∧ FS I1 cc1 (saZ S a b) ∧ ∃ v, o = Sum.inl (some (vi v)) ∧ Fv_same v = saV S a b) ∨ (¬ saT a b = 0 ∧ FS I1 cc1 S ∧ ∃ E, o = Sum.inr E ∧ tE_same (mE E) = some (saT a b))) := by
  have h := ct (n := n) (c := c) (z := z) (ok_same a b) F (fun I0 F0 => ex_same F0)
  exact ctO F.2 (fun _ => z0_same) h
def sT_same (_ : IT) : List Int → Option Int
  | [a, b] => some (saT a b)
  | _ => none
def sZ_same (S : IT) : List Int → IT
  | [a, b] => saZ S a b
  | _ => S
def sV_same (S : IT) : List Int → Int
  | [a, b] => saV S a b
  | _ => 0
theorem z0_leads {a b : Int} {S : IT} : (ldZ S a b) 27 0 41 = 0 := by
  unfold ldZ
  repeat rw [up3_no (by omega)]
  exact up3_eq
theorem ct_leads {a b : Int} {I : IT} {cc : Nat → Option Nat} {S : IT} {n c z : Nat} (F : FS I cc S) : ∃ k o I1 cc1 c1 z1, run k 7 0 (ini 7 (vr 0 0 :: List.map vi [a, b])) [] [] I (Cs cc) n c z = some (o, I1, Cs cc1, n, c1, z1) ∧ c1 ≤ c + 1 ∧ z1 ≤ z + 6 ∧ (∀ f i j, 59 < f → I1 f i j = I f i j) ∧ ((ldT a b = 0 ∧ FS I1 cc1 (S) ∧ ∃ v, o = Sum.inl (some (vi v)) ∧ Fv_leads v = ld S a b) ∨ (¬ ldT a b = 0 ∧ FS I1 cc1 S ∧ ∃ E, o = Sum.inr E ∧ tE_leads (mE E) = some (ldT a b))) := by
  have h := ct (n := n) (c := c) (z := z) (ok_leads a b) F (fun I0 F0 => ex_leads F0)
  obtain ⟨k, o, I1, cc1, c1, z1, h1, h2, h3, h4, h5⟩ := ctO F.2 (fun _ => z0_leads) h
  refine ⟨k, o, I1, cc1, c1, z1, h1, h2, h3, h4, h5.imp (fun q => ⟨q.1, q.2.1.N (fun f i j q1 q2 q3 => ?_), q.2.2⟩) id⟩
  show S f i j = ldZ S a b f i j
  unfold ldZ
  repeat rw [up3_no (by omega)]
def sT_leads (_ : IT) : List Int → Option Int
  | [a, b] => some (ldT a b)
  | _ => none
def sZ_leads (S : IT) : List Int → IT
  | [_, _] => S
  | _ => S
def sV_leads (S : IT) : List Int → Int
  | [a, b] => ld S a b
  | _ => 0
theorem z0_leadsAnew {a b : Int} {S : IT} : (ldZ S a b) 27 0 41 = 0 := by
  unfold ldZ
  repeat rw [up3_no (by omega)]
  exact up3_eq
theorem ct_leadsAnew {a b : Int} {I : IT} {cc : Nat → Option Nat} {S : IT} {n c z : Nat} (F : FS I cc S) : ∃ k o I1 cc1 c1 z1, run k 8 0 (ini 8 (vr 0 0 :: List.map vi [a, b])) [] [] I (Cs cc) n c z = some (o, I1, Cs cc1, n, c1, z1) ∧ c1 ≤ c + 1 ∧ z1 ≤ z + 6 ∧ (∀ f i j, 59 < f → I1 f i j = I f i j) ∧ ((ldT a b = 0 ∧ FS I1 cc1 (S) ∧ ∃ v, o = Sum.inl (some (vi v)) ∧ Fv_leadsAnew v = ld S a b) ∨ (¬ ldT a b = 0 ∧ FS I1 cc1 S ∧ ∃ E, o = Sum.inr E ∧ tE_leadsAnew (mE E) = some (ldT a b))) := by
  have h := ct (n := n) (c := c) (z := z) (ok_leads a b) F (fun I0 F0 => ex_leadsAnew F0)
  obtain ⟨k, o, I1, cc1, c1, z1, h1, h2, h3, h4, h5⟩ := ctO F.2 (fun _ => z0_leadsAnew) h
  refine ⟨k, o, I1, cc1, c1, z1, h1, h2, h3, h4, h5.imp (fun q => ⟨q.1, q.2.1.N (fun f i j q1 q2 q3 => ?_), q.2.2⟩) id⟩
  show S f i j = ldZ S a b f i j
  unfold ldZ
  repeat rw [up3_no (by omega)]
def sT_leadsAnew (_ : IT) : List Int → Option Int
  | [a, b] => some (ldT a b)
  | _ => none
def sZ_leadsAnew (S : IT) : List Int → IT
  | [_, _] => S
  | _ => S
def sV_leadsAnew (S : IT) : List Int → Int
  | [a, b] => ld S a b
  | _ => 0
theorem z0_placeOf {S : IT} : (Zq S) 27 0 41 = 0 := up3_eq
theorem ct_placeOf {a b : Int} {I : IT} {cc : Nat → Option Nat} {S : IT} {n c z : Nat} (F : FS I cc S) : ∃ k o I1 cc1 c1 z1, run k 9 0 (ini 9 (vr 0 0 :: List.map vi [a, b])) [] [] I (Cs cc) n c z = some (o, I1, Cs cc1, n, c1, z1) ∧ c1 ≤ c + 1 ∧ z1 ≤ z + 6 ∧ (∀ f i j, 59 < f → I1 f i j = I f i j) ∧ ((poT S a b = 0 ∧ FS I1 cc1 (S) ∧ ∃ v, o = Sum.inl (some (vi v)) ∧ Fv_placeOf v = plc S a.toNat b) ∨ (¬ poT S a b = 0 ∧ FS I1 cc1 S ∧ ∃ E, o = Sum.inr E ∧ tE_placeOf (mE E) = some (poT S a b))) := by
  have h := ct (n := n) (c := c) (z := z) (ok_placeOf a b) F (fun I0 F0 => ex_placeOf F0)
  obtain ⟨k, o, I1, cc1, c1, z1, h1, h2, h3, h4, h5⟩ := ctO F.2 (fun _ => z0_placeOf) h
  refine ⟨k, o, I1, cc1, c1, z1, h1, h2, h3, h4, h5.imp (fun q => ⟨q.1, q.2.1.N (fun f i j q1 q2 q3 => ?_), q.2.2⟩) id⟩
  exact (up3_no (by omega)).symm
def sT_placeOf (S : IT) : List Int → Option Int
  | [a, b] => some (poT S a b)
  | _ => none
def sZ_placeOf (S : IT) : List Int → IT
  | [_, _] => S
  | _ => S
def sV_placeOf (S : IT) : List Int → Int
  | [a, b] => plc S a.toNat b
  | _ => 0
theorem z0_way {S : IT} : (Zq S) 27 0 41 = 0 := up3_eq
theorem ct_way {a b : Int} {I : IT} {cc : Nat → Option Nat} {S : IT} {n c z : Nat} (F : FS I cc S) : ∃ k o I1 cc1 c1 z1, run k 10 0 (ini 10 (vr 0 0 :: List.map vi [a, b])) [] [] I (Cs cc) n c z = some (o, I1, Cs cc1, n, c1, z1) ∧ c1 ≤ c + 1 ∧ z1 ≤ z + 6 ∧ (∀ f i j, 59 < f → I1 f i j = I f i j) ∧ ((wyT S a b = 0 ∧ FS I1 cc1 (S) ∧ ∃ v, o = Sum.inl (some (vi v)) ∧ Fv_way v = btw S a b) ∨ (¬ wyT S a b = 0 ∧ FS I1 cc1 S ∧ ∃ E, o = Sum.inr E ∧ tE_way (mE E) = some (wyT S a b))) := by
  have h := ct (n := n) (c := c) (z := z) (ok_way a b) F (fun I0 F0 => ex_way F0)
  obtain ⟨k, o, I1, cc1, c1, z1, h1, h2, h3, h4, h5⟩ := ctO F.2 (fun _ => z0_way) h
  refine ⟨k, o, I1, cc1, c1, z1, h1, h2, h3, h4, h5.imp (fun q => ⟨q.1, q.2.1.N (fun f i j q1 q2 q3 => ?_), q.2.2⟩) id⟩
  exact (up3_no (by omega)).symm
def sT_way (S : IT) : List Int → Option Int
  | [a, b] => some (wyT S a b)
  | _ => none
def sZ_way (S : IT) : List Int → IT
  | [_, _] => S
  | _ => S
def sV_way (S : IT) : List Int → Int
  | [a, b] => btw S a b
  | _ => 0
theorem z0_car {a : Int} {S : IT} : (caZ S a) 27 0 41 = 0 := by
  unfold caZ
  repeat rw [up3_no (by omega)]
  exact up3_eq
theorem ct_car {a : Int} {I : IT} {cc : Nat → Option Nat} {S : IT} {n c z : Nat} (F : FS I cc S) : ∃ k o I1 cc1 c1 z1, run k 11 0 (ini 11 (vr 0 0 :: List.map vi [a])) [] [] I (Cs cc) n c z = some (o, I1, Cs cc1, n, c1, z1) ∧ c1 ≤ c + 1 ∧ z1 ≤ z + 6 ∧ (∀ f i j, 59 < f → I1 f i j = I f i j) ∧ ((caT S a = 0 ∧ FS I1 cc1 (caZ S a) ∧ ∃ v, o = Sum.inl (some (vi v)) ∧ Fv_car v = S 27 0 14) ∨ (¬ caT S a = 0 ∧ FS I1 cc1 S ∧ ∃ E, o = Sum.inr E ∧ tE_car (mE E) = some (caT S a))) := by
  have h := ct (n := n) (c := c) (z := z) (ok_car a) F (fun I0 F0 => ex_car F0)
  exact ctO F.2 (fun _ => z0_car) h
def sT_car (S : IT) : List Int → Option Int
  | [a] => some (caT S a)
  | _ => none
def sZ_car (S : IT) : List Int → IT
  | [a] => caZ S a
  | _ => S
def sV_car (S : IT) : List Int → Int
  | [_] => S 27 0 14
  | _ => 0
theorem z0_call {a b : Int} {S : IT} : (sends (clW S a b)) 27 0 41 = 0 := by
  rw [sends_no (by decide) (by decide) (by decide) (by decide) (by decide) (by decide)]; unfold clW ldZ
  repeat rw [up3_no (by omega)]
  exact up3_eq
theorem ct_call {a b : Int} {I : IT} {cc : Nat → Option Nat} {S : IT} {n c z : Nat} (F : FS I cc S) : ∃ k o I1 cc1 c1 z1, run k 12 0 (ini 12 (vr 0 0 :: List.map vi [a, b])) [] [] I (Cs cc) n c z = some (o, I1, Cs cc1, n, c1, z1) ∧ c1 ≤ c + 1 ∧ z1 ≤ z + 6 ∧ (∀ f i j, 59 < f → I1 f i j = I f i j) ∧ ((clT S a b = 0 ∧ FS I1 cc1 (sends (clW S a b)) ∧ ∃ v, o = Sum.inl (some (vi v)) ∧ Fv_call v = S 27 0 18) ∨ (¬ clT S a b = 0 ∧ FS I1 cc1 S ∧ ∃ E, o = Sum.inr E ∧ tE_call (mE E) = some (clT S a b))) := by
  have h := ct (n := n) (c := c) (z := z) (ok_call a b) F (fun I0 F0 => ex_call F0)
  exact ctO F.2 (fun _ => z0_call) h
def sT_call (S : IT) : List Int → Option Int
  | [a, b] => some (clT S a b)
  | _ => none
def sZ_call (S : IT) : List Int → IT
  | [a, b] => sends (clW S a b)
  | _ => S
def sV_call (S : IT) : List Int → Int
  | [_, _] => S 27 0 18
  | _ => 0
theorem z0_clear {a b : Int} {S : IT} : (sends (crW S a b)) 27 0 41 = 0 := by
  rw [sends_no (by decide) (by decide) (by decide) (by decide) (by decide) (by decide)]; unfold crW
  repeat rw [up3_no (by omega)]
  exact up3_eq
theorem ct_clear {a b : Int} {I : IT} {cc : Nat → Option Nat} {S : IT} {n c z : Nat} (F : FS I cc S) : ∃ k o I1 cc1 c1 z1, run k 13 0 (ini 13 (vr 0 0 :: List.map vi [a, b])) [] [] I (Cs cc) n c z = some (o, I1, Cs cc1, n, c1, z1) ∧ c1 ≤ c + 1 ∧ z1 ≤ z + 6 ∧ (∀ f i j, 59 < f → I1 f i j = I f i j) ∧ ((crT S a b = 0 ∧ FS I1 cc1 (sends (crW S a b)) ∧ ∃ v, o = Sum.inl (some (vi v)) ∧ Fv_clear v = crV S a b) ∨ (¬ crT S a b = 0 ∧ FS I1 cc1 S ∧ ∃ E, o = Sum.inr E ∧ tE_clear (mE E) = some (crT S a b))) := by
  have h := ct (n := n) (c := c) (z := z) (ok_clear a b) F (fun I0 F0 => ex_clear F0)
  exact ctO F.2 (fun _ => z0_clear) h
def sT_clear (S : IT) : List Int → Option Int
  | [a, b] => some (crT S a b)
  | _ => none
def sZ_clear (S : IT) : List Int → IT
  | [a, b] => sends (crW S a b)
  | _ => S
def sV_clear (S : IT) : List Int → Int
  | [a, b] => crV S a b
  | _ => 0
theorem z0_ofCall {S : IT} : (Zq S) 27 0 41 = 0 := up3_eq
theorem ct_ofCall {a b : Int} {I : IT} {cc : Nat → Option Nat} {S : IT} {n c z : Nat} (F : FS I cc S) : ∃ k o I1 cc1 c1 z1, run k 14 0 (ini 14 (vr 0 0 :: List.map vi [a, b])) [] [] I (Cs cc) n c z = some (o, I1, Cs cc1, n, c1, z1) ∧ c1 ≤ c + 1 ∧ z1 ≤ z + 6 ∧ (∀ f i j, 59 < f → I1 f i j = I f i j) ∧ ((ocT S a b = 0 ∧ FS I1 cc1 (S) ∧ ∃ v, o = Sum.inl (some (vi v)) ∧ Fv_ofCall v = ocV S a b) ∨ (¬ ocT S a b = 0 ∧ FS I1 cc1 S ∧ ∃ E, o = Sum.inr E ∧ tE_ofCall (mE E) = some (ocT S a b))) := by
  have h := ct (n := n) (c := c) (z := z) (ok_ofCall a b) F (fun I0 F0 => ex_ofCall F0)
  obtain ⟨k, o, I1, cc1, c1, z1, h1, h2, h3, h4, h5⟩ := ctO F.2 (fun _ => z0_ofCall) h
  refine ⟨k, o, I1, cc1, c1, z1, h1, h2, h3, h4, h5.imp (fun q => ⟨q.1, q.2.1.N (fun f i j q1 q2 q3 => ?_), q.2.2⟩) id⟩
  exact (up3_no (by omega)).symm
def sT_ofCall (S : IT) : List Int → Option Int
  | [a, b] => some (ocT S a b)
  | _ => none
def sZ_ofCall (S : IT) : List Int → IT
  | [_, _] => S
  | _ => S
def sV_ofCall (S : IT) : List Int → Int
  | [a, b] => ocV S a b
  | _ => 0
theorem z0_ofCar {S : IT} : (Zq S) 27 0 41 = 0 := up3_eq
theorem ct_ofCar {a b : Int} {I : IT} {cc : Nat → Option Nat} {S : IT} {n c z : Nat} (F : FS I cc S) : ∃ k o I1 cc1 c1 z1, run k 15 0 (ini 15 (vr 0 0 :: List.map vi [a, b])) [] [] I (Cs cc) n c z = some (o, I1, Cs cc1, n, c1, z1) ∧ c1 ≤ c + 1 ∧ z1 ≤ z + 6 ∧ (∀ f i j, 59 < f → I1 f i j = I f i j) ∧ ((orT S a b = 0 ∧ FS I1 cc1 (S) ∧ ∃ v, o = Sum.inl (some (vi v)) ∧ Fv_ofCar v = orV S a b) ∨ (¬ orT S a b = 0 ∧ FS I1 cc1 S ∧ ∃ E, o = Sum.inr E ∧ tE_ofCar (mE E) = some (orT S a b))) := by
  have h := ct (n := n) (c := c) (z := z) (ok_ofCar a b) F (fun I0 F0 => ex_ofCar F0)
  obtain ⟨k, o, I1, cc1, c1, z1, h1, h2, h3, h4, h5⟩ := ctO F.2 (fun _ => z0_ofCar) h
  refine ⟨k, o, I1, cc1, c1, z1, h1, h2, h3, h4, h5.imp (fun q => ⟨q.1, q.2.1.N (fun f i j q1 q2 q3 => ?_), q.2.2⟩) id⟩
  exact (up3_no (by omega)).symm
def sT_ofCar (S : IT) : List Int → Option Int
  | [a, b] => some (orT S a b)
  | _ => none
def sZ_ofCar (S : IT) : List Int → IT
  | [_, _] => S
  | _ => S
def sV_ofCar (S : IT) : List Int → Int
  | [a, b] => orV S a b
  | _ => 0
theorem z0_locker {a b d e : Int} {S : IT} : (loZ S a b d e) 27 0 41 = 0 := by
  unfold loZ
  repeat rw [up3_no (by omega)]
  exact up3_eq
theorem ct_locker {a b d e : Int} {I : IT} {cc : Nat → Option Nat} {S : IT} {n c z : Nat} (F : FS I cc S) : ∃ k o I1 cc1 c1 z1, run k 16 0 (ini 16 (vr 0 0 :: List.map vi [a, b, d, e])) [] [] I (Cs cc) n c z = some (o, I1, Cs cc1, n, c1, z1) ∧ c1 ≤ c + 1 ∧ z1 ≤ z + 6 ∧ (∀ f i j, 59 < f → I1 f i j = I f i j) ∧ ((loT S a b d e = 0 ∧ FS I1 cc1 (loZ S a b d e) ∧ ∃ v, o = Sum.inl (some (vi v)) ∧ Fv_locker v = S 27 0 27) ∨ (¬ loT S a b d e = 0 ∧ FS I1 cc1 S ∧ ∃ E, o = Sum.inr E ∧ tE_locker (mE E) = some (loT S a b d e))) := by
  have h := ct (n := n) (c := c) (z := z) (ok_locker a b d e) F (fun I0 F0 => ex_locker F0)
  exact ctO F.2 (fun _ => z0_locker) h
def sT_locker (S : IT) : List Int → Option Int
  | [a, b, d, e] => some (loT S a b d e)
  | _ => none
def sZ_locker (S : IT) : List Int → IT
  | [a, b, d, e] => loZ S a b d e
  | _ => S
def sV_locker (S : IT) : List Int → Int
  | [_, _, _, _] => S 27 0 27
  | _ => 0
theorem z0_post {a b d : Int} {S : IT} : (psZ S a b d) 27 0 41 = 0 := by
  unfold psZ ps1
  repeat rw [up3_no (by omega)]
  exact up3_eq
theorem ct_post {a b d : Int} {I : IT} {cc : Nat → Option Nat} {S : IT} {n c z : Nat} (F : FS I cc S) : ∃ k o I1 cc1 c1 z1, run k 17 0 (ini 17 (vr 0 0 :: List.map vi [a, b, d])) [] [] I (Cs cc) n c z = some (o, I1, Cs cc1, n, c1, z1) ∧ c1 ≤ c + 1 ∧ z1 ≤ z + 6 ∧ (∀ f i j, 59 < f → I1 f i j = I f i j) ∧ ((psT S a b d = 0 ∧ FS I1 cc1 (psZ S a b d) ∧ ∃ v, o = Sum.inl (some (vi v)) ∧ Fv_post v = S 27 0 30) ∨ (¬ psT S a b d = 0 ∧ FS I1 cc1 S ∧ ∃ E, o = Sum.inr E ∧ tE_post (mE E) = some (psT S a b d))) := by
  have h := ct (n := n) (c := c) (z := z) (ok_post a b d) F (fun I0 F0 => ex_post F0)
  exact ctO F.2 (fun _ => z0_post) h
def sT_post (S : IT) : List Int → Option Int
  | [a, b, d] => some (psT S a b d)
  | _ => none
def sZ_post (S : IT) : List Int → IT
  | [a, b, d] => psZ S a b d
  | _ => S
def sV_post (S : IT) : List Int → Int
  | [_, _, _] => S 27 0 30
  | _ => 0
theorem z0_take {a : Int} {S : IT} : (taZ S a) 27 0 41 = 0 := by
  unfold taZ rem9
  repeat rw [up3_no (by omega)]
  exact up3_eq
theorem ct_take {a : Int} {I : IT} {cc : Nat → Option Nat} {S : IT} {n c z : Nat} (F : FS I cc S) : ∃ k o I1 cc1 c1 z1, run k 18 0 (ini 18 (vr 0 0 :: List.map vi [a])) [] [] I (Cs cc) n c z = some (o, I1, Cs cc1, n, c1, z1) ∧ c1 ≤ c + 1 ∧ z1 ≤ z + 6 ∧ (∀ f i j, 59 < f → I1 f i j = I f i j) ∧ ((taT S a = 0 ∧ FS I1 cc1 (taZ S a) ∧ ∃ v, o = Sum.inl (some (vi v)) ∧ Fv_take v = taV S a) ∨ (¬ taT S a = 0 ∧ FS I1 cc1 S ∧ ∃ E, o = Sum.inr E ∧ tE_take (mE E) = some (taT S a))) := by
  have h := ct (n := n) (c := c) (z := z) (ok_take a) F (fun I0 F0 => ex_take F0)
  exact ctO F.2 (fun _ => z0_take) h
def sT_take (S : IT) : List Int → Option Int
  | [a] => some (taT S a)
  | _ => none
def sZ_take (S : IT) : List Int → IT
  | [a] => taZ S a
  | _ => S
def sV_take (S : IT) : List Int → Int
  | [a] => taV S a
  | _ => 0
theorem z0_ofParcel {S : IT} : (Zq S) 27 0 41 = 0 := up3_eq
theorem ct_ofParcel {a b : Int} {I : IT} {cc : Nat → Option Nat} {S : IT} {n c z : Nat} (F : FS I cc S) : ∃ k o I1 cc1 c1 z1, run k 19 0 (ini 19 (vr 0 0 :: List.map vi [a, b])) [] [] I (Cs cc) n c z = some (o, I1, Cs cc1, n, c1, z1) ∧ c1 ≤ c + 1 ∧ z1 ≤ z + 6 ∧ (∀ f i j, 59 < f → I1 f i j = I f i j) ∧ ((opT S a b = 0 ∧ FS I1 cc1 (S) ∧ ∃ v, o = Sum.inl (some (vi v)) ∧ Fv_ofParcel v = opV S a b) ∨ (¬ opT S a b = 0 ∧ FS I1 cc1 S ∧ ∃ E, o = Sum.inr E ∧ tE_ofParcel (mE E) = some (opT S a b))) := by
  have h := ct (n := n) (c := c) (z := z) (ok_ofParcel a b) F (fun I0 F0 => ex_ofParcel F0)
  obtain ⟨k, o, I1, cc1, c1, z1, h1, h2, h3, h4, h5⟩ := ctO F.2 (fun _ => z0_ofParcel) h
  refine ⟨k, o, I1, cc1, c1, z1, h1, h2, h3, h4, h5.imp (fun q => ⟨q.1, q.2.1.N (fun f i j q1 q2 q3 => ?_), q.2.2⟩) id⟩
  exact (up3_no (by omega)).symm
def sT_ofParcel (S : IT) : List Int → Option Int
  | [a, b] => some (opT S a b)
  | _ => none
def sZ_ofParcel (S : IT) : List Int → IT
  | [_, _] => S
  | _ => S
def sV_ofParcel (S : IT) : List Int → Int
  | [a, b] => opV S a b
  | _ => 0
theorem z0_free {S : IT} : (Zq S) 27 0 41 = 0 := up3_eq
theorem ct_free {a b : Int} {I : IT} {cc : Nat → Option Nat} {S : IT} {n c z : Nat} (F : FS I cc S) : ∃ k o I1 cc1 c1 z1, run k 20 0 (ini 20 (vr 0 0 :: List.map vi [a, b])) [] [] I (Cs cc) n c z = some (o, I1, Cs cc1, n, c1, z1) ∧ c1 ≤ c + 1 ∧ z1 ≤ z + 6 ∧ (∀ f i j, 59 < f → I1 f i j = I f i j) ∧ ((frT S a b = 0 ∧ FS I1 cc1 (S) ∧ ∃ v, o = Sum.inl (some (vi v)) ∧ Fv_free v = frV S a b) ∨ (¬ frT S a b = 0 ∧ FS I1 cc1 S ∧ ∃ E, o = Sum.inr E ∧ tE_free (mE E) = some (frT S a b))) := by
  have h := ct (n := n) (c := c) (z := z) (ok_free a b) F (fun I0 F0 => ex_free F0)
  obtain ⟨k, o, I1, cc1, c1, z1, h1, h2, h3, h4, h5⟩ := ctO F.2 (fun _ => z0_free) h
  refine ⟨k, o, I1, cc1, c1, z1, h1, h2, h3, h4, h5.imp (fun q => ⟨q.1, q.2.1.N (fun f i j q1 q2 q3 => ?_), q.2.2⟩) id⟩
  exact (up3_no (by omega)).symm
def sT_free (S : IT) : List Int → Option Int
  | [a, b] => some (frT S a b)
  | _ => none
def sZ_free (S : IT) : List Int → IT
  | [_, _] => S
  | _ => S
def sV_free (S : IT) : List Int → Int
  | [a, b] => frV S a b
  | _ => 0
theorem z0_pass {a : Int} {S : IT} : (paZ S a) 27 0 41 = 0 := by
  unfold paZ
  rw [mntF_no (by omega) (by omega)]
  exact up3_eq
theorem ct_pass {a : Int} {I : IT} {cc : Nat → Option Nat} {S : IT} {n c z : Nat} (F : FS I cc S) : ∃ k o I1 cc1 c1 z1, run k 21 0 (ini 21 (vr 0 0 :: List.map vi [a])) [] [] I (Cs cc) n c z = some (o, I1, Cs cc1, n, c1, z1) ∧ c1 ≤ c + 1 ∧ z1 ≤ z + 6 ∧ (∀ f i j, 59 < f → I1 f i j = I f i j) ∧ ((paT S a = 0 ∧ FS I1 cc1 (paZ S a) ∧ ∃ v, o = Sum.inl (some (vi v)) ∧ Fv_pass v = paV S a) ∨ (¬ paT S a = 0 ∧ FS I1 cc1 S ∧ ∃ E, o = Sum.inr E ∧ tE_pass (mE E) = some (paT S a))) := by
  have h := ct (n := n) (c := c) (z := z) (ok_pass a) F (fun I0 F0 => ex_pass F0)
  exact ctO F.2 (fun _ => z0_pass) h
def sT_pass (S : IT) : List Int → Option Int
  | [a] => some (paT S a)
  | _ => none
def sZ_pass (S : IT) : List Int → IT
  | [a] => paZ S a
  | _ => S
def sV_pass (S : IT) : List Int → Int
  | [a] => paV S a
  | _ => 0
theorem z0_count {S : IT} : (Zq S) 27 0 41 = 0 := up3_eq
theorem ct_count {a : Int} {I : IT} {cc : Nat → Option Nat} {S : IT} {n c z : Nat} (F : FS I cc S) : ∃ k o I1 cc1 c1 z1, run k 22 0 (ini 22 (vr 0 0 :: List.map vi [a])) [] [] I (Cs cc) n c z = some (o, I1, Cs cc1, n, c1, z1) ∧ c1 ≤ c + 1 ∧ z1 ≤ z + 6 ∧ (∀ f i j, 59 < f → I1 f i j = I f i j) ∧ ((coT a = 0 ∧ FS I1 cc1 (S) ∧ ∃ v, o = Sum.inl (some (vi v)) ∧ Fv_count v = coV S a) ∨ (¬ coT a = 0 ∧ FS I1 cc1 S ∧ ∃ E, o = Sum.inr E ∧ tE_count (mE E) = some (coT a))) := by
  have h := ct (n := n) (c := c) (z := z) (ok_count a) F (fun I0 F0 => ex_count F0)
  obtain ⟨k, o, I1, cc1, c1, z1, h1, h2, h3, h4, h5⟩ := ctO F.2 (fun _ => z0_count) h
  refine ⟨k, o, I1, cc1, c1, z1, h1, h2, h3, h4, h5.imp (fun q => ⟨q.1, q.2.1.N (fun f i j q1 q2 q3 => ?_), q.2.2⟩) id⟩
  exact (up3_no (by omega)).symm
def sT_count (_ : IT) : List Int → Option Int
  | [a] => some (coT a)
  | _ => none
def sZ_count (S : IT) : List Int → IT
  | [_] => S
  | _ => S
def sV_count (S : IT) : List Int → Int
  | [a] => coV S a
  | _ => 0
def sT : Nat → IT → List Int → Option Int
  | 1 => sT_place
  | 2 => sT_join
  | 3 => sT_street
  | 4 => sT_span
  | 5 => sT_name
  | 6 => sT_same
  | 7 => sT_leads
  | 8 => sT_leadsAnew
  | 9 => sT_placeOf
  | 10 => sT_way
  | 11 => sT_car
  | 12 => sT_call
  | 13 => sT_clear
  | 14 => sT_ofCall
  | 15 => sT_ofCar
  | 16 => sT_locker
  | 17 => sT_post
  | 18 => sT_take
  | 19 => sT_ofParcel
  | 20 => sT_free
  | 21 => sT_pass
  | 22 => sT_count
  | _ => fun _ _ => none
def sZ : Nat → IT → List Int → IT
  | 1 => sZ_place
  | 2 => sZ_join
  | 3 => sZ_street
  | 4 => sZ_span
  | 5 => sZ_name
  | 6 => sZ_same
  | 7 => sZ_leads
  | 8 => sZ_leadsAnew
  | 9 => sZ_placeOf
  | 10 => sZ_way
  | 11 => sZ_car
  | 12 => sZ_call
  | 13 => sZ_clear
  | 14 => sZ_ofCall
  | 15 => sZ_ofCar
  | 16 => sZ_locker
  | 17 => sZ_post
  | 18 => sZ_take
  | 19 => sZ_ofParcel
  | 20 => sZ_free
  | 21 => sZ_pass
  | 22 => sZ_count
  | _ => fun S _ => S
def sV : Nat → IT → List Int → Int
  | 1 => sV_place
  | 2 => sV_join
  | 3 => sV_street
  | 4 => sV_span
  | 5 => sV_name
  | 6 => sV_same
  | 7 => sV_leads
  | 8 => sV_leadsAnew
  | 9 => sV_placeOf
  | 10 => sV_way
  | 11 => sV_car
  | 12 => sV_call
  | 13 => sV_clear
  | 14 => sV_ofCall
  | 15 => sV_ofCar
  | 16 => sV_locker
  | 17 => sV_post
  | 18 => sV_take
  | 19 => sV_ofParcel
  | 20 => sV_free
  | 21 => sV_pass
  | 22 => sV_count
  | _ => fun _ _ => 0
def sE : Nat → Nat → Option Int
  | 1 => tE_place
  | 2 => tE_join
  | 3 => tE_street
  | 4 => tE_span
  | 5 => tE_name
  | 6 => tE_same
  | 7 => tE_leads
  | 8 => tE_leadsAnew
  | 9 => tE_placeOf
  | 10 => tE_way
  | 11 => tE_car
  | 12 => tE_call
  | 13 => tE_clear
  | 14 => tE_ofCall
  | 15 => tE_ofCar
  | 16 => tE_locker
  | 17 => tE_post
  | 18 => tE_take
  | 19 => tE_ofParcel
  | 20 => tE_free
  | 21 => tE_pass
  | 22 => tE_count
  | _ => fun _ => none
def sF : Nat → Int → Int
  | 6 => Fv_same
  | _ => fun v => v
theorem ctA {T : Int} {I : IT} {cc : Nat → Option Nat} {S : IT} {n c z : Nat} : ∀ (y : Nat) (l : List Int), sT y S l = some T → FS I cc S → ∃ k o I1 cc1 c1 z1, run k y 0 (ini y (vr 0 0 :: l.map vi)) [] [] I (Cs cc) n c z = some (o, I1, Cs cc1, n, c1, z1) ∧ c1 ≤ c + 1 ∧ z1 ≤ z + 6 ∧ (∀ f i j, 59 < f → I1 f i j = I f i j) ∧ ((T = 0 ∧ FS I1 cc1 (sZ y S l) ∧ ∃ v, o = Sum.inl (some (vi v)) ∧ sF y v = sV y S l) ∨ (¬ T = 0 ∧ FS I1 cc1 S ∧ ∃ E, o = Sum.inr E ∧ sE y (mE E) = some T))
  | 0, _, hT, _ => nomatch (show (none : Option Int) = some T from hT)
  | 1, [], hT, F => by
    have h : some _ = some T := hT
    cases h
    exact ct_place F
  | 1, _ :: _, hT, _ => nomatch (show (none : Option Int) = some T from hT)
  | 2, [a, b, d], hT, F => by
    have h : some _ = some T := hT
    cases h
    exact ct_join F
  | 2, [], hT, _ => nomatch (show (none : Option Int) = some T from hT)
  | 2, [_], hT, _ => nomatch (show (none : Option Int) = some T from hT)
  | 2, [_, _], hT, _ => nomatch (show (none : Option Int) = some T from hT)
  | 2, _ :: _ :: _ :: _ :: _, hT, _ => nomatch (show (none : Option Int) = some T from hT)
  | 3, [], hT, F => by
    have h : some _ = some T := hT
    cases h
    exact ct_street F
  | 3, _ :: _, hT, _ => nomatch (show (none : Option Int) = some T from hT)
  | 4, [a, b, d, e], hT, F => by
    have h : some _ = some T := hT
    cases h
    exact ct_span F
  | 4, [], hT, _ => nomatch (show (none : Option Int) = some T from hT)
  | 4, [_], hT, _ => nomatch (show (none : Option Int) = some T from hT)
  | 4, [_, _], hT, _ => nomatch (show (none : Option Int) = some T from hT)
  | 4, [_, _, _], hT, _ => nomatch (show (none : Option Int) = some T from hT)
  | 4, _ :: _ :: _ :: _ :: _ :: _, hT, _ => nomatch (show (none : Option Int) = some T from hT)
  | 5, [a, b], hT, F => by
    have h : some _ = some T := hT
    cases h
    exact ct_name F
  | 5, [], hT, _ => nomatch (show (none : Option Int) = some T from hT)
  | 5, [_], hT, _ => nomatch (show (none : Option Int) = some T from hT)
  | 5, _ :: _ :: _ :: _, hT, _ => nomatch (show (none : Option Int) = some T from hT)
  | 6, [a, b], hT, F => by
    have h : some _ = some T := hT
    cases h
    exact ct_same F
  | 6, [], hT, _ => nomatch (show (none : Option Int) = some T from hT)
  | 6, [_], hT, _ => nomatch (show (none : Option Int) = some T from hT)
  | 6, _ :: _ :: _ :: _, hT, _ => nomatch (show (none : Option Int) = some T from hT)
  | 7, [a, b], hT, F => by
    have h : some _ = some T := hT
    cases h
    exact ct_leads F
  | 7, [], hT, _ => nomatch (show (none : Option Int) = some T from hT)
  | 7, [_], hT, _ => nomatch (show (none : Option Int) = some T from hT)
  | 7, _ :: _ :: _ :: _, hT, _ => nomatch (show (none : Option Int) = some T from hT)
  | 8, [a, b], hT, F => by
    have h : some _ = some T := hT
    cases h
    exact ct_leadsAnew F
  | 8, [], hT, _ => nomatch (show (none : Option Int) = some T from hT)
  | 8, [_], hT, _ => nomatch (show (none : Option Int) = some T from hT)
  | 8, _ :: _ :: _ :: _, hT, _ => nomatch (show (none : Option Int) = some T from hT)
  | 9, [a, b], hT, F => by
    have h : some _ = some T := hT
    cases h
    exact ct_placeOf F
  | 9, [], hT, _ => nomatch (show (none : Option Int) = some T from hT)
  | 9, [_], hT, _ => nomatch (show (none : Option Int) = some T from hT)
  | 9, _ :: _ :: _ :: _, hT, _ => nomatch (show (none : Option Int) = some T from hT)
  | 10, [a, b], hT, F => by
    have h : some _ = some T := hT
    cases h
    exact ct_way F
  | 10, [], hT, _ => nomatch (show (none : Option Int) = some T from hT)
  | 10, [_], hT, _ => nomatch (show (none : Option Int) = some T from hT)
  | 10, _ :: _ :: _ :: _, hT, _ => nomatch (show (none : Option Int) = some T from hT)
  | 11, [a], hT, F => by
    have h : some _ = some T := hT
    cases h
    exact ct_car F
  | 11, [], hT, _ => nomatch (show (none : Option Int) = some T from hT)
  | 11, _ :: _ :: _, hT, _ => nomatch (show (none : Option Int) = some T from hT)
  | 12, [a, b], hT, F => by
    have h : some _ = some T := hT
    cases h
    exact ct_call F
  | 12, [], hT, _ => nomatch (show (none : Option Int) = some T from hT)
  | 12, [_], hT, _ => nomatch (show (none : Option Int) = some T from hT)
  | 12, _ :: _ :: _ :: _, hT, _ => nomatch (show (none : Option Int) = some T from hT)
  | 13, [a, b], hT, F => by
    have h : some _ = some T := hT
    cases h
    exact ct_clear F
  | 13, [], hT, _ => nomatch (show (none : Option Int) = some T from hT)
  | 13, [_], hT, _ => nomatch (show (none : Option Int) = some T from hT)
  | 13, _ :: _ :: _ :: _, hT, _ => nomatch (show (none : Option Int) = some T from hT)
  | 14, [a, b], hT, F => by
    have h : some _ = some T := hT
    cases h
    exact ct_ofCall F
  | 14, [], hT, _ => nomatch (show (none : Option Int) = some T from hT)
  | 14, [_], hT, _ => nomatch (show (none : Option Int) = some T from hT)
  | 14, _ :: _ :: _ :: _, hT, _ => nomatch (show (none : Option Int) = some T from hT)
  | 15, [a, b], hT, F => by
    have h : some _ = some T := hT
    cases h
    exact ct_ofCar F
  | 15, [], hT, _ => nomatch (show (none : Option Int) = some T from hT)
  | 15, [_], hT, _ => nomatch (show (none : Option Int) = some T from hT)
  | 15, _ :: _ :: _ :: _, hT, _ => nomatch (show (none : Option Int) = some T from hT)
  | 16, [a, b, d, e], hT, F => by
    have h : some _ = some T := hT
    cases h
    exact ct_locker F
  | 16, [], hT, _ => nomatch (show (none : Option Int) = some T from hT)
  | 16, [_], hT, _ => nomatch (show (none : Option Int) = some T from hT)
  | 16, [_, _], hT, _ => nomatch (show (none : Option Int) = some T from hT)
  | 16, [_, _, _], hT, _ => nomatch (show (none : Option Int) = some T from hT)
  | 16, _ :: _ :: _ :: _ :: _ :: _, hT, _ => nomatch (show (none : Option Int) = some T from hT)
  | 17, [a, b, d], hT, F => by
    have h : some _ = some T := hT
    cases h
    exact ct_post F
  | 17, [], hT, _ => nomatch (show (none : Option Int) = some T from hT)
  | 17, [_], hT, _ => nomatch (show (none : Option Int) = some T from hT)
  | 17, [_, _], hT, _ => nomatch (show (none : Option Int) = some T from hT)
  | 17, _ :: _ :: _ :: _ :: _, hT, _ => nomatch (show (none : Option Int) = some T from hT)
  | 18, [a], hT, F => by
    have h : some _ = some T := hT
    cases h
    exact ct_take F
  | 18, [], hT, _ => nomatch (show (none : Option Int) = some T from hT)
  | 18, _ :: _ :: _, hT, _ => nomatch (show (none : Option Int) = some T from hT)
  | 19, [a, b], hT, F => by
    have h : some _ = some T := hT
    cases h
    exact ct_ofParcel F
  | 19, [], hT, _ => nomatch (show (none : Option Int) = some T from hT)
  | 19, [_], hT, _ => nomatch (show (none : Option Int) = some T from hT)
  | 19, _ :: _ :: _ :: _, hT, _ => nomatch (show (none : Option Int) = some T from hT)
  | 20, [a, b], hT, F => by
    have h : some _ = some T := hT
    cases h
    exact ct_free F
  | 20, [], hT, _ => nomatch (show (none : Option Int) = some T from hT)
  | 20, [_], hT, _ => nomatch (show (none : Option Int) = some T from hT)
  | 20, _ :: _ :: _ :: _, hT, _ => nomatch (show (none : Option Int) = some T from hT)
  | 21, [a], hT, F => by
    have h : some _ = some T := hT
    cases h
    exact ct_pass F
  | 21, [], hT, _ => nomatch (show (none : Option Int) = some T from hT)
  | 21, _ :: _ :: _, hT, _ => nomatch (show (none : Option Int) = some T from hT)
  | 22, [a], hT, F => by
    have h : some _ = some T := hT
    cases h
    exact ct_count F
  | 22, [], hT, _ => nomatch (show (none : Option Int) = some T from hT)
  | 22, _ :: _ :: _, hT, _ => nomatch (show (none : Option Int) = some T from hT)
  | n + 23, _, hT, _ => nomatch (show (none : Option Int) = some T from hT)
