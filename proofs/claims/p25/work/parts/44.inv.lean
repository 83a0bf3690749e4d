def VA (S : IT) : Prop := Mt (dS S) ∧ 0 ≤ S 27 0 2 ∧ S 27 0 2 ≤ 24 ∧ S 27 0 0 ≤ 100000 ∧ ∀ a b : Nat, a < 12 → b < 12 → (S 27 0 1 ≤ a ∨ S 27 0 1 ≤ b) → S 28 0 (12 * a + b) = if a = b then 0 else 1000000
def VI (S : IT) : Prop := VP S ∧ VA S ∧ VS S (S 27 0 1) ∧ VN S (S 27 0 0)
def FI (I : IT) (cc : Nat → Option Nat) : Prop := Sm I cc I ∧ VI I
theorem agM.refl {S : IT} : agM S S := fun _ _ _ _ _ => rfl
theorem agM.trans {S S2 S3 : IT} (h : agM S S2) (g : agM S2 S3) : agM S S3 := fun f i j h1 h2 => (g f i j h1 h2).trans (h f i j h1 h2)
theorem agM.symm {S S2 : IT} (h : agM S S2) : agM S2 S := fun f i j h1 h2 => (h f i j h1 h2).symm
/-- the same but for wasOld and thrown -/
def agN (S S2 : IT) : Prop := ∀ f i j, 27 ≤ f → f ≤ 58 → ¬ (f = 27 ∧ i = 0 ∧ (j = 40 ∨ j = 41)) → S2 f i j = S f i j
theorem agM.N {S S2 : IT} (h : agM S S2) : agN S S2 := fun f i j h1 h2 _ => h f i j h1 h2
theorem agN.D {S S2 : IT} (h : agN S S2) : agD S S2 := ⟨h _ _ _ (by omega) (by omega) (by omega), h _ _ _ (by omega) (by omega) (by omega), fun f h1 h2 i j => h f i j (by omega) (by omega) (by omega)⟩
theorem agN_thr {S : IT} {v : Int} : agN S (up3 S 27 0 41 v) := fun f i j h1 h2 h3 => up3_no (by omega)
theorem agN_old {S : IT} {v : Int} : agN S (up3 S 27 0 40 v) := fun f i j h1 h2 h3 => up3_no (by omega)
theorem agN.trans {S S2 S3 : IT} (h : agN S S2) (g : agN S2 S3) : agN S S3 := fun f i j h1 h2 h3 => (g f i j h1 h2 h3).trans (h f i j h1 h2 h3)
theorem agN.symm {S S2 : IT} (h : agN S S2) : agN S2 S := fun f i j h1 h2 h3 => (h f i j h1 h2 h3).symm
theorem Sm_N {I S S2 : IT} {cc : Nat → Option Nat} (h : agN S S2) (M : Sm I cc S) : Sm I cc S2 := by
  obtain ⟨m1, m2, m3, m4, m5⟩ := M
  have e : ∀ j, j < 40 → S2 27 0 j = S 27 0 j := fun j hj => h 27 0 j (by omega) (by omega) (by omega)
  refine ⟨by rw [e 0 (by omega)]; exact m1, RA_agS m2 (e 1 (by omega)) (e 2 (by omega)) (fun i j => h 28 i j (by omega) (by omega) (by omega)), by rw [e 0 (by omega), e 1 (by omega)]; exact DR_ag m3 h.D (fun _ _ _ _ _ _ => rfl), RC_ag m4 (fun _ _ _ _ => rfl) (fun f i j h1 h2 => h f i j (by omega) (by omega) (by omega)) (e 14 (by omega)) (e 18 (by omega)), RD_agS m5 (e 27 (by omega)) (e 30 (by omega)) (fun f i j h1 h2 => h f i j (by omega) (by omega) (by omega))⟩
theorem Sm_M {I S S2 : IT} {cc : Nat → Option Nat} (h : agM S S2) (M : Sm I cc S) : Sm I cc S2 := Sm_N h.N M
theorem Sm_I {I I2 S : IT} {cc : Nat → Option Nat} (h : ∀ f i j, f < 27 → I2 f i j = I f i j) (M : Sm I cc S) : Sm I2 cc S := by
  obtain ⟨m1, m2, m3, m4, m5⟩ := M
  exact ⟨by rw [h 0 0 4 (by omega)]; exact m1, RA_ag m2 (fun i j => h 1 i j (by omega)) (fun i j => h 2 i j (by omega)), DR_ag m3 ⟨rfl, rfl, fun _ _ _ _ _ => rfl⟩ (fun f i j h1 h2 _ => h f i j (by omega)), RC_ag m4 (fun f i j hf => h f i j (by omega)) (fun _ _ _ _ _ => rfl) rfl rfl, RD_agI m5 (fun f i j hf => h f i j (by omega))⟩
theorem VP_N {S S2 : IT} (h : agN S S2) (V : VP S) : VP S2 := by
  obtain ⟨v1, v2, v3, v4, v5⟩ := V
  have e : ∀ j, j < 40 → S2 27 0 j = S 27 0 j := fun j hj => h 27 0 j (by omega) (by omega) (by omega)
  exact ⟨VC_ag v1 (fun f i j hf => h f i j (by omega) (by omega) (by omega)) (e 1 (by omega)) (e 14 (by omega)) (e 18 (by omega)), VD_ag v2 (fun f i j h1 h2 => h f i j (by omega) (by omega) (by omega)) (e 1 (by omega)) (e 27 (by omega)) (e 30 (by omega)), V0_ag v3 (fun i j => h 28 i j (by omega) (by omega) (by omega)), V1_ag v4 (fun i j => h 28 i j (by omega) (by omega) (by omega)), by rw [e 0 (by omega)]; exact v5⟩
theorem VA_N {S S2 : IT} (h : agN S S2) (V : VA S) : VA S2 := by
  obtain ⟨v1, v2, v3, v4, v5⟩ := V
  have e : ∀ j, j < 40 → S2 27 0 j = S 27 0 j := fun j hj => h 27 0 j (by omega) (by omega) (by omega)
  have ed : dS S2 = dS S := by funext a b; exact h 28 0 _ (by omega) (by omega) (by omega)
  exact ⟨by rw [ed]; exact v1, by rw [e 2 (by omega)]; exact v2, by rw [e 2 (by omega)]; exact v3, by rw [e 0 (by omega)]; exact v4, fun a b ha hb hh => by rw [h 28 0 _ (by omega) (by omega) (by omega)]; rw [e 1 (by omega)] at hh; exact v5 a b ha hb hh⟩
theorem VI_N {S S2 : IT} (h : agN S S2) (V : VI S) : VI S2 := by
  have e : ∀ j, j < 40 → S2 27 0 j = S 27 0 j := fun j hj => h 27 0 j (by omega) (by omega) (by omega)
  exact ⟨VP_N h V.1, VA_N h V.2.1, by rw [e 1 (by omega)]; exact VS_ag h.D V.2.2.1, by rw [e 0 (by omega)]; exact VN_ag h.D V.2.2.2⟩
theorem VI_M {S S2 : IT} (h : agM S S2) (V : VI S) : VI S2 := VI_N h.N V
/-- what the law's wrapper of a call of the class comes to: S2 is the model's store behind the call, v its answer -/
def CR (S S2 : IT) (v : Int) (fs : List fr) (I : IT) (n c z : Nat) (out : oP) : Prop := ∀ I2 cc2 k c2 z2, c2 ≤ c + 1 → z2 ≤ z + 6 → (∀ f i j, 27 ≤ f → ¬ f = 59 → I2 f i j = I f i j) → k = S2 27 0 41 → (k = 0 → I2 59 0 0 = v) → Sm I2 cc2 S2 → Rf (Sum.inl (some (vi k))) fs I2 (Cs cc2) n c2 z2 out
theorem CR.thr {S S2 : IT} {v : Int} {fs : List fr} {I : IT} {n c z : Nat} {out : oP} {cc : Nat → Option Nat} (h : CR S S2 v fs I n c z out) {k : Int} (hk : k = S2 27 0 41) (h0 : ¬ k = 0) (M : Sm I cc S2) : Rf (Sum.inl (some (vi k))) fs I (Cs cc) n (c + 1) (z + 6) out := h I cc k (c + 1) (z + 6) (by omega) (by omega) (fun _ _ _ _ _ => rfl) hk (fun q => absurd q h0) M

