/-! A step as a value; what a run keeps; a run with frames below, cut where the upper frames end. -/
abbrev so : Type := (Nat × lo × List av × IT × CT × Nat × Nat × Nat) ⊕ (Nat × List av × List av) ⊕ (Option av) ⊕ (Nat × Nat × Nat)
def el {β : Type} (kc : Nat → lo → List av → IT → CT → Nat → Nat → Nat → Option β) (ky : Nat → List av → List av → Option β) (kr : Option av → Option β) (kt : Nat → Nat → Nat → Option β) : Option so → Option β
  | none => none
  | some (Sum.inl (pc, ls, st, I, C, n, c, z)) => kc pc ls st I C n c z
  | some (Sum.inr (Sum.inl (y, as, r))) => ky y as r
  | some (Sum.inr (Sum.inr (Sum.inl v))) => kr v
  | some (Sum.inr (Sum.inr (Sum.inr (E, c, z)))) => kt E c z
def stc (e : ent) (pc : Nat) (ls : lo) (st : List av) (I : IT) (C : CT) (n c z : Nat) : Option so :=
  stp e pc ls st I C n c z (fun pc ls st I C n c z => some (Sum.inl (pc, ls, st, I, C, n, c, z))) (fun y as r => some (Sum.inr (Sum.inl (y, as, r)))) (fun v => some (Sum.inr (Sum.inr (Sum.inl v)))) (fun E c z => some (Sum.inr (Sum.inr (Sum.inr (E, c, z))))) none
section NAT
variable {α β : Type} {g : Option α → Option β}
theorem xIl_n {o : Option (Option av)} {k : Int → Option α} (hg : g none = none) : g (xIl o k none) = xIl o (fun x => g (k x)) none := by
  unfold xIl; split <;> first | rfl | exact hg
theorem xRl_n {o : Option (Option av)} {k : Option (Nat × Nat) → Option α} (hg : g none = none) : g (xRl o k none) = xRl o (fun x => g (k x)) none := by
  unfold xRl; split <;> first | rfl | exact hg
theorem sI_n {st : List av} {k : Int → List av → Option α} (hg : g none = none) : g (sI st k none) = sI st (fun x r => g (k x r)) none := by
  unfold sI; split <;> first | rfl | exact hg
theorem sII_n {st : List av} {k : Int → Int → List av → Option α} (hg : g none = none) : g (sII st k none) = sII st (fun x y r => g (k x y r)) none := by
  unfold sII; split <;> first | rfl | exact hg
theorem sLL_n {st : List av} {k : Int → Int → List av → Option α} (hg : g none = none) : g (sLL st k none) = sLL st (fun x y r => g (k x y r)) none := by
  unfold sLL; split <;> first | rfl | exact hg
theorem sR_n {st : List av} {k : Option (Nat × Nat) → List av → Option α} (hg : g none = none) : g (sR st k none) = sR st (fun x r => g (k x r)) none := by
  unfold sR; split <;> first | rfl | exact hg
theorem sO_n {st : List av} {k : Nat → Nat → List av → Option α} (hg : g none = none) : g (sO st k none) = sO st (fun x y r => g (k x y r)) none := by
  unfold sO; split <;> first | rfl | exact hg
theorem sD_n {st : List av} {k : av → List av → Option α} (hg : g none = none) : g (sD st k none) = sD st (fun x r => g (k x r)) none := by
  unfold sD; split <;> first | rfl | exact hg
theorem sIR_n {st : List av} {k : Int → Option (Nat × Nat) → List av → Option α} (hg : g none = none) : g (sIR st k none) = sIR st (fun x y r => g (k x y r)) none := by
  unfold sIR; split <;> first | rfl | exact hg
theorem sN_n {st : List av} {k1 k2 : List av → Option α} (hg : g none = none) : g (sN st k1 k2 none) = sN st (fun r => g (k1 r)) (fun r => g (k2 r)) none := by
  unfold sN; split <;> first | rfl | exact hg
theorem sL_n {st : List av} {k : Int → List av → Option α} (hg : g none = none) : g (sL st k none) = sL st (fun x r => g (k x r)) none := by
  unfold sL; split <;> first | rfl | exact hg
theorem s0_n {st : List av} {k : Option α} (hg : g none = none) : g (s0 st k none) = s0 st (g k) none := by
  unfold s0; split <;> first | rfl | exact hg
theorem s1_n {st : List av} {k : Int → Option α} (hg : g none = none) : g (s1 st k none) = s1 st (fun x => g (k x)) none := by
  unfold s1; split <;> first | rfl | exact hg
theorem ite_n {c : Prop} {d : Decidable c} {x y : Option α} : g (@ite _ c d x y) = @ite _ c d (g x) (g y) := by
  by_cases h : c
  · rw [if_pos h, if_pos h]
  · rw [if_neg h, if_neg h]
theorem bif_n {b : Bool} {x y : Option α} : g (bif b then x else y) = bif b then g x else g y := by cases b <;> rfl
theorem swt_n {pc : Nat} {x dflt : Int} {k : Nat → Option α} : ∀ (os : List Int) (low : Int), g (swt pc x k dflt low os) = swt pc x (fun t => g (k t)) dflt low os
  | [], _ => rfl
  | o :: os, low => by
    unfold swt
    by_cases h : x = low
    · rw [if_pos h, if_pos h]
    · rw [if_neg h, if_neg h]; exact swt_n os (low + 1)
theorem swl_n {pc : Nat} {x dflt : Int} {k : Nat → Option α} : ∀ (os : List (Int × Int)), g (swl pc x k dflt os) = swl pc x (fun t => g (k t)) dflt os
  | [] => rfl
  | o :: os => by
    unfold swl
    by_cases h : x = o.1
    · rw [if_pos h, if_pos h]
    · rw [if_neg h, if_neg h]; exact swl_n os
end NAT
set_option maxHeartbeats 4000000 in
theorem stp_el {β : Type} (e : ent) (pc : Nat) (ls : lo) (st : List av) (I : IT) (C : CT) (n c z : Nat) (kc : Nat → lo → List av → IT → CT → Nat → Nat → Nat → Option β) (ky : Nat → List av → List av → Option β) (kr : Option av → Option β) (kt : Nat → Nat → Nat → Option β) : stp e pc ls st I C n c z kc ky kr kt none = el kc ky kr kt (stc e pc ls st I C n c z) := by
  obtain ⟨i, len, a, b, d⟩ := e
  have h0 : el kc ky kr kt none = none := rfl
  unfold stc
  cases i with
  | if_icmp cd o => cases cd <;> simp only [stp, sII_n (g := el kc ky kr kt) h0, ite_n (g := el kc ky kr kt)] <;> rfl
  | ifCond cd o => cases cd <;> simp only [stp, sI_n (g := el kc ky kr kt) h0, ite_n (g := el kc ky kr kt)] <;> rfl
  | _ => first
    | rfl
    | (simp only [stp, xIl_n (g := el kc ky kr kt) h0, xRl_n (g := el kc ky kr kt) h0, sI_n (g := el kc ky kr kt) h0, sII_n (g := el kc ky kr kt) h0, sLL_n (g := el kc ky kr kt) h0, sR_n (g := el kc ky kr kt) h0, sO_n (g := el kc ky kr kt) h0, sD_n (g := el kc ky kr kt) h0, sIR_n (g := el kc ky kr kt) h0, sN_n (g := el kc ky kr kt) h0, sL_n (g := el kc ky kr kt) h0, s0_n (g := el kc ky kr kt) h0, s1_n (g := el kc ky kr kt) h0, ite_n (g := el kc ky kr kt), bif_n (g := el kc ky kr kt), swt_n (g := el kc ky kr kt), swl_n (g := el kc ky kr kt)]; rfl)
-- what a step keeps
def Pk (I : IT) (n c z : Nat) : Option so → Prop
  | some (Sum.inl (_, _, _, I', _, n', c', z')) => n ≤ n' ∧ c ≤ c' ∧ z ≤ z' ∧ ∀ i j, I' 99 i j = I 99 i j
  | some (Sum.inr (Sum.inl (y, _, _))) => nm y = true
  | some (Sum.inr (Sum.inr (Sum.inr (_, c', z')))) => c ≤ c' ∧ z ≤ z'
  | _ => True
section PK
variable {P : Option so → Prop}
theorem xIl_p {o : Option (Option av)} {k : Int → Option so} (h0 : P none) (h : ∀ x, P (k x)) : P (xIl o k none) := by
  unfold xIl; split <;> first | exact h _ | exact h0
theorem xRl_p {o : Option (Option av)} {k : Option (Nat × Nat) → Option so} (h0 : P none) (h : ∀ x, P (k x)) : P (xRl o k none) := by
  unfold xRl; split <;> first | exact h _ | exact h0
theorem sI_p {st : List av} {k : Int → List av → Option so} (h0 : P none) (h : ∀ x r, P (k x r)) : P (sI st k none) := by
  unfold sI; split <;> first | exact h _ _ | exact h0
theorem sII_p {st : List av} {k : Int → Int → List av → Option so} (h0 : P none) (h : ∀ x y r, P (k x y r)) : P (sII st k none) := by
  unfold sII; split <;> first | exact h _ _ _ | exact h0
theorem sLL_p {st : List av} {k : Int → Int → List av → Option so} (h0 : P none) (h : ∀ x y r, P (k x y r)) : P (sLL st k none) := by
  unfold sLL; split <;> first | exact h _ _ _ | exact h0
theorem sR_p {st : List av} {k : Option (Nat × Nat) → List av → Option so} (h0 : P none) (h : ∀ x r, P (k x r)) : P (sR st k none) := by
  unfold sR; split <;> first | exact h _ _ | exact h0
theorem sO_p {st : List av} {k : Nat → Nat → List av → Option so} (h0 : P none) (h : ∀ x y r, P (k x y r)) : P (sO st k none) := by
  unfold sO; split <;> first | exact h _ _ _ | exact h0
theorem sD_p {st : List av} {k : av → List av → Option so} (h0 : P none) (h : ∀ x r, P (k x r)) : P (sD st k none) := by
  unfold sD; split <;> first | exact h _ _ | exact h0
theorem sIR_p {st : List av} {k : Int → Option (Nat × Nat) → List av → Option so} (h0 : P none) (h : ∀ x y r, P (k x y r)) : P (sIR st k none) := by
  unfold sIR; split <;> first | exact h _ _ _ | exact h0
theorem sN_p {st : List av} {k1 k2 : List av → Option so} (h0 : P none) (h1 : ∀ r, P (k1 r)) (h2 : ∀ r, P (k2 r)) : P (sN st k1 k2 none) := by
  unfold sN; split <;> first | exact h1 _ | exact h2 _ | exact h0
theorem sL_p {st : List av} {k : Int → List av → Option so} (h0 : P none) (h : ∀ x r, P (k x r)) : P (sL st k none) := by
  unfold sL; split <;> first | exact h _ _ | exact h0
theorem s0_p {st : List av} {k : Option so} (h0 : P none) (h : P k) : P (s0 st k none) := by
  unfold s0; split <;> first | exact h | exact h0
theorem s1_p {st : List av} {k : Int → Option so} (h0 : P none) (h : ∀ x, P (k x)) : P (s1 st k none) := by
  unfold s1; split <;> first | exact h _ | exact h0
theorem ite_p {c : Prop} {d : Decidable c} {x y : Option so} (h1 : P x) (h2 : P y) : P (@ite _ c d x y) := by
  by_cases h : c
  · rw [if_pos h]; exact h1
  · rw [if_neg h]; exact h2
theorem bif_p {b : Bool} {x y : Option so} (h1 : b = true → P x) (h2 : P y) : P (bif b then x else y) := by
  cases b
  · exact h2
  · exact h1 rfl
theorem swt_p {pc : Nat} {x dflt : Int} {k : Nat → Option so} (h : ∀ t, P (k t)) : ∀ (os : List Int) (low : Int), P (swt pc x k dflt low os)
  | [], _ => h _
  | o :: os, low => by
    unfold swt
    exact ite_p (h _) (swt_p h os (low + 1))
theorem swl_p {pc : Nat} {x dflt : Int} {k : Nat → Option so} (h : ∀ t, P (k t)) : ∀ (os : List (Int × Int)), P (swl pc x k dflt os)
  | [] => h _
  | o :: os => by
    unfold swl
    exact ite_p (h _) (swl_p h os)
end PK
def okA (e : ent) : Prop := (e.2.2.1 ≤ 50 ∨ ∀ j, ¬ e.1 = .putfield j) ∧ (∀ j, e.1 = .invokestatic j → nm e.2.2.1 = true ∨ e.2.2.2.2 = 3) ∧ (∀ j, e.1 = .invokevirtual j → nm e.2.2.1 = true) ∧ (∀ j, e.1 = .invokespecial j → nm e.2.2.1 = true ∨ e.2.2.2.2 = 2)
theorem okA_of {e : ent} (h : ((Nat.ble e.2.2.1 50 || (match e.1 with | .putfield _ => false | _ => true)) && (match e.1 with
  | .invokestatic _ => nm e.2.2.1 || Nat.beq e.2.2.2.2 3
  | .invokevirtual _ => nm e.2.2.1
  | .invokespecial _ => nm e.2.2.1 || Nat.beq e.2.2.2.2 2
  | _ => true)) = true) : okA e := by
  obtain ⟨i, len, a, b, d⟩ := e
  simp only [Bool.and_eq_true, Bool.or_eq_true] at h
  obtain ⟨h1, h2⟩ := h
  refine ⟨h1.imp (fun g => bleN g) (fun g j e => ?_), fun j e => ?_, fun j e => ?_, fun j e => ?_⟩
  · have e : i = .putfield j := e
    subst e
    cases g
  · have e : i = .invokestatic j := e
    subst e
    have h2 : (nm a || Nat.beq d 3) = true := h2
    rcases Bool.or_eq_true _ _ ▸ h2 with g | g
    · exact Or.inl g
    · exact Or.inr (beqN g)
  · have e : i = .invokevirtual j := e
    subst e
    exact h2
  · have e : i = .invokespecial j := e
    subst e
    have h2 : (nm a || Nat.beq d 2) = true := h2
    rcases Bool.or_eq_true _ _ ▸ h2 with g | g
    · exact Or.inl g
    · exact Or.inr (beqN g)
theorem kd99 : kd 99 = 99 := by decide +kernel
theorem up99 {I : IT} {f i k : Nat} {v : Int} (h : kd f ≤ 50) : ∀ a b, up3 I f i k v 99 a b = I 99 a b := fun a b => up3_ne (fun z => by rw [← z.1, kd99] at h; omega)
set_option maxHeartbeats 4000000 in
theorem stc_keep (e : ent) (pc : Nat) (ls : lo) (st : List av) (I : IT) (C : CT) (n c z : Nat) (ha : okA e) : Pk I n c z (stc e pc ls st I C n c z) := by
  obtain ⟨i, len, a, b, d⟩ := e
  have t0 : Pk I n c z none := trivial
  have t1 : ∀ pc ls st C, Pk I n c z (some (Sum.inl (pc, ls, st, I, C, n, c, z))) := fun _ _ _ _ => ⟨Nat.le_refl _, Nat.le_refl _, Nat.le_refl _, fun _ _ => rfl⟩
  have t2 : ∀ pc ls st k, Pk I n c z (some (Sum.inl (pc, ls, st, I, C, n + 1, c + 1, z + k))) := fun _ _ _ _ => ⟨Nat.le_succ _, Nat.le_succ _, Nat.le_add_right _ _, fun _ _ => rfl⟩
  have t3 : ∀ pc ls st f i k v, kd f ≤ 50 → Pk I n c z (some (Sum.inl (pc, ls, st, up3 I f i k v, C, n, c, z))) := fun _ _ _ _ _ _ _ hk => ⟨Nat.le_refl _, Nat.le_refl _, Nat.le_refl _, up99 hk⟩
  have t4 : ∀ y as r, nm y = true → Pk I n c z (some (Sum.inr (Sum.inl (y, as, r)))) := fun _ _ _ h => h
  have t5 : ∀ v, Pk I n c z (some (Sum.inr (Sum.inr (Sum.inl v)))) := fun _ => trivial
  unfold stc
  cases i with
  | iload j => exact xIl_p t0 fun _ => t1 _ _ _ _
  | iload_n j => exact xIl_p t0 fun _ => t1 _ _ _ _
  | aload j => exact xRl_p t0 fun _ => t1 _ _ _ _
  | aload_n j => exact xRl_p t0 fun _ => t1 _ _ _ _
  | istore j => exact sI_p t0 fun _ _ => t1 _ _ _ _
  | istore_n j => exact sI_p t0 fun _ _ => t1 _ _ _ _
  | astore j => exact sR_p t0 fun _ _ => t1 _ _ _ _
  | astore_n j => exact sR_p t0 fun _ _ => t1 _ _ _ _
  | iinc j v => exact xIl_p t0 fun _ => t1 _ _ _ _
  | iconst v => exact t1 _ _ _ _
  | bipush v => exact t1 _ _ _ _
  | sipush v => exact t1 _ _ _ _
  | ldc j => exact t1 _ _ _ _
  | ldc_w j => exact t1 _ _ _ _
  | lconst j => exact t1 _ _ _ _
  | aconst_null => exact t1 _ _ _ _
  | iadd => exact sII_p t0 fun _ _ _ => t1 _ _ _ _
  | isub => exact sII_p t0 fun _ _ _ => t1 _ _ _ _
  | imul => exact sII_p t0 fun _ _ _ => t1 _ _ _ _
  | idiv => exact sII_p t0 fun _ _ _ => ite_p t0 (t1 _ _ _ _)
  | irem => exact sII_p t0 fun _ _ _ => ite_p t0 (t1 _ _ _ _)
  | iand => exact sII_p t0 fun _ _ _ => t1 _ _ _ _
  | iushr => exact sII_p t0 fun _ _ _ => t1 _ _ _ _
  | ineg => exact sI_p t0 fun _ _ => t1 _ _ _ _
  | i2l => exact sI_p t0 fun _ _ => t1 _ _ _ _
  | lcmp => exact sLL_p t0 fun _ _ _ => t1 _ _ _ _
  | dup =>
    simp only [stp]
    refine sD_p t0 fun _ _ => ?_
    exact t1 _ _ _ _
  | dup2 => exact sIR_p t0 fun _ _ _ => t1 _ _ _ _
  | goto o => exact t1 _ _ _ _
  | if_icmp cd o => cases cd <;> exact sII_p t0 fun _ _ _ => ite_p (t1 _ _ _ _) (t1 _ _ _ _)
  | ifCond cd o => cases cd <;> exact sI_p t0 fun _ _ => ite_p (t1 _ _ _ _) (t1 _ _ _ _)
  | ifnull o => exact sN_p t0 (fun _ => t1 _ _ _ _) (fun _ => t1 _ _ _ _)
  | ifnonnull o => exact sN_p t0 (fun _ => t1 _ _ _ _) (fun _ => t1 _ _ _ _)
  | tableswitch dflt low hi offs => exact sI_p t0 fun _ _ => swt_p (fun _ => t1 _ _ _ _) _ _
  | lookupswitch dflt prs => exact sI_p t0 fun _ _ => swl_p (fun _ => t1 _ _ _ _) _
  | getfield j =>
    simp only [stp]
    refine sO_p t0 fun _ _ _ => ?_
    exact bif_p (fun _ => bif_p (fun _ => t1 _ _ _ _) (t1 _ _ _ _)) t0
  | putfield j =>
    have ha : a ≤ 50 := ha.1.elim id (fun h => absurd rfl (h j))
    exact bif_p (fun _ => sR_p t0 fun _ _ => sO_p t0 fun _ _ _ => bif_p (fun _ => t1 _ _ _ _) t0) (sI_p t0 fun _ _ => sO_p t0 fun _ _ _ => bif_p (fun hk => bif_p (fun _ => ite_p (t3 _ _ _ _ _ _ _ (by rw [beqN hk]; exact ha)) t0) (t3 _ _ _ _ _ _ _ (by rw [beqN hk]; exact ha))) t0)
  | iaload => exact sI_p t0 fun _ _ => sO_p t0 fun _ _ _ => bif_p (fun _ => ite_p (t1 _ _ _ _) t0) (bif_p (fun _ => bif_p (fun _ => ite_p (t1 _ _ _ _) t0) t0) t0)
  | iastore => exact sI_p t0 fun _ _ => sI_p t0 fun _ _ => sO_p t0 fun _ _ _ => bif_p (fun hk => ite_p (t3 _ _ _ _ _ _ _ (by rw [beqN hk]; omega)) t0) t0
  | baload => exact sI_p t0 fun _ _ => sO_p t0 fun _ _ _ => bif_p (fun _ => ite_p (t1 _ _ _ _) t0) t0
  | bastore => exact sI_p t0 fun _ _ => sI_p t0 fun _ _ => sO_p t0 fun _ _ _ => bif_p (fun hk => ite_p (ite_p (t3 _ _ _ _ _ _ _ (by rw [beqN hk]; omega)) t0) t0) t0
  | laload => exact sI_p t0 fun _ _ => sO_p t0 fun _ _ _ => bif_p (fun _ => ite_p (t1 _ _ _ _) t0) t0
  | lastore => exact sL_p t0 fun _ _ => sI_p t0 fun _ _ => sO_p t0 fun _ _ _ => bif_p (fun hk => ite_p (t3 _ _ _ _ _ _ _ (by rw [beqN hk]; omega)) t0) t0
  | aaload => exact sI_p t0 fun _ _ => sO_p t0 fun _ _ _ => bif_p (fun _ => bif_p (fun _ => ite_p (t1 _ _ _ _) t0) t0) t0
  | aastore =>
    simp only [stp]
    refine sO_p t0 fun _ _ _ => ?_
    refine sI_p t0 fun _ _ => ?_
    refine sO_p t0 fun _ _ _ => ?_
    exact bif_p (fun _ => bif_p (fun _ => ite_p (t1 _ _ _ _) t0) t0) t0
  | arraylength =>
    simp only [stp]
    refine sO_p t0 fun _ _ _ => ?_
    exact bif_p (fun _ => bif_p (fun _ => t1 _ _ _ _) t0) (bif_p (fun _ => bif_p (fun _ => t1 _ _ _ _) t0) t0)
  | newarray t => exact sI_p t0 fun _ _ => bif_p (fun _ => bif_p (fun _ => t2 _ _ _ _) t0) t0
  | anewarray t => exact sI_p t0 fun _ _ => bif_p (fun _ => bif_p (fun _ => t2 _ _ _ _) t0) t0
  | new t => exact bif_p (fun _ => s0_p t0 ⟨Nat.le_succ _, Nat.le_add_right _ _⟩) (bif_p (fun _ => t2 _ _ _ _) t0)
  | invokestatic t =>
    rcases ha.2.1 t rfl with hn | hd
    · exact bif_p (fun _ => sII_p t0 fun _ _ _ => bif_p (fun _ => t1 _ _ _ _) t0) (bif_p (fun _ => bif_p (fun _ => t4 _ _ _ hn) t0) t0)
    · have hd : d = 3 := hd
      subst hd
      exact sII_p t0 fun _ _ _ => bif_p (fun _ => t1 _ _ _ _) t0
  | invokevirtual t =>
    have hn := ha.2.2.1 t rfl
    exact bif_p (fun _ => bif_p (fun _ => sO_p t0 fun _ _ _ => bif_p (fun _ => t4 _ _ _ hn) t0) t0) t0
  | invokespecial t =>
    rcases ha.2.2.2 t rfl with hn | hd
    · exact bif_p (fun _ => sO_p t0 fun _ _ _ => bif_p (fun _ => t1 _ _ _ _) t0) (bif_p (fun _ => bif_p (fun _ => sO_p t0 fun _ _ _ => bif_p (fun _ => t4 _ _ _ hn) t0) t0) t0)
    · have hd : d = 2 := hd
      subst hd
      show Pk I n c z (sO st (fun _ _ r => bif Nat.ble (ctg r) 8 then some (Sum.inl (pc + len, ls, r, I, C, n, c, z)) else none) none)
      exact sO_p t0 fun _ _ _ => bif_p (fun _ => t1 _ _ _ _) t0
  | ireturn => exact s1_p t0 fun _ => bif_p (fun _ => ite_p (t5 _) t0) (t5 _)
  | return_ => exact s0_p t0 (t5 _)
  | athrow => exact ⟨Nat.le_refl _, Nat.le_refl _⟩
  | _ => exact t0
def Pk0 (I : IT) (n c z : Nat) : Option so → Prop
  | some (Sum.inl (_, _, _, I', _, n', c', z')) => n ≤ n' ∧ c ≤ c' ∧ z ≤ z' ∧ ∀ i j, I' 99 i j = I 99 i j
  | some (Sum.inr (Sum.inr (Sum.inr (_, c', z')))) => c ≤ c' ∧ z ≤ z'
  | _ => True
set_option maxHeartbeats 4000000 in
theorem stc_keep0 (e : ent) (pc : Nat) (ls : lo) (st : List av) (I : IT) (C : CT) (n c z : Nat) (ha : e.2.2.1 ≤ 50 ∨ ∀ j, ¬ e.1 = .putfield j) : Pk0 I n c z (stc e pc ls st I C n c z) := by
  obtain ⟨i, len, a, b, d⟩ := e
  have t0 : Pk0 I n c z none := trivial
  have t1 : ∀ pc ls st C, Pk0 I n c z (some (Sum.inl (pc, ls, st, I, C, n, c, z))) := fun _ _ _ _ => ⟨Nat.le_refl _, Nat.le_refl _, Nat.le_refl _, fun _ _ => rfl⟩
  have t2 : ∀ pc ls st k, Pk0 I n c z (some (Sum.inl (pc, ls, st, I, C, n + 1, c + 1, z + k))) := fun _ _ _ _ => ⟨Nat.le_succ _, Nat.le_succ _, Nat.le_add_right _ _, fun _ _ => rfl⟩
  have t3 : ∀ pc ls st f i k v, kd f ≤ 50 → Pk0 I n c z (some (Sum.inl (pc, ls, st, up3 I f i k v, C, n, c, z))) := fun _ _ _ _ _ _ _ hk => ⟨Nat.le_refl _, Nat.le_refl _, Nat.le_refl _, up99 hk⟩
  have t4 : ∀ y as r, Pk0 I n c z (some (Sum.inr (Sum.inl (y, as, r)))) := fun _ _ _ => trivial
  have t5 : ∀ v, Pk0 I n c z (some (Sum.inr (Sum.inr (Sum.inl v)))) := fun _ => trivial
  unfold stc
  cases i with
  | iload j => exact xIl_p t0 fun _ => t1 _ _ _ _
  | iload_n j => exact xIl_p t0 fun _ => t1 _ _ _ _
  | aload j => exact xRl_p t0 fun _ => t1 _ _ _ _
  | aload_n j => exact xRl_p t0 fun _ => t1 _ _ _ _
  | istore j => exact sI_p t0 fun _ _ => t1 _ _ _ _
  | istore_n j => exact sI_p t0 fun _ _ => t1 _ _ _ _
  | astore j => exact sR_p t0 fun _ _ => t1 _ _ _ _
  | astore_n j => exact sR_p t0 fun _ _ => t1 _ _ _ _
  | iinc j v => exact xIl_p t0 fun _ => t1 _ _ _ _
  | iconst v => exact t1 _ _ _ _
  | bipush v => exact t1 _ _ _ _
  | sipush v => exact t1 _ _ _ _
  | ldc j => exact t1 _ _ _ _
  | ldc_w j => exact t1 _ _ _ _
  | lconst j => exact t1 _ _ _ _
  | aconst_null => exact t1 _ _ _ _
  | iadd => exact sII_p t0 fun _ _ _ => t1 _ _ _ _
  | isub => exact sII_p t0 fun _ _ _ => t1 _ _ _ _
  | imul => exact sII_p t0 fun _ _ _ => t1 _ _ _ _
  | idiv => exact sII_p t0 fun _ _ _ => ite_p t0 (t1 _ _ _ _)
  | irem => exact sII_p t0 fun _ _ _ => ite_p t0 (t1 _ _ _ _)
  | iand => exact sII_p t0 fun _ _ _ => t1 _ _ _ _
  | iushr => exact sII_p t0 fun _ _ _ => t1 _ _ _ _
  | ineg => exact sI_p t0 fun _ _ => t1 _ _ _ _
  | i2l => exact sI_p t0 fun _ _ => t1 _ _ _ _
  | lcmp => exact sLL_p t0 fun _ _ _ => t1 _ _ _ _
  | dup =>
    simp only [stp]
    refine sD_p t0 fun _ _ => ?_
    exact t1 _ _ _ _
  | dup2 => exact sIR_p t0 fun _ _ _ => t1 _ _ _ _
  | goto o => exact t1 _ _ _ _
  | if_icmp cd o => cases cd <;> exact sII_p t0 fun _ _ _ => ite_p (t1 _ _ _ _) (t1 _ _ _ _)
  | ifCond cd o => cases cd <;> exact sI_p t0 fun _ _ => ite_p (t1 _ _ _ _) (t1 _ _ _ _)
  | ifnull o => exact sN_p t0 (fun _ => t1 _ _ _ _) (fun _ => t1 _ _ _ _)
  | ifnonnull o => exact sN_p t0 (fun _ => t1 _ _ _ _) (fun _ => t1 _ _ _ _)
  | tableswitch dflt low hi offs => exact sI_p t0 fun _ _ => swt_p (fun _ => t1 _ _ _ _) _ _
  | lookupswitch dflt prs => exact sI_p t0 fun _ _ => swl_p (fun _ => t1 _ _ _ _) _
  | getfield j =>
    simp only [stp]
    refine sO_p t0 fun _ _ _ => ?_
    exact bif_p (fun _ => bif_p (fun _ => t1 _ _ _ _) (t1 _ _ _ _)) t0
  | putfield j =>
    have ha : a ≤ 50 := ha.elim id (fun h => absurd rfl (h j))
    exact bif_p (fun _ => sR_p t0 fun _ _ => sO_p t0 fun _ _ _ => bif_p (fun _ => t1 _ _ _ _) t0) (sI_p t0 fun _ _ => sO_p t0 fun _ _ _ => bif_p (fun hk => bif_p (fun _ => ite_p (t3 _ _ _ _ _ _ _ (by rw [beqN hk]; exact ha)) t0) (t3 _ _ _ _ _ _ _ (by rw [beqN hk]; exact ha))) t0)
  | iaload => exact sI_p t0 fun _ _ => sO_p t0 fun _ _ _ => bif_p (fun _ => ite_p (t1 _ _ _ _) t0) (bif_p (fun _ => bif_p (fun _ => ite_p (t1 _ _ _ _) t0) t0) t0)
  | iastore => exact sI_p t0 fun _ _ => sI_p t0 fun _ _ => sO_p t0 fun _ _ _ => bif_p (fun hk => ite_p (t3 _ _ _ _ _ _ _ (by rw [beqN hk]; omega)) t0) t0
  | baload => exact sI_p t0 fun _ _ => sO_p t0 fun _ _ _ => bif_p (fun _ => ite_p (t1 _ _ _ _) t0) t0
  | bastore => exact sI_p t0 fun _ _ => sI_p t0 fun _ _ => sO_p t0 fun _ _ _ => bif_p (fun hk => ite_p (ite_p (t3 _ _ _ _ _ _ _ (by rw [beqN hk]; omega)) t0) t0) t0
  | laload => exact sI_p t0 fun _ _ => sO_p t0 fun _ _ _ => bif_p (fun _ => ite_p (t1 _ _ _ _) t0) t0
  | lastore => exact sL_p t0 fun _ _ => sI_p t0 fun _ _ => sO_p t0 fun _ _ _ => bif_p (fun hk => ite_p (t3 _ _ _ _ _ _ _ (by rw [beqN hk]; omega)) t0) t0
  | aaload => exact sI_p t0 fun _ _ => sO_p t0 fun _ _ _ => bif_p (fun _ => bif_p (fun _ => ite_p (t1 _ _ _ _) t0) t0) t0
  | aastore =>
    simp only [stp]
    refine sO_p t0 fun _ _ _ => ?_
    refine sI_p t0 fun _ _ => ?_
    refine sO_p t0 fun _ _ _ => ?_
    exact bif_p (fun _ => bif_p (fun _ => ite_p (t1 _ _ _ _) t0) t0) t0
  | arraylength =>
    simp only [stp]
    refine sO_p t0 fun _ _ _ => ?_
    exact bif_p (fun _ => bif_p (fun _ => t1 _ _ _ _) t0) (bif_p (fun _ => bif_p (fun _ => t1 _ _ _ _) t0) t0)
  | newarray t => exact sI_p t0 fun _ _ => bif_p (fun _ => bif_p (fun _ => t2 _ _ _ _) t0) t0
  | anewarray t => exact sI_p t0 fun _ _ => bif_p (fun _ => bif_p (fun _ => t2 _ _ _ _) t0) t0
  | new t => exact bif_p (fun _ => s0_p t0 ⟨Nat.le_succ _, Nat.le_add_right _ _⟩) (bif_p (fun _ => t2 _ _ _ _) t0)
  | invokestatic t => exact bif_p (fun _ => sII_p t0 fun _ _ _ => bif_p (fun _ => t1 _ _ _ _) t0) (bif_p (fun _ => bif_p (fun _ => t4 _ _ _) t0) t0)
  | invokevirtual t => exact bif_p (fun _ => bif_p (fun _ => sO_p t0 fun _ _ _ => bif_p (fun _ => t4 _ _ _) t0) t0) t0
  | invokespecial t => exact bif_p (fun _ => sO_p t0 fun _ _ _ => bif_p (fun _ => t1 _ _ _ _) t0) (bif_p (fun _ => bif_p (fun _ => sO_p t0 fun _ _ _ => bif_p (fun _ => t4 _ _ _) t0) t0) t0)
  | ireturn => exact s1_p t0 fun _ => bif_p (fun _ => ite_p (t5 _) t0) (t5 _)
  | return_ => exact s0_p t0 (t5 _)
  | athrow => exact ⟨Nat.le_refl _, Nat.le_refl _⟩
  | _ => exact t0
theorem run_s (k m pc : Nat) (ls : lo) (st : List av) (fs : List fr) (I : IT) (C : CT) (n c z : Nat) : run (k + 1) m pc ls st fs I C n c z = match cd m pc with
    | none => (match mkd m pc with
      | none => none
      | some e => s0 st (el (fun pc' ls' st' I' C' n' c' z' => run k m pc' ls' st' fs I' C' n' c' z') (fun y as r => run k y 0 (ini y as) [] ((m, pc, kls ls, r) :: fs) (IZ I) CZ 0 c z) (fun v => fin (run k) (Sum.inl v) fs (IZ I) CZ 0 c z) (fun E c' z' => fin (run k) (Sum.inr E) fs (IZ I) CZ 0 c' z') (stc e pc (kls ls) [] (IZ I) CZ 0 c z)) none)
    | some e => el (fun pc' ls' st' I' C' n' c' z' => run k m pc' ls' st' fs I' C' n' c' z') (fun y as r => run k y 0 (ini y as) [] ((m, pc, ls, r) :: fs) I C n c z) (fun v => fin (run k) (Sum.inl v) fs I C n c z) (fun E c' z' => fin (run k) (Sum.inr E) fs I C n c' z') (stc e pc ls st I C n c z) := by
  show (match cd m pc with | none => (match mkd m pc with | none => none | some e => _) | some e => _) = _
  cases h : cd m pc with
  | none =>
    dsimp only
    cases h2 : mkd m pc with
    | none => rfl
    | some e =>
      dsimp only
      rw [stp_el]
  | some e => exact stp_el e pc ls st I C n c z _ _ _ _
/-- a run over frames below ends the upper ones first -/
theorem run_split (f : fr) (fs : List fr) (out : ou) : ∀ (k m pc : Nat) (ls : lo) (st : List av) (gs : List fr) (I : IT) (C : CT) (n c z : Nat), run k m pc ls st (gs ++ f :: fs) I C n c z = some out → ∃ (k1 k2 : Nat) (o : Option av ⊕ Nat) (I1 : IT) (C1 : CT) (n1 c1 z1 : Nat), k1 ≤ k ∧ k2 < k ∧ run k1 m pc ls st gs I C n c z = some (o, I1, C1, n1, c1, z1) ∧ fin (run k2) o (f :: fs) I1 C1 n1 c1 z1 = some out := by
  intro k
  induction k with
  | zero => intro m pc ls st gs I C n c z h; cases h
  | succ k ih =>
    intro m pc ls st gs I C n c z h
    rw [run_s] at h
    have fin_split : ∀ (o : Option av ⊕ Nat) (I : IT) (C : CT) (n c z : Nat), fin (run k) o (gs ++ f :: fs) I C n c z = some out → ∃ (k1 k2 : Nat) (o1 : Option av ⊕ Nat) (I1 : IT) (C1 : CT) (n1 c1 z1 : Nat), k1 ≤ k ∧ k2 < k + 1 ∧ fin (run k1) o gs I C n c z = some (o1, I1, C1, n1, c1, z1) ∧ fin (run k2) o1 (f :: fs) I1 C1 n1 c1 z1 = some out := by
      intro o I C n c z h
      cases gs with
      | nil => exact ⟨0, k, o, I, C, n, c, z, Nat.zero_le _, Nat.lt_succ_self k, rfl, h⟩
      | cons g gs =>
        obtain ⟨m1, pc1, ls1, st1⟩ := g
        cases o with
        | inl v =>
          obtain ⟨k1, k2, o1, I1, C1, n1, c1, z1, a1, a2, a3, a4⟩ := ih m1 (pc1 + 3) ls1 (v.toList ++ st1) gs I C n c z h
          exact ⟨k1, k2, o1, I1, C1, n1, c1, z1, a1, by omega, a3, a4⟩
        | inr E =>
          unfold fin at h ⊢
          dsimp only [List.cons_append] at h ⊢
          cases hh : hnd m1 pc1 E with
          | none => rw [hh] at h; cases h
          | some w =>
            rw [hh] at h
            cases w with
            | none =>
              obtain ⟨k1, k2, o1, I1, C1, n1, c1, z1, a1, a2, a3, a4⟩ := ih 999 E [] [] gs I C n c z h
              exact ⟨k1, k2, o1, I1, C1, n1, c1, z1, a1, by omega, a3, a4⟩
            | some w =>
              obtain ⟨hp, j⟩ := w
              obtain ⟨k1, k2, o1, I1, C1, n1, c1, z1, a1, a2, a3, a4⟩ := ih m1 hp (ls1.set j none) [] gs I C n c z h
              exact ⟨k1, k2, o1, I1, C1, n1, c1, z1, a1, by omega, a3, a4⟩
    have key : ∀ (e : ent) (ls : lo) (st : List av) (I : IT) (C : CT) (n : Nat), el (fun pc' ls' st' I' C' n' c' z' => run k m pc' ls' st' (gs ++ f :: fs) I' C' n' c' z') (fun y as r => run k y 0 (ini y as) [] ((m, pc, ls, r) :: (gs ++ f :: fs)) I C n c z) (fun v => fin (run k) (Sum.inl v) (gs ++ f :: fs) I C n c z) (fun E c' z' => fin (run k) (Sum.inr E) (gs ++ f :: fs) I C n c' z') (stc e pc ls st I C n c z) = some out → ∃ (k1 k2 : Nat) (o : Option av ⊕ Nat) (I1 : IT) (C1 : CT) (n1 c1 z1 : Nat), k1 ≤ k ∧ k2 < k + 1 ∧ el (fun pc' ls' st' I' C' n' c' z' => run k1 m pc' ls' st' gs I' C' n' c' z') (fun y as r => run k1 y 0 (ini y as) [] ((m, pc, ls, r) :: gs) I C n c z) (fun v => fin (run k1) (Sum.inl v) gs I C n c z) (fun E c' z' => fin (run k1) (Sum.inr E) gs I C n c' z') (stc e pc ls st I C n c z) = some (o, I1, C1, n1, c1, z1) ∧ fin (run k2) o (f :: fs) I1 C1 n1 c1 z1 = some out := by
      intro e ls st I C n h
      cases hs : stc e pc ls st I C n c z with
      | none => rw [hs] at h; cases h
      | some r =>
        rw [hs] at h
        rcases r with ⟨pc', ls', st', I', C', n', c', z'⟩ | ⟨y, as, r⟩ | v | ⟨E, c', z'⟩
        · obtain ⟨k1, k2, o, I1, C1, n1, c1, z1, a1, a2, a3, a4⟩ := ih m pc' ls' st' gs I' C' n' c' z' h
          exact ⟨k1, k2, o, I1, C1, n1, c1, z1, a1, by omega, a3, a4⟩
        · obtain ⟨k1, k2, o, I1, C1, n1, c1, z1, a1, a2, a3, a4⟩ := ih y 0 (ini y as) [] ((m, pc, ls, r) :: gs) I C n c z h
          exact ⟨k1, k2, o, I1, C1, n1, c1, z1, a1, by omega, a3, a4⟩
        · exact fin_split _ _ _ _ _ _ h
        · exact fin_split _ _ _ _ _ _ h
    cases hc : cd m pc with
    | none =>
      rw [hc] at h
      dsimp only at h
      cases hm : mkd m pc with
      | none => rw [hm] at h; cases h
      | some e =>
        rw [hm] at h
        dsimp only at h
        cases st with
        | cons v9 t9 => cases v9 <;> cases h
        | nil =>
          obtain ⟨k1, k2, o, I1, C1, n1, c1, z1, a1, a2, a3, a4⟩ := key e (kls ls) [] (IZ I) CZ 0 h
          refine ⟨k1 + 1, k2, o, I1, C1, n1, c1, z1, by omega, a2, ?_, a4⟩
          rw [run_s, hc]
          dsimp only
          rw [hm]
          exact a3
    | some e =>
      rw [hc] at h
      dsimp only at h
      obtain ⟨k1, k2, o, I1, C1, n1, c1, z1, a1, a2, a3, a4⟩ := key e ls st I C n h
      refine ⟨k1 + 1, k2, o, I1, C1, n1, c1, z1, by omega, a2, ?_, a4⟩
      rw [run_s, hc]
      exact a3
theorem IZ_99 {I : IT} {i j : Nat} : IZ I 99 i j = I 99 i j := if_pos (by omega)
/-- what a whole run keeps -/
theorem run_keep (hall : ∀ m pc e, cd m pc = some e → okA e) (hmk : ∀ m pc e, mkd m pc = some e → ∀ j, ¬ e.1 = .putfield j) : ∀ (k m pc : Nat) (ls : lo) (st : List av) (fs : List fr) (I : IT) (C : CT) (n c z : Nat) (o : Option av ⊕ Nat) (I1 : IT) (C1 : CT) (n1 c1 z1 : Nat), run k m pc ls st fs I C n c z = some (o, I1, C1, n1, c1, z1) → True ∧ c ≤ c1 ∧ z ≤ z1 ∧ ∀ i j, I1 99 i j = I 99 i j := by
  intro k
  induction k with
  | zero => intro m pc ls st fs I C n c z o I1 C1 n1 c1 z1 h; cases h
  | succ k ih =>
    intro m pc ls st fs I C n c z o I1 C1 n1 c1 z1 h
    rw [run_s] at h
    have finK : ∀ (o2 : Option av ⊕ Nat) (I : IT) (C : CT) (n c z : Nat), fin (run k) o2 fs I C n c z = some (o, I1, C1, n1, c1, z1) → True ∧ c ≤ c1 ∧ z ≤ z1 ∧ ∀ i j, I1 99 i j = I 99 i j := by
      intro o2 I C n c z h
      cases fs with
      | nil =>
        have h : some (o2, I, C, n, c, z) = some (o, I1, C1, n1, c1, z1) := h
        cases h
        exact ⟨trivial, Nat.le_refl _, Nat.le_refl _, fun _ _ => rfl⟩
      | cons g gs =>
        obtain ⟨m1, pc1, ls1, st1⟩ := g
        cases o2 with
        | inl v => exact ih _ _ _ _ _ _ _ _ _ _ _ _ _ _ _ _ h
        | inr E =>
          unfold fin at h
          dsimp only at h
          cases hh : hnd m1 pc1 E with
          | none => rw [hh] at h; cases h
          | some w =>
            rw [hh] at h
            cases w with
            | none => exact ih _ _ _ _ _ _ _ _ _ _ _ _ _ _ _ _ h
            | some w => exact ih _ _ _ _ _ _ _ _ _ _ _ _ _ _ _ _ h
    have key : ∀ (e : ent) (ls : lo) (st : List av) (I : IT) (C : CT) (n : Nat), (e.2.2.1 ≤ 50 ∨ ∀ j, ¬ e.1 = .putfield j) → el (fun pc' ls' st' I' C' n' c' z' => run k m pc' ls' st' fs I' C' n' c' z') (fun y as r => run k y 0 (ini y as) [] ((m, pc, ls, r) :: fs) I C n c z) (fun v => fin (run k) (Sum.inl v) fs I C n c z) (fun E c' z' => fin (run k) (Sum.inr E) fs I C n c' z') (stc e pc ls st I C n c z) = some (o, I1, C1, n1, c1, z1) → True ∧ c ≤ c1 ∧ z ≤ z1 ∧ ∀ i j, I1 99 i j = I 99 i j := by
      intro e ls st I C n hA h
      have hk := stc_keep0 e pc ls st I C n c z hA
      cases hs : stc e pc ls st I C n c z with
      | none => rw [hs] at h; cases h
      | some r =>
        rw [hs] at h hk
        rcases r with ⟨pc', ls', st', I', C', n', c', z'⟩ | ⟨y, as, r⟩ | v | ⟨E, c', z'⟩
        · obtain ⟨b1, b2, b3, b4⟩ := ih _ _ _ _ _ _ _ _ _ _ _ _ _ _ _ _ h
          obtain ⟨a1, a2, a3, a4⟩ := hk
          exact ⟨trivial, by omega, by omega, fun i j => (b4 i j).trans (a4 i j)⟩
        · exact ih _ _ _ _ _ _ _ _ _ _ _ _ _ _ _ _ h
        · exact finK _ _ _ _ _ _ h
        · obtain ⟨b1, b2, b3, b4⟩ := finK _ _ _ _ _ _ h
          obtain ⟨a2, a3⟩ := hk
          exact ⟨trivial, by omega, by omega, b4⟩
    cases hc : cd m pc with
    | none =>
      rw [hc] at h
      dsimp only at h
      cases hm : mkd m pc with
      | none => rw [hm] at h; cases h
      | some e =>
        rw [hm] at h
        dsimp only at h
        cases st with
        | cons v9 t9 => cases v9 <;> cases h
        | nil =>
          obtain ⟨b1, b2, b3, b4⟩ := key e (kls ls) [] (IZ I) CZ 0 (Or.inr (hmk m pc e hm)) h
          exact ⟨trivial, b2, b3, fun i j => (b4 i j).trans IZ_99⟩
    | some e =>
      rw [hc] at h
      dsimp only at h
      exact key e ls st I C n (hall m pc e hc).1 h
/-- a run without marked places keeps what is made -/
theorem run_keepN (hall : ∀ m pc e, cd m pc = some e → okA e) (hmk : ∀ m pc e, mkd m pc = some e → nm m = false) : ∀ (k m pc : Nat) (ls : lo) (st : List av) (fs : List fr) (I : IT) (C : CT) (n c z : Nat) (o : Option av ⊕ Nat) (I1 : IT) (C1 : CT) (n1 c1 z1 : Nat), nm m = true → (∀ f ∈ fs, nm f.1 = true) → run k m pc ls st fs I C n c z = some (o, I1, C1, n1, c1, z1) → n ≤ n1 := by
  intro k
  induction k with
  | zero => intro m pc ls st fs I C n c z o I1 C1 n1 c1 z1 _ _ h; cases h
  | succ k ih =>
    intro m pc ls st fs I C n c z o I1 C1 n1 c1 z1 hm hfs h
    rw [run_s] at h
    have finK : ∀ (o2 : Option av ⊕ Nat) (c z : Nat), fin (run k) o2 fs I C n c z = some (o, I1, C1, n1, c1, z1) → n ≤ n1 := by
      intro o2 c z h
      cases fs with
      | nil =>
        have h : some (o2, I, C, n, c, z) = some (o, I1, C1, n1, c1, z1) := h
        cases h
        exact Nat.le_refl _
      | cons g gs =>
        obtain ⟨m1, pc1, ls1, st1⟩ := g
        have hg : nm m1 = true := hfs _ List.mem_cons_self
        have hgs : ∀ f ∈ gs, nm f.1 = true := fun f hf => hfs f (List.mem_cons_of_mem _ hf)
        cases o2 with
        | inl v => exact ih _ _ _ _ _ _ _ _ _ _ _ _ _ _ _ _ hg hgs h
        | inr E =>
          unfold fin at h
          dsimp only at h
          cases hh : hnd m1 pc1 E with
          | none => rw [hh] at h; cases h
          | some w =>
            rw [hh] at h
            cases w with
            | none => exact ih _ _ _ _ _ _ _ _ _ _ _ _ _ _ _ _ rfl hgs h
            | some w => exact ih _ _ _ _ _ _ _ _ _ _ _ _ _ _ _ _ hg hgs h
    cases hc : cd m pc with
    | none =>
      rw [hc] at h
      dsimp only at h
      cases hm2 : mkd m pc with
      | none => rw [hm2] at h; cases h
      | some e => rw [hmk m pc e hm2] at hm; cases hm
    | some e =>
      rw [hc] at h
      dsimp only at h
      have hk := stc_keep e pc ls st I C n c z (hall m pc e hc)
      cases hs : stc e pc ls st I C n c z with
      | none => rw [hs] at h; cases h
      | some r =>
        rw [hs] at h hk
        rcases r with ⟨pc', ls', st', I', C', n', c', z'⟩ | ⟨y, as, r⟩ | v | ⟨E, c', z'⟩
        · have b1 := ih _ _ _ _ _ _ _ _ _ _ _ _ _ _ _ _ hm hfs h
          have a1 := hk.1
          omega
        · exact ih _ _ _ _ _ _ _ _ _ _ _ _ _ _ _ _ hk (fun f hf => by
            rcases List.mem_cons.mp hf with rfl | hf
            · exact hm
            · exact hfs f hf) h
        · exact finK _ _ _ h
        · exact finK _ _ _ h
theorem id_27 : ∀ k, k < 211 → (idOf k).1 < 27 := by decide +kernel
theorem kl1_inv {o : Option av} {v : av} (h : kl1 o = some v) : o = some v ∧ ∀ q, v = vq (some q) → q = (99, 0) := by
  unfold kl1 at h
  split at h
  · next q =>
    cases g : (Nat.beq q.1 99 && Nat.beq q.2 0)
    · rw [g] at h; cases h
    · rw [g] at h
      have h : some (Sum.inr (Sum.inr (some q))) = some v := h
      obtain ⟨a1, a2⟩ := and2 g
      refine ⟨h, fun q2 e => ?_⟩
      rw [e] at h
      cases h
      exact Prod.ext (beqN a1) (beqN a2)
  · next hne =>
    refine ⟨h, fun q e => ?_⟩
    subst e
    exact absurd h (fun g => hne q g)
theorem kls_inv {ls : lo} {i : Nat} {v : av} (h : (kls ls)[i]? = some (some v)) : ls[i]? = some (some v) ∧ ∀ q, v = vq (some q) → q = (99, 0) := by
  unfold kls at h
  rw [List.getElem?_map] at h
  cases g : ls[i]? with
  | none => rw [g] at h; cases h
  | some o =>
    rw [g] at h
    have h : some (kl1 o) = some (some v) := h
    obtain ⟨a1, a2⟩ := kl1_inv (Option.some.inj h)
    exact ⟨by rw [a1], a2⟩
