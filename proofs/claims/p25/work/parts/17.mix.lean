/-! The families 27 to 58 belong to no object of this law: what stands there plays no part in a run whose references are all of other families; and a run by itself is a run over any frames. -/
def mix (I G : IT) : IT := fun f i j => if 27 ≤ f ∧ f ≤ 58 then G f i j else I f i j
theorem mix_at {I G : IT} {f i j : Nat} (h : 27 ≤ f ∧ f ≤ 58) : mix I G f i j = G f i j := if_pos h
theorem mix_no {I G : IT} {f i j : Nat} (h : ¬ (27 ≤ f ∧ f ≤ 58)) : mix I G f i j = I f i j := if_neg h
theorem mix_mix {I G H : IT} : mix (mix I G) H = mix I H := by
  funext f i j
  by_cases h : 27 ≤ f ∧ f ≤ 58
  · rw [mix_at h, mix_at h]
  · rw [mix_no h, mix_no h, mix_no h]
theorem mix_self {I : IT} : mix I I = I := by
  funext f i j
  by_cases h : 27 ≤ f ∧ f ≤ 58
  · rw [mix_at h]
  · rw [mix_no h]
theorem mix_up {I G : IT} {f i k : Nat} {v : Int} (h : ¬ (27 ≤ f ∧ f ≤ 58)) : mix (up3 I f i k v) G = up3 (mix I G) f i k v := by
  funext f2 i2 j2
  by_cases q : 27 ≤ f2 ∧ f2 ≤ 58
  · rw [mix_at q, up3_ne (fun z => h (by rw [← z.1]; exact q)), mix_at q]
  · rw [mix_no q]
    unfold up3
    split
    · rfl
    · rw [mix_no q]
def mp (G : IT) : so → so
  | Sum.inl (pc, ls, st, I, C, n, c, z) => Sum.inl (pc, ls, st, mix I G, C, n, c, z)
  | Sum.inr x => Sum.inr x
def g1 (f : Nat) : Prop := ¬ (27 ≤ f ∧ f ≤ 58)
theorem g1_no {f : Nat} (h : g1 f) : ¬ (27 ≤ f ∧ f ≤ 58) := h
def gA (v : av) : Prop := ∀ q, v = vq (some q) → g1 q.1
def gS (st : List av) : Prop := ∀ v ∈ st, gA v
def gL (ls : lo) : Prop := ∀ v, some v ∈ ls → gA v
def gC (C : CT) : Prop := ∀ f i j q, g1 f → C f i j = some q → g1 q.1
theorem gA_i {x : Int} : gA (vi x) := fun q h => by cases h
theorem gA_l {x : Int} : gA (vl x) := fun q h => by cases h
theorem gA_n : gA (vq none) := fun q h => by cases h
theorem gA_r {f i : Nat} (h : g1 f) : gA (vr f i) := fun q e => by cases e; exact h
theorem gS.cons {v : av} {st : List av} (h : gS st) (g : gA v) : gS (v :: st) := fun w hw => by
  rcases List.mem_cons.mp hw with rfl | hw
  · exact g
  · exact h w hw
theorem gS.tail {v : av} {st : List av} (h : gS (v :: st)) : gS st := fun w hw => h w (List.mem_cons_of_mem _ hw)
theorem gS.head {v : av} {st : List av} (h : gS (v :: st)) : gA v := h v List.mem_cons_self
theorem gS.fam {f i : Nat} {st : List av} (h : gS (vr f i :: st)) : g1 f := h.head (f, i) rfl
theorem gL.set {ls : lo} {a : Nat} {o : Option av} (h : gL ls) (g : ∀ v, o = some v → gA v) : gL (ls.set a o) := fun v hv => by
  rcases List.mem_or_eq_of_mem_set hv with h1 | h1
  · exact h v h1
  · exact g v h1.symm
theorem nth_mem {β : Type} : ∀ (l : List β) (k : Nat) (v : β), nth l k = some v → v ∈ l
  | [], _, _, h => by cases h
  | a :: l, 0, v, h => by cases h; exact List.mem_cons_self
  | a :: l, k + 1, v, h => List.mem_cons_of_mem _ (nth_mem l k v h)
def gR : Option so → Prop
  | some (Sum.inl (_, ls, st, _, C, _, _, _)) => gL ls ∧ gS st ∧ gC C
  | some (Sum.inr (Sum.inl (_, as, r))) => gS as ∧ gS r
  | some (Sum.inr (Sum.inr (Sum.inl v))) => ∀ w, v = some w → gA w
  | _ => True
section CO
variable {α : Type} {st : List av}
theorem xIl_c {o : Option (Option av)} {k k2 : Int → α} {b : α} (h : ∀ x, o = some (some (vi x)) → k x = k2 x) : xIl o k b = xIl o k2 b := by
  unfold xIl; split <;> first | exact h _ rfl | rfl
theorem xRl_c {o : Option (Option av)} {k k2 : Option (Nat × Nat) → α} {b : α} (h : ∀ x, o = some (some (vq x)) → k x = k2 x) : xRl o k b = xRl o k2 b := by
  unfold xRl; split <;> first | exact h _ rfl | rfl
theorem sI_c {k k2 : Int → List av → α} {b : α} (h : ∀ x r, st = vi x :: r → k x r = k2 x r) : sI st k b = sI st k2 b := by
  unfold sI; split <;> first | exact h _ _ rfl | rfl
theorem sR_c {k k2 : Option (Nat × Nat) → List av → α} {b : α} (h : ∀ x r, st = vq x :: r → k x r = k2 x r) : sR st k b = sR st k2 b := by
  unfold sR; split <;> first | exact h _ _ rfl | rfl
theorem sL_c {k k2 : Int → List av → α} {b : α} (h : ∀ x r, st = vl x :: r → k x r = k2 x r) : sL st k b = sL st k2 b := by
  unfold sL; split <;> first | exact h _ _ rfl | rfl
theorem sO_c {k k2 : Nat → Nat → List av → α} {b : α} (h : ∀ f i r, st = vr f i :: r → k f i r = k2 f i r) : sO st k b = sO st k2 b := by
  unfold sO; split <;> first | exact h _ _ _ rfl | rfl
theorem bif_c {p : Bool} {x y x2 y2 : α} (h1 : p = true → x = x2) (h2 : y = y2) : (bif p then x else y) = (bif p then x2 else y2) := by
  cases p
  · exact h2
  · exact h1 rfl
theorem ite_c {p : Prop} {d : Decidable p} {x y x2 y2 : α} (h1 : x = x2) (h2 : y = y2) : @ite _ p d x y = @ite _ p d x2 y2 := by rw [h1, h2]
end CO
section QQ
variable {P : Option so → Prop} {st : List av}
theorem xIl_q {o : Option (Option av)} {k : Int → Option so} (h0 : P none) (h : ∀ x, o = some (some (vi x)) → P (k x)) : P (xIl o k none) := by
  unfold xIl; split <;> first | exact h _ rfl | exact h0
theorem xRl_q {o : Option (Option av)} {k : Option (Nat × Nat) → Option so} (h0 : P none) (h : ∀ x, o = some (some (vq x)) → P (k x)) : P (xRl o k none) := by
  unfold xRl; split <;> first | exact h _ rfl | exact h0
theorem sI_q {k : Int → List av → Option so} (h0 : P none) (h : ∀ x r, st = vi x :: r → P (k x r)) : P (sI st k none) := by
  unfold sI; split <;> first | exact h _ _ rfl | exact h0
theorem sII_q {k : Int → Int → List av → Option so} (h0 : P none) (h : ∀ x y r, st = vi y :: vi x :: r → P (k x y r)) : P (sII st k none) := by
  unfold sII; split <;> first | exact h _ _ _ rfl | exact h0
theorem sLL_q {k : Int → Int → List av → Option so} (h0 : P none) (h : ∀ x y r, st = vl y :: vl x :: r → P (k x y r)) : P (sLL st k none) := by
  unfold sLL; split <;> first | exact h _ _ _ rfl | exact h0
theorem sR_q {k : Option (Nat × Nat) → List av → Option so} (h0 : P none) (h : ∀ x r, st = vq x :: r → P (k x r)) : P (sR st k none) := by
  unfold sR; split <;> first | exact h _ _ rfl | exact h0
theorem sO_q {k : Nat → Nat → List av → Option so} (h0 : P none) (h : ∀ x y r, st = vr x y :: r → P (k x y r)) : P (sO st k none) := by
  unfold sO; split <;> first | exact h _ _ _ rfl | exact h0
theorem sD_q {k : av → List av → Option so} (h0 : P none) (h : ∀ x r, st = x :: r → P (k x r)) : P (sD st k none) := by
  unfold sD; split <;> first | exact h _ _ rfl | exact h0
theorem sIR_q {k : Int → Option (Nat × Nat) → List av → Option so} (h0 : P none) (h : ∀ x y r, st = vi x :: vq y :: r → P (k x y r)) : P (sIR st k none) := by
  unfold sIR; split <;> first | exact h _ _ _ rfl | exact h0
theorem sN_q {k1 k2 : List av → Option so} (h0 : P none) (h : ∀ v r, st = v :: r → P (k1 r) ∧ P (k2 r)) : P (sN st k1 k2 none) := by
  unfold sN; split <;> first | exact (h _ _ rfl).1 | exact (h _ _ rfl).2 | exact h0
theorem sL_q {k : Int → List av → Option so} (h0 : P none) (h : ∀ x r, st = vl x :: r → P (k x r)) : P (sL st k none) := by
  unfold sL; split <;> first | exact h _ _ rfl | exact h0
theorem s1_q {k : Int → Option so} (h0 : P none) (h : ∀ x, P (k x)) : P (s1 st k none) := s1_p h0 h
end QQ
set_option maxHeartbeats 4000000 in
theorem stc_mix (e : ent) (pc : Nat) (ls : lo) (st : List av) (I G : IT) (C : CT) (n c z : Nat) (hst : gS st) : stc e pc ls st (mix I G) C n c z = (stc e pc ls st I C n c z).map (mp G) := by
  obtain ⟨i, len, a, b, d⟩ := e
  have h0 : Option.map (mp G) none = none := rfl
  unfold stc
  cases i with
  | if_icmp cd o => cases cd <;> simp only [stp, sII_n (g := Option.map (mp G)) h0, ite_n (g := Option.map (mp G))] <;> rfl
  | ifCond cd o => cases cd <;> simp only [stp, sI_n (g := Option.map (mp G)) h0, ite_n (g := Option.map (mp G))] <;> rfl
  | getfield j =>
    simp only [stp, sO_n (g := Option.map (mp G)) h0, bif_n (g := Option.map (mp G))]
    refine sO_c fun f i r hs => ?_
    subst hs
    refine bif_c (fun hk => bif_c (fun _ => rfl) ?_) rfl
    rw [mix_no (g1_no hst.fam)]; rfl
  | putfield j =>
    simp only [stp, sO_n (g := Option.map (mp G)) h0, sR_n (g := Option.map (mp G)) h0, sI_n (g := Option.map (mp G)) h0, bif_n (g := Option.map (mp G)), ite_n (g := Option.map (mp G))]
    refine bif_c (fun _ => rfl) (sI_c fun x r hs => sO_c fun f i r' hs2 => ?_)
    subst hs; subst hs2
    refine bif_c (fun _ => bif_c (fun _ => ite_c ?_ rfl) ?_) rfl
    · rw [← mix_up (g1_no hst.tail.fam)]; rfl
    · rw [← mix_up (g1_no hst.tail.fam)]; rfl
  | iaload =>
    simp only [stp, sO_n (g := Option.map (mp G)) h0, sI_n (g := Option.map (mp G)) h0, bif_n (g := Option.map (mp G)), ite_n (g := Option.map (mp G))]
    refine sI_c fun x r hs => sO_c fun f i r' hs2 => ?_
    subst hs; subst hs2
    rw [mix_no (g1_no hst.tail.fam), mix_no (I := I) (G := G) (f := 99) (by omega), mix_no (I := I) (G := G) (f := 99) (by omega)]; rfl
  | iastore =>
    simp only [stp, sO_n (g := Option.map (mp G)) h0, sI_n (g := Option.map (mp G)) h0, bif_n (g := Option.map (mp G)), ite_n (g := Option.map (mp G))]
    refine sI_c fun v r0 hs0 => sI_c fun x r hs => sO_c fun f i r' hs2 => ?_
    subst hs0; subst hs; subst hs2
    rw [← mix_up (g1_no hst.tail.tail.fam)]; rfl
  | baload =>
    simp only [stp, sO_n (g := Option.map (mp G)) h0, sI_n (g := Option.map (mp G)) h0, bif_n (g := Option.map (mp G)), ite_n (g := Option.map (mp G))]
    refine sI_c fun x r hs => sO_c fun f i r' hs2 => ?_
    subst hs; subst hs2
    rw [mix_no (g1_no hst.tail.fam)]; rfl
  | bastore =>
    simp only [stp, sO_n (g := Option.map (mp G)) h0, sI_n (g := Option.map (mp G)) h0, bif_n (g := Option.map (mp G)), ite_n (g := Option.map (mp G))]
    refine sI_c fun v r0 hs0 => sI_c fun x r hs => sO_c fun f i r' hs2 => ?_
    subst hs0; subst hs; subst hs2
    rw [← mix_up (g1_no hst.tail.tail.fam)]; rfl
  | laload =>
    simp only [stp, sO_n (g := Option.map (mp G)) h0, sI_n (g := Option.map (mp G)) h0, bif_n (g := Option.map (mp G)), ite_n (g := Option.map (mp G))]
    refine sI_c fun x r hs => sO_c fun f i r' hs2 => ?_
    subst hs; subst hs2
    rw [mix_no (g1_no hst.tail.fam)]; rfl
  | lastore =>
    simp only [stp, sO_n (g := Option.map (mp G)) h0, sI_n (g := Option.map (mp G)) h0, sL_n (g := Option.map (mp G)) h0, bif_n (g := Option.map (mp G)), ite_n (g := Option.map (mp G))]
    refine sL_c fun v r0 hs0 => sI_c fun x r hs => sO_c fun f i r' hs2 => ?_
    subst hs0; subst hs; subst hs2
    rw [← mix_up (g1_no hst.tail.tail.fam)]; rfl
  | arraylength =>
    simp only [stp, sO_n (g := Option.map (mp G)) h0, bif_n (g := Option.map (mp G))]
    rw [mix_no (I := I) (G := G) (f := 99) (by omega)]; rfl
  | _ => first
    | rfl
    | (simp only [stp, xIl_n (g := Option.map (mp G)) h0, xRl_n (g := Option.map (mp G)) h0, sI_n (g := Option.map (mp G)) h0, sII_n (g := Option.map (mp G)) h0, sLL_n (g := Option.map (mp G)) h0, sR_n (g := Option.map (mp G)) h0, sO_n (g := Option.map (mp G)) h0, sD_n (g := Option.map (mp G)) h0, sIR_n (g := Option.map (mp G)) h0, sN_n (g := Option.map (mp G)) h0, sL_n (g := Option.map (mp G)) h0, s0_n (g := Option.map (mp G)) h0, s1_n (g := Option.map (mp G)) h0, ite_n (g := Option.map (mp G)), bif_n (g := Option.map (mp G)), swt_n (g := Option.map (mp G)), swl_n (g := Option.map (mp G))]; rfl)
theorem idOf_far {n : Nat} (h : 211 ≤ n) : (idOf n).1 = 98 := by
  have g : ∀ k, k ≤ 211 → Nat.ble k n = true := fun k hk => Nat.ble_eq.mpr (by omega)
  simp only [idOf, g 106 (by omega), g 159 (by omega), g 185 (by omega), g 198 (by omega), g 205 (by omega), g 208 (by omega), g 210 (by omega), g 211 (by omega), cond_true]
theorem idOf_g (n : Nat) : g1 (idOf n).1 := by
  rcases Nat.lt_or_ge n 211 with h | h
  · have := id_27 n h; unfold g1; omega
  · rw [idOf_far h]; unfold g1; omega
theorem gC.up {C : CT} {f i b : Nat} {r : Option (Nat × Nat)} (h : gC C) (g : ∀ q, r = some q → g1 q.1) : gC (up3 C f i b r) := fun f2 i2 j2 q hf hq => by
  unfold up3 at hq
  split at hq
  · exact g q hq
  · exact h f2 i2 j2 q hf hq
set_option maxHeartbeats 4000000 in
theorem stc_g (e : ent) (pc : Nat) (ls : lo) (st : List av) (I : IT) (C : CT) (n c z : Nat) (hl : gL ls) (hs : gS st) (hC : gC C) : gR (stc e pc ls st I C n c z) := by
  obtain ⟨i, len, a, b, d⟩ := e
  have t0 : gR none := trivial
  have k1 : ∀ {pc : Nat} {ls : lo} {st : List av} {I : IT} {C : CT} {n c z : Nat}, gL ls → gS st → gC C → gR (some (Sum.inl (pc, ls, st, I, C, n, c, z))) := fun h1 h2 h3 => ⟨h1, h2, h3⟩
  have si : ∀ {x : Int}, ∀ v, some (vi x) = some v → gA v := fun v h => by cases h; exact gA_i
  unfold stc
  cases i with
  | iload j => exact xIl_q t0 fun _ _ => k1 hl (hs.cons gA_i) hC
  | iload_n j => exact xIl_q t0 fun _ _ => k1 hl (hs.cons gA_i) hC
  | aload j => exact xRl_q t0 fun _ h => k1 hl (hs.cons (hl _ (nth_mem _ _ _ h))) hC
  | aload_n j => exact xRl_q t0 fun _ h => k1 hl (hs.cons (hl _ (nth_mem _ _ _ h))) hC
  | istore j => exact sI_q t0 fun _ _ h => by subst h; exact k1 (hl.set si) hs.tail hC
  | istore_n j => exact sI_q t0 fun _ _ h => by subst h; exact k1 (hl.set si) hs.tail hC
  | astore j => exact sR_q t0 fun _ _ h => by subst h; exact k1 (hl.set (fun v e => by cases e; exact hs.head)) hs.tail hC
  | astore_n j => exact sR_q t0 fun _ _ h => by subst h; exact k1 (hl.set (fun v e => by cases e; exact hs.head)) hs.tail hC
  | iinc j v => exact xIl_q t0 fun _ _ => k1 (hl.set si) hs hC
  | iconst v => exact k1 hl (hs.cons gA_i) hC
  | bipush v => exact k1 hl (hs.cons gA_i) hC
  | sipush v => exact k1 hl (hs.cons gA_i) hC
  | ldc j => exact k1 hl (hs.cons gA_i) hC
  | ldc_w j => exact k1 hl (hs.cons gA_i) hC
  | lconst j => exact k1 hl (hs.cons gA_l) hC
  | aconst_null => exact k1 hl (hs.cons gA_n) hC
  | iadd => exact sII_q t0 fun _ _ _ h => by subst h; exact k1 hl (hs.tail.tail.cons gA_i) hC
  | isub => exact sII_q t0 fun _ _ _ h => by subst h; exact k1 hl (hs.tail.tail.cons gA_i) hC
  | imul => exact sII_q t0 fun _ _ _ h => by subst h; exact k1 hl (hs.tail.tail.cons gA_i) hC
  | idiv => exact sII_q t0 fun _ _ _ h => by subst h; exact ite_p t0 (k1 hl (hs.tail.tail.cons gA_i) hC)
  | irem => exact sII_q t0 fun _ _ _ h => by subst h; exact ite_p t0 (k1 hl (hs.tail.tail.cons gA_i) hC)
  | iand => exact sII_q t0 fun _ _ _ h => by subst h; exact k1 hl (hs.tail.tail.cons gA_i) hC
  | iushr => exact sII_q t0 fun _ _ _ h => by subst h; exact k1 hl (hs.tail.tail.cons gA_i) hC
  | ineg => exact sI_q t0 fun _ _ h => by subst h; exact k1 hl (hs.tail.cons gA_i) hC
  | i2l => exact sI_q t0 fun _ _ h => by subst h; exact k1 hl (hs.tail.cons gA_l) hC
  | lcmp => exact sLL_q t0 fun _ _ _ h => by subst h; exact k1 hl (hs.tail.tail.cons gA_i) hC
  | dup =>
    simp only [stp]
    refine sD_q t0 fun _ _ h => ?_
    subst h
    exact k1 hl (hs.cons hs.head) hC
  | dup2 => exact sIR_q t0 fun _ _ _ h => by subst h; exact k1 hl ((hs.cons hs.tail.head).cons gA_i) hC
  | goto o => exact k1 hl hs hC
  | if_icmp cd o => cases cd <;> exact sII_q t0 fun _ _ _ h => by subst h; exact ite_p (k1 hl hs.tail.tail hC) (k1 hl hs.tail.tail hC)
  | ifCond cd o => cases cd <;> exact sI_q t0 fun _ _ h => by subst h; exact ite_p (k1 hl hs.tail hC) (k1 hl hs.tail hC)
  | ifnull o => exact sN_q t0 fun _ _ h => by subst h; exact ⟨k1 hl hs.tail hC, k1 hl hs.tail hC⟩
  | ifnonnull o => exact sN_q t0 fun _ _ h => by subst h; exact ⟨k1 hl hs.tail hC, k1 hl hs.tail hC⟩
  | tableswitch dflt low hi offs => exact sI_q t0 fun _ _ h => by subst h; exact swt_p (fun _ => k1 hl hs.tail hC) _ _
  | lookupswitch dflt prs => exact sI_q t0 fun _ _ h => by subst h; exact swl_p (fun _ => k1 hl hs.tail hC) _
  | getfield j =>
    simp only [stp]
    refine sO_q t0 fun f i r h => ?_
    subst h
    exact bif_p (fun _ => bif_p (fun _ => k1 hl (hs.tail.cons (fun q e => hC _ _ _ q hs.fam (Sum.inr.inj (Sum.inr.inj e)))) hC) (k1 hl (hs.tail.cons gA_i) hC)) t0
  | putfield j =>
    refine bif_p (fun _ => sR_q t0 fun x r h => sO_q t0 fun f i r' h2 => ?_) (sI_q t0 fun x r h => sO_q t0 fun f i r' h2 => ?_)
    · subst h; subst h2
      exact bif_p (fun _ => k1 hl hs.tail.tail (hC.up (fun q e => hs.head q (by rw [e])))) t0
    · subst h; subst h2
      exact bif_p (fun _ => bif_p (fun _ => ite_p (k1 hl hs.tail.tail hC) t0) (k1 hl hs.tail.tail hC)) t0
  | iaload =>
    exact sI_q t0 fun _ _ h => sO_q t0 fun _ _ _ h2 => by
        subst h; subst h2
        exact bif_p (fun _ => ite_p (k1 hl (hs.tail.tail.cons gA_i) hC) t0) (bif_p (fun _ => bif_p (fun _ => ite_p (k1 hl (hs.tail.tail.cons gA_i) hC) t0) t0) t0)
  | iastore =>
    exact sI_q t0 fun _ _ h0 => sI_q t0 fun _ _ h => sO_q t0 fun _ _ _ h2 => by
        subst h0; subst h; subst h2
        exact bif_p (fun _ => ite_p (k1 hl hs.tail.tail.tail hC) t0) t0
  | baload =>
    exact sI_q t0 fun _ _ h => sO_q t0 fun _ _ _ h2 => by
        subst h; subst h2
        exact bif_p (fun _ => ite_p (k1 hl (hs.tail.tail.cons gA_i) hC) t0) t0
  | bastore =>
    exact sI_q t0 fun _ _ h0 => sI_q t0 fun _ _ h => sO_q t0 fun _ _ _ h2 => by
        subst h0; subst h; subst h2
        exact bif_p (fun _ => ite_p (ite_p (k1 hl hs.tail.tail.tail hC) t0) t0) t0
  | laload =>
    exact sI_q t0 fun _ _ h => sO_q t0 fun _ _ _ h2 => by
        subst h; subst h2
        exact bif_p (fun _ => ite_p (k1 hl (hs.tail.tail.cons gA_l) hC) t0) t0
  | lastore =>
    exact sL_q t0 fun _ _ h0 => sI_q t0 fun _ _ h => sO_q t0 fun _ _ _ h2 => by
        subst h0; subst h; subst h2
        exact bif_p (fun _ => ite_p (k1 hl hs.tail.tail.tail hC) t0) t0
  | aaload =>
    exact sI_q t0 fun _ _ h => sO_q t0 fun _ _ _ h2 => by
        subst h; subst h2
        exact bif_p (fun _ => bif_p (fun _ => ite_p (k1 hl (hs.tail.tail.cons (fun q e => hC _ _ _ q hs.tail.fam (Sum.inr.inj (Sum.inr.inj e)))) hC) t0) t0) t0
  | aastore =>
    simp only [stp]
    refine sO_q t0 fun g j r h0 => ?_
    refine sI_q t0 fun x r1 h => ?_
    refine sO_q t0 fun f i r' h2 => ?_
    subst h0; subst h; subst h2
    exact bif_p (fun _ => bif_p (fun _ => ite_p (k1 hl hs.tail.tail.tail (hC.up (fun q e => by cases e; exact hs.fam))) t0) t0) t0
  | arraylength =>
    simp only [stp]
    refine sO_q t0 fun _ _ _ h => ?_
    subst h
    exact bif_p (fun _ => bif_p (fun _ => k1 hl (hs.tail.cons gA_i) hC) t0) (bif_p (fun _ => bif_p (fun _ => k1 hl (hs.tail.cons gA_i) hC) t0) t0)
  | newarray t => exact sI_q t0 fun _ _ h => by subst h; exact bif_p (fun _ => bif_p (fun _ => k1 hl (hs.tail.cons (gA_r (idOf_g n))) hC) t0) t0
  | anewarray t => exact sI_q t0 fun _ _ h => by subst h; exact bif_p (fun _ => bif_p (fun _ => k1 hl (hs.tail.cons (gA_r (idOf_g n))) hC) t0) t0
  | new t => exact bif_p (fun _ => s0_p t0 trivial) (bif_p (fun _ => k1 hl (hs.cons (gA_r (idOf_g n))) hC) t0)
  | invokestatic t => exact bif_p (fun _ => sII_q t0 fun _ _ _ h => by subst h; exact bif_p (fun _ => k1 hl (hs.tail.tail.cons gA_i) hC) t0) (bif_p (fun _ => bif_p (fun _ => ⟨fun v hv => hs v (List.mem_of_mem_take (List.mem_reverse.mp hv)), fun v hv => hs v (List.mem_of_mem_drop hv)⟩) t0) t0)
  | invokevirtual t =>
    refine bif_p (fun _ => bif_p (fun _ => sO_q t0 fun f i as h => bif_p (fun _ => ⟨fun v hv => ?_, fun v hv => hs v (List.mem_of_mem_drop hv)⟩) t0) t0) t0
    rw [← h] at hv
    exact hs v (List.mem_of_mem_take (List.mem_reverse.mp hv))
  | invokespecial t =>
    refine bif_p (fun _ => sO_q t0 fun _ _ _ h => ?_) (bif_p (fun _ => bif_p (fun _ => sO_q t0 fun f i as h => bif_p (fun _ => ⟨fun v hv => ?_, fun v hv => hs v (List.mem_of_mem_drop hv)⟩) t0) t0) t0)
    · subst h
      exact bif_p (fun _ => k1 hl hs.tail hC) t0
    · rw [← h] at hv
      exact hs v (List.mem_of_mem_take (List.mem_reverse.mp hv))
  | ireturn => exact s1_q t0 fun _ => bif_p (fun _ => ite_p si t0) si
  | return_ => exact s0_p t0 (fun w h => by cases h)
  | athrow => exact trivial
  | _ => exact t0
def gF (fs : List fr) : Prop := ∀ f ∈ fs, gL f.2.2.1 ∧ gS f.2.2.2
theorem gL_ini {y : Nat} {as : List av} (h : gS as) : gL (ini y as) := fun v hv => by
  unfold ini at hv
  rcases List.mem_append.mp hv with h1 | h1
  · obtain ⟨w, hw, e⟩ := List.mem_map.mp h1
    cases e
    exact h _ hw
  · have := List.eq_of_mem_replicate h1
    cases this
theorem gL_kls {ls : lo} (h : gL ls) : gL (kls ls) := fun v hv => by
  unfold kls at hv
  obtain ⟨o, ho, e⟩ := List.mem_map.mp hv
  obtain ⟨a1, _⟩ := kl1_inv e
  subst a1
  exact h v ho
theorem gF.cons {m pc : Nat} {ls : lo} {st : List av} {fs : List fr} (h : gF fs) (hl : gL ls) (hs : gS st) : gF ((m, pc, ls, st) :: fs) := fun f hf => by
  rcases List.mem_cons.mp hf with rfl | hf
  · exact ⟨hl, hs⟩
  · exact h f hf
theorem gF.tail {f : fr} {fs : List fr} (h : gF (f :: fs)) : gF fs := fun g hg => h g (List.mem_cons_of_mem _ hg)
theorem gS_0 : gS [] := fun v hv => by cases hv
def mo (G : IT) (u : ou) : ou := (u.1, mix u.2.1 G, u.2.2)
theorem gC_Cs {cc : Nat → Option Nat} : gC (Cs cc) := fun f i j q hf h => by
  unfold Cs at h
  have key : ∀ {a b : Nat}, g1 a → (some (a, b) : Option (Nat × Nat)) = some q → g1 q.1 := fun ha e => by cases e; exact ha
  have t : ∀ {a : Nat}, a < 27 → g1 a := fun ha => by unfold g1; omega
  split at h
  · split at h <;> first | exact key (t (by decide)) h | cases h
  · split at h <;> first | exact key (t (by decide)) h | cases h
  · split at h <;> first | exact key (t (by decide)) h | cases h
  · exact key (t (by decide)) h
  · exact key (t (by decide)) h
  · split at h <;> first | exact key (t (by decide)) h | cases h
  · split at h <;> first | exact key (t (by decide)) h | cases h
  · split at h <;> first | exact key (t (by decide)) h | cases h
  · exact key (t (by decide)) h
  · exact key (t (by decide)) h
  · split at h
    · cases g : cc i with
      | none => rw [g] at h; cases h
      | some q9 => rw [g] at h; exact key (t (by decide)) h
    · cases h
  · split at h <;> first | exact key (t (by decide)) h | cases h
  · exact key (t (by decide)) h
  · exact key (t (by decide)) h
  · split at h <;> first | exact key (t (by decide)) h | cases h
  · exact absurd hf (fun h9 => h9 ⟨by decide, by decide⟩)
  · cases h
theorem gC_C0 : gC C0 := fun f i j q hf h => by
  have h : (bif rs f i j then none else C9 f i j) = some q := h
  cases g : rs f i j
  · rw [g] at h; exact gC_Cs (cc := fun _ => none) f i j q hf (show Cs (fun _ => none) f i j = some q from h)
  · rw [g] at h; cases h
/-- what stands in the families 27 to 58 plays no part -/
theorem run_mix (G : IT) (hG : ∀ I : IT, IZ (mix I G) = mix (IZ I) G) : ∀ (k m pc : Nat) (ls : lo) (st : List av) (fs : List fr) (I : IT) (C : CT) (n c z : Nat) (u : ou), gL ls → gS st → gF fs → gC C → run k m pc ls st fs I C n c z = some u → run k m pc ls st fs (mix I G) C n c z = some (mo G u) := by
  intro k
  induction k with
  | zero => intro m pc ls st fs I C n c z u _ _ _ _ h; cases h
  | succ k ih =>
    intro m pc ls st fs I C n c z u hl hs hf hC h
    rw [run_s] at h ⊢
    have finK : ∀ (o2 : Option av ⊕ Nat) (I : IT) (C : CT) (n c z : Nat), gC C → (∀ v w, o2 = Sum.inl v → v = some w → gA w) → fin (run k) o2 fs I C n c z = some u → fin (run k) o2 fs (mix I G) C n c z = some (mo G u) := by
      intro o2 I C n c z hC ho h
      cases fs with
      | nil =>
        have h : some (o2, I, C, n, c, z) = some u := h
        cases h
        rfl
      | cons g gs =>
        obtain ⟨m1, pc1, ls1, st1⟩ := g
        obtain ⟨g1, g2⟩ := hf _ List.mem_cons_self
        cases o2 with
        | inl v =>
          refine ih _ _ _ _ _ _ _ _ _ _ _ g1 (fun w hw => ?_) hf.tail hC h
          rcases List.mem_append.mp hw with h1 | h1
          · cases v with
            | none => cases h1
            | some v =>
              have : w = v := by simpa using h1
              subst this
              exact ho _ _ rfl rfl
          · exact g2 w h1
        | inr E =>
          unfold fin at h ⊢
          dsimp only at h ⊢
          cases hh : hnd m1 pc1 E with
          | none => rw [hh] at h; cases h
          | some w =>
            rw [hh] at h
            cases w with
            | none => exact ih _ _ _ _ _ _ _ _ _ _ _ (fun v hv => by cases hv) gS_0 hf.tail hC h
            | some w => exact ih _ _ _ _ _ _ _ _ _ _ _ (g1.set (fun v e => by cases e)) gS_0 hf.tail hC h
    have key : ∀ (e : ent) (ls : lo) (st : List av) (I : IT) (C : CT) (n : Nat), gL ls → gS st → gC C → el (fun pc' ls' st' I' C' n' c' z' => run k m pc' ls' st' fs I' C' n' c' z') (fun y as r => run k y 0 (ini y as) [] ((m, pc, ls, r) :: fs) I C n c z) (fun v => fin (run k) (Sum.inl v) fs I C n c z) (fun E c' z' => fin (run k) (Sum.inr E) fs I C n c' z') (stc e pc ls st I C n c z) = some u → el (fun pc' ls' st' I' C' n' c' z' => run k m pc' ls' st' fs I' C' n' c' z') (fun y as r => run k y 0 (ini y as) [] ((m, pc, ls, r) :: fs) (mix I G) C n c z) (fun v => fin (run k) (Sum.inl v) fs (mix I G) C n c z) (fun E c' z' => fin (run k) (Sum.inr E) fs (mix I G) C n c' z') (stc e pc ls st (mix I G) C n c z) = some (mo G u) := by
      intro e ls st I C n hl hs hC h
      rw [stc_mix e pc ls st I G C n c z hs]
      have hg := stc_g e pc ls st I C n c z hl hs hC
      cases hq : stc e pc ls st I C n c z with
      | none => rw [hq] at h; cases h
      | some r =>
        rw [hq] at h hg
        rcases r with ⟨pc', ls', st', I', C', n', c', z'⟩ | ⟨y, as, r⟩ | v | ⟨E, c', z'⟩
        · exact ih _ _ _ _ _ _ _ _ _ _ _ hg.1 hg.2.1 hf hg.2.2 h
        · exact ih _ _ _ _ _ _ _ _ _ _ _ (gL_ini hg.1) gS_0 (hf.cons hl hg.2) hC h
        · exact finK _ _ _ _ _ _ hC (fun v2 w e1 e2 => by cases e1; exact hg w e2) h
        · exact finK _ _ _ _ _ _ hC (fun v2 w e1 e2 => by cases e1) h
    cases hc : cd m pc with
    | none =>
      rw [hc] at h
      dsimp only at h ⊢
      cases hm : mkd m pc with
      | none => rw [hm] at h; cases h
      | some e =>
        rw [hm] at h
        dsimp only at h ⊢
        cases st with
        | cons v9 t9 => cases v9 <;> cases h
        | nil =>
          rw [hG]
          exact key e (kls ls) [] (IZ I) CZ 0 (gL_kls hl) gS_0 gC_C0 h
    | some e =>
      rw [hc] at h
      dsimp only at h ⊢
      exact key e ls st I C n hl hs hC h
theorem IZ_mix {I G : IT} : IZ (mix I G) = mix (IZ I) G := by
  funext f i j
  unfold IZ mix
  by_cases h : 27 ≤ f ∧ f ≤ 58
  · rw [if_pos h.1, if_pos h, if_pos h]
  · rw [if_neg h, if_neg h]
/-- a run by itself is a run over any frames -/
theorem run_app (fs : List fr) : ∀ (k m pc : Nat) (ls : lo) (st : List av) (gs : List fr) (I : IT) (C : CT) (n c z : Nat) (o : Option av ⊕ Nat) (I1 : IT) (C1 : CT) (n1 c1 z1 : Nat), run k m pc ls st gs I C n c z = some (o, I1, C1, n1, c1, z1) → ∃ t, ∀ j, run (j + t) m pc ls st (gs ++ fs) I C n c z = fin (run j) o fs I1 C1 n1 c1 z1 := by
  intro k
  induction k with
  | zero => intro m pc ls st gs I C n c z o I1 C1 n1 c1 z1 h; cases h
  | succ k ih =>
    intro m pc ls st gs I C n c z o I1 C1 n1 c1 z1 h
    rw [run_s] at h
    have finK : ∀ (o2 : Option av ⊕ Nat) (I : IT) (C : CT) (n c z : Nat), fin (run k) o2 gs I C n c z = some (o, I1, C1, n1, c1, z1) → ∃ t, ∀ j, fin (run (j + t)) o2 (gs ++ fs) I C n c z = fin (run j) o fs I1 C1 n1 c1 z1 := by
      intro o2 I C n c z h
      cases gs with
      | nil =>
        have h : some (o2, I, C, n, c, z) = some (o, I1, C1, n1, c1, z1) := h
        cases h
        exact ⟨0, fun _ => rfl⟩
      | cons g gs =>
        obtain ⟨m1, pc1, ls1, st1⟩ := g
        cases o2 with
        | inl v => exact ih _ _ _ _ _ _ _ _ _ _ _ _ _ _ _ _ h
        | inr E =>
          unfold fin at h
          dsimp only at h
          cases hh : hnd m1 pc1 E with
          | none => rw [hh] at h; cases h
          | some w =>
            rw [hh] at h
            have e9 : ∀ R : RT, fin R (Sum.inr E) ((m1, pc1, ls1, st1) :: gs ++ fs) I C n c z = (match hnd m1 pc1 E with
              | none => none
              | some none => R 999 E [] [] (gs ++ fs) I C n c z
              | some (some (h, k)) => R m1 h (ls1.set k none) [] (gs ++ fs) I C n c z) := fun _ => rfl
            cases w with
            | none =>
              obtain ⟨t, ht⟩ := ih _ _ _ _ _ _ _ _ _ _ _ _ _ _ _ _ h
              exact ⟨t, fun j => by rw [e9, hh]; exact ht j⟩
            | some w =>
              obtain ⟨t, ht⟩ := ih _ _ _ _ _ _ _ _ _ _ _ _ _ _ _ _ h
              exact ⟨t, fun j => by rw [e9, hh]; exact ht j⟩
    have key : ∀ (e : ent) (ls : lo) (st : List av) (I : IT) (C : CT) (n : Nat), el (fun pc' ls' st' I' C' n' c' z' => run k m pc' ls' st' gs I' C' n' c' z') (fun y as r => run k y 0 (ini y as) [] ((m, pc, ls, r) :: gs) I C n c z) (fun v => fin (run k) (Sum.inl v) gs I C n c z) (fun E c' z' => fin (run k) (Sum.inr E) gs I C n c' z') (stc e pc ls st I C n c z) = some (o, I1, C1, n1, c1, z1) → ∃ t, ∀ j, el (fun pc' ls' st' I' C' n' c' z' => run (j + t) m pc' ls' st' (gs ++ fs) I' C' n' c' z') (fun y as r => run (j + t) y 0 (ini y as) [] ((m, pc, ls, r) :: (gs ++ fs)) I C n c z) (fun v => fin (run (j + t)) (Sum.inl v) (gs ++ fs) I C n c z) (fun E c' z' => fin (run (j + t)) (Sum.inr E) (gs ++ fs) I C n c' z') (stc e pc ls st I C n c z) = fin (run j) o fs I1 C1 n1 c1 z1 := by
      intro e ls st I C n h
      cases hs : stc e pc ls st I C n c z with
      | none => rw [hs] at h; cases h
      | some r =>
        rw [hs] at h
        rcases r with ⟨pc', ls', st', I', C', n', c', z'⟩ | ⟨y, as, r⟩ | v | ⟨E, c', z'⟩
        · exact ih _ _ _ _ _ _ _ _ _ _ _ _ _ _ _ _ h
        · exact ih y 0 (ini y as) [] ((m, pc, ls, r) :: gs) _ _ _ _ _ _ _ _ _ _ _ h
        · exact finK _ _ _ _ _ _ h
        · exact finK _ _ _ _ _ _ h
    cases hc : cd m pc with
    | none =>
      rw [hc] at h
      dsimp only at h
      cases hm : mkd m pc with
      | none => rw [hm] at h; cases h
      | some e =>
        rw [hm] at h
        dsimp only at h
        cases st with
        | cons v9 t9 => cases v9 <;> cases h
        | nil =>
          obtain ⟨t, ht⟩ := key e (kls ls) [] (IZ I) CZ 0 h
          refine ⟨t + 1, fun j => ?_⟩
          rw [← Nat.add_assoc, run_s, hc]
          dsimp only
          rw [hm]
          exact ht j
    | some e =>
      rw [hc] at h
      dsimp only at h
      obtain ⟨t, ht⟩ := key e ls st I C n h
      refine ⟨t + 1, fun j => ?_⟩
      rw [← Nat.add_assoc, run_s, hc]
      exact ht j
/-- from a run by itself to what a run over frames comes to -/
theorem Rn_run {k m pc : Nat} {ls : lo} {st : List av} {fs : List fr} {I : IT} {C : CT} {n c z : Nat} {o : Option av ⊕ Nat} {I1 : IT} {C1 : CT} {n1 c1 z1 : Nat} {out : oP} (h : run k m pc ls st [] I C n c z = some (o, I1, C1, n1, c1, z1)) (g : Rf o fs I1 C1 n1 c1 z1 out) : Rn m pc ls st fs I C n c z out := by
  obtain ⟨t, ht⟩ := run_app fs k m pc ls st [] I C n c z o I1 C1 n1 c1 z1 h
  exact Rn.sh t ht g
