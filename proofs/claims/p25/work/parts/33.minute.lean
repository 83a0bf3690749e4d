theorem k69_83 {fs : List fr} {I : IT} {cc : Nat → Option Nat} {n c z : Nat} {out : oP} {k : Int} (h : Rn 55 0 [some (vr 27 0), none, none, none, none, none] [] ((69, 84, [some (vr 27 0), some (vi k)], []) :: fs) I (Cs cc) n c z out) : Rn 69 83 [some (vr 27 0), some (vi k)] [] (fs) I (Cs cc) n c z out :=
  (Rn.aload_n (pc2 := 84) rfl rfl rfl (Rn.ivir (as := []) (r := []) (ls2 := [some (vr 27 0), none, none, none, none, none]) (f := 27) (i := 0) rfl rfl rfl rfl rfl rfl rfl h))

theorem k69_87 {fs : List fr} {I : IT} {cc : Nat → Option Nat} {n c z : Nat} {out : oP} {k : Int} (h : Rf (Sum.inl none) fs I (Cs cc) n c z out) : Rn 69 87 [some (vr 27 0), some (vi k)] [] (fs) I (Cs cc) n c z out :=
  (Rn.vret rfl h)

theorem VC_ag {S S2 : IT} (V : VC S) (h : ∀ f i j, f = 37 ∨ f = 39 ∨ f = 40 ∨ f = 42 ∨ f = 44 ∨ f = 47 → S2 f i j = S f i j) (h1 : S2 27 0 1 = S 27 0 1) (h14 : S2 27 0 14 = S 27 0 14) (h18 : S2 27 0 18 = S 27 0 18) : VC S2 := by
  obtain ⟨v1, v2, v3, v4, v5, v6, v7, v8⟩ := V
  refine ⟨by rw [h14]; exact v1, by rw [h14]; exact v2, by rw [h18]; exact v3, by rw [h18]; exact v4, by rw [h1]; exact v5, by rw [h1]; exact v6, fun k hk => ?_, fun q hq => ?_⟩
  · rw [h14] at hk; rw [h 37 0 k (by omega), h 39 0 k (by omega), h1, h18]; exact v7 k hk
  · rw [h18] at hq; rw [h 42 0 q (by omega), h 44 0 q (by omega), h 40 0 q (by omega), h 47 0 q (by omega), h1]; exact v8 q hq
theorem VD_ag {S S2 : IT} (V : VD S) (h : ∀ f i j, 48 ≤ f → f ≤ 58 → S2 f i j = S f i j) (h1 : S2 27 0 1 = S 27 0 1) (h27 : S2 27 0 27 = S 27 0 27) (h30 : S2 27 0 30 = S 27 0 30) : VD S2 := by
  obtain ⟨v1, v2, v3, v4, v5, v6, v7, v8, v9, v10⟩ := V
  have htk : tk S2 40 = tk S 40 := tk_eq (fun x => by rw [h 53 0 x (by omega) (by omega)]) 40
  refine ⟨by rw [h27]; exact v1, by rw [h27]; exact v2, by rw [h30]; exact v3, by rw [h30]; exact v4, by rw [h1]; exact v5, by rw [h1]; exact v6, fun k hk => ?_, fun k hk => ?_, fun x hx => ?_, fun x hx hx2 => ?_⟩
  · rw [h27] at hk; rw [h 48 0 k (by omega) (by omega), h1]; exact v7 k hk
  · rw [h 49 0 k (by omega) (by omega), htk]; exact v8 k hk
  · rw [h30] at hx
    rw [h 50 0 x (by omega) (by omega), h 52 0 x (by omega) (by omega), h 53 0 x (by omega) (by omega), h 55 0 x (by omega) (by omega), h 56 0 x (by omega) (by omega), h 58 0 x (by omega) (by omega), h27]; exact v9 x hx
  · rw [h30] at hx2; rw [h 53 0 x (by omega) (by omega), h 58 0 x (by omega) (by omega)]; exact v10 x hx hx2
theorem VN_le {S : IT} {T T2 : Int} (V : VN S T) (h : T ≤ T2) : VN S T2 := ⟨V.1, V.2.1, V.2.2.1, V.2.2.2.1, fun k hk => by
  obtain ⟨a, b, c, d, e, f⟩ := V.2.2.2.2 k hk
  exact ⟨a, b, c, d, e, Int.le_trans f h⟩⟩
theorem VC_freF : ∀ (d k : Nat) (S : IT), VC S → k + d = (S 27 0 14).toNat → VC (freF d k S) := by
  intro d
  induction d with
  | zero => intro k S V _; exact V
  | succ d ih => intro k S V h; have v := V.1; exact ih (k + 1) (fre1 S k) (VC_fre1 V (by omega)) (by rw [fre1_no (by decide) (by decide)]; omega)
theorem VC_sndF : ∀ (d q : Nat) (S : IT), VC S → q + d = (S 27 0 18).toNat → VC (sndF d q S) := by
  intro d
  induction d with
  | zero => intro q S V _; exact V
  | succ d ih => intro q S V h; have v := V.2.2.1; exact ih (q + 1) (snd1 S q) (VC_snd1 V (by omega)) (by rw [snd1_no (by decide) (by decide) (by decide) (by decide) (by decide) (by decide)]; omega)
theorem VD_retF : ∀ (d p : Nat) (S : IT), VD S → p + d = (S 27 0 30).toNat → VD (retF d p S) := by
  intro d
  induction d with
  | zero => intro p S V _; exact V
  | succ d ih => intro p S V h; have v := V.2.2.1; exact ih (p + 1) (ret1 S p) (VD_ret1 V (by omega)) (by rw [ret1_no (by decide) (by decide)]; omega)
theorem VD_dlvF : ∀ (d p : Nat) (S : IT), VD S → p + d = (S 27 0 30).toNat → VD (dlvF d p S) := by
  intro d
  induction d with
  | zero => intro p S V _; exact V
  | succ d ih => intro p S V h; have v := V.2.2.1; exact ih (p + 1) (dlv1 S p) (VD_dlv1 V (by omega)) (by rw [dlv1_no (by omega) (by omega) (by omega) (by omega) (by omega) (by omega) (by omega)]; omega)
/-- no waiting call has a free car with a way to it -/
def Stl (S : IT) : Prop := ∀ q : Nat, (q : Int) < S 27 0 18 → bst S q = -1
theorem nb_none {S : IT} {p : Int} : ∀ n, nb S p n = -1 ↔ ∀ k, k < n → ¬ (S 39 0 k = -1 ∧ fr9 S k p < 1000000) := by
  intro n
  induction n with
  | zero => exact ⟨fun _ k hk => by omega, fun _ => rfl⟩
  | succ n ih =>
    unfold nb
    refine ⟨fun h k hk => ?_, fun h => ?_⟩
    · by_cases e : S 39 0 n = -1 ∧ fr9 S n p < 1000000 ∧ (nb S p n = -1 ∨ fr9 S n p < fr9 S (nb S p n).toNat p)
      · rw [if_pos e] at h; omega
      · rw [if_neg e] at h
        by_cases q : k = n
        · subst q; exact fun g => e ⟨g.1, g.2, Or.inl h⟩
        · exact ih.mp h k (by omega)
    · rw [if_neg (fun e => h n (by omega) ⟨e.1, e.2.1⟩)]
      exact ih.mpr (fun k hk => h k (by omega))
theorem bst_none {S : IT} {q : Nat} : bst S q = -1 ↔ (S 42 0 q = 0 → ∀ k, k < (S 27 0 14).toNat → ¬ (S 39 0 k = -1 ∧ fr9 S k (S 44 0 q) < 1000000)) := by
  unfold bst
  by_cases g : S 42 0 q = 0
  · rw [if_pos g]; exact ⟨fun h _ => (nb_none _).mp h, fun h => (nb_none _).mpr (h g)⟩
  · rw [if_neg g]; exact ⟨fun _ h => absurd h g, fun _ => rfl⟩
theorem snd1_bst {S : IT} (V : VC S) {q x : Nat} (h : bst S x = -1 ∨ x = q) : bst (snd1 S q) x = -1 := by
  by_cases hb : bst S q = -1
  · rw [show snd1 S q = S from if_pos hb]
    rcases h with h | h
    · exact h
    · rw [h]; exact hb
  · obtain ⟨b0, b1, b2, _⟩ := bst_in V hb
    rw [show snd1 S q = snd0 S q (bst S q) from if_neg hb, bst_none]
    intro g k hk
    rw [s42] at g
    have hxq : ¬ x = q := fun y => by rw [if_pos y] at g; omega
    rw [if_neg hxq] at g
    have h := bst_none.mp (h.resolve_right hxq) g k (by rw [s_no (by decide) (by decide) (by decide) (by decide) (by decide) (by decide)] at hk; exact hk)
    rw [s39]
    unfold fr9
    rw [s37, s_no (f := 28) (by decide) (by decide) (by decide) (by decide) (by decide) (by decide), s_no (f := 44) (by decide) (by decide) (by decide) (by decide) (by decide) (by decide)]
    by_cases r : k = (bst S q).toNat
    · rw [if_pos r]; omega
    · rw [if_neg r, if_neg r]; exact h
theorem sndF_stl : ∀ (d q : Nat) (S : IT), VC S → q + d = (S 27 0 18).toNat → (∀ x, x < q → bst S x = -1) → ∀ x, x < q + d → bst (sndF d q S) x = -1 := by
  intro d
  induction d with
  | zero => intro q S V _ h x hx; exact h x (by omega)
  | succ d ih =>
    intro q S V hq h x hx
    have v := V.2.2.1
    refine ih (q + 1) (snd1 S q) (VC_snd1 V (by omega)) (by rw [snd1_no (by decide) (by decide) (by decide) (by decide) (by decide) (by decide)]; omega) (fun y hy => ?_) x (by omega)
    refine snd1_bst V ?_
    by_cases e : y = q
    · exact Or.inr e
    · exact Or.inl (h y (by omega))
theorem sends_stl {S : IT} (V : VC S) : Stl (sends S) := fun q hq => by
  unfold sends at hq ⊢
  rw [sndF_no (by decide) (by decide) (by decide) (by decide) (by decide) (by decide)] at hq
  exact sndF_stl _ 0 S V (by omega) (fun x hx => by omega) q (by omega)
theorem stl_sends {S : IT} (h : Stl S) : sends S = S := by
  unfold sends
  have key : ∀ d q, q + d = (S 27 0 18).toNat → sndF d q S = S := by
    intro d
    induction d with
    | zero => intro q _; rfl
    | succ d ih =>
      intro q hq
      show sndF d (q + 1) (snd1 S q) = S
      rw [show snd1 S q = S from if_pos (h q (by omega))]
      exact ih (q + 1) (by omega)
  exact key _ 0 (by omega)
theorem Stl_ag {S S2 : IT} (h : Stl S) (hf : ∀ f i j, f = 28 ∨ f = 37 ∨ f = 39 ∨ f = 42 ∨ f = 44 → S2 f i j = S f i j) (h14 : S2 27 0 14 = S 27 0 14) (h18 : S2 27 0 18 = S 27 0 18) : Stl S2 := fun q hq => by
  rw [h18] at hq
  rw [bst_none, h14, hf 42 0 q (by omega)]
  intro g k hk
  unfold fr9
  rw [hf 39 0 k (by omega), hf 28 0 _ (by omega), hf 37 0 k (by omega), hf 44 0 q (by omega)]
  exact bst_none.mp (h q hq) g k hk
def tick (S : IT) : IT := up3 S 27 0 0 (wr (S 27 0 0 + 1))
def day9 (S : IT) : IT := if Int.tmod (S 27 0 0) 1440 = 0 then dlvF (S 27 0 30).toNat 0 (retF (S 27 0 30).toNat 0 S) else S
def fre9 (S : IT) : IT := freF (S 27 0 14).toNat 0 S
def mnt (S : IT) : IT := sends (day9 (fre9 (tick S)))
theorem tick_no {S : IT} {f i j : Nat} (h : ¬ (f = 27 ∧ i = 0 ∧ j = 0)) : tick S f i j = S f i j := up3_no h
theorem fre9_no {S : IT} {f i j : Nat} (h1 : ¬ f = 42) (h2 : ¬ f = 39) : fre9 S f i j = S f i j := freF_no h1 h2 _ _ _
theorem day9_no {S : IT} {f i j : Nat} (h0 : ¬ (f = 27 ∧ i = 0 ∧ j = 40)) (h1 : ¬ f = 49) (h2 : ¬ f = 53) (h3 : ¬ f = 55) (h4 : ¬ f = 56) (h5 : ¬ f = 57) (h6 : ¬ f = 58) : day9 S f i j = S f i j := by
  unfold day9
  split
  · exact (dlvF_no h0 h1 h2 h3 h4 h5 h6 _ _ _).trans (retF_no h2 h1 _ _ _)
  · rfl
theorem VC_tick {S : IT} (V : VC S) : VC (tick S) := VC_ag V (fun f i j h => tick_no (by omega)) (tick_no (by omega)) (tick_no (by omega)) (tick_no (by omega))
theorem VC_fre9 {S : IT} (V : VC S) : VC (fre9 S) := VC_freF _ _ _ V (by omega)
theorem VC_day9 {S : IT} (V : VC S) : VC (day9 S) := VC_ag V (fun f i j h => day9_no (by omega) (by omega) (by omega) (by omega) (by omega) (by omega) (by omega)) (day9_no (by omega) (by omega) (by omega) (by omega) (by omega) (by omega) (by omega)) (day9_no (by omega) (by omega) (by omega) (by omega) (by omega) (by omega) (by omega)) (day9_no (by omega) (by omega) (by omega) (by omega) (by omega) (by omega) (by omega))
theorem VC_sends {S : IT} (V : VC S) : VC (sends S) := VC_sndF _ _ _ V (by omega)
theorem VD_tick {S : IT} (V : VD S) : VD (tick S) := VD_ag V (fun f i j h1 h2 => tick_no (by omega)) (tick_no (by omega)) (tick_no (by omega)) (tick_no (by omega))
theorem VD_fre9 {S : IT} (V : VD S) : VD (fre9 S) := VD_ag V (fun f i j h1 h2 => fre9_no (by omega) (by omega)) (fre9_no (by omega) (by omega)) (fre9_no (by omega) (by omega)) (fre9_no (by omega) (by omega))
theorem VD_day9 {S : IT} (V : VD S) : VD (day9 S) := by
  unfold day9
  split
  · exact VD_dlvF _ _ _ (VD_retF _ _ _ V (by omega)) (by rw [retF_no (by omega) (by omega)]; omega)
  · exact V
theorem sends_no {S : IT} {f i j : Nat} (h1 : ¬ f = 42) (h2 : ¬ f = 45) (h3 : ¬ f = 46) (h4 : ¬ f = 38) (h5 : ¬ f = 37) (h6 : ¬ f = 39) : sends S f i j = S f i j := sndF_no h1 h2 h3 h4 h5 h6 _ _ _
theorem VD_sends {S : IT} (V : VD S) : VD (sends S) := VD_ag V (fun f i j h1 h2 => sends_no (by omega) (by omega) (by omega) (by omega) (by omega) (by omega)) (sends_no (by omega) (by omega) (by omega) (by omega) (by omega) (by omega)) (sends_no (by omega) (by omega) (by omega) (by omega) (by omega) (by omega)) (sends_no (by omega) (by omega) (by omega) (by omega) (by omega) (by omega))
theorem agD_tick {S : IT} : agD S (tick S) := ⟨tick_no (by omega), tick_no (by omega), fun f h1 h2 i j => tick_no (by omega)⟩
theorem agD_fre9 {S : IT} : agD S (fre9 S) := ⟨fre9_no (by omega) (by omega), fre9_no (by omega) (by omega), fun f h1 h2 i j => fre9_no (by omega) (by omega)⟩
theorem agD_ret {S : IT} {d p : Nat} : agD S (retF d p S) := ⟨retF_no (by omega) (by omega) _ _ _, retF_no (by omega) (by omega) _ _ _, fun f h1 h2 i j => retF_no (by omega) (by omega) _ _ _⟩
theorem agD_day9 {S : IT} : agD S (day9 S) := ⟨day9_no (by omega) (by omega) (by omega) (by omega) (by omega) (by omega) (by omega), day9_no (by omega) (by omega) (by omega) (by omega) (by omega) (by omega) (by omega), fun f h1 h2 i j => day9_no (by omega) (by omega) (by omega) (by omega) (by omega) (by omega) (by omega)⟩
theorem agD_sends {S : IT} : agD S (sends S) := ⟨sends_no (by omega) (by omega) (by omega) (by omega) (by omega) (by omega), sends_no (by omega) (by omega) (by omega) (by omega) (by omega) (by omega), fun f h1 h2 i j => sends_no (by omega) (by omega) (by omega) (by omega) (by omega) (by omega)⟩
theorem agD.trans {S S2 S3 : IT} (h : agD S S2) (g : agD S2 S3) : agD S S3 := ⟨g.1.trans h.1, g.2.1.trans h.2.1, fun f h1 h2 i j => (g.2.2 f h1 h2 i j).trans (h.2.2 f h1 h2 i j)⟩
theorem m_day {fs : List fr} {I : IT} {cc : Nat → Option Nat} {n c z : Nat} {out : oP} {T : Int} (V : VD I) (W : VS I (I 27 0 1)) (N : VN I T) (h : Rf (Sum.inl none) fs (dlvF (I 27 0 30).toNat 0 (retF (I 27 0 30).toNat 0 I)) (Cs cc) n c z out) : Rn 68 0 [some (vr 27 0), none] [] fs I (Cs cc) n c z out := by
  refine k68_0 (m_ret_l (I 27 0 30).toNat 0 I V (by omega) (fun x => k68_74 ?_))
  have V2 := VD_retF (I 27 0 30).toNat 0 I V (by omega)
  have e : ∀ j, retF (I 27 0 30).toNat 0 I 27 0 j = I 27 0 j := fun j => retF_no (by omega) (by omega) _ _ _
  exact m_dlv_l (T := T) (I 27 0 30).toNat 0 _ V2 (by rw [e 1]; exact VS_ag agD_ret W) (VN_ag agD_ret N) (by rw [e 30]; omega) h
theorem m_minute {fs : List fr} {I : IT} {cc : Nat → Option Nat} {n c z : Nat} {out : oP} {T : Int} (VCh : VC I) (V : VD I) (W : VS I (I 27 0 1)) (N : VN I T) (h : Rf (Sum.inl none) fs (mnt I) (Cs cc) n c z out) : Rn 69 0 [some (vr 27 0), none] [] fs I (Cs cc) n c z out := by
  have V1 := VC_tick VCh
  have e14 : tick I 27 0 14 = I 27 0 14 := tick_no (by omega)
  refine k69_0 (m_fre_l ((tick I) 27 0 14).toNat 0 (tick I) V1 (by omega) (fun x => k69_68 ⟨fun h1 => ?_, fun h1 => ?_⟩))
  · have h1 : Int.tmod (fre9 (tick I) 27 0 0) 1440 = 0 := h1
    refine m_day (T := T) (I := fre9 (tick I)) (VD_fre9 (VD_tick V)) ?_ (VN_ag agD_fre9 (VN_ag agD_tick N)) (Rf.nn (pc2 := 83) rfl (k69_83 (m_sends ?_ (Rf.nn (pc2 := 87) rfl (k69_87 ?_)))))
    · rw [fre9_no (by omega) (by omega), tick_no (by omega)]; exact VS_ag agD_fre9 (VS_ag agD_tick W)
    · have v := VC_day9 (VC_fre9 V1)
      unfold day9 at v
      rw [if_pos h1] at v; exact v
    · unfold mnt day9 at h
      rw [if_pos h1] at h; exact h
  · have h1 : ¬ Int.tmod (fre9 (tick I) 27 0 0) 1440 = 0 := h1
    refine m_sends (VC_fre9 V1) (Rf.nn (pc2 := 87) rfl (k69_87 ?_))
    unfold mnt day9 at h
    rw [if_neg h1] at h; exact h

