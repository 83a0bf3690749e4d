def rz (I S : IT) (s : Nat) (x : Int) : Nat → Int
  | 0 => -1
  | k + 1 => if S 33 0 k = (s : Int) ∧ bn S s k = x then I 9 0 k else rz I S s x k
def RN (I S : IT) : Prop := (∀ k : Nat, (k : Int) < S 27 0 9 → I 7 0 k = S 33 0 k ∧ I 8 0 k = S 34 0 k) ∧ ∀ s : Nat, s < 12 → ∀ x : Nat, x < 30 → rz I S s (x : Int) (nn S) = cz S s (x : Int) (nn S)
/-- the directory of the class against the model's -/
def DR (I S : IT) (p T : Int) : Prop := I 3 0 0 = S 27 0 4 ∧ I 3 0 5 = S 27 0 9 ∧ RBr 0 I S ∧ RG I S ∧ RS I S ∧ VS S p ∧ VN S T ∧ RN I S
theorem rz_ag {I I2 S S2 : IT} (h : agD S S2) (hI : ∀ i j, I2 9 i j = I 9 i j) (s : Nat) (x : Int) : ∀ k, rz I2 S2 s x k = rz I S s x k := by
  intro k
  induction k with
  | zero => rfl
  | succ k ih => unfold rz; rw [ih, h.2.2 33 (by omega) (by omega), bn_ag h, hI]
theorem DR_ag {I I2 S S2 : IT} {p T : Int} (D : DR I S p T) (h : agD S S2) (hI : ∀ f i j, 3 ≤ f → f ≤ 15 → ((f = 14 ∨ f = 15) → i < 12) → I2 f i j = I f i j) : DR I2 S2 p T := by
  obtain ⟨d1, d2, d3, d4, d5, d6, d7, d8, d9⟩ := D
  refine ⟨by rw [hI 3 0 0 (by omega) (by omega) (by omega), h.1]; exact d1, by rw [hI 3 0 5 (by omega) (by omega) (by omega), h.2.1]; exact d2, fun s hs => ⟨?_, fun x hx => ?_⟩, fun x hx => ?_, fun s hs => ⟨?_, fun j hj => ?_⟩, VS_ag h d6, VN_ag h d7, fun k hk => ?_, fun s hs x hx => ?_⟩
  · rw [hI 14 _ 0 (by omega) (by omega) (by omega), nn_ag h, bn_ag h]; exact (d3 s hs).1
  · rw [hI 15 _ x (by omega) (by omega) (by omega), nn_ag h, cz_ag h]; exact (d3 s hs).2 x hx
  · rw [hI 6 0 x (by omega) (by omega) (by omega), h.2.2 36 (by omega) (by omega)]; exact d4 x hx
  · rw [hI 10 s 0 (by omega) (by omega) (by omega), h.2.2 29 (by omega) (by omega)]; exact (d5 s hs).1
  · rw [h.2.2 29 (by omega) (by omega)] at hj
    rw [hI 11 s j (by omega) (by omega) (by omega), hI 12 s j (by omega) (by omega) (by omega), hI 13 s j (by omega) (by omega) (by omega), h.2.2 30 (by omega) (by omega), h.2.2 31 (by omega) (by omega), h.2.2 32 (by omega) (by omega)]
    exact (d5 s hs).2 j hj
  · rw [h.2.1] at hk
    rw [hI 7 0 k (by omega) (by omega) (by omega), hI 8 0 k (by omega) (by omega) (by omega), h.2.2 33 (by omega) (by omega), h.2.2 34 (by omega) (by omega)]
    exact d8 k hk
  · rw [rz_ag h (fun i j => hI 9 i j (by omega) (by omega) (by omega)), nn_ag h, cz_ag h]
    exact d9 s hs x hx
theorem bf_pl {S : IT} {name num : Int} : ∀ s, 0 ≤ bf S name num s → ¬ plc S (bf S name num s).toNat num = -1 := by
  intro s
  induction s with
  | zero => intro h; unfold bf at h; omega
  | succ s ih =>
    intro h
    unfold bf at h ⊢
    by_cases g : (0 ≤ bn S s (nn S) ∧ S 36 0 (bn S s (nn S)).toNat = S 36 0 name.toNat) ∧ ¬ plc S s num = -1
    · rw [if_pos g] at h ⊢
      by_cases g2 : bf S name num s = -1
      · rw [if_pos g2] at h ⊢; rw [Int.toNat_natCast]; exact g.2
      · rw [if_neg g2] at h; omega
    · rw [if_neg g] at h ⊢; exact ih h
theorem ff_pl {S : IT} {name num : Int} : ∀ s, 0 ≤ (ff S name num s).1 → ¬ plc S (ff S name num s).1.toNat num = -1 := by
  intro s
  induction s with
  | zero => intro h; exact absurd h (by show ¬ (0 : Int) ≤ -1; omega)
  | succ s ih =>
    intro h
    unfold ff at h ⊢
    by_cases g : ¬ plc S s num = -1 ∧ (ff S name num s).2 < lm S s name (nn S)
    · rw [if_pos g]
      show ¬ plc S ((s : Nat) : Int).toNat num = -1
      rw [Int.toNat_natCast]; exact g.1
    · rw [if_neg g] at h ⊢; exact ih h
theorem ld_in {S : IT} {T : Int} (W : VN S T) {name num : Int} : (ld S name num = -1 ∨ ld S name num = -2 ∨ (0 ≤ ld S name num ∧ ld S name num < S 27 0 4 ∧ ¬ plc S (ld S name num).toNat num = -1)) := by
  have h1 := bf_in (S := S) (name := name) (num := num) (S 27 0 4).toNat
  have h2 := ff_in (S := S) (name := name) (num := num) (S 27 0 4).toNat
  have h3 := bf_pl (S := S) (name := name) (num := num) (S 27 0 4).toNat
  have h4 := ff_pl (S := S) (name := name) (num := num) (S 27 0 4).toNat
  have w := W.2.2.1
  unfold ld
  by_cases g : bf S name num (S 27 0 4).toNat = -1
  · rw [if_pos g]
    by_cases q : (ff S name num (S 27 0 4).toNat).1 = -1
    · exact Or.inl q
    · exact Or.inr (Or.inr ⟨by omega, by omega, h4 (by omega)⟩)
  · rw [if_neg g]
    rcases h1 with (h | h) | h
    · exact absurd h g
    · exact Or.inr (Or.inl h)
    · exact Or.inr (Or.inr ⟨by omega, by omega, h3 (by omega)⟩)
def put9 (S : IT) (p : Nat) (st f g : Int) : IT := up3 (up3 (up3 (up3 (up3 (up3 S 49 0 (3 * f.toNat + g.toNat) (wr (S 49 0 (3 * f.toNat + g.toNat) - 1))) 53 0 p 1) 55 0 p f) 56 0 p g) 57 0 p (S 27 0 0)) 58 0 p (if st = S 54 0 p then 0 else 1)
def lkr (S : IT) (st : Int) (p : Nat) : Int := lb S (plc S st.toNat (S 51 0 p)) (S 52 0 p) (S 27 0 27).toNat
def dlvA (S : IT) (st : Int) (p : Nat) : IT := if st < 0 ∨ lkr S st p = -1 then S else put9 S p st (lkr S st p) (szo S (lkr S st p).toNat (S 52 0 p))
def dlvO (S : IT) (p : Nat) : IT := up3 S 27 0 40 (ldo S (S 50 0 p) (S 51 0 p))
def dlv1 (S : IT) (p : Nat) : IT := if S 53 0 p = 0 then dlvA (dlvO S p) (ld S (S 50 0 p) (S 51 0 p)) p else S
def dlvF : Nat → Nat → IT → IT
  | 0, _, S => S
  | d + 1, p, S => dlvF d (p + 1) (dlv1 S p)
theorem put9_no {S : IT} {p f2 i j : Nat} {st f g : Int} (h1 : ¬ f2 = 49) (h2 : ¬ f2 = 53) (h3 : ¬ f2 = 55) (h4 : ¬ f2 = 56) (h5 : ¬ f2 = 57) (h6 : ¬ f2 = 58) : put9 S p st f g f2 i j = S f2 i j := by
  unfold put9; rw [up3_nf h6, up3_nf h5, up3_nf h4, up3_nf h3, up3_nf h2, up3_nf h1]
theorem p49 {S : IT} {p x : Nat} {st f g : Int} : put9 S p st f g 49 0 x = if x = 3 * f.toNat + g.toNat then wr (S 49 0 (3 * f.toNat + g.toNat) - 1) else S 49 0 x := by
  unfold put9; rw [up3_nf (by decide), up3_nf (by decide), up3_nf (by decide), up3_nf (by decide), up3_nf (by decide), up3_at]
theorem p53 {S : IT} {p x : Nat} {st f g : Int} : put9 S p st f g 53 0 x = if x = p then 1 else S 53 0 x := by
  unfold put9; rw [up3_nf (by decide), up3_nf (by decide), up3_nf (by decide), up3_nf (by decide), up3_at, up3_nf (by decide)]
theorem p55 {S : IT} {p x : Nat} {st f g : Int} : put9 S p st f g 55 0 x = if x = p then f else S 55 0 x := by
  unfold put9; rw [up3_nf (by decide), up3_nf (by decide), up3_nf (by decide), up3_at, up3_nf (by decide), up3_nf (by decide)]
theorem p56 {S : IT} {p x : Nat} {st f g : Int} : put9 S p st f g 56 0 x = if x = p then g else S 56 0 x := by
  unfold put9; rw [up3_nf (by decide), up3_nf (by decide), up3_at, up3_nf (by decide), up3_nf (by decide), up3_nf (by decide)]
theorem p57 {S : IT} {p x : Nat} {st f g : Int} : put9 S p st f g 57 0 x = if x = p then S 27 0 0 else S 57 0 x := by
  unfold put9; rw [up3_nf (by decide), up3_at, up3_nf (by decide), up3_nf (by decide), up3_nf (by decide), up3_nf (by decide)]
theorem p58 {S : IT} {p x : Nat} {st f g : Int} : put9 S p st f g 58 0 x = if x = p then (if st = S 54 0 p then 0 else 1) else S 58 0 x := by
  unfold put9; rw [up3_at, up3_nf (by decide), up3_nf (by decide), up3_nf (by decide), up3_nf (by decide), up3_nf (by decide)]
theorem VD_old {S : IT} (V : VD S) {v : Int} : VD (up3 S 27 0 40 v) := by
  have e : ∀ f i j, ¬ (f = 27 ∧ i = 0 ∧ j = 40) → up3 S 27 0 40 v f i j = S f i j := fun f i j h => up3_no h
  obtain ⟨v1, v2, v3, v4, v5, v6, v7, v8, v9, v10⟩ := V
  have htk : tk (up3 S 27 0 40 v) 40 = tk S 40 := tk_eq (fun x => by rw [e 53 0 x (by omega)]) 40
  refine ⟨v1, v2, v3, v4, v5, v6, v7, fun k hk => ?_, v9, v10⟩
  rw [htk]; exact v8 k hk
theorem VD_put {S : IT} (V : VD S) {p : Nat} {st f g : Int} (hp : (p : Int) < S 27 0 30) (h0 : S 53 0 p = 0) (hf0 : 0 ≤ f) (hf1 : f < S 27 0 27) (hg0 : 0 ≤ g) (hg1 : g < 3) (he : ¬ S 49 0 (3 * f.toNat + g.toNat) = 0) : VD (put9 S p st f g) := by
  obtain ⟨v1, v2, v3, v4, v5, v6, v7, v8, v9, v10⟩ := V
  have eno : ∀ f2 i j, ¬ f2 = 49 → ¬ f2 = 53 → ¬ f2 = 55 → ¬ f2 = 56 → ¬ f2 = 57 → ¬ f2 = 58 → put9 S p st f g f2 i j = S f2 i j := fun f2 i j => put9_no
  have e27 := fun j => eno 27 0 j (by decide) (by decide) (by decide) (by decide) (by decide) (by decide)
  have htk : tk (put9 S p st f g) 40 = tk S 40 := tk_eq (fun x => by
    rw [p53]
    by_cases q : x = p
    · rw [if_pos q, q, h0]; omega
    · rw [if_neg q]) 40
  have htk2 := tk_in (S := S) 40
  refine ⟨by rw [e27]; exact v1, by rw [e27]; exact v2, by rw [e27]; exact v3, by rw [e27]; exact v4, by rw [e27]; exact v5, by rw [e27]; exact v6, fun k hk => ?_, fun k hk => ?_, fun x hx => ?_, fun x hx hx2 => ?_⟩
  · rw [e27] at hk; rw [eno 48 0 k (by decide) (by decide) (by decide) (by decide) (by decide) (by decide), e27]; exact v7 k hk
  · rw [p49, htk]
    have := v8 k hk
    have h9 := v8 (3 * f.toNat + g.toNat) (by omega)
    split
    · rw [wrI (by omega) (by omega)]; omega
    · omega
  · rw [e27] at hx
    obtain ⟨c1, c2, c3, c4, c5, c6⟩ := v9 x hx
    rw [eno 50 0 x (by decide) (by decide) (by decide) (by decide) (by decide) (by decide), eno 52 0 x (by decide) (by decide) (by decide) (by decide) (by decide) (by decide), e27, p53, p55, p56, p58]
    refine ⟨c1, c2, c3, c4, fun q => ?_, ?_⟩
    · by_cases r : x = p
      · rw [if_pos r, if_pos r]; exact ⟨hf0, hf1, hg0, hg1⟩
      · rw [if_neg r, if_neg r]; rw [if_neg r] at q; exact c5 q
    · by_cases r : x = p
      · rw [if_pos r]; split
        · exact Or.inl rfl
        · exact Or.inr rfl
      · rw [if_neg r]; exact c6
  · rw [e27] at hx2
    have r : ¬ x = p := fun q => hx2 (by rw [q]; exact hp)
    rw [p53, p58, if_neg r, if_neg r]
    exact v10 x hx hx2
theorem lkr_in {S : IT} (V : VD S) {st : Int} {p : Nat} (h : ¬ lkr S st p = -1) : 0 ≤ lkr S st p ∧ lkr S st p < S 27 0 27 ∧ szo S (lkr S st p).toNat (S 52 0 p) < 3 := by
  have h1 := lb_in (S := S) (p := plc S st.toNat (S 51 0 p)) (s := S 52 0 p) (S 27 0 27).toNat
  have h2 := lb_ok (S := S) (p := plc S st.toNat (S 51 0 p)) (s := S 52 0 p) (S 27 0 27).toNat h
  have v := V.1
  refine ⟨?_, ?_, h2⟩
  · unfold lkr at *; omega
  · unfold lkr at *; omega
theorem VD_dlvA {S : IT} (V : VD S) {p : Nat} {st : Int} (hp : (p : Int) < S 27 0 30) (h0 : S 53 0 p = 0) : VD (dlvA S st p) := by
  by_cases g : st < 0 ∨ lkr S st p = -1
  · rw [show dlvA S st p = S from if_pos g]; exact V
  · rw [show dlvA S st p = _ from if_neg g]
    obtain ⟨h1, h2, h3⟩ := lkr_in V (st := st) (p := p) (fun q => g (Or.inr q))
    obtain ⟨_, _, c3, c4, _⟩ := V.2.2.2.2.2.2.2.2.1 p hp
    have h4 := szo_in (S := S) (l := (lkr S st p).toNat) c3 c4
    have h5 := sz_ne (S := S) (l := (lkr S st p).toNat) (3 - (S 52 0 p).toNat) (S 52 0 p).toNat (by omega) h3
    exact VD_put V hp h0 h1 h2 (by omega) h3 h5
theorem VD_dlv1 {S : IT} (V : VD S) {p : Nat} (hp : (p : Int) < S 27 0 30) : VD (dlv1 S p) := by
  by_cases g : S 53 0 p = 0
  · rw [show dlv1 S p = _ from if_pos g]
    exact VD_dlvA (VD_old V) hp g
  · rw [show dlv1 S p = S from if_neg g]; exact V
theorem dlv1_no {S : IT} {p f i j : Nat} (h0 : ¬ (f = 27 ∧ i = 0 ∧ j = 40)) (h1 : ¬ f = 49) (h2 : ¬ f = 53) (h3 : ¬ f = 55) (h4 : ¬ f = 56) (h5 : ¬ f = 57) (h6 : ¬ f = 58) : dlv1 S p f i j = S f i j := by
  unfold dlv1
  split
  · unfold dlvA
    split
    · exact up3_no h0
    · exact (put9_no h1 h2 h3 h4 h5 h6).trans (up3_no h0)
  · rfl
theorem dlvF_no {f i j : Nat} (h0 : ¬ (f = 27 ∧ i = 0 ∧ j = 40)) (h1 : ¬ f = 49) (h2 : ¬ f = 53) (h3 : ¬ f = 55) (h4 : ¬ f = 56) (h5 : ¬ f = 57) (h6 : ¬ f = 58) : ∀ d p S, dlvF d p S f i j = S f i j := by
  intro d
  induction d with
  | zero => intro p S; rfl
  | succ d ih => intro p S; exact (ih (p + 1) (dlv1 S p)).trans (dlv1_no h0 h1 h2 h3 h4 h5 h6)
theorem dlv1_ag {S : IT} {p : Nat} : agD S (dlv1 S p) := ⟨dlv1_no (by omega) (by omega) (by omega) (by omega) (by omega) (by omega) (by omega), dlv1_no (by omega) (by omega) (by omega) (by omega) (by omega) (by omega) (by omega), fun f h1 h2 i j => dlv1_no (by omega) (by omega) (by omega) (by omega) (by omega) (by omega) (by omega)⟩

theorem k68_76 {fs : List fr} {I : IT} {cc : Nat → Option Nat} {n c z : Nat} {out : oP} {p : Int} (h : ((p < (I 27 0 30)) → ((0 ≤ p ∧ p < 40) ∧ ((((I 53 0 (Int.toNat p)) = 0) → (Rn 67 0 [some (vr 27 0), some (vi p), none, none, none] [] ((68, 95, [some (vr 27 0), some (vi p)], []) :: fs) I (Cs cc) n c z out)) ∧ (¬ ((I 53 0 (Int.toNat p)) = 0) → (Rn 68 76 [some (vr 27 0), some (vi (wr (p + 1)))] [] (fs) I (Cs cc) n c z out))))) ∧ (¬ (p < (I 27 0 30)) → (Rf (Sum.inl none) fs I (Cs cc) n c z out))) : Rn 68 76 [some (vr 27 0), some (vi p)] [] (fs) I (Cs cc) n c z out :=
  (Rn.iload_n (pc2 := 77) rfl rfl rfl (Rn.aload_n (pc2 := 78) rfl rfl rfl (Rn.getI (pc2 := 81) rfl rfl rfl rfl (Rn.ic_ge (pc2 := 84) rfl rfl (fun q18 => (Rn.aload_n (pc2 := 85) rfl rfl rfl (Rn.getR (pc2 := 88) (q := (some (53, 0))) rfl rfl rfl rfl rfl (Rn.iload_n (pc2 := 89) rfl rfl rfl (Rn.iald (pc2 := 90) (L := 40) rfl rfl rfl (h.1 q18).1 rfl (Rn.iz_ne (pc2 := 93) rfl rfl (fun q19 => (Rn.aload_n (pc2 := 94) rfl rfl rfl (Rn.iload_n (pc2 := 95) rfl rfl rfl (Rn.ivir (as := [vi p]) (r := []) (ls2 := [some (vr 27 0), some (vi p), none, none, none]) (f := 27) (i := 0) rfl rfl rfl rfl rfl rfl rfl ((h.1 q18).2.1 q19))))) (fun q19 => (Rn.iinc (pc2 := 101) (ls2 := [some (vr 27 0), some (vi (wr (p + 1)))]) rfl rfl rfl rfl (Rn.goto rfl ((h.1 q18).2.2 q19)))))))))) (fun q18 => (Rn.vret rfl (h.2 q18)))))))

theorem k68_74 {fs : List fr} {I : IT} {cc : Nat → Option Nat} {n c z : Nat} {out : oP} {x : Int} (h : Rn 68 76 [some (vr 27 0), some (vi 0)] [] (fs) I (Cs cc) n c z out) : Rn 68 74 [some (vr 27 0), some (vi x)] [] (fs) I (Cs cc) n c z out :=
  (Rn.iconst (pc2 := 75) rfl rfl (Rn.istore_n (pc2 := 76) (ls2 := [some (vr 27 0), some (vi 0)]) rfl rfl rfl h))

theorem k68_98 {fs : List fr} {I : IT} {cc : Nat → Option Nat} {n c z : Nat} {out : oP} {p : Int} (h : Rn 68 76 [some (vr 27 0), some (vi (wr (p + 1)))] [] (fs) I (Cs cc) n c z out) : Rn 68 98 [some (vr 27 0), some (vi p)] [] (fs) I (Cs cc) n c z out :=
  (Rn.iinc (pc2 := 101) (ls2 := [some (vr 27 0), some (vi (wr (p + 1)))]) rfl rfl rfl rfl (Rn.goto rfl h))

theorem k67_0 {fs : List fr} {I : IT} {cc : Nat → Option Nat} {n c z : Nat} {out : oP} {p : Int} (h : (0 ≤ p ∧ p < 40) ∧ (Rn 48 0 [some (vr 27 0), some (vi (I 50 0 (Int.toNat p))), some (vi (I 51 0 (Int.toNat p))), none, none, none, none, none] [] ((67, 13, [some (vr 27 0), some (vi p), none, none, none], []) :: fs) I (Cs cc) n c z out)) : Rn 67 0 [some (vr 27 0), some (vi p), none, none, none] [] (fs) I (Cs cc) n c z out :=
  (Rn.aload_n (pc2 := 1) rfl rfl rfl (Rn.aload_n (pc2 := 2) rfl rfl rfl (Rn.getR (pc2 := 5) (q := (some (50, 0))) rfl rfl rfl rfl rfl (Rn.iload_n (pc2 := 6) rfl rfl rfl (Rn.iald (pc2 := 7) (L := 40) rfl rfl rfl h.1 rfl (Rn.aload_n (pc2 := 8) rfl rfl rfl (Rn.getR (pc2 := 11) (q := (some (51, 0))) rfl rfl rfl rfl rfl (Rn.iload_n (pc2 := 12) rfl rfl rfl (Rn.iald (pc2 := 13) (L := 40) rfl rfl rfl h.1 rfl (Rn.ivir (as := [vi (I 50 0 (Int.toNat p)), vi (I 51 0 (Int.toNat p))]) (r := []) (ls2 := [some (vr 27 0), some (vi (I 50 0 (Int.toNat p))), some (vi (I 51 0 (Int.toNat p))), none, none, none, none, none]) (f := 27) (i := 0) rfl rfl rfl rfl rfl rfl rfl h.2))))))))))

theorem k67_16 {fs : List fr} {I : IT} {cc : Nat → Option Nat} {n c z : Nat} {out : oP} {p : Int} {st : Int} (h : ((st < 0) → (Rf (Sum.inl none) fs I (Cs cc) n c z out)) ∧ (¬ (st < 0) → ((0 ≤ p ∧ p < 40) ∧ (Rn 46 0 [some (vr 27 0), some (vi st), some (vi (I 51 0 (Int.toNat p))), none, none] [] ((67, 31, [some (vr 27 0), some (vi p), some (vi st), none, none], [vr 27 0]) :: fs) I (Cs cc) n c z out)))) : Rn 67 16 [some (vr 27 0), some (vi p), none, none, none] [vi st] (fs) I (Cs cc) n c z out :=
  (Rn.istore_n (pc2 := 17) (ls2 := [some (vr 27 0), some (vi p), some (vi st), none, none]) rfl rfl rfl (Rn.iload_n (pc2 := 18) rfl rfl rfl (Rn.iz_ge (pc2 := 21) rfl rfl (fun q20 => (Rn.vret rfl (h.1 q20))) (fun q20 => (Rn.aload_n (pc2 := 23) rfl rfl rfl (Rn.aload_n (pc2 := 24) rfl rfl rfl (Rn.iload_n (pc2 := 25) rfl rfl rfl (Rn.aload_n (pc2 := 26) rfl rfl rfl (Rn.getR (pc2 := 29) (q := (some (51, 0))) rfl rfl rfl rfl rfl (Rn.iload_n (pc2 := 30) rfl rfl rfl (Rn.iald (pc2 := 31) (L := 40) rfl rfl rfl (h.2 q20).1 rfl (Rn.ivir (as := [vi st, vi (I 51 0 (Int.toNat p))]) (r := [vr 27 0]) (ls2 := [some (vr 27 0), some (vi st), some (vi (I 51 0 (Int.toNat p))), none, none]) (f := 27) (i := 0) rfl rfl rfl rfl rfl rfl rfl (h.2 q20).2))))))))))))

theorem k67_34 {fs : List fr} {I : IT} {cc : Nat → Option Nat} {n c z : Nat} {out : oP} {p : Int} {st : Int} {pl : Int} (h : (0 ≤ p ∧ p < 40) ∧ (Rn 66 0 [some (vr 27 0), some (vi pl), some (vi (I 52 0 (Int.toNat p))), none, none, none, none] [] ((67, 40, [some (vr 27 0), some (vi p), some (vi st), none, none], []) :: fs) I (Cs cc) n c z out)) : Rn 67 34 [some (vr 27 0), some (vi p), some (vi st), none, none] [vi pl, vr 27 0] (fs) I (Cs cc) n c z out :=
  (Rn.aload_n (pc2 := 35) rfl rfl rfl (Rn.getR (pc2 := 38) (q := (some (52, 0))) rfl rfl rfl rfl rfl (Rn.iload_n (pc2 := 39) rfl rfl rfl (Rn.iald (pc2 := 40) (L := 40) rfl rfl rfl h.1 rfl (Rn.ivir (as := [vi pl, vi (I 52 0 (Int.toNat p))]) (r := []) (ls2 := [some (vr 27 0), some (vi pl), some (vi (I 52 0 (Int.toNat p))), none, none, none, none]) (f := 27) (i := 0) rfl rfl rfl rfl rfl rfl rfl h.2)))))

theorem k67_43 {fs : List fr} {I : IT} {cc : Nat → Option Nat} {n c z : Nat} {out : oP} {p : Int} {st : Int} {f : Int} (h : ((f = (-1)) → (Rf (Sum.inl none) fs I (Cs cc) n c z out)) ∧ (¬ (f = (-1)) → ((0 ≤ p ∧ p < 40) ∧ (Rn 65 0 [some (vr 27 0), some (vi f), some (vi (I 52 0 (Int.toNat p))), none] [] ((67, 57, [some (vr 27 0), some (vi p), some (vi st), some (vi f), none], []) :: fs) I (Cs cc) n c z out)))) : Rn 67 43 [some (vr 27 0), some (vi p), some (vi st), none, none] [vi f] (fs) I (Cs cc) n c z out :=
  (Rn.istore_n (pc2 := 44) (ls2 := [some (vr 27 0), some (vi p), some (vi st), some (vi f), none]) rfl rfl rfl (Rn.iload_n (pc2 := 45) rfl rfl rfl (Rn.iconst (pc2 := 46) rfl rfl (Rn.ic_eq (pc2 := 49) rfl rfl (fun q21 => (Rn.vret rfl (h.1 q21))) (fun q21 => (Rn.aload_n (pc2 := 50) rfl rfl rfl (Rn.iload_n (pc2 := 51) rfl rfl rfl (Rn.aload_n (pc2 := 52) rfl rfl rfl (Rn.getR (pc2 := 55) (q := (some (52, 0))) rfl rfl rfl rfl rfl (Rn.iload_n (pc2 := 56) rfl rfl rfl (Rn.iald (pc2 := 57) (L := 40) rfl rfl rfl (h.2 q21).1 rfl (Rn.ivir (as := [vi f, vi (I 52 0 (Int.toNat p))]) (r := []) (ls2 := [some (vr 27 0), some (vi f), some (vi (I 52 0 (Int.toNat p))), none]) (f := 27) (i := 0) rfl rfl rfl rfl rfl rfl rfl (h.2 q21).2))))))))))))

theorem k67_60 {fs : List fr} {I : IT} {cc : Nat → Option Nat} {n c z : Nat} {out : oP} {p : Int} {st : Int} {f : Int} {g : Int} (h : (0 ≤ (wr ((wr (3 * f)) + g)) ∧ (wr ((wr (3 * f)) + g)) < 18) ∧ ((0 ≤ p ∧ p < 40) ∧ (((st = (I 54 0 (Int.toNat p))) → (Rf (Sum.inl none) fs (up3 (up3 (up3 (up3 (up3 (up3 I 49 0 (Int.toNat (wr ((wr (3 * f)) + g))) (wr ((I 49 0 (Int.toNat (wr ((wr (3 * f)) + g)))) - 1))) 53 0 (Int.toNat p) 1) 55 0 (Int.toNat p) f) 56 0 (Int.toNat p) g) 57 0 (Int.toNat p) (I 27 0 0)) 58 0 (Int.toNat p) 0) (Cs cc) n c z out)) ∧ (¬ (st = (I 54 0 (Int.toNat p))) → (Rf (Sum.inl none) fs (up3 (up3 (up3 (up3 (up3 (up3 I 49 0 (Int.toNat (wr ((wr (3 * f)) + g))) (wr ((I 49 0 (Int.toNat (wr ((wr (3 * f)) + g)))) - 1))) 53 0 (Int.toNat p) 1) 55 0 (Int.toNat p) f) 56 0 (Int.toNat p) g) 57 0 (Int.toNat p) (I 27 0 0)) 58 0 (Int.toNat p) 1) (Cs cc) n c z out))))) : Rn 67 60 [some (vr 27 0), some (vi p), some (vi st), some (vi f), none] [vi g] (fs) I (Cs cc) n c z out :=
  (Rn.istore (pc2 := 62) (ls2 := [some (vr 27 0), some (vi p), some (vi st), some (vi f), some (vi g)]) rfl rfl rfl (Rn.aload_n (pc2 := 63) rfl rfl rfl (Rn.getR (pc2 := 66) (q := (some (49, 0))) rfl rfl rfl rfl rfl (Rn.iconst (pc2 := 67) rfl rfl (Rn.iload_n (pc2 := 68) rfl rfl rfl (Rn.imul (pc2 := 69) rfl rfl (Rn.iload (pc2 := 71) rfl rfl rfl (Rn.iadd (pc2 := 72) rfl rfl (Rn.dup2 (pc2 := 73) rfl rfl (Rn.iald (pc2 := 74) (L := 18) rfl rfl rfl h.1 rfl (Rn.iconst (pc2 := 75) rfl rfl (Rn.isub (pc2 := 76) rfl rfl (Rn.iast (pc2 := 77) (L := 18) rfl rfl rfl h.1 rfl (Rn.aload_n (pc2 := 78) rfl rfl rfl (Rn.getR (pc2 := 81) (q := (some (53, 0))) rfl rfl rfl rfl rfl (Rn.iload_n (pc2 := 82) rfl rfl rfl (Rn.iconst (pc2 := 83) rfl rfl (Rn.iast (pc2 := 84) (L := 40) rfl rfl rfl h.2.1 rfl (Rn.aload_n (pc2 := 85) rfl rfl rfl (Rn.getR (pc2 := 88) (q := (some (55, 0))) rfl rfl rfl rfl rfl (Rn.iload_n (pc2 := 89) rfl rfl rfl (Rn.iload_n (pc2 := 90) rfl rfl rfl (Rn.iast (pc2 := 91) (L := 40) rfl rfl rfl h.2.1 rfl (Rn.aload_n (pc2 := 92) rfl rfl rfl (Rn.getR (pc2 := 95) (q := (some (56, 0))) rfl rfl rfl rfl rfl (Rn.iload_n (pc2 := 96) rfl rfl rfl (Rn.iload (pc2 := 98) rfl rfl rfl (Rn.iast (pc2 := 99) (L := 40) rfl rfl rfl h.2.1 rfl (Rn.aload_n (pc2 := 100) rfl rfl rfl (Rn.getR (pc2 := 103) (q := (some (57, 0))) rfl rfl rfl rfl rfl (Rn.iload_n (pc2 := 104) rfl rfl rfl (Rn.aload_n (pc2 := 105) rfl rfl rfl (Rn.getI (pc2 := 108) rfl rfl rfl rfl (Rn.iast (pc2 := 109) (L := 40) rfl rfl rfl h.2.1 rfl (Rn.aload_n (pc2 := 110) rfl rfl rfl (Rn.getR (pc2 := 113) (q := (some (58, 0))) rfl rfl rfl rfl rfl (Rn.iload_n (pc2 := 114) rfl rfl rfl (Rn.iload_n (pc2 := 115) rfl rfl rfl (Rn.aload_n (pc2 := 116) rfl rfl rfl (Rn.getR (pc2 := 119) (q := (some (54, 0))) rfl rfl rfl rfl rfl (Rn.iload_n (pc2 := 120) rfl rfl rfl (Rn.iald (pc2 := 121) (L := 40) rfl rfl rfl h.2.1 rfl (Rn.ic_eq (pc2 := 124) rfl rfl (fun q22 => (Rn.iconst (pc2 := 129) rfl rfl (Rn.bast (pc2 := 130) (L := 40) rfl rfl rfl h.2.1 (by decide) rfl (Rn.vret rfl (h.2.2.1 q22))))) (fun q22 => (Rn.iconst (pc2 := 125) rfl rfl (Rn.goto rfl (Rn.bast (pc2 := 130) (L := 40) rfl rfl rfl h.2.1 (by decide) rfl (Rn.vret rfl (h.2.2.2 q22)))))))))))))))))))))))))))))))))))))))))))))))))

theorem m_dlvA {fs : List fr} {I : IT} {cc : Nat → Option Nat} {n c z : Nat} {out : oP} {T : Int} (V : VD I) (W : VS I (I 27 0 1)) {p : Nat} (hp : (p : Int) < I 27 0 30) {st : Int} (hst : st < 0 ∨ (0 ≤ st ∧ st < 12 ∧ ¬ plc I st.toNat (I 51 0 p) = -1)) (h : Rf (Sum.inl none) fs (dlvA I st p) (Cs cc) n c z out) : Rn 67 16 [some (vr 27 0), some (vi (p : Int)), none, none, none] [vi st] fs I (Cs cc) n c z out := by
  have v4 := V.2.2.2.1
  have v6 := V.2.2.2.2.2.1
  have v2 := V.2.1
  obtain ⟨_, _, c3, c4, _⟩ := V.2.2.2.2.2.2.2.2.1 p hp
  refine k67_16 ⟨fun h1 => ?_, fun h1 => ⟨by omega, ?_⟩⟩
  · rw [show dlvA I st p = I from if_pos (Or.inl h1)] at h; exact h
  · obtain ⟨s0, s1, s2⟩ := hst.resolve_left h1
    rw [Int.toNat_natCast]
    have e : st = ((st.toNat : Nat) : Int) := by omega
    have hpl := plc_in W (s := st.toNat) (by omega) (I 51 0 p)
    have key : Rn 46 0 [some (vr 27 0), some (vi ((st.toNat : Nat) : Int)), some (vi (I 51 0 p)), none, none] [] ((67, 31, [some (vr 27 0), some (vi (p : Int)), some (vi st), none, none], [vr 27 0]) :: fs) I (Cs cc) n c z out := by
      refine m_pl W (by omega) (I 51 0 p) (Rf.sm (pc2 := 34) rfl (k67_34 ⟨by omega, ?_⟩))
      rw [Int.toNat_natCast]
      refine m_lock V (by omega) (by omega) c3 c4 (Rf.sm (pc2 := 43) rfl (k67_43 ?_))
      rw [show lb I (plc I st.toNat (I 51 0 p)) (I 52 0 p) (I 27 0 27).toNat = lkr I st p from rfl]
      refine ⟨fun h2 => ?_, fun h2 => ⟨by omega, ?_⟩⟩
      · rw [show dlvA I st p = I from if_pos (Or.inr h2)] at h; exact h
      · rw [show dlvA I st p = _ from if_neg (fun q => q.elim h1 h2)] at h
        obtain ⟨f0, f1, f2⟩ := lkr_in V h2
        have h4 := szo_in (S := I) (l := (lkr I st p).toNat) c3 c4
        rw [Int.toNat_natCast]
        have e2 : lkr I st p = (((lkr I st p).toNat : Nat) : Int) := by omega
        have k2 : Rn 65 0 [some (vr 27 0), some (vi (((lkr I st p).toNat : Nat) : Int)), some (vi (I 52 0 p)), none] [] ((67, 57, [some (vr 27 0), some (vi (p : Int)), some (vi st), some (vi (lkr I st p)), none], []) :: fs) I (Cs cc) n c z out := by
          refine m_size (by omega) c3 c4 (Rf.sm (pc2 := 60) rfl (k67_60 ?_))
          rw [wrI (x := 3 * lkr I st p) (by omega) (by omega), wrI (x := 3 * lkr I st p + szo I (lkr I st p).toNat (I 52 0 p)) (by omega) (by omega), show (3 * lkr I st p + szo I (lkr I st p).toNat (I 52 0 p)).toNat = 3 * (lkr I st p).toNat + (szo I (lkr I st p).toNat (I 52 0 p)).toNat by omega, Int.toNat_natCast]
          refine ⟨by omega, by omega, fun h5 => ?_, fun h5 => ?_⟩
          · unfold put9 at h
            rw [if_pos h5] at h; exact h
          · unfold put9 at h
            rw [if_neg h5] at h; exact h
        rw [← e2] at k2; exact k2
    rw [← e] at key; exact key
theorem m_dlv_l {fs : List fr} {cc : Nat → Option Nat} {n c z : Nat} {out : oP} {T : Int} : ∀ (d p : Nat) (I : IT), VD I → VS I (I 27 0 1) → VN I T → p + d = (I 27 0 30).toNat → Rf (Sum.inl none) fs (dlvF d p I) (Cs cc) n c z out → Rn 68 76 [some (vr 27 0), some (vi (p : Int))] [] fs I (Cs cc) n c z out := by
  intro d
  induction d with
  | zero =>
    intro p I V W N hp h
    exact k68_76 ⟨fun h1 => by omega, fun h1 => h⟩
  | succ d ih =>
    intro p I V W N hp h
    have v3 := V.2.2.1
    have v4 := V.2.2.2.1
    have hp2 : (p : Int) < I 27 0 30 := by omega
    obtain ⟨c1, c2, _⟩ := V.2.2.2.2.2.2.2.2.1 p hp2
    have e27 : ∀ j, ¬ j = 40 → dlv1 I p 27 0 j = I 27 0 j := fun j hj => dlv1_no (by omega) (by omega) (by omega) (by omega) (by omega) (by omega) (by omega)
    have nx := ih (p + 1) (dlv1 I p) (VD_dlv1 V hp2) (by rw [e27 1 (by omega)]; exact VS_ag dlv1_ag W) (VN_ag dlv1_ag N) (by rw [e27 30 (by omega)]; omega) h
    refine k68_76 ⟨fun h1 => ?_, fun h1 => by omega⟩
    simp (disch := omega) only [wrI (x := (p : Int) + 1), wrN, Int.toNat_natCast, nS]
    refine ⟨by omega, fun h2 => ?_, fun h2 => ?_⟩
    · have e : dlv1 I p = dlvA (dlvO I p) (ld I (I 50 0 p) (I 51 0 p)) p := if_pos h2
      rw [e] at nx
      refine k67_0 ⟨by omega, ?_⟩
      rw [Int.toNat_natCast]
      have hin := ld_in N (name := I 50 0 p) (num := I 51 0 p)
      have hn4 := N.2.2.2.1
      refine m_lead W N c1 c2 (Rf.sm (pc2 := 16) rfl (m_dlvA (T := T) (VD_old V) ?_ hp2 ?_ (Rf.nn (pc2 := 98) rfl (k68_98 ?_))))
      · exact VS_ag agD_old W
      · rw [plc_ag agD_old]
        show _ ∨ (_ ∧ _ ∧ ¬ plc I _ (I 51 0 p) = -1)
        rcases hin with q | q | ⟨q1, q2, q3⟩
        · exact Or.inl (by omega)
        · exact Or.inl (by omega)
        · exact Or.inr ⟨q1, by omega, q3⟩
      · rw [wrI (by omega) (by omega), nS]; exact nx
    · rw [show dlv1 I p = I from if_neg h2] at nx; exact nx

