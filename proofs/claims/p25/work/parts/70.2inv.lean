/-! What the law's loop needs to hold of the stores: minutes of parcels and of cars. -/
def W7 (S : IT) : Prop := ∀ p : Nat, p < 40 → 0 ≤ S 57 0 p ∧ S 57 0 p ≤ S 27 0 0
def WB (S : IT) : Prop := ∀ k : Nat, (k : Int) < S 27 0 14 → ¬ S 39 0 k = -1 → S 27 0 0 < S 38 0 k ∧ S 38 0 k ≤ S 27 0 0 + 1000
def LI (S : IT) : Prop := VI S ∧ W7 S ∧ WB S
theorem LI.no {S S2 : IT} (L : LI S) (V : VI S2) (h : ∀ f i j, (f = 57 ∨ f = 38 ∨ f = 39 ∨ (f = 27 ∧ i = 0 ∧ (j = 0 ∨ j = 14))) → S2 f i j = S f i j) : LI S2 := by
  obtain ⟨v, w7, wb⟩ := L
  refine ⟨V, fun p hp => ?_, fun k hk hn => ?_⟩
  · rw [h 57 0 p (by omega), h 27 0 0 (by omega)]; exact w7 p hp
  · rw [h 27 0 14 (by omega)] at hk
    rw [h 39 0 k (by omega)] at hn
    rw [h 27 0 0 (by omega), h 38 0 k (by omega)]
    exact wb k hk hn
theorem cnW_le {d : Nat → Nat → Int} {a : Nat} : ∀ n : Nat, cn d a n ≤ n := by
  intro n
  induction n with
  | zero => unfold cn; omega
  | succ n ih => unfold cn; split <;> omega
/-- a way takes at most 660 minutes -/
theorem Mt_le {S : IT} (M : Mt (dS S)) {a b : Nat} (ha : a < 12) (hb : b < 12) (h : S 28 0 (12 * a + b) < 1000000) : 0 ≤ S 28 0 (12 * a + b) ∧ S 28 0 (12 * a + b) ≤ 660 := by
  obtain ⟨m1, m2, m3, m4, m5⟩ := M
  have h5 := m5 a b ha hb h
  have h6 := cnW_le (d := dS S) (a := a) 12
  have h3 := m3 a b ha hb
  have e : dS S a b = S 28 0 (12 * a + b) := rfl
  rw [e] at h5 h3
  omega
def WX (S : IT) : Prop := VC S ∧ Mt (dS S) ∧ 0 ≤ S 27 0 0 ∧ S 27 0 0 ≤ 100000 ∧ WB S
theorem WX_snd1 {S : IT} (X : WX S) {q : Nat} (hq : (q : Int) < S 27 0 18) : WX (snd1 S q) := by
  obtain ⟨v, m, n0, n1, wb⟩ := X
  have e0 : snd1 S q 27 0 0 = S 27 0 0 := snd1_no (by decide) (by decide) (by decide) (by decide) (by decide) (by decide)
  have e14 : snd1 S q 27 0 14 = S 27 0 14 := snd1_no (by decide) (by decide) (by decide) (by decide) (by decide) (by decide)
  refine ⟨VC_snd1 v hq, ?_, by rw [e0]; exact n0, by rw [e0]; exact n1, fun k hk hn => ?_⟩
  · rw [show dS (snd1 S q) = dS S from by funext a b; exact snd1_no (by decide) (by decide) (by decide) (by decide) (by decide) (by decide)]; exact m
  · rw [e14] at hk
    rw [e0]
    by_cases g : bst S q = -1
    · have e : snd1 S q = S := if_pos g
      rw [e] at hn ⊢
      exact wb k hk hn
    · have e : snd1 S q = snd0 S q (bst S q) := if_neg g
      rw [e] at hn ⊢
      rw [s38]
      rw [s39] at hn
      by_cases e2 : k = (bst S q).toNat
      · rw [if_pos e2]
        obtain ⟨b1, b2, b3, b4⟩ := bst_in v g
        have b5 := nb_ok (S := S) (p := S 44 0 q) (S 27 0 14).toNat (by rw [← b4]; exact g)
        rw [← b4] at b5
        obtain ⟨c1, c2, c3, c4, c5, c6, c7, c8⟩ := v
        have h44 := c8 q hq
        have h37 := c7 (bst S q).toNat (by omega)
        have w := Mt_le m (a := (S 37 0 (bst S q).toNat).toNat) (b := (S 44 0 q).toNat) (by omega) (by have := h44.1 b1; omega) b5.2
        have w2 : 0 ≤ fr9 S (bst S q).toNat (S 44 0 q) ∧ fr9 S (bst S q).toNat (S 44 0 q) ≤ 660 := w
        unfold thr9
        rw [wrI (x := S 27 0 0 + fr9 S (bst S q).toNat (S 44 0 q)) (by omega) (by omega)]
        have w3 : (if S 47 0 q = 0 then (0 : Int) else 1) = 0 ∨ (if S 47 0 q = 0 then (0 : Int) else 1) = 1 := by split <;> omega
        rw [wrI (x := S 27 0 0 + fr9 S (bst S q).toNat (S 44 0 q) + (if S 47 0 q = 0 then 0 else 1)) (by omega) (by omega), wrI (by omega) (by omega)]
        omega
      · rw [if_neg e2] at hn ⊢
        exact wb k hk hn
theorem WX_sndF : ∀ d q S, WX S → ((q + d : Nat) : Int) ≤ S 27 0 18 → WX (sndF d q S) := by
  intro d
  induction d with
  | zero => intro q S X _; exact X
  | succ d ih =>
    intro q S X h
    refine ih (q + 1) (snd1 S q) (WX_snd1 X (by omega)) ?_
    rw [snd1_no (by decide) (by decide) (by decide) (by decide) (by decide) (by decide)]; omega
theorem WX_sends {S : IT} (X : WX S) : WX (sends S) := by
  have := X.1.2.2.1
  exact WX_sndF _ _ _ X (by omega)
theorem LI.wx {S : IT} (L : LI S) : WX S := ⟨L.1.1.1, L.1.2.1.1, L.1.1.2.2.2.2, L.1.2.1.2.2.2.1, L.2.2⟩
theorem LI_sends {S : IT} (L : LI S) : LI (sends S) := by
  have V := VI_snd L.1
  have e0 : sends S 27 0 0 = S 27 0 0 := sends_no (by omega) (by omega) (by omega) (by omega) (by omega) (by omega)
  refine ⟨V, fun p hp => ?_, (WX_sends L.wx).2.2.2.2⟩
  rw [e0, sends_no (by omega) (by omega) (by omega) (by omega) (by omega) (by omega)]
  exact L.2.1 p hp
-- a minute
def WF (k : Nat) (S : IT) : Prop := ∀ j : Nat, (j : Int) < S 27 0 14 → ¬ S 39 0 j = -1 → (S 27 0 0 ≤ S 38 0 j ∧ S 38 0 j ≤ S 27 0 0 + 1000) ∧ (j < k → S 27 0 0 < S 38 0 j)
theorem WF_fre1 {S : IT} {k : Nat} (h : WF k S) : WF (k + 1) (fre1 S k) := fun j hj hn => by
  rw [fre1_no (by omega) (by omega)] at hj
  rw [fre1_no (by omega) (by omega), fre1_no (by omega) (by omega)]
  by_cases g : ¬ S 39 0 k = -1 ∧ S 38 0 k ≤ S 27 0 0
  · have e : fre1 S k = up3 (up3 S 42 0 (S 39 0 k).toNat 2) 39 0 k (-1) := if_pos g
    rw [e] at hn
    by_cases q : j = k
    · subst q
      rw [up3_eq] at hn
      exact absurd rfl hn
    · rw [up3_no (by omega), up3_nf (by omega)] at hn
      obtain ⟨a, b⟩ := h j hj hn
      exact ⟨a, fun hk => b (by omega)⟩
  · have e : fre1 S k = S := if_neg g
    rw [e] at hn
    obtain ⟨a, b⟩ := h j hj hn
    refine ⟨a, fun hk => ?_⟩
    by_cases q : j = k
    · subst q
      rcases Int.lt_or_le (S 27 0 0) (S 38 0 j) with u | u
      · exact u
      · exact absurd ⟨hn, u⟩ g
    · exact b (by omega)
theorem WF_freF : ∀ d k S, WF k S → WF (k + d) (freF d k S) := by
  intro d
  induction d with
  | zero => intro k S h; exact h
  | succ d ih =>
    intro k S h
    have := ih (k + 1) (fre1 S k) (WF_fre1 h)
    rw [show k + (d + 1) = k + 1 + d by omega]
    exact this
theorem day9_57 {S : IT} {p : Nat} (h : 0 ≤ S 57 0 p ∧ S 57 0 p ≤ S 27 0 0) (h0 : 0 ≤ S 27 0 0) : 0 ≤ day9 S 57 0 p ∧ day9 S 57 0 p ≤ S 27 0 0 := by
  have a1 : ∀ (S : IT) (q : Nat), dlv1 S q 27 0 0 = S 27 0 0 := fun S q => dlv1_no (by omega) (by omega) (by omega) (by omega) (by omega) (by omega) (by omega)
  have d1 : ∀ (S : IT) (q : Nat), dlv1 S q 57 0 p = S 57 0 p ∨ dlv1 S q 57 0 p = S 27 0 0 := fun S q => by
    unfold dlv1
    split
    · unfold dlvA
      split
      · exact Or.inl (up3_nf (by omega))
      · rw [p57]
        split
        · exact Or.inr (up3_no (by omega))
        · exact Or.inl (up3_nf (by omega))
    · exact Or.inl rfl
  have dF : ∀ (d q : Nat) (S : IT), dlvF d q S 57 0 p = S 57 0 p ∨ dlvF d q S 57 0 p = S 27 0 0 := by
    intro d
    induction d with
    | zero => intro q S; exact Or.inl rfl
    | succ d ih =>
      intro q S
      have h1 := ih (q + 1) (dlv1 S q)
      have h2 := d1 S q
      have h3 := a1 S q
      have e : dlvF (d + 1) q S = dlvF d (q + 1) (dlv1 S q) := rfl
      rw [e]
      omega
  unfold day9
  split
  · have h1 := dF (S 27 0 30).toNat 0 (retF (S 27 0 30).toNat 0 S)
    rw [retF_no (f := 57) (by omega) (by omega), retF_no (f := 27) (by omega) (by omega)] at h1
    omega
  · exact h
theorem LI_mnt {S : IT} (L : LI S) (h : S 27 0 0 < 100000) : LI (mnt S) := by
  have V := mnt_VI L.1 h
  have hn := mnt_now L.1.1.2.2.2.2 h
  have h0 := L.1.1.2.2.2.2
  have et : tick S 27 0 0 = S 27 0 0 + 1 := by
    unfold tick
    rw [up3_eq, wrI (by omega) (by omega)]
  have en : day9 (fre9 (tick S)) 27 0 0 = S 27 0 0 + 1 := by
    rw [day9_no (by omega) (by omega) (by omega) (by omega) (by omega) (by omega) (by omega), fre9_no (by omega) (by omega)]; exact et
  refine ⟨V, fun p hp => ?_, ?_⟩
  · rw [hn]
    have w := L.2.1 p hp
    have e1 : fre9 (tick S) 27 0 0 = S 27 0 0 + 1 := (fre9_no (by omega) (by omega)).trans et
    have e2 : fre9 (tick S) 57 0 p = S 57 0 p := (fre9_no (by omega) (by omega)).trans (tick_no (by omega))
    have := day9_57 (S := fre9 (tick S)) (p := p) (by rw [e1, e2]; omega) (by rw [e1]; omega)
    rw [e1] at this
    unfold mnt
    rw [sends_no (by omega) (by omega) (by omega) (by omega) (by omega) (by omega)]
    exact this
  · have X : WX (day9 (fre9 (tick S))) := by
      refine ⟨VC_day9 (VC_fre9 (VC_tick L.1.1.1)), ?_, by rw [en]; omega, by rw [en]; omega, fun k hk hb => ?_⟩
      · rw [show dS (day9 (fre9 (tick S))) = dS S from by
          funext a b
          show day9 (fre9 (tick S)) 28 0 _ = S 28 0 _
          rw [day9_no (by omega) (by omega) (by omega) (by omega) (by omega) (by omega) (by omega), fre9_no (by omega) (by omega), tick_no (by omega)]]
        exact L.1.2.1.1
      · have W0 : WF 0 (tick S) := fun j hj hb => by
          rw [tick_no (by omega)] at hj hb
          rw [et, tick_no (by omega)]
          have := L.2.2 j hj hb
          exact ⟨by omega, fun g => by omega⟩
        have W1 := WF_freF ((tick S) 27 0 14).toNat 0 (tick S) W0
        have e14 : ∀ (S : IT), day9 S 27 0 14 = S 27 0 14 := fun S => day9_no (by omega) (by omega) (by omega) (by omega) (by omega) (by omega) (by omega)
        rw [e14] at hk
        rw [day9_no (by omega) (by omega) (by omega) (by omega) (by omega) (by omega) (by omega)] at hb
        have hk2 : (k : Int) < fre9 (tick S) 27 0 14 := hk
        have e15 : fre9 (tick S) 27 0 14 = tick S 27 0 14 := fre9_no (by omega) (by omega)
        obtain ⟨a, b⟩ := W1 k hk2 hb
        have b := b (by omega)
        rw [en, day9_no (f := 38) (by omega) (by omega) (by omega) (by omega) (by omega) (by omega) (by omega)]
        have e16 : freF ((tick S) 27 0 14).toNat 0 (tick S) 27 0 0 = S 27 0 0 + 1 := (freF_no (by omega) (by omega) _ _ _).trans et
        have a2 : freF ((tick S) 27 0 14).toNat 0 (tick S) 38 0 k ≤ freF ((tick S) 27 0 14).toNat 0 (tick S) 27 0 0 + 1000 := a.2
        rw [e16] at a2 b
        exact ⟨b, a2⟩
    exact (WX_sends X).2.2.2.2
theorem LI_mntF : ∀ (d : Nat) (S : IT), LI S → S 27 0 0 + d ≤ 100000 → LI (mntF d S) ∧ mntF d S 27 0 0 = S 27 0 0 + d := by
  intro d
  induction d with
  | zero => intro S L _; exact ⟨L, by show S 27 0 0 = _; omega⟩
  | succ d ih =>
    intro S L h
    have hn := mnt_now L.1.1.2.2.2.2 (by omega)
    obtain ⟨a, b⟩ := ih (mnt S) (LI_mnt L (by omega)) (by rw [hn]; omega)
    refine ⟨a, ?_⟩
    have e : mntF (d + 1) S = mntF d (mnt S) := rfl
    rw [e, b, hn]; omega
-- the calls
theorem LI_thr {S : IT} (L : LI S) {v : Int} : LI (up3 S 27 0 41 v) := L.no (VI_N agN_thr L.1) (fun f i j h => up3_no (by omega))
theorem VI_op {S : IT} {T V : Int} {Z : IT} (V0 : VI S) (ht : T = 0) (ok : VI (OP T Z S)) : VI Z := by rw [OP0 ht] at ok; exact ok
theorem LI_place {S : IT} (L : LI S) (h : plT S = 0) : LI (plZ S) := by
  refine L.no ?_ (fun f i j q => ?_)
  · have := VI_place L.1
    rw [plS_O, OP0 h] at this; exact this
  · unfold plZ; rw [up3_no (by omega), up3_no (by omega)]
theorem LI_join {S : IT} (L : LI S) {o p m : Int} (h : joT S o p m = 0) : LI (joZ S o p m) := L.no (VI_jo L.1 h) (fun f i j q => joZ_no (by omega) (by omega))
theorem LI_street {S : IT} (L : LI S) (h : stT S = 0) : LI (stZ S) := by
  refine L.no ?_ (fun f i j q => ?_)
  · have := ok_street.2.1 S L.1
    have this : VI (OP (stT S) (stZ S) S) := this
    rw [OP0 h] at this; exact this
  · unfold stZ; rw [up3_no (by omega), up3_no (by omega)]
theorem LI_span {S : IT} (L : LI S) {s f t p : Int} (h : spT S s f t p = 0) : LI (spZ S s f t p) := L.no (VI_sp L.1 h) (fun f i j q => spZ_no (by omega) (by omega))
theorem LI_name {S : IT} (L : LI S) {s x : Int} (h : nmT S s x = 0) : LI (nmZ S s x) := L.no (VI_nm L.1 h) (fun f i j q => nmZ_no (by omega) (by omega))
theorem LI_same {S : IT} (L : LI S) {a b : Int} : LI (saZ S a b) := L.no (VI_sa L.1) (fun f i j q => saZ_no (by omega) (by omega))
theorem LI_locker {S : IT} (L : LI S) {a s m b : Int} (h : loT S a s m b = 0) : LI (loZ S a s m b) := by
  refine L.no ?_ (fun f i j q => ?_)
  · have := (ok_locker a s m b).2.1 S L.1
    have this : VI (OP (loT S a s m b) (loZ S a s m b) S) := this
    rw [OP0 h] at this; exact this
  · unfold loZ; repeat rw [up3_no (by omega)]
theorem LI_post {S : IT} (L : LI S) {a b s : Int} (h : psT S a b s = 0) : LI (psZ S a b s) := L.no (VI_ps L.1 h) (fun f i j q => psZ_no (by omega) (by omega))
theorem LI_take {S : IT} (L : LI S) {a : Int} (h : taT S a = 0) : LI (taZ S a) := L.no (VI_ta L.1 h) (fun f i j q => taZ_no (by omega) (by omega) (by omega))
theorem LI_call {S : IT} (L : LI S) {a b : Int} (h : clT S a b = 0) : LI (sends (clW S a b)) := LI_sends (L.no (VI_cw L.1 h) (fun f i j q => clW_no (by omega) (by omega)))
theorem LI_clear {S : IT} (L : LI S) {a b : Int} (h : crT S a b = 0) : LI (sends (crW S a b)) := LI_sends (L.no (VI_cr L.1 h) (fun f i j q => crW_no (by omega) (by omega)))
theorem LI_car {S : IT} (L : LI S) {a : Int} (h : caT S a = 0) : LI (caZ S a) := by
  have V : VI (caZ S a) := by
    have := (ok_car a).2.1 S L.1
    have this : VI (OP (caT S a) (caZ S a) S) := this
    rw [OP0 h] at this; exact this
  have N := VI_num L.1
  have e0 : caZ S a 27 0 0 = S 27 0 0 := by unfold caZ; repeat rw [up3_no (by omega)]
  have e14 : caZ S a 27 0 14 = S 27 0 14 + 1 := by unfold caZ; exact up3_eq
  refine ⟨V, fun p hp => ?_, fun k hk hn => ?_⟩
  · rw [e0, show caZ S a 57 0 p = S 57 0 p from by unfold caZ; repeat rw [up3_no (by omega)]]
    exact L.2.1 p hp
  · rw [e14] at hk
    rw [e0, show caZ S a 38 0 k = S 38 0 k from by unfold caZ; repeat rw [up3_no (by omega)]]
    have e39 : caZ S a 39 0 k = if k = (S 27 0 14).toNat then -1 else S 39 0 k := by
      unfold caZ
      rw [up3_no (by omega), up3_at, up3_no (by omega), up3_no (by omega)]
    rw [e39] at hn
    by_cases q : k = (S 27 0 14).toNat
    · rw [if_pos q] at hn; exact absurd rfl hn
    · rw [if_neg q] at hn
      exact L.2.2 k (by omega) hn
theorem LI_pass {S : IT} (L : LI S) {m : Int} (h : paT S m = 0) : LI (paZ S m) ∧ paZ S m 27 0 0 = S 27 0 0 + m := by
  obtain ⟨g1, g2⟩ := pa_if h
  have e0 : up3 S 27 0 41 0 27 0 0 = S 27 0 0 := up3_no (by omega)
  obtain ⟨a, b⟩ := LI_mntF m.toNat (up3 S 27 0 41 0) (LI_thr L) (by rw [e0]; omega)
  refine ⟨a, ?_⟩
  unfold paZ
  rw [b, e0]; omega
