theorem c_conn_in {fs : List fr} {S : IT} {cc : Nat → Option Nat} {n c z : Nat} {out : oP} (M : Mt (dS S)) {o p a : Nat} {m : Int} (ho : (o : Int) < S 27 0 1) (hp : (p : Int) < S 27 0 1) (ha : (a : Int) < S 27 0 1) (h12 : S 27 0 1 ≤ 12) (hm : 1 ≤ m) (hm2 : m ≤ 60) (I0 : IT) (h : ∀ I x5, RA I (jn S o p m (12 * (a + 1))) → (∀ f i j, ¬ f = 2 → I f i j = I0 f i j) → Rn 115 3 [some (vr 1 0), some (vi (o : Int)), some (vi (p : Int)), some (vi m), some (vi ((a + 1 : Nat) : Int)), x5] [] fs I (Cs cc) n c z out) : ∀ (d b : Nat) (I : IT), b + d = (S 27 0 1).toNat → RA I (jn S o p m (12 * a + b)) → (∀ f i j, ¬ f = 2 → I f i j = I0 f i j) → Rn 115 15 [some (vr 1 0), some (vi (o : Int)), some (vi (p : Int)), some (vi m), some (vi (a : Int)), some (vi (b : Int))] [] fs I (Cs cc) n c z out := by
  intro d
  induction d with
  | zero =>
    intro b I hb R hI
    have r1 : I 1 0 0 = S 27 0 1 := R.1.trans (jn_no (by decide))
    refine k115_15 ⟨fun h1 => by omega, fun h1 => ?_⟩
    rw [wrI (by omega) (by omega), nS]
    refine h I _ (RA_eq R ((jn_no (by decide)).trans (jn_no (by decide)).symm) ((jn_no (by decide)).trans (jn_no (by decide)).symm) (fun x y hx hy hx2 hy2 => ?_)) hI
    rw [jn_no (by decide)] at hx2 hy2
    rw [jn_at hy, jn_at hy]
    by_cases g : 12 * x + y < 12 * a + b
    · rw [if_pos g, if_pos (by omega)]
    · rw [if_neg g, if_neg (by omega)]
  | succ d ih =>
    intro b I hb R hI
    have hb2 : (b : Int) < S 27 0 1 := by omega
    have r1 : I 1 0 0 = S 27 0 1 := R.1.trans (jn_no (by decide))
    have B := btwn_jn (k := 12 * a + b) M (o := o) (p := p) (m := m) (by omega) (by omega) hm hm2
    generalize hZ : jn S o p m (12 * a + b) = Z at *
    have zp := B.1
    have bao := B.2 a o (by omega) (by omega)
    have bpb := B.2 p b (by omega) (by omega)
    refine k115_15 ⟨fun h1 => ?_, fun h1 => by omega⟩
    refine c_btw R (by omega) (Rf.sm (pc2 := 36) rfl (k115_36 ?_))
    refine c_btw R (by omega) (Rf.sm (pc2 := 44) rfl (k115_44 ?_))
    rw [btw_if (by omega) (by omega), btw_if (by omega) (by omega)]
    refine c_added (S := S) ⟨bao.2.2.2.1, fun q => by have := bao.2.2.1 q; omega⟩ ⟨bpb.2.2.2.1, fun q => by have := bpb.2.2.1 q; omega⟩ ⟨hm, hm2⟩ (Rf.sm (pc2 := 47) rfl (k115_47 ?_))
    refine c_half (L := 660) (by omega) (by omega) M ho hp ha hb2 h12 hm hm2 B R (fun I1 w R1 B1 w1 w2 w3 hI1 => Rf.nn (pc2 := 50) rfl (k115_50 ?_))
    have zp1 := B1.1
    have bap := B1.2 a p (by omega) (by omega)
    have bob := B1.2 o b (by omega) (by omega)
    have bab := B1.2 a b (by omega) (by omega)
    have eab : up3 Z 28 0 (12 * a + b) w 28 0 (12 * a + b) = w := up3_eq
    refine c_btw R1 (by omega) (Rf.sm (pc2 := 62) rfl (k115_62 ?_))
    refine c_btw R1 (by omega) (Rf.sm (pc2 := 70) rfl (k115_70 ?_))
    rw [btw_if (by omega) (by omega), btw_if (by omega) (by omega)]
    refine c_added (S := S) ⟨bap.2.2.2.1, fun q => by have := bap.2.2.1 q; omega⟩ ⟨bob.2.2.2.1, fun q => by have := bob.2.2.1 q; omega⟩ ⟨hm, hm2⟩ (Rf.sm (pc2 := 73) rfl (k115_73 ?_))
    have B1s : btwn S p o m (2 * 660 + 60) (up3 Z 28 0 (12 * a + b) w) := ⟨B1.1, fun x y hx hy => by rw [nw_comm]; exact B1.2 x y hx hy⟩
    refine c_half (L := 2 * 660 + 60) (by omega) (by omega) M hp ho ha hb2 h12 hm hm2 B1s R1 (fun I2 v R2 B2 v1 v2 v3 hI2 => Rf.nn (pc2 := 76) rfl (k115_76 ?_))
    rw [wrI (by omega) (by omega), nS]
    rw [up3_up3] at R2 B2
    have eab2 : up3 Z 28 0 (12 * a + b) v 28 0 (12 * a + b) = v := up3_eq
    have b2ab := B2.2 a b (by omega) (by omega)
    rw [eab2, nw_comm] at b2ab
    rw [eab] at v1 v3
    have bS := B.2 a b (by omega) (by omega)
    have sp : nw (dS S) o p m a b ≤ S 28 0 (12 * a + b) ∧ nw (dS S) o p m a b ≤ S 28 0 (12 * a + o) + m + S 28 0 (12 * p + b) ∧ nw (dS S) o p m a b ≤ S 28 0 (12 * a + p) + m + S 28 0 (12 * o + b) ∧ (nw (dS S) o p m a b = S 28 0 (12 * a + b) ∨ nw (dS S) o p m a b = S 28 0 (12 * a + o) + m + S 28 0 (12 * p + b) ∨ nw (dS S) o p m a b = S 28 0 (12 * a + p) + m + S 28 0 (12 * o + b)) := nw_sp
    have hv : v = nw (dS S) o p m a b := by omega
    have R3 : RA I2 (jn S o p m (12 * a + (b + 1))) := by
      rw [← jn_up (v := v) (show b < 12 by omega) hv, hZ]; exact R2
    exact ih (b + 1) I2 (by omega) R3 (fun f i j q => (hI2 f i j q).trans ((hI1 f i j q).trans (hI f i j q)))
theorem c_conn_l {fs : List fr} {S : IT} {cc : Nat → Option Nat} {n c z : Nat} {out : oP} (M : Mt (dS S)) {o p : Nat} {m : Int} (ho : (o : Int) < S 27 0 1) (hp : (p : Int) < S 27 0 1) (h12 : S 27 0 1 ≤ 12) (hm : 1 ≤ m) (hm2 : m ≤ 60) (I0 : IT) (h : ∀ I, RA I (jn S o p m 144) → (∀ f i j, ¬ f = 2 → I f i j = I0 f i j) → Rf (Sum.inl (some (vi (wr (I 1 0 1 + 1))))) fs (up3 I 1 0 1 (wr (I 1 0 1 + 1))) (Cs cc) n c z out) : ∀ (d a : Nat) (I : IT) (x5 : Option av), a + d = (S 27 0 1).toNat → RA I (jn S o p m (12 * a)) → (∀ f i j, ¬ f = 2 → I f i j = I0 f i j) → Rn 115 3 [some (vr 1 0), some (vi (o : Int)), some (vi (p : Int)), some (vi m), some (vi (a : Int)), x5] [] fs I (Cs cc) n c z out := by
  intro d
  induction d with
  | zero =>
    intro a I x5 ha R hI
    have r1 : I 1 0 0 = S 27 0 1 := R.1.trans (jn_no (by decide))
    refine k115_3 ⟨fun h1 => by omega, fun h1 => ?_⟩
    refine h I (RA_eq R ((jn_no (by decide)).trans (jn_no (by decide)).symm) ((jn_no (by decide)).trans (jn_no (by decide)).symm) (fun x y hx hy hx2 hy2 => ?_)) hI
    rw [jn_no (by decide)] at hx2 hy2
    rw [jn_at hy, jn_at hy, if_pos (by omega), if_pos (by omega)]
  | succ d ih =>
    intro a I x5 ha R hI
    have r1 : I 1 0 0 = S 27 0 1 := R.1.trans (jn_no (by decide))
    refine k115_3 ⟨fun h1 => ?_, fun h1 => by omega⟩
    exact c_conn_in M ho hp (by omega) h12 hm hm2 I0 (fun I2 x5 R2 hI2 => ih (a + 1) I2 x5 (by omega) R2 hI2) (S 27 0 1).toNat 0 I (by omega) R hI

