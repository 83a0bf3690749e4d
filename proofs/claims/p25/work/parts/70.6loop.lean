/-! The law's loop: behind a case, the next round, all rounds. -/
/-- the next round -/
def Nx (J : IT) (fs : List fr) (k : Int) (c z : Nat) (out : oP) : Prop := ∀ (S : IT) (pl ca cl lo pa nw x wh y v st : Int) (a b d e f : Option av), IV S pl ca cl lo pa nw → Ln J 173 35 (LO pl ca cl lo pa nw (k + 1) x wh y v st a b d e f) [] fs S (c + 400) (z + 2400) out
theorem lo_busy {J S : IT} {fs : List fr} {c z : Nat} {out : oP} {pl ca cl lo pa nw k x wh y v st nm nu to : Int} (iv : IV S pl ca cl lo pa nw) (g : ∀ co : Int, Ln J 173 1170 (LO pl ca cl lo pa nw k x wh y v st (some (vi nm)) (some (vi nu)) (some (vi to)) (some (vi (fb S ca.toNat))) (some (vi co))) [] fs S (c + 14) (z + 84) out) : ∀ (d co : Nat), (co : Int) + d = ca → Ln J 173 1128 (LO pl ca cl lo pa nw k x wh y v st (some (vi nm)) (some (vi nu)) (some (vi to)) (some (vi (fb S co))) (some (vi (co : Int)))) [] fs S (c + 2 * co) (z + 12 * co) out := by
  obtain ⟨L, e1, e2, e3, e4, e5, e6⟩ := iv
  have N := VI_num L.1
  intro d
  induction d with
  | zero =>
    intro co h
    have : co = ca.toNat := by omega
    subst this
    exact fun I cc c' z' F hJ h1 h2 => l1128 ⟨fun q => by omega, fun _ => g _ I cc c' z' F hJ (by omega) (by omega)⟩
  | succ d ih =>
    intro co h
    have fb9 := fb_in (S := S) co
    have o : ∀ j : Int, 0 ≤ j → j ≤ 2 → sT 15 S [(co : Int), j] = some 0 := fun j j1 j2 => congrArg some (show orT S (co : Int) j = 0 from by
      unfold orT
      rw [if_pos ⟨by omega, by omega, j1, j2⟩])
    have ih9 := ih (co + 1) (by omega)
    have nxt : ∀ bu : Int, bu = fb S (co + 1) → ∀ c1 z1, c1 ≤ c + 2 * (co + 1) → z1 ≤ z + 12 * (co + 1) → Ln J 173 1164 (LO pl ca cl lo pa nw k x wh y v st (some (vi nm)) (some (vi nu)) (some (vi to)) (some (vi bu)) (some (vi (co : Int)))) [] fs S c1 z1 out := by
      intro bu hbu c1 z1 b1 b2 I cc c' z' F hJ h1 h2
      subst hbu
      refine l1164 ?_
      rw [wrI (by omega) (by omega)]
      exact ih9 I cc c' z' F hJ (by omega) (by omega)
    by_cases hf : S 39 0 co = -1
    · refine Ln_call 15 (l := [(co : Int), 0]) (fun h9 => l1128 ⟨fun _ => h9, fun q => by omega⟩) rfl (by omega) (o 0 (by omega) (by omega)) (show orV S (co : Int) 0 = 1 from by unfold orV; rw [if_pos rfl, Int.toNat_natCast, if_pos hf]) rfl rfl ?_
      have hb : fb S (co + 1) = fb S co := by
        show fb S co + _ = _
        rw [if_pos hf]; omega
      exact fun I cc c' z' F hJ h1 h2 => l1143 ⟨fun q => by omega, fun _ => nxt _ (by rw [wrI (by omega) (by omega), hb]; omega) _ _ (by omega) (by omega) I cc c' z' F hJ h1 h2⟩
    · have wb := L.2.2 co (by omega) hf
      have h0 := L.1.1.2.2.2.2
      refine Ln_call 15 (l := [(co : Int), 0]) (fun h9 => l1128 ⟨fun _ => h9, fun q => by omega⟩) rfl (by omega) (o 0 (by omega) (by omega)) (show orV S (co : Int) 0 = 0 from by unfold orV; rw [if_pos rfl, Int.toNat_natCast, if_neg hf]) rfl rfl ?_
      refine Ln_call 15 (l := [(co : Int), 2]) (fun h9 => l1143 ⟨fun _ => h9, fun q => absurd rfl q⟩) rfl (by omega) (o 2 (by omega) (by omega)) (show orV S (co : Int) 2 = S 38 0 co - S 27 0 0 from by unfold orV; rw [if_neg (by omega), if_neg (by omega), Int.toNat_natCast, if_neg hf, wrI (by omega) (by omega)]) rfl rfl ?_
      have hb : fb S (co + 1) = fb S co + 1 := by
        show fb S co + _ = _
        rw [if_neg hf]
      exact fun I cc c' z' F hJ h1 h2 => l1153 ⟨fun _ => nxt _ (by rw [wrI (by omega) (by omega), hb]) _ _ (by omega) (by omega) I cc c' z' F hJ h1 h2, fun q => by omega⟩
theorem cs_1065 {J S : IT} {fs : List fr} {c z : Nat} {out : oP} {pl ca cl lo pa nw k x wh y v st : Int} {a b d e f : Option av} (g : Nx J fs k c z out) (iv : IV S pl ca cl lo pa nw) (hk : 0 ≤ k ∧ k < 70) : Ln J 173 1065 (LO pl ca cl lo pa nw k x wh y v st a b d e f) [] fs S (c + 20) (z + 120) out := by
  have iv0 := iv
  obtain ⟨L, e1, e2, e3, e4, e5, e6⟩ := iv
  have N := VI_num L.1
  have t1 := tm hk.1 (p := 8) (by omega)
  have t2 := tm hk.1 (p := 60) (by omega)
  have w1 : wr (1 + Int.tmod k 60) = 1 + Int.tmod k 60 := wrI (by omega) (by omega)
  have o : ldT (Int.tmod k 8) (wr (1 + Int.tmod k 60)) = 0 := by unfold ldT; rw [if_pos (by omega), if_pos (by omega)]
  -- the end of the round
  have e35 : ∀ (a b d e f : Option av) c1 z1, c1 ≤ c + 400 → z1 ≤ z + 2400 → Ln J 173 1207 (LO pl ca cl lo pa nw k x wh y v st a b d e f) [] fs S c1 z1 out → True := fun _ _ _ _ _ _ _ _ _ _ => trivial
  have end7 : ∀ (nm nu to bu co : Int) c1 z1, c1 ≤ c + 400 → z1 ≤ z + 2400 → Ln J 173 1207 (LO pl ca cl lo pa nw k x wh y v st (some (vi nm)) (some (vi nu)) (some (vi to)) (some (vi bu)) (some (vi co))) [] fs S c1 z1 out := by
    intro nm nu to bu co c1 z1 b1 b2 I cc c' z' F hJ h1 h2
    refine l1207 ?_
    rw [wrI (by omega) (by omega)]
    exact g S pl ca cl lo pa nw x wh y v st _ _ _ _ _ iv0 I cc c' z' F hJ (by omega) (by omega)
  have end6 : ∀ (nm nu to co : Int), Ln J 173 1170 (LO pl ca cl lo pa nw k x wh y v st (some (vi nm)) (some (vi nu)) (some (vi to)) (some (vi (fb S ca.toNat))) (some (vi co))) [] fs S (c + 24 + 14) (z + 144 + 84) out := by
    intro nm nu to co
    have fb9 := fb_in (S := S) ca.toNat
    refine Ln_call 22 (l := [2]) l1170 rfl (by omega) (co_0 (by omega)) (show coV S 2 = ca - fb S ca.toNat from by rw [coF_2 L.1, e2]) rfl rfl ?_
    intro I cc c' z' F hJ h1 h2
    refine l1175 ⟨fun _ => ⟨fun _ => ?_, fun _ => end7 _ _ _ _ _ _ _ (by omega) (by omega) I cc c' z' F hJ h1 h2⟩, fun q => absurd (wrI (by omega) (by omega)).symm q⟩
    refine REF e1 e2 e3 e4 e5 L.1 (Lf.sm (pc2 := 1202) rfl ?_) I cc c' z' F hJ h1 h2
    exact fun I cc c' z' F hJ h1 h2 => l1202 ⟨fun q => absurd (show (1 : Int) = 0 from q) (by decide), fun _ => end7 _ _ _ _ _ _ _ (by omega) (by omega) I cc c' z' F hJ h1 h2⟩
  have end5 : ∀ (nm nu to : Int), Ln J 173 1122 (LO pl ca cl lo pa nw k x wh y v st (some (vi nm)) (some (vi nu)) (some (vi to)) d e) [] fs S (c + 24) (z + 144) out → True := fun _ _ _ _ => trivial
  have end4 : ∀ (nm nu to : Int) (e f : Option av), Ln J 173 1122 (LO pl ca cl lo pa nw k x wh y v st (some (vi nm)) (some (vi nu)) (some (vi to)) e f) [] fs S (c + 24) (z + 144) out := by
    intro nm nu to e f I cc c' z' F hJ h1 h2
    have := lo_busy (k := k) (x := x) (wh := wh) (y := y) (v := v) (st := st) (nm := nm) (nu := nu) (to := to) (c := c + 24) (z := z + 144) (fs := fs) (J := J) (out := out) iv0 (fun co => end6 nm nu to co) ca.toNat 0 (by omega)
    exact l1122 (this I cc c' z' F hJ (by omega) (by omega))
  refine Ln_call 7 (l := [Int.tmod k 8, wr (1 + Int.tmod k 60)]) l1065 rfl (by omega) (congrArg some o) rfl rfl rfl ?_
  refine Ln_call 8 (l := [Int.tmod k 8, wr (1 + Int.tmod k 60)]) l1089 rfl (by omega) (congrArg some o) rfl rfl rfl ?_
  rcases ld_pl L.1 (a := Int.tmod k 8) (b := wr (1 + Int.tmod k 60)) with h | h | ⟨u1, u2, u3⟩
  · exact fun I cc c' z' F hJ h1 h2 => l1101 ⟨fun _ => ⟨fun _ => end4 _ _ _ _ _ I cc c' z' F hJ (by omega) (by omega), fun q => absurd (show ld S (Int.tmod k 8) (wr (1 + Int.tmod k 60)) < 0 by omega) q⟩, fun q => absurd rfl q⟩
  · exact fun I cc c' z' F hJ h1 h2 => l1101 ⟨fun _ => ⟨fun _ => end4 _ _ _ _ _ I cc c' z' F hJ (by omega) (by omega), fun q => absurd (show ld S (Int.tmod k 8) (wr (1 + Int.tmod k 60)) < 0 by omega) q⟩, fun q => absurd rfl q⟩
  · refine Ln_call 9 (l := [ld S (Int.tmod k 8) (wr (1 + Int.tmod k 60)), wr (1 + Int.tmod k 60)]) (fun h9 => l1101 ⟨fun _ => ⟨fun q => absurd (show ld S (Int.tmod k 8) (wr (1 + Int.tmod k 60)) < 0 from q) (by omega), fun _ => h9⟩, fun q => absurd rfl q⟩) rfl (by omega) (congrArg some (show poT S (ld S (Int.tmod k 8) (wr (1 + Int.tmod k 60))) (wr (1 + Int.tmod k 60)) = 0 from by unfold poT; rw [if_pos ⟨u1, u2⟩, if_pos (by omega)])) rfl rfl rfl ?_
    exact fun I cc c' z' F hJ h1 h2 => l1117 ⟨fun q => absurd (show plc S (ld S (Int.tmod k 8) (wr (1 + Int.tmod k 60))).toNat (wr (1 + Int.tmod k 60)) < 0 from q) (by omega), fun _ => end4 _ _ _ _ _ I cc c' z' F hJ (by omega) (by omega)⟩
theorem ush_8 (x : Int) : 0 ≤ ushI x 8 ∧ ushI x 8 ≤ 16777215 := by
  have e : ushI x 8 = (((Int32.ofInt x).toUInt32 >>> ((Int32.ofInt 8).toUInt32 &&& Int32.toUInt32 31)).toNat : Int) := by
    have h : ((Int32.ofInt x).toUInt32 >>> ((Int32.ofInt 8).toUInt32 &&& Int32.toUInt32 31)).toNat < 2147483648 := by
      rw [UInt32.toNat_shiftRight]
      have h1 : (Int32.ofInt x).toUInt32.toNat < 4294967296 := UInt32.toNat_lt _
      have h2 : (((Int32.ofInt 8).toUInt32 &&& Int32.toUInt32 31).toNat % 32) = 8 := by decide
      rw [h2, Nat.shiftRight_eq_div_pow]
      omega
    unfold ushI
    show BitVec.toInt _ = _
    rw [BitVec.toInt_eq_toNat_of_lt]
    · rfl
    · have h3 : (((Int32.ofInt x).toUInt32 >>> ((Int32.ofInt 8).toUInt32 &&& Int32.toUInt32 31)).toInt32.toBitVec).toNat = ((Int32.ofInt x).toUInt32 >>> ((Int32.ofInt 8).toUInt32 &&& Int32.toUInt32 31)).toNat := rfl
      rw [h3]
      omega
  rw [e, UInt32.toNat_shiftRight]
  have h1 : (Int32.ofInt x).toUInt32.toNat < 4294967296 := UInt32.toNat_lt _
  have h2 : (((Int32.ofInt 8).toUInt32 &&& Int32.toUInt32 31).toNat % 32) = 8 := by decide
  rw [h2, Nat.shiftRight_eq_div_pow]
  omega
theorem law_l {J : IT} {c0 z0 : Nat} {out : oP} (hL : 0 ≤ J 99 1 0) (hend : ∀ I C c z, c ≤ c0 + 400 * 71 → z ≤ z0 + 2400 * 71 → out (Sum.inl (some (vi 1)), I, C, 211, c, z)) : ∀ (d k : Nat), k + d = 70 → ∀ (S : IT) (pl ca cl lo pa nw : Int) (w9 w10 w11 w12 w13 w14 w15 w16 w17 w18 : Option av), IV S pl ca cl lo pa nw → Ln J 173 35 [some (vr 99 0), some (vr 0 0), some (vi pl), some (vi ca), some (vi cl), some (vi lo), some (vi pa), some (vi nw), some (vi (k : Int)), w9, w10, w11, w12, w13, w14, w15, w16, w17, w18] [] [] S (c0 + 400 * k) (z0 + 2400 * k) out := by
  intro d
  induction d with
  | zero =>
    intro k hk S pl ca cl lo pa nw w9 w10 w11 w12 w13 w14 w15 w16 w17 w18 iv I cc c' z' F hJ h1 h2
    exact l35 ⟨fun q => by omega, fun _ => l1213 (Rf_end (hend _ _ _ _ (by omega) (by omega)))⟩
  | succ d ih =>
    intro k hk S pl ca cl lo pa nw w9 w10 w11 w12 w13 w14 w15 w16 w17 w18 iv
    have nx : Nx J [] (k : Int) (c0 + 400 * k) (z0 + 2400 * k) out := fun S2 pl ca cl lo pa nw x wh y v st a b d e f iv2 => by
      have := ih (k + 1) (by omega) S2 pl ca cl lo pa nw (some (vi x)) (some (vi wh)) (some (vi y)) (some (vi v)) (some (vi st)) a b d e f iv2
      rw [show ((k + 1 : Nat) : Int) = (k : Int) + 1 by omega, show c0 + 400 * (k + 1) = c0 + 400 * k + 400 by omega, show z0 + 2400 * (k + 1) = z0 + 2400 * k + 2400 by omega] at this
      exact this
    have go : Go J [] (k : Int) (c0 + 400 * k + 4) (z0 + 2400 * k + 24) out := fun S2 pl ca cl lo pa nw x wh y v st a b d e f iv2 => (cs_1065 nx iv2 (by omega)).le (by omega) (by omega)
    have N := VI_num iv.1.1
    have body : ∀ (x : Int) (w10 w11 w12 : Option av), 0 ≤ x → x ≤ 16777215 → Ln J 173 67 [some (vr 99 0), some (vr 0 0), some (vi pl), some (vi ca), some (vi cl), some (vi lo), some (vi pa), some (vi nw), some (vi (k : Int)), some (vi x), w10, w11, w12, w13, w14, w15, w16, w17, w18] [] [] S (c0 + 400 * k) (z0 + 2400 * k) out := by
      intro x w10 w11 w12 x0 x1
      have d1 : Int.tdiv x 16 = x / 16 := Int.tdiv_eq_ediv_of_nonneg x0
      have w1 : wr (Int.tdiv x 16) = x / 16 := by rw [d1, wrI (by omega) (by omega)]
      have d2 : Int.tdiv (x / 16) 20 = x / 16 / 20 := Int.tdiv_eq_ediv_of_nonneg (by omega)
      have w2 : wr (Int.tdiv (wr (Int.tdiv x 16)) 20) = x / 16 / 20 := by rw [w1, d2, wrI (by omega) (by omega)]
      refine Ln_call 22 (l := [0]) (fun h9 => l67 h9) rfl (by omega) (co_0 (by omega)) (show coV S 0 = S 27 0 4 from if_pos rfl) rfl rfl ?_
      rw [w1, d2, wrI (x := x / 16 / 20) (by omega) (by omega)]
      exact (cs_93 go iv rfl ⟨by omega, by omega⟩ ⟨by omega, by omega⟩).le (by omega) (by omega)
    intro I cc c' z' F hJ h1 h2
    have j1 := hJ 1 0
    refine l35 ⟨fun _ => ⟨fun q => ?_, fun q => ⟨q, ?_, ?_⟩⟩, fun q => by omega⟩
    · rw [wrI (by omega) (by omega)]
      exact body _ _ _ _ (by omega) (by omega) I cc c' z' F hJ h1 h2
    · exact tm (by omega) (by omega)
    · have u := ush_8 (I 99 0 (Int.toNat (Int.tmod (k : Int) (I 99 1 0))))
      exact body _ _ _ _ u.1 u.2 I cc c' z' F hJ h1 h2
