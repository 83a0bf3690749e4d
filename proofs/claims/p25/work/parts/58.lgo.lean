/-! Minutes in which nothing happens; a machine for the law's code over concrete stores. -/
def jump (S : IT) (d : Nat) : IT := up3 S 27 0 0 (S 27 0 0 + (d : Int))
/-- for how many minutes nothing happens -/
def qcar (S : IT) : Nat → Nat → Nat
  | 0, q => q
  | k + 1, q => if S 39 0 k = -1 then qcar S k q else qcar S k (min q (S 38 0 k - S 27 0 0 - 1).toNat)
def qmin (S : IT) : Nat := if (List.range (S 27 0 18).toNat).all (fun q => decide (bst S q = -1)) = true then qcar S (S 27 0 14).toNat (1439 - (S 27 0 0).toNat % 1440) else 0
def fpass : Nat → Nat → IT → IT
  | 0, d, S => mntF d S
  | k + 1, d, S => if d = 0 then S else if min d (qmin S) = 0 then fpass k (d - 1) (mnt S) else fpass k (d - min d (qmin S)) (jump S (min d (qmin S)))
theorem qcar_le {S : IT} : ∀ k q, qcar S k q ≤ q ∧ ∀ j, j < k → ¬ S 39 0 j = -1 → qcar S k q ≤ (S 38 0 j - S 27 0 0 - 1).toNat := by
  intro k
  induction k with
  | zero => intro q; exact ⟨Nat.le_refl _, fun j hj => by omega⟩
  | succ k ih =>
    intro q
    unfold qcar
    by_cases g : S 39 0 k = -1
    · rw [if_pos g]
      refine ⟨(ih q).1, fun j hj hn => ?_⟩
      by_cases e : j = k
      · subst e; exact absurd g hn
      · exact (ih q).2 j (by omega) hn
    · rw [if_neg g]
      have h := ih (min q (S 38 0 k - S 27 0 0 - 1).toNat)
      refine ⟨by have := h.1; omega, fun j hj hn => ?_⟩
      by_cases e : j = k
      · subst e; have := h.1; omega
      · exact h.2 j (by omega) hn
theorem freF_st {S : IT} : ∀ d k, (∀ j, k ≤ j → j < k + d → ¬ (¬ S 39 0 j = -1 ∧ S 38 0 j ≤ S 27 0 0)) → freF d k S = S := by
  intro d
  induction d with
  | zero => intro k _; rfl
  | succ d ih =>
    intro k h
    have e : fre1 S k = S := if_neg (h k (by omega) (by omega))
    show freF d (k + 1) (fre1 S k) = S
    rw [e]
    exact ih (k + 1) (fun j h1 h2 => h j (by omega) (by omega))
theorem jump_0 {S : IT} : jump S 0 = S := by
  funext f i j
  unfold jump up3
  split
  · next h => obtain ⟨rfl, rfl, rfl⟩ := h; simp
  · rfl
theorem jump_s {S : IT} {d : Nat} : jump (jump S d) 1 = jump S (d + 1) := by
  funext f i j
  unfold jump up3
  split
  · simp; omega
  · rfl
theorem jump_o {S : IT} {d : Nat} {f i j : Nat} (h : ¬ (f = 27 ∧ i = 0 ∧ j = 0)) : jump S d f i j = S f i j := up3_no h
theorem jump_n {S : IT} {d : Nat} : jump S d 27 0 0 = S 27 0 0 + d := up3_eq
theorem mntF_s : ∀ (d : Nat) (S : IT), mntF (d + 1) S = mnt (mntF d S) := by
  intro d
  induction d with
  | zero => intro S; rfl
  | succ d ih => intro S; exact ih (mnt S)
theorem mntF_a : ∀ (d e : Nat) (S : IT), mntF (d + e) S = mntF e (mntF d S) := by
  intro d
  induction d with
  | zero => intro e S; rw [Nat.zero_add]; rfl
  | succ d ih => intro e S; rw [Nat.succ_add]; exact ih e (mnt S)
/-- a minute in which nothing happens -/
theorem mnt_q {S : IT} (h0 : 0 ≤ S 27 0 0) (h1 : S 27 0 0 < 100000) (hs : Stl S) (hc : ∀ j : Nat, (j : Int) < S 27 0 14 → ¬ S 39 0 j = -1 → S 27 0 0 + 1 < S 38 0 j) (hd : ¬ (S 27 0 0 + 1) % 1440 = 0) : mnt S = jump S 1 := by
  have e1 : tick S = jump S 1 := by
    unfold tick jump
    rw [wr_id (x := S 27 0 0 + 1) ⟨by omega, by omega⟩]; rfl
  have e2 : fre9 (jump S 1) = jump S 1 := by
    refine freF_st _ _ (fun j _ hj => ?_)
    rw [jump_o (by omega), jump_o (by omega), jump_n]
    rw [jump_o (by omega)] at hj
    intro ⟨q1, q2⟩
    have := hc j (by omega) q1
    omega
  have e3 : day9 (jump S 1) = jump S 1 := by
    refine if_neg ?_
    rw [jump_n, Int.tmod_eq_emod_of_nonneg (by omega)]
    exact hd
  have e4 : Stl (jump S 1) := Stl_ag hs (fun f i j hf => jump_o (by omega)) (jump_o (by omega)) (jump_o (by omega))
  unfold mnt
  rw [e1, e2, e3, stl_sends e4]
theorem mntF_q {S : IT} (h0 : 0 ≤ S 27 0 0) : ∀ d : Nat, S 27 0 0 + d ≤ 100000 → d ≤ qmin S → mntF d S = jump S d := by
  intro d
  induction d with
  | zero => intro _ _; exact jump_0.symm
  | succ d ih =>
    intro h1 h2
    rw [mntF_s, ih (by omega) (by omega), ← jump_s]
    unfold qmin at h2
    split at h2
    · next hs =>
      have hs : Stl S := fun q hq => of_decide_eq_true (List.all_eq_true.mp hs q (List.mem_range.mpr (by omega)))
      obtain ⟨q1, q2⟩ := qcar_le (S := S) (S 27 0 14).toNat (1439 - (S 27 0 0).toNat % 1440)
      refine mnt_q (by rw [jump_n]; omega) (by rw [jump_n]; omega) (Stl_ag hs (fun f i j hf => jump_o (by omega)) (jump_o (by omega)) (jump_o (by omega))) (fun j hj hn => ?_) ?_
      · rw [jump_o (by omega)] at hj hn
        rw [jump_n, jump_o (by omega)]
        have := q2 j (by omega) hn
        omega
      · rw [jump_n]; omega
    · omega
theorem fpass_ok : ∀ (k d : Nat) (S : IT), 0 ≤ S 27 0 0 → S 27 0 0 + d ≤ 100000 → fpass k d S = mntF d S := by
  intro k
  induction k with
  | zero => intro d S _ _; rfl
  | succ k ih =>
    intro d S h0 h1
    unfold fpass
    by_cases e : d = 0
    · rw [if_pos e, e]; rfl
    · rw [if_neg e]
      by_cases g : min d (qmin S) = 0
      · rw [if_pos g]
        have hn := mnt_now h0 (by omega)
        rw [ih (d - 1) (mnt S) (by rw [hn]; omega) (by rw [hn]; omega)]
        obtain ⟨d, rfl⟩ : ∃ d2, d = d2 + 1 := ⟨d - 1, by omega⟩
        rfl
      · rw [if_neg g, ih _ _ (by rw [jump_n]; omega) (by rw [jump_n]; omega), ← mntF_q h0 _ (by omega) (by omega), ← mntF_a]
        congr 1
        omega
-- the machine
abbrev LC : Type := Nat × Nat × lo × List av × List fr × IT × Nat
def ints : List av → Option (List Int)
  | [] => some []
  | Sum.inl x :: l => (ints l).map (fun r => x :: r)
  | _ => none
def objs : List av → Option (List Int)
  | Sum.inr (Sum.inr (some q)) :: l => bif Nat.beq q.1 0 && Nat.beq q.2 0 then ints l else none
  | _ => none
theorem ints_inv : ∀ (as : List av) (l : List Int), ints as = some l → as = l.map vi
  | [], l, h => by cases h; rfl
  | Sum.inl x :: t, l, h => by
    unfold ints at h
    cases g : ints t with
    | none => rw [g] at h; cases h
    | some r =>
      rw [g] at h
      cases h
      rw [ints_inv t r g]; rfl
  | Sum.inr x :: t, l, h => by cases h
theorem objs_inv {as : List av} {l : List Int} (h : objs as = some l) : as = vr 0 0 :: l.map vi := by
  unfold objs at h
  split at h
  · next q t =>
    cases g : (Nat.beq q.1 0 && Nat.beq q.2 0)
    · rw [g] at h; cases h
    · rw [g] at h
      obtain ⟨a1, a2⟩ := and2 g
      rw [ints_inv t l h]
      have : q = (0, 0) := Prod.ext (beqN a1) (beqN a2)
      rw [this]
  · cases h
def IX : IT := fun _ _ _ => 0
def pur : Instr → Bool
  | .iload _ => true | .iload_n _ => true | .aload _ => true | .aload_n _ => true | .istore _ => true | .istore_n _ => true | .astore _ => true | .astore_n _ => true
  | .iinc _ _ => true | .iconst _ => true | .bipush _ => true | .sipush _ => true | .ldc _ => true | .ldc_w _ => true
  | .iadd => true | .isub => true | .imul => true | .idiv => true | .irem => true | .ineg => true | .iushr => true
  | .goto _ => true | .if_icmp _ _ => true | .ifCond _ _ => true
  | .ireturn => true
  | .invokestatic _ => true | .invokevirtual _ => true
  | _ => false
def rp (I : IT) (C : CT) (n c z : Nat) : so → so
  | Sum.inl (pc, ls, st, _, _, _, _, _) => Sum.inl (pc, ls, st, I, C, n, c, z)
  | Sum.inr x => Sum.inr x
set_option maxHeartbeats 4000000 in
theorem stc_pur (e : ent) (pc : Nat) (ls : lo) (st : List av) (I I0 : IT) (C C0 : CT) (n c z n0 c0 z0 : Nat) (hp : pur e.1 = true) : stc e pc ls st I C n c z = (stc e pc ls st I0 C0 n0 c0 z0).map (rp I C n c z) := by
  obtain ⟨i, len, a, b, d⟩ := e
  have h0 : Option.map (rp I C n c z) none = none := rfl
  unfold stc
  cases i with
  | if_icmp cd o => cases cd <;> simp only [stp, sII_n (g := Option.map (rp I C n c z)) h0, ite_n (g := Option.map (rp I C n c z))] <;> rfl
  | ifCond cd o => cases cd <;> simp only [stp, sI_n (g := Option.map (rp I C n c z)) h0, ite_n (g := Option.map (rp I C n c z))] <;> rfl
  | iload j => simp only [stp, xIl_n (g := Option.map (rp I C n c z)) h0]; rfl
  | iload_n j => simp only [stp, xIl_n (g := Option.map (rp I C n c z)) h0]; rfl
  | aload j => simp only [stp, xRl_n (g := Option.map (rp I C n c z)) h0]; rfl
  | aload_n j => simp only [stp, xRl_n (g := Option.map (rp I C n c z)) h0]; rfl
  | istore j => simp only [stp, sI_n (g := Option.map (rp I C n c z)) h0]; rfl
  | istore_n j => simp only [stp, sI_n (g := Option.map (rp I C n c z)) h0]; rfl
  | astore j => simp only [stp, sR_n (g := Option.map (rp I C n c z)) h0]; rfl
  | astore_n j => simp only [stp, sR_n (g := Option.map (rp I C n c z)) h0]; rfl
  | iinc j v => simp only [stp, xIl_n (g := Option.map (rp I C n c z)) h0]; rfl
  | iconst v => rfl
  | bipush v => rfl
  | sipush v => rfl
  | ldc j => rfl
  | ldc_w j => rfl
  | iadd => simp only [stp, sII_n (g := Option.map (rp I C n c z)) h0]; rfl
  | isub => simp only [stp, sII_n (g := Option.map (rp I C n c z)) h0]; rfl
  | imul => simp only [stp, sII_n (g := Option.map (rp I C n c z)) h0]; rfl
  | idiv => simp only [stp, sII_n (g := Option.map (rp I C n c z)) h0, ite_n (g := Option.map (rp I C n c z))]; rfl
  | irem => simp only [stp, sII_n (g := Option.map (rp I C n c z)) h0, ite_n (g := Option.map (rp I C n c z))]; rfl
  | ineg => simp only [stp, sI_n (g := Option.map (rp I C n c z)) h0]; rfl
  | iushr => simp only [stp, sII_n (g := Option.map (rp I C n c z)) h0]; rfl
  | goto o => rfl
  | ireturn => simp only [stp, s1_n (g := Option.map (rp I C n c z)) h0, ite_n (g := Option.map (rp I C n c z)), bif_n (g := Option.map (rp I C n c z))]; rfl
  | invokestatic j => simp only [stp, sII_n (g := Option.map (rp I C n c z)) h0, bif_n (g := Option.map (rp I C n c z))]; rfl
  | invokevirtual j => simp only [stp, sO_n (g := Option.map (rp I C n c z)) h0, bif_n (g := Option.map (rp I C n c z))]; rfl
  | _ => cases hp
/-- a call's store, minutes by leaps -/
def sQ : Nat → IT → List Int → IT
  | 21, S, [m] => fpass 400 m.toNat (up3 S 27 0 41 0)
  | y, S, l => sZ y S l
theorem sQ_ok {y : Nat} {S : IT} {l : List Int} (V : VI S) (hT : sT y S l = some 0) : sQ y S l = sZ y S l := by
  unfold sQ
  split
  · next m =>
    have hT : paT S m = 0 := Option.some.inj (show some (paT S m) = some 0 from hT)
    have g := pa_if hT
    have e0 : up3 S 27 0 41 0 27 0 0 = S 27 0 0 := up3_no (by omega)
    exact fpass_ok _ _ _ (by rw [e0]; exact V.1.2.2.2.2) (by rw [e0]; omega)
  · rfl
theorem mntF_now : ∀ (d : Nat) (S : IT), 0 ≤ S 27 0 0 → S 27 0 0 + d ≤ 100000 → mntF d S 27 0 0 = S 27 0 0 + d := by
  intro d
  induction d with
  | zero => intro S _ _; exact (Int.add_zero _).symm
  | succ d ih =>
    intro S h0 h1
    have hn := mnt_now h0 (by omega)
    have := ih (mnt S) (by omega) (by omega)
    show mntF d (mnt S) 27 0 0 = _
    omega
/-- a call's value, the clock's without the minutes -/
def sW : Nat → IT → List Int → Int
  | 21, S, [m] => S 27 0 0 + m
  | y, S, l => sV y S l
theorem sW_ok {y : Nat} {S : IT} {l : List Int} (V : VI S) (hT : sT y S l = some 0) : sW y S l = sV y S l := by
  unfold sW
  split
  · next m =>
    have hT : paT S m = 0 := Option.some.inj (show some (paT S m) = some 0 from hT)
    have g := pa_if hT
    have e0 : up3 S 27 0 41 0 27 0 0 = S 27 0 0 := up3_no (by omega)
    have h := mntF_now m.toNat (up3 S 27 0 41 0) (by rw [e0]; exact V.1.2.2.2.2) (by rw [e0]; omega)
    rw [e0] at h
    have e1 : (m.toNat : Int) = m := by omega
    rw [e1] at h
    exact h.symm
  · rfl
/-- the place behind a test of a truth -/
def tst (m pc : Nat) (v : Int) : Option Nat := match cd m pc with
  | some (.ifCond .eq _, len, a, _, _) => some (if v = 0 then a else pc + len)
  | some (.ifCond .ne _, len, a, _, _) => some (if v = 0 then pc + len else a)
  | _ => none
def lcall (m pc : Nat) (ls : lo) (fs : List fr) (S : IT) (c y : Nat) (as r : List av) : Option LC :=
  bif Nat.ble y 22 then (match objs as with
    | none => none
    | some l => match sT y S l with
      | none => none
      | some T => if T = 0 then (bif Nat.beq y 6 then (match tst m (pc + 3) (sV y S l) with
          | none => none
          | some p => some (m, p, ls, r, fs, sZ y S l, c + 1)) else some (m, pc + 3, ls, vi (sW y S l) :: r, fs, sQ y S l, c + 1)) else none)
  else bif Nat.beq y 162 then (match objs as with
    | some [w, a, b, d, e] => if 0 ≤ w ∧ w ≤ 21 then (match sT (w.toNat + 1) S (aL (w.toNat + 1) a b d e) with
        | none => none
        | some T => if T = 0 then some (m, pc + 3, ls, vi (sW (w.toNat + 1) S (aL (w.toNat + 1) a b d e)) :: r, fs, sQ (w.toNat + 1) S (aL (w.toNat + 1) a b d e), c + 1) else some (m, pc + 3, ls, vi (aX (w.toNat + 1) T) :: r, fs, S, c + 1)) else none
    | _ => none)
  else bif Nat.ble 164 y && Nat.ble y 166 then some (y, 0, ini y as, [], (m, pc, ls, r) :: fs, S, c) else none
def lret (fs : List fr) (v : av) (S : IT) (c : Nat) : Option LC := match fs with
  | [] => none
  | (m1, pc1, ls1, st1) :: fs1 => some (m1, pc1 + 3, ls1, v :: st1, fs1, S, c)
def lst (e : ent) (m pc : Nat) (ls : lo) (st : List av) (fs : List fr) (S : IT) (c : Nat) : Option LC :=
  bif pur e.1 then (match stc e pc ls st IX C0 0 0 0 with
    | some (Sum.inl (pc', ls', st', _, _, _, _, _)) => some (m, pc', ls', st', fs, S, c)
    | some (Sum.inr (Sum.inl (y, as, r))) => lcall m pc ls fs S c y as r
    | some (Sum.inr (Sum.inr (Sum.inl (some v)))) => lret fs v S c
    | _ => none) else none
def lgo : Nat → LC → Option LC
  | 0, x => some x
  | k + 1, (m, pc, ls, st, fs, S, c) => match cd m pc with
    | none => none
    | some e => match lst e m pc ls st fs S c with
      | none => none
      | some y => lgo k y
abbrev LG (J : IT) (gs : List fr) (c0 z0 : Nat) (out : oP) (x : LC) : Prop := Ln J x.1 x.2.1 x.2.2.1 x.2.2.2.1 (x.2.2.2.2.1 ++ gs) x.2.2.2.2.2.1 (x.2.2.2.2.2.2 + c0) (6 * x.2.2.2.2.2.2 + z0) out
theorem Ln.el {J : IT} {m pc : Nat} {ls : lo} {st : List av} {fs : List fr} {S : IT} {c z : Nat} {out : oP} {e : ent} (hc : cd m pc = some e) {r : so} (hp : pur e.1 = true) (hs : stc e pc ls st IX C0 0 0 0 = some r)
    (g : ∀ I cc c' z', FS I cc S → J9 I J → c' ≤ c → z' ≤ z → Ev (fun k => el (fun pc' ls' st' I' C' n' c' z' => run k m pc' ls' st' fs I' C' n' c' z') (fun y as r => run k y 0 (ini y as) [] ((m, pc, ls, r) :: fs) I (Cs cc) 211 c' z') (fun v => fin (run k) (Sum.inl v) fs I (Cs cc) 211 c' z') (fun E c' z' => fin (run k) (Sum.inr E) fs I (Cs cc) 211 c' z') (some (rp I (Cs cc) 211 c' z' r))) out) : Ln J m pc ls st fs S c z out := fun I cc c' z' F hJ h1 h2 => by
  refine Rn.one hc (fun k => ?_) (g I cc c' z' F hJ h1 h2)
  rw [stp_el, stc_pur e pc ls st I IX (Cs cc) C0 211 c' z' 0 0 0 hp, hs]
  rfl
theorem tst_ok {m pc p : Nat} {v V : Int} (hv : (if v = 0 then 0 else 1) = V) (h : tst m pc V = some p) {J : IT} {ls : lo} {st : List av} {fs : List fr} {S : IT} {c z : Nat} {out : oP} (g : Ln J m p ls st fs S c z out) : Ln J m pc ls (vi v :: st) fs S c z out := by
  have e : V = 0 ↔ v = 0 := by
    by_cases q : v = 0
    · rw [if_pos q] at hv; exact ⟨fun _ => q, fun _ => hv.symm⟩
    · rw [if_neg q] at hv; exact ⟨fun h => by omega, fun h => absurd h q⟩
  unfold tst at h
  split at h
  · next o len a b d hc =>
    have h := Option.some.inj h
    intro I cc c' z' F hJ h1 h2
    refine Rn.iz_eq hc rfl (fun q => ?_) (fun q => ?_)
    · rw [if_pos (e.mpr q)] at h
      subst h
      exact g I cc c' z' F hJ h1 h2
    · rw [if_neg (fun y => q (e.mp y))] at h
      subst h
      exact g I cc c' z' F hJ h1 h2
  · next o len a b d hc =>
    have h := Option.some.inj h
    intro I cc c' z' F hJ h1 h2
    refine Rn.iz_ne hc rfl (fun q => ?_) (fun q => ?_)
    · rw [if_pos (e.mpr q)] at h
      subst h
      exact g I cc c' z' F hJ h1 h2
    · rw [if_neg (fun y => q (e.mp y))] at h
      subst h
      exact g I cc c' z' F hJ h1 h2
  · cases h
theorem sF_id {y : Nat} {v : Int} (hy : ¬ y = 6) : sF y v = v := by
  unfold sF
  split
  · exact absurd rfl hy
  · rfl
theorem lcall_ok {J : IT} {gs : List fr} {c0 z0 : Nat} {out : oP} {m pc : Nat} {ls : lo} {fs : List fr} {S : IT} {c y : Nat} {as r : List av} {x : LC} (h : lcall m pc ls fs S c y as r = some x) (g : LG J gs c0 z0 out x) {I : IT} {cc : Nat → Option Nat} {c' z' : Nat} (F : FS I cc S) (hJ : J9 I J) (h1 : c' ≤ c + c0) (h2 : z' ≤ 6 * c + z0) : Rn y 0 (ini y as) [] ((m, pc, ls, r) :: (fs ++ gs)) I (Cs cc) 211 c' z' out := by
  unfold lcall at h
  cases hy : Nat.ble y 22
  · rw [hy] at h
    cases hy2 : Nat.beq y 162
    · rw [hy2] at h
      cases hy3 : (Nat.ble 164 y && Nat.ble y 166)
      · rw [hy3] at h; cases h
      · rw [hy3] at h
        have hA : some (y, 0, ini y as, [], (m, pc, ls, r) :: fs, S, c) = some x := h
        cases hA
        exact g I cc c' z' F hJ h1 h2
    · rw [hy2] at h
      have hB : (match objs as with
        | some [w, a, b, d, e] => if 0 ≤ w ∧ w ≤ 21 then (match sT (w.toNat + 1) S (aL (w.toNat + 1) a b d e) with
            | none => none
            | some T => if T = 0 then some (m, pc + 3, ls, vi (sW (w.toNat + 1) S (aL (w.toNat + 1) a b d e)) :: r, fs, sQ (w.toNat + 1) S (aL (w.toNat + 1) a b d e), c + 1) else some (m, pc + 3, ls, vi (aX (w.toNat + 1) T) :: r, fs, S, c + 1)) else none
        | _ => none) = some x := h
      clear h
      have hy2 := beqN hy2
      split at hB
      · next w a b d e ho =>
        have ho2 := objs_inv ho
        clear ho
        by_cases hw : 0 ≤ w ∧ w ≤ 21
        · rw [if_pos hw] at hB
          obtain ⟨w, rfl⟩ : ∃ w2 : Nat, w = (w2 : Int) := ⟨w.toNat, by omega⟩
          rw [Int.toNat_natCast] at hB
          rw [hy2, ho2]
          cases hT : sT (w + 1) S (aL (w + 1) a b d e) with
          | none => rw [hT] at hB; cases hB
          | some T =>
            rw [hT] at hB
            dsimp only at hB
            by_cases q : T = 0
            · rw [if_pos q, sW_ok F.2 (by rw [hT, q])] at hB
              cases hB
              have g9 : Ln J m (pc + 3) ls (vi (sV (w + 1) S (aL (w + 1) a b d e)) :: r) (fs ++ gs) (sQ (w + 1) S (aL (w + 1) a b d e)) (c + 1 + c0) (6 * (c + 1) + z0) out := g
              exact act_L w (by omega) hT F hJ h1 h2 rfl (if_pos q) ((if_pos q).trans (sQ_ok F.2 (by rw [hT, q])).symm) (g9.le (by omega) (by omega))
            · rw [if_neg q] at hB
              cases hB
              have g9 : Ln J m (pc + 3) ls (vi (aX (w + 1) T) :: r) (fs ++ gs) S (c + 1 + c0) (6 * (c + 1) + z0) out := g
              exact act_L w (by omega) hT F hJ h1 h2 rfl (if_neg q) (if_neg q) (g9.le (by omega) (by omega))
        · rw [if_neg hw] at hB; cases hB
      · cases hB
  · rw [hy] at h
    have hB : (match objs as with
      | none => none
      | some l => match sT y S l with
        | none => none
        | some T => if T = 0 then (bif Nat.beq y 6 then (match tst m (pc + 3) (sV y S l) with
            | none => none
            | some p => some (m, p, ls, r, fs, sZ y S l, c + 1)) else some (m, pc + 3, ls, vi (sW y S l) :: r, fs, sQ y S l, c + 1)) else none) = some x := h
    clear h
    cases ho : objs as with
    | none => rw [ho] at hB; cases hB
    | some l =>
      rw [ho] at hB
      dsimp only at hB
      have ho2 := objs_inv ho
      clear ho
      rw [ho2]
      cases hT : sT y S l with
      | none => rw [hT] at hB; cases hB
      | some T =>
        rw [hT] at hB
        dsimp only at hB
        by_cases q : T = 0
        · rw [if_pos q] at hB
          rw [q] at hT
          cases hy6 : Nat.beq y 6
          · rw [hy6] at hB
            have hC : some (m, pc + 3, ls, vi (sW y S l) :: r, fs, sQ y S l, c + 1) = some x := hB
            rw [sW_ok F.2 hT] at hC
            cases hC
            have g9 : Ln J m (pc + 3) ls (vi (sV y S l) :: r) (fs ++ gs) (sQ y S l) (c + 1 + c0) (6 * (c + 1) + z0) out := g
            exact call_V (fun e => by rw [e] at hy6; cases hy6) hT rfl F hJ h1 h2 rfl (sQ_ok F.2 hT).symm (g9.le (by omega) (by omega))
          · rw [hy6] at hB
            have hy6 := beqN hy6
            cases ht : tst m (pc + 3) (sV y S l) with
            | none =>
              rw [ht] at hB
              exact nomatch (show (none : Option LC) = some x from hB)
            | some p =>
              rw [ht] at hB
              have hC : some (m, p, ls, r, fs, sZ y S l, c + 1) = some x := hB
              cases hC
              have g9 : Ln J m p ls r (fs ++ gs) (sZ y S l) (c + 1 + c0) (6 * (c + 1) + z0) out := g
              refine call_L hT rfl F hJ h1 h2 rfl rfl (fun v hv => tst_ok ?_ ht (g9.le (by omega) (by omega)))
              rw [← hv, hy6]; rfl
        · rw [if_neg q] at hB; cases hB
theorem lst_ok {J : IT} {gs : List fr} {c0 z0 : Nat} {out : oP} {e : ent} {m pc : Nat} {ls : lo} {st : List av} {fs : List fr} {S : IT} {c : Nat} {x : LC} (hc : cd m pc = some e) (h : lst e m pc ls st fs S c = some x) (g : LG J gs c0 z0 out x) : Ln J m pc ls st (fs ++ gs) S (c + c0) (6 * c + z0) out := by
  unfold lst at h
  cases hp : pur e.1
  · rw [hp] at h; cases h
  · rw [hp] at h
    have hB : (match stc e pc ls st IX C0 0 0 0 with
      | some (Sum.inl (pc', ls', st', _, _, _, _, _)) => some (m, pc', ls', st', fs, S, c)
      | some (Sum.inr (Sum.inl (y, as, r))) => lcall m pc ls fs S c y as r
      | some (Sum.inr (Sum.inr (Sum.inl (some v)))) => lret fs v S c
      | _ => none) = some x := h
    clear h
    cases hs : stc e pc ls st IX C0 0 0 0 with
    | none => rw [hs] at hB; cases hB
    | some r =>
      rw [hs] at hB
      refine Ln.el hc hp hs (fun I cc c' z' F hJ h1 h2 => ?_)
      rcases r with ⟨pc', ls', st', I', C', n', c9, z9⟩ | ⟨y, as, r⟩ | v | ⟨E, c9, z9⟩
      · cases hB
        exact g I cc c' z' F hJ h1 h2
      · exact lcall_ok hB g F hJ h1 h2
      · cases v with
        | none => cases hB
        | some v =>
          cases fs with
          | nil => cases hB
          | cons f fs1 =>
            obtain ⟨m1, pc1, ls1, st1⟩ := f
            cases hB
            exact g I cc c' z' F hJ h1 h2
      · cases hB
theorem lgo_ok {J : IT} {gs : List fr} {c0 z0 : Nat} {out : oP} : ∀ (k : Nat) (x y : LC), lgo k x = some y → LG J gs c0 z0 out y → LG J gs c0 z0 out x := by
  intro k
  induction k with
  | zero => intro x y h g; cases h; exact g
  | succ k ih =>
    intro x y h g
    obtain ⟨m, pc, ls, st, fs, S, c⟩ := x
    unfold lgo at h
    cases hc : cd m pc with
    | none => rw [hc] at h; cases h
    | some e =>
      rw [hc] at h
      dsimp only at h
      cases hl : lst e m pc ls st fs S c with
      | none => rw [hl] at h; cases h
      | some x =>
        rw [hl] at h
        exact lst_ok hc hl (ih x y h g)
-- the store's table
def tb1 (f j : Nat) (d : Int) : List (Nat × List Int) → Int
  | [] => d
  | r :: l => bif Nat.beq r.1 f then (match nth r.2 j with | some v => v | none => d) else tb1 f j d l
def pat (S : IT) (L : List (Nat × List Int)) : IT := fun f i j => bif Nat.beq i 0 then tb1 f j (S f i j) L else S f i j
def ckr (S : IT) (f : Nat) : Nat → List Int → Bool
  | _, [] => true
  | j, v :: l => decide (S f 0 j = v) && ckr S f (j + 1) l
def chk (S : IT) (L : List (Nat × List Int)) : Bool := L.all (fun r => ckr S r.1 0 r.2)
theorem ckr_at {S : IT} {f : Nat} : ∀ (l : List Int) (b j : Nat) (v : Int), ckr S f b l = true → nth l j = some v → S f 0 (b + j) = v
  | [], _, _, _, _, h => by cases h
  | w :: l, b, 0, v, h, g => by
    cases g
    exact of_decide_eq_true (and2 h).1
  | w :: l, b, j + 1, v, h, g => by
    have h1 := ckr_at l (b + 1) j v (and2 h).2 g
    rw [show b + 1 + j = b + (j + 1) by omega] at h1
    exact h1
theorem tb1_at {S : IT} {f j : Nat} : ∀ (L : List (Nat × List Int)), chk S L = true → tb1 f j (S f 0 j) L = S f 0 j
  | [], _ => rfl
  | r :: L, h => by
    obtain ⟨h1, h2⟩ := and2 (show (ckr S r.1 0 r.2 && chk S L) = true from h)
    unfold tb1
    cases g : Nat.beq r.1 f
    · exact tb1_at L h2
    · have g := beqN g
      subst g
      show (match nth r.2 j with | some v => v | none => S r.1 0 j) = _
      cases g2 : nth r.2 j with
      | none => rfl
      | some v =>
        have h3 := ckr_at r.2 0 j v h1 g2
        rw [Nat.zero_add] at h3
        exact h3.symm
theorem pat_eq {S : IT} {L : List (Nat × List Int)} (h : chk S L = true) : pat S L = S := by
  funext f i j
  unfold pat
  cases g : Nat.beq i 0
  · rfl
  · have g := beqN g
    subst g
    exact tb1_at L h
def aft (k : Nat) (x : LC) : IT := match lgo k x with
  | some y => y.2.2.2.2.2.1
  | none => x.2.2.2.2.2.1
/-- so far by the machine, and there the store as the table says -/
def ckl (k : Nat) (x : LC) (m pc : Nat) (ls : lo) (st : List av) (fs : List fr) (c : Nat) (L : List (Nat × List Int)) : Bool := match lgo k x with
  | none => false
  | some y => Nat.beq y.1 m && Nat.beq y.2.1 pc && decide (y.2.2.1 = ls) && decide (y.2.2.2.1 = st) && (y.2.2.2.2.1.isEmpty && fs.isEmpty) && Nat.ble y.2.2.2.2.2.2 c && chk y.2.2.2.2.2.1 L
theorem ckl_ok {J : IT} {gs : List fr} {c0 z0 : Nat} {out : oP} {k : Nat} {x : LC} {m pc : Nat} {ls : lo} {st : List av} {fs : List fr} {c : Nat} {L : List (Nat × List Int)} (h : ckl k x m pc ls st fs c L = true) (g : LG J gs c0 z0 out (m, pc, ls, st, fs, pat (aft k x) L, c)) : LG J gs c0 z0 out x := by
  unfold ckl at h
  unfold aft at g
  cases hl : lgo k x with
  | none => rw [hl] at h; cases h
  | some y =>
    rw [hl] at h g
    dsimp only at h g
    refine lgo_ok k x y hl ?_
    obtain ⟨m2, pc2, ls2, st2, fs2, S2, c2⟩ := y
    obtain ⟨h, h7⟩ := and2 h
    obtain ⟨h, h6⟩ := and2 h
    obtain ⟨h, h5⟩ := and2 h
    obtain ⟨h, h4⟩ := and2 h
    obtain ⟨h, h3⟩ := and2 h
    obtain ⟨h1, h2⟩ := and2 h
    have k1 : m2 = m := beqN h1
    have k2 : pc2 = pc := beqN h2
    have k3 : ls2 = ls := of_decide_eq_true h3
    have k4 : st2 = st := of_decide_eq_true h4
    obtain ⟨h5, h8⟩ := and2 h5
    have k5 : fs2 = fs := (List.isEmpty_iff.mp h5).trans (List.isEmpty_iff.mp h8).symm
    have k6 : c2 ≤ c := bleN h6
    clear h1 h2 h3 h4 h5 h6
    subst k1; subst k2; subst k3; subst k4; subst k5
    rw [pat_eq h7] at g
    exact Ln.le (show Ln J m2 pc2 ls2 st2 (fs2 ++ gs) S2 (c + c0) (6 * c + z0) out from g) (by show c2 + c0 ≤ c + c0; omega) (by show 6 * c2 + z0 ≤ 6 * c + z0; omega)
