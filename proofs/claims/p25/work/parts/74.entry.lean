def Is (L : Nat) (xs : Nat → Int32) : IT := fun f i j => if f = 99 ∧ i = 0 ∧ j < L then (xs j).toInt else if f = 99 ∧ i = 1 ∧ j = 0 then (L : Int) else 0
theorem Is_0 {L : Nat} {xs : Nat → Int32} {f i j : Nat} (h : ¬ f = 99) : Is L xs f i j = 0 := by
  unfold Is
  rw [if_neg (fun q => h q.1), if_neg (fun q => h q.1)]
theorem Is_L {L : Nat} {xs : Nat → Int32} : Is L xs 99 1 0 = (L : Int) := by
  unfold Is
  rw [if_neg (by omega), if_pos ⟨rfl, rfl, rfl⟩]
theorem Gs_0 {L : Nat} {xs : Nat → Int32} (hL : L ≤ 260) : Gs 0 (Is L xs) C0 := by
  refine ⟨by omega, fun f i j h => absurd h.1 (Nat.not_lt_zero _), fun f i j h => absurd h.1 (Nat.not_lt_zero _), fun f i j q h => absurd h.1 (Nat.not_lt_zero _), fun k _ hk j => ⟨Is_0 (id_kd k hk).2, C0_none k hk j⟩, fun j => ?_, ?_⟩
  · unfold Is
    split
    · have h1 := Int32.le_toInt (xs j)
      have h2 := Int32.toInt_lt (xs j)
      constructor <;> omega
    · rw [if_neg (by omega)]; exact in32_0
  · rw [Is_L]; constructor <;> omega
theorem vw_words : ∀ (k : Nat) (q : vw_C), vwCl[k]? = some q → (∀ w ∈ u_ws q.1 q.2.1 q.2.2, w ∈ lw_tbl) ∧ Cond.instantiable q.1 q.2.2 ∈ lw_tbl := by
  intro k q h
  match k, h with
  | 0, h => cases h; exact ⟨by decide +kernel, by decide +kernel⟩
  | 1, h => cases h; exact ⟨by decide +kernel, by decide +kernel⟩
  | 2, h => cases h; exact ⟨by decide +kernel, by decide +kernel⟩
  | 3, h => cases h; exact ⟨by decide +kernel, by decide +kernel⟩
  | 4, h => cases h; exact ⟨by decide +kernel, by decide +kernel⟩
  | 5, h => cases h; exact ⟨by decide +kernel, by decide +kernel⟩
  | 6, h => cases h; exact ⟨by decide +kernel, by decide +kernel⟩
  | 7, h => cases h; exact ⟨by decide +kernel, by decide +kernel⟩
  | 8, h => cases h; exact ⟨by decide +kernel, by decide +kernel⟩
  | 9, h => cases h; exact ⟨by decide +kernel, by decide +kernel⟩
  | 10, h => cases h; exact ⟨by decide +kernel, by decide +kernel⟩
  | k + 11, h => exact absurd h (by simp [vwCl])
theorem str_words : ∀ q ∈ strs, Cond.stringRef "CompassRolls" q.1 q.2 ∈ lw_tbl := by decide +kernel
theorem ncs_words : ∀ q ∈ ncs, Cond.not (.castable q.1 q.2) ∈ flatC (Jvm.Cond.and given_1 narrow_1) := by decide +kernel
theorem Nw_of {w : Cond} (hw : wrm w = true) {args : Array Value} {s : State} (h : w.before args s = true) : va_Nw w s := by
  cases w with
  | fieldLinkNest a b c d e f => exact va_Nw.of rfl h
  | methodLinkNest a b c d => exact va_Nw.of rfl h
  | declares a => exact va_Nw.of rfl h
  | castable a b => exact va_Nw.of rfl h
  | arrayOver t =>
    cases t with
    | object C => exact va_AO.of h
    | _ => cases hw
  | _ => cases hw
theorem Cx_at {args : Array Value} {s : State} (hts : ∀ w ∈ lw_tbl, w.before args s = true) (hgv : (Jvm.Cond.and given_1 narrow_1).before args s = true) : ∃ D : va_G, Cx (fun q : Nat => s.heap.size ≤ q) D s := by
  have hfl := flat_of_before _ hgv
  have hk : ∀ k : Nat, ∃ x : ClassId × (Nat → Nat), ∀ q : vw_C, vwCl[k]? = some q → u_Kn s q.1 q.2.1 q.2.2 x.1 x.2 := fun k => by
    cases h : vwCl[k]? with
    | none => exact ⟨(0, fun _ => 0), fun q hq => by cases hq⟩
    | some q =>
      obtain ⟨w1, w2⟩ := vw_words k q h
      obtain ⟨cC, iS, hu⟩ := u_known (C := q.1) (T := q.2.1) (N := q.2.2) (n := q.2.2) hts w1 (hts _ w2)
      exact ⟨(cC, iS), fun q2 hq => by cases hq; exact hu⟩
  obtain ⟨g, hg⟩ := Classical.axiomOfChoice hk
  have hA : ∀ a : Nat, a < s.heap.size → ¬ s.heap.size ≤ a := fun a h => Nat.not_le.mpr h
  exact ⟨(fun k => (g k).1, fun k => (g k).2), fun w hw hr => Nw_of hr (hts w hw), fun c q hq => hg c q hq, fun q hq => str_ok (hts _ (str_words q hq)), fun q hq => va_Nc.of (hfl _ (ncs_words q hq)),
    vx_Zqof (hts (.laysStatic Bundle.tN "UNASSIGNED_STACK" Bundle.steD) (by decide +kernel)) (hts (.initialized Bundle.tN) (by decide +kernel)) (hfl (.isRef (.static Bundle.tN "UNASSIGNED_STACK" Bundle.steD)) (by decide +kernel)) hA,
    vx_Zqof (hts (.laysStatic Bundle.tN "SUPPRESSED_SENTINEL" Bundle.listD) (by decide +kernel)) (hts (.initialized Bundle.tN) (by decide +kernel)) (hfl (.isRef (.static Bundle.tN "SUPPRESSED_SENTINEL" Bundle.listD)) (by decide +kernel)) hA⟩
