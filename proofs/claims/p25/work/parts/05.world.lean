/-! The store as cells of the heap: numbers, addresses, the list of cells. -/
def in32 (x : Int) : Prop := -2147483648 ≤ x ∧ x < 2147483648
def in64 (x : Int) : Prop := -9223372036854775808 ≤ x ∧ x < 9223372036854775808
theorem in32_64 {x : Int} (h : in32 x) : in64 x := ⟨by have := h.1; omega, by have := h.2; omega⟩
theorem i32_toInt {x : Int} (h : in32 x) : (Int32.ofInt x).toInt = x := Int32.toInt_ofInt_of_le (by have := h.1; omega) (by have := h.2; omega)
theorem i64_toInt {x : Int} (h : in64 x) : (Int64.ofInt x).toInt = x := Int64.toInt_ofInt_of_le (by have := h.1; omega) (by have := h.2; omega)
theorem wr_in (x : Int) : in32 (wr x) := by
  have h1 := @Int.le_bmod x 4294967296 (by omega)
  have h2 := @Int.bmod_lt x 4294967296 (by omega)
  unfold wr in32
  constructor <;> omega
theorem wr_id {x : Int} (h : in32 x) : wr x = x := Int.bmod_eq_of_le (by have := h.1; omega) (by have := h.2; omega)
theorem i32_inj {x y : Int} (hx : in32 x) (hy : in32 y) : Int32.ofInt x = Int32.ofInt y ↔ x = y := by
  rw [← Int32.toInt_inj, i32_toInt hx, i32_toInt hy]
theorem i32_lt {x y : Int} (hx : in32 x) (hy : in32 y) : Int32.ofInt x < Int32.ofInt y ↔ x < y := by
  rw [Int32.lt_iff_toInt_lt, i32_toInt hx, i32_toInt hy]
theorem i32_le {x y : Int} (hx : in32 x) (hy : in32 y) : Int32.ofInt x ≤ Int32.ofInt y ↔ x ≤ y := by
  rw [Int32.le_iff_toInt_le, i32_toInt hx, i32_toInt hy]
theorem in32_0 : in32 0 := ⟨by omega, by omega⟩
theorem i32_0 : Int32.ofInt 0 = 0 := rfl
theorem i32_add {x y : Int} (hx : in32 x) (hy : in32 y) : Int32.ofInt x + Int32.ofInt y = Int32.ofInt (wr (x + y)) := by
  rw [← Int32.toInt_inj, i32_toInt (wr_in _), Int32.toInt_add, i32_toInt hx, i32_toInt hy]; rfl
theorem i32_sub {x y : Int} (hx : in32 x) (hy : in32 y) : Int32.ofInt x - Int32.ofInt y = Int32.ofInt (wr (x - y)) := by
  rw [← Int32.toInt_inj, i32_toInt (wr_in _), Int32.toInt_sub, i32_toInt hx, i32_toInt hy]; rfl
theorem i32_neg {x : Int} (hx : in32 x) : -Int32.ofInt x = Int32.ofInt (wr (-x)) := by
  rw [← Int32.toInt_inj, i32_toInt (wr_in _), Int32.toInt_neg, i32_toInt hx]; rfl
theorem i32_mul {x y : Int} (hx : in32 x) (hy : in32 y) : Int32.ofInt x * Int32.ofInt y = Int32.ofInt (wr (x * y)) := by
  rw [← Int32.toInt_inj, i32_toInt (wr_in _), Int32.toInt_mul, i32_toInt hx, i32_toInt hy]; rfl
theorem i32_div {x y : Int} (hx : in32 x) (hy : in32 y) : Int32.ofInt x / Int32.ofInt y = Int32.ofInt (wr (Int.tdiv x y)) := by
  rw [← Int32.toInt_inj, i32_toInt (wr_in _), Int32.toInt_div, i32_toInt hx, i32_toInt hy]; rfl
theorem tmod_in {x y : Int} (hy : in32 y) (h0 : ¬ y = 0) : in32 (Int.tmod x y) := by
  have a1 := Int.natAbs_tmod x y
  have a2 : x.natAbs % y.natAbs < y.natAbs := Nat.mod_lt _ (by omega)
  have h1 := hy.1
  have h2 := hy.2
  constructor <;> omega
theorem i32_rem {x y : Int} (hx : in32 x) (hy : in32 y) (h0 : ¬ y = 0) : Int32.ofInt x - Int32.ofInt x / Int32.ofInt y * Int32.ofInt y = Int32.ofInt (Int.tmod x y) := by
  rw [← Int32.toInt_inj, i32_toInt (tmod_in hy h0), rem_toInt, i32_toInt hx, i32_toInt hy]
theorem iand_in (x y : Int) : in32 (iandI x y) := by
  have h1 := Int32.le_toInt (Int32.ofInt x &&& Int32.ofInt y)
  have h2 := Int32.toInt_lt (Int32.ofInt x &&& Int32.ofInt y)
  unfold iandI in32
  constructor <;> omega
theorem i32_and (x y : Int) : Int32.ofInt x &&& Int32.ofInt y = Int32.ofInt (iandI x y) := by
  rw [← Int32.toInt_inj, i32_toInt (iand_in _ _)]; rfl
theorem ush_in (x y : Int) : in32 (ushI x y) := by
  have h1 := Int32.le_toInt ((Int32.ofInt x).toUInt32 >>> ((Int32.ofInt y).toUInt32 &&& Int32.toUInt32 31)).toInt32
  have h2 := Int32.toInt_lt ((Int32.ofInt x).toUInt32 >>> ((Int32.ofInt y).toUInt32 &&& Int32.toUInt32 31)).toInt32
  unfold ushI in32
  constructor <;> omega
theorem i32_ush (x y : Int) : ((Int32.ofInt x).toUInt32 >>> ((Int32.ofInt y).toUInt32 &&& Int32.toUInt32 31)).toInt32 = Int32.ofInt (ushI x y) := by
  rw [← Int32.toInt_inj, i32_toInt (ush_in _ _)]; rfl
theorem i32_nat {x : Int} (h : in32 x) : (Int32.ofInt x).toNatClampNeg = x.toNat := Int32.toNatClampNeg_ofInt_of_le (by have := h.1; omega) (by have := h.2; omega)
theorem i32_long {x : Int} (h : in32 x) : (Int32.ofInt x).toInt64 = Int64.ofInt x := by
  rw [← Int64.toInt_inj, Int32.toInt_toInt64, i32_toInt h, i64_toInt (in32_64 h)]
theorem i64_lt {x y : Int} (hx : in64 x) (hy : in64 y) : Int64.ofInt x < Int64.ofInt y ↔ x < y := by
  rw [Int64.lt_iff_toInt_lt, i64_toInt hx, i64_toInt hy]
theorem i64_inj {x y : Int} (hx : in64 x) (hy : in64 y) : Int64.ofInt x = Int64.ofInt y ↔ x = y := by
  rw [← Int64.toInt_inj, i64_toInt hx, i64_toInt hy]
theorem i64_cmp {x y : Int} (hx : in64 x) (hy : in64 y) : lg_cmp (Int64.ofInt x) (Int64.ofInt y) = Int32.ofInt (cml x y) := by
  unfold lg_cmp cml
  by_cases h1 : y < x
  · rw [if_pos h1, if_pos ((i64_lt hy hx).mpr h1)]; rfl
  · by_cases h2 : x = y
    · rw [if_neg h1, if_pos h2, if_neg (fun h => h1 ((i64_lt hy hx).mp h)), if_pos ((i64_inj hx hy).mpr h2)]; rfl
    · rw [if_neg h1, if_neg h2, if_neg (fun h => h1 ((i64_lt hy hx).mp h)), if_neg (fun h => h2 ((i64_inj hx hy).mp h))]; rfl
theorem cml_in (x y : Int) : in32 (cml x y) := by
  unfold cml in32
  split
  · omega
  · split <;> omega
theorem vpin {x : Int} {L : Nat} (hx : in32 x) (h : 0 ≤ x ∧ x < Int.ofNat L) : vp_in (Int32.ofInt x) L := by
  rw [vp_in_iff, i32_toInt hx]
  exact ⟨h.1, h.2⟩
theorem nth_eq {β : Type} : ∀ (l : List β) (k : Nat), nth l k = l[k]?
  | [], _ => rfl
  | _ :: _, 0 => rfl
  | _ :: l, k + 1 => by
    show nth l k = _
    rw [nth_eq l k]
    rfl
-- values
def adr (ads : Nat → Nat) (bS : Nat) (q : Nat × Nat) : Nat := if q.1 = 99 then bS else ads (offA q.1 q.2)
def ev (ads : Nat → Nat) (bS : Nat) : av → Value
  | Sum.inl x => .int (Int32.ofInt x)
  | Sum.inr (Sum.inl y) => .long (Int64.ofInt y)
  | Sum.inr (Sum.inr r) => va_rf (r.map (adr ads bS))
def vd (n : Nat) (q : Nat × Nat) : Prop := offA q.1 q.2 < n ∧ idOf (offA q.1 q.2) = q
def gq (n : Nat) (q : Nat × Nat) : Prop := vd n q ∨ q = (99, 0)
def Gv (n : Nat) : av → Prop
  | Sum.inl x => in32 x
  | Sum.inr (Sum.inl y) => in64 y
  | Sum.inr (Sum.inr r) => ∀ q, r = some q → gq n q
def sho : av → Prop
  | Sum.inr (Sum.inl _) => False
  | _ => True
-- a cell of the store
def frf : Nat → Nat → Bool := fun c j => (Nat.beq c 0 && (Nat.beq j 1)) || (Nat.beq c 2 && (Nat.beq j 1)) || (Nat.beq c 3 && (Nat.beq j 2 || Nat.beq j 3)) || (Nat.beq c 4 && (Nat.beq j 1 || Nat.beq j 2 || Nat.beq j 3 || Nat.beq j 4 || Nat.beq j 6 || Nat.beq j 7 || Nat.beq j 8)) || (Nat.beq c 5 && (Nat.beq j 1)) || (Nat.beq c 7 && (Nat.beq j 2)) || (Nat.beq c 8 && (Nat.beq j 2 || Nat.beq j 3)) || (Nat.beq c 9 && (Nat.beq j 1 || Nat.beq j 2 || Nat.beq j 3)) || (Nat.beq c 10 && (Nat.beq j 0 || Nat.beq j 1 || Nat.beq j 2 || Nat.beq j 3))
def aty : Nat → FieldType := fun k => bif Nat.beq k 20 then .int else bif Nat.beq k 21 then .boolean else bif Nat.beq k 22 then .long else .object ((vwCl.getD (k - 30) ("", fun _ => ("", "", "", false), 0)).1)
def fsv (ads : Nat → Nat) (bS : Nat) (I : IT) (C : CT) (f i j : Nat) : Value := bif frf (kd f) j then va_rf ((C f i j).map (adr ads bS)) else .int (Int32.ofInt (I f i j))
def wen (ads : Nat → Nat) (cas : Nat → ClassId) (bS : Nat) (I : IT) (C : CT) (k : Nat) : va_E :=
  bif Nat.ble (kd (idOf k).1) 10 then .inr (kd (idOf k).1, (List.range (lnN (idOf k).1)).map (fsv ads bS I C (idOf k).1 (idOf k).2))
  else bif Nat.ble 30 (kd (idOf k).1) then .inl (cas k, lnN (idOf k).1, .inr (.inr (.inr (.inr (fun j => if j < lnN (idOf k).1 then (C (idOf k).1 (idOf k).2 j).map (adr ads bS) else none)))))
  else bif Nat.beq (kd (idOf k).1) 22 then .inl (cas k, lnN (idOf k).1, .inr (.inl (fun j => Int64.ofInt (I (idOf k).1 (idOf k).2 j))))
  else .inl (cas k, lnN (idOf k).1, .inl (fun j => Int32.ofInt (I (idOf k).1 (idOf k).2 j)))
def wl (ads : Nat → Nat) (cas : Nat → ClassId) (bS : Nat) (I : IT) (C : CT) (n : Nat) : va_W := (List.range n).map (fun k => (ads k, wen ads cas bS I C k))
theorem wl_get {ads : Nat → Nat} {cas : Nat → ClassId} {bS : Nat} {I : IT} {C : CT} {n k : Nat} (h : k < n) : (wl ads cas bS I C n)[k]? = some (ads k, wen ads cas bS I C k) := by
  simp [wl, h]
-- what the tables say, by program
theorem id_off : ∀ k, k < 211 → offA (idOf k).1 (idOf k).2 = k := by decide +kernel
theorem id_kd : ∀ k, k < 211 → (Nat.ble (kd (idOf k).1) 10 || (Nat.ble 20 (kd (idOf k).1) && Nat.ble (kd (idOf k).1) 22) || (Nat.ble 30 (kd (idOf k).1) && Nat.ble (kd (idOf k).1) 41)) = true ∧ ¬ (idOf k).1 = 99 := by decide +kernel
theorem id_cls : ∀ k, k < 211 → Nat.ble (kd (idOf k).1) 10 = true → (vwCl[kd (idOf k).1]?).map (fun q => q.2.2) = some (lnN (idOf k).1) := by decide +kernel
theorem vd_id {n k : Nat} (h : k < n) (hn : n ≤ 211) : vd n (idOf k) := by
  unfold vd
  rw [id_off k (by omega)]
  exact ⟨h, rfl⟩
theorem vd_mono {n n2 : Nat} {q : Nat × Nat} (h : vd n q) (hn : n ≤ n2) : vd n2 q := ⟨Nat.lt_of_lt_of_le h.1 hn, h.2⟩
theorem gq_mono {n n2 : Nat} {q : Nat × Nat} (h : gq n q) (hn : n ≤ n2) : gq n2 q := h.imp (fun z => vd_mono z hn) id
theorem Gv_mono {n n2 : Nat} {v : av} (h : Gv n v) (hn : n ≤ n2) : Gv n2 v := by
  rcases v with x | y | r
  · exact h
  · exact h
  · exact fun q hq => gq_mono (h q hq) hn
theorem wen_ne {ads : Nat → Nat} {cas : Nat → ClassId} {bS : Nat} {I I2 : IT} {C C2 : CT} {k : Nat} (hI : ∀ j, I2 (idOf k).1 (idOf k).2 j = I (idOf k).1 (idOf k).2 j) (hC : ∀ j, C2 (idOf k).1 (idOf k).2 j = C (idOf k).1 (idOf k).2 j) : wen ads cas bS I2 C2 k = wen ads cas bS I C k := by
  unfold wen
  have e1 : fsv ads bS I2 C2 (idOf k).1 (idOf k).2 = fsv ads bS I C (idOf k).1 (idOf k).2 := by
    funext j
    simp only [fsv, hI, hC]
  simp only [e1, hI, hC]
theorem up3_ne {β : Type} {F : Nat → Nat → Nat → β} {f i b f2 i2 j : Nat} {v : β} (h : ¬ (f2 = f ∧ i2 = i)) : up3 F f i b v f2 i2 j = F f2 i2 j := by
  unfold up3
  rw [if_neg (fun q => h ⟨q.1, q.2.1⟩)]
theorem up3_eq {β : Type} {F : Nat → Nat → Nat → β} {f i b : Nat} {v : β} : up3 F f i b v f i b = v := by
  unfold up3
  rw [if_pos ⟨rfl, rfl, rfl⟩]
theorem up3_nj {β : Type} {F : Nat → Nat → Nat → β} {f i b j : Nat} {v : β} (h : ¬ j = b) : up3 F f i b v f i j = F f i j := by
  unfold up3
  rw [if_neg (fun q => h q.2.2)]
/-- the list of cells with one of them anew -/
theorem wl_set {ads : Nat → Nat} {cas : Nat → ClassId} {bS : Nat} {I I2 : IT} {C C2 : CT} {n : Nat} {f i : Nat} {e : va_E} (hn : n ≤ 211) (hv : vd n (f, i)) (hI : ∀ f2 i2 j, ¬ (f2 = f ∧ i2 = i) → I2 f2 i2 j = I f2 i2 j) (hC : ∀ f2 i2 j, ¬ (f2 = f ∧ i2 = i) → C2 f2 i2 j = C f2 i2 j) (he : wen ads cas bS I2 C2 (offA f i) = e) : (wl ads cas bS I C n).set (offA f i) (ads (offA f i), e) = wl ads cas bS I2 C2 n := by
  apply List.ext_getElem?
  intro k
  rw [List.getElem?_set]
  by_cases hk : offA f i = k
  · subst hk
    have h1 : offA f i < n := hv.1
    rw [if_pos rfl, wl_get h1, he]
    simp [wl, h1]
  · rw [if_neg hk]
    by_cases h2 : k < n
    · rw [wl_get h2, wl_get h2, wen_ne (I2 := I2) (C2 := C2)]
      · intro j
        refine hI _ _ _ (fun q => hk ?_)
        have := id_off k (by omega)
        rw [q.1, q.2] at this
        exact this
      · intro j
        refine hC _ _ _ (fun q => hk ?_)
        have := id_off k (by omega)
        rw [q.1, q.2] at this
        exact this
    · simp [wl, h2]
/-- the list of cells with one more -/
theorem wl_push {ads : Nat → Nat} {cas : Nat → ClassId} {bS : Nat} {I : IT} {C : CT} {n q : Nat} {cA : ClassId} {e : va_E} (hr : ∀ k, k < n → wen (va_up ads n q) (va_up cas n cA) bS I C k = wen ads cas bS I C k) (he : wen (va_up ads n q) (va_up cas n cA) bS I C n = e) : wl ads cas bS I C n ++ [(q, e)] = wl (va_up ads n q) (va_up cas n cA) bS I C (n + 1) := by
  unfold wl
  rw [List.range_succ, List.map_append]
  congr 1
  · apply List.map_congr_left
    intro k hk
    have hk := List.mem_range.mp hk
    rw [hr k hk]
    simp [va_up, Nat.ne_of_lt hk]
  · simp [he, va_up]
