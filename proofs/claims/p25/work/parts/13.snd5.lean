/-! A whole run of a method, held against the JVM's: the contracts of all methods at once, by the run's fuel. -/
def gos (i : Instr) (d : Nat) : Bool := match i with
  | .new _ => !(Nat.beq d 9)
  | .invokestatic _ => Nat.beq d 3
  | .invokevirtual _ => false
  | .invokespecial _ => Nat.beq d 2
  | .ireturn => false
  | .return_ => false
  | .athrow => false
  | _ => true
set_option maxHeartbeats 4000000 in
theorem sn_all {l : Launch} {D : va_G} {A : Nat → Prop} {bS : Nat} {p : Program} {e : Env} {R : Room} {s : State} {mm : MethodId} {args : Array Value} {below : List Frame} {meth : Method} {cc : Code} {q : mI} {m pc : Nat} {H : Heap} {locs : List Loc} {cells slots : Nat} {Q : State → Prop} {sl : Array Slot} {ads : Nat → Nat} {cas : Nat → ClassId} {ls : lo} {st : List av} {I : IT} {C : CT} {n c z : Nat} {w : List Nat} {u : ou} {len a b d : Nat} {kc : Nat → lo → List av → IT → CT → Nat → Nat → Nat → Option ou} {ky : Nat → List av → List av → Option ou} {kr : Option av → Option ou} {kt : Nat → Nat → Nat → Option ou} {i : Instr} (B : Bx p R s mm args meth cc q) (J : Jw D A s m q.2.2.1 ads cas bS I C n H locs sl ls st) (X : Cx A D s) (hA : ∀ q : Nat, s.heap.size ≤ q → A q) (hcs : cells ≤ R.cells ∧ slots ≤ R.slots) (hg : gos i d = true) (hok : okE m q pc (i, len, a, b, d) w = true) (h : stp (i, len, a, b, d) pc ls st I C n c z kc ky kr kt none = some u) (hbud : ∀ (pc' : Nat) (ls' : lo) (st' : List av) (I' : IT) (C' : CT) (n' c' z' : Nat), kc pc' ls' st' I' C' n' c' z' = some u → cells + c' ≤ R.cells + c ∧ slots + z' ≤ R.slots + z) (K : Kn p l e R s mm args below meth cc D A m q.2.2.1 bS Q kc u ads cas n c z cells slots) : W p l e R s mm args below meth cc H locs cells slots Q (F0 mm pc sl (st.map (ev ads bS))) := by
  cases i with
  | iload j => exact sn_iload B J hok h K
  | iload_n j => exact sn_iload_n B J hok h K
  | aload j => exact sn_aload B J hok h K
  | aload_n j => exact sn_aload_n B J hok h K
  | istore j => exact sn_istore B J hok h K
  | istore_n j => exact sn_istore_n B J hok h K
  | astore j => exact sn_astore B J hok h K
  | astore_n j => exact sn_astore_n B J hok h K
  | iinc j v => exact sn_iinc B J hok h K
  | iconst v => exact sn_iconst B J hok h K
  | bipush v => exact sn_bipush B J hok h K
  | sipush v => exact sn_sipush B J hok h K
  | ldc j => exact sn_ldc B J hok h K
  | ldc_w j => exact sn_ldc_w B J hok h K
  | lconst j => exact sn_lconst B J hok h K
  | aconst_null => exact sn_aconst_null B J hok h K
  | iadd => exact sn_iadd B J hok h K
  | isub => exact sn_isub B J hok h K
  | imul => exact sn_imul B J hok h K
  | idiv => exact sn_idiv B J hok h K
  | irem => exact sn_irem B J hok h K
  | iand => exact sn_iand B J hok h K
  | iushr => exact sn_iushr B J hok h K
  | ineg => exact sn_ineg B J hok h K
  | i2l => exact sn_i2l B J hok h K
  | lcmp => exact sn_lcmp B J hok h K
  | dup => exact sn_dup B J hok h K
  | dup2 => exact sn_dup2 B J hok h K
  | goto o => exact sn_goto B J hok h K
  | ifnull o => exact sn_ifnull B J hok h K
  | ifnonnull o => exact sn_ifnonnull B J hok h K
  | tableswitch w1 w2 w3 w4 => exact sn_tableswitch B J hok h K
  | lookupswitch w1 w2 => exact sn_lookupswitch B J hok h K
  | getfield j => exact sn_getfield B J X hok h K
  | putfield j => exact sn_putfield B J X hok h K
  | iaload => exact sn_iaload B J X hok h K
  | iastore => exact sn_iastore B J X hok h K
  | baload => exact sn_baload B J X hok h K
  | bastore => exact sn_bastore B J X hok h K
  | laload => exact sn_laload B J X hok h K
  | lastore => exact sn_lastore B J X hok h K
  | aaload => exact sn_aaload B J X hok h K
  | aastore => exact sn_aastore B J X hok h K
  | arraylength => exact sn_arraylength B J X hok h K
  | if_icmp cd o => cases cd with
    | eq => exact sn_if_icmp_eq B J hok h K
    | ne => exact sn_if_icmp_ne B J hok h K
    | lt => exact sn_if_icmp_lt B J hok h K
    | ge => exact sn_if_icmp_ge B J hok h K
    | gt => exact sn_if_icmp_gt B J hok h K
    | le => exact sn_if_icmp_le B J hok h K
  | ifCond cd o => cases cd with
    | eq => exact sn_ifCond_eq B J hok h K
    | ne => exact sn_ifCond_ne B J hok h K
    | lt => exact sn_ifCond_lt B J hok h K
    | ge => exact sn_ifCond_ge B J hok h K
    | gt => exact sn_ifCond_gt B J hok h K
    | le => exact sn_ifCond_le B J hok h K
  | newarray t => exact sn_newarray B J X hA hok h hbud K
  | anewarray t => exact sn_anewarray B J X hA hok h hbud K
  | new t => exact sn_new B J X hA (fun z => by simp [gos, z] at hg) hok h hbud K
  | invokespecial t => exact sn_objInit B J hg hok h K
  | invokestatic t => exact sn_mmax B J hg hcs hok h K
  | invokevirtual t => cases hg
  | ireturn => cases hg
  | return_ => cases hg
  | athrow => cases hg
  | _ => exact nomatch (show (none : Option ou) = some u from h)
abbrev WU : Type := (Nat → Nat) × (Nat → ClassId)
def Ex (n : Nat) (ads : Nat → Nat) (cas : Nat → ClassId) (u : WU) : Prop := ∀ k, k < n → u.1 k = ads k ∧ u.2 k = cas k
def Wt (D : va_G) (A : Nat → Prop) (bS : Nat) (u : WU) (I : IT) (C : CT) (n : Nat) (t : State) : Prop := va_P D vwCl (wl u.1 u.2 bS I C n) t.heap ∧ va_D A (wl u.1 u.2 bS I C n) ∧ KA t u.2 n
def Qo (D : va_G) (A : Nat → Prop) (bS : Nat) (ads : Nat → Nat) (cas : Nat → ClassId) (n : Nat) (o : Option av ⊕ Nat) (I : IT) (C : CT) (n1 : Nat) : Array Value → State → Outcome → State → Prop := match o with
  | Sum.inl none => va_Qv (fun u : WU => Ex n ads cas u ∧ Gs n1 I C) (fun u t => Wt D A bS u I C n1 t) A
  | Sum.inl (some (Sum.inl x)) => va_Qi (fun (r : Int32) (u : WU) => r = Int32.ofInt x ∧ in32 x ∧ Ex n ads cas u ∧ Gs n1 I C) (fun u t => Wt D A bS u I C n1 t) A
  | Sum.inl (some (Sum.inr _)) => fun _ _ _ _ => False
  | Sum.inr _ => va_Qi (fun (_ : Int32) (_ : Unit) => False) (fun _ _ => True) A
def Xo (D : va_G) (A : Nat → Prop) (bS : Nat) (ads : Nat → Nat) (cas : Nat → ClassId) (n : Nat) (o : Option av ⊕ Nat) (I : IT) (C : CT) (n1 : Nat) : String → State → State → Prop := match o with
  | Sum.inl _ => fun _ _ _ => False
  | Sum.inr E => vx_X (fun u : WU => Ex n ads cas u ∧ Gs n1 I C) (fun nm u t => nm = exN E ∧ Wt D A bS u I C n1 t) A
/-- the run by so much fuel, from any point of any method, is a run of the JVM to the same end -/
def Snd (l : Launch) (D : va_G) (bS : Nat) (A : Nat → Prop) (k : Nat) : Prop :=
  ∀ (m pc : Nat) (ls : lo) (st : List av) (I : IT) (C : CT) (n c z : Nat) (o : Option av ⊕ Nat) (I1 : IT) (C1 : CT) (n1 c1 z1 : Nat), run k m pc ls st [] I C n c z = some (o, I1, C1, n1, c1, z1) →
  ∀ (p : Program) (e : Env) (R : Room) (s : State) (mm : MethodId) (args : Array Value) (below : List Frame) (meth : Method) (cc : Code) (q : mI) (H : Heap) (locs : List Loc) (cells slots : Nat) (sl : Array Slot) (ads : Nat → Nat) (cas : Nat → ClassId) (n0 : Nat) (ads0 : Nat → Nat) (cas0 : Nat → ClassId),
    MTf m = some q → Bx p R s mm args meth cc q → Cx A D s → (∀ q : Nat, s.heap.size ≤ q → A q) → Jw D A s m q.2.2.1 ads cas bS I C n H locs sl ls st → cells + c1 ≤ R.cells + c → slots + z1 ≤ R.slots + z → n0 ≤ n → Ex n0 ads0 cas0 (ads, cas) → (nm m = false → n0 = 0) →
    W p l e R s mm args below meth cc H locs cells slots (vx_MQ below (Qo D A bS ads0 cas0 n0 o I1 C1 n1) (Xo D A bS ads0 cas0 n0 o I1 C1 n1) args s R.cells R.slots A) (F0 mm pc sl (st.map (ev ads bS)))
theorem KA.moved {u U : State} {cas : Nat → ClassId} {n : Nat} (hvm : u.vm.Alike U.vm) (h : KA u cas n) : KA U cas n := fun k hk h20 => ⟨arrOfT_moved hvm (h k hk h20).1, (h k hk h20).2.moved hvm⟩
theorem wrm_warm {w : Cond} {s U : State} (hw : wrm w = true) (hW : s.WarmedH U.vm) (h : va_Nw w s) : va_Nw w U := by
  cases w with
  | fieldLinkNest a b c d e f => exact va_Nw.warmF hW h
  | methodLinkNest a b c d => exact va_Nw.warmM hW h
  | declares a => exact va_Nw.warmD hW h
  | castable a b => exact va_Nw.warmC hW h
  | arrayOver t =>
    cases t with
    | object C => exact va_AO.moved hW.alike h
    | _ => cases hw
  | _ => cases hw
theorem Cx.warm {A : Nat → Prop} {D : va_G} {s U : State} (h : Cx A D s) (hW : s.WarmedH U.vm) (hH : ∀ a : Nat, a < s.heap.size → ¬ A a → U.heap[a]? = s.heap[a]?) : Cx A D U := by
  obtain ⟨h1, h2, h3, h4, h5, h6⟩ := h
  refine ⟨fun w a b => wrm_warm b hW (h1 w a b), fun c q hq => u_Kn_moved hW.alike (h2 c q hq), fun q hq => ?_, fun q hq => va_Nc.moved hW.alike (h4 q hq), (vx_Zq.moved hW.alike h5).kept hH, (vx_Zq.moved hW.alike h6).kept hH⟩
  obtain ⟨sa, hs⟩ := h3 q hq
  exact ⟨sa, vk_R.warm hW hs⟩
/-- what a callee is given -/
def Wc (D : va_G) (A : Nat → Prop) (bS : Nat) (u : WU) (I : IT) (C : CT) (n : Nat) (U : State) : Prop := Wt D A bS u I C n U ∧ Cx A D U ∧ ∀ q : Nat, U.heap.size ≤ q → A q
theorem Wc.blind {D : va_G} {A : Nat → Prop} {bS : Nat} {u : WU} {I : IT} {C : CT} {n : Nat} {av9 : List Value} : FrameBlind (va_Pc av9 (Wc D A bS u I C n)) := by
  intro a U g mk h
  obtain ⟨h1, ⟨p1, p2, p3⟩, h3, h4⟩ := h
  exact ⟨h1, ⟨p1, p2, KA.moved (u := U) (U := U.calling g mk a) (Vm.Alike.refl U.vm) p3⟩, Cx.warm (s := U) (U := U.calling g mk a) h3 (State.WarmedH.refl U) (fun _ _ _ => rfl), h4⟩
theorem Met.of_vx {l : Launch} {y : MethodName} {ws : List Cond} {rm : Room} {Pc : Array Value → State → Prop} {Qc : Array Value → State → Outcome → State → Prop} {mc ms : Nat} {free : Addr → Prop} (h : vx_Met l y ws rm Pc Qc (fun _ _ _ => False) mc ms free) : Met l y ws rm Pc Qc mc ms free := by
  intro p e a1 a2 a3 s m args below a4 a5 a6 a7
  obtain ⟨n, o, b1, b2, b3, b4⟩ := h p e a1 a2 a3 s m args below a4 a5 a6 a7
  refine ⟨n, o, b1, b2, b3, ?_⟩
  rcases b4 with b4 | ⟨q, _, E, ce, L, hx, _⟩
  · exact b4
  · exact hx.elim
theorem TW_good : GoodIn TW TW := fun w hw => ⟨hw, good_of_word (List.mem_filter.mp hw).2⟩
theorem lg_sl_1 {ads : Nat → Nat} {bS : Nat} : ∀ (as : List av), (∀ v ∈ as, sho v) → lg_sl (as.map (ev ads bS)) = (as.map (ev ads bS)).map Slot.val
  | [], _ => rfl
  | v :: l, h => by
    have h1 := ev_cat (ads := ads) (bS := bS) (h v List.mem_cons_self)
    have h2 := lg_sl_1 (ads := ads) (bS := bS) l (fun w hw => h w (List.mem_cons_of_mem _ hw))
    unfold lg_sl at h2 ⊢
    rw [List.map_cons, List.flatMap_cons, h2, h1]
    rfl
theorem ini_LV {y : Nat} {as : List av} {ads : Nat → Nat} {bS mx : Nat} (hs : ∀ v ∈ as, sho v) (hl : as.length + pad y = mx) : LV ((lg_sl (as.map (ev ads bS)) ++ List.replicate (mx - (lg_sl (as.map (ev ads bS))).length) Slot.unset).toArray) mx ads bS (ini y as) := by
  have e := lg_sl_1 (ads := ads) (bS := bS) as hs
  have hlen : (lg_sl (as.map (ev ads bS))).length = as.length := by rw [e]; simp
  obtain ⟨h1, h2, -⟩ := lv_entry (as.map (ev ads bS)) (n := mx) (by omega)
  refine ⟨h1, h2, by unfold ini; simp; omega, fun i v hi => ?_⟩
  unfold ini at hi
  rcases Nat.lt_or_ge i as.length with g | g
  · rw [List.getElem?_append_left (by simpa using g)] at hi
    simp only [List.getElem?_map] at hi
    cases g2 : as[i]? with
    | none => rw [g2] at hi; cases hi
    | some w =>
      rw [g2] at hi
      simp at hi
      subst hi
      rw [List.getElem?_toArray, List.getElem?_append_left (by omega), e]
      simp [g2]
  · rw [List.getElem?_append_right (by simpa using g)] at hi
    have h3 := List.mem_of_getElem? hi
    have h4 := List.eq_of_mem_replicate h3
    cases h4
theorem ini_Gl {y n : Nat} {as : List av} (hs : ∀ v ∈ as, sho v) (hg : Gt n as) : Gl n (ini y as) := by
  intro i v hi
  have hm := List.mem_of_getElem? hi
  unfold ini at hm
  rcases List.mem_append.mp hm with h | h
  · obtain ⟨w, hw, h9⟩ := List.mem_map.mp h
    have e9 := Option.some.inj h9
    subst e9
    exact ⟨hg _ hw, hs _ hw⟩
  · have := List.eq_of_mem_replicate h
    cases this
theorem ctg_sho : ∀ (as : List av), ctg as = as.length → ∀ v ∈ as, sho v
  | [], _, v, hv => by cases hv
  | w :: l, h, v, hv => by
    have hle : ∀ l : List av, l.length ≤ ctg l := by
      intro l
      induction l with
      | nil => exact Nat.le_refl _
      | cons x l ih =>
        rcases x with x | y | r
        · show _ ≤ 1 + ctg l
          simp only [List.length_cons]; omega
        · show _ ≤ 2 + ctg l
          simp only [List.length_cons]; omega
        · show _ ≤ 1 + ctg l
          simp only [List.length_cons]; omega
    have h9 := hle l
    have hl : ctg l = l.length ∧ sho w := by
      rcases w with x | y | r
      · have h : 1 + ctg l = (l.length + 1) := h
        exact ⟨by omega, trivial⟩
      · have h : 2 + ctg l = (l.length + 1) := h
        omega
      · have h : 1 + ctg l = (l.length + 1) := h
        exact ⟨by omega, trivial⟩
    rcases List.mem_cons.mp hv with rfl | hv
    · exact hl.2
    · exact ctg_sho l hl.1 v hv
/-- a method's contract out of a run of it -/
theorem met_of {l : Launch} {D : va_G} {bS : Nat} {A : Nat → Prop} {k y : Nat} (ih : Snd l D bS A k) (hy : ¬ y = 173) {as : List av} {I : IT} {C : CT} {n c z : Nat} {o : Option av ⊕ Nat} {I1 : IT} {C1 : CT} {n1 c1 z1 : Nat} (h : run k y 0 (ini y as) [] [] I C n c z = some (o, I1, C1, n1, c1, z1)) (hc : c ≤ c1) (hz : z ≤ z1) {q2 : mI} (hq : MTf y = some q2) (hpl : plainName q2.1.cls = true) (hcw : cwd q2 ∈ TW) (hs : ∀ v ∈ as, sho v) (hl : as.length + pad y = q2.2.2.1) (hg : Gt n as) (hG : Gs n I C) (hna : nm y = true ∨ n = 0) (ads : Nat → Nat) (cas : Nat → ClassId) :
    vx_Met l q2.1 (cwd q2 :: TW) { frames := q2.2.2.2.2.1, cells := c1 - c, slots := z1 - z, locals := q2.2.2.2.2.2.1 } (va_Pc (as.map (ev ads bS)) (Wc D A bS (ads, cas) I C n)) (Qo D A bS ads cas n o I1 C1 n1) (Xo D A bS ads cas n o I1 C1 n1) (c1 - c) (z1 - z) A := by
  have body : ∀ (p : Program) (e : Env) (s : State) (m : MethodId) (args : Array Value) (below : List Frame) (meth : Method) (cc : Code) (s₁ : State), BodyLoose p l q2.1 (headSpec (cwd q2 :: TW) { frames := q2.2.2.2.2.1, cells := c1 - c, slots := z1 - z, locals := q2.2.2.2.2.2.1 }) q2.2.1 q2.2.2.1 q2.2.2.2.1 e s m args below meth cc s₁ → cc.maxLocals = q2.2.2.1 → cc.exceptionTable.toList = tableOf q2.2.2.2.2.2.2 → va_Pc (as.map (ev ads bS)) (Wc D A bS (ads, cas) I C n) args s →
      W p l e { frames := q2.2.2.2.2.1, cells := c1 - c, slots := z1 - z, locals := q2.2.2.2.2.2.1 } s m args below meth cc s.heap [] 0 0 (vx_MQ below (Qo D A bS ads cas n o I1 C1 n1) (Xo D A bS ads cas n o I1 C1 n1) args s (c1 - c) (z1 - z) A) (entryFrame m args q2.2.2.1) := by
    intro p e s m args below meth cc s₁ B hml htab hPc
    obtain ⟨rfl, ⟨w1, w2, w3⟩, hX, hA⟩ := hPc
    have hts := atoms_spec (ws := cwd q2 :: TW) B.pre
    rw [lg_entry_eq]
    refine ih y 0 (ini y as) [] I C n c z o I1 C1 n1 c1 z1 h p e _ s m _ below meth cc q2 s.heap [] 0 0 _ ads cas n ads cas hq ⟨B.exec, B.bytes, B.returns, hml, findClass_of_methodNamed B.named, fun w hw => hts w (List.mem_cons_of_mem _ hw), B.notSynchronized, htab, (name_of_methodNamed B.named B.method).1, rfl, rfl⟩ hX hA ⟨w1, w2, w3, hG, ini_Gl hs hg, (fun v hv => by cases hv), ini_LV hs hl, va_S.rf, fun z => absurd z hy⟩ ?_ ?_ (Nat.le_refl _) (fun k hk => ⟨rfl, rfl⟩) (fun g => hna.elim (fun g2 => by rw [g] at g2; cases g2) id)
    · show 0 + c1 ≤ (c1 - c) + c
      omega
    · show 0 + z1 ≤ (z1 - z) + z
      omega
  obtain ⟨y9, by9, mx9, rt9, fr9, lc9, hh9⟩ := q2
  cases hh9 with
  | nil =>
    refine vx_ofW (cc := by9) (maxL := mx9) (ret := rt9) (ws' := TW) hpl rfl (fun p e s m args below meth cc s₁ B hml ht hPc => ?_)
    refine body p e s m args below meth cc s₁ B hml ?_ hPc
    cases g : cc.exceptionTable.toList with
    | nil => rfl
    | cons x t => exact (ht x (by rw [g]; exact List.mem_cons_self)).elim
  | cons h9 t9 =>
    refine vx_ofWH (cc := by9) (maxL := mx9) (ret := rt9) (hh := h9 :: t9) (ws' := TW) hpl rfl (fun p e s m args below meth cc s₁ B hml hPc => ?_)
    exact body p e s m args below meth cc s₁ B hml (vx_table (x := y9) B (atoms_spec B.pre _ List.mem_cons_self)) hPc
