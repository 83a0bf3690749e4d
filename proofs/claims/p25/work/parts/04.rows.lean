theorem Rn.one {m pc : Nat} {ls : lo} {st : List av} {fs : List fr} {I : IT} {C : CT} {n c z : Nat} {out : oP} {e : ent} (hc : cd m pc = some e) {F : Nat → Option ou} (h : ∀ k, stp e pc ls st I C n c z (fun pc' ls' st' I' C' n' c' z' => run k m pc' ls' st' fs I' C' n' c' z') (fun y as r => run k y 0 (ini y as) [] ((m, pc, ls, r) :: fs) I C n c z) (fun v => fin (run k) (Sum.inl v) fs I C n c z) (fun E c' z' => fin (run k) (Sum.inr E) fs I C n c' z') none = F k) (hF : Ev F out) : Rn m pc ls st fs I C n c z out := by
  refine Rn.sh 1 (F := F) (fun k => ?_) hF
  rw [← h k]
  show (match cd m pc with | none => _ | some e => _) = _
  rw [hc]
theorem Rn.iload {m pc : Nat} {ls : lo} {st : List av} {fs : List fr} {I : IT} {C : CT} {n c z : Nat} {out : oP} {len a b d : Nat} {pc2 : Nat} {i : Nat} {x : Int} (hc : cd m pc = some (.iload i, len, a, b, d)) (hl : nth ls a = some (some (vi x))) (hp : pc + len = pc2) (h : Rn m pc2 ls (vi x :: st) fs I C n c z out) : Rn m pc ls st fs I C n c z out := by
  subst hp
  refine Rn.one hc (F := fun k => run k m (pc + len) ls (vi x :: st) fs I C n c z) (fun k => ?_) h
  simp only [stp, hl, xIl]
theorem Rn.iload_n {m pc : Nat} {ls : lo} {st : List av} {fs : List fr} {I : IT} {C : CT} {n c z : Nat} {out : oP} {len a b d : Nat} {pc2 : Nat} {i : Fin 4} {x : Int} (hc : cd m pc = some (.iload_n i, len, a, b, d)) (hl : nth ls a = some (some (vi x))) (hp : pc + len = pc2) (h : Rn m pc2 ls (vi x :: st) fs I C n c z out) : Rn m pc ls st fs I C n c z out := by
  subst hp
  refine Rn.one hc (F := fun k => run k m (pc + len) ls (vi x :: st) fs I C n c z) (fun k => ?_) h
  simp only [stp, hl, xIl]
theorem Rn.aload {m pc : Nat} {ls : lo} {st : List av} {fs : List fr} {I : IT} {C : CT} {n c z : Nat} {out : oP} {len a b d : Nat} {pc2 : Nat} {i : Nat} {r : Option (Nat × Nat)} (hc : cd m pc = some (.aload i, len, a, b, d)) (hl : nth ls a = some (some (vq r))) (hp : pc + len = pc2) (h : Rn m pc2 ls (vq r :: st) fs I C n c z out) : Rn m pc ls st fs I C n c z out := by
  subst hp
  refine Rn.one hc (F := fun k => run k m (pc + len) ls (vq r :: st) fs I C n c z) (fun k => ?_) h
  simp only [stp, hl, xRl]
theorem Rn.aload_n {m pc : Nat} {ls : lo} {st : List av} {fs : List fr} {I : IT} {C : CT} {n c z : Nat} {out : oP} {len a b d : Nat} {pc2 : Nat} {i : Fin 4} {r : Option (Nat × Nat)} (hc : cd m pc = some (.aload_n i, len, a, b, d)) (hl : nth ls a = some (some (vq r))) (hp : pc + len = pc2) (h : Rn m pc2 ls (vq r :: st) fs I C n c z out) : Rn m pc ls st fs I C n c z out := by
  subst hp
  refine Rn.one hc (F := fun k => run k m (pc + len) ls (vq r :: st) fs I C n c z) (fun k => ?_) h
  simp only [stp, hl, xRl]
theorem Rn.istore {m pc : Nat} {ls : lo} {fs : List fr} {I : IT} {C : CT} {n c z : Nat} {out : oP} {len a b d : Nat} {pc2 : Nat} {i : Nat} {x : Int} {r : List av} {ls2 : lo} (hc : cd m pc = some (.istore i, len, a, b, d)) (hl : ls.set a (some (vi x)) = ls2) (hp : pc + len = pc2) (h : Rn m pc2 ls2 r fs I C n c z out) : Rn m pc ls (vi x :: r) fs I C n c z out := by
  subst hp
  refine Rn.one hc (F := fun k => run k m (pc + len) ls2 r fs I C n c z) (fun k => ?_) h
  subst hl; rfl
theorem Rn.istore_n {m pc : Nat} {ls : lo} {fs : List fr} {I : IT} {C : CT} {n c z : Nat} {out : oP} {len a b d : Nat} {pc2 : Nat} {i : Fin 4} {x : Int} {r : List av} {ls2 : lo} (hc : cd m pc = some (.istore_n i, len, a, b, d)) (hl : ls.set a (some (vi x)) = ls2) (hp : pc + len = pc2) (h : Rn m pc2 ls2 r fs I C n c z out) : Rn m pc ls (vi x :: r) fs I C n c z out := by
  subst hp
  refine Rn.one hc (F := fun k => run k m (pc + len) ls2 r fs I C n c z) (fun k => ?_) h
  subst hl; rfl
theorem Rn.astore {m pc : Nat} {ls : lo} {fs : List fr} {I : IT} {C : CT} {n c z : Nat} {out : oP} {len a b d : Nat} {pc2 : Nat} {i : Nat} {q : Option (Nat × Nat)} {r : List av} {ls2 : lo} (hc : cd m pc = some (.astore i, len, a, b, d)) (hl : ls.set a (some (vq q)) = ls2) (hp : pc + len = pc2) (h : Rn m pc2 ls2 r fs I C n c z out) : Rn m pc ls (vq q :: r) fs I C n c z out := by
  subst hp
  refine Rn.one hc (F := fun k => run k m (pc + len) ls2 r fs I C n c z) (fun k => ?_) h
  subst hl; rfl
theorem Rn.astore_n {m pc : Nat} {ls : lo} {fs : List fr} {I : IT} {C : CT} {n c z : Nat} {out : oP} {len a b d : Nat} {pc2 : Nat} {i : Fin 4} {q : Option (Nat × Nat)} {r : List av} {ls2 : lo} (hc : cd m pc = some (.astore_n i, len, a, b, d)) (hl : ls.set a (some (vq q)) = ls2) (hp : pc + len = pc2) (h : Rn m pc2 ls2 r fs I C n c z out) : Rn m pc ls (vq q :: r) fs I C n c z out := by
  subst hp
  refine Rn.one hc (F := fun k => run k m (pc + len) ls2 r fs I C n c z) (fun k => ?_) h
  subst hl; rfl
theorem Rn.iinc {m pc : Nat} {ls : lo} {st : List av} {fs : List fr} {I : IT} {C : CT} {n c z : Nat} {out : oP} {len a b d : Nat} {pc2 : Nat} {i : Nat} {v x : Int} {ls2 : lo} (hc : cd m pc = some (.iinc i v, len, a, b, d)) (hx : nth ls a = some (some (vi x))) (hl : ls.set a (some (vi (wr (x + v)))) = ls2) (hp : pc + len = pc2) (h : Rn m pc2 ls2 st fs I C n c z out) : Rn m pc ls st fs I C n c z out := by
  subst hp
  refine Rn.one hc (F := fun k => run k m (pc + len) ls2 st fs I C n c z) (fun k => ?_) h
  subst hl; simp only [stp, hx, xIl]
theorem Rn.iconst {m pc : Nat} {ls : lo} {st : List av} {fs : List fr} {I : IT} {C : CT} {n c z : Nat} {out : oP} {len a b d : Nat} {pc2 : Nat} {v : Int} (hc : cd m pc = some (.iconst v, len, a, b, d)) (hp : pc + len = pc2) (h : Rn m pc2 ls (vi v :: st) fs I C n c z out) : Rn m pc ls st fs I C n c z out := by
  subst hp
  refine Rn.one hc (F := fun k => run k m (pc + len) ls (vi v :: st) fs I C n c z) (fun k => ?_) h
  rfl
theorem Rn.bipush {m pc : Nat} {ls : lo} {st : List av} {fs : List fr} {I : IT} {C : CT} {n c z : Nat} {out : oP} {len a b d : Nat} {pc2 : Nat} {v : Int} (hc : cd m pc = some (.bipush v, len, a, b, d)) (hp : pc + len = pc2) (h : Rn m pc2 ls (vi v :: st) fs I C n c z out) : Rn m pc ls st fs I C n c z out := by
  subst hp
  refine Rn.one hc (F := fun k => run k m (pc + len) ls (vi v :: st) fs I C n c z) (fun k => ?_) h
  rfl
theorem Rn.sipush {m pc : Nat} {ls : lo} {st : List av} {fs : List fr} {I : IT} {C : CT} {n c z : Nat} {out : oP} {len a b d : Nat} {pc2 : Nat} {v : Int} (hc : cd m pc = some (.sipush v, len, a, b, d)) (hp : pc + len = pc2) (h : Rn m pc2 ls (vi v :: st) fs I C n c z out) : Rn m pc ls st fs I C n c z out := by
  subst hp
  refine Rn.one hc (F := fun k => run k m (pc + len) ls (vi v :: st) fs I C n c z) (fun k => ?_) h
  rfl
theorem Rn.ldc {m pc : Nat} {ls : lo} {st : List av} {fs : List fr} {I : IT} {C : CT} {n c z : Nat} {out : oP} {len a b d : Nat} {pc2 : Nat} {i : Nat} {v : Int} (hc : cd m pc = some (.ldc i, len, a, b, d)) (hv : Int.ofNat a = v) (hp : pc + len = pc2) (h : Rn m pc2 ls (vi v :: st) fs I C n c z out) : Rn m pc ls st fs I C n c z out := by
  subst hp
  refine Rn.one hc (F := fun k => run k m (pc + len) ls (vi v :: st) fs I C n c z) (fun k => ?_) h
  subst hv; rfl
theorem Rn.ldc_w {m pc : Nat} {ls : lo} {st : List av} {fs : List fr} {I : IT} {C : CT} {n c z : Nat} {out : oP} {len a b d : Nat} {pc2 : Nat} {i : Nat} {v : Int} (hc : cd m pc = some (.ldc_w i, len, a, b, d)) (hv : Int.ofNat a = v) (hp : pc + len = pc2) (h : Rn m pc2 ls (vi v :: st) fs I C n c z out) : Rn m pc ls st fs I C n c z out := by
  subst hp
  refine Rn.one hc (F := fun k => run k m (pc + len) ls (vi v :: st) fs I C n c z) (fun k => ?_) h
  subst hv; rfl
theorem Rn.ineg {m pc : Nat} {ls : lo} {fs : List fr} {I : IT} {C : CT} {n c z : Nat} {out : oP} {len a b d : Nat} {pc2 : Nat} {x : Int} {r : List av} (hc : cd m pc = some (.ineg, len, a, b, d)) (hp : pc + len = pc2) (h : Rn m pc2 ls (vi (wr (-x)) :: r) fs I C n c z out) : Rn m pc ls (vi x :: r) fs I C n c z out := by
  subst hp
  refine Rn.one hc (F := fun k => run k m (pc + len) ls (vi (wr (-x)) :: r) fs I C n c z) (fun k => ?_) h
  rfl
theorem Rn.lconst {m pc : Nat} {ls : lo} {st : List av} {fs : List fr} {I : IT} {C : CT} {n c z : Nat} {out : oP} {len a b d : Nat} {pc2 : Nat} {i : Fin 2} {v : Int} (hc : cd m pc = some (.lconst i, len, a, b, d)) (hv : Int.ofNat a = v) (hp : pc + len = pc2) (h : Rn m pc2 ls (vl v :: st) fs I C n c z out) : Rn m pc ls st fs I C n c z out := by
  subst hp
  refine Rn.one hc (F := fun k => run k m (pc + len) ls (vl v :: st) fs I C n c z) (fun k => ?_) h
  subst hv; rfl
theorem Rn.aconst_null {m pc : Nat} {ls : lo} {st : List av} {fs : List fr} {I : IT} {C : CT} {n c z : Nat} {out : oP} {len a b d : Nat} {pc2 : Nat}  (hc : cd m pc = some (.aconst_null, len, a, b, d)) (hp : pc + len = pc2) (h : Rn m pc2 ls (vq none :: st) fs I C n c z out) : Rn m pc ls st fs I C n c z out := by
  subst hp
  refine Rn.one hc (F := fun k => run k m (pc + len) ls (vq none :: st) fs I C n c z) (fun k => ?_) h
  rfl
theorem Rn.iadd {m pc : Nat} {ls : lo} {fs : List fr} {I : IT} {C : CT} {n c z : Nat} {out : oP} {len a b d : Nat} {pc2 : Nat} {x y : Int} {r : List av} (hc : cd m pc = some (.iadd, len, a, b, d)) (hp : pc + len = pc2) (h : Rn m pc2 ls (vi (wr (x + y)) :: r) fs I C n c z out) : Rn m pc ls (vi y :: vi x :: r) fs I C n c z out := by
  subst hp
  refine Rn.one hc (F := fun k => run k m (pc + len) ls (vi (wr (x + y)) :: r) fs I C n c z) (fun k => ?_) h
  rfl
theorem Rn.isub {m pc : Nat} {ls : lo} {fs : List fr} {I : IT} {C : CT} {n c z : Nat} {out : oP} {len a b d : Nat} {pc2 : Nat} {x y : Int} {r : List av} (hc : cd m pc = some (.isub, len, a, b, d)) (hp : pc + len = pc2) (h : Rn m pc2 ls (vi (wr (x - y)) :: r) fs I C n c z out) : Rn m pc ls (vi y :: vi x :: r) fs I C n c z out := by
  subst hp
  refine Rn.one hc (F := fun k => run k m (pc + len) ls (vi (wr (x - y)) :: r) fs I C n c z) (fun k => ?_) h
  rfl
theorem Rn.imul {m pc : Nat} {ls : lo} {fs : List fr} {I : IT} {C : CT} {n c z : Nat} {out : oP} {len a b d : Nat} {pc2 : Nat} {x y : Int} {r : List av} (hc : cd m pc = some (.imul, len, a, b, d)) (hp : pc + len = pc2) (h : Rn m pc2 ls (vi (wr (x * y)) :: r) fs I C n c z out) : Rn m pc ls (vi y :: vi x :: r) fs I C n c z out := by
  subst hp
  refine Rn.one hc (F := fun k => run k m (pc + len) ls (vi (wr (x * y)) :: r) fs I C n c z) (fun k => ?_) h
  rfl
theorem Rn.iand {m pc : Nat} {ls : lo} {fs : List fr} {I : IT} {C : CT} {n c z : Nat} {out : oP} {len a b d : Nat} {pc2 : Nat} {x y : Int} {r : List av} (hc : cd m pc = some (.iand, len, a, b, d)) (hp : pc + len = pc2) (h : Rn m pc2 ls (vi (iandI x y) :: r) fs I C n c z out) : Rn m pc ls (vi y :: vi x :: r) fs I C n c z out := by
  subst hp
  refine Rn.one hc (F := fun k => run k m (pc + len) ls (vi (iandI x y) :: r) fs I C n c z) (fun k => ?_) h
  rfl
theorem Rn.iushr {m pc : Nat} {ls : lo} {fs : List fr} {I : IT} {C : CT} {n c z : Nat} {out : oP} {len a b d : Nat} {pc2 : Nat} {x y : Int} {r : List av} (hc : cd m pc = some (.iushr, len, a, b, d)) (hp : pc + len = pc2) (h : Rn m pc2 ls (vi (ushI x y) :: r) fs I C n c z out) : Rn m pc ls (vi y :: vi x :: r) fs I C n c z out := by
  subst hp
  refine Rn.one hc (F := fun k => run k m (pc + len) ls (vi (ushI x y) :: r) fs I C n c z) (fun k => ?_) h
  rfl
theorem Rn.idiv {m pc : Nat} {ls : lo} {fs : List fr} {I : IT} {C : CT} {n c z : Nat} {out : oP} {len a b d : Nat} {pc2 : Nat} {x y : Int} {r : List av} (hc : cd m pc = some (.idiv, len, a, b, d)) (hy : ¬ y = 0) (hp : pc + len = pc2) (h : Rn m pc2 ls (vi (wr (Int.tdiv x y)) :: r) fs I C n c z out) : Rn m pc ls (vi y :: vi x :: r) fs I C n c z out := by
  subst hp
  refine Rn.one hc (F := fun k => run k m (pc + len) ls (vi (wr (Int.tdiv x y)) :: r) fs I C n c z) (fun k => ?_) h
  simp only [stp, sII, if_neg hy]
theorem Rn.irem {m pc : Nat} {ls : lo} {fs : List fr} {I : IT} {C : CT} {n c z : Nat} {out : oP} {len a b d : Nat} {pc2 : Nat} {x y : Int} {r : List av} (hc : cd m pc = some (.irem, len, a, b, d)) (hy : ¬ y = 0) (hp : pc + len = pc2) (h : Rn m pc2 ls (vi (Int.tmod x y) :: r) fs I C n c z out) : Rn m pc ls (vi y :: vi x :: r) fs I C n c z out := by
  subst hp
  refine Rn.one hc (F := fun k => run k m (pc + len) ls (vi (Int.tmod x y) :: r) fs I C n c z) (fun k => ?_) h
  simp only [stp, sII, if_neg hy]
theorem Rn.i2l {m pc : Nat} {ls : lo} {fs : List fr} {I : IT} {C : CT} {n c z : Nat} {out : oP} {len a b d : Nat} {pc2 : Nat} {x : Int} {r : List av} (hc : cd m pc = some (.i2l, len, a, b, d)) (hp : pc + len = pc2) (h : Rn m pc2 ls (vl x :: r) fs I C n c z out) : Rn m pc ls (vi x :: r) fs I C n c z out := by
  subst hp
  refine Rn.one hc (F := fun k => run k m (pc + len) ls (vl x :: r) fs I C n c z) (fun k => ?_) h
  rfl
theorem Rn.lcmp {m pc : Nat} {ls : lo} {fs : List fr} {I : IT} {C : CT} {n c z : Nat} {out : oP} {len a b d : Nat} {pc2 : Nat} {x y : Int} {r : List av} (hc : cd m pc = some (.lcmp, len, a, b, d)) (hp : pc + len = pc2) (h : Rn m pc2 ls (vi (cml x y) :: r) fs I C n c z out) : Rn m pc ls (vl y :: vl x :: r) fs I C n c z out := by
  subst hp
  refine Rn.one hc (F := fun k => run k m (pc + len) ls (vi (cml x y) :: r) fs I C n c z) (fun k => ?_) h
  rfl
theorem Rn.dupI {m pc : Nat} {ls : lo} {fs : List fr} {I : IT} {C : CT} {n c z : Nat} {out : oP} {len a b d : Nat} {pc2 : Nat} {x : Int} {r : List av} (hc : cd m pc = some (.dup, len, a, b, d)) (hp : pc + len = pc2) (h : Rn m pc2 ls (vi x :: vi x :: r) fs I C n c z out) : Rn m pc ls (vi x :: r) fs I C n c z out := by
  subst hp
  refine Rn.one hc (F := fun k => run k m (pc + len) ls (vi x :: vi x :: r) fs I C n c z) (fun k => ?_) h
  rfl
theorem Rn.dupR {m pc : Nat} {ls : lo} {fs : List fr} {I : IT} {C : CT} {n c z : Nat} {out : oP} {len a b d : Nat} {pc2 : Nat} {q : Option (Nat × Nat)} {r : List av} (hc : cd m pc = some (.dup, len, a, b, d)) (hp : pc + len = pc2) (h : Rn m pc2 ls (vq q :: vq q :: r) fs I C n c z out) : Rn m pc ls (vq q :: r) fs I C n c z out := by
  subst hp
  refine Rn.one hc (F := fun k => run k m (pc + len) ls (vq q :: vq q :: r) fs I C n c z) (fun k => ?_) h
  rfl
theorem Rn.dup2 {m pc : Nat} {ls : lo} {fs : List fr} {I : IT} {C : CT} {n c z : Nat} {out : oP} {len a b d : Nat} {pc2 : Nat} {x : Int} {q : Option (Nat × Nat)} {r : List av} (hc : cd m pc = some (.dup2, len, a, b, d)) (hp : pc + len = pc2) (h : Rn m pc2 ls (vi x :: vq q :: vi x :: vq q :: r) fs I C n c z out) : Rn m pc ls (vi x :: vq q :: r) fs I C n c z out := by
  subst hp
  refine Rn.one hc (F := fun k => run k m (pc + len) ls (vi x :: vq q :: vi x :: vq q :: r) fs I C n c z) (fun k => ?_) h
  rfl
theorem Rn.goto {m pc : Nat} {ls : lo} {st : List av} {fs : List fr} {I : IT} {C : CT} {n c z : Nat} {out : oP} {len a b d : Nat} {o : Int} (hc : cd m pc = some (.goto o, len, a, b, d)) (h : Rn m a ls st fs I C n c z out) : Rn m pc ls st fs I C n c z out := Rn.one hc (F := fun k => run k m a ls st fs I C n c z) (fun _ => rfl) h
theorem Rn.ic_eq {m pc : Nat} {ls : lo} {fs : List fr} {I : IT} {C : CT} {n c z : Nat} {out : oP} {len a b d : Nat} {pc2 : Nat} {o x y : Int} {r : List av} (hc : cd m pc = some (.if_icmp .eq o, len, a, b, d)) (hp : pc + len = pc2) (h1 : x = y → Rn m a ls r fs I C n c z out) (h2 : ¬ (x = y) → Rn m pc2 ls r fs I C n c z out) : Rn m pc ls (vi y :: vi x :: r) fs I C n c z out := by
  subst hp
  refine Rn.one hc (F := fun k => if x = y then run k m a ls r fs I C n c z else run k m (pc + len) ls r fs I C n c z) (fun k => rfl) (Ev.it h1 h2)
theorem Rn.iz_eq {m pc : Nat} {ls : lo} {fs : List fr} {I : IT} {C : CT} {n c z : Nat} {out : oP} {len a b d : Nat} {pc2 : Nat} {o x : Int} {r : List av} (hc : cd m pc = some (.ifCond .eq o, len, a, b, d)) (hp : pc + len = pc2) (h1 : x = 0 → Rn m a ls r fs I C n c z out) (h2 : ¬ (x = 0) → Rn m pc2 ls r fs I C n c z out) : Rn m pc ls (vi x :: r) fs I C n c z out := by
  subst hp
  refine Rn.one hc (F := fun k => if x = 0 then run k m a ls r fs I C n c z else run k m (pc + len) ls r fs I C n c z) (fun k => rfl) (Ev.it h1 h2)
theorem Rn.ic_ne {m pc : Nat} {ls : lo} {fs : List fr} {I : IT} {C : CT} {n c z : Nat} {out : oP} {len a b d : Nat} {pc2 : Nat} {o x y : Int} {r : List av} (hc : cd m pc = some (.if_icmp .ne o, len, a, b, d)) (hp : pc + len = pc2) (h1 : x = y → Rn m pc2 ls r fs I C n c z out) (h2 : ¬ (x = y) → Rn m a ls r fs I C n c z out) : Rn m pc ls (vi y :: vi x :: r) fs I C n c z out := by
  subst hp
  refine Rn.one hc (F := fun k => if x = y then run k m (pc + len) ls r fs I C n c z else run k m a ls r fs I C n c z) (fun k => rfl) (Ev.it h1 h2)
theorem Rn.iz_ne {m pc : Nat} {ls : lo} {fs : List fr} {I : IT} {C : CT} {n c z : Nat} {out : oP} {len a b d : Nat} {pc2 : Nat} {o x : Int} {r : List av} (hc : cd m pc = some (.ifCond .ne o, len, a, b, d)) (hp : pc + len = pc2) (h1 : x = 0 → Rn m pc2 ls r fs I C n c z out) (h2 : ¬ (x = 0) → Rn m a ls r fs I C n c z out) : Rn m pc ls (vi x :: r) fs I C n c z out := by
  subst hp
  refine Rn.one hc (F := fun k => if x = 0 then run k m (pc + len) ls r fs I C n c z else run k m a ls r fs I C n c z) (fun k => rfl) (Ev.it h1 h2)
theorem Rn.ic_lt {m pc : Nat} {ls : lo} {fs : List fr} {I : IT} {C : CT} {n c z : Nat} {out : oP} {len a b d : Nat} {pc2 : Nat} {o x y : Int} {r : List av} (hc : cd m pc = some (.if_icmp .lt o, len, a, b, d)) (hp : pc + len = pc2) (h1 : x < y → Rn m a ls r fs I C n c z out) (h2 : ¬ (x < y) → Rn m pc2 ls r fs I C n c z out) : Rn m pc ls (vi y :: vi x :: r) fs I C n c z out := by
  subst hp
  refine Rn.one hc (F := fun k => if x < y then run k m a ls r fs I C n c z else run k m (pc + len) ls r fs I C n c z) (fun k => rfl) (Ev.it h1 h2)
theorem Rn.iz_lt {m pc : Nat} {ls : lo} {fs : List fr} {I : IT} {C : CT} {n c z : Nat} {out : oP} {len a b d : Nat} {pc2 : Nat} {o x : Int} {r : List av} (hc : cd m pc = some (.ifCond .lt o, len, a, b, d)) (hp : pc + len = pc2) (h1 : x < 0 → Rn m a ls r fs I C n c z out) (h2 : ¬ (x < 0) → Rn m pc2 ls r fs I C n c z out) : Rn m pc ls (vi x :: r) fs I C n c z out := by
  subst hp
  refine Rn.one hc (F := fun k => if x < 0 then run k m a ls r fs I C n c z else run k m (pc + len) ls r fs I C n c z) (fun k => rfl) (Ev.it h1 h2)
theorem Rn.ic_ge {m pc : Nat} {ls : lo} {fs : List fr} {I : IT} {C : CT} {n c z : Nat} {out : oP} {len a b d : Nat} {pc2 : Nat} {o x y : Int} {r : List av} (hc : cd m pc = some (.if_icmp .ge o, len, a, b, d)) (hp : pc + len = pc2) (h1 : x < y → Rn m pc2 ls r fs I C n c z out) (h2 : ¬ (x < y) → Rn m a ls r fs I C n c z out) : Rn m pc ls (vi y :: vi x :: r) fs I C n c z out := by
  subst hp
  refine Rn.one hc (F := fun k => if x < y then run k m (pc + len) ls r fs I C n c z else run k m a ls r fs I C n c z) (fun k => rfl) (Ev.it h1 h2)
theorem Rn.iz_ge {m pc : Nat} {ls : lo} {fs : List fr} {I : IT} {C : CT} {n c z : Nat} {out : oP} {len a b d : Nat} {pc2 : Nat} {o x : Int} {r : List av} (hc : cd m pc = some (.ifCond .ge o, len, a, b, d)) (hp : pc + len = pc2) (h1 : x < 0 → Rn m pc2 ls r fs I C n c z out) (h2 : ¬ (x < 0) → Rn m a ls r fs I C n c z out) : Rn m pc ls (vi x :: r) fs I C n c z out := by
  subst hp
  refine Rn.one hc (F := fun k => if x < 0 then run k m (pc + len) ls r fs I C n c z else run k m a ls r fs I C n c z) (fun k => rfl) (Ev.it h1 h2)
theorem Rn.ic_gt {m pc : Nat} {ls : lo} {fs : List fr} {I : IT} {C : CT} {n c z : Nat} {out : oP} {len a b d : Nat} {pc2 : Nat} {o x y : Int} {r : List av} (hc : cd m pc = some (.if_icmp .gt o, len, a, b, d)) (hp : pc + len = pc2) (h1 : y < x → Rn m a ls r fs I C n c z out) (h2 : ¬ (y < x) → Rn m pc2 ls r fs I C n c z out) : Rn m pc ls (vi y :: vi x :: r) fs I C n c z out := by
  subst hp
  refine Rn.one hc (F := fun k => if y < x then run k m a ls r fs I C n c z else run k m (pc + len) ls r fs I C n c z) (fun k => rfl) (Ev.it h1 h2)
theorem Rn.iz_gt {m pc : Nat} {ls : lo} {fs : List fr} {I : IT} {C : CT} {n c z : Nat} {out : oP} {len a b d : Nat} {pc2 : Nat} {o x : Int} {r : List av} (hc : cd m pc = some (.ifCond .gt o, len, a, b, d)) (hp : pc + len = pc2) (h1 : 0 < x → Rn m a ls r fs I C n c z out) (h2 : ¬ (0 < x) → Rn m pc2 ls r fs I C n c z out) : Rn m pc ls (vi x :: r) fs I C n c z out := by
  subst hp
  refine Rn.one hc (F := fun k => if 0 < x then run k m a ls r fs I C n c z else run k m (pc + len) ls r fs I C n c z) (fun k => rfl) (Ev.it h1 h2)
theorem Rn.ic_le {m pc : Nat} {ls : lo} {fs : List fr} {I : IT} {C : CT} {n c z : Nat} {out : oP} {len a b d : Nat} {pc2 : Nat} {o x y : Int} {r : List av} (hc : cd m pc = some (.if_icmp .le o, len, a, b, d)) (hp : pc + len = pc2) (h1 : y < x → Rn m pc2 ls r fs I C n c z out) (h2 : ¬ (y < x) → Rn m a ls r fs I C n c z out) : Rn m pc ls (vi y :: vi x :: r) fs I C n c z out := by
  subst hp
  refine Rn.one hc (F := fun k => if y < x then run k m (pc + len) ls r fs I C n c z else run k m a ls r fs I C n c z) (fun k => rfl) (Ev.it h1 h2)
theorem Rn.iz_le {m pc : Nat} {ls : lo} {fs : List fr} {I : IT} {C : CT} {n c z : Nat} {out : oP} {len a b d : Nat} {pc2 : Nat} {o x : Int} {r : List av} (hc : cd m pc = some (.ifCond .le o, len, a, b, d)) (hp : pc + len = pc2) (h1 : 0 < x → Rn m pc2 ls r fs I C n c z out) (h2 : ¬ (0 < x) → Rn m a ls r fs I C n c z out) : Rn m pc ls (vi x :: r) fs I C n c z out := by
  subst hp
  refine Rn.one hc (F := fun k => if 0 < x then run k m (pc + len) ls r fs I C n c z else run k m a ls r fs I C n c z) (fun k => rfl) (Ev.it h1 h2)
theorem Rn.ifnullN {m pc : Nat} {ls : lo} {fs : List fr} {I : IT} {C : CT} {n c z : Nat} {out : oP} {len a b d : Nat} {o : Int} {r : List av} (hc : cd m pc = some (.ifnull o, len, a, b, d)) (h : Rn m a ls r fs I C n c z out) : Rn m pc ls (vq none :: r) fs I C n c z out := Rn.one hc (F := fun k => run k m a ls r fs I C n c z) (fun _ => rfl) h
theorem Rn.ifnullS {m pc : Nat} {ls : lo} {fs : List fr} {I : IT} {C : CT} {n c z : Nat} {out : oP} {len a b d : Nat} {pc2 : Nat} {o : Int} {r : List av} {q : Nat × Nat} (hc : cd m pc = some (.ifnull o, len, a, b, d)) (hp : pc + len = pc2) (h : Rn m pc2 ls r fs I C n c z out) : Rn m pc ls (vq (some q) :: r) fs I C n c z out := by
  subst hp
  refine Rn.one hc (F := fun k => run k m (pc + len) ls r fs I C n c z) (fun k => ?_) h
  rfl
theorem Rn.ifnonnullN {m pc : Nat} {ls : lo} {fs : List fr} {I : IT} {C : CT} {n c z : Nat} {out : oP} {len a b d : Nat} {pc2 : Nat} {o : Int} {r : List av} (hc : cd m pc = some (.ifnonnull o, len, a, b, d)) (hp : pc + len = pc2) (h : Rn m pc2 ls r fs I C n c z out) : Rn m pc ls (vq none :: r) fs I C n c z out := by
  subst hp
  refine Rn.one hc (F := fun k => run k m (pc + len) ls r fs I C n c z) (fun k => ?_) h
  rfl
theorem Rn.ifnonnullS {m pc : Nat} {ls : lo} {fs : List fr} {I : IT} {C : CT} {n c z : Nat} {out : oP} {len a b d : Nat} {o : Int} {r : List av} {q : Nat × Nat} (hc : cd m pc = some (.ifnonnull o, len, a, b, d)) (h : Rn m a ls r fs I C n c z out) : Rn m pc ls (vq (some q) :: r) fs I C n c z out := Rn.one hc (F := fun k => run k m a ls r fs I C n c z) (fun _ => rfl) h
theorem Rn.tsw {m pc : Nat} {ls : lo} {fs : List fr} {I : IT} {C : CT} {n c z : Nat} {out : oP} {len a b d : Nat} {dflt low hi x : Int} {offs : Array Int} {r : List av} {T : Nat → Prop} (hc : cd m pc = some (.tableswitch dflt low hi offs, len, a, b, d)) (h : swt pc x T dflt low offs.toList) (hT : ∀ t, T t → Rn m t ls r fs I C n c z out) : Rn m pc ls (vi x :: r) fs I C n c z out := by
  refine Rn.one hc (F := fun k => swt pc x (fun t => run k m t ls r fs I C n c z) dflt low offs.toList) (fun k => rfl) ?_
  clear hc
  generalize offs.toList = os at h
  induction os generalizing low with
  | nil => exact hT _ h
  | cons o os ih =>
    by_cases hx : x = low
    · simp only [swt, if_pos hx] at h ⊢; exact hT _ h
    · simp only [swt, if_neg hx] at h ⊢; exact ih h
theorem Rn.lsw {m pc : Nat} {ls : lo} {fs : List fr} {I : IT} {C : CT} {n c z : Nat} {out : oP} {len a b d : Nat} {dflt x : Int} {prs : Array (Int × Int)} {r : List av} {T : Nat → Prop} (hc : cd m pc = some (.lookupswitch dflt prs, len, a, b, d)) (h : swl pc x T dflt prs.toList) (hT : ∀ t, T t → Rn m t ls r fs I C n c z out) : Rn m pc ls (vi x :: r) fs I C n c z out := by
  refine Rn.one hc (F := fun k => swl pc x (fun t => run k m t ls r fs I C n c z) dflt prs.toList) (fun k => rfl) ?_
  generalize prs.toList = os at h
  induction os with
  | nil => exact hT _ h
  | cons o os ih =>
    by_cases hx : x = o.1
    · simp only [swl, if_pos hx] at h ⊢; exact hT _ h
    · simp only [swl, if_neg hx] at h ⊢; exact ih h
theorem Rn.getI {m pc : Nat} {ls : lo} {fs : List fr} {I : IT} {C : CT} {n c z : Nat} {out : oP} {len a b d : Nat} {pc2 : Nat} {j : Nat} {f i : Nat} {r : List av} (hc : cd m pc = some (.getfield j, len, a, b, d)) (hk : Nat.beq (kd f) a = true) (hd : Nat.beq d 2 = false) (hp : pc + len = pc2) (h : Rn m pc2 ls (vi (I f i b) :: r) fs I C n c z out) : Rn m pc ls (vr f i :: r) fs I C n c z out := by
  subst hp
  refine Rn.one hc (F := fun k => run k m (pc + len) ls (vi (I f i b) :: r) fs I C n c z) (fun k => ?_) h
  simp only [stp, sO, hk, hd, cond]
theorem Rn.getR {m pc : Nat} {ls : lo} {fs : List fr} {I : IT} {C : CT} {n c z : Nat} {out : oP} {len a b d : Nat} {pc2 : Nat} {j : Nat} {q : Option (Nat × Nat)} {f i : Nat} {r : List av} (hc : cd m pc = some (.getfield j, len, a, b, d)) (hk : Nat.beq (kd f) a = true) (hd : Nat.beq d 2 = true) (hq : C f i b = q) (hp : pc + len = pc2) (h : Rn m pc2 ls (vq q :: r) fs I C n c z out) : Rn m pc ls (vr f i :: r) fs I C n c z out := by
  subst hp
  refine Rn.one hc (F := fun k => run k m (pc + len) ls (vq q :: r) fs I C n c z) (fun k => ?_) h
  subst hq; simp only [stp, sO, hk, hd, cond]
theorem Rn.putI {m pc : Nat} {ls : lo} {fs : List fr} {I : IT} {C : CT} {n c z : Nat} {out : oP} {len a b d : Nat} {pc2 : Nat} {j : Nat} {x : Int} {f i : Nat} {r : List av} (hc : cd m pc = some (.putfield j, len, a, b, d)) (hk : Nat.beq (kd f) a = true) (hd : Nat.beq d 2 = false) (hd1 : Nat.beq d 1 = false) (hp : pc + len = pc2) (h : Rn m pc2 ls r fs (up3 I f i b x) C n c z out) : Rn m pc ls (vi x :: vr f i :: r) fs I C n c z out := by
  subst hp
  refine Rn.one hc (F := fun k => run k m (pc + len) ls r fs (up3 I f i b x) C n c z) (fun k => ?_) h
  simp only [stp, sO, sI, hk, hd, hd1, cond]
theorem Rn.putZ {m pc : Nat} {ls : lo} {fs : List fr} {I : IT} {C : CT} {n c z : Nat} {out : oP} {len a b d : Nat} {pc2 : Nat} {j : Nat} {x : Int} {f i : Nat} {r : List av} (hc : cd m pc = some (.putfield j, len, a, b, d)) (hk : Nat.beq (kd f) a = true) (hd : Nat.beq d 2 = false) (hd1 : Nat.beq d 1 = true) (hx : x = 0 ∨ x = 1) (hp : pc + len = pc2) (h : Rn m pc2 ls r fs (up3 I f i b x) C n c z out) : Rn m pc ls (vi x :: vr f i :: r) fs I C n c z out := by
  subst hp
  refine Rn.one hc (F := fun k => run k m (pc + len) ls r fs (up3 I f i b x) C n c z) (fun k => ?_) h
  simp only [stp, sO, sI, hk, hd, hd1, cond, if_pos hx]
theorem Rn.putR {m pc : Nat} {ls : lo} {fs : List fr} {I : IT} {C : CT} {n c z : Nat} {out : oP} {len a b d : Nat} {pc2 : Nat} {j : Nat} {q : Option (Nat × Nat)} {f i : Nat} {r : List av} (hc : cd m pc = some (.putfield j, len, a, b, d)) (hk : Nat.beq (kd f) a = true) (hd : Nat.beq d 2 = true) (hp : pc + len = pc2) (h : Rn m pc2 ls r fs I (up3 C f i b q) n c z out) : Rn m pc ls (vq q :: vr f i :: r) fs I C n c z out := by
  subst hp
  refine Rn.one hc (F := fun k => run k m (pc + len) ls r fs I (up3 C f i b q) n c z) (fun k => ?_) h
  simp only [stp, sO, sR, hk, hd, cond]
theorem Rn.iald {m pc : Nat} {ls : lo} {fs : List fr} {I : IT} {C : CT} {n c z : Nat} {out : oP} {len a b d : Nat} {pc2 : Nat} {f i : Nat} {x L : Int} {r : List av} (hc : cd m pc = some (.iaload, len, a, b, d)) (hk : Nat.beq (kd f) 20 = true) (hL : Int.ofNat (lnN f) = L) (hx : 0 ≤ x ∧ x < L) (hp : pc + len = pc2) (h : Rn m pc2 ls (vi (I f i x.toNat) :: r) fs I C n c z out) : Rn m pc ls (vi x :: vr f i :: r) fs I C n c z out := by
  subst hp
  refine Rn.one hc (F := fun k => run k m (pc + len) ls (vi (I f i x.toNat) :: r) fs I C n c z) (fun k => ?_) h
  subst hL; simp only [stp, sO, sI, hk, cond, if_pos hx]
theorem Rn.bald {m pc : Nat} {ls : lo} {fs : List fr} {I : IT} {C : CT} {n c z : Nat} {out : oP} {len a b d : Nat} {pc2 : Nat} {f i : Nat} {x L : Int} {r : List av} (hc : cd m pc = some (.baload, len, a, b, d)) (hk : Nat.beq (kd f) 21 = true) (hL : Int.ofNat (lnN f) = L) (hx : 0 ≤ x ∧ x < L) (hp : pc + len = pc2) (h : Rn m pc2 ls (vi (I f i x.toNat) :: r) fs I C n c z out) : Rn m pc ls (vi x :: vr f i :: r) fs I C n c z out := by
  subst hp
  refine Rn.one hc (F := fun k => run k m (pc + len) ls (vi (I f i x.toNat) :: r) fs I C n c z) (fun k => ?_) h
  subst hL; simp only [stp, sO, sI, hk, cond, if_pos hx]
theorem Rn.lald {m pc : Nat} {ls : lo} {fs : List fr} {I : IT} {C : CT} {n c z : Nat} {out : oP} {len a b d : Nat} {pc2 : Nat} {f i : Nat} {x L : Int} {r : List av} (hc : cd m pc = some (.laload, len, a, b, d)) (hk : Nat.beq (kd f) 22 = true) (hL : Int.ofNat (lnN f) = L) (hx : 0 ≤ x ∧ x < L) (hp : pc + len = pc2) (h : Rn m pc2 ls (vl (I f i x.toNat) :: r) fs I C n c z out) : Rn m pc ls (vi x :: vr f i :: r) fs I C n c z out := by
  subst hp
  refine Rn.one hc (F := fun k => run k m (pc + len) ls (vl (I f i x.toNat) :: r) fs I C n c z) (fun k => ?_) h
  subst hL; simp only [stp, sO, sI, hk, cond, if_pos hx]
theorem Rn.sald {m pc : Nat} {ls : lo} {fs : List fr} {I : IT} {C : CT} {n c z : Nat} {out : oP} {len a b d : Nat} {pc2 : Nat} {i : Nat} {x : Int} {r : List av} (hc : cd m pc = some (.iaload, len, a, b, d)) (hd : Nat.beq d 1 = true) (hx : 0 ≤ x ∧ x < I 99 1 0) (hp : pc + len = pc2) (h : Rn m pc2 ls (vi (I 99 0 x.toNat) :: r) fs I C n c z out) : Rn m pc ls (vi x :: vr 99 i :: r) fs I C n c z out := by
  subst hp
  refine Rn.one hc (F := fun k => run k m (pc + len) ls (vi (I 99 0 x.toNat) :: r) fs I C n c z) (fun k => ?_) h
  simp only [stp, sO, sI]; rw [show Nat.beq (kd 99) 20 = false from rfl, show Nat.beq 99 99 = true from rfl]; simp only [cond, hd, if_pos hx]
theorem Rn.aald {m pc : Nat} {ls : lo} {fs : List fr} {I : IT} {C : CT} {n c z : Nat} {out : oP} {len a b d : Nat} {pc2 : Nat} {q : Option (Nat × Nat)} {f i : Nat} {x L : Int} {r : List av} (hc : cd m pc = some (.aaload, len, a, b, d)) (hk : Nat.ble 30 (kd f) = true) (hk2 : Nat.ble (kd f) 50 = true) (hL : Int.ofNat (lnN f) = L) (hx : 0 ≤ x ∧ x < L) (hq : C f i x.toNat = q) (hp : pc + len = pc2) (h : Rn m pc2 ls (vq q :: r) fs I C n c z out) : Rn m pc ls (vi x :: vr f i :: r) fs I C n c z out := by
  subst hp
  refine Rn.one hc (F := fun k => run k m (pc + len) ls (vq q :: r) fs I C n c z) (fun k => ?_) h
  subst hL; subst hq; simp only [stp, sO, sI, hk, hk2, cond, if_pos hx]
theorem Rn.iast {m pc : Nat} {ls : lo} {fs : List fr} {I : IT} {C : CT} {n c z : Nat} {out : oP} {len a b d : Nat} {pc2 : Nat} {v : Int} {f i : Nat} {x L : Int} {r : List av} (hc : cd m pc = some (.iastore, len, a, b, d)) (hk : Nat.beq (kd f) 20 = true) (hL : Int.ofNat (lnN f) = L) (hx : 0 ≤ x ∧ x < L) (hp : pc + len = pc2) (h : Rn m pc2 ls r fs (up3 I f i x.toNat v) C n c z out) : Rn m pc ls (vi v :: vi x :: vr f i :: r) fs I C n c z out := by
  subst hp
  refine Rn.one hc (F := fun k => run k m (pc + len) ls r fs (up3 I f i x.toNat v) C n c z) (fun k => ?_) h
  subst hL; simp only [stp, sO, sI, hk, cond, if_pos hx]
theorem Rn.bast {m pc : Nat} {ls : lo} {fs : List fr} {I : IT} {C : CT} {n c z : Nat} {out : oP} {len a b d : Nat} {pc2 : Nat} {v : Int} {f i : Nat} {x L : Int} {r : List av} (hc : cd m pc = some (.bastore, len, a, b, d)) (hk : Nat.beq (kd f) 21 = true) (hL : Int.ofNat (lnN f) = L) (hx : 0 ≤ x ∧ x < L) (hv : v = 0 ∨ v = 1) (hp : pc + len = pc2) (h : Rn m pc2 ls r fs (up3 I f i x.toNat v) C n c z out) : Rn m pc ls (vi v :: vi x :: vr f i :: r) fs I C n c z out := by
  subst hp
  refine Rn.one hc (F := fun k => run k m (pc + len) ls r fs (up3 I f i x.toNat v) C n c z) (fun k => ?_) h
  subst hL; simp only [stp, sO, sI, hk, cond, if_pos hx, if_pos hv]
theorem Rn.last {m pc : Nat} {ls : lo} {fs : List fr} {I : IT} {C : CT} {n c z : Nat} {out : oP} {len a b d : Nat} {pc2 : Nat} {v : Int} {f i : Nat} {x L : Int} {r : List av} (hc : cd m pc = some (.lastore, len, a, b, d)) (hk : Nat.beq (kd f) 22 = true) (hL : Int.ofNat (lnN f) = L) (hx : 0 ≤ x ∧ x < L) (hp : pc + len = pc2) (h : Rn m pc2 ls r fs (up3 I f i x.toNat v) C n c z out) : Rn m pc ls (vl v :: vi x :: vr f i :: r) fs I C n c z out := by
  subst hp
  refine Rn.one hc (F := fun k => run k m (pc + len) ls r fs (up3 I f i x.toNat v) C n c z) (fun k => ?_) h
  subst hL; simp only [stp, sL, sO, sI, hk, cond, if_pos hx]
theorem Rn.aast {m pc : Nat} {ls : lo} {fs : List fr} {I : IT} {C : CT} {n c z : Nat} {out : oP} {len a b d : Nat} {pc2 : Nat} {g j : Nat} {f i : Nat} {x L : Int} {r : List av} (hc : cd m pc = some (.aastore, len, a, b, d)) (hk : Nat.beq (kd f) (30 + kd g) = true) (hk2 : Nat.ble (kd g) 10 = true) (hL : Int.ofNat (lnN f) = L) (hx : 0 ≤ x ∧ x < L) (hp : pc + len = pc2) (h : Rn m pc2 ls r fs I (up3 C f i x.toNat (some (g, j))) n c z out) : Rn m pc ls (vr g j :: vi x :: vr f i :: r) fs I C n c z out := by
  subst hp
  refine Rn.one hc (F := fun k => run k m (pc + len) ls r fs I (up3 C f i x.toNat (some (g, j))) n c z) (fun k => ?_) h
  subst hL; simp only [stp, sO, sI, hk, hk2, cond, if_pos hx]
theorem Rn.alen {m pc : Nat} {ls : lo} {fs : List fr} {I : IT} {C : CT} {n c z : Nat} {out : oP} {len a b d : Nat} {pc2 : Nat} {L : Int} {f i : Nat} {r : List av} (hc : cd m pc = some (.arraylength, len, a, b, d)) (h9 : Nat.beq f 99 = false) (hk : Nat.ble 20 (kd f) = true) (hk2 : Nat.ble (kd f) 50 = true) (hL : Int.ofNat (lnN f) = L) (hp : pc + len = pc2) (h : Rn m pc2 ls (vi L :: r) fs I C n c z out) : Rn m pc ls (vr f i :: r) fs I C n c z out := by
  subst hp
  refine Rn.one hc (F := fun k => run k m (pc + len) ls (vi L :: r) fs I C n c z) (fun k => ?_) h
  subst hL; simp only [stp, sO, h9, hk, hk2, cond]
theorem Rn.slen {m pc : Nat} {ls : lo} {fs : List fr} {I : IT} {C : CT} {n c z : Nat} {out : oP} {len a b d : Nat} {pc2 : Nat} {i : Nat} {r : List av} (hc : cd m pc = some (.arraylength, len, a, b, d)) (hd : Nat.beq d 1 = true) (hp : pc + len = pc2) (h : Rn m pc2 ls (vi (I 99 1 0) :: r) fs I C n c z out) : Rn m pc ls (vr 99 i :: r) fs I C n c z out := by
  subst hp
  refine Rn.one hc (F := fun k => run k m (pc + len) ls (vi (I 99 1 0) :: r) fs I C n c z) (fun k => ?_) h
  simp only [stp, sO]; rw [show Nat.beq 99 99 = true from rfl]; simp only [cond, hd]
theorem Rn.newa {m pc : Nat} {ls : lo} {fs : List fr} {I : IT} {C : CT} {n c z : Nat} {out : oP} {len a b d : Nat} {pc2 : Nat} {t : ArrayType} {x : Int} {f i n2 : Nat} {r : List av} (hc : cd m pc = some (.newarray t, len, a, b, d)) (hid : idOf n = (f, i)) (hk : Nat.beq (kd f) a = true) (hL : Nat.beq (lnN f) x.toNat = true) (hn : n + 1 = n2) (hp : pc + len = pc2) (h : Rn m pc2 ls (vr f i :: r) fs I C n2 (c + 1) (z + x.toNat) out) : Rn m pc ls (vi x :: r) fs I C n c z out := by
  subst hp
  refine Rn.one hc (F := fun k => run k m (pc + len) ls (vr f i :: r) fs I C n2 (c + 1) (z + x.toNat)) (fun k => ?_) h
  subst hn; simp only [stp, sI, hid, hk, hL, cond]
theorem Rn.anew {m pc : Nat} {ls : lo} {fs : List fr} {I : IT} {C : CT} {n c z : Nat} {out : oP} {len a b d : Nat} {pc2 : Nat} {t : Nat} {x : Int} {f i n2 : Nat} {r : List av} (hc : cd m pc = some (.anewarray t, len, a, b, d)) (hid : idOf n = (f, i)) (hk : Nat.beq (kd f) a = true) (hL : Nat.beq (lnN f) x.toNat = true) (hn : n + 1 = n2) (hp : pc + len = pc2) (h : Rn m pc2 ls (vr f i :: r) fs I C n2 (c + 1) (z + x.toNat) out) : Rn m pc ls (vi x :: r) fs I C n c z out := by
  subst hp
  refine Rn.one hc (F := fun k => run k m (pc + len) ls (vr f i :: r) fs I C n2 (c + 1) (z + x.toNat)) (fun k => ?_) h
  subst hn; simp only [stp, sI, hid, hk, hL, cond]
theorem Rn.new {m pc : Nat} {ls : lo} {st : List av} {fs : List fr} {I : IT} {C : CT} {n c z : Nat} {out : oP} {len a b d : Nat} {pc2 : Nat} {t : Nat} {f i n2 L : Nat} (hc : cd m pc = some (.new t, len, a, b, d)) (hd : Nat.beq d 9 = false) (hid : idOf n = (f, i)) (hk : Nat.beq (kd f) a = true) (hn : n + 1 = n2) (hL : lnN f = L) (hp : pc + len = pc2) (h : Rn m pc2 ls (vr f i :: st) fs I C n2 (c + 1) (z + L) out) : Rn m pc ls st fs I C n c z out := by
  subst hp
  refine Rn.one hc (F := fun k => run k m (pc + len) ls (vr f i :: st) fs I C n2 (c + 1) (z + L)) (fun k => ?_) h
  subst hn; subst hL; simp only [stp, hd, hid, hk, cond]
theorem Rn.oinit {m pc : Nat} {ls : lo} {fs : List fr} {I : IT} {C : CT} {n c z : Nat} {out : oP} {len a b d : Nat} {pc2 : Nat} {t : Nat} {f i : Nat} {r : List av} (hc : cd m pc = some (.invokespecial t, len, a, b, d)) (hd : Nat.beq d 2 = true) (hct : Nat.ble (ctg r) 8 = true) (hp : pc + len = pc2) (h : Rn m pc2 ls r fs I C n c z out) : Rn m pc ls (vr f i :: r) fs I C n c z out := by
  subst hp
  refine Rn.one hc (F := fun k => run k m (pc + len) ls r fs I C n c z) (fun k => ?_) h
  simp only [stp, hd, hct, sO, cond]
theorem Rn.mmax {m pc : Nat} {ls : lo} {fs : List fr} {I : IT} {C : CT} {n c z : Nat} {out : oP} {len a b d : Nat} {pc2 : Nat} {t : Nat} {x y : Int} {r : List av} (hc : cd m pc = some (.invokestatic t, len, a, b, d)) (hd : Nat.beq d 3 = true) (hct : Nat.ble (ctg r) 8 = true) (hp : pc + len = pc2) (h : Rn m pc2 ls (vi (mxI x y) :: r) fs I C n c z out) : Rn m pc ls (vi y :: vi x :: r) fs I C n c z out := by
  subst hp
  refine Rn.one hc (F := fun k => run k m (pc + len) ls (vi (mxI x y) :: r) fs I C n c z) (fun k => ?_) h
  simp only [stp, hd, hct, sII, cond]
theorem Rn.thr {m pc : Nat} {ls : lo} {fs : List fr} {I : IT} {C : CT} {n c z : Nat} {out : oP} {len a b d : Nat} {t c2 z2 : Nat} (hc : cd m pc = some (.new t, len, a, b, d)) (hd : Nat.beq d 9 = true) (hc2 : c + 1 = c2) (hz2 : z + 6 = z2) (h : Rf (Sum.inr b) fs I C n c2 z2 out) : Rn m pc ls [] fs I C n c z out := by
  subst hc2; subst hz2
  refine Rn.one hc (F := fun k => fin (run k) (Sum.inr b) fs I C n (c + 1) (z + 6)) (fun k => ?_) h
  simp only [stp, s0, hd, cond]
theorem Rn.ista {m pc : Nat} {ls : lo} {st : List av} {fs : List fr} {I : IT} {C : CT} {n c z : Nat} {out : oP} {len a b d : Nat} {t : Nat} {as r : List av} {ls2 : lo} (hc : cd m pc = some (.invokestatic t, len, a, b, d)) (hd : Nat.beq d 3 = false) (hlen : Nat.ble b st.length = true) (has : (st.take b).reverse = as) (hr : st.drop b = r) (hct : (Nat.ble (ctg r) 8 && Nat.beq (ctg (st.take b)) b) = true) (hi : ini a as = ls2) (h : Rn a 0 ls2 [] ((m, pc, ls, r) :: fs) I C n c z out) : Rn m pc ls st fs I C n c z out := by
  subst hr; subst hi
  refine Rn.one hc (F := fun k => run k a 0 (ini a as) [] ((m, pc, ls, st.drop b) :: fs) I C n c z) (fun k => ?_) h
  simp only [stp, hlen, cond, hct, has, hd]
theorem Rn.ivir {m pc : Nat} {ls : lo} {st : List av} {fs : List fr} {I : IT} {C : CT} {n c z : Nat} {out : oP} {len a b d : Nat} {t : Nat} {as r : List av} {ls2 : lo} {f i : Nat} (hc : cd m pc = some (.invokevirtual t, len, a, b, d)) (hlen : Nat.ble b st.length = true) (has : (st.take b).reverse = vr f i :: as) (hr : st.drop b = r) (hct : (Nat.ble (ctg r) 8 && Nat.beq (ctg (st.take b)) b) = true) (hk : Nat.beq (kd f) (mcl a) = true) (hi : ini a (vr f i :: as) = ls2) (h : Rn a 0 ls2 [] ((m, pc, ls, r) :: fs) I C n c z out) : Rn m pc ls st fs I C n c z out := by
  subst hr; subst hi
  refine Rn.one hc (F := fun k => run k a 0 (ini a (vr f i :: as)) [] ((m, pc, ls, st.drop b) :: fs) I C n c z) (fun k => ?_) h
  simp only [stp, hlen, cond, hct, has, sO, hk]
theorem Rn.ispe {m pc : Nat} {ls : lo} {st : List av} {fs : List fr} {I : IT} {C : CT} {n c z : Nat} {out : oP} {len a b d : Nat} {t : Nat} {as r : List av} {ls2 : lo} {f i : Nat} (hc : cd m pc = some (.invokespecial t, len, a, b, d)) (hd : Nat.beq d 2 = false) (hlen : Nat.ble b st.length = true) (has : (st.take b).reverse = vr f i :: as) (hr : st.drop b = r) (hct : (Nat.ble (ctg r) 8 && Nat.beq (ctg (st.take b)) b) = true) (hk : Nat.beq (kd f) (mcl a) = true) (hi : ini a (vr f i :: as) = ls2) (h : Rn a 0 ls2 [] ((m, pc, ls, r) :: fs) I C n c z out) : Rn m pc ls st fs I C n c z out := by
  subst hr; subst hi
  refine Rn.one hc (F := fun k => run k a 0 (ini a (vr f i :: as)) [] ((m, pc, ls, st.drop b) :: fs) I C n c z) (fun k => ?_) h
  simp only [stp, hlen, cond, hct, has, sO, hk, hd]
theorem Rn.iret {m pc : Nat} {ls : lo} {fs : List fr} {I : IT} {C : CT} {n c z : Nat} {out : oP} {len a b d : Nat} {x : Int} (hc : cd m pc = some (.ireturn, len, a, b, d)) (ha : Nat.beq a 1 = false) (h : Rf (Sum.inl (some (vi x))) fs I C n c z out) : Rn m pc ls [vi x] fs I C n c z out := by
  refine Rn.one hc (F := fun k => fin (run k) (Sum.inl (some (vi x))) fs I C n c z) (fun k => ?_) h
  simp only [stp, s1, ha, cond]
theorem Rn.zret {m pc : Nat} {ls : lo} {fs : List fr} {I : IT} {C : CT} {n c z : Nat} {out : oP} {len a b d : Nat} {x : Int} (hc : cd m pc = some (.ireturn, len, a, b, d)) (ha : Nat.beq a 1 = true) (hx : x = 0 ∨ x = 1) (h : Rf (Sum.inl (some (vi x))) fs I C n c z out) : Rn m pc ls [vi x] fs I C n c z out := by
  refine Rn.one hc (F := fun k => fin (run k) (Sum.inl (some (vi x))) fs I C n c z) (fun k => ?_) h
  simp only [stp, s1, ha, cond, if_pos hx]
theorem Rn.vret {m pc : Nat} {ls : lo} {fs : List fr} {I : IT} {C : CT} {n c z : Nat} {out : oP} {len a b d : Nat} (hc : cd m pc = some (.return_, len, a, b, d)) (h : Rf (Sum.inl none) fs I C n c z out) : Rn m pc ls [] fs I C n c z out := Rn.one hc (F := fun k => fin (run k) (Sum.inl none) fs I C n c z) (fun _ => rfl) h
theorem Rf.sm {m pc : Nat} {ls : lo} {st : List av} {fs : List fr} {I : IT} {C : CT} {n c z : Nat} {out : oP} {pc2 : Nat} {v : av} (hp : pc + 3 = pc2) (h : Rn m pc2 ls (v :: st) fs I C n c z out) : Rf (Sum.inl (some v)) ((m, pc, ls, st) :: fs) I C n c z out := by
  subst hp; exact h
theorem Rf.nn {m pc : Nat} {ls : lo} {st : List av} {fs : List fr} {I : IT} {C : CT} {n c z : Nat} {out : oP} {pc2 : Nat} (hp : pc + 3 = pc2) (h : Rn m pc2 ls st fs I C n c z out) : Rf (Sum.inl none) ((m, pc, ls, st) :: fs) I C n c z out := by
  subst hp; exact h
theorem Rf.prop {m pc : Nat} {ls : lo} {st : List av} {fs : List fr} {I : IT} {C : CT} {n c z : Nat} {out : oP} {E : Nat} (hh : hnd m pc E = some none) (h : Rf (Sum.inr E) fs I C n c z out) : Rf (Sum.inr E) ((m, pc, ls, st) :: fs) I C n c z out := by
  have h9 : Rn 999 E [] [] fs I C n c z out := Rn.one (e := (.athrow, 0, E, 0, 0)) (F := fun k => fin (run k) (Sum.inr E) fs I C n c z) rfl (fun _ => rfl) h
  obtain ⟨k0, x9, hx9, h9⟩ := h9
  refine ⟨k0, x9, hx9, fun k hk => ?_⟩
  show (match hnd m pc E with | none => none | some none => _ | some (some (_, _)) => _) = _
  rw [hh]
  exact h9 k hk
theorem Rf.catch {m pc : Nat} {ls : lo} {st : List av} {fs : List fr} {I : IT} {C : CT} {n c z : Nat} {out : oP} {E hp k9 : Nat} {ls2 : lo} (hh : hnd m pc E = some (some (hp, k9))) (hl : ls.set k9 none = ls2) (h : Rn m hp ls2 [] fs I C n c z out) : Rf (Sum.inr E) ((m, pc, ls, st) :: fs) I C n c z out := by
  subst hl
  obtain ⟨k0, x9, hx9, h⟩ := h
  refine ⟨k0, x9, hx9, fun k hk => ?_⟩
  show (match hnd m pc E with | none => none | some none => _ | some (some (_, _)) => _) = _
  rw [hh]
  exact h k hk
theorem swt_c {pc : Nat} {x dflt lo o : Int} {os : List Int} {T : Nat → Prop} (h1 : x = lo → T ((pc : Int) + o).toNat) (h2 : ¬ x = lo → swt pc x T dflt (lo + 1) os) : swt pc x T dflt lo (o :: os) := by
  by_cases hx : x = lo
  · simp only [swt, if_pos hx]; exact h1 hx
  · simp only [swt, if_neg hx]; exact h2 hx
theorem swl_c {pc : Nat} {x dflt : Int} {o : Int × Int} {os : List (Int × Int)} {T : Nat → Prop} (h1 : x = o.1 → T ((pc : Int) + o.2).toNat) (h2 : ¬ x = o.1 → swl pc x T dflt os) : swl pc x T dflt (o :: os) := by
  by_cases hx : x = o.1
  · simp only [swl, if_pos hx]; exact h1 hx
  · simp only [swl, if_neg hx]; exact h2 hx
