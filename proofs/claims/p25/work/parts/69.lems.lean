/-! Minutes cut into pieces. -/
theorem fq {S S2 : IT} {d e n : Nat} {L : List (Nat × List Int)} (h : chk (fpass 400 d S) L = true) (h0 : 0 ≤ S 27 0 0) (h1 : S 27 0 0 + (d : Int) ≤ 100000) (hn : d + e = n) (g : mntF e (pat (fpass 400 d S) L) = S2) : mntF n S = S2 := by
  subst hn
  rw [mntF_a, ← fpass_ok 400 d S h0 h1]
  rw [pat_eq h] at g
  exact g
theorem pass_q {J : IT} {gs : List fr} {c0 z0 : Nat} {out : oP} {m pc pc2 : Nat} {ls : lo} {r : List av} {S S2 : IT} {c c1 : Nat} {mm v : Int} {e : ent} (hc : cd m pc = some e) (hp : pur e.1 = true) (hs : stc e pc ls (vi mm :: vr 0 0 :: r) IX C0 0 0 0 = some (Sum.inr (Sum.inl (21, [vr 0 0, vi mm], r)))) (hT : sT 21 S [mm] = some 0) (hv : sW 21 S [mm] = v) (hZ : sZ 21 S [mm] = S2) (hp2 : pc + 3 = pc2) (hc1 : c + 1 = c1) (g : LG J gs c0 z0 out (m, pc2, ls, vi v :: r, [], S2, c1)) : LG J gs c0 z0 out (m, pc, ls, vi mm :: vr 0 0 :: r, [], S, c) := by
  subst hc1
  have g9 : Ln J m pc2 ls (vi v :: r) ([] ++ gs) S2 (c + 1 + c0) (6 * (c + 1) + z0) out := g
  show Ln J m pc ls (vi mm :: vr 0 0 :: r) ([] ++ gs) S (c + c0) (6 * c + z0) out
  refine Ln.el hc hp hs (fun I cc c' z' F hJ h1 h2 => ?_)
  exact call_V (fun e => by omega) hT rfl F hJ h1 h2 hp2 hZ (by
    rw [← sW_ok F.2 hT, hv]
    exact g9.le (by omega) (by omega))
