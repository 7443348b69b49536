/-! calls: reading, back, lump -/
theorem up_same {x : Mem} {k i j : Nat} : up x k i j (x k i j) = x := by
  funext k' i' j'
  rw [up_app]
  split
  · rename_i h; rw [h.1, h.2.1, h.2.2]
  · rfl
theorem p1_w {kd rk wt wm : Nat → Nat} {P m t j : Nat} {s : SS} (h : j < s.2.2.2.1) : j < (p1 kd rk wt wm P m t s).2.2.2.1 ∧ (p1 kd rk wt wm P m t s).2.2.2.2 j = s.2.2.2.2 j := by
  refine ⟨Nat.lt_of_lt_of_le h (Nat.le_add_right _ _), ?_⟩
  show (if s.2.2.2.1 ≤ j ∧ j < s.2.2.2.1 + tk kd rk wt wm P t m s.1 s.2.1 then (t, m) else s.2.2.2.2 j) = _
  rw [if_neg (by omega)]
theorem rd_w {kd rk wt wm : Nat → Nat} {P m0 j i : Nat} {s : SS} (h : j < (rd kd rk wt wm P m0 i s).2.2.2.1) : ∀ r, j < (rd kd rk wt wm P m0 (i + r) s).2.2.2.1 ∧ (rd kd rk wt wm P m0 (i + r) s).2.2.2.2 j = (rd kd rk wt wm P m0 i s).2.2.2.2 j
  | 0 => ⟨h, rfl⟩
  | r + 1 => by
    obtain ⟨a, b⟩ := rd_w h r
    obtain ⟨c, e⟩ := p1_w (kd := kd) (rk := rk) (wt := wt) (wm := wm) (P := P) (m := m0 + (i + r)) (t := i + r) a
    exact ⟨c, e.trans b⟩
theorem rn_w {kd rk wt wm : Nat → Nat} {n P g j k : Nat} {s : SS} (h : j < (rn kd rk wt wm n P g k s).2.2.2.1) : ∀ r, j < (rn kd rk wt wm n P g (k + r) s).2.2.2.1 ∧ (rn kd rk wt wm n P g (k + r) s).2.2.2.2 j = (rn kd rk wt wm n P g k s).2.2.2.2 j
  | 0 => ⟨h, rfl⟩
  | r + 1 => by
    obtain ⟨a, b⟩ := rn_w h r
    obtain ⟨c, e⟩ := rd_w (kd := kd) (rk := rk) (wt := wt) (wm := wm) (P := P) (m0 := (g + (k + r)) * n) (i := 0) (s := rn kd rk wt wm n P g (k + r) s) a n
    rw [Nat.zero_add] at c e
    exact ⟨c, e.trans b⟩
section
variable {d : Nat} {Q : Option AV → Mem → Prop} {x : Mem}
theorem k_add {rc : Nat} {a b v : Int32} (hr : x 9 0 3 = nI rc) (hr8 : rc ≤ 8) (h1 : rc < 8 → Q (some (vi (nI rc))) (up (up (up (up x 10 0 rc a) 11 0 rc b) 12 0 rc v) 9 0 3 (nI (rc + 1)))) (h0 : rc = 8 → Q (some (vi (-4))) x) : CC (d + 1) 11 [vr 9 0, vi a, vi b, vi v] x Q := by
  refine vc_X1_add ⟨fun c => ?_, fun c => h0 ?_⟩
  · rw [hr, show (8 : Int32) = nI 8 from rfl, nI_ltI (by omega) (by decide)] at c
    have e : (nI rc).toNatClampNeg = rc := cl8 c
    refine ⟨?_, ?_, ?_, ?_⟩
    · rw [hr]; exact in8 c (by omega)
    · show vp_in (x 9 0 3) 8
      rw [hr]; exact in8 c (by omega)
    · show vp_in (x 9 0 3) 8
      rw [hr]; exact in8 c (by omega)
    · show Q (some (vi (x 9 0 3))) (up (up (up (up x 10 0 (Int32.toNatClampNeg (x 9 0 3)) a) 11 0 (Int32.toNatClampNeg (x 9 0 3)) b) 12 0 (Int32.toNatClampNeg (x 9 0 3)) v) 9 0 3 (x 9 0 3 + 1))
      rw [hr, e, nI_1]
      exact h1 c
  · rw [hr, show (8 : Int32) = nI 8 from rfl, nI_ltI (by omega) (by decide)] at c
    omega
theorem op_reading {a b v : Int32} (h : Inv x) : OP 43 123 [vr 0 0, vi a, vi b, vi v] [vr 13 0, vi a, vi b, vi v] x := by
  obtain ⟨n, l, ro, g, kd, rk, wt, wm, hs, hC, hM, hB, ⟨rc, rt, rp, rv, hR⟩, hS, hT⟩ := id h
  have hn := hB.1
  have hp := pow8 hn
  refine vc_X5_reading (k_hasTable hC.1 hn (fun c => n1 (k_hasPoints hC.1 hn (fun cp => e1 (k_within (N := 37) rfl (fun cv' => n1 ?_) (fun cv' => n0 ⟨_, rfl, ?_⟩))) (fun cp => e0 ⟨_, rfl, ?_⟩))) (fun c => n0 ⟨_, rfl, ?_⟩))
  · have red : ∀ (y : Mem) (R : Option AV → Mem → Prop), IM y n l ro g kd rk wt wm hs → y 13 0 24 = nI rc → (rc < 8 → R (some (vi (nI rc))) (up (up (up (up y 26 0 rc a) 27 0 rc b) 28 0 rc v) 13 0 24 (nI (rc + 1)))) → (rc = 8 → R (some (vi (-4))) y) → CC 8 123 [vr 13 0, vi a, vi b, vi v] y R := by
      intro y R hM hrc h1 h0
      refine vc_X6_reading (k_noTable hM.1 hn (fun _ => e0 (k_noPoints hM.1 hn (fun _ => n0 (k_inN (N := 37) rfl (fun _ => n1 ⟨fun q => ?_, fun q => h0 ?_⟩) (fun q => absurd cv' q))) (fun q => absurd cp q))) (fun q => absurd c q))
      · rw [hrc, show (8 : Int32) = nI 8 from rfl, nI_eq (by have := hR.2.2.1; omega) (by decide)] at q
        have c8 : rc < 8 := by have := hR.2.2.1; omega
        refine ⟨?_, ?_, ?_, ?_⟩
        · rw [hrc]; exact in8 c8 (by omega)
        · show vp_in (y 13 0 24) 8
          rw [hrc]; exact in8 c8 (by omega)
        · show vp_in (y 13 0 24) 8
          rw [hrc]; exact in8 c8 (by omega)
        · show R (some (vi ((y 13 0 24 + 1) - 1))) (up (up (up (up y 26 0 (Int32.toNatClampNeg (y 13 0 24)) a) 27 0 (Int32.toNatClampNeg (y 13 0 24)) b) 28 0 (Int32.toNatClampNeg (y 13 0 24)) v) 13 0 24 (y 13 0 24 + 1))
          rw [hrc, cl8 c8, nI_1, show (1 : Int32) = nI 1 from rfl, pk_sub (by omega), Nat.add_sub_cancel]
          exact h1 c8
      · rw [hrc, show (8 : Int32) = nI 8 from rfl, nI_eq (by have := hR.2.2.1; omega) (by decide)] at q
        exact q
    refine k_add hR.1 hR.2.2.1 (fun c8 => ⟨_, rfl, red _ _ (hM.fr rfl rfl rfl rfl rfl rfl rfl rfl rfl) hR.2.1 (fun _ => ⟨rfl, ?_⟩) (fun q => absurd q (by omega))⟩) (fun c8 => ⟨_, rfl, red _ _ hM hR.2.1 (fun q => absurd q (by omega)) (fun _ => ⟨rfl, h⟩)⟩)
    obtain ⟨t, ht, rfl⟩ := vp_ex c (by omega)
    obtain ⟨P, hP, rfl⟩ := vp_ex cp (by omega)
    obtain ⟨u, hu, rfl⟩ := vp_ex cv' (by omega)
    refine ⟨n, l, ro, g, kd, rk, wt, wm, hs, hC.fr rfl rfl rfl, hM.fr rfl rfl rfl rfl rfl rfl rfl rfl rfl, hB, ⟨rc + 1, updN rt rc t, updN rp rc P, updN rv rc u, rfl, rfl, by omega, fun r hr => ?_, fun r hr => ?_⟩, hS.fr rfl rfl rfl rfl rfl rfl, hT.fr rfl rfl rfl⟩
    · obtain ⟨a1, a2, a3, a4, a5, a6⟩ := hR.2.2.2.1 r hr
      by_cases q : r = rc
      · subst q; simp [up_app, updN]
      · simp [up_app, updN, *]
    · by_cases q : r = rc
      · subst q; rw [updN_s, updN_s, updN_s]; exact ⟨ht, hP, by omega⟩
      · rw [updN_n q, updN_n q, updN_n q]; exact hR.2.2.2.2 r (by omega)
  · exact vc_X6_reading (k_noTable hM.1 hn (fun _ => e0 (k_noPoints hM.1 hn (fun _ => n0 (k_inN (N := 37) rfl (fun q => absurd q cv') (fun _ => n0 ⟨rfl, h⟩))) (fun q => absurd cp q))) (fun q => absurd c q))
  · exact vc_X6_reading (k_noTable hM.1 hn (fun _ => e0 (k_noPoints hM.1 hn (fun q => absurd q cp) (fun _ => n1 ⟨rfl, h⟩))) (fun q => absurd c q))
  · exact vc_X6_reading (k_noTable hM.1 hn (fun q => absurd q c) (fun _ => e1 ⟨rfl, h⟩))
theorem op_back {a : Int32} (h : Inv x) : OP 44 124 [vr 0 0, vi a] [vr 13 0, vi a] x := by
  obtain ⟨n, l, ro, g, kd, rk, wt, wm, hs, hC, hM, hB, ⟨rc, rt, rp, rv, hR⟩, hS, hT⟩ := id h
  have h8 := hR.2.2.1
  refine vc_X5_back (k_within (N := rc + 1) (by rw [hR.1, nI_toInt (by omega)]; rfl) (fun c => n1 ⟨_, rfl, ?_⟩) (fun c => n0 ⟨_, rfl, ?_⟩))
  · obtain ⟨j, hj, rfl⟩ := vp_ex c (by omega)
    refine vc_X6_back (k_inN (N := rc + 1) (by rw [show (up x 9 0 3 (x 9 0 3 - nI j)) 13 0 24 = x 13 0 24 from rfl, hR.2.1, nI_l (by omega), lN_toInt (by omega)]; rfl) (fun _ => n1 ⟨?_, ?_⟩) (fun q => absurd c q))
    · show some (vi (x 13 0 24 - nI j)) = some (vi (x 9 0 3 - nI j))
      rw [hR.1, hR.2.1]
    · refine ⟨n, l, ro, g, kd, rk, wt, wm, hs, hC.fr rfl rfl rfl, hM.fr rfl rfl rfl rfl rfl rfl rfl rfl rfl, hB, ⟨rc - j, rt, rp, rv, ?_, ?_, by omega, hR.2.2.2.1, fun r hr => hR.2.2.2.2 r (by omega)⟩, hS.fr rfl rfl rfl rfl rfl rfl, hT.fr rfl rfl rfl⟩
      · show x 9 0 3 - nI j = nI (rc - j)
        rw [hR.1, pk_sub (by omega)]
      · show x 13 0 24 - nI j = nI (rc - j)
        rw [hR.2.1, pk_sub (by omega)]
  · refine vc_X6_back (k_inN (N := rc + 1) (by rw [hR.2.1, nI_l (by omega), lN_toInt (by omega)]; rfl) (fun q => absurd q c) (fun _ => n0 ⟨rfl, h⟩))
theorem op_lump {a b w : Int32} (h : Inv x) : OP 37 114 [vr 0 0, vi a, vi b, vi w] [vr 13 0, vi a, vi b, vi w] x := by
  obtain ⟨n, l, ro, g, kd, rk, wt, wm, hs, hC, hM, hB, ⟨rc, rt, rp, rv, hR⟩, hS, hT⟩ := id h
  have hn := hB.1
  have hp := pow8 hn
  have hl : l < 2 ^ 20 := by have := hB.2.2.2.2; omega
  refine vc_X5_lump (k_stands hC.1 hn (fun c => n1 ?_) (fun c => n0 ⟨_, rfl, vc_X6_lump ⟨fun q => absurd (by rw [hM.1, c]; rfl) q, fun _ => ⟨rfl, h⟩⟩⟩))
  have nz : ¬ x 13 0 1 = 0 := by rw [hM.1, nI_z (by omega)]; omega
  refine k_hasPoints hC.1 hn (fun cp => e1 ?_) (fun cp => e0 ⟨_, rfl, vc_X6_lump ⟨fun _ => k_noPoints hM.1 hn (fun q => absurd q cp) (fun _ => n1 ⟨rfl, h⟩), fun q => absurd q nz⟩⟩)
  refine k_within (N := 36) rfl (fun ck => e1 ?_) (fun ck => e0 ⟨_, rfl, vc_X6_lump ⟨fun _ => k_noPoints hM.1 hn (fun _ => n0 (k_inN (N := 36) rfl (fun q => absurd q ck) (fun _ => e0 ⟨rfl, h⟩))) (fun q => absurd cp q), fun q => absurd q nz⟩⟩)
  refine k_within (N := 2) rfl (fun cw => n1 ?_) (fun cw => n0 ⟨_, rfl, vc_X6_lump ⟨fun _ => k_noPoints hM.1 hn (fun _ => n0 (k_inN (N := 36) rfl (fun _ => e1 (k_inN (N := 2) rfl (fun q => absurd q cw) (fun _ => n0 ⟨rfl, h⟩))) (fun q => absurd ck q))) (fun q => absurd cp q), fun q => absurd q nz⟩⟩)
  obtain ⟨P, hP, rfl⟩ := vp_ex cp (by omega)
  obtain ⟨j, hj, rfl⟩ := vp_ex ck (by omega)
  have hI0 := (hB.s0 (L := l)).1
  have hC0 : CV l (s0 hs l) := Nat.zero_add l
  -- the reference, at any time
  have mm : ∀ (y : Mem) (r : Int32), FS x y → (j < (fin kd rk wt wm hs n P g ro l).2.2.2.1 → r = (if w = 0 then nI ((fin kd rk wt wm hs n P g ro l).2.2.2.2 j).1 else nI ((fin kd rk wt wm hs n P g ro l).2.2.2.2 j).2)) → (¬ j < (fin kd rk wt wm hs n P g ro l).2.2.2.1 → r = -9) → CC 8 114 [vr 13 0, vi (nI P), vi (nI j), vi w] y fun v' x2 => v' = some (vi r) ∧ Inv x2 := by
    intro y r hf1 hr1 hr0
    have hM1 := hM.fs hf1
    refine vc_X6_lump ⟨fun _ => k_noPoints hM1.1 hn (fun _ => n0 (k_inN (N := 36) rfl (fun _ => e1 (k_inN (N := 2) rfl (fun _ => n1 ?_) (fun q => absurd cw q))) (fun q => absurd ck q))) (fun q => absurd cp q), fun q => ?_⟩
    · rw [hM1.2.1]
      refine k_runs hB.bd (by omega) hl (hM1.tm hn) hM1.2.2.1 hM1.2.2.2.1 hB.2.1 hB.2.2.1 (fun x2 hf2 hS2 => ?_)
      have hI := h.fs (hf1.tr (FS.ofM hf2))
      have hcv := CV_rn (kd := kd) (rk := rk) (wt := wt) (wm := wm) (n := n) (P := P) (g := g) hC0 (ro - g)
      unfold CV at hcv
      have hj31 : j < 2 ^ 31 := by omega
      have hc31 : (fin kd rk wt wm hs n P g ro l).2.2.2.1 < 2 ^ 31 := by
        show (rn kd rk wt wm n P g (ro - g) (s0 hs l)).2.2.2.1 < 2 ^ 31
        omega
      dsimp only [rN]
      rw [hS2.2.2.1, nI_ltI hj31 hc31, nI_clamp hj31]
      refine ⟨fun cc => ⟨fun cw0 => ⟨in8 hj (by omega), ?_, hI⟩, fun cw0 => ⟨in8 hj (by omega), ?_, hI⟩⟩, fun cc => ⟨by rw [hr0 cc], hI⟩⟩
      · rw [hr1 cc, if_neg cw0, (hS2.2.2.2.2 j hj cc).2]
      · rw [hr1 cc, if_pos cw0, (hS2.2.2.2.2 j hj cc).1]
    · rw [hM1.1, nI_z (by omega)] at q
      omega
  rw [hC.2.1]
  refine k_start hC.2.2.2.1 (hC.tv hn) (fun x1 hf1 hS1 => ?_)
  have hCx := hC.fs (FS.ofR hf1)
  refine k_roundsLeft hCx.2.2.1 hCx.2.2.2.1 hB.2.1 ?_
  have key : ∀ (r k : Nat) (y : Mem) (w6 w7 w8 : AV), k + r = ro - g → FR [4, 5] x y → (rn kd rk wt wm n P g k (s0 hs l)).2.2.2.1 ≤ j → SR y n (rn kd rk wt wm n P g k (s0 hs l)) ((g + k) * n) → AT 37 7 (fun v x1 => ∃ r, v = some (vi r) ∧ CC 8 114 [vr 13 0, vi (nI P), vi (nI j), vi w] x1 fun v' x2 => v' = some (vi r) ∧ Inv x2) 70 [vr 0 0, vi (nI P), vi (nI j), vi w, vi (nI (j - (rn kd rk wt wm n P g k (s0 hs l)).2.2.2.1)), vi (nI r), w6, w7, w8] y := by
    intro r
    induction r with
    | zero =>
      intro k y w6 w7 w8 hk hf hcj hS
      have e : k = ro - g := by omega
      subst e
      exact vcl_X5_lump_70 ⟨fun _ => ⟨_, rfl, mm y _ (FS.ofR hf) (fun q => absurd q (by show ¬ j < (rn kd rk wt wm n P g (ro - g) (s0 hs l)).2.2.2.1; omega)) (fun _ => rfl)⟩, fun q => absurd (by decide) q⟩
    | succ r ih =>
      intro k y w6 w7 w8 hk hf hcj hS
      refine vcl_X5_lump_70 ⟨fun q => absurd q (nI_nle (by omega) (by have := hB.2.2.1; omega)), fun _ => ?_⟩
      have hb : (g + k) * n ≤ 4 * 8 := Nat.mul_le_mul (by have := hB.2.2.1; omega) hn
      have hIk := IV_rn (kd := kd) (rk := rk) (wt := wt) (wm := wm) (P := P) (g := g) hB.wt9 hI0 k
      have inner : ∀ (r2 i : Nat) (z : Mem) (w7 w8 : AV), i + r2 = n → FR [4, 5] x z → (rd kd rk wt wm P ((g + k) * n) i (rn kd rk wt wm n P g k (s0 hs l))).2.2.2.1 ≤ j → SR z n (rd kd rk wt wm P ((g + k) * n) i (rn kd rk wt wm n P g k (s0 hs l))) ((g + k) * n + i) → AT 37 7 (fun v x1 => ∃ r, v = some (vi r) ∧ CC 8 114 [vr 13 0, vi (nI P), vi (nI j), vi w] x1 fun v' x2 => v' = some (vi r) ∧ Inv x2) 78 [vr 0 0, vi (nI P), vi (nI j), vi w, vi (nI (j - (rd kd rk wt wm P ((g + k) * n) i (rn kd rk wt wm n P g k (s0 hs l))).2.2.2.1)), vi (nI (r + 1)), vi (nI i), w7, w8] z := by
        intro r2
        induction r2 with
        | zero =>
          intro i z w7 w8 hi hfz hcz hSz
          have e : i = n := by omega
          subst e
          have hCz := hC.fs (FS.ofR hfz)
          refine vcl_X5_lump_78 ⟨fun _ => ?_, fun q => absurd (by rw [hCz.1]; exact nI_le (Nat.le_refl _) (by omega)) q⟩
          rw [pk_m1]
          refine ih (k + 1) z _ _ _ (by omega) hfz hcz ?_
          rw [show (g + (k + 1)) * i = (g + k) * i + i by rw [← Nat.add_assoc, Nat.add_mul, Nat.one_mul]]
          exact hSz
        | succ r2 ih2 =>
          intro i z w7 w8 hi hfz hcz hSz
          have hin : i < n := by omega
          have hCz := hC.fs (FS.ofR hfz)
          refine vcl_X5_lump_78 ⟨fun q => absurd (by rw [hCz.1] at q; exact q) (nI_ge hin (by omega)), fun _ => ?_⟩
          have hIi := IV_rd (kd := kd) (rk := rk) (wt := wt) (wm := wm) (P := P) (m0 := (g + k) * n) hB.wt9 hIk i (by omega)
          have hnx : rd kd rk wt wm P ((g + k) * n) (i + 1) (rn kd rk wt wm n P g k (s0 hs l)) = p1 kd rk wt wm P ((g + k) * n + i) i (rd kd rk wt wm P ((g + k) * n) i (rn kd rk wt wm n P g k (s0 hs l))) := rfl
          have hih := ih2 (i + 1)
          have hrdw := fun (hq : j < (rd kd rk wt wm P ((g + k) * n) (i + 1) (rn kd rk wt wm n P g k (s0 hs l))).2.2.2.1) => rd_w hq (n - (i + 1))
          rw [hnx] at hih hrdw
          generalize hz : rd kd rk wt wm P ((g + k) * n) i (rn kd rk wt wm n P g k (s0 hs l)) = zz at hcz hSz hIi hih hrdw ⊢
          refine k_pass (hCz.tv hn) hB.bd (by omega) hin hSz hIi hl (by omega) (fun x' hfx hSx => ?_)
          have htk := (tk_le (kd := kd) (rk := rk) (wt := wt) (wm := wm) (P := P) (t := i) (m := (g + k) * n + i) (h := zz.1) (l := zz.2.1)).1
          have hwi := hB.wt9 i hin
          have hc1 : (p1 kd rk wt wm P ((g + k) * n + i) i zz).2.2.2.1 = zz.2.2.2.1 + tk kd rk wt wm P i ((g + k) * n + i) zz.1 zz.2.1 := rfl
          have hw1 : (p1 kd rk wt wm P ((g + k) * n + i) i zz).2.2.2.2 j = (if zz.2.2.2.1 ≤ j ∧ j < zz.2.2.2.1 + tk kd rk wt wm P i ((g + k) * n + i) zz.1 zz.2.1 then (i, (g + k) * n + i) else zz.2.2.2.2 j) := rfl
          dsimp only [rI]
          rw [nI_leI (by omega) (by omega), hSz.2.2.1]
          have found : ¬ tk kd rk wt wm P i ((g + k) * n + i) zz.1 zz.2.1 ≤ j - zz.2.2.2.1 → j < (fin kd rk wt wm hs n P g ro l).2.2.2.1 ∧ (fin kd rk wt wm hs n P g ro l).2.2.2.2 j = (i, (g + k) * n + i) := by
            intro q
            obtain ⟨f1, f2⟩ := hrdw (by rw [hc1]; omega)
            rw [show i + 1 + (n - (i + 1)) = n by omega] at f1 f2
            obtain ⟨f3, f4⟩ := rn_w (kd := kd) (rk := rk) (wt := wt) (wm := wm) (n := n) (P := P) (g := g) (j := j) (k := k + 1) (s := s0 hs l) f1 (ro - g - (k + 1))
            rw [show k + 1 + (ro - g - (k + 1)) = ro - g by omega] at f3 f4
            refine ⟨f3, f4.trans (f2.trans ?_)⟩
            rw [hw1, if_pos (by omega)]
          refine ⟨fun q => ?_, fun q => ⟨fun cw0 => ⟨_, rfl, mm x' _ (FS.ofR (hfz.tr hfx)) (fun _ => ?_) (fun z => absurd (found q).1 z)⟩, fun cw0 => ⟨_, rfl, mm x' _ (FS.ofR (hfz.tr hfx)) (fun _ => ?_) (fun z => absurd (found q).1 z)⟩⟩⟩
          · rw [pk_sub q, nI_1]
            have h5 := hih x' (vi (nI ((g + k) * n + i))) (vi (nI (tk kd rk wt wm P i ((g + k) * n + i) zz.1 zz.2.1))) (by omega) (hfz.tr hfx) (by rw [hc1]; omega) hSx
            rw [hc1, show j - (zz.2.2.2.1 + tk kd rk wt wm P i ((g + k) * n + i) zz.1 zz.2.1) = j - zz.2.2.2.1 - tk kd rk wt wm P i ((g + k) * n + i) zz.1 zz.2.1 by omega] at h5
            exact h5
          · rw [if_neg cw0, (found q).2]
          · rw [if_pos cw0, (found q).2]
      exact inner n 0 y _ _ (by omega) hf hcj hS
  exact key (ro - g) 0 x1 _ _ _ (by omega) hf1 (Nat.zero_le j) hS1
end
