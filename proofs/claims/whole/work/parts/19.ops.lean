/-! calls: go, clear -/
def SM (n : Nat) (s : SS) : Nat := s.2.1 + fb_sm s.1 n
theorem SM_p1 {kd rk wt wm : Nat → Nat} {n P m t : Nat} {s : SS} (ht : t < n) : SM n (p1 kd rk wt wm P m t s) = SM n s := by
  have hb := tk_le (kd := kd) (rk := rk) (wt := wt) (wm := wm) (P := P) (t := t) (m := m) (h := s.1) (l := s.2.1)
  have h1 := fb_sm_upd s.1 (s.1 t + tk kd rk wt wm P t m s.1 s.2.1) ht
  have h2 : fb_sm (p1 kd rk wt wm P m t s).1 n + s.1 t = fb_sm s.1 n + (s.1 t + tk kd rk wt wm P t m s.1 s.2.1) := h1
  show s.2.1 - tk kd rk wt wm P t m s.1 s.2.1 + fb_sm (p1 kd rk wt wm P m t s).1 n = s.2.1 + fb_sm s.1 n
  omega
theorem SM_rd {kd rk wt wm : Nat → Nat} {n P m0 : Nat} {s : SS} : ∀ i, i ≤ n → SM n (rd kd rk wt wm P m0 i s) = SM n s
  | 0, _ => rfl
  | i + 1, hi => (SM_p1 (by omega)).trans (SM_rd i (by omega))
theorem rd_out {kd rk wt wm : Nat → Nat} {n P m0 u : Nat} {s : SS} (hu : n ≤ u) : ∀ i, i ≤ n → (rd kd rk wt wm P m0 i s).1 u = s.1 u
  | 0, _ => rfl
  | i + 1, hi => by
    show updN (rd kd rk wt wm P m0 i s).1 i _ u = _
    rw [updN_n (by omega)]
    exact rd_out hu i (by omega)
theorem IR.fm {x x' : Mem} {n rc : Nat} {rt rp rv : Nat → Nat} {ks js : List Nat} (h : IR x n rc rt rp rv) (f : FM ks js x x') (h9 : 9 ∉ 13 :: ks) (h10 : 10 ∉ 13 :: ks) (h11 : 11 ∉ 13 :: ks) (h12 : 12 ∉ 13 :: ks) (h26 : 26 ∉ 13 :: ks) (h27 : 27 ∉ 13 :: ks) (h28 : 28 ∉ 13 :: ks) (hj : 24 ∉ js) : IR x' n rc rt rp rv := h.fr (f.1 9 h9) (f.2 24 hj) (f.1 10 h10) (f.1 11 h11) (f.1 12 h12) (f.1 26 h26) (f.1 27 h27) (f.1 28 h28)
section
variable {d : Nat} {Q : Option AV → Mem → Prop} {x : Mem}
theorem k_settle {n l2 ro g : Nat} {kd rk wt wm hs h2 : Nat → Nat} {l : Nat} (hC : IC x n l ro g kd rk wt wm hs) (hn : n ≤ 8) (hh : ∀ t, t < n → x 5 0 t = nI (h2 t)) (hl : x 4 0 2 = nI l2) (ho : ∀ t, t < 8 → n ≤ t → h2 t = hs t)
    (hq : ∀ x', FR [6, 8] x x' → IC x' n l2 ro (g + 1) kd rk wt wm h2 → Q none x') : CC (d + 1) 18 [vr 6 0, vr 4 0] x Q := by
  have key : ∀ (r i : Nat) (z : Mem), i + r = n → FR [8] x z → (∀ t j, z 8 t j = if j = 4 ∧ t < i then nI (h2 t) else x 8 t j) → AT 18 d Q 2 [vr 6 0, vr 4 0, vi (nI i)] z := by
    intro r
    induction r with
    | zero =>
      intro i z hi hf hz
      have e : i = n := by omega
      subst e
      refine vcl_X0_settle_2 ⟨fun _ => ?_, fun q => absurd (by rw [hf 6 (by decide), hC.1]; exact nI_le (Nat.le_refl _) (by omega)) q⟩
      refine hq _ (((hf.sub (by decide)).up (by decide)).up (by decide)) ⟨?_, ?_, ?_, ?_, fun t ht => ?_⟩
      · show z 6 0 1 = _
        rw [hf 6 (by decide)]; exact hC.1
      · show z 4 0 2 = _
        rw [hf 4 (by decide)]; exact hl
      · show z 6 0 3 = _
        rw [hf 6 (by decide)]; exact hC.2.2.1
      · show z 6 0 4 + 1 = _
        rw [hf 6 (by decide), hC.2.2.2.1, nI_1]
      · obtain ⟨a, b, c, e, f, k⟩ := hC.2.2.2.2 t ht
        show z 7 0 t = _ ∧ z 8 t 0 = _ ∧ z 8 t 1 = _ ∧ z 8 t 2 = _ ∧ z 8 t 3 = _ ∧ z 8 t 4 = _
        rw [hf 7 (by decide), hz, hz, hz, hz, hz]
        refine ⟨a, b, c, e, f, ?_⟩
        by_cases q : t < i
        · rw [if_pos ⟨rfl, q⟩]
        · rw [if_neg (fun w => q w.2), k, ho t ht (by omega)]
    | succ r ih =>
      intro i z hi hf hz
      have hin : i < n := by omega
      have hi8 : i < 8 := by omega
      obtain ⟨a, b, c, e, f, k⟩ := hC.2.2.2.2 i hi8
      refine vcl_X0_settle_2 ⟨fun q => absurd (by rw [hf 6 (by decide), hC.1] at q; exact q) (nI_ge hin (by omega)), fun _ => ⟨in8 hi8 (by omega), ?_, in8 hi8 (by omega), ?_⟩⟩
      · rw [cl8 hi8, hf 7 (by decide), a, cl8 hi8]; exact hi8
      · rw [cl8 hi8, hf 7 (by decide), a, cl8 hi8, hf 5 (by decide), hh i hin, nI_1]
        refine ih (i + 1) _ (by omega) (hf.up (by decide)) (fun t j => ?_)
        rw [up_app, hz t j]
        by_cases q : t = i
        · subst q
          by_cases qj : j = 4
          · subst qj; rw [if_pos ⟨rfl, rfl, rfl⟩, if_pos ⟨rfl, by omega⟩]
          · rw [if_neg (fun w => qj w.2.2), if_neg (fun w => qj w.1), if_neg (fun w => qj w.1)]
        · rw [if_neg (fun w => q w.2.1)]
          by_cases qq : j = 4 ∧ t < i
          · rw [if_pos qq, if_pos ⟨qq.1, by omega⟩]
          · rw [if_neg qq, if_neg (fun w => qq ⟨w.1, by omega⟩)]
  exact vc_X0_settle (key n 0 x (by omega) FR.rf (fun t j => by rw [if_neg (fun w => absurd w.2 (Nat.not_lt_zero t))]))
theorem op_go {a : Int32} (h : Inv x) : OP 34 111 [vr 0 0, vi a] [vr 13 0, vi a] x := by
  obtain ⟨n, l, ro, g, kd, rk, wt, wm, hs, hC, hM, hB, ⟨rc, rt, rp, rv, hR⟩, hS, hT⟩ := id h
  have hn := hB.1
  have hp := pow8 hn
  have hl : l < 2 ^ 20 := by have := hB.2.2.2.2; omega
  have nz : 0 < n → ¬ x 13 0 1 = 0 := fun c => by rw [hM.1, nI_z (by omega)]; omega
  refine vc_X5_go (k_stands hC.1 hn (fun c => n1 ?_) (fun c => n0 ⟨_, rfl, vc_X6_go ⟨fun q => absurd (by rw [hM.1, c]; rfl) q, fun _ => ⟨rfl, h⟩⟩⟩))
  refine k_hasPoints hC.1 hn (fun cp => n1 ?_) (fun cp => n0 ⟨_, rfl, vc_X6_go ⟨fun _ => k_noPoints hM.1 hn (fun q => absurd q cp) (fun _ => e1 ⟨rfl, h⟩), fun q => absurd q (nz c)⟩⟩)
  refine k_roundsLeft hC.2.2.1 hC.2.2.2.1 hB.2.1 ?_
  dsimp only [rI]
  rw [nI_z (by have := hB.2.2.1; omega)]
  refine ⟨fun cr => ?_, fun cr => ⟨_, rfl, vc_X6_go ⟨fun _ => k_noPoints hM.1 hn (fun _ => e0 ⟨fun q => absurd (by rw [hM.2.2.1, hM.2.2.2.1]; congr 1; have := hB.2.1; omega) q, fun _ => ⟨rfl, h⟩⟩) (fun q => absurd cp q), fun q => absurd q (nz c)⟩⟩⟩
  obtain ⟨P, hP, rfl⟩ := vp_ex cp (by omega)
  have hgn : g * n ≤ 4 * 8 := Nat.mul_le_mul (by have := hB.2.2.1; have := hB.2.1; omega) hn
  have hI0 := (hB.s0 (L := l)).1
  have hW0 := (hB.s0 (L := l)).2
  rw [hC.2.1]
  refine k_start hC.2.2.2.1 (hC.tv hn) (fun x1 hf1 hS1 => ?_)
  have hC1 := hC.fs (FS.ofR hf1)
  refine k_goRound' hB.bd (by omega) hI0 hl (by omega) (hC1.tv hn) hS1 (fun x2 hf2 hS2 => ?_)
  have hf12 := hf1.tr hf2
  have hC2 := hC.fs (FS.ofR hf12)
  generalize hz : rd kd rk wt wm P (g * n) n (s0 hs l) = z at hS2
  have hIz : IV n l z := by rw [← hz]; exact IV_rd hB.wt9 hI0 n (Nat.le_refl n)
  have hWz : WV n wt z := by rw [← hz]; exact WV_rd hW0 n
  have hCV : CV l z := by rw [← hz]; exact CV_rd (show CV l (s0 hs l) from Nat.zero_add l) n
  have hSM : SM n z = l + fb_sm hs n := by rw [← hz]; exact SM_rd n (Nat.le_refl n)
  have hout : ∀ t, t < 8 → n ≤ t → z.1 t = hs t := fun t _ ht => by rw [← hz]; exact rd_out ht n (Nat.le_refl n)
  refine k_settle hC2 hn hS2.1 hS2.2.1 hout (fun x3 hf3 hC3 => ⟨_, rfl, ?_⟩)
  -- the reference
  have hM3 : IM x3 n l ro g kd rk wt wm hs := (hM.fs (FS.ofR hf12)).fr (by rw [hf3 13 (by decide)]) (by rw [hf3 13 (by decide)]) (by rw [hf3 13 (by decide)]) (by rw [hf3 13 (by decide)]) (hf3 14 (by decide)) (hf3 15 (by decide)) (hf3 16 (by decide)) (hf3 17 (by decide)) (hf3 18 (by decide))
  have hR3 : IR x3 n rc rt rp rv := hR.fr (by rw [hf3 9 (by decide), hf12 9 (by decide)]) (by rw [hf3 13 (by decide), hf12 13 (by decide)]) (by rw [hf3 10 (by decide), hf12 10 (by decide)]) (by rw [hf3 11 (by decide), hf12 11 (by decide)]) (by rw [hf3 12 (by decide), hf12 12 (by decide)]) (by rw [hf3 26 (by decide), hf12 26 (by decide)]) (by rw [hf3 27 (by decide), hf12 27 (by decide)]) (by rw [hf3 28 (by decide), hf12 28 (by decide)])
  have hS3 : ISh x3 := hS.fr (by rw [hf3 1 (by decide), hf12 1 (by decide)]) (by rw [hf3 2 (by decide), hf12 2 (by decide)]) (by rw [hf3 3 (by decide), hf12 3 (by decide)]) (by rw [hf3 29 (by decide), hf12 29 (by decide)]) (by rw [hf3 30 (by decide), hf12 30 (by decide)]) (by rw [hf3 31 (by decide), hf12 31 (by decide)])
  have hT3 : IT x3 := hT.fr (by rw [hf3 0 (by decide), hf12 0 (by decide)]) (by rw [hf3 13 (by decide), hf12 13 (by decide)]) (by rw [hf3 13 (by decide), hf12 13 (by decide)])
  refine vc_X6_go ⟨fun _ => k_noPoints hM3.1 hn (fun _ => e0 ⟨fun _ => ?_, fun q => ?_⟩) (fun q => absurd cp q), fun q => ?_⟩
  · rw [hM3.2.1]
    refine k_begins (hM3.tm hn) (fun y1 g1 r1 => ?_)
    have hMy := hM3.fs (FS.ofM g1)
    dsimp only [rN]
    rw [hMy.2.2.2.1]
    refine vc_X6_oneRound (k_oneRound hB.bd (by omega) hI0 (show CV l (s0 hs l) from Nat.zero_add l) hl (by have := hB.2.2.1; have := hB.2.1; omega) hn n 0 y1 _ _ _ _ (by omega) (hMy.tm hn) r1 (fun y2 g2 r2 => ?_))
    rw [hz] at r2
    have g12 := g1.tr g2
    have hM2 := hM3.fs (FS.ofM g12)
    have loop : ∀ (r i : Nat) (w : Mem), i + r = n → FM [18, 23, 24, 25] [2, 4, 18, 19, 20] x3 w → w 13 0 2 = nI z.2.1 → w 13 0 4 = nI (g + 1) → w 13 0 19 = nI z.2.2.2.1 → (∀ t, t < n → w 23 0 t = nI (z.1 t)) → (∀ t, t < 8 → w 18 0 t = if t < i then nI (z.1 t) else nI (hs t)) → AT 111 7 (fun v' x2' => v' = some (vi (x2 6 0 2 - x2 4 0 2)) ∧ Inv x2') 72 [vr 13 0, vi (nI P), vi (nI i)] w := by
      intro r
      induction r with
      | zero =>
        intro i w hi hf w2 w4 w19 w23 w18
        have e : i = n := by omega
        subst e
        refine vcl_X6_go_72 ⟨fun _ => ⟨?_, i, z.2.1, ro, g + 1, kd, rk, wt, wm, z.1, ?_, ?_, ⟨hn, by omega, hB.2.2.1, fun t ht => ?_, ?_⟩, ⟨rc, rt, rp, rv, hR3.fm hf (by decide) (by decide) (by decide) (by decide) (by decide) (by decide) (by decide) (by decide)⟩, hS3.fr (hf.1 1 (by decide)) (hf.1 2 (by decide)) (hf.1 3 (by decide)) (hf.1 29 (by decide)) (hf.1 30 (by decide)) (hf.1 31 (by decide)), hT3.fr (hf.1 0 (by decide)) (hf.2 32 (by decide)) (hf.2 0 (by decide))⟩, fun q => absurd (by rw [hf.2 1 (by decide), hM3.1]; exact nI_le (Nat.le_refl _) (by omega)) q⟩
        · rw [w19, hC2.2.1, hS2.2.1]
          unfold CV at hCV
          rw [pk_sub (by omega), show l - z.2.1 = z.2.2.2.1 by omega]
        · exact hC3.fr (hf.1 6 (by decide)) (hf.1 7 (by decide)) (hf.1 8 (by decide))
        · refine ⟨(hf.2 1 (by decide)).trans hM3.1, w2, (hf.2 3 (by decide)).trans hM3.2.2.1, w4, fun t ht => ?_⟩
          obtain ⟨b1, b2, b3, b4, b5⟩ := hM3.2.2.2.2 t ht
          rw [hf.1 14 (by decide), hf.1 15 (by decide), hf.1 16 (by decide), hf.1 17 (by decide), w18 t ht]
          refine ⟨b1, b2, b3, b4, ?_⟩
          by_cases q : t < i
          · rw [if_pos q]
          · rw [if_neg q, hout t ht (by omega)]
        · obtain ⟨b1, b2, b3, b4, b5⟩ := hB.2.2.2.1 t ht
          refine ⟨b1, b2, b3, b4, ?_⟩
          by_cases q : t < i
          · exact hWz t q
          · rw [hout t ht (by omega)]; exact b5
        · have := hB.2.2.2.2
          unfold SM at hSM
          omega
      | succ r ih =>
        intro i w hi hf w2 w4 w19 w23 w18
        have hin : i < n := by omega
        have hi8 : i < 8 := by omega
        refine vcl_X6_go_72 ⟨fun q => absurd (by rw [hf.2 1 (by decide), hM3.1] at q; exact q) (nI_ge hin (by omega)), fun _ => ⟨in8 hi8 (by omega), in8 hi8 (by omega), ?_⟩⟩
        rw [cl8 hi8, w23 i hin, nI_1]
        refine ih (i + 1) _ (by omega) (hf.upk (by decide) (by decide)) w2 w4 w19 (fun t ht => w23 t ht) (fun t ht => ?_)
        rw [up_app]
        by_cases q : t = i
        · subst q; rw [if_pos ⟨rfl, rfl, rfl⟩, if_pos (by omega)]
        · rw [if_neg (fun v => q v.2.2), w18 t ht]
          by_cases qq : t < i
          · rw [if_pos qq, if_pos (by omega)]
          · rw [if_neg qq, if_neg (by omega)]
    refine loop n 0 _ (by omega) ((((g12.sub (by decide) (by decide)) : FM [18, 23, 24, 25] [2, 4, 18, 19, 20] x3 y2).upj (by decide)).upj (by decide)) r2.2.1 ?_ r2.2.2.1 (fun t ht => r2.1 t ht) (fun t ht => ?_)
    · show y2 13 0 4 + 1 = _
      rw [hM2.2.2.2.1, nI_1]
    · show y2 18 0 t = _
      rw [if_neg (Nat.not_lt_zero t), (hM2.2.2.2.2 t ht).2.2.2.2]
  · rw [hM3.2.2.1, hM3.2.2.2.1, nI_eq (by have := hB.2.2.1; have := hB.2.1; omega) (by have := hB.2.2.1; omega)] at q
    omega
  · rw [hM3.1, nI_z (by omega)] at q
    omega
end
section
variable {d : Nat} {Q : Option AV → Mem → Prop} {x : Mem}
theorem k_giveBack {n l ro g : Nat} {kd rk wt wm hs : Nat → Nat} (hC : IC x n l ro g kd rk wt wm hs) (hn : n ≤ 8)
    (hq : ∀ x', FR [6, 8] x x' → IC x' n (l + fb_sm hs n) ro 0 kd rk wt wm (fun t => if t < n then 0 else hs t) → Q (some (vi (nI (fb_sm hs n)))) x') : CC (d + 1) 19 [vr 6 0] x Q := by
  have key : ∀ (r i : Nat) (z : Mem), i + r = n → FR [8] x z → (∀ t j, z 8 t j = if j = 4 ∧ t < i then 0 else x 8 t j) → AT 19 d Q 4 [vr 6 0, vi (nI (fb_sm hs i)), vi (nI i)] z := by
    intro r
    induction r with
    | zero =>
      intro i z hi hf hz
      have e : i = n := by omega
      subst e
      refine vcl_X0_giveBack_4 ⟨fun _ => ?_, fun q => absurd (by rw [hf 6 (by decide), hC.1]; exact nI_le (Nat.le_refl _) (by omega)) q⟩
      refine hq _ (((hf.sub (by decide)).up (by decide)).up (by decide)) ⟨?_, ?_, ?_, rfl, fun t ht => ?_⟩
      · show z 6 0 1 = _
        rw [hf 6 (by decide)]; exact hC.1
      · show z 6 0 2 + _ = _
        rw [hf 6 (by decide), hC.2.1, nI_add]
      · show z 6 0 3 = _
        rw [hf 6 (by decide)]; exact hC.2.2.1
      · obtain ⟨a, b, c, e, f, k⟩ := hC.2.2.2.2 t ht
        show z 7 0 t = _ ∧ z 8 t 0 = _ ∧ z 8 t 1 = _ ∧ z 8 t 2 = _ ∧ z 8 t 3 = _ ∧ z 8 t 4 = nI (if t < i then 0 else hs t)
        rw [hf 7 (by decide), hz, hz, hz, hz, hz]
        refine ⟨a, b, c, e, f, ?_⟩
        by_cases q : t < i
        · rw [if_pos ⟨rfl, q⟩, if_pos q]; rfl
        · rw [if_neg (fun w => q w.2), k, if_neg q]
    | succ r ih =>
      intro i z hi hf hz
      have hin : i < n := by omega
      have hi8 : i < 8 := by omega
      obtain ⟨a, b, c, e, f, k⟩ := hC.2.2.2.2 i hi8
      have e7 : (z 7 0 (nI i).toNatClampNeg).toNatClampNeg = i := by rw [cl8 hi8, hf 7 (by decide), a, cl8 hi8]
      refine vcl_X0_giveBack_4 ⟨fun q => absurd (by rw [hf 6 (by decide), hC.1] at q; exact q) (nI_ge hin (by omega)), fun _ => ⟨in8 hi8 (by omega), ?_, in8 hi8 (by omega), ?_⟩⟩
      · rw [e7]; exact hi8
      · rw [e7]
        refine ⟨hi8, ?_⟩
        rw [hz, if_neg (fun w => absurd w.2 (Nat.lt_irrefl i)), k, nI_1, nI_add, ← fb_sm_succ]
        refine ih (i + 1) _ (by omega) (hf.up (by decide)) (fun t j => ?_)
        rw [up_app, hz t j]
        by_cases q : t = i
        · subst q
          by_cases qj : j = 4
          · subst qj; rw [if_pos ⟨rfl, rfl, rfl⟩, if_pos ⟨rfl, by omega⟩]
          · rw [if_neg (fun w => qj w.2.2), if_neg (fun w => qj w.1), if_neg (fun w => qj w.1)]
        · rw [if_neg (fun w => q w.2.1)]
          by_cases qq : j = 4 ∧ t < i
          · rw [if_pos qq, if_pos ⟨qq.1, by omega⟩]
          · rw [if_neg qq, if_neg (fun w => qq ⟨w.1, by omega⟩)]
  exact vc_X0_giveBack (key n 0 x (by omega) FR.rf (fun t j => by rw [if_neg (fun w => absurd w.2 (Nat.not_lt_zero t))]))
theorem op_clear (h : Inv x) : OP 35 112 [vr 0 0] [vr 13 0] x := by
  obtain ⟨n, l, ro, g, kd, rk, wt, wm, hs, hC, hM, hB, ⟨rc, rt, rp, rv, hR⟩, hS, hT⟩ := id h
  have hn := hB.1
  refine vc_X5_clear (k_stands hC.1 hn (fun c => n1 ?_) (fun c => n0 ⟨_, rfl, vc_X6_clear ⟨fun q => absurd (by rw [hM.1, c]; rfl) q, fun _ => ⟨rfl, h⟩⟩⟩))
  refine k_giveBack hC hn (fun x1 f1 hC1 => ⟨_, rfl, ?_⟩)
  have hz0 : fb_sm (fun t => if t < n then 0 else hs t) n = 0 := by
    rw [fb_sm_cong (g := fun _ => 0) (fun k hk => if_pos hk), fb_sm_const, Nat.mul_zero]
  have hM1 : IM x1 n l ro g kd rk wt wm hs := hM.fr (by rw [f1 13 (by decide)]) (by rw [f1 13 (by decide)]) (by rw [f1 13 (by decide)]) (by rw [f1 13 (by decide)]) (f1 14 (by decide)) (f1 15 (by decide)) (f1 16 (by decide)) (f1 17 (by decide)) (f1 18 (by decide))
  have key : ∀ (r i : Nat) (z : Mem), i + r = n → FR [18] x1 z → (∀ t, z 18 0 t = if t < i then 0 else x1 18 0 t) → AT 112 7 (fun v' x2 => v' = some (vi (nI (fb_sm hs n))) ∧ Inv x2) 14 [vr 13 0, vi (nI (fb_sm hs i)), vi (nI i)] z := by
    intro r
    induction r with
    | zero =>
      intro i z hi hf hz
      have e : i = n := by omega
      subst e
      have f2 : FR [6, 8, 18] x z := (f1.sub (by decide)).tr (hf.sub (by decide))
      refine vcl_X6_clear_14 ⟨fun _ => ⟨rfl, i, l + fb_sm hs i, ro, 0, kd, rk, wt, wm, fun t => if t < i then 0 else hs t, hC1.fr (hf 6 (by decide)) (hf 7 (by decide)) (hf 8 (by decide)), ⟨?_, ?_, ?_, rfl, fun t ht => ?_⟩, ⟨hn, Nat.zero_le _, hB.2.2.1, fun t ht => ?_, ?_⟩, ⟨rc, rt, rp, rv, ?_⟩, ?_, ?_⟩, fun q => absurd (by rw [hf 13 (by decide), hM1.1]; exact nI_le (Nat.le_refl _) (by omega)) q⟩
      · show z 13 0 1 = _
        rw [hf 13 (by decide)]; exact hM1.1
      · show z 13 0 2 + _ = _
        rw [hf 13 (by decide), hM1.2.1, nI_add]
      · show z 13 0 3 = _
        rw [hf 13 (by decide)]; exact hM1.2.2.1
      · obtain ⟨a, b, c, e, f⟩ := hM1.2.2.2.2 t ht
        show z 14 0 t = _ ∧ z 15 0 t = _ ∧ z 16 0 t = _ ∧ z 17 0 t = _ ∧ z 18 0 t = nI (if t < i then 0 else hs t)
        rw [hf 14 (by decide), hf 15 (by decide), hf 16 (by decide), hf 17 (by decide), hz]
        refine ⟨a, b, c, e, ?_⟩
        by_cases q : t < i
        · rw [if_pos q, if_pos q]; rfl
        · rw [if_neg q, f, if_neg q]
      · obtain ⟨b0, b1, b2, b3, b4⟩ := hB.2.2.2.1 t ht
        refine ⟨b0, b1, b2, b3, ?_⟩
        show (if t < i then 0 else hs t) ≤ _
        by_cases q : t < i
        · rw [if_pos q]; omega
        · rw [if_neg q]; exact b4
      · rw [hz0]
        have := hB.2.2.2.2
        omega
      · exact hR.fr (f2 9 (by decide)) (by show z 13 0 24 = _; rw [f2 13 (by decide)]) (f2 10 (by decide)) (f2 11 (by decide)) (f2 12 (by decide)) (f2 26 (by decide)) (f2 27 (by decide)) (f2 28 (by decide))
      · exact hS.fr (f2 1 (by decide)) (f2 2 (by decide)) (f2 3 (by decide)) (f2 29 (by decide)) (f2 30 (by decide)) (f2 31 (by decide))
      · exact hT.fr (f2 0 (by decide)) (by show z 13 0 32 = _; rw [f2 13 (by decide)]) (by show z 13 0 0 = _; rw [f2 13 (by decide)])
    | succ r ih =>
      intro i z hi hf hz
      have hin : i < n := by omega
      have hi8 : i < 8 := by omega
      obtain ⟨a, b, c, e, f⟩ := hM1.2.2.2.2 i hi8
      refine vcl_X6_clear_14 ⟨fun q => absurd (by rw [hf 13 (by decide), hM1.1] at q; exact q) (nI_ge hin (by omega)), fun _ => ⟨in8 hi8 (by omega), in8 hi8 (by omega), ?_⟩⟩
      rw [cl8 hi8, hz, if_neg (Nat.lt_irrefl i), f, nI_1, nI_add, ← fb_sm_succ]
      refine ih (i + 1) _ (by omega) (hf.up (by decide)) (fun t => ?_)
      rw [up_app, hz t]
      by_cases q : t = i
      · subst q; rw [if_pos ⟨rfl, rfl, rfl⟩, if_pos (by omega)]
      · rw [if_neg (fun v => q v.2.2)]
        by_cases qq : t < i
        · rw [if_pos qq, if_pos (by omega)]
        · rw [if_neg qq, if_neg (by omega)]
  refine vc_X6_clear ⟨fun _ => key n 0 x1 (by omega) FR.rf (fun t => by rw [if_neg (Nat.not_lt_zero t)]), fun q => ?_⟩
  rw [hM1.1, nI_z (by omega)] at q
  omega
end
