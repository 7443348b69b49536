/-! calls: plan -/
def pl (kd rk wt wm : Nat → Nat) (n g : Nat) (f : Nat → Nat) : Nat → SS → SS
  | 0, s => s
  | k + 1, s => rd kd rk wt wm (f k) ((g + k) * n) n (pl kd rk wt wm n g f k s)
theorem IV_pl {kd rk wt wm : Nat → Nat} {n L g : Nat} {f : Nat → Nat} {s : SS} (hw : ∀ t, t < n → wt t ≤ 9) (h : IV n L s) : ∀ k, IV n L (pl kd rk wt wm n g f k s)
  | 0 => h
  | k + 1 => IV_rd hw (IV_pl hw h k) n (Nat.le_refl n)
theorem WV_pl {kd rk wt wm : Nat → Nat} {n g : Nat} {f : Nat → Nat} {s : SS} (h : WV n wt s) : ∀ k, WV n wt (pl kd rk wt wm n g f k s)
  | 0 => h
  | k + 1 => WV_rd (WV_pl h k) n
theorem CV_pl {kd rk wt wm : Nat → Nat} {n L g : Nat} {f : Nat → Nat} {s : SS} (h : CV L s) : ∀ k, CV L (pl kd rk wt wm n g f k s)
  | 0 => h
  | k + 1 => CV_rd (CV_pl h k) n
theorem not_all {p : Nat → Prop} {m : Nat} (h : ¬ ∀ j, j < m → p j) : ∃ j, j < m ∧ ¬ p j := by
  apply Classical.byContradiction
  intro w
  exact h (fun j hj => Classical.byContradiction (fun z => w ⟨j, hj, z⟩))
section
variable {d : Nat} {Q : Option AV → Mem → Prop} {x : Mem}
theorem k_areAll {k i m n : Nat} (hn : x 6 0 1 = nI n) (hn8 : n ≤ 8) (hi : i + m ≤ 60) (h1 : (∀ j, j < m → vp_in (x 3 k (i + j)) (2 ^ n)) → Q (some (vi 1)) x) (h0 : ¬ (∀ j, j < m → vp_in (x 3 k (i + j)) (2 ^ n)) → Q (some (vi 0)) x) : CC (d + 3) 64 [vr 0 0, vr 2 k, vi (nI i), vi (nI m)] x Q := by
  have key : ∀ (r j : Nat), j + r = m → (∀ q, q < j → vp_in (x 3 k (i + q)) (2 ^ n)) → AT 64 (d + 2) Q 3 [vr 0 0, vr 2 k, vi (nI i), vi (nI m), vi (nI (i + j))] x := by
    intro r
    induction r with
    | zero =>
      intro j hj hall
      have e : j = m := by omega
      subst e
      refine vcl_X5_areAllPoints_3 ⟨fun _ => ⟨z1, h1 hall⟩, fun q => absurd (by rw [nI_add]; exact nI_le (Nat.le_refl _) (by omega)) q⟩
    | succ r ih =>
      intro j hj hall
      refine vcl_X5_areAllPoints_3 ⟨fun q => absurd (by rw [nI_add] at q; exact q) (nI_ge (by omega) (by omega)), fun _ => ⟨in8 (by omega) (by omega), ?_⟩⟩
      rw [cl60 (by omega), nI_1]
      refine k_hasPoints hn hn8 (fun c => n1 (ih (j + 1) (by omega) (fun q hq => ?_))) (fun c => n0 ⟨z0, h0 (fun w => c (w j (by omega)))⟩)
      by_cases e : q = j
      · subst e; exact c
      · exact hall q (by omega)
  exact vc_X5_areAllPoints (key m 0 (by omega) (fun q hq => absurd hq (Nat.not_lt_zero q)))
theorem k_barred {k : Nat} {a b c : Int32} (hk : k < 4) (hS : SL x k ∨ ∃ la ln, SH x k la ln)
    (f1 : SL x k → Q (some (vi (-11))) (up x 13 0 0 1)) (f2 : ∀ la ln, SH x k la ln → ¬ nI la = a → Q (some (vi (-12))) (up x 13 0 0 2))
    (f4 : ∀ la ln, SH x k la ln → nI la = a → c.toInt < 0 → Q (some (vi (-14))) (up x 13 0 0 4)) (f3 : ∀ la ln, SH x k la ln → nI la = a → 0 ≤ c.toInt → ¬ RB b c ln → Q (some (vi (-13))) (up x 13 0 0 3))
    (f0 : ∀ la ln, SH x k la ln → nI la = a → 0 ≤ c.toInt → RB b c ln → Q (some (vi 0)) x) : CC (d + 2) 96 [vr 13 0, vi (nI k), vi a, vi b, vl (Int32.toInt64 c)] x Q := by
  have ik : vp_in (nI k) 4 := in8 hk (by omega)
  refine vc_X6_cellsBarred ?_
  rw [cl60 (by omega)]
  rcases hS with s | ⟨la, ln, s⟩
  · have e := s.2.2
    rw [e]
    exact ⟨ik, fun _ => ⟨ik, fun q => absurd q (by decide), fun _ => k_failed (f1 s)⟩, fun q => absurd (by decide) q⟩
  · have hs := s
    obtain ⟨s0, s1, s2, s3, s4, s5⟩ := s
    have nn : ¬ nI ln < 0 := nI_pos (by omega)
    have pp : (0 : Int32) ≤ nI ln := (nI_leI (a := 0) (by omega) (by omega)).mpr (Nat.zero_le _)
    rw [s5, s3]
    refine ⟨ik, fun q => absurd q nn, fun _ => ⟨ik, fun ea => ⟨ik, fun _ => ⟨fun c0 => ⟨ik, ?_⟩, fun c0 => k_failed (f4 la ln hs ea ?_)⟩, fun q => absurd pp q⟩, fun ea => k_failed (f2 la ln hs ea)⟩⟩
    · rw [lg_cmp_ge, Int64.le_iff_toInt_le, Int32.toInt_toInt64, show (lN 0).toInt = 0 from rfl] at c0
      exact k_isBeyond s1 (fun r => ⟨fun q => absurd q ne10, fun _ => k_failed (f3 la ln hs ea c0 r)⟩) (fun r => ⟨fun _ => f0 la ln hs ea c0 r, fun q => absurd rfl q⟩)
    · rw [lg_cmp_ge, Int64.le_iff_toInt_le, Int32.toInt_toInt64, show (lN 0).toInt = 0 from rfl] at c0
      omega
theorem op_plan {a b c e f : Int32} (h : Inv x) : OP 38 115 [vr 0 0, vi a, vi b, vi c, vi e, vi f] [vr 13 0, vi a, vi b, vi c, vi e, vi f] x := by
  obtain ⟨n, l, ro, g, kd, rk, wt, wm, hs, hC, hM, hB, ⟨rc, rt, rp, rv, hR⟩, hS, hT⟩ := id h
  have hn := hB.1
  have hp := pow8 hn
  have hl : l < 2 ^ 20 := by have := hB.2.2.2.2; omega
  have h0 := h.id.u0 (v := 0)
  have hS0 : ISh (up x 0 0 5 0) := hS.fr rfl rfl rfl rfl rfl rfl
  have hC0 : IC (up x 0 0 5 0) n l ro g kd rk wt wm hs := hC.fr rfl rfl rfl
  have hM0 : IM (up x 0 0 5 0) n l ro g kd rk wt wm hs := hM.fr rfl rfl rfl rfl rfl rfl rfl rfl rfl
  have h01 : Inv (up (up x 0 0 5 0) 13 0 0 0) := h0.u13.inv rfl
  have hf : ∀ v, Inv (up (up (up x 0 0 5 0) 0 0 5 v) 13 0 0 v) := fun v => (h0.u0).u13.inv rfl
  refine vc_X5_plan (k_isSheet (fun ca => n1 (k_isLane (fun cb => e1 (k_within (N := 5) rfl (fun cn => e1 (k_isRideQ (fun cq => n1 (k_stands hC0.1 hn (fun cz => n1 ?_) (fun cz => n0 ⟨_, rfl, ?_⟩))) (fun cq1 cq2 => n0 ⟨_, rfl, ?_⟩))) (fun cn => e0 ⟨_, rfl, ?_⟩))) (fun cb => e0 ⟨_, rfl, ?_⟩))) (fun ca => n0 ⟨_, rfl, ?_⟩))
  · have cq' : ∀ z1 : ¬ vp_in f 4, ¬ vp_in (f - 10) 8 → False := fun z1 z2 => by rcases cq with z | z; exact z1 z; exact z2 z
    obtain ⟨k, hk, rfl⟩ := vp_ex ca (by omega)
    obtain ⟨m, hm, rfl⟩ := vp_ex cn (by omega)
    have em : (nI m).toInt = m := nIi (by omega)
    rw [sh_e hS0 hk]
    refine ⟨in8 hk (by omega), hk, ?_⟩
    have nz : ∀ v, ¬ (up (up x 0 0 5 0) 0 0 5 v) 13 0 1 = 0 := fun v => by
      rw [show (up (up x 0 0 5 0) 0 0 5 v) 13 0 1 = nI n from hM.1, nI_z (by omega)]; omega
    have hor : ∀ v, SL (up (up x 0 0 5 0) 0 0 5 v) k ∨ ∃ la ln, SH (up (up x 0 0 5 0) 0 0 5 v) k la ln := fun v => hS0.or hk
    refine k_faultAs (fun z1 => ⟨fun _ => vcl_X5_plan_89 ⟨fun q => absurd q (by decide), fun _ => k_comeTo ⟨_, rfl, ?_⟩⟩, fun q => absurd q (by decide)⟩) (fun z1 z2 => ⟨fun _ => vcl_X5_plan_89 ⟨fun q => absurd q (by decide), fun _ => k_comeTo ⟨_, rfl, ?_⟩⟩, fun q => absurd q (by decide)⟩) (fun z1 z2 => ⟨fun q => absurd rfl q, fun _ => ?_⟩)
    · refine vc_X6_plan (k_noSheet (fun _ => e0 (k_inN (N := 3) rfl (fun _ => e1 (k_inN (N := 5) rfl (fun _ => e1 (k_isAsked (fun _ => n1 ⟨fun _ => k_barred hk (hor 1) (fun _ => ⟨fun q => absurd q (by decide), fun _ => ⟨rfl, hf _⟩⟩) (fun la ln s => ?_) (fun la ln s => ?_) (fun la ln s => ?_) (fun la ln s => ?_), fun q => absurd q (nz 1)⟩) (fun z1 z2 => (cq' z1 z2).elim))) (fun q => absurd cn q))) (fun q => absurd cb q))) (fun q => absurd ca q))
      all_goals exact absurd (s.2.2.1.symm.trans z1) (nIm1 (by have := s.1; omega))
    · refine vc_X6_plan (k_noSheet (fun _ => e0 (k_inN (N := 3) rfl (fun _ => e1 (k_inN (N := 5) rfl (fun _ => e1 (k_isAsked (fun _ => n1 ⟨fun _ => k_barred hk (hor 2) (fun s => absurd s.1 z1) (fun la ln s _ => ⟨fun q => absurd q (by decide), fun _ => ⟨rfl, hf _⟩⟩) (fun la ln s q => absurd (s.2.2.1.trans q) z2) (fun la ln s q => absurd (s.2.2.1.trans q) z2) (fun la ln s q => absurd (s.2.2.1.trans q) z2), fun q => absurd q (nz 2)⟩) (fun z1 z2 => (cq' z1 z2).elim))) (fun q => absurd cn q))) (fun q => absurd cb q))) (fun q => absurd ca q))
    · rcases hS0.or hk with s | ⟨la, ln, s⟩
      · exact absurd s.1 z1
      have hs' := s
      obtain ⟨sA, s1, s2, s3, s4, s5⟩ := s
      have ea : nI la = b := s2.symm.trans z2
      -- what is the same of all such sheets
      have un : ∀ la' ln', SH (up x 0 0 5 0) k la' ln' → ln' = ln := fun la' ln' s' => (nI_eq (by have := s'.2.1; omega) (by omega)).mp (s'.2.2.2.2.1.symm.trans s4)
      refine k_reaches s4 s1 (fun r => n1 ?_) (fun r => n0 (vcl_X5_plan_89 ⟨fun q => absurd q (by decide), fun _ => k_comeTo ⟨_, rfl, ?_⟩⟩))
      · obtain ⟨i, m', him, rfl, em'⟩ := RB_ex s1 r
        have emm : m = m' := (nI_eq (by omega) (by omega)).mp em'
        subst emm
        -- the reference, up to the points
        have mm : ∀ (y : Mem) (R : Option AV → Mem → Prop), FR [4, 5] (up x 0 0 5 0) y → AT 115 7 R 90 [vr 13 0, vi (nI k), vi b, vi (nI i), vi (nI m), vi f, vi 0, vi 0] y → CC 8 115 [vr 13 0, vi (nI k), vi b, vi (nI i), vi (nI m), vi f] y R := fun y R fy hat => by
          have hsy : SH y k la ln := by
            unfold SH
            rw [fy 2 (by decide), fy 29 (by decide), fy 30 (by decide)]; exact hs'
          refine vc_X6_plan (k_noSheet (fun _ => e0 (k_inN (N := 3) rfl (fun _ => e1 (k_inN (N := 5) rfl (fun _ => e1 (k_isAsked (fun _ => n1 ⟨fun _ => k_barred hk (Or.inr ⟨la, ln, hsy⟩) (fun s => absurd (hsy.2.2.1.symm.trans s.1) (nIm1 (by omega))) (fun la' ln' s q => absurd (s.2.2.1.symm.trans (hsy.2.2.1.trans ea)) q) (fun la' ln' s q q2 => absurd q2 (by omega)) (fun la' ln' s q q2 q3 => absurd r ?_) (fun la' ln' s q q2 q3 => ⟨fun _ => hat, fun q4 => absurd (by decide) q4⟩), fun q => ?_⟩) (fun z1 z2 => (cq' z1 z2).elim))) (fun q => absurd cn q))) (fun q => absurd cb q))) (fun q => absurd ca q))
          · have e2 : ln' = ln := (nI_eq (by have := s.2.1; omega) (by omega)).mp (s.2.2.2.2.1.symm.trans hsy.2.2.2.2.1)
            rw [← e2]; exact q3
          · rw [fy 13 (by decide), show up x 0 0 5 0 13 0 1 = nI n from hM.1, nI_z (by omega)] at q
            omega
        have cells : ∀ j, j < m → (up x 0 0 5 0) 31 0 (60 * k + i + j) = (up x 0 0 5 0) 3 k (i + j) := fun j hj => by
          rw [(hS0 k hk).2.2 (i + j) (by omega), Nat.add_assoc]
        refine vcl_X5_plan_89 ⟨fun _ => k_areAll hC0.1 hn (by omega) (fun hall => n1 ?_) (fun hall => n0 ⟨_, rfl, ?_⟩), fun q => absurd rfl q⟩
        · -- all are points
          have loop1 : ∀ (R : Option AV → Mem → Prop) (y : Mem), FR [4, 5] (up x 0 0 5 0) y → AT 115 7 R 90 [vr 13 0, vi (nI k), vi b, vi (nI i), vi (nI m), vi f, vi 0, vi (nI m)] y → AT 115 7 R 90 [vr 13 0, vi (nI k), vi b, vi (nI i), vi (nI m), vi f, vi 0, vi 0] y := by
            intro R y fy hat
            have hMy : IM y n l ro g kd rk wt wm hs := hM0.fs (FS.ofR fy)
            have key : ∀ (r j : Nat), j + r = m → AT 115 7 R 90 [vr 13 0, vi (nI k), vi b, vi (nI i), vi (nI m), vi f, vi 0, vi (nI j)] y := by
              intro r
              induction r with
              | zero =>
                intro j hj
                have e : j = m := by omega
                rw [e]; exact hat
              | succ r ih =>
                intro j hj
                refine vcl_X6_plan_90 ⟨fun q => absurd q (nI_ge (by omega) (by omega)), fun _ => ?_⟩
                rw [at60b, cl60 (by omega), fy 31 (by decide), cells j (by omega), nI_1]
                refine ⟨in8 (by omega) (by omega), k_noPoints hMy.1 hn (fun _ => e0 (ih (j + 1) (by omega))) (fun q => absurd (hall j (by omega)) q)⟩
            exact key m 0 (by omega)
          refine k_roundsLeft hC0.2.2.1 hC0.2.2.2.1 hB.2.1 ?_
          dsimp only [rI]
          have hro4 := hB.2.2.1
          have hgr := hB.2.1
          rw [nI_leI (by omega) (by omega)]
          refine ⟨fun cm => ?_, fun cm => ⟨_, rfl, ?_⟩⟩
          · -- the rounds
            have pex : ∃ P : Nat → Nat, ∀ j, j < m → P j < 2 ^ n ∧ (up x 0 0 5 0) 3 k (i + j) = nI (P j) := ⟨fun j => ((up x 0 0 5 0) 3 k (i + j)).toNatClampNeg, fun j hj => by
              obtain ⟨q, hq, e⟩ := vp_ex (hall j hj) (by omega)
              show ((up x 0 0 5 0) 3 k (i + j)).toNatClampNeg < _ ∧ _ = nI ((up x 0 0 5 0) 3 k (i + j)).toNatClampNeg
              rw [e, cl60 (by omega)]
              exact ⟨hq, rfl⟩⟩
            obtain ⟨P, hP⟩ := pex
            have hI0 := (hB.s0 (L := l)).1
            have hW0 := (hB.s0 (L := l)).2
            have mres : ∀ (y : Mem), FR [4, 5] (up x 0 0 5 0) y → CC 8 115 [vr 13 0, vi (nI k), vi b, vi (nI i), vi (nI m), vi f] y (fun v' x2 => v' = some (vi (toldF n wt hs (pl kd rk wt wm n g P m (s0 hs l)) f)) ∧ Inv x2) := by
              intro y fy
              have hMy : IM y n l ro g kd rk wt wm hs := hM0.fs (FS.ofR fy)
              refine mm y _ fy (loop1 _ y fy (vcl_X6_plan_90 ⟨fun _ => ⟨fun _ => ?_, fun q => ?_⟩, fun q => absurd (nI_le (Nat.le_refl _) (by omega)) q⟩))
              · rw [hMy.2.1]
                refine k_begins (hMy.tm hn) (fun y1 g1 r1 => ?_)
                have key : ∀ (r j : Nat) (z : Mem), j + r = m → FM KS JS y z → MR z n (pl kd rk wt wm n g P j (s0 hs l)) → AT 115 7 (fun v' x2 => v' = some (vi (toldF n wt hs (pl kd rk wt wm n g P m (s0 hs l)) f)) ∧ Inv x2) 163 [vr 13 0, vi (nI k), vi b, vi (nI i), vi (nI m), vi f, vi 0, vi (nI j)] z := by
                  intro r
                  induction r with
                  | zero =>
                    intro j z hj fz rz
                    have e : j = m := by omega
                    subst e
                    have hMz := hMy.fs (FS.ofM fz)
                    refine vcl_X6_plan_163 ⟨fun _ => k_toldThen hB.bd (hMz.tm hn) rz (WV_pl hW0 j) (k_refused ⟨rfl, ?_⟩), fun q => absurd (nI_le (Nat.le_refl _) (by omega)) q⟩
                    refine (ID.u13 ((h0.fs (FS.ofR fy)).fs (FS.ofM fz))).inv ?_
                    show z 0 0 5 = 0
                    rw [fz.1 0 (by decide), fy 0 (by decide)]; rfl
                  | succ r ih =>
                    intro j z hj fz rz
                    have hMz := hMy.fs (FS.ofM fz)
                    refine vcl_X6_plan_163 ⟨fun q => absurd q (nI_ge (by omega) (by omega)), fun _ => ?_⟩
                    rw [at60b, cl60 (by omega), fz.1 31 (by decide), fy 31 (by decide), cells j (by omega), (hP j (by omega)).2, nI_1, hMz.2.2.2.1, nI_add]
                    refine ⟨in8 (by omega) (by omega), vc_X6_oneRound (k_oneRound hB.bd (by have := (hP j (by omega)).1; omega) (IV_pl hB.wt9 hI0 j) (CV_pl (show CV l (s0 hs l) from Nat.zero_add l) j) hl (by omega) hn n 0 z _ _ _ _ (by omega) (hMz.tm hn) rz (fun z2 g2 r2 => ?_))⟩
                    exact ih (j + 1) z2 (by omega) (fz.tr g2) r2
                exact key m 0 y1 (by omega) g1 r1
              · rw [hMy.2.2.1, hMy.2.2.2.1, pk_sub hgr, nI_leI (by omega) (by omega)] at q
                omega
            rw [hC0.2.1]
            refine k_start hC0.2.2.2.1 (hC0.tv hn) (fun x1 f1 r1 => ?_)
            have key : ∀ (r j : Nat) (z : Mem), j + r = m → FR [4, 5] (up x 0 0 5 0) z → SR z n (pl kd rk wt wm n g P j (s0 hs l)) ((g + j) * n) → AT 38 7 (fun v x1 => ∃ r, v = some (vi r) ∧ CC 8 115 [vr 13 0, vi (nI k), vi b, vi (nI i), vi (nI m), vi f] x1 fun v' x2 => v' = some (vi r) ∧ Inv x2) 148 [vr 0 0, vi (nI k), vi b, vi (nI i), vi (nI m), vi f, vr 2 k, vi 0, vi (nI j)] z := by
              intro r
              induction r with
              | zero =>
                intro j z hj fz rz
                have e : j = m := by omega
                subst e
                have hCz := hC0.fs (FS.ofR fz)
                exact vcl_X5_plan_148 ⟨fun _ => k_ofRide hCz.1 hB.bd (hCz.tv hn) rz (IV_pl hB.wt9 hI0 j).1 ⟨_, rfl, mres z fz⟩, fun q => absurd (nI_le (Nat.le_refl _) (by omega)) q⟩
              | succ r ih =>
                intro j z hj fz rz
                have hCz := hC0.fs (FS.ofR fz)
                refine vcl_X5_plan_148 ⟨fun q => absurd q (nI_ge (by omega) (by omega)), fun _ => ?_⟩
                rw [nI_add, cl60 (by omega), fz 3 (by decide), (hP j (by omega)).2, nI_1]
                have hgn : (g + j) * n ≤ 8 * 8 := Nat.mul_le_mul (by omega) hn
                refine ⟨in8 (by omega) (by omega), k_goRound' (m0 := (g + j) * n) hB.bd (by have := (hP j (by omega)).1; omega) (IV_pl hB.wt9 hI0 j) hl (by omega) (hCz.tv hn) rz (fun z2 f2 r2 => ?_)⟩
                refine ih (j + 1) z2 (by omega) (fz.tr f2) ?_
                rw [show (g + (j + 1)) * n = (g + j) * n + n by rw [← Nat.add_assoc, Nat.succ_mul]]
                exact r2
            exact key m 0 x1 (by omega) f1 r1
          · refine mm _ _ FR.rf (loop1 _ _ FR.rf (vcl_X6_plan_90 ⟨fun _ => ⟨fun q => ?_, fun _ => k_refused ⟨rfl, h01⟩⟩, fun q => absurd (nI_le (Nat.le_refl _) (by omega)) q⟩))
            rw [hM0.2.2.1, hM0.2.2.2.1, pk_sub hgr, nI_leI (by omega) (by omega)] at q
            omega
        · -- one is none
          obtain ⟨j0, hj0, hno⟩ := not_all hall
          refine mm _ _ FR.rf ?_
          have key : ∀ (r j : Nat), j + r = m → (∀ q, q < j → vp_in ((up x 0 0 5 0) 3 k (i + q)) (2 ^ n)) → AT 115 7 (fun v' x2 => v' = some (vi (-2)) ∧ Inv x2) 90 [vr 13 0, vi (nI k), vi b, vi (nI i), vi (nI m), vi f, vi 0, vi (nI j)] (up x 0 0 5 0) := by
            intro r
            induction r with
            | zero =>
              intro j hj hq
              exact absurd (hq j0 (by omega)) hno
            | succ r ih =>
              intro j hj hq
              refine vcl_X6_plan_90 ⟨fun q => absurd q (nI_ge (by omega) (by omega)), fun _ => ?_⟩
              rw [at60b, cl60 (by omega), cells j (by omega), nI_1]
              refine ⟨in8 (by omega) (by omega), k_noPoints hM0.1 hn (fun c => e0 (ih (j + 1) (by omega) (fun q hq2 => ?_))) (fun q => e1 (k_refused ⟨rfl, h01⟩))⟩
              by_cases e : q = j
              · subst e; exact c
              · exact hq q (by omega)
          exact key m 0 (by omega) (fun q hq => absurd hq (Nat.not_lt_zero q))
      · refine vc_X6_plan (k_noSheet (fun _ => e0 (k_inN (N := 3) rfl (fun _ => e1 (k_inN (N := 5) rfl (fun _ => e1 (k_isAsked (fun _ => n1 ⟨fun _ => k_barred hk (hor 3) (fun s => absurd s.1 z1) (fun la ln s q => absurd (s.2.2.1.symm.trans z2) q) (fun la ln s q q2 => absurd q2 (by omega)) (fun la ln s q q2 q3 => ⟨fun q => absurd q (by decide), fun _ => ⟨rfl, hf _⟩⟩) (fun la' ln' s q q2 q3 => absurd q3 ?_), fun q => absurd q (nz 3)⟩) (fun z1 z2 => (cq' z1 z2).elim))) (fun q => absurd cn q))) (fun q => absurd cb q))) (fun q => absurd ca q))
        rw [un la' ln' s]; exact r
  · exact vc_X6_plan (k_noSheet (fun _ => e0 (k_inN (N := 3) rfl (fun _ => e1 (k_inN (N := 5) rfl (fun _ => e1 (k_isAsked (fun _ => n1 ⟨fun q => absurd (by rw [hM0.1, cz]; rfl) q, fun _ => k_refused ⟨rfl, h01⟩⟩) (fun z1 z2 => absurd cq (fun z => by rcases z with z | z; exact z1 z; exact z2 z)))) (fun q => absurd cn q))) (fun q => absurd cb q))) (fun q => absurd ca q))
  · exact vc_X6_plan (k_noSheet (fun _ => e0 (k_inN (N := 3) rfl (fun _ => e1 (k_inN (N := 5) rfl (fun _ => e1 (k_isAsked (fun z => by rcases z with z | z; exact absurd z cq1; exact absurd z cq2) (fun _ _ => n0 (k_refused ⟨rfl, h01⟩)))) (fun q => absurd cn q))) (fun q => absurd cb q))) (fun q => absurd ca q))
  · exact vc_X6_plan (k_noSheet (fun _ => e0 (k_inN (N := 3) rfl (fun _ => e1 (k_inN (N := 5) rfl (fun q => absurd q cn) (fun _ => e0 (k_refused ⟨rfl, h01⟩)))) (fun q => absurd cb q))) (fun q => absurd ca q))
  · exact vc_X6_plan (k_noSheet (fun _ => e0 (k_inN (N := 3) rfl (fun q => absurd q cb) (fun _ => e0 (k_refused ⟨rfl, h01⟩)))) (fun q => absurd ca q))
  · exact vc_X6_plan (k_noSheet (fun q => absurd q ca) (fun _ => e1 (k_refused ⟨rfl, h01⟩)))
end
