/-! calls: bow, heat, sweet, run -/
theorem IC.fs {x x' : Mem} {n l ro g : Nat} {kd rk wt wm hs : Nat → Nat} (h : IC x n l ro g kd rk wt wm hs) (f : FS x x') : IC x' n l ro g kd rk wt wm hs := h.fr (f.1 6 (by decide)) (f.1 7 (by decide)) (f.1 8 (by decide))
theorem IM.fs {x x' : Mem} {n l ro g : Nat} {kd rk wt wm hs : Nat → Nat} (h : IM x n l ro g kd rk wt wm hs) (f : FS x x') : IM x' n l ro g kd rk wt wm hs := h.fr (f.2 1 (by decide)) (f.2 2 (by decide)) (f.2 3 (by decide)) (f.2 4 (by decide)) (f.1 14 (by decide)) (f.1 15 (by decide)) (f.1 16 (by decide)) (f.1 17 (by decide)) (f.1 18 (by decide))
theorem IC.u1 {x : Mem} {n l ro g t u : Nat} {kd rk wt wm hs : Nat → Nat} (h : IC x n l ro g kd rk wt wm hs) : IC (up x 8 t 1 (nI u)) n l ro g kd (updN rk t u) wt wm hs := ⟨h.1, h.2.1, h.2.2.1, h.2.2.2.1, fun t' ht' => by
  obtain ⟨a, b, c, e, f, i⟩ := h.2.2.2.2 t' ht'
  by_cases q : t' = t
  · subst q; simp [up_app, updN, *]
  · simp [up_app, updN, *]⟩
theorem IC.u3 {x : Mem} {n l ro g t u : Nat} {kd rk wt wm hs : Nat → Nat} (h : IC x n l ro g kd rk wt wm hs) : IC (up x 8 t 3 (nI u)) n l ro g kd rk wt (updN wm t u) hs := ⟨h.1, h.2.1, h.2.2.1, h.2.2.2.1, fun t' ht' => by
  obtain ⟨a, b, c, e, f, i⟩ := h.2.2.2.2 t' ht'
  by_cases q : t' = t
  · subst q; simp [up_app, updN, *]
  · simp [up_app, updN, *]⟩
theorem IM.u1 {x : Mem} {n l ro g t u : Nat} {kd rk wt wm hs : Nat → Nat} (h : IM x n l ro g kd rk wt wm hs) : IM (up x 15 0 t (nI u)) n l ro g kd (updN rk t u) wt wm hs := ⟨h.1, h.2.1, h.2.2.1, h.2.2.2.1, fun t' ht' => by
  obtain ⟨a, b, c, e, f⟩ := h.2.2.2.2 t' ht'
  by_cases q : t' = t
  · subst q; simp [up_app, updN, *]
  · simp [up_app, updN, *]⟩
theorem IM.u3 {x : Mem} {n l ro g t u : Nat} {kd rk wt wm hs : Nat → Nat} (h : IM x n l ro g kd rk wt wm hs) : IM (up x 17 0 t (nI u)) n l ro g kd rk wt (updN wm t u) hs := ⟨h.1, h.2.1, h.2.2.1, h.2.2.2.1, fun t' ht' => by
  obtain ⟨a, b, c, e, f⟩ := h.2.2.2.2 t' ht'
  by_cases q : t' = t
  · subst q; simp [up_app, updN, *]
  · simp [up_app, updN, *]⟩
theorem IB.u1 {n l ro g t u : Nat} {kd rk wt wm hs : Nat → Nat} (h : IB n l ro g kd rk wt wm hs) (hu : u ≤ 9) : IB n l ro g kd (updN rk t u) wt wm hs := ⟨h.1, h.2.1, h.2.2.1, fun t' ht' => by
  obtain ⟨a, b, c, e, f⟩ := h.2.2.2.1 t' ht'
  refine ⟨a, ?_, c, e, f⟩
  unfold updN; split <;> assumption, h.2.2.2.2⟩
theorem IB.u3 {n l ro g t u : Nat} {kd rk wt wm hs : Nat → Nat} (h : IB n l ro g kd rk wt wm hs) (hu : u ≤ 39) : IB n l ro g kd rk wt (updN wm t u) hs := ⟨h.1, h.2.1, h.2.2.1, fun t' ht' => by
  obtain ⟨a, b, c, e, f⟩ := h.2.2.2.1 t' ht'
  refine ⟨a, b, c, ?_, f⟩
  unfold updN; split <;> assumption, h.2.2.2.2⟩
def WV (n : Nat) (wt : Nat → Nat) (s : SS) : Prop := ∀ t, t < n → s.1 t ≤ wt t
theorem WV_p1 {kd rk wt wm : Nat → Nat} {n P m t : Nat} {s : SS} (h : WV n wt s) : WV n wt (p1 kd rk wt wm P m t s) := fun u hu => by
  have hb := tk_le (kd := kd) (rk := rk) (wt := wt) (wm := wm) (P := P) (t := t) (m := m) (h := s.1) (l := s.2.1)
  show updN s.1 t _ u ≤ wt u
  have h1 := h u hu
  by_cases e : u = t
  · subst e; rw [updN_s]; omega
  · rw [updN_n e]; exact h1
theorem WV_rd {kd rk wt wm : Nat → Nat} {n P m0 : Nat} {s : SS} (h : WV n wt s) : ∀ i, WV n wt (rd kd rk wt wm P m0 i s)
  | 0 => h
  | i + 1 => WV_p1 (WV_rd h i)
theorem WV_rn {kd rk wt wm : Nat → Nat} {n P g : Nat} {s : SS} (h : WV n wt s) : ∀ k, WV n wt (rn kd rk wt wm n P g k s)
  | 0 => h
  | k + 1 => WV_rd (WV_rn h k) n
theorem IB.s0 {n l ro g L : Nat} {kd rk wt wm hs : Nat → Nat} (h : IB n l ro g kd rk wt wm hs) : IV n L (s0 hs L) ∧ WV n wt (s0 hs L) := ⟨⟨fun t ht => by
  obtain ⟨a, b, c, e, f⟩ := h.2.2.2.1 t (by have := h.1; omega)
  show hs t ≤ 9; omega, Nat.le_refl _⟩, fun t ht => (h.2.2.2.1 t (by have := h.1; omega)).2.2.2.2⟩
theorem IB.wt9 {n l ro g : Nat} {kd rk wt wm hs : Nat → Nat} (h : IB n l ro g kd rk wt wm hs) : ∀ t, t < n → wt t ≤ 9 := fun t ht => (h.2.2.2.1 t (by have := h.1; omega)).2.2.1
/-- what is told of rounds that have been tried -/
def toldF (n : Nat) (wt hs : Nat → Nat) (s : SS) (a : Int32) : Int32 := if a = 0 then nI s.2.1 else if a = 1 then nI (pc (sw s.1 wt n)) else if a = 2 then nI (sw s.1 wt n) else if a = 3 then s.2.2.1 else if 0 ≤ (a - 10).toInt ∧ (a - 10).toInt < n then nI (s.1 (a - 10).toNatClampNeg) - nI (hs (a - 10).toNatClampNeg) else -9
section
variable {d : Nat} {Q : Option AV → Mem → Prop} {x : Mem}
theorem k_changeT {n j N : Nat} {tr m a v : Int32} (hm : m.toInt + 1 = N) (hN : N ≤ 1000) (hn : x 6 0 1 = nI n) (hn8 : n ≤ 8) (h7 : ∀ t, t < 8 → x 7 0 t = nI t)
    (hTr : ∀ {y : Mem} {R : Option AV → Mem → Prop} {q : Nat}, R (some (vi (y 8 q j))) y → CC (d + 1) 1 [vr 8 q, vi tr] y R) (hBe : ∀ {y : Mem} {R : Option AV → Mem → Prop} {q : Nat} {w : Int32}, R none (up y 8 q j w) → CC (d + 1) 2 [vr 8 q, vi tr, vi w] y R)
    (h1 : ∀ t u, t < n → u < N → a = nI t → v = nI u → Q (some (vi (x 8 t j))) (up x 8 t j (nI u))) (h2 : vp_in a n → ¬ vp_in v N → Q (some (vi (-2))) x) (h3 : ¬ vp_in a n → Q (some (vi (-1))) x) : CC (d + 2) 70 [vr 0 0, vi a, vi tr, vi v, vi m] x Q := by
  refine vc_X5_changeTable (k_hasTable hn hn8 (fun c => n1 (k_within hm (fun c2 => n1 ?_) (fun c2 => n0 (h2 c c2)))) (fun c => n0 (h3 c)))
  obtain ⟨t, ht, rfl⟩ := vp_ex c (by omega)
  obtain ⟨u, hu, rfl⟩ := vp_ex c2 hN
  have ht8 : t < 8 := by omega
  have e7 : (x 7 0 (nI t).toNatClampNeg).toNatClampNeg = t := by rw [cl8 ht8, h7 t ht8, cl8 ht8]
  rw [e7]
  exact ⟨in8 ht8 (by omega), ht8, hTr ⟨in8 ht8 (by omega), by rw [e7]; exact ht8, by rw [e7]; exact hBe (h1 t u ht hu rfl rfl)⟩⟩
theorem op_bow {a b : Int32} (h : Inv x) : OP 30 100 [vr 0 0, vi a, vi b] [vr 13 0, vi a, vi b] x := by
  obtain ⟨n, l, ro, g, kd, rk, wt, wm, hs, hC, hM, hB, ⟨rc, rt, rp, rv, hR⟩, hS, hT⟩ := id h
  have hn := hB.1
  refine vc_X5_bow (k_changeT (N := 10) (j := 1) rfl (by omega) hC.1 hn (fun t ht => (hC.2.2.2.2 t ht).1) (fun hh => k_trait1 hh) (fun hh => k_become1 hh) (fun t u ht hu ea eb => ?_) (fun c c2 => ⟨_, rfl, ?_⟩) (fun c => ⟨_, rfl, ?_⟩))
  · subst ea eb
    have ht8 : t < 8 := by omega
    refine ⟨_, rfl, vc_X6_bow (k_noTable (n := n) hM.1 hn (fun _ => e0 (k_inN (N := 10) rfl (fun _ => n1 ?_) (fun q => absurd (in8 hu (by omega)) q))) (fun q => absurd (in8 ht (by omega)) q))⟩
    rw [cl8 ht8]
    refine ⟨in8 ht8 (by omega), in8 ht8 (by omega), ?_, n, l, ro, g, kd, updN rk t u, wt, wm, hs, (hC.u1 (t := t) (u := u)).fr rfl rfl rfl, IM.u1 (x := up x 8 t 1 (nI u)) (hM.fr rfl rfl rfl rfl rfl rfl rfl rfl rfl), hB.u1 (by omega), ⟨rc, rt, rp, rv, hR.fr rfl rfl rfl rfl rfl rfl rfl rfl⟩, hS.fr rfl rfl rfl rfl rfl rfl, hT.fr rfl rfl rfl⟩
    rw [up_k (by decide), (hC.2.2.2.2 t ht8).2.2.1, (hM.2.2.2.2 t ht8).2.1]
  · exact vc_X6_bow (k_noTable hM.1 hn (fun _ => e0 (k_inN (N := 10) rfl (fun q => absurd q c2) (fun _ => n0 ⟨rfl, h⟩))) (fun q => absurd c q))
  · exact vc_X6_bow (k_noTable hM.1 hn (fun q => absurd q c) (fun _ => e1 ⟨rfl, h⟩))
theorem op_heat {a b : Int32} (h : Inv x) : OP 31 101 [vr 0 0, vi a, vi b] [vr 13 0, vi a, vi b] x := by
  obtain ⟨n, l, ro, g, kd, rk, wt, wm, hs, hC, hM, hB, ⟨rc, rt, rp, rv, hR⟩, hS, hT⟩ := id h
  have hn := hB.1
  refine vc_X5_heat (k_changeT (N := 40) (j := 3) rfl (by omega) hC.1 hn (fun t ht => (hC.2.2.2.2 t ht).1) (fun hh => k_trait3 hh) (fun hh => k_become3 hh) (fun t u ht hu ea eb => ?_) (fun c c2 => ⟨_, rfl, ?_⟩) (fun c => ⟨_, rfl, ?_⟩))
  · subst ea eb
    have ht8 : t < 8 := by omega
    refine ⟨_, rfl, vc_X6_heat (k_noTable (n := n) hM.1 hn (fun _ => e0 (k_inN (N := 40) rfl (fun _ => n1 ?_) (fun q => absurd (in8 hu (by omega)) q))) (fun q => absurd (in8 ht (by omega)) q))⟩
    rw [cl8 ht8]
    refine ⟨in8 ht8 (by omega), in8 ht8 (by omega), ?_, n, l, ro, g, kd, rk, wt, updN wm t u, hs, (hC.u3 (t := t) (u := u)).fr rfl rfl rfl, IM.u3 (x := up x 8 t 3 (nI u)) (hM.fr rfl rfl rfl rfl rfl rfl rfl rfl rfl), hB.u3 (by omega), ⟨rc, rt, rp, rv, hR.fr rfl rfl rfl rfl rfl rfl rfl rfl⟩, hS.fr rfl rfl rfl rfl rfl rfl, hT.fr rfl rfl rfl⟩
    rw [up_k (by decide), (hC.2.2.2.2 t ht8).2.2.2.2.1, (hM.2.2.2.2 t ht8).2.2.2.1]
  · exact vc_X6_heat (k_noTable hM.1 hn (fun _ => e0 (k_inN (N := 40) rfl (fun q => absurd q c2) (fun _ => n0 ⟨rfl, h⟩))) (fun q => absurd c q))
  · exact vc_X6_heat (k_noTable hM.1 hn (fun q => absurd q c) (fun _ => e1 ⟨rfl, h⟩))
theorem op_sweet (h : Inv x) : OP 33 110 [vr 0 0] [vr 13 0] x := by
  obtain ⟨n, l, ro, g, kd, rk, wt, wm, hs, hC, hM, hB, ⟨rc, rt, rp, rv, hR⟩, hS, hT⟩ := id h
  have hn := hB.1
  refine vc_X5_sweet (k_stands hC.1 hn (fun c => n1 ?_) (fun c => n0 ⟨_, rfl, vc_X6_sweet ⟨fun q => absurd (by rw [hM.1, c]; rfl) q, fun _ => ⟨rfl, h⟩⟩⟩))
  rw [hC.2.1]
  refine k_start hC.2.2.2.1 (hC.tv hn) (fun x1 hf hS1 => ?_)
  have hf1 := FS.ofR hf
  refine k_sweetSet hB.bd ((hC.fs hf1).tv hn) hS1 (hB.s0 (L := l)).1.1 ⟨_, rfl, vc_X6_sweet ⟨fun _ => ?_, fun q => ?_⟩⟩
  · rw [(hM.fs hf1).2.1]
    exact k_begins ((hM.fs hf1).tm hn) (fun x2 hf2 hS2 => k_sweetThen hB.bd (((hM.fs hf1).fs (FS.ofM hf2)).tm hn) hS2 (hB.s0 (L := l)).2 ⟨rfl, h.fs (hf1.tr (FS.ofM hf2))⟩)
  · rw [(hM.fs hf1).1, nI_z (by omega)] at q
    omega
theorem k_ofRide {n m : Nat} {kd rk wt wm hs : Nat → Nat} {s : SS} {a : Int32} (hn : x 6 0 1 = nI n) (hB : BD kd rk wt wm hs) (hT : TV x n kd rk wt wm hs) (hS : SR x n s m) (hh : ∀ t, t < n → s.1 t ≤ 9) (hq : Q (some (vi (toldF n wt hs s a))) x) : CC (d + 3) 71 [vr 0 0, vi a] x Q := by
  have hn8 := hT.2.1
  have hp := pow8 hn8
  have hsw := sw_lt (h := s.1) (wt := wt) n
  refine vc_X5_ofRide ⟨fun c => ?_, fun c => ?_, fun c => ?_, fun c => ?_, fun c => ?_, trivial⟩
  · have a0 : ¬ a = 0 := fun z => by subst z; revert c; decide
    have a1 : ¬ a = 1 := fun z => by subst z; revert c; decide
    have a2 : ¬ a = 2 := fun z => by subst z; revert c; decide
    have a3 : ¬ a = 3 := fun z => by subst z; revert c; decide
    unfold toldF at hq
    rw [if_neg a0, if_neg a1, if_neg a2, if_neg a3] at hq
    refine k_hasTable hn hn8 (fun z => e1 ?_) (fun z => e0 ?_)
    · rw [if_pos (vp_in_iff.mp z)] at hq
      obtain ⟨t, ht, et⟩ := vp_ex z (by omega)
      rw [et] at hq ⊢
      rw [cl8 (by omega)] at hq
      exact k_takenBy hT ht hS hq
    · rw [if_neg (fun q => z (vp_in_iff.mpr q))] at hq
      exact hq
  · subst c
    rw [hS.2.1]
    exact hq
  · subst c
    exact k_sweetSet hB hT hS hh (k_bitCount (by omega) hq)
  · subst c
    exact k_sweetSet hB hT hS hh hq
  · subst c
    rw [hS.2.2.2]
    exact hq
theorem k_toldThen {n : Nat} {kd rk wt wm hs : Nat → Nat} {s : SS} {a : Int32} (hB : BD kd rk wt wm hs) (hT : TM x n kd rk wt wm hs) (hS : MR x n s) (hh : WV n wt s) (hq : Q (some (vi (toldF n wt hs s a))) x) : CC (d + 3) 109 [vr 13 0, vi a] x Q := by
  have hn8 := hT.2.1
  have hp := pow8 hn8
  have hsw := sw_lt (h := s.1) (wt := wt) n
  refine vc_X6_toldThen ⟨fun c => ?_, fun c => ?_, fun c => ?_, fun c => ?_, fun c => ?_, trivial⟩
  · have a0 : ¬ a = 0 := fun z => by subst z; revert c; decide
    have a1 : ¬ a = 1 := fun z => by subst z; revert c; decide
    have a2 : ¬ a = 2 := fun z => by subst z; revert c; decide
    have a3 : ¬ a = 3 := fun z => by subst z; revert c; decide
    unfold toldF at hq
    rw [if_neg a0, if_neg a1, if_neg a2, if_neg a3] at hq
    refine k_noTable hT.1 hn8 (fun z => e0 ?_) (fun z => e1 ?_)
    · rw [if_pos (vp_in_iff.mp z)] at hq
      obtain ⟨t, ht, et⟩ := vp_ex z (by omega)
      have ht8 : t < 8 := by omega
      rw [et] at hq ⊢
      rw [cl8 ht8] at hq ⊢
      rw [hS.1 t ht, (hT.2.2 t ht8).2.2.2.2]
      exact ⟨in8 ht8 (by omega), in8 ht8 (by omega), hq⟩
    · rw [if_neg (fun q => z (vp_in_iff.mpr q))] at hq
      exact hq
  · subst c
    rw [hS.2.1]
    exact hq
  · subst c
    exact k_sweetThen hB hT hS hh (k_bits (by omega) hq)
  · subst c
    exact k_sweetThen hB hT hS hh hq
  · subst c
    rw [hS.2.2.2.1]
    exact hq
theorem op_run {a b : Int32} (h : Inv x) : OP 36 113 [vr 0 0, vi a, vi b] [vr 13 0, vi a, vi b] x := by
  obtain ⟨n, l, ro, g, kd, rk, wt, wm, hs, hC, hM, hB, ⟨rc, rt, rp, rv, hR⟩, hS, hT⟩ := id h
  have hn := hB.1
  have hp := pow8 hn
  have mz : n = 0 → CC 8 113 [vr 13 0, vi a, vi b] x fun v' x2 => v' = some (vi (-3)) ∧ Inv x2 := fun c => vc_X6_run ⟨fun q => absurd (by rw [hM.1, c]; rfl) q, fun _ => ⟨rfl, h⟩⟩
  refine vc_X5_run (k_stands hC.1 hn (fun c => n1 ?_) (fun c => n0 ⟨_, rfl, mz c⟩))
  have nz : ¬ x 13 0 1 = 0 := by rw [hM.1, nI_z (by omega)]; omega
  refine k_hasPoints hC.1 hn (fun cp => e1 ?_) (fun cp => e0 ⟨_, rfl, vc_X6_run ⟨fun _ => k_noPoints hM.1 hn (fun q => absurd q cp) (fun _ => n1 ⟨rfl, h⟩), fun q => absurd q nz⟩⟩)
  refine k_isRideQ (fun cq => n1 ?_) (fun cq1 cq2 => n0 ⟨_, rfl, vc_X6_run ⟨fun _ => k_noPoints hM.1 hn (fun _ => n0 (k_isAsked (fun z => by rcases z with z | z; exact absurd z cq1; exact absurd z cq2) (fun _ _ => n0 ⟨rfl, h⟩))) (fun q => absurd cp q), fun q => absurd q nz⟩⟩)
  obtain ⟨P, hP, rfl⟩ := vp_ex cp (by omega)
  rw [hC.2.1]
  have hl : l < 2 ^ 20 := by have := hB.2.2.2.2; omega
  refine k_goAll hB.bd (by omega) hl (hC.tv hn) hC.2.2.1 hC.2.2.2.1 hB.2.1 hB.2.2.1 (fun x1 hf hS1 => ?_)
  have hf1 := FS.ofR hf
  have hI := IV_rn (kd := kd) (rk := rk) (wm := wm) (P := P) (g := g) hB.wt9 (hB.s0 (L := l)).1 (ro - g)
  have hW := WV_rn (kd := kd) (rk := rk) (wm := wm) (P := P) (g := g) (hB.s0 (L := l)).2 (ro - g)
  refine k_ofRide (hC.fs hf1).1 hB.bd ((hC.fs hf1).tv hn) hS1 hI.1 ⟨_, rfl, vc_X6_run ⟨fun _ => ?_, fun q => ?_⟩⟩
  · refine k_noPoints (hM.fs hf1).1 hn (fun _ => n0 (k_isAsked (fun _ => n1 ?_) (fun z1 z2 => absurd cq (fun z => by rcases z with z | z; exact z1 z; exact z2 z)))) (fun q => absurd cp q)
    rw [(hM.fs hf1).2.1]
    refine k_runs hB.bd (by omega) hl ((hM.fs hf1).tm hn) (hM.fs hf1).2.2.1 (hM.fs hf1).2.2.2.1 hB.2.1 hB.2.2.1 (fun x2 hf2 hS2 => ?_)
    exact k_toldThen hB.bd (((hM.fs hf1).fs (FS.ofM hf2)).tm hn) hS2 hW ⟨rfl, h.fs (hf1.tr (FS.ofM hf2))⟩
  · rw [(hM.fs hf1).1, nI_z (by omega)] at q
    omega
end
