/-! calls: tell, pour, as, lose, sheet -/
/-- all that holds but of the latest fault -/
def ID (x : Mem) : Prop := ∃ (n l ro g : Nat) (kd rk wt wm hs : Nat → Nat), IC x n l ro g kd rk wt wm hs ∧ IM x n l ro g kd rk wt wm hs ∧ IB n l ro g kd rk wt wm hs ∧ (∃ (rc : Nat) (rt rp rv : Nat → Nat), IR x n rc rt rp rv) ∧ ISh x ∧ x 0 0 4 = x 13 0 32
theorem Inv.id {x : Mem} (h : Inv x) : ID x := by
  obtain ⟨n, l, ro, g, kd, rk, wt, wm, hs, hC, hM, hB, hR, hS, hT⟩ := h
  exact ⟨n, l, ro, g, kd, rk, wt, wm, hs, hC, hM, hB, hR, hS, hT.1⟩
theorem ID.inv {x : Mem} (h : ID x) (e : x 0 0 5 = x 13 0 0) : Inv x := by
  obtain ⟨n, l, ro, g, kd, rk, wt, wm, hs, hC, hM, hB, hR, hS, hT⟩ := h
  exact ⟨n, l, ro, g, kd, rk, wt, wm, hs, hC, hM, hB, hR, hS, hT, e⟩
theorem ID.u0 {x : Mem} (h : ID x) {v : Int32} : ID (up x 0 0 5 v) := by
  obtain ⟨n, l, ro, g, kd, rk, wt, wm, hs, hC, hM, hB, ⟨rc, rt, rp, rv, hR⟩, hS, hT⟩ := h
  exact ⟨n, l, ro, g, kd, rk, wt, wm, hs, hC.fr rfl rfl rfl, hM.fr rfl rfl rfl rfl rfl rfl rfl rfl rfl, hB, ⟨rc, rt, rp, rv, hR.fr rfl rfl rfl rfl rfl rfl rfl rfl⟩, hS.fr rfl rfl rfl rfl rfl rfl, hT⟩
theorem ID.u13 {x : Mem} (h : ID x) {v : Int32} : ID (up x 13 0 0 v) := by
  obtain ⟨n, l, ro, g, kd, rk, wt, wm, hs, hC, hM, hB, ⟨rc, rt, rp, rv, hR⟩, hS, hT⟩ := h
  exact ⟨n, l, ro, g, kd, rk, wt, wm, hs, hC.fr rfl rfl rfl, hM.fr rfl rfl rfl rfl rfl rfl rfl rfl rfl, hB, ⟨rc, rt, rp, rv, hR.fr rfl rfl rfl rfl rfl rfl rfl rfl⟩, hS.fr rfl rfl rfl rfl rfl rfl, hT⟩
theorem ID.fs {x x' : Mem} (h : ID x) (f : FS x x') : ID x' := by
  obtain ⟨n, l, ro, g, kd, rk, wt, wm, hs, hC, hM, hB, ⟨rc, rt, rp, rv, hR⟩, hS, hT⟩ := h
  refine ⟨n, l, ro, g, kd, rk, wt, wm, hs, hC.fs f, hM.fs f, hB, ⟨rc, rt, rp, rv, ?_⟩, ?_, ?_⟩
  · exact hR.fr (f.1 9 (by decide)) (f.2 24 (by decide)) (f.1 10 (by decide)) (f.1 11 (by decide)) (f.1 12 (by decide)) (f.1 26 (by decide)) (f.1 27 (by decide)) (f.1 28 (by decide))
  · exact hS.fr (f.1 1 (by decide)) (f.1 2 (by decide)) (f.1 3 (by decide)) (f.1 29 (by decide)) (f.1 30 (by decide)) (f.1 31 (by decide))
  · rw [f.1 0 (by decide), f.2 32 (by decide)]; exact hT
theorem ID.sh {x x' : Mem} (h : ID x) (f : FR [1, 2, 3, 29, 30, 31, 32] x x') (s : ISh x') : ID x' := by
  obtain ⟨n, l, ro, g, kd, rk, wt, wm, hs, hC, hM, hB, ⟨rc, rt, rp, rv, hR⟩, hS, hT⟩ := h
  refine ⟨n, l, ro, g, kd, rk, wt, wm, hs, hC.fr (f 6 (by decide)) (f 7 (by decide)) (f 8 (by decide)), hM.fr (by rw [f 13 (by decide)]) (by rw [f 13 (by decide)]) (by rw [f 13 (by decide)]) (by rw [f 13 (by decide)]) (f 14 (by decide)) (f 15 (by decide)) (f 16 (by decide)) (f 17 (by decide)) (f 18 (by decide)), hB, ⟨rc, rt, rp, rv, ?_⟩, s, ?_⟩
  · exact hR.fr (f 9 (by decide)) (by rw [f 13 (by decide)]) (f 10 (by decide)) (f 11 (by decide)) (f 12 (by decide)) (f 26 (by decide)) (f 27 (by decide)) (f 28 (by decide))
  · rw [f 0 (by decide), f 13 (by decide)]; exact hT
theorem Inv.tr {x x' : Mem} (h : Inv x) (hk : ∀ k, k ≠ 0 → k ≠ 13 → x' k = x k) (hj : ∀ j, j ≠ 32 → x' 13 0 j = x 13 0 j) (h5 : x' 0 0 5 = x 0 0 5) (e : x' 0 0 4 = x' 13 0 32) : Inv x' := by
  obtain ⟨n, l, ro, g, kd, rk, wt, wm, hs, hC, hM, hB, ⟨rc, rt, rp, rv, hR⟩, hS, hT⟩ := h
  refine ⟨n, l, ro, g, kd, rk, wt, wm, hs, hC.fr (hk 6 (by decide) (by decide)) (hk 7 (by decide) (by decide)) (hk 8 (by decide) (by decide)), hM.fr (hj 1 (by decide)) (hj 2 (by decide)) (hj 3 (by decide)) (hj 4 (by decide)) (hk 14 (by decide) (by decide)) (hk 15 (by decide) (by decide)) (hk 16 (by decide) (by decide)) (hk 17 (by decide) (by decide)) (hk 18 (by decide) (by decide)), hB, ⟨rc, rt, rp, rv, ?_⟩, ?_, ?_⟩
  · exact hR.fr (hk 9 (by decide) (by decide)) (hj 24 (by decide)) (hk 10 (by decide) (by decide)) (hk 11 (by decide) (by decide)) (hk 12 (by decide) (by decide)) (hk 26 (by decide) (by decide)) (hk 27 (by decide) (by decide)) (hk 28 (by decide) (by decide))
  · exact hS.fr (hk 1 (by decide) (by decide)) (hk 2 (by decide) (by decide)) (hk 3 (by decide) (by decide)) (hk 29 (by decide) (by decide)) (hk 30 (by decide) (by decide)) (hk 31 (by decide) (by decide))
  · exact ⟨e, by rw [h5, hT.2, hj 0 (by decide)]⟩
abbrev tU (x : Mem) (k j : Nat) (a : Int32) : Mem := up x k 0 j (31 * x k 0 j + a)
section
variable {d : Nat} {Q : Option AV → Mem → Prop} {x : Mem}
theorem k_tellGuest {q : Nat} (h : Q (some (vi (x 8 q 1))) (tU x 0 4 1)) : CC (d + 2) 78 [vr 0 0, vr 8 q] x Q := vc_X5_tellGuest (vc_X5_leave h)
theorem k_tellDuke {q : Nat} (h : Q (some (vi (x 8 q 1 + 100))) (tU (tU x 0 4 2) 0 4 1)) : CC (d + 3) 79 [vr 0 0, vr 8 q] x Q := vc_X5_tellDuke (vc_X5_leave (k_tellGuest (d := d) h))
theorem k_tellChild {q : Nat} (h : Q (some (vi (x 8 q 1 + 100 + x 8 q 1))) (tU (tU (tU (tU x 0 4 3) 0 4 2) 0 4 1) 0 4 1)) : CC (d + 4) 80 [vr 0 0, vr 8 q] x Q := vc_X5_tellChild (vc_X5_leave (k_tellDuke (d := d) (k_tellGuest (d := d + 1) h)))
theorem m_tell {n t K R : Nat} (hM : x 13 0 1 = nI n) (hn : n ≤ 8) (ht : t < n) (m0 : x 14 0 t = nI K) (m1 : x 15 0 t = nI R) (hK : K ≤ 2)
    (h0 : K = 0 → Q (some (vi (nI R))) (tU x 13 32 1)) (h1 : K = 1 → Q (some (vi (nI R + 100))) (tU (tU x 13 32 2) 13 32 1)) (h2 : K = 2 → Q (some (vi (2 * nI R + 100))) (tU (tU (tU (tU x 13 32 3) 13 32 2) 13 32 1) 13 32 1)) : CC (d + 3) 139 [vr 13 0, vi (nI t)] x Q := by
  have ht8 : t < 8 := by omega
  refine vc_X6_tell (k_noTable (n := n) hM hn (fun _ => e0 ?_) (fun q => absurd (in8 ht (by omega)) q))
  rw [cl8 ht8, m0]
  have c3 : K = 0 ∨ K = 1 ∨ K = 2 := by omega
  refine ⟨in8 ht8 (by omega), ?_⟩
  rw [← m1] at h0 h1 h2
  rcases c3 with e | e | e
  · subst e
    refine ⟨fun _ => vcl_X6_tell_27 ⟨fun _ => vcl_X6_tell_36 (vc_X6_traced ⟨fun _ => vcl_X6_tell_51 ?_, fun q => absurd q (by decide)⟩), fun q => absurd (by decide) q⟩, fun q => absurd q (by decide)⟩
    rw [cl8 ht8]
    exact ⟨in8 ht8 (by omega), fun q => absurd rfl q, fun _ => h0 rfl⟩
  · subst e
    refine ⟨fun _ => vcl_X6_tell_27 ⟨fun q => absurd q (by decide), fun _ => vc_X6_traced (vcl_X6_tell_36 (vc_X6_traced ⟨fun _ => vcl_X6_tell_51 ?_, fun q => absurd q (by decide)⟩))⟩, fun q => absurd q (by decide)⟩
    rw [cl8 ht8]
    exact ⟨in8 ht8 (by omega), fun _ => ⟨fun q => absurd rfl q, fun _ => h1 rfl⟩, fun q => absurd q (by decide)⟩
  · subst e
    refine ⟨fun q => absurd rfl q, fun _ => vc_X6_traced (vcl_X6_tell_27 ⟨fun q => absurd q (by decide), fun _ => vc_X6_traced (vcl_X6_tell_36 (vc_X6_traced ⟨fun q => absurd rfl q, fun _ => vc_X6_traced (vcl_X6_tell_51 ?_)⟩))⟩)⟩
    rw [cl8 ht8]
    exact ⟨in8 ht8 (by omega), fun _ => ⟨fun _ => h2 rfl, fun q => absurd q (by decide)⟩, fun q => absurd q (by decide)⟩
theorem op_tell {a : Int32} (h : Inv x) : OP 54 139 [vr 0 0, vi a] [vr 13 0, vi a] x := by
  obtain ⟨n, l, ro, g, kd, rk, wt, wm, hs, hC, hM, hB, ⟨rc, rt, rp, rv, hR⟩, hS, hT⟩ := id h
  have hn := hB.1
  refine vc_X5_tell (k_hasTable hC.1 hn (fun c => n1 ?_) (fun c => n0 ⟨_, rfl, vc_X6_tell (k_noTable hM.1 hn (fun q => absurd q c) (fun _ => e1 ⟨rfl, h⟩))⟩))
  obtain ⟨t, ht, rfl⟩ := vp_ex c (by omega)
  have ht8 : t < 8 := by omega
  obtain ⟨c7, c0, c1, c2, c3, c4⟩ := hC.2.2.2.2 t ht8
  obtain ⟨m0, m1, m2, m3, m4⟩ := hM.2.2.2.2 t ht8
  obtain ⟨b0, b1, b2, b3, b4⟩ := hB.2.2.2.1 t ht8
  have e7 : (x 7 0 (nI t).toNatClampNeg).toNatClampNeg = t := by rw [cl8 ht8, c7, cl8 ht8]
  rw [e7, c0]
  have hT1 := hT.1
  refine ⟨in8 ht8 (by omega), ht8, fun q0 => ⟨fun q1 => k_tellChild ⟨_, rfl, ?_⟩, fun q1 => k_tellDuke ⟨_, rfl, ?_⟩⟩, fun q0 => k_tellGuest ⟨_, rfl, ?_⟩⟩
  · rw [nI_z (by omega)] at q0
    rw [nI_o (by omega)] at q1
    refine m_tell (n := n) (K := kd t) (R := rk t) hM.1 hn ht m0 m1 b0 (fun q => absurd q (by omega)) (fun q => absurd q (by omega)) (fun _ => ⟨?_, ?_⟩)
    · rw [c1, show (100 : Int32) = nI 100 from rfl, show (2 : Int32) = nI 2 from rfl, nI_add, nI_add, pk_mul, nI_add, show rk t + 100 + rk t = 2 * rk t + 100 by omega]
    · refine h.tr (fun k k0 k13 => ?_) (fun j hj => ?_) rfl ?_
      · simp only [up_k k0, up_k k13]
      · simp [up_app, hj]
      · simp only [up_app]
        simp [hT1]
  · rw [nI_o (by omega)] at q1
    refine m_tell (n := n) (K := kd t) (R := rk t) hM.1 hn ht m0 m1 b0 (fun q => absurd q (by omega)) (fun _ => ⟨?_, ?_⟩) (fun q => absurd q (by omega))
    · rw [c1]
    · refine h.tr (fun k k0 k13 => ?_) (fun j hj => ?_) rfl ?_
      · simp only [up_k k0, up_k k13]
      · simp [up_app, hj]
      · simp only [up_app]
        simp [hT1]
  · rw [nI_z (by omega)] at q0
    refine m_tell (n := n) (K := kd t) (R := rk t) hM.1 hn ht m0 m1 b0 (fun _ => ⟨?_, ?_⟩) (fun q => absurd q (by omega)) (fun q => absurd q (by omega))
    · rw [c1]
    · refine h.tr (fun k k0 k13 => ?_) (fun j hj => ?_) rfl ?_
      · simp only [up_k k0, up_k k13]
      · simp [up_app, hj]
      · simp only [up_app]
        simp [hT1]
theorem op_pour {a : Int32} (h : Inv x) : OP 55 140 [vr 0 0, vi a] [vr 13 0, vi a] x := by
  obtain ⟨n, l, ro, g, kd, rk, wt, wm, hs, hC, hM, hB, ⟨rc, rt, rp, rv, hR⟩, hS, hT⟩ := id h
  have hn := hB.1
  refine vc_X5_pour (k_hasTable hC.1 hn (fun c => n1 ?_) (fun c => n0 ⟨_, rfl, vc_X6_pour (k_noTable hM.1 hn (fun q => absurd q c) (fun _ => e1 ⟨rfl, h⟩))⟩))
  obtain ⟨t, ht, rfl⟩ := vp_ex c (by omega)
  have ht8 : t < 8 := by omega
  obtain ⟨c7, c0, c1, c2, c3, c4⟩ := hC.2.2.2.2 t ht8
  obtain ⟨m0, m1, m2, m3, m4⟩ := hM.2.2.2.2 t ht8
  obtain ⟨b0, b1, b2, b3, b4⟩ := hB.2.2.2.1 t ht8
  have e7 : (x 7 0 (nI t).toNatClampNeg).toNatClampNeg = t := by rw [cl8 ht8, c7, cl8 ht8]
  rw [e7, c0]
  have hT1 := hT.1
  refine ⟨in8 ht8 (by omega), ht8, fun q0 => vc_X5_leave ⟨_, rfl, ?_⟩, fun q0 => vc_X5_leave ⟨_, rfl, ?_⟩⟩
  · refine vc_X6_pour (k_noTable (n := n) hM.1 hn (fun _ => e0 ?_) (fun q => absurd c q))
    rw [cl8 ht8]
    refine ⟨in8 ht8 (by omega), fun _ => vc_X6_traced ⟨in8 ht8 (by omega), fun _ => ⟨rfl, ?_⟩, fun q => absurd (show nI (kd t) = 2 by rw [← m0]; exact q) q0⟩, fun q => absurd (show nI (kd t) = 2 by rw [← m0]; exact q) q0⟩
    refine h.tr (fun k k0 k13 => ?_) (fun j hj => ?_) rfl ?_
    · simp only [up_k k0, up_k k13]
    · simp [up_app, hj]
    · simp only [up_app]
      simp [hT1]
  · refine vc_X6_pour (k_noTable (n := n) hM.1 hn (fun _ => e0 ?_) (fun q => absurd c q))
    rw [cl8 ht8]
    have m0' : x 14 0 t = 2 := by rw [m0]; exact q0
    refine ⟨in8 ht8 (by omega), fun q => absurd m0' q, fun _ => vc_X6_traced ⟨in8 ht8 (by omega), fun q => absurd ?_ q, fun _ => ⟨rfl, ?_⟩⟩⟩
    · exact m0'
    refine h.tr (fun k k0 k13 => ?_) (fun j hj => ?_) rfl ?_
    · simp only [up_k k0, up_k k13]
    · simp [up_app, hj]
    · simp only [up_app]
      simp [hT1]
theorem op_as {a b : Int32} (h : Inv x) : OP 56 141 [vr 0 0, vi a, vi b] [vr 13 0, vi a, vi b] x := by
  obtain ⟨n, l, ro, g, kd, rk, wt, wm, hs, hC, hM, hB, ⟨rc, rt, rp, rv, hR⟩, hS, hT⟩ := id h
  have hn := hB.1
  have h0 := fun v => (h.id.u0 (v := v))
  refine vc_X5_as (k_hasTable (n := n) hC.1 hn (fun c => n1 ?_) (fun c => n0 ⟨_, rfl, vc_X6_as (k_noTable (n := n) hM.1 hn (fun q => absurd q c) (fun _ => e1 (k_refused ⟨rfl, (h0 _).u13.inv rfl⟩)))⟩))
  refine k_within (N := 3) rfl (fun c2 => n1 ?_) (fun c2 => n0 ⟨_, rfl, vc_X6_as (k_noTable (n := n) hM.1 hn (fun _ => e0 (k_inN (N := 3) rfl (fun q => absurd q c2) (fun _ => n0 (k_refused ⟨rfl, (h0 _).u13.inv rfl⟩)))) (fun q => absurd c q))⟩)
  obtain ⟨t, ht, rfl⟩ := vp_ex c (by omega)
  have ht8 : t < 8 := by omega
  obtain ⟨c7, c0, c1, c2', c3, c4⟩ := hC.2.2.2.2 t ht8
  obtain ⟨m0, m1, m2, m3, m4⟩ := hM.2.2.2.2 t ht8
  have mm : x 14 0 (nI t).toNatClampNeg = nI (kd t) := by rw [cl8 ht8]; exact m0
  have e7 : (x 7 0 (nI t).toNatClampNeg).toNatClampNeg = t := by rw [cl8 ht8, c7, cl8 ht8]
  refine ⟨in8 ht8 (by omega), by rw [up_k (by decide), e7]; exact ht8, fun q => k_comeTo ⟨_, rfl, ?_⟩, fun q => ⟨_, rfl, ?_⟩⟩
  · have q' : nI (kd t) < b := by rw [up_k (by decide), up_k (by decide), e7, c0] at q; exact q
    refine vc_X6_as (k_noTable (n := n) hM.1 hn (fun _ => e0 (k_inN (N := 3) rfl (fun _ => n1 ⟨in8 ht8 (by omega), fun _ => k_failed ⟨rfl, ?_⟩, fun z => absurd ?_ z⟩) (fun z => absurd c2 z))) (fun q => absurd c q))
    · exact ((h0 _).u0).u13.inv rfl
    · rw [up_k (by decide), up_k (by decide), mm]; exact q'
  · have q' : ¬ nI (kd t) < b := by rw [up_k (by decide), up_k (by decide), e7, c0] at q; exact q
    refine vc_X6_as (k_noTable (n := n) hM.1 hn (fun _ => e0 (k_inN (N := 3) rfl (fun _ => n1 ⟨in8 ht8 (by omega), fun z => absurd ?_ q', fun _ => k_refused ⟨rfl, ?_⟩⟩) (fun z => absurd c2 z))) (fun q => absurd c q))
    · rw [up_k (by decide), mm] at z; exact z
    · exact (h0 _).u13.inv rfl
end
