/-! calls: put, cell, copy -/
def RB (a b : Int32) (ln : Nat) : Prop := 0 ≤ a.toInt ∧ 0 ≤ b.toInt ∧ a.toInt + b.toInt ≤ (ln : Int)
theorem nIi {n : Nat} (h : n < 1000) : (nI n).toInt = n := nI_toInt (by omega)
section
variable {d : Nat} {Q : Option AV → Mem → Prop} {x : Mem}
theorem k_reaches {k ln : Nat} {a b : Int32} (h2 : x 2 k 2 = nI ln) (hl : ln ≤ 60) (h1 : RB a b ln → Q (some (vi 1)) x) (h0 : ¬ RB a b ln → Q (some (vi 0)) x) : CC (d + 1) 7 [vr 2 k, vi a, vi b] x Q := by
  have e := nIi (n := ln) (by omega)
  refine vc_X3_reaches ⟨fun c => ⟨z0, h0 (fun r => ?_)⟩, fun c1 => ⟨fun c => ⟨z0, h0 (fun r => ?_)⟩, fun c2 => ⟨fun c => ⟨z0, h0 (fun r => ?_)⟩, fun c3 => ⟨fun c => ⟨z0, h0 (fun r => ?_)⟩, fun c4 => ⟨z1, h1 ?_⟩⟩⟩⟩⟩
  · rw [fa_lt, i0] at c; obtain ⟨r1, r2, r3⟩ := r; omega
  · rw [fa_lt, i0] at c; obtain ⟨r1, r2, r3⟩ := r; omega
  · rw [fa_lt, h2, e] at c; obtain ⟨r1, r2, r3⟩ := r; omega
  · rw [fa_lt, i0] at c1 c2
    rw [fa_lt, h2, e] at c3
    rw [fa_lt, h2, fb_subI (by rw [e]; omega) (by rw [e]; omega), e] at c; obtain ⟨r1, r2, r3⟩ := r; omega
  · rw [fa_lt, i0] at c1 c2
    rw [fa_lt, h2, e] at c3
    rw [fa_lt, h2, fb_subI (by rw [e]; omega) (by rw [e]; omega), e] at c4
    exact ⟨by omega, by omega, by omega⟩
theorem k_isBeyond {ln : Nat} {a b : Int32} (hl : ln ≤ 60) (h1 : ¬ RB a b ln → Q (some (vi 1)) x) (h0 : RB a b ln → Q (some (vi 0)) x) : CC (d + 1) 136 [vi a, vl (Int32.toInt64 b), vi (nI ln)] x Q := by
  have e := nIi (n := ln) (by omega)
  have ra := fb_rng a
  have rb := fb_rng b
  have es : (Int32.toInt64 a + Int32.toInt64 b).toInt = a.toInt + b.toInt := by
    rw [fb_addL (by rw [Int32.toInt_toInt64, Int32.toInt_toInt64]; omega) (by rw [Int32.toInt_toInt64, Int32.toInt_toInt64]; omega), Int32.toInt_toInt64, Int32.toInt_toInt64]
  refine vc_X6_isBeyond ⟨fun c => ⟨z1, h1 (fun r => ?_)⟩, fun c1 => ⟨fun c => ⟨z1, h1 (fun r => ?_)⟩, fun c2 => ⟨fun c => ⟨z0, h0 ?_⟩, fun c => ⟨z1, h1 (fun r => ?_)⟩⟩⟩⟩
  · rw [fa_lt, i0] at c; obtain ⟨r1, r2, r3⟩ := r; omega
  · rw [lg_cmp_lt, Int64.lt_iff_toInt_lt, Int32.toInt_toInt64, show (lN 0).toInt = 0 from rfl] at c; obtain ⟨r1, r2, r3⟩ := r; omega
  · rw [fa_lt, i0] at c1
    rw [lg_cmp_lt, Int64.lt_iff_toInt_lt, Int32.toInt_toInt64, show (lN 0).toInt = 0 from rfl] at c2
    rw [lg_cmp_le, Int64.le_iff_toInt_le, es, Int32.toInt_toInt64, e] at c
    exact ⟨by omega, by omega, c⟩
  · rw [lg_cmp_le, Int64.le_iff_toInt_le, es, Int32.toInt_toInt64, e] at c
    obtain ⟨r1, r2, r3⟩ := r; omega
/-- whether sheet k is lost, or of a lane and a length -/
def SL (x : Mem) (k : Nat) : Prop := x 2 k 1 = -1 ∧ x 2 k 2 = 0 ∧ x 29 0 k = -1
def SH (x : Mem) (k la ln : Nat) : Prop := la ≤ 2 ∧ ln ≤ 60 ∧ x 2 k 1 = nI la ∧ x 30 0 k = nI la ∧ x 2 k 2 = nI ln ∧ x 29 0 k = nI ln
theorem ISh.or (h : ISh x) {k : Nat} (hk : k < 4) : SL x k ∨ ∃ la ln, SH x k la ln := (h k hk).2.1
theorem RB1 {a : Int32} {ln : Nat} (hl : ln ≤ 60) : RB a 1 ln ↔ vp_in a ln := by
  rw [vp_in_iff]
  unfold RB
  rw [show (1 : Int32).toInt = 1 from rfl]
  omega
theorem nc_lost {k : Nat} {a : Int32} (hk : k < 4) (h : x 29 0 k = -1) (hq : Q (some (vi 1)) x) : CC (d + 2) 133 [vr 13 0, vi (nI k), vi a] x Q := by
  refine vc_X6_noCell ?_
  rw [cl60 (by omega), h]
  exact ⟨in8 hk (by omega), fun q => absurd q (by decide), fun _ => hq⟩
theorem nc_has {k ln : Nat} {a : Int32} (hk : k < 4) (hl : ln ≤ 60) (h : x 29 0 k = nI ln) (h1 : vp_in a ln → Q (some (vi 0)) x) (h0 : ¬ vp_in a ln → Q (some (vi 3)) x) : CC (d + 2) 133 [vr 13 0, vi (nI k), vi a] x Q := by
  refine vc_X6_noCell ?_
  rw [cl60 (by omega), h, nI_l (by omega)]
  refine ⟨in8 hk (by omega), fun _ => ⟨in8 hk (by omega), k_inN (N := ln) ?_ (fun c => ⟨fun q => absurd q (by decide), fun _ => h1 c⟩) (fun c => ⟨fun _ => h0 c, fun q => absurd rfl q⟩)⟩, fun q => absurd ?_ q⟩
  · rw [lN_m1 (by omega)]; omega
  · exact (nI_leI (a := 0) (by omega) (by omega)).mpr (Nat.zero_le _)
theorem ISh.put (h : ISh x) {k i : Nat} {v : Int32} (hi : i < 60) : ISh (up (up x 3 k i v) 31 0 (60 * k + i) v) := fun k' hk' => by
  obtain ⟨a, b, c⟩ := h k' hk'
  refine ⟨a, b, fun i' hi' => ?_⟩
  rw [up_k (by decide), up_app, up_app, up_k (by decide)]
  by_cases q : k' = k ∧ i' = i
  · rw [if_pos ⟨rfl, q.1, q.2⟩, if_pos ⟨rfl, rfl, by omega⟩]
  · rw [if_neg (fun w => q w.2), if_neg (fun w => q (by have := w.2.2; omega))]
    exact c i' hi'
def ctF (la : Nat) (v : Int32) : Int32 := if la = 0 then Int8.toInt32 (Int32.toInt8 v) else if la = 1 then Int16.toInt32 (Int32.toInt16 v) else v
theorem k_cut {k la : Nat} {v : Int32} (h : x 2 k 1 = nI la) (hl : la ≤ 2) (hq : Q (some (vi (ctF la v))) x) : CC (d + 1) 8 [vr 2 k, vi v] x Q := by
  have c3 : la = 0 ∨ la = 1 ∨ la = 2 := by omega
  refine vc_X3_cut ?_
  rw [h]
  rcases c3 with e | e | e <;> subst e
  · exact ⟨fun _ => hq, fun q => absurd rfl q⟩
  · exact ⟨fun q => absurd q (by decide), fun _ => ⟨fun _ => hq, fun q => absurd rfl q⟩⟩
  · exact ⟨fun q => absurd q (by decide), fun _ => ⟨fun q => absurd q (by decide), fun _ => hq⟩⟩
theorem op_put {a b c : Int32} (h : Inv x) : OP 51 134 [vr 0 0, vi a, vi b, vi c] [vr 13 0, vi a, vi b, vi c] x := by
  obtain ⟨n, l, ro, g, kd, rk, wt, wm, hs, hC, hM, hB, ⟨rc, rt, rp, rv, hR⟩, hS, hT⟩ := id h
  have h0 := h.id.u0 (v := 0)
  have hS0 : ISh (up x 0 0 5 0) := hS.fr rfl rfl rfl rfl rfl rfl
  have h01 : Inv (up (up x 0 0 5 0) 13 0 0 0) := h0.u13.inv rfl
  have hf : ∀ v, Inv (up (up (up x 0 0 5 0) 0 0 5 v) 13 0 0 v) := fun v => (h0.u0).u13.inv rfl
  refine vc_X5_put (k_isSheet (fun ca => n1 ?_) (fun ca => n0 ⟨_, rfl, ?_⟩))
  · obtain ⟨k, hk, rfl⟩ := vp_ex ca (by omega)
    rw [sh_e hS0 hk]
    refine ⟨in8 hk (by omega), hk, ?_⟩
    rcases hS0.or hk with s | ⟨la, ln, s⟩
    · refine k_isNothing (fun _ => e1 (k_comeTo ⟨_, rfl, ?_⟩)) (fun q => absurd s.1 q)
      refine vc_X6_put (k_noSheet (fun _ => e0 (nc_lost hk s.2.2 ⟨fun q => absurd q (by decide), fun _ => nc_lost hk s.2.2 (k_failed ⟨rfl, hf _⟩)⟩)) (fun q => absurd ca q))
    · obtain ⟨s0, s1, s2, s3, s4, s5⟩ := s
      refine k_isNothing (fun q => absurd (s2.symm.trans q) (nIm1 (by omega))) (fun _ => e0 (k_reaches s4 s1 (fun r => n1 (k_cut s2 s0 ?_)) (fun r => n0 (k_comeTo ⟨_, rfl, ?_⟩))))
      · rw [RB1 s1] at r
        obtain ⟨i, hi, rfl⟩ := vp_ex r (by omega)
        refine ⟨in8 (n := 60) (by omega) (by omega), _, rfl, ?_⟩
        rw [cl60 (i := i) (by omega)]
        have fin : Inv (up (up (up (up x 0 0 5 0) 3 k i (ctF la c)) 31 0 (60 * k + i) (ctF la c)) 13 0 0 0) := (ID.u13 (h0.sh ((FR.rf.up (by decide)).up (by decide)) (hS0.put (by omega)))).inv rfl
        refine vc_X6_put (k_noSheet (fun _ => e0 (nc_has hk s1 s5 (fun _ => ⟨fun _ => ?_, fun q => absurd (by decide) q⟩) (fun q => absurd (in8 hi (by omega)) q))) (fun q => absurd ca q))
        rw [at60, cl60 (i := k) (by omega), cl60 (by omega)]
        have s3' : up (up x 0 0 5 0) 3 k i (ctF la c) 30 0 k = nI la := s3
        rw [s3']
        have i240 : vp_in (nI (60 * k + i)) 240 := in8 (by omega) (by omega)
        have c3 : la = 0 ∨ la = 1 ∨ la = 2 := by omega
        refine ⟨in8 hk (by omega), ?_⟩
        rcases c3 with e | e | e <;> subst e
        · exact ⟨fun q => absurd rfl q, fun _ => ⟨i240, k_refused ⟨rfl, fin⟩⟩⟩
        · exact ⟨fun _ => ⟨in8 hk (by omega), fun q => absurd rfl q, fun _ => ⟨i240, k_refused ⟨rfl, fin⟩⟩⟩, fun q => absurd q (by decide)⟩
        · exact ⟨fun _ => ⟨in8 hk (by omega), fun _ => ⟨i240, k_refused ⟨rfl, fin⟩⟩, fun q => absurd q (by decide)⟩, fun q => absurd q (by decide)⟩
      · rw [RB1 s1] at r
        refine vc_X6_put (k_noSheet (fun _ => e0 (nc_has hk s1 s5 (fun q => absurd q r) (fun _ => ⟨fun q => absurd q (by decide), fun _ => nc_has hk s1 s5 (fun q => absurd q r) (fun _ => k_failed ⟨rfl, hf _⟩)⟩))) (fun q => absurd ca q))
  · exact vc_X6_put (k_noSheet (fun q => absurd q ca) (fun _ => e1 (k_refused ⟨rfl, h01⟩)))
theorem k_faultAs {k : Nat} {a : Int32} (h1 : x 2 k 1 = -1 → Q (some (vi 1)) x) (h2 : ¬ x 2 k 1 = -1 → ¬ x 2 k 1 = a → Q (some (vi 2)) x) (h0 : ¬ x 2 k 1 = -1 → x 2 k 1 = a → Q (some (vi 0)) x) : CC (d + 2) 6 [vr 2 k, vi a] x Q :=
  vc_X3_faultAs (k_isNothing (fun c => e1 (h1 c)) (fun c => e0 ⟨fun c2 => h2 c c2, fun c2 => h0 c c2⟩))
theorem op_cell {a b c : Int32} (h : Inv x) : OPl 52 135 [vr 0 0, vi a, vi b, vi c] [vr 13 0, vi a, vi b, vi c] x := by
  obtain ⟨n, l, ro, g, kd, rk, wt, wm, hs, hC, hM, hB, ⟨rc, rt, rp, rv, hR⟩, hS, hT⟩ := id h
  have h0 := h.id.u0 (v := 0)
  have hS0 : ISh (up x 0 0 5 0) := hS.fr rfl rfl rfl rfl rfl rfl
  have h01 : Inv (up (up x 0 0 5 0) 13 0 0 0) := h0.u13.inv rfl
  have hf : ∀ v, Inv (up (up (up (up x 0 0 5 0) 0 0 5 v) 13 0 0 0) 13 0 0 v) := fun v => ((h0.u0).u13).u13.inv rfl
  refine vc_X5_cell (k_isSheet (fun ca => e1 (k_isLane (fun cb => n1 ?_) (fun cb => n0 ⟨_, rfl, ?_⟩))) (fun ca => e0 ⟨_, rfl, ?_⟩))
  · obtain ⟨k, hk, rfl⟩ := vp_ex ca (by omega)
    obtain ⟨la', hla, rfl⟩ := vp_ex cb (by omega)
    rw [sh_e hS0 hk]
    refine ⟨in8 hk (by omega), hk, ?_⟩
    rcases hS0.or hk with s | ⟨la, ln, s⟩
    · refine k_faultAs (fun _ => ⟨fun _ => vcl_X5_cell_57 ⟨fun q => absurd q (by decide), fun _ => ⟨_, rfl, ?_⟩⟩, fun q => absurd q (by decide)⟩) (fun q => absurd s.1 q) (fun q => absurd s.1 q)
      refine vc_X6_cell (k_noSheet (fun _ => n0 (k_inN (N := 3) rfl (fun _ => n1 ?_) (fun q => absurd cb q))) (fun q => absurd ca q))
      rw [cl60 (by omega)]
      refine ⟨in8 hk (by omega), fun _ => nc_lost hk s.2.2 ⟨fun q => absurd q (by decide), fun _ => nc_lost hk s.2.2 (vc_X6_failedLong (vc_X6_lost ⟨rfl, hf _⟩))⟩, fun q => absurd ?_ q⟩
      rw [show up (up (up x 0 0 5 0) 0 0 5 1) 13 0 0 0 29 0 k = -1 from s.2.2]
      decide
    · obtain ⟨s0, s1, s2, s3, s4, s5⟩ := s
      have nn : ¬ nI ln < 0 := nI_pos (by omega)
      refine k_faultAs (fun q => absurd (s2.symm.trans q) (nIm1 (by omega))) (fun _ qa => ⟨fun _ => vcl_X5_cell_57 ⟨fun q => absurd q (by decide), fun _ => ⟨_, rfl, ?_⟩⟩, fun q => absurd q (by decide)⟩) (fun _ qa => ⟨fun q => absurd rfl q, fun _ => k_reaches s4 s1 (fun r => n1 (vcl_X5_cell_57 ⟨fun _ => ?_, fun q => absurd rfl q⟩)) (fun r => n0 (vcl_X5_cell_57 ⟨fun q => absurd q (by decide), fun _ => ⟨_, rfl, ?_⟩⟩))⟩)
      · refine vc_X6_cell (k_noSheet (fun _ => n0 (k_inN (N := 3) rfl (fun _ => n1 ?_) (fun q => absurd cb q))) (fun q => absurd ca q))
        rw [cl60 (by omega)]
        refine ⟨in8 hk (by omega), fun q => absurd (by rw [← s5]; exact q) nn, fun _ => ⟨in8 hk (by omega), fun q => absurd (s2.trans (s3.symm.trans q)) qa, fun _ => vc_X6_failedLong (vc_X6_lost ⟨rfl, hf _⟩)⟩⟩
      · rw [RB1 s1] at r
        obtain ⟨i, hi, rfl⟩ := vp_ex r (by omega)
        refine ⟨in8 (n := 60) (by omega) (by omega), _, rfl, ?_⟩
        rw [cl60 (i := i) (by omega)]
        refine vc_X6_cell (k_noSheet (fun _ => n0 (k_inN (N := 3) rfl (fun _ => n1 ?_) (fun q => absurd cb q))) (fun q => absurd ca q))
        rw [at60, cl60 (i := k) (by omega)]
        refine ⟨in8 hk (by omega), fun q => absurd (by rw [← s5]; exact q) nn, fun _ => ⟨in8 hk (by omega), fun _ => nc_has hk s1 s5 (fun _ => ⟨fun _ => ⟨in8 (by omega) (by omega), ?_, h01⟩, fun q => absurd (by decide) q⟩) (fun q => absurd (in8 hi (by omega)) q), fun q => absurd (s3.trans (s2.symm.trans qa)) q⟩⟩
        rw [cl60 (by omega)]
        exact congrArg (fun v => some (vl (Int32.toInt64 v))) ((hS0 k hk).2.2 i (by omega)).symm
      · rw [RB1 s1] at r
        refine vc_X6_cell (k_noSheet (fun _ => n0 (k_inN (N := 3) rfl (fun _ => n1 ?_) (fun q => absurd cb q))) (fun q => absurd ca q))
        rw [cl60 (i := k) (by omega)]
        refine ⟨in8 hk (by omega), fun q => absurd (by rw [← s5]; exact q) nn, fun _ => ⟨in8 hk (by omega), fun _ => nc_has hk s1 s5 (fun q => absurd q r) (fun _ => ⟨fun q => absurd q (by decide), fun _ => nc_has hk s1 s5 (fun q => absurd q r) (fun _ => vc_X6_failedLong (vc_X6_lost ⟨rfl, hf _⟩))⟩), fun q => absurd (s3.trans (s2.symm.trans qa)) q⟩⟩
  · exact vc_X6_cell (k_noSheet (fun _ => n0 (k_inN (N := 3) rfl (fun q => absurd q cb) (fun _ => n0 (vc_X6_lost ⟨rfl, h01⟩)))) (fun q => absurd ca q))
  · exact vc_X6_cell (k_noSheet (fun q => absurd q ca) (fun _ => n1 (vc_X6_lost ⟨rfl, h01⟩)))
end
