/-! calls: lose, sheet, put, cell -/
theorem cl60 {i : Nat} (h : i < 1000) : (nI i).toNatClampNeg = i := nI_clamp (by omega)
theorem ISh.at {x : Mem} (h : ISh x) {k : Nat} (hk : k < 4) : x 1 0 k = nI k := (h k hk).1
theorem sh_e {x : Mem} (h : ISh x) {k : Nat} (hk : k < 4) : (x 1 0 (nI k).toNatClampNeg).toNatClampNeg = k := by
  rw [cl60 (by omega), h.at hk, cl60 (by omega)]
theorem ISh.lose {x : Mem} (h : ISh x) {k : Nat} : ISh (up (up (up x 2 k 1 (-1)) 2 k 2 0) 29 0 k (-1)) := fun k' hk' => by
  obtain ⟨a, b, c⟩ := h k' hk'
  by_cases q : k' = k
  · subst q
    refine ⟨a, Or.inl ⟨?_, ?_, ?_⟩, c⟩ <;> simp [up_app]
  · refine ⟨a, ?_, c⟩
    simp only [up_app, q, and_false, false_and, if_false]
    exact b
section
variable {d : Nat} {Q : Option AV → Mem → Prop} {x : Mem}
theorem k_isNothing {k : Nat} (h1 : x 2 k 1 = -1 → Q (some (vi 1)) x) (h0 : ¬ x 2 k 1 = -1 → Q (some (vi 0)) x) : CC (d + 1) 3 [vr 2 k] x Q := vc_X3_isNothing ⟨fun c => ⟨z0, h0 c⟩, fun c => ⟨z1, h1 c⟩⟩
theorem nIm1 {n : Nat} (h : n < 1000) : ¬ nI n = -1 := fun q => by
  have : ¬ nI n < 0 := nI_pos (by omega)
  rw [q] at this
  exact this (by decide)
theorem op_lose {a : Int32} (h : Inv x) : OP 50 132 [vr 0 0, vi a] [vr 13 0, vi a] x := by
  obtain ⟨n, l, ro, g, kd, rk, wt, wm, hs, hC, hM, hB, ⟨rc, rt, rp, rv, hR⟩, hS, hT⟩ := id h
  refine vc_X5_lose (k_isSheet (fun c => n1 ?_) (fun c => n0 ⟨_, rfl, vc_X6_lose (k_noSheet (fun q => absurd q c) (fun _ => e1 ⟨rfl, h⟩))⟩))
  obtain ⟨k, hk, rfl⟩ := vp_ex c (by omega)
  rw [sh_e hS hk]
  have hfin : Inv (up (up (up x 2 k 1 (-1)) 2 k 2 0) 29 0 k (-1)) := (h.id.sh (((FR.rf.up (by decide)).up (by decide)).up (by decide)) hS.lose).inv hT.2
  obtain ⟨_, b, _⟩ := hS k hk
  refine ⟨in8 hk (by omega), hk, vc_X3_drop (k_isNothing (fun c1 => ?_) (fun c1 => ?_))⟩
  · refine n1 ⟨z0, fun _ => ⟨_, rfl, vc_X6_lose (k_noSheet (fun _ => e0 ?_) (fun q => absurd c q))⟩, fun q => absurd rfl q⟩
    rw [cl60 (by omega)]
    have e9 : x 29 0 k = -1 := by
      rcases b with ⟨_, _, b3⟩ | ⟨la, ln, l1, l2, b1, _⟩
      · exact b3
      · rw [c1] at b1
        exact absurd b1.symm (nIm1 (by omega))
    refine ⟨in8 hk (by omega), fun q => absurd (show (0 : Int32) ≤ x 29 0 k from q) (by rw [e9]; decide), fun _ => ⟨in8 hk (by omega), rfl, hfin⟩⟩
  · refine n0 ⟨z1, fun q => absurd q (by decide), fun _ => ⟨_, rfl, vc_X6_lose (k_noSheet (fun _ => e0 ?_) (fun q => absurd c q))⟩⟩
    rw [cl60 (by omega)]
    have e9 : (0 : Int32) ≤ x 29 0 k := by
      rcases b with ⟨b1, _⟩ | ⟨la, ln, l1, l2, b1, b2, b3, b4⟩
      · exact absurd b1 c1
      · rw [b4]
        exact nI_leI (a := 0) (by omega) (by omega) |>.mpr (Nat.zero_le _)
    refine ⟨in8 hk (by omega), fun _ => ⟨in8 hk (by omega), rfl, hfin⟩, fun q => absurd (show (0 : Int32) ≤ x 29 0 k from e9) q⟩
theorem k_renew {k la n : Nat} (hn : n ≤ 60) (hq : ∀ x', FR [2, 3] x x' → (∀ k' j, x' 2 k' j = if k' = k ∧ j = 1 then nI la else if k' = k ∧ j = 2 then nI n else x 2 k' j) → (∀ k' i, x' 3 k' i = if k' = k ∧ i < n then 0 else x 3 k' i) → Q none x') : CC (d + 1) 4 [vr 2 k, vi (nI la), vi (nI n)] x Q := by
  have key : ∀ (r i : Nat) (z : Mem), i + r = n → FR [3] (up (up x 2 k 1 (nI la)) 2 k 2 (nI n)) z → (∀ k' i', z 3 k' i' = if k' = k ∧ i' < i then 0 else x 3 k' i') → AT 4 d Q 12 [vr 2 k, vi (nI la), vi (nI n), vi (nI i)] z := by
    intro r
    induction r with
    | zero =>
      intro i z hi hf hz
      have e : i = n := by omega
      subst e
      refine vcl_X3_renew_12 ⟨fun _ => hq z ((((FR.rf.up (by decide)).up (by decide) : FR [2, 3] x _)).tr (hf.sub (by decide))) (fun k' j => ?_) hz, fun q => absurd (by rw [hf 2 (by decide), up_s]; exact nI_le (Nat.le_refl _) (by omega)) q⟩
      rw [hf 2 (by decide), up_app, up_app]
      by_cases q : k' = k
      · subst q
        by_cases q1 : j = 1
        · subst q1; simp
        · by_cases q2 : j = 2
          · subst q2; simp
          · simp [q1, q2]
      · simp [q]
    | succ r ih =>
      intro i z hi hf hz
      have hin : i < n := by omega
      refine vcl_X3_renew_12 ⟨fun q => absurd (by rw [hf 2 (by decide), up_s] at q; exact q) (nI_ge hin (by omega)), fun _ => ⟨in8 (n := 60) (by omega) (by omega), ?_⟩⟩
      rw [cl60 (by omega), nI_1]
      refine ih (i + 1) _ (by omega) (hf.up (by decide)) (fun k' i' => ?_)
      rw [up_app, hz k' i']
      by_cases q : k' = k
      · subst q
        by_cases qi : i' = i
        · subst qi; rw [if_pos ⟨rfl, rfl, rfl⟩, if_pos ⟨rfl, by omega⟩]
        · rw [if_neg (fun w => qi w.2.2)]
          by_cases qq : i' < i
          · rw [if_pos ⟨rfl, qq⟩, if_pos ⟨rfl, by omega⟩]
          · rw [if_neg (fun w => qq w.2), if_neg (fun w => qq (by omega))]
      · rw [if_neg (fun w => q w.2.1), if_neg (fun w => q w.1), if_neg (fun w => q w.1)]
  exact vc_X3_renew (key n 0 _ (by omega) FR.rf (fun k' i' => by rw [if_neg (fun w => absurd w.2 (Nat.not_lt_zero i'))]; rfl))
theorem at60 {k i : Nat} : (60 : Int32) * nI k + nI i = nI (60 * k + i) := by rw [show (60 : Int32) = nI 60 from rfl, pk_mul, nI_add]
theorem op_sheet {a b c : Int32} (h : Inv x) : OP 49 131 [vr 0 0, vi a, vi b, vi c] [vr 13 0, vi a, vi b, vi c] x := by
  obtain ⟨n, l, ro, g, kd, rk, wt, wm, hs, hC, hM, hB, ⟨rc, rt, rp, rv, hR⟩, hS, hT⟩ := id h
  have h0 := h.id.u0 (v := 0)
  have hS0 : ISh (up x 0 0 5 0) := hS.fr rfl rfl rfl rfl rfl rfl
  have h01 : Inv (up (up x 0 0 5 0) 13 0 0 0) := h0.u13.inv rfl
  refine vc_X5_sheet (k_isSheet (fun ca => n1 (k_isLane (fun cb => e1 ?_) (fun cb => e0 ⟨_, rfl, ?_⟩))) (fun ca => n0 ⟨_, rfl, ?_⟩))
  · refine ⟨fun c60 => ⟨fun c0 => ?_, fun c0 => k_comeTo ⟨_, rfl, ?_⟩⟩, fun c60 => ⟨_, rfl, ?_⟩⟩
    · have hcn : vp_in c 61 := by
        rw [vp_in_iff]; rw [fa_le] at c60 c0
        exact ⟨c0, by rw [show (60 : Int32).toInt = 60 from rfl] at c60; omega⟩
      obtain ⟨k, hk, rfl⟩ := vp_ex ca (by omega)
      obtain ⟨la, hla, rfl⟩ := vp_ex cb (by omega)
      obtain ⟨m, hm, rfl⟩ := vp_ex hcn (by omega)
      rw [sh_e hS0 hk]
      refine ⟨in8 hk (by omega), hk, k_renew (by omega) (fun x1 f1 e2 e3 => ⟨_, rfl, ?_⟩)⟩
      refine vc_X6_sheet (k_noSheet (fun _ => e0 (k_inN (N := 3) rfl (fun _ => e1 ⟨fun _ => ⟨fun _ => ⟨in8 hk (by omega), in8 hk (by omega), ?_⟩, fun q => absurd c0 q⟩, fun q => absurd c60 q⟩) (fun q => absurd cb q))) (fun q => absurd ca q))
      have ek : (nI k).toNatClampNeg = k := cl60 (by omega)
      rw [ek]
      have key : ∀ (r i : Nat) (z : Mem), i + r = m → FR [31] (up (up x1 29 0 k (nI m)) 30 0 k (nI la)) z → (∀ p, z 31 0 p = if 60 * k ≤ p ∧ p < 60 * k + i then 0 else x 31 0 p) → AT 131 7 (fun v' x2 => v' = some (vi 1) ∧ Inv x2) 65 [vr 13 0, vi (nI k), vi (nI la), vi (nI m), vi (nI i)] z := by
        intro r
        induction r with
        | zero =>
          intro i z hi hf hz
          have e : i = m := by omega
          subst e
          refine vcl_X6_sheet_65 ⟨fun _ => k_refused ⟨rfl, ?_⟩, fun q => absurd (nI_le (Nat.le_refl _) (by omega)) q⟩
          have f2 : FR [1, 2, 3, 29, 30, 31, 32] (up x 0 0 5 0) z := (f1.sub (by decide)).tr ((((FR.rf.up (by decide)).up (by decide) : FR [1, 2, 3, 29, 30, 31, 32] x1 _)).tr (hf.sub (by decide)))
          refine (ID.u13 (h0.sh f2 (fun k' hk' => ?_))).inv ?_
          · obtain ⟨s1, s2, s3⟩ := hS0 k' hk'
            rw [hf 1 (by decide), hf 2 (by decide), hf 3 (by decide), hf 29 (by decide), hf 30 (by decide)]
            refine ⟨?_, ?_, fun j hj => ?_⟩
            · show x1 1 0 k' = _
              rw [f1 1 (by decide)]; exact s1
            · show (x1 2 k' 1 = -1 ∧ x1 2 k' 2 = 0 ∧ (up (up x1 29 0 k (nI i)) 30 0 k (nI la)) 29 0 k' = -1) ∨ ∃ la_1 ln, la_1 ≤ 2 ∧ ln ≤ 60 ∧ x1 2 k' 1 = nI la_1 ∧ (up (up x1 29 0 k (nI i)) 30 0 k (nI la)) 30 0 k' = nI la_1 ∧ x1 2 k' 2 = nI ln ∧ (up (up x1 29 0 k (nI i)) 30 0 k (nI la)) 29 0 k' = nI ln
              rw [e2, e2]
              by_cases q : k' = k
              · subst q
                right
                refine ⟨la, i, by omega, by omega, ?_, ?_, ?_, ?_⟩ <;> simp [up_app]
              · have u1 : (up (up x1 29 0 k (nI i)) 30 0 k (nI la)) 29 0 k' = x 29 0 k' := by
                  rw [up_n (by omega), up_n (by omega), f1 29 (by decide)]; rfl
                have u2 : (up (up x1 29 0 k (nI i)) 30 0 k (nI la)) 30 0 k' = x 30 0 k' := by
                  rw [up_n (by omega), up_n (by omega), f1 30 (by decide)]; rfl
                rw [u1, u2]
                simp only [q, false_and, if_false]
                exact s2
            · show x1 3 k' j = _
              rw [e3, hz]
              have s3j : x 3 k' j = x 31 0 (60 * k' + j) := s3 j hj
              by_cases q : k' = k ∧ j < i
              · rw [if_pos q, if_pos (by omega)]
              · rw [if_neg q, if_neg (by omega)]; exact s3j
          · show z 0 0 5 = 0
            rw [f2 0 (by decide)]; rfl
        | succ r ih =>
          intro i z hi hf hz
          have him : i < m := by omega
          refine vcl_X6_sheet_65 ⟨fun q => absurd q (nI_ge him (by omega)), fun _ => ?_⟩
          rw [at60]
          refine ⟨in8 (n := 240) (by omega) (by omega), ?_⟩
          rw [cl60 (by omega), nI_1]
          refine ih (i + 1) _ (by omega) (hf.up (by decide)) (fun p => ?_)
          rw [up_app, hz p]
          by_cases qi : p = 60 * k + i
          · rw [if_pos ⟨rfl, rfl, qi⟩, if_pos (by omega)]
          · rw [if_neg (fun w => qi w.2.2)]
            by_cases qq : 60 * k ≤ p ∧ p < 60 * k + i
            · rw [if_pos qq, if_pos (by omega)]
            · rw [if_neg qq, if_neg (by omega)]
      refine key m 0 _ (by omega) FR.rf (fun p => ?_)
      rw [if_neg (by omega)]
      show x1 31 0 p = _
      rw [f1 31 (by decide)]
      rfl
    · refine vc_X6_sheet (k_noSheet (fun _ => e0 (k_inN (N := 3) rfl (fun _ => e1 ⟨fun _ => ⟨fun q => absurd q c0, fun _ => k_failed ⟨rfl, (h0.u0).u13.inv rfl⟩⟩, fun q => absurd c60 q⟩) (fun q => absurd cb q))) (fun q => absurd ca q))
    · refine vc_X6_sheet (k_noSheet (fun _ => e0 (k_inN (N := 3) rfl (fun _ => e1 ⟨fun q => absurd q c60, fun _ => k_refused ⟨rfl, h01⟩⟩) (fun q => absurd cb q))) (fun q => absurd ca q))
  · exact vc_X6_sheet (k_noSheet (fun _ => e0 (k_inN (N := 3) rfl (fun q => absurd q cb) (fun _ => e0 (k_refused ⟨rfl, h01⟩)))) (fun q => absurd ca q))
  · exact vc_X6_sheet (k_noSheet (fun q => absurd q ca) (fun _ => e1 (k_refused ⟨rfl, h01⟩)))
end
