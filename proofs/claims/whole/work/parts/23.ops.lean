/-! calls: copy, swap, odds -/
theorem cpy_app {f g : Nat → Int32} {sp dp n k : Nat} : va_cpy f g sp dp n k = if dp ≤ k ∧ k < dp + n then f (sp + (k - dp)) else g k := rfl
theorem at60b {k i j : Nat} : (60 : Int32) * nI k + nI i + nI j = nI (60 * k + i + j) := by rw [at60, nI_add]
theorem RB_ex {a b : Int32} {ln : Nat} (hl : ln ≤ 60) (h : RB a b ln) : ∃ i m, i + m ≤ ln ∧ a = nI i ∧ b = nI m := by
  obtain ⟨h1, h2, h3⟩ := h
  obtain ⟨i, hi, rfl⟩ := vp_ex (a := a) (n := 61) (vp_in_iff.mpr ⟨by omega, by omega⟩) (by omega)
  obtain ⟨m, hm, rfl⟩ := vp_ex (a := b) (n := 61) (vp_in_iff.mpr ⟨by omega, by omega⟩) (by omega)
  rw [nIi (by omega), nIi (by omega)] at h3
  exact ⟨i, m, by omega, rfl, rfl⟩
section
variable {d : Nat} {Q : Option AV → Mem → Prop} {x : Mem}
theorem op_copy {a b c e f : Int32} (h : Inv x) : OP 53 137 [vr 0 0, vi a, vi b, vi c, vi e, vi f] [vr 13 0, vi a, vi b, vi c, vi e, vi f] x := by
  have hT : IT x := by
    obtain ⟨n, l, ro, g, kd, rk, wt, wm, hs, hC, hM, hB, hR, hS, hT⟩ := id h
    exact hT
  have hS : ISh x := by
    obtain ⟨n, l, ro, g, kd, rk, wt, wm, hs, hC, hM, hB, hR, hS, hT⟩ := id h
    exact hS
  have h0 := h.id.u0 (v := 0)
  have hS0 : ISh (up x 0 0 5 0) := hS.fr rfl rfl rfl rfl rfl rfl
  have h01 : Inv (up (up x 0 0 5 0) 13 0 0 0) := h0.u13.inv rfl
  have hf : ∀ v, Inv (up (up (up x 0 0 5 0) 0 0 5 v) 13 0 0 v) := fun v => (h0.u0).u13.inv rfl
  refine vc_X5_copy (k_isSheet (fun ca => e1 (k_isSheet (fun cc => n1 ?_) (fun cc => n0 ⟨_, rfl, ?_⟩))) (fun ca => e0 ⟨_, rfl, ?_⟩))
  · obtain ⟨k, hk, rfl⟩ := vp_ex ca (by omega)
    obtain ⟨k2, hk2, rfl⟩ := vp_ex cc (by omega)
    rw [sh_e hS0 hk, sh_e hS0 hk2]
    refine ⟨in8 hk (by omega), hk, in8 hk2 (by omega), hk2, ?_⟩
    rcases hS0.or hk with s | ⟨la, ln, s⟩
    · refine k_isNothing (fun _ => n1 (k_comeTo ⟨_, rfl, vc_X6_copy (k_noSheet (fun _ => n0 (k_noSheet (fun _ => e0 ⟨in8 hk (by omega), ?_⟩) (fun q => absurd cc q))) (fun q => absurd ca q))⟩)) (fun q => absurd s.1 q)
      rw [cl60 (i := k) (by omega)]
      refine ⟨fun _ => k_failed ⟨rfl, hf _⟩, fun q => absurd (show up (up x 0 0 5 0) 0 0 5 1 29 0 k < 0 from ?_) q⟩
      rw [show up (up x 0 0 5 0) 0 0 5 1 29 0 k = -1 from s.2.2]; decide
    · obtain ⟨s0, s1, s2, s3, s4, s5⟩ := s
      have nn : ¬ nI ln < 0 := nI_pos (by omega)
      refine k_isNothing (fun q => absurd (s2.symm.trans q) (nIm1 (by omega))) (fun _ => n0 ?_)
      rcases hS0.or hk2 with u | ⟨la2, ln2, u⟩
      · refine k_isNothing (fun _ => e1 (k_comeTo ⟨_, rfl, vc_X6_copy (k_noSheet (fun _ => n0 (k_noSheet (fun _ => e0 ⟨in8 hk (by omega), ?_⟩) (fun q => absurd cc q))) (fun q => absurd ca q))⟩)) (fun q => absurd u.1 q)
        rw [cl60 (i := k) (by omega), cl60 (i := k2) (by omega)]
        refine ⟨fun q => absurd (by rw [← s5]; exact q) nn, fun _ => ⟨in8 hk2 (by omega), fun q => absurd (show (0 : Int32) ≤ up (up x 0 0 5 0) 0 0 5 1 29 0 k2 from q) ?_, fun _ => k_failed ⟨rfl, hf _⟩⟩⟩
        rw [show up (up x 0 0 5 0) 0 0 5 1 29 0 k2 = -1 from u.2.2]; decide
      · obtain ⟨u0, u1, u2, u3, u4, u5⟩ := u
        have p2 : (0 : Int32) ≤ nI ln2 := (nI_leI (a := 0) (by omega) (by omega)).mpr (Nat.zero_le _)
        refine k_isNothing (fun q => absurd (u2.symm.trans q) (nIm1 (by omega))) (fun _ => e0 ⟨fun el => ?_, fun el => k_comeTo ⟨_, rfl, vc_X6_copy (k_noSheet (fun _ => n0 (k_noSheet (fun _ => e0 ⟨in8 hk (by omega), ?_⟩) (fun q => absurd cc q))) (fun q => absurd ca q))⟩⟩)
        · -- of the same lane
          have el2 : ∀ v, up (up x 0 0 5 0) 0 0 5 v 30 0 k = up (up x 0 0 5 0) 0 0 5 v 30 0 k2 := fun v => (s3.trans (s2.symm.trans el)).trans (u2.trans u3.symm)
          have mid : ∀ (v : Int32) (R : Option AV → Mem → Prop), (CC 7 136 [vi b, vl (Int32.toInt64 f), vi (nI ln)] (up (up x 0 0 5 0) 0 0 5 v) fun v5 x5 => rI v5 fun r5 => ((¬ r5 = 0 → (CC 7 87 [vr 13 0, vi (3 : Int32)] x5 fun v6 x6 => rI v6 fun r6 => (R (some (vi r6)) x6))) ∧ (r5 = 0 → (vp_in (nI k2) 4 ∧ (CC 7 136 [vi e, vl (Int32.toInt64 f), vi (x5 29 0 k2)] x5 fun v7 x7 => rI v7 fun r7 => ((r7 = 0 → (AT 137 7 R 107 [vr 13 0, vi (nI k), vi b, vi (nI k2), vi e, vi f, vi (0 : Int32)] x7)) ∧ (¬ r7 = 0 → (CC 7 87 [vr 13 0, vi (3 : Int32)] x7 fun v8 x8 => rI v8 fun r8 => (R (some (vi r8)) x8))))))))) → CC 8 137 [vr 13 0, vi (nI k), vi b, vi (nI k2), vi e, vi f] (up (up x 0 0 5 0) 0 0 5 v) R := by
            intro v R w
            refine vc_X6_copy (k_noSheet (fun _ => n0 (k_noSheet (fun _ => e0 ⟨in8 hk (by omega), ?_⟩) (fun q => absurd cc q))) (fun q => absurd ca q))
            rw [cl60 (i := k) (by omega), cl60 (i := k2) (by omega)]
            refine ⟨fun q => absurd (by rw [← s5]; exact q) nn, fun _ => ⟨in8 hk2 (by omega), fun _ => ⟨in8 hk (by omega), in8 hk2 (by omega), fun _ => ⟨in8 hk (by omega), ?_⟩, fun q => absurd (el2 v) q⟩, fun q => absurd (show (0 : Int32) ≤ up (up x 0 0 5 0) 0 0 5 v 29 0 k2 from ?_) q⟩⟩
            · rw [show up (up x 0 0 5 0) 0 0 5 v 29 0 k = nI ln from s5]; exact w
            · rw [show up (up x 0 0 5 0) 0 0 5 v 29 0 k2 = nI ln2 from u5]; exact p2
          refine k_reaches s4 s1 (fun r1 => e1 (k_reaches u4 u1 (fun r2 => n1 ?_) (fun r2 => n0 (k_comeTo ⟨_, rfl, ?_⟩)))) (fun r1 => e0 (k_comeTo ⟨_, rfl, ?_⟩))
          · obtain ⟨i, m, him, rfl, rfl⟩ := RB_ex s1 r1
            obtain ⟨j, m', hjm, rfl, em⟩ := RB_ex u1 r2
            have em2 : m = m' := (nI_eq (by omega) (by omega)).mp em
            subst em2
            rw [cl60 (i := i) (by omega), cl60 (i := j) (by omega), cl60 (i := m) (by omega)]
            refine ⟨⟨nI_pos (by omega), nI_pos (by omega), nI_pos (by omega), by omega, by omega⟩, rfl, _, rfl, ?_⟩
            have exx : ∃ Y, Y = setR (up x 0 0 5 0) 3 k2 (va_cpy (up x 0 0 5 0 3 k) (up x 0 0 5 0 3 k2) i j m) := ⟨_, rfl⟩
            obtain ⟨Y, eY⟩ := exx
            rw [← eY]
            have fY : FR [3] (up x 0 0 5 0) Y := fun q hq => by
              rw [eY]
              funext a' b'
              simp only [setR]
              rw [if_neg (fun w => hq (by rw [w.1]; decide))]
            have Y3 : ∀ k' p, Y 3 k' p = if k' = k2 ∧ j ≤ p ∧ p < j + m then x 3 k (i + (p - j)) else x 3 k' p := fun k' p => by
              rw [eY]
              simp only [setR]
              by_cases q : k' = k2
              · subst q
                rw [if_pos (by simp), cpy_app]
                by_cases q2 : j ≤ p ∧ p < j + m
                · rw [if_pos q2, if_pos ⟨rfl, q2⟩]; rfl
                · rw [if_neg q2, if_neg (fun w => q2 w.2)]; rfl
              · rw [if_neg (fun w => q w.2), if_neg (fun w => q w.1)]; rfl
            refine vc_X6_copy (k_noSheet (fun _ => n0 (k_noSheet (fun _ => e0 ?_) (fun q => absurd cc q))) (fun q => absurd ca q))
            rw [cl60 (i := k) (by omega), cl60 (i := k2) (by omega), fY 29 (by decide), fY 30 (by decide)]
            rw [show up x 0 0 5 0 29 0 k = nI ln from s5, show up x 0 0 5 0 29 0 k2 = nI ln2 from u5]
            refine ⟨in8 hk (by omega), fun q => absurd q nn, fun _ => ⟨in8 hk2 (by omega), fun _ => ⟨in8 hk (by omega), in8 hk2 (by omega), fun _ => ⟨in8 hk (by omega), k_isBeyond s1 (fun q => absurd r1 q) (fun _ => n0 ⟨in8 hk2 (by omega), ?_⟩)⟩, fun q => absurd (el2 0) q⟩, fun q => absurd p2 q⟩⟩
            rw [fY 29 (by decide), show up x 0 0 5 0 29 0 k2 = nI ln2 from u5]
            refine k_isBeyond u1 (fun q => absurd r2 q) (fun _ => e0 ?_)
            -- first loop
            have l2 : ∀ (r q : Nat) (z : Mem), q + r = m → FR [31, 32] Y z → (∀ p, p < m → z 32 0 p = x 31 0 (60 * k + i + p)) → (∀ p, z 31 0 p = if 60 * k2 + j ≤ p ∧ p < 60 * k2 + j + q then x 31 0 (60 * k + i + (p - (60 * k2 + j))) else x 31 0 p) → AT 137 7 (fun v' x2 => v' = some (vi (nI m)) ∧ Inv x2) 144 [vr 13 0, vi (nI k), vi (nI i), vi (nI k2), vi (nI j), vi (nI m), vi (nI q)] z := by
              intro r
              induction r with
              | zero =>
                intro q z hq hfz z32 z31
                have e : q = m := by omega
                subst e
                refine vcl_X6_copy_144 ⟨fun _ => k_refused ⟨rfl, ?_⟩, fun c => absurd (nI_le (Nat.le_refl _) (by omega)) c⟩
                have f2 : FR [1, 2, 3, 29, 30, 31, 32] (up x 0 0 5 0) z := (fY.sub (by decide)).tr (hfz.sub (by decide))
                refine (ID.u13 (h0.sh f2 (fun k' hk' => ?_))).inv ?_
                · obtain ⟨t1, t2, t3⟩ := hS0 k' hk'
                  rw [hfz 1 (by decide), fY 1 (by decide), hfz 2 (by decide), fY 2 (by decide), hfz 3 (by decide), hfz 29 (by decide), fY 29 (by decide), hfz 30 (by decide), fY 30 (by decide)]
                  refine ⟨t1, t2, fun p hp => ?_⟩
                  rw [Y3, z31]
                  have t3' : x 3 k' p = x 31 0 (60 * k' + p) := t3 p hp
                  by_cases c1 : k' = k2 ∧ j ≤ p ∧ p < j + q
                  · rw [if_pos c1, if_pos (by omega), (hS k hk).2.2 _ (by omega)]
                    congr 1
                    omega
                  · rw [if_neg c1, if_neg (by omega)]; exact t3'
                · show z 0 0 5 = 0
                  rw [f2 0 (by decide)]; rfl
              | succ r ih =>
                intro q z hq hfz z32 z31
                have hqm : q < m := by omega
                refine vcl_X6_copy_144 ⟨fun c => absurd c (nI_ge hqm (by omega)), fun _ => ⟨in8 (n := 60) (by omega) (by omega), ?_⟩⟩
                rw [at60b, cl60 (i := q) (by omega), cl60 (by omega), z32 q hqm, nI_1]
                refine ⟨in8 (n := 240) (by omega) (by omega), ih (q + 1) _ (by omega) (hfz.up (by decide)) (fun p hp => z32 p hp) (fun p => ?_)⟩
                rw [up_app, z31 p]
                by_cases c1 : p = 60 * k2 + j + q
                · rw [if_pos ⟨rfl, rfl, c1⟩, if_pos (by omega)]
                  congr 1
                  omega
                · rw [if_neg (fun w => c1 w.2.2)]
                  by_cases c2 : 60 * k2 + j ≤ p ∧ p < 60 * k2 + j + q
                  · rw [if_pos c2, if_pos (by omega)]
                  · rw [if_neg c2, if_neg (by omega)]
            have l1 : ∀ (r q : Nat) (z : Mem), q + r = m → FR [32] Y z → (∀ p, p < q → z 32 0 p = x 31 0 (60 * k + i + p)) → AT 137 7 (fun v' x2 => v' = some (vi (nI m)) ∧ Inv x2) 107 [vr 13 0, vi (nI k), vi (nI i), vi (nI k2), vi (nI j), vi (nI m), vi (nI q)] z := by
              intro r
              induction r with
              | zero =>
                intro q z hq hfz z32
                have e : q = m := by omega
                subst e
                refine vcl_X6_copy_107 ⟨fun _ => l2 q 0 z (by omega) (hfz.sub (by decide)) z32 (fun p => ?_), fun c => absurd (nI_le (Nat.le_refl _) (by omega)) c⟩
                rw [if_neg (by omega), hfz 31 (by decide), fY 31 (by decide)]; rfl
              | succ r ih =>
                intro q z hq hfz z32
                have hqm : q < m := by omega
                refine vcl_X6_copy_107 ⟨fun c => absurd c (nI_ge hqm (by omega)), fun _ => ?_⟩
                rw [at60b, cl60 (i := q) (by omega), cl60 (by omega), nI_1]
                refine ⟨in8 (n := 240) (by omega) (by omega), in8 (n := 60) (by omega) (by omega), ih (q + 1) _ (by omega) (hfz.up (by decide)) (fun p hp => ?_)⟩
                rw [up_app]
                by_cases c1 : p = q
                · subst c1
                  rw [if_pos ⟨rfl, rfl, rfl⟩, hfz 31 (by decide), fY 31 (by decide)]; rfl
                · rw [if_neg (fun w => c1 w.2.2)]; exact z32 p (by omega)
            exact l1 m 0 Y (by omega) FR.rf (fun p hp => absurd hp (Nat.not_lt_zero p))
          · refine mid 3 _ (k_isBeyond s1 (fun q => absurd r1 q) (fun _ => n0 ⟨in8 hk2 (by omega), ?_⟩))
            rw [show up (up x 0 0 5 0) 0 0 5 3 29 0 k2 = nI ln2 from u5]
            exact k_isBeyond u1 (fun _ => e1 (k_failed ⟨rfl, hf _⟩)) (fun q => absurd q r2)
          · exact mid 3 _ (k_isBeyond s1 (fun _ => n1 (k_failed ⟨rfl, hf _⟩)) (fun q => absurd q r1))
        · rw [cl60 (i := k) (by omega), cl60 (i := k2) (by omega)]
          refine ⟨fun q => absurd (by rw [← s5]; exact q) nn, fun _ => ⟨in8 hk2 (by omega), fun _ => ⟨in8 hk (by omega), in8 hk2 (by omega), fun q => absurd (s2.trans (s3.symm.trans (q.trans (u3.trans u2.symm)))) el, fun _ => k_failed ⟨rfl, hf _⟩⟩, fun q => absurd (show (0 : Int32) ≤ up (up x 0 0 5 0) 0 0 5 2 29 0 k2 from ?_) q⟩⟩
          rw [show up (up x 0 0 5 0) 0 0 5 2 29 0 k2 = nI ln2 from u5]; exact p2
  · exact vc_X6_copy (k_noSheet (fun _ => n0 (k_noSheet (fun q => absurd q cc) (fun _ => e1 (k_refused ⟨rfl, h01⟩)))) (fun q => absurd ca q))
  · exact vc_X6_copy (k_noSheet (fun q => absurd q ca) (fun _ => n1 (k_refused ⟨rfl, h01⟩)))
end
