/-! calls: odds, plan -/
def hv : Nat → Nat → Nat → Nat × Nat
  | 0, u, v => (u, v)
  | f + 1, u, v => if v ≤ 1 then (u, v) else if u % 2 = 0 then hv f (u / 2) (v / 2) else (u, v)
theorem hv_ok : ∀ n, n < 9 → ∀ u, u < 257 → hv 8 u (2 ^ n) = (u / Nat.gcd u (2 ^ n), 2 ^ n / Nat.gcd u (2 ^ n)) := by decide +kernel
theorem shl_l : ∀ n, n < 9 → (lN 1) <<< ((nI n).toInt64 &&& 63) = lN (2 ^ n) := by decide +kernel
theorem sw_bit {h wt : Nat → Nat} : ∀ n t, (sw h wt n).testBit t = decide (t < n ∧ h t = wt t)
  | 0, t => by simp [sw]
  | n + 1, t => by
    unfold sw
    by_cases c : h n = wt n
    · rw [if_pos c, Nat.testBit_or, sw_bit n t, Nat.testBit_two_pow]
      by_cases e : n = t
      · subst e; simp [c]
      · have : (t < n + 1) ↔ t < n := by omega
        simp [e, this]
    · rw [if_neg c, sw_bit n t]
      by_cases e : n = t
      · subst e; simp [c]
      · have : (t < n + 1) ↔ t < n := by omega
        simp [this]
theorem sw_bit1 {h wt : Nat → Nat} {n t : Nat} (ht : t < n) : sw h wt n / 2 ^ t % 2 = 1 ↔ h t = wt t := by
  have e := sw_bit (h := h) (wt := wt) n t
  rw [Nat.testBit_eq_decide_div_mod_eq] at e
  have e2 := decide_eq_decide.mp e
  rw [e2]
  exact ⟨fun w => w.2, fun w => ⟨ht, w⟩⟩
section
variable {d : Nat} {Q : Option AV → Mem → Prop} {x : Mem}
theorem k_halve {w a l5 : Int32} (f : Nat) : ∀ (u v : Nat), v ≤ 2 ^ f → u < 1000 → v < 1000 → Q (some (vl (if w = 0 then lN (hv f u v).1 else lN (hv f u v).2))) x → AT 48 d Q 87 [vr 0 0, vi a, vi w, vi (nI u), vi (nI v), vi l5] x := by
  induction f with
  | zero =>
    intro u v hv1 hu hv2 hq
    refine vcl_X5_odds_87 ⟨fun _ => ⟨fun c => ?_, fun c => ?_⟩, fun c => absurd ((nI_leI (b := 1) (by omega) (by omega)).mpr (by omega)) c⟩
    · rw [nI_l (by omega)]; rw [if_neg c] at hq; exact hq
    · rw [nI_l (by omega)]; rw [if_pos c] at hq; exact hq
  | succ f ih =>
    intro u v hv1 hu hv2 hq
    unfold hv at hq
    refine vcl_X5_odds_87 ⟨fun c1 => ⟨fun c => ?_, fun c => ?_⟩, fun c1 => ⟨by decide, ?_⟩⟩
    · rw [show (1 : Int32) = nI 1 from rfl, nI_leI (by omega) (by omega)] at c1
      rw [if_pos c1, if_neg c] at hq
      rw [nI_l (by omega)]; exact hq
    · rw [show (1 : Int32) = nI 1 from rfl, nI_leI (by omega) (by omega)] at c1
      rw [if_pos c1, if_pos c] at hq
      rw [nI_l (by omega)]; exact hq
    · rw [show (1 : Int32) = nI 1 from rfl, nI_leI (by omega) (by omega)] at c1
      rw [if_neg c1] at hq
      rw [show (2 : Int32) = nI 2 from rfl, pk_rem (by omega) (by omega) (by omega), nI_z (by omega), pk_div (by omega) (by omega) (by omega), pk_div (by omega) (by omega) (by omega)]
      refine ⟨fun c2 => ⟨fun c => ?_, fun c => ?_⟩, fun c2 => ⟨by decide, by decide, ?_⟩⟩
      · rw [if_neg c2, if_neg c] at hq
        rw [nI_l (by omega)]; exact hq
      · rw [if_neg c2, if_pos c] at hq
        rw [nI_l (by omega)]; exact hq
      · rw [if_pos c2] at hq
        exact ih (u / 2) (v / 2) (by rw [Nat.pow_succ] at hv1; omega) (by omega) (by omega) hq
theorem lN_z {v : Nat} (h : v < 1000) : lN v = 0 ↔ v = 0 := by
  rw [show (0 : Int64) = lN 0 from rfl, lN_eq (by omega) (by omega)]
theorem k_share {a b : Nat} {w : Int32} (ha : a < 1000) (hb : b < 1000) : ∀ (v u : Nat) (w9 : AV), u < 1000 → v < 1000 → 0 < Nat.gcd u v → Nat.gcd u v < 1000 → Q (some (vl (if w = 0 then lN (a / Nat.gcd u v) else lN (b / Nat.gcd u v)))) x → AT 85 d Q 6 [vl (lN a), vu, vl (lN b), vu, vi w, vl (lN u), vu, vl (lN v), vu, w9, vu] x := by
  intro v
  induction v using Nat.strongRecOn with
  | ind v ih =>
    intro u w9 hu hv1 hg hg2 hq
    refine vcl_X6_share_6 ⟨fun c => ?_, fun c => ?_⟩
    · rw [lg_cmp_eq, lN_eq (by omega) (by omega)] at c
      subst c
      rw [Nat.gcd_zero_right] at hq hg
      have hu0 : ¬ lN u = 0 := fun q => by rw [lN_z hu] at q; omega
      refine ⟨fun c => ⟨hu0, ?_⟩, fun c => ⟨hu0, ?_⟩⟩
      · rw [if_neg c] at hq
        rw [pk_lDiv (by omega) hg (by omega)]; exact hq
      · rw [if_pos c] at hq
        rw [pk_lDiv (by omega) hg (by omega)]; exact hq
    · rw [lg_cmp_eq, lN_eq (by omega) (by omega)] at c
      have hv0 : 0 < v := by omega
      have hlt : u % v < v := Nat.mod_lt u hv0
      refine ⟨fun q => by rw [lN_z hv1] at q; omega, ?_⟩
      rw [pk_lRem (by omega) hv0 (by omega)]
      have e : Nat.gcd v (u % v) = Nat.gcd u v := by
        rw [Nat.gcd_comm u v, Nat.gcd_rec v u, Nat.gcd_comm (u % v) v]
      exact ih (u % v) hlt v _ hv1 (by omega) (by rw [e]; exact hg) (by rw [e]; exact hg2) (by rw [e]; exact hq)
theorem op_odds {a w : Int32} (h : Inv x) : OPl 48 129 [vr 0 0, vi a, vi w] [vr 13 0, vi a, vi w] x := by
  obtain ⟨n, l, ro, g, kd, rk, wt, wm, hs, hC, hM, hB, ⟨rc, rt, rp, rv, hR⟩, hS, hT⟩ := id h
  have hn := hB.1
  have hp := pow8 hn
  have hl : l < 2 ^ 20 := by have := hB.2.2.2.2; omega
  refine vc_X5_odds (k_hasTable hC.1 hn (fun c => e1 (k_within (N := 2) rfl (fun cw => n1 ?_) (fun cw => n0 ⟨_, rfl, ?_⟩))) (fun c => e0 ⟨_, rfl, ?_⟩))
  · obtain ⟨t, ht, rfl⟩ := vp_ex c (by omega)
    have ht8 : t < 8 := by omega
    generalize hp' : (fun P => decide ((fin kd rk wt wm hs n P g ro l).1 t = wt t)) = p
    have hpe : ∀ P, ((fin kd rk wt wm hs n P g ro l).1 t = wt t) ↔ p P = true := fun P => by rw [← hp']; exact (decide_eq_true_iff).symm
    have hu := fb_ct_le p (2 ^ n)
    have hgp : 0 < Nat.gcd (fb_ct p (2 ^ n)) (2 ^ n) := Nat.gcd_pos_of_pos_right _ (by omega)
    have hgl : Nat.gcd (fb_ct p (2 ^ n)) (2 ^ n) ≤ 2 ^ n := Nat.gcd_le_right _ (by omega)
    have hvo := hv_ok n (by omega) (fb_ct p (2 ^ n)) (by omega)
    -- the reference
    have mm : ∀ (y : Mem), FS x y → CC 8 129 [vr 13 0, vi (nI t), vi w] y fun v' x2 => v' = some (vl (if w = 0 then lN (fb_ct p (2 ^ n) / Nat.gcd (fb_ct p (2 ^ n)) (2 ^ n)) else lN (2 ^ n / Nat.gcd (fb_ct p (2 ^ n)) (2 ^ n)))) ∧ Inv x2 := by
      intro y fy
      have key : ∀ (r q : Nat) (z : Mem), q + r = 2 ^ n → FS x z → AT 129 7 (fun v' x2 => v' = some (vl (if w = 0 then lN (fb_ct p (2 ^ n) / Nat.gcd (fb_ct p (2 ^ n)) (2 ^ n)) else lN (2 ^ n / Nat.gcd (fb_ct p (2 ^ n)) (2 ^ n)))) ∧ Inv x2) 27 [vr 13 0, vi (nI t), vi w, vl (lN (fb_ct p q)), vu, vi (nI q)] z := by
        intro r
        induction r with
        | zero =>
          intro q z hq fz
          have e : q = 2 ^ n := by omega
          have hMz := hM.fs fz
          refine vcl_X6_odds_27 ⟨fun _ => vc_X6_share ?_, fun k => absurd (by rw [hMz.1, shl_n n hn, e]; exact nI_le (Nat.le_refl _) (by omega)) k⟩
          rw [hMz.1, shl_l n (by omega), e]
          exact k_share (by omega) (by omega) (2 ^ n) (fb_ct p (2 ^ n)) vu (by omega) (by omega) hgp (by omega) ⟨rfl, h.fs fz⟩
        | succ r ih =>
          intro q z hq fz
          have hMz := hM.fs fz
          have hqn : q < 2 ^ n := by omega
          refine vcl_X6_odds_27 ⟨fun k => absurd (by rw [hMz.1, shl_n n hn] at k; exact k) (nI_ge hqn (by omega)), fun _ => ?_⟩
          rw [hMz.2.1]
          refine k_sweetBy hB.bd hB.hw (by omega) hl (hMz.tm hn) hMz.2.2.1 hMz.2.2.2.1 hB.2.1 hB.2.2.1 (fun z2 f2 => ?_)
          have hsw := sw_lt (h := (fin kd rk wt wm hs n q g ro l).1) (wt := wt) n
          have fz2 := fz.tr (FS.ofM f2)
          have ihh := ih (q + 1) z2 (by omega) fz2
          rw [fb_ct_succ] at ihh
          refine k_isIn (by omega) ht8 (fun c1 => ⟨fun z => absurd z ne10, fun _ => ?_⟩) (fun c1 => ⟨fun _ => ?_, fun z => absurd rfl z⟩)
          · rw [sw_bit1 ht, hpe] at c1
            rw [if_pos c1] at ihh
            rw [lN_add, nI_1]; exact ihh
          · have c2 : ¬ p q = true := fun k => by
              rw [← hpe, ← sw_bit1 (n := n) ht] at k; omega
            rw [if_neg c2] at ihh
            rw [lN_add, nI_1]; exact ihh
      refine vc_X6_odds (k_noTable (hM.fs fy).1 hn (fun _ => n0 (k_inN (N := 2) rfl (fun _ => n1 (key (2 ^ n) 0 y (by omega) fy)) (fun q => absurd cw q))) (fun q => absurd c q))
    -- the class
    have key : ∀ (r q : Nat) (z : Mem), q + r = 2 ^ n → FR [4, 5] x z → AT 48 7 (fun v x1 => ∃ r, v = some (vl r) ∧ CC 8 129 [vr 13 0, vi (nI t), vi w] x1 fun v' x2 => v' = some (vl r) ∧ Inv x2) 31 [vr 0 0, vi (nI t), vi w, vi (nI (fb_ct p q)), vi (nI q), vi (nI q)] z := by
      intro r
      induction r with
      | zero =>
        intro q z hq fz
        have e : q = 2 ^ n := by omega
        have hCz := hC.fs (FS.ofR fz)
        refine vcl_X5_odds_31 (k_allTables hCz.1 hn ⟨fun _ => ?_, fun k => absurd (nI_lt (by omega) (by omega)) k⟩)
        rw [e]
        refine k_halve 8 _ _ (by omega) (by omega) (by omega) ?_
        rw [hvo]
        refine ⟨_, rfl, mm z (FS.ofR fz)⟩
      | succ r ih =>
        intro q z hq fz
        have hCz := hC.fs (FS.ofR fz)
        have hqn : q < 2 ^ n := by omega
        refine vcl_X5_odds_31 (k_allTables hCz.1 hn ⟨fun k => absurd k (nI_nlt (by omega) (by omega)), fun _ => ?_⟩)
        dsimp only [rI]
        rw [hCz.2.1]
        refine k_goAll hB.bd (by omega) hl (hCz.tv hn) hCz.2.2.1 hCz.2.2.2.1 hB.2.1 hB.2.2.1 (fun z2 f2 hS2 => ?_)
        have fz2 := fz.tr f2
        have hI := IV_rn (kd := kd) (rk := rk) (wm := wm) (P := q) (g := g) hB.wt9 (hB.s0 (L := l)).1 (ro - g)
        have ihh := ih (q + 1) z2 (by omega) fz2
        rw [fb_ct_succ] at ihh
        refine k_isSweet hB.bd ((hC.fs (FS.ofR fz2)).tv hn) ht hS2 (hI.1 t ht) (fun c1 => ⟨fun z => absurd z ne10, fun _ => ?_⟩) (fun c1 => ⟨fun _ => ?_, fun z => absurd rfl z⟩)
        · rw [if_pos ((hpe q).mp c1)] at ihh
          rw [nI_1, nI_1]; exact ihh
        · rw [if_neg (fun k => c1 ((hpe q).mpr k))] at ihh
          rw [nI_1, show (0 : Int32) = nI 0 from rfl, nI_add]; exact ihh
    exact key (2 ^ n) 0 x (by omega) FR.rf
  · exact vc_X6_odds (k_noTable hM.1 hn (fun _ => n0 (k_inN (N := 2) rfl (fun q => absurd q cw) (fun _ => n0 (vc_X6_lost ⟨rfl, h⟩)))) (fun q => absurd c q))
  · exact vc_X6_odds (k_noTable hM.1 hn (fun q => absurd q c) (fun _ => n1 (vc_X6_lost ⟨rfl, h⟩)))
end
