/-! calls: hall -/
section
variable {d : Nat} {Q : Option AV → Mem → Prop} {x : Mem}
theorem k_readsHall {C : Nat → Int} {F m : Nat} (hF : F + m ≤ 240) (hm : m ≤ 60) (hC : ∀ p, p < m → (x 31 0 (F + p)).toInt = C p)
    (hg : gtx C m → ∀ x', FM [19, 20, 21, 22] [10, 11, 12, 13] x x' → x' 13 0 11 = nI (10 * D C 1 + D C 2) → x' 13 0 12 = nI (D C 3) → x' 13 0 13 = nI ((m - 4) / 6) → (∀ u, u < (m - 4) / 6 → TB C x' u) → Q (some (vi 1)) x')
    (hb : ∀ p, bdt C m p → ∀ x', FM [19, 20, 21, 22] [10, 11, 12, 13] x x' → x' 13 0 10 = nI p → Q (some (vi 0)) x') : CC (d + 4) 95 [vr 13 0, vi (nI F), vi (nI m)] x Q := by
  have f0 : FM [19, 20, 21, 22] [10, 11, 12, 13] x (up (up x 13 0 10 0) 13 0 13 0) := (FM.rf.upj (by decide)).upj (by decide)
  have v0 : (up (up x 13 0 10 0) 13 0 13 0) 13 0 10 = nI 0 := rfl
  have t0 : (up (up x 13 0 10 0) 13 0 13 0) 13 0 13 = nI 0 := rfl
  have hC0 := f0.m31 (by decide) hC
  refine vc_X6_readsHall ?_
  generalize up (up x 13 0 10 0) 13 0 13 0 = y0 at f0 v0 t0 hC0
  -- what ends it
  have dead : ∀ (z : Mem) (p : Nat), FM [19, 20, 21, 22] [10, 11, 12, 13] x z → z 13 0 10 = nI p → bdt C m p → AT 95 (d + 3) Q 64 [vr 13 0, vi (nI F), vi (nI m), vi 0] z := fun z p fz vz hbd => vcl_X6_readsHall_64 ⟨fun _ => ⟨z0, hb p hbd z fz vz⟩, fun q => absurd rfl q⟩
  -- what is not the first letter
  have no0 : ∀ c : Int32, ¬ c = 114 → (0 < m → c.toInt = C 0) → (((0 : Int32) = 0 → (((0 : Int32) = 0 → (AT 95 (d + 3) Q 64 [vr 13 0, vi (nI F), vi (nI m), vi (0 : Int32)] (up y0 13 0 10 ((y0 13 0 10) + (0 : Int32))))))) ) := fun c hc hcc _ _ => by
    refine dead _ 0 (f0.upj (by decide)) (by rw [up_s, v0]; rfl) ⟨Nat.zero_le _, fun q hq => absurd hq (Nat.not_lt_zero q), fun q => ?_, fun q => by omega⟩
    rw [gdp0]
    intro w
    exact hc ((eqI rfl).mpr ((hcc q).trans w))
  -- the loop
  have loop : ∀ (f t : Nat) (z : Mem), t + f = 8 → 4 + 6 * t ≤ m → FM [19, 20, 21, 22] [10, 11, 12, 13] x z → z 13 0 10 = nI (4 + 6 * t) → z 13 0 11 = nI (10 * D C 1 + D C 2) → z 13 0 12 = nI (D C 3) → z 13 0 13 = nI t → (∀ q, q < 4 + 6 * t → gdp C q) → (∀ u, u < t → TB C z u) → AT 95 (d + 3) Q 64 [vr 13 0, vi (nI F), vi (nI m), vi 1] z := by
    intro f
    induction f with
    | zero =>
      intro t z ht htm fz v10 v11 v12 v13 hall hTB
      have e : t = 8 := by omega
      subst e
      refine vcl_X6_readsHall_64 ⟨fun q => absurd q ne10, fun _ => ⟨fun q => ?_, fun _ => ⟨fun q2 => ⟨z1, ?_⟩, fun q => ?_⟩⟩⟩
      · rw [v13] at q; exact absurd q (by decide)
      · rw [v10, nI_leI (by omega) (by omega)] at q2
        refine hg ⟨fun q hq => hall q (by omega), by omega, by omega⟩ z fz v11 v12 ?_ ?_
        · rw [v13, show (m - 4) / 6 = 8 by omega]
        · rw [show (m - 4) / 6 = 8 by omega]; exact hTB
      · rw [v10, nI_leI (by omega) (by omega)] at q
        refine k_table (C := C) htm (by omega) hF hm (fz.m31 (by decide) hC) v10 v13 (fun w => absurd w (by omega)) (fun r h6 hrm hgr hbr x' fx vx => ?_)
        refine dead x' (4 + 6 * 8 + r) (fz.tr (fx.sub (by decide) (by decide))) vx ⟨hrm, fun q hq => ?_, hbr, fun q => by omega⟩
        by_cases c : q < 4 + 6 * 8
        · exact hall q c
        · have := hgr (q - (4 + 6 * 8)) (by omega)
          rw [show 4 + 6 * 8 + (q - (4 + 6 * 8)) = q by omega] at this
          exact this
    | succ f ih =>
      intro t z ht htm fz v10 v11 v12 v13 hall hTB
      have go : (t < 2 ∨ 4 + 6 * t < m) → CC (d + 3) 94 [vr 13 0, vi (nI F), vi (nI m)] z (fun v1 x1 => rI v1 fun r1 => (AT 95 (d + 3) Q 64 [vr 13 0, vi (nI F), vi (nI m), vi r1] x1)) := by
        intro hor
        refine k_table (C := C) htm (by omega) hF hm (fz.m31 (by decide) hC) v10 v13 (fun h8 h10 hg6 x' fx w10 w13 wT wU => ?_) (fun r h6 hrm hgr hbr x' fx vx => ?_)
        · refine ih (t + 1) x' (by omega) (by omega) (fz.tr (fx.sub (by decide) (by decide))) (by rw [w10, show 4 + 6 * (t + 1) = 10 + 6 * t by omega]) (by rw [fx.2 11 (by decide)]; exact v11) (by rw [fx.2 12 (by decide)]; exact v12) w13 (fun q hq => ?_) (fun u hu => ?_)
          · by_cases c : q < 4 + 6 * t
            · exact hall q c
            · have := hg6 (q - (4 + 6 * t)) (by omega)
              rw [show 4 + 6 * t + (q - (4 + 6 * t)) = q by omega] at this
              exact this
          · by_cases e : u = t
            · subst e; exact wT
            · obtain ⟨u0, u1, u2, u3⟩ := wU u e
              have := hTB u (by omega)
              unfold TB at this ⊢
              rw [u0, u1, u2, u3]
              exact this
        · refine dead x' (4 + 6 * t + r) (fz.tr (fx.sub (by decide) (by decide))) vx ⟨hrm, fun q hq => ?_, hbr, fun q w => by omega⟩
          by_cases c : q < 4 + 6 * t
          · exact hall q c
          · have := hgr (q - (4 + 6 * t)) (by omega)
            rw [show 4 + 6 * t + (q - (4 + 6 * t)) = q by omega] at this
            exact this
      refine vcl_X6_readsHall_64 ⟨fun q => absurd q ne10, fun _ => ⟨fun q => ?_, fun q => ⟨fun q2 => ⟨z1, ?_⟩, fun q2 => ?_⟩⟩⟩
      · rw [v13, show (2 : Int32) = nI 2 from rfl, nI_ltI (by omega) (by omega)] at q
        exact go (Or.inl q)
      · rw [v13, show (2 : Int32) = nI 2 from rfl, nI_ltI (by omega) (by omega)] at q
        rw [v10, nI_leI (by omega) (by omega)] at q2
        refine hg ⟨fun q hq => hall q (by omega), by omega, by omega⟩ z fz v11 v12 ?_ ?_
        · rw [v13, show (m - 4) / 6 = t by omega]
        · rw [show (m - 4) / 6 = t by omega]; exact hTB
      · rw [v10, nI_leI (by omega) (by omega)] at q2
        exact go (Or.inr (by omega))
  -- the train
  have train : 1 ≤ m → gdp C 0 → ∀ z, FM [19, 20, 21, 22] [10, 11, 12, 13] x z → z 13 0 10 = nI 1 → z 13 0 13 = nI 0 → CC (d + 3) 93 [vr 13 0, vi (nI F), vi (nI m)] z (fun v5 x5 => rI v5 fun r5 => ((r5 = 0 → (AT 95 (d + 3) Q 64 [vr 13 0, vi (nI F), vi (nI m), vi (0 : Int32)] x5)) ∧ (¬ r5 = 0 → (AT 95 (d + 3) Q 64 [vr 13 0, vi (nI F), vi (nI m), vi (1 : Int32)] x5)))) := by
    intro hm1 g0 z fz vz tz
    refine k_train (C := C) hm1 hF (fz.m31 (by decide) hC) vz (fun h4 g1 g2 g3 x' fx w10 w11 w12 => e1 ?_) (fun p hpm h1 h4 hgp hbp x' fx vx => e0 (dead x' p (fz.tr (fx.sub (by decide) (by decide))) vx ⟨hpm, fun q hq => ?_, hbp, fun q => by omega⟩))
    · refine loop 8 0 x' (by omega) (by omega) (fz.tr (fx.sub (by decide) (by decide))) w10 w11 w12 (by rw [fx.2 13 (by decide)]; exact tz) (fun q hq => ?_) (fun u hu => absurd hu (Nat.not_lt_zero u))
      have : q = 0 ∨ q = 1 ∨ q = 2 ∨ q = 3 := by omega
      rcases this with e | e | e | e <;> subst e <;> assumption
    · by_cases c : q = 0
      · subst c; exact g0
      · exact hgp q (by omega) hq
  refine k_codeAt (p := 0) hF v0 (Nat.zero_le _) (fun hpm => ⟨fun c => ⟨fun _ => ⟨fun _ => no0 _ c (fun _ => hC0 0 hpm) rfl rfl, fun q => absurd rfl q⟩, fun q => absurd rfl q⟩, fun c => ⟨fun q => absurd q ne10, fun _ => ⟨fun q => absurd q ne10, fun _ => ?_⟩⟩⟩) (fun hpm => ⟨fun c => ⟨fun _ => ⟨fun _ => no0 _ c (fun q => absurd q (by omega)) rfl rfl, fun q => absurd rfl q⟩, fun q => absurd rfl q⟩, fun q => absurd q (by decide)⟩)
  exact train (by omega) (gdp0.mpr ((hC0 0 hpm).symm.trans ((eqI rfl).mp c))) _ (f0.upj (by decide)) (by rw [up_s, v0, nI_1]) (by rw [up_n (by omega)]; exact t0)
theorem dig_ok {C : Nat → Int} {c : Int32} {p : Nat} (hc : c.toInt = C p) (h1 : 48 ≤ C p) (h2 : C p ≤ 57) : c - 48 = nI (D C p) ∧ D C p ≤ 9 := ⟨dgt (by unfold D; omega) (by unfold D; omega), by unfold D; omega⟩
theorem k_digit {C : Nat → Int} {k i m p : Nat} (hi : i + m ≤ 60) (hp : p < m) (hC : ∀ p, p < m → (x 3 k (i + p)).toInt = C p) (h1 : 48 ≤ C p) (h2 : C p ≤ 57) (h : Q (some (vi (nI (D C p)))) x) : CC (d + 1) 9 [vr 2 k, vi (nI (i + p))] x Q := by
  refine vc_X3_digit ?_
  rw [cl60 (by omega), (dig_ok (hC p hp) h1 h2).1]
  exact ⟨in8 (by omega) (by omega), h⟩
theorem k_number {C : Nat → Int} {k i m p : Nat} (hi : i + m ≤ 60) (hp : p + 1 < m) (hC : ∀ p, p < m → (x 3 k (i + p)).toInt = C p) (h1 : 48 ≤ C p) (h2 : C p ≤ 57) (h3 : 48 ≤ C (p + 1)) (h4 : C (p + 1) ≤ 57) (h : Q (some (vi (nI (10 * D C p + D C (p + 1))))) x) : CC (d + 2) 10 [vr 2 k, vi (nI (i + p))] x Q := by
  refine vc_X3_number (k_digit hi (by omega) hC h1 h2 ?_)
  dsimp only [rI]
  rw [nI_1, Nat.add_assoc]
  refine k_digit hi hp hC h3 h4 ?_
  dsimp only [rI]
  rw [show (10 : Int32) = nI 10 from rfl, pk_mul, nI_add]
  exact h
/-- the tables of a text, where there are such -/
def nw (n : Nat) (f g : Nat → Nat) : Nat → Nat := fun u => if u < n then f u else g u
theorem nw_in {n u : Nat} {f g : Nat → Nat} (h : u < n) : nw n f g u = f u := if_pos h
theorem nw_out {n u : Nat} {f g : Nat → Nat} (h : ¬ u < n) : nw n f g u = g u := if_neg h
theorem gtx_ok {C : Nat → Int} {m : Nat} (h : gtx C m) (hm : m ≤ 60) : (48 ≤ C 1 ∧ C 1 ≤ 51) ∧ (48 ≤ C 2 ∧ C 2 ≤ 57) ∧ (49 ≤ C 3 ∧ C 3 ≤ 52) ∧ ∀ u, u < (m - 4) / 6 → u < 8 ∧ (C (4 + 6 * u + 1) = 103 ∨ C (4 + 6 * u + 1) = 100 ∨ C (4 + 6 * u + 1) = 99) ∧ (48 ≤ C (4 + 6 * u + 2) ∧ C (4 + 6 * u + 2) ≤ 57) ∧ (48 ≤ C (4 + 6 * u + 3) ∧ C (4 + 6 * u + 3) ≤ 57) ∧ (48 ≤ C (4 + 6 * u + 4) ∧ C (4 + 6 * u + 4) ≤ 51) ∧ (48 ≤ C (4 + 6 * u + 5) ∧ C (4 + 6 * u + 5) ≤ 57) := by
  obtain ⟨hall, h16, h6⟩ := h
  refine ⟨gdp1.mp (hall 1 (by omega)), ?_, gdp3.mp (hall 3 (by omega)), fun u hu => ?_⟩
  · have := gdp2.mp (hall 2 (by omega))
    refine ⟨this.1, ?_⟩
    have h2 := this.2
    split at h2 <;> omega
  · have g0 := (gdpT (t := u) (r := 0) (by omega) (by omega)).mp (hall (4 + 6 * u) (by omega))
    have g1 := (gdpT (t := u) (r := 1) rfl (by omega)).mp (hall (4 + 6 * u + 1) (by omega))
    have g2 := (gdpT (t := u) (r := 2) rfl (by omega)).mp (hall (4 + 6 * u + 2) (by omega))
    have g3 := (gdpT (t := u) (r := 3) rfl (by omega)).mp (hall (4 + 6 * u + 3) (by omega))
    have g4 := (gdpT (t := u) (r := 4) rfl (by omega)).mp (hall (4 + 6 * u + 4) (by omega))
    have g5 := (gdpT (t := u) (r := 5) rfl (by omega)).mp (hall (4 + 6 * u + 5) (by omega))
    exact ⟨g0.2, g1, g2, g3, g4, g5⟩
def KD (C : Nat → Int) (u : Nat) : Nat := kn (C (4 + 6 * u + 1))
def RK (C : Nat → Int) (u : Nat) : Nat := D C (4 + 6 * u + 2)
def WT (C : Nat → Int) (u : Nat) : Nat := D C (4 + 6 * u + 3)
def WM' (C : Nat → Int) (u : Nat) : Nat := 10 * D C (4 + 6 * u + 4) + D C (4 + 6 * u + 5)
theorem k_furnish {C : Nat → Int} {k i m n l ro g : Nat} {kd rk wt wm hs : Nat → Nat} (hC : IC x n l ro g kd rk wt wm hs) (hi : i + m ≤ 60) (hc : ∀ p, p < m → (x 3 k (i + p)).toInt = C p) (hg : gtx C m)
    (hq : ∀ x', FR [6, 8] x x' → IC x' ((m - 4) / 6) (10 * D C 1 + D C 2) (D C 3) 0 (nw ((m - 4) / 6) (KD C) kd) (nw ((m - 4) / 6) (RK C) rk) (nw ((m - 4) / 6) (WT C) wt) (nw ((m - 4) / 6) (WM' C) wm) (nw ((m - 4) / 6) (fun _ => 0) hs) → Q none x') : CC (d + 3) 17 [vr 6 0, vr 2 k, vi (nI i), vi (nI m)] x Q := by
  obtain ⟨o1, o2, o3, oT⟩ := gtx_ok hg (by omega)
  have h16 := hg.2.1
  have hm6 := hg.2.2
  refine vc_X0_furnish ?_
  rw [nI_1, show nI i + (3 : Int32) = nI (i + 3) from by rw [show (3 : Int32) = nI 3 from rfl, nI_add]]
  refine k_number (C := C) (p := 1) hi (by omega) hc o1.1 (by omega) o2.1 o2.2 ?_
  dsimp only [rI]
  refine k_digit (C := C) (p := 3) hi (by omega) (fun p hp => hc p hp) (by omega) (by omega) ?_
  refine ⟨by decide, ?_⟩
  rw [show (4 : Int32) = nI 4 from rfl, show (6 : Int32) = nI 6 from rfl, pk_sub (by omega), pk_div (by omega) (by omega) (by omega)]
  have hn8 : (m - 4) / 6 ≤ 8 := by
    rcases Nat.lt_or_ge ((m - 4) / 6) 9 with c | c
    · omega
    · exact absurd (oT 8 (by omega)).1 (by omega)
  generalize hn' : (m - 4) / 6 = n' at *
  have key : ∀ (r u : Nat) (z : Mem) (w5 w6 : AV), u + r = n' → FR [6, 8] x z → IC z n' (10 * D C 1 + D C 2) (D C 3) 0 (nw u (KD C) kd) (nw u (RK C) rk) (nw u (WT C) wt) (nw u (WM' C) wm) (nw u (fun _ => 0) hs) → AT 17 (d + 2) Q 40 [vr 6 0, vr 2 k, vi (nI i), vi (nI m), vi (nI u), w5, w6] z := by
    intro r
    induction r with
    | zero =>
      intro u z w5 w6 hu fz hz
      have e : u = n' := by omega
      subst e
      exact vcl_X0_furnish_40 ⟨fun _ => hq z fz hz, fun q => absurd (by rw [hz.1]; exact nI_le (Nat.le_refl _) (by omega)) q⟩
    | succ r ih =>
      intro u z w5 w6 hu fz hz
      have hun : u < n' := by omega
      have hu8 : u < 8 := by omega
      obtain ⟨q7, q0, q1, q2, q3, q4⟩ := hz.2.2.2.2 u hu8
      obtain ⟨_, p1, p2, p3, p4, p5⟩ := oT u hun
      have e7 : (z 7 0 (nI u).toNatClampNeg).toNatClampNeg = u := by rw [cl8 hu8, q7, cl8 hu8]
      have hcz : ∀ p, p < m → (z 3 k (i + p)).toInt = C p := fun p hp => by rw [fz 3 (by decide)]; exact hc p hp
      refine vcl_X0_furnish_40 ⟨fun q => absurd (by rw [hz.1] at q; exact q) (nI_ge hun (by omega)), fun _ => ?_⟩
      rw [e7, show nI i + (4 : Int32) + nI u * 6 + 1 = nI (i + (4 + 6 * u + 1)) from by rw [show (4 : Int32) = nI 4 from rfl, show (6 : Int32) = nI 6 from rfl, show (1 : Int32) = nI 1 from rfl, pk_mul, nI_add, nI_add, nI_add]; congr 1; omega, show nI i + (4 : Int32) + nI u * 6 + 2 = nI (i + (4 + 6 * u + 2)) from by rw [show (4 : Int32) = nI 4 from rfl, show (6 : Int32) = nI 6 from rfl, show (2 : Int32) = nI 2 from rfl, pk_mul, nI_add, nI_add, nI_add]; congr 1; omega, show nI i + (4 : Int32) + nI u * 6 + 3 = nI (i + (4 + 6 * u + 3)) from by rw [show (4 : Int32) = nI 4 from rfl, show (6 : Int32) = nI 6 from rfl, show (3 : Int32) = nI 3 from rfl, pk_mul, nI_add, nI_add, nI_add]; congr 1; omega, show nI i + (4 : Int32) + nI u * 6 + 4 = nI (i + (4 + 6 * u + 4)) from by rw [show (4 : Int32) = nI 4 from rfl, show (6 : Int32) = nI 6 from rfl, pk_mul, nI_add, nI_add, nI_add]; congr 1; omega, cl60 (i := i + (4 + 6 * u + 1)) (by omega)]
      have ek : (z 3 k (i + (4 + 6 * u + 1))).toInt = C (4 + 6 * u + 1) := hcz _ (by omega)
      refine ⟨in8 hu8 (by omega), hu8, in8 (by omega) (by omega), k_kindOf (fun _ => ?_) (fun q => absurd p1 (by rw [ek] at q; exact q))⟩
      rw [ek]
      refine k_digit (C := C) (p := 4 + 6 * u + 2) hi (by omega) (fun p hp => hcz p hp) p2.1 p2.2 ?_
      refine k_digit (C := C) (p := 4 + 6 * u + 3) hi (by omega) (fun p hp => hcz p hp) p3.1 p3.2 ?_
      refine k_number (C := C) (p := 4 + 6 * u + 4) hi (by omega) (fun p hp => hcz p hp) p4.1 (by omega) p5.1 p5.2 ?_
      dsimp only [rI]
      rw [nI_1]
      refine ih (u + 1) _ _ _ (by omega) (((((fz.up (by decide)).up (by decide)).up (by decide)).up (by decide)).up (by decide)) ⟨hz.1, hz.2.1, hz.2.2.1, hz.2.2.2.1, fun v hv => ?_⟩
      obtain ⟨v7, v0, v1, v2, v3, v4⟩ := hz.2.2.2.2 v hv
      by_cases e : v = u
      · subst e
        rw [nw_in (by omega), nw_in (by omega), nw_in (by omega), nw_in (by omega), nw_in (by omega)]
        refine ⟨v7, ?_, ?_, ?_, ?_, ?_⟩ <;> simp [up_app, KD, RK, WT, WM', nI_add]
        rfl
      · have nu : ∀ (f g : Nat → Nat), nw (u + 1) f g v = nw u f g v := fun f g => by
          unfold nw
          by_cases c : v < u
          · rw [if_pos c, if_pos (by omega)]
          · rw [if_neg c, if_neg (by omega)]
        rw [nu, nu, nu, nu, nu]
        refine ⟨v7, ?_, ?_, ?_, ?_, ?_⟩ <;> simp only [up_app, e, and_false, false_and, if_false] <;> assumption
  have nz : ∀ (f g : Nat → Nat), nw 0 f g = g := fun f g => funext fun u => if_neg (Nat.not_lt_zero u)
  refine key n' 0 _ vu vu (by omega) ((((FR.rf.up (by decide)).up (by decide)).up (by decide)).up (by decide)) ⟨rfl, rfl, rfl, rfl, ?_⟩
  rw [nz, nz, nz, nz, nz]
  exact hC.2.2.2.2
theorem op_hall {a b c e : Int32} (h : Inv x) : OP 28 97 [vr 0 0, vi a, vi b, vi c, vi e] [vr 13 0, vi a, vi b, vi c, vi e] x := by
  obtain ⟨n, l, ro, g, kd, rk, wt, wm, hs, hC, hM, hB, ⟨rc, rt, rp, rv, hR⟩, hS, hT⟩ := id h
  have h0 := h.id.u0 (v := 0)
  have hS0 : ISh (up x 0 0 5 0) := hS.fr rfl rfl rfl rfl rfl rfl
  have hC0 : IC (up x 0 0 5 0) n l ro g kd rk wt wm hs := hC.fr rfl rfl rfl
  have hM0 : IM (up x 0 0 5 0) n l ro g kd rk wt wm hs := hM.fr rfl rfl rfl rfl rfl rfl rfl rfl rfl
  have hR0 : IR (up x 0 0 5 0) n rc rt rp rv := hR.fr rfl rfl rfl rfl rfl rfl rfl rfl
  have hT0 : (up x 0 0 5 0) 0 0 4 = (up x 0 0 5 0) 13 0 32 := hT.1
  have h01 : Inv (up (up x 0 0 5 0) 13 0 0 0) := h0.u13.inv rfl
  have hf : ∀ v, Inv (up (up (up x 0 0 5 0) 0 0 5 v) 13 0 0 v) := fun v => (h0.u0).u13.inv rfl
  have hor : ∀ v k, k < 4 → SL (up (up x 0 0 5 0) 0 0 5 v) k ∨ ∃ la ln, SH (up (up x 0 0 5 0) 0 0 5 v) k la ln := fun v k hk => hS0.or hk
  refine vc_X5_hall (k_isSheet (fun ca => n1 (k_isLane (fun cb => n1 ?_) (fun cb => n0 ⟨_, rfl, ?_⟩))) (fun ca => n0 ⟨_, rfl, ?_⟩))
  · obtain ⟨k, hk, rfl⟩ := vp_ex ca (by omega)
    rw [sh_e hS0 hk]
    refine ⟨in8 hk (by omega), hk, ?_⟩
    refine k_faultAs (fun z1 => ⟨fun _ => vcl_X5_hall_53 ⟨fun _ => vcl_X5_hall_72 ⟨fun q => absurd q (by decide), fun _ => k_comeTo ⟨_, rfl, ?_⟩⟩, fun q => absurd q (by decide)⟩, fun q => absurd q (by decide)⟩) (fun z1 z2 => ⟨fun _ => vcl_X5_hall_53 ⟨fun _ => vcl_X5_hall_72 ⟨fun q => absurd q (by decide), fun _ => k_comeTo ⟨_, rfl, ?_⟩⟩, fun q => absurd q (by decide)⟩, fun q => absurd q (by decide)⟩) (fun z1 z2 => ⟨fun q => absurd rfl q, fun _ => ⟨fun ce => ?_, fun ce => vcl_X5_hall_53 ⟨fun _ => vcl_X5_hall_72 ⟨fun q => absurd q (by decide), fun _ => k_comeTo ⟨_, rfl, ?_⟩⟩, fun q => absurd q (by decide)⟩⟩⟩)
    · refine vc_X6_hall (k_noSheet (fun _ => e0 (k_inN (N := 3) rfl (fun _ => n1 (k_barred hk (hor 1 k hk) (fun _ => ⟨fun q => absurd q (by decide), fun _ => ⟨rfl, hf _⟩⟩) (fun la ln s => ?_) (fun la ln s => ?_) (fun la ln s => ?_) (fun la ln s => ?_))) (fun q => absurd cb q))) (fun q => absurd ca q))
      all_goals exact absurd (s.2.2.1.symm.trans z1) (nIm1 (by have := s.1; omega))
    · exact vc_X6_hall (k_noSheet (fun _ => e0 (k_inN (N := 3) rfl (fun _ => n1 (k_barred hk (hor 2 k hk) (fun s => absurd s.1 z1) (fun la ln s _ => ⟨fun q => absurd q (by decide), fun _ => ⟨rfl, hf _⟩⟩) (fun la ln s q => absurd (s.2.2.1.trans q) z2) (fun la ln s q => absurd (s.2.2.1.trans q) z2) (fun la ln s q => absurd (s.2.2.1.trans q) z2))) (fun q => absurd cb q))) (fun q => absurd ca q))
    · rw [fa_le, i0] at ce
      rcases hS0.or hk with s | ⟨la, ln, s⟩
      · exact absurd s.1 z1
      have hs' := s
      obtain ⟨sA, s1, s2, s3, s4, s5⟩ := s
      have ea : nI la = b := s2.symm.trans z2
      refine vcl_X5_hall_53 ⟨fun q => absurd rfl q, fun _ => k_reaches s4 s1 (fun r => n1 ?_) (fun r => n0 (vcl_X5_hall_72 ⟨fun q => absurd q (by decide), fun _ => k_comeTo ⟨_, rfl, ?_⟩⟩))⟩
      · obtain ⟨i, m, him, rfl, rfl⟩ := RB_ex s1 r
        have em : (nI m).toInt = m := nIi (by omega)
        have exC : ∃ C : Nat → Int, ∀ p, p < m → ((up x 0 0 5 0) 3 k (i + p)).toInt = C p := ⟨fun p => ((up x 0 0 5 0) 3 k (i + p)).toInt, fun p _ => rfl⟩
        obtain ⟨C, hCc⟩ := exC
        have hCm : ∀ y : Mem, y 31 = (up x 0 0 5 0) 31 → ∀ p, p < m → (y 31 0 (60 * k + i + p)).toInt = C p := fun y ey p hp => by
          rw [← hCc p hp, (hS0 k hk).2.2 (i + p) (by omega), ey, Nat.add_assoc]
        -- the reference, up to the reading
        have mm : ∀ (y : Mem) (R : Option AV → Mem → Prop), y 2 = (up x 0 0 5 0) 2 → y 29 = (up x 0 0 5 0) 29 → y 30 = (up x 0 0 5 0) 30 → CC 7 95 [vr 13 0, vi (nI (60 * k + i)), vi (nI m)] y (fun v4 x4 => rI v4 fun r4 => ((¬ r4 = 0 → (AT 97 7 R 111 [vr 13 0, vi (nI k), vi b, vi (nI i), vi (nI m), vi 0, vi (0 : Int32)] (up (up (up (up x4 13 0 2 (x4 13 0 11)) 13 0 3 ((up x4 13 0 2 (x4 13 0 11)) 13 0 12)) 13 0 4 (0 : Int32)) 13 0 1 ((up (up (up x4 13 0 2 (x4 13 0 11)) 13 0 3 ((up x4 13 0 2 (x4 13 0 11)) 13 0 12)) 13 0 4 (0 : Int32)) 13 0 13)))) ∧ (r4 = 0 → (CC 7 86 [vr 13 0, vi ((-100 : Int32) - (x4 13 0 10))] x4 fun v5 x5 => rI v5 fun r5 => (R (some (vi r5)) x5))))) → CC 8 97 [vr 13 0, vi (nI k), vi b, vi (nI i), vi (nI m)] y R := fun y R y2 y29 y30 hat => by
          have hsy : SH y k la ln := by
            unfold SH
            rw [y2, y29, y30]; exact hs'
          refine vc_X6_hall (k_noSheet (fun _ => e0 (k_inN (N := 3) rfl (fun _ => n1 (k_barred hk (Or.inr ⟨la, ln, hsy⟩) (fun s => absurd (hsy.2.2.1.symm.trans s.1) (nIm1 (by omega))) (fun la' ln' s q => absurd (s.2.2.1.symm.trans (hsy.2.2.1.trans ea)) q) (fun la' ln' s q q2 => absurd q2 (by omega)) (fun la' ln' s q q2 q3 => absurd r ?_) (fun la' ln' s q q2 q3 => ⟨fun _ => ?_, fun q4 => absurd (by decide) q4⟩))) (fun q => absurd cb q))) (fun q => absurd ca q))
          · have e2 : ln' = ln := (nI_eq (by have := s.2.1; omega) (by omega)).mp (s.2.2.2.2.1.symm.trans hsy.2.2.2.2.1)
            rw [← e2]; exact q3
          · rw [at60]; exact hat
        refine vcl_X5_hall_72 ⟨fun _ => k_firstFault (C := C) (by omega) hCc (fun p hbd => ⟨fun q => ?_, fun _ => ⟨_, rfl, ?_⟩⟩) (fun hgt => ⟨fun _ => ?_, fun q => absurd rfl q⟩), fun q => absurd rfl q⟩
        · have hpm := hbd.1
          exfalso
          have : ¬ nI p < 0 := nI_pos (by omega)
          rw [q] at this
          exact this (by decide)
        · refine mm _ _ rfl rfl rfl (k_readsHall (C := C) (by omega) (by omega) (hCm _ rfl) (fun hgt => (bdt_not hbd hgt).elim) (fun p' hbd' x' fx vx => n0 (k_refused ⟨?_, ?_⟩)))
          · rw [vx, bdt_one hbd hbd']
          · refine (ID.u13 (h0.fs (FM.sub fx (by decide) (by decide)))).inv ?_
            show x' 0 0 5 = 0
            rw [fx.1 0 (by decide)]; rfl
        · refine k_furnish (C := C) hC0 (by omega) hCc hgt (fun X1 f1 hC1 => ?_)
          obtain ⟨o1, o2, o3, oT⟩ := gtx_ok hgt (by omega)
          have h16 := hgt.2.1
          have hm6 := hgt.2.2
          have hn8 : (m - 4) / 6 ≤ 8 := by
            rcases Nat.lt_or_ge ((m - 4) / 6) 9 with c | c
            · omega
            · exact absurd (oT 8 (by omega)).1 (by omega)
          refine ⟨_, rfl, ?_⟩
          rw [show (up X1 9 0 3 0) 6 0 1 = nI ((m - 4) / 6) from hC1.1]
          refine mm _ _ (f1 2 (by decide)) (f1 29 (by decide)) (f1 30 (by decide)) (k_readsHall (C := C) (by omega) (by omega) (hCm _ (f1 31 (by decide))) (fun _ x4 f4 v11 v12 v13 vT => n1 ?_) (fun p hbd x' fx vx => (bdt_not hbd hgt).elim))
          generalize hn' : (m - 4) / 6 = n' at *
          -- the copy
          have exZ : ∃ Z, Z = up (up (up (up x4 13 0 2 (x4 13 0 11)) 13 0 3 ((up x4 13 0 2 (x4 13 0 11)) 13 0 12)) 13 0 4 (0 : Int32)) 13 0 1 ((up (up (up x4 13 0 2 (x4 13 0 11)) 13 0 3 ((up x4 13 0 2 (x4 13 0 11)) 13 0 12)) 13 0 4 (0 : Int32)) 13 0 13) := ⟨_, rfl⟩
          obtain ⟨Z, eZ⟩ := exZ
          rw [← eZ]
          have fZ : FM [14, 15, 16, 17, 18, 19, 20, 21, 22] [1, 2, 3, 4, 10, 11, 12, 13] (up X1 9 0 3 0) Z := by
            rw [eZ]
            exact (((((f4.sub (by decide) (by decide)) : FM [14, 15, 16, 17, 18, 19, 20, 21, 22] [1, 2, 3, 4, 10, 11, 12, 13] (up X1 9 0 3 0) x4).upj (by decide)).upj (by decide)).upj (by decide)).upj (by decide)
          have Z1 : Z 13 0 1 = nI n' := by rw [eZ]; exact v13
          have Z2 : Z 13 0 2 = nI (10 * D C 1 + D C 2) := by rw [eZ]; exact v11
          have Z3 : Z 13 0 3 = nI (D C 3) := by rw [eZ]; exact v12
          have Z4 : Z 13 0 4 = nI 0 := by rw [eZ]; rfl
          have ZT : ∀ u, u < n' → TB C Z u := by rw [eZ]; exact vT
          have ZM : ∀ t, t < 8 → Z 14 0 t = nI (kd t) ∧ Z 15 0 t = nI (rk t) ∧ Z 16 0 t = nI (wt t) ∧ Z 17 0 t = nI (wm t) ∧ Z 18 0 t = nI (hs t) := fun t ht => by
            have e : ∀ q, q = 14 ∨ q = 15 ∨ q = 16 ∨ q = 17 ∨ q = 18 → Z q = (up x 0 0 5 0) q := fun q hq => by
              rw [eZ]
              have u13 : q ≠ 13 := by omega
              have u9 : q ≠ 9 := by omega
              rw [up_k u13, up_k u13, up_k u13, up_k u13, f4.1 q (by simp only [List.mem_cons, List.not_mem_nil, or_false]; omega), up_k u9, f1 q (by simp only [List.mem_cons, List.not_mem_nil, or_false]; omega)]
            rw [e 14 (by omega), e 15 (by omega), e 16 (by omega), e 17 (by omega), e 18 (by omega)]
            exact hM0.2.2.2.2 t ht
          have key : ∀ (r u : Nat) (z : Mem), u + r = n' → FM [14, 15, 16, 17, 18] [] Z z → (∀ t, t < 8 → z 14 0 t = nI (nw u (KD C) kd t) ∧ z 15 0 t = nI (nw u (RK C) rk t) ∧ z 16 0 t = nI (nw u (WT C) wt t) ∧ z 17 0 t = nI (nw u (WM' C) wm t) ∧ z 18 0 t = nI (nw u (fun _ => 0) hs t)) → AT 97 7 (fun v' x2 => v' = some (vi (nI n')) ∧ Inv x2) 111 [vr 13 0, vi (nI k), vi b, vi (nI i), vi (nI m), vi 0, vi (nI u)] z := by
            intro r
            induction r with
            | zero =>
              intro u z hu fz hz
              have e : u = n' := by omega
              subst e
              have hz1 : z 13 0 1 = nI u := (fz.2 1 (by decide)).trans Z1
              refine vcl_X6_hall_111 ⟨fun _ => k_refused ⟨congrArg (fun v => some (vi v)) hz1, ?_⟩, fun q => absurd (by rw [hz1]; exact nI_le (Nat.le_refl _) (by omega)) q⟩
              have fz2 : FM [14, 15, 16, 17, 18, 19, 20, 21, 22] [1, 2, 3, 4, 10, 11, 12, 13] (up X1 9 0 3 0) z := fZ.tr (fz.sub (by decide) (by decide))
              refine ID.inv (ID.u13 (x := up z 13 0 24 0) ⟨u, 10 * D C 1 + D C 2, D C 3, 0, nw u (KD C) kd, nw u (RK C) rk, nw u (WT C) wt, nw u (WM' C) wm, nw u (fun _ => 0) hs, hC1.fr ?_ ?_ ?_, ⟨hz1, (fz.2 2 (by decide)).trans Z2, (fz.2 3 (by decide)).trans Z3, (fz.2 4 (by decide)).trans Z4, hz⟩, ⟨hn8, Nat.zero_le _, by unfold D; omega, fun t ht => ?_, ?_⟩, ⟨0, rt, rp, rv, ?_, rfl, Nat.zero_le _, fun r hr => ?_, fun r hr => absurd hr (Nat.not_lt_zero r)⟩, ?_, ?_⟩) ?_
              · exact (up_k (by decide)).trans ((fz2.1 6 (by decide)).trans (up_k (by decide)))
              · exact (up_k (by decide)).trans ((fz2.1 7 (by decide)).trans (up_k (by decide)))
              · exact (up_k (by decide)).trans ((fz2.1 8 (by decide)).trans (up_k (by decide)))
              · obtain ⟨b0, b1, b2, b3, b4⟩ := hB.2.2.2.1 t ht
                by_cases c : t < u
                · obtain ⟨_, p1, p2, p3, p4, p5⟩ := oT t c
                  rw [nw_in c, nw_in c, nw_in c, nw_in c, nw_in c]
                  refine ⟨kn_le _, ?_, ?_, ?_, Nat.zero_le _⟩
                  · unfold RK D; omega
                  · unfold WT D; omega
                  · unfold WM' D; omega
                · rw [nw_out c, nw_out c, nw_out c, nw_out c, nw_out c]
                  exact ⟨b0, b1, b2, b3, b4⟩
              · rw [fb_sm_cong (g := fun _ => 0) (fun q hq => nw_in hq), fb_sm_const]
                unfold D; omega
              · show z 9 0 3 = nI 0
                rw [fz2.1 9 (by decide)]; rfl
              · show z 10 0 r = _ ∧ z 26 0 r = _ ∧ z 11 0 r = _ ∧ z 27 0 r = _ ∧ z 12 0 r = _ ∧ z 28 0 r = _
                rw [fz2.1 10 (by decide), fz2.1 26 (by decide), fz2.1 11 (by decide), fz2.1 27 (by decide), fz2.1 12 (by decide), fz2.1 28 (by decide), up_k (by decide), up_k (by decide), up_k (by decide), up_k (by decide), up_k (by decide), up_k (by decide), f1 10 (by decide), f1 26 (by decide), f1 11 (by decide), f1 27 (by decide), f1 12 (by decide), f1 28 (by decide)]
                exact hR0.2.2.2.1 r hr
              · refine hS0.fr ?_ ?_ ?_ ?_ ?_ ?_
                · exact (up_k (by decide)).trans ((fz2.1 1 (by decide)).trans ((up_k (by decide)).trans (f1 1 (by decide))))
                · exact (up_k (by decide)).trans ((fz2.1 2 (by decide)).trans ((up_k (by decide)).trans (f1 2 (by decide))))
                · exact (up_k (by decide)).trans ((fz2.1 3 (by decide)).trans ((up_k (by decide)).trans (f1 3 (by decide))))
                · exact (up_k (by decide)).trans ((fz2.1 29 (by decide)).trans ((up_k (by decide)).trans (f1 29 (by decide))))
                · exact (up_k (by decide)).trans ((fz2.1 30 (by decide)).trans ((up_k (by decide)).trans (f1 30 (by decide))))
                · exact (up_k (by decide)).trans ((fz2.1 31 (by decide)).trans ((up_k (by decide)).trans (f1 31 (by decide))))
              · show z 0 0 4 = z 13 0 32
                rw [fz2.1 0 (by decide), fz2.2 32 (by decide), up_k (by decide), up_k (by decide), f1 0 (by decide), f1 13 (by decide)]
                exact hT0
              · show z 0 0 5 = 0
                rw [fz2.1 0 (by decide), up_k (by decide), f1 0 (by decide)]; rfl
            | succ r ih =>
              intro u z hu fz hz
              have hun : u < n' := by omega
              have hu8 : u < 8 := by omega
              have hz1 : z 13 0 1 = nI n' := (fz.2 1 (by decide)).trans Z1
              have iu : vp_in (nI u) 8 := in8 hu8 (by omega)
              obtain ⟨w0, w1, w2, w3⟩ := ZT u hun
              refine vcl_X6_hall_111 ⟨fun q => absurd (by rw [hz1] at q; exact q) (nI_ge hun (by omega)), fun _ => ⟨iu, iu, iu, iu, iu, iu, iu, iu, iu, ?_⟩⟩
              rw [cl8 hu8, nI_1]
              refine ih (u + 1) _ (by omega) (((((fz.upk (by decide) (by decide)).upk (by decide) (by decide)).upk (by decide) (by decide)).upk (by decide) (by decide)).upk (by decide) (by decide)) (fun t ht => ?_)
              obtain ⟨t0, t1, t2, t3, t4⟩ := hz t ht
              by_cases e : t = u
              · subst e
                rw [nw_in (by omega), nw_in (by omega), nw_in (by omega), nw_in (by omega), nw_in (by omega)]
                refine ⟨?_, ?_, ?_, ?_, ?_⟩
                · rw [up_k (by decide), up_k (by decide), up_k (by decide), up_k (by decide), up_s, fz.1 19 (by decide)]; exact w0
                · rw [up_k (by decide), up_k (by decide), up_k (by decide), up_s, up_k (by decide), fz.1 20 (by decide)]; exact w1
                · rw [up_k (by decide), up_k (by decide), up_s, up_k (by decide), up_k (by decide), fz.1 21 (by decide)]; exact w2
                · rw [up_k (by decide), up_s, up_k (by decide), up_k (by decide), up_k (by decide), fz.1 22 (by decide)]; exact w3
                · rw [up_s]; rfl
              · have nu : ∀ (f g : Nat → Nat), nw (u + 1) f g t = nw u f g t := fun f g => by
                  unfold nw
                  by_cases c : t < u
                  · rw [if_pos c, if_pos (by omega)]
                  · rw [if_neg c, if_neg (by omega)]
                rw [nu, nu, nu, nu, nu]
                refine ⟨?_, ?_, ?_, ?_, ?_⟩ <;> simp only [up_app, e, and_false, false_and, if_false, and_true, true_and] <;> first | assumption | simpa using t0 | simpa using t1 | simpa using t2 | simpa using t3 | simpa using t4
          refine key n' 0 Z (by omega) FM.rf (fun t ht => ?_)
          have nz : ∀ (f g : Nat → Nat), nw 0 f g = g := fun f g => funext fun u => if_neg (Nat.not_lt_zero u)
          rw [nz, nz, nz, nz, nz]
          exact ZM t ht
      · refine vc_X6_hall (k_noSheet (fun _ => e0 (k_inN (N := 3) rfl (fun _ => n1 (k_barred hk (hor 3 k hk) (fun s => absurd s.1 z1) (fun la ln s q => absurd (s.2.2.1.symm.trans z2) q) (fun la ln s q q2 => absurd q2 (by omega)) (fun la ln s q q2 q3 => ⟨fun q => absurd q (by decide), fun _ => ⟨rfl, hf _⟩⟩) (fun la' ln' s q q2 q3 => absurd q3 ?_))) (fun q => absurd cb q))) (fun q => absurd ca q))
        have : ln' = ln := (nI_eq (by have := s.2.1; omega) (by omega)).mp (s.2.2.2.2.1.symm.trans s4)
        rw [this]; exact r
    · rw [fa_le, i0] at ce
      refine vc_X6_hall (k_noSheet (fun _ => e0 (k_inN (N := 3) rfl (fun _ => n1 (k_barred hk (hor 4 k hk) (fun s => absurd s.1 z1) (fun la ln s q => absurd (s.2.2.1.symm.trans z2) q) (fun la ln s q q2 => ⟨fun q => absurd q (by decide), fun _ => ⟨rfl, hf _⟩⟩) (fun la ln s q q2 q3 => absurd q2 (by omega)) (fun la' ln' s q q2 q3 => absurd q2 (by omega)))) (fun q => absurd cb q))) (fun q => absurd ca q))
  · exact vc_X6_hall (k_noSheet (fun _ => e0 (k_inN (N := 3) rfl (fun q => absurd q cb) (fun _ => n0 (k_refused ⟨rfl, h01⟩)))) (fun q => absurd ca q))
  · exact vc_X6_hall (k_noSheet (fun q => absurd q ca) (fun _ => e1 (k_refused ⟨rfl, h01⟩)))
end
