/-! TEXTS: what the reference reads of the train, of a table, of a hall -/
/-- a figure's worth -/
def D (C : Nat → Int) (p : Nat) : Nat := (C p - 48).toNat
section
variable {d : Nat} {Q : Option AV → Mem → Prop} {x : Mem}
theorem fig9 {F m p lo hi : Nat} (hlo : lo ≤ hi) (hhi : hi ≤ 9) (hF : F + m ≤ 240) (hx : x 13 0 10 = nI p) (hp : p ≤ m) (hf : ∀ x', FM [] [10] x x' → x' 13 0 10 = nI p → Q (some (vi (-9))) x') : CC (d + 2) 92 [vr 13 0, vi (nI F), vi (nI m), vi (-9), vi (nI lo), vi (nI hi)] x Q :=
  k_figure hlo hhi hF hx hp (fun q => absurd q (by decide)) (fun _ => hf)
/-- a figure where the codes are told -/
theorem fig {C : Nat → Int} {F m p lo hi j0 : Nat} (hj0 : j0 < 1000) (hlo : lo ≤ hi) (hhi : hi ≤ 9) (hF : F + m ≤ 240) (hC : ∀ p, p < m → (x 31 0 (F + p)).toInt = C p) (hx : x 13 0 10 = nI p) (hp : p ≤ m) 
    (hs : p < m → 48 + (lo : Int) ≤ C p → C p ≤ 48 + (hi : Int) → ∀ x', FM [] [10] x x' → x' 13 0 10 = nI (p + 1) → Q (some (vi (nI (D C p)))) x')
    (hf : (p < m → ¬ (48 + (lo : Int) ≤ C p ∧ C p ≤ 48 + (hi : Int))) → ∀ x', FM [] [10] x x' → x' 13 0 10 = nI p → Q (some (vi (-9))) x') : CC (d + 2) 92 [vr 13 0, vi (nI F), vi (nI m), vi (nI j0), vi (nI lo), vi (nI hi)] x Q := by
  have pp : (0 : Int32) ≤ nI j0 := (nI_leI (a := 0) (by omega) (by omega)).mpr (Nat.zero_le _)
  refine k_figure hlo hhi hF hx hp (fun _ hpm j h1 h2 e x' f v => ?_) (fun w => hf (fun hpm q => w pp hpm ?_))
  · rw [hC p hpm] at e
    have : D C p = j := by unfold D; omega
    have h3 := hs hpm (by omega) (by omega) x' f v
    rw [this] at h3
    exact h3
  · rw [hC p hpm]; exact q
theorem FM.m31 {js : List Nat} {ks : List Nat} {y z : Mem} (f : FM ks js y z) (h : 31 ∉ 13 :: ks) {C : Nat → Int} {F m : Nat} (hC : ∀ p, p < m → (y 31 0 (F + p)).toInt = C p) : ∀ p, p < m → (z 31 0 (F + p)).toInt = C p := fun p hp => by rw [f.1 31 h]; exact hC p hp
theorem k_train {C : Nat → Int} {F m : Nat} (hm : 1 ≤ m) (hF : F + m ≤ 240) (hC : ∀ p, p < m → (x 31 0 (F + p)).toInt = C p) (hx : x 13 0 10 = nI 1)
    (hs : 4 ≤ m → gdp C 1 → gdp C 2 → gdp C 3 → ∀ x', FM [] [10, 11, 12] x x' → x' 13 0 10 = nI 4 → x' 13 0 11 = nI (10 * D C 1 + D C 2) → x' 13 0 12 = nI (D C 3) → Q (some (vi 1)) x')
    (hf : ∀ p, p ≤ m → 1 ≤ p → p < 4 → (∀ q, 1 ≤ q → q < p → gdp C q) → (p < m → ¬ gdp C p) → ∀ x', FM [] [10, 11, 12] x x' → x' 13 0 10 = nI p → Q (some (vi 0)) x') : CC (d + 3) 93 [vr 13 0, vi (nI F), vi (nI m)] x Q := by
  refine vc_X6_readsTrain (fig (j0 := 0) (lo := 0) (hi := 3) (by omega) (by omega) (by omega) hF hC hx hm (fun c1 c2 c3 x1 f1 v1 => ?_) (fun c1 x1 f1 v1 => ?_))
  · have g1 : gdp C 1 := gdp1.mpr ⟨by omega, by omega⟩
    have hD1 : D C 1 ≤ 3 := by unfold D; omega
    have e51 : C 1 = 51 ↔ D C 1 = 3 := by unfold D; omega
    have hC1 := f1.m31 (by decide) hC
    -- the rest, with the most that the second figure may be
    have rest : ∀ (hi : Nat), (hi = if C 1 = 51 then 6 else 9) → CC (d + 2) 92 [vr 13 0, vi (nI F), vi (nI m), vi (nI (D C 1)), vi (nI 0), vi (nI hi)] x1 (fun v2 x2 => rI v2 fun r2 => (CC (d + 2) 92 [vr 13 0, vi (nI F), vi (nI m), vi r2, vi (nI 1), vi (nI 4)] x2 fun v3 x3 => rI v3 fun r3 => ((((up (up x3 13 0 12 r3) 13 0 11 (((10 : Int32) * nI (D C 1)) + r2)) 13 0 12) ≤ 0 → (((0 : Int32) = 0 ∨ (0 : Int32) = 1) ∧ (Q (some (vi (0 : Int32))) (up (up x3 13 0 12 r3) 13 0 11 (((10 : Int32) * nI (D C 1)) + r2))))) ∧ (¬ ((up (up x3 13 0 12 r3) 13 0 11 (((10 : Int32) * nI (D C 1)) + r2)) 13 0 12) ≤ 0 → (((1 : Int32) = 0 ∨ (1 : Int32) = 1) ∧ (Q (some (vi (1 : Int32))) (up (up x3 13 0 12 r3) 13 0 11 (((10 : Int32) * nI (D C 1)) + r2)))))))) := by
      intro hi hhi
      have hi9 : hi ≤ 9 := by rw [hhi]; split <;> omega
      have g2i : gdp C 2 ↔ 48 ≤ C 2 ∧ C 2 ≤ 48 + (hi : Int) := by
        rw [gdp2, hhi]
        by_cases q : C 1 = 51
        · rw [if_pos q, if_pos q]; exact Iff.rfl
        · rw [if_neg q, if_neg q]; exact Iff.rfl
      refine fig (p := 2) (by omega) (by omega) hi9 hF hC1 v1 (by omega) (fun b1 b2 b3 x2 f2 v2 => ?_) (fun b1 x2 f2 v2 => ?_)
      · have g2 : gdp C 2 := g2i.mpr ⟨by omega, b3⟩
        have hD2 : D C 2 ≤ 9 := by unfold D; omega
        have f12 := f1.tr f2
        refine fig (p := 3) (by omega) (by omega) (by omega) hF (f2.m31 (by decide) hC1) v2 (by omega) (fun a1 a2 a3 x3 f3 v3 => ?_) (fun a1 x3 f3 v3 => ?_)
        · have g3 : gdp C 3 := gdp3.mpr ⟨by omega, by omega⟩
          have hD3 : 1 ≤ D C 3 ∧ D C 3 ≤ 4 := by unfold D; omega
          have e12 : up (up x3 13 0 12 (nI (D C 3))) 13 0 11 (10 * nI (D C 1) + nI (D C 2)) 13 0 12 = nI (D C 3) := by rw [up_n (by omega), up_s]
          dsimp only [rI]
          rw [e12]
          refine ⟨fun q => absurd ((nI_leI (b := 0) (by omega) (by omega)).mp q) (by omega), fun _ => ⟨z1, hs (by omega) g1 g2 g3 _ ((((f12.tr f3).sub (by decide) (by decide)).upj (by decide)).upj (by decide)) ?_ ?_ e12⟩⟩
          · rw [up_n (by omega), up_n (by omega)]; exact v3
          · rw [up_s, show (10 : Int32) = nI 10 from rfl, pk_mul, nI_add]
        · have e12 : up (up x3 13 0 12 (-9)) 13 0 11 (10 * nI (D C 1) + nI (D C 2)) 13 0 12 = -9 := by rw [up_n (by omega), up_s]
          dsimp only [rI]
          rw [e12]
          refine ⟨fun _ => ⟨z0, hf 3 (by omega) (by omega) (by omega) (fun q q1 q2 => ?_) (fun q => ?_) _ ((((f12.tr f3).sub (by decide) (by decide)).upj (by decide)).upj (by decide)) ?_⟩, fun q => absurd (by decide) q⟩
          · have : q = 1 ∨ q = 2 := by omega
            rcases this with e | e <;> subst e <;> assumption
          · rw [gdp3]
            intro w
            exact a1 q ⟨by omega, by omega⟩
          · rw [up_n (by omega), up_n (by omega)]; exact v3
      · have f12 := f1.tr f2
        refine fig9 (by omega) (by omega) hF v2 (by omega) (fun x3 f3 v3 => ?_)
        have e12 : up (up x3 13 0 12 (-9)) 13 0 11 (10 * nI (D C 1) + (-9)) 13 0 12 = -9 := by rw [up_n (by omega), up_s]
        dsimp only [rI]
        rw [e12]
        refine ⟨fun _ => ⟨z0, hf 2 (by omega) (by omega) (by omega) (fun q q1 q2 => ?_) (fun q => ?_) _ ((((f12.tr f3).sub (by decide) (by decide)).upj (by decide)).upj (by decide)) ?_⟩, fun q => absurd (by decide) q⟩
        · have : q = 1 := by omega
          subst this; exact g1
        · rw [g2i]
          intro w
          exact b1 q ⟨by omega, w.2⟩
        · rw [up_n (by omega), up_n (by omega)]; exact v3
    refine ⟨fun c => rest 9 ?_, fun c => rest 6 ?_⟩
    · rw [if_neg (fun q => c (by rw [e51.mp q]; rfl))]
    · rw [show (3 : Int32) = nI 3 from rfl, nI_eq (by omega) (by omega)] at c
      rw [if_pos (e51.mpr c)]
  · have ng : 1 < m → ¬ gdp C 1 := fun q => by
      rw [gdp1]
      intro w
      exact c1 q ⟨by omega, by omega⟩
    refine ⟨fun _ => fig9 (lo := 0) (hi := 9) (by omega) (by omega) hF v1 (by omega) (fun x2 f2 v2 => fig9 (lo := 1) (hi := 4) (by omega) (by omega) hF v2 (by omega) (fun x3 f3 v3 => ?_)), fun q => absurd q (by decide)⟩
    have e12 : up (up x3 13 0 12 (-9)) 13 0 11 (10 * (-9) + (-9)) 13 0 12 = -9 := by rw [up_n (by omega), up_s]
    dsimp only [rI]
    rw [e12]
    refine ⟨fun _ => ⟨z0, hf 1 (by omega) (by omega) (by omega) (fun q q1 q2 => by omega) ng _ (((((f1.tr f2).tr f3).sub (by decide) (by decide)).upj (by decide)).upj (by decide)) ?_⟩, fun q => absurd (by decide) q⟩
    rw [up_n (by omega), up_n (by omega)]; exact v3
/-- what is known of a table that was read -/
def TB (C : Nat → Int) (x : Mem) (u : Nat) : Prop := x 19 0 u = nI (kn (C (4 + 6 * u + 1))) ∧ x 20 0 u = nI (D C (4 + 6 * u + 2)) ∧ x 21 0 u = nI (D C (4 + 6 * u + 3)) ∧ x 22 0 u = nI (10 * D C (4 + 6 * u + 4) + D C (4 + 6 * u + 5))
theorem k_table {C : Nat → Int} {F m t : Nat} (hm : 4 + 6 * t ≤ m) (ht : t ≤ 8) (hF : F + m ≤ 240) (hm2 : m ≤ 60) (hC : ∀ p, p < m → (x 31 0 (F + p)).toInt = C p) (hx : x 13 0 10 = nI (4 + 6 * t)) (hxt : x 13 0 13 = nI t)
    (hs : t < 8 → 10 + 6 * t ≤ m → (∀ r, r < 6 → gdp C (4 + 6 * t + r)) → ∀ x', FM [19, 20, 21, 22] [10, 13] x x' → x' 13 0 10 = nI (10 + 6 * t) → x' 13 0 13 = nI (t + 1) → TB C x' t → (∀ u, u ≠ t → x' 19 0 u = x 19 0 u ∧ x' 20 0 u = x 20 0 u ∧ x' 21 0 u = x 21 0 u ∧ x' 22 0 u = x 22 0 u) → Q (some (vi 1)) x')
    (hf : ∀ r, r < 6 → 4 + 6 * t + r ≤ m → (∀ q, q < r → gdp C (4 + 6 * t + q)) → (4 + 6 * t + r < m → ¬ gdp C (4 + 6 * t + r)) → ∀ x', FM [19, 20, 21, 22] [10, 13] x x' → x' 13 0 10 = nI (4 + 6 * t + r) → Q (some (vi 0)) x') : CC (d + 3) 94 [vr 13 0, vi (nI F), vi (nI m)] x Q := by
  have e0 : gdp C (4 + 6 * t) ↔ C (4 + 6 * t) = 59 ∧ t < 8 := by rw [gdpT (p := 4 + 6 * t) (t := t) (r := 0) (by omega) (by omega), if_pos rfl]
  have e1' : gdp C (4 + 6 * t + 1) ↔ (C (4 + 6 * t + 1) = 103 ∨ C (4 + 6 * t + 1) = 100 ∨ C (4 + 6 * t + 1) = 99) := by rw [gdpT (t := t) (r := 1) rfl (by omega)]; simp
  have e2 : gdp C (4 + 6 * t + 2) ↔ (48 ≤ C (4 + 6 * t + 2) ∧ C (4 + 6 * t + 2) ≤ 57) := by rw [gdpT (t := t) (r := 2) rfl (by omega)]; simp
  have e3 : gdp C (4 + 6 * t + 3) ↔ (48 ≤ C (4 + 6 * t + 3) ∧ C (4 + 6 * t + 3) ≤ 57) := by rw [gdpT (t := t) (r := 3) rfl (by omega)]; simp
  have e4 : gdp C (4 + 6 * t + 4) ↔ (48 ≤ C (4 + 6 * t + 4) ∧ C (4 + 6 * t + 4) ≤ 51) := by rw [gdpT (t := t) (r := 4) rfl (by omega)]; simp
  have e5 : gdp C (4 + 6 * t + 5) ↔ (48 ≤ C (4 + 6 * t + 5) ∧ C (4 + 6 * t + 5) ≤ 57) := by rw [gdpT (t := t) (r := 5) rfl (by omega)]; simp
  refine vc_X6_readsTable ?_
  rw [hxt]
  refine ⟨fun c => ⟨z0, hf 0 (by omega) (by omega) (fun q hq => absurd hq (Nat.not_lt_zero q)) (fun _ => ?_) x FM.rf hx⟩, fun c => ?_⟩
  · rw [show (8 : Int32) = nI 8 from rfl, nI_eq (by omega) (by omega)] at c
    rw [show 4 + 6 * t + 0 = 4 + 6 * t from rfl, e0]
    omega
  have ht8 : t < 8 := by
    rw [show (8 : Int32) = nI 8 from rfl, nI_eq (by omega) (by omega)] at c
    omega
  refine k_codeAt (p := 4 + 6 * t) hF hx hm (fun hpm => ⟨fun c59 => ?_, fun c59 => ⟨z0, hf 0 (by omega) (by omega) (fun q hq => absurd hq (Nat.not_lt_zero q)) (fun _ => ?_) x FM.rf hx⟩⟩) (fun hpm => ⟨fun q => absurd q (by decide), fun _ => ⟨z0, hf 0 (by omega) (by omega) (fun q hq => absurd hq (Nat.not_lt_zero q)) (fun q => absurd q (by omega)) x FM.rf hx⟩⟩)
  · have g0 : gdp C (4 + 6 * t) := e0.mpr ⟨by rw [← hC _ hpm]; exact (eqI rfl).mp c59, ht8⟩
    refine vcl_X6_readsTable_22 ?_
    have f1 : FM [] [10] x (up x 13 0 10 (x 13 0 10 + 1)) := FM.rf.upj (by decide)
    have v1 : (up x 13 0 10 (x 13 0 10 + 1)) 13 0 10 = nI (4 + 6 * t + 1) := by rw [up_s, hx, nI_1]
    have hC1 := f1.m31 (by decide) hC
    generalize up x 13 0 10 (x 13 0 10 + 1) = y1 at f1 v1 hC1
    refine k_codeAt (p := 4 + 6 * t + 1) hF v1 (by omega) (fun hpm1 => ?_) (fun hpm1 => ⟨fun q => absurd q (by decide), fun _ => ⟨fun q => absurd q (by decide), fun _ => ⟨fun q => absurd q (by decide), fun _ => ⟨z0, hf 1 (by omega) (by omega) (fun q hq => ?_) (fun q => absurd q (by omega)) y1 (f1.sub (by decide) (by decide)) v1⟩⟩⟩⟩)
    · have h59 : (C (4 + 6 * t + 1) = 103 ∨ C (4 + 6 * t + 1) = 100 ∨ C (4 + 6 * t + 1) = 99) → AT 94 (d + 2) Q 59 [vr 13 0, vi (nI F), vi (nI m), vi (y1 31 0 (F + (4 + 6 * t + 1))), vu, vu, vu, vu] y1 := by
        intro c1
        have g1 := e1'.mpr c1
        have ec := hC1 _ hpm1
        generalize y1 31 0 (F + (4 + 6 * t + 1)) = cd at ec
        refine vcl_X6_readsTable_59 ?_
        have f2 : FM [] [10] x (up y1 13 0 10 (y1 13 0 10 + 1)) := f1.upj (by decide)
        have v2 : (up y1 13 0 10 (y1 13 0 10 + 1)) 13 0 10 = nI (4 + 6 * t + 2) := by rw [up_s, v1, nI_1]
        generalize up y1 13 0 10 (y1 13 0 10 + 1) = y2 at f2 v2
        -- what is left when one figure is none
        have dead : ∀ (z : Mem) (r : Nat), 2 ≤ r → r < 6 → FM [] [10] x z → z 13 0 10 = nI (4 + 6 * t + r) → 4 + 6 * t + r ≤ m → (∀ q, q < r → gdp C (4 + 6 * t + q)) → (4 + 6 * t + r < m → ¬ gdp C (4 + 6 * t + r)) → Q (some (vi 0)) z := fun z r h2 h6 fz vz hm' hg hb => hf r h6 hm' hg hb z (fz.sub (by decide) (by decide)) vz
        refine fig (j0 := 0) (lo := 0) (hi := 9) (p := 4 + 6 * t + 2) (by omega) (by omega) (by omega) hF (f2.m31 (by decide) hC) v2 (by omega) (fun b1 b2 b3 y3 f3 v3 => ?_) (fun b1 y3 f3 v3 => ?_)
        · have g2 := e2.mpr ⟨by omega, by omega⟩
          have d2 : D C (4 + 6 * t + 2) ≤ 9 := by unfold D; omega
          have f23 := f2.tr f3
          refine fig (lo := 0) (hi := 9) (p := 4 + 6 * t + 3) (by omega) (by omega) (by omega) hF (f23.m31 (by decide) hC) v3 (by omega) (fun b1 b2 b3 y4 f4 v4 => ?_) (fun b1 y4 f4 v4 => ?_)
          · have g3 := e3.mpr ⟨by omega, by omega⟩
            have d3 : D C (4 + 6 * t + 3) ≤ 9 := by unfold D; omega
            have f24 := f23.tr f4
            refine fig (lo := 0) (hi := 3) (p := 4 + 6 * t + 4) (by omega) (by omega) (by omega) hF (f24.m31 (by decide) hC) v4 (by omega) (fun b1 b2 b3 y5 f5 v5 => ?_) (fun b1 y5 f5 v5 => ?_)
            · have g4 := e4.mpr ⟨by omega, by omega⟩
              have d4 : D C (4 + 6 * t + 4) ≤ 3 := by unfold D; omega
              have f25 := f24.tr f5
              refine fig (lo := 0) (hi := 9) (p := 4 + 6 * t + 5) (by omega) (by omega) (by omega) hF (f25.m31 (by decide) hC) v5 (by omega) (fun b1 b2 b3 y6 f6 v6 => ?_) (fun b1 y6 f6 v6 => ?_)
              · have g5 := e5.mpr ⟨by omega, by omega⟩
                have d5 : D C (4 + 6 * t + 5) ≤ 9 := by unfold D; omega
                have f26 := f25.tr f6
                have hall : ∀ r, r < 6 → gdp C (4 + 6 * t + r) := fun r hr => by
                  have : r = 0 ∨ r = 1 ∨ r = 2 ∨ r = 3 ∨ r = 4 ∨ r = 5 := by omega
                  rcases this with e | e | e | e | e | e <;> subst e <;> assumption
                have t6 : y6 13 0 13 = nI t := by rw [f26.2 13 (by decide)]; exact hxt
                have h156 : AT 94 (d + 2) Q 156 [vr 13 0, vi (nI F), vi (nI m), vi cd, vi (nI (D C (4 + 6 * t + 2))), vi (nI (D C (4 + 6 * t + 3))), vi (nI (D C (4 + 6 * t + 4))), vi (nI (D C (4 + 6 * t + 5)))] (up y6 19 0 t (nI (kn (C (4 + 6 * t + 1))))) := by
                  refine vcl_X6_readsTable_156 ?_
                  have t7 : (up y6 19 0 t (nI (kn (C (4 + 6 * t + 1))))) 13 0 13 = nI t := t6
                  simp only [up_k (show (13 : Nat) ≠ 19 by decide), up_k (show (13 : Nat) ≠ 20 by decide), up_k (show (13 : Nat) ≠ 21 by decide), up_k (show (13 : Nat) ≠ 22 by decide), t6, cl8 ht8]
                  refine ⟨in8 ht8 (by omega), in8 ht8 (by omega), in8 ht8 (by omega), Or.inr trivial, hs ht8 (by omega) hall _ ((((((f26.sub (by decide) (by decide) : FM [19, 20, 21, 22] [10, 13] x y6).upk (by decide) (by decide)).upk (by decide) (by decide)).upk (by decide) (by decide)).upk (by decide) (by decide)).upj (by decide)) ?_ ?_ ⟨?_, ?_, ?_, ?_⟩ (fun u hu => ⟨?_, ?_, ?_, ?_⟩)⟩
                  · rw [up_n (by omega), up_k (by decide), up_k (by decide), up_k (by decide), up_k (by decide), v6, show 4 + 6 * t + 5 + 1 = 10 + 6 * t by omega]
                  · rw [up_s, nI_1]
                  · simp [up_app]
                  · simp [up_app]
                  · simp [up_app]
                  · rw [up_k (by decide), up_s, show (10 : Int32) = nI 10 from rfl, pk_mul, nI_add]
                  · rw [← f26.1 19 (by decide)]; simp [up_app, hu]
                  · rw [← f26.1 20 (by decide)]; simp [up_app, hu]
                  · rw [← f26.1 21 (by decide)]; simp [up_app, hu]
                  · rw [← f26.1 22 (by decide)]; simp [up_app, hu]
                dsimp only [rI]
                rw [t6, cl8 ht8]
                refine ⟨fun _ => ⟨fun c3 => ⟨fun c4 => ⟨in8 ht8 (by omega), ?_⟩, fun c4 => ⟨in8 ht8 (by omega), ?_⟩⟩, fun c3 => ⟨in8 ht8 (by omega), ?_⟩⟩, fun q => absurd ((nI_leI (a := 0) (by omega) (by omega)).mpr (Nat.zero_le _)) q⟩
                · have : kn (C (4 + 6 * t + 1)) = 2 := by
                    have q1 : ¬ C (4 + 6 * t + 1) = 103 := fun q => c3 ((eqI rfl).mpr (ec.trans q))
                    have q2 : ¬ C (4 + 6 * t + 1) = 100 := fun q => c4 ((eqI rfl).mpr (ec.trans q))
                    unfold kn
                    rw [if_neg q1, if_neg q2]
                  rw [this] at h156; exact h156
                · have c4' : C (4 + 6 * t + 1) = 100 := ec.symm.trans ((eqI rfl).mp c4)
                  have : kn (C (4 + 6 * t + 1)) = 1 := by
                    unfold kn
                    rw [c4']; rfl
                  rw [this] at h156; exact h156
                · have c3' : C (4 + 6 * t + 1) = 103 := ec.symm.trans ((eqI rfl).mp c3)
                  have : kn (C (4 + 6 * t + 1)) = 0 := by
                    unfold kn
                    rw [c3']; rfl
                  rw [this] at h156; exact h156
              · refine ⟨fun q => absurd q (by decide), fun _ => ⟨z0, dead _ 5 (by omega) (by omega) (f25.tr f6) v6 (by omega) (fun q hq => ?_) (fun q => ?_)⟩⟩
                · have : q = 0 ∨ q = 1 ∨ q = 2 ∨ q = 3 ∨ q = 4 := by omega
                  rcases this with e | e | e | e | e <;> subst e <;> assumption
                · rw [e5]; intro w; exact b1 q ⟨by omega, by omega⟩
            · refine fig9 (lo := 0) (hi := 9) (by omega) (by omega) hF v5 (by omega) (fun y6 f6 v6 => ?_)
              refine ⟨fun q => absurd q (by decide), fun _ => ⟨z0, dead _ 4 (by omega) (by omega) ((f24.tr f5).tr f6) v6 (by omega) (fun q hq => ?_) (fun q => ?_)⟩⟩
              · have : q = 0 ∨ q = 1 ∨ q = 2 ∨ q = 3 := by omega
                rcases this with e | e | e | e <;> subst e <;> assumption
              · rw [e4]; intro w; exact b1 q ⟨by omega, by omega⟩
          · refine fig9 (lo := 0) (hi := 3) (by omega) (by omega) hF v4 (by omega) (fun y5 f5 v5 => fig9 (lo := 0) (hi := 9) (by omega) (by omega) hF v5 (by omega) (fun y6 f6 v6 => ?_))
            refine ⟨fun q => absurd q (by decide), fun _ => ⟨z0, dead _ 3 (by omega) (by omega) (((f23.tr f4).tr f5).tr f6) v6 (by omega) (fun q hq => ?_) (fun q => ?_)⟩⟩
            · have : q = 0 ∨ q = 1 ∨ q = 2 := by omega
              rcases this with e | e | e <;> subst e <;> assumption
            · rw [e3]; intro w; exact b1 q ⟨by omega, by omega⟩
        · refine fig9 (lo := 0) (hi := 9) (by omega) (by omega) hF v3 (by omega) (fun y4 f4 v4 => fig9 (lo := 0) (hi := 3) (by omega) (by omega) hF v4 (by omega) (fun y5 f5 v5 => fig9 (lo := 0) (hi := 9) (by omega) (by omega) hF v5 (by omega) (fun y6 f6 v6 => ?_)))
          refine ⟨fun q => absurd q (by decide), fun _ => ⟨z0, dead _ 2 (by omega) (by omega) ((((f2.tr f3).tr f4).tr f5).tr f6) v6 (by omega) (fun q hq => ?_) (fun q => ?_)⟩⟩
          · have : q = 0 ∨ q = 1 := by omega
            rcases this with e | e <;> subst e <;> assumption
          · rw [e2]; intro w; exact b1 q ⟨by omega, by omega⟩
      have ec := hC1 _ hpm1
      refine ⟨fun c => h59 (Or.inl (ec.symm.trans ((eqI rfl).mp c))), fun c => ⟨fun c2 => h59 (Or.inr (Or.inl (ec.symm.trans ((eqI rfl).mp c2)))), fun c2 => ⟨fun c3 => h59 (Or.inr (Or.inr (ec.symm.trans ((eqI rfl).mp c3)))), fun c3 => ⟨z0, hf 1 (by omega) (by omega) (fun q hq => ?_) (fun _ => ?_) y1 (f1.sub (by decide) (by decide)) v1⟩⟩⟩⟩
      · have : q = 0 := by omega
        subst this; exact g0
      · rw [e1']
        rintro (w | w | w)
        · exact c ((eqI rfl).mpr (ec.trans w))
        · exact c2 ((eqI rfl).mpr (ec.trans w))
        · exact c3 ((eqI rfl).mpr (ec.trans w))
    · have : q = 0 := by omega
      subst this; exact g0
  · rw [show 4 + 6 * t + 0 = 4 + 6 * t from rfl, e0]
    intro w
    exact c59 ((eqI rfl).mpr ((hC _ hpm).trans w.1))
end
