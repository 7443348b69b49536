/-! TEXTS: which places are as they ought to be; what the class and the reference read -/
/-- whether the code at a place is as a text has it there -/
def gdp (C : Nat → Int) (p : Nat) : Prop :=
  if p = 0 then C 0 = 114 else if p = 1 then 48 ≤ C 1 ∧ C 1 ≤ 51 else if p = 2 then 48 ≤ C 2 ∧ C 2 ≤ (if C 1 = 51 then 54 else 57) else if p = 3 then 49 ≤ C 3 ∧ C 3 ≤ 52
  else if (p - 4) % 6 = 0 then C p = 59 ∧ (p - 4) / 6 < 8 else if (p - 4) % 6 = 1 then (C p = 103 ∨ C p = 100 ∨ C p = 99) else if (p - 4) % 6 = 4 then 48 ≤ C p ∧ C p ≤ 51 else 48 ≤ C p ∧ C p ≤ 57
def gtx (C : Nat → Int) (m : Nat) : Prop := (∀ q, q < m → gdp C q) ∧ 16 ≤ m ∧ (m - 4) % 6 = 0
def bdt (C : Nat → Int) (m p : Nat) : Prop := p ≤ m ∧ (∀ q, q < p → gdp C q) ∧ (p < m → ¬ gdp C p) ∧ (p = m → ¬ (16 ≤ m ∧ (m - 4) % 6 = 0))
theorem bdt_one {C : Nat → Int} {m p q : Nat} (h : bdt C m p) (k : bdt C m q) : p = q := by
  obtain ⟨h1, h2, h3, h4⟩ := h
  obtain ⟨k1, k2, k3, k4⟩ := k
  rcases Nat.lt_trichotomy p q with c | c | c
  · exact absurd (k2 p c) (h3 (by omega))
  · exact c
  · exact absurd (h2 q c) (k3 (by omega))
theorem bdt_not {C : Nat → Int} {m p : Nat} (h : bdt C m p) (k : gtx C m) : False := by
  obtain ⟨h1, h2, h3, h4⟩ := h
  rcases Nat.lt_or_ge p m with c | c
  · exact h3 c (k.1 p c)
  · exact h4 (by omega) k.2
theorem gdp0 {C : Nat → Int} : gdp C 0 ↔ C 0 = 114 := by simp [gdp]
theorem gdp1 {C : Nat → Int} : gdp C 1 ↔ 48 ≤ C 1 ∧ C 1 ≤ 51 := by simp [gdp]
theorem gdp2 {C : Nat → Int} : gdp C 2 ↔ 48 ≤ C 2 ∧ C 2 ≤ (if C 1 = 51 then 54 else 57) := by simp [gdp]
theorem gdp3 {C : Nat → Int} : gdp C 3 ↔ 49 ≤ C 3 ∧ C 3 ≤ 52 := by simp [gdp]
theorem gdpT {C : Nat → Int} {p t r : Nat} (hp : p = 4 + 6 * t + r) (hr : r < 6) : gdp C p ↔ (if r = 0 then C p = 59 ∧ t < 8 else if r = 1 then (C p = 103 ∨ C p = 100 ∨ C p = 99) else if r = 4 then 48 ≤ C p ∧ C p ≤ 51 else 48 ≤ C p ∧ C p ≤ 57) := by
  unfold gdp
  rw [if_neg (by omega), if_neg (by omega), if_neg (by omega), if_neg (by omega), show (p - 4) % 6 = r by omega, show (p - 4) / 6 = t by omega]
theorem rngQ {a A B : Int32} {P0 P1 : Prop} (h1 : A.toInt ≤ a.toInt ∧ a.toInt ≤ B.toInt → P1) (h0 : ¬ (A.toInt ≤ a.toInt ∧ a.toInt ≤ B.toInt) → P0) : (a < A → P0) ∧ (¬ a < A → ((B < a → P0) ∧ (¬ B < a → P1))) := by
  simp only [fa_lt]
  exact ⟨fun c => h0 (by omega), fun c => ⟨fun c2 => h0 (by omega), fun c2 => h1 (by omega)⟩⟩
theorem eqI {a b : Int32} {z : Int} (hb : b.toInt = z) : a = b ↔ a.toInt = z := by rw [fa_eq, hb]
def kn (v : Int) : Nat := if v = 103 then 0 else if v = 100 then 1 else 2
theorem kn_le (v : Int) : kn v ≤ 2 := by
  unfold kn
  split
  · omega
  · split <;> omega
section
variable {d : Nat} {Q : Option AV → Mem → Prop} {x : Mem}
theorem k_kindOf {cd : Int32} (h1 : cd.toInt = 103 ∨ cd.toInt = 100 ∨ cd.toInt = 99 → Q (some (vi (nI (kn cd.toInt)))) x) (h0 : ¬ (cd.toInt = 103 ∨ cd.toInt = 100 ∨ cd.toInt = 99) → Q (some (vi (-9))) x) : CC (d + 1) 69 [vi cd] x Q := by
  refine vc_X5_kindOf ⟨fun c => h0 (by omega), fun c => ?_, fun c => ?_, fun c => ?_, fun c => ?_, fun c => ?_, trivial⟩
  · subst c; exact h1 (by decide)
  · subst c; exact h1 (by decide)
  · subst c; exact h0 (by decide)
  · subst c; exact h0 (by decide)
  · subst c; exact h1 (by decide)
theorem k_head {C : Nat → Int} {p : Nat} {cd be : Int32} (hp : p < 4) (hc : cd.toInt = C p) (hb : p = 2 → be.toInt = C 1) (h1 : gdp C p → Q (some (vi 1)) x) (h0 : ¬ gdp C p → Q (some (vi 0)) x) : CC (d + 1) 67 [vi (nI p), vi cd, vi be] x Q := by
  have hp4 : p = 0 ∨ p = 1 ∨ p = 2 ∨ p = 3 := by omega
  refine vc_X5_isHeadCode ?_
  rcases hp4 with e | e | e | e <;> subst e
  · rw [gdp0, ← hc] at h1 h0
    refine ⟨fun q => absurd q (by decide), fun _ => ⟨fun c => ⟨z0, h0 (fun q => c ((eqI rfl).mpr q))⟩, fun c => ⟨z1, h1 ((eqI rfl).mp c)⟩⟩, fun q => absurd q (by decide), fun q => absurd q (by decide), trivial⟩
  · rw [gdp1, ← hc] at h1 h0
    refine ⟨fun q => absurd q (by decide), fun q => absurd q (by decide), fun _ => rngQ (fun c => ⟨z1, h1 c⟩) (fun c => ⟨z0, h0 c⟩), fun q => absurd q (by decide), trivial⟩
  · rw [gdp2, ← hc, ← hb rfl] at h1 h0
    refine ⟨fun q => absurd q (by decide), fun q => absurd q (by decide), fun q => absurd q (by decide), fun _ => ?_, trivial⟩
    by_cases c : be = 51
    · have c' : be.toInt = 51 := (eqI rfl).mp c
      rw [if_pos c'] at h1 h0
      have hh := rngQ (a := cd) (A := 48) (B := 54) (fun k => And.intro z1 (h1 k)) (fun k => And.intro z0 (h0 k))
      exact ⟨hh.1, fun k => ⟨fun q => absurd c q, fun _ => hh.2 k⟩⟩
    · have c' : ¬ be.toInt = 51 := fun q => c ((eqI rfl).mpr q)
      rw [if_neg c'] at h1 h0
      have hh := rngQ (a := cd) (A := 48) (B := 57) (fun k => And.intro z1 (h1 k)) (fun k => And.intro z0 (h0 k))
      exact ⟨hh.1, fun k => ⟨fun _ => hh.2 k, fun q => absurd q c⟩⟩
  · rw [gdp3, ← hc] at h1 h0
    refine ⟨fun _ => rngQ (fun c => ⟨z1, h1 c⟩) (fun c => ⟨z0, h0 c⟩), fun q => absurd q (by decide), fun q => absurd q (by decide), fun q => absurd q (by decide), trivial⟩
theorem k_tab {C : Nat → Int} {p : Nat} {cd : Int32} (hp : 4 ≤ p) (hp2 : p < 1000) (hc : cd.toInt = C p) (h1 : gdp C p → Q (some (vi 1)) x) (h0 : ¬ gdp C p → Q (some (vi 0)) x) : CC (d + 2) 68 [vi (nI p), vi cd] x Q := by
  obtain ⟨t, r, hr, e⟩ : ∃ t r, r < 6 ∧ p = 4 + 6 * t + r := ⟨(p - 4) / 6, (p - 4) % 6, by omega, by omega⟩
  refine vc_X5_isTableCode ?_
  rw [show (4 : Int32) = nI 4 from rfl, show (6 : Int32) = nI 6 from rfl, pk_sub hp, pk_rem (by omega) (by omega) (by omega), pk_div (by omega) (by omega) (by omega), show (p - 4) % 6 = r by omega, show (p - 4) / 6 = t by omega]
  rw [gdpT e hr, ← hc] at h1 h0
  have r6 : r = 0 ∨ r = 1 ∨ r = 2 ∨ r = 3 ∨ r = 4 ∨ r = 5 := by omega
  refine ⟨by decide, ?_⟩
  rcases r6 with q | q | q | q | q | q <;> subst q
  · refine ⟨fun q => absurd q (by decide), fun _ => ⟨fun c => ⟨z0, h0 (fun q => c ((eqI rfl).mpr q.1))⟩, fun c => ⟨by decide, fun c2 => ⟨z0, h0 (fun q => ?_)⟩, fun c2 => ⟨z1, h1 ⟨(eqI rfl).mp c, ?_⟩⟩⟩⟩, fun q => absurd q (by decide), fun q => absurd q (by decide), fun q => absurd q (by decide), fun q => absurd q (by decide), trivial⟩
    · rw [show (8 : Int32) = nI 8 from rfl, nI_leI (by omega) (by omega)] at c2
      have := q.2
      omega
    · rw [show (8 : Int32) = nI 8 from rfl, nI_leI (by omega) (by omega)] at c2
      omega
  · refine ⟨fun q => absurd q (by decide), fun q => absurd q (by decide), fun _ => k_kindOf (fun c => ⟨fun q => ?_, fun _ => ⟨z1, h1 c⟩⟩) (fun c => ⟨fun _ => ⟨z0, h0 c⟩, fun q => absurd rfl q⟩), fun q => absurd q (by decide), fun q => absurd q (by decide), fun q => absurd q (by decide), trivial⟩
    exfalso
    have : ¬ nI (kn cd.toInt) < 0 := nI_pos (by have := kn_le cd.toInt; omega)
    rw [q] at this
    exact this (by decide)
  · exact ⟨fun q => absurd q (by decide), fun q => absurd q (by decide), fun q => absurd q (by decide), fun _ => rngQ (fun c => ⟨z1, h1 c⟩) (fun c => ⟨z0, h0 c⟩), fun q => absurd q (by decide), fun q => absurd q (by decide), trivial⟩
  · exact ⟨fun q => absurd q (by decide), fun q => absurd q (by decide), fun q => absurd q (by decide), fun q => absurd q (by decide), fun _ => rngQ (fun c => ⟨z1, h1 c⟩) (fun c => ⟨z0, h0 c⟩), fun q => absurd q (by decide), trivial⟩
  · exact ⟨fun q => absurd q (by decide), fun q => absurd q (by decide), fun q => absurd q (by decide), fun q => absurd q (by decide), fun q => absurd q (by decide), fun _ => rngQ (fun c => ⟨z1, h1 c⟩) (fun c => ⟨z0, h0 c⟩), trivial⟩
  · exact ⟨fun _ => rngQ (fun c => ⟨z1, h1 c⟩) (fun c => ⟨z0, h0 c⟩), fun q => absurd q (by decide), fun q => absurd q (by decide), fun q => absurd q (by decide), fun q => absurd q (by decide), fun q => absurd q (by decide), trivial⟩
theorem k_firstFault {C : Nat → Int} {k i m : Nat} (hi : i + m ≤ 60) (hC : ∀ p, p < m → (x 3 k (i + p)).toInt = C p) (hb : ∀ p, bdt C m p → Q (some (vi (nI p))) x) (hg : gtx C m → Q (some (vi (-9))) x) : CC (d + 3) 66 [vr 2 k, vi (nI i), vi (nI m)] x Q := by
  have key : ∀ (r p : Nat) (w4 w5 : AV), p + r = m → (∀ q, q < p → gdp C q) → AT 66 (d + 2) Q 2 [vr 2 k, vi (nI i), vi (nI m), vi (nI p), w4, w5] x := by
    intro r
    induction r with
    | zero =>
      intro p w4 w5 hp hall
      have e : p = m := by omega
      subst e
      refine vcl_X5_firstFault_2 ⟨fun _ => ⟨fun c => ⟨fun _ => hb p ⟨Nat.le_refl _, hall, fun q => absurd q (Nat.lt_irrefl _), fun _ => ?_⟩, fun q => absurd rfl q⟩, fun c => ⟨by decide, ?_⟩⟩, fun q => absurd (nI_le (Nat.le_refl _) (by omega)) q⟩
      · rw [show (16 : Int32) = nI 16 from rfl, nI_ltI (by omega) (by omega)] at c
        omega
      · rw [show (16 : Int32) = nI 16 from rfl, nI_ltI (by omega) (by omega)] at c
        rw [show (4 : Int32) = nI 4 from rfl, show (6 : Int32) = nI 6 from rfl, pk_sub (by omega), pk_rem (by omega) (by omega) (by omega), nI_z (by omega)]
        exact ⟨fun c2 => ⟨fun _ => hb p ⟨Nat.le_refl _, hall, fun q => absurd q (Nat.lt_irrefl _), fun _ q => c2 q.2⟩, fun q => absurd rfl q⟩, fun c2 => ⟨fun q => absurd q ne10, fun _ => hg ⟨hall, by omega, c2⟩⟩⟩
    | succ r ih =>
      intro p w4 w5 hp hall
      have hpm : p < m := by omega
      have go : ∀ w4 w5, gdp C p → AT 66 (d + 2) Q 2 [vr 2 k, vi (nI i), vi (nI m), vi (nI p + 1), w4, w5] x := fun w4 w5 g => by
        rw [nI_1]
        refine ih (p + 1) w4 w5 (by omega) (fun q hq => ?_)
        by_cases e : q = p
        · subst e; exact g
        · exact hall q (by omega)
      have no : ¬ gdp C p → Q (some (vi (nI p))) x := fun g => hb p ⟨by omega, hall, fun _ => g, fun q => absurd q (by omega)⟩
      refine vcl_X5_firstFault_2 ⟨fun q => absurd q (nI_ge hpm (by omega)), fun _ => ?_⟩
      rw [nI_add, cl60 (by omega)]
      refine ⟨in8 (by omega) (by omega), fun c => ?_, fun c => ?_⟩
      · rw [nI_z (by omega)] at c
        rw [show (1 : Int32) = nI 1 from rfl, pk_sub (by omega), show (nI (i + p - 1)).toNatClampNeg = i + p - 1 from cl60 (by omega), show (4 : Int32) = nI 4 from rfl, nI_leI (by omega) (by omega)]
        refine ⟨in8 (by omega) (by omega), fun c4 => k_tab c4 (by omega) (hC p hpm) (fun g => n1 (go _ _ g)) (fun g => n0 (no g)), fun c4 => k_head (by omega) (hC p hpm) (fun e => ?_) (fun g => e1 (go _ _ g)) (fun g => e0 (no g))⟩
        subst e
        rw [← hC 1 (by omega)]; rfl
      · rw [nI_z (by omega)] at c
        subst c
        refine ⟨fun q => absurd q (by decide), fun _ => k_head (by omega) (hC 0 hpm) (fun q => absurd q (by decide)) (fun g => e1 (go _ _ g)) (fun g => e0 (no g))⟩
  exact vc_X5_firstFault (key m 0 vu vu (by omega) (fun q hq => absurd hq (Nat.not_lt_zero q)))
theorem k_codeAt {F m p : Nat} (hF : F + m ≤ 240) (hx : x 13 0 10 = nI p) (hp : p ≤ m) (h1 : p < m → Q (some (vi (x 31 0 (F + p)))) x) (h0 : p = m → Q (some (vi (-9))) x) : CC (d + 1) 91 [vr 13 0, vi (nI F), vi (nI m)] x Q := by
  refine vc_X6_codeAt ?_
  rw [hx, nI_leI (by omega) (by omega), nI_add, cl60 (by omega)]
  exact ⟨fun c => h0 (by omega), fun c => ⟨in8 (by omega) (by omega), h1 (by omega)⟩⟩
theorem dgt {c : Int32} {j : Nat} (hj : j < 1000) (h : c.toInt = 48 + (j : Int)) : c - 48 = nI j := by
  rw [fa_eq, fb_subI (by rw [show (48 : Int32).toInt = 48 from rfl]; omega) (by rw [show (48 : Int32).toInt = 48 from rfl]; omega), show (48 : Int32).toInt = 48 from rfl, h, nIi hj]
  omega
theorem k_figure {F m p lo hi : Nat} {prev : Int32} (hlo : lo ≤ hi) (hhi : hi ≤ 9) (hF : F + m ≤ 240) (hx : x 13 0 10 = nI p) (hp : p ≤ m)
    (hs : 0 ≤ prev → p < m → ∀ j, lo ≤ j → j ≤ hi → (x 31 0 (F + p)).toInt = 48 + (j : Int) → ∀ x', FM [] [10] x x' → x' 13 0 10 = nI (p + 1) → Q (some (vi (nI j))) x')
    (hf : ((0 : Int32) ≤ prev → p < m → ¬ (48 + (lo : Int) ≤ (x 31 0 (F + p)).toInt ∧ (x 31 0 (F + p)).toInt ≤ 48 + (hi : Int))) → ∀ x', FM [] [10] x x' → x' 13 0 10 = nI p → Q (some (vi (-9))) x') : CC (d + 2) 92 [vr 13 0, vi (nI F), vi (nI m), vi prev, vi (nI lo), vi (nI hi)] x Q := by
  have elo : (Int32.toInt64 (nI lo)).toInt = (lo : Int) := by rw [Int32.toInt_toInt64, nIi (by omega)]
  have ehi : (Int32.toInt64 (nI hi)).toInt = (hi : Int) := by rw [Int32.toInt_toInt64, nIi (by omega)]
  have f0 : FM [] [10] x (up x 13 0 10 (x 13 0 10 + 0)) := FM.rf.upj (by decide)
  have f0v : (up x 13 0 10 (x 13 0 10 + 0)) 13 0 10 = nI p := by rw [up_s, hx, show (0 : Int32) = nI 0 from rfl, nI_add]; rfl
  have f1 : FM [] [10] x (up x 13 0 10 (x 13 0 10 + 1)) := FM.rf.upj (by decide)
  have f1v : (up x 13 0 10 (x 13 0 10 + 1)) 13 0 10 = nI (p + 1) := by rw [up_s, hx, nI_1]
  refine vc_X6_figure ⟨fun c => k_codeAt hF hx hp (fun hpm => k_in (fun c1 c2 => ⟨fun q => absurd q ne10, fun _ => ⟨fun q => absurd q ne10, fun _ => ?_⟩⟩) (fun c2 => ⟨fun _ => ⟨fun _ => hf (fun _ _ w => ?_) _ f0 f0v, fun q => absurd rfl q⟩, fun q => absurd rfl q⟩)) (fun hpm => k_in (fun c1 c2 => ?_) (fun c2 => ⟨fun _ => ⟨fun _ => hf (fun _ w => absurd w (by omega)) _ f0 f0v, fun q => absurd rfl q⟩, fun q => absurd rfl q⟩)), fun c => k_in (fun c1 c2 => ?_) (fun c2 => ⟨fun _ => ⟨fun _ => hf (fun w => absurd w c) _ f0 f0v, fun q => absurd rfl q⟩, fun q => absurd rfl q⟩)⟩
  · rw [elo] at c1
    rw [ehi] at c2
    rw [Int32.toInt_toInt64] at c1 c2
    obtain ⟨j, hj, e⟩ := vp_ex (a := x 31 0 (F + p) - 48) (n := hi + 1) (vp_in_iff.mpr ⟨by omega, by omega⟩) (by omega)
    rw [e, nIi (by omega)] at c1 c2
    have e2 : x 31 0 (F + p) = nI (j + 48) := by
      rw [← nI_add, ← e]
      exact (Int32.sub_add_cancel _ 48).symm
    rw [e]
    exact hs c hpm j (by omega) (by omega) (by rw [e2, nIi (by omega)]; omega) _ f1 f1v
  · obtain ⟨w1, w2⟩ := w
    rw [elo, ehi, Int32.toInt_toInt64] at c2
    have : x 31 0 (F + p) - 48 = nI ((x 31 0 (F + p)).toInt - 48).toNat := dgt (by omega) (by omega)
    rw [this, nIi (by omega)] at c2
    omega
  · rw [elo] at c1
    rw [Int32.toInt_toInt64, show ((-9 : Int32) - 48).toInt = -57 from rfl] at c1
    omega
  · rw [elo] at c1
    rw [Int32.toInt_toInt64, show (-9 : Int32).toInt = -9 from rfl] at c1
    omega
end
