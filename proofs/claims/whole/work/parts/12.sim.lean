/-! THE ROUNDS: what a train does, in numbers; and the class's rides by it -/
def updN {α : Type} (f : Nat → α) (k : Nat) (v : α) : Nat → α := fun j => if j = k then v else f j
theorem updN_s {α : Type} {f : Nat → α} {k : Nat} {v : α} : updN f k v k = v := by simp [updN]
theorem updN_n {α : Type} {f : Nat → α} {k j : Nat} {v : α} (h : j ≠ k) : updN f k v j = f j := by simp [updN, h]
def lvF (kd rk : Nat) : Nat := if kd = 0 then rk else if kd = 1 then rk + 1 else (rk + 1) / 2
def tk (kd rk wt wm : Nat → Nat) (P t m : Nat) (h : Nat → Nat) (l : Nat) : Nat := if P / 2 ^ t % 2 = 0 ∧ m ≤ wm t then min (wt t - h t) (l - lvF (kd t) (rk t)) else 0
/-- who has how many, lumps on the train, the last minute, how many are taken, the lump's table and minute -/
abbrev SS : Type := (Nat → Nat) × Nat × Int32 × Nat × (Nat → Nat × Nat)
def p1 (kd rk wt wm : Nat → Nat) (P m t : Nat) (s : SS) : SS :=
  (updN s.1 t (s.1 t + tk kd rk wt wm P t m s.1 s.2.1), s.2.1 - tk kd rk wt wm P t m s.1 s.2.1, if 0 < tk kd rk wt wm P t m s.1 s.2.1 then nI m else s.2.2.1, s.2.2.2.1 + tk kd rk wt wm P t m s.1 s.2.1, fun i => if s.2.2.2.1 ≤ i ∧ i < s.2.2.2.1 + tk kd rk wt wm P t m s.1 s.2.1 then (t, m) else s.2.2.2.2 i)
def rd (kd rk wt wm : Nat → Nat) (P m0 : Nat) : Nat → SS → SS
  | 0, s => s
  | t + 1, s => p1 kd rk wt wm P (m0 + t) t (rd kd rk wt wm P m0 t s)
def rn (kd rk wt wm : Nat → Nat) (n P g : Nat) : Nat → SS → SS
  | 0, s => s
  | k + 1, s => rd kd rk wt wm P ((g + k) * n) n (rn kd rk wt wm n P g k s)
def s0 (hs : Nat → Nat) (L : Nat) : SS := (hs, L, -9, 0, fun _ => (0, 0))
def IV (n L : Nat) (s : SS) : Prop := (∀ t, t < n → s.1 t ≤ 9) ∧ s.2.1 ≤ L
theorem tk_le {kd rk wt wm : Nat → Nat} {P t m : Nat} {h : Nat → Nat} {l : Nat} : tk kd rk wt wm P t m h l ≤ wt t - h t ∧ tk kd rk wt wm P t m h l ≤ l := by
  unfold tk
  split <;> omega
theorem IV_p1 {kd rk wt wm : Nat → Nat} {n L P m t : Nat} {s : SS} (hw : ∀ t, t < n → wt t ≤ 9) (ht : t < n) (h : IV n L s) : IV n L (p1 kd rk wt wm P m t s) := by
  refine ⟨fun u hu => ?_, Nat.le_trans (Nat.sub_le _ _) h.2⟩
  show updN s.1 t _ u ≤ 9
  by_cases e : u = t
  · subst e
    rw [updN_s]
    have := (tk_le (kd := kd) (rk := rk) (wt := wt) (wm := wm) (P := P) (t := u) (m := m) (h := s.1) (l := s.2.1)).1
    have := hw u hu
    have := h.1 u hu
    omega
  · rw [updN_n e]; exact h.1 u hu
theorem IV_rd {kd rk wt wm : Nat → Nat} {n L P m0 : Nat} {s : SS} (hw : ∀ t, t < n → wt t ≤ 9) (h : IV n L s) : ∀ i, i ≤ n → IV n L (rd kd rk wt wm P m0 i s)
  | 0, _ => h
  | i + 1, hi => IV_p1 hw (by omega) (IV_rd hw h i (by omega))
theorem IV_rn {kd rk wt wm : Nat → Nat} {n L P g : Nat} {s : SS} (hw : ∀ t, t < n → wt t ≤ 9) (h : IV n L s) : ∀ k, IV n L (rn kd rk wt wm n P g k s)
  | 0 => h
  | k + 1 => IV_rd hw (IV_rn hw h k) n (Nat.le_refl n)
/-- the tables as they stand in the hall -/
def TV (x : Mem) (n : Nat) (kd rk wt wm hs : Nat → Nat) : Prop := x 6 0 1 = nI n ∧ n ≤ 8 ∧ ∀ t, t < 8 → ∃ q, q < 8 ∧ x 7 0 t = nI q ∧ x 8 q 0 = nI (kd t) ∧ x 8 q 1 = nI (rk t) ∧ x 8 q 2 = nI (wt t) ∧ x 8 q 3 = nI (wm t) ∧ x 8 q 4 = nI (hs t)
def BD (kd rk wt wm hs : Nat → Nat) : Prop := ∀ t, t < 8 → kd t ≤ 2 ∧ rk t ≤ 9 ∧ wt t ≤ 9 ∧ wm t ≤ 39 ∧ hs t ≤ 9
def FR (ks : List Nat) (x x' : Mem) : Prop := ∀ k, k ∉ ks → x' k = x k
theorem FR.rf {ks : List Nat} {x : Mem} : FR ks x x := fun _ _ => rfl
theorem FR.tr {ks : List Nat} {x y z : Mem} (h : FR ks x y) (h2 : FR ks y z) : FR ks x z := fun k hk => (h2 k hk).trans (h k hk)
theorem FR.up {ks : List Nat} {x y : Mem} (h : FR ks x y) {k i j : Nat} {v : Int32} (hk : k ∈ ks) : FR ks x (up y k i j v) := fun k' hk' => by
  rw [up_k (fun q => hk' (by rw [q]; exact hk))]
  exact h k' hk'
theorem FR.sub {ks ls : List Nat} {x y : Mem} (h : FR ks x y) (hs : ∀ k ∈ ks, k ∈ ls) : FR ls x y := fun k hk => h k (fun q => hk (hs k q))
theorem TV.fr {x x' : Mem} {n : Nat} {kd rk wt wm hs : Nat → Nat} (h : TV x n kd rk wt wm hs) (h6 : x' 6 = x 6) (h7 : x' 7 = x 7) (h8 : x' 8 = x 8) : TV x' n kd rk wt wm hs := by
  unfold TV at h ⊢
  rw [h6, h7, h8]
  exact h
def SR (x : Mem) (n : Nat) (s : SS) (m : Nat) : Prop := (∀ t, t < n → x 5 0 t = nI (s.1 t)) ∧ x 4 0 2 = nI s.2.1 ∧ x 4 0 3 = nI m ∧ x 4 0 4 = s.2.2.1
theorem nI_z {n : Nat} (h : n < 2 ^ 31) : nI n = 0 ↔ n = 0 := by rw [show (0 : Int32) = nI 0 from rfl, nI_eq h (by decide)]
theorem nI_o {n : Nat} (h : n < 2 ^ 31) : nI n = 1 ↔ n = 1 := by rw [show (1 : Int32) = nI 1 from rfl, nI_eq h (by decide)]
theorem mx0 {a b : Nat} (ha : a < 2 ^ 30) (hb : b < 2 ^ 30) : (if nI a - nI b < (0 : Int32) then (0 : Int32) else nI a - nI b) = nI (a - b) := by
  by_cases h : a < b
  · rw [if_pos (pk_sneg hb h), show a - b = 0 by omega]; rfl
  · have h2 : b ≤ a := by omega
    rw [pk_sub h2, if_neg (nI_pos (by omega))]
theorem mn0 {a b : Nat} (ha : a < 2 ^ 31) (hb : b < 2 ^ 31) : (if nI b < nI a then nI b else nI a) = nI (min a b) := by
  by_cases h : b < a
  · rw [if_pos (nI_lt h ha), Nat.min_eq_right (by omega)]
  · rw [if_neg (nI_nlt (by omega) hb), Nat.min_eq_left (by omega)]
theorem bitI : ∀ P, P < 256 → ∀ t, t < 8 → (nI P >>> (nI t &&& 31)) &&& (1 : Int32) = nI (P / 2 ^ t % 2) := by decide +kernel
theorem cl8 {t : Nat} (h : t < 8) : (nI t).toNatClampNeg = t := nI_clamp (by omega)
theorem in8 {t n : Nat} (h : t < n) (hn : n ≤ 1000) : vp_in (nI t) n := vp_in_nI h (by omega)
section
variable {d : Nat} {Q : Option AV → Mem → Prop} {x : Mem}
theorem k_leaves {q kd rk : Nat} (h0 : x 8 q 0 = nI kd) (h1 : x 8 q 1 = nI rk) (hk : kd ≤ 2) (hr : rk ≤ 9) (h : Q (some (vi (nI (lvF kd rk)))) x) : CC (d + 1) 0 [vr 8 q] x Q := by
  refine vc_X4_leaves ⟨fun c => ⟨fun c2 => ⟨by decide, ?_⟩, fun c2 => ?_⟩, fun c => ?_⟩
  · rw [h0, nI_z (by omega)] at c
    rw [h0, nI_o (by omega)] at c2
    rw [h1, nI_1, show (2 : Int32) = nI 2 from rfl, pk_div (by omega) (by decide) (by decide)]
    rw [lvF, if_neg c, if_neg c2] at h
    exact h
  · rw [h0, nI_z (by omega)] at c
    rw [h0, nI_o (by omega)] at c2
    rw [h1, nI_1]
    rw [lvF, if_neg c, if_pos c2] at h
    exact h
  · rw [h0, nI_z (by omega)] at c
    rw [h1]
    rw [lvF, if_pos c] at h
    exact h
theorem k_pass {n P t m L : Nat} {kd rk wt wm hs : Nat → Nat} {s : SS} (hT : TV x n kd rk wt wm hs) (hB : BD kd rk wt wm hs) (hP : P < 256) (ht : t < n) (hS : SR x n s m) (hI : IV n L s) (hL : L < 2 ^ 20) (hm : m < 2 ^ 20)
    (hq : ∀ x', FR [4, 5] x x' → SR x' n (p1 kd rk wt wm P m t s) (m + 1) → Q (some (vi (nI (tk kd rk wt wm P t m s.1 s.2.1)))) x') : CC (d + 2) 22 [vr 4 0, vi (nI t), vi (nI P)] x Q := by
  have hn := hT.2.1
  have ht8 : t < 8 := by omega
  obtain ⟨q, hq8, e7, g0, g1, e2, e3, e4⟩ := hT.2.2 t ht8
  obtain ⟨hk, hr, hw, hwm, hhs⟩ := hB t ht8
  obtain ⟨sh, sl, sm, slast⟩ := hS
  have hh := hI.1 t ht
  have hl : s.2.1 < 2 ^ 20 := Nat.lt_of_le_of_lt hI.2 hL
  have eq7 : (x 7 0 (nI t).toNatClampNeg).toNatClampNeg = q := by rw [cl8 ht8, e7, cl8 hq8]
  have hlv : lvF (kd t) (rk t) ≤ 10 := by unfold lvF; split <;> (try split) <;> omega
  -- the end
  have fin : ∀ (k : Nat) (y : Mem) (lst : Int32) (z4 z5 z6 : Int32), k ≤ wt t - s.1 t → k ≤ s.2.1 → (∀ t, t < n → y 5 0 t = nI (s.1 t)) → y 4 0 2 = nI s.2.1 → y 4 0 3 = nI m → y 4 0 4 = lst → FR [4, 5] x y → k = tk kd rk wt wm P t m s.1 s.2.1 → lst = (if 0 < k then nI m else s.2.2.1) → AT 22 (d + 1) Q 99 [vr 4 0, vi (nI t), vi (nI P), vr 8 q, vi z4, vi z5, vi z6, vi (nI k)] y := by
    intro k y lst z4 z5 z6 k1 k2 y1 y2 y3 y4 hf hk2 hlst
    refine vcl_X2_pass_99 ⟨in8 ht8 (by omega), in8 ht8 (by omega), ?_⟩
    rw [cl8 ht8, hk2]
    refine hq _ (((hf.up (by decide)).up (by decide)).up (by decide)) ⟨fun u hu => ?_, ?_, ?_, ?_⟩
    · rw [up_k (by decide), up_k (by decide)]
      show _ = nI (updN s.1 t _ u)
      by_cases e : u = t
      · subst e
        rw [up_s, updN_s, y1 u hu, nI_add]
      · rw [up_n (fun z => e z.2.2), updN_n e, y1 u hu]
    · rw [up_n (by decide), up_s, up_k (by decide), y2, ← hk2, pk_sub k2, hk2]
      rfl
    · rw [up_s, up_n (by decide), up_k (by decide), y3, nI_1]
    · rw [up_n (by decide), up_n (by decide), up_k (by decide), y4, hlst, hk2]
      rfl
  have mid : ∀ (k : Nat) (z4 z5 z6 : Int32), k = tk kd rk wt wm P t m s.1 s.2.1 → AT 22 (d + 1) Q 86 [vr 4 0, vi (nI t), vi (nI P), vr 8 q, vi z4, vi z5, vi z6, vi (nI k)] x := by
    intro k z4 z5 z6 hk2
    have hb := tk_le (kd := kd) (rk := rk) (wt := wt) (wm := wm) (P := P) (t := t) (m := m) (h := s.1) (l := s.2.1)
    rw [← hk2] at hb
    refine vcl_X2_pass_86 ⟨fun c => ?_, fun c => ?_⟩
    · have c0 : k = 0 := by
        rcases Nat.eq_zero_or_pos k with z | z
        · exact z
        · exact absurd c (nI_nle z (by omega))
      exact fin k x _ z4 z5 z6 hb.1 hb.2 sh sl sm slast FR.rf hk2 (by rw [if_neg (by omega)])
    · have c0 : 0 < k := by
        rcases Nat.eq_zero_or_pos k with z | z
        · subst z; exact absurd (by decide) c
        · exact z
      refine fin k _ _ z4 z5 z6 hb.1 hb.2 (fun u hu => ?_) ?_ ?_ rfl (FR.rf.up (by decide)) hk2 ?_
      · rw [up_k (by decide)]; exact sh u hu
      · rw [up_n (by decide)]; exact sl
      · rw [up_n (by decide)]; exact sm
      · rw [up_s, sm, if_pos c0]
  have taken : ∀ (b : Bool), (b = true ↔ (P / 2 ^ t % 2 = 0 ∧ m ≤ wm t)) → AT 22 (d + 1) Q 36 [vr 4 0, vi (nI t), vi (nI P), vr 8 q, vi (if b then 1 else 0), vu, vu, vu] x := by
    intro b hb
    refine vcl_X2_pass_36 ⟨in8 ht8 (by omega), k_leaves g0 g1 hk hr ?_⟩
    rw [cl8 ht8, e2, sh t ht, sl, mx0 (by omega) (by omega)]
    dsimp only [rI]
    rw [mx0 (by omega) (by omega), mn0 (by omega) (by omega)]
    cases b with
    | true =>
      have hz := hb.mp rfl
      exact e1 (mid _ _ _ _ (by unfold tk; rw [if_pos hz]))
    | false =>
      have hz : ¬ (P / 2 ^ t % 2 = 0 ∧ m ≤ wm t) := fun z => by have := hb.mpr z; cases this
      exact e0 (mid 0 _ _ _ (by unfold tk; rw [if_neg hz]))
  refine vc_X2_pass ⟨in8 ht8 (by omega), by rw [eq7]; exact hq8, ?_⟩
  rw [eq7, bitI P hP t ht8, e3, sm]
  refine ⟨fun c => ?_, fun c => ⟨fun c2 => ?_, fun c2 => ?_⟩⟩
  · rw [nI_z (by omega)] at c
    exact taken false ⟨fun z => (by cases z), fun z => absurd z.1 c⟩
  · exact taken false ⟨fun z => (by cases z), fun z => absurd c2 (nI_nlt z.2 (by omega))⟩
  · rw [nI_z (by omega)] at c
    refine taken true ⟨fun _ => ⟨c, ?_⟩, fun _ => rfl⟩
    rcases Nat.lt_or_ge (wm t) m with z | z
    · exact absurd (nI_lt z (by omega)) c2
    · exact z
theorem k_goRound {n P m0 L : Nat} {kd rk wt wm hs : Nat → Nat} {s : SS} (hB : BD kd rk wt wm hs) (hP : P < 256) (hI : IV n L s) (hL : L < 2 ^ 20) (hm : m0 < 2 ^ 19) (hn : n ≤ 8) : ∀ (r i : Nat) (x : Mem), i + r = n → TV x n kd rk wt wm hs → SR x n (rd kd rk wt wm P m0 i s) (m0 + i) → (∀ x', FR [4, 5] x x' → SR x' n (rd kd rk wt wm P m0 n s) (m0 + n) → Q none x') → AT 23 (d + 2) Q 2 [vr 4 0, vi (nI P), vi (nI i)] x := by
  intro r
  induction r with
  | zero =>
    intro i x hi hT hS hq
    have e : i = n := by omega
    subst e
    refine vcl_X2_goRound_2 ⟨fun _ => hq x FR.rf hS, fun c => absurd (by rw [hT.1]; exact nI_le (Nat.le_refl _) (by omega)) c⟩
  | succ r ih =>
    intro i x hi hT hS hq
    have hin : i < n := by omega
    refine vcl_X2_goRound_2 ⟨fun c => absurd (by rw [hT.1] at c; exact c) (nI_ge hin (by omega)), fun _ => ?_⟩
    refine k_pass hT hB hP hin hS (IV_rd (fun t ht => (hB t (by omega)).2.2.1) hI i (by omega)) hL (by omega) (fun x' hf hS' => ?_)
    show AT 23 (d + 2) Q 2 [vr 4 0, vi (nI P), vi (nI i + 1)] x'
    rw [nI_1]
    exact ih (i + 1) x' (by omega) (hT.fr (hf 6 (by decide)) (hf 7 (by decide)) (hf 8 (by decide))) hS' (fun x'' hf' hS'' => hq x'' (hf.tr hf') hS'')
theorem rd_0 {kd rk wt wm : Nat → Nat} {P m0 : Nat} {s : SS} : rd kd rk wt wm P m0 0 s = s := rfl
theorem k_goRound' {n P m0 L : Nat} {kd rk wt wm hs : Nat → Nat} {s : SS} (hB : BD kd rk wt wm hs) (hP : P < 256) (hI : IV n L s) (hL : L < 2 ^ 20) (hm : m0 < 2 ^ 19) (hT : TV x n kd rk wt wm hs) (hS : SR x n s m0) (hq : ∀ x', FR [4, 5] x x' → SR x' n (rd kd rk wt wm P m0 n s) (m0 + n) → Q none x') : CC (d + 3) 23 [vr 4 0, vi (nI P)] x Q :=
  vc_X2_goRound (k_goRound hB hP hI hL hm hT.2.1 n 0 x (by omega) hT hS hq)
theorem k_start {n g L : Nat} {kd rk wt wm hs : Nat → Nat} (hg : x 6 0 4 = nI g) (hT : TV x n kd rk wt wm hs) (hq : ∀ x', FR [4, 5] x x' → SR x' n (s0 hs L) (g * n) → Q none x') : CC (d + 1) 21 [vr 4 0, vi (nI L)] x Q := by
  have key : ∀ (r i : Nat) (y : Mem), i + r = n → FR [4, 5] x y → (∀ t, t < i → y 5 0 t = nI (hs t)) → AT 21 d Q 2 [vr 4 0, vi (nI L), vi (nI i)] y := by
    intro r
    induction r with
    | zero =>
      intro i y hi hf hy
      have e : i = n := by omega
      subst e
      refine vcl_X2_start_2 ⟨fun _ => ?_, fun c => absurd (by rw [hf 6 (by decide), hT.1]; exact nI_le (Nat.le_refl _) (by have := hT.2.1; omega)) c⟩
      refine hq _ (((hf.up (by decide)).up (by decide)).up (by decide)) ⟨fun t ht => ?_, ?_, ?_, ?_⟩
      · rw [up_k (by decide), up_k (by decide), up_k (by decide)]; exact hy t ht
      · rw [up_n (by decide), up_n (by decide), up_s]; rfl
      · rw [up_n (by decide), up_s, up_k (by decide), hf 6 (by decide), hg, hT.1, pk_mul]
      · rw [up_s]; rfl
    | succ r ih =>
      intro i y hi hf hy
      have hn := hT.2.1
      have hin : i < n := by omega
      obtain ⟨q, hq8, e7, e0, e1, e2, e3, e4⟩ := hT.2.2 i (by omega)
      refine vcl_X2_start_2 ⟨fun c => absurd (by rw [hf 6 (by decide), hT.1] at c; exact c) (nI_ge hin (by omega)), fun _ => ⟨in8 (by omega) (by omega), ?_, in8 (by omega) (by omega), ?_⟩⟩
      · rw [cl8 (by omega), hf 7 (by decide), e7, cl8 hq8]; exact hq8
      · rw [nI_1, cl8 (by omega), hf 7 (by decide), e7, cl8 hq8, hf 8 (by decide), e4]
        refine ih (i + 1) _ (by omega) (hf.up (by decide)) (fun t ht => ?_)
        by_cases e : t = i
        · subst e; rw [up_s]
        · rw [up_n (fun z => e z.2.2)]; exact hy t (by omega)
  exact vc_X2_start (key n 0 x (by omega) FR.rf (fun t ht => absurd ht (Nat.not_lt_zero t)))
theorem k_goAll {n P g ro L : Nat} {kd rk wt wm hs : Nat → Nat} (hB : BD kd rk wt wm hs) (hP : P < 256) (hL : L < 2 ^ 20) (hT : TV x n kd rk wt wm hs) (hro : x 6 0 3 = nI ro) (hg : x 6 0 4 = nI g) (hgr : g ≤ ro) (hro4 : ro ≤ 4) (hq : ∀ x', FR [4, 5] x x' → SR x' n (rn kd rk wt wm n P g (ro - g) (s0 hs L)) (ro * n) → Q none x') : CC (d + 4) 24 [vr 4 0, vi (nI P), vi (nI L)] x Q := by
  have hn := hT.2.1
  have hI0 : IV n L (s0 hs L) := ⟨fun t ht => (hB t (by omega)).2.2.2.2, Nat.le_refl _⟩
  have key : ∀ (r k : Nat) (y : Mem), k + r = ro - g → FR [4, 5] x y → SR y n (rn kd rk wt wm n P g k (s0 hs L)) ((g + k) * n) → AT 24 (d + 3) Q 13 [vr 4 0, vi (nI P), vi (nI L), vi (nI r)] y := by
    intro r
    induction r with
    | zero =>
      intro k y hk hf hS
      refine vcl_X2_goAll_13 ⟨fun _ => hq y hf ?_, fun c => absurd (by decide) c⟩
      rw [show k = ro - g by omega, show g + (ro - g) = ro by omega] at hS
      exact hS
    | succ r ih =>
      intro k y hk hf hS
      refine vcl_X2_goAll_13 ⟨fun c => absurd c (nI_nle (by omega) (by omega)), fun _ => ?_⟩
      have hT' := hT.fr (hf 6 (by decide)) (hf 7 (by decide)) (hf 8 (by decide))
      have hb : (g + k) * n ≤ 4 * 8 := Nat.mul_le_mul (by omega) hn
      refine k_goRound' hB hP (IV_rn (fun t ht => (hB t (by omega)).2.2.1) hI0 k) hL (by omega) hT' hS (fun y' hf' hS' => ?_)
      show AT 24 (d + 3) Q 13 [vr 4 0, vi (nI P), vi (nI L), vi (nI (r + 1) + (-1))] y'
      rw [pk_m1]
      refine ih (k + 1) y' (by omega) (hf.tr hf') ?_
      rw [show (g + (k + 1)) * n = (g + k) * n + n by rw [← Nat.add_assoc, Nat.add_mul, Nat.one_mul]]
      exact hS'
  refine vc_X2_goAll (k_start hg hT (fun x1 hf1 hS1 => ?_))
  refine k_roundsLeft (by rw [hf1 6 (by decide)]; exact hro) (by rw [hf1 6 (by decide)]; exact hg) hgr ?_
  exact key (ro - g) 0 x1 (by omega) hf1 hS1
/-- who is sweet, as a set -/
def sw (h wt : Nat → Nat) : Nat → Nat
  | 0 => 0
  | t + 1 => if h t = wt t then sw h wt t ||| 2 ^ t else sw h wt t
theorem sw_lt {h wt : Nat → Nat} : ∀ n, sw h wt n < 2 ^ n
  | 0 => by show (0 : Nat) < 1; omega
  | n + 1 => by
    have h1 := sw_lt (h := h) (wt := wt) n
    have h2 : 2 ^ n < 2 ^ (n + 1) := Nat.pow_lt_pow_right (by decide) (by omega)
    unfold sw
    split
    · exact Nat.or_lt_two_pow (by omega) h2
    · omega
theorem shl_t : ∀ n, n < 8 → (1 : Int32) <<< (nI n &&& 31) = nI (2 ^ n) := by decide +kernel
theorem k_isSweet {n t m : Nat} {kd rk wt wm hs : Nat → Nat} {s : SS} (hB : BD kd rk wt wm hs) (hT : TV x n kd rk wt wm hs) (ht : t < n) (hS : SR x n s m) (hh : s.1 t ≤ 9) (h1 : s.1 t = wt t → Q (some (vi 1)) x) (h0 : s.1 t ≠ wt t → Q (some (vi 0)) x) : CC (d + 1) 26 [vr 4 0, vi (nI t)] x Q := by
  have hn := hT.2.1
  have ht8 : t < 8 := by omega
  obtain ⟨q, hq8, e7, e0, e1, e2, e3, e4⟩ := hT.2.2 t ht8
  have hw := (hB t ht8).2.2.1
  refine vc_X2_isSweet ⟨in8 ht8 (by omega), in8 ht8 (by omega), by rw [cl8 ht8, e7, cl8 hq8]; exact hq8, ?_⟩
  rw [cl8 ht8, e7, cl8 hq8, e2, hS.1 t ht, nI_eq (by omega) (by omega)]
  exact ⟨fun c => ⟨z0, h0 c⟩, fun c => ⟨z1, h1 c⟩⟩
theorem k_sweetSet {n m : Nat} {kd rk wt wm hs : Nat → Nat} {s : SS} (hB : BD kd rk wt wm hs) (hT : TV x n kd rk wt wm hs) (hS : SR x n s m) (hh : ∀ t, t < n → s.1 t ≤ 9) (hq : Q (some (vi (nI (sw s.1 wt n)))) x) : CC (d + 2) 27 [vr 4 0] x Q := by
  have hn := hT.2.1
  have key : ∀ (r i : Nat), i + r = n → AT 27 (d + 1) Q 4 [vr 4 0, vi (nI (sw s.1 wt i)), vi (nI i)] x := by
    intro r
    induction r with
    | zero =>
      intro i hi
      have e : i = n := by omega
      subst e
      exact vcl_X2_sweetSet_4 ⟨fun _ => hq, fun c => absurd (by rw [hT.1]; exact nI_le (Nat.le_refl _) (by omega)) c⟩
    | succ r ih =>
      intro i hi
      have hin : i < n := by omega
      have := ih (i + 1) (by omega)
      refine vcl_X2_sweetSet_4 ⟨fun c => absurd (by rw [hT.1] at c; exact c) (nI_ge hin (by omega)), fun _ => ?_⟩
      refine k_isSweet hB hT hin hS (hh i hin) (fun c => e1 ?_) (fun c => e0 ?_)
      · rw [sw, if_pos c] at this
        rw [shl_t i (by omega), fa_or, nI_1]
        exact this
      · rw [sw, if_neg c] at this
        rw [show (0 : Int32) = nI 0 from rfl, fa_or, Nat.or_zero, nI_1]
        exact this
  exact vc_X2_sweetSet (key n 0 (by omega))
theorem k_takenBy {n t m : Nat} {kd rk wt wm hs : Nat → Nat} {s : SS} (hT : TV x n kd rk wt wm hs) (ht : t < n) (hS : SR x n s m) (hq : Q (some (vi (nI (s.1 t) - nI (hs t)))) x) : CC (d + 1) 25 [vr 4 0, vi (nI t)] x Q := by
  have hn := hT.2.1
  have ht8 : t < 8 := by omega
  obtain ⟨q, hq8, e7, e0, e1, e2, e3, e4⟩ := hT.2.2 t ht8
  refine vc_X2_takenBy ⟨in8 ht8 (by omega), in8 ht8 (by omega), by rw [cl8 ht8, e7, cl8 hq8]; exact hq8, ?_⟩
  rw [cl8 ht8, e7, cl8 hq8, e4, hS.1 t ht]
  exact hq
end
