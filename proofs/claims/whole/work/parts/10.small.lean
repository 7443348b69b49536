/-! what is small: tests of ranges, reads, marks -/
theorem z0 : (0 : Int32) = 0 ∨ (0 : Int32) = 1 := Or.inl rfl
theorem z1 : (1 : Int32) = 0 ∨ (1 : Int32) = 1 := Or.inr rfl
theorem ne10 : ¬ (1 : Int32) = 0 := by decide
theorem n1 {A B : Prop} (a : A) : (¬ (1 : Int32) = 0 → A) ∧ ((1 : Int32) = 0 → B) := ⟨fun _ => a, fun h => absurd h ne10⟩
theorem n0 {A B : Prop} (b : B) : (¬ (0 : Int32) = 0 → A) ∧ ((0 : Int32) = 0 → B) := ⟨fun h => absurd rfl h, fun _ => b⟩
theorem e1 {A B : Prop} (b : B) : ((1 : Int32) = 0 → A) ∧ (¬ (1 : Int32) = 0 → B) := ⟨fun h => absurd h ne10, fun _ => b⟩
theorem e0 {A B : Prop} (a : A) : ((0 : Int32) = 0 → A) ∧ (¬ (0 : Int32) = 0 → B) := ⟨fun _ => a, fun h => absurd rfl h⟩
theorem i0 : (0 : Int32).toInt = 0 := rfl
theorem up_k {x : Mem} {k i j k' : Nat} {v : Int32} (h : k' ≠ k) : up x k i j v k' = x k' := by
  funext i' j'
  simp only [up, setR]
  rw [if_neg (fun q => h q.1)]
theorem up_app {x : Mem} {k i j k' i' j' : Nat} {v : Int32} : up x k i j v k' i' j' = if k' = k ∧ i' = i ∧ j' = j then v else x k' i' j' := by
  simp only [up, setR]
  by_cases h : k' = k ∧ i' = i
  · rw [if_pos h]
    by_cases hj : j' = j
    · rw [if_pos ⟨h.1, h.2, hj⟩, hj]; simp [upd]
    · rw [if_neg (fun q => hj q.2.2), h.1, h.2]; simp [upd, hj]
  · rw [if_neg h, if_neg (fun q => h ⟨q.1, q.2.1⟩)]
theorem up_s {x : Mem} {k i j : Nat} {v : Int32} : up x k i j v k i j = v := by rw [up_app, if_pos ⟨rfl, rfl, rfl⟩]
theorem up_n {x : Mem} {k i j k' i' j' : Nat} {v : Int32} (h : ¬ (k' = k ∧ i' = i ∧ j' = j)) : up x k i j v k' i' j' = x k' i' j' := by rw [up_app, if_neg h]
theorem vp_not {a : Int32} {n : Nat} : ¬ vp_in a n ↔ (a.toInt < 0 ∨ (n : Int) ≤ a.toInt) := by rw [vp_in_iff]; omega
section
variable {d : Nat} {Q : Option AV → Mem → Prop} {x : Mem}
theorem k_within {a m : Int32} {N : Nat} (hm : m.toInt + 1 = N) (h1 : vp_in a N → Q (some (vi 1)) x) (h0 : ¬ vp_in a N → Q (some (vi 0)) x) : CC (d + 1) 60 [vi a, vi m] x Q := by
  refine vc_X5_isWithin ⟨fun c => ⟨z0, h0 ?_⟩, fun c => ⟨fun c2 => ⟨z0, h0 ?_⟩, fun c2 => ⟨z1, h1 ?_⟩⟩⟩
  · rw [vp_not]; rw [fa_lt, i0] at c; exact Or.inl c
  · rw [vp_not]; rw [fa_lt] at c2; right; omega
  · rw [vp_in_iff]; rw [fa_lt, i0] at c; rw [fa_lt] at c2; omega
theorem k_isSheet {a : Int32} (h1 : vp_in a 4 → Q (some (vi 1)) x) (h0 : ¬ vp_in a 4 → Q (some (vi 0)) x) : CC (d + 2) 61 [vi a] x Q :=
  vc_X5_isSheet (k_within (N := 4) rfl (fun c => And.intro z1 (h1 c)) (fun c => And.intro z0 (h0 c)))
theorem k_isLane {a : Int32} (h1 : vp_in a 3 → Q (some (vi 1)) x) (h0 : ¬ vp_in a 3 → Q (some (vi 0)) x) : CC (d + 2) 62 [vi a] x Q :=
  vc_X5_isLane (k_within (N := 3) rfl (fun c => And.intro z1 (h1 c)) (fun c => And.intro z0 (h0 c)))
theorem k_isRideQ {a : Int32} (h1 : vp_in a 4 ∨ vp_in (a - 10) 8 → Q (some (vi 1)) x) (h0 : ¬ vp_in a 4 → ¬ vp_in (a - 10) 8 → Q (some (vi 0)) x) : CC (d + 2) 63 [vi a] x Q := by
  refine vc_X5_isRideQuestion (k_within (N := 4) rfl (fun c => n1 (And.intro z1 (h1 (Or.inl c)))) (fun c => n0 ?_))
  exact k_within (N := 8) rfl (fun c2 => e1 (And.intro z1 (h1 (Or.inr c2)))) (fun c2 => e0 (And.intro z0 (h0 c c2)))
theorem k_stands {n : Nat} (hn : x 6 0 1 = nI n) (hn8 : n ≤ 8) (h1 : 0 < n → Q (some (vi 1)) x) (h0 : n = 0 → Q (some (vi 0)) x) : CC (d + 1) 12 [vr 6 0] x Q := by
  have hi : (x 6 0 1).toInt = n := by rw [hn]; exact nI_toInt (by omega)
  refine vc_X0_stands ⟨fun c => ⟨z0, h0 ?_⟩, fun c => ⟨z1, h1 ?_⟩⟩
  · rw [fa_le, i0] at c; omega
  · rw [fa_le, i0] at c; omega
theorem k_hasTable {n : Nat} {a : Int32} (hn : x 6 0 1 = nI n) (hn8 : n ≤ 8) (h1 : vp_in a n → Q (some (vi 1)) x) (h0 : ¬ vp_in a n → Q (some (vi 0)) x) : CC (d + 1) 13 [vr 6 0, vi a] x Q := by
  have hi : (x 6 0 1).toInt = n := by rw [hn]; exact nI_toInt (by omega)
  refine vc_X0_hasTable ⟨fun c => ⟨z0, h0 ?_⟩, fun c => ⟨fun c2 => ⟨z0, h0 ?_⟩, fun c2 => ⟨z1, h1 ?_⟩⟩⟩
  · rw [vp_not]; rw [fa_lt, i0] at c; exact Or.inl c
  · rw [vp_not]; rw [fa_le] at c2; right; omega
  · rw [vp_in_iff]; rw [fa_lt, i0] at c; rw [fa_le] at c2; omega
theorem shl_n : ∀ n, n ≤ 8 → (1 : Int32) <<< (nI n &&& 31) = nI (2 ^ n) := by decide +kernel
theorem k_allTables {n : Nat} (hn : x 6 0 1 = nI n) (hn8 : n ≤ 8) (h : Q (some (vi (nI (2 ^ n - 1)))) x) : CC (d + 1) 14 [vr 6 0] x Q := by
  refine vc_X0_allTables ?_
  rw [hn, shl_n n hn8, show (1 : Int32) = nI 1 from rfl, pk_sub (Nat.one_le_two_pow)]
  exact h
theorem pow8 {n : Nat} (h : n ≤ 8) : 2 ^ n ≤ 256 ∧ 1 ≤ 2 ^ n := ⟨Nat.pow_le_pow_right (n := 2) (by omega) h, Nat.one_le_two_pow⟩
theorem k_hasPoints {n : Nat} {a : Int32} (hn : x 6 0 1 = nI n) (hn8 : n ≤ 8) (h1 : vp_in a (2 ^ n) → Q (some (vi 1)) x) (h0 : ¬ vp_in a (2 ^ n) → Q (some (vi 0)) x) : CC (d + 2) 15 [vr 6 0, vi a] x Q := by
  have hp := pow8 hn8
  refine vc_X0_hasPoints (k_allTables hn hn8 ?_)
  refine k_within (N := 2 ^ n) ?_ (fun c => And.intro z1 (h1 c)) (fun c => And.intro z0 (h0 c))
  rw [nI_toInt (by omega)]; omega
theorem k_roundsLeft {g r : Nat} (hr : x 6 0 3 = nI r) (hg : x 6 0 4 = nI g) (hle : g ≤ r) (h : Q (some (vi (nI (r - g)))) x) : CC (d + 1) 16 [vr 6 0] x Q := by
  refine vc_X0_roundsLeft ?_
  rw [hr, hg, pk_sub hle]
  exact h
theorem lc_lt {a b : Int64} : lg_cmp a b < 0 ↔ a.toInt < b.toInt := by
  rw [← Int32.not_le, lg_cmp_ge, Int64.le_iff_toInt_le]; omega
theorem lc_gt {a b : Int64} : 0 < lg_cmp a b ↔ b.toInt < a.toInt := by
  unfold lg_cmp
  by_cases h1 : b < a
  · rw [if_pos h1]; rw [Int64.lt_iff_toInt_lt] at h1; exact ⟨fun _ => h1, fun _ => by decide⟩
  · rw [if_neg h1]; rw [Int64.lt_iff_toInt_lt] at h1
    by_cases h2 : a = b
    · rw [if_pos h2]; exact ⟨fun q => absurd q (by decide), fun q => absurd q h1⟩
    · rw [if_neg h2]; exact ⟨fun q => absurd q (by decide), fun q => absurd q h1⟩
theorem k_in {v l h : Int64} (h1 : l.toInt ≤ v.toInt → v.toInt ≤ h.toInt → Q (some (vi 1)) x) (h0 : v.toInt < l.toInt ∨ h.toInt < v.toInt → Q (some (vi 0)) x) : CC (d + 1) 81 [vl v, vl l, vl h] x Q := by
  refine vc_X6_in ⟨fun c => ⟨z0, h0 (Or.inl (lc_lt.mp c))⟩, fun c => ⟨fun c2 => ⟨z0, h0 (Or.inr (lc_gt.mp c2))⟩, fun c2 => ⟨z1, h1 ?_ ?_⟩⟩⟩
  · rw [lc_lt] at c; omega
  · rw [lc_gt] at c2; omega
theorem k_inN {a : Int32} {h : Int64} {N : Nat} (hm : h.toInt + 1 = N) (h1 : vp_in a N → Q (some (vi 1)) x) (h0 : ¬ vp_in a N → Q (some (vi 0)) x) : CC (d + 1) 81 [vl (Int32.toInt64 a), vl (lN 0), vl h] x Q := by
  refine k_in (fun c1 c2 => h1 ?_) (fun c => h0 ?_)
  · rw [vp_in_iff]; rw [Int32.toInt_toInt64] at c1 c2; rw [show (lN 0).toInt = 0 from rfl] at c1; omega
  · rw [vp_not]; rw [Int32.toInt_toInt64, show (lN 0).toInt = 0 from rfl] at c; omega
theorem lN_m1 {n : Nat} (h : n < 2 ^ 31) : (lN n - lN 1).toInt = (n : Int) - 1 := by
  have e := lN_toInt h
  rw [fb_subL (by rw [e, show (lN 1).toInt = 1 from rfl]; omega) (by rw [e, show (lN 1).toInt = 1 from rfl]; omega), e]
  rfl
theorem k_noTable {n : Nat} {a : Int32} (hn : x 13 0 1 = nI n) (hn8 : n ≤ 8) (h1 : vp_in a n → Q (some (vi 0)) x) (h0 : ¬ vp_in a n → Q (some (vi 1)) x) : CC (d + 2) 89 [vr 13 0, vi a] x Q := by
  refine vc_X6_noTable ?_
  rw [hn, nI_l (by omega)]
  refine k_inN (N := n) ?_ (fun c => n1 (And.intro z0 (h1 c))) (fun c => n0 (And.intro z1 (h0 c)))
  rw [lN_m1 (by omega)]; omega
theorem k_noPoints {n : Nat} {a : Int32} (hn : x 13 0 1 = nI n) (hn8 : n ≤ 8) (h1 : vp_in a (2 ^ n) → Q (some (vi 0)) x) (h0 : ¬ vp_in a (2 ^ n) → Q (some (vi 1)) x) : CC (d + 2) 90 [vr 13 0, vi a] x Q := by
  have hp := pow8 hn8
  refine vc_X6_noPoints ?_
  rw [hn, shl_n n hn8, nI_l (by omega)]
  refine k_inN (N := 2 ^ n) ?_ (fun c => n1 (And.intro z0 (h1 c))) (fun c => n0 (And.intro z1 (h0 c)))
  rw [lN_m1 (by omega)]; omega
theorem k_noSheet {a : Int32} (h1 : vp_in a 4 → Q (some (vi 0)) x) (h0 : ¬ vp_in a 4 → Q (some (vi 1)) x) : CC (d + 2) 130 [vi a] x Q :=
  vc_X6_noSheet (k_inN (N := 4) rfl (fun c => n1 (And.intro z0 (h1 c))) (fun c => n0 (And.intro z1 (h0 c))))
theorem sub10 {a : Int32} : vp_in (a - 10) 8 ↔ 10 ≤ a.toInt ∧ a.toInt ≤ 17 := by
  constructor
  · intro h
    obtain ⟨j, hj, e⟩ := vp_in_of h (by decide)
    have e2 : a = nI (j + 10) := by
      rw [← nI_add, ← e]
      exact (Int32.sub_add_cancel a 10).symm
    rw [e2, nI_toInt (by omega)]
    omega
  · intro h
    rw [vp_in_iff, fb_subI (by rw [show (10 : Int32).toInt = 10 from rfl]; omega) (by rw [show (10 : Int32).toInt = 10 from rfl]; omega), show (10 : Int32).toInt = 10 from rfl]
    omega
theorem k_isAsked {a : Int32} (h1 : vp_in a 4 ∨ vp_in (a - 10) 8 → Q (some (vi 1)) x) (h0 : ¬ vp_in a 4 → ¬ vp_in (a - 10) 8 → Q (some (vi 0)) x) : CC (d + 2) 108 [vi a] x Q := by
  refine vc_X6_isAsked (k_inN (N := 4) rfl (fun c => n1 (And.intro z1 (h1 (Or.inl c)))) (fun c => n0 ?_))
  refine k_in (fun c1 c2 => e1 (And.intro z1 (h1 (Or.inr ?_)))) (fun c2 => e0 (And.intro z0 (h0 c ?_)))
  · rw [Int32.toInt_toInt64, show (lN 10).toInt = 10 from rfl] at c1
    rw [Int32.toInt_toInt64, show (lN 17).toInt = 17 from rfl] at c2
    exact sub10.mpr ⟨c1, c2⟩
  · rw [Int32.toInt_toInt64, show (lN 10).toInt = 10 from rfl, show (lN 17).toInt = 17 from rfl] at c2
    intro q
    have := sub10.mp q
    omega
theorem k_comeTo {a : Int32} (h : Q (some (vi (-10 - a))) (up x 0 0 5 a)) : CC (d + 1) 65 [vr 0 0, vi a] x Q := vc_X5_comeTo h
theorem k_refused {a : Int32} (h : Q (some (vi a)) (up x 13 0 0 0)) : CC (d + 1) 86 [vr 13 0, vi a] x Q := vc_X6_refused h
theorem k_failed {a : Int32} (h : Q (some (vi (-10 - a))) (up x 13 0 0 a)) : CC (d + 1) 87 [vr 13 0, vi a] x Q := vc_X6_failed h
end
