/-! the reference's rounds by the same numbers -/
def TM (x : Mem) (n : Nat) (kd rk wt wm hs : Nat → Nat) : Prop := x 13 0 1 = nI n ∧ n ≤ 8 ∧ ∀ t, t < 8 → x 14 0 t = nI (kd t) ∧ x 15 0 t = nI (rk t) ∧ x 16 0 t = nI (wt t) ∧ x 17 0 t = nI (wm t) ∧ x 18 0 t = nI (hs t)
/-- all but some kinds is as it was, and of the reference's own fields all but some -/
def FM (ks js : List Nat) (x x' : Mem) : Prop := (∀ k, k ∉ 13 :: ks → x' k = x k) ∧ ∀ j, j ∉ js → x' 13 0 j = x 13 0 j
theorem FM.rf {ks js : List Nat} {x : Mem} : FM ks js x x := ⟨fun _ _ => rfl, fun _ _ => rfl⟩
theorem FM.tr {ks js : List Nat} {x y z : Mem} (h : FM ks js x y) (h2 : FM ks js y z) : FM ks js x z := ⟨fun k hk => (h2.1 k hk).trans (h.1 k hk), fun j hj => (h2.2 j hj).trans (h.2 j hj)⟩
theorem FM.upj {ks js : List Nat} {x y : Mem} (h : FM ks js x y) {j : Nat} {v : Int32} (hj : j ∈ js) : FM ks js x (up y 13 0 j v) := ⟨fun k hk => by
  rw [up_k (fun q => hk (by rw [q]; exact List.mem_cons_self))]; exact h.1 k hk, fun j' hj' => by
  rw [up_n (fun q => hj' (by rw [q.2.2]; exact hj))]; exact h.2 j' hj'⟩
theorem FM.upk {ks js : List Nat} {x y : Mem} (h : FM ks js x y) {k i j : Nat} {v : Int32} (hk : k ∈ ks) (h13 : 13 ≠ k) : FM ks js x (up y k i j v) := ⟨fun k' hk' => by
  rw [up_k (fun q => hk' (by rw [q]; exact List.mem_cons_of_mem _ hk))]; exact h.1 k' hk', fun j' hj' => by
  rw [up_k h13]; exact h.2 j' hj'⟩
theorem FM.sub {ks js ls is : List Nat} {x y : Mem} (h : FM ks js x y) (hs : ∀ k ∈ ks, k ∈ ls) (hj : ∀ k ∈ js, k ∈ is) : FM ls is x y := ⟨fun k hk => h.1 k (fun q => hk (by
  rcases List.mem_cons.mp q with z | z
  · rw [z]; exact List.mem_cons_self
  · exact List.mem_cons_of_mem _ (hs k z))), fun j q => h.2 j (fun z => q (hj j z))⟩
abbrev KS : List Nat := [23, 24, 25]
abbrev JS : List Nat := [18, 19, 20]
theorem TM.fr {x x' : Mem} {n : Nat} {kd rk wt wm hs : Nat → Nat} (h : TM x n kd rk wt wm hs) (hf : FM KS JS x x') : TM x' n kd rk wt wm hs := by
  unfold TM at h ⊢
  rw [hf.2 1 (by decide), hf.1 14 (by decide), hf.1 15 (by decide), hf.1 16 (by decide), hf.1 17 (by decide), hf.1 18 (by decide)]
  exact h
def MR (x : Mem) (n : Nat) (s : SS) : Prop := (∀ t, t < n → x 23 0 t = nI (s.1 t)) ∧ x 13 0 18 = nI s.2.1 ∧ x 13 0 19 = nI s.2.2.2.1 ∧ x 13 0 20 = s.2.2.1 ∧ ∀ i, i < 36 → i < s.2.2.2.1 → x 24 0 i = nI (s.2.2.2.2 i).1 ∧ x 25 0 i = nI (s.2.2.2.2 i).2
section
variable {d : Nat} {Q : Option AV → Mem → Prop} {x : Mem}
theorem k_leavesOf {n t : Nat} {kd rk wt wm hs : Nat → Nat} (hB : BD kd rk wt wm hs) (hT : TM x n kd rk wt wm hs) (ht : t < 8) (h : Q (some (vi (nI (lvF (kd t) (rk t))))) x) : CC (d + 1) 98 [vr 13 0, vi (nI t)] x Q := by
  obtain ⟨g0, g1, g2, g3, g4⟩ := hT.2.2 t ht
  obtain ⟨b0, b1, b2, b3, b4⟩ := hB t ht
  refine vc_X6_leavesOf ⟨in8 ht (by omega), in8 ht (by omega), ?_⟩
  rw [cl8 ht, g0, g1, nI_z (by omega), nI_o (by omega)]
  refine ⟨fun c => ⟨in8 ht (by omega), fun c2 => ⟨by decide, ?_⟩, fun c2 => ?_⟩, fun c => ⟨in8 ht (by omega), ?_⟩⟩
  · rw [nI_1, show (2 : Int32) = nI 2 from rfl, pk_div (by omega) (by decide) (by decide)]
    rw [lvF, if_neg c, if_neg c2] at h
    exact h
  · rw [nI_1]
    rw [lvF, if_neg c, if_pos c2] at h
    exact h
  · rw [lvF, if_pos c] at h
    exact h
theorem k_isIn {P t : Nat} (hP : P < 256) (ht : t < 8) (h1 : P / 2 ^ t % 2 = 1 → Q (some (vi 1)) x) (h0 : P / 2 ^ t % 2 = 0 → Q (some (vi 0)) x) : CC (d + 1) 83 [vi (nI P), vi (nI t)] x Q := by
  refine vc_X6_isIn ?_
  rw [bitI P hP t ht, nI_o (by omega)]
  exact ⟨fun c => ⟨z0, h0 (by omega)⟩, fun c => ⟨z1, h1 c⟩⟩
theorem k_takes {n P t m L : Nat} {kd rk wt wm : Nat → Nat} {s : SS} (ht : t < n) (hn : n ≤ 8) (hm : m < 2 ^ 20) (hS : MR x n s) (hI : IV n L s) (hL : L < 2 ^ 20) (hc : s.2.2.2.1 < 2 ^ 20) (hk : 0 < tk kd rk wt wm P t m s.1 s.2.1)
    (hw : ∀ t, t < n → wt t ≤ 9) (hq : ∀ x', FM KS JS x x' → MR x' n (p1 kd rk wt wm P m t s) → Q none x') : CC (d + 1) 104 [vr 13 0, vi (nI t), vi (nI (tk kd rk wt wm P t m s.1 s.2.1)), vi (nI m)] x Q := by
  have hb := tk_le (kd := kd) (rk := rk) (wt := wt) (wm := wm) (P := P) (t := t) (m := m) (h := s.1) (l := s.2.1)
  generalize hkk : tk kd rk wt wm P t m s.1 s.2.1 = k at hk hb
  have hk9 : k ≤ 9 := by have := hw t ht; omega
  obtain ⟨sh, sl, sc, slast, sw'⟩ := hS
  have hl : s.2.1 < 2 ^ 20 := Nat.lt_of_le_of_lt hI.2 hL
  have key : ∀ (r i : Nat) (y : Mem), i + r = k → FM KS JS x y → y 23 = x 23 → y 13 0 18 = x 13 0 18 → y 13 0 20 = x 13 0 20 → y 13 0 19 = nI (s.2.2.2.1 + i) → (∀ u, u < 36 → u < s.2.2.2.1 + i → y 24 0 u = nI ((if s.2.2.2.1 ≤ u ∧ u < s.2.2.2.1 + k then (t, m) else s.2.2.2.2 u) : Nat × Nat).1 ∧ y 25 0 u = nI ((if s.2.2.2.1 ≤ u ∧ u < s.2.2.2.1 + k then (t, m) else s.2.2.2.2 u) : Nat × Nat).2) → AT 104 d Q 3 [vr 13 0, vi (nI t), vi (nI k), vi (nI m), vi (nI i)] y := by
    intro r
    induction r with
    | zero =>
      intro i y hi hf h23 h18 h20 h19 hw
      have e : i = k := by omega
      subst e
      refine vcl_X6_takes_3 ⟨fun _ => ⟨in8 (by omega) (by omega), in8 (by omega) (by omega), fun c => absurd c (nI_nle hk (by omega)), fun _ => ?_⟩, fun c => absurd (nI_le (Nat.le_refl _) (by omega)) c⟩
      refine hq _ (((hf.upj (by decide)).upk (by decide) (by decide)).upj (by decide)) ⟨fun u hu => ?_, ?_, ?_, ?_, fun u hu hu2 => ?_⟩
      · rw [up_k (by decide)]
        show _ = nI (updN s.1 t (s.1 t + tk kd rk wt wm P t m s.1 s.2.1) u)
        rw [hkk, cl8 (by omega)]
        by_cases e : u = t
        · subst e
          rw [up_s, updN_s, up_k (by decide), h23, sh u hu, nI_add]
        · rw [up_n (fun z => e z.2.2), updN_n e, up_k (by decide), h23, sh u hu]
      · rw [up_n (by decide), up_k (by decide), up_s, h18, sl, pk_sub hb.2]
        show _ = nI (s.2.1 - tk kd rk wt wm P t m s.1 s.2.1)
        rw [hkk]
      · rw [up_n (by decide), up_k (by decide), up_n (by decide), h19]
        show _ = nI (s.2.2.2.1 + tk kd rk wt wm P t m s.1 s.2.1)
        rw [hkk]
      · rw [up_s]
        show _ = (if 0 < tk kd rk wt wm P t m s.1 s.2.1 then nI m else s.2.2.1)
        rw [hkk, if_pos hk]
      · have hu3 : u < s.2.2.2.1 + i := by
          have : u < s.2.2.2.1 + tk kd rk wt wm P t m s.1 s.2.1 := hu2
          rw [hkk] at this; exact this
        rw [up_k (by decide), up_k (by decide), up_k (by decide), up_k (by decide), up_k (by decide), up_k (by decide)]
        show _ = nI ((if s.2.2.2.1 ≤ u ∧ u < s.2.2.2.1 + tk kd rk wt wm P t m s.1 s.2.1 then (t, m) else s.2.2.2.2 u) : Nat × Nat).1 ∧ _ = nI ((if s.2.2.2.1 ≤ u ∧ u < s.2.2.2.1 + tk kd rk wt wm P t m s.1 s.2.1 then (t, m) else s.2.2.2.2 u) : Nat × Nat).2
        rw [hkk]
        exact hw u hu hu3
    | succ r ih =>
      intro i y hi hf h23 h18 h20 h19 hw
      refine vcl_X6_takes_3 ⟨fun c => absurd c (nI_ge (by omega) (by omega)), fun _ => ⟨fun c => ?_, fun c => ?_⟩⟩
      · rw [nI_1]
        rw [h19, nI_1] 
        rw [h19, show (36 : Int32) = nI 36 from rfl, nI_leI (by decide) (by omega)] at c
        refine ih (i + 1) _ (by omega) (hf.upj (by decide)) (by rw [up_k (by decide)]; exact h23) (by rw [up_n (by decide)]; exact h18) (by rw [up_n (by decide)]; exact h20) (by rw [up_s]; congr 1) (fun u hu hu2 => ?_)
        rw [up_k (by decide), up_k (by decide)]
        exact hw u hu (by omega)
      · rw [h19, show (36 : Int32) = nI 36 from rfl, nI_leI (by decide) (by omega)] at c
        have hcl : (nI (s.2.2.2.1 + i)).toNatClampNeg = s.2.2.2.1 + i := nI_clamp (by omega)
        rw [h19, hcl, up_k (by decide), h19, hcl, up_k (by decide), up_k (by decide), h19, nI_1, nI_1]
        refine ⟨in8 (by omega) (by omega), in8 (by omega) (by omega), ?_⟩
        refine ih (i + 1) _ (by omega) (((hf.upk (by decide) (by decide)).upk (by decide) (by decide)).upj (by decide)) (by rw [up_k (by decide), up_k (by decide), up_k (by decide)]; exact h23) (by rw [up_n (by decide), up_k (by decide), up_k (by decide)]; exact h18) (by rw [up_n (by decide), up_k (by decide), up_k (by decide)]; exact h20) (by rw [up_s]; congr 1) (fun u hu hu2 => ?_)
        by_cases e : u = s.2.2.2.1 + i
        · rw [if_pos (by omega)]
          subst e
          simp [up_app]
        · have h5 := hw u hu (by omega)
          generalize (if s.2.2.2.1 ≤ u ∧ u < s.2.2.2.1 + k then (t, m) else s.2.2.2.2 u : Nat × Nat) = z at h5 ⊢
          simpa [up_app, e] using h5
  refine vc_X6_takes (key k 0 x (by omega) FM.rf rfl rfl rfl (by rw [Nat.add_zero]; exact sc) (fun u hu hu2 => ?_))
  rw [if_neg (by omega)]
  exact sw' u hu (by omega)
theorem MR_p1 {n P t m : Nat} {kd rk wt wm : Nat → Nat} {s : SS} (hS : MR x n s) (hk : tk kd rk wt wm P t m s.1 s.2.1 = 0) : MR x n (p1 kd rk wt wm P m t s) := by
  obtain ⟨sh, sl, sc, slast, sw'⟩ := hS
  unfold MR p1
  rw [hk]
  refine ⟨fun u hu => ?_, sl, sc, ?_, fun u hu hu2 => ?_⟩
  · show _ = nI (updN s.1 t (s.1 t + 0) u)
    by_cases e : u = t
    · subst e; rw [updN_s]; exact sh u hu
    · rw [updN_n e]; exact sh u hu
  · show _ = (if 0 < 0 then nI m else s.2.2.1)
    rw [if_neg (by omega)]; exact slast
  · show _ = nI ((if s.2.2.2.1 ≤ u ∧ u < s.2.2.2.1 + 0 then (t, m) else s.2.2.2.2 u) : Nat × Nat).1 ∧ _ = nI ((if s.2.2.2.1 ≤ u ∧ u < s.2.2.2.1 + 0 then (t, m) else s.2.2.2.2 u) : Nat × Nat).2
    rw [if_neg (by omega)]
    exact sw' u hu hu2
/-- how many are taken is bounded by what there was -/
def CV (L : Nat) (s : SS) : Prop := s.2.2.2.1 + s.2.1 = L
theorem CV_p1 {kd rk wt wm : Nat → Nat} {L P m t : Nat} {s : SS} (h : CV L s) : CV L (p1 kd rk wt wm P m t s) := by
  have hb := tk_le (kd := kd) (rk := rk) (wt := wt) (wm := wm) (P := P) (t := t) (m := m) (h := s.1) (l := s.2.1)
  show s.2.2.2.1 + tk kd rk wt wm P t m s.1 s.2.1 + (s.2.1 - tk kd rk wt wm P t m s.1 s.2.1) = L
  unfold CV at h
  omega
theorem CV_rd {kd rk wt wm : Nat → Nat} {L P m0 : Nat} {s : SS} (h : CV L s) : ∀ i, CV L (rd kd rk wt wm P m0 i s)
  | 0 => h
  | i + 1 => CV_p1 (CV_rd h i)
theorem CV_rn {kd rk wt wm : Nat → Nat} {n L P g : Nat} {s : SS} (h : CV L s) : ∀ k, CV L (rn kd rk wt wm n P g k s)
  | 0 => h
  | k + 1 => CV_rd (CV_rn h k) n
theorem k_oneRound {n P g L : Nat} {kd rk wt wm hs : Nat → Nat} {s : SS} (hB : BD kd rk wt wm hs) (hP : P < 256) (hI : IV n L s) (hC : CV L s) (hL : L < 2 ^ 20) (hg : g ≤ 8) (hn : n ≤ 8) : ∀ (r i : Nat) (x : Mem) (w4 w5 w6 w7 : AV), i + r = n → TM x n kd rk wt wm hs → MR x n (rd kd rk wt wm P (g * n) i s) → (∀ x', FM KS JS x x' → MR x' n (rd kd rk wt wm P (g * n) n s) → Q none x') → AT 105 (d + 1) Q 2 [vr 13 0, vi (nI g), vi (nI P), vi (nI i), w4, w5, w6, w7] x := by
  have hgn : g * n ≤ 8 * 8 := Nat.mul_le_mul hg hn
  intro r
  induction r with
  | zero =>
    intro i x w4 w5 w6 w7 hi hT hS hq
    have e : i = n := by omega
    subst e
    exact vcl_X6_oneRound_2 ⟨fun _ => hq x FM.rf hS, fun c => absurd (by rw [hT.1]; exact nI_le (Nat.le_refl _) (by omega)) c⟩
  | succ r ih =>
    intro i x w4 w5 w6 w7 hi hT hS hq
    have hin : i < n := by omega
    have hi8 : i < 8 := by omega
    obtain ⟨g0, g1, g2, g3, g4⟩ := hT.2.2 i hi8
    obtain ⟨b0, b1, b2, b3, b4⟩ := hB i hi8
    have hwn : ∀ t, t < n → wt t ≤ 9 := fun t ht => (hB t (by omega)).2.2.1
    have hI' := IV_rd (kd := kd) (rk := rk) (wt := wt) (wm := wm) (P := P) (m0 := g * n) hwn hI i (by omega)
    have hC' := CV_rd (kd := kd) (rk := rk) (wt := wt) (wm := wm) (P := P) (m0 := g * n) hC i
    have hih := ih (i + 1)
    have hnext : rd kd rk wt wm P (g * n) (i + 1) s = p1 kd rk wt wm P (g * n + i) i (rd kd rk wt wm P (g * n) i s) := rfl
    rw [hnext] at hih
    generalize rd kd rk wt wm P (g * n) i s = z at hS hI' hC' hih
    have hz9 := hI'.1 i hin
    have hzl : z.2.1 < 2 ^ 20 := Nat.lt_of_le_of_lt hI'.2 hL
    have hzc : z.2.2.2.1 < 2 ^ 20 := by unfold CV at hC'; omega
    have hlv : lvF (kd i) (rk i) ≤ 10 := by unfold lvF; split <;> (try split) <;> omega
    have t1 := pk_sub_toInt (a := wt i) (b := z.1 i) (by omega) (by omega)
    have t2 := pk_sub_toInt (a := z.2.1) (b := lvF (kd i) (rk i)) (by omega) (by omega)
    -- what is passed over
    have none_ : ∀ (y : Mem) (w4 w5 w6 w7 : AV), y = x → tk kd rk wt wm P i (g * n + i) z.1 z.2.1 = 0 → AT 105 (d + 1) Q 2 [vr 13 0, vi (nI g), vi (nI P), vi (nI i + 1), w4, w5, w6, w7] y := by
      intro y w4 w5 w6 w7 hy h0
      subst hy
      rw [nI_1]
      exact hih y w4 w5 w6 w7 (by omega) hT (MR_p1 hS h0) hq
    have at63 : ∀ (many w5 w6 : Int32), (many.toInt = min ((wt i : Int) - z.1 i) ((z.2.1 : Int) - lvF (kd i) (rk i))) → AT 105 (d + 1) Q 63 [vr 13 0, vi (nI g), vi (nI P), vi (nI i), vi (nI (g * n + i)), vi w5, vi w6, vi many] x := by
      intro many w5 w6 hmany
      refine vcl_X6_oneRound_63 (k_isIn hP hi8 (fun c => n1 ?_) (fun c => n0 ⟨in8 hi8 (by omega), ?_⟩))
      · exact none_ x _ _ _ _ rfl (by unfold tk; rw [if_neg (by omega)])
      · rw [cl8 hi8, g3]
        refine ⟨fun c2 => ?_, fun c2 => ⟨fun c3 => ?_, fun c3 => ?_⟩⟩
        · rw [nI_ltI (by omega) (by omega)] at c2
          exact none_ x _ _ _ _ rfl (by unfold tk; rw [if_neg (by omega)])
        · rw [nI_ltI (by omega) (by omega)] at c2
          rw [fa_le, i0, hmany] at c3
          exact none_ x _ _ _ _ rfl (by unfold tk; rw [if_pos ⟨c, by omega⟩]; omega)
        · rw [nI_ltI (by omega) (by omega)] at c2
          rw [fa_le, i0, hmany] at c3
          have htk : tk kd rk wt wm P i (g * n + i) z.1 z.2.1 = min (wt i - z.1 i) (z.2.1 - lvF (kd i) (rk i)) := by unfold tk; rw [if_pos ⟨c, by omega⟩]
          have hm2 : many = nI (tk kd rk wt wm P i (g * n + i) z.1 z.2.1) := by
            rw [fa_eq, hmany, htk, nI_toInt (by omega)]
            omega
          rw [hm2]
          refine k_takes hin hn (by omega) hS hI' hL hzc (by rw [htk]; omega) hwn (fun x' hf hS' => ?_)
          show AT 105 (d + 1) Q 2 [vr 13 0, vi (nI g), vi (nI P), vi (nI i + 1), _, _, _, _] x'
          rw [nI_1]
          exact hih x' _ _ _ _ (by omega) (hT.fr hf) hS' (fun x'' hf' hS'' => hq x'' (hf.tr hf') hS'')
    refine vcl_X6_oneRound_2 ⟨fun c => absurd (by rw [hT.1] at c; exact c) (nI_ge hin (by omega)), fun _ => ⟨in8 hi8 (by omega), in8 hi8 (by omega), ?_⟩⟩
    refine k_leavesOf hB hT hi8 ?_
    dsimp only [rI]
    rw [cl8 hi8, hT.1, g2, hS.1 i hin, hS.2.1, pk_mul, nI_add, show n * g + i = g * n + i by rw [Nat.mul_comm]]
    refine ⟨fun c => at63 _ _ _ ?_, fun c => at63 _ _ _ ?_⟩
    · rw [fa_le, t1, t2] at c; rw [t2]; omega
    · rw [fa_le, t1, t2] at c; rw [t1]; omega
theorem k_begins {n L : Nat} {kd rk wt wm hs : Nat → Nat} (hT : TM x n kd rk wt wm hs) (hq : ∀ x', FM KS JS x x' → MR x' n (s0 hs L) → Q none x') : CC (d + 1) 103 [vr 13 0, vi (nI L)] x Q := by
  have hn := hT.2.1
  have key : ∀ (r i : Nat) (y : Mem), i + r = n → FM KS JS x y → y 13 0 18 = nI L → y 13 0 19 = 0 → y 13 0 20 = -9 → (∀ t, t < i → y 23 0 t = nI (hs t)) → AT 103 d Q 18 [vr 13 0, vi (nI L), vi (nI i)] y := by
    intro r
    induction r with
    | zero =>
      intro i y hi hf h18 h19 h20 hy
      have e : i = n := by omega
      subst e
      exact vcl_X6_begins_18 ⟨fun _ => hq y hf ⟨hy, h18, h19, h20, fun u _ hu => absurd hu (Nat.not_lt_zero u)⟩, fun c => absurd (by rw [hf.2 1 (by decide), hT.1]; exact nI_le (Nat.le_refl _) (by omega)) c⟩
    | succ r ih =>
      intro i y hi hf h18 h19 h20 hy
      have hin : i < n := by omega
      refine vcl_X6_begins_18 ⟨fun c => absurd (by rw [hf.2 1 (by decide), hT.1] at c; exact c) (nI_ge hin (by omega)), fun _ => ⟨in8 (by omega) (by omega), in8 (by omega) (by omega), ?_⟩⟩
      rw [nI_1, cl8 (by omega), hf.1 18 (by decide), (hT.2.2 i (by omega)).2.2.2.2]
      refine ih (i + 1) _ (by omega) (hf.upk (by decide) (by decide)) (by rw [up_k (by decide)]; exact h18) (by rw [up_k (by decide)]; exact h19) (by rw [up_k (by decide)]; exact h20) (fun t ht => ?_)
      by_cases e : t = i
      · subst e; rw [up_s]
      · rw [up_n (fun z => e z.2.2)]; exact hy t (by omega)
  refine vc_X6_begins (key n 0 _ (by omega) (((FM.rf.upj (by decide)).upj (by decide)).upj (by decide)) ?_ ?_ ?_ (fun t ht => absurd ht (Nat.not_lt_zero t)))
  · rw [up_n (by decide), up_n (by decide), up_s]
  · rw [up_n (by decide), up_s]
  · rw [up_s]
theorem k_runs {n P g ro L : Nat} {kd rk wt wm hs : Nat → Nat} (hB : BD kd rk wt wm hs) (hP : P < 256) (hL : L < 2 ^ 20) (hT : TM x n kd rk wt wm hs) (hro : x 13 0 3 = nI ro) (hg : x 13 0 4 = nI g) (hgr : g ≤ ro) (hro4 : ro ≤ 4) (hq : ∀ x', FM KS JS x x' → MR x' n (rn kd rk wt wm n P g (ro - g) (s0 hs L)) → Q none x') : CC (d + 3) 106 [vr 13 0, vi (nI L), vi (nI P)] x Q := by
  have hn := hT.2.1
  have hwn : ∀ t, t < n → wt t ≤ 9 := fun t ht => (hB t (by omega)).2.2.1
  have hI0 : IV n L (s0 hs L) := ⟨fun t ht => (hB t (by omega)).2.2.2.2, Nat.le_refl _⟩
  have hC0 : CV L (s0 hs L) := Nat.zero_add L
  have key : ∀ (r k : Nat) (y : Mem), k + r = ro - g → FM KS JS x y → MR y n (rn kd rk wt wm n P g k (s0 hs L)) → AT 106 (d + 2) Q 10 [vr 13 0, vi (nI L), vi (nI P), vi (nI (g + k))] y := by
    intro r
    induction r with
    | zero =>
      intro k y hk hf hS
      have e : k = ro - g := by omega
      subst e
      exact vcl_X6_runs_10 ⟨fun _ => hq y hf hS, fun c => absurd (by rw [hf.2 3 (by decide), hro]; exact nI_le (by omega) (by omega)) c⟩
    | succ r ih =>
      intro k y hk hf hS
      refine vcl_X6_runs_10 ⟨fun c => absurd (by rw [hf.2 3 (by decide), hro] at c; exact c) (nI_ge (by omega) (by omega)), fun _ => ?_⟩
      refine vc_X6_oneRound (k_oneRound hB hP (IV_rn hwn hI0 k) (CV_rn hC0 k) hL (by omega) hn n 0 y _ _ _ _ (by omega) (hT.fr hf) hS (fun y' hf' hS' => ?_))
      show AT 106 (d + 2) Q 10 [vr 13 0, vi (nI L), vi (nI P), vi (nI (g + k) + 1)] y'
      rw [nI_1]
      exact ih (k + 1) y' (by omega) (hf.tr hf') hS'
  refine vc_X6_runs (k_begins hT (fun x1 hf1 hS1 => ?_))
  show AT 106 (d + 2) Q 10 [vr 13 0, vi (nI L), vi (nI P), vi (x1 13 0 4)] x1
  rw [hf1.2 4 (by decide), hg]
  exact key (ro - g) 0 x1 (by omega) hf1 hS1
theorem k_sweetThen {n : Nat} {kd rk wt wm hs : Nat → Nat} {s : SS} (hB : BD kd rk wt wm hs) (hT : TM x n kd rk wt wm hs) (hS : MR x n s) (hh : ∀ t, t < n → s.1 t ≤ wt t) (hq : Q (some (vi (nI (sw s.1 wt n)))) x) : CC (d + 1) 107 [vr 13 0] x Q := by
  have hn := hT.2.1
  have key : ∀ (r i : Nat), i + r = n → AT 107 d Q 4 [vr 13 0, vi (nI (sw s.1 wt i)), vi (nI i)] x := by
    intro r
    induction r with
    | zero =>
      intro i hi
      have e : i = n := by omega
      subst e
      exact vcl_X6_sweetThen_4 ⟨fun _ => hq, fun c => absurd (by rw [hT.1]; exact nI_le (Nat.le_refl _) (by omega)) c⟩
    | succ r ih =>
      intro i hi
      have hin : i < n := by omega
      have hi8 : i < 8 := by omega
      have := ih (i + 1) (by omega)
      have h9 := (hB i hi8).2.2.1
      have hle := hh i hin
      refine vcl_X6_sweetThen_4 ⟨fun c => absurd (by rw [hT.1] at c; exact c) (nI_ge hin (by omega)), fun _ => ⟨in8 hi8 (by omega), in8 hi8 (by omega), ?_⟩⟩
      rw [cl8 hi8, hS.1 i hin, (hT.2.2 i hi8).2.2.1, nI_ltI (by omega) (by omega), nI_1, shl_t i hi8, fa_or, show (0 : Int32) = nI 0 from rfl, fa_or, Nat.or_zero]
      refine ⟨fun c => ?_, fun c => ?_⟩
      · rw [sw, if_neg (by omega)] at this; exact this
      · rw [sw, if_pos (by omega)] at this; exact this
  exact vc_X6_sweetThen (key n 0 (by omega))
end
