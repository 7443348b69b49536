/-! calls: enough, tea, best, lump, reading, back -/
abbrev fin (kd rk wt wm hs : Nat → Nat) (n P g ro L : Nat) : SS := rn kd rk wt wm n P g (ro - g) (s0 hs L)
theorem and_nx (u w : Int32) : u &&& (w ^^^ (-1)) = 0 ↔ w &&& u = u := by
  rw [← Int32.toBitVec_inj, ← Int32.toBitVec_inj, Int32.toBitVec_and, Int32.toBitVec_xor, Int32.toBitVec_and]
  show u.toBitVec &&& (w.toBitVec ^^^ BitVec.allOnes 32) = 0#32 ↔ _
  rw [BitVec.xor_allOnes]
  constructor
  · intro h
    apply BitVec.eq_of_getLsbD_eq
    intro i hi
    have h2 := congrArg (fun z => z.getLsbD i) h
    simp only [BitVec.getLsbD_and, BitVec.getLsbD_not, BitVec.getLsbD_zero] at h2 ⊢
    cases ha : u.toBitVec.getLsbD i <;> cases hb : w.toBitVec.getLsbD i <;> simp_all
  · intro h
    apply BitVec.eq_of_getLsbD_eq
    intro i hi
    have h2 := congrArg (fun z => z.getLsbD i) h
    simp only [BitVec.getLsbD_and, BitVec.getLsbD_not, BitVec.getLsbD_zero] at h2 ⊢
    cases ha : u.toBitVec.getLsbD i <;> cases hb : w.toBitVec.getLsbD i <;> simp_all
/-- the first number that will do -/
def fwF (p : Nat → Bool) : Nat → Nat → Int32
  | 0, _ => -9
  | r + 1, L => if p L = true then nI L else fwF p r (L + 1)
theorem fwF_or (p : Nat → Bool) : ∀ r L, fwF p r L = -9 ∨ ∃ K, K < L + r ∧ fwF p r L = nI K
  | 0, _ => Or.inl rfl
  | r + 1, L => by
    unfold fwF
    split
    · exact Or.inr ⟨L, by omega, rfl⟩
    · rcases fwF_or p r (L + 1) with h | ⟨K, h1, h2⟩
      · exact Or.inl h
      · exact Or.inr ⟨K, by omega, h2⟩
/-- the best points among the first ones -/
def bF (hm : Nat → Nat) : Nat → Nat
  | 0 => 0
  | p + 1 => if hm (bF hm p) < hm p ∨ (hm p = hm (bF hm p) ∧ pc p < pc (bF hm p)) then p else bF hm p
theorem bF_lt (hm : Nat → Nat) : ∀ p, bF hm (p + 1) ≤ p
  | 0 => by unfold bF; split <;> simp [bF]
  | p + 1 => by
    have := bF_lt hm p
    unfold bF
    split <;> omega
section
variable {d : Nat} {Q : Option AV → Mem → Prop} {x : Mem}
theorem k_howMany {n P g ro l : Nat} {kd rk wt wm hs : Nat → Nat} (hB : BD kd rk wt wm hs) (hP : P < 256) (hl : l < 2 ^ 20) (hT : TV x n kd rk wt wm hs) (h2 : x 6 0 2 = nI l) (hro : x 6 0 3 = nI ro) (hg : x 6 0 4 = nI g) (hgr : g ≤ ro) (hro4 : ro ≤ 4) (hq : ∀ x', FR [4, 5] x x' → Q (some (vi (nI (pc (sw (fin kd rk wt wm hs n P g ro l).1 wt n))))) x') : CC (d + 5) 72 [vr 0 0, vi (nI P)] x Q := by
  have hn8 := hT.2.1
  have hp := pow8 hn8
  have hsw := sw_lt (h := (fin kd rk wt wm hs n P g ro l).1) (wt := wt) n
  refine vc_X5_howManySweet ?_
  rw [h2]
  refine k_goAll hB hP hl hT hro hg hgr hro4 (fun x1 hf hS => ?_)
  have hI0 : IV n l (s0 hs l) := ⟨fun t ht => (hB t (by omega)).2.2.2.2, Nat.le_refl _⟩
  exact k_sweetSet hB (hT.fr (hf 6 (by decide)) (hf 7 (by decide)) (hf 8 (by decide))) hS (IV_rn (fun t ht => (hB t (by omega)).2.2.1) hI0 _).1 (k_bitCount (Nat.lt_of_lt_of_le hsw hp.1) (hq x1 hf))
theorem k_sweetBy {n P g ro L : Nat} {kd rk wt wm hs : Nat → Nat} (hB : BD kd rk wt wm hs) (hW : ∀ t, t < n → hs t ≤ wt t) (hP : P < 256) (hL : L < 2 ^ 20) (hT : TM x n kd rk wt wm hs) (hro : x 13 0 3 = nI ro) (hg : x 13 0 4 = nI g) (hgr : g ≤ ro) (hro4 : ro ≤ 4) (hq : ∀ x', FM KS JS x x' → Q (some (vi (nI (sw (fin kd rk wt wm hs n P g ro L).1 wt n)))) x') : CC (d + 4) 116 [vr 13 0, vi (nI L), vi (nI P)] x Q := by
  refine vc_X6_sweetBy (k_runs hB hP hL hT hro hg hgr hro4 (fun x1 hf hS => ?_))
  have hW0 : WV n wt (s0 hs L) := hW
  exact k_sweetThen hB (hT.fr hf) hS (WV_rn hW0 _) (hq x1 hf)
theorem k_fewest {n g ro : Nat} {U : Int32} {kd rk wt wm hs : Nat → Nat} (hB : BD kd rk wt wm hs) (hT : TV x n kd rk wt wm hs) (hro : x 6 0 3 = nI ro) (hg : x 6 0 4 = nI g) (hgr : g ≤ ro) (hro4 : ro ≤ 4) (hq : ∀ x', FR [4, 5] x x' → Q (some (vi (fwF (fun L => decide (nI (sw (fin kd rk wt wm hs n 0 g ro L).1 wt n) &&& U = U)) 37 0))) x') : CC (d + 5) 74 [vr 0 0, vi U] x Q := by
  have hI0 : ∀ l, IV n l (s0 hs l) := fun l => ⟨fun t ht => (hB t (by have := hT.2.1; omega)).2.2.2.2, Nat.le_refl _⟩
  have key : ∀ (r L : Nat) (y : Mem), L + r = 37 → FR [4, 5] x y → (∀ x', FR [4, 5] x x' → Q (some (vi (fwF (fun L => decide (nI (sw (fin kd rk wt wm hs n 0 g ro L).1 wt n) &&& U = U)) r L))) x') → AT 74 (d + 4) Q 2 [vr 0 0, vi U, vi (nI L)] y := by
    intro r
    induction r with
    | zero =>
      intro L y hr hf hq
      have e : L = 37 := by omega
      subst e
      exact vcl_X5_fewestLumps_2 ⟨fun _ => hq y hf, fun c => absurd (by decide) c⟩
    | succ r ih =>
      intro L y hr hf hq
      have hT' := hT.fr (hf 6 (by decide)) (hf 7 (by decide)) (hf 8 (by decide))
      refine vcl_X5_fewestLumps_2 ⟨fun c => absurd c (by rw [show (36 : Int32) = nI 36 from rfl]; exact nI_nlt (by omega) (by omega)), fun _ => ?_⟩
      refine k_goAll (P := 0) hB (by omega) (by omega) hT' (by rw [hf 6 (by decide)]; exact hro) (by rw [hf 6 (by decide)]; exact hg) hgr hro4 (fun x1 hf1 hS => ?_)
      have hf2 := hf.tr hf1
      refine k_sweetSet hB (hT.fr (hf2 6 (by decide)) (hf2 7 (by decide)) (hf2 8 (by decide))) hS (IV_rn (fun t ht => (hB t (by have := hT.2.1; omega)).2.2.1) (hI0 L) _).1 ⟨fun c => ?_, fun c => ?_⟩
      · rw [nI_1]
        refine ih (L + 1) x1 (by omega) hf2 (fun x' hf' => ?_)
        have := hq x' hf'
        unfold fwF at this
        rw [if_neg (by simpa using c)] at this
        exact this
      · have := hq x1 hf2
        unfold fwF at this
        rw [if_pos (by simpa using c)] at this
        exact this
  exact vc_X5_fewestLumps (key 37 0 x rfl FR.rf hq)
theorem k_fewestFor {n g ro : Nat} {U : Int32} {kd rk wt wm hs : Nat → Nat} (hB : BD kd rk wt wm hs) (hW : ∀ t, t < n → hs t ≤ wt t) (hT : TM x n kd rk wt wm hs) (hro : x 13 0 3 = nI ro) (hg : x 13 0 4 = nI g) (hgr : g ≤ ro) (hro4 : ro ≤ 4) (hq : ∀ x', FM KS JS x x' → Q (some (vi (fwF (fun L => decide (nI (sw (fin kd rk wt wm hs n 0 g ro L).1 wt n) &&& U = U)) 37 0))) x') : CC (d + 5) 118 [vr 13 0, vi U] x Q := by
  have key : ∀ (r L : Nat) (y : Mem), L + r = 37 → FM KS JS x y → (∀ x', FM KS JS x x' → Q (some (vi (fwF (fun L => decide (nI (sw (fin kd rk wt wm hs n 0 g ro L).1 wt n) &&& U = U)) r L))) x') → AT 118 (d + 4) Q 2 [vr 13 0, vi U, vi (nI L)] y := by
    intro r
    induction r with
    | zero =>
      intro L y hr hf hq
      have e : L = 37 := by omega
      subst e
      exact vcl_X6_fewestFor_2 ⟨fun _ => hq y hf, fun c => absurd (by decide) c⟩
    | succ r ih =>
      intro L y hr hf hq
      refine vcl_X6_fewestFor_2 ⟨fun c => absurd c (by rw [show (36 : Int32) = nI 36 from rfl]; exact nI_nlt (by omega) (by omega)), fun _ => ?_⟩
      refine k_sweetBy (P := 0) hB hW (by omega) (by omega) (hT.fr hf) (by rw [hf.2 3 (by decide)]; exact hro) (by rw [hf.2 4 (by decide)]; exact hg) hgr hro4 (fun x1 hf1 => ?_)
      have hf2 := hf.tr hf1
      refine ⟨fun c => ?_, fun c => ?_⟩
      · rw [and_nx] at c
        rw [nI_1]
        refine ih (L + 1) x1 (by omega) hf2 (fun x' hf' => ?_)
        have := hq x' hf'
        unfold fwF at this
        rw [if_neg (by simpa using c)] at this
        exact this
      · rw [and_nx] at c
        have := hq x1 hf2
        unfold fwF at this
        rw [if_pos (by simpa using c)] at this
        exact this
  exact vc_X6_fewestFor (key 37 0 x rfl FM.rf hq)
theorem IB.hw {n l ro g : Nat} {kd rk wt wm hs : Nat → Nat} (h : IB n l ro g kd rk wt wm hs) : ∀ t, t < n → hs t ≤ wt t := fun t ht => (h.2.2.2.1 t (by have := h.1; omega)).2.2.2.2
theorem op_enough {a : Int32} (h : Inv x) : OP 40 119 [vr 0 0, vi a] [vr 13 0, vi a] x := by
  obtain ⟨n, l, ro, g, kd, rk, wt, wm, hs, hC, hM, hB, ⟨rc, rt, rp, rv, hR⟩, hS, hT⟩ := id h
  have hn := hB.1
  refine vc_X5_enough (k_hasTable hC.1 hn (fun c => n1 (k_fewest hB.bd (hC.tv hn) hC.2.2.1 hC.2.2.2.1 hB.2.1 hB.2.2.1 (fun x1 hf => ⟨_, rfl, ?_⟩))) (fun c => n0 ⟨_, rfl, vc_X6_enough (k_noTable hM.1 hn (fun q => absurd q c) (fun _ => e1 ⟨rfl, h⟩))⟩))
  have hf1 := FS.ofR hf
  have hM1 := hM.fs hf1
  exact vc_X6_enough (k_noTable hM1.1 hn (fun _ => e0 (k_fewestFor hB.bd hB.hw (hM1.tm hn) hM1.2.2.1 hM1.2.2.2.1 hB.2.1 hB.2.2.1 (fun x2 hf2 => ⟨rfl, h.fs (hf1.tr (FS.ofM hf2))⟩))) (fun q => absurd c q))
theorem op_tea {a : Int32} (h : Inv x) : OP 41 120 [vr 0 0, vi a] [vr 13 0, vi a] x := by
  obtain ⟨n, l, ro, g, kd, rk, wt, wm, hs, hC, hM, hB, ⟨rc, rt, rp, rv, hR⟩, hS, hT⟩ := id h
  have hn := hB.1
  have hp := pow8 hn
  refine vc_X5_tea (k_within (N := 2) rfl (fun ca => n1 (k_stands hC.1 hn (fun c => n1 (k_allTables hC.1 hn ?_)) (fun c => n0 ⟨_, rfl, ?_⟩))) (fun ca => n0 ⟨_, rfl, ?_⟩))
  · refine k_fewest hB.bd (hC.tv hn) hC.2.2.1 hC.2.2.2.1 hB.2.1 hB.2.2.1 (fun x1 hf => ?_)
    have hf1 := FS.ofR hf
    have hM1 := hM.fs hf1
    have mm : ∀ r : Int32, (∀ z : Int32, z = fwF (fun L => decide (nI (sw (fin kd rk wt wm hs n 0 g ro L).1 wt n) &&& nI (2 ^ n - 1) = nI (2 ^ n - 1))) 37 0 → r = (if z < 0 then z else if ¬ a = 0 then (z + 5) / 6 else z)) → CC 8 120 [vr 13 0, vi a] x1 fun v' x2 => v' = some (vi r) ∧ Inv x2 := by
      intro r hr
      refine vc_X6_tea (k_inN (N := 2) rfl (fun _ => n1 ⟨fun _ => ?_, fun q => ?_⟩) (fun q => absurd ca q))
      · rw [hM1.1, shl_n n hn, show (1 : Int32) = nI 1 from rfl, pk_sub hp.2]
        refine k_fewestFor hB.bd hB.hw (hM1.tm hn) hM1.2.2.1 hM1.2.2.2.1 hB.2.1 hB.2.2.1 (fun x2 hf2 => ?_)
        have hI := h.fs (hf1.tr (FS.ofM hf2))
        have hr2 := hr _ rfl
        refine ⟨fun q => ⟨by rw [hr2, if_pos q], hI⟩, fun q => ⟨fun q2 => ⟨by decide, by rw [hr2, if_neg q, if_pos q2], hI⟩, fun q2 => ⟨by rw [hr2, if_neg q, if_neg (fun z => z q2)], hI⟩⟩⟩
      · rw [hM1.1, nI_z (by omega)] at q
        omega
    refine ⟨fun c0 => ⟨_, rfl, mm _ (fun z hz => ?_)⟩, fun c0 => ⟨fun c9 => ⟨by decide, _, rfl, mm _ (fun z hz => ?_)⟩, fun c9 => ⟨_, rfl, mm _ (fun z hz => ?_)⟩⟩⟩
    · rw [hz]
      have key : ∀ w : Int32, w = (if w < 0 then w else if ¬ a = 0 then (w + 5) / 6 else w) := fun w => by
        by_cases q : w < 0
        · rw [if_pos q]
        · rw [if_neg q, if_neg (fun t => t c0)]
      exact key _
    · rw [hz]
      rcases fwF_or (fun L => decide (nI (sw (fin kd rk wt wm hs n 0 g ro L).1 wt n) &&& nI (2 ^ n - 1) = nI (2 ^ n - 1))) 37 0 with e | ⟨K, hK, e⟩
      · exact absurd e c9
      · rw [e, if_neg (nI_pos (by omega)), if_pos c0, show (6 : Int32) = nI 6 from rfl, show (1 : Int32) = nI 1 from rfl, show (5 : Int32) = nI 5 from rfl, nI_add, pk_sub (by omega), nI_add, show K + 6 - 1 = K + 5 by omega]
    · rw [hz, c9, if_pos (by decide)]
  · exact vc_X6_tea (k_inN (N := 2) rfl (fun _ => n1 ⟨fun q => absurd (by rw [hM.1, c]; rfl) q, fun _ => ⟨rfl, h⟩⟩) (fun q => absurd ca q))
  · exact vc_X6_tea (k_inN (N := 2) rfl (fun q => absurd q ca) (fun _ => n0 ⟨rfl, h⟩))
theorem op_best {a : Int32} (h : Inv x) : OP 39 117 [vr 0 0, vi a] [vr 13 0, vi a] x := by
  obtain ⟨n, l, ro, g, kd, rk, wt, wm, hs, hC, hM, hB, ⟨rc, rt, rp, rv, hR⟩, hS, hT⟩ := id h
  have hn := hB.1
  have hp := pow8 hn
  have hl : l < 2 ^ 20 := by have := hB.2.2.2.2; omega
  refine vc_X5_best (k_within (N := 2) rfl (fun ca => n1 (k_stands hC.1 hn (fun c => n1 ?_) (fun c => n0 ⟨_, rfl, ?_⟩))) (fun ca => n0 ⟨_, rfl, ?_⟩))
  · -- the hall stands
    generalize hhm : (fun P => pc (sw (fin kd rk wt wm hs n P g ro l).1 wt n)) = hm
    have hmP : ∀ P, pc (sw (fin kd rk wt wm hs n P g ro l).1 wt n) = hm P := fun P => by rw [← hhm]
    have hm8 : ∀ P, hm P ≤ 8 := fun P => by rw [← hmP]; exact pcr_le 8 _
    have bz : ∀ p, p ≤ 2 ^ n → bF hm p < 256 := fun p hp' => by
      cases p with
      | zero => show (0 : Nat) < 256; omega
      | succ p => have := bF_lt hm p; omega
    -- the reference
    have mm : ∀ (y : Mem), FS x y → CC 8 117 [vr 13 0, vi a] y fun v' x2 => v' = some (vi (if a = 0 then nI (bF hm (2 ^ n)) else nI (hm (bF hm (2 ^ n))))) ∧ Inv x2 := by
      intro y hf1
      have key : ∀ (r p : Nat) (z : Mem) (most : Int32) (w5 : AV), p + r = 2 ^ n → FS x z → ((p = 0 ∧ most = -9) ∨ (0 < p ∧ most.toInt = 16 * (hm (bF hm p) : Int) - pc (bF hm p))) → AT 117 7 (fun v' x2 => v' = some (vi (if a = 0 then nI (bF hm (2 ^ n)) else nI (hm (bF hm (2 ^ n))))) ∧ Inv x2) 31 [vr 13 0, vi a, vi (nI (bF hm p)), vi most, vi (nI p), w5] z := by
        intro r
        induction r with
        | zero =>
          intro p z most w5 hr hf hmost
          have e : p = 2 ^ n := by omega
          subst e
          have hM1 := hM.fs hf
          refine vcl_X6_best_31 ⟨fun _ => ⟨fun c0 => ?_, fun c0 => ⟨by rw [if_pos c0], h.fs hf⟩⟩, fun q => absurd (by rw [hM1.1, shl_n n hn]; exact nI_le (Nat.le_refl _) (by omega)) q⟩
          rw [hM1.2.1]
          refine k_sweetBy hB.bd hB.hw (bz _ (Nat.le_refl _)) hl (hM1.tm hn) hM1.2.2.1 hM1.2.2.2.1 hB.2.1 hB.2.2.1 (fun x2 hf2 => ?_)
          have hsw := sw_lt (h := (fin kd rk wt wm hs n (bF hm (2 ^ n)) g ro l).1) (wt := wt) n
          refine k_bits (by omega) ⟨by rw [if_neg c0, hmP], h.fs (hf.tr (FS.ofM hf2))⟩
        | succ r ih =>
          intro p z most w5 hr hf hmost
          have hM1 := hM.fs hf
          have hp2 : p < 2 ^ n := by omega
          refine vcl_X6_best_31 ⟨fun q => absurd (by rw [hM1.1, shl_n n hn] at q; exact q) (nI_ge hp2 (by omega)), fun _ => ?_⟩
          rw [hM1.2.1]
          refine k_sweetBy hB.bd hB.hw (by omega) hl (hM1.tm hn) hM1.2.2.1 hM1.2.2.2.1 hB.2.1 hB.2.2.1 (fun x2 hf2 => ?_)
          have hsw := sw_lt (h := (fin kd rk wt wm hs n p g ro l).1) (wt := wt) n
          refine k_bits (by omega) (k_bits (by omega) ?_)
          dsimp only [rI]
          have hf3 := hf.tr (FS.ofM hf2)
          have h1 := hm8 p
          have h2 := hm8 (bF hm p)
          have h3 : pc p ≤ 8 := pcr_le 8 _
          have h4 : pc (bF hm p) ≤ 8 := pcr_le 8 _
          rw [hmP, nI_1, show (16 : Int32) = nI 16 from rfl, pk_mul]
          have t1 := pk_sub_toInt (a := 16 * hm p) (b := pc p) (by omega) (by omega)
          have better : ¬ (nI (16 * hm p) - nI (pc p)) ≤ most → bF hm (p + 1) = p := by
            intro c
            rw [fa_le, t1] at c
            rcases hmost with ⟨hz, hm9⟩ | ⟨hz, hm9⟩
            · subst hz; have := bF_lt hm 0; omega
            · rw [hm9] at c
              unfold bF
              rw [if_pos (by omega)]
          have worse : (nI (16 * hm p) - nI (pc p)) ≤ most → 0 < p ∧ bF hm (p + 1) = bF hm p := by
            intro c
            rw [fa_le, t1] at c
            rcases hmost with ⟨hz, hm9⟩ | ⟨hz, hm9⟩
            · rw [hm9, show (-9 : Int32).toInt = -9 from rfl] at c; omega
            · rw [hm9] at c
              refine ⟨hz, ?_⟩
              show (if _ then p else bF hm p) = bF hm p
              rw [if_neg (by omega)]
          refine ⟨fun q => ⟨fun _ => ?_, fun q2 => absurd q q2⟩, fun q => ⟨fun q2 => absurd q2 q, fun _ => ?_⟩⟩
          · obtain ⟨w1, w2⟩ := worse q
            have := ih (p + 1) x2 most (vi (nI (16 * hm p) - nI (pc p))) (by omega) hf3 (Or.inr ⟨by omega, by
              rcases hmost with ⟨hz, hm9⟩ | ⟨hz, hm9⟩
              · omega
              · rw [w2]; exact hm9⟩)
            rw [w2] at this
            exact this
          · have w2 := better q
            have := ih (p + 1) x2 (nI (16 * hm p) - nI (pc p)) (vi (nI (16 * hm p) - nI (pc p))) (by omega) hf3 (Or.inr ⟨by omega, by rw [w2, t1]; omega⟩)
            rw [w2] at this
            exact this
      have hM1 := hM.fs hf1
      refine vc_X6_best (k_inN (N := 2) rfl (fun _ => n1 ⟨fun _ => key (2 ^ n) 0 y (-9) vu (by omega) hf1 (Or.inl ⟨rfl, rfl⟩), fun q => ?_⟩) (fun q => absurd ca q))
      rw [hM1.1, nI_z (by omega)] at q
      omega
    -- the class
    refine k_howMany (P := 0) hB.bd (by omega) hl (hC.tv hn) hC.2.1 hC.2.2.1 hC.2.2.2.1 hB.2.1 hB.2.2.1 (fun x1 hf1 => ?_)
    have key : ∀ (r p : Nat) (z : Mem) (w5 : AV), p + r = 2 ^ n → 0 < p → FR [4, 5] x z → AT 39 7 (fun v x1 => ∃ r, v = some (vi r) ∧ CC 8 117 [vr 13 0, vi a] x1 fun v' x2 => v' = some (vi r) ∧ Inv x2) 35 [vr 0 0, vi a, vi (nI (bF hm p)), vi (nI (hm (bF hm p))), vi (nI p), w5] z := by
      intro r
      induction r with
      | zero =>
        intro p z w5 hr hp0 hf
        have e : p = 2 ^ n := by omega
        subst e
        have hC1 := hC.fs (FS.ofR hf)
        refine vcl_X5_best_35 (k_allTables hC1.1 hn ⟨fun _ => ⟨fun c0 => ⟨_, rfl, ?_⟩, fun c0 => ⟨_, rfl, ?_⟩⟩, fun q => absurd (nI_lt (by omega) (by omega)) q⟩)
        · have := mm z (FS.ofR hf)
          rw [if_neg c0] at this
          exact this
        · have := mm z (FS.ofR hf)
          rw [if_pos c0] at this
          exact this
      | succ r ih =>
        intro p z w5 hr hp0 hf
        have hC1 := hC.fs (FS.ofR hf)
        have hp2 : p < 2 ^ n := by omega
        refine vcl_X5_best_35 (k_allTables hC1.1 hn ⟨fun q => absurd q (nI_nlt (by omega) (by omega)), fun _ => ?_⟩)
        refine k_howMany hB.bd (by omega) hl (hC1.tv hn) hC1.2.1 hC1.2.2.1 hC1.2.2.2.1 hB.2.1 hB.2.2.1 (fun x2 hf2 => ?_)
        dsimp only [rI]
        have hf3 := hf.tr hf2
        have h1 := hm8 p
        have h2 := hm8 (bF hm p)
        have h3 : pc p ≤ 8 := pcr_le 8 _
        have h4 : pc (bF hm p) ≤ 8 := pcr_le 8 _
        rw [hmP, nI_1, nI_ltI (by omega) (by omega), nI_eq (by omega) (by omega)]
        have yes : (hm (bF hm p) < hm p ∨ (hm p = hm (bF hm p) ∧ pc p < pc (bF hm p))) → bF hm (p + 1) = p := fun c => by unfold bF; rw [if_pos c]
        have no : ¬ (hm (bF hm p) < hm p ∨ (hm p = hm (bF hm p) ∧ pc p < pc (bF hm p))) → bF hm (p + 1) = bF hm p := fun c => by
          show (if _ then p else bF hm p) = bF hm p
          rw [if_neg c]
        refine ⟨fun q => ?_, fun q => ⟨fun q2 => ?_, fun q2 => k_bitCount (by omega) (k_bitCount (bz p (by omega)) ⟨fun q3 => ?_, fun q3 => ?_⟩)⟩⟩
        · have := ih (p + 1) x2 (vi (nI (hm p))) (by omega) (by omega) hf3
          rw [yes (Or.inl q)] at this
          exact this
        · have := ih (p + 1) x2 (vi (nI (hm p))) (by omega) (by omega) hf3
          rw [no (by omega)] at this
          exact this
        · rw [nI_leI (by omega) (by omega)] at q3
          have := ih (p + 1) x2 (vi (nI (hm p))) (by omega) (by omega) hf3
          rw [no (by omega)] at this
          exact this
        · rw [nI_leI (by omega) (by omega)] at q3
          have := ih (p + 1) x2 (vi (nI (hm p))) (by omega) (by omega) hf3
          rw [yes (by omega)] at this
          exact this
    have h0 : bF hm 1 = 0 := Nat.le_zero.mp (bF_lt hm 0)
    have := key (2 ^ n - 1) 1 x1 vu (by omega) (by omega) hf1
    rw [h0, ← hmP] at this
    exact this
  · exact vc_X6_best (k_inN (N := 2) rfl (fun _ => n1 ⟨fun q => absurd (by rw [hM.1, c]; rfl) q, fun _ => ⟨rfl, h⟩⟩) (fun q => absurd ca q))
  · exact vc_X6_best (k_inN (N := 2) rfl (fun q => absurd q ca) (fun _ => n0 ⟨rfl, h⟩))
end
