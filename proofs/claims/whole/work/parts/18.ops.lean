/-! calls: ranks, kinds, wants -/
def SOp (kd rk wt wm hs : Nat → Nat) (n g ro l rc : Nat) (rt rp rv : Nat → Nat) : Prop := ∀ r, r < rc → nI ((fin kd rk wt wm hs n (rp r) g ro l).1 (rt r)) - nI (hs (rt r)) = nI (rv r)
noncomputable def fsF (p : Nat → Prop) : Nat → Nat
  | 0 => 0
  | v + 1 => @ite _ (p v) (Classical.propDecidable _) (fsF p v ||| 2 ^ v) (fsF p v)
theorem fsF_y {p : Nat → Prop} {v : Nat} (h : p v) : fsF p (v + 1) = fsF p v ||| 2 ^ v := by
  show @ite _ (p v) (Classical.propDecidable _) (fsF p v ||| 2 ^ v) (fsF p v) = _
  rw [if_pos h]
theorem fsF_n {p : Nat → Prop} {v : Nat} (h : ¬ p v) : fsF p (v + 1) = fsF p v := by
  show @ite _ (p v) (Classical.propDecidable _) (fsF p v ||| 2 ^ v) (fsF p v) = _
  rw [if_neg h]
theorem up_up {x : Mem} {k i j : Nat} {v w : Int32} : up (up x k i j v) k i j w = up x k i j w := by
  funext k' i' j'
  simp only [up_app]
  split <;> rfl
theorem upup_R {ks : List Nat} {x z : Mem} {k i j : Nat} {v w : Int32} (h : FR ks (up x k i j v) z) : FR ks (up x k i j w) (up z k i j w) := fun k' hk' => by
  have h1 := h k' hk'
  funext i' j'
  have h2 := congrFun (congrFun h1 i') j'
  simp only [up_app] at h2 ⊢
  split
  · rfl
  · rename_i hn; rw [if_neg hn] at h2; exact h2
theorem FM.upup {ks js : List Nat} {x z : Mem} {k i j : Nat} {v w : Int32} (h : FM ks js (up x k i j v) z) (h13 : 13 ≠ k) : FM ks js (up x k i j w) (up z k i j w) := ⟨fun k' hk' => by
  have h1 := h.1 k' hk'
  funext i' j'
  have h2 := congrFun (congrFun h1 i') j'
  simp only [up_app] at h2 ⊢
  split
  · rfl
  · rename_i hn; rw [if_neg hn] at h2; exact h2, fun j' hj' => by
  have h1 := h.2 j' hj'
  rw [up_k h13] at h1 ⊢
  rw [up_k h13]
  exact h1⟩
theorem shl_v : ∀ n, n < 10 → (1 : Int32) <<< (nI n &&& 31) = nI (2 ^ n) := by decide +kernel
def RC (x : Mem) (n rc : Nat) (rt rp rv : Nat → Nat) : Prop := x 9 0 3 = nI rc ∧ rc ≤ 8 ∧ (∀ r, r < 8 → x 10 0 r = nI (rt r) ∧ x 11 0 r = nI (rp r) ∧ x 12 0 r = nI (rv r)) ∧ ∀ r, r < rc → rt r < n ∧ rp r < 2 ^ n ∧ rv r ≤ 36
def RM (x : Mem) (n rc : Nat) (rt rp rv : Nat → Nat) : Prop := x 13 0 24 = nI rc ∧ rc ≤ 8 ∧ (∀ r, r < 8 → x 26 0 r = nI (rt r) ∧ x 27 0 r = nI (rp r) ∧ x 28 0 r = nI (rv r)) ∧ ∀ r, r < rc → rt r < n ∧ rp r < 2 ^ n ∧ rv r ≤ 36
theorem IR.c {x : Mem} {n rc : Nat} {rt rp rv : Nat → Nat} (h : IR x n rc rt rp rv) : RC x n rc rt rp rv := ⟨h.1, h.2.2.1, fun r hr => ⟨(h.2.2.2.1 r hr).1, (h.2.2.2.1 r hr).2.2.1, (h.2.2.2.1 r hr).2.2.2.2.1⟩, h.2.2.2.2⟩
theorem IR.m {x : Mem} {n rc : Nat} {rt rp rv : Nat → Nat} (h : IR x n rc rt rp rv) : RM x n rc rt rp rv := ⟨h.2.1, h.2.2.1, fun r hr => ⟨(h.2.2.2.1 r hr).2.1, (h.2.2.2.1 r hr).2.2.2.1, (h.2.2.2.1 r hr).2.2.2.2.2⟩, h.2.2.2.2⟩
section
variable {d : Nat} {Q : Option AV → Mem → Prop} {x : Mem}
theorem k_areC {n l ro g rc : Nat} {kd rk wt wm hs rt rp rv : Nat → Nat} (hC : IC x n l ro g kd rk wt wm hs) (hn : n ≤ 8) (hgr : g ≤ ro) (hro : ro ≤ 4) (hB : BD kd rk wt wm hs) (hl : l < 2 ^ 20) (hR : RC x n rc rt rp rv)
    (h1 : ∀ x', FR [4, 5] x x' → SOp kd rk wt wm hs n g ro l rc rt rp rv → Q (some (vi 1)) x') (h0 : ∀ x', FR [4, 5] x x' → ¬ SOp kd rk wt wm hs n g ro l rc rt rp rv → Q (some (vi 0)) x') : CC (d + 5) 76 [vr 0 0] x Q := by
  have hp := pow8 hn
  have key : ∀ (r i : Nat) (z : Mem), i + r = rc → FR [4, 5] x z → (∀ u, u < i → nI ((fin kd rk wt wm hs n (rp u) g ro l).1 (rt u)) - nI (hs (rt u)) = nI (rv u)) → AT 76 (d + 4) Q 2 [vr 0 0, vi (nI i)] z := by
    intro r
    induction r with
    | zero =>
      intro i z hi hf hs'
      have e : i = rc := by omega
      subst e
      exact vcl_X5_areReadingsSo_2 ⟨fun _ => ⟨z1, h1 z hf hs'⟩, fun q => absurd (by rw [hf 9 (by decide), hR.1]; exact nI_le (Nat.le_refl _) (by have := hR.2.1; omega)) q⟩
    | succ r ih =>
      intro i z hi hf hs'
      have hi8 : i < 8 := by have := hR.2.1; omega
      have hirc : i < rc := by omega
      obtain ⟨a1, a2, a3⟩ := hR.2.2.1 i hi8
      obtain ⟨b1, b2, b3⟩ := hR.2.2.2 i hirc
      have hCz := hC.fs (FS.ofR hf)
      refine vcl_X5_areReadingsSo_2 ⟨fun q => absurd (by rw [hf 9 (by decide), hR.1] at q; exact q) (nI_ge hirc (by have := hR.2.1; omega)), fun _ => ⟨in8 hi8 (by omega), ?_⟩⟩
      rw [cl8 hi8, hf 11 (by decide), a2, hCz.2.1]
      refine k_goAll hB (by omega) hl (hCz.tv hn) hCz.2.2.1 hCz.2.2.2.1 hgr hro (fun x1 hf1 hS1 => ⟨in8 hi8 (by omega), ?_⟩)
      have hf2 := hf.tr hf1
      rw [hf2 10 (by decide), a1]
      refine k_takenBy ((hC.fs (FS.ofR hf2)).tv hn) b1 hS1 ⟨in8 hi8 (by omega), ?_⟩
      rw [hf2 12 (by decide), a3]
      refine ⟨fun q => ?_, fun q => ⟨z0, h0 x1 hf2 (fun hso => q (hso i hirc))⟩⟩
      rw [nI_1]
      refine ih (i + 1) x1 (by omega) hf2 (fun u hu => ?_)
      by_cases e : u = i
      · subst e; exact q
      · exact hs' u (by omega)
  exact vc_X5_areReadingsSo (key rc 0 x (by omega) FR.rf (fun u hu => absurd hu (Nat.not_lt_zero u)))
theorem k_areM {n l ro g rc : Nat} {kd rk wt wm hs rt rp rv : Nat → Nat} (hM : IM x n l ro g kd rk wt wm hs) (hn : n ≤ 8) (hgr : g ≤ ro) (hro : ro ≤ 4) (hB : BD kd rk wt wm hs) (hl : l < 2 ^ 20) (hR : RM x n rc rt rp rv)
    (h1 : ∀ x', FM KS JS x x' → SOp kd rk wt wm hs n g ro l rc rt rp rv → Q (some (vi 1)) x') (h0 : ∀ x', FM KS JS x x' → ¬ SOp kd rk wt wm hs n g ro l rc rt rp rv → Q (some (vi 0)) x') : CC (d + 4) 125 [vr 13 0] x Q := by
  have hp := pow8 hn
  have key : ∀ (r i : Nat) (z : Mem) (l1 : Int32), i + r = rc → FM KS JS x z → ((l1 = 1 ∧ ∀ u, u < i → nI ((fin kd rk wt wm hs n (rp u) g ro l).1 (rt u)) - nI (hs (rt u)) = nI (rv u)) ∨ (l1 = 0 ∧ ¬ SOp kd rk wt wm hs n g ro l rc rt rp rv)) → AT 125 (d + 3) Q 4 [vr 13 0, vi l1, vi (nI i)] z := by
    intro r
    induction r with
    | zero =>
      intro i z l1 hi hf hs'
      have e : i = rc := by omega
      subst e
      refine vcl_X6_areSo_4 ⟨fun _ => ?_, fun q => absurd (by rw [hf.2 24 (by decide), hR.1]; exact nI_le (Nat.le_refl _) (by have := hR.2.1; omega)) q⟩
      rcases hs' with ⟨rfl, hs'⟩ | ⟨rfl, hs'⟩
      · exact ⟨z1, h1 z hf hs'⟩
      · exact ⟨z0, h0 z hf hs'⟩
    | succ r ih =>
      intro i z l1 hi hf hs'
      have hi8 : i < 8 := by have := hR.2.1; omega
      have hirc : i < rc := by omega
      obtain ⟨a1, a2, a3⟩ := hR.2.2.1 i hi8
      obtain ⟨b1, b2, b3⟩ := hR.2.2.2 i hirc
      have hMz := hM.fs (FS.ofM hf)
      refine vcl_X6_areSo_4 ⟨fun q => absurd (by rw [hf.2 24 (by decide), hR.1] at q; exact q) (nI_ge hirc (by have := hR.2.1; omega)), fun _ => ⟨in8 hi8 (by omega), ?_⟩⟩
      rw [cl8 hi8, hf.1 27 (by decide), a2, hMz.2.1]
      refine k_runs hB (by omega) hl (hMz.tm hn) hMz.2.2.1 hMz.2.2.2.1 hgr hro (fun x1 hf1 hS1 => ?_)
      have hf2 := hf.tr hf1
      have ht8 : rt i < 8 := by omega
      dsimp only [rN]
      rw [hf2.1 26 (by decide), a1, cl8 ht8, hf2.1 28 (by decide), a3, hS1.1 _ b1, ((hM.fs (FS.ofM hf2)).2.2.2.2 _ ht8).2.2.2.2, nI_1]
      rcases hs' with ⟨rfl, hs'⟩ | ⟨rfl, hs'⟩
      · refine e1 ⟨in8 hi8 (by omega), in8 ht8 (by omega), in8 hi8 (by omega), in8 ht8 (by omega), in8 hi8 (by omega), fun q => ?_, fun q => ?_⟩
        · exact ih (i + 1) x1 0 (by omega) hf2 (Or.inr ⟨rfl, fun hso => q (hso i hirc)⟩)
        · refine ih (i + 1) x1 1 (by omega) hf2 (Or.inl ⟨rfl, fun u hu => ?_⟩)
          by_cases e : u = i
          · subst e; exact q
          · exact hs' u (by omega)
      · exact e0 (ih (i + 1) x1 0 (by omega) hf2 (Or.inr ⟨rfl, hs'⟩))
  exact vc_X6_areSo (key rc 0 x 1 (by omega) FM.rf (Or.inl ⟨rfl, fun u hu => absurd hu (Nat.not_lt_zero u)⟩))
theorem k_fitting {n l ro g rc j N t : Nat} {tr m : Int32} {rt rp rv wm hs : Nat → Nat} {kdv rkv wtv : Nat → Nat → Nat} (hm : m = nI (N - 1)) (hN : 0 < N ∧ N ≤ 10) (ht : t < n) (hn6 : x 6 0 1 = nI n) (hn : n ≤ 8) (h7 : ∀ t, t < 8 → x 7 0 t = nI t) (hgr : g ≤ ro) (hro : ro ≤ 4) (hl : l < 2 ^ 20)
    (hTr : ∀ {y : Mem} {R : Option AV → Mem → Prop} {q : Nat}, R (some (vi (y 8 q j))) y → CC (d + 5) 1 [vr 8 q, vi tr] y R) (hBe : ∀ {y : Mem} {R : Option AV → Mem → Prop} {q : Nat} {w : Int32}, R none (up y 8 q j w) → CC (d + 5) 2 [vr 8 q, vi tr, vi w] y R)
    (hIC : ∀ v, v < N → IC (up x 8 t j (nI v)) n l ro g (kdv v) (rkv v) (wtv v) wm hs) (hBD : ∀ v, v < N → BD (kdv v) (rkv v) (wtv v) wm hs) (hR : RC x n rc rt rp rv)
    (hq : ∀ x', FR [4, 5] x x' → Q (some (vi (nI (fsF (fun v => SOp (kdv v) (rkv v) (wtv v) wm hs n g ro l rc rt rp rv) N)))) x') : CC (d + 6) 75 [vr 0 0, vi (nI t), vi tr, vi m] x Q := by
  have ht8 : t < 8 := by omega
  have e7 : (x 7 0 (nI t).toNatClampNeg).toNatClampNeg = t := by rw [cl8 ht8, h7 t ht8, cl8 ht8]
  refine vc_X5_fitting (k_hasTable hn6 hn (fun _ => n1 ⟨in8 ht8 (by omega), by rw [e7]; exact ht8, ?_⟩) (fun q => absurd (in8 ht (by omega)) q))
  rw [e7]
  refine hTr ?_
  have key : ∀ (r v : Nat) (z : Mem) (w : Int32), v + r = N → FR [4, 5] (up x 8 t j w) z → AT 75 (d + 5) Q 38 [vr 0 0, vi (nI t), vi tr, vi m, vr 8 t, vi (x 8 t j), vi (nI (fsF (fun v => SOp (kdv v) (rkv v) (wtv v) wm hs n g ro l rc rt rp rv) v)), vi (nI v)] z := by
    intro r
    induction r with
    | zero =>
      intro v z w hv hf
      have e : v = N := by omega
      subst e
      refine vcl_X5_fitting_38 ⟨fun _ => hBe (hq _ ?_), fun q => absurd (by rw [hm]; exact nI_lt (by omega) (by omega)) q⟩
      have := upup_R (w := x 8 t j) hf
      rw [up_same] at this
      exact this
    | succ r ih =>
      intro v z w hv hf
      have hvN : v < N := by omega
      refine vcl_X5_fitting_38 ⟨fun q => absurd (by rw [hm] at q; exact q) (nI_nlt (by omega) (by omega)), fun _ => hBe ?_⟩
      have hf1 := upup_R (w := nI v) hf
      have hC1 := (hIC v hvN).fs (FS.ofR hf1)
      have hR1 : RC (up z 8 t j (nI v)) n rc rt rp rv := by
        unfold RC at hR ⊢
        rw [hf1 9 (by decide), hf1 10 (by decide), hf1 11 (by decide), hf1 12 (by decide), up_k (by decide), up_k (by decide), up_k (by decide), up_k (by decide)]
        exact hR
      refine k_areC hC1 hn hgr hro (hBD v hvN) hl hR1 (fun x' hf2 hso => e1 ?_) (fun x' hf2 hso => e0 ?_)
      · have := ih (v + 1) x' (nI v) (by omega) (hf1.tr hf2)
        rw [fsF_y hso] at this
        rw [shl_v v (by omega), fa_or, nI_1]
        exact this
      · have := ih (v + 1) x' (nI v) (by omega) (hf1.tr hf2)
        rw [fsF_n hso] at this
        rw [show (0 : Int32) = nI 0 from rfl, fa_or, Nat.or_zero, nI_1]
        exact this
  exact key N 0 x (x 8 t j) (by omega) (by rw [up_same]; exact FR.rf)
theorem k_fitM {n l ro g rc K N t mm : Nat} {rt rp rv wm hs : Nat → Nat} {kdv rkv wtv : Nat → Nat → Nat} (hN : 0 < N ∧ N ≤ 10) (hK : 13 ≠ K ∧ K ∉ 13 :: KS ∧ K ≠ 26 ∧ K ≠ 27 ∧ K ≠ 28) (ht : t < n) (hn : n ≤ 8) (hgr : g ≤ ro) (hro : ro ≤ 4) (hl : l < 2 ^ 20)
    (hvc : ∀ {z : Mem} {l1 l2 l3 l4 : Int32}, ((nI N ≤ l4 → (vp_in l1 8 ∧ Q (some (vi l3)) (up z K 0 (Int32.toNatClampNeg l1) l2))) ∧ (¬ nI N ≤ l4 → (vp_in l1 8 ∧ CC (d + 4) 125 [vr 13 0] (up z K 0 (Int32.toNatClampNeg l1) l4) fun v1 x1 => rI v1 fun r1 => ((r1 = 0 → AT mm (d + 4) Q 22 [vr 13 0, vi l1, vi l2, vi (l3 ||| (0 : Int32)), vi (l4 + (1 : Int32))] x1) ∧ (¬ r1 = 0 → AT mm (d + 4) Q 22 [vr 13 0, vi l1, vi l2, vi (l3 ||| ((1 : Int32) <<< (l4 &&& 31))), vi (l4 + (1 : Int32))] x1))))) → AT mm (d + 4) Q 22 [vr 13 0, vi l1, vi l2, vi l3, vi l4] z)
    (hIM : ∀ v, v < N → IM (up x K 0 t (nI v)) n l ro g (kdv v) (rkv v) (wtv v) wm hs) (hBD : ∀ v, v < N → BD (kdv v) (rkv v) (wtv v) wm hs) (hR : RM x n rc rt rp rv)
    (hq : ∀ x', FM KS JS x x' → Q (some (vi (nI (fsF (fun v => SOp (kdv v) (rkv v) (wtv v) wm hs n g ro l rc rt rp rv) N)))) x') : AT mm (d + 4) Q 22 [vr 13 0, vi (nI t), vi (x K 0 t), vi 0, vi 0] x := by
  have ht8 : t < 8 := by omega
  have key : ∀ (r v : Nat) (z : Mem) (w : Int32), v + r = N → FM KS JS (up x K 0 t w) z → AT mm (d + 4) Q 22 [vr 13 0, vi (nI t), vi (x K 0 t), vi (nI (fsF (fun v => SOp (kdv v) (rkv v) (wtv v) wm hs n g ro l rc rt rp rv) v)), vi (nI v)] z := by
    intro r
    induction r with
    | zero =>
      intro v z w hv hf
      have e : v = N := by omega
      subst e
      refine hvc ⟨fun _ => ⟨in8 ht8 (by omega), ?_⟩, fun q => absurd (nI_le (Nat.le_refl _) (by omega)) q⟩
      rw [cl8 ht8]
      refine hq _ ?_
      have := hf.upup (w := x K 0 t) hK.1
      rw [up_same] at this
      exact this
    | succ r ih =>
      intro v z w hv hf
      have hvN : v < N := by omega
      refine hvc ⟨fun q => absurd q (nI_ge hvN (by omega)), fun _ => ⟨in8 ht8 (by omega), ?_⟩⟩
      rw [cl8 ht8]
      have hf1 := hf.upup (w := nI v) hK.1
      have hM1 := (hIM v hvN).fs (FS.ofM hf1)
      have hR1 : RM (up z K 0 t (nI v)) n rc rt rp rv := by
        unfold RM at hR ⊢
        rw [hf1.2 24 (by decide), hf1.1 26 (by decide), hf1.1 27 (by decide), hf1.1 28 (by decide), up_k hK.1, up_k (fun q => hK.2.2.1 q.symm), up_k (fun q => hK.2.2.2.1 q.symm), up_k (fun q => hK.2.2.2.2 q.symm)]
        exact hR
      refine k_areM hM1 hn hgr hro (hBD v hvN) hl hR1 (fun x' hf2 hso => e1 ?_) (fun x' hf2 hso => e0 ?_)
      · have := ih (v + 1) x' (nI v) (by omega) (hf1.tr hf2)
        rw [fsF_y hso] at this
        rw [shl_v v (by omega), fa_or, nI_1]
        exact this
      · have := ih (v + 1) x' (nI v) (by omega) (hf1.tr hf2)
        rw [fsF_n hso] at this
        rw [show (0 : Int32) = nI 0 from rfl, fa_or, Nat.or_zero, nI_1]
        exact this
  exact key N 0 x (x K 0 t) (by omega) (by rw [up_same]; exact FM.rf)
theorem IC.u0 {n l ro g t u : Nat} {kd rk wt wm hs : Nat → Nat} (h : IC x n l ro g kd rk wt wm hs) : IC (up x 8 t 0 (nI u)) n l ro g (updN kd t u) rk wt wm hs := ⟨h.1, h.2.1, h.2.2.1, h.2.2.2.1, fun t' ht' => by
  obtain ⟨a, b, c, e, f, i⟩ := h.2.2.2.2 t' ht'
  by_cases q : t' = t
  · subst q; simp [up_app, updN, *]
  · simp [up_app, updN, *]⟩
theorem IC.u2 {n l ro g t u : Nat} {kd rk wt wm hs : Nat → Nat} (h : IC x n l ro g kd rk wt wm hs) : IC (up x 8 t 2 (nI u)) n l ro g kd rk (updN wt t u) wm hs := ⟨h.1, h.2.1, h.2.2.1, h.2.2.2.1, fun t' ht' => by
  obtain ⟨a, b, c, e, f, i⟩ := h.2.2.2.2 t' ht'
  by_cases q : t' = t
  · subst q; simp [up_app, updN, *]
  · simp [up_app, updN, *]⟩
theorem IM.u0 {n l ro g t u : Nat} {kd rk wt wm hs : Nat → Nat} (h : IM x n l ro g kd rk wt wm hs) : IM (up x 14 0 t (nI u)) n l ro g (updN kd t u) rk wt wm hs := ⟨h.1, h.2.1, h.2.2.1, h.2.2.2.1, fun t' ht' => by
  obtain ⟨a, b, c, e, f⟩ := h.2.2.2.2 t' ht'
  by_cases q : t' = t
  · subst q; simp [up_app, updN, *]
  · simp [up_app, updN, *]⟩
theorem IM.u2 {n l ro g t u : Nat} {kd rk wt wm hs : Nat → Nat} (h : IM x n l ro g kd rk wt wm hs) : IM (up x 16 0 t (nI u)) n l ro g kd rk (updN wt t u) wm hs := ⟨h.1, h.2.1, h.2.2.1, h.2.2.2.1, fun t' ht' => by
  obtain ⟨a, b, c, e, f⟩ := h.2.2.2.2 t' ht'
  by_cases q : t' = t
  · subst q; simp [up_app, updN, *]
  · simp [up_app, updN, *]⟩
theorem BD.u0 {t u : Nat} {kd rk wt wm hs : Nat → Nat} (h : BD kd rk wt wm hs) (hu : u ≤ 2) : BD (updN kd t u) rk wt wm hs := fun t' ht' => by
  obtain ⟨a, b, c, e, f⟩ := h t' ht'
  refine ⟨?_, b, c, e, f⟩
  unfold updN; split <;> assumption
theorem BD.u1 {t u : Nat} {kd rk wt wm hs : Nat → Nat} (h : BD kd rk wt wm hs) (hu : u ≤ 9) : BD kd (updN rk t u) wt wm hs := fun t' ht' => by
  obtain ⟨a, b, c, e, f⟩ := h t' ht'
  refine ⟨a, ?_, c, e, f⟩
  unfold updN; split <;> assumption
theorem BD.u2 {t u : Nat} {kd rk wt wm hs : Nat → Nat} (h : BD kd rk wt wm hs) (hu : u ≤ 9) : BD kd rk (updN wt t u) wm hs := fun t' ht' => by
  obtain ⟨a, b, c, e, f⟩ := h t' ht'
  refine ⟨a, b, ?_, e, f⟩
  unfold updN; split <;> assumption
theorem k_trait0 {q : Nat} (h : Q (some (vi (x 8 q 0))) x) : CC (d + 1) 1 [vr 8 q, vi 0] x Q := vc_X4_trait ⟨fun c => absurd c (by decide), fun _ => h, fun c => absurd c (by decide), fun c => absurd c (by decide), fun c => absurd c (by decide), fun c => absurd c (by decide), trivial⟩
theorem k_trait2 {q : Nat} (h : Q (some (vi (x 8 q 2))) x) : CC (d + 1) 1 [vr 8 q, vi 2] x Q := vc_X4_trait ⟨fun c => absurd c (by decide), fun c => absurd c (by decide), fun c => absurd c (by decide), fun _ => h, fun c => absurd c (by decide), fun c => absurd c (by decide), trivial⟩
theorem k_become0 {q : Nat} {v : Int32} (h : Q none (up x 8 q 0 v)) : CC (d + 1) 2 [vr 8 q, vi 0, vi v] x Q := vc_X4_become ⟨fun c => absurd c (by decide), fun _ => h, fun c => absurd c (by decide), fun c => absurd c (by decide), fun c => absurd c (by decide), trivial⟩
theorem k_become2 {q : Nat} {v : Int32} (h : Q none (up x 8 q 2 v)) : CC (d + 1) 2 [vr 8 q, vi 2, vi v] x Q := vc_X4_become ⟨fun c => absurd c (by decide), fun c => absurd c (by decide), fun c => absurd c (by decide), fun _ => h, fun c => absurd c (by decide), trivial⟩
theorem k_fit0 {n : Nat} {tr m a : Int32} (hn6 : x 6 0 1 = nI n) (hn : n ≤ 8) (ha : ¬ vp_in a n) (h : Q (some (vi (-1))) x) : CC (d + 2) 75 [vr 0 0, vi a, vi tr, vi m] x Q := vc_X5_fitting (k_hasTable hn6 hn (fun q => absurd q ha) (fun _ => n0 h))
theorem op_ranks {a : Int32} (h : Inv x) : OP 45 126 [vr 0 0, vi a] [vr 13 0, vi a] x := by
  obtain ⟨n, l, ro, g, kd, rk, wt, wm, hs, hC, hM, hB, ⟨rc, rt, rp, rv, hR⟩, hS, hT⟩ := id h
  have hn := hB.1
  have hl : l < 2 ^ 20 := by have := hB.2.2.2.2; omega
  by_cases c : vp_in a n
  · obtain ⟨t, ht, rfl⟩ := vp_ex c (by omega)
    refine vc_X5_ranks (k_fitting (j := 1) (N := 10) (kdv := fun _ => kd) (rkv := fun v => updN rk t v) (wtv := fun _ => wt) rfl ⟨by omega, by omega⟩ ht hC.1 hn (fun t ht => (hC.2.2.2.2 t ht).1) hB.2.1 hB.2.2.1 hl (fun hh => k_trait1 hh) (fun hh => k_become1 hh) (fun v hv => hC.u1) (fun v hv => hB.bd.u1 (by omega)) hR.c (fun x1 hf => ⟨_, rfl, ?_⟩))
    have hf1 := FS.ofR hf
    have hM1 := hM.fs hf1
    have hR1 : RM x1 n rc rt rp rv := by
      have := hR.m; unfold RM at this ⊢; rw [hf 13 (by decide), hf 26 (by decide), hf 27 (by decide), hf 28 (by decide)]; exact this
    refine vc_X6_ranks (k_noTable hM1.1 hn (fun _ => e0 ⟨in8 (by omega) (by omega), ?_⟩) (fun q => absurd c q))
    rw [cl8 (by omega)]
    exact k_fitM (K := 15) (N := 10) (kdv := fun _ => kd) (rkv := fun v => updN rk t v) (wtv := fun _ => wt) ⟨by omega, by omega⟩ (by decide) ht hn hB.2.1 hB.2.2.1 hl (fun hh => vcl_X6_ranks_22 hh) (fun v hv => hM1.u1) (fun v hv => hB.bd.u1 (by omega)) hR1 (fun x2 hf2 => ⟨rfl, h.fs (hf1.tr (FS.ofM hf2))⟩)
  · exact vc_X5_ranks (k_fit0 hC.1 hn c ⟨_, rfl, vc_X6_ranks (k_noTable hM.1 hn (fun q => absurd q c) (fun _ => e1 ⟨rfl, h⟩))⟩)
theorem op_kinds {a : Int32} (h : Inv x) : OP 46 127 [vr 0 0, vi a] [vr 13 0, vi a] x := by
  obtain ⟨n, l, ro, g, kd, rk, wt, wm, hs, hC, hM, hB, ⟨rc, rt, rp, rv, hR⟩, hS, hT⟩ := id h
  have hn := hB.1
  have hl : l < 2 ^ 20 := by have := hB.2.2.2.2; omega
  by_cases c : vp_in a n
  · obtain ⟨t, ht, rfl⟩ := vp_ex c (by omega)
    refine vc_X5_kinds (k_fitting (j := 0) (N := 3) (kdv := fun v => updN kd t v) (rkv := fun _ => rk) (wtv := fun _ => wt) rfl ⟨by omega, by omega⟩ ht hC.1 hn (fun t ht => (hC.2.2.2.2 t ht).1) hB.2.1 hB.2.2.1 hl (fun hh => k_trait0 hh) (fun hh => k_become0 hh) (fun v hv => hC.u0) (fun v hv => hB.bd.u0 (by omega)) hR.c (fun x1 hf => ⟨_, rfl, ?_⟩))
    have hf1 := FS.ofR hf
    have hM1 := hM.fs hf1
    have hR1 : RM x1 n rc rt rp rv := by
      have := hR.m; unfold RM at this ⊢; rw [hf 13 (by decide), hf 26 (by decide), hf 27 (by decide), hf 28 (by decide)]; exact this
    refine vc_X6_kinds (k_noTable hM1.1 hn (fun _ => e0 ⟨in8 (by omega) (by omega), ?_⟩) (fun q => absurd c q))
    rw [cl8 (by omega)]
    exact k_fitM (K := 14) (N := 3) (kdv := fun v => updN kd t v) (rkv := fun _ => rk) (wtv := fun _ => wt) ⟨by omega, by omega⟩ (by decide) ht hn hB.2.1 hB.2.2.1 hl (fun hh => vcl_X6_kinds_22 hh) (fun v hv => hM1.u0) (fun v hv => hB.bd.u0 (by omega)) hR1 (fun x2 hf2 => ⟨rfl, h.fs (hf1.tr (FS.ofM hf2))⟩)
  · exact vc_X5_kinds (k_fit0 hC.1 hn c ⟨_, rfl, vc_X6_kinds (k_noTable hM.1 hn (fun q => absurd q c) (fun _ => e1 ⟨rfl, h⟩))⟩)
theorem op_wants {a : Int32} (h : Inv x) : OP 47 128 [vr 0 0, vi a] [vr 13 0, vi a] x := by
  obtain ⟨n, l, ro, g, kd, rk, wt, wm, hs, hC, hM, hB, ⟨rc, rt, rp, rv, hR⟩, hS, hT⟩ := id h
  have hn := hB.1
  have hl : l < 2 ^ 20 := by have := hB.2.2.2.2; omega
  by_cases c : vp_in a n
  · obtain ⟨t, ht, rfl⟩ := vp_ex c (by omega)
    refine vc_X5_wants (k_fitting (j := 2) (N := 10) (kdv := fun _ => kd) (rkv := fun _ => rk) (wtv := fun v => updN wt t v) rfl ⟨by omega, by omega⟩ ht hC.1 hn (fun t ht => (hC.2.2.2.2 t ht).1) hB.2.1 hB.2.2.1 hl (fun hh => k_trait2 hh) (fun hh => k_become2 hh) (fun v hv => hC.u2) (fun v hv => hB.bd.u2 (by omega)) hR.c (fun x1 hf => ⟨_, rfl, ?_⟩))
    have hf1 := FS.ofR hf
    have hM1 := hM.fs hf1
    have hR1 : RM x1 n rc rt rp rv := by
      have := hR.m; unfold RM at this ⊢; rw [hf 13 (by decide), hf 26 (by decide), hf 27 (by decide), hf 28 (by decide)]; exact this
    refine vc_X6_wants (k_noTable hM1.1 hn (fun _ => e0 ⟨in8 (by omega) (by omega), ?_⟩) (fun q => absurd c q))
    rw [cl8 (by omega)]
    exact k_fitM (K := 16) (N := 10) (kdv := fun _ => kd) (rkv := fun _ => rk) (wtv := fun v => updN wt t v) ⟨by omega, by omega⟩ (by decide) ht hn hB.2.1 hB.2.2.1 hl (fun hh => vcl_X6_wants_22 hh) (fun v hv => hM1.u2) (fun v hv => hB.bd.u2 (by omega)) hR1 (fun x2 hf2 => ⟨rfl, h.fs (hf1.tr (FS.ofM hf2))⟩)
  · exact vc_X5_wants (k_fit0 hC.1 hn c ⟨_, rfl, vc_X6_wants (k_noTable hM.1 hn (fun q => absurd q c) (fun _ => e1 ⟨rfl, h⟩))⟩)
end
