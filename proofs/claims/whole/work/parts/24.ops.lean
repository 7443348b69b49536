/-! calls: swap, odds, plan -/
def sg (a b t : Nat) : Nat := if t = b then a else if t = a then b else t
theorem sg_sg (a b t : Nat) : sg a b (sg a b t) = t := by
  unfold sg
  by_cases h1 : t = b
  · rw [if_pos h1]
    by_cases h2 : a = b
    · rw [if_pos h2, h1, h2]
    · rw [if_neg h2, if_pos rfl, h1]
  · rw [if_neg h1]
    by_cases h2 : t = a
    · rw [if_pos h2, if_pos rfl, h2]
    · rw [if_neg h2, if_neg h1, if_neg h2]
theorem sg_lt {a b t n : Nat} (ha : a < n) (hb : b < n) (ht : t < n) : sg a b t < n := by
  unfold sg
  split
  · exact ha
  · split
    · exact hb
    · exact ht
theorem f_sg (f : Nat → Nat) (a b : Nat) : (fun t => f (sg a b (sg a b t))) = f := funext fun t => by rw [sg_sg]
/-- the first pair by whose change most are sweet -/
def pst (f : Nat → Nat → Nat) (a b : Nat) (s : Nat × Option (Nat × Nat)) : Nat × Option (Nat × Nat) := if s.1 < f a b then (f a b, some (a, b)) else s
def p_lo (o : Option (Nat × Nat)) : Int32 := match o with | none => -9 | some q => nI q.1
def p_hi (o : Option (Nat × Nat)) : Int32 := match o with | none => -9 | some q => nI q.2
def p_in (f : Nat → Nat → Nat) (a b : Nat) : Nat → Nat × Option (Nat × Nat) → Nat × Option (Nat × Nat)
  | 0, s => s
  | r + 1, s => p_in f a (b + 1) r (pst f a b s)
def p_out (f : Nat → Nat → Nat) (n a : Nat) : Nat → Nat × Option (Nat × Nat) → Nat × Option (Nat × Nat)
  | 0, s => s
  | r + 1, s => p_out f n (a + 1) r (p_in f a (a + 1) (n - (a + 1)) s)
def p_an (w : Int32) (s : Nat × Option (Nat × Nat)) : Int32 := if s.2 = none then -9 else if w = 0 then nI s.1 else if w = 1 then p_lo s.2 else p_hi s.2
/-- what a pair's places are worth: below 8 -/
def p_ok (s : Nat × Option (Nat × Nat)) : Prop := s.1 ≤ 8 ∧ ∀ q, s.2 = some q → q.1 < 8 ∧ q.2 < 8
theorem p_ok_st {f : Nat → Nat → Nat} {a b : Nat} {s : Nat × Option (Nat × Nat)} (hf : f a b ≤ 8) (ha : a < 8) (hb : b < 8) (h : p_ok s) : p_ok (pst f a b s) := by
  unfold pst
  split
  · exact ⟨hf, fun q e => by
      have : q = (a, b) := (Option.some.inj e).symm
      subst this; exact ⟨ha, hb⟩⟩
  · exact h
theorem lo_9 {s : Nat × Option (Nat × Nat)} (h : p_ok s) : p_lo s.2 = -9 ↔ s.2 = none := by
  rcases e : s.2 with _ | q
  · exact ⟨fun _ => rfl, fun _ => rfl⟩
  · have := h.2 q e
    constructor
    · intro w
      exact absurd w (by
        show ¬ nI q.1 = -9
        intro z
        have : ¬ nI q.1 < 0 := nI_pos (by omega)
        rw [z] at this
        exact this (by decide))
    · intro w; exact absurd w (by simp)
theorem lo_0 {s : Nat × Option (Nat × Nat)} (h : p_ok s) : (0 : Int32) ≤ p_lo s.2 ↔ s.2 ≠ none := by
  rcases e : s.2 with _ | q
  · exact ⟨fun w => absurd w (by decide), fun w => absurd rfl w⟩
  · have := h.2 q e
    exact ⟨fun _ => by simp, fun _ => (nI_leI (a := 0) (by omega) (by omega)).mpr (Nat.zero_le _)⟩
section
variable {d : Nat} {Q : Option AV → Mem → Prop} {x : Mem}
theorem k_exchange {a b : Nat} {τ : Nat → Nat} (ha : a < 8) (hb : b < 8) (h7 : ∀ t, t < 8 → x 7 0 t = nI (τ t)) (hτ : ∀ t, t < 8 → τ t < 8) (hq : ∀ x', FR [7] x x' → (∀ t, t < 8 → x' 7 0 t = nI (τ (sg a b t))) → Q none x') : CC (d + 1) 20 [vr 6 0, vi (nI a), vi (nI b)] x Q := by
  refine vc_X0_exchange ?_
  rw [cl8 ha, cl8 hb, h7 a ha, h7 b hb, cl8 (hτ a ha), cl8 (hτ b hb)]
  refine ⟨in8 ha (by omega), hτ a ha, in8 hb (by omega), hτ b hb, in8 ha (by omega), in8 hb (by omega), hq _ ((FR.rf.up (by decide)).up (by decide)) (fun t ht => ?_)⟩
  rw [up_app, up_app, h7 t ht]
  unfold sg
  by_cases h1 : t = b
  · rw [if_pos ⟨rfl, rfl, h1⟩, if_pos h1]
  · rw [if_neg (fun w => h1 w.2.2), if_neg h1]
    by_cases h2 : t = a
    · rw [if_pos ⟨rfl, rfl, h2⟩, if_pos h2]
    · rw [if_neg (fun w => h2 w.2.2), if_neg h2]
theorem k_trade {n l ro g a b : Nat} {kd rk wt wm hs : Nat → Nat} (ha : a < 8) (hb : b < 8) (hM : IM x n l ro g kd rk wt wm hs) (hq : ∀ x', FR [14, 15, 16, 17, 18] x x' → IM x' n l ro g (fun t => kd (sg a b t)) (fun t => rk (sg a b t)) (fun t => wt (sg a b t)) (fun t => wm (sg a b t)) (fun t => hs (sg a b t)) → Q none x') : CC (d + 1) 121 [vr 13 0, vi (nI a), vi (nI b)] x Q := by
  refine vc_X6_trade ?_
  rw [cl8 ha, cl8 hb]
  have ia : vp_in (nI a) 8 := in8 ha (by omega)
  have ib : vp_in (nI b) 8 := in8 hb (by omega)
  refine ⟨ia, ia, ia, ia, ia, ib, ia, ib, ia, ib, ia, ib, ia, ib, ia, ib, ib, ib, ib, ib, hq _ ((((((((((FR.rf.up (by decide)).up (by decide)).up (by decide)).up (by decide)).up (by decide)).up (by decide)).up (by decide)).up (by decide)).up (by decide)).up (by decide)) ⟨hM.1, hM.2.1, hM.2.2.1, hM.2.2.2.1, fun t ht => ?_⟩⟩
  obtain ⟨a0, a1, a2, a3, a4⟩ := hM.2.2.2.2 a ha
  obtain ⟨b0, b1, b2, b3, b4⟩ := hM.2.2.2.2 b hb
  obtain ⟨t0, t1, t2, t3, t4⟩ := hM.2.2.2.2 t ht
  by_cases h1 : t = b
  · subst h1
    simp [up_app, sg, *]
  · by_cases h2 : t = a
    · subst h2
      simp [up_app, sg, *]
    · simp [up_app, sg, *]
theorem op_swap {w : Int32} (h : Inv x) : OP 42 122 [vr 0 0, vi w] [vr 13 0, vi w] x := by
  obtain ⟨n, l, ro, g, kd, rk, wt, wm, hs, hC, hM, hB, ⟨rc, rt, rp, rv, hR⟩, hS, hT⟩ := id h
  have hn := hB.1
  have hp := pow8 hn
  have hl : l < 2 ^ 20 := by have := hB.2.2.2.2; omega
  refine vc_X5_swap (k_within (N := 3) rfl (fun ca => n1 (k_stands hC.1 hn (fun c => n1 ?_) (fun c => n0 ⟨_, rfl, ?_⟩))) (fun ca => n0 ⟨_, rfl, ?_⟩))
  · generalize hf : (fun a b => pc (sw (fin (fun t => kd (sg a b t)) (fun t => rk (sg a b t)) (fun t => wt (sg a b t)) (fun t => wm (sg a b t)) (fun t => hs (sg a b t)) n 0 g ro l).1 (fun t => wt (sg a b t)) n)) = f
    have hfe : ∀ a b, pc (sw (fin (fun t => kd (sg a b t)) (fun t => rk (sg a b t)) (fun t => wt (sg a b t)) (fun t => wm (sg a b t)) (fun t => hs (sg a b t)) n 0 g ro l).1 (fun t => wt (sg a b t)) n) = f a b := fun a b => by rw [← hf]
    have hf8 : ∀ a b, f a b ≤ 8 := fun a b => by rw [← hfe]; exact pcr_le 8 _
    generalize hm0 : pc (sw (fin kd rk wt wm hs n 0 g ro l).1 wt n) = m0
    have hm8 : m0 ≤ 8 := by rw [← hm0]; exact pcr_le 8 _
    have hBs : ∀ a b, a < 8 → b < 8 → BD (fun t => kd (sg a b t)) (fun t => rk (sg a b t)) (fun t => wt (sg a b t)) (fun t => wm (sg a b t)) (fun t => hs (sg a b t)) := fun a b ha hb t ht => hB.bd (sg a b t) (sg_lt ha hb ht)
    have hWs : ∀ a b, a < 8 → b < 8 → ∀ t, t < n → hs (sg a b t) ≤ wt (sg a b t) := fun a b ha hb t ht => (hB.2.2.2.1 (sg a b t) (sg_lt ha hb (by omega))).2.2.2.2
    -- the reference
    have mm : ∀ (y : Mem), FR [4, 5, 7] x y → IC y n l ro g kd rk wt wm hs → CC 8 122 [vr 13 0, vi w] y fun v' x2 => v' = some (vi (p_an w (p_out f n 0 n (m0, none)))) ∧ Inv x2 := by
      intro y fy hCy
      have hMy : IM y n l ro g kd rk wt wm hs := hM.fr (by rw [fy 13 (by decide)]) (by rw [fy 13 (by decide)]) (by rw [fy 13 (by decide)]) (by rw [fy 13 (by decide)]) (fy 14 (by decide)) (fy 15 (by decide)) (fy 16 (by decide)) (fy 17 (by decide)) (fy 18 (by decide))
      have hIn : ∀ z, FM [14, 15, 16, 17, 18, 23, 24, 25] JS y z → IM z n l ro g kd rk wt wm hs → Inv z := fun z fz hz => by
        refine ⟨n, l, ro, g, kd, rk, wt, wm, hs, hCy.fr (fz.1 6 (by decide)) (fz.1 7 (by decide)) (fz.1 8 (by decide)), hz, hB, ⟨rc, rt, rp, rv, ?_⟩, ?_, ?_⟩
        · exact (hR.fr (fy 9 (by decide)) (by rw [fy 13 (by decide)]) (fy 10 (by decide)) (fy 11 (by decide)) (fy 12 (by decide)) (fy 26 (by decide)) (fy 27 (by decide)) (fy 28 (by decide))).fr (fz.1 9 (by decide)) (fz.2 24 (by decide)) (fz.1 10 (by decide)) (fz.1 11 (by decide)) (fz.1 12 (by decide)) (fz.1 26 (by decide)) (fz.1 27 (by decide)) (fz.1 28 (by decide))
        · exact (hS.fr (fy 1 (by decide)) (fy 2 (by decide)) (fy 3 (by decide)) (fy 29 (by decide)) (fy 30 (by decide)) (fy 31 (by decide))).fr (fz.1 1 (by decide)) (fz.1 2 (by decide)) (fz.1 3 (by decide)) (fz.1 29 (by decide)) (fz.1 30 (by decide)) (fz.1 31 (by decide))
        · exact (hT.fr (fy 0 (by decide)) (by rw [fy 13 (by decide)]) (by rw [fy 13 (by decide)])).fr (fz.1 0 (by decide)) (fz.2 32 (by decide)) (fz.2 0 (by decide))
      have inner : ∀ (r a b : Nat) (z : Mem) (s : Nat × Option (Nat × Nat)) (w7 : AV), b + r = n → a < n → FM [14, 15, 16, 17, 18, 23, 24, 25] JS y z → IM z n l ro g kd rk wt wm hs → p_ok s → (∀ z' w6 w7', FM [14, 15, 16, 17, 18, 23, 24, 25] JS y z' → IM z' n l ro g kd rk wt wm hs → p_ok (p_in f a b r s) → AT 122 7 (fun v' x2 => v' = some (vi (p_an w (p_out f n 0 n (m0, none)))) ∧ Inv x2) 48 [vr 13 0, vi w, vi (nI (p_in f a b r s).1), vi (p_lo (p_in f a b r s).2), vi (p_hi (p_in f a b r s).2), vi (nI (a + 1)), w6, w7'] z') → AT 122 7 (fun v' x2 => v' = some (vi (p_an w (p_out f n 0 n (m0, none)))) ∧ Inv x2) 63 [vr 13 0, vi w, vi (nI s.1), vi (p_lo s.2), vi (p_hi s.2), vi (nI a), vi (nI b), w7] z := by
        intro r
        induction r with
        | zero =>
          intro a b z s w7 hb ha fz hz ok hq
          have e : b = n := by omega
          subst e
          refine vcl_X6_swap_63 ⟨fun _ => ?_, fun q => absurd (by rw [hz.1]; exact nI_le (Nat.le_refl _) (by omega)) q⟩
          rw [nI_1]
          exact hq z _ _ fz hz ok
        | succ r ih =>
          intro a b z s w7 hb ha fz hz ok hq
          have hbn : b < n := by omega
          have ha8 : a < 8 := by omega
          have hb8 : b < 8 := by omega
          refine vcl_X6_swap_63 ⟨fun q => absurd (by rw [hz.1] at q; exact q) (nI_ge hbn (by omega)), fun _ => ?_⟩
          refine k_trade ha8 hb8 hz (fun z1 f1 hz1 => ?_)
          dsimp only [rN]
          rw [hz1.2.1]
          refine k_sweetBy (P := 0) (hBs a b ha8 hb8) (hWs a b ha8 hb8) (by omega) hl (hz1.tm hn) hz1.2.2.1 hz1.2.2.2.1 hB.2.1 hB.2.2.1 (fun z2 f2 => ?_)
          have hsw := sw_lt (h := (fin (fun t => kd (sg a b t)) (fun t => rk (sg a b t)) (fun t => wt (sg a b t)) (fun t => wm (sg a b t)) (fun t => hs (sg a b t)) n 0 g ro l).1) (wt := fun t => wt (sg a b t)) n
          refine k_bits (by omega) ?_
          rw [hfe]
          refine k_trade ha8 hb8 (hz1.fs (FS.ofM f2)) (fun z3 f3 hz3 => ?_)
          simp only [f_sg] at hz3
          have fz3 : FM [14, 15, 16, 17, 18, 23, 24, 25] JS y z3 := ((fz.tr ⟨fun k hk => f1 k (fun q => hk (by simp only [List.mem_cons, List.not_mem_nil, or_false] at q ⊢; omega)), fun j _ => by rw [f1 13 (by decide)]⟩).tr (f2.sub (by decide) (by decide))).tr ⟨fun k hk => f3 k (fun q => hk (by simp only [List.mem_cons, List.not_mem_nil, or_false] at q ⊢; omega)), fun j _ => by rw [f3 13 (by decide)]⟩
          dsimp only [rN]
          have s8 := ok.1
          have f8 := hf8 a b
          rw [nI_leI (by omega) (by omega), nI_1]
          have ok2 := p_ok_st (hf8 a b) ha8 hb8 ok
          have hq' := ih a (b + 1) z3 (pst f a b s) (vi (nI (f a b))) (by omega) ha fz3 hz3 ok2 hq
          unfold pst at hq'
          refine ⟨fun q => ⟨fun _ => ⟨fun _ => ?_, fun q2 => absurd q q2⟩, fun q2 => absurd q q2⟩, fun q => ⟨fun q2 => absurd q2 q, fun _ => ⟨fun q2 => absurd q2 q, fun _ => ?_⟩⟩⟩
          · rw [if_neg (by omega)] at hq'
            exact hq'
          · rw [if_pos (by omega)] at hq'
            exact hq'
      have outer : ∀ (r a : Nat) (z : Mem) (s : Nat × Option (Nat × Nat)) (w6 w7 : AV), a + r = n → FM [14, 15, 16, 17, 18, 23, 24, 25] JS y z → IM z n l ro g kd rk wt wm hs → p_ok s → p_out f n 0 n (m0, none) = p_out f n a r s → AT 122 7 (fun v' x2 => v' = some (vi (p_an w (p_out f n 0 n (m0, none)))) ∧ Inv x2) 48 [vr 13 0, vi w, vi (nI s.1), vi (p_lo s.2), vi (p_hi s.2), vi (nI a), w6, w7] z := by
        intro r
        induction r with
        | zero =>
          intro a z s w6 w7 ha fz hz ok he
          have e : a = n := by omega
          have hI := hIn z fz hz
          rw [he]
          show AT 122 7 (fun v' x2 => v' = some (vi (p_an w s)) ∧ Inv x2) 48 _ _
          refine vcl_X6_swap_48 ⟨fun _ => ⟨fun q => ?_, fun q => ?_⟩, fun q => absurd (by rw [hz.1, e]; exact nI_le (Nat.le_refl _) (by omega)) q⟩
          · rw [lo_0 ok] at q
            unfold p_an
            rw [if_neg q]
            exact ⟨fun c1 => ⟨fun c2 => ⟨by rw [if_neg c1, if_neg c2], hI⟩, fun c2 => ⟨by rw [if_neg c1, if_pos c2], hI⟩⟩, fun c1 => ⟨by rw [if_pos c1], hI⟩⟩
          · rw [lo_0 ok] at q
            unfold p_an
            exact ⟨by rw [if_pos (Classical.not_not.mp q)], hI⟩
        | succ r ih =>
          intro a z s w6 w7 ha fz hz ok he
          have han : a < n := by omega
          refine vcl_X6_swap_48 ⟨fun q => absurd (by rw [hz.1] at q; exact q) (nI_ge han (by omega)), fun _ => ?_⟩
          rw [nI_1]
          refine inner (n - (a + 1)) a (a + 1) z s w7 (by omega) han fz hz ok (fun z' w6' w7' fz' hz' ok' => ?_)
          exact ih (a + 1) z' _ w6' w7' (by omega) fz' hz' ok' he
      refine vc_X6_swap (k_inN (N := 3) rfl (fun _ => n1 ⟨fun _ => ?_, fun q => ?_⟩) (fun q => absurd ca q))
      · rw [hMy.2.1]
        refine k_sweetBy (P := 0) hB.bd hB.hw (by omega) hl (hMy.tm hn) hMy.2.2.1 hMy.2.2.2.1 hB.2.1 hB.2.2.1 (fun z2 f2 => ?_)
        have hsw := sw_lt (h := (fin kd rk wt wm hs n 0 g ro l).1) (wt := wt) n
        refine k_bits (by omega) ?_
        rw [hm0]
        exact outer n 0 z2 (m0, none) vu vu (by omega) (f2.sub (by decide) (by decide)) (hMy.fs (FS.ofM f2)) ⟨hm8, fun q e => absurd e (by simp)⟩ rfl
      · rw [hMy.1, nI_z (by omega)] at q
        omega
    -- the class
    have inner : ∀ (r a b : Nat) (z : Mem) (s : Nat × Option (Nat × Nat)) (w7 : AV), b + r = n → a < n → FR [4, 5, 7] x z → IC z n l ro g kd rk wt wm hs → p_ok s → (∀ z' w6 w7', FR [4, 5, 7] x z' → IC z' n l ro g kd rk wt wm hs → p_ok (p_in f a b r s) → AT 42 7 (fun v x1 => ∃ r, v = some (vi r) ∧ CC 8 122 [vr 13 0, vi w] x1 fun v' x2 => v' = some (vi r) ∧ Inv x2) 40 [vr 0 0, vi w, vi (nI (p_in f a b r s).1), vi (p_lo (p_in f a b r s).2), vi (p_hi (p_in f a b r s).2), vi (nI (a + 1)), w6, w7'] z') → AT 42 7 (fun v x1 => ∃ r, v = some (vi r) ∧ CC 8 122 [vr 13 0, vi w] x1 fun v' x2 => v' = some (vi r) ∧ Inv x2) 58 [vr 0 0, vi w, vi (nI s.1), vi (p_lo s.2), vi (p_hi s.2), vi (nI a), vi (nI b), w7] z := by
      intro r
      induction r with
      | zero =>
        intro a b z s w7 hb ha fz hz ok hq
        have e : b = n := by omega
        subst e
        refine vcl_X5_swap_58 ⟨fun _ => ?_, fun q => absurd (by rw [hz.1]; exact nI_le (Nat.le_refl _) (by omega)) q⟩
        rw [nI_1]
        exact hq z _ _ fz hz ok
      | succ r ih =>
        intro a b z s w7 hb ha fz hz ok hq
        have hbn : b < n := by omega
        have ha8 : a < 8 := by omega
        have hb8 : b < 8 := by omega
        refine vcl_X5_swap_58 ⟨fun q => absurd (by rw [hz.1] at q; exact q) (nI_ge hbn (by omega)), fun _ => ?_⟩
        refine vc_X5_howManySweetIfSwapped (k_exchange (τ := fun t => t) ha8 hb8 (fun t ht => (hz.2.2.2.2 t ht).1) (fun t ht => ht) (fun z1 f1 h71 => ?_))
        have hT1 : TV z1 n (fun t => kd (sg a b t)) (fun t => rk (sg a b t)) (fun t => wt (sg a b t)) (fun t => wm (sg a b t)) (fun t => hs (sg a b t)) := ⟨by rw [f1 6 (by decide)]; exact hz.1, hn, fun t ht => by
          have hs8 := sg_lt ha8 hb8 ht
          obtain ⟨_, q0, q1, q2, q3, q4⟩ := hz.2.2.2.2 (sg a b t) hs8
          rw [f1 8 (by decide)]
          exact ⟨sg a b t, hs8, h71 t ht, q0, q1, q2, q3, q4⟩⟩
        refine k_howMany (P := 0) (hBs a b ha8 hb8) (by omega) hl hT1 (by rw [f1 6 (by decide)]; exact hz.2.1) (by rw [f1 6 (by decide)]; exact hz.2.2.1) (by rw [f1 6 (by decide)]; exact hz.2.2.2.1) hB.2.1 hB.2.2.1 (fun z2 f2 => ?_)
        rw [hfe]
        refine k_exchange (τ := fun t => sg a b t) ha8 hb8 (fun t ht => by rw [f2 7 (by decide)]; exact h71 t ht) (fun t ht => sg_lt ha8 hb8 ht) (fun z3 f3 h73 => ?_)
        have f4 : FR [4, 5, 7] z z3 := ((f1.sub (by decide)).tr (f2.sub (by decide))).tr (f3.sub (by decide))
        have hz3 : IC z3 n l ro g kd rk wt wm hs := by
          refine ⟨by rw [f4 6 (by decide)]; exact hz.1, by rw [f4 6 (by decide)]; exact hz.2.1, by rw [f4 6 (by decide)]; exact hz.2.2.1, by rw [f4 6 (by decide)]; exact hz.2.2.2.1, fun t ht => ?_⟩
          obtain ⟨_, q0, q1, q2, q3, q4⟩ := hz.2.2.2.2 t ht
          rw [f4 8 (by decide)]
          refine ⟨?_, q0, q1, q2, q3, q4⟩
          rw [h73 t ht, sg_sg]
        dsimp only [rN, rI]
        have s8 := ok.1
        have f8 := hf8 a b
        rw [nI_leI (by omega) (by omega), nI_1]
        have ok2 := p_ok_st (hf8 a b) ha8 hb8 ok
        have hq' := ih a (b + 1) z3 (pst f a b s) (vi (nI (f a b))) (by omega) ha (fz.tr f4) hz3 ok2 hq
        unfold pst at hq'
        refine ⟨fun q => ?_, fun q => ?_⟩
        · rw [if_neg (by omega)] at hq'
          exact hq'
        · rw [if_pos (by omega)] at hq'
          exact hq'
    have outer : ∀ (r a : Nat) (z : Mem) (s : Nat × Option (Nat × Nat)) (w6 w7 : AV), a + r = n → FR [4, 5, 7] x z → IC z n l ro g kd rk wt wm hs → p_ok s → p_out f n 0 n (m0, none) = p_out f n a r s → AT 42 7 (fun v x1 => ∃ r, v = some (vi r) ∧ CC 8 122 [vr 13 0, vi w] x1 fun v' x2 => v' = some (vi r) ∧ Inv x2) 40 [vr 0 0, vi w, vi (nI s.1), vi (p_lo s.2), vi (p_hi s.2), vi (nI a), w6, w7] z := by
      intro r
      induction r with
      | zero =>
        intro a z s w6 w7 ha fz hz ok he
        have e : a = n := by omega
        have m2 := mm z fz hz
        rw [he] at m2
        change CC 8 122 [vr 13 0, vi w] z fun v' x2 => v' = some (vi (p_an w s)) ∧ Inv x2 at m2
        unfold p_an at m2
        refine vcl_X5_swap_40 ⟨fun _ => ⟨fun c1 => ⟨fun c2 => ⟨_, rfl, ?_⟩, fun c2 => ⟨_, rfl, ?_⟩⟩, fun c1 => ⟨fun q => ⟨_, rfl, ?_⟩, fun q => ⟨_, rfl, ?_⟩⟩⟩, fun q => absurd (by rw [hz.1, e]; exact nI_le (Nat.le_refl _) (by omega)) q⟩
        · rw [if_neg c1, if_neg c2] at m2
          by_cases q : s.2 = none
          · rw [if_pos q] at m2
            rw [q]; exact m2
          · rw [if_neg q] at m2
            exact m2
        · rw [if_neg c1, if_pos c2] at m2
          by_cases q : s.2 = none
          · rw [if_pos q] at m2
            rw [q]; exact m2
          · rw [if_neg q] at m2
            exact m2
        · rw [lo_9 ok] at q
          rw [if_neg q, if_pos c1] at m2
          exact m2
        · rw [lo_9 ok] at q
          rw [if_pos q] at m2
          exact m2
      | succ r ih =>
        intro a z s w6 w7 ha fz hz ok he
        have han : a < n := by omega
        refine vcl_X5_swap_40 ⟨fun q => absurd (by rw [hz.1] at q; exact q) (nI_ge han (by omega)), fun _ => ?_⟩
        rw [nI_1]
        refine inner (n - (a + 1)) a (a + 1) z s w7 (by omega) han fz hz ok (fun z' w6' w7' fz' hz' ok' => ?_)
        exact ih (a + 1) z' _ w6' w7' (by omega) fz' hz' ok' he
    refine k_howMany (P := 0) hB.bd (by omega) hl (hC.tv hn) hC.2.1 hC.2.2.1 hC.2.2.2.1 hB.2.1 hB.2.2.1 (fun z2 f2 => ?_)
    rw [hm0]
    exact outer n 0 z2 (m0, none) vu vu (by omega) (f2.sub (by decide)) (hC.fs (FS.ofR f2)) ⟨hm8, fun q e => absurd e (by simp)⟩ rfl
  · exact vc_X6_swap (k_inN (N := 3) rfl (fun _ => n1 ⟨fun q => absurd (by rw [hM.1, c]; rfl) q, fun _ => ⟨rfl, h⟩⟩) (fun q => absurd ca q))
  · exact vc_X6_swap (k_inN (N := 3) rfl (fun q => absurd q ca) (fun _ => n0 ⟨rfl, h⟩))
end
