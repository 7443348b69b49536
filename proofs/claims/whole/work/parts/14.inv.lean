/-! WHAT HOLDS BETWEEN CALLS, of both objects; the calls that are short -/
def IC (x : Mem) (n l ro g : Nat) (kd rk wt wm hs : Nat → Nat) : Prop := x 6 0 1 = nI n ∧ x 6 0 2 = nI l ∧ x 6 0 3 = nI ro ∧ x 6 0 4 = nI g ∧ ∀ t, t < 8 → x 7 0 t = nI t ∧ x 8 t 0 = nI (kd t) ∧ x 8 t 1 = nI (rk t) ∧ x 8 t 2 = nI (wt t) ∧ x 8 t 3 = nI (wm t) ∧ x 8 t 4 = nI (hs t)
def IM (x : Mem) (n l ro g : Nat) (kd rk wt wm hs : Nat → Nat) : Prop := x 13 0 1 = nI n ∧ x 13 0 2 = nI l ∧ x 13 0 3 = nI ro ∧ x 13 0 4 = nI g ∧ ∀ t, t < 8 → x 14 0 t = nI (kd t) ∧ x 15 0 t = nI (rk t) ∧ x 16 0 t = nI (wt t) ∧ x 17 0 t = nI (wm t) ∧ x 18 0 t = nI (hs t)
def IB (n l ro g : Nat) (kd rk wt wm hs : Nat → Nat) : Prop := n ≤ 8 ∧ g ≤ ro ∧ ro ≤ 4 ∧ (∀ t, t < 8 → kd t ≤ 2 ∧ rk t ≤ 9 ∧ wt t ≤ 9 ∧ wm t ≤ 39 ∧ hs t ≤ wt t) ∧ l + fb_sm hs n ≤ 108
def IR (x : Mem) (n rc : Nat) (rt rp rv : Nat → Nat) : Prop := x 9 0 3 = nI rc ∧ x 13 0 24 = nI rc ∧ rc ≤ 8 ∧ (∀ r, r < 8 → x 10 0 r = nI (rt r) ∧ x 26 0 r = nI (rt r) ∧ x 11 0 r = nI (rp r) ∧ x 27 0 r = nI (rp r) ∧ x 12 0 r = nI (rv r) ∧ x 28 0 r = nI (rv r)) ∧ ∀ r, r < rc → rt r < n ∧ rp r < 2 ^ n ∧ rv r ≤ 36
def ISh (x : Mem) : Prop := ∀ k, k < 4 → x 1 0 k = nI k ∧ ((x 2 k 1 = -1 ∧ x 2 k 2 = 0 ∧ x 29 0 k = -1) ∨ ∃ la ln, la ≤ 2 ∧ ln ≤ 60 ∧ x 2 k 1 = nI la ∧ x 30 0 k = nI la ∧ x 2 k 2 = nI ln ∧ x 29 0 k = nI ln) ∧ ∀ i, i < 60 → x 3 k i = x 31 0 (60 * k + i)
def IT (x : Mem) : Prop := x 0 0 4 = x 13 0 32 ∧ x 0 0 5 = x 13 0 0
def Inv (x : Mem) : Prop := ∃ (n l ro g : Nat) (kd rk wt wm hs : Nat → Nat), IC x n l ro g kd rk wt wm hs ∧ IM x n l ro g kd rk wt wm hs ∧ IB n l ro g kd rk wt wm hs ∧ (∃ (rc : Nat) (rt rp rv : Nat → Nat), IR x n rc rt rp rv) ∧ ISh x ∧ IT x
theorem IC.fr {x x' : Mem} {n l ro g : Nat} {kd rk wt wm hs : Nat → Nat} (h : IC x n l ro g kd rk wt wm hs) (h6 : x' 6 = x 6) (h7 : x' 7 = x 7) (h8 : x' 8 = x 8) : IC x' n l ro g kd rk wt wm hs := by
  unfold IC at h ⊢; rw [h6, h7, h8]; exact h
theorem IM.fr {x x' : Mem} {n l ro g : Nat} {kd rk wt wm hs : Nat → Nat} (h : IM x n l ro g kd rk wt wm hs) (j1 : x' 13 0 1 = x 13 0 1) (j2 : x' 13 0 2 = x 13 0 2) (j3 : x' 13 0 3 = x 13 0 3) (j4 : x' 13 0 4 = x 13 0 4) (a : x' 14 = x 14) (b : x' 15 = x 15) (c : x' 16 = x 16) (e : x' 17 = x 17) (f : x' 18 = x 18) : IM x' n l ro g kd rk wt wm hs := by
  unfold IM at h ⊢; rw [j1, j2, j3, j4, a, b, c, e, f]; exact h
theorem IR.fr {x x' : Mem} {n rc : Nat} {rt rp rv : Nat → Nat} (h : IR x n rc rt rp rv) (a : x' 9 = x 9) (j : x' 13 0 24 = x 13 0 24) (b : x' 10 = x 10) (c : x' 11 = x 11) (e : x' 12 = x 12) (f : x' 26 = x 26) (g : x' 27 = x 27) (i : x' 28 = x 28) : IR x' n rc rt rp rv := by
  unfold IR at h ⊢; rw [a, j, b, c, e, f, g, i]; exact h
theorem ISh.fr {x x' : Mem} (h : ISh x) (a : x' 1 = x 1) (b : x' 2 = x 2) (c : x' 3 = x 3) (e : x' 29 = x 29) (f : x' 30 = x 30) (g : x' 31 = x 31) : ISh x' := by
  unfold ISh at h ⊢; rw [a, b, c, e, f, g]; exact h
theorem IT.fr {x x' : Mem} (h : IT x) (a : x' 0 = x 0) (j : x' 13 0 32 = x 13 0 32) (k : x' 13 0 0 = x 13 0 0) : IT x' := by
  unfold IT at h ⊢; rw [a, j, k]; exact h
/-- only what nobody keeps is changed -/
abbrev SK : List Nat := [4, 5, 19, 20, 21, 22, 23, 24, 25, 32]
abbrev SJ : List Nat := [10, 11, 12, 13, 18, 19, 20]
def FS (x x' : Mem) : Prop := FM SK SJ x x'
theorem FS.ofR {x x' : Mem} (h : FR [4, 5] x x') : FS x x' := ⟨fun k hk => h k (fun q => hk (by
  simp only [List.mem_cons, List.not_mem_nil, or_false] at q ⊢
  omega)), fun j _ => by rw [h 13 (by decide)]⟩
theorem FS.ofM {x x' : Mem} (h : FM KS JS x x') : FS x x' := FM.sub h (by decide) (by decide)
theorem FS.tr {x y z : Mem} (h : FS x y) (h2 : FS y z) : FS x z := FM.tr h h2
theorem Inv.fs {x x' : Mem} (h : Inv x) (f : FS x x') : Inv x' := by
  obtain ⟨n, l, ro, g, kd, rk, wt, wm, hs, hC, hM, hB, ⟨rc, rt, rp, rv, hR⟩, hS, hT⟩ := h
  refine ⟨n, l, ro, g, kd, rk, wt, wm, hs, hC.fr (f.1 6 (by decide)) (f.1 7 (by decide)) (f.1 8 (by decide)), hM.fr (f.2 1 (by decide)) (f.2 2 (by decide)) (f.2 3 (by decide)) (f.2 4 (by decide)) (f.1 14 (by decide)) (f.1 15 (by decide)) (f.1 16 (by decide)) (f.1 17 (by decide)) (f.1 18 (by decide)), hB, ⟨rc, rt, rp, rv, ?_⟩, ?_, ?_⟩
  · exact hR.fr (f.1 9 (by decide)) (f.2 24 (by decide)) (f.1 10 (by decide)) (f.1 11 (by decide)) (f.1 12 (by decide)) (f.1 26 (by decide)) (f.1 27 (by decide)) (f.1 28 (by decide))
  · exact hS.fr (f.1 1 (by decide)) (f.1 2 (by decide)) (f.1 3 (by decide)) (f.1 29 (by decide)) (f.1 30 (by decide)) (f.1 31 (by decide))
  · exact hT.fr (f.1 0 (by decide)) (f.2 32 (by decide)) (f.2 0 (by decide))
theorem IC.tv {x : Mem} {n l ro g : Nat} {kd rk wt wm hs : Nat → Nat} (h : IC x n l ro g kd rk wt wm hs) (hn : n ≤ 8) : TV x n kd rk wt wm hs := ⟨h.1, hn, fun t ht => by
  obtain ⟨a, b, c, e, f, g'⟩ := h.2.2.2.2 t ht
  exact ⟨t, ht, a, b, c, e, f, g'⟩⟩
theorem IM.tm {x : Mem} {n l ro g : Nat} {kd rk wt wm hs : Nat → Nat} (h : IM x n l ro g kd rk wt wm hs) (hn : n ≤ 8) : TM x n kd rk wt wm hs := ⟨h.1, hn, h.2.2.2.2⟩
theorem IB.bd {n l ro g : Nat} {kd rk wt wm hs : Nat → Nat} (h : IB n l ro g kd rk wt wm hs) : BD kd rk wt wm hs := fun t ht => by
  obtain ⟨a, b, c, e, f⟩ := h.2.2.2.1 t ht
  exact ⟨a, b, c, e, by omega⟩
theorem vp_ex {a : Int32} {n : Nat} (h : vp_in a n) (hn : n ≤ 1000) : ∃ j, j < n ∧ a = nI j := vp_in_of h (by omega)
/-- a call of both, and the same answer -/
def OP (cm mm : Nat) (ac am : List AV) (x : Mem) : Prop := CC 8 cm ac x fun v x1 => ∃ r, v = some (vi r) ∧ CC 8 mm am x1 fun v' x2 => v' = some (vi r) ∧ Inv x2
def OPl (cm mm : Nat) (ac am : List AV) (x : Mem) : Prop := CC 8 cm ac x fun v x1 => ∃ r, v = some (vl r) ∧ CC 8 mm am x1 fun v' x2 => v' = some (vl r) ∧ Inv x2
theorem swz {v : Int32} {lo hi : Int} (h : ¬ (lo ≤ v.toInt ∧ v.toInt ≤ hi)) : v.toInt < lo ∨ hi < v.toInt := by omega
section
variable {d : Nat} {Q : Option AV → Mem → Prop} {x : Mem}
theorem op_trace (h : Inv x) : OP 57 142 [vr 0 0] [vr 13 0] x := by
  refine vc_X5_trace ⟨_, rfl, vc_X6_trace ⟨?_, h⟩⟩
  obtain ⟨n, l, ro, g, kd, rk, wt, wm, hs, hC, hM, hB, hR, hS, hT⟩ := h
  rw [hT.1]
theorem op_fault (h : Inv x) : OP 58 143 [vr 0 0] [vr 13 0] x := by
  refine vc_X5_fault ⟨_, rfl, vc_X6_fault ⟨?_, h⟩⟩
  obtain ⟨n, l, ro, g, kd, rk, wt, wm, hs, hC, hM, hB, hR, hS, hT⟩ := h
  rw [hT.2]
theorem op_many {a : Int32} (h : Inv x) : OP 59 144 [vr 0 0, vi a] [vr 13 0, vi a] x := by
  obtain ⟨n, l, ro, g, kd, rk, wt, wm, hs, hC, hM, hB, ⟨rc, rt, rp, rv, hR⟩, hS, hT⟩ := id h
  have key : ∀ r, ((Int32.toInt a < (0 : Int) ∨ (4 : Int) < Int32.toInt a) → r = -2) → (a = 0 → r = nI n) → (a = 1 → r = nI l) → (a = 2 → r = nI ro) → (a = 3 → r = nI g) → (a = 4 → r = nI rc) → CC 8 144 [vr 13 0, vi a] x fun v' x2 => v' = some (vi r) ∧ Inv x2 := by
    intro r h9 r0 r1 r2 r3 r4
    refine vc_X6_many ⟨fun c => ⟨by rw [h9 c], h⟩, fun c => ⟨by rw [r0 c, hM.1], h⟩, fun c => ⟨by rw [r1 c, hM.2.1], h⟩, fun c => ⟨by rw [r2 c, hM.2.2.1], h⟩, fun c => ⟨by rw [r3 c, hM.2.2.2.1], h⟩, fun c => ⟨by rw [r4 c, hR.2.1], h⟩, trivial⟩
  refine vc_X5_many ⟨fun c => ⟨_, rfl, key _ (fun _ => rfl) ?_ ?_ ?_ ?_ ?_⟩, fun c => ⟨_, rfl, key _ ?_ ?_ ?_ ?_ ?_ ?_⟩, fun c => ⟨_, rfl, key _ ?_ ?_ ?_ ?_ ?_ ?_⟩, fun c => ⟨_, rfl, key _ ?_ ?_ ?_ ?_ ?_ ?_⟩, fun c => ⟨_, rfl, key _ ?_ ?_ ?_ ?_ ?_ ?_⟩, fun c => ⟨_, rfl, key _ ?_ ?_ ?_ ?_ ?_ ?_⟩, trivial⟩
  all_goals intro q
  all_goals first
    | (subst q; exfalso; revert c; decide)
    | (subst c; exfalso; revert q; decide)
    | exact hC.1
    | exact hC.2.1
    | exact hC.2.2.1
    | exact hC.2.2.2.1
    | exact hR.1
theorem op_load {a : Int32} (h : Inv x) : OP 32 102 [vr 0 0, vi a] [vr 13 0, vi a] x := by
  obtain ⟨n, l, ro, g, kd, rk, wt, wm, hs, hC, hM, hB, ⟨rc, rt, rp, rv, hR⟩, hS, hT⟩ := id h
  have hn := hB.1
  refine vc_X5_load (k_within (N := 37) rfl (fun c => n1 (k_stands hC.1 hn (fun p => n1 ⟨_, rfl, ?_⟩) (fun p => n0 ⟨_, rfl, ?_⟩))) (fun c => n0 ⟨_, rfl, ?_⟩))
  · obtain ⟨j, hj, rfl⟩ := vp_ex c (by omega)
    refine vc_X6_load (k_inN (N := 37) rfl (fun c => n1 ?_) (fun c2 => absurd c c2))
    rw [up_k (by decide), hM.1, nI_z (by omega)]
    refine ⟨fun _ => ⟨by rw [hC.2.1, hM.2.1], n, j, ro, g, kd, rk, wt, wm, hs, ?_, ?_, ⟨hB.1, hB.2.1, hB.2.2.1, hB.2.2.2.1, ?_⟩, ⟨rc, rt, rp, rv, ?_⟩, ?_, ?_⟩, fun q => absurd q (by omega)⟩
    · exact ⟨hC.1, rfl, hC.2.2.1, hC.2.2.2.1, hC.2.2.2.2⟩
    · exact ⟨hM.1, rfl, hM.2.2.1, hM.2.2.2.1, hM.2.2.2.2⟩
    · have hsum : fb_sm hs n ≤ n * 9 := fb_sm_bound (fun k hk => by
        obtain ⟨b0, b1, b2, b3, b4⟩ := hB.2.2.2.1 k (by omega)
        omega)
      omega
    · exact hR.fr rfl rfl rfl rfl rfl rfl rfl rfl
    · exact hS.fr rfl rfl rfl rfl rfl rfl
    · exact hT.fr rfl rfl rfl
  · refine vc_X6_load (k_inN (N := 37) rfl (fun c => n1 ?_) (fun c2 => absurd c c2))
    rw [hM.1, nI_z (by omega)]
    exact ⟨fun q => absurd p q, fun _ => ⟨rfl, h⟩⟩
  · exact vc_X6_load (k_inN (N := 37) rfl (fun c2 => absurd c2 c) (fun c2 => n0 ⟨rfl, h⟩))
def bcF (a1 : Int32) : Int32 := ((((((((a1 - ((((a1).toUInt32 >>> (((1 : Int32)).toUInt32 &&& Int32.toUInt32 31)).toInt32) &&& (1431655765 : Int32))) &&& (858993459 : Int32)) + (((((a1 - ((((a1).toUInt32 >>> (((1 : Int32)).toUInt32 &&& Int32.toUInt32 31)).toInt32) &&& (1431655765 : Int32)))).toUInt32 >>> (((2 : Int32)).toUInt32 &&& Int32.toUInt32 31)).toInt32) &&& (858993459 : Int32))) + ((((((a1 - ((((a1).toUInt32 >>> (((1 : Int32)).toUInt32 &&& Int32.toUInt32 31)).toInt32) &&& (1431655765 : Int32))) &&& (858993459 : Int32)) + (((((a1 - ((((a1).toUInt32 >>> (((1 : Int32)).toUInt32 &&& Int32.toUInt32 31)).toInt32) &&& (1431655765 : Int32)))).toUInt32 >>> (((2 : Int32)).toUInt32 &&& Int32.toUInt32 31)).toInt32) &&& (858993459 : Int32)))).toUInt32 >>> (((4 : Int32)).toUInt32 &&& Int32.toUInt32 31)).toInt32)) &&& (252645135 : Int32)) + ((((((((a1 - ((((a1).toUInt32 >>> (((1 : Int32)).toUInt32 &&& Int32.toUInt32 31)).toInt32) &&& (1431655765 : Int32))) &&& (858993459 : Int32)) + (((((a1 - ((((a1).toUInt32 >>> (((1 : Int32)).toUInt32 &&& Int32.toUInt32 31)).toInt32) &&& (1431655765 : Int32)))).toUInt32 >>> (((2 : Int32)).toUInt32 &&& Int32.toUInt32 31)).toInt32) &&& (858993459 : Int32))) + ((((((a1 - ((((a1).toUInt32 >>> (((1 : Int32)).toUInt32 &&& Int32.toUInt32 31)).toInt32) &&& (1431655765 : Int32))) &&& (858993459 : Int32)) + (((((a1 - ((((a1).toUInt32 >>> (((1 : Int32)).toUInt32 &&& Int32.toUInt32 31)).toInt32) &&& (1431655765 : Int32)))).toUInt32 >>> (((2 : Int32)).toUInt32 &&& Int32.toUInt32 31)).toInt32) &&& (858993459 : Int32)))).toUInt32 >>> (((4 : Int32)).toUInt32 &&& Int32.toUInt32 31)).toInt32)) &&& (252645135 : Int32))).toUInt32 >>> (((8 : Int32)).toUInt32 &&& Int32.toUInt32 31)).toInt32)) + (((((((((a1 - ((((a1).toUInt32 >>> (((1 : Int32)).toUInt32 &&& Int32.toUInt32 31)).toInt32) &&& (1431655765 : Int32))) &&& (858993459 : Int32)) + (((((a1 - ((((a1).toUInt32 >>> (((1 : Int32)).toUInt32 &&& Int32.toUInt32 31)).toInt32) &&& (1431655765 : Int32)))).toUInt32 >>> (((2 : Int32)).toUInt32 &&& Int32.toUInt32 31)).toInt32) &&& (858993459 : Int32))) + ((((((a1 - ((((a1).toUInt32 >>> (((1 : Int32)).toUInt32 &&& Int32.toUInt32 31)).toInt32) &&& (1431655765 : Int32))) &&& (858993459 : Int32)) + (((((a1 - ((((a1).toUInt32 >>> (((1 : Int32)).toUInt32 &&& Int32.toUInt32 31)).toInt32) &&& (1431655765 : Int32)))).toUInt32 >>> (((2 : Int32)).toUInt32 &&& Int32.toUInt32 31)).toInt32) &&& (858993459 : Int32)))).toUInt32 >>> (((4 : Int32)).toUInt32 &&& Int32.toUInt32 31)).toInt32)) &&& (252645135 : Int32)) + ((((((((a1 - ((((a1).toUInt32 >>> (((1 : Int32)).toUInt32 &&& Int32.toUInt32 31)).toInt32) &&& (1431655765 : Int32))) &&& (858993459 : Int32)) + (((((a1 - ((((a1).toUInt32 >>> (((1 : Int32)).toUInt32 &&& Int32.toUInt32 31)).toInt32) &&& (1431655765 : Int32)))).toUInt32 >>> (((2 : Int32)).toUInt32 &&& Int32.toUInt32 31)).toInt32) &&& (858993459 : Int32))) + ((((((a1 - ((((a1).toUInt32 >>> (((1 : Int32)).toUInt32 &&& Int32.toUInt32 31)).toInt32) &&& (1431655765 : Int32))) &&& (858993459 : Int32)) + (((((a1 - ((((a1).toUInt32 >>> (((1 : Int32)).toUInt32 &&& Int32.toUInt32 31)).toInt32) &&& (1431655765 : Int32)))).toUInt32 >>> (((2 : Int32)).toUInt32 &&& Int32.toUInt32 31)).toInt32) &&& (858993459 : Int32)))).toUInt32 >>> (((4 : Int32)).toUInt32 &&& Int32.toUInt32 31)).toInt32)) &&& (252645135 : Int32))).toUInt32 >>> (((8 : Int32)).toUInt32 &&& Int32.toUInt32 31)).toInt32))).toUInt32 >>> (((16 : Int32)).toUInt32 &&& Int32.toUInt32 31)).toInt32)) &&& (63 : Int32))
def pcr : Nat → Nat → Nat
  | 0, _ => 0
  | f + 1, k => k % 2 + pcr f (k / 2)
def pc (k : Nat) : Nat := pcr 8 k
theorem bc_ok : ∀ k, k < 256 → bcF (nI k) = nI (pc k) := by decide +kernel
theorem pcr_0 : ∀ f, pcr f 0 = 0
  | 0 => rfl
  | f + 1 => by show 0 % 2 + pcr f (0 / 2) = 0; rw [Nat.zero_mod, Nat.zero_div, pcr_0 f]
theorem pcr_le : ∀ f k, pcr f k ≤ f
  | 0, _ => Nat.le_refl 0
  | f + 1, k => by
    have := pcr_le f (k / 2)
    show k % 2 + pcr f (k / 2) ≤ f + 1
    omega
theorem k_bitCount {k : Nat} (hk : k < 256) (h : Q (some (vi (nI (pc k)))) x) : CC (d + 1) 145 [vi (nI k)] x Q := by
  refine vc_J6_bitCount_0f7a4 ?_
  rw [← bc_ok k hk] at h
  exact h
theorem k_bits {k : Nat} (hk : k < 256) (h : Q (some (vi (nI (pc k)))) x) : CC (d + 1) 84 [vi (nI k)] x Q := by
  have key : ∀ (f j n : Nat) (l0 : Int32), j < 2 ^ f → f ≤ 8 → Q (some (vi (nI (n + pcr f j)))) x → AT 84 d Q 4 [vi l0, vi (nI n), vi (nI j)] x := by
    intro f
    induction f with
    | zero =>
      intro j n l0 hj _ hq
      have e : j = 0 := by omega
      subst e
      exact vcl_X6_bits_4 ⟨fun _ => hq, fun c => absurd (by decide) c⟩
    | succ f ih =>
      intro j n l0 hj hf hq
      have hp : 2 ^ (f + 1) ≤ 2 ^ 8 := Nat.pow_le_pow_right (by decide) hf
      refine vcl_X6_bits_4 ⟨fun c => ?_, fun c => ?_⟩
      · have e : j = 0 := by
          rcases Nat.eq_zero_or_pos j with z | z
          · exact z
          · exact absurd c (nI_nle z (by omega))
        subst e
        rw [pcr_0, Nat.add_zero] at hq
        exact hq
      · rw [pk_andN (by omega) 1 (by decide), pk_shrN (by omega) _ 1 (by decide), nI_add, Nat.pow_one]
        refine ih (j / 2) (n + j % 2) l0 (by rw [Nat.pow_succ] at hj; omega) (by omega) ?_
        rw [Nat.add_assoc]; exact hq
  exact vc_X6_bits (key 8 k 0 _ (by omega) (by omega) (by rw [Nat.zero_add]; exact h))
theorem k_trait1 {q : Nat} (h : Q (some (vi (x 8 q 1))) x) : CC (d + 1) 1 [vr 8 q, vi 1] x Q := vc_X4_trait ⟨fun c => absurd c (by decide), fun c => absurd c (by decide), fun _ => h, fun c => absurd c (by decide), fun c => absurd c (by decide), fun c => absurd c (by decide), trivial⟩
theorem k_trait3 {q : Nat} (h : Q (some (vi (x 8 q 3))) x) : CC (d + 1) 1 [vr 8 q, vi 3] x Q := vc_X4_trait ⟨fun c => absurd c (by decide), fun c => absurd c (by decide), fun c => absurd c (by decide), fun c => absurd c (by decide), fun _ => h, fun c => absurd c (by decide), trivial⟩
theorem k_become1 {q : Nat} {v : Int32} (h : Q none (up x 8 q 1 v)) : CC (d + 1) 2 [vr 8 q, vi 1, vi v] x Q := vc_X4_become ⟨fun c => absurd c (by decide), fun c => absurd c (by decide), fun _ => h, fun c => absurd c (by decide), fun c => absurd c (by decide), trivial⟩
theorem k_become3 {q : Nat} {v : Int32} (h : Q none (up x 8 q 3 v)) : CC (d + 1) 2 [vr 8 q, vi 3, vi v] x Q := vc_X4_become ⟨fun c => absurd c (by decide), fun c => absurd c (by decide), fun c => absurd c (by decide), fun c => absurd c (by decide), fun _ => h, trivial⟩
theorem op_ofTable {a b : Int32} (h : Inv x) : OP 29 99 [vr 0 0, vi a, vi b] [vr 13 0, vi a, vi b] x := by
  obtain ⟨n, l, ro, g, kd, rk, wt, wm, hs, hC, hM, hB, ⟨rc, rt, rp, rv, hR⟩, hS, hT⟩ := id h
  have hn := hB.1
  refine vc_X5_ofTable (k_hasTable hC.1 hn (fun c => n1 ?_) (fun c => n0 ⟨_, rfl, vc_X6_ofTable (k_noTable hM.1 hn (fun c2 => absurd c2 c) (fun _ => e1 ⟨rfl, h⟩))⟩))
  obtain ⟨t, ht, rfl⟩ := vp_ex c (by omega)
  have ht8 : t < 8 := by omega
  obtain ⟨c7, c0, c1, c2, c3, c4⟩ := hC.2.2.2.2 t ht8
  obtain ⟨m0, m1, m2, m3, m4⟩ := hM.2.2.2.2 t ht8
  obtain ⟨b0, b1, b2, b3, b4⟩ := hB.2.2.2.1 t ht8
  have key : ∀ r, ((Int32.toInt b < (0 : Int) ∨ (5 : Int) < Int32.toInt b) → r = -2) → (b = 0 → r = nI (kd t)) → (b = 1 → r = nI (rk t)) → (b = 2 → r = nI (wt t)) → (b = 3 → r = nI (wm t)) → (b = 4 → r = nI (lvF (kd t) (rk t))) → (b = 5 → r = nI (hs t)) → CC 8 99 [vr 13 0, vi (nI t), vi b] x fun v' x2 => v' = some (vi r) ∧ Inv x2 := by
    intro r h9 r0 r1 r2 r3 r4 r5
    refine vc_X6_ofTable (k_noTable hM.1 hn (fun _ => e0 ?_) (fun q => absurd c q))
    rw [cl8 ht8]
    refine ⟨fun q => ⟨by rw [h9 q], h⟩, fun q => ⟨in8 ht8 (by omega), by rw [r0 q, m0], h⟩, fun q => ⟨in8 ht8 (by omega), by rw [r1 q, m1], h⟩, fun q => ⟨in8 ht8 (by omega), by rw [r2 q, m2], h⟩, fun q => ⟨in8 ht8 (by omega), by rw [r3 q, m3], h⟩, fun q => k_leavesOf hB.bd (hM.tm hn) ht8 ⟨by rw [r4 q], h⟩, fun q => ⟨in8 ht8 (by omega), by rw [r5 q, m4], h⟩, trivial⟩
  refine k_within (N := 6) rfl (fun cb => n1 ⟨in8 ht8 (by omega), by rw [cl8 ht8, c7, cl8 ht8]; exact ht8, ?_⟩) (fun cb => n0 ⟨_, rfl, key _ (fun _ => rfl) ?_ ?_ ?_ ?_ ?_ ?_⟩)
  · rw [cl8 ht8, c7, cl8 ht8]
    rw [vp_in_iff] at cb
    refine vc_X4_trait ⟨fun q => ⟨_, rfl, key _ ?_ ?_ ?_ ?_ ?_ ?_ ?_⟩, fun q => ⟨_, rfl, key _ ?_ ?_ ?_ ?_ ?_ ?_ ?_⟩, fun q => ⟨_, rfl, key _ ?_ ?_ ?_ ?_ ?_ ?_ ?_⟩, fun q => ⟨_, rfl, key _ ?_ ?_ ?_ ?_ ?_ ?_ ?_⟩, fun q => ⟨_, rfl, key _ ?_ ?_ ?_ ?_ ?_ ?_ ?_⟩, fun q => k_leaves c0 c1 b0 b1 ⟨_, rfl, key _ ?_ ?_ ?_ ?_ ?_ ?_ ?_⟩, trivial⟩
    all_goals intro z
    all_goals first
      | exact c0
      | exact c1
      | exact c2
      | exact c3
      | exact c4
      | rfl
      | (exfalso; omega)
      | (subst z; exfalso; revert q; decide)
      | (subst q; exfalso; revert z; decide)
  all_goals (intro z; subst z; exact absurd (vp_in_iff.mpr (by decide)) cb)
end
