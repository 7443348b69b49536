/-! SOUNDNESS: what WP says of a method holds of the machine -/
def rmD (d : Nat) : Room := { frames := d + 1, cells := 0, slots := 0, locals := 30 * d + 60 }
def NWs (U : State) : Prop := ∀ q ∈ NLL, va_Nw (.methodLinkNest (cn q.1) q.2.1 (mY q.2.2) RX5) U
def KPre (D : va_G) (ad : Nat → Nat → Nat) (cI cT cS : ClassId) (sz : Nat) (av : List AV) (x : Mem) : Array Value → State → Prop := va_Pc (av.map (cv ad)) fun U => U.heap.size = sz ∧ va_P D vwCl (wl ad cI cT cS x) U.heap ∧ va_K D vwCl (Tys cI cT cS) U ∧ NWs U ∧ va_D (fun _ => True) (wl ad cI cT cS x)
def GQ (D : va_G) (ad : Nat → Nat → Nat) (cI cT cS : ClassId) (sz : Nat) (Q : Option AV → Mem → Prop) : Array Value → State → Outcome → State → Prop := fun _ st oc t => (∃ (v : Option AV) (x : Mem), oc = .returned (v.map (cv ad)) ∧ ROK v.toList ∧ Q v x ∧ va_P D vwCl (wl ad cI cT cS x) t.heap ∧ va_D (AD ad sz) (wl ad cI cT cS x)) ∧ va_F (AD ad sz) st t
def WMet (l : Launch) (D : va_G) (ad : Nat → Nat → Nat) (cI cT cS : ClassId) (d mm : Nat) (av : List AV) (x : Mem) (Q : Option AV → Mem → Prop) : Prop := ∀ sz : Nat, Met l (mY mm) (wsm mm) (rmD d) (KPre D ad cI cT cS sz av x) (GQ D ad cI cT cS sz Q) 0 0 (AD ad sz)
theorem aw_fld {q : Nat × Nat × Nat × Nat} (h : q ∈ FL) : wF q ∈ AW := List.mem_append_right _ (List.mem_append_left _ (List.mem_map.mpr ⟨q, h, rfl⟩))
theorem aw_mth {q : Nat × Nat × Nat} (h : q ∈ ML) : wM q ∈ AW := List.mem_append_right _ (List.mem_append_right _ (List.mem_append_left _ (List.mem_map.mpr ⟨q, h, rfl⟩)))
theorem aw_int {q : Nat × Nat × Int32} (h : q ∈ IL) : wI q ∈ AW := List.mem_append_right _ (List.mem_append_right _ (List.mem_append_right _ (List.mem_append_left _ (List.mem_map.mpr ⟨q, h, rfl⟩))))
theorem aw_lng {q : Nat × Nat × Nat} (h : q ∈ KL) : wK q ∈ AW := List.mem_append_right _ (List.mem_append_right _ (List.mem_append_right _ (List.mem_append_right _ (List.mem_append_left _ (List.mem_map.mpr ⟨q, h, rfl⟩)))))
theorem aw_code {m : Nat} (h : m < NM) : wC m ∈ AW := List.mem_append_right _ (List.mem_append_right _ (List.mem_append_right _ (List.mem_append_right _ (List.mem_append_right _ (List.mem_append_left _ (List.mem_map.mpr ⟨m, List.mem_range.mpr h, rfl⟩))))))
theorem aw_init {m : Nat} (h : m < NM) : Cond.initialized (mY m).cls ∈ AW := List.mem_append_right _ (List.mem_append_right _ (List.mem_append_right _ (List.mem_append_right _ (List.mem_append_right _ (List.mem_append_right _ (List.mem_append_left _ (List.mem_map.mpr ⟨m, List.mem_range.mpr h, rfl⟩)))))))
theorem aw_stat {m : Nat} (h : m < NM) (hs : mS m = true) : Cond.static (mY m) ∈ AW := List.mem_append_right _ (List.mem_append_right _ (List.mem_append_right _ (List.mem_append_right _ (List.mem_append_right _ (List.mem_append_right _ (List.mem_append_right _ (List.mem_append_left _ (List.mem_map.mpr ⟨m, List.mem_filter.mpr ⟨List.mem_range.mpr h, hs⟩, rfl⟩))))))))
theorem aw_inst {m : Nat} (h : m < NM) (hs : mS m = false) : Cond.instanceMethod (mY m) ∈ AW := List.mem_append_right _ (List.mem_append_right _ (List.mem_append_right _ (List.mem_append_right _ (List.mem_append_right _ (List.mem_append_right _ (List.mem_append_right _ (List.mem_append_right _ (List.mem_append_left _ (List.mem_map.mpr ⟨m, List.mem_filter.mpr ⟨List.mem_range.mpr h, by rw [hs]; rfl⟩, rfl⟩)))))))))
theorem aw_sel {m : Nat} (h : m < NM) (hs : mS m = false) : Cond.selects (mY m).cls (mY m) (mY m) ∈ AW := List.mem_append_right _ (List.mem_append_right _ (List.mem_append_right _ (List.mem_append_right _ (List.mem_append_right _ (List.mem_append_right _ (List.mem_append_right _ (List.mem_append_right _ (List.mem_append_right _ (List.mem_append_left _ (List.mem_map.mpr ⟨m, List.mem_filter.mpr ⟨List.mem_range.mpr h, by rw [hs]; rfl⟩, rfl⟩))))))))))
theorem aw_oth {w : Cond} (h : w ∈ AWo) : w ∈ AW := List.mem_append_right _ (List.mem_append_right _ (List.mem_append_right _ (List.mem_append_right _ (List.mem_append_right _ (List.mem_append_right _ (List.mem_append_right _ (List.mem_append_right _ (List.mem_append_right _ (List.mem_append_right _ h)))))))))
theorem aw_u {w : Cond} (h : w ∈ AWu) : w ∈ AW := List.mem_append_left _ h
def gw (w : Cond) : Prop := (w.onTables && w.keeps) = true ∨ ∃ ty, w = .arrayClass ty
theorem gw_uws {C : String} {T : u_T} {N : Nat} {w : Cond} (h : w ∈ u_ws C T N) : gw w := by
  unfold u_ws at h
  obtain ⟨k, -, rfl⟩ := List.mem_map.mp h
  unfold u_lay
  split <;> exact Or.inl rfl
theorem aw_good {w : Cond} (h : w ∈ AW) : gw w := by
  unfold AW at h
  rcases List.mem_append.mp h with h | h
  · unfold AWu at h
    rcases List.mem_append.mp h with h | h
    · exact gw_uws h
    rcases List.mem_append.mp h with h | h
    · exact gw_uws h
    rcases List.mem_append.mp h with h | h
    · exact gw_uws h
    rcases List.mem_append.mp h with h | h
    · exact gw_uws h
    rcases List.mem_append.mp h with h | h
    · exact gw_uws h
    rcases List.mem_append.mp h with h | h
    · exact gw_uws h
    · exact gw_uws h
  rcases List.mem_append.mp h with h | h
  · obtain ⟨q, -, rfl⟩ := List.mem_map.mp h; exact Or.inl rfl
  rcases List.mem_append.mp h with h | h
  · obtain ⟨q, -, rfl⟩ := List.mem_map.mp h; exact Or.inl rfl
  rcases List.mem_append.mp h with h | h
  · obtain ⟨q, -, rfl⟩ := List.mem_map.mp h; exact Or.inl rfl
  rcases List.mem_append.mp h with h | h
  · obtain ⟨q, -, rfl⟩ := List.mem_map.mp h; exact Or.inl rfl
  rcases List.mem_append.mp h with h | h
  · obtain ⟨q, -, rfl⟩ := List.mem_map.mp h; exact Or.inl rfl
  rcases List.mem_append.mp h with h | h
  · obtain ⟨q, -, rfl⟩ := List.mem_map.mp h; exact Or.inl rfl
  rcases List.mem_append.mp h with h | h
  · obtain ⟨q, -, rfl⟩ := List.mem_map.mp h; exact Or.inl rfl
  rcases List.mem_append.mp h with h | h
  · obtain ⟨q, -, rfl⟩ := List.mem_map.mp h; exact Or.inl rfl
  rcases List.mem_append.mp h with h | h
  · obtain ⟨q, -, rfl⟩ := List.mem_map.mp h; exact Or.inl rfl
  · unfold AWo at h
    simp only [List.mem_cons, List.not_mem_nil, or_false] at h
    rcases h with rfl | rfl | rfl | rfl | rfl | rfl | rfl | rfl | rfl | rfl | rfl <;> exact Or.inl rfl
theorem g_wsm {mm mid : Nat} (h : mid < NM) : GoodIn (wsm mm) (wsm mid) := fun w hw => by
  rcases List.mem_cons.mp hw with q | q
  · subst q; exact ⟨List.mem_cons_of_mem _ (aw_code h), aw_good (aw_code h)⟩
  · exact ⟨List.mem_cons_of_mem _ q, aw_good q⟩
def okY (m : Nat) : Bool := decide ((mY m).cls = cn (mcl m)) && (decide ((parseMethodDescriptor (mY m).desc).map (fun d => d.parameters.length) = some (mN m)) && (Nat.ble (mL m) 11 && (Jvm.plainName (cn (mcl m)) && (decide (cn (mcl m) ≠ "java/lang/invoke/MethodHandle") && decide (cn (mcl m) ≠ "java/lang/invoke/VarHandle")))))
theorem okY_all0 : (List.range NM).all okY = true := by decide +kernel
theorem okY_all (m : Nat) (h : m < NM) : okY m = true := List.all_eq_true.mp okY_all0 m (List.mem_range.mpr h)
theorem okY_e {m : Nat} (h : m < NM) : (mY m).cls = cn (mcl m) ∧ (parseMethodDescriptor (mY m).desc).map (fun d => d.parameters.length) = some (mN m) ∧ mL m ≤ 11 ∧ Jvm.plainName (mY m).cls = true ∧ (mY m).cls ≠ "java/lang/invoke/MethodHandle" ∧ (mY m).cls ≠ "java/lang/invoke/VarHandle" := by
  have h1 := okY_all m h
  unfold okY at h1
  simp only [Bool.and_eq_true, decide_eq_true_eq] at h1
  obtain ⟨a, b, c, d, e, f⟩ := h1
  exact ⟨a, b, Nat.le_of_ble_eq_true c, by rw [a]; exact d, by rw [a]; exact e, by rw [a]; exact f⟩
/-- the classes of the objects -/
theorem lay_ob {k ci : Nat} {fl : List (Option Nat)} (h : lay k = .inl (ci, fl)) : ∃ C, vwCl[ci]? = some (C, TF ci, fl.length) ∧ C = cn ci ∧ (∀ w ∈ u_ws C (TF ci) fl.length, w ∈ AW) ∧ (∀ j, j < fl.length → parseFieldDescriptor (TF ci j).2.2.1 = some (TY ci j)) ∧ ∀ a, a < fl.length → ∀ b, b < fl.length → a ≠ b → (TF ci a).2.1 ≠ (TF ci b).2.1 := by
  have hk : k < 33 := by
    rcases Nat.lt_or_ge k 33 with q | q
    · exact q
    · unfold lay at h
      rw [nth_ge LAYL k _ q] at h
      cases h
  have h5 : k = 0 ∨ k = 2 ∨ k = 4 ∨ k = 6 ∨ k = 8 ∨ k = 9 ∨ k = 13 := by
    rcases (show k = 0 ∨ k = 1 ∨ k = 2 ∨ k = 3 ∨ k = 4 ∨ k = 5 ∨ k = 6 ∨ k = 7 ∨ k = 8 ∨ k = 9 ∨ k = 10 ∨ k = 11 ∨ k = 12 ∨ k = 13 ∨ k = 14 ∨ k = 15 ∨ k = 16 ∨ k = 17 ∨ k = 18 ∨ k = 19 ∨ k = 20 ∨ k = 21 ∨ k = 22 ∨ k = 23 ∨ k = 24 ∨ k = 25 ∨ k = 26 ∨ k = 27 ∨ k = 28 ∨ k = 29 ∨ k = 30 ∨ k = 31 ∨ k = 32 by omega) with rfl | rfl | rfl | rfl | rfl | rfl | rfl | rfl | rfl | rfl | rfl | rfl | rfl | rfl | rfl | rfl | rfl | rfl | rfl | rfl | rfl | rfl | rfl | rfl | rfl | rfl | rfl | rfl | rfl | rfl | rfl | rfl | rfl <;> first | (exfalso; cases h; done) | omega
  rcases h5 with rfl | rfl | rfl | rfl | rfl | rfl | rfl
  · cases h
    exact ⟨RX5, rfl, rfl, fun w h => aw_u (List.mem_append_right _ (List.mem_append_right _ (List.mem_append_right _ (List.mem_append_right _ (List.mem_append_right _ (List.mem_append_left _ h)))))), tyX5_ok, nmX5⟩
  · cases h
    exact ⟨RX3, rfl, rfl, fun w h => aw_u (List.mem_append_right _ (List.mem_append_right _ (List.mem_append_right _ (List.mem_append_left _ h)))), tyX3_ok, nmX3⟩
  · cases h
    exact ⟨RX2, rfl, rfl, fun w h => aw_u (List.mem_append_right _ (List.mem_append_right _ (List.mem_append_left _ h))), tyX2_ok, nmX2⟩
  · cases h
    exact ⟨RX0, rfl, rfl, fun w h => aw_u (List.mem_append_left _ h), tyX0_ok, nmX0⟩
  · cases h
    exact ⟨RX4, rfl, rfl, fun w h => aw_u (List.mem_append_right _ (List.mem_append_right _ (List.mem_append_right _ (List.mem_append_right _ (List.mem_append_left _ h))))), tyX4_ok, nmX4⟩
  · cases h
    exact ⟨RX1, rfl, rfl, fun w h => aw_u (List.mem_append_right _ (List.mem_append_left _ h)), tyX1_ok, nmX1⟩
  · cases h
    exact ⟨RX6, rfl, rfl, fun w h => aw_u (List.mem_append_right _ (List.mem_append_right _ (List.mem_append_right _ (List.mem_append_right _ (List.mem_append_right _ (List.mem_append_right _ h)))))), tyX6_ok, nmX6⟩
theorem lay_aq {k n q : Nat} (h : lay k = .inr (n, some q)) : (k = 1 ∧ n = 4 ∧ q = 2) ∨ (k = 7 ∧ n = 8 ∧ q = 8) := by
  have hk : k < 33 := by
    rcases Nat.lt_or_ge k 33 with q | q
    · exact q
    · unfold lay at h
      rw [nth_ge LAYL k _ q] at h
      cases h
  rcases (show k = 0 ∨ k = 1 ∨ k = 2 ∨ k = 3 ∨ k = 4 ∨ k = 5 ∨ k = 6 ∨ k = 7 ∨ k = 8 ∨ k = 9 ∨ k = 10 ∨ k = 11 ∨ k = 12 ∨ k = 13 ∨ k = 14 ∨ k = 15 ∨ k = 16 ∨ k = 17 ∨ k = 18 ∨ k = 19 ∨ k = 20 ∨ k = 21 ∨ k = 22 ∨ k = 23 ∨ k = 24 ∨ k = 25 ∨ k = 26 ∨ k = 27 ∨ k = 28 ∨ k = 29 ∨ k = 30 ∨ k = 31 ∨ k = 32 by omega) with rfl | rfl | rfl | rfl | rfl | rfl | rfl | rfl | rfl | rfl | rfl | rfl | rfl | rfl | rfl | rfl | rfl | rfl | rfl | rfl | rfl | rfl | rfl | rfl | rfl | rfl | rfl | rfl | rfl | rfl | rfl | rfl | rfl <;> first | (exfalso; cases h; done) | (cases h; exact Or.inl ⟨rfl, rfl, rfl⟩) | (cases h; exact Or.inr ⟨rfl, rfl, rfl⟩)
theorem cE_ob {ad : Nat → Nat → Nat} {cI cT cS : ClassId} {row : Nat → Int32} {k i ci : Nat} {fl : List (Option Nat)} (h : lay k = .inl (ci, fl)) : cE ad cI cT cS row k i = .inr (ci, fvs ad row i 0 fl) := by unfold cE; rw [h]
theorem cE_ar {ad : Nat → Nat → Nat} {cI cT cS : ClassId} {row : Nat → Int32} {k i n : Nat} (h : lay k = .inr (n, none)) : cE ad cI cT cS row k i = .inl (cI, n, .inl row) := by unfold cE; rw [h]
theorem cE_aq {ad : Nat → Nat → Nat} {cI cT cS : ClassId} {row : Nat → Int32} {k i n q : Nat} (h : lay k = .inr (n, some q)) : cE ad cI cT cS row k i = .inl (cond (Nat.beq q 8) cT cS, n, .inr (.inr (.inr (.inr (fun j => some (ad q (row j).toNatClampNeg)))))) := by unfold cE; rw [h]
theorem nth_map_some {l : List (Option Nat)} {k : Nat} {d : Option Nat} (h : nth (l.map some) k none = some d) : l[k]? = some d := by
  have h1 := nth_some (l.map some) k none (some d) h (fun q => by cases q)
  rw [List.getElem?_map] at h1
  cases hq : l[k]? with
  | none => rw [hq] at h1; cases h1
  | some a => rw [hq] at h1; exact Option.some.inj h1
theorem pF_e {d : Option (Option Nat)} {k : Prop} {q : Nat → Prop} (h : pF d k q) : (d = some none ∧ k) ∨ ∃ a, d = some (some a) ∧ q a := by
  match d, h with
  | some none, h => exact Or.inl ⟨rfl, h⟩
  | some (some a), h => exact Or.inr ⟨a, rfl, h⟩
  | none, h => exact False.elim h
theorem swT_get {K : Int → Prop} {v : Int32} : ∀ (l : List Int) (n : Int) (j : Nat) (o : Int), swT K v l n → l[j]? = some o → v = Int32.ofInt (n + j) → K o
  | [], _, _, _, _, h, _ => by simp at h
  | a :: r, n, 0, o, hs, h, hv => by
    have : a = o := by simpa using h
    subst this
    exact hs.1 (by rw [hv]; congr 1; omega)
  | a :: r, n, j + 1, o, hs, h, hv => swT_get r (n + 1) j o hs.2 (by simpa using h) (by rw [hv]; congr 1; omega)
theorem swL_get {K : Int → Prop} {v : Int32} {d : Int} : ∀ (l : List (Int × Int)), (∀ q ∈ l, -1000 ≤ q.1 ∧ q.1 ≤ 1000) → swL K v d l → K (Op.lookupswitch.offset l d v.toInt)
  | [], _, h => h
  | (a, o) :: r, hr, h => by
    rw [Op.lookupswitch.offset_cons]
    have ha := hr (a, o) List.mem_cons_self
    by_cases hv : v = Int32.ofInt a
    · rw [if_pos]
      · exact h.1 hv
      · rw [hv, Int32.toInt_ofInt]
        simp only at ha
        rw [show Int32.size = 4294967296 from rfl]
        exact (Int.bmod_eq_of_le (by omega) (by omega)).symm
    · rw [if_neg]
      · exact swL_get r (fun q hq => hr q (List.mem_cons_of_mem _ hq)) (h.2 hv)
      · intro he
        exact hv (by rw [he, Int32.ofInt_toInt])
theorem jmp_hd {t : Nat} : ∀ (l : List En) {f : En} {r : List En}, jmp l t = f :: r → f.1 = t
  | [], _, _, h => by cases h
  | e :: l, f, r, h => by
    unfold jmp at h
    cases hb : Nat.beq e.1 t with
    | true => rw [hb] at h; cases h; exact Nat.eq_of_beq_eq_true hb
    | false => rw [hb] at h; exact jmp_hd l h
def SF (mm : Nat) (code : List En) : Prop := code.all (okD (mC mm)) = true ∧ code.all (okE (mcl mm) (mR mm)) = true ∧ okS code = true
theorem SF.t {mm : Nat} {f : En} {r : List En} (h : SF mm (f :: r)) : SF mm r := by
  obtain ⟨a, b, c⟩ := h
  rw [List.all_cons, Bool.and_eq_true] at a b
  unfold okS at c
  rw [Bool.and_eq_true] at c
  exact ⟨a.2, b.2, c.2⟩
theorem SF.j {mm t : Nat} : ∀ (l : List En), SF mm l → SF mm (jmp l t)
  | [], h => h
  | f :: r, h => by
    show SF mm (cond (Nat.beq f.1 t) (f :: r) (jmp r t))
    cases Nat.beq f.1 t with
    | true => exact h
    | false => exact SF.j r h.t
theorem okD_e {cc : ByteArray} {f : En} (h : okD cc f = true) : ∃ n, decode cc f.1 = .ok (f.2.1, n) ∧ (ln f.2.1 = 0 ∨ n = ln f.2.1) := by
  unfold okD at h
  cases hd : decode cc f.1 with
  | error q => rw [hd] at h; cases h
  | ok q =>
    obtain ⟨i, n⟩ := q
    rw [hd] at h
    simp only [Bool.and_eq_true, decide_eq_true_eq, Bool.or_eq_true] at h
    obtain ⟨rfl, h2⟩ := h
    refine ⟨n, rfl, ?_⟩
    rcases h2 with h2 | h2
    · exact Or.inl (Nat.eq_of_beq_eq_true h2)
    · exact Or.inr (Nat.eq_of_beq_eq_true h2)
theorem okS_e {f g : En} {r : List En} (h : okS (f :: g :: r) = true) (hn : ln f.2.1 ≠ 0) : g.1 = f.1 + ln f.2.1 := by
  unfold okS at h
  rw [Bool.and_eq_true] at h
  have h1 := h.1
  simp only [Bool.or_eq_true] at h1
  rcases h1 with h1 | h1
  · exact absurd (Nat.eq_of_beq_eq_true h1) hn
  · exact Nat.eq_of_beq_eq_true h1
theorem cats_of {ad : Nat → Nat → Nat} : ∀ (r : List AV), ((r.map (cv ad)).map fun v => v.category).sum = szs r
  | [] => rfl
  | v :: r => by
    simp only [List.map_cons, List.sum_cons, szs]
    rw [cats_of r]
    congr 1
    match v with
    | .inl a => rfl
    | .inr (.inl a) => rfl
    | .inr (.inr none) => rfl
    | .inr (.inr (some (k, i))) => rfl
theorem KPre_blind {D : va_G} {ad : Nat → Nat → Nat} {cI cT cS : ClassId} {sz : Nat} {av : List AV} {x : Mem} : FrameBlind (KPre D ad cI cT cS sz av x) := fun a U g mk q => by
  obtain ⟨q0, q1, qP, qK, qN, qD⟩ := q
  exact ⟨q0, q1, qP, va_K.moved (u := U) (U := U.calling g mk a) (Vm.Alike.refl U.vm) qK, fun z hz => va_Nw.same rfl rfl (qN z hz), qD⟩
section SND
variable {p : Program} {l : Launch} {e : Env} {R : Room} {s : State} {m : MethodId} {args : Array Value} {below : List Frame} {meth : Method} {c : Code}
theorem w_call {H : Heap} {locs : List Loc} {cells slots : Nat} {Q : State → Prop} {pc : Nat} {ls : Array Slot} {rest st0 : List Value} {A0 A1 : Nat → Prop} {H0 : Heap} {free : Addr → Prop} {Qa : State → Outcome → State → Prop} (hr : va_Run p l e R s m args below meth c H locs cells slots 0 0 (F0 m pc ls st0) rest Qa free) (hS : va_S A0 H0 H locs) (hQ : ∀ st oc t, Qa st oc t → va_F A1 st t) (hA : ∀ q, q < H.size → A1 q → A0 q) (hf : ∀ q, free q → A0 q)
    (kk : ∀ (v : Option Value) (st t : State) (H1 : Heap) (locs1 : List Loc), t.heap = H1 → Qa st (.returned v) t → va_S A0 H0 H1 locs1 → W p l e R s m args below meth c H1 locs1 cells slots Q (F0 m (pc + 3) ls (v.toList ++ rest))) : W p l e R s m args below meth c H locs cells slots Q (F0 m pc ls st0) := by
  intro T hT X
  obtain ⟨v, st₀, t, T', L, h0, X', hL, e1, e2, hq, st⟩ := hr T hT X
  obtain ⟨hz, hk⟩ := hQ _ _ _ hq
  rw [h0] at hz hk
  obtain ⟨t2, a1, b1⟩ := kk v st₀ t T'.heap (locs ++ L) e1.symm hq
    ⟨Nat.le_trans hS.1 (by rw [e1]; exact hz), fun q h1 h2 => by rw [e1, hk q (Nat.lt_of_lt_of_le h1 hS.1) (fun z => h2 (hA q (Nat.lt_of_lt_of_le h1 hS.1) z))]; exact hS.2.1 q h1 h2, fun q hq => by
      rcases List.mem_append.mp hq with h | h
      · exact hS.2.2 q h
      · exact hf _ (hL q h)⟩ T' rfl X'
  exact ⟨t2, st t2 a1, b1⟩
/-- what holds while a method runs -/
def Ctx (p : Program) (s : State) (m : MethodId) (args : Array Value) (meth : Method) (c : Code) (D : va_G) (cI cT cS : ClassId) (mm : Nat) : Prop := p.tables.exec = Jvm.exec ∧ c.code = mC mm ∧ meth.sig.returnType = mR mm ∧ c.maxLocals = mL mm ∧ s.vm.findClass (cn (mcl mm)) = some m.cls ∧ (∀ w ∈ wsm mm, w.before args s = true) ∧ va_K D vwCl (Tys cI cT cS) s ∧ NWs s ∧ meth.locks = false
/-- what P says of a point of the method -/
def Pnt (p : Program) (l : Launch) (e : Env) (R : Room) (s : State) (m : MethodId) (args : Array Value) (below : List Frame) (meth : Method) (c : Code) (D : va_G) (ad : Nat → Nat → Nat) (cI cT cS : ClassId) (mm : Nat) (Q : Option AV → Mem → Prop) : Pt0 := fun code ls st x => ∃ f r, code = f :: r ∧ (SF mm code → ∀ (H : Heap) (locs : List Loc) (la : Array Slot), LOK ad ls (mL mm) la → ROK ls → ROK st → WO D ad cI cT cS (AD ad s.heap.size) s.heap x H locs → W p l e R s m args below meth c H locs 0 0 (MQ below (GQ D ad cI cT cS s.heap.size Q) args s 0 0 (AD ad s.heap.size)) (F0 m f.1 la (st.map (cv ad))))
set_option maxHeartbeats 40000000 in
set_option maxRecDepth 100000 in
theorem step_ok {D : va_G} {ad : Nat → Nat → Nat} {cI cT cS : ClassId} {mm d : Nat} {C : Cl0} {Q : Option AV → Mem → Prop} (X : Ctx p s m args meth c D cI cT cS mm) (hRf : 1 ≤ R.frames) (hRl : 60 ≤ R.locals)
    (hC : ∀ (mid : Nat) (av : List AV) (x : Mem) (Q' : Option AV → Mem → Prop), C mid av x Q' → mid < NM → ROK av → (rmD d).frames + 1 ≤ R.frames ∧ 8 + (11 + 11) + (rmD d).locals ≤ R.locals ∧ WMet l D ad cI cT cS d mid av x Q')
    (f : En) (nx : List En) (ls st : List AV) (x : Mem) (h : stp (mco mm) (mbo mm) C Q (Pnt p l e R s m args below meth c D ad cI cT cS mm Q) f nx ls st x) (hco : SF mm (mco mm)) : Pnt p l e R s m args below meth c D ad cI cT cS mm Q (f :: nx) ls st x := by
  refine ⟨f, nx, rfl, fun hSF H locs la hL hRL hRS hW => ?_⟩
  obtain ⟨hx, hb, hr, hml, hown, hws, hK, hNW, hlocks⟩ := X
  have hts : ∀ w ∈ AW, w.before args s = true := fun w h => hws w (List.mem_cons_of_mem _ h)
  have hE : okE (mcl mm) (mR mm) f = true := by
    have := hSF.2.1
    rw [List.all_cons, Bool.and_eq_true] at this
    exact this.1
  have hD0 : ∃ n, decode (mC mm) f.1 = .ok (f.2.1, n) ∧ (ln f.2.1 = 0 ∨ n = ln f.2.1) := by
    have := hSF.1
    rw [List.all_cons, Bool.and_eq_true] at this
    exact okD_e this.1
  have hd : ln f.2.1 ≠ 0 → decode (mC mm) f.1 = .ok (f.2.1, ln f.2.1) := by
    intro hn
    obtain ⟨n, h1, h2⟩ := hD0
    rcases h2 with h2 | h2
    · exact absurd h2 hn
    · rw [← h2]; exact h1
  -- the next instruction
  have go : ∀ {ls' st' : List AV} {x' : Mem} {H' : Heap} {locs' : List Loc} {la' : Array Slot}, Pnt p l e R s m args below meth c D ad cI cT cS mm Q nx ls' st' x' → ln f.2.1 ≠ 0 → LOK ad ls' (mL mm) la' → ROK ls' → ROK st' → WO D ad cI cT cS (AD ad s.heap.size) s.heap x' H' locs' → W p l e R s m args below meth c H' locs' 0 0 (MQ below (GQ D ad cI cT cS s.heap.size Q) args s 0 0 (AD ad s.heap.size)) (F0 m (f.1 + ln f.2.1) la' (st'.map (cv ad))) := by
    intro ls' st' x' H' locs' la' hP hn h1 h2 h3 h4
    obtain ⟨g, r, rfl, hg⟩ := hP
    have := hg hSF.t H' locs' la' h1 h2 h3 h4
    rw [okS_e hSF.2.2 hn] at this
    exact this
  have gj : ∀ {t : Nat} {ls' st' : List AV} {x' : Mem} {H' : Heap} {locs' : List Loc} {la' : Array Slot}, Pnt p l e R s m args below meth c D ad cI cT cS mm Q (jmp (mco mm) t) ls' st' x' → LOK ad ls' (mL mm) la' → ROK ls' → ROK st' → WO D ad cI cT cS (AD ad s.heap.size) s.heap x' H' locs' → W p l e R s m args below meth c H' locs' 0 0 (MQ below (GQ D ad cI cT cS s.heap.size Q) args s 0 0 (AD ad s.heap.size)) (F0 m t la' (st'.map (cv ad))) := by
    intro t ls' st' x' H' locs' la' hP h1 h2 h3 h4
    obtain ⟨g, r, hj, hg⟩ := hP
    have := hg (SF.j _ hco) H' locs' la' h1 h2 h3 h4
    rw [jmp_hd _ hj] at this
    exact this
  have hA : ∀ q : Nat, s.heap.size ≤ q → AD ad s.heap.size q := fun q h => Or.inr h
  obtain ⟨pc, ins, i1, i2, v⟩ := f
  unfold okE at hE
  rw [Bool.and_eq_true] at hE
  obtain ⟨hER, hE⟩ := hE
  cases ins
  case iconst n => exact lv_iconst hx hb (hd (Nat.succ_ne_zero _)) (of_decide_eq_true hE) (go h (Nat.succ_ne_zero _) hL hRL hRS.i hW)
  case bipush n => exact lv_bipush hx hb (hd (Nat.succ_ne_zero _)) (of_decide_eq_true hE) (go h (Nat.succ_ne_zero _) hL hRL hRS.i hW)
  case sipush n => exact lv_sipush hx hb (hd (Nat.succ_ne_zero _)) (of_decide_eq_true hE) (go h (Nat.succ_ne_zero _) hL hRL hRS.i hW)
  case ldc_w n => exact lv_ldcw hx hb hown (hts _ (aw_int (of_decide_eq_true hE))) (hd (Nat.succ_ne_zero _)) (go h (Nat.succ_ne_zero _) hL hRL hRS.i hW)
  case lconst n => exact lv_lconst hx hb (hd (Nat.succ_ne_zero _)) (show Int64.ofNat n.val = lN i1 by rw [show n.val = i1 from Nat.eq_of_beq_eq_true hE]; rfl) (go h (Nat.succ_ne_zero _) hL hRL hRS.l hW)
  case ldc2_w n => exact lv_ldc2 hx hb hown (hts _ (aw_lng (of_decide_eq_true hE))) (hd (Nat.succ_ne_zero _)) (go h (Nat.succ_ne_zero _) hL hRL hRS.l hW)
  case iload_n n =>
    obtain ⟨a, r, he, h⟩ := pI_e h
    have he := (List.cons.inj he).1
    exact lv_iload_n hx hb (hd (Nat.succ_ne_zero _)) rfl (hL.at he (fun q => by cases q)) (go h (Nat.succ_ne_zero _) hL hRL hRS.i hW)
  case iload n =>
    obtain ⟨a, r, he, h⟩ := pI_e h
    have he := (List.cons.inj he).1
    exact lv_iload hx hb (hd (Nat.succ_ne_zero _)) (hL.at he (fun q => by cases q)) (go h (Nat.succ_ne_zero _) hL hRL hRS.i hW)
  case lload_n n =>
    obtain ⟨a, r, he, h⟩ := pL_e h
    have he := (List.cons.inj he).1
    exact lv_lload_n hx hb (hd (Nat.succ_ne_zero _)) rfl (hL.at he (fun q => by cases q)) (go h (Nat.succ_ne_zero _) hL hRL hRS.l hW)
  case lload n =>
    obtain ⟨a, r, he, h⟩ := pL_e h
    have he := (List.cons.inj he).1
    exact lv_lload hx hb (hd (Nat.succ_ne_zero _)) (hL.at he (fun q => by cases q)) (go h (Nat.succ_ne_zero _) hL hRL hRS.l hW)
  case aload_n n =>
    obtain ⟨a, b, r, he, h⟩ := pR_e h
    have he := (List.cons.inj he).1
    have hq := nth_some ls n.val vu _ he (fun q => by cases q)
    exact lv_aload_n hx hb (hd (Nat.succ_ne_zero _)) rfl (hL.at he (fun q => by cases q)) (go h (Nat.succ_ne_zero _) hL hRL (hRS.r (hRL a b (List.mem_of_getElem? hq))) hW)
  case aload n =>
    obtain ⟨a, b, r, he, h⟩ := pR_e h
    have he := (List.cons.inj he).1
    have hq := nth_some ls n vu _ he (fun q => by cases q)
    exact lv_aload hx hb (hd (Nat.succ_ne_zero _)) (hL.at he (fun q => by cases q)) (go h (Nat.succ_ne_zero _) hL hRL (hRS.r (hRL a b (List.mem_of_getElem? hq))) hW)
  case istore_n n =>
    obtain ⟨a, r, rfl, h⟩ := pI_e h
    obtain ⟨ho, h⟩ := gd_e h
    exact lv_istore_n hx hb (hd (Nat.succ_ne_zero _)) rfl (lvl_has hL) (by rw [← hL.1]; exact okst_lt ho) rfl (fun la' hl' => go h (Nat.succ_ne_zero _) (hL.st1 ho hl') (hRL.set _ ROK.nil.i) hRS.t hW)
  case istore n =>
    obtain ⟨a, r, rfl, h⟩ := pI_e h
    obtain ⟨ho, h⟩ := gd_e h
    exact lv_istore hx hb (hd (Nat.succ_ne_zero _)) (lvl_has hL) (by rw [← hL.1]; exact okst_lt ho) rfl (fun la' hl' => go h (Nat.succ_ne_zero _) (hL.st1 ho hl') (hRL.set _ ROK.nil.i) hRS.t hW)
  case astore_n n =>
    obtain ⟨a, b, r, rfl, h⟩ := pR_e h
    obtain ⟨ho, h⟩ := gd_e h
    exact lv_astore_n hx hb (hd (Nat.succ_ne_zero _)) rfl (lvl_has hL) (by rw [← hL.1]; exact okst_lt ho) rfl (fun la' hl' => go h (Nat.succ_ne_zero _) (hL.st1 ho hl') (hRL.set _ (ROK.nil.r hRS.v)) hRS.t hW)
  case astore n =>
    obtain ⟨a, b, r, rfl, h⟩ := pR_e h
    obtain ⟨ho, h⟩ := gd_e h
    exact lv_astore hx hb (hd (Nat.succ_ne_zero _)) (lvl_has hL) (by rw [← hL.1]; exact okst_lt ho) rfl (fun la' hl' => go h (Nat.succ_ne_zero _) (hL.st1 ho hl') (hRL.set _ (ROK.nil.r hRS.v)) hRS.t hW)
  case lstore_n n =>
    obtain ⟨a, r, rfl, h⟩ := pL_e h
    obtain ⟨ho, h⟩ := gd_e h
    rw [Bool.and_eq_true] at ho
    have h1 := Nat.blt_eq.mp ho.2
    exact lv_lstore_n hx hb (hd (Nat.succ_ne_zero _)) rfl (lvl_has hL) (by rw [← hL.1]; exact h1) rfl (fun la' hl' => go h (Nat.succ_ne_zero _) (hL.st2 ho.1 h1 hl') ((hRL.set _ ROK.nil.l).set _ (fun k i hm => by rcases List.mem_cons.mp hm with q | q <;> cases q)) hRS.t hW)
  case lstore n =>
    obtain ⟨a, r, rfl, h⟩ := pL_e h
    obtain ⟨ho, h⟩ := gd_e h
    rw [Bool.and_eq_true] at ho
    have h1 := Nat.blt_eq.mp ho.2
    exact lv_lstore hx hb (hd (Nat.succ_ne_zero _)) (lvl_has hL) (by rw [← hL.1]; exact h1) rfl (fun la' hl' => go h (Nat.succ_ne_zero _) (hL.st2 ho.1 h1 hl') ((hRL.set _ ROK.nil.l).set _ (fun k i hm => by rcases List.mem_cons.mp hm with q | q <;> cases q)) hRS.t hW)
  case iinc n z =>
    obtain ⟨a, r, he, h⟩ := pI_e h
    have he := (List.cons.inj he).1
    obtain ⟨ho, h⟩ := gd_e h
    obtain ⟨k, hk⟩ := List.getElem?_of_mem (lvl_mem (ad := ad) (nth_some ls n vu _ he (fun q => by cases q)) (fun q => by cases q))
    exact lv_iinc hx hb (hd (Nat.succ_ne_zero _)) (lvl_has hL) (x := a) (v := a + v) (k := k) hk (by rw [← show Int32.ofInt z = v from of_decide_eq_true hE]) (by rw [← hL.1]; exact okst_lt ho) rfl (fun la' hl' => go h (Nat.succ_ne_zero _) (hL.st1 ho hl') (hRL.set _ ROK.nil.i) hRS hW)
  case iadd =>
    obtain ⟨b, r, rfl, h⟩ := pI_e h
    obtain ⟨a, r, rfl, h⟩ := pI_e h
    exact lv_iadd hx hb (hd (Nat.succ_ne_zero _)) (go h (Nat.succ_ne_zero _) hL hRL hRS.t.t.i hW)
  case isub =>
    obtain ⟨b, r, rfl, h⟩ := pI_e h
    obtain ⟨a, r, rfl, h⟩ := pI_e h
    exact lv_isub hx hb (hd (Nat.succ_ne_zero _)) (go h (Nat.succ_ne_zero _) hL hRL hRS.t.t.i hW)
  case imul =>
    obtain ⟨b, r, rfl, h⟩ := pI_e h
    obtain ⟨a, r, rfl, h⟩ := pI_e h
    exact lv_imul hx hb (hd (Nat.succ_ne_zero _)) (go h (Nat.succ_ne_zero _) hL hRL hRS.t.t.i hW)
  case iand =>
    obtain ⟨b, r, rfl, h⟩ := pI_e h
    obtain ⟨a, r, rfl, h⟩ := pI_e h
    exact lv_iand hx hb (hd (Nat.succ_ne_zero _)) (go h (Nat.succ_ne_zero _) hL hRL hRS.t.t.i hW)
  case ior =>
    obtain ⟨b, r, rfl, h⟩ := pI_e h
    obtain ⟨a, r, rfl, h⟩ := pI_e h
    exact lv_ior hx hb (hd (Nat.succ_ne_zero _)) (go h (Nat.succ_ne_zero _) hL hRL hRS.t.t.i hW)
  case ixor =>
    obtain ⟨b, r, rfl, h⟩ := pI_e h
    obtain ⟨a, r, rfl, h⟩ := pI_e h
    exact lv_ixor hx hb (hd (Nat.succ_ne_zero _)) (go h (Nat.succ_ne_zero _) hL hRL hRS.t.t.i hW)
  case ishl =>
    obtain ⟨b, r, rfl, h⟩ := pI_e h
    obtain ⟨a, r, rfl, h⟩ := pI_e h
    exact lv_ishl hx hb (hd (Nat.succ_ne_zero _)) (go h (Nat.succ_ne_zero _) hL hRL hRS.t.t.i hW)
  case ishr =>
    obtain ⟨b, r, rfl, h⟩ := pI_e h
    obtain ⟨a, r, rfl, h⟩ := pI_e h
    exact lv_ishr hx hb (hd (Nat.succ_ne_zero _)) (go h (Nat.succ_ne_zero _) hL hRL hRS.t.t.i hW)
  case iushr =>
    obtain ⟨b, r, rfl, h⟩ := pI_e h
    obtain ⟨a, r, rfl, h⟩ := pI_e h
    exact lv_iushr hx hb (hd (Nat.succ_ne_zero _)) rfl (go h (Nat.succ_ne_zero _) hL hRL hRS.t.t.i hW)
  case idiv =>
    obtain ⟨b, r, rfl, h⟩ := pI_e h
    obtain ⟨a, r, rfl, h⟩ := pI_e h
    exact lv_idiv hx hb (hd (Nat.succ_ne_zero _)) h.1 (go h.2 (Nat.succ_ne_zero _) hL hRL hRS.t.t.i hW)
  case irem =>
    obtain ⟨b, r, rfl, h⟩ := pI_e h
    obtain ⟨a, r, rfl, h⟩ := pI_e h
    exact lv_irem hx hb (hd (Nat.succ_ne_zero _)) h.1 (go h.2 (Nat.succ_ne_zero _) hL hRL hRS.t.t.i hW)
  case ladd =>
    obtain ⟨b, r, rfl, h⟩ := pL_e h
    obtain ⟨a, r, rfl, h⟩ := pL_e h
    exact lv_ladd hx hb (hd (Nat.succ_ne_zero _)) (go h (Nat.succ_ne_zero _) hL hRL hRS.t.t.l hW)
  case lsub =>
    obtain ⟨b, r, rfl, h⟩ := pL_e h
    obtain ⟨a, r, rfl, h⟩ := pL_e h
    exact lv_lsub hx hb (hd (Nat.succ_ne_zero _)) (go h (Nat.succ_ne_zero _) hL hRL hRS.t.t.l hW)
  case ldiv =>
    obtain ⟨b, r, rfl, h⟩ := pL_e h
    obtain ⟨a, r, rfl, h⟩ := pL_e h
    exact lv_ldiv hx hb (hd (Nat.succ_ne_zero _)) h.1 (go h.2 (Nat.succ_ne_zero _) hL hRL hRS.t.t.l hW)
  case lrem =>
    obtain ⟨b, r, rfl, h⟩ := pL_e h
    obtain ⟨a, r, rfl, h⟩ := pL_e h
    exact lv_lrem hx hb (hd (Nat.succ_ne_zero _)) h.1 (go h.2 (Nat.succ_ne_zero _) hL hRL hRS.t.t.l hW)
  case lshl =>
    obtain ⟨b, r, rfl, h⟩ := pI_e h
    obtain ⟨a, r, rfl, h⟩ := pL_e h
    exact lv_lshl hx hb (hd (Nat.succ_ne_zero _)) rfl (go h (Nat.succ_ne_zero _) hL hRL hRS.t.t.l hW)
  case lcmp =>
    obtain ⟨b, r, rfl, h⟩ := pL_e h
    obtain ⟨a, r, rfl, h⟩ := pL_e h
    exact W.lcmp hx hb (hd (Nat.succ_ne_zero _)) (go h (Nat.succ_ne_zero _) hL hRL hRS.t.t.i hW)
  case i2l =>
    obtain ⟨a, r, rfl, h⟩ := pI_e h
    exact lv_i2l hx hb (hd (Nat.succ_ne_zero _)) rfl (go h (Nat.succ_ne_zero _) hL hRL hRS.t.l hW)
  case i2b =>
    obtain ⟨a, r, rfl, h⟩ := pI_e h
    exact lv_i2b hx hb (hd (Nat.succ_ne_zero _)) rfl (go h (Nat.succ_ne_zero _) hL hRL hRS.t.i hW)
  case i2s =>
    obtain ⟨a, r, rfl, h⟩ := pI_e h
    exact lv_i2s hx hb (hd (Nat.succ_ne_zero _)) rfl (go h (Nat.succ_ne_zero _) hL hRL hRS.t.i hW)
  case dup =>
    match st, h with
    | [], h => exact False.elim h
    | a :: r, h =>
      obtain ⟨ho, h⟩ := gd_e h
      exact lv_dup hx hb (hd (Nat.succ_ne_zero _)) (cat_1 (by simpa using ho)) (go h (Nat.succ_ne_zero _) hL hRL (hRS.c hRS) hW)
  case pop =>
    match st, h with
    | [], h => exact False.elim h
    | a :: r, h =>
      obtain ⟨ho, h⟩ := gd_e h
      exact lv_pop hx hb (hd (Nat.succ_ne_zero _)) (cat_1 (by simpa using ho)) (go h (Nat.succ_ne_zero _) hL hRL hRS.t hW)
  case dup_x1 =>
    match st, h with
    | [], h => exact False.elim h
    | [a], h => exact False.elim h
    | a :: b :: r, h =>
      obtain ⟨ho, h⟩ := gd_e h
      rw [Bool.and_eq_true] at ho
      exact lv_dup_x1 hx hb (hd (Nat.succ_ne_zero _)) (cat_1 (by simpa using ho.1)) (cat_1 (by simpa using ho.2)) (go h (Nat.succ_ne_zero _) hL hRL (hRS.c (hRS.t.c (hRS.c hRS.t.t))) hW)
  case dup2 =>
    match st, h with
    | [], h => exact False.elim h
    | [a], h => exact False.elim h
    | a :: b :: r, h =>
      obtain ⟨ho, h⟩ := gd_e h
      rw [Bool.and_eq_true] at ho
      exact lv_dup2_11 hx hb (hd (Nat.succ_ne_zero _)) (cat_1 (by simpa using ho.1)) (cat_1 (by simpa using ho.2)) (go h (Nat.succ_ne_zero _) hL hRL (hRS.c (hRS.t.c hRS)) hW)
  case goto o => exact lv_goto hx hb (hd (Nat.succ_ne_zero _)) (of_decide_eq_true hE) (gj h hL hRL hRS hW)
  case ifCond q o =>
    obtain ⟨a, r, rfl, h⟩ := pI_e h
    cases q
    case eq => exact lv_if_eq hx hb (hd (Nat.succ_ne_zero _)) (of_decide_eq_true hE) (fun w => gj (h.1 w) hL hRL hRS.t hW) (fun w => go (h.2 w) (Nat.succ_ne_zero _) hL hRL hRS.t hW)
    case ne => exact lv_if_ne hx hb (hd (Nat.succ_ne_zero _)) (of_decide_eq_true hE) (fun w => gj (h.1 w) hL hRL hRS.t hW) (fun w => go (h.2 w) (Nat.succ_ne_zero _) hL hRL hRS.t hW)
    case lt => exact lv_if_lt hx hb (hd (Nat.succ_ne_zero _)) (of_decide_eq_true hE) (fun w => gj (h.1 w) hL hRL hRS.t hW) (fun w => go (h.2 w) (Nat.succ_ne_zero _) hL hRL hRS.t hW)
    case ge => exact lv_if_ge hx hb (hd (Nat.succ_ne_zero _)) (of_decide_eq_true hE) (fun w => gj (h.1 w) hL hRL hRS.t hW) (fun w => go (h.2 w) (Nat.succ_ne_zero _) hL hRL hRS.t hW)
    case gt => exact lv_if_gt hx hb (hd (Nat.succ_ne_zero _)) (of_decide_eq_true hE) (fun w => gj (h.1 w) hL hRL hRS.t hW) (fun w => go (h.2 w) (Nat.succ_ne_zero _) hL hRL hRS.t hW)
    case le => exact lv_if_le hx hb (hd (Nat.succ_ne_zero _)) (of_decide_eq_true hE) (fun w => gj (h.1 w) hL hRL hRS.t hW) (fun w => go (h.2 w) (Nat.succ_ne_zero _) hL hRL hRS.t hW)
  case if_icmp q o =>
    obtain ⟨b, r, rfl, h⟩ := pI_e h
    obtain ⟨a, r, rfl, h⟩ := pI_e h
    cases q
    case eq => exact lv_icmp_eq hx hb (hd (Nat.succ_ne_zero _)) (of_decide_eq_true hE) (fun w => gj (h.1 w) hL hRL hRS.t.t hW) (fun w => go (h.2 w) (Nat.succ_ne_zero _) hL hRL hRS.t.t hW)
    case ne => exact lv_icmp_ne hx hb (hd (Nat.succ_ne_zero _)) (of_decide_eq_true hE) (fun w => gj (h.1 w) hL hRL hRS.t.t hW) (fun w => go (h.2 w) (Nat.succ_ne_zero _) hL hRL hRS.t.t hW)
    case lt => exact lv_icmp_lt hx hb (hd (Nat.succ_ne_zero _)) (of_decide_eq_true hE) (fun w => gj (h.1 w) hL hRL hRS.t.t hW) (fun w => go (h.2 w) (Nat.succ_ne_zero _) hL hRL hRS.t.t hW)
    case ge => exact lv_icmp_ge hx hb (hd (Nat.succ_ne_zero _)) (of_decide_eq_true hE) (fun w => gj (h.1 w) hL hRL hRS.t.t hW) (fun w => go (h.2 w) (Nat.succ_ne_zero _) hL hRL hRS.t.t hW)
    case gt => exact lv_icmp_gt hx hb (hd (Nat.succ_ne_zero _)) (of_decide_eq_true hE) (fun w => gj (h.1 w) hL hRL hRS.t.t hW) (fun w => go (h.2 w) (Nat.succ_ne_zero _) hL hRL hRS.t.t hW)
    case le => exact lv_icmp_le hx hb (hd (Nat.succ_ne_zero _)) (of_decide_eq_true hE) (fun w => gj (h.1 w) hL hRL hRS.t.t hW) (fun w => go (h.2 w) (Nat.succ_ne_zero _) hL hRL hRS.t.t hW)
  case tableswitch dd lo hi offs =>
    obtain ⟨a, r, rfl, h⟩ := pI_e h
    obtain ⟨n, hdd, -⟩ := hD0
    simp only [Bool.and_eq_true, decide_eq_true_eq, List.all_eq_true] at hE
    obtain ⟨⟨hE1, hE2⟩, hE3, hE4, hE5⟩ := hE
    by_cases h1 : a.toInt < lo ∨ hi < a.toInt
    · exact lv_tableOut hx hb hdd h1 (tgt := ((pc : Int) + dd).toNat) (by rw [Int.toNat_of_nonneg hE1]) (gj (h.1 h1) hL hRL hRS.t hW)
    · have h2 : ¬ a.toInt < lo := fun q => h1 (Or.inl q)
      have h3 : ¬ hi < a.toInt := fun q => h1 (Or.inr q)
      have h4 : (a.toInt - lo).toNat < offs.size := by omega
      have h5 : offs[(a.toInt - lo).toNat]? = some offs[(a.toInt - lo).toNat] := Array.getElem?_eq_getElem h4
      have h6 : offs.toList[(a.toInt - lo).toNat]? = some offs[(a.toInt - lo).toNat] := by rw [Array.getElem?_toList]; exact h5
      have h7 := hE2 _ (List.mem_of_getElem? h6)
      refine lv_tableIn hx hb hdd h2 h3 h5 (tgt := ((pc : Int) + offs[(a.toInt - lo).toNat]).toNat) (by rw [Int.toNat_of_nonneg h7]) (gj (swT_get _ _ _ _ h.2 h6 ?_) hL hRL hRS.t hW)
      rw [show lo + ((a.toInt - lo).toNat : Int) = a.toInt by omega, Int32.ofInt_toInt]
  case lookupswitch dd ps =>
    obtain ⟨a, r, rfl, h⟩ := pI_e h
    obtain ⟨n, hdd, -⟩ := hD0
    simp only [Bool.and_eq_true, decide_eq_true_eq, List.all_eq_true] at hE
    obtain ⟨⟨hE1, hE2⟩, hE3⟩ := hE
    have h9 := swL_get ps.toList (fun q hq => (hE2 q hq).2) h
    have hnn : 0 ≤ (pc : Int) + Op.lookupswitch.offset ps.toList dd a.toInt := by
      have key : ∀ (l : List (Int × Int)), (∀ q ∈ l, 0 ≤ (pc : Int) + q.2) → 0 ≤ (pc : Int) + Op.lookupswitch.offset l dd a.toInt := by
        intro l
        induction l with
        | nil => intro _; exact hE1
        | cons q r ih =>
          intro hq
          obtain ⟨q1, q2⟩ := q
          rw [Op.lookupswitch.offset_cons]
          split
          · exact hq _ List.mem_cons_self
          · exact ih (fun z hz => hq z (List.mem_cons_of_mem _ hz))
      exact key _ (fun q hq => (hE2 q hq).1)
    exact lv_lookup hx hb hdd (by rw [List.all_eq_true]; exact fun ⟨q, r⟩ hx => decide_eq_true (hE3 (q, r) hx)) rfl (tgt := ((pc : Int) + Op.lookupswitch.offset ps.toList dd a.toInt).toNat) (by rw [Int.toNat_of_nonneg hnn]) (gj h9 hL hRL hRS.t hW)
  case getfield n =>
    obtain ⟨k, i, r, rfl, h⟩ := pR_e h
    obtain ⟨ci, fl, hlay, h⟩ := pOb_e h
    obtain ⟨hci, h⟩ := gd_e h
    have hci' : ci = i2 := Nat.eq_of_beq_eq_true hci
    subst hci'
    obtain ⟨CC, hcl, -, hus, -, -⟩ := lay_ob hlay
    obtain ⟨p0, -, hp0⟩ := wl_get (ad := ad) (cI := cI) (cT := cT) (cS := cS) (x := x) hRS.v
    rw [cE_ob hlay] at hp0
    have hw := hts _ (aw_fld (of_decide_eq_true hE))
    rcases pF_e h with ⟨hn, h⟩ | ⟨q, hn, h⟩
    · have hf := nth_map_some hn
      have hv := fvs_get (ad := ad) (row := x k i) (i := i) fl 0 i1 none hf
      rw [Nat.zero_add] at hv
      exact va_get (cl := vwCl) hx hb hts hus hown hK hW.1 p0 hp0 hcl i1 (List.getElem?_eq_some_iff.mp hf).1 hw (fun _ h => h) hv (hd (Nat.succ_ne_zero _)) (go h (Nat.succ_ne_zero _) hL hRL hRS.t.i hW)
    · have hf := nth_map_some hn
      have hv := fvs_get (ad := ad) (row := x k i) (i := i) fl 0 i1 (some q) hf
      have hq : i < cnt q := by
        have h0 := hRS.v
        have hk := cnt_lt h0
        rcases (show k = 0 ∨ k = 1 ∨ k = 2 ∨ k = 3 ∨ k = 4 ∨ k = 5 ∨ k = 6 ∨ k = 7 ∨ k = 8 ∨ k = 9 ∨ k = 10 ∨ k = 11 ∨ k = 12 ∨ k = 13 ∨ (14 ≤ k ∧ k < 33) by omega) with rfl | rfl | rfl | rfl | rfl | rfl | rfl | rfl | rfl | rfl | rfl | rfl | rfl | rfl | hk2
        case inr.inr.inr.inr.inr.inr.inr.inr.inr.inr.inr.inr.inr.inr =>
          exfalso
          rcases (show k = 14 ∨ k = 15 ∨ k = 16 ∨ k = 17 ∨ k = 18 ∨ k = 19 ∨ k = 20 ∨ k = 21 ∨ k = 22 ∨ k = 23 ∨ k = 24 ∨ k = 25 ∨ k = 26 ∨ k = 27 ∨ k = 28 ∨ k = 29 ∨ k = 30 ∨ k = 31 ∨ k = 32 by omega) with rfl | rfl | rfl | rfl | rfl | rfl | rfl | rfl | rfl | rfl | rfl | rfl | rfl | rfl | rfl | rfl | rfl | rfl | rfl <;> cases hlay
        all_goals first
          | (exfalso; cases hlay; done)
          | (cases hlay
             have hm := List.mem_of_getElem? hf
             simp only [List.mem_cons, List.not_mem_nil, or_false, Option.some.injEq, reduceCtorEq, false_or] at hm
             rcases hm with rfl | rfl | rfl | rfl | rfl | rfl | rfl | rfl | rfl | rfl | rfl | rfl | rfl | rfl | rfl | rfl | rfl | rfl | rfl <;> exact h0)
          | (cases hlay
             have hm := List.mem_of_getElem? hf
             simp only [List.mem_cons, List.not_mem_nil, or_false, Option.some.injEq, reduceCtorEq, false_or] at hm
             rcases hm with rfl | rfl | rfl | rfl <;> exact h0)
          | (cases hlay
             have hm := List.mem_of_getElem? hf
             simp only [List.mem_cons, List.not_mem_nil, or_false, Option.some.injEq, reduceCtorEq, false_or] at hm
             rcases hm with rfl | rfl | rfl <;> exact h0)
          | (cases hlay
             have hm := List.mem_of_getElem? hf
             simp only [List.mem_cons, List.not_mem_nil, or_false, Option.some.injEq, reduceCtorEq, false_or] at hm
             rcases hm with rfl | rfl <;> exact h0)
          | (cases hlay
             have hm := List.mem_of_getElem? hf
             simp only [List.mem_cons, List.not_mem_nil, or_false, Option.some.injEq, reduceCtorEq, false_or] at hm
             subst hm; exact h0)
          | (cases hlay
             have hm := List.mem_of_getElem? hf
             simp at hm)
      exact va_get (cl := vwCl) hx hb hts hus hown hK hW.1 p0 hp0 hcl i1 (List.getElem?_eq_some_iff.mp hf).1 hw (fun _ h => h) hv (hd (Nat.succ_ne_zero _)) (go h (Nat.succ_ne_zero _) hL hRL (hRS.t.r hq) hW)
  case putfield n =>
    obtain ⟨w, r, rfl, h⟩ := pI_e h
    obtain ⟨k, i, r, rfl, h⟩ := pR_e h
    obtain ⟨ci, fl, hlay, h⟩ := pOb_e h
    obtain ⟨hci, h⟩ := gd_e h
    have hci' : ci = i2 := Nat.eq_of_beq_eq_true hci
    subst hci'
    obtain ⟨CC, hcl, -, hus, hty, hnm⟩ := lay_ob hlay
    obtain ⟨p0, hpc, hp0⟩ := wl_get (ad := ad) (cI := cI) (cT := cT) (cS := cS) (x := x) hRS.t.v
    rw [cE_ob hlay] at hp0
    rw [Bool.and_eq_true, Bool.and_eq_true] at hE
    obtain ⟨⟨hE1, hE2⟩, hE3⟩ := hE
    have hw := hts _ (aw_fld (of_decide_eq_true hE1))
    rcases pF_e h with ⟨hn, h⟩ | ⟨q, hn, h⟩
    · have hf := nth_map_some hn
      have hlt := (List.getElem?_eq_some_iff.mp hf).1
      refine va_put (D := D) (cl := vwCl) (ty := .int) hx hb hts hus (TY ci) hty hnm hown hK hW.1 hW.2.1 hW.2.2 p0 hp0 hcl i1 hlt hw (fun _ h => h) (of_decide_eq_true hE2) (by rw [hty i1 hlt, show TY ci i1 = .int from of_decide_eq_true hE3]) rfl rfl (by rw [fvs_len]; exact hlt) (hd (Nat.succ_ne_zero _)) (fun H1 locs1 g1 g2 g3 => ?_)
      have hset : (wl ad cI cT cS x).set p0 (ad k i, .inr (ci, (fvs ad (x k i) i 0 fl).set i1 (.int w))) = wl ad cI cT cS (up x k i i1 w) := by
        have := wl_set (ad := ad) (cI := cI) (cT := cT) (cS := cS) (x := x) hpc (upd (x k i) i1 w)
        rw [cE_ob hlay] at this
        rw [fvs_set w fl 0 i1 hf, Nat.zero_add]
        exact this
      exact go h (Nat.succ_ne_zero _) hL hRL hRS.t.t ⟨by rw [← hset]; exact g1, by rw [← hset]; exact g2, g3⟩
    · exact False.elim h
  case iaload =>
    obtain ⟨j, r, rfl, h⟩ := pI_e h
    obtain ⟨k, i, r, rfl, h⟩ := pR_e h
    obtain ⟨n, hlay, h⟩ := pAr_e h
    obtain ⟨p0, -, hp0⟩ := wl_get (ad := ad) (cI := cI) (cT := cT) (cS := cS) (x := x) hRS.t.v
    rw [cE_ar hlay] at hp0
    exact va_iald hx hb hK hW.1 p0 0 hp0 rfl h.1 (hd (Nat.succ_ne_zero _)) (go h.2 (Nat.succ_ne_zero _) hL hRL hRS.t.t.i hW)
  case iastore =>
    obtain ⟨w, r, rfl, h⟩ := pI_e h
    obtain ⟨j, r, rfl, h⟩ := pI_e h
    obtain ⟨k, i, r, rfl, h⟩ := pR_e h
    obtain ⟨n, hlay, h⟩ := pAr_e h
    obtain ⟨p0, hpc, hp0⟩ := wl_get (ad := ad) (cI := cI) (cT := cT) (cS := cS) (x := x) hRS.t.t.v
    rw [cE_ar hlay] at hp0
    refine va_iast hx hb hK hW.1 hW.2.1 hW.2.2 p0 0 hp0 rfl h.1 (hd (Nat.succ_ne_zero _)) (fun H1 locs1 g1 g2 g3 => ?_)
    have hset : (wl ad cI cT cS x).set p0 (ad k i, .inl (cI, n, .inl (upd (x k i) j.toNatClampNeg w))) = wl ad cI cT cS (up x k i j.toNatClampNeg w) := by
      have := wl_set (ad := ad) (cI := cI) (cT := cT) (cS := cS) (x := x) hpc (upd (x k i) j.toNatClampNeg w)
      rw [cE_ar hlay] at this
      exact this
    rw [hset] at g1 g2
    exact go h.2 (Nat.succ_ne_zero _) hL hRL hRS.t.t.t ⟨g1, g2, g3⟩
  case aaload =>
    obtain ⟨j, r, rfl, h⟩ := pI_e h
    obtain ⟨k, i, r, rfl, h⟩ := pR_e h
    obtain ⟨n, q, hlay, h⟩ := pAq_e h
    obtain ⟨p0, -, hp0⟩ := wl_get (ad := ad) (cI := cI) (cT := cT) (cS := cS) (x := x) hRS.t.v
    rw [cE_aq hlay] at hp0
    rcases lay_aq hlay with ⟨-, -, rfl⟩ | ⟨-, -, rfl⟩
    · exact va_aldq hx hb hK hW.1 p0 2 hp0 rfl h.1 (hd (Nat.succ_ne_zero _)) (go h.2.2 (Nat.succ_ne_zero _) hL hRL (hRS.t.t.r h.2.1) hW)
    · exact va_aldq hx hb hK hW.1 p0 1 hp0 rfl h.1 (hd (Nat.succ_ne_zero _)) (go h.2.2 (Nat.succ_ne_zero _) hL hRL (hRS.t.t.r h.2.1) hW)
  case aastore =>
    obtain ⟨kv, iv, r, rfl, h⟩ := pR_e h
    obtain ⟨j, r, rfl, h⟩ := pI_e h
    obtain ⟨k, i, r, rfl, h⟩ := pR_e h
    obtain ⟨n, q, hlay, h⟩ := pAq_e h
    obtain ⟨hkv, h⟩ := gd_e h
    have hkv' : kv = q := Nat.eq_of_beq_eq_true hkv
    subst hkv'
    obtain ⟨p0, hpc, hp0⟩ := wl_get (ad := ad) (cI := cI) (cT := cT) (cS := cS) (x := x) hRS.t.t.v
    rw [cE_aq hlay] at hp0
    obtain ⟨pv, -, hpv⟩ := wl_get (ad := ad) (cI := cI) (cT := cT) (cS := cS) (x := x) hRS.v
    have hiv : (nI iv).toNatClampNeg = iv := nI_clamp (by
      have := hRS.v
      rcases lay_aq hlay with ⟨-, -, rfl⟩ | ⟨-, -, rfl⟩
      · exact Nat.lt_of_lt_of_le (show iv < 4 from this) (by decide)
      · exact Nat.lt_of_lt_of_le (show iv < 8 from this) (by decide))
    have hfun : va_up (fun j => some (ad kv ((x k i) j).toNatClampNeg)) j.toNatClampNeg (some (ad kv iv)) = fun j' => some (ad kv ((upd (x k i) j.toNatClampNeg (nI iv)) j').toNatClampNeg) := by
      funext j'
      by_cases hj : j' = j.toNatClampNeg
      · subst hj; simp [va_up, upd, hiv]
      · simp [va_up, upd, hj]
    have hset := wl_set (ad := ad) (cI := cI) (cT := cT) (cS := cS) (x := x) hpc (upd (x k i) j.toNatClampNeg (nI iv))
    rw [cE_aq hlay, ← hfun] at hset
    rcases lay_aq hlay with ⟨-, -, rfl⟩ | ⟨-, -, rfl⟩
    · rw [cE_ob (show lay 2 = .inl (3, [some 3, none, none]) from rfl)] at hpv
      refine va_astq (r := (RX3, TX3, 3)) hx hb hK hW.1 hW.2.1 hW.2.2 p0 2 pv 3 hp0 rfl hpv rfl h.1 (hd (Nat.succ_ne_zero _)) (fun H1 locs1 g1 g2 g3 => ?_)
      exact go h.2 (Nat.succ_ne_zero _) hL hRL hRS.t.t.t ⟨by rw [show up x k i j.toNatClampNeg (nI iv) = setR x k i (upd (x k i) j.toNatClampNeg (nI iv)) from rfl, ← hset]; exact g1, by rw [show up x k i j.toNatClampNeg (nI iv) = setR x k i (upd (x k i) j.toNatClampNeg (nI iv)) from rfl, ← hset]; exact g2, g3⟩
    · rw [cE_ob (show lay 8 = .inl (4, [none, none, none, none, none]) from rfl)] at hpv
      refine va_astq (r := (RX4, TX4, 5)) hx hb hK hW.1 hW.2.1 hW.2.2 p0 1 pv 4 hp0 rfl hpv rfl h.1 (hd (Nat.succ_ne_zero _)) (fun H1 locs1 g1 g2 g3 => ?_)
      exact go h.2 (Nat.succ_ne_zero _) hL hRL hRS.t.t.t ⟨by rw [show up x k i j.toNatClampNeg (nI iv) = setR x k i (upd (x k i) j.toNatClampNeg (nI iv)) from rfl, ← hset]; exact g1, by rw [show up x k i j.toNatClampNeg (nI iv) = setR x k i (upd (x k i) j.toNatClampNeg (nI iv)) from rfl, ← hset]; exact g2, g3⟩
  case invokevirtual n =>
    simp only [Bool.and_eq_true, decide_eq_true_eq, Bool.not_eq_true'] at hE
    obtain ⟨⟨⟨hE1, hE2⟩, hE3⟩, hE4⟩ := hE
    have hlt : i1 < NM := Nat.blt_eq.mp hE3
    have hn : mN i1 = i2 := Nat.eq_of_beq_eq_true hE4
    obtain ⟨k, i, r, hst, h⟩ := pR_e h
    obtain ⟨ci, fl, hlay, h⟩ := pOb_e h
    obtain ⟨hci, h⟩ := gd_e h
    rw [Bool.and_eq_true] at hci
    have hci1 : ci = mcl i1 := Nat.eq_of_beq_eq_true hci.1
    have hsz : szs r ≤ 8 := Nat.le_of_ble_eq_true hci.2
    have hst0 : st.drop i2 = vr k i :: r := hst
    have hsplit : st = st.take i2 ++ (vr k i :: r) := by rw [← hst0]; exact (List.take_append_drop i2 st).symm
    have hlen : (st.take i2).length = i2 := by
      rw [List.length_take]
      have : i2 < st.length := by
        rcases Nat.lt_or_ge i2 st.length with q | q
        · exact q
        · rw [List.drop_eq_nil_of_le q] at hst0; cases hst0
      omega
    have hRv : ROK (vr k i :: r) := hRS.sub (fun v hv => by rw [hsplit]; exact List.mem_append_right _ hv)
    have hRa : ROK (vr k i :: (st.take i2).reverse) := ROK.r (hRS.sub (fun v hv => List.mem_of_mem_take (List.mem_reverse.mp hv))) hRv.v
    obtain ⟨hR1, hR2, hM⟩ := hC i1 _ x _ h hlt hRa
    obtain ⟨hy1, hy2, hy3, hy4, hy5, hy6⟩ := okY_e hlt
    obtain ⟨CC, hcl, hCC, -, -, -⟩ := lay_ob hlay
    obtain ⟨p0, -, hp0⟩ := wl_get (ad := ad) (cI := cI) (cT := cT) (cS := cS) (x := x) hRv.v
    rw [cE_ob hlay] at hp0
    have hcls : (mY i1).cls = CC := by rw [hy1, hCC, hci1]
    have hw : ∀ w ∈ wsm mm, w.before args s = true := hws
    have hmap : st.map (cv ad) = (((st.take i2).reverse.map (cv ad)).reverse ++ .ref (ad k i) :: r.map (cv ad)) := by
      conv => lhs; rw [hsplit]
      rw [List.map_append, List.map_reverse, List.reverse_reverse]
      rfl
    refine w_call (A1 := AD ad H.size) (free := AD ad H.size) (rest := r.map (cv ad)) (va_runV (Ts := wsm mm) (C := CC) (own := cn (mcl mm)) (b := ad k i) (As := (st.take i2).reverse.map (cv ad)) (rest := r.map (cv ad)) (n := i2) (bytes := mC i1) (maxL := mL i1) (ret := mR i1) ⟨hx, hb, hml, hown, hw⟩ (hM H.size) ?_ ⟨KPre_blind, va_recv hK hW.1 hcl hp0, fun U hU hWm => ?_⟩ rfl (by rw [List.length_map, List.length_reverse]; exact hlen) hL.2.1 hmap (lv_room (by rw [cats_of]; exact hsz)) (hd (Nat.succ_ne_zero _)) ⟨Nat.zero_le _, Nat.zero_le _⟩) hW.2.2 (fun st oc t hq => hq.2) (fun q hq h => ?_) (fun q h => ?_) (fun v st' t H1 locs1 ht hq hS1 => ?_)
    · refine ⟨⟨rfl, rfl, hR1, by omega, pay_in hw (g_wsm hlt), List.mem_cons_self, hts _ (aw_code hlt), hts _ (aw_init hlt), ⟨hy5, hy6⟩, fun sig hs => ?_, hts _ (aw_mth hE1)⟩, hts _ (aw_inst hlt hE2), by rw [← hcls]; exact hts _ (aw_sel hlt hE2)⟩
      rw [hs] at hy2
      exact (hn.symm.trans (Option.some.inj hy2).symm)
    · exact ⟨rfl, by rw [hU], by rw [hU]; exact hW.1, va_K.moved hWm.alike hK, fun q hq => va_Nw.warmM hWm (hNW q hq), hW.2.1.weaken (fun _ _ _ _ => trivial)⟩
    · rcases h with h | h
      · exact Or.inl h
      · omega
    · rcases h with h | h
      · exact Or.inl h
      · exact Or.inr (Nat.le_trans hW.2.2.1 h)
    · obtain ⟨⟨v', x', hv', hRv', hQ', hP', hD'⟩, -⟩ := hq
      cases hv'
      have e1 : (Option.map (cv ad) v').toList ++ r.map (cv ad) = (v'.toList ++ r).map (cv ad) := by cases v' <;> simp
      rw [e1]
      refine go (rO_e hQ') (Nat.succ_ne_zero _) hL hRL ?_ ⟨by rw [← ht]; exact hP', hD'.weaken (fun _ _ _ h => ?_), hS1⟩
      · cases v' with
        | none => exact hRv.t
        | some z => exact ROK.c hRv' hRv.t
      · rcases h with h | h
        · exact Or.inl h
        · exact Or.inr (Nat.le_trans hW.2.2.1 h)
  case invokestatic n =>
    have hw : ∀ w ∈ wsm mm, w.before args s = true := hws
    by_cases h9 : Nat.beq i1 999 = true
    · have h1 : pI st fun n r => pI r fun dp r => pR r fun k1 i1 r => pI r fun sp r => pR r fun k0 i0 r => pAr (lay k0) fun n0 => pAr (lay k1) fun n1 => (¬ sp < 0 ∧ ¬ dp < 0 ∧ ¬ n < 0 ∧ sp.toNatClampNeg + n.toNatClampNeg ≤ n0 ∧ dp.toNatClampNeg + n.toNatClampNeg ≤ n1) ∧ Nat.ble (szs r) 8 = true ∧ Pnt p l e R s m args below meth c D ad cI cT cS mm Q nx ls r (setR x k1 i1 (va_cpy (x k0 i0) (x k1 i1) sp.toNatClampNeg dp.toNatClampNeg n.toNatClampNeg)) := by
        have h2 : cond (Nat.beq i1 999) _ _ := h
        rw [h9] at h2
        exact h2
      have hE1 : Nat.beq (mcl mm) 5 && Nat.beq n 198 := by
        have h2 : cond (Nat.beq i1 999) (Nat.beq (mcl mm) 5 && Nat.beq n 198) _ = true := hE
        rw [h9] at h2
        exact h2
      rw [Bool.and_eq_true] at hE1
      have ho : cn (mcl mm) = RX5 := by rw [Nat.eq_of_beq_eq_true hE1.1]; rfl
      have hn : n = 198 := Nat.eq_of_beq_eq_true hE1.2
      subst hn
      clear h hE
      obtain ⟨nn, r, rfl, z1⟩ := pI_e h1
      clear h1
      obtain ⟨dp, r, rfl, z2⟩ := pI_e z1
      clear z1
      obtain ⟨k1, j1, r, rfl, z3⟩ := pR_e z2
      clear z2
      obtain ⟨sp, r, rfl, z4⟩ := pI_e z3
      clear z3
      obtain ⟨k0, j0, r, rfl, z5⟩ := pR_e z4
      clear z4
      obtain ⟨n0, hl0, z6⟩ := pAr_e z5
      obtain ⟨n1, hl1, z7⟩ := pAr_e z6
      obtain ⟨⟨g1, g2, g3, g4, g5⟩, g6, h1⟩ := z7
      obtain ⟨p0, -, hp0⟩ := wl_get (ad := ad) (cI := cI) (cT := cT) (cS := cS) (x := x) hRS.t.t.t.t.v
      obtain ⟨p1, hpc1, hp1⟩ := wl_get (ad := ad) (cI := cI) (cT := cT) (cS := cS) (x := x) hRS.t.t.v
      rw [cE_ar hl0] at hp0
      rw [cE_ar hl1] at hp1
      have hsz : szs r ≤ 8 := Nat.le_of_ble_eq_true g6
      refine va_copyi (own := cn (mcl mm)) (ty := .int) hx hb (hml.trans hL.2.1.symm) hown (by rw [ho]; exact hts _ (aw_oth (List.mem_of_getElem? (i := 3) rfl))) (hts _ (aw_oth (List.mem_of_getElem? (i := 0) rfl))) (hts _ (aw_oth (List.mem_of_getElem? (i := 1) rfl))) (hts _ (aw_oth (List.mem_of_getElem? (i := 2) rfl))) hK hW.1 hW.2.1 hW.2.2 p0 p1 0 0 hp0 hp1 rfl rfl rfl g1 g2 g3 g4 g5 (fun _ _ => rfl) hRf ?_ (hd (Nat.succ_ne_zero _)) (fun H1 locs1 q1 q2 q3 => ?_)
      · show ((r.map (cv ad)).map fun v => v.category).sum + (nativeFrameWords "java/lang/System" "arraycopy" 5 + 11) ≤ R.locals
        rw [cats_of]
        have : nativeFrameWords "java/lang/System" "arraycopy" 5 ≤ 30 := by decide +kernel
        omega
      · have hset := wl_set (ad := ad) (cI := cI) (cT := cT) (cS := cS) (x := x) hpc1 (va_cpy (x k0 j0) (x k1 j1) sp.toNatClampNeg dp.toNatClampNeg nn.toNatClampNeg)
        rw [cE_ar hl1] at hset
        exact go h1 (Nat.succ_ne_zero _) hL hRL hRS.t.t.t.t.t ⟨by rw [← hset]; exact q1, by rw [← hset]; exact q2, q3⟩
    · have h9' : Nat.beq i1 999 = false := by rw [← Bool.not_eq_true]; exact h9
      by_cases h7 : Nat.beq i1 997 = true
      · have h1 : pI st fun b r => pI r fun a r => gd (Nat.ble (szs r) 8) (Pnt p l e R s m args below meth c D ad cI cT cS mm Q nx ls (vi (if a < b then b else a) :: r) x) := by
          have h2 : cond (Nat.beq i1 999) _ (cond (Nat.beq i1 997) _ _) := h
          rw [h9', h7] at h2
          exact h2
        have hE1 : Nat.beq (mcl mm) 2 && Nat.beq n 52 := by
          have h2 : cond (Nat.beq i1 999) _ (cond (Nat.beq i1 997) (Nat.beq (mcl mm) 2 && Nat.beq n 52) _) = true := hE
          rw [h9', h7] at h2
          exact h2
        rw [Bool.and_eq_true] at hE1
        have ho : cn (mcl mm) = RX2 := by rw [Nat.eq_of_beq_eq_true hE1.1]; rfl
        have hn : n = 52 := Nat.eq_of_beq_eq_true hE1.2
        subst hn
        clear h hE
        obtain ⟨b, r, rfl, z1⟩ := pI_e h1
        clear h1
        obtain ⟨a, r, rfl, z2⟩ := pI_e z1
        clear z1
        obtain ⟨g6, h1⟩ := gd_e z2
        have hsz : szs r ≤ 8 := Nat.le_of_ble_eq_true g6
        exact va_mmax (own := cn (mcl mm)) hx hb (hml.trans hL.2.1.symm) hown (by rw [ho]; exact hts _ (aw_oth (List.mem_of_getElem? (i := 4) rfl))) (hts _ (aw_oth (List.mem_of_getElem? (i := 6) rfl))) (hts _ (aw_oth (List.mem_of_getElem? (i := 8) rfl))) (hts _ (aw_oth (List.mem_of_getElem? (i := 9) rfl))) hRf (by show ((r.map (cv ad)).map fun v => v.category).sum + 13 ≤ R.locals; rw [cats_of]; omega) (Nat.zero_le _) (Nat.zero_le _) (hd (Nat.succ_ne_zero _)) (go h1 (Nat.succ_ne_zero _) hL hRL hRS.t.t.i hW)
      · have h7' : Nat.beq i1 997 = false := by rw [← Bool.not_eq_true]; exact h7
        by_cases h8 : Nat.beq i1 998 = true
        · have h1 : pI st fun b r => pI r fun a r => gd (Nat.ble (szs r) 8) (Pnt p l e R s m args below meth c D ad cI cT cS mm Q nx ls (vi (if b < a then b else a) :: r) x) := by
            have h2 : cond (Nat.beq i1 999) _ (cond (Nat.beq i1 997) _ (cond (Nat.beq i1 998) _ _)) := h
            rw [h9', h7', h8] at h2
            exact h2
          have hE1 : Nat.beq (mcl mm) 2 && Nat.beq n 62 := by
            have h2 : cond (Nat.beq i1 999) _ (cond (Nat.beq i1 997) _ (cond (Nat.beq i1 998) (Nat.beq (mcl mm) 2 && Nat.beq n 62) _)) = true := hE
            rw [h9', h7', h8] at h2
            exact h2
          rw [Bool.and_eq_true] at hE1
          have ho : cn (mcl mm) = RX2 := by rw [Nat.eq_of_beq_eq_true hE1.1]; rfl
          have hn : n = 62 := Nat.eq_of_beq_eq_true hE1.2
          subst hn
          clear h hE
          obtain ⟨b, r, rfl, z1⟩ := pI_e h1
          clear h1
          obtain ⟨a, r, rfl, z2⟩ := pI_e z1
          clear z1
          obtain ⟨g6, h1⟩ := gd_e z2
          have hsz : szs r ≤ 8 := Nat.le_of_ble_eq_true g6
          exact va_mmin (own := cn (mcl mm)) hx hb (hml.trans hL.2.1.symm) hown (by rw [ho]; exact hts _ (aw_oth (List.mem_of_getElem? (i := 5) rfl))) (hts _ (aw_oth (List.mem_of_getElem? (i := 7) rfl))) (hts _ (aw_oth (List.mem_of_getElem? (i := 8) rfl))) (hts _ (aw_oth (List.mem_of_getElem? (i := 10) rfl))) hRf (by show ((r.map (cv ad)).map fun v => v.category).sum + 13 ≤ R.locals; rw [cats_of]; omega) (Nat.zero_le _) (Nat.zero_le _) (hd (Nat.succ_ne_zero _)) (go h1 (Nat.succ_ne_zero _) hL hRL hRS.t.t.i hW)
        · have h8' : Nat.beq i1 998 = false := by rw [← Bool.not_eq_true]; exact h8
          have h1 : gd (Nat.ble i2 st.length && Nat.ble (szs (st.drop i2)) 8) (C i1 (st.take i2).reverse x fun v x' => rO (mrk i1) v fun w => Pnt p l e R s m args below meth c D ad cI cT cS mm Q nx ls (w ++ st.drop i2) x') := by
            have h2 : cond (Nat.beq i1 999) _ (cond (Nat.beq i1 997) _ (cond (Nat.beq i1 998) _ _)) := h
            rw [h9', h7', h8'] at h2
            exact h2
          have hE1 : (decide ((mcl mm, n, i1) ∈ ML ∨ (mcl mm, n, i1) ∈ NLL) && mS i1 && Nat.blt i1 NM && Nat.beq (mN i1) i2) = true := by
            have h2 : cond (Nat.beq i1 999) _ (cond (Nat.beq i1 997) _ (cond (Nat.beq i1 998) _ _)) = true := hE
            rw [h9', h7', h8'] at h2
            exact h2
          simp only [Bool.and_eq_true, decide_eq_true_eq] at hE1
          obtain ⟨⟨⟨hE1, hE2⟩, hE3⟩, hE4⟩ := hE1
          have hlt : i1 < NM := Nat.blt_eq.mp hE3
          have hn : mN i1 = i2 := Nat.eq_of_beq_eq_true hE4
          obtain ⟨hg, h1⟩ := gd_e h1
          rw [Bool.and_eq_true] at hg
          have hle : i2 ≤ st.length := Nat.le_of_ble_eq_true hg.1
          have hsz : szs (st.drop i2) ≤ 8 := Nat.le_of_ble_eq_true hg.2
          have hlen : (st.take i2).length = i2 := by rw [List.length_take]; omega
          have hRr : ROK (st.drop i2) := hRS.sub (fun v hv => List.mem_of_mem_drop hv)
          have hRa : ROK (st.take i2).reverse := hRS.sub (fun v hv => List.mem_of_mem_take (List.mem_reverse.mp hv))
          obtain ⟨hR1, hR2, hM⟩ := hC i1 _ x _ h1 hlt hRa
          obtain ⟨hy1, hy2, hy3, hy4, hy5, hy6⟩ := okY_e hlt
          have hmap : st.map (cv ad) = (((st.take i2).reverse.map (cv ad)).reverse ++ (st.drop i2).map (cv ad)) := by
            conv => lhs; rw [← List.take_append_drop i2 st]
            rw [List.map_append, List.map_reverse, List.reverse_reverse]
          have hrun : va_Run p l e R s m args below meth c H locs 0 0 0 0 (F0 m pc la (st.map (cv ad))) ((st.drop i2).map (cv ad)) (GQ D ad cI cT cS H.size (fun v x' => rO (mrk i1) v fun w => Pnt p l e R s m args below meth c D ad cI cT cS mm Q nx ls (w ++ st.drop i2) x') ((st.take i2).reverse.map (cv ad)).toArray) (AD ad H.size) := by
            have hpre : PreS s H (KPre D ad cI cT cS H.size (st.take i2).reverse x) ((st.take i2).reverse.map (cv ad)) := ⟨KPre_blind, fun U hU hWm => ⟨rfl, by rw [hU], by rw [hU]; exact hW.1, va_K.moved hWm.alike hK, fun q hq => va_Nw.warmM hWm (hNW q hq), hW.2.1.weaken (fun _ _ _ _ => trivial)⟩⟩
            have hpar : ∀ sig, parseMethodDescriptor (mY i1).desc = some sig → i2 = sig.parameters.length := fun sig hs => by
              rw [hs] at hy2
              exact (hn.symm.trans (Option.some.inj hy2).symm)
            rcases hE1 with hE1 | hE1
            · exact va_runS (Ts := wsm mm) (own := cn (mcl mm)) (n := i2) (bytes := mC i1) (maxL := mL i1) (ret := mR i1) ⟨hx, hb, hml, hown, hw⟩ (hM H.size) ⟨⟨rfl, rfl, hR1, by omega, pay_in hw (g_wsm hlt), List.mem_cons_self, hts _ (aw_code hlt), hts _ (aw_init hlt), ⟨hy5, hy6⟩, hpar, hts _ (aw_mth hE1)⟩, hts _ (aw_stat hlt hE2)⟩ hpre rfl (by rw [List.length_map, List.length_reverse]; exact hlen) hL.2.1 hmap (lv_room (by rw [cats_of]; exact hsz)) (hd (Nat.succ_ne_zero _)) ⟨Nat.zero_le _, Nat.zero_le _⟩
            · exact va_runSN (Ts := wsm mm) (own := cn (mcl mm)) (host := RX5) (n := i2) (bytes := mC i1) (maxL := mL i1) (ret := mR i1) ⟨hx, hb, hml, hown, hw⟩ (hM H.size) ⟨⟨⟨rfl, rfl, hR1, by omega, pay_in hw (g_wsm hlt), List.mem_cons_self⟩, hts _ (aw_code hlt), hts _ (aw_init hlt), ⟨hy5, hy6⟩, hpar, va_Nw.use rfl (hNW _ hE1)⟩, hts _ (aw_stat hlt hE2), trivial⟩ hpre rfl (by rw [List.length_map, List.length_reverse]; exact hlen) hL.2.1 hmap (lv_room (by rw [cats_of]; exact hsz)) (hd (Nat.succ_ne_zero _)) ⟨Nat.zero_le _, Nat.zero_le _⟩
          refine w_call (A1 := AD ad H.size) hrun hW.2.2 (fun st oc t hq => hq.2) (fun q hq h => ?_) (fun q h => ?_) (fun v st' t H1 locs1 ht hq hS1 => ?_)
          · rcases h with h | h
            · exact Or.inl h
            · omega
          · rcases h with h | h
            · exact Or.inl h
            · exact Or.inr (Nat.le_trans hW.2.2.1 h)
          · obtain ⟨⟨v', x', hv', hRv', hQ', hP', hD'⟩, -⟩ := hq
            cases hv'
            have e1 : (Option.map (cv ad) v').toList ++ (st.drop i2).map (cv ad) = (v'.toList ++ st.drop i2).map (cv ad) := by cases v' <;> simp
            rw [e1]
            refine go (rO_e hQ') (Nat.succ_ne_zero _) hL hRL ?_ ⟨by rw [← ht]; exact hP', hD'.weaken (fun _ _ _ h => ?_), hS1⟩
            · cases v' with
              | none => exact hRr
              | some z => exact ROK.c hRv' hRr
            · rcases h with h | h
              · exact Or.inl h
              · exact Or.inr (Nat.le_trans hW.2.2.1 h)
  case ireturn =>
    match st, h with
    | [.inl a], h =>
      have hz : mR mm = some .int ∨ mR mm = some .boolean := by
        revert hER
        unfold okR
        cases mR mm with
        | none => intro h; cases h
        | some t => cases t <;> intro h <;> first | exact Or.inl rfl | exact Or.inr rfl | cases h
      rcases hz with hz | hz
      · have h2 : Q (some (vi a)) x := by
          have hbo : mbo mm = false := by unfold mbo; rw [hz]; rfl
          have h3 : cond (mbo mm) ((a = 0 ∨ a = 1) ∧ Q (some (vi a)) x) (Q (some (vi a)) x) := h
          rw [hbo] at h3
          exact h3
        exact W.iret hx hb (hr.trans hz) (fun t ht hWH => ⟨⟨some (vi a), x, rfl, ROK.nil.i, h2, by rw [ht]; exact hW.1, hW.2.1⟩, hW.2.2.F ht⟩) hW.2.2.2.2 (hd (Nat.succ_ne_zero _)) hlocks
      · have h2 : (a = 0 ∨ a = 1) ∧ Q (some (vi a)) x := by
          have hbo : mbo mm = true := by unfold mbo; rw [hz]; rfl
          have h3 : cond (mbo mm) ((a = 0 ∨ a = 1) ∧ Q (some (vi a)) x) (Q (some (vi a)) x) := h
          rw [hbo] at h3
          exact h3
        exact W.zret hx hb (hr.trans hz) (by rcases h2.1 with rfl | rfl <;> rfl) (fun t ht hWH => ⟨⟨some (vi a), x, rfl, ROK.nil.i, h2.2, by rw [ht]; exact hW.1, hW.2.1⟩, hW.2.2.F ht⟩) hW.2.2.2.2 (hd (Nat.succ_ne_zero _)) hlocks
    | [], h => exact False.elim h
    | [.inr a], h => exact False.elim h
    | a :: b :: r, h => exact False.elim (by cases a <;> exact h)
  case lreturn =>
    match st, h with
    | [.inr (.inl a)], h =>
      have hz : mR mm = some .long := by
        revert hER
        unfold okR
        cases mR mm with
        | none => intro h; cases h
        | some t => cases t <;> intro h <;> first | rfl | cases h
      exact W.lret hx hb (hr.trans hz) (fun t ht hWH => ⟨⟨some (vl a), x, rfl, ROK.nil.l, h, by rw [ht]; exact hW.1, hW.2.1⟩, hW.2.2.F ht⟩) hW.2.2.2.2 (hd (Nat.succ_ne_zero _)) hlocks
    | [], h => exact False.elim h
    | [.inl a], h => exact False.elim h
    | [.inr (.inr a)], h => exact False.elim h
    | a :: b :: r, h => exact False.elim (by rcases a with a | a | a <;> exact h)
  case return_ =>
    match st, h with
    | [], h =>
      have hz : mR mm = none := by
        revert hER
        unfold okR
        cases mR mm with
        | none => intro h; rfl
        | some t => cases t <;> intro h <;> cases h
      exact W.vret hx hb (hr.trans hz) (fun t ht hWH => ⟨⟨none, x, rfl, ROK.nil, h, by rw [ht]; exact hW.1, hW.2.1⟩, hW.2.2.F ht⟩) hW.2.2.2.2 (hd (Nat.succ_ne_zero _)) hlocks
    | a :: r, h => exact False.elim h
  all_goals exact False.elim h
end SND
/-- calls to a depth -/
def CC : Nat → Cl0
  | 0 => fun _ _ _ _ => False
  | d + 1 => fun mm av x Q => gd (Nat.ble (exA av).length (mL mm)) (WP (mco mm) (mbo mm) (CC d) Q (mco mm) (padV (mL mm) (exA av)) [] x)
theorem CC_mono : ∀ d, Mo (CC d)
  | 0 => fun _ _ _ _ _ _ h => h
  | d + 1 => fun _ _ _ _ _ hR h => gd_m h (WP.mono (CC_mono d) hR)
theorem entry_ok {ad : Nat → Nat → Nat} {av : List AV} {n : Nat} {la : Array Slot} (h : lv_has la n (lv_args 0 (av.map (cv ad)))) : LOK ad (padV n (exA av)) n la := ⟨padV_len n _, h.1, h.2.1, fun i v hi hv => by
  have := ex_mem (ad := ad) n av 0 i v hi hv
  rw [Nat.zero_add] at this
  exact h.2.2 _ this⟩
/-- the arguments fit the locals -/
def Fit (mm : Nat) (av : List AV) : Prop := (exA av).length ≤ mL mm
theorem sl_len {ad : Nat → Nat → Nat} : ∀ (av : List AV), (lg_sl (av.map (cv ad))).length = (exA av).length
  | [] => rfl
  | a :: r => by
    have ih := sl_len (ad := ad) r
    by_cases ha : isLong a = true
    · match a, ha with
      | .inr (.inl a), _ =>
        show (lg_sl (Value.long a :: r.map (cv ad))).length = (vl a :: vu :: exA r).length
        simp only [List.length_cons, ← ih]
        simp [lg_sl, Value.category]
    · have ha' : isLong a = false := by rw [← Bool.not_eq_true]; exact ha
      have he : exA (a :: r) = a :: exA r := by simp [exA, ha']
      rw [he, List.length_cons, ← ih]
      have hc : (cv ad a).category = 1 := cat_1 ha'
      simp [lg_sl, hc]
def okF (mm : Nat) : Bool := match mco mm with
  | [] => false
  | f :: _ => Nat.beq f.1 0
theorem okF_all0 : (List.range NM).all okF = true := by decide +kernel
theorem met_body (hok : ∀ mm, mm < NM → okM mm = true) {C : Cl0} (l : Launch) (D : va_G) (ad : Nat → Nat → Nat) (cI cT cS : ClassId) (d mm : Nat) (av : List AV) (x : Mem) (Q : Option AV → Mem → Prop) (hfit : (exA av).length ≤ mL mm) (h : WP (mco mm) (mbo mm) C Q (mco mm) (padV (mL mm) (exA av)) [] x) (hmm : mm < NM) (hav : ROK av)
    (hC : ∀ (mid : Nat) (av : List AV) (x : Mem) (Q' : Option AV → Mem → Prop), C mid av x Q' → mid < NM → ROK av → (rmD (d - 1)).frames + 1 ≤ (rmD d).frames ∧ 8 + (11 + 11) + (rmD (d - 1)).locals ≤ (rmD d).locals ∧ WMet l D ad cI cT cS (d - 1) mid av x Q') : WMet l D ad cI cT cS d mm av x Q := by
  intro sz
  obtain ⟨hy1, hy2, hy3, hy4, hy5, hy6⟩ := okY_e hmm
  have hokm := hok mm hmm
  unfold okM at hokm
  rw [Bool.and_eq_true, Bool.and_eq_true] at hokm
  have hSF : SF mm (mco mm) := ⟨hokm.1, hokm.2.1, hokm.2.2⟩
  refine Met.ofW (cc := mC mm) (maxL := mL mm) (ret := mR mm) hy4 rfl ?_
  intro p e s m args below meth c s₁ B hml hv
  obtain ⟨rfl, hsz, hP, hK, hN, hD0⟩ := hv
  have hts := atoms_spec (ws := wsm mm) B.pre
  have hown : s.vm.findClass (cn (mcl mm)) = some m.cls := by rw [← hy1]; exact findClass_of_methodNamed B.named
  subst hsz
  have X : Ctx p s m (av.map (cv ad)).toArray meth c D cI cT cS mm := ⟨B.exec, B.bytes, B.returns, hml, hown, hts, hK, hN, B.notSynchronized⟩
  have hPn : Pnt p l e (headSpec (wsm mm) (rmD d)).room s m (av.map (cv ad)).toArray below meth c D ad cI cT cS mm Q (mco mm) (padV (mL mm) (exA av)) [] x := by
    refine h _ (fun f nx ls st x h => step_ok (d := d - 1) X ?_ ?_ hC f nx ls st x h hSF)
    · show 1 ≤ d + 1; omega
    · show 60 ≤ 30 * d + 60; omega
  obtain ⟨f, r, hco, hW⟩ := hPn
  have hf0 : f.1 = 0 := by
    have h1 := List.all_eq_true.mp okF_all0 mm (List.mem_range.mpr hmm)
    unfold okF at h1
    rw [hco] at h1
    exact Nat.eq_of_beq_eq_true h1
  have hl := lv_entry (av.map (cv ad)) (n := mL mm) (by rw [sl_len]; exact hfit)
  rw [lg_entry_eq]
  generalize (lg_sl (av.map (cv ad)) ++ List.replicate (mL mm - (lg_sl (av.map (cv ad))).length) Slot.unset).toArray = la at hl ⊢
  have hD1 : va_D (AD ad s.heap.size) (wl ad cI cT cS x) := ⟨hD0.1, fun k q hk => by
    unfold wl at hk
    rw [List.getElem?_map] at hk
    cases hq : cells[k]? with
    | none => rw [hq] at hk; cases hk
    | some z =>
      rw [hq] at hk
      cases hk
      exact Or.inl ⟨z.1, z.2, cells_of (List.mem_of_getElem? hq), rfl⟩⟩
  have hfin := hW hSF s.heap [] la (entry_ok hl) (padV_ROK _ _ hav) ROK.nil ⟨hP, hD1, va_S.rf⟩
  rw [hf0] at hfin
  exact hfin
/-- WP of a method is a contract of the machine -/
theorem met_ok (hok : ∀ mm, mm < NM → okM mm = true) (l : Launch) (D : va_G) (ad : Nat → Nat → Nat) (cI cT cS : ClassId) : ∀ (d mm : Nat) (av : List AV) (x : Mem) (Q : Option AV → Mem → Prop), CC (d + 1) mm av x Q → mm < NM → ROK av → WMet l D ad cI cT cS d mm av x Q := by
  intro d
  induction d with
  | zero =>
    intro mm av x Q h hmm hav
    exact met_body hok (C := CC 0) l D ad cI cT cS 0 mm av x Q (Nat.le_of_ble_eq_true (gd_e h).1) (gd_e h).2 hmm hav (fun _ _ _ _ h _ _ => False.elim h)
  | succ d ih =>
    intro mm av x Q h hmm hav
    exact met_body hok (C := CC (d + 1)) l D ad cI cT cS (d + 1) mm av x Q (Nat.le_of_ble_eq_true (gd_e h).1) (gd_e h).2 hmm hav (fun mid av' x' Q' h' hm' ha' => ⟨by show d + 1 + 1 ≤ d + 1 + 1; omega, by show 8 + (11 + 11) + (30 * d + 60) ≤ 30 * (d + 1) + 60; omega, ih mid av' x' Q' h' hm' ha'⟩)
