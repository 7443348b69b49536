/-! THE CLAIM OUT OF ONE WALK OF THE LAW'S BODY. Your part is whole_start (and what it stands on); all else here is the same for every law, but numbers. -/
def R_law : String := "SugarLoopLaw"
def lw_P (b : Addr) (xs : List Int32) (args : Array Value) (s : State) : Prop := args = #[.ref b] ∧ s.IntsAt b xs ∧ xs.length ≤ 3072 ∧ (Jvm.Cond.and given_1 narrow_1).before args s = true
def lw_Q (_ : Array Value) (s : State) (o : Outcome) (t : State) : Prop := o = .returned (some (.int 1)) ∧ Framed s o t [] 600000 7302250
def lw_Z (below : List Frame) (a : Array Value) (s : State) : State → Prop := fun t => ∃ o, t.status = .running ∧ Ended t below o ∧ lw_Q a s o t
/-- the law's own end, with 1 on the stack, nothing written that was there before, its room as the claim has it -/
theorem lw_ret {p : Program} {l : Launch} {e : Env} {s : State} {m : MethodId} {below : List Frame} {meth : Method} {c : Code} {b : Nat} (hx : p.tables.exec = Jvm.exec) (hb : c.code = code) (hr : meth.sig.returnType = ret) (hlocks : meth.locks = false) {pc : Nat} {H : Heap} {ls : Array Slot} (hdg : decode code pc = .ok (.ireturn, 1)) : W p l e room_1 s m #[Value.ref b] below meth c H [] 600000 7302250 (lw_Z below #[Value.ref b] s) (F0 m pc ls [.int 1]) := by
  intro T hT X
  obtain ⟨fs, hret, hrun, hended, hW, hframe⟩ := X.leave (v := some (.int 1)) (hlocks := hlocks) (fun h => by rw [hr] at h; cases h)
  have hmeth' : T.vm.method? m = some meth := X.method'
  refine ⟨T.setFrames fs, ?_, .returned (some (.int 1)), hrun, hended, rfl, ⟨_, rfl⟩, hW, hframe⟩
  jvm_step X.here [X.here.top, hx, hb, hdg, hmeth', hr, ret, narrow_b1]
  (try refine ⟨rfl, ?_⟩); (try refine ⟨rfl, ?_⟩)
  first | (intro acts; rw [hret _ acts rfl rfl rfl]) | rw [hret _ _ rfl rfl rfl]
  exact Steps.refl _
/-- what holds at the law's entry: the machine, the code, the tables' words (any of lw_tbl by 'hts w (by decide +kernel)'), the script of L ints xs at the cell b, what the Statement gives of the start (any of its parts by flat_of_before) -/
def lw_At (p : Program) (s : State) (m : MethodId) (meth : Method) (c : Code) (b L : Nat) (xs : Nat → Int32) : Prop :=
  p.tables.exec = Jvm.exec ∧ c.code = code ∧ meth.sig.returnType = ret ∧ c.maxLocals = 4 ∧ s.vm.findClass R_law = some m.cls ∧ (∀ w ∈ lw_tbl, w.before #[Value.ref b] s = true) ∧ va_X b L xs s s.heap ∧ b < s.heap.size ∧ meth.locks = false ∧ (Jvm.Cond.and given_1 narrow_1).before #[Value.ref b] s = true

abbrev AL (s : State) : Nat → Prop := fun q => s.heap.size ≤ q
/-- the law's locals at its loop -/
abbrev LV (b : Nat) (ad : Nat → Nat → Nat) (i : Nat) : List (Nat × Value) := [(0, .ref b), (1, .ref (ad 0 0)), (2, .ref (ad 13 0)), (3, .int (nI i))]
theorem law_arg {p : Program} {l : Launch} {e : Env} {s : State} {m : MethodId} {below : List Frame} {meth : Method} {c : Code} {b L : Nat} {xs : Nat → Int32} (C0 : lw_At p s m meth c b L xs) (hL : L ≤ 3072) {i k : Nat} (hk : i + k < L) {ad : Nat → Nat → Nat} {H : Heap} {locs : List Loc} (hS : va_S (AL s) s.heap H locs) {ls : Array Slot} (hl : lv_has ls 4 (LV b ad i)) {pc : Nat} {kI : Int} (hv : Int32.ofInt kI = nI k) {cells slots : Nat} {Q : State → Prop} {st : List Value} (d0 : decode code pc = .ok (.aload_n 0, 1)) (d1 : decode code (pc + 1) = .ok (.iload_n 3, 1)) (d2 : decode code (pc + 2) = .ok (.iconst kI, 1)) (d3 : decode code (pc + 3) = .ok (.iadd, 1)) (d4 : decode code (pc + 4) = .ok (.iaload, 1))
    (kk : W p l e room_1 s m #[Value.ref b] below meth c H locs cells slots Q (F0 m (pc + 5) ls (.int (xs (i + k)) :: st))) : W p l e room_1 s m #[Value.ref b] below meth c H locs cells slots Q (F0 m pc ls st) := by
  obtain ⟨hx, hb, hr, hml, hown, hts, hX, hbl, hlocks, hgv⟩ := C0
  refine lv_aload_n hx hb d0 rfl (lv_at hl 0 rfl) ?_
  refine lv_iload_n hx hb d1 rfl (lv_at hl 3 rfl) ?_
  refine lv_iconst (v := nI k) hx hb d2 hv ?_
  refine lv_iadd hx hb d3 ?_
  rw [nI_add]
  refine va_sld hx hb hX hbl (Nat.not_le.mpr hbl) hS (vp_in_nI hk (by omega)) d4 ?_
  rw [nI_clamp (by omega)]
  exact kk
theorem law_call {p : Program} {l : Launch} {e : Env} {s : State} {m : MethodId} {below : List Frame} {meth : Method} {c : Code} {b L : Nat} {xs : Nat → Int32} (C0 : lw_At p s m meth c b L xs) {D : va_G} {ad : Nat → Nat → Nat} {cI cT cS : ClassId} (hK : va_K D vwCl (Tys cI cT cS) s) (hNW : NWs s) {cells slots : Nat} (hlim : cells + 0 ≤ room_1.cells ∧ slots + 0 ≤ room_1.slots) {Q : State → Prop} {pc n i2 mm k : Nat} {H : Heap} {locs : List Loc} {x : Mem} {ls : Array Slot} {av r : List AV} {fl : List (Option Nat)} {Qa : Option AV → Mem → Prop}
    (hcc : CC 8 mm (vr k 0 :: av) x Qa) (hmm : mm < NM) (hst : Cond.instanceMethod (mY mm) ∈ lw_tbl) (hse : Cond.selects (mY mm).cls (mY mm) (mY mm) ∈ lw_tbl) (hlay : lay k = .inl (mcl mm, fl)) (h0 : 0 < cnt k) (hN : mN mm = i2) (hlen : av.length = i2) (hav : ROK av) (hlink : Cond.methodLink R_law n (mY mm) ∈ lw_tbl) (hdg : decode code pc = .ok (.invokevirtual n, 3)) (hls : ls.size = 4) (hsz : szs r ≤ 8) (hW : WO D ad cI cT cS (AL s) s.heap x H locs)
    (kk : ∀ (v : Option AV) (x1 : Mem) (H1 : Heap) (locs1 : List Loc), Qa v x1 → WO D ad cI cT cS (AL s) s.heap x1 H1 locs1 → W p l e room_1 s m #[Value.ref b] below meth c H1 locs1 cells slots Q (F0 m (pc + 3) ls ((v.toList ++ r).map (cv ad)))) :
    W p l e room_1 s m #[Value.ref b] below meth c H locs cells slots Q (F0 m pc ls ((av.map (cv ad)).reverse ++ .ref (ad k 0) :: r.map (cv ad))) := by
  obtain ⟨hx, hb, hr, hml, hown, hts, hX, hbl, hlocks, hgv⟩ := C0
  have hRa : ROK (vr k 0 :: av) := ROK.r hav h0
  have hM : WMet l D ad cI cT cS 7 mm (vr k 0 :: av) x Qa := met_ok okM_all l D ad cI cT cS 7 mm _ x Qa hcc hmm hRa
  obtain ⟨hy1, hy2, hy3, hy4, hy5, hy6⟩ := okY_e hmm
  obtain ⟨CN, hcl, hCC, -, -, -⟩ := lay_ob hlay
  obtain ⟨p0, -, hp0⟩ := wl_get (ad := ad) (cI := cI) (cT := cT) (cS := cS) (x := x) (k := k) (i := 0) h0
  rw [cE_ob hlay] at hp0
  have hcls : (mY mm).cls = CN := by rw [hy1, hCC]
  refine w_call (A1 := AD ad H.size) (free := AD ad H.size) (rest := r.map (cv ad)) (va_runV (Ts := lw_tbl) (C := CN) (own := R_law) (b := ad k 0) (As := av.map (cv ad)) (rest := r.map (cv ad)) (n := i2) (bytes := mC mm) (maxL := mL mm) (ret := mR mm) ⟨hx, hb, hml, hown, hts⟩ (hM H.size) ?_ ⟨KPre_blind, va_recv hK hW.1 hcl hp0, fun U hU hWm => ?_⟩ rfl (by rw [List.length_map]; exact hlen) hls rfl (lv_room (by rw [cats_of]; exact hsz)) hdg hlim) hW.2.2 (fun st oc t hq => hq.2) (fun q hq h => ?_) (fun q h => ?_) (fun v st' t H1 locs1 ht hq hS1 => ?_)
  · refine ⟨⟨rfl, rfl, ?_, ?_, pay_in hts (lw_good hmm), List.mem_cons_self, hts _ (AW_lw _ (aw_code hmm)), hts _ (AW_lw _ (aw_init hmm)), ⟨hy5, hy6⟩, fun sig hs => ?_, hts _ hlink⟩, hts _ hst, by rw [← hcls]; exact hts _ hse⟩
    · exact Nat.le_of_ble_eq_true rfl
    · show 8 + (mL mm + 11) + 270 ≤ 330
      omega
    · rw [hs] at hy2
      exact (hN.symm.trans (Option.some.inj hy2).symm)
  · exact ⟨rfl, by rw [hU], by rw [hU]; exact hW.1, va_K.moved hWm.alike hK, fun q hq => va_Nw.warmM hWm (hNW q hq), hW.2.1.weaken (fun _ _ _ _ => trivial)⟩
  · rcases h with ⟨k1, i1, h, rfl⟩ | h
    · obtain ⟨p1, -, hp1⟩ := wl_get (ad := ad) (cI := cI) (cT := cT) (cS := cS) (x := x) h
      exact hW.2.1.2 _ _ hp1
    · omega
  · rcases h with ⟨k1, i1, h, rfl⟩ | h
    · obtain ⟨p1, -, hp1⟩ := wl_get (ad := ad) (cI := cI) (cT := cT) (cS := cS) (x := x) h
      exact hW.2.1.2 _ _ hp1
    · exact Nat.le_trans hW.2.2.1 h
  · obtain ⟨⟨v', x', hv', hRv', hQ', hP', hD'⟩, -⟩ := hq
    cases hv'
    have e1 : (Option.map (cv ad) v').toList ++ r.map (cv ad) = (v'.toList ++ r).map (cv ad) := by cases v' <;> simp
    rw [e1]
    refine kk v' x' H1 locs1 hQ' ⟨by rw [← ht]; exact hP', hD'.weaken (fun _ _ _ h => ?_), hS1⟩
    rcases h with ⟨k1, i1, h, h9⟩ | h
    · obtain ⟨p1, -, hp1⟩ := wl_get (ad := ad) (cI := cI) (cT := cT) (cS := cS) (x := x) h
      have := hW.2.1.2 _ _ hp1
      rw [h9]
      exact this
    · exact Nat.le_trans hW.2.2.1 h
theorem lw_inst {mm : Nat} (h : mm < NM) (hs : mS mm = false) : Cond.instanceMethod (mY mm) ∈ lw_tbl := AW_lw _ (aw_inst h hs)
theorem lw_sel {mm : Nat} (h : mm < NM) (hs : mS mm = false) : Cond.selects (mY mm).cls (mY mm) (mY mm) ∈ lw_tbl := AW_lw _ (aw_sel h hs)
theorem lg_cmp_self (a : Int64) : lg_cmp a a = 0 := by
  unfold lg_cmp
  rw [if_neg (Int64.lt_irrefl), if_pos rfl]
/-- the law between two rows of its walk: 46 cells and 873 slots are made -/
abbrev LG (p : Program) (l : Launch) (e : Env) (s : State) (m : MethodId) (b : Nat) (below : List Frame) (meth : Method) (c : Code) (H : Heap) (locs : List Loc) (g : JFrame) : Prop := W p l e room_1 s m #[Value.ref b] below meth c H locs 46 873 (lw_Z below #[Value.ref b] s) g
theorem LIM : 46 + 0 ≤ room_1.cells ∧ 873 + 0 ≤ room_1.slots := ⟨Nat.le_of_ble_eq_true rfl, Nat.le_of_ble_eq_true rfl⟩
theorem ROKi (l : List Int32) : ROK (l.map vi) := fun k i h => by
  obtain ⟨a, -, h⟩ := List.mem_map.mp h
  cases h
