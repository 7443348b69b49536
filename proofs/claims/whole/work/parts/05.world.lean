/-! THE WORLD: every cell of both objects, by kind and number; what a memory says of the heap -/
def cv (ad : Nat → Nat → Nat) : AV → Value
  | .inl a => .int a
  | .inr (.inl a) => .long a
  | .inr (.inr (some (k, i))) => .ref (ad k i)
  | .inr (.inr none) => .null
def fvs (ad : Nat → Nat → Nat) (row : Nat → Int32) (i : Nat) : Nat → List (Option Nat) → List Value
  | _, [] => []
  | j, none :: r => .int (row j) :: fvs ad row i (j + 1) r
  | j, some q :: r => .ref (ad q i) :: fvs ad row i (j + 1) r
def fv1 (ad : Nat → Nat → Nat) (row : Nat → Int32) (i j : Nat) : Option Nat → Value
  | none => .int (row j)
  | some q => .ref (ad q i)
theorem fvs_get {ad : Nat → Nat → Nat} {row : Nat → Int32} {i : Nat} : ∀ (l : List (Option Nat)) (n j : Nat) (d : Option Nat), l[j]? = some d → (fvs ad row i n l)[j]? = some (fv1 ad row i (n + j) d)
  | [], _, _, _, h => by simp at h
  | none :: r, n, 0, d, h => by simp at h; subst h; rfl
  | some q :: r, n, 0, d, h => by simp at h; subst h; rfl
  | none :: r, n, j + 1, d, h => by
    have h2 := fvs_get (ad := ad) (row := row) (i := i) r (n + 1) j d (by simpa using h)
    rw [show n + (j + 1) = n + 1 + j by omega]
    simpa [fvs] using h2
  | some q :: r, n, j + 1, d, h => by
    have h2 := fvs_get (ad := ad) (row := row) (i := i) r (n + 1) j d (by simpa using h)
    rw [show n + (j + 1) = n + 1 + j by omega]
    simpa [fvs] using h2
theorem fvs_len {ad : Nat → Nat → Nat} {row : Nat → Int32} {i : Nat} : ∀ (l : List (Option Nat)) (n : Nat), (fvs ad row i n l).length = l.length
  | [], _ => rfl
  | none :: r, n => by simp [fvs, fvs_len r (n + 1)]
  | some q :: r, n => by simp [fvs, fvs_len r (n + 1)]
theorem fvs_congr {ad : Nat → Nat → Nat} {row row' : Nat → Int32} {i : Nat} : ∀ (l : List (Option Nat)) (n : Nat), (∀ m, n ≤ m → row m = row' m) → fvs ad row i n l = fvs ad row' i n l
  | [], _, _ => rfl
  | none :: r, n, h => by
    show Value.int (row n) :: _ = Value.int (row' n) :: _
    rw [h n (Nat.le_refl n), fvs_congr r (n + 1) (fun m hm => h m (by omega))]
  | some q :: r, n, h => by
    show Value.ref (ad q i) :: _ = Value.ref (ad q i) :: _
    rw [fvs_congr r (n + 1) (fun m hm => h m (by omega))]
theorem fvs_set {ad : Nat → Nat → Nat} {row : Nat → Int32} {i : Nat} (v : Int32) : ∀ (l : List (Option Nat)) (n j : Nat), l[j]? = some none → (fvs ad row i n l).set j (.int v) = fvs ad (upd row (n + j) v) i n l
  | [], _, _, h => by simp at h
  | none :: r, n, 0, h => by
    show Value.int v :: fvs ad row i (n + 1) r = Value.int (upd row n v n) :: fvs ad (upd row n v) i (n + 1) r
    rw [show upd row n v n = v by simp [upd], fvs_congr r (n + 1) (row' := upd row n v) (fun m hm => by simp [upd]; omega)]
  | some q :: r, n, 0, h => by simp at h
  | none :: r, n, j + 1, h => by
    have h2 := fvs_set (ad := ad) (row := row) (i := i) v r (n + 1) j (by simpa using h)
    show Value.int (row n) :: (fvs ad row i (n + 1) r).set j (.int v) = Value.int (upd row (n + (j + 1)) v n) :: fvs ad (upd row (n + (j + 1)) v) i (n + 1) r
    rw [h2, show n + (j + 1) = n + 1 + j by omega]
    congr 2
    simp [upd]; omega
  | some q :: r, n, j + 1, h => by
    have h2 := fvs_set (ad := ad) (row := row) (i := i) v r (n + 1) j (by simpa using h)
    show Value.ref (ad q i) :: (fvs ad row i (n + 1) r).set j (.int v) = Value.ref (ad q i) :: fvs ad (upd row (n + (j + 1)) v) i (n + 1) r
    rw [h2, show n + (j + 1) = n + 1 + j by omega]
def cE (ad : Nat → Nat → Nat) (cI cT cS : ClassId) (row : Nat → Int32) (k i : Nat) : va_E := match lay k with
  | .inl (ci, fl) => .inr (ci, fvs ad row i 0 fl)
  | .inr (n, none) => .inl (cI, n, .inl row)
  | .inr (n, some q) => .inl (cond (Nat.beq q 8) cT cS, n, .inr (.inr (.inr (.inr (fun j => some (ad q (row j).toNatClampNeg))))))
def cells : List (Nat × Nat) := (List.range 33).flatMap fun k => (List.range (cnt k)).map fun i => (k, i)
theorem cells_inj : ∀ i : Nat, i < cells.length → ∀ j : Nat, j < cells.length → i ≠ j → cells[i]? ≠ cells[j]? := by decide +kernel
theorem nth_ge {α : Type} : ∀ (l : List α) (k : Nat) (d : α), l.length ≤ k → nth l k d = d
  | [], _, _, _ => rfl
  | _ :: l, 0, d, h => by simp at h
  | _ :: l, k + 1, d, h => nth_ge l k d (by simpa using h)
theorem nth_some {α : Type} : ∀ (l : List α) (k : Nat) (d v : α), nth l k d = v → v ≠ d → l[k]? = some v
  | [], _, _, _, h, n => absurd h.symm n
  | a :: l, 0, d, v, h, _ => by simpa [nth] using h
  | a :: l, k + 1, d, v, h, n => by simpa using nth_some l k d v h n
theorem cnt_lt {k i : Nat} (h : i < cnt k) : k < 33 := by
  rcases Nat.lt_or_ge k 33 with q | q
  · exact q
  · unfold cnt at h
    rw [nth_ge CNTL k 0 q] at h
    exact absurd h (Nat.not_lt_zero i)
theorem cells_mem {k i : Nat} (h : i < cnt k) : (k, i) ∈ cells := by
  simp only [cells, List.mem_flatMap, List.mem_range, List.mem_map]
  exact ⟨k, cnt_lt h, i, h, rfl⟩
theorem cells_of {q : Nat × Nat} (h : q ∈ cells) : q.2 < cnt q.1 := by
  simp only [cells, List.mem_flatMap, List.mem_range, List.mem_map] at h
  obtain ⟨k, -, i, hi, rfl⟩ := h
  exact hi
def wl (ad : Nat → Nat → Nat) (cI cT cS : ClassId) (x : Mem) : va_W := cells.map fun q => (ad q.1 q.2, cE ad cI cT cS (x q.1 q.2) q.1 q.2)
theorem wl_get {ad : Nat → Nat → Nat} {cI cT cS : ClassId} {x : Mem} {k i : Nat} (h : i < cnt k) : ∃ p : Nat, cells[p]? = some (k, i) ∧ (wl ad cI cT cS x)[p]? = some (ad k i, cE ad cI cT cS (x k i) k i) := by
  obtain ⟨p, hp⟩ := List.getElem?_of_mem (cells_mem h)
  exact ⟨p, hp, by rw [wl, List.getElem?_map, hp]; rfl⟩
theorem setR_self {x : Mem} {k i : Nat} {f : Nat → Int32} : setR x k i f k i = f := by simp [setR]
theorem setR_ne {x : Mem} {k i k' i' : Nat} {f : Nat → Int32} (h : ¬ (k' = k ∧ i' = i)) : setR x k i f k' i' = x k' i' := by simp only [setR]; rw [if_neg h]
theorem wl_set {ad : Nat → Nat → Nat} {cI cT cS : ClassId} {x : Mem} {k i p : Nat} (hp : cells[p]? = some (k, i)) (f : Nat → Int32) : (wl ad cI cT cS x).set p (ad k i, cE ad cI cT cS f k i) = wl ad cI cT cS (setR x k i f) := by
  apply List.ext_getElem?
  intro j
  by_cases hj : j = p
  · subst hj
    have hl := (List.getElem?_eq_some_iff.mp hp).1
    rw [List.getElem?_set_self (by rw [wl, List.length_map]; exact hl), wl, List.getElem?_map, hp]
    show _ = some (ad k i, cE ad cI cT cS (setR x k i f k i) k i)
    rw [setR_self]
  · rw [List.getElem?_set_ne (Ne.symm hj), wl, wl, List.getElem?_map, List.getElem?_map]
    cases hq : cells[j]? with
    | none => rfl
    | some q =>
      have hne : ¬ (q.1 = k ∧ q.2 = i) := by
        rintro ⟨h1, h2⟩
        have hq' : cells[j]? = some (k, i) := by rw [hq, ← h1, ← h2]
        exact cells_inj j (List.getElem?_eq_some_iff.mp hq').1 p (List.getElem?_eq_some_iff.mp hp).1 hj (hq'.trans hp.symm)
      show some (ad q.1 q.2, cE ad cI cT cS (x q.1 q.2) q.1 q.2) = some (ad q.1 q.2, cE ad cI cT cS (setR x k i f q.1 q.2) q.1 q.2)
      rw [setR_ne hne]
def Tys (cI cT cS : ClassId) : List (ClassId × FieldType) := [(cI, .int), (cT, .object RX4), (cS, .object RX3)]
def AD (ad : Nat → Nat → Nat) (sz : Nat) : Nat → Prop := fun q => (∃ k i, i < cnt k ∧ q = ad k i) ∨ sz ≤ q
def WO (D : va_G) (ad : Nat → Nat → Nat) (cI cT cS : ClassId) (A : Nat → Prop) (H0 : Heap) (x : Mem) (H : Heap) (locs : List Loc) : Prop := va_P D vwCl (wl ad cI cT cS x) H ∧ va_D A (wl ad cI cT cS x) ∧ va_S A H0 H locs
def LOK (ad : Nat → Nat → Nat) (ls : List AV) (nL : Nat) (la : Array Slot) : Prop := ls.length = nL ∧ la.size = nL ∧ lv_wf la ∧ ∀ (i : Nat) (v : AV), ls[i]? = some v → v ≠ vu → la[i]? = some (.val (cv ad v))
def ROK (vs : List AV) : Prop := ∀ k i, vr k i ∈ vs → i < cnt k
theorem ROK.i {a : Int32} {r : List AV} (h : ROK r) : ROK (vi a :: r) := fun k i hm => by
  rcases List.mem_cons.mp hm with q | q
  · cases q
  · exact h k i q
theorem ROK.l {a : Int64} {r : List AV} (h : ROK r) : ROK (vl a :: r) := fun k i hm => by
  rcases List.mem_cons.mp hm with q | q
  · cases q
  · exact h k i q
theorem ROK.r {a b : Nat} {r : List AV} (h : ROK r) (hb : b < cnt a) : ROK (vr a b :: r) := fun k i hm => by
  rcases List.mem_cons.mp hm with q | q
  · cases q; exact hb
  · exact h k i q
theorem ROK.t {v : AV} {r : List AV} (h : ROK (v :: r)) : ROK r := fun k i hm => h k i (List.mem_cons_of_mem _ hm)
theorem ROK.v {k i : Nat} {r : List AV} (h : ROK (vr k i :: r)) : i < cnt k := h k i List.mem_cons_self
theorem ROK.c {v : AV} {r s : List AV} (h : ROK (v :: r)) (hs : ROK s) : ROK (v :: s) := fun k i hm => by
  rcases List.mem_cons.mp hm with q | q
  · exact h k i (by rw [q]; exact List.mem_cons_self)
  · exact hs k i q
theorem ROK.sub {r s : List AV} (h : ROK r) (hs : ∀ v ∈ s, v ∈ r) : ROK s := fun k i hm => h k i (hs _ hm)
theorem ROK.set {ls : List AV} (h : ROK ls) (n : Nat) {v : AV} (hv : ROK [v]) : ROK (ls.set n v) := fun k i hm => by
  rcases List.mem_or_eq_of_mem_set hm with q | q
  · exact h k i q
  · exact hv k i (by rw [q]; exact List.mem_cons_self)
theorem ROK.nil : ROK [] := fun k i hm => by cases hm
theorem cat_1 {ad : Nat → Nat → Nat} {v : AV} (h : isLong v = false) : (cv ad v).category = 1 := by
  match v, h with
  | .inl a, _ => rfl
  | .inr (.inr none), _ => rfl
  | .inr (.inr (some (k, i))), _ => rfl
def lvl (ad : Nat → Nat → Nat) (ls : List AV) : List (Nat × Value) := ls.zipIdx.filterMap fun q => if q.1 = vu then none else some (q.2, cv ad q.1)
theorem lvl_mem {ad : Nat → Nat → Nat} {ls : List AV} {i : Nat} {v : AV} (h : ls[i]? = some v) (hv : v ≠ vu) : (i, cv ad v) ∈ lvl ad ls := by
  unfold lvl
  rw [List.mem_filterMap]
  refine ⟨(v, i), List.mem_zipIdx_iff_getElem?.mpr h, ?_⟩
  simp only
  rw [if_neg hv]
theorem lvl_of {ad : Nat → Nat → Nat} {ls : List AV} {q : Nat × Value} (h : q ∈ lvl ad ls) : ∃ v, ls[q.1]? = some v ∧ v ≠ vu ∧ q.2 = cv ad v := by
  unfold lvl at h
  rw [List.mem_filterMap] at h
  obtain ⟨⟨v, i⟩, h1, h2⟩ := h
  have h3 := List.mem_zipIdx_iff_getElem?.mp h1
  simp only at h2
  split at h2
  · cases h2
  · rename_i hv
    cases h2
    exact ⟨v, h3, hv, rfl⟩
theorem lvl_has {ad : Nat → Nat → Nat} {ls : List AV} {nL : Nat} {la : Array Slot} (h : LOK ad ls nL la) : lv_has la nL (lvl ad ls) := ⟨h.2.1, h.2.2.1, fun q hq => by
  obtain ⟨v, h1, h2, h3⟩ := lvl_of hq
  rw [h3]
  exact h.2.2.2 q.1 v h1 h2⟩
theorem LOK.at {ad : Nat → Nat → Nat} {ls : List AV} {nL : Nat} {la : Array Slot} (h : LOK ad ls nL la) {n : Nat} {v : AV} (hv : nth ls n vu = v) (hn : v ≠ vu) : la[n]? = some (.val (cv ad v)) := h.2.2.2 n v (nth_some ls n vu v hv hn) hn
theorem okst_lt {ls : List AV} {i : Nat} (h : okst ls i = true) : i < ls.length := by
  unfold okst at h
  rw [Bool.and_eq_true] at h
  exact Nat.blt_eq.mp h.1
theorem okst_nl {ls : List AV} {j : Nat} (h : okst ls (j + 1) = true) {v : AV} (hv : ls[j]? = some v) : isLong v = false := by
  unfold okst at h
  rw [Bool.and_eq_true] at h
  have h2 : isLong (nth ls j vu) = false := by simpa using h.2
  have e : nth ls j vu = v := by
    clear h h2
    induction ls generalizing j with
    | nil => simp at hv
    | cons a l ih => cases j with
      | zero => simpa [nth] using hv
      | succ j => exact ih (by simpa using hv)
  rw [e] at h2
  exact h2
theorem LOK.st1 {ad : Nat → Nat → Nat} {ls : List AV} {nL : Nat} {la la' : Array Slot} (h : LOK ad ls nL la) {i : Nat} {v : AV} (hok : okst ls i = true) (hl : lv_has la' nL ((i, cv ad v) :: (lvl ad ls).filter (fun q => !(q.1 == i) && !(q.1 + 1 == i && q.2.category == 2)))) : LOK ad (ls.set i v) nL la' := by
  refine ⟨by rw [List.length_set]; exact h.1, hl.1, hl.2.1, fun j w hj hw => ?_⟩
  by_cases hji : j = i
  · subst hji
    rw [List.getElem?_set_self (okst_lt hok)] at hj
    cases hj
    exact hl.2.2 _ List.mem_cons_self
  · rw [List.getElem?_set_ne (Ne.symm hji)] at hj
    refine hl.2.2 (j, cv ad w) (List.mem_cons_of_mem _ (List.mem_filter.mpr ⟨lvl_mem hj hw, ?_⟩))
    have h1 : (j == i) = false := by simpa using hji
    simp only [h1, Bool.not_false, Bool.true_and]
    by_cases h2 : j + 1 = i
    · subst h2
      rw [cat_1 (okst_nl hok hj)]
      simp
    · have h3 : (j + 1 == i) = false := by simpa using h2
      simp [h3]
theorem LOK.st2 {ad : Nat → Nat → Nat} {ls : List AV} {nL : Nat} {la la' : Array Slot} (h : LOK ad ls nL la) {i : Nat} {v : AV} (hok : okst ls i = true) (hi : i + 1 < ls.length) (hl : lv_has la' nL ((i, cv ad v) :: (lvl ad ls).filter (fun q => !(q.1 == i) && (!(q.1 == i + 1) && !(q.1 + 1 == i && q.2.category == 2))))) : LOK ad ((ls.set i v).set (i + 1) vu) nL la' := by
  refine ⟨by rw [List.length_set, List.length_set]; exact h.1, hl.1, hl.2.1, fun j w hj hw => ?_⟩
  by_cases hj1 : j = i + 1
  · subst hj1
    rw [List.getElem?_set_self (by rw [List.length_set]; exact hi)] at hj
    cases hj
    exact absurd rfl hw
  · rw [List.getElem?_set_ne (Ne.symm hj1)] at hj
    by_cases hji : j = i
    · subst hji
      rw [List.getElem?_set_self (okst_lt hok)] at hj
      cases hj
      exact hl.2.2 _ List.mem_cons_self
    · rw [List.getElem?_set_ne (Ne.symm hji)] at hj
      refine hl.2.2 (j, cv ad w) (List.mem_cons_of_mem _ (List.mem_filter.mpr ⟨lvl_mem hj hw, ?_⟩))
      have h1 : (j == i) = false := by simpa using hji
      have h1' : (j == i + 1) = false := by simpa using hj1
      simp only [h1, h1', Bool.not_false, Bool.true_and]
      by_cases h2 : j + 1 = i
      · subst h2
        rw [cat_1 (okst_nl hok hj)]
        simp
      · have h3 : (j + 1 == i) = false := by simpa using h2
        simp [h3]
theorem ex_mem {ad : Nat → Nat → Nat} : ∀ (n : Nat) (av : List AV) (b i : Nat) (v : AV), (padV n (exA av))[i]? = some v → v ≠ vu → (b + i, cv ad v) ∈ lv_args b (av.map (cv ad))
  | 0, _, _, _, _, h, _ => by simp [padV] at h
  | n + 1, [], b, i, v, h, hv => by
    exfalso
    have key : ∀ (n i : Nat), (padV n [])[i]? = some v → v = vu := by
      intro n
      induction n with
      | zero => intro i h; simp [padV] at h
      | succ n ih => intro i h; cases i with
        | zero => simpa [padV] using h.symm
        | succ i => exact ih i (by simpa [padV] using h)
    exact hv (key _ i h)
  | n + 1, a :: r, b, i, v, h, hv => by
    by_cases ha : isLong a = true
    · match a, ha with
      | .inr (.inl a), _ =>
        cases i with
        | zero =>
          have : v = vl a := by simpa [exA, padV, isLong] using h.symm
          subst this
          exact List.mem_cons_self
        | succ i =>
          refine List.mem_cons_of_mem _ ?_
          show (b + (i + 1), cv ad v) ∈ lv_args (b + 2) (r.map (cv ad))
          cases n with
          | zero => simp [exA, padV, isLong] at h
          | succ n =>
            cases i with
            | zero =>
              have : v = vu := by simpa [exA, padV, isLong] using h.symm
              exact absurd this hv
            | succ i =>
              have := ex_mem (ad := ad) n r (b + 2) i v (by simpa [exA, padV, isLong] using h) hv
              rw [show b + (i + 1 + 1) = b + 2 + i by omega]
              exact this
    · have ha' : isLong a = false := by simpa using ha
      have he : exA (a :: r) = a :: exA r := by simp [exA, ha']
      rw [he] at h
      have hc : (if (cv ad a).category = 2 then b + 2 else b + 1) = b + 1 := by rw [cat_1 ha']; rfl
      show (b + i, cv ad v) ∈ (b, cv ad a) :: lv_args (if (cv ad a).category = 2 then b + 2 else b + 1) (r.map (cv ad))
      rw [hc]
      cases i with
      | zero =>
        have : v = a := by simpa [padV] using h.symm
        subst this
        exact List.mem_cons_self
      | succ i =>
        have := ex_mem (ad := ad) n r (b + 1) i v (by simpa [padV] using h) hv
        rw [show b + (i + 1) = b + 1 + i by omega]
        exact List.mem_cons_of_mem _ this
theorem padV_len : ∀ (n : Nat) (l : List AV), (padV n l).length = n
  | 0, _ => rfl
  | n + 1, [] => by simp [padV, padV_len n []]
  | n + 1, _ :: r => by simp [padV, padV_len n r]
theorem padV_ROK : ∀ (n : Nat) (av : List AV), ROK av → ROK (padV n (exA av)) := by
  have h1 : ∀ (n : Nat) (l : List AV), ROK l → ROK (padV n l) := by
    intro n
    induction n with
    | zero => intro l _; exact ROK.nil
    | succ n ih =>
      intro l hl
      cases l with
      | nil =>
        intro k i hm
        rcases List.mem_cons.mp hm with q | q
        · cases q
        · exact ih [] ROK.nil k i q
      | cons a r => exact ROK.c hl (ih r hl.t)
  intro n av h
  refine h1 n _ ?_
  induction av with
  | nil => exact ROK.nil
  | cons a r ih =>
    by_cases ha : isLong a = true
    · have he : exA (a :: r) = a :: vu :: exA r := by simp [exA, ha]
      rw [he]
      refine ROK.c h fun k i hm => ?_
      rcases List.mem_cons.mp hm with q | q
      · cases q
      · exact ih h.t k i q
    · have he : exA (a :: r) = a :: exA r := by simp [exA, ha]
      rw [he]
      exact ROK.c h (ih h.t)
