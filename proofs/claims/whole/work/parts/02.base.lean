noncomputable section
/-! THE ABSTRACT MACHINE: memory by kind, number and place; a step of a method as a predicate -/
abbrev AV : Type := Int32 ⊕ (Int64 ⊕ Option (Nat × Nat))
abbrev vi (a : Int32) : AV := .inl a
abbrev vl (a : Int64) : AV := .inr (.inl a)
abbrev vr (k i : Nat) : AV := .inr (.inr (some (k, i)))
abbrev vu : AV := .inr (.inr none)
abbrev Mem : Type := Nat → Nat → Nat → Int32
/-- an instruction: its place, itself, two numbers of what it names, a constant -/
abbrev En : Type := Nat × Jvm.ClassFile.Instr × Nat × Nat × Int32
def nth {α : Type} : List α → Nat → α → α
  | [], _, d => d
  | a :: _, 0, _ => a
  | _ :: l, k + 1, d => nth l k d
/-- what the cells of a kind are: an object's class and fields (a reference leads to the kind's cell of the same number), or a row's length and what its references lead to -/
def LAYL : List ((Nat × List (Option Nat)) ⊕ (Nat × Option Nat)) := [
  .inl (5, [some 1, some 4, some 6, some 9, none, none]),
  .inr (4, some 2),
  .inl (3, [some 3, none, none]),
  .inr (60, none),
  .inl (2, [some 6, some 5, none, none, none]),
  .inr (8, none),
  .inl (0, [some 7, none, none, none, none]),
  .inr (8, some 8),
  .inl (4, [none, none, none, none, none]),
  .inl (1, [some 10, some 11, some 12, none]),
  .inr (8, none), .inr (8, none), .inr (8, none),
  .inl (6, [none, none, none, none, none, some 14, some 15, some 16, some 17, some 18, none, none, none, none, some 19, some 20, some 21, some 22, none, none, none, some 23, some 24, some 25, none, some 26, some 27, some 28, some 29, some 30, some 31, some 32, none]),
  .inr (8, none), .inr (8, none), .inr (8, none), .inr (8, none), .inr (8, none),
  .inr (8, none), .inr (8, none), .inr (8, none), .inr (8, none),
  .inr (8, none), .inr (36, none), .inr (36, none),
  .inr (8, none), .inr (8, none), .inr (8, none),
  .inr (4, none), .inr (4, none), .inr (240, none), .inr (60, none)]
def lay (k : Nat) : (Nat × List (Option Nat)) ⊕ (Nat × Option Nat) := nth LAYL k (.inr (0, none))
def CNTL : List Nat := [1, 1, 4, 4, 1, 1, 1, 1, 8, 1, 1, 1, 1, 1, 1, 1, 1, 1, 1, 1, 1, 1, 1, 1, 1, 1, 1, 1, 1, 1, 1, 1, 1]
def cnt (k : Nat) : Nat := nth CNTL k 0
def setR (x : Mem) (k i : Nat) (f : Nat → Int32) : Mem := fun k' i' => if k' = k ∧ i' = i then f else x k' i'
def up (x : Mem) (k i j : Nat) (v : Int32) : Mem := setR x k i (upd (x k i) j v)
def jmp : List En → Nat → List En
  | [], _ => []
  | e :: r, t => cond (Nat.beq e.1 t) (e :: r) (jmp r t)
def pI (st : List AV) (k : Int32 → List AV → Prop) : Prop := match st with
  | .inl a :: r => k a r
  | _ => False
def pL (st : List AV) (k : Int64 → List AV → Prop) : Prop := match st with
  | .inr (.inl a) :: r => k a r
  | _ => False
def pR (st : List AV) (k : Nat → Nat → List AV → Prop) : Prop := match st with
  | .inr (.inr (some (a, b))) :: r => k a b r
  | _ => False
def cg (c A : Prop) : Prop := c → A
def pOb (o : (Nat × List (Option Nat)) ⊕ (Nat × Option Nat)) (k : Nat → List (Option Nat) → Prop) : Prop := match o with
  | .inl (ci, fl) => k ci fl
  | _ => False
def pAr (o : (Nat × List (Option Nat)) ⊕ (Nat × Option Nat)) (k : Nat → Prop) : Prop := match o with
  | .inr (n, none) => k n
  | _ => False
def pAq (o : (Nat × List (Option Nat)) ⊕ (Nat × Option Nat)) (k : Nat → Nat → Prop) : Prop := match o with
  | .inr (n, some q) => k n q
  | _ => False
def gd (b : Bool) (A : Prop) : Prop := cond b A False
def pF (d : Option (Option Nat)) (k : Prop) (kr : Nat → Prop) : Prop := match d with
  | some none => k
  | some (some q) => kr q
  | none => False
def rN (v : Option AV) (k : Prop) : Prop := match v with
  | none => k
  | _ => False
def rI (v : Option AV) (k : Int32 → Prop) : Prop := match v with
  | some (.inl a) => k a
  | _ => False
def rL (v : Option AV) (k : Int64 → Prop) : Prop := match v with
  | some (.inr (.inl a)) => k a
  | _ => False
/-- what a call answers: nothing, an int, a long -/
def rO (t : Nat) (v : Option AV) (k : List AV → Prop) : Prop := match t with
  | 0 => rN v (k [])
  | 1 => rI v fun a => k [vi a]
  | _ => rL v fun a => k [vl a]
def swT (K : Int → Prop) (v : Int32) : List Int → Int → Prop
  | [], _ => True
  | o :: os, n => (v = Int32.ofInt n → K o) ∧ swT K v os (n + 1)
def swL (K : Int → Prop) (v : Int32) (d : Int) : List (Int × Int) → Prop
  | [] => K d
  | (a, o) :: r => (v = Int32.ofInt a → K o) ∧ (¬ v = Int32.ofInt a → swL K v d r)
def isLong : AV → Bool
  | .inr (.inl _) => true
  | _ => false
def szs : List AV → Nat
  | [] => 0
  | v :: r => cond (isLong v) 2 1 + szs r
/-- whether a place of the locals may be written -/
def okst (ls : List AV) (i : Nat) : Bool := Nat.blt i ls.length && match i with
  | 0 => true
  | k + 1 => !(isLong (nth ls k vu))
def bR (A B : Prop) (c : Prop) : Prop := (c → A) ∧ (¬ c → B)
def cnd : Jvm.ClassFile.Cond → Int32 → Int32 → Prop → Prop → Prop
  | .eq, a, b, A, B => (a = b → A) ∧ (¬ a = b → B)
  | .ne, a, b, A, B => (¬ a = b → A) ∧ (a = b → B)
  | .lt, a, b, A, B => (a < b → A) ∧ (¬ a < b → B)
  | .ge, a, b, A, B => (b ≤ a → A) ∧ (¬ b ≤ a → B)
  | .gt, a, b, A, B => (b < a → A) ∧ (¬ b < a → B)
  | .le, a, b, A, B => (a ≤ b → A) ∧ (¬ a ≤ b → B)
abbrev Pt0 : Type := List En → List AV → List AV → Mem → Prop
abbrev Cl0 : Type := Nat → List AV → Mem → (Option AV → Mem → Prop) → Prop
def MCLL : List Nat := [4, 4, 4, 3, 3, 3, 3, 3, 3, 3, 3, 1, 0, 0, 0, 0, 0, 0, 0, 0, 0, 2, 2, 2, 2, 2, 2, 2, 5, 5, 5, 5, 5, 5, 5, 5, 5, 5, 5, 5, 5, 5, 5, 5, 5, 5, 5, 5, 5, 5, 5, 5, 5, 5, 5, 5, 5, 5, 5, 5, 5, 5, 5, 5, 5, 5, 5, 5, 5, 5, 5, 5, 5, 5, 5, 5, 5, 5, 5, 5, 5, 6, 6, 6, 6, 6, 6, 6, 6, 6, 6, 6, 6, 6, 6, 6, 6, 6, 6, 6, 6, 6, 6, 6, 6, 6, 6, 6, 6, 6, 6, 6, 6, 6, 6, 6, 6, 6, 6, 6, 6, 6, 6, 6, 6, 6, 6, 6, 6, 6, 6, 6, 6, 6, 6, 6, 6, 6, 6, 6, 6, 6, 6, 6, 6, 7]
def mcl (m : Nat) : Nat := nth MCLL m 99
def MKL : List Nat := [1, 1, 0, 1, 0, 1, 1, 1, 1, 1, 1, 1, 1, 1, 1, 1, 1, 0, 0, 1, 0, 0, 1, 0, 0, 1, 1, 1, 1, 1, 1, 1, 1, 1, 1, 1, 1, 1, 1, 1, 1, 1, 1, 1, 1, 1, 1, 1, 2, 1, 1, 1, 2, 1, 1, 1, 1, 1, 1, 1, 1, 1, 1, 1, 1, 1, 1, 1, 1, 1, 1, 1, 1, 1, 1, 1, 1, 0, 1, 1, 1, 1, 2, 1, 1, 2, 1, 1, 2, 1, 1, 1, 1, 1, 1, 1, 1, 1, 1, 1, 1, 1, 1, 0, 0, 0, 0, 1, 1, 1, 1, 1, 1, 1, 1, 1, 1, 1, 1, 1, 1, 0, 1, 1, 1, 1, 1, 1, 1, 2, 1, 1, 1, 1, 1, 2, 1, 1, 0, 1, 1, 1, 1, 1, 1, 1]
def mrk (m : Nat) : Nat := nth MKL m 0
/-- one instruction. co: the method's code; bo: it answers a boolean; C: what calls come to; Q: what is wanted of the end; K: what is wanted of the next state -/
def stp (co : List En) (bo : Bool) (C : Cl0) (Q : Option AV → Mem → Prop) (K : Pt0) (e : En) (nx : List En) (ls st : List AV) (x : Mem) : Prop :=
  match e.2.1 with
  | .iconst _ => K nx ls (vi e.2.2.2.2 :: st) x
  | .bipush _ => K nx ls (vi e.2.2.2.2 :: st) x
  | .sipush _ => K nx ls (vi e.2.2.2.2 :: st) x
  | .ldc_w _ => K nx ls (vi e.2.2.2.2 :: st) x
  | .lconst _ => K nx ls (vl (lN e.2.2.1) :: st) x
  | .ldc2_w _ => K nx ls (vl (lN e.2.2.1) :: st) x
  | .iload_n n => pI [nth ls n.val vu] fun a _ => K nx ls (vi a :: st) x
  | .iload n => pI [nth ls n vu] fun a _ => K nx ls (vi a :: st) x
  | .lload_n n => pL [nth ls n.val vu] fun a _ => K nx ls (vl a :: st) x
  | .lload n => pL [nth ls n vu] fun a _ => K nx ls (vl a :: st) x
  | .aload_n n => pR [nth ls n.val vu] fun k i _ => K nx ls (vr k i :: st) x
  | .aload n => pR [nth ls n vu] fun k i _ => K nx ls (vr k i :: st) x
  | .istore_n n => pI st fun a r => gd (okst ls n.val) (K nx (ls.set n.val (vi a)) r x)
  | .istore n => pI st fun a r => gd (okst ls n) (K nx (ls.set n (vi a)) r x)
  | .astore_n n => pR st fun k i r => gd (okst ls n.val) (K nx (ls.set n.val (vr k i)) r x)
  | .astore n => pR st fun k i r => gd (okst ls n) (K nx (ls.set n (vr k i)) r x)
  | .lstore_n n => pL st fun a r => gd (okst ls n.val && Nat.blt (n.val + 1) ls.length) (K nx ((ls.set n.val (vl a)).set (n.val + 1) vu) r x)
  | .lstore n => pL st fun a r => gd (okst ls n && Nat.blt (n + 1) ls.length) (K nx ((ls.set n (vl a)).set (n + 1) vu) r x)
  | .iinc n _ => pI [nth ls n vu] fun a _ => gd (okst ls n) (K nx (ls.set n (vi (a + e.2.2.2.2))) st x)
  | .iadd => pI st fun b r => pI r fun a r => K nx ls (vi (a + b) :: r) x
  | .isub => pI st fun b r => pI r fun a r => K nx ls (vi (a - b) :: r) x
  | .imul => pI st fun b r => pI r fun a r => K nx ls (vi (a * b) :: r) x
  | .iand => pI st fun b r => pI r fun a r => K nx ls (vi (a &&& b) :: r) x
  | .ior => pI st fun b r => pI r fun a r => K nx ls (vi (a ||| b) :: r) x
  | .ixor => pI st fun b r => pI r fun a r => K nx ls (vi (a ^^^ b) :: r) x
  | .ishl => pI st fun b r => pI r fun a r => K nx ls (vi (a <<< (b &&& 31)) :: r) x
  | .ishr => pI st fun b r => pI r fun a r => K nx ls (vi (a >>> (b &&& 31)) :: r) x
  | .iushr => pI st fun b r => pI r fun a r => K nx ls (vi (a.toUInt32 >>> (b.toUInt32 &&& Int32.toUInt32 31)).toInt32 :: r) x
  | .idiv => pI st fun b r => pI r fun a r => ¬ b = 0 ∧ K nx ls (vi (a / b) :: r) x
  | .irem => pI st fun b r => pI r fun a r => ¬ b = 0 ∧ K nx ls (vi (a - a / b * b) :: r) x
  | .ladd => pL st fun b r => pL r fun a r => K nx ls (vl (a + b) :: r) x
  | .lsub => pL st fun b r => pL r fun a r => K nx ls (vl (a - b) :: r) x
  | .ldiv => pL st fun b r => pL r fun a r => ¬ b = 0 ∧ K nx ls (vl (a / b) :: r) x
  | .lrem => pL st fun b r => pL r fun a r => ¬ b = 0 ∧ K nx ls (vl (a - a / b * b) :: r) x
  | .lshl => pI st fun b r => pL r fun a r => K nx ls (vl (a <<< (b.toInt64 &&& 63)) :: r) x
  | .lcmp => pL st fun b r => pL r fun a r => K nx ls (vi (lg_cmp a b) :: r) x
  | .i2l => pI st fun a r => K nx ls (vl a.toInt64 :: r) x
  | .i2b => pI st fun a r => K nx ls (vi a.toInt8.toInt32 :: r) x
  | .i2s => pI st fun a r => K nx ls (vi a.toInt16.toInt32 :: r) x
  | .dup => match st with
    | a :: r => gd (!(isLong a)) (K nx ls (a :: a :: r) x)
    | _ => False
  | .pop => match st with
    | a :: r => gd (!(isLong a)) (K nx ls r x)
    | _ => False
  | .dup_x1 => match st with
    | a :: b :: r => gd (!(isLong a) && !(isLong b)) (K nx ls (a :: b :: a :: r) x)
    | _ => False
  | .dup2 => match st with
    | a :: b :: r => gd (!(isLong a) && !(isLong b)) (K nx ls (a :: b :: a :: b :: r) x)
    | _ => False
  | .goto _ => K (jmp co e.2.2.1) ls st x
  | .ifCond c _ => pI st fun a r => cnd c a 0 (K (jmp co e.2.2.1) ls r x) (K nx ls r x)
  | .if_icmp c _ => pI st fun b r => pI r fun a r => cnd c a b (K (jmp co e.2.2.1) ls r x) (K nx ls r x)
  | .tableswitch d lo hi offs => pI st fun a r => (a.toInt < lo ∨ hi < a.toInt → K (jmp co ((e.1 : Int) + d).toNat) ls r x) ∧ swT (fun o => K (jmp co ((e.1 : Int) + o).toNat) ls r x) a offs.toList lo
  | .lookupswitch d ps => pI st fun a r => swL (fun o => K (jmp co ((e.1 : Int) + o).toNat) ls r x) a d ps.toList
  | .getfield _ => pR st fun k i r => pOb (lay k) fun ci fl => gd (Nat.beq ci e.2.2.2.1) (pF (nth (fl.map some) e.2.2.1 none) (K nx ls (vi (x k i e.2.2.1) :: r) x) fun q => K nx ls (vr q i :: r) x)
  | .putfield _ => pI st fun v r => pR r fun k i r => pOb (lay k) fun ci fl => gd (Nat.beq ci e.2.2.2.1) (pF (nth (fl.map some) e.2.2.1 none) (K nx ls r (up x k i e.2.2.1 v)) fun _ => False)
  | .iaload => pI st fun j r => pR r fun k i r => pAr (lay k) fun n => vp_in j n ∧ K nx ls (vi (x k i j.toNatClampNeg) :: r) x
  | .iastore => pI st fun v r => pI r fun j r => pR r fun k i r => pAr (lay k) fun n => vp_in j n ∧ K nx ls r (up x k i j.toNatClampNeg v)
  | .aaload => pI st fun j r => pR r fun k i r => pAq (lay k) fun n q => vp_in j n ∧ (x k i j.toNatClampNeg).toNatClampNeg < cnt q ∧ K nx ls (vr q (x k i j.toNatClampNeg).toNatClampNeg :: r) x
  | .aastore => pR st fun kv iv r => pI r fun j r => pR r fun k i r => pAq (lay k) fun n q => gd (Nat.beq kv q) (vp_in j n ∧ K nx ls r (up x k i j.toNatClampNeg (nI iv)))
  | .invokevirtual _ => pR (st.drop e.2.2.2.1) fun k i r => pOb (lay k) fun ci _ => gd (Nat.beq ci (mcl e.2.2.1) && Nat.ble (szs r) 8) (C e.2.2.1 (vr k i :: (st.take e.2.2.2.1).reverse) x fun v x' => rO (mrk e.2.2.1) v fun w => K nx ls (w ++ r) x')
  | .invokestatic _ => cond (Nat.beq e.2.2.1 999)
      (pI st fun n r => pI r fun dp r => pR r fun k1 i1 r => pI r fun sp r => pR r fun k0 i0 r => pAr (lay k0) fun n0 => pAr (lay k1) fun n1 => (¬ sp < 0 ∧ ¬ dp < 0 ∧ ¬ n < 0 ∧ sp.toNatClampNeg + n.toNatClampNeg ≤ n0 ∧ dp.toNatClampNeg + n.toNatClampNeg ≤ n1) ∧ Nat.ble (szs r) 8 = true ∧ K nx ls r (setR x k1 i1 (va_cpy (x k0 i0) (x k1 i1) sp.toNatClampNeg dp.toNatClampNeg n.toNatClampNeg)))
      (cond (Nat.beq e.2.2.1 997) (pI st fun b r => pI r fun a r => gd (Nat.ble (szs r) 8) (K nx ls (vi (if a < b then b else a) :: r) x))
        (cond (Nat.beq e.2.2.1 998) (pI st fun b r => pI r fun a r => gd (Nat.ble (szs r) 8) (K nx ls (vi (if b < a then b else a) :: r) x))
          (gd (Nat.ble e.2.2.2.1 st.length && Nat.ble (szs (st.drop e.2.2.2.1)) 8) (C e.2.2.1 (st.take e.2.2.2.1).reverse x fun v x' => rO (mrk e.2.2.1) v fun w => K nx ls (w ++ st.drop e.2.2.2.1) x'))))
  | .ireturn => match st with
    | [.inl a] => cond bo ((a = 0 ∨ a = 1) ∧ Q (some (vi a)) x) (Q (some (vi a)) x)
    | _ => False
  | .lreturn => match st with
    | [.inr (.inl a)] => Q (some (vl a)) x
    | _ => False
  | .return_ => match st with
    | [] => Q none x
    | _ => False
  | _ => False
theorem pI_m {st : List AV} {k k' : Int32 → List AV → Prop} (h : pI st k) (hk : ∀ a r, k a r → k' a r) : pI st k' := by
  match st, h with
  | .inl a :: r, h => exact hk a r h
  | .inr a :: r, h => exact False.elim h
  | [], h => exact False.elim h
theorem pL_m {st : List AV} {k k' : Int64 → List AV → Prop} (h : pL st k) (hk : ∀ a r, k a r → k' a r) : pL st k' := by
  match st, h with
  | .inr (.inl a) :: r, h => exact hk a r h
  | .inr (.inr a) :: r, h => exact False.elim h
  | .inl a :: r, h => exact False.elim h
  | [], h => exact False.elim h
theorem pR_m {st : List AV} {k k' : Nat → Nat → List AV → Prop} (h : pR st k) (hk : ∀ a b r, k a b r → k' a b r) : pR st k' := by
  match st, h with
  | .inr (.inr (some (a, b))) :: r, h => exact hk a b r h
  | .inr (.inr none) :: r, h => exact False.elim h
  | .inr (.inl a) :: r, h => exact False.elim h
  | .inl a :: r, h => exact False.elim h
  | [], h => exact False.elim h
theorem pI_e {st : List AV} {k : Int32 → List AV → Prop} (h : pI st k) : ∃ a r, st = vi a :: r ∧ k a r := by
  match st, h with
  | .inl a :: r, h => exact ⟨a, r, rfl, h⟩
  | .inr a :: r, h => exact False.elim h
  | [], h => exact False.elim h
theorem pL_e {st : List AV} {k : Int64 → List AV → Prop} (h : pL st k) : ∃ a r, st = vl a :: r ∧ k a r := by
  match st, h with
  | .inr (.inl a) :: r, h => exact ⟨a, r, rfl, h⟩
  | .inr (.inr a) :: r, h => exact False.elim h
  | .inl a :: r, h => exact False.elim h
  | [], h => exact False.elim h
theorem pR_e {st : List AV} {k : Nat → Nat → List AV → Prop} (h : pR st k) : ∃ a b r, st = vr a b :: r ∧ k a b r := by
  match st, h with
  | .inr (.inr (some (a, b))) :: r, h => exact ⟨a, b, r, rfl, h⟩
  | .inr (.inr none) :: r, h => exact False.elim h
  | .inr (.inl a) :: r, h => exact False.elim h
  | .inl a :: r, h => exact False.elim h
  | [], h => exact False.elim h
theorem gd_m {b : Bool} {A A' : Prop} (h : gd b A) (hk : A → A') : gd b A' := by
  cases b
  · exact False.elim h
  · exact hk h
theorem gd_e {b : Bool} {A : Prop} (h : gd b A) : b = true ∧ A := by
  cases b
  · exact False.elim h
  · exact ⟨rfl, h⟩
theorem pOb_m {o : (Nat × List (Option Nat)) ⊕ (Nat × Option Nat)} {k k' : Nat → List (Option Nat) → Prop} (h : pOb o k) (hk : ∀ a b, k a b → k' a b) : pOb o k' := by
  match o, h with
  | .inl (a, b), h => exact hk a b h
  | .inr _, h => exact False.elim h
theorem pOb_e {o : (Nat × List (Option Nat)) ⊕ (Nat × Option Nat)} {k : Nat → List (Option Nat) → Prop} (h : pOb o k) : ∃ a b, o = .inl (a, b) ∧ k a b := by
  match o, h with
  | .inl (a, b), h => exact ⟨a, b, rfl, h⟩
  | .inr _, h => exact False.elim h
theorem pAr_m {o : (Nat × List (Option Nat)) ⊕ (Nat × Option Nat)} {k k' : Nat → Prop} (h : pAr o k) (hk : ∀ a, k a → k' a) : pAr o k' := by
  match o, h with
  | .inr (a, none), h => exact hk a h
  | .inr (a, some _), h => exact False.elim h
  | .inl _, h => exact False.elim h
theorem pAr_e {o : (Nat × List (Option Nat)) ⊕ (Nat × Option Nat)} {k : Nat → Prop} (h : pAr o k) : ∃ a, o = .inr (a, none) ∧ k a := by
  match o, h with
  | .inr (a, none), h => exact ⟨a, rfl, h⟩
  | .inr (a, some _), h => exact False.elim h
  | .inl _, h => exact False.elim h
theorem pAq_m {o : (Nat × List (Option Nat)) ⊕ (Nat × Option Nat)} {k k' : Nat → Nat → Prop} (h : pAq o k) (hk : ∀ a b, k a b → k' a b) : pAq o k' := by
  match o, h with
  | .inr (a, some b), h => exact hk a b h
  | .inr (a, none), h => exact False.elim h
  | .inl _, h => exact False.elim h
theorem pAq_e {o : (Nat × List (Option Nat)) ⊕ (Nat × Option Nat)} {k : Nat → Nat → Prop} (h : pAq o k) : ∃ a b, o = .inr (a, some b) ∧ k a b := by
  match o, h with
  | .inr (a, some b), h => exact ⟨a, b, rfl, h⟩
  | .inr (a, none), h => exact False.elim h
  | .inl _, h => exact False.elim h
theorem pF_m {d : Option (Option Nat)} {k k' : Prop} {q q' : Nat → Prop} (h : pF d k q) (hk : k → k') (hq : ∀ a, q a → q' a) : pF d k' q' := by
  match d, h with
  | some none, h => exact hk h
  | some (some a), h => exact hq a h
  | none, h => exact False.elim h
theorem rO_m {t : Nat} {v : Option AV} {k k' : List AV → Prop} (h : rO t v k) (hk : ∀ w, k w → k' w) : rO t v k' := by
  match t, v, h with
  | 0, none, h => exact hk _ h
  | 1, some (.inl a), h => exact hk _ h
  | t + 2, some (.inr (.inl a)), h => exact hk _ h
theorem rO_e {t : Nat} {v : Option AV} {k : List AV → Prop} (h : rO t v k) : k v.toList := by
  match t, v, h with
  | 0, none, h => exact h
  | 1, some (.inl a), h => exact h
  | t + 2, some (.inr (.inl a)), h => exact h
theorem swT_m {K K' : Int → Prop} {v : Int32} (hk : ∀ o, K o → K' o) : ∀ (l : List Int) (n : Int), swT K v l n → swT K' v l n
  | [], _, _ => trivial
  | o :: os, n, h => ⟨fun e => hk o (h.1 e), swT_m hk os (n + 1) h.2⟩
theorem swL_m {K K' : Int → Prop} {v : Int32} {d : Int} (hk : ∀ o, K o → K' o) : ∀ (l : List (Int × Int)), swL K v d l → swL K' v d l
  | [], h => hk d h
  | (a, o) :: r, h => ⟨fun e => hk o (h.1 e), fun e => swL_m hk r (h.2 e)⟩
theorem cnd_m {c : Jvm.ClassFile.Cond} {a b : Int32} {A A' B B' : Prop} (h : cnd c a b A B) (hA : A → A') (hB : B → B') : cnd c a b A' B' := by
  cases c <;> exact ⟨fun e => hA (h.1 e), fun e => hB (h.2 e)⟩
set_option maxHeartbeats 4000000 in
set_option maxRecDepth 100000 in
theorem stp_mono {co : List En} {bo : Bool} {C : Cl0} {Q Q' : Option AV → Mem → Prop} {K K' : Pt0} {e : En} {nx : List En} {ls st : List AV} {x : Mem}
    (hC : ∀ m a x R R', (∀ v y, R v y → R' v y) → C m a x R → C m a x R') (hQ : ∀ v y, Q v y → Q' v y) (hK : ∀ c l t y, K c l t y → K' c l t y) (h : stp co bo C Q K e nx ls st x) : stp co bo C Q' K' e nx ls st x := by
  obtain ⟨pc, ins, i1, i2, v⟩ := e
  cases ins
  case iconst => exact hK _ _ _ _ h
  case bipush => exact hK _ _ _ _ h
  case sipush => exact hK _ _ _ _ h
  case ldc_w => exact hK _ _ _ _ h
  case lconst => exact hK _ _ _ _ h
  case ldc2_w => exact hK _ _ _ _ h
  case goto => exact hK _ _ _ _ h
  case iload_n => exact pI_m h fun _ _ h => hK _ _ _ _ h
  case iload => exact pI_m h fun _ _ h => hK _ _ _ _ h
  case lload_n => exact pL_m h fun _ _ h => hK _ _ _ _ h
  case lload => exact pL_m h fun _ _ h => hK _ _ _ _ h
  case aload_n => exact pR_m h fun _ _ _ h => hK _ _ _ _ h
  case aload => exact pR_m h fun _ _ _ h => hK _ _ _ _ h
  case istore_n => exact pI_m h fun _ _ h => gd_m h (hK _ _ _ _)
  case istore => exact pI_m h fun _ _ h => gd_m h (hK _ _ _ _)
  case astore_n => exact pR_m h fun _ _ _ h => gd_m h (hK _ _ _ _)
  case astore => exact pR_m h fun _ _ _ h => gd_m h (hK _ _ _ _)
  case lstore_n => exact pL_m h fun _ _ h => gd_m h (hK _ _ _ _)
  case lstore => exact pL_m h fun _ _ h => gd_m h (hK _ _ _ _)
  case iinc => exact pI_m h fun _ _ h => gd_m h (hK _ _ _ _)
  case iadd => exact pI_m h fun _ _ h => pI_m h fun _ _ h => hK _ _ _ _ h
  case isub => exact pI_m h fun _ _ h => pI_m h fun _ _ h => hK _ _ _ _ h
  case imul => exact pI_m h fun _ _ h => pI_m h fun _ _ h => hK _ _ _ _ h
  case iand => exact pI_m h fun _ _ h => pI_m h fun _ _ h => hK _ _ _ _ h
  case ior => exact pI_m h fun _ _ h => pI_m h fun _ _ h => hK _ _ _ _ h
  case ixor => exact pI_m h fun _ _ h => pI_m h fun _ _ h => hK _ _ _ _ h
  case ishl => exact pI_m h fun _ _ h => pI_m h fun _ _ h => hK _ _ _ _ h
  case ishr => exact pI_m h fun _ _ h => pI_m h fun _ _ h => hK _ _ _ _ h
  case iushr => exact pI_m h fun _ _ h => pI_m h fun _ _ h => hK _ _ _ _ h
  case idiv => exact pI_m h fun _ _ h => pI_m h fun _ _ h => ⟨h.1, hK _ _ _ _ h.2⟩
  case irem => exact pI_m h fun _ _ h => pI_m h fun _ _ h => ⟨h.1, hK _ _ _ _ h.2⟩
  case ladd => exact pL_m h fun _ _ h => pL_m h fun _ _ h => hK _ _ _ _ h
  case lsub => exact pL_m h fun _ _ h => pL_m h fun _ _ h => hK _ _ _ _ h
  case ldiv => exact pL_m h fun _ _ h => pL_m h fun _ _ h => ⟨h.1, hK _ _ _ _ h.2⟩
  case lrem => exact pL_m h fun _ _ h => pL_m h fun _ _ h => ⟨h.1, hK _ _ _ _ h.2⟩
  case lshl => exact pI_m h fun _ _ h => pL_m h fun _ _ h => hK _ _ _ _ h
  case lcmp => exact pL_m h fun _ _ h => pL_m h fun _ _ h => hK _ _ _ _ h
  case i2l => exact pI_m h fun _ _ h => hK _ _ _ _ h
  case i2b => exact pI_m h fun _ _ h => hK _ _ _ _ h
  case i2s => exact pI_m h fun _ _ h => hK _ _ _ _ h
  case dup =>
    match st, h with
    | [], h => exact False.elim h
    | a :: r, h => exact gd_m h (hK _ _ _ _)
  case pop =>
    match st, h with
    | [], h => exact False.elim h
    | a :: r, h => exact gd_m h (hK _ _ _ _)
  case dup_x1 =>
    match st, h with
    | [], h => exact False.elim h
    | [a], h => exact False.elim h
    | a :: b :: r, h => exact gd_m h (hK _ _ _ _)
  case dup2 =>
    match st, h with
    | [], h => exact False.elim h
    | [a], h => exact False.elim h
    | a :: b :: r, h => exact gd_m h (hK _ _ _ _)
  case ifCond => exact pI_m h fun _ _ h => cnd_m h (hK _ _ _ _) (hK _ _ _ _)
  case if_icmp => exact pI_m h fun _ _ h => pI_m h fun _ _ h => cnd_m h (hK _ _ _ _) (hK _ _ _ _)
  case tableswitch => exact pI_m h fun _ _ h => ⟨fun q => hK _ _ _ _ (h.1 q), swT_m (fun _ => hK _ _ _ _) _ _ h.2⟩
  case lookupswitch => exact pI_m h fun _ _ h => swL_m (fun _ => hK _ _ _ _) _ h
  case getfield => exact pR_m h fun _ _ _ h => pOb_m h fun _ _ h => gd_m h fun h => pF_m h (hK _ _ _ _) fun _ => hK _ _ _ _
  case putfield => exact pI_m h fun _ _ h => pR_m h fun _ _ _ h => pOb_m h fun _ _ h => gd_m h fun h => pF_m h (hK _ _ _ _) fun _ h => h
  case iaload => exact pI_m h fun _ _ h => pR_m h fun _ _ _ h => pAr_m h fun _ h => ⟨h.1, hK _ _ _ _ h.2⟩
  case iastore => exact pI_m h fun _ _ h => pI_m h fun _ _ h => pR_m h fun _ _ _ h => pAr_m h fun _ h => ⟨h.1, hK _ _ _ _ h.2⟩
  case aaload => exact pI_m h fun _ _ h => pR_m h fun _ _ _ h => pAq_m h fun _ _ h => ⟨h.1, h.2.1, hK _ _ _ _ h.2.2⟩
  case aastore => exact pR_m h fun _ _ _ h => pI_m h fun _ _ h => pR_m h fun _ _ _ h => pAq_m h fun _ _ h => gd_m h fun h => ⟨h.1, hK _ _ _ _ h.2⟩
  case invokevirtual => exact pR_m h fun _ _ _ h => pOb_m h fun _ _ h => gd_m h (hC _ _ _ _ _ fun _ _ h => rO_m h fun _ => hK _ _ _ _)
  case invokestatic =>
    revert h
    show cond (Nat.beq i1 999) _ _ → cond (Nat.beq i1 999) _ _
    cases Nat.beq i1 999
    · show cond (Nat.beq i1 997) _ _ → cond (Nat.beq i1 997) _ _
      cases Nat.beq i1 997
      · show cond (Nat.beq i1 998) _ _ → cond (Nat.beq i1 998) _ _
        cases Nat.beq i1 998
        · exact fun h => gd_m h (hC _ _ _ _ _ fun _ _ h => rO_m h fun _ => hK _ _ _ _)
        · exact fun h => pI_m h fun _ _ h => pI_m h fun _ _ h => gd_m h (hK _ _ _ _)
      · exact fun h => pI_m h fun _ _ h => pI_m h fun _ _ h => gd_m h (hK _ _ _ _)
    · exact fun h => pI_m h fun _ _ h => pI_m h fun _ _ h => pR_m h fun _ _ _ h => pI_m h fun _ _ h => pR_m h fun _ _ _ h => pAr_m h fun _ h => pAr_m h fun _ h => ⟨h.1, h.2.1, hK _ _ _ _ h.2.2⟩
  case ireturn =>
    match st, h with
    | [.inl a], h =>
      revert h
      show cond bo _ _ → cond bo _ _
      cases bo
      · exact hQ _ _
      · exact fun h => ⟨h.1, hQ _ _ h.2⟩
    | [], h => exact False.elim h
    | [.inr a], h => exact False.elim h
    | a :: b :: r, h => exact False.elim (by cases a <;> exact h)
  case lreturn =>
    match st, h with
    | [.inr (.inl a)], h => exact hQ _ _ h
    | [], h => exact False.elim h
    | [.inl a], h => exact False.elim h
    | [.inr (.inr a)], h => exact False.elim h
    | a :: b :: r, h => exact False.elim (by rcases a with a | a | a <;> exact h)
  case return_ =>
    match st, h with
    | [], h => exact hQ _ _ h
    | a :: r, h => exact False.elim h
  all_goals exact h
/-- the least predicate that steps lead to -/
def WP (co : List En) (bo : Bool) (C : Cl0) (Q : Option AV → Mem → Prop) : Pt0 := fun code ls st x => ∀ P : Pt0, (∀ e nx ls st x, stp co bo C Q P e nx ls st x → P (e :: nx) ls st x) → P code ls st x
def Mo (C : Cl0) : Prop := ∀ m a x R R', (∀ v y, R v y → R' v y) → C m a x R → C m a x R'
section WPS
variable {co : List En} {bo : Bool} {C : Cl0} {Q : Option AV → Mem → Prop}
theorem WP.fold (hC : Mo C) {e : En} {nx : List En} {ls st : List AV} {x : Mem} (h : stp co bo C Q (WP co bo C Q) e nx ls st x) : WP co bo C Q (e :: nx) ls st x := fun P hP => hP _ _ _ _ _ (stp_mono hC (fun _ _ h => h) (fun _ _ _ _ h => h P hP) h)
def WPu (co : List En) (bo : Bool) (C : Cl0) (Q : Option AV → Mem → Prop) : Pt0 := fun code ls st x => match code with
  | [] => False
  | e :: nx => stp co bo C Q (WP co bo C Q) e nx ls st x
theorem WP.unfold (hC : Mo C) {code : List En} {ls st : List AV} {x : Mem} (h : WP co bo C Q code ls st x) : WPu co bo C Q code ls st x := by
  refine h (WPu co bo C Q) fun e nx ls st x h => ?_
  refine stp_mono hC (fun _ _ h => h) (fun c l t y h => ?_) h
  match c, h with
  | [], h => exact False.elim h
  | e :: nx, h => exact WP.fold hC h
def stopAt (hs : List Nat) : List En → Bool
  | [] => false
  | e :: _ => hs.any (fun h => Nat.beq h e.1)
/-- n steps, but not beyond the places hs; then WP -/
def Wh (hs : List Nat) (co : List En) (bo : Bool) (C : Cl0) (Q : Option AV → Mem → Prop) : Nat → Pt0
  | 0 => WP co bo C Q
  | n + 1 => fun code ls st x => match code with
    | [] => False
    | e :: nx => stp co bo C Q (fun c l t y => cond (stopAt hs c) (WP co bo C Q c l t y) (Wh hs co bo C Q n c l t y)) e nx ls st x
theorem Wh.to {hs : List Nat} (hC : Mo C) : ∀ (n : Nat) {code : List En} {ls st : List AV} {x : Mem}, Wh hs co bo C Q n code ls st x → WP co bo C Q code ls st x := by
  intro n
  induction n with
  | zero => intro code ls st x h; exact h
  | succ n ih =>
    intro code ls st x h
    match code, h with
    | [], h => exact False.elim h
    | e :: nx, h =>
      have h1 : stp co bo C Q (fun c l t y => cond (stopAt hs c) (WP co bo C Q c l t y) (Wh hs co bo C Q n c l t y)) e nx ls st x := h
      refine WP.fold hC (stp_mono hC (fun _ _ h => h) (fun c l t y h => ?_) h1)
      cases hb : stopAt hs c with
      | true => rw [hb] at h; exact h
      | false => rw [hb] at h; exact ih h
theorem WP.mono (hC : Mo C) {Q' : Option AV → Mem → Prop} (hQ : ∀ v y, Q v y → Q' v y) {code : List En} {ls st : List AV} {x : Mem} (h : WP co bo C Q code ls st x) : WP co bo C Q' code ls st x :=
  h (WP co bo C Q') fun _ _ _ _ _ h => WP.fold hC (stp_mono hC hQ (fun _ _ _ _ h => h) h)
end WPS
/-- the locals at a method's start -/
def exA : List AV → List AV
  | [] => []
  | v :: r => cond (isLong v) (v :: vu :: exA r) (v :: exA r)
def padV : Nat → List AV → List AV
  | 0, _ => []
  | n + 1, [] => vu :: padV n []
  | n + 1, v :: r => v :: padV n r
end
