/-! the law's loop -/
theorem law_room {i L : Nat} (hi : i ≤ L) (hL : L ≤ 3072) (h : ¬ Int32.ofNat L - 6 < nI i) : i + 6 ≤ L := by
  rcases Nat.lt_or_ge L (i + 6) with q | q
  · exfalso
    apply h
    rw [Int32.lt_iff_toInt_lt, nI_toInt (by omega)]
    have h1 : (Int32.ofNat L).toInt = (L : Int) := nI_toInt (n := L) (by omega)
    rw [Int32.toInt_sub, h1, show (6 : Int32).toInt = 6 from rfl]
    rw [Int.bmod_eq_of_le (by omega) (by omega)]
    omega
  · exact q
set_option maxHeartbeats 4000000 in
set_option maxRecDepth 100000 in
theorem law_loop {p : Program} {l : Launch} {e : Env} {s : State} {m : MethodId} {below : List Frame} {meth : Method} {c : Code} {b L : Nat} {xs : Nat → Int32} (C0 : lw_At p s m meth c b L xs) (hL : L ≤ 3072) {D : va_G} {ad : Nat → Nat → Nat} {cI cT cS : ClassId} (hK : va_K D vwCl (Tys cI cT cS) s) (hNW : NWs s) : ∀ (n i : Nat), i ≤ L → L + 1 ≤ i + n → ∀ (x : Mem) (H : Heap) (locs : List Loc), Inv x → WO D ad cI cT cS (AL s) s.heap x H locs → ∀ (ls : Array Slot), lv_has ls 4 (LV b ad i) → LG p l e s m b below meth c H locs (F0 m 18 ls []) := by
  obtain ⟨hx, hb, hr, hml, hown, hts, hX, hbl, hlocks, hgv⟩ := id C0
  have hbA : ¬ (AL s) b := Nat.not_le.mpr hbl
  intro n
  induction n with
  | zero =>
    intro i h1 h2
    exact absurd h2 (by omega)
  | succ n ih =>
    intro i hi hin x H locs hI hW ls hl
    refine lv_iload_n hx hb dL_law_18 rfl (lv_at hl 3 rfl) ?_
    refine lv_aload_n hx hb dL_law_19 rfl (lv_at hl 0 rfl) ?_
    refine va_slen hx hb hX hbl hbA hW.2.2 dL_law_20 ?_
    refine lv_bipush (v := 6) hx hb dL_law_21 (by decide) ?_
    refine lv_isub hx hb dL_law_23 ?_
    refine lv_icmp_gt (tgt := 1150) hx hb dL_law_24 (by decide) (fun _ => ?_) (fun c1 => ?_)
    · refine lv_iconst (v := 1) hx hb dL_law_1150 (by decide) ?_
      refine va_forget (fun q hq => hW.2.2.2.2 q hq) ?_
      refine W.widen (k := 600000) (n := 7302250) (Nat.le_of_ble_eq_true rfl) (Nat.le_of_ble_eq_true rfl) ?_
      exact lw_ret hx hb hr hlocks dL_law_1151
    · have h6 := law_room hi hL c1
      refine lv_aload_n hx hb dL_law_27 rfl (lv_at hl 0 rfl) ?_
      refine lv_iload_n hx hb dL_law_28 rfl (lv_at hl 3 rfl) ?_
      refine va_sld hx hb hX hbl hbA hW.2.2 (vp_in_nI (show i < L by omega) (by omega)) dL_law_29 ?_
      refine lv_bipush (v := 31) hx hb dL_law_30 (by decide) ?_
      refine lv_iand hx hb dL_law_32 ?_
      obtain ⟨j, hj, ej⟩ := pk_andE (xs (nI i).toNatClampNeg) (m := 31) 5 (by decide)
      rw [ej]
      have kk : ∀ (x1 : Mem) (H1 : Heap) (locs1 : List Loc), Inv x1 → WO D ad cI cT cS (AL s) s.heap x1 H1 locs1 → LG p l e s m b below meth c H1 locs1 (F0 m 1144 ls []) := by
        intro x1 H1 locs1 hI1 hW1
        refine lv_iinc (v := nI (i + 6)) (lv' := [(3, .int (nI (i + 6))), (0, .ref b), (1, .ref (ad 0 0)), (2, .ref (ad 13 0))]) hx hb dL_law_1144 hl (k := 3) rfl (by rw [← nI_add]; rfl) (by decide) rfl (fun ls hl => ?_)
        refine lv_goto (tgt := 18) hx hb dL_law_1147 (by decide) ?_
        exact ih (i + 6) h6 (by omega) x1 H1 locs1 hI1 hW1 ls (lv_sub hl [1, 2, 3, 0] rfl)
      match j, hj with
      | 0, _ => exact lv_tableIn (off := 143) (tgt := 176) hx hb dL_law_33 (by decide) (by decide) rfl (by decide) (law_c0 C0 hL hK hNW h6 hI hW hl kk)
      | 1, _ => exact lv_tableIn (off := 196) (tgt := 229) hx hb dL_law_33 (by decide) (by decide) rfl (by decide) (law_c1 C0 hL hK hNW h6 hI hW hl kk)
      | 2, _ => exact lv_tableIn (off := 229) (tgt := 262) hx hb dL_law_33 (by decide) (by decide) rfl (by decide) (law_c2 C0 hL hK hNW h6 hI hW hl kk)
      | 3, _ => exact lv_tableIn (off := 262) (tgt := 295) hx hb dL_law_33 (by decide) (by decide) rfl (by decide) (law_c3 C0 hL hK hNW h6 hI hW hl kk)
      | 4, _ => exact lv_tableIn (off := 295) (tgt := 328) hx hb dL_law_33 (by decide) (by decide) rfl (by decide) (law_c4 C0 hL hK hNW h6 hI hW hl kk)
      | 5, _ => exact lv_tableIn (off := 318) (tgt := 351) hx hb dL_law_33 (by decide) (by decide) rfl (by decide) (law_c5 C0 hL hK hNW h6 hI hW hl kk)
      | 6, _ => exact lv_tableIn (off := 331) (tgt := 364) hx hb dL_law_33 (by decide) (by decide) rfl (by decide) (law_c6 C0 hL hK hNW h6 hI hW hl kk)
      | 7, _ => exact lv_tableIn (off := 354) (tgt := 387) hx hb dL_law_33 (by decide) (by decide) rfl (by decide) (law_c7 C0 hL hK hNW h6 hI hW hl kk)
      | 8, _ => exact lv_tableIn (off := 367) (tgt := 400) hx hb dL_law_33 (by decide) (by decide) rfl (by decide) (law_c8 C0 hL hK hNW h6 hI hW hl kk)
      | 9, _ => exact lv_tableIn (off := 400) (tgt := 433) hx hb dL_law_33 (by decide) (by decide) rfl (by decide) (law_c9 C0 hL hK hNW h6 hI hW hl kk)
      | 10, _ => exact lv_tableIn (off := 443) (tgt := 476) hx hb dL_law_33 (by decide) (by decide) rfl (by decide) (law_c10 C0 hL hK hNW h6 hI hW hl kk)
      | 11, _ => exact lv_tableIn (off := 506) (tgt := 539) hx hb dL_law_33 (by decide) (by decide) rfl (by decide) (law_c11 C0 hL hK hNW h6 hI hW hl kk)
      | 12, _ => exact lv_tableIn (off := 529) (tgt := 562) hx hb dL_law_33 (by decide) (by decide) rfl (by decide) (law_c12 C0 hL hK hNW h6 hI hW hl kk)
      | 13, _ => exact lv_tableIn (off := 552) (tgt := 585) hx hb dL_law_33 (by decide) (by decide) rfl (by decide) (law_c13 C0 hL hK hNW h6 hI hW hl kk)
      | 14, _ => exact lv_tableIn (off := 575) (tgt := 608) hx hb dL_law_33 (by decide) (by decide) rfl (by decide) (law_c14 C0 hL hK hNW h6 hI hW hl kk)
      | 15, _ => exact lv_tableIn (off := 598) (tgt := 631) hx hb dL_law_33 (by decide) (by decide) rfl (by decide) (law_c15 C0 hL hK hNW h6 hI hW hl kk)
      | 16, _ => exact lv_tableIn (off := 641) (tgt := 674) hx hb dL_law_33 (by decide) (by decide) rfl (by decide) (law_c16 C0 hL hK hNW h6 hI hW hl kk)
      | 17, _ => exact lv_tableIn (off := 664) (tgt := 697) hx hb dL_law_33 (by decide) (by decide) rfl (by decide) (law_c17 C0 hL hK hNW h6 hI hW hl kk)
      | 18, _ => exact lv_tableIn (off := 687) (tgt := 720) hx hb dL_law_33 (by decide) (by decide) rfl (by decide) (law_c18 C0 hL hK hNW h6 hI hW hl kk)
      | 19, _ => exact lv_tableIn (off := 710) (tgt := 743) hx hb dL_law_33 (by decide) (by decide) rfl (by decide) (law_c19 C0 hL hK hNW h6 hI hW hl kk)
      | 20, _ => exact lv_tableIn (off := 733) (tgt := 766) hx hb dL_law_33 (by decide) (by decide) rfl (by decide) (law_c20 C0 hL hK hNW h6 hI hW hl kk)
      | 21, _ => exact lv_tableIn (off := 767) (tgt := 800) hx hb dL_law_33 (by decide) (by decide) rfl (by decide) (law_c21 C0 hL hK hNW h6 hI hW hl kk)
      | 22, _ => exact lv_tableIn (off := 810) (tgt := 843) hx hb dL_law_33 (by decide) (by decide) rfl (by decide) (law_c22 C0 hL hK hNW h6 hI hW hl kk)
      | 23, _ => exact lv_tableIn (off := 833) (tgt := 866) hx hb dL_law_33 (by decide) (by decide) rfl (by decide) (law_c23 C0 hL hK hNW h6 hI hW hl kk)
      | 24, _ => exact lv_tableIn (off := 876) (tgt := 909) hx hb dL_law_33 (by decide) (by decide) rfl (by decide) (law_c24 C0 hL hK hNW h6 hI hW hl kk)
      | 25, _ => exact lv_tableIn (off := 920) (tgt := 953) hx hb dL_law_33 (by decide) (by decide) rfl (by decide) (law_c25 C0 hL hK hNW h6 hI hW hl kk)
      | 26, _ => exact lv_tableIn (off := 983) (tgt := 1016) hx hb dL_law_33 (by decide) (by decide) rfl (by decide) (law_c26 C0 hL hK hNW h6 hI hW hl kk)
      | 27, _ => exact lv_tableIn (off := 1006) (tgt := 1039) hx hb dL_law_33 (by decide) (by decide) rfl (by decide) (law_c27 C0 hL hK hNW h6 hI hW hl kk)
      | 28, _ => exact lv_tableIn (off := 1029) (tgt := 1062) hx hb dL_law_33 (by decide) (by decide) rfl (by decide) (law_c28 C0 hL hK hNW h6 hI hW hl kk)
      | 29, _ => exact lv_tableIn (off := 1062) (tgt := 1095) hx hb dL_law_33 (by decide) (by decide) rfl (by decide) (law_c29 C0 hL hK hNW h6 hI hW hl kk)
      | 30, _ => exact lv_tableIn (off := 1075) (tgt := 1108) hx hb dL_law_33 (by decide) (by decide) rfl (by decide) (law_c30 C0 hL hK hNW h6 hI hW hl kk)
      | 31, _ => exact lv_tableIn (off := 1088) (tgt := 1121) hx hb dL_law_33 (by decide) (by decide) rfl (by decide) (law_c31 C0 hL hK hNW h6 hI hW hl kk)
      | j + 32, hj => exact absurd hj (by omega)
