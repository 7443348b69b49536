/-! the calls of the law, each of the class and of the reference -/
set_option maxRecDepth 100000 in
theorem law_c16 {p : Program} {l : Launch} {e : Env} {s : State} {m : MethodId} {below : List Frame} {meth : Method} {c : Code} {b L : Nat} {xs : Nat → Int32} (C0 : lw_At p s m meth c b L xs) (hL : L ≤ 3072) {D : va_G} {ad : Nat → Nat → Nat} {cI cT cS : ClassId} (hK : va_K D vwCl (Tys cI cT cS) s) (hNW : NWs s) {i : Nat} (hi : i + 6 ≤ L) {x : Mem} {H : Heap} {locs : List Loc} {ls : Array Slot} (hI : Inv x) (hW : WO D ad cI cT cS (AL s) s.heap x H locs) (hl : lv_has ls 4 (LV b ad i)) (kk : ∀ (x1 : Mem) (H1 : Heap) (locs1 : List Loc), Inv x1 → WO D ad cI cT cS (AL s) s.heap x1 H1 locs1 → LG p l e s m b below meth c H1 locs1 (F0 m 1144 ls [])) : LG p l e s m b below meth c H locs (F0 m 674 ls []) := by
  obtain ⟨hx, hb, hr, hml, hown, hts, hX, hbl, hlocks, hgv⟩ := id C0
  refine lv_aload_n hx hb dL_law_674 rfl (lv_at hl 1 rfl) ?_
  refine law_arg C0 hL (k := 1) (by omega) hW.2.2 hl (by decide +kernel) dL_law_675 dL_law_676 dL_law_677 dL_law_678 dL_law_679 ?_
  refine law_call C0 hK hNW LIM (k := 0) (mm := 44) (i2 := 1) (av := [vi (xs (i + 1))]) (r := []) (op_back hI) (by decide) (lw_inst (by decide) rfl) (lw_sel (by decide) rfl) rfl (by decide) rfl rfl (ROKi [xs (i + 1)]) (lwt2 (i := 170) rfl) dL_law_680 hl.1 (Nat.le_of_ble_eq_true rfl) hW (fun v x1 H1 locs1 hq hW1 => ?_)
  obtain ⟨r0, rfl, hq2⟩ := hq
  refine lv_aload_n hx hb dL_law_683 rfl (lv_at hl 2 rfl) ?_
  refine law_arg C0 hL (k := 1) (by omega) hW1.2.2 hl (by decide +kernel) dL_law_684 dL_law_685 dL_law_686 dL_law_687 dL_law_688 ?_
  refine law_call C0 hK hNW LIM (k := 13) (mm := 124) (i2 := 1) (av := [vi (xs (i + 1))]) (r := [vi r0]) hq2 (by decide) (lw_inst (by decide) rfl) (lw_sel (by decide) rfl) rfl (by decide) rfl rfl (ROKi [xs (i + 1)]) (lwt4 (i := 73) rfl) dL_law_689 hl.1 (Nat.le_of_ble_eq_true rfl) hW1 (fun v x2 H2 locs2 hq hW2 => ?_)
  obtain ⟨rfl, hI2⟩ := hq
  exact lv_icmp_eq (tgt := 1144) hx hb dL_law_692 (by decide) (fun _ => kk x2 H2 locs2 hI2 hW2) (fun q => absurd rfl q)
set_option maxRecDepth 100000 in
theorem law_c17 {p : Program} {l : Launch} {e : Env} {s : State} {m : MethodId} {below : List Frame} {meth : Method} {c : Code} {b L : Nat} {xs : Nat → Int32} (C0 : lw_At p s m meth c b L xs) (hL : L ≤ 3072) {D : va_G} {ad : Nat → Nat → Nat} {cI cT cS : ClassId} (hK : va_K D vwCl (Tys cI cT cS) s) (hNW : NWs s) {i : Nat} (hi : i + 6 ≤ L) {x : Mem} {H : Heap} {locs : List Loc} {ls : Array Slot} (hI : Inv x) (hW : WO D ad cI cT cS (AL s) s.heap x H locs) (hl : lv_has ls 4 (LV b ad i)) (kk : ∀ (x1 : Mem) (H1 : Heap) (locs1 : List Loc), Inv x1 → WO D ad cI cT cS (AL s) s.heap x1 H1 locs1 → LG p l e s m b below meth c H1 locs1 (F0 m 1144 ls [])) : LG p l e s m b below meth c H locs (F0 m 697 ls []) := by
  obtain ⟨hx, hb, hr, hml, hown, hts, hX, hbl, hlocks, hgv⟩ := id C0
  refine lv_aload_n hx hb dL_law_697 rfl (lv_at hl 1 rfl) ?_
  refine law_arg C0 hL (k := 1) (by omega) hW.2.2 hl (by decide +kernel) dL_law_698 dL_law_699 dL_law_700 dL_law_701 dL_law_702 ?_
  refine law_call C0 hK hNW LIM (k := 0) (mm := 45) (i2 := 1) (av := [vi (xs (i + 1))]) (r := []) (op_ranks hI) (by decide) (lw_inst (by decide) rfl) (lw_sel (by decide) rfl) rfl (by decide) rfl rfl (ROKi [xs (i + 1)]) (lwt2 (i := 174) rfl) dL_law_703 hl.1 (Nat.le_of_ble_eq_true rfl) hW (fun v x1 H1 locs1 hq hW1 => ?_)
  obtain ⟨r0, rfl, hq2⟩ := hq
  refine lv_aload_n hx hb dL_law_706 rfl (lv_at hl 2 rfl) ?_
  refine law_arg C0 hL (k := 1) (by omega) hW1.2.2 hl (by decide +kernel) dL_law_707 dL_law_708 dL_law_709 dL_law_710 dL_law_711 ?_
  refine law_call C0 hK hNW LIM (k := 13) (mm := 126) (i2 := 1) (av := [vi (xs (i + 1))]) (r := [vi r0]) hq2 (by decide) (lw_inst (by decide) rfl) (lw_sel (by decide) rfl) rfl (by decide) rfl rfl (ROKi [xs (i + 1)]) (lwt4 (i := 77) rfl) dL_law_712 hl.1 (Nat.le_of_ble_eq_true rfl) hW1 (fun v x2 H2 locs2 hq hW2 => ?_)
  obtain ⟨rfl, hI2⟩ := hq
  exact lv_icmp_eq (tgt := 1144) hx hb dL_law_715 (by decide) (fun _ => kk x2 H2 locs2 hI2 hW2) (fun q => absurd rfl q)
set_option maxRecDepth 100000 in
theorem law_c18 {p : Program} {l : Launch} {e : Env} {s : State} {m : MethodId} {below : List Frame} {meth : Method} {c : Code} {b L : Nat} {xs : Nat → Int32} (C0 : lw_At p s m meth c b L xs) (hL : L ≤ 3072) {D : va_G} {ad : Nat → Nat → Nat} {cI cT cS : ClassId} (hK : va_K D vwCl (Tys cI cT cS) s) (hNW : NWs s) {i : Nat} (hi : i + 6 ≤ L) {x : Mem} {H : Heap} {locs : List Loc} {ls : Array Slot} (hI : Inv x) (hW : WO D ad cI cT cS (AL s) s.heap x H locs) (hl : lv_has ls 4 (LV b ad i)) (kk : ∀ (x1 : Mem) (H1 : Heap) (locs1 : List Loc), Inv x1 → WO D ad cI cT cS (AL s) s.heap x1 H1 locs1 → LG p l e s m b below meth c H1 locs1 (F0 m 1144 ls [])) : LG p l e s m b below meth c H locs (F0 m 720 ls []) := by
  obtain ⟨hx, hb, hr, hml, hown, hts, hX, hbl, hlocks, hgv⟩ := id C0
  refine lv_aload_n hx hb dL_law_720 rfl (lv_at hl 1 rfl) ?_
  refine law_arg C0 hL (k := 1) (by omega) hW.2.2 hl (by decide +kernel) dL_law_721 dL_law_722 dL_law_723 dL_law_724 dL_law_725 ?_
  refine law_call C0 hK hNW LIM (k := 0) (mm := 46) (i2 := 1) (av := [vi (xs (i + 1))]) (r := []) (op_kinds hI) (by decide) (lw_inst (by decide) rfl) (lw_sel (by decide) rfl) rfl (by decide) rfl rfl (ROKi [xs (i + 1)]) (lwt2 (i := 186) rfl) dL_law_726 hl.1 (Nat.le_of_ble_eq_true rfl) hW (fun v x1 H1 locs1 hq hW1 => ?_)
  obtain ⟨r0, rfl, hq2⟩ := hq
  refine lv_aload_n hx hb dL_law_729 rfl (lv_at hl 2 rfl) ?_
  refine law_arg C0 hL (k := 1) (by omega) hW1.2.2 hl (by decide +kernel) dL_law_730 dL_law_731 dL_law_732 dL_law_733 dL_law_734 ?_
  refine law_call C0 hK hNW LIM (k := 13) (mm := 127) (i2 := 1) (av := [vi (xs (i + 1))]) (r := [vi r0]) hq2 (by decide) (lw_inst (by decide) rfl) (lw_sel (by decide) rfl) rfl (by decide) rfl rfl (ROKi [xs (i + 1)]) (lwt4 (i := 85) rfl) dL_law_735 hl.1 (Nat.le_of_ble_eq_true rfl) hW1 (fun v x2 H2 locs2 hq hW2 => ?_)
  obtain ⟨rfl, hI2⟩ := hq
  exact lv_icmp_eq (tgt := 1144) hx hb dL_law_738 (by decide) (fun _ => kk x2 H2 locs2 hI2 hW2) (fun q => absurd rfl q)
set_option maxRecDepth 100000 in
theorem law_c19 {p : Program} {l : Launch} {e : Env} {s : State} {m : MethodId} {below : List Frame} {meth : Method} {c : Code} {b L : Nat} {xs : Nat → Int32} (C0 : lw_At p s m meth c b L xs) (hL : L ≤ 3072) {D : va_G} {ad : Nat → Nat → Nat} {cI cT cS : ClassId} (hK : va_K D vwCl (Tys cI cT cS) s) (hNW : NWs s) {i : Nat} (hi : i + 6 ≤ L) {x : Mem} {H : Heap} {locs : List Loc} {ls : Array Slot} (hI : Inv x) (hW : WO D ad cI cT cS (AL s) s.heap x H locs) (hl : lv_has ls 4 (LV b ad i)) (kk : ∀ (x1 : Mem) (H1 : Heap) (locs1 : List Loc), Inv x1 → WO D ad cI cT cS (AL s) s.heap x1 H1 locs1 → LG p l e s m b below meth c H1 locs1 (F0 m 1144 ls [])) : LG p l e s m b below meth c H locs (F0 m 743 ls []) := by
  obtain ⟨hx, hb, hr, hml, hown, hts, hX, hbl, hlocks, hgv⟩ := id C0
  refine lv_aload_n hx hb dL_law_743 rfl (lv_at hl 1 rfl) ?_
  refine law_arg C0 hL (k := 1) (by omega) hW.2.2 hl (by decide +kernel) dL_law_744 dL_law_745 dL_law_746 dL_law_747 dL_law_748 ?_
  refine law_call C0 hK hNW LIM (k := 0) (mm := 47) (i2 := 1) (av := [vi (xs (i + 1))]) (r := []) (op_wants hI) (by decide) (lw_inst (by decide) rfl) (lw_sel (by decide) rfl) rfl (by decide) rfl rfl (ROKi [xs (i + 1)]) (lwt2 (i := 190) rfl) dL_law_749 hl.1 (Nat.le_of_ble_eq_true rfl) hW (fun v x1 H1 locs1 hq hW1 => ?_)
  obtain ⟨r0, rfl, hq2⟩ := hq
  refine lv_aload_n hx hb dL_law_752 rfl (lv_at hl 2 rfl) ?_
  refine law_arg C0 hL (k := 1) (by omega) hW1.2.2 hl (by decide +kernel) dL_law_753 dL_law_754 dL_law_755 dL_law_756 dL_law_757 ?_
  refine law_call C0 hK hNW LIM (k := 13) (mm := 128) (i2 := 1) (av := [vi (xs (i + 1))]) (r := [vi r0]) hq2 (by decide) (lw_inst (by decide) rfl) (lw_sel (by decide) rfl) rfl (by decide) rfl rfl (ROKi [xs (i + 1)]) (lwt4 (i := 89) rfl) dL_law_758 hl.1 (Nat.le_of_ble_eq_true rfl) hW1 (fun v x2 H2 locs2 hq hW2 => ?_)
  obtain ⟨rfl, hI2⟩ := hq
  exact lv_icmp_eq (tgt := 1144) hx hb dL_law_761 (by decide) (fun _ => kk x2 H2 locs2 hI2 hW2) (fun q => absurd rfl q)
set_option maxRecDepth 100000 in
theorem law_c20 {p : Program} {l : Launch} {e : Env} {s : State} {m : MethodId} {below : List Frame} {meth : Method} {c : Code} {b L : Nat} {xs : Nat → Int32} (C0 : lw_At p s m meth c b L xs) (hL : L ≤ 3072) {D : va_G} {ad : Nat → Nat → Nat} {cI cT cS : ClassId} (hK : va_K D vwCl (Tys cI cT cS) s) (hNW : NWs s) {i : Nat} (hi : i + 6 ≤ L) {x : Mem} {H : Heap} {locs : List Loc} {ls : Array Slot} (hI : Inv x) (hW : WO D ad cI cT cS (AL s) s.heap x H locs) (hl : lv_has ls 4 (LV b ad i)) (kk : ∀ (x1 : Mem) (H1 : Heap) (locs1 : List Loc), Inv x1 → WO D ad cI cT cS (AL s) s.heap x1 H1 locs1 → LG p l e s m b below meth c H1 locs1 (F0 m 1144 ls [])) : LG p l e s m b below meth c H locs (F0 m 766 ls []) := by
  obtain ⟨hx, hb, hr, hml, hown, hts, hX, hbl, hlocks, hgv⟩ := id C0
  refine lv_aload_n hx hb dL_law_766 rfl (lv_at hl 1 rfl) ?_
  refine law_arg C0 hL (k := 1) (by omega) hW.2.2 hl (by decide +kernel) dL_law_767 dL_law_768 dL_law_769 dL_law_770 dL_law_771 ?_
  refine law_arg C0 hL (k := 2) (by omega) hW.2.2 hl (by decide +kernel) dL_law_772 dL_law_773 dL_law_774 dL_law_775 dL_law_776 ?_
  refine law_call C0 hK hNW LIM (k := 0) (mm := 48) (i2 := 2) (av := [vi (xs (i + 1)), vi (xs (i + 2))]) (r := []) (op_odds hI) (by decide) (lw_inst (by decide) rfl) (lw_sel (by decide) rfl) rfl (by decide) rfl rfl (ROKi [xs (i + 1), xs (i + 2)]) (lwt2 (i := 194) rfl) dL_law_777 hl.1 (Nat.le_of_ble_eq_true rfl) hW (fun v x1 H1 locs1 hq hW1 => ?_)
  obtain ⟨r0, rfl, hq2⟩ := hq
  refine lv_aload_n hx hb dL_law_780 rfl (lv_at hl 2 rfl) ?_
  refine law_arg C0 hL (k := 1) (by omega) hW1.2.2 hl (by decide +kernel) dL_law_781 dL_law_782 dL_law_783 dL_law_784 dL_law_785 ?_
  refine law_arg C0 hL (k := 2) (by omega) hW1.2.2 hl (by decide +kernel) dL_law_786 dL_law_787 dL_law_788 dL_law_789 dL_law_790 ?_
  refine law_call C0 hK hNW LIM (k := 13) (mm := 129) (i2 := 2) (av := [vi (xs (i + 1)), vi (xs (i + 2))]) (r := [vl r0]) hq2 (by decide) (lw_inst (by decide) rfl) (lw_sel (by decide) rfl) rfl (by decide) rfl rfl (ROKi [xs (i + 1), xs (i + 2)]) (lwt4 (i := 93) rfl) dL_law_791 hl.1 (Nat.le_of_ble_eq_true rfl) hW1 (fun v x2 H2 locs2 hq hW2 => ?_)
  obtain ⟨rfl, hI2⟩ := hq
  refine W.lcmp hx hb dL_law_794 ?_
  rw [lg_cmp_self]
  exact lv_if_eq (tgt := 1144) hx hb dL_law_795 (by decide) (fun _ => kk x2 H2 locs2 hI2 hW2) (fun q => absurd rfl q)
set_option maxRecDepth 100000 in
theorem law_c21 {p : Program} {l : Launch} {e : Env} {s : State} {m : MethodId} {below : List Frame} {meth : Method} {c : Code} {b L : Nat} {xs : Nat → Int32} (C0 : lw_At p s m meth c b L xs) (hL : L ≤ 3072) {D : va_G} {ad : Nat → Nat → Nat} {cI cT cS : ClassId} (hK : va_K D vwCl (Tys cI cT cS) s) (hNW : NWs s) {i : Nat} (hi : i + 6 ≤ L) {x : Mem} {H : Heap} {locs : List Loc} {ls : Array Slot} (hI : Inv x) (hW : WO D ad cI cT cS (AL s) s.heap x H locs) (hl : lv_has ls 4 (LV b ad i)) (kk : ∀ (x1 : Mem) (H1 : Heap) (locs1 : List Loc), Inv x1 → WO D ad cI cT cS (AL s) s.heap x1 H1 locs1 → LG p l e s m b below meth c H1 locs1 (F0 m 1144 ls [])) : LG p l e s m b below meth c H locs (F0 m 800 ls []) := by
  obtain ⟨hx, hb, hr, hml, hown, hts, hX, hbl, hlocks, hgv⟩ := id C0
  refine lv_aload_n hx hb dL_law_800 rfl (lv_at hl 1 rfl) ?_
  refine law_arg C0 hL (k := 1) (by omega) hW.2.2 hl (by decide +kernel) dL_law_801 dL_law_802 dL_law_803 dL_law_804 dL_law_805 ?_
  refine law_arg C0 hL (k := 2) (by omega) hW.2.2 hl (by decide +kernel) dL_law_806 dL_law_807 dL_law_808 dL_law_809 dL_law_810 ?_
  refine law_arg C0 hL (k := 3) (by omega) hW.2.2 hl (by decide +kernel) dL_law_811 dL_law_812 dL_law_813 dL_law_814 dL_law_815 ?_
  refine law_call C0 hK hNW LIM (k := 0) (mm := 49) (i2 := 3) (av := [vi (xs (i + 1)), vi (xs (i + 2)), vi (xs (i + 3))]) (r := []) (op_sheet hI) (by decide) (lw_inst (by decide) rfl) (lw_sel (by decide) rfl) rfl (by decide) rfl rfl (ROKi [xs (i + 1), xs (i + 2), xs (i + 3)]) (lwt2 (i := 200) rfl) dL_law_816 hl.1 (Nat.le_of_ble_eq_true rfl) hW (fun v x1 H1 locs1 hq hW1 => ?_)
  obtain ⟨r0, rfl, hq2⟩ := hq
  refine lv_aload_n hx hb dL_law_819 rfl (lv_at hl 2 rfl) ?_
  refine law_arg C0 hL (k := 1) (by omega) hW1.2.2 hl (by decide +kernel) dL_law_820 dL_law_821 dL_law_822 dL_law_823 dL_law_824 ?_
  refine law_arg C0 hL (k := 2) (by omega) hW1.2.2 hl (by decide +kernel) dL_law_825 dL_law_826 dL_law_827 dL_law_828 dL_law_829 ?_
  refine law_arg C0 hL (k := 3) (by omega) hW1.2.2 hl (by decide +kernel) dL_law_830 dL_law_831 dL_law_832 dL_law_833 dL_law_834 ?_
  refine law_call C0 hK hNW LIM (k := 13) (mm := 131) (i2 := 3) (av := [vi (xs (i + 1)), vi (xs (i + 2)), vi (xs (i + 3))]) (r := [vi r0]) hq2 (by decide) (lw_inst (by decide) rfl) (lw_sel (by decide) rfl) rfl (by decide) rfl rfl (ROKi [xs (i + 1), xs (i + 2), xs (i + 3)]) (lwt4 (i := 104) rfl) dL_law_835 hl.1 (Nat.le_of_ble_eq_true rfl) hW1 (fun v x2 H2 locs2 hq hW2 => ?_)
  obtain ⟨rfl, hI2⟩ := hq
  exact lv_icmp_eq (tgt := 1144) hx hb dL_law_838 (by decide) (fun _ => kk x2 H2 locs2 hI2 hW2) (fun q => absurd rfl q)
set_option maxRecDepth 100000 in
theorem law_c22 {p : Program} {l : Launch} {e : Env} {s : State} {m : MethodId} {below : List Frame} {meth : Method} {c : Code} {b L : Nat} {xs : Nat → Int32} (C0 : lw_At p s m meth c b L xs) (hL : L ≤ 3072) {D : va_G} {ad : Nat → Nat → Nat} {cI cT cS : ClassId} (hK : va_K D vwCl (Tys cI cT cS) s) (hNW : NWs s) {i : Nat} (hi : i + 6 ≤ L) {x : Mem} {H : Heap} {locs : List Loc} {ls : Array Slot} (hI : Inv x) (hW : WO D ad cI cT cS (AL s) s.heap x H locs) (hl : lv_has ls 4 (LV b ad i)) (kk : ∀ (x1 : Mem) (H1 : Heap) (locs1 : List Loc), Inv x1 → WO D ad cI cT cS (AL s) s.heap x1 H1 locs1 → LG p l e s m b below meth c H1 locs1 (F0 m 1144 ls [])) : LG p l e s m b below meth c H locs (F0 m 843 ls []) := by
  obtain ⟨hx, hb, hr, hml, hown, hts, hX, hbl, hlocks, hgv⟩ := id C0
  refine lv_aload_n hx hb dL_law_843 rfl (lv_at hl 1 rfl) ?_
  refine law_arg C0 hL (k := 1) (by omega) hW.2.2 hl (by decide +kernel) dL_law_844 dL_law_845 dL_law_846 dL_law_847 dL_law_848 ?_
  refine law_call C0 hK hNW LIM (k := 0) (mm := 50) (i2 := 1) (av := [vi (xs (i + 1))]) (r := []) (op_lose hI) (by decide) (lw_inst (by decide) rfl) (lw_sel (by decide) rfl) rfl (by decide) rfl rfl (ROKi [xs (i + 1)]) (lwt2 (i := 208) rfl) dL_law_849 hl.1 (Nat.le_of_ble_eq_true rfl) hW (fun v x1 H1 locs1 hq hW1 => ?_)
  obtain ⟨r0, rfl, hq2⟩ := hq
  refine lv_aload_n hx hb dL_law_852 rfl (lv_at hl 2 rfl) ?_
  refine law_arg C0 hL (k := 1) (by omega) hW1.2.2 hl (by decide +kernel) dL_law_853 dL_law_854 dL_law_855 dL_law_856 dL_law_857 ?_
  refine law_call C0 hK hNW LIM (k := 13) (mm := 132) (i2 := 1) (av := [vi (xs (i + 1))]) (r := [vi r0]) hq2 (by decide) (lw_inst (by decide) rfl) (lw_sel (by decide) rfl) rfl (by decide) rfl rfl (ROKi [xs (i + 1)]) (lwt4 (i := 108) rfl) dL_law_858 hl.1 (Nat.le_of_ble_eq_true rfl) hW1 (fun v x2 H2 locs2 hq hW2 => ?_)
  obtain ⟨rfl, hI2⟩ := hq
  exact lv_icmp_eq (tgt := 1144) hx hb dL_law_861 (by decide) (fun _ => kk x2 H2 locs2 hI2 hW2) (fun q => absurd rfl q)
set_option maxRecDepth 100000 in
theorem law_c23 {p : Program} {l : Launch} {e : Env} {s : State} {m : MethodId} {below : List Frame} {meth : Method} {c : Code} {b L : Nat} {xs : Nat → Int32} (C0 : lw_At p s m meth c b L xs) (hL : L ≤ 3072) {D : va_G} {ad : Nat → Nat → Nat} {cI cT cS : ClassId} (hK : va_K D vwCl (Tys cI cT cS) s) (hNW : NWs s) {i : Nat} (hi : i + 6 ≤ L) {x : Mem} {H : Heap} {locs : List Loc} {ls : Array Slot} (hI : Inv x) (hW : WO D ad cI cT cS (AL s) s.heap x H locs) (hl : lv_has ls 4 (LV b ad i)) (kk : ∀ (x1 : Mem) (H1 : Heap) (locs1 : List Loc), Inv x1 → WO D ad cI cT cS (AL s) s.heap x1 H1 locs1 → LG p l e s m b below meth c H1 locs1 (F0 m 1144 ls [])) : LG p l e s m b below meth c H locs (F0 m 866 ls []) := by
  obtain ⟨hx, hb, hr, hml, hown, hts, hX, hbl, hlocks, hgv⟩ := id C0
  refine lv_aload_n hx hb dL_law_866 rfl (lv_at hl 1 rfl) ?_
  refine law_arg C0 hL (k := 1) (by omega) hW.2.2 hl (by decide +kernel) dL_law_867 dL_law_868 dL_law_869 dL_law_870 dL_law_871 ?_
  refine law_arg C0 hL (k := 2) (by omega) hW.2.2 hl (by decide +kernel) dL_law_872 dL_law_873 dL_law_874 dL_law_875 dL_law_876 ?_
  refine law_arg C0 hL (k := 3) (by omega) hW.2.2 hl (by decide +kernel) dL_law_877 dL_law_878 dL_law_879 dL_law_880 dL_law_881 ?_
  refine law_call C0 hK hNW LIM (k := 0) (mm := 51) (i2 := 3) (av := [vi (xs (i + 1)), vi (xs (i + 2)), vi (xs (i + 3))]) (r := []) (op_put hI) (by decide) (lw_inst (by decide) rfl) (lw_sel (by decide) rfl) rfl (by decide) rfl rfl (ROKi [xs (i + 1), xs (i + 2), xs (i + 3)]) (lwt2 (i := 216) rfl) dL_law_882 hl.1 (Nat.le_of_ble_eq_true rfl) hW (fun v x1 H1 locs1 hq hW1 => ?_)
  obtain ⟨r0, rfl, hq2⟩ := hq
  refine lv_aload_n hx hb dL_law_885 rfl (lv_at hl 2 rfl) ?_
  refine law_arg C0 hL (k := 1) (by omega) hW1.2.2 hl (by decide +kernel) dL_law_886 dL_law_887 dL_law_888 dL_law_889 dL_law_890 ?_
  refine law_arg C0 hL (k := 2) (by omega) hW1.2.2 hl (by decide +kernel) dL_law_891 dL_law_892 dL_law_893 dL_law_894 dL_law_895 ?_
  refine law_arg C0 hL (k := 3) (by omega) hW1.2.2 hl (by decide +kernel) dL_law_896 dL_law_897 dL_law_898 dL_law_899 dL_law_900 ?_
  refine law_call C0 hK hNW LIM (k := 13) (mm := 134) (i2 := 3) (av := [vi (xs (i + 1)), vi (xs (i + 2)), vi (xs (i + 3))]) (r := [vi r0]) hq2 (by decide) (lw_inst (by decide) rfl) (lw_sel (by decide) rfl) rfl (by decide) rfl rfl (ROKi [xs (i + 1), xs (i + 2), xs (i + 3)]) (lwt4 (i := 112) rfl) dL_law_901 hl.1 (Nat.le_of_ble_eq_true rfl) hW1 (fun v x2 H2 locs2 hq hW2 => ?_)
  obtain ⟨rfl, hI2⟩ := hq
  exact lv_icmp_eq (tgt := 1144) hx hb dL_law_904 (by decide) (fun _ => kk x2 H2 locs2 hI2 hW2) (fun q => absurd rfl q)
