/-! the calls of the law, each of the class and of the reference -/
set_option maxRecDepth 100000 in
theorem law_c24 {p : Program} {l : Launch} {e : Env} {s : State} {m : MethodId} {below : List Frame} {meth : Method} {c : Code} {b L : Nat} {xs : Nat → Int32} (C0 : lw_At p s m meth c b L xs) (hL : L ≤ 3072) {D : va_G} {ad : Nat → Nat → Nat} {cI cT cS : ClassId} (hK : va_K D vwCl (Tys cI cT cS) s) (hNW : NWs s) {i : Nat} (hi : i + 6 ≤ L) {x : Mem} {H : Heap} {locs : List Loc} {ls : Array Slot} (hI : Inv x) (hW : WO D ad cI cT cS (AL s) s.heap x H locs) (hl : lv_has ls 4 (LV b ad i)) (kk : ∀ (x1 : Mem) (H1 : Heap) (locs1 : List Loc), Inv x1 → WO D ad cI cT cS (AL s) s.heap x1 H1 locs1 → LG p l e s m b below meth c H1 locs1 (F0 m 1144 ls [])) : LG p l e s m b below meth c H locs (F0 m 909 ls []) := by
  obtain ⟨hx, hb, hr, hml, hown, hts, hX, hbl, hlocks, hgv⟩ := id C0
  refine lv_aload_n hx hb dL_law_909 rfl (lv_at hl 1 rfl) ?_
  refine law_arg C0 hL (k := 1) (by omega) hW.2.2 hl (by decide +kernel) dL_law_910 dL_law_911 dL_law_912 dL_law_913 dL_law_914 ?_
  refine law_arg C0 hL (k := 2) (by omega) hW.2.2 hl (by decide +kernel) dL_law_915 dL_law_916 dL_law_917 dL_law_918 dL_law_919 ?_
  refine law_arg C0 hL (k := 3) (by omega) hW.2.2 hl (by decide +kernel) dL_law_920 dL_law_921 dL_law_922 dL_law_923 dL_law_924 ?_
  refine law_call C0 hK hNW LIM (k := 0) (mm := 52) (i2 := 3) (av := [vi (xs (i + 1)), vi (xs (i + 2)), vi (xs (i + 3))]) (r := []) (op_cell hI) (by decide) (lw_inst (by decide) rfl) (lw_sel (by decide) rfl) rfl (by decide) rfl rfl (ROKi [xs (i + 1), xs (i + 2), xs (i + 3)]) (lwt2 (i := 225) rfl) dL_law_925 hl.1 (Nat.le_of_ble_eq_true rfl) hW (fun v x1 H1 locs1 hq hW1 => ?_)
  obtain ⟨r0, rfl, hq2⟩ := hq
  refine lv_aload_n hx hb dL_law_928 rfl (lv_at hl 2 rfl) ?_
  refine law_arg C0 hL (k := 1) (by omega) hW1.2.2 hl (by decide +kernel) dL_law_929 dL_law_930 dL_law_931 dL_law_932 dL_law_933 ?_
  refine law_arg C0 hL (k := 2) (by omega) hW1.2.2 hl (by decide +kernel) dL_law_934 dL_law_935 dL_law_936 dL_law_937 dL_law_938 ?_
  refine law_arg C0 hL (k := 3) (by omega) hW1.2.2 hl (by decide +kernel) dL_law_939 dL_law_940 dL_law_941 dL_law_942 dL_law_943 ?_
  refine law_call C0 hK hNW LIM (k := 13) (mm := 135) (i2 := 3) (av := [vi (xs (i + 1)), vi (xs (i + 2)), vi (xs (i + 3))]) (r := [vl r0]) hq2 (by decide) (lw_inst (by decide) rfl) (lw_sel (by decide) rfl) rfl (by decide) rfl rfl (ROKi [xs (i + 1), xs (i + 2), xs (i + 3)]) (lwt4 (i := 120) rfl) dL_law_944 hl.1 (Nat.le_of_ble_eq_true rfl) hW1 (fun v x2 H2 locs2 hq hW2 => ?_)
  obtain ⟨rfl, hI2⟩ := hq
  refine W.lcmp hx hb dL_law_947 ?_
  rw [lg_cmp_self]
  exact lv_if_eq (tgt := 1144) hx hb dL_law_948 (by decide) (fun _ => kk x2 H2 locs2 hI2 hW2) (fun q => absurd rfl q)
set_option maxRecDepth 100000 in
theorem law_c25 {p : Program} {l : Launch} {e : Env} {s : State} {m : MethodId} {below : List Frame} {meth : Method} {c : Code} {b L : Nat} {xs : Nat → Int32} (C0 : lw_At p s m meth c b L xs) (hL : L ≤ 3072) {D : va_G} {ad : Nat → Nat → Nat} {cI cT cS : ClassId} (hK : va_K D vwCl (Tys cI cT cS) s) (hNW : NWs s) {i : Nat} (hi : i + 6 ≤ L) {x : Mem} {H : Heap} {locs : List Loc} {ls : Array Slot} (hI : Inv x) (hW : WO D ad cI cT cS (AL s) s.heap x H locs) (hl : lv_has ls 4 (LV b ad i)) (kk : ∀ (x1 : Mem) (H1 : Heap) (locs1 : List Loc), Inv x1 → WO D ad cI cT cS (AL s) s.heap x1 H1 locs1 → LG p l e s m b below meth c H1 locs1 (F0 m 1144 ls [])) : LG p l e s m b below meth c H locs (F0 m 953 ls []) := by
  obtain ⟨hx, hb, hr, hml, hown, hts, hX, hbl, hlocks, hgv⟩ := id C0
  refine lv_aload_n hx hb dL_law_953 rfl (lv_at hl 1 rfl) ?_
  refine law_arg C0 hL (k := 1) (by omega) hW.2.2 hl (by decide +kernel) dL_law_954 dL_law_955 dL_law_956 dL_law_957 dL_law_958 ?_
  refine law_arg C0 hL (k := 2) (by omega) hW.2.2 hl (by decide +kernel) dL_law_959 dL_law_960 dL_law_961 dL_law_962 dL_law_963 ?_
  refine law_arg C0 hL (k := 3) (by omega) hW.2.2 hl (by decide +kernel) dL_law_964 dL_law_965 dL_law_966 dL_law_967 dL_law_968 ?_
  refine law_arg C0 hL (k := 4) (by omega) hW.2.2 hl (by decide +kernel) dL_law_969 dL_law_970 dL_law_971 dL_law_972 dL_law_973 ?_
  refine law_arg C0 hL (k := 5) (by omega) hW.2.2 hl (by decide +kernel) dL_law_974 dL_law_975 dL_law_976 dL_law_977 dL_law_978 ?_
  refine law_call C0 hK hNW LIM (k := 0) (mm := 53) (i2 := 5) (av := [vi (xs (i + 1)), vi (xs (i + 2)), vi (xs (i + 3)), vi (xs (i + 4)), vi (xs (i + 5))]) (r := []) (op_copy hI) (by decide) (lw_inst (by decide) rfl) (lw_sel (by decide) rfl) rfl (by decide) rfl rfl (ROKi [xs (i + 1), xs (i + 2), xs (i + 3), xs (i + 4), xs (i + 5)]) (lwt2 (i := 229) rfl) dL_law_979 hl.1 (Nat.le_of_ble_eq_true rfl) hW (fun v x1 H1 locs1 hq hW1 => ?_)
  obtain ⟨r0, rfl, hq2⟩ := hq
  refine lv_aload_n hx hb dL_law_982 rfl (lv_at hl 2 rfl) ?_
  refine law_arg C0 hL (k := 1) (by omega) hW1.2.2 hl (by decide +kernel) dL_law_983 dL_law_984 dL_law_985 dL_law_986 dL_law_987 ?_
  refine law_arg C0 hL (k := 2) (by omega) hW1.2.2 hl (by decide +kernel) dL_law_988 dL_law_989 dL_law_990 dL_law_991 dL_law_992 ?_
  refine law_arg C0 hL (k := 3) (by omega) hW1.2.2 hl (by decide +kernel) dL_law_993 dL_law_994 dL_law_995 dL_law_996 dL_law_997 ?_
  refine law_arg C0 hL (k := 4) (by omega) hW1.2.2 hl (by decide +kernel) dL_law_998 dL_law_999 dL_law_1000 dL_law_1001 dL_law_1002 ?_
  refine law_arg C0 hL (k := 5) (by omega) hW1.2.2 hl (by decide +kernel) dL_law_1003 dL_law_1004 dL_law_1005 dL_law_1006 dL_law_1007 ?_
  refine law_call C0 hK hNW LIM (k := 13) (mm := 137) (i2 := 5) (av := [vi (xs (i + 1)), vi (xs (i + 2)), vi (xs (i + 3)), vi (xs (i + 4)), vi (xs (i + 5))]) (r := [vi r0]) hq2 (by decide) (lw_inst (by decide) rfl) (lw_sel (by decide) rfl) rfl (by decide) rfl rfl (ROKi [xs (i + 1), xs (i + 2), xs (i + 3), xs (i + 4), xs (i + 5)]) (lwt4 (i := 128) rfl) dL_law_1008 hl.1 (Nat.le_of_ble_eq_true rfl) hW1 (fun v x2 H2 locs2 hq hW2 => ?_)
  obtain ⟨rfl, hI2⟩ := hq
  exact lv_icmp_eq (tgt := 1144) hx hb dL_law_1011 (by decide) (fun _ => kk x2 H2 locs2 hI2 hW2) (fun q => absurd rfl q)
set_option maxRecDepth 100000 in
theorem law_c26 {p : Program} {l : Launch} {e : Env} {s : State} {m : MethodId} {below : List Frame} {meth : Method} {c : Code} {b L : Nat} {xs : Nat → Int32} (C0 : lw_At p s m meth c b L xs) (hL : L ≤ 3072) {D : va_G} {ad : Nat → Nat → Nat} {cI cT cS : ClassId} (hK : va_K D vwCl (Tys cI cT cS) s) (hNW : NWs s) {i : Nat} (hi : i + 6 ≤ L) {x : Mem} {H : Heap} {locs : List Loc} {ls : Array Slot} (hI : Inv x) (hW : WO D ad cI cT cS (AL s) s.heap x H locs) (hl : lv_has ls 4 (LV b ad i)) (kk : ∀ (x1 : Mem) (H1 : Heap) (locs1 : List Loc), Inv x1 → WO D ad cI cT cS (AL s) s.heap x1 H1 locs1 → LG p l e s m b below meth c H1 locs1 (F0 m 1144 ls [])) : LG p l e s m b below meth c H locs (F0 m 1016 ls []) := by
  obtain ⟨hx, hb, hr, hml, hown, hts, hX, hbl, hlocks, hgv⟩ := id C0
  refine lv_aload_n hx hb dL_law_1016 rfl (lv_at hl 1 rfl) ?_
  refine law_arg C0 hL (k := 1) (by omega) hW.2.2 hl (by decide +kernel) dL_law_1017 dL_law_1018 dL_law_1019 dL_law_1020 dL_law_1021 ?_
  refine law_call C0 hK hNW LIM (k := 0) (mm := 54) (i2 := 1) (av := [vi (xs (i + 1))]) (r := []) (op_tell hI) (by decide) (lw_inst (by decide) rfl) (lw_sel (by decide) rfl) rfl (by decide) rfl rfl (ROKi [xs (i + 1)]) (lwt2 (i := 236) rfl) dL_law_1022 hl.1 (Nat.le_of_ble_eq_true rfl) hW (fun v x1 H1 locs1 hq hW1 => ?_)
  obtain ⟨r0, rfl, hq2⟩ := hq
  refine lv_aload_n hx hb dL_law_1025 rfl (lv_at hl 2 rfl) ?_
  refine law_arg C0 hL (k := 1) (by omega) hW1.2.2 hl (by decide +kernel) dL_law_1026 dL_law_1027 dL_law_1028 dL_law_1029 dL_law_1030 ?_
  refine law_call C0 hK hNW LIM (k := 13) (mm := 139) (i2 := 1) (av := [vi (xs (i + 1))]) (r := [vi r0]) hq2 (by decide) (lw_inst (by decide) rfl) (lw_sel (by decide) rfl) rfl (by decide) rfl rfl (ROKi [xs (i + 1)]) (lwt4 (i := 132) rfl) dL_law_1031 hl.1 (Nat.le_of_ble_eq_true rfl) hW1 (fun v x2 H2 locs2 hq hW2 => ?_)
  obtain ⟨rfl, hI2⟩ := hq
  exact lv_icmp_eq (tgt := 1144) hx hb dL_law_1034 (by decide) (fun _ => kk x2 H2 locs2 hI2 hW2) (fun q => absurd rfl q)
set_option maxRecDepth 100000 in
theorem law_c27 {p : Program} {l : Launch} {e : Env} {s : State} {m : MethodId} {below : List Frame} {meth : Method} {c : Code} {b L : Nat} {xs : Nat → Int32} (C0 : lw_At p s m meth c b L xs) (hL : L ≤ 3072) {D : va_G} {ad : Nat → Nat → Nat} {cI cT cS : ClassId} (hK : va_K D vwCl (Tys cI cT cS) s) (hNW : NWs s) {i : Nat} (hi : i + 6 ≤ L) {x : Mem} {H : Heap} {locs : List Loc} {ls : Array Slot} (hI : Inv x) (hW : WO D ad cI cT cS (AL s) s.heap x H locs) (hl : lv_has ls 4 (LV b ad i)) (kk : ∀ (x1 : Mem) (H1 : Heap) (locs1 : List Loc), Inv x1 → WO D ad cI cT cS (AL s) s.heap x1 H1 locs1 → LG p l e s m b below meth c H1 locs1 (F0 m 1144 ls [])) : LG p l e s m b below meth c H locs (F0 m 1039 ls []) := by
  obtain ⟨hx, hb, hr, hml, hown, hts, hX, hbl, hlocks, hgv⟩ := id C0
  refine lv_aload_n hx hb dL_law_1039 rfl (lv_at hl 1 rfl) ?_
  refine law_arg C0 hL (k := 1) (by omega) hW.2.2 hl (by decide +kernel) dL_law_1040 dL_law_1041 dL_law_1042 dL_law_1043 dL_law_1044 ?_
  refine law_call C0 hK hNW LIM (k := 0) (mm := 55) (i2 := 1) (av := [vi (xs (i + 1))]) (r := []) (op_pour hI) (by decide) (lw_inst (by decide) rfl) (lw_sel (by decide) rfl) rfl (by decide) rfl rfl (ROKi [xs (i + 1)]) (lwt3 (i := 16) rfl) dL_law_1045 hl.1 (Nat.le_of_ble_eq_true rfl) hW (fun v x1 H1 locs1 hq hW1 => ?_)
  obtain ⟨r0, rfl, hq2⟩ := hq
  refine lv_aload_n hx hb dL_law_1048 rfl (lv_at hl 2 rfl) ?_
  refine law_arg C0 hL (k := 1) (by omega) hW1.2.2 hl (by decide +kernel) dL_law_1049 dL_law_1050 dL_law_1051 dL_law_1052 dL_law_1053 ?_
  refine law_call C0 hK hNW LIM (k := 13) (mm := 140) (i2 := 1) (av := [vi (xs (i + 1))]) (r := [vi r0]) hq2 (by decide) (lw_inst (by decide) rfl) (lw_sel (by decide) rfl) rfl (by decide) rfl rfl (ROKi [xs (i + 1)]) (lwt4 (i := 140) rfl) dL_law_1054 hl.1 (Nat.le_of_ble_eq_true rfl) hW1 (fun v x2 H2 locs2 hq hW2 => ?_)
  obtain ⟨rfl, hI2⟩ := hq
  exact lv_icmp_eq (tgt := 1144) hx hb dL_law_1057 (by decide) (fun _ => kk x2 H2 locs2 hI2 hW2) (fun q => absurd rfl q)
set_option maxRecDepth 100000 in
theorem law_c28 {p : Program} {l : Launch} {e : Env} {s : State} {m : MethodId} {below : List Frame} {meth : Method} {c : Code} {b L : Nat} {xs : Nat → Int32} (C0 : lw_At p s m meth c b L xs) (hL : L ≤ 3072) {D : va_G} {ad : Nat → Nat → Nat} {cI cT cS : ClassId} (hK : va_K D vwCl (Tys cI cT cS) s) (hNW : NWs s) {i : Nat} (hi : i + 6 ≤ L) {x : Mem} {H : Heap} {locs : List Loc} {ls : Array Slot} (hI : Inv x) (hW : WO D ad cI cT cS (AL s) s.heap x H locs) (hl : lv_has ls 4 (LV b ad i)) (kk : ∀ (x1 : Mem) (H1 : Heap) (locs1 : List Loc), Inv x1 → WO D ad cI cT cS (AL s) s.heap x1 H1 locs1 → LG p l e s m b below meth c H1 locs1 (F0 m 1144 ls [])) : LG p l e s m b below meth c H locs (F0 m 1062 ls []) := by
  obtain ⟨hx, hb, hr, hml, hown, hts, hX, hbl, hlocks, hgv⟩ := id C0
  refine lv_aload_n hx hb dL_law_1062 rfl (lv_at hl 1 rfl) ?_
  refine law_arg C0 hL (k := 1) (by omega) hW.2.2 hl (by decide +kernel) dL_law_1063 dL_law_1064 dL_law_1065 dL_law_1066 dL_law_1067 ?_
  refine law_arg C0 hL (k := 2) (by omega) hW.2.2 hl (by decide +kernel) dL_law_1068 dL_law_1069 dL_law_1070 dL_law_1071 dL_law_1072 ?_
  refine law_call C0 hK hNW LIM (k := 0) (mm := 56) (i2 := 2) (av := [vi (xs (i + 1)), vi (xs (i + 2))]) (r := []) (op_as hI) (by decide) (lw_inst (by decide) rfl) (lw_sel (by decide) rfl) rfl (by decide) rfl rfl (ROKi [xs (i + 1), xs (i + 2)]) (lwt3 (i := 20) rfl) dL_law_1073 hl.1 (Nat.le_of_ble_eq_true rfl) hW (fun v x1 H1 locs1 hq hW1 => ?_)
  obtain ⟨r0, rfl, hq2⟩ := hq
  refine lv_aload_n hx hb dL_law_1076 rfl (lv_at hl 2 rfl) ?_
  refine law_arg C0 hL (k := 1) (by omega) hW1.2.2 hl (by decide +kernel) dL_law_1077 dL_law_1078 dL_law_1079 dL_law_1080 dL_law_1081 ?_
  refine law_arg C0 hL (k := 2) (by omega) hW1.2.2 hl (by decide +kernel) dL_law_1082 dL_law_1083 dL_law_1084 dL_law_1085 dL_law_1086 ?_
  refine law_call C0 hK hNW LIM (k := 13) (mm := 141) (i2 := 2) (av := [vi (xs (i + 1)), vi (xs (i + 2))]) (r := [vi r0]) hq2 (by decide) (lw_inst (by decide) rfl) (lw_sel (by decide) rfl) rfl (by decide) rfl rfl (ROKi [xs (i + 1), xs (i + 2)]) (lwt4 (i := 144) rfl) dL_law_1087 hl.1 (Nat.le_of_ble_eq_true rfl) hW1 (fun v x2 H2 locs2 hq hW2 => ?_)
  obtain ⟨rfl, hI2⟩ := hq
  exact lv_icmp_eq (tgt := 1144) hx hb dL_law_1090 (by decide) (fun _ => kk x2 H2 locs2 hI2 hW2) (fun q => absurd rfl q)
set_option maxRecDepth 100000 in
theorem law_c29 {p : Program} {l : Launch} {e : Env} {s : State} {m : MethodId} {below : List Frame} {meth : Method} {c : Code} {b L : Nat} {xs : Nat → Int32} (C0 : lw_At p s m meth c b L xs) (hL : L ≤ 3072) {D : va_G} {ad : Nat → Nat → Nat} {cI cT cS : ClassId} (hK : va_K D vwCl (Tys cI cT cS) s) (hNW : NWs s) {i : Nat} (hi : i + 6 ≤ L) {x : Mem} {H : Heap} {locs : List Loc} {ls : Array Slot} (hI : Inv x) (hW : WO D ad cI cT cS (AL s) s.heap x H locs) (hl : lv_has ls 4 (LV b ad i)) (kk : ∀ (x1 : Mem) (H1 : Heap) (locs1 : List Loc), Inv x1 → WO D ad cI cT cS (AL s) s.heap x1 H1 locs1 → LG p l e s m b below meth c H1 locs1 (F0 m 1144 ls [])) : LG p l e s m b below meth c H locs (F0 m 1095 ls []) := by
  obtain ⟨hx, hb, hr, hml, hown, hts, hX, hbl, hlocks, hgv⟩ := id C0
  refine lv_aload_n hx hb dL_law_1095 rfl (lv_at hl 1 rfl) ?_
  refine law_call C0 hK hNW LIM (k := 0) (mm := 57) (i2 := 0) (av := []) (r := []) (op_trace hI) (by decide) (lw_inst (by decide) rfl) (lw_sel (by decide) rfl) rfl (by decide) rfl rfl (ROKi []) (lwt3 (i := 24) rfl) dL_law_1096 hl.1 (Nat.le_of_ble_eq_true rfl) hW (fun v x1 H1 locs1 hq hW1 => ?_)
  obtain ⟨r0, rfl, hq2⟩ := hq
  refine lv_aload_n hx hb dL_law_1099 rfl (lv_at hl 2 rfl) ?_
  refine law_call C0 hK hNW LIM (k := 13) (mm := 142) (i2 := 0) (av := []) (r := [vi r0]) hq2 (by decide) (lw_inst (by decide) rfl) (lw_sel (by decide) rfl) rfl (by decide) rfl rfl (ROKi []) (lwt4 (i := 148) rfl) dL_law_1100 hl.1 (Nat.le_of_ble_eq_true rfl) hW1 (fun v x2 H2 locs2 hq hW2 => ?_)
  obtain ⟨rfl, hI2⟩ := hq
  exact lv_icmp_eq (tgt := 1144) hx hb dL_law_1103 (by decide) (fun _ => kk x2 H2 locs2 hI2 hW2) (fun q => absurd rfl q)
set_option maxRecDepth 100000 in
theorem law_c30 {p : Program} {l : Launch} {e : Env} {s : State} {m : MethodId} {below : List Frame} {meth : Method} {c : Code} {b L : Nat} {xs : Nat → Int32} (C0 : lw_At p s m meth c b L xs) (hL : L ≤ 3072) {D : va_G} {ad : Nat → Nat → Nat} {cI cT cS : ClassId} (hK : va_K D vwCl (Tys cI cT cS) s) (hNW : NWs s) {i : Nat} (hi : i + 6 ≤ L) {x : Mem} {H : Heap} {locs : List Loc} {ls : Array Slot} (hI : Inv x) (hW : WO D ad cI cT cS (AL s) s.heap x H locs) (hl : lv_has ls 4 (LV b ad i)) (kk : ∀ (x1 : Mem) (H1 : Heap) (locs1 : List Loc), Inv x1 → WO D ad cI cT cS (AL s) s.heap x1 H1 locs1 → LG p l e s m b below meth c H1 locs1 (F0 m 1144 ls [])) : LG p l e s m b below meth c H locs (F0 m 1108 ls []) := by
  obtain ⟨hx, hb, hr, hml, hown, hts, hX, hbl, hlocks, hgv⟩ := id C0
  refine lv_aload_n hx hb dL_law_1108 rfl (lv_at hl 1 rfl) ?_
  refine law_call C0 hK hNW LIM (k := 0) (mm := 58) (i2 := 0) (av := []) (r := []) (op_fault hI) (by decide) (lw_inst (by decide) rfl) (lw_sel (by decide) rfl) rfl (by decide) rfl rfl (ROKi []) (lwt3 (i := 28) rfl) dL_law_1109 hl.1 (Nat.le_of_ble_eq_true rfl) hW (fun v x1 H1 locs1 hq hW1 => ?_)
  obtain ⟨r0, rfl, hq2⟩ := hq
  refine lv_aload_n hx hb dL_law_1112 rfl (lv_at hl 2 rfl) ?_
  refine law_call C0 hK hNW LIM (k := 13) (mm := 143) (i2 := 0) (av := []) (r := [vi r0]) hq2 (by decide) (lw_inst (by decide) rfl) (lw_sel (by decide) rfl) rfl (by decide) rfl rfl (ROKi []) (lwt4 (i := 152) rfl) dL_law_1113 hl.1 (Nat.le_of_ble_eq_true rfl) hW1 (fun v x2 H2 locs2 hq hW2 => ?_)
  obtain ⟨rfl, hI2⟩ := hq
  exact lv_icmp_eq (tgt := 1144) hx hb dL_law_1116 (by decide) (fun _ => kk x2 H2 locs2 hI2 hW2) (fun q => absurd rfl q)
set_option maxRecDepth 100000 in
theorem law_c31 {p : Program} {l : Launch} {e : Env} {s : State} {m : MethodId} {below : List Frame} {meth : Method} {c : Code} {b L : Nat} {xs : Nat → Int32} (C0 : lw_At p s m meth c b L xs) (hL : L ≤ 3072) {D : va_G} {ad : Nat → Nat → Nat} {cI cT cS : ClassId} (hK : va_K D vwCl (Tys cI cT cS) s) (hNW : NWs s) {i : Nat} (hi : i + 6 ≤ L) {x : Mem} {H : Heap} {locs : List Loc} {ls : Array Slot} (hI : Inv x) (hW : WO D ad cI cT cS (AL s) s.heap x H locs) (hl : lv_has ls 4 (LV b ad i)) (kk : ∀ (x1 : Mem) (H1 : Heap) (locs1 : List Loc), Inv x1 → WO D ad cI cT cS (AL s) s.heap x1 H1 locs1 → LG p l e s m b below meth c H1 locs1 (F0 m 1144 ls [])) : LG p l e s m b below meth c H locs (F0 m 1121 ls []) := by
  obtain ⟨hx, hb, hr, hml, hown, hts, hX, hbl, hlocks, hgv⟩ := id C0
  refine lv_aload_n hx hb dL_law_1121 rfl (lv_at hl 1 rfl) ?_
  refine law_arg C0 hL (k := 1) (by omega) hW.2.2 hl (by decide +kernel) dL_law_1122 dL_law_1123 dL_law_1124 dL_law_1125 dL_law_1126 ?_
  refine law_call C0 hK hNW LIM (k := 0) (mm := 59) (i2 := 1) (av := [vi (xs (i + 1))]) (r := []) (op_many hI) (by decide) (lw_inst (by decide) rfl) (lw_sel (by decide) rfl) rfl (by decide) rfl rfl (ROKi [xs (i + 1)]) (lwt3 (i := 32) rfl) dL_law_1127 hl.1 (Nat.le_of_ble_eq_true rfl) hW (fun v x1 H1 locs1 hq hW1 => ?_)
  obtain ⟨r0, rfl, hq2⟩ := hq
  refine lv_aload_n hx hb dL_law_1130 rfl (lv_at hl 2 rfl) ?_
  refine law_arg C0 hL (k := 1) (by omega) hW1.2.2 hl (by decide +kernel) dL_law_1131 dL_law_1132 dL_law_1133 dL_law_1134 dL_law_1135 ?_
  refine law_call C0 hK hNW LIM (k := 13) (mm := 144) (i2 := 1) (av := [vi (xs (i + 1))]) (r := [vi r0]) hq2 (by decide) (lw_inst (by decide) rfl) (lw_sel (by decide) rfl) rfl (by decide) rfl rfl (ROKi [xs (i + 1)]) (lwt4 (i := 156) rfl) dL_law_1136 hl.1 (Nat.le_of_ble_eq_true rfl) hW1 (fun v x2 H2 locs2 hq hW2 => ?_)
  obtain ⟨rfl, hI2⟩ := hq
  exact lv_icmp_eq (tgt := 1144) hx hb dL_law_1139 (by decide) (fun _ => kk x2 H2 locs2 hI2 hW2) (fun q => absurd rfl q)
