/-! from the law's entry: both objects are made, and what holds between calls holds -/
abbrev lwa5 : List Cond := [.code yX5_init cX5_init 2 none, .methodLink RX5 3 objectInit, .instanceMethod objectInit, .code objectInit ⟨#[0xb1]⟩ 1 none, .classLink RX5 11 RX3, .fieldLink RX5 13 "SugarLoop" "sheets" "[LSugarLoop$Sheet;", .classLink RX5 17 RX2, .instantiable RX2 5, .initialized RX2, .fieldLink RX5 20 "SugarLoop" "ride" "LSugarLoop$Ride;", .fieldLink RX5 24 "SugarLoop$Ride" "hall" "LSugarLoop$Hall;", .fieldLink RX5 28 "SugarLoop" "now" "LSugarLoop$Hall;", .classLink RX5 31 RX1, .instantiable RX1 4, .initialized RX1, .fieldLink RX5 34 "SugarLoop" "told" "LSugarLoop$Readings;", .fieldLink RX5 38 "SugarLoop" "footprint" "I", .fieldLink RX5 42 "SugarLoop" "latestFault" "I", .instantiable RX3 3, .initialized RX3, .instanceMethod yX2_init, .code yX2_init cX2_init 1 none, .methodLink RX2 3 objectInit, .classLink RX2 9 RX0, .instantiable RX0 5, .initialized RX0, .fieldLink RX2 12 "SugarLoop$Ride" "hall" "LSugarLoop$Hall;", .arrayClass .int, .fieldLink RX2 18 "SugarLoop$Ride" "has" "[I", .fieldLink RX2 22 "SugarLoop$Ride" "lumps" "I", .fieldLink RX2 26 "SugarLoop$Ride" "minute" "I", .fieldLink RX2 29 "SugarLoop$Ride" "lastMinute" "I", .methodLink RX2 11 yX0_init, .instanceMethod yX0_init, .code yX0_init cX0_init 2 none, .methodLink RX0 3 objectInit, .classLink RX0 9 RX4, .fieldLink RX0 11 "SugarLoop$Hall" "tables" "[LSugarLoop$Table;", .fieldLink RX0 17 "SugarLoop$Hall" "count" "I", .fieldLink RX0 21 "SugarLoop$Hall" "lumps" "I", .fieldLink RX0 24 "SugarLoop$Hall" "rounds" "I", .fieldLink RX0 27 "SugarLoop$Hall" "gone" "I", .instantiable RX4 5, .initialized RX4, .instanceMethod yX4_init, .code yX4_init cX4_init 1 none, .methodLink RX4 3 objectInit, .instanceMethod yX1_init, .code yX1_init cX1_init 1 none, .methodLink RX1 3 objectInit, .fieldLink RX1 9 "SugarLoop$Readings" "table" "[I", .fieldLink RX1 15 "SugarLoop$Readings" "points" "[I", .fieldLink RX1 18 "SugarLoop$Readings" "taken" "[I", .fieldLink RX1 21 "SugarLoop$Readings" "count" "I", .instanceMethod yX3_init, .code yX3_init cX3_init 1 none, .methodLink RX3 3 objectInit, .fieldLink RX3 9 "SugarLoop$Sheet" "cells" "[I", .fieldLink RX3 15 "SugarLoop$Sheet" "lane" "I", .fieldLink RX3 19 "SugarLoop$Sheet" "length" "I"]
abbrev lwb5 : List Cond := [u_lay RX5 TX5 0, u_lay RX5 TX5 1, u_lay RX5 TX5 2, u_lay RX5 TX5 3, u_lay RX5 TX5 4, u_lay RX5 TX5 5, u_lay RX2 TX2 0, u_lay RX2 TX2 1, u_lay RX2 TX2 2, u_lay RX2 TX2 3, u_lay RX2 TX2 4, u_lay RX1 TX1 0, u_lay RX1 TX1 1, u_lay RX1 TX1 2, u_lay RX1 TX1 3, u_lay RX3 TX3 0, u_lay RX3 TX3 1, u_lay RX3 TX3 2, u_lay RX0 TX0 0, u_lay RX0 TX0 1, u_lay RX0 TX0 2, u_lay RX0 TX0 3, u_lay RX0 TX0 4, u_lay RX4 TX4 0, u_lay RX4 TX4 1, u_lay RX4 TX4 2, u_lay RX4 TX4 3, u_lay RX4 TX4 4]
set_option maxHeartbeats 4000000 in
set_option maxRecDepth 100000 in
theorem lwi5_a : ∀ w ∈ lwa5, w ∈ lw_tbl := List.forall_mem_cons.mpr ⟨lwt1 (i := 15) rfl, List.forall_mem_cons.mpr ⟨lwt1 (i := 16) rfl, List.forall_mem_cons.mpr ⟨lwt1 (i := 17) rfl, List.forall_mem_cons.mpr ⟨lwt1 (i := 18) rfl, List.forall_mem_cons.mpr ⟨lwt1 (i := 19) rfl, List.forall_mem_cons.mpr ⟨lwt1 (i := 154) rfl, List.forall_mem_cons.mpr ⟨lwt1 (i := 21) rfl, List.forall_mem_cons.mpr ⟨lwt1 (i := 22) rfl, List.forall_mem_cons.mpr ⟨lwt1 (i := 2) rfl, List.forall_mem_cons.mpr ⟨lwt1 (i := 155) rfl, List.forall_mem_cons.mpr ⟨lwt1 (i := 91) rfl, List.forall_mem_cons.mpr ⟨lwt1 (i := 156) rfl, List.forall_mem_cons.mpr ⟨lwt1 (i := 113) rfl, List.forall_mem_cons.mpr ⟨lwt1 (i := 114) rfl, List.forall_mem_cons.mpr ⟨lwt1 (i := 5) rfl, List.forall_mem_cons.mpr ⟨lwt1 (i := 157) rfl, List.forall_mem_cons.mpr ⟨lwt1 (i := 158) rfl, List.forall_mem_cons.mpr ⟨lwt1 (i := 159) rfl, List.forall_mem_cons.mpr ⟨lwt1 (i := 136) rfl, List.forall_mem_cons.mpr ⟨lwt1 (i := 6) rfl, List.forall_mem_cons.mpr ⟨lwt1 (i := 24) rfl, List.forall_mem_cons.mpr ⟨lwt1 (i := 25) rfl, List.forall_mem_cons.mpr ⟨lwt1 (i := 26) rfl, List.forall_mem_cons.mpr ⟨lwt1 (i := 27) rfl, List.forall_mem_cons.mpr ⟨lwt1 (i := 28) rfl, List.forall_mem_cons.mpr ⟨lwt1 (i := 3) rfl, List.forall_mem_cons.mpr ⟨lwt1 (i := 90) rfl, List.forall_mem_cons.mpr ⟨lwt1 (i := 112) rfl, List.forall_mem_cons.mpr ⟨lwt1 (i := 92) rfl, List.forall_mem_cons.mpr ⟨lwt1 (i := 94) rfl, List.forall_mem_cons.mpr ⟨lwt1 (i := 97) rfl, List.forall_mem_cons.mpr ⟨lwt1 (i := 99) rfl, List.forall_mem_cons.mpr ⟨lwt1 (i := 29) rfl, List.forall_mem_cons.mpr ⟨lwt1 (i := 30) rfl, List.forall_mem_cons.mpr ⟨lwt1 (i := 31) rfl, List.forall_mem_cons.mpr ⟨lwt1 (i := 32) rfl, List.forall_mem_cons.mpr ⟨lwt1 (i := 33) rfl, List.forall_mem_cons.mpr ⟨lwt1 (i := 66) rfl, List.forall_mem_cons.mpr ⟨lwt1 (i := 69) rfl, List.forall_mem_cons.mpr ⟨lwt1 (i := 72) rfl, List.forall_mem_cons.mpr ⟨lwt1 (i := 74) rfl, List.forall_mem_cons.mpr ⟨lwt1 (i := 76) rfl, List.forall_mem_cons.mpr ⟨lwt1 (i := 35) rfl, List.forall_mem_cons.mpr ⟨lwt1 (i := 4) rfl, List.forall_mem_cons.mpr ⟨lwt1 (i := 37) rfl, List.forall_mem_cons.mpr ⟨lwt1 (i := 38) rfl, List.forall_mem_cons.mpr ⟨lwt1 (i := 39) rfl, List.forall_mem_cons.mpr ⟨lwt1 (i := 116) rfl, List.forall_mem_cons.mpr ⟨lwt1 (i := 117) rfl, List.forall_mem_cons.mpr ⟨lwt1 (i := 118) rfl, List.forall_mem_cons.mpr ⟨lwt1 (i := 119) rfl, List.forall_mem_cons.mpr ⟨lwt1 (i := 121) rfl, List.forall_mem_cons.mpr ⟨lwt1 (i := 123) rfl, List.forall_mem_cons.mpr ⟨lwt1 (i := 125) rfl, List.forall_mem_cons.mpr ⟨lwt1 (i := 138) rfl, List.forall_mem_cons.mpr ⟨lwt1 (i := 139) rfl, List.forall_mem_cons.mpr ⟨lwt1 (i := 140) rfl, List.forall_mem_cons.mpr ⟨lwt1 (i := 141) rfl, List.forall_mem_cons.mpr ⟨lwt1 (i := 144) rfl, List.forall_mem_cons.mpr ⟨lwt1 (i := 146) rfl, fun _ h => absurd h List.not_mem_nil⟩⟩⟩⟩⟩⟩⟩⟩⟩⟩⟩⟩⟩⟩⟩⟩⟩⟩⟩⟩⟩⟩⟩⟩⟩⟩⟩⟩⟩⟩⟩⟩⟩⟩⟩⟩⟩⟩⟩⟩⟩⟩⟩⟩⟩⟩⟩⟩⟩⟩⟩⟩⟩⟩⟩⟩⟩⟩⟩⟩
set_option maxHeartbeats 4000000 in
set_option maxRecDepth 100000 in
theorem lwi5_b : ∀ w ∈ lwb5, w ∈ lw_tbl := List.forall_mem_cons.mpr ⟨lwt1 (i := 160) rfl, List.forall_mem_cons.mpr ⟨lwt1 (i := 162) rfl, List.forall_mem_cons.mpr ⟨lwt1 (i := 164) rfl, List.forall_mem_cons.mpr ⟨lwt1 (i := 166) rfl, List.forall_mem_cons.mpr ⟨lwt1 (i := 168) rfl, List.forall_mem_cons.mpr ⟨lwt1 (i := 170) rfl, List.forall_mem_cons.mpr ⟨lwt1 (i := 101) rfl, List.forall_mem_cons.mpr ⟨lwt1 (i := 103) rfl, List.forall_mem_cons.mpr ⟨lwt1 (i := 105) rfl, List.forall_mem_cons.mpr ⟨lwt1 (i := 107) rfl, List.forall_mem_cons.mpr ⟨lwt1 (i := 109) rfl, List.forall_mem_cons.mpr ⟨lwt1 (i := 127) rfl, List.forall_mem_cons.mpr ⟨lwt1 (i := 129) rfl, List.forall_mem_cons.mpr ⟨lwt1 (i := 131) rfl, List.forall_mem_cons.mpr ⟨lwt1 (i := 133) rfl, List.forall_mem_cons.mpr ⟨lwt1 (i := 147) rfl, List.forall_mem_cons.mpr ⟨lwt1 (i := 149) rfl, List.forall_mem_cons.mpr ⟨lwt1 (i := 151) rfl, List.forall_mem_cons.mpr ⟨lwt1 (i := 79) rfl, List.forall_mem_cons.mpr ⟨lwt1 (i := 81) rfl, List.forall_mem_cons.mpr ⟨lwt1 (i := 83) rfl, List.forall_mem_cons.mpr ⟨lwt1 (i := 85) rfl, List.forall_mem_cons.mpr ⟨lwt1 (i := 87) rfl, List.forall_mem_cons.mpr ⟨lwt1 (i := 55) rfl, List.forall_mem_cons.mpr ⟨lwt1 (i := 57) rfl, List.forall_mem_cons.mpr ⟨lwt1 (i := 59) rfl, List.forall_mem_cons.mpr ⟨lwt1 (i := 61) rfl, List.forall_mem_cons.mpr ⟨lwt1 (i := 63) rfl, fun _ h => absurd h List.not_mem_nil⟩⟩⟩⟩⟩⟩⟩⟩⟩⟩⟩⟩⟩⟩⟩⟩⟩⟩⟩⟩⟩⟩⟩⟩⟩⟩⟩⟩
set_option maxHeartbeats 4000000 in
set_option maxRecDepth 100000 in
theorem lwe5 : wsX5_init = lwa5 ++ lwb5 := rfl
theorem lwi5 : ∀ w ∈ wsX5_init, w ∈ lw_tbl := by
  rw [lwe5]
  exact List.forall_mem_append.mpr ⟨lwi5_a, lwi5_b⟩
set_option maxHeartbeats 4000000 in
set_option maxRecDepth 100000 in
theorem ggs5 : GoodIn wsX5_init wsX5_init := goodIn_r _ [0, 1, 2, 3, 4, 5, 6, 7, 8, 9, 10, 11, 12, 13, 14, 15, 16, 17, 18, 19, 20, 21, 22, 23, 24, 25, 26, 27, 28, 29, 30, 31, 32, 33, 34, 35, 36, 37, 38, 39, 40, 41, 42, 43, 44, 45, 46, 47, 48, 49, 50, 51, 52, 53, 54, 55, 56, 57, 58, 59, 60, 61, 62, 63, 64, 65, 66, 67, 68, 69, 70, 71, 72, 73, 74, 75, 76, 77, 78, 79, 80, 81, 82, 83, 84, 85, 86, 87] (by decide +kernel) (by decide +kernel)
abbrev lwa6 : List Cond := [.code yX6_init cX6_init 2 none, .methodLink RX6 1 objectInit, .instanceMethod objectInit, .code objectInit ⟨#[0xb1]⟩ 1 none, .arrayClass .int, .fieldLink RX6 7 "SugarLoopModel" "kindOf" "[I", .fieldLink RX6 13 "SugarLoopModel" "rankOf" "[I", .fieldLink RX6 16 "SugarLoopModel" "wantOf" "[I", .fieldLink RX6 19 "SugarLoopModel" "warmOf" "[I", .fieldLink RX6 22 "SugarLoopModel" "hasOf" "[I", .fieldLink RX6 25 "SugarLoopModel" "readKind" "[I", .fieldLink RX6 28 "SugarLoopModel" "readRank" "[I", .fieldLink RX6 31 "SugarLoopModel" "readWant" "[I", .fieldLink RX6 34 "SugarLoopModel" "readWarm" "[I", .fieldLink RX6 37 "SugarLoopModel" "hasThen" "[I", .fieldLink RX6 40 "SugarLoopModel" "lumpTo" "[I", .fieldLink RX6 43 "SugarLoopModel" "lumpWhen" "[I", .fieldLink RX6 46 "SugarLoopModel" "readingOf" "[I", .fieldLink RX6 49 "SugarLoopModel" "readingBy" "[I", .fieldLink RX6 52 "SugarLoopModel" "readingWas" "[I", .fieldLink RX6 55 "SugarLoopModel" "sheetSize" "[I", .fieldLink RX6 58 "SugarLoopModel" "sheetLane" "[I", .fieldLink RX6 61 "SugarLoopModel" "sheet" "[I", .fieldLink RX6 64 "SugarLoopModel" "hands" "[I"]
abbrev lwb6 : List Cond := [u_lay RX6 TX6 0, u_lay RX6 TX6 1, u_lay RX6 TX6 2, u_lay RX6 TX6 3, u_lay RX6 TX6 4, u_lay RX6 TX6 5, u_lay RX6 TX6 6, u_lay RX6 TX6 7, u_lay RX6 TX6 8, u_lay RX6 TX6 9, u_lay RX6 TX6 10, u_lay RX6 TX6 11, u_lay RX6 TX6 12, u_lay RX6 TX6 13, u_lay RX6 TX6 14, u_lay RX6 TX6 15, u_lay RX6 TX6 16, u_lay RX6 TX6 17, u_lay RX6 TX6 18, u_lay RX6 TX6 19, u_lay RX6 TX6 20, u_lay RX6 TX6 21, u_lay RX6 TX6 22, u_lay RX6 TX6 23, u_lay RX6 TX6 24, u_lay RX6 TX6 25, u_lay RX6 TX6 26, u_lay RX6 TX6 27, u_lay RX6 TX6 28, u_lay RX6 TX6 29, u_lay RX6 TX6 30, u_lay RX6 TX6 31, u_lay RX6 TX6 32]
set_option maxHeartbeats 4000000 in
set_option maxRecDepth 100000 in
theorem lwi6_a : ∀ w ∈ lwa6, w ∈ lw_tbl := List.forall_mem_cons.mpr ⟨lwt3 (i := 40) rfl, List.forall_mem_cons.mpr ⟨lwt3 (i := 41) rfl, List.forall_mem_cons.mpr ⟨lwt1 (i := 17) rfl, List.forall_mem_cons.mpr ⟨lwt1 (i := 18) rfl, List.forall_mem_cons.mpr ⟨lwt1 (i := 112) rfl, List.forall_mem_cons.mpr ⟨lwt3 (i := 47) rfl, List.forall_mem_cons.mpr ⟨lwt3 (i := 48) rfl, List.forall_mem_cons.mpr ⟨lwt3 (i := 49) rfl, List.forall_mem_cons.mpr ⟨lwt3 (i := 50) rfl, List.forall_mem_cons.mpr ⟨lwt3 (i := 51) rfl, List.forall_mem_cons.mpr ⟨lwt3 (i := 56) rfl, List.forall_mem_cons.mpr ⟨lwt3 (i := 57) rfl, List.forall_mem_cons.mpr ⟨lwt3 (i := 58) rfl, List.forall_mem_cons.mpr ⟨lwt3 (i := 59) rfl, List.forall_mem_cons.mpr ⟨lwt3 (i := 63) rfl, List.forall_mem_cons.mpr ⟨lwt3 (i := 64) rfl, List.forall_mem_cons.mpr ⟨lwt3 (i := 65) rfl, List.forall_mem_cons.mpr ⟨lwt3 (i := 67) rfl, List.forall_mem_cons.mpr ⟨lwt3 (i := 68) rfl, List.forall_mem_cons.mpr ⟨lwt3 (i := 69) rfl, List.forall_mem_cons.mpr ⟨lwt3 (i := 70) rfl, List.forall_mem_cons.mpr ⟨lwt3 (i := 71) rfl, List.forall_mem_cons.mpr ⟨lwt3 (i := 72) rfl, List.forall_mem_cons.mpr ⟨lwt3 (i := 73) rfl, fun _ h => absurd h List.not_mem_nil⟩⟩⟩⟩⟩⟩⟩⟩⟩⟩⟩⟩⟩⟩⟩⟩⟩⟩⟩⟩⟩⟩⟩⟩
set_option maxHeartbeats 4000000 in
set_option maxRecDepth 100000 in
theorem lwi6_b : ∀ w ∈ lwb6, w ∈ lw_tbl := List.forall_mem_cons.mpr ⟨lwt3 (i := 75) rfl, List.forall_mem_cons.mpr ⟨lwt3 (i := 77) rfl, List.forall_mem_cons.mpr ⟨lwt3 (i := 79) rfl, List.forall_mem_cons.mpr ⟨lwt3 (i := 81) rfl, List.forall_mem_cons.mpr ⟨lwt3 (i := 83) rfl, List.forall_mem_cons.mpr ⟨lwt3 (i := 85) rfl, List.forall_mem_cons.mpr ⟨lwt3 (i := 87) rfl, List.forall_mem_cons.mpr ⟨lwt3 (i := 89) rfl, List.forall_mem_cons.mpr ⟨lwt3 (i := 91) rfl, List.forall_mem_cons.mpr ⟨lwt3 (i := 93) rfl, List.forall_mem_cons.mpr ⟨lwt3 (i := 95) rfl, List.forall_mem_cons.mpr ⟨lwt3 (i := 97) rfl, List.forall_mem_cons.mpr ⟨lwt3 (i := 99) rfl, List.forall_mem_cons.mpr ⟨lwt3 (i := 101) rfl, List.forall_mem_cons.mpr ⟨lwt3 (i := 103) rfl, List.forall_mem_cons.mpr ⟨lwt3 (i := 105) rfl, List.forall_mem_cons.mpr ⟨lwt3 (i := 107) rfl, List.forall_mem_cons.mpr ⟨lwt3 (i := 109) rfl, List.forall_mem_cons.mpr ⟨lwt3 (i := 111) rfl, List.forall_mem_cons.mpr ⟨lwt3 (i := 113) rfl, List.forall_mem_cons.mpr ⟨lwt3 (i := 115) rfl, List.forall_mem_cons.mpr ⟨lwt3 (i := 117) rfl, List.forall_mem_cons.mpr ⟨lwt3 (i := 119) rfl, List.forall_mem_cons.mpr ⟨lwt3 (i := 121) rfl, List.forall_mem_cons.mpr ⟨lwt3 (i := 123) rfl, List.forall_mem_cons.mpr ⟨lwt3 (i := 125) rfl, List.forall_mem_cons.mpr ⟨lwt3 (i := 127) rfl, List.forall_mem_cons.mpr ⟨lwt3 (i := 129) rfl, List.forall_mem_cons.mpr ⟨lwt3 (i := 131) rfl, List.forall_mem_cons.mpr ⟨lwt3 (i := 133) rfl, List.forall_mem_cons.mpr ⟨lwt3 (i := 135) rfl, List.forall_mem_cons.mpr ⟨lwt3 (i := 137) rfl, List.forall_mem_cons.mpr ⟨lwt3 (i := 139) rfl, fun _ h => absurd h List.not_mem_nil⟩⟩⟩⟩⟩⟩⟩⟩⟩⟩⟩⟩⟩⟩⟩⟩⟩⟩⟩⟩⟩⟩⟩⟩⟩⟩⟩⟩⟩⟩⟩⟩⟩
set_option maxHeartbeats 4000000 in
set_option maxRecDepth 100000 in
theorem lwe6 : wsX6_init = lwa6 ++ lwb6 := rfl
theorem lwi6 : ∀ w ∈ wsX6_init, w ∈ lw_tbl := by
  rw [lwe6]
  exact List.forall_mem_append.mpr ⟨lwi6_a, lwi6_b⟩
set_option maxHeartbeats 4000000 in
set_option maxRecDepth 100000 in
theorem ggs6 : GoodIn wsX6_init wsX6_init := goodIn_r _ [0, 1, 2, 3, 4, 5, 6, 7, 8, 9, 10, 11, 12, 13, 14, 15, 16, 17, 18, 19, 20, 21, 22, 23, 24, 25, 26, 27, 28, 29, 30, 31, 32, 33, 34, 35, 36, 37, 38, 39, 40, 41, 42, 43, 44, 45, 46, 47, 48, 49, 50, 51, 52, 53, 54, 55, 56] (by decide +kernel) (by decide +kernel)
def x0M : Mem := fun k i j => cond (Nat.beq k 1) (nI j) (cond (Nat.beq k 7) (nI j) (cond (Nat.beq k 2) (cond (Nat.beq j 1) (-1) 0) (cond (Nat.beq k 4) (cond (Nat.beq j 4) (-9) 0) (cond (Nat.beq k 29) (-1) 0))))
def adM (h0 g0 : Nat) (u v : Nat → Nat) : Nat → Nat → Nat := fun k i => nth [h0, u 0, nth [u 17, u 19, u 21, u 23] i 0, nth [u 18, u 20, u 22, u 24] i 0, u 1, u 12, u 2, u 3, u (4 + i), u 13, u 14, u 15, u 16, g0] k (v (k - 14))
theorem inv0 : Inv x0M := by
  refine ⟨0, 0, 0, 0, fun _ => 0, fun _ => 0, fun _ => 0, fun _ => 0, fun _ => 0, ⟨rfl, rfl, rfl, rfl, fun t _ => ⟨rfl, rfl, rfl, rfl, rfl, rfl⟩⟩, ⟨rfl, rfl, rfl, rfl, fun t _ => ⟨rfl, rfl, rfl, rfl, rfl⟩⟩, ⟨by decide, by decide, by decide, fun t _ => ⟨Nat.zero_le _, Nat.zero_le _, Nat.zero_le _, Nat.zero_le _, Nat.zero_le _⟩, by decide⟩, ⟨0, fun _ => 0, fun _ => 0, fun _ => 0, rfl, rfl, by decide, fun r _ => ⟨rfl, rfl, rfl, rfl, rfl, rfl⟩, fun r h => absurd h (Nat.not_lt_zero r)⟩, fun k _ => ⟨rfl, Or.inl ⟨rfl, rfl, rfl⟩, fun i _ => rfl⟩, ⟨rfl, rfl⟩⟩
theorem vpc_i {cA : ClassId} {n : Nat} {f g : Nat → Int32} (h : ∀ j, j < n → f j = g j) : vp_cell cA (n, .inl f) = vp_cell cA (n, .inl g) := by
  have h1 : (fun j : Fin n => Value.int (f j.val)) = fun j : Fin n => Value.int (g j.val) := funext fun j => by rw [h j.val j.isLt]
  show ({ cls := cA, slots := Array.ofFn (n := n) fun j => Value.int (f j.val), vm := .none } : Cell) = { cls := cA, slots := Array.ofFn (n := n) fun j => Value.int (g j.val), vm := .none }
  rw [h1]
theorem vpc_q {cA : ClassId} {n : Nat} {f g : Nat → Option Nat} (h : ∀ j, j < n → f j = g j) : vp_cell cA (n, .inr (.inr (.inr (.inr f)))) = vp_cell cA (n, .inr (.inr (.inr (.inr g)))) := by
  have h1 : (fun j : Fin n => va_rf (f j.val)) = fun j : Fin n => va_rf (g j.val) := funext fun j => by rw [h j.val j.isLt]
  show ({ cls := cA, slots := Array.ofFn (n := n) fun j => va_rf (f j.val), vm := .none } : Cell) = { cls := cA, slots := Array.ofFn (n := n) fun j => va_rf (g j.val), vm := .none }
  rw [h1]
theorem va_ci {D : va_G} {cl : List vw_C} {a n : Nat} {cA : ClassId} {f g : Nat → Int32} {H : Heap} (h : va_at D cl (a, .inl (cA, n, .inl f)) H) (e : ∀ j, j < n → f j = g j) : va_at D cl (a, .inl (cA, n, .inl g)) H := by
  show H[a]? = some (vp_cell cA (n, .inl g))
  rw [← vpc_i e]
  exact h
theorem va_cq {D : va_G} {cl : List vw_C} {a n : Nat} {cA : ClassId} {f g : Nat → Option Nat} {H : Heap} (h : va_at D cl (a, .inl (cA, n, .inr (.inr (.inr (.inr f))))) H) (e : ∀ j, j < n → f j = g j) : va_at D cl (a, .inl (cA, n, .inr (.inr (.inr (.inr g))))) H := by
  show H[a]? = some (vp_cell cA (n, .inr (.inr (.inr (.inr g)))))
  rw [← vpc_q e]
  exact h
theorem wl_all {D : va_G} {ad : Nat → Nat → Nat} {cI cT cS : ClassId} {x : Mem} {H : Heap} (h : ∀ k, k < 33 → ∀ i, i < cnt k → va_at D vwCl (ad k i, cE ad cI cT cS (x k i) k i) H) : va_P D vwCl (wl ad cI cT cS x) H := by
  intro p q hq
  unfold wl at hq
  rw [List.getElem?_map] at hq
  cases hz : cells[p]? with
  | none => rw [hz] at hq; cases hq
  | some z =>
    rw [hz] at hq
    cases hq
    have h2 := cells_of (List.mem_of_getElem? hz)
    exact h z.1 (cnt_lt h2) z.2 h2
theorem va_D_fst {A : Nat → Prop} {ws ws' : va_W} (hf : ws.map (fun q => q.1) = ws'.map (fun q => q.1)) (h : va_D A ws) : va_D A ws' := by
  have key : ∀ (k : Nat) (q : Nat × va_E), ws'[k]? = some q → ∃ q' : Nat × va_E, ws[k]? = some q' ∧ q'.1 = q.1 := by
    intro k q hq
    have h1 : (ws'.map (fun q => q.1))[k]? = some q.1 := by rw [List.getElem?_map, hq]; rfl
    rw [← hf, List.getElem?_map] at h1
    cases hz : ws[k]? with
    | none => rw [hz] at h1; cases h1
    | some z => rw [hz] at h1; exact ⟨z, rfl, Option.some.inj h1⟩
  refine ⟨fun i j p q hp hq e => ?_, fun k q hq => ?_⟩
  · obtain ⟨p', hp', ep⟩ := key i p hp
    obtain ⟨q', hq', eq⟩ := key j q hq
    exact h.1 i j p' q' hp' hq' (by rw [ep, eq, e])
  · obtain ⟨q', hq', eq⟩ := key k q hq
    rw [← eq]
    exact h.2 k q' hq'
abbrev WB (cI cT cS : ClassId) (h0 g0 : Nat) (u v : Nat → Nat) : va_W := [(h0, .inr (5, [.ref (u 0), .ref (u 1), .ref (u 2), .ref (u 13), .int 0, .int 0])), ((u 0), .inl (cS, 4, .inr (.inr (.inr (.inr (va_up (va_up (va_up (va_up (fun _ => none) (Int32.toNatClampNeg 0) (some (u 17))) (Int32.toNatClampNeg 1) (some (u 19))) (Int32.toNatClampNeg 2) (some (u 21))) (Int32.toNatClampNeg 3) (some (u 23)))))))), ((u 1), .inr (2, [.ref (u 2), .ref (u 12), .int 0, .int 0, .int (-9)])), ((u 2), .inr (0, [.ref (u 3), .int 0, .int 0, .int 0, .int 0])), ((u 3), .inl (cT, 8, .inr (.inr (.inr (.inr (va_up (va_up (va_up (va_up (va_up (va_up (va_up (va_up (fun _ => none) (Int32.toNatClampNeg 0) (some (u 4))) (Int32.toNatClampNeg 1) (some (u 5))) (Int32.toNatClampNeg 2) (some (u 6))) (Int32.toNatClampNeg 3) (some (u 7))) (Int32.toNatClampNeg 4) (some (u 8))) (Int32.toNatClampNeg 5) (some (u 9))) (Int32.toNatClampNeg 6) (some (u 10))) (Int32.toNatClampNeg 7) (some (u 11)))))))), ((u 4), .inr (4, [.int 0, .int 0, .int 0, .int 0, .int 0])), ((u 5), .inr (4, [.int 0, .int 0, .int 0, .int 0, .int 0])), ((u 6), .inr (4, [.int 0, .int 0, .int 0, .int 0, .int 0])), ((u 7), .inr (4, [.int 0, .int 0, .int 0, .int 0, .int 0])), ((u 8), .inr (4, [.int 0, .int 0, .int 0, .int 0, .int 0])), ((u 9), .inr (4, [.int 0, .int 0, .int 0, .int 0, .int 0])), ((u 10), .inr (4, [.int 0, .int 0, .int 0, .int 0, .int 0])), ((u 11), .inr (4, [.int 0, .int 0, .int 0, .int 0, .int 0])), ((u 12), .inl (cI, 8, .inl (fun _ => 0))), ((u 13), .inr (1, [.ref (u 14), .ref (u 15), .ref (u 16), .int 0])), ((u 14), .inl (cI, 8, .inl (fun _ => 0))), ((u 15), .inl (cI, 8, .inl (fun _ => 0))), ((u 16), .inl (cI, 8, .inl (fun _ => 0))), ((u 17), .inr (3, [.ref (u 18), .int (-1), .int 0])), ((u 18), .inl (cI, 60, .inl (fun _ => 0))), ((u 19), .inr (3, [.ref (u 20), .int (-1), .int 0])), ((u 20), .inl (cI, 60, .inl (fun _ => 0))), ((u 21), .inr (3, [.ref (u 22), .int (-1), .int 0])), ((u 22), .inl (cI, 60, .inl (fun _ => 0))), ((u 23), .inr (3, [.ref (u 24), .int (-1), .int 0])), ((u 24), .inl (cI, 60, .inl (fun _ => 0))), (g0, .inr (6, [.int 0, .int 0, .int 0, .int 0, .int 0, .ref (v 0), .ref (v 1), .ref (v 2), .ref (v 3), .ref (v 4), .int 0, .int 0, .int 0, .int 0, .ref (v 5), .ref (v 6), .ref (v 7), .ref (v 8), .int 0, .int 0, .int 0, .ref (v 9), .ref (v 10), .ref (v 11), .int 0, .ref (v 12), .ref (v 13), .ref (v 14), .ref (v 15), .ref (v 16), .ref (v 17), .ref (v 18), .int 0])), ((v 0), .inl (cI, 8, .inl (fun _ => 0))), ((v 1), .inl (cI, 8, .inl (fun _ => 0))), ((v 2), .inl (cI, 8, .inl (fun _ => 0))), ((v 3), .inl (cI, 8, .inl (fun _ => 0))), ((v 4), .inl (cI, 8, .inl (fun _ => 0))), ((v 5), .inl (cI, 8, .inl (fun _ => 0))), ((v 6), .inl (cI, 8, .inl (fun _ => 0))), ((v 7), .inl (cI, 8, .inl (fun _ => 0))), ((v 8), .inl (cI, 8, .inl (fun _ => 0))), ((v 9), .inl (cI, 8, .inl (fun _ => 0))), ((v 10), .inl (cI, 36, .inl (fun _ => 0))), ((v 11), .inl (cI, 36, .inl (fun _ => 0))), ((v 12), .inl (cI, 8, .inl (fun _ => 0))), ((v 13), .inl (cI, 8, .inl (fun _ => 0))), ((v 14), .inl (cI, 8, .inl (fun _ => 0))), ((v 15), .inl (cI, 4, .inl (upd (upd (upd (upd (fun _ => 0) (Int32.toNatClampNeg 0) (-1)) (Int32.toNatClampNeg 1) (-1)) (Int32.toNatClampNeg 2) (-1)) (Int32.toNatClampNeg 3) (-1)))), ((v 16), .inl (cI, 4, .inl (fun _ => 0))), ((v 17), .inl (cI, 240, .inl (fun _ => 0))), ((v 18), .inl (cI, 60, .inl (fun _ => 0)))]
set_option maxHeartbeats 4000000 in
set_option maxRecDepth 100000 in
theorem wb_0 {D : va_G} {cI cT cS : ClassId} {h0 g0 : Nat} {u v : Nat → Nat} {H : Heap} (hP : va_P D vwCl (WB cI cT cS h0 g0 u v) H) : ∀ i, i < cnt 0 → va_at D vwCl (adM h0 g0 u v 0 i, cE (adM h0 g0 u v) cI cT cS (x0M 0 i) 0 i) H := fun i hi => match i, hi with
  | 0, _ => hP 0 _ rfl
  | i + 1, hi => absurd (show i + 1 < 1 from hi) (by omega)
set_option maxHeartbeats 4000000 in
set_option maxRecDepth 100000 in
theorem wb_1 {D : va_G} {cI cT cS : ClassId} {h0 g0 : Nat} {u v : Nat → Nat} {H : Heap} (hP : va_P D vwCl (WB cI cT cS h0 g0 u v) H) : ∀ i, i < cnt 1 → va_at D vwCl (adM h0 g0 u v 1 i, cE (adM h0 g0 u v) cI cT cS (x0M 1 i) 1 i) H := fun i hi => match i, hi with
  | 0, _ => va_cq (hP 1 _ rfl) (fun j hj => match j, hj with | 0, _ => rfl | 1, _ => rfl | 2, _ => rfl | 3, _ => rfl | j + 4, hj => absurd hj (by omega))
  | i + 1, hi => absurd (show i + 1 < 1 from hi) (by omega)
set_option maxHeartbeats 4000000 in
set_option maxRecDepth 100000 in
theorem wb_2 {D : va_G} {cI cT cS : ClassId} {h0 g0 : Nat} {u v : Nat → Nat} {H : Heap} (hP : va_P D vwCl (WB cI cT cS h0 g0 u v) H) : ∀ i, i < cnt 2 → va_at D vwCl (adM h0 g0 u v 2 i, cE (adM h0 g0 u v) cI cT cS (x0M 2 i) 2 i) H := fun i hi => match i, hi with
  | 0, _ => hP 18 _ rfl
  | 1, _ => hP 20 _ rfl
  | 2, _ => hP 22 _ rfl
  | 3, _ => hP 24 _ rfl
  | i + 4, hi => absurd (show i + 4 < 4 from hi) (by omega)
set_option maxHeartbeats 4000000 in
set_option maxRecDepth 100000 in
theorem wb_3 {D : va_G} {cI cT cS : ClassId} {h0 g0 : Nat} {u v : Nat → Nat} {H : Heap} (hP : va_P D vwCl (WB cI cT cS h0 g0 u v) H) : ∀ i, i < cnt 3 → va_at D vwCl (adM h0 g0 u v 3 i, cE (adM h0 g0 u v) cI cT cS (x0M 3 i) 3 i) H := fun i hi => match i, hi with
  | 0, _ => hP 19 _ rfl
  | 1, _ => hP 21 _ rfl
  | 2, _ => hP 23 _ rfl
  | 3, _ => hP 25 _ rfl
  | i + 4, hi => absurd (show i + 4 < 4 from hi) (by omega)
set_option maxHeartbeats 4000000 in
set_option maxRecDepth 100000 in
theorem wb_4 {D : va_G} {cI cT cS : ClassId} {h0 g0 : Nat} {u v : Nat → Nat} {H : Heap} (hP : va_P D vwCl (WB cI cT cS h0 g0 u v) H) : ∀ i, i < cnt 4 → va_at D vwCl (adM h0 g0 u v 4 i, cE (adM h0 g0 u v) cI cT cS (x0M 4 i) 4 i) H := fun i hi => match i, hi with
  | 0, _ => hP 2 _ rfl
  | i + 1, hi => absurd (show i + 1 < 1 from hi) (by omega)
set_option maxHeartbeats 4000000 in
set_option maxRecDepth 100000 in
theorem wb_5 {D : va_G} {cI cT cS : ClassId} {h0 g0 : Nat} {u v : Nat → Nat} {H : Heap} (hP : va_P D vwCl (WB cI cT cS h0 g0 u v) H) : ∀ i, i < cnt 5 → va_at D vwCl (adM h0 g0 u v 5 i, cE (adM h0 g0 u v) cI cT cS (x0M 5 i) 5 i) H := fun i hi => match i, hi with
  | 0, _ => hP 13 _ rfl
  | i + 1, hi => absurd (show i + 1 < 1 from hi) (by omega)
set_option maxHeartbeats 4000000 in
set_option maxRecDepth 100000 in
theorem wb_6 {D : va_G} {cI cT cS : ClassId} {h0 g0 : Nat} {u v : Nat → Nat} {H : Heap} (hP : va_P D vwCl (WB cI cT cS h0 g0 u v) H) : ∀ i, i < cnt 6 → va_at D vwCl (adM h0 g0 u v 6 i, cE (adM h0 g0 u v) cI cT cS (x0M 6 i) 6 i) H := fun i hi => match i, hi with
  | 0, _ => hP 3 _ rfl
  | i + 1, hi => absurd (show i + 1 < 1 from hi) (by omega)
set_option maxHeartbeats 4000000 in
set_option maxRecDepth 100000 in
theorem wb_7 {D : va_G} {cI cT cS : ClassId} {h0 g0 : Nat} {u v : Nat → Nat} {H : Heap} (hP : va_P D vwCl (WB cI cT cS h0 g0 u v) H) : ∀ i, i < cnt 7 → va_at D vwCl (adM h0 g0 u v 7 i, cE (adM h0 g0 u v) cI cT cS (x0M 7 i) 7 i) H := fun i hi => match i, hi with
  | 0, _ => va_cq (hP 4 _ rfl) (fun j hj => match j, hj with | 0, _ => rfl | 1, _ => rfl | 2, _ => rfl | 3, _ => rfl | 4, _ => rfl | 5, _ => rfl | 6, _ => rfl | 7, _ => rfl | j + 8, hj => absurd hj (by omega))
  | i + 1, hi => absurd (show i + 1 < 1 from hi) (by omega)
set_option maxHeartbeats 4000000 in
set_option maxRecDepth 100000 in
theorem wb_8 {D : va_G} {cI cT cS : ClassId} {h0 g0 : Nat} {u v : Nat → Nat} {H : Heap} (hP : va_P D vwCl (WB cI cT cS h0 g0 u v) H) : ∀ i, i < cnt 8 → va_at D vwCl (adM h0 g0 u v 8 i, cE (adM h0 g0 u v) cI cT cS (x0M 8 i) 8 i) H := fun i hi => match i, hi with
  | 0, _ => hP 5 _ rfl
  | 1, _ => hP 6 _ rfl
  | 2, _ => hP 7 _ rfl
  | 3, _ => hP 8 _ rfl
  | 4, _ => hP 9 _ rfl
  | 5, _ => hP 10 _ rfl
  | 6, _ => hP 11 _ rfl
  | 7, _ => hP 12 _ rfl
  | i + 8, hi => absurd (show i + 8 < 8 from hi) (by omega)
set_option maxHeartbeats 4000000 in
set_option maxRecDepth 100000 in
theorem wb_9 {D : va_G} {cI cT cS : ClassId} {h0 g0 : Nat} {u v : Nat → Nat} {H : Heap} (hP : va_P D vwCl (WB cI cT cS h0 g0 u v) H) : ∀ i, i < cnt 9 → va_at D vwCl (adM h0 g0 u v 9 i, cE (adM h0 g0 u v) cI cT cS (x0M 9 i) 9 i) H := fun i hi => match i, hi with
  | 0, _ => hP 14 _ rfl
  | i + 1, hi => absurd (show i + 1 < 1 from hi) (by omega)
set_option maxHeartbeats 4000000 in
set_option maxRecDepth 100000 in
theorem wb_10 {D : va_G} {cI cT cS : ClassId} {h0 g0 : Nat} {u v : Nat → Nat} {H : Heap} (hP : va_P D vwCl (WB cI cT cS h0 g0 u v) H) : ∀ i, i < cnt 10 → va_at D vwCl (adM h0 g0 u v 10 i, cE (adM h0 g0 u v) cI cT cS (x0M 10 i) 10 i) H := fun i hi => match i, hi with
  | 0, _ => hP 15 _ rfl
  | i + 1, hi => absurd (show i + 1 < 1 from hi) (by omega)
set_option maxHeartbeats 4000000 in
set_option maxRecDepth 100000 in
theorem wb_11 {D : va_G} {cI cT cS : ClassId} {h0 g0 : Nat} {u v : Nat → Nat} {H : Heap} (hP : va_P D vwCl (WB cI cT cS h0 g0 u v) H) : ∀ i, i < cnt 11 → va_at D vwCl (adM h0 g0 u v 11 i, cE (adM h0 g0 u v) cI cT cS (x0M 11 i) 11 i) H := fun i hi => match i, hi with
  | 0, _ => hP 16 _ rfl
  | i + 1, hi => absurd (show i + 1 < 1 from hi) (by omega)
set_option maxHeartbeats 4000000 in
set_option maxRecDepth 100000 in
theorem wb_12 {D : va_G} {cI cT cS : ClassId} {h0 g0 : Nat} {u v : Nat → Nat} {H : Heap} (hP : va_P D vwCl (WB cI cT cS h0 g0 u v) H) : ∀ i, i < cnt 12 → va_at D vwCl (adM h0 g0 u v 12 i, cE (adM h0 g0 u v) cI cT cS (x0M 12 i) 12 i) H := fun i hi => match i, hi with
  | 0, _ => hP 17 _ rfl
  | i + 1, hi => absurd (show i + 1 < 1 from hi) (by omega)
set_option maxHeartbeats 4000000 in
set_option maxRecDepth 100000 in
theorem wb_13 {D : va_G} {cI cT cS : ClassId} {h0 g0 : Nat} {u v : Nat → Nat} {H : Heap} (hP : va_P D vwCl (WB cI cT cS h0 g0 u v) H) : ∀ i, i < cnt 13 → va_at D vwCl (adM h0 g0 u v 13 i, cE (adM h0 g0 u v) cI cT cS (x0M 13 i) 13 i) H := fun i hi => match i, hi with
  | 0, _ => hP 26 _ rfl
  | i + 1, hi => absurd (show i + 1 < 1 from hi) (by omega)
set_option maxHeartbeats 4000000 in
set_option maxRecDepth 100000 in
theorem wb_14 {D : va_G} {cI cT cS : ClassId} {h0 g0 : Nat} {u v : Nat → Nat} {H : Heap} (hP : va_P D vwCl (WB cI cT cS h0 g0 u v) H) : ∀ i, i < cnt 14 → va_at D vwCl (adM h0 g0 u v 14 i, cE (adM h0 g0 u v) cI cT cS (x0M 14 i) 14 i) H := fun i hi => match i, hi with
  | 0, _ => hP 27 _ rfl
  | i + 1, hi => absurd (show i + 1 < 1 from hi) (by omega)
set_option maxHeartbeats 4000000 in
set_option maxRecDepth 100000 in
theorem wb_15 {D : va_G} {cI cT cS : ClassId} {h0 g0 : Nat} {u v : Nat → Nat} {H : Heap} (hP : va_P D vwCl (WB cI cT cS h0 g0 u v) H) : ∀ i, i < cnt 15 → va_at D vwCl (adM h0 g0 u v 15 i, cE (adM h0 g0 u v) cI cT cS (x0M 15 i) 15 i) H := fun i hi => match i, hi with
  | 0, _ => hP 28 _ rfl
  | i + 1, hi => absurd (show i + 1 < 1 from hi) (by omega)
set_option maxHeartbeats 4000000 in
set_option maxRecDepth 100000 in
theorem wb_16 {D : va_G} {cI cT cS : ClassId} {h0 g0 : Nat} {u v : Nat → Nat} {H : Heap} (hP : va_P D vwCl (WB cI cT cS h0 g0 u v) H) : ∀ i, i < cnt 16 → va_at D vwCl (adM h0 g0 u v 16 i, cE (adM h0 g0 u v) cI cT cS (x0M 16 i) 16 i) H := fun i hi => match i, hi with
  | 0, _ => hP 29 _ rfl
  | i + 1, hi => absurd (show i + 1 < 1 from hi) (by omega)
set_option maxHeartbeats 4000000 in
set_option maxRecDepth 100000 in
theorem wb_17 {D : va_G} {cI cT cS : ClassId} {h0 g0 : Nat} {u v : Nat → Nat} {H : Heap} (hP : va_P D vwCl (WB cI cT cS h0 g0 u v) H) : ∀ i, i < cnt 17 → va_at D vwCl (adM h0 g0 u v 17 i, cE (adM h0 g0 u v) cI cT cS (x0M 17 i) 17 i) H := fun i hi => match i, hi with
  | 0, _ => hP 30 _ rfl
  | i + 1, hi => absurd (show i + 1 < 1 from hi) (by omega)
set_option maxHeartbeats 4000000 in
set_option maxRecDepth 100000 in
theorem wb_18 {D : va_G} {cI cT cS : ClassId} {h0 g0 : Nat} {u v : Nat → Nat} {H : Heap} (hP : va_P D vwCl (WB cI cT cS h0 g0 u v) H) : ∀ i, i < cnt 18 → va_at D vwCl (adM h0 g0 u v 18 i, cE (adM h0 g0 u v) cI cT cS (x0M 18 i) 18 i) H := fun i hi => match i, hi with
  | 0, _ => hP 31 _ rfl
  | i + 1, hi => absurd (show i + 1 < 1 from hi) (by omega)
set_option maxHeartbeats 4000000 in
set_option maxRecDepth 100000 in
theorem wb_19 {D : va_G} {cI cT cS : ClassId} {h0 g0 : Nat} {u v : Nat → Nat} {H : Heap} (hP : va_P D vwCl (WB cI cT cS h0 g0 u v) H) : ∀ i, i < cnt 19 → va_at D vwCl (adM h0 g0 u v 19 i, cE (adM h0 g0 u v) cI cT cS (x0M 19 i) 19 i) H := fun i hi => match i, hi with
  | 0, _ => hP 32 _ rfl
  | i + 1, hi => absurd (show i + 1 < 1 from hi) (by omega)
set_option maxHeartbeats 4000000 in
set_option maxRecDepth 100000 in
theorem wb_20 {D : va_G} {cI cT cS : ClassId} {h0 g0 : Nat} {u v : Nat → Nat} {H : Heap} (hP : va_P D vwCl (WB cI cT cS h0 g0 u v) H) : ∀ i, i < cnt 20 → va_at D vwCl (adM h0 g0 u v 20 i, cE (adM h0 g0 u v) cI cT cS (x0M 20 i) 20 i) H := fun i hi => match i, hi with
  | 0, _ => hP 33 _ rfl
  | i + 1, hi => absurd (show i + 1 < 1 from hi) (by omega)
set_option maxHeartbeats 4000000 in
set_option maxRecDepth 100000 in
theorem wb_21 {D : va_G} {cI cT cS : ClassId} {h0 g0 : Nat} {u v : Nat → Nat} {H : Heap} (hP : va_P D vwCl (WB cI cT cS h0 g0 u v) H) : ∀ i, i < cnt 21 → va_at D vwCl (adM h0 g0 u v 21 i, cE (adM h0 g0 u v) cI cT cS (x0M 21 i) 21 i) H := fun i hi => match i, hi with
  | 0, _ => hP 34 _ rfl
  | i + 1, hi => absurd (show i + 1 < 1 from hi) (by omega)
set_option maxHeartbeats 4000000 in
set_option maxRecDepth 100000 in
theorem wb_22 {D : va_G} {cI cT cS : ClassId} {h0 g0 : Nat} {u v : Nat → Nat} {H : Heap} (hP : va_P D vwCl (WB cI cT cS h0 g0 u v) H) : ∀ i, i < cnt 22 → va_at D vwCl (adM h0 g0 u v 22 i, cE (adM h0 g0 u v) cI cT cS (x0M 22 i) 22 i) H := fun i hi => match i, hi with
  | 0, _ => hP 35 _ rfl
  | i + 1, hi => absurd (show i + 1 < 1 from hi) (by omega)
set_option maxHeartbeats 4000000 in
set_option maxRecDepth 100000 in
theorem wb_23 {D : va_G} {cI cT cS : ClassId} {h0 g0 : Nat} {u v : Nat → Nat} {H : Heap} (hP : va_P D vwCl (WB cI cT cS h0 g0 u v) H) : ∀ i, i < cnt 23 → va_at D vwCl (adM h0 g0 u v 23 i, cE (adM h0 g0 u v) cI cT cS (x0M 23 i) 23 i) H := fun i hi => match i, hi with
  | 0, _ => hP 36 _ rfl
  | i + 1, hi => absurd (show i + 1 < 1 from hi) (by omega)
set_option maxHeartbeats 4000000 in
set_option maxRecDepth 100000 in
theorem wb_24 {D : va_G} {cI cT cS : ClassId} {h0 g0 : Nat} {u v : Nat → Nat} {H : Heap} (hP : va_P D vwCl (WB cI cT cS h0 g0 u v) H) : ∀ i, i < cnt 24 → va_at D vwCl (adM h0 g0 u v 24 i, cE (adM h0 g0 u v) cI cT cS (x0M 24 i) 24 i) H := fun i hi => match i, hi with
  | 0, _ => hP 37 _ rfl
  | i + 1, hi => absurd (show i + 1 < 1 from hi) (by omega)
set_option maxHeartbeats 4000000 in
set_option maxRecDepth 100000 in
theorem wb_25 {D : va_G} {cI cT cS : ClassId} {h0 g0 : Nat} {u v : Nat → Nat} {H : Heap} (hP : va_P D vwCl (WB cI cT cS h0 g0 u v) H) : ∀ i, i < cnt 25 → va_at D vwCl (adM h0 g0 u v 25 i, cE (adM h0 g0 u v) cI cT cS (x0M 25 i) 25 i) H := fun i hi => match i, hi with
  | 0, _ => hP 38 _ rfl
  | i + 1, hi => absurd (show i + 1 < 1 from hi) (by omega)
set_option maxHeartbeats 4000000 in
set_option maxRecDepth 100000 in
theorem wb_26 {D : va_G} {cI cT cS : ClassId} {h0 g0 : Nat} {u v : Nat → Nat} {H : Heap} (hP : va_P D vwCl (WB cI cT cS h0 g0 u v) H) : ∀ i, i < cnt 26 → va_at D vwCl (adM h0 g0 u v 26 i, cE (adM h0 g0 u v) cI cT cS (x0M 26 i) 26 i) H := fun i hi => match i, hi with
  | 0, _ => hP 39 _ rfl
  | i + 1, hi => absurd (show i + 1 < 1 from hi) (by omega)
set_option maxHeartbeats 4000000 in
set_option maxRecDepth 100000 in
theorem wb_27 {D : va_G} {cI cT cS : ClassId} {h0 g0 : Nat} {u v : Nat → Nat} {H : Heap} (hP : va_P D vwCl (WB cI cT cS h0 g0 u v) H) : ∀ i, i < cnt 27 → va_at D vwCl (adM h0 g0 u v 27 i, cE (adM h0 g0 u v) cI cT cS (x0M 27 i) 27 i) H := fun i hi => match i, hi with
  | 0, _ => hP 40 _ rfl
  | i + 1, hi => absurd (show i + 1 < 1 from hi) (by omega)
set_option maxHeartbeats 4000000 in
set_option maxRecDepth 100000 in
theorem wb_28 {D : va_G} {cI cT cS : ClassId} {h0 g0 : Nat} {u v : Nat → Nat} {H : Heap} (hP : va_P D vwCl (WB cI cT cS h0 g0 u v) H) : ∀ i, i < cnt 28 → va_at D vwCl (adM h0 g0 u v 28 i, cE (adM h0 g0 u v) cI cT cS (x0M 28 i) 28 i) H := fun i hi => match i, hi with
  | 0, _ => hP 41 _ rfl
  | i + 1, hi => absurd (show i + 1 < 1 from hi) (by omega)
set_option maxHeartbeats 4000000 in
set_option maxRecDepth 100000 in
theorem wb_29 {D : va_G} {cI cT cS : ClassId} {h0 g0 : Nat} {u v : Nat → Nat} {H : Heap} (hP : va_P D vwCl (WB cI cT cS h0 g0 u v) H) : ∀ i, i < cnt 29 → va_at D vwCl (adM h0 g0 u v 29 i, cE (adM h0 g0 u v) cI cT cS (x0M 29 i) 29 i) H := fun i hi => match i, hi with
  | 0, _ => va_ci (hP 42 _ rfl) (fun j hj => match j, hj with | 0, _ => rfl | 1, _ => rfl | 2, _ => rfl | 3, _ => rfl | j + 4, hj => absurd hj (by omega))
  | i + 1, hi => absurd (show i + 1 < 1 from hi) (by omega)
set_option maxHeartbeats 4000000 in
set_option maxRecDepth 100000 in
theorem wb_30 {D : va_G} {cI cT cS : ClassId} {h0 g0 : Nat} {u v : Nat → Nat} {H : Heap} (hP : va_P D vwCl (WB cI cT cS h0 g0 u v) H) : ∀ i, i < cnt 30 → va_at D vwCl (adM h0 g0 u v 30 i, cE (adM h0 g0 u v) cI cT cS (x0M 30 i) 30 i) H := fun i hi => match i, hi with
  | 0, _ => hP 43 _ rfl
  | i + 1, hi => absurd (show i + 1 < 1 from hi) (by omega)
set_option maxHeartbeats 4000000 in
set_option maxRecDepth 100000 in
theorem wb_31 {D : va_G} {cI cT cS : ClassId} {h0 g0 : Nat} {u v : Nat → Nat} {H : Heap} (hP : va_P D vwCl (WB cI cT cS h0 g0 u v) H) : ∀ i, i < cnt 31 → va_at D vwCl (adM h0 g0 u v 31 i, cE (adM h0 g0 u v) cI cT cS (x0M 31 i) 31 i) H := fun i hi => match i, hi with
  | 0, _ => hP 44 _ rfl
  | i + 1, hi => absurd (show i + 1 < 1 from hi) (by omega)
set_option maxHeartbeats 4000000 in
set_option maxRecDepth 100000 in
theorem wb_32 {D : va_G} {cI cT cS : ClassId} {h0 g0 : Nat} {u v : Nat → Nat} {H : Heap} (hP : va_P D vwCl (WB cI cT cS h0 g0 u v) H) : ∀ i, i < cnt 32 → va_at D vwCl (adM h0 g0 u v 32 i, cE (adM h0 g0 u v) cI cT cS (x0M 32 i) 32 i) H := fun i hi => match i, hi with
  | 0, _ => hP 45 _ rfl
  | i + 1, hi => absurd (show i + 1 < 1 from hi) (by omega)
set_option maxHeartbeats 4000000 in
set_option maxRecDepth 100000 in
theorem wb_all {D : va_G} {cI cT cS : ClassId} {h0 g0 : Nat} {u v : Nat → Nat} {H : Heap} (hP : va_P D vwCl (WB cI cT cS h0 g0 u v) H) : va_P D vwCl (wl (adM h0 g0 u v) cI cT cS x0M) H := wl_all fun k hk => match k, hk with
  | 0, _ => wb_0 hP
  | 1, _ => wb_1 hP
  | 2, _ => wb_2 hP
  | 3, _ => wb_3 hP
  | 4, _ => wb_4 hP
  | 5, _ => wb_5 hP
  | 6, _ => wb_6 hP
  | 7, _ => wb_7 hP
  | 8, _ => wb_8 hP
  | 9, _ => wb_9 hP
  | 10, _ => wb_10 hP
  | 11, _ => wb_11 hP
  | 12, _ => wb_12 hP
  | 13, _ => wb_13 hP
  | 14, _ => wb_14 hP
  | 15, _ => wb_15 hP
  | 16, _ => wb_16 hP
  | 17, _ => wb_17 hP
  | 18, _ => wb_18 hP
  | 19, _ => wb_19 hP
  | 20, _ => wb_20 hP
  | 21, _ => wb_21 hP
  | 22, _ => wb_22 hP
  | 23, _ => wb_23 hP
  | 24, _ => wb_24 hP
  | 25, _ => wb_25 hP
  | 26, _ => wb_26 hP
  | 27, _ => wb_27 hP
  | 28, _ => wb_28 hP
  | 29, _ => wb_29 hP
  | 30, _ => wb_30 hP
  | 31, _ => wb_31 hP
  | 32, _ => wb_32 hP
  | k + 33, hk => absurd hk (by omega)
set_option maxHeartbeats 4000000 in
set_option maxRecDepth 100000 in
theorem wb_D {A : Nat → Prop} {cI cT cS : ClassId} {h0 g0 : Nat} {u v : Nat → Nat} (hD : va_D A (WB cI cT cS h0 g0 u v)) : va_D A (wl (adM h0 g0 u v) cI cT cS x0M) :=
  va_D_fst (ws := [0, 1, 18, 20, 22, 24, 19, 21, 23, 25, 2, 13, 3, 4, 5, 6, 7, 8, 9, 10, 11, 12, 14, 15, 16, 17, 26, 27, 28, 29, 30, 31, 32, 33, 34, 35, 36, 37, 38, 39, 40, 41, 42, 43, 44, 45].map (fun i => nth (WB cI cT cS h0 g0 u v) i (0, .inr (0, [])))) rfl (hD.sub [0, 1, 18, 20, 22, 24, 19, 21, 23, 25, 2, 13, 3, 4, 5, 6, 7, 8, 9, 10, 11, 12, 14, 15, 16, 17, 26, 27, 28, 29, 30, 31, 32, 33, 34, 35, 36, 37, 38, 39, 40, 41, 42, 43, 44, 45] (by decide) rfl)
