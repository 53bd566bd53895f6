theorem Tb_code {w : Cond} (i : Nat) (h : [w] = [i].filterMap (fun i => lw_tbl[i]?)) (g : goodWord w = true) : w ∈ Tb := by
  have h1 : w ∈ [i].filterMap (fun i => lw_tbl[i]?) := by rw [← h]; exact List.mem_singleton.mpr rfl
  obtain ⟨j, -, hj⟩ := List.mem_filterMap.mp h1
  exact Tb_of (List.mem_of_getElem? hj) g
theorem ini_X11 : Cond.initialized RX11 ∈ Tb := Tb_of (List.mem_of_getElem? (i := 50) (by decide +kernel)) (by decide +kernel)
theorem ini_X0 : Cond.initialized RX0 ∈ Tb := Tb_of (List.mem_of_getElem? (i := 54) (by decide +kernel)) (by decide +kernel)
theorem ini_X1 : Cond.initialized RX1 ∈ Tb := Tb_of (List.mem_of_getElem? (i := 69) (by decide +kernel)) (by decide +kernel)
theorem ini_X2 : Cond.initialized RX2 ∈ Tb := Tb_of (List.mem_of_getElem? (i := 53) (by decide +kernel)) (by decide +kernel)
theorem ini_X3 : Cond.initialized RX3 ∈ Tb := Tb_of (List.mem_of_getElem? (i := 55) (by decide +kernel)) (by decide +kernel)
theorem ini_X4 : Cond.initialized RX4 ∈ Tb := Tb_of (List.mem_of_getElem? (i := 71) (by decide +kernel)) (by decide +kernel)
theorem ini_X5 : Cond.initialized RX5 ∈ Tb := Tb_of (List.mem_of_getElem? (i := 68) (by decide +kernel)) (by decide +kernel)
theorem ini_X6 : Cond.initialized RX6 ∈ Tb := Tb_of (List.mem_of_getElem? (i := 51) (by decide +kernel)) (by decide +kernel)
theorem ini_X7 : Cond.initialized RX7 ∈ Tb := Tb_of (List.mem_of_getElem? (i := 67) (by decide +kernel)) (by decide +kernel)
theorem ini_X8 : Cond.initialized RX8 ∈ Tb := Tb_of (List.mem_of_getElem? (i := 56) (by decide +kernel)) (by decide +kernel)
theorem ini_X9 : Cond.initialized RX9 ∈ Tb := Tb_of (List.mem_of_getElem? (i := 52) (by decide +kernel)) (by decide +kernel)
theorem ini_X10 : Cond.initialized RX10 ∈ Tb := Tb_of (List.mem_of_getElem? (i := 57) (by decide +kernel)) (by decide +kernel)
theorem ini_L : Cond.initialized RL ∈ Tb := Tb_of (List.mem_of_getElem? (i := 49) (by decide +kernel)) (by decide +kernel)
theorem ini_X12 : Cond.initialized RX12 ∈ Tb := Tb_of (List.mem_of_getElem? (i := 58) (by decide +kernel)) (by decide +kernel)
theorem ini_J7 : Cond.initialized RJ7 ∈ Tb := Tb_of (List.mem_of_getElem? (i := 65) (by decide +kernel)) (by decide +kernel)
def md_X0_init : Md := (yX0_init, cX0_init, 1, none, 1, 21)
set_option maxRecDepth 100000 in
theorem w_X0_init : WI md_X0_init 0 := ⟨Tb_code 129 rfl rfl, Tb_of (List.mem_of_getElem? (i := 128) (by decide +kernel)) (by decide +kernel), ini_X0, rfl, rfl, by decide +kernel, by decide +kernel, by decide +kernel⟩
def md_X0_isFull : Md := (yX0_isFull, cX0_isFull, 1, (some .boolean), 0, 0)
set_option maxRecDepth 100000 in
theorem w_X0_isFull : WV md_X0_isFull 0 0 := ⟨Tb_code 432 rfl rfl, Tb_of (List.mem_of_getElem? (i := 430) (by decide +kernel)) (by decide +kernel), Tb_of (List.mem_of_getElem? (i := 431) (by decide +kernel)) (by decide +kernel), ini_X0, by decide +kernel, by decide +kernel, by decide +kernel, rfl⟩
def md_X0_add : Md := (yX0_add, cX0_add, 6, (some .int), 2, 82)
set_option maxRecDepth 100000 in
theorem w_X0_add : WV md_X0_add 3 0 := ⟨Tb_code 437 rfl rfl, Tb_of (List.mem_of_getElem? (i := 435) (by decide +kernel)) (by decide +kernel), Tb_of (List.mem_of_getElem? (i := 436) (by decide +kernel)) (by decide +kernel), ini_X0, by decide +kernel, by decide +kernel, by decide +kernel, rfl⟩
def md_X1_init : Md := (yX1_init, cX1_init, 2, none, 2, 41)
set_option maxRecDepth 100000 in
theorem w_X1_init : WI md_X1_init 1 := ⟨Tb_code 923 rfl rfl, Tb_of (List.mem_of_getElem? (i := 922) (by decide +kernel)) (by decide +kernel), ini_X1, rfl, rfl, by decide +kernel, by decide +kernel, by decide +kernel⟩
def md_X1_mended : Md := (yX1_mended, cX1_mended, 12, (some .long), 2, 44)
-- no selects: X1_mended
def md_X1_isDirty : Md := (yX1_isDirty, cX1_isDirty, 4, (some .boolean), 1, 21)
set_option maxRecDepth 100000 in
theorem w_X1_isDirty : WV md_X1_isDirty 3 1 := ⟨Tb_code 398 rfl rfl, Tb_of (List.mem_of_getElem? (i := 396) (by decide +kernel)) (by decide +kernel), Tb_of (List.mem_of_getElem? (i := 0) (by decide +kernel)) (by decide +kernel), ini_X1, by decide +kernel, by decide +kernel, by decide +kernel, rfl⟩
def md_X2_init : Md := (yX2_init, cX2_init, 2, none, 2, 41)
set_option maxRecDepth 100000 in
theorem w_X2_init : WI md_X2_init 0 := ⟨Tb_code 121 rfl rfl, Tb_of (List.mem_of_getElem? (i := 120) (by decide +kernel)) (by decide +kernel), ini_X2, rfl, rfl, by decide +kernel, by decide +kernel, by decide +kernel⟩
def md_X2_begin : Md := (yX2_begin, cX2_begin, 1, none, 0, 0)
set_option maxRecDepth 100000 in
theorem w_X2_begin : WV md_X2_begin 0 2 := ⟨Tb_code 877 rfl rfl, Tb_of (List.mem_of_getElem? (i := 875) (by decide +kernel)) (by decide +kernel), Tb_of (List.mem_of_getElem? (i := 876) (by decide +kernel)) (by decide +kernel), ini_X2, by decide +kernel, by decide +kernel, by decide +kernel, rfl⟩
def md_X2_take : Md := (yX2_take, cX2_take, 6, none, 1, 25)
set_option maxRecDepth 100000 in
theorem w_X2_take : WV md_X2_take 4 2 := ⟨Tb_code 885 rfl rfl, Tb_of (List.mem_of_getElem? (i := 883) (by decide +kernel)) (by decide +kernel), Tb_of (List.mem_of_getElem? (i := 884) (by decide +kernel)) (by decide +kernel), ini_X2, by decide +kernel, by decide +kernel, by decide +kernel, rfl⟩
def md_X2_gaps : Md := (yX2_gaps, cX2_gaps, 3, (some .int), 1, 20)
set_option maxRecDepth 100000 in
theorem w_X2_gaps : WV md_X2_gaps 0 2 := ⟨Tb_code 893 rfl rfl, Tb_of (List.mem_of_getElem? (i := 891) (by decide +kernel)) (by decide +kernel), Tb_of (List.mem_of_getElem? (i := 892) (by decide +kernel)) (by decide +kernel), ini_X2, by decide +kernel, by decide +kernel, by decide +kernel, rfl⟩
def md_X2_mendByNeighbours : Md := (yX2_mendByNeighbours, cX2_mendByNeighbours, 8, (some .int), 4, 131)
set_option maxRecDepth 100000 in
theorem w_X2_mendByNeighbours : WV md_X2_mendByNeighbours 1 2 := ⟨Tb_code 376 rfl rfl, Tb_of (List.mem_of_getElem? (i := 374) (by decide +kernel)) (by decide +kernel), Tb_of (List.mem_of_getElem? (i := 375) (by decide +kernel)) (by decide +kernel), ini_X2, by decide +kernel, by decide +kernel, by decide +kernel, rfl⟩
def md_X2_mendScratch : Md := (yX2_mendScratch, cX2_mendScratch, 10, (some .int), 4, 131)
set_option maxRecDepth 100000 in
theorem w_X2_mendScratch : WV md_X2_mendScratch 4 2 := ⟨Tb_code 939 rfl rfl, Tb_of (List.mem_of_getElem? (i := 937) (by decide +kernel)) (by decide +kernel), Tb_of (List.mem_of_getElem? (i := 938) (by decide +kernel)) (by decide +kernel), ini_X2, by decide +kernel, by decide +kernel, by decide +kernel, rfl⟩
def md_X2_isScratched : Md := (yX2_isScratched, cX2_isScratched, 5, (some .boolean), 1, 22)
set_option maxRecDepth 100000 in
theorem w_X2_isScratched : WS md_X2_isScratched 3 := ⟨Tb_code 942 rfl rfl, Tb_of (List.mem_of_getElem? (i := 941) (by decide +kernel)) (by decide +kernel), ini_X2, by decide +kernel, by decide +kernel, by decide +kernel⟩
def md_X2_change : Md := (yX2_change, cX2_change, 5, (some .boolean), 3, 107)
set_option maxRecDepth 100000 in
theorem w_X2_change : WV md_X2_change 2 2 := ⟨Tb_code 425 rfl rfl, Tb_of (List.mem_of_getElem? (i := 424) (by decide +kernel)) (by decide +kernel), Tb_of (List.mem_of_getElem? (i := 1) (by decide +kernel)) (by decide +kernel), ini_X2, by decide +kernel, by decide +kernel, by decide +kernel, rfl⟩
def md_X2_isOnTop : Md := (yX2_isOnTop, cX2_isOnTop, 2, (some .boolean), 0, 0)
set_option maxRecDepth 100000 in
theorem w_X2_isOnTop : WV md_X2_isOnTop 1 2 := ⟨Tb_code 956 rfl rfl, Tb_of (List.mem_of_getElem? (i := 954) (by decide +kernel)) (by decide +kernel), Tb_of (List.mem_of_getElem? (i := 955) (by decide +kernel)) (by decide +kernel), ini_X2, by decide +kernel, by decide +kernel, by decide +kernel, rfl⟩
def md_X2_undo : Md := (yX2_undo, cX2_undo, 4, (some .int), 0, 0)
set_option maxRecDepth 100000 in
theorem w_X2_undo : WV md_X2_undo 1 2 := ⟨Tb_code 960 rfl rfl, Tb_of (List.mem_of_getElem? (i := 958) (by decide +kernel)) (by decide +kernel), Tb_of (List.mem_of_getElem? (i := 959) (by decide +kernel)) (by decide +kernel), ini_X2, by decide +kernel, by decide +kernel, by decide +kernel, rfl⟩
def md_X2_checksum : Md := (yX2_checksum, cX2_checksum, 5, (some .long), 0, 0)
set_option maxRecDepth 100000 in
theorem w_X2_checksum : WV md_X2_checksum 1 2 := ⟨Tb_code 468 rfl rfl, Tb_of (List.mem_of_getElem? (i := 466) (by decide +kernel)) (by decide +kernel), Tb_of (List.mem_of_getElem? (i := 467) (by decide +kernel)) (by decide +kernel), ini_X2, by decide +kernel, by decide +kernel, by decide +kernel, rfl⟩
def md_X3_init : Md := (yX3_init, cX3_init, 1, none, 1, 21)
set_option maxRecDepth 100000 in
theorem w_X3_init : WI md_X3_init 0 := ⟨Tb_code 153 rfl rfl, Tb_of (List.mem_of_getElem? (i := 152) (by decide +kernel)) (by decide +kernel), ini_X3, rfl, rfl, by decide +kernel, by decide +kernel, by decide +kernel⟩
def md_X3_begin : Md := (yX3_begin, cX3_begin, 6, none, 0, 0)
set_option maxRecDepth 100000 in
theorem w_X3_begin : WV md_X3_begin 4 3 := ⟨Tb_code 889 rfl rfl, Tb_of (List.mem_of_getElem? (i := 887) (by decide +kernel)) (by decide +kernel), Tb_of (List.mem_of_getElem? (i := 888) (by decide +kernel)) (by decide +kernel), ini_X3, by decide +kernel, by decide +kernel, by decide +kernel, rfl⟩
def md_X3_isGap : Md := (yX3_isGap, cX3_isGap, 1, (some .boolean), 0, 0)
set_option maxRecDepth 100000 in
theorem w_X3_isGap : WV md_X3_isGap 0 3 := ⟨Tb_code 384 rfl rfl, Tb_of (List.mem_of_getElem? (i := 382) (by decide +kernel)) (by decide +kernel), Tb_of (List.mem_of_getElem? (i := 383) (by decide +kernel)) (by decide +kernel), ini_X3, by decide +kernel, by decide +kernel, by decide +kernel, rfl⟩
def md_X3_mayBeMended : Md := (yX3_mayBeMended, cX3_mayBeMended, 1, (some .boolean), 1, 20)
set_option maxRecDepth 100000 in
theorem w_X3_mayBeMended : WV md_X3_mayBeMended 0 3 := ⟨Tb_code 380 rfl rfl, Tb_of (List.mem_of_getElem? (i := 378) (by decide +kernel)) (by decide +kernel), Tb_of (List.mem_of_getElem? (i := 379) (by decide +kernel)) (by decide +kernel), ini_X3, by decide +kernel, by decide +kernel, by decide +kernel, rfl⟩
def md_X4_init : Md := (yX4_init, cX4_init, 1, none, 2, 41)
set_option maxRecDepth 100000 in
theorem w_X4_init : WI md_X4_init 0 := ⟨Tb_code 367 rfl rfl, Tb_of (List.mem_of_getElem? (i := 366) (by decide +kernel)) (by decide +kernel), ini_X4, rfl, rfl, by decide +kernel, by decide +kernel, by decide +kernel⟩
def md_X4_mended : Md := (yX4_mended, cX4_mended, 13, (some .long), 2, 45)
-- no selects: X4_mended
def md_X5_init : Md := (yX5_init, cX5_init, 1, none, 1, 21)
set_option maxRecDepth 100000 in
theorem w_X5_init : WI md_X5_init 0 := ⟨Tb_code 370 rfl rfl, Tb_of (List.mem_of_getElem? (i := 369) (by decide +kernel)) (by decide +kernel), ini_X5, rfl, rfl, by decide +kernel, by decide +kernel, by decide +kernel⟩
def md_X6_init : Md := (yX6_init, cX6_init, 1, none, 1, 21)
set_option maxRecDepth 100000 in
theorem w_X6_init : WI md_X6_init 0 := ⟨Tb_code 86 rfl rfl, Tb_of (List.mem_of_getElem? (i := 85) (by decide +kernel)) (by decide +kernel), ini_X6, rfl, rfl, by decide +kernel, by decide +kernel, by decide +kernel⟩
def md_X6_mostPairs : Md := (yX6_mostPairs, cX6_mostPairs, 6, (some .int), 3, 71)
set_option maxRecDepth 100000 in
theorem w_X6_mostPairs : WV md_X6_mostPairs 3 6 := ⟨Tb_code 714 rfl rfl, Tb_of (List.mem_of_getElem? (i := 712) (by decide +kernel)) (by decide +kernel), Tb_of (List.mem_of_getElem? (i := 713) (by decide +kernel)) (by decide +kernel), ini_X6, by decide +kernel, by decide +kernel, by decide +kernel, rfl⟩
def md_X6_partner : Md := (yX6_partner, cX6_partner, 7, (some .int), 4, 96)
set_option maxRecDepth 100000 in
theorem w_X6_partner : WV md_X6_partner 4 6 := ⟨Tb_code 733 rfl rfl, Tb_of (List.mem_of_getElem? (i := 731) (by decide +kernel)) (by decide +kernel), Tb_of (List.mem_of_getElem? (i := 732) (by decide +kernel)) (by decide +kernel), ini_X6, by decide +kernel, by decide +kernel, by decide +kernel, rfl⟩
def md_X6_canPair : Md := (yX6_canPair, cX6_canPair, 5, (some .boolean), 2, 47)
set_option maxRecDepth 100000 in
theorem w_X6_canPair : WS md_X6_canPair 5 := ⟨Tb_code 717 rfl rfl, Tb_of (List.mem_of_getElem? (i := 716) (by decide +kernel)) (by decide +kernel), ini_X6, by decide +kernel, by decide +kernel, by decide +kernel⟩
def md_X7_at : Md := (yX7_at, cX7_at, 3, (some .int), 0, 0)
set_option maxRecDepth 100000 in
theorem w_X7_at : WS md_X7_at 2 := ⟨Tb_code 393 rfl rfl, Tb_of (List.mem_of_getElem? (i := 392) (by decide +kernel)) (by decide +kernel), ini_X7, by decide +kernel, by decide +kernel, by decide +kernel⟩
def md_X7_with : Md := (yX7_with, cX7_with, 5, (some .long), 0, 0)
set_option maxRecDepth 100000 in
theorem w_X7_with : WS md_X7_with 3 := ⟨Tb_code 404 rfl rfl, Tb_of (List.mem_of_getElem? (i := 403) (by decide +kernel)) (by decide +kernel), ini_X7, by decide +kernel, by decide +kernel, by decide +kernel⟩
def md_X7_distance : Md := (yX7_distance, cX7_distance, 6, (some .int), 1, 22)
set_option maxRecDepth 100000 in
theorem w_X7_distance : WS md_X7_distance 2 := ⟨Tb_code 720 rfl rfl, Tb_of (List.mem_of_getElem? (i := 719) (by decide +kernel)) (by decide +kernel), ini_X7, by decide +kernel, by decide +kernel, by decide +kernel⟩
def md_X7_unlike : Md := (yX7_unlike, cX7_unlike, 6, (some .int), 1, 22)
set_option maxRecDepth 100000 in
theorem w_X7_unlike : WS md_X7_unlike 2 := ⟨Tb_code 428 rfl rfl, Tb_of (List.mem_of_getElem? (i := 427) (by decide +kernel)) (by decide +kernel), ini_X7, by decide +kernel, by decide +kernel, by decide +kernel⟩
def md_X7_total : Md := (yX7_total, cX7_total, 4, (some .int), 1, 22)
set_option maxRecDepth 100000 in
theorem w_X7_total : WS md_X7_total 1 := ⟨Tb_code 412 rfl rfl, Tb_of (List.mem_of_getElem? (i := 411) (by decide +kernel)) (by decide +kernel), ini_X7, by decide +kernel, by decide +kernel, by decide +kernel⟩
def md_X8_init : Md := (yX8_init, cX8_init, 1, none, 1, 21)
set_option maxRecDepth 100000 in
theorem w_X8_init : WI md_X8_init 0 := ⟨Tb_code 211 rfl rfl, Tb_of (List.mem_of_getElem? (i := 210) (by decide +kernel)) (by decide +kernel), ini_X8, rfl, rfl, by decide +kernel, by decide +kernel, by decide +kernel⟩
def md_X8_begin : Md := (yX8_begin, cX8_begin, 6, none, 1, 23)
set_option maxRecDepth 100000 in
theorem w_X8_begin : WV md_X8_begin 5 8 := ⟨Tb_code 600 rfl rfl, Tb_of (List.mem_of_getElem? (i := 598) (by decide +kernel)) (by decide +kernel), Tb_of (List.mem_of_getElem? (i := 599) (by decide +kernel)) (by decide +kernel), ini_X8, by decide +kernel, by decide +kernel, by decide +kernel, rfl⟩
def md_X8_addFrame : Md := (yX8_addFrame, cX8_addFrame, 4, none, 1, 21)
set_option maxRecDepth 100000 in
theorem w_X8_addFrame : WV md_X8_addFrame 2 8 := ⟨Tb_code 615 rfl rfl, Tb_of (List.mem_of_getElem? (i := 613) (by decide +kernel)) (by decide +kernel), Tb_of (List.mem_of_getElem? (i := 614) (by decide +kernel)) (by decide +kernel), ini_X8, by decide +kernel, by decide +kernel, by decide +kernel, rfl⟩
def md_X8_addSplice : Md := (yX8_addSplice, cX8_addSplice, 2, none, 0, 0)
set_option maxRecDepth 100000 in
theorem w_X8_addSplice : WV md_X8_addSplice 1 8 := ⟨Tb_code 628 rfl rfl, Tb_of (List.mem_of_getElem? (i := 626) (by decide +kernel)) (by decide +kernel), Tb_of (List.mem_of_getElem? (i := 627) (by decide +kernel)) (by decide +kernel), ini_X8, by decide +kernel, by decide +kernel, by decide +kernel, rfl⟩
def md_X8_printFrom : Md := (yX8_printFrom, cX8_printFrom, 3, none, 2, 44)
set_option maxRecDepth 100000 in
theorem w_X8_printFrom : WV md_X8_printFrom 1 8 := ⟨Tb_code 658 rfl rfl, Tb_of (List.mem_of_getElem? (i := 656) (by decide +kernel)) (by decide +kernel), Tb_of (List.mem_of_getElem? (i := 657) (by decide +kernel)) (by decide +kernel), ini_X8, by decide +kernel, by decide +kernel, by decide +kernel, rfl⟩
def md_X8_yearlyDecay : Md := (yX8_yearlyDecay, cX8_yearlyDecay, 2, (some .int), 1, 21)
set_option maxRecDepth 100000 in
theorem w_X8_yearlyDecay : WV md_X8_yearlyDecay 0 8 := ⟨Tb_code 643 rfl rfl, Tb_of (List.mem_of_getElem? (i := 641) (by decide +kernel)) (by decide +kernel), Tb_of (List.mem_of_getElem? (i := 642) (by decide +kernel)) (by decide +kernel), ini_X8, by decide +kernel, by decide +kernel, by decide +kernel, rfl⟩
def md_X8_canBeRead : Md := (yX8_canBeRead, cX8_canBeRead, 1, (some .boolean), 0, 0)
set_option maxRecDepth 100000 in
theorem w_X8_canBeRead : WV md_X8_canBeRead 0 8 := ⟨Tb_code 654 rfl rfl, Tb_of (List.mem_of_getElem? (i := 652) (by decide +kernel)) (by decide +kernel), Tb_of (List.mem_of_getElem? (i := 653) (by decide +kernel)) (by decide +kernel), ini_X8, by decide +kernel, by decide +kernel, by decide +kernel, rfl⟩
def md_X8_yearToCopy : Md := (yX8_yearToCopy, cX8_yearToCopy, 3, (some .int), 2, 42)
set_option maxRecDepth 100000 in
theorem w_X8_yearToCopy : WV md_X8_yearToCopy 1 8 := ⟨Tb_code 639 rfl rfl, Tb_of (List.mem_of_getElem? (i := 637) (by decide +kernel)) (by decide +kernel), Tb_of (List.mem_of_getElem? (i := 638) (by decide +kernel)) (by decide +kernel), ini_X8, by decide +kernel, by decide +kernel, by decide +kernel, rfl⟩
def md_X8_hasCode : Md := (yX8_hasCode, cX8_hasCode, 2, (some .boolean), 0, 0)
set_option maxRecDepth 100000 in
theorem w_X8_hasCode : WV md_X8_hasCode 1 8 := ⟨Tb_code 679 rfl rfl, Tb_of (List.mem_of_getElem? (i := 677) (by decide +kernel)) (by decide +kernel), Tb_of (List.mem_of_getElem? (i := 678) (by decide +kernel)) (by decide +kernel), ini_X8, by decide +kernel, by decide +kernel, by decide +kernel, rfl⟩
def md_X8_isBetterThan : Md := (yX8_isBetterThan, cX8_isBetterThan, 2, (some .boolean), 0, 0)
set_option maxRecDepth 100000 in
theorem w_X8_isBetterThan : WV md_X8_isBetterThan 1 8 := ⟨Tb_code 803 rfl rfl, Tb_of (List.mem_of_getElem? (i := 801) (by decide +kernel)) (by decide +kernel), Tb_of (List.mem_of_getElem? (i := 802) (by decide +kernel)) (by decide +kernel), ini_X8, by decide +kernel, by decide +kernel, by decide +kernel, rfl⟩
def md_X8_jumps : Md := (yX8_jumps, cX8_jumps, 3, (some .int), 0, 0)
set_option maxRecDepth 100000 in
theorem w_X8_jumps : WV md_X8_jumps 0 8 := ⟨Tb_code 671 rfl rfl, Tb_of (List.mem_of_getElem? (i := 669) (by decide +kernel)) (by decide +kernel), Tb_of (List.mem_of_getElem? (i := 670) (by decide +kernel)) (by decide +kernel), ini_X8, by decide +kernel, by decide +kernel, by decide +kernel, rfl⟩
def md_X8_missingCodes : Md := (yX8_missingCodes, cX8_missingCodes, 3, (some .int), 1, 21)
set_option maxRecDepth 100000 in
theorem w_X8_missingCodes : WV md_X8_missingCodes 0 8 := ⟨Tb_code 675 rfl rfl, Tb_of (List.mem_of_getElem? (i := 673) (by decide +kernel)) (by decide +kernel), Tb_of (List.mem_of_getElem? (i := 674) (by decide +kernel)) (by decide +kernel), ini_X8, by decide +kernel, by decide +kernel, by decide +kernel, rfl⟩
def md_X8_isFault : Md := (yX8_isFault, cX8_isFault, 2, (some .boolean), 1, 21)
set_option maxRecDepth 100000 in
theorem w_X8_isFault : WV md_X8_isFault 1 8 := ⟨Tb_code 687 rfl rfl, Tb_of (List.mem_of_getElem? (i := 685) (by decide +kernel)) (by decide +kernel), Tb_of (List.mem_of_getElem? (i := 686) (by decide +kernel)) (by decide +kernel), ini_X8, by decide +kernel, by decide +kernel, by decide +kernel, rfl⟩
def md_X8_faults : Md := (yX8_faults, cX8_faults, 3, (some .int), 2, 42)
set_option maxRecDepth 100000 in
theorem w_X8_faults : WV md_X8_faults 0 8 := ⟨Tb_code 683 rfl rfl, Tb_of (List.mem_of_getElem? (i := 681) (by decide +kernel)) (by decide +kernel), Tb_of (List.mem_of_getElem? (i := 682) (by decide +kernel)) (by decide +kernel), ini_X8, by decide +kernel, by decide +kernel, by decide +kernel, rfl⟩
def md_X8_hasFaultsOf : Md := (yX8_hasFaultsOf, cX8_hasFaultsOf, 3, (some .boolean), 2, 42)
set_option maxRecDepth 100000 in
theorem w_X8_hasFaultsOf : WV md_X8_hasFaultsOf 1 8 := ⟨Tb_code 695 rfl rfl, Tb_of (List.mem_of_getElem? (i := 693) (by decide +kernel)) (by decide +kernel), Tb_of (List.mem_of_getElem? (i := 694) (by decide +kernel)) (by decide +kernel), ini_X8, by decide +kernel, by decide +kernel, by decide +kernel, rfl⟩
def md_X9_init : Md := (yX9_init, cX9_init, 1, none, 1, 21)
set_option maxRecDepth 100000 in
theorem w_X9_init : WI md_X9_init 0 := ⟨Tb_code 101 rfl rfl, Tb_of (List.mem_of_getElem? (i := 100) (by decide +kernel)) (by decide +kernel), ini_X9, rfl, rfl, by decide +kernel, by decide +kernel, by decide +kernel⟩
def md_X9_add : Md := (yX9_add, cX9_add, 3, none, 0, 0)
set_option maxRecDepth 100000 in
theorem w_X9_add : WV md_X9_add 2 9 := ⟨Tb_code 819 rfl rfl, Tb_of (List.mem_of_getElem? (i := 817) (by decide +kernel)) (by decide +kernel), Tb_of (List.mem_of_getElem? (i := 818) (by decide +kernel)) (by decide +kernel), ini_X9, by decide +kernel, by decide +kernel, by decide +kernel, rfl⟩
def md_X9_withCode : Md := (yX9_withCode, cX9_withCode, 4, (some .int), 0, 0)
set_option maxRecDepth 100000 in
theorem w_X9_withCode : WV md_X9_withCode 1 9 := ⟨Tb_code 823 rfl rfl, Tb_of (List.mem_of_getElem? (i := 821) (by decide +kernel)) (by decide +kernel), Tb_of (List.mem_of_getElem? (i := 822) (by decide +kernel)) (by decide +kernel), ini_X9, by decide +kernel, by decide +kernel, by decide +kernel, rfl⟩
def md_X9_tintOfCodes : Md := (yX9_tintOfCodes, cX9_tintOfCodes, 6, (some .int), 1, 23)
set_option maxRecDepth 100000 in
theorem w_X9_tintOfCodes : WV md_X9_tintOfCodes 2 9 := ⟨Tb_code 834 rfl rfl, Tb_of (List.mem_of_getElem? (i := 832) (by decide +kernel)) (by decide +kernel), Tb_of (List.mem_of_getElem? (i := 833) (by decide +kernel)) (by decide +kernel), ini_X9, by decide +kernel, by decide +kernel, by decide +kernel, rfl⟩
def md_X10_init : Md := (yX10_init, cX10_init, 1, none, 1, 21)
set_option maxRecDepth 100000 in
theorem w_X10_init : WI md_X10_init 0 := ⟨Tb_code 274 rfl rfl, Tb_of (List.mem_of_getElem? (i := 273) (by decide +kernel)) (by decide +kernel), ini_X10, rfl, rfl, by decide +kernel, by decide +kernel, by decide +kernel⟩
def md_X10_begin : Md := (yX10_begin, cX10_begin, 3, none, 0, 0)
set_option maxRecDepth 100000 in
theorem w_X10_begin : WV md_X10_begin 2 10 := ⟨Tb_code 754 rfl rfl, Tb_of (List.mem_of_getElem? (i := 752) (by decide +kernel)) (by decide +kernel), Tb_of (List.mem_of_getElem? (i := 753) (by decide +kernel)) (by decide +kernel), ini_X10, by decide +kernel, by decide +kernel, by decide +kernel, rfl⟩
def md_X10_addShot : Md := (yX10_addShot, cX10_addShot, 3, none, 0, 0)
set_option maxRecDepth 100000 in
theorem w_X10_addShot : WV md_X10_addShot 2 10 := ⟨Tb_code 769 rfl rfl, Tb_of (List.mem_of_getElem? (i := 767) (by decide +kernel)) (by decide +kernel), Tb_of (List.mem_of_getElem? (i := 768) (by decide +kernel)) (by decide +kernel), ini_X10, by decide +kernel, by decide +kernel, by decide +kernel, rfl⟩
def md_X10_duration : Md := (yX10_duration, cX10_duration, 4, (some .int), 0, 0)
set_option maxRecDepth 100000 in
theorem w_X10_duration : WV md_X10_duration 0 10 := ⟨Tb_code 808 rfl rfl, Tb_of (List.mem_of_getElem? (i := 806) (by decide +kernel)) (by decide +kernel), Tb_of (List.mem_of_getElem? (i := 807) (by decide +kernel)) (by decide +kernel), ini_X10, by decide +kernel, by decide +kernel, by decide +kernel, rfl⟩
def md_X10_addRight : Md := (yX10_addRight, cX10_addRight, 5, none, 0, 0)
set_option maxRecDepth 100000 in
theorem w_X10_addRight : WV md_X10_addRight 4 10 := ⟨Tb_code 847 rfl rfl, Tb_of (List.mem_of_getElem? (i := 845) (by decide +kernel)) (by decide +kernel), Tb_of (List.mem_of_getElem? (i := 846) (by decide +kernel)) (by decide +kernel), ini_X10, by decide +kernel, by decide +kernel, by decide +kernel, rfl⟩
def md_X10_isFreeIn : Md := (yX10_isFreeIn, cX10_isFreeIn, 5, (some .boolean), 1, 22)
set_option maxRecDepth 100000 in
theorem w_X10_isFreeIn : WV md_X10_isFreeIn 2 10 := ⟨Tb_code 865 rfl rfl, Tb_of (List.mem_of_getElem? (i := 863) (by decide +kernel)) (by decide +kernel), Tb_of (List.mem_of_getElem? (i := 864) (by decide +kernel)) (by decide +kernel), ini_X10, by decide +kernel, by decide +kernel, by decide +kernel, rfl⟩
def md_X11_init : Md := (yX11_init, cX11_init, 2, none, 3, 62)
set_option maxRecDepth 100000 in
theorem w_X11_init : WI md_X11_init 0 := ⟨Tb_code 76 rfl rfl, Tb_of (List.mem_of_getElem? (i := 75) (by decide +kernel)) (by decide +kernel), ini_X11, rfl, rfl, by decide +kernel, by decide +kernel, by decide +kernel⟩
def md_X11_reel : Md := (yX11_reel, cX11_reel, 7, (some .int), 8, 132)
set_option maxRecDepth 100000 in
theorem w_X11_reel : WV md_X11_reel 5 11 := ⟨Tb_code 480 rfl rfl, Tb_of (List.mem_of_getElem? (i := 478) (by decide +kernel)) (by decide +kernel), Tb_of (List.mem_of_getElem? (i := 479) (by decide +kernel)) (by decide +kernel), ini_X11, by decide +kernel, by decide +kernel, by decide +kernel, rfl⟩
def md_X11_frame : Md := (yX11_frame, cX11_frame, 6, (some .int), 8, 132)
set_option maxRecDepth 100000 in
theorem w_X11_frame : WV md_X11_frame 4 11 := ⟨Tb_code 610 rfl rfl, Tb_of (List.mem_of_getElem? (i := 608) (by decide +kernel)) (by decide +kernel), Tb_of (List.mem_of_getElem? (i := 609) (by decide +kernel)) (by decide +kernel), ini_X11, by decide +kernel, by decide +kernel, by decide +kernel, rfl⟩
def md_X11_splice : Md := (yX11_splice, cX11_splice, 4, (some .int), 8, 132)
set_option maxRecDepth 100000 in
theorem w_X11_splice : WV md_X11_splice 2 11 := ⟨Tb_code 624 rfl rfl, Tb_of (List.mem_of_getElem? (i := 622) (by decide +kernel)) (by decide +kernel), Tb_of (List.mem_of_getElem? (i := 623) (by decide +kernel)) (by decide +kernel), ini_X11, by decide +kernel, by decide +kernel, by decide +kernel, rfl⟩
def md_X11_cold : Md := (yX11_cold, cX11_cold, 4, (some .int), 8, 132)
set_option maxRecDepth 100000 in
theorem w_X11_cold : WV md_X11_cold 2 11 := ⟨Tb_code 635 rfl rfl, Tb_of (List.mem_of_getElem? (i := 633) (by decide +kernel)) (by decide +kernel), Tb_of (List.mem_of_getElem? (i := 634) (by decide +kernel)) (by decide +kernel), ini_X11, by decide +kernel, by decide +kernel, by decide +kernel, rfl⟩
def md_X11_copy : Md := (yX11_copy, cX11_copy, 4, (some .int), 8, 132)
set_option maxRecDepth 100000 in
theorem w_X11_copy : WV md_X11_copy 1 11 := ⟨Tb_code 650 rfl rfl, Tb_of (List.mem_of_getElem? (i := 648) (by decide +kernel)) (by decide +kernel), Tb_of (List.mem_of_getElem? (i := 649) (by decide +kernel)) (by decide +kernel), ini_X11, by decide +kernel, by decide +kernel, by decide +kernel, rfl⟩
def md_X11_ofReel : Md := (yX11_ofReel, cX11_ofReel, 4, (some .int), 8, 132)
set_option maxRecDepth 100000 in
theorem w_X11_ofReel : WV md_X11_ofReel 2 11 := ⟨Tb_code 667 rfl rfl, Tb_of (List.mem_of_getElem? (i := 665) (by decide +kernel)) (by decide +kernel), Tb_of (List.mem_of_getElem? (i := 666) (by decide +kernel)) (by decide +kernel), ini_X11, by decide +kernel, by decide +kernel, by decide +kernel, rfl⟩
def md_X11_tolerance : Md := (yX11_tolerance, cX11_tolerance, 3, (some .int), 7, 110)
set_option maxRecDepth 100000 in
theorem w_X11_tolerance : WV md_X11_tolerance 1 11 := ⟨Tb_code 703 rfl rfl, Tb_of (List.mem_of_getElem? (i := 701) (by decide +kernel)) (by decide +kernel), Tb_of (List.mem_of_getElem? (i := 702) (by decide +kernel)) (by decide +kernel), ini_X11, by decide +kernel, by decide +kernel, by decide +kernel, rfl⟩
def md_X11_align : Md := (yX11_align, cX11_align, 5, (some .int), 8, 132)
set_option maxRecDepth 100000 in
theorem w_X11_align : WV md_X11_align 2 11 := ⟨Tb_code 710 rfl rfl, Tb_of (List.mem_of_getElem? (i := 708) (by decide +kernel)) (by decide +kernel), Tb_of (List.mem_of_getElem? (i := 709) (by decide +kernel)) (by decide +kernel), ini_X11, by decide +kernel, by decide +kernel, by decide +kernel, rfl⟩
def md_X11_pairOf : Md := (yX11_pairOf, cX11_pairOf, 6, (some .int), 8, 132)
set_option maxRecDepth 100000 in
theorem w_X11_pairOf : WV md_X11_pairOf 3 11 := ⟨Tb_code 729 rfl rfl, Tb_of (List.mem_of_getElem? (i := 727) (by decide +kernel)) (by decide +kernel), Tb_of (List.mem_of_getElem? (i := 728) (by decide +kernel)) (by decide +kernel), ini_X11, by decide +kernel, by decide +kernel, by decide +kernel, rfl⟩
def md_X11_alike : Md := (yX11_alike, cX11_alike, 8, (some .float), 8, 132)
set_option maxRecDepth 100000 in
theorem w_X11_alike : WV md_X11_alike 4 11 := ⟨Tb_code 741 rfl rfl, Tb_of (List.mem_of_getElem? (i := 739) (by decide +kernel)) (by decide +kernel), Tb_of (List.mem_of_getElem? (i := 740) (by decide +kernel)) (by decide +kernel), ini_X11, by decide +kernel, by decide +kernel, by decide +kernel, rfl⟩
def md_X11_version : Md := (yX11_version, cX11_version, 3, (some .int), 7, 110)
set_option maxRecDepth 100000 in
theorem w_X11_version : WV md_X11_version 2 11 := ⟨Tb_code 750 rfl rfl, Tb_of (List.mem_of_getElem? (i := 748) (by decide +kernel)) (by decide +kernel), Tb_of (List.mem_of_getElem? (i := 749) (by decide +kernel)) (by decide +kernel), ini_X11, by decide +kernel, by decide +kernel, by decide +kernel, rfl⟩
def md_X11_shot : Md := (yX11_shot, cX11_shot, 5, (some .int), 8, 132)
set_option maxRecDepth 100000 in
theorem w_X11_shot : WV md_X11_shot 3 11 := ⟨Tb_code 761 rfl rfl, Tb_of (List.mem_of_getElem? (i := 759) (by decide +kernel)) (by decide +kernel), Tb_of (List.mem_of_getElem? (i := 760) (by decide +kernel)) (by decide +kernel), ini_X11, by decide +kernel, by decide +kernel, by decide +kernel, rfl⟩
def md_X11_proof : Md := (yX11_proof, cX11_proof, 3, (some .int), 8, 132)
set_option maxRecDepth 100000 in
theorem w_X11_proof : WV md_X11_proof 1 11 := ⟨Tb_code 776 rfl rfl, Tb_of (List.mem_of_getElem? (i := 774) (by decide +kernel)) (by decide +kernel), Tb_of (List.mem_of_getElem? (i := 775) (by decide +kernel)) (by decide +kernel), ini_X11, by decide +kernel, by decide +kernel, by decide +kernel, rfl⟩
def md_X11_speed : Md := (yX11_speed, cX11_speed, 6, (some .int), 8, 132)
set_option maxRecDepth 100000 in
theorem w_X11_speed : WV md_X11_speed 3 11 := ⟨Tb_code 783 rfl rfl, Tb_of (List.mem_of_getElem? (i := 781) (by decide +kernel)) (by decide +kernel), Tb_of (List.mem_of_getElem? (i := 782) (by decide +kernel)) (by decide +kernel), ini_X11, by decide +kernel, by decide +kernel, by decide +kernel, rfl⟩
def md_X11_ofVersion : Md := (yX11_ofVersion, cX11_ofVersion, 4, (some .int), 8, 132)
set_option maxRecDepth 100000 in
theorem w_X11_ofVersion : WV md_X11_ofVersion 2 11 := ⟨Tb_code 790 rfl rfl, Tb_of (List.mem_of_getElem? (i := 788) (by decide +kernel)) (by decide +kernel), Tb_of (List.mem_of_getElem? (i := 789) (by decide +kernel)) (by decide +kernel), ini_X11, by decide +kernel, by decide +kernel, by decide +kernel, rfl⟩
def md_X11_scrap : Md := (yX11_scrap, cX11_scrap, 3, (some .int), 7, 110)
set_option maxRecDepth 100000 in
theorem w_X11_scrap : WV md_X11_scrap 2 11 := ⟨Tb_code 815 rfl rfl, Tb_of (List.mem_of_getElem? (i := 813) (by decide +kernel)) (by decide +kernel), Tb_of (List.mem_of_getElem? (i := 814) (by decide +kernel)) (by decide +kernel), ini_X11, by decide +kernel, by decide +kernel, by decide +kernel, rfl⟩
def md_X11_tint : Md := (yX11_tint, cX11_tint, 4, (some .int), 8, 132)
set_option maxRecDepth 100000 in
theorem w_X11_tint : WV md_X11_tint 2 11 := ⟨Tb_code 830 rfl rfl, Tb_of (List.mem_of_getElem? (i := 828) (by decide +kernel)) (by decide +kernel), Tb_of (List.mem_of_getElem? (i := 829) (by decide +kernel)) (by decide +kernel), ini_X11, by decide +kernel, by decide +kernel, by decide +kernel, rfl⟩
def md_X11_right : Md := (yX11_right, cX11_right, 7, (some .int), 8, 132)
set_option maxRecDepth 100000 in
theorem w_X11_right : WV md_X11_right 5 11 := ⟨Tb_code 843 rfl rfl, Tb_of (List.mem_of_getElem? (i := 841) (by decide +kernel)) (by decide +kernel), Tb_of (List.mem_of_getElem? (i := 842) (by decide +kernel)) (by decide +kernel), ini_X11, by decide +kernel, by decide +kernel, by decide +kernel, rfl⟩
def md_X11_allow : Md := (yX11_allow, cX11_allow, 6, (some .boolean), 8, 132)
set_option maxRecDepth 100000 in
theorem w_X11_allow : WV md_X11_allow 3 11 := ⟨Tb_code 854 rfl rfl, Tb_of (List.mem_of_getElem? (i := 852) (by decide +kernel)) (by decide +kernel), Tb_of (List.mem_of_getElem? (i := 853) (by decide +kernel)) (by decide +kernel), ini_X11, by decide +kernel, by decide +kernel, by decide +kernel, rfl⟩
def md_X11_mayShow : Md := (yX11_mayShow, cX11_mayShow, 5, (some .boolean), 8, 132)
set_option maxRecDepth 100000 in
theorem w_X11_mayShow : WV md_X11_mayShow 3 11 := ⟨Tb_code 861 rfl rfl, Tb_of (List.mem_of_getElem? (i := 859) (by decide +kernel)) (by decide +kernel), Tb_of (List.mem_of_getElem? (i := 860) (by decide +kernel)) (by decide +kernel), ini_X11, by decide +kernel, by decide +kernel, by decide +kernel, rfl⟩
def md_X11_edition : Md := (yX11_edition, cX11_edition, 5, (some .int), 8, 132)
set_option maxRecDepth 100000 in
theorem w_X11_edition : WV md_X11_edition 1 11 := ⟨Tb_code 873 rfl rfl, Tb_of (List.mem_of_getElem? (i := 871) (by decide +kernel)) (by decide +kernel), Tb_of (List.mem_of_getElem? (i := 872) (by decide +kernel)) (by decide +kernel), ini_X11, by decide +kernel, by decide +kernel, by decide +kernel, rfl⟩
def md_X11_protect : Md := (yX11_protect, cX11_protect, 5, (some .boolean), 8, 132)
set_option maxRecDepth 100000 in
theorem w_X11_protect : WV md_X11_protect 2 11 := ⟨Tb_code 901 rfl rfl, Tb_of (List.mem_of_getElem? (i := 899) (by decide +kernel)) (by decide +kernel), Tb_of (List.mem_of_getElem? (i := 900) (by decide +kernel)) (by decide +kernel), ini_X11, by decide +kernel, by decide +kernel, by decide +kernel, rfl⟩
def md_X11_limit : Md := (yX11_limit, cX11_limit, 3, (some .int), 7, 110)
set_option maxRecDepth 100000 in
theorem w_X11_limit : WV md_X11_limit 1 11 := ⟨Tb_code 912 rfl rfl, Tb_of (List.mem_of_getElem? (i := 910) (by decide +kernel)) (by decide +kernel), Tb_of (List.mem_of_getElem? (i := 911) (by decide +kernel)) (by decide +kernel), ini_X11, by decide +kernel, by decide +kernel, by decide +kernel, rfl⟩
def md_X11_dirt : Md := (yX11_dirt, cX11_dirt, 2, (some .int), 7, 158)
set_option maxRecDepth 100000 in
theorem w_X11_dirt : WV md_X11_dirt 1 11 := ⟨Tb_code 919 rfl rfl, Tb_of (List.mem_of_getElem? (i := 917) (by decide +kernel)) (by decide +kernel), Tb_of (List.mem_of_getElem? (i := 918) (by decide +kernel)) (by decide +kernel), ini_X11, by decide +kernel, by decide +kernel, by decide +kernel, rfl⟩
def md_X11_scratch : Md := (yX11_scratch, cX11_scratch, 5, (some .int), 7, 160)
set_option maxRecDepth 100000 in
theorem w_X11_scratch : WV md_X11_scratch 4 11 := ⟨Tb_code 935 rfl rfl, Tb_of (List.mem_of_getElem? (i := 933) (by decide +kernel)) (by decide +kernel), Tb_of (List.mem_of_getElem? (i := 934) (by decide +kernel)) (by decide +kernel), ini_X11, by decide +kernel, by decide +kernel, by decide +kernel, rfl⟩
def md_X11_flicker : Md := (yX11_flicker, cX11_flicker, 1, (some .int), 5, 158)
set_option maxRecDepth 100000 in
theorem w_X11_flicker : WV md_X11_flicker 0 11 := ⟨Tb_code 362 rfl rfl, Tb_of (List.mem_of_getElem? (i := 360) (by decide +kernel)) (by decide +kernel), Tb_of (List.mem_of_getElem? (i := 361) (by decide +kernel)) (by decide +kernel), ini_X11, by decide +kernel, by decide +kernel, by decide +kernel, rfl⟩
def md_X11_takeBack : Md := (yX11_takeBack, cX11_takeBack, 2, (some .int), 7, 111)
set_option maxRecDepth 100000 in
theorem w_X11_takeBack : WV md_X11_takeBack 1 11 := ⟨Tb_code 952 rfl rfl, Tb_of (List.mem_of_getElem? (i := 950) (by decide +kernel)) (by decide +kernel), Tb_of (List.mem_of_getElem? (i := 951) (by decide +kernel)) (by decide +kernel), ini_X11, by decide +kernel, by decide +kernel, by decide +kernel, rfl⟩
def md_X11_ofFrame : Md := (yX11_ofFrame, cX11_ofFrame, 4, (some .int), 8, 132)
set_option maxRecDepth 100000 in
theorem w_X11_ofFrame : WV md_X11_ofFrame 2 11 := ⟨Tb_code 967 rfl rfl, Tb_of (List.mem_of_getElem? (i := 965) (by decide +kernel)) (by decide +kernel), Tb_of (List.mem_of_getElem? (i := 966) (by decide +kernel)) (by decide +kernel), ini_X11, by decide +kernel, by decide +kernel, by decide +kernel, rfl⟩
def md_X11_seen : Md := (yX11_seen, cX11_seen, 2, (some .long), 8, 132)
set_option maxRecDepth 100000 in
theorem w_X11_seen : WV md_X11_seen 1 11 := ⟨Tb_code 975 rfl rfl, Tb_of (List.mem_of_getElem? (i := 973) (by decide +kernel)) (by decide +kernel), Tb_of (List.mem_of_getElem? (i := 974) (by decide +kernel)) (by decide +kernel), ini_X11, by decide +kernel, by decide +kernel, by decide +kernel, rfl⟩
def md_X11_sum : Md := (yX11_sum, cX11_sum, 2, (some .long), 1, 24)
set_option maxRecDepth 100000 in
theorem w_X11_sum : WV md_X11_sum 1 11 := ⟨Tb_code 464 rfl rfl, Tb_of (List.mem_of_getElem? (i := 462) (by decide +kernel)) (by decide +kernel), Tb_of (List.mem_of_getElem? (i := 463) (by decide +kernel)) (by decide +kernel), ini_X11, by decide +kernel, by decide +kernel, by decide +kernel, rfl⟩
def md_X11_pass : Md := (yX11_pass, cX11_pass, 3, (some .int), 7, 110)
set_option maxRecDepth 100000 in
theorem w_X11_pass : WV md_X11_pass 1 11 := ⟨Tb_code 982 rfl rfl, Tb_of (List.mem_of_getElem? (i := 980) (by decide +kernel)) (by decide +kernel), Tb_of (List.mem_of_getElem? (i := 981) (by decide +kernel)) (by decide +kernel), ini_X11, by decide +kernel, by decide +kernel, by decide +kernel, rfl⟩
def md_X11_isWithin : Md := (yX11_isWithin, cX11_isWithin, 3, (some .boolean), 0, 0)
set_option maxRecDepth 100000 in
theorem w_X11_isWithin : WS md_X11_isWithin 3 := ⟨Tb_code 558 rfl rfl, Tb_of (List.mem_of_getElem? (i := 557) (by decide +kernel)) (by decide +kernel), ini_X11, by decide +kernel, by decide +kernel, by decide +kernel⟩
def md_X11_needInRange : Md := (yX11_needInRange, cX11_needInRange, 1, none, 6, 90)
set_option maxRecDepth 100000 in
theorem w_X11_needInRange : WS md_X11_needInRange 1 := ⟨Tb_code 561 rfl rfl, Tb_of (List.mem_of_getElem? (i := 560) (by decide +kernel)) (by decide +kernel), ini_X11, by decide +kernel, by decide +kernel, by decide +kernel⟩
def md_X11_needPossible : Md := (yX11_needPossible, cX11_needPossible, 1, none, 6, 90)
set_option maxRecDepth 100000 in
theorem w_X11_needPossible : WS md_X11_needPossible 1 := ⟨Tb_code 580 rfl rfl, Tb_of (List.mem_of_getElem? (i := 579) (by decide +kernel)) (by decide +kernel), ini_X11, by decide +kernel, by decide +kernel, by decide +kernel⟩
def md_X11_needPlace : Md := (yX11_needPlace, cX11_needPlace, 2, none, 6, 90)
set_option maxRecDepth 100000 in
theorem w_X11_needPlace : WS md_X11_needPlace 2 := ⟨Tb_code 487 rfl rfl, Tb_of (List.mem_of_getElem? (i := 486) (by decide +kernel)) (by decide +kernel), ini_X11, by decide +kernel, by decide +kernel, by decide +kernel⟩
def md_X11_reelNumbered : Md := (yX11_reelNumbered, cX11_reelNumbered, 2, (some (.object "Reelrescue$Reel")), 7, 111)
set_option maxRecDepth 100000 in
theorem w_X11_reelNumbered : WV md_X11_reelNumbered 1 11 := ⟨Tb_code 484 rfl rfl, Tb_of (List.mem_of_getElem? (i := 483) (by decide +kernel)) (by decide +kernel), Tb_of (List.mem_of_getElem? (i := 2) (by decide +kernel)) (by decide +kernel), ini_X11, by decide +kernel, by decide +kernel, by decide +kernel, rfl⟩
def md_X11_versionNumbered : Md := (yX11_versionNumbered, cX11_versionNumbered, 2, (some (.object "Reelrescue$Version")), 7, 111)
set_option maxRecDepth 100000 in
theorem w_X11_versionNumbered : WV md_X11_versionNumbered 1 11 := ⟨Tb_code 765 rfl rfl, Tb_of (List.mem_of_getElem? (i := 764) (by decide +kernel)) (by decide +kernel), Tb_of (List.mem_of_getElem? (i := 5) (by decide +kernel)) (by decide +kernel), ini_X11, by decide +kernel, by decide +kernel, by decide +kernel, rfl⟩
def md_X11_editionFrameAt : Md := (yX11_editionFrameAt, cX11_editionFrameAt, 2, (some (.object "Reelrescue$EditionFrame")), 7, 111)
set_option maxRecDepth 100000 in
theorem w_X11_editionFrameAt : WV md_X11_editionFrameAt 1 11 := ⟨Tb_code 905 rfl rfl, Tb_of (List.mem_of_getElem? (i := 904) (by decide +kernel)) (by decide +kernel), Tb_of (List.mem_of_getElem? (i := 9) (by decide +kernel)) (by decide +kernel), ini_X11, by decide +kernel, by decide +kernel, by decide +kernel, rfl⟩
def md_X11_guessedParent : Md := (yX11_guessedParent, cX11_guessedParent, 8, (some .int), 3, 64)
set_option maxRecDepth 100000 in
theorem w_X11_guessedParent : WV md_X11_guessedParent 1 11 := ⟨Tb_code 691 rfl rfl, Tb_of (List.mem_of_getElem? (i := 690) (by decide +kernel)) (by decide +kernel), Tb_of (List.mem_of_getElem? (i := 4) (by decide +kernel)) (by decide +kernel), ini_X11, by decide +kernel, by decide +kernel, by decide +kernel, rfl⟩
def md_X11_bestReelWith : Md := (yX11_bestReelWith, cX11_bestReelWith, 5, (some .int), 1, 21)
set_option maxRecDepth 100000 in
theorem w_X11_bestReelWith : WV md_X11_bestReelWith 1 11 := ⟨Tb_code 798 rfl rfl, Tb_of (List.mem_of_getElem? (i := 797) (by decide +kernel)) (by decide +kernel), Tb_of (List.mem_of_getElem? (i := 7) (by decide +kernel)) (by decide +kernel), ini_X11, by decide +kernel, by decide +kernel, by decide +kernel, rfl⟩
def md_X11_codesThatCanBeRead : Md := (yX11_codesThatCanBeRead, cX11_codesThatCanBeRead, 5, (some .int), 2, 45)
set_option maxRecDepth 100000 in
theorem w_X11_codesThatCanBeRead : WV md_X11_codesThatCanBeRead 1 11 := ⟨Tb_code 794 rfl rfl, Tb_of (List.mem_of_getElem? (i := 793) (by decide +kernel)) (by decide +kernel), Tb_of (List.mem_of_getElem? (i := 6) (by decide +kernel)) (by decide +kernel), ini_X11, by decide +kernel, by decide +kernel, by decide +kernel, rfl⟩
def md_X11_takeCode : Md := (yX11_takeCode, cX11_takeCode, 4, none, 2, 50)
set_option maxRecDepth 100000 in
theorem w_X11_takeCode : WV md_X11_takeCode 1 11 := ⟨Tb_code 881 rfl rfl, Tb_of (List.mem_of_getElem? (i := 880) (by decide +kernel)) (by decide +kernel), Tb_of (List.mem_of_getElem? (i := 8) (by decide +kernel)) (by decide +kernel), ini_X11, by decide +kernel, by decide +kernel, by decide +kernel, rfl⟩
def md_X12_init : Md := (yX12_init, cX12_init, 1, none, 1, 21)
set_option maxRecDepth 100000 in
theorem w_X12_init : WI md_X12_init 0 := ⟨Tb_code 988 rfl rfl, Tb_of (List.mem_of_getElem? (i := 987) (by decide +kernel)) (by decide +kernel), ini_X12, rfl, rfl, by decide +kernel, by decide +kernel, by decide +kernel⟩
def md_X12_thrown : Md := (yX12_thrown, cX12_thrown, 1, (some .int), 0, 0)
set_option maxRecDepth 100000 in
theorem w_X12_thrown : WV md_X12_thrown 0 12 := ⟨Tb_code 1142 rfl rfl, Tb_of (List.mem_of_getElem? (i := 1140) (by decide +kernel)) (by decide +kernel), Tb_of (List.mem_of_getElem? (i := 1141) (by decide +kernel)) (by decide +kernel), ini_X12, by decide +kernel, by decide +kernel, by decide +kernel, rfl⟩
def md_X12_holds : Md := (yX12_holds, cX12_holds, 2, (some .boolean), 0, 0)
set_option maxRecDepth 100000 in
theorem w_X12_holds : WV md_X12_holds 1 12 := ⟨Tb_code 1158 rfl rfl, Tb_of (List.mem_of_getElem? (i := 1157) (by decide +kernel)) (by decide +kernel), Tb_of (List.mem_of_getElem? (i := 12) (by decide +kernel)) (by decide +kernel), ini_X12, by decide +kernel, by decide +kernel, by decide +kernel, rfl⟩
def md_X12_in : Md := (yX12_in, cX12_in, 4, (some .boolean), 0, 0)
set_option maxRecDepth 100000 in
theorem w_X12_in : WV md_X12_in 3 12 := ⟨Tb_code 1154 rfl rfl, Tb_of (List.mem_of_getElem? (i := 1153) (by decide +kernel)) (by decide +kernel), Tb_of (List.mem_of_getElem? (i := 11) (by decide +kernel)) (by decide +kernel), ini_X12, by decide +kernel, by decide +kernel, by decide +kernel, rfl⟩
def md_X12_isReel : Md := (yX12_isReel, cX12_isReel, 2, (some .boolean), 1, 23)
set_option maxRecDepth 100000 in
theorem w_X12_isReel : WV md_X12_isReel 1 12 := ⟨Tb_code 1150 rfl rfl, Tb_of (List.mem_of_getElem? (i := 1149) (by decide +kernel)) (by decide +kernel), Tb_of (List.mem_of_getElem? (i := 10) (by decide +kernel)) (by decide +kernel), ini_X12, by decide +kernel, by decide +kernel, by decide +kernel, rfl⟩
def md_X12_point : Md := (yX12_point, cX12_point, 4, (some .int), 0, 0)
set_option maxRecDepth 100000 in
theorem w_X12_point : WV md_X12_point 2 12 := ⟨Tb_code 1251 rfl rfl, Tb_of (List.mem_of_getElem? (i := 1250) (by decide +kernel)) (by decide +kernel), Tb_of (List.mem_of_getElem? (i := 28) (by decide +kernel)) (by decide +kernel), ini_X12, by decide +kernel, by decide +kernel, by decide +kernel, rfl⟩
def md_X12_apart : Md := (yX12_apart, cX12_apart, 8, (some .int), 1, 23)
set_option maxRecDepth 100000 in
theorem w_X12_apart : WV md_X12_apart 2 12 := ⟨Tb_code 1247 rfl rfl, Tb_of (List.mem_of_getElem? (i := 1246) (by decide +kernel)) (by decide +kernel), Tb_of (List.mem_of_getElem? (i := 27) (by decide +kernel)) (by decide +kernel), ini_X12, by decide +kernel, by decide +kernel, by decide +kernel, rfl⟩
def md_X12_adds : Md := (yX12_adds, cX12_adds, 6, (some .int), 0, 0)
set_option maxRecDepth 100000 in
theorem w_X12_adds : WV md_X12_adds 5 12 := ⟨Tb_code 1162 rfl rfl, Tb_of (List.mem_of_getElem? (i := 1161) (by decide +kernel)) (by decide +kernel), Tb_of (List.mem_of_getElem? (i := 13) (by decide +kernel)) (by decide +kernel), ini_X12, by decide +kernel, by decide +kernel, by decide +kernel, rfl⟩
def md_X12_reel : Md := (yX12_reel, cX12_reel, 8, (some .int), 2, 44)
set_option maxRecDepth 100000 in
theorem w_X12_reel : WV md_X12_reel 5 12 := ⟨Tb_code 1146 rfl rfl, Tb_of (List.mem_of_getElem? (i := 1144) (by decide +kernel)) (by decide +kernel), Tb_of (List.mem_of_getElem? (i := 1145) (by decide +kernel)) (by decide +kernel), ini_X12, by decide +kernel, by decide +kernel, by decide +kernel, rfl⟩
def md_X12_frame : Md := (yX12_frame, cX12_frame, 6, (some .int), 2, 44)
set_option maxRecDepth 100000 in
theorem w_X12_frame : WV md_X12_frame 4 12 := ⟨Tb_code 1166 rfl rfl, Tb_of (List.mem_of_getElem? (i := 1164) (by decide +kernel)) (by decide +kernel), Tb_of (List.mem_of_getElem? (i := 1165) (by decide +kernel)) (by decide +kernel), ini_X12, by decide +kernel, by decide +kernel, by decide +kernel, rfl⟩
def md_X12_isFrame : Md := (yX12_isFrame, cX12_isFrame, 3, (some .boolean), 2, 44)
set_option maxRecDepth 100000 in
theorem w_X12_isFrame : WV md_X12_isFrame 2 12 := ⟨Tb_code 1175 rfl rfl, Tb_of (List.mem_of_getElem? (i := 1174) (by decide +kernel)) (by decide +kernel), Tb_of (List.mem_of_getElem? (i := 14) (by decide +kernel)) (by decide +kernel), ini_X12, by decide +kernel, by decide +kernel, by decide +kernel, rfl⟩
def md_X12_splice : Md := (yX12_splice, cX12_splice, 5, (some .int), 3, 66)
set_option maxRecDepth 100000 in
theorem w_X12_splice : WV md_X12_splice 2 12 := ⟨Tb_code 1171 rfl rfl, Tb_of (List.mem_of_getElem? (i := 1169) (by decide +kernel)) (by decide +kernel), Tb_of (List.mem_of_getElem? (i := 1170) (by decide +kernel)) (by decide +kernel), ini_X12, by decide +kernel, by decide +kernel, by decide +kernel, rfl⟩
def md_X12_rate : Md := (yX12_rate, cX12_rate, 2, (some .int), 0, 0)
set_option maxRecDepth 100000 in
theorem w_X12_rate : WV md_X12_rate 1 12 := ⟨Tb_code 1183 rfl rfl, Tb_of (List.mem_of_getElem? (i := 1182) (by decide +kernel)) (by decide +kernel), Tb_of (List.mem_of_getElem? (i := 15) (by decide +kernel)) (by decide +kernel), ini_X12, by decide +kernel, by decide +kernel, by decide +kernel, rfl⟩
def md_X12_isGood : Md := (yX12_isGood, cX12_isGood, 2, (some .boolean), 0, 0)
set_option maxRecDepth 100000 in
theorem w_X12_isGood : WV md_X12_isGood 1 12 := ⟨Tb_code 1191 rfl rfl, Tb_of (List.mem_of_getElem? (i := 1190) (by decide +kernel)) (by decide +kernel), Tb_of (List.mem_of_getElem? (i := 16) (by decide +kernel)) (by decide +kernel), ini_X12, by decide +kernel, by decide +kernel, by decide +kernel, rfl⟩
def md_X12_cold : Md := (yX12_cold, cX12_cold, 4, (some .int), 2, 44)
set_option maxRecDepth 100000 in
theorem w_X12_cold : WV md_X12_cold 2 12 := ⟨Tb_code 1179 rfl rfl, Tb_of (List.mem_of_getElem? (i := 1177) (by decide +kernel)) (by decide +kernel), Tb_of (List.mem_of_getElem? (i := 1178) (by decide +kernel)) (by decide +kernel), ini_X12, by decide +kernel, by decide +kernel, by decide +kernel, rfl⟩
def md_X12_copy : Md := (yX12_copy, cX12_copy, 4, (some .int), 2, 44)
set_option maxRecDepth 100000 in
theorem w_X12_copy : WV md_X12_copy 1 12 := ⟨Tb_code 1187 rfl rfl, Tb_of (List.mem_of_getElem? (i := 1185) (by decide +kernel)) (by decide +kernel), Tb_of (List.mem_of_getElem? (i := 1186) (by decide +kernel)) (by decide +kernel), ini_X12, by decide +kernel, by decide +kernel, by decide +kernel, rfl⟩
def md_X12_firstOf : Md := (yX12_firstOf, cX12_firstOf, 4, (some .int), 0, 0)
set_option maxRecDepth 100000 in
theorem w_X12_firstOf : WV md_X12_firstOf 2 12 := ⟨Tb_code 1305 rfl rfl, Tb_of (List.mem_of_getElem? (i := 1304) (by decide +kernel)) (by decide +kernel), Tb_of (List.mem_of_getElem? (i := 34) (by decide +kernel)) (by decide +kernel), ini_X12, by decide +kernel, by decide +kernel, by decide +kernel, rfl⟩
def md_X12_marks : Md := (yX12_marks, cX12_marks, 6, none, 0, 0)
set_option maxRecDepth 100000 in
theorem w_X12_marks : WV md_X12_marks 2 12 := ⟨Tb_code 1207 rfl rfl, Tb_of (List.mem_of_getElem? (i := 1206) (by decide +kernel)) (by decide +kernel), Tb_of (List.mem_of_getElem? (i := 19) (by decide +kernel)) (by decide +kernel), ini_X12, by decide +kernel, by decide +kernel, by decide +kernel, rfl⟩
def md_X12_faulty : Md := (yX12_faulty, cX12_faulty, 4, none, 1, 25)
set_option maxRecDepth 100000 in
theorem w_X12_faulty : WV md_X12_faulty 2 12 := ⟨Tb_code 1219 rfl rfl, Tb_of (List.mem_of_getElem? (i := 1218) (by decide +kernel)) (by decide +kernel), Tb_of (List.mem_of_getElem? (i := 22) (by decide +kernel)) (by decide +kernel), ini_X12, by decide +kernel, by decide +kernel, by decide +kernel, rfl⟩
def md_X12_count : Md := (yX12_count, cX12_count, 4, (some .int), 0, 0)
set_option maxRecDepth 100000 in
theorem w_X12_count : WV md_X12_count 1 12 := ⟨Tb_code 1211 rfl rfl, Tb_of (List.mem_of_getElem? (i := 1210) (by decide +kernel)) (by decide +kernel), Tb_of (List.mem_of_getElem? (i := 20) (by decide +kernel)) (by decide +kernel), ini_X12, by decide +kernel, by decide +kernel, by decide +kernel, rfl⟩
def md_X12_missing : Md := (yX12_missing, cX12_missing, 2, (some .int), 1, 25)
set_option maxRecDepth 100000 in
theorem w_X12_missing : WV md_X12_missing 1 12 := ⟨Tb_code 1203 rfl rfl, Tb_of (List.mem_of_getElem? (i := 1202) (by decide +kernel)) (by decide +kernel), Tb_of (List.mem_of_getElem? (i := 18) (by decide +kernel)) (by decide +kernel), ini_X12, by decide +kernel, by decide +kernel, by decide +kernel, rfl⟩
def md_X12_faults : Md := (yX12_faults, cX12_faults, 2, (some .int), 2, 48)
set_option maxRecDepth 100000 in
theorem w_X12_faults : WV md_X12_faults 1 12 := ⟨Tb_code 1215 rfl rfl, Tb_of (List.mem_of_getElem? (i := 1214) (by decide +kernel)) (by decide +kernel), Tb_of (List.mem_of_getElem? (i := 21) (by decide +kernel)) (by decide +kernel), ini_X12, by decide +kernel, by decide +kernel, by decide +kernel, rfl⟩
def md_X12_jumps : Md := (yX12_jumps, cX12_jumps, 4, (some .int), 0, 0)
set_option maxRecDepth 100000 in
theorem w_X12_jumps : WV md_X12_jumps 1 12 := ⟨Tb_code 1199 rfl rfl, Tb_of (List.mem_of_getElem? (i := 1198) (by decide +kernel)) (by decide +kernel), Tb_of (List.mem_of_getElem? (i := 17) (by decide +kernel)) (by decide +kernel), ini_X12, by decide +kernel, by decide +kernel, by decide +kernel, rfl⟩
def md_X12_isWithin : Md := (yX12_isWithin, cX12_isWithin, 3, (some .boolean), 0, 0)
set_option maxRecDepth 100000 in
theorem w_X12_isWithin : WV md_X12_isWithin 0 12 := ⟨Tb_code 1227 rfl rfl, Tb_of (List.mem_of_getElem? (i := 1226) (by decide +kernel)) (by decide +kernel), Tb_of (List.mem_of_getElem? (i := 24) (by decide +kernel)) (by decide +kernel), ini_X12, by decide +kernel, by decide +kernel, by decide +kernel, rfl⟩
def md_X12_parentOf : Md := (yX12_parentOf, cX12_parentOf, 6, (some .int), 2, 48)
set_option maxRecDepth 100000 in
theorem w_X12_parentOf : WV md_X12_parentOf 1 12 := ⟨Tb_code 1223 rfl rfl, Tb_of (List.mem_of_getElem? (i := 1222) (by decide +kernel)) (by decide +kernel), Tb_of (List.mem_of_getElem? (i := 23) (by decide +kernel)) (by decide +kernel), ini_X12, by decide +kernel, by decide +kernel, by decide +kernel, rfl⟩
def md_X12_ofReel : Md := (yX12_ofReel, cX12_ofReel, 3, (some .int), 3, 73)
set_option maxRecDepth 100000 in
theorem w_X12_ofReel : WV md_X12_ofReel 2 12 := ⟨Tb_code 1195 rfl rfl, Tb_of (List.mem_of_getElem? (i := 1193) (by decide +kernel)) (by decide +kernel), Tb_of (List.mem_of_getElem? (i := 1194) (by decide +kernel)) (by decide +kernel), ini_X12, by decide +kernel, by decide +kernel, by decide +kernel, rfl⟩
def md_X12_tolerance : Md := (yX12_tolerance, cX12_tolerance, 3, (some .int), 1, 23)
set_option maxRecDepth 100000 in
theorem w_X12_tolerance : WV md_X12_tolerance 1 12 := ⟨Tb_code 1231 rfl rfl, Tb_of (List.mem_of_getElem? (i := 1229) (by decide +kernel)) (by decide +kernel), Tb_of (List.mem_of_getElem? (i := 1230) (by decide +kernel)) (by decide +kernel), ini_X12, by decide +kernel, by decide +kernel, by decide +kernel, rfl⟩
def md_X12_isPair : Md := (yX12_isPair, cX12_isPair, 5, (some .boolean), 2, 50)
set_option maxRecDepth 100000 in
theorem w_X12_isPair : WV md_X12_isPair 4 12 := ⟨Tb_code 1243 rfl rfl, Tb_of (List.mem_of_getElem? (i := 1242) (by decide +kernel)) (by decide +kernel), Tb_of (List.mem_of_getElem? (i := 26) (by decide +kernel)) (by decide +kernel), ini_X12, by decide +kernel, by decide +kernel, by decide +kernel, rfl⟩
def md_X12_pairs : Md := (yX12_pairs, cX12_pairs, 9, (some .int), 3, 74)
set_option maxRecDepth 100000 in
theorem w_X12_pairs : WV md_X12_pairs 2 12 := ⟨Tb_code 1239 rfl rfl, Tb_of (List.mem_of_getElem? (i := 1238) (by decide +kernel)) (by decide +kernel), Tb_of (List.mem_of_getElem? (i := 25) (by decide +kernel)) (by decide +kernel), ini_X12, by decide +kernel, by decide +kernel, by decide +kernel, rfl⟩
def md_X12_align : Md := (yX12_align, cX12_align, 4, (some .int), 4, 102)
set_option maxRecDepth 100000 in
theorem w_X12_align : WV md_X12_align 2 12 := ⟨Tb_code 1235 rfl rfl, Tb_of (List.mem_of_getElem? (i := 1233) (by decide +kernel)) (by decide +kernel), Tb_of (List.mem_of_getElem? (i := 1234) (by decide +kernel)) (by decide +kernel), ini_X12, by decide +kernel, by decide +kernel, by decide +kernel, rfl⟩
def md_X12_pairOf : Md := (yX12_pairOf, cX12_pairOf, 8, (some .int), 4, 102)
set_option maxRecDepth 100000 in
theorem w_X12_pairOf : WV md_X12_pairOf 3 12 := ⟨Tb_code 1255 rfl rfl, Tb_of (List.mem_of_getElem? (i := 1253) (by decide +kernel)) (by decide +kernel), Tb_of (List.mem_of_getElem? (i := 1254) (by decide +kernel)) (by decide +kernel), ini_X12, by decide +kernel, by decide +kernel, by decide +kernel, rfl⟩
def md_X12_alike : Md := (yX12_alike, cX12_alike, 5, (some .float), 3, 66)
set_option maxRecDepth 100000 in
theorem w_X12_alike : WV md_X12_alike 4 12 := ⟨Tb_code 1259 rfl rfl, Tb_of (List.mem_of_getElem? (i := 1257) (by decide +kernel)) (by decide +kernel), Tb_of (List.mem_of_getElem? (i := 1258) (by decide +kernel)) (by decide +kernel), ini_X12, by decide +kernel, by decide +kernel, by decide +kernel, rfl⟩
def md_X12_isVersion : Md := (yX12_isVersion, cX12_isVersion, 2, (some .boolean), 1, 23)
set_option maxRecDepth 100000 in
theorem w_X12_isVersion : WV md_X12_isVersion 1 12 := ⟨Tb_code 1273 rfl rfl, Tb_of (List.mem_of_getElem? (i := 1272) (by decide +kernel)) (by decide +kernel), Tb_of (List.mem_of_getElem? (i := 29) (by decide +kernel)) (by decide +kernel), ini_X12, by decide +kernel, by decide +kernel, by decide +kernel, rfl⟩
def md_X12_version : Md := (yX12_version, cX12_version, 3, (some .int), 1, 23)
set_option maxRecDepth 100000 in
theorem w_X12_version : WV md_X12_version 2 12 := ⟨Tb_code 1265 rfl rfl, Tb_of (List.mem_of_getElem? (i := 1263) (by decide +kernel)) (by decide +kernel), Tb_of (List.mem_of_getElem? (i := 1264) (by decide +kernel)) (by decide +kernel), ini_X12, by decide +kernel, by decide +kernel, by decide +kernel, rfl⟩
def md_X12_codes : Md := (yX12_codes, cX12_codes, 4, (some .int), 0, 0)
set_option maxRecDepth 100000 in
theorem w_X12_codes : WV md_X12_codes 1 12 := ⟨Tb_code 1277 rfl rfl, Tb_of (List.mem_of_getElem? (i := 1276) (by decide +kernel)) (by decide +kernel), Tb_of (List.mem_of_getElem? (i := 30) (by decide +kernel)) (by decide +kernel), ini_X12, by decide +kernel, by decide +kernel, by decide +kernel, rfl⟩
def md_X12_shot : Md := (yX12_shot, cX12_shot, 7, (some .int), 2, 44)
set_option maxRecDepth 100000 in
theorem w_X12_shot : WV md_X12_shot 3 12 := ⟨Tb_code 1269 rfl rfl, Tb_of (List.mem_of_getElem? (i := 1267) (by decide +kernel)) (by decide +kernel), Tb_of (List.mem_of_getElem? (i := 1268) (by decide +kernel)) (by decide +kernel), ini_X12, by decide +kernel, by decide +kernel, by decide +kernel, rfl⟩
def md_X12_proof : Md := (yX12_proof, cX12_proof, 2, (some .int), 2, 44)
set_option maxRecDepth 100000 in
theorem w_X12_proof : WV md_X12_proof 1 12 := ⟨Tb_code 1281 rfl rfl, Tb_of (List.mem_of_getElem? (i := 1279) (by decide +kernel)) (by decide +kernel), Tb_of (List.mem_of_getElem? (i := 1280) (by decide +kernel)) (by decide +kernel), ini_X12, by decide +kernel, by decide +kernel, by decide +kernel, rfl⟩
def md_X12_isShot : Md := (yX12_isShot, cX12_isShot, 3, (some .boolean), 2, 44)
set_option maxRecDepth 100000 in
theorem w_X12_isShot : WV md_X12_isShot 2 12 := ⟨Tb_code 1289 rfl rfl, Tb_of (List.mem_of_getElem? (i := 1288) (by decide +kernel)) (by decide +kernel), Tb_of (List.mem_of_getElem? (i := 31) (by decide +kernel)) (by decide +kernel), ini_X12, by decide +kernel, by decide +kernel, by decide +kernel, rfl⟩
def md_X12_speed : Md := (yX12_speed, cX12_speed, 5, (some .int), 3, 66)
set_option maxRecDepth 100000 in
theorem w_X12_speed : WV md_X12_speed 3 12 := ⟨Tb_code 1285 rfl rfl, Tb_of (List.mem_of_getElem? (i := 1283) (by decide +kernel)) (by decide +kernel), Tb_of (List.mem_of_getElem? (i := 1284) (by decide +kernel)) (by decide +kernel), ini_X12, by decide +kernel, by decide +kernel, by decide +kernel, rfl⟩
def md_X12_reelFor : Md := (yX12_reelFor, cX12_reelFor, 6, (some .int), 1, 23)
set_option maxRecDepth 100000 in
theorem w_X12_reelFor : WV md_X12_reelFor 1 12 := ⟨Tb_code 1301 rfl rfl, Tb_of (List.mem_of_getElem? (i := 1300) (by decide +kernel)) (by decide +kernel), Tb_of (List.mem_of_getElem? (i := 33) (by decide +kernel)) (by decide +kernel), ini_X12, by decide +kernel, by decide +kernel, by decide +kernel, rfl⟩
def md_X12_had : Md := (yX12_had, cX12_had, 5, (some .int), 2, 48)
set_option maxRecDepth 100000 in
theorem w_X12_had : WV md_X12_had 1 12 := ⟨Tb_code 1297 rfl rfl, Tb_of (List.mem_of_getElem? (i := 1296) (by decide +kernel)) (by decide +kernel), Tb_of (List.mem_of_getElem? (i := 32) (by decide +kernel)) (by decide +kernel), ini_X12, by decide +kernel, by decide +kernel, by decide +kernel, rfl⟩
def md_X12_lasts : Md := (yX12_lasts, cX12_lasts, 4, (some .int), 0, 0)
set_option maxRecDepth 100000 in
theorem w_X12_lasts : WV md_X12_lasts 1 12 := ⟨Tb_code 1309 rfl rfl, Tb_of (List.mem_of_getElem? (i := 1308) (by decide +kernel)) (by decide +kernel), Tb_of (List.mem_of_getElem? (i := 35) (by decide +kernel)) (by decide +kernel), ini_X12, by decide +kernel, by decide +kernel, by decide +kernel, rfl⟩
def md_X12_ofVersion : Md := (yX12_ofVersion, cX12_ofVersion, 3, (some .int), 3, 72)
set_option maxRecDepth 100000 in
theorem w_X12_ofVersion : WV md_X12_ofVersion 2 12 := ⟨Tb_code 1293 rfl rfl, Tb_of (List.mem_of_getElem? (i := 1291) (by decide +kernel)) (by decide +kernel), Tb_of (List.mem_of_getElem? (i := 1292) (by decide +kernel)) (by decide +kernel), ini_X12, by decide +kernel, by decide +kernel, by decide +kernel, rfl⟩
def md_X12_scrap : Md := (yX12_scrap, cX12_scrap, 5, (some .int), 1, 23)
set_option maxRecDepth 100000 in
theorem w_X12_scrap : WV md_X12_scrap 2 12 := ⟨Tb_code 1313 rfl rfl, Tb_of (List.mem_of_getElem? (i := 1311) (by decide +kernel)) (by decide +kernel), Tb_of (List.mem_of_getElem? (i := 1312) (by decide +kernel)) (by decide +kernel), ini_X12, by decide +kernel, by decide +kernel, by decide +kernel, rfl⟩
def md_X12_tint : Md := (yX12_tint, cX12_tint, 5, (some .int), 3, 66)
set_option maxRecDepth 100000 in
theorem w_X12_tint : WV md_X12_tint 2 12 := ⟨Tb_code 1317 rfl rfl, Tb_of (List.mem_of_getElem? (i := 1315) (by decide +kernel)) (by decide +kernel), Tb_of (List.mem_of_getElem? (i := 1316) (by decide +kernel)) (by decide +kernel), ini_X12, by decide +kernel, by decide +kernel, by decide +kernel, rfl⟩
def md_X12_right : Md := (yX12_right, cX12_right, 10, (some .int), 2, 44)
set_option maxRecDepth 100000 in
theorem w_X12_right : WV md_X12_right 5 12 := ⟨Tb_code 1321 rfl rfl, Tb_of (List.mem_of_getElem? (i := 1319) (by decide +kernel)) (by decide +kernel), Tb_of (List.mem_of_getElem? (i := 1320) (by decide +kernel)) (by decide +kernel), ini_X12, by decide +kernel, by decide +kernel, by decide +kernel, rfl⟩
def md_X12_allow : Md := (yX12_allow, cX12_allow, 5, (some .boolean), 2, 44)
set_option maxRecDepth 100000 in
theorem w_X12_allow : WV md_X12_allow 3 12 := ⟨Tb_code 1325 rfl rfl, Tb_of (List.mem_of_getElem? (i := 1323) (by decide +kernel)) (by decide +kernel), Tb_of (List.mem_of_getElem? (i := 1324) (by decide +kernel)) (by decide +kernel), ini_X12, by decide +kernel, by decide +kernel, by decide +kernel, rfl⟩
def md_X12_mayShow : Md := (yX12_mayShow, cX12_mayShow, 6, (some .boolean), 2, 44)
set_option maxRecDepth 100000 in
theorem w_X12_mayShow : WV md_X12_mayShow 3 12 := ⟨Tb_code 1329 rfl rfl, Tb_of (List.mem_of_getElem? (i := 1327) (by decide +kernel)) (by decide +kernel), Tb_of (List.mem_of_getElem? (i := 1328) (by decide +kernel)) (by decide +kernel), ini_X12, by decide +kernel, by decide +kernel, by decide +kernel, rfl⟩
def md_X12_edition : Md := (yX12_edition, cX12_edition, 6, (some .int), 2, 48)
set_option maxRecDepth 100000 in
theorem w_X12_edition : WV md_X12_edition 1 12 := ⟨Tb_code 1333 rfl rfl, Tb_of (List.mem_of_getElem? (i := 1331) (by decide +kernel)) (by decide +kernel), Tb_of (List.mem_of_getElem? (i := 1332) (by decide +kernel)) (by decide +kernel), ini_X12, by decide +kernel, by decide +kernel, by decide +kernel, rfl⟩
def md_X12_isPlace : Md := (yX12_isPlace, cX12_isPlace, 2, (some .boolean), 1, 23)
set_option maxRecDepth 100000 in
theorem w_X12_isPlace : WV md_X12_isPlace 1 12 := ⟨Tb_code 1341 rfl rfl, Tb_of (List.mem_of_getElem? (i := 1340) (by decide +kernel)) (by decide +kernel), Tb_of (List.mem_of_getElem? (i := 36) (by decide +kernel)) (by decide +kernel), ini_X12, by decide +kernel, by decide +kernel, by decide +kernel, rfl⟩
def md_X12_protect : Md := (yX12_protect, cX12_protect, 4, (some .boolean), 2, 44)
set_option maxRecDepth 100000 in
theorem w_X12_protect : WV md_X12_protect 2 12 := ⟨Tb_code 1337 rfl rfl, Tb_of (List.mem_of_getElem? (i := 1335) (by decide +kernel)) (by decide +kernel), Tb_of (List.mem_of_getElem? (i := 1336) (by decide +kernel)) (by decide +kernel), ini_X12, by decide +kernel, by decide +kernel, by decide +kernel, rfl⟩
def md_X12_limit : Md := (yX12_limit, cX12_limit, 3, (some .int), 1, 23)
set_option maxRecDepth 100000 in
theorem w_X12_limit : WV md_X12_limit 1 12 := ⟨Tb_code 1345 rfl rfl, Tb_of (List.mem_of_getElem? (i := 1343) (by decide +kernel)) (by decide +kernel), Tb_of (List.mem_of_getElem? (i := 1344) (by decide +kernel)) (by decide +kernel), ini_X12, by decide +kernel, by decide +kernel, by decide +kernel, rfl⟩
def md_X12_isFree : Md := (yX12_isFree, cX12_isFree, 2, (some .boolean), 2, 44)
set_option maxRecDepth 100000 in
theorem w_X12_isFree : WV md_X12_isFree 1 12 := ⟨Tb_code 1361 rfl rfl, Tb_of (List.mem_of_getElem? (i := 1360) (by decide +kernel)) (by decide +kernel), Tb_of (List.mem_of_getElem? (i := 39) (by decide +kernel)) (by decide +kernel), ini_X12, by decide +kernel, by decide +kernel, by decide +kernel, rfl⟩
def md_X12_hasBoth : Md := (yX12_hasBoth, cX12_hasBoth, 2, (some .boolean), 3, 65)
set_option maxRecDepth 100000 in
theorem w_X12_hasBoth : WV md_X12_hasBoth 1 12 := ⟨Tb_code 1357 rfl rfl, Tb_of (List.mem_of_getElem? (i := 1356) (by decide +kernel)) (by decide +kernel), Tb_of (List.mem_of_getElem? (i := 38) (by decide +kernel)) (by decide +kernel), ini_X12, by decide +kernel, by decide +kernel, by decide +kernel, rfl⟩
def md_X12_unlike : Md := (yX12_unlike, cX12_unlike, 7, (some .int), 1, 23)
set_option maxRecDepth 100000 in
theorem w_X12_unlike : WV md_X12_unlike 2 12 := ⟨Tb_code 1383 rfl rfl, Tb_of (List.mem_of_getElem? (i := 1382) (by decide +kernel)) (by decide +kernel), Tb_of (List.mem_of_getElem? (i := 44) (by decide +kernel)) (by decide +kernel), ini_X12, by decide +kernel, by decide +kernel, by decide +kernel, rfl⟩
def md_X12_changes : Md := (yX12_changes, cX12_changes, 4, (some .int), 2, 49)
set_option maxRecDepth 100000 in
theorem w_X12_changes : WV md_X12_changes 2 12 := ⟨Tb_code 1379 rfl rfl, Tb_of (List.mem_of_getElem? (i := 1378) (by decide +kernel)) (by decide +kernel), Tb_of (List.mem_of_getElem? (i := 43) (by decide +kernel)) (by decide +kernel), ini_X12, by decide +kernel, by decide +kernel, by decide +kernel, rfl⟩
def md_X12_keep : Md := (yX12_keep, cX12_keep, 2, none, 0, 0)
set_option maxRecDepth 100000 in
theorem w_X12_keep : WV md_X12_keep 0 12 := ⟨Tb_code 1353 rfl rfl, Tb_of (List.mem_of_getElem? (i := 1352) (by decide +kernel)) (by decide +kernel), Tb_of (List.mem_of_getElem? (i := 37) (by decide +kernel)) (by decide +kernel), ini_X12, by decide +kernel, by decide +kernel, by decide +kernel, rfl⟩
def md_X12_between : Md := (yX12_between, cX12_between, 3, (some .int), 0, 0)
set_option maxRecDepth 100000 in
theorem w_X12_between : WV md_X12_between 2 12 := ⟨Tb_code 1369 rfl rfl, Tb_of (List.mem_of_getElem? (i := 1368) (by decide +kernel)) (by decide +kernel), Tb_of (List.mem_of_getElem? (i := 41) (by decide +kernel)) (by decide +kernel), ini_X12, by decide +kernel, by decide +kernel, by decide +kernel, rfl⟩
def md_X12_set : Md := (yX12_set, cX12_set, 5, (some .long), 0, 0)
set_option maxRecDepth 100000 in
theorem w_X12_set : WV md_X12_set 3 12 := ⟨Tb_code 1373 rfl rfl, Tb_of (List.mem_of_getElem? (i := 1372) (by decide +kernel)) (by decide +kernel), Tb_of (List.mem_of_getElem? (i := 42) (by decide +kernel)) (by decide +kernel), ini_X12, by decide +kernel, by decide +kernel, by decide +kernel, rfl⟩
def md_X12_cleaned : Md := (yX12_cleaned, cX12_cleaned, 9, (some .long), 1, 24)
set_option maxRecDepth 100000 in
theorem w_X12_cleaned : WV md_X12_cleaned 2 12 := ⟨Tb_code 1365 rfl rfl, Tb_of (List.mem_of_getElem? (i := 1364) (by decide +kernel)) (by decide +kernel), Tb_of (List.mem_of_getElem? (i := 40) (by decide +kernel)) (by decide +kernel), ini_X12, by decide +kernel, by decide +kernel, by decide +kernel, rfl⟩
def md_X12_dirt : Md := (yX12_dirt, cX12_dirt, 4, (some .int), 4, 86)
set_option maxRecDepth 100000 in
theorem w_X12_dirt : WV md_X12_dirt 1 12 := ⟨Tb_code 1349 rfl rfl, Tb_of (List.mem_of_getElem? (i := 1347) (by decide +kernel)) (by decide +kernel), Tb_of (List.mem_of_getElem? (i := 1348) (by decide +kernel)) (by decide +kernel), ini_X12, by decide +kernel, by decide +kernel, by decide +kernel, rfl⟩
def md_X12_scratch : Md := (yX12_scratch, cX12_scratch, 11, (some .int), 3, 72)
set_option maxRecDepth 100000 in
theorem w_X12_scratch : WV md_X12_scratch 4 12 := ⟨Tb_code 1387 rfl rfl, Tb_of (List.mem_of_getElem? (i := 1385) (by decide +kernel)) (by decide +kernel), Tb_of (List.mem_of_getElem? (i := 1386) (by decide +kernel)) (by decide +kernel), ini_X12, by decide +kernel, by decide +kernel, by decide +kernel, rfl⟩
def md_X12_sumOf : Md := (yX12_sumOf, cX12_sumOf, 5, (some .int), 1, 23)
set_option maxRecDepth 100000 in
theorem w_X12_sumOf : WV md_X12_sumOf 1 12 := ⟨Tb_code 1399 rfl rfl, Tb_of (List.mem_of_getElem? (i := 1398) (by decide +kernel)) (by decide +kernel), Tb_of (List.mem_of_getElem? (i := 46) (by decide +kernel)) (by decide +kernel), ini_X12, by decide +kernel, by decide +kernel, by decide +kernel, rfl⟩
def md_X12_levelled : Md := (yX12_levelled, cX12_levelled, 7, (some .long), 2, 47)
set_option maxRecDepth 100000 in
theorem w_X12_levelled : WV md_X12_levelled 1 12 := ⟨Tb_code 1395 rfl rfl, Tb_of (List.mem_of_getElem? (i := 1394) (by decide +kernel)) (by decide +kernel), Tb_of (List.mem_of_getElem? (i := 45) (by decide +kernel)) (by decide +kernel), ini_X12, by decide +kernel, by decide +kernel, by decide +kernel, rfl⟩
def md_X12_flicker : Md := (yX12_flicker, cX12_flicker, 3, (some .int), 4, 86)
set_option maxRecDepth 100000 in
theorem w_X12_flicker : WV md_X12_flicker 0 12 := ⟨Tb_code 1391 rfl rfl, Tb_of (List.mem_of_getElem? (i := 1389) (by decide +kernel)) (by decide +kernel), Tb_of (List.mem_of_getElem? (i := 1390) (by decide +kernel)) (by decide +kernel), ini_X12, by decide +kernel, by decide +kernel, by decide +kernel, rfl⟩
def md_X12_isLast : Md := (yX12_isLast, cX12_isLast, 4, (some .boolean), 0, 0)
set_option maxRecDepth 100000 in
theorem w_X12_isLast : WV md_X12_isLast 1 12 := ⟨Tb_code 1407 rfl rfl, Tb_of (List.mem_of_getElem? (i := 1406) (by decide +kernel)) (by decide +kernel), Tb_of (List.mem_of_getElem? (i := 47) (by decide +kernel)) (by decide +kernel), ini_X12, by decide +kernel, by decide +kernel, by decide +kernel, rfl⟩
def md_X12_takeBack : Md := (yX12_takeBack, cX12_takeBack, 3, (some .int), 1, 23)
set_option maxRecDepth 100000 in
theorem w_X12_takeBack : WV md_X12_takeBack 1 12 := ⟨Tb_code 1403 rfl rfl, Tb_of (List.mem_of_getElem? (i := 1401) (by decide +kernel)) (by decide +kernel), Tb_of (List.mem_of_getElem? (i := 1402) (by decide +kernel)) (by decide +kernel), ini_X12, by decide +kernel, by decide +kernel, by decide +kernel, rfl⟩
def md_X12_changesOf : Md := (yX12_changesOf, cX12_changesOf, 4, (some .int), 0, 0)
set_option maxRecDepth 100000 in
theorem w_X12_changesOf : WV md_X12_changesOf 1 12 := ⟨Tb_code 1415 rfl rfl, Tb_of (List.mem_of_getElem? (i := 1414) (by decide +kernel)) (by decide +kernel), Tb_of (List.mem_of_getElem? (i := 48) (by decide +kernel)) (by decide +kernel), ini_X12, by decide +kernel, by decide +kernel, by decide +kernel, rfl⟩
def md_X12_ofFrame : Md := (yX12_ofFrame, cX12_ofFrame, 3, (some .int), 2, 49)
set_option maxRecDepth 100000 in
theorem w_X12_ofFrame : WV md_X12_ofFrame 2 12 := ⟨Tb_code 1411 rfl rfl, Tb_of (List.mem_of_getElem? (i := 1409) (by decide +kernel)) (by decide +kernel), Tb_of (List.mem_of_getElem? (i := 1410) (by decide +kernel)) (by decide +kernel), ini_X12, by decide +kernel, by decide +kernel, by decide +kernel, rfl⟩
def md_X12_seen : Md := (yX12_seen, cX12_seen, 2, (some .long), 2, 44)
set_option maxRecDepth 100000 in
theorem w_X12_seen : WV md_X12_seen 1 12 := ⟨Tb_code 1419 rfl rfl, Tb_of (List.mem_of_getElem? (i := 1417) (by decide +kernel)) (by decide +kernel), Tb_of (List.mem_of_getElem? (i := 1418) (by decide +kernel)) (by decide +kernel), ini_X12, by decide +kernel, by decide +kernel, by decide +kernel, rfl⟩
def md_X12_sum : Md := (yX12_sum, cX12_sum, 5, (some .long), 1, 21)
set_option maxRecDepth 100000 in
theorem w_X12_sum : WV md_X12_sum 1 12 := ⟨Tb_code 1423 rfl rfl, Tb_of (List.mem_of_getElem? (i := 1421) (by decide +kernel)) (by decide +kernel), Tb_of (List.mem_of_getElem? (i := 1422) (by decide +kernel)) (by decide +kernel), ini_X12, by decide +kernel, by decide +kernel, by decide +kernel, rfl⟩
def md_X12_pass : Md := (yX12_pass, cX12_pass, 3, (some .int), 1, 23)
set_option maxRecDepth 100000 in
theorem w_X12_pass : WV md_X12_pass 1 12 := ⟨Tb_code 1429 rfl rfl, Tb_of (List.mem_of_getElem? (i := 1427) (by decide +kernel)) (by decide +kernel), Tb_of (List.mem_of_getElem? (i := 1428) (by decide +kernel)) (by decide +kernel), ini_X12, by decide +kernel, by decide +kernel, by decide +kernel, rfl⟩
def md_J7_fill_53178 : Md := (yJ7_fill_53178, cJ7_fill_53178, 4, none, 0, 0)
set_option maxRecDepth 100000 in
theorem w_J7_fill_53178 : WS md_J7_fill_53178 2 := ⟨Tb_code 603 rfl rfl, Tb_of (List.mem_of_getElem? (i := 602) (by decide +kernel)) (by decide +kernel), ini_J7, by decide +kernel, by decide +kernel, by decide +kernel⟩
def md_J7_copyOf_59c91 : Md := (yJ7_copyOf_59c91, cJ7_copyOf_59c91, 3, (some (.array .int)), 1, 60)
set_option maxRecDepth 100000 in
theorem w_J7_copyOf_59c91 : WS md_J7_copyOf_59c91 2 := ⟨Tb_code 441 rfl rfl, Tb_of (List.mem_of_getElem? (i := 440) (by decide +kernel)) (by decide +kernel), ini_J7, by decide +kernel, by decide +kernel, by decide +kernel⟩
def md_J7_copyOf_c38d5 : Md := (yJ7_copyOf_c38d5, cJ7_copyOf_c38d5, 3, (some (.array .long)), 1, 60)
set_option maxRecDepth 100000 in
theorem w_J7_copyOf_c38d5 : WS md_J7_copyOf_c38d5 2 := ⟨Tb_code 455 rfl rfl, Tb_of (List.mem_of_getElem? (i := 454) (by decide +kernel)) (by decide +kernel), ini_J7, by decide +kernel, by decide +kernel, by decide +kernel⟩
theorem ml_X0_3 : Cond.methodLink RX0 3 ⟨"java/lang/Object", "<init>", "()V"⟩ ∈ Tb := Tb_of (List.mem_of_getElem? (i := 130) (by decide +kernel)) (by decide +kernel)
theorem fl_X0_9 : Cond.fieldLink RX0 9 (TX0 1).1 (TX0 1).2.1 (TX0 1).2.2.1 ∈ Tb := Tb_of (List.mem_of_getElem? (i := 134) (by decide +kernel)) (by decide +kernel)
theorem fl_X0_15 : Cond.fieldLink RX0 15 (TX0 2).1 (TX0 2).2.1 (TX0 2).2.2.1 ∈ Tb := Tb_of (List.mem_of_getElem? (i := 136) (by decide +kernel)) (by decide +kernel)
theorem fl_X0_19 : Cond.fieldLink RX0 19 (TX0 3).1 (TX0 3).2.1 (TX0 3).2.2.1 ∈ Tb := Tb_of (List.mem_of_getElem? (i := 138) (by decide +kernel)) (by decide +kernel)
theorem fl_X0_22 : Cond.fieldLink RX0 22 (TX0 0).1 (TX0 0).2.1 (TX0 0).2.2.1 ∈ Tb := Tb_of (List.mem_of_getElem? (i := 131) (by decide +kernel)) (by decide +kernel)
theorem kc_X0_26 : Cond.constant RX0 26 (iI 61440) ∈ Tb := Tb_of (List.mem_of_getElem? (i := 433) (by decide +kernel)) (by decide +kernel)
theorem ml_X0_27 : Cond.methodLink RX0 27 ⟨"java/lang/Math", "min", "(II)I"⟩ ∈ Tb := Tb_of (List.mem_of_getElem? (i := 438) (by decide +kernel)) (by decide +kernel)
theorem ml_X0_33 : Cond.methodLink RX0 33 md_J7_copyOf_59c91.1 ∈ Tb := Tb_of (List.mem_of_getElem? (i := 439) (by decide +kernel)) (by decide +kernel)
theorem ml_X0_39 : Cond.methodLink RX0 39 md_J7_copyOf_c38d5.1 ∈ Tb := Tb_of (List.mem_of_getElem? (i := 453) (by decide +kernel)) (by decide +kernel)
theorem ml_X1_3 : Cond.methodLinkNest RX1 3 md_X5_init.1 "Reelrescue" ∈ lw_tbl := List.mem_of_getElem? (i := 924) (by decide +kernel)
theorem fl_X1_9 : Cond.fieldLink RX1 9 (TX1 0).1 (TX1 0).2.1 (TX1 0).2.2.1 ∈ Tb := Tb_of (List.mem_of_getElem? (i := 925) (by decide +kernel)) (by decide +kernel)
theorem ml_X1_15 : Cond.methodLink RX1 15 md_X7_at.1 ∈ Tb := Tb_of (List.mem_of_getElem? (i := 391) (by decide +kernel)) (by decide +kernel)
theorem ml_X1_21 : Cond.methodLink RX1 21 md_X1_isDirty.1 ∈ Tb := Tb_of (List.mem_of_getElem? (i := 394) (by decide +kernel)) (by decide +kernel)
theorem ml_X1_25 : Cond.methodLink RX1 25 md_X7_with.1 ∈ Tb := Tb_of (List.mem_of_getElem? (i := 402) (by decide +kernel)) (by decide +kernel)
theorem ml_X1_29 : Cond.methodLink RX1 29 ⟨"java/lang/Math", "abs", "(I)I"⟩ ∈ Tb := Tb_of (List.mem_of_getElem? (i := 399) (by decide +kernel)) (by decide +kernel)
theorem ml_X2_3 : Cond.methodLink RX2 3 ⟨"java/lang/Object", "<init>", "()V"⟩ ∈ Tb := Tb_of (List.mem_of_getElem? (i := 122) (by decide +kernel)) (by decide +kernel)
theorem fl_X2_9 : Cond.fieldLink RX2 9 (TX2 1).1 (TX2 1).2.1 (TX2 1).2.2.1 ∈ Tb := Tb_of (List.mem_of_getElem? (i := 193) (by decide +kernel)) (by decide +kernel)
theorem kl_X2_15 : Cond.classLink RX2 15 "Reelrescue$EditionFrame" ∈ Tb := Tb_of (List.mem_of_getElem? (i := 123) (by decide +kernel)) (by decide +kernel)
theorem fl_X2_17 : Cond.fieldLink RX2 17 (TX2 2).1 (TX2 2).2.1 (TX2 2).2.2.1 ∈ Tb := Tb_of (List.mem_of_getElem? (i := 195) (by decide +kernel)) (by decide +kernel)
theorem kl_X2_21 : Cond.classLink RX2 21 "Reelrescue$Changes" ∈ Tb := Tb_of (List.mem_of_getElem? (i := 125) (by decide +kernel)) (by decide +kernel)
theorem ml_X2_23 : Cond.methodLinkNest RX2 23 md_X0_init.1 "Reelrescue" ∈ lw_tbl := List.mem_of_getElem? (i := 127) (by decide +kernel)
theorem fl_X2_24 : Cond.fieldLink RX2 24 (TX2 3).1 (TX2 3).2.1 (TX2 3).2.2.1 ∈ Tb := Tb_of (List.mem_of_getElem? (i := 197) (by decide +kernel)) (by decide +kernel)
theorem ml_X2_28 : Cond.methodLinkNest RX2 28 md_X3_init.1 "Reelrescue" ∈ lw_tbl := List.mem_of_getElem? (i := 151) (by decide +kernel)
theorem fl_X2_29 : Cond.fieldLink RX2 29 (TX2 0).1 (TX2 0).2.1 (TX2 0).2.2.1 ∈ Tb := Tb_of (List.mem_of_getElem? (i := 191) (by decide +kernel)) (by decide +kernel)
theorem fl_X2_32 : Cond.fieldLink RX2 32 (TX0 0).1 (TX0 0).2.1 (TX0 0).2.2.1 ∈ Tb := Tb_of (List.mem_of_getElem? (i := 132) (by decide +kernel)) (by decide +kernel)
theorem ml_X2_33 : Cond.methodLink RX2 33 md_X3_begin.1 ∈ Tb := Tb_of (List.mem_of_getElem? (i := 886) (by decide +kernel)) (by decide +kernel)
theorem ml_X2_37 : Cond.methodLink RX2 37 md_X3_isGap.1 ∈ Tb := Tb_of (List.mem_of_getElem? (i := 894) (by decide +kernel)) (by decide +kernel)
theorem fl_X2_41 : Cond.fieldLink RX2 41 (TX3 4).1 (TX3 4).2.1 (TX3 4).2.2.1 ∈ Tb := Tb_of (List.mem_of_getElem? (i := 165) (by decide +kernel)) (by decide +kernel)
theorem ml_X2_45 : Cond.methodLink RX2 45 md_X3_mayBeMended.1 ∈ Tb := Tb_of (List.mem_of_getElem? (i := 377) (by decide +kernel)) (by decide +kernel)
theorem ml_X2_48 : Cond.methodLink RX2 48 ⟨"Reelrescue$NeighbourMending", "mended", "(JJJ)J"⟩ ∈ Tb := Tb_of (List.mem_of_getElem? (i := 385) (by decide +kernel)) (by decide +kernel)
theorem ml_X2_54 : Cond.methodLink RX2 54 md_X2_change.1 ∈ Tb := Tb_of (List.mem_of_getElem? (i := 422) (by decide +kernel)) (by decide +kernel)
theorem ml_X2_58 : Cond.methodLink RX2 58 md_X2_isScratched.1 ∈ Tb := Tb_of (List.mem_of_getElem? (i := 940) (by decide +kernel)) (by decide +kernel)
theorem ml_X2_62 : Cond.methodLink RX2 62 md_X7_at.1 ∈ Tb := Tb_of (List.mem_of_getElem? (i := 943) (by decide +kernel)) (by decide +kernel)
theorem ml_X2_68 : Cond.methodLink RX2 68 md_X7_with.1 ∈ Tb := Tb_of (List.mem_of_getElem? (i := 945) (by decide +kernel)) (by decide +kernel)
theorem ml_X2_72 : Cond.methodLink RX2 72 ⟨"java/lang/Math", "max", "(II)I"⟩ ∈ Tb := Tb_of (List.mem_of_getElem? (i := 944) (by decide +kernel)) (by decide +kernel)
theorem fl_X2_78 : Cond.fieldLink RX2 78 (TX3 3).1 (TX3 3).2.1 (TX3 3).2.2.1 ∈ Tb := Tb_of (List.mem_of_getElem? (i := 162) (by decide +kernel)) (by decide +kernel)
theorem ml_X2_81 : Cond.methodLink RX2 81 md_X7_unlike.1 ∈ Tb := Tb_of (List.mem_of_getElem? (i := 426) (by decide +kernel)) (by decide +kernel)
theorem ml_X2_85 : Cond.methodLink RX2 85 md_X0_isFull.1 ∈ Tb := Tb_of (List.mem_of_getElem? (i := 429) (by decide +kernel)) (by decide +kernel)
theorem fl_X2_88 : Cond.fieldLink RX2 88 (TX3 7).1 (TX3 7).2.1 (TX3 7).2.2.1 ∈ Tb := Tb_of (List.mem_of_getElem? (i := 173) (by decide +kernel)) (by decide +kernel)
theorem ml_X2_91 : Cond.methodLink RX2 91 md_X0_add.1 ∈ Tb := Tb_of (List.mem_of_getElem? (i := 434) (by decide +kernel)) (by decide +kernel)
theorem fl_X2_95 : Cond.fieldLink RX2 95 (TX3 6).1 (TX3 6).2.1 (TX3 6).2.2.1 ∈ Tb := Tb_of (List.mem_of_getElem? (i := 170) (by decide +kernel)) (by decide +kernel)
theorem fl_X2_98 : Cond.fieldLink RX2 98 (TX0 1).1 (TX0 1).2.1 (TX0 1).2.2.1 ∈ Tb := Tb_of (List.mem_of_getElem? (i := 135) (by decide +kernel)) (by decide +kernel)
theorem fl_X2_102 : Cond.fieldLink RX2 102 (TX0 2).1 (TX0 2).2.1 (TX0 2).2.2.1 ∈ Tb := Tb_of (List.mem_of_getElem? (i := 137) (by decide +kernel)) (by decide +kernel)
theorem fl_X2_106 : Cond.fieldLink RX2 106 (TX0 3).1 (TX0 3).2.1 (TX0 3).2.2.1 ∈ Tb := Tb_of (List.mem_of_getElem? (i := 139) (by decide +kernel)) (by decide +kernel)
theorem kc_X2_109 : Cond.constantLong RX2 109 (1469598103934665603) ∈ Tb := Tb_of (List.mem_of_getElem? (i := 469) (by decide +kernel)) (by decide +kernel)
theorem kc_X2_111 : Cond.constantLong RX2 111 (1099511628211) ∈ Tb := Tb_of (List.mem_of_getElem? (i := 470) (by decide +kernel)) (by decide +kernel)
theorem ml_X3_3 : Cond.methodLink RX3 3 ⟨"java/lang/Object", "<init>", "()V"⟩ ∈ Tb := Tb_of (List.mem_of_getElem? (i := 154) (by decide +kernel)) (by decide +kernel)
theorem fl_X3_9 : Cond.fieldLink RX3 9 (TX3 0).1 (TX3 0).2.1 (TX3 0).2.2.1 ∈ Tb := Tb_of (List.mem_of_getElem? (i := 155) (by decide +kernel)) (by decide +kernel)
theorem fl_X3_15 : Cond.fieldLink RX3 15 (TX3 1).1 (TX3 1).2.1 (TX3 1).2.2.1 ∈ Tb := Tb_of (List.mem_of_getElem? (i := 157) (by decide +kernel)) (by decide +kernel)
theorem fl_X3_18 : Cond.fieldLink RX3 18 (TX3 2).1 (TX3 2).2.1 (TX3 2).2.2.1 ∈ Tb := Tb_of (List.mem_of_getElem? (i := 159) (by decide +kernel)) (by decide +kernel)
theorem fl_X3_21 : Cond.fieldLink RX3 21 (TX3 3).1 (TX3 3).2.1 (TX3 3).2.2.1 ∈ Tb := Tb_of (List.mem_of_getElem? (i := 161) (by decide +kernel)) (by decide +kernel)
theorem fl_X3_25 : Cond.fieldLink RX3 25 (TX3 4).1 (TX3 4).2.1 (TX3 4).2.2.1 ∈ Tb := Tb_of (List.mem_of_getElem? (i := 164) (by decide +kernel)) (by decide +kernel)
theorem fl_X3_28 : Cond.fieldLink RX3 28 (TX3 5).1 (TX3 5).2.1 (TX3 5).2.2.1 ∈ Tb := Tb_of (List.mem_of_getElem? (i := 167) (by decide +kernel)) (by decide +kernel)
theorem fl_X3_32 : Cond.fieldLink RX3 32 (TX3 6).1 (TX3 6).2.1 (TX3 6).2.2.1 ∈ Tb := Tb_of (List.mem_of_getElem? (i := 169) (by decide +kernel)) (by decide +kernel)
theorem fl_X3_35 : Cond.fieldLink RX3 35 (TX3 7).1 (TX3 7).2.1 (TX3 7).2.2.1 ∈ Tb := Tb_of (List.mem_of_getElem? (i := 172) (by decide +kernel)) (by decide +kernel)
theorem ml_X3_38 : Cond.methodLink RX3 38 md_X3_isGap.1 ∈ Tb := Tb_of (List.mem_of_getElem? (i := 381) (by decide +kernel)) (by decide +kernel)
theorem ml_X4_3 : Cond.methodLinkNest RX4 3 md_X5_init.1 "Reelrescue" ∈ lw_tbl := List.mem_of_getElem? (i := 368) (by decide +kernel)
theorem ml_X4_9 : Cond.methodLink RX4 9 md_X7_total.1 ∈ Tb := Tb_of (List.mem_of_getElem? (i := 410) (by decide +kernel)) (by decide +kernel)
theorem ml_X4_15 : Cond.methodLink RX4 15 md_X7_at.1 ∈ Tb := Tb_of (List.mem_of_getElem? (i := 414) (by decide +kernel)) (by decide +kernel)
theorem ml_X4_19 : Cond.methodLink RX4 19 ⟨"java/lang/Math", "min", "(II)I"⟩ ∈ Tb := Tb_of (List.mem_of_getElem? (i := 415) (by decide +kernel)) (by decide +kernel)
theorem ml_X4_25 : Cond.methodLink RX4 25 ⟨"java/lang/Math", "max", "(II)I"⟩ ∈ Tb := Tb_of (List.mem_of_getElem? (i := 418) (by decide +kernel)) (by decide +kernel)
theorem ml_X4_28 : Cond.methodLink RX4 28 md_X7_with.1 ∈ Tb := Tb_of (List.mem_of_getElem? (i := 421) (by decide +kernel)) (by decide +kernel)
theorem ml_X5_1 : Cond.methodLink RX5 1 ⟨"java/lang/Object", "<init>", "()V"⟩ ∈ Tb := Tb_of (List.mem_of_getElem? (i := 371) (by decide +kernel)) (by decide +kernel)
theorem ml_X6_3 : Cond.methodLink RX6 3 ⟨"java/lang/Object", "<init>", "()V"⟩ ∈ Tb := Tb_of (List.mem_of_getElem? (i := 87) (by decide +kernel)) (by decide +kernel)
theorem kl_X6_9 : Cond.classLink RX6 9 "[[I" ∈ Tb := Tb_of (List.mem_of_getElem? (i := 88) (by decide +kernel)) (by decide +kernel)
theorem fl_X6_11 : Cond.fieldLink RX6 11 (TX6 0).1 (TX6 0).2.1 (TX6 0).2.2.1 ∈ Tb := Tb_of (List.mem_of_getElem? (i := 90) (by decide +kernel)) (by decide +kernel)
theorem fl_X6_16 : Cond.fieldLink RX6 16 (TX8 6).1 (TX8 6).2.1 (TX8 6).2.2.1 ∈ Tb := Tb_of (List.mem_of_getElem? (i := 224) (by decide +kernel)) (by decide +kernel)
theorem ml_X6_22 : Cond.methodLink RX6 22 md_X6_canPair.1 ∈ Tb := Tb_of (List.mem_of_getElem? (i := 715) (by decide +kernel)) (by decide +kernel)
theorem ml_X6_26 : Cond.methodLink RX6 26 ⟨"java/lang/Math", "max", "(II)I"⟩ ∈ Tb := Tb_of (List.mem_of_getElem? (i := 722) (by decide +kernel)) (by decide +kernel)
theorem ml_X6_32 : Cond.methodLink RX6 32 md_X6_mostPairs.1 ∈ Tb := Tb_of (List.mem_of_getElem? (i := 734) (by decide +kernel)) (by decide +kernel)
theorem fl_X6_36 : Cond.fieldLink RX6 36 (TX8 11).1 (TX8 11).2.1 (TX8 11).2.2.1 ∈ Tb := Tb_of (List.mem_of_getElem? (i := 233) (by decide +kernel)) (by decide +kernel)
theorem ml_X6_40 : Cond.methodLink RX6 40 md_X7_distance.1 ∈ Tb := Tb_of (List.mem_of_getElem? (i := 718) (by decide +kernel)) (by decide +kernel)
theorem kc_X7_9 : Cond.constantLong RX7 9 (255) ∈ Tb := Tb_of (List.mem_of_getElem? (i := 405) (by decide +kernel)) (by decide +kernel)
theorem kc_X7_11 : Cond.constantLong RX7 11 (-1) ∈ Tb := Tb_of (List.mem_of_getElem? (i := 406) (by decide +kernel)) (by decide +kernel)
theorem ml_X7_13 : Cond.methodLink RX7 13 md_X7_at.1 ∈ Tb := Tb_of (List.mem_of_getElem? (i := 413) (by decide +kernel)) (by decide +kernel)
theorem ml_X7_19 : Cond.methodLink RX7 19 ⟨"java/lang/Math", "abs", "(I)I"⟩ ∈ Tb := Tb_of (List.mem_of_getElem? (i := 721) (by decide +kernel)) (by decide +kernel)
theorem ml_X8_3 : Cond.methodLink RX8 3 ⟨"java/lang/Object", "<init>", "()V"⟩ ∈ Tb := Tb_of (List.mem_of_getElem? (i := 212) (by decide +kernel)) (by decide +kernel)
theorem fl_X8_9 : Cond.fieldLink RX8 9 (TX8 10).1 (TX8 10).2.1 (TX8 10).2.2.1 ∈ Tb := Tb_of (List.mem_of_getElem? (i := 231) (by decide +kernel)) (by decide +kernel)
theorem fl_X8_15 : Cond.fieldLink RX8 15 (TX8 11).1 (TX8 11).2.1 (TX8 11).2.2.1 ∈ Tb := Tb_of (List.mem_of_getElem? (i := 232) (by decide +kernel)) (by decide +kernel)
theorem fl_X8_19 : Cond.fieldLink RX8 19 (TX8 12).1 (TX8 12).2.1 (TX8 12).2.2.1 ∈ Tb := Tb_of (List.mem_of_getElem? (i := 235) (by decide +kernel)) (by decide +kernel)
theorem fl_X8_23 : Cond.fieldLink RX8 23 (TX8 13).1 (TX8 13).2.1 (TX8 13).2.2.1 ∈ Tb := Tb_of (List.mem_of_getElem? (i := 236) (by decide +kernel)) (by decide +kernel)
theorem fl_X8_26 : Cond.fieldLink RX8 26 (TX8 14).1 (TX8 14).2.1 (TX8 14).2.2.1 ∈ Tb := Tb_of (List.mem_of_getElem? (i := 238) (by decide +kernel)) (by decide +kernel)
theorem fl_X8_29 : Cond.fieldLink RX8 29 (TX8 0).1 (TX8 0).2.1 (TX8 0).2.2.1 ∈ Tb := Tb_of (List.mem_of_getElem? (i := 213) (by decide +kernel)) (by decide +kernel)
theorem fl_X8_33 : Cond.fieldLink RX8 33 (TX8 1).1 (TX8 1).2.1 (TX8 1).2.2.1 ∈ Tb := Tb_of (List.mem_of_getElem? (i := 214) (by decide +kernel)) (by decide +kernel)
theorem fl_X8_36 : Cond.fieldLink RX8 36 (TX8 2).1 (TX8 2).2.1 (TX8 2).2.2.1 ∈ Tb := Tb_of (List.mem_of_getElem? (i := 216) (by decide +kernel)) (by decide +kernel)
theorem fl_X8_39 : Cond.fieldLink RX8 39 (TX8 3).1 (TX8 3).2.1 (TX8 3).2.2.1 ∈ Tb := Tb_of (List.mem_of_getElem? (i := 219) (by decide +kernel)) (by decide +kernel)
theorem fl_X8_42 : Cond.fieldLink RX8 42 (TX8 4).1 (TX8 4).2.1 (TX8 4).2.2.1 ∈ Tb := Tb_of (List.mem_of_getElem? (i := 220) (by decide +kernel)) (by decide +kernel)
theorem fl_X8_45 : Cond.fieldLink RX8 45 (TX8 8).1 (TX8 8).2.1 (TX8 8).2.2.1 ∈ Tb := Tb_of (List.mem_of_getElem? (i := 229) (by decide +kernel)) (by decide +kernel)
theorem fl_X8_48 : Cond.fieldLink RX8 48 (TX8 9).1 (TX8 9).2.1 (TX8 9).2.2.1 ∈ Tb := Tb_of (List.mem_of_getElem? (i := 230) (by decide +kernel)) (by decide +kernel)
theorem ml_X8_51 : Cond.methodLink RX8 51 md_J7_fill_53178.1 ∈ Tb := Tb_of (List.mem_of_getElem? (i := 601) (by decide +kernel)) (by decide +kernel)
theorem fl_X8_57 : Cond.fieldLink RX8 57 (TX8 6).1 (TX8 6).2.1 (TX8 6).2.2.1 ∈ Tb := Tb_of (List.mem_of_getElem? (i := 225) (by decide +kernel)) (by decide +kernel)
theorem ml_X8_60 : Cond.methodLink RX8 60 ⟨"java/lang/Math", "min", "(II)I"⟩ ∈ Tb := Tb_of (List.mem_of_getElem? (i := 616) (by decide +kernel)) (by decide +kernel)
theorem ml_X8_66 : Cond.methodLink RX8 66 ⟨"java/lang/Math", "max", "(II)I"⟩ ∈ Tb := Tb_of (List.mem_of_getElem? (i := 617) (by decide +kernel)) (by decide +kernel)
theorem fl_X8_69 : Cond.fieldLink RX8 69 (TX8 7).1 (TX8 7).2.1 (TX8 7).2.2.1 ∈ Tb := Tb_of (List.mem_of_getElem? (i := 228) (by decide +kernel)) (by decide +kernel)
theorem ml_X8_72 : Cond.methodLink RX8 72 md_X8_addFrame.1 ∈ Tb := Tb_of (List.mem_of_getElem? (i := 659) (by decide +kernel)) (by decide +kernel)
theorem ml_X8_76 : Cond.methodLink RX8 76 md_X8_addSplice.1 ∈ Tb := Tb_of (List.mem_of_getElem? (i := 660) (by decide +kernel)) (by decide +kernel)
theorem fl_X8_80 : Cond.fieldLink RX8 80 (TX8 5).1 (TX8 5).2.1 (TX8 5).2.2.1 ∈ Tb := Tb_of (List.mem_of_getElem? (i := 223) (by decide +kernel)) (by decide +kernel)
theorem ml_X8_84 : Cond.methodLink RX8 84 md_X8_yearlyDecay.1 ∈ Tb := Tb_of (List.mem_of_getElem? (i := 640) (by decide +kernel)) (by decide +kernel)
theorem ml_X8_88 : Cond.methodLink RX8 88 md_X8_hasCode.1 ∈ Tb := Tb_of (List.mem_of_getElem? (i := 676) (by decide +kernel)) (by decide +kernel)
theorem ml_X8_92 : Cond.methodLink RX8 92 md_X8_isFault.1 ∈ Tb := Tb_of (List.mem_of_getElem? (i := 684) (by decide +kernel)) (by decide +kernel)
theorem ml_X9_3 : Cond.methodLink RX9 3 ⟨"java/lang/Object", "<init>", "()V"⟩ ∈ Tb := Tb_of (List.mem_of_getElem? (i := 102) (by decide +kernel)) (by decide +kernel)
theorem fl_X9_9 : Cond.fieldLink RX9 9 (TX9 1).1 (TX9 1).2.1 (TX9 1).2.2.1 ∈ Tb := Tb_of (List.mem_of_getElem? (i := 105) (by decide +kernel)) (by decide +kernel)
theorem fl_X9_15 : Cond.fieldLink RX9 15 (TX9 2).1 (TX9 2).2.1 (TX9 2).2.2.1 ∈ Tb := Tb_of (List.mem_of_getElem? (i := 106) (by decide +kernel)) (by decide +kernel)
theorem fl_X9_18 : Cond.fieldLink RX9 18 (TX9 3).1 (TX9 3).2.1 (TX9 3).2.2.1 ∈ Tb := Tb_of (List.mem_of_getElem? (i := 107) (by decide +kernel)) (by decide +kernel)
theorem fl_X9_21 : Cond.fieldLink RX9 21 (TX9 0).1 (TX9 0).2.1 (TX9 0).2.2.1 ∈ Tb := Tb_of (List.mem_of_getElem? (i := 103) (by decide +kernel)) (by decide +kernel)
theorem ml_X9_25 : Cond.methodLink RX9 25 md_J7_fill_53178.1 ∈ Tb := Tb_of (List.mem_of_getElem? (i := 835) (by decide +kernel)) (by decide +kernel)
theorem ml_X9_31 : Cond.methodLinkNest RX9 31 md_X11_isWithin.1 "Reelrescue" ∈ lw_tbl := List.mem_of_getElem? (i := 836) (by decide +kernel)
theorem ml_X10_3 : Cond.methodLink RX10 3 ⟨"java/lang/Object", "<init>", "()V"⟩ ∈ Tb := Tb_of (List.mem_of_getElem? (i := 275) (by decide +kernel)) (by decide +kernel)
theorem fl_X10_9 : Cond.fieldLink RX10 9 (TX10 5).1 (TX10 5).2.1 (TX10 5).2.2.1 ∈ Tb := Tb_of (List.mem_of_getElem? (i := 285) (by decide +kernel)) (by decide +kernel)
theorem fl_X10_15 : Cond.fieldLink RX10 15 (TX10 6).1 (TX10 6).2.1 (TX10 6).2.2.1 ∈ Tb := Tb_of (List.mem_of_getElem? (i := 287) (by decide +kernel)) (by decide +kernel)
theorem fl_X10_18 : Cond.fieldLink RX10 18 (TX10 7).1 (TX10 7).2.1 (TX10 7).2.2.1 ∈ Tb := Tb_of (List.mem_of_getElem? (i := 289) (by decide +kernel)) (by decide +kernel)
theorem fl_X10_21 : Cond.fieldLink RX10 21 (TX10 9).1 (TX10 9).2.1 (TX10 9).2.2.1 ∈ Tb := Tb_of (List.mem_of_getElem? (i := 293) (by decide +kernel)) (by decide +kernel)
theorem fl_X10_24 : Cond.fieldLink RX10 24 (TX10 10).1 (TX10 10).2.1 (TX10 10).2.2.1 ∈ Tb := Tb_of (List.mem_of_getElem? (i := 294) (by decide +kernel)) (by decide +kernel)
theorem fl_X10_27 : Cond.fieldLink RX10 27 (TX10 11).1 (TX10 11).2.1 (TX10 11).2.2.1 ∈ Tb := Tb_of (List.mem_of_getElem? (i := 295) (by decide +kernel)) (by decide +kernel)
theorem fl_X10_30 : Cond.fieldLink RX10 30 (TX10 12).1 (TX10 12).2.1 (TX10 12).2.2.1 ∈ Tb := Tb_of (List.mem_of_getElem? (i := 296) (by decide +kernel)) (by decide +kernel)
theorem fl_X10_33 : Cond.fieldLink RX10 33 (TX10 13).1 (TX10 13).2.1 (TX10 13).2.2.1 ∈ Tb := Tb_of (List.mem_of_getElem? (i := 297) (by decide +kernel)) (by decide +kernel)
theorem fl_X10_37 : Cond.fieldLink RX10 37 (TX10 0).1 (TX10 0).2.1 (TX10 0).2.2.1 ∈ Tb := Tb_of (List.mem_of_getElem? (i := 276) (by decide +kernel)) (by decide +kernel)
theorem fl_X10_41 : Cond.fieldLink RX10 41 (TX10 1).1 (TX10 1).2.1 (TX10 1).2.2.1 ∈ Tb := Tb_of (List.mem_of_getElem? (i := 278) (by decide +kernel)) (by decide +kernel)
theorem fl_X10_44 : Cond.fieldLink RX10 44 (TX10 3).1 (TX10 3).2.1 (TX10 3).2.2.1 ∈ Tb := Tb_of (List.mem_of_getElem? (i := 281) (by decide +kernel)) (by decide +kernel)
theorem fl_X10_47 : Cond.fieldLink RX10 47 (TX10 4).1 (TX10 4).2.1 (TX10 4).2.2.1 ∈ Tb := Tb_of (List.mem_of_getElem? (i := 283) (by decide +kernel)) (by decide +kernel)
theorem fl_X10_50 : Cond.fieldLink RX10 50 (TX10 8).1 (TX10 8).2.1 (TX10 8).2.2.1 ∈ Tb := Tb_of (List.mem_of_getElem? (i := 291) (by decide +kernel)) (by decide +kernel)
theorem ml_X10_53 : Cond.methodLinkNest RX10 53 md_X11_isWithin.1 "Reelrescue" ∈ lw_tbl := List.mem_of_getElem? (i := 866) (by decide +kernel)
theorem ml_X11_3 : Cond.methodLink RX11 3 ⟨"java/lang/Object", "<init>", "()V"⟩ ∈ Tb := Tb_of (List.mem_of_getElem? (i := 77) (by decide +kernel)) (by decide +kernel)
theorem kl_X11_9 : Cond.classLink RX11 9 "Reelrescue$Reel" ∈ Tb := Tb_of (List.mem_of_getElem? (i := 80) (by decide +kernel)) (by decide +kernel)
theorem fl_X11_11 : Cond.fieldLink RX11 11 (TX11 0).1 (TX11 0).2.1 (TX11 0).2.2.1 ∈ Tb := Tb_of (List.mem_of_getElem? (i := 328) (by decide +kernel)) (by decide +kernel)
theorem fl_X11_15 : Cond.fieldLink RX11 15 (TX11 1).1 (TX11 1).2.1 (TX11 1).2.2.1 ∈ Tb := Tb_of (List.mem_of_getElem? (i := 329) (by decide +kernel)) (by decide +kernel)
theorem fl_X11_19 : Cond.fieldLink RX11 19 (TX11 2).1 (TX11 2).2.1 (TX11 2).2.2.1 ∈ Tb := Tb_of (List.mem_of_getElem? (i := 330) (by decide +kernel)) (by decide +kernel)
theorem fl_X11_22 : Cond.fieldLink RX11 22 (TX11 3).1 (TX11 3).2.1 (TX11 3).2.2.1 ∈ Tb := Tb_of (List.mem_of_getElem? (i := 331) (by decide +kernel)) (by decide +kernel)
theorem kl_X11_25 : Cond.classLink RX11 25 "Reelrescue$Pairing" ∈ Tb := Tb_of (List.mem_of_getElem? (i := 82) (by decide +kernel)) (by decide +kernel)
theorem ml_X11_27 : Cond.methodLinkNest RX11 27 md_X6_init.1 "Reelrescue" ∈ lw_tbl := List.mem_of_getElem? (i := 84) (by decide +kernel)
theorem fl_X11_28 : Cond.fieldLink RX11 28 (TX11 4).1 (TX11 4).2.1 (TX11 4).2.2.1 ∈ Tb := Tb_of (List.mem_of_getElem? (i := 332) (by decide +kernel)) (by decide +kernel)
theorem kl_X11_32 : Cond.classLink RX11 32 "Reelrescue$Version" ∈ Tb := Tb_of (List.mem_of_getElem? (i := 95) (by decide +kernel)) (by decide +kernel)
theorem fl_X11_34 : Cond.fieldLink RX11 34 (TX11 5).1 (TX11 5).2.1 (TX11 5).2.2.1 ∈ Tb := Tb_of (List.mem_of_getElem? (i := 333) (by decide +kernel)) (by decide +kernel)
theorem fl_X11_38 : Cond.fieldLink RX11 38 (TX11 6).1 (TX11 6).2.1 (TX11 6).2.2.1 ∈ Tb := Tb_of (List.mem_of_getElem? (i := 334) (by decide +kernel)) (by decide +kernel)
theorem fl_X11_41 : Cond.fieldLink RX11 41 (TX11 7).1 (TX11 7).2.1 (TX11 7).2.2.1 ∈ Tb := Tb_of (List.mem_of_getElem? (i := 335) (by decide +kernel)) (by decide +kernel)
theorem kl_X11_44 : Cond.classLink RX11 44 "Reelrescue$Scraps" ∈ Tb := Tb_of (List.mem_of_getElem? (i := 97) (by decide +kernel)) (by decide +kernel)
theorem ml_X11_46 : Cond.methodLinkNest RX11 46 md_X9_init.1 "Reelrescue" ∈ lw_tbl := List.mem_of_getElem? (i := 99) (by decide +kernel)
theorem fl_X11_47 : Cond.fieldLink RX11 47 (TX11 8).1 (TX11 8).2.1 (TX11 8).2.2.1 ∈ Tb := Tb_of (List.mem_of_getElem? (i := 336) (by decide +kernel)) (by decide +kernel)
theorem kl_X11_51 : Cond.classLink RX11 51 "Reelrescue$Edition" ∈ Tb := Tb_of (List.mem_of_getElem? (i := 117) (by decide +kernel)) (by decide +kernel)
theorem ml_X11_53 : Cond.methodLink RX11 53 md_X2_init.1 ∈ Tb := Tb_of (List.mem_of_getElem? (i := 119) (by decide +kernel)) (by decide +kernel)
theorem fl_X11_54 : Cond.fieldLink RX11 54 (TX11 9).1 (TX11 9).2.1 (TX11 9).2.2.1 ∈ Tb := Tb_of (List.mem_of_getElem? (i := 337) (by decide +kernel)) (by decide +kernel)
theorem ml_X11_58 : Cond.methodLinkNest RX11 58 md_X8_init.1 "Reelrescue" ∈ lw_tbl := List.mem_of_getElem? (i := 209) (by decide +kernel)
theorem ml_X11_59 : Cond.methodLinkNest RX11 59 md_X10_init.1 "Reelrescue" ∈ lw_tbl := List.mem_of_getElem? (i := 272) (by decide +kernel)
theorem ml_X11_60 : Cond.methodLink RX11 60 md_X11_reelNumbered.1 ∈ Tb := Tb_of (List.mem_of_getElem? (i := 481) (by decide +kernel)) (by decide +kernel)
theorem fl_X11_64 : Cond.fieldLink RX11 64 (TX8 3).1 (TX8 3).2.1 (TX8 3).2.2.1 ∈ Tb := Tb_of (List.mem_of_getElem? (i := 218) (by decide +kernel)) (by decide +kernel)
theorem ml_X11_67 : Cond.methodLink RX11 67 md_X11_isWithin.1 ∈ Tb := Tb_of (List.mem_of_getElem? (i := 556) (by decide +kernel)) (by decide +kernel)
theorem ml_X11_71 : Cond.methodLink RX11 71 md_X11_needInRange.1 ∈ Tb := Tb_of (List.mem_of_getElem? (i := 559) (by decide +kernel)) (by decide +kernel)
theorem ml_X11_75 : Cond.methodLink RX11 75 md_X11_needPossible.1 ∈ Tb := Tb_of (List.mem_of_getElem? (i := 578) (by decide +kernel)) (by decide +kernel)
theorem ml_X11_78 : Cond.methodLink RX11 78 md_X8_begin.1 ∈ Tb := Tb_of (List.mem_of_getElem? (i := 597) (by decide +kernel)) (by decide +kernel)
theorem fl_X11_82 : Cond.fieldLink RX11 82 (TX8 6).1 (TX8 6).2.1 (TX8 6).2.2.1 ∈ Tb := Tb_of (List.mem_of_getElem? (i := 226) (by decide +kernel)) (by decide +kernel)
theorem kc_X11_85 : Cond.constantLong RX11 85 (4294967295) ∈ Tb := Tb_of (List.mem_of_getElem? (i := 611) (by decide +kernel)) (by decide +kernel)
theorem ml_X11_87 : Cond.methodLink RX11 87 md_X8_addFrame.1 ∈ Tb := Tb_of (List.mem_of_getElem? (i := 612) (by decide +kernel)) (by decide +kernel)
theorem ml_X11_91 : Cond.methodLink RX11 91 md_X11_needPlace.1 ∈ Tb := Tb_of (List.mem_of_getElem? (i := 485) (by decide +kernel)) (by decide +kernel)
theorem ml_X11_95 : Cond.methodLink RX11 95 md_X8_addSplice.1 ∈ Tb := Tb_of (List.mem_of_getElem? (i := 625) (by decide +kernel)) (by decide +kernel)
theorem fl_X11_99 : Cond.fieldLink RX11 99 (TX8 7).1 (TX8 7).2.1 (TX8 7).2.2.1 ∈ Tb := Tb_of (List.mem_of_getElem? (i := 227) (by decide +kernel)) (by decide +kernel)
theorem fl_X11_102 : Cond.fieldLink RX11 102 (TX8 5).1 (TX8 5).2.1 (TX8 5).2.2.1 ∈ Tb := Tb_of (List.mem_of_getElem? (i := 222) (by decide +kernel)) (by decide +kernel)
theorem ml_X11_106 : Cond.methodLink RX11 106 md_X8_yearToCopy.1 ∈ Tb := Tb_of (List.mem_of_getElem? (i := 636) (by decide +kernel)) (by decide +kernel)
theorem ml_X11_110 : Cond.methodLink RX11 110 md_X8_canBeRead.1 ∈ Tb := Tb_of (List.mem_of_getElem? (i := 651) (by decide +kernel)) (by decide +kernel)
theorem fl_X11_114 : Cond.fieldLink RX11 114 (TX8 2).1 (TX8 2).2.1 (TX8 2).2.2.1 ∈ Tb := Tb_of (List.mem_of_getElem? (i := 217) (by decide +kernel)) (by decide +kernel)
theorem ml_X11_117 : Cond.methodLink RX11 117 md_X8_printFrom.1 ∈ Tb := Tb_of (List.mem_of_getElem? (i := 655) (by decide +kernel)) (by decide +kernel)
theorem fl_X11_121 : Cond.fieldLink RX11 121 (TX8 4).1 (TX8 4).2.1 (TX8 4).2.2.1 ∈ Tb := Tb_of (List.mem_of_getElem? (i := 221) (by decide +kernel)) (by decide +kernel)
theorem ml_X11_124 : Cond.methodLink RX11 124 md_X8_jumps.1 ∈ Tb := Tb_of (List.mem_of_getElem? (i := 668) (by decide +kernel)) (by decide +kernel)
theorem ml_X11_128 : Cond.methodLink RX11 128 md_X8_missingCodes.1 ∈ Tb := Tb_of (List.mem_of_getElem? (i := 672) (by decide +kernel)) (by decide +kernel)
theorem ml_X11_131 : Cond.methodLink RX11 131 md_X8_faults.1 ∈ Tb := Tb_of (List.mem_of_getElem? (i := 680) (by decide +kernel)) (by decide +kernel)
theorem ml_X11_134 : Cond.methodLink RX11 134 md_X11_guessedParent.1 ∈ Tb := Tb_of (List.mem_of_getElem? (i := 688) (by decide +kernel)) (by decide +kernel)
theorem fl_X11_137 : Cond.fieldLink RX11 137 (TX8 1).1 (TX8 1).2.1 (TX8 1).2.2.1 ∈ Tb := Tb_of (List.mem_of_getElem? (i := 215) (by decide +kernel)) (by decide +kernel)
theorem kl_X11_140 : Cond.classLink RX11 140 "java/lang/IllegalArgumentException" ∈ Tb := Tb_of (List.mem_of_getElem? (i := 562) (by decide +kernel)) (by decide +kernel)
theorem ml_X11_144 : Cond.methodLink RX11 144 ⟨"java/lang/IllegalArgumentException", "<init>", "(Ljava/lang/String;)V"⟩ ∈ Tb := Tb_of (List.mem_of_getElem? (i := 572) (by decide +kernel)) (by decide +kernel)
theorem ml_X11_147 : Cond.methodLink RX11 147 md_X6_mostPairs.1 ∈ Tb := Tb_of (List.mem_of_getElem? (i := 711) (by decide +kernel)) (by decide +kernel)
theorem ml_X11_151 : Cond.methodLink RX11 151 md_X6_partner.1 ∈ Tb := Tb_of (List.mem_of_getElem? (i := 730) (by decide +kernel)) (by decide +kernel)
theorem fl_X11_155 : Cond.fieldLink RX11 155 (TX8 11).1 (TX8 11).2.1 (TX8 11).2.2.1 ∈ Tb := Tb_of (List.mem_of_getElem? (i := 234) (by decide +kernel)) (by decide +kernel)
theorem ml_X11_159 : Cond.methodLink RX11 159 md_X7_distance.1 ∈ Tb := Tb_of (List.mem_of_getElem? (i := 742) (by decide +kernel)) (by decide +kernel)
theorem kc_X11_165 : Cond.constantFloat RX11 165 1157562368 ∈ Tb := Tb_of (List.mem_of_getElem? (i := 743) (by decide +kernel)) (by decide +kernel)
theorem ml_X11_166 : Cond.methodLink RX11 166 md_X10_begin.1 ∈ Tb := Tb_of (List.mem_of_getElem? (i := 751) (by decide +kernel)) (by decide +kernel)
theorem ml_X11_168 : Cond.methodLink RX11 168 md_X11_versionNumbered.1 ∈ Tb := Tb_of (List.mem_of_getElem? (i := 762) (by decide +kernel)) (by decide +kernel)
theorem fl_X11_172 : Cond.fieldLink RX11 172 (TX10 3).1 (TX10 3).2.1 (TX10 3).2.2.1 ∈ Tb := Tb_of (List.mem_of_getElem? (i := 282) (by decide +kernel)) (by decide +kernel)
theorem fl_X11_175 : Cond.fieldLink RX11 175 (TX10 4).1 (TX10 4).2.1 (TX10 4).2.2.1 ∈ Tb := Tb_of (List.mem_of_getElem? (i := 284) (by decide +kernel)) (by decide +kernel)
theorem ml_X11_178 : Cond.methodLink RX11 178 md_X10_addShot.1 ∈ Tb := Tb_of (List.mem_of_getElem? (i := 766) (by decide +kernel)) (by decide +kernel)
theorem fl_X11_181 : Cond.fieldLink RX11 181 (TX10 2).1 (TX10 2).2.1 (TX10 2).2.2.1 ∈ Tb := Tb_of (List.mem_of_getElem? (i := 280) (by decide +kernel)) (by decide +kernel)
theorem fl_X11_184 : Cond.fieldLink RX11 184 (TX10 7).1 (TX10 7).2.1 (TX10 7).2.2.1 ∈ Tb := Tb_of (List.mem_of_getElem? (i := 290) (by decide +kernel)) (by decide +kernel)
theorem ml_X11_188 : Cond.methodLink RX11 188 md_X11_codesThatCanBeRead.1 ∈ Tb := Tb_of (List.mem_of_getElem? (i := 791) (by decide +kernel)) (by decide +kernel)
theorem ml_X11_192 : Cond.methodLink RX11 192 ⟨"java/lang/Math", "min", "(II)I"⟩ ∈ Tb := Tb_of (List.mem_of_getElem? (i := 804) (by decide +kernel)) (by decide +kernel)
theorem ml_X11_198 : Cond.methodLink RX11 198 md_X10_duration.1 ∈ Tb := Tb_of (List.mem_of_getElem? (i := 805) (by decide +kernel)) (by decide +kernel)
theorem fl_X11_201 : Cond.fieldLink RX11 201 (TX10 0).1 (TX10 0).2.1 (TX10 0).2.2.1 ∈ Tb := Tb_of (List.mem_of_getElem? (i := 277) (by decide +kernel)) (by decide +kernel)
theorem fl_X11_202 : Cond.fieldLink RX11 202 (TX10 1).1 (TX10 1).2.1 (TX10 1).2.2.1 ∈ Tb := Tb_of (List.mem_of_getElem? (i := 279) (by decide +kernel)) (by decide +kernel)
theorem fl_X11_203 : Cond.fieldLink RX11 203 (TX9 0).1 (TX9 0).2.1 (TX9 0).2.2.1 ∈ Tb := Tb_of (List.mem_of_getElem? (i := 104) (by decide +kernel)) (by decide +kernel)
theorem ml_X11_206 : Cond.methodLink RX11 206 md_X9_add.1 ∈ Tb := Tb_of (List.mem_of_getElem? (i := 816) (by decide +kernel)) (by decide +kernel)
theorem ml_X11_209 : Cond.methodLink RX11 209 md_X9_withCode.1 ∈ Tb := Tb_of (List.mem_of_getElem? (i := 820) (by decide +kernel)) (by decide +kernel)
theorem fl_X11_212 : Cond.fieldLink RX11 212 (TX10 5).1 (TX10 5).2.1 (TX10 5).2.2.1 ∈ Tb := Tb_of (List.mem_of_getElem? (i := 286) (by decide +kernel)) (by decide +kernel)
theorem fl_X11_215 : Cond.fieldLink RX11 215 (TX10 6).1 (TX10 6).2.1 (TX10 6).2.2.1 ∈ Tb := Tb_of (List.mem_of_getElem? (i := 288) (by decide +kernel)) (by decide +kernel)
theorem ml_X11_218 : Cond.methodLink RX11 218 md_X9_tintOfCodes.1 ∈ Tb := Tb_of (List.mem_of_getElem? (i := 831) (by decide +kernel)) (by decide +kernel)
theorem ml_X11_221 : Cond.methodLink RX11 221 md_X10_addRight.1 ∈ Tb := Tb_of (List.mem_of_getElem? (i := 844) (by decide +kernel)) (by decide +kernel)
theorem fl_X11_225 : Cond.fieldLink RX11 225 (TX10 8).1 (TX10 8).2.1 (TX10 8).2.2.1 ∈ Tb := Tb_of (List.mem_of_getElem? (i := 292) (by decide +kernel)) (by decide +kernel)
theorem fl_X11_226 : Cond.fieldLink RX11 226 (TX10 13).1 (TX10 13).2.1 (TX10 13).2.2.1 ∈ Tb := Tb_of (List.mem_of_getElem? (i := 298) (by decide +kernel)) (by decide +kernel)
theorem ml_X11_230 : Cond.methodLink RX11 230 md_X10_isFreeIn.1 ∈ Tb := Tb_of (List.mem_of_getElem? (i := 862) (by decide +kernel)) (by decide +kernel)
theorem ml_X11_234 : Cond.methodLink RX11 234 md_X2_begin.1 ∈ Tb := Tb_of (List.mem_of_getElem? (i := 874) (by decide +kernel)) (by decide +kernel)
theorem ml_X11_236 : Cond.methodLink RX11 236 md_X11_takeCode.1 ∈ Tb := Tb_of (List.mem_of_getElem? (i := 878) (by decide +kernel)) (by decide +kernel)
theorem ml_X11_239 : Cond.methodLink RX11 239 md_X2_gaps.1 ∈ Tb := Tb_of (List.mem_of_getElem? (i := 890) (by decide +kernel)) (by decide +kernel)
theorem ml_X11_242 : Cond.methodLink RX11 242 md_X11_editionFrameAt.1 ∈ Tb := Tb_of (List.mem_of_getElem? (i := 902) (by decide +kernel)) (by decide +kernel)
theorem fl_X11_246 : Cond.fieldLink RX11 246 (TX3 5).1 (TX3 5).2.1 (TX3 5).2.2.1 ∈ Tb := Tb_of (List.mem_of_getElem? (i := 168) (by decide +kernel)) (by decide +kernel)
theorem fl_X11_251 : Cond.fieldLink RX11 251 (TX2 1).1 (TX2 1).2.1 (TX2 1).2.2.1 ∈ Tb := Tb_of (List.mem_of_getElem? (i := 194) (by decide +kernel)) (by decide +kernel)
theorem kl_X11_254 : Cond.classLink RX11 254 "Reelrescue$DirtMending" ∈ Tb := Tb_of (List.mem_of_getElem? (i := 920) (by decide +kernel)) (by decide +kernel)
theorem ml_X11_256 : Cond.methodLink RX11 256 md_X1_init.1 ∈ Tb := Tb_of (List.mem_of_getElem? (i := 921) (by decide +kernel)) (by decide +kernel)
theorem ml_X11_258 : Cond.methodLink RX11 258 md_X2_mendByNeighbours.1 ∈ Tb := Tb_of (List.mem_of_getElem? (i := 373) (by decide +kernel)) (by decide +kernel)
theorem fl_X11_262 : Cond.fieldLink RX11 262 (TX2 0).1 (TX2 0).2.1 (TX2 0).2.2.1 ∈ Tb := Tb_of (List.mem_of_getElem? (i := 192) (by decide +kernel)) (by decide +kernel)
theorem ml_X11_263 : Cond.methodLink RX11 263 md_X2_mendScratch.1 ∈ Tb := Tb_of (List.mem_of_getElem? (i := 936) (by decide +kernel)) (by decide +kernel)
theorem kl_X11_267 : Cond.classLink RX11 267 "Reelrescue$FlickerMending" ∈ Tb := Tb_of (List.mem_of_getElem? (i := 363) (by decide +kernel)) (by decide +kernel)
theorem ml_X11_269 : Cond.methodLinkNest RX11 269 md_X4_init.1 "Reelrescue" ∈ lw_tbl := List.mem_of_getElem? (i := 365) (by decide +kernel)
theorem fl_X11_270 : Cond.fieldLink RX11 270 (TX2 3).1 (TX2 3).2.1 (TX2 3).2.2.1 ∈ Tb := Tb_of (List.mem_of_getElem? (i := 198) (by decide +kernel)) (by decide +kernel)
theorem fl_X11_274 : Cond.fieldLink RX11 274 (TX0 0).1 (TX0 0).2.1 (TX0 0).2.2.1 ∈ Tb := Tb_of (List.mem_of_getElem? (i := 133) (by decide +kernel)) (by decide +kernel)
theorem ml_X11_277 : Cond.methodLink RX11 277 md_X2_isOnTop.1 ∈ Tb := Tb_of (List.mem_of_getElem? (i := 953) (by decide +kernel)) (by decide +kernel)
theorem ml_X11_281 : Cond.methodLink RX11 281 md_X2_undo.1 ∈ Tb := Tb_of (List.mem_of_getElem? (i := 957) (by decide +kernel)) (by decide +kernel)
theorem fl_X11_284 : Cond.fieldLink RX11 284 (TX3 0).1 (TX3 0).2.1 (TX3 0).2.2.1 ∈ Tb := Tb_of (List.mem_of_getElem? (i := 156) (by decide +kernel)) (by decide +kernel)
theorem fl_X11_287 : Cond.fieldLink RX11 287 (TX3 1).1 (TX3 1).2.1 (TX3 1).2.2.1 ∈ Tb := Tb_of (List.mem_of_getElem? (i := 158) (by decide +kernel)) (by decide +kernel)
theorem fl_X11_290 : Cond.fieldLink RX11 290 (TX3 2).1 (TX3 2).2.1 (TX3 2).2.2.1 ∈ Tb := Tb_of (List.mem_of_getElem? (i := 160) (by decide +kernel)) (by decide +kernel)
theorem fl_X11_293 : Cond.fieldLink RX11 293 (TX3 4).1 (TX3 4).2.1 (TX3 4).2.2.1 ∈ Tb := Tb_of (List.mem_of_getElem? (i := 166) (by decide +kernel)) (by decide +kernel)
theorem fl_X11_297 : Cond.fieldLink RX11 297 (TX3 3).1 (TX3 3).2.1 (TX3 3).2.2.1 ∈ Tb := Tb_of (List.mem_of_getElem? (i := 163) (by decide +kernel)) (by decide +kernel)
theorem ml_X11_300 : Cond.methodLink RX11 300 md_X7_unlike.1 ∈ Tb := Tb_of (List.mem_of_getElem? (i := 968) (by decide +kernel)) (by decide +kernel)
theorem fl_X11_303 : Cond.fieldLink RX11 303 (TX3 6).1 (TX3 6).2.1 (TX3 6).2.2.1 ∈ Tb := Tb_of (List.mem_of_getElem? (i := 171) (by decide +kernel)) (by decide +kernel)
theorem ml_X11_306 : Cond.methodLink RX11 306 md_X2_checksum.1 ∈ Tb := Tb_of (List.mem_of_getElem? (i := 465) (by decide +kernel)) (by decide +kernel)
theorem ml_X11_310 : Cond.methodLink RX11 310 md_X8_yearlyDecay.1 ∈ Tb := Tb_of (List.mem_of_getElem? (i := 983) (by decide +kernel)) (by decide +kernel)
theorem kl_X11_315 : Cond.classLink RX11 315 "java/lang/IllegalStateException" ∈ Tb := Tb_of (List.mem_of_getElem? (i := 581) (by decide +kernel)) (by decide +kernel)
theorem ml_X11_319 : Cond.methodLink RX11 319 ⟨"java/lang/IllegalStateException", "<init>", "(Ljava/lang/String;)V"⟩ ∈ Tb := Tb_of (List.mem_of_getElem? (i := 591) (by decide +kernel)) (by decide +kernel)
theorem kl_X11_320 : Cond.classLink RX11 320 "java/lang/IndexOutOfBoundsException" ∈ Tb := Tb_of (List.mem_of_getElem? (i := 488) (by decide +kernel)) (by decide +kernel)
theorem ml_X11_324 : Cond.methodLink RX11 324 ⟨"java/lang/IndexOutOfBoundsException", "<init>", "(Ljava/lang/String;)V"⟩ ∈ Tb := Tb_of (List.mem_of_getElem? (i := 530) (by decide +kernel)) (by decide +kernel)
theorem fl_X11_325 : Cond.fieldLink RX11 325 (TX2 2).1 (TX2 2).2.1 (TX2 2).2.2.1 ∈ Tb := Tb_of (List.mem_of_getElem? (i := 196) (by decide +kernel)) (by decide +kernel)
theorem ml_X11_328 : Cond.methodLink RX11 328 md_X8_hasFaultsOf.1 ∈ Tb := Tb_of (List.mem_of_getElem? (i := 692) (by decide +kernel)) (by decide +kernel)
theorem ml_X11_332 : Cond.methodLink RX11 332 md_X8_hasCode.1 ∈ Tb := Tb_of (List.mem_of_getElem? (i := 799) (by decide +kernel)) (by decide +kernel)
theorem ml_X11_335 : Cond.methodLink RX11 335 md_X8_isBetterThan.1 ∈ Tb := Tb_of (List.mem_of_getElem? (i := 800) (by decide +kernel)) (by decide +kernel)
theorem ml_X11_338 : Cond.methodLink RX11 338 md_X11_bestReelWith.1 ∈ Tb := Tb_of (List.mem_of_getElem? (i := 795) (by decide +kernel)) (by decide +kernel)
theorem ml_X11_341 : Cond.methodLink RX11 341 md_X2_take.1 ∈ Tb := Tb_of (List.mem_of_getElem? (i := 882) (by decide +kernel)) (by decide +kernel)
theorem fl_X11_345 : Cond.fieldLink RX11 345 (TX8 13).1 (TX8 13).2.1 (TX8 13).2.2.1 ∈ Tb := Tb_of (List.mem_of_getElem? (i := 237) (by decide +kernel)) (by decide +kernel)
theorem ml_X12_1 : Cond.methodLink RX12 1 ⟨"java/lang/Object", "<init>", "()V"⟩ ∈ Tb := Tb_of (List.mem_of_getElem? (i := 989) (by decide +kernel)) (by decide +kernel)
theorem fl_X12_7 : Cond.fieldLink RX12 7 (TX12 0).1 (TX12 0).2.1 (TX12 0).2.2.1 ∈ Tb := Tb_of (List.mem_of_getElem? (i := 991) (by decide +kernel)) (by decide +kernel)
theorem fl_X12_13 : Cond.fieldLink RX12 13 (TX12 1).1 (TX12 1).2.1 (TX12 1).2.2.1 ∈ Tb := Tb_of (List.mem_of_getElem? (i := 992) (by decide +kernel)) (by decide +kernel)
theorem fl_X12_16 : Cond.fieldLink RX12 16 (TX12 2).1 (TX12 2).2.1 (TX12 2).2.2.1 ∈ Tb := Tb_of (List.mem_of_getElem? (i := 993) (by decide +kernel)) (by decide +kernel)
theorem fl_X12_19 : Cond.fieldLink RX12 19 (TX12 3).1 (TX12 3).2.1 (TX12 3).2.2.1 ∈ Tb := Tb_of (List.mem_of_getElem? (i := 994) (by decide +kernel)) (by decide +kernel)
theorem fl_X12_22 : Cond.fieldLink RX12 22 (TX12 4).1 (TX12 4).2.1 (TX12 4).2.2.1 ∈ Tb := Tb_of (List.mem_of_getElem? (i := 995) (by decide +kernel)) (by decide +kernel)
theorem fl_X12_25 : Cond.fieldLink RX12 25 (TX12 5).1 (TX12 5).2.1 (TX12 5).2.2.1 ∈ Tb := Tb_of (List.mem_of_getElem? (i := 996) (by decide +kernel)) (by decide +kernel)
theorem fl_X12_28 : Cond.fieldLink RX12 28 (TX12 6).1 (TX12 6).2.1 (TX12 6).2.2.1 ∈ Tb := Tb_of (List.mem_of_getElem? (i := 997) (by decide +kernel)) (by decide +kernel)
theorem fl_X12_31 : Cond.fieldLink RX12 31 (TX12 7).1 (TX12 7).2.1 (TX12 7).2.2.1 ∈ Tb := Tb_of (List.mem_of_getElem? (i := 998) (by decide +kernel)) (by decide +kernel)
theorem fl_X12_34 : Cond.fieldLink RX12 34 (TX12 8).1 (TX12 8).2.1 (TX12 8).2.2.1 ∈ Tb := Tb_of (List.mem_of_getElem? (i := 999) (by decide +kernel)) (by decide +kernel)
theorem fl_X12_38 : Cond.fieldLink RX12 38 (TX12 9).1 (TX12 9).2.1 (TX12 9).2.2.1 ∈ Tb := Tb_of (List.mem_of_getElem? (i := 1000) (by decide +kernel)) (by decide +kernel)
theorem fl_X12_41 : Cond.fieldLink RX12 41 (TX12 11).1 (TX12 11).2.1 (TX12 11).2.2.1 ∈ Tb := Tb_of (List.mem_of_getElem? (i := 1002) (by decide +kernel)) (by decide +kernel)
theorem fl_X12_45 : Cond.fieldLink RX12 45 (TX12 12).1 (TX12 12).2.1 (TX12 12).2.2.1 ∈ Tb := Tb_of (List.mem_of_getElem? (i := 1003) (by decide +kernel)) (by decide +kernel)
theorem fl_X12_48 : Cond.fieldLink RX12 48 (TX12 13).1 (TX12 13).2.1 (TX12 13).2.2.1 ∈ Tb := Tb_of (List.mem_of_getElem? (i := 1004) (by decide +kernel)) (by decide +kernel)
theorem fl_X12_51 : Cond.fieldLink RX12 51 (TX12 14).1 (TX12 14).2.1 (TX12 14).2.2.1 ∈ Tb := Tb_of (List.mem_of_getElem? (i := 1005) (by decide +kernel)) (by decide +kernel)
theorem fl_X12_54 : Cond.fieldLink RX12 54 (TX12 15).1 (TX12 15).2.1 (TX12 15).2.2.1 ∈ Tb := Tb_of (List.mem_of_getElem? (i := 1006) (by decide +kernel)) (by decide +kernel)
theorem fl_X12_57 : Cond.fieldLink RX12 57 (TX12 16).1 (TX12 16).2.1 (TX12 16).2.2.1 ∈ Tb := Tb_of (List.mem_of_getElem? (i := 1007) (by decide +kernel)) (by decide +kernel)
theorem fl_X12_60 : Cond.fieldLink RX12 60 (TX12 17).1 (TX12 17).2.1 (TX12 17).2.2.1 ∈ Tb := Tb_of (List.mem_of_getElem? (i := 1008) (by decide +kernel)) (by decide +kernel)
theorem fl_X12_63 : Cond.fieldLink RX12 63 (TX12 18).1 (TX12 18).2.1 (TX12 18).2.2.1 ∈ Tb := Tb_of (List.mem_of_getElem? (i := 1009) (by decide +kernel)) (by decide +kernel)
theorem fl_X12_66 : Cond.fieldLink RX12 66 (TX12 19).1 (TX12 19).2.1 (TX12 19).2.2.1 ∈ Tb := Tb_of (List.mem_of_getElem? (i := 1010) (by decide +kernel)) (by decide +kernel)
theorem fl_X12_69 : Cond.fieldLink RX12 69 (TX12 20).1 (TX12 20).2.1 (TX12 20).2.2.1 ∈ Tb := Tb_of (List.mem_of_getElem? (i := 1011) (by decide +kernel)) (by decide +kernel)
theorem fl_X12_72 : Cond.fieldLink RX12 72 (TX12 21).1 (TX12 21).2.1 (TX12 21).2.2.1 ∈ Tb := Tb_of (List.mem_of_getElem? (i := 1012) (by decide +kernel)) (by decide +kernel)
theorem fl_X12_75 : Cond.fieldLink RX12 75 (TX12 23).1 (TX12 23).2.1 (TX12 23).2.2.1 ∈ Tb := Tb_of (List.mem_of_getElem? (i := 1014) (by decide +kernel)) (by decide +kernel)
theorem fl_X12_78 : Cond.fieldLink RX12 78 (TX12 24).1 (TX12 24).2.1 (TX12 24).2.2.1 ∈ Tb := Tb_of (List.mem_of_getElem? (i := 1015) (by decide +kernel)) (by decide +kernel)
theorem fl_X12_81 : Cond.fieldLink RX12 81 (TX12 26).1 (TX12 26).2.1 (TX12 26).2.2.1 ∈ Tb := Tb_of (List.mem_of_getElem? (i := 1017) (by decide +kernel)) (by decide +kernel)
theorem fl_X12_84 : Cond.fieldLink RX12 84 (TX12 27).1 (TX12 27).2.1 (TX12 27).2.2.1 ∈ Tb := Tb_of (List.mem_of_getElem? (i := 1018) (by decide +kernel)) (by decide +kernel)
theorem fl_X12_87 : Cond.fieldLink RX12 87 (TX12 28).1 (TX12 28).2.1 (TX12 28).2.2.1 ∈ Tb := Tb_of (List.mem_of_getElem? (i := 1019) (by decide +kernel)) (by decide +kernel)
theorem fl_X12_90 : Cond.fieldLink RX12 90 (TX12 29).1 (TX12 29).2.1 (TX12 29).2.2.1 ∈ Tb := Tb_of (List.mem_of_getElem? (i := 1020) (by decide +kernel)) (by decide +kernel)
theorem fl_X12_93 : Cond.fieldLink RX12 93 (TX12 30).1 (TX12 30).2.1 (TX12 30).2.2.1 ∈ Tb := Tb_of (List.mem_of_getElem? (i := 1021) (by decide +kernel)) (by decide +kernel)
theorem fl_X12_96 : Cond.fieldLink RX12 96 (TX12 32).1 (TX12 32).2.1 (TX12 32).2.2.1 ∈ Tb := Tb_of (List.mem_of_getElem? (i := 1023) (by decide +kernel)) (by decide +kernel)
theorem fl_X12_99 : Cond.fieldLink RX12 99 (TX12 33).1 (TX12 33).2.1 (TX12 33).2.2.1 ∈ Tb := Tb_of (List.mem_of_getElem? (i := 1024) (by decide +kernel)) (by decide +kernel)
theorem fl_X12_102 : Cond.fieldLink RX12 102 (TX12 34).1 (TX12 34).2.1 (TX12 34).2.2.1 ∈ Tb := Tb_of (List.mem_of_getElem? (i := 1025) (by decide +kernel)) (by decide +kernel)
theorem fl_X12_105 : Cond.fieldLink RX12 105 (TX12 35).1 (TX12 35).2.1 (TX12 35).2.2.1 ∈ Tb := Tb_of (List.mem_of_getElem? (i := 1026) (by decide +kernel)) (by decide +kernel)
theorem fl_X12_108 : Cond.fieldLink RX12 108 (TX12 36).1 (TX12 36).2.1 (TX12 36).2.2.1 ∈ Tb := Tb_of (List.mem_of_getElem? (i := 1027) (by decide +kernel)) (by decide +kernel)
theorem fl_X12_111 : Cond.fieldLink RX12 111 (TX12 37).1 (TX12 37).2.1 (TX12 37).2.2.1 ∈ Tb := Tb_of (List.mem_of_getElem? (i := 1028) (by decide +kernel)) (by decide +kernel)
theorem fl_X12_114 : Cond.fieldLink RX12 114 (TX12 38).1 (TX12 38).2.1 (TX12 38).2.2.1 ∈ Tb := Tb_of (List.mem_of_getElem? (i := 1029) (by decide +kernel)) (by decide +kernel)
theorem fl_X12_117 : Cond.fieldLink RX12 117 (TX12 40).1 (TX12 40).2.1 (TX12 40).2.2.1 ∈ Tb := Tb_of (List.mem_of_getElem? (i := 1031) (by decide +kernel)) (by decide +kernel)
theorem kc_X12_120 : Cond.constant RX12 120 (iI 62000) ∈ Tb := Tb_of (List.mem_of_getElem? (i := 990) (by decide +kernel)) (by decide +kernel)
theorem fl_X12_121 : Cond.fieldLink RX12 121 (TX12 41).1 (TX12 41).2.1 (TX12 41).2.2.1 ∈ Tb := Tb_of (List.mem_of_getElem? (i := 1032) (by decide +kernel)) (by decide +kernel)
theorem fl_X12_124 : Cond.fieldLink RX12 124 (TX12 42).1 (TX12 42).2.1 (TX12 42).2.2.1 ∈ Tb := Tb_of (List.mem_of_getElem? (i := 1033) (by decide +kernel)) (by decide +kernel)
theorem fl_X12_127 : Cond.fieldLink RX12 127 (TX12 43).1 (TX12 43).2.1 (TX12 43).2.2.1 ∈ Tb := Tb_of (List.mem_of_getElem? (i := 1034) (by decide +kernel)) (by decide +kernel)
theorem fl_X12_130 : Cond.fieldLink RX12 130 (TX12 45).1 (TX12 45).2.1 (TX12 45).2.2.1 ∈ Tb := Tb_of (List.mem_of_getElem? (i := 1036) (by decide +kernel)) (by decide +kernel)
theorem fl_X12_133 : Cond.fieldLink RX12 133 (TX12 47).1 (TX12 47).2.1 (TX12 47).2.2.1 ∈ Tb := Tb_of (List.mem_of_getElem? (i := 1038) (by decide +kernel)) (by decide +kernel)
theorem fl_X12_137 : Cond.fieldLink RX12 137 (TX12 48).1 (TX12 48).2.1 (TX12 48).2.2.1 ∈ Tb := Tb_of (List.mem_of_getElem? (i := 1039) (by decide +kernel)) (by decide +kernel)
theorem fl_X12_140 : Cond.fieldLink RX12 140 (TX12 46).1 (TX12 46).2.1 (TX12 46).2.2.1 ∈ Tb := Tb_of (List.mem_of_getElem? (i := 1037) (by decide +kernel)) (by decide +kernel)
theorem fl_X12_143 : Cond.fieldLink RX12 143 (TX12 10).1 (TX12 10).2.1 (TX12 10).2.2.1 ∈ Tb := Tb_of (List.mem_of_getElem? (i := 1001) (by decide +kernel)) (by decide +kernel)
theorem ml_X12_146 : Cond.methodLink RX12 146 md_X12_in.1 ∈ Tb := Tb_of (List.mem_of_getElem? (i := 1151) (by decide +kernel)) (by decide +kernel)
theorem ml_X12_150 : Cond.methodLink RX12 150 md_X12_point.1 ∈ Tb := Tb_of (List.mem_of_getElem? (i := 1248) (by decide +kernel)) (by decide +kernel)
theorem ml_X12_154 : Cond.methodLink RX12 154 md_X12_isReel.1 ∈ Tb := Tb_of (List.mem_of_getElem? (i := 1147) (by decide +kernel)) (by decide +kernel)
theorem ml_X12_158 : Cond.methodLink RX12 158 md_X12_holds.1 ∈ Tb := Tb_of (List.mem_of_getElem? (i := 1155) (by decide +kernel)) (by decide +kernel)
theorem ml_X12_161 : Cond.methodLink RX12 161 md_X12_adds.1 ∈ Tb := Tb_of (List.mem_of_getElem? (i := 1159) (by decide +kernel)) (by decide +kernel)
theorem kc_X12_165 : Cond.constantLong RX12 165 (4294967295) ∈ Tb := Tb_of (List.mem_of_getElem? (i := 1167) (by decide +kernel)) (by decide +kernel)
theorem ml_X12_167 : Cond.methodLink RX12 167 md_X12_isFrame.1 ∈ Tb := Tb_of (List.mem_of_getElem? (i := 1172) (by decide +kernel)) (by decide +kernel)
theorem ml_X12_171 : Cond.methodLink RX12 171 md_X12_rate.1 ∈ Tb := Tb_of (List.mem_of_getElem? (i := 1180) (by decide +kernel)) (by decide +kernel)
theorem ml_X12_175 : Cond.methodLink RX12 175 md_X12_isGood.1 ∈ Tb := Tb_of (List.mem_of_getElem? (i := 1188) (by decide +kernel)) (by decide +kernel)
theorem ml_X12_178 : Cond.methodLink RX12 178 md_X12_marks.1 ∈ Tb := Tb_of (List.mem_of_getElem? (i := 1204) (by decide +kernel)) (by decide +kernel)
theorem ml_X12_182 : Cond.methodLink RX12 182 md_X12_count.1 ∈ Tb := Tb_of (List.mem_of_getElem? (i := 1208) (by decide +kernel)) (by decide +kernel)
theorem ml_X12_186 : Cond.methodLink RX12 186 md_X12_faulty.1 ∈ Tb := Tb_of (List.mem_of_getElem? (i := 1216) (by decide +kernel)) (by decide +kernel)
theorem ml_X12_189 : Cond.methodLink RX12 189 md_X12_isWithin.1 ∈ Tb := Tb_of (List.mem_of_getElem? (i := 1224) (by decide +kernel)) (by decide +kernel)
theorem ml_X12_193 : Cond.methodLink RX12 193 md_X12_jumps.1 ∈ Tb := Tb_of (List.mem_of_getElem? (i := 1196) (by decide +kernel)) (by decide +kernel)
theorem ml_X12_196 : Cond.methodLink RX12 196 md_X12_missing.1 ∈ Tb := Tb_of (List.mem_of_getElem? (i := 1200) (by decide +kernel)) (by decide +kernel)
theorem ml_X12_199 : Cond.methodLink RX12 199 md_X12_faults.1 ∈ Tb := Tb_of (List.mem_of_getElem? (i := 1212) (by decide +kernel)) (by decide +kernel)
theorem ml_X12_202 : Cond.methodLink RX12 202 md_X12_parentOf.1 ∈ Tb := Tb_of (List.mem_of_getElem? (i := 1220) (by decide +kernel)) (by decide +kernel)
theorem ml_X12_205 : Cond.methodLink RX12 205 md_X12_apart.1 ∈ Tb := Tb_of (List.mem_of_getElem? (i := 1244) (by decide +kernel)) (by decide +kernel)
theorem ml_X12_209 : Cond.methodLink RX12 209 md_X12_isPair.1 ∈ Tb := Tb_of (List.mem_of_getElem? (i := 1240) (by decide +kernel)) (by decide +kernel)
theorem ml_X12_213 : Cond.methodLink RX12 213 md_X12_pairs.1 ∈ Tb := Tb_of (List.mem_of_getElem? (i := 1236) (by decide +kernel)) (by decide +kernel)
theorem kc_X12_217 : Cond.constantFloat RX12 217 3212836864 ∈ Tb := Tb_of (List.mem_of_getElem? (i := 1260) (by decide +kernel)) (by decide +kernel)
theorem kc_X12_218 : Cond.constantFloat RX12 218 1157562368 ∈ Tb := Tb_of (List.mem_of_getElem? (i := 1261) (by decide +kernel)) (by decide +kernel)
theorem fl_X12_219 : Cond.fieldLink RX12 219 (TX12 22).1 (TX12 22).2.1 (TX12 22).2.2.1 ∈ Tb := Tb_of (List.mem_of_getElem? (i := 1013) (by decide +kernel)) (by decide +kernel)
theorem ml_X12_222 : Cond.methodLink RX12 222 md_X12_isVersion.1 ∈ Tb := Tb_of (List.mem_of_getElem? (i := 1270) (by decide +kernel)) (by decide +kernel)
theorem ml_X12_225 : Cond.methodLink RX12 225 md_X12_codes.1 ∈ Tb := Tb_of (List.mem_of_getElem? (i := 1274) (by decide +kernel)) (by decide +kernel)
theorem ml_X12_228 : Cond.methodLink RX12 228 md_X12_isShot.1 ∈ Tb := Tb_of (List.mem_of_getElem? (i := 1286) (by decide +kernel)) (by decide +kernel)
theorem ml_X12_231 : Cond.methodLink RX12 231 md_X12_firstOf.1 ∈ Tb := Tb_of (List.mem_of_getElem? (i := 1302) (by decide +kernel)) (by decide +kernel)
theorem ml_X12_234 : Cond.methodLink RX12 234 md_X12_reelFor.1 ∈ Tb := Tb_of (List.mem_of_getElem? (i := 1298) (by decide +kernel)) (by decide +kernel)
theorem ml_X12_237 : Cond.methodLink RX12 237 md_X12_had.1 ∈ Tb := Tb_of (List.mem_of_getElem? (i := 1294) (by decide +kernel)) (by decide +kernel)
theorem ml_X12_240 : Cond.methodLink RX12 240 md_X12_lasts.1 ∈ Tb := Tb_of (List.mem_of_getElem? (i := 1306) (by decide +kernel)) (by decide +kernel)
theorem fl_X12_243 : Cond.fieldLink RX12 243 (TX12 25).1 (TX12 25).2.1 (TX12 25).2.2.1 ∈ Tb := Tb_of (List.mem_of_getElem? (i := 1016) (by decide +kernel)) (by decide +kernel)
theorem fl_X12_246 : Cond.fieldLink RX12 246 (TX12 31).1 (TX12 31).2.1 (TX12 31).2.2.1 ∈ Tb := Tb_of (List.mem_of_getElem? (i := 1022) (by decide +kernel)) (by decide +kernel)
theorem fl_X12_249 : Cond.fieldLink RX12 249 (TX12 39).1 (TX12 39).2.1 (TX12 39).2.2.1 ∈ Tb := Tb_of (List.mem_of_getElem? (i := 1030) (by decide +kernel)) (by decide +kernel)
theorem fl_X12_252 : Cond.fieldLink RX12 252 (TX12 44).1 (TX12 44).2.1 (TX12 44).2.2.1 ∈ Tb := Tb_of (List.mem_of_getElem? (i := 1035) (by decide +kernel)) (by decide +kernel)
theorem ml_X12_255 : Cond.methodLink RX12 255 md_X12_isPlace.1 ∈ Tb := Tb_of (List.mem_of_getElem? (i := 1338) (by decide +kernel)) (by decide +kernel)
theorem ml_X12_258 : Cond.methodLink RX12 258 md_X12_isFree.1 ∈ Tb := Tb_of (List.mem_of_getElem? (i := 1358) (by decide +kernel)) (by decide +kernel)
theorem ml_X12_261 : Cond.methodLink RX12 261 md_X12_unlike.1 ∈ Tb := Tb_of (List.mem_of_getElem? (i := 1380) (by decide +kernel)) (by decide +kernel)
theorem kc_X12_264 : Cond.constantLong RX12 264 (255) ∈ Tb := Tb_of (List.mem_of_getElem? (i := 1374) (by decide +kernel)) (by decide +kernel)
theorem kc_X12_266 : Cond.constantLong RX12 266 (-1) ∈ Tb := Tb_of (List.mem_of_getElem? (i := 1375) (by decide +kernel)) (by decide +kernel)
theorem ml_X12_268 : Cond.methodLink RX12 268 md_X12_between.1 ∈ Tb := Tb_of (List.mem_of_getElem? (i := 1366) (by decide +kernel)) (by decide +kernel)
theorem ml_X12_271 : Cond.methodLink RX12 271 md_X12_set.1 ∈ Tb := Tb_of (List.mem_of_getElem? (i := 1370) (by decide +kernel)) (by decide +kernel)
theorem ml_X12_275 : Cond.methodLink RX12 275 md_X12_keep.1 ∈ Tb := Tb_of (List.mem_of_getElem? (i := 1350) (by decide +kernel)) (by decide +kernel)
theorem ml_X12_278 : Cond.methodLink RX12 278 md_X12_hasBoth.1 ∈ Tb := Tb_of (List.mem_of_getElem? (i := 1354) (by decide +kernel)) (by decide +kernel)
theorem ml_X12_281 : Cond.methodLink RX12 281 md_X12_cleaned.1 ∈ Tb := Tb_of (List.mem_of_getElem? (i := 1362) (by decide +kernel)) (by decide +kernel)
theorem ml_X12_285 : Cond.methodLink RX12 285 md_X12_changes.1 ∈ Tb := Tb_of (List.mem_of_getElem? (i := 1376) (by decide +kernel)) (by decide +kernel)
theorem ml_X12_288 : Cond.methodLink RX12 288 md_X12_sumOf.1 ∈ Tb := Tb_of (List.mem_of_getElem? (i := 1396) (by decide +kernel)) (by decide +kernel)
theorem ml_X12_292 : Cond.methodLink RX12 292 md_X12_levelled.1 ∈ Tb := Tb_of (List.mem_of_getElem? (i := 1392) (by decide +kernel)) (by decide +kernel)
theorem ml_X12_296 : Cond.methodLink RX12 296 md_X12_isLast.1 ∈ Tb := Tb_of (List.mem_of_getElem? (i := 1404) (by decide +kernel)) (by decide +kernel)
theorem ml_X12_299 : Cond.methodLink RX12 299 md_X12_changesOf.1 ∈ Tb := Tb_of (List.mem_of_getElem? (i := 1412) (by decide +kernel)) (by decide +kernel)
theorem kc_X12_302 : Cond.constantLong RX12 302 (1469598103934665603) ∈ Tb := Tb_of (List.mem_of_getElem? (i := 1424) (by decide +kernel)) (by decide +kernel)
theorem kc_X12_304 : Cond.constantLong RX12 304 (1099511628211) ∈ Tb := Tb_of (List.mem_of_getElem? (i := 1425) (by decide +kernel)) (by decide +kernel)
theorem ml_J7_316 : Cond.methodLink RJ7 316 ⟨"[I", "clone", "()Ljava/lang/Object;"⟩ ∈ Tb := Tb_of (List.mem_of_getElem? (i := 442) (by decide +kernel)) (by decide +kernel)
theorem kl_J7_317 : Cond.classLink RJ7 317 "[I" ∈ Tb := Tb_of (List.mem_of_getElem? (i := 448) (by decide +kernel)) (by decide +kernel)
theorem ml_J7_304 : Cond.methodLink RJ7 304 ⟨"java/lang/Math", "min", "(II)I"⟩ ∈ Tb := Tb_of (List.mem_of_getElem? (i := 449) (by decide +kernel)) (by decide +kernel)
theorem ml_J7_150 : Cond.methodLink RJ7 150 ⟨"java/lang/System", "arraycopy", "(Ljava/lang/Object;ILjava/lang/Object;II)V"⟩ ∈ Tb := Tb_of (List.mem_of_getElem? (i := 450) (by decide +kernel)) (by decide +kernel)
theorem ml_J7_319 : Cond.methodLink RJ7 319 ⟨"[J", "clone", "()Ljava/lang/Object;"⟩ ∈ Tb := Tb_of (List.mem_of_getElem? (i := 456) (by decide +kernel)) (by decide +kernel)
theorem kl_J7_320 : Cond.classLink RJ7 320 "[J" ∈ Tb := Tb_of (List.mem_of_getElem? (i := 460) (by decide +kernel)) (by decide +kernel)
theorem ml_L_7 : Cond.methodLink RL 7 md_X11_reel.1 ∈ Tb := Tb_of (List.mem_of_getElem? (i := 477) (by decide +kernel)) (by decide +kernel)
theorem ml_L_19 : Cond.methodLink RL 19 md_X11_frame.1 ∈ Tb := Tb_of (List.mem_of_getElem? (i := 607) (by decide +kernel)) (by decide +kernel)
theorem ml_L_23 : Cond.methodLink RL 23 md_X11_splice.1 ∈ Tb := Tb_of (List.mem_of_getElem? (i := 621) (by decide +kernel)) (by decide +kernel)
theorem ml_L_27 : Cond.methodLink RL 27 md_X11_cold.1 ∈ Tb := Tb_of (List.mem_of_getElem? (i := 632) (by decide +kernel)) (by decide +kernel)
theorem ml_L_31 : Cond.methodLink RL 31 md_X11_copy.1 ∈ Tb := Tb_of (List.mem_of_getElem? (i := 647) (by decide +kernel)) (by decide +kernel)
theorem ml_L_35 : Cond.methodLink RL 35 md_X11_ofReel.1 ∈ Tb := Tb_of (List.mem_of_getElem? (i := 664) (by decide +kernel)) (by decide +kernel)
theorem ml_L_38 : Cond.methodLink RL 38 md_X11_tolerance.1 ∈ Tb := Tb_of (List.mem_of_getElem? (i := 700) (by decide +kernel)) (by decide +kernel)
theorem ml_L_41 : Cond.methodLink RL 41 md_X11_align.1 ∈ Tb := Tb_of (List.mem_of_getElem? (i := 707) (by decide +kernel)) (by decide +kernel)
theorem ml_L_44 : Cond.methodLink RL 44 md_X11_pairOf.1 ∈ Tb := Tb_of (List.mem_of_getElem? (i := 726) (by decide +kernel)) (by decide +kernel)
theorem ml_L_48 : Cond.methodLink RL 48 md_X11_alike.1 ∈ Tb := Tb_of (List.mem_of_getElem? (i := 738) (by decide +kernel)) (by decide +kernel)
theorem ml_L_52 : Cond.methodLink RL 52 md_X11_version.1 ∈ Tb := Tb_of (List.mem_of_getElem? (i := 747) (by decide +kernel)) (by decide +kernel)
theorem ml_L_55 : Cond.methodLink RL 55 md_X11_shot.1 ∈ Tb := Tb_of (List.mem_of_getElem? (i := 758) (by decide +kernel)) (by decide +kernel)
theorem ml_L_58 : Cond.methodLink RL 58 md_X11_proof.1 ∈ Tb := Tb_of (List.mem_of_getElem? (i := 773) (by decide +kernel)) (by decide +kernel)
theorem ml_L_61 : Cond.methodLink RL 61 md_X11_speed.1 ∈ Tb := Tb_of (List.mem_of_getElem? (i := 780) (by decide +kernel)) (by decide +kernel)
theorem ml_L_64 : Cond.methodLink RL 64 md_X11_ofVersion.1 ∈ Tb := Tb_of (List.mem_of_getElem? (i := 787) (by decide +kernel)) (by decide +kernel)
theorem ml_L_67 : Cond.methodLink RL 67 md_X11_scrap.1 ∈ Tb := Tb_of (List.mem_of_getElem? (i := 812) (by decide +kernel)) (by decide +kernel)
theorem ml_L_70 : Cond.methodLink RL 70 md_X11_tint.1 ∈ Tb := Tb_of (List.mem_of_getElem? (i := 827) (by decide +kernel)) (by decide +kernel)
theorem ml_L_73 : Cond.methodLink RL 73 md_X11_right.1 ∈ Tb := Tb_of (List.mem_of_getElem? (i := 840) (by decide +kernel)) (by decide +kernel)
theorem ml_L_76 : Cond.methodLink RL 76 md_X11_allow.1 ∈ Tb := Tb_of (List.mem_of_getElem? (i := 851) (by decide +kernel)) (by decide +kernel)
theorem ml_L_80 : Cond.methodLink RL 80 md_X11_mayShow.1 ∈ Tb := Tb_of (List.mem_of_getElem? (i := 858) (by decide +kernel)) (by decide +kernel)
theorem ml_L_84 : Cond.methodLink RL 84 md_X11_edition.1 ∈ Tb := Tb_of (List.mem_of_getElem? (i := 870) (by decide +kernel)) (by decide +kernel)
theorem ml_L_87 : Cond.methodLink RL 87 md_X11_protect.1 ∈ Tb := Tb_of (List.mem_of_getElem? (i := 898) (by decide +kernel)) (by decide +kernel)
theorem ml_L_91 : Cond.methodLink RL 91 md_X11_limit.1 ∈ Tb := Tb_of (List.mem_of_getElem? (i := 909) (by decide +kernel)) (by decide +kernel)
theorem ml_L_94 : Cond.methodLink RL 94 md_X11_dirt.1 ∈ Tb := Tb_of (List.mem_of_getElem? (i := 916) (by decide +kernel)) (by decide +kernel)
theorem ml_L_97 : Cond.methodLink RL 97 md_X11_scratch.1 ∈ Tb := Tb_of (List.mem_of_getElem? (i := 932) (by decide +kernel)) (by decide +kernel)
theorem ml_L_100 : Cond.methodLink RL 100 md_X11_takeBack.1 ∈ Tb := Tb_of (List.mem_of_getElem? (i := 949) (by decide +kernel)) (by decide +kernel)
theorem ml_L_103 : Cond.methodLink RL 103 md_X11_ofFrame.1 ∈ Tb := Tb_of (List.mem_of_getElem? (i := 964) (by decide +kernel)) (by decide +kernel)
theorem ml_L_106 : Cond.methodLink RL 106 md_X11_seen.1 ∈ Tb := Tb_of (List.mem_of_getElem? (i := 972) (by decide +kernel)) (by decide +kernel)
theorem ml_L_110 : Cond.methodLink RL 110 md_X11_pass.1 ∈ Tb := Tb_of (List.mem_of_getElem? (i := 979) (by decide +kernel)) (by decide +kernel)
theorem kl_L_8 : Cond.classLink RL 8 "Reelrescue" ∈ Tb := Tb_of (List.mem_of_getElem? (i := 72) (by decide +kernel)) (by decide +kernel)
theorem ml_L_113 : Cond.methodLink RL 113 md_X11_init.1 ∈ Tb := Tb_of (List.mem_of_getElem? (i := 74) (by decide +kernel)) (by decide +kernel)
theorem kl_L_114 : Cond.classLink RL 114 "ReelrescueModel" ∈ Tb := Tb_of (List.mem_of_getElem? (i := 984) (by decide +kernel)) (by decide +kernel)
theorem ml_L_116 : Cond.methodLink RL 116 md_X12_init.1 ∈ Tb := Tb_of (List.mem_of_getElem? (i := 986) (by decide +kernel)) (by decide +kernel)
theorem ml_L_117 : Cond.methodLink RL 117 ⟨"ReelrescueLaw", "reel", "(LReelrescue;IIIII[J)I"⟩ ∈ Tb := Tb_of (List.mem_of_getElem? (i := 471) (by decide +kernel)) (by decide +kernel)
theorem ml_L_122 : Cond.methodLink RL 122 md_X12_reel.1 ∈ Tb := Tb_of (List.mem_of_getElem? (i := 1143) (by decide +kernel)) (by decide +kernel)
theorem ml_L_123 : Cond.methodLink RL 123 md_X12_thrown.1 ∈ Tb := Tb_of (List.mem_of_getElem? (i := 1139) (by decide +kernel)) (by decide +kernel)
theorem ml_L_127 : Cond.methodLink RL 127 ⟨"ReelrescueLaw", "frame", "(LReelrescue;IIII[J)I"⟩ ∈ Tb := Tb_of (List.mem_of_getElem? (i := 604) (by decide +kernel)) (by decide +kernel)
theorem ml_L_130 : Cond.methodLink RL 130 md_X12_frame.1 ∈ Tb := Tb_of (List.mem_of_getElem? (i := 1163) (by decide +kernel)) (by decide +kernel)
theorem ml_L_131 : Cond.methodLink RL 131 ⟨"ReelrescueLaw", "splice", "(LReelrescue;II[J)I"⟩ ∈ Tb := Tb_of (List.mem_of_getElem? (i := 618) (by decide +kernel)) (by decide +kernel)
theorem ml_L_134 : Cond.methodLink RL 134 md_X12_splice.1 ∈ Tb := Tb_of (List.mem_of_getElem? (i := 1168) (by decide +kernel)) (by decide +kernel)
theorem ml_L_135 : Cond.methodLink RL 135 ⟨"ReelrescueLaw", "cold", "(LReelrescue;IZ[J)I"⟩ ∈ Tb := Tb_of (List.mem_of_getElem? (i := 629) (by decide +kernel)) (by decide +kernel)
theorem ml_L_138 : Cond.methodLink RL 138 md_X12_cold.1 ∈ Tb := Tb_of (List.mem_of_getElem? (i := 1176) (by decide +kernel)) (by decide +kernel)
theorem ml_L_139 : Cond.methodLink RL 139 ⟨"ReelrescueLaw", "copy", "(LReelrescue;I[J)I"⟩ ∈ Tb := Tb_of (List.mem_of_getElem? (i := 644) (by decide +kernel)) (by decide +kernel)
theorem ml_L_142 : Cond.methodLink RL 142 md_X12_copy.1 ∈ Tb := Tb_of (List.mem_of_getElem? (i := 1184) (by decide +kernel)) (by decide +kernel)
theorem ml_L_143 : Cond.methodLink RL 143 ⟨"ReelrescueLaw", "ofReel", "(LReelrescue;II[J)I"⟩ ∈ Tb := Tb_of (List.mem_of_getElem? (i := 661) (by decide +kernel)) (by decide +kernel)
theorem ml_L_145 : Cond.methodLink RL 145 md_X12_ofReel.1 ∈ Tb := Tb_of (List.mem_of_getElem? (i := 1192) (by decide +kernel)) (by decide +kernel)
theorem ml_L_146 : Cond.methodLink RL 146 ⟨"ReelrescueLaw", "tolerance", "(LReelrescue;I[J)I"⟩ ∈ Tb := Tb_of (List.mem_of_getElem? (i := 697) (by decide +kernel)) (by decide +kernel)
theorem ml_L_148 : Cond.methodLink RL 148 md_X12_tolerance.1 ∈ Tb := Tb_of (List.mem_of_getElem? (i := 1228) (by decide +kernel)) (by decide +kernel)
theorem ml_L_149 : Cond.methodLink RL 149 ⟨"ReelrescueLaw", "align", "(LReelrescue;II[J)I"⟩ ∈ Tb := Tb_of (List.mem_of_getElem? (i := 704) (by decide +kernel)) (by decide +kernel)
theorem ml_L_151 : Cond.methodLink RL 151 md_X12_align.1 ∈ Tb := Tb_of (List.mem_of_getElem? (i := 1232) (by decide +kernel)) (by decide +kernel)
theorem ml_L_152 : Cond.methodLink RL 152 ⟨"ReelrescueLaw", "pairOf", "(LReelrescue;III[J)I"⟩ ∈ Tb := Tb_of (List.mem_of_getElem? (i := 723) (by decide +kernel)) (by decide +kernel)
theorem ml_L_155 : Cond.methodLink RL 155 md_X12_pairOf.1 ∈ Tb := Tb_of (List.mem_of_getElem? (i := 1252) (by decide +kernel)) (by decide +kernel)
theorem ml_L_156 : Cond.methodLink RL 156 ⟨"ReelrescueLaw", "alike", "(LReelrescue;IIII[D)I"⟩ ∈ Tb := Tb_of (List.mem_of_getElem? (i := 735) (by decide +kernel)) (by decide +kernel)
theorem ml_L_159 : Cond.methodLink RL 159 md_X12_alike.1 ∈ Tb := Tb_of (List.mem_of_getElem? (i := 1256) (by decide +kernel)) (by decide +kernel)
theorem ml_L_160 : Cond.methodLink RL 160 ⟨"ReelrescueLaw", "version", "(LReelrescue;II[J)I"⟩ ∈ Tb := Tb_of (List.mem_of_getElem? (i := 744) (by decide +kernel)) (by decide +kernel)
theorem ml_L_162 : Cond.methodLink RL 162 md_X12_version.1 ∈ Tb := Tb_of (List.mem_of_getElem? (i := 1262) (by decide +kernel)) (by decide +kernel)
theorem ml_L_163 : Cond.methodLink RL 163 ⟨"ReelrescueLaw", "shot", "(LReelrescue;III[J)I"⟩ ∈ Tb := Tb_of (List.mem_of_getElem? (i := 755) (by decide +kernel)) (by decide +kernel)
theorem ml_L_165 : Cond.methodLink RL 165 md_X12_shot.1 ∈ Tb := Tb_of (List.mem_of_getElem? (i := 1266) (by decide +kernel)) (by decide +kernel)
theorem ml_L_166 : Cond.methodLink RL 166 ⟨"ReelrescueLaw", "proof", "(LReelrescue;I[J)I"⟩ ∈ Tb := Tb_of (List.mem_of_getElem? (i := 770) (by decide +kernel)) (by decide +kernel)
theorem ml_L_168 : Cond.methodLink RL 168 md_X12_proof.1 ∈ Tb := Tb_of (List.mem_of_getElem? (i := 1278) (by decide +kernel)) (by decide +kernel)
theorem ml_L_169 : Cond.methodLink RL 169 ⟨"ReelrescueLaw", "speed", "(LReelrescue;III[J)I"⟩ ∈ Tb := Tb_of (List.mem_of_getElem? (i := 777) (by decide +kernel)) (by decide +kernel)
theorem ml_L_171 : Cond.methodLink RL 171 md_X12_speed.1 ∈ Tb := Tb_of (List.mem_of_getElem? (i := 1282) (by decide +kernel)) (by decide +kernel)
theorem ml_L_172 : Cond.methodLink RL 172 ⟨"ReelrescueLaw", "ofVersion", "(LReelrescue;II[J)I"⟩ ∈ Tb := Tb_of (List.mem_of_getElem? (i := 784) (by decide +kernel)) (by decide +kernel)
theorem ml_L_174 : Cond.methodLink RL 174 md_X12_ofVersion.1 ∈ Tb := Tb_of (List.mem_of_getElem? (i := 1290) (by decide +kernel)) (by decide +kernel)
theorem ml_L_175 : Cond.methodLink RL 175 ⟨"ReelrescueLaw", "scrap", "(LReelrescue;II[J)I"⟩ ∈ Tb := Tb_of (List.mem_of_getElem? (i := 809) (by decide +kernel)) (by decide +kernel)
theorem ml_L_177 : Cond.methodLink RL 177 md_X12_scrap.1 ∈ Tb := Tb_of (List.mem_of_getElem? (i := 1310) (by decide +kernel)) (by decide +kernel)
theorem ml_L_178 : Cond.methodLink RL 178 ⟨"ReelrescueLaw", "tint", "(LReelrescue;II[J)I"⟩ ∈ Tb := Tb_of (List.mem_of_getElem? (i := 824) (by decide +kernel)) (by decide +kernel)
theorem ml_L_180 : Cond.methodLink RL 180 md_X12_tint.1 ∈ Tb := Tb_of (List.mem_of_getElem? (i := 1314) (by decide +kernel)) (by decide +kernel)
theorem ml_L_181 : Cond.methodLink RL 181 ⟨"ReelrescueLaw", "right", "(LReelrescue;IIIII[J)I"⟩ ∈ Tb := Tb_of (List.mem_of_getElem? (i := 837) (by decide +kernel)) (by decide +kernel)
theorem ml_L_183 : Cond.methodLink RL 183 md_X12_right.1 ∈ Tb := Tb_of (List.mem_of_getElem? (i := 1318) (by decide +kernel)) (by decide +kernel)
theorem ml_L_184 : Cond.methodLink RL 184 ⟨"ReelrescueLaw", "allow", "(LReelrescue;IIZ[J)I"⟩ ∈ Tb := Tb_of (List.mem_of_getElem? (i := 848) (by decide +kernel)) (by decide +kernel)
theorem ml_L_187 : Cond.methodLink RL 187 md_X12_allow.1 ∈ Tb := Tb_of (List.mem_of_getElem? (i := 1322) (by decide +kernel)) (by decide +kernel)
theorem ml_L_188 : Cond.methodLink RL 188 ⟨"ReelrescueLaw", "mayShow", "(LReelrescue;III[J)I"⟩ ∈ Tb := Tb_of (List.mem_of_getElem? (i := 855) (by decide +kernel)) (by decide +kernel)
theorem ml_L_190 : Cond.methodLink RL 190 md_X12_mayShow.1 ∈ Tb := Tb_of (List.mem_of_getElem? (i := 1326) (by decide +kernel)) (by decide +kernel)
theorem ml_L_191 : Cond.methodLink RL 191 ⟨"ReelrescueLaw", "edition", "(LReelrescue;I[J)I"⟩ ∈ Tb := Tb_of (List.mem_of_getElem? (i := 867) (by decide +kernel)) (by decide +kernel)
theorem ml_L_193 : Cond.methodLink RL 193 md_X12_edition.1 ∈ Tb := Tb_of (List.mem_of_getElem? (i := 1330) (by decide +kernel)) (by decide +kernel)
theorem ml_L_194 : Cond.methodLink RL 194 ⟨"ReelrescueLaw", "protect", "(LReelrescue;IZ[J)I"⟩ ∈ Tb := Tb_of (List.mem_of_getElem? (i := 895) (by decide +kernel)) (by decide +kernel)
theorem ml_L_196 : Cond.methodLink RL 196 md_X12_protect.1 ∈ Tb := Tb_of (List.mem_of_getElem? (i := 1334) (by decide +kernel)) (by decide +kernel)
theorem ml_L_197 : Cond.methodLink RL 197 ⟨"ReelrescueLaw", "limit", "(LReelrescue;I[J)I"⟩ ∈ Tb := Tb_of (List.mem_of_getElem? (i := 906) (by decide +kernel)) (by decide +kernel)
theorem ml_L_199 : Cond.methodLink RL 199 md_X12_limit.1 ∈ Tb := Tb_of (List.mem_of_getElem? (i := 1342) (by decide +kernel)) (by decide +kernel)
theorem ml_L_200 : Cond.methodLink RL 200 ⟨"ReelrescueLaw", "dirt", "(LReelrescue;I[J)I"⟩ ∈ Tb := Tb_of (List.mem_of_getElem? (i := 913) (by decide +kernel)) (by decide +kernel)
theorem ml_L_202 : Cond.methodLink RL 202 md_X12_dirt.1 ∈ Tb := Tb_of (List.mem_of_getElem? (i := 1346) (by decide +kernel)) (by decide +kernel)
theorem ml_L_203 : Cond.methodLink RL 203 ⟨"ReelrescueLaw", "scratch", "(LReelrescue;IIII[J)I"⟩ ∈ Tb := Tb_of (List.mem_of_getElem? (i := 929) (by decide +kernel)) (by decide +kernel)
theorem ml_L_205 : Cond.methodLink RL 205 md_X12_scratch.1 ∈ Tb := Tb_of (List.mem_of_getElem? (i := 1384) (by decide +kernel)) (by decide +kernel)
theorem ml_L_206 : Cond.methodLink RL 206 md_X11_flicker.1 ∈ Tb := Tb_of (List.mem_of_getElem? (i := 359) (by decide +kernel)) (by decide +kernel)
theorem ml_L_209 : Cond.methodLink RL 209 md_X12_flicker.1 ∈ Tb := Tb_of (List.mem_of_getElem? (i := 1388) (by decide +kernel)) (by decide +kernel)
theorem ml_L_210 : Cond.methodLink RL 210 ⟨"ReelrescueLaw", "takeBack", "(LReelrescue;I[J)I"⟩ ∈ Tb := Tb_of (List.mem_of_getElem? (i := 946) (by decide +kernel)) (by decide +kernel)
theorem ml_L_212 : Cond.methodLink RL 212 md_X12_takeBack.1 ∈ Tb := Tb_of (List.mem_of_getElem? (i := 1400) (by decide +kernel)) (by decide +kernel)
theorem ml_L_213 : Cond.methodLink RL 213 ⟨"ReelrescueLaw", "ofFrame", "(LReelrescue;II[J)I"⟩ ∈ Tb := Tb_of (List.mem_of_getElem? (i := 961) (by decide +kernel)) (by decide +kernel)
theorem ml_L_215 : Cond.methodLink RL 215 md_X12_ofFrame.1 ∈ Tb := Tb_of (List.mem_of_getElem? (i := 1408) (by decide +kernel)) (by decide +kernel)
theorem ml_L_216 : Cond.methodLink RL 216 ⟨"ReelrescueLaw", "seen", "(LReelrescue;I[J)I"⟩ ∈ Tb := Tb_of (List.mem_of_getElem? (i := 969) (by decide +kernel)) (by decide +kernel)
theorem ml_L_218 : Cond.methodLink RL 218 md_X12_seen.1 ∈ Tb := Tb_of (List.mem_of_getElem? (i := 1416) (by decide +kernel)) (by decide +kernel)
theorem ml_L_219 : Cond.methodLink RL 219 md_X11_sum.1 ∈ Tb := Tb_of (List.mem_of_getElem? (i := 461) (by decide +kernel)) (by decide +kernel)
theorem ml_L_223 : Cond.methodLink RL 223 md_X12_sum.1 ∈ Tb := Tb_of (List.mem_of_getElem? (i := 1420) (by decide +kernel)) (by decide +kernel)
theorem ml_L_224 : Cond.methodLink RL 224 ⟨"ReelrescueLaw", "pass", "(LReelrescue;I[J)I"⟩ ∈ Tb := Tb_of (List.mem_of_getElem? (i := 976) (by decide +kernel)) (by decide +kernel)
theorem ml_L_226 : Cond.methodLink RL 226 md_X12_pass.1 ∈ Tb := Tb_of (List.mem_of_getElem? (i := 1426) (by decide +kernel)) (by decide +kernel)
theorem ac_int : Cond.arrayClass .int ∈ Tb := Tb_of (List.mem_of_getElem? (i := 94) (by decide +kernel)) (by decide +kernel)
theorem ac_long : Cond.arrayClass .long ∈ Tb := Tb_of (List.mem_of_getElem? (i := 149) (by decide +kernel)) (by decide +kernel)
theorem ac_boolean : Cond.arrayClass .boolean ∈ Tb := Tb_of (List.mem_of_getElem? (i := 270) (by decide +kernel)) (by decide +kernel)
theorem ac_double : Cond.arrayClass .double ∈ Tb := Tb_of (List.mem_of_getElem? (i := 1430) (by decide +kernel)) (by decide +kernel)
theorem nat_ac : Cond.native arraycopyName ∈ Tb := Tb_of (List.mem_of_getElem? (i := 452) (by decide +kernel)) (by decide +kernel)
theorem st_ac : Cond.static arraycopyName ∈ Tb := Tb_of (List.mem_of_getElem? (i := 451) (by decide +kernel)) (by decide +kernel)
theorem ini_Sys : Cond.initialized "java/lang/System" ∈ Tb := Tb_of (List.mem_of_getElem? (i := 70) (by decide +kernel)) (by decide +kernel)
theorem sm_mended : Cond.sameMethod RX5 RX5 "mended" "(JJJ)J" ∈ Tb := Tb_of (List.mem_of_getElem? (i := 387) (by decide +kernel)) (by decide +kernel)
theorem sel_X1_mended : Cond.selects RX1 ⟨RX5, "mended", "(JJJ)J"⟩ yX1_mended ∈ Tb := Tb_of (List.mem_of_getElem? (i := 388) (by decide +kernel)) (by decide +kernel)
theorem in_X1_mended : Cond.instanceMethod yX1_mended ∈ Tb := Tb_of (List.mem_of_getElem? (i := 389) (by decide +kernel)) (by decide +kernel)
set_option maxRecDepth 100000 in
theorem co_X1_mended : mcode md_X1_mended ∈ Tb := Tb_code 390 rfl rfl
theorem sel_X4_mended : Cond.selects RX4 ⟨RX5, "mended", "(JJJ)J"⟩ yX4_mended ∈ Tb := Tb_of (List.mem_of_getElem? (i := 407) (by decide +kernel)) (by decide +kernel)
theorem in_X4_mended : Cond.instanceMethod yX4_mended ∈ Tb := Tb_of (List.mem_of_getElem? (i := 408) (by decide +kernel)) (by decide +kernel)
set_option maxRecDepth 100000 in
theorem co_X4_mended : mcode md_X4_mended ∈ Tb := Tb_code 409 rfl rfl
theorem it_X11 : Cond.instantiable RX11 10 ∈ Tb := Tb_of (List.mem_of_getElem? (i := 73) (by decide +kernel)) (by decide +kernel)
theorem it_X6 : Cond.instantiable RX6 1 ∈ Tb := Tb_of (List.mem_of_getElem? (i := 83) (by decide +kernel)) (by decide +kernel)
theorem it_X9 : Cond.instantiable RX9 4 ∈ Tb := Tb_of (List.mem_of_getElem? (i := 98) (by decide +kernel)) (by decide +kernel)
theorem it_X2 : Cond.instantiable RX2 4 ∈ Tb := Tb_of (List.mem_of_getElem? (i := 118) (by decide +kernel)) (by decide +kernel)
theorem it_X0 : Cond.instantiable RX0 4 ∈ Tb := Tb_of (List.mem_of_getElem? (i := 126) (by decide +kernel)) (by decide +kernel)
theorem it_X3 : Cond.instantiable RX3 8 ∈ Tb := Tb_of (List.mem_of_getElem? (i := 150) (by decide +kernel)) (by decide +kernel)
theorem it_X8 : Cond.instantiable RX8 15 ∈ Tb := Tb_of (List.mem_of_getElem? (i := 208) (by decide +kernel)) (by decide +kernel)
theorem it_X10 : Cond.instantiable RX10 14 ∈ Tb := Tb_of (List.mem_of_getElem? (i := 271) (by decide +kernel)) (by decide +kernel)
theorem it_X4 : Cond.instantiable RX4 0 ∈ Tb := Tb_of (List.mem_of_getElem? (i := 364) (by decide +kernel)) (by decide +kernel)
theorem it_X1 : Cond.instantiable RX1 1 ∈ Tb := Tb_of (List.mem_of_getElem? (i := 397) (by decide +kernel)) (by decide +kernel)
theorem it_X12 : Cond.instantiable RX12 49 ∈ Tb := Tb_of (List.mem_of_getElem? (i := 985) (by decide +kernel)) (by decide +kernel)
theorem oi_in : Cond.instanceMethod Lib.objectInit ∈ Tb := Tb_of (List.mem_of_getElem? (i := 78) (by decide +kernel)) (by decide +kernel)
set_option maxRecDepth 100000 in
theorem oi_code : Cond.code Lib.objectInit ⟨#[0xb1]⟩ 1 none ∈ Tb := Tb_of (List.mem_of_getElem? (i := 79) (by decide +kernel)) (by decide +kernel)
theorem ao_X8 : Cond.arrayOver (.object RX8) ∈ lw_tbl := List.mem_of_getElem? (i := 81) (by decide +kernel)
theorem ao_int : Cond.arrayOver (.array .int) ∈ lw_tbl := List.mem_of_getElem? (i := 89) (by decide +kernel)
theorem ao_X10 : Cond.arrayOver (.object RX10) ∈ lw_tbl := List.mem_of_getElem? (i := 96) (by decide +kernel)
theorem ao_X3 : Cond.arrayOver (.object RX3) ∈ lw_tbl := List.mem_of_getElem? (i := 124) (by decide +kernel)
def md_L_reel : Md := (yL_reel, cL_reel, 8, (some .int), 9, 158)
def hh_L_reel : List (Nat × Nat × Nat × Nat) := [(0, 16, 19, 13), (0, 16, 23, 15), (0, 16, 27, 17)]
set_option maxRecDepth 100000 in
theorem cw_L_reel : Cond.codeWith yL_reel cL_reel 8 (some .int) hh_L_reel ∈ Tb := Tb_code 473 rfl rfl
theorem st_L_reel : Cond.static yL_reel ∈ Tb := Tb_of (List.mem_of_getElem? (i := 472) (by decide +kernel)) (by decide +kernel)
def md_L_frame : Md := (yL_frame, cL_frame, 7, (some .int), 9, 157)
def hh_L_frame : List (Nat × Nat × Nat × Nat) := [(0, 14, 17, 13), (0, 14, 21, 15), (0, 14, 25, 17)]
set_option maxRecDepth 100000 in
theorem cw_L_frame : Cond.codeWith yL_frame cL_frame 7 (some .int) hh_L_frame ∈ Tb := Tb_code 606 rfl rfl
theorem st_L_frame : Cond.static yL_frame ∈ Tb := Tb_of (List.mem_of_getElem? (i := 605) (by decide +kernel)) (by decide +kernel)
def md_L_splice : Md := (yL_splice, cL_splice, 5, (some .int), 9, 155)
def hh_L_splice : List (Nat × Nat × Nat × Nat) := [(0, 10, 13, 13)]
set_option maxRecDepth 100000 in
theorem cw_L_splice : Cond.codeWith yL_splice cL_splice 5 (some .int) hh_L_splice ∈ Tb := Tb_code 620 rfl rfl
theorem st_L_splice : Cond.static yL_splice ∈ Tb := Tb_of (List.mem_of_getElem? (i := 619) (by decide +kernel)) (by decide +kernel)
def md_L_cold : Md := (yL_cold, cL_cold, 5, (some .int), 9, 155)
def hh_L_cold : List (Nat × Nat × Nat × Nat) := [(0, 10, 13, 13)]
set_option maxRecDepth 100000 in
theorem cw_L_cold : Cond.codeWith yL_cold cL_cold 5 (some .int) hh_L_cold ∈ Tb := Tb_code 631 rfl rfl
theorem st_L_cold : Cond.static yL_cold ∈ Tb := Tb_of (List.mem_of_getElem? (i := 630) (by decide +kernel)) (by decide +kernel)
def md_L_copy : Md := (yL_copy, cL_copy, 4, (some .int), 9, 155)
def hh_L_copy : List (Nat × Nat × Nat × Nat) := [(0, 9, 12, 13), (0, 9, 15, 17)]
set_option maxRecDepth 100000 in
theorem cw_L_copy : Cond.codeWith yL_copy cL_copy 4 (some .int) hh_L_copy ∈ Tb := Tb_code 646 rfl rfl
theorem st_L_copy : Cond.static yL_copy ∈ Tb := Tb_of (List.mem_of_getElem? (i := 645) (by decide +kernel)) (by decide +kernel)
def md_L_ofReel : Md := (yL_ofReel, cL_ofReel, 5, (some .int), 9, 155)
def hh_L_ofReel : List (Nat × Nat × Nat × Nat) := [(0, 10, 13, 13), (0, 10, 17, 15)]
set_option maxRecDepth 100000 in
theorem cw_L_ofReel : Cond.codeWith yL_ofReel cL_ofReel 5 (some .int) hh_L_ofReel ∈ Tb := Tb_code 663 rfl rfl
theorem st_L_ofReel : Cond.static yL_ofReel ∈ Tb := Tb_of (List.mem_of_getElem? (i := 662) (by decide +kernel)) (by decide +kernel)
def md_L_tolerance : Md := (yL_tolerance, cL_tolerance, 4, (some .int), 8, 132)
def hh_L_tolerance : List (Nat × Nat × Nat × Nat) := [(0, 9, 12, 15)]
set_option maxRecDepth 100000 in
theorem cw_L_tolerance : Cond.codeWith yL_tolerance cL_tolerance 4 (some .int) hh_L_tolerance ∈ Tb := Tb_code 699 rfl rfl
theorem st_L_tolerance : Cond.static yL_tolerance ∈ Tb := Tb_of (List.mem_of_getElem? (i := 698) (by decide +kernel)) (by decide +kernel)
def md_L_align : Md := (yL_align, cL_align, 5, (some .int), 9, 156)
def hh_L_align : List (Nat × Nat × Nat × Nat) := [(0, 10, 13, 13), (0, 10, 17, 17)]
set_option maxRecDepth 100000 in
theorem cw_L_align : Cond.codeWith yL_align cL_align 5 (some .int) hh_L_align ∈ Tb := Tb_code 706 rfl rfl
theorem st_L_align : Cond.static yL_align ∈ Tb := Tb_of (List.mem_of_getElem? (i := 705) (by decide +kernel)) (by decide +kernel)
def md_L_pairOf : Md := (yL_pairOf, cL_pairOf, 6, (some .int), 9, 157)
def hh_L_pairOf : List (Nat × Nat × Nat × Nat) := [(0, 12, 15, 13), (0, 12, 19, 17)]
set_option maxRecDepth 100000 in
theorem cw_L_pairOf : Cond.codeWith yL_pairOf cL_pairOf 6 (some .int) hh_L_pairOf ∈ Tb := Tb_code 725 rfl rfl
theorem st_L_pairOf : Cond.static yL_pairOf ∈ Tb := Tb_of (List.mem_of_getElem? (i := 724) (by decide +kernel)) (by decide +kernel)
def md_L_alike : Md := (yL_alike, cL_alike, 7, (some .int), 9, 159)
def hh_L_alike : List (Nat × Nat × Nat × Nat) := [(0, 14, 17, 13)]
set_option maxRecDepth 100000 in
theorem cw_L_alike : Cond.codeWith yL_alike cL_alike 7 (some .int) hh_L_alike ∈ Tb := Tb_code 737 rfl rfl
theorem st_L_alike : Cond.static yL_alike ∈ Tb := Tb_of (List.mem_of_getElem? (i := 736) (by decide +kernel)) (by decide +kernel)
def md_L_version : Md := (yL_version, cL_version, 5, (some .int), 8, 132)
def hh_L_version : List (Nat × Nat × Nat × Nat) := [(0, 10, 13, 15), (0, 10, 17, 17)]
set_option maxRecDepth 100000 in
theorem cw_L_version : Cond.codeWith yL_version cL_version 5 (some .int) hh_L_version ∈ Tb := Tb_code 746 rfl rfl
theorem st_L_version : Cond.static yL_version ∈ Tb := Tb_of (List.mem_of_getElem? (i := 745) (by decide +kernel)) (by decide +kernel)
def md_L_shot : Md := (yL_shot, cL_shot, 6, (some .int), 9, 156)
def hh_L_shot : List (Nat × Nat × Nat × Nat) := [(0, 12, 15, 13), (0, 12, 19, 15), (0, 12, 23, 17)]
set_option maxRecDepth 100000 in
theorem cw_L_shot : Cond.codeWith yL_shot cL_shot 6 (some .int) hh_L_shot ∈ Tb := Tb_code 757 rfl rfl
theorem st_L_shot : Cond.static yL_shot ∈ Tb := Tb_of (List.mem_of_getElem? (i := 756) (by decide +kernel)) (by decide +kernel)
def md_L_proof : Md := (yL_proof, cL_proof, 4, (some .int), 9, 154)
def hh_L_proof : List (Nat × Nat × Nat × Nat) := [(0, 9, 12, 13)]
set_option maxRecDepth 100000 in
theorem cw_L_proof : Cond.codeWith yL_proof cL_proof 4 (some .int) hh_L_proof ∈ Tb := Tb_code 772 rfl rfl
theorem st_L_proof : Cond.static yL_proof ∈ Tb := Tb_of (List.mem_of_getElem? (i := 771) (by decide +kernel)) (by decide +kernel)
def md_L_speed : Md := (yL_speed, cL_speed, 6, (some .int), 9, 157)
def hh_L_speed : List (Nat × Nat × Nat × Nat) := [(0, 12, 15, 13), (0, 12, 19, 15)]
set_option maxRecDepth 100000 in
theorem cw_L_speed : Cond.codeWith yL_speed cL_speed 6 (some .int) hh_L_speed ∈ Tb := Tb_code 779 rfl rfl
theorem st_L_speed : Cond.static yL_speed ∈ Tb := Tb_of (List.mem_of_getElem? (i := 778) (by decide +kernel)) (by decide +kernel)
def md_L_ofVersion : Md := (yL_ofVersion, cL_ofVersion, 5, (some .int), 9, 155)
def hh_L_ofVersion : List (Nat × Nat × Nat × Nat) := [(0, 10, 13, 13), (0, 10, 17, 15)]
set_option maxRecDepth 100000 in
theorem cw_L_ofVersion : Cond.codeWith yL_ofVersion cL_ofVersion 5 (some .int) hh_L_ofVersion ∈ Tb := Tb_code 786 rfl rfl
theorem st_L_ofVersion : Cond.static yL_ofVersion ∈ Tb := Tb_of (List.mem_of_getElem? (i := 785) (by decide +kernel)) (by decide +kernel)
def md_L_scrap : Md := (yL_scrap, cL_scrap, 5, (some .int), 8, 132)
def hh_L_scrap : List (Nat × Nat × Nat × Nat) := [(0, 10, 13, 15), (0, 10, 17, 17)]
set_option maxRecDepth 100000 in
theorem cw_L_scrap : Cond.codeWith yL_scrap cL_scrap 5 (some .int) hh_L_scrap ∈ Tb := Tb_code 811 rfl rfl
theorem st_L_scrap : Cond.static yL_scrap ∈ Tb := Tb_of (List.mem_of_getElem? (i := 810) (by decide +kernel)) (by decide +kernel)
def md_L_tint : Md := (yL_tint, cL_tint, 5, (some .int), 9, 155)
def hh_L_tint : List (Nat × Nat × Nat × Nat) := [(0, 10, 13, 13)]
set_option maxRecDepth 100000 in
theorem cw_L_tint : Cond.codeWith yL_tint cL_tint 5 (some .int) hh_L_tint ∈ Tb := Tb_code 826 rfl rfl
theorem st_L_tint : Cond.static yL_tint ∈ Tb := Tb_of (List.mem_of_getElem? (i := 825) (by decide +kernel)) (by decide +kernel)
def md_L_right : Md := (yL_right, cL_right, 8, (some .int), 9, 158)
def hh_L_right : List (Nat × Nat × Nat × Nat) := [(0, 16, 19, 13), (0, 16, 23, 15), (0, 16, 27, 17)]
set_option maxRecDepth 100000 in
theorem cw_L_right : Cond.codeWith yL_right cL_right 8 (some .int) hh_L_right ∈ Tb := Tb_code 839 rfl rfl
theorem st_L_right : Cond.static yL_right ∈ Tb := Tb_of (List.mem_of_getElem? (i := 838) (by decide +kernel)) (by decide +kernel)
def md_L_allow : Md := (yL_allow, cL_allow, 6, (some .int), 9, 157)
def hh_L_allow : List (Nat × Nat × Nat × Nat) := [(0, 19, 22, 13)]
set_option maxRecDepth 100000 in
theorem cw_L_allow : Cond.codeWith yL_allow cL_allow 6 (some .int) hh_L_allow ∈ Tb := Tb_code 850 rfl rfl
theorem st_L_allow : Cond.static yL_allow ∈ Tb := Tb_of (List.mem_of_getElem? (i := 849) (by decide +kernel)) (by decide +kernel)
def md_L_mayShow : Md := (yL_mayShow, cL_mayShow, 6, (some .int), 9, 156)
def hh_L_mayShow : List (Nat × Nat × Nat × Nat) := [(0, 19, 22, 13), (0, 19, 26, 15)]
set_option maxRecDepth 100000 in
theorem cw_L_mayShow : Cond.codeWith yL_mayShow cL_mayShow 6 (some .int) hh_L_mayShow ∈ Tb := Tb_code 857 rfl rfl
theorem st_L_mayShow : Cond.static yL_mayShow ∈ Tb := Tb_of (List.mem_of_getElem? (i := 856) (by decide +kernel)) (by decide +kernel)
def md_L_edition : Md := (yL_edition, cL_edition, 4, (some .int), 9, 156)
def hh_L_edition : List (Nat × Nat × Nat × Nat) := [(0, 9, 12, 13)]
set_option maxRecDepth 100000 in
theorem cw_L_edition : Cond.codeWith yL_edition cL_edition 4 (some .int) hh_L_edition ∈ Tb := Tb_code 869 rfl rfl
theorem st_L_edition : Cond.static yL_edition ∈ Tb := Tb_of (List.mem_of_getElem? (i := 868) (by decide +kernel)) (by decide +kernel)
def md_L_protect : Md := (yL_protect, cL_protect, 5, (some .int), 9, 156)
def hh_L_protect : List (Nat × Nat × Nat × Nat) := [(0, 17, 20, 13)]
set_option maxRecDepth 100000 in
theorem cw_L_protect : Cond.codeWith yL_protect cL_protect 5 (some .int) hh_L_protect ∈ Tb := Tb_code 897 rfl rfl
theorem st_L_protect : Cond.static yL_protect ∈ Tb := Tb_of (List.mem_of_getElem? (i := 896) (by decide +kernel)) (by decide +kernel)
def md_L_limit : Md := (yL_limit, cL_limit, 4, (some .int), 8, 132)
def hh_L_limit : List (Nat × Nat × Nat × Nat) := [(0, 9, 12, 15)]
set_option maxRecDepth 100000 in
theorem cw_L_limit : Cond.codeWith yL_limit cL_limit 4 (some .int) hh_L_limit ∈ Tb := Tb_code 908 rfl rfl
theorem st_L_limit : Cond.static yL_limit ∈ Tb := Tb_of (List.mem_of_getElem? (i := 907) (by decide +kernel)) (by decide +kernel)
def md_L_dirt : Md := (yL_dirt, cL_dirt, 4, (some .int), 8, 179)
def hh_L_dirt : List (Nat × Nat × Nat × Nat) := [(0, 9, 12, 15)]
set_option maxRecDepth 100000 in
theorem cw_L_dirt : Cond.codeWith yL_dirt cL_dirt 4 (some .int) hh_L_dirt ∈ Tb := Tb_code 915 rfl rfl
theorem st_L_dirt : Cond.static yL_dirt ∈ Tb := Tb_of (List.mem_of_getElem? (i := 914) (by decide +kernel)) (by decide +kernel)
def md_L_scratch : Md := (yL_scratch, cL_scratch, 7, (some .int), 8, 184)
def hh_L_scratch : List (Nat × Nat × Nat × Nat) := [(0, 14, 17, 13), (0, 14, 21, 15)]
set_option maxRecDepth 100000 in
theorem cw_L_scratch : Cond.codeWith yL_scratch cL_scratch 7 (some .int) hh_L_scratch ∈ Tb := Tb_code 931 rfl rfl
theorem st_L_scratch : Cond.static yL_scratch ∈ Tb := Tb_of (List.mem_of_getElem? (i := 930) (by decide +kernel)) (by decide +kernel)
def md_L_takeBack : Md := (yL_takeBack, cL_takeBack, 4, (some .int), 8, 132)
def hh_L_takeBack : List (Nat × Nat × Nat × Nat) := [(0, 9, 12, 13), (0, 9, 15, 17)]
set_option maxRecDepth 100000 in
theorem cw_L_takeBack : Cond.codeWith yL_takeBack cL_takeBack 4 (some .int) hh_L_takeBack ∈ Tb := Tb_code 948 rfl rfl
theorem st_L_takeBack : Cond.static yL_takeBack ∈ Tb := Tb_of (List.mem_of_getElem? (i := 947) (by decide +kernel)) (by decide +kernel)
def md_L_ofFrame : Md := (yL_ofFrame, cL_ofFrame, 5, (some .int), 9, 155)
def hh_L_ofFrame : List (Nat × Nat × Nat × Nat) := [(0, 10, 13, 13), (0, 10, 17, 15)]
set_option maxRecDepth 100000 in
theorem cw_L_ofFrame : Cond.codeWith yL_ofFrame cL_ofFrame 5 (some .int) hh_L_ofFrame ∈ Tb := Tb_code 963 rfl rfl
theorem st_L_ofFrame : Cond.static yL_ofFrame ∈ Tb := Tb_of (List.mem_of_getElem? (i := 962) (by decide +kernel)) (by decide +kernel)
def md_L_seen : Md := (yL_seen, cL_seen, 4, (some .int), 9, 153)
def hh_L_seen : List (Nat × Nat × Nat × Nat) := [(0, 8, 11, 13)]
set_option maxRecDepth 100000 in
theorem cw_L_seen : Cond.codeWith yL_seen cL_seen 4 (some .int) hh_L_seen ∈ Tb := Tb_code 971 rfl rfl
theorem st_L_seen : Cond.static yL_seen ∈ Tb := Tb_of (List.mem_of_getElem? (i := 970) (by decide +kernel)) (by decide +kernel)
def md_L_pass : Md := (yL_pass, cL_pass, 4, (some .int), 8, 132)
def hh_L_pass : List (Nat × Nat × Nat × Nat) := [(0, 9, 12, 15), (0, 9, 15, 17)]
set_option maxRecDepth 100000 in
theorem cw_L_pass : Cond.codeWith yL_pass cL_pass 4 (some .int) hh_L_pass ∈ Tb := Tb_code 978 rfl rfl
theorem st_L_pass : Cond.static yL_pass ∈ Tb := Tb_of (List.mem_of_getElem? (i := 977) (by decide +kernel)) (by decide +kernel)
