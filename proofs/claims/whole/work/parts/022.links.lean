def kNf : List (String × Nat × String × String × String) := [("DisplayMap", 71, "DisplayMap$Text", "length", "I"), ("DisplayMap$Screen", 48, "DisplayMap$Sheet", "signCount", "I"), ("DisplayMap", 84, "DisplayMap$Sheet", "signCount", "I"), ("DisplayMap$Text", 62, "DisplayMap$Sheet", "signCount", "I"), ("DisplayMap", 97, "DisplayMap$Sheet", "foldFrom", "[I"), ("DisplayMap", 101, "DisplayMap$Sheet", "foldTo", "[I"), ("DisplayMap", 104, "DisplayMap$Sheet", "foldShut", "[Z"), ("DisplayMap", 153, "DisplayMap$Sheet", "foldCount", "I"), ("DisplayMap", 111, "DisplayMap$Sheet", "hintPlace", "[I"), ("DisplayMap$Screen", 61, "DisplayMap$Sheet", "hintWide", "[I"), ("DisplayMap", 114, "DisplayMap$Sheet", "hintWide", "[I"), ("DisplayMap", 249, "DisplayMap$Sheet", "hintCount", "I"), ("DisplayMap$Screen", 95, "DisplayMap$Sheet", "mode", "I"), ("DisplayMap", 169, "DisplayMap$Sheet", "mode", "I"), ("DisplayMap$Screen", 98, "DisplayMap$Sheet", "width", "I"), ("DisplayMap", 172, "DisplayMap$Sheet", "width", "I"), ("DisplayMap$Screen", 82, "DisplayMap$Sheet", "indent", "I"), ("DisplayMap", 175, "DisplayMap$Sheet", "indent", "I"), ("DisplayMap$Screen", 107, "DisplayMap$Sheet", "tabStep", "I"), ("DisplayMap$Text", 93, "DisplayMap$Sheet", "tabStep", "I"), ("DisplayMap", 185, "DisplayMap$Sheet", "tabStep", "I"), ("DisplayMap", 77, "DisplayMap$Pile", "count", "I"), ("DisplayMap", 271, "DisplayMap$Screen", "rows", "[I"), ("DisplayMap", 277, "DisplayMap$Screen", "columns", "[I"), ("DisplayMap", 220, "DisplayMap$Screen", "rowEnds", "[I"), ("DisplayMap", 223, "DisplayMap$Screen", "lineStarts", "[Z"), ("DisplayMap", 252, "DisplayMap$Screen", "rowCount", "I"), ("DisplayMap", 274, "DisplayMap$Screen", "lastColumn", "I")]
def kNm : List (String × Nat × MethodName) := [("DisplayMap", 11, ⟨"DisplayMap$Text", "<init>", "()V"⟩), ("DisplayMap", 18, ⟨"DisplayMap$Sheet", "<init>", "()V"⟩), ("DisplayMap", 25, ⟨"DisplayMap$Pile", "<init>", "(I)V"⟩), ("DisplayMap$Pile", 21, ⟨"DisplayMap$Sheet", "<init>", "()V"⟩), ("DisplayMap", 37, ⟨"DisplayMap$Screen", "<init>", "()V"⟩), ("DisplayMap", 63, ⟨"DisplayMap$Text", "append", "(I)Z"⟩), ("DisplayMap", 67, ⟨"DisplayMap$Text", "readInto", "(LDisplayMap$Sheet;)I"⟩), ("DisplayMap$Text", 22, ⟨"DisplayMap$Sheet", "clear", "()V"⟩), ("DisplayMap$Text", 58, ⟨"DisplayMap$Sheet", "hasRoom", "()Z"⟩), ("DisplayMap$Text", 65, ⟨"DisplayMap$Sheet", "putIn", "(II)V"⟩), ("DisplayMap$Text", 69, ⟨"DisplayMap$Sheet", "foldRefusal", "(II)I"⟩), ("DisplayMap$Text", 72, ⟨"DisplayMap$Sheet", "addFold", "(II)I"⟩), ("DisplayMap$Text", 75, ⟨"DisplayMap$Sheet", "hintRefusal", "(II)I"⟩), ("DisplayMap$Text", 78, ⟨"DisplayMap$Sheet", "addHint", "(II)I"⟩), ("DisplayMap$Text", 81, ⟨"DisplayMap$Sheet", "isFlow", "(III)Z"⟩), ("DisplayMap$Text", 85, ⟨"DisplayMap$Sheet", "setFlow", "(III)V"⟩), ("DisplayMap$Text", 89, ⟨"DisplayMap$Sheet", "isTabStep", "(I)Z"⟩), ("DisplayMap", 74, ⟨"DisplayMap$Screen", "draw", "(LDisplayMap$Sheet;)I"⟩), ("DisplayMap$Screen", 53, ⟨"DisplayMap$Sheet", "isShown", "(I)Z"⟩), ("DisplayMap$Screen", 57, ⟨"DisplayMap$Sheet", "hintAt", "(I)I"⟩), ("DisplayMap$Screen", 68, ⟨"DisplayMap$Sheet", "shutFoldOf", "(I)I"⟩), ("DisplayMap$Screen", 71, ⟨"DisplayMap$Sheet", "signAt", "(I)I"⟩), ("DisplayMap", 232, ⟨"DisplayMap$Sheet", "copyFrom", "(LDisplayMap$Sheet;)V"⟩), ("DisplayMap", 87, ⟨"DisplayMap$Sheet", "hasPlace", "(I)Z"⟩), ("DisplayMap", 90, ⟨"DisplayMap$Sheet", "signAt", "(I)I"⟩), ("DisplayMap", 94, ⟨"DisplayMap$Sheet", "hasFold", "(I)Z"⟩), ("DisplayMap", 108, ⟨"DisplayMap$Sheet", "hasHint", "(I)Z"⟩), ("DisplayMap", 117, ⟨"DisplayMap$Sheet", "isShown", "(I)Z"⟩), ("DisplayMap", 120, ⟨"DisplayMap$Sheet", "hasRoom", "()Z"⟩), ("DisplayMap", 124, ⟨"DisplayMap$Pile", "push", "(LDisplayMap$Sheet;)V"⟩), ("DisplayMap$Pile", 33, ⟨"DisplayMap$Sheet", "copyFrom", "(LDisplayMap$Sheet;)V"⟩), ("DisplayMap", 127, ⟨"DisplayMap$Sheet", "putIn", "(II)V"⟩), ("DisplayMap", 134, ⟨"DisplayMap$Sheet", "hasSign", "(I)Z"⟩), ("DisplayMap", 137, ⟨"DisplayMap$Sheet", "takeOut", "(I)V"⟩), ("DisplayMap", 140, ⟨"DisplayMap$Sheet", "turn", "(I)V"⟩), ("DisplayMap", 143, ⟨"DisplayMap$Sheet", "foldRefusal", "(II)I"⟩), ("DisplayMap", 147, ⟨"DisplayMap$Sheet", "addFold", "(II)I"⟩), ("DisplayMap", 150, ⟨"DisplayMap$Sheet", "dropFold", "(I)V"⟩), ("DisplayMap", 156, ⟨"DisplayMap$Sheet", "hintRefusal", "(II)I"⟩), ("DisplayMap", 159, ⟨"DisplayMap$Sheet", "addHint", "(II)I"⟩), ("DisplayMap", 162, ⟨"DisplayMap$Sheet", "dropHint", "(I)V"⟩), ("DisplayMap", 165, ⟨"DisplayMap$Sheet", "isFlow", "(III)Z"⟩), ("DisplayMap", 178, ⟨"DisplayMap$Sheet", "setFlow", "(III)V"⟩), ("DisplayMap", 182, ⟨"DisplayMap$Sheet", "isTabStep", "(I)Z"⟩), ("DisplayMap", 188, ⟨"DisplayMap$Pile", "popInto", "(LDisplayMap$Sheet;)Z"⟩), ("DisplayMap", 265, ⟨"DisplayMap$Sheet", "holderOf", "(I)I"⟩), ("DisplayMap", 268, ⟨"DisplayMap$Screen", "itemOf", "(I)I"⟩), ("DisplayMap", 198, ⟨"DisplayMap$Screen", "hasRow", "(I)Z"⟩), ("DisplayMap", 204, ⟨"DisplayMap$Screen", "placeAt", "(III)I"⟩), ("DisplayMap", 208, ⟨"DisplayMap$Screen", "codeAt", "(II)I"⟩), ("DisplayMap", 211, ⟨"DisplayMap$Sheet", "nextShown", "(I)I"⟩), ("DisplayMap", 214, ⟨"DisplayMap$Sheet", "previousShown", "(I)I"⟩), ("DisplayMap", 288, ⟨"DisplayMap$Screen", "isRowAsIn", "(LDisplayMap$Screen;I)Z"⟩), ("DisplayMap", 240, ⟨"DisplayMap$Sheet", "live", "(I)V"⟩), ("DisplayMap", 243, ⟨"DisplayMap$Screen", "longestRow", "()I"⟩), ("DisplayMap", 246, ⟨"DisplayMap$Pile", "isFull", "()Z"⟩)]
def kNfp : List Nat := [144, 163, 164, 165, 167, 169, 171, 173, 175, 177, 178, 180, 182, 183, 185, 186, 188, 189, 191, 192, 193, 236, 251, 253, 257, 259, 261, 263]
def kNmp : List Nat := [139, 157, 224, 233, 244, 334, 338, 342, 365, 369, 386, 390, 398, 406, 414, 417, 422, 425, 433, 445, 450, 451, 540, 551, 552, 557, 565, 569, 574, 575, 587, 588, 597, 598, 624, 632, 633, 638, 643, 644, 649, 654, 655, 660, 665, 677, 678, 690, 697, 705, 713, 718, 743, 786, 796, 805]
theorem gX0_in : ∀ w ∈ u_ws RX0 TX0 2, w ∈ Gw := by
  intro w hw
  have h : (u_ws RX0 TX0 2).map some = ([237, 239] : List Nat).map (fun i => lw_tbl[i]?) := by decide +kernel
  have hg : (u_ws RX0 TX0 2).all goodWord = true := by decide +kernel
  have h1 : some w ∈ (u_ws RX0 TX0 2).map some := List.mem_map.mpr ⟨w, hw, rfl⟩
  rw [h] at h1
  obtain ⟨i, -, hi⟩ := List.mem_map.mp h1
  exact gw_mem hi (List.all_eq_true.mp hg w hw)
theorem gX1_in : ∀ w ∈ u_ws RX1 TX1 10, w ∈ Gw := by
  intro w hw
  have h : (u_ws RX1 TX1 10).map some = ([264, 266, 268, 270, 272, 274, 276, 278, 280, 282] : List Nat).map (fun i => lw_tbl[i]?) := by decide +kernel
  have hg : (u_ws RX1 TX1 10).all goodWord = true := by decide +kernel
  have h1 : some w ∈ (u_ws RX1 TX1 10).map some := List.mem_map.mpr ⟨w, hw, rfl⟩
  rw [h] at h1
  obtain ⟨i, -, hi⟩ := List.mem_map.mp h1
  exact gw_mem hi (List.all_eq_true.mp hg w hw)
theorem gX2_in : ∀ w ∈ u_ws RX2 TX2 13, w ∈ Gw := by
  intro w hw
  have h : (u_ws RX2 TX2 13).map some = ([194, 196, 198, 200, 202, 204, 206, 208, 210, 212, 214, 216, 218] : List Nat).map (fun i => lw_tbl[i]?) := by decide +kernel
  have hg : (u_ws RX2 TX2 13).all goodWord = true := by decide +kernel
  have h1 : some w ∈ (u_ws RX2 TX2 13).map some := List.mem_map.mpr ⟨w, hw, rfl⟩
  rw [h] at h1
  obtain ⟨i, -, hi⟩ := List.mem_map.mp h1
  exact gw_mem hi (List.all_eq_true.mp hg w hw)
theorem gX3_in : ∀ w ∈ u_ws RX3 TX3 3, w ∈ Gw := by
  intro w hw
  have h : (u_ws RX3 TX3 3).map some = ([147, 149, 151] : List Nat).map (fun i => lw_tbl[i]?) := by decide +kernel
  have hg : (u_ws RX3 TX3 3).all goodWord = true := by decide +kernel
  have h1 : some w ∈ (u_ws RX3 TX3 3).map some := List.mem_map.mpr ⟨w, hw, rfl⟩
  rw [h] at h1
  obtain ⟨i, -, hi⟩ := List.mem_map.mp h1
  exact gw_mem hi (List.all_eq_true.mp hg w hw)
theorem gX4_in : ∀ w ∈ u_ws RX4 TX4 9, w ∈ Gw := by
  intro w hw
  have h : (u_ws RX4 TX4 9).map some = ([500, 502, 504, 506, 508, 510, 512, 514, 516] : List Nat).map (fun i => lw_tbl[i]?) := by decide +kernel
  have hg : (u_ws RX4 TX4 9).all goodWord = true := by decide +kernel
  have h1 : some w ∈ (u_ws RX4 TX4 9).map some := List.mem_map.mpr ⟨w, hw, rfl⟩
  rw [h] at h1
  obtain ⟨i, -, hi⟩ := List.mem_map.mp h1
  exact gw_mem hi (List.all_eq_true.mp hg w hw)
theorem gX5_in : ∀ w ∈ u_ws RX5 TX5 41, w ∈ Gw := by
  intro w hw
  have h : (u_ws RX5 TX5 41).map some = ([869, 871, 873, 875, 877, 879, 881, 883, 885, 887, 889, 891, 893, 895, 897, 899, 901, 903, 905, 907, 909, 911, 913, 915, 917, 919, 921, 923, 925, 927, 929, 931, 933, 935, 937, 939, 941, 943, 945, 947, 949] : List Nat).map (fun i => lw_tbl[i]?) := by decide +kernel
  have hg : (u_ws RX5 TX5 41).all goodWord = true := by decide +kernel
  have h1 : some w ∈ (u_ws RX5 TX5 41).map some := List.mem_map.mpr ⟨w, hw, rfl⟩
  rw [h] at h1
  obtain ⟨i, -, hi⟩ := List.mem_map.mp h1
  exact gw_mem hi (List.all_eq_true.mp hg w hw)
theorem kfX3_9 : kF kNf RX3 9 3 0 := ⟨RX3, TX3, 3, rfl, by decide, gX3_in, Or.inl (gw_mem (i := 143) (by decide +kernel) (by decide +kernel))⟩
theorem kx_3_0 : kX RX3 3 0 (.array .int) := ⟨RX3, TX3, 3, tyX3, rfl, tyX3_ok, nmX3, rfl, by decide +kernel, by decide +kernel⟩
theorem kfX4_71 : kF kNf RX4 71 3 1 := ⟨RX3, TX3, 3, rfl, by decide, gX3_in, Or.inr (List.mem_of_getElem? (i := 0) (by decide +kernel))⟩
theorem kw_3_1 : kW 3 1 .int := ⟨RX3, TX3, 3, tyX3, rfl, tyX3_ok, nmX3, rfl, by decide +kernel⟩
theorem kfX3_18 : kF kNf RX3 18 3 1 := ⟨RX3, TX3, 3, rfl, by decide, gX3_in, Or.inl (gw_mem (i := 145) (by decide +kernel) (by decide +kernel))⟩
theorem kfX3_15 : kF kNf RX3 15 3 2 := ⟨RX3, TX3, 3, rfl, by decide, gX3_in, Or.inl (gw_mem (i := 146) (by decide +kernel) (by decide +kernel))⟩
theorem kx_3_2 : kX RX3 3 2 (.array .int) := ⟨RX3, TX3, 3, tyX3, rfl, tyX3_ok, nmX3, rfl, by decide +kernel, by decide +kernel⟩
theorem kfX2_9 : kF kNf RX2 9 2 0 := ⟨RX2, TX2, 13, rfl, by decide, gX2_in, Or.inl (gw_mem (i := 161) (by decide +kernel) (by decide +kernel))⟩
theorem kx_2_0 : kX RX2 2 0 (.array .int) := ⟨RX2, TX2, 13, tyX2, rfl, tyX2_ok, nmX2, rfl, by decide +kernel, by decide +kernel⟩
theorem kfX2_31 : kF kNf RX2 31 2 1 := ⟨RX2, TX2, 13, rfl, by decide, gX2_in, Or.inl (gw_mem (i := 162) (by decide +kernel) (by decide +kernel))⟩
theorem kw_2_1 : kW 2 1 .int := ⟨RX2, TX2, 13, tyX2, rfl, tyX2_ok, nmX2, rfl, by decide +kernel⟩
theorem kfX1_48 : kF kNf RX1 48 2 1 := ⟨RX2, TX2, 13, rfl, by decide, gX2_in, Or.inr (List.mem_of_getElem? (i := 1) (by decide +kernel))⟩
theorem kfX4_84 : kF kNf RX4 84 2 1 := ⟨RX2, TX2, 13, rfl, by decide, gX2_in, Or.inr (List.mem_of_getElem? (i := 2) (by decide +kernel))⟩
theorem kfX3_62 : kF kNf RX3 62 2 1 := ⟨RX2, TX2, 13, rfl, by decide, gX2_in, Or.inr (List.mem_of_getElem? (i := 3) (by decide +kernel))⟩
theorem kfX2_15 : kF kNf RX2 15 2 2 := ⟨RX2, TX2, 13, rfl, by decide, gX2_in, Or.inl (gw_mem (i := 166) (by decide +kernel) (by decide +kernel))⟩
theorem kx_2_2 : kX RX2 2 2 (.array .int) := ⟨RX2, TX2, 13, tyX2, rfl, tyX2_ok, nmX2, rfl, by decide +kernel, by decide +kernel⟩
theorem kfX4_97 : kF kNf RX4 97 2 2 := ⟨RX2, TX2, 13, rfl, by decide, gX2_in, Or.inr (List.mem_of_getElem? (i := 4) (by decide +kernel))⟩
theorem kfX2_18 : kF kNf RX2 18 2 3 := ⟨RX2, TX2, 13, rfl, by decide, gX2_in, Or.inl (gw_mem (i := 168) (by decide +kernel) (by decide +kernel))⟩
theorem kx_2_3 : kX RX2 2 3 (.array .int) := ⟨RX2, TX2, 13, tyX2, rfl, tyX2_ok, nmX2, rfl, by decide +kernel, by decide +kernel⟩
theorem kfX4_101 : kF kNf RX4 101 2 3 := ⟨RX2, TX2, 13, rfl, by decide, gX2_in, Or.inr (List.mem_of_getElem? (i := 5) (by decide +kernel))⟩
theorem kfX2_21 : kF kNf RX2 21 2 4 := ⟨RX2, TX2, 13, rfl, by decide, gX2_in, Or.inl (gw_mem (i := 170) (by decide +kernel) (by decide +kernel))⟩
theorem kx_2_4 : kX RX2 2 4 (.array .boolean) := ⟨RX2, TX2, 13, tyX2, rfl, tyX2_ok, nmX2, rfl, by decide +kernel, by decide +kernel⟩
theorem kfX4_104 : kF kNf RX4 104 2 4 := ⟨RX2, TX2, 13, rfl, by decide, gX2_in, Or.inr (List.mem_of_getElem? (i := 6) (by decide +kernel))⟩
theorem kfX2_35 : kF kNf RX2 35 2 5 := ⟨RX2, TX2, 13, rfl, by decide, gX2_in, Or.inl (gw_mem (i := 172) (by decide +kernel) (by decide +kernel))⟩
theorem kw_2_5 : kW 2 5 .int := ⟨RX2, TX2, 13, tyX2, rfl, tyX2_ok, nmX2, rfl, by decide +kernel⟩
theorem kfX4_153 : kF kNf RX4 153 2 5 := ⟨RX2, TX2, 13, rfl, by decide, gX2_in, Or.inr (List.mem_of_getElem? (i := 7) (by decide +kernel))⟩
theorem kfX2_25 : kF kNf RX2 25 2 6 := ⟨RX2, TX2, 13, rfl, by decide, gX2_in, Or.inl (gw_mem (i := 174) (by decide +kernel) (by decide +kernel))⟩
theorem kx_2_6 : kX RX2 2 6 (.array .int) := ⟨RX2, TX2, 13, tyX2, rfl, tyX2_ok, nmX2, rfl, by decide +kernel, by decide +kernel⟩
theorem kfX4_111 : kF kNf RX4 111 2 6 := ⟨RX2, TX2, 13, rfl, by decide, gX2_in, Or.inr (List.mem_of_getElem? (i := 8) (by decide +kernel))⟩
theorem kfX2_28 : kF kNf RX2 28 2 7 := ⟨RX2, TX2, 13, rfl, by decide, gX2_in, Or.inl (gw_mem (i := 176) (by decide +kernel) (by decide +kernel))⟩
theorem kx_2_7 : kX RX2 2 7 (.array .int) := ⟨RX2, TX2, 13, tyX2, rfl, tyX2_ok, nmX2, rfl, by decide +kernel, by decide +kernel⟩
theorem kfX1_61 : kF kNf RX1 61 2 7 := ⟨RX2, TX2, 13, rfl, by decide, gX2_in, Or.inr (List.mem_of_getElem? (i := 9) (by decide +kernel))⟩
theorem kfX4_114 : kF kNf RX4 114 2 7 := ⟨RX2, TX2, 13, rfl, by decide, gX2_in, Or.inr (List.mem_of_getElem? (i := 10) (by decide +kernel))⟩
theorem kfX2_38 : kF kNf RX2 38 2 8 := ⟨RX2, TX2, 13, rfl, by decide, gX2_in, Or.inl (gw_mem (i := 179) (by decide +kernel) (by decide +kernel))⟩
theorem kw_2_8 : kW 2 8 .int := ⟨RX2, TX2, 13, tyX2, rfl, tyX2_ok, nmX2, rfl, by decide +kernel⟩
theorem kfX4_249 : kF kNf RX4 249 2 8 := ⟨RX2, TX2, 13, rfl, by decide, gX2_in, Or.inr (List.mem_of_getElem? (i := 11) (by decide +kernel))⟩
theorem kfX2_54 : kF kNf RX2 54 2 9 := ⟨RX2, TX2, 13, rfl, by decide, gX2_in, Or.inl (gw_mem (i := 181) (by decide +kernel) (by decide +kernel))⟩
theorem kw_2_9 : kW 2 9 .int := ⟨RX2, TX2, 13, tyX2, rfl, tyX2_ok, nmX2, rfl, by decide +kernel⟩
theorem kfX1_95 : kF kNf RX1 95 2 9 := ⟨RX2, TX2, 13, rfl, by decide, gX2_in, Or.inr (List.mem_of_getElem? (i := 12) (by decide +kernel))⟩
theorem kfX4_169 : kF kNf RX4 169 2 9 := ⟨RX2, TX2, 13, rfl, by decide, gX2_in, Or.inr (List.mem_of_getElem? (i := 13) (by decide +kernel))⟩
theorem kfX2_57 : kF kNf RX2 57 2 10 := ⟨RX2, TX2, 13, rfl, by decide, gX2_in, Or.inl (gw_mem (i := 184) (by decide +kernel) (by decide +kernel))⟩
theorem kw_2_10 : kW 2 10 .int := ⟨RX2, TX2, 13, tyX2, rfl, tyX2_ok, nmX2, rfl, by decide +kernel⟩
theorem kfX1_98 : kF kNf RX1 98 2 10 := ⟨RX2, TX2, 13, rfl, by decide, gX2_in, Or.inr (List.mem_of_getElem? (i := 14) (by decide +kernel))⟩
theorem kfX4_172 : kF kNf RX4 172 2 10 := ⟨RX2, TX2, 13, rfl, by decide, gX2_in, Or.inr (List.mem_of_getElem? (i := 15) (by decide +kernel))⟩
theorem kfX2_60 : kF kNf RX2 60 2 11 := ⟨RX2, TX2, 13, rfl, by decide, gX2_in, Or.inl (gw_mem (i := 187) (by decide +kernel) (by decide +kernel))⟩
theorem kw_2_11 : kW 2 11 .int := ⟨RX2, TX2, 13, tyX2, rfl, tyX2_ok, nmX2, rfl, by decide +kernel⟩
theorem kfX1_82 : kF kNf RX1 82 2 11 := ⟨RX2, TX2, 13, rfl, by decide, gX2_in, Or.inr (List.mem_of_getElem? (i := 16) (by decide +kernel))⟩
theorem kfX4_175 : kF kNf RX4 175 2 11 := ⟨RX2, TX2, 13, rfl, by decide, gX2_in, Or.inr (List.mem_of_getElem? (i := 17) (by decide +kernel))⟩
theorem kfX2_45 : kF kNf RX2 45 2 12 := ⟨RX2, TX2, 13, rfl, by decide, gX2_in, Or.inl (gw_mem (i := 190) (by decide +kernel) (by decide +kernel))⟩
theorem kw_2_12 : kW 2 12 .int := ⟨RX2, TX2, 13, tyX2, rfl, tyX2_ok, nmX2, rfl, by decide +kernel⟩
theorem kfX1_107 : kF kNf RX1 107 2 12 := ⟨RX2, TX2, 13, rfl, by decide, gX2_in, Or.inr (List.mem_of_getElem? (i := 18) (by decide +kernel))⟩
theorem kfX3_93 : kF kNf RX3 93 2 12 := ⟨RX2, TX2, 13, rfl, by decide, gX2_in, Or.inr (List.mem_of_getElem? (i := 19) (by decide +kernel))⟩
theorem kfX4_185 : kF kNf RX4 185 2 12 := ⟨RX2, TX2, 13, rfl, by decide, gX2_in, Or.inr (List.mem_of_getElem? (i := 20) (by decide +kernel))⟩
theorem kfX0_15 : kF kNf RX0 15 0 0 := ⟨RX0, TX0, 2, rfl, by decide, gX0_in, Or.inl (gw_mem (i := 234) (by decide +kernel) (by decide +kernel))⟩
theorem kx_0_0 : kX RX0 0 0 (.array (.object "DisplayMap$Sheet")) := ⟨RX0, TX0, 2, tyX0, rfl, tyX0_ok, nmX0, rfl, by decide +kernel, by decide +kernel⟩
theorem kfX0_22 : kF kNf RX0 22 0 1 := ⟨RX0, TX0, 2, rfl, by decide, gX0_in, Or.inl (gw_mem (i := 235) (by decide +kernel) (by decide +kernel))⟩
theorem kw_0_1 : kW 0 1 .int := ⟨RX0, TX0, 2, tyX0, rfl, tyX0_ok, nmX0, rfl, by decide +kernel⟩
theorem kfX4_77 : kF kNf RX4 77 0 1 := ⟨RX0, TX0, 2, rfl, by decide, gX0_in, Or.inr (List.mem_of_getElem? (i := 21) (by decide +kernel))⟩
theorem kfX1_9 : kF kNf RX1 9 1 0 := ⟨RX1, TX1, 10, rfl, by decide, gX1_in, Or.inl (gw_mem (i := 248) (by decide +kernel) (by decide +kernel))⟩
theorem kx_1_0 : kX RX1 1 0 (.array .int) := ⟨RX1, TX1, 10, tyX1, rfl, tyX1_ok, nmX1, rfl, by decide +kernel, by decide +kernel⟩
theorem kfX1_15 : kF kNf RX1 15 1 1 := ⟨RX1, TX1, 10, rfl, by decide, gX1_in, Or.inl (gw_mem (i := 249) (by decide +kernel) (by decide +kernel))⟩
theorem kx_1_1 : kX RX1 1 1 (.array .int) := ⟨RX1, TX1, 10, tyX1, rfl, tyX1_ok, nmX1, rfl, by decide +kernel, by decide +kernel⟩
theorem kfX1_18 : kF kNf RX1 18 1 2 := ⟨RX1, TX1, 10, rfl, by decide, gX1_in, Or.inl (gw_mem (i := 250) (by decide +kernel) (by decide +kernel))⟩
theorem kx_1_2 : kX RX1 1 2 (.array .int) := ⟨RX1, TX1, 10, tyX1, rfl, tyX1_ok, nmX1, rfl, by decide +kernel, by decide +kernel⟩
theorem kfX4_271 : kF kNf RX4 271 1 2 := ⟨RX1, TX1, 10, rfl, by decide, gX1_in, Or.inr (List.mem_of_getElem? (i := 22) (by decide +kernel))⟩
theorem kfX1_21 : kF kNf RX1 21 1 3 := ⟨RX1, TX1, 10, rfl, by decide, gX1_in, Or.inl (gw_mem (i := 252) (by decide +kernel) (by decide +kernel))⟩
theorem kx_1_3 : kX RX1 1 3 (.array .int) := ⟨RX1, TX1, 10, tyX1, rfl, tyX1_ok, nmX1, rfl, by decide +kernel, by decide +kernel⟩
theorem kfX4_277 : kF kNf RX4 277 1 3 := ⟨RX1, TX1, 10, rfl, by decide, gX1_in, Or.inr (List.mem_of_getElem? (i := 23) (by decide +kernel))⟩
theorem kfX1_24 : kF kNf RX1 24 1 4 := ⟨RX1, TX1, 10, rfl, by decide, gX1_in, Or.inl (gw_mem (i := 254) (by decide +kernel) (by decide +kernel))⟩
theorem kx_1_4 : kX RX1 1 4 (.array .int) := ⟨RX1, TX1, 10, tyX1, rfl, tyX1_ok, nmX1, rfl, by decide +kernel, by decide +kernel⟩
theorem kfX1_45 : kF kNf RX1 45 1 5 := ⟨RX1, TX1, 10, rfl, by decide, gX1_in, Or.inl (gw_mem (i := 255) (by decide +kernel) (by decide +kernel))⟩
theorem kw_1_5 : kW 1 5 .int := ⟨RX1, TX1, 10, tyX1, rfl, tyX1_ok, nmX1, rfl, by decide +kernel⟩
theorem kfX1_27 : kF kNf RX1 27 1 6 := ⟨RX1, TX1, 10, rfl, by decide, gX1_in, Or.inl (gw_mem (i := 256) (by decide +kernel) (by decide +kernel))⟩
theorem kx_1_6 : kX RX1 1 6 (.array .int) := ⟨RX1, TX1, 10, tyX1, rfl, tyX1_ok, nmX1, rfl, by decide +kernel, by decide +kernel⟩
theorem kfX4_220 : kF kNf RX4 220 1 6 := ⟨RX1, TX1, 10, rfl, by decide, gX1_in, Or.inr (List.mem_of_getElem? (i := 24) (by decide +kernel))⟩
theorem kfX1_30 : kF kNf RX1 30 1 7 := ⟨RX1, TX1, 10, rfl, by decide, gX1_in, Or.inl (gw_mem (i := 258) (by decide +kernel) (by decide +kernel))⟩
theorem kx_1_7 : kX RX1 1 7 (.array .boolean) := ⟨RX1, TX1, 10, tyX1, rfl, tyX1_ok, nmX1, rfl, by decide +kernel, by decide +kernel⟩
theorem kfX4_223 : kF kNf RX4 223 1 7 := ⟨RX1, TX1, 10, rfl, by decide, gX1_in, Or.inr (List.mem_of_getElem? (i := 25) (by decide +kernel))⟩
theorem kfX1_41 : kF kNf RX1 41 1 8 := ⟨RX1, TX1, 10, rfl, by decide, gX1_in, Or.inl (gw_mem (i := 260) (by decide +kernel) (by decide +kernel))⟩
theorem kw_1_8 : kW 1 8 .int := ⟨RX1, TX1, 10, tyX1, rfl, tyX1_ok, nmX1, rfl, by decide +kernel⟩
theorem kfX4_252 : kF kNf RX4 252 1 8 := ⟨RX1, TX1, 10, rfl, by decide, gX1_in, Or.inr (List.mem_of_getElem? (i := 26) (by decide +kernel))⟩
theorem kfX1_85 : kF kNf RX1 85 1 9 := ⟨RX1, TX1, 10, rfl, by decide, gX1_in, Or.inl (gw_mem (i := 262) (by decide +kernel) (by decide +kernel))⟩
theorem kw_1_9 : kW 1 9 .int := ⟨RX1, TX1, 10, tyX1, rfl, tyX1_ok, nmX1, rfl, by decide +kernel⟩
theorem kfX4_274 : kF kNf RX4 274 1 9 := ⟨RX1, TX1, 10, rfl, by decide, gX1_in, Or.inr (List.mem_of_getElem? (i := 27) (by decide +kernel))⟩
theorem kfX4_12 : kF kNf RX4 12 4 0 := ⟨RX4, TX4, 9, rfl, by decide, gX4_in, Or.inl (gw_mem (i := 491) (by decide +kernel) (by decide +kernel))⟩
theorem kx_4_0 : kX RX4 4 0 (.object "DisplayMap$Text") := ⟨RX4, TX4, 9, tyX4, rfl, tyX4_ok, nmX4, rfl, by decide +kernel, by decide +kernel⟩
theorem kfX4_19 : kF kNf RX4 19 4 1 := ⟨RX4, TX4, 9, rfl, by decide, gX4_in, Or.inl (gw_mem (i := 492) (by decide +kernel) (by decide +kernel))⟩
theorem kx_4_1 : kX RX4 4 1 (.object "DisplayMap$Sheet") := ⟨RX4, TX4, 9, tyX4, rfl, tyX4_ok, nmX4, rfl, by decide +kernel, by decide +kernel⟩
theorem kfX4_28 : kF kNf RX4 28 4 2 := ⟨RX4, TX4, 9, rfl, by decide, gX4_in, Or.inl (gw_mem (i := 493) (by decide +kernel) (by decide +kernel))⟩
theorem kx_4_2 : kX RX4 4 2 (.object "DisplayMap$Pile") := ⟨RX4, TX4, 9, tyX4, rfl, tyX4_ok, nmX4, rfl, by decide +kernel, by decide +kernel⟩
theorem kfX4_32 : kF kNf RX4 32 4 3 := ⟨RX4, TX4, 9, rfl, by decide, gX4_in, Or.inl (gw_mem (i := 494) (by decide +kernel) (by decide +kernel))⟩
theorem kx_4_3 : kX RX4 4 3 (.object "DisplayMap$Pile") := ⟨RX4, TX4, 9, tyX4, rfl, tyX4_ok, nmX4, rfl, by decide +kernel, by decide +kernel⟩
theorem kfX4_38 : kF kNf RX4 38 4 4 := ⟨RX4, TX4, 9, rfl, by decide, gX4_in, Or.inl (gw_mem (i := 495) (by decide +kernel) (by decide +kernel))⟩
theorem kw_4_4 : kW 4 4 (.object "DisplayMap$Screen") := ⟨RX4, TX4, 9, tyX4, rfl, tyX4_ok, nmX4, rfl, by decide +kernel⟩
theorem kfX4_42 : kF kNf RX4 42 4 5 := ⟨RX4, TX4, 9, rfl, by decide, gX4_in, Or.inl (gw_mem (i := 496) (by decide +kernel) (by decide +kernel))⟩
theorem kw_4_5 : kW 4 5 (.object "DisplayMap$Screen") := ⟨RX4, TX4, 9, tyX4, rfl, tyX4_ok, nmX4, rfl, by decide +kernel⟩
theorem kfX4_261 : kF kNf RX4 261 4 6 := ⟨RX4, TX4, 9, rfl, by decide, gX4_in, Or.inl (gw_mem (i := 497) (by decide +kernel) (by decide +kernel))⟩
theorem kw_4_6 : kW 4 6 .boolean := ⟨RX4, TX4, 9, tyX4, rfl, tyX4_ok, nmX4, rfl, by decide +kernel⟩
theorem kfX4_45 : kF kNf RX4 45 4 7 := ⟨RX4, TX4, 9, rfl, by decide, gX4_in, Or.inl (gw_mem (i := 498) (by decide +kernel) (by decide +kernel))⟩
theorem kx_4_7 : kX RX4 4 7 (.object "DisplayMap$Sheet") := ⟨RX4, TX4, 9, tyX4, rfl, tyX4_ok, nmX4, rfl, by decide +kernel, by decide +kernel⟩
theorem kfX4_48 : kF kNf RX4 48 4 8 := ⟨RX4, TX4, 9, rfl, by decide, gX4_in, Or.inl (gw_mem (i := 499) (by decide +kernel) (by decide +kernel))⟩
theorem kx_4_8 : kX RX4 4 8 (.object "DisplayMap$Screen") := ⟨RX4, TX4, 9, tyX4, rfl, tyX4_ok, nmX4, rfl, by decide +kernel, by decide +kernel⟩
theorem kfX5_89 : kF kNf RX5 89 5 0 := ⟨RX5, TX5, 41, rfl, by decide, gX5_in, Or.inl (gw_mem (i := 828) (by decide +kernel) (by decide +kernel))⟩
theorem kw_5_0 : kW 5 0 .int := ⟨RX5, TX5, 41, tyX5, rfl, tyX5_ok, nmX5, rfl, by decide +kernel⟩
theorem kfX5_7 : kF kNf RX5 7 5 1 := ⟨RX5, TX5, 41, rfl, by decide, gX5_in, Or.inl (gw_mem (i := 829) (by decide +kernel) (by decide +kernel))⟩
theorem kx_5_1 : kX RX5 5 1 (.array .int) := ⟨RX5, TX5, 41, tyX5, rfl, tyX5_ok, nmX5, rfl, by decide +kernel, by decide +kernel⟩
theorem kfX5_107 : kF kNf RX5 107 5 2 := ⟨RX5, TX5, 41, rfl, by decide, gX5_in, Or.inl (gw_mem (i := 830) (by decide +kernel) (by decide +kernel))⟩
theorem kw_5_2 : kW 5 2 .int := ⟨RX5, TX5, 41, tyX5, rfl, tyX5_ok, nmX5, rfl, by decide +kernel⟩
theorem kfX5_13 : kF kNf RX5 13 5 3 := ⟨RX5, TX5, 41, rfl, by decide, gX5_in, Or.inl (gw_mem (i := 831) (by decide +kernel) (by decide +kernel))⟩
theorem kx_5_3 : kX RX5 5 3 (.array .int) := ⟨RX5, TX5, 41, tyX5, rfl, tyX5_ok, nmX5, rfl, by decide +kernel, by decide +kernel⟩
theorem kfX5_16 : kF kNf RX5 16 5 4 := ⟨RX5, TX5, 41, rfl, by decide, gX5_in, Or.inl (gw_mem (i := 832) (by decide +kernel) (by decide +kernel))⟩
theorem kx_5_4 : kX RX5 5 4 (.array .int) := ⟨RX5, TX5, 41, tyX5, rfl, tyX5_ok, nmX5, rfl, by decide +kernel, by decide +kernel⟩
theorem kfX5_19 : kF kNf RX5 19 5 5 := ⟨RX5, TX5, 41, rfl, by decide, gX5_in, Or.inl (gw_mem (i := 833) (by decide +kernel) (by decide +kernel))⟩
theorem kx_5_5 : kX RX5 5 5 (.array .int) := ⟨RX5, TX5, 41, tyX5, rfl, tyX5_ok, nmX5, rfl, by decide +kernel, by decide +kernel⟩
theorem kfX5_110 : kF kNf RX5 110 5 6 := ⟨RX5, TX5, 41, rfl, by decide, gX5_in, Or.inl (gw_mem (i := 834) (by decide +kernel) (by decide +kernel))⟩
theorem kw_5_6 : kW 5 6 .int := ⟨RX5, TX5, 41, tyX5, rfl, tyX5_ok, nmX5, rfl, by decide +kernel⟩
theorem kfX5_22 : kF kNf RX5 22 5 7 := ⟨RX5, TX5, 41, rfl, by decide, gX5_in, Or.inl (gw_mem (i := 835) (by decide +kernel) (by decide +kernel))⟩
theorem kx_5_7 : kX RX5 5 7 (.array .int) := ⟨RX5, TX5, 41, tyX5, rfl, tyX5_ok, nmX5, rfl, by decide +kernel, by decide +kernel⟩
theorem kfX5_25 : kF kNf RX5 25 5 8 := ⟨RX5, TX5, 41, rfl, by decide, gX5_in, Or.inl (gw_mem (i := 836) (by decide +kernel) (by decide +kernel))⟩
theorem kx_5_8 : kX RX5 5 8 (.array .int) := ⟨RX5, TX5, 41, tyX5, rfl, tyX5_ok, nmX5, rfl, by decide +kernel, by decide +kernel⟩
theorem kfX5_28 : kF kNf RX5 28 5 9 := ⟨RX5, TX5, 41, rfl, by decide, gX5_in, Or.inl (gw_mem (i := 837) (by decide +kernel) (by decide +kernel))⟩
theorem kw_5_9 : kW 5 9 .int := ⟨RX5, TX5, 41, tyX5, rfl, tyX5_ok, nmX5, rfl, by decide +kernel⟩
theorem kfX5_32 : kF kNf RX5 32 5 10 := ⟨RX5, TX5, 41, rfl, by decide, gX5_in, Or.inl (gw_mem (i := 838) (by decide +kernel) (by decide +kernel))⟩
theorem kw_5_10 : kW 5 10 .int := ⟨RX5, TX5, 41, tyX5, rfl, tyX5_ok, nmX5, rfl, by decide +kernel⟩
theorem kfX5_100 : kF kNf RX5 100 5 11 := ⟨RX5, TX5, 41, rfl, by decide, gX5_in, Or.inl (gw_mem (i := 839) (by decide +kernel) (by decide +kernel))⟩
theorem kw_5_11 : kW 5 11 .int := ⟨RX5, TX5, 41, tyX5, rfl, tyX5_ok, nmX5, rfl, by decide +kernel⟩
theorem kfX5_35 : kF kNf RX5 35 5 12 := ⟨RX5, TX5, 41, rfl, by decide, gX5_in, Or.inl (gw_mem (i := 840) (by decide +kernel) (by decide +kernel))⟩
theorem kw_5_12 : kW 5 12 .int := ⟨RX5, TX5, 41, tyX5, rfl, tyX5_ok, nmX5, rfl, by decide +kernel⟩
theorem kfX5_117 : kF kNf RX5 117 5 13 := ⟨RX5, TX5, 41, rfl, by decide, gX5_in, Or.inl (gw_mem (i := 841) (by decide +kernel) (by decide +kernel))⟩
theorem kw_5_13 : kW 5 13 .int := ⟨RX5, TX5, 41, tyX5, rfl, tyX5_ok, nmX5, rfl, by decide +kernel⟩
theorem kfX5_38 : kF kNf RX5 38 5 14 := ⟨RX5, TX5, 41, rfl, by decide, gX5_in, Or.inl (gw_mem (i := 842) (by decide +kernel) (by decide +kernel))⟩
theorem kx_5_14 : kX RX5 5 14 (.array .int) := ⟨RX5, TX5, 41, tyX5, rfl, tyX5_ok, nmX5, rfl, by decide +kernel, by decide +kernel⟩
theorem kfX5_41 : kF kNf RX5 41 5 15 := ⟨RX5, TX5, 41, rfl, by decide, gX5_in, Or.inl (gw_mem (i := 843) (by decide +kernel) (by decide +kernel))⟩
theorem kx_5_15 : kX RX5 5 15 (.array .int) := ⟨RX5, TX5, 41, tyX5, rfl, tyX5_ok, nmX5, rfl, by decide +kernel, by decide +kernel⟩
theorem kfX5_44 : kF kNf RX5 44 5 16 := ⟨RX5, TX5, 41, rfl, by decide, gX5_in, Or.inl (gw_mem (i := 844) (by decide +kernel) (by decide +kernel))⟩
theorem kx_5_16 : kX RX5 5 16 (.array .int) := ⟨RX5, TX5, 41, tyX5, rfl, tyX5_ok, nmX5, rfl, by decide +kernel, by decide +kernel⟩
theorem kfX5_47 : kF kNf RX5 47 5 17 := ⟨RX5, TX5, 41, rfl, by decide, gX5_in, Or.inl (gw_mem (i := 845) (by decide +kernel) (by decide +kernel))⟩
theorem kx_5_17 : kX RX5 5 17 (.array .int) := ⟨RX5, TX5, 41, tyX5, rfl, tyX5_ok, nmX5, rfl, by decide +kernel, by decide +kernel⟩
theorem kfX5_50 : kF kNf RX5 50 5 18 := ⟨RX5, TX5, 41, rfl, by decide, gX5_in, Or.inl (gw_mem (i := 846) (by decide +kernel) (by decide +kernel))⟩
theorem kx_5_18 : kX RX5 5 18 (.array .int) := ⟨RX5, TX5, 41, tyX5, rfl, tyX5_ok, nmX5, rfl, by decide +kernel, by decide +kernel⟩
theorem kfX5_144 : kF kNf RX5 144 5 19 := ⟨RX5, TX5, 41, rfl, by decide, gX5_in, Or.inl (gw_mem (i := 847) (by decide +kernel) (by decide +kernel))⟩
theorem kw_5_19 : kW 5 19 .int := ⟨RX5, TX5, 41, tyX5, rfl, tyX5_ok, nmX5, rfl, by decide +kernel⟩
theorem kfX5_147 : kF kNf RX5 147 5 20 := ⟨RX5, TX5, 41, rfl, by decide, gX5_in, Or.inl (gw_mem (i := 848) (by decide +kernel) (by decide +kernel))⟩
theorem kw_5_20 : kW 5 20 .int := ⟨RX5, TX5, 41, tyX5, rfl, tyX5_ok, nmX5, rfl, by decide +kernel⟩
theorem kfX5_53 : kF kNf RX5 53 5 21 := ⟨RX5, TX5, 41, rfl, by decide, gX5_in, Or.inl (gw_mem (i := 849) (by decide +kernel) (by decide +kernel))⟩
theorem kx_5_21 : kX RX5 5 21 (.array .int) := ⟨RX5, TX5, 41, tyX5, rfl, tyX5_ok, nmX5, rfl, by decide +kernel, by decide +kernel⟩
theorem kfX5_56 : kF kNf RX5 56 5 22 := ⟨RX5, TX5, 41, rfl, by decide, gX5_in, Or.inl (gw_mem (i := 850) (by decide +kernel) (by decide +kernel))⟩
theorem kx_5_22 : kX RX5 5 22 (.array .int) := ⟨RX5, TX5, 41, tyX5, rfl, tyX5_ok, nmX5, rfl, by decide +kernel, by decide +kernel⟩
theorem kfX5_59 : kF kNf RX5 59 5 23 := ⟨RX5, TX5, 41, rfl, by decide, gX5_in, Or.inl (gw_mem (i := 851) (by decide +kernel) (by decide +kernel))⟩
theorem kx_5_23 : kX RX5 5 23 (.array .int) := ⟨RX5, TX5, 41, tyX5, rfl, tyX5_ok, nmX5, rfl, by decide +kernel, by decide +kernel⟩
theorem kfX5_178 : kF kNf RX5 178 5 24 := ⟨RX5, TX5, 41, rfl, by decide, gX5_in, Or.inl (gw_mem (i := 852) (by decide +kernel) (by decide +kernel))⟩
theorem kw_5_24 : kW 5 24 .int := ⟨RX5, TX5, 41, tyX5, rfl, tyX5_ok, nmX5, rfl, by decide +kernel⟩
theorem kfX5_62 : kF kNf RX5 62 5 25 := ⟨RX5, TX5, 41, rfl, by decide, gX5_in, Or.inl (gw_mem (i := 853) (by decide +kernel) (by decide +kernel))⟩
theorem kx_5_25 : kX RX5 5 25 (.array .int) := ⟨RX5, TX5, 41, tyX5, rfl, tyX5_ok, nmX5, rfl, by decide +kernel, by decide +kernel⟩
theorem kfX5_214 : kF kNf RX5 214 5 26 := ⟨RX5, TX5, 41, rfl, by decide, gX5_in, Or.inl (gw_mem (i := 854) (by decide +kernel) (by decide +kernel))⟩
theorem kw_5_26 : kW 5 26 .int := ⟨RX5, TX5, 41, tyX5, rfl, tyX5_ok, nmX5, rfl, by decide +kernel⟩
theorem kfX5_65 : kF kNf RX5 65 5 27 := ⟨RX5, TX5, 41, rfl, by decide, gX5_in, Or.inl (gw_mem (i := 855) (by decide +kernel) (by decide +kernel))⟩
theorem kx_5_27 : kX RX5 5 27 (.array .int) := ⟨RX5, TX5, 41, tyX5, rfl, tyX5_ok, nmX5, rfl, by decide +kernel, by decide +kernel⟩
theorem kfX5_165 : kF kNf RX5 165 5 28 := ⟨RX5, TX5, 41, rfl, by decide, gX5_in, Or.inl (gw_mem (i := 856) (by decide +kernel) (by decide +kernel))⟩
theorem kw_5_28 : kW 5 28 .int := ⟨RX5, TX5, 41, tyX5, rfl, tyX5_ok, nmX5, rfl, by decide +kernel⟩
theorem kfX5_68 : kF kNf RX5 68 5 29 := ⟨RX5, TX5, 41, rfl, by decide, gX5_in, Or.inl (gw_mem (i := 857) (by decide +kernel) (by decide +kernel))⟩
theorem kx_5_29 : kX RX5 5 29 (.array .int) := ⟨RX5, TX5, 41, tyX5, rfl, tyX5_ok, nmX5, rfl, by decide +kernel, by decide +kernel⟩
theorem kfX5_71 : kF kNf RX5 71 5 30 := ⟨RX5, TX5, 41, rfl, by decide, gX5_in, Or.inl (gw_mem (i := 858) (by decide +kernel) (by decide +kernel))⟩
theorem kx_5_30 : kX RX5 5 30 (.array .int) := ⟨RX5, TX5, 41, tyX5, rfl, tyX5_ok, nmX5, rfl, by decide +kernel, by decide +kernel⟩
theorem kfX5_74 : kF kNf RX5 74 5 31 := ⟨RX5, TX5, 41, rfl, by decide, gX5_in, Or.inl (gw_mem (i := 859) (by decide +kernel) (by decide +kernel))⟩
theorem kx_5_31 : kX RX5 5 31 (.array .int) := ⟨RX5, TX5, 41, tyX5, rfl, tyX5_ok, nmX5, rfl, by decide +kernel, by decide +kernel⟩
theorem kfX5_77 : kF kNf RX5 77 5 32 := ⟨RX5, TX5, 41, rfl, by decide, gX5_in, Or.inl (gw_mem (i := 860) (by decide +kernel) (by decide +kernel))⟩
theorem kx_5_32 : kX RX5 5 32 (.array .int) := ⟨RX5, TX5, 41, tyX5, rfl, tyX5_ok, nmX5, rfl, by decide +kernel, by decide +kernel⟩
theorem kfX5_168 : kF kNf RX5 168 5 33 := ⟨RX5, TX5, 41, rfl, by decide, gX5_in, Or.inl (gw_mem (i := 861) (by decide +kernel) (by decide +kernel))⟩
theorem kw_5_33 : kW 5 33 .int := ⟨RX5, TX5, 41, tyX5, rfl, tyX5_ok, nmX5, rfl, by decide +kernel⟩
theorem kfX5_171 : kF kNf RX5 171 5 34 := ⟨RX5, TX5, 41, rfl, by decide, gX5_in, Or.inl (gw_mem (i := 862) (by decide +kernel) (by decide +kernel))⟩
theorem kw_5_34 : kW 5 34 .boolean := ⟨RX5, TX5, 41, tyX5, rfl, tyX5_ok, nmX5, rfl, by decide +kernel⟩
theorem kfX5_80 : kF kNf RX5 80 5 35 := ⟨RX5, TX5, 41, rfl, by decide, gX5_in, Or.inl (gw_mem (i := 863) (by decide +kernel) (by decide +kernel))⟩
theorem kx_5_35 : kX RX5 5 35 (.array .int) := ⟨RX5, TX5, 41, tyX5, rfl, tyX5_ok, nmX5, rfl, by decide +kernel, by decide +kernel⟩
theorem kfX5_83 : kF kNf RX5 83 5 36 := ⟨RX5, TX5, 41, rfl, by decide, gX5_in, Or.inl (gw_mem (i := 864) (by decide +kernel) (by decide +kernel))⟩
theorem kx_5_36 : kX RX5 5 36 (.array .int) := ⟨RX5, TX5, 41, tyX5, rfl, tyX5_ok, nmX5, rfl, by decide +kernel, by decide +kernel⟩
theorem kfX5_261 : kF kNf RX5 261 5 37 := ⟨RX5, TX5, 41, rfl, by decide, gX5_in, Or.inl (gw_mem (i := 865) (by decide +kernel) (by decide +kernel))⟩
theorem kw_5_37 : kW 5 37 .int := ⟨RX5, TX5, 41, tyX5, rfl, tyX5_ok, nmX5, rfl, by decide +kernel⟩
theorem kfX5_264 : kF kNf RX5 264 5 38 := ⟨RX5, TX5, 41, rfl, by decide, gX5_in, Or.inl (gw_mem (i := 866) (by decide +kernel) (by decide +kernel))⟩
theorem kw_5_38 : kW 5 38 .int := ⟨RX5, TX5, 41, tyX5, rfl, tyX5_ok, nmX5, rfl, by decide +kernel⟩
theorem kfX5_274 : kF kNf RX5 274 5 39 := ⟨RX5, TX5, 41, rfl, by decide, gX5_in, Or.inl (gw_mem (i := 867) (by decide +kernel) (by decide +kernel))⟩
theorem kw_5_39 : kW 5 39 .int := ⟨RX5, TX5, 41, tyX5, rfl, tyX5_ok, nmX5, rfl, by decide +kernel⟩
theorem kfX5_86 : kF kNf RX5 86 5 40 := ⟨RX5, TX5, 41, rfl, by decide, gX5_in, Or.inl (gw_mem (i := 868) (by decide +kernel) (by decide +kernel))⟩
theorem kx_5_40 : kX RX5 5 40 (.array .int) := ⟨RX5, TX5, 41, tyX5, rfl, tyX5_ok, nmX5, rfl, by decide +kernel, by decide +kernel⟩
theorem kyX4_init : kY yX4_init cX4_init 2 none 0 := ⟨gw_mem (i := 133) (by decide +kernel) (by decide +kernel), gw_mem (i := 117) (by decide +kernel) (by decide +kernel), by decide +kernel, by decide +kernel, by decide +kernel, by decide, by decide +kernel⟩
theorem kiX4_init : Cond.instanceMethod yX4_init ∈ Gw := gw_mem (i := 132) (by decide +kernel) (by decide +kernel)
theorem kyX3_init : kY yX3_init cX3_init 1 none 0 := ⟨gw_mem (i := 141) (by decide +kernel) (by decide +kernel), gw_mem (i := 118) (by decide +kernel) (by decide +kernel), by decide +kernel, by decide +kernel, by decide +kernel, by decide, by decide +kernel⟩
theorem kiX3_init : Cond.instanceMethod yX3_init ∈ Gw := gw_mem (i := 140) (by decide +kernel) (by decide +kernel)
theorem kyX2_init : kY yX2_init cX2_init 1 none 0 := ⟨gw_mem (i := 159) (by decide +kernel) (by decide +kernel), gw_mem (i := 119) (by decide +kernel) (by decide +kernel), by decide +kernel, by decide +kernel, by decide +kernel, by decide, by decide +kernel⟩
theorem kiX2_init : Cond.instanceMethod yX2_init ∈ Gw := gw_mem (i := 158) (by decide +kernel) (by decide +kernel)
theorem kyX0_init : kY yX0_init cX0_init 3 none 1 := ⟨gw_mem (i := 226) (by decide +kernel) (by decide +kernel), gw_mem (i := 120) (by decide +kernel) (by decide +kernel), by decide +kernel, by decide +kernel, by decide +kernel, by decide, by decide +kernel⟩
theorem kiX0_init : Cond.instanceMethod yX0_init ∈ Gw := gw_mem (i := 225) (by decide +kernel) (by decide +kernel)
theorem kyX1_init : kY yX1_init cX1_init 1 none 0 := ⟨gw_mem (i := 246) (by decide +kernel) (by decide +kernel), gw_mem (i := 122) (by decide +kernel) (by decide +kernel), by decide +kernel, by decide +kernel, by decide +kernel, by decide, by decide +kernel⟩
theorem kiX1_init : Cond.instanceMethod yX1_init ∈ Gw := gw_mem (i := 245) (by decide +kernel) (by decide +kernel)
theorem kyX3_append : kY yX3_append cX3_append 2 (some .boolean) 1 := ⟨gw_mem (i := 337) (by decide +kernel) (by decide +kernel), gw_mem (i := 118) (by decide +kernel) (by decide +kernel), by decide +kernel, by decide +kernel, by decide +kernel, by decide, by decide +kernel⟩
theorem knX3_append : kN yX3_append 3 := ⟨gw_mem (i := 336) (by decide +kernel) (by decide +kernel), gw_mem (i := 0) (by decide +kernel) (by decide +kernel), TX3, 3, rfl⟩
theorem kyX3_readInto : kY yX3_readInto cX3_readInto 5 (some .int) 1 := ⟨gw_mem (i := 341) (by decide +kernel) (by decide +kernel), gw_mem (i := 118) (by decide +kernel) (by decide +kernel), by decide +kernel, by decide +kernel, by decide +kernel, by decide, by decide +kernel⟩
theorem knX3_readInto : kN yX3_readInto 3 := ⟨gw_mem (i := 340) (by decide +kernel) (by decide +kernel), gw_mem (i := 1) (by decide +kernel) (by decide +kernel), TX3, 3, rfl⟩
theorem kyX2_clear : kY yX2_clear cX2_clear 1 none 0 := ⟨gw_mem (i := 345) (by decide +kernel) (by decide +kernel), gw_mem (i := 119) (by decide +kernel) (by decide +kernel), by decide +kernel, by decide +kernel, by decide +kernel, by decide, by decide +kernel⟩
theorem knX2_clear : kN yX2_clear 2 := ⟨gw_mem (i := 344) (by decide +kernel) (by decide +kernel), gw_mem (i := 2) (by decide +kernel) (by decide +kernel), TX2, 13, rfl⟩
theorem kyX2_setFlow : kY yX2_setFlow cX2_setFlow 4 none 3 := ⟨gw_mem (i := 349) (by decide +kernel) (by decide +kernel), gw_mem (i := 119) (by decide +kernel) (by decide +kernel), by decide +kernel, by decide +kernel, by decide +kernel, by decide, by decide +kernel⟩
theorem knX2_setFlow : kN yX2_setFlow 2 := ⟨gw_mem (i := 348) (by decide +kernel) (by decide +kernel), gw_mem (i := 3) (by decide +kernel) (by decide +kernel), TX2, 13, rfl⟩
theorem kyX3_endOfItem : kY yX3_endOfItem cX3_endOfItem 3 (some .int) 1 := ⟨gw_mem (i := 353) (by decide +kernel) (by decide +kernel), gw_mem (i := 118) (by decide +kernel) (by decide +kernel), by decide +kernel, by decide +kernel, by decide +kernel, by decide, by decide +kernel⟩
theorem knX3_endOfItem : kN yX3_endOfItem 3 := ⟨gw_mem (i := 352) (by decide +kernel) (by decide +kernel), gw_mem (i := 4) (by decide +kernel) (by decide +kernel), TX3, 3, rfl⟩
theorem kyX3_readItem : kY yX3_readItem cX3_readItem 6 (some .boolean) 3 := ⟨gw_mem (i := 357) (by decide +kernel) (by decide +kernel), gw_mem (i := 118) (by decide +kernel) (by decide +kernel), by decide +kernel, by decide +kernel, by decide +kernel, by decide, by decide +kernel⟩
theorem knX3_readItem : kN yX3_readItem 3 := ⟨gw_mem (i := 356) (by decide +kernel) (by decide +kernel), gw_mem (i := 5) (by decide +kernel) (by decide +kernel), TX3, 3, rfl⟩
theorem kyX3_readSigns : kY yX3_readSigns cX3_readSigns 6 (some .boolean) 3 := ⟨gw_mem (i := 361) (by decide +kernel) (by decide +kernel), gw_mem (i := 118) (by decide +kernel) (by decide +kernel), by decide +kernel, by decide +kernel, by decide +kernel, by decide, by decide +kernel⟩
theorem knX3_readSigns : kN yX3_readSigns 3 := ⟨gw_mem (i := 360) (by decide +kernel) (by decide +kernel), gw_mem (i := 6) (by decide +kernel) (by decide +kernel), TX3, 3, rfl⟩
theorem kyX3_signOf : kY yX3_signOf cX3_signOf 1 (some .int) 1 := ⟨gw_mem (i := 364) (by decide +kernel) (by decide +kernel), gw_mem (i := 118) (by decide +kernel) (by decide +kernel), by decide +kernel, by decide +kernel, by decide +kernel, by decide, by decide +kernel⟩
theorem ksX3_signOf : Cond.static yX3_signOf ∈ Gw := gw_mem (i := 363) (by decide +kernel) (by decide +kernel)
theorem kyX2_hasRoom : kY yX2_hasRoom cX2_hasRoom 1 (some .boolean) 0 := ⟨gw_mem (i := 368) (by decide +kernel) (by decide +kernel), gw_mem (i := 119) (by decide +kernel) (by decide +kernel), by decide +kernel, by decide +kernel, by decide +kernel, by decide, by decide +kernel⟩
theorem knX2_hasRoom : kN yX2_hasRoom 2 := ⟨gw_mem (i := 367) (by decide +kernel) (by decide +kernel), gw_mem (i := 7) (by decide +kernel) (by decide +kernel), TX2, 13, rfl⟩
theorem kyX2_putIn : kY yX2_putIn cX2_putIn 4 none 2 := ⟨gw_mem (i := 372) (by decide +kernel) (by decide +kernel), gw_mem (i := 119) (by decide +kernel) (by decide +kernel), by decide +kernel, by decide +kernel, by decide +kernel, by decide, by decide +kernel⟩
theorem knX2_putIn : kN yX2_putIn 2 := ⟨gw_mem (i := 371) (by decide +kernel) (by decide +kernel), gw_mem (i := 8) (by decide +kernel) (by decide +kernel), TX2, 13, rfl⟩
theorem kyX2_hasPlace : kY yX2_hasPlace cX2_hasPlace 2 (some .boolean) 1 := ⟨gw_mem (i := 376) (by decide +kernel) (by decide +kernel), gw_mem (i := 119) (by decide +kernel) (by decide +kernel), by decide +kernel, by decide +kernel, by decide +kernel, by decide, by decide +kernel⟩
theorem knX2_hasPlace : kN yX2_hasPlace 2 := ⟨gw_mem (i := 375) (by decide +kernel) (by decide +kernel), gw_mem (i := 9) (by decide +kernel) (by decide +kernel), TX2, 13, rfl⟩
theorem kyX3_readNumbers : kY yX3_readNumbers cX3_readNumbers 8 (some .int) 2 := ⟨gw_mem (i := 381) (by decide +kernel) (by decide +kernel), gw_mem (i := 118) (by decide +kernel) (by decide +kernel), by decide +kernel, by decide +kernel, by decide +kernel, by decide, by decide +kernel⟩
theorem knX3_readNumbers : kN yX3_readNumbers 3 := ⟨gw_mem (i := 380) (by decide +kernel) (by decide +kernel), gw_mem (i := 10) (by decide +kernel) (by decide +kernel), TX3, 3, rfl⟩
theorem kyX3_readFold : kY yX3_readFold cX3_readFold 2 (some .boolean) 1 := ⟨gw_mem (i := 385) (by decide +kernel) (by decide +kernel), gw_mem (i := 118) (by decide +kernel) (by decide +kernel), by decide +kernel, by decide +kernel, by decide +kernel, by decide, by decide +kernel⟩
theorem knX3_readFold : kN yX3_readFold 3 := ⟨gw_mem (i := 384) (by decide +kernel) (by decide +kernel), gw_mem (i := 11) (by decide +kernel) (by decide +kernel), TX3, 3, rfl⟩
theorem kyX2_foldRefusal : kY yX2_foldRefusal cX2_foldRefusal 4 (some .int) 2 := ⟨gw_mem (i := 389) (by decide +kernel) (by decide +kernel), gw_mem (i := 119) (by decide +kernel) (by decide +kernel), by decide +kernel, by decide +kernel, by decide +kernel, by decide, by decide +kernel⟩
theorem knX2_foldRefusal : kN yX2_foldRefusal 2 := ⟨gw_mem (i := 388) (by decide +kernel) (by decide +kernel), gw_mem (i := 12) (by decide +kernel) (by decide +kernel), TX2, 13, rfl⟩
theorem kyX2_addFold : kY yX2_addFold cX2_addFold 4 (some .int) 2 := ⟨gw_mem (i := 393) (by decide +kernel) (by decide +kernel), gw_mem (i := 119) (by decide +kernel) (by decide +kernel), by decide +kernel, by decide +kernel, by decide +kernel, by decide, by decide +kernel⟩
theorem knX2_addFold : kN yX2_addFold 2 := ⟨gw_mem (i := 392) (by decide +kernel) (by decide +kernel), gw_mem (i := 13) (by decide +kernel) (by decide +kernel), TX2, 13, rfl⟩
theorem kyX3_readHint : kY yX3_readHint cX3_readHint 2 (some .boolean) 1 := ⟨gw_mem (i := 397) (by decide +kernel) (by decide +kernel), gw_mem (i := 118) (by decide +kernel) (by decide +kernel), by decide +kernel, by decide +kernel, by decide +kernel, by decide, by decide +kernel⟩
theorem knX3_readHint : kN yX3_readHint 3 := ⟨gw_mem (i := 396) (by decide +kernel) (by decide +kernel), gw_mem (i := 14) (by decide +kernel) (by decide +kernel), TX3, 3, rfl⟩
theorem kyX2_hintRefusal : kY yX2_hintRefusal cX2_hintRefusal 3 (some .int) 2 := ⟨gw_mem (i := 401) (by decide +kernel) (by decide +kernel), gw_mem (i := 119) (by decide +kernel) (by decide +kernel), by decide +kernel, by decide +kernel, by decide +kernel, by decide, by decide +kernel⟩
theorem knX2_hintRefusal : kN yX2_hintRefusal 2 := ⟨gw_mem (i := 400) (by decide +kernel) (by decide +kernel), gw_mem (i := 15) (by decide +kernel) (by decide +kernel), TX2, 13, rfl⟩
theorem kyX2_hintAt : kY yX2_hintAt cX2_hintAt 3 (some .int) 1 := ⟨gw_mem (i := 405) (by decide +kernel) (by decide +kernel), gw_mem (i := 119) (by decide +kernel) (by decide +kernel), by decide +kernel, by decide +kernel, by decide +kernel, by decide, by decide +kernel⟩
theorem knX2_hintAt : kN yX2_hintAt 2 := ⟨gw_mem (i := 404) (by decide +kernel) (by decide +kernel), gw_mem (i := 16) (by decide +kernel) (by decide +kernel), TX2, 13, rfl⟩
theorem kyX2_addHint : kY yX2_addHint cX2_addHint 4 (some .int) 2 := ⟨gw_mem (i := 409) (by decide +kernel) (by decide +kernel), gw_mem (i := 119) (by decide +kernel) (by decide +kernel), by decide +kernel, by decide +kernel, by decide +kernel, by decide, by decide +kernel⟩
theorem knX2_addHint : kN yX2_addHint 2 := ⟨gw_mem (i := 408) (by decide +kernel) (by decide +kernel), gw_mem (i := 17) (by decide +kernel) (by decide +kernel), TX2, 13, rfl⟩
theorem kyX3_readFlow : kY yX3_readFlow cX3_readFlow 2 (some .boolean) 1 := ⟨gw_mem (i := 413) (by decide +kernel) (by decide +kernel), gw_mem (i := 118) (by decide +kernel) (by decide +kernel), by decide +kernel, by decide +kernel, by decide +kernel, by decide, by decide +kernel⟩
theorem knX3_readFlow : kN yX3_readFlow 3 := ⟨gw_mem (i := 412) (by decide +kernel) (by decide +kernel), gw_mem (i := 18) (by decide +kernel) (by decide +kernel), TX3, 3, rfl⟩
theorem kyX2_isFlow : kY yX2_isFlow cX2_isFlow 3 (some .boolean) 3 := ⟨gw_mem (i := 416) (by decide +kernel) (by decide +kernel), gw_mem (i := 119) (by decide +kernel) (by decide +kernel), by decide +kernel, by decide +kernel, by decide +kernel, by decide, by decide +kernel⟩
theorem ksX2_isFlow : Cond.static yX2_isFlow ∈ Gw := gw_mem (i := 415) (by decide +kernel) (by decide +kernel)
theorem kyX3_readTabStep : kY yX3_readTabStep cX3_readTabStep 2 (some .boolean) 1 := ⟨gw_mem (i := 421) (by decide +kernel) (by decide +kernel), gw_mem (i := 118) (by decide +kernel) (by decide +kernel), by decide +kernel, by decide +kernel, by decide +kernel, by decide, by decide +kernel⟩
theorem knX3_readTabStep : kN yX3_readTabStep 3 := ⟨gw_mem (i := 420) (by decide +kernel) (by decide +kernel), gw_mem (i := 19) (by decide +kernel) (by decide +kernel), TX3, 3, rfl⟩
theorem kyX2_isTabStep : kY yX2_isTabStep cX2_isTabStep 1 (some .boolean) 1 := ⟨gw_mem (i := 424) (by decide +kernel) (by decide +kernel), gw_mem (i := 119) (by decide +kernel) (by decide +kernel), by decide +kernel, by decide +kernel, by decide +kernel, by decide, by decide +kernel⟩
theorem ksX2_isTabStep : Cond.static yX2_isTabStep ∈ Gw := gw_mem (i := 423) (by decide +kernel) (by decide +kernel)
theorem kyX1_draw : kY yX1_draw cX1_draw 2 (some .int) 1 := ⟨gw_mem (i := 428) (by decide +kernel) (by decide +kernel), gw_mem (i := 122) (by decide +kernel) (by decide +kernel), by decide +kernel, by decide +kernel, by decide +kernel, by decide, by decide +kernel⟩
theorem knX1_draw : kN yX1_draw 1 := ⟨gw_mem (i := 427) (by decide +kernel) (by decide +kernel), gw_mem (i := 20) (by decide +kernel) (by decide +kernel), TX1, 10, rfl⟩
theorem kyX1_gather : kY yX1_gather cX1_gather 4 none 1 := ⟨gw_mem (i := 432) (by decide +kernel) (by decide +kernel), gw_mem (i := 122) (by decide +kernel) (by decide +kernel), by decide +kernel, by decide +kernel, by decide +kernel, by decide, by decide +kernel⟩
theorem knX1_gather : kN yX1_gather 1 := ⟨gw_mem (i := 431) (by decide +kernel) (by decide +kernel), gw_mem (i := 21) (by decide +kernel) (by decide +kernel), TX1, 10, rfl⟩
theorem kyX2_isShown : kY yX2_isShown cX2_isShown 2 (some .boolean) 1 := ⟨gw_mem (i := 436) (by decide +kernel) (by decide +kernel), gw_mem (i := 119) (by decide +kernel) (by decide +kernel), by decide +kernel, by decide +kernel, by decide +kernel, by decide, by decide +kernel⟩
theorem knX2_isShown : kN yX2_isShown 2 := ⟨gw_mem (i := 435) (by decide +kernel) (by decide +kernel), gw_mem (i := 22) (by decide +kernel) (by decide +kernel), TX2, 13, rfl⟩
theorem kyX2_holderOf : kY yX2_holderOf cX2_holderOf 3 (some .int) 1 := ⟨gw_mem (i := 440) (by decide +kernel) (by decide +kernel), gw_mem (i := 119) (by decide +kernel) (by decide +kernel), by decide +kernel, by decide +kernel, by decide +kernel, by decide, by decide +kernel⟩
theorem knX2_holderOf : kN yX2_holderOf 2 := ⟨gw_mem (i := 439) (by decide +kernel) (by decide +kernel), gw_mem (i := 23) (by decide +kernel) (by decide +kernel), TX2, 13, rfl⟩
theorem kyX2_shutFoldOf : kY yX2_shutFoldOf cX2_shutFoldOf 3 (some .int) 1 := ⟨gw_mem (i := 444) (by decide +kernel) (by decide +kernel), gw_mem (i := 119) (by decide +kernel) (by decide +kernel), by decide +kernel, by decide +kernel, by decide +kernel, by decide, by decide +kernel⟩
theorem knX2_shutFoldOf : kN yX2_shutFoldOf 2 := ⟨gw_mem (i := 443) (by decide +kernel) (by decide +kernel), gw_mem (i := 24) (by decide +kernel) (by decide +kernel), TX2, 13, rfl⟩
theorem kyX1_addItem : kY yX1_addItem cX1_addItem 4 none 3 := ⟨gw_mem (i := 449) (by decide +kernel) (by decide +kernel), gw_mem (i := 122) (by decide +kernel) (by decide +kernel), by decide +kernel, by decide +kernel, by decide +kernel, by decide, by decide +kernel⟩
theorem knX1_addItem : kN yX1_addItem 1 := ⟨gw_mem (i := 448) (by decide +kernel) (by decide +kernel), gw_mem (i := 25) (by decide +kernel) (by decide +kernel), TX1, 10, rfl⟩
theorem kyX2_signAt : kY yX2_signAt cX2_signAt 2 (some .int) 1 := ⟨gw_mem (i := 454) (by decide +kernel) (by decide +kernel), gw_mem (i := 119) (by decide +kernel) (by decide +kernel), by decide +kernel, by decide +kernel, by decide +kernel, by decide, by decide +kernel⟩
theorem knX2_signAt : kN yX2_signAt 2 := ⟨gw_mem (i := 453) (by decide +kernel) (by decide +kernel), gw_mem (i := 26) (by decide +kernel) (by decide +kernel), TX2, 13, rfl⟩
theorem kyX2_hasSign : kY yX2_hasSign cX2_hasSign 2 (some .boolean) 1 := ⟨gw_mem (i := 458) (by decide +kernel) (by decide +kernel), gw_mem (i := 119) (by decide +kernel) (by decide +kernel), by decide +kernel, by decide +kernel, by decide +kernel, by decide, by decide +kernel⟩
theorem knX2_hasSign : kN yX2_hasSign 2 := ⟨gw_mem (i := 457) (by decide +kernel) (by decide +kernel), gw_mem (i := 27) (by decide +kernel) (by decide +kernel), TX2, 13, rfl⟩
theorem kyX1_flow : kY yX1_flow cX1_flow 4 none 1 := ⟨gw_mem (i := 462) (by decide +kernel) (by decide +kernel), gw_mem (i := 122) (by decide +kernel) (by decide +kernel), by decide +kernel, by decide +kernel, by decide +kernel, by decide, by decide +kernel⟩
theorem knX1_flow : kN yX1_flow 1 := ⟨gw_mem (i := 461) (by decide +kernel) (by decide +kernel), gw_mem (i := 28) (by decide +kernel) (by decide +kernel), TX1, 10, rfl⟩
theorem kyX1_openRow : kY yX1_openRow cX1_openRow 2 none 1 := ⟨gw_mem (i := 466) (by decide +kernel) (by decide +kernel), gw_mem (i := 122) (by decide +kernel) (by decide +kernel), by decide +kernel, by decide +kernel, by decide +kernel, by decide, by decide +kernel⟩
theorem knX1_openRow : kN yX1_openRow 1 := ⟨gw_mem (i := 465) (by decide +kernel) (by decide +kernel), gw_mem (i := 29) (by decide +kernel) (by decide +kernel), TX1, 10, rfl⟩
theorem kyX1_goesOn : kY yX1_goesOn cX1_goesOn 4 (some .boolean) 2 := ⟨gw_mem (i := 470) (by decide +kernel) (by decide +kernel), gw_mem (i := 122) (by decide +kernel) (by decide +kernel), by decide +kernel, by decide +kernel, by decide +kernel, by decide, by decide +kernel⟩
theorem knX1_goesOn : kN yX1_goesOn 1 := ⟨gw_mem (i := 469) (by decide +kernel) (by decide +kernel), gw_mem (i := 30) (by decide +kernel) (by decide +kernel), TX1, 10, rfl⟩
theorem kyX1_widthOf : kY yX1_widthOf cX1_widthOf 3 (some .int) 2 := ⟨gw_mem (i := 474) (by decide +kernel) (by decide +kernel), gw_mem (i := 122) (by decide +kernel) (by decide +kernel), by decide +kernel, by decide +kernel, by decide +kernel, by decide, by decide +kernel⟩
theorem knX1_widthOf : kN yX1_widthOf 1 := ⟨gw_mem (i := 473) (by decide +kernel) (by decide +kernel), gw_mem (i := 31) (by decide +kernel) (by decide +kernel), TX1, 10, rfl⟩
theorem kyX1_startsWord : kY yX1_startsWord cX1_startsWord 2 (some .boolean) 1 := ⟨gw_mem (i := 478) (by decide +kernel) (by decide +kernel), gw_mem (i := 122) (by decide +kernel) (by decide +kernel), by decide +kernel, by decide +kernel, by decide +kernel, by decide, by decide +kernel⟩
theorem knX1_startsWord : kN yX1_startsWord 1 := ⟨gw_mem (i := 477) (by decide +kernel) (by decide +kernel), gw_mem (i := 32) (by decide +kernel) (by decide +kernel), TX1, 10, rfl⟩
theorem kyX1_isOfWord : kY yX1_isOfWord cX1_isOfWord 2 (some .boolean) 1 := ⟨gw_mem (i := 482) (by decide +kernel) (by decide +kernel), gw_mem (i := 122) (by decide +kernel) (by decide +kernel), by decide +kernel, by decide +kernel, by decide +kernel, by decide, by decide +kernel⟩
theorem knX1_isOfWord : kN yX1_isOfWord 1 := ⟨gw_mem (i := 481) (by decide +kernel) (by decide +kernel), gw_mem (i := 33) (by decide +kernel) (by decide +kernel), TX1, 10, rfl⟩
theorem kyX1_wordWidth : kY yX1_wordWidth cX1_wordWidth 4 (some .int) 1 := ⟨gw_mem (i := 486) (by decide +kernel) (by decide +kernel), gw_mem (i := 122) (by decide +kernel) (by decide +kernel), by decide +kernel, by decide +kernel, by decide +kernel, by decide, by decide +kernel⟩
theorem knX1_wordWidth : kN yX1_wordWidth 1 := ⟨gw_mem (i := 485) (by decide +kernel) (by decide +kernel), gw_mem (i := 34) (by decide +kernel) (by decide +kernel), TX1, 10, rfl⟩
theorem kyX1_closeRow : kY yX1_closeRow cX1_closeRow 1 none 0 := ⟨gw_mem (i := 490) (by decide +kernel) (by decide +kernel), gw_mem (i := 122) (by decide +kernel) (by decide +kernel), by decide +kernel, by decide +kernel, by decide +kernel, by decide, by decide +kernel⟩
theorem knX1_closeRow : kN yX1_closeRow 1 := ⟨gw_mem (i := 489) (by decide +kernel) (by decide +kernel), gw_mem (i := 35) (by decide +kernel) (by decide +kernel), TX1, 10, rfl⟩
theorem kyX4_write : kY yX4_write cX4_write 2 (some .int) 1 := ⟨gw_mem (i := 523) (by decide +kernel) (by decide +kernel), gw_mem (i := 117) (by decide +kernel) (by decide +kernel), by decide +kernel, by decide +kernel, by decide +kernel, by decide, by decide +kernel⟩
theorem knX4_write : kN yX4_write 4 := ⟨gw_mem (i := 521) (by decide +kernel) (by decide +kernel), gw_mem (i := 522) (by decide +kernel) (by decide +kernel), TX4, 9, rfl⟩
theorem kyX4_wipe : kY yX4_wipe cX4_wipe 2 (some .int) 0 := ⟨gw_mem (i := 527) (by decide +kernel) (by decide +kernel), gw_mem (i := 117) (by decide +kernel) (by decide +kernel), by decide +kernel, by decide +kernel, by decide +kernel, by decide, by decide +kernel⟩
theorem knX4_wipe : kN yX4_wipe 4 := ⟨gw_mem (i := 525) (by decide +kernel) (by decide +kernel), gw_mem (i := 526) (by decide +kernel) (by decide +kernel), TX4, 9, rfl⟩
theorem kyX4_fault : kY yX4_fault cX4_fault 1 (some .int) 0 := ⟨gw_mem (i := 531) (by decide +kernel) (by decide +kernel), gw_mem (i := 117) (by decide +kernel) (by decide +kernel), by decide +kernel, by decide +kernel, by decide +kernel, by decide, by decide +kernel⟩
theorem knX4_fault : kN yX4_fault 4 := ⟨gw_mem (i := 529) (by decide +kernel) (by decide +kernel), gw_mem (i := 530) (by decide +kernel) (by decide +kernel), TX4, 9, rfl⟩
theorem kyX4_lay : kY yX4_lay cX4_lay 1 (some .int) 0 := ⟨gw_mem (i := 535) (by decide +kernel) (by decide +kernel), gw_mem (i := 117) (by decide +kernel) (by decide +kernel), by decide +kernel, by decide +kernel, by decide +kernel, by decide, by decide +kernel⟩
theorem knX4_lay : kN yX4_lay 4 := ⟨gw_mem (i := 533) (by decide +kernel) (by decide +kernel), gw_mem (i := 534) (by decide +kernel) (by decide +kernel), TX4, 9, rfl⟩
theorem kyX4_startAnew : kY yX4_startAnew cX4_startAnew 2 none 1 := ⟨gw_mem (i := 539) (by decide +kernel) (by decide +kernel), gw_mem (i := 117) (by decide +kernel) (by decide +kernel), by decide +kernel, by decide +kernel, by decide +kernel, by decide, by decide +kernel⟩
theorem knX4_startAnew : kN yX4_startAnew 4 := ⟨gw_mem (i := 538) (by decide +kernel) (by decide +kernel), gw_mem (i := 36) (by decide +kernel) (by decide +kernel), TX4, 9, rfl⟩
theorem kyX2_copyFrom : kY yX2_copyFrom cX2_copyFrom 3 none 1 := ⟨gw_mem (i := 543) (by decide +kernel) (by decide +kernel), gw_mem (i := 119) (by decide +kernel) (by decide +kernel), by decide +kernel, by decide +kernel, by decide +kernel, by decide, by decide +kernel⟩
theorem knX2_copyFrom : kN yX2_copyFrom 2 := ⟨gw_mem (i := 542) (by decide +kernel) (by decide +kernel), gw_mem (i := 37) (by decide +kernel) (by decide +kernel), TX2, 13, rfl⟩
theorem kyX4_sign : kY yX4_sign cX4_sign 2 (some .int) 1 := ⟨gw_mem (i := 550) (by decide +kernel) (by decide +kernel), gw_mem (i := 117) (by decide +kernel) (by decide +kernel), by decide +kernel, by decide +kernel, by decide +kernel, by decide, by decide +kernel⟩
theorem knX4_sign : kN yX4_sign 4 := ⟨gw_mem (i := 548) (by decide +kernel) (by decide +kernel), gw_mem (i := 549) (by decide +kernel) (by decide +kernel), TX4, 9, rfl⟩
theorem kyX4_fold : kY yX4_fold cX4_fold 3 (some .int) 2 := ⟨gw_mem (i := 556) (by decide +kernel) (by decide +kernel), gw_mem (i := 117) (by decide +kernel) (by decide +kernel), by decide +kernel, by decide +kernel, by decide +kernel, by decide, by decide +kernel⟩
theorem knX4_fold : kN yX4_fold 4 := ⟨gw_mem (i := 554) (by decide +kernel) (by decide +kernel), gw_mem (i := 555) (by decide +kernel) (by decide +kernel), TX4, 9, rfl⟩
theorem kyX2_hasFold : kY yX2_hasFold cX2_hasFold 2 (some .boolean) 1 := ⟨gw_mem (i := 560) (by decide +kernel) (by decide +kernel), gw_mem (i := 119) (by decide +kernel) (by decide +kernel), by decide +kernel, by decide +kernel, by decide +kernel, by decide, by decide +kernel⟩
theorem knX2_hasFold : kN yX2_hasFold 2 := ⟨gw_mem (i := 559) (by decide +kernel) (by decide +kernel), gw_mem (i := 38) (by decide +kernel) (by decide +kernel), TX2, 13, rfl⟩
theorem kyX4_hint : kY yX4_hint cX4_hint 3 (some .int) 2 := ⟨gw_mem (i := 564) (by decide +kernel) (by decide +kernel), gw_mem (i := 117) (by decide +kernel) (by decide +kernel), by decide +kernel, by decide +kernel, by decide +kernel, by decide, by decide +kernel⟩
theorem knX4_hint : kN yX4_hint 4 := ⟨gw_mem (i := 562) (by decide +kernel) (by decide +kernel), gw_mem (i := 563) (by decide +kernel) (by decide +kernel), TX4, 9, rfl⟩
theorem kyX2_hasHint : kY yX2_hasHint cX2_hasHint 2 (some .boolean) 1 := ⟨gw_mem (i := 568) (by decide +kernel) (by decide +kernel), gw_mem (i := 119) (by decide +kernel) (by decide +kernel), by decide +kernel, by decide +kernel, by decide +kernel, by decide, by decide +kernel⟩
theorem knX2_hasHint : kN yX2_hasHint 2 := ⟨gw_mem (i := 567) (by decide +kernel) (by decide +kernel), gw_mem (i := 39) (by decide +kernel) (by decide +kernel), TX2, 13, rfl⟩
theorem kyX4_insert : kY yX4_insert cX4_insert 3 (some .int) 2 := ⟨gw_mem (i := 573) (by decide +kernel) (by decide +kernel), gw_mem (i := 117) (by decide +kernel) (by decide +kernel), by decide +kernel, by decide +kernel, by decide +kernel, by decide, by decide +kernel⟩
theorem knX4_insert : kN yX4_insert 4 := ⟨gw_mem (i := 571) (by decide +kernel) (by decide +kernel), gw_mem (i := 572) (by decide +kernel) (by decide +kernel), TX4, 9, rfl⟩
theorem kyX0_push : kY yX0_push cX0_push 2 none 1 := ⟨gw_mem (i := 578) (by decide +kernel) (by decide +kernel), gw_mem (i := 120) (by decide +kernel) (by decide +kernel), by decide +kernel, by decide +kernel, by decide +kernel, by decide, by decide +kernel⟩
theorem knX0_push : kN yX0_push 0 := ⟨gw_mem (i := 577) (by decide +kernel) (by decide +kernel), gw_mem (i := 40) (by decide +kernel) (by decide +kernel), TX0, 2, rfl⟩
theorem kyX0_isFull : kY yX0_isFull cX0_isFull 1 (some .boolean) 0 := ⟨gw_mem (i := 582) (by decide +kernel) (by decide +kernel), gw_mem (i := 120) (by decide +kernel) (by decide +kernel), by decide +kernel, by decide +kernel, by decide +kernel, by decide, by decide +kernel⟩
theorem knX0_isFull : kN yX0_isFull 0 := ⟨gw_mem (i := 581) (by decide +kernel) (by decide +kernel), gw_mem (i := 41) (by decide +kernel) (by decide +kernel), TX0, 2, rfl⟩
theorem kyX0_dropLowest : kY yX0_dropLowest cX0_dropLowest 3 none 0 := ⟨gw_mem (i := 586) (by decide +kernel) (by decide +kernel), gw_mem (i := 120) (by decide +kernel) (by decide +kernel), by decide +kernel, by decide +kernel, by decide +kernel, by decide, by decide +kernel⟩
theorem knX0_dropLowest : kN yX0_dropLowest 0 := ⟨gw_mem (i := 585) (by decide +kernel) (by decide +kernel), gw_mem (i := 42) (by decide +kernel) (by decide +kernel), TX0, 2, rfl⟩
theorem kyX4_redraw : kY yX4_redraw cX4_redraw 2 none 0 := ⟨gw_mem (i := 592) (by decide +kernel) (by decide +kernel), gw_mem (i := 117) (by decide +kernel) (by decide +kernel), by decide +kernel, by decide +kernel, by decide +kernel, by decide, by decide +kernel⟩
theorem knX4_redraw : kN yX4_redraw 4 := ⟨gw_mem (i := 591) (by decide +kernel) (by decide +kernel), gw_mem (i := 43) (by decide +kernel) (by decide +kernel), TX4, 9, rfl⟩
theorem kyX4_erase : kY yX4_erase cX4_erase 3 (some .int) 1 := ⟨gw_mem (i := 596) (by decide +kernel) (by decide +kernel), gw_mem (i := 117) (by decide +kernel) (by decide +kernel), by decide +kernel, by decide +kernel, by decide +kernel, by decide, by decide +kernel⟩
theorem knX4_erase : kN yX4_erase 4 := ⟨gw_mem (i := 594) (by decide +kernel) (by decide +kernel), gw_mem (i := 595) (by decide +kernel) (by decide +kernel), TX4, 9, rfl⟩
theorem kyX2_takeOut : kY yX2_takeOut cX2_takeOut 3 none 1 := ⟨gw_mem (i := 601) (by decide +kernel) (by decide +kernel), gw_mem (i := 119) (by decide +kernel) (by decide +kernel), by decide +kernel, by decide +kernel, by decide +kernel, by decide, by decide +kernel⟩
theorem knX2_takeOut : kN yX2_takeOut 2 := ⟨gw_mem (i := 600) (by decide +kernel) (by decide +kernel), gw_mem (i := 44) (by decide +kernel) (by decide +kernel), TX2, 13, rfl⟩
theorem kyX2_pullFolds : kY yX2_pullFolds cX2_pullFolds 3 none 1 := ⟨gw_mem (i := 605) (by decide +kernel) (by decide +kernel), gw_mem (i := 119) (by decide +kernel) (by decide +kernel), by decide +kernel, by decide +kernel, by decide +kernel, by decide, by decide +kernel⟩
theorem knX2_pullFolds : kN yX2_pullFolds 2 := ⟨gw_mem (i := 604) (by decide +kernel) (by decide +kernel), gw_mem (i := 45) (by decide +kernel) (by decide +kernel), TX2, 13, rfl⟩
theorem kyX2_dropFold : kY yX2_dropFold cX2_dropFold 3 none 1 := ⟨gw_mem (i := 609) (by decide +kernel) (by decide +kernel), gw_mem (i := 119) (by decide +kernel) (by decide +kernel), by decide +kernel, by decide +kernel, by decide +kernel, by decide, by decide +kernel⟩
theorem knX2_dropFold : kN yX2_dropFold 2 := ⟨gw_mem (i := 608) (by decide +kernel) (by decide +kernel), gw_mem (i := 46) (by decide +kernel) (by decide +kernel), TX2, 13, rfl⟩
theorem kyX2_pullHints : kY yX2_pullHints cX2_pullHints 3 none 1 := ⟨gw_mem (i := 614) (by decide +kernel) (by decide +kernel), gw_mem (i := 119) (by decide +kernel) (by decide +kernel), by decide +kernel, by decide +kernel, by decide +kernel, by decide, by decide +kernel⟩
theorem knX2_pullHints : kN yX2_pullHints 2 := ⟨gw_mem (i := 613) (by decide +kernel) (by decide +kernel), gw_mem (i := 47) (by decide +kernel) (by decide +kernel), TX2, 13, rfl⟩
theorem kyX2_dropHint : kY yX2_dropHint cX2_dropHint 3 none 1 := ⟨gw_mem (i := 618) (by decide +kernel) (by decide +kernel), gw_mem (i := 119) (by decide +kernel) (by decide +kernel), by decide +kernel, by decide +kernel, by decide +kernel, by decide, by decide +kernel⟩
theorem knX2_dropHint : kN yX2_dropHint 2 := ⟨gw_mem (i := 617) (by decide +kernel) (by decide +kernel), gw_mem (i := 48) (by decide +kernel) (by decide +kernel), TX2, 13, rfl⟩
theorem kyX4_toggle : kY yX4_toggle cX4_toggle 2 (some .int) 1 := ⟨gw_mem (i := 623) (by decide +kernel) (by decide +kernel), gw_mem (i := 117) (by decide +kernel) (by decide +kernel), by decide +kernel, by decide +kernel, by decide +kernel, by decide, by decide +kernel⟩
theorem knX4_toggle : kN yX4_toggle 4 := ⟨gw_mem (i := 621) (by decide +kernel) (by decide +kernel), gw_mem (i := 622) (by decide +kernel) (by decide +kernel), TX4, 9, rfl⟩
theorem kyX2_turn : kY yX2_turn cX2_turn 2 none 1 := ⟨gw_mem (i := 627) (by decide +kernel) (by decide +kernel), gw_mem (i := 119) (by decide +kernel) (by decide +kernel), by decide +kernel, by decide +kernel, by decide +kernel, by decide, by decide +kernel⟩
theorem knX2_turn : kN yX2_turn 2 := ⟨gw_mem (i := 626) (by decide +kernel) (by decide +kernel), gw_mem (i := 49) (by decide +kernel) (by decide +kernel), TX2, 13, rfl⟩
theorem kyX4_make : kY yX4_make cX4_make 5 (some .int) 2 := ⟨gw_mem (i := 631) (by decide +kernel) (by decide +kernel), gw_mem (i := 117) (by decide +kernel) (by decide +kernel), by decide +kernel, by decide +kernel, by decide +kernel, by decide, by decide +kernel⟩
theorem knX4_make : kN yX4_make 4 := ⟨gw_mem (i := 629) (by decide +kernel) (by decide +kernel), gw_mem (i := 630) (by decide +kernel) (by decide +kernel), TX4, 9, rfl⟩
theorem kyX4_unfold : kY yX4_unfold cX4_unfold 2 (some .int) 1 := ⟨gw_mem (i := 637) (by decide +kernel) (by decide +kernel), gw_mem (i := 117) (by decide +kernel) (by decide +kernel), by decide +kernel, by decide +kernel, by decide +kernel, by decide, by decide +kernel⟩
theorem knX4_unfold : kN yX4_unfold 4 := ⟨gw_mem (i := 635) (by decide +kernel) (by decide +kernel), gw_mem (i := 636) (by decide +kernel) (by decide +kernel), TX4, 9, rfl⟩
theorem kyX4_set : kY yX4_set cX4_set 5 (some .int) 2 := ⟨gw_mem (i := 642) (by decide +kernel) (by decide +kernel), gw_mem (i := 117) (by decide +kernel) (by decide +kernel), by decide +kernel, by decide +kernel, by decide +kernel, by decide, by decide +kernel⟩
theorem knX4_set : kN yX4_set 4 := ⟨gw_mem (i := 640) (by decide +kernel) (by decide +kernel), gw_mem (i := 641) (by decide +kernel) (by decide +kernel), TX4, 9, rfl⟩
theorem kyX4_unset : kY yX4_unset cX4_unset 3 (some .int) 1 := ⟨gw_mem (i := 648) (by decide +kernel) (by decide +kernel), gw_mem (i := 117) (by decide +kernel) (by decide +kernel), by decide +kernel, by decide +kernel, by decide +kernel, by decide, by decide +kernel⟩
theorem knX4_unset : kN yX4_unset 4 := ⟨gw_mem (i := 646) (by decide +kernel) (by decide +kernel), gw_mem (i := 647) (by decide +kernel) (by decide +kernel), TX4, 9, rfl⟩
theorem kyX4_wide : kY yX4_wide cX4_wide 4 (some .int) 3 := ⟨gw_mem (i := 653) (by decide +kernel) (by decide +kernel), gw_mem (i := 117) (by decide +kernel) (by decide +kernel), by decide +kernel, by decide +kernel, by decide +kernel, by decide, by decide +kernel⟩
theorem knX4_wide : kN yX4_wide 4 := ⟨gw_mem (i := 651) (by decide +kernel) (by decide +kernel), gw_mem (i := 652) (by decide +kernel) (by decide +kernel), TX4, 9, rfl⟩
theorem kyX4_tabs : kY yX4_tabs cX4_tabs 3 (some .int) 1 := ⟨gw_mem (i := 659) (by decide +kernel) (by decide +kernel), gw_mem (i := 117) (by decide +kernel) (by decide +kernel), by decide +kernel, by decide +kernel, by decide +kernel, by decide, by decide +kernel⟩
theorem knX4_tabs : kN yX4_tabs 4 := ⟨gw_mem (i := 657) (by decide +kernel) (by decide +kernel), gw_mem (i := 658) (by decide +kernel) (by decide +kernel), TX4, 9, rfl⟩
theorem kyX4_undo : kY yX4_undo cX4_undo 1 (some .int) 0 := ⟨gw_mem (i := 664) (by decide +kernel) (by decide +kernel), gw_mem (i := 117) (by decide +kernel) (by decide +kernel), by decide +kernel, by decide +kernel, by decide +kernel, by decide, by decide +kernel⟩
theorem knX4_undo : kN yX4_undo 4 := ⟨gw_mem (i := 662) (by decide +kernel) (by decide +kernel), gw_mem (i := 663) (by decide +kernel) (by decide +kernel), TX4, 9, rfl⟩
theorem kyX0_popInto : kY yX0_popInto cX0_popInto 2 (some .boolean) 1 := ⟨gw_mem (i := 668) (by decide +kernel) (by decide +kernel), gw_mem (i := 120) (by decide +kernel) (by decide +kernel), by decide +kernel, by decide +kernel, by decide +kernel, by decide, by decide +kernel⟩
theorem knX0_popInto : kN yX0_popInto 0 := ⟨gw_mem (i := 667) (by decide +kernel) (by decide +kernel), gw_mem (i := 50) (by decide +kernel) (by decide +kernel), TX0, 2, rfl⟩
theorem kyX4_stands : kY yX4_stands cX4_stands 3 (some .int) 2 := ⟨gw_mem (i := 672) (by decide +kernel) (by decide +kernel), gw_mem (i := 117) (by decide +kernel) (by decide +kernel), by decide +kernel, by decide +kernel, by decide +kernel, by decide, by decide +kernel⟩
theorem knX4_stands : kN yX4_stands 4 := ⟨gw_mem (i := 670) (by decide +kernel) (by decide +kernel), gw_mem (i := 671) (by decide +kernel) (by decide +kernel), TX4, 9, rfl⟩
theorem kyX4_rowOf : kY yX4_rowOf cX4_rowOf 3 (some .int) 1 := ⟨gw_mem (i := 676) (by decide +kernel) (by decide +kernel), gw_mem (i := 117) (by decide +kernel) (by decide +kernel), by decide +kernel, by decide +kernel, by decide +kernel, by decide, by decide +kernel⟩
theorem knX4_rowOf : kN yX4_rowOf 4 := ⟨gw_mem (i := 675) (by decide +kernel) (by decide +kernel), gw_mem (i := 51) (by decide +kernel) (by decide +kernel), TX4, 9, rfl⟩
theorem kyX1_itemOf : kY yX1_itemOf cX1_itemOf 3 (some .int) 1 := ⟨gw_mem (i := 681) (by decide +kernel) (by decide +kernel), gw_mem (i := 122) (by decide +kernel) (by decide +kernel), by decide +kernel, by decide +kernel, by decide +kernel, by decide, by decide +kernel⟩
theorem knX1_itemOf : kN yX1_itemOf 1 := ⟨gw_mem (i := 680) (by decide +kernel) (by decide +kernel), gw_mem (i := 52) (by decide +kernel) (by decide +kernel), TX1, 10, rfl⟩
theorem kyX4_columnOf : kY yX4_columnOf cX4_columnOf 3 (some .int) 1 := ⟨gw_mem (i := 685) (by decide +kernel) (by decide +kernel), gw_mem (i := 117) (by decide +kernel) (by decide +kernel), by decide +kernel, by decide +kernel, by decide +kernel, by decide, by decide +kernel⟩
theorem knX4_columnOf : kN yX4_columnOf 4 := ⟨gw_mem (i := 684) (by decide +kernel) (by decide +kernel), gw_mem (i := 53) (by decide +kernel) (by decide +kernel), TX4, 9, rfl⟩
theorem kyX4_place : kY yX4_place cX4_place 3 (some .int) 2 := ⟨gw_mem (i := 689) (by decide +kernel) (by decide +kernel), gw_mem (i := 117) (by decide +kernel) (by decide +kernel), by decide +kernel, by decide +kernel, by decide +kernel, by decide, by decide +kernel⟩
theorem knX4_place : kN yX4_place 4 := ⟨gw_mem (i := 687) (by decide +kernel) (by decide +kernel), gw_mem (i := 688) (by decide +kernel) (by decide +kernel), TX4, 9, rfl⟩
theorem kyX1_hasRow : kY yX1_hasRow cX1_hasRow 2 (some .boolean) 1 := ⟨gw_mem (i := 693) (by decide +kernel) (by decide +kernel), gw_mem (i := 122) (by decide +kernel) (by decide +kernel), by decide +kernel, by decide +kernel, by decide +kernel, by decide, by decide +kernel⟩
theorem knX1_hasRow : kN yX1_hasRow 1 := ⟨gw_mem (i := 692) (by decide +kernel) (by decide +kernel), gw_mem (i := 54) (by decide +kernel) (by decide +kernel), TX1, 10, rfl⟩
theorem kyX4_isColumn : kY yX4_isColumn cX4_isColumn 1 (some .boolean) 1 := ⟨gw_mem (i := 696) (by decide +kernel) (by decide +kernel), gw_mem (i := 117) (by decide +kernel) (by decide +kernel), by decide +kernel, by decide +kernel, by decide +kernel, by decide, by decide +kernel⟩
theorem ksX4_isColumn : Cond.static yX4_isColumn ∈ Gw := gw_mem (i := 695) (by decide +kernel) (by decide +kernel)
theorem kyX1_placeAt : kY yX1_placeAt cX1_placeAt 6 (some .int) 3 := ⟨gw_mem (i := 700) (by decide +kernel) (by decide +kernel), gw_mem (i := 122) (by decide +kernel) (by decide +kernel), by decide +kernel, by decide +kernel, by decide +kernel, by decide, by decide +kernel⟩
theorem knX1_placeAt : kN yX1_placeAt 1 := ⟨gw_mem (i := 699) (by decide +kernel) (by decide +kernel), gw_mem (i := 55) (by decide +kernel) (by decide +kernel), TX1, 10, rfl⟩
theorem kyX4_screen : kY yX4_screen cX4_screen 3 (some .int) 2 := ⟨gw_mem (i := 704) (by decide +kernel) (by decide +kernel), gw_mem (i := 117) (by decide +kernel) (by decide +kernel), by decide +kernel, by decide +kernel, by decide +kernel, by decide, by decide +kernel⟩
theorem knX4_screen : kN yX4_screen 4 := ⟨gw_mem (i := 702) (by decide +kernel) (by decide +kernel), gw_mem (i := 703) (by decide +kernel) (by decide +kernel), TX4, 9, rfl⟩
theorem kyX1_codeAt : kY yX1_codeAt cX1_codeAt 4 (some .int) 2 := ⟨gw_mem (i := 708) (by decide +kernel) (by decide +kernel), gw_mem (i := 122) (by decide +kernel) (by decide +kernel), by decide +kernel, by decide +kernel, by decide +kernel, by decide, by decide +kernel⟩
theorem knX1_codeAt : kN yX1_codeAt 1 := ⟨gw_mem (i := 707) (by decide +kernel) (by decide +kernel), gw_mem (i := 56) (by decide +kernel) (by decide +kernel), TX1, 10, rfl⟩
theorem kyX4_go : kY yX4_go cX4_go 3 (some .int) 2 := ⟨gw_mem (i := 712) (by decide +kernel) (by decide +kernel), gw_mem (i := 117) (by decide +kernel) (by decide +kernel), by decide +kernel, by decide +kernel, by decide +kernel, by decide, by decide +kernel⟩
theorem knX4_go : kN yX4_go 4 := ⟨gw_mem (i := 710) (by decide +kernel) (by decide +kernel), gw_mem (i := 711) (by decide +kernel) (by decide +kernel), TX4, 9, rfl⟩
theorem kyX2_nextShown : kY yX2_nextShown cX2_nextShown 3 (some .int) 1 := ⟨gw_mem (i := 716) (by decide +kernel) (by decide +kernel), gw_mem (i := 119) (by decide +kernel) (by decide +kernel), by decide +kernel, by decide +kernel, by decide +kernel, by decide, by decide +kernel⟩
theorem knX2_nextShown : kN yX2_nextShown 2 := ⟨gw_mem (i := 715) (by decide +kernel) (by decide +kernel), gw_mem (i := 57) (by decide +kernel) (by decide +kernel), TX2, 13, rfl⟩
theorem kyX2_previousShown : kY yX2_previousShown cX2_previousShown 3 (some .int) 1 := ⟨gw_mem (i := 721) (by decide +kernel) (by decide +kernel), gw_mem (i := 119) (by decide +kernel) (by decide +kernel), by decide +kernel, by decide +kernel, by decide +kernel, by decide, by decide +kernel⟩
theorem knX2_previousShown : kN yX2_previousShown 2 := ⟨gw_mem (i := 720) (by decide +kernel) (by decide +kernel), gw_mem (i := 58) (by decide +kernel) (by decide +kernel), TX2, 13, rfl⟩
theorem kyX4_acrossTo : kY yX4_acrossTo cX4_acrossTo 3 (some .int) 2 := ⟨gw_mem (i := 725) (by decide +kernel) (by decide +kernel), gw_mem (i := 117) (by decide +kernel) (by decide +kernel), by decide +kernel, by decide +kernel, by decide +kernel, by decide, by decide +kernel⟩
theorem knX4_acrossTo : kN yX4_acrossTo 4 := ⟨gw_mem (i := 724) (by decide +kernel) (by decide +kernel), gw_mem (i := 59) (by decide +kernel) (by decide +kernel), TX4, 9, rfl⟩
theorem kyX4_row : kY yX4_row cX4_row 3 (some .int) 2 := ⟨gw_mem (i := 729) (by decide +kernel) (by decide +kernel), gw_mem (i := 117) (by decide +kernel) (by decide +kernel), by decide +kernel, by decide +kernel, by decide +kernel, by decide, by decide +kernel⟩
theorem knX4_row : kN yX4_row 4 := ⟨gw_mem (i := 727) (by decide +kernel) (by decide +kernel), gw_mem (i := 728) (by decide +kernel) (by decide +kernel), TX4, 9, rfl⟩
theorem kyX4_changed : kY yX4_changed cX4_changed 2 (some .int) 1 := ⟨gw_mem (i := 733) (by decide +kernel) (by decide +kernel), gw_mem (i := 117) (by decide +kernel) (by decide +kernel), by decide +kernel, by decide +kernel, by decide +kernel, by decide, by decide +kernel⟩
theorem knX4_changed : kN yX4_changed 4 := ⟨gw_mem (i := 731) (by decide +kernel) (by decide +kernel), gw_mem (i := 732) (by decide +kernel) (by decide +kernel), TX4, 9, rfl⟩
theorem kyX4_firstChanged : kY yX4_firstChanged cX4_firstChanged 3 (some .int) 0 := ⟨gw_mem (i := 737) (by decide +kernel) (by decide +kernel), gw_mem (i := 117) (by decide +kernel) (by decide +kernel), by decide +kernel, by decide +kernel, by decide +kernel, by decide, by decide +kernel⟩
theorem knX4_firstChanged : kN yX4_firstChanged 4 := ⟨gw_mem (i := 736) (by decide +kernel) (by decide +kernel), gw_mem (i := 60) (by decide +kernel) (by decide +kernel), TX4, 9, rfl⟩
theorem kyX4_rowsToCompare : kY yX4_rowsToCompare cX4_rowsToCompare 1 (some .int) 0 := ⟨gw_mem (i := 741) (by decide +kernel) (by decide +kernel), gw_mem (i := 117) (by decide +kernel) (by decide +kernel), by decide +kernel, by decide +kernel, by decide +kernel, by decide, by decide +kernel⟩
theorem knX4_rowsToCompare : kN yX4_rowsToCompare 4 := ⟨gw_mem (i := 740) (by decide +kernel) (by decide +kernel), gw_mem (i := 61) (by decide +kernel) (by decide +kernel), TX4, 9, rfl⟩
theorem kyX1_isRowAsIn : kY yX1_isRowAsIn cX1_isRowAsIn 6 (some .boolean) 2 := ⟨gw_mem (i := 746) (by decide +kernel) (by decide +kernel), gw_mem (i := 122) (by decide +kernel) (by decide +kernel), by decide +kernel, by decide +kernel, by decide +kernel, by decide, by decide +kernel⟩
theorem knX1_isRowAsIn : kN yX1_isRowAsIn 1 := ⟨gw_mem (i := 745) (by decide +kernel) (by decide +kernel), gw_mem (i := 62) (by decide +kernel) (by decide +kernel), TX1, 10, rfl⟩
theorem kyX1_seek : kY yX1_seek cX1_seek 4 (some .int) 2 := ⟨gw_mem (i := 751) (by decide +kernel) (by decide +kernel), gw_mem (i := 122) (by decide +kernel) (by decide +kernel), by decide +kernel, by decide +kernel, by decide +kernel, by decide, by decide +kernel⟩
theorem knX1_seek : kN yX1_seek 1 := ⟨gw_mem (i := 750) (by decide +kernel) (by decide +kernel), gw_mem (i := 63) (by decide +kernel) (by decide +kernel), TX1, 10, rfl⟩
theorem kyX1_isItemAsIn : kY yX1_isItemAsIn cX1_isItemAsIn 4 (some .boolean) 3 := ⟨gw_mem (i := 755) (by decide +kernel) (by decide +kernel), gw_mem (i := 122) (by decide +kernel) (by decide +kernel), by decide +kernel, by decide +kernel, by decide +kernel, by decide, by decide +kernel⟩
theorem knX1_isItemAsIn : kN yX1_isItemAsIn 1 := ⟨gw_mem (i := 754) (by decide +kernel) (by decide +kernel), gw_mem (i := 64) (by decide +kernel) (by decide +kernel), TX1, 10, rfl⟩
theorem kyX4_countChanged : kY yX4_countChanged cX4_countChanged 4 (some .int) 0 := ⟨gw_mem (i := 759) (by decide +kernel) (by decide +kernel), gw_mem (i := 117) (by decide +kernel) (by decide +kernel), by decide +kernel, by decide +kernel, by decide +kernel, by decide, by decide +kernel⟩
theorem knX4_countChanged : kN yX4_countChanged 4 := ⟨gw_mem (i := 758) (by decide +kernel) (by decide +kernel), gw_mem (i := 65) (by decide +kernel) (by decide +kernel), TX4, 9, rfl⟩
theorem kyX4_fit : kY yX4_fit cX4_fit 3 (some .int) 1 := ⟨gw_mem (i := 763) (by decide +kernel) (by decide +kernel), gw_mem (i := 117) (by decide +kernel) (by decide +kernel), by decide +kernel, by decide +kernel, by decide +kernel, by decide, by decide +kernel⟩
theorem knX4_fit : kN yX4_fit 4 := ⟨gw_mem (i := 761) (by decide +kernel) (by decide +kernel), gw_mem (i := 762) (by decide +kernel) (by decide +kernel), TX4, 9, rfl⟩
theorem kyX4_saves : kY yX4_saves cX4_saves 6 (some .int) 1 := ⟨gw_mem (i := 767) (by decide +kernel) (by decide +kernel), gw_mem (i := 117) (by decide +kernel) (by decide +kernel), by decide +kernel, by decide +kernel, by decide +kernel, by decide, by decide +kernel⟩
theorem knX4_saves : kN yX4_saves 4 := ⟨gw_mem (i := 765) (by decide +kernel) (by decide +kernel), gw_mem (i := 766) (by decide +kernel) (by decide +kernel), TX4, 9, rfl⟩
theorem kyX4_tight : kY yX4_tight cX4_tight 4 (some .int) 1 := ⟨gw_mem (i := 771) (by decide +kernel) (by decide +kernel), gw_mem (i := 117) (by decide +kernel) (by decide +kernel), by decide +kernel, by decide +kernel, by decide +kernel, by decide, by decide +kernel⟩
theorem knX4_tight : kN yX4_tight 4 := ⟨gw_mem (i := 769) (by decide +kernel) (by decide +kernel), gw_mem (i := 770) (by decide +kernel) (by decide +kernel), TX4, 9, rfl⟩
theorem kyX4_isTight : kY yX4_isTight cX4_isTight 2 (some .boolean) 1 := ⟨gw_mem (i := 775) (by decide +kernel) (by decide +kernel), gw_mem (i := 117) (by decide +kernel) (by decide +kernel), by decide +kernel, by decide +kernel, by decide +kernel, by decide, by decide +kernel⟩
theorem knX4_isTight : kN yX4_isTight 4 := ⟨gw_mem (i := 774) (by decide +kernel) (by decide +kernel), gw_mem (i := 66) (by decide +kernel) (by decide +kernel), TX4, 9, rfl⟩
theorem kyX4_day : kY yX4_day cX4_day 5 (some .int) 3 := ⟨gw_mem (i := 779) (by decide +kernel) (by decide +kernel), gw_mem (i := 117) (by decide +kernel) (by decide +kernel), by decide +kernel, by decide +kernel, by decide +kernel, by decide, by decide +kernel⟩
theorem knX4_day : kN yX4_day 4 := ⟨gw_mem (i := 777) (by decide +kernel) (by decide +kernel), gw_mem (i := 778) (by decide +kernel) (by decide +kernel), TX4, 9, rfl⟩
theorem kyX4_draw : kY yX4_draw cX4_draw 4 (some .int) 2 := ⟨gw_mem (i := 782) (by decide +kernel) (by decide +kernel), gw_mem (i := 117) (by decide +kernel) (by decide +kernel), by decide +kernel, by decide +kernel, by decide +kernel, by decide, by decide +kernel⟩
theorem ksX4_draw : Cond.static yX4_draw ∈ Gw := gw_mem (i := 781) (by decide +kernel) (by decide +kernel)
theorem kyX2_live : kY yX2_live cX2_live 3 none 1 := ⟨gw_mem (i := 789) (by decide +kernel) (by decide +kernel), gw_mem (i := 119) (by decide +kernel) (by decide +kernel), by decide +kernel, by decide +kernel, by decide +kernel, by decide, by decide +kernel⟩
theorem knX2_live : kN yX2_live 2 := ⟨gw_mem (i := 788) (by decide +kernel) (by decide +kernel), gw_mem (i := 67) (by decide +kernel) (by decide +kernel), TX2, 13, rfl⟩
theorem kyX2_reduced : kY yX2_reduced cX2_reduced 2 (some .int) 2 := ⟨gw_mem (i := 792) (by decide +kernel) (by decide +kernel), gw_mem (i := 119) (by decide +kernel) (by decide +kernel), by decide +kernel, by decide +kernel, by decide +kernel, by decide, by decide +kernel⟩
theorem ksX2_reduced : Cond.static yX2_reduced ∈ Gw := gw_mem (i := 791) (by decide +kernel) (by decide +kernel)
theorem kyX1_longestRow : kY yX1_longestRow cX1_longestRow 3 (some .int) 0 := ⟨gw_mem (i := 799) (by decide +kernel) (by decide +kernel), gw_mem (i := 122) (by decide +kernel) (by decide +kernel), by decide +kernel, by decide +kernel, by decide +kernel, by decide, by decide +kernel⟩
theorem knX1_longestRow : kN yX1_longestRow 1 := ⟨gw_mem (i := 798) (by decide +kernel) (by decide +kernel), gw_mem (i := 68) (by decide +kernel) (by decide +kernel), TX1, 10, rfl⟩
theorem kyX4_keep : kY yX4_keep cX4_keep 1 (some .int) 0 := ⟨gw_mem (i := 804) (by decide +kernel) (by decide +kernel), gw_mem (i := 117) (by decide +kernel) (by decide +kernel), by decide +kernel, by decide +kernel, by decide +kernel, by decide, by decide +kernel⟩
theorem knX4_keep : kN yX4_keep 4 := ⟨gw_mem (i := 802) (by decide +kernel) (by decide +kernel), gw_mem (i := 803) (by decide +kernel) (by decide +kernel), TX4, 9, rfl⟩
theorem kyX4_back : kY yX4_back cX4_back 1 (some .int) 0 := ⟨gw_mem (i := 809) (by decide +kernel) (by decide +kernel), gw_mem (i := 117) (by decide +kernel) (by decide +kernel), by decide +kernel, by decide +kernel, by decide +kernel, by decide, by decide +kernel⟩
theorem knX4_back : kN yX4_back 4 := ⟨gw_mem (i := 807) (by decide +kernel) (by decide +kernel), gw_mem (i := 808) (by decide +kernel) (by decide +kernel), TX4, 9, rfl⟩
theorem kyX4_count : kY yX4_count cX4_count 2 (some .int) 1 := ⟨gw_mem (i := 813) (by decide +kernel) (by decide +kernel), gw_mem (i := 117) (by decide +kernel) (by decide +kernel), by decide +kernel, by decide +kernel, by decide +kernel, by decide, by decide +kernel⟩
theorem knX4_count : kN yX4_count 4 := ⟨gw_mem (i := 811) (by decide +kernel) (by decide +kernel), gw_mem (i := 812) (by decide +kernel) (by decide +kernel), TX4, 9, rfl⟩
theorem kyX5_init : kY yX5_init cX5_init 2 none 0 := ⟨gw_mem (i := 818) (by decide +kernel) (by decide +kernel), gw_mem (i := 127) (by decide +kernel) (by decide +kernel), by decide +kernel, by decide +kernel, by decide +kernel, by decide, by decide +kernel⟩
theorem kiX5_init : Cond.instanceMethod yX5_init ∈ Gw := gw_mem (i := 817) (by decide +kernel) (by decide +kernel)
theorem kyX5_comesFold : kY yX5_comesFold cX5_comesFold 5 (some .int) 3 := ⟨gw_mem (i := 823) (by decide +kernel) (by decide +kernel), gw_mem (i := 127) (by decide +kernel) (by decide +kernel), by decide +kernel, by decide +kernel, by decide +kernel, by decide, by decide +kernel⟩
theorem knX5_comesFold : kN yX5_comesFold 5 := ⟨gw_mem (i := 822) (by decide +kernel) (by decide +kernel), gw_mem (i := 69) (by decide +kernel) (by decide +kernel), TX5, 41, rfl⟩
theorem kyX5_comesHint : kY yX5_comesHint cX5_comesHint 4 (some .int) 2 := ⟨gw_mem (i := 827) (by decide +kernel) (by decide +kernel), gw_mem (i := 127) (by decide +kernel) (by decide +kernel), by decide +kernel, by decide +kernel, by decide +kernel, by decide, by decide +kernel⟩
theorem knX5_comesHint : kN yX5_comesHint 5 := ⟨gw_mem (i := 826) (by decide +kernel) (by decide +kernel), gw_mem (i := 70) (by decide +kernel) (by decide +kernel), TX5, 41, rfl⟩
theorem kyX5_sign : kY yX5_sign cX5_sign 2 (some .int) 1 := ⟨gw_mem (i := 955) (by decide +kernel) (by decide +kernel), gw_mem (i := 127) (by decide +kernel) (by decide +kernel), by decide +kernel, by decide +kernel, by decide +kernel, by decide, by decide +kernel⟩
theorem knX5_sign : kN yX5_sign 5 := ⟨gw_mem (i := 953) (by decide +kernel) (by decide +kernel), gw_mem (i := 954) (by decide +kernel) (by decide +kernel), TX5, 41, rfl⟩
theorem kyX5_isPlace : kY yX5_isPlace cX5_isPlace 2 (some .boolean) 1 := ⟨gw_mem (i := 959) (by decide +kernel) (by decide +kernel), gw_mem (i := 127) (by decide +kernel) (by decide +kernel), by decide +kernel, by decide +kernel, by decide +kernel, by decide, by decide +kernel⟩
theorem knX5_isPlace : kN yX5_isPlace 5 := ⟨gw_mem (i := 958) (by decide +kernel) (by decide +kernel), gw_mem (i := 71) (by decide +kernel) (by decide +kernel), TX5, 41, rfl⟩
theorem kyX5_in : kY yX5_in cX5_in 3 (some .boolean) 3 := ⟨gw_mem (i := 962) (by decide +kernel) (by decide +kernel), gw_mem (i := 127) (by decide +kernel) (by decide +kernel), by decide +kernel, by decide +kernel, by decide +kernel, by decide, by decide +kernel⟩
theorem ksX5_in : Cond.static yX5_in ∈ Gw := gw_mem (i := 961) (by decide +kernel) (by decide +kernel)
theorem kyX5_fold : kY yX5_fold cX5_fold 3 (some .int) 2 := ⟨gw_mem (i := 966) (by decide +kernel) (by decide +kernel), gw_mem (i := 127) (by decide +kernel) (by decide +kernel), by decide +kernel, by decide +kernel, by decide +kernel, by decide, by decide +kernel⟩
theorem knX5_fold : kN yX5_fold 5 := ⟨gw_mem (i := 964) (by decide +kernel) (by decide +kernel), gw_mem (i := 965) (by decide +kernel) (by decide +kernel), TX5, 41, rfl⟩
theorem kyX5_isFold : kY yX5_isFold cX5_isFold 2 (some .boolean) 1 := ⟨gw_mem (i := 970) (by decide +kernel) (by decide +kernel), gw_mem (i := 127) (by decide +kernel) (by decide +kernel), by decide +kernel, by decide +kernel, by decide +kernel, by decide, by decide +kernel⟩
theorem knX5_isFold : kN yX5_isFold 5 := ⟨gw_mem (i := 969) (by decide +kernel) (by decide +kernel), gw_mem (i := 72) (by decide +kernel) (by decide +kernel), TX5, 41, rfl⟩
theorem kyX5_hint : kY yX5_hint cX5_hint 3 (some .int) 2 := ⟨gw_mem (i := 974) (by decide +kernel) (by decide +kernel), gw_mem (i := 127) (by decide +kernel) (by decide +kernel), by decide +kernel, by decide +kernel, by decide +kernel, by decide, by decide +kernel⟩
theorem knX5_hint : kN yX5_hint 5 := ⟨gw_mem (i := 972) (by decide +kernel) (by decide +kernel), gw_mem (i := 973) (by decide +kernel) (by decide +kernel), TX5, 41, rfl⟩
theorem kyX5_isHint : kY yX5_isHint cX5_isHint 2 (some .boolean) 1 := ⟨gw_mem (i := 978) (by decide +kernel) (by decide +kernel), gw_mem (i := 127) (by decide +kernel) (by decide +kernel), by decide +kernel, by decide +kernel, by decide +kernel, by decide, by decide +kernel⟩
theorem knX5_isHint : kN yX5_isHint 5 := ⟨gw_mem (i := 977) (by decide +kernel) (by decide +kernel), gw_mem (i := 73) (by decide +kernel) (by decide +kernel), TX5, 41, rfl⟩
theorem kyX5_isShown : kY yX5_isShown cX5_isShown 3 (some .boolean) 1 := ⟨gw_mem (i := 982) (by decide +kernel) (by decide +kernel), gw_mem (i := 127) (by decide +kernel) (by decide +kernel), by decide +kernel, by decide +kernel, by decide +kernel, by decide, by decide +kernel⟩
theorem knX5_isShown : kN yX5_isShown 5 := ⟨gw_mem (i := 981) (by decide +kernel) (by decide +kernel), gw_mem (i := 74) (by decide +kernel) (by decide +kernel), TX5, 41, rfl⟩
theorem kyX5_shutOf : kY yX5_shutOf cX5_shutOf 4 (some .int) 1 := ⟨gw_mem (i := 986) (by decide +kernel) (by decide +kernel), gw_mem (i := 127) (by decide +kernel) (by decide +kernel), by decide +kernel, by decide +kernel, by decide +kernel, by decide, by decide +kernel⟩
theorem knX5_shutOf : kN yX5_shutOf 5 := ⟨gw_mem (i := 985) (by decide +kernel) (by decide +kernel), gw_mem (i := 75) (by decide +kernel) (by decide +kernel), TX5, 41, rfl⟩
theorem kyX5_insert : kY yX5_insert cX5_insert 3 (some .int) 2 := ⟨gw_mem (i := 990) (by decide +kernel) (by decide +kernel), gw_mem (i := 127) (by decide +kernel) (by decide +kernel), by decide +kernel, by decide +kernel, by decide +kernel, by decide, by decide +kernel⟩
theorem knX5_insert : kN yX5_insert 5 := ⟨gw_mem (i := 988) (by decide +kernel) (by decide +kernel), gw_mem (i := 989) (by decide +kernel) (by decide +kernel), TX5, 41, rfl⟩
theorem kyX5_notes : kY yX5_notes cX5_notes 2 none 0 := ⟨gw_mem (i := 994) (by decide +kernel) (by decide +kernel), gw_mem (i := 127) (by decide +kernel) (by decide +kernel), by decide +kernel, by decide +kernel, by decide +kernel, by decide, by decide +kernel⟩
theorem knX5_notes : kN yX5_notes 5 := ⟨gw_mem (i := 993) (by decide +kernel) (by decide +kernel), gw_mem (i := 76) (by decide +kernel) (by decide +kernel), TX5, 41, rfl⟩
theorem kyX5_remembers : kY yX5_remembers cX5_remembers 2 none 0 := ⟨gw_mem (i := 998) (by decide +kernel) (by decide +kernel), gw_mem (i := 127) (by decide +kernel) (by decide +kernel), by decide +kernel, by decide +kernel, by decide +kernel, by decide, by decide +kernel⟩
theorem knX5_remembers : kN yX5_remembers 5 := ⟨gw_mem (i := 997) (by decide +kernel) (by decide +kernel), gw_mem (i := 77) (by decide +kernel) (by decide +kernel), TX5, 41, rfl⟩
theorem kyX5_setScreen : kY yX5_setScreen cX5_setScreen 5 none 0 := ⟨gw_mem (i := 1002) (by decide +kernel) (by decide +kernel), gw_mem (i := 127) (by decide +kernel) (by decide +kernel), by decide +kernel, by decide +kernel, by decide +kernel, by decide, by decide +kernel⟩
theorem knX5_setScreen : kN yX5_setScreen 5 := ⟨gw_mem (i := 1001) (by decide +kernel) (by decide +kernel), gw_mem (i := 78) (by decide +kernel) (by decide +kernel), TX5, 41, rfl⟩
theorem kyX5_setPieces : kY yX5_setPieces cX5_setPieces 4 none 0 := ⟨gw_mem (i := 1006) (by decide +kernel) (by decide +kernel), gw_mem (i := 127) (by decide +kernel) (by decide +kernel), by decide +kernel, by decide +kernel, by decide +kernel, by decide, by decide +kernel⟩
theorem knX5_setPieces : kN yX5_setPieces 5 := ⟨gw_mem (i := 1005) (by decide +kernel) (by decide +kernel), gw_mem (i := 79) (by decide +kernel) (by decide +kernel), TX5, 41, rfl⟩
theorem kyX5_hintOf : kY yX5_hintOf cX5_hintOf 4 (some .int) 1 := ⟨gw_mem (i := 1010) (by decide +kernel) (by decide +kernel), gw_mem (i := 127) (by decide +kernel) (by decide +kernel), by decide +kernel, by decide +kernel, by decide +kernel, by decide, by decide +kernel⟩
theorem knX5_hintOf : kN yX5_hintOf 5 := ⟨gw_mem (i := 1009) (by decide +kernel) (by decide +kernel), gw_mem (i := 80) (by decide +kernel) (by decide +kernel), TX5, 41, rfl⟩
theorem kyX5_comesPiece : kY yX5_comesPiece cX5_comesPiece 4 none 3 := ⟨gw_mem (i := 1014) (by decide +kernel) (by decide +kernel), gw_mem (i := 127) (by decide +kernel) (by decide +kernel), by decide +kernel, by decide +kernel, by decide +kernel, by decide, by decide +kernel⟩
theorem knX5_comesPiece : kN yX5_comesPiece 5 := ⟨gw_mem (i := 1013) (by decide +kernel) (by decide +kernel), gw_mem (i := 81) (by decide +kernel) (by decide +kernel), TX5, 41, rfl⟩
theorem kyX5_toStop : kY yX5_toStop cX5_toStop 2 (some .int) 1 := ⟨gw_mem (i := 1018) (by decide +kernel) (by decide +kernel), gw_mem (i := 127) (by decide +kernel) (by decide +kernel), by decide +kernel, by decide +kernel, by decide +kernel, by decide, by decide +kernel⟩
theorem knX5_toStop : kN yX5_toStop 5 := ⟨gw_mem (i := 1017) (by decide +kernel) (by decide +kernel), gw_mem (i := 82) (by decide +kernel) (by decide +kernel), TX5, 41, rfl⟩
theorem kyX5_goesOn : kY yX5_goesOn cX5_goesOn 5 (some .boolean) 2 := ⟨gw_mem (i := 1022) (by decide +kernel) (by decide +kernel), gw_mem (i := 127) (by decide +kernel) (by decide +kernel), by decide +kernel, by decide +kernel, by decide +kernel, by decide, by decide +kernel⟩
theorem knX5_goesOn : kN yX5_goesOn 5 := ⟨gw_mem (i := 1021) (by decide +kernel) (by decide +kernel), gw_mem (i := 83) (by decide +kernel) (by decide +kernel), TX5, 41, rfl⟩
theorem kyX5_isWord : kY yX5_isWord cX5_isWord 2 (some .boolean) 1 := ⟨gw_mem (i := 1026) (by decide +kernel) (by decide +kernel), gw_mem (i := 127) (by decide +kernel) (by decide +kernel), by decide +kernel, by decide +kernel, by decide +kernel, by decide, by decide +kernel⟩
theorem knX5_isWord : kN yX5_isWord 5 := ⟨gw_mem (i := 1025) (by decide +kernel) (by decide +kernel), gw_mem (i := 84) (by decide +kernel) (by decide +kernel), TX5, 41, rfl⟩
theorem kyX5_wordFrom : kY yX5_wordFrom cX5_wordFrom 4 (some .int) 1 := ⟨gw_mem (i := 1030) (by decide +kernel) (by decide +kernel), gw_mem (i := 127) (by decide +kernel) (by decide +kernel), by decide +kernel, by decide +kernel, by decide +kernel, by decide, by decide +kernel⟩
theorem knX5_wordFrom : kN yX5_wordFrom 5 := ⟨gw_mem (i := 1029) (by decide +kernel) (by decide +kernel), gw_mem (i := 85) (by decide +kernel) (by decide +kernel), TX5, 41, rfl⟩
theorem kyX5_lays : kY yX5_lays cX5_lays 4 none 2 := ⟨gw_mem (i := 1034) (by decide +kernel) (by decide +kernel), gw_mem (i := 127) (by decide +kernel) (by decide +kernel), by decide +kernel, by decide +kernel, by decide +kernel, by decide, by decide +kernel⟩
theorem knX5_lays : kN yX5_lays 5 := ⟨gw_mem (i := 1033) (by decide +kernel) (by decide +kernel), gw_mem (i := 86) (by decide +kernel) (by decide +kernel), TX5, 41, rfl⟩
theorem kyX5_putsIn : kY yX5_putsIn cX5_putsIn 4 none 2 := ⟨gw_mem (i := 1038) (by decide +kernel) (by decide +kernel), gw_mem (i := 127) (by decide +kernel) (by decide +kernel), by decide +kernel, by decide +kernel, by decide +kernel, by decide, by decide +kernel⟩
theorem knX5_putsIn : kN yX5_putsIn 5 := ⟨gw_mem (i := 1037) (by decide +kernel) (by decide +kernel), gw_mem (i := 87) (by decide +kernel) (by decide +kernel), TX5, 41, rfl⟩
theorem kyX5_erase : kY yX5_erase cX5_erase 3 (some .int) 1 := ⟨gw_mem (i := 1042) (by decide +kernel) (by decide +kernel), gw_mem (i := 127) (by decide +kernel) (by decide +kernel), by decide +kernel, by decide +kernel, by decide +kernel, by decide, by decide +kernel⟩
theorem knX5_erase : kN yX5_erase 5 := ⟨gw_mem (i := 1040) (by decide +kernel) (by decide +kernel), gw_mem (i := 1041) (by decide +kernel) (by decide +kernel), TX5, 41, rfl⟩
theorem kyX5_isSign : kY yX5_isSign cX5_isSign 2 (some .boolean) 1 := ⟨gw_mem (i := 1046) (by decide +kernel) (by decide +kernel), gw_mem (i := 127) (by decide +kernel) (by decide +kernel), by decide +kernel, by decide +kernel, by decide +kernel, by decide, by decide +kernel⟩
theorem knX5_isSign : kN yX5_isSign 5 := ⟨gw_mem (i := 1045) (by decide +kernel) (by decide +kernel), gw_mem (i := 88) (by decide +kernel) (by decide +kernel), TX5, 41, rfl⟩
theorem kyX5_takesOut : kY yX5_takesOut cX5_takesOut 3 none 1 := ⟨gw_mem (i := 1050) (by decide +kernel) (by decide +kernel), gw_mem (i := 127) (by decide +kernel) (by decide +kernel), by decide +kernel, by decide +kernel, by decide +kernel, by decide, by decide +kernel⟩
theorem knX5_takesOut : kN yX5_takesOut 5 := ⟨gw_mem (i := 1049) (by decide +kernel) (by decide +kernel), gw_mem (i := 89) (by decide +kernel) (by decide +kernel), TX5, 41, rfl⟩
theorem kyX5_goesFold : kY yX5_goesFold cX5_goesFold 3 none 1 := ⟨gw_mem (i := 1054) (by decide +kernel) (by decide +kernel), gw_mem (i := 127) (by decide +kernel) (by decide +kernel), by decide +kernel, by decide +kernel, by decide +kernel, by decide, by decide +kernel⟩
theorem knX5_goesFold : kN yX5_goesFold 5 := ⟨gw_mem (i := 1053) (by decide +kernel) (by decide +kernel), gw_mem (i := 90) (by decide +kernel) (by decide +kernel), TX5, 41, rfl⟩
theorem kyX5_goesHint : kY yX5_goesHint cX5_goesHint 3 none 1 := ⟨gw_mem (i := 1058) (by decide +kernel) (by decide +kernel), gw_mem (i := 127) (by decide +kernel) (by decide +kernel), by decide +kernel, by decide +kernel, by decide +kernel, by decide, by decide +kernel⟩
theorem knX5_goesHint : kN yX5_goesHint 5 := ⟨gw_mem (i := 1057) (by decide +kernel) (by decide +kernel), gw_mem (i := 91) (by decide +kernel) (by decide +kernel), TX5, 41, rfl⟩
theorem kyX5_toggle : kY yX5_toggle cX5_toggle 2 (some .int) 1 := ⟨gw_mem (i := 1062) (by decide +kernel) (by decide +kernel), gw_mem (i := 127) (by decide +kernel) (by decide +kernel), by decide +kernel, by decide +kernel, by decide +kernel, by decide, by decide +kernel⟩
theorem knX5_toggle : kN yX5_toggle 5 := ⟨gw_mem (i := 1060) (by decide +kernel) (by decide +kernel), gw_mem (i := 1061) (by decide +kernel) (by decide +kernel), TX5, 41, rfl⟩
theorem kyX5_make : kY yX5_make cX5_make 3 (some .int) 2 := ⟨gw_mem (i := 1066) (by decide +kernel) (by decide +kernel), gw_mem (i := 127) (by decide +kernel) (by decide +kernel), by decide +kernel, by decide +kernel, by decide +kernel, by decide, by decide +kernel⟩
theorem knX5_make : kN yX5_make 5 := ⟨gw_mem (i := 1064) (by decide +kernel) (by decide +kernel), gw_mem (i := 1065) (by decide +kernel) (by decide +kernel), TX5, 41, rfl⟩
theorem kyX5_isApart : kY yX5_isApart cX5_isApart 5 (some .boolean) 2 := ⟨gw_mem (i := 1070) (by decide +kernel) (by decide +kernel), gw_mem (i := 127) (by decide +kernel) (by decide +kernel), by decide +kernel, by decide +kernel, by decide +kernel, by decide, by decide +kernel⟩
theorem knX5_isApart : kN yX5_isApart 5 := ⟨gw_mem (i := 1069) (by decide +kernel) (by decide +kernel), gw_mem (i := 92) (by decide +kernel) (by decide +kernel), TX5, 41, rfl⟩
theorem kyX5_unfold : kY yX5_unfold cX5_unfold 2 (some .int) 1 := ⟨gw_mem (i := 1074) (by decide +kernel) (by decide +kernel), gw_mem (i := 127) (by decide +kernel) (by decide +kernel), by decide +kernel, by decide +kernel, by decide +kernel, by decide, by decide +kernel⟩
theorem knX5_unfold : kN yX5_unfold 5 := ⟨gw_mem (i := 1072) (by decide +kernel) (by decide +kernel), gw_mem (i := 1073) (by decide +kernel) (by decide +kernel), TX5, 41, rfl⟩
theorem kyX5_set : kY yX5_set cX5_set 3 (some .int) 2 := ⟨gw_mem (i := 1078) (by decide +kernel) (by decide +kernel), gw_mem (i := 127) (by decide +kernel) (by decide +kernel), by decide +kernel, by decide +kernel, by decide +kernel, by decide, by decide +kernel⟩
theorem knX5_set : kN yX5_set 5 := ⟨gw_mem (i := 1076) (by decide +kernel) (by decide +kernel), gw_mem (i := 1077) (by decide +kernel) (by decide +kernel), TX5, 41, rfl⟩
theorem kyX5_unset : kY yX5_unset cX5_unset 3 (some .int) 1 := ⟨gw_mem (i := 1082) (by decide +kernel) (by decide +kernel), gw_mem (i := 127) (by decide +kernel) (by decide +kernel), by decide +kernel, by decide +kernel, by decide +kernel, by decide, by decide +kernel⟩
theorem knX5_unset : kN yX5_unset 5 := ⟨gw_mem (i := 1080) (by decide +kernel) (by decide +kernel), gw_mem (i := 1081) (by decide +kernel) (by decide +kernel), TX5, 41, rfl⟩
theorem kyX5_wide : kY yX5_wide cX5_wide 4 (some .int) 3 := ⟨gw_mem (i := 1086) (by decide +kernel) (by decide +kernel), gw_mem (i := 127) (by decide +kernel) (by decide +kernel), by decide +kernel, by decide +kernel, by decide +kernel, by decide, by decide +kernel⟩
theorem knX5_wide : kN yX5_wide 5 := ⟨gw_mem (i := 1084) (by decide +kernel) (by decide +kernel), gw_mem (i := 1085) (by decide +kernel) (by decide +kernel), TX5, 41, rfl⟩
theorem kyX5_isWide : kY yX5_isWide cX5_isWide 3 (some .boolean) 3 := ⟨gw_mem (i := 1089) (by decide +kernel) (by decide +kernel), gw_mem (i := 127) (by decide +kernel) (by decide +kernel), by decide +kernel, by decide +kernel, by decide +kernel, by decide, by decide +kernel⟩
theorem ksX5_isWide : Cond.static yX5_isWide ∈ Gw := gw_mem (i := 1088) (by decide +kernel) (by decide +kernel)
theorem kyX5_tabs : kY yX5_tabs cX5_tabs 3 (some .int) 1 := ⟨gw_mem (i := 1093) (by decide +kernel) (by decide +kernel), gw_mem (i := 127) (by decide +kernel) (by decide +kernel), by decide +kernel, by decide +kernel, by decide +kernel, by decide, by decide +kernel⟩
theorem knX5_tabs : kN yX5_tabs 5 := ⟨gw_mem (i := 1091) (by decide +kernel) (by decide +kernel), gw_mem (i := 1092) (by decide +kernel) (by decide +kernel), TX5, 41, rfl⟩
theorem kyX5_undo : kY yX5_undo cX5_undo 1 (some .int) 0 := ⟨gw_mem (i := 1097) (by decide +kernel) (by decide +kernel), gw_mem (i := 127) (by decide +kernel) (by decide +kernel), by decide +kernel, by decide +kernel, by decide +kernel, by decide, by decide +kernel⟩
theorem knX5_undo : kN yX5_undo 5 := ⟨gw_mem (i := 1095) (by decide +kernel) (by decide +kernel), gw_mem (i := 1096) (by decide +kernel) (by decide +kernel), TX5, 41, rfl⟩
theorem kyX5_takes : kY yX5_takes cX5_takes 4 none 2 := ⟨gw_mem (i := 1101) (by decide +kernel) (by decide +kernel), gw_mem (i := 127) (by decide +kernel) (by decide +kernel), by decide +kernel, by decide +kernel, by decide +kernel, by decide, by decide +kernel⟩
theorem knX5_takes : kN yX5_takes 5 := ⟨gw_mem (i := 1100) (by decide +kernel) (by decide +kernel), gw_mem (i := 93) (by decide +kernel) (by decide +kernel), TX5, 41, rfl⟩
theorem kyX5_keep : kY yX5_keep cX5_keep 1 (some .int) 0 := ⟨gw_mem (i := 1105) (by decide +kernel) (by decide +kernel), gw_mem (i := 127) (by decide +kernel) (by decide +kernel), by decide +kernel, by decide +kernel, by decide +kernel, by decide, by decide +kernel⟩
theorem knX5_keep : kN yX5_keep 5 := ⟨gw_mem (i := 1103) (by decide +kernel) (by decide +kernel), gw_mem (i := 1104) (by decide +kernel) (by decide +kernel), TX5, 41, rfl⟩
theorem kyX5_back : kY yX5_back cX5_back 1 (some .int) 0 := ⟨gw_mem (i := 1109) (by decide +kernel) (by decide +kernel), gw_mem (i := 127) (by decide +kernel) (by decide +kernel), by decide +kernel, by decide +kernel, by decide +kernel, by decide, by decide +kernel⟩
theorem knX5_back : kN yX5_back 5 := ⟨gw_mem (i := 1107) (by decide +kernel) (by decide +kernel), gw_mem (i := 1108) (by decide +kernel) (by decide +kernel), TX5, 41, rfl⟩
theorem kyX5_stands : kY yX5_stands cX5_stands 4 (some .int) 2 := ⟨gw_mem (i := 1113) (by decide +kernel) (by decide +kernel), gw_mem (i := 127) (by decide +kernel) (by decide +kernel), by decide +kernel, by decide +kernel, by decide +kernel, by decide, by decide +kernel⟩
theorem knX5_stands : kN yX5_stands 5 := ⟨gw_mem (i := 1111) (by decide +kernel) (by decide +kernel), gw_mem (i := 1112) (by decide +kernel) (by decide +kernel), TX5, 41, rfl⟩
theorem kyX5_pieceOf : kY yX5_pieceOf cX5_pieceOf 6 (some .int) 1 := ⟨gw_mem (i := 1117) (by decide +kernel) (by decide +kernel), gw_mem (i := 127) (by decide +kernel) (by decide +kernel), by decide +kernel, by decide +kernel, by decide +kernel, by decide, by decide +kernel⟩
theorem knX5_pieceOf : kN yX5_pieceOf 5 := ⟨gw_mem (i := 1116) (by decide +kernel) (by decide +kernel), gw_mem (i := 94) (by decide +kernel) (by decide +kernel), TX5, 41, rfl⟩
theorem kyX5_place : kY yX5_place cX5_place 3 (some .int) 2 := ⟨gw_mem (i := 1121) (by decide +kernel) (by decide +kernel), gw_mem (i := 127) (by decide +kernel) (by decide +kernel), by decide +kernel, by decide +kernel, by decide +kernel, by decide, by decide +kernel⟩
theorem knX5_place : kN yX5_place 5 := ⟨gw_mem (i := 1119) (by decide +kernel) (by decide +kernel), gw_mem (i := 1120) (by decide +kernel) (by decide +kernel), TX5, 41, rfl⟩
theorem kyX5_isRow : kY yX5_isRow cX5_isRow 2 (some .boolean) 1 := ⟨gw_mem (i := 1125) (by decide +kernel) (by decide +kernel), gw_mem (i := 127) (by decide +kernel) (by decide +kernel), by decide +kernel, by decide +kernel, by decide +kernel, by decide, by decide +kernel⟩
theorem knX5_isRow : kN yX5_isRow 5 := ⟨gw_mem (i := 1124) (by decide +kernel) (by decide +kernel), gw_mem (i := 95) (by decide +kernel) (by decide +kernel), TX5, 41, rfl⟩
theorem kyX5_placeAt : kY yX5_placeAt cX5_placeAt 7 (some .int) 2 := ⟨gw_mem (i := 1129) (by decide +kernel) (by decide +kernel), gw_mem (i := 127) (by decide +kernel) (by decide +kernel), by decide +kernel, by decide +kernel, by decide +kernel, by decide, by decide +kernel⟩
theorem knX5_placeAt : kN yX5_placeAt 5 := ⟨gw_mem (i := 1128) (by decide +kernel) (by decide +kernel), gw_mem (i := 96) (by decide +kernel) (by decide +kernel), TX5, 41, rfl⟩
theorem kyX5_pieceAt : kY yX5_pieceAt cX5_pieceAt 6 (some .int) 2 := ⟨gw_mem (i := 1133) (by decide +kernel) (by decide +kernel), gw_mem (i := 127) (by decide +kernel) (by decide +kernel), by decide +kernel, by decide +kernel, by decide +kernel, by decide, by decide +kernel⟩
theorem knX5_pieceAt : kN yX5_pieceAt 5 := ⟨gw_mem (i := 1132) (by decide +kernel) (by decide +kernel), gw_mem (i := 97) (by decide +kernel) (by decide +kernel), TX5, 41, rfl⟩
theorem kyX5_screen : kY yX5_screen cX5_screen 4 (some .int) 2 := ⟨gw_mem (i := 1137) (by decide +kernel) (by decide +kernel), gw_mem (i := 127) (by decide +kernel) (by decide +kernel), by decide +kernel, by decide +kernel, by decide +kernel, by decide, by decide +kernel⟩
theorem knX5_screen : kN yX5_screen 5 := ⟨gw_mem (i := 1135) (by decide +kernel) (by decide +kernel), gw_mem (i := 1136) (by decide +kernel) (by decide +kernel), TX5, 41, rfl⟩
theorem kyX5_go : kY yX5_go cX5_go 7 (some .int) 2 := ⟨gw_mem (i := 1141) (by decide +kernel) (by decide +kernel), gw_mem (i := 127) (by decide +kernel) (by decide +kernel), by decide +kernel, by decide +kernel, by decide +kernel, by decide, by decide +kernel⟩
theorem knX5_go : kN yX5_go 5 := ⟨gw_mem (i := 1139) (by decide +kernel) (by decide +kernel), gw_mem (i := 1140) (by decide +kernel) (by decide +kernel), TX5, 41, rfl⟩
theorem kyX5_row : kY yX5_row cX5_row 3 (some .int) 2 := ⟨gw_mem (i := 1145) (by decide +kernel) (by decide +kernel), gw_mem (i := 127) (by decide +kernel) (by decide +kernel), by decide +kernel, by decide +kernel, by decide +kernel, by decide, by decide +kernel⟩
theorem knX5_row : kN yX5_row 5 := ⟨gw_mem (i := 1143) (by decide +kernel) (by decide +kernel), gw_mem (i := 1144) (by decide +kernel) (by decide +kernel), TX5, 41, rfl⟩
theorem kyX5_changed : kY yX5_changed cX5_changed 5 (some .int) 1 := ⟨gw_mem (i := 1149) (by decide +kernel) (by decide +kernel), gw_mem (i := 127) (by decide +kernel) (by decide +kernel), by decide +kernel, by decide +kernel, by decide +kernel, by decide, by decide +kernel⟩
theorem knX5_changed : kN yX5_changed 5 := ⟨gw_mem (i := 1147) (by decide +kernel) (by decide +kernel), gw_mem (i := 1148) (by decide +kernel) (by decide +kernel), TX5, 41, rfl⟩
theorem kyX5_isChanged : kY yX5_isChanged cX5_isChanged 4 (some .boolean) 1 := ⟨gw_mem (i := 1153) (by decide +kernel) (by decide +kernel), gw_mem (i := 127) (by decide +kernel) (by decide +kernel), by decide +kernel, by decide +kernel, by decide +kernel, by decide, by decide +kernel⟩
theorem knX5_isChanged : kN yX5_isChanged 5 := ⟨gw_mem (i := 1152) (by decide +kernel) (by decide +kernel), gw_mem (i := 98) (by decide +kernel) (by decide +kernel), TX5, 41, rfl⟩
theorem kyX5_nowMany : kY yX5_nowMany cX5_nowMany 4 (some .int) 1 := ⟨gw_mem (i := 1157) (by decide +kernel) (by decide +kernel), gw_mem (i := 127) (by decide +kernel) (by decide +kernel), by decide +kernel, by decide +kernel, by decide +kernel, by decide, by decide +kernel⟩
theorem knX5_nowMany : kN yX5_nowMany 5 := ⟨gw_mem (i := 1156) (by decide +kernel) (by decide +kernel), gw_mem (i := 99) (by decide +kernel) (by decide +kernel), TX5, 41, rfl⟩
theorem kyX5_wereMany : kY yX5_wereMany cX5_wereMany 4 (some .int) 1 := ⟨gw_mem (i := 1161) (by decide +kernel) (by decide +kernel), gw_mem (i := 127) (by decide +kernel) (by decide +kernel), by decide +kernel, by decide +kernel, by decide +kernel, by decide, by decide +kernel⟩
theorem knX5_wereMany : kN yX5_wereMany 5 := ⟨gw_mem (i := 1160) (by decide +kernel) (by decide +kernel), gw_mem (i := 100) (by decide +kernel) (by decide +kernel), TX5, 41, rfl⟩
theorem kyX5_stood : kY yX5_stood cX5_stood 4 (some .boolean) 1 := ⟨gw_mem (i := 1165) (by decide +kernel) (by decide +kernel), gw_mem (i := 127) (by decide +kernel) (by decide +kernel), by decide +kernel, by decide +kernel, by decide +kernel, by decide, by decide +kernel⟩
theorem knX5_stood : kN yX5_stood 5 := ⟨gw_mem (i := 1164) (by decide +kernel) (by decide +kernel), gw_mem (i := 101) (by decide +kernel) (by decide +kernel), TX5, 41, rfl⟩
theorem kyX5_fit : kY yX5_fit cX5_fit 5 (some .int) 1 := ⟨gw_mem (i := 1169) (by decide +kernel) (by decide +kernel), gw_mem (i := 127) (by decide +kernel) (by decide +kernel), by decide +kernel, by decide +kernel, by decide +kernel, by decide, by decide +kernel⟩
theorem knX5_fit : kN yX5_fit 5 := ⟨gw_mem (i := 1167) (by decide +kernel) (by decide +kernel), gw_mem (i := 1168) (by decide +kernel) (by decide +kernel), TX5, 41, rfl⟩
theorem kyX5_rows : kY yX5_rows cX5_rows 1 (some .int) 0 := ⟨gw_mem (i := 1173) (by decide +kernel) (by decide +kernel), gw_mem (i := 127) (by decide +kernel) (by decide +kernel), by decide +kernel, by decide +kernel, by decide +kernel, by decide, by decide +kernel⟩
theorem knX5_rows : kN yX5_rows 5 := ⟨gw_mem (i := 1172) (by decide +kernel) (by decide +kernel), gw_mem (i := 102) (by decide +kernel) (by decide +kernel), TX5, 41, rfl⟩
theorem kyX5_saves : kY yX5_saves cX5_saves 6 (some .int) 1 := ⟨gw_mem (i := 1177) (by decide +kernel) (by decide +kernel), gw_mem (i := 127) (by decide +kernel) (by decide +kernel), by decide +kernel, by decide +kernel, by decide +kernel, by decide, by decide +kernel⟩
theorem knX5_saves : kN yX5_saves 5 := ⟨gw_mem (i := 1175) (by decide +kernel) (by decide +kernel), gw_mem (i := 1176) (by decide +kernel) (by decide +kernel), TX5, 41, rfl⟩
theorem kyX5_tight : kY yX5_tight cX5_tight 6 (some .int) 1 := ⟨gw_mem (i := 1182) (by decide +kernel) (by decide +kernel), gw_mem (i := 127) (by decide +kernel) (by decide +kernel), by decide +kernel, by decide +kernel, by decide +kernel, by decide, by decide +kernel⟩
theorem knX5_tight : kN yX5_tight 5 := ⟨gw_mem (i := 1180) (by decide +kernel) (by decide +kernel), gw_mem (i := 1181) (by decide +kernel) (by decide +kernel), TX5, 41, rfl⟩
theorem kyX5_isTight : kY yX5_isTight cX5_isTight 4 (some .boolean) 2 := ⟨gw_mem (i := 1186) (by decide +kernel) (by decide +kernel), gw_mem (i := 127) (by decide +kernel) (by decide +kernel), by decide +kernel, by decide +kernel, by decide +kernel, by decide, by decide +kernel⟩
theorem knX5_isTight : kN yX5_isTight 5 := ⟨gw_mem (i := 1185) (by decide +kernel) (by decide +kernel), gw_mem (i := 103) (by decide +kernel) (by decide +kernel), TX5, 41, rfl⟩
theorem kyX5_day : kY yX5_day cX5_day 7 (some .int) 3 := ⟨gw_mem (i := 1190) (by decide +kernel) (by decide +kernel), gw_mem (i := 127) (by decide +kernel) (by decide +kernel), by decide +kernel, by decide +kernel, by decide +kernel, by decide, by decide +kernel⟩
theorem knX5_day : kN yX5_day 5 := ⟨gw_mem (i := 1188) (by decide +kernel) (by decide +kernel), gw_mem (i := 1189) (by decide +kernel) (by decide +kernel), TX5, 41, rfl⟩
theorem kyX5_turns : kY yX5_turns cX5_turns 4 none 1 := ⟨gw_mem (i := 1197) (by decide +kernel) (by decide +kernel), gw_mem (i := 127) (by decide +kernel) (by decide +kernel), by decide +kernel, by decide +kernel, by decide +kernel, by decide, by decide +kernel⟩
theorem knX5_turns : kN yX5_turns 5 := ⟨gw_mem (i := 1196) (by decide +kernel) (by decide +kernel), gw_mem (i := 104) (by decide +kernel) (by decide +kernel), TX5, 41, rfl⟩
theorem kyX5_longest : kY yX5_longest cX5_longest 3 (some .int) 0 := ⟨gw_mem (i := 1201) (by decide +kernel) (by decide +kernel), gw_mem (i := 127) (by decide +kernel) (by decide +kernel), by decide +kernel, by decide +kernel, by decide +kernel, by decide, by decide +kernel⟩
theorem knX5_longest : kN yX5_longest 5 := ⟨gw_mem (i := 1200) (by decide +kernel) (by decide +kernel), gw_mem (i := 105) (by decide +kernel) (by decide +kernel), TX5, 41, rfl⟩
theorem kyX5_count : kY yX5_count cX5_count 2 (some .int) 1 := ⟨gw_mem (i := 1205) (by decide +kernel) (by decide +kernel), gw_mem (i := 127) (by decide +kernel) (by decide +kernel), by decide +kernel, by decide +kernel, by decide +kernel, by decide, by decide +kernel⟩
theorem knX5_count : kN yX5_count 5 := ⟨gw_mem (i := 1203) (by decide +kernel) (by decide +kernel), gw_mem (i := 1204) (by decide +kernel) (by decide +kernel), TX5, 41, rfl⟩
theorem kyX5_write : kY yX5_write cX5_write 2 (some .int) 1 := ⟨gw_mem (i := 1209) (by decide +kernel) (by decide +kernel), gw_mem (i := 127) (by decide +kernel) (by decide +kernel), by decide +kernel, by decide +kernel, by decide +kernel, by decide, by decide +kernel⟩
theorem knX5_write : kN yX5_write 5 := ⟨gw_mem (i := 1207) (by decide +kernel) (by decide +kernel), gw_mem (i := 1208) (by decide +kernel) (by decide +kernel), TX5, 41, rfl⟩
theorem kyX5_wipe : kY yX5_wipe cX5_wipe 2 (some .int) 0 := ⟨gw_mem (i := 1213) (by decide +kernel) (by decide +kernel), gw_mem (i := 127) (by decide +kernel) (by decide +kernel), by decide +kernel, by decide +kernel, by decide +kernel, by decide, by decide +kernel⟩
theorem knX5_wipe : kN yX5_wipe 5 := ⟨gw_mem (i := 1211) (by decide +kernel) (by decide +kernel), gw_mem (i := 1212) (by decide +kernel) (by decide +kernel), TX5, 41, rfl⟩
theorem kyX5_fault : kY yX5_fault cX5_fault 2 (some .int) 0 := ⟨gw_mem (i := 1217) (by decide +kernel) (by decide +kernel), gw_mem (i := 127) (by decide +kernel) (by decide +kernel), by decide +kernel, by decide +kernel, by decide +kernel, by decide, by decide +kernel⟩
theorem knX5_fault : kN yX5_fault 5 := ⟨gw_mem (i := 1215) (by decide +kernel) (by decide +kernel), gw_mem (i := 1216) (by decide +kernel) (by decide +kernel), TX5, 41, rfl⟩
theorem kyX5_readsAll : kY yX5_readsAll cX5_readsAll 2 (some .int) 0 := ⟨gw_mem (i := 1221) (by decide +kernel) (by decide +kernel), gw_mem (i := 127) (by decide +kernel) (by decide +kernel), by decide +kernel, by decide +kernel, by decide +kernel, by decide, by decide +kernel⟩
theorem knX5_readsAll : kN yX5_readsAll 5 := ⟨gw_mem (i := 1220) (by decide +kernel) (by decide +kernel), gw_mem (i := 106) (by decide +kernel) (by decide +kernel), TX5, 41, rfl⟩
theorem kyX5_readsItem : kY yX5_readsItem cX5_readsItem 3 (some .boolean) 1 := ⟨gw_mem (i := 1225) (by decide +kernel) (by decide +kernel), gw_mem (i := 127) (by decide +kernel) (by decide +kernel), by decide +kernel, by decide +kernel, by decide +kernel, by decide, by decide +kernel⟩
theorem knX5_readsItem : kN yX5_readsItem 5 := ⟨gw_mem (i := 1224) (by decide +kernel) (by decide +kernel), gw_mem (i := 107) (by decide +kernel) (by decide +kernel), TX5, 41, rfl⟩
theorem kyX5_here : kY yX5_here cX5_here 1 (some .int) 0 := ⟨gw_mem (i := 1229) (by decide +kernel) (by decide +kernel), gw_mem (i := 127) (by decide +kernel) (by decide +kernel), by decide +kernel, by decide +kernel, by decide +kernel, by decide, by decide +kernel⟩
theorem knX5_here : kN yX5_here 5 := ⟨gw_mem (i := 1228) (by decide +kernel) (by decide +kernel), gw_mem (i := 108) (by decide +kernel) (by decide +kernel), TX5, 41, rfl⟩
theorem kyX5_readsSigns : kY yX5_readsSigns cX5_readsSigns 3 (some .boolean) 0 := ⟨gw_mem (i := 1233) (by decide +kernel) (by decide +kernel), gw_mem (i := 127) (by decide +kernel) (by decide +kernel), by decide +kernel, by decide +kernel, by decide +kernel, by decide, by decide +kernel⟩
theorem knX5_readsSigns : kN yX5_readsSigns 5 := ⟨gw_mem (i := 1232) (by decide +kernel) (by decide +kernel), gw_mem (i := 109) (by decide +kernel) (by decide +kernel), TX5, 41, rfl⟩
theorem kyX5_readsFold : kY yX5_readsFold cX5_readsFold 2 (some .boolean) 0 := ⟨gw_mem (i := 1237) (by decide +kernel) (by decide +kernel), gw_mem (i := 127) (by decide +kernel) (by decide +kernel), by decide +kernel, by decide +kernel, by decide +kernel, by decide, by decide +kernel⟩
theorem knX5_readsFold : kN yX5_readsFold 5 := ⟨gw_mem (i := 1236) (by decide +kernel) (by decide +kernel), gw_mem (i := 110) (by decide +kernel) (by decide +kernel), TX5, 41, rfl⟩
theorem kyX5_number : kY yX5_number cX5_number 5 (some .boolean) 3 := ⟨gw_mem (i := 1241) (by decide +kernel) (by decide +kernel), gw_mem (i := 127) (by decide +kernel) (by decide +kernel), by decide +kernel, by decide +kernel, by decide +kernel, by decide, by decide +kernel⟩
theorem knX5_number : kN yX5_number 5 := ⟨gw_mem (i := 1240) (by decide +kernel) (by decide +kernel), gw_mem (i := 111) (by decide +kernel) (by decide +kernel), TX5, 41, rfl⟩
theorem kyX5_isFigure : kY yX5_isFigure cX5_isFigure 1 (some .boolean) 0 := ⟨gw_mem (i := 1245) (by decide +kernel) (by decide +kernel), gw_mem (i := 127) (by decide +kernel) (by decide +kernel), by decide +kernel, by decide +kernel, by decide +kernel, by decide, by decide +kernel⟩
theorem knX5_isFigure : kN yX5_isFigure 5 := ⟨gw_mem (i := 1244) (by decide +kernel) (by decide +kernel), gw_mem (i := 112) (by decide +kernel) (by decide +kernel), TX5, 41, rfl⟩
theorem kyX5_readsHint : kY yX5_readsHint cX5_readsHint 2 (some .boolean) 0 := ⟨gw_mem (i := 1249) (by decide +kernel) (by decide +kernel), gw_mem (i := 127) (by decide +kernel) (by decide +kernel), by decide +kernel, by decide +kernel, by decide +kernel, by decide, by decide +kernel⟩
theorem knX5_readsHint : kN yX5_readsHint 5 := ⟨gw_mem (i := 1248) (by decide +kernel) (by decide +kernel), gw_mem (i := 113) (by decide +kernel) (by decide +kernel), TX5, 41, rfl⟩
theorem kyX5_readsWide : kY yX5_readsWide cX5_readsWide 3 (some .boolean) 0 := ⟨gw_mem (i := 1253) (by decide +kernel) (by decide +kernel), gw_mem (i := 127) (by decide +kernel) (by decide +kernel), by decide +kernel, by decide +kernel, by decide +kernel, by decide, by decide +kernel⟩
theorem knX5_readsWide : kN yX5_readsWide 5 := ⟨gw_mem (i := 1252) (by decide +kernel) (by decide +kernel), gw_mem (i := 114) (by decide +kernel) (by decide +kernel), TX5, 41, rfl⟩
theorem kyX5_readsTabs : kY yX5_readsTabs cX5_readsTabs 1 (some .boolean) 0 := ⟨gw_mem (i := 1257) (by decide +kernel) (by decide +kernel), gw_mem (i := 127) (by decide +kernel) (by decide +kernel), by decide +kernel, by decide +kernel, by decide +kernel, by decide, by decide +kernel⟩
theorem knX5_readsTabs : kN yX5_readsTabs 5 := ⟨gw_mem (i := 1256) (by decide +kernel) (by decide +kernel), gw_mem (i := 115) (by decide +kernel) (by decide +kernel), TX5, 41, rfl⟩
theorem kyX5_lay : kY yX5_lay cX5_lay 1 (some .int) 0 := ⟨gw_mem (i := 1261) (by decide +kernel) (by decide +kernel), gw_mem (i := 127) (by decide +kernel) (by decide +kernel), by decide +kernel, by decide +kernel, by decide +kernel, by decide, by decide +kernel⟩
theorem knX5_lay : kN yX5_lay 5 := ⟨gw_mem (i := 1259) (by decide +kernel) (by decide +kernel), gw_mem (i := 1260) (by decide +kernel) (by decide +kernel), TX5, 41, rfl⟩
theorem kmL_9 : kM kNm RL 9 yX4_init := Or.inl (gw_mem (i := 131) (by decide +kernel) (by decide +kernel))
theorem kmX4_11 : kM kNm RX4 11 yX3_init := Or.inr (List.mem_of_getElem? (i := 0) (by decide +kernel))
theorem kmX4_18 : kM kNm RX4 18 yX2_init := Or.inr (List.mem_of_getElem? (i := 1) (by decide +kernel))
theorem kmX4_25 : kM kNm RX4 25 yX0_init := Or.inr (List.mem_of_getElem? (i := 2) (by decide +kernel))
theorem kmX0_21 : kM kNm RX0 21 yX2_init := Or.inr (List.mem_of_getElem? (i := 3) (by decide +kernel))
theorem kmX4_37 : kM kNm RX4 37 yX1_init := Or.inr (List.mem_of_getElem? (i := 4) (by decide +kernel))
theorem kmX4_63 : kM kNm RX4 63 yX3_append := Or.inr (List.mem_of_getElem? (i := 5) (by decide +kernel))
theorem kmX4_67 : kM kNm RX4 67 yX3_readInto := Or.inr (List.mem_of_getElem? (i := 6) (by decide +kernel))
theorem kmX3_22 : kM kNm RX3 22 yX2_clear := Or.inr (List.mem_of_getElem? (i := 7) (by decide +kernel))
theorem kmX2_41 : kM kNm RX2 41 yX2_setFlow := Or.inl (gw_mem (i := 346) (by decide +kernel) (by decide +kernel))
theorem kmX3_27 : kM kNm RX3 27 yX3_endOfItem := Or.inl (gw_mem (i := 350) (by decide +kernel) (by decide +kernel))
theorem kmX3_31 : kM kNm RX3 31 yX3_readItem := Or.inl (gw_mem (i := 354) (by decide +kernel) (by decide +kernel))
theorem kmX3_35 : kM kNm RX3 35 yX3_readSigns := Or.inl (gw_mem (i := 358) (by decide +kernel) (by decide +kernel))
theorem kmX3_55 : kM kNm RX3 55 yX3_signOf := Or.inl (gw_mem (i := 362) (by decide +kernel) (by decide +kernel))
theorem kmX3_58 : kM kNm RX3 58 yX2_hasRoom := Or.inr (List.mem_of_getElem? (i := 8) (by decide +kernel))
theorem kmX3_65 : kM kNm RX3 65 yX2_putIn := Or.inr (List.mem_of_getElem? (i := 9) (by decide +kernel))
theorem kmX2_67 : kM kNm RX2 67 yX2_hasPlace := Or.inl (gw_mem (i := 373) (by decide +kernel) (by decide +kernel))
theorem kmX2_70 : kM kNm RX2 70 yX2_hasRoom := Or.inl (gw_mem (i := 377) (by decide +kernel) (by decide +kernel))
theorem kmX3_38 : kM kNm RX3 38 yX3_readNumbers := Or.inl (gw_mem (i := 378) (by decide +kernel) (by decide +kernel))
theorem kmX3_42 : kM kNm RX3 42 yX3_readFold := Or.inl (gw_mem (i := 382) (by decide +kernel) (by decide +kernel))
theorem kmX3_69 : kM kNm RX3 69 yX2_foldRefusal := Or.inr (List.mem_of_getElem? (i := 10) (by decide +kernel))
theorem kmX3_72 : kM kNm RX3 72 yX2_addFold := Or.inr (List.mem_of_getElem? (i := 11) (by decide +kernel))
theorem kmX3_46 : kM kNm RX3 46 yX3_readHint := Or.inl (gw_mem (i := 394) (by decide +kernel) (by decide +kernel))
theorem kmX3_75 : kM kNm RX3 75 yX2_hintRefusal := Or.inr (List.mem_of_getElem? (i := 12) (by decide +kernel))
theorem kmX2_84 : kM kNm RX2 84 yX2_hintAt := Or.inl (gw_mem (i := 402) (by decide +kernel) (by decide +kernel))
theorem kmX3_78 : kM kNm RX3 78 yX2_addHint := Or.inr (List.mem_of_getElem? (i := 13) (by decide +kernel))
theorem kmX3_49 : kM kNm RX3 49 yX3_readFlow := Or.inl (gw_mem (i := 410) (by decide +kernel) (by decide +kernel))
theorem kmX3_81 : kM kNm RX3 81 yX2_isFlow := Or.inr (List.mem_of_getElem? (i := 14) (by decide +kernel))
theorem kmX3_85 : kM kNm RX3 85 yX2_setFlow := Or.inr (List.mem_of_getElem? (i := 15) (by decide +kernel))
theorem kmX3_52 : kM kNm RX3 52 yX3_readTabStep := Or.inl (gw_mem (i := 418) (by decide +kernel) (by decide +kernel))
theorem kmX3_89 : kM kNm RX3 89 yX2_isTabStep := Or.inr (List.mem_of_getElem? (i := 16) (by decide +kernel))
theorem kmX4_74 : kM kNm RX4 74 yX1_draw := Or.inr (List.mem_of_getElem? (i := 17) (by decide +kernel))
theorem kmX1_34 : kM kNm RX1 34 yX1_gather := Or.inl (gw_mem (i := 429) (by decide +kernel) (by decide +kernel))
theorem kmX1_53 : kM kNm RX1 53 yX2_isShown := Or.inr (List.mem_of_getElem? (i := 18) (by decide +kernel))
theorem kmX2_100 : kM kNm RX2 100 yX2_holderOf := Or.inl (gw_mem (i := 437) (by decide +kernel) (by decide +kernel))
theorem kmX2_97 : kM kNm RX2 97 yX2_shutFoldOf := Or.inl (gw_mem (i := 441) (by decide +kernel) (by decide +kernel))
theorem kmX1_57 : kM kNm RX1 57 yX2_hintAt := Or.inr (List.mem_of_getElem? (i := 19) (by decide +kernel))
theorem kmX1_64 : kM kNm RX1 64 yX1_addItem := Or.inl (gw_mem (i := 446) (by decide +kernel) (by decide +kernel))
theorem kmX1_68 : kM kNm RX1 68 yX2_shutFoldOf := Or.inr (List.mem_of_getElem? (i := 20) (by decide +kernel))
theorem kmX1_71 : kM kNm RX1 71 yX2_signAt := Or.inr (List.mem_of_getElem? (i := 21) (by decide +kernel))
theorem kmX2_63 : kM kNm RX2 63 yX2_hasSign := Or.inl (gw_mem (i := 455) (by decide +kernel) (by decide +kernel))
theorem kmX1_38 : kM kNm RX1 38 yX1_flow := Or.inl (gw_mem (i := 459) (by decide +kernel) (by decide +kernel))
theorem kmX1_74 : kM kNm RX1 74 yX1_openRow := Or.inl (gw_mem (i := 463) (by decide +kernel) (by decide +kernel))
theorem kmX1_78 : kM kNm RX1 78 yX1_goesOn := Or.inl (gw_mem (i := 467) (by decide +kernel) (by decide +kernel))
theorem kmX1_88 : kM kNm RX1 88 yX1_widthOf := Or.inl (gw_mem (i := 471) (by decide +kernel) (by decide +kernel))
theorem kmX1_101 : kM kNm RX1 101 yX1_startsWord := Or.inl (gw_mem (i := 475) (by decide +kernel) (by decide +kernel))
theorem kmX1_110 : kM kNm RX1 110 yX1_isOfWord := Or.inl (gw_mem (i := 479) (by decide +kernel) (by decide +kernel))
theorem kmX1_104 : kM kNm RX1 104 yX1_wordWidth := Or.inl (gw_mem (i := 483) (by decide +kernel) (by decide +kernel))
theorem kmX1_92 : kM kNm RX1 92 yX1_closeRow := Or.inl (gw_mem (i := 487) (by decide +kernel) (by decide +kernel))
theorem kmL_13 : kM kNm RL 13 yX4_write := Or.inl (gw_mem (i := 520) (by decide +kernel) (by decide +kernel))
theorem kmL_18 : kM kNm RL 18 yX4_wipe := Or.inl (gw_mem (i := 524) (by decide +kernel) (by decide +kernel))
theorem kmL_23 : kM kNm RL 23 yX4_fault := Or.inl (gw_mem (i := 528) (by decide +kernel) (by decide +kernel))
theorem kmL_27 : kM kNm RL 27 yX4_lay := Or.inl (gw_mem (i := 532) (by decide +kernel) (by decide +kernel))
theorem kmX4_80 : kM kNm RX4 80 yX4_startAnew := Or.inl (gw_mem (i := 536) (by decide +kernel) (by decide +kernel))
theorem kmX4_232 : kM kNm RX4 232 yX2_copyFrom := Or.inr (List.mem_of_getElem? (i := 22) (by decide +kernel))
theorem kmL_31 : kM kNm RL 31 yX4_sign := Or.inl (gw_mem (i := 547) (by decide +kernel) (by decide +kernel))
theorem kmX4_87 : kM kNm RX4 87 yX2_hasPlace := Or.inr (List.mem_of_getElem? (i := 23) (by decide +kernel))
theorem kmX4_90 : kM kNm RX4 90 yX2_signAt := Or.inr (List.mem_of_getElem? (i := 24) (by decide +kernel))
theorem kmL_35 : kM kNm RL 35 yX4_fold := Or.inl (gw_mem (i := 553) (by decide +kernel) (by decide +kernel))
theorem kmX4_94 : kM kNm RX4 94 yX2_hasFold := Or.inr (List.mem_of_getElem? (i := 25) (by decide +kernel))
theorem kmL_40 : kM kNm RL 40 yX4_hint := Or.inl (gw_mem (i := 561) (by decide +kernel) (by decide +kernel))
theorem kmX4_108 : kM kNm RX4 108 yX2_hasHint := Or.inr (List.mem_of_getElem? (i := 26) (by decide +kernel))
theorem kmX4_117 : kM kNm RX4 117 yX2_isShown := Or.inr (List.mem_of_getElem? (i := 27) (by decide +kernel))
theorem kmL_44 : kM kNm RL 44 yX4_insert := Or.inl (gw_mem (i := 570) (by decide +kernel) (by decide +kernel))
theorem kmX4_120 : kM kNm RX4 120 yX2_hasRoom := Or.inr (List.mem_of_getElem? (i := 28) (by decide +kernel))
theorem kmX4_124 : kM kNm RX4 124 yX0_push := Or.inr (List.mem_of_getElem? (i := 29) (by decide +kernel))
theorem kmX0_26 : kM kNm RX0 26 yX0_isFull := Or.inl (gw_mem (i := 579) (by decide +kernel) (by decide +kernel))
theorem kmX0_30 : kM kNm RX0 30 yX0_dropLowest := Or.inl (gw_mem (i := 583) (by decide +kernel) (by decide +kernel))
theorem kmX0_33 : kM kNm RX0 33 yX2_copyFrom := Or.inr (List.mem_of_getElem? (i := 30) (by decide +kernel))
theorem kmX4_127 : kM kNm RX4 127 yX2_putIn := Or.inr (List.mem_of_getElem? (i := 31) (by decide +kernel))
theorem kmX4_131 : kM kNm RX4 131 yX4_redraw := Or.inl (gw_mem (i := 589) (by decide +kernel) (by decide +kernel))
theorem kmL_48 : kM kNm RL 48 yX4_erase := Or.inl (gw_mem (i := 593) (by decide +kernel) (by decide +kernel))
theorem kmX4_134 : kM kNm RX4 134 yX2_hasSign := Or.inr (List.mem_of_getElem? (i := 32) (by decide +kernel))
theorem kmX4_137 : kM kNm RX4 137 yX2_takeOut := Or.inr (List.mem_of_getElem? (i := 33) (by decide +kernel))
theorem kmX2_74 : kM kNm RX2 74 yX2_pullFolds := Or.inl (gw_mem (i := 602) (by decide +kernel) (by decide +kernel))
theorem kmX2_81 : kM kNm RX2 81 yX2_dropFold := Or.inl (gw_mem (i := 606) (by decide +kernel) (by decide +kernel))
theorem kmX2_91 : kM kNm RX2 91 yX2_hasFold := Or.inl (gw_mem (i := 610) (by decide +kernel) (by decide +kernel))
theorem kmX2_78 : kM kNm RX2 78 yX2_pullHints := Or.inl (gw_mem (i := 611) (by decide +kernel) (by decide +kernel))
theorem kmX2_88 : kM kNm RX2 88 yX2_dropHint := Or.inl (gw_mem (i := 615) (by decide +kernel) (by decide +kernel))
theorem kmX2_94 : kM kNm RX2 94 yX2_hasHint := Or.inl (gw_mem (i := 619) (by decide +kernel) (by decide +kernel))
theorem kmL_52 : kM kNm RL 52 yX4_toggle := Or.inl (gw_mem (i := 620) (by decide +kernel) (by decide +kernel))
theorem kmX4_140 : kM kNm RX4 140 yX2_turn := Or.inr (List.mem_of_getElem? (i := 34) (by decide +kernel))
theorem kmL_56 : kM kNm RL 56 yX4_make := Or.inl (gw_mem (i := 628) (by decide +kernel) (by decide +kernel))
theorem kmX4_143 : kM kNm RX4 143 yX2_foldRefusal := Or.inr (List.mem_of_getElem? (i := 35) (by decide +kernel))
theorem kmX4_147 : kM kNm RX4 147 yX2_addFold := Or.inr (List.mem_of_getElem? (i := 36) (by decide +kernel))
theorem kmL_60 : kM kNm RL 60 yX4_unfold := Or.inl (gw_mem (i := 634) (by decide +kernel) (by decide +kernel))
theorem kmX4_150 : kM kNm RX4 150 yX2_dropFold := Or.inr (List.mem_of_getElem? (i := 37) (by decide +kernel))
theorem kmL_64 : kM kNm RL 64 yX4_set := Or.inl (gw_mem (i := 639) (by decide +kernel) (by decide +kernel))
theorem kmX4_156 : kM kNm RX4 156 yX2_hintRefusal := Or.inr (List.mem_of_getElem? (i := 38) (by decide +kernel))
theorem kmX4_159 : kM kNm RX4 159 yX2_addHint := Or.inr (List.mem_of_getElem? (i := 39) (by decide +kernel))
theorem kmL_68 : kM kNm RL 68 yX4_unset := Or.inl (gw_mem (i := 645) (by decide +kernel) (by decide +kernel))
theorem kmX4_162 : kM kNm RX4 162 yX2_dropHint := Or.inr (List.mem_of_getElem? (i := 40) (by decide +kernel))
theorem kmL_72 : kM kNm RL 72 yX4_wide := Or.inl (gw_mem (i := 650) (by decide +kernel) (by decide +kernel))
theorem kmX4_165 : kM kNm RX4 165 yX2_isFlow := Or.inr (List.mem_of_getElem? (i := 41) (by decide +kernel))
theorem kmX4_178 : kM kNm RX4 178 yX2_setFlow := Or.inr (List.mem_of_getElem? (i := 42) (by decide +kernel))
theorem kmL_77 : kM kNm RL 77 yX4_tabs := Or.inl (gw_mem (i := 656) (by decide +kernel) (by decide +kernel))
theorem kmX4_182 : kM kNm RX4 182 yX2_isTabStep := Or.inr (List.mem_of_getElem? (i := 43) (by decide +kernel))
theorem kmL_81 : kM kNm RL 81 yX4_undo := Or.inl (gw_mem (i := 661) (by decide +kernel) (by decide +kernel))
theorem kmX4_188 : kM kNm RX4 188 yX0_popInto := Or.inr (List.mem_of_getElem? (i := 44) (by decide +kernel))
theorem kmL_85 : kM kNm RL 85 yX4_stands := Or.inl (gw_mem (i := 669) (by decide +kernel) (by decide +kernel))
theorem kmX4_192 : kM kNm RX4 192 yX4_rowOf := Or.inl (gw_mem (i := 673) (by decide +kernel) (by decide +kernel))
theorem kmX4_265 : kM kNm RX4 265 yX2_holderOf := Or.inr (List.mem_of_getElem? (i := 45) (by decide +kernel))
theorem kmX4_268 : kM kNm RX4 268 yX1_itemOf := Or.inr (List.mem_of_getElem? (i := 46) (by decide +kernel))
theorem kmX4_195 : kM kNm RX4 195 yX4_columnOf := Or.inl (gw_mem (i := 682) (by decide +kernel) (by decide +kernel))
theorem kmL_89 : kM kNm RL 89 yX4_place := Or.inl (gw_mem (i := 686) (by decide +kernel) (by decide +kernel))
theorem kmX4_198 : kM kNm RX4 198 yX1_hasRow := Or.inr (List.mem_of_getElem? (i := 47) (by decide +kernel))
theorem kmX4_201 : kM kNm RX4 201 yX4_isColumn := Or.inl (gw_mem (i := 694) (by decide +kernel) (by decide +kernel))
theorem kmX4_204 : kM kNm RX4 204 yX1_placeAt := Or.inr (List.mem_of_getElem? (i := 48) (by decide +kernel))
theorem kmL_93 : kM kNm RL 93 yX4_screen := Or.inl (gw_mem (i := 701) (by decide +kernel) (by decide +kernel))
theorem kmX4_208 : kM kNm RX4 208 yX1_codeAt := Or.inr (List.mem_of_getElem? (i := 49) (by decide +kernel))
theorem kmL_97 : kM kNm RL 97 yX4_go := Or.inl (gw_mem (i := 709) (by decide +kernel) (by decide +kernel))
theorem kmX4_211 : kM kNm RX4 211 yX2_nextShown := Or.inr (List.mem_of_getElem? (i := 50) (by decide +kernel))
theorem kmX2_103 : kM kNm RX2 103 yX2_isShown := Or.inl (gw_mem (i := 717) (by decide +kernel) (by decide +kernel))
theorem kmX4_214 : kM kNm RX4 214 yX2_previousShown := Or.inr (List.mem_of_getElem? (i := 51) (by decide +kernel))
theorem kmX4_217 : kM kNm RX4 217 yX4_acrossTo := Or.inl (gw_mem (i := 722) (by decide +kernel) (by decide +kernel))
theorem kmL_101 : kM kNm RL 101 yX4_row := Or.inl (gw_mem (i := 726) (by decide +kernel) (by decide +kernel))
theorem kmL_105 : kM kNm RL 105 yX4_changed := Or.inl (gw_mem (i := 730) (by decide +kernel) (by decide +kernel))
theorem kmX4_226 : kM kNm RX4 226 yX4_firstChanged := Or.inl (gw_mem (i := 734) (by decide +kernel) (by decide +kernel))
theorem kmX4_285 : kM kNm RX4 285 yX4_rowsToCompare := Or.inl (gw_mem (i := 738) (by decide +kernel) (by decide +kernel))
theorem kmX4_288 : kM kNm RX4 288 yX1_isRowAsIn := Or.inr (List.mem_of_getElem? (i := 52) (by decide +kernel))
theorem kmX1_119 : kM kNm RX1 119 yX1_hasRow := Or.inl (gw_mem (i := 747) (by decide +kernel) (by decide +kernel))
theorem kmX1_122 : kM kNm RX1 122 yX1_seek := Or.inl (gw_mem (i := 748) (by decide +kernel) (by decide +kernel))
theorem kmX1_125 : kM kNm RX1 125 yX1_isItemAsIn := Or.inl (gw_mem (i := 752) (by decide +kernel) (by decide +kernel))
theorem kmX4_229 : kM kNm RX4 229 yX4_countChanged := Or.inl (gw_mem (i := 756) (by decide +kernel) (by decide +kernel))
theorem kmL_109 : kM kNm RL 109 yX4_fit := Or.inl (gw_mem (i := 760) (by decide +kernel) (by decide +kernel))
theorem kmL_113 : kM kNm RL 113 yX4_saves := Or.inl (gw_mem (i := 764) (by decide +kernel) (by decide +kernel))
theorem kmL_117 : kM kNm RL 117 yX4_tight := Or.inl (gw_mem (i := 768) (by decide +kernel) (by decide +kernel))
theorem kmX4_235 : kM kNm RX4 235 yX4_isTight := Or.inl (gw_mem (i := 772) (by decide +kernel) (by decide +kernel))
theorem kmL_121 : kM kNm RL 121 yX4_day := Or.inl (gw_mem (i := 776) (by decide +kernel) (by decide +kernel))
theorem kmX4_238 : kM kNm RX4 238 yX4_draw := Or.inl (gw_mem (i := 780) (by decide +kernel) (by decide +kernel))
theorem kmX4_240 : kM kNm RX4 240 yX2_live := Or.inr (List.mem_of_getElem? (i := 53) (by decide +kernel))
theorem kmX2_106 : kM kNm RX2 106 yX2_reduced := Or.inl (gw_mem (i := 790) (by decide +kernel) (by decide +kernel))
theorem kmX2_110 : kM kNm RX2 110 yX2_takeOut := Or.inl (gw_mem (i := 793) (by decide +kernel) (by decide +kernel))
theorem kmX2_113 : kM kNm RX2 113 yX2_turn := Or.inl (gw_mem (i := 794) (by decide +kernel) (by decide +kernel))
theorem kmX2_116 : kM kNm RX2 116 yX2_putIn := Or.inl (gw_mem (i := 795) (by decide +kernel) (by decide +kernel))
theorem kmX4_243 : kM kNm RX4 243 yX1_longestRow := Or.inr (List.mem_of_getElem? (i := 54) (by decide +kernel))
theorem kmL_125 : kM kNm RL 125 yX4_keep := Or.inl (gw_mem (i := 801) (by decide +kernel) (by decide +kernel))
theorem kmX4_246 : kM kNm RX4 246 yX0_isFull := Or.inr (List.mem_of_getElem? (i := 55) (by decide +kernel))
theorem kmL_129 : kM kNm RL 129 yX4_back := Or.inl (gw_mem (i := 806) (by decide +kernel) (by decide +kernel))
theorem kmL_133 : kM kNm RL 133 yX4_count := Or.inl (gw_mem (i := 810) (by decide +kernel) (by decide +kernel))
theorem kmL_12 : kM kNm RL 12 yX5_init := Or.inl (gw_mem (i := 816) (by decide +kernel) (by decide +kernel))
theorem kmX5_92 : kM kNm RX5 92 yX5_comesFold := Or.inl (gw_mem (i := 820) (by decide +kernel) (by decide +kernel))
theorem kmX5_96 : kM kNm RX5 96 yX5_comesHint := Or.inl (gw_mem (i := 824) (by decide +kernel) (by decide +kernel))
theorem kmL_34 : kM kNm RL 34 yX5_sign := Or.inl (gw_mem (i := 952) (by decide +kernel) (by decide +kernel))
theorem kmX5_153 : kM kNm RX5 153 yX5_isPlace := Or.inl (gw_mem (i := 956) (by decide +kernel) (by decide +kernel))
theorem kmX5_103 : kM kNm RX5 103 yX5_in := Or.inl (gw_mem (i := 960) (by decide +kernel) (by decide +kernel))
theorem kmL_39 : kM kNm RL 39 yX5_fold := Or.inl (gw_mem (i := 963) (by decide +kernel) (by decide +kernel))
theorem kmX5_156 : kM kNm RX5 156 yX5_isFold := Or.inl (gw_mem (i := 967) (by decide +kernel) (by decide +kernel))
theorem kmL_43 : kM kNm RL 43 yX5_hint := Or.inl (gw_mem (i := 971) (by decide +kernel) (by decide +kernel))
theorem kmX5_159 : kM kNm RX5 159 yX5_isHint := Or.inl (gw_mem (i := 975) (by decide +kernel) (by decide +kernel))
theorem kmX5_162 : kM kNm RX5 162 yX5_isShown := Or.inl (gw_mem (i := 979) (by decide +kernel) (by decide +kernel))
theorem kmX5_113 : kM kNm RX5 113 yX5_shutOf := Or.inl (gw_mem (i := 983) (by decide +kernel) (by decide +kernel))
theorem kmL_47 : kM kNm RL 47 yX5_insert := Or.inl (gw_mem (i := 987) (by decide +kernel) (by decide +kernel))
theorem kmX5_192 : kM kNm RX5 192 yX5_notes := Or.inl (gw_mem (i := 991) (by decide +kernel) (by decide +kernel))
theorem kmX5_175 : kM kNm RX5 175 yX5_remembers := Or.inl (gw_mem (i := 995) (by decide +kernel) (by decide +kernel))
theorem kmX5_150 : kM kNm RX5 150 yX5_setScreen := Or.inl (gw_mem (i := 999) (by decide +kernel) (by decide +kernel))
theorem kmX5_134 : kM kNm RX5 134 yX5_setPieces := Or.inl (gw_mem (i := 1003) (by decide +kernel) (by decide +kernel))
theorem kmX5_120 : kM kNm RX5 120 yX5_hintOf := Or.inl (gw_mem (i := 1007) (by decide +kernel) (by decide +kernel))
theorem kmX5_123 : kM kNm RX5 123 yX5_comesPiece := Or.inl (gw_mem (i := 1011) (by decide +kernel) (by decide +kernel))
theorem kmX5_137 : kM kNm RX5 137 yX5_toStop := Or.inl (gw_mem (i := 1015) (by decide +kernel) (by decide +kernel))
theorem kmX5_140 : kM kNm RX5 140 yX5_goesOn := Or.inl (gw_mem (i := 1019) (by decide +kernel) (by decide +kernel))
theorem kmX5_127 : kM kNm RX5 127 yX5_isWord := Or.inl (gw_mem (i := 1023) (by decide +kernel) (by decide +kernel))
theorem kmX5_131 : kM kNm RX5 131 yX5_wordFrom := Or.inl (gw_mem (i := 1027) (by decide +kernel) (by decide +kernel))
theorem kmX5_181 : kM kNm RX5 181 yX5_lays := Or.inl (gw_mem (i := 1031) (by decide +kernel) (by decide +kernel))
theorem kmX5_195 : kM kNm RX5 195 yX5_putsIn := Or.inl (gw_mem (i := 1035) (by decide +kernel) (by decide +kernel))
theorem kmL_51 : kM kNm RL 51 yX5_erase := Or.inl (gw_mem (i := 1039) (by decide +kernel) (by decide +kernel))
theorem kmX5_199 : kM kNm RX5 199 yX5_isSign := Or.inl (gw_mem (i := 1043) (by decide +kernel) (by decide +kernel))
theorem kmX5_202 : kM kNm RX5 202 yX5_takesOut := Or.inl (gw_mem (i := 1047) (by decide +kernel) (by decide +kernel))
theorem kmX5_185 : kM kNm RX5 185 yX5_goesFold := Or.inl (gw_mem (i := 1051) (by decide +kernel) (by decide +kernel))
theorem kmX5_189 : kM kNm RX5 189 yX5_goesHint := Or.inl (gw_mem (i := 1055) (by decide +kernel) (by decide +kernel))
theorem kmL_55 : kM kNm RL 55 yX5_toggle := Or.inl (gw_mem (i := 1059) (by decide +kernel) (by decide +kernel))
theorem kmL_59 : kM kNm RL 59 yX5_make := Or.inl (gw_mem (i := 1063) (by decide +kernel) (by decide +kernel))
theorem kmX5_205 : kM kNm RX5 205 yX5_isApart := Or.inl (gw_mem (i := 1067) (by decide +kernel) (by decide +kernel))
theorem kmL_63 : kM kNm RL 63 yX5_unfold := Or.inl (gw_mem (i := 1071) (by decide +kernel) (by decide +kernel))
theorem kmL_67 : kM kNm RL 67 yX5_set := Or.inl (gw_mem (i := 1075) (by decide +kernel) (by decide +kernel))
theorem kmL_71 : kM kNm RL 71 yX5_unset := Or.inl (gw_mem (i := 1079) (by decide +kernel) (by decide +kernel))
theorem kmL_76 : kM kNm RL 76 yX5_wide := Or.inl (gw_mem (i := 1083) (by decide +kernel) (by decide +kernel))
theorem kmX5_208 : kM kNm RX5 208 yX5_isWide := Or.inl (gw_mem (i := 1087) (by decide +kernel) (by decide +kernel))
theorem kmL_80 : kM kNm RL 80 yX5_tabs := Or.inl (gw_mem (i := 1090) (by decide +kernel) (by decide +kernel))
theorem kmL_84 : kM kNm RL 84 yX5_undo := Or.inl (gw_mem (i := 1094) (by decide +kernel) (by decide +kernel))
theorem kmX5_211 : kM kNm RX5 211 yX5_takes := Or.inl (gw_mem (i := 1098) (by decide +kernel) (by decide +kernel))
theorem kmL_128 : kM kNm RL 128 yX5_keep := Or.inl (gw_mem (i := 1102) (by decide +kernel) (by decide +kernel))
theorem kmL_132 : kM kNm RL 132 yX5_back := Or.inl (gw_mem (i := 1106) (by decide +kernel) (by decide +kernel))
theorem kmL_88 : kM kNm RL 88 yX5_stands := Or.inl (gw_mem (i := 1110) (by decide +kernel) (by decide +kernel))
theorem kmX5_217 : kM kNm RX5 217 yX5_pieceOf := Or.inl (gw_mem (i := 1114) (by decide +kernel) (by decide +kernel))
theorem kmL_92 : kM kNm RL 92 yX5_place := Or.inl (gw_mem (i := 1118) (by decide +kernel) (by decide +kernel))
theorem kmX5_223 : kM kNm RX5 223 yX5_isRow := Or.inl (gw_mem (i := 1122) (by decide +kernel) (by decide +kernel))
theorem kmX5_226 : kM kNm RX5 226 yX5_placeAt := Or.inl (gw_mem (i := 1126) (by decide +kernel) (by decide +kernel))
theorem kmX5_220 : kM kNm RX5 220 yX5_pieceAt := Or.inl (gw_mem (i := 1130) (by decide +kernel) (by decide +kernel))
theorem kmL_96 : kM kNm RL 96 yX5_screen := Or.inl (gw_mem (i := 1134) (by decide +kernel) (by decide +kernel))
theorem kmL_100 : kM kNm RL 100 yX5_go := Or.inl (gw_mem (i := 1138) (by decide +kernel) (by decide +kernel))
theorem kmL_104 : kM kNm RL 104 yX5_row := Or.inl (gw_mem (i := 1142) (by decide +kernel) (by decide +kernel))
theorem kmL_108 : kM kNm RL 108 yX5_changed := Or.inl (gw_mem (i := 1146) (by decide +kernel) (by decide +kernel))
theorem kmX5_238 : kM kNm RX5 238 yX5_isChanged := Or.inl (gw_mem (i := 1150) (by decide +kernel) (by decide +kernel))
theorem kmX5_229 : kM kNm RX5 229 yX5_nowMany := Or.inl (gw_mem (i := 1154) (by decide +kernel) (by decide +kernel))
theorem kmX5_232 : kM kNm RX5 232 yX5_wereMany := Or.inl (gw_mem (i := 1158) (by decide +kernel) (by decide +kernel))
theorem kmX5_235 : kM kNm RX5 235 yX5_stood := Or.inl (gw_mem (i := 1162) (by decide +kernel) (by decide +kernel))
theorem kmL_112 : kM kNm RL 112 yX5_fit := Or.inl (gw_mem (i := 1166) (by decide +kernel) (by decide +kernel))
theorem kmX5_241 : kM kNm RX5 241 yX5_rows := Or.inl (gw_mem (i := 1170) (by decide +kernel) (by decide +kernel))
theorem kmL_116 : kM kNm RL 116 yX5_saves := Or.inl (gw_mem (i := 1174) (by decide +kernel) (by decide +kernel))
theorem kmL_120 : kM kNm RL 120 yX5_tight := Or.inl (gw_mem (i := 1179) (by decide +kernel) (by decide +kernel))
theorem kmX5_246 : kM kNm RX5 246 yX5_isTight := Or.inl (gw_mem (i := 1183) (by decide +kernel) (by decide +kernel))
theorem kmL_124 : kM kNm RL 124 yX5_day := Or.inl (gw_mem (i := 1187) (by decide +kernel) (by decide +kernel))
theorem kmX5_255 : kM kNm RX5 255 yX5_turns := Or.inl (gw_mem (i := 1194) (by decide +kernel) (by decide +kernel))
theorem kmX5_258 : kM kNm RX5 258 yX5_longest := Or.inl (gw_mem (i := 1198) (by decide +kernel) (by decide +kernel))
theorem kmL_136 : kM kNm RL 136 yX5_count := Or.inl (gw_mem (i := 1202) (by decide +kernel) (by decide +kernel))
theorem kmL_17 : kM kNm RL 17 yX5_write := Or.inl (gw_mem (i := 1206) (by decide +kernel) (by decide +kernel))
theorem kmL_22 : kM kNm RL 22 yX5_wipe := Or.inl (gw_mem (i := 1210) (by decide +kernel) (by decide +kernel))
theorem kmL_26 : kM kNm RL 26 yX5_fault := Or.inl (gw_mem (i := 1214) (by decide +kernel) (by decide +kernel))
theorem kmX5_299 : kM kNm RX5 299 yX5_readsAll := Or.inl (gw_mem (i := 1218) (by decide +kernel) (by decide +kernel))
theorem kmX5_295 : kM kNm RX5 295 yX5_readsItem := Or.inl (gw_mem (i := 1222) (by decide +kernel) (by decide +kernel))
theorem kmX5_267 : kM kNm RX5 267 yX5_here := Or.inl (gw_mem (i := 1226) (by decide +kernel) (by decide +kernel))
theorem kmX5_280 : kM kNm RX5 280 yX5_readsSigns := Or.inl (gw_mem (i := 1230) (by decide +kernel) (by decide +kernel))
theorem kmX5_283 : kM kNm RX5 283 yX5_readsFold := Or.inl (gw_mem (i := 1234) (by decide +kernel) (by decide +kernel))
theorem kmX5_277 : kM kNm RX5 277 yX5_number := Or.inl (gw_mem (i := 1238) (by decide +kernel) (by decide +kernel))
theorem kmX5_270 : kM kNm RX5 270 yX5_isFigure := Or.inl (gw_mem (i := 1242) (by decide +kernel) (by decide +kernel))
theorem kmX5_286 : kM kNm RX5 286 yX5_readsHint := Or.inl (gw_mem (i := 1246) (by decide +kernel) (by decide +kernel))
theorem kmX5_289 : kM kNm RX5 289 yX5_readsWide := Or.inl (gw_mem (i := 1250) (by decide +kernel) (by decide +kernel))
theorem kmX5_292 : kM kNm RX5 292 yX5_readsTabs := Or.inl (gw_mem (i := 1254) (by decide +kernel) (by decide +kernel))
theorem kmL_30 : kM kNm RL 30 yX5_lay := Or.inl (gw_mem (i := 1258) (by decide +kernel) (by decide +kernel))
theorem kNf_tbl : (kNf.zip kNfp).all (fun q => decide (lw_tbl[q.2]? = some (Cond.fieldLinkNest q.1.1 q.1.2.1 q.1.2.2.1 q.1.2.2.2.1 q.1.2.2.2.2 "DisplayMap"))) = true := by decide +kernel
theorem kNm_tbl : (kNm.zip kNmp).all (fun q => decide (lw_tbl[q.2]? = some (Cond.methodLinkNest q.1.1 q.1.2.1 q.1.2.2 "DisplayMap"))) = true := by decide +kernel
