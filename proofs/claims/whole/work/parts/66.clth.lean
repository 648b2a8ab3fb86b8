/-! ===== the law: its method, its links ===== -/
abbrev M_L_law : zM := (yL_law, cL_law, 7, (some .boolean), [], ⟨13, 601024, 7293033, 508⟩)
theorem okH_addGroup : zOkH M_L_addGroup := ⟨rfl, by decide +kernel, zgw_in (List.mem_of_getElem? (i := 623) (by decide +kernel)) rfl, zgw_in (List.mem_of_getElem? (i := 90) (by decide +kernel)) rfl, by decide +kernel, by decide +kernel⟩
theorem okH_addTask : zOkH M_L_addTask := ⟨rfl, by decide +kernel, zgw_in (List.mem_of_getElem? (i := 745) (by decide +kernel)) rfl, zgw_in (List.mem_of_getElem? (i := 90) (by decide +kernel)) rfl, by decide +kernel, by decide +kernel⟩
theorem okH_move : zOkH M_L_move := ⟨rfl, by decide +kernel, zgw_in (List.mem_of_getElem? (i := 754) (by decide +kernel)) rfl, zgw_in (List.mem_of_getElem? (i := 90) (by decide +kernel)) rfl, by decide +kernel, by decide +kernel⟩
theorem okH_remove : zOkH M_L_remove := ⟨rfl, by decide +kernel, zgw_in (List.mem_of_getElem? (i := 762) (by decide +kernel)) rfl, zgw_in (List.mem_of_getElem? (i := 90) (by decide +kernel)) rfl, by decide +kernel, by decide +kernel⟩
theorem okH_setDuration : zOkH M_L_setDuration := ⟨rfl, by decide +kernel, zgw_in (List.mem_of_getElem? (i := 771) (by decide +kernel)) rfl, zgw_in (List.mem_of_getElem? (i := 90) (by decide +kernel)) rfl, by decide +kernel, by decide +kernel⟩
theorem okH_borrow : zOkH M_L_borrow := ⟨rfl, by decide +kernel, zgw_in (List.mem_of_getElem? (i := 780) (by decide +kernel)) rfl, zgw_in (List.mem_of_getElem? (i := 90) (by decide +kernel)) rfl, by decide +kernel, by decide +kernel⟩
theorem okH_giveBack : zOkH M_L_giveBack := ⟨rfl, by decide +kernel, zgw_in (List.mem_of_getElem? (i := 789) (by decide +kernel)) rfl, zgw_in (List.mem_of_getElem? (i := 90) (by decide +kernel)) rfl, by decide +kernel, by decide +kernel⟩
theorem okH_setDeadline : zOkH M_L_setDeadline := ⟨rfl, by decide +kernel, zgw_in (List.mem_of_getElem? (i := 798) (by decide +kernel)) rfl, zgw_in (List.mem_of_getElem? (i := 90) (by decide +kernel)) rfl, by decide +kernel, by decide +kernel⟩
theorem okH_node : zOkH M_L_node := ⟨rfl, by decide +kernel, zgw_in (List.mem_of_getElem? (i := 806) (by decide +kernel)) rfl, zgw_in (List.mem_of_getElem? (i := 90) (by decide +kernel)) rfl, by decide +kernel, by decide +kernel⟩
theorem okH_row : zOkH M_L_row := ⟨rfl, by decide +kernel, zgw_in (List.mem_of_getElem? (i := 823) (by decide +kernel)) rfl, zgw_in (List.mem_of_getElem? (i := 90) (by decide +kernel)) rfl, by decide +kernel, by decide +kernel⟩
theorem okH_child : zOkH M_L_child := ⟨rfl, by decide +kernel, zgw_in (List.mem_of_getElem? (i := 835) (by decide +kernel)) rfl, zgw_in (List.mem_of_getElem? (i := 90) (by decide +kernel)) rfl, by decide +kernel, by decide +kernel⟩
theorem okH_critical : zOkH M_L_critical := ⟨rfl, by decide +kernel, zgw_in (List.mem_of_getElem? (i := 850) (by decide +kernel)) rfl, zgw_in (List.mem_of_getElem? (i := 90) (by decide +kernel)) rfl, by decide +kernel, by decide +kernel⟩
theorem okH_running : zOkH M_L_running := ⟨rfl, by decide +kernel, zgw_in (List.mem_of_getElem? (i := 861) (by decide +kernel)) rfl, zgw_in (List.mem_of_getElem? (i := 90) (by decide +kernel)) rfl, by decide +kernel, by decide +kernel⟩
theorem okH_whole : zOkH M_L_whole := ⟨rfl, by decide +kernel, zgw_in (List.mem_of_getElem? (i := 869) (by decide +kernel)) rfl, zgw_in (List.mem_of_getElem? (i := 90) (by decide +kernel)) rfl, by decide +kernel, by decide +kernel⟩
theorem okH_endWith : zOkH M_L_endWith := ⟨rfl, by decide +kernel, zgw_in (List.mem_of_getElem? (i := 876) (by decide +kernel)) rfl, zgw_in (List.mem_of_getElem? (i := 90) (by decide +kernel)) rfl, by decide +kernel, by decide +kernel⟩
theorem okH_growsTo : zOkH M_L_growsTo := ⟨rfl, by decide +kernel, zgw_in (List.mem_of_getElem? (i := 889) (by decide +kernel)) rfl, zgw_in (List.mem_of_getElem? (i := 90) (by decide +kernel)) rfl, by decide +kernel, by decide +kernel⟩
theorem okH_slackIf : zOkH M_L_slackIf := ⟨rfl, by decide +kernel, zgw_in (List.mem_of_getElem? (i := 900) (by decide +kernel)) rfl, zgw_in (List.mem_of_getElem? (i := 90) (by decide +kernel)) rfl, by decide +kernel, by decide +kernel⟩
theorem okH_reason : zOkH M_L_reason := ⟨rfl, by decide +kernel, zgw_in (List.mem_of_getElem? (i := 911) (by decide +kernel)) rfl, zgw_in (List.mem_of_getElem? (i := 90) (by decide +kernel)) rfl, by decide +kernel, by decide +kernel⟩
theorem okH_type : zOkH M_L_type := ⟨rfl, by decide +kernel, zgw_in (List.mem_of_getElem? (i := 919) (by decide +kernel)) rfl, zgw_in (List.mem_of_getElem? (i := 90) (by decide +kernel)) rfl, by decide +kernel, by decide +kernel⟩
theorem okH_undo : zOkH M_L_undo := ⟨rfl, by decide +kernel, zgw_in (List.mem_of_getElem? (i := 931) (by decide +kernel)) rfl, zgw_in (List.mem_of_getElem? (i := 90) (by decide +kernel)) rfl, by decide +kernel, by decide +kernel⟩
theorem lk_L_83 {y : zM} (hy : (zname y).cls = RL) : zLkS y M_L_addGroup 83 4 := by
  refine ⟨?_, zgw_in (List.mem_of_getElem? (i := 622) (by decide +kernel)) rfl, by decide +kernel⟩
  rw [hy]
  exact zgw_in (List.mem_of_getElem? (i := 621) (by decide +kernel)) rfl
theorem lk_L_88 {y : zM} (hy : (zname y).cls = RL) : zLkV y M_X7_addGroup 88 2 := by
  refine ⟨?_, zgw_in (List.mem_of_getElem? (i := 996) (by decide +kernel)) rfl, zgw_in (List.mem_of_getElem? (i := 997) (by decide +kernel)) rfl, by decide +kernel⟩
  rw [hy]
  exact zgw_in (List.mem_of_getElem? (i := 995) (by decide +kernel)) rfl
theorem lk_L_89 {y : zM} (hy : (zname y).cls = RL) : zLkV y M_X7_thrown 89 0 := by
  refine ⟨?_, zgw_in (List.mem_of_getElem? (i := 992) (by decide +kernel)) rfl, zgw_in (List.mem_of_getElem? (i := 993) (by decide +kernel)) rfl, by decide +kernel⟩
  rw [hy]
  exact zgw_in (List.mem_of_getElem? (i := 991) (by decide +kernel)) rfl
theorem lk_L_92 {y : zM} (hy : (zname y).cls = RL) : zLkS y M_L_addTask 92 5 := by
  refine ⟨?_, zgw_in (List.mem_of_getElem? (i := 744) (by decide +kernel)) rfl, by decide +kernel⟩
  rw [hy]
  exact zgw_in (List.mem_of_getElem? (i := 743) (by decide +kernel)) rfl
theorem lk_L_95 {y : zM} (hy : (zname y).cls = RL) : zLkV y M_X7_addTask 95 3 := by
  refine ⟨?_, zgw_in (List.mem_of_getElem? (i := 1047) (by decide +kernel)) rfl, zgw_in (List.mem_of_getElem? (i := 1048) (by decide +kernel)) rfl, by decide +kernel⟩
  rw [hy]
  exact zgw_in (List.mem_of_getElem? (i := 1046) (by decide +kernel)) rfl
theorem lk_L_96 {y : zM} (hy : (zname y).cls = RL) : zLkS y M_L_move 96 5 := by
  refine ⟨?_, zgw_in (List.mem_of_getElem? (i := 753) (by decide +kernel)) rfl, by decide +kernel⟩
  rw [hy]
  exact zgw_in (List.mem_of_getElem? (i := 752) (by decide +kernel)) rfl
theorem lk_L_98 {y : zM} (hy : (zname y).cls = RL) : zLkV y M_X7_move 98 3 := by
  refine ⟨?_, zgw_in (List.mem_of_getElem? (i := 1051) (by decide +kernel)) rfl, zgw_in (List.mem_of_getElem? (i := 1052) (by decide +kernel)) rfl, by decide +kernel⟩
  rw [hy]
  exact zgw_in (List.mem_of_getElem? (i := 1050) (by decide +kernel)) rfl
theorem lk_L_99 {y : zM} (hy : (zname y).cls = RL) : zLkS y M_L_remove 99 3 := by
  refine ⟨?_, zgw_in (List.mem_of_getElem? (i := 761) (by decide +kernel)) rfl, by decide +kernel⟩
  rw [hy]
  exact zgw_in (List.mem_of_getElem? (i := 760) (by decide +kernel)) rfl
theorem lk_L_102 {y : zM} (hy : (zname y).cls = RL) : zLkV y M_X7_remove 102 1 := by
  refine ⟨?_, zgw_in (List.mem_of_getElem? (i := 1075) (by decide +kernel)) rfl, zgw_in (List.mem_of_getElem? (i := 1076) (by decide +kernel)) rfl, by decide +kernel⟩
  rw [hy]
  exact zgw_in (List.mem_of_getElem? (i := 1074) (by decide +kernel)) rfl
theorem lk_L_103 {y : zM} (hy : (zname y).cls = RL) : zLkS y M_L_setDuration 103 4 := by
  refine ⟨?_, zgw_in (List.mem_of_getElem? (i := 770) (by decide +kernel)) rfl, by decide +kernel⟩
  rw [hy]
  exact zgw_in (List.mem_of_getElem? (i := 769) (by decide +kernel)) rfl
theorem lk_L_105 {y : zM} (hy : (zname y).cls = RL) : zLkV y M_X7_setDuration 105 2 := by
  refine ⟨?_, zgw_in (List.mem_of_getElem? (i := 1091) (by decide +kernel)) rfl, zgw_in (List.mem_of_getElem? (i := 1092) (by decide +kernel)) rfl, by decide +kernel⟩
  rw [hy]
  exact zgw_in (List.mem_of_getElem? (i := 1090) (by decide +kernel)) rfl
theorem lk_L_106 {y : zM} (hy : (zname y).cls = RL) : zLkS y M_L_borrow 106 4 := by
  refine ⟨?_, zgw_in (List.mem_of_getElem? (i := 779) (by decide +kernel)) rfl, by decide +kernel⟩
  rw [hy]
  exact zgw_in (List.mem_of_getElem? (i := 778) (by decide +kernel)) rfl
theorem lk_L_108 {y : zM} (hy : (zname y).cls = RL) : zLkV y M_X7_borrow 108 2 := by
  refine ⟨?_, zgw_in (List.mem_of_getElem? (i := 1131) (by decide +kernel)) rfl, zgw_in (List.mem_of_getElem? (i := 1132) (by decide +kernel)) rfl, by decide +kernel⟩
  rw [hy]
  exact zgw_in (List.mem_of_getElem? (i := 1130) (by decide +kernel)) rfl
theorem lk_L_109 {y : zM} (hy : (zname y).cls = RL) : zLkS y M_L_giveBack 109 4 := by
  refine ⟨?_, zgw_in (List.mem_of_getElem? (i := 788) (by decide +kernel)) rfl, by decide +kernel⟩
  rw [hy]
  exact zgw_in (List.mem_of_getElem? (i := 787) (by decide +kernel)) rfl
theorem lk_L_111 {y : zM} (hy : (zname y).cls = RL) : zLkV y M_X7_giveBack 111 2 := by
  refine ⟨?_, zgw_in (List.mem_of_getElem? (i := 1147) (by decide +kernel)) rfl, zgw_in (List.mem_of_getElem? (i := 1148) (by decide +kernel)) rfl, by decide +kernel⟩
  rw [hy]
  exact zgw_in (List.mem_of_getElem? (i := 1146) (by decide +kernel)) rfl
theorem lk_L_112 {y : zM} (hy : (zname y).cls = RL) : zLkS y M_L_setDeadline 112 3 := by
  refine ⟨?_, zgw_in (List.mem_of_getElem? (i := 797) (by decide +kernel)) rfl, by decide +kernel⟩
  rw [hy]
  exact zgw_in (List.mem_of_getElem? (i := 796) (by decide +kernel)) rfl
theorem lk_L_114 {y : zM} (hy : (zname y).cls = RL) : zLkV y M_X7_setDeadline 114 1 := by
  refine ⟨?_, zgw_in (List.mem_of_getElem? (i := 1155) (by decide +kernel)) rfl, zgw_in (List.mem_of_getElem? (i := 1156) (by decide +kernel)) rfl, by decide +kernel⟩
  rw [hy]
  exact zgw_in (List.mem_of_getElem? (i := 1154) (by decide +kernel)) rfl
theorem lk_L_115 {y : zM} (hy : (zname y).cls = RL) : zLkS y M_L_node 115 4 := by
  refine ⟨?_, zgw_in (List.mem_of_getElem? (i := 805) (by decide +kernel)) rfl, by decide +kernel⟩
  rw [hy]
  exact zgw_in (List.mem_of_getElem? (i := 804) (by decide +kernel)) rfl
theorem lk_L_117 {y : zM} (hy : (zname y).cls = RL) : zLkV y M_X7_node 117 2 := by
  refine ⟨?_, zgw_in (List.mem_of_getElem? (i := 1166) (by decide +kernel)) rfl, zgw_in (List.mem_of_getElem? (i := 1167) (by decide +kernel)) rfl, by decide +kernel⟩
  rw [hy]
  exact zgw_in (List.mem_of_getElem? (i := 1165) (by decide +kernel)) rfl
theorem lk_L_118 {y : zM} (hy : (zname y).cls = RL) : zLkS y M_L_row 118 5 := by
  refine ⟨?_, zgw_in (List.mem_of_getElem? (i := 822) (by decide +kernel)) rfl, by decide +kernel⟩
  rw [hy]
  exact zgw_in (List.mem_of_getElem? (i := 821) (by decide +kernel)) rfl
theorem lk_L_120 {y : zM} (hy : (zname y).cls = RL) : zLkV y M_X7_row 120 3 := by
  refine ⟨?_, zgw_in (List.mem_of_getElem? (i := 1174) (by decide +kernel)) rfl, zgw_in (List.mem_of_getElem? (i := 1175) (by decide +kernel)) rfl, by decide +kernel⟩
  rw [hy]
  exact zgw_in (List.mem_of_getElem? (i := 1173) (by decide +kernel)) rfl
theorem lk_L_121 {y : zM} (hy : (zname y).cls = RL) : zLkS y M_L_child 121 5 := by
  refine ⟨?_, zgw_in (List.mem_of_getElem? (i := 834) (by decide +kernel)) rfl, by decide +kernel⟩
  rw [hy]
  exact zgw_in (List.mem_of_getElem? (i := 833) (by decide +kernel)) rfl
theorem lk_L_123 {y : zM} (hy : (zname y).cls = RL) : zLkV y M_X7_child 123 3 := by
  refine ⟨?_, zgw_in (List.mem_of_getElem? (i := 1190) (by decide +kernel)) rfl, zgw_in (List.mem_of_getElem? (i := 1191) (by decide +kernel)) rfl, by decide +kernel⟩
  rw [hy]
  exact zgw_in (List.mem_of_getElem? (i := 1189) (by decide +kernel)) rfl
theorem lk_L_124 {y : zM} (hy : (zname y).cls = RL) : zLkS y M_L_critical 124 3 := by
  refine ⟨?_, zgw_in (List.mem_of_getElem? (i := 849) (by decide +kernel)) rfl, by decide +kernel⟩
  rw [hy]
  exact zgw_in (List.mem_of_getElem? (i := 848) (by decide +kernel)) rfl
theorem lk_L_126 {y : zM} (hy : (zname y).cls = RL) : zLkV y M_X7_critical 126 1 := by
  refine ⟨?_, zgw_in (List.mem_of_getElem? (i := 1194) (by decide +kernel)) rfl, zgw_in (List.mem_of_getElem? (i := 1195) (by decide +kernel)) rfl, by decide +kernel⟩
  rw [hy]
  exact zgw_in (List.mem_of_getElem? (i := 1193) (by decide +kernel)) rfl
theorem lk_L_127 {y : zM} (hy : (zname y).cls = RL) : zLkS y M_L_running 127 3 := by
  refine ⟨?_, zgw_in (List.mem_of_getElem? (i := 860) (by decide +kernel)) rfl, by decide +kernel⟩
  rw [hy]
  exact zgw_in (List.mem_of_getElem? (i := 859) (by decide +kernel)) rfl
theorem lk_L_129 {y : zM} (hy : (zname y).cls = RL) : zLkV y M_X7_running 129 1 := by
  refine ⟨?_, zgw_in (List.mem_of_getElem? (i := 1202) (by decide +kernel)) rfl, zgw_in (List.mem_of_getElem? (i := 1203) (by decide +kernel)) rfl, by decide +kernel⟩
  rw [hy]
  exact zgw_in (List.mem_of_getElem? (i := 1201) (by decide +kernel)) rfl
theorem lk_L_130 {y : zM} (hy : (zname y).cls = RL) : zLkS y M_L_whole 130 3 := by
  refine ⟨?_, zgw_in (List.mem_of_getElem? (i := 868) (by decide +kernel)) rfl, by decide +kernel⟩
  rw [hy]
  exact zgw_in (List.mem_of_getElem? (i := 867) (by decide +kernel)) rfl
theorem lk_L_132 {y : zM} (hy : (zname y).cls = RL) : zLkV y M_X7_whole 132 1 := by
  refine ⟨?_, zgw_in (List.mem_of_getElem? (i := 1210) (by decide +kernel)) rfl, zgw_in (List.mem_of_getElem? (i := 1211) (by decide +kernel)) rfl, by decide +kernel⟩
  rw [hy]
  exact zgw_in (List.mem_of_getElem? (i := 1209) (by decide +kernel)) rfl
theorem lk_L_133 {y : zM} (hy : (zname y).cls = RL) : zLkS y M_L_endWith 133 4 := by
  refine ⟨?_, zgw_in (List.mem_of_getElem? (i := 875) (by decide +kernel)) rfl, by decide +kernel⟩
  rw [hy]
  exact zgw_in (List.mem_of_getElem? (i := 874) (by decide +kernel)) rfl
theorem lk_L_135 {y : zM} (hy : (zname y).cls = RL) : zLkV y M_X7_endWith 135 2 := by
  refine ⟨?_, zgw_in (List.mem_of_getElem? (i := 1218) (by decide +kernel)) rfl, zgw_in (List.mem_of_getElem? (i := 1219) (by decide +kernel)) rfl, by decide +kernel⟩
  rw [hy]
  exact zgw_in (List.mem_of_getElem? (i := 1217) (by decide +kernel)) rfl
theorem lk_L_136 {y : zM} (hy : (zname y).cls = RL) : zLkS y M_L_growsTo 136 3 := by
  refine ⟨?_, zgw_in (List.mem_of_getElem? (i := 888) (by decide +kernel)) rfl, by decide +kernel⟩
  rw [hy]
  exact zgw_in (List.mem_of_getElem? (i := 887) (by decide +kernel)) rfl
theorem lk_L_138 {y : zM} (hy : (zname y).cls = RL) : zLkV y M_X7_growsTo 138 1 := by
  refine ⟨?_, zgw_in (List.mem_of_getElem? (i := 1234) (by decide +kernel)) rfl, zgw_in (List.mem_of_getElem? (i := 1235) (by decide +kernel)) rfl, by decide +kernel⟩
  rw [hy]
  exact zgw_in (List.mem_of_getElem? (i := 1233) (by decide +kernel)) rfl
theorem lk_L_139 {y : zM} (hy : (zname y).cls = RL) : zLkV y M_X6_bestCut 139 0 := by
  refine ⟨?_, zgw_in (List.mem_of_getElem? (i := 250) (by decide +kernel)) rfl, zgw_in (List.mem_of_getElem? (i := 251) (by decide +kernel)) rfl, by decide +kernel⟩
  rw [hy]
  exact zgw_in (List.mem_of_getElem? (i := 249) (by decide +kernel)) rfl
theorem lk_L_142 {y : zM} (hy : (zname y).cls = RL) : zLkV y M_X7_bestCut 142 0 := by
  refine ⟨?_, zgw_in (List.mem_of_getElem? (i := 1238) (by decide +kernel)) rfl, zgw_in (List.mem_of_getElem? (i := 1239) (by decide +kernel)) rfl, by decide +kernel⟩
  rw [hy]
  exact zgw_in (List.mem_of_getElem? (i := 1237) (by decide +kernel)) rfl
theorem lk_L_143 {y : zM} (hy : (zname y).cls = RL) : zLkS y M_L_slackIf 143 4 := by
  refine ⟨?_, zgw_in (List.mem_of_getElem? (i := 899) (by decide +kernel)) rfl, by decide +kernel⟩
  rw [hy]
  exact zgw_in (List.mem_of_getElem? (i := 898) (by decide +kernel)) rfl
theorem lk_L_145 {y : zM} (hy : (zname y).cls = RL) : zLkV y M_X7_slackIf 145 2 := by
  refine ⟨?_, zgw_in (List.mem_of_getElem? (i := 1246) (by decide +kernel)) rfl, zgw_in (List.mem_of_getElem? (i := 1247) (by decide +kernel)) rfl, by decide +kernel⟩
  rw [hy]
  exact zgw_in (List.mem_of_getElem? (i := 1245) (by decide +kernel)) rfl
theorem lk_L_146 {y : zM} (hy : (zname y).cls = RL) : zLkS y M_L_reason 146 4 := by
  refine ⟨?_, zgw_in (List.mem_of_getElem? (i := 910) (by decide +kernel)) rfl, by decide +kernel⟩
  rw [hy]
  exact zgw_in (List.mem_of_getElem? (i := 909) (by decide +kernel)) rfl
theorem lk_L_148 {y : zM} (hy : (zname y).cls = RL) : zLkV y M_X7_reason 148 2 := by
  refine ⟨?_, zgw_in (List.mem_of_getElem? (i := 1250) (by decide +kernel)) rfl, zgw_in (List.mem_of_getElem? (i := 1251) (by decide +kernel)) rfl, by decide +kernel⟩
  rw [hy]
  exact zgw_in (List.mem_of_getElem? (i := 1249) (by decide +kernel)) rfl
theorem lk_L_149 {y : zM} (hy : (zname y).cls = RL) : zLkS y M_L_type 149 3 := by
  refine ⟨?_, zgw_in (List.mem_of_getElem? (i := 918) (by decide +kernel)) rfl, by decide +kernel⟩
  rw [hy]
  exact zgw_in (List.mem_of_getElem? (i := 917) (by decide +kernel)) rfl
theorem lk_L_151 {y : zM} (hy : (zname y).cls = RL) : zLkV y M_X7_type 151 1 := by
  refine ⟨?_, zgw_in (List.mem_of_getElem? (i := 1254) (by decide +kernel)) rfl, zgw_in (List.mem_of_getElem? (i := 1255) (by decide +kernel)) rfl, by decide +kernel⟩
  rw [hy]
  exact zgw_in (List.mem_of_getElem? (i := 1253) (by decide +kernel)) rfl
theorem lk_L_152 {y : zM} (hy : (zname y).cls = RL) : zLkV y M_X6_clearCommands 152 0 := by
  refine ⟨?_, zgw_in (List.mem_of_getElem? (i := 285) (by decide +kernel)) rfl, zgw_in (List.mem_of_getElem? (i := 286) (by decide +kernel)) rfl, by decide +kernel⟩
  rw [hy]
  exact zgw_in (List.mem_of_getElem? (i := 284) (by decide +kernel)) rfl
theorem lk_L_155 {y : zM} (hy : (zname y).cls = RL) : zLkV y M_X7_clearCommands 155 0 := by
  refine ⟨?_, zgw_in (List.mem_of_getElem? (i := 1258) (by decide +kernel)) rfl, zgw_in (List.mem_of_getElem? (i := 1259) (by decide +kernel)) rfl, by decide +kernel⟩
  rw [hy]
  exact zgw_in (List.mem_of_getElem? (i := 1257) (by decide +kernel)) rfl
theorem lk_L_156 {y : zM} (hy : (zname y).cls = RL) : zLkV y M_X6_runCommands 156 0 := by
  refine ⟨?_, zgw_in (List.mem_of_getElem? (i := 289) (by decide +kernel)) rfl, zgw_in (List.mem_of_getElem? (i := 290) (by decide +kernel)) rfl, by decide +kernel⟩
  rw [hy]
  exact zgw_in (List.mem_of_getElem? (i := 288) (by decide +kernel)) rfl
theorem lk_L_159 {y : zM} (hy : (zname y).cls = RL) : zLkV y M_X7_runCommands 159 0 := by
  refine ⟨?_, zgw_in (List.mem_of_getElem? (i := 1262) (by decide +kernel)) rfl, zgw_in (List.mem_of_getElem? (i := 1263) (by decide +kernel)) rfl, by decide +kernel⟩
  rw [hy]
  exact zgw_in (List.mem_of_getElem? (i := 1261) (by decide +kernel)) rfl
theorem lk_L_160 {y : zM} (hy : (zname y).cls = RL) : zLkS y M_L_undo 160 2 := by
  refine ⟨?_, zgw_in (List.mem_of_getElem? (i := 930) (by decide +kernel)) rfl, by decide +kernel⟩
  rw [hy]
  exact zgw_in (List.mem_of_getElem? (i := 929) (by decide +kernel)) rfl
theorem lk_L_163 {y : zM} (hy : (zname y).cls = RL) : zLkV y M_X7_undo 163 0 := by
  refine ⟨?_, zgw_in (List.mem_of_getElem? (i := 1312) (by decide +kernel)) rfl, zgw_in (List.mem_of_getElem? (i := 1313) (by decide +kernel)) rfl, by decide +kernel⟩
  rw [hy]
  exact zgw_in (List.mem_of_getElem? (i := 1311) (by decide +kernel)) rfl
theorem lk_L_164 {y : zM} (hy : (zname y).cls = RL) : zLkV y M_X6_digest 164 0 := by
  refine ⟨?_, zgw_in (List.mem_of_getElem? (i := 520) (by decide +kernel)) rfl, zgw_in (List.mem_of_getElem? (i := 521) (by decide +kernel)) rfl, by decide +kernel⟩
  rw [hy]
  exact zgw_in (List.mem_of_getElem? (i := 519) (by decide +kernel)) rfl
theorem lk_L_168 {y : zM} (hy : (zname y).cls = RL) : zLkV y M_X7_digest 168 0 := by
  refine ⟨?_, zgw_in (List.mem_of_getElem? (i := 1316) (by decide +kernel)) rfl, zgw_in (List.mem_of_getElem? (i := 1317) (by decide +kernel)) rfl, by decide +kernel⟩
  rw [hy]
  exact zgw_in (List.mem_of_getElem? (i := 1315) (by decide +kernel)) rfl
