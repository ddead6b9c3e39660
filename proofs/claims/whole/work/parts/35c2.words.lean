theorem cw9_t : ∀ w ∈ CW9, w ∈ lw_tbl := (List.forall_mem_append.mpr ⟨c9_0, (List.forall_mem_append.mpr ⟨c9_1, (List.forall_mem_append.mpr ⟨c9_2, (List.forall_mem_append.mpr ⟨c9_3, (List.forall_mem_append.mpr ⟨c9_4, (List.forall_mem_append.mpr ⟨c9_5, (List.forall_mem_append.mpr ⟨c9_6, (List.forall_mem_append.mpr ⟨c9_7, (List.forall_mem_append.mpr ⟨c9_8, (List.forall_mem_append.mpr ⟨c9_9, (List.forall_mem_append.mpr ⟨c9_10, (List.forall_mem_append.mpr ⟨c9_11, (List.forall_mem_append.mpr ⟨c9_12, (List.forall_mem_append.mpr ⟨c9_13, (List.forall_mem_append.mpr ⟨c9_14, (List.forall_mem_append.mpr ⟨c9_15, (List.forall_mem_append.mpr ⟨c9_16, (List.forall_mem_append.mpr ⟨c9_17, (List.forall_mem_append.mpr ⟨c9_18, (List.forall_mem_append.mpr ⟨c9_19, (List.forall_mem_append.mpr ⟨c9_20, (List.forall_mem_append.mpr ⟨c9_21, (List.forall_mem_append.mpr ⟨c9_22, (List.forall_mem_append.mpr ⟨c9_23, (List.forall_mem_append.mpr ⟨c9_24, (List.forall_mem_append.mpr ⟨cu_X9, (List.forall_mem_append.mpr ⟨cu_X6, (List.forall_mem_append.mpr ⟨cu_X2, (List.forall_mem_append.mpr ⟨cu_X0, (List.forall_mem_append.mpr ⟨cu_X1, (List.forall_mem_append.mpr ⟨cu_X3, (List.forall_mem_append.mpr ⟨cu_X4, (List.forall_mem_append.mpr ⟨cu_X5, (List.forall_mem_append.mpr ⟨cu_X7, (List.forall_mem_append.mpr ⟨cu_X8, (List.forall_mem_append.mpr ⟨cx_I, cx_A⟩)⟩)⟩)⟩)⟩)⟩)⟩)⟩)⟩)⟩)⟩)⟩)⟩)⟩)⟩)⟩)⟩)⟩)⟩)⟩)⟩)⟩)⟩)⟩)⟩)⟩)⟩)⟩)⟩)⟩)⟩)⟩)⟩)⟩)⟩)⟩)
theorem cw10_t : ∀ w ∈ CW10, w ∈ lw_tbl := (List.forall_mem_append.mpr ⟨c10_0, (List.forall_mem_append.mpr ⟨c10_1, (List.forall_mem_append.mpr ⟨c10_2, (List.forall_mem_append.mpr ⟨c10_3, (List.forall_mem_append.mpr ⟨c10_4, (List.forall_mem_append.mpr ⟨c10_5, (List.forall_mem_append.mpr ⟨c10_6, (List.forall_mem_append.mpr ⟨c10_7, (List.forall_mem_append.mpr ⟨c10_8, (List.forall_mem_append.mpr ⟨c10_9, (List.forall_mem_append.mpr ⟨c10_10, (List.forall_mem_append.mpr ⟨c10_11, cu_X10⟩)⟩)⟩)⟩)⟩)⟩)⟩)⟩)⟩)⟩)⟩)⟩)
theorem cw9_L : ∀ w ∈ CW9, w ∈ CWL := fun w h => mL (cw9_t w h) (cw_g CW9_good h)
theorem cw10_L : ∀ w ∈ CW10, w ∈ CWL := fun w h => mL (cw10_t w h) (cw_g CW10_good h)
theorem iL9 : Cond.initialized RX9 ∈ CWL := (mL (List.mem_of_getElem? (i := 53) (by decide +kernel)) rfl)
theorem iL10 : Cond.initialized RX10 ∈ CWL := (mL (List.mem_of_getElem? (i := 64) (by decide +kernel)) rfl)
theorem iLL : Cond.initialized RL ∈ CWL := (mL (List.mem_of_getElem? (i := 52) (by decide +kernel)) rfl)
theorem cLI : Cond.classLink RL 13 "java/lang/IndexOutOfBoundsException" ∈ CWL := (mL (List.mem_of_getElem? (i := 648) (by decide +kernel)) rfl)
theorem cLA : Cond.classLink RL 15 "java/lang/IllegalArgumentException" ∈ CWL := (mL (List.mem_of_getElem? (i := 649) (by decide +kernel)) rfl)
theorem gw9_read : GoodIn CWL wvX9_read := gcons (mL (List.mem_of_getElem? (i := 653) (by decide +kernel)) rfl) cw9_L
theorem gl9_read : GoodIn CWL (wsV RL 7 RX9 yX9_read wvX9_read) := gV (mL (List.mem_of_getElem? (i := 650) (by decide +kernel)) rfl) (mL (List.mem_of_getElem? (i := 651) (by decide +kernel)) rfl) (mL (List.mem_of_getElem? (i := 652) (by decide +kernel)) rfl) iL9 gw9_read
theorem gw9_lost : GoodIn CWL wvX9_lost := gcons (mL (List.mem_of_getElem? (i := 699) (by decide +kernel)) rfl) cw9_L
theorem gl9_lost : GoodIn CWL (wsV RL 17 RX9 yX9_lost wvX9_lost) := gV (mL (List.mem_of_getElem? (i := 696) (by decide +kernel)) rfl) (mL (List.mem_of_getElem? (i := 697) (by decide +kernel)) rfl) (mL (List.mem_of_getElem? (i := 698) (by decide +kernel)) rfl) iL9 gw9_lost
theorem gw9_at : GoodIn CWL wvX9_at := gcons (mL (List.mem_of_getElem? (i := 710) (by decide +kernel)) rfl) cw9_L
theorem gl9_at : GoodIn CWL (wsV RL 20 RX9 yX9_at wvX9_at) := gV (mL (List.mem_of_getElem? (i := 707) (by decide +kernel)) rfl) (mL (List.mem_of_getElem? (i := 708) (by decide +kernel)) rfl) (mL (List.mem_of_getElem? (i := 709) (by decide +kernel)) rfl) iL9 gw9_at
theorem gw9_shift : GoodIn CWL wvX9_shift := gcons (mL (List.mem_of_getElem? (i := 718) (by decide +kernel)) rfl) cw9_L
theorem gl9_shift : GoodIn CWL (wsV RL 23 RX9 yX9_shift wvX9_shift) := gV (mL (List.mem_of_getElem? (i := 715) (by decide +kernel)) rfl) (mL (List.mem_of_getElem? (i := 716) (by decide +kernel)) rfl) (mL (List.mem_of_getElem? (i := 717) (by decide +kernel)) rfl) iL9 gw9_shift
theorem gw9_jump : GoodIn CWL wvX9_jump := gcons (mL (List.mem_of_getElem? (i := 737) (by decide +kernel)) rfl) cw9_L
theorem gl9_jump : GoodIn CWL (wsV RL 27 RX9 yX9_jump wvX9_jump) := gV (mL (List.mem_of_getElem? (i := 734) (by decide +kernel)) rfl) (mL (List.mem_of_getElem? (i := 735) (by decide +kernel)) rfl) (mL (List.mem_of_getElem? (i := 736) (by decide +kernel)) rfl) iL9 gw9_jump
theorem gw9_joined : GoodIn CWL wvX9_joined := gcons (mL (List.mem_of_getElem? (i := 754) (by decide +kernel)) rfl) cw9_L
theorem gl9_joined : GoodIn CWL (wsV RL 30 RX9 yX9_joined wvX9_joined) := gV (mL (List.mem_of_getElem? (i := 751) (by decide +kernel)) rfl) (mL (List.mem_of_getElem? (i := 752) (by decide +kernel)) rfl) (mL (List.mem_of_getElem? (i := 753) (by decide +kernel)) rfl) iL9 gw9_joined
theorem gw9_end : GoodIn CWL wvX9_end := gcons (mL (List.mem_of_getElem? (i := 762) (by decide +kernel)) rfl) cw9_L
theorem gl9_end : GoodIn CWL (wsV RL 34 RX9 yX9_end wvX9_end) := gV (mL (List.mem_of_getElem? (i := 759) (by decide +kernel)) rfl) (mL (List.mem_of_getElem? (i := 760) (by decide +kernel)) rfl) (mL (List.mem_of_getElem? (i := 761) (by decide +kernel)) rfl) iL9 gw9_end
theorem gw9_measure : GoodIn CWL wvX9_measure := gcons (mL (List.mem_of_getElem? (i := 769) (by decide +kernel)) rfl) cw9_L
theorem gl9_measure : GoodIn CWL (wsV RL 38 RX9 yX9_measure wvX9_measure) := gV (mL (List.mem_of_getElem? (i := 766) (by decide +kernel)) rfl) (mL (List.mem_of_getElem? (i := 767) (by decide +kernel)) rfl) (mL (List.mem_of_getElem? (i := 768) (by decide +kernel)) rfl) iL9 gw9_measure
theorem gw9_told : GoodIn CWL wvX9_told := gcons (mL (List.mem_of_getElem? (i := 787) (by decide +kernel)) rfl) cw9_L
theorem gl9_told : GoodIn CWL (wsV RL 42 RX9 yX9_told wvX9_told) := gV (mL (List.mem_of_getElem? (i := 784) (by decide +kernel)) rfl) (mL (List.mem_of_getElem? (i := 785) (by decide +kernel)) rfl) (mL (List.mem_of_getElem? (i := 786) (by decide +kernel)) rfl) iL9 gw9_told
theorem gw9_pieces : GoodIn CWL wvX9_pieces := gcons (mL (List.mem_of_getElem? (i := 796) (by decide +kernel)) rfl) cw9_L
theorem gl9_pieces : GoodIn CWL (wsV RL 45 RX9 yX9_pieces wvX9_pieces) := gV (mL (List.mem_of_getElem? (i := 793) (by decide +kernel)) rfl) (mL (List.mem_of_getElem? (i := 794) (by decide +kernel)) rfl) (mL (List.mem_of_getElem? (i := 795) (by decide +kernel)) rfl) iL9 gw9_pieces
theorem gw9_piece : GoodIn CWL wvX9_piece := gcons (mL (List.mem_of_getElem? (i := 807) (by decide +kernel)) rfl) cw9_L
theorem gl9_piece : GoodIn CWL (wsV RL 48 RX9 yX9_piece wvX9_piece) := gV (mL (List.mem_of_getElem? (i := 804) (by decide +kernel)) rfl) (mL (List.mem_of_getElem? (i := 805) (by decide +kernel)) rfl) (mL (List.mem_of_getElem? (i := 806) (by decide +kernel)) rfl) iL9 gw9_piece
theorem gw9_baseline : GoodIn CWL wvX9_baseline := gcons (mL (List.mem_of_getElem? (i := 818) (by decide +kernel)) rfl) cw9_L
theorem gl9_baseline : GoodIn CWL (wsV RL 51 RX9 yX9_baseline wvX9_baseline) := gV (mL (List.mem_of_getElem? (i := 815) (by decide +kernel)) rfl) (mL (List.mem_of_getElem? (i := 816) (by decide +kernel)) rfl) (mL (List.mem_of_getElem? (i := 817) (by decide +kernel)) rfl) iL9 gw9_baseline
theorem gw9_value : GoodIn CWL wvX9_value := gcons (mL (List.mem_of_getElem? (i := 826) (by decide +kernel)) rfl) cw9_L
theorem gl9_value : GoodIn CWL (wsV RL 54 RX9 yX9_value wvX9_value) := gV (mL (List.mem_of_getElem? (i := 823) (by decide +kernel)) rfl) (mL (List.mem_of_getElem? (i := 824) (by decide +kernel)) rfl) (mL (List.mem_of_getElem? (i := 825) (by decide +kernel)) rfl) iL9 gw9_value
theorem gw9_feed : GoodIn CWL wvX9_feed := gcons (mL (List.mem_of_getElem? (i := 367) (by decide +kernel)) rfl) cw9_L
theorem gl9_feed : GoodIn CWL (wsV RL 129 RX9 yX9_feed wvX9_feed) := gV (mL (List.mem_of_getElem? (i := 364) (by decide +kernel)) rfl) (mL (List.mem_of_getElem? (i := 365) (by decide +kernel)) rfl) (mL (List.mem_of_getElem? (i := 366) (by decide +kernel)) rfl) iL9 gw9_feed
theorem gw9_rule : GoodIn CWL wvX9_rule := gcons (mL (List.mem_of_getElem? (i := 834) (by decide +kernel)) rfl) cw9_L
theorem gl9_rule : GoodIn CWL (wsV RL 57 RX9 yX9_rule wvX9_rule) := gV (mL (List.mem_of_getElem? (i := 831) (by decide +kernel)) rfl) (mL (List.mem_of_getElem? (i := 832) (by decide +kernel)) rfl) (mL (List.mem_of_getElem? (i := 833) (by decide +kernel)) rfl) iL9 gw9_rule
theorem gw9_fault : GoodIn CWL wvX9_fault := gcons (mL (List.mem_of_getElem? (i := 383) (by decide +kernel)) rfl) cw9_L
theorem gl9_fault : GoodIn CWL (wsV RL 137 RX9 yX9_fault wvX9_fault) := gV (mL (List.mem_of_getElem? (i := 380) (by decide +kernel)) rfl) (mL (List.mem_of_getElem? (i := 381) (by decide +kernel)) rfl) (mL (List.mem_of_getElem? (i := 382) (by decide +kernel)) rfl) iL9 gw9_fault
theorem gw9_train : GoodIn CWL wvX9_train := gcons (mL (List.mem_of_getElem? (i := 971) (by decide +kernel)) rfl) cw9_L
theorem gl9_train : GoodIn CWL (wsV RL 60 RX9 yX9_train wvX9_train) := gV (mL (List.mem_of_getElem? (i := 968) (by decide +kernel)) rfl) (mL (List.mem_of_getElem? (i := 969) (by decide +kernel)) rfl) (mL (List.mem_of_getElem? (i := 970) (by decide +kernel)) rfl) iL9 gw9_train
theorem gw9_range : GoodIn CWL wvX9_range := gcons (mL (List.mem_of_getElem? (i := 983) (by decide +kernel)) rfl) cw9_L
theorem gl9_range : GoodIn CWL (wsV RL 63 RX9 yX9_range wvX9_range) := gV (mL (List.mem_of_getElem? (i := 980) (by decide +kernel)) rfl) (mL (List.mem_of_getElem? (i := 981) (by decide +kernel)) rfl) (mL (List.mem_of_getElem? (i := 982) (by decide +kernel)) rfl) iL9 gw9_range
theorem gw9_index : GoodIn CWL wvX9_index := gcons (mL (List.mem_of_getElem? (i := 391) (by decide +kernel)) rfl) cw9_L
theorem gl9_index : GoodIn CWL (wsV RL 147 RX9 yX9_index wvX9_index) := gV (mL (List.mem_of_getElem? (i := 388) (by decide +kernel)) rfl) (mL (List.mem_of_getElem? (i := 389) (by decide +kernel)) rfl) (mL (List.mem_of_getElem? (i := 390) (by decide +kernel)) rfl) iL9 gw9_index
theorem gw9_storm : GoodIn CWL wvX9_storm := gcons (mL (List.mem_of_getElem? (i := 991) (by decide +kernel)) rfl) cw9_L
theorem gl9_storm : GoodIn CWL (wsV RL 66 RX9 yX9_storm wvX9_storm) := gV (mL (List.mem_of_getElem? (i := 988) (by decide +kernel)) rfl) (mL (List.mem_of_getElem? (i := 989) (by decide +kernel)) rfl) (mL (List.mem_of_getElem? (i := 990) (by decide +kernel)) rfl) iL9 gw9_storm
theorem gw9_quiet : GoodIn CWL wvX9_quiet := gcons (mL (List.mem_of_getElem? (i := 624) (by decide +kernel)) rfl) cw9_L
theorem gl9_quiet : GoodIn CWL (wsV RL 154 RX9 yX9_quiet wvX9_quiet) := gV (mL (List.mem_of_getElem? (i := 621) (by decide +kernel)) rfl) (mL (List.mem_of_getElem? (i := 622) (by decide +kernel)) rfl) (mL (List.mem_of_getElem? (i := 623) (by decide +kernel)) rfl) iL9 gw9_quiet
theorem gw9_publish : GoodIn CWL wvX9_publish := gcons (mL (List.mem_of_getElem? (i := 632) (by decide +kernel)) rfl) cw9_L
theorem gl9_publish : GoodIn CWL (wsV RL 158 RX9 yX9_publish wvX9_publish) := gV (mL (List.mem_of_getElem? (i := 629) (by decide +kernel)) rfl) (mL (List.mem_of_getElem? (i := 630) (by decide +kernel)) rfl) (mL (List.mem_of_getElem? (i := 631) (by decide +kernel)) rfl) iL9 gw9_publish
theorem gw9_changed : GoodIn CWL wvX9_changed := gcons (mL (List.mem_of_getElem? (i := 1008) (by decide +kernel)) rfl) cw9_L
theorem gl9_changed : GoodIn CWL (wsV RL 69 RX9 yX9_changed wvX9_changed) := gV (mL (List.mem_of_getElem? (i := 1005) (by decide +kernel)) rfl) (mL (List.mem_of_getElem? (i := 1006) (by decide +kernel)) rfl) (mL (List.mem_of_getElem? (i := 1007) (by decide +kernel)) rfl) iL9 gw9_changed
theorem gw9_published : GoodIn CWL wvX9_published := gcons (mL (List.mem_of_getElem? (i := 1023) (by decide +kernel)) rfl) cw9_L
theorem gl9_published : GoodIn CWL (wsV RL 72 RX9 yX9_published wvX9_published) := gV (mL (List.mem_of_getElem? (i := 1020) (by decide +kernel)) rfl) (mL (List.mem_of_getElem? (i := 1021) (by decide +kernel)) rfl) (mL (List.mem_of_getElem? (i := 1022) (by decide +kernel)) rfl) iL9 gw9_published
theorem gw9_count : GoodIn CWL wvX9_count := gcons (mL (List.mem_of_getElem? (i := 640) (by decide +kernel)) rfl) cw9_L
theorem gl9_count : GoodIn CWL (wsV RL 168 RX9 yX9_count wvX9_count) := gV (mL (List.mem_of_getElem? (i := 637) (by decide +kernel)) rfl) (mL (List.mem_of_getElem? (i := 638) (by decide +kernel)) rfl) (mL (List.mem_of_getElem? (i := 639) (by decide +kernel)) rfl) iL9 gw9_count
theorem gw10_read : GoodIn CWL wvX10_read := gcons (mL (List.mem_of_getElem? (i := 1205) (by decide +kernel)) rfl) cw10_L
theorem gl10_read : GoodIn CWL (wsV RL 84 RX10 yX10_read wvX10_read) := gV (mL (List.mem_of_getElem? (i := 1202) (by decide +kernel)) rfl) (mL (List.mem_of_getElem? (i := 1203) (by decide +kernel)) rfl) (mL (List.mem_of_getElem? (i := 1204) (by decide +kernel)) rfl) iL10 gw10_read
theorem gw10_lost : GoodIn CWL wvX10_lost := gcons (mL (List.mem_of_getElem? (i := 1224) (by decide +kernel)) rfl) cw10_L
theorem gl10_lost : GoodIn CWL (wsV RL 91 RX10 yX10_lost wvX10_lost) := gV (mL (List.mem_of_getElem? (i := 1221) (by decide +kernel)) rfl) (mL (List.mem_of_getElem? (i := 1222) (by decide +kernel)) rfl) (mL (List.mem_of_getElem? (i := 1223) (by decide +kernel)) rfl) iL10 gw10_lost
theorem gw10_at : GoodIn CWL wvX10_at := gcons (mL (List.mem_of_getElem? (i := 1228) (by decide +kernel)) rfl) cw10_L
theorem gl10_at : GoodIn CWL (wsV RL 94 RX10 yX10_at wvX10_at) := gV (mL (List.mem_of_getElem? (i := 1225) (by decide +kernel)) rfl) (mL (List.mem_of_getElem? (i := 1226) (by decide +kernel)) rfl) (mL (List.mem_of_getElem? (i := 1227) (by decide +kernel)) rfl) iL10 gw10_at
theorem gw10_shift : GoodIn CWL wvX10_shift := gcons (mL (List.mem_of_getElem? (i := 1236) (by decide +kernel)) rfl) cw10_L
theorem gl10_shift : GoodIn CWL (wsV RL 98 RX10 yX10_shift wvX10_shift) := gV (mL (List.mem_of_getElem? (i := 1233) (by decide +kernel)) rfl) (mL (List.mem_of_getElem? (i := 1234) (by decide +kernel)) rfl) (mL (List.mem_of_getElem? (i := 1235) (by decide +kernel)) rfl) iL10 gw10_shift
theorem gw10_jump : GoodIn CWL wvX10_jump := gcons (mL (List.mem_of_getElem? (i := 1242) (by decide +kernel)) rfl) cw10_L
theorem gl10_jump : GoodIn CWL (wsV RL 101 RX10 yX10_jump wvX10_jump) := gV (mL (List.mem_of_getElem? (i := 1239) (by decide +kernel)) rfl) (mL (List.mem_of_getElem? (i := 1240) (by decide +kernel)) rfl) (mL (List.mem_of_getElem? (i := 1241) (by decide +kernel)) rfl) iL10 gw10_jump
theorem gw10_joined : GoodIn CWL wvX10_joined := gcons (mL (List.mem_of_getElem? (i := 1253) (by decide +kernel)) rfl) cw10_L
theorem gl10_joined : GoodIn CWL (wsV RL 105 RX10 yX10_joined wvX10_joined) := gV (mL (List.mem_of_getElem? (i := 1250) (by decide +kernel)) rfl) (mL (List.mem_of_getElem? (i := 1251) (by decide +kernel)) rfl) (mL (List.mem_of_getElem? (i := 1252) (by decide +kernel)) rfl) iL10 gw10_joined
theorem gw10_end : GoodIn CWL wvX10_end := gcons (mL (List.mem_of_getElem? (i := 1265) (by decide +kernel)) rfl) cw10_L
theorem gl10_end : GoodIn CWL (wsV RL 109 RX10 yX10_end wvX10_end) := gV (mL (List.mem_of_getElem? (i := 1262) (by decide +kernel)) rfl) (mL (List.mem_of_getElem? (i := 1263) (by decide +kernel)) rfl) (mL (List.mem_of_getElem? (i := 1264) (by decide +kernel)) rfl) iL10 gw10_end
theorem gw10_measure : GoodIn CWL wvX10_measure := gcons (mL (List.mem_of_getElem? (i := 1269) (by decide +kernel)) rfl) cw10_L
theorem gl10_measure : GoodIn CWL (wsV RL 113 RX10 yX10_measure wvX10_measure) := gV (mL (List.mem_of_getElem? (i := 1266) (by decide +kernel)) rfl) (mL (List.mem_of_getElem? (i := 1267) (by decide +kernel)) rfl) (mL (List.mem_of_getElem? (i := 1268) (by decide +kernel)) rfl) iL10 gw10_measure
theorem gw10_told : GoodIn CWL wvX10_told := gcons (mL (List.mem_of_getElem? (i := 1278) (by decide +kernel)) rfl) cw10_L
theorem gl10_told : GoodIn CWL (wsV RL 116 RX10 yX10_told wvX10_told) := gV (mL (List.mem_of_getElem? (i := 1275) (by decide +kernel)) rfl) (mL (List.mem_of_getElem? (i := 1276) (by decide +kernel)) rfl) (mL (List.mem_of_getElem? (i := 1277) (by decide +kernel)) rfl) iL10 gw10_told
theorem gw10_pieces : GoodIn CWL wvX10_pieces := gcons (mL (List.mem_of_getElem? (i := 1282) (by decide +kernel)) rfl) cw10_L
theorem gl10_pieces : GoodIn CWL (wsV RL 119 RX10 yX10_pieces wvX10_pieces) := gV (mL (List.mem_of_getElem? (i := 1279) (by decide +kernel)) rfl) (mL (List.mem_of_getElem? (i := 1280) (by decide +kernel)) rfl) (mL (List.mem_of_getElem? (i := 1281) (by decide +kernel)) rfl) iL10 gw10_pieces
theorem gw10_piece : GoodIn CWL wvX10_piece := gcons (mL (List.mem_of_getElem? (i := 1306) (by decide +kernel)) rfl) cw10_L
theorem gl10_piece : GoodIn CWL (wsV RL 122 RX10 yX10_piece wvX10_piece) := gV (mL (List.mem_of_getElem? (i := 1303) (by decide +kernel)) rfl) (mL (List.mem_of_getElem? (i := 1304) (by decide +kernel)) rfl) (mL (List.mem_of_getElem? (i := 1305) (by decide +kernel)) rfl) iL10 gw10_piece
theorem gw10_baseline : GoodIn CWL wvX10_baseline := gcons (mL (List.mem_of_getElem? (i := 1310) (by decide +kernel)) rfl) cw10_L
theorem gl10_baseline : GoodIn CWL (wsV RL 125 RX10 yX10_baseline wvX10_baseline) := gV (mL (List.mem_of_getElem? (i := 1307) (by decide +kernel)) rfl) (mL (List.mem_of_getElem? (i := 1308) (by decide +kernel)) rfl) (mL (List.mem_of_getElem? (i := 1309) (by decide +kernel)) rfl) iL10 gw10_baseline
theorem gw10_value : GoodIn CWL wvX10_value := gcons (mL (List.mem_of_getElem? (i := 1323) (by decide +kernel)) rfl) cw10_L
theorem gl10_value : GoodIn CWL (wsV RL 128 RX10 yX10_value wvX10_value) := gV (mL (List.mem_of_getElem? (i := 1320) (by decide +kernel)) rfl) (mL (List.mem_of_getElem? (i := 1321) (by decide +kernel)) rfl) (mL (List.mem_of_getElem? (i := 1322) (by decide +kernel)) rfl) iL10 gw10_value
theorem gw10_feed : GoodIn CWL wvX10_feed := gcons (mL (List.mem_of_getElem? (i := 1331) (by decide +kernel)) rfl) cw10_L
theorem gl10_feed : GoodIn CWL (wsV RL 133 RX10 yX10_feed wvX10_feed) := gV (mL (List.mem_of_getElem? (i := 1328) (by decide +kernel)) rfl) (mL (List.mem_of_getElem? (i := 1329) (by decide +kernel)) rfl) (mL (List.mem_of_getElem? (i := 1330) (by decide +kernel)) rfl) iL10 gw10_feed
theorem gw10_rule : GoodIn CWL wvX10_rule := gcons (mL (List.mem_of_getElem? (i := 1335) (by decide +kernel)) rfl) cw10_L
theorem gl10_rule : GoodIn CWL (wsV RL 136 RX10 yX10_rule wvX10_rule) := gV (mL (List.mem_of_getElem? (i := 1332) (by decide +kernel)) rfl) (mL (List.mem_of_getElem? (i := 1333) (by decide +kernel)) rfl) (mL (List.mem_of_getElem? (i := 1334) (by decide +kernel)) rfl) iL10 gw10_rule
theorem gw10_fault : GoodIn CWL wvX10_fault := gcons (mL (List.mem_of_getElem? (i := 1382) (by decide +kernel)) rfl) cw10_L
theorem gl10_fault : GoodIn CWL (wsV RL 140 RX10 yX10_fault wvX10_fault) := gV (mL (List.mem_of_getElem? (i := 1379) (by decide +kernel)) rfl) (mL (List.mem_of_getElem? (i := 1380) (by decide +kernel)) rfl) (mL (List.mem_of_getElem? (i := 1381) (by decide +kernel)) rfl) iL10 gw10_fault
theorem gw10_train : GoodIn CWL wvX10_train := gcons (mL (List.mem_of_getElem? (i := 1386) (by decide +kernel)) rfl) cw10_L
theorem gl10_train : GoodIn CWL (wsV RL 143 RX10 yX10_train wvX10_train) := gV (mL (List.mem_of_getElem? (i := 1383) (by decide +kernel)) rfl) (mL (List.mem_of_getElem? (i := 1384) (by decide +kernel)) rfl) (mL (List.mem_of_getElem? (i := 1385) (by decide +kernel)) rfl) iL10 gw10_train
theorem gw10_range : GoodIn CWL wvX10_range := gcons (mL (List.mem_of_getElem? (i := 1390) (by decide +kernel)) rfl) cw10_L
theorem gl10_range : GoodIn CWL (wsV RL 146 RX10 yX10_range wvX10_range) := gV (mL (List.mem_of_getElem? (i := 1387) (by decide +kernel)) rfl) (mL (List.mem_of_getElem? (i := 1388) (by decide +kernel)) rfl) (mL (List.mem_of_getElem? (i := 1389) (by decide +kernel)) rfl) iL10 gw10_range
theorem gw10_index : GoodIn CWL wvX10_index := gcons (mL (List.mem_of_getElem? (i := 1410) (by decide +kernel)) rfl) cw10_L
theorem gl10_index : GoodIn CWL (wsV RL 150 RX10 yX10_index wvX10_index) := gV (mL (List.mem_of_getElem? (i := 1407) (by decide +kernel)) rfl) (mL (List.mem_of_getElem? (i := 1408) (by decide +kernel)) rfl) (mL (List.mem_of_getElem? (i := 1409) (by decide +kernel)) rfl) iL10 gw10_index
theorem gw10_storm : GoodIn CWL wvX10_storm := gcons (mL (List.mem_of_getElem? (i := 1422) (by decide +kernel)) rfl) cw10_L
theorem gl10_storm : GoodIn CWL (wsV RL 153 RX10 yX10_storm wvX10_storm) := gV (mL (List.mem_of_getElem? (i := 1419) (by decide +kernel)) rfl) (mL (List.mem_of_getElem? (i := 1420) (by decide +kernel)) rfl) (mL (List.mem_of_getElem? (i := 1421) (by decide +kernel)) rfl) iL10 gw10_storm
theorem gw10_quiet : GoodIn CWL wvX10_quiet := gcons (mL (List.mem_of_getElem? (i := 1430) (by decide +kernel)) rfl) cw10_L
theorem gl10_quiet : GoodIn CWL (wsV RL 157 RX10 yX10_quiet wvX10_quiet) := gV (mL (List.mem_of_getElem? (i := 1427) (by decide +kernel)) rfl) (mL (List.mem_of_getElem? (i := 1428) (by decide +kernel)) rfl) (mL (List.mem_of_getElem? (i := 1429) (by decide +kernel)) rfl) iL10 gw10_quiet
theorem gw10_publish : GoodIn CWL wvX10_publish := gcons (mL (List.mem_of_getElem? (i := 1434) (by decide +kernel)) rfl) cw10_L
theorem gl10_publish : GoodIn CWL (wsV RL 161 RX10 yX10_publish wvX10_publish) := gV (mL (List.mem_of_getElem? (i := 1431) (by decide +kernel)) rfl) (mL (List.mem_of_getElem? (i := 1432) (by decide +kernel)) rfl) (mL (List.mem_of_getElem? (i := 1433) (by decide +kernel)) rfl) iL10 gw10_publish
theorem gw10_changed : GoodIn CWL wvX10_changed := gcons (mL (List.mem_of_getElem? (i := 1438) (by decide +kernel)) rfl) cw10_L
theorem gl10_changed : GoodIn CWL (wsV RL 164 RX10 yX10_changed wvX10_changed) := gV (mL (List.mem_of_getElem? (i := 1435) (by decide +kernel)) rfl) (mL (List.mem_of_getElem? (i := 1436) (by decide +kernel)) rfl) (mL (List.mem_of_getElem? (i := 1437) (by decide +kernel)) rfl) iL10 gw10_changed
theorem gw10_published : GoodIn CWL wvX10_published := gcons (mL (List.mem_of_getElem? (i := 1442) (by decide +kernel)) rfl) cw10_L
theorem gl10_published : GoodIn CWL (wsV RL 167 RX10 yX10_published wvX10_published) := gV (mL (List.mem_of_getElem? (i := 1439) (by decide +kernel)) rfl) (mL (List.mem_of_getElem? (i := 1440) (by decide +kernel)) rfl) (mL (List.mem_of_getElem? (i := 1441) (by decide +kernel)) rfl) iL10 gw10_published
theorem gw10_count : GoodIn CWL wvX10_count := gcons (mL (List.mem_of_getElem? (i := 1446) (by decide +kernel)) rfl) cw10_L
theorem gl10_count : GoodIn CWL (wsV RL 171 RX10 yX10_count wvX10_count) := gV (mL (List.mem_of_getElem? (i := 1443) (by decide +kernel)) rfl) (mL (List.mem_of_getElem? (i := 1444) (by decide +kernel)) rfl) (mL (List.mem_of_getElem? (i := 1445) (by decide +kernel)) rfl) iL10 gw10_count
theorem gw10_thrown : GoodIn CWL wvX10_thrown := gcons (mL (List.mem_of_getElem? (i := 1201) (by decide +kernel)) rfl) cw10_L
theorem gl10_thrown : GoodIn CWL (wsV RL 85 RX10 yX10_thrown wvX10_thrown) := gV (mL (List.mem_of_getElem? (i := 1198) (by decide +kernel)) rfl) (mL (List.mem_of_getElem? (i := 1199) (by decide +kernel)) rfl) (mL (List.mem_of_getElem? (i := 1200) (by decide +kernel)) rfl) iL10 gw10_thrown
def wvL_read : List Cond := .codeWith yL_read cL_read 6 (some .int) [(0, 12, 15, 13), (0, 12, 19, 15)] :: CWL
theorem gsL_read : GoodIn CWL (va_wsS RL 79 yL_read wvL_read) := gS (mL (List.mem_of_getElem? (i := 645) (by decide +kernel)) rfl) (mL (List.mem_of_getElem? (i := 646) (by decide +kernel)) rfl) iLL (gcons (mL (List.mem_of_getElem? (i := 647) (by decide +kernel)) rfl) (fun _ h => h))
def wvL_lost : List Cond := .codeWith yL_lost cL_lost 6 (some .int) [(0, 12, 15, 13), (0, 12, 19, 15)] :: CWL
theorem gsL_lost : GoodIn CWL (va_wsS RL 89 yL_lost wvL_lost) := gS (mL (List.mem_of_getElem? (i := 693) (by decide +kernel)) rfl) (mL (List.mem_of_getElem? (i := 694) (by decide +kernel)) rfl) iLL (gcons (mL (List.mem_of_getElem? (i := 695) (by decide +kernel)) rfl) (fun _ h => h))
def wvL_at : List Cond := .codeWith yL_at cL_at 6 (some .int) [(0, 12, 15, 13)] :: CWL
theorem gsL_at : GoodIn CWL (va_wsS RL 92 yL_at wvL_at) := gS (mL (List.mem_of_getElem? (i := 704) (by decide +kernel)) rfl) (mL (List.mem_of_getElem? (i := 705) (by decide +kernel)) rfl) iLL (gcons (mL (List.mem_of_getElem? (i := 706) (by decide +kernel)) rfl) (fun _ h => h))
def wvL_shift : List Cond := .codeWith yL_shift cL_shift 7 (some .int) [(0, 14, 17, 13), (0, 14, 21, 15)] :: CWL
theorem gsL_shift : GoodIn CWL (va_wsS RL 95 yL_shift wvL_shift) := gS (mL (List.mem_of_getElem? (i := 712) (by decide +kernel)) rfl) (mL (List.mem_of_getElem? (i := 713) (by decide +kernel)) rfl) iLL (gcons (mL (List.mem_of_getElem? (i := 714) (by decide +kernel)) rfl) (fun _ h => h))
def wvL_jump : List Cond := .codeWith yL_jump cL_jump 6 (some .int) [(0, 12, 15, 13)] :: CWL
theorem gsL_jump : GoodIn CWL (va_wsS RL 99 yL_jump wvL_jump) := gS (mL (List.mem_of_getElem? (i := 731) (by decide +kernel)) rfl) (mL (List.mem_of_getElem? (i := 732) (by decide +kernel)) rfl) iLL (gcons (mL (List.mem_of_getElem? (i := 733) (by decide +kernel)) rfl) (fun _ h => h))
def wvL_joined : List Cond := .codeWith yL_joined cL_joined 5 (some .int) [(0, 10, 13, 13)] :: CWL
theorem gsL_joined : GoodIn CWL (va_wsS RL 102 yL_joined wvL_joined) := gS (mL (List.mem_of_getElem? (i := 748) (by decide +kernel)) rfl) (mL (List.mem_of_getElem? (i := 749) (by decide +kernel)) rfl) iLL (gcons (mL (List.mem_of_getElem? (i := 750) (by decide +kernel)) rfl) (fun _ h => h))
def wvL_end : List Cond := .codeWith yL_end cL_end 4 (some .int) [(0, 9, 12, 15)] :: CWL
theorem gsL_end : GoodIn CWL (va_wsS RL 106 yL_end wvL_end) := gS (mL (List.mem_of_getElem? (i := 756) (by decide +kernel)) rfl) (mL (List.mem_of_getElem? (i := 757) (by decide +kernel)) rfl) iLL (gcons (mL (List.mem_of_getElem? (i := 758) (by decide +kernel)) rfl) (fun _ h => h))
def wvL_measure : List Cond := .codeWith yL_measure cL_measure 9 (some .int) [(0, 18, 21, 13), (0, 18, 25, 15)] :: CWL
theorem gsL_measure : GoodIn CWL (va_wsS RL 110 yL_measure wvL_measure) := gS (mL (List.mem_of_getElem? (i := 763) (by decide +kernel)) rfl) (mL (List.mem_of_getElem? (i := 764) (by decide +kernel)) rfl) iLL (gcons (mL (List.mem_of_getElem? (i := 765) (by decide +kernel)) rfl) (fun _ h => h))
def wvL_told : List Cond := .codeWith yL_told cL_told 6 (some .int) [(0, 12, 15, 13), (0, 12, 19, 15)] :: CWL
theorem gsL_told : GoodIn CWL (va_wsS RL 114 yL_told wvL_told) := gS (mL (List.mem_of_getElem? (i := 781) (by decide +kernel)) rfl) (mL (List.mem_of_getElem? (i := 782) (by decide +kernel)) rfl) iLL (gcons (mL (List.mem_of_getElem? (i := 783) (by decide +kernel)) rfl) (fun _ h => h))
def wvL_pieces : List Cond := .codeWith yL_pieces cL_pieces 4 (some .int) [(0, 9, 12, 13)] :: CWL
theorem gsL_pieces : GoodIn CWL (va_wsS RL 117 yL_pieces wvL_pieces) := gS (mL (List.mem_of_getElem? (i := 790) (by decide +kernel)) rfl) (mL (List.mem_of_getElem? (i := 791) (by decide +kernel)) rfl) iLL (gcons (mL (List.mem_of_getElem? (i := 792) (by decide +kernel)) rfl) (fun _ h => h))
def wvL_piece : List Cond := .codeWith yL_piece cL_piece 6 (some .int) [(0, 12, 15, 13), (0, 12, 19, 15)] :: CWL
theorem gsL_piece : GoodIn CWL (va_wsS RL 120 yL_piece wvL_piece) := gS (mL (List.mem_of_getElem? (i := 801) (by decide +kernel)) rfl) (mL (List.mem_of_getElem? (i := 802) (by decide +kernel)) rfl) iLL (gcons (mL (List.mem_of_getElem? (i := 803) (by decide +kernel)) rfl) (fun _ h => h))
def wvL_baseline : List Cond := .codeWith yL_baseline cL_baseline 5 (some .int) [(0, 10, 13, 13)] :: CWL
theorem gsL_baseline : GoodIn CWL (va_wsS RL 123 yL_baseline wvL_baseline) := gS (mL (List.mem_of_getElem? (i := 812) (by decide +kernel)) rfl) (mL (List.mem_of_getElem? (i := 813) (by decide +kernel)) rfl) iLL (gcons (mL (List.mem_of_getElem? (i := 814) (by decide +kernel)) rfl) (fun _ h => h))
def wvL_value : List Cond := .codeWith yL_value cL_value 5 (some .int) [(0, 10, 13, 13)] :: CWL
theorem gsL_value : GoodIn CWL (va_wsS RL 126 yL_value wvL_value) := gS (mL (List.mem_of_getElem? (i := 820) (by decide +kernel)) rfl) (mL (List.mem_of_getElem? (i := 821) (by decide +kernel)) rfl) iLL (gcons (mL (List.mem_of_getElem? (i := 822) (by decide +kernel)) rfl) (fun _ h => h))
def wvL_rule : List Cond := .codeWith yL_rule cL_rule 4 (some .int) [(0, 9, 12, 15)] :: CWL
theorem gsL_rule : GoodIn CWL (va_wsS RL 134 yL_rule wvL_rule) := gS (mL (List.mem_of_getElem? (i := 828) (by decide +kernel)) rfl) (mL (List.mem_of_getElem? (i := 829) (by decide +kernel)) rfl) iLL (gcons (mL (List.mem_of_getElem? (i := 830) (by decide +kernel)) rfl) (fun _ h => h))
def wvL_train : List Cond := .codeWith yL_train cL_train 5 (some .int) [(0, 10, 13, 15)] :: CWL
theorem gsL_train : GoodIn CWL (va_wsS RL 141 yL_train wvL_train) := gS (mL (List.mem_of_getElem? (i := 965) (by decide +kernel)) rfl) (mL (List.mem_of_getElem? (i := 966) (by decide +kernel)) rfl) iLL (gcons (mL (List.mem_of_getElem? (i := 967) (by decide +kernel)) rfl) (fun _ h => h))
def wvL_range : List Cond := .codeWith yL_range cL_range 5 (some .int) [(0, 10, 13, 13)] :: CWL
theorem gsL_range : GoodIn CWL (va_wsS RL 144 yL_range wvL_range) := gS (mL (List.mem_of_getElem? (i := 977) (by decide +kernel)) rfl) (mL (List.mem_of_getElem? (i := 978) (by decide +kernel)) rfl) iLL (gcons (mL (List.mem_of_getElem? (i := 979) (by decide +kernel)) rfl) (fun _ h => h))
def wvL_storm : List Cond := .codeWith yL_storm cL_storm 5 (some .int) [(0, 10, 13, 15)] :: CWL
theorem gsL_storm : GoodIn CWL (va_wsS RL 151 yL_storm wvL_storm) := gS (mL (List.mem_of_getElem? (i := 985) (by decide +kernel)) rfl) (mL (List.mem_of_getElem? (i := 986) (by decide +kernel)) rfl) iLL (gcons (mL (List.mem_of_getElem? (i := 987) (by decide +kernel)) rfl) (fun _ h => h))
def wvL_changed : List Cond := .codeWith yL_changed cL_changed 5 (some .int) [(0, 10, 13, 13)] :: CWL
theorem gsL_changed : GoodIn CWL (va_wsS RL 162 yL_changed wvL_changed) := gS (mL (List.mem_of_getElem? (i := 1002) (by decide +kernel)) rfl) (mL (List.mem_of_getElem? (i := 1003) (by decide +kernel)) rfl) iLL (gcons (mL (List.mem_of_getElem? (i := 1004) (by decide +kernel)) rfl) (fun _ h => h))
def wvL_published : List Cond := .codeWith yL_published cL_published 5 (some .int) [(0, 10, 13, 13)] :: CWL
theorem gsL_published : GoodIn CWL (va_wsS RL 165 yL_published wvL_published) := gS (mL (List.mem_of_getElem? (i := 1017) (by decide +kernel)) rfl) (mL (List.mem_of_getElem? (i := 1018) (by decide +kernel)) rfl) iLL (gcons (mL (List.mem_of_getElem? (i := 1019) (by decide +kernel)) rfl) (fun _ h => h))
theorem dL_read_0 : decode cL_read 0 = .ok (.aload 4, 2) := by decide +kernel
theorem dL_read_2 : decode cL_read 2 = .ok (.iconst 0, 1) := by decide +kernel
theorem dL_read_3 : decode cL_read 3 = .ok (.aload_n 0, 1) := by decide +kernel
theorem dL_read_4 : decode cL_read 4 = .ok (.iload_n 1, 1) := by decide +kernel
theorem dL_read_5 : decode cL_read 5 = .ok (.iload_n 2, 1) := by decide +kernel
theorem dL_read_6 : decode cL_read 6 = .ok (.iload_n 3, 1) := by decide +kernel
theorem dL_read_7 : decode cL_read 7 = .ok (.invokevirtual 7, 3) := by decide +kernel
theorem dL_read_10 : decode cL_read 10 = .ok (.i2l, 1) := by decide +kernel
theorem dL_read_11 : decode cL_read 11 = .ok (.lastore, 1) := by decide +kernel
theorem dL_read_12 : decode cL_read 12 = .ok (.goto 11, 3) := by decide +kernel
theorem dL_read_15 : decode cL_read 15 = .ok (.astore 5, 2) := by decide +kernel
theorem dL_read_17 : decode cL_read 17 = .ok (.iconst 1, 1) := by decide +kernel
theorem dL_read_18 : decode cL_read 18 = .ok (.ireturn, 1) := by decide +kernel
theorem dL_read_19 : decode cL_read 19 = .ok (.astore 5, 2) := by decide +kernel
theorem dL_read_21 : decode cL_read 21 = .ok (.iconst 2, 1) := by decide +kernel
theorem dL_read_22 : decode cL_read 22 = .ok (.ireturn, 1) := by decide +kernel
theorem dL_read_23 : decode cL_read 23 = .ok (.iconst 0, 1) := by decide +kernel
theorem dL_read_24 : decode cL_read 24 = .ok (.ireturn, 1) := by decide +kernel
theorem dL_lost_0 : decode cL_lost 0 = .ok (.aload 4, 2) := by decide +kernel
theorem dL_lost_2 : decode cL_lost 2 = .ok (.iconst 0, 1) := by decide +kernel
theorem dL_lost_3 : decode cL_lost 3 = .ok (.aload_n 0, 1) := by decide +kernel
theorem dL_lost_4 : decode cL_lost 4 = .ok (.iload_n 1, 1) := by decide +kernel
theorem dL_lost_5 : decode cL_lost 5 = .ok (.iload_n 2, 1) := by decide +kernel
theorem dL_lost_6 : decode cL_lost 6 = .ok (.iload_n 3, 1) := by decide +kernel
theorem dL_lost_7 : decode cL_lost 7 = .ok (.invokevirtual 17, 3) := by decide +kernel
theorem dL_lost_10 : decode cL_lost 10 = .ok (.i2l, 1) := by decide +kernel
theorem dL_lost_11 : decode cL_lost 11 = .ok (.lastore, 1) := by decide +kernel
theorem dL_lost_12 : decode cL_lost 12 = .ok (.goto 11, 3) := by decide +kernel
theorem dL_lost_15 : decode cL_lost 15 = .ok (.astore 5, 2) := by decide +kernel
theorem dL_lost_17 : decode cL_lost 17 = .ok (.iconst 1, 1) := by decide +kernel
theorem dL_lost_18 : decode cL_lost 18 = .ok (.ireturn, 1) := by decide +kernel
theorem dL_lost_19 : decode cL_lost 19 = .ok (.astore 5, 2) := by decide +kernel
theorem dL_lost_21 : decode cL_lost 21 = .ok (.iconst 2, 1) := by decide +kernel
theorem dL_lost_22 : decode cL_lost 22 = .ok (.ireturn, 1) := by decide +kernel
theorem dL_lost_23 : decode cL_lost 23 = .ok (.iconst 0, 1) := by decide +kernel
theorem dL_lost_24 : decode cL_lost 24 = .ok (.ireturn, 1) := by decide +kernel
theorem dL_at_0 : decode cL_at 0 = .ok (.aload 4, 2) := by decide +kernel
theorem dL_at_2 : decode cL_at 2 = .ok (.iconst 0, 1) := by decide +kernel
theorem dL_at_3 : decode cL_at 3 = .ok (.aload_n 0, 1) := by decide +kernel
theorem dL_at_4 : decode cL_at 4 = .ok (.iload_n 1, 1) := by decide +kernel
theorem dL_at_5 : decode cL_at 5 = .ok (.iload_n 2, 1) := by decide +kernel
theorem dL_at_6 : decode cL_at 6 = .ok (.iload_n 3, 1) := by decide +kernel
theorem dL_at_7 : decode cL_at 7 = .ok (.invokevirtual 20, 3) := by decide +kernel
theorem dL_at_10 : decode cL_at 10 = .ok (.i2l, 1) := by decide +kernel
theorem dL_at_11 : decode cL_at 11 = .ok (.lastore, 1) := by decide +kernel
theorem dL_at_12 : decode cL_at 12 = .ok (.goto 7, 3) := by decide +kernel
theorem dL_at_15 : decode cL_at 15 = .ok (.astore 5, 2) := by decide +kernel
theorem dL_at_17 : decode cL_at 17 = .ok (.iconst 1, 1) := by decide +kernel
theorem dL_at_18 : decode cL_at 18 = .ok (.ireturn, 1) := by decide +kernel
theorem dL_at_19 : decode cL_at 19 = .ok (.iconst 0, 1) := by decide +kernel
theorem dL_at_20 : decode cL_at 20 = .ok (.ireturn, 1) := by decide +kernel
theorem dL_shift_0 : decode cL_shift 0 = .ok (.aload 5, 2) := by decide +kernel
theorem dL_shift_2 : decode cL_shift 2 = .ok (.iconst 0, 1) := by decide +kernel
theorem dL_shift_3 : decode cL_shift 3 = .ok (.aload_n 0, 1) := by decide +kernel
theorem dL_shift_4 : decode cL_shift 4 = .ok (.iload_n 1, 1) := by decide +kernel
theorem dL_shift_5 : decode cL_shift 5 = .ok (.iload_n 2, 1) := by decide +kernel
theorem dL_shift_6 : decode cL_shift 6 = .ok (.iload_n 3, 1) := by decide +kernel
theorem dL_shift_7 : decode cL_shift 7 = .ok (.iload 4, 2) := by decide +kernel
theorem dL_shift_9 : decode cL_shift 9 = .ok (.invokevirtual 23, 3) := by decide +kernel
theorem dL_shift_12 : decode cL_shift 12 = .ok (.i2l, 1) := by decide +kernel
theorem dL_shift_13 : decode cL_shift 13 = .ok (.lastore, 1) := by decide +kernel
theorem dL_shift_14 : decode cL_shift 14 = .ok (.goto 11, 3) := by decide +kernel
theorem dL_shift_17 : decode cL_shift 17 = .ok (.astore 6, 2) := by decide +kernel
theorem dL_shift_19 : decode cL_shift 19 = .ok (.iconst 1, 1) := by decide +kernel
theorem dL_shift_20 : decode cL_shift 20 = .ok (.ireturn, 1) := by decide +kernel
theorem dL_shift_21 : decode cL_shift 21 = .ok (.astore 6, 2) := by decide +kernel
theorem dL_shift_23 : decode cL_shift 23 = .ok (.iconst 2, 1) := by decide +kernel
theorem dL_shift_24 : decode cL_shift 24 = .ok (.ireturn, 1) := by decide +kernel
theorem dL_shift_25 : decode cL_shift 25 = .ok (.iconst 0, 1) := by decide +kernel
theorem dL_shift_26 : decode cL_shift 26 = .ok (.ireturn, 1) := by decide +kernel
theorem dL_jump_0 : decode cL_jump 0 = .ok (.aload 4, 2) := by decide +kernel
theorem dL_jump_2 : decode cL_jump 2 = .ok (.iconst 0, 1) := by decide +kernel
theorem dL_jump_3 : decode cL_jump 3 = .ok (.aload_n 0, 1) := by decide +kernel
theorem dL_jump_4 : decode cL_jump 4 = .ok (.iload_n 1, 1) := by decide +kernel
theorem dL_jump_5 : decode cL_jump 5 = .ok (.iload_n 2, 1) := by decide +kernel
theorem dL_jump_6 : decode cL_jump 6 = .ok (.iload_n 3, 1) := by decide +kernel
theorem dL_jump_7 : decode cL_jump 7 = .ok (.invokevirtual 27, 3) := by decide +kernel
theorem dL_jump_10 : decode cL_jump 10 = .ok (.i2l, 1) := by decide +kernel
theorem dL_jump_11 : decode cL_jump 11 = .ok (.lastore, 1) := by decide +kernel
theorem dL_jump_12 : decode cL_jump 12 = .ok (.goto 7, 3) := by decide +kernel
theorem dL_jump_15 : decode cL_jump 15 = .ok (.astore 5, 2) := by decide +kernel
theorem dL_jump_17 : decode cL_jump 17 = .ok (.iconst 1, 1) := by decide +kernel
theorem dL_jump_18 : decode cL_jump 18 = .ok (.ireturn, 1) := by decide +kernel
theorem dL_jump_19 : decode cL_jump 19 = .ok (.iconst 0, 1) := by decide +kernel
theorem dL_jump_20 : decode cL_jump 20 = .ok (.ireturn, 1) := by decide +kernel
theorem dL_joined_0 : decode cL_joined 0 = .ok (.aload_n 3, 1) := by decide +kernel
theorem dL_joined_1 : decode cL_joined 1 = .ok (.iconst 0, 1) := by decide +kernel
theorem dL_joined_2 : decode cL_joined 2 = .ok (.aload_n 0, 1) := by decide +kernel
theorem dL_joined_3 : decode cL_joined 3 = .ok (.iload_n 1, 1) := by decide +kernel
theorem dL_joined_4 : decode cL_joined 4 = .ok (.iload_n 2, 1) := by decide +kernel
theorem dL_joined_5 : decode cL_joined 5 = .ok (.invokevirtual 30, 3) := by decide +kernel
theorem dL_joined_8 : decode cL_joined 8 = .ok (.i2l, 1) := by decide +kernel
theorem dL_joined_9 : decode cL_joined 9 = .ok (.lastore, 1) := by decide +kernel
theorem dL_joined_10 : decode cL_joined 10 = .ok (.goto 7, 3) := by decide +kernel
theorem dL_joined_13 : decode cL_joined 13 = .ok (.astore 4, 2) := by decide +kernel
theorem dL_joined_15 : decode cL_joined 15 = .ok (.iconst 1, 1) := by decide +kernel
theorem dL_joined_16 : decode cL_joined 16 = .ok (.ireturn, 1) := by decide +kernel
theorem dL_joined_17 : decode cL_joined 17 = .ok (.iconst 0, 1) := by decide +kernel
theorem dL_joined_18 : decode cL_joined 18 = .ok (.ireturn, 1) := by decide +kernel
theorem dL_end_0 : decode cL_end 0 = .ok (.aload_n 2, 1) := by decide +kernel
theorem dL_end_1 : decode cL_end 1 = .ok (.iconst 0, 1) := by decide +kernel
theorem dL_end_2 : decode cL_end 2 = .ok (.aload_n 0, 1) := by decide +kernel
theorem dL_end_3 : decode cL_end 3 = .ok (.iload_n 1, 1) := by decide +kernel
theorem dL_end_4 : decode cL_end 4 = .ok (.invokevirtual 34, 3) := by decide +kernel
theorem dL_end_7 : decode cL_end 7 = .ok (.i2l, 1) := by decide +kernel
theorem dL_end_8 : decode cL_end 8 = .ok (.lastore, 1) := by decide +kernel
theorem dL_end_9 : decode cL_end 9 = .ok (.goto 6, 3) := by decide +kernel
theorem dL_end_12 : decode cL_end 12 = .ok (.astore_n 3, 1) := by decide +kernel
theorem dL_end_13 : decode cL_end 13 = .ok (.iconst 1, 1) := by decide +kernel
theorem dL_end_14 : decode cL_end 14 = .ok (.ireturn, 1) := by decide +kernel
theorem dL_end_15 : decode cL_end 15 = .ok (.iconst 0, 1) := by decide +kernel
theorem dL_end_16 : decode cL_end 16 = .ok (.ireturn, 1) := by decide +kernel
theorem dL_measure_0 : decode cL_measure 0 = .ok (.aload 7, 2) := by decide +kernel
theorem dL_measure_2 : decode cL_measure 2 = .ok (.iconst 0, 1) := by decide +kernel
theorem dL_measure_3 : decode cL_measure 3 = .ok (.aload_n 0, 1) := by decide +kernel
theorem dL_measure_4 : decode cL_measure 4 = .ok (.iload_n 1, 1) := by decide +kernel
theorem dL_measure_5 : decode cL_measure 5 = .ok (.iload_n 2, 1) := by decide +kernel
theorem dL_measure_6 : decode cL_measure 6 = .ok (.iload_n 3, 1) := by decide +kernel
theorem dL_measure_7 : decode cL_measure 7 = .ok (.iload 4, 2) := by decide +kernel
theorem dL_measure_9 : decode cL_measure 9 = .ok (.iload 5, 2) := by decide +kernel
theorem dL_measure_11 : decode cL_measure 11 = .ok (.iload 6, 2) := by decide +kernel
theorem dL_measure_13 : decode cL_measure 13 = .ok (.invokevirtual 38, 3) := by decide +kernel
theorem dL_measure_16 : decode cL_measure 16 = .ok (.i2l, 1) := by decide +kernel
theorem dL_measure_17 : decode cL_measure 17 = .ok (.lastore, 1) := by decide +kernel
theorem dL_measure_18 : decode cL_measure 18 = .ok (.goto 11, 3) := by decide +kernel
theorem dL_measure_21 : decode cL_measure 21 = .ok (.astore 8, 2) := by decide +kernel
theorem dL_measure_23 : decode cL_measure 23 = .ok (.iconst 1, 1) := by decide +kernel
theorem dL_measure_24 : decode cL_measure 24 = .ok (.ireturn, 1) := by decide +kernel
theorem dL_measure_25 : decode cL_measure 25 = .ok (.astore 8, 2) := by decide +kernel
theorem dL_measure_27 : decode cL_measure 27 = .ok (.iconst 2, 1) := by decide +kernel
theorem dL_measure_28 : decode cL_measure 28 = .ok (.ireturn, 1) := by decide +kernel
theorem dL_measure_29 : decode cL_measure 29 = .ok (.iconst 0, 1) := by decide +kernel
theorem dL_measure_30 : decode cL_measure 30 = .ok (.ireturn, 1) := by decide +kernel
theorem dL_told_0 : decode cL_told 0 = .ok (.aload 4, 2) := by decide +kernel
theorem dL_told_2 : decode cL_told 2 = .ok (.iconst 0, 1) := by decide +kernel
theorem dL_told_3 : decode cL_told 3 = .ok (.aload_n 0, 1) := by decide +kernel
theorem dL_told_4 : decode cL_told 4 = .ok (.iload_n 1, 1) := by decide +kernel
theorem dL_told_5 : decode cL_told 5 = .ok (.iload_n 2, 1) := by decide +kernel
theorem dL_told_6 : decode cL_told 6 = .ok (.iload_n 3, 1) := by decide +kernel
theorem dL_told_7 : decode cL_told 7 = .ok (.invokevirtual 42, 3) := by decide +kernel
theorem dL_told_10 : decode cL_told 10 = .ok (.i2l, 1) := by decide +kernel
theorem dL_told_11 : decode cL_told 11 = .ok (.lastore, 1) := by decide +kernel
theorem dL_told_12 : decode cL_told 12 = .ok (.goto 11, 3) := by decide +kernel
theorem dL_told_15 : decode cL_told 15 = .ok (.astore 5, 2) := by decide +kernel
theorem dL_told_17 : decode cL_told 17 = .ok (.iconst 1, 1) := by decide +kernel
theorem dL_told_18 : decode cL_told 18 = .ok (.ireturn, 1) := by decide +kernel
theorem dL_told_19 : decode cL_told 19 = .ok (.astore 5, 2) := by decide +kernel
theorem dL_told_21 : decode cL_told 21 = .ok (.iconst 2, 1) := by decide +kernel
theorem dL_told_22 : decode cL_told 22 = .ok (.ireturn, 1) := by decide +kernel
theorem dL_told_23 : decode cL_told 23 = .ok (.iconst 0, 1) := by decide +kernel
theorem dL_told_24 : decode cL_told 24 = .ok (.ireturn, 1) := by decide +kernel
theorem dL_pieces_0 : decode cL_pieces 0 = .ok (.aload_n 2, 1) := by decide +kernel
theorem dL_pieces_1 : decode cL_pieces 1 = .ok (.iconst 0, 1) := by decide +kernel
theorem dL_pieces_2 : decode cL_pieces 2 = .ok (.aload_n 0, 1) := by decide +kernel
theorem dL_pieces_3 : decode cL_pieces 3 = .ok (.iload_n 1, 1) := by decide +kernel
theorem dL_pieces_4 : decode cL_pieces 4 = .ok (.invokevirtual 45, 3) := by decide +kernel
theorem dL_pieces_7 : decode cL_pieces 7 = .ok (.i2l, 1) := by decide +kernel
theorem dL_pieces_8 : decode cL_pieces 8 = .ok (.lastore, 1) := by decide +kernel
theorem dL_pieces_9 : decode cL_pieces 9 = .ok (.goto 6, 3) := by decide +kernel
theorem dL_pieces_12 : decode cL_pieces 12 = .ok (.astore_n 3, 1) := by decide +kernel
theorem dL_pieces_13 : decode cL_pieces 13 = .ok (.iconst 1, 1) := by decide +kernel
theorem dL_pieces_14 : decode cL_pieces 14 = .ok (.ireturn, 1) := by decide +kernel
theorem dL_pieces_15 : decode cL_pieces 15 = .ok (.iconst 0, 1) := by decide +kernel
theorem dL_pieces_16 : decode cL_pieces 16 = .ok (.ireturn, 1) := by decide +kernel
theorem dL_piece_0 : decode cL_piece 0 = .ok (.aload 4, 2) := by decide +kernel
theorem dL_piece_2 : decode cL_piece 2 = .ok (.iconst 0, 1) := by decide +kernel
theorem dL_piece_3 : decode cL_piece 3 = .ok (.aload_n 0, 1) := by decide +kernel
theorem dL_piece_4 : decode cL_piece 4 = .ok (.iload_n 1, 1) := by decide +kernel
theorem dL_piece_5 : decode cL_piece 5 = .ok (.iload_n 2, 1) := by decide +kernel
theorem dL_piece_6 : decode cL_piece 6 = .ok (.iload_n 3, 1) := by decide +kernel
theorem dL_piece_7 : decode cL_piece 7 = .ok (.invokevirtual 48, 3) := by decide +kernel
theorem dL_piece_10 : decode cL_piece 10 = .ok (.i2l, 1) := by decide +kernel
theorem dL_piece_11 : decode cL_piece 11 = .ok (.lastore, 1) := by decide +kernel
theorem dL_piece_12 : decode cL_piece 12 = .ok (.goto 11, 3) := by decide +kernel
theorem dL_piece_15 : decode cL_piece 15 = .ok (.astore 5, 2) := by decide +kernel
theorem dL_piece_17 : decode cL_piece 17 = .ok (.iconst 1, 1) := by decide +kernel
theorem dL_piece_18 : decode cL_piece 18 = .ok (.ireturn, 1) := by decide +kernel
theorem dL_piece_19 : decode cL_piece 19 = .ok (.astore 5, 2) := by decide +kernel
theorem dL_piece_21 : decode cL_piece 21 = .ok (.iconst 2, 1) := by decide +kernel
theorem dL_piece_22 : decode cL_piece 22 = .ok (.ireturn, 1) := by decide +kernel
theorem dL_piece_23 : decode cL_piece 23 = .ok (.iconst 0, 1) := by decide +kernel
theorem dL_piece_24 : decode cL_piece 24 = .ok (.ireturn, 1) := by decide +kernel
theorem dL_baseline_0 : decode cL_baseline 0 = .ok (.aload_n 3, 1) := by decide +kernel
theorem dL_baseline_1 : decode cL_baseline 1 = .ok (.iconst 0, 1) := by decide +kernel
theorem dL_baseline_2 : decode cL_baseline 2 = .ok (.aload_n 0, 1) := by decide +kernel
theorem dL_baseline_3 : decode cL_baseline 3 = .ok (.iload_n 1, 1) := by decide +kernel
theorem dL_baseline_4 : decode cL_baseline 4 = .ok (.iload_n 2, 1) := by decide +kernel
theorem dL_baseline_5 : decode cL_baseline 5 = .ok (.invokevirtual 51, 3) := by decide +kernel
theorem dL_baseline_8 : decode cL_baseline 8 = .ok (.i2l, 1) := by decide +kernel
theorem dL_baseline_9 : decode cL_baseline 9 = .ok (.lastore, 1) := by decide +kernel
theorem dL_baseline_10 : decode cL_baseline 10 = .ok (.goto 7, 3) := by decide +kernel
theorem dL_baseline_13 : decode cL_baseline 13 = .ok (.astore 4, 2) := by decide +kernel
theorem dL_baseline_15 : decode cL_baseline 15 = .ok (.iconst 1, 1) := by decide +kernel
theorem dL_baseline_16 : decode cL_baseline 16 = .ok (.ireturn, 1) := by decide +kernel
theorem dL_baseline_17 : decode cL_baseline 17 = .ok (.iconst 0, 1) := by decide +kernel
theorem dL_baseline_18 : decode cL_baseline 18 = .ok (.ireturn, 1) := by decide +kernel
theorem dL_value_0 : decode cL_value 0 = .ok (.aload_n 3, 1) := by decide +kernel
theorem dL_value_1 : decode cL_value 1 = .ok (.iconst 0, 1) := by decide +kernel
theorem dL_value_2 : decode cL_value 2 = .ok (.aload_n 0, 1) := by decide +kernel
theorem dL_value_3 : decode cL_value 3 = .ok (.iload_n 1, 1) := by decide +kernel
theorem dL_value_4 : decode cL_value 4 = .ok (.iload_n 2, 1) := by decide +kernel
theorem dL_value_5 : decode cL_value 5 = .ok (.invokevirtual 54, 3) := by decide +kernel
theorem dL_value_8 : decode cL_value 8 = .ok (.i2l, 1) := by decide +kernel
theorem dL_value_9 : decode cL_value 9 = .ok (.lastore, 1) := by decide +kernel
theorem dL_value_10 : decode cL_value 10 = .ok (.goto 7, 3) := by decide +kernel
theorem dL_value_13 : decode cL_value 13 = .ok (.astore 4, 2) := by decide +kernel
theorem dL_value_15 : decode cL_value 15 = .ok (.iconst 1, 1) := by decide +kernel
theorem dL_value_16 : decode cL_value 16 = .ok (.ireturn, 1) := by decide +kernel
theorem dL_value_17 : decode cL_value 17 = .ok (.iconst 0, 1) := by decide +kernel
theorem dL_value_18 : decode cL_value 18 = .ok (.ireturn, 1) := by decide +kernel
theorem dL_rule_0 : decode cL_rule 0 = .ok (.aload_n 2, 1) := by decide +kernel
theorem dL_rule_1 : decode cL_rule 1 = .ok (.iconst 0, 1) := by decide +kernel
theorem dL_rule_2 : decode cL_rule 2 = .ok (.aload_n 0, 1) := by decide +kernel
theorem dL_rule_3 : decode cL_rule 3 = .ok (.iload_n 1, 1) := by decide +kernel
theorem dL_rule_4 : decode cL_rule 4 = .ok (.invokevirtual 57, 3) := by decide +kernel
theorem dL_rule_7 : decode cL_rule 7 = .ok (.i2l, 1) := by decide +kernel
theorem dL_rule_8 : decode cL_rule 8 = .ok (.lastore, 1) := by decide +kernel
theorem dL_rule_9 : decode cL_rule 9 = .ok (.goto 6, 3) := by decide +kernel
theorem dL_rule_12 : decode cL_rule 12 = .ok (.astore_n 3, 1) := by decide +kernel
theorem dL_rule_13 : decode cL_rule 13 = .ok (.iconst 1, 1) := by decide +kernel
theorem dL_rule_14 : decode cL_rule 14 = .ok (.ireturn, 1) := by decide +kernel
theorem dL_rule_15 : decode cL_rule 15 = .ok (.iconst 0, 1) := by decide +kernel
theorem dL_rule_16 : decode cL_rule 16 = .ok (.ireturn, 1) := by decide +kernel
theorem dL_train_0 : decode cL_train 0 = .ok (.aload_n 3, 1) := by decide +kernel
theorem dL_train_1 : decode cL_train 1 = .ok (.iconst 0, 1) := by decide +kernel
theorem dL_train_2 : decode cL_train 2 = .ok (.aload_n 0, 1) := by decide +kernel
theorem dL_train_3 : decode cL_train 3 = .ok (.iload_n 1, 1) := by decide +kernel
theorem dL_train_4 : decode cL_train 4 = .ok (.iload_n 2, 1) := by decide +kernel
theorem dL_train_5 : decode cL_train 5 = .ok (.invokevirtual 60, 3) := by decide +kernel
theorem dL_train_8 : decode cL_train 8 = .ok (.i2l, 1) := by decide +kernel
theorem dL_train_9 : decode cL_train 9 = .ok (.lastore, 1) := by decide +kernel
theorem dL_train_10 : decode cL_train 10 = .ok (.goto 7, 3) := by decide +kernel
theorem dL_train_13 : decode cL_train 13 = .ok (.astore 4, 2) := by decide +kernel
theorem dL_train_15 : decode cL_train 15 = .ok (.iconst 1, 1) := by decide +kernel
theorem dL_train_16 : decode cL_train 16 = .ok (.ireturn, 1) := by decide +kernel
theorem dL_train_17 : decode cL_train 17 = .ok (.iconst 0, 1) := by decide +kernel
theorem dL_train_18 : decode cL_train 18 = .ok (.ireturn, 1) := by decide +kernel
theorem dL_range_0 : decode cL_range 0 = .ok (.aload_n 3, 1) := by decide +kernel
theorem dL_range_1 : decode cL_range 1 = .ok (.iconst 0, 1) := by decide +kernel
theorem dL_range_2 : decode cL_range 2 = .ok (.aload_n 0, 1) := by decide +kernel
theorem dL_range_3 : decode cL_range 3 = .ok (.iload_n 1, 1) := by decide +kernel
theorem dL_range_4 : decode cL_range 4 = .ok (.iload_n 2, 1) := by decide +kernel
theorem dL_range_5 : decode cL_range 5 = .ok (.invokevirtual 63, 3) := by decide +kernel
theorem dL_range_8 : decode cL_range 8 = .ok (.i2l, 1) := by decide +kernel
theorem dL_range_9 : decode cL_range 9 = .ok (.lastore, 1) := by decide +kernel
theorem dL_range_10 : decode cL_range 10 = .ok (.goto 7, 3) := by decide +kernel
theorem dL_range_13 : decode cL_range 13 = .ok (.astore 4, 2) := by decide +kernel
theorem dL_range_15 : decode cL_range 15 = .ok (.iconst 1, 1) := by decide +kernel
theorem dL_range_16 : decode cL_range 16 = .ok (.ireturn, 1) := by decide +kernel
theorem dL_range_17 : decode cL_range 17 = .ok (.iconst 0, 1) := by decide +kernel
theorem dL_range_18 : decode cL_range 18 = .ok (.ireturn, 1) := by decide +kernel
theorem dL_storm_0 : decode cL_storm 0 = .ok (.aload_n 3, 1) := by decide +kernel
theorem dL_storm_1 : decode cL_storm 1 = .ok (.iconst 0, 1) := by decide +kernel
theorem dL_storm_2 : decode cL_storm 2 = .ok (.aload_n 0, 1) := by decide +kernel
theorem dL_storm_3 : decode cL_storm 3 = .ok (.iload_n 1, 1) := by decide +kernel
theorem dL_storm_4 : decode cL_storm 4 = .ok (.iload_n 2, 1) := by decide +kernel
theorem dL_storm_5 : decode cL_storm 5 = .ok (.invokevirtual 66, 3) := by decide +kernel
theorem dL_storm_8 : decode cL_storm 8 = .ok (.i2l, 1) := by decide +kernel
theorem dL_storm_9 : decode cL_storm 9 = .ok (.lastore, 1) := by decide +kernel
theorem dL_storm_10 : decode cL_storm 10 = .ok (.goto 7, 3) := by decide +kernel
theorem dL_storm_13 : decode cL_storm 13 = .ok (.astore 4, 2) := by decide +kernel
theorem dL_storm_15 : decode cL_storm 15 = .ok (.iconst 1, 1) := by decide +kernel
theorem dL_storm_16 : decode cL_storm 16 = .ok (.ireturn, 1) := by decide +kernel
theorem dL_storm_17 : decode cL_storm 17 = .ok (.iconst 0, 1) := by decide +kernel
theorem dL_storm_18 : decode cL_storm 18 = .ok (.ireturn, 1) := by decide +kernel
theorem dL_changed_0 : decode cL_changed 0 = .ok (.aload_n 3, 1) := by decide +kernel
theorem dL_changed_1 : decode cL_changed 1 = .ok (.iconst 0, 1) := by decide +kernel
theorem dL_changed_2 : decode cL_changed 2 = .ok (.aload_n 0, 1) := by decide +kernel
theorem dL_changed_3 : decode cL_changed 3 = .ok (.iload_n 1, 1) := by decide +kernel
theorem dL_changed_4 : decode cL_changed 4 = .ok (.iload_n 2, 1) := by decide +kernel
theorem dL_changed_5 : decode cL_changed 5 = .ok (.invokevirtual 69, 3) := by decide +kernel
theorem dL_changed_8 : decode cL_changed 8 = .ok (.i2l, 1) := by decide +kernel
theorem dL_changed_9 : decode cL_changed 9 = .ok (.lastore, 1) := by decide +kernel
theorem dL_changed_10 : decode cL_changed 10 = .ok (.goto 7, 3) := by decide +kernel
theorem dL_changed_13 : decode cL_changed 13 = .ok (.astore 4, 2) := by decide +kernel
theorem dL_changed_15 : decode cL_changed 15 = .ok (.iconst 1, 1) := by decide +kernel
theorem dL_changed_16 : decode cL_changed 16 = .ok (.ireturn, 1) := by decide +kernel
theorem dL_changed_17 : decode cL_changed 17 = .ok (.iconst 0, 1) := by decide +kernel
theorem dL_changed_18 : decode cL_changed 18 = .ok (.ireturn, 1) := by decide +kernel
theorem dL_published_0 : decode cL_published 0 = .ok (.aload_n 3, 1) := by decide +kernel
theorem dL_published_1 : decode cL_published 1 = .ok (.iconst 0, 1) := by decide +kernel
theorem dL_published_2 : decode cL_published 2 = .ok (.aload_n 0, 1) := by decide +kernel
theorem dL_published_3 : decode cL_published 3 = .ok (.iload_n 1, 1) := by decide +kernel
theorem dL_published_4 : decode cL_published 4 = .ok (.iload_n 2, 1) := by decide +kernel
theorem dL_published_5 : decode cL_published 5 = .ok (.invokevirtual 72, 3) := by decide +kernel
theorem dL_published_8 : decode cL_published 8 = .ok (.i2l, 1) := by decide +kernel
theorem dL_published_9 : decode cL_published 9 = .ok (.lastore, 1) := by decide +kernel
theorem dL_published_10 : decode cL_published 10 = .ok (.goto 7, 3) := by decide +kernel
theorem dL_published_13 : decode cL_published 13 = .ok (.astore 4, 2) := by decide +kernel
theorem dL_published_15 : decode cL_published 15 = .ok (.iconst 1, 1) := by decide +kernel
theorem dL_published_16 : decode cL_published 16 = .ok (.ireturn, 1) := by decide +kernel
theorem dL_published_17 : decode cL_published 17 = .ok (.iconst 0, 1) := by decide +kernel
theorem dL_published_18 : decode cL_published 18 = .ok (.ireturn, 1) := by decide +kernel
