theorem mi_X0_isStretch : Cond.instanceMethod yX0_isStretch ∈ GW := memT (i := 674) (by decide +kernel) rfl
theorem ms_X0_isStretch : Cond.selects RX0 yX0_isStretch yX0_isStretch ∈ GW := memT (i := 675) (by decide +kernel) rfl
theorem mcd_X0_isStretch : Cond.code yX0_isStretch cX0_isStretch 2 (some .boolean) ∈ GW := memT (i := 676) (by decide +kernel) rfl
theorem mds_X0_isStretch : yX0_isStretch.cls ≠ "java/lang/invoke/MethodHandle" ∧ yX0_isStretch.cls ≠ "java/lang/invoke/VarHandle" ∧ (parseMethodDescriptor yX0_isStretch.desc).map (fun d => d.parameters.length) = some 1 := by decide +kernel
theorem mi_X0_become : Cond.instanceMethod yX0_become ∈ GW := memT (i := 653) (by decide +kernel) rfl
theorem ms_X0_become : Cond.selects RX0 yX0_become yX0_become ∈ GW := memT (i := 654) (by decide +kernel) rfl
theorem mcd_X0_become : Cond.code yX0_become cX0_become 3 none ∈ GW := memT (i := 655) (by decide +kernel) rfl
theorem mds_X0_become : yX0_become.cls ≠ "java/lang/invoke/MethodHandle" ∧ yX0_become.cls ≠ "java/lang/invoke/VarHandle" ∧ (parseMethodDescriptor yX0_become.desc).map (fun d => d.parameters.length) = some 1 := by decide +kernel
theorem mi_X0_read : Cond.instanceMethod yX0_read ∈ GW := memT (i := 627) (by decide +kernel) rfl
theorem ms_X0_read : Cond.selects RX0 yX0_read yX0_read ∈ GW := memT (i := 628) (by decide +kernel) rfl
theorem mcd_X0_read : Cond.code yX0_read cX0_read 3 (some .boolean) ∈ GW := memT (i := 629) (by decide +kernel) rfl
theorem mds_X0_read : yX0_read.cls ≠ "java/lang/invoke/MethodHandle" ∧ yX0_read.cls ≠ "java/lang/invoke/VarHandle" ∧ (parseMethodDescriptor yX0_read.desc).map (fun d => d.parameters.length) = some 1 := by decide +kernel
theorem mi_X0_readOne : Cond.instanceMethod yX0_readOne ∈ GW := memT (i := 633) (by decide +kernel) rfl
theorem ms_X0_readOne : Cond.selects RX0 yX0_readOne yX0_readOne ∈ GW := memS (i := 6) (by decide +kernel) rfl
theorem mcd_X0_readOne : Cond.code yX0_readOne cX0_readOne 4 (some .boolean) ∈ GW := memT (i := 634) (by decide +kernel) rfl
theorem mds_X0_readOne : yX0_readOne.cls ≠ "java/lang/invoke/MethodHandle" ∧ yX0_readOne.cls ≠ "java/lang/invoke/VarHandle" ∧ (parseMethodDescriptor yX0_readOne.desc).map (fun d => d.parameters.length) = some 1 := by decide +kernel
theorem mi_X0_add : Cond.instanceMethod yX0_add ∈ GW := memT (i := 642) (by decide +kernel) rfl
theorem ms_X0_add : Cond.selects RX0 yX0_add yX0_add ∈ GW := memS (i := 7) (by decide +kernel) rfl
theorem mcd_X0_add : Cond.code yX0_add cX0_add 4 (some .int) ∈ GW := memT (i := 643) (by decide +kernel) rfl
theorem mds_X0_add : yX0_add.cls ≠ "java/lang/invoke/MethodHandle" ∧ yX0_add.cls ≠ "java/lang/invoke/VarHandle" ∧ (parseMethodDescriptor yX0_add.desc).map (fun d => d.parameters.length) = some 2 := by decide +kernel
theorem mi_X0_readWishes : Cond.instanceMethod yX0_readWishes ∈ GW := memT (i := 647) (by decide +kernel) rfl
theorem ms_X0_readWishes : Cond.selects RX0 yX0_readWishes yX0_readWishes ∈ GW := memS (i := 8) (by decide +kernel) rfl
theorem mcd_X0_readWishes : Cond.code yX0_readWishes cX0_readWishes 3 (some .boolean) ∈ GW := memT (i := 648) (by decide +kernel) rfl
theorem mds_X0_readWishes : yX0_readWishes.cls ≠ "java/lang/invoke/MethodHandle" ∧ yX0_readWishes.cls ≠ "java/lang/invoke/VarHandle" ∧ (parseMethodDescriptor yX0_readWishes.desc).map (fun d => d.parameters.length) = some 2 := by decide +kernel
theorem mi_X1_hasRoomFor : Cond.instanceMethod yX1_hasRoomFor ∈ GW := memT (i := 664) (by decide +kernel) rfl
theorem ms_X1_hasRoomFor : Cond.selects RX1 yX1_hasRoomFor yX1_hasRoomFor ∈ GW := memT (i := 665) (by decide +kernel) rfl
theorem mcd_X1_hasRoomFor : Cond.code yX1_hasRoomFor cX1_hasRoomFor 2 (some .boolean) ∈ GW := memT (i := 666) (by decide +kernel) rfl
theorem mds_X1_hasRoomFor : yX1_hasRoomFor.cls ≠ "java/lang/invoke/MethodHandle" ∧ yX1_hasRoomFor.cls ≠ "java/lang/invoke/VarHandle" ∧ (parseMethodDescriptor yX1_hasRoomFor.desc).map (fun d => d.parameters.length) = some 1 := by decide +kernel
theorem mi_X1_addPlay : Cond.instanceMethod yX1_addPlay ∈ GW := memT (i := 745) (by decide +kernel) rfl
theorem ms_X1_addPlay : Cond.selects RX1 yX1_addPlay yX1_addPlay ∈ GW := memT (i := 746) (by decide +kernel) rfl
theorem mcd_X1_addPlay : Cond.code yX1_addPlay cX1_addPlay 4 none ∈ GW := memT (i := 747) (by decide +kernel) rfl
theorem mds_X1_addPlay : yX1_addPlay.cls ≠ "java/lang/invoke/MethodHandle" ∧ yX1_addPlay.cls ≠ "java/lang/invoke/VarHandle" ∧ (parseMethodDescriptor yX1_addPlay.desc).map (fun d => d.parameters.length) = some 3 := by decide +kernel
theorem mi_X1_noteStretch : Cond.instanceMethod yX1_noteStretch ∈ GW := memT (i := 749) (by decide +kernel) rfl
theorem ms_X1_noteStretch : Cond.selects RX1 yX1_noteStretch yX1_noteStretch ∈ GW := memT (i := 750) (by decide +kernel) rfl
theorem mcd_X1_noteStretch : Cond.code yX1_noteStretch cX1_noteStretch 4 none ∈ GW := memT (i := 751) (by decide +kernel) rfl
theorem mds_X1_noteStretch : yX1_noteStretch.cls ≠ "java/lang/invoke/MethodHandle" ∧ yX1_noteStretch.cls ≠ "java/lang/invoke/VarHandle" ∧ (parseMethodDescriptor yX1_noteStretch.desc).map (fun d => d.parameters.length) = some 3 := by decide +kernel
theorem mi_X1_closeHour : Cond.instanceMethod yX1_closeHour ∈ GW := memT (i := 753) (by decide +kernel) rfl
theorem ms_X1_closeHour : Cond.selects RX1 yX1_closeHour yX1_closeHour ∈ GW := memT (i := 754) (by decide +kernel) rfl
theorem mcd_X1_closeHour : Cond.code yX1_closeHour cX1_closeHour 2 none ∈ GW := memT (i := 755) (by decide +kernel) rfl
theorem mds_X1_closeHour : yX1_closeHour.cls ≠ "java/lang/invoke/MethodHandle" ∧ yX1_closeHour.cls ≠ "java/lang/invoke/VarHandle" ∧ (parseMethodDescriptor yX1_closeHour.desc).map (fun d => d.parameters.length) = some 1 := by decide +kernel
theorem mi_X2_prepare : Cond.instanceMethod yX2_prepare ∈ GW := memT (i := 668) (by decide +kernel) rfl
theorem ms_X2_prepare : Cond.selects RX2 yX2_prepare yX2_prepare ∈ GW := memT (i := 669) (by decide +kernel) rfl
theorem mcd_X2_prepare : Cond.code yX2_prepare cX2_prepare 4 none ∈ GW := memT (i := 670) (by decide +kernel) rfl
theorem mds_X2_prepare : yX2_prepare.cls ≠ "java/lang/invoke/MethodHandle" ∧ yX2_prepare.cls ≠ "java/lang/invoke/VarHandle" ∧ (parseMethodDescriptor yX2_prepare.desc).map (fun d => d.parameters.length) = some 2 := by decide +kernel
theorem mi_X2_aim : Cond.instanceMethod yX2_aim ∈ GW := memT (i := 682) (by decide +kernel) rfl
theorem ms_X2_aim : Cond.selects RX2 yX2_aim yX2_aim ∈ GW := memT (i := 683) (by decide +kernel) rfl
theorem mcd_X2_aim : Cond.code yX2_aim cX2_aim 7 none ∈ GW := memT (i := 684) (by decide +kernel) rfl
theorem mds_X2_aim : yX2_aim.cls ≠ "java/lang/invoke/MethodHandle" ∧ yX2_aim.cls ≠ "java/lang/invoke/VarHandle" ∧ (parseMethodDescriptor yX2_aim.desc).map (fun d => d.parameters.length) = some 5 := by decide +kernel
theorem mi_X2_run : Cond.instanceMethod yX2_run ∈ GW := memT (i := 703) (by decide +kernel) rfl
theorem ms_X2_run : Cond.selects RX2 yX2_run yX2_run ∈ GW := memT (i := 704) (by decide +kernel) rfl
theorem mcd_X2_run : Cond.code yX2_run cX2_run 4 none ∈ GW := memT (i := 705) (by decide +kernel) rfl
theorem mds_X2_run : yX2_run.cls ≠ "java/lang/invoke/MethodHandle" ∧ yX2_run.cls ≠ "java/lang/invoke/VarHandle" ∧ (parseMethodDescriptor yX2_run.desc).map (fun d => d.parameters.length) = some 3 := by decide +kernel
theorem mi_X2_gather : Cond.instanceMethod yX2_gather ∈ GW := memT (i := 687) (by decide +kernel) rfl
theorem ms_X2_gather : Cond.selects RX2 yX2_gather yX2_gather ∈ GW := memS (i := 10) (by decide +kernel) rfl
theorem mcd_X2_gather : Cond.code yX2_gather cX2_gather 5 none ∈ GW := memT (i := 688) (by decide +kernel) rfl
theorem mds_X2_gather : yX2_gather.cls ≠ "java/lang/invoke/MethodHandle" ∧ yX2_gather.cls ≠ "java/lang/invoke/VarHandle" ∧ (parseMethodDescriptor yX2_gather.desc).map (fun d => d.parameters.length) = some 2 := by decide +kernel
theorem mi_X2_isFreeInTime : Cond.instanceMethod yX2_isFreeInTime ∈ GW := memT (i := 691) (by decide +kernel) rfl
theorem ms_X2_isFreeInTime : Cond.selects RX2 yX2_isFreeInTime yX2_isFreeInTime ∈ GW := memS (i := 11) (by decide +kernel) rfl
theorem mcd_X2_isFreeInTime : Cond.code yX2_isFreeInTime cX2_isFreeInTime 4 (some .boolean) ∈ GW := memT (i := 692) (by decide +kernel) rfl
theorem mds_X2_isFreeInTime : yX2_isFreeInTime.cls ≠ "java/lang/invoke/MethodHandle" ∧ yX2_isFreeInTime.cls ≠ "java/lang/invoke/VarHandle" ∧ (parseMethodDescriptor yX2_isFreeInTime.desc).map (fun d => d.parameters.length) = some 2 := by decide +kernel
theorem mi_X2_sortIn : Cond.instanceMethod yX2_sortIn ∈ GW := memT (i := 695) (by decide +kernel) rfl
theorem ms_X2_sortIn : Cond.selects RX2 yX2_sortIn yX2_sortIn ∈ GW := memS (i := 12) (by decide +kernel) rfl
theorem mcd_X2_sortIn : Cond.code yX2_sortIn cX2_sortIn 4 none ∈ GW := memT (i := 696) (by decide +kernel) rfl
theorem mds_X2_sortIn : yX2_sortIn.cls ≠ "java/lang/invoke/MethodHandle" ∧ yX2_sortIn.cls ≠ "java/lang/invoke/VarHandle" ∧ (parseMethodDescriptor yX2_sortIn.desc).map (fun d => d.parameters.length) = some 2 := by decide +kernel
theorem mi_X2_extend : Cond.instanceMethod yX2_extend ∈ GW := memT (i := 708) (by decide +kernel) rfl
theorem ms_X2_extend : Cond.selects RX2 yX2_extend yX2_extend ∈ GW := memS (i := 14) (by decide +kernel) rfl
theorem mcd_X2_extend : Cond.code yX2_extend cX2_extend 10 none ∈ GW := memT (i := 709) (by decide +kernel) rfl
theorem mds_X2_extend : yX2_extend.cls ≠ "java/lang/invoke/MethodHandle" ∧ yX2_extend.cls ≠ "java/lang/invoke/VarHandle" ∧ (parseMethodDescriptor yX2_extend.desc).map (fun d => d.parameters.length) = some 6 := by decide +kernel
theorem mi_X2_isHopeless : Cond.instanceMethod yX2_isHopeless ∈ GW := memT (i := 712) (by decide +kernel) rfl
theorem ms_X2_isHopeless : Cond.selects RX2 yX2_isHopeless yX2_isHopeless ∈ GW := memS (i := 15) (by decide +kernel) rfl
theorem mcd_X2_isHopeless : Cond.code yX2_isHopeless cX2_isHopeless 6 (some .boolean) ∈ GW := memT (i := 713) (by decide +kernel) rfl
theorem mds_X2_isHopeless : yX2_isHopeless.cls ≠ "java/lang/invoke/MethodHandle" ∧ yX2_isHopeless.cls ≠ "java/lang/invoke/VarHandle" ∧ (parseMethodDescriptor yX2_isHopeless.desc).map (fun d => d.parameters.length) = some 4 := by decide +kernel
theorem mi_X2_tryNext : Cond.instanceMethod yX2_tryNext ∈ GW := memT (i := 738) (by decide +kernel) rfl
theorem ms_X2_tryNext : Cond.selects RX2 yX2_tryNext yX2_tryNext ∈ GW := memS (i := 20) (by decide +kernel) rfl
theorem mcd_X2_tryNext : Cond.code yX2_tryNext cX2_tryNext 13 none ∈ GW := memT (i := 739) (by decide +kernel) rfl
theorem mds_X2_tryNext : yX2_tryNext.cls ≠ "java/lang/invoke/MethodHandle" ∧ yX2_tryNext.cls ≠ "java/lang/invoke/VarHandle" ∧ (parseMethodDescriptor yX2_tryNext.desc).map (fun d => d.parameters.length) = some 6 := by decide +kernel
theorem mi_X2_tryLast : Cond.instanceMethod yX2_tryLast ∈ GW := memT (i := 716) (by decide +kernel) rfl
theorem ms_X2_tryLast : Cond.selects RX2 yX2_tryLast yX2_tryLast ∈ GW := memS (i := 16) (by decide +kernel) rfl
theorem mcd_X2_tryLast : Cond.code yX2_tryLast cX2_tryLast 11 none ∈ GW := memT (i := 717) (by decide +kernel) rfl
theorem mds_X2_tryLast : yX2_tryLast.cls ≠ "java/lang/invoke/MethodHandle" ∧ yX2_tryLast.cls ≠ "java/lang/invoke/VarHandle" ∧ (parseMethodDescriptor yX2_tryLast.desc).map (fun d => d.parameters.length) = some 6 := by decide +kernel
theorem mi_X2_firstThatFits : Cond.instanceMethod yX2_firstThatFits ∈ GW := memT (i := 720) (by decide +kernel) rfl
theorem ms_X2_firstThatFits : Cond.selects RX2 yX2_firstThatFits yX2_firstThatFits ∈ GW := memS (i := 17) (by decide +kernel) rfl
theorem mcd_X2_firstThatFits : Cond.code yX2_firstThatFits cX2_firstThatFits 6 (some .int) ∈ GW := memT (i := 721) (by decide +kernel) rfl
theorem mds_X2_firstThatFits : yX2_firstThatFits.cls ≠ "java/lang/invoke/MethodHandle" ∧ yX2_firstThatFits.cls ≠ "java/lang/invoke/VarHandle" ∧ (parseMethodDescriptor yX2_firstThatFits.desc).map (fun d => d.parameters.length) = some 2 := by decide +kernel
theorem mi_X2_mayBegin : Cond.instanceMethod yX2_mayBegin ∈ GW := memT (i := 724) (by decide +kernel) rfl
theorem ms_X2_mayBegin : Cond.selects RX2 yX2_mayBegin yX2_mayBegin ∈ GW := memS (i := 18) (by decide +kernel) rfl
theorem mcd_X2_mayBegin : Cond.code yX2_mayBegin cX2_mayBegin 5 (some .boolean) ∈ GW := memT (i := 725) (by decide +kernel) rfl
theorem mds_X2_mayBegin : yX2_mayBegin.cls ≠ "java/lang/invoke/MethodHandle" ∧ yX2_mayBegin.cls ≠ "java/lang/invoke/VarHandle" ∧ (parseMethodDescriptor yX2_mayBegin.desc).map (fun d => d.parameters.length) = some 4 := by decide +kernel
theorem mst_X2_stepsApart : Cond.static yX2_stepsApart ∈ GW := memT (i := 727) (by decide +kernel) rfl
theorem mcd_X2_stepsApart : Cond.code yX2_stepsApart cX2_stepsApart 3 (some .int) ∈ GW := memT (i := 728) (by decide +kernel) rfl
theorem mds_X2_stepsApart : yX2_stepsApart.cls ≠ "java/lang/invoke/MethodHandle" ∧ yX2_stepsApart.cls ≠ "java/lang/invoke/VarHandle" ∧ (parseMethodDescriptor yX2_stepsApart.desc).map (fun d => d.parameters.length) = some 2 := by decide +kernel
theorem mi_X2_compare : Cond.instanceMethod yX2_compare ∈ GW := memT (i := 734) (by decide +kernel) rfl
theorem ms_X2_compare : Cond.selects RX2 yX2_compare yX2_compare ∈ GW := memS (i := 19) (by decide +kernel) rfl
theorem mcd_X2_compare : Cond.code yX2_compare cX2_compare 7 none ∈ GW := memT (i := 735) (by decide +kernel) rfl
theorem mds_X2_compare : yX2_compare.cls ≠ "java/lang/invoke/MethodHandle" ∧ yX2_compare.cls ≠ "java/lang/invoke/VarHandle" ∧ (parseMethodDescriptor yX2_compare.desc).map (fun d => d.parameters.length) = some 4 := by decide +kernel
theorem mi_X3_read : Cond.instanceMethod yX3_read ∈ GW := memT (i := 361) (by decide +kernel) rfl
theorem ms_X3_read : Cond.selects RX3 yX3_read yX3_read ∈ GW := memT (i := 362) (by decide +kernel) rfl
theorem mcd_X3_read : Cond.code yX3_read cX3_read 3 (some .boolean) ∈ GW := memT (i := 363) (by decide +kernel) rfl
theorem mds_X3_read : yX3_read.cls ≠ "java/lang/invoke/MethodHandle" ∧ yX3_read.cls ≠ "java/lang/invoke/VarHandle" ∧ (parseMethodDescriptor yX3_read.desc).map (fun d => d.parameters.length) = some 1 := by decide +kernel
theorem mi_X3_startAnew : Cond.instanceMethod yX3_startAnew ∈ GW := memT (i := 366) (by decide +kernel) rfl
theorem ms_X3_startAnew : Cond.selects RX3 yX3_startAnew yX3_startAnew ∈ GW := memS (i := 0) (by decide +kernel) rfl
theorem mcd_X3_startAnew : Cond.code yX3_startAnew cX3_startAnew 2 none ∈ GW := memT (i := 367) (by decide +kernel) rfl
theorem mds_X3_startAnew : yX3_startAnew.cls ≠ "java/lang/invoke/MethodHandle" ∧ yX3_startAnew.cls ≠ "java/lang/invoke/VarHandle" ∧ (parseMethodDescriptor yX3_startAnew.desc).map (fun d => d.parameters.length) = some 0 := by decide +kernel
theorem mi_X3_readOne : Cond.instanceMethod yX3_readOne ∈ GW := memT (i := 397) (by decide +kernel) rfl
theorem ms_X3_readOne : Cond.selects RX3 yX3_readOne yX3_readOne ∈ GW := memS (i := 2) (by decide +kernel) rfl
theorem mcd_X3_readOne : Cond.code yX3_readOne cX3_readOne 3 (some .boolean) ∈ GW := memT (i := 398) (by decide +kernel) rfl
theorem mds_X3_readOne : yX3_readOne.cls ≠ "java/lang/invoke/MethodHandle" ∧ yX3_readOne.cls ≠ "java/lang/invoke/VarHandle" ∧ (parseMethodDescriptor yX3_readOne.desc).map (fun d => d.parameters.length) = some 1 := by decide +kernel
theorem mst_X3_named : Cond.static yX3_named ∈ GW := memT (i := 400) (by decide +kernel) rfl
theorem mcd_X3_named : Cond.code yX3_named cX3_named 1 (some .int) ∈ GW := memT (i := 401) (by decide +kernel) rfl
theorem mds_X3_named : yX3_named.cls ≠ "java/lang/invoke/MethodHandle" ∧ yX3_named.cls ≠ "java/lang/invoke/VarHandle" ∧ (parseMethodDescriptor yX3_named.desc).map (fun d => d.parameters.length) = some 1 := by decide +kernel
theorem mi_X4_has : Cond.instanceMethod yX4_has ∈ GW := memT (i := 502) (by decide +kernel) rfl
theorem ms_X4_has : Cond.selects RX4 yX4_has yX4_has ∈ GW := memT (i := 503) (by decide +kernel) rfl
theorem mcd_X4_has : Cond.code yX4_has cX4_has 2 (some .boolean) ∈ GW := memT (i := 504) (by decide +kernel) rfl
theorem mds_X4_has : yX4_has.cls ≠ "java/lang/invoke/MethodHandle" ∧ yX4_has.cls ≠ "java/lang/invoke/VarHandle" ∧ (parseMethodDescriptor yX4_has.desc).map (fun d => d.parameters.length) = some 1 := by decide +kernel
theorem mi_X4_add : Cond.instanceMethod yX4_add ∈ GW := memT (i := 494) (by decide +kernel) rfl
theorem ms_X4_add : Cond.selects RX4 yX4_add yX4_add ∈ GW := memT (i := 495) (by decide +kernel) rfl
theorem mcd_X4_add : Cond.code yX4_add cX4_add 7 (some .int) ∈ GW := memT (i := 496) (by decide +kernel) rfl
theorem mds_X4_add : yX4_add.cls ≠ "java/lang/invoke/MethodHandle" ∧ yX4_add.cls ≠ "java/lang/invoke/VarHandle" ∧ (parseMethodDescriptor yX4_add.desc).map (fun d => d.parameters.length) = some 5 := by decide +kernel
theorem mi_X4_takeVote : Cond.instanceMethod yX4_takeVote ∈ GW := memT (i := 506) (by decide +kernel) rfl
theorem ms_X4_takeVote : Cond.selects RX4 yX4_takeVote yX4_takeVote ∈ GW := memT (i := 507) (by decide +kernel) rfl
theorem mcd_X4_takeVote : Cond.code yX4_takeVote cX4_takeVote 4 none ∈ GW := memT (i := 508) (by decide +kernel) rfl
theorem mds_X4_takeVote : yX4_takeVote.cls ≠ "java/lang/invoke/MethodHandle" ∧ yX4_takeVote.cls ≠ "java/lang/invoke/VarHandle" ∧ (parseMethodDescriptor yX4_takeVote.desc).map (fun d => d.parameters.length) = some 2 := by decide +kernel
theorem mi_X4_heat : Cond.instanceMethod yX4_heat ∈ GW := memT (i := 510) (by decide +kernel) rfl
theorem ms_X4_heat : Cond.selects RX4 yX4_heat yX4_heat ∈ GW := memT (i := 511) (by decide +kernel) rfl
theorem mcd_X4_heat : Cond.code yX4_heat cX4_heat 2 (some .int) ∈ GW := memT (i := 512) (by decide +kernel) rfl
theorem mds_X4_heat : yX4_heat.cls ≠ "java/lang/invoke/MethodHandle" ∧ yX4_heat.cls ≠ "java/lang/invoke/VarHandle" ∧ (parseMethodDescriptor yX4_heat.desc).map (fun d => d.parameters.length) = some 1 := by decide +kernel
theorem mi_X4_allAsksOpen : Cond.instanceMethod yX4_allAsksOpen ∈ GW := memT (i := 546) (by decide +kernel) rfl
theorem ms_X4_allAsksOpen : Cond.selects RX4 yX4_allAsksOpen yX4_allAsksOpen ∈ GW := memT (i := 547) (by decide +kernel) rfl
theorem mcd_X4_allAsksOpen : Cond.code yX4_allAsksOpen cX4_allAsksOpen 3 (some .int) ∈ GW := memT (i := 548) (by decide +kernel) rfl
theorem mds_X4_allAsksOpen : yX4_allAsksOpen.cls ≠ "java/lang/invoke/MethodHandle" ∧ yX4_allAsksOpen.cls ≠ "java/lang/invoke/VarHandle" ∧ (parseMethodDescriptor yX4_allAsksOpen.desc).map (fun d => d.parameters.length) = some 0 := by decide +kernel
theorem mi_X4_begin : Cond.instanceMethod yX4_begin ∈ GW := memT (i := 741) (by decide +kernel) rfl
theorem ms_X4_begin : Cond.selects RX4 yX4_begin yX4_begin ∈ GW := memT (i := 742) (by decide +kernel) rfl
theorem mcd_X4_begin : Cond.code yX4_begin cX4_begin 3 none ∈ GW := memT (i := 743) (by decide +kernel) rfl
theorem mds_X4_begin : yX4_begin.cls ≠ "java/lang/invoke/MethodHandle" ∧ yX4_begin.cls ≠ "java/lang/invoke/VarHandle" ∧ (parseMethodDescriptor yX4_begin.desc).map (fun d => d.parameters.length) = some 2 := by decide +kernel
theorem mi_X5_hasRoomForFive : Cond.instanceMethod yX5_hasRoomForFive ∈ GW := memT (i := 345) (by decide +kernel) rfl
theorem ms_X5_hasRoomForFive : Cond.selects RX5 yX5_hasRoomForFive yX5_hasRoomForFive ∈ GW := memT (i := 346) (by decide +kernel) rfl
theorem mcd_X5_hasRoomForFive : Cond.code yX5_hasRoomForFive cX5_hasRoomForFive 1 (some .boolean) ∈ GW := memT (i := 347) (by decide +kernel) rfl
theorem mds_X5_hasRoomForFive : yX5_hasRoomForFive.cls ≠ "java/lang/invoke/MethodHandle" ∧ yX5_hasRoomForFive.cls ≠ "java/lang/invoke/VarHandle" ∧ (parseMethodDescriptor yX5_hasRoomForFive.desc).map (fun d => d.parameters.length) = some 0 := by decide +kernel
theorem mi_X5_append : Cond.instanceMethod yX5_append ∈ GW := memT (i := 349) (by decide +kernel) rfl
theorem ms_X5_append : Cond.selects RX5 yX5_append yX5_append ∈ GW := memT (i := 350) (by decide +kernel) rfl
theorem mcd_X5_append : Cond.code yX5_append cX5_append 3 none ∈ GW := memT (i := 351) (by decide +kernel) rfl
theorem mds_X5_append : yX5_append.cls ≠ "java/lang/invoke/MethodHandle" ∧ yX5_append.cls ≠ "java/lang/invoke/VarHandle" ∧ (parseMethodDescriptor yX5_append.desc).map (fun d => d.parameters.length) = some 1 := by decide +kernel
theorem mi_X5_start : Cond.instanceMethod yX5_start ∈ GW := memT (i := 369) (by decide +kernel) rfl
theorem ms_X5_start : Cond.selects RX5 yX5_start yX5_start ∈ GW := memT (i := 370) (by decide +kernel) rfl
theorem mcd_X5_start : Cond.code yX5_start cX5_start 2 none ∈ GW := memT (i := 371) (by decide +kernel) rfl
theorem mds_X5_start : yX5_start.cls ≠ "java/lang/invoke/MethodHandle" ∧ yX5_start.cls ≠ "java/lang/invoke/VarHandle" ∧ (parseMethodDescriptor yX5_start.desc).map (fun d => d.parameters.length) = some 1 := by decide +kernel
theorem mi_X5_step : Cond.instanceMethod yX5_step ∈ GW := memT (i := 373) (by decide +kernel) rfl
theorem ms_X5_step : Cond.selects RX5 yX5_step yX5_step ∈ GW := memT (i := 374) (by decide +kernel) rfl
theorem mcd_X5_step : Cond.code yX5_step cX5_step 2 none ∈ GW := memT (i := 375) (by decide +kernel) rfl
theorem mds_X5_step : yX5_step.cls ≠ "java/lang/invoke/MethodHandle" ∧ yX5_step.cls ≠ "java/lang/invoke/VarHandle" ∧ (parseMethodDescriptor yX5_step.desc).map (fun d => d.parameters.length) = some 0 := by decide +kernel
theorem mi_X5_readToken : Cond.instanceMethod yX5_readToken ∈ GW := memT (i := 381) (by decide +kernel) rfl
theorem ms_X5_readToken : Cond.selects RX5 yX5_readToken yX5_readToken ∈ GW := memS (i := 1) (by decide +kernel) rfl
theorem mcd_X5_readToken : Cond.code yX5_readToken cX5_readToken 6 none ∈ GW := memT (i := 382) (by decide +kernel) rfl
theorem mds_X5_readToken : yX5_readToken.cls ≠ "java/lang/invoke/MethodHandle" ∧ yX5_readToken.cls ≠ "java/lang/invoke/VarHandle" ∧ (parseMethodDescriptor yX5_readToken.desc).map (fun d => d.parameters.length) = some 1 := by decide +kernel
theorem mst_X5_kindOf : Cond.static yX5_kindOf ∈ GW := memT (i := 390) (by decide +kernel) rfl
theorem mcd_X5_kindOf : Cond.code yX5_kindOf cX5_kindOf 2 (some .int) ∈ GW := memT (i := 391) (by decide +kernel) rfl
theorem mds_X5_kindOf : yX5_kindOf.cls ≠ "java/lang/invoke/MethodHandle" ∧ yX5_kindOf.cls ≠ "java/lang/invoke/VarHandle" ∧ (parseMethodDescriptor yX5_kindOf.desc).map (fun d => d.parameters.length) = some 2 := by decide +kernel
theorem mi_X5_isWord : Cond.instanceMethod yX5_isWord ∈ GW := memT (i := 404) (by decide +kernel) rfl
theorem ms_X5_isWord : Cond.selects RX5 yX5_isWord yX5_isWord ∈ GW := memT (i := 405) (by decide +kernel) rfl
theorem mcd_X5_isWord : Cond.code yX5_isWord cX5_isWord 3 (some .boolean) ∈ GW := memT (i := 406) (by decide +kernel) rfl
theorem mds_X5_isWord : yX5_isWord.cls ≠ "java/lang/invoke/MethodHandle" ∧ yX5_isWord.cls ≠ "java/lang/invoke/VarHandle" ∧ (parseMethodDescriptor yX5_isWord.desc).map (fun d => d.parameters.length) = some 1 := by decide +kernel
theorem mi_X5_stepToNumber : Cond.instanceMethod yX5_stepToNumber ∈ GW := memT (i := 468) (by decide +kernel) rfl
theorem ms_X5_stepToNumber : Cond.selects RX5 yX5_stepToNumber yX5_stepToNumber ∈ GW := memT (i := 469) (by decide +kernel) rfl
theorem mcd_X5_stepToNumber : Cond.code yX5_stepToNumber cX5_stepToNumber 3 (some .boolean) ∈ GW := memT (i := 470) (by decide +kernel) rfl
theorem mds_X5_stepToNumber : yX5_stepToNumber.cls ≠ "java/lang/invoke/MethodHandle" ∧ yX5_stepToNumber.cls ≠ "java/lang/invoke/VarHandle" ∧ (parseMethodDescriptor yX5_stepToNumber.desc).map (fun d => d.parameters.length) = some 2 := by decide +kernel
theorem mi_X5_passSemicolon : Cond.instanceMethod yX5_passSemicolon ∈ GW := memT (i := 477) (by decide +kernel) rfl
theorem ms_X5_passSemicolon : Cond.selects RX5 yX5_passSemicolon yX5_passSemicolon ∈ GW := memT (i := 478) (by decide +kernel) rfl
theorem mcd_X5_passSemicolon : Cond.code yX5_passSemicolon cX5_passSemicolon 1 (some .boolean) ∈ GW := memT (i := 479) (by decide +kernel) rfl
theorem mds_X5_passSemicolon : yX5_passSemicolon.cls ≠ "java/lang/invoke/MethodHandle" ∧ yX5_passSemicolon.cls ≠ "java/lang/invoke/VarHandle" ∧ (parseMethodDescriptor yX5_passSemicolon.desc).map (fun d => d.parameters.length) = some 0 := by decide +kernel
theorem mi_X5_refuse : Cond.instanceMethod yX5_refuse ∈ GW := memT (i := 460) (by decide +kernel) rfl
theorem ms_X5_refuse : Cond.selects RX5 yX5_refuse yX5_refuse ∈ GW := memT (i := 461) (by decide +kernel) rfl
theorem mcd_X5_refuse : Cond.code yX5_refuse cX5_refuse 2 (some .boolean) ∈ GW := memT (i := 462) (by decide +kernel) rfl
theorem mds_X5_refuse : yX5_refuse.cls ≠ "java/lang/invoke/MethodHandle" ∧ yX5_refuse.cls ≠ "java/lang/invoke/VarHandle" ∧ (parseMethodDescriptor yX5_refuse.desc).map (fun d => d.parameters.length) = some 1 := by decide +kernel
theorem mst_X5_isBlank : Cond.static yX5_isBlank ∈ GW := memT (i := 377) (by decide +kernel) rfl
theorem mcd_X5_isBlank : Cond.code yX5_isBlank cX5_isBlank 1 (some .boolean) ∈ GW := memT (i := 378) (by decide +kernel) rfl
theorem mds_X5_isBlank : yX5_isBlank.cls ≠ "java/lang/invoke/MethodHandle" ∧ yX5_isBlank.cls ≠ "java/lang/invoke/VarHandle" ∧ (parseMethodDescriptor yX5_isBlank.desc).map (fun d => d.parameters.length) = some 1 := by decide +kernel
theorem mst_X5_isLetter : Cond.static yX5_isLetter ∈ GW := memT (i := 384) (by decide +kernel) rfl
theorem mcd_X5_isLetter : Cond.code yX5_isLetter cX5_isLetter 1 (some .boolean) ∈ GW := memT (i := 385) (by decide +kernel) rfl
theorem mds_X5_isLetter : yX5_isLetter.cls ≠ "java/lang/invoke/MethodHandle" ∧ yX5_isLetter.cls ≠ "java/lang/invoke/VarHandle" ∧ (parseMethodDescriptor yX5_isLetter.desc).map (fun d => d.parameters.length) = some 1 := by decide +kernel
theorem mst_X5_isDigit : Cond.static yX5_isDigit ∈ GW := memT (i := 387) (by decide +kernel) rfl
theorem mcd_X5_isDigit : Cond.code yX5_isDigit cX5_isDigit 1 (some .boolean) ∈ GW := memT (i := 388) (by decide +kernel) rfl
theorem mds_X5_isDigit : yX5_isDigit.cls ≠ "java/lang/invoke/MethodHandle" ∧ yX5_isDigit.cls ≠ "java/lang/invoke/VarHandle" ∧ (parseMethodDescriptor yX5_isDigit.desc).map (fun d => d.parameters.length) = some 1 := by decide +kernel
theorem mi_X6_feed : Cond.instanceMethod yX6_feed ∈ GW := memT (i := 341) (by decide +kernel) rfl
theorem ms_X6_feed : Cond.selects RX6 yX6_feed yX6_feed ∈ GW := memT (i := 342) (by decide +kernel) rfl
theorem mcd_X6_feed : Cond.code yX6_feed cX6_feed 6 (some .int) ∈ GW := memT (i := 343) (by decide +kernel) rfl
theorem mds_X6_feed : yX6_feed.cls ≠ "java/lang/invoke/MethodHandle" ∧ yX6_feed.cls ≠ "java/lang/invoke/VarHandle" ∧ (parseMethodDescriptor yX6_feed.desc).map (fun d => d.parameters.length) = some 5 := by decide +kernel
theorem mi_X6_end : Cond.instanceMethod yX6_end ∈ GW := memT (i := 353) (by decide +kernel) rfl
theorem ms_X6_end : Cond.selects RX6 yX6_end yX6_end ∈ GW := memT (i := 354) (by decide +kernel) rfl
theorem mcd_X6_end : Cond.code yX6_end cX6_end 2 (some .boolean) ∈ GW := memT (i := 355) (by decide +kernel) rfl
theorem mds_X6_end : yX6_end.cls ≠ "java/lang/invoke/MethodHandle" ∧ yX6_end.cls ≠ "java/lang/invoke/VarHandle" ∧ (parseMethodDescriptor yX6_end.desc).map (fun d => d.parameters.length) = some 1 := by decide +kernel
theorem mi_X6_rules : Cond.instanceMethod yX6_rules ∈ GW := memT (i := 357) (by decide +kernel) rfl
theorem ms_X6_rules : Cond.selects RX6 yX6_rules yX6_rules ∈ GW := memT (i := 358) (by decide +kernel) rfl
theorem mcd_X6_rules : Cond.code yX6_rules cX6_rules 2 (some .int) ∈ GW := memT (i := 359) (by decide +kernel) rfl
theorem mds_X6_rules : yX6_rules.cls ≠ "java/lang/invoke/MethodHandle" ∧ yX6_rules.cls ≠ "java/lang/invoke/VarHandle" ∧ (parseMethodDescriptor yX6_rules.desc).map (fun d => d.parameters.length) = some 0 := by decide +kernel
theorem mi_X6_clock : Cond.instanceMethod yX6_clock ∈ GW := memT (i := 554) (by decide +kernel) rfl
theorem ms_X6_clock : Cond.selects RX6 yX6_clock yX6_clock ∈ GW := memT (i := 555) (by decide +kernel) rfl
theorem mcd_X6_clock : Cond.code yX6_clock cX6_clock 3 (some .int) ∈ GW := memT (i := 556) (by decide +kernel) rfl
theorem mds_X6_clock : yX6_clock.cls ≠ "java/lang/invoke/MethodHandle" ∧ yX6_clock.cls ≠ "java/lang/invoke/VarHandle" ∧ (parseMethodDescriptor yX6_clock.desc).map (fun d => d.parameters.length) = some 1 := by decide +kernel
theorem mi_X6_fault : Cond.instanceMethod yX6_fault ∈ GW := memT (i := 481) (by decide +kernel) rfl
theorem ms_X6_fault : Cond.selects RX6 yX6_fault yX6_fault ∈ GW := memT (i := 482) (by decide +kernel) rfl
theorem mcd_X6_fault : Cond.code yX6_fault cX6_fault 1 (some .int) ∈ GW := memT (i := 483) (by decide +kernel) rfl
theorem mds_X6_fault : yX6_fault.cls ≠ "java/lang/invoke/MethodHandle" ∧ yX6_fault.cls ≠ "java/lang/invoke/VarHandle" ∧ (parseMethodDescriptor yX6_fault.desc).map (fun d => d.parameters.length) = some 0 := by decide +kernel
theorem mi_X6_rule : Cond.instanceMethod yX6_rule ∈ GW := memT (i := 485) (by decide +kernel) rfl
theorem ms_X6_rule : Cond.selects RX6 yX6_rule yX6_rule ∈ GW := memT (i := 486) (by decide +kernel) rfl
theorem mcd_X6_rule : Cond.code yX6_rule cX6_rule 2 (some .int) ∈ GW := memT (i := 487) (by decide +kernel) rfl
theorem mds_X6_rule : yX6_rule.cls ≠ "java/lang/invoke/MethodHandle" ∧ yX6_rule.cls ≠ "java/lang/invoke/VarHandle" ∧ (parseMethodDescriptor yX6_rule.desc).map (fun d => d.parameters.length) = some 1 := by decide +kernel
theorem mi_X6_song : Cond.instanceMethod yX6_song ∈ GW := memT (i := 489) (by decide +kernel) rfl
theorem ms_X6_song : Cond.selects RX6 yX6_song yX6_song ∈ GW := memT (i := 490) (by decide +kernel) rfl
theorem mcd_X6_song : Cond.code yX6_song cX6_song 7 (some .int) ∈ GW := memT (i := 491) (by decide +kernel) rfl
theorem mds_X6_song : yX6_song.cls ≠ "java/lang/invoke/MethodHandle" ∧ yX6_song.cls ≠ "java/lang/invoke/VarHandle" ∧ (parseMethodDescriptor yX6_song.desc).map (fun d => d.parameters.length) = some 5 := by decide +kernel
theorem mi_X6_vote : Cond.instanceMethod yX6_vote ∈ GW := memT (i := 498) (by decide +kernel) rfl
theorem ms_X6_vote : Cond.selects RX6 yX6_vote yX6_vote ∈ GW := memT (i := 499) (by decide +kernel) rfl
theorem mcd_X6_vote : Cond.code yX6_vote cX6_vote 3 (some .int) ∈ GW := memT (i := 500) (by decide +kernel) rfl
theorem mds_X6_vote : yX6_vote.cls ≠ "java/lang/invoke/MethodHandle" ∧ yX6_vote.cls ≠ "java/lang/invoke/VarHandle" ∧ (parseMethodDescriptor yX6_vote.desc).map (fun d => d.parameters.length) = some 2 := by decide +kernel
theorem mi_X6_ask : Cond.instanceMethod yX6_ask ∈ GW := memT (i := 514) (by decide +kernel) rfl
theorem ms_X6_ask : Cond.selects RX6 yX6_ask yX6_ask ∈ GW := memT (i := 515) (by decide +kernel) rfl
theorem mcd_X6_ask : Cond.code yX6_ask cX6_ask 2 (some .int) ∈ GW := memT (i := 516) (by decide +kernel) rfl
theorem mds_X6_ask : yX6_ask.cls ≠ "java/lang/invoke/MethodHandle" ∧ yX6_ask.cls ≠ "java/lang/invoke/VarHandle" ∧ (parseMethodDescriptor yX6_ask.desc).map (fun d => d.parameters.length) = some 1 := by decide +kernel
theorem mi_X6_lay : Cond.instanceMethod yX6_lay ∈ GW := memT (i := 660) (by decide +kernel) rfl
theorem ms_X6_lay : Cond.selects RX6 yX6_lay yX6_lay ∈ GW := memT (i := 661) (by decide +kernel) rfl
theorem mcd_X6_lay : Cond.code yX6_lay cX6_lay 6 (some .int) ∈ GW := memT (i := 662) (by decide +kernel) rfl
theorem mds_X6_lay : yX6_lay.cls ≠ "java/lang/invoke/MethodHandle" ∧ yX6_lay.cls ≠ "java/lang/invoke/VarHandle" ∧ (parseMethodDescriptor yX6_lay.desc).map (fun d => d.parameters.length) = some 1 := by decide +kernel
theorem mi_X6_told : Cond.instanceMethod yX6_told ∈ GW := memT (i := 518) (by decide +kernel) rfl
theorem ms_X6_told : Cond.selects RX6 yX6_told yX6_told ∈ GW := memT (i := 519) (by decide +kernel) rfl
theorem mcd_X6_told : Cond.code yX6_told cX6_told 3 (some .int) ∈ GW := memT (i := 520) (by decide +kernel) rfl
theorem mds_X6_told : yX6_told.cls ≠ "java/lang/invoke/MethodHandle" ∧ yX6_told.cls ≠ "java/lang/invoke/VarHandle" ∧ (parseMethodDescriptor yX6_told.desc).map (fun d => d.parameters.length) = some 2 := by decide +kernel
theorem mi_X6_play : Cond.instanceMethod yX6_play ∈ GW := memT (i := 761) (by decide +kernel) rfl
theorem ms_X6_play : Cond.selects RX6 yX6_play yX6_play ∈ GW := memT (i := 762) (by decide +kernel) rfl
theorem mcd_X6_play : Cond.code yX6_play cX6_play 3 (some .int) ∈ GW := memT (i := 763) (by decide +kernel) rfl
theorem mds_X6_play : yX6_play.cls ≠ "java/lang/invoke/MethodHandle" ∧ yX6_play.cls ≠ "java/lang/invoke/VarHandle" ∧ (parseMethodDescriptor yX6_play.desc).map (fun d => d.parameters.length) = some 2 := by decide +kernel
theorem mi_X6_left : Cond.instanceMethod yX6_left ∈ GW := memT (i := 784) (by decide +kernel) rfl
theorem ms_X6_left : Cond.selects RX6 yX6_left yX6_left ∈ GW := memT (i := 785) (by decide +kernel) rfl
theorem mcd_X6_left : Cond.code yX6_left cX6_left 3 (some .int) ∈ GW := memT (i := 786) (by decide +kernel) rfl
theorem mds_X6_left : yX6_left.cls ≠ "java/lang/invoke/MethodHandle" ∧ yX6_left.cls ≠ "java/lang/invoke/VarHandle" ∧ (parseMethodDescriptor yX6_left.desc).map (fun d => d.parameters.length) = some 2 := by decide +kernel
theorem mi_X6_at : Cond.instanceMethod yX6_at ∈ GW := memT (i := 522) (by decide +kernel) rfl
theorem ms_X6_at : Cond.selects RX6 yX6_at yX6_at ∈ GW := memT (i := 523) (by decide +kernel) rfl
theorem mcd_X6_at : Cond.code yX6_at cX6_at 3 (some .int) ∈ GW := memT (i := 524) (by decide +kernel) rfl
theorem mds_X6_at : yX6_at.cls ≠ "java/lang/invoke/MethodHandle" ∧ yX6_at.cls ≠ "java/lang/invoke/VarHandle" ∧ (parseMethodDescriptor yX6_at.desc).map (fun d => d.parameters.length) = some 1 := by decide +kernel
theorem mi_X6_rights : Cond.instanceMethod yX6_rights ∈ GW := memT (i := 530) (by decide +kernel) rfl
theorem ms_X6_rights : Cond.selects RX6 yX6_rights yX6_rights ∈ GW := memT (i := 531) (by decide +kernel) rfl
theorem mcd_X6_rights : Cond.code yX6_rights cX6_rights 6 (some .int) ∈ GW := memT (i := 532) (by decide +kernel) rfl
theorem mds_X6_rights : yX6_rights.cls ≠ "java/lang/invoke/MethodHandle" ∧ yX6_rights.cls ≠ "java/lang/invoke/VarHandle" ∧ (parseMethodDescriptor yX6_rights.desc).map (fun d => d.parameters.length) = some 3 := by decide +kernel
theorem mi_X6_items : Cond.instanceMethod yX6_items ∈ GW := memT (i := 792) (by decide +kernel) rfl
theorem ms_X6_items : Cond.selects RX6 yX6_items yX6_items ∈ GW := memT (i := 793) (by decide +kernel) rfl
theorem mcd_X6_items : Cond.code yX6_items cX6_items 2 (some .int) ∈ GW := memT (i := 794) (by decide +kernel) rfl
theorem mds_X6_items : yX6_items.cls ≠ "java/lang/invoke/MethodHandle" ∧ yX6_items.cls ≠ "java/lang/invoke/VarHandle" ∧ (parseMethodDescriptor yX6_items.desc).map (fun d => d.parameters.length) = some 1 := by decide +kernel
theorem mi_X6_count : Cond.instanceMethod yX6_count ∈ GW := memT (i := 542) (by decide +kernel) rfl
theorem ms_X6_count : Cond.selects RX6 yX6_count yX6_count ∈ GW := memT (i := 543) (by decide +kernel) rfl
theorem mcd_X6_count : Cond.code yX6_count cX6_count 2 (some .int) ∈ GW := memT (i := 544) (by decide +kernel) rfl
theorem mds_X6_count : yX6_count.cls ≠ "java/lang/invoke/MethodHandle" ∧ yX6_count.cls ≠ "java/lang/invoke/VarHandle" ∧ (parseMethodDescriptor yX6_count.desc).map (fun d => d.parameters.length) = some 1 := by decide +kernel
theorem mst_X6_isClock : Cond.static yX6_isClock ∈ GW := memT (i := 558) (by decide +kernel) rfl
theorem mcd_X6_isClock : Cond.code yX6_isClock cX6_isClock 1 (some .boolean) ∈ GW := memT (i := 559) (by decide +kernel) rfl
theorem mds_X6_isClock : yX6_isClock.cls ≠ "java/lang/invoke/MethodHandle" ∧ yX6_isClock.cls ≠ "java/lang/invoke/VarHandle" ∧ (parseMethodDescriptor yX6_isClock.desc).map (fun d => d.parameters.length) = some 1 := by decide +kernel
theorem mst_X6_isWithin : Cond.static yX6_isWithin ∈ GW := memT (i := 473) (by decide +kernel) rfl
theorem mcd_X6_isWithin : Cond.code yX6_isWithin cX6_isWithin 3 (some .boolean) ∈ GW := memT (i := 474) (by decide +kernel) rfl
theorem mds_X6_isWithin : yX6_isWithin.cls ≠ "java/lang/invoke/MethodHandle" ∧ yX6_isWithin.cls ≠ "java/lang/invoke/VarHandle" ∧ (parseMethodDescriptor yX6_isWithin.desc).map (fun d => d.parameters.length) = some 3 := by decide +kernel
theorem mi_X6_fillStretch : Cond.instanceMethod yX6_fillStretch ∈ GW := memT (i := 679) (by decide +kernel) rfl
theorem ms_X6_fillStretch : Cond.selects RX6 yX6_fillStretch yX6_fillStretch ∈ GW := memS (i := 9) (by decide +kernel) rfl
theorem mcd_X6_fillStretch : Cond.code yX6_fillStretch cX6_fillStretch 8 (some .boolean) ∈ GW := memT (i := 680) (by decide +kernel) rfl
theorem mds_X6_fillStretch : yX6_fillStretch.cls ≠ "java/lang/invoke/MethodHandle" ∧ yX6_fillStretch.cls ≠ "java/lang/invoke/VarHandle" ∧ (parseMethodDescriptor yX6_fillStretch.desc).map (fun d => d.parameters.length) = some 3 := by decide +kernel
theorem mi_X6_keyAhead : Cond.instanceMethod yX6_keyAhead ∈ GW := memT (i := 700) (by decide +kernel) rfl
theorem ms_X6_keyAhead : Cond.selects RX6 yX6_keyAhead yX6_keyAhead ∈ GW := memS (i := 13) (by decide +kernel) rfl
theorem mcd_X6_keyAhead : Cond.code yX6_keyAhead cX6_keyAhead 3 (some .int) ∈ GW := memT (i := 701) (by decide +kernel) rfl
theorem mds_X6_keyAhead : yX6_keyAhead.cls ≠ "java/lang/invoke/MethodHandle" ∧ yX6_keyAhead.cls ≠ "java/lang/invoke/VarHandle" ∧ (parseMethodDescriptor yX6_keyAhead.desc).map (fun d => d.parameters.length) = some 1 := by decide +kernel
theorem mi_X6_endOfPlay : Cond.instanceMethod yX6_endOfPlay ∈ GW := memT (i := 527) (by decide +kernel) rfl
theorem ms_X6_endOfPlay : Cond.selects RX6 yX6_endOfPlay yX6_endOfPlay ∈ GW := memS (i := 3) (by decide +kernel) rfl
theorem mcd_X6_endOfPlay : Cond.code yX6_endOfPlay cX6_endOfPlay 2 (some .int) ∈ GW := memT (i := 528) (by decide +kernel) rfl
theorem mds_X6_endOfPlay : yX6_endOfPlay.cls ≠ "java/lang/invoke/MethodHandle" ∧ yX6_endOfPlay.cls ≠ "java/lang/invoke/VarHandle" ∧ (parseMethodDescriptor yX6_endOfPlay.desc).map (fun d => d.parameters.length) = some 1 := by decide +kernel
theorem mi_X6_secondsWithin : Cond.instanceMethod yX6_secondsWithin ∈ GW := memT (i := 535) (by decide +kernel) rfl
theorem ms_X6_secondsWithin : Cond.selects RX6 yX6_secondsWithin yX6_secondsWithin ∈ GW := memS (i := 4) (by decide +kernel) rfl
theorem mcd_X6_secondsWithin : Cond.code yX6_secondsWithin cX6_secondsWithin 6 (some .int) ∈ GW := memT (i := 536) (by decide +kernel) rfl
theorem mds_X6_secondsWithin : yX6_secondsWithin.cls ≠ "java/lang/invoke/MethodHandle" ∧ yX6_secondsWithin.cls ≠ "java/lang/invoke/VarHandle" ∧ (parseMethodDescriptor yX6_secondsWithin.desc).map (fun d => d.parameters.length) = some 3 := by decide +kernel
theorem mi_X7_thrown : Cond.instanceMethod yX7_thrown ∈ GW := memT (i := 966) (by decide +kernel) rfl
theorem ms_X7_thrown : Cond.selects RX7 yX7_thrown yX7_thrown ∈ GW := memT (i := 967) (by decide +kernel) rfl
theorem mcd_X7_thrown : Cond.code yX7_thrown cX7_thrown 1 (some .int) ∈ GW := memT (i := 968) (by decide +kernel) rfl
theorem mds_X7_thrown : yX7_thrown.cls ≠ "java/lang/invoke/MethodHandle" ∧ yX7_thrown.cls ≠ "java/lang/invoke/VarHandle" ∧ (parseMethodDescriptor yX7_thrown.desc).map (fun d => d.parameters.length) = some 0 := by decide +kernel
theorem mi_X7_refuse : Cond.instanceMethod yX7_refuse ∈ GW := memT (i := 1038) (by decide +kernel) rfl
theorem ms_X7_refuse : Cond.selects RX7 yX7_refuse yX7_refuse ∈ GW := memS (i := 30) (by decide +kernel) rfl
theorem mcd_X7_refuse : Cond.code yX7_refuse cX7_refuse 1 (some .int) ∈ GW := memT (i := 1039) (by decide +kernel) rfl
theorem mds_X7_refuse : yX7_refuse.cls ≠ "java/lang/invoke/MethodHandle" ∧ yX7_refuse.cls ≠ "java/lang/invoke/VarHandle" ∧ (parseMethodDescriptor yX7_refuse.desc).map (fun d => d.parameters.length) = some 0 := by decide +kernel
theorem mi_X7_come : Cond.instanceMethod yX7_come ∈ GW := memT (i := 975) (by decide +kernel) rfl
theorem ms_X7_come : Cond.selects RX7 yX7_come yX7_come ∈ GW := memS (i := 21) (by decide +kernel) rfl
theorem mcd_X7_come : Cond.code yX7_come cX7_come 3 none ∈ GW := memT (i := 976) (by decide +kernel) rfl
theorem mds_X7_come : yX7_come.cls ≠ "java/lang/invoke/MethodHandle" ∧ yX7_come.cls ≠ "java/lang/invoke/VarHandle" ∧ (parseMethodDescriptor yX7_come.desc).map (fun d => d.parameters.length) = some 1 := by decide +kernel
theorem mi_X7_feed : Cond.instanceMethod yX7_feed ∈ GW := memT (i := 970) (by decide +kernel) rfl
theorem ms_X7_feed : Cond.selects RX7 yX7_feed yX7_feed ∈ GW := memT (i := 971) (by decide +kernel) rfl
theorem mcd_X7_feed : Cond.code yX7_feed cX7_feed 6 (some .int) ∈ GW := memT (i := 972) (by decide +kernel) rfl
theorem mds_X7_feed : yX7_feed.cls ≠ "java/lang/invoke/MethodHandle" ∧ yX7_feed.cls ≠ "java/lang/invoke/VarHandle" ∧ (parseMethodDescriptor yX7_feed.desc).map (fun d => d.parameters.length) = some 5 := by decide +kernel
theorem mi_X7_end : Cond.instanceMethod yX7_end ∈ GW := memT (i := 978) (by decide +kernel) rfl
theorem ms_X7_end : Cond.selects RX7 yX7_end yX7_end ∈ GW := memT (i := 979) (by decide +kernel) rfl
theorem mcd_X7_end : Cond.code yX7_end cX7_end 2 (some .boolean) ∈ GW := memT (i := 980) (by decide +kernel) rfl
theorem mds_X7_end : yX7_end.cls ≠ "java/lang/invoke/MethodHandle" ∧ yX7_end.cls ≠ "java/lang/invoke/VarHandle" ∧ (parseMethodDescriptor yX7_end.desc).map (fun d => d.parameters.length) = some 1 := by decide +kernel
theorem mi_X7_byteAt : Cond.instanceMethod yX7_byteAt ∈ GW := memT (i := 1001) (by decide +kernel) rfl
theorem ms_X7_byteAt : Cond.selects RX7 yX7_byteAt yX7_byteAt ∈ GW := memS (i := 24) (by decide +kernel) rfl
theorem mcd_X7_byteAt : Cond.code yX7_byteAt cX7_byteAt 2 (some .int) ∈ GW := memT (i := 1002) (by decide +kernel) rfl
theorem mds_X7_byteAt : yX7_byteAt.cls ≠ "java/lang/invoke/MethodHandle" ∧ yX7_byteAt.cls ≠ "java/lang/invoke/VarHandle" ∧ (parseMethodDescriptor yX7_byteAt.desc).map (fun d => d.parameters.length) = some 1 := by decide +kernel
theorem mst_X7_isDigit : Cond.static yX7_isDigit ∈ GW := memT (i := 997) (by decide +kernel) rfl
theorem mcd_X7_isDigit : Cond.code yX7_isDigit cX7_isDigit 1 (some .boolean) ∈ GW := memT (i := 998) (by decide +kernel) rfl
theorem mds_X7_isDigit : yX7_isDigit.cls ≠ "java/lang/invoke/MethodHandle" ∧ yX7_isDigit.cls ≠ "java/lang/invoke/VarHandle" ∧ (parseMethodDescriptor yX7_isDigit.desc).map (fun d => d.parameters.length) = some 1 := by decide +kernel
theorem mst_X7_isLetter : Cond.static yX7_isLetter ∈ GW := memT (i := 994) (by decide +kernel) rfl
theorem mcd_X7_isLetter : Cond.code yX7_isLetter cX7_isLetter 1 (some .boolean) ∈ GW := memT (i := 995) (by decide +kernel) rfl
theorem mds_X7_isLetter : yX7_isLetter.cls ≠ "java/lang/invoke/MethodHandle" ∧ yX7_isLetter.cls ≠ "java/lang/invoke/VarHandle" ∧ (parseMethodDescriptor yX7_isLetter.desc).map (fun d => d.parameters.length) = some 1 := by decide +kernel
theorem mi_X7_go : Cond.instanceMethod yX7_go ∈ GW := memT (i := 991) (by decide +kernel) rfl
theorem ms_X7_go : Cond.selects RX7 yX7_go yX7_go ∈ GW := memS (i := 23) (by decide +kernel) rfl
theorem mcd_X7_go : Cond.code yX7_go cX7_go 5 none ∈ GW := memT (i := 992) (by decide +kernel) rfl
theorem mds_X7_go : yX7_go.cls ≠ "java/lang/invoke/MethodHandle" ∧ yX7_go.cls ≠ "java/lang/invoke/VarHandle" ∧ (parseMethodDescriptor yX7_go.desc).map (fun d => d.parameters.length) = some 0 := by decide +kernel
theorem mst_X7_spelt : Cond.static yX7_spelt ∈ GW := memT (i := 1015) (by decide +kernel) rfl
theorem mcd_X7_spelt : Cond.code yX7_spelt cX7_spelt 8 (some .long) ∈ GW := memT (i := 1016) (by decide +kernel) rfl
theorem mds_X7_spelt : yX7_spelt.cls ≠ "java/lang/invoke/MethodHandle" ∧ yX7_spelt.cls ≠ "java/lang/invoke/VarHandle" ∧ (parseMethodDescriptor yX7_spelt.desc).map (fun d => d.parameters.length) = some 6 := by decide +kernel
theorem mi_X7_isKey : Cond.instanceMethod yX7_isKey ∈ GW := memT (i := 1019) (by decide +kernel) rfl
theorem ms_X7_isKey : Cond.selects RX7 yX7_isKey yX7_isKey ∈ GW := memS (i := 27) (by decide +kernel) rfl
theorem mcd_X7_isKey : Cond.code yX7_isKey cX7_isKey 3 (some .boolean) ∈ GW := memT (i := 1020) (by decide +kernel) rfl
theorem mds_X7_isKey : yX7_isKey.cls ≠ "java/lang/invoke/MethodHandle" ∧ yX7_isKey.cls ≠ "java/lang/invoke/VarHandle" ∧ (parseMethodDescriptor yX7_isKey.desc).map (fun d => d.parameters.length) = some 1 := by decide +kernel
theorem mi_X7_bad : Cond.instanceMethod yX7_bad ∈ GW := memT (i := 1023) (by decide +kernel) rfl
theorem ms_X7_bad : Cond.selects RX7 yX7_bad yX7_bad ∈ GW := memS (i := 28) (by decide +kernel) rfl
theorem mcd_X7_bad : Cond.code yX7_bad cX7_bad 2 (some .boolean) ∈ GW := memT (i := 1024) (by decide +kernel) rfl
theorem mds_X7_bad : yX7_bad.cls ≠ "java/lang/invoke/MethodHandle" ∧ yX7_bad.cls ≠ "java/lang/invoke/VarHandle" ∧ (parseMethodDescriptor yX7_bad.desc).map (fun d => d.parameters.length) = some 1 := by decide +kernel
theorem mi_X7_begins : Cond.instanceMethod yX7_begins ∈ GW := memT (i := 987) (by decide +kernel) rfl
theorem ms_X7_begins : Cond.selects RX7 yX7_begins yX7_begins ∈ GW := memS (i := 22) (by decide +kernel) rfl
theorem mcd_X7_begins : Cond.code yX7_begins cX7_begins 2 none ∈ GW := memT (i := 988) (by decide +kernel) rfl
theorem mds_X7_begins : yX7_begins.cls ≠ "java/lang/invoke/MethodHandle" ∧ yX7_begins.cls ≠ "java/lang/invoke/VarHandle" ∧ (parseMethodDescriptor yX7_begins.desc).map (fun d => d.parameters.length) = some 1 := by decide +kernel
theorem mi_X7_readNumber : Cond.instanceMethod yX7_readNumber ∈ GW := memT (i := 1027) (by decide +kernel) rfl
theorem ms_X7_readNumber : Cond.selects RX7 yX7_readNumber yX7_readNumber ∈ GW := memS (i := 29) (by decide +kernel) rfl
theorem mcd_X7_readNumber : Cond.code yX7_readNumber cX7_readNumber 3 (some .boolean) ∈ GW := memT (i := 1028) (by decide +kernel) rfl
theorem mds_X7_readNumber : yX7_readNumber.cls ≠ "java/lang/invoke/MethodHandle" ∧ yX7_readNumber.cls ≠ "java/lang/invoke/VarHandle" ∧ (parseMethodDescriptor yX7_readNumber.desc).map (fun d => d.parameters.length) = some 2 := by decide +kernel
theorem mi_X7_ruleAtHand : Cond.instanceMethod yX7_ruleAtHand ∈ GW := memT (i := 1012) (by decide +kernel) rfl
theorem ms_X7_ruleAtHand : Cond.selects RX7 yX7_ruleAtHand yX7_ruleAtHand ∈ GW := memS (i := 26) (by decide +kernel) rfl
theorem mcd_X7_ruleAtHand : Cond.code yX7_ruleAtHand cX7_ruleAtHand 1 (some .int) ∈ GW := memT (i := 1013) (by decide +kernel) rfl
theorem mds_X7_ruleAtHand : yX7_ruleAtHand.cls ≠ "java/lang/invoke/MethodHandle" ∧ yX7_ruleAtHand.cls ≠ "java/lang/invoke/VarHandle" ∧ (parseMethodDescriptor yX7_ruleAtHand.desc).map (fun d => d.parameters.length) = some 0 := by decide +kernel
theorem mi_X7_readRule : Cond.instanceMethod yX7_readRule ∈ GW := memT (i := 1008) (by decide +kernel) rfl
theorem ms_X7_readRule : Cond.selects RX7 yX7_readRule yX7_readRule ∈ GW := memS (i := 25) (by decide +kernel) rfl
theorem mcd_X7_readRule : Cond.code yX7_readRule cX7_readRule 2 (some .boolean) ∈ GW := memT (i := 1009) (by decide +kernel) rfl
theorem mds_X7_readRule : yX7_readRule.cls ≠ "java/lang/invoke/MethodHandle" ∧ yX7_readRule.cls ≠ "java/lang/invoke/VarHandle" ∧ (parseMethodDescriptor yX7_readRule.desc).map (fun d => d.parameters.length) = some 0 := by decide +kernel
theorem mi_X7_rules : Cond.instanceMethod yX7_rules ∈ GW := memT (i := 982) (by decide +kernel) rfl
theorem ms_X7_rules : Cond.selects RX7 yX7_rules yX7_rules ∈ GW := memT (i := 983) (by decide +kernel) rfl
theorem mcd_X7_rules : Cond.code yX7_rules cX7_rules 3 (some .int) ∈ GW := memT (i := 984) (by decide +kernel) rfl
theorem mds_X7_rules : yX7_rules.cls ≠ "java/lang/invoke/MethodHandle" ∧ yX7_rules.cls ≠ "java/lang/invoke/VarHandle" ∧ (parseMethodDescriptor yX7_rules.desc).map (fun d => d.parameters.length) = some 0 := by decide +kernel
theorem mi_X7_readItem : Cond.instanceMethod yX7_readItem ∈ GW := memT (i := 1042) (by decide +kernel) rfl
theorem ms_X7_readItem : Cond.selects RX7 yX7_readItem yX7_readItem ∈ GW := memS (i := 31) (by decide +kernel) rfl
theorem mcd_X7_readItem : Cond.code yX7_readItem cX7_readItem 3 (some .boolean) ∈ GW := memT (i := 1043) (by decide +kernel) rfl
theorem mds_X7_readItem : yX7_readItem.cls ≠ "java/lang/invoke/MethodHandle" ∧ yX7_readItem.cls ≠ "java/lang/invoke/VarHandle" ∧ (parseMethodDescriptor yX7_readItem.desc).map (fun d => d.parameters.length) = some 0 := by decide +kernel
theorem mst_X7_isClock : Cond.static yX7_isClock ∈ GW := memT (i := 1034) (by decide +kernel) rfl
theorem mcd_X7_isClock : Cond.code yX7_isClock cX7_isClock 1 (some .boolean) ∈ GW := memT (i := 1035) (by decide +kernel) rfl
theorem mds_X7_isClock : yX7_isClock.cls ≠ "java/lang/invoke/MethodHandle" ∧ yX7_isClock.cls ≠ "java/lang/invoke/VarHandle" ∧ (parseMethodDescriptor yX7_isClock.desc).map (fun d => d.parameters.length) = some 1 := by decide +kernel
theorem mi_X7_clock : Cond.instanceMethod yX7_clock ∈ GW := memT (i := 1030) (by decide +kernel) rfl
theorem ms_X7_clock : Cond.selects RX7 yX7_clock yX7_clock ∈ GW := memT (i := 1031) (by decide +kernel) rfl
theorem mcd_X7_clock : Cond.code yX7_clock cX7_clock 3 (some .int) ∈ GW := memT (i := 1032) (by decide +kernel) rfl
theorem mds_X7_clock : yX7_clock.cls ≠ "java/lang/invoke/MethodHandle" ∧ yX7_clock.cls ≠ "java/lang/invoke/VarHandle" ∧ (parseMethodDescriptor yX7_clock.desc).map (fun d => d.parameters.length) = some 1 := by decide +kernel
theorem mi_X7_fault : Cond.instanceMethod yX7_fault ∈ GW := memT (i := 1045) (by decide +kernel) rfl
theorem ms_X7_fault : Cond.selects RX7 yX7_fault yX7_fault ∈ GW := memT (i := 1046) (by decide +kernel) rfl
theorem mcd_X7_fault : Cond.code yX7_fault cX7_fault 1 (some .int) ∈ GW := memT (i := 1047) (by decide +kernel) rfl
theorem mds_X7_fault : yX7_fault.cls ≠ "java/lang/invoke/MethodHandle" ∧ yX7_fault.cls ≠ "java/lang/invoke/VarHandle" ∧ (parseMethodDescriptor yX7_fault.desc).map (fun d => d.parameters.length) = some 0 := by decide +kernel
theorem mi_X7_rule : Cond.instanceMethod yX7_rule ∈ GW := memT (i := 1049) (by decide +kernel) rfl
theorem ms_X7_rule : Cond.selects RX7 yX7_rule yX7_rule ∈ GW := memT (i := 1050) (by decide +kernel) rfl
theorem mcd_X7_rule : Cond.code yX7_rule cX7_rule 2 (some .int) ∈ GW := memT (i := 1051) (by decide +kernel) rfl
theorem mds_X7_rule : yX7_rule.cls ≠ "java/lang/invoke/MethodHandle" ∧ yX7_rule.cls ≠ "java/lang/invoke/VarHandle" ∧ (parseMethodDescriptor yX7_rule.desc).map (fun d => d.parameters.length) = some 1 := by decide +kernel
theorem mst_X7_isIn : Cond.static yX7_isIn ∈ GW := memT (i := 1057) (by decide +kernel) rfl
theorem mcd_X7_isIn : Cond.code yX7_isIn cX7_isIn 3 (some .boolean) ∈ GW := memT (i := 1058) (by decide +kernel) rfl
theorem mds_X7_isIn : yX7_isIn.cls ≠ "java/lang/invoke/MethodHandle" ∧ yX7_isIn.cls ≠ "java/lang/invoke/VarHandle" ∧ (parseMethodDescriptor yX7_isIn.desc).map (fun d => d.parameters.length) = some 3 := by decide +kernel
theorem mi_X7_isSong : Cond.instanceMethod yX7_isSong ∈ GW := memT (i := 1065) (by decide +kernel) rfl
theorem ms_X7_isSong : Cond.selects RX7 yX7_isSong yX7_isSong ∈ GW := memS (i := 32) (by decide +kernel) rfl
theorem mcd_X7_isSong : Cond.code yX7_isSong cX7_isSong 2 (some .boolean) ∈ GW := memT (i := 1066) (by decide +kernel) rfl
theorem mds_X7_isSong : yX7_isSong.cls ≠ "java/lang/invoke/MethodHandle" ∧ yX7_isSong.cls ≠ "java/lang/invoke/VarHandle" ∧ (parseMethodDescriptor yX7_isSong.desc).map (fun d => d.parameters.length) = some 1 := by decide +kernel
theorem mi_X7_song : Cond.instanceMethod yX7_song ∈ GW := memT (i := 1053) (by decide +kernel) rfl
theorem ms_X7_song : Cond.selects RX7 yX7_song yX7_song ∈ GW := memT (i := 1054) (by decide +kernel) rfl
theorem mcd_X7_song : Cond.code yX7_song cX7_song 6 (some .int) ∈ GW := memT (i := 1055) (by decide +kernel) rfl
theorem mds_X7_song : yX7_song.cls ≠ "java/lang/invoke/MethodHandle" ∧ yX7_song.cls ≠ "java/lang/invoke/VarHandle" ∧ (parseMethodDescriptor yX7_song.desc).map (fun d => d.parameters.length) = some 5 := by decide +kernel
theorem mi_X7_heatOf : Cond.instanceMethod yX7_heatOf ∈ GW := memT (i := 1069) (by decide +kernel) rfl
theorem ms_X7_heatOf : Cond.selects RX7 yX7_heatOf yX7_heatOf ∈ GW := memS (i := 33) (by decide +kernel) rfl
theorem mcd_X7_heatOf : Cond.code yX7_heatOf cX7_heatOf 4 (some .int) ∈ GW := memT (i := 1070) (by decide +kernel) rfl
theorem mds_X7_heatOf : yX7_heatOf.cls ≠ "java/lang/invoke/MethodHandle" ∧ yX7_heatOf.cls ≠ "java/lang/invoke/VarHandle" ∧ (parseMethodDescriptor yX7_heatOf.desc).map (fun d => d.parameters.length) = some 1 := by decide +kernel
theorem mi_X7_vote : Cond.instanceMethod yX7_vote ∈ GW := memT (i := 1060) (by decide +kernel) rfl
theorem ms_X7_vote : Cond.selects RX7 yX7_vote yX7_vote ∈ GW := memT (i := 1061) (by decide +kernel) rfl
theorem mcd_X7_vote : Cond.code yX7_vote cX7_vote 3 (some .int) ∈ GW := memT (i := 1062) (by decide +kernel) rfl
theorem mds_X7_vote : yX7_vote.cls ≠ "java/lang/invoke/MethodHandle" ∧ yX7_vote.cls ≠ "java/lang/invoke/VarHandle" ∧ (parseMethodDescriptor yX7_vote.desc).map (fun d => d.parameters.length) = some 2 := by decide +kernel
theorem mi_X7_ask : Cond.instanceMethod yX7_ask ∈ GW := memT (i := 1072) (by decide +kernel) rfl
theorem ms_X7_ask : Cond.selects RX7 yX7_ask yX7_ask ∈ GW := memT (i := 1073) (by decide +kernel) rfl
theorem mcd_X7_ask : Cond.code yX7_ask cX7_ask 2 (some .int) ∈ GW := memT (i := 1074) (by decide +kernel) rfl
theorem mds_X7_ask : yX7_ask.cls ≠ "java/lang/invoke/MethodHandle" ∧ yX7_ask.cls ≠ "java/lang/invoke/VarHandle" ∧ (parseMethodDescriptor yX7_ask.desc).map (fun d => d.parameters.length) = some 1 := by decide +kernel
theorem mi_X7_endOf : Cond.instanceMethod yX7_endOf ∈ GW := memT (i := 1101) (by decide +kernel) rfl
theorem ms_X7_endOf : Cond.selects RX7 yX7_endOf yX7_endOf ∈ GW := memS (i := 39) (by decide +kernel) rfl
theorem mcd_X7_endOf : Cond.code yX7_endOf cX7_endOf 2 (some .int) ∈ GW := memT (i := 1102) (by decide +kernel) rfl
theorem mds_X7_endOf : yX7_endOf.cls ≠ "java/lang/invoke/MethodHandle" ∧ yX7_endOf.cls ≠ "java/lang/invoke/VarHandle" ∧ (parseMethodDescriptor yX7_endOf.desc).map (fun d => d.parameters.length) = some 1 := by decide +kernel
theorem mi_X7_soundsOf : Cond.instanceMethod yX7_soundsOf ∈ GW := memT (i := 1121) (by decide +kernel) rfl
theorem ms_X7_soundsOf : Cond.selects RX7 yX7_soundsOf yX7_soundsOf ∈ GW := memS (i := 43) (by decide +kernel) rfl
theorem mcd_X7_soundsOf : Cond.code yX7_soundsOf cX7_soundsOf 4 (some .int) ∈ GW := memT (i := 1122) (by decide +kernel) rfl
theorem mds_X7_soundsOf : yX7_soundsOf.cls ≠ "java/lang/invoke/MethodHandle" ∧ yX7_soundsOf.cls ≠ "java/lang/invoke/VarHandle" ∧ (parseMethodDescriptor yX7_soundsOf.desc).map (fun d => d.parameters.length) = some 1 := by decide +kernel
theorem mi_X7_ask0 : Cond.instanceMethod yX7_ask0 ∈ GW := memT (i := 1089) (by decide +kernel) rfl
theorem ms_X7_ask0 : Cond.selects RX7 yX7_ask0 yX7_ask0 ∈ GW := memS (i := 36) (by decide +kernel) rfl
theorem mcd_X7_ask0 : Cond.code yX7_ask0 cX7_ask0 3 none ∈ GW := memT (i := 1090) (by decide +kernel) rfl
theorem mds_X7_ask0 : yX7_ask0.cls ≠ "java/lang/invoke/MethodHandle" ∧ yX7_ask0.cls ≠ "java/lang/invoke/VarHandle" ∧ (parseMethodDescriptor yX7_ask0.desc).map (fun d => d.parameters.length) = some 0 := by decide +kernel
theorem mi_X7_rests : Cond.instanceMethod yX7_rests ∈ GW := memT (i := 1093) (by decide +kernel) rfl
theorem ms_X7_rests : Cond.selects RX7 yX7_rests yX7_rests ∈ GW := memS (i := 37) (by decide +kernel) rfl
theorem mcd_X7_rests : Cond.code yX7_rests cX7_rests 4 (some .int) ∈ GW := memT (i := 1094) (by decide +kernel) rfl
theorem mds_X7_rests : yX7_rests.cls ≠ "java/lang/invoke/MethodHandle" ∧ yX7_rests.cls ≠ "java/lang/invoke/VarHandle" ∧ (parseMethodDescriptor yX7_rests.desc).map (fun d => d.parameters.length) = some 2 := by decide +kernel
theorem mi_X7_goWith : Cond.instanceMethod yX7_goWith ∈ GW := memT (i := 1105) (by decide +kernel) rfl
theorem ms_X7_goWith : Cond.selects RX7 yX7_goWith yX7_goWith ∈ GW := memS (i := 40) (by decide +kernel) rfl
theorem mcd_X7_goWith : Cond.code yX7_goWith cX7_goWith 4 (some .boolean) ∈ GW := memT (i := 1106) (by decide +kernel) rfl
theorem mds_X7_goWith : yX7_goWith.cls ≠ "java/lang/invoke/MethodHandle" ∧ yX7_goWith.cls ≠ "java/lang/invoke/VarHandle" ∧ (parseMethodDescriptor yX7_goWith.desc).map (fun d => d.parameters.length) = some 2 := by decide +kernel
theorem mi_X7_judge : Cond.instanceMethod yX7_judge ∈ GW := memT (i := 1109) (by decide +kernel) rfl
theorem ms_X7_judge : Cond.selects RX7 yX7_judge yX7_judge ∈ GW := memS (i := 41) (by decide +kernel) rfl
theorem mcd_X7_judge : Cond.code yX7_judge cX7_judge 11 none ∈ GW := memT (i := 1110) (by decide +kernel) rfl
theorem mds_X7_judge : yX7_judge.cls ≠ "java/lang/invoke/MethodHandle" ∧ yX7_judge.cls ≠ "java/lang/invoke/VarHandle" ∧ (parseMethodDescriptor yX7_judge.desc).map (fun d => d.parameters.length) = some 6 := by decide +kernel
theorem mi_X7_comesAhead : Cond.instanceMethod yX7_comesAhead ∈ GW := memT (i := 1113) (by decide +kernel) rfl
theorem ms_X7_comesAhead : Cond.selects RX7 yX7_comesAhead yX7_comesAhead ∈ GW := memS (i := 42) (by decide +kernel) rfl
theorem mcd_X7_comesAhead : Cond.code yX7_comesAhead cX7_comesAhead 6 (some .boolean) ∈ GW := memT (i := 1114) (by decide +kernel) rfl
theorem mds_X7_comesAhead : yX7_comesAhead.cls ≠ "java/lang/invoke/MethodHandle" ∧ yX7_comesAhead.cls ≠ "java/lang/invoke/VarHandle" ∧ (parseMethodDescriptor yX7_comesAhead.desc).map (fun d => d.parameters.length) = some 3 := by decide +kernel
theorem mi_X7_fits : Cond.instanceMethod yX7_fits ∈ GW := memT (i := 1097) (by decide +kernel) rfl
theorem ms_X7_fits : Cond.selects RX7 yX7_fits yX7_fits ∈ GW := memS (i := 38) (by decide +kernel) rfl
theorem mcd_X7_fits : Cond.code yX7_fits cX7_fits 9 (some .boolean) ∈ GW := memT (i := 1098) (by decide +kernel) rfl
theorem mds_X7_fits : yX7_fits.cls ≠ "java/lang/invoke/MethodHandle" ∧ yX7_fits.cls ≠ "java/lang/invoke/VarHandle" ∧ (parseMethodDescriptor yX7_fits.desc).map (fun d => d.parameters.length) = some 5 := by decide +kernel
theorem mi_X7_fill : Cond.instanceMethod yX7_fill ∈ GW := memT (i := 1085) (by decide +kernel) rfl
theorem ms_X7_fill : Cond.selects RX7 yX7_fill yX7_fill ∈ GW := memS (i := 35) (by decide +kernel) rfl
theorem mcd_X7_fill : Cond.code yX7_fill cX7_fill 10 none ∈ GW := memT (i := 1086) (by decide +kernel) rfl
theorem mds_X7_fill : yX7_fill.cls ≠ "java/lang/invoke/MethodHandle" ∧ yX7_fill.cls ≠ "java/lang/invoke/VarHandle" ∧ (parseMethodDescriptor yX7_fill.desc).map (fun d => d.parameters.length) = some 4 := by decide +kernel
theorem mi_X7_layStretch : Cond.instanceMethod yX7_layStretch ∈ GW := memT (i := 1081) (by decide +kernel) rfl
theorem ms_X7_layStretch : Cond.selects RX7 yX7_layStretch yX7_layStretch ∈ GW := memS (i := 34) (by decide +kernel) rfl
theorem mcd_X7_layStretch : Cond.code yX7_layStretch cX7_layStretch 7 (some .boolean) ∈ GW := memT (i := 1082) (by decide +kernel) rfl
theorem mds_X7_layStretch : yX7_layStretch.cls ≠ "java/lang/invoke/MethodHandle" ∧ yX7_layStretch.cls ≠ "java/lang/invoke/VarHandle" ∧ (parseMethodDescriptor yX7_layStretch.desc).map (fun d => d.parameters.length) = some 3 := by decide +kernel
theorem mi_X7_lay : Cond.instanceMethod yX7_lay ∈ GW := memT (i := 1076) (by decide +kernel) rfl
theorem ms_X7_lay : Cond.selects RX7 yX7_lay yX7_lay ∈ GW := memT (i := 1077) (by decide +kernel) rfl
theorem mcd_X7_lay : Cond.code yX7_lay cX7_lay 7 (some .int) ∈ GW := memT (i := 1078) (by decide +kernel) rfl
theorem mds_X7_lay : yX7_lay.cls ≠ "java/lang/invoke/MethodHandle" ∧ yX7_lay.cls ≠ "java/lang/invoke/VarHandle" ∧ (parseMethodDescriptor yX7_lay.desc).map (fun d => d.parameters.length) = some 1 := by decide +kernel
theorem mi_X7_told : Cond.instanceMethod yX7_told ∈ GW := memT (i := 1116) (by decide +kernel) rfl
theorem ms_X7_told : Cond.selects RX7 yX7_told yX7_told ∈ GW := memT (i := 1117) (by decide +kernel) rfl
theorem mcd_X7_told : Cond.code yX7_told cX7_told 5 (some .int) ∈ GW := memT (i := 1118) (by decide +kernel) rfl
theorem mds_X7_told : yX7_told.cls ≠ "java/lang/invoke/MethodHandle" ∧ yX7_told.cls ≠ "java/lang/invoke/VarHandle" ∧ (parseMethodDescriptor yX7_told.desc).map (fun d => d.parameters.length) = some 2 := by decide +kernel
theorem mi_X7_play : Cond.instanceMethod yX7_play ∈ GW := memT (i := 1124) (by decide +kernel) rfl
theorem ms_X7_play : Cond.selects RX7 yX7_play yX7_play ∈ GW := memT (i := 1125) (by decide +kernel) rfl
theorem mcd_X7_play : Cond.code yX7_play cX7_play 3 (some .int) ∈ GW := memT (i := 1126) (by decide +kernel) rfl
theorem mds_X7_play : yX7_play.cls ≠ "java/lang/invoke/MethodHandle" ∧ yX7_play.cls ≠ "java/lang/invoke/VarHandle" ∧ (parseMethodDescriptor yX7_play.desc).map (fun d => d.parameters.length) = some 2 := by decide +kernel
theorem mi_X7_left : Cond.instanceMethod yX7_left ∈ GW := memT (i := 1128) (by decide +kernel) rfl
theorem ms_X7_left : Cond.selects RX7 yX7_left yX7_left ∈ GW := memT (i := 1129) (by decide +kernel) rfl
theorem mcd_X7_left : Cond.code yX7_left cX7_left 3 (some .int) ∈ GW := memT (i := 1130) (by decide +kernel) rfl
theorem mds_X7_left : yX7_left.cls ≠ "java/lang/invoke/MethodHandle" ∧ yX7_left.cls ≠ "java/lang/invoke/VarHandle" ∧ (parseMethodDescriptor yX7_left.desc).map (fun d => d.parameters.length) = some 2 := by decide +kernel
theorem mi_X7_at : Cond.instanceMethod yX7_at ∈ GW := memT (i := 1132) (by decide +kernel) rfl
theorem ms_X7_at : Cond.selects RX7 yX7_at yX7_at ∈ GW := memT (i := 1133) (by decide +kernel) rfl
theorem mcd_X7_at : Cond.code yX7_at cX7_at 3 (some .int) ∈ GW := memT (i := 1134) (by decide +kernel) rfl
theorem mds_X7_at : yX7_at.cls ≠ "java/lang/invoke/MethodHandle" ∧ yX7_at.cls ≠ "java/lang/invoke/VarHandle" ∧ (parseMethodDescriptor yX7_at.desc).map (fun d => d.parameters.length) = some 1 := by decide +kernel
theorem mi_X7_rights : Cond.instanceMethod yX7_rights ∈ GW := memT (i := 1136) (by decide +kernel) rfl
theorem ms_X7_rights : Cond.selects RX7 yX7_rights yX7_rights ∈ GW := memT (i := 1137) (by decide +kernel) rfl
theorem mcd_X7_rights : Cond.code yX7_rights cX7_rights 8 (some .int) ∈ GW := memT (i := 1138) (by decide +kernel) rfl
theorem mds_X7_rights : yX7_rights.cls ≠ "java/lang/invoke/MethodHandle" ∧ yX7_rights.cls ≠ "java/lang/invoke/VarHandle" ∧ (parseMethodDescriptor yX7_rights.desc).map (fun d => d.parameters.length) = some 3 := by decide +kernel
theorem mi_X7_items : Cond.instanceMethod yX7_items ∈ GW := memT (i := 1140) (by decide +kernel) rfl
theorem ms_X7_items : Cond.selects RX7 yX7_items yX7_items ∈ GW := memT (i := 1141) (by decide +kernel) rfl
theorem mcd_X7_items : Cond.code yX7_items cX7_items 2 (some .int) ∈ GW := memT (i := 1142) (by decide +kernel) rfl
theorem mds_X7_items : yX7_items.cls ≠ "java/lang/invoke/MethodHandle" ∧ yX7_items.cls ≠ "java/lang/invoke/VarHandle" ∧ (parseMethodDescriptor yX7_items.desc).map (fun d => d.parameters.length) = some 1 := by decide +kernel
theorem mi_X7_count : Cond.instanceMethod yX7_count ∈ GW := memT (i := 1144) (by decide +kernel) rfl
theorem ms_X7_count : Cond.selects RX7 yX7_count yX7_count ∈ GW := memT (i := 1145) (by decide +kernel) rfl
theorem mcd_X7_count : Cond.code yX7_count cX7_count 4 (some .int) ∈ GW := memT (i := 1146) (by decide +kernel) rfl
theorem mds_X7_count : yX7_count.cls ≠ "java/lang/invoke/MethodHandle" ∧ yX7_count.cls ≠ "java/lang/invoke/VarHandle" ∧ (parseMethodDescriptor yX7_count.desc).map (fun d => d.parameters.length) = some 1 := by decide +kernel
theorem min_X0 : Cond.initialized RX0 ∈ GW := memT (i := 5) (by decide +kernel) rfl
theorem min_X1 : Cond.initialized RX1 ∈ GW := memT (i := 8) (by decide +kernel) rfl
theorem min_X2 : Cond.initialized RX2 ∈ GW := memT (i := 9) (by decide +kernel) rfl
theorem min_X3 : Cond.initialized RX3 ∈ GW := memT (i := 3) (by decide +kernel) rfl
theorem min_X4 : Cond.initialized RX4 ∈ GW := memT (i := 6) (by decide +kernel) rfl
theorem min_X5 : Cond.initialized RX5 ∈ GW := memT (i := 2) (by decide +kernel) rfl
theorem min_X6 : Cond.initialized RX6 ∈ GW := memT (i := 1) (by decide +kernel) rfl
theorem min_X7 : Cond.initialized RX7 ∈ GW := memT (i := 10) (by decide +kernel) rfl
theorem mc_X7_86 : Cond.constant RX7 86 55296 ∈ GW := memT (i := 801) (by decide +kernel) rfl
theorem mc_X7_149 : Cond.constantLong RX7 149 (27) ∈ GW := memT (i := 1003) (by decide +kernel) rfl
theorem mc_X7_151 : Cond.constantLong RX7 151 (96) ∈ GW := memT (i := 1004) (by decide +kernel) rfl
theorem mc_X7_153 : Cond.constantLong RX7 153 (-1) ∈ GW := memT (i := 1005) (by decide +kernel) rfl
theorem mm_init : Cond.initialized "java/lang/Math" ∈ GW := memT (i := 11) (by decide +kernel) rfl
theorem mm_s_max : Cond.static Lib.Math.max.name ∈ GW := memT (i := 538) (by decide +kernel) rfl
theorem mm_c_max : Cond.code Lib.Math.max.name Lib.Math.max.code 2 (some .int) ∈ GW := memT (i := 539) (by decide +kernel) rfl
theorem mm_s_min : Cond.static Lib.Math.min.name ∈ GW := memT (i := 393) (by decide +kernel) rfl
theorem mm_c_min : Cond.code Lib.Math.min.name Lib.Math.min.code 2 (some .int) ∈ GW := memT (i := 394) (by decide +kernel) rfl
theorem mm_s_abs : Cond.static Lib.Math.abs.name ∈ GW := memT (i := 730) (by decide +kernel) rfl
theorem mm_c_abs : Cond.code Lib.Math.abs.name Lib.Math.abs.code 1 (some .int) ∈ GW := memT (i := 731) (by decide +kernel) rfl
theorem ml_X6_55 : Cond.methodLink RX6 55 yX5_hasRoomForFive ∈ GW := memT (i := 344) (by decide +kernel) rfl
theorem ml_X6_59 : Cond.methodLink RX6 59 yX5_append ∈ GW := memT (i := 348) (by decide +kernel) rfl
theorem ml_X6_67 : Cond.methodLink RX6 67 yX3_read ∈ GW := memT (i := 360) (by decide +kernel) rfl
theorem ml_X3_31 : Cond.methodLink RX3 31 yX3_startAnew ∈ GW := memT (i := 364) (by decide +kernel) rfl
theorem ml_X3_34 : Cond.methodLink RX3 34 yX5_start ∈ GW := memT (i := 368) (by decide +kernel) rfl
theorem ml_X5_29 : Cond.methodLink RX5 29 yX5_step ∈ GW := memT (i := 372) (by decide +kernel) rfl
theorem ml_X5_32 : Cond.methodLink RX5 32 yX5_isBlank ∈ GW := memT (i := 376) (by decide +kernel) rfl
theorem ml_X5_36 : Cond.methodLink RX5 36 yX5_readToken ∈ GW := memT (i := 379) (by decide +kernel) rfl
theorem ml_X5_52 : Cond.methodLink RX5 52 yX5_isLetter ∈ GW := memT (i := 383) (by decide +kernel) rfl
theorem ml_X5_55 : Cond.methodLink RX5 55 yX5_isDigit ∈ GW := memT (i := 386) (by decide +kernel) rfl
theorem ml_X5_61 : Cond.methodLink RX5 61 yX5_kindOf ∈ GW := memT (i := 389) (by decide +kernel) rfl
theorem ml_X5_43 : Cond.methodLink RX5 43 Lib.Math.min.name ∈ GW := memT (i := 392) (by decide +kernel) rfl
theorem ml_X3_44 : Cond.methodLink RX3 44 yX3_readOne ∈ GW := memT (i := 395) (by decide +kernel) rfl
theorem ml_X3_51 : Cond.methodLink RX3 51 yX3_named ∈ GW := memT (i := 399) (by decide +kernel) rfl
theorem ml_X3_81 : Cond.methodLink RX3 81 yX5_isWord ∈ GW := memT (i := 403) (by decide +kernel) rfl
theorem ml_X3_55 : Cond.methodLink RX3 55 yX5_refuse ∈ GW := memT (i := 459) (by decide +kernel) rfl
theorem ml_X3_65 : Cond.methodLink RX3 65 yX5_stepToNumber ∈ GW := memT (i := 467) (by decide +kernel) rfl
theorem ml_X5_74 : Cond.methodLink RX5 74 yX5_refuse ∈ GW := memT (i := 471) (by decide +kernel) rfl
theorem ml_X3_72 : Cond.methodLink RX3 72 yX5_step ∈ GW := memT (i := 475) (by decide +kernel) rfl
theorem ml_X3_75 : Cond.methodLink RX3 75 yX5_passSemicolon ∈ GW := memT (i := 476) (by decide +kernel) rfl
theorem ml_X6_101 : Cond.methodLink RX6 101 yX6_isWithin ∈ GW := memT (i := 492) (by decide +kernel) rfl
theorem ml_X6_106 : Cond.methodLink RX6 106 yX4_add ∈ GW := memT (i := 493) (by decide +kernel) rfl
theorem ml_X6_110 : Cond.methodLink RX6 110 yX4_has ∈ GW := memT (i := 501) (by decide +kernel) rfl
theorem ml_X6_113 : Cond.methodLink RX6 113 yX4_takeVote ∈ GW := memT (i := 505) (by decide +kernel) rfl
theorem ml_X6_117 : Cond.methodLink RX6 117 yX4_heat ∈ GW := memT (i := 509) (by decide +kernel) rfl
theorem ml_X6_187 : Cond.methodLink RX6 187 yX6_endOfPlay ∈ GW := memT (i := 525) (by decide +kernel) rfl
theorem ml_X6_193 : Cond.methodLink RX6 193 yX6_secondsWithin ∈ GW := memT (i := 533) (by decide +kernel) rfl
theorem ml_X6_245 : Cond.methodLink RX6 245 Lib.Math.max.name ∈ GW := memT (i := 537) (by decide +kernel) rfl
theorem ml_X6_251 : Cond.methodLink RX6 251 Lib.Math.min.name ∈ GW := memT (i := 540) (by decide +kernel) rfl
theorem ml_X6_203 : Cond.methodLink RX6 203 yX4_allAsksOpen ∈ GW := memT (i := 545) (by decide +kernel) rfl
theorem ml_X6_77 : Cond.methodLink RX6 77 yX6_isClock ∈ GW := memT (i := 557) (by decide +kernel) rfl
theorem ml_X6_88 : Cond.methodLink RX6 88 yX0_read ∈ GW := memT (i := 626) (by decide +kernel) rfl
theorem ml_X0_35 : Cond.methodLink RX0 35 yX5_start ∈ GW := memT (i := 630) (by decide +kernel) rfl
theorem ml_X0_44 : Cond.methodLink RX0 44 yX0_readOne ∈ GW := memT (i := 631) (by decide +kernel) rfl
theorem ml_X0_54 : Cond.methodLink RX0 54 yX5_isWord ∈ GW := memT (i := 636) (by decide +kernel) rfl
theorem ml_X0_48 : Cond.methodLink RX0 48 yX5_refuse ∈ GW := memT (i := 638) (by decide +kernel) rfl
theorem ml_X0_60 : Cond.methodLink RX0 60 yX5_stepToNumber ∈ GW := memT (i := 639) (by decide +kernel) rfl
theorem ml_X0_67 : Cond.methodLink RX0 67 yX0_add ∈ GW := memT (i := 640) (by decide +kernel) rfl
theorem ml_X0_71 : Cond.methodLink RX0 71 yX5_step ∈ GW := memT (i := 644) (by decide +kernel) rfl
theorem ml_X0_74 : Cond.methodLink RX0 74 yX0_readWishes ∈ GW := memT (i := 645) (by decide +kernel) rfl
theorem ml_X0_78 : Cond.methodLink RX0 78 yX5_passSemicolon ∈ GW := memT (i := 651) (by decide +kernel) rfl
theorem ml_X6_89 : Cond.methodLink RX6 89 yX0_become ∈ GW := memT (i := 652) (by decide +kernel) rfl
theorem ml_X6_127 : Cond.methodLink RX6 127 yX1_hasRoomFor ∈ GW := memT (i := 663) (by decide +kernel) rfl
theorem ml_X6_130 : Cond.methodLink RX6 130 yX2_prepare ∈ GW := memT (i := 667) (by decide +kernel) rfl
theorem ml_X2_51 : Cond.methodLink RX2 51 Lib.Math.min.name ∈ GW := memT (i := 671) (by decide +kernel) rfl
theorem ml_X2_65 : Cond.methodLink RX2 65 yX4_heat ∈ GW := memT (i := 672) (by decide +kernel) rfl
theorem ml_X6_137 : Cond.methodLink RX6 137 yX0_isStretch ∈ GW := memT (i := 673) (by decide +kernel) rfl
theorem ml_X6_140 : Cond.methodLink RX6 140 yX6_fillStretch ∈ GW := memT (i := 677) (by decide +kernel) rfl
theorem ml_X6_213 : Cond.methodLink RX6 213 yX2_aim ∈ GW := memT (i := 681) (by decide +kernel) rfl
theorem ml_X2_89 : Cond.methodLink RX2 89 yX2_gather ∈ GW := memT (i := 685) (by decide +kernel) rfl
theorem ml_X2_109 : Cond.methodLink RX2 109 yX2_isFreeInTime ∈ GW := memT (i := 689) (by decide +kernel) rfl
theorem ml_X2_113 : Cond.methodLink RX2 113 yX2_sortIn ∈ GW := memT (i := 693) (by decide +kernel) rfl
theorem ml_X2_119 : Cond.methodLink RX2 119 Lib.Math.max.name ∈ GW := memT (i := 697) (by decide +kernel) rfl
theorem ml_X6_217 : Cond.methodLink RX6 217 yX6_keyAhead ∈ GW := memT (i := 698) (by decide +kernel) rfl
theorem ml_X6_220 : Cond.methodLink RX6 220 yX2_run ∈ GW := memT (i := 702) (by decide +kernel) rfl
theorem ml_X2_93 : Cond.methodLink RX2 93 yX2_extend ∈ GW := memT (i := 706) (by decide +kernel) rfl
theorem ml_X2_128 : Cond.methodLink RX2 128 yX2_isHopeless ∈ GW := memT (i := 710) (by decide +kernel) rfl
theorem ml_X2_132 : Cond.methodLink RX2 132 yX2_tryLast ∈ GW := memT (i := 714) (by decide +kernel) rfl
theorem ml_X2_149 : Cond.methodLink RX2 149 yX2_firstThatFits ∈ GW := memT (i := 718) (by decide +kernel) rfl
theorem ml_X2_135 : Cond.methodLink RX2 135 yX2_mayBegin ∈ GW := memT (i := 722) (by decide +kernel) rfl
theorem ml_X2_153 : Cond.methodLink RX2 153 yX2_stepsApart ∈ GW := memT (i := 726) (by decide +kernel) rfl
theorem ml_X2_156 : Cond.methodLink RX2 156 Lib.Math.abs.name ∈ GW := memT (i := 729) (by decide +kernel) rfl
theorem ml_X2_142 : Cond.methodLink RX2 142 yX2_compare ∈ GW := memT (i := 732) (by decide +kernel) rfl
theorem ml_X2_139 : Cond.methodLink RX2 139 yX2_tryNext ∈ GW := memT (i := 736) (by decide +kernel) rfl
theorem ml_X6_230 : Cond.methodLink RX6 230 yX4_begin ∈ GW := memT (i := 740) (by decide +kernel) rfl
theorem ml_X6_233 : Cond.methodLink RX6 233 yX1_addPlay ∈ GW := memT (i := 744) (by decide +kernel) rfl
theorem ml_X6_238 : Cond.methodLink RX6 238 yX1_noteStretch ∈ GW := memT (i := 748) (by decide +kernel) rfl
theorem ml_X6_147 : Cond.methodLink RX6 147 yX1_closeHour ∈ GW := memT (i := 752) (by decide +kernel) rfl
theorem ml_X7_112 : Cond.methodLink RX7 112 yX7_come ∈ GW := memT (i := 973) (by decide +kernel) rfl
theorem ml_X7_186 : Cond.methodLink RX7 186 yX7_begins ∈ GW := memT (i := 985) (by decide +kernel) rfl
theorem ml_X7_164 : Cond.methodLink RX7 164 yX7_go ∈ GW := memT (i := 989) (by decide +kernel) rfl
theorem ml_X7_131 : Cond.methodLink RX7 131 yX7_isLetter ∈ GW := memT (i := 993) (by decide +kernel) rfl
theorem ml_X7_135 : Cond.methodLink RX7 135 yX7_isDigit ∈ GW := memT (i := 996) (by decide +kernel) rfl
theorem ml_X7_145 : Cond.methodLink RX7 145 yX7_byteAt ∈ GW := memT (i := 999) (by decide +kernel) rfl
theorem ml_X7_189 : Cond.methodLink RX7 189 yX7_readRule ∈ GW := memT (i := 1006) (by decide +kernel) rfl
theorem ml_X7_178 : Cond.methodLink RX7 178 yX7_ruleAtHand ∈ GW := memT (i := 1010) (by decide +kernel) rfl
theorem ml_X7_170 : Cond.methodLink RX7 170 yX7_spelt ∈ GW := memT (i := 1014) (by decide +kernel) rfl
theorem ml_X7_174 : Cond.methodLink RX7 174 yX7_isKey ∈ GW := memT (i := 1017) (by decide +kernel) rfl
theorem ml_X7_167 : Cond.methodLink RX7 167 yX7_bad ∈ GW := memT (i := 1021) (by decide +kernel) rfl
theorem ml_X7_182 : Cond.methodLink RX7 182 yX7_readNumber ∈ GW := memT (i := 1025) (by decide +kernel) rfl
theorem ml_X7_196 : Cond.methodLink RX7 196 yX7_isClock ∈ GW := memT (i := 1033) (by decide +kernel) rfl
theorem ml_X7_199 : Cond.methodLink RX7 199 yX7_refuse ∈ GW := memT (i := 1036) (by decide +kernel) rfl
theorem ml_X7_202 : Cond.methodLink RX7 202 yX7_readItem ∈ GW := memT (i := 1040) (by decide +kernel) rfl
theorem ml_X7_208 : Cond.methodLink RX7 208 yX7_isIn ∈ GW := memT (i := 1056) (by decide +kernel) rfl
theorem ml_X7_212 : Cond.methodLink RX7 212 yX7_isSong ∈ GW := memT (i := 1063) (by decide +kernel) rfl
theorem ml_X7_215 : Cond.methodLink RX7 215 yX7_heatOf ∈ GW := memT (i := 1067) (by decide +kernel) rfl
theorem ml_X7_273 : Cond.methodLink RX7 273 yX7_layStretch ∈ GW := memT (i := 1079) (by decide +kernel) rfl
theorem ml_X7_260 : Cond.methodLink RX7 260 yX7_fill ∈ GW := memT (i := 1083) (by decide +kernel) rfl
theorem ml_X7_243 : Cond.methodLink RX7 243 yX7_ask0 ∈ GW := memT (i := 1087) (by decide +kernel) rfl
theorem ml_X7_221 : Cond.methodLink RX7 221 yX7_rests ∈ GW := memT (i := 1091) (by decide +kernel) rfl
theorem ml_X7_252 : Cond.methodLink RX7 252 yX7_fits ∈ GW := memT (i := 1095) (by decide +kernel) rfl
theorem ml_X7_237 : Cond.methodLink RX7 237 yX7_endOf ∈ GW := memT (i := 1099) (by decide +kernel) rfl
theorem ml_X7_240 : Cond.methodLink RX7 240 yX7_goWith ∈ GW := memT (i := 1103) (by decide +kernel) rfl
theorem ml_X7_256 : Cond.methodLink RX7 256 yX7_judge ∈ GW := memT (i := 1107) (by decide +kernel) rfl
theorem ml_X7_234 : Cond.methodLink RX7 234 yX7_comesAhead ∈ GW := memT (i := 1111) (by decide +kernel) rfl
theorem ml_X7_276 : Cond.methodLink RX7 276 yX7_soundsOf ∈ GW := memT (i := 1119) (by decide +kernel) rfl
