/-! THE LAW'S CASES -/
theorem w_0 : Cond.initialized "QuizLeagueLaw" ∈ TBL := inT1 0 (by decide +kernel) (by decide +kernel)
theorem w_971 : Cond.methodLink "QuizLeagueLaw" 54 ⟨"QuizLeagueLaw", "asked", "(LQuizLeague;II[J)I"⟩ ∈ TBL := inT1 971 (by decide +kernel) (by decide +kernel)
theorem w_972 : Cond.static ⟨"QuizLeagueLaw", "asked", "(LQuizLeague;II[J)I"⟩ ∈ TBL := inT1 972 (by decide +kernel) (by decide +kernel)
theorem w_1060 : Cond.methodLink "QuizLeagueLaw" 77 ⟨"QuizLeagueLaw", "pack", "(LQuizLeague;IIIIII[J)I"⟩ ∈ TBL := inT1 1060 (by decide +kernel) (by decide +kernel)
theorem w_1061 : Cond.static ⟨"QuizLeagueLaw", "pack", "(LQuizLeague;IIIIII[J)I"⟩ ∈ TBL := inT1 1061 (by decide +kernel) (by decide +kernel)
theorem w_1134 : Cond.methodLink "QuizLeagueLaw" 114 ⟨"QuizLeagueLaw", "event", "(LQuizLeague;II[J)I"⟩ ∈ TBL := inT1 1134 (by decide +kernel) (by decide +kernel)
theorem w_1135 : Cond.static ⟨"QuizLeagueLaw", "event", "(LQuizLeague;II[J)I"⟩ ∈ TBL := inT1 1135 (by decide +kernel) (by decide +kernel)
set_option maxRecDepth 100000 in
theorem w_390 : Cond.code ⟨"QuizLeague", "feed", "(IIIII)I"⟩ prog_1_method_2_code 6 (some .int) ∈ TBL := inT1 390 rfl (by decide +kernel)
theorem w_387 : Cond.methodLink "QuizLeagueLaw" 30 ⟨"QuizLeague", "feed", "(IIIII)I"⟩ ∈ TBL := inT1 387 (by decide +kernel) (by decide +kernel)
theorem w_388 : Cond.instanceMethod ⟨"QuizLeague", "feed", "(IIIII)I"⟩ ∈ TBL := inT1 388 (by decide +kernel) (by decide +kernel)
theorem w_389 : Cond.selects "QuizLeague" ⟨"QuizLeague", "feed", "(IIIII)I"⟩ ⟨"QuizLeague", "feed", "(IIIII)I"⟩ ∈ TBL := inT1 389 (by decide +kernel) (by decide +kernel)
set_option maxRecDepth 100000 in
theorem w_1362 : Cond.code ⟨"QuizLeagueModel", "feed", "(IIIII)I"⟩ prog_14_method_4_code 6 (some .int) ∈ TBL := inT1 1362 rfl (by decide +kernel)
theorem w_1359 : Cond.methodLink "QuizLeagueLaw" 34 ⟨"QuizLeagueModel", "feed", "(IIIII)I"⟩ ∈ TBL := inT1 1359 (by decide +kernel) (by decide +kernel)
theorem w_1360 : Cond.instanceMethod ⟨"QuizLeagueModel", "feed", "(IIIII)I"⟩ ∈ TBL := inT1 1360 (by decide +kernel) (by decide +kernel)
theorem w_1361 : Cond.selects "QuizLeagueModel" ⟨"QuizLeagueModel", "feed", "(IIIII)I"⟩ ⟨"QuizLeagueModel", "feed", "(IIIII)I"⟩ ∈ TBL := inT1 1361 (by decide +kernel) (by decide +kernel)
set_option maxRecDepth 100000 in
theorem w_402 : Cond.code ⟨"QuizLeague", "end", "(I)Z"⟩ prog_1_method_3_code 2 (some .boolean) ∈ TBL := inT1 402 rfl (by decide +kernel)
theorem w_399 : Cond.methodLink "QuizLeagueLaw" 35 ⟨"QuizLeague", "end", "(I)Z"⟩ ∈ TBL := inT1 399 (by decide +kernel) (by decide +kernel)
theorem w_400 : Cond.instanceMethod ⟨"QuizLeague", "end", "(I)Z"⟩ ∈ TBL := inT1 400 (by decide +kernel) (by decide +kernel)
theorem w_401 : Cond.selects "QuizLeague" ⟨"QuizLeague", "end", "(I)Z"⟩ ⟨"QuizLeague", "end", "(I)Z"⟩ ∈ TBL := inT1 401 (by decide +kernel) (by decide +kernel)
set_option maxRecDepth 100000 in
theorem w_1370 : Cond.code ⟨"QuizLeagueModel", "end", "(I)Z"⟩ prog_14_method_5_code 2 (some .boolean) ∈ TBL := inT1 1370 rfl (by decide +kernel)
theorem w_1367 : Cond.methodLink "QuizLeagueLaw" 39 ⟨"QuizLeagueModel", "end", "(I)Z"⟩ ∈ TBL := inT1 1367 (by decide +kernel) (by decide +kernel)
theorem w_1368 : Cond.instanceMethod ⟨"QuizLeagueModel", "end", "(I)Z"⟩ ∈ TBL := inT1 1368 (by decide +kernel) (by decide +kernel)
theorem w_1369 : Cond.selects "QuizLeagueModel" ⟨"QuizLeagueModel", "end", "(I)Z"⟩ ⟨"QuizLeagueModel", "end", "(I)Z"⟩ ∈ TBL := inT1 1369 (by decide +kernel) (by decide +kernel)
set_option maxRecDepth 100000 in
theorem w_410 : Cond.code ⟨"QuizLeague", "question", "(I)I"⟩ prog_1_method_4_code 2 (some .int) ∈ TBL := inT1 410 rfl (by decide +kernel)
theorem w_407 : Cond.methodLink "QuizLeagueLaw" 40 ⟨"QuizLeague", "question", "(I)I"⟩ ∈ TBL := inT1 407 (by decide +kernel) (by decide +kernel)
theorem w_408 : Cond.instanceMethod ⟨"QuizLeague", "question", "(I)I"⟩ ∈ TBL := inT1 408 (by decide +kernel) (by decide +kernel)
theorem w_409 : Cond.selects "QuizLeague" ⟨"QuizLeague", "question", "(I)I"⟩ ⟨"QuizLeague", "question", "(I)I"⟩ ∈ TBL := inT1 409 (by decide +kernel) (by decide +kernel)
set_option maxRecDepth 100000 in
theorem w_1374 : Cond.code ⟨"QuizLeagueModel", "question", "(I)I"⟩ prog_14_method_20_code 3 (some .int) ∈ TBL := inT1 1374 rfl (by decide +kernel)
theorem w_1371 : Cond.methodLink "QuizLeagueLaw" 44 ⟨"QuizLeagueModel", "question", "(I)I"⟩ ∈ TBL := inT1 1371 (by decide +kernel) (by decide +kernel)
theorem w_1372 : Cond.instanceMethod ⟨"QuizLeagueModel", "question", "(I)I"⟩ ∈ TBL := inT1 1372 (by decide +kernel) (by decide +kernel)
theorem w_1373 : Cond.selects "QuizLeagueModel" ⟨"QuizLeagueModel", "question", "(I)I"⟩ ⟨"QuizLeagueModel", "question", "(I)I"⟩ ∈ TBL := inT1 1373 (by decide +kernel) (by decide +kernel)
set_option maxRecDepth 100000 in
theorem w_648 : Cond.code ⟨"QuizLeague", "takes", "(I)I"⟩ prog_1_method_5_code 4 (some .int) ∈ TBL := inT1 648 rfl (by decide +kernel)
theorem w_645 : Cond.methodLink "QuizLeagueLaw" 45 ⟨"QuizLeague", "takes", "(I)I"⟩ ∈ TBL := inT1 645 (by decide +kernel) (by decide +kernel)
theorem w_646 : Cond.instanceMethod ⟨"QuizLeague", "takes", "(I)I"⟩ ∈ TBL := inT1 646 (by decide +kernel) (by decide +kernel)
theorem w_647 : Cond.selects "QuizLeague" ⟨"QuizLeague", "takes", "(I)I"⟩ ⟨"QuizLeague", "takes", "(I)I"⟩ ∈ TBL := inT1 647 (by decide +kernel) (by decide +kernel)
set_option maxRecDepth 100000 in
theorem w_1436 : Cond.code ⟨"QuizLeagueModel", "takes", "(I)I"⟩ prog_14_method_26_code 3 (some .int) ∈ TBL := inT1 1436 rfl (by decide +kernel)
theorem w_1433 : Cond.methodLink "QuizLeagueLaw" 48 ⟨"QuizLeagueModel", "takes", "(I)I"⟩ ∈ TBL := inT1 1433 (by decide +kernel) (by decide +kernel)
theorem w_1434 : Cond.instanceMethod ⟨"QuizLeagueModel", "takes", "(I)I"⟩ ∈ TBL := inT1 1434 (by decide +kernel) (by decide +kernel)
theorem w_1435 : Cond.selects "QuizLeagueModel" ⟨"QuizLeagueModel", "takes", "(I)I"⟩ ⟨"QuizLeagueModel", "takes", "(I)I"⟩ ∈ TBL := inT1 1435 (by decide +kernel) (by decide +kernel)
set_option maxRecDepth 100000 in
theorem w_727 : Cond.code ⟨"QuizLeague", "strike", "(IZ)Z"⟩ prog_1_method_6_code 4 (some .boolean) ∈ TBL := inT1 727 rfl (by decide +kernel)
theorem w_724 : Cond.methodLink "QuizLeagueLaw" 49 ⟨"QuizLeague", "strike", "(IZ)Z"⟩ ∈ TBL := inT1 724 (by decide +kernel) (by decide +kernel)
theorem w_725 : Cond.instanceMethod ⟨"QuizLeague", "strike", "(IZ)Z"⟩ ∈ TBL := inT1 725 (by decide +kernel) (by decide +kernel)
theorem w_726 : Cond.selects "QuizLeague" ⟨"QuizLeague", "strike", "(IZ)Z"⟩ ⟨"QuizLeague", "strike", "(IZ)Z"⟩ ∈ TBL := inT1 726 (by decide +kernel) (by decide +kernel)
set_option maxRecDepth 100000 in
theorem w_1460 : Cond.code ⟨"QuizLeagueModel", "strike", "(IZ)Z"⟩ prog_14_method_27_code 3 (some .boolean) ∈ TBL := inT1 1460 rfl (by decide +kernel)
theorem w_1457 : Cond.methodLink "QuizLeagueLaw" 53 ⟨"QuizLeagueModel", "strike", "(IZ)Z"⟩ ∈ TBL := inT1 1457 (by decide +kernel) (by decide +kernel)
theorem w_1458 : Cond.instanceMethod ⟨"QuizLeagueModel", "strike", "(IZ)Z"⟩ ∈ TBL := inT1 1458 (by decide +kernel) (by decide +kernel)
theorem w_1459 : Cond.selects "QuizLeagueModel" ⟨"QuizLeagueModel", "strike", "(IZ)Z"⟩ ⟨"QuizLeagueModel", "strike", "(IZ)Z"⟩ ∈ TBL := inT1 1459 (by decide +kernel) (by decide +kernel)
set_option maxRecDepth 100000 in
theorem w_1464 : Cond.code ⟨"QuizLeagueModel", "asked", "(II)I"⟩ prog_14_method_29_code 5 (some .int) ∈ TBL := inT1 1464 rfl (by decide +kernel)
theorem w_1461 : Cond.methodLink "QuizLeagueLaw" 59 ⟨"QuizLeagueModel", "asked", "(II)I"⟩ ∈ TBL := inT1 1461 (by decide +kernel) (by decide +kernel)
theorem w_1462 : Cond.instanceMethod ⟨"QuizLeagueModel", "asked", "(II)I"⟩ ∈ TBL := inT1 1462 (by decide +kernel) (by decide +kernel)
theorem w_1463 : Cond.selects "QuizLeagueModel" ⟨"QuizLeagueModel", "asked", "(II)I"⟩ ⟨"QuizLeagueModel", "asked", "(II)I"⟩ ∈ TBL := inT1 1463 (by decide +kernel) (by decide +kernel)
set_option maxRecDepth 100000 in
theorem w_1358 : Cond.code ⟨"QuizLeagueModel", "thrown", "()I"⟩ prog_14_method_2_code 1 (some .int) ∈ TBL := inT1 1358 rfl (by decide +kernel)
theorem w_1355 : Cond.methodLink "QuizLeagueLaw" 60 ⟨"QuizLeagueModel", "thrown", "()I"⟩ ∈ TBL := inT1 1355 (by decide +kernel) (by decide +kernel)
theorem w_1356 : Cond.instanceMethod ⟨"QuizLeagueModel", "thrown", "()I"⟩ ∈ TBL := inT1 1356 (by decide +kernel) (by decide +kernel)
theorem w_1357 : Cond.selects "QuizLeagueModel" ⟨"QuizLeagueModel", "thrown", "()I"⟩ ⟨"QuizLeagueModel", "thrown", "()I"⟩ ∈ TBL := inT1 1357 (by decide +kernel) (by decide +kernel)
set_option maxRecDepth 100000 in
theorem w_731 : Cond.code ⟨"QuizLeague", "seen", "(II)Z"⟩ prog_1_method_8_code 4 (some .boolean) ∈ TBL := inT1 731 rfl (by decide +kernel)
theorem w_728 : Cond.methodLink "QuizLeagueLaw" 64 ⟨"QuizLeague", "seen", "(II)Z"⟩ ∈ TBL := inT1 728 (by decide +kernel) (by decide +kernel)
theorem w_729 : Cond.instanceMethod ⟨"QuizLeague", "seen", "(II)Z"⟩ ∈ TBL := inT1 729 (by decide +kernel) (by decide +kernel)
theorem w_730 : Cond.selects "QuizLeague" ⟨"QuizLeague", "seen", "(II)Z"⟩ ⟨"QuizLeague", "seen", "(II)Z"⟩ ∈ TBL := inT1 730 (by decide +kernel) (by decide +kernel)
set_option maxRecDepth 100000 in
theorem w_1472 : Cond.code ⟨"QuizLeagueModel", "seen", "(II)Z"⟩ prog_14_method_31_code 3 (some .boolean) ∈ TBL := inT1 1472 rfl (by decide +kernel)
theorem w_1469 : Cond.methodLink "QuizLeagueLaw" 68 ⟨"QuizLeagueModel", "seen", "(II)Z"⟩ ∈ TBL := inT1 1469 (by decide +kernel) (by decide +kernel)
theorem w_1470 : Cond.instanceMethod ⟨"QuizLeagueModel", "seen", "(II)Z"⟩ ∈ TBL := inT1 1470 (by decide +kernel) (by decide +kernel)
theorem w_1471 : Cond.selects "QuizLeagueModel" ⟨"QuizLeagueModel", "seen", "(II)Z"⟩ ⟨"QuizLeagueModel", "seen", "(II)Z"⟩ ∈ TBL := inT1 1471 (by decide +kernel) (by decide +kernel)
set_option maxRecDepth 100000 in
theorem w_742 : Cond.code ⟨"QuizLeague", "law", "()I"⟩ prog_1_method_9_code 2 (some .int) ∈ TBL := inT1 742 rfl (by decide +kernel)
theorem w_739 : Cond.methodLink "QuizLeagueLaw" 69 ⟨"QuizLeague", "law", "()I"⟩ ∈ TBL := inT1 739 (by decide +kernel) (by decide +kernel)
theorem w_740 : Cond.instanceMethod ⟨"QuizLeague", "law", "()I"⟩ ∈ TBL := inT1 740 (by decide +kernel) (by decide +kernel)
theorem w_741 : Cond.selects "QuizLeague" ⟨"QuizLeague", "law", "()I"⟩ ⟨"QuizLeague", "law", "()I"⟩ ∈ TBL := inT1 741 (by decide +kernel) (by decide +kernel)
set_option maxRecDepth 100000 in
theorem w_1479 : Cond.code ⟨"QuizLeagueModel", "law", "()I"⟩ prog_14_method_35_code 2 (some .int) ∈ TBL := inT1 1479 rfl (by decide +kernel)
theorem w_1476 : Cond.methodLink "QuizLeagueLaw" 72 ⟨"QuizLeagueModel", "law", "()I"⟩ ∈ TBL := inT1 1476 (by decide +kernel) (by decide +kernel)
theorem w_1477 : Cond.instanceMethod ⟨"QuizLeagueModel", "law", "()I"⟩ ∈ TBL := inT1 1477 (by decide +kernel) (by decide +kernel)
theorem w_1478 : Cond.selects "QuizLeagueModel" ⟨"QuizLeagueModel", "law", "()I"⟩ ⟨"QuizLeagueModel", "law", "()I"⟩ ∈ TBL := inT1 1478 (by decide +kernel) (by decide +kernel)
set_option maxRecDepth 100000 in
theorem w_798 : Cond.code ⟨"QuizLeague", "fault", "()I"⟩ prog_1_method_10_code 1 (some .int) ∈ TBL := inT1 798 rfl (by decide +kernel)
theorem w_795 : Cond.methodLink "QuizLeagueLaw" 73 ⟨"QuizLeague", "fault", "()I"⟩ ∈ TBL := inT1 795 (by decide +kernel) (by decide +kernel)
theorem w_796 : Cond.instanceMethod ⟨"QuizLeague", "fault", "()I"⟩ ∈ TBL := inT1 796 (by decide +kernel) (by decide +kernel)
theorem w_797 : Cond.selects "QuizLeague" ⟨"QuizLeague", "fault", "()I"⟩ ⟨"QuizLeague", "fault", "()I"⟩ ∈ TBL := inT1 797 (by decide +kernel) (by decide +kernel)
set_option maxRecDepth 100000 in
theorem w_1495 : Cond.code ⟨"QuizLeagueModel", "fault", "()I"⟩ prog_14_method_36_code 1 (some .int) ∈ TBL := inT1 1495 rfl (by decide +kernel)
theorem w_1492 : Cond.methodLink "QuizLeagueLaw" 76 ⟨"QuizLeagueModel", "fault", "()I"⟩ ∈ TBL := inT1 1492 (by decide +kernel) (by decide +kernel)
theorem w_1493 : Cond.instanceMethod ⟨"QuizLeagueModel", "fault", "()I"⟩ ∈ TBL := inT1 1493 (by decide +kernel) (by decide +kernel)
theorem w_1494 : Cond.selects "QuizLeagueModel" ⟨"QuizLeagueModel", "fault", "()I"⟩ ⟨"QuizLeagueModel", "fault", "()I"⟩ ∈ TBL := inT1 1494 (by decide +kernel) (by decide +kernel)
set_option maxRecDepth 100000 in
theorem w_1499 : Cond.code ⟨"QuizLeagueModel", "pack", "(IIIIII)I"⟩ prog_14_method_38_code 11 (some .int) ∈ TBL := inT1 1499 rfl (by decide +kernel)
theorem w_1496 : Cond.methodLink "QuizLeagueLaw" 80 ⟨"QuizLeagueModel", "pack", "(IIIIII)I"⟩ ∈ TBL := inT1 1496 (by decide +kernel) (by decide +kernel)
theorem w_1497 : Cond.instanceMethod ⟨"QuizLeagueModel", "pack", "(IIIIII)I"⟩ ∈ TBL := inT1 1497 (by decide +kernel) (by decide +kernel)
theorem w_1498 : Cond.selects "QuizLeagueModel" ⟨"QuizLeagueModel", "pack", "(IIIIII)I"⟩ ⟨"QuizLeagueModel", "pack", "(IIIIII)I"⟩ ∈ TBL := inT1 1498 (by decide +kernel) (by decide +kernel)
set_option maxRecDepth 100000 in
theorem w_802 : Cond.code ⟨"QuizLeague", "packed", "(I)I"⟩ prog_1_method_12_code 2 (some .int) ∈ TBL := inT1 802 rfl (by decide +kernel)
theorem w_799 : Cond.methodLink "QuizLeagueLaw" 81 ⟨"QuizLeague", "packed", "(I)I"⟩ ∈ TBL := inT1 799 (by decide +kernel) (by decide +kernel)
theorem w_800 : Cond.instanceMethod ⟨"QuizLeague", "packed", "(I)I"⟩ ∈ TBL := inT1 800 (by decide +kernel) (by decide +kernel)
theorem w_801 : Cond.selects "QuizLeague" ⟨"QuizLeague", "packed", "(I)I"⟩ ⟨"QuizLeague", "packed", "(I)I"⟩ ∈ TBL := inT1 801 (by decide +kernel) (by decide +kernel)
set_option maxRecDepth 100000 in
theorem w_1508 : Cond.code ⟨"QuizLeagueModel", "packed", "(I)I"⟩ prog_14_method_39_code 2 (some .int) ∈ TBL := inT1 1508 rfl (by decide +kernel)
theorem w_1505 : Cond.methodLink "QuizLeagueLaw" 84 ⟨"QuizLeagueModel", "packed", "(I)I"⟩ ∈ TBL := inT1 1505 (by decide +kernel) (by decide +kernel)
theorem w_1506 : Cond.instanceMethod ⟨"QuizLeagueModel", "packed", "(I)I"⟩ ∈ TBL := inT1 1506 (by decide +kernel) (by decide +kernel)
theorem w_1507 : Cond.selects "QuizLeagueModel" ⟨"QuizLeagueModel", "packed", "(I)I"⟩ ⟨"QuizLeagueModel", "packed", "(I)I"⟩ ∈ TBL := inT1 1507 (by decide +kernel) (by decide +kernel)
set_option maxRecDepth 100000 in
theorem w_810 : Cond.code ⟨"QuizLeague", "begin", "()Z"⟩ prog_1_method_13_code 1 (some .boolean) ∈ TBL := inT1 810 rfl (by decide +kernel)
theorem w_807 : Cond.methodLink "QuizLeagueLaw" 85 ⟨"QuizLeague", "begin", "()Z"⟩ ∈ TBL := inT1 807 (by decide +kernel) (by decide +kernel)
theorem w_808 : Cond.instanceMethod ⟨"QuizLeague", "begin", "()Z"⟩ ∈ TBL := inT1 808 (by decide +kernel) (by decide +kernel)
theorem w_809 : Cond.selects "QuizLeague" ⟨"QuizLeague", "begin", "()Z"⟩ ⟨"QuizLeague", "begin", "()Z"⟩ ∈ TBL := inT1 809 (by decide +kernel) (by decide +kernel)
set_option maxRecDepth 100000 in
theorem w_1512 : Cond.code ⟨"QuizLeagueModel", "begin", "()Z"⟩ prog_14_method_40_code 2 (some .boolean) ∈ TBL := inT1 1512 rfl (by decide +kernel)
theorem w_1509 : Cond.methodLink "QuizLeagueLaw" 89 ⟨"QuizLeagueModel", "begin", "()Z"⟩ ∈ TBL := inT1 1509 (by decide +kernel) (by decide +kernel)
theorem w_1510 : Cond.instanceMethod ⟨"QuizLeagueModel", "begin", "()Z"⟩ ∈ TBL := inT1 1510 (by decide +kernel) (by decide +kernel)
theorem w_1511 : Cond.selects "QuizLeagueModel" ⟨"QuizLeagueModel", "begin", "()Z"⟩ ⟨"QuizLeagueModel", "begin", "()Z"⟩ ∈ TBL := inT1 1511 (by decide +kernel) (by decide +kernel)
set_option maxRecDepth 100000 in
theorem w_867 : Cond.code ⟨"QuizLeague", "answer", "(I)I"⟩ prog_1_method_14_code 5 (some .int) ∈ TBL := inT1 867 rfl (by decide +kernel)
theorem w_864 : Cond.methodLink "QuizLeagueLaw" 90 ⟨"QuizLeague", "answer", "(I)I"⟩ ∈ TBL := inT1 864 (by decide +kernel) (by decide +kernel)
theorem w_865 : Cond.instanceMethod ⟨"QuizLeague", "answer", "(I)I"⟩ ∈ TBL := inT1 865 (by decide +kernel) (by decide +kernel)
theorem w_866 : Cond.selects "QuizLeague" ⟨"QuizLeague", "answer", "(I)I"⟩ ⟨"QuizLeague", "answer", "(I)I"⟩ ∈ TBL := inT1 866 (by decide +kernel) (by decide +kernel)
set_option maxRecDepth 100000 in
theorem w_1532 : Cond.code ⟨"QuizLeagueModel", "answer", "(I)I"⟩ prog_14_method_47_code 3 (some .int) ∈ TBL := inT1 1532 rfl (by decide +kernel)
theorem w_1529 : Cond.methodLink "QuizLeagueLaw" 93 ⟨"QuizLeagueModel", "answer", "(I)I"⟩ ∈ TBL := inT1 1529 (by decide +kernel) (by decide +kernel)
theorem w_1530 : Cond.instanceMethod ⟨"QuizLeagueModel", "answer", "(I)I"⟩ ∈ TBL := inT1 1530 (by decide +kernel) (by decide +kernel)
theorem w_1531 : Cond.selects "QuizLeagueModel" ⟨"QuizLeagueModel", "answer", "(I)I"⟩ ⟨"QuizLeagueModel", "answer", "(I)I"⟩ ∈ TBL := inT1 1531 (by decide +kernel) (by decide +kernel)
set_option maxRecDepth 100000 in
theorem w_879 : Cond.code ⟨"QuizLeague", "nothing", "(I)Z"⟩ prog_1_method_15_code 2 (some .boolean) ∈ TBL := inT1 879 rfl (by decide +kernel)
theorem w_876 : Cond.methodLink "QuizLeagueLaw" 94 ⟨"QuizLeague", "nothing", "(I)Z"⟩ ∈ TBL := inT1 876 (by decide +kernel) (by decide +kernel)
theorem w_877 : Cond.instanceMethod ⟨"QuizLeague", "nothing", "(I)Z"⟩ ∈ TBL := inT1 877 (by decide +kernel) (by decide +kernel)
theorem w_878 : Cond.selects "QuizLeague" ⟨"QuizLeague", "nothing", "(I)Z"⟩ ⟨"QuizLeague", "nothing", "(I)Z"⟩ ∈ TBL := inT1 878 (by decide +kernel) (by decide +kernel)
set_option maxRecDepth 100000 in
theorem w_1544 : Cond.code ⟨"QuizLeagueModel", "nothing", "(I)Z"⟩ prog_14_method_48_code 2 (some .boolean) ∈ TBL := inT1 1544 rfl (by decide +kernel)
theorem w_1541 : Cond.methodLink "QuizLeagueLaw" 97 ⟨"QuizLeagueModel", "nothing", "(I)Z"⟩ ∈ TBL := inT1 1541 (by decide +kernel) (by decide +kernel)
theorem w_1542 : Cond.instanceMethod ⟨"QuizLeagueModel", "nothing", "(I)Z"⟩ ∈ TBL := inT1 1542 (by decide +kernel) (by decide +kernel)
theorem w_1543 : Cond.selects "QuizLeagueModel" ⟨"QuizLeagueModel", "nothing", "(I)Z"⟩ ⟨"QuizLeagueModel", "nothing", "(I)Z"⟩ ∈ TBL := inT1 1543 (by decide +kernel) (by decide +kernel)
set_option maxRecDepth 100000 in
theorem w_883 : Cond.code ⟨"QuizLeague", "dead", "()Z"⟩ prog_1_method_16_code 1 (some .boolean) ∈ TBL := inT1 883 rfl (by decide +kernel)
theorem w_880 : Cond.methodLink "QuizLeagueLaw" 98 ⟨"QuizLeague", "dead", "()Z"⟩ ∈ TBL := inT1 880 (by decide +kernel) (by decide +kernel)
theorem w_881 : Cond.instanceMethod ⟨"QuizLeague", "dead", "()Z"⟩ ∈ TBL := inT1 881 (by decide +kernel) (by decide +kernel)
theorem w_882 : Cond.selects "QuizLeague" ⟨"QuizLeague", "dead", "()Z"⟩ ⟨"QuizLeague", "dead", "()Z"⟩ ∈ TBL := inT1 882 (by decide +kernel) (by decide +kernel)
set_option maxRecDepth 100000 in
theorem w_1548 : Cond.code ⟨"QuizLeagueModel", "dead", "()Z"⟩ prog_14_method_49_code 1 (some .boolean) ∈ TBL := inT1 1548 rfl (by decide +kernel)
theorem w_1545 : Cond.methodLink "QuizLeagueLaw" 101 ⟨"QuizLeagueModel", "dead", "()Z"⟩ ∈ TBL := inT1 1545 (by decide +kernel) (by decide +kernel)
theorem w_1546 : Cond.instanceMethod ⟨"QuizLeagueModel", "dead", "()Z"⟩ ∈ TBL := inT1 1546 (by decide +kernel) (by decide +kernel)
theorem w_1547 : Cond.selects "QuizLeagueModel" ⟨"QuizLeagueModel", "dead", "()Z"⟩ ⟨"QuizLeagueModel", "dead", "()Z"⟩ ∈ TBL := inT1 1547 (by decide +kernel) (by decide +kernel)
set_option maxRecDepth 100000 in
theorem w_887 : Cond.code ⟨"QuizLeague", "appeal", "(IZ)Z"⟩ prog_1_method_17_code 3 (some .boolean) ∈ TBL := inT1 887 rfl (by decide +kernel)
theorem w_884 : Cond.methodLink "QuizLeagueLaw" 102 ⟨"QuizLeague", "appeal", "(IZ)Z"⟩ ∈ TBL := inT1 884 (by decide +kernel) (by decide +kernel)
theorem w_885 : Cond.instanceMethod ⟨"QuizLeague", "appeal", "(IZ)Z"⟩ ∈ TBL := inT1 885 (by decide +kernel) (by decide +kernel)
theorem w_886 : Cond.selects "QuizLeague" ⟨"QuizLeague", "appeal", "(IZ)Z"⟩ ⟨"QuizLeague", "appeal", "(IZ)Z"⟩ ∈ TBL := inT1 886 (by decide +kernel) (by decide +kernel)
set_option maxRecDepth 100000 in
theorem w_1552 : Cond.code ⟨"QuizLeagueModel", "appeal", "(IZ)Z"⟩ prog_14_method_50_code 3 (some .boolean) ∈ TBL := inT1 1552 rfl (by decide +kernel)
theorem w_1549 : Cond.methodLink "QuizLeagueLaw" 105 ⟨"QuizLeagueModel", "appeal", "(IZ)Z"⟩ ∈ TBL := inT1 1549 (by decide +kernel) (by decide +kernel)
theorem w_1550 : Cond.instanceMethod ⟨"QuizLeagueModel", "appeal", "(IZ)Z"⟩ ∈ TBL := inT1 1550 (by decide +kernel) (by decide +kernel)
theorem w_1551 : Cond.selects "QuizLeagueModel" ⟨"QuizLeagueModel", "appeal", "(IZ)Z"⟩ ⟨"QuizLeagueModel", "appeal", "(IZ)Z"⟩ ∈ TBL := inT1 1551 (by decide +kernel) (by decide +kernel)
set_option maxRecDepth 100000 in
theorem w_899 : Cond.code ⟨"QuizLeague", "undo", "()Z"⟩ prog_1_method_18_code 1 (some .boolean) ∈ TBL := inT1 899 rfl (by decide +kernel)
theorem w_896 : Cond.methodLink "QuizLeagueLaw" 106 ⟨"QuizLeague", "undo", "()Z"⟩ ∈ TBL := inT1 896 (by decide +kernel) (by decide +kernel)
theorem w_897 : Cond.instanceMethod ⟨"QuizLeague", "undo", "()Z"⟩ ∈ TBL := inT1 897 (by decide +kernel) (by decide +kernel)
theorem w_898 : Cond.selects "QuizLeague" ⟨"QuizLeague", "undo", "()Z"⟩ ⟨"QuizLeague", "undo", "()Z"⟩ ∈ TBL := inT1 898 (by decide +kernel) (by decide +kernel)
set_option maxRecDepth 100000 in
theorem w_1556 : Cond.code ⟨"QuizLeagueModel", "undo", "()Z"⟩ prog_14_method_51_code 1 (some .boolean) ∈ TBL := inT1 1556 rfl (by decide +kernel)
theorem w_1553 : Cond.methodLink "QuizLeagueLaw" 109 ⟨"QuizLeagueModel", "undo", "()Z"⟩ ∈ TBL := inT1 1553 (by decide +kernel) (by decide +kernel)
theorem w_1554 : Cond.instanceMethod ⟨"QuizLeagueModel", "undo", "()Z"⟩ ∈ TBL := inT1 1554 (by decide +kernel) (by decide +kernel)
theorem w_1555 : Cond.selects "QuizLeagueModel" ⟨"QuizLeagueModel", "undo", "()Z"⟩ ⟨"QuizLeagueModel", "undo", "()Z"⟩ ∈ TBL := inT1 1555 (by decide +kernel) (by decide +kernel)
set_option maxRecDepth 100000 in
theorem w_907 : Cond.code ⟨"QuizLeague", "now", "(I)I"⟩ prog_1_method_19_code 2 (some .int) ∈ TBL := inT1 907 rfl (by decide +kernel)
theorem w_904 : Cond.methodLink "QuizLeagueLaw" 110 ⟨"QuizLeague", "now", "(I)I"⟩ ∈ TBL := inT1 904 (by decide +kernel) (by decide +kernel)
theorem w_905 : Cond.instanceMethod ⟨"QuizLeague", "now", "(I)I"⟩ ∈ TBL := inT1 905 (by decide +kernel) (by decide +kernel)
theorem w_906 : Cond.selects "QuizLeague" ⟨"QuizLeague", "now", "(I)I"⟩ ⟨"QuizLeague", "now", "(I)I"⟩ ∈ TBL := inT1 906 (by decide +kernel) (by decide +kernel)
set_option maxRecDepth 100000 in
theorem w_1560 : Cond.code ⟨"QuizLeagueModel", "now", "(I)I"⟩ prog_14_method_52_code 2 (some .int) ∈ TBL := inT1 1560 rfl (by decide +kernel)
theorem w_1557 : Cond.methodLink "QuizLeagueLaw" 113 ⟨"QuizLeagueModel", "now", "(I)I"⟩ ∈ TBL := inT1 1557 (by decide +kernel) (by decide +kernel)
theorem w_1558 : Cond.instanceMethod ⟨"QuizLeagueModel", "now", "(I)I"⟩ ∈ TBL := inT1 1558 (by decide +kernel) (by decide +kernel)
theorem w_1559 : Cond.selects "QuizLeagueModel" ⟨"QuizLeagueModel", "now", "(I)I"⟩ ⟨"QuizLeagueModel", "now", "(I)I"⟩ ∈ TBL := inT1 1559 (by decide +kernel) (by decide +kernel)
set_option maxRecDepth 100000 in
theorem w_1564 : Cond.code ⟨"QuizLeagueModel", "event", "(II)I"⟩ prog_14_method_53_code 3 (some .int) ∈ TBL := inT1 1564 rfl (by decide +kernel)
theorem w_1561 : Cond.methodLink "QuizLeagueLaw" 116 ⟨"QuizLeagueModel", "event", "(II)I"⟩ ∈ TBL := inT1 1561 (by decide +kernel) (by decide +kernel)
theorem w_1562 : Cond.instanceMethod ⟨"QuizLeagueModel", "event", "(II)I"⟩ ∈ TBL := inT1 1562 (by decide +kernel) (by decide +kernel)
theorem w_1563 : Cond.selects "QuizLeagueModel" ⟨"QuizLeagueModel", "event", "(II)I"⟩ ⟨"QuizLeagueModel", "event", "(II)I"⟩ ∈ TBL := inT1 1563 (by decide +kernel) (by decide +kernel)
set_option maxRecDepth 100000 in
theorem w_919 : Cond.code ⟨"QuizLeague", "finish", "()Z"⟩ prog_1_method_21_code 3 (some .boolean) ∈ TBL := inT1 919 rfl (by decide +kernel)
theorem w_916 : Cond.methodLink "QuizLeagueLaw" 117 ⟨"QuizLeague", "finish", "()Z"⟩ ∈ TBL := inT1 916 (by decide +kernel) (by decide +kernel)
theorem w_917 : Cond.instanceMethod ⟨"QuizLeague", "finish", "()Z"⟩ ∈ TBL := inT1 917 (by decide +kernel) (by decide +kernel)
theorem w_918 : Cond.selects "QuizLeague" ⟨"QuizLeague", "finish", "()Z"⟩ ⟨"QuizLeague", "finish", "()Z"⟩ ∈ TBL := inT1 918 (by decide +kernel) (by decide +kernel)
set_option maxRecDepth 100000 in
theorem w_1568 : Cond.code ⟨"QuizLeagueModel", "finish", "()Z"⟩ prog_14_method_55_code 4 (some .boolean) ∈ TBL := inT1 1568 rfl (by decide +kernel)
theorem w_1565 : Cond.methodLink "QuizLeagueLaw" 120 ⟨"QuizLeagueModel", "finish", "()Z"⟩ ∈ TBL := inT1 1565 (by decide +kernel) (by decide +kernel)
theorem w_1566 : Cond.instanceMethod ⟨"QuizLeagueModel", "finish", "()Z"⟩ ∈ TBL := inT1 1566 (by decide +kernel) (by decide +kernel)
theorem w_1567 : Cond.selects "QuizLeagueModel" ⟨"QuizLeagueModel", "finish", "()Z"⟩ ⟨"QuizLeagueModel", "finish", "()Z"⟩ ∈ TBL := inT1 1567 (by decide +kernel) (by decide +kernel)
set_option maxRecDepth 100000 in
theorem w_946 : Cond.code ⟨"QuizLeague", "call", "()Z"⟩ prog_1_method_22_code 2 (some .boolean) ∈ TBL := inT1 946 rfl (by decide +kernel)
theorem w_943 : Cond.methodLink "QuizLeagueLaw" 121 ⟨"QuizLeague", "call", "()Z"⟩ ∈ TBL := inT1 943 (by decide +kernel) (by decide +kernel)
theorem w_944 : Cond.instanceMethod ⟨"QuizLeague", "call", "()Z"⟩ ∈ TBL := inT1 944 (by decide +kernel) (by decide +kernel)
theorem w_945 : Cond.selects "QuizLeague" ⟨"QuizLeague", "call", "()Z"⟩ ⟨"QuizLeague", "call", "()Z"⟩ ∈ TBL := inT1 945 (by decide +kernel) (by decide +kernel)
set_option maxRecDepth 100000 in
theorem w_1576 : Cond.code ⟨"QuizLeagueModel", "call", "()Z"⟩ prog_14_method_56_code 2 (some .boolean) ∈ TBL := inT1 1576 rfl (by decide +kernel)
theorem w_1573 : Cond.methodLink "QuizLeagueLaw" 124 ⟨"QuizLeagueModel", "call", "()Z"⟩ ∈ TBL := inT1 1573 (by decide +kernel) (by decide +kernel)
theorem w_1574 : Cond.instanceMethod ⟨"QuizLeagueModel", "call", "()Z"⟩ ∈ TBL := inT1 1574 (by decide +kernel) (by decide +kernel)
theorem w_1575 : Cond.selects "QuizLeagueModel" ⟨"QuizLeagueModel", "call", "()Z"⟩ ⟨"QuizLeagueModel", "call", "()Z"⟩ ∈ TBL := inT1 1575 (by decide +kernel) (by decide +kernel)
set_option maxRecDepth 100000 in
theorem w_950 : Cond.code ⟨"QuizLeague", "table", "(II)I"⟩ prog_1_method_23_code 4 (some .int) ∈ TBL := inT1 950 rfl (by decide +kernel)
theorem w_947 : Cond.methodLink "QuizLeagueLaw" 125 ⟨"QuizLeague", "table", "(II)I"⟩ ∈ TBL := inT1 947 (by decide +kernel) (by decide +kernel)
theorem w_948 : Cond.instanceMethod ⟨"QuizLeague", "table", "(II)I"⟩ ∈ TBL := inT1 948 (by decide +kernel) (by decide +kernel)
theorem w_949 : Cond.selects "QuizLeague" ⟨"QuizLeague", "table", "(II)I"⟩ ⟨"QuizLeague", "table", "(II)I"⟩ ∈ TBL := inT1 949 (by decide +kernel) (by decide +kernel)
set_option maxRecDepth 100000 in
theorem w_1580 : Cond.code ⟨"QuizLeagueModel", "table", "(II)I"⟩ prog_14_method_58_code 7 (some .int) ∈ TBL := inT1 1580 rfl (by decide +kernel)
theorem w_1577 : Cond.methodLink "QuizLeagueLaw" 128 ⟨"QuizLeagueModel", "table", "(II)I"⟩ ∈ TBL := inT1 1577 (by decide +kernel) (by decide +kernel)
theorem w_1578 : Cond.instanceMethod ⟨"QuizLeagueModel", "table", "(II)I"⟩ ∈ TBL := inT1 1578 (by decide +kernel) (by decide +kernel)
theorem w_1579 : Cond.selects "QuizLeagueModel" ⟨"QuizLeagueModel", "table", "(II)I"⟩ ⟨"QuizLeagueModel", "table", "(II)I"⟩ ∈ TBL := inT1 1579 (by decide +kernel) (by decide +kernel)
set_option maxRecDepth 100000 in
theorem w_970 : Cond.code ⟨"QuizLeague", "count", "(I)I"⟩ prog_1_method_24_code 2 (some .int) ∈ TBL := inT1 970 rfl (by decide +kernel)
theorem w_967 : Cond.methodLink "QuizLeagueLaw" 129 ⟨"QuizLeague", "count", "(I)I"⟩ ∈ TBL := inT1 967 (by decide +kernel) (by decide +kernel)
theorem w_968 : Cond.instanceMethod ⟨"QuizLeague", "count", "(I)I"⟩ ∈ TBL := inT1 968 (by decide +kernel) (by decide +kernel)
theorem w_969 : Cond.selects "QuizLeague" ⟨"QuizLeague", "count", "(I)I"⟩ ⟨"QuizLeague", "count", "(I)I"⟩ ∈ TBL := inT1 969 (by decide +kernel) (by decide +kernel)
set_option maxRecDepth 100000 in
theorem w_1588 : Cond.code ⟨"QuizLeagueModel", "count", "(I)I"⟩ prog_14_method_59_code 2 (some .int) ∈ TBL := inT1 1588 rfl (by decide +kernel)
theorem w_1585 : Cond.methodLink "QuizLeagueLaw" 132 ⟨"QuizLeagueModel", "count", "(I)I"⟩ ∈ TBL := inT1 1585 (by decide +kernel) (by decide +kernel)
theorem w_1586 : Cond.instanceMethod ⟨"QuizLeagueModel", "count", "(I)I"⟩ ∈ TBL := inT1 1586 (by decide +kernel) (by decide +kernel)
theorem w_1587 : Cond.selects "QuizLeagueModel" ⟨"QuizLeagueModel", "count", "(I)I"⟩ ⟨"QuizLeagueModel", "count", "(I)I"⟩ ∈ TBL := inT1 1587 (by decide +kernel) (by decide +kernel)
theorem kvL_30 : LkV RL 30 RX11 yX11_feed cX11_feed 6 (some .int) 5 := ⟨w_390, w_1, w_387, (by decide +kernel), w_388, w_389⟩
theorem kvL_34 : LkV RL 34 RX12 yX12_feed cX12_feed 6 (some .int) 5 := ⟨w_1362, w_11, w_1359, (by decide +kernel), w_1360, w_1361⟩
theorem kvL_35 : LkV RL 35 RX11 yX11_end cX11_end 2 (some .boolean) 1 := ⟨w_402, w_1, w_399, (by decide +kernel), w_400, w_401⟩
theorem kvL_39 : LkV RL 39 RX12 yX12_end cX12_end 2 (some .boolean) 1 := ⟨w_1370, w_11, w_1367, (by decide +kernel), w_1368, w_1369⟩
theorem kvL_40 : LkV RL 40 RX11 yX11_question cX11_question 2 (some .int) 1 := ⟨w_410, w_1, w_407, (by decide +kernel), w_408, w_409⟩
theorem kvL_44 : LkV RL 44 RX12 yX12_question cX12_question 3 (some .int) 1 := ⟨w_1374, w_11, w_1371, (by decide +kernel), w_1372, w_1373⟩
theorem kvL_45 : LkV RL 45 RX11 yX11_takes cX11_takes 4 (some .int) 1 := ⟨w_648, w_1, w_645, (by decide +kernel), w_646, w_647⟩
theorem kvL_48 : LkV RL 48 RX12 yX12_takes cX12_takes 3 (some .int) 1 := ⟨w_1436, w_11, w_1433, (by decide +kernel), w_1434, w_1435⟩
theorem kvL_49 : LkV RL 49 RX11 yX11_strike cX11_strike 4 (some .boolean) 2 := ⟨w_727, w_1, w_724, (by decide +kernel), w_725, w_726⟩
theorem kvL_53 : LkV RL 53 RX12 yX12_strike cX12_strike 3 (some .boolean) 2 := ⟨w_1460, w_11, w_1457, (by decide +kernel), w_1458, w_1459⟩
theorem kvL_59 : LkV RL 59 RX12 yX12_asked cX12_asked 5 (some .int) 2 := ⟨w_1464, w_11, w_1461, (by decide +kernel), w_1462, w_1463⟩
theorem kvL_60 : LkV RL 60 RX12 yX12_thrown cX12_thrown 1 (some .int) 0 := ⟨w_1358, w_11, w_1355, (by decide +kernel), w_1356, w_1357⟩
theorem kvL_64 : LkV RL 64 RX11 yX11_seen cX11_seen 4 (some .boolean) 2 := ⟨w_731, w_1, w_728, (by decide +kernel), w_729, w_730⟩
theorem kvL_68 : LkV RL 68 RX12 yX12_seen cX12_seen 3 (some .boolean) 2 := ⟨w_1472, w_11, w_1469, (by decide +kernel), w_1470, w_1471⟩
theorem kvL_69 : LkV RL 69 RX11 yX11_law cX11_law 2 (some .int) 0 := ⟨w_742, w_1, w_739, (by decide +kernel), w_740, w_741⟩
theorem kvL_72 : LkV RL 72 RX12 yX12_law cX12_law 2 (some .int) 0 := ⟨w_1479, w_11, w_1476, (by decide +kernel), w_1477, w_1478⟩
theorem kvL_73 : LkV RL 73 RX11 yX11_fault cX11_fault 1 (some .int) 0 := ⟨w_798, w_1, w_795, (by decide +kernel), w_796, w_797⟩
theorem kvL_76 : LkV RL 76 RX12 yX12_fault cX12_fault 1 (some .int) 0 := ⟨w_1495, w_11, w_1492, (by decide +kernel), w_1493, w_1494⟩
theorem kvL_80 : LkV RL 80 RX12 yX12_pack cX12_pack 11 (some .int) 6 := ⟨w_1499, w_11, w_1496, (by decide +kernel), w_1497, w_1498⟩
theorem kvL_81 : LkV RL 81 RX11 yX11_packed cX11_packed 2 (some .int) 1 := ⟨w_802, w_1, w_799, (by decide +kernel), w_800, w_801⟩
theorem kvL_84 : LkV RL 84 RX12 yX12_packed cX12_packed 2 (some .int) 1 := ⟨w_1508, w_11, w_1505, (by decide +kernel), w_1506, w_1507⟩
theorem kvL_85 : LkV RL 85 RX11 yX11_begin cX11_begin 1 (some .boolean) 0 := ⟨w_810, w_1, w_807, (by decide +kernel), w_808, w_809⟩
theorem kvL_89 : LkV RL 89 RX12 yX12_begin cX12_begin 2 (some .boolean) 0 := ⟨w_1512, w_11, w_1509, (by decide +kernel), w_1510, w_1511⟩
theorem kvL_90 : LkV RL 90 RX11 yX11_answer cX11_answer 5 (some .int) 1 := ⟨w_867, w_1, w_864, (by decide +kernel), w_865, w_866⟩
theorem kvL_93 : LkV RL 93 RX12 yX12_answer cX12_answer 3 (some .int) 1 := ⟨w_1532, w_11, w_1529, (by decide +kernel), w_1530, w_1531⟩
theorem kvL_94 : LkV RL 94 RX11 yX11_nothing cX11_nothing 2 (some .boolean) 1 := ⟨w_879, w_1, w_876, (by decide +kernel), w_877, w_878⟩
theorem kvL_97 : LkV RL 97 RX12 yX12_nothing cX12_nothing 2 (some .boolean) 1 := ⟨w_1544, w_11, w_1541, (by decide +kernel), w_1542, w_1543⟩
theorem kvL_98 : LkV RL 98 RX11 yX11_dead cX11_dead 1 (some .boolean) 0 := ⟨w_883, w_1, w_880, (by decide +kernel), w_881, w_882⟩
theorem kvL_101 : LkV RL 101 RX12 yX12_dead cX12_dead 1 (some .boolean) 0 := ⟨w_1548, w_11, w_1545, (by decide +kernel), w_1546, w_1547⟩
theorem kvL_102 : LkV RL 102 RX11 yX11_appeal cX11_appeal 3 (some .boolean) 2 := ⟨w_887, w_1, w_884, (by decide +kernel), w_885, w_886⟩
theorem kvL_105 : LkV RL 105 RX12 yX12_appeal cX12_appeal 3 (some .boolean) 2 := ⟨w_1552, w_11, w_1549, (by decide +kernel), w_1550, w_1551⟩
theorem kvL_106 : LkV RL 106 RX11 yX11_undo cX11_undo 1 (some .boolean) 0 := ⟨w_899, w_1, w_896, (by decide +kernel), w_897, w_898⟩
theorem kvL_109 : LkV RL 109 RX12 yX12_undo cX12_undo 1 (some .boolean) 0 := ⟨w_1556, w_11, w_1553, (by decide +kernel), w_1554, w_1555⟩
theorem kvL_110 : LkV RL 110 RX11 yX11_now cX11_now 2 (some .int) 1 := ⟨w_907, w_1, w_904, (by decide +kernel), w_905, w_906⟩
theorem kvL_113 : LkV RL 113 RX12 yX12_now cX12_now 2 (some .int) 1 := ⟨w_1560, w_11, w_1557, (by decide +kernel), w_1558, w_1559⟩
theorem kvL_116 : LkV RL 116 RX12 yX12_event cX12_event 3 (some .int) 2 := ⟨w_1564, w_11, w_1561, (by decide +kernel), w_1562, w_1563⟩
theorem kvL_117 : LkV RL 117 RX11 yX11_finish cX11_finish 3 (some .boolean) 0 := ⟨w_919, w_1, w_916, (by decide +kernel), w_917, w_918⟩
theorem kvL_120 : LkV RL 120 RX12 yX12_finish cX12_finish 4 (some .boolean) 0 := ⟨w_1568, w_11, w_1565, (by decide +kernel), w_1566, w_1567⟩
theorem kvL_121 : LkV RL 121 RX11 yX11_call cX11_call 2 (some .boolean) 0 := ⟨w_946, w_1, w_943, (by decide +kernel), w_944, w_945⟩
theorem kvL_124 : LkV RL 124 RX12 yX12_call cX12_call 2 (some .boolean) 0 := ⟨w_1576, w_11, w_1573, (by decide +kernel), w_1574, w_1575⟩
theorem kvL_125 : LkV RL 125 RX11 yX11_table cX11_table 4 (some .int) 2 := ⟨w_950, w_1, w_947, (by decide +kernel), w_948, w_949⟩
theorem kvL_128 : LkV RL 128 RX12 yX12_table cX12_table 7 (some .int) 2 := ⟨w_1580, w_11, w_1577, (by decide +kernel), w_1578, w_1579⟩
theorem kvL_129 : LkV RL 129 RX11 yX11_count cX11_count 2 (some .int) 1 := ⟨w_970, w_1, w_967, (by decide +kernel), w_968, w_969⟩
theorem kvL_132 : LkV RL 132 RX12 yX12_count cX12_count 2 (some .int) 1 := ⟨w_1588, w_11, w_1585, (by decide +kernel), w_1586, w_1587⟩
set_option maxRecDepth 100000 in
theorem wW_54 : Cond.codeWith yL_asked cL_asked 5 (some .int) [(0, 10, 13, 13)] ∈ TBL := inT1 973 rfl (by decide +kernel)
theorem kwL_54 : LkW RL 54 yL_asked cL_asked 5 (some .int) [(0, 10, 13, 13)] 4 := ⟨wW_54, w_0, w_971, (by decide +kernel), w_972⟩
set_option maxRecDepth 100000 in
theorem wW_77 : Cond.codeWith yL_pack cL_pack 9 (some .int) [(0, 18, 21, 19), (0, 18, 25, 21)] ∈ TBL := inT1 1062 rfl (by decide +kernel)
theorem kwL_77 : LkW RL 77 yL_pack cL_pack 9 (some .int) [(0, 18, 21, 19), (0, 18, 25, 21)] 8 := ⟨wW_77, w_0, w_1060, (by decide +kernel), w_1061⟩
set_option maxRecDepth 100000 in
theorem wW_114 : Cond.codeWith yL_event cL_event 5 (some .int) [(0, 10, 13, 13)] ∈ TBL := inT1 1136 rfl (by decide +kernel)
theorem kwL_114 : LkW RL 114 yL_event cL_event 5 (some .int) [(0, 10, 13, 13)] 4 := ⟨wW_114, w_0, w_1134, (by decide +kernel), w_1135⟩
set_option maxHeartbeats 4000000 in
set_option maxRecDepth 100000 in
theorem lc_0 {p : Program} {l : Launch} {e : Env} {s : State} {m : MethodId} {below : List Frame} {meth : Method} {c : Code} {H : Heap} {locs : List Loc} {cells slots : Nat} {Q : State → Prop} {ls : Array Slot} {M0 M : Mem} {g : Gh} {b L cnt : Nat} {xs : Nat → Int32} (hst : l.stackTraces = false) (C : Cx g p s m #[Value.ref b] c cL_law 7 RL) (hZ : ZX g s s.heap) (hNc : va_Nc "java/lang/IllegalStateException" "java/lang/IllegalArgumentException" s) (hX : va_X b L xs s s.heap) (hbl : b < s.heap.size) (hbA : ¬ gA g b) (hi : 7 * cnt + 7 ≤ L) (hL : L ≤ 3584) (hI : Inv g M cnt) (hcc : cnt ≤ 512) (hw : Wd g s M0 M H locs) (hl : lv_has ls 7 [(0, .ref b), (1, .ref (gB g)), (2, .ref (gB g + 195)), (3, .ref (gB g + 233)), (4, .int (nI (7 * cnt)))]) (hce : cells + 5 ≤ 601024) (hsl : slots + 609 ≤ 7293034) (nxt : ∀ (M' : Mem) (H' : Heap) (locs' : List Loc) (ls' : Array Slot) (k n : Nat), Inv g M' (cnt + 1) → Wd g s M0 M' H' locs' → lv_has ls' 7 [(0, .ref b), (1, .ref (gB g)), (2, .ref (gB g + 195)), (3, .ref (gB g + 233)), (4, .int (nI (7 * cnt)))] → k ≤ cells + 5 → n ≤ slots + 609 → W p l e room_1 s m #[Value.ref b] below meth c H' locs' k n Q (F0 m 946 ls' [])) : W p l e room_1 s m #[Value.ref b] below meth c H locs cells slots Q (F0 m 148 ls []) := by
  have hx := C.1.1
  have hb := C.1.2.1
  have vin : ∀ j : Nat, j < 7 → vp_in (nI (7 * cnt) + nI j) L := fun j hj => by rw [nI_add]; exact vp_in_nI (by omega) (by omega)
  refine lv_aload_n hx hb dL_law_148 rfl (lv_at hl 1 rfl) ?_
  refine lv_aload_n hx hb dL_law_149 rfl (lv_at hl 0 rfl) ?_
  refine lv_iload hx hb dL_law_150 (lv_at hl 4 rfl) ?_
  refine lv_iconst (v := 1) hx hb dL_law_152 (by decide) ?_
  refine lv_iadd hx hb dL_law_153 ?_
  refine va_sld hx hb hX hbl hbA hw.2.2.2 (vin 1 (by decide)) dL_law_154 ?_
  refine lv_aload_n hx hb dL_law_155 rfl (lv_at hl 0 rfl) ?_
  refine lv_iload hx hb dL_law_156 (lv_at hl 4 rfl) ?_
  refine lv_iconst (v := 2) hx hb dL_law_158 (by decide) ?_
  refine lv_iadd hx hb dL_law_159 ?_
  refine va_sld hx hb hX hbl hbA hw.2.2.2 (vin 2 (by decide)) dL_law_160 ?_
  refine lv_aload_n hx hb dL_law_161 rfl (lv_at hl 0 rfl) ?_
  refine lv_iload hx hb dL_law_162 (lv_at hl 4 rfl) ?_
  refine lv_iconst (v := 3) hx hb dL_law_164 (by decide) ?_
  refine lv_iadd hx hb dL_law_165 ?_
  refine va_sld hx hb hX hbl hbA hw.2.2.2 (vin 3 (by decide)) dL_law_166 ?_
  refine lv_aload_n hx hb dL_law_167 rfl (lv_at hl 0 rfl) ?_
  refine lv_iload hx hb dL_law_168 (lv_at hl 4 rfl) ?_
  refine lv_iconst (v := 4) hx hb dL_law_170 (by decide) ?_
  refine lv_iadd hx hb dL_law_171 ?_
  refine va_sld hx hb hX hbl hbA hw.2.2.2 (vin 4 (by decide)) dL_law_172 ?_
  refine lv_aload_n hx hb dL_law_173 rfl (lv_at hl 0 rfl) ?_
  refine lv_iload hx hb dL_law_174 (lv_at hl 4 rfl) ?_
  refine lv_iconst (v := 5) hx hb dL_law_176 (by decide) ?_
  refine lv_iadd hx hb dL_law_177 ?_
  refine va_sld hx hb hX hbl hbA hw.2.2.2 (vin 5 (by decide)) dL_law_178 ?_
  have hq := m_feed hI (xs (Int32.toNatClampNeg (nI (7 * cnt) + 1))) (xs (Int32.toNatClampNeg (nI (7 * cnt) + 2))) (xs (Int32.toNatClampNeg (nI (7 * cnt) + 3))) (xs (Int32.toNatClampNeg (nI (7 * cnt) + 4))) (xs (Int32.toNatClampNeg (nI (7 * cnt) + 5))) (Z := fun v w M2 => v = w ∧ Inv g M2 (cnt + 1)) (fun v M' h => ⟨rfl, h⟩)
  refine r_callV (T := TX11) (N := 11) (ci := 11) (index := 30) (n := 5) (d2 := 1) (mc := 0) (ms := 0) (As := [.int (xs (Int32.toNatClampNeg (nI (7 * cnt) + 1))), .int (xs (Int32.toNatClampNeg (nI (7 * cnt) + 2))), .int (xs (Int32.toNatClampNeg (nI (7 * cnt) + 3))), .int (xs (Int32.toNatClampNeg (nI (7 * cnt) + 4))), .int (xs (Int32.toNatClampNeg (nI (7 * cnt) + 5)))]) (rest := []) C hw (ct_X11_feed hq) kvL_30 hq.1 (by decide) rfl ⟨by decide, by decide⟩ ⟨by show cells + 0 ≤ 601024; omega, by show slots + 0 ≤ 7293034; omega⟩ rfl hl.1 rfl (Nat.le_of_ble_eq_true rfl) dL_law_179 (fun r M1 H locs hp hle hw => ?_)
  obtain ⟨v1, rfl, hq⟩ := hp
  refine W.eq (g2 := F0 m 182 ls [.int v1]) rfl ?_
  refine lv_aload_n hx hb dL_law_182 rfl (lv_at hl 2 rfl) ?_
  refine lv_aload_n hx hb dL_law_183 rfl (lv_at hl 0 rfl) ?_
  refine lv_iload hx hb dL_law_184 (lv_at hl 4 rfl) ?_
  refine lv_iconst (v := 1) hx hb dL_law_186 (by decide) ?_
  refine lv_iadd hx hb dL_law_187 ?_
  refine va_sld hx hb hX hbl hbA hw.2.2.2 (vin 1 (by decide)) dL_law_188 ?_
  refine lv_aload_n hx hb dL_law_189 rfl (lv_at hl 0 rfl) ?_
  refine lv_iload hx hb dL_law_190 (lv_at hl 4 rfl) ?_
  refine lv_iconst (v := 2) hx hb dL_law_192 (by decide) ?_
  refine lv_iadd hx hb dL_law_193 ?_
  refine va_sld hx hb hX hbl hbA hw.2.2.2 (vin 2 (by decide)) dL_law_194 ?_
  refine lv_aload_n hx hb dL_law_195 rfl (lv_at hl 0 rfl) ?_
  refine lv_iload hx hb dL_law_196 (lv_at hl 4 rfl) ?_
  refine lv_iconst (v := 3) hx hb dL_law_198 (by decide) ?_
  refine lv_iadd hx hb dL_law_199 ?_
  refine va_sld hx hb hX hbl hbA hw.2.2.2 (vin 3 (by decide)) dL_law_200 ?_
  refine lv_aload_n hx hb dL_law_201 rfl (lv_at hl 0 rfl) ?_
  refine lv_iload hx hb dL_law_202 (lv_at hl 4 rfl) ?_
  refine lv_iconst (v := 4) hx hb dL_law_204 (by decide) ?_
  refine lv_iadd hx hb dL_law_205 ?_
  refine va_sld hx hb hX hbl hbA hw.2.2.2 (vin 4 (by decide)) dL_law_206 ?_
  refine lv_aload_n hx hb dL_law_207 rfl (lv_at hl 0 rfl) ?_
  refine lv_iload hx hb dL_law_208 (lv_at hl 4 rfl) ?_
  refine lv_iconst (v := 5) hx hb dL_law_210 (by decide) ?_
  refine lv_iadd hx hb dL_law_211 ?_
  refine va_sld hx hb hX hbl hbA hw.2.2.2 (vin 5 (by decide)) dL_law_212 ?_
  refine r_callV (T := TX12) (N := 67) (ci := 12) (index := 34) (n := 5) (d2 := 1) (mc := 0) (ms := 0) (As := [.int (xs (Int32.toNatClampNeg (nI (7 * cnt) + 1))), .int (xs (Int32.toNatClampNeg (nI (7 * cnt) + 2))), .int (xs (Int32.toNatClampNeg (nI (7 * cnt) + 3))), .int (xs (Int32.toNatClampNeg (nI (7 * cnt) + 4))), .int (xs (Int32.toNatClampNeg (nI (7 * cnt) + 5)))]) (rest := [.int v1]) C hw (ct_X12_feed hq) kvL_34 hq.1 (by decide) rfl ⟨by decide, by decide⟩ ⟨by show (cells + 0) + 0 ≤ 601024; omega, by show (slots + 0) + 0 ≤ 7293034; omega⟩ rfl hl.1 rfl (Nat.le_of_ble_eq_true rfl) dL_law_213 (fun r M2 H locs hp hle hw => ?_)
  obtain ⟨v2, rfl, hq⟩ := hp
  refine W.eq (g2 := F0 m 216 ls [.int v2, .int v1]) rfl ?_
  refine lv_icmp_eq (tgt := 946) hx hb dL_law_216 (by decide) (fun _ => ?_) (fun hn => absurd hq.1 hn)
  exact nxt _ _ _ _ _ _ hq.2 hw hl (by omega) (by omega)
set_option maxHeartbeats 4000000 in
set_option maxRecDepth 100000 in
theorem lc_1 {p : Program} {l : Launch} {e : Env} {s : State} {m : MethodId} {below : List Frame} {meth : Method} {c : Code} {H : Heap} {locs : List Loc} {cells slots : Nat} {Q : State → Prop} {ls : Array Slot} {M0 M : Mem} {g : Gh} {b L cnt : Nat} {xs : Nat → Int32} (hst : l.stackTraces = false) (C : Cx g p s m #[Value.ref b] c cL_law 7 RL) (hZ : ZX g s s.heap) (hNc : va_Nc "java/lang/IllegalStateException" "java/lang/IllegalArgumentException" s) (hX : va_X b L xs s s.heap) (hbl : b < s.heap.size) (hbA : ¬ gA g b) (hi : 7 * cnt + 7 ≤ L) (hL : L ≤ 3584) (hI : Inv g M cnt) (hcc : cnt ≤ 512) (hw : Wd g s M0 M H locs) (hl : lv_has ls 7 [(0, .ref b), (1, .ref (gB g)), (2, .ref (gB g + 195)), (3, .ref (gB g + 233)), (4, .int (nI (7 * cnt)))]) (hce : cells + 5 ≤ 601024) (hsl : slots + 609 ≤ 7293034) (nxt : ∀ (M' : Mem) (H' : Heap) (locs' : List Loc) (ls' : Array Slot) (k n : Nat), Inv g M' (cnt + 1) → Wd g s M0 M' H' locs' → lv_has ls' 7 [(0, .ref b), (1, .ref (gB g)), (2, .ref (gB g + 195)), (3, .ref (gB g + 233)), (4, .int (nI (7 * cnt)))] → k ≤ cells + 5 → n ≤ slots + 609 → W p l e room_1 s m #[Value.ref b] below meth c H' locs' k n Q (F0 m 946 ls' [])) : W p l e room_1 s m #[Value.ref b] below meth c H locs cells slots Q (F0 m 221 ls []) := by
  have hx := C.1.1
  have hb := C.1.2.1
  have vin : ∀ j : Nat, j < 7 → vp_in (nI (7 * cnt) + nI j) L := fun j hj => by rw [nI_add]; exact vp_in_nI (by omega) (by omega)
  refine lv_aload_n hx hb dL_law_221 rfl (lv_at hl 1 rfl) ?_
  refine lv_aload_n hx hb dL_law_222 rfl (lv_at hl 0 rfl) ?_
  refine lv_iload hx hb dL_law_223 (lv_at hl 4 rfl) ?_
  refine lv_iconst (v := 1) hx hb dL_law_225 (by decide) ?_
  refine lv_iadd hx hb dL_law_226 ?_
  refine va_sld hx hb hX hbl hbA hw.2.2.2 (vin 1 (by decide)) dL_law_227 ?_
  have hq := m_end hI (xs (Int32.toNatClampNeg (nI (7 * cnt) + 1))) (Z := fun v w M2 => v = w ∧ Inv g M2 (cnt + 1)) (fun v M' h => ⟨rfl, h⟩)
  refine r_callV (T := TX11) (N := 11) (ci := 11) (index := 35) (n := 1) (d2 := 1) (mc := 0) (ms := 0) (As := [.int (xs (Int32.toNatClampNeg (nI (7 * cnt) + 1)))]) (rest := []) C hw (ct_X11_end hq) kvL_35 hq.1 (by decide) rfl ⟨by decide, by decide⟩ ⟨by show cells + 0 ≤ 601024; omega, by show slots + 0 ≤ 7293034; omega⟩ rfl hl.1 rfl (Nat.le_of_ble_eq_true rfl) dL_law_228 (fun r M1 H locs hp hle hw => ?_)
  obtain ⟨v1, rfl, hq⟩ := hp
  refine W.eq (g2 := F0 m 231 ls [.int v1]) rfl ?_
  refine lv_aload_n hx hb dL_law_231 rfl (lv_at hl 2 rfl) ?_
  refine lv_aload_n hx hb dL_law_232 rfl (lv_at hl 0 rfl) ?_
  refine lv_iload hx hb dL_law_233 (lv_at hl 4 rfl) ?_
  refine lv_iconst (v := 1) hx hb dL_law_235 (by decide) ?_
  refine lv_iadd hx hb dL_law_236 ?_
  refine va_sld hx hb hX hbl hbA hw.2.2.2 (vin 1 (by decide)) dL_law_237 ?_
  refine r_callV (T := TX12) (N := 67) (ci := 12) (index := 39) (n := 1) (d2 := 0) (mc := 0) (ms := 0) (As := [.int (xs (Int32.toNatClampNeg (nI (7 * cnt) + 1)))]) (rest := [.int v1]) C hw (ct_X12_end hq) kvL_39 hq.1 (by decide) rfl ⟨by decide, by decide⟩ ⟨by show (cells + 0) + 0 ≤ 601024; omega, by show (slots + 0) + 0 ≤ 7293034; omega⟩ rfl hl.1 rfl (Nat.le_of_ble_eq_true rfl) dL_law_238 (fun r M2 H locs hp hle hw => ?_)
  obtain ⟨v2, rfl, hq⟩ := hp
  refine W.eq (g2 := F0 m 241 ls [.int v2, .int v1]) rfl ?_
  refine lv_icmp_eq (tgt := 946) hx hb dL_law_241 (by decide) (fun _ => ?_) (fun hn => absurd hq.1 hn)
  exact nxt _ _ _ _ _ _ hq.2 hw hl (by omega) (by omega)
set_option maxHeartbeats 4000000 in
set_option maxRecDepth 100000 in
theorem lc_2 {p : Program} {l : Launch} {e : Env} {s : State} {m : MethodId} {below : List Frame} {meth : Method} {c : Code} {H : Heap} {locs : List Loc} {cells slots : Nat} {Q : State → Prop} {ls : Array Slot} {M0 M : Mem} {g : Gh} {b L cnt : Nat} {xs : Nat → Int32} (hst : l.stackTraces = false) (C : Cx g p s m #[Value.ref b] c cL_law 7 RL) (hZ : ZX g s s.heap) (hNc : va_Nc "java/lang/IllegalStateException" "java/lang/IllegalArgumentException" s) (hX : va_X b L xs s s.heap) (hbl : b < s.heap.size) (hbA : ¬ gA g b) (hi : 7 * cnt + 7 ≤ L) (hL : L ≤ 3584) (hI : Inv g M cnt) (hcc : cnt ≤ 512) (hw : Wd g s M0 M H locs) (hl : lv_has ls 7 [(0, .ref b), (1, .ref (gB g)), (2, .ref (gB g + 195)), (3, .ref (gB g + 233)), (4, .int (nI (7 * cnt)))]) (hce : cells + 5 ≤ 601024) (hsl : slots + 609 ≤ 7293034) (nxt : ∀ (M' : Mem) (H' : Heap) (locs' : List Loc) (ls' : Array Slot) (k n : Nat), Inv g M' (cnt + 1) → Wd g s M0 M' H' locs' → lv_has ls' 7 [(0, .ref b), (1, .ref (gB g)), (2, .ref (gB g + 195)), (3, .ref (gB g + 233)), (4, .int (nI (7 * cnt)))] → k ≤ cells + 5 → n ≤ slots + 609 → W p l e room_1 s m #[Value.ref b] below meth c H' locs' k n Q (F0 m 946 ls' [])) : W p l e room_1 s m #[Value.ref b] below meth c H locs cells slots Q (F0 m 246 ls []) := by
  have hx := C.1.1
  have hb := C.1.2.1
  have vin : ∀ j : Nat, j < 7 → vp_in (nI (7 * cnt) + nI j) L := fun j hj => by rw [nI_add]; exact vp_in_nI (by omega) (by omega)
  refine lv_aload_n hx hb dL_law_246 rfl (lv_at hl 1 rfl) ?_
  refine lv_aload_n hx hb dL_law_247 rfl (lv_at hl 0 rfl) ?_
  refine lv_iload hx hb dL_law_248 (lv_at hl 4 rfl) ?_
  refine lv_iconst (v := 1) hx hb dL_law_250 (by decide) ?_
  refine lv_iadd hx hb dL_law_251 ?_
  refine va_sld hx hb hX hbl hbA hw.2.2.2 (vin 1 (by decide)) dL_law_252 ?_
  have hq := m_question hI (xs (Int32.toNatClampNeg (nI (7 * cnt) + 1))) (Z := fun v w M2 => v = w ∧ Inv g M2 (cnt + 1)) (fun v M' h => ⟨rfl, h⟩)
  refine r_callV (T := TX11) (N := 11) (ci := 11) (index := 40) (n := 1) (d2 := 10) (mc := 5) (ms := 609) (As := [.int (xs (Int32.toNatClampNeg (nI (7 * cnt) + 1)))]) (rest := []) C hw (ct_X11_question hq) kvL_40 hq.1 (by decide) rfl ⟨by decide, by decide⟩ ⟨by show cells + 5 ≤ 601024; omega, by show slots + 609 ≤ 7293034; omega⟩ rfl hl.1 rfl (Nat.le_of_ble_eq_true rfl) dL_law_253 (fun r M1 H locs hp hle hw => ?_)
  obtain ⟨v1, rfl, hq⟩ := hp
  refine W.eq (g2 := F0 m 256 ls [.int v1]) rfl ?_
  refine lv_aload_n hx hb dL_law_256 rfl (lv_at hl 2 rfl) ?_
  refine lv_aload_n hx hb dL_law_257 rfl (lv_at hl 0 rfl) ?_
  refine lv_iload hx hb dL_law_258 (lv_at hl 4 rfl) ?_
  refine lv_iconst (v := 1) hx hb dL_law_260 (by decide) ?_
  refine lv_iadd hx hb dL_law_261 ?_
  refine va_sld hx hb hX hbl hbA hw.2.2.2 (vin 1 (by decide)) dL_law_262 ?_
  refine r_callV (T := TX12) (N := 67) (ci := 12) (index := 44) (n := 1) (d2 := 209) (mc := 0) (ms := 0) (As := [.int (xs (Int32.toNatClampNeg (nI (7 * cnt) + 1)))]) (rest := [.int v1]) C hw (ct_X12_question hq) kvL_44 hq.1 (by decide) rfl ⟨by decide, by decide⟩ ⟨by show (cells + 5) + 0 ≤ 601024; omega, by show (slots + 609) + 0 ≤ 7293034; omega⟩ rfl hl.1 rfl (Nat.le_of_ble_eq_true rfl) dL_law_263 (fun r M2 H locs hp hle hw => ?_)
  obtain ⟨v2, rfl, hq⟩ := hp
  refine W.eq (g2 := F0 m 266 ls [.int v2, .int v1]) rfl ?_
  refine lv_icmp_eq (tgt := 946) hx hb dL_law_266 (by decide) (fun _ => ?_) (fun hn => absurd hq.1 hn)
  exact nxt _ _ _ _ _ _ hq.2 hw hl (by omega) (by omega)
set_option maxHeartbeats 4000000 in
set_option maxRecDepth 100000 in
theorem lc_3 {p : Program} {l : Launch} {e : Env} {s : State} {m : MethodId} {below : List Frame} {meth : Method} {c : Code} {H : Heap} {locs : List Loc} {cells slots : Nat} {Q : State → Prop} {ls : Array Slot} {M0 M : Mem} {g : Gh} {b L cnt : Nat} {xs : Nat → Int32} (hst : l.stackTraces = false) (C : Cx g p s m #[Value.ref b] c cL_law 7 RL) (hZ : ZX g s s.heap) (hNc : va_Nc "java/lang/IllegalStateException" "java/lang/IllegalArgumentException" s) (hX : va_X b L xs s s.heap) (hbl : b < s.heap.size) (hbA : ¬ gA g b) (hi : 7 * cnt + 7 ≤ L) (hL : L ≤ 3584) (hI : Inv g M cnt) (hcc : cnt ≤ 512) (hw : Wd g s M0 M H locs) (hl : lv_has ls 7 [(0, .ref b), (1, .ref (gB g)), (2, .ref (gB g + 195)), (3, .ref (gB g + 233)), (4, .int (nI (7 * cnt)))]) (hce : cells + 5 ≤ 601024) (hsl : slots + 609 ≤ 7293034) (nxt : ∀ (M' : Mem) (H' : Heap) (locs' : List Loc) (ls' : Array Slot) (k n : Nat), Inv g M' (cnt + 1) → Wd g s M0 M' H' locs' → lv_has ls' 7 [(0, .ref b), (1, .ref (gB g)), (2, .ref (gB g + 195)), (3, .ref (gB g + 233)), (4, .int (nI (7 * cnt)))] → k ≤ cells + 5 → n ≤ slots + 609 → W p l e room_1 s m #[Value.ref b] below meth c H' locs' k n Q (F0 m 946 ls' [])) : W p l e room_1 s m #[Value.ref b] below meth c H locs cells slots Q (F0 m 271 ls []) := by
  have hx := C.1.1
  have hb := C.1.2.1
  have vin : ∀ j : Nat, j < 7 → vp_in (nI (7 * cnt) + nI j) L := fun j hj => by rw [nI_add]; exact vp_in_nI (by omega) (by omega)
  refine lv_aload_n hx hb dL_law_271 rfl (lv_at hl 1 rfl) ?_
  refine lv_aload_n hx hb dL_law_272 rfl (lv_at hl 0 rfl) ?_
  refine lv_iload hx hb dL_law_273 (lv_at hl 4 rfl) ?_
  refine lv_iconst (v := 1) hx hb dL_law_275 (by decide) ?_
  refine lv_iadd hx hb dL_law_276 ?_
  refine va_sld hx hb hX hbl hbA hw.2.2.2 (vin 1 (by decide)) dL_law_277 ?_
  have hq := m_takes hI (xs (Int32.toNatClampNeg (nI (7 * cnt) + 1))) (Z := fun v w M2 => v = w ∧ Inv g M2 (cnt + 1)) (fun v M' h => ⟨rfl, h⟩)
  refine r_callV (T := TX11) (N := 11) (ci := 11) (index := 45) (n := 1) (d2 := 10) (mc := 0) (ms := 0) (As := [.int (xs (Int32.toNatClampNeg (nI (7 * cnt) + 1)))]) (rest := []) C hw (ct_X11_takes hq) kvL_45 hq.1 (by decide) rfl ⟨by decide, by decide⟩ ⟨by show cells + 0 ≤ 601024; omega, by show slots + 0 ≤ 7293034; omega⟩ rfl hl.1 rfl (Nat.le_of_ble_eq_true rfl) dL_law_278 (fun r M1 H locs hp hle hw => ?_)
  obtain ⟨v1, rfl, hq⟩ := hp
  refine W.eq (g2 := F0 m 281 ls [.int v1]) rfl ?_
  refine lv_aload_n hx hb dL_law_281 rfl (lv_at hl 2 rfl) ?_
  refine lv_aload_n hx hb dL_law_282 rfl (lv_at hl 0 rfl) ?_
  refine lv_iload hx hb dL_law_283 (lv_at hl 4 rfl) ?_
  refine lv_iconst (v := 1) hx hb dL_law_285 (by decide) ?_
  refine lv_iadd hx hb dL_law_286 ?_
  refine va_sld hx hb hX hbl hbA hw.2.2.2 (vin 1 (by decide)) dL_law_287 ?_
  refine r_callV (T := TX12) (N := 67) (ci := 12) (index := 48) (n := 1) (d2 := 514) (mc := 0) (ms := 0) (As := [.int (xs (Int32.toNatClampNeg (nI (7 * cnt) + 1)))]) (rest := [.int v1]) C hw (ct_X12_takes hq) kvL_48 hq.1 (by decide) rfl ⟨by decide, by decide⟩ ⟨by show (cells + 0) + 0 ≤ 601024; omega, by show (slots + 0) + 0 ≤ 7293034; omega⟩ rfl hl.1 rfl (Nat.le_of_ble_eq_true rfl) dL_law_288 (fun r M2 H locs hp hle hw => ?_)
  obtain ⟨v2, rfl, hq⟩ := hp
  refine W.eq (g2 := F0 m 291 ls [.int v2, .int v1]) rfl ?_
  refine lv_icmp_eq (tgt := 946) hx hb dL_law_291 (by decide) (fun _ => ?_) (fun hn => absurd hq.1 hn)
  exact nxt _ _ _ _ _ _ hq.2 hw hl (by omega) (by omega)
set_option maxHeartbeats 4000000 in
set_option maxRecDepth 100000 in
theorem lc_4 {p : Program} {l : Launch} {e : Env} {s : State} {m : MethodId} {below : List Frame} {meth : Method} {c : Code} {H : Heap} {locs : List Loc} {cells slots : Nat} {Q : State → Prop} {ls : Array Slot} {M0 M : Mem} {g : Gh} {b L cnt : Nat} {xs : Nat → Int32} (hst : l.stackTraces = false) (C : Cx g p s m #[Value.ref b] c cL_law 7 RL) (hZ : ZX g s s.heap) (hNc : va_Nc "java/lang/IllegalStateException" "java/lang/IllegalArgumentException" s) (hX : va_X b L xs s s.heap) (hbl : b < s.heap.size) (hbA : ¬ gA g b) (hi : 7 * cnt + 7 ≤ L) (hL : L ≤ 3584) (hI : Inv g M cnt) (hcc : cnt ≤ 512) (hw : Wd g s M0 M H locs) (hl : lv_has ls 7 [(0, .ref b), (1, .ref (gB g)), (2, .ref (gB g + 195)), (3, .ref (gB g + 233)), (4, .int (nI (7 * cnt)))]) (hce : cells + 5 ≤ 601024) (hsl : slots + 609 ≤ 7293034) (nxt : ∀ (M' : Mem) (H' : Heap) (locs' : List Loc) (ls' : Array Slot) (k n : Nat), Inv g M' (cnt + 1) → Wd g s M0 M' H' locs' → lv_has ls' 7 [(0, .ref b), (1, .ref (gB g)), (2, .ref (gB g + 195)), (3, .ref (gB g + 233)), (4, .int (nI (7 * cnt)))] → k ≤ cells + 5 → n ≤ slots + 609 → W p l e room_1 s m #[Value.ref b] below meth c H' locs' k n Q (F0 m 946 ls' [])) : W p l e room_1 s m #[Value.ref b] below meth c H locs cells slots Q (F0 m 296 ls []) := by
  have hx := C.1.1
  have hb := C.1.2.1
  have vin : ∀ j : Nat, j < 7 → vp_in (nI (7 * cnt) + nI j) L := fun j hj => by rw [nI_add]; exact vp_in_nI (by omega) (by omega)
  refine lv_aload_n hx hb dL_law_296 rfl (lv_at hl 1 rfl) ?_
  refine lv_aload_n hx hb dL_law_297 rfl (lv_at hl 0 rfl) ?_
  refine lv_iload hx hb dL_law_298 (lv_at hl 4 rfl) ?_
  refine lv_iconst (v := 1) hx hb dL_law_300 (by decide) ?_
  refine lv_iadd hx hb dL_law_301 ?_
  refine va_sld hx hb hX hbl hbA hw.2.2.2 (vin 1 (by decide)) dL_law_302 ?_
  refine lv_aload_n hx hb dL_law_303 rfl (lv_at hl 0 rfl) ?_
  refine lv_iload hx hb dL_law_304 (lv_at hl 4 rfl) ?_
  refine lv_iconst (v := 2) hx hb dL_law_306 (by decide) ?_
  refine lv_iadd hx hb dL_law_307 ?_
  refine va_sld hx hb hX hbl hbA hw.2.2.2 (vin 2 (by decide)) dL_law_308 ?_
  have j : W p l e room_1 s m #[Value.ref b] below meth c H locs cells slots Q (F0 m 317 ls [.int (bI (!decide ((xs (Int32.toNatClampNeg (nI (7 * cnt) + 2))) = 0))), .int (xs (Int32.toNatClampNeg (nI (7 * cnt) + 1))), .ref (gB g)]) := by
    have hq := m_strike hI (xs (Int32.toNatClampNeg (nI (7 * cnt) + 1))) (!decide ((xs (Int32.toNatClampNeg (nI (7 * cnt) + 2))) = 0)) (Z := fun v w M2 => v = w ∧ Inv g M2 (cnt + 1)) (fun v M' h => ⟨rfl, h⟩)
    refine r_callV (T := TX11) (N := 11) (ci := 11) (index := 49) (n := 2) (d2 := 1) (mc := 0) (ms := 0) (As := [.int (xs (Int32.toNatClampNeg (nI (7 * cnt) + 1))), .int (bI (!decide ((xs (Int32.toNatClampNeg (nI (7 * cnt) + 2))) = 0)))]) (rest := []) C hw (ct_X11_strike hq) kvL_49 hq.1 (by decide) rfl ⟨by decide, by decide⟩ ⟨by show cells + 0 ≤ 601024; omega, by show slots + 0 ≤ 7293034; omega⟩ rfl hl.1 rfl (Nat.le_of_ble_eq_true rfl) dL_law_317 (fun r M1 H locs hp hle hw => ?_)
    obtain ⟨v1, rfl, hq⟩ := hp
    refine W.eq (g2 := F0 m 320 ls [.int v1]) rfl ?_
    refine lv_aload_n hx hb dL_law_320 rfl (lv_at hl 2 rfl) ?_
    refine lv_aload_n hx hb dL_law_321 rfl (lv_at hl 0 rfl) ?_
    refine lv_iload hx hb dL_law_322 (lv_at hl 4 rfl) ?_
    refine lv_iconst (v := 1) hx hb dL_law_324 (by decide) ?_
    refine lv_iadd hx hb dL_law_325 ?_
    refine va_sld hx hb hX hbl hbA hw.2.2.2 (vin 1 (by decide)) dL_law_326 ?_
    refine lv_aload_n hx hb dL_law_327 rfl (lv_at hl 0 rfl) ?_
    refine lv_iload hx hb dL_law_328 (lv_at hl 4 rfl) ?_
    refine lv_iconst (v := 2) hx hb dL_law_330 (by decide) ?_
    refine lv_iadd hx hb dL_law_331 ?_
    refine va_sld hx hb hX hbl hbA hw.2.2.2 (vin 2 (by decide)) dL_law_332 ?_
    have j : W p l e room_1 s m #[Value.ref b] below meth c H locs (cells + 0) (slots + 0) Q (F0 m 341 ls [.int (bI (!decide ((xs (Int32.toNatClampNeg (nI (7 * cnt) + 2))) = 0))), .int (xs (Int32.toNatClampNeg (nI (7 * cnt) + 1))), .ref (gB g + 195), .int v1]) := by
      refine r_callV (T := TX12) (N := 67) (ci := 12) (index := 53) (n := 2) (d2 := 1) (mc := 0) (ms := 0) (As := [.int (xs (Int32.toNatClampNeg (nI (7 * cnt) + 1))), .int (bI (!decide ((xs (Int32.toNatClampNeg (nI (7 * cnt) + 2))) = 0)))]) (rest := [.int v1]) C hw (ct_X12_strike hq) kvL_53 hq.1 (by decide) rfl ⟨by decide, by decide⟩ ⟨by show (cells + 0) + 0 ≤ 601024; omega, by show (slots + 0) + 0 ≤ 7293034; omega⟩ rfl hl.1 rfl (Nat.le_of_ble_eq_true rfl) dL_law_341 (fun r M2 H locs hp hle hw => ?_)
      obtain ⟨v2, rfl, hq⟩ := hp
      refine W.eq (g2 := F0 m 344 ls [.int v2, .int v1]) rfl ?_
      refine lv_icmp_eq (tgt := 946) hx hb dL_law_344 (by decide) (fun _ => ?_) (fun hn => absurd hq.1 hn)
      exact nxt _ _ _ _ _ _ hq.2 hw hl (by omega) (by omega)
    refine lv_if_eq (tgt := 340) hx hb dL_law_333 (by decide) (fun c0 => ?_) (fun c0 => ?_)
    · refine lv_iconst (v := 0) hx hb dL_law_340 (by decide) ?_
      rw [decide_eq_true c0] at j; exact j
    · refine lv_iconst (v := 1) hx hb dL_law_336 (by decide) ?_
      refine lv_goto (tgt := 341) hx hb dL_law_337 (by decide) ?_
      rw [decide_eq_false c0] at j; exact j
  refine lv_if_eq (tgt := 316) hx hb dL_law_309 (by decide) (fun c0 => ?_) (fun c0 => ?_)
  · refine lv_iconst (v := 0) hx hb dL_law_316 (by decide) ?_
    rw [decide_eq_true c0] at j; exact j
  · refine lv_iconst (v := 1) hx hb dL_law_312 (by decide) ?_
    refine lv_goto (tgt := 317) hx hb dL_law_313 (by decide) ?_
    rw [decide_eq_false c0] at j; exact j
set_option maxHeartbeats 4000000 in
set_option maxRecDepth 100000 in
theorem lc_5 {p : Program} {l : Launch} {e : Env} {s : State} {m : MethodId} {below : List Frame} {meth : Method} {c : Code} {H : Heap} {locs : List Loc} {cells slots : Nat} {Q : State → Prop} {ls : Array Slot} {M0 M : Mem} {g : Gh} {b L cnt : Nat} {xs : Nat → Int32} (hst : l.stackTraces = false) (C : Cx g p s m #[Value.ref b] c cL_law 7 RL) (hZ : ZX g s s.heap) (hNc : va_Nc "java/lang/IllegalStateException" "java/lang/IllegalArgumentException" s) (hX : va_X b L xs s s.heap) (hbl : b < s.heap.size) (hbA : ¬ gA g b) (hi : 7 * cnt + 7 ≤ L) (hL : L ≤ 3584) (hI : Inv g M cnt) (hcc : cnt ≤ 512) (hw : Wd g s M0 M H locs) (hl : lv_has ls 7 [(0, .ref b), (1, .ref (gB g)), (2, .ref (gB g + 195)), (3, .ref (gB g + 233)), (4, .int (nI (7 * cnt)))]) (hce : cells + 5 ≤ 601024) (hsl : slots + 609 ≤ 7293034) (nxt : ∀ (M' : Mem) (H' : Heap) (locs' : List Loc) (ls' : Array Slot) (k n : Nat), Inv g M' (cnt + 1) → Wd g s M0 M' H' locs' → lv_has ls' 7 [(0, .ref b), (1, .ref (gB g)), (2, .ref (gB g + 195)), (3, .ref (gB g + 233)), (4, .int (nI (7 * cnt)))] → k ≤ cells + 5 → n ≤ slots + 609 → W p l e room_1 s m #[Value.ref b] below meth c H' locs' k n Q (F0 m 946 ls' [])) : W p l e room_1 s m #[Value.ref b] below meth c H locs cells slots Q (F0 m 349 ls []) := by
  have hx := C.1.1
  have hb := C.1.2.1
  have vin : ∀ j : Nat, j < 7 → vp_in (nI (7 * cnt) + nI j) L := fun j hj => by rw [nI_add]; exact vp_in_nI (by omega) (by omega)
  refine lv_aload_n hx hb dL_law_349 rfl (lv_at hl 1 rfl) ?_
  refine lv_aload_n hx hb dL_law_350 rfl (lv_at hl 0 rfl) ?_
  refine lv_iload hx hb dL_law_351 (lv_at hl 4 rfl) ?_
  refine lv_iconst (v := 1) hx hb dL_law_353 (by decide) ?_
  refine lv_iadd hx hb dL_law_354 ?_
  refine va_sld hx hb hX hbl hbA hw.2.2.2 (vin 1 (by decide)) dL_law_355 ?_
  refine lv_aload_n hx hb dL_law_356 rfl (lv_at hl 0 rfl) ?_
  refine lv_iload hx hb dL_law_357 (lv_at hl 4 rfl) ?_
  refine lv_iconst (v := 2) hx hb dL_law_359 (by decide) ?_
  refine lv_iadd hx hb dL_law_360 ?_
  refine va_sld hx hb hX hbl hbA hw.2.2.2 (vin 2 (by decide)) dL_law_361 ?_
  refine lv_aload_n hx hb dL_law_362 rfl (lv_at hl 3 rfl) ?_
  have hq := lw_asked hI hcc (xs (Int32.toNatClampNeg (nI (7 * cnt) + 1))) (xs (Int32.toNatClampNeg (nI (7 * cnt) + 2))) (PA := (fun k M' => wp_X12_asked g M' (gB g + 195) (xs (Int32.toNatClampNeg (nI (7 * cnt) + 1))) (xs (Int32.toNatClampNeg (nI (7 * cnt) + 2))) (fun bb M2 => Inv g M2 (cnt + 1) ∧ mI M2 (gB g + 195) 0 = k ∧ (k = 0 → mJ M2 (gB g + 233) 0 = bb.toInt64)))) (fun k M' h => h)
  refine r_callSW (index := 54) (n := 4) (d2 := 9) (mc := 1) (ms := 6) (As := [.ref (gB g), .int (xs (Int32.toNatClampNeg (nI (7 * cnt) + 1))), .int (xs (Int32.toNatClampNeg (nI (7 * cnt) + 2))), .ref (gB g + 233)]) (rest := []) C hZ hNc hw (ct_L_asked (post := (fun k M' => wp_X12_asked g M' (gB g + 195) (xs (Int32.toNatClampNeg (nI (7 * cnt) + 1))) (xs (Int32.toNatClampNeg (nI (7 * cnt) + 2))) (fun bb M2 => Inv g M2 (cnt + 1) ∧ mI M2 (gB g + 195) 0 = k ∧ (k = 0 → mJ M2 (gB g + 233) 0 = bb.toInt64)))) hst (lk_233 (inv_lay hI)) (ln_233 (inv_lay hI)) hq) kwL_54 ⟨by decide, by decide⟩ ⟨by show cells + 1 ≤ 601024; omega, by show slots + 6 ≤ 7293034; omega⟩ rfl hl.1 rfl (Nat.le_of_ble_eq_true rfl) dL_law_363 (fun r M1 H locs hp hle hw => ?_)
  obtain ⟨v1, rfl, hq⟩ := hp
  refine W.eq (g2 := F0 m 366 ls [.int v1]) rfl ?_
  refine lv_istore (lv' := [(5, .int v1), (0, .ref b), (1, .ref (gB g)), (2, .ref (gB g + 195)), (3, .ref (gB g + 233)), (4, .int (nI (7 * cnt)))]) hx hb dL_law_366 hl (by decide) rfl (fun ls hl => ?_)
  refine lv_aload_n hx hb dL_law_368 rfl (lv_at hl 3 rfl) ?_
  refine lv_aload_n hx hb dL_law_369 rfl (lv_at hl 1 rfl) ?_
  refine lv_iload hx hb dL_law_370 (lv_at hl 5 rfl) ?_
  refine lv_iconst (v := 1) hx hb dL_law_372 (by decide) ?_
  refine lv_iadd hx hb dL_law_373 ?_
  refine va_sld hx hb hX hbl hbA hw.2.2.2 (vin 1 (by decide)) dL_law_374 ?_
  refine lv_aload_n hx hb dL_law_375 rfl (lv_at hl 1 rfl) ?_
  refine lv_iload hx hb dL_law_376 (lv_at hl 5 rfl) ?_
  refine lv_iconst (v := 2) hx hb dL_law_378 (by decide) ?_
  refine lv_iadd hx hb dL_law_379 ?_
  refine va_sld hx hb hX hbl hbA hw.2.2.2 (vin 2 (by decide)) dL_law_380 ?_
  refine r_callV (T := TX12) (N := 67) (ci := 12) (index := 59) (n := 2) (d2 := 1) (mc := 0) (ms := 0) (As := [.int (xs (Int32.toNatClampNeg (nI (7 * cnt) + 1))), .int (xs (Int32.toNatClampNeg (nI (7 * cnt) + 2)))]) (rest := []) C hw (ct_X12_asked hq) kvL_59 hq.1 (by decide) rfl ⟨by decide, by decide⟩ ⟨by show (cells + 1) + 0 ≤ 601024; omega, by show (slots + 6) + 0 ≤ 7293034; omega⟩ rfl hl.1 rfl (Nat.le_of_ble_eq_true rfl) dL_law_381 (fun r M2 H locs hp hle hw => ?_)
  obtain ⟨v2, rfl, hq⟩ := hp
  refine W.eq (g2 := F0 m 384 ls [.int v2]) rfl ?_
  refine lv_istore (lv' := [(6, .int v2), (5, .int v1), (0, .ref b), (1, .ref (gB g)), (2, .ref (gB g + 195)), (3, .ref (gB g + 233)), (4, .int (nI (7 * cnt)))]) hx hb dL_law_384 hl (by decide) rfl (fun ls hl => ?_)
  refine lv_aload_n hx hb dL_law_386 rfl (lv_at hl 4 rfl) ?_
  have ht : wp_X12_thrown g M2 (gB g + 195) (fun v M3 => v = v1 ∧ M3 = M2) := ⟨lk_195 (inv_lay hq.1), hq.2.1, rfl⟩
  refine r_callV (T := TX12) (N := 67) (ci := 12) (index := 60) (n := 0) (d2 := 0) (mc := 0) (ms := 0) (As := []) (rest := []) C hw (ct_X12_thrown ht) kvL_60 ht.1 (by decide) rfl ⟨by decide, by decide⟩ ⟨by show ((cells + 1) + 0) + 0 ≤ 601024; omega, by show ((slots + 6) + 0) + 0 ≤ 7293034; omega⟩ rfl hl.1 rfl (Nat.le_of_ble_eq_true rfl) dL_law_387 (fun r M3 H locs hp hle hw => ?_)
  obtain ⟨v3, rfl, e3, eM⟩ := hp
  rw [eM] at hw
  refine W.eq (g2 := F0 m 390 ls [.int v1]) (by rw [e3]; rfl) ?_
  refine lv_iload hx hb dL_law_390 (lv_at hl 1 rfl) ?_
  refine lv_icmp_eq (tgt := 397) hx hb dL_law_392 (by decide) (fun _ => ?_) (fun hn => absurd rfl hn)
  refine lv_iload hx hb dL_law_397 (lv_at hl 1 rfl) ?_
  refine lv_if_ne (tgt := 414) hx hb dL_law_399 (by decide) (fun _ => ?_) (fun k0 => ?_)
  · refine lv_goto (tgt := 946) hx hb dL_law_414 (by decide) ?_
    exact nxt _ _ _ _ _ _ hq.1 hw (lv_sub hl [2, 3, 4, 5, 6] rfl) (by omega) (by omega)
  · refine lv_aload_n hx hb dL_law_402 rfl (lv_at hl 5 rfl) ?_
    refine lv_iconst (v := 0) hx hb dL_law_403 (by decide) ?_
    refine q_lald C hw (mle_rf _) (lk_233 (inv_lay hq.1)) (by rw [ln_233 (inv_lay hq.1)]; exact pk_in 0 1 (by decide)) dL_law_404 ?_
    refine lv_iload hx hb dL_law_405 (lv_at hl 0 rfl) ?_
    refine lv_i2l (v := v2.toInt64) hx hb dL_law_407 rfl ?_
    refine W.lcmp hx hb dL_law_408 ?_
    have ez : lg_cmp (mJ M2 (gB g + 233) 0) (v2.toInt64) = 0 := by rw [hq.2.2 k0]; simp [lg_cmp]
    refine lv_if_eq (tgt := 414) hx hb dL_law_409 (by decide) (fun _ => ?_) (fun hn => absurd ez hn)
    refine lv_goto (tgt := 946) hx hb dL_law_414 (by decide) ?_
    exact nxt _ _ _ _ _ _ hq.1 hw (lv_sub hl [2, 3, 4, 5, 6] rfl) (by omega) (by omega)
set_option maxHeartbeats 4000000 in
set_option maxRecDepth 100000 in
theorem lc_6 {p : Program} {l : Launch} {e : Env} {s : State} {m : MethodId} {below : List Frame} {meth : Method} {c : Code} {H : Heap} {locs : List Loc} {cells slots : Nat} {Q : State → Prop} {ls : Array Slot} {M0 M : Mem} {g : Gh} {b L cnt : Nat} {xs : Nat → Int32} (hst : l.stackTraces = false) (C : Cx g p s m #[Value.ref b] c cL_law 7 RL) (hZ : ZX g s s.heap) (hNc : va_Nc "java/lang/IllegalStateException" "java/lang/IllegalArgumentException" s) (hX : va_X b L xs s s.heap) (hbl : b < s.heap.size) (hbA : ¬ gA g b) (hi : 7 * cnt + 7 ≤ L) (hL : L ≤ 3584) (hI : Inv g M cnt) (hcc : cnt ≤ 512) (hw : Wd g s M0 M H locs) (hl : lv_has ls 7 [(0, .ref b), (1, .ref (gB g)), (2, .ref (gB g + 195)), (3, .ref (gB g + 233)), (4, .int (nI (7 * cnt)))]) (hce : cells + 5 ≤ 601024) (hsl : slots + 609 ≤ 7293034) (nxt : ∀ (M' : Mem) (H' : Heap) (locs' : List Loc) (ls' : Array Slot) (k n : Nat), Inv g M' (cnt + 1) → Wd g s M0 M' H' locs' → lv_has ls' 7 [(0, .ref b), (1, .ref (gB g)), (2, .ref (gB g + 195)), (3, .ref (gB g + 233)), (4, .int (nI (7 * cnt)))] → k ≤ cells + 5 → n ≤ slots + 609 → W p l e room_1 s m #[Value.ref b] below meth c H' locs' k n Q (F0 m 946 ls' [])) : W p l e room_1 s m #[Value.ref b] below meth c H locs cells slots Q (F0 m 417 ls []) := by
  have hx := C.1.1
  have hb := C.1.2.1
  have vin : ∀ j : Nat, j < 7 → vp_in (nI (7 * cnt) + nI j) L := fun j hj => by rw [nI_add]; exact vp_in_nI (by omega) (by omega)
  refine lv_aload_n hx hb dL_law_417 rfl (lv_at hl 1 rfl) ?_
  refine lv_aload_n hx hb dL_law_418 rfl (lv_at hl 0 rfl) ?_
  refine lv_iload hx hb dL_law_419 (lv_at hl 4 rfl) ?_
  refine lv_iconst (v := 1) hx hb dL_law_421 (by decide) ?_
  refine lv_iadd hx hb dL_law_422 ?_
  refine va_sld hx hb hX hbl hbA hw.2.2.2 (vin 1 (by decide)) dL_law_423 ?_
  refine lv_aload_n hx hb dL_law_424 rfl (lv_at hl 0 rfl) ?_
  refine lv_iload hx hb dL_law_425 (lv_at hl 4 rfl) ?_
  refine lv_iconst (v := 2) hx hb dL_law_427 (by decide) ?_
  refine lv_iadd hx hb dL_law_428 ?_
  refine va_sld hx hb hX hbl hbA hw.2.2.2 (vin 2 (by decide)) dL_law_429 ?_
  have hq := m_seen hI (xs (Int32.toNatClampNeg (nI (7 * cnt) + 1))) (xs (Int32.toNatClampNeg (nI (7 * cnt) + 2))) (Z := fun v w M2 => v = w ∧ Inv g M2 (cnt + 1)) (fun v M' h => ⟨rfl, h⟩)
  refine r_callV (T := TX11) (N := 11) (ci := 11) (index := 64) (n := 2) (d2 := 1) (mc := 0) (ms := 0) (As := [.int (xs (Int32.toNatClampNeg (nI (7 * cnt) + 1))), .int (xs (Int32.toNatClampNeg (nI (7 * cnt) + 2)))]) (rest := []) C hw (ct_X11_seen hq) kvL_64 hq.1 (by decide) rfl ⟨by decide, by decide⟩ ⟨by show cells + 0 ≤ 601024; omega, by show slots + 0 ≤ 7293034; omega⟩ rfl hl.1 rfl (Nat.le_of_ble_eq_true rfl) dL_law_430 (fun r M1 H locs hp hle hw => ?_)
  obtain ⟨v1, rfl, hq⟩ := hp
  refine W.eq (g2 := F0 m 433 ls [.int v1]) rfl ?_
  refine lv_aload_n hx hb dL_law_433 rfl (lv_at hl 2 rfl) ?_
  refine lv_aload_n hx hb dL_law_434 rfl (lv_at hl 0 rfl) ?_
  refine lv_iload hx hb dL_law_435 (lv_at hl 4 rfl) ?_
  refine lv_iconst (v := 1) hx hb dL_law_437 (by decide) ?_
  refine lv_iadd hx hb dL_law_438 ?_
  refine va_sld hx hb hX hbl hbA hw.2.2.2 (vin 1 (by decide)) dL_law_439 ?_
  refine lv_aload_n hx hb dL_law_440 rfl (lv_at hl 0 rfl) ?_
  refine lv_iload hx hb dL_law_441 (lv_at hl 4 rfl) ?_
  refine lv_iconst (v := 2) hx hb dL_law_443 (by decide) ?_
  refine lv_iadd hx hb dL_law_444 ?_
  refine va_sld hx hb hX hbl hbA hw.2.2.2 (vin 2 (by decide)) dL_law_445 ?_
  refine r_callV (T := TX12) (N := 67) (ci := 12) (index := 68) (n := 2) (d2 := 1) (mc := 0) (ms := 0) (As := [.int (xs (Int32.toNatClampNeg (nI (7 * cnt) + 1))), .int (xs (Int32.toNatClampNeg (nI (7 * cnt) + 2)))]) (rest := [.int v1]) C hw (ct_X12_seen hq) kvL_68 hq.1 (by decide) rfl ⟨by decide, by decide⟩ ⟨by show (cells + 0) + 0 ≤ 601024; omega, by show (slots + 0) + 0 ≤ 7293034; omega⟩ rfl hl.1 rfl (Nat.le_of_ble_eq_true rfl) dL_law_446 (fun r M2 H locs hp hle hw => ?_)
  obtain ⟨v2, rfl, hq⟩ := hp
  refine W.eq (g2 := F0 m 449 ls [.int v2, .int v1]) rfl ?_
  refine lv_icmp_eq (tgt := 946) hx hb dL_law_449 (by decide) (fun _ => ?_) (fun hn => absurd hq.1 hn)
  exact nxt _ _ _ _ _ _ hq.2 hw hl (by omega) (by omega)
set_option maxHeartbeats 4000000 in
set_option maxRecDepth 100000 in
theorem lc_7 {p : Program} {l : Launch} {e : Env} {s : State} {m : MethodId} {below : List Frame} {meth : Method} {c : Code} {H : Heap} {locs : List Loc} {cells slots : Nat} {Q : State → Prop} {ls : Array Slot} {M0 M : Mem} {g : Gh} {b L cnt : Nat} {xs : Nat → Int32} (hst : l.stackTraces = false) (C : Cx g p s m #[Value.ref b] c cL_law 7 RL) (hZ : ZX g s s.heap) (hNc : va_Nc "java/lang/IllegalStateException" "java/lang/IllegalArgumentException" s) (hX : va_X b L xs s s.heap) (hbl : b < s.heap.size) (hbA : ¬ gA g b) (hi : 7 * cnt + 7 ≤ L) (hL : L ≤ 3584) (hI : Inv g M cnt) (hcc : cnt ≤ 512) (hw : Wd g s M0 M H locs) (hl : lv_has ls 7 [(0, .ref b), (1, .ref (gB g)), (2, .ref (gB g + 195)), (3, .ref (gB g + 233)), (4, .int (nI (7 * cnt)))]) (hce : cells + 5 ≤ 601024) (hsl : slots + 609 ≤ 7293034) (nxt : ∀ (M' : Mem) (H' : Heap) (locs' : List Loc) (ls' : Array Slot) (k n : Nat), Inv g M' (cnt + 1) → Wd g s M0 M' H' locs' → lv_has ls' 7 [(0, .ref b), (1, .ref (gB g)), (2, .ref (gB g + 195)), (3, .ref (gB g + 233)), (4, .int (nI (7 * cnt)))] → k ≤ cells + 5 → n ≤ slots + 609 → W p l e room_1 s m #[Value.ref b] below meth c H' locs' k n Q (F0 m 946 ls' [])) : W p l e room_1 s m #[Value.ref b] below meth c H locs cells slots Q (F0 m 454 ls []) := by
  have hx := C.1.1
  have hb := C.1.2.1
  have vin : ∀ j : Nat, j < 7 → vp_in (nI (7 * cnt) + nI j) L := fun j hj => by rw [nI_add]; exact vp_in_nI (by omega) (by omega)
  refine lv_aload_n hx hb dL_law_454 rfl (lv_at hl 1 rfl) ?_
  have hq := m_law hI  (Z := fun v w M2 => v = w ∧ Inv g M2 (cnt + 1)) (fun v M' h => ⟨rfl, h⟩)
  refine r_callV (T := TX11) (N := 11) (ci := 11) (index := 69) (n := 0) (d2 := 12) (mc := 0) (ms := 0) (As := []) (rest := []) C hw (ct_X11_law hq) kvL_69 hq.1 (by decide) rfl ⟨by decide, by decide⟩ ⟨by show cells + 0 ≤ 601024; omega, by show slots + 0 ≤ 7293034; omega⟩ rfl hl.1 rfl (Nat.le_of_ble_eq_true rfl) dL_law_455 (fun r M1 H locs hp hle hw => ?_)
  obtain ⟨v1, rfl, hq⟩ := hp
  refine W.eq (g2 := F0 m 458 ls [.int v1]) rfl ?_
  refine lv_aload_n hx hb dL_law_458 rfl (lv_at hl 2 rfl) ?_
  refine r_callV (T := TX12) (N := 67) (ci := 12) (index := 72) (n := 0) (d2 := 5) (mc := 0) (ms := 0) (As := []) (rest := [.int v1]) C hw (ct_X12_law hq) kvL_72 hq.1 (by decide) rfl ⟨by decide, by decide⟩ ⟨by show (cells + 0) + 0 ≤ 601024; omega, by show (slots + 0) + 0 ≤ 7293034; omega⟩ rfl hl.1 rfl (Nat.le_of_ble_eq_true rfl) dL_law_459 (fun r M2 H locs hp hle hw => ?_)
  obtain ⟨v2, rfl, hq⟩ := hp
  refine W.eq (g2 := F0 m 462 ls [.int v2, .int v1]) rfl ?_
  refine lv_icmp_eq (tgt := 946) hx hb dL_law_462 (by decide) (fun _ => ?_) (fun hn => absurd hq.1 hn)
  exact nxt _ _ _ _ _ _ hq.2 hw hl (by omega) (by omega)
set_option maxHeartbeats 4000000 in
set_option maxRecDepth 100000 in
theorem lc_8 {p : Program} {l : Launch} {e : Env} {s : State} {m : MethodId} {below : List Frame} {meth : Method} {c : Code} {H : Heap} {locs : List Loc} {cells slots : Nat} {Q : State → Prop} {ls : Array Slot} {M0 M : Mem} {g : Gh} {b L cnt : Nat} {xs : Nat → Int32} (hst : l.stackTraces = false) (C : Cx g p s m #[Value.ref b] c cL_law 7 RL) (hZ : ZX g s s.heap) (hNc : va_Nc "java/lang/IllegalStateException" "java/lang/IllegalArgumentException" s) (hX : va_X b L xs s s.heap) (hbl : b < s.heap.size) (hbA : ¬ gA g b) (hi : 7 * cnt + 7 ≤ L) (hL : L ≤ 3584) (hI : Inv g M cnt) (hcc : cnt ≤ 512) (hw : Wd g s M0 M H locs) (hl : lv_has ls 7 [(0, .ref b), (1, .ref (gB g)), (2, .ref (gB g + 195)), (3, .ref (gB g + 233)), (4, .int (nI (7 * cnt)))]) (hce : cells + 5 ≤ 601024) (hsl : slots + 609 ≤ 7293034) (nxt : ∀ (M' : Mem) (H' : Heap) (locs' : List Loc) (ls' : Array Slot) (k n : Nat), Inv g M' (cnt + 1) → Wd g s M0 M' H' locs' → lv_has ls' 7 [(0, .ref b), (1, .ref (gB g)), (2, .ref (gB g + 195)), (3, .ref (gB g + 233)), (4, .int (nI (7 * cnt)))] → k ≤ cells + 5 → n ≤ slots + 609 → W p l e room_1 s m #[Value.ref b] below meth c H' locs' k n Q (F0 m 946 ls' [])) : W p l e room_1 s m #[Value.ref b] below meth c H locs cells slots Q (F0 m 467 ls []) := by
  have hx := C.1.1
  have hb := C.1.2.1
  have vin : ∀ j : Nat, j < 7 → vp_in (nI (7 * cnt) + nI j) L := fun j hj => by rw [nI_add]; exact vp_in_nI (by omega) (by omega)
  refine lv_aload_n hx hb dL_law_467 rfl (lv_at hl 1 rfl) ?_
  have hq := m_fault hI  (Z := fun v w M2 => v = w ∧ Inv g M2 (cnt + 1)) (fun v M' h => ⟨rfl, h⟩)
  refine r_callV (T := TX11) (N := 11) (ci := 11) (index := 73) (n := 0) (d2 := 0) (mc := 0) (ms := 0) (As := []) (rest := []) C hw (ct_X11_fault hq) kvL_73 hq.1 (by decide) rfl ⟨by decide, by decide⟩ ⟨by show cells + 0 ≤ 601024; omega, by show slots + 0 ≤ 7293034; omega⟩ rfl hl.1 rfl (Nat.le_of_ble_eq_true rfl) dL_law_468 (fun r M1 H locs hp hle hw => ?_)
  obtain ⟨v1, rfl, hq⟩ := hp
  refine W.eq (g2 := F0 m 471 ls [.int v1]) rfl ?_
  refine lv_aload_n hx hb dL_law_471 rfl (lv_at hl 2 rfl) ?_
  refine r_callV (T := TX12) (N := 67) (ci := 12) (index := 76) (n := 0) (d2 := 0) (mc := 0) (ms := 0) (As := []) (rest := [.int v1]) C hw (ct_X12_fault hq) kvL_76 hq.1 (by decide) rfl ⟨by decide, by decide⟩ ⟨by show (cells + 0) + 0 ≤ 601024; omega, by show (slots + 0) + 0 ≤ 7293034; omega⟩ rfl hl.1 rfl (Nat.le_of_ble_eq_true rfl) dL_law_472 (fun r M2 H locs hp hle hw => ?_)
  obtain ⟨v2, rfl, hq⟩ := hp
  refine W.eq (g2 := F0 m 475 ls [.int v2, .int v1]) rfl ?_
  refine lv_icmp_eq (tgt := 946) hx hb dL_law_475 (by decide) (fun _ => ?_) (fun hn => absurd hq.1 hn)
  exact nxt _ _ _ _ _ _ hq.2 hw hl (by omega) (by omega)
set_option maxHeartbeats 4000000 in
set_option maxRecDepth 100000 in
theorem lc_9 {p : Program} {l : Launch} {e : Env} {s : State} {m : MethodId} {below : List Frame} {meth : Method} {c : Code} {H : Heap} {locs : List Loc} {cells slots : Nat} {Q : State → Prop} {ls : Array Slot} {M0 M : Mem} {g : Gh} {b L cnt : Nat} {xs : Nat → Int32} (hst : l.stackTraces = false) (C : Cx g p s m #[Value.ref b] c cL_law 7 RL) (hZ : ZX g s s.heap) (hNc : va_Nc "java/lang/IllegalStateException" "java/lang/IllegalArgumentException" s) (hX : va_X b L xs s s.heap) (hbl : b < s.heap.size) (hbA : ¬ gA g b) (hi : 7 * cnt + 7 ≤ L) (hL : L ≤ 3584) (hI : Inv g M cnt) (hcc : cnt ≤ 512) (hw : Wd g s M0 M H locs) (hl : lv_has ls 7 [(0, .ref b), (1, .ref (gB g)), (2, .ref (gB g + 195)), (3, .ref (gB g + 233)), (4, .int (nI (7 * cnt)))]) (hce : cells + 5 ≤ 601024) (hsl : slots + 609 ≤ 7293034) (nxt : ∀ (M' : Mem) (H' : Heap) (locs' : List Loc) (ls' : Array Slot) (k n : Nat), Inv g M' (cnt + 1) → Wd g s M0 M' H' locs' → lv_has ls' 7 [(0, .ref b), (1, .ref (gB g)), (2, .ref (gB g + 195)), (3, .ref (gB g + 233)), (4, .int (nI (7 * cnt)))] → k ≤ cells + 5 → n ≤ slots + 609 → W p l e room_1 s m #[Value.ref b] below meth c H' locs' k n Q (F0 m 946 ls' [])) : W p l e room_1 s m #[Value.ref b] below meth c H locs cells slots Q (F0 m 480 ls []) := by
  have hx := C.1.1
  have hb := C.1.2.1
  have vin : ∀ j : Nat, j < 7 → vp_in (nI (7 * cnt) + nI j) L := fun j hj => by rw [nI_add]; exact vp_in_nI (by omega) (by omega)
  refine lv_aload_n hx hb dL_law_480 rfl (lv_at hl 1 rfl) ?_
  refine lv_aload_n hx hb dL_law_481 rfl (lv_at hl 0 rfl) ?_
  refine lv_iload hx hb dL_law_482 (lv_at hl 4 rfl) ?_
  refine lv_iconst (v := 1) hx hb dL_law_484 (by decide) ?_
  refine lv_iadd hx hb dL_law_485 ?_
  refine va_sld hx hb hX hbl hbA hw.2.2.2 (vin 1 (by decide)) dL_law_486 ?_
  refine lv_aload_n hx hb dL_law_487 rfl (lv_at hl 0 rfl) ?_
  refine lv_iload hx hb dL_law_488 (lv_at hl 4 rfl) ?_
  refine lv_iconst (v := 2) hx hb dL_law_490 (by decide) ?_
  refine lv_iadd hx hb dL_law_491 ?_
  refine va_sld hx hb hX hbl hbA hw.2.2.2 (vin 2 (by decide)) dL_law_492 ?_
  refine lv_aload_n hx hb dL_law_493 rfl (lv_at hl 0 rfl) ?_
  refine lv_iload hx hb dL_law_494 (lv_at hl 4 rfl) ?_
  refine lv_iconst (v := 3) hx hb dL_law_496 (by decide) ?_
  refine lv_iadd hx hb dL_law_497 ?_
  refine va_sld hx hb hX hbl hbA hw.2.2.2 (vin 3 (by decide)) dL_law_498 ?_
  refine lv_aload_n hx hb dL_law_499 rfl (lv_at hl 0 rfl) ?_
  refine lv_iload hx hb dL_law_500 (lv_at hl 4 rfl) ?_
  refine lv_iconst (v := 4) hx hb dL_law_502 (by decide) ?_
  refine lv_iadd hx hb dL_law_503 ?_
  refine va_sld hx hb hX hbl hbA hw.2.2.2 (vin 4 (by decide)) dL_law_504 ?_
  refine lv_aload_n hx hb dL_law_505 rfl (lv_at hl 0 rfl) ?_
  refine lv_iload hx hb dL_law_506 (lv_at hl 4 rfl) ?_
  refine lv_iconst (v := 5) hx hb dL_law_508 (by decide) ?_
  refine lv_iadd hx hb dL_law_509 ?_
  refine va_sld hx hb hX hbl hbA hw.2.2.2 (vin 5 (by decide)) dL_law_510 ?_
  refine lv_aload_n hx hb dL_law_511 rfl (lv_at hl 0 rfl) ?_
  refine lv_iload hx hb dL_law_512 (lv_at hl 4 rfl) ?_
  refine lv_bipush (v := 6) hx hb dL_law_514 (by decide) ?_
  refine lv_iadd hx hb dL_law_516 ?_
  refine va_sld hx hb hX hbl hbA hw.2.2.2 (vin 6 (by decide)) dL_law_517 ?_
  refine lv_aload_n hx hb dL_law_518 rfl (lv_at hl 3 rfl) ?_
  have hq := lw_pack hI hcc (xs (Int32.toNatClampNeg (nI (7 * cnt) + 1))) (xs (Int32.toNatClampNeg (nI (7 * cnt) + 2))) (xs (Int32.toNatClampNeg (nI (7 * cnt) + 3))) (xs (Int32.toNatClampNeg (nI (7 * cnt) + 4))) (xs (Int32.toNatClampNeg (nI (7 * cnt) + 5))) (xs (Int32.toNatClampNeg (nI (7 * cnt) + 6))) (PA := (fun k M' => wp_X12_pack g M' (gB g + 195) (xs (Int32.toNatClampNeg (nI (7 * cnt) + 1))) (xs (Int32.toNatClampNeg (nI (7 * cnt) + 2))) (xs (Int32.toNatClampNeg (nI (7 * cnt) + 3))) (xs (Int32.toNatClampNeg (nI (7 * cnt) + 4))) (xs (Int32.toNatClampNeg (nI (7 * cnt) + 5))) (xs (Int32.toNatClampNeg (nI (7 * cnt) + 6))) (fun bb M2 => Inv g M2 (cnt + 1) ∧ mI M2 (gB g + 195) 0 = k ∧ (k = 0 → mJ M2 (gB g + 233) 0 = bb.toInt64)))) (fun k M' h => h)
  refine r_callSW (index := 77) (n := 8) (d2 := 9) (mc := 1) (ms := 6) (As := [.ref (gB g), .int (xs (Int32.toNatClampNeg (nI (7 * cnt) + 1))), .int (xs (Int32.toNatClampNeg (nI (7 * cnt) + 2))), .int (xs (Int32.toNatClampNeg (nI (7 * cnt) + 3))), .int (xs (Int32.toNatClampNeg (nI (7 * cnt) + 4))), .int (xs (Int32.toNatClampNeg (nI (7 * cnt) + 5))), .int (xs (Int32.toNatClampNeg (nI (7 * cnt) + 6))), .ref (gB g + 233)]) (rest := []) C hZ hNc hw (ct_L_pack (post := (fun k M' => wp_X12_pack g M' (gB g + 195) (xs (Int32.toNatClampNeg (nI (7 * cnt) + 1))) (xs (Int32.toNatClampNeg (nI (7 * cnt) + 2))) (xs (Int32.toNatClampNeg (nI (7 * cnt) + 3))) (xs (Int32.toNatClampNeg (nI (7 * cnt) + 4))) (xs (Int32.toNatClampNeg (nI (7 * cnt) + 5))) (xs (Int32.toNatClampNeg (nI (7 * cnt) + 6))) (fun bb M2 => Inv g M2 (cnt + 1) ∧ mI M2 (gB g + 195) 0 = k ∧ (k = 0 → mJ M2 (gB g + 233) 0 = bb.toInt64)))) hst (lk_233 (inv_lay hI)) (ln_233 (inv_lay hI)) hq) kwL_77 ⟨by decide, by decide⟩ ⟨by show cells + 1 ≤ 601024; omega, by show slots + 6 ≤ 7293034; omega⟩ rfl hl.1 rfl (Nat.le_of_ble_eq_true rfl) dL_law_519 (fun r M1 H locs hp hle hw => ?_)
  obtain ⟨v1, rfl, hq⟩ := hp
  refine W.eq (g2 := F0 m 522 ls [.int v1]) rfl ?_
  refine lv_istore (lv' := [(5, .int v1), (0, .ref b), (1, .ref (gB g)), (2, .ref (gB g + 195)), (3, .ref (gB g + 233)), (4, .int (nI (7 * cnt)))]) hx hb dL_law_522 hl (by decide) rfl (fun ls hl => ?_)
  refine lv_aload_n hx hb dL_law_524 rfl (lv_at hl 3 rfl) ?_
  refine lv_aload_n hx hb dL_law_525 rfl (lv_at hl 1 rfl) ?_
  refine lv_iload hx hb dL_law_526 (lv_at hl 5 rfl) ?_
  refine lv_iconst (v := 1) hx hb dL_law_528 (by decide) ?_
  refine lv_iadd hx hb dL_law_529 ?_
  refine va_sld hx hb hX hbl hbA hw.2.2.2 (vin 1 (by decide)) dL_law_530 ?_
  refine lv_aload_n hx hb dL_law_531 rfl (lv_at hl 1 rfl) ?_
  refine lv_iload hx hb dL_law_532 (lv_at hl 5 rfl) ?_
  refine lv_iconst (v := 2) hx hb dL_law_534 (by decide) ?_
  refine lv_iadd hx hb dL_law_535 ?_
  refine va_sld hx hb hX hbl hbA hw.2.2.2 (vin 2 (by decide)) dL_law_536 ?_
  refine lv_aload_n hx hb dL_law_537 rfl (lv_at hl 1 rfl) ?_
  refine lv_iload hx hb dL_law_538 (lv_at hl 5 rfl) ?_
  refine lv_iconst (v := 3) hx hb dL_law_540 (by decide) ?_
  refine lv_iadd hx hb dL_law_541 ?_
  refine va_sld hx hb hX hbl hbA hw.2.2.2 (vin 3 (by decide)) dL_law_542 ?_
  refine lv_aload_n hx hb dL_law_543 rfl (lv_at hl 1 rfl) ?_
  refine lv_iload hx hb dL_law_544 (lv_at hl 5 rfl) ?_
  refine lv_iconst (v := 4) hx hb dL_law_546 (by decide) ?_
  refine lv_iadd hx hb dL_law_547 ?_
  refine va_sld hx hb hX hbl hbA hw.2.2.2 (vin 4 (by decide)) dL_law_548 ?_
  refine lv_aload_n hx hb dL_law_549 rfl (lv_at hl 1 rfl) ?_
  refine lv_iload hx hb dL_law_550 (lv_at hl 5 rfl) ?_
  refine lv_iconst (v := 5) hx hb dL_law_552 (by decide) ?_
  refine lv_iadd hx hb dL_law_553 ?_
  refine va_sld hx hb hX hbl hbA hw.2.2.2 (vin 5 (by decide)) dL_law_554 ?_
  refine lv_aload_n hx hb dL_law_555 rfl (lv_at hl 1 rfl) ?_
  refine lv_iload hx hb dL_law_556 (lv_at hl 5 rfl) ?_
  refine lv_bipush (v := 6) hx hb dL_law_558 (by decide) ?_
  refine lv_iadd hx hb dL_law_560 ?_
  refine va_sld hx hb hX hbl hbA hw.2.2.2 (vin 6 (by decide)) dL_law_561 ?_
  refine r_callV (T := TX12) (N := 67) (ci := 12) (index := 80) (n := 6) (d2 := 1) (mc := 0) (ms := 0) (As := [.int (xs (Int32.toNatClampNeg (nI (7 * cnt) + 1))), .int (xs (Int32.toNatClampNeg (nI (7 * cnt) + 2))), .int (xs (Int32.toNatClampNeg (nI (7 * cnt) + 3))), .int (xs (Int32.toNatClampNeg (nI (7 * cnt) + 4))), .int (xs (Int32.toNatClampNeg (nI (7 * cnt) + 5))), .int (xs (Int32.toNatClampNeg (nI (7 * cnt) + 6)))]) (rest := []) C hw (ct_X12_pack hq) kvL_80 hq.1 (by decide) rfl ⟨by decide, by decide⟩ ⟨by show (cells + 1) + 0 ≤ 601024; omega, by show (slots + 6) + 0 ≤ 7293034; omega⟩ rfl hl.1 rfl (Nat.le_of_ble_eq_true rfl) dL_law_562 (fun r M2 H locs hp hle hw => ?_)
  obtain ⟨v2, rfl, hq⟩ := hp
  refine W.eq (g2 := F0 m 565 ls [.int v2]) rfl ?_
  refine lv_istore (lv' := [(6, .int v2), (5, .int v1), (0, .ref b), (1, .ref (gB g)), (2, .ref (gB g + 195)), (3, .ref (gB g + 233)), (4, .int (nI (7 * cnt)))]) hx hb dL_law_565 hl (by decide) rfl (fun ls hl => ?_)
  refine lv_aload_n hx hb dL_law_567 rfl (lv_at hl 4 rfl) ?_
  have ht : wp_X12_thrown g M2 (gB g + 195) (fun v M3 => v = v1 ∧ M3 = M2) := ⟨lk_195 (inv_lay hq.1), hq.2.1, rfl⟩
  refine r_callV (T := TX12) (N := 67) (ci := 12) (index := 60) (n := 0) (d2 := 0) (mc := 0) (ms := 0) (As := []) (rest := []) C hw (ct_X12_thrown ht) kvL_60 ht.1 (by decide) rfl ⟨by decide, by decide⟩ ⟨by show ((cells + 1) + 0) + 0 ≤ 601024; omega, by show ((slots + 6) + 0) + 0 ≤ 7293034; omega⟩ rfl hl.1 rfl (Nat.le_of_ble_eq_true rfl) dL_law_568 (fun r M3 H locs hp hle hw => ?_)
  obtain ⟨v3, rfl, e3, eM⟩ := hp
  rw [eM] at hw
  refine W.eq (g2 := F0 m 571 ls [.int v1]) (by rw [e3]; rfl) ?_
  refine lv_iload hx hb dL_law_571 (lv_at hl 1 rfl) ?_
  refine lv_icmp_eq (tgt := 578) hx hb dL_law_573 (by decide) (fun _ => ?_) (fun hn => absurd rfl hn)
  refine lv_iload hx hb dL_law_578 (lv_at hl 1 rfl) ?_
  refine lv_if_ne (tgt := 595) hx hb dL_law_580 (by decide) (fun _ => ?_) (fun k0 => ?_)
  · refine lv_goto (tgt := 946) hx hb dL_law_595 (by decide) ?_
    exact nxt _ _ _ _ _ _ hq.1 hw (lv_sub hl [2, 3, 4, 5, 6] rfl) (by omega) (by omega)
  · refine lv_aload_n hx hb dL_law_583 rfl (lv_at hl 5 rfl) ?_
    refine lv_iconst (v := 0) hx hb dL_law_584 (by decide) ?_
    refine q_lald C hw (mle_rf _) (lk_233 (inv_lay hq.1)) (by rw [ln_233 (inv_lay hq.1)]; exact pk_in 0 1 (by decide)) dL_law_585 ?_
    refine lv_iload hx hb dL_law_586 (lv_at hl 0 rfl) ?_
    refine lv_i2l (v := v2.toInt64) hx hb dL_law_588 rfl ?_
    refine W.lcmp hx hb dL_law_589 ?_
    have ez : lg_cmp (mJ M2 (gB g + 233) 0) (v2.toInt64) = 0 := by rw [hq.2.2 k0]; simp [lg_cmp]
    refine lv_if_eq (tgt := 595) hx hb dL_law_590 (by decide) (fun _ => ?_) (fun hn => absurd ez hn)
    refine lv_goto (tgt := 946) hx hb dL_law_595 (by decide) ?_
    exact nxt _ _ _ _ _ _ hq.1 hw (lv_sub hl [2, 3, 4, 5, 6] rfl) (by omega) (by omega)
set_option maxHeartbeats 4000000 in
set_option maxRecDepth 100000 in
theorem lc_10 {p : Program} {l : Launch} {e : Env} {s : State} {m : MethodId} {below : List Frame} {meth : Method} {c : Code} {H : Heap} {locs : List Loc} {cells slots : Nat} {Q : State → Prop} {ls : Array Slot} {M0 M : Mem} {g : Gh} {b L cnt : Nat} {xs : Nat → Int32} (hst : l.stackTraces = false) (C : Cx g p s m #[Value.ref b] c cL_law 7 RL) (hZ : ZX g s s.heap) (hNc : va_Nc "java/lang/IllegalStateException" "java/lang/IllegalArgumentException" s) (hX : va_X b L xs s s.heap) (hbl : b < s.heap.size) (hbA : ¬ gA g b) (hi : 7 * cnt + 7 ≤ L) (hL : L ≤ 3584) (hI : Inv g M cnt) (hcc : cnt ≤ 512) (hw : Wd g s M0 M H locs) (hl : lv_has ls 7 [(0, .ref b), (1, .ref (gB g)), (2, .ref (gB g + 195)), (3, .ref (gB g + 233)), (4, .int (nI (7 * cnt)))]) (hce : cells + 5 ≤ 601024) (hsl : slots + 609 ≤ 7293034) (nxt : ∀ (M' : Mem) (H' : Heap) (locs' : List Loc) (ls' : Array Slot) (k n : Nat), Inv g M' (cnt + 1) → Wd g s M0 M' H' locs' → lv_has ls' 7 [(0, .ref b), (1, .ref (gB g)), (2, .ref (gB g + 195)), (3, .ref (gB g + 233)), (4, .int (nI (7 * cnt)))] → k ≤ cells + 5 → n ≤ slots + 609 → W p l e room_1 s m #[Value.ref b] below meth c H' locs' k n Q (F0 m 946 ls' [])) : W p l e room_1 s m #[Value.ref b] below meth c H locs cells slots Q (F0 m 598 ls []) := by
  have hx := C.1.1
  have hb := C.1.2.1
  have vin : ∀ j : Nat, j < 7 → vp_in (nI (7 * cnt) + nI j) L := fun j hj => by rw [nI_add]; exact vp_in_nI (by omega) (by omega)
  refine lv_aload_n hx hb dL_law_598 rfl (lv_at hl 1 rfl) ?_
  refine lv_aload_n hx hb dL_law_599 rfl (lv_at hl 0 rfl) ?_
  refine lv_iload hx hb dL_law_600 (lv_at hl 4 rfl) ?_
  refine lv_iconst (v := 1) hx hb dL_law_602 (by decide) ?_
  refine lv_iadd hx hb dL_law_603 ?_
  refine va_sld hx hb hX hbl hbA hw.2.2.2 (vin 1 (by decide)) dL_law_604 ?_
  have hq := m_packed hI (xs (Int32.toNatClampNeg (nI (7 * cnt) + 1))) (Z := fun v w M2 => v = w ∧ Inv g M2 (cnt + 1)) (fun v M' h => ⟨rfl, h⟩)
  refine r_callV (T := TX11) (N := 11) (ci := 11) (index := 81) (n := 1) (d2 := 1) (mc := 0) (ms := 0) (As := [.int (xs (Int32.toNatClampNeg (nI (7 * cnt) + 1)))]) (rest := []) C hw (ct_X11_packed hq) kvL_81 hq.1 (by decide) rfl ⟨by decide, by decide⟩ ⟨by show cells + 0 ≤ 601024; omega, by show slots + 0 ≤ 7293034; omega⟩ rfl hl.1 rfl (Nat.le_of_ble_eq_true rfl) dL_law_605 (fun r M1 H locs hp hle hw => ?_)
  obtain ⟨v1, rfl, hq⟩ := hp
  refine W.eq (g2 := F0 m 608 ls [.int v1]) rfl ?_
  refine lv_aload_n hx hb dL_law_608 rfl (lv_at hl 2 rfl) ?_
  refine lv_aload_n hx hb dL_law_609 rfl (lv_at hl 0 rfl) ?_
  refine lv_iload hx hb dL_law_610 (lv_at hl 4 rfl) ?_
  refine lv_iconst (v := 1) hx hb dL_law_612 (by decide) ?_
  refine lv_iadd hx hb dL_law_613 ?_
  refine va_sld hx hb hX hbl hbA hw.2.2.2 (vin 1 (by decide)) dL_law_614 ?_
  refine r_callV (T := TX12) (N := 67) (ci := 12) (index := 84) (n := 1) (d2 := 0) (mc := 0) (ms := 0) (As := [.int (xs (Int32.toNatClampNeg (nI (7 * cnt) + 1)))]) (rest := [.int v1]) C hw (ct_X12_packed hq) kvL_84 hq.1 (by decide) rfl ⟨by decide, by decide⟩ ⟨by show (cells + 0) + 0 ≤ 601024; omega, by show (slots + 0) + 0 ≤ 7293034; omega⟩ rfl hl.1 rfl (Nat.le_of_ble_eq_true rfl) dL_law_615 (fun r M2 H locs hp hle hw => ?_)
  obtain ⟨v2, rfl, hq⟩ := hp
  refine W.eq (g2 := F0 m 618 ls [.int v2, .int v1]) rfl ?_
  refine lv_icmp_eq (tgt := 946) hx hb dL_law_618 (by decide) (fun _ => ?_) (fun hn => absurd hq.1 hn)
  exact nxt _ _ _ _ _ _ hq.2 hw hl (by omega) (by omega)
set_option maxHeartbeats 4000000 in
set_option maxRecDepth 100000 in
theorem lc_11 {p : Program} {l : Launch} {e : Env} {s : State} {m : MethodId} {below : List Frame} {meth : Method} {c : Code} {H : Heap} {locs : List Loc} {cells slots : Nat} {Q : State → Prop} {ls : Array Slot} {M0 M : Mem} {g : Gh} {b L cnt : Nat} {xs : Nat → Int32} (hst : l.stackTraces = false) (C : Cx g p s m #[Value.ref b] c cL_law 7 RL) (hZ : ZX g s s.heap) (hNc : va_Nc "java/lang/IllegalStateException" "java/lang/IllegalArgumentException" s) (hX : va_X b L xs s s.heap) (hbl : b < s.heap.size) (hbA : ¬ gA g b) (hi : 7 * cnt + 7 ≤ L) (hL : L ≤ 3584) (hI : Inv g M cnt) (hcc : cnt ≤ 512) (hw : Wd g s M0 M H locs) (hl : lv_has ls 7 [(0, .ref b), (1, .ref (gB g)), (2, .ref (gB g + 195)), (3, .ref (gB g + 233)), (4, .int (nI (7 * cnt)))]) (hce : cells + 5 ≤ 601024) (hsl : slots + 609 ≤ 7293034) (nxt : ∀ (M' : Mem) (H' : Heap) (locs' : List Loc) (ls' : Array Slot) (k n : Nat), Inv g M' (cnt + 1) → Wd g s M0 M' H' locs' → lv_has ls' 7 [(0, .ref b), (1, .ref (gB g)), (2, .ref (gB g + 195)), (3, .ref (gB g + 233)), (4, .int (nI (7 * cnt)))] → k ≤ cells + 5 → n ≤ slots + 609 → W p l e room_1 s m #[Value.ref b] below meth c H' locs' k n Q (F0 m 946 ls' [])) : W p l e room_1 s m #[Value.ref b] below meth c H locs cells slots Q (F0 m 623 ls []) := by
  have hx := C.1.1
  have hb := C.1.2.1
  have vin : ∀ j : Nat, j < 7 → vp_in (nI (7 * cnt) + nI j) L := fun j hj => by rw [nI_add]; exact vp_in_nI (by omega) (by omega)
  refine lv_aload_n hx hb dL_law_623 rfl (lv_at hl 1 rfl) ?_
  have hq := m_begin hI  (Z := fun v w M2 => v = w ∧ Inv g M2 (cnt + 1)) (fun v M' h => ⟨rfl, h⟩)
  refine r_callV (T := TX11) (N := 11) (ci := 11) (index := 85) (n := 0) (d2 := 6) (mc := 0) (ms := 0) (As := []) (rest := []) C hw (ct_X11_begin hq) kvL_85 hq.1 (by decide) rfl ⟨by decide, by decide⟩ ⟨by show cells + 0 ≤ 601024; omega, by show slots + 0 ≤ 7293034; omega⟩ rfl hl.1 rfl (Nat.le_of_ble_eq_true rfl) dL_law_624 (fun r M1 H locs hp hle hw => ?_)
  obtain ⟨v1, rfl, hq⟩ := hp
  refine W.eq (g2 := F0 m 627 ls [.int v1]) rfl ?_
  refine lv_aload_n hx hb dL_law_627 rfl (lv_at hl 2 rfl) ?_
  refine r_callV (T := TX12) (N := 67) (ci := 12) (index := 89) (n := 0) (d2 := 4) (mc := 0) (ms := 0) (As := []) (rest := [.int v1]) C hw (ct_X12_begin hq) kvL_89 hq.1 (by decide) rfl ⟨by decide, by decide⟩ ⟨by show (cells + 0) + 0 ≤ 601024; omega, by show (slots + 0) + 0 ≤ 7293034; omega⟩ rfl hl.1 rfl (Nat.le_of_ble_eq_true rfl) dL_law_628 (fun r M2 H locs hp hle hw => ?_)
  obtain ⟨v2, rfl, hq⟩ := hp
  refine W.eq (g2 := F0 m 631 ls [.int v2, .int v1]) rfl ?_
  refine lv_icmp_eq (tgt := 946) hx hb dL_law_631 (by decide) (fun _ => ?_) (fun hn => absurd hq.1 hn)
  exact nxt _ _ _ _ _ _ hq.2 hw hl (by omega) (by omega)
set_option maxHeartbeats 4000000 in
set_option maxRecDepth 100000 in
theorem lc_12 {p : Program} {l : Launch} {e : Env} {s : State} {m : MethodId} {below : List Frame} {meth : Method} {c : Code} {H : Heap} {locs : List Loc} {cells slots : Nat} {Q : State → Prop} {ls : Array Slot} {M0 M : Mem} {g : Gh} {b L cnt : Nat} {xs : Nat → Int32} (hst : l.stackTraces = false) (C : Cx g p s m #[Value.ref b] c cL_law 7 RL) (hZ : ZX g s s.heap) (hNc : va_Nc "java/lang/IllegalStateException" "java/lang/IllegalArgumentException" s) (hX : va_X b L xs s s.heap) (hbl : b < s.heap.size) (hbA : ¬ gA g b) (hi : 7 * cnt + 7 ≤ L) (hL : L ≤ 3584) (hI : Inv g M cnt) (hcc : cnt ≤ 512) (hw : Wd g s M0 M H locs) (hl : lv_has ls 7 [(0, .ref b), (1, .ref (gB g)), (2, .ref (gB g + 195)), (3, .ref (gB g + 233)), (4, .int (nI (7 * cnt)))]) (hce : cells + 5 ≤ 601024) (hsl : slots + 609 ≤ 7293034) (nxt : ∀ (M' : Mem) (H' : Heap) (locs' : List Loc) (ls' : Array Slot) (k n : Nat), Inv g M' (cnt + 1) → Wd g s M0 M' H' locs' → lv_has ls' 7 [(0, .ref b), (1, .ref (gB g)), (2, .ref (gB g + 195)), (3, .ref (gB g + 233)), (4, .int (nI (7 * cnt)))] → k ≤ cells + 5 → n ≤ slots + 609 → W p l e room_1 s m #[Value.ref b] below meth c H' locs' k n Q (F0 m 946 ls' [])) : W p l e room_1 s m #[Value.ref b] below meth c H locs cells slots Q (F0 m 636 ls []) := by
  have hx := C.1.1
  have hb := C.1.2.1
  have vin : ∀ j : Nat, j < 7 → vp_in (nI (7 * cnt) + nI j) L := fun j hj => by rw [nI_add]; exact vp_in_nI (by omega) (by omega)
  refine lv_aload_n hx hb dL_law_636 rfl (lv_at hl 1 rfl) ?_
  refine lv_aload_n hx hb dL_law_637 rfl (lv_at hl 0 rfl) ?_
  refine lv_iload hx hb dL_law_638 (lv_at hl 4 rfl) ?_
  refine lv_iconst (v := 1) hx hb dL_law_640 (by decide) ?_
  refine lv_iadd hx hb dL_law_641 ?_
  refine va_sld hx hb hX hbl hbA hw.2.2.2 (vin 1 (by decide)) dL_law_642 ?_
  have hq := m_answer hI (xs (Int32.toNatClampNeg (nI (7 * cnt) + 1))) (Z := fun v w M2 => v = w ∧ Inv g M2 (cnt + 1)) (fun v M' h => ⟨rfl, h⟩)
  refine r_callV (T := TX11) (N := 11) (ci := 11) (index := 90) (n := 1) (d2 := 10) (mc := 0) (ms := 0) (As := [.int (xs (Int32.toNatClampNeg (nI (7 * cnt) + 1)))]) (rest := []) C hw (ct_X11_answer hq) kvL_90 hq.1 (by decide) rfl ⟨by decide, by decide⟩ ⟨by show cells + 0 ≤ 601024; omega, by show slots + 0 ≤ 7293034; omega⟩ rfl hl.1 rfl (Nat.le_of_ble_eq_true rfl) dL_law_643 (fun r M1 H locs hp hle hw => ?_)
  obtain ⟨v1, rfl, hq⟩ := hp
  refine W.eq (g2 := F0 m 646 ls [.int v1]) rfl ?_
  refine lv_aload_n hx hb dL_law_646 rfl (lv_at hl 2 rfl) ?_
  refine lv_aload_n hx hb dL_law_647 rfl (lv_at hl 0 rfl) ?_
  refine lv_iload hx hb dL_law_648 (lv_at hl 4 rfl) ?_
  refine lv_iconst (v := 1) hx hb dL_law_650 (by decide) ?_
  refine lv_iadd hx hb dL_law_651 ?_
  refine va_sld hx hb hX hbl hbA hw.2.2.2 (vin 1 (by decide)) dL_law_652 ?_
  refine r_callV (T := TX12) (N := 67) (ci := 12) (index := 93) (n := 1) (d2 := 514) (mc := 0) (ms := 0) (As := [.int (xs (Int32.toNatClampNeg (nI (7 * cnt) + 1)))]) (rest := [.int v1]) C hw (ct_X12_answer hq) kvL_93 hq.1 (by decide) rfl ⟨by decide, by decide⟩ ⟨by show (cells + 0) + 0 ≤ 601024; omega, by show (slots + 0) + 0 ≤ 7293034; omega⟩ rfl hl.1 rfl (Nat.le_of_ble_eq_true rfl) dL_law_653 (fun r M2 H locs hp hle hw => ?_)
  obtain ⟨v2, rfl, hq⟩ := hp
  refine W.eq (g2 := F0 m 656 ls [.int v2, .int v1]) rfl ?_
  refine lv_icmp_eq (tgt := 946) hx hb dL_law_656 (by decide) (fun _ => ?_) (fun hn => absurd hq.1 hn)
  exact nxt _ _ _ _ _ _ hq.2 hw hl (by omega) (by omega)
set_option maxHeartbeats 4000000 in
set_option maxRecDepth 100000 in
theorem lc_13 {p : Program} {l : Launch} {e : Env} {s : State} {m : MethodId} {below : List Frame} {meth : Method} {c : Code} {H : Heap} {locs : List Loc} {cells slots : Nat} {Q : State → Prop} {ls : Array Slot} {M0 M : Mem} {g : Gh} {b L cnt : Nat} {xs : Nat → Int32} (hst : l.stackTraces = false) (C : Cx g p s m #[Value.ref b] c cL_law 7 RL) (hZ : ZX g s s.heap) (hNc : va_Nc "java/lang/IllegalStateException" "java/lang/IllegalArgumentException" s) (hX : va_X b L xs s s.heap) (hbl : b < s.heap.size) (hbA : ¬ gA g b) (hi : 7 * cnt + 7 ≤ L) (hL : L ≤ 3584) (hI : Inv g M cnt) (hcc : cnt ≤ 512) (hw : Wd g s M0 M H locs) (hl : lv_has ls 7 [(0, .ref b), (1, .ref (gB g)), (2, .ref (gB g + 195)), (3, .ref (gB g + 233)), (4, .int (nI (7 * cnt)))]) (hce : cells + 5 ≤ 601024) (hsl : slots + 609 ≤ 7293034) (nxt : ∀ (M' : Mem) (H' : Heap) (locs' : List Loc) (ls' : Array Slot) (k n : Nat), Inv g M' (cnt + 1) → Wd g s M0 M' H' locs' → lv_has ls' 7 [(0, .ref b), (1, .ref (gB g)), (2, .ref (gB g + 195)), (3, .ref (gB g + 233)), (4, .int (nI (7 * cnt)))] → k ≤ cells + 5 → n ≤ slots + 609 → W p l e room_1 s m #[Value.ref b] below meth c H' locs' k n Q (F0 m 946 ls' [])) : W p l e room_1 s m #[Value.ref b] below meth c H locs cells slots Q (F0 m 661 ls []) := by
  have hx := C.1.1
  have hb := C.1.2.1
  have vin : ∀ j : Nat, j < 7 → vp_in (nI (7 * cnt) + nI j) L := fun j hj => by rw [nI_add]; exact vp_in_nI (by omega) (by omega)
  refine lv_aload_n hx hb dL_law_661 rfl (lv_at hl 1 rfl) ?_
  refine lv_aload_n hx hb dL_law_662 rfl (lv_at hl 0 rfl) ?_
  refine lv_iload hx hb dL_law_663 (lv_at hl 4 rfl) ?_
  refine lv_iconst (v := 1) hx hb dL_law_665 (by decide) ?_
  refine lv_iadd hx hb dL_law_666 ?_
  refine va_sld hx hb hX hbl hbA hw.2.2.2 (vin 1 (by decide)) dL_law_667 ?_
  have hq := m_nothing hI (xs (Int32.toNatClampNeg (nI (7 * cnt) + 1))) (Z := fun v w M2 => v = w ∧ Inv g M2 (cnt + 1)) (fun v M' h => ⟨rfl, h⟩)
  refine r_callV (T := TX11) (N := 11) (ci := 11) (index := 94) (n := 1) (d2 := 5) (mc := 0) (ms := 0) (As := [.int (xs (Int32.toNatClampNeg (nI (7 * cnt) + 1)))]) (rest := []) C hw (ct_X11_nothing hq) kvL_94 hq.1 (by decide) rfl ⟨by decide, by decide⟩ ⟨by show cells + 0 ≤ 601024; omega, by show slots + 0 ≤ 7293034; omega⟩ rfl hl.1 rfl (Nat.le_of_ble_eq_true rfl) dL_law_668 (fun r M1 H locs hp hle hw => ?_)
  obtain ⟨v1, rfl, hq⟩ := hp
  refine W.eq (g2 := F0 m 671 ls [.int v1]) rfl ?_
  refine lv_aload_n hx hb dL_law_671 rfl (lv_at hl 2 rfl) ?_
  refine lv_aload_n hx hb dL_law_672 rfl (lv_at hl 0 rfl) ?_
  refine lv_iload hx hb dL_law_673 (lv_at hl 4 rfl) ?_
  refine lv_iconst (v := 1) hx hb dL_law_675 (by decide) ?_
  refine lv_iadd hx hb dL_law_676 ?_
  refine va_sld hx hb hX hbl hbA hw.2.2.2 (vin 1 (by decide)) dL_law_677 ?_
  refine r_callV (T := TX12) (N := 67) (ci := 12) (index := 97) (n := 1) (d2 := 5) (mc := 0) (ms := 0) (As := [.int (xs (Int32.toNatClampNeg (nI (7 * cnt) + 1)))]) (rest := [.int v1]) C hw (ct_X12_nothing hq) kvL_97 hq.1 (by decide) rfl ⟨by decide, by decide⟩ ⟨by show (cells + 0) + 0 ≤ 601024; omega, by show (slots + 0) + 0 ≤ 7293034; omega⟩ rfl hl.1 rfl (Nat.le_of_ble_eq_true rfl) dL_law_678 (fun r M2 H locs hp hle hw => ?_)
  obtain ⟨v2, rfl, hq⟩ := hp
  refine W.eq (g2 := F0 m 681 ls [.int v2, .int v1]) rfl ?_
  refine lv_icmp_eq (tgt := 946) hx hb dL_law_681 (by decide) (fun _ => ?_) (fun hn => absurd hq.1 hn)
  exact nxt _ _ _ _ _ _ hq.2 hw hl (by omega) (by omega)
set_option maxHeartbeats 4000000 in
set_option maxRecDepth 100000 in
theorem lc_14 {p : Program} {l : Launch} {e : Env} {s : State} {m : MethodId} {below : List Frame} {meth : Method} {c : Code} {H : Heap} {locs : List Loc} {cells slots : Nat} {Q : State → Prop} {ls : Array Slot} {M0 M : Mem} {g : Gh} {b L cnt : Nat} {xs : Nat → Int32} (hst : l.stackTraces = false) (C : Cx g p s m #[Value.ref b] c cL_law 7 RL) (hZ : ZX g s s.heap) (hNc : va_Nc "java/lang/IllegalStateException" "java/lang/IllegalArgumentException" s) (hX : va_X b L xs s s.heap) (hbl : b < s.heap.size) (hbA : ¬ gA g b) (hi : 7 * cnt + 7 ≤ L) (hL : L ≤ 3584) (hI : Inv g M cnt) (hcc : cnt ≤ 512) (hw : Wd g s M0 M H locs) (hl : lv_has ls 7 [(0, .ref b), (1, .ref (gB g)), (2, .ref (gB g + 195)), (3, .ref (gB g + 233)), (4, .int (nI (7 * cnt)))]) (hce : cells + 5 ≤ 601024) (hsl : slots + 609 ≤ 7293034) (nxt : ∀ (M' : Mem) (H' : Heap) (locs' : List Loc) (ls' : Array Slot) (k n : Nat), Inv g M' (cnt + 1) → Wd g s M0 M' H' locs' → lv_has ls' 7 [(0, .ref b), (1, .ref (gB g)), (2, .ref (gB g + 195)), (3, .ref (gB g + 233)), (4, .int (nI (7 * cnt)))] → k ≤ cells + 5 → n ≤ slots + 609 → W p l e room_1 s m #[Value.ref b] below meth c H' locs' k n Q (F0 m 946 ls' [])) : W p l e room_1 s m #[Value.ref b] below meth c H locs cells slots Q (F0 m 686 ls []) := by
  have hx := C.1.1
  have hb := C.1.2.1
  have vin : ∀ j : Nat, j < 7 → vp_in (nI (7 * cnt) + nI j) L := fun j hj => by rw [nI_add]; exact vp_in_nI (by omega) (by omega)
  refine lv_aload_n hx hb dL_law_686 rfl (lv_at hl 1 rfl) ?_
  have hq := m_dead hI  (Z := fun v w M2 => v = w ∧ Inv g M2 (cnt + 1)) (fun v M' h => ⟨rfl, h⟩)
  refine r_callV (T := TX11) (N := 11) (ci := 11) (index := 98) (n := 0) (d2 := 5) (mc := 0) (ms := 0) (As := []) (rest := []) C hw (ct_X11_dead hq) kvL_98 hq.1 (by decide) rfl ⟨by decide, by decide⟩ ⟨by show cells + 0 ≤ 601024; omega, by show slots + 0 ≤ 7293034; omega⟩ rfl hl.1 rfl (Nat.le_of_ble_eq_true rfl) dL_law_687 (fun r M1 H locs hp hle hw => ?_)
  obtain ⟨v1, rfl, hq⟩ := hp
  refine W.eq (g2 := F0 m 690 ls [.int v1]) rfl ?_
  refine lv_aload_n hx hb dL_law_690 rfl (lv_at hl 2 rfl) ?_
  refine r_callV (T := TX12) (N := 67) (ci := 12) (index := 101) (n := 0) (d2 := 5) (mc := 0) (ms := 0) (As := []) (rest := [.int v1]) C hw (ct_X12_dead hq) kvL_101 hq.1 (by decide) rfl ⟨by decide, by decide⟩ ⟨by show (cells + 0) + 0 ≤ 601024; omega, by show (slots + 0) + 0 ≤ 7293034; omega⟩ rfl hl.1 rfl (Nat.le_of_ble_eq_true rfl) dL_law_691 (fun r M2 H locs hp hle hw => ?_)
  obtain ⟨v2, rfl, hq⟩ := hp
  refine W.eq (g2 := F0 m 694 ls [.int v2, .int v1]) rfl ?_
  refine lv_icmp_eq (tgt := 946) hx hb dL_law_694 (by decide) (fun _ => ?_) (fun hn => absurd hq.1 hn)
  exact nxt _ _ _ _ _ _ hq.2 hw hl (by omega) (by omega)
set_option maxHeartbeats 4000000 in
set_option maxRecDepth 100000 in
theorem lc_15 {p : Program} {l : Launch} {e : Env} {s : State} {m : MethodId} {below : List Frame} {meth : Method} {c : Code} {H : Heap} {locs : List Loc} {cells slots : Nat} {Q : State → Prop} {ls : Array Slot} {M0 M : Mem} {g : Gh} {b L cnt : Nat} {xs : Nat → Int32} (hst : l.stackTraces = false) (C : Cx g p s m #[Value.ref b] c cL_law 7 RL) (hZ : ZX g s s.heap) (hNc : va_Nc "java/lang/IllegalStateException" "java/lang/IllegalArgumentException" s) (hX : va_X b L xs s s.heap) (hbl : b < s.heap.size) (hbA : ¬ gA g b) (hi : 7 * cnt + 7 ≤ L) (hL : L ≤ 3584) (hI : Inv g M cnt) (hcc : cnt ≤ 512) (hw : Wd g s M0 M H locs) (hl : lv_has ls 7 [(0, .ref b), (1, .ref (gB g)), (2, .ref (gB g + 195)), (3, .ref (gB g + 233)), (4, .int (nI (7 * cnt)))]) (hce : cells + 5 ≤ 601024) (hsl : slots + 609 ≤ 7293034) (nxt : ∀ (M' : Mem) (H' : Heap) (locs' : List Loc) (ls' : Array Slot) (k n : Nat), Inv g M' (cnt + 1) → Wd g s M0 M' H' locs' → lv_has ls' 7 [(0, .ref b), (1, .ref (gB g)), (2, .ref (gB g + 195)), (3, .ref (gB g + 233)), (4, .int (nI (7 * cnt)))] → k ≤ cells + 5 → n ≤ slots + 609 → W p l e room_1 s m #[Value.ref b] below meth c H' locs' k n Q (F0 m 946 ls' [])) : W p l e room_1 s m #[Value.ref b] below meth c H locs cells slots Q (F0 m 699 ls []) := by
  have hx := C.1.1
  have hb := C.1.2.1
  have vin : ∀ j : Nat, j < 7 → vp_in (nI (7 * cnt) + nI j) L := fun j hj => by rw [nI_add]; exact vp_in_nI (by omega) (by omega)
  refine lv_aload_n hx hb dL_law_699 rfl (lv_at hl 1 rfl) ?_
  refine lv_aload_n hx hb dL_law_700 rfl (lv_at hl 0 rfl) ?_
  refine lv_iload hx hb dL_law_701 (lv_at hl 4 rfl) ?_
  refine lv_iconst (v := 1) hx hb dL_law_703 (by decide) ?_
  refine lv_iadd hx hb dL_law_704 ?_
  refine va_sld hx hb hX hbl hbA hw.2.2.2 (vin 1 (by decide)) dL_law_705 ?_
  refine lv_aload_n hx hb dL_law_706 rfl (lv_at hl 0 rfl) ?_
  refine lv_iload hx hb dL_law_707 (lv_at hl 4 rfl) ?_
  refine lv_iconst (v := 2) hx hb dL_law_709 (by decide) ?_
  refine lv_iadd hx hb dL_law_710 ?_
  refine va_sld hx hb hX hbl hbA hw.2.2.2 (vin 2 (by decide)) dL_law_711 ?_
  have j : W p l e room_1 s m #[Value.ref b] below meth c H locs cells slots Q (F0 m 720 ls [.int (bI (!decide ((xs (Int32.toNatClampNeg (nI (7 * cnt) + 2))) = 0))), .int (xs (Int32.toNatClampNeg (nI (7 * cnt) + 1))), .ref (gB g)]) := by
    have hq := m_appeal hI (xs (Int32.toNatClampNeg (nI (7 * cnt) + 1))) (!decide ((xs (Int32.toNatClampNeg (nI (7 * cnt) + 2))) = 0)) (Z := fun v w M2 => v = w ∧ Inv g M2 (cnt + 1)) (fun v M' h => ⟨rfl, h⟩)
    refine r_callV (T := TX11) (N := 11) (ci := 11) (index := 102) (n := 2) (d2 := 6) (mc := 0) (ms := 0) (As := [.int (xs (Int32.toNatClampNeg (nI (7 * cnt) + 1))), .int (bI (!decide ((xs (Int32.toNatClampNeg (nI (7 * cnt) + 2))) = 0)))]) (rest := []) C hw (ct_X11_appeal hq) kvL_102 hq.1 (by decide) rfl ⟨by decide, by decide⟩ ⟨by show cells + 0 ≤ 601024; omega, by show slots + 0 ≤ 7293034; omega⟩ rfl hl.1 rfl (Nat.le_of_ble_eq_true rfl) dL_law_720 (fun r M1 H locs hp hle hw => ?_)
    obtain ⟨v1, rfl, hq⟩ := hp
    refine W.eq (g2 := F0 m 723 ls [.int v1]) rfl ?_
    refine lv_aload_n hx hb dL_law_723 rfl (lv_at hl 2 rfl) ?_
    refine lv_aload_n hx hb dL_law_724 rfl (lv_at hl 0 rfl) ?_
    refine lv_iload hx hb dL_law_725 (lv_at hl 4 rfl) ?_
    refine lv_iconst (v := 1) hx hb dL_law_727 (by decide) ?_
    refine lv_iadd hx hb dL_law_728 ?_
    refine va_sld hx hb hX hbl hbA hw.2.2.2 (vin 1 (by decide)) dL_law_729 ?_
    refine lv_aload_n hx hb dL_law_730 rfl (lv_at hl 0 rfl) ?_
    refine lv_iload hx hb dL_law_731 (lv_at hl 4 rfl) ?_
    refine lv_iconst (v := 2) hx hb dL_law_733 (by decide) ?_
    refine lv_iadd hx hb dL_law_734 ?_
    refine va_sld hx hb hX hbl hbA hw.2.2.2 (vin 2 (by decide)) dL_law_735 ?_
    have j : W p l e room_1 s m #[Value.ref b] below meth c H locs (cells + 0) (slots + 0) Q (F0 m 744 ls [.int (bI (!decide ((xs (Int32.toNatClampNeg (nI (7 * cnt) + 2))) = 0))), .int (xs (Int32.toNatClampNeg (nI (7 * cnt) + 1))), .ref (gB g + 195), .int v1]) := by
      refine r_callV (T := TX12) (N := 67) (ci := 12) (index := 105) (n := 2) (d2 := 4) (mc := 0) (ms := 0) (As := [.int (xs (Int32.toNatClampNeg (nI (7 * cnt) + 1))), .int (bI (!decide ((xs (Int32.toNatClampNeg (nI (7 * cnt) + 2))) = 0)))]) (rest := [.int v1]) C hw (ct_X12_appeal hq) kvL_105 hq.1 (by decide) rfl ⟨by decide, by decide⟩ ⟨by show (cells + 0) + 0 ≤ 601024; omega, by show (slots + 0) + 0 ≤ 7293034; omega⟩ rfl hl.1 rfl (Nat.le_of_ble_eq_true rfl) dL_law_744 (fun r M2 H locs hp hle hw => ?_)
      obtain ⟨v2, rfl, hq⟩ := hp
      refine W.eq (g2 := F0 m 747 ls [.int v2, .int v1]) rfl ?_
      refine lv_icmp_eq (tgt := 946) hx hb dL_law_747 (by decide) (fun _ => ?_) (fun hn => absurd hq.1 hn)
      exact nxt _ _ _ _ _ _ hq.2 hw hl (by omega) (by omega)
    refine lv_if_eq (tgt := 743) hx hb dL_law_736 (by decide) (fun c0 => ?_) (fun c0 => ?_)
    · refine lv_iconst (v := 0) hx hb dL_law_743 (by decide) ?_
      rw [decide_eq_true c0] at j; exact j
    · refine lv_iconst (v := 1) hx hb dL_law_739 (by decide) ?_
      refine lv_goto (tgt := 744) hx hb dL_law_740 (by decide) ?_
      rw [decide_eq_false c0] at j; exact j
  refine lv_if_eq (tgt := 719) hx hb dL_law_712 (by decide) (fun c0 => ?_) (fun c0 => ?_)
  · refine lv_iconst (v := 0) hx hb dL_law_719 (by decide) ?_
    rw [decide_eq_true c0] at j; exact j
  · refine lv_iconst (v := 1) hx hb dL_law_715 (by decide) ?_
    refine lv_goto (tgt := 720) hx hb dL_law_716 (by decide) ?_
    rw [decide_eq_false c0] at j; exact j
set_option maxHeartbeats 4000000 in
set_option maxRecDepth 100000 in
theorem lc_16 {p : Program} {l : Launch} {e : Env} {s : State} {m : MethodId} {below : List Frame} {meth : Method} {c : Code} {H : Heap} {locs : List Loc} {cells slots : Nat} {Q : State → Prop} {ls : Array Slot} {M0 M : Mem} {g : Gh} {b L cnt : Nat} {xs : Nat → Int32} (hst : l.stackTraces = false) (C : Cx g p s m #[Value.ref b] c cL_law 7 RL) (hZ : ZX g s s.heap) (hNc : va_Nc "java/lang/IllegalStateException" "java/lang/IllegalArgumentException" s) (hX : va_X b L xs s s.heap) (hbl : b < s.heap.size) (hbA : ¬ gA g b) (hi : 7 * cnt + 7 ≤ L) (hL : L ≤ 3584) (hI : Inv g M cnt) (hcc : cnt ≤ 512) (hw : Wd g s M0 M H locs) (hl : lv_has ls 7 [(0, .ref b), (1, .ref (gB g)), (2, .ref (gB g + 195)), (3, .ref (gB g + 233)), (4, .int (nI (7 * cnt)))]) (hce : cells + 5 ≤ 601024) (hsl : slots + 609 ≤ 7293034) (nxt : ∀ (M' : Mem) (H' : Heap) (locs' : List Loc) (ls' : Array Slot) (k n : Nat), Inv g M' (cnt + 1) → Wd g s M0 M' H' locs' → lv_has ls' 7 [(0, .ref b), (1, .ref (gB g)), (2, .ref (gB g + 195)), (3, .ref (gB g + 233)), (4, .int (nI (7 * cnt)))] → k ≤ cells + 5 → n ≤ slots + 609 → W p l e room_1 s m #[Value.ref b] below meth c H' locs' k n Q (F0 m 946 ls' [])) : W p l e room_1 s m #[Value.ref b] below meth c H locs cells slots Q (F0 m 752 ls []) := by
  have hx := C.1.1
  have hb := C.1.2.1
  have vin : ∀ j : Nat, j < 7 → vp_in (nI (7 * cnt) + nI j) L := fun j hj => by rw [nI_add]; exact vp_in_nI (by omega) (by omega)
  refine lv_aload_n hx hb dL_law_752 rfl (lv_at hl 1 rfl) ?_
  have hq := m_undo hI  (Z := fun v w M2 => v = w ∧ Inv g M2 (cnt + 1)) (fun v M' h => ⟨rfl, h⟩)
  refine r_callV (T := TX11) (N := 11) (ci := 11) (index := 106) (n := 0) (d2 := 6) (mc := 0) (ms := 0) (As := []) (rest := []) C hw (ct_X11_undo hq) kvL_106 hq.1 (by decide) rfl ⟨by decide, by decide⟩ ⟨by show cells + 0 ≤ 601024; omega, by show slots + 0 ≤ 7293034; omega⟩ rfl hl.1 rfl (Nat.le_of_ble_eq_true rfl) dL_law_753 (fun r M1 H locs hp hle hw => ?_)
  obtain ⟨v1, rfl, hq⟩ := hp
  refine W.eq (g2 := F0 m 756 ls [.int v1]) rfl ?_
  refine lv_aload_n hx hb dL_law_756 rfl (lv_at hl 2 rfl) ?_
  refine r_callV (T := TX12) (N := 67) (ci := 12) (index := 109) (n := 0) (d2 := 4) (mc := 0) (ms := 0) (As := []) (rest := [.int v1]) C hw (ct_X12_undo hq) kvL_109 hq.1 (by decide) rfl ⟨by decide, by decide⟩ ⟨by show (cells + 0) + 0 ≤ 601024; omega, by show (slots + 0) + 0 ≤ 7293034; omega⟩ rfl hl.1 rfl (Nat.le_of_ble_eq_true rfl) dL_law_757 (fun r M2 H locs hp hle hw => ?_)
  obtain ⟨v2, rfl, hq⟩ := hp
  refine W.eq (g2 := F0 m 760 ls [.int v2, .int v1]) rfl ?_
  refine lv_icmp_eq (tgt := 946) hx hb dL_law_760 (by decide) (fun _ => ?_) (fun hn => absurd hq.1 hn)
  exact nxt _ _ _ _ _ _ hq.2 hw hl (by omega) (by omega)
set_option maxHeartbeats 4000000 in
set_option maxRecDepth 100000 in
theorem lc_17 {p : Program} {l : Launch} {e : Env} {s : State} {m : MethodId} {below : List Frame} {meth : Method} {c : Code} {H : Heap} {locs : List Loc} {cells slots : Nat} {Q : State → Prop} {ls : Array Slot} {M0 M : Mem} {g : Gh} {b L cnt : Nat} {xs : Nat → Int32} (hst : l.stackTraces = false) (C : Cx g p s m #[Value.ref b] c cL_law 7 RL) (hZ : ZX g s s.heap) (hNc : va_Nc "java/lang/IllegalStateException" "java/lang/IllegalArgumentException" s) (hX : va_X b L xs s s.heap) (hbl : b < s.heap.size) (hbA : ¬ gA g b) (hi : 7 * cnt + 7 ≤ L) (hL : L ≤ 3584) (hI : Inv g M cnt) (hcc : cnt ≤ 512) (hw : Wd g s M0 M H locs) (hl : lv_has ls 7 [(0, .ref b), (1, .ref (gB g)), (2, .ref (gB g + 195)), (3, .ref (gB g + 233)), (4, .int (nI (7 * cnt)))]) (hce : cells + 5 ≤ 601024) (hsl : slots + 609 ≤ 7293034) (nxt : ∀ (M' : Mem) (H' : Heap) (locs' : List Loc) (ls' : Array Slot) (k n : Nat), Inv g M' (cnt + 1) → Wd g s M0 M' H' locs' → lv_has ls' 7 [(0, .ref b), (1, .ref (gB g)), (2, .ref (gB g + 195)), (3, .ref (gB g + 233)), (4, .int (nI (7 * cnt)))] → k ≤ cells + 5 → n ≤ slots + 609 → W p l e room_1 s m #[Value.ref b] below meth c H' locs' k n Q (F0 m 946 ls' [])) : W p l e room_1 s m #[Value.ref b] below meth c H locs cells slots Q (F0 m 765 ls []) := by
  have hx := C.1.1
  have hb := C.1.2.1
  have vin : ∀ j : Nat, j < 7 → vp_in (nI (7 * cnt) + nI j) L := fun j hj => by rw [nI_add]; exact vp_in_nI (by omega) (by omega)
  refine lv_aload_n hx hb dL_law_765 rfl (lv_at hl 1 rfl) ?_
  refine lv_aload_n hx hb dL_law_766 rfl (lv_at hl 0 rfl) ?_
  refine lv_iload hx hb dL_law_767 (lv_at hl 4 rfl) ?_
  refine lv_iconst (v := 1) hx hb dL_law_769 (by decide) ?_
  refine lv_iadd hx hb dL_law_770 ?_
  refine va_sld hx hb hX hbl hbA hw.2.2.2 (vin 1 (by decide)) dL_law_771 ?_
  have hq := m_now hI (xs (Int32.toNatClampNeg (nI (7 * cnt) + 1))) (Z := fun v w M2 => v = w ∧ Inv g M2 (cnt + 1)) (fun v M' h => ⟨rfl, h⟩)
  refine r_callV (T := TX11) (N := 11) (ci := 11) (index := 110) (n := 1) (d2 := 2) (mc := 0) (ms := 0) (As := [.int (xs (Int32.toNatClampNeg (nI (7 * cnt) + 1)))]) (rest := []) C hw (ct_X11_now hq) kvL_110 hq.1 (by decide) rfl ⟨by decide, by decide⟩ ⟨by show cells + 0 ≤ 601024; omega, by show slots + 0 ≤ 7293034; omega⟩ rfl hl.1 rfl (Nat.le_of_ble_eq_true rfl) dL_law_772 (fun r M1 H locs hp hle hw => ?_)
  obtain ⟨v1, rfl, hq⟩ := hp
  refine W.eq (g2 := F0 m 775 ls [.int v1]) rfl ?_
  refine lv_aload_n hx hb dL_law_775 rfl (lv_at hl 2 rfl) ?_
  refine lv_aload_n hx hb dL_law_776 rfl (lv_at hl 0 rfl) ?_
  refine lv_iload hx hb dL_law_777 (lv_at hl 4 rfl) ?_
  refine lv_iconst (v := 1) hx hb dL_law_779 (by decide) ?_
  refine lv_iadd hx hb dL_law_780 ?_
  refine va_sld hx hb hX hbl hbA hw.2.2.2 (vin 1 (by decide)) dL_law_781 ?_
  refine r_callV (T := TX12) (N := 67) (ci := 12) (index := 113) (n := 1) (d2 := 0) (mc := 0) (ms := 0) (As := [.int (xs (Int32.toNatClampNeg (nI (7 * cnt) + 1)))]) (rest := [.int v1]) C hw (ct_X12_now hq) kvL_113 hq.1 (by decide) rfl ⟨by decide, by decide⟩ ⟨by show (cells + 0) + 0 ≤ 601024; omega, by show (slots + 0) + 0 ≤ 7293034; omega⟩ rfl hl.1 rfl (Nat.le_of_ble_eq_true rfl) dL_law_782 (fun r M2 H locs hp hle hw => ?_)
  obtain ⟨v2, rfl, hq⟩ := hp
  refine W.eq (g2 := F0 m 785 ls [.int v2, .int v1]) rfl ?_
  refine lv_icmp_eq (tgt := 946) hx hb dL_law_785 (by decide) (fun _ => ?_) (fun hn => absurd hq.1 hn)
  exact nxt _ _ _ _ _ _ hq.2 hw hl (by omega) (by omega)
set_option maxHeartbeats 4000000 in
set_option maxRecDepth 100000 in
theorem lc_18 {p : Program} {l : Launch} {e : Env} {s : State} {m : MethodId} {below : List Frame} {meth : Method} {c : Code} {H : Heap} {locs : List Loc} {cells slots : Nat} {Q : State → Prop} {ls : Array Slot} {M0 M : Mem} {g : Gh} {b L cnt : Nat} {xs : Nat → Int32} (hst : l.stackTraces = false) (C : Cx g p s m #[Value.ref b] c cL_law 7 RL) (hZ : ZX g s s.heap) (hNc : va_Nc "java/lang/IllegalStateException" "java/lang/IllegalArgumentException" s) (hX : va_X b L xs s s.heap) (hbl : b < s.heap.size) (hbA : ¬ gA g b) (hi : 7 * cnt + 7 ≤ L) (hL : L ≤ 3584) (hI : Inv g M cnt) (hcc : cnt ≤ 512) (hw : Wd g s M0 M H locs) (hl : lv_has ls 7 [(0, .ref b), (1, .ref (gB g)), (2, .ref (gB g + 195)), (3, .ref (gB g + 233)), (4, .int (nI (7 * cnt)))]) (hce : cells + 5 ≤ 601024) (hsl : slots + 609 ≤ 7293034) (nxt : ∀ (M' : Mem) (H' : Heap) (locs' : List Loc) (ls' : Array Slot) (k n : Nat), Inv g M' (cnt + 1) → Wd g s M0 M' H' locs' → lv_has ls' 7 [(0, .ref b), (1, .ref (gB g)), (2, .ref (gB g + 195)), (3, .ref (gB g + 233)), (4, .int (nI (7 * cnt)))] → k ≤ cells + 5 → n ≤ slots + 609 → W p l e room_1 s m #[Value.ref b] below meth c H' locs' k n Q (F0 m 946 ls' [])) : W p l e room_1 s m #[Value.ref b] below meth c H locs cells slots Q (F0 m 790 ls []) := by
  have hx := C.1.1
  have hb := C.1.2.1
  have vin : ∀ j : Nat, j < 7 → vp_in (nI (7 * cnt) + nI j) L := fun j hj => by rw [nI_add]; exact vp_in_nI (by omega) (by omega)
  refine lv_aload_n hx hb dL_law_790 rfl (lv_at hl 1 rfl) ?_
  refine lv_aload_n hx hb dL_law_791 rfl (lv_at hl 0 rfl) ?_
  refine lv_iload hx hb dL_law_792 (lv_at hl 4 rfl) ?_
  refine lv_iconst (v := 1) hx hb dL_law_794 (by decide) ?_
  refine lv_iadd hx hb dL_law_795 ?_
  refine va_sld hx hb hX hbl hbA hw.2.2.2 (vin 1 (by decide)) dL_law_796 ?_
  refine lv_aload_n hx hb dL_law_797 rfl (lv_at hl 0 rfl) ?_
  refine lv_iload hx hb dL_law_798 (lv_at hl 4 rfl) ?_
  refine lv_iconst (v := 2) hx hb dL_law_800 (by decide) ?_
  refine lv_iadd hx hb dL_law_801 ?_
  refine va_sld hx hb hX hbl hbA hw.2.2.2 (vin 2 (by decide)) dL_law_802 ?_
  refine lv_aload_n hx hb dL_law_803 rfl (lv_at hl 3 rfl) ?_
  have hq := lw_event hI (xs (Int32.toNatClampNeg (nI (7 * cnt) + 1))) (xs (Int32.toNatClampNeg (nI (7 * cnt) + 2))) (PA := (fun k M' => wp_X12_event g M' (gB g + 195) (xs (Int32.toNatClampNeg (nI (7 * cnt) + 1))) (xs (Int32.toNatClampNeg (nI (7 * cnt) + 2))) (fun bb M2 => Inv g M2 (cnt + 1) ∧ mI M2 (gB g + 195) 0 = k ∧ (k = 0 → mJ M2 (gB g + 233) 0 = bb.toInt64)))) (fun k M' h => h)
  refine r_callSW (index := 114) (n := 4) (d2 := 9) (mc := 1) (ms := 6) (As := [.ref (gB g), .int (xs (Int32.toNatClampNeg (nI (7 * cnt) + 1))), .int (xs (Int32.toNatClampNeg (nI (7 * cnt) + 2))), .ref (gB g + 233)]) (rest := []) C hZ hNc hw (ct_L_event (post := (fun k M' => wp_X12_event g M' (gB g + 195) (xs (Int32.toNatClampNeg (nI (7 * cnt) + 1))) (xs (Int32.toNatClampNeg (nI (7 * cnt) + 2))) (fun bb M2 => Inv g M2 (cnt + 1) ∧ mI M2 (gB g + 195) 0 = k ∧ (k = 0 → mJ M2 (gB g + 233) 0 = bb.toInt64)))) hst (lk_233 (inv_lay hI)) (ln_233 (inv_lay hI)) hq) kwL_114 ⟨by decide, by decide⟩ ⟨by show cells + 1 ≤ 601024; omega, by show slots + 6 ≤ 7293034; omega⟩ rfl hl.1 rfl (Nat.le_of_ble_eq_true rfl) dL_law_804 (fun r M1 H locs hp hle hw => ?_)
  obtain ⟨v1, rfl, hq⟩ := hp
  refine W.eq (g2 := F0 m 807 ls [.int v1]) rfl ?_
  refine lv_istore (lv' := [(5, .int v1), (0, .ref b), (1, .ref (gB g)), (2, .ref (gB g + 195)), (3, .ref (gB g + 233)), (4, .int (nI (7 * cnt)))]) hx hb dL_law_807 hl (by decide) rfl (fun ls hl => ?_)
  refine lv_aload_n hx hb dL_law_809 rfl (lv_at hl 3 rfl) ?_
  refine lv_aload_n hx hb dL_law_810 rfl (lv_at hl 1 rfl) ?_
  refine lv_iload hx hb dL_law_811 (lv_at hl 5 rfl) ?_
  refine lv_iconst (v := 1) hx hb dL_law_813 (by decide) ?_
  refine lv_iadd hx hb dL_law_814 ?_
  refine va_sld hx hb hX hbl hbA hw.2.2.2 (vin 1 (by decide)) dL_law_815 ?_
  refine lv_aload_n hx hb dL_law_816 rfl (lv_at hl 1 rfl) ?_
  refine lv_iload hx hb dL_law_817 (lv_at hl 5 rfl) ?_
  refine lv_iconst (v := 2) hx hb dL_law_819 (by decide) ?_
  refine lv_iadd hx hb dL_law_820 ?_
  refine va_sld hx hb hX hbl hbA hw.2.2.2 (vin 2 (by decide)) dL_law_821 ?_
  refine r_callV (T := TX12) (N := 67) (ci := 12) (index := 116) (n := 2) (d2 := 0) (mc := 0) (ms := 0) (As := [.int (xs (Int32.toNatClampNeg (nI (7 * cnt) + 1))), .int (xs (Int32.toNatClampNeg (nI (7 * cnt) + 2)))]) (rest := []) C hw (ct_X12_event hq) kvL_116 hq.1 (by decide) rfl ⟨by decide, by decide⟩ ⟨by show (cells + 1) + 0 ≤ 601024; omega, by show (slots + 6) + 0 ≤ 7293034; omega⟩ rfl hl.1 rfl (Nat.le_of_ble_eq_true rfl) dL_law_822 (fun r M2 H locs hp hle hw => ?_)
  obtain ⟨v2, rfl, hq⟩ := hp
  refine W.eq (g2 := F0 m 825 ls [.int v2]) rfl ?_
  refine lv_istore (lv' := [(6, .int v2), (5, .int v1), (0, .ref b), (1, .ref (gB g)), (2, .ref (gB g + 195)), (3, .ref (gB g + 233)), (4, .int (nI (7 * cnt)))]) hx hb dL_law_825 hl (by decide) rfl (fun ls hl => ?_)
  refine lv_aload_n hx hb dL_law_827 rfl (lv_at hl 4 rfl) ?_
  have ht : wp_X12_thrown g M2 (gB g + 195) (fun v M3 => v = v1 ∧ M3 = M2) := ⟨lk_195 (inv_lay hq.1), hq.2.1, rfl⟩
  refine r_callV (T := TX12) (N := 67) (ci := 12) (index := 60) (n := 0) (d2 := 0) (mc := 0) (ms := 0) (As := []) (rest := []) C hw (ct_X12_thrown ht) kvL_60 ht.1 (by decide) rfl ⟨by decide, by decide⟩ ⟨by show ((cells + 1) + 0) + 0 ≤ 601024; omega, by show ((slots + 6) + 0) + 0 ≤ 7293034; omega⟩ rfl hl.1 rfl (Nat.le_of_ble_eq_true rfl) dL_law_828 (fun r M3 H locs hp hle hw => ?_)
  obtain ⟨v3, rfl, e3, eM⟩ := hp
  rw [eM] at hw
  refine W.eq (g2 := F0 m 831 ls [.int v1]) (by rw [e3]; rfl) ?_
  refine lv_iload hx hb dL_law_831 (lv_at hl 1 rfl) ?_
  refine lv_icmp_eq (tgt := 838) hx hb dL_law_833 (by decide) (fun _ => ?_) (fun hn => absurd rfl hn)
  refine lv_iload hx hb dL_law_838 (lv_at hl 1 rfl) ?_
  refine lv_if_ne (tgt := 855) hx hb dL_law_840 (by decide) (fun _ => ?_) (fun k0 => ?_)
  · refine lv_goto (tgt := 946) hx hb dL_law_855 (by decide) ?_
    exact nxt _ _ _ _ _ _ hq.1 hw (lv_sub hl [2, 3, 4, 5, 6] rfl) (by omega) (by omega)
  · refine lv_aload_n hx hb dL_law_843 rfl (lv_at hl 5 rfl) ?_
    refine lv_iconst (v := 0) hx hb dL_law_844 (by decide) ?_
    refine q_lald C hw (mle_rf _) (lk_233 (inv_lay hq.1)) (by rw [ln_233 (inv_lay hq.1)]; exact pk_in 0 1 (by decide)) dL_law_845 ?_
    refine lv_iload hx hb dL_law_846 (lv_at hl 0 rfl) ?_
    refine lv_i2l (v := v2.toInt64) hx hb dL_law_848 rfl ?_
    refine W.lcmp hx hb dL_law_849 ?_
    have ez : lg_cmp (mJ M2 (gB g + 233) 0) (v2.toInt64) = 0 := by rw [hq.2.2 k0]; simp [lg_cmp]
    refine lv_if_eq (tgt := 855) hx hb dL_law_850 (by decide) (fun _ => ?_) (fun hn => absurd ez hn)
    refine lv_goto (tgt := 946) hx hb dL_law_855 (by decide) ?_
    exact nxt _ _ _ _ _ _ hq.1 hw (lv_sub hl [2, 3, 4, 5, 6] rfl) (by omega) (by omega)
set_option maxHeartbeats 4000000 in
set_option maxRecDepth 100000 in
theorem lc_19 {p : Program} {l : Launch} {e : Env} {s : State} {m : MethodId} {below : List Frame} {meth : Method} {c : Code} {H : Heap} {locs : List Loc} {cells slots : Nat} {Q : State → Prop} {ls : Array Slot} {M0 M : Mem} {g : Gh} {b L cnt : Nat} {xs : Nat → Int32} (hst : l.stackTraces = false) (C : Cx g p s m #[Value.ref b] c cL_law 7 RL) (hZ : ZX g s s.heap) (hNc : va_Nc "java/lang/IllegalStateException" "java/lang/IllegalArgumentException" s) (hX : va_X b L xs s s.heap) (hbl : b < s.heap.size) (hbA : ¬ gA g b) (hi : 7 * cnt + 7 ≤ L) (hL : L ≤ 3584) (hI : Inv g M cnt) (hcc : cnt ≤ 512) (hw : Wd g s M0 M H locs) (hl : lv_has ls 7 [(0, .ref b), (1, .ref (gB g)), (2, .ref (gB g + 195)), (3, .ref (gB g + 233)), (4, .int (nI (7 * cnt)))]) (hce : cells + 5 ≤ 601024) (hsl : slots + 609 ≤ 7293034) (nxt : ∀ (M' : Mem) (H' : Heap) (locs' : List Loc) (ls' : Array Slot) (k n : Nat), Inv g M' (cnt + 1) → Wd g s M0 M' H' locs' → lv_has ls' 7 [(0, .ref b), (1, .ref (gB g)), (2, .ref (gB g + 195)), (3, .ref (gB g + 233)), (4, .int (nI (7 * cnt)))] → k ≤ cells + 5 → n ≤ slots + 609 → W p l e room_1 s m #[Value.ref b] below meth c H' locs' k n Q (F0 m 946 ls' [])) : W p l e room_1 s m #[Value.ref b] below meth c H locs cells slots Q (F0 m 858 ls []) := by
  have hx := C.1.1
  have hb := C.1.2.1
  have vin : ∀ j : Nat, j < 7 → vp_in (nI (7 * cnt) + nI j) L := fun j hj => by rw [nI_add]; exact vp_in_nI (by omega) (by omega)
  refine lv_aload_n hx hb dL_law_858 rfl (lv_at hl 1 rfl) ?_
  have hq := m_finish hI hcc  (Z := fun v w M2 => v = w ∧ Inv g M2 (cnt + 1)) (fun v M' h => ⟨rfl, h⟩)
  refine r_callV (T := TX11) (N := 11) (ci := 11) (index := 117) (n := 0) (d2 := 3) (mc := 0) (ms := 0) (As := []) (rest := []) C hw (ct_X11_finish hq) kvL_117 hq.1 (by decide) rfl ⟨by decide, by decide⟩ ⟨by show cells + 0 ≤ 601024; omega, by show slots + 0 ≤ 7293034; omega⟩ rfl hl.1 rfl (Nat.le_of_ble_eq_true rfl) dL_law_859 (fun r M1 H locs hp hle hw => ?_)
  obtain ⟨v1, rfl, hq⟩ := hp
  refine W.eq (g2 := F0 m 862 ls [.int v1]) rfl ?_
  refine lv_aload_n hx hb dL_law_862 rfl (lv_at hl 2 rfl) ?_
  refine r_callV (T := TX12) (N := 67) (ci := 12) (index := 120) (n := 0) (d2 := 1) (mc := 0) (ms := 0) (As := []) (rest := [.int v1]) C hw (ct_X12_finish hq) kvL_120 hq.1 (by decide) rfl ⟨by decide, by decide⟩ ⟨by show (cells + 0) + 0 ≤ 601024; omega, by show (slots + 0) + 0 ≤ 7293034; omega⟩ rfl hl.1 rfl (Nat.le_of_ble_eq_true rfl) dL_law_863 (fun r M2 H locs hp hle hw => ?_)
  obtain ⟨v2, rfl, hq⟩ := hp
  refine W.eq (g2 := F0 m 866 ls [.int v2, .int v1]) rfl ?_
  refine lv_icmp_eq (tgt := 946) hx hb dL_law_866 (by decide) (fun _ => ?_) (fun hn => absurd hq.1 hn)
  exact nxt _ _ _ _ _ _ hq.2 hw hl (by omega) (by omega)
set_option maxHeartbeats 4000000 in
set_option maxRecDepth 100000 in
theorem lc_20 {p : Program} {l : Launch} {e : Env} {s : State} {m : MethodId} {below : List Frame} {meth : Method} {c : Code} {H : Heap} {locs : List Loc} {cells slots : Nat} {Q : State → Prop} {ls : Array Slot} {M0 M : Mem} {g : Gh} {b L cnt : Nat} {xs : Nat → Int32} (hst : l.stackTraces = false) (C : Cx g p s m #[Value.ref b] c cL_law 7 RL) (hZ : ZX g s s.heap) (hNc : va_Nc "java/lang/IllegalStateException" "java/lang/IllegalArgumentException" s) (hX : va_X b L xs s s.heap) (hbl : b < s.heap.size) (hbA : ¬ gA g b) (hi : 7 * cnt + 7 ≤ L) (hL : L ≤ 3584) (hI : Inv g M cnt) (hcc : cnt ≤ 512) (hw : Wd g s M0 M H locs) (hl : lv_has ls 7 [(0, .ref b), (1, .ref (gB g)), (2, .ref (gB g + 195)), (3, .ref (gB g + 233)), (4, .int (nI (7 * cnt)))]) (hce : cells + 5 ≤ 601024) (hsl : slots + 609 ≤ 7293034) (nxt : ∀ (M' : Mem) (H' : Heap) (locs' : List Loc) (ls' : Array Slot) (k n : Nat), Inv g M' (cnt + 1) → Wd g s M0 M' H' locs' → lv_has ls' 7 [(0, .ref b), (1, .ref (gB g)), (2, .ref (gB g + 195)), (3, .ref (gB g + 233)), (4, .int (nI (7 * cnt)))] → k ≤ cells + 5 → n ≤ slots + 609 → W p l e room_1 s m #[Value.ref b] below meth c H' locs' k n Q (F0 m 946 ls' [])) : W p l e room_1 s m #[Value.ref b] below meth c H locs cells slots Q (F0 m 871 ls []) := by
  have hx := C.1.1
  have hb := C.1.2.1
  have vin : ∀ j : Nat, j < 7 → vp_in (nI (7 * cnt) + nI j) L := fun j hj => by rw [nI_add]; exact vp_in_nI (by omega) (by omega)
  refine lv_aload_n hx hb dL_law_871 rfl (lv_at hl 1 rfl) ?_
  have hq := m_call hI  (Z := fun v w M2 => v = w ∧ Inv g M2 (cnt + 1)) (fun v M' h => ⟨rfl, h⟩)
  refine r_callV (T := TX11) (N := 11) (ci := 11) (index := 121) (n := 0) (d2 := 1) (mc := 0) (ms := 0) (As := []) (rest := []) C hw (ct_X11_call hq) kvL_121 hq.1 (by decide) rfl ⟨by decide, by decide⟩ ⟨by show cells + 0 ≤ 601024; omega, by show slots + 0 ≤ 7293034; omega⟩ rfl hl.1 rfl (Nat.le_of_ble_eq_true rfl) dL_law_872 (fun r M1 H locs hp hle hw => ?_)
  obtain ⟨v1, rfl, hq⟩ := hp
  refine W.eq (g2 := F0 m 875 ls [.int v1]) rfl ?_
  refine lv_aload_n hx hb dL_law_875 rfl (lv_at hl 2 rfl) ?_
  refine r_callV (T := TX12) (N := 67) (ci := 12) (index := 124) (n := 0) (d2 := 0) (mc := 0) (ms := 0) (As := []) (rest := [.int v1]) C hw (ct_X12_call hq) kvL_124 hq.1 (by decide) rfl ⟨by decide, by decide⟩ ⟨by show (cells + 0) + 0 ≤ 601024; omega, by show (slots + 0) + 0 ≤ 7293034; omega⟩ rfl hl.1 rfl (Nat.le_of_ble_eq_true rfl) dL_law_876 (fun r M2 H locs hp hle hw => ?_)
  obtain ⟨v2, rfl, hq⟩ := hp
  refine W.eq (g2 := F0 m 879 ls [.int v2, .int v1]) rfl ?_
  refine lv_icmp_eq (tgt := 946) hx hb dL_law_879 (by decide) (fun _ => ?_) (fun hn => absurd hq.1 hn)
  exact nxt _ _ _ _ _ _ hq.2 hw hl (by omega) (by omega)
set_option maxHeartbeats 4000000 in
set_option maxRecDepth 100000 in
theorem lc_21 {p : Program} {l : Launch} {e : Env} {s : State} {m : MethodId} {below : List Frame} {meth : Method} {c : Code} {H : Heap} {locs : List Loc} {cells slots : Nat} {Q : State → Prop} {ls : Array Slot} {M0 M : Mem} {g : Gh} {b L cnt : Nat} {xs : Nat → Int32} (hst : l.stackTraces = false) (C : Cx g p s m #[Value.ref b] c cL_law 7 RL) (hZ : ZX g s s.heap) (hNc : va_Nc "java/lang/IllegalStateException" "java/lang/IllegalArgumentException" s) (hX : va_X b L xs s s.heap) (hbl : b < s.heap.size) (hbA : ¬ gA g b) (hi : 7 * cnt + 7 ≤ L) (hL : L ≤ 3584) (hI : Inv g M cnt) (hcc : cnt ≤ 512) (hw : Wd g s M0 M H locs) (hl : lv_has ls 7 [(0, .ref b), (1, .ref (gB g)), (2, .ref (gB g + 195)), (3, .ref (gB g + 233)), (4, .int (nI (7 * cnt)))]) (hce : cells + 5 ≤ 601024) (hsl : slots + 609 ≤ 7293034) (nxt : ∀ (M' : Mem) (H' : Heap) (locs' : List Loc) (ls' : Array Slot) (k n : Nat), Inv g M' (cnt + 1) → Wd g s M0 M' H' locs' → lv_has ls' 7 [(0, .ref b), (1, .ref (gB g)), (2, .ref (gB g + 195)), (3, .ref (gB g + 233)), (4, .int (nI (7 * cnt)))] → k ≤ cells + 5 → n ≤ slots + 609 → W p l e room_1 s m #[Value.ref b] below meth c H' locs' k n Q (F0 m 946 ls' [])) : W p l e room_1 s m #[Value.ref b] below meth c H locs cells slots Q (F0 m 884 ls []) := by
  have hx := C.1.1
  have hb := C.1.2.1
  have vin : ∀ j : Nat, j < 7 → vp_in (nI (7 * cnt) + nI j) L := fun j hj => by rw [nI_add]; exact vp_in_nI (by omega) (by omega)
  refine lv_aload_n hx hb dL_law_884 rfl (lv_at hl 1 rfl) ?_
  refine lv_aload_n hx hb dL_law_885 rfl (lv_at hl 0 rfl) ?_
  refine lv_iload hx hb dL_law_886 (lv_at hl 4 rfl) ?_
  refine lv_iconst (v := 1) hx hb dL_law_888 (by decide) ?_
  refine lv_iadd hx hb dL_law_889 ?_
  refine va_sld hx hb hX hbl hbA hw.2.2.2 (vin 1 (by decide)) dL_law_890 ?_
  refine lv_aload_n hx hb dL_law_891 rfl (lv_at hl 0 rfl) ?_
  refine lv_iload hx hb dL_law_892 (lv_at hl 4 rfl) ?_
  refine lv_iconst (v := 2) hx hb dL_law_894 (by decide) ?_
  refine lv_iadd hx hb dL_law_895 ?_
  refine va_sld hx hb hX hbl hbA hw.2.2.2 (vin 2 (by decide)) dL_law_896 ?_
  have hq := m_table hI (xs (Int32.toNatClampNeg (nI (7 * cnt) + 1))) (xs (Int32.toNatClampNeg (nI (7 * cnt) + 2))) (Z := fun v w M2 => v = w ∧ Inv g M2 (cnt + 1)) (fun v M' h => ⟨rfl, h⟩)
  refine r_callV (T := TX11) (N := 11) (ci := 11) (index := 125) (n := 2) (d2 := 4) (mc := 0) (ms := 0) (As := [.int (xs (Int32.toNatClampNeg (nI (7 * cnt) + 1))), .int (xs (Int32.toNatClampNeg (nI (7 * cnt) + 2)))]) (rest := []) C hw (ct_X11_table hq) kvL_125 hq.1 (by decide) rfl ⟨by decide, by decide⟩ ⟨by show cells + 0 ≤ 601024; omega, by show slots + 0 ≤ 7293034; omega⟩ rfl hl.1 rfl (Nat.le_of_ble_eq_true rfl) dL_law_897 (fun r M1 H locs hp hle hw => ?_)
  obtain ⟨v1, rfl, hq⟩ := hp
  refine W.eq (g2 := F0 m 900 ls [.int v1]) rfl ?_
  refine lv_aload_n hx hb dL_law_900 rfl (lv_at hl 2 rfl) ?_
  refine lv_aload_n hx hb dL_law_901 rfl (lv_at hl 0 rfl) ?_
  refine lv_iload hx hb dL_law_902 (lv_at hl 4 rfl) ?_
  refine lv_iconst (v := 1) hx hb dL_law_904 (by decide) ?_
  refine lv_iadd hx hb dL_law_905 ?_
  refine va_sld hx hb hX hbl hbA hw.2.2.2 (vin 1 (by decide)) dL_law_906 ?_
  refine lv_aload_n hx hb dL_law_907 rfl (lv_at hl 0 rfl) ?_
  refine lv_iload hx hb dL_law_908 (lv_at hl 4 rfl) ?_
  refine lv_iconst (v := 2) hx hb dL_law_910 (by decide) ?_
  refine lv_iadd hx hb dL_law_911 ?_
  refine va_sld hx hb hX hbl hbA hw.2.2.2 (vin 2 (by decide)) dL_law_912 ?_
  refine r_callV (T := TX12) (N := 67) (ci := 12) (index := 128) (n := 2) (d2 := 1) (mc := 0) (ms := 0) (As := [.int (xs (Int32.toNatClampNeg (nI (7 * cnt) + 1))), .int (xs (Int32.toNatClampNeg (nI (7 * cnt) + 2)))]) (rest := [.int v1]) C hw (ct_X12_table hq) kvL_128 hq.1 (by decide) rfl ⟨by decide, by decide⟩ ⟨by show (cells + 0) + 0 ≤ 601024; omega, by show (slots + 0) + 0 ≤ 7293034; omega⟩ rfl hl.1 rfl (Nat.le_of_ble_eq_true rfl) dL_law_913 (fun r M2 H locs hp hle hw => ?_)
  obtain ⟨v2, rfl, hq⟩ := hp
  refine W.eq (g2 := F0 m 916 ls [.int v2, .int v1]) rfl ?_
  refine lv_icmp_eq (tgt := 946) hx hb dL_law_916 (by decide) (fun _ => ?_) (fun hn => absurd hq.1 hn)
  exact nxt _ _ _ _ _ _ hq.2 hw hl (by omega) (by omega)
set_option maxHeartbeats 4000000 in
set_option maxRecDepth 100000 in
theorem lc_22 {p : Program} {l : Launch} {e : Env} {s : State} {m : MethodId} {below : List Frame} {meth : Method} {c : Code} {H : Heap} {locs : List Loc} {cells slots : Nat} {Q : State → Prop} {ls : Array Slot} {M0 M : Mem} {g : Gh} {b L cnt : Nat} {xs : Nat → Int32} (hst : l.stackTraces = false) (C : Cx g p s m #[Value.ref b] c cL_law 7 RL) (hZ : ZX g s s.heap) (hNc : va_Nc "java/lang/IllegalStateException" "java/lang/IllegalArgumentException" s) (hX : va_X b L xs s s.heap) (hbl : b < s.heap.size) (hbA : ¬ gA g b) (hi : 7 * cnt + 7 ≤ L) (hL : L ≤ 3584) (hI : Inv g M cnt) (hcc : cnt ≤ 512) (hw : Wd g s M0 M H locs) (hl : lv_has ls 7 [(0, .ref b), (1, .ref (gB g)), (2, .ref (gB g + 195)), (3, .ref (gB g + 233)), (4, .int (nI (7 * cnt)))]) (hce : cells + 5 ≤ 601024) (hsl : slots + 609 ≤ 7293034) (nxt : ∀ (M' : Mem) (H' : Heap) (locs' : List Loc) (ls' : Array Slot) (k n : Nat), Inv g M' (cnt + 1) → Wd g s M0 M' H' locs' → lv_has ls' 7 [(0, .ref b), (1, .ref (gB g)), (2, .ref (gB g + 195)), (3, .ref (gB g + 233)), (4, .int (nI (7 * cnt)))] → k ≤ cells + 5 → n ≤ slots + 609 → W p l e room_1 s m #[Value.ref b] below meth c H' locs' k n Q (F0 m 946 ls' [])) : W p l e room_1 s m #[Value.ref b] below meth c H locs cells slots Q (F0 m 921 ls []) := by
  have hx := C.1.1
  have hb := C.1.2.1
  have vin : ∀ j : Nat, j < 7 → vp_in (nI (7 * cnt) + nI j) L := fun j hj => by rw [nI_add]; exact vp_in_nI (by omega) (by omega)
  refine lv_aload_n hx hb dL_law_921 rfl (lv_at hl 1 rfl) ?_
  refine lv_aload_n hx hb dL_law_922 rfl (lv_at hl 0 rfl) ?_
  refine lv_iload hx hb dL_law_923 (lv_at hl 4 rfl) ?_
  refine lv_iconst (v := 1) hx hb dL_law_925 (by decide) ?_
  refine lv_iadd hx hb dL_law_926 ?_
  refine va_sld hx hb hX hbl hbA hw.2.2.2 (vin 1 (by decide)) dL_law_927 ?_
  have hq := m_count hI (xs (Int32.toNatClampNeg (nI (7 * cnt) + 1))) (Z := fun v w M2 => v = w ∧ Inv g M2 (cnt + 1)) (fun v M' h => ⟨rfl, h⟩)
  refine r_callV (T := TX11) (N := 11) (ci := 11) (index := 129) (n := 1) (d2 := 0) (mc := 0) (ms := 0) (As := [.int (xs (Int32.toNatClampNeg (nI (7 * cnt) + 1)))]) (rest := []) C hw (ct_X11_count hq) kvL_129 hq.1 (by decide) rfl ⟨by decide, by decide⟩ ⟨by show cells + 0 ≤ 601024; omega, by show slots + 0 ≤ 7293034; omega⟩ rfl hl.1 rfl (Nat.le_of_ble_eq_true rfl) dL_law_928 (fun r M1 H locs hp hle hw => ?_)
  obtain ⟨v1, rfl, hq⟩ := hp
  refine W.eq (g2 := F0 m 931 ls [.int v1]) rfl ?_
  refine lv_aload_n hx hb dL_law_931 rfl (lv_at hl 2 rfl) ?_
  refine lv_aload_n hx hb dL_law_932 rfl (lv_at hl 0 rfl) ?_
  refine lv_iload hx hb dL_law_933 (lv_at hl 4 rfl) ?_
  refine lv_iconst (v := 1) hx hb dL_law_935 (by decide) ?_
  refine lv_iadd hx hb dL_law_936 ?_
  refine va_sld hx hb hX hbl hbA hw.2.2.2 (vin 1 (by decide)) dL_law_937 ?_
  refine r_callV (T := TX12) (N := 67) (ci := 12) (index := 132) (n := 1) (d2 := 0) (mc := 0) (ms := 0) (As := [.int (xs (Int32.toNatClampNeg (nI (7 * cnt) + 1)))]) (rest := [.int v1]) C hw (ct_X12_count hq) kvL_132 hq.1 (by decide) rfl ⟨by decide, by decide⟩ ⟨by show (cells + 0) + 0 ≤ 601024; omega, by show (slots + 0) + 0 ≤ 7293034; omega⟩ rfl hl.1 rfl (Nat.le_of_ble_eq_true rfl) dL_law_938 (fun r M2 H locs hp hle hw => ?_)
  obtain ⟨v2, rfl, hq⟩ := hp
  refine W.eq (g2 := F0 m 941 ls [.int v2, .int v1]) rfl ?_
  refine lv_icmp_eq (tgt := 946) hx hb dL_law_941 (by decide) (fun _ => ?_) (fun hn => absurd hq.1 hn)
  exact nxt _ _ _ _ _ _ hq.2 hw hl (by omega) (by omega)
