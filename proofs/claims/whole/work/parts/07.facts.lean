set_option maxRecDepth 100000 in
theorem si_X0_26 : Cond.methodLink RX0 26 yX8_exists ∈ am_T := am_mem 432 (by decide +kernel) (by decide +kernel)
set_option maxRecDepth 100000 in
theorem si_X0_32 : ((RX0, 32, yX9_isFunction, "JobLoop") : String × Nat × MethodName × String) ∈ am_nest := List.mem_of_getElem? (i := 8) (by decide +kernel)
set_option maxRecDepth 100000 in
theorem si_X0_36 : ((RX0, 36, yX9_isWithin, "JobLoop") : String × Nat × MethodName × String) ∈ am_nest := List.mem_of_getElem? (i := 9) (by decide +kernel)
set_option maxRecDepth 100000 in
theorem si_X0_40 : Cond.methodLink RX0 40 yX4_at ∈ am_T := am_mem 439 (by decide +kernel) (by decide +kernel)
set_option maxRecDepth 100000 in
theorem si_X0_44 : Cond.methodLink RX0 44 yX4_put ∈ am_T := am_mem 444 (by decide +kernel) (by decide +kernel)
set_option maxRecDepth 100000 in
theorem si_X0_48 : Cond.methodLink RX0 48 yX4_valueAt ∈ am_T := am_mem 487 (by decide +kernel) (by decide +kernel)
set_option maxRecDepth 100000 in
theorem si_X0_52 : Cond.methodLink RX0 52 yX0_kindOf ∈ am_T := am_mem 551 (by decide +kernel) (by decide +kernel)
set_option maxRecDepth 100000 in
theorem si_X1_37 : Cond.methodLink RX1 37 yX4_put ∈ am_T := am_mem 574 (by decide +kernel) (by decide +kernel)
set_option maxRecDepth 100000 in
theorem si_X1_41 : Cond.methodLink RX1 41 yX3_made ∈ am_T := am_mem 583 (by decide +kernel) (by decide +kernel)
set_option maxRecDepth 100000 in
theorem si_X1_47 : Cond.methodLink RX1 47 yX4_valueAt ∈ am_T := am_mem 584 (by decide +kernel) (by decide +kernel)
set_option maxRecDepth 100000 in
theorem si_X1_51 : Cond.methodLink RX1 51 yX8_sortOf ∈ am_T := am_mem 585 (by decide +kernel) (by decide +kernel)
set_option maxRecDepth 100000 in
theorem si_X1_57 : Cond.methodLink RX1 57 yX3_make ∈ am_T := am_mem 590 (by decide +kernel) (by decide +kernel)
set_option maxRecDepth 100000 in
theorem si_X1_60 : Cond.methodLink RX1 60 yX3_promiseFor ∈ am_T := am_mem 591 (by decide +kernel) (by decide +kernel)
set_option maxRecDepth 100000 in
theorem si_X1_63 : ((RX1, 63, yX9_jobOf, "JobLoop") : String × Nat × MethodName × String) ∈ am_nest := List.mem_of_getElem? (i := 10) (by decide +kernel)
set_option maxRecDepth 100000 in
theorem si_X1_67 : Cond.methodLink RX1 67 yX3_waitFor ∈ am_T := am_mem 593 (by decide +kernel) (by decide +kernel)
set_option maxRecDepth 100000 in
theorem si_X1_71 : Cond.methodLink RX1 71 yX1_settleIfComplete ∈ am_T := am_mem 594 (by decide +kernel) (by decide +kernel)
set_option maxRecDepth 100000 in
theorem si_X1_74 : Cond.methodLink RX1 74 yX4_at ∈ am_T := am_mem 598 (by decide +kernel) (by decide +kernel)
set_option maxRecDepth 100000 in
theorem si_X1_78 : Cond.methodLink RX1 78 yX8_numberOf ∈ am_T := am_mem 689 (by decide +kernel) (by decide +kernel)
set_option maxRecDepth 100000 in
theorem si_X1_81 : Cond.methodLink RX1 81 yX3_settleBy ∈ am_T := am_mem 600 (by decide +kernel) (by decide +kernel)
set_option maxRecDepth 100000 in
theorem si_X1_85 : Cond.methodLink RX1 85 yX8_of ∈ am_T := am_mem 599 (by decide +kernel) (by decide +kernel)
set_option maxRecDepth 100000 in
theorem si_X2_30 : Cond.methodLink RX2 30 Lib.Math.min.name ∈ am_T := am_mem 768 (by decide +kernel) (by decide +kernel)
set_option maxRecDepth 100000 in
theorem si_X2_36 : Cond.methodLink RX2 36 yX4_put ∈ am_T := am_mem 511 (by decide +kernel) (by decide +kernel)
set_option maxRecDepth 100000 in
theorem si_X2_40 : Cond.methodLink RX2 40 yX4_valueAt ∈ am_T := am_mem 776 (by decide +kernel) (by decide +kernel)
set_option maxRecDepth 100000 in
theorem si_X2_44 : Cond.methodLink RX2 44 yX4_at ∈ am_T := am_mem 781 (by decide +kernel) (by decide +kernel)
set_option maxRecDepth 100000 in
theorem si_X3_63 : ((RX3, 63, yX9_isWithin, "JobLoop") : String × Nat × MethodName × String) ∈ am_nest := List.mem_of_getElem? (i := 4) (by decide +kernel)
set_option maxRecDepth 100000 in
theorem si_X3_67 : Cond.methodLink RX3 67 yX4_at ∈ am_T := am_mem 371 (by decide +kernel) (by decide +kernel)
set_option maxRecDepth 100000 in
theorem si_X3_71 : Cond.methodLink RX3 71 yX4_valueAt ∈ am_T := am_mem 637 (by decide +kernel) (by decide +kernel)
set_option maxRecDepth 100000 in
theorem si_X3_75 : Cond.methodLink RX3 75 yX3_isLoose ∈ am_T := am_mem 802 (by decide +kernel) (by decide +kernel)
set_option maxRecDepth 100000 in
theorem si_X3_79 : Cond.methodLink RX3 79 yX4_put ∈ am_T := am_mem 331 (by decide +kernel) (by decide +kernel)
set_option maxRecDepth 100000 in
theorem si_X3_83 : Cond.methodLink RX3 83 yX8_sortOf ∈ am_T := am_mem 380 (by decide +kernel) (by decide +kernel)
set_option maxRecDepth 100000 in
theorem si_X3_89 : Cond.methodLink RX3 89 yX8_numberOf ∈ am_T := am_mem 540 (by decide +kernel) (by decide +kernel)
set_option maxRecDepth 100000 in
theorem si_X3_92 : Cond.methodLink RX3 92 yX3_make ∈ am_T := am_mem 541 (by decide +kernel) (by decide +kernel)
set_option maxRecDepth 100000 in
theorem si_X3_96 : Cond.methodLink RX3 96 yX3_settleBy ∈ am_T := am_mem 542 (by decide +kernel) (by decide +kernel)
set_option maxRecDepth 100000 in
theorem si_X3_100 : Cond.methodLink RX3 100 yX3_has ∈ am_T := am_mem 370 (by decide +kernel) (by decide +kernel)
set_option maxRecDepth 100000 in
theorem si_X3_103 : Cond.methodLink RX3 103 yX3_isKeyUsed ∈ am_T := am_mem 375 (by decide +kernel) (by decide +kernel)
set_option maxRecDepth 100000 in
theorem si_X3_106 : Cond.methodLink RX3 106 yX8_of ∈ am_T := am_mem 379 (by decide +kernel) (by decide +kernel)
set_option maxRecDepth 100000 in
theorem si_X3_110 : ((RX3, 110, yX9_jobOf, "JobLoop") : String × Nat × MethodName × String) ∈ am_nest := List.mem_of_getElem? (i := 6) (by decide +kernel)
set_option maxRecDepth 100000 in
theorem si_X3_114 : Cond.methodLink RX3 114 yX3_lineUp ∈ am_T := am_mem 386 (by decide +kernel) (by decide +kernel)
set_option maxRecDepth 100000 in
theorem si_X5_64 : Cond.methodLink RX5 64 yX4_fill ∈ am_T := am_mem 742 (by decide +kernel) (by decide +kernel)
set_option maxRecDepth 100000 in
theorem si_X5_68 : Cond.methodLink RX5 68 yX4_at ∈ am_T := am_mem 470 (by decide +kernel) (by decide +kernel)
set_option maxRecDepth 100000 in
theorem si_X5_72 : Cond.methodLink RX5 72 yX3_make ∈ am_T := am_mem 409 (by decide +kernel) (by decide +kernel)
set_option maxRecDepth 100000 in
theorem si_X5_78 : Cond.methodLink RX5 78 yX4_put ∈ am_T := am_mem 410 (by decide +kernel) (by decide +kernel)
set_option maxRecDepth 100000 in
theorem si_X5_82 : ((RX5, 82, yX9_jobOf, "JobLoop") : String × Nat × MethodName × String) ∈ am_nest := List.mem_of_getElem? (i := 7) (by decide +kernel)
set_option maxRecDepth 100000 in
theorem si_X5_86 : Cond.methodLink RX5 86 yX3_waitFor ∈ am_T := am_mem 412 (by decide +kernel) (by decide +kernel)
set_option maxRecDepth 100000 in
theorem si_X5_90 : Cond.methodLink RX5 90 yX3_settleBy ∈ am_T := am_mem 513 (by decide +kernel) (by decide +kernel)
set_option maxRecDepth 100000 in
theorem si_X5_94 : Cond.methodLink RX5 94 yX5_perform ∈ am_T := am_mem 676 (by decide +kernel) (by decide +kernel)
set_option maxRecDepth 100000 in
theorem si_X5_98 : Cond.methodLink RX5 98 yX5_enter ∈ am_T := am_mem 461 (by decide +kernel) (by decide +kernel)
set_option maxRecDepth 100000 in
theorem si_X5_104 : Cond.methodLink RX5 104 yX5_leaveTry ∈ am_T := am_mem 543 (by decide +kernel) (by decide +kernel)
set_option maxRecDepth 100000 in
theorem si_X5_108 : Cond.methodLink RX5 108 yX5_end ∈ am_T := am_mem 552 (by decide +kernel) (by decide +kernel)
set_option maxRecDepth 100000 in
theorem si_X5_112 : Cond.methodLink RX5 112 yX0_sizeOf ∈ am_T := am_mem 471 (by decide +kernel) (by decide +kernel)
set_option maxRecDepth 100000 in
theorem si_X5_117 : Cond.methodLink RX5 117 yX5_doStep ∈ am_T := am_mem 475 (by decide +kernel) (by decide +kernel)
set_option maxRecDepth 100000 in
theorem si_X5_120 : Cond.methodLink RX5 120 yX5_giveZero ∈ am_T := am_mem 528 (by decide +kernel) (by decide +kernel)
set_option maxRecDepth 100000 in
theorem si_X5_123 : Cond.methodLink RX5 123 yX5_stop ∈ am_T := am_mem 532 (by decide +kernel) (by decide +kernel)
set_option maxRecDepth 100000 in
theorem si_X5_126 : Cond.methodLink RX5 126 yX0_kindOf ∈ am_T := am_mem 479 (by decide +kernel) (by decide +kernel)
set_option maxRecDepth 100000 in
theorem si_X5_129 : Cond.methodLink RX5 129 yX0_valueOf ∈ am_T := am_mem 483 (by decide +kernel) (by decide +kernel)
set_option maxRecDepth 100000 in
theorem si_X5_133 : Cond.methodLink RX5 133 yX8_numberOf ∈ am_T := am_mem 491 (by decide +kernel) (by decide +kernel)
set_option maxRecDepth 100000 in
theorem si_X5_139 : Cond.methodLink RX5 139 yX4_valueAt ∈ am_T := am_mem 494 (by decide +kernel) (by decide +kernel)
set_option maxRecDepth 100000 in
theorem si_X5_143 : Cond.methodLink RX5 143 yX5_faultOf ∈ am_T := am_mem 495 (by decide +kernel) (by decide +kernel)
set_option maxRecDepth 100000 in
theorem si_X5_147 : Cond.methodLink RX5 147 yX8_of ∈ am_T := am_mem 506 (by decide +kernel) (by decide +kernel)
set_option maxRecDepth 100000 in
theorem si_X5_150 : Cond.methodLink RX5 150 yX2_add ∈ am_T := am_mem 507 (by decide +kernel) (by decide +kernel)
set_option maxRecDepth 100000 in
theorem si_X5_155 : Cond.methodLink RX5 155 yX5_begin ∈ am_T := am_mem 512 (by decide +kernel) (by decide +kernel)
set_option maxRecDepth 100000 in
theorem si_X5_159 : Cond.methodLink RX5 159 yX5_addHandlers ∈ am_T := am_mem 514 (by decide +kernel) (by decide +kernel)
set_option maxRecDepth 100000 in
theorem si_X5_163 : Cond.methodLink RX5 163 yX6_add ∈ am_T := am_mem 515 (by decide +kernel) (by decide +kernel)
set_option maxRecDepth 100000 in
theorem si_X5_168 : Cond.methodLink RX5 168 yX5_jumpIfZero ∈ am_T := am_mem 520 (by decide +kernel) (by decide +kernel)
set_option maxRecDepth 100000 in
theorem si_X5_171 : Cond.methodLink RX5 171 yX5_jumpIfAbove ∈ am_T := am_mem 524 (by decide +kernel) (by decide +kernel)
set_option maxRecDepth 100000 in
theorem si_X5_174 : Cond.methodLink RX5 174 yX8_sortOf ∈ am_T := am_mem 499 (by decide +kernel) (by decide +kernel)
set_option maxRecDepth 100000 in
theorem si_X5_177 : Cond.methodLink RX5 177 yX3_has ∈ am_T := am_mem 500 (by decide +kernel) (by decide +kernel)
set_option maxRecDepth 100000 in
theorem si_X5_181 : Cond.methodLink RX5 181 yX3_isFull ∈ am_T := am_mem 501 (by decide +kernel) (by decide +kernel)
set_option maxRecDepth 100000 in
theorem si_X5_185 : Cond.methodLink RX5 185 yX6_isFull ∈ am_T := am_mem 502 (by decide +kernel) (by decide +kernel)
set_option maxRecDepth 100000 in
theorem si_X5_186 : Cond.methodLink RX5 186 yX0_behindTry ∈ am_T := am_mem 547 (by decide +kernel) (by decide +kernel)
set_option maxRecDepth 100000 in
theorem si_X5_189 : Cond.methodLink RX5 189 yX3_promiseFor ∈ am_T := am_mem 536 (by decide +kernel) (by decide +kernel)
set_option maxRecDepth 100000 in
theorem si_X6_33 : Cond.methodLink RX6 33 yX4_put ∈ am_T := am_mem 519 (by decide +kernel) (by decide +kernel)
set_option maxRecDepth 100000 in
theorem si_X6_37 : Cond.methodLink RX6 37 yX4_at ∈ am_T := am_mem 695 (by decide +kernel) (by decide +kernel)
set_option maxRecDepth 100000 in
theorem si_X6_41 : Cond.methodLink RX6 41 yX4_valueAt ∈ am_T := am_mem 708 (by decide +kernel) (by decide +kernel)
set_option maxRecDepth 100000 in
theorem si_X6_45 : Cond.methodLink RX6 45 Lib.Math.max.name ∈ am_T := am_mem 714 (by decide +kernel) (by decide +kernel)
set_option maxRecDepth 100000 in
theorem si_X7_31 : Cond.methodLink RX7 31 yX4_fill ∈ am_T := am_mem 142 (by decide +kernel) (by decide +kernel)
set_option maxRecDepth 100000 in
theorem si_X7_35 : Cond.methodLink RX7 35 yX4_put ∈ am_T := am_mem 424 (by decide +kernel) (by decide +kernel)
set_option maxRecDepth 100000 in
theorem si_X7_39 : Cond.methodLink RX7 39 yX4_at ∈ am_T := am_mem 658 (by decide +kernel) (by decide +kernel)
set_option maxRecDepth 100000 in
theorem si_X7_43 : Cond.methodLink RX7 43 yX4_valueAt ∈ am_T := am_mem 663 (by decide +kernel) (by decide +kernel)
set_option maxRecDepth 100000 in
theorem si_X8_11 : ((RX8, 11, yX9_isWithin, "JobLoop") : String × Nat × MethodName × String) ∈ am_nest := List.mem_of_getElem? (i := 5) (by decide +kernel)
set_option maxRecDepth 100000 in
theorem si_X9_62 : Cond.methodLink RX9 62 yX3_isFull ∈ am_T := am_mem 323 (by decide +kernel) (by decide +kernel)
set_option maxRecDepth 100000 in
theorem si_X9_66 : Cond.methodLink RX9 66 yX3_make ∈ am_T := am_mem 327 (by decide +kernel) (by decide +kernel)
set_option maxRecDepth 100000 in
theorem si_X9_70 : Cond.methodLink RX9 70 yX9_settleFromOutside ∈ am_T := am_mem 339 (by decide +kernel) (by decide +kernel)
set_option maxRecDepth 100000 in
theorem si_X9_74 : Cond.methodLink RX9 74 yX3_has ∈ am_T := am_mem 343 (by decide +kernel) (by decide +kernel)
set_option maxRecDepth 100000 in
theorem si_X9_78 : Cond.methodLink RX9 78 yX9_isValue ∈ am_T := am_mem 350 (by decide +kernel) (by decide +kernel)
set_option maxRecDepth 100000 in
theorem si_X9_82 : Cond.methodLink RX9 82 yX8_of ∈ am_T := am_mem 362 (by decide +kernel) (by decide +kernel)
set_option maxRecDepth 100000 in
theorem si_X9_88 : Cond.methodLink RX9 88 yX3_settleBy ∈ am_T := am_mem 366 (by decide +kernel) (by decide +kernel)
set_option maxRecDepth 100000 in
theorem si_X9_92 : Cond.methodLink RX9 92 yX9_isHandler ∈ am_T := am_mem 398 (by decide +kernel) (by decide +kernel)
set_option maxRecDepth 100000 in
theorem si_X9_95 : Cond.methodLink RX9 95 yX5_addHandlers ∈ am_T := am_mem 405 (by decide +kernel) (by decide +kernel)
set_option maxRecDepth 100000 in
theorem si_X9_99 : Cond.methodLink RX9 99 yX9_isWithin ∈ am_T := am_mem 404 (by decide +kernel) (by decide +kernel)
set_option maxRecDepth 100000 in
theorem si_X9_102 : Cond.methodLink RX9 102 yX7_change ∈ am_T := am_mem 420 (by decide +kernel) (by decide +kernel)
set_option maxRecDepth 100000 in
theorem si_X9_106 : Cond.methodLink RX9 106 yX9_isFunction ∈ am_T := am_mem 401 (by decide +kernel) (by decide +kernel)
set_option maxRecDepth 100000 in
theorem si_X9_109 : Cond.methodLink RX9 109 yX0_mayBeStep ∈ am_T := am_mem 429 (by decide +kernel) (by decide +kernel)
set_option maxRecDepth 100000 in
theorem si_X9_113 : Cond.methodLink RX9 113 yX0_isFull ∈ am_T := am_mem 435 (by decide +kernel) (by decide +kernel)
set_option maxRecDepth 100000 in
theorem si_X9_115 : Cond.methodLink RX9 115 yX0_add ∈ am_T := am_mem 440 (by decide +kernel) (by decide +kernel)
set_option maxRecDepth 100000 in
theorem si_X9_119 : Cond.methodLink RX9 119 yX0_removeAll ∈ am_T := am_mem 449 (by decide +kernel) (by decide +kernel)
set_option maxRecDepth 100000 in
theorem si_X9_123 : Cond.methodLink RX9 123 yX5_begin ∈ am_T := am_mem 457 (by decide +kernel) (by decide +kernel)
set_option maxRecDepth 100000 in
theorem si_X9_127 : Cond.methodLink RX9 127 yX5_goOn ∈ am_T := am_mem 465 (by decide +kernel) (by decide +kernel)
set_option maxRecDepth 100000 in
theorem si_X9_130 : Cond.methodLink RX9 130 yX6_isFull ∈ am_T := am_mem 560 (by decide +kernel) (by decide +kernel)
set_option maxRecDepth 100000 in
theorem si_X9_131 : Cond.methodLink RX9 131 yX6_add ∈ am_T := am_mem 561 (by decide +kernel) (by decide +kernel)
set_option maxRecDepth 100000 in
theorem si_X9_134 : Cond.methodLink RX9 134 yX1_isFull ∈ am_T := am_mem 566 (by decide +kernel) (by decide +kernel)
set_option maxRecDepth 100000 in
theorem si_X9_135 : Cond.methodLink RX9 135 yX1_addItem ∈ am_T := am_mem 570 (by decide +kernel) (by decide +kernel)
set_option maxRecDepth 100000 in
theorem si_X9_139 : Cond.methodLink RX9 139 yX1_hasRoom ∈ am_T := am_mem 579 (by decide +kernel) (by decide +kernel)
set_option maxRecDepth 100000 in
theorem si_X9_142 : Cond.methodLink RX9 142 yX1_form ∈ am_T := am_mem 586 (by decide +kernel) (by decide +kernel)
set_option maxRecDepth 100000 in
theorem si_X9_145 : Cond.methodLink RX9 145 yX3_jobs ∈ am_T := am_mem 605 (by decide +kernel) (by decide +kernel)
set_option maxRecDepth 100000 in
theorem si_X9_148 : Cond.methodLink RX9 148 yX6_size ∈ am_T := am_mem 609 (by decide +kernel) (by decide +kernel)
set_option maxRecDepth 100000 in
theorem si_X9_151 : Cond.methodLink RX9 151 yX2_beginTurn ∈ am_T := am_mem 613 (by decide +kernel) (by decide +kernel)
set_option maxRecDepth 100000 in
theorem si_X9_154 : Cond.methodLink RX9 154 yX3_takeJob ∈ am_T := am_mem 617 (by decide +kernel) (by decide +kernel)
set_option maxRecDepth 100000 in
theorem si_X9_157 : Cond.methodLink RX9 157 yX9_doJob ∈ am_T := am_mem 621 (by decide +kernel) (by decide +kernel)
set_option maxRecDepth 100000 in
theorem si_X9_161 : Cond.methodLink RX9 161 yX6_dueFirst ∈ am_T := am_mem 691 (by decide +kernel) (by decide +kernel)
set_option maxRecDepth 100000 in
theorem si_X9_164 : Cond.methodLink RX9 164 yX9_doTask ∈ am_T := am_mem 696 (by decide +kernel) (by decide +kernel)
set_option maxRecDepth 100000 in
theorem si_X9_167 : Cond.methodLink RX9 167 yX3_made ∈ am_T := am_mem 354 (by decide +kernel) (by decide +kernel)
set_option maxRecDepth 100000 in
theorem si_X9_170 : Cond.methodLink RX9 170 yX3_clear ∈ am_T := am_mem 721 (by decide +kernel) (by decide +kernel)
set_option maxRecDepth 100000 in
theorem si_X9_173 : Cond.methodLink RX9 173 yX7_clear ∈ am_T := am_mem 725 (by decide +kernel) (by decide +kernel)
set_option maxRecDepth 100000 in
theorem si_X9_174 : Cond.methodLink RX9 174 yX6_clear ∈ am_T := am_mem 726 (by decide +kernel) (by decide +kernel)
set_option maxRecDepth 100000 in
theorem si_X9_175 : Cond.methodLink RX9 175 yX2_clear ∈ am_T := am_mem 730 (by decide +kernel) (by decide +kernel)
set_option maxRecDepth 100000 in
theorem si_X9_176 : Cond.methodLink RX9 176 yX1_clear ∈ am_T := am_mem 734 (by decide +kernel) (by decide +kernel)
set_option maxRecDepth 100000 in
theorem si_X9_177 : Cond.methodLink RX9 177 yX5_clear ∈ am_T := am_mem 738 (by decide +kernel) (by decide +kernel)
set_option maxRecDepth 100000 in
theorem si_X9_178 : Cond.methodLink RX9 178 yX3_statusOf ∈ am_T := am_mem 629 (by decide +kernel) (by decide +kernel)
set_option maxRecDepth 100000 in
theorem si_X9_181 : Cond.methodLink RX9 181 yX3_valueOf ∈ am_T := am_mem 633 (by decide +kernel) (by decide +kernel)
set_option maxRecDepth 100000 in
theorem si_X9_185 : Cond.methodLink RX9 185 yX8_sortOf ∈ am_T := am_mem 651 (by decide +kernel) (by decide +kernel)
set_option maxRecDepth 100000 in
theorem si_X9_188 : Cond.methodLink RX9 188 yX8_numberOf ∈ am_T := am_mem 650 (by decide +kernel) (by decide +kernel)
set_option maxRecDepth 100000 in
theorem si_X9_191 : Cond.methodLink RX9 191 yX3_isLoose ∈ am_T := am_mem 747 (by decide +kernel) (by decide +kernel)
set_option maxRecDepth 100000 in
theorem si_X9_194 : Cond.methodLink RX9 194 yX3_reactionsOf ∈ am_T := am_mem 751 (by decide +kernel) (by decide +kernel)
set_option maxRecDepth 100000 in
theorem si_X9_197 : Cond.methodLink RX9 197 yX3_lastKeyOf ∈ am_T := am_mem 668 (by decide +kernel) (by decide +kernel)
set_option maxRecDepth 100000 in
theorem si_X9_200 : Cond.methodLink RX9 200 yX3_isKeyUsed ∈ am_T := am_mem 755 (by decide +kernel) (by decide +kernel)
set_option maxRecDepth 100000 in
theorem si_X9_203 : Cond.methodLink RX9 203 yX5_isStopped ∈ am_T := am_mem 756 (by decide +kernel) (by decide +kernel)
set_option maxRecDepth 100000 in
theorem si_X9_206 : Cond.methodLink RX9 206 yX2_kept ∈ am_T := am_mem 764 (by decide +kernel) (by decide +kernel)
set_option maxRecDepth 100000 in
theorem si_X9_211 : Cond.methodLink RX9 211 yX2_valueOf ∈ am_T := am_mem 772 (by decide +kernel) (by decide +kernel)
set_option maxRecDepth 100000 in
theorem si_X9_212 : Cond.methodLink RX9 212 yX2_turnOf ∈ am_T := am_mem 777 (by decide +kernel) (by decide +kernel)
set_option maxRecDepth 100000 in
theorem si_X9_215 : Cond.methodLink RX9 215 yX2_turns ∈ am_T := am_mem 786 (by decide +kernel) (by decide +kernel)
set_option maxRecDepth 100000 in
theorem si_X9_218 : Cond.methodLink RX9 218 yX6_time ∈ am_T := am_mem 790 (by decide +kernel) (by decide +kernel)
set_option maxRecDepth 100000 in
theorem si_X9_221 : Cond.methodLink RX9 221 yX2_total ∈ am_T := am_mem 794 (by decide +kernel) (by decide +kernel)
set_option maxRecDepth 100000 in
theorem si_X9_224 : Cond.methodLink RX9 224 yX3_loose ∈ am_T := am_mem 798 (by decide +kernel) (by decide +kernel)
set_option maxRecDepth 100000 in
theorem si_X9_227 : Cond.methodLink RX9 227 yX1_items ∈ am_T := am_mem 803 (by decide +kernel) (by decide +kernel)
set_option maxRecDepth 100000 in
theorem si_X9_230 : Cond.methodLink RX9 230 yX3_sourceOf ∈ am_T := am_mem 625 (by decide +kernel) (by decide +kernel)
set_option maxRecDepth 100000 in
theorem si_X9_233 : Cond.methodLink RX9 233 yX3_toAdopt ∈ am_T := am_mem 638 (by decide +kernel) (by decide +kernel)
set_option maxRecDepth 100000 in
theorem si_X9_236 : Cond.methodLink RX9 236 yX3_addKey ∈ am_T := am_mem 642 (by decide +kernel) (by decide +kernel)
set_option maxRecDepth 100000 in
theorem si_X9_239 : Cond.methodLink RX9 239 yX9_adopt ∈ am_T := am_mem 646 (by decide +kernel) (by decide +kernel)
set_option maxRecDepth 100000 in
theorem si_X9_243 : Cond.methodLink RX9 243 yX5_handle ∈ am_T := am_mem 672 (by decide +kernel) (by decide +kernel)
set_option maxRecDepth 100000 in
theorem si_X9_247 : Cond.methodLink RX9 247 yX5_resume ∈ am_T := am_mem 680 (by decide +kernel) (by decide +kernel)
set_option maxRecDepth 100000 in
theorem si_X9_250 : Cond.methodLink RX9 250 yX1_settlePlace ∈ am_T := am_mem 685 (by decide +kernel) (by decide +kernel)
set_option maxRecDepth 100000 in
theorem si_X9_254 : Cond.methodLink RX9 254 yX1_settleIfComplete ∈ am_T := am_mem 690 (by decide +kernel) (by decide +kernel)
set_option maxRecDepth 100000 in
theorem si_X9_257 : Cond.methodLink RX9 257 yX9_jobOf ∈ am_T := am_mem 652 (by decide +kernel) (by decide +kernel)
set_option maxRecDepth 100000 in
theorem si_X9_261 : Cond.methodLink RX9 261 yX3_waitFor ∈ am_T := am_mem 653 (by decide +kernel) (by decide +kernel)
set_option maxRecDepth 100000 in
theorem si_X9_265 : Cond.methodLink RX9 265 yX7_kindOf ∈ am_T := am_mem 654 (by decide +kernel) (by decide +kernel)
set_option maxRecDepth 100000 in
theorem si_X9_268 : Cond.methodLink RX9 268 yX7_uOf ∈ am_T := am_mem 659 (by decide +kernel) (by decide +kernel)
set_option maxRecDepth 100000 in
theorem si_X9_271 : Cond.methodLink RX9 271 yX7_wOf ∈ am_T := am_mem 664 (by decide +kernel) (by decide +kernel)
set_option maxRecDepth 100000 in
theorem si_X9_274 : Cond.methodLink RX9 274 yX6_functionOf ∈ am_T := am_mem 700 (by decide +kernel) (by decide +kernel)
set_option maxRecDepth 100000 in
theorem si_X9_277 : Cond.methodLink RX9 277 yX6_valueOf ∈ am_T := am_mem 704 (by decide +kernel) (by decide +kernel)
set_option maxRecDepth 100000 in
theorem si_X9_278 : Cond.methodLink RX9 278 yX5_perform ∈ am_T := am_mem 709 (by decide +kernel) (by decide +kernel)
set_option maxRecDepth 100000 in
theorem si_X9_281 : Cond.methodLink RX9 281 yX6_finish ∈ am_T := am_mem 710 (by decide +kernel) (by decide +kernel)
set_option maxRecDepth 100000 in
theorem si_X9_284 : Cond.methodLink RX9 284 yX8_exists ∈ am_T := am_mem 358 (by decide +kernel) (by decide +kernel)
set_option maxRecDepth 100000 in
theorem si_X10_171 : Cond.methodLink RX10 171 yX10_in ∈ am_T := am_mem 1003 (by decide +kernel) (by decide +kernel)
set_option maxRecDepth 100000 in
theorem si_X10_175 : Cond.methodLink RX10 175 yX10_isPromise ∈ am_T := am_mem 999 (by decide +kernel) (by decide +kernel)
set_option maxRecDepth 100000 in
theorem si_X10_179 : Cond.methodLink RX10 179 yX10_firstOn ∈ am_T := am_mem 1022 (by decide +kernel) (by decide +kernel)
set_option maxRecDepth 100000 in
theorem si_X10_183 : Cond.methodLink RX10 183 yX10_carry ∈ am_T := am_mem 1026 (by decide +kernel) (by decide +kernel)
set_option maxRecDepth 100000 in
theorem si_X10_187 : Cond.methodLink RX10 187 yX10_takes ∈ am_T := am_mem 1014 (by decide +kernel) (by decide +kernel)
set_option maxRecDepth 100000 in
theorem si_X10_191 : Cond.methodLink RX10 191 yX10_settle ∈ am_T := am_mem 1018 (by decide +kernel) (by decide +kernel)
set_option maxRecDepth 100000 in
theorem si_X10_194 : Cond.methodLink RX10 194 yX10_enter ∈ am_T := am_mem 1030 (by decide +kernel) (by decide +kernel)
set_option maxRecDepth 100000 in
theorem si_X10_198 : Cond.methodLink RX10 198 yX10_rejectBy ∈ am_T := am_mem 1038 (by decide +kernel) (by decide +kernel)
set_option maxRecDepth 100000 in
theorem si_X10_201 : Cond.methodLink RX10 201 yX10_resolveBy ∈ am_T := am_mem 1010 (by decide +kernel) (by decide +kernel)
set_option maxRecDepth 100000 in
theorem si_X10_204 : Cond.methodLink RX10 204 yX10_isValue ∈ am_T := am_mem 1006 (by decide +kernel) (by decide +kernel)
set_option maxRecDepth 100000 in
theorem si_X10_207 : Cond.methodLink RX10 207 yX10_promise ∈ am_T := am_mem 1046 (by decide +kernel) (by decide +kernel)
set_option maxRecDepth 100000 in
theorem si_X10_211 : Cond.methodLink RX10 211 yX10_waitFor ∈ am_T := am_mem 1047 (by decide +kernel) (by decide +kernel)
set_option maxRecDepth 100000 in
theorem si_X10_218 : Cond.methodLink RX10 218 yX10_put ∈ am_T := am_mem 1087 (by decide +kernel) (by decide +kernel)
set_option maxRecDepth 100000 in
theorem si_X10_222 : Cond.methodLink RX10 222 yX10_endOf ∈ am_T := am_mem 1091 (by decide +kernel) (by decide +kernel)
set_option maxRecDepth 100000 in
theorem si_X10_226 : Cond.methodLink RX10 226 yX10_finish ∈ am_T := am_mem 1075 (by decide +kernel) (by decide +kernel)
set_option maxRecDepth 100000 in
theorem si_X10_230 : Cond.methodLink RX10 230 yX10_endBy ∈ am_T := am_mem 1079 (by decide +kernel) (by decide +kernel)
set_option maxRecDepth 100000 in
theorem si_X10_244 : Cond.methodLink RX10 244 yX10_fling ∈ am_T := am_mem 1083 (by decide +kernel) (by decide +kernel)
set_option maxRecDepth 100000 in
theorem si_X10_247 : Cond.methodLink RX10 247 yX10_note ∈ am_T := am_mem 1099 (by decide +kernel) (by decide +kernel)
set_option maxRecDepth 100000 in
theorem si_X10_250 : Cond.methodLink RX10 250 yX10_awaits ∈ am_T := am_mem 1103 (by decide +kernel) (by decide +kernel)
set_option maxRecDepth 100000 in
theorem si_X10_253 : Cond.methodLink RX10 253 yX10_make ∈ am_T := am_mem 1107 (by decide +kernel) (by decide +kernel)
set_option maxRecDepth 100000 in
theorem si_X10_256 : Cond.methodLink RX10 256 yX10_begin ∈ am_T := am_mem 1067 (by decide +kernel) (by decide +kernel)
set_option maxRecDepth 100000 in
theorem si_X10_259 : Cond.methodLink RX10 259 yX10_task ∈ am_T := am_mem 1111 (by decide +kernel) (by decide +kernel)
set_option maxRecDepth 100000 in
theorem si_X10_266 : Cond.methodLink RX10 266 yX10_does ∈ am_T := am_mem 1095 (by decide +kernel) (by decide +kernel)
set_option maxRecDepth 100000 in
theorem si_X10_270 : Cond.methodLink RX10 270 yX10_go ∈ am_T := am_mem 1071 (by decide +kernel) (by decide +kernel)
set_option maxRecDepth 100000 in
theorem si_X10_273 : Cond.methodLink RX10 273 yX10_count ∈ am_T := am_mem 1119 (by decide +kernel) (by decide +kernel)
set_option maxRecDepth 100000 in
theorem si_X10_276 : Cond.methodLink RX10 276 yX10_adopt ∈ am_T := am_mem 1151 (by decide +kernel) (by decide +kernel)
set_option maxRecDepth 100000 in
theorem si_X10_279 : Cond.methodLink RX10 279 yX10_placed ∈ am_T := am_mem 1155 (by decide +kernel) (by decide +kernel)
set_option maxRecDepth 100000 in
theorem si_X10_282 : Cond.methodLink RX10 282 yX10_done ∈ am_T := am_mem 1159 (by decide +kernel) (by decide +kernel)
set_option maxRecDepth 100000 in
theorem si_X10_285 : Cond.methodLink RX10 285 yX10_job ∈ am_T := am_mem 1147 (by decide +kernel) (by decide +kernel)
set_option maxRecDepth 100000 in
theorem si_X10_289 : Cond.methodLink RX10 289 yX10_turn ∈ am_T := am_mem 1143 (by decide +kernel) (by decide +kernel)
set_option maxRecDepth 100000 in
theorem si_X10_149 : Cond.methodLink RX10 149 yX10_clear ∈ am_T := am_mem 813 (by decide +kernel) (by decide +kernel)
set_option maxRecDepth 100000 in
theorem si_X10_293 : Cond.methodLink RX10 293 yX10_isLoose ∈ am_T := am_mem 1127 (by decide +kernel) (by decide +kernel)
set_option maxRecDepth 100000 in
theorem si_X10_296 : Cond.methodLink RX10 296 yX10_waiting ∈ am_T := am_mem 1123 (by decide +kernel) (by decide +kernel)
set_option maxRecDepth 100000 in
theorem ym_X9_isWithin : am_y yX9_isWithin cX9_isWithin 2 (some .boolean) 2 := ⟨am_mem 349 (by decide +kernel) (by decide +kernel), am_mem 46 (by decide +kernel) (by decide +kernel), by decide +kernel, by decide +kernel, by decide +kernel, by decide +kernel⟩
set_option maxRecDepth 100000 in
theorem st_X9_isWithin : Cond.static yX9_isWithin ∈ am_T := am_mem 348 (by decide +kernel) (by decide +kernel)
set_option maxRecDepth 100000 in
theorem ym_X8_exists : am_y yX8_exists cX8_exists 3 (some .boolean) 3 := ⟨am_mem 360 (by decide +kernel) (by decide +kernel), am_mem 56 (by decide +kernel) (by decide +kernel), by decide +kernel, by decide +kernel, by decide +kernel, by decide +kernel⟩
set_option maxRecDepth 100000 in
theorem ym_X9_isFunction : am_y yX9_isFunction cX9_isFunction 1 (some .boolean) 1 := ⟨am_mem 403 (by decide +kernel) (by decide +kernel), am_mem 46 (by decide +kernel) (by decide +kernel), by decide +kernel, by decide +kernel, by decide +kernel, by decide +kernel⟩
set_option maxRecDepth 100000 in
theorem st_X8_exists : Cond.static yX8_exists ∈ am_T := am_mem 359 (by decide +kernel) (by decide +kernel)
set_option maxRecDepth 100000 in
theorem st_X9_isFunction : Cond.static yX9_isFunction ∈ am_T := am_mem 402 (by decide +kernel) (by decide +kernel)
set_option maxRecDepth 100000 in
theorem ym_X0_mayBeStep : am_y yX0_mayBeStep cX0_mayBeStep 3 (some .boolean) 3 := ⟨am_mem 431 (by decide +kernel) (by decide +kernel), am_mem 50 (by decide +kernel) (by decide +kernel), by decide +kernel, by decide +kernel, by decide +kernel, by decide +kernel⟩
set_option maxRecDepth 100000 in
theorem fl_X4_7 : am_fld RX4 4 7 0 := ⟨TX4, 1, rfl, am_hin4, by decide, rfl, am_mem 78 (by decide +kernel) (by decide +kernel)⟩
set_option maxRecDepth 100000 in
theorem ym_X4_at : am_y yX4_at cX4_at 2 (some .int) 1 := ⟨am_mem 374 (by decide +kernel) (by decide +kernel), am_mem 48 (by decide +kernel) (by decide +kernel), by decide +kernel, by decide +kernel, by decide +kernel, by decide +kernel⟩
set_option maxRecDepth 100000 in
theorem fl_X0_14 : am_fld RX0 0 14 0 := ⟨TX0, 3, rfl, am_hin0, by decide, rfl, am_mem 164 (by decide +kernel) (by decide +kernel)⟩
set_option maxRecDepth 100000 in
theorem sk_3 : am_sk[3]? = some (.inl (0, am_lf)) := rfl
set_option maxRecDepth 100000 in
theorem sk_22 : am_sk[22]? = some (.inl (4, [some 55])) := rfl
set_option maxRecDepth 100000 in
theorem sk_55 : am_sk[55]? = some (.inr (2, 10)) := rfl
set_option maxRecDepth 100000 in
theorem im_X4_at : Cond.instanceMethod yX4_at ∈ am_T := am_mem 372 (by decide +kernel) (by decide +kernel)
set_option maxRecDepth 100000 in
theorem se_X4_at : Cond.selects yX4_at.cls yX4_at yX4_at ∈ am_T := am_mem 373 (by decide +kernel) (by decide +kernel)
set_option maxRecDepth 100000 in
theorem ym_X0_isFull : am_y yX0_isFull cX0_isFull 2 (some .boolean) 1 := ⟨am_mem 438 (by decide +kernel) (by decide +kernel), am_mem 50 (by decide +kernel) (by decide +kernel), by decide +kernel, by decide +kernel, by decide +kernel, by decide +kernel⟩
set_option maxRecDepth 100000 in
theorem ym_X4_put : am_y yX4_put cX4_put 4 none 2 := ⟨am_mem 334 (by decide +kernel) (by decide +kernel), am_mem 48 (by decide +kernel) (by decide +kernel), by decide +kernel, by decide +kernel, by decide +kernel, by decide +kernel⟩
set_option maxRecDepth 100000 in
theorem fl_X0_20 : am_fld RX0 0 20 1 := ⟨TX0, 3, rfl, am_hin0, by decide, rfl, am_mem 165 (by decide +kernel) (by decide +kernel)⟩
set_option maxRecDepth 100000 in
theorem sk_23 : am_sk[23]? = some (.inl (4, [some 56])) := rfl
set_option maxRecDepth 100000 in
theorem sk_56 : am_sk[56]? = some (.inr (2, 100)) := rfl
set_option maxRecDepth 100000 in
theorem im_X4_put : Cond.instanceMethod yX4_put ∈ am_T := am_mem 332 (by decide +kernel) (by decide +kernel)
set_option maxRecDepth 100000 in
theorem se_X4_put : Cond.selects yX4_put.cls yX4_put yX4_put ∈ am_T := am_mem 333 (by decide +kernel) (by decide +kernel)
set_option maxRecDepth 100000 in
theorem fl_X0_23 : am_fld RX0 0 23 2 := ⟨TX0, 3, rfl, am_hin0, by decide, rfl, am_mem 166 (by decide +kernel) (by decide +kernel)⟩
set_option maxRecDepth 100000 in
theorem sk_24 : am_sk[24]? = some (.inl (4, [some 57])) := rfl
set_option maxRecDepth 100000 in
theorem sk_57 : am_sk[57]? = some (.inr (2, 100)) := rfl
set_option maxRecDepth 100000 in
theorem ym_X0_add : am_y yX0_add cX0_add 6 (some .int) 3 := ⟨am_mem 443 (by decide +kernel) (by decide +kernel), am_mem 50 (by decide +kernel) (by decide +kernel), by decide +kernel, by decide +kernel, by decide +kernel, by decide +kernel⟩
set_option maxRecDepth 100000 in
theorem ym_X0_removeAll : am_y yX0_removeAll cX0_removeAll 3 (some .int) 1 := ⟨am_mem 452 (by decide +kernel) (by decide +kernel), am_mem 50 (by decide +kernel) (by decide +kernel), by decide +kernel, by decide +kernel, by decide +kernel, by decide +kernel⟩
set_option maxRecDepth 100000 in
theorem ym_X0_sizeOf : am_y yX0_sizeOf cX0_sizeOf 2 (some .int) 1 := ⟨am_mem 474 (by decide +kernel) (by decide +kernel), am_mem 50 (by decide +kernel) (by decide +kernel), by decide +kernel, by decide +kernel, by decide +kernel, by decide +kernel⟩
set_option maxRecDepth 100000 in
theorem ym_X0_kindOf : am_y yX0_kindOf cX0_kindOf 3 (some .int) 2 := ⟨am_mem 482 (by decide +kernel) (by decide +kernel), am_mem 50 (by decide +kernel) (by decide +kernel), by decide +kernel, by decide +kernel, by decide +kernel, by decide +kernel⟩
set_option maxRecDepth 100000 in
theorem ym_X4_valueAt : am_y yX4_valueAt cX4_valueAt 2 (some .long) 1 := ⟨am_mem 490 (by decide +kernel) (by decide +kernel), am_mem 48 (by decide +kernel) (by decide +kernel), by decide +kernel, by decide +kernel, by decide +kernel, by decide +kernel⟩
set_option maxRecDepth 100000 in
theorem im_X4_valueAt : Cond.instanceMethod yX4_valueAt ∈ am_T := am_mem 488 (by decide +kernel) (by decide +kernel)
set_option maxRecDepth 100000 in
theorem se_X4_valueAt : Cond.selects yX4_valueAt.cls yX4_valueAt yX4_valueAt ∈ am_T := am_mem 489 (by decide +kernel) (by decide +kernel)
set_option maxRecDepth 100000 in
theorem ym_X0_valueOf : am_y yX0_valueOf cX0_valueOf 3 (some .long) 2 := ⟨am_mem 486 (by decide +kernel) (by decide +kernel), am_mem 50 (by decide +kernel) (by decide +kernel), by decide +kernel, by decide +kernel, by decide +kernel, by decide +kernel⟩
set_option maxRecDepth 100000 in
theorem im_X0_kindOf : Cond.instanceMethod yX0_kindOf ∈ am_T := am_mem 480 (by decide +kernel) (by decide +kernel)
set_option maxRecDepth 100000 in
theorem se_X0_kindOf : Cond.selects yX0_kindOf.cls yX0_kindOf yX0_kindOf ∈ am_T := am_mem 481 (by decide +kernel) (by decide +kernel)
set_option maxRecDepth 100000 in
theorem ym_X0_behindTry : am_y yX0_behindTry cX0_behindTry 7 (some .int) 2 := ⟨am_mem 550 (by decide +kernel) (by decide +kernel), am_mem 50 (by decide +kernel) (by decide +kernel), by decide +kernel, by decide +kernel, by decide +kernel, by decide +kernel⟩
set_option maxRecDepth 100000 in
theorem fp_X1_29 : am_fldP RX1 1 29 5 .int := ⟨TX1, 6, tyX1, rfl, am_hin1, by decide, rfl, am_mem 232 (by decide +kernel) (by decide +kernel), tyX1_ok, nmX1, rfl, rfl⟩
set_option maxRecDepth 100000 in
theorem sk_6 : am_sk[6]? = some (.inl (1, am_lg)) := rfl
set_option maxRecDepth 100000 in
theorem ym_X1_clear : am_y yX1_clear cX1_clear 1 none 0 := ⟨am_mem 737 (by decide +kernel) (by decide +kernel), am_mem 53 (by decide +kernel) (by decide +kernel), by decide +kernel, by decide +kernel, by decide +kernel, by decide +kernel⟩
set_option maxRecDepth 100000 in
theorem fl_X1_29 : am_fld RX1 1 29 5 := ⟨TX1, 6, rfl, am_hin1, by decide, rfl, am_mem 232 (by decide +kernel) (by decide +kernel)⟩
set_option maxRecDepth 100000 in
theorem ym_X1_items : am_y yX1_items cX1_items 1 (some .int) 0 := ⟨am_mem 806 (by decide +kernel) (by decide +kernel), am_mem 53 (by decide +kernel) (by decide +kernel), by decide +kernel, by decide +kernel, by decide +kernel, by decide +kernel⟩
set_option maxRecDepth 100000 in
theorem ym_X1_isFull : am_y yX1_isFull cX1_isFull 1 (some .boolean) 0 := ⟨am_mem 569 (by decide +kernel) (by decide +kernel), am_mem 53 (by decide +kernel) (by decide +kernel), by decide +kernel, by decide +kernel, by decide +kernel, by decide +kernel⟩
set_option maxRecDepth 100000 in
theorem fl_X1_14 : am_fld RX1 1 14 0 := ⟨TX1, 6, rfl, am_hin1, by decide, rfl, am_mem 227 (by decide +kernel) (by decide +kernel)⟩
set_option maxRecDepth 100000 in
theorem sk_30 : am_sk[30]? = some (.inl (4, [some 63])) := rfl
set_option maxRecDepth 100000 in
theorem sk_63 : am_sk[63]? = some (.inr (2, 5)) := rfl
set_option maxRecDepth 100000 in
theorem ym_X1_addItem : am_y yX1_addItem cX1_addItem 3 (some .int) 1 := ⟨am_mem 573 (by decide +kernel) (by decide +kernel), am_mem 53 (by decide +kernel) (by decide +kernel), by decide +kernel, by decide +kernel, by decide +kernel, by decide +kernel⟩
set_option maxRecDepth 100000 in
theorem fl_X3_50 : am_fld RX3 3 50 11 := ⟨TX3, 15, rfl, am_hin3, by decide, rfl, am_mem 94 (by decide +kernel) (by decide +kernel)⟩
set_option maxRecDepth 100000 in
theorem sk_1 : am_sk[1]? = some (.inl (3, am_lp)) := rfl
set_option maxRecDepth 100000 in
theorem ym_X3_made : am_y yX3_made cX3_made 1 (some .int) 0 := ⟨am_mem 357 (by decide +kernel) (by decide +kernel), am_mem 47 (by decide +kernel) (by decide +kernel), by decide +kernel, by decide +kernel, by decide +kernel, by decide +kernel⟩
set_option maxRecDepth 100000 in
theorem ym_X8_sortOf : am_y yX8_sortOf cX8_sortOf 2 (some .int) 1 := ⟨am_mem 382 (by decide +kernel) (by decide +kernel), am_mem 56 (by decide +kernel) (by decide +kernel), by decide +kernel, by decide +kernel, by decide +kernel, by decide +kernel⟩
set_option maxRecDepth 100000 in
theorem fl_X1_33 : am_fld RX1 1 33 4 := ⟨TX1, 6, rfl, am_hin1, by decide, rfl, am_mem 231 (by decide +kernel) (by decide +kernel)⟩
set_option maxRecDepth 100000 in
theorem im_X3_made : Cond.instanceMethod yX3_made ∈ am_T := am_mem 355 (by decide +kernel) (by decide +kernel)
set_option maxRecDepth 100000 in
theorem se_X3_made : Cond.selects yX3_made.cls yX3_made yX3_made ∈ am_T := am_mem 356 (by decide +kernel) (by decide +kernel)
set_option maxRecDepth 100000 in
theorem st_X8_sortOf : Cond.static yX8_sortOf ∈ am_T := am_mem 381 (by decide +kernel) (by decide +kernel)
set_option maxRecDepth 100000 in
theorem ym_X1_hasRoom : am_y yX1_hasRoom cX1_hasRoom 3 (some .boolean) 0 := ⟨am_mem 582 (by decide +kernel) (by decide +kernel), am_mem 53 (by decide +kernel) (by decide +kernel), by decide +kernel, by decide +kernel, by decide +kernel, by decide +kernel⟩
set_option maxRecDepth 100000 in
theorem ym_X3_has : am_y yX3_has cX3_has 2 (some .boolean) 1 := ⟨am_mem 346 (by decide +kernel) (by decide +kernel), am_mem 47 (by decide +kernel) (by decide +kernel), by decide +kernel, by decide +kernel, by decide +kernel, by decide +kernel⟩
set_option maxRecDepth 100000 in
theorem fl_X3_26 : am_fld RX3 3 26 3 := ⟨TX3, 15, rfl, am_hin3, by decide, rfl, am_mem 86 (by decide +kernel) (by decide +kernel)⟩
set_option maxRecDepth 100000 in
theorem sk_11 : am_sk[11]? = some (.inl (4, [some 44])) := rfl
set_option maxRecDepth 100000 in
theorem sk_44 : am_sk[44]? = some (.inr (2, 100)) := rfl
set_option maxRecDepth 100000 in
theorem ym_X3_isKeyUsed : am_y yX3_isKeyUsed cX3_isKeyUsed 2 (some .boolean) 1 := ⟨am_mem 378 (by decide +kernel) (by decide +kernel), am_mem 47 (by decide +kernel) (by decide +kernel), by decide +kernel, by decide +kernel, by decide +kernel, by decide +kernel⟩
set_option maxRecDepth 100000 in
theorem fl_X3_54 : am_fld RX3 3 54 12 := ⟨TX3, 15, rfl, am_hin3, by decide, rfl, am_mem 95 (by decide +kernel) (by decide +kernel)⟩
set_option maxRecDepth 100000 in
theorem fl_X3_44 : am_fld RX3 3 44 9 := ⟨TX3, 15, rfl, am_hin3, by decide, rfl, am_mem 92 (by decide +kernel) (by decide +kernel)⟩
set_option maxRecDepth 100000 in
theorem fl_X3_60 : am_fld RX3 3 60 14 := ⟨TX3, 15, rfl, am_hin3, by decide, rfl, am_mem 97 (by decide +kernel) (by decide +kernel)⟩
set_option maxRecDepth 100000 in
theorem sk_17 : am_sk[17]? = some (.inl (4, [some 50])) := rfl
set_option maxRecDepth 100000 in
theorem sk_50 : am_sk[50]? = some (.inr (2, 900)) := rfl
set_option maxRecDepth 100000 in
theorem fp_X3_60 : am_fldP RX3 3 60 14 .int := ⟨TX3, 15, tyX3, rfl, am_hin3, by decide, rfl, am_mem 97 (by decide +kernel) (by decide +kernel), tyX3_ok, nmX3, rfl, rfl⟩
set_option maxRecDepth 100000 in
theorem fp_X3_54 : am_fldP RX3 3 54 12 .int := ⟨TX3, 15, tyX3, rfl, am_hin3, by decide, rfl, am_mem 95 (by decide +kernel) (by decide +kernel), tyX3_ok, nmX3, rfl, rfl⟩
set_option maxRecDepth 100000 in
theorem fp_X3_57 : am_fldP RX3 3 57 13 .int := ⟨TX3, 15, tyX3, rfl, am_hin3, by decide, rfl, am_mem 96 (by decide +kernel) (by decide +kernel), tyX3_ok, nmX3, rfl, rfl⟩
set_option maxRecDepth 100000 in
theorem ym_X3_lineUp : am_y yX3_lineUp cX3_lineUp 4 none 3 := ⟨am_mem 389 (by decide +kernel) (by decide +kernel), am_mem 47 (by decide +kernel) (by decide +kernel), by decide +kernel, by decide +kernel, by decide +kernel, by decide +kernel⟩
set_option maxRecDepth 100000 in
theorem co_X8_9 : Cond.constantLong RX8 9 (Int64.ofInt 4294967295) ∈ am_T := am_mem 365 (by decide +kernel) (by decide +kernel)
set_option maxRecDepth 100000 in
theorem ym_X8_of : am_y yX8_of cX8_of 2 (some .long) 2 := ⟨am_mem 364 (by decide +kernel) (by decide +kernel), am_mem 56 (by decide +kernel) (by decide +kernel), by decide +kernel, by decide +kernel, by decide +kernel, by decide +kernel⟩
set_option maxRecDepth 100000 in
theorem ym_X9_jobOf : am_y yX9_jobOf cX9_jobOf 2 (some .int) 2 := ⟨am_mem 385 (by decide +kernel) (by decide +kernel), am_mem 46 (by decide +kernel) (by decide +kernel), by decide +kernel, by decide +kernel, by decide +kernel, by decide +kernel⟩
set_option maxRecDepth 100000 in
theorem im_X3_has : Cond.instanceMethod yX3_has ∈ am_T := am_mem 344 (by decide +kernel) (by decide +kernel)
set_option maxRecDepth 100000 in
theorem se_X3_has : Cond.selects yX3_has.cls yX3_has yX3_has ∈ am_T := am_mem 345 (by decide +kernel) (by decide +kernel)
set_option maxRecDepth 100000 in
theorem fl_X3_23 : am_fld RX3 3 23 2 := ⟨TX3, 15, rfl, am_hin3, by decide, rfl, am_mem 85 (by decide +kernel) (by decide +kernel)⟩
set_option maxRecDepth 100000 in
theorem sk_10 : am_sk[10]? = some (.inl (4, [some 43])) := rfl
set_option maxRecDepth 100000 in
theorem sk_43 : am_sk[43]? = some (.inr (2, 100)) := rfl
set_option maxRecDepth 100000 in
theorem im_X3_isKeyUsed : Cond.instanceMethod yX3_isKeyUsed ∈ am_T := am_mem 376 (by decide +kernel) (by decide +kernel)
set_option maxRecDepth 100000 in
theorem se_X3_isKeyUsed : Cond.selects yX3_isKeyUsed.cls yX3_isKeyUsed yX3_isKeyUsed ∈ am_T := am_mem 377 (by decide +kernel) (by decide +kernel)
set_option maxRecDepth 100000 in
theorem st_X8_of : Cond.static yX8_of ∈ am_T := am_mem 363 (by decide +kernel) (by decide +kernel)
set_option maxRecDepth 100000 in
theorem fl_X3_32 : am_fld RX3 3 32 5 := ⟨TX3, 15, rfl, am_hin3, by decide, rfl, am_mem 88 (by decide +kernel) (by decide +kernel)⟩
set_option maxRecDepth 100000 in
theorem sk_13 : am_sk[13]? = some (.inl (4, [some 46])) := rfl
set_option maxRecDepth 100000 in
theorem sk_46 : am_sk[46]? = some (.inr (2, 100)) := rfl
set_option maxRecDepth 100000 in
theorem st_X9_jobOf : Cond.static yX9_jobOf ∈ am_T := am_mem 384 (by decide +kernel) (by decide +kernel)
set_option maxRecDepth 100000 in
theorem im_X3_lineUp : Cond.instanceMethod yX3_lineUp ∈ am_T := am_mem 388 (by decide +kernel) (by decide +kernel)
set_option maxRecDepth 100000 in
theorem se_X3_lineUp : Cond.selects yX3_lineUp.cls yX3_lineUp yX3_lineUp ∈ am_T := am_mem 2 (by decide +kernel) (by decide +kernel)
set_option maxRecDepth 100000 in
theorem fl_X3_14 : am_fld RX3 3 14 0 := ⟨TX3, 15, rfl, am_hin3, by decide, rfl, am_mem 83 (by decide +kernel) (by decide +kernel)⟩
set_option maxRecDepth 100000 in
theorem sk_8 : am_sk[8]? = some (.inl (4, [some 41])) := rfl
set_option maxRecDepth 100000 in
theorem sk_41 : am_sk[41]? = some (.inr (2, 100)) := rfl
set_option maxRecDepth 100000 in
theorem fl_X3_20 : am_fld RX3 3 20 1 := ⟨TX3, 15, rfl, am_hin3, by decide, rfl, am_mem 84 (by decide +kernel) (by decide +kernel)⟩
set_option maxRecDepth 100000 in
theorem sk_9 : am_sk[9]? = some (.inl (4, [some 42])) := rfl
set_option maxRecDepth 100000 in
theorem sk_42 : am_sk[42]? = some (.inr (2, 100)) := rfl
set_option maxRecDepth 100000 in
theorem fl_X3_38 : am_fld RX3 3 38 7 := ⟨TX3, 15, rfl, am_hin3, by decide, rfl, am_mem 90 (by decide +kernel) (by decide +kernel)⟩
set_option maxRecDepth 100000 in
theorem sk_15 : am_sk[15]? = some (.inl (4, [some 48])) := rfl
set_option maxRecDepth 100000 in
theorem sk_48 : am_sk[48]? = some (.inr (2, 100)) := rfl
set_option maxRecDepth 100000 in
theorem fl_X3_41 : am_fld RX3 3 41 8 := ⟨TX3, 15, rfl, am_hin3, by decide, rfl, am_mem 91 (by decide +kernel) (by decide +kernel)⟩
set_option maxRecDepth 100000 in
theorem sk_16 : am_sk[16]? = some (.inl (4, [some 49])) := rfl
set_option maxRecDepth 100000 in
theorem sk_49 : am_sk[49]? = some (.inr (2, 100)) := rfl
set_option maxRecDepth 100000 in
theorem fl_X3_35 : am_fld RX3 3 35 6 := ⟨TX3, 15, rfl, am_hin3, by decide, rfl, am_mem 89 (by decide +kernel) (by decide +kernel)⟩
set_option maxRecDepth 100000 in
theorem sk_14 : am_sk[14]? = some (.inl (4, [some 47])) := rfl
set_option maxRecDepth 100000 in
theorem sk_47 : am_sk[47]? = some (.inr (2, 100)) := rfl
set_option maxRecDepth 100000 in
theorem ym_X3_settleBy : am_y yX3_settleBy cX3_settleBy 8 none 4 := ⟨am_mem 369 (by decide +kernel) (by decide +kernel), am_mem 47 (by decide +kernel) (by decide +kernel), by decide +kernel, by decide +kernel, by decide +kernel, by decide +kernel⟩
set_option maxRecDepth 100000 in
theorem fl_X1_23 : am_fld RX1 1 23 2 := ⟨TX1, 6, rfl, am_hin1, by decide, rfl, am_mem 229 (by decide +kernel) (by decide +kernel)⟩
set_option maxRecDepth 100000 in
theorem sk_32 : am_sk[32]? = some (.inl (4, [some 65])) := rfl
set_option maxRecDepth 100000 in
theorem sk_65 : am_sk[65]? = some (.inr (2, 100)) := rfl
set_option maxRecDepth 100000 in
theorem fl_X1_20 : am_fld RX1 1 20 1 := ⟨TX1, 6, rfl, am_hin1, by decide, rfl, am_mem 228 (by decide +kernel) (by decide +kernel)⟩
set_option maxRecDepth 100000 in
theorem sk_31 : am_sk[31]? = some (.inl (4, [some 64])) := rfl
set_option maxRecDepth 100000 in
theorem sk_64 : am_sk[64]? = some (.inr (2, 100)) := rfl
set_option maxRecDepth 100000 in
theorem fl_X1_26 : am_fld RX1 1 26 3 := ⟨TX1, 6, rfl, am_hin1, by decide, rfl, am_mem 230 (by decide +kernel) (by decide +kernel)⟩
set_option maxRecDepth 100000 in
theorem sk_33 : am_sk[33]? = some (.inl (4, [some 66])) := rfl
set_option maxRecDepth 100000 in
theorem sk_66 : am_sk[66]? = some (.inr (2, 100)) := rfl
set_option maxRecDepth 100000 in
theorem im_X3_settleBy : Cond.instanceMethod yX3_settleBy ∈ am_T := am_mem 367 (by decide +kernel) (by decide +kernel)
set_option maxRecDepth 100000 in
theorem se_X3_settleBy : Cond.selects yX3_settleBy.cls yX3_settleBy yX3_settleBy ∈ am_T := am_mem 368 (by decide +kernel) (by decide +kernel)
set_option maxRecDepth 100000 in
theorem ym_X1_settleIfComplete : am_y yX1_settleIfComplete cX1_settleIfComplete 2 none 1 := ⟨am_mem 597 (by decide +kernel) (by decide +kernel), am_mem 53 (by decide +kernel) (by decide +kernel), by decide +kernel, by decide +kernel, by decide +kernel, by decide +kernel⟩
set_option maxRecDepth 100000 in
theorem fl_X3_29 : am_fld RX3 3 29 4 := ⟨TX3, 15, rfl, am_hin3, by decide, rfl, am_mem 87 (by decide +kernel) (by decide +kernel)⟩
set_option maxRecDepth 100000 in
theorem sk_12 : am_sk[12]? = some (.inl (4, [some 45])) := rfl
set_option maxRecDepth 100000 in
theorem sk_45 : am_sk[45]? = some (.inr (2, 100)) := rfl
set_option maxRecDepth 100000 in
theorem fp_X3_50 : am_fldP RX3 3 50 11 .int := ⟨TX3, 15, tyX3, rfl, am_hin3, by decide, rfl, am_mem 94 (by decide +kernel) (by decide +kernel), tyX3_ok, nmX3, rfl, rfl⟩
set_option maxRecDepth 100000 in
theorem ym_X3_make : am_y yX3_make cX3_make 2 (some .int) 0 := ⟨am_mem 330 (by decide +kernel) (by decide +kernel), am_mem 47 (by decide +kernel) (by decide +kernel), by decide +kernel, by decide +kernel, by decide +kernel, by decide +kernel⟩
set_option maxRecDepth 100000 in
theorem ym_X8_numberOf : am_y yX8_numberOf cX8_numberOf 2 (some .int) 1 := ⟨am_mem 493 (by decide +kernel) (by decide +kernel), am_mem 56 (by decide +kernel) (by decide +kernel), by decide +kernel, by decide +kernel, by decide +kernel, by decide +kernel⟩
set_option maxRecDepth 100000 in
theorem im_X3_make : Cond.instanceMethod yX3_make ∈ am_T := am_mem 328 (by decide +kernel) (by decide +kernel)
set_option maxRecDepth 100000 in
theorem se_X3_make : Cond.selects yX3_make.cls yX3_make yX3_make ∈ am_T := am_mem 329 (by decide +kernel) (by decide +kernel)
set_option maxRecDepth 100000 in
theorem st_X8_numberOf : Cond.static yX8_numberOf ∈ am_T := am_mem 492 (by decide +kernel) (by decide +kernel)
set_option maxRecDepth 100000 in
theorem ym_X3_promiseFor : am_y yX3_promiseFor cX3_promiseFor 4 (some .int) 1 := ⟨am_mem 539 (by decide +kernel) (by decide +kernel), am_mem 47 (by decide +kernel) (by decide +kernel), by decide +kernel, by decide +kernel, by decide +kernel, by decide +kernel⟩
set_option maxRecDepth 100000 in
theorem fl_X3_47 : am_fld RX3 3 47 10 := ⟨TX3, 15, rfl, am_hin3, by decide, rfl, am_mem 93 (by decide +kernel) (by decide +kernel)⟩
set_option maxRecDepth 100000 in
theorem sk_18 : am_sk[18]? = some (.inl (4, [some 51])) := rfl
set_option maxRecDepth 100000 in
theorem sk_51 : am_sk[51]? = some (.inr (2, 900)) := rfl
set_option maxRecDepth 100000 in
theorem ym_X3_waitFor : am_y yX3_waitFor cX3_waitFor 4 none 2 := ⟨am_mem 415 (by decide +kernel) (by decide +kernel), am_mem 47 (by decide +kernel) (by decide +kernel), by decide +kernel, by decide +kernel, by decide +kernel, by decide +kernel⟩
set_option maxRecDepth 100000 in
theorem im_X1_settleIfComplete : Cond.instanceMethod yX1_settleIfComplete ∈ am_T := am_mem 595 (by decide +kernel) (by decide +kernel)
set_option maxRecDepth 100000 in
theorem se_X1_settleIfComplete : Cond.selects yX1_settleIfComplete.cls yX1_settleIfComplete yX1_settleIfComplete ∈ am_T := am_mem 596 (by decide +kernel) (by decide +kernel)
set_option maxRecDepth 100000 in
theorem im_X3_promiseFor : Cond.instanceMethod yX3_promiseFor ∈ am_T := am_mem 537 (by decide +kernel) (by decide +kernel)
set_option maxRecDepth 100000 in
theorem se_X3_promiseFor : Cond.selects yX3_promiseFor.cls yX3_promiseFor yX3_promiseFor ∈ am_T := am_mem 538 (by decide +kernel) (by decide +kernel)
set_option maxRecDepth 100000 in
theorem im_X3_waitFor : Cond.instanceMethod yX3_waitFor ∈ am_T := am_mem 413 (by decide +kernel) (by decide +kernel)
set_option maxRecDepth 100000 in
theorem se_X3_waitFor : Cond.selects yX3_waitFor.cls yX3_waitFor yX3_waitFor ∈ am_T := am_mem 414 (by decide +kernel) (by decide +kernel)
set_option maxRecDepth 100000 in
theorem ym_X1_form : am_y yX1_form cX1_form 5 (some .int) 1 := ⟨am_mem 589 (by decide +kernel) (by decide +kernel), am_mem 53 (by decide +kernel) (by decide +kernel), by decide +kernel, by decide +kernel, by decide +kernel, by decide +kernel⟩
set_option maxRecDepth 100000 in
theorem ym_X1_settlePlace : am_y yX1_settlePlace cX1_settlePlace 8 none 4 := ⟨am_mem 688 (by decide +kernel) (by decide +kernel), am_mem 53 (by decide +kernel) (by decide +kernel), by decide +kernel, by decide +kernel, by decide +kernel, by decide +kernel⟩
set_option maxRecDepth 100000 in
theorem fp_X2_23 : am_fldP RX2 2 23 2 .int := ⟨TX2, 4, tyX2, rfl, am_hin2, by decide, rfl, am_mem 208 (by decide +kernel) (by decide +kernel), tyX2_ok, nmX2, rfl, rfl⟩
set_option maxRecDepth 100000 in
theorem sk_5 : am_sk[5]? = some (.inl (2, am_ln)) := rfl
set_option maxRecDepth 100000 in
theorem fp_X2_27 : am_fldP RX2 2 27 3 .int := ⟨TX2, 4, tyX2, rfl, am_hin2, by decide, rfl, am_mem 209 (by decide +kernel) (by decide +kernel), tyX2_ok, nmX2, rfl, rfl⟩
set_option maxRecDepth 100000 in
theorem ym_X2_clear : am_y yX2_clear cX2_clear 1 none 0 := ⟨am_mem 733 (by decide +kernel) (by decide +kernel), am_mem 52 (by decide +kernel) (by decide +kernel), by decide +kernel, by decide +kernel, by decide +kernel, by decide +kernel⟩
set_option maxRecDepth 100000 in
theorem fl_X2_27 : am_fld RX2 2 27 3 := ⟨TX2, 4, rfl, am_hin2, by decide, rfl, am_mem 209 (by decide +kernel) (by decide +kernel)⟩
set_option maxRecDepth 100000 in
theorem ym_X2_beginTurn : am_y yX2_beginTurn cX2_beginTurn 1 none 0 := ⟨am_mem 616 (by decide +kernel) (by decide +kernel), am_mem 52 (by decide +kernel) (by decide +kernel), by decide +kernel, by decide +kernel, by decide +kernel, by decide +kernel⟩
set_option maxRecDepth 100000 in
theorem ym_X2_turns : am_y yX2_turns cX2_turns 1 (some .int) 0 := ⟨am_mem 789 (by decide +kernel) (by decide +kernel), am_mem 52 (by decide +kernel) (by decide +kernel), by decide +kernel, by decide +kernel, by decide +kernel, by decide +kernel⟩
set_option maxRecDepth 100000 in
theorem fl_X2_23 : am_fld RX2 2 23 2 := ⟨TX2, 4, rfl, am_hin2, by decide, rfl, am_mem 208 (by decide +kernel) (by decide +kernel)⟩
set_option maxRecDepth 100000 in
theorem ym_X2_total : am_y yX2_total cX2_total 1 (some .int) 0 := ⟨am_mem 797 (by decide +kernel) (by decide +kernel), am_mem 52 (by decide +kernel) (by decide +kernel), by decide +kernel, by decide +kernel, by decide +kernel, by decide +kernel⟩
set_option maxRecDepth 100000 in
theorem st_M_min : Cond.static Lib.Math.min.name ∈ am_T := am_mem 769 (by decide +kernel) (by decide +kernel)
set_option maxRecDepth 100000 in
theorem ini_M : Cond.initialized "java/lang/Math" ∈ am_T := am_mem 57 (by decide +kernel) (by decide +kernel)
set_option maxRecDepth 100000 in
theorem cod_M_min : Cond.code Lib.Math.min.name Lib.Math.min.code 2 (some .int) ∈ am_T := am_mem 770 (by decide +kernel) (by decide +kernel)
set_option maxRecDepth 100000 in
theorem ym_X2_kept : am_y yX2_kept cX2_kept 1 (some .int) 0 := ⟨am_mem 767 (by decide +kernel) (by decide +kernel), am_mem 52 (by decide +kernel) (by decide +kernel), by decide +kernel, by decide +kernel, by decide +kernel, by decide +kernel⟩
set_option maxRecDepth 100000 in
theorem fl_X2_14 : am_fld RX2 2 14 0 := ⟨TX2, 4, rfl, am_hin2, by decide, rfl, am_mem 206 (by decide +kernel) (by decide +kernel)⟩
set_option maxRecDepth 100000 in
theorem sk_28 : am_sk[28]? = some (.inl (4, [some 61])) := rfl
set_option maxRecDepth 100000 in
theorem sk_61 : am_sk[61]? = some (.inr (2, 60)) := rfl
set_option maxRecDepth 100000 in
theorem fl_X2_20 : am_fld RX2 2 20 1 := ⟨TX2, 4, rfl, am_hin2, by decide, rfl, am_mem 207 (by decide +kernel) (by decide +kernel)⟩
set_option maxRecDepth 100000 in
theorem sk_29 : am_sk[29]? = some (.inl (4, [some 62])) := rfl
set_option maxRecDepth 100000 in
theorem sk_62 : am_sk[62]? = some (.inr (2, 60)) := rfl
set_option maxRecDepth 100000 in
theorem ym_X2_add : am_y yX2_add cX2_add 3 none 1 := ⟨am_mem 510 (by decide +kernel) (by decide +kernel), am_mem 52 (by decide +kernel) (by decide +kernel), by decide +kernel, by decide +kernel, by decide +kernel, by decide +kernel⟩
set_option maxRecDepth 100000 in
theorem ym_X2_valueOf : am_y yX2_valueOf cX2_valueOf 2 (some .long) 1 := ⟨am_mem 775 (by decide +kernel) (by decide +kernel), am_mem 52 (by decide +kernel) (by decide +kernel), by decide +kernel, by decide +kernel, by decide +kernel, by decide +kernel⟩
set_option maxRecDepth 100000 in
theorem ym_X2_turnOf : am_y yX2_turnOf cX2_turnOf 2 (some .int) 1 := ⟨am_mem 780 (by decide +kernel) (by decide +kernel), am_mem 52 (by decide +kernel) (by decide +kernel), by decide +kernel, by decide +kernel, by decide +kernel, by decide +kernel⟩
set_option maxRecDepth 100000 in
theorem ym_X3_clear : am_y yX3_clear cX3_clear 1 none 0 := ⟨am_mem 724 (by decide +kernel) (by decide +kernel), am_mem 47 (by decide +kernel) (by decide +kernel), by decide +kernel, by decide +kernel, by decide +kernel, by decide +kernel⟩
set_option maxRecDepth 100000 in
theorem ym_X3_isFull : am_y yX3_isFull cX3_isFull 1 (some .boolean) 0 := ⟨am_mem 326 (by decide +kernel) (by decide +kernel), am_mem 47 (by decide +kernel) (by decide +kernel), by decide +kernel, by decide +kernel, by decide +kernel, by decide +kernel⟩
set_option maxRecDepth 100000 in
theorem ym_X3_statusOf : am_y yX3_statusOf cX3_statusOf 2 (some .int) 1 := ⟨am_mem 632 (by decide +kernel) (by decide +kernel), am_mem 47 (by decide +kernel) (by decide +kernel), by decide +kernel, by decide +kernel, by decide +kernel, by decide +kernel⟩
set_option maxRecDepth 100000 in
theorem ym_X3_valueOf : am_y yX3_valueOf cX3_valueOf 2 (some .long) 1 := ⟨am_mem 636 (by decide +kernel) (by decide +kernel), am_mem 47 (by decide +kernel) (by decide +kernel), by decide +kernel, by decide +kernel, by decide +kernel, by decide +kernel⟩
set_option maxRecDepth 100000 in
theorem ym_X3_lastKeyOf : am_y yX3_lastKeyOf cX3_lastKeyOf 2 (some .int) 1 := ⟨am_mem 671 (by decide +kernel) (by decide +kernel), am_mem 47 (by decide +kernel) (by decide +kernel), by decide +kernel, by decide +kernel, by decide +kernel, by decide +kernel⟩
set_option maxRecDepth 100000 in
theorem ym_X3_reactionsOf : am_y yX3_reactionsOf cX3_reactionsOf 2 (some .int) 1 := ⟨am_mem 754 (by decide +kernel) (by decide +kernel), am_mem 47 (by decide +kernel) (by decide +kernel), by decide +kernel, by decide +kernel, by decide +kernel, by decide +kernel⟩
set_option maxRecDepth 100000 in
theorem ym_X3_isLoose : am_y yX3_isLoose cX3_isLoose 2 (some .boolean) 1 := ⟨am_mem 750 (by decide +kernel) (by decide +kernel), am_mem 47 (by decide +kernel) (by decide +kernel), by decide +kernel, by decide +kernel, by decide +kernel, by decide +kernel⟩
set_option maxRecDepth 100000 in
theorem im_X3_isLoose : Cond.instanceMethod yX3_isLoose ∈ am_T := am_mem 748 (by decide +kernel) (by decide +kernel)
set_option maxRecDepth 100000 in
theorem se_X3_isLoose : Cond.selects yX3_isLoose.cls yX3_isLoose yX3_isLoose ∈ am_T := am_mem 749 (by decide +kernel) (by decide +kernel)
set_option maxRecDepth 100000 in
theorem ym_X3_loose : am_y yX3_loose cX3_loose 3 (some .int) 0 := ⟨am_mem 801 (by decide +kernel) (by decide +kernel), am_mem 47 (by decide +kernel) (by decide +kernel), by decide +kernel, by decide +kernel, by decide +kernel, by decide +kernel⟩
set_option maxRecDepth 100000 in
theorem ym_X3_addKey : am_y yX3_addKey cX3_addKey 3 (some .int) 1 := ⟨am_mem 645 (by decide +kernel) (by decide +kernel), am_mem 47 (by decide +kernel) (by decide +kernel), by decide +kernel, by decide +kernel, by decide +kernel, by decide +kernel⟩
set_option maxRecDepth 100000 in
theorem ym_X3_toAdopt : am_y yX3_toAdopt cX3_toAdopt 2 (some .long) 1 := ⟨am_mem 641 (by decide +kernel) (by decide +kernel), am_mem 47 (by decide +kernel) (by decide +kernel), by decide +kernel, by decide +kernel, by decide +kernel, by decide +kernel⟩
set_option maxRecDepth 100000 in
theorem ym_X3_jobs : am_y yX3_jobs cX3_jobs 1 (some .int) 0 := ⟨am_mem 608 (by decide +kernel) (by decide +kernel), am_mem 47 (by decide +kernel) (by decide +kernel), by decide +kernel, by decide +kernel, by decide +kernel, by decide +kernel⟩
set_option maxRecDepth 100000 in
theorem fl_X3_57 : am_fld RX3 3 57 13 := ⟨TX3, 15, rfl, am_hin3, by decide, rfl, am_mem 96 (by decide +kernel) (by decide +kernel)⟩
set_option maxRecDepth 100000 in
theorem ym_X3_takeJob : am_y yX3_takeJob cX3_takeJob 2 (some .int) 0 := ⟨am_mem 620 (by decide +kernel) (by decide +kernel), am_mem 47 (by decide +kernel) (by decide +kernel), by decide +kernel, by decide +kernel, by decide +kernel, by decide +kernel⟩
set_option maxRecDepth 100000 in
theorem ym_X3_sourceOf : am_y yX3_sourceOf cX3_sourceOf 2 (some .int) 1 := ⟨am_mem 628 (by decide +kernel) (by decide +kernel), am_mem 47 (by decide +kernel) (by decide +kernel), by decide +kernel, by decide +kernel, by decide +kernel, by decide +kernel⟩
set_option maxRecDepth 100000 in
theorem ym_X4_fill : am_y yX4_fill cX4_fill 4 none 1 := ⟨am_mem 145 (by decide +kernel) (by decide +kernel), am_mem 48 (by decide +kernel) (by decide +kernel), by decide +kernel, by decide +kernel, by decide +kernel, by decide +kernel⟩
set_option maxRecDepth 100000 in
theorem fl_X5_29 : am_fld RX5 5 29 8 := ⟨TX5, 14, rfl, am_hin5, by decide, rfl, am_mem 262 (by decide +kernel) (by decide +kernel)⟩
set_option maxRecDepth 100000 in
theorem sk_7 : am_sk[7]? = some (.inl (5, am_lr)) := rfl
set_option maxRecDepth 100000 in
theorem sk_38 : am_sk[38]? = some (.inl (4, [some 71])) := rfl
set_option maxRecDepth 100000 in
theorem sk_71 : am_sk[71]? = some (.inr (2, 100)) := rfl
set_option maxRecDepth 100000 in
theorem im_X4_fill : Cond.instanceMethod yX4_fill ∈ am_T := am_mem 143 (by decide +kernel) (by decide +kernel)
set_option maxRecDepth 100000 in
theorem se_X4_fill : Cond.selects yX4_fill.cls yX4_fill yX4_fill ∈ am_T := am_mem 144 (by decide +kernel) (by decide +kernel)
set_option maxRecDepth 100000 in
theorem ym_X5_clear : am_y yX5_clear cX5_clear 1 none 0 := ⟨am_mem 741 (by decide +kernel) (by decide +kernel), am_mem 54 (by decide +kernel) (by decide +kernel), by decide +kernel, by decide +kernel, by decide +kernel, by decide +kernel⟩
set_option maxRecDepth 100000 in
theorem ym_X5_isStopped : am_y yX5_isStopped cX5_isStopped 2 (some .boolean) 1 := ⟨am_mem 759 (by decide +kernel) (by decide +kernel), am_mem 54 (by decide +kernel) (by decide +kernel), by decide +kernel, by decide +kernel, by decide +kernel, by decide +kernel⟩
set_option maxRecDepth 100000 in
theorem fl_X5_52 : am_fld RX5 5 52 1 := ⟨TX5, 14, rfl, am_hin5, by decide, rfl, am_mem 255 (by decide +kernel) (by decide +kernel)⟩
set_option maxRecDepth 100000 in
theorem fl_X5_32 : am_fld RX5 5 32 9 := ⟨TX5, 14, rfl, am_hin5, by decide, rfl, am_mem 263 (by decide +kernel) (by decide +kernel)⟩
set_option maxRecDepth 100000 in
theorem sk_39 : am_sk[39]? = some (.inl (4, [some 72])) := rfl
set_option maxRecDepth 100000 in
theorem sk_72 : am_sk[72]? = some (.inr (2, 100)) := rfl
set_option maxRecDepth 100000 in
theorem fl_X5_35 : am_fld RX5 5 35 10 := ⟨TX5, 14, rfl, am_hin5, by decide, rfl, am_mem 264 (by decide +kernel) (by decide +kernel)⟩
set_option maxRecDepth 100000 in
theorem sk_40 : am_sk[40]? = some (.inl (4, [some 73])) := rfl
set_option maxRecDepth 100000 in
theorem sk_73 : am_sk[73]? = some (.inr (2, 100)) := rfl
set_option maxRecDepth 100000 in
theorem ym_X5_addHandlers : am_y yX5_addHandlers cX5_addHandlers 5 (some .int) 3 := ⟨am_mem 408 (by decide +kernel) (by decide +kernel), am_mem 54 (by decide +kernel) (by decide +kernel), by decide +kernel, by decide +kernel, by decide +kernel, by decide +kernel⟩
set_option maxRecDepth 100000 in
theorem fl_X5_14 : am_fld RX5 5 14 4 := ⟨TX5, 14, rfl, am_hin5, by decide, rfl, am_mem 258 (by decide +kernel) (by decide +kernel)⟩
set_option maxRecDepth 100000 in
theorem sk_34 : am_sk[34]? = some (.inl (4, [some 67])) := rfl
set_option maxRecDepth 100000 in
theorem sk_67 : am_sk[67]? = some (.inr (2, 101)) := rfl
set_option maxRecDepth 100000 in
theorem fl_X5_20 : am_fld RX5 5 20 5 := ⟨TX5, 14, rfl, am_hin5, by decide, rfl, am_mem 259 (by decide +kernel) (by decide +kernel)⟩
set_option maxRecDepth 100000 in
theorem sk_35 : am_sk[35]? = some (.inl (4, [some 68])) := rfl
set_option maxRecDepth 100000 in
theorem sk_68 : am_sk[68]? = some (.inr (2, 101)) := rfl
set_option maxRecDepth 100000 in
theorem fl_X5_23 : am_fld RX5 5 23 6 := ⟨TX5, 14, rfl, am_hin5, by decide, rfl, am_mem 260 (by decide +kernel) (by decide +kernel)⟩
set_option maxRecDepth 100000 in
theorem sk_36 : am_sk[36]? = some (.inl (4, [some 69])) := rfl
set_option maxRecDepth 100000 in
theorem sk_69 : am_sk[69]? = some (.inr (2, 101)) := rfl
set_option maxRecDepth 100000 in
theorem fl_X5_26 : am_fld RX5 5 26 7 := ⟨TX5, 14, rfl, am_hin5, by decide, rfl, am_mem 261 (by decide +kernel) (by decide +kernel)⟩
set_option maxRecDepth 100000 in
theorem fl_X5_38 : am_fld RX5 5 38 11 := ⟨TX5, 14, rfl, am_hin5, by decide, rfl, am_mem 265 (by decide +kernel) (by decide +kernel)⟩
set_option maxRecDepth 100000 in
theorem sk_37 : am_sk[37]? = some (.inl (4, [some 70])) := rfl
set_option maxRecDepth 100000 in
theorem sk_70 : am_sk[70]? = some (.inr (2, 101)) := rfl
set_option maxRecDepth 100000 in
theorem fp_X5_38 : am_fldP RX5 5 38 11 .int := ⟨TX5, 14, tyX5, rfl, am_hin5, by decide, rfl, am_mem 265 (by decide +kernel) (by decide +kernel), tyX5_ok, nmX5, rfl, rfl⟩
set_option maxRecDepth 100000 in
theorem ym_X5_enter : am_y yX5_enter cX5_enter 5 none 3 := ⟨am_mem 464 (by decide +kernel) (by decide +kernel), am_mem 54 (by decide +kernel) (by decide +kernel), by decide +kernel, by decide +kernel, by decide +kernel, by decide +kernel⟩
set_option maxRecDepth 100000 in
theorem fp_X5_42 : am_fldP RX5 5 42 12 .int := ⟨TX5, 14, tyX5, rfl, am_hin5, by decide, rfl, am_mem 266 (by decide +kernel) (by decide +kernel), tyX5_ok, nmX5, rfl, rfl⟩
set_option maxRecDepth 100000 in
theorem im_X5_enter : Cond.instanceMethod yX5_enter ∈ am_T := am_mem 463 (by decide +kernel) (by decide +kernel)
set_option maxRecDepth 100000 in
theorem se_X5_enter : Cond.selects yX5_enter.cls yX5_enter yX5_enter ∈ am_T := am_mem 3 (by decide +kernel) (by decide +kernel)
set_option maxRecDepth 100000 in
theorem ym_X5_perform : am_y yX5_perform cX5_perform 5 none 3 := ⟨am_mem 679 (by decide +kernel) (by decide +kernel), am_mem 54 (by decide +kernel) (by decide +kernel), by decide +kernel, by decide +kernel, by decide +kernel, by decide +kernel⟩
set_option maxRecDepth 100000 in
theorem im_X5_perform : Cond.instanceMethod yX5_perform ∈ am_T := am_mem 677 (by decide +kernel) (by decide +kernel)
set_option maxRecDepth 100000 in
theorem se_X5_perform : Cond.selects yX5_perform.cls yX5_perform yX5_perform ∈ am_T := am_mem 678 (by decide +kernel) (by decide +kernel)
set_option maxRecDepth 100000 in
theorem ym_X5_handle : am_y yX5_handle cX5_handle 6 none 3 := ⟨am_mem 675 (by decide +kernel) (by decide +kernel), am_mem 54 (by decide +kernel) (by decide +kernel), by decide +kernel, by decide +kernel, by decide +kernel, by decide +kernel⟩
set_option maxRecDepth 100000 in
theorem ym_X5_begin : am_y yX5_begin cX5_begin 5 (some .int) 2 := ⟨am_mem 460 (by decide +kernel) (by decide +kernel), am_mem 54 (by decide +kernel) (by decide +kernel), by decide +kernel, by decide +kernel, by decide +kernel, by decide +kernel⟩
set_option maxRecDepth 100000 in
theorem fl_X5_42 : am_fld RX5 5 42 12 := ⟨TX5, 14, rfl, am_hin5, by decide, rfl, am_mem 266 (by decide +kernel) (by decide +kernel)⟩
set_option maxRecDepth 100000 in
theorem ym_X5_end : am_y yX5_end cX5_end 3 none 2 := ⟨am_mem 555 (by decide +kernel) (by decide +kernel), am_mem 54 (by decide +kernel) (by decide +kernel), by decide +kernel, by decide +kernel, by decide +kernel, by decide +kernel⟩
set_option maxRecDepth 100000 in
theorem fl_X5_48 : am_fld RX5 5 48 0 := ⟨TX5, 14, rfl, am_hin5, by decide, rfl, am_mem 254 (by decide +kernel) (by decide +kernel)⟩
set_option maxRecDepth 100000 in
theorem im_X0_behindTry : Cond.instanceMethod yX0_behindTry ∈ am_T := am_mem 548 (by decide +kernel) (by decide +kernel)
set_option maxRecDepth 100000 in
theorem se_X0_behindTry : Cond.selects yX0_behindTry.cls yX0_behindTry yX0_behindTry ∈ am_T := am_mem 549 (by decide +kernel) (by decide +kernel)
set_option maxRecDepth 100000 in
theorem ym_X5_leaveTry : am_y yX5_leaveTry cX5_leaveTry 4 (some .boolean) 2 := ⟨am_mem 546 (by decide +kernel) (by decide +kernel), am_mem 54 (by decide +kernel) (by decide +kernel), by decide +kernel, by decide +kernel, by decide +kernel, by decide +kernel⟩
set_option maxRecDepth 100000 in
theorem co_X5_102 : Cond.constantLong RX5 102 (Int64.ofInt (-1)) ∈ am_T := am_mem 684 (by decide +kernel) (by decide +kernel)
set_option maxRecDepth 100000 in
theorem im_X5_leaveTry : Cond.instanceMethod yX5_leaveTry ∈ am_T := am_mem 545 (by decide +kernel) (by decide +kernel)
set_option maxRecDepth 100000 in
theorem se_X5_leaveTry : Cond.selects yX5_leaveTry.cls yX5_leaveTry yX5_leaveTry ∈ am_T := am_mem 10 (by decide +kernel) (by decide +kernel)
set_option maxRecDepth 100000 in
theorem im_X5_end : Cond.instanceMethod yX5_end ∈ am_T := am_mem 554 (by decide +kernel) (by decide +kernel)
set_option maxRecDepth 100000 in
theorem se_X5_end : Cond.selects yX5_end.cls yX5_end yX5_end ∈ am_T := am_mem 11 (by decide +kernel) (by decide +kernel)
set_option maxRecDepth 100000 in
theorem ym_X5_resume : am_y yX5_resume cX5_resume 5 none 3 := ⟨am_mem 683 (by decide +kernel) (by decide +kernel), am_mem 54 (by decide +kernel) (by decide +kernel), by decide +kernel, by decide +kernel, by decide +kernel, by decide +kernel⟩
set_option maxRecDepth 100000 in
theorem fl_X6_26 : am_fld RX6 6 26 3 := ⟨TX6, 5, rfl, am_hin6, by decide, rfl, am_mem 185 (by decide +kernel) (by decide +kernel)⟩
set_option maxRecDepth 100000 in
theorem sk_4 : am_sk[4]? = some (.inl (6, am_ltk)) := rfl
set_option maxRecDepth 100000 in
theorem ym_X6_isFull : am_y yX6_isFull cX6_isFull 1 (some .boolean) 0 := ⟨am_mem 505 (by decide +kernel) (by decide +kernel), am_mem 51 (by decide +kernel) (by decide +kernel), by decide +kernel, by decide +kernel, by decide +kernel, by decide +kernel⟩
set_option maxRecDepth 100000 in
theorem fl_X5_45 : am_fld RX5 5 45 13 := ⟨TX5, 14, rfl, am_hin5, by decide, rfl, am_mem 267 (by decide +kernel) (by decide +kernel)⟩
set_option maxRecDepth 100000 in
theorem im_X3_isFull : Cond.instanceMethod yX3_isFull ∈ am_T := am_mem 324 (by decide +kernel) (by decide +kernel)
set_option maxRecDepth 100000 in
theorem se_X3_isFull : Cond.selects yX3_isFull.cls yX3_isFull yX3_isFull ∈ am_T := am_mem 325 (by decide +kernel) (by decide +kernel)
set_option maxRecDepth 100000 in
theorem fl_X5_56 : am_fld RX5 5 56 2 := ⟨TX5, 14, rfl, am_hin5, by decide, rfl, am_mem 256 (by decide +kernel) (by decide +kernel)⟩
set_option maxRecDepth 100000 in
theorem im_X6_isFull : Cond.instanceMethod yX6_isFull ∈ am_T := am_mem 503 (by decide +kernel) (by decide +kernel)
set_option maxRecDepth 100000 in
theorem se_X6_isFull : Cond.selects yX6_isFull.cls yX6_isFull yX6_isFull ∈ am_T := am_mem 504 (by decide +kernel) (by decide +kernel)
set_option maxRecDepth 100000 in
theorem ym_X5_faultOf : am_y yX5_faultOf cX5_faultOf 7 (some .int) 3 := ⟨am_mem 498 (by decide +kernel) (by decide +kernel), am_mem 54 (by decide +kernel) (by decide +kernel), by decide +kernel, by decide +kernel, by decide +kernel, by decide +kernel⟩
set_option maxRecDepth 100000 in
theorem ym_X5_jumpIfAbove : am_y yX5_jumpIfAbove cX5_jumpIfAbove 4 none 2 := ⟨am_mem 527 (by decide +kernel) (by decide +kernel), am_mem 54 (by decide +kernel) (by decide +kernel), by decide +kernel, by decide +kernel, by decide +kernel, by decide +kernel⟩
set_option maxRecDepth 100000 in
theorem ym_X5_jumpIfZero : am_y yX5_jumpIfZero cX5_jumpIfZero 3 none 2 := ⟨am_mem 523 (by decide +kernel) (by decide +kernel), am_mem 54 (by decide +kernel) (by decide +kernel), by decide +kernel, by decide +kernel, by decide +kernel, by decide +kernel⟩
set_option maxRecDepth 100000 in
theorem fl_X6_14 : am_fld RX6 6 14 0 := ⟨TX6, 5, rfl, am_hin6, by decide, rfl, am_mem 182 (by decide +kernel) (by decide +kernel)⟩
set_option maxRecDepth 100000 in
theorem sk_25 : am_sk[25]? = some (.inl (4, [some 58])) := rfl
set_option maxRecDepth 100000 in
theorem sk_58 : am_sk[58]? = some (.inr (2, 32)) := rfl
set_option maxRecDepth 100000 in
theorem fl_X6_20 : am_fld RX6 6 20 1 := ⟨TX6, 5, rfl, am_hin6, by decide, rfl, am_mem 183 (by decide +kernel) (by decide +kernel)⟩
set_option maxRecDepth 100000 in
theorem sk_26 : am_sk[26]? = some (.inl (4, [some 59])) := rfl
set_option maxRecDepth 100000 in
theorem sk_59 : am_sk[59]? = some (.inr (2, 32)) := rfl
set_option maxRecDepth 100000 in
theorem fl_X6_23 : am_fld RX6 6 23 2 := ⟨TX6, 5, rfl, am_hin6, by decide, rfl, am_mem 184 (by decide +kernel) (by decide +kernel)⟩
set_option maxRecDepth 100000 in
theorem fl_X6_30 : am_fld RX6 6 30 4 := ⟨TX6, 5, rfl, am_hin6, by decide, rfl, am_mem 186 (by decide +kernel) (by decide +kernel)⟩
set_option maxRecDepth 100000 in
theorem sk_27 : am_sk[27]? = some (.inl (4, [some 60])) := rfl
set_option maxRecDepth 100000 in
theorem sk_60 : am_sk[60]? = some (.inr (2, 32)) := rfl
set_option maxRecDepth 100000 in
theorem fp_X6_26 : am_fldP RX6 6 26 3 .int := ⟨TX6, 5, tyX6, rfl, am_hin6, by decide, rfl, am_mem 185 (by decide +kernel) (by decide +kernel), tyX6_ok, nmX6, rfl, rfl⟩
set_option maxRecDepth 100000 in
theorem ym_X6_add : am_y yX6_add cX6_add 5 (some .int) 3 := ⟨am_mem 518 (by decide +kernel) (by decide +kernel), am_mem 51 (by decide +kernel) (by decide +kernel), by decide +kernel, by decide +kernel, by decide +kernel, by decide +kernel⟩
set_option maxRecDepth 100000 in
theorem im_X0_valueOf : Cond.instanceMethod yX0_valueOf ∈ am_T := am_mem 484 (by decide +kernel) (by decide +kernel)
set_option maxRecDepth 100000 in
theorem se_X0_valueOf : Cond.selects yX0_valueOf.cls yX0_valueOf yX0_valueOf ∈ am_T := am_mem 485 (by decide +kernel) (by decide +kernel)
set_option maxRecDepth 100000 in
theorem fp_X5_45 : am_fldP RX5 5 45 13 .int := ⟨TX5, 14, tyX5, rfl, am_hin5, by decide, rfl, am_mem 267 (by decide +kernel) (by decide +kernel), tyX5_ok, nmX5, rfl, rfl⟩
set_option maxRecDepth 100000 in
theorem im_X5_faultOf : Cond.instanceMethod yX5_faultOf ∈ am_T := am_mem 497 (by decide +kernel) (by decide +kernel)
set_option maxRecDepth 100000 in
theorem se_X5_faultOf : Cond.selects yX5_faultOf.cls yX5_faultOf yX5_faultOf ∈ am_T := am_mem 5 (by decide +kernel) (by decide +kernel)
set_option maxRecDepth 100000 in
theorem fl_X5_60 : am_fld RX5 5 60 3 := ⟨TX5, 14, rfl, am_hin5, by decide, rfl, am_mem 257 (by decide +kernel) (by decide +kernel)⟩
set_option maxRecDepth 100000 in
theorem im_X2_add : Cond.instanceMethod yX2_add ∈ am_T := am_mem 508 (by decide +kernel) (by decide +kernel)
set_option maxRecDepth 100000 in
theorem se_X2_add : Cond.selects yX2_add.cls yX2_add yX2_add ∈ am_T := am_mem 509 (by decide +kernel) (by decide +kernel)
set_option maxRecDepth 100000 in
theorem im_X5_begin : Cond.instanceMethod yX5_begin ∈ am_T := am_mem 458 (by decide +kernel) (by decide +kernel)
set_option maxRecDepth 100000 in
theorem se_X5_begin : Cond.selects yX5_begin.cls yX5_begin yX5_begin ∈ am_T := am_mem 459 (by decide +kernel) (by decide +kernel)
set_option maxRecDepth 100000 in
theorem im_X5_addHandlers : Cond.instanceMethod yX5_addHandlers ∈ am_T := am_mem 406 (by decide +kernel) (by decide +kernel)
set_option maxRecDepth 100000 in
theorem se_X5_addHandlers : Cond.selects yX5_addHandlers.cls yX5_addHandlers yX5_addHandlers ∈ am_T := am_mem 407 (by decide +kernel) (by decide +kernel)
set_option maxRecDepth 100000 in
theorem im_X6_add : Cond.instanceMethod yX6_add ∈ am_T := am_mem 516 (by decide +kernel) (by decide +kernel)
set_option maxRecDepth 100000 in
theorem se_X6_add : Cond.selects yX6_add.cls yX6_add yX6_add ∈ am_T := am_mem 517 (by decide +kernel) (by decide +kernel)
set_option maxRecDepth 100000 in
theorem im_X5_jumpIfZero : Cond.instanceMethod yX5_jumpIfZero ∈ am_T := am_mem 522 (by decide +kernel) (by decide +kernel)
set_option maxRecDepth 100000 in
theorem se_X5_jumpIfZero : Cond.selects yX5_jumpIfZero.cls yX5_jumpIfZero yX5_jumpIfZero ∈ am_T := am_mem 6 (by decide +kernel) (by decide +kernel)
set_option maxRecDepth 100000 in
theorem im_X5_jumpIfAbove : Cond.instanceMethod yX5_jumpIfAbove ∈ am_T := am_mem 526 (by decide +kernel) (by decide +kernel)
set_option maxRecDepth 100000 in
theorem se_X5_jumpIfAbove : Cond.selects yX5_jumpIfAbove.cls yX5_jumpIfAbove yX5_jumpIfAbove ∈ am_T := am_mem 7 (by decide +kernel) (by decide +kernel)
set_option maxRecDepth 100000 in
theorem ym_X5_doStep : am_y yX5_doStep cX5_doStep 10 (some .int) 2 := ⟨am_mem 478 (by decide +kernel) (by decide +kernel), am_mem 54 (by decide +kernel) (by decide +kernel), by decide +kernel, by decide +kernel, by decide +kernel, by decide +kernel⟩
set_option maxRecDepth 100000 in
theorem ym_X5_giveZero : am_y yX5_giveZero cX5_giveZero 2 (some .int) 1 := ⟨am_mem 531 (by decide +kernel) (by decide +kernel), am_mem 54 (by decide +kernel) (by decide +kernel), by decide +kernel, by decide +kernel, by decide +kernel, by decide +kernel⟩
set_option maxRecDepth 100000 in
theorem ym_X5_stop : am_y yX5_stop cX5_stop 2 none 1 := ⟨am_mem 535 (by decide +kernel) (by decide +kernel), am_mem 54 (by decide +kernel) (by decide +kernel), by decide +kernel, by decide +kernel, by decide +kernel, by decide +kernel⟩
set_option maxRecDepth 100000 in
theorem co_X5_111 : Cond.constant RX5 111 (Int32.ofInt 1000000) ∈ am_T := am_mem 469 (by decide +kernel) (by decide +kernel)
set_option maxRecDepth 100000 in
theorem im_X0_sizeOf : Cond.instanceMethod yX0_sizeOf ∈ am_T := am_mem 472 (by decide +kernel) (by decide +kernel)
set_option maxRecDepth 100000 in
theorem se_X0_sizeOf : Cond.selects yX0_sizeOf.cls yX0_sizeOf yX0_sizeOf ∈ am_T := am_mem 473 (by decide +kernel) (by decide +kernel)
set_option maxRecDepth 100000 in
theorem im_X5_giveZero : Cond.instanceMethod yX5_giveZero ∈ am_T := am_mem 530 (by decide +kernel) (by decide +kernel)
set_option maxRecDepth 100000 in
theorem se_X5_giveZero : Cond.selects yX5_giveZero.cls yX5_giveZero yX5_giveZero ∈ am_T := am_mem 8 (by decide +kernel) (by decide +kernel)
set_option maxRecDepth 100000 in
theorem im_X5_stop : Cond.instanceMethod yX5_stop ∈ am_T := am_mem 534 (by decide +kernel) (by decide +kernel)
set_option maxRecDepth 100000 in
theorem se_X5_stop : Cond.selects yX5_stop.cls yX5_stop yX5_stop ∈ am_T := am_mem 9 (by decide +kernel) (by decide +kernel)
set_option maxRecDepth 100000 in
theorem im_X5_doStep : Cond.instanceMethod yX5_doStep ∈ am_T := am_mem 477 (by decide +kernel) (by decide +kernel)
set_option maxRecDepth 100000 in
theorem se_X5_doStep : Cond.selects yX5_doStep.cls yX5_doStep yX5_doStep ∈ am_T := am_mem 4 (by decide +kernel) (by decide +kernel)
set_option maxRecDepth 100000 in
theorem ym_X5_goOn : am_y yX5_goOn cX5_goOn 5 none 0 := ⟨am_mem 468 (by decide +kernel) (by decide +kernel), am_mem 54 (by decide +kernel) (by decide +kernel), by decide +kernel, by decide +kernel, by decide +kernel, by decide +kernel⟩
set_option maxRecDepth 100000 in
theorem fp_X6_30 : am_fldP RX6 6 30 4 .int := ⟨TX6, 5, tyX6, rfl, am_hin6, by decide, rfl, am_mem 186 (by decide +kernel) (by decide +kernel), tyX6_ok, nmX6, rfl, rfl⟩
set_option maxRecDepth 100000 in
theorem ym_X6_clear : am_y yX6_clear cX6_clear 1 none 0 := ⟨am_mem 729 (by decide +kernel) (by decide +kernel), am_mem 51 (by decide +kernel) (by decide +kernel), by decide +kernel, by decide +kernel, by decide +kernel, by decide +kernel⟩
set_option maxRecDepth 100000 in
theorem ym_X6_size : am_y yX6_size cX6_size 1 (some .int) 0 := ⟨am_mem 612 (by decide +kernel) (by decide +kernel), am_mem 51 (by decide +kernel) (by decide +kernel), by decide +kernel, by decide +kernel, by decide +kernel, by decide +kernel⟩
set_option maxRecDepth 100000 in
theorem ym_X6_time : am_y yX6_time cX6_time 1 (some .int) 0 := ⟨am_mem 793 (by decide +kernel) (by decide +kernel), am_mem 51 (by decide +kernel) (by decide +kernel), by decide +kernel, by decide +kernel, by decide +kernel, by decide +kernel⟩
set_option maxRecDepth 100000 in
theorem ym_X6_dueFirst : am_y yX6_dueFirst cX6_dueFirst 3 (some .int) 0 := ⟨am_mem 694 (by decide +kernel) (by decide +kernel), am_mem 51 (by decide +kernel) (by decide +kernel), by decide +kernel, by decide +kernel, by decide +kernel, by decide +kernel⟩
set_option maxRecDepth 100000 in
theorem ym_X6_functionOf : am_y yX6_functionOf cX6_functionOf 2 (some .int) 1 := ⟨am_mem 703 (by decide +kernel) (by decide +kernel), am_mem 51 (by decide +kernel) (by decide +kernel), by decide +kernel, by decide +kernel, by decide +kernel, by decide +kernel⟩
set_option maxRecDepth 100000 in
theorem ym_X6_valueOf : am_y yX6_valueOf cX6_valueOf 2 (some .long) 1 := ⟨am_mem 707 (by decide +kernel) (by decide +kernel), am_mem 51 (by decide +kernel) (by decide +kernel), by decide +kernel, by decide +kernel, by decide +kernel, by decide +kernel⟩
set_option maxRecDepth 100000 in
theorem st_M_max : Cond.static Lib.Math.max.name ∈ am_T := am_mem 715 (by decide +kernel) (by decide +kernel)
set_option maxRecDepth 100000 in
theorem cod_M_max : Cond.code Lib.Math.max.name Lib.Math.max.code 2 (some .int) ∈ am_T := am_mem 716 (by decide +kernel) (by decide +kernel)
set_option maxRecDepth 100000 in
theorem ym_X6_finish : am_y yX6_finish cX6_finish 3 none 1 := ⟨am_mem 713 (by decide +kernel) (by decide +kernel), am_mem 51 (by decide +kernel) (by decide +kernel), by decide +kernel, by decide +kernel, by decide +kernel, by decide +kernel⟩
set_option maxRecDepth 100000 in
theorem fl_X7_14 : am_fld RX7 7 14 0 := ⟨TX7, 3, rfl, am_hin7, by decide, rfl, am_mem 146 (by decide +kernel) (by decide +kernel)⟩
set_option maxRecDepth 100000 in
theorem sk_2 : am_sk[2]? = some (.inl (7, am_lt9)) := rfl
set_option maxRecDepth 100000 in
theorem co_X7_29 : Cond.constantLong RX7 29 (Int64.ofInt 3) ∈ am_T := am_mem 141 (by decide +kernel) (by decide +kernel)
set_option maxRecDepth 100000 in
theorem sk_19 : am_sk[19]? = some (.inl (4, [some 52])) := rfl
set_option maxRecDepth 100000 in
theorem sk_52 : am_sk[52]? = some (.inr (2, 4)) := rfl
set_option maxRecDepth 100000 in
theorem ym_X7_clear : am_y yX7_clear cX7_clear 1 none 0 := ⟨am_mem 140 (by decide +kernel) (by decide +kernel), am_mem 49 (by decide +kernel) (by decide +kernel), by decide +kernel, by decide +kernel, by decide +kernel, by decide +kernel⟩
set_option maxRecDepth 100000 in
theorem fl_X7_20 : am_fld RX7 7 20 1 := ⟨TX7, 3, rfl, am_hin7, by decide, rfl, am_mem 147 (by decide +kernel) (by decide +kernel)⟩
set_option maxRecDepth 100000 in
theorem sk_20 : am_sk[20]? = some (.inl (4, [some 53])) := rfl
set_option maxRecDepth 100000 in
theorem sk_53 : am_sk[53]? = some (.inr (2, 4)) := rfl
set_option maxRecDepth 100000 in
theorem fl_X7_23 : am_fld RX7 7 23 2 := ⟨TX7, 3, rfl, am_hin7, by decide, rfl, am_mem 148 (by decide +kernel) (by decide +kernel)⟩
set_option maxRecDepth 100000 in
theorem sk_21 : am_sk[21]? = some (.inl (4, [some 54])) := rfl
set_option maxRecDepth 100000 in
theorem sk_54 : am_sk[54]? = some (.inr (2, 4)) := rfl
set_option maxRecDepth 100000 in
theorem ym_X7_change : am_y yX7_change cX7_change 7 none 4 := ⟨am_mem 423 (by decide +kernel) (by decide +kernel), am_mem 49 (by decide +kernel) (by decide +kernel), by decide +kernel, by decide +kernel, by decide +kernel, by decide +kernel⟩
set_option maxRecDepth 100000 in
theorem ym_X7_kindOf : am_y yX7_kindOf cX7_kindOf 2 (some .int) 1 := ⟨am_mem 657 (by decide +kernel) (by decide +kernel), am_mem 49 (by decide +kernel) (by decide +kernel), by decide +kernel, by decide +kernel, by decide +kernel, by decide +kernel⟩
set_option maxRecDepth 100000 in
theorem ym_X7_uOf : am_y yX7_uOf cX7_uOf 2 (some .long) 1 := ⟨am_mem 662 (by decide +kernel) (by decide +kernel), am_mem 49 (by decide +kernel) (by decide +kernel), by decide +kernel, by decide +kernel, by decide +kernel, by decide +kernel⟩
set_option maxRecDepth 100000 in
theorem ym_X7_wOf : am_y yX7_wOf cX7_wOf 2 (some .long) 1 := ⟨am_mem 667 (by decide +kernel) (by decide +kernel), am_mem 49 (by decide +kernel) (by decide +kernel), by decide +kernel, by decide +kernel, by decide +kernel, by decide +kernel⟩
set_option maxRecDepth 100000 in
theorem fl_X9_12 : am_fld RX9 8 12 0 := ⟨TX9, 7, rfl, am_hin9, by decide, rfl, am_mem 297 (by decide +kernel) (by decide +kernel)⟩
set_option maxRecDepth 100000 in
theorem sk_0 : am_sk[0]? = some (.inl (8, am_lj)) := rfl
set_option maxRecDepth 100000 in
theorem ym_X9_promise : am_y yX9_promise cX9_promise 1 (some .int) 0 := ⟨am_mem 322 (by decide +kernel) (by decide +kernel), am_mem 46 (by decide +kernel) (by decide +kernel), by decide +kernel, by decide +kernel, by decide +kernel, by decide +kernel⟩
set_option maxRecDepth 100000 in
theorem ym_X9_isValue : am_y yX9_isValue cX9_isValue 3 (some .boolean) 2 := ⟨am_mem 353 (by decide +kernel) (by decide +kernel), am_mem 46 (by decide +kernel) (by decide +kernel), by decide +kernel, by decide +kernel, by decide +kernel, by decide +kernel⟩
set_option maxRecDepth 100000 in
theorem im_X9_isValue : Cond.instanceMethod yX9_isValue ∈ am_T := am_mem 352 (by decide +kernel) (by decide +kernel)
set_option maxRecDepth 100000 in
theorem se_X9_isValue : Cond.selects yX9_isValue.cls yX9_isValue yX9_isValue ∈ am_T := am_mem 1 (by decide +kernel) (by decide +kernel)
set_option maxRecDepth 100000 in
theorem ym_X9_settleFromOutside : am_y yX9_settleFromOutside cX9_settleFromOutside 5 (some .boolean) 4 := ⟨am_mem 342 (by decide +kernel) (by decide +kernel), am_mem 46 (by decide +kernel) (by decide +kernel), by decide +kernel, by decide +kernel, by decide +kernel, by decide +kernel⟩
set_option maxRecDepth 100000 in
theorem im_X9_settleFromOutside : Cond.instanceMethod yX9_settleFromOutside ∈ am_T := am_mem 341 (by decide +kernel) (by decide +kernel)
set_option maxRecDepth 100000 in
theorem se_X9_settleFromOutside : Cond.selects yX9_settleFromOutside.cls yX9_settleFromOutside yX9_settleFromOutside ∈ am_T := am_mem 0 (by decide +kernel) (by decide +kernel)
set_option maxRecDepth 100000 in
theorem ym_X9_resolve : am_y yX9_resolve cX9_resolve 4 (some .boolean) 3 := ⟨am_mem 338 (by decide +kernel) (by decide +kernel), am_mem 46 (by decide +kernel) (by decide +kernel), by decide +kernel, by decide +kernel, by decide +kernel, by decide +kernel⟩
set_option maxRecDepth 100000 in
theorem ym_X9_reject : am_y yX9_reject cX9_reject 4 (some .boolean) 3 := ⟨am_mem 393 (by decide +kernel) (by decide +kernel), am_mem 46 (by decide +kernel) (by decide +kernel), by decide +kernel, by decide +kernel, by decide +kernel, by decide +kernel⟩
set_option maxRecDepth 100000 in
theorem ym_X9_isHandler : am_y yX9_isHandler cX9_isHandler 1 (some .boolean) 1 := ⟨am_mem 400 (by decide +kernel) (by decide +kernel), am_mem 46 (by decide +kernel) (by decide +kernel), by decide +kernel, by decide +kernel, by decide +kernel, by decide +kernel⟩
set_option maxRecDepth 100000 in
theorem st_X9_isHandler : Cond.static yX9_isHandler ∈ am_T := am_mem 399 (by decide +kernel) (by decide +kernel)
set_option maxRecDepth 100000 in
theorem fl_X9_58 : am_fld RX9 8 58 6 := ⟨TX9, 7, rfl, am_hin9, by decide, rfl, am_mem 303 (by decide +kernel) (by decide +kernel)⟩
set_option maxRecDepth 100000 in
theorem ym_X9_then : am_y yX9_then cX9_then 4 (some .int) 3 := ⟨am_mem 397 (by decide +kernel) (by decide +kernel), am_mem 46 (by decide +kernel) (by decide +kernel), by decide +kernel, by decide +kernel, by decide +kernel, by decide +kernel⟩
set_option maxRecDepth 100000 in
theorem fl_X9_19 : am_fld RX9 8 19 1 := ⟨TX9, 7, rfl, am_hin9, by decide, rfl, am_mem 298 (by decide +kernel) (by decide +kernel)⟩
set_option maxRecDepth 100000 in
theorem im_X7_change : Cond.instanceMethod yX7_change ∈ am_T := am_mem 421 (by decide +kernel) (by decide +kernel)
set_option maxRecDepth 100000 in
theorem se_X7_change : Cond.selects yX7_change.cls yX7_change yX7_change ∈ am_T := am_mem 422 (by decide +kernel) (by decide +kernel)
set_option maxRecDepth 100000 in
theorem ym_X9_thenable : am_y yX9_thenable cX9_thenable 7 (some .boolean) 6 := ⟨am_mem 419 (by decide +kernel) (by decide +kernel), am_mem 46 (by decide +kernel) (by decide +kernel), by decide +kernel, by decide +kernel, by decide +kernel, by decide +kernel⟩
set_option maxRecDepth 100000 in
theorem st_X0_mayBeStep : Cond.static yX0_mayBeStep ∈ am_T := am_mem 430 (by decide +kernel) (by decide +kernel)
set_option maxRecDepth 100000 in
theorem fl_X9_26 : am_fld RX9 8 26 2 := ⟨TX9, 7, rfl, am_hin9, by decide, rfl, am_mem 299 (by decide +kernel) (by decide +kernel)⟩
set_option maxRecDepth 100000 in
theorem im_X0_isFull : Cond.instanceMethod yX0_isFull ∈ am_T := am_mem 436 (by decide +kernel) (by decide +kernel)
set_option maxRecDepth 100000 in
theorem se_X0_isFull : Cond.selects yX0_isFull.cls yX0_isFull yX0_isFull ∈ am_T := am_mem 437 (by decide +kernel) (by decide +kernel)
set_option maxRecDepth 100000 in
theorem im_X0_add : Cond.instanceMethod yX0_add ∈ am_T := am_mem 441 (by decide +kernel) (by decide +kernel)
set_option maxRecDepth 100000 in
theorem se_X0_add : Cond.selects yX0_add.cls yX0_add yX0_add ∈ am_T := am_mem 442 (by decide +kernel) (by decide +kernel)
set_option maxRecDepth 100000 in
theorem ym_X9_step : am_y yX9_step cX9_step 5 (some .int) 4 := ⟨am_mem 428 (by decide +kernel) (by decide +kernel), am_mem 46 (by decide +kernel) (by decide +kernel), by decide +kernel, by decide +kernel, by decide +kernel, by decide +kernel⟩
set_option maxRecDepth 100000 in
theorem im_X0_removeAll : Cond.instanceMethod yX0_removeAll ∈ am_T := am_mem 450 (by decide +kernel) (by decide +kernel)
set_option maxRecDepth 100000 in
theorem se_X0_removeAll : Cond.selects yX0_removeAll.cls yX0_removeAll yX0_removeAll ∈ am_T := am_mem 451 (by decide +kernel) (by decide +kernel)
set_option maxRecDepth 100000 in
theorem ym_X9_empty : am_y yX9_empty cX9_empty 2 (some .int) 1 := ⟨am_mem 448 (by decide +kernel) (by decide +kernel), am_mem 46 (by decide +kernel) (by decide +kernel), by decide +kernel, by decide +kernel, by decide +kernel, by decide +kernel⟩
set_option maxRecDepth 100000 in
theorem im_X5_goOn : Cond.instanceMethod yX5_goOn ∈ am_T := am_mem 466 (by decide +kernel) (by decide +kernel)
set_option maxRecDepth 100000 in
theorem se_X5_goOn : Cond.selects yX5_goOn.cls yX5_goOn yX5_goOn ∈ am_T := am_mem 467 (by decide +kernel) (by decide +kernel)
set_option maxRecDepth 100000 in
theorem ym_X9_start : am_y yX9_start cX9_start 5 (some .int) 3 := ⟨am_mem 456 (by decide +kernel) (by decide +kernel), am_mem 46 (by decide +kernel) (by decide +kernel), by decide +kernel, by decide +kernel, by decide +kernel, by decide +kernel⟩
set_option maxRecDepth 100000 in
theorem fl_X9_33 : am_fld RX9 8 33 3 := ⟨TX9, 7, rfl, am_hin9, by decide, rfl, am_mem 300 (by decide +kernel) (by decide +kernel)⟩
set_option maxRecDepth 100000 in
theorem ym_X9_later : am_y yX9_later cX9_later 5 (some .int) 4 := ⟨am_mem 559 (by decide +kernel) (by decide +kernel), am_mem 46 (by decide +kernel) (by decide +kernel), by decide +kernel, by decide +kernel, by decide +kernel, by decide +kernel⟩
set_option maxRecDepth 100000 in
theorem fl_X9_49 : am_fld RX9 8 49 5 := ⟨TX9, 7, rfl, am_hin9, by decide, rfl, am_mem 302 (by decide +kernel) (by decide +kernel)⟩
set_option maxRecDepth 100000 in
theorem im_X1_isFull : Cond.instanceMethod yX1_isFull ∈ am_T := am_mem 567 (by decide +kernel) (by decide +kernel)
set_option maxRecDepth 100000 in
theorem se_X1_isFull : Cond.selects yX1_isFull.cls yX1_isFull yX1_isFull ∈ am_T := am_mem 568 (by decide +kernel) (by decide +kernel)
set_option maxRecDepth 100000 in
theorem im_X1_addItem : Cond.instanceMethod yX1_addItem ∈ am_T := am_mem 571 (by decide +kernel) (by decide +kernel)
set_option maxRecDepth 100000 in
theorem se_X1_addItem : Cond.selects yX1_addItem.cls yX1_addItem yX1_addItem ∈ am_T := am_mem 572 (by decide +kernel) (by decide +kernel)
set_option maxRecDepth 100000 in
theorem ym_X9_item : am_y yX9_item cX9_item 3 (some .int) 2 := ⟨am_mem 565 (by decide +kernel) (by decide +kernel), am_mem 46 (by decide +kernel) (by decide +kernel), by decide +kernel, by decide +kernel, by decide +kernel, by decide +kernel⟩
set_option maxRecDepth 100000 in
theorem im_X1_hasRoom : Cond.instanceMethod yX1_hasRoom ∈ am_T := am_mem 580 (by decide +kernel) (by decide +kernel)
set_option maxRecDepth 100000 in
theorem se_X1_hasRoom : Cond.selects yX1_hasRoom.cls yX1_hasRoom yX1_hasRoom ∈ am_T := am_mem 581 (by decide +kernel) (by decide +kernel)
set_option maxRecDepth 100000 in
theorem im_X1_form : Cond.instanceMethod yX1_form ∈ am_T := am_mem 587 (by decide +kernel) (by decide +kernel)
set_option maxRecDepth 100000 in
theorem se_X1_form : Cond.selects yX1_form.cls yX1_form yX1_form ∈ am_T := am_mem 588 (by decide +kernel) (by decide +kernel)
set_option maxRecDepth 100000 in
theorem ym_X9_group : am_y yX9_group cX9_group 2 (some .int) 1 := ⟨am_mem 578 (by decide +kernel) (by decide +kernel), am_mem 46 (by decide +kernel) (by decide +kernel), by decide +kernel, by decide +kernel, by decide +kernel, by decide +kernel⟩
set_option maxRecDepth 100000 in
theorem im_X7_kindOf : Cond.instanceMethod yX7_kindOf ∈ am_T := am_mem 655 (by decide +kernel) (by decide +kernel)
set_option maxRecDepth 100000 in
theorem se_X7_kindOf : Cond.selects yX7_kindOf.cls yX7_kindOf yX7_kindOf ∈ am_T := am_mem 656 (by decide +kernel) (by decide +kernel)
set_option maxRecDepth 100000 in
theorem im_X7_uOf : Cond.instanceMethod yX7_uOf ∈ am_T := am_mem 660 (by decide +kernel) (by decide +kernel)
set_option maxRecDepth 100000 in
theorem se_X7_uOf : Cond.selects yX7_uOf.cls yX7_uOf yX7_uOf ∈ am_T := am_mem 661 (by decide +kernel) (by decide +kernel)
set_option maxRecDepth 100000 in
theorem im_X7_wOf : Cond.instanceMethod yX7_wOf ∈ am_T := am_mem 665 (by decide +kernel) (by decide +kernel)
set_option maxRecDepth 100000 in
theorem se_X7_wOf : Cond.selects yX7_wOf.cls yX7_wOf yX7_wOf ∈ am_T := am_mem 666 (by decide +kernel) (by decide +kernel)
set_option maxRecDepth 100000 in
theorem ym_X9_adopt : am_y yX9_adopt cX9_adopt 6 none 3 := ⟨am_mem 649 (by decide +kernel) (by decide +kernel), am_mem 46 (by decide +kernel) (by decide +kernel), by decide +kernel, by decide +kernel, by decide +kernel, by decide +kernel⟩
set_option maxRecDepth 100000 in
theorem im_X3_sourceOf : Cond.instanceMethod yX3_sourceOf ∈ am_T := am_mem 626 (by decide +kernel) (by decide +kernel)
set_option maxRecDepth 100000 in
theorem se_X3_sourceOf : Cond.selects yX3_sourceOf.cls yX3_sourceOf yX3_sourceOf ∈ am_T := am_mem 627 (by decide +kernel) (by decide +kernel)
set_option maxRecDepth 100000 in
theorem im_X3_statusOf : Cond.instanceMethod yX3_statusOf ∈ am_T := am_mem 630 (by decide +kernel) (by decide +kernel)
set_option maxRecDepth 100000 in
theorem se_X3_statusOf : Cond.selects yX3_statusOf.cls yX3_statusOf yX3_statusOf ∈ am_T := am_mem 631 (by decide +kernel) (by decide +kernel)
set_option maxRecDepth 100000 in
theorem im_X3_valueOf : Cond.instanceMethod yX3_valueOf ∈ am_T := am_mem 634 (by decide +kernel) (by decide +kernel)
set_option maxRecDepth 100000 in
theorem se_X3_valueOf : Cond.selects yX3_valueOf.cls yX3_valueOf yX3_valueOf ∈ am_T := am_mem 635 (by decide +kernel) (by decide +kernel)
set_option maxRecDepth 100000 in
theorem im_X1_settlePlace : Cond.instanceMethod yX1_settlePlace ∈ am_T := am_mem 686 (by decide +kernel) (by decide +kernel)
set_option maxRecDepth 100000 in
theorem se_X1_settlePlace : Cond.selects yX1_settlePlace.cls yX1_settlePlace yX1_settlePlace ∈ am_T := am_mem 687 (by decide +kernel) (by decide +kernel)
set_option maxRecDepth 100000 in
theorem im_X3_toAdopt : Cond.instanceMethod yX3_toAdopt ∈ am_T := am_mem 639 (by decide +kernel) (by decide +kernel)
set_option maxRecDepth 100000 in
theorem se_X3_toAdopt : Cond.selects yX3_toAdopt.cls yX3_toAdopt yX3_toAdopt ∈ am_T := am_mem 640 (by decide +kernel) (by decide +kernel)
set_option maxRecDepth 100000 in
theorem im_X3_addKey : Cond.instanceMethod yX3_addKey ∈ am_T := am_mem 643 (by decide +kernel) (by decide +kernel)
set_option maxRecDepth 100000 in
theorem se_X3_addKey : Cond.selects yX3_addKey.cls yX3_addKey yX3_addKey ∈ am_T := am_mem 644 (by decide +kernel) (by decide +kernel)
set_option maxRecDepth 100000 in
theorem im_X9_adopt : Cond.instanceMethod yX9_adopt ∈ am_T := am_mem 648 (by decide +kernel) (by decide +kernel)
set_option maxRecDepth 100000 in
theorem se_X9_adopt : Cond.selects yX9_adopt.cls yX9_adopt yX9_adopt ∈ am_T := am_mem 13 (by decide +kernel) (by decide +kernel)
set_option maxRecDepth 100000 in
theorem im_X3_lastKeyOf : Cond.instanceMethod yX3_lastKeyOf ∈ am_T := am_mem 669 (by decide +kernel) (by decide +kernel)
set_option maxRecDepth 100000 in
theorem se_X3_lastKeyOf : Cond.selects yX3_lastKeyOf.cls yX3_lastKeyOf yX3_lastKeyOf ∈ am_T := am_mem 670 (by decide +kernel) (by decide +kernel)
set_option maxRecDepth 100000 in
theorem im_X5_handle : Cond.instanceMethod yX5_handle ∈ am_T := am_mem 673 (by decide +kernel) (by decide +kernel)
set_option maxRecDepth 100000 in
theorem se_X5_handle : Cond.selects yX5_handle.cls yX5_handle yX5_handle ∈ am_T := am_mem 674 (by decide +kernel) (by decide +kernel)
set_option maxRecDepth 100000 in
theorem im_X5_resume : Cond.instanceMethod yX5_resume ∈ am_T := am_mem 681 (by decide +kernel) (by decide +kernel)
set_option maxRecDepth 100000 in
theorem se_X5_resume : Cond.selects yX5_resume.cls yX5_resume yX5_resume ∈ am_T := am_mem 682 (by decide +kernel) (by decide +kernel)
set_option maxRecDepth 100000 in
theorem ym_X9_doJob : am_y yX9_doJob cX9_doJob 8 none 1 := ⟨am_mem 624 (by decide +kernel) (by decide +kernel), am_mem 46 (by decide +kernel) (by decide +kernel), by decide +kernel, by decide +kernel, by decide +kernel, by decide +kernel⟩
set_option maxRecDepth 100000 in
theorem im_X6_functionOf : Cond.instanceMethod yX6_functionOf ∈ am_T := am_mem 701 (by decide +kernel) (by decide +kernel)
set_option maxRecDepth 100000 in
theorem se_X6_functionOf : Cond.selects yX6_functionOf.cls yX6_functionOf yX6_functionOf ∈ am_T := am_mem 702 (by decide +kernel) (by decide +kernel)
set_option maxRecDepth 100000 in
theorem im_X6_valueOf : Cond.instanceMethod yX6_valueOf ∈ am_T := am_mem 705 (by decide +kernel) (by decide +kernel)
set_option maxRecDepth 100000 in
theorem se_X6_valueOf : Cond.selects yX6_valueOf.cls yX6_valueOf yX6_valueOf ∈ am_T := am_mem 706 (by decide +kernel) (by decide +kernel)
set_option maxRecDepth 100000 in
theorem im_X6_finish : Cond.instanceMethod yX6_finish ∈ am_T := am_mem 711 (by decide +kernel) (by decide +kernel)
set_option maxRecDepth 100000 in
theorem se_X6_finish : Cond.selects yX6_finish.cls yX6_finish yX6_finish ∈ am_T := am_mem 712 (by decide +kernel) (by decide +kernel)
set_option maxRecDepth 100000 in
theorem ym_X9_doTask : am_y yX9_doTask cX9_doTask 2 none 1 := ⟨am_mem 699 (by decide +kernel) (by decide +kernel), am_mem 46 (by decide +kernel) (by decide +kernel), by decide +kernel, by decide +kernel, by decide +kernel, by decide +kernel⟩
set_option maxRecDepth 100000 in
theorem im_X3_jobs : Cond.instanceMethod yX3_jobs ∈ am_T := am_mem 606 (by decide +kernel) (by decide +kernel)
set_option maxRecDepth 100000 in
theorem se_X3_jobs : Cond.selects yX3_jobs.cls yX3_jobs yX3_jobs ∈ am_T := am_mem 607 (by decide +kernel) (by decide +kernel)
set_option maxRecDepth 100000 in
theorem fl_X9_40 : am_fld RX9 8 40 4 := ⟨TX9, 7, rfl, am_hin9, by decide, rfl, am_mem 301 (by decide +kernel) (by decide +kernel)⟩
set_option maxRecDepth 100000 in
theorem im_X2_beginTurn : Cond.instanceMethod yX2_beginTurn ∈ am_T := am_mem 614 (by decide +kernel) (by decide +kernel)
set_option maxRecDepth 100000 in
theorem se_X2_beginTurn : Cond.selects yX2_beginTurn.cls yX2_beginTurn yX2_beginTurn ∈ am_T := am_mem 615 (by decide +kernel) (by decide +kernel)
set_option maxRecDepth 100000 in
theorem im_X6_dueFirst : Cond.instanceMethod yX6_dueFirst ∈ am_T := am_mem 692 (by decide +kernel) (by decide +kernel)
set_option maxRecDepth 100000 in
theorem se_X6_dueFirst : Cond.selects yX6_dueFirst.cls yX6_dueFirst yX6_dueFirst ∈ am_T := am_mem 693 (by decide +kernel) (by decide +kernel)
set_option maxRecDepth 100000 in
theorem im_X9_doTask : Cond.instanceMethod yX9_doTask ∈ am_T := am_mem 698 (by decide +kernel) (by decide +kernel)
set_option maxRecDepth 100000 in
theorem se_X9_doTask : Cond.selects yX9_doTask.cls yX9_doTask yX9_doTask ∈ am_T := am_mem 14 (by decide +kernel) (by decide +kernel)
set_option maxRecDepth 100000 in
theorem im_X3_takeJob : Cond.instanceMethod yX3_takeJob ∈ am_T := am_mem 618 (by decide +kernel) (by decide +kernel)
set_option maxRecDepth 100000 in
theorem se_X3_takeJob : Cond.selects yX3_takeJob.cls yX3_takeJob yX3_takeJob ∈ am_T := am_mem 619 (by decide +kernel) (by decide +kernel)
set_option maxRecDepth 100000 in
theorem im_X9_doJob : Cond.instanceMethod yX9_doJob ∈ am_T := am_mem 623 (by decide +kernel) (by decide +kernel)
set_option maxRecDepth 100000 in
theorem se_X9_doJob : Cond.selects yX9_doJob.cls yX9_doJob yX9_doJob ∈ am_T := am_mem 12 (by decide +kernel) (by decide +kernel)
set_option maxRecDepth 100000 in
theorem im_X6_size : Cond.instanceMethod yX6_size ∈ am_T := am_mem 610 (by decide +kernel) (by decide +kernel)
set_option maxRecDepth 100000 in
theorem se_X6_size : Cond.selects yX6_size.cls yX6_size yX6_size ∈ am_T := am_mem 611 (by decide +kernel) (by decide +kernel)
set_option maxRecDepth 100000 in
theorem ym_X9_run : am_y yX9_run cX9_run 3 (some .int) 1 := ⟨am_mem 604 (by decide +kernel) (by decide +kernel), am_mem 46 (by decide +kernel) (by decide +kernel), by decide +kernel, by decide +kernel, by decide +kernel, by decide +kernel⟩
set_option maxRecDepth 100000 in
theorem im_X3_clear : Cond.instanceMethod yX3_clear ∈ am_T := am_mem 722 (by decide +kernel) (by decide +kernel)
set_option maxRecDepth 100000 in
theorem se_X3_clear : Cond.selects yX3_clear.cls yX3_clear yX3_clear ∈ am_T := am_mem 723 (by decide +kernel) (by decide +kernel)
set_option maxRecDepth 100000 in
theorem im_X7_clear : Cond.instanceMethod yX7_clear ∈ am_T := am_mem 138 (by decide +kernel) (by decide +kernel)
set_option maxRecDepth 100000 in
theorem se_X7_clear : Cond.selects yX7_clear.cls yX7_clear yX7_clear ∈ am_T := am_mem 139 (by decide +kernel) (by decide +kernel)
set_option maxRecDepth 100000 in
theorem im_X6_clear : Cond.instanceMethod yX6_clear ∈ am_T := am_mem 727 (by decide +kernel) (by decide +kernel)
set_option maxRecDepth 100000 in
theorem se_X6_clear : Cond.selects yX6_clear.cls yX6_clear yX6_clear ∈ am_T := am_mem 728 (by decide +kernel) (by decide +kernel)
set_option maxRecDepth 100000 in
theorem im_X2_clear : Cond.instanceMethod yX2_clear ∈ am_T := am_mem 731 (by decide +kernel) (by decide +kernel)
set_option maxRecDepth 100000 in
theorem se_X2_clear : Cond.selects yX2_clear.cls yX2_clear yX2_clear ∈ am_T := am_mem 732 (by decide +kernel) (by decide +kernel)
set_option maxRecDepth 100000 in
theorem im_X1_clear : Cond.instanceMethod yX1_clear ∈ am_T := am_mem 735 (by decide +kernel) (by decide +kernel)
set_option maxRecDepth 100000 in
theorem se_X1_clear : Cond.selects yX1_clear.cls yX1_clear yX1_clear ∈ am_T := am_mem 736 (by decide +kernel) (by decide +kernel)
set_option maxRecDepth 100000 in
theorem im_X5_clear : Cond.instanceMethod yX5_clear ∈ am_T := am_mem 739 (by decide +kernel) (by decide +kernel)
set_option maxRecDepth 100000 in
theorem se_X5_clear : Cond.selects yX5_clear.cls yX5_clear yX5_clear ∈ am_T := am_mem 740 (by decide +kernel) (by decide +kernel)
set_option maxRecDepth 100000 in
theorem ym_X9_forget : am_y yX9_forget cX9_forget 2 (some .int) 0 := ⟨am_mem 720 (by decide +kernel) (by decide +kernel), am_mem 46 (by decide +kernel) (by decide +kernel), by decide +kernel, by decide +kernel, by decide +kernel, by decide +kernel⟩
set_option maxRecDepth 100000 in
theorem im_X3_reactionsOf : Cond.instanceMethod yX3_reactionsOf ∈ am_T := am_mem 752 (by decide +kernel) (by decide +kernel)
set_option maxRecDepth 100000 in
theorem se_X3_reactionsOf : Cond.selects yX3_reactionsOf.cls yX3_reactionsOf yX3_reactionsOf ∈ am_T := am_mem 753 (by decide +kernel) (by decide +kernel)
set_option maxRecDepth 100000 in
theorem im_X5_isStopped : Cond.instanceMethod yX5_isStopped ∈ am_T := am_mem 757 (by decide +kernel) (by decide +kernel)
set_option maxRecDepth 100000 in
theorem se_X5_isStopped : Cond.selects yX5_isStopped.cls yX5_isStopped yX5_isStopped ∈ am_T := am_mem 758 (by decide +kernel) (by decide +kernel)
set_option maxRecDepth 100000 in
theorem ym_X9_state : am_y yX9_state cX9_state 4 (some .int) 2 := ⟨am_mem 746 (by decide +kernel) (by decide +kernel), am_mem 46 (by decide +kernel) (by decide +kernel), by decide +kernel, by decide +kernel, by decide +kernel, by decide +kernel⟩
set_option maxRecDepth 100000 in
theorem im_X2_kept : Cond.instanceMethod yX2_kept ∈ am_T := am_mem 765 (by decide +kernel) (by decide +kernel)
set_option maxRecDepth 100000 in
theorem se_X2_kept : Cond.selects yX2_kept.cls yX2_kept yX2_kept ∈ am_T := am_mem 766 (by decide +kernel) (by decide +kernel)
set_option maxRecDepth 100000 in
theorem co_X9_209 : Cond.constantLong RX9 209 (Int64.ofInt 1099511627776) ∈ am_T := am_mem 771 (by decide +kernel) (by decide +kernel)
set_option maxRecDepth 100000 in
theorem im_X2_valueOf : Cond.instanceMethod yX2_valueOf ∈ am_T := am_mem 773 (by decide +kernel) (by decide +kernel)
set_option maxRecDepth 100000 in
theorem se_X2_valueOf : Cond.selects yX2_valueOf.cls yX2_valueOf yX2_valueOf ∈ am_T := am_mem 774 (by decide +kernel) (by decide +kernel)
set_option maxRecDepth 100000 in
theorem im_X2_turnOf : Cond.instanceMethod yX2_turnOf ∈ am_T := am_mem 778 (by decide +kernel) (by decide +kernel)
set_option maxRecDepth 100000 in
theorem se_X2_turnOf : Cond.selects yX2_turnOf.cls yX2_turnOf yX2_turnOf ∈ am_T := am_mem 779 (by decide +kernel) (by decide +kernel)
set_option maxRecDepth 100000 in
theorem ym_X9_noted : am_y yX9_noted cX9_noted 3 (some .long) 2 := ⟨am_mem 763 (by decide +kernel) (by decide +kernel), am_mem 46 (by decide +kernel) (by decide +kernel), by decide +kernel, by decide +kernel, by decide +kernel, by decide +kernel⟩
set_option maxRecDepth 100000 in
theorem im_X2_turns : Cond.instanceMethod yX2_turns ∈ am_T := am_mem 787 (by decide +kernel) (by decide +kernel)
set_option maxRecDepth 100000 in
theorem se_X2_turns : Cond.selects yX2_turns.cls yX2_turns yX2_turns ∈ am_T := am_mem 788 (by decide +kernel) (by decide +kernel)
set_option maxRecDepth 100000 in
theorem im_X6_time : Cond.instanceMethod yX6_time ∈ am_T := am_mem 791 (by decide +kernel) (by decide +kernel)
set_option maxRecDepth 100000 in
theorem se_X6_time : Cond.selects yX6_time.cls yX6_time yX6_time ∈ am_T := am_mem 792 (by decide +kernel) (by decide +kernel)
set_option maxRecDepth 100000 in
theorem im_X2_total : Cond.instanceMethod yX2_total ∈ am_T := am_mem 795 (by decide +kernel) (by decide +kernel)
set_option maxRecDepth 100000 in
theorem se_X2_total : Cond.selects yX2_total.cls yX2_total yX2_total ∈ am_T := am_mem 796 (by decide +kernel) (by decide +kernel)
set_option maxRecDepth 100000 in
theorem im_X3_loose : Cond.instanceMethod yX3_loose ∈ am_T := am_mem 799 (by decide +kernel) (by decide +kernel)
set_option maxRecDepth 100000 in
theorem se_X3_loose : Cond.selects yX3_loose.cls yX3_loose yX3_loose ∈ am_T := am_mem 800 (by decide +kernel) (by decide +kernel)
set_option maxRecDepth 100000 in
theorem im_X1_items : Cond.instanceMethod yX1_items ∈ am_T := am_mem 804 (by decide +kernel) (by decide +kernel)
set_option maxRecDepth 100000 in
theorem se_X1_items : Cond.selects yX1_items.cls yX1_items yX1_items ∈ am_T := am_mem 805 (by decide +kernel) (by decide +kernel)
set_option maxRecDepth 100000 in
theorem ym_X9_count : am_y yX9_count cX9_count 2 (some .int) 1 := ⟨am_mem 785 (by decide +kernel) (by decide +kernel), am_mem 46 (by decide +kernel) (by decide +kernel), by decide +kernel, by decide +kernel, by decide +kernel, by decide +kernel⟩
set_option maxRecDepth 100000 in
theorem fp_X10_152 : am_fldP RX10 9 152 9 .int := ⟨TX10, 57, tyX10, rfl, am_hin10, by decide, rfl, am_mem 826 (by decide +kernel) (by decide +kernel), tyX10_ok, nmX10, rfl, rfl⟩
set_option maxRecDepth 100000 in
theorem sk_74 : am_sk[74]? = some (.inl (9, am_lm)) := rfl
set_option maxRecDepth 100000 in
theorem fp_X10_156 : am_fldP RX10 9 156 19 .int := ⟨TX10, 57, tyX10, rfl, am_hin10, by decide, rfl, am_mem 836 (by decide +kernel) (by decide +kernel), tyX10_ok, nmX10, rfl, rfl⟩
set_option maxRecDepth 100000 in
theorem fp_X10_159 : am_fldP RX10 9 159 35 .int := ⟨TX10, 57, tyX10, rfl, am_hin10, by decide, rfl, am_mem 852 (by decide +kernel) (by decide +kernel), tyX10_ok, nmX10, rfl, rfl⟩
set_option maxRecDepth 100000 in
theorem fp_X10_162 : am_fldP RX10 9 162 41 .int := ⟨TX10, 57, tyX10, rfl, am_hin10, by decide, rfl, am_mem 858 (by decide +kernel) (by decide +kernel), tyX10_ok, nmX10, rfl, rfl⟩
set_option maxRecDepth 100000 in
theorem fp_X10_165 : am_fldP RX10 9 165 42 .int := ⟨TX10, 57, tyX10, rfl, am_hin10, by decide, rfl, am_mem 859 (by decide +kernel) (by decide +kernel), tyX10_ok, nmX10, rfl, rfl⟩
set_option maxRecDepth 100000 in
theorem fp_X10_168 : am_fldP RX10 9 168 46 .int := ⟨TX10, 57, tyX10, rfl, am_hin10, by decide, rfl, am_mem 863 (by decide +kernel) (by decide +kernel), tyX10_ok, nmX10, rfl, rfl⟩
set_option maxRecDepth 100000 in
theorem fl_X10_38 : am_fld RX10 9 38 10 := ⟨TX10, 57, rfl, am_hin10, by decide, rfl, am_mem 827 (by decide +kernel) (by decide +kernel)⟩
set_option maxRecDepth 100000 in
theorem sk_84 : am_sk[84]? = some (.inr (0, 800)) := rfl
set_option maxRecDepth 100000 in
theorem fl_X10_110 : am_fld RX10 9 110 36 := ⟨TX10, 57, rfl, am_hin10, by decide, rfl, am_mem 853 (by decide +kernel) (by decide +kernel)⟩
set_option maxRecDepth 100000 in
theorem sk_108 : am_sk[108]? = some (.inr (0, 32)) := rfl
set_option maxRecDepth 100000 in
theorem fl_X10_65 : am_fld RX10 9 65 20 := ⟨TX10, 57, rfl, am_hin10, by decide, rfl, am_mem 837 (by decide +kernel) (by decide +kernel)⟩
set_option maxRecDepth 100000 in
theorem sk_93 : am_sk[93]? = some (.inr (0, 4)) := rfl
set_option maxRecDepth 100000 in
theorem ym_X10_clear : am_y yX10_clear cX10_clear 2 none 0 := ⟨am_mem 816 (by decide +kernel) (by decide +kernel), am_mem 55 (by decide +kernel) (by decide +kernel), by decide +kernel, by decide +kernel, by decide +kernel, by decide +kernel⟩
set_option maxRecDepth 100000 in
theorem ym_X10_in : am_y yX10_in cX10_in 3 (some .boolean) 3 := ⟨am_mem 1005 (by decide +kernel) (by decide +kernel), am_mem 55 (by decide +kernel) (by decide +kernel), by decide +kernel, by decide +kernel, by decide +kernel, by decide +kernel⟩
set_option maxRecDepth 100000 in
theorem fl_X10_152 : am_fld RX10 9 152 9 := ⟨TX10, 57, rfl, am_hin10, by decide, rfl, am_mem 826 (by decide +kernel) (by decide +kernel)⟩
set_option maxRecDepth 100000 in
theorem st_X10_in : Cond.static yX10_in ∈ am_T := am_mem 1004 (by decide +kernel) (by decide +kernel)
set_option maxRecDepth 100000 in
theorem ym_X10_isPromise : am_y yX10_isPromise cX10_isPromise 2 (some .boolean) 1 := ⟨am_mem 1002 (by decide +kernel) (by decide +kernel), am_mem 55 (by decide +kernel) (by decide +kernel), by decide +kernel, by decide +kernel, by decide +kernel, by decide +kernel⟩
set_option maxRecDepth 100000 in
theorem im_X10_isPromise : Cond.instanceMethod yX10_isPromise ∈ am_T := am_mem 1001 (by decide +kernel) (by decide +kernel)
set_option maxRecDepth 100000 in
theorem se_X10_isPromise : Cond.selects yX10_isPromise.cls yX10_isPromise yX10_isPromise ∈ am_T := am_mem 16 (by decide +kernel) (by decide +kernel)
set_option maxRecDepth 100000 in
theorem ym_X10_isValue : am_y yX10_isValue cX10_isValue 3 (some .boolean) 2 := ⟨am_mem 1009 (by decide +kernel) (by decide +kernel), am_mem 55 (by decide +kernel) (by decide +kernel), by decide +kernel, by decide +kernel, by decide +kernel, by decide +kernel⟩
set_option maxRecDepth 100000 in
theorem fl_X10_7 : am_fld RX10 9 7 0 := ⟨TX10, 57, rfl, am_hin10, by decide, rfl, am_mem 817 (by decide +kernel) (by decide +kernel)⟩
set_option maxRecDepth 100000 in
theorem sk_75 : am_sk[75]? = some (.inr (0, 100)) := rfl
set_option maxRecDepth 100000 in
theorem fl_X10_19 : am_fld RX10 9 19 3 := ⟨TX10, 57, rfl, am_hin10, by decide, rfl, am_mem 820 (by decide +kernel) (by decide +kernel)⟩
set_option maxRecDepth 100000 in
theorem sk_78 : am_sk[78]? = some (.inr (0, 100)) := rfl
set_option maxRecDepth 100000 in
theorem fl_X10_28 : am_fld RX10 9 28 6 := ⟨TX10, 57, rfl, am_hin10, by decide, rfl, am_mem 823 (by decide +kernel) (by decide +kernel)⟩
set_option maxRecDepth 100000 in
theorem sk_81 : am_sk[81]? = some (.inr (1, 100)) := rfl
set_option maxRecDepth 100000 in
theorem fl_X10_32 : am_fld RX10 9 32 7 := ⟨TX10, 57, rfl, am_hin10, by decide, rfl, am_mem 824 (by decide +kernel) (by decide +kernel)⟩
set_option maxRecDepth 100000 in
theorem sk_82 : am_sk[82]? = some (.inr (1, 100)) := rfl
set_option maxRecDepth 100000 in
theorem fl_X10_35 : am_fld RX10 9 35 8 := ⟨TX10, 57, rfl, am_hin10, by decide, rfl, am_mem 825 (by decide +kernel) (by decide +kernel)⟩
set_option maxRecDepth 100000 in
theorem sk_83 : am_sk[83]? = some (.inr (1, 100)) := rfl
set_option maxRecDepth 100000 in
theorem ym_X10_promise : am_y yX10_promise cX10_promise 2 (some .int) 0 := ⟨am_mem 994 (by decide +kernel) (by decide +kernel), am_mem 55 (by decide +kernel) (by decide +kernel), by decide +kernel, by decide +kernel, by decide +kernel, by decide +kernel⟩
set_option maxRecDepth 100000 in
theorem fl_X10_41 : am_fld RX10 9 41 11 := ⟨TX10, 57, rfl, am_hin10, by decide, rfl, am_mem 828 (by decide +kernel) (by decide +kernel)⟩
set_option maxRecDepth 100000 in
theorem sk_85 : am_sk[85]? = some (.inr (0, 800)) := rfl
set_option maxRecDepth 100000 in
theorem fl_X10_44 : am_fld RX10 9 44 12 := ⟨TX10, 57, rfl, am_hin10, by decide, rfl, am_mem 829 (by decide +kernel) (by decide +kernel)⟩
set_option maxRecDepth 100000 in
theorem fl_X10_156 : am_fld RX10 9 156 19 := ⟨TX10, 57, rfl, am_hin10, by decide, rfl, am_mem 836 (by decide +kernel) (by decide +kernel)⟩
set_option maxRecDepth 100000 in
theorem sk_86 : am_sk[86]? = some (.inr (0, 800)) := rfl
set_option maxRecDepth 100000 in
theorem fl_X10_47 : am_fld RX10 9 47 13 := ⟨TX10, 57, rfl, am_hin10, by decide, rfl, am_mem 830 (by decide +kernel) (by decide +kernel)⟩
set_option maxRecDepth 100000 in
theorem sk_87 : am_sk[87]? = some (.inr (0, 800)) := rfl
set_option maxRecDepth 100000 in
theorem fl_X10_50 : am_fld RX10 9 50 14 := ⟨TX10, 57, rfl, am_hin10, by decide, rfl, am_mem 831 (by decide +kernel) (by decide +kernel)⟩
set_option maxRecDepth 100000 in
theorem sk_88 : am_sk[88]? = some (.inr (0, 800)) := rfl
set_option maxRecDepth 100000 in
theorem fl_X10_53 : am_fld RX10 9 53 15 := ⟨TX10, 57, rfl, am_hin10, by decide, rfl, am_mem 832 (by decide +kernel) (by decide +kernel)⟩
set_option maxRecDepth 100000 in
theorem sk_89 : am_sk[89]? = some (.inr (0, 800)) := rfl
set_option maxRecDepth 100000 in
theorem ym_X10_enter : am_y yX10_enter cX10_enter 7 (some .int) 5 := ⟨am_mem 1033 (by decide +kernel) (by decide +kernel), am_mem 55 (by decide +kernel) (by decide +kernel), by decide +kernel, by decide +kernel, by decide +kernel, by decide +kernel⟩
set_option maxRecDepth 100000 in
theorem fl_X10_56 : am_fld RX10 9 56 16 := ⟨TX10, 57, rfl, am_hin10, by decide, rfl, am_mem 833 (by decide +kernel) (by decide +kernel)⟩
set_option maxRecDepth 100000 in
theorem sk_90 : am_sk[90]? = some (.inr (0, 800)) := rfl
set_option maxRecDepth 100000 in
theorem fl_X10_59 : am_fld RX10 9 59 17 := ⟨TX10, 57, rfl, am_hin10, by decide, rfl, am_mem 834 (by decide +kernel) (by decide +kernel)⟩
set_option maxRecDepth 100000 in
theorem sk_91 : am_sk[91]? = some (.inr (0, 800)) := rfl
set_option maxRecDepth 100000 in
theorem fl_X10_62 : am_fld RX10 9 62 18 := ⟨TX10, 57, rfl, am_hin10, by decide, rfl, am_mem 835 (by decide +kernel) (by decide +kernel)⟩
set_option maxRecDepth 100000 in
theorem sk_92 : am_sk[92]? = some (.inr (0, 800)) := rfl
set_option maxRecDepth 100000 in
theorem ym_X10_carry : am_y yX10_carry cX10_carry 5 none 4 := ⟨am_mem 1029 (by decide +kernel) (by decide +kernel), am_mem 55 (by decide +kernel) (by decide +kernel), by decide +kernel, by decide +kernel, by decide +kernel, by decide +kernel⟩
set_option maxRecDepth 100000 in
theorem ym_X10_firstOn : am_y yX10_firstOn cX10_firstOn 4 (some .int) 1 := ⟨am_mem 1025 (by decide +kernel) (by decide +kernel), am_mem 55 (by decide +kernel) (by decide +kernel), by decide +kernel, by decide +kernel, by decide +kernel, by decide +kernel⟩
set_option maxRecDepth 100000 in
theorem fl_X10_13 : am_fld RX10 9 13 1 := ⟨TX10, 57, rfl, am_hin10, by decide, rfl, am_mem 818 (by decide +kernel) (by decide +kernel)⟩
set_option maxRecDepth 100000 in
theorem sk_76 : am_sk[76]? = some (.inr (0, 100)) := rfl
set_option maxRecDepth 100000 in
theorem fl_X10_16 : am_fld RX10 9 16 2 := ⟨TX10, 57, rfl, am_hin10, by decide, rfl, am_mem 819 (by decide +kernel) (by decide +kernel)⟩
set_option maxRecDepth 100000 in
theorem sk_77 : am_sk[77]? = some (.inr (0, 100)) := rfl
set_option maxRecDepth 100000 in
theorem im_X10_firstOn : Cond.instanceMethod yX10_firstOn ∈ am_T := am_mem 1024 (by decide +kernel) (by decide +kernel)
set_option maxRecDepth 100000 in
theorem se_X10_firstOn : Cond.selects yX10_firstOn.cls yX10_firstOn yX10_firstOn ∈ am_T := am_mem 21 (by decide +kernel) (by decide +kernel)
set_option maxRecDepth 100000 in
theorem im_X10_carry : Cond.instanceMethod yX10_carry ∈ am_T := am_mem 1028 (by decide +kernel) (by decide +kernel)
set_option maxRecDepth 100000 in
theorem se_X10_carry : Cond.selects yX10_carry.cls yX10_carry yX10_carry ∈ am_T := am_mem 22 (by decide +kernel) (by decide +kernel)
set_option maxRecDepth 100000 in
theorem ym_X10_settle : am_y yX10_settle cX10_settle 6 none 4 := ⟨am_mem 1021 (by decide +kernel) (by decide +kernel), am_mem 55 (by decide +kernel) (by decide +kernel), by decide +kernel, by decide +kernel, by decide +kernel, by decide +kernel⟩
set_option maxRecDepth 100000 in
theorem ym_X10_takes : am_y yX10_takes cX10_takes 4 (some .boolean) 2 := ⟨am_mem 1017 (by decide +kernel) (by decide +kernel), am_mem 55 (by decide +kernel) (by decide +kernel), by decide +kernel, by decide +kernel, by decide +kernel, by decide +kernel⟩
set_option maxRecDepth 100000 in
theorem im_X10_takes : Cond.instanceMethod yX10_takes ∈ am_T := am_mem 1016 (by decide +kernel) (by decide +kernel)
set_option maxRecDepth 100000 in
theorem se_X10_takes : Cond.selects yX10_takes.cls yX10_takes yX10_takes ∈ am_T := am_mem 19 (by decide +kernel) (by decide +kernel)
set_option maxRecDepth 100000 in
theorem im_X10_settle : Cond.instanceMethod yX10_settle ∈ am_T := am_mem 1020 (by decide +kernel) (by decide +kernel)
set_option maxRecDepth 100000 in
theorem se_X10_settle : Cond.selects yX10_settle.cls yX10_settle yX10_settle ∈ am_T := am_mem 20 (by decide +kernel) (by decide +kernel)
set_option maxRecDepth 100000 in
theorem im_X10_enter : Cond.instanceMethod yX10_enter ∈ am_T := am_mem 1032 (by decide +kernel) (by decide +kernel)
set_option maxRecDepth 100000 in
theorem se_X10_enter : Cond.selects yX10_enter.cls yX10_enter yX10_enter ∈ am_T := am_mem 23 (by decide +kernel) (by decide +kernel)
set_option maxRecDepth 100000 in
theorem ym_X10_resolveBy : am_y yX10_resolveBy cX10_resolveBy 7 none 4 := ⟨am_mem 1013 (by decide +kernel) (by decide +kernel), am_mem 55 (by decide +kernel) (by decide +kernel), by decide +kernel, by decide +kernel, by decide +kernel, by decide +kernel⟩
set_option maxRecDepth 100000 in
theorem ym_X10_rejectBy : am_y yX10_rejectBy cX10_rejectBy 6 none 4 := ⟨am_mem 1041 (by decide +kernel) (by decide +kernel), am_mem 55 (by decide +kernel) (by decide +kernel), by decide +kernel, by decide +kernel, by decide +kernel, by decide +kernel⟩
set_option maxRecDepth 100000 in
theorem im_X10_resolveBy : Cond.instanceMethod yX10_resolveBy ∈ am_T := am_mem 1012 (by decide +kernel) (by decide +kernel)
set_option maxRecDepth 100000 in
theorem se_X10_resolveBy : Cond.selects yX10_resolveBy.cls yX10_resolveBy yX10_resolveBy ∈ am_T := am_mem 18 (by decide +kernel) (by decide +kernel)
set_option maxRecDepth 100000 in
theorem im_X10_rejectBy : Cond.instanceMethod yX10_rejectBy ∈ am_T := am_mem 1040 (by decide +kernel) (by decide +kernel)
set_option maxRecDepth 100000 in
theorem se_X10_rejectBy : Cond.selects yX10_rejectBy.cls yX10_rejectBy yX10_rejectBy ∈ am_T := am_mem 24 (by decide +kernel) (by decide +kernel)
set_option maxRecDepth 100000 in
theorem ym_X10_endBy : am_y yX10_endBy cX10_endBy 6 none 5 := ⟨am_mem 1082 (by decide +kernel) (by decide +kernel), am_mem 55 (by decide +kernel) (by decide +kernel), by decide +kernel, by decide +kernel, by decide +kernel, by decide +kernel⟩
set_option maxRecDepth 100000 in
theorem ym_X10_waitFor : am_y yX10_waitFor cX10_waitFor 7 none 5 := ⟨am_mem 1050 (by decide +kernel) (by decide +kernel), am_mem 55 (by decide +kernel) (by decide +kernel), by decide +kernel, by decide +kernel, by decide +kernel, by decide +kernel⟩
set_option maxRecDepth 100000 in
theorem im_X10_isValue : Cond.instanceMethod yX10_isValue ∈ am_T := am_mem 1008 (by decide +kernel) (by decide +kernel)
set_option maxRecDepth 100000 in
theorem se_X10_isValue : Cond.selects yX10_isValue.cls yX10_isValue yX10_isValue ∈ am_T := am_mem 17 (by decide +kernel) (by decide +kernel)
set_option maxRecDepth 100000 in
theorem ym_X10_resolve : am_y yX10_resolve cX10_resolve 4 (some .boolean) 3 := ⟨am_mem 998 (by decide +kernel) (by decide +kernel), am_mem 55 (by decide +kernel) (by decide +kernel), by decide +kernel, by decide +kernel, by decide +kernel, by decide +kernel⟩
set_option maxRecDepth 100000 in
theorem ym_X10_reject : am_y yX10_reject cX10_reject 4 (some .boolean) 3 := ⟨am_mem 1037 (by decide +kernel) (by decide +kernel), am_mem 55 (by decide +kernel) (by decide +kernel), by decide +kernel, by decide +kernel, by decide +kernel, by decide +kernel⟩
set_option maxRecDepth 100000 in
theorem im_X10_promise : Cond.instanceMethod yX10_promise ∈ am_T := am_mem 992 (by decide +kernel) (by decide +kernel)
set_option maxRecDepth 100000 in
theorem se_X10_promise : Cond.selects yX10_promise.cls yX10_promise yX10_promise ∈ am_T := am_mem 993 (by decide +kernel) (by decide +kernel)
set_option maxRecDepth 100000 in
theorem im_X10_waitFor : Cond.instanceMethod yX10_waitFor ∈ am_T := am_mem 1049 (by decide +kernel) (by decide +kernel)
set_option maxRecDepth 100000 in
theorem se_X10_waitFor : Cond.selects yX10_waitFor.cls yX10_waitFor yX10_waitFor ∈ am_T := am_mem 25 (by decide +kernel) (by decide +kernel)
set_option maxRecDepth 100000 in
theorem ym_X10_then : am_y yX10_then cX10_then 5 (some .int) 3 := ⟨am_mem 1045 (by decide +kernel) (by decide +kernel), am_mem 55 (by decide +kernel) (by decide +kernel), by decide +kernel, by decide +kernel, by decide +kernel, by decide +kernel⟩
set_option maxRecDepth 100000 in
theorem fl_X10_68 : am_fld RX10 9 68 21 := ⟨TX10, 57, rfl, am_hin10, by decide, rfl, am_mem 838 (by decide +kernel) (by decide +kernel)⟩
set_option maxRecDepth 100000 in
theorem sk_94 : am_sk[94]? = some (.inr (0, 4)) := rfl
set_option maxRecDepth 100000 in
theorem fl_X10_71 : am_fld RX10 9 71 22 := ⟨TX10, 57, rfl, am_hin10, by decide, rfl, am_mem 839 (by decide +kernel) (by decide +kernel)⟩
set_option maxRecDepth 100000 in
theorem sk_95 : am_sk[95]? = some (.inr (0, 4)) := rfl
set_option maxRecDepth 100000 in
theorem fl_X10_74 : am_fld RX10 9 74 23 := ⟨TX10, 57, rfl, am_hin10, by decide, rfl, am_mem 840 (by decide +kernel) (by decide +kernel)⟩
set_option maxRecDepth 100000 in
theorem sk_96 : am_sk[96]? = some (.inr (0, 4)) := rfl
set_option maxRecDepth 100000 in
theorem fl_X10_77 : am_fld RX10 9 77 24 := ⟨TX10, 57, rfl, am_hin10, by decide, rfl, am_mem 841 (by decide +kernel) (by decide +kernel)⟩
set_option maxRecDepth 100000 in
theorem sk_97 : am_sk[97]? = some (.inr (0, 4)) := rfl
set_option maxRecDepth 100000 in
theorem ym_X10_thenable : am_y yX10_thenable cX10_thenable 7 (some .boolean) 6 := ⟨am_mem 1054 (by decide +kernel) (by decide +kernel), am_mem 55 (by decide +kernel) (by decide +kernel), by decide +kernel, by decide +kernel, by decide +kernel, by decide +kernel⟩
set_option maxRecDepth 100000 in
theorem fl_X10_80 : am_fld RX10 9 80 25 := ⟨TX10, 57, rfl, am_hin10, by decide, rfl, am_mem 842 (by decide +kernel) (by decide +kernel)⟩
set_option maxRecDepth 100000 in
theorem sk_98 : am_sk[98]? = some (.inr (0, 10)) := rfl
set_option maxRecDepth 100000 in
theorem fl_X10_83 : am_fld RX10 9 83 26 := ⟨TX10, 57, rfl, am_hin10, by decide, rfl, am_mem 843 (by decide +kernel) (by decide +kernel)⟩
set_option maxRecDepth 100000 in
theorem sk_99 : am_sk[99]? = some (.inr (0, 100)) := rfl
set_option maxRecDepth 100000 in
theorem fl_X10_86 : am_fld RX10 9 86 27 := ⟨TX10, 57, rfl, am_hin10, by decide, rfl, am_mem 844 (by decide +kernel) (by decide +kernel)⟩
set_option maxRecDepth 100000 in
theorem sk_100 : am_sk[100]? = some (.inr (0, 100)) := rfl
set_option maxRecDepth 100000 in
theorem fl_X10_89 : am_fld RX10 9 89 28 := ⟨TX10, 57, rfl, am_hin10, by decide, rfl, am_mem 845 (by decide +kernel) (by decide +kernel)⟩
set_option maxRecDepth 100000 in
theorem sk_101 : am_sk[101]? = some (.inr (0, 100)) := rfl
set_option maxRecDepth 100000 in
theorem ym_X10_step : am_y yX10_step cX10_step 7 (some .int) 4 := ⟨am_mem 1058 (by decide +kernel) (by decide +kernel), am_mem 55 (by decide +kernel) (by decide +kernel), by decide +kernel, by decide +kernel, by decide +kernel, by decide +kernel⟩
set_option maxRecDepth 100000 in
theorem ym_X10_empty : am_y yX10_empty cX10_empty 3 (some .int) 1 := ⟨am_mem 1062 (by decide +kernel) (by decide +kernel), am_mem 55 (by decide +kernel) (by decide +kernel), by decide +kernel, by decide +kernel, by decide +kernel, by decide +kernel⟩
set_option maxRecDepth 100000 in
theorem fl_X10_215 : am_fld RX10 9 215 52 := ⟨TX10, 57, rfl, am_hin10, by decide, rfl, am_mem 869 (by decide +kernel) (by decide +kernel)⟩
set_option maxRecDepth 100000 in
theorem fp_X10_215 : am_fldP RX10 9 215 52 .int := ⟨TX10, 57, tyX10, rfl, am_hin10, by decide, rfl, am_mem 869 (by decide +kernel) (by decide +kernel), tyX10_ok, nmX10, rfl, rfl⟩
set_option maxRecDepth 100000 in
theorem fl_X10_134 : am_fld RX10 9 134 47 := ⟨TX10, 57, rfl, am_hin10, by decide, rfl, am_mem 864 (by decide +kernel) (by decide +kernel)⟩
set_option maxRecDepth 100000 in
theorem sk_116 : am_sk[116]? = some (.inr (0, 110)) := rfl
set_option maxRecDepth 100000 in
theorem fl_X10_137 : am_fld RX10 9 137 48 := ⟨TX10, 57, rfl, am_hin10, by decide, rfl, am_mem 865 (by decide +kernel) (by decide +kernel)⟩
set_option maxRecDepth 100000 in
theorem sk_117 : am_sk[117]? = some (.inr (0, 110)) := rfl
set_option maxRecDepth 100000 in
theorem fl_X10_140 : am_fld RX10 9 140 49 := ⟨TX10, 57, rfl, am_hin10, by decide, rfl, am_mem 866 (by decide +kernel) (by decide +kernel)⟩
set_option maxRecDepth 100000 in
theorem sk_118 : am_sk[118]? = some (.inr (0, 110)) := rfl
set_option maxRecDepth 100000 in
theorem fl_X10_143 : am_fld RX10 9 143 50 := ⟨TX10, 57, rfl, am_hin10, by decide, rfl, am_mem 867 (by decide +kernel) (by decide +kernel)⟩
set_option maxRecDepth 100000 in
theorem sk_119 : am_sk[119]? = some (.inr (0, 110)) := rfl
set_option maxRecDepth 100000 in
theorem fl_X10_146 : am_fld RX10 9 146 51 := ⟨TX10, 57, rfl, am_hin10, by decide, rfl, am_mem 868 (by decide +kernel) (by decide +kernel)⟩
set_option maxRecDepth 100000 in
theorem sk_120 : am_sk[120]? = some (.inr (0, 110)) := rfl
set_option maxRecDepth 100000 in
theorem ym_X10_begin : am_y yX10_begin cX10_begin 6 none 5 := ⟨am_mem 1070 (by decide +kernel) (by decide +kernel), am_mem 55 (by decide +kernel) (by decide +kernel), by decide +kernel, by decide +kernel, by decide +kernel, by decide +kernel⟩
set_option maxRecDepth 100000 in
theorem ym_X10_put : am_y yX10_put cX10_put 3 none 2 := ⟨am_mem 1090 (by decide +kernel) (by decide +kernel), am_mem 55 (by decide +kernel) (by decide +kernel), by decide +kernel, by decide +kernel, by decide +kernel, by decide +kernel⟩
set_option maxRecDepth 100000 in
theorem ym_X10_endOf : am_y yX10_endOf cX10_endOf 6 (some .int) 2 := ⟨am_mem 1094 (by decide +kernel) (by decide +kernel), am_mem 55 (by decide +kernel) (by decide +kernel), by decide +kernel, by decide +kernel, by decide +kernel, by decide +kernel⟩
set_option maxRecDepth 100000 in
theorem fp_X10_234 : am_fldP RX10 9 234 56 .boolean := ⟨TX10, 57, tyX10, rfl, am_hin10, by decide, rfl, am_mem 873 (by decide +kernel) (by decide +kernel), tyX10_ok, nmX10, rfl, rfl⟩
set_option maxRecDepth 100000 in
theorem fp_X10_238 : am_fldP RX10 9 238 54 .int := ⟨TX10, 57, tyX10, rfl, am_hin10, by decide, rfl, am_mem 871 (by decide +kernel) (by decide +kernel), tyX10_ok, nmX10, rfl, rfl⟩
set_option maxRecDepth 100000 in
theorem fp_X10_241 : am_fldP RX10 9 241 55 .int := ⟨TX10, 57, tyX10, rfl, am_hin10, by decide, rfl, am_mem 872 (by decide +kernel) (by decide +kernel), tyX10_ok, nmX10, rfl, rfl⟩
set_option maxRecDepth 100000 in
theorem im_X10_endBy : Cond.instanceMethod yX10_endBy ∈ am_T := am_mem 1081 (by decide +kernel) (by decide +kernel)
set_option maxRecDepth 100000 in
theorem se_X10_endBy : Cond.selects yX10_endBy.cls yX10_endBy yX10_endBy ∈ am_T := am_mem 29 (by decide +kernel) (by decide +kernel)
set_option maxRecDepth 100000 in
theorem ym_X10_finish : am_y yX10_finish cX10_finish 5 none 3 := ⟨am_mem 1078 (by decide +kernel) (by decide +kernel), am_mem 55 (by decide +kernel) (by decide +kernel), by decide +kernel, by decide +kernel, by decide +kernel, by decide +kernel⟩
set_option maxRecDepth 100000 in
theorem im_X10_put : Cond.instanceMethod yX10_put ∈ am_T := am_mem 1089 (by decide +kernel) (by decide +kernel)
set_option maxRecDepth 100000 in
theorem se_X10_put : Cond.selects yX10_put.cls yX10_put yX10_put ∈ am_T := am_mem 31 (by decide +kernel) (by decide +kernel)
set_option maxRecDepth 100000 in
theorem im_X10_finish : Cond.instanceMethod yX10_finish ∈ am_T := am_mem 1077 (by decide +kernel) (by decide +kernel)
set_option maxRecDepth 100000 in
theorem se_X10_finish : Cond.selects yX10_finish.cls yX10_finish yX10_finish ∈ am_T := am_mem 28 (by decide +kernel) (by decide +kernel)
set_option maxRecDepth 100000 in
theorem im_X10_endOf : Cond.instanceMethod yX10_endOf ∈ am_T := am_mem 1093 (by decide +kernel) (by decide +kernel)
set_option maxRecDepth 100000 in
theorem se_X10_endOf : Cond.selects yX10_endOf.cls yX10_endOf yX10_endOf ∈ am_T := am_mem 32 (by decide +kernel) (by decide +kernel)
set_option maxRecDepth 100000 in
theorem ym_X10_fling : am_y yX10_fling cX10_fling 7 none 2 := ⟨am_mem 1086 (by decide +kernel) (by decide +kernel), am_mem 55 (by decide +kernel) (by decide +kernel), by decide +kernel, by decide +kernel, by decide +kernel, by decide +kernel⟩
set_option maxRecDepth 100000 in
theorem fl_X10_125 : am_fld RX10 9 125 43 := ⟨TX10, 57, rfl, am_hin10, by decide, rfl, am_mem 860 (by decide +kernel) (by decide +kernel)⟩
set_option maxRecDepth 100000 in
theorem fl_X10_168 : am_fld RX10 9 168 46 := ⟨TX10, 57, rfl, am_hin10, by decide, rfl, am_mem 863 (by decide +kernel) (by decide +kernel)⟩
set_option maxRecDepth 100000 in
theorem sk_113 : am_sk[113]? = some (.inr (0, 60)) := rfl
set_option maxRecDepth 100000 in
theorem fl_X10_128 : am_fld RX10 9 128 44 := ⟨TX10, 57, rfl, am_hin10, by decide, rfl, am_mem 861 (by decide +kernel) (by decide +kernel)⟩
set_option maxRecDepth 100000 in
theorem sk_114 : am_sk[114]? = some (.inr (0, 60)) := rfl
set_option maxRecDepth 100000 in
theorem fl_X10_131 : am_fld RX10 9 131 45 := ⟨TX10, 57, rfl, am_hin10, by decide, rfl, am_mem 862 (by decide +kernel) (by decide +kernel)⟩
set_option maxRecDepth 100000 in
theorem fl_X10_165 : am_fld RX10 9 165 42 := ⟨TX10, 57, rfl, am_hin10, by decide, rfl, am_mem 859 (by decide +kernel) (by decide +kernel)⟩
set_option maxRecDepth 100000 in
theorem sk_115 : am_sk[115]? = some (.inr (0, 60)) := rfl
set_option maxRecDepth 100000 in
theorem ym_X10_note : am_y yX10_note cX10_note 3 none 2 := ⟨am_mem 1102 (by decide +kernel) (by decide +kernel), am_mem 55 (by decide +kernel) (by decide +kernel), by decide +kernel, by decide +kernel, by decide +kernel, by decide +kernel⟩
set_option maxRecDepth 100000 in
theorem im_X10_fling : Cond.instanceMethod yX10_fling ∈ am_T := am_mem 1085 (by decide +kernel) (by decide +kernel)
set_option maxRecDepth 100000 in
theorem se_X10_fling : Cond.selects yX10_fling.cls yX10_fling yX10_fling ∈ am_T := am_mem 30 (by decide +kernel) (by decide +kernel)
set_option maxRecDepth 100000 in
theorem fl_X10_22 : am_fld RX10 9 22 4 := ⟨TX10, 57, rfl, am_hin10, by decide, rfl, am_mem 821 (by decide +kernel) (by decide +kernel)⟩
set_option maxRecDepth 100000 in
theorem sk_79 : am_sk[79]? = some (.inr (0, 100)) := rfl
set_option maxRecDepth 100000 in
theorem fl_X10_25 : am_fld RX10 9 25 5 := ⟨TX10, 57, rfl, am_hin10, by decide, rfl, am_mem 822 (by decide +kernel) (by decide +kernel)⟩
set_option maxRecDepth 100000 in
theorem sk_80 : am_sk[80]? = some (.inr (0, 100)) := rfl
set_option maxRecDepth 100000 in
theorem ym_X10_awaits : am_y yX10_awaits cX10_awaits 3 none 0 := ⟨am_mem 1106 (by decide +kernel) (by decide +kernel), am_mem 55 (by decide +kernel) (by decide +kernel), by decide +kernel, by decide +kernel, by decide +kernel, by decide +kernel⟩
set_option maxRecDepth 100000 in
theorem ym_X10_make : am_y yX10_make cX10_make 2 (some .int) 0 := ⟨am_mem 1110 (by decide +kernel) (by decide +kernel), am_mem 55 (by decide +kernel) (by decide +kernel), by decide +kernel, by decide +kernel, by decide +kernel, by decide +kernel⟩
set_option maxRecDepth 100000 in
theorem fl_X10_162 : am_fld RX10 9 162 41 := ⟨TX10, 57, rfl, am_hin10, by decide, rfl, am_mem 858 (by decide +kernel) (by decide +kernel)⟩
set_option maxRecDepth 100000 in
theorem fl_X10_113 : am_fld RX10 9 113 37 := ⟨TX10, 57, rfl, am_hin10, by decide, rfl, am_mem 854 (by decide +kernel) (by decide +kernel)⟩
set_option maxRecDepth 100000 in
theorem sk_109 : am_sk[109]? = some (.inr (0, 32)) := rfl
set_option maxRecDepth 100000 in
theorem fl_X10_116 : am_fld RX10 9 116 38 := ⟨TX10, 57, rfl, am_hin10, by decide, rfl, am_mem 855 (by decide +kernel) (by decide +kernel)⟩
set_option maxRecDepth 100000 in
theorem sk_110 : am_sk[110]? = some (.inr (0, 32)) := rfl
set_option maxRecDepth 100000 in
theorem fl_X10_119 : am_fld RX10 9 119 39 := ⟨TX10, 57, rfl, am_hin10, by decide, rfl, am_mem 856 (by decide +kernel) (by decide +kernel)⟩
set_option maxRecDepth 100000 in
theorem sk_111 : am_sk[111]? = some (.inr (0, 32)) := rfl
set_option maxRecDepth 100000 in
theorem fl_X10_122 : am_fld RX10 9 122 40 := ⟨TX10, 57, rfl, am_hin10, by decide, rfl, am_mem 857 (by decide +kernel) (by decide +kernel)⟩
set_option maxRecDepth 100000 in
theorem sk_112 : am_sk[112]? = some (.inr (0, 32)) := rfl
set_option maxRecDepth 100000 in
theorem ym_X10_task : am_y yX10_task cX10_task 6 (some .boolean) 4 := ⟨am_mem 1114 (by decide +kernel) (by decide +kernel), am_mem 55 (by decide +kernel) (by decide +kernel), by decide +kernel, by decide +kernel, by decide +kernel, by decide +kernel⟩
set_option maxRecDepth 100000 in
theorem im_X10_note : Cond.instanceMethod yX10_note ∈ am_T := am_mem 1101 (by decide +kernel) (by decide +kernel)
set_option maxRecDepth 100000 in
theorem se_X10_note : Cond.selects yX10_note.cls yX10_note yX10_note ∈ am_T := am_mem 34 (by decide +kernel) (by decide +kernel)
set_option maxRecDepth 100000 in
theorem im_X10_awaits : Cond.instanceMethod yX10_awaits ∈ am_T := am_mem 1105 (by decide +kernel) (by decide +kernel)
set_option maxRecDepth 100000 in
theorem se_X10_awaits : Cond.selects yX10_awaits.cls yX10_awaits yX10_awaits ∈ am_T := am_mem 35 (by decide +kernel) (by decide +kernel)
set_option maxRecDepth 100000 in
theorem im_X10_make : Cond.instanceMethod yX10_make ∈ am_T := am_mem 1109 (by decide +kernel) (by decide +kernel)
set_option maxRecDepth 100000 in
theorem se_X10_make : Cond.selects yX10_make.cls yX10_make yX10_make ∈ am_T := am_mem 36 (by decide +kernel) (by decide +kernel)
set_option maxRecDepth 100000 in
theorem im_X10_begin : Cond.instanceMethod yX10_begin ∈ am_T := am_mem 1069 (by decide +kernel) (by decide +kernel)
set_option maxRecDepth 100000 in
theorem se_X10_begin : Cond.selects yX10_begin.cls yX10_begin yX10_begin ∈ am_T := am_mem 26 (by decide +kernel) (by decide +kernel)
set_option maxRecDepth 100000 in
theorem im_X10_task : Cond.instanceMethod yX10_task ∈ am_T := am_mem 1113 (by decide +kernel) (by decide +kernel)
set_option maxRecDepth 100000 in
theorem se_X10_task : Cond.selects yX10_task.cls yX10_task yX10_task ∈ am_T := am_mem 37 (by decide +kernel) (by decide +kernel)
set_option maxRecDepth 100000 in
theorem ym_X10_does : am_y yX10_does cX10_does 9 none 3 := ⟨am_mem 1098 (by decide +kernel) (by decide +kernel), am_mem 55 (by decide +kernel) (by decide +kernel), by decide +kernel, by decide +kernel, by decide +kernel, by decide +kernel⟩
set_option maxRecDepth 100000 in
theorem fl_X10_263 : am_fld RX10 9 263 53 := ⟨TX10, 57, rfl, am_hin10, by decide, rfl, am_mem 870 (by decide +kernel) (by decide +kernel)⟩
set_option maxRecDepth 100000 in
theorem fp_X10_263 : am_fldP RX10 9 263 53 .int := ⟨TX10, 57, tyX10, rfl, am_hin10, by decide, rfl, am_mem 870 (by decide +kernel) (by decide +kernel), tyX10_ok, nmX10, rfl, rfl⟩
set_option maxRecDepth 100000 in
theorem im_X10_does : Cond.instanceMethod yX10_does ∈ am_T := am_mem 1097 (by decide +kernel) (by decide +kernel)
set_option maxRecDepth 100000 in
theorem se_X10_does : Cond.selects yX10_does.cls yX10_does yX10_does ∈ am_T := am_mem 33 (by decide +kernel) (by decide +kernel)
set_option maxRecDepth 100000 in
theorem ym_X10_go : am_y yX10_go cX10_go 4 none 0 := ⟨am_mem 1074 (by decide +kernel) (by decide +kernel), am_mem 55 (by decide +kernel) (by decide +kernel), by decide +kernel, by decide +kernel, by decide +kernel, by decide +kernel⟩
set_option maxRecDepth 100000 in
theorem im_X10_go : Cond.instanceMethod yX10_go ∈ am_T := am_mem 1073 (by decide +kernel) (by decide +kernel)
set_option maxRecDepth 100000 in
theorem se_X10_go : Cond.selects yX10_go.cls yX10_go yX10_go ∈ am_T := am_mem 27 (by decide +kernel) (by decide +kernel)
set_option maxRecDepth 100000 in
theorem ym_X10_start : am_y yX10_start cX10_start 5 (some .int) 3 := ⟨am_mem 1066 (by decide +kernel) (by decide +kernel), am_mem 55 (by decide +kernel) (by decide +kernel), by decide +kernel, by decide +kernel, by decide +kernel, by decide +kernel⟩
set_option maxRecDepth 100000 in
theorem ym_X10_isLoose : am_y yX10_isLoose cX10_isLoose 2 (some .boolean) 1 := ⟨am_mem 1130 (by decide +kernel) (by decide +kernel), am_mem 55 (by decide +kernel) (by decide +kernel), by decide +kernel, by decide +kernel, by decide +kernel, by decide +kernel⟩
set_option maxRecDepth 100000 in
theorem ym_X10_waiting : am_y yX10_waiting cX10_waiting 4 (some .int) 1 := ⟨am_mem 1126 (by decide +kernel) (by decide +kernel), am_mem 55 (by decide +kernel) (by decide +kernel), by decide +kernel, by decide +kernel, by decide +kernel, by decide +kernel⟩
set_option maxRecDepth 100000 in
theorem im_X10_waiting : Cond.instanceMethod yX10_waiting ∈ am_T := am_mem 1125 (by decide +kernel) (by decide +kernel)
set_option maxRecDepth 100000 in
theorem se_X10_waiting : Cond.selects yX10_waiting.cls yX10_waiting yX10_waiting ∈ am_T := am_mem 38 (by decide +kernel) (by decide +kernel)
set_option maxRecDepth 100000 in
theorem fl_X10_159 : am_fld RX10 9 159 35 := ⟨TX10, 57, rfl, am_hin10, by decide, rfl, am_mem 852 (by decide +kernel) (by decide +kernel)⟩
set_option maxRecDepth 100000 in
theorem im_X10_isLoose : Cond.instanceMethod yX10_isLoose ∈ am_T := am_mem 1129 (by decide +kernel) (by decide +kernel)
set_option maxRecDepth 100000 in
theorem se_X10_isLoose : Cond.selects yX10_isLoose.cls yX10_isLoose yX10_isLoose ∈ am_T := am_mem 39 (by decide +kernel) (by decide +kernel)
set_option maxRecDepth 100000 in
theorem ym_X10_count : am_y yX10_count cX10_count 4 (some .int) 1 := ⟨am_mem 1122 (by decide +kernel) (by decide +kernel), am_mem 55 (by decide +kernel) (by decide +kernel), by decide +kernel, by decide +kernel, by decide +kernel, by decide +kernel⟩
set_option maxRecDepth 100000 in
theorem im_X10_count : Cond.instanceMethod yX10_count ∈ am_T := am_mem 1120 (by decide +kernel) (by decide +kernel)
set_option maxRecDepth 100000 in
theorem se_X10_count : Cond.selects yX10_count.cls yX10_count yX10_count ∈ am_T := am_mem 1121 (by decide +kernel) (by decide +kernel)
set_option maxRecDepth 100000 in
theorem ym_X10_later : am_y yX10_later cX10_later 6 (some .int) 4 := ⟨am_mem 1118 (by decide +kernel) (by decide +kernel), am_mem 55 (by decide +kernel) (by decide +kernel), by decide +kernel, by decide +kernel, by decide +kernel, by decide +kernel⟩
set_option maxRecDepth 100000 in
theorem fl_X10_104 : am_fld RX10 9 104 33 := ⟨TX10, 57, rfl, am_hin10, by decide, rfl, am_mem 850 (by decide +kernel) (by decide +kernel)⟩
set_option maxRecDepth 100000 in
theorem sk_106 : am_sk[106]? = some (.inr (0, 5)) := rfl
set_option maxRecDepth 100000 in
theorem fl_X10_107 : am_fld RX10 9 107 34 := ⟨TX10, 57, rfl, am_hin10, by decide, rfl, am_mem 851 (by decide +kernel) (by decide +kernel)⟩
set_option maxRecDepth 100000 in
theorem sk_107 : am_sk[107]? = some (.inr (0, 5)) := rfl
set_option maxRecDepth 100000 in
theorem ym_X10_item : am_y yX10_item cX10_item 3 (some .int) 2 := ⟨am_mem 1134 (by decide +kernel) (by decide +kernel), am_mem 55 (by decide +kernel) (by decide +kernel), by decide +kernel, by decide +kernel, by decide +kernel, by decide +kernel⟩
set_option maxRecDepth 100000 in
theorem fl_X10_92 : am_fld RX10 9 92 29 := ⟨TX10, 57, rfl, am_hin10, by decide, rfl, am_mem 846 (by decide +kernel) (by decide +kernel)⟩
set_option maxRecDepth 100000 in
theorem sk_102 : am_sk[102]? = some (.inr (0, 100)) := rfl
set_option maxRecDepth 100000 in
theorem fl_X10_95 : am_fld RX10 9 95 30 := ⟨TX10, 57, rfl, am_hin10, by decide, rfl, am_mem 847 (by decide +kernel) (by decide +kernel)⟩
set_option maxRecDepth 100000 in
theorem sk_103 : am_sk[103]? = some (.inr (0, 100)) := rfl
set_option maxRecDepth 100000 in
theorem fl_X10_98 : am_fld RX10 9 98 31 := ⟨TX10, 57, rfl, am_hin10, by decide, rfl, am_mem 848 (by decide +kernel) (by decide +kernel)⟩
set_option maxRecDepth 100000 in
theorem sk_104 : am_sk[104]? = some (.inr (0, 100)) := rfl
set_option maxRecDepth 100000 in
theorem fl_X10_101 : am_fld RX10 9 101 32 := ⟨TX10, 57, rfl, am_hin10, by decide, rfl, am_mem 849 (by decide +kernel) (by decide +kernel)⟩
set_option maxRecDepth 100000 in
theorem sk_105 : am_sk[105]? = some (.inr (0, 100)) := rfl
set_option maxRecDepth 100000 in
theorem ym_X10_group : am_y yX10_group cX10_group 6 (some .int) 1 := ⟨am_mem 1138 (by decide +kernel) (by decide +kernel), am_mem 55 (by decide +kernel) (by decide +kernel), by decide +kernel, by decide +kernel, by decide +kernel, by decide +kernel⟩
set_option maxRecDepth 100000 in
theorem ym_X10_placed : am_y yX10_placed cX10_placed 8 none 5 := ⟨am_mem 1158 (by decide +kernel) (by decide +kernel), am_mem 55 (by decide +kernel) (by decide +kernel), by decide +kernel, by decide +kernel, by decide +kernel, by decide +kernel⟩
set_option maxRecDepth 100000 in
theorem ym_X10_adopt : am_y yX10_adopt cX10_adopt 5 none 3 := ⟨am_mem 1154 (by decide +kernel) (by decide +kernel), am_mem 55 (by decide +kernel) (by decide +kernel), by decide +kernel, by decide +kernel, by decide +kernel, by decide +kernel⟩
set_option maxRecDepth 100000 in
theorem ym_X10_done : am_y yX10_done cX10_done 4 none 3 := ⟨am_mem 1162 (by decide +kernel) (by decide +kernel), am_mem 55 (by decide +kernel) (by decide +kernel), by decide +kernel, by decide +kernel, by decide +kernel, by decide +kernel⟩
set_option maxRecDepth 100000 in
theorem im_X10_placed : Cond.instanceMethod yX10_placed ∈ am_T := am_mem 1157 (by decide +kernel) (by decide +kernel)
set_option maxRecDepth 100000 in
theorem se_X10_placed : Cond.selects yX10_placed.cls yX10_placed yX10_placed ∈ am_T := am_mem 43 (by decide +kernel) (by decide +kernel)
set_option maxRecDepth 100000 in
theorem im_X10_adopt : Cond.instanceMethod yX10_adopt ∈ am_T := am_mem 1153 (by decide +kernel) (by decide +kernel)
set_option maxRecDepth 100000 in
theorem se_X10_adopt : Cond.selects yX10_adopt.cls yX10_adopt yX10_adopt ∈ am_T := am_mem 42 (by decide +kernel) (by decide +kernel)
set_option maxRecDepth 100000 in
theorem im_X10_done : Cond.instanceMethod yX10_done ∈ am_T := am_mem 1161 (by decide +kernel) (by decide +kernel)
set_option maxRecDepth 100000 in
theorem se_X10_done : Cond.selects yX10_done.cls yX10_done yX10_done ∈ am_T := am_mem 44 (by decide +kernel) (by decide +kernel)
set_option maxRecDepth 100000 in
theorem fl_X10_234 : am_fld RX10 9 234 56 := ⟨TX10, 57, rfl, am_hin10, by decide, rfl, am_mem 873 (by decide +kernel) (by decide +kernel)⟩
set_option maxRecDepth 100000 in
theorem fl_X10_238 : am_fld RX10 9 238 54 := ⟨TX10, 57, rfl, am_hin10, by decide, rfl, am_mem 871 (by decide +kernel) (by decide +kernel)⟩
set_option maxRecDepth 100000 in
theorem fl_X10_241 : am_fld RX10 9 241 55 := ⟨TX10, 57, rfl, am_hin10, by decide, rfl, am_mem 872 (by decide +kernel) (by decide +kernel)⟩
set_option maxRecDepth 100000 in
theorem ym_X10_job : am_y yX10_job cX10_job 10 none 1 := ⟨am_mem 1150 (by decide +kernel) (by decide +kernel), am_mem 55 (by decide +kernel) (by decide +kernel), by decide +kernel, by decide +kernel, by decide +kernel, by decide +kernel⟩
set_option maxRecDepth 100000 in
theorem im_X10_job : Cond.instanceMethod yX10_job ∈ am_T := am_mem 1149 (by decide +kernel) (by decide +kernel)
set_option maxRecDepth 100000 in
theorem se_X10_job : Cond.selects yX10_job.cls yX10_job yX10_job ∈ am_T := am_mem 41 (by decide +kernel) (by decide +kernel)
set_option maxRecDepth 100000 in
theorem ym_X10_turn : am_y yX10_turn cX10_turn 4 (some .boolean) 0 := ⟨am_mem 1146 (by decide +kernel) (by decide +kernel), am_mem 55 (by decide +kernel) (by decide +kernel), by decide +kernel, by decide +kernel, by decide +kernel, by decide +kernel⟩
set_option maxRecDepth 100000 in
theorem im_X10_turn : Cond.instanceMethod yX10_turn ∈ am_T := am_mem 1145 (by decide +kernel) (by decide +kernel)
set_option maxRecDepth 100000 in
theorem se_X10_turn : Cond.selects yX10_turn.cls yX10_turn yX10_turn ∈ am_T := am_mem 40 (by decide +kernel) (by decide +kernel)
set_option maxRecDepth 100000 in
theorem ym_X10_run : am_y yX10_run cX10_run 4 (some .int) 1 := ⟨am_mem 1142 (by decide +kernel) (by decide +kernel), am_mem 55 (by decide +kernel) (by decide +kernel), by decide +kernel, by decide +kernel, by decide +kernel, by decide +kernel⟩
set_option maxRecDepth 100000 in
theorem im_X10_clear : Cond.instanceMethod yX10_clear ∈ am_T := am_mem 815 (by decide +kernel) (by decide +kernel)
set_option maxRecDepth 100000 in
theorem se_X10_clear : Cond.selects yX10_clear.cls yX10_clear yX10_clear ∈ am_T := am_mem 15 (by decide +kernel) (by decide +kernel)
set_option maxRecDepth 100000 in
theorem ym_X10_forget : am_y yX10_forget cX10_forget 2 (some .int) 0 := ⟨am_mem 1166 (by decide +kernel) (by decide +kernel), am_mem 55 (by decide +kernel) (by decide +kernel), by decide +kernel, by decide +kernel, by decide +kernel, by decide +kernel⟩
set_option maxRecDepth 100000 in
theorem ym_X10_state : am_y yX10_state cX10_state 3 (some .int) 2 := ⟨am_mem 1170 (by decide +kernel) (by decide +kernel), am_mem 55 (by decide +kernel) (by decide +kernel), by decide +kernel, by decide +kernel, by decide +kernel, by decide +kernel⟩
set_option maxRecDepth 100000 in
theorem co_X10_299 : Cond.constantLong RX10 299 (Int64.ofInt 1099511627776) ∈ am_T := am_mem 1175 (by decide +kernel) (by decide +kernel)
set_option maxRecDepth 100000 in
theorem ym_X10_noted : am_y yX10_noted cX10_noted 4 (some .long) 2 := ⟨am_mem 1174 (by decide +kernel) (by decide +kernel), am_mem 55 (by decide +kernel) (by decide +kernel), by decide +kernel, by decide +kernel, by decide +kernel, by decide +kernel⟩
