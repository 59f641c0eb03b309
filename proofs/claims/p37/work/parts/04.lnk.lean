theorem jj_nm_of {y : MethodName} {n : Nat} (h : y.cls ≠ "java/lang/invoke/MethodHandle" ∧ y.cls ≠ "java/lang/invoke/VarHandle" ∧ (parseMethodDescriptor y.desc).map (fun d => d.parameters.length) = some n) : jj_nm y n := h
theorem cs_0 : jj_cls 0 RX0 TX0 3 tyX0 := ⟨rfl, by decide +kernel, tyX0_ok, nmX0⟩
theorem ins_0 : Cond.instantiable RX0 3 ∈ jj_GW := jj_gw 733 (by decide +kernel) rfl
theorem ini_0 : Cond.initialized RX0 ∈ jj_GW := jj_gw 29 (by decide +kernel) rfl
theorem cs_1 : jj_cls 1 RX1 TX1 2 tyX1 := ⟨rfl, by decide +kernel, tyX1_ok, nmX1⟩
theorem ins_1 : Cond.instantiable RX1 2 ∈ jj_GW := jj_gw 41 (by decide +kernel) rfl
theorem ini_1 : Cond.initialized RX1 ∈ jj_GW := jj_gw 15 (by decide +kernel) rfl
theorem cs_2 : jj_cls 2 RX2 TX2 6 tyX2 := ⟨rfl, by decide +kernel, tyX2_ok, nmX2⟩
theorem ins_2 : Cond.instantiable RX2 6 ∈ jj_GW := jj_gw 86 (by decide +kernel) rfl
theorem ini_2 : Cond.initialized RX2 ∈ jj_GW := jj_gw 17 (by decide +kernel) rfl
theorem cs_3 : jj_cls 3 RX3 TX3 4 tyX3 := ⟨rfl, by decide +kernel, tyX3_ok, nmX3⟩
theorem ins_3 : Cond.instantiable RX3 4 ∈ jj_GW := jj_gw 671 (by decide +kernel) rfl
theorem ini_3 : Cond.initialized RX3 ∈ jj_GW := jj_gw 28 (by decide +kernel) rfl
theorem cs_4 : jj_cls 4 RX4 TX4 5 tyX4 := ⟨rfl, by decide +kernel, tyX4_ok, nmX4⟩
theorem ins_4 : Cond.instantiable RX4 5 ∈ jj_GW := jj_gw 563 (by decide +kernel) rfl
theorem ini_4 : Cond.initialized RX4 ∈ jj_GW := jj_gw 26 (by decide +kernel) rfl
theorem cs_5 : jj_cls 5 RX5 TX5 5 tyX5 := ⟨rfl, by decide +kernel, tyX5_ok, nmX5⟩
theorem ins_5 : Cond.instantiable RX5 5 ∈ jj_GW := jj_gw 61 (by decide +kernel) rfl
theorem ini_5 : Cond.initialized RX5 ∈ jj_GW := jj_gw 16 (by decide +kernel) rfl
theorem cs_6 : jj_cls 6 RX6 TX6 7 tyX6 := ⟨rfl, by decide +kernel, tyX6_ok, nmX6⟩
theorem ins_6 : Cond.instantiable RX6 7 ∈ jj_GW := jj_gw 613 (by decide +kernel) rfl
theorem ini_6 : Cond.initialized RX6 ∈ jj_GW := jj_gw 27 (by decide +kernel) rfl
theorem cs_7 : jj_cls 7 RX7 TX7 15 tyX7 := ⟨rfl, by decide +kernel, tyX7_ok, nmX7⟩
theorem ins_7 : Cond.instantiable RX7 15 ∈ jj_GW := jj_gw 365 (by decide +kernel) rfl
theorem ini_7 : Cond.initialized RX7 ∈ jj_GW := jj_gw 24 (by decide +kernel) rfl
theorem cs_8 : jj_cls 8 RX8 TX8 10 tyX8 := ⟨rfl, by decide +kernel, tyX8_ok, nmX8⟩
theorem ins_8 : Cond.instantiable RX8 10 ∈ jj_GW := jj_gw 31 (by decide +kernel) rfl
theorem ini_8 : Cond.initialized RX8 ∈ jj_GW := jj_gw 14 (by decide +kernel) rfl
theorem fd_X8_11 : jj_fld RX8 11 TX8 1 := jj_gw 117 (by decide +kernel) rfl
theorem fd_X8_18 : jj_fld RX8 18 TX8 3 := jj_gw 119 (by decide +kernel) rfl
theorem fd_X8_24 : jj_fld RX8 24 TX8 4 := jj_gw 120 (by decide +kernel) rfl
theorem fd_X8_30 : jj_fld RX8 30 TX8 6 := jj_gw 122 (by decide +kernel) rfl
theorem fd_X8_37 : jj_fld RX8 37 TX8 8 := jj_gw 124 (by decide +kernel) rfl
theorem fd_X8_44 : jj_fld RX8 44 TX8 9 := jj_gw 125 (by decide +kernel) rfl
theorem fd_X8_69 : jj_fld RX8 69 TX8 2 := jj_gw 118 (by decide +kernel) rfl
theorem fd_X8_77 : jj_fld RX8 77 TX7 12 := jj_gw 399 (by decide +kernel) rfl
theorem fd_X8_90 : jj_fld RX8 90 TX7 11 := jj_gw 396 (by decide +kernel) rfl
theorem fd_X8_101 : jj_fld RX8 101 TX7 13 := jj_gw 402 (by decide +kernel) rfl
theorem fd_X8_108 : jj_fld RX8 108 TX8 0 := jj_gw 116 (by decide +kernel) rfl
theorem fd_X8_111 : jj_fld RX8 111 TX7 14 := jj_gw 404 (by decide +kernel) rfl
theorem fd_X8_114 : jj_fld RX8 114 TX7 1 := jj_gw 380 (by decide +kernel) rfl
theorem fd_X8_121 : jj_fld RX8 121 TX7 2 := jj_gw 382 (by decide +kernel) rfl
theorem fd_X8_139 : jj_fld RX8 139 TX7 4 := jj_gw 386 (by decide +kernel) rfl
theorem fd_X8_152 : jj_fld RX8 152 TX4 4 := jj_gw 578 (by decide +kernel) rfl
theorem fd_X8_158 : jj_fld RX8 158 TX1 1 := jj_gw 50 (by decide +kernel) rfl
theorem fd_X8_178 : jj_fld RX8 178 TX8 5 := jj_gw 121 (by decide +kernel) rfl
theorem fd_X8_191 : jj_fld RX8 191 TX4 3 := jj_gw 576 (by decide +kernel) rfl
theorem fd_X8_216 : jj_fld RX8 216 TX4 2 := jj_gw 573 (by decide +kernel) rfl
theorem fd_X8_222 : jj_fld RX8 222 TX6 1 := jj_gw 621 (by decide +kernel) rfl
theorem fd_X8_229 : jj_fld RX8 229 TX6 2 := jj_gw 623 (by decide +kernel) rfl
theorem fd_X8_232 : jj_fld RX8 232 TX6 3 := jj_gw 625 (by decide +kernel) rfl
theorem fd_X8_235 : jj_fld RX8 235 TX6 0 := jj_gw 619 (by decide +kernel) rfl
theorem fd_X8_251 : jj_fld RX8 251 TX6 4 := jj_gw 627 (by decide +kernel) rfl
theorem fd_X8_256 : jj_fld RX8 256 TX2 0 := jj_gw 94 (by decide +kernel) rfl
theorem fd_X8_277 : jj_fld RX8 277 TX6 5 := jj_gw 629 (by decide +kernel) rfl
theorem fd_X8_286 : jj_fld RX8 286 TX8 7 := jj_gw 123 (by decide +kernel) rfl
theorem fd_X8_294 : jj_fld RX8 294 TX6 6 := jj_gw 631 (by decide +kernel) rfl
theorem fd_X8_303 : jj_fld RX8 303 TX0 2 := jj_gw 742 (by decide +kernel) rfl
theorem fd_X8_330 : jj_fld RX8 330 TX5 0 := jj_gw 67 (by decide +kernel) rfl
theorem fd_X8_334 : jj_fld RX8 334 TX5 4 := jj_gw 72 (by decide +kernel) rfl
theorem fd_X8_351 : jj_fld RX8 351 TX2 1 := jj_gw 96 (by decide +kernel) rfl
theorem fd_X8_354 : jj_fld RX8 354 TX2 3 := jj_gw 100 (by decide +kernel) rfl
theorem fd_X8_360 : jj_fld RX8 360 TX2 2 := jj_gw 98 (by decide +kernel) rfl
theorem fd_X8_390 : jj_fld RX8 390 TX7 6 := jj_gw 390 (by decide +kernel) rfl
theorem fd_X8_393 : jj_fld RX8 393 TX7 5 := jj_gw 388 (by decide +kernel) rfl
theorem fd_X8_399 : jj_fld RX8 399 TX7 7 := jj_gw 392 (by decide +kernel) rfl
theorem fd_X8_402 : jj_fld RX8 402 TX7 0 := jj_gw 378 (by decide +kernel) rfl
theorem fd_X8_406 : jj_fld RX8 406 TX1 0 := jj_gw 48 (by decide +kernel) rfl
theorem fd_X8_412 : jj_fld RX8 412 TX7 3 := jj_gw 384 (by decide +kernel) rfl
theorem fd_X8_426 : jj_fld RX8 426 TX0 0 := jj_gw 739 (by decide +kernel) rfl
theorem fd_X0_9 : jj_fld RX0 9 TX0 1 := jj_gw 740 (by decide +kernel) rfl
theorem fd_X0_15 : jj_fld RX0 15 TX0 0 := jj_gw 738 (by decide +kernel) rfl
theorem fd_X0_19 : jj_fld RX0 19 TX0 2 := jj_gw 741 (by decide +kernel) rfl
theorem fd_X1_11 : jj_fld RX1 11 TX1 0 := jj_gw 47 (by decide +kernel) rfl
theorem fd_X1_17 : jj_fld RX1 17 TX1 1 := jj_gw 49 (by decide +kernel) rfl
theorem fd_X1_25 : jj_fld RX1 25 TX7 12 := jj_gw 400 (by decide +kernel) rfl
theorem fd_X2_9 : jj_fld RX2 9 TX2 0 := jj_gw 93 (by decide +kernel) rfl
theorem fd_X2_15 : jj_fld RX2 15 TX2 1 := jj_gw 95 (by decide +kernel) rfl
theorem fd_X2_18 : jj_fld RX2 18 TX2 2 := jj_gw 97 (by decide +kernel) rfl
theorem fd_X2_21 : jj_fld RX2 21 TX2 3 := jj_gw 99 (by decide +kernel) rfl
theorem fd_X2_26 : jj_fld RX2 26 TX2 4 := jj_gw 101 (by decide +kernel) rfl
theorem fd_X2_30 : jj_fld RX2 30 TX2 5 := jj_gw 102 (by decide +kernel) rfl
theorem fd_X2_38 : jj_fld RX2 38 TX3 1 := jj_gw 685 (by decide +kernel) rfl
theorem fd_X2_42 : jj_fld RX2 42 TX3 3 := jj_gw 688 (by decide +kernel) rfl
theorem fd_X3_9 : jj_fld RX3 9 TX3 0 := jj_gw 683 (by decide +kernel) rfl
theorem fd_X3_15 : jj_fld RX3 15 TX3 1 := jj_gw 684 (by decide +kernel) rfl
theorem fd_X3_19 : jj_fld RX3 19 TX3 2 := jj_gw 686 (by decide +kernel) rfl
theorem fd_X3_23 : jj_fld RX3 23 TX3 3 := jj_gw 687 (by decide +kernel) rfl
theorem fd_X3_29 : jj_fld RX3 29 TX4 3 := jj_gw 574 (by decide +kernel) rfl
theorem fd_X4_9 : jj_fld RX4 9 TX4 0 := jj_gw 570 (by decide +kernel) rfl
theorem fd_X4_17 : jj_fld RX4 17 TX4 1 := jj_gw 571 (by decide +kernel) rfl
theorem fd_X4_21 : jj_fld RX4 21 TX4 3 := jj_gw 575 (by decide +kernel) rfl
theorem fd_X4_25 : jj_fld RX4 25 TX4 4 := jj_gw 577 (by decide +kernel) rfl
theorem fd_X4_31 : jj_fld RX4 31 TX4 2 := jj_gw 572 (by decide +kernel) rfl
theorem fd_X5_9 : jj_fld RX5 9 TX5 1 := jj_gw 68 (by decide +kernel) rfl
theorem fd_X5_15 : jj_fld RX5 15 TX5 2 := jj_gw 69 (by decide +kernel) rfl
theorem fd_X5_18 : jj_fld RX5 18 TX5 3 := jj_gw 70 (by decide +kernel) rfl
theorem fd_X5_21 : jj_fld RX5 21 TX5 0 := jj_gw 66 (by decide +kernel) rfl
theorem fd_X5_25 : jj_fld RX5 25 TX5 4 := jj_gw 71 (by decide +kernel) rfl
theorem fd_X6_9 : jj_fld RX6 9 TX6 2 := jj_gw 622 (by decide +kernel) rfl
theorem fd_X6_15 : jj_fld RX6 15 TX6 3 := jj_gw 624 (by decide +kernel) rfl
theorem fd_X6_18 : jj_fld RX6 18 TX6 0 := jj_gw 618 (by decide +kernel) rfl
theorem fd_X6_21 : jj_fld RX6 21 TX6 1 := jj_gw 620 (by decide +kernel) rfl
theorem fd_X6_24 : jj_fld RX6 24 TX6 4 := jj_gw 626 (by decide +kernel) rfl
theorem fd_X6_27 : jj_fld RX6 27 TX6 5 := jj_gw 628 (by decide +kernel) rfl
theorem fd_X6_34 : jj_fld RX6 34 TX6 6 := jj_gw 630 (by decide +kernel) rfl
theorem fd_X7_9 : jj_fld RX7 9 TX7 8 := jj_gw 393 (by decide +kernel) rfl
theorem fd_X7_15 : jj_fld RX7 15 TX7 9 := jj_gw 394 (by decide +kernel) rfl
theorem fd_X7_18 : jj_fld RX7 18 TX7 10 := jj_gw 395 (by decide +kernel) rfl
theorem fd_X7_21 : jj_fld RX7 21 TX7 13 := jj_gw 401 (by decide +kernel) rfl
theorem fd_X7_25 : jj_fld RX7 25 TX7 0 := jj_gw 377 (by decide +kernel) rfl
theorem fd_X7_28 : jj_fld RX7 28 TX7 1 := jj_gw 379 (by decide +kernel) rfl
theorem fd_X7_31 : jj_fld RX7 31 TX7 3 := jj_gw 383 (by decide +kernel) rfl
theorem fd_X7_34 : jj_fld RX7 34 TX7 2 := jj_gw 381 (by decide +kernel) rfl
theorem fd_X7_37 : jj_fld RX7 37 TX7 4 := jj_gw 385 (by decide +kernel) rfl
theorem fd_X7_41 : jj_fld RX7 41 TX7 5 := jj_gw 387 (by decide +kernel) rfl
theorem fd_X7_44 : jj_fld RX7 44 TX7 6 := jj_gw 389 (by decide +kernel) rfl
theorem fd_X7_47 : jj_fld RX7 47 TX7 7 := jj_gw 391 (by decide +kernel) rfl
theorem fd_X7_64 : jj_fld RX7 64 TX7 12 := jj_gw 398 (by decide +kernel) rfl
theorem fd_X7_67 : jj_fld RX7 67 TX7 14 := jj_gw 403 (by decide +kernel) rfl
theorem fd_X7_74 : jj_fld RX7 74 TX7 11 := jj_gw 397 (by decide +kernel) rfl
theorem cl_X8_9 : Cond.classLink RX8 9 "MatrixHouse$Tape" ∈ jj_GW := jj_gw 38 (by decide +kernel) rfl
theorem cl_X8_15 : Cond.classLink RX8 15 "MatrixHouse$Program" ∈ jj_GW := jj_gw 40 (by decide +kernel) rfl
theorem cl_X8_22 : Cond.classLink RX8 22 "MatrixHouse$Side" ∈ jj_GW := jj_gw 56 (by decide +kernel) rfl
theorem cl_X8_28 : Cond.classLink RX8 28 "MatrixHouse$Disc" ∈ jj_GW := jj_gw 58 (by decide +kernel) rfl
theorem cl_X8_34 : Cond.classLink RX8 34 "MatrixHouse$SoundFile" ∈ jj_GW := jj_gw 60 (by decide +kernel) rfl
theorem cl_X8_41 : Cond.classLink RX8 41 "MatrixHouse$Royalties" ∈ jj_GW := jj_gw 85 (by decide +kernel) rfl
theorem cl_X8_55 : Cond.classLink RX8 55 "java/lang/IllegalArgumentException" ∈ jj_GW := jj_gw 239 (by decide +kernel) rfl
theorem cl_X8_93 : Cond.classLink RX8 93 "java/lang/IllegalStateException" ∈ jj_GW := jj_gw 349 (by decide +kernel) rfl
theorem cl_X8_143 : Cond.classLink RX8 143 "java/lang/IndexOutOfBoundsException" ∈ jj_GW := jj_gw 167 (by decide +kernel) rfl
theorem cl_X8_254 : Cond.classLink RX8 254 "MatrixHouse$Sale" ∈ jj_GW := jj_gw 670 (by decide +kernel) rfl
theorem cl_X8_261 : Cond.classLink RX8 261 "[I" ∈ jj_GW := jj_gw 678 (by decide +kernel) rfl
theorem cl_X1_9 : Cond.classLink RX1 9 "MatrixHouse$Tape" ∈ jj_GW := jj_gw 46 (by decide +kernel) rfl
theorem cl_X2_24 : Cond.classLink RX2 24 "MatrixHouse$Sale" ∈ jj_GW := jj_gw 91 (by decide +kernel) rfl
theorem cl_X4_15 : Cond.classLink RX4 15 "MatrixHouse$Stamper" ∈ jj_GW := jj_gw 568 (by decide +kernel) rfl
theorem cl_L_10 : Cond.classLink RL 10 "MatrixHouse" ∈ jj_GW := jj_gw 30 (by decide +kernel) rfl
theorem cl_L_120 : Cond.classLink RL 120 "java/lang/IndexOutOfBoundsException" ∈ jj_GW := jj_gw 333 (by decide +kernel) rfl
theorem cl_L_123 : Cond.classLink RL 123 "java/lang/IllegalArgumentException" ∈ jj_GW := jj_gw 334 (by decide +kernel) rfl
theorem cl_L_126 : Cond.classLink RL 126 "java/lang/IllegalStateException" ∈ jj_GW := jj_gw 335 (by decide +kernel) rfl
theorem cn_X8_348 : Cond.constant RX8 348 999999 ∈ jj_GW := jj_gw 813 (by decide +kernel) rfl
theorem cn_X3_27 : Cond.constantLong RX3 27 100 ∈ jj_GW := jj_gw 706 (by decide +kernel) rfl
theorem cn_L_7 : Cond.constant RL 7 1337338939 ∈ jj_GW := jj_gw 150 (by decide +kernel) rfl
theorem cn_L_8 : Cond.constant RL 8 2147483647 ∈ jj_GW := jj_gw 151 (by decide +kernel) rfl
theorem cn_L_122 : Cond.constant RL 122 -1761000000 ∈ jj_GW := jj_gw 833 (by decide +kernel) rfl
theorem cn_L_125 : Cond.constant RL 125 -1762000000 ∈ jj_GW := jj_gw 834 (by decide +kernel) rfl
theorem cn_L_128 : Cond.constant RL 128 -1763000000 ∈ jj_GW := jj_gw 835 (by decide +kernel) rfl
theorem cn_L_137 : Cond.constantLong RL 137 31 ∈ jj_GW := jj_gw 158 (by decide +kernel) rfl
theorem cn_L_139 : Cond.constantLong RL 139 7 ∈ jj_GW := jj_gw 276 (by decide +kernel) rfl
theorem cn_L_152 : Cond.constant RL 152 1000000 ∈ jj_GW := jj_gw 839 (by decide +kernel) rfl
theorem aw_int : Cond.arrayClass .int ∈ jj_GW := jj_gw 84 (by decide +kernel) rfl
theorem oi_i : Cond.instanceMethod Lib.objectInit ∈ jj_GW := jj_gw 36 (by decide +kernel) rfl
theorem oi_c : Cond.code Lib.objectInit ⟨#[0xb1]⟩ 1 none ∈ jj_GW := jj_gw 37 (by decide +kernel) rfl
theorem mmax_s : Cond.static Lib.Math.max.name ∈ jj_GW := jj_gw 459 (by decide +kernel) rfl
theorem mmax_c : Cond.code Lib.Math.max.name Lib.Math.max.code 2 (some .int) ∈ jj_GW := jj_gw 460 (by decide +kernel) rfl
theorem mmin_s : Cond.static Lib.Math.min.name ∈ jj_GW := jj_gw 466 (by decide +kernel) rfl
theorem mmin_c : Cond.code Lib.Math.min.name Lib.Math.min.code 2 (some .int) ∈ jj_GW := jj_gw 467 (by decide +kernel) rfl
theorem m_i : Cond.initialized "java/lang/Math" ∈ jj_GW := jj_gw 25 (by decide +kernel) rfl
theorem ml_X8_1 : Cond.methodLink RX8 1 Lib.objectInit ∈ jj_GW := jj_gw 35 (by decide +kernel) rfl
theorem lk_X8_48 : jj_lkS RX8 48 yX8_requireArtist cX8_requireArtist 1 none 1 := ⟨jj_nm_of (by decide +kernel), jj_gw 281 (by decide +kernel) rfl, jj_gw 282 (by decide +kernel) rfl, jj_gw 14 (by decide +kernel) rfl, jj_gw 283 (by decide +kernel) rfl⟩
theorem lk_X8_52 : jj_lkS RX8 52 yX8_requireVault cX8_requireVault 1 none 1 := ⟨jj_nm_of (by decide +kernel), jj_gw 340 (by decide +kernel) rfl, jj_gw 341 (by decide +kernel) rfl, jj_gw 14 (by decide +kernel) rfl, jj_gw 342 (by decide +kernel) rfl⟩
theorem lk_X8_62 : jj_lkV RX8 62 yX8_nextTape cX8_nextTape 1 (some .int) 0 := ⟨jj_nm_of (by decide +kernel), jj_gw 345 (by decide +kernel) rfl, jj_gw 347 (by decide +kernel) rfl, jj_gw 4 (by decide +kernel) rfl, jj_gw 14 (by decide +kernel) rfl, jj_gw 348 (by decide +kernel) rfl⟩
theorem lk_X8_66 : jj_lkI RX8 66 yX7_init cX7_init 5 4 := ⟨jj_nm_of (by decide +kernel), rfl, jj_gw 366 (by decide +kernel) rfl, jj_gw 367 (by decide +kernel) rfl, jj_gw 24 (by decide +kernel) rfl, jj_gw 368 (by decide +kernel) rfl⟩
theorem lk_X8_73 : jj_lkV RX8 73 yX8_tapeAt cX8_tapeAt 3 (some (.object "MatrixHouse$Tape")) 1 := ⟨jj_nm_of (by decide +kernel), jj_gw 163 (by decide +kernel) rfl, jj_gw 165 (by decide +kernel) rfl, jj_gw 0 (by decide +kernel) rfl, jj_gw 14 (by decide +kernel) rfl, jj_gw 166 (by decide +kernel) rfl⟩
theorem lk_X8_82 : jj_lkV RX8 82 yX8_requirePlayable cX8_requirePlayable 2 none 1 := ⟨jj_nm_of (by decide +kernel), jj_gw 441 (by decide +kernel) rfl, jj_gw 443 (by decide +kernel) rfl, jj_gw 6 (by decide +kernel) rfl, jj_gw 14 (by decide +kernel) rfl, jj_gw 444 (by decide +kernel) rfl⟩
theorem lk_X8_86 : jj_lkV RX8 86 yX7_spansBetween cX7_spansBetween 7 (some .int) 2 := ⟨jj_nm_of (by decide +kernel), jj_gw 446 (by decide +kernel) rfl, jj_gw 447 (by decide +kernel) rfl, jj_gw 448 (by decide +kernel) rfl, jj_gw 24 (by decide +kernel) rfl, jj_gw 449 (by decide +kernel) rfl⟩
theorem lk_X8_98 : jj_lkI RX8 98 yX7_init_ cX7_init_ 8 6 := ⟨jj_nm_of (by decide +kernel), rfl, jj_gw 455 (by decide +kernel) rfl, jj_gw 456 (by decide +kernel) rfl, jj_gw 24 (by decide +kernel) rfl, jj_gw 457 (by decide +kernel) rfl⟩
theorem lk_X8_117 : jj_lkV RX8 117 yX7_isPlayable cX7_isPlayable 2 (some .boolean) 1 := ⟨jj_nm_of (by decide +kernel), jj_gw 235 (by decide +kernel) rfl, jj_gw 236 (by decide +kernel) rfl, jj_gw 237 (by decide +kernel) rfl, jj_gw 24 (by decide +kernel) rfl, jj_gw 238 (by decide +kernel) rfl⟩
theorem lk_X8_128 : jj_lkV RX8 128 yX7_heardAt cX7_heardAt 5 (some .int) 1 := ⟨jj_nm_of (by decide +kernel), jj_gw 498 (by decide +kernel) rfl, jj_gw 499 (by decide +kernel) rfl, jj_gw 500 (by decide +kernel) rfl, jj_gw 24 (by decide +kernel) rfl, jj_gw 501 (by decide +kernel) rfl⟩
theorem lk_X8_132 : jj_lkV RX8 132 yX7_takeSet cX7_takeSet 3 (some .int) 0 := ⟨jj_nm_of (by decide +kernel), jj_gw 506 (by decide +kernel) rfl, jj_gw 507 (by decide +kernel) rfl, jj_gw 508 (by decide +kernel) rfl, jj_gw 24 (by decide +kernel) rfl, jj_gw 509 (by decide +kernel) rfl⟩
theorem lk_X8_135 : jj_lkS RX8 135 yX8_takesByMaking cX8_takesByMaking 8 (some .int) 1 := ⟨jj_nm_of (by decide +kernel), jj_gw 514 (by decide +kernel) rfl, jj_gw 515 (by decide +kernel) rfl, jj_gw 14 (by decide +kernel) rfl, jj_gw 516 (by decide +kernel) rfl⟩
theorem lk_X8_148 : jj_lkS RX8 148 yX8_has cX8_has 2 (some .boolean) 2 := ⟨jj_nm_of (by decide +kernel), jj_gw 524 (by decide +kernel) rfl, jj_gw 525 (by decide +kernel) rfl, jj_gw 14 (by decide +kernel) rfl, jj_gw 526 (by decide +kernel) rfl⟩
theorem lk_X8_154 : jj_lkV RX8 154 yX4_isAnySold cX4_isAnySold 5 (some .boolean) 0 := ⟨jj_nm_of (by decide +kernel), jj_gw 527 (by decide +kernel) rfl, jj_gw 528 (by decide +kernel) rfl, jj_gw 529 (by decide +kernel) rfl, jj_gw 26 (by decide +kernel) rfl, jj_gw 530 (by decide +kernel) rfl⟩
theorem lk_X8_163 : jj_lkV RX8 163 yX1_append cX1_append 2 none 1 := ⟨jj_nm_of (by decide +kernel), jj_gw 537 (by decide +kernel) rfl, jj_gw 538 (by decide +kernel) rfl, jj_gw 539 (by decide +kernel) rfl, jj_gw 15 (by decide +kernel) rfl, jj_gw 540 (by decide +kernel) rfl⟩
theorem lk_X8_166 : jj_lkV RX8 166 yX1_empty cX1_empty 2 none 0 := ⟨jj_nm_of (by decide +kernel), jj_gw 596 (by decide +kernel) rfl, jj_gw 597 (by decide +kernel) rfl, jj_gw 598 (by decide +kernel) rfl, jj_gw 15 (by decide +kernel) rfl, jj_gw 599 (by decide +kernel) rfl⟩
theorem lk_X8_171 : jj_lkV RX8 171 yX1_isPlayable cX1_isPlayable 6 (some .boolean) 1 := ⟨jj_nm_of (by decide +kernel), jj_gw 546 (by decide +kernel) rfl, jj_gw 547 (by decide +kernel) rfl, jj_gw 548 (by decide +kernel) rfl, jj_gw 15 (by decide +kernel) rfl, jj_gw 549 (by decide +kernel) rfl⟩
theorem lk_X8_174 : jj_lkV RX8 174 yX1_length cX1_length 6 (some .int) 0 := ⟨jj_nm_of (by decide +kernel), jj_gw 552 (by decide +kernel) rfl, jj_gw 553 (by decide +kernel) rfl, jj_gw 554 (by decide +kernel) rfl, jj_gw 15 (by decide +kernel) rfl, jj_gw 555 (by decide +kernel) rfl⟩
theorem lk_X8_183 : jj_lkV RX8 183 yX8_sideOfProgram cX8_sideOfProgram 8 (some (.object "MatrixHouse$Side")) 0 := ⟨jj_nm_of (by decide +kernel), jj_gw 559 (by decide +kernel) rfl, jj_gw 561 (by decide +kernel) rfl, jj_gw 9 (by decide +kernel) rfl, jj_gw 14 (by decide +kernel) rfl, jj_gw 562 (by decide +kernel) rfl⟩
theorem lk_X8_187 : jj_lkV RX8 187 yX8_sideAt cX8_sideAt 3 (some (.object "MatrixHouse$Side")) 1 := ⟨jj_nm_of (by decide +kernel), jj_gw 259 (by decide +kernel) rfl, jj_gw 261 (by decide +kernel) rfl, jj_gw 2 (by decide +kernel) rfl, jj_gw 14 (by decide +kernel) rfl, jj_gw 262 (by decide +kernel) rfl⟩
theorem lk_X8_194 : jj_lkV RX8 194 yX4_secondsOf cX4_secondsOf 2 (some .int) 1 := ⟨jj_nm_of (by decide +kernel), jj_gw 285 (by decide +kernel) rfl, jj_gw 286 (by decide +kernel) rfl, jj_gw 287 (by decide +kernel) rfl, jj_gw 26 (by decide +kernel) rfl, jj_gw 288 (by decide +kernel) rfl⟩
theorem lk_X8_197 : jj_lkS RX8 197 yX8_placeOf cX8_placeOf 2 (some .int) 2 := ⟨jj_nm_of (by decide +kernel), jj_gw 264 (by decide +kernel) rfl, jj_gw 265 (by decide +kernel) rfl, jj_gw 14 (by decide +kernel) rfl, jj_gw 266 (by decide +kernel) rfl⟩
theorem lk_X8_200 : jj_lkV RX8 200 yX4_stamperAt cX4_stamperAt 2 (some (.object "MatrixHouse$Stamper")) 1 := ⟨jj_nm_of (by decide +kernel), jj_gw 268 (by decide +kernel) rfl, jj_gw 269 (by decide +kernel) rfl, jj_gw 270 (by decide +kernel) rfl, jj_gw 26 (by decide +kernel) rfl, jj_gw 271 (by decide +kernel) rfl⟩
theorem lk_X8_206 : jj_lkS RX8 206 yX8_hasWhatItNeeds cX8_hasWhatItNeeds 4 (some .boolean) 2 := ⟨jj_nm_of (by decide +kernel), jj_gw 605 (by decide +kernel) rfl, jj_gw 606 (by decide +kernel) rfl, jj_gw 14 (by decide +kernel) rfl, jj_gw 607 (by decide +kernel) rfl⟩
theorem lk_X8_212 : jj_lkV RX8 212 yX4_make cX4_make 3 none 2 := ⟨jj_nm_of (by decide +kernel), jj_gw 609 (by decide +kernel) rfl, jj_gw 610 (by decide +kernel) rfl, jj_gw 611 (by decide +kernel) rfl, jj_gw 26 (by decide +kernel) rfl, jj_gw 612 (by decide +kernel) rfl⟩
theorem lk_X8_219 : jj_lkS RX8 219 yX8_requireDiscCount cX8_requireDiscCount 1 none 1 := ⟨jj_nm_of (by decide +kernel), jj_gw 651 (by decide +kernel) rfl, jj_gw 652 (by decide +kernel) rfl, jj_gw 14 (by decide +kernel) rfl, jj_gw 653 (by decide +kernel) rfl⟩
theorem lk_X8_238 : jj_lkV RX8 238 yX6_stillSold cX6_stillSold 1 (some .int) 0 := ⟨jj_nm_of (by decide +kernel), jj_gw 272 (by decide +kernel) rfl, jj_gw 273 (by decide +kernel) rfl, jj_gw 274 (by decide +kernel) rfl, jj_gw 27 (by decide +kernel) rfl, jj_gw 275 (by decide +kernel) rfl⟩
theorem lk_X8_241 : jj_lkV RX8 241 yX6_neverSold cX6_neverSold 1 (some .int) 0 := ⟨jj_nm_of (by decide +kernel), jj_gw 660 (by decide +kernel) rfl, jj_gw 661 (by decide +kernel) rfl, jj_gw 662 (by decide +kernel) rfl, jj_gw 27 (by decide +kernel) rfl, jj_gw 663 (by decide +kernel) rfl⟩
theorem lk_X8_246 : jj_lkV RX8 246 yX2_isFull cX2_isFull 1 (some .boolean) 0 := ⟨jj_nm_of (by decide +kernel), jj_gw 665 (by decide +kernel) rfl, jj_gw 666 (by decide +kernel) rfl, jj_gw 667 (by decide +kernel) rfl, jj_gw 17 (by decide +kernel) rfl, jj_gw 668 (by decide +kernel) rfl⟩
theorem lk_X8_265 : jj_lkI RX8 265 yX3_init cX3_init 5 4 := ⟨jj_nm_of (by decide +kernel), rfl, jj_gw 679 (by decide +kernel) rfl, jj_gw 680 (by decide +kernel) rfl, jj_gw 28 (by decide +kernel) rfl, jj_gw 681 (by decide +kernel) rfl⟩
theorem lk_X8_268 : jj_lkV RX8 268 yX2_book cX2_book 3 none 1 := ⟨jj_nm_of (by decide +kernel), jj_gw 698 (by decide +kernel) rfl, jj_gw 699 (by decide +kernel) rfl, jj_gw 700 (by decide +kernel) rfl, jj_gw 17 (by decide +kernel) rfl, jj_gw 701 (by decide +kernel) rfl⟩
theorem lk_X8_272 : jj_lkV RX8 272 yX6_unnamed cX6_unnamed 1 (some .int) 0 := ⟨jj_nm_of (by decide +kernel), jj_gw 712 (by decide +kernel) rfl, jj_gw 713 (by decide +kernel) rfl, jj_gw 714 (by decide +kernel) rfl, jj_gw 27 (by decide +kernel) rfl, jj_gw 715 (by decide +kernel) rfl⟩
theorem lk_X8_280 : jj_lkV RX8 280 yX2_takeBack cX2_takeBack 7 none 2 := ⟨jj_nm_of (by decide +kernel), jj_gw 718 (by decide +kernel) rfl, jj_gw 719 (by decide +kernel) rfl, jj_gw 720 (by decide +kernel) rfl, jj_gw 17 (by decide +kernel) rfl, jj_gw 721 (by decide +kernel) rfl⟩
theorem lk_X8_291 : jj_lkI RX8 291 yX0_init cX0_init 2 1 := ⟨jj_nm_of (by decide +kernel), rfl, jj_gw 734 (by decide +kernel) rfl, jj_gw 735 (by decide +kernel) rfl, jj_gw 29 (by decide +kernel) rfl, jj_gw 736 (by decide +kernel) rfl⟩
theorem lk_X8_297 : jj_lkV RX8 297 yX8_discAt cX8_discAt 3 (some (.object "MatrixHouse$Disc")) 1 := ⟨jj_nm_of (by decide +kernel), jj_gw 293 (by decide +kernel) rfl, jj_gw 295 (by decide +kernel) rfl, jj_gw 3 (by decide +kernel) rfl, jj_gw 14 (by decide +kernel) rfl, jj_gw 296 (by decide +kernel) rfl⟩
theorem lk_X8_306 : jj_lkS RX8 306 yX8_requirePart cX8_requirePart 1 none 1 := ⟨jj_nm_of (by decide +kernel), jj_gw 298 (by decide +kernel) rfl, jj_gw 299 (by decide +kernel) rfl, jj_gw 14 (by decide +kernel) rfl, jj_gw 300 (by decide +kernel) rfl⟩
theorem lk_X8_309 : jj_lkV RX8 309 yX0_addScratch cX0_addScratch 2 none 1 := ⟨jj_nm_of (by decide +kernel), jj_gw 759 (by decide +kernel) rfl, jj_gw 760 (by decide +kernel) rfl, jj_gw 761 (by decide +kernel) rfl, jj_gw 29 (by decide +kernel) rfl, jj_gw 762 (by decide +kernel) rfl⟩
theorem lk_X8_312 : jj_lkV RX8 312 yX0_noiseOf cX0_noiseOf 3 (some .int) 1 := ⟨jj_nm_of (by decide +kernel), jj_gw 302 (by decide +kernel) rfl, jj_gw 303 (by decide +kernel) rfl, jj_gw 304 (by decide +kernel) rfl, jj_gw 29 (by decide +kernel) rfl, jj_gw 305 (by decide +kernel) rfl⟩
theorem lk_X8_315 : jj_lkV RX8 315 yX0_noiseOfAll cX0_noiseOfAll 3 (some .int) 0 := ⟨jj_nm_of (by decide +kernel), jj_gw 310 (by decide +kernel) rfl, jj_gw 311 (by decide +kernel) rfl, jj_gw 312 (by decide +kernel) rfl, jj_gw 29 (by decide +kernel) rfl, jj_gw 313 (by decide +kernel) rfl⟩
theorem lk_X8_318 : jj_lkV RX8 318 yX8_requireJoinable cX8_requireJoinable 6 none 1 := ⟨jj_nm_of (by decide +kernel), jj_gw 767 (by decide +kernel) rfl, jj_gw 769 (by decide +kernel) rfl, jj_gw 11 (by decide +kernel) rfl, jj_gw 14 (by decide +kernel) rfl, jj_gw 770 (by decide +kernel) rfl⟩
theorem lk_X8_321 : jj_lkV RX8 321 yX8_leastNoisy cX8_leastNoisy 7 (some .int) 2 := ⟨jj_nm_of (by decide +kernel), jj_gw 773 (by decide +kernel) rfl, jj_gw 775 (by decide +kernel) rfl, jj_gw 12 (by decide +kernel) rfl, jj_gw 14 (by decide +kernel) rfl, jj_gw 776 (by decide +kernel) rfl⟩
theorem lk_X8_324 : jj_lkV RX8 324 yX5_begin cX5_begin 1 none 0 := ⟨jj_nm_of (by decide +kernel), jj_gw 781 (by decide +kernel) rfl, jj_gw 782 (by decide +kernel) rfl, jj_gw 783 (by decide +kernel) rfl, jj_gw 16 (by decide +kernel) rfl, jj_gw 784 (by decide +kernel) rfl⟩
theorem lk_X8_327 : jj_lkV RX8 327 yX5_write cX5_write 3 none 2 := ⟨jj_nm_of (by decide +kernel), jj_gw 785 (by decide +kernel) rfl, jj_gw 786 (by decide +kernel) rfl, jj_gw 787 (by decide +kernel) rfl, jj_gw 16 (by decide +kernel) rfl, jj_gw 788 (by decide +kernel) rfl⟩
theorem lk_X8_339 : jj_lkV RX8 339 yX5_halve cX5_halve 3 (some .int) 1 := ⟨jj_nm_of (by decide +kernel), jj_gw 794 (by decide +kernel) rfl, jj_gw 795 (by decide +kernel) rfl, jj_gw 796 (by decide +kernel) rfl, jj_gw 16 (by decide +kernel) rfl, jj_gw 797 (by decide +kernel) rfl⟩
theorem lk_X8_344 : jj_lkV RX8 344 yX5_takeBackLatest cX5_takeBackLatest 2 (some .int) 0 := ⟨jj_nm_of (by decide +kernel), jj_gw 805 (by decide +kernel) rfl, jj_gw 806 (by decide +kernel) rfl, jj_gw 807 (by decide +kernel) rfl, jj_gw 16 (by decide +kernel) rfl, jj_gw 808 (by decide +kernel) rfl⟩
theorem lk_X8_347 : jj_lkV RX8 347 yX5_noiseOf cX5_noiseOf 2 (some .int) 1 := ⟨jj_nm_of (by decide +kernel), jj_gw 323 (by decide +kernel) rfl, jj_gw 324 (by decide +kernel) rfl, jj_gw 325 (by decide +kernel) rfl, jj_gw 16 (by decide +kernel) rfl, jj_gw 326 (by decide +kernel) rfl⟩
theorem lk_X8_357 : jj_lkV RX8 357 yX2_dueOfAllSales cX2_dueOfAllSales 7 (some .int) 1 := ⟨jj_nm_of (by decide +kernel), jj_gw 819 (by decide +kernel) rfl, jj_gw 820 (by decide +kernel) rfl, jj_gw 821 (by decide +kernel) rfl, jj_gw 17 (by decide +kernel) rfl, jj_gw 822 (by decide +kernel) rfl⟩
theorem ml_X8_363 : Cond.methodLink RX8 363 Lib.Math.max.name ∈ jj_GW := jj_gw 518 (by decide +kernel) rfl
theorem ml_X8_396 : Cond.methodLink RX8 396 Lib.Math.min.name ∈ jj_GW := jj_gw 517 (by decide +kernel) rfl
theorem lk_X8_409 : jj_lkV RX8 409 yX7_takeOf cX7_takeOf 2 (some .int) 1 := ⟨jj_nm_of (by decide +kernel), jj_gw 590 (by decide +kernel) rfl, jj_gw 469 (by decide +kernel) rfl, jj_gw 470 (by decide +kernel) rfl, jj_gw 24 (by decide +kernel) rfl, jj_gw 471 (by decide +kernel) rfl⟩
theorem lk_X8_415 : jj_lkV RX8 415 yX7_lengthOf cX7_lengthOf 2 (some .int) 1 := ⟨jj_nm_of (by decide +kernel), jj_gw 591 (by decide +kernel) rfl, jj_gw 451 (by decide +kernel) rfl, jj_gw 452 (by decide +kernel) rfl, jj_gw 24 (by decide +kernel) rfl, jj_gw 453 (by decide +kernel) rfl⟩
theorem lk_X8_418 : jj_lkV RX8 418 yX4_addSpan cX4_addSpan 4 none 3 := ⟨jj_nm_of (by decide +kernel), jj_gw 592 (by decide +kernel) rfl, jj_gw 593 (by decide +kernel) rfl, jj_gw 594 (by decide +kernel) rfl, jj_gw 26 (by decide +kernel) rfl, jj_gw 595 (by decide +kernel) rfl⟩
theorem ml_X0_3 : Cond.methodLink RX0 3 Lib.objectInit ∈ jj_GW := jj_gw 737 (by decide +kernel) rfl
theorem lk_X0_23 : jj_lkV RX0 23 yX0_noiseOf cX0_noiseOf 3 (some .int) 1 := ⟨jj_nm_of (by decide +kernel), jj_gw 314 (by decide +kernel) rfl, jj_gw 303 (by decide +kernel) rfl, jj_gw 304 (by decide +kernel) rfl, jj_gw 29 (by decide +kernel) rfl, jj_gw 305 (by decide +kernel) rfl⟩
theorem ml_X1_3 : Cond.methodLink RX1 3 Lib.objectInit ∈ jj_GW := jj_gw 45 (by decide +kernel) rfl
theorem lk_X1_21 : jj_lkV RX1 21 yX7_isPlayable cX7_isPlayable 2 (some .boolean) 1 := ⟨jj_nm_of (by decide +kernel), jj_gw 550 (by decide +kernel) rfl, jj_gw 236 (by decide +kernel) rfl, jj_gw 237 (by decide +kernel) rfl, jj_gw 24 (by decide +kernel) rfl, jj_gw 238 (by decide +kernel) rfl⟩
theorem ml_X1_28 : Cond.methodLink RX1 28 Lib.Math.max.name ∈ jj_GW := jj_gw 556 (by decide +kernel) rfl
theorem ml_X2_3 : Cond.methodLink RX2 3 Lib.objectInit ∈ jj_GW := jj_gw 90 (by decide +kernel) rfl
theorem lk_X2_34 : jj_lkV RX2 34 yX3_dueTo cX3_dueTo 4 (some .int) 1 := ⟨jj_nm_of (by decide +kernel), jj_gw 702 (by decide +kernel) rfl, jj_gw 703 (by decide +kernel) rfl, jj_gw 704 (by decide +kernel) rfl, jj_gw 28 (by decide +kernel) rfl, jj_gw 705 (by decide +kernel) rfl⟩
theorem ml_X2_45 : Cond.methodLink RX2 45 Lib.Math.min.name ∈ jj_GW := jj_gw 722 (by decide +kernel) rfl
theorem lk_X2_51 : jj_lkV RX2 51 yX2_lessen cX2_lessen 4 none 2 := ⟨jj_nm_of (by decide +kernel), jj_gw 723 (by decide +kernel) rfl, jj_gw 725 (by decide +kernel) rfl, jj_gw 10 (by decide +kernel) rfl, jj_gw 17 (by decide +kernel) rfl, jj_gw 726 (by decide +kernel) rfl⟩
theorem ml_X3_3 : Cond.methodLink RX3 3 Lib.objectInit ∈ jj_GW := jj_gw 682 (by decide +kernel) rfl
theorem lk_X3_34 : jj_lkV RX3 34 yX4_secondsOf cX4_secondsOf 2 (some .int) 1 := ⟨jj_nm_of (by decide +kernel), jj_gw 707 (by decide +kernel) rfl, jj_gw 286 (by decide +kernel) rfl, jj_gw 287 (by decide +kernel) rfl, jj_gw 26 (by decide +kernel) rfl, jj_gw 288 (by decide +kernel) rfl⟩
theorem ml_X4_3 : Cond.methodLink RX4 3 Lib.objectInit ∈ jj_GW := jj_gw 567 (by decide +kernel) rfl
theorem lk_X4_28 : jj_lkI RX4 28 yX6_init cX6_init 2 1 := ⟨jj_nm_of (by decide +kernel), rfl, jj_gw 614 (by decide +kernel) rfl, jj_gw 615 (by decide +kernel) rfl, jj_gw 27 (by decide +kernel) rfl, jj_gw 616 (by decide +kernel) rfl⟩
theorem lk_X4_34 : jj_lkV RX4 34 yX6_stillSold cX6_stillSold 1 (some .int) 0 := ⟨jj_nm_of (by decide +kernel), jj_gw 531 (by decide +kernel) rfl, jj_gw 273 (by decide +kernel) rfl, jj_gw 274 (by decide +kernel) rfl, jj_gw 27 (by decide +kernel) rfl, jj_gw 275 (by decide +kernel) rfl⟩
theorem ml_X5_3 : Cond.methodLink RX5 3 Lib.objectInit ∈ jj_GW := jj_gw 65 (by decide +kernel) rfl
theorem lk_X5_29 : jj_lkV RX5 29 yX5_noiseOf cX5_noiseOf 2 (some .int) 1 := ⟨jj_nm_of (by decide +kernel), jj_gw 798 (by decide +kernel) rfl, jj_gw 324 (by decide +kernel) rfl, jj_gw 325 (by decide +kernel) rfl, jj_gw 16 (by decide +kernel) rfl, jj_gw 326 (by decide +kernel) rfl⟩
theorem lk_X5_33 : jj_lkV RX5 33 yX5_write cX5_write 3 none 2 := ⟨jj_nm_of (by decide +kernel), jj_gw 799 (by decide +kernel) rfl, jj_gw 786 (by decide +kernel) rfl, jj_gw 787 (by decide +kernel) rfl, jj_gw 16 (by decide +kernel) rfl, jj_gw 788 (by decide +kernel) rfl⟩
theorem ml_X6_3 : Cond.methodLink RX6 3 Lib.objectInit ∈ jj_GW := jj_gw 617 (by decide +kernel) rfl
theorem lk_X6_30 : jj_lkV RX6 30 yX6_stillSold cX6_stillSold 1 (some .int) 0 := ⟨jj_nm_of (by decide +kernel), jj_gw 716 (by decide +kernel) rfl, jj_gw 273 (by decide +kernel) rfl, jj_gw 274 (by decide +kernel) rfl, jj_gw 27 (by decide +kernel) rfl, jj_gw 275 (by decide +kernel) rfl⟩
theorem ml_X7_3 : Cond.methodLink RX7 3 Lib.objectInit ∈ jj_GW := jj_gw 369 (by decide +kernel) rfl
theorem lk_X7_50 : jj_lkV RX7 50 yX7_append cX7_append 4 none 3 := ⟨jj_nm_of (by decide +kernel), jj_gw 370 (by decide +kernel) rfl, jj_gw 372 (by decide +kernel) rfl, jj_gw 5 (by decide +kernel) rfl, jj_gw 24 (by decide +kernel) rfl, jj_gw 373 (by decide +kernel) rfl⟩
theorem ml_X7_54 : Cond.methodLink RX7 54 Lib.Math.max.name ∈ jj_GW := jj_gw 458 (by decide +kernel) rfl
theorem lk_X7_60 : jj_lkV RX7 60 yX7_copy cX7_copy 8 none 3 := ⟨jj_nm_of (by decide +kernel), jj_gw 461 (by decide +kernel) rfl, jj_gw 463 (by decide +kernel) rfl, jj_gw 7 (by decide +kernel) rfl, jj_gw 24 (by decide +kernel) rfl, jj_gw 464 (by decide +kernel) rfl⟩
theorem lk_X7_70 : jj_lkS RX7 70 yX7_isPlace cX7_isPlace 1 (some .boolean) 1 := ⟨jj_nm_of (by decide +kernel), jj_gw 374 (by decide +kernel) rfl, jj_gw 375 (by decide +kernel) rfl, jj_gw 24 (by decide +kernel) rfl, jj_gw 376 (by decide +kernel) rfl⟩
theorem lk_X7_77 : jj_lkV RX7 77 yX7_lengthOf cX7_lengthOf 2 (some .int) 1 := ⟨jj_nm_of (by decide +kernel), jj_gw 450 (by decide +kernel) rfl, jj_gw 451 (by decide +kernel) rfl, jj_gw 452 (by decide +kernel) rfl, jj_gw 24 (by decide +kernel) rfl, jj_gw 453 (by decide +kernel) rfl⟩
theorem lk_X7_81 : jj_lkV RX7 81 yX7_takeOf cX7_takeOf 2 (some .int) 1 := ⟨jj_nm_of (by decide +kernel), jj_gw 468 (by decide +kernel) rfl, jj_gw 469 (by decide +kernel) rfl, jj_gw 470 (by decide +kernel) rfl, jj_gw 24 (by decide +kernel) rfl, jj_gw 471 (by decide +kernel) rfl⟩
theorem lk_X7_84 : jj_lkV RX7 84 yX7_fromOf cX7_fromOf 2 (some .int) 1 := ⟨jj_nm_of (by decide +kernel), jj_gw 472 (by decide +kernel) rfl, jj_gw 474 (by decide +kernel) rfl, jj_gw 8 (by decide +kernel) rfl, jj_gw 24 (by decide +kernel) rfl, jj_gw 475 (by decide +kernel) rfl⟩
theorem ml_X7_87 : Cond.methodLink RX7 87 Lib.Math.min.name ∈ jj_GW := jj_gw 465 (by decide +kernel) rfl
theorem lk_L_9 : jj_lkV RL 9 yX8_session cX8_session 5 (some .int) 3 := ⟨jj_nm_of (by decide +kernel), jj_gw 336 (by decide +kernel) rfl, jj_gw 337 (by decide +kernel) rfl, jj_gw 338 (by decide +kernel) rfl, jj_gw 14 (by decide +kernel) rfl, jj_gw 339 (by decide +kernel) rfl⟩
theorem lk_L_15 : jj_lkV RL 15 yX8_splice cX8_splice 10 (some .int) 5 := ⟨jj_nm_of (by decide +kernel), jj_gw 436 (by decide +kernel) rfl, jj_gw 437 (by decide +kernel) rfl, jj_gw 438 (by decide +kernel) rfl, jj_gw 14 (by decide +kernel) rfl, jj_gw 439 (by decide +kernel) rfl⟩
theorem lk_L_19 : jj_lkS RL 19 yL_sheds cL_sheds 2 (some .int) 2 := ⟨jj_nm_of (by decide +kernel), jj_gw 476 (by decide +kernel) rfl, jj_gw 477 (by decide +kernel) rfl, jj_gw 13 (by decide +kernel) rfl, jj_gw 478 (by decide +kernel) rfl⟩
theorem lk_L_25 : jj_lkV RL 25 yX8_bake cX8_bake 3 (some .int) 1 := ⟨jj_nm_of (by decide +kernel), jj_gw 484 (by decide +kernel) rfl, jj_gw 485 (by decide +kernel) rfl, jj_gw 486 (by decide +kernel) rfl, jj_gw 14 (by decide +kernel) rfl, jj_gw 487 (by decide +kernel) rfl⟩
theorem lk_L_29 : jj_lkV RL 29 yX8_fire cX8_fire 7 (some .int) 1 := ⟨jj_nm_of (by decide +kernel), jj_gw 489 (by decide +kernel) rfl, jj_gw 490 (by decide +kernel) rfl, jj_gw 491 (by decide +kernel) rfl, jj_gw 14 (by decide +kernel) rfl, jj_gw 492 (by decide +kernel) rfl⟩
theorem lk_L_32 : jj_lkV RL 32 yX8_tapeIs cX8_tapeIs 4 (some .int) 2 := ⟨jj_nm_of (by decide +kernel), jj_gw 159 (by decide +kernel) rfl, jj_gw 160 (by decide +kernel) rfl, jj_gw 161 (by decide +kernel) rfl, jj_gw 14 (by decide +kernel) rfl, jj_gw 162 (by decide +kernel) rfl⟩
theorem lk_L_36 : jj_lkV RL 36 yX8_heard cX8_heard 4 (some .int) 2 := ⟨jj_nm_of (by decide +kernel), jj_gw 493 (by decide +kernel) rfl, jj_gw 494 (by decide +kernel) rfl, jj_gw 495 (by decide +kernel) rfl, jj_gw 14 (by decide +kernel) rfl, jj_gw 496 (by decide +kernel) rfl⟩
theorem lk_L_39 : jj_lkV RL 39 yX8_takes cX8_takes 2 (some .int) 1 := ⟨jj_nm_of (by decide +kernel), jj_gw 502 (by decide +kernel) rfl, jj_gw 503 (by decide +kernel) rfl, jj_gw 504 (by decide +kernel) rfl, jj_gw 14 (by decide +kernel) rfl, jj_gw 505 (by decide +kernel) rfl⟩
theorem lk_L_42 : jj_lkV RL 42 yX8_takesAnew cX8_takesAnew 2 (some .int) 1 := ⟨jj_nm_of (by decide +kernel), jj_gw 510 (by decide +kernel) rfl, jj_gw 511 (by decide +kernel) rfl, jj_gw 512 (by decide +kernel) rfl, jj_gw 14 (by decide +kernel) rfl, jj_gw 513 (by decide +kernel) rfl⟩
theorem lk_L_45 : jj_lkV RL 45 yX8_isLost cX8_isLost 6 (some .boolean) 1 := ⟨jj_nm_of (by decide +kernel), jj_gw 519 (by decide +kernel) rfl, jj_gw 520 (by decide +kernel) rfl, jj_gw 521 (by decide +kernel) rfl, jj_gw 14 (by decide +kernel) rfl, jj_gw 522 (by decide +kernel) rfl⟩
theorem lk_L_49 : jj_lkV RL 49 yX8_add cX8_add 3 (some .int) 1 := ⟨jj_nm_of (by decide +kernel), jj_gw 532 (by decide +kernel) rfl, jj_gw 533 (by decide +kernel) rfl, jj_gw 534 (by decide +kernel) rfl, jj_gw 14 (by decide +kernel) rfl, jj_gw 535 (by decide +kernel) rfl⟩
theorem lk_L_52 : jj_lkV RL 52 yX8_cut cX8_cut 3 (some .int) 1 := ⟨jj_nm_of (by decide +kernel), jj_gw 541 (by decide +kernel) rfl, jj_gw 542 (by decide +kernel) rfl, jj_gw 543 (by decide +kernel) rfl, jj_gw 14 (by decide +kernel) rfl, jj_gw 544 (by decide +kernel) rfl⟩
theorem lk_L_55 : jj_lkV RL 55 yX8_seconds cX8_seconds 4 (some .int) 2 := ⟨jj_nm_of (by decide +kernel), jj_gw 277 (by decide +kernel) rfl, jj_gw 278 (by decide +kernel) rfl, jj_gw 279 (by decide +kernel) rfl, jj_gw 14 (by decide +kernel) rfl, jj_gw 280 (by decide +kernel) rfl⟩
theorem lk_L_58 : jj_lkV RL 58 yX8_stamper cX8_stamper 6 (some .int) 3 := ⟨jj_nm_of (by decide +kernel), jj_gw 600 (by decide +kernel) rfl, jj_gw 601 (by decide +kernel) rfl, jj_gw 602 (by decide +kernel) rfl, jj_gw 14 (by decide +kernel) rfl, jj_gw 603 (by decide +kernel) rfl⟩
theorem lk_L_61 : jj_lkV RL 61 yX8_press cX8_press 6 (some .int) 4 := ⟨jj_nm_of (by decide +kernel), jj_gw 647 (by decide +kernel) rfl, jj_gw 648 (by decide +kernel) rfl, jj_gw 649 (by decide +kernel) rfl, jj_gw 14 (by decide +kernel) rfl, jj_gw 650 (by decide +kernel) rfl⟩
theorem lk_L_65 : jj_lkV RL 65 yX8_stamperIs cX8_stamperIs 6 (some .int) 4 := ⟨jj_nm_of (by decide +kernel), jj_gw 255 (by decide +kernel) rfl, jj_gw 256 (by decide +kernel) rfl, jj_gw 257 (by decide +kernel) rfl, jj_gw 14 (by decide +kernel) rfl, jj_gw 258 (by decide +kernel) rfl⟩
theorem lk_L_68 : jj_lkV RL 68 yX8_sell cX8_sell 7 (some .int) 4 := ⟨jj_nm_of (by decide +kernel), jj_gw 656 (by decide +kernel) rfl, jj_gw 657 (by decide +kernel) rfl, jj_gw 658 (by decide +kernel) rfl, jj_gw 14 (by decide +kernel) rfl, jj_gw 659 (by decide +kernel) rfl⟩
theorem lk_L_71 : jj_lkV RL 71 yX8_back cX8_back 6 (some .int) 4 := ⟨jj_nm_of (by decide +kernel), jj_gw 708 (by decide +kernel) rfl, jj_gw 709 (by decide +kernel) rfl, jj_gw 710 (by decide +kernel) rfl, jj_gw 14 (by decide +kernel) rfl, jj_gw 711 (by decide +kernel) rfl⟩
theorem lk_L_74 : jj_lkV RL 74 yX8_disc cX8_disc 7 (some .int) 3 := ⟨jj_nm_of (by decide +kernel), jj_gw 727 (by decide +kernel) rfl, jj_gw 728 (by decide +kernel) rfl, jj_gw 729 (by decide +kernel) rfl, jj_gw 14 (by decide +kernel) rfl, jj_gw 730 (by decide +kernel) rfl⟩
theorem lk_L_77 : jj_lkV RL 77 yX8_play cX8_play 5 (some .int) 3 := ⟨jj_nm_of (by decide +kernel), jj_gw 750 (by decide +kernel) rfl, jj_gw 751 (by decide +kernel) rfl, jj_gw 752 (by decide +kernel) rfl, jj_gw 14 (by decide +kernel) rfl, jj_gw 753 (by decide +kernel) rfl⟩
theorem lk_L_80 : jj_lkV RL 80 yX8_scratch cX8_scratch 4 (some .int) 2 := ⟨jj_nm_of (by decide +kernel), jj_gw 755 (by decide +kernel) rfl, jj_gw 756 (by decide +kernel) rfl, jj_gw 757 (by decide +kernel) rfl, jj_gw 14 (by decide +kernel) rfl, jj_gw 758 (by decide +kernel) rfl⟩
theorem lk_L_83 : jj_lkV RL 83 yX8_noise cX8_noise 4 (some .int) 2 := ⟨jj_nm_of (by decide +kernel), jj_gw 289 (by decide +kernel) rfl, jj_gw 290 (by decide +kernel) rfl, jj_gw 291 (by decide +kernel) rfl, jj_gw 14 (by decide +kernel) rfl, jj_gw 292 (by decide +kernel) rfl⟩
theorem lk_L_86 : jj_lkV RL 86 yX8_grade cX8_grade 3 (some .int) 1 := ⟨jj_nm_of (by decide +kernel), jj_gw 306 (by decide +kernel) rfl, jj_gw 307 (by decide +kernel) rfl, jj_gw 308 (by decide +kernel) rfl, jj_gw 14 (by decide +kernel) rfl, jj_gw 309 (by decide +kernel) rfl⟩
theorem lk_L_89 : jj_lkV RL 89 yX8_join cX8_join 3 (some .int) 2 := ⟨jj_nm_of (by decide +kernel), jj_gw 763 (by decide +kernel) rfl, jj_gw 764 (by decide +kernel) rfl, jj_gw 765 (by decide +kernel) rfl, jj_gw 14 (by decide +kernel) rfl, jj_gw 766 (by decide +kernel) rfl⟩
theorem lk_L_92 : jj_lkV RL 92 yX8_file cX8_file 5 (some .int) 1 := ⟨jj_nm_of (by decide +kernel), jj_gw 777 (by decide +kernel) rfl, jj_gw 778 (by decide +kernel) rfl, jj_gw 779 (by decide +kernel) rfl, jj_gw 14 (by decide +kernel) rfl, jj_gw 780 (by decide +kernel) rfl⟩
theorem lk_L_95 : jj_lkV RL 95 yX8_repair cX8_repair 2 (some .int) 1 := ⟨jj_nm_of (by decide +kernel), jj_gw 789 (by decide +kernel) rfl, jj_gw 790 (by decide +kernel) rfl, jj_gw 791 (by decide +kernel) rfl, jj_gw 14 (by decide +kernel) rfl, jj_gw 792 (by decide +kernel) rfl⟩
theorem lk_L_98 : jj_lkV RL 98 yX8_undo cX8_undo 1 (some .int) 0 := ⟨jj_nm_of (by decide +kernel), jj_gw 800 (by decide +kernel) rfl, jj_gw 801 (by decide +kernel) rfl, jj_gw 802 (by decide +kernel) rfl, jj_gw 14 (by decide +kernel) rfl, jj_gw 803 (by decide +kernel) rfl⟩
theorem lk_L_102 : jj_lkV RL 102 yX8_fileIs cX8_fileIs 2 (some .int) 1 := ⟨jj_nm_of (by decide +kernel), jj_gw 319 (by decide +kernel) rfl, jj_gw 320 (by decide +kernel) rfl, jj_gw 321 (by decide +kernel) rfl, jj_gw 14 (by decide +kernel) rfl, jj_gw 322 (by decide +kernel) rfl⟩
theorem lk_L_105 : jj_lkV RL 105 yX8_contract cX8_contract 4 (some .int) 3 := ⟨jj_nm_of (by decide +kernel), jj_gw 809 (by decide +kernel) rfl, jj_gw 810 (by decide +kernel) rfl, jj_gw 811 (by decide +kernel) rfl, jj_gw 14 (by decide +kernel) rfl, jj_gw 812 (by decide +kernel) rfl⟩
theorem lk_L_108 : jj_lkV RL 108 yX8_account cX8_account 2 (some .int) 1 := ⟨jj_nm_of (by decide +kernel), jj_gw 315 (by decide +kernel) rfl, jj_gw 316 (by decide +kernel) rfl, jj_gw 317 (by decide +kernel) rfl, jj_gw 14 (by decide +kernel) rfl, jj_gw 318 (by decide +kernel) rfl⟩
theorem lk_L_111 : jj_lkV RL 111 yX8_accountAnew cX8_accountAnew 2 (some .int) 1 := ⟨jj_nm_of (by decide +kernel), jj_gw 815 (by decide +kernel) rfl, jj_gw 816 (by decide +kernel) rfl, jj_gw 817 (by decide +kernel) rfl, jj_gw 14 (by decide +kernel) rfl, jj_gw 818 (by decide +kernel) rfl⟩
theorem lk_L_114 : jj_lkV RL 114 yX8_payOut cX8_payOut 3 (some .int) 1 := ⟨jj_nm_of (by decide +kernel), jj_gw 823 (by decide +kernel) rfl, jj_gw 824 (by decide +kernel) rfl, jj_gw 825 (by decide +kernel) rfl, jj_gw 14 (by decide +kernel) rfl, jj_gw 826 (by decide +kernel) rfl⟩
theorem lk_L_117 : jj_lkV RL 117 yX8_pass cX8_pass 2 (some .int) 1 := ⟨jj_nm_of (by decide +kernel), jj_gw 827 (by decide +kernel) rfl, jj_gw 828 (by decide +kernel) rfl, jj_gw 829 (by decide +kernel) rfl, jj_gw 14 (by decide +kernel) rfl, jj_gw 830 (by decide +kernel) rfl⟩
theorem lk_L_129 : jj_lkV RL 129 yX8_shed cX8_shed 3 none 1 := ⟨jj_nm_of (by decide +kernel), jj_gw 479 (by decide +kernel) rfl, jj_gw 480 (by decide +kernel) rfl, jj_gw 481 (by decide +kernel) rfl, jj_gw 14 (by decide +kernel) rfl, jj_gw 482 (by decide +kernel) rfl⟩
theorem lk_L_141 : jj_lkS RL 141 yL_all cL_all 5 (some .long) 2 := ⟨jj_nm_of (by decide +kernel), jj_gw 155 (by decide +kernel) rfl, jj_gw 156 (by decide +kernel) rfl, jj_gw 13 (by decide +kernel) rfl, jj_gw 157 (by decide +kernel) rfl⟩
theorem lk_L_145 : jj_lkS RL 145 yL_no cL_no 6 (some .boolean) 6 := ⟨jj_nm_of (by decide +kernel), jj_gw 327 (by decide +kernel) rfl, jj_gw 328 (by decide +kernel) rfl, jj_gw 13 (by decide +kernel) rfl, jj_gw 329 (by decide +kernel) rfl⟩
theorem lk_L_149 : jj_lkS RL 149 yL_off cL_off 6 (some .boolean) 6 := ⟨jj_nm_of (by decide +kernel), jj_gw 836 (by decide +kernel) rfl, jj_gw 837 (by decide +kernel) rfl, jj_gw 13 (by decide +kernel) rfl, jj_gw 838 (by decide +kernel) rfl⟩
theorem lk_L_153 : jj_lkV RL 153 yX8_clear cX8_clear 2 (some .int) 0 := ⟨jj_nm_of (by decide +kernel), jj_gw 849 (by decide +kernel) rfl, jj_gw 850 (by decide +kernel) rfl, jj_gw 851 (by decide +kernel) rfl, jj_gw 14 (by decide +kernel) rfl, jj_gw 852 (by decide +kernel) rfl⟩
theorem lk_L_156 : jj_lkI RL 156 yX8_init cX8_init 1 0 := ⟨jj_nm_of (by decide +kernel), rfl, jj_gw 32 (by decide +kernel) rfl, jj_gw 33 (by decide +kernel) rfl, jj_gw 14 (by decide +kernel) rfl, jj_gw 34 (by decide +kernel) rfl⟩
theorem lk_L_157 : jj_lkS RL 157 yL_isRefused cL_isRefused 16 (some .boolean) 3 := ⟨jj_nm_of (by decide +kernel), jj_gw 152 (by decide +kernel) rfl, jj_gw 153 (by decide +kernel) rfl, jj_gw 13 (by decide +kernel) rfl, jj_gw 154 (by decide +kernel) rfl⟩
theorem lk_L_161 : jj_lkS RL 161 yL_roll cL_roll 2 (some .int) 2 := ⟨jj_nm_of (by decide +kernel), jj_gw 147 (by decide +kernel) rfl, jj_gw 148 (by decide +kernel) rfl, jj_gw 13 (by decide +kernel) rfl, jj_gw 149 (by decide +kernel) rfl⟩
theorem lk_L_165 : jj_lkS RL 165 yL_isTaped cL_isTaped 18 (some .boolean) 5 := ⟨jj_nm_of (by decide +kernel), jj_gw 843 (by decide +kernel) rfl, jj_gw 844 (by decide +kernel) rfl, jj_gw 13 (by decide +kernel) rfl, jj_gw 845 (by decide +kernel) rfl⟩
theorem lk_L_169 : jj_lkS RL 169 yL_isPressed cL_isPressed 16 (some .boolean) 4 := ⟨jj_nm_of (by decide +kernel), jj_gw 846 (by decide +kernel) rfl, jj_gw 847 (by decide +kernel) rfl, jj_gw 13 (by decide +kernel) rfl, jj_gw 848 (by decide +kernel) rfl⟩
theorem lk_L_173 : jj_lkS RL 173 yL_isPlayed cL_isPlayed 14 (some .boolean) 5 := ⟨jj_nm_of (by decide +kernel), jj_gw 853 (by decide +kernel) rfl, jj_gw 854 (by decide +kernel) rfl, jj_gw 13 (by decide +kernel) rfl, jj_gw 855 (by decide +kernel) rfl⟩
theorem lk_L_176 : jj_lkS RL 176 yL_isPaid cL_isPaid 8 (some .boolean) 4 := ⟨jj_nm_of (by decide +kernel), jj_gw 856 (by decide +kernel) rfl, jj_gw 857 (by decide +kernel) rfl, jj_gw 13 (by decide +kernel) rfl, jj_gw 858 (by decide +kernel) rfl⟩
theorem lk_L_179 : jj_lkS RL 179 yL_areSound cL_areSound 10 (some .boolean) 4 := ⟨jj_nm_of (by decide +kernel), jj_gw 840 (by decide +kernel) rfl, jj_gw 841 (by decide +kernel) rfl, jj_gw 13 (by decide +kernel) rfl, jj_gw 842 (by decide +kernel) rfl⟩
theorem lk_X8_17 : jj_lkN RX8 17 yX1_init "MatrixHouse" cX1_init 1 0 := ⟨jj_nm_of (by decide +kernel), rfl, jj_tw_mem 42 (by decide +kernel) rfl, jj_gw 43 (by decide +kernel) rfl, jj_gw 15 (by decide +kernel) rfl, jj_gw 44 (by decide +kernel) rfl⟩
theorem lk_X8_36 : jj_lkN RX8 36 yX5_init "MatrixHouse" cX5_init 1 0 := ⟨jj_nm_of (by decide +kernel), rfl, jj_tw_mem 62 (by decide +kernel) rfl, jj_gw 63 (by decide +kernel) rfl, jj_gw 16 (by decide +kernel) rfl, jj_gw 64 (by decide +kernel) rfl⟩
theorem lk_X8_43 : jj_lkN RX8 43 yX2_init "MatrixHouse" cX2_init 1 0 := ⟨jj_nm_of (by decide +kernel), rfl, jj_tw_mem 87 (by decide +kernel) rfl, jj_gw 88 (by decide +kernel) rfl, jj_gw 17 (by decide +kernel) rfl, jj_gw 89 (by decide +kernel) rfl⟩
theorem lk_X8_405 : jj_lkN RX8 405 yX4_init "MatrixHouse" cX4_init 1 0 := ⟨jj_nm_of (by decide +kernel), rfl, jj_tw_mem 564 (by decide +kernel) rfl, jj_gw 565 (by decide +kernel) rfl, jj_gw 26 (by decide +kernel) rfl, jj_gw 566 (by decide +kernel) rfl⟩
theorem th_2 : jj_thr RX8 55 59 "java/lang/IllegalArgumentException" := ⟨by decide +kernel, cl_X8_55, jj_gw 22 (by decide +kernel) rfl, by decide +kernel, by decide +kernel⟩
theorem th_3 : jj_thr RX8 93 97 "java/lang/IllegalStateException" := ⟨by decide +kernel, cl_X8_93, jj_gw 23 (by decide +kernel) rfl, by decide +kernel, by decide +kernel⟩
theorem th_1 : jj_thr RX8 143 147 "java/lang/IndexOutOfBoundsException" := ⟨by decide +kernel, cl_X8_143, jj_gw 21 (by decide +kernel) rfl, by decide +kernel, by decide +kernel⟩
theorem sr_X8_57 : (RX8, 57, "seconds out of range") ∈ jj_S := List.mem_filterMap.mpr ⟨_, List.mem_of_getElem? (i := 344) (a := Cond.stringRef RX8 57 "seconds out of range") (by decide +kernel), rfl⟩
theorem sr_X8_80 : (RX8, 80, "no such part of the tape") ∈ jj_S := List.mem_filterMap.mpr ⟨_, List.mem_of_getElem? (i := 440) (a := Cond.stringRef RX8 80 "no such part of the tape") (by decide +kernel), rfl⟩
theorem sr_X8_95 : (RX8, 95, "too many spans") ∈ jj_S := List.mem_filterMap.mpr ⟨_, List.mem_of_getElem? (i := 454) (a := Cond.stringRef RX8 95 "too many spans") (by decide +kernel), rfl⟩
theorem sr_X8_104 : (RX8, 104, "the tape is not good") ∈ jj_S := List.mem_filterMap.mpr ⟨_, List.mem_of_getElem? (i := 483) (a := Cond.stringRef RX8 104 "the tape is not good") (by decide +kernel), rfl⟩
theorem sr_X8_106 : (RX8, 106, "the tape is not one that sheds") ∈ jj_S := List.mem_filterMap.mpr ⟨_, List.mem_of_getElem? (i := 488) (a := Cond.stringRef RX8 106 "the tape is not one that sheds") (by decide +kernel), rfl⟩
theorem sr_X8_124 : (RX8, 124, "what out of range") ∈ jj_S := List.mem_filterMap.mpr ⟨_, List.mem_of_getElem? (i := 248) (a := Cond.stringRef RX8 124 "what out of range") (by decide +kernel), rfl⟩
theorem sr_X8_126 : (RX8, 126, "second below 0") ∈ jj_S := List.mem_filterMap.mpr ⟨_, List.mem_of_getElem? (i := 497) (a := Cond.stringRef RX8 126 "second below 0") (by decide +kernel), rfl⟩
theorem sr_X8_145 : (RX8, 145, "no such take: the tape is a splice") ∈ jj_S := List.mem_filterMap.mpr ⟨_, List.mem_of_getElem? (i := 523) (a := Cond.stringRef RX8 145 "no such take: the tape is a splice") (by decide +kernel), rfl⟩
theorem sr_X8_161 : (RX8, 161, "the program is full") ∈ jj_S := List.mem_filterMap.mpr ⟨_, List.mem_of_getElem? (i := 536) (a := Cond.stringRef RX8 161 "the program is full") (by decide +kernel), rfl⟩
theorem sr_X8_169 : (RX8, 169, "level out of range") ∈ jj_S := List.mem_filterMap.mpr ⟨_, List.mem_of_getElem? (i := 545) (a := Cond.stringRef RX8 169 "level out of range") (by decide +kernel), rfl⟩
theorem sr_X8_172 : (RX8, 172, "the program is empty or not playable") ∈ jj_S := List.mem_filterMap.mpr ⟨_, List.mem_of_getElem? (i := 551) (a := Cond.stringRef RX8 172 "the program is empty or not playable") (by decide +kernel), rfl⟩
theorem sr_X8_176 : (RX8, 176, "the program is too long") ∈ jj_S := List.mem_filterMap.mpr ⟨_, List.mem_of_getElem? (i := 557) (a := Cond.stringRef RX8 176 "the program is too long") (by decide +kernel), rfl⟩
theorem sr_X8_181 : (RX8, 181, "there are all sides") ∈ jj_S := List.mem_filterMap.mpr ⟨_, List.mem_of_getElem? (i := 558) (a := Cond.stringRef RX8 181 "there are all sides") (by decide +kernel), rfl⟩
theorem sr_X8_204 : (RX8, 204, "the stamper is made") ∈ jj_S := List.mem_filterMap.mpr ⟨_, List.mem_of_getElem? (i := 604) (a := Cond.stringRef RX8 204 "the stamper is made") (by decide +kernel), rfl⟩
theorem sr_X8_210 : (RX8, 210, "the one ahead is not made") ∈ jj_S := List.mem_filterMap.mpr ⟨_, List.mem_of_getElem? (i := 608) (a := Cond.stringRef RX8 210 "the one ahead is not made") (by decide +kernel), rfl⟩
theorem sr_X8_227 : (RX8, 227, "the stamper is not good for so many") ∈ jj_S := List.mem_filterMap.mpr ⟨_, List.mem_of_getElem? (i := 655) (a := Cond.stringRef RX8 227 "the stamper is not good for so many") (by decide +kernel), rfl⟩
theorem sr_X8_244 : (RX8, 244, "there are not so many to be sold") ∈ jj_S := List.mem_filterMap.mpr ⟨_, List.mem_of_getElem? (i := 664) (a := Cond.stringRef RX8 244 "there are not so many to be sold") (by decide +kernel), rfl⟩
theorem sr_X8_249 : (RX8, 249, "there were all sales") ∈ jj_S := List.mem_filterMap.mpr ⟨_, List.mem_of_getElem? (i := 669) (a := Cond.stringRef RX8 249 "there were all sales") (by decide +kernel), rfl⟩
theorem sr_X8_275 : (RX8, 275, "there are not so many that can come back") ∈ jj_S := List.mem_filterMap.mpr ⟨_, List.mem_of_getElem? (i := 717) (a := Cond.stringRef RX8 275 "there are not so many that can come back") (by decide +kernel), rfl⟩
theorem sr_X8_284 : (RX8, 284, "all that are sold are named") ∈ jj_S := List.mem_filterMap.mpr ⟨_, List.mem_of_getElem? (i := 731) (a := Cond.stringRef RX8 284 "all that are sold are named") (by decide +kernel), rfl⟩
theorem sr_X8_289 : (RX8, 289, "there are all discs") ∈ jj_S := List.mem_filterMap.mpr ⟨_, List.mem_of_getElem? (i := 732) (a := Cond.stringRef RX8 289 "there are all discs") (by decide +kernel), rfl⟩
theorem sr_X8_301 : (RX8, 301, "needle or times out of range") ∈ jj_S := List.mem_filterMap.mpr ⟨_, List.mem_of_getElem? (i := 754) (a := Cond.stringRef RX8 301 "needle or times out of range") (by decide +kernel), rfl⟩
theorem sr_X8_337 : (RX8, 337, "the file is empty or has all repairs") ∈ jj_S := List.mem_filterMap.mpr ⟨_, List.mem_of_getElem? (i := 793) (a := Cond.stringRef RX8 337 "the file is empty or has all repairs") (by decide +kernel), rfl⟩
theorem sr_X8_342 : (RX8, 342, "there is no repair") ∈ jj_S := List.mem_filterMap.mpr ⟨_, List.mem_of_getElem? (i := 804) (a := Cond.stringRef RX8 342 "there is no repair") (by decide +kernel), rfl⟩
theorem sr_X8_349 : (RX8, 349, "rate or advance out of range") ∈ jj_S := List.mem_filterMap.mpr ⟨_, List.mem_of_getElem? (i := 814) (a := Cond.stringRef RX8 349 "rate or advance out of range") (by decide +kernel), rfl⟩
theorem sr_X8_368 : (RX8, 368, "days out of range") ∈ jj_S := List.mem_filterMap.mpr ⟨_, List.mem_of_getElem? (i := 831) (a := Cond.stringRef RX8 368 "days out of range") (by decide +kernel), rfl⟩
theorem sr_X8_370 : (RX8, 370, "time ends ahead of that") ∈ jj_S := List.mem_filterMap.mpr ⟨_, List.mem_of_getElem? (i := 832) (a := Cond.stringRef RX8 370 "time ends ahead of that") (by decide +kernel), rfl⟩
theorem sr_X8_372 : (RX8, 372, "no such artist") ∈ jj_S := List.mem_filterMap.mpr ⟨_, List.mem_of_getElem? (i := 284) (a := Cond.stringRef RX8 372 "no such artist") (by decide +kernel), rfl⟩
theorem sr_X8_374 : (RX8, 374, "no such vault") ∈ jj_S := List.mem_filterMap.mpr ⟨_, List.mem_of_getElem? (i := 343) (a := Cond.stringRef RX8 374 "no such vault") (by decide +kernel), rfl⟩
theorem sr_X8_376 : (RX8, 376, "no such part") ∈ jj_S := List.mem_filterMap.mpr ⟨_, List.mem_of_getElem? (i := 301) (a := Cond.stringRef RX8 376 "no such part") (by decide +kernel), rfl⟩
theorem sr_X8_378 : (RX8, 378, "discs out of range") ∈ jj_S := List.mem_filterMap.mpr ⟨_, List.mem_of_getElem? (i := 654) (a := Cond.stringRef RX8 378 "discs out of range") (by decide +kernel), rfl⟩
theorem sr_X8_380 : (RX8, 380, "the tape is not playable") ∈ jj_S := List.mem_filterMap.mpr ⟨_, List.mem_of_getElem? (i := 445) (a := Cond.stringRef RX8 380 "the tape is not playable") (by decide +kernel), rfl⟩
theorem sr_X8_382 : (RX8, 382, "no such tape") ∈ jj_S := List.mem_filterMap.mpr ⟨_, List.mem_of_getElem? (i := 208) (a := Cond.stringRef RX8 382 "no such tape") (by decide +kernel), rfl⟩
theorem sr_X8_384 : (RX8, 384, "no such side") ∈ jj_S := List.mem_filterMap.mpr ⟨_, List.mem_of_getElem? (i := 263) (a := Cond.stringRef RX8 384 "no such side") (by decide +kernel), rfl⟩
theorem sr_X8_386 : (RX8, 386, "no such disc") ∈ jj_S := List.mem_filterMap.mpr ⟨_, List.mem_of_getElem? (i := 297) (a := Cond.stringRef RX8 386 "no such disc") (by decide +kernel), rfl⟩
theorem sr_X8_388 : (RX8, 388, "there are all tapes") ∈ jj_S := List.mem_filterMap.mpr ⟨_, List.mem_of_getElem? (i := 358) (a := Cond.stringRef RX8 388 "there are all tapes") (by decide +kernel), rfl⟩
theorem sr_X8_422 : (RX8, 422, "no such stamper") ∈ jj_S := List.mem_filterMap.mpr ⟨_, List.mem_of_getElem? (i := 267) (a := Cond.stringRef RX8 422 "no such stamper") (by decide +kernel), rfl⟩
theorem sr_X8_424 : (RX8, 424, "not a set of discs") ∈ jj_S := List.mem_filterMap.mpr ⟨_, List.mem_of_getElem? (i := 771) (a := Cond.stringRef RX8 424 "not a set of discs") (by decide +kernel), rfl⟩
theorem sr_X8_430 : (RX8, 430, "discs of several sides") ∈ jj_S := List.mem_filterMap.mpr ⟨_, List.mem_of_getElem? (i := 772) (a := Cond.stringRef RX8 430 "discs of several sides") (by decide +kernel), rfl⟩
