set_option maxRecDepth 100000 in
theorem g2X9_init : mOk mX9_init 0 2 := ⟨(mem_at (j := 148) (by rfl)), (mem_at (j := 122) (by decide +kernel)), (by decide +kernel), (by decide +kernel), ⟨(by decide +kernel), (mem_at (j := 147) (by decide +kernel))⟩⟩
theorem kL_64 : mLb RL 64 mX9_init 0 2 false = true := mLb_of g2X9_init (mem_at (j := 146) (by decide +kernel))
set_option maxRecDepth 100000 in
theorem g2X5_init : mOk mX5_init 1 2 := ⟨(mem_at (j := 184) (by rfl)), (mem_at (j := 125) (by decide +kernel)), (by decide +kernel), (by decide +kernel), ⟨(by decide +kernel), (mem_at (j := 183) (by decide +kernel))⟩⟩
theorem kX1_11 : mLb RX1 11 mX5_init 1 2 false = true := mLb_of g2X5_init (mem_at (j := 182) (by decide +kernel))
set_option maxRecDepth 100000 in
theorem g2X7_init : mOk mX7_init 0 2 := ⟨(mem_at (j := 245) (by rfl)), (mem_at (j := 127) (by decide +kernel)), (by decide +kernel), (by decide +kernel), ⟨(by decide +kernel), (mem_at (j := 244) (by decide +kernel))⟩⟩
theorem kX9_38 : mLb RX9 38 mX7_init 0 2 false = true := mLb_of g2X7_init (mem_at (j := 243) (by decide +kernel))
theorem kX7_19 : mLb RX7 19 mX5_init 1 2 false = true := mLb_of g2X5_init (mem_at (j := 250) (by decide +kernel))
set_option maxRecDepth 100000 in
theorem g0X9_reference : mOk mX9_reference 0 0 := ⟨(mem_at (j := 430) (by rfl)), (mem_at (j := 122) (by decide +kernel)), (by decide +kernel), (by decide +kernel), ⟨(mem_at (j := 428) (by decide +kernel)), (mem_at (j := 429) (by decide +kernel))⟩⟩
theorem kL_80 : mLb RL 80 mX9_reference 0 0 false = true := mLb_of g0X9_reference (mem_at (j := 427) (by decide +kernel))
set_option maxRecDepth 100000 in
theorem g2X2_init : mOk mX2_init 2 2 := ⟨(mem_at (j := 435) (by rfl)), (mem_at (j := 136) (by decide +kernel)), (by decide +kernel), (by decide +kernel), ⟨(by decide +kernel), (mem_at (j := 434) (by decide +kernel))⟩⟩
theorem kX9_79 : mLb RX9 79 mX2_init 2 2 false = true := mLb_of g2X2_init (mem_at (j := 433) (by decide +kernel))
set_option maxRecDepth 100000 in
theorem g0X2_run : mOk mX2_run 0 0 := ⟨(mem_at (j := 476) (by rfl)), (mem_at (j := 136) (by decide +kernel)), (by decide +kernel), (by decide +kernel), ⟨(mem_at (j := 474) (by decide +kernel)), (mem_at (j := 475) (by decide +kernel))⟩⟩
theorem kX9_82 : mLb RX9 82 mX2_run 0 0 false = true := mLb_of g0X2_run (mem_at (j := 473) (by decide +kernel))
set_option maxRecDepth 100000 in
theorem g0X1_clear : mOk mX1_clear 0 0 := ⟨(mem_at (j := 480) (by rfl)), (mem_at (j := 124) (by decide +kernel)), (by decide +kernel), (by decide +kernel), ⟨(mem_at (j := 478) (by decide +kernel)), (mem_at (j := 479) (by decide +kernel))⟩⟩
theorem kX2_23 : mLb RX2 23 mX1_clear 0 0 false = true := mLb_of g0X1_clear (mem_at (j := 477) (by decide +kernel))
set_option maxRecDepth 100000 in
theorem g0X5_clear : mOk mX5_clear 0 0 := ⟨(mem_at (j := 484) (by rfl)), (mem_at (j := 125) (by decide +kernel)), (by decide +kernel), (by decide +kernel), ⟨(mem_at (j := 482) (by decide +kernel)), (mem_at (j := 483) (by decide +kernel))⟩⟩
theorem kX1_36 : mLb RX1 36 mX5_clear 0 0 false = true := mLb_of g0X5_clear (mem_at (j := 481) (by decide +kernel))
set_option maxRecDepth 100000 in
theorem g0X6_at : mOk mX6_at 1 0 := ⟨(mem_at (j := 488) (by rfl)), (mem_at (j := 123) (by decide +kernel)), (by decide +kernel), (by decide +kernel), ⟨(mem_at (j := 486) (by decide +kernel)), (mem_at (j := 487) (by decide +kernel))⟩⟩
theorem kX2_36 : mLb RX2 36 mX6_at 1 0 false = true := mLb_of g0X6_at (mem_at (j := 485) (by decide +kernel))
set_option maxRecDepth 100000 in
theorem g0X2_take : mOk mX2_take 1 0 := ⟨(mem_at (j := 492) (by rfl)), (mem_at (j := 136) (by decide +kernel)), (by decide +kernel), (by decide +kernel), ⟨(mem_at (j := 491) (by decide +kernel)), (mem_at (j := 0) (by decide +kernel))⟩⟩
theorem kX2_39 : mLb RX2 39 mX2_take 1 0 false = true := mLb_of g0X2_take (mem_at (j := 489) (by decide +kernel))
set_option maxRecDepth 100000 in
theorem g0X2_takeInName : mOk mX2_takeInName 1 0 := ⟨(mem_at (j := 496) (by rfl)), (mem_at (j := 136) (by decide +kernel)), (by decide +kernel), (by decide +kernel), ⟨(mem_at (j := 495) (by decide +kernel)), (mem_at (j := 1) (by decide +kernel))⟩⟩
theorem kX2_52 : mLb RX2 52 mX2_takeInName 1 0 false = true := mLb_of g0X2_takeInName (mem_at (j := 493) (by decide +kernel))
set_option maxRecDepth 100000 in
theorem g1X2_isNameOctet : mOk mX2_isNameOctet 1 1 := ⟨(mem_at (j := 499) (by rfl)), (mem_at (j := 136) (by decide +kernel)), (by decide +kernel), (by decide +kernel), (mem_at (j := 498) (by decide +kernel))⟩
theorem kX2_86 : mLb RX2 86 mX2_isNameOctet 1 1 false = true := mLb_of g1X2_isNameOctet (mem_at (j := 497) (by decide +kernel))
set_option maxRecDepth 100000 in
theorem g0X2_fail : mOk mX2_fail 1 0 := ⟨(mem_at (j := 503) (by rfl)), (mem_at (j := 136) (by decide +kernel)), (by decide +kernel), (by decide +kernel), ⟨(mem_at (j := 502) (by decide +kernel)), (mem_at (j := 2) (by decide +kernel))⟩⟩
theorem kX2_43 : mLb RX2 43 mX2_fail 1 0 false = true := mLb_of g0X2_fail (mem_at (j := 500) (by decide +kernel))
set_option maxRecDepth 100000 in
theorem g0X5_add : mOk mX5_add 1 0 := ⟨(mem_at (j := 507) (by rfl)), (mem_at (j := 125) (by decide +kernel)), (by decide +kernel), (by decide +kernel), ⟨(mem_at (j := 505) (by decide +kernel)), (mem_at (j := 506) (by decide +kernel))⟩⟩
theorem kX2_93 : mLb RX2 93 mX5_add 1 0 false = true := mLb_of g0X5_add (mem_at (j := 504) (by decide +kernel))
set_option maxRecDepth 100000 in
theorem g0X2_endNameLine : mOk mX2_endNameLine 0 0 := ⟨(mem_at (j := 511) (by rfl)), (mem_at (j := 136) (by decide +kernel)), (by decide +kernel), (by decide +kernel), ⟨(mem_at (j := 510) (by decide +kernel)), (mem_at (j := 3) (by decide +kernel))⟩⟩
theorem kX2_99 : mLb RX2 99 mX2_endNameLine 0 0 false = true := mLb_of g0X2_endNameLine (mem_at (j := 508) (by decide +kernel))
set_option maxRecDepth 100000 in
theorem g0X5_indexOf : mOk mX5_indexOf 2 0 := ⟨(mem_at (j := 515) (by rfl)), (mem_at (j := 125) (by decide +kernel)), (by decide +kernel), (by decide +kernel), ⟨(mem_at (j := 513) (by decide +kernel)), (mem_at (j := 514) (by decide +kernel))⟩⟩
theorem kX2_102 : mLb RX2 102 mX5_indexOf 2 0 false = true := mLb_of g0X5_indexOf (mem_at (j := 512) (by decide +kernel))
set_option maxRecDepth 100000 in
theorem g0X5_isName : mOk mX5_isName 3 0 := ⟨(mem_at (j := 519) (by rfl)), (mem_at (j := 125) (by decide +kernel)), (by decide +kernel), (by decide +kernel), ⟨(mem_at (j := 518) (by decide +kernel)), (mem_at (j := 4) (by decide +kernel))⟩⟩
theorem kX5_42 : mLb RX5 42 mX5_isName 3 0 false = true := mLb_of g0X5_isName (mem_at (j := 516) (by decide +kernel))
set_option maxRecDepth 100000 in
theorem g0X2_takeInRemark : mOk mX2_takeInRemark 1 0 := ⟨(mem_at (j := 523) (by rfl)), (mem_at (j := 136) (by decide +kernel)), (by decide +kernel), (by decide +kernel), ⟨(mem_at (j := 522) (by decide +kernel)), (mem_at (j := 5) (by decide +kernel))⟩⟩
theorem kX2_55 : mLb RX2 55 mX2_takeInRemark 1 0 false = true := mLb_of g0X2_takeInRemark (mem_at (j := 520) (by decide +kernel))
set_option maxRecDepth 100000 in
theorem g0X2_takeInLetters : mOk mX2_takeInLetters 1 0 := ⟨(mem_at (j := 527) (by rfl)), (mem_at (j := 136) (by decide +kernel)), (by decide +kernel), (by decide +kernel), ⟨(mem_at (j := 526) (by decide +kernel)), (mem_at (j := 6) (by decide +kernel))⟩⟩
theorem kX2_58 : mLb RX2 58 mX2_takeInLetters 1 0 false = true := mLb_of g0X2_takeInLetters (mem_at (j := 524) (by decide +kernel))
set_option maxRecDepth 100000 in
theorem g0X2_endLetterLine : mOk mX2_endLetterLine 0 0 := ⟨(mem_at (j := 531) (by rfl)), (mem_at (j := 136) (by decide +kernel)), (by decide +kernel), (by decide +kernel), ⟨(mem_at (j := 530) (by decide +kernel)), (mem_at (j := 7) (by decide +kernel))⟩⟩
theorem kX2_115 : mLb RX2 115 mX2_endLetterLine 0 0 false = true := mLb_of g0X2_endLetterLine (mem_at (j := 528) (by decide +kernel))
set_option maxRecDepth 100000 in
theorem g0X1_setWidth : mOk mX1_setWidth 1 0 := ⟨(mem_at (j := 535) (by rfl)), (mem_at (j := 124) (by decide +kernel)), (by decide +kernel), (by decide +kernel), ⟨(mem_at (j := 533) (by decide +kernel)), (mem_at (j := 534) (by decide +kernel))⟩⟩
theorem kX2_118 : mLb RX2 118 mX1_setWidth 1 0 false = true := mLb_of g0X1_setWidth (mem_at (j := 532) (by decide +kernel))
set_option maxRecDepth 100000 in
theorem g0X2_takeLetter : mOk mX2_takeLetter 1 0 := ⟨(mem_at (j := 542) (by rfl)), (mem_at (j := 136) (by decide +kernel)), (by decide +kernel), (by decide +kernel), ⟨(mem_at (j := 541) (by decide +kernel)), (mem_at (j := 8) (by decide +kernel))⟩⟩
theorem kX2_71 : mLb RX2 71 mX2_takeLetter 1 0 false = true := mLb_of g0X2_takeLetter (mem_at (j := 539) (by decide +kernel))
set_option maxRecDepth 100000 in
theorem g0X1_addLetter : mOk mX1_addLetter 2 0 := ⟨(mem_at (j := 546) (by rfl)), (mem_at (j := 124) (by decide +kernel)), (by decide +kernel), (by decide +kernel), ⟨(mem_at (j := 544) (by decide +kernel)), (mem_at (j := 545) (by decide +kernel))⟩⟩
theorem kX2_124 : mLb RX2 124 mX1_addLetter 2 0 false = true := mLb_of g0X1_addLetter (mem_at (j := 543) (by decide +kernel))
set_option maxRecDepth 100000 in
theorem g0X2_takeAtLineStart : mOk mX2_takeAtLineStart 1 0 := ⟨(mem_at (j := 550) (by rfl)), (mem_at (j := 136) (by decide +kernel)), (by decide +kernel), (by decide +kernel), ⟨(mem_at (j := 549) (by decide +kernel)), (mem_at (j := 9) (by decide +kernel))⟩⟩
theorem kX2_61 : mLb RX2 61 mX2_takeAtLineStart 1 0 false = true := mLb_of g0X2_takeAtLineStart (mem_at (j := 547) (by decide +kernel))
set_option maxRecDepth 100000 in
theorem g0X2_openSequence : mOk mX2_openSequence 0 0 := ⟨(mem_at (j := 554) (by rfl)), (mem_at (j := 136) (by decide +kernel)), (by decide +kernel), (by decide +kernel), ⟨(mem_at (j := 553) (by decide +kernel)), (mem_at (j := 10) (by decide +kernel))⟩⟩
theorem kX2_64 : mLb RX2 64 mX2_openSequence 0 0 false = true := mLb_of g0X2_openSequence (mem_at (j := 551) (by decide +kernel))
set_option maxRecDepth 100000 in
theorem g0X1_open : mOk mX1_open 0 0 := ⟨(mem_at (j := 558) (by rfl)), (mem_at (j := 124) (by decide +kernel)), (by decide +kernel), (by decide +kernel), ⟨(mem_at (j := 556) (by decide +kernel)), (mem_at (j := 557) (by decide +kernel))⟩⟩
theorem kX2_77 : mLb RX2 77 mX1_open 0 0 false = true := mLb_of g0X1_open (mem_at (j := 555) (by decide +kernel))
set_option maxRecDepth 100000 in
theorem g0X5_open : mOk mX5_open 0 0 := ⟨(mem_at (j := 562) (by rfl)), (mem_at (j := 125) (by decide +kernel)), (by decide +kernel), (by decide +kernel), ⟨(mem_at (j := 560) (by decide +kernel)), (mem_at (j := 561) (by decide +kernel))⟩⟩
theorem kX1_46 : mLb RX1 46 mX5_open 0 0 false = true := mLb_of g0X5_open (mem_at (j := 559) (by decide +kernel))
set_option maxRecDepth 100000 in
theorem g0X6_clear : mOk mX6_clear 0 0 := ⟨(mem_at (j := 566) (by rfl)), (mem_at (j := 123) (by decide +kernel)), (by decide +kernel), (by decide +kernel), ⟨(mem_at (j := 564) (by decide +kernel)), (mem_at (j := 565) (by decide +kernel))⟩⟩
theorem kX9_86 : mLb RX9 86 mX6_clear 0 0 false = true := mLb_of g0X6_clear (mem_at (j := 563) (by decide +kernel))
set_option maxRecDepth 100000 in
theorem g0X7_clear : mOk mX7_clear 0 0 := ⟨(mem_at (j := 570) (by rfl)), (mem_at (j := 127) (by decide +kernel)), (by decide +kernel), (by decide +kernel), ⟨(mem_at (j := 568) (by decide +kernel)), (mem_at (j := 569) (by decide +kernel))⟩⟩
theorem kX9_93 : mLb RX9 93 mX7_clear 0 0 false = true := mLb_of g0X7_clear (mem_at (j := 567) (by decide +kernel))
theorem kX7_31 : mLb RX7 31 mX5_clear 0 0 false = true := mLb_of g0X5_clear (mem_at (j := 571) (by decide +kernel))
set_option maxRecDepth 100000 in
theorem g0X3_clear : mOk mX3_clear 0 0 := ⟨(mem_at (j := 575) (by rfl)), (mem_at (j := 130) (by decide +kernel)), (by decide +kernel), (by decide +kernel), ⟨(mem_at (j := 573) (by decide +kernel)), (mem_at (j := 574) (by decide +kernel))⟩⟩
theorem kX9_94 : mLb RX9 94 mX3_clear 0 0 false = true := mLb_of g0X3_clear (mem_at (j := 572) (by decide +kernel))
set_option maxRecDepth 100000 in
theorem g0X9_place : mOk mX9_place 0 0 := ⟨(mem_at (j := 579) (by rfl)), (mem_at (j := 122) (by decide +kernel)), (by decide +kernel), (by decide +kernel), ⟨(mem_at (j := 577) (by decide +kernel)), (mem_at (j := 578) (by decide +kernel))⟩⟩
theorem kL_88 : mLb RL 88 mX9_place 0 0 false = true := mLb_of g0X9_place (mem_at (j := 576) (by decide +kernel))
set_option maxRecDepth 100000 in
theorem g0X9_merge : mOk mX9_merge 0 0 := ⟨(mem_at (j := 583) (by rfl)), (mem_at (j := 122) (by decide +kernel)), (by decide +kernel), (by decide +kernel), ⟨(mem_at (j := 581) (by decide +kernel)), (mem_at (j := 582) (by decide +kernel))⟩⟩
theorem kL_125 : mLb RL 125 mX9_merge 0 0 false = true := mLb_of g0X9_merge (mem_at (j := 580) (by decide +kernel))
set_option maxRecDepth 100000 in
theorem g0X7_canTakeSamples : mOk mX7_canTakeSamples 1 0 := ⟨(mem_at (j := 587) (by rfl)), (mem_at (j := 127) (by decide +kernel)), (by decide +kernel), (by decide +kernel), ⟨(mem_at (j := 585) (by decide +kernel)), (mem_at (j := 586) (by decide +kernel))⟩⟩
theorem kX9_226 : mLb RX9 226 mX7_canTakeSamples 1 0 false = true := mLb_of g0X7_canTakeSamples (mem_at (j := 584) (by decide +kernel))
theorem kX7_37 : mLb RX7 37 mX5_indexOf 2 0 false = true := mLb_of g0X5_indexOf (mem_at (j := 588) (by decide +kernel))
set_option maxRecDepth 100000 in
theorem g0X7_pairWith : mOk mX7_pairWith 1 0 := ⟨(mem_at (j := 592) (by rfl)), (mem_at (j := 127) (by decide +kernel)), (by decide +kernel), (by decide +kernel), ⟨(mem_at (j := 590) (by decide +kernel)), (mem_at (j := 591) (by decide +kernel))⟩⟩
theorem kX9_230 : mLb RX9 230 mX7_pairWith 1 0 false = true := mLb_of g0X7_pairWith (mem_at (j := 589) (by decide +kernel))
set_option maxRecDepth 100000 in
theorem g0X7_firstFreeLike : mOk mX7_firstFreeLike 1 0 := ⟨(mem_at (j := 596) (by rfl)), (mem_at (j := 127) (by decide +kernel)), (by decide +kernel), (by decide +kernel), ⟨(mem_at (j := 595) (by decide +kernel)), (mem_at (j := 11) (by decide +kernel))⟩⟩
theorem kX7_96 : mLb RX7 96 mX7_firstFreeLike 1 0 false = true := mLb_of g0X7_firstFreeLike (mem_at (j := 593) (by decide +kernel))
set_option maxRecDepth 100000 in
theorem g0X0_standsWith : mOk mX0_standsWith 1 0 := ⟨(mem_at (j := 600) (by rfl)), (mem_at (j := 128) (by decide +kernel)), (by decide +kernel), (by decide +kernel), ⟨(mem_at (j := 598) (by decide +kernel)), (mem_at (j := 599) (by decide +kernel))⟩⟩
theorem kX7_100 : mLb RX7 100 mX0_standsWith 1 0 false = true := mLb_of g0X0_standsWith (mem_at (j := 597) (by decide +kernel))
set_option maxRecDepth 100000 in
theorem g0X0_hasAllRowsOf : mOk mX0_hasAllRowsOf 1 0 := ⟨(mem_at (j := 604) (by rfl)), (mem_at (j := 128) (by decide +kernel)), (by decide +kernel), (by decide +kernel), ⟨(mem_at (j := 602) (by decide +kernel)), (mem_at (j := 603) (by decide +kernel))⟩⟩
theorem kX7_103 : mLb RX7 103 mX0_hasAllRowsOf 1 0 false = true := mLb_of g0X0_hasAllRowsOf (mem_at (j := 601) (by decide +kernel))
set_option maxRecDepth 100000 in
theorem g0X0_rowIs : mOk mX0_rowIs 3 0 := ⟨(mem_at (j := 608) (by rfl)), (mem_at (j := 128) (by decide +kernel)), (by decide +kernel), (by decide +kernel), ⟨(mem_at (j := 606) (by decide +kernel)), (mem_at (j := 607) (by decide +kernel))⟩⟩
theorem kX0_73 : mLb RX0 73 mX0_rowIs 3 0 false = true := mLb_of g0X0_rowIs (mem_at (j := 605) (by decide +kernel))
set_option maxRecDepth 100000 in
theorem g0X0_letterAt : mOk mX0_letterAt 2 0 := ⟨(mem_at (j := 612) (by rfl)), (mem_at (j := 128) (by decide +kernel)), (by decide +kernel), (by decide +kernel), ⟨(mem_at (j := 610) (by decide +kernel)), (mem_at (j := 611) (by decide +kernel))⟩⟩
theorem kX0_69 : mLb RX0 69 mX0_letterAt 2 0 false = true := mLb_of g0X0_letterAt (mem_at (j := 609) (by decide +kernel))
set_option maxRecDepth 100000 in
theorem g0X7_takeAll : mOk mX7_takeAll 1 0 := ⟨(mem_at (j := 616) (by rfl)), (mem_at (j := 127) (by decide +kernel)), (by decide +kernel), (by decide +kernel), ⟨(mem_at (j := 614) (by decide +kernel)), (mem_at (j := 615) (by decide +kernel))⟩⟩
theorem kX9_234 : mLb RX9 234 mX7_takeAll 1 0 false = true := mLb_of g0X7_takeAll (mem_at (j := 613) (by decide +kernel))
set_option maxRecDepth 100000 in
theorem g0X5_addAll : mOk mX5_addAll 1 0 := ⟨(mem_at (j := 620) (by rfl)), (mem_at (j := 125) (by decide +kernel)), (by decide +kernel), (by decide +kernel), ⟨(mem_at (j := 618) (by decide +kernel)), (mem_at (j := 619) (by decide +kernel))⟩⟩
theorem kX7_51 : mLb RX7 51 mX5_addAll 1 0 false = true := mLb_of g0X5_addAll (mem_at (j := 617) (by decide +kernel))
theorem kX5_31 : mLb RX5 31 mX5_open 0 0 false = true := mLb_of g0X5_open (mem_at (j := 621) (by decide +kernel))
theorem kX5_34 : mLb RX5 34 mX5_add 1 0 false = true := mLb_of g0X5_add (mem_at (j := 622) (by decide +kernel))
set_option maxRecDepth 100000 in
theorem g1X7_setNoCalls : mOk mX7_setNoCalls 3 1 := ⟨(mem_at (j := 625) (by rfl)), (mem_at (j := 127) (by decide +kernel)), (by decide +kernel), (by decide +kernel), (mem_at (j := 624) (by decide +kernel))⟩
theorem kX7_106 : mLb RX7 106 mX7_setNoCalls 3 1 false = true := mLb_of g1X7_setNoCalls (mem_at (j := 623) (by decide +kernel))
set_option maxRecDepth 100000 in
theorem g0X0_setNoCall : mOk mX0_setNoCall 1 0 := ⟨(mem_at (j := 629) (by rfl)), (mem_at (j := 128) (by decide +kernel)), (by decide +kernel), (by decide +kernel), ⟨(mem_at (j := 627) (by decide +kernel)), (mem_at (j := 628) (by decide +kernel))⟩⟩
theorem kX7_113 : mLb RX7 113 mX0_setNoCall 1 0 false = true := mLb_of g0X0_setNoCall (mem_at (j := 626) (by decide +kernel))
set_option maxRecDepth 100000 in
theorem g0X0_setCall : mOk mX0_setCall 3 0 := ⟨(mem_at (j := 633) (by rfl)), (mem_at (j := 128) (by decide +kernel)), (by decide +kernel), (by decide +kernel), ⟨(mem_at (j := 631) (by decide +kernel)), (mem_at (j := 632) (by decide +kernel))⟩⟩
theorem kX0_65 : mLb RX0 65 mX0_setCall 3 0 false = true := mLb_of g0X0_setCall (mem_at (j := 630) (by decide +kernel))
set_option maxRecDepth 100000 in
theorem g1X7_moveCalls : mOk mX7_moveCalls 4 1 := ⟨(mem_at (j := 636) (by rfl)), (mem_at (j := 127) (by decide +kernel)), (by decide +kernel), (by decide +kernel), (mem_at (j := 635) (by decide +kernel))⟩
theorem kX7_109 : mLb RX7 109 mX7_moveCalls 4 1 false = true := mLb_of g1X7_moveCalls (mem_at (j := 634) (by decide +kernel))
set_option maxRecDepth 100000 in
theorem g0X0_copyCalls : mOk mX0_copyCalls 3 0 := ⟨(mem_at (j := 640) (by rfl)), (mem_at (j := 128) (by decide +kernel)), (by decide +kernel), (by decide +kernel), ⟨(mem_at (j := 638) (by decide +kernel)), (mem_at (j := 639) (by decide +kernel))⟩⟩
theorem kX7_116 : mLb RX7 116 mX0_copyCalls 3 0 false = true := mLb_of g0X0_copyCalls (mem_at (j := 637) (by decide +kernel))
set_option maxRecDepth 100000 in
theorem g1X7_swap : mOk mX7_swap 4 1 := ⟨(mem_at (j := 643) (by rfl)), (mem_at (j := 127) (by decide +kernel)), (by decide +kernel), (by decide +kernel), (mem_at (j := 642) (by decide +kernel))⟩
theorem kX7_76 : mLb RX7 76 mX7_swap 4 1 false = true := mLb_of g1X7_swap (mem_at (j := 641) (by decide +kernel))
set_option maxRecDepth 100000 in
theorem g0X7_putInOrder : mOk mX7_putInOrder 0 0 := ⟨(mem_at (j := 647) (by rfl)), (mem_at (j := 127) (by decide +kernel)), (by decide +kernel), (by decide +kernel), ⟨(mem_at (j := 645) (by decide +kernel)), (mem_at (j := 646) (by decide +kernel))⟩⟩
theorem kX9_223 : mLb RX9 223 mX7_putInOrder 0 0 false = true := mLb_of g0X7_putInOrder (mem_at (j := 644) (by decide +kernel))
set_option maxRecDepth 100000 in
theorem g0X7_sinkToPlace : mOk mX7_sinkToPlace 1 0 := ⟨(mem_at (j := 651) (by rfl)), (mem_at (j := 127) (by decide +kernel)), (by decide +kernel), (by decide +kernel), ⟨(mem_at (j := 650) (by decide +kernel)), (mem_at (j := 12) (by decide +kernel))⟩⟩
theorem kX7_86 : mLb RX7 86 mX7_sinkToPlace 1 0 false = true := mLb_of g0X7_sinkToPlace (mem_at (j := 648) (by decide +kernel))
set_option maxRecDepth 100000 in
theorem g0X0_standsBehind : mOk mX0_standsBehind 1 0 := ⟨(mem_at (j := 655) (by rfl)), (mem_at (j := 128) (by decide +kernel)), (by decide +kernel), (by decide +kernel), ⟨(mem_at (j := 653) (by decide +kernel)), (mem_at (j := 654) (by decide +kernel))⟩⟩
theorem kX7_89 : mLb RX7 89 mX0_standsBehind 1 0 false = true := mLb_of g0X0_standsBehind (mem_at (j := 652) (by decide +kernel))
set_option maxRecDepth 100000 in
theorem g0X9_carried : mOk mX9_carried 1 0 := ⟨(mem_at (j := 659) (by rfl)), (mem_at (j := 122) (by decide +kernel)), (by decide +kernel), (by decide +kernel), ⟨(mem_at (j := 657) (by decide +kernel)), (mem_at (j := 658) (by decide +kernel))⟩⟩
theorem kL_132 : mLb RL 132 mX9_carried 1 0 false = true := mLb_of g0X9_carried (mem_at (j := 656) (by decide +kernel))
set_option maxRecDepth 100000 in
theorem g0X3_carriedTo : mOk mX3_carriedTo 1 0 := ⟨(mem_at (j := 663) (by rfl)), (mem_at (j := 130) (by decide +kernel)), (by decide +kernel), (by decide +kernel), ⟨(mem_at (j := 661) (by decide +kernel)), (mem_at (j := 662) (by decide +kernel))⟩⟩
theorem kX9_250 : mLb RX9 250 mX3_carriedTo 1 0 false = true := mLb_of g0X3_carriedTo (mem_at (j := 660) (by decide +kernel))
set_option maxRecDepth 100000 in
theorem g0X3_moved : mOk mX3_moved 5 0 := ⟨(mem_at (j := 667) (by rfl)), (mem_at (j := 130) (by decide +kernel)), (by decide +kernel), (by decide +kernel), ⟨(mem_at (j := 666) (by decide +kernel)), (mem_at (j := 13) (by decide +kernel))⟩⟩
theorem kX3_88 : mLb RX3 88 mX3_moved 5 0 false = true := mLb_of g0X3_moved (mem_at (j := 664) (by decide +kernel))
set_option maxRecDepth 100000 in
theorem g0X9_back : mOk mX9_back 1 0 := ⟨(mem_at (j := 671) (by rfl)), (mem_at (j := 122) (by decide +kernel)), (by decide +kernel), (by decide +kernel), ⟨(mem_at (j := 669) (by decide +kernel)), (mem_at (j := 670) (by decide +kernel))⟩⟩
theorem kL_136 : mLb RL 136 mX9_back 1 0 false = true := mLb_of g0X9_back (mem_at (j := 668) (by decide +kernel))
set_option maxRecDepth 100000 in
theorem g0X3_backTo : mOk mX3_backTo 1 0 := ⟨(mem_at (j := 675) (by rfl)), (mem_at (j := 130) (by decide +kernel)), (by decide +kernel), (by decide +kernel), ⟨(mem_at (j := 673) (by decide +kernel)), (mem_at (j := 674) (by decide +kernel))⟩⟩
theorem kX9_253 : mLb RX9 253 mX3_backTo 1 0 false = true := mLb_of g0X3_backTo (mem_at (j := 672) (by decide +kernel))
set_option maxRecDepth 100000 in
theorem g0X9_out : mOk mX9_out 1 0 := ⟨(mem_at (j := 679) (by rfl)), (mem_at (j := 122) (by decide +kernel)), (by decide +kernel), (by decide +kernel), ⟨(mem_at (j := 677) (by decide +kernel)), (mem_at (j := 678) (by decide +kernel))⟩⟩
theorem kL_146 : mLb RL 146 mX9_out 1 0 false = true := mLb_of g0X9_out (mem_at (j := 676) (by decide +kernel))
theorem kX9_266 : mLb RX9 266 mX6_at 1 0 false = true := mLb_of g0X6_at (mem_at (j := 680) (by decide +kernel))
set_option maxRecDepth 100000 in
theorem g0X9_again : mOk mX9_again 0 0 := ⟨(mem_at (j := 684) (by rfl)), (mem_at (j := 122) (by decide +kernel)), (by decide +kernel), (by decide +kernel), ⟨(mem_at (j := 682) (by decide +kernel)), (mem_at (j := 683) (by decide +kernel))⟩⟩
theorem kL_150 : mLb RL 150 mX9_again 0 0 false = true := mLb_of g0X9_again (mem_at (j := 681) (by decide +kernel))
set_option maxRecDepth 100000 in
theorem g0X6_copyFrom : mOk mX6_copyFrom 1 0 := ⟨(mem_at (j := 688) (by rfl)), (mem_at (j := 123) (by decide +kernel)), (by decide +kernel), (by decide +kernel), ⟨(mem_at (j := 686) (by decide +kernel)), (mem_at (j := 687) (by decide +kernel))⟩⟩
theorem kX9_269 : mLb RX9 269 mX6_copyFrom 1 0 false = true := mLb_of g0X6_copyFrom (mem_at (j := 685) (by decide +kernel))
set_option maxRecDepth 100000 in
theorem g0X9_feed : mOk mX9_feed 2 0 := ⟨(mem_at (j := 699) (by rfl)), (mem_at (j := 122) (by decide +kernel)), (by decide +kernel), (by decide +kernel), ⟨(mem_at (j := 697) (by decide +kernel)), (mem_at (j := 698) (by decide +kernel))⟩⟩
theorem kL_7 : mLb RL 7 mX9_feed 2 0 false = true := mLb_of g0X9_feed (mem_at (j := 696) (by decide +kernel))
set_option maxRecDepth 100000 in
theorem g0X6_add : mOk mX6_add 1 0 := ⟨(mem_at (j := 771) (by rfl)), (mem_at (j := 123) (by decide +kernel)), (by decide +kernel), (by decide +kernel), ⟨(mem_at (j := 769) (by decide +kernel)), (mem_at (j := 770) (by decide +kernel))⟩⟩
theorem kX9_73 : mLb RX9 73 mX6_add 1 0 false = true := mLb_of g0X6_add (mem_at (j := 768) (by decide +kernel))
set_option maxRecDepth 100000 in
theorem g0X9_read : mOk mX9_read 1 0 := ⟨(mem_at (j := 779) (by rfl)), (mem_at (j := 122) (by decide +kernel)), (by decide +kernel), (by decide +kernel), ⟨(mem_at (j := 777) (by decide +kernel)), (mem_at (j := 778) (by decide +kernel))⟩⟩
theorem kL_15 : mLb RL 15 mX9_read 1 0 false = true := mLb_of g0X9_read (mem_at (j := 776) (by decide +kernel))
set_option maxRecDepth 100000 in
theorem g0X9_sheetAt : mOk mX9_sheetAt 1 0 := ⟨(mem_at (j := 783) (by rfl)), (mem_at (j := 122) (by decide +kernel)), (by decide +kernel), (by decide +kernel), ⟨(mem_at (j := 782) (by decide +kernel)), (mem_at (j := 15) (by decide +kernel))⟩⟩
theorem kX9_98 : mLb RX9 98 mX9_sheetAt 1 0 false = true := mLb_of g0X9_sheetAt (mem_at (j := 780) (by decide +kernel))
set_option maxRecDepth 100000 in
theorem g2X8_init : mOk mX8_init 3 2 := ⟨(mem_at (j := 804) (by rfl)), (mem_at (j := 138) (by decide +kernel)), (by decide +kernel), (by decide +kernel), ⟨(by decide +kernel), (mem_at (j := 803) (by decide +kernel))⟩⟩
theorem kX9_104 : mLb RX9 104 mX8_init 3 2 false = true := mLb_of g2X8_init (mem_at (j := 802) (by decide +kernel))
set_option maxRecDepth 100000 in
theorem g0X8_run : mOk mX8_run 0 0 := ⟨(mem_at (j := 842) (by rfl)), (mem_at (j := 138) (by decide +kernel)), (by decide +kernel), (by decide +kernel), ⟨(mem_at (j := 840) (by decide +kernel)), (mem_at (j := 841) (by decide +kernel))⟩⟩
theorem kX9_107 : mLb RX9 107 mX8_run 0 0 false = true := mLb_of g0X8_run (mem_at (j := 839) (by decide +kernel))
theorem kX8_27 : mLb RX8 27 mX7_clear 0 0 false = true := mLb_of g0X7_clear (mem_at (j := 843) (by decide +kernel))
set_option maxRecDepth 100000 in
theorem g0X8_takeFirstLine : mOk mX8_takeFirstLine 0 0 := ⟨(mem_at (j := 847) (by rfl)), (mem_at (j := 138) (by decide +kernel)), (by decide +kernel), (by decide +kernel), ⟨(mem_at (j := 846) (by decide +kernel)), (mem_at (j := 16) (by decide +kernel))⟩⟩
theorem kX8_32 : mLb RX8 32 mX8_takeFirstLine 0 0 false = true := mLb_of g0X8_takeFirstLine (mem_at (j := 844) (by decide +kernel))
set_option maxRecDepth 100000 in
theorem g0X8_takeLine : mOk mX8_takeLine 0 0 := ⟨(mem_at (j := 851) (by rfl)), (mem_at (j := 138) (by decide +kernel)), (by decide +kernel), (by decide +kernel), ⟨(mem_at (j := 850) (by decide +kernel)), (mem_at (j := 17) (by decide +kernel))⟩⟩
theorem kX8_51 : mLb RX8 51 mX8_takeLine 0 0 false = true := mLb_of g0X8_takeLine (mem_at (j := 848) (by decide +kernel))
set_option maxRecDepth 100000 in
theorem g0X6_find : mOk mX6_find 2 0 := ⟨(mem_at (j := 855) (by rfl)), (mem_at (j := 123) (by decide +kernel)), (by decide +kernel), (by decide +kernel), ⟨(mem_at (j := 853) (by decide +kernel)), (mem_at (j := 854) (by decide +kernel))⟩⟩
theorem kX8_82 : mLb RX8 82 mX6_find 2 0 false = true := mLb_of g0X6_find (mem_at (j := 852) (by decide +kernel))
set_option maxRecDepth 100000 in
theorem g0X8_fail : mOk mX8_fail 2 0 := ⟨(mem_at (j := 860) (by rfl)), (mem_at (j := 138) (by decide +kernel)), (by decide +kernel), (by decide +kernel), ⟨(mem_at (j := 859) (by decide +kernel)), (mem_at (j := 18) (by decide +kernel))⟩⟩
theorem kX8_57 : mLb RX8 57 mX8_fail 2 0 false = true := mLb_of g0X8_fail (mem_at (j := 857) (by decide +kernel))
set_option maxRecDepth 100000 in
theorem g0X6_isText : mOk mX6_isText 3 0 := ⟨(mem_at (j := 865) (by rfl)), (mem_at (j := 123) (by decide +kernel)), (by decide +kernel), (by decide +kernel), ⟨(mem_at (j := 863) (by decide +kernel)), (mem_at (j := 864) (by decide +kernel))⟩⟩
theorem kX8_91 : mLb RX8 91 mX6_isText 3 0 false = true := mLb_of g0X6_isText (mem_at (j := 862) (by decide +kernel))
set_option maxRecDepth 100000 in
theorem g0J0_length_8abf5 : mOk mJ0_length_8abf5 0 0 := ⟨(mem_at (j := 869) (by rfl)), (mem_at (j := 139) (by decide +kernel)), (by decide +kernel), (by decide +kernel), ⟨(mem_at (j := 867) (by decide +kernel)), (mem_at (j := 868) (by decide +kernel))⟩⟩
theorem kX6_23 : mLb RX6 23 mJ0_length_8abf5 0 0 false = true := mLb_of g0J0_length_8abf5 (mem_at (j := 866) (by decide +kernel))
set_option maxRecDepth 100000 in
theorem g0J0_coder_7d493 : mOk mJ0_coder_7d493 0 0 := ⟨(mem_at (j := 873) (by rfl)), (mem_at (j := 139) (by decide +kernel)), (by decide +kernel), (by decide +kernel), ⟨(mem_at (j := 871) (by decide +kernel)), (mem_at (j := 872) (by decide +kernel))⟩⟩
theorem kJ0_335 : mLb RJ0 335 mJ0_coder_7d493 0 0 false = true := mLb_of g0J0_coder_7d493 (mem_at (j := 870) (by decide +kernel))
set_option maxRecDepth 100000 in
theorem g0X6_beginsWith : mOk mX6_beginsWith 2 0 := ⟨(mem_at (j := 879) (by rfl)), (mem_at (j := 123) (by decide +kernel)), (by decide +kernel), (by decide +kernel), ⟨(mem_at (j := 877) (by decide +kernel)), (mem_at (j := 878) (by decide +kernel))⟩⟩
theorem kX6_47 : mLb RX6 47 mX6_beginsWith 2 0 false = true := mLb_of g0X6_beginsWith (mem_at (j := 876) (by decide +kernel))
set_option maxRecDepth 100000 in
theorem g0J0_charAt_5068e : mOk mJ0_charAt_5068e 1 0 := ⟨(mem_at (j := 883) (by rfl)), (mem_at (j := 139) (by decide +kernel)), (by decide +kernel), (by decide +kernel), ⟨(mem_at (j := 881) (by decide +kernel)), (mem_at (j := 882) (by decide +kernel))⟩⟩
theorem kX6_29 : mLb RX6 29 mJ0_charAt_5068e 1 0 false = true := mLb_of g0J0_charAt_5068e (mem_at (j := 880) (by decide +kernel))
set_option maxRecDepth 100000 in
theorem g0J0_isLatin1_aae02 : mOk mJ0_isLatin1_aae02 0 0 := ⟨(mem_at (j := 887) (by rfl)), (mem_at (j := 139) (by decide +kernel)), (by decide +kernel), (by decide +kernel), ⟨(mem_at (j := 885) (by decide +kernel)), (mem_at (j := 886) (by decide +kernel))⟩⟩
theorem kJ0_492 : mLb RJ0 492 mJ0_isLatin1_aae02 0 0 false = true := mLb_of g0J0_isLatin1_aae02 (mem_at (j := 884) (by decide +kernel))
set_option maxRecDepth 100000 in
theorem g1J1_charAt_3b067 : mOk mJ1_charAt_3b067 2 1 := ⟨(mem_at (j := 890) (by rfl)), (mem_at (j := 140) (by decide +kernel)), (by decide +kernel), (by decide +kernel), (mem_at (j := 889) (by decide +kernel))⟩
theorem kJ0_495 : mLb RJ0 495 mJ1_charAt_3b067 2 1 false = true := mLb_of g1J1_charAt_3b067 (mem_at (j := 888) (by decide +kernel))
set_option maxRecDepth 100000 in
theorem g1J0_checkIndex_df160 : mOk mJ0_checkIndex_df160 2 1 := ⟨(mem_at (j := 893) (by rfl)), (mem_at (j := 139) (by decide +kernel)), (by decide +kernel), (by decide +kernel), (mem_at (j := 892) (by decide +kernel))⟩
theorem kJ1_9 : mLb RJ1 9 mJ0_checkIndex_df160 2 1 false = true := mLb_of g1J0_checkIndex_df160 (mem_at (j := 891) (by decide +kernel))
set_option maxRecDepth 100000 in
theorem g1J3_checkIndex_8e157 : mOk mJ3_checkIndex_8e157 3 1 := ⟨(mem_at (j := 898) (by rfl)), (mem_at (j := 141) (by decide +kernel)), (by decide +kernel), (by decide +kernel), (mem_at (j := 897) (by decide +kernel))⟩
theorem kJ0_1059 : mLb RJ0 1059 mJ3_checkIndex_8e157 3 1 false = true := mLb_of g1J3_checkIndex_8e157 (mem_at (j := 896) (by decide +kernel))
set_option maxRecDepth 100000 in
theorem g1J2_charAt_3b067 : mOk mJ2_charAt_3b067 2 1 := ⟨(mem_at (j := 901) (by rfl)), (mem_at (j := 142) (by decide +kernel)), (by decide +kernel), (by decide +kernel), (mem_at (j := 900) (by decide +kernel))⟩
theorem kJ0_498 : mLb RJ0 498 mJ2_charAt_3b067 2 1 false = true := mLb_of g1J2_charAt_3b067 (mem_at (j := 899) (by decide +kernel))
set_option maxRecDepth 100000 in
theorem g1J2_checkIndex_2214a : mOk mJ2_checkIndex_2214a 2 1 := ⟨(mem_at (j := 904) (by rfl)), (mem_at (j := 142) (by decide +kernel)), (by decide +kernel), (by decide +kernel), (mem_at (j := 903) (by decide +kernel))⟩
theorem kJ2_67 : mLb RJ2 67 mJ2_checkIndex_2214a 2 1 false = true := mLb_of g1J2_checkIndex_2214a (mem_at (j := 902) (by decide +kernel))
set_option maxRecDepth 100000 in
theorem g1J2_length_9d52b : mOk mJ2_length_9d52b 1 1 := ⟨(mem_at (j := 907) (by rfl)), (mem_at (j := 142) (by decide +kernel)), (by decide +kernel), (by decide +kernel), (mem_at (j := 906) (by decide +kernel))⟩
theorem kJ2_48 : mLb RJ2 48 mJ2_length_9d52b 1 1 false = true := mLb_of g1J2_length_9d52b (mem_at (j := 905) (by decide +kernel))
theorem kJ2_414 : mLb RJ2 414 mJ0_checkIndex_df160 2 1 false = true := mLb_of g1J0_checkIndex_df160 (mem_at (j := 908) (by decide +kernel))
set_option maxRecDepth 100000 in
theorem g1J2_getChar_3b067 : mOk mJ2_getChar_3b067 2 1 := ⟨(mem_at (j := 911) (by rfl)), (mem_at (j := 142) (by decide +kernel)), (by decide +kernel), (by decide +kernel), (mem_at (j := 910) (by decide +kernel))⟩
theorem kJ2_71 : mLb RJ2 71 mJ2_getChar_3b067 2 1 false = true := mLb_of g1J2_getChar_3b067 (mem_at (j := 909) (by decide +kernel))
set_option maxRecDepth 100000 in
theorem g0X8_takeLinesToHead : mOk mX8_takeLinesToHead 0 0 := ⟨(mem_at (j := 921) (by rfl)), (mem_at (j := 138) (by decide +kernel)), (by decide +kernel), (by decide +kernel), ⟨(mem_at (j := 920) (by decide +kernel)), (mem_at (j := 19) (by decide +kernel))⟩⟩
theorem kX8_36 : mLb RX8 36 mX8_takeLinesToHead 0 0 false = true := mLb_of g0X8_takeLinesToHead (mem_at (j := 918) (by decide +kernel))
theorem kX8_97 : mLb RX8 97 mX6_beginsWith 2 0 false = true := mLb_of g0X6_beginsWith (mem_at (j := 923) (by decide +kernel))
set_option maxRecDepth 100000 in
theorem g0X8_cutColumns : mOk mX8_cutColumns 0 0 := ⟨(mem_at (j := 927) (by rfl)), (mem_at (j := 138) (by decide +kernel)), (by decide +kernel), (by decide +kernel), ⟨(mem_at (j := 926) (by decide +kernel)), (mem_at (j := 20) (by decide +kernel))⟩⟩
theorem kX8_61 : mLb RX8 61 mX8_cutColumns 0 0 false = true := mLb_of g0X8_cutColumns (mem_at (j := 924) (by decide +kernel))
theorem kX8_104 : mLb RX8 104 mX6_at 1 0 false = true := mLb_of g0X6_at (mem_at (j := 928) (by decide +kernel))
set_option maxRecDepth 100000 in
theorem g0X8_takeHead : mOk mX8_takeHead 0 0 := ⟨(mem_at (j := 932) (by rfl)), (mem_at (j := 138) (by decide +kernel)), (by decide +kernel), (by decide +kernel), ⟨(mem_at (j := 931) (by decide +kernel)), (mem_at (j := 21) (by decide +kernel))⟩⟩
theorem kX8_101 : mLb RX8 101 mX8_takeHead 0 0 false = true := mLb_of g0X8_takeHead (mem_at (j := 929) (by decide +kernel))
set_option maxRecDepth 100000 in
theorem g0X8_columnIs : mOk mX8_columnIs 2 0 := ⟨(mem_at (j := 938) (by rfl)), (mem_at (j := 138) (by decide +kernel)), (by decide +kernel), (by decide +kernel), ⟨(mem_at (j := 937) (by decide +kernel)), (mem_at (j := 22) (by decide +kernel))⟩⟩
theorem kX8_112 : mLb RX8 112 mX8_columnIs 2 0 false = true := mLb_of g0X8_columnIs (mem_at (j := 935) (by decide +kernel))
set_option maxRecDepth 100000 in
theorem g0X8_takeSampleName : mOk mX8_takeSampleName 2 0 := ⟨(mem_at (j := 942) (by rfl)), (mem_at (j := 138) (by decide +kernel)), (by decide +kernel), (by decide +kernel), ⟨(mem_at (j := 941) (by decide +kernel)), (mem_at (j := 23) (by decide +kernel))⟩⟩
theorem kX8_115 : mLb RX8 115 mX8_takeSampleName 2 0 false = true := mLb_of g0X8_takeSampleName (mem_at (j := 939) (by decide +kernel))
set_option maxRecDepth 100000 in
theorem g0X6_isWord : mOk mX6_isWord 2 0 := ⟨(mem_at (j := 946) (by rfl)), (mem_at (j := 123) (by decide +kernel)), (by decide +kernel), (by decide +kernel), ⟨(mem_at (j := 944) (by decide +kernel)), (mem_at (j := 945) (by decide +kernel))⟩⟩
theorem kX8_118 : mLb RX8 118 mX6_isWord 2 0 false = true := mLb_of g0X6_isWord (mem_at (j := 943) (by decide +kernel))
theorem kX6_51 : mLb RX6 51 mX6_at 1 0 false = true := mLb_of g0X6_at (mem_at (j := 947) (by decide +kernel))
set_option maxRecDepth 100000 in
theorem g0X5_indexIn : mOk mX5_indexIn 3 0 := ⟨(mem_at (j := 951) (by rfl)), (mem_at (j := 125) (by decide +kernel)), (by decide +kernel), (by decide +kernel), ⟨(mem_at (j := 949) (by decide +kernel)), (mem_at (j := 950) (by decide +kernel))⟩⟩
theorem kX8_125 : mLb RX8 125 mX5_indexIn 3 0 false = true := mLb_of g0X5_indexIn (mem_at (j := 948) (by decide +kernel))
set_option maxRecDepth 100000 in
theorem g0X6_isPart : mOk mX6_isPart 5 0 := ⟨(mem_at (j := 955) (by rfl)), (mem_at (j := 123) (by decide +kernel)), (by decide +kernel), (by decide +kernel), ⟨(mem_at (j := 953) (by decide +kernel)), (mem_at (j := 954) (by decide +kernel))⟩⟩
theorem kX5_46 : mLb RX5 46 mX6_isPart 5 0 false = true := mLb_of g0X6_isPart (mem_at (j := 952) (by decide +kernel))
theorem kX8_131 : mLb RX8 131 mX5_open 0 0 false = true := mLb_of g0X5_open (mem_at (j := 956) (by decide +kernel))
theorem kX8_134 : mLb RX8 134 mX5_add 1 0 false = true := mLb_of g0X5_add (mem_at (j := 957) (by decide +kernel))
set_option maxRecDepth 100000 in
theorem g0X8_takeEntry : mOk mX8_takeEntry 1 0 := ⟨(mem_at (j := 961) (by rfl)), (mem_at (j := 138) (by decide +kernel)), (by decide +kernel), (by decide +kernel), ⟨(mem_at (j := 960) (by decide +kernel)), (mem_at (j := 24) (by decide +kernel))⟩⟩
theorem kX8_68 : mLb RX8 68 mX8_takeEntry 1 0 false = true := mLb_of g0X8_takeEntry (mem_at (j := 958) (by decide +kernel))
set_option maxRecDepth 100000 in
theorem g0X8_takeSequence : mOk mX8_takeSequence 1 0 := ⟨(mem_at (j := 965) (by rfl)), (mem_at (j := 138) (by decide +kernel)), (by decide +kernel), (by decide +kernel), ⟨(mem_at (j := 964) (by decide +kernel)), (mem_at (j := 25) (by decide +kernel))⟩⟩
theorem kX8_138 : mLb RX8 138 mX8_takeSequence 1 0 false = true := mLb_of g0X8_takeSequence (mem_at (j := 962) (by decide +kernel))
set_option maxRecDepth 100000 in
theorem g0X8_failColumn : mOk mX8_failColumn 1 0 := ⟨(mem_at (j := 969) (by rfl)), (mem_at (j := 138) (by decide +kernel)), (by decide +kernel), (by decide +kernel), ⟨(mem_at (j := 968) (by decide +kernel)), (mem_at (j := 26) (by decide +kernel))⟩⟩
theorem kX8_141 : mLb RX8 141 mX8_failColumn 1 0 false = true := mLb_of g0X8_failColumn (mem_at (j := 966) (by decide +kernel))
set_option maxRecDepth 100000 in
theorem g0X8_takePlace : mOk mX8_takePlace 1 0 := ⟨(mem_at (j := 973) (by rfl)), (mem_at (j := 138) (by decide +kernel)), (by decide +kernel), (by decide +kernel), ⟨(mem_at (j := 972) (by decide +kernel)), (mem_at (j := 27) (by decide +kernel))⟩⟩
theorem kX8_145 : mLb RX8 145 mX8_takePlace 1 0 false = true := mLb_of g0X8_takePlace (mem_at (j := 970) (by decide +kernel))
set_option maxRecDepth 100000 in
theorem g0X1_sizeOf : mOk mX1_sizeOf 1 0 := ⟨(mem_at (j := 977) (by rfl)), (mem_at (j := 124) (by decide +kernel)), (by decide +kernel), (by decide +kernel), ⟨(mem_at (j := 975) (by decide +kernel)), (mem_at (j := 976) (by decide +kernel))⟩⟩
theorem kX8_182 : mLb RX8 182 mX1_sizeOf 1 0 false = true := mLb_of g0X1_sizeOf (mem_at (j := 974) (by decide +kernel))
set_option maxRecDepth 100000 in
theorem g0X1_has : mOk mX1_has 1 0 := ⟨(mem_at (j := 981) (by rfl)), (mem_at (j := 124) (by decide +kernel)), (by decide +kernel), (by decide +kernel), ⟨(mem_at (j := 979) (by decide +kernel)), (mem_at (j := 980) (by decide +kernel))⟩⟩
theorem kX1_49 : mLb RX1 49 mX1_has 1 0 false = true := mLb_of g0X1_has (mem_at (j := 978) (by decide +kernel))
set_option maxRecDepth 100000 in
theorem g0X6_numberAt : mOk mX6_numberAt 3 0 := ⟨(mem_at (j := 985) (by rfl)), (mem_at (j := 123) (by decide +kernel)), (by decide +kernel), (by decide +kernel), ⟨(mem_at (j := 983) (by decide +kernel)), (mem_at (j := 984) (by decide +kernel))⟩⟩
theorem kX8_185 : mLb RX8 185 mX6_numberAt 3 0 false = true := mLb_of g0X6_numberAt (mem_at (j := 982) (by decide +kernel))
set_option maxRecDepth 100000 in
theorem g0X8_takeId : mOk mX8_takeId 1 0 := ⟨(mem_at (j := 989) (by rfl)), (mem_at (j := 138) (by decide +kernel)), (by decide +kernel), (by decide +kernel), ⟨(mem_at (j := 988) (by decide +kernel)), (mem_at (j := 28) (by decide +kernel))⟩⟩
theorem kX8_148 : mLb RX8 148 mX8_takeId 1 0 false = true := mLb_of g0X8_takeId (mem_at (j := 986) (by decide +kernel))
set_option maxRecDepth 100000 in
theorem g0X0_addIdOctet : mOk mX0_addIdOctet 1 0 := ⟨(mem_at (j := 994) (by rfl)), (mem_at (j := 128) (by decide +kernel)), (by decide +kernel), (by decide +kernel), ⟨(mem_at (j := 992) (by decide +kernel)), (mem_at (j := 993) (by decide +kernel))⟩⟩
theorem kX8_195 : mLb RX8 195 mX0_addIdOctet 1 0 false = true := mLb_of g0X0_addIdOctet (mem_at (j := 991) (by decide +kernel))
set_option maxRecDepth 100000 in
theorem g0X8_takeRow : mOk mX8_takeRow 4 0 := ⟨(mem_at (j := 998) (by rfl)), (mem_at (j := 138) (by decide +kernel)), (by decide +kernel), (by decide +kernel), ⟨(mem_at (j := 997) (by decide +kernel)), (mem_at (j := 29) (by decide +kernel))⟩⟩
theorem kX8_151 : mLb RX8 151 mX8_takeRow 4 0 false = true := mLb_of g0X8_takeRow (mem_at (j := 995) (by decide +kernel))
set_option maxRecDepth 100000 in
theorem g0X0_addLetter : mOk mX0_addLetter 2 0 := ⟨(mem_at (j := 1003) (by rfl)), (mem_at (j := 128) (by decide +kernel)), (by decide +kernel), (by decide +kernel), ⟨(mem_at (j := 1001) (by decide +kernel)), (mem_at (j := 1002) (by decide +kernel))⟩⟩
theorem kX8_204 : mLb RX8 204 mX0_addLetter 2 0 false = true := mLb_of g0X0_addLetter (mem_at (j := 1000) (by decide +kernel))
set_option maxRecDepth 100000 in
theorem g0X8_refIsThere : mOk mX8_refIsThere 1 0 := ⟨(mem_at (j := 1007) (by rfl)), (mem_at (j := 138) (by decide +kernel)), (by decide +kernel), (by decide +kernel), ⟨(mem_at (j := 1006) (by decide +kernel)), (mem_at (j := 30) (by decide +kernel))⟩⟩
theorem kX8_155 : mLb RX8 155 mX8_refIsThere 1 0 false = true := mLb_of g0X8_refIsThere (mem_at (j := 1004) (by decide +kernel))
set_option maxRecDepth 100000 in
theorem g0X1_letterAt : mOk mX1_letterAt 2 0 := ⟨(mem_at (j := 1011) (by rfl)), (mem_at (j := 124) (by decide +kernel)), (by decide +kernel), (by decide +kernel), ⟨(mem_at (j := 1009) (by decide +kernel)), (mem_at (j := 1010) (by decide +kernel))⟩⟩
theorem kX8_211 : mLb RX8 211 mX1_letterAt 2 0 false = true := mLb_of g0X1_letterAt (mem_at (j := 1008) (by decide +kernel))
theorem kX8_214 : mLb RX8 214 mX0_letterAt 2 0 false = true := mLb_of g0X0_letterAt (mem_at (j := 1012) (by decide +kernel))
set_option maxRecDepth 100000 in
theorem g0X8_takeAlts : mOk mX8_takeAlts 1 0 := ⟨(mem_at (j := 1016) (by rfl)), (mem_at (j := 138) (by decide +kernel)), (by decide +kernel), (by decide +kernel), ⟨(mem_at (j := 1015) (by decide +kernel)), (mem_at (j := 31) (by decide +kernel))⟩⟩
theorem kX8_158 : mLb RX8 158 mX8_takeAlts 1 0 false = true := mLb_of g0X8_takeAlts (mem_at (j := 1013) (by decide +kernel))
set_option maxRecDepth 100000 in
theorem g0X8_takeAlt : mOk mX8_takeAlt 3 0 := ⟨(mem_at (j := 1020) (by rfl)), (mem_at (j := 138) (by decide +kernel)), (by decide +kernel), (by decide +kernel), ⟨(mem_at (j := 1019) (by decide +kernel)), (mem_at (j := 32) (by decide +kernel))⟩⟩
theorem kX8_215 : mLb RX8 215 mX8_takeAlt 3 0 false = true := mLb_of g0X8_takeAlt (mem_at (j := 1017) (by decide +kernel))
theorem kX8_219 : mLb RX8 219 mX0_rowIs 3 0 false = true := mLb_of g0X0_rowIs (mem_at (j := 1021) (by decide +kernel))
set_option maxRecDepth 100000 in
theorem g0X8_takeQuality : mOk mX8_takeQuality 1 0 := ⟨(mem_at (j := 1025) (by rfl)), (mem_at (j := 138) (by decide +kernel)), (by decide +kernel), (by decide +kernel), ⟨(mem_at (j := 1024) (by decide +kernel)), (mem_at (j := 33) (by decide +kernel))⟩⟩
theorem kX8_161 : mLb RX8 161 mX8_takeQuality 1 0 false = true := mLb_of g0X8_takeQuality (mem_at (j := 1022) (by decide +kernel))
set_option maxRecDepth 100000 in
theorem g0X8_takePassed : mOk mX8_takePassed 1 0 := ⟨(mem_at (j := 1030) (by rfl)), (mem_at (j := 138) (by decide +kernel)), (by decide +kernel), (by decide +kernel), ⟨(mem_at (j := 1029) (by decide +kernel)), (mem_at (j := 34) (by decide +kernel))⟩⟩
theorem kX8_164 : mLb RX8 164 mX8_takePassed 1 0 false = true := mLb_of g0X8_takePassed (mem_at (j := 1027) (by decide +kernel))
set_option maxRecDepth 100000 in
theorem g0X8_takeAllCalls : mOk mX8_takeAllCalls 1 0 := ⟨(mem_at (j := 1036) (by rfl)), (mem_at (j := 138) (by decide +kernel)), (by decide +kernel), (by decide +kernel), ⟨(mem_at (j := 1035) (by decide +kernel)), (mem_at (j := 35) (by decide +kernel))⟩⟩
theorem kX8_72 : mLb RX8 72 mX8_takeAllCalls 1 0 false = true := mLb_of g0X8_takeAllCalls (mem_at (j := 1033) (by decide +kernel))
set_option maxRecDepth 100000 in
theorem g0X8_takeCalls : mOk mX8_takeCalls 4 0 := ⟨(mem_at (j := 1040) (by rfl)), (mem_at (j := 138) (by decide +kernel)), (by decide +kernel), (by decide +kernel), ⟨(mem_at (j := 1039) (by decide +kernel)), (mem_at (j := 36) (by decide +kernel))⟩⟩
theorem kX8_233 : mLb RX8 233 mX8_takeCalls 4 0 false = true := mLb_of g0X8_takeCalls (mem_at (j := 1037) (by decide +kernel))
set_option maxRecDepth 100000 in
theorem g0X8_callAt : mOk mX8_callAt 3 0 := ⟨(mem_at (j := 1044) (by rfl)), (mem_at (j := 138) (by decide +kernel)), (by decide +kernel), (by decide +kernel), ⟨(mem_at (j := 1043) (by decide +kernel)), (mem_at (j := 37) (by decide +kernel))⟩⟩
theorem kX8_236 : mLb RX8 236 mX8_callAt 3 0 false = true := mLb_of g0X8_callAt (mem_at (j := 1041) (by decide +kernel))
theorem kX8_239 : mLb RX8 239 mX0_setCall 3 0 false = true := mLb_of g0X0_setCall (mem_at (j := 1045) (by decide +kernel))
set_option maxRecDepth 100000 in
theorem g0X9_useSpareSheet : mOk mX9_useSpareSheet 1 0 := ⟨(mem_at (j := 1049) (by rfl)), (mem_at (j := 122) (by decide +kernel)), (by decide +kernel), (by decide +kernel), ⟨(mem_at (j := 1048) (by decide +kernel)), (mem_at (j := 38) (by decide +kernel))⟩⟩
theorem kX9_110 : mLb RX9 110 mX9_useSpareSheet 1 0 false = true := mLb_of g0X9_useSpareSheet (mem_at (j := 1046) (by decide +kernel))
set_option maxRecDepth 100000 in
theorem g0X9_sequence : mOk mX9_sequence 2 0 := ⟨(mem_at (j := 1056) (by rfl)), (mem_at (j := 122) (by decide +kernel)), (by decide +kernel), (by decide +kernel), ⟨(mem_at (j := 1054) (by decide +kernel)), (mem_at (j := 1055) (by decide +kernel))⟩⟩
theorem kL_21 : mLb RL 21 mX9_sequence 2 0 false = true := mLb_of g0X9_sequence (mem_at (j := 1053) (by decide +kernel))
set_option maxRecDepth 100000 in
theorem g0X9_checkSequence : mOk mX9_checkSequence 1 0 := ⟨(mem_at (j := 1060) (by rfl)), (mem_at (j := 122) (by decide +kernel)), (by decide +kernel), (by decide +kernel), ⟨(mem_at (j := 1059) (by decide +kernel)), (mem_at (j := 39) (by decide +kernel))⟩⟩
theorem kX9_114 : mLb RX9 114 mX9_checkSequence 1 0 false = true := mLb_of g0X9_checkSequence (mem_at (j := 1057) (by decide +kernel))
set_option maxRecDepth 100000 in
theorem g0X5_sizeOf : mOk mX5_sizeOf 1 0 := ⟨(mem_at (j := 1065) (by rfl)), (mem_at (j := 125) (by decide +kernel)), (by decide +kernel), (by decide +kernel), ⟨(mem_at (j := 1063) (by decide +kernel)), (mem_at (j := 1064) (by decide +kernel))⟩⟩
theorem kX9_130 : mLb RX9 130 mX5_sizeOf 1 0 false = true := mLb_of g0X5_sizeOf (mem_at (j := 1062) (by decide +kernel))
set_option maxRecDepth 100000 in
theorem g0X9_letter : mOk mX9_letter 2 0 := ⟨(mem_at (j := 1073) (by rfl)), (mem_at (j := 122) (by decide +kernel)), (by decide +kernel), (by decide +kernel), ⟨(mem_at (j := 1071) (by decide +kernel)), (mem_at (j := 1072) (by decide +kernel))⟩⟩
theorem kL_25 : mLb RL 25 mX9_letter 2 0 false = true := mLb_of g0X9_letter (mem_at (j := 1070) (by decide +kernel))
theorem kX9_141 : mLb RX9 141 mX1_letterAt 2 0 false = true := mLb_of g0X1_letterAt (mem_at (j := 1074) (by decide +kernel))
set_option maxRecDepth 100000 in
theorem g0X5_octetAt : mOk mX5_octetAt 2 0 := ⟨(mem_at (j := 1078) (by rfl)), (mem_at (j := 125) (by decide +kernel)), (by decide +kernel), (by decide +kernel), ⟨(mem_at (j := 1076) (by decide +kernel)), (mem_at (j := 1077) (by decide +kernel))⟩⟩
theorem kX9_145 : mLb RX9 145 mX5_octetAt 2 0 false = true := mLb_of g0X5_octetAt (mem_at (j := 1075) (by decide +kernel))
theorem kX5_38 : mLb RX5 38 mX5_sizeOf 1 0 false = true := mLb_of g0X5_sizeOf (mem_at (j := 1079) (by decide +kernel))
set_option maxRecDepth 100000 in
theorem g0X9_table : mOk mX9_table 2 0 := ⟨(mem_at (j := 1087) (by rfl)), (mem_at (j := 122) (by decide +kernel)), (by decide +kernel), (by decide +kernel), ⟨(mem_at (j := 1085) (by decide +kernel)), (mem_at (j := 1086) (by decide +kernel))⟩⟩
theorem kL_28 : mLb RL 28 mX9_table 2 0 false = true := mLb_of g0X9_table (mem_at (j := 1084) (by decide +kernel))
set_option maxRecDepth 100000 in
theorem g0X9_record : mOk mX9_record 3 0 := ⟨(mem_at (j := 1095) (by rfl)), (mem_at (j := 122) (by decide +kernel)), (by decide +kernel), (by decide +kernel), ⟨(mem_at (j := 1093) (by decide +kernel)), (mem_at (j := 1094) (by decide +kernel))⟩⟩
theorem kL_31 : mLb RL 31 mX9_record 3 0 false = true := mLb_of g0X9_record (mem_at (j := 1092) (by decide +kernel))
set_option maxRecDepth 100000 in
theorem g0X9_entryAt : mOk mX9_entryAt 2 0 := ⟨(mem_at (j := 1099) (by rfl)), (mem_at (j := 122) (by decide +kernel)), (by decide +kernel), (by decide +kernel), ⟨(mem_at (j := 1098) (by decide +kernel)), (mem_at (j := 40) (by decide +kernel))⟩⟩
theorem kX9_154 : mLb RX9 154 mX9_entryAt 2 0 false = true := mLb_of g0X9_entryAt (mem_at (j := 1096) (by decide +kernel))
set_option maxRecDepth 100000 in
theorem g0X9_row : mOk mX9_row 4 0 := ⟨(mem_at (j := 1108) (by rfl)), (mem_at (j := 122) (by decide +kernel)), (by decide +kernel), (by decide +kernel), ⟨(mem_at (j := 1106) (by decide +kernel)), (mem_at (j := 1107) (by decide +kernel))⟩⟩
theorem kL_35 : mLb RL 35 mX9_row 4 0 false = true := mLb_of g0X9_row (mem_at (j := 1105) (by decide +kernel))
theorem kX9_186 : mLb RX9 186 mX0_letterAt 2 0 false = true := mLb_of g0X0_letterAt (mem_at (j := 1110) (by decide +kernel))
set_option maxRecDepth 100000 in
theorem g0X9_call : mOk mX9_call 4 0 := ⟨(mem_at (j := 1117) (by rfl)), (mem_at (j := 122) (by decide +kernel)), (by decide +kernel), (by decide +kernel), ⟨(mem_at (j := 1115) (by decide +kernel)), (mem_at (j := 1116) (by decide +kernel))⟩⟩
theorem kL_39 : mLb RL 39 mX9_call 4 0 false = true := mLb_of g0X9_call (mem_at (j := 1114) (by decide +kernel))
set_option maxRecDepth 100000 in
theorem g0X9_checkSample : mOk mX9_checkSample 2 0 := ⟨(mem_at (j := 1121) (by rfl)), (mem_at (j := 122) (by decide +kernel)), (by decide +kernel), (by decide +kernel), ⟨(mem_at (j := 1120) (by decide +kernel)), (mem_at (j := 41) (by decide +kernel))⟩⟩
theorem kX9_187 : mLb RX9 187 mX9_checkSample 2 0 false = true := mLb_of g0X9_checkSample (mem_at (j := 1118) (by decide +kernel))
set_option maxRecDepth 100000 in
theorem g0X0_callAt : mOk mX0_callAt 2 0 := ⟨(mem_at (j := 1126) (by rfl)), (mem_at (j := 128) (by decide +kernel)), (by decide +kernel), (by decide +kernel), ⟨(mem_at (j := 1124) (by decide +kernel)), (mem_at (j := 1125) (by decide +kernel))⟩⟩
theorem kX9_191 : mLb RX9 191 mX0_callAt 2 0 false = true := mLb_of g0X0_callAt (mem_at (j := 1123) (by decide +kernel))
set_option maxRecDepth 100000 in
theorem g0X9_normalise : mOk mX9_normalise 1 0 := ⟨(mem_at (j := 1134) (by rfl)), (mem_at (j := 122) (by decide +kernel)), (by decide +kernel), (by decide +kernel), ⟨(mem_at (j := 1132) (by decide +kernel)), (mem_at (j := 1133) (by decide +kernel))⟩⟩
theorem kL_42 : mLb RL 42 mX9_normalise 1 0 false = true := mLb_of g0X9_normalise (mem_at (j := 1131) (by decide +kernel))
set_option maxRecDepth 100000 in
theorem g0X0_makeNormal : mOk mX0_makeNormal 1 0 := ⟨(mem_at (j := 1138) (by rfl)), (mem_at (j := 128) (by decide +kernel)), (by decide +kernel), (by decide +kernel), ⟨(mem_at (j := 1136) (by decide +kernel)), (mem_at (j := 1137) (by decide +kernel))⟩⟩
theorem kX9_207 : mLb RX9 207 mX0_makeNormal 1 0 false = true := mLb_of g0X0_makeNormal (mem_at (j := 1135) (by decide +kernel))
set_option maxRecDepth 100000 in
theorem g0X0_hasAlts : mOk mX0_hasAlts 0 0 := ⟨(mem_at (j := 1142) (by rfl)), (mem_at (j := 128) (by decide +kernel)), (by decide +kernel), (by decide +kernel), ⟨(mem_at (j := 1140) (by decide +kernel)), (mem_at (j := 1141) (by decide +kernel))⟩⟩
theorem kX0_77 : mLb RX0 77 mX0_hasAlts 0 0 false = true := mLb_of g0X0_hasAlts (mem_at (j := 1139) (by decide +kernel))
set_option maxRecDepth 100000 in
theorem g0X0_cutEnds : mOk mX0_cutEnds 1 0 := ⟨(mem_at (j := 1146) (by rfl)), (mem_at (j := 128) (by decide +kernel)), (by decide +kernel), (by decide +kernel), ⟨(mem_at (j := 1145) (by decide +kernel)), (mem_at (j := 42) (by decide +kernel))⟩⟩
theorem kX0_81 : mLb RX0 81 mX0_cutEnds 1 0 false = true := mLb_of g0X0_cutEnds (mem_at (j := 1143) (by decide +kernel))
set_option maxRecDepth 100000 in
theorem g0X0_shortestRow : mOk mX0_shortestRow 0 0 := ⟨(mem_at (j := 1150) (by rfl)), (mem_at (j := 128) (by decide +kernel)), (by decide +kernel), (by decide +kernel), ⟨(mem_at (j := 1149) (by decide +kernel)), (mem_at (j := 43) (by decide +kernel))⟩⟩
theorem kX0_85 : mLb RX0 85 mX0_shortestRow 0 0 false = true := mLb_of g0X0_shortestRow (mem_at (j := 1147) (by decide +kernel))
set_option maxRecDepth 100000 in
theorem g0X0_endAlikeAfter : mOk mX0_endAlikeAfter 2 0 := ⟨(mem_at (j := 1157) (by rfl)), (mem_at (j := 128) (by decide +kernel)), (by decide +kernel), (by decide +kernel), ⟨(mem_at (j := 1156) (by decide +kernel)), (mem_at (j := 44) (by decide +kernel))⟩⟩
theorem kX0_104 : mLb RX0 104 mX0_endAlikeAfter 2 0 false = true := mLb_of g0X0_endAlikeAfter (mem_at (j := 1154) (by decide +kernel))
set_option maxRecDepth 100000 in
theorem g0X0_movedLetter : mOk mX0_movedLetter 4 0 := ⟨(mem_at (j := 1161) (by rfl)), (mem_at (j := 128) (by decide +kernel)), (by decide +kernel), (by decide +kernel), ⟨(mem_at (j := 1160) (by decide +kernel)), (mem_at (j := 45) (by decide +kernel))⟩⟩
theorem kX0_108 : mLb RX0 108 mX0_movedLetter 4 0 false = true := mLb_of g0X0_movedLetter (mem_at (j := 1158) (by decide +kernel))
theorem kX0_112 : mLb RX0 112 mX1_letterAt 2 0 false = true := mLb_of g0X1_letterAt (mem_at (j := 1162) (by decide +kernel))
set_option maxRecDepth 100000 in
theorem g0X0_stepsToLeft : mOk mX0_stepsToLeft 1 0 := ⟨(mem_at (j := 1166) (by rfl)), (mem_at (j := 128) (by decide +kernel)), (by decide +kernel), (by decide +kernel), ⟨(mem_at (j := 1165) (by decide +kernel)), (mem_at (j := 46) (by decide +kernel))⟩⟩
theorem kX0_89 : mLb RX0 89 mX0_stepsToLeft 1 0 false = true := mLb_of g0X0_stepsToLeft (mem_at (j := 1163) (by decide +kernel))
set_option maxRecDepth 100000 in
theorem g0X0_moveLeft : mOk mX0_moveLeft 2 0 := ⟨(mem_at (j := 1170) (by rfl)), (mem_at (j := 128) (by decide +kernel)), (by decide +kernel), (by decide +kernel), ⟨(mem_at (j := 1169) (by decide +kernel)), (mem_at (j := 47) (by decide +kernel))⟩⟩
theorem kX0_92 : mLb RX0 92 mX0_moveLeft 2 0 false = true := mLb_of g0X0_moveLeft (mem_at (j := 1167) (by decide +kernel))
set_option maxRecDepth 100000 in
theorem g0X0_cutBeginnings : mOk mX0_cutBeginnings 0 0 := ⟨(mem_at (j := 1174) (by rfl)), (mem_at (j := 128) (by decide +kernel)), (by decide +kernel), (by decide +kernel), ⟨(mem_at (j := 1173) (by decide +kernel)), (mem_at (j := 48) (by decide +kernel))⟩⟩
theorem kX0_96 : mLb RX0 96 mX0_cutBeginnings 0 0 false = true := mLb_of g0X0_cutBeginnings (mem_at (j := 1171) (by decide +kernel))
set_option maxRecDepth 100000 in
theorem g0X0_alikeAt : mOk mX0_alikeAt 1 0 := ⟨(mem_at (j := 1178) (by rfl)), (mem_at (j := 128) (by decide +kernel)), (by decide +kernel), (by decide +kernel), ⟨(mem_at (j := 1177) (by decide +kernel)), (mem_at (j := 49) (by decide +kernel))⟩⟩
theorem kX0_115 : mLb RX0 115 mX0_alikeAt 1 0 false = true := mLb_of g0X0_alikeAt (mem_at (j := 1175) (by decide +kernel))
theorem kX0_119 : mLb RX0 119 mX0_addLetter 2 0 false = true := mLb_of g0X0_addLetter (mem_at (j := 1179) (by decide +kernel))
set_option maxRecDepth 100000 in
theorem g0X9_split : mOk mX9_split 1 0 := ⟨(mem_at (j := 1186) (by rfl)), (mem_at (j := 122) (by decide +kernel)), (by decide +kernel), (by decide +kernel), ⟨(mem_at (j := 1184) (by decide +kernel)), (mem_at (j := 1185) (by decide +kernel))⟩⟩
theorem kL_45 : mLb RL 45 mX9_split 1 0 false = true := mLb_of g0X9_split (mem_at (j := 1183) (by decide +kernel))
set_option maxRecDepth 100000 in
theorem g0X7_sizeWhenSplit : mOk mX7_sizeWhenSplit 0 0 := ⟨(mem_at (j := 1190) (by rfl)), (mem_at (j := 127) (by decide +kernel)), (by decide +kernel), (by decide +kernel), ⟨(mem_at (j := 1188) (by decide +kernel)), (mem_at (j := 1189) (by decide +kernel))⟩⟩
theorem kX9_211 : mLb RX9 211 mX7_sizeWhenSplit 0 0 false = true := mLb_of g0X7_sizeWhenSplit (mem_at (j := 1187) (by decide +kernel))
set_option maxRecDepth 100000 in
theorem g0X7_takeSplit : mOk mX7_takeSplit 1 0 := ⟨(mem_at (j := 1195) (by rfl)), (mem_at (j := 127) (by decide +kernel)), (by decide +kernel), (by decide +kernel), ⟨(mem_at (j := 1193) (by decide +kernel)), (mem_at (j := 1194) (by decide +kernel))⟩⟩
theorem kX9_215 : mLb RX9 215 mX7_takeSplit 1 0 false = true := mLb_of g0X7_takeSplit (mem_at (j := 1192) (by decide +kernel))
theorem kX7_50 : mLb RX7 50 mX7_clear 0 0 false = true := mLb_of g0X7_clear (mem_at (j := 1196) (by decide +kernel))
set_option maxRecDepth 100000 in
theorem g0X7_takeSplitEntry : mOk mX7_takeSplitEntry 1 0 := ⟨(mem_at (j := 1200) (by rfl)), (mem_at (j := 127) (by decide +kernel)), (by decide +kernel), (by decide +kernel), ⟨(mem_at (j := 1199) (by decide +kernel)), (mem_at (j := 50) (by decide +kernel))⟩⟩
theorem kX7_55 : mLb RX7 55 mX7_takeSplitEntry 1 0 false = true := mLb_of g0X7_takeSplitEntry (mem_at (j := 1197) (by decide +kernel))
theorem kX7_59 : mLb RX7 59 mX0_hasAlts 0 0 false = true := mLb_of g0X0_hasAlts (mem_at (j := 1201) (by decide +kernel))
set_option maxRecDepth 100000 in
theorem g0X0_copyFrom : mOk mX0_copyFrom 1 0 := ⟨(mem_at (j := 1205) (by rfl)), (mem_at (j := 128) (by decide +kernel)), (by decide +kernel), (by decide +kernel), ⟨(mem_at (j := 1203) (by decide +kernel)), (mem_at (j := 1204) (by decide +kernel))⟩⟩
theorem kX7_63 : mLb RX7 63 mX0_copyFrom 1 0 false = true := mLb_of g0X0_copyFrom (mem_at (j := 1202) (by decide +kernel))
set_option maxRecDepth 100000 in
theorem g0X0_copyHead : mOk mX0_copyHead 1 0 := ⟨(mem_at (j := 1209) (by rfl)), (mem_at (j := 128) (by decide +kernel)), (by decide +kernel), (by decide +kernel), ⟨(mem_at (j := 1208) (by decide +kernel)), (mem_at (j := 51) (by decide +kernel))⟩⟩
theorem kX0_31 : mLb RX0 31 mX0_copyHead 1 0 false = true := mLb_of g0X0_copyHead (mem_at (j := 1206) (by decide +kernel))
theorem kX0_45 : mLb RX0 45 mX0_copyCalls 3 0 false = true := mLb_of g0X0_copyCalls (mem_at (j := 1211) (by decide +kernel))
set_option maxRecDepth 100000 in
theorem g0X0_takeAlt : mOk mX0_takeAlt 3 0 := ⟨(mem_at (j := 1215) (by rfl)), (mem_at (j := 128) (by decide +kernel)), (by decide +kernel), (by decide +kernel), ⟨(mem_at (j := 1213) (by decide +kernel)), (mem_at (j := 1214) (by decide +kernel))⟩⟩
theorem kX7_66 : mLb RX7 66 mX0_takeAlt 3 0 false = true := mLb_of g0X0_takeAlt (mem_at (j := 1212) (by decide +kernel))
theorem kX0_123 : mLb RX0 123 mX0_copyFrom 1 0 false = true := mLb_of g0X0_copyFrom (mem_at (j := 1216) (by decide +kernel))
set_option maxRecDepth 100000 in
theorem g0X0_copyRow : mOk mX0_copyRow 3 0 := ⟨(mem_at (j := 1220) (by rfl)), (mem_at (j := 128) (by decide +kernel)), (by decide +kernel), (by decide +kernel), ⟨(mem_at (j := 1218) (by decide +kernel)), (mem_at (j := 1219) (by decide +kernel))⟩⟩
theorem kX0_126 : mLb RX0 126 mX0_copyRow 3 0 false = true := mLb_of g0X0_copyRow (mem_at (j := 1217) (by decide +kernel))
theorem kX0_129 : mLb RX0 129 mX0_callAt 2 0 false = true := mLb_of g0X0_callAt (mem_at (j := 1221) (by decide +kernel))
set_option maxRecDepth 100000 in
theorem g0X9_join : mOk mX9_join 1 0 := ⟨(mem_at (j := 1228) (by rfl)), (mem_at (j := 122) (by decide +kernel)), (by decide +kernel), (by decide +kernel), ⟨(mem_at (j := 1226) (by decide +kernel)), (mem_at (j := 1227) (by decide +kernel))⟩⟩
theorem kL_48 : mLb RL 48 mX9_join 1 0 false = true := mLb_of g0X9_join (mem_at (j := 1225) (by decide +kernel))
set_option maxRecDepth 100000 in
theorem g0X7_joinAll : mOk mX7_joinAll 1 0 := ⟨(mem_at (j := 1232) (by rfl)), (mem_at (j := 127) (by decide +kernel)), (by decide +kernel), (by decide +kernel), ⟨(mem_at (j := 1230) (by decide +kernel)), (mem_at (j := 1231) (by decide +kernel))⟩⟩
theorem kX9_219 : mLb RX9 219 mX7_joinAll 1 0 false = true := mLb_of g0X7_joinAll (mem_at (j := 1229) (by decide +kernel))
set_option maxRecDepth 100000 in
theorem g0X4_joins : mOk mX4_joins 3 0 := ⟨(mem_at (j := 1236) (by rfl)), (mem_at (j := 129) (by decide +kernel)), (by decide +kernel), (by decide +kernel), ⟨(mem_at (j := 1234) (by decide +kernel)), (mem_at (j := 1235) (by decide +kernel))⟩⟩
theorem kX7_70 : mLb RX7 70 mX4_joins 3 0 false = true := mLb_of g0X4_joins (mem_at (j := 1233) (by decide +kernel))
theorem kX4_25 : mLb RX4 25 mX0_hasAlts 0 0 false = true := mLb_of g0X0_hasAlts (mem_at (j := 1237) (by decide +kernel))
theorem kX4_29 : mLb RX4 29 mX0_standsWith 1 0 false = true := mLb_of g0X0_standsWith (mem_at (j := 1238) (by decide +kernel))
set_option maxRecDepth 100000 in
theorem g0X0_canReach : mOk mX0_canReach 1 0 := ⟨(mem_at (j := 1243) (by rfl)), (mem_at (j := 128) (by decide +kernel)), (by decide +kernel), (by decide +kernel), ⟨(mem_at (j := 1241) (by decide +kernel)), (mem_at (j := 1242) (by decide +kernel))⟩⟩
theorem kX4_42 : mLb RX4 42 mX0_canReach 1 0 false = true := mLb_of g0X0_canReach (mem_at (j := 1240) (by decide +kernel))
theorem kX4_46 : mLb RX4 46 mX0_copyFrom 1 0 false = true := mLb_of g0X0_copyFrom (mem_at (j := 1244) (by decide +kernel))
set_option maxRecDepth 100000 in
theorem g0X0_reachAsFarAs : mOk mX0_reachAsFarAs 1 0 := ⟨(mem_at (j := 1248) (by rfl)), (mem_at (j := 128) (by decide +kernel)), (by decide +kernel), (by decide +kernel), ⟨(mem_at (j := 1246) (by decide +kernel)), (mem_at (j := 1247) (by decide +kernel))⟩⟩
theorem kX4_50 : mLb RX4 50 mX0_reachAsFarAs 1 0 false = true := mLb_of g0X0_reachAsFarAs (mem_at (j := 1245) (by decide +kernel))
set_option maxRecDepth 100000 in
theorem g0X4_takeAlts : mOk mX4_takeAlts 0 0 := ⟨(mem_at (j := 1252) (by rfl)), (mem_at (j := 129) (by decide +kernel)), (by decide +kernel), (by decide +kernel), ⟨(mem_at (j := 1251) (by decide +kernel)), (mem_at (j := 52) (by decide +kernel))⟩⟩
theorem kX4_53 : mLb RX4 53 mX4_takeAlts 0 0 false = true := mLb_of g0X4_takeAlts (mem_at (j := 1249) (by decide +kernel))
set_option maxRecDepth 100000 in
theorem g0X0_altLike : mOk mX0_altLike 2 0 := ⟨(mem_at (j := 1256) (by rfl)), (mem_at (j := 128) (by decide +kernel)), (by decide +kernel), (by decide +kernel), ⟨(mem_at (j := 1254) (by decide +kernel)), (mem_at (j := 1255) (by decide +kernel))⟩⟩
theorem kX4_64 : mLb RX4 64 mX0_altLike 2 0 false = true := mLb_of g0X0_altLike (mem_at (j := 1253) (by decide +kernel))
theorem kX4_68 : mLb RX4 68 mX0_copyRow 3 0 false = true := mLb_of g0X0_copyRow (mem_at (j := 1257) (by decide +kernel))
set_option maxRecDepth 100000 in
theorem g0X4_joinCalls : mOk mX4_joinCalls 1 0 := ⟨(mem_at (j := 1261) (by rfl)), (mem_at (j := 129) (by decide +kernel)), (by decide +kernel), (by decide +kernel), ⟨(mem_at (j := 1260) (by decide +kernel)), (mem_at (j := 53) (by decide +kernel))⟩⟩
theorem kX4_56 : mLb RX4 56 mX4_joinCalls 1 0 false = true := mLb_of g0X4_joinCalls (mem_at (j := 1258) (by decide +kernel))
set_option maxRecDepth 100000 in
theorem g0X4_joinedPhase : mOk mX4_joinedPhase 1 0 := ⟨(mem_at (j := 1265) (by rfl)), (mem_at (j := 129) (by decide +kernel)), (by decide +kernel), (by decide +kernel), ⟨(mem_at (j := 1264) (by decide +kernel)), (mem_at (j := 54) (by decide +kernel))⟩⟩
theorem kX4_75 : mLb RX4 75 mX4_joinedPhase 1 0 false = true := mLb_of g0X4_joinedPhase (mem_at (j := 1262) (by decide +kernel))
theorem kX4_78 : mLb RX4 78 mX0_callAt 2 0 false = true := mLb_of g0X0_callAt (mem_at (j := 1266) (by decide +kernel))
set_option maxRecDepth 100000 in
theorem g0X4_joinedCall : mOk mX4_joinedCall 2 0 := ⟨(mem_at (j := 1270) (by rfl)), (mem_at (j := 129) (by decide +kernel)), (by decide +kernel), (by decide +kernel), ⟨(mem_at (j := 1269) (by decide +kernel)), (mem_at (j := 55) (by decide +kernel))⟩⟩
theorem kX4_81 : mLb RX4 81 mX4_joinedCall 2 0 false = true := mLb_of g0X4_joinedCall (mem_at (j := 1267) (by decide +kernel))
theorem kX4_84 : mLb RX4 84 mX0_setCall 3 0 false = true := mLb_of g0X0_setCall (mem_at (j := 1271) (by decide +kernel))
set_option maxRecDepth 100000 in
theorem g0X9_sort : mOk mX9_sort 1 0 := ⟨(mem_at (j := 1279) (by rfl)), (mem_at (j := 122) (by decide +kernel)), (by decide +kernel), (by decide +kernel), ⟨(mem_at (j := 1277) (by decide +kernel)), (mem_at (j := 1278) (by decide +kernel))⟩⟩
theorem kL_51 : mLb RL 51 mX9_sort 1 0 false = true := mLb_of g0X9_sort (mem_at (j := 1276) (by decide +kernel))
set_option maxRecDepth 100000 in
theorem g0X9_apply : mOk mX9_apply 4 0 := ⟨(mem_at (j := 1286) (by rfl)), (mem_at (j := 122) (by decide +kernel)), (by decide +kernel), (by decide +kernel), ⟨(mem_at (j := 1284) (by decide +kernel)), (mem_at (j := 1285) (by decide +kernel))⟩⟩
theorem kL_54 : mLb RL 54 mX9_apply 4 0 false = true := mLb_of g0X9_apply (mem_at (j := 1283) (by decide +kernel))
set_option maxRecDepth 100000 in
theorem g0X3_choose : mOk mX3_choose 4 0 := ⟨(mem_at (j := 1291) (by rfl)), (mem_at (j := 130) (by decide +kernel)), (by decide +kernel), (by decide +kernel), ⟨(mem_at (j := 1289) (by decide +kernel)), (mem_at (j := 1290) (by decide +kernel))⟩⟩
theorem kX9_239 : mLb RX9 239 mX3_choose 4 0 false = true := mLb_of g0X3_choose (mem_at (j := 1288) (by decide +kernel))
theorem kX3_53 : mLb RX3 53 mX0_callAt 2 0 false = true := mLb_of g0X0_callAt (mem_at (j := 1292) (by decide +kernel))
set_option maxRecDepth 100000 in
theorem g0X3_insert : mOk mX3_insert 2 0 := ⟨(mem_at (j := 1296) (by rfl)), (mem_at (j := 130) (by decide +kernel)), (by decide +kernel), (by decide +kernel), ⟨(mem_at (j := 1295) (by decide +kernel)), (mem_at (j := 56) (by decide +kernel))⟩⟩
theorem kX3_57 : mLb RX3 57 mX3_insert 2 0 false = true := mLb_of g0X3_insert (mem_at (j := 1293) (by decide +kernel))
theorem kX3_61 : mLb RX3 61 mX0_standsBehind 1 0 false = true := mLb_of g0X0_standsBehind (mem_at (j := 1297) (by decide +kernel))
set_option maxRecDepth 100000 in
theorem g0X3_clashes : mOk mX3_clashes 1 0 := ⟨(mem_at (j := 1301) (by rfl)), (mem_at (j := 130) (by decide +kernel)), (by decide +kernel), (by decide +kernel), ⟨(mem_at (j := 1299) (by decide +kernel)), (mem_at (j := 1300) (by decide +kernel))⟩⟩
theorem kX9_243 : mLb RX9 243 mX3_clashes 1 0 false = true := mLb_of g0X3_clashes (mem_at (j := 1298) (by decide +kernel))
set_option maxRecDepth 100000 in
theorem g0X3_putOn : mOk mX3_putOn 6 0 := ⟨(mem_at (j := 1305) (by rfl)), (mem_at (j := 130) (by decide +kernel)), (by decide +kernel), (by decide +kernel), ⟨(mem_at (j := 1303) (by decide +kernel)), (mem_at (j := 1304) (by decide +kernel))⟩⟩
theorem kX9_246 : mLb RX9 246 mX3_putOn 6 0 false = true := mLb_of g0X3_putOn (mem_at (j := 1302) (by decide +kernel))
set_option maxRecDepth 100000 in
theorem g0X1_writeLetters : mOk mX1_writeLetters 4 0 := ⟨(mem_at (j := 1309) (by rfl)), (mem_at (j := 124) (by decide +kernel)), (by decide +kernel), (by decide +kernel), ⟨(mem_at (j := 1307) (by decide +kernel)), (mem_at (j := 1308) (by decide +kernel))⟩⟩
theorem kX3_71 : mLb RX3 71 mX1_writeLetters 4 0 false = true := mLb_of g0X1_writeLetters (mem_at (j := 1306) (by decide +kernel))
set_option maxRecDepth 100000 in
theorem g0X6_addPart : mOk mX6_addPart 3 0 := ⟨(mem_at (j := 1313) (by rfl)), (mem_at (j := 123) (by decide +kernel)), (by decide +kernel), (by decide +kernel), ⟨(mem_at (j := 1311) (by decide +kernel)), (mem_at (j := 1312) (by decide +kernel))⟩⟩
theorem kX1_53 : mLb RX1 53 mX6_addPart 3 0 false = true := mLb_of g0X6_addPart (mem_at (j := 1310) (by decide +kernel))
theorem kX6_33 : mLb RX6 33 mX6_add 1 0 false = true := mLb_of g0X6_add (mem_at (j := 1314) (by decide +kernel))
set_option maxRecDepth 100000 in
theorem g0X0_writeRow : mOk mX0_writeRow 2 0 := ⟨(mem_at (j := 1318) (by rfl)), (mem_at (j := 128) (by decide +kernel)), (by decide +kernel), (by decide +kernel), ⟨(mem_at (j := 1316) (by decide +kernel)), (mem_at (j := 1317) (by decide +kernel))⟩⟩
theorem kX3_80 : mLb RX3 80 mX0_writeRow 2 0 false = true := mLb_of g0X0_writeRow (mem_at (j := 1315) (by decide +kernel))
theorem kX0_161 : mLb RX0 161 mX6_addPart 3 0 false = true := mLb_of g0X6_addPart (mem_at (j := 1319) (by decide +kernel))
theorem kX3_84 : mLb RX3 84 mX1_sizeOf 1 0 false = true := mLb_of g0X1_sizeOf (mem_at (j := 1320) (by decide +kernel))
set_option maxRecDepth 100000 in
theorem g0X9_same : mOk mX9_same 4 0 := ⟨(mem_at (j := 1327) (by rfl)), (mem_at (j := 122) (by decide +kernel)), (by decide +kernel), (by decide +kernel), ⟨(mem_at (j := 1325) (by decide +kernel)), (mem_at (j := 1326) (by decide +kernel))⟩⟩
theorem kL_57 : mLb RL 57 mX9_same 4 0 false = true := mLb_of g0X9_same (mem_at (j := 1324) (by decide +kernel))
set_option maxRecDepth 100000 in
theorem g0X0_meansSameAs : mOk mX0_meansSameAs 2 0 := ⟨(mem_at (j := 1331) (by rfl)), (mem_at (j := 128) (by decide +kernel)), (by decide +kernel), (by decide +kernel), ⟨(mem_at (j := 1329) (by decide +kernel)), (mem_at (j := 1330) (by decide +kernel))⟩⟩
theorem kX9_256 : mLb RX9 256 mX0_meansSameAs 2 0 false = true := mLb_of g0X0_meansSameAs (mem_at (j := 1328) (by decide +kernel))
set_option maxRecDepth 100000 in
theorem g0X0_growth : mOk mX0_growth 0 0 := ⟨(mem_at (j := 1335) (by rfl)), (mem_at (j := 128) (by decide +kernel)), (by decide +kernel), (by decide +kernel), ⟨(mem_at (j := 1334) (by decide +kernel)), (mem_at (j := 57) (by decide +kernel))⟩⟩
theorem kX0_132 : mLb RX0 132 mX0_growth 0 0 false = true := mLb_of g0X0_growth (mem_at (j := 1332) (by decide +kernel))
set_option maxRecDepth 100000 in
theorem g0X0_letterAfter : mOk mX0_letterAfter 2 0 := ⟨(mem_at (j := 1340) (by rfl)), (mem_at (j := 128) (by decide +kernel)), (by decide +kernel), (by decide +kernel), ⟨(mem_at (j := 1339) (by decide +kernel)), (mem_at (j := 58) (by decide +kernel))⟩⟩
theorem kX0_138 : mLb RX0 138 mX0_letterAfter 2 0 false = true := mLb_of g0X0_letterAfter (mem_at (j := 1337) (by decide +kernel))
set_option maxRecDepth 100000 in
theorem g0X9_write : mOk mX9_write 1 0 := ⟨(mem_at (j := 1347) (by rfl)), (mem_at (j := 122) (by decide +kernel)), (by decide +kernel), (by decide +kernel), ⟨(mem_at (j := 1345) (by decide +kernel)), (mem_at (j := 1346) (by decide +kernel))⟩⟩
theorem kL_61 : mLb RL 61 mX9_write 1 0 false = true := mLb_of g0X9_write (mem_at (j := 1344) (by decide +kernel))
set_option maxRecDepth 100000 in
theorem g0X7_writeTo : mOk mX7_writeTo 2 0 := ⟨(mem_at (j := 1351) (by rfl)), (mem_at (j := 127) (by decide +kernel)), (by decide +kernel), (by decide +kernel), ⟨(mem_at (j := 1349) (by decide +kernel)), (mem_at (j := 1350) (by decide +kernel))⟩⟩
theorem kX9_260 : mLb RX9 260 mX7_writeTo 2 0 false = true := mLb_of g0X7_writeTo (mem_at (j := 1348) (by decide +kernel))
set_option maxRecDepth 100000 in
theorem g0X6_addText : mOk mX6_addText 1 0 := ⟨(mem_at (j := 1356) (by rfl)), (mem_at (j := 123) (by decide +kernel)), (by decide +kernel), (by decide +kernel), ⟨(mem_at (j := 1354) (by decide +kernel)), (mem_at (j := 1355) (by decide +kernel))⟩⟩
theorem kX7_122 : mLb RX7 122 mX6_addText 1 0 false = true := mLb_of g0X6_addText (mem_at (j := 1353) (by decide +kernel))
theorem kX7_128 : mLb RX7 128 mX6_add 1 0 false = true := mLb_of g0X6_add (mem_at (j := 1357) (by decide +kernel))
set_option maxRecDepth 100000 in
theorem g0X5_writeName : mOk mX5_writeName 2 0 := ⟨(mem_at (j := 1363) (by rfl)), (mem_at (j := 125) (by decide +kernel)), (by decide +kernel), (by decide +kernel), ⟨(mem_at (j := 1361) (by decide +kernel)), (mem_at (j := 1362) (by decide +kernel))⟩⟩
theorem kX7_135 : mLb RX7 135 mX5_writeName 2 0 false = true := mLb_of g0X5_writeName (mem_at (j := 1360) (by decide +kernel))
theorem kX5_52 : mLb RX5 52 mX6_addPart 3 0 false = true := mLb_of g0X6_addPart (mem_at (j := 1364) (by decide +kernel))
set_option maxRecDepth 100000 in
theorem g0X0_writeTo : mOk mX0_writeTo 3 0 := ⟨(mem_at (j := 1368) (by rfl)), (mem_at (j := 128) (by decide +kernel)), (by decide +kernel), (by decide +kernel), ⟨(mem_at (j := 1366) (by decide +kernel)), (mem_at (j := 1367) (by decide +kernel))⟩⟩
theorem kX7_139 : mLb RX7 139 mX0_writeTo 3 0 false = true := mLb_of g0X0_writeTo (mem_at (j := 1365) (by decide +kernel))
theorem kX0_146 : mLb RX0 146 mX5_writeName 2 0 false = true := mLb_of g0X5_writeName (mem_at (j := 1369) (by decide +kernel))
theorem kX0_152 : mLb RX0 152 mX6_add 1 0 false = true := mLb_of g0X6_add (mem_at (j := 1370) (by decide +kernel))
set_option maxRecDepth 100000 in
theorem g0X6_addNumber : mOk mX6_addNumber 1 0 := ⟨(mem_at (j := 1374) (by rfl)), (mem_at (j := 123) (by decide +kernel)), (by decide +kernel), (by decide +kernel), ⟨(mem_at (j := 1372) (by decide +kernel)), (mem_at (j := 1373) (by decide +kernel))⟩⟩
theorem kX0_158 : mLb RX0 158 mX6_addNumber 1 0 false = true := mLb_of g0X6_addNumber (mem_at (j := 1371) (by decide +kernel))
theorem kX0_165 : mLb RX0 165 mX0_writeRow 2 0 false = true := mLb_of g0X0_writeRow (mem_at (j := 1376) (by decide +kernel))
set_option maxRecDepth 100000 in
theorem g0X0_writeAlts : mOk mX0_writeAlts 1 0 := ⟨(mem_at (j := 1380) (by rfl)), (mem_at (j := 128) (by decide +kernel)), (by decide +kernel), (by decide +kernel), ⟨(mem_at (j := 1379) (by decide +kernel)), (mem_at (j := 59) (by decide +kernel))⟩⟩
theorem kX0_168 : mLb RX0 168 mX0_writeAlts 1 0 false = true := mLb_of g0X0_writeAlts (mem_at (j := 1377) (by decide +kernel))
set_option maxRecDepth 100000 in
theorem g0X6_addNumberOrPoint : mOk mX6_addNumberOrPoint 1 0 := ⟨(mem_at (j := 1384) (by rfl)), (mem_at (j := 123) (by decide +kernel)), (by decide +kernel), (by decide +kernel), ⟨(mem_at (j := 1382) (by decide +kernel)), (mem_at (j := 1383) (by decide +kernel))⟩⟩
theorem kX0_172 : mLb RX0 172 mX6_addNumberOrPoint 1 0 false = true := mLb_of g0X6_addNumberOrPoint (mem_at (j := 1381) (by decide +kernel))
theorem kX6_44 : mLb RX6 44 mX6_addNumber 1 0 false = true := mLb_of g0X6_addNumber (mem_at (j := 1385) (by decide +kernel))
theorem kX0_179 : mLb RX0 179 mX6_addText 1 0 false = true := mLb_of g0X6_addText (mem_at (j := 1388) (by decide +kernel))
set_option maxRecDepth 100000 in
theorem g0X0_writeCalls : mOk mX0_writeCalls 2 0 := ⟨(mem_at (j := 1393) (by rfl)), (mem_at (j := 128) (by decide +kernel)), (by decide +kernel), (by decide +kernel), ⟨(mem_at (j := 1392) (by decide +kernel)), (mem_at (j := 60) (by decide +kernel))⟩⟩
theorem kX0_185 : mLb RX0 185 mX0_writeCalls 2 0 false = true := mLb_of g0X0_writeCalls (mem_at (j := 1390) (by decide +kernel))
set_option maxRecDepth 100000 in
theorem g2X10_init : mOk mX10_init 0 2 := ⟨(mem_at (j := 1398) (by rfl)), (mem_at (j := 131) (by decide +kernel)), (by decide +kernel), (by decide +kernel), ⟨(by decide +kernel), (mem_at (j := 1397) (by decide +kernel))⟩⟩
theorem kL_67 : mLb RL 67 mX10_init 0 2 false = true := mLb_of g2X10_init (mem_at (j := 1396) (by decide +kernel))
set_option maxRecDepth 100000 in
theorem g0X10_thrown : mOk mX10_thrown 0 0 := ⟨(mem_at (j := 1563) (by rfl)), (mem_at (j := 131) (by decide +kernel)), (by decide +kernel), (by decide +kernel), ⟨(mem_at (j := 1561) (by decide +kernel)), (mem_at (j := 1562) (by decide +kernel))⟩⟩
theorem kL_76 : mLb RL 76 mX10_thrown 0 0 false = true := mLb_of g0X10_thrown (mem_at (j := 1560) (by decide +kernel))
set_option maxRecDepth 100000 in
theorem g0X10_feed : mOk mX10_feed 2 0 := ⟨(mem_at (j := 1567) (by rfl)), (mem_at (j := 131) (by decide +kernel)), (by decide +kernel), (by decide +kernel), ⟨(mem_at (j := 1565) (by decide +kernel)), (mem_at (j := 1566) (by decide +kernel))⟩⟩
theorem kL_75 : mLb RL 75 mX10_feed 2 0 false = true := mLb_of g0X10_feed (mem_at (j := 1564) (by decide +kernel))
set_option maxRecDepth 100000 in
theorem g1X10_in : mOk mX10_in 3 1 := ⟨(mem_at (j := 1570) (by rfl)), (mem_at (j := 131) (by decide +kernel)), (by decide +kernel), (by decide +kernel), (mem_at (j := 1569) (by decide +kernel))⟩
theorem kX10_136 : mLb RX10 136 mX10_in 3 1 false = true := mLb_of g1X10_in (mem_at (j := 1568) (by decide +kernel))
set_option maxRecDepth 100000 in
theorem g0X10_goes : mOk mX10_goes 1 0 := ⟨(mem_at (j := 1574) (by rfl)), (mem_at (j := 131) (by decide +kernel)), (by decide +kernel), (by decide +kernel), ⟨(mem_at (j := 1573) (by decide +kernel)), (mem_at (j := 61) (by decide +kernel))⟩⟩
theorem kX10_143 : mLb RX10 143 mX10_goes 1 0 false = true := mLb_of g0X10_goes (mem_at (j := 1571) (by decide +kernel))
set_option maxRecDepth 100000 in
theorem g0X10_reference : mOk mX10_reference 0 0 := ⟨(mem_at (j := 1578) (by rfl)), (mem_at (j := 131) (by decide +kernel)), (by decide +kernel), (by decide +kernel), ⟨(mem_at (j := 1576) (by decide +kernel)), (mem_at (j := 1577) (by decide +kernel))⟩⟩
theorem kL_83 : mLb RL 83 mX10_reference 0 0 false = true := mLb_of g0X10_reference (mem_at (j := 1575) (by decide +kernel))
set_option maxRecDepth 100000 in
theorem g0X10_readName : mOk mX10_readName 1 0 := ⟨(mem_at (j := 1582) (by rfl)), (mem_at (j := 131) (by decide +kernel)), (by decide +kernel), (by decide +kernel), ⟨(mem_at (j := 1581) (by decide +kernel)), (mem_at (j := 62) (by decide +kernel))⟩⟩
theorem kX10_177 : mLb RX10 177 mX10_readName 1 0 false = true := mLb_of g0X10_readName (mem_at (j := 1579) (by decide +kernel))
set_option maxRecDepth 100000 in
theorem g0X10_at : mOk mX10_at 1 0 := ⟨(mem_at (j := 1586) (by rfl)), (mem_at (j := 131) (by decide +kernel)), (by decide +kernel), (by decide +kernel), ⟨(mem_at (j := 1585) (by decide +kernel)), (mem_at (j := 63) (by decide +kernel))⟩⟩
theorem kX10_156 : mLb RX10 156 mX10_at 1 0 false = true := mLb_of g0X10_at (mem_at (j := 1583) (by decide +kernel))
set_option maxRecDepth 100000 in
theorem g0X10_bad : mOk mX10_bad 2 0 := ⟨(mem_at (j := 1590) (by rfl)), (mem_at (j := 131) (by decide +kernel)), (by decide +kernel), (by decide +kernel), ⟨(mem_at (j := 1589) (by decide +kernel)), (mem_at (j := 64) (by decide +kernel))⟩⟩
theorem kX10_160 : mLb RX10 160 mX10_bad 2 0 false = true := mLb_of g0X10_bad (mem_at (j := 1587) (by decide +kernel))
set_option maxRecDepth 100000 in
theorem g1X10_isNameSign : mOk mX10_isNameSign 1 1 := ⟨(mem_at (j := 1593) (by rfl)), (mem_at (j := 131) (by decide +kernel)), (by decide +kernel), (by decide +kernel), (mem_at (j := 1592) (by decide +kernel))⟩
theorem kX10_164 : mLb RX10 164 mX10_isNameSign 1 1 false = true := mLb_of g1X10_isNameSign (mem_at (j := 1591) (by decide +kernel))
set_option maxRecDepth 100000 in
theorem g0X10_isOld : mOk mX10_isOld 1 0 := ⟨(mem_at (j := 1597) (by rfl)), (mem_at (j := 131) (by decide +kernel)), (by decide +kernel), (by decide +kernel), ⟨(mem_at (j := 1596) (by decide +kernel)), (mem_at (j := 65) (by decide +kernel))⟩⟩
theorem kX10_168 : mLb RX10 168 mX10_isOld 1 0 false = true := mLb_of g0X10_isOld (mem_at (j := 1594) (by decide +kernel))
set_option maxRecDepth 100000 in
theorem g0X10_readLetters : mOk mX10_readLetters 1 0 := ⟨(mem_at (j := 1601) (by rfl)), (mem_at (j := 131) (by decide +kernel)), (by decide +kernel), (by decide +kernel), ⟨(mem_at (j := 1600) (by decide +kernel)), (mem_at (j := 66) (by decide +kernel))⟩⟩
theorem kX10_180 : mLb RX10 180 mX10_readLetters 1 0 false = true := mLb_of g0X10_readLetters (mem_at (j := 1598) (by decide +kernel))
set_option maxRecDepth 100000 in
theorem g1X10_letterOf : mOk mX10_letterOf 1 1 := ⟨(mem_at (j := 1604) (by rfl)), (mem_at (j := 131) (by decide +kernel)), (by decide +kernel), (by decide +kernel), (mem_at (j := 1603) (by decide +kernel))⟩
theorem kX10_174 : mLb RX10 174 mX10_letterOf 1 1 false = true := mLb_of g1X10_letterOf (mem_at (j := 1602) (by decide +kernel))
set_option maxRecDepth 100000 in
theorem g0X10_read : mOk mX10_read 1 0 := ⟨(mem_at (j := 1608) (by rfl)), (mem_at (j := 131) (by decide +kernel)), (by decide +kernel), (by decide +kernel), ⟨(mem_at (j := 1606) (by decide +kernel)), (mem_at (j := 1607) (by decide +kernel))⟩⟩
theorem kL_87 : mLb RL 87 mX10_read 1 0 false = true := mLb_of g0X10_read (mem_at (j := 1605) (by decide +kernel))
set_option maxRecDepth 100000 in
theorem g0X10_readTable : mOk mX10_readTable 0 0 := ⟨(mem_at (j := 1612) (by rfl)), (mem_at (j := 131) (by decide +kernel)), (by decide +kernel), (by decide +kernel), ⟨(mem_at (j := 1611) (by decide +kernel)), (mem_at (j := 67) (by decide +kernel))⟩⟩
theorem kX10_300 : mLb RX10 300 mX10_readTable 0 0 false = true := mLb_of g0X10_readTable (mem_at (j := 1609) (by decide +kernel))
set_option maxRecDepth 100000 in
theorem g0X10_needLine : mOk mX10_needLine 1 0 := ⟨(mem_at (j := 1616) (by rfl)), (mem_at (j := 131) (by decide +kernel)), (by decide +kernel), (by decide +kernel), ⟨(mem_at (j := 1615) (by decide +kernel)), (mem_at (j := 68) (by decide +kernel))⟩⟩
theorem kX10_291 : mLb RX10 291 mX10_needLine 1 0 false = true := mLb_of g0X10_needLine (mem_at (j := 1613) (by decide +kernel))
set_option maxRecDepth 100000 in
theorem g0X10_lineEnd : mOk mX10_lineEnd 1 0 := ⟨(mem_at (j := 1620) (by rfl)), (mem_at (j := 131) (by decide +kernel)), (by decide +kernel), (by decide +kernel), ⟨(mem_at (j := 1619) (by decide +kernel)), (mem_at (j := 69) (by decide +kernel))⟩⟩
theorem kX10_288 : mLb RX10 288 mX10_lineEnd 1 0 false = true := mLb_of g0X10_lineEnd (mem_at (j := 1617) (by decide +kernel))
set_option maxRecDepth 100000 in
theorem g0X10_isText : mOk mX10_isText 3 0 := ⟨(mem_at (j := 1624) (by rfl)), (mem_at (j := 131) (by decide +kernel)), (by decide +kernel), (by decide +kernel), ⟨(mem_at (j := 1623) (by decide +kernel)), (mem_at (j := 70) (by decide +kernel))⟩⟩
theorem kX10_241 : mLb RX10 241 mX10_isText 3 0 false = true := mLb_of g0X10_isText (mem_at (j := 1621) (by decide +kernel))
set_option maxRecDepth 100000 in
theorem g1X10_sizeOf : mOk mX10_sizeOf 1 1 := ⟨(mem_at (j := 1627) (by rfl)), (mem_at (j := 131) (by decide +kernel)), (by decide +kernel), (by decide +kernel), (mem_at (j := 1626) (by decide +kernel))⟩
theorem kX10_228 : mLb RX10 228 mX10_sizeOf 1 1 false = true := mLb_of g1X10_sizeOf (mem_at (j := 1625) (by decide +kernel))
set_option maxRecDepth 100000 in
theorem g0X10_begins : mOk mX10_begins 3 0 := ⟨(mem_at (j := 1631) (by rfl)), (mem_at (j := 131) (by decide +kernel)), (by decide +kernel), (by decide +kernel), ⟨(mem_at (j := 1630) (by decide +kernel)), (mem_at (j := 71) (by decide +kernel))⟩⟩
theorem kX10_235 : mLb RX10 235 mX10_begins 3 0 false = true := mLb_of g0X10_begins (mem_at (j := 1628) (by decide +kernel))
set_option maxRecDepth 100000 in
theorem g1X10_octetOf : mOk mX10_octetOf 2 1 := ⟨(mem_at (j := 1634) (by rfl)), (mem_at (j := 131) (by decide +kernel)), (by decide +kernel), (by decide +kernel), (mem_at (j := 1633) (by decide +kernel))⟩
theorem kX10_231 : mLb RX10 231 mX10_octetOf 2 1 false = true := mLb_of g1X10_octetOf (mem_at (j := 1632) (by decide +kernel))
set_option maxRecDepth 100000 in
theorem g1X10_eightOf : mOk mX10_eightOf 2 1 := ⟨(mem_at (j := 1637) (by rfl)), (mem_at (j := 131) (by decide +kernel)), (by decide +kernel), (by decide +kernel), (mem_at (j := 1636) (by decide +kernel))⟩
theorem kX10_224 : mLb RX10 224 mX10_eightOf 2 1 false = true := mLb_of g1X10_eightOf (mem_at (j := 1635) (by decide +kernel))
set_option maxRecDepth 100000 in
theorem g0X10_readHead : mOk mX10_readHead 2 0 := ⟨(mem_at (j := 1653) (by rfl)), (mem_at (j := 131) (by decide +kernel)), (by decide +kernel), (by decide +kernel), ⟨(mem_at (j := 1652) (by decide +kernel)), (mem_at (j := 72) (by decide +kernel))⟩⟩
theorem kX10_294 : mLb RX10 294 mX10_readHead 2 0 false = true := mLb_of g0X10_readHead (mem_at (j := 1650) (by decide +kernel))
set_option maxRecDepth 100000 in
theorem g0X10_columnEnd : mOk mX10_columnEnd 2 0 := ⟨(mem_at (j := 1657) (by rfl)), (mem_at (j := 131) (by decide +kernel)), (by decide +kernel), (by decide +kernel), ⟨(mem_at (j := 1656) (by decide +kernel)), (mem_at (j := 73) (by decide +kernel))⟩⟩
theorem kX10_238 : mLb RX10 238 mX10_columnEnd 2 0 false = true := mLb_of g0X10_columnEnd (mem_at (j := 1654) (by decide +kernel))
set_option maxRecDepth 100000 in
theorem g0X10_isShown : mOk mX10_isShown 2 0 := ⟨(mem_at (j := 1661) (by rfl)), (mem_at (j := 131) (by decide +kernel)), (by decide +kernel), (by decide +kernel), ⟨(mem_at (j := 1660) (by decide +kernel)), (mem_at (j := 74) (by decide +kernel))⟩⟩
theorem kX10_244 : mLb RX10 244 mX10_isShown 2 0 false = true := mLb_of g0X10_isShown (mem_at (j := 1658) (by decide +kernel))
set_option maxRecDepth 100000 in
theorem g0X10_sameName : mOk mX10_sameName 4 0 := ⟨(mem_at (j := 1665) (by rfl)), (mem_at (j := 131) (by decide +kernel)), (by decide +kernel), (by decide +kernel), ⟨(mem_at (j := 1664) (by decide +kernel)), (mem_at (j := 75) (by decide +kernel))⟩⟩
theorem kX10_248 : mLb RX10 248 mX10_sameName 4 0 false = true := mLb_of g0X10_sameName (mem_at (j := 1662) (by decide +kernel))
set_option maxRecDepth 100000 in
theorem g0X10_readRecord : mOk mX10_readRecord 2 0 := ⟨(mem_at (j := 1669) (by rfl)), (mem_at (j := 131) (by decide +kernel)), (by decide +kernel), (by decide +kernel), ⟨(mem_at (j := 1668) (by decide +kernel)), (mem_at (j := 76) (by decide +kernel))⟩⟩
theorem kX10_297 : mLb RX10 297 mX10_readRecord 2 0 false = true := mLb_of g0X10_readRecord (mem_at (j := 1666) (by decide +kernel))
set_option maxRecDepth 100000 in
theorem g0X10_columns : mOk mX10_columns 2 0 := ⟨(mem_at (j := 1673) (by rfl)), (mem_at (j := 131) (by decide +kernel)), (by decide +kernel), (by decide +kernel), ⟨(mem_at (j := 1672) (by decide +kernel)), (mem_at (j := 77) (by decide +kernel))⟩⟩
theorem kX10_282 : mLb RX10 282 mX10_columns 2 0 false = true := mLb_of g0X10_columns (mem_at (j := 1670) (by decide +kernel))
set_option maxRecDepth 100000 in
theorem g0X10_readColumn : mOk mX10_readColumn 4 0 := ⟨(mem_at (j := 1677) (by rfl)), (mem_at (j := 131) (by decide +kernel)), (by decide +kernel), (by decide +kernel), ⟨(mem_at (j := 1676) (by decide +kernel)), (mem_at (j := 78) (by decide +kernel))⟩⟩
theorem kX10_285 : mLb RX10 285 mX10_readColumn 4 0 false = true := mLb_of g0X10_readColumn (mem_at (j := 1674) (by decide +kernel))
set_option maxRecDepth 100000 in
theorem g0X10_sequenceNamed : mOk mX10_sequenceNamed 2 0 := ⟨(mem_at (j := 1681) (by rfl)), (mem_at (j := 131) (by decide +kernel)), (by decide +kernel), (by decide +kernel), ⟨(mem_at (j := 1680) (by decide +kernel)), (mem_at (j := 79) (by decide +kernel))⟩⟩
theorem kX10_264 : mLb RX10 264 mX10_sequenceNamed 2 0 false = true := mLb_of g0X10_sequenceNamed (mem_at (j := 1678) (by decide +kernel))
set_option maxRecDepth 100000 in
theorem g0X10_numberOf : mOk mX10_numberOf 3 0 := ⟨(mem_at (j := 1685) (by rfl)), (mem_at (j := 131) (by decide +kernel)), (by decide +kernel), (by decide +kernel), ⟨(mem_at (j := 1684) (by decide +kernel)), (mem_at (j := 80) (by decide +kernel))⟩⟩
theorem kX10_267 : mLb RX10 267 mX10_numberOf 3 0 false = true := mLb_of g0X10_numberOf (mem_at (j := 1682) (by decide +kernel))
set_option maxRecDepth 100000 in
theorem g0X10_readRef : mOk mX10_readRef 3 0 := ⟨(mem_at (j := 1689) (by rfl)), (mem_at (j := 131) (by decide +kernel)), (by decide +kernel), (by decide +kernel), ⟨(mem_at (j := 1688) (by decide +kernel)), (mem_at (j := 81) (by decide +kernel))⟩⟩
theorem kX10_271 : mLb RX10 271 mX10_readRef 3 0 false = true := mLb_of g0X10_readRef (mem_at (j := 1686) (by decide +kernel))
set_option maxRecDepth 100000 in
theorem g0X10_readRow : mOk mX10_readRow 4 0 := ⟨(mem_at (j := 1693) (by rfl)), (mem_at (j := 131) (by decide +kernel)), (by decide +kernel), (by decide +kernel), ⟨(mem_at (j := 1692) (by decide +kernel)), (mem_at (j := 82) (by decide +kernel))⟩⟩
theorem kX10_252 : mLb RX10 252 mX10_readRow 4 0 false = true := mLb_of g0X10_readRow (mem_at (j := 1690) (by decide +kernel))
set_option maxRecDepth 100000 in
theorem g0X10_refAt : mOk mX10_refAt 2 0 := ⟨(mem_at (j := 1697) (by rfl)), (mem_at (j := 131) (by decide +kernel)), (by decide +kernel), (by decide +kernel), ⟨(mem_at (j := 1696) (by decide +kernel)), (mem_at (j := 83) (by decide +kernel))⟩⟩
theorem kX10_255 : mLb RX10 255 mX10_refAt 2 0 false = true := mLb_of g0X10_refAt (mem_at (j := 1694) (by decide +kernel))
set_option maxRecDepth 100000 in
theorem g0X10_readAlts : mOk mX10_readAlts 3 0 := ⟨(mem_at (j := 1701) (by rfl)), (mem_at (j := 131) (by decide +kernel)), (by decide +kernel), (by decide +kernel), ⟨(mem_at (j := 1700) (by decide +kernel)), (mem_at (j := 84) (by decide +kernel))⟩⟩
theorem kX10_275 : mLb RX10 275 mX10_readAlts 3 0 false = true := mLb_of g0X10_readAlts (mem_at (j := 1698) (by decide +kernel))
set_option maxRecDepth 100000 in
theorem g0X10_sameRow : mOk mX10_sameRow 4 0 := ⟨(mem_at (j := 1705) (by rfl)), (mem_at (j := 131) (by decide +kernel)), (by decide +kernel), (by decide +kernel), ⟨(mem_at (j := 1704) (by decide +kernel)), (mem_at (j := 85) (by decide +kernel))⟩⟩
theorem kX10_258 : mLb RX10 258 mX10_sameRow 4 0 false = true := mLb_of g0X10_sameRow (mem_at (j := 1702) (by decide +kernel))
set_option maxRecDepth 100000 in
theorem g0X10_readCalls : mOk mX10_readCalls 4 0 := ⟨(mem_at (j := 1710) (by rfl)), (mem_at (j := 131) (by decide +kernel)), (by decide +kernel), (by decide +kernel), ⟨(mem_at (j := 1709) (by decide +kernel)), (mem_at (j := 86) (by decide +kernel))⟩⟩
theorem kX10_279 : mLb RX10 279 mX10_readCalls 4 0 false = true := mLb_of g0X10_readCalls (mem_at (j := 1707) (by decide +kernel))
set_option maxRecDepth 100000 in
theorem g0X10_callOf : mOk mX10_callOf 2 0 := ⟨(mem_at (j := 1714) (by rfl)), (mem_at (j := 131) (by decide +kernel)), (by decide +kernel), (by decide +kernel), ⟨(mem_at (j := 1713) (by decide +kernel)), (mem_at (j := 87) (by decide +kernel))⟩⟩
theorem kX10_261 : mLb RX10 261 mX10_callOf 2 0 false = true := mLb_of g0X10_callOf (mem_at (j := 1711) (by decide +kernel))
set_option maxRecDepth 100000 in
theorem g0X10_copyTable : mOk mX10_copyTable 2 0 := ⟨(mem_at (j := 1718) (by rfl)), (mem_at (j := 131) (by decide +kernel)), (by decide +kernel), (by decide +kernel), ⟨(mem_at (j := 1717) (by decide +kernel)), (mem_at (j := 88) (by decide +kernel))⟩⟩
theorem kX10_303 : mLb RX10 303 mX10_copyTable 2 0 false = true := mLb_of g0X10_copyTable (mem_at (j := 1715) (by decide +kernel))
set_option maxRecDepth 100000 in
theorem g0X10_copySample : mOk mX10_copySample 4 0 := ⟨(mem_at (j := 1722) (by rfl)), (mem_at (j := 131) (by decide +kernel)), (by decide +kernel), (by decide +kernel), ⟨(mem_at (j := 1721) (by decide +kernel)), (mem_at (j := 89) (by decide +kernel))⟩⟩
theorem kX10_194 : mLb RX10 194 mX10_copySample 4 0 false = true := mLb_of g0X10_copySample (mem_at (j := 1719) (by decide +kernel))
set_option maxRecDepth 100000 in
theorem g0X10_copy : mOk mX10_copy 2 0 := ⟨(mem_at (j := 1726) (by rfl)), (mem_at (j := 131) (by decide +kernel)), (by decide +kernel), (by decide +kernel), ⟨(mem_at (j := 1725) (by decide +kernel)), (mem_at (j := 90) (by decide +kernel))⟩⟩
theorem kX10_197 : mLb RX10 197 mX10_copy 2 0 false = true := mLb_of g0X10_copy (mem_at (j := 1723) (by decide +kernel))
set_option maxRecDepth 100000 in
theorem g0X10_copyCalls : mOk mX10_copyCalls 4 0 := ⟨(mem_at (j := 1730) (by rfl)), (mem_at (j := 131) (by decide +kernel)), (by decide +kernel), (by decide +kernel), ⟨(mem_at (j := 1729) (by decide +kernel)), (mem_at (j := 91) (by decide +kernel))⟩⟩
theorem kX10_190 : mLb RX10 190 mX10_copyCalls 4 0 false = true := mLb_of g0X10_copyCalls (mem_at (j := 1727) (by decide +kernel))
set_option maxRecDepth 100000 in
theorem g0X10_place : mOk mX10_place 0 0 := ⟨(mem_at (j := 1734) (by rfl)), (mem_at (j := 131) (by decide +kernel)), (by decide +kernel), (by decide +kernel), ⟨(mem_at (j := 1732) (by decide +kernel)), (mem_at (j := 1733) (by decide +kernel))⟩⟩
theorem kL_91 : mLb RL 91 mX10_place 0 0 false = true := mLb_of g0X10_place (mem_at (j := 1731) (by decide +kernel))
set_option maxRecDepth 100000 in
theorem g0X10_sequence : mOk mX10_sequence 2 0 := ⟨(mem_at (j := 1738) (by rfl)), (mem_at (j := 131) (by decide +kernel)), (by decide +kernel), (by decide +kernel), ⟨(mem_at (j := 1736) (by decide +kernel)), (mem_at (j := 1737) (by decide +kernel))⟩⟩
theorem kL_95 : mLb RL 95 mX10_sequence 2 0 false = true := mLb_of g0X10_sequence (mem_at (j := 1735) (by decide +kernel))
set_option maxRecDepth 100000 in
theorem g0X10_letter : mOk mX10_letter 2 0 := ⟨(mem_at (j := 1742) (by rfl)), (mem_at (j := 131) (by decide +kernel)), (by decide +kernel), (by decide +kernel), ⟨(mem_at (j := 1740) (by decide +kernel)), (mem_at (j := 1741) (by decide +kernel))⟩⟩
theorem kL_98 : mLb RL 98 mX10_letter 2 0 false = true := mLb_of g0X10_letter (mem_at (j := 1739) (by decide +kernel))
set_option maxRecDepth 100000 in
theorem g0X10_table : mOk mX10_table 2 0 := ⟨(mem_at (j := 1746) (by rfl)), (mem_at (j := 131) (by decide +kernel)), (by decide +kernel), (by decide +kernel), ⟨(mem_at (j := 1744) (by decide +kernel)), (mem_at (j := 1745) (by decide +kernel))⟩⟩
theorem kL_101 : mLb RL 101 mX10_table 2 0 false = true := mLb_of g0X10_table (mem_at (j := 1743) (by decide +kernel))
set_option maxRecDepth 100000 in
theorem g0X10_record : mOk mX10_record 3 0 := ⟨(mem_at (j := 1750) (by rfl)), (mem_at (j := 131) (by decide +kernel)), (by decide +kernel), (by decide +kernel), ⟨(mem_at (j := 1748) (by decide +kernel)), (mem_at (j := 1749) (by decide +kernel))⟩⟩
theorem kL_105 : mLb RL 105 mX10_record 3 0 false = true := mLb_of g0X10_record (mem_at (j := 1747) (by decide +kernel))
set_option maxRecDepth 100000 in
theorem g0X10_isRecord : mOk mX10_isRecord 2 0 := ⟨(mem_at (j := 1754) (by rfl)), (mem_at (j := 131) (by decide +kernel)), (by decide +kernel), (by decide +kernel), ⟨(mem_at (j := 1753) (by decide +kernel)), (mem_at (j := 92) (by decide +kernel))⟩⟩
theorem kX10_306 : mLb RX10 306 mX10_isRecord 2 0 false = true := mLb_of g0X10_isRecord (mem_at (j := 1751) (by decide +kernel))
set_option maxRecDepth 100000 in
theorem g0X10_row : mOk mX10_row 4 0 := ⟨(mem_at (j := 1758) (by rfl)), (mem_at (j := 131) (by decide +kernel)), (by decide +kernel), (by decide +kernel), ⟨(mem_at (j := 1756) (by decide +kernel)), (mem_at (j := 1757) (by decide +kernel))⟩⟩
theorem kL_109 : mLb RL 109 mX10_row 4 0 false = true := mLb_of g0X10_row (mem_at (j := 1755) (by decide +kernel))
set_option maxRecDepth 100000 in
theorem g0X10_call : mOk mX10_call 4 0 := ⟨(mem_at (j := 1762) (by rfl)), (mem_at (j := 131) (by decide +kernel)), (by decide +kernel), (by decide +kernel), ⟨(mem_at (j := 1760) (by decide +kernel)), (mem_at (j := 1761) (by decide +kernel))⟩⟩
theorem kL_112 : mLb RL 112 mX10_call 4 0 false = true := mLb_of g0X10_call (mem_at (j := 1759) (by decide +kernel))
set_option maxRecDepth 100000 in
theorem g0X10_normalise : mOk mX10_normalise 1 0 := ⟨(mem_at (j := 1766) (by rfl)), (mem_at (j := 131) (by decide +kernel)), (by decide +kernel), (by decide +kernel), ⟨(mem_at (j := 1764) (by decide +kernel)), (mem_at (j := 1765) (by decide +kernel))⟩⟩
theorem kL_115 : mLb RL 115 mX10_normalise 1 0 false = true := mLb_of g0X10_normalise (mem_at (j := 1763) (by decide +kernel))
set_option maxRecDepth 100000 in
theorem g0X10_makeNormal : mOk mX10_makeNormal 1 0 := ⟨(mem_at (j := 1770) (by rfl)), (mem_at (j := 131) (by decide +kernel)), (by decide +kernel), (by decide +kernel), ⟨(mem_at (j := 1769) (by decide +kernel)), (mem_at (j := 93) (by decide +kernel))⟩⟩
theorem kX10_328 : mLb RX10 328 mX10_makeNormal 1 0 false = true := mLb_of g0X10_makeNormal (mem_at (j := 1767) (by decide +kernel))
set_option maxRecDepth 100000 in
theorem g0X10_endAlike : mOk mX10_endAlike 1 0 := ⟨(mem_at (j := 1774) (by rfl)), (mem_at (j := 131) (by decide +kernel)), (by decide +kernel), (by decide +kernel), ⟨(mem_at (j := 1773) (by decide +kernel)), (mem_at (j := 94) (by decide +kernel))⟩⟩
theorem kX10_312 : mLb RX10 312 mX10_endAlike 1 0 false = true := mLb_of g0X10_endAlike (mem_at (j := 1771) (by decide +kernel))
set_option maxRecDepth 100000 in
theorem g0X10_lastOf : mOk mX10_lastOf 2 0 := ⟨(mem_at (j := 1778) (by rfl)), (mem_at (j := 131) (by decide +kernel)), (by decide +kernel), (by decide +kernel), ⟨(mem_at (j := 1777) (by decide +kernel)), (mem_at (j := 95) (by decide +kernel))⟩⟩
theorem kX10_309 : mLb RX10 309 mX10_lastOf 2 0 false = true := mLb_of g0X10_lastOf (mem_at (j := 1775) (by decide +kernel))
set_option maxRecDepth 100000 in
theorem g0X10_allLong : mOk mX10_allLong 1 0 := ⟨(mem_at (j := 1782) (by rfl)), (mem_at (j := 131) (by decide +kernel)), (by decide +kernel), (by decide +kernel), ⟨(mem_at (j := 1781) (by decide +kernel)), (mem_at (j := 96) (by decide +kernel))⟩⟩
theorem kX10_315 : mLb RX10 315 mX10_allLong 1 0 false = true := mLb_of g0X10_allLong (mem_at (j := 1779) (by decide +kernel))
set_option maxRecDepth 100000 in
theorem g0X10_toFront : mOk mX10_toFront 2 0 := ⟨(mem_at (j := 1786) (by rfl)), (mem_at (j := 131) (by decide +kernel)), (by decide +kernel), (by decide +kernel), ⟨(mem_at (j := 1785) (by decide +kernel)), (mem_at (j := 97) (by decide +kernel))⟩⟩
theorem kX10_318 : mLb RX10 318 mX10_toFront 2 0 false = true := mLb_of g0X10_toFront (mem_at (j := 1783) (by decide +kernel))
set_option maxRecDepth 100000 in
theorem g0X10_beginAlike : mOk mX10_beginAlike 1 0 := ⟨(mem_at (j := 1790) (by rfl)), (mem_at (j := 131) (by decide +kernel)), (by decide +kernel), (by decide +kernel), ⟨(mem_at (j := 1789) (by decide +kernel)), (mem_at (j := 98) (by decide +kernel))⟩⟩
theorem kX10_321 : mLb RX10 321 mX10_beginAlike 1 0 false = true := mLb_of g0X10_beginAlike (mem_at (j := 1787) (by decide +kernel))
set_option maxRecDepth 100000 in
theorem g0X10_fromFront : mOk mX10_fromFront 1 0 := ⟨(mem_at (j := 1794) (by rfl)), (mem_at (j := 131) (by decide +kernel)), (by decide +kernel), (by decide +kernel), ⟨(mem_at (j := 1793) (by decide +kernel)), (mem_at (j := 99) (by decide +kernel))⟩⟩
theorem kX10_324 : mLb RX10 324 mX10_fromFront 1 0 false = true := mLb_of g0X10_fromFront (mem_at (j := 1791) (by decide +kernel))
set_option maxRecDepth 100000 in
theorem g0X10_split : mOk mX10_split 1 0 := ⟨(mem_at (j := 1798) (by rfl)), (mem_at (j := 131) (by decide +kernel)), (by decide +kernel), (by decide +kernel), ⟨(mem_at (j := 1796) (by decide +kernel)), (mem_at (j := 1797) (by decide +kernel))⟩⟩
theorem kL_118 : mLb RL 118 mX10_split 1 0 false = true := mLb_of g0X10_split (mem_at (j := 1795) (by decide +kernel))
set_option maxRecDepth 100000 in
theorem g0X10_join : mOk mX10_join 1 0 := ⟨(mem_at (j := 1802) (by rfl)), (mem_at (j := 131) (by decide +kernel)), (by decide +kernel), (by decide +kernel), ⟨(mem_at (j := 1800) (by decide +kernel)), (mem_at (j := 1801) (by decide +kernel))⟩⟩
theorem kL_121 : mLb RL 121 mX10_join 1 0 false = true := mLb_of g0X10_join (mem_at (j := 1799) (by decide +kernel))
set_option maxRecDepth 100000 in
theorem g0X10_tryJoin : mOk mX10_tryJoin 3 0 := ⟨(mem_at (j := 1806) (by rfl)), (mem_at (j := 131) (by decide +kernel)), (by decide +kernel), (by decide +kernel), ⟨(mem_at (j := 1805) (by decide +kernel)), (mem_at (j := 100) (by decide +kernel))⟩⟩
theorem kX10_341 : mLb RX10 341 mX10_tryJoin 3 0 false = true := mLb_of g0X10_tryJoin (mem_at (j := 1803) (by decide +kernel))
set_option maxRecDepth 100000 in
theorem g0X10_longer : mOk mX10_longer 5 0 := ⟨(mem_at (j := 1810) (by rfl)), (mem_at (j := 131) (by decide +kernel)), (by decide +kernel), (by decide +kernel), ⟨(mem_at (j := 1809) (by decide +kernel)), (mem_at (j := 101) (by decide +kernel))⟩⟩
theorem kX10_331 : mLb RX10 331 mX10_longer 5 0 false = true := mLb_of g0X10_longer (mem_at (j := 1807) (by decide +kernel))
set_option maxRecDepth 100000 in
theorem g0X10_joinCalls : mOk mX10_joinCalls 4 0 := ⟨(mem_at (j := 1814) (by rfl)), (mem_at (j := 131) (by decide +kernel)), (by decide +kernel), (by decide +kernel), ⟨(mem_at (j := 1813) (by decide +kernel)), (mem_at (j := 102) (by decide +kernel))⟩⟩
theorem kX10_335 : mLb RX10 335 mX10_joinCalls 4 0 false = true := mLb_of g0X10_joinCalls (mem_at (j := 1811) (by decide +kernel))
set_option maxRecDepth 100000 in
theorem g0X10_callAt : mOk mX10_callAt 3 0 := ⟨(mem_at (j := 1818) (by rfl)), (mem_at (j := 131) (by decide +kernel)), (by decide +kernel), (by decide +kernel), ⟨(mem_at (j := 1817) (by decide +kernel)), (mem_at (j := 103) (by decide +kernel))⟩⟩
theorem kX10_338 : mLb RX10 338 mX10_callAt 3 0 false = true := mLb_of g0X10_callAt (mem_at (j := 1815) (by decide +kernel))
set_option maxRecDepth 100000 in
theorem g0X10_sort : mOk mX10_sort 1 0 := ⟨(mem_at (j := 1822) (by rfl)), (mem_at (j := 131) (by decide +kernel)), (by decide +kernel), (by decide +kernel), ⟨(mem_at (j := 1820) (by decide +kernel)), (mem_at (j := 1821) (by decide +kernel))⟩⟩
theorem kL_124 : mLb RL 124 mX10_sort 1 0 false = true := mLb_of g0X10_sort (mem_at (j := 1819) (by decide +kernel))
set_option maxRecDepth 100000 in
theorem g0X10_sortInto : mOk mX10_sortInto 2 0 := ⟨(mem_at (j := 1826) (by rfl)), (mem_at (j := 131) (by decide +kernel)), (by decide +kernel), (by decide +kernel), ⟨(mem_at (j := 1825) (by decide +kernel)), (mem_at (j := 104) (by decide +kernel))⟩⟩
theorem kX10_350 : mLb RX10 350 mX10_sortInto 2 0 false = true := mLb_of g0X10_sortInto (mem_at (j := 1823) (by decide +kernel))
set_option maxRecDepth 100000 in
theorem g0X10_rank : mOk mX10_rank 2 0 := ⟨(mem_at (j := 1830) (by rfl)), (mem_at (j := 131) (by decide +kernel)), (by decide +kernel), (by decide +kernel), ⟨(mem_at (j := 1829) (by decide +kernel)), (mem_at (j := 105) (by decide +kernel))⟩⟩
theorem kX10_347 : mLb RX10 347 mX10_rank 2 0 false = true := mLb_of g0X10_rank (mem_at (j := 1827) (by decide +kernel))
set_option maxRecDepth 100000 in
theorem g0X10_isBefore : mOk mX10_isBefore 2 0 := ⟨(mem_at (j := 1834) (by rfl)), (mem_at (j := 131) (by decide +kernel)), (by decide +kernel), (by decide +kernel), ⟨(mem_at (j := 1833) (by decide +kernel)), (mem_at (j := 106) (by decide +kernel))⟩⟩
theorem kX10_344 : mLb RX10 344 mX10_isBefore 2 0 false = true := mLb_of g0X10_isBefore (mem_at (j := 1831) (by decide +kernel))
set_option maxRecDepth 100000 in
theorem g0X10_merge : mOk mX10_merge 0 0 := ⟨(mem_at (j := 1838) (by rfl)), (mem_at (j := 131) (by decide +kernel)), (by decide +kernel), (by decide +kernel), ⟨(mem_at (j := 1836) (by decide +kernel)), (mem_at (j := 1837) (by decide +kernel))⟩⟩
theorem kL_128 : mLb RL 128 mX10_merge 0 0 false = true := mLb_of g0X10_merge (mem_at (j := 1835) (by decide +kernel))
set_option maxRecDepth 100000 in
theorem g0X10_sameRecord : mOk mX10_sameRecord 2 0 := ⟨(mem_at (j := 1842) (by rfl)), (mem_at (j := 131) (by decide +kernel)), (by decide +kernel), (by decide +kernel), ⟨(mem_at (j := 1841) (by decide +kernel)), (mem_at (j := 107) (by decide +kernel))⟩⟩
theorem kX10_353 : mLb RX10 353 mX10_sameRecord 2 0 false = true := mLb_of g0X10_sameRecord (mem_at (j := 1839) (by decide +kernel))
set_option maxRecDepth 100000 in
theorem g0X10_noCalls : mOk mX10_noCalls 2 0 := ⟨(mem_at (j := 1846) (by rfl)), (mem_at (j := 131) (by decide +kernel)), (by decide +kernel), (by decide +kernel), ⟨(mem_at (j := 1845) (by decide +kernel)), (mem_at (j := 108) (by decide +kernel))⟩⟩
theorem kX10_356 : mLb RX10 356 mX10_noCalls 2 0 false = true := mLb_of g0X10_noCalls (mem_at (j := 1843) (by decide +kernel))
set_option maxRecDepth 100000 in
theorem g0X10_apply : mOk mX10_apply 4 0 := ⟨(mem_at (j := 1850) (by rfl)), (mem_at (j := 131) (by decide +kernel)), (by decide +kernel), (by decide +kernel), ⟨(mem_at (j := 1848) (by decide +kernel)), (mem_at (j := 1849) (by decide +kernel))⟩⟩
theorem kL_131 : mLb RL 131 mX10_apply 4 0 false = true := mLb_of g0X10_apply (mem_at (j := 1847) (by decide +kernel))
set_option maxRecDepth 100000 in
theorem g0X10_nextCalled : mOk mX10_nextCalled 5 0 := ⟨(mem_at (j := 1854) (by rfl)), (mem_at (j := 131) (by decide +kernel)), (by decide +kernel), (by decide +kernel), ⟨(mem_at (j := 1853) (by decide +kernel)), (mem_at (j := 109) (by decide +kernel))⟩⟩
theorem kX10_365 : mLb RX10 365 mX10_nextCalled 5 0 false = true := mLb_of g0X10_nextCalled (mem_at (j := 1851) (by decide +kernel))
set_option maxRecDepth 100000 in
theorem g0X10_add : mOk mX10_add 2 0 := ⟨(mem_at (j := 1858) (by rfl)), (mem_at (j := 131) (by decide +kernel)), (by decide +kernel), (by decide +kernel), ⟨(mem_at (j := 1857) (by decide +kernel)), (mem_at (j := 110) (by decide +kernel))⟩⟩
theorem kX10_362 : mLb RX10 362 mX10_add 2 0 false = true := mLb_of g0X10_add (mem_at (j := 1855) (by decide +kernel))
set_option maxRecDepth 100000 in
theorem g0X10_addRow : mOk mX10_addRow 2 0 := ⟨(mem_at (j := 1862) (by rfl)), (mem_at (j := 131) (by decide +kernel)), (by decide +kernel), (by decide +kernel), ⟨(mem_at (j := 1861) (by decide +kernel)), (mem_at (j := 111) (by decide +kernel))⟩⟩
theorem kX10_369 : mLb RX10 369 mX10_addRow 2 0 false = true := mLb_of g0X10_addRow (mem_at (j := 1859) (by decide +kernel))
set_option maxRecDepth 100000 in
theorem g0X10_calledMany : mOk mX10_calledMany 4 0 := ⟨(mem_at (j := 1866) (by rfl)), (mem_at (j := 131) (by decide +kernel)), (by decide +kernel), (by decide +kernel), ⟨(mem_at (j := 1865) (by decide +kernel)), (mem_at (j := 112) (by decide +kernel))⟩⟩
theorem kX10_372 : mLb RX10 372 mX10_calledMany 4 0 false = true := mLb_of g0X10_calledMany (mem_at (j := 1863) (by decide +kernel))
set_option maxRecDepth 100000 in
theorem g0X10_carried : mOk mX10_carried 1 0 := ⟨(mem_at (j := 1870) (by rfl)), (mem_at (j := 131) (by decide +kernel)), (by decide +kernel), (by decide +kernel), ⟨(mem_at (j := 1868) (by decide +kernel)), (mem_at (j := 1869) (by decide +kernel))⟩⟩
theorem kL_135 : mLb RL 135 mX10_carried 1 0 false = true := mLb_of g0X10_carried (mem_at (j := 1867) (by decide +kernel))
set_option maxRecDepth 100000 in
theorem g0X10_back : mOk mX10_back 1 0 := ⟨(mem_at (j := 1874) (by rfl)), (mem_at (j := 131) (by decide +kernel)), (by decide +kernel), (by decide +kernel), ⟨(mem_at (j := 1872) (by decide +kernel)), (mem_at (j := 1873) (by decide +kernel))⟩⟩
theorem kL_139 : mLb RL 139 mX10_back 1 0 false = true := mLb_of g0X10_back (mem_at (j := 1871) (by decide +kernel))
set_option maxRecDepth 100000 in
theorem g0X10_same : mOk mX10_same 4 0 := ⟨(mem_at (j := 1878) (by rfl)), (mem_at (j := 131) (by decide +kernel)), (by decide +kernel), (by decide +kernel), ⟨(mem_at (j := 1876) (by decide +kernel)), (mem_at (j := 1877) (by decide +kernel))⟩⟩
theorem kL_142 : mLb RL 142 mX10_same 4 0 false = true := mLb_of g0X10_same (mem_at (j := 1875) (by decide +kernel))
set_option maxRecDepth 100000 in
theorem g0X10_lengthWith : mOk mX10_lengthWith 1 0 := ⟨(mem_at (j := 1882) (by rfl)), (mem_at (j := 131) (by decide +kernel)), (by decide +kernel), (by decide +kernel), ⟨(mem_at (j := 1881) (by decide +kernel)), (mem_at (j := 113) (by decide +kernel))⟩⟩
theorem kX10_385 : mLb RX10 385 mX10_lengthWith 1 0 false = true := mLb_of g0X10_lengthWith (mem_at (j := 1879) (by decide +kernel))
set_option maxRecDepth 100000 in
theorem g0X10_letterWith : mOk mX10_letterWith 2 0 := ⟨(mem_at (j := 1886) (by rfl)), (mem_at (j := 131) (by decide +kernel)), (by decide +kernel), (by decide +kernel), ⟨(mem_at (j := 1885) (by decide +kernel)), (mem_at (j := 114) (by decide +kernel))⟩⟩
theorem kX10_388 : mLb RX10 388 mX10_letterWith 2 0 false = true := mLb_of g0X10_letterWith (mem_at (j := 1883) (by decide +kernel))
set_option maxRecDepth 100000 in
theorem g0X10_write : mOk mX10_write 1 0 := ⟨(mem_at (j := 1890) (by rfl)), (mem_at (j := 131) (by decide +kernel)), (by decide +kernel), (by decide +kernel), ⟨(mem_at (j := 1888) (by decide +kernel)), (mem_at (j := 1889) (by decide +kernel))⟩⟩
theorem kL_145 : mLb RL 145 mX10_write 1 0 false = true := mLb_of g0X10_write (mem_at (j := 1887) (by decide +kernel))
set_option maxRecDepth 100000 in
theorem g0X10_putText : mOk mX10_putText 1 0 := ⟨(mem_at (j := 1894) (by rfl)), (mem_at (j := 131) (by decide +kernel)), (by decide +kernel), (by decide +kernel), ⟨(mem_at (j := 1893) (by decide +kernel)), (mem_at (j := 115) (by decide +kernel))⟩⟩
theorem kX10_403 : mLb RX10 403 mX10_putText 1 0 false = true := mLb_of g0X10_putText (mem_at (j := 1891) (by decide +kernel))
set_option maxRecDepth 100000 in
theorem g0X10_put : mOk mX10_put 1 0 := ⟨(mem_at (j := 1898) (by rfl)), (mem_at (j := 131) (by decide +kernel)), (by decide +kernel), (by decide +kernel), ⟨(mem_at (j := 1897) (by decide +kernel)), (mem_at (j := 116) (by decide +kernel))⟩⟩
theorem kX10_394 : mLb RX10 394 mX10_put 1 0 false = true := mLb_of g0X10_put (mem_at (j := 1895) (by decide +kernel))
set_option maxRecDepth 100000 in
theorem g0X10_putRecord : mOk mX10_putRecord 2 0 := ⟨(mem_at (j := 1902) (by rfl)), (mem_at (j := 131) (by decide +kernel)), (by decide +kernel), (by decide +kernel), ⟨(mem_at (j := 1901) (by decide +kernel)), (mem_at (j := 117) (by decide +kernel))⟩⟩
theorem kX10_409 : mLb RX10 409 mX10_putRecord 2 0 false = true := mLb_of g0X10_putRecord (mem_at (j := 1899) (by decide +kernel))
set_option maxRecDepth 100000 in
theorem g0X10_putNumber : mOk mX10_putNumber 1 0 := ⟨(mem_at (j := 1906) (by rfl)), (mem_at (j := 131) (by decide +kernel)), (by decide +kernel), (by decide +kernel), ⟨(mem_at (j := 1905) (by decide +kernel)), (mem_at (j := 118) (by decide +kernel))⟩⟩
theorem kX10_397 : mLb RX10 397 mX10_putNumber 1 0 false = true := mLb_of g0X10_putNumber (mem_at (j := 1903) (by decide +kernel))
set_option maxRecDepth 100000 in
theorem g0X10_putRow : mOk mX10_putRow 2 0 := ⟨(mem_at (j := 1910) (by rfl)), (mem_at (j := 131) (by decide +kernel)), (by decide +kernel), (by decide +kernel), ⟨(mem_at (j := 1909) (by decide +kernel)), (mem_at (j := 119) (by decide +kernel))⟩⟩
theorem kX10_400 : mLb RX10 400 mX10_putRow 2 0 false = true := mLb_of g0X10_putRow (mem_at (j := 1907) (by decide +kernel))
set_option maxRecDepth 100000 in
theorem g0X10_putCall : mOk mX10_putCall 1 0 := ⟨(mem_at (j := 1914) (by rfl)), (mem_at (j := 131) (by decide +kernel)), (by decide +kernel), (by decide +kernel), ⟨(mem_at (j := 1913) (by decide +kernel)), (mem_at (j := 120) (by decide +kernel))⟩⟩
theorem kX10_406 : mLb RX10 406 mX10_putCall 1 0 false = true := mLb_of g0X10_putCall (mem_at (j := 1911) (by decide +kernel))
set_option maxRecDepth 100000 in
theorem g0X10_out : mOk mX10_out 1 0 := ⟨(mem_at (j := 1918) (by rfl)), (mem_at (j := 131) (by decide +kernel)), (by decide +kernel), (by decide +kernel), ⟨(mem_at (j := 1916) (by decide +kernel)), (mem_at (j := 1917) (by decide +kernel))⟩⟩
theorem kL_149 : mLb RL 149 mX10_out 1 0 false = true := mLb_of g0X10_out (mem_at (j := 1915) (by decide +kernel))
set_option maxRecDepth 100000 in
theorem g0X10_again : mOk mX10_again 0 0 := ⟨(mem_at (j := 1922) (by rfl)), (mem_at (j := 131) (by decide +kernel)), (by decide +kernel), (by decide +kernel), ⟨(mem_at (j := 1920) (by decide +kernel)), (mem_at (j := 1921) (by decide +kernel))⟩⟩
theorem kL_153 : mLb RL 153 mX10_again 0 0 false = true := mLb_of g0X10_again (mem_at (j := 1919) (by decide +kernel))
set_option maxRecDepth 100000 in
theorem g2X6_init : mOk mX6_init 0 2 := ⟨(mem_at (j := 156) (by rfl)), (mem_at (j := 123) (by decide +kernel)), (by decide +kernel), (by decide +kernel), ⟨(by decide +kernel), (mem_at (j := 155) (by decide +kernel))⟩⟩
theorem kX9_9 : mLb RX9 9 mX6_init 0 2 true = true := mLb_of g2X6_init (mem_at (j := 154) (by decide +kernel))
set_option maxRecDepth 100000 in
theorem g2X1_init : mOk mX1_init 0 2 := ⟨(mem_at (j := 178) (by rfl)), (mem_at (j := 124) (by decide +kernel)), (by decide +kernel), (by decide +kernel), ⟨(by decide +kernel), (mem_at (j := 177) (by decide +kernel))⟩⟩
theorem kX9_24 : mLb RX9 24 mX1_init 0 2 true = true := mLb_of g2X1_init (mem_at (j := 176) (by decide +kernel))
set_option maxRecDepth 100000 in
theorem g2X0_init : mOk mX0_init 0 2 := ⟨(mem_at (j := 254) (by rfl)), (mem_at (j := 128) (by decide +kernel)), (by decide +kernel), (by decide +kernel), ⟨(by decide +kernel), (mem_at (j := 253) (by decide +kernel))⟩⟩
theorem kX7_26 : mLb RX7 26 mX0_init 0 2 true = true := mLb_of g2X0_init (mem_at (j := 252) (by decide +kernel))
set_option maxRecDepth 100000 in
theorem g2X4_init : mOk mX4_init 0 2 := ⟨(mem_at (j := 348) (by rfl)), (mem_at (j := 129) (by decide +kernel)), (by decide +kernel), (by decide +kernel), ⟨(by decide +kernel), (mem_at (j := 347) (by decide +kernel))⟩⟩
theorem kX9_45 : mLb RX9 45 mX4_init 0 2 true = true := mLb_of g2X4_init (mem_at (j := 346) (by decide +kernel))
theorem kX4_11 : mLb RX4 11 mX0_init 0 2 true = true := mLb_of g2X0_init (mem_at (j := 351) (by decide +kernel))
set_option maxRecDepth 100000 in
theorem g2X3_init : mOk mX3_init 0 2 := ⟨(mem_at (j := 366) (by rfl)), (mem_at (j := 130) (by decide +kernel)), (by decide +kernel), (by decide +kernel), ⟨(by decide +kernel), (mem_at (j := 365) (by decide +kernel))⟩⟩
theorem kX9_52 : mLb RX9 52 mX3_init 0 2 true = true := mLb_of g2X3_init (mem_at (j := 364) (by decide +kernel))
set_option maxRecDepth 100000 in
theorem g1X9_letterOf : mOk mX9_letterOf 1 1 := ⟨(mem_at (j := 538) (by rfl)), (mem_at (j := 122) (by decide +kernel)), (by decide +kernel), (by decide +kernel), (mem_at (j := 537) (by decide +kernel))⟩
theorem kX2_68 : mLb RX2 68 mX9_letterOf 1 1 true = true := mLb_of g1X9_letterOf (mem_at (j := 536) (by decide +kernel))
theorem kX8_201 : mLb RX8 201 mX9_letterOf 1 1 true = true := mLb_of g1X9_letterOf (mem_at (j := 999) (by decide +kernel))
