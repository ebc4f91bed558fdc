theorem ms_J6_bitCount_0f7a4 : MS yJ6_bitCount_0f7a4 cJ6_bitCount_0f7a4 1 (some .int) 1 := ⟨by decide, ⟨in_lwg (i := 524) (by decide +kernel) rfl, in_lwg (i := 85) (by decide +kernel) rfl, in_lwg (i := 525) (by decide +kernel) rfl⟩, by decide +kernel, by decide +kernel, by decide +kernel⟩
theorem ms_J7_fill_53178 : MS yJ7_fill_53178 cJ7_fill_53178 4 none 2 := ⟨by decide, ⟨in_lwg (i := 106) (by decide +kernel) rfl, in_lwg (i := 77) (by decide +kernel) rfl, in_lwg (i := 107) (by decide +kernel) rfl⟩, by decide +kernel, by decide +kernel, by decide +kernel⟩
theorem ms_J7_fill_d0a16 : MS yJ7_fill_d0a16 cJ7_fill_d0a16 5 none 2 := ⟨by decide, ⟨in_lwg (i := 795) (by decide +kernel) rfl, in_lwg (i := 77) (by decide +kernel) rfl, in_lwg (i := 796) (by decide +kernel) rfl⟩, by decide +kernel, by decide +kernel, by decide +kernel⟩
theorem ms_J9_max_7cf53 : MS yJ9_max_7cf53 cJ9_max_7cf53 2 (some .int) 2 := ⟨by decide, ⟨in_lwg (i := 101) (by decide +kernel) rfl, in_lwg (i := 76) (by decide +kernel) rfl, in_lwg (i := 102) (by decide +kernel) rfl⟩, by decide +kernel, by decide +kernel, by decide +kernel⟩
theorem ms_J9_min_7cf53 : MS yJ9_min_7cf53 cJ9_min_7cf53 2 (some .int) 2 := ⟨by decide, ⟨in_lwg (i := 777) (by decide +kernel) rfl, in_lwg (i := 76) (by decide +kernel) rfl, in_lwg (i := 778) (by decide +kernel) rfl⟩, by decide +kernel, by decide +kernel, by decide +kernel⟩
theorem ms_X0_commonDivisor : MS yX0_commonDivisor cX0_commonDivisor 11 (some .long) 2 := ⟨by decide, ⟨in_lwg (i := 803) (by decide +kernel) rfl, in_lwg (i := 82) (by decide +kernel) rfl, in_lwg (i := 804) (by decide +kernel) rfl⟩, by decide +kernel, by decide +kernel, by decide +kernel⟩
theorem mw_X0_spread : MW 0 yX0_spread cX0_spread 5 none 2 := ⟨by decide, ⟨in_lwg (i := 792) (by decide +kernel) rfl, in_lwg (i := 27) (by decide +kernel) rfl, in_lwg (i := 82) (by decide +kernel) rfl, in_lwg (i := 793) (by decide +kernel) rfl⟩, ⟨_, rfl, rfl⟩, by decide +kernel, by decide +kernel, by decide +kernel⟩
theorem mw_X0_tellInLowestTerms : MW 0 yX0_tellInLowestTerms cX0_tellInLowestTerms 7 none 2 := ⟨by decide, ⟨in_lwg (i := 800) (by decide +kernel) rfl, in_lwg (i := 28) (by decide +kernel) rfl, in_lwg (i := 82) (by decide +kernel) rfl, in_lwg (i := 801) (by decide +kernel) rfl⟩, ⟨_, rfl, rfl⟩, by decide +kernel, by decide +kernel, by decide +kernel⟩
theorem mw_X0_tellMean : MW 0 yX0_tellMean cX0_tellMean 3 none 2 := ⟨by decide, ⟨in_lwg (i := 810) (by decide +kernel) rfl, in_lwg (i := 811) (by decide +kernel) rfl, in_lwg (i := 82) (by decide +kernel) rfl, in_lwg (i := 812) (by decide +kernel) rfl⟩, ⟨_, rfl, rfl⟩, by decide +kernel, by decide +kernel, by decide +kernel⟩
theorem mw_X0_tellNearer : MW 0 yX0_tellNearer cX0_tellNearer 9 none 3 := ⟨by decide, ⟨in_lwg (i := 787) (by decide +kernel) rfl, in_lwg (i := 788) (by decide +kernel) rfl, in_lwg (i := 82) (by decide +kernel) rfl, in_lwg (i := 789) (by decide +kernel) rfl⟩, ⟨_, rfl, rfl⟩, by decide +kernel, by decide +kernel, by decide +kernel⟩
theorem ms_X1_kindOf : MS yX1_kindOf cX1_kindOf 2 (some .int) 1 := ⟨by decide, ⟨in_lwg (i := 466) (by decide +kernel) rfl, in_lwg (i := 79) (by decide +kernel) rfl, in_lwg (i := 467) (by decide +kernel) rfl⟩, by decide +kernel, by decide +kernel, by decide +kernel⟩
theorem mw_X1_read : MW 1 yX1_read cX1_read 4 (some .int) 2 := ⟨by decide, ⟨in_lwg (i := 438) (by decide +kernel) rfl, in_lwg (i := 439) (by decide +kernel) rfl, in_lwg (i := 79) (by decide +kernel) rfl, in_lwg (i := 440) (by decide +kernel) rfl⟩, ⟨_, rfl, rfl⟩, by decide +kernel, by decide +kernel, by decide +kernel⟩
theorem mw_X1_readFigure : MW 1 yX1_readFigure cX1_readFigure 5 (some .int) 3 := ⟨by decide, ⟨in_lwg (i := 459) (by decide +kernel) rfl, in_lwg (i := 8) (by decide +kernel) rfl, in_lwg (i := 79) (by decide +kernel) rfl, in_lwg (i := 460) (by decide +kernel) rfl⟩, ⟨_, rfl, rfl⟩, by decide +kernel, by decide +kernel, by decide +kernel⟩
theorem mw_X1_readHead : MW 1 yX1_readHead cX1_readHead 3 (some .boolean) 2 := ⟨by decide, ⟨in_lwg (i := 451) (by decide +kernel) rfl, in_lwg (i := 6) (by decide +kernel) rfl, in_lwg (i := 79) (by decide +kernel) rfl, in_lwg (i := 452) (by decide +kernel) rfl⟩, ⟨_, rfl, rfl⟩, by decide +kernel, by decide +kernel, by decide +kernel⟩
theorem mw_X1_readShip : MW 1 yX1_readShip cX1_readShip 4 (some .boolean) 2 := ⟨by decide, ⟨in_lwg (i := 463) (by decide +kernel) rfl, in_lwg (i := 9) (by decide +kernel) rfl, in_lwg (i := 79) (by decide +kernel) rfl, in_lwg (i := 464) (by decide +kernel) rfl⟩, ⟨_, rfl, rfl⟩, by decide +kernel, by decide +kernel, by decide +kernel⟩
theorem mw_X1_readTwoFigures : MW 1 yX1_readTwoFigures cX1_readTwoFigures 5 (some .int) 2 := ⟨by decide, ⟨in_lwg (i := 455) (by decide +kernel) rfl, in_lwg (i := 7) (by decide +kernel) rfl, in_lwg (i := 79) (by decide +kernel) rfl, in_lwg (i := 456) (by decide +kernel) rfl⟩, ⟨_, rfl, rfl⟩, by decide +kernel, by decide +kernel, by decide +kernel⟩
theorem mw_X1_signHere : MW 1 yX1_signHere cX1_signHere 3 (some .int) 2 := ⟨by decide, ⟨in_lwg (i := 447) (by decide +kernel) rfl, in_lwg (i := 5) (by decide +kernel) rfl, in_lwg (i := 79) (by decide +kernel) rfl, in_lwg (i := 448) (by decide +kernel) rfl⟩, ⟨_, rfl, rfl⟩, by decide +kernel, by decide +kernel, by decide +kernel⟩
theorem mw_X1_skipBlanks : MW 1 yX1_skipBlanks cX1_skipBlanks 4 none 2 := ⟨by decide, ⟨in_lwg (i := 443) (by decide +kernel) rfl, in_lwg (i := 4) (by decide +kernel) rfl, in_lwg (i := 79) (by decide +kernel) rfl, in_lwg (i := 444) (by decide +kernel) rfl⟩, ⟨_, rfl, rfl⟩, by decide +kernel, by decide +kernel, by decide +kernel⟩
theorem mw_X2_ageAs : MW 2 yX2_ageAs cX2_ageAs 4 (some .int) 3 := ⟨by decide, ⟨in_lwg (i := 485) (by decide +kernel) rfl, in_lwg (i := 486) (by decide +kernel) rfl, in_lwg (i := 78) (by decide +kernel) rfl, in_lwg (i := 487) (by decide +kernel) rfl⟩, ⟨_, rfl, rfl⟩, by decide +kernel, by decide +kernel, by decide +kernel⟩
theorem ms_X2_ageBy : MS yX2_ageBy cX2_ageBy 4 (some .int) 4 := ⟨by decide, ⟨in_lwg (i := 497) (by decide +kernel) rfl, in_lwg (i := 78) (by decide +kernel) rfl, in_lwg (i := 498) (by decide +kernel) rfl⟩, by decide +kernel, by decide +kernel, by decide +kernel⟩
theorem mw_X2_ageIfBuilt : MW 2 yX2_ageIfBuilt cX2_ageIfBuilt 3 (some .int) 2 := ⟨by decide, ⟨in_lwg (i := 713) (by decide +kernel) rfl, in_lwg (i := 714) (by decide +kernel) rfl, in_lwg (i := 78) (by decide +kernel) rfl, in_lwg (i := 715) (by decide +kernel) rfl⟩, ⟨_, rfl, rfl⟩, by decide +kernel, by decide +kernel, by decide +kernel⟩
theorem mw_X2_ageIn : MW 2 yX2_ageIn cX2_ageIn 3 (some .int) 2 := ⟨by decide, ⟨in_lwg (i := 548) (by decide +kernel) rfl, in_lwg (i := 549) (by decide +kernel) rfl, in_lwg (i := 78) (by decide +kernel) rfl, in_lwg (i := 550) (by decide +kernel) rfl⟩, ⟨_, rfl, rfl⟩, by decide +kernel, by decide +kernel, by decide +kernel⟩
theorem mw_X2_ageWithTea : MW 2 yX2_ageWithTea cX2_ageWithTea 3 (some .int) 2 := ⟨by decide, ⟨in_lwg (i := 721) (by decide +kernel) rfl, in_lwg (i := 722) (by decide +kernel) rfl, in_lwg (i := 78) (by decide +kernel) rfl, in_lwg (i := 723) (by decide +kernel) rfl⟩, ⟨_, rfl, rfl⟩, by decide +kernel, by decide +kernel, by decide +kernel⟩
theorem mw_X2_aheadIn : MW 2 yX2_aheadIn cX2_aheadIn 6 (some .int) 3 := ⟨by decide, ⟨in_lwg (i := 545) (by decide +kernel) rfl, in_lwg (i := 12) (by decide +kernel) rfl, in_lwg (i := 78) (by decide +kernel) rfl, in_lwg (i := 546) (by decide +kernel) rfl⟩, ⟨_, rfl, rfl⟩, by decide +kernel, by decide +kernel, by decide +kernel⟩
theorem mw_X2_alike : MW 2 yX2_alike cX2_alike 7 (some .int) 4 := ⟨by decide, ⟨in_lwg (i := 755) (by decide +kernel) rfl, in_lwg (i := 24) (by decide +kernel) rfl, in_lwg (i := 78) (by decide +kernel) rfl, in_lwg (i := 756) (by decide +kernel) rfl⟩, ⟨_, rfl, rfl⟩, by decide +kernel, by decide +kernel, by decide +kernel⟩
theorem mw_X2_allAground : MW 2 yX2_allAground cX2_allAground 3 (some .int) 0 := ⟨by decide, ⟨in_lwg (i := 841) (by decide +kernel) rfl, in_lwg (i := 842) (by decide +kernel) rfl, in_lwg (i := 78) (by decide +kernel) rfl, in_lwg (i := 843) (by decide +kernel) rfl⟩, ⟨_, rfl, rfl⟩, by decide +kernel, by decide +kernel, by decide +kernel⟩
theorem mw_X2_begin : MW 2 yX2_begin cX2_begin 1 none 0 := ⟨by decide, ⟨in_lwg (i := 476) (by decide +kernel) rfl, in_lwg (i := 477) (by decide +kernel) rfl, in_lwg (i := 78) (by decide +kernel) rfl, in_lwg (i := 478) (by decide +kernel) rfl⟩, ⟨_, rfl, rfl⟩, by decide +kernel, by decide +kernel, by decide +kernel⟩
theorem mw_X2_bells : MW 2 yX2_bells cX2_bells 3 (some .int) 0 := ⟨by decide, ⟨in_lwg (i := 845) (by decide +kernel) rfl, in_lwg (i := 846) (by decide +kernel) rfl, in_lwg (i := 78) (by decide +kernel) rfl, in_lwg (i := 847) (by decide +kernel) rfl⟩, ⟨_, rfl, rfl⟩, by decide +kernel, by decide +kernel, by decide +kernel⟩
theorem mw_X2_berthIn : MW 2 yX2_berthIn cX2_berthIn 4 (some .int) 3 := ⟨by decide, ⟨in_lwg (i := 705) (by decide +kernel) rfl, in_lwg (i := 706) (by decide +kernel) rfl, in_lwg (i := 78) (by decide +kernel) rfl, in_lwg (i := 707) (by decide +kernel) rfl⟩, ⟨_, rfl, rfl⟩, by decide +kernel, by decide +kernel, by decide +kernel⟩
theorem mw_X2_berthNow : MW 2 yX2_berthNow cX2_berthNow 2 (some .int) 1 := ⟨by decide, ⟨in_lwg (i := 520) (by decide +kernel) rfl, in_lwg (i := 521) (by decide +kernel) rfl, in_lwg (i := 78) (by decide +kernel) rfl, in_lwg (i := 522) (by decide +kernel) rfl⟩, ⟨_, rfl, rfl⟩, by decide +kernel, by decide +kernel, by decide +kernel⟩
theorem mw_X2_doDeed : MW 2 yX2_doDeed cX2_doDeed 3 (some .int) 2 := ⟨by decide, ⟨in_lwg (i := 574) (by decide +kernel) rfl, in_lwg (i := 575) (by decide +kernel) rfl, in_lwg (i := 78) (by decide +kernel) rfl, in_lwg (i := 576) (by decide +kernel) rfl⟩, ⟨_, rfl, rfl⟩, by decide +kernel, by decide +kernel, by decide +kernel⟩
theorem mw_X2_fact : MW 2 yX2_fact cX2_fact 3 (some .int) 2 := ⟨by decide, ⟨in_lwg (i := 512) (by decide +kernel) rfl, in_lwg (i := 513) (by decide +kernel) rfl, in_lwg (i := 78) (by decide +kernel) rfl, in_lwg (i := 514) (by decide +kernel) rfl⟩, ⟨_, rfl, rfl⟩, by decide +kernel, by decide +kernel, by decide +kernel⟩
theorem mw_X2_greatestPart : MW 2 yX2_greatestPart cX2_greatestPart 6 (some .int) 3 := ⟨by decide, ⟨in_lwg (i := 750) (by decide +kernel) rfl, in_lwg (i := 751) (by decide +kernel) rfl, in_lwg (i := 78) (by decide +kernel) rfl, in_lwg (i := 752) (by decide +kernel) rfl⟩, ⟨_, rfl, rfl⟩, by decide +kernel, by decide +kernel, by decide +kernel⟩
theorem mw_X2_hasHoursFor : MW 2 yX2_hasHoursFor cX2_hasHoursFor 2 (some .boolean) 1 := ⟨by decide, ⟨in_lwg (i := 566) (by decide +kernel) rfl, in_lwg (i := 567) (by decide +kernel) rfl, in_lwg (i := 78) (by decide +kernel) rfl, in_lwg (i := 568) (by decide +kernel) rfl⟩, ⟨_, rfl, rfl⟩, by decide +kernel, by decide +kernel, by decide +kernel⟩
theorem mw_X2_hasPaid : MW 2 yX2_hasPaid cX2_hasPaid 2 (some .boolean) 1 := ⟨by decide, ⟨in_lwg (i := 493) (by decide +kernel) rfl, in_lwg (i := 494) (by decide +kernel) rfl, in_lwg (i := 78) (by decide +kernel) rfl, in_lwg (i := 495) (by decide +kernel) rfl⟩, ⟨_, rfl, rfl⟩, by decide +kernel, by decide +kernel, by decide +kernel⟩
theorem mw_X2_isAhead : MW 2 yX2_isAhead cX2_isAhead 5 (some .boolean) 4 := ⟨by decide, ⟨in_lwg (i := 501) (by decide +kernel) rfl, in_lwg (i := 11) (by decide +kernel) rfl, in_lwg (i := 78) (by decide +kernel) rfl, in_lwg (i := 502) (by decide +kernel) rfl⟩, ⟨_, rfl, rfl⟩, by decide +kernel, by decide +kernel, by decide +kernel⟩
theorem mw_X2_isEmpty : MW 2 yX2_isEmpty cX2_isEmpty 1 (some .boolean) 0 := ⟨by decide, ⟨in_lwg (i := 611) (by decide +kernel) rfl, in_lwg (i := 612) (by decide +kernel) rfl, in_lwg (i := 78) (by decide +kernel) rfl, in_lwg (i := 613) (by decide +kernel) rfl⟩, ⟨_, rfl, rfl⟩, by decide +kernel, by decide +kernel, by decide +kernel⟩
theorem mw_X2_isIn : MW 2 yX2_isIn cX2_isIn 2 (some .boolean) 1 := ⟨by decide, ⟨in_lwg (i := 516) (by decide +kernel) rfl, in_lwg (i := 517) (by decide +kernel) rfl, in_lwg (i := 78) (by decide +kernel) rfl, in_lwg (i := 518) (by decide +kernel) rfl⟩, ⟨_, rfl, rfl⟩, by decide +kernel, by decide +kernel, by decide +kernel⟩
theorem mw_X2_isOf : MW 2 yX2_isOf cX2_isOf 3 (some .boolean) 2 := ⟨by decide, ⟨in_lwg (i := 534) (by decide +kernel) rfl, in_lwg (i := 535) (by decide +kernel) rfl, in_lwg (i := 78) (by decide +kernel) rfl, in_lwg (i := 536) (by decide +kernel) rfl⟩, ⟨_, rfl, rfl⟩, by decide +kernel, by decide +kernel, by decide +kernel⟩
theorem mw_X2_isShip : MW 2 yX2_isShip cX2_isShip 2 (some .boolean) 1 := ⟨by decide, ⟨in_lwg (i := 508) (by decide +kernel) rfl, in_lwg (i := 509) (by decide +kernel) rfl, in_lwg (i := 78) (by decide +kernel) rfl, in_lwg (i := 510) (by decide +kernel) rfl⟩, ⟨_, rfl, rfl⟩, by decide +kernel, by decide +kernel, by decide +kernel⟩
theorem mw_X2_markOf : MW 2 yX2_markOf cX2_markOf 4 (some .int) 2 := ⟨by decide, ⟨in_lwg (i := 540) (by decide +kernel) rfl, in_lwg (i := 541) (by decide +kernel) rfl, in_lwg (i := 78) (by decide +kernel) rfl, in_lwg (i := 542) (by decide +kernel) rfl⟩, ⟨_, rfl, rfl⟩, by decide +kernel, by decide +kernel, by decide +kernel⟩
theorem mw_X2_move : MW 2 yX2_move cX2_move 3 (some .int) 1 := ⟨by decide, ⟨in_lwg (i := 579) (by decide +kernel) rfl, in_lwg (i := 14) (by decide +kernel) rfl, in_lwg (i := 78) (by decide +kernel) rfl, in_lwg (i := 580) (by decide +kernel) rfl⟩, ⟨_, rfl, rfl⟩, by decide +kernel, by decide +kernel, by decide +kernel⟩
theorem ms_X2_past : MS yX2_past cX2_past 2 (some .int) 2 := ⟨by decide, ⟨in_lwg (i := 489) (by decide +kernel) rfl, in_lwg (i := 78) (by decide +kernel) rfl, in_lwg (i := 490) (by decide +kernel) rfl⟩, by decide +kernel, by decide +kernel, by decide +kernel⟩
theorem mw_X2_replay : MW 2 yX2_replay cX2_replay 4 none 2 := ⟨by decide, ⟨in_lwg (i := 623) (by decide +kernel) rfl, in_lwg (i := 624) (by decide +kernel) rfl, in_lwg (i := 78) (by decide +kernel) rfl, in_lwg (i := 625) (by decide +kernel) rfl⟩, ⟨_, rfl, rfl⟩, by decide +kernel, by decide +kernel, by decide +kernel⟩
theorem mw_X2_runAground : MW 2 yX2_runAground cX2_runAground 3 (some .int) 1 := ⟨by decide, ⟨in_lwg (i := 591) (by decide +kernel) rfl, in_lwg (i := 15) (by decide +kernel) rfl, in_lwg (i := 78) (by decide +kernel) rfl, in_lwg (i := 592) (by decide +kernel) rfl⟩, ⟨_, rfl, rfl⟩, by decide +kernel, by decide +kernel, by decide +kernel⟩
theorem mw_X2_settle : MW 2 yX2_settle cX2_settle 3 none 0 := ⟨by decide, ⟨in_lwg (i := 482) (by decide +kernel) rfl, in_lwg (i := 10) (by decide +kernel) rfl, in_lwg (i := 78) (by decide +kernel) rfl, in_lwg (i := 483) (by decide +kernel) rfl⟩, ⟨_, rfl, rfl⟩, by decide +kernel, by decide +kernel, by decide +kernel⟩
theorem mw_X2_shiftedBy : MW 2 yX2_shiftedBy cX2_shiftedBy 2 (some .int) 1 := ⟨by decide, ⟨in_lwg (i := 570) (by decide +kernel) rfl, in_lwg (i := 571) (by decide +kernel) rfl, in_lwg (i := 78) (by decide +kernel) rfl, in_lwg (i := 572) (by decide +kernel) rfl⟩, ⟨_, rfl, rfl⟩, by decide +kernel, by decide +kernel, by decide +kernel⟩
theorem mw_X2_tooDeep : MW 2 yX2_tooDeep cX2_tooDeep 3 (some .int) 0 := ⟨by decide, ⟨in_lwg (i := 582) (by decide +kernel) rfl, in_lwg (i := 583) (by decide +kernel) rfl, in_lwg (i := 78) (by decide +kernel) rfl, in_lwg (i := 584) (by decide +kernel) rfl⟩, ⟨_, rfl, rfl⟩, by decide +kernel, by decide +kernel, by decide +kernel⟩
theorem mw_X2_tooDeepBy : MW 2 yX2_tooDeepBy cX2_tooDeepBy 2 (some .int) 1 := ⟨by decide, ⟨in_lwg (i := 586) (by decide +kernel) rfl, in_lwg (i := 587) (by decide +kernel) rfl, in_lwg (i := 78) (by decide +kernel) rfl, in_lwg (i := 588) (by decide +kernel) rfl⟩, ⟨_, rfl, rfl⟩, by decide +kernel, by decide +kernel, by decide +kernel⟩
theorem mw_X3_outcome : MW 3 yX3_outcome cX3_outcome 5 (some .int) 1 := ⟨by decide, ⟨in_lwg (i := 762) (by decide +kernel) rfl, in_lwg (i := 763) (by decide +kernel) rfl, in_lwg (i := 81) (by decide +kernel) rfl, in_lwg (i := 764) (by decide +kernel) rfl⟩, ⟨_, rfl, rfl⟩, by decide +kernel, by decide +kernel, by decide +kernel⟩
theorem mw_X3_worthAtEnd : MW 3 yX3_worthAtEnd cX3_worthAtEnd 5 (some .int) 1 := ⟨by decide, ⟨in_lwg (i := 767) (by decide +kernel) rfl, in_lwg (i := 25) (by decide +kernel) rfl, in_lwg (i := 81) (by decide +kernel) rfl, in_lwg (i := 768) (by decide +kernel) rfl⟩, ⟨_, rfl, rfl⟩, by decide +kernel, by decide +kernel, by decide +kernel⟩
theorem mw_X3_worthBefore : MW 3 yX3_worthBefore cX3_worthBefore 6 (some .int) 2 := ⟨by decide, ⟨in_lwg (i := 773) (by decide +kernel) rfl, in_lwg (i := 26) (by decide +kernel) rfl, in_lwg (i := 81) (by decide +kernel) rfl, in_lwg (i := 774) (by decide +kernel) rfl⟩, ⟨_, rfl, rfl⟩, by decide +kernel, by decide +kernel, by decide +kernel⟩
theorem mw_X4_begin : MW 4 yX4_begin cX4_begin 1 none 0 := ⟨by decide, ⟨in_lwg (i := 662) (by decide +kernel) rfl, in_lwg (i := 663) (by decide +kernel) rfl, in_lwg (i := 80) (by decide +kernel) rfl, in_lwg (i := 664) (by decide +kernel) rfl⟩, ⟨_, rfl, rfl⟩, by decide +kernel, by decide +kernel, by decide +kernel⟩
theorem mw_X4_findBest : MW 4 yX4_findBest cX4_findBest 1 (some .boolean) 0 := ⟨by decide, ⟨in_lwg (i := 658) (by decide +kernel) rfl, in_lwg (i := 659) (by decide +kernel) rfl, in_lwg (i := 80) (by decide +kernel) rfl, in_lwg (i := 660) (by decide +kernel) rfl⟩, ⟨_, rfl, rfl⟩, by decide +kernel, by decide +kernel, by decide +kernel⟩
theorem mw_X4_isBetter : MW 4 yX4_isBetter cX4_isBetter 1 (some .boolean) 0 := ⟨by decide, ⟨in_lwg (i := 671) (by decide +kernel) rfl, in_lwg (i := 17) (by decide +kernel) rfl, in_lwg (i := 80) (by decide +kernel) rfl, in_lwg (i := 672) (by decide +kernel) rfl⟩, ⟨_, rfl, rfl⟩, by decide +kernel, by decide +kernel, by decide +kernel⟩
theorem mw_X4_keepPath : MW 4 yX4_keepPath cX4_keepPath 2 none 1 := ⟨by decide, ⟨in_lwg (i := 675) (by decide +kernel) rfl, in_lwg (i := 18) (by decide +kernel) rfl, in_lwg (i := 80) (by decide +kernel) rfl, in_lwg (i := 676) (by decide +kernel) rfl⟩, ⟨_, rfl, rfl⟩, by decide +kernel, by decide +kernel, by decide +kernel⟩
theorem mw_X4_seek : MW 4 yX4_seek cX4_seek 3 none 1 := ⟨by decide, ⟨in_lwg (i := 667) (by decide +kernel) rfl, in_lwg (i := 16) (by decide +kernel) rfl, in_lwg (i := 80) (by decide +kernel) rfl, in_lwg (i := 668) (by decide +kernel) rfl⟩, ⟨_, rfl, rfl⟩, by decide +kernel, by decide +kernel, by decide +kernel⟩
theorem mw_X4_seekBehind : MW 4 yX4_seekBehind cX4_seekBehind 7 none 2 := ⟨by decide, ⟨in_lwg (i := 680) (by decide +kernel) rfl, in_lwg (i := 19) (by decide +kernel) rfl, in_lwg (i := 80) (by decide +kernel) rfl, in_lwg (i := 681) (by decide +kernel) rfl⟩, ⟨_, rfl, rfl⟩, by decide +kernel, by decide +kernel, by decide +kernel⟩
theorem mw_X4_takes : MW 4 yX4_takes cX4_takes 4 (some .boolean) 1 := ⟨by decide, ⟨in_lwg (i := 683) (by decide +kernel) rfl, in_lwg (i := 684) (by decide +kernel) rfl, in_lwg (i := 80) (by decide +kernel) rfl, in_lwg (i := 685) (by decide +kernel) rfl⟩, ⟨_, rfl, rfl⟩, by decide +kernel, by decide +kernel, by decide +kernel⟩
theorem mw_X5_digestFrom : MW 5 yX5_digestFrom cX5_digestFrom 7 (some .long) 1 := ⟨by decide, ⟨in_lwg (i := 868) (by decide +kernel) rfl, in_lwg (i := 869) (by decide +kernel) rfl, in_lwg (i := 75) (by decide +kernel) rfl, in_lwg (i := 870) (by decide +kernel) rfl⟩, ⟨_, rfl, rfl⟩, by decide +kernel, by decide +kernel, by decide +kernel⟩
theorem mw_X5_drop : MW 5 yX5_drop cX5_drop 2 none 1 := ⟨by decide, ⟨in_lwg (i := 407) (by decide +kernel) rfl, in_lwg (i := 408) (by decide +kernel) rfl, in_lwg (i := 75) (by decide +kernel) rfl, in_lwg (i := 409) (by decide +kernel) rfl⟩, ⟨_, rfl, rfl⟩, by decide +kernel, by decide +kernel, by decide +kernel⟩
theorem mw_X5_get : MW 5 yX5_get cX5_get 4 (some .int) 3 := ⟨by decide, ⟨in_lwg (i := 390) (by decide +kernel) rfl, in_lwg (i := 391) (by decide +kernel) rfl, in_lwg (i := 75) (by decide +kernel) rfl, in_lwg (i := 392) (by decide +kernel) rfl⟩, ⟨_, rfl, rfl⟩, by decide +kernel, by decide +kernel, by decide +kernel⟩
theorem mw_X5_hasPlaces : MW 5 yX5_hasPlaces cX5_hasPlaces 4 (some .boolean) 3 := ⟨by decide, ⟨in_lwg (i := 415) (by decide +kernel) rfl, in_lwg (i := 416) (by decide +kernel) rfl, in_lwg (i := 75) (by decide +kernel) rfl, in_lwg (i := 417) (by decide +kernel) rfl⟩, ⟨_, rfl, rfl⟩, by decide +kernel, by decide +kernel, by decide +kernel⟩
theorem mw_X5_howMany : MW 5 yX5_howMany cX5_howMany 3 (some .int) 0 := ⟨by decide, ⟨in_lwg (i := 850) (by decide +kernel) rfl, in_lwg (i := 851) (by decide +kernel) rfl, in_lwg (i := 75) (by decide +kernel) rfl, in_lwg (i := 852) (by decide +kernel) rfl⟩, ⟨_, rfl, rfl⟩, by decide +kernel, by decide +kernel, by decide +kernel⟩
theorem mw_X5_isNumber : MW 5 yX5_isNumber cX5_isNumber 2 (some .boolean) 1 := ⟨by decide, ⟨in_lwg (i := 356) (by decide +kernel) rfl, in_lwg (i := 357) (by decide +kernel) rfl, in_lwg (i := 75) (by decide +kernel) rfl, in_lwg (i := 358) (by decide +kernel) rfl⟩, ⟨_, rfl, rfl⟩, by decide +kernel, by decide +kernel, by decide +kernel⟩
theorem mw_X5_isPlace : MW 5 yX5_isPlace cX5_isPlace 3 (some .boolean) 2 := ⟨by decide, ⟨in_lwg (i := 385) (by decide +kernel) rfl, in_lwg (i := 386) (by decide +kernel) rfl, in_lwg (i := 75) (by decide +kernel) rfl, in_lwg (i := 387) (by decide +kernel) rfl⟩, ⟨_, rfl, rfl⟩, by decide +kernel, by decide +kernel, by decide +kernel⟩
theorem mw_X5_isThere : MW 5 yX5_isThere cX5_isThere 2 (some .boolean) 1 := ⟨by decide, ⟨in_lwg (i := 381) (by decide +kernel) rfl, in_lwg (i := 382) (by decide +kernel) rfl, in_lwg (i := 75) (by decide +kernel) rfl, in_lwg (i := 383) (by decide +kernel) rfl⟩, ⟨_, rfl, rfl⟩, by decide +kernel, by decide +kernel, by decide +kernel⟩
theorem mw_X5_make : MW 5 yX5_make cX5_make 4 none 3 := ⟨by decide, ⟨in_lwg (i := 364) (by decide +kernel) rfl, in_lwg (i := 365) (by decide +kernel) rfl, in_lwg (i := 75) (by decide +kernel) rfl, in_lwg (i := 366) (by decide +kernel) rfl⟩, ⟨_, rfl, rfl⟩, by decide +kernel, by decide +kernel, by decide +kernel⟩
theorem mw_X5_set : MW 5 yX5_set cX5_set 4 none 3 := ⟨by decide, ⟨in_lwg (i := 395) (by decide +kernel) rfl, in_lwg (i := 396) (by decide +kernel) rfl, in_lwg (i := 75) (by decide +kernel) rfl, in_lwg (i := 397) (by decide +kernel) rfl⟩, ⟨_, rfl, rfl⟩, by decide +kernel, by decide +kernel, by decide +kernel⟩
theorem mw_X6_age : MW 6 yX6_age cX6_age 3 (some .int) 2 := ⟨by decide, ⟨in_lwg (i := 552) (by decide +kernel) rfl, in_lwg (i := 553) (by decide +kernel) rfl, in_lwg (i := 74) (by decide +kernel) rfl, in_lwg (i := 554) (by decide +kernel) rfl⟩, ⟨_, rfl, rfl⟩, by decide +kernel, by decide +kernel, by decide +kernel⟩
theorem mw_X6_asked : MW 6 yX6_asked cX6_asked 1 (some .int) 0 := ⟨by decide, ⟨in_lwg (i := 821) (by decide +kernel) rfl, in_lwg (i := 822) (by decide +kernel) rfl, in_lwg (i := 74) (by decide +kernel) rfl, in_lwg (i := 823) (by decide +kernel) rfl⟩, ⟨_, rfl, rfl⟩, by decide +kernel, by decide +kernel, by decide +kernel⟩
theorem mw_X6_at : MW 6 yX6_at cX6_at 4 (some .int) 2 := ⟨by decide, ⟨in_lwg (i := 399) (by decide +kernel) rfl, in_lwg (i := 400) (by decide +kernel) rfl, in_lwg (i := 74) (by decide +kernel) rfl, in_lwg (i := 401) (by decide +kernel) rfl⟩, ⟨_, rfl, rfl⟩, by decide +kernel, by decide +kernel, by decide +kernel⟩
theorem mw_X6_berths : MW 6 yX6_berths cX6_berths 4 (some .int) 1 := ⟨by decide, ⟨in_lwg (i := 637) (by decide +kernel) rfl, in_lwg (i := 638) (by decide +kernel) rfl, in_lwg (i := 74) (by decide +kernel) rfl, in_lwg (i := 639) (by decide +kernel) rfl⟩, ⟨_, rfl, rfl⟩, by decide +kernel, by decide +kernel, by decide +kernel⟩
theorem mw_X6_built : MW 6 yX6_built cX6_built 6 (some .int) 2 := ⟨by decide, ⟨in_lwg (i := 709) (by decide +kernel) rfl, in_lwg (i := 710) (by decide +kernel) rfl, in_lwg (i := 74) (by decide +kernel) rfl, in_lwg (i := 711) (by decide +kernel) rfl⟩, ⟨_, rfl, rfl⟩, by decide +kernel, by decide +kernel, by decide +kernel⟩
theorem mw_X6_come : MW 6 yX6_come cX6_come 2 (some .int) 1 := ⟨by decide, ⟨in_lwg (i := 557) (by decide +kernel) rfl, in_lwg (i := 558) (by decide +kernel) rfl, in_lwg (i := 74) (by decide +kernel) rfl, in_lwg (i := 559) (by decide +kernel) rfl⟩, ⟨_, rfl, rfl⟩, by decide +kernel, by decide +kernel, by decide +kernel⟩
theorem mw_X6_copy : MW 6 yX6_copy cX6_copy 6 (some .int) 5 := ⟨by decide, ⟨in_lwg (i := 411) (by decide +kernel) rfl, in_lwg (i := 412) (by decide +kernel) rfl, in_lwg (i := 74) (by decide +kernel) rfl, in_lwg (i := 413) (by decide +kernel) rfl⟩, ⟨_, rfl, rfl⟩, by decide +kernel, by decide +kernel, by decide +kernel⟩
theorem mw_X6_count : MW 6 yX6_count cX6_count 2 (some .int) 1 := ⟨by decide, ⟨in_lwg (i := 833) (by decide +kernel) rfl, in_lwg (i := 834) (by decide +kernel) rfl, in_lwg (i := 74) (by decide +kernel) rfl, in_lwg (i := 835) (by decide +kernel) rfl⟩, ⟨_, rfl, rfl⟩, by decide +kernel, by decide +kernel, by decide +kernel⟩
theorem mw_X6_counted : MW 6 yX6_counted cX6_counted 2 (some .int) 1 := ⟨by decide, ⟨in_lwg (i := 838) (by decide +kernel) rfl, in_lwg (i := 29) (by decide +kernel) rfl, in_lwg (i := 74) (by decide +kernel) rfl, in_lwg (i := 839) (by decide +kernel) rfl⟩, ⟨_, rfl, rfl⟩, by decide +kernel, by decide +kernel, by decide +kernel⟩
theorem mw_X6_digest : MW 6 yX6_digest cX6_digest 5 (some .long) 0 := ⟨by decide, ⟨in_lwg (i := 862) (by decide +kernel) rfl, in_lwg (i := 863) (by decide +kernel) rfl, in_lwg (i := 74) (by decide +kernel) rfl, in_lwg (i := 864) (by decide +kernel) rfl⟩, ⟨_, rfl, rfl⟩, by decide +kernel, by decide +kernel, by decide +kernel⟩
theorem mw_X6_duel : MW 6 yX6_duel cX6_duel 2 (some .int) 1 := ⟨by decide, ⟨in_lwg (i := 758) (by decide +kernel) rfl, in_lwg (i := 759) (by decide +kernel) rfl, in_lwg (i := 74) (by decide +kernel) rfl, in_lwg (i := 760) (by decide +kernel) rfl⟩, ⟨_, rfl, rfl⟩, by decide +kernel, by decide +kernel, by decide +kernel⟩
theorem mw_X6_enter : MW 6 yX6_enter cX6_enter 3 (some .int) 1 := ⟨by decide, ⟨in_lwg (i := 654) (by decide +kernel) rfl, in_lwg (i := 655) (by decide +kernel) rfl, in_lwg (i := 74) (by decide +kernel) rfl, in_lwg (i := 656) (by decide +kernel) rfl⟩, ⟨_, rfl, rfl⟩, by decide +kernel, by decide +kernel, by decide +kernel⟩
theorem mw_X6_fault : MW 6 yX6_fault cX6_fault 3 (some .int) 1 := ⟨by decide, ⟨in_lwg (i := 434) (by decide +kernel) rfl, in_lwg (i := 435) (by decide +kernel) rfl, in_lwg (i := 74) (by decide +kernel) rfl, in_lwg (i := 436) (by decide +kernel) rfl⟩, ⟨_, rfl, rfl⟩, by decide +kernel, by decide +kernel, by decide +kernel⟩
theorem mw_X6_finding : MW 6 yX6_finding cX6_finding 1 (some .int) 0 := ⟨by decide, ⟨in_lwg (i := 854) (by decide +kernel) rfl, in_lwg (i := 855) (by decide +kernel) rfl, in_lwg (i := 74) (by decide +kernel) rfl, in_lwg (i := 856) (by decide +kernel) rfl⟩, ⟨_, rfl, rfl⟩, by decide +kernel, by decide +kernel, by decide +kernel⟩
theorem mw_X6_findings : MW 6 yX6_findings cX6_findings 2 (some .int) 1 := ⟨by decide, ⟨in_lwg (i := 858) (by decide +kernel) rfl, in_lwg (i := 859) (by decide +kernel) rfl, in_lwg (i := 74) (by decide +kernel) rfl, in_lwg (i := 860) (by decide +kernel) rfl⟩, ⟨_, rfl, rfl⟩, by decide +kernel, by decide +kernel, by decide +kernel⟩
theorem mw_X6_fitsPairs : MW 6 yX6_fitsPairs cX6_fitsPairs 5 (some .boolean) 3 := ⟨by decide, ⟨in_lwg (i := 742) (by decide +kernel) rfl, in_lwg (i := 23) (by decide +kernel) rfl, in_lwg (i := 74) (by decide +kernel) rfl, in_lwg (i := 743) (by decide +kernel) rfl⟩, ⟨_, rfl, rfl⟩, by decide +kernel, by decide +kernel, by decide +kernel⟩
theorem mw_X6_ground : MW 6 yX6_ground cX6_ground 3 (some .int) 0 := ⟨by decide, ⟨in_lwg (i := 648) (by decide +kernel) rfl, in_lwg (i := 649) (by decide +kernel) rfl, in_lwg (i := 74) (by decide +kernel) rfl, in_lwg (i := 650) (by decide +kernel) rfl⟩, ⟨_, rfl, rfl⟩, by decide +kernel, by decide +kernel, by decide +kernel⟩
theorem mw_X6_harbour : MW 6 yX6_harbour cX6_harbour 4 (some .int) 1 := ⟨by decide, ⟨in_lwg (i := 471) (by decide +kernel) rfl, in_lwg (i := 472) (by decide +kernel) rfl, in_lwg (i := 74) (by decide +kernel) rfl, in_lwg (i := 473) (by decide +kernel) rfl⟩, ⟨_, rfl, rfl⟩, by decide +kernel, by decide +kernel, by decide +kernel⟩
theorem mw_X6_hours : MW 6 yX6_hours cX6_hours 2 (some .int) 1 := ⟨by decide, ⟨in_lwg (i := 643) (by decide +kernel) rfl, in_lwg (i := 644) (by decide +kernel) rfl, in_lwg (i := 74) (by decide +kernel) rfl, in_lwg (i := 645) (by decide +kernel) rfl⟩, ⟨_, rfl, rfl⟩, by decide +kernel, by decide +kernel, by decide +kernel⟩
theorem ms_X6_isBerth : MS yX6_isBerth cX6_isBerth 1 (some .boolean) 1 := ⟨by decide, ⟨in_lwg (i := 702) (by decide +kernel) rfl, in_lwg (i := 74) (by decide +kernel) rfl, in_lwg (i := 703) (by decide +kernel) rfl⟩, by decide +kernel, by decide +kernel, by decide +kernel⟩
theorem ms_X6_isOfTwelve : MS yX6_isOfTwelve cX6_isOfTwelve 1 (some .boolean) 1 := ⟨by decide, ⟨in_lwg (i := 784) (by decide +kernel) rfl, in_lwg (i := 74) (by decide +kernel) rfl, in_lwg (i := 785) (by decide +kernel) rfl⟩, by decide +kernel, by decide +kernel, by decide +kernel⟩
theorem mw_X6_keep : MW 6 yX6_keep cX6_keep 2 (some .int) 1 := ⟨by decide, ⟨in_lwg (i := 629) (by decide +kernel) rfl, in_lwg (i := 630) (by decide +kernel) rfl, in_lwg (i := 74) (by decide +kernel) rfl, in_lwg (i := 631) (by decide +kernel) rfl⟩, ⟨_, rfl, rfl⟩, by decide +kernel, by decide +kernel, by decide +kernel⟩
theorem mw_X6_kinds : MW 6 yX6_kinds cX6_kinds 4 (some .int) 2 := ⟨by decide, ⟨in_lwg (i := 729) (by decide +kernel) rfl, in_lwg (i := 730) (by decide +kernel) rfl, in_lwg (i := 74) (by decide +kernel) rfl, in_lwg (i := 731) (by decide +kernel) rfl⟩, ⟨_, rfl, rfl⟩, by decide +kernel, by decide +kernel, by decide +kernel⟩
theorem mw_X6_laidOut : MW 6 yX6_laidOut cX6_laidOut 5 (some .int) 4 := ⟨by decide, ⟨in_lwg (i := 353) (by decide +kernel) rfl, in_lwg (i := 0) (by decide +kernel) rfl, in_lwg (i := 74) (by decide +kernel) rfl, in_lwg (i := 354) (by decide +kernel) rfl⟩, ⟨_, rfl, rfl⟩, by decide +kernel, by decide +kernel, by decide +kernel⟩
theorem mw_X6_lay : MW 6 yX6_lay cX6_lay 5 (some .int) 3 := ⟨by decide, ⟨in_lwg (i := 369) (by decide +kernel) rfl, in_lwg (i := 370) (by decide +kernel) rfl, in_lwg (i := 74) (by decide +kernel) rfl, in_lwg (i := 371) (by decide +kernel) rfl⟩, ⟨_, rfl, rfl⟩, by decide +kernel, by decide +kernel, by decide +kernel⟩
theorem mw_X6_least : MW 6 yX6_least cX6_least 4 (some .int) 2 := ⟨by decide, ⟨in_lwg (i := 717) (by decide +kernel) rfl, in_lwg (i := 718) (by decide +kernel) rfl, in_lwg (i := 74) (by decide +kernel) rfl, in_lwg (i := 719) (by decide +kernel) rfl⟩, ⟨_, rfl, rfl⟩, by decide +kernel, by decide +kernel, by decide +kernel⟩
theorem mw_X6_leave : MW 6 yX6_leave cX6_leave 2 (some .int) 1 := ⟨by decide, ⟨in_lwg (i := 594) (by decide +kernel) rfl, in_lwg (i := 595) (by decide +kernel) rfl, in_lwg (i := 74) (by decide +kernel) rfl, in_lwg (i := 596) (by decide +kernel) rfl⟩, ⟨_, rfl, rfl⟩, by decide +kernel, by decide +kernel, by decide +kernel⟩
theorem mw_X6_lots : MW 6 yX6_lots cX6_lots 8 (some .int) 2 := ⟨by decide, ⟨in_lwg (i := 814) (by decide +kernel) rfl, in_lwg (i := 815) (by decide +kernel) rfl, in_lwg (i := 74) (by decide +kernel) rfl, in_lwg (i := 816) (by decide +kernel) rfl⟩, ⟨_, rfl, rfl⟩, by decide +kernel, by decide +kernel, by decide +kernel⟩
theorem mw_X6_lower : MW 6 yX6_lower cX6_lower 1 (some .long) 0 := ⟨by decide, ⟨in_lwg (i := 829) (by decide +kernel) rfl, in_lwg (i := 830) (by decide +kernel) rfl, in_lwg (i := 74) (by decide +kernel) rfl, in_lwg (i := 831) (by decide +kernel) rfl⟩, ⟨_, rfl, rfl⟩, by decide +kernel, by decide +kernel, by decide +kernel⟩
theorem mw_X6_mark : MW 6 yX6_mark cX6_mark 3 (some .int) 2 := ⟨by decide, ⟨in_lwg (i := 530) (by decide +kernel) rfl, in_lwg (i := 531) (by decide +kernel) rfl, in_lwg (i := 74) (by decide +kernel) rfl, in_lwg (i := 532) (by decide +kernel) rfl⟩, ⟨_, rfl, rfl⟩, by decide +kernel, by decide +kernel, by decide +kernel⟩
theorem mw_X6_mean : MW 6 yX6_mean cX6_mean 7 (some .int) 1 := ⟨by decide, ⟨in_lwg (i := 422) (by decide +kernel) rfl, in_lwg (i := 423) (by decide +kernel) rfl, in_lwg (i := 74) (by decide +kernel) rfl, in_lwg (i := 424) (by decide +kernel) rfl⟩, ⟨_, rfl, rfl⟩, by decide +kernel, by decide +kernel, by decide +kernel⟩
theorem mw_X6_mid : MW 6 yX6_mid cX6_mid 3 (some .int) 2 := ⟨by decide, ⟨in_lwg (i := 806) (by decide +kernel) rfl, in_lwg (i := 807) (by decide +kernel) rfl, in_lwg (i := 74) (by decide +kernel) rfl, in_lwg (i := 808) (by decide +kernel) rfl⟩, ⟨_, rfl, rfl⟩, by decide +kernel, by decide +kernel, by decide +kernel⟩
theorem mw_X6_moved : MW 6 yX6_moved cX6_moved 3 (some .int) 2 := ⟨by decide, ⟨in_lwg (i := 562) (by decide +kernel) rfl, in_lwg (i := 13) (by decide +kernel) rfl, in_lwg (i := 74) (by decide +kernel) rfl, in_lwg (i := 563) (by decide +kernel) rfl⟩, ⟨_, rfl, rfl⟩, by decide +kernel, by decide +kernel, by decide +kernel⟩
theorem mw_X6_odds : MW 6 yX6_odds cX6_odds 4 (some .int) 3 := ⟨by decide, ⟨in_lwg (i := 780) (by decide +kernel) rfl, in_lwg (i := 781) (by decide +kernel) rfl, in_lwg (i := 74) (by decide +kernel) rfl, in_lwg (i := 782) (by decide +kernel) rfl⟩, ⟨_, rfl, rfl⟩, by decide +kernel, by decide +kernel, by decide +kernel⟩
theorem mw_X6_on : MW 6 yX6_on cX6_on 3 (some .int) 1 := ⟨by decide, ⟨in_lwg (i := 633) (by decide +kernel) rfl, in_lwg (i := 634) (by decide +kernel) rfl, in_lwg (i := 74) (by decide +kernel) rfl, in_lwg (i := 635) (by decide +kernel) rfl⟩, ⟨_, rfl, rfl⟩, by decide +kernel, by decide +kernel, by decide +kernel⟩
theorem mw_X6_order : MW 6 yX6_order cX6_order 4 (some .int) 1 := ⟨by decide, ⟨in_lwg (i := 688) (by decide +kernel) rfl, in_lwg (i := 689) (by decide +kernel) rfl, in_lwg (i := 74) (by decide +kernel) rfl, in_lwg (i := 690) (by decide +kernel) rfl⟩, ⟨_, rfl, rfl⟩, by decide +kernel, by decide +kernel, by decide +kernel⟩
theorem mw_X6_pay : MW 6 yX6_pay cX6_pay 2 (some .int) 1 := ⟨by decide, ⟨in_lwg (i := 598) (by decide +kernel) rfl, in_lwg (i := 599) (by decide +kernel) rfl, in_lwg (i := 74) (by decide +kernel) rfl, in_lwg (i := 600) (by decide +kernel) rfl⟩, ⟨_, rfl, rfl⟩, by decide +kernel, by decide +kernel, by decide +kernel⟩
theorem mw_X6_possibleKinds : MW 6 yX6_possibleKinds cX6_possibleKinds 5 (some .int) 2 := ⟨by decide, ⟨in_lwg (i := 738) (by decide +kernel) rfl, in_lwg (i := 22) (by decide +kernel) rfl, in_lwg (i := 74) (by decide +kernel) rfl, in_lwg (i := 739) (by decide +kernel) rfl⟩, ⟨_, rfl, rfl⟩, by decide +kernel, by decide +kernel, by decide +kernel⟩
theorem mw_X6_put : MW 6 yX6_put cX6_put 6 (some .int) 3 := ⟨by decide, ⟨in_lwg (i := 430) (by decide +kernel) rfl, in_lwg (i := 431) (by decide +kernel) rfl, in_lwg (i := 74) (by decide +kernel) rfl, in_lwg (i := 432) (by decide +kernel) rfl⟩, ⟨_, rfl, rfl⟩, by decide +kernel, by decide +kernel, by decide +kernel⟩
theorem mw_X6_refusalOfPairs : MW 6 yX6_refusalOfPairs cX6_refusalOfPairs 7 (some .int) 2 := ⟨by decide, ⟨in_lwg (i := 734) (by decide +kernel) rfl, in_lwg (i := 21) (by decide +kernel) rfl, in_lwg (i := 74) (by decide +kernel) rfl, in_lwg (i := 735) (by decide +kernel) rfl⟩, ⟨_, rfl, rfl⟩, by decide +kernel, by decide +kernel, by decide +kernel⟩
theorem mw_X6_refusalOfPlace : MW 6 yX6_refusalOfPlace cX6_refusalOfPlace 5 (some .int) 3 := ⟨by decide, ⟨in_lwg (i := 374) (by decide +kernel) rfl, in_lwg (i := 2) (by decide +kernel) rfl, in_lwg (i := 74) (by decide +kernel) rfl, in_lwg (i := 375) (by decide +kernel) rfl⟩, ⟨_, rfl, rfl⟩, by decide +kernel, by decide +kernel, by decide +kernel⟩
theorem mw_X6_refusalOfSheet : MW 6 yX6_refusalOfSheet cX6_refusalOfSheet 3 (some .int) 2 := ⟨by decide, ⟨in_lwg (i := 378) (by decide +kernel) rfl, in_lwg (i := 3) (by decide +kernel) rfl, in_lwg (i := 74) (by decide +kernel) rfl, in_lwg (i := 379) (by decide +kernel) rfl⟩, ⟨_, rfl, rfl⟩, by decide +kernel, by decide +kernel, by decide +kernel⟩
theorem mw_X6_refusalOfShips : MW 6 yX6_refusalOfShips cX6_refusalOfShips 6 (some .int) 2 := ⟨by decide, ⟨in_lwg (i := 693) (by decide +kernel) rfl, in_lwg (i := 20) (by decide +kernel) rfl, in_lwg (i := 74) (by decide +kernel) rfl, in_lwg (i := 694) (by decide +kernel) rfl⟩, ⟨_, rfl, rfl⟩, by decide +kernel, by decide +kernel, by decide +kernel⟩
theorem mw_X6_refuse : MW 6 yX6_refuse cX6_refuse 2 (some .int) 1 := ⟨by decide, ⟨in_lwg (i := 361) (by decide +kernel) rfl, in_lwg (i := 1) (by decide +kernel) rfl, in_lwg (i := 74) (by decide +kernel) rfl, in_lwg (i := 362) (by decide +kernel) rfl⟩, ⟨_, rfl, rfl⟩, by decide +kernel, by decide +kernel, by decide +kernel⟩
theorem mw_X6_row : MW 6 yX6_row cX6_row 3 (some .int) 2 := ⟨by decide, ⟨in_lwg (i := 348) (by decide +kernel) rfl, in_lwg (i := 349) (by decide +kernel) rfl, in_lwg (i := 74) (by decide +kernel) rfl, in_lwg (i := 350) (by decide +kernel) rfl⟩, ⟨_, rfl, rfl⟩, by decide +kernel, by decide +kernel, by decide +kernel⟩
theorem mw_X6_ship : MW 6 yX6_ship cX6_ship 3 (some .int) 2 := ⟨by decide, ⟨in_lwg (i := 504) (by decide +kernel) rfl, in_lwg (i := 505) (by decide +kernel) rfl, in_lwg (i := 74) (by decide +kernel) rfl, in_lwg (i := 506) (by decide +kernel) rfl⟩, ⟨_, rfl, rfl⟩, by decide +kernel, by decide +kernel, by decide +kernel⟩
theorem mw_X6_tea : MW 6 yX6_tea cX6_tea 2 (some .int) 1 := ⟨by decide, ⟨in_lwg (i := 603) (by decide +kernel) rfl, in_lwg (i := 604) (by decide +kernel) rfl, in_lwg (i := 74) (by decide +kernel) rfl, in_lwg (i := 605) (by decide +kernel) rfl⟩, ⟨_, rfl, rfl⟩, by decide +kernel, by decide +kernel, by decide +kernel⟩
theorem mw_X6_tear : MW 6 yX6_tear cX6_tear 3 (some .int) 1 := ⟨by decide, ⟨in_lwg (i := 403) (by decide +kernel) rfl, in_lwg (i := 404) (by decide +kernel) rfl, in_lwg (i := 74) (by decide +kernel) rfl, in_lwg (i := 405) (by decide +kernel) rfl⟩, ⟨_, rfl, rfl⟩, by decide +kernel, by decide +kernel, by decide +kernel⟩
theorem mw_X6_test : MW 6 yX6_test cX6_test 9 (some .int) 2 := ⟨by decide, ⟨in_lwg (i := 746) (by decide +kernel) rfl, in_lwg (i := 747) (by decide +kernel) rfl, in_lwg (i := 74) (by decide +kernel) rfl, in_lwg (i := 748) (by decide +kernel) rfl⟩, ⟨_, rfl, rfl⟩, by decide +kernel, by decide +kernel, by decide +kernel⟩
theorem mw_X6_text : MW 6 yX6_text cX6_text 3 (some .int) 2 := ⟨by decide, ⟨in_lwg (i := 426) (by decide +kernel) rfl, in_lwg (i := 427) (by decide +kernel) rfl, in_lwg (i := 74) (by decide +kernel) rfl, in_lwg (i := 428) (by decide +kernel) rfl⟩, ⟨_, rfl, rfl⟩, by decide +kernel, by decide +kernel, by decide +kernel⟩
theorem mw_X6_tide : MW 6 yX6_tide cX6_tide 1 (some .int) 0 := ⟨by decide, ⟨in_lwg (i := 607) (by decide +kernel) rfl, in_lwg (i := 608) (by decide +kernel) rfl, in_lwg (i := 74) (by decide +kernel) rfl, in_lwg (i := 609) (by decide +kernel) rfl⟩, ⟨_, rfl, rfl⟩, by decide +kernel, by decide +kernel, by decide +kernel⟩
theorem mw_X6_undo : MW 6 yX6_undo cX6_undo 3 (some .int) 1 := ⟨by decide, ⟨in_lwg (i := 619) (by decide +kernel) rfl, in_lwg (i := 620) (by decide +kernel) rfl, in_lwg (i := 74) (by decide +kernel) rfl, in_lwg (i := 621) (by decide +kernel) rfl⟩, ⟨_, rfl, rfl⟩, by decide +kernel, by decide +kernel, by decide +kernel⟩
theorem mw_X6_upper : MW 6 yX6_upper cX6_upper 1 (some .long) 0 := ⟨by decide, ⟨in_lwg (i := 825) (by decide +kernel) rfl, in_lwg (i := 826) (by decide +kernel) rfl, in_lwg (i := 74) (by decide +kernel) rfl, in_lwg (i := 827) (by decide +kernel) rfl⟩, ⟨_, rfl, rfl⟩, by decide +kernel, by decide +kernel, by decide +kernel⟩
theorem mw_X6_when : MW 6 yX6_when cX6_when 5 (some .int) 2 := ⟨by decide, ⟨in_lwg (i := 698) (by decide +kernel) rfl, in_lwg (i := 699) (by decide +kernel) rfl, in_lwg (i := 74) (by decide +kernel) rfl, in_lwg (i := 700) (by decide +kernel) rfl⟩, ⟨_, rfl, rfl⟩, by decide +kernel, by decide +kernel, by decide +kernel⟩
theorem mw_X6_wrong : MW 6 yX6_wrong cX6_wrong 9 (some .int) 1 := ⟨by decide, ⟨in_lwg (i := 725) (by decide +kernel) rfl, in_lwg (i := 726) (by decide +kernel) rfl, in_lwg (i := 74) (by decide +kernel) rfl, in_lwg (i := 727) (by decide +kernel) rfl⟩, ⟨_, rfl, rfl⟩, by decide +kernel, by decide +kernel, by decide +kernel⟩
theorem mw_X6_year : MW 6 yX6_year cX6_year 1 (some .int) 0 := ⟨by decide, ⟨in_lwg (i := 615) (by decide +kernel) rfl, in_lwg (i := 616) (by decide +kernel) rfl, in_lwg (i := 74) (by decide +kernel) rfl, in_lwg (i := 617) (by decide +kernel) rfl⟩, ⟨_, rfl, rfl⟩, by decide +kernel, by decide +kernel, by decide +kernel⟩
theorem mw_X7_age : MW 7 yX7_age cX7_age 3 (some .int) 2 := ⟨by decide, ⟨in_lwg (i := 1100) (by decide +kernel) rfl, in_lwg (i := 1101) (by decide +kernel) rfl, in_lwg (i := 83) (by decide +kernel) rfl, in_lwg (i := 1102) (by decide +kernel) rfl⟩, ⟨_, rfl, rfl⟩, by decide +kernel, by decide +kernel, by decide +kernel⟩
theorem mw_X7_ageAs : MW 7 yX7_ageAs cX7_ageAs 4 (some .int) 3 := ⟨by decide, ⟨in_lwg (i := 1255) (by decide +kernel) rfl, in_lwg (i := 67) (by decide +kernel) rfl, in_lwg (i := 83) (by decide +kernel) rfl, in_lwg (i := 1256) (by decide +kernel) rfl⟩, ⟨_, rfl, rfl⟩, by decide +kernel, by decide +kernel, by decide +kernel⟩
theorem mw_X7_ageIn : MW 7 yX7_ageIn cX7_ageIn 3 (some .int) 2 := ⟨by decide, ⟨in_lwg (i := 1061) (by decide +kernel) rfl, in_lwg (i := 44) (by decide +kernel) rfl, in_lwg (i := 83) (by decide +kernel) rfl, in_lwg (i := 1062) (by decide +kernel) rfl⟩, ⟨_, rfl, rfl⟩, by decide +kernel, by decide +kernel, by decide +kernel⟩
theorem mw_X7_ageNow : MW 7 yX7_ageNow cX7_ageNow 2 (some .int) 1 := ⟨by decide, ⟨in_lwg (i := 1057) (by decide +kernel) rfl, in_lwg (i := 43) (by decide +kernel) rfl, in_lwg (i := 83) (by decide +kernel) rfl, in_lwg (i := 1058) (by decide +kernel) rfl⟩, ⟨_, rfl, rfl⟩, by decide +kernel, by decide +kernel, by decide +kernel⟩
theorem ms_X7_aged : MS yX7_aged cX7_aged 6 (some .int) 4 := ⟨by decide, ⟨in_lwg (i := 1067) (by decide +kernel) rfl, in_lwg (i := 83) (by decide +kernel) rfl, in_lwg (i := 1068) (by decide +kernel) rfl⟩, by decide +kernel, by decide +kernel, by decide +kernel⟩
theorem mw_X7_alike : MW 7 yX7_alike cX7_alike 8 (some .int) 3 := ⟨by decide, ⟨in_lwg (i := 1263) (by decide +kernel) rfl, in_lwg (i := 68) (by decide +kernel) rfl, in_lwg (i := 83) (by decide +kernel) rfl, in_lwg (i := 1264) (by decide +kernel) rfl⟩, ⟨_, rfl, rfl⟩, by decide +kernel, by decide +kernel, by decide +kernel⟩
theorem mw_X7_all : MW 7 yX7_all cX7_all 1 (some .int) 0 := ⟨by decide, ⟨in_lwg (i := 1216) (by decide +kernel) rfl, in_lwg (i := 63) (by decide +kernel) rfl, in_lwg (i := 83) (by decide +kernel) rfl, in_lwg (i := 1217) (by decide +kernel) rfl⟩, ⟨_, rfl, rfl⟩, by decide +kernel, by decide +kernel, by decide +kernel⟩
theorem mw_X7_are : MW 7 yX7_are cX7_are 1 (some .boolean) 0 := ⟨by decide, ⟨in_lwg (i := 1144) (by decide +kernel) rfl, in_lwg (i := 54) (by decide +kernel) rfl, in_lwg (i := 83) (by decide +kernel) rfl, in_lwg (i := 1145) (by decide +kernel) rfl⟩, ⟨_, rfl, rfl⟩, by decide +kernel, by decide +kernel, by decide +kernel⟩
theorem mw_X7_areOnce : MW 7 yX7_areOnce cX7_areOnce 7 (some .boolean) 2 := ⟨by decide, ⟨in_lwg (i := 1220) (by decide +kernel) rfl, in_lwg (i := 64) (by decide +kernel) rfl, in_lwg (i := 83) (by decide +kernel) rfl, in_lwg (i := 1221) (by decide +kernel) rfl⟩, ⟨_, rfl, rfl⟩, by decide +kernel, by decide +kernel, by decide +kernel⟩
theorem mw_X7_asked : MW 7 yX7_asked cX7_asked 1 (some .int) 0 := ⟨by decide, ⟨in_lwg (i := 1303) (by decide +kernel) rfl, in_lwg (i := 1304) (by decide +kernel) rfl, in_lwg (i := 83) (by decide +kernel) rfl, in_lwg (i := 1305) (by decide +kernel) rfl⟩, ⟨_, rfl, rfl⟩, by decide +kernel, by decide +kernel, by decide +kernel⟩
theorem mw_X7_at : MW 7 yX7_at cX7_at 3 (some .int) 2 := ⟨by decide, ⟨in_lwg (i := 966) (by decide +kernel) rfl, in_lwg (i := 967) (by decide +kernel) rfl, in_lwg (i := 83) (by decide +kernel) rfl, in_lwg (i := 968) (by decide +kernel) rfl⟩, ⟨_, rfl, rfl⟩, by decide +kernel, by decide +kernel, by decide +kernel⟩
theorem mw_X7_barred : MW 7 yX7_barred cX7_barred 5 (some .int) 2 := ⟨by decide, ⟨in_lwg (i := 1247) (by decide +kernel) rfl, in_lwg (i := 65) (by decide +kernel) rfl, in_lwg (i := 83) (by decide +kernel) rfl, in_lwg (i := 1248) (by decide +kernel) rfl⟩, ⟨_, rfl, rfl⟩, by decide +kernel, by decide +kernel, by decide +kernel⟩
theorem mw_X7_berthBy : MW 7 yX7_berthBy cX7_berthBy 7 (some .int) 4 := ⟨by decide, ⟨in_lwg (i := 1078) (by decide +kernel) rfl, in_lwg (i := 46) (by decide +kernel) rfl, in_lwg (i := 83) (by decide +kernel) rfl, in_lwg (i := 1079) (by decide +kernel) rfl⟩, ⟨_, rfl, rfl⟩, by decide +kernel, by decide +kernel, by decide +kernel⟩
theorem mw_X7_berthIn : MW 7 yX7_berthIn cX7_berthIn 3 (some .int) 2 := ⟨by decide, ⟨in_lwg (i := 1074) (by decide +kernel) rfl, in_lwg (i := 45) (by decide +kernel) rfl, in_lwg (i := 83) (by decide +kernel) rfl, in_lwg (i := 1075) (by decide +kernel) rfl⟩, ⟨_, rfl, rfl⟩, by decide +kernel, by decide +kernel, by decide +kernel⟩
theorem mw_X7_berths : MW 7 yX7_berths cX7_berths 4 (some .int) 1 := ⟨by decide, ⟨in_lwg (i := 1183) (by decide +kernel) rfl, in_lwg (i := 1184) (by decide +kernel) rfl, in_lwg (i := 83) (by decide +kernel) rfl, in_lwg (i := 1185) (by decide +kernel) rfl⟩, ⟨_, rfl, rfl⟩, by decide +kernel, by decide +kernel, by decide +kernel⟩
theorem mw_X7_built : MW 7 yX7_built cX7_built 8 (some .int) 2 := ⟨by decide, ⟨in_lwg (i := 1230) (by decide +kernel) rfl, in_lwg (i := 1231) (by decide +kernel) rfl, in_lwg (i := 83) (by decide +kernel) rfl, in_lwg (i := 1232) (by decide +kernel) rfl⟩, ⟨_, rfl, rfl⟩, by decide +kernel, by decide +kernel, by decide +kernel⟩
theorem mw_X7_chance : MW 7 yX7_chance cX7_chance 13 (some .int) 3 := ⟨by decide, ⟨in_lwg (i := 1283) (by decide +kernel) rfl, in_lwg (i := 71) (by decide +kernel) rfl, in_lwg (i := 83) (by decide +kernel) rfl, in_lwg (i := 1284) (by decide +kernel) rfl⟩, ⟨_, rfl, rfl⟩, by decide +kernel, by decide +kernel, by decide +kernel⟩
theorem mw_X7_come : MW 7 yX7_come cX7_come 2 (some .int) 1 := ⟨by decide, ⟨in_lwg (i := 1104) (by decide +kernel) rfl, in_lwg (i := 1105) (by decide +kernel) rfl, in_lwg (i := 83) (by decide +kernel) rfl, in_lwg (i := 1106) (by decide +kernel) rfl⟩, ⟨_, rfl, rfl⟩, by decide +kernel, by decide +kernel, by decide +kernel⟩
theorem mw_X7_comes : MW 7 yX7_comes cX7_comes 4 none 2 := ⟨by decide, ⟨in_lwg (i := 1275) (by decide +kernel) rfl, in_lwg (i := 70) (by decide +kernel) rfl, in_lwg (i := 83) (by decide +kernel) rfl, in_lwg (i := 1276) (by decide +kernel) rfl⟩, ⟨_, rfl, rfl⟩, by decide +kernel, by decide +kernel, by decide +kernel⟩
theorem ms_X7_copies : MS yX7_copies cX7_copies 5 none 4 := ⟨by decide, ⟨in_lwg (i := 1037) (by decide +kernel) rfl, in_lwg (i := 83) (by decide +kernel) rfl, in_lwg (i := 1038) (by decide +kernel) rfl⟩, by decide +kernel, by decide +kernel, by decide +kernel⟩
theorem mw_X7_copy : MW 7 yX7_copy cX7_copy 7 (some .int) 5 := ⟨by decide, ⟨in_lwg (i := 979) (by decide +kernel) rfl, in_lwg (i := 980) (by decide +kernel) rfl, in_lwg (i := 83) (by decide +kernel) rfl, in_lwg (i := 981) (by decide +kernel) rfl⟩, ⟨_, rfl, rfl⟩, by decide +kernel, by decide +kernel, by decide +kernel⟩
theorem mw_X7_count : MW 7 yX7_count cX7_count 4 (some .int) 1 := ⟨by decide, ⟨in_lwg (i := 1315) (by decide +kernel) rfl, in_lwg (i := 1316) (by decide +kernel) rfl, in_lwg (i := 83) (by decide +kernel) rfl, in_lwg (i := 1317) (by decide +kernel) rfl⟩, ⟨_, rfl, rfl⟩, by decide +kernel, by decide +kernel, by decide +kernel⟩
theorem mw_X7_digest : MW 7 yX7_digest cX7_digest 5 (some .long) 0 := ⟨by decide, ⟨in_lwg (i := 1327) (by decide +kernel) rfl, in_lwg (i := 1328) (by decide +kernel) rfl, in_lwg (i := 83) (by decide +kernel) rfl, in_lwg (i := 1329) (by decide +kernel) rfl⟩, ⟨_, rfl, rfl⟩, by decide +kernel, by decide +kernel, by decide +kernel⟩
theorem mw_X7_duel : MW 7 yX7_duel cX7_duel 4 (some .int) 1 := ⟨by decide, ⟨in_lwg (i := 1266) (by decide +kernel) rfl, in_lwg (i := 1267) (by decide +kernel) rfl, in_lwg (i := 83) (by decide +kernel) rfl, in_lwg (i := 1268) (by decide +kernel) rfl⟩, ⟨_, rfl, rfl⟩, by decide +kernel, by decide +kernel, by decide +kernel⟩
theorem mw_X7_ebbs : MW 7 yX7_ebbs cX7_ebbs 2 (some .int) 0 := ⟨by decide, ⟨in_lwg (i := 1148) (by decide +kernel) rfl, in_lwg (i := 55) (by decide +kernel) rfl, in_lwg (i := 83) (by decide +kernel) rfl, in_lwg (i := 1149) (by decide +kernel) rfl⟩, ⟨_, rfl, rfl⟩, by decide +kernel, by decide +kernel, by decide +kernel⟩
theorem mw_X7_enter : MW 7 yX7_enter cX7_enter 8 (some .int) 1 := ⟨by decide, ⟨in_lwg (i := 1195) (by decide +kernel) rfl, in_lwg (i := 1196) (by decide +kernel) rfl, in_lwg (i := 83) (by decide +kernel) rfl, in_lwg (i := 1197) (by decide +kernel) rfl⟩, ⟨_, rfl, rfl⟩, by decide +kernel, by decide +kernel, by decide +kernel⟩
theorem mw_X7_enters : MW 7 yX7_enters cX7_enters 7 (some .boolean) 1 := ⟨by decide, ⟨in_lwg (i := 1200) (by decide +kernel) rfl, in_lwg (i := 60) (by decide +kernel) rfl, in_lwg (i := 83) (by decide +kernel) rfl, in_lwg (i := 1201) (by decide +kernel) rfl⟩, ⟨_, rfl, rfl⟩, by decide +kernel, by decide +kernel, by decide +kernel⟩
theorem mw_X7_excess : MW 7 yX7_excess cX7_excess 3 (some .int) 1 := ⟨by decide, ⟨in_lwg (i := 1156) (by decide +kernel) rfl, in_lwg (i := 57) (by decide +kernel) rfl, in_lwg (i := 83) (by decide +kernel) rfl, in_lwg (i := 1157) (by decide +kernel) rfl⟩, ⟨_, rfl, rfl⟩, by decide +kernel, by decide +kernel, by decide +kernel⟩
theorem mw_X7_fault : MW 7 yX7_fault cX7_fault 2 (some .int) 1 := ⟨by decide, ⟨in_lwg (i := 998) (by decide +kernel) rfl, in_lwg (i := 999) (by decide +kernel) rfl, in_lwg (i := 83) (by decide +kernel) rfl, in_lwg (i := 1000) (by decide +kernel) rfl⟩, ⟨_, rfl, rfl⟩, by decide +kernel, by decide +kernel, by decide +kernel⟩
theorem mw_X7_figure : MW 7 yX7_figure cX7_figure 4 (some .int) 2 := ⟨by decide, ⟨in_lwg (i := 1023) (by decide +kernel) rfl, in_lwg (i := 38) (by decide +kernel) rfl, in_lwg (i := 83) (by decide +kernel) rfl, in_lwg (i := 1024) (by decide +kernel) rfl⟩, ⟨_, rfl, rfl⟩, by decide +kernel, by decide +kernel, by decide +kernel⟩
theorem mw_X7_finding : MW 7 yX7_finding cX7_finding 1 (some .int) 0 := ⟨by decide, ⟨in_lwg (i := 1319) (by decide +kernel) rfl, in_lwg (i := 1320) (by decide +kernel) rfl, in_lwg (i := 83) (by decide +kernel) rfl, in_lwg (i := 1321) (by decide +kernel) rfl⟩, ⟨_, rfl, rfl⟩, by decide +kernel, by decide +kernel, by decide +kernel⟩
theorem mw_X7_findings : MW 7 yX7_findings cX7_findings 2 (some .int) 1 := ⟨by decide, ⟨in_lwg (i := 1323) (by decide +kernel) rfl, in_lwg (i := 1324) (by decide +kernel) rfl, in_lwg (i := 83) (by decide +kernel) rfl, in_lwg (i := 1325) (by decide +kernel) rfl⟩, ⟨_, rfl, rfl⟩, by decide +kernel, by decide +kernel, by decide +kernel⟩
theorem mw_X7_finds : MW 7 yX7_finds cX7_finds 2 (some .int) 1 := ⟨by decide, ⟨in_lwg (i := 955) (by decide +kernel) rfl, in_lwg (i := 30) (by decide +kernel) rfl, in_lwg (i := 83) (by decide +kernel) rfl, in_lwg (i := 956) (by decide +kernel) rfl⟩, ⟨_, rfl, rfl⟩, by decide +kernel, by decide +kernel, by decide +kernel⟩
theorem mw_X7_goes : MW 7 yX7_goes cX7_goes 3 (some .int) 1 := ⟨by decide, ⟨in_lwg (i := 1120) (by decide +kernel) rfl, in_lwg (i := 52) (by decide +kernel) rfl, in_lwg (i := 83) (by decide +kernel) rfl, in_lwg (i := 1121) (by decide +kernel) rfl⟩, ⟨_, rfl, rfl⟩, by decide +kernel, by decide +kernel, by decide +kernel⟩
theorem mw_X7_ground : MW 7 yX7_ground cX7_ground 3 (some .int) 0 := ⟨by decide, ⟨in_lwg (i := 1191) (by decide +kernel) rfl, in_lwg (i := 1192) (by decide +kernel) rfl, in_lwg (i := 83) (by decide +kernel) rfl, in_lwg (i := 1193) (by decide +kernel) rfl⟩, ⟨_, rfl, rfl⟩, by decide +kernel, by decide +kernel, by decide +kernel⟩
theorem mw_X7_grounded : MW 7 yX7_grounded cX7_grounded 3 (some .int) 0 := ⟨by decide, ⟨in_lwg (i := 1152) (by decide +kernel) rfl, in_lwg (i := 56) (by decide +kernel) rfl, in_lwg (i := 83) (by decide +kernel) rfl, in_lwg (i := 1153) (by decide +kernel) rfl⟩, ⟨_, rfl, rfl⟩, by decide +kernel, by decide +kernel, by decide +kernel⟩
theorem mw_X7_grounds : MW 7 yX7_grounds cX7_grounds 4 none 2 := ⟨by decide, ⟨in_lwg (i := 1160) (by decide +kernel) rfl, in_lwg (i := 58) (by decide +kernel) rfl, in_lwg (i := 83) (by decide +kernel) rfl, in_lwg (i := 1161) (by decide +kernel) rfl⟩, ⟨_, rfl, rfl⟩, by decide +kernel, by decide +kernel, by decide +kernel⟩
theorem mw_X7_harbour : MW 7 yX7_harbour cX7_harbour 3 (some .int) 1 := ⟨by decide, ⟨in_lwg (i := 1033) (by decide +kernel) rfl, in_lwg (i := 1034) (by decide +kernel) rfl, in_lwg (i := 83) (by decide +kernel) rfl, in_lwg (i := 1035) (by decide +kernel) rfl⟩, ⟨_, rfl, rfl⟩, by decide +kernel, by decide +kernel, by decide +kernel⟩
theorem ms_X7_has : MS yX7_has cX7_has 2 (some .boolean) 2 := ⟨by decide, ⟨in_lwg (i := 1070) (by decide +kernel) rfl, in_lwg (i := 83) (by decide +kernel) rfl, in_lwg (i := 1071) (by decide +kernel) rfl⟩, by decide +kernel, by decide +kernel, by decide +kernel⟩
theorem mw_X7_hours : MW 7 yX7_hours cX7_hours 2 (some .int) 1 := ⟨by decide, ⟨in_lwg (i := 1187) (by decide +kernel) rfl, in_lwg (i := 1188) (by decide +kernel) rfl, in_lwg (i := 83) (by decide +kernel) rfl, in_lwg (i := 1189) (by decide +kernel) rfl⟩, ⟨_, rfl, rfl⟩, by decide +kernel, by decide +kernel, by decide +kernel⟩
theorem ms_X7_in : MS yX7_in cX7_in 3 (some .boolean) 3 := ⟨by decide, ⟨in_lwg (i := 951) (by decide +kernel) rfl, in_lwg (i := 83) (by decide +kernel) rfl, in_lwg (i := 952) (by decide +kernel) rfl⟩, by decide +kernel, by decide +kernel, by decide +kernel⟩
theorem mw_X7_isAhead : MW 7 yX7_isAhead cX7_isAhead 3 (some .boolean) 2 := ⟨by decide, ⟨in_lwg (i := 1097) (by decide +kernel) rfl, in_lwg (i := 49) (by decide +kernel) rfl, in_lwg (i := 83) (by decide +kernel) rfl, in_lwg (i := 1098) (by decide +kernel) rfl⟩, ⟨_, rfl, rfl⟩, by decide +kernel, by decide +kernel, by decide +kernel⟩
theorem mw_X7_isAheadBy : MW 7 yX7_isAheadBy cX7_isAheadBy 7 (some .boolean) 4 := ⟨by decide, ⟨in_lwg (i := 1082) (by decide +kernel) rfl, in_lwg (i := 47) (by decide +kernel) rfl, in_lwg (i := 83) (by decide +kernel) rfl, in_lwg (i := 1083) (by decide +kernel) rfl⟩, ⟨_, rfl, rfl⟩, by decide +kernel, by decide +kernel, by decide +kernel⟩
theorem ms_X7_isBerth : MS yX7_isBerth cX7_isBerth 1 (some .boolean) 1 := ⟨by decide, ⟨in_lwg (i := 1227) (by decide +kernel) rfl, in_lwg (i := 83) (by decide +kernel) rfl, in_lwg (i := 1228) (by decide +kernel) rfl⟩, by decide +kernel, by decide +kernel, by decide +kernel⟩
theorem ms_X7_isOf : MS yX7_isOf cX7_isOf 2 (some .boolean) 2 := ⟨by decide, ⟨in_lwg (i := 1089) (by decide +kernel) rfl, in_lwg (i := 83) (by decide +kernel) rfl, in_lwg (i := 1090) (by decide +kernel) rfl⟩, by decide +kernel, by decide +kernel, by decide +kernel⟩
theorem ms_X7_isRow : MS yX7_isRow cX7_isRow 1 (some .boolean) 1 := ⟨by decide, ⟨in_lwg (i := 948) (by decide +kernel) rfl, in_lwg (i := 83) (by decide +kernel) rfl, in_lwg (i := 949) (by decide +kernel) rfl⟩, by decide +kernel, by decide +kernel, by decide +kernel⟩
theorem mw_X7_isShip : MW 7 yX7_isShip cX7_isShip 2 (some .boolean) 1 := ⟨by decide, ⟨in_lwg (i := 1045) (by decide +kernel) rfl, in_lwg (i := 40) (by decide +kernel) rfl, in_lwg (i := 83) (by decide +kernel) rfl, in_lwg (i := 1046) (by decide +kernel) rfl⟩, ⟨_, rfl, rfl⟩, by decide +kernel, by decide +kernel, by decide +kernel⟩
theorem ms_X7_isText : MS yX7_isText cX7_isText 1 (some .boolean) 1 := ⟨by decide, ⟨in_lwg (i := 991) (by decide +kernel) rfl, in_lwg (i := 83) (by decide +kernel) rfl, in_lwg (i := 992) (by decide +kernel) rfl⟩, by decide +kernel, by decide +kernel, by decide +kernel⟩
theorem mw_X7_keep : MW 7 yX7_keep cX7_keep 2 (some .int) 1 := ⟨by decide, ⟨in_lwg (i := 1175) (by decide +kernel) rfl, in_lwg (i := 1176) (by decide +kernel) rfl, in_lwg (i := 83) (by decide +kernel) rfl, in_lwg (i := 1177) (by decide +kernel) rfl⟩, ⟨_, rfl, rfl⟩, by decide +kernel, by decide +kernel, by decide +kernel⟩
theorem ms_X7_kindOf : MS yX7_kindOf cX7_kindOf 1 (some .int) 1 := ⟨by decide, ⟨in_lwg (i := 1030) (by decide +kernel) rfl, in_lwg (i := 83) (by decide +kernel) rfl, in_lwg (i := 1031) (by decide +kernel) rfl⟩, by decide +kernel, by decide +kernel, by decide +kernel⟩
theorem mw_X7_kinds : MW 7 yX7_kinds cX7_kinds 4 (some .int) 2 := ⟨by decide, ⟨in_lwg (i := 1242) (by decide +kernel) rfl, in_lwg (i := 1243) (by decide +kernel) rfl, in_lwg (i := 83) (by decide +kernel) rfl, in_lwg (i := 1244) (by decide +kernel) rfl⟩, ⟨_, rfl, rfl⟩, by decide +kernel, by decide +kernel, by decide +kernel⟩
theorem mw_X7_kindsBy : MW 7 yX7_kindsBy cX7_kindsBy 7 (some .int) 2 := ⟨by decide, ⟨in_lwg (i := 1251) (by decide +kernel) rfl, in_lwg (i := 66) (by decide +kernel) rfl, in_lwg (i := 83) (by decide +kernel) rfl, in_lwg (i := 1252) (by decide +kernel) rfl⟩, ⟨_, rfl, rfl⟩, by decide +kernel, by decide +kernel, by decide +kernel⟩
theorem mw_X7_lay : MW 7 yX7_lay cX7_lay 5 (some .int) 3 := ⟨by decide, ⟨in_lwg (i := 962) (by decide +kernel) rfl, in_lwg (i := 963) (by decide +kernel) rfl, in_lwg (i := 83) (by decide +kernel) rfl, in_lwg (i := 964) (by decide +kernel) rfl⟩, ⟨_, rfl, rfl⟩, by decide +kernel, by decide +kernel, by decide +kernel⟩
theorem mw_X7_lays : MW 7 yX7_lays cX7_lays 4 none 2 := ⟨by decide, ⟨in_lwg (i := 959) (by decide +kernel) rfl, in_lwg (i := 31) (by decide +kernel) rfl, in_lwg (i := 83) (by decide +kernel) rfl, in_lwg (i := 960) (by decide +kernel) rfl⟩, ⟨_, rfl, rfl⟩, by decide +kernel, by decide +kernel, by decide +kernel⟩
theorem mw_X7_least : MW 7 yX7_least cX7_least 5 (some .int) 2 := ⟨by decide, ⟨in_lwg (i := 1234) (by decide +kernel) rfl, in_lwg (i := 1235) (by decide +kernel) rfl, in_lwg (i := 83) (by decide +kernel) rfl, in_lwg (i := 1236) (by decide +kernel) rfl⟩, ⟨_, rfl, rfl⟩, by decide +kernel, by decide +kernel, by decide +kernel⟩
theorem mw_X7_leave : MW 7 yX7_leave cX7_leave 2 (some .int) 1 := ⟨by decide, ⟨in_lwg (i := 1127) (by decide +kernel) rfl, in_lwg (i := 1128) (by decide +kernel) rfl, in_lwg (i := 83) (by decide +kernel) rfl, in_lwg (i := 1129) (by decide +kernel) rfl⟩, ⟨_, rfl, rfl⟩, by decide +kernel, by decide +kernel, by decide +kernel⟩
theorem mw_X7_look : MW 7 yX7_look cX7_look 2 (some .int) 1 := ⟨by decide, ⟨in_lwg (i := 1015) (by decide +kernel) rfl, in_lwg (i := 36) (by decide +kernel) rfl, in_lwg (i := 83) (by decide +kernel) rfl, in_lwg (i := 1016) (by decide +kernel) rfl⟩, ⟨_, rfl, rfl⟩, by decide +kernel, by decide +kernel, by decide +kernel⟩
theorem mw_X7_lots : MW 7 yX7_lots cX7_lots 8 (some .int) 2 := ⟨by decide, ⟨in_lwg (i := 1295) (by decide +kernel) rfl, in_lwg (i := 1296) (by decide +kernel) rfl, in_lwg (i := 83) (by decide +kernel) rfl, in_lwg (i := 1297) (by decide +kernel) rfl⟩, ⟨_, rfl, rfl⟩, by decide +kernel, by decide +kernel, by decide +kernel⟩
theorem mw_X7_lower : MW 7 yX7_lower cX7_lower 1 (some .long) 0 := ⟨by decide, ⟨in_lwg (i := 1311) (by decide +kernel) rfl, in_lwg (i := 1312) (by decide +kernel) rfl, in_lwg (i := 83) (by decide +kernel) rfl, in_lwg (i := 1313) (by decide +kernel) rfl⟩, ⟨_, rfl, rfl⟩, by decide +kernel, by decide +kernel, by decide +kernel⟩
theorem mw_X7_mark : MW 7 yX7_mark cX7_mark 3 (some .int) 2 := ⟨by decide, ⟨in_lwg (i := 1085) (by decide +kernel) rfl, in_lwg (i := 1086) (by decide +kernel) rfl, in_lwg (i := 83) (by decide +kernel) rfl, in_lwg (i := 1087) (by decide +kernel) rfl⟩, ⟨_, rfl, rfl⟩, by decide +kernel, by decide +kernel, by decide +kernel⟩
theorem mw_X7_markOf : MW 7 yX7_markOf cX7_markOf 7 (some .int) 2 := ⟨by decide, ⟨in_lwg (i := 1093) (by decide +kernel) rfl, in_lwg (i := 48) (by decide +kernel) rfl, in_lwg (i := 83) (by decide +kernel) rfl, in_lwg (i := 1094) (by decide +kernel) rfl⟩, ⟨_, rfl, rfl⟩, by decide +kernel, by decide +kernel, by decide +kernel⟩
theorem mw_X7_mean : MW 7 yX7_mean cX7_mean 5 (some .int) 1 := ⟨by decide, ⟨in_lwg (i := 983) (by decide +kernel) rfl, in_lwg (i := 984) (by decide +kernel) rfl, in_lwg (i := 83) (by decide +kernel) rfl, in_lwg (i := 985) (by decide +kernel) rfl⟩, ⟨_, rfl, rfl⟩, by decide +kernel, by decide +kernel, by decide +kernel⟩
theorem mw_X7_mid : MW 7 yX7_mid cX7_mid 3 (some .int) 2 := ⟨by decide, ⟨in_lwg (i := 1291) (by decide +kernel) rfl, in_lwg (i := 1292) (by decide +kernel) rfl, in_lwg (i := 83) (by decide +kernel) rfl, in_lwg (i := 1293) (by decide +kernel) rfl⟩, ⟨_, rfl, rfl⟩, by decide +kernel, by decide +kernel, by decide +kernel⟩
theorem mw_X7_moves : MW 7 yX7_moves cX7_moves 3 (some .int) 2 := ⟨by decide, ⟨in_lwg (i := 1109) (by decide +kernel) rfl, in_lwg (i := 50) (by decide +kernel) rfl, in_lwg (i := 83) (by decide +kernel) rfl, in_lwg (i := 1110) (by decide +kernel) rfl⟩, ⟨_, rfl, rfl⟩, by decide +kernel, by decide +kernel, by decide +kernel⟩
theorem mw_X7_nextOrder : MW 7 yX7_nextOrder cX7_nextOrder 5 (some .boolean) 1 := ⟨by decide, ⟨in_lwg (i := 1204) (by decide +kernel) rfl, in_lwg (i := 61) (by decide +kernel) rfl, in_lwg (i := 83) (by decide +kernel) rfl, in_lwg (i := 1205) (by decide +kernel) rfl⟩, ⟨_, rfl, rfl⟩, by decide +kernel, by decide +kernel, by decide +kernel⟩
theorem mw_X7_notes : MW 7 yX7_notes cX7_notes 6 none 4 := ⟨by decide, ⟨in_lwg (i := 1124) (by decide +kernel) rfl, in_lwg (i := 53) (by decide +kernel) rfl, in_lwg (i := 83) (by decide +kernel) rfl, in_lwg (i := 1125) (by decide +kernel) rfl⟩, ⟨_, rfl, rfl⟩, by decide +kernel, by decide +kernel, by decide +kernel⟩
theorem mw_X7_odds : MW 7 yX7_odds cX7_odds 4 (some .int) 3 := ⟨by decide, ⟨in_lwg (i := 1278) (by decide +kernel) rfl, in_lwg (i := 1279) (by decide +kernel) rfl, in_lwg (i := 83) (by decide +kernel) rfl, in_lwg (i := 1280) (by decide +kernel) rfl⟩, ⟨_, rfl, rfl⟩, by decide +kernel, by decide +kernel, by decide +kernel⟩
theorem mw_X7_of : MW 7 yX7_of cX7_of 3 (some .int) 2 := ⟨by decide, ⟨in_lwg (i := 1053) (by decide +kernel) rfl, in_lwg (i := 42) (by decide +kernel) rfl, in_lwg (i := 83) (by decide +kernel) rfl, in_lwg (i := 1054) (by decide +kernel) rfl⟩, ⟨_, rfl, rfl⟩, by decide +kernel, by decide +kernel, by decide +kernel⟩
theorem ms_X7_oldIn : MS yX7_oldIn cX7_oldIn 2 (some .int) 2 := ⟨by decide, ⟨in_lwg (i := 1064) (by decide +kernel) rfl, in_lwg (i := 83) (by decide +kernel) rfl, in_lwg (i := 1065) (by decide +kernel) rfl⟩, by decide +kernel, by decide +kernel, by decide +kernel⟩
theorem mw_X7_on : MW 7 yX7_on cX7_on 2 (some .int) 1 := ⟨by decide, ⟨in_lwg (i := 1179) (by decide +kernel) rfl, in_lwg (i := 1180) (by decide +kernel) rfl, in_lwg (i := 83) (by decide +kernel) rfl, in_lwg (i := 1181) (by decide +kernel) rfl⟩, ⟨_, rfl, rfl⟩, by decide +kernel, by decide +kernel, by decide +kernel⟩
theorem ms_X7_ones : MS yX7_ones cX7_ones 3 (some .int) 1 := ⟨by decide, ⟨in_lwg (i := 1116) (by decide +kernel) rfl, in_lwg (i := 83) (by decide +kernel) rfl, in_lwg (i := 1117) (by decide +kernel) rfl⟩, by decide +kernel, by decide +kernel, by decide +kernel⟩
theorem mw_X7_order : MW 7 yX7_order cX7_order 3 (some .int) 1 := ⟨by decide, ⟨in_lwg (i := 1211) (by decide +kernel) rfl, in_lwg (i := 1212) (by decide +kernel) rfl, in_lwg (i := 83) (by decide +kernel) rfl, in_lwg (i := 1213) (by decide +kernel) rfl⟩, ⟨_, rfl, rfl⟩, by decide +kernel, by decide +kernel, by decide +kernel⟩
theorem mw_X7_pay : MW 7 yX7_pay cX7_pay 2 (some .int) 1 := ⟨by decide, ⟨in_lwg (i := 1131) (by decide +kernel) rfl, in_lwg (i := 1132) (by decide +kernel) rfl, in_lwg (i := 83) (by decide +kernel) rfl, in_lwg (i := 1133) (by decide +kernel) rfl⟩, ⟨_, rfl, rfl⟩, by decide +kernel, by decide +kernel, by decide +kernel⟩
theorem mw_X7_put : MW 7 yX7_put cX7_put 5 (some .int) 3 := ⟨by decide, ⟨in_lwg (i := 994) (by decide +kernel) rfl, in_lwg (i := 995) (by decide +kernel) rfl, in_lwg (i := 83) (by decide +kernel) rfl, in_lwg (i := 996) (by decide +kernel) rfl⟩, ⟨_, rfl, rfl⟩, by decide +kernel, by decide +kernel, by decide +kernel⟩
theorem mw_X7_reads : MW 7 yX7_reads cX7_reads 3 (some .int) 1 := ⟨by decide, ⟨in_lwg (i := 1003) (by decide +kernel) rfl, in_lwg (i := 33) (by decide +kernel) rfl, in_lwg (i := 83) (by decide +kernel) rfl, in_lwg (i := 1004) (by decide +kernel) rfl⟩, ⟨_, rfl, rfl⟩, by decide +kernel, by decide +kernel, by decide +kernel⟩
theorem mw_X7_readsHead : MW 7 yX7_readsHead cX7_readsHead 2 none 1 := ⟨by decide, ⟨in_lwg (i := 1007) (by decide +kernel) rfl, in_lwg (i := 34) (by decide +kernel) rfl, in_lwg (i := 83) (by decide +kernel) rfl, in_lwg (i := 1008) (by decide +kernel) rfl⟩, ⟨_, rfl, rfl⟩, by decide +kernel, by decide +kernel, by decide +kernel⟩
theorem mw_X7_readsShip : MW 7 yX7_readsShip cX7_readsShip 4 none 1 := ⟨by decide, ⟨in_lwg (i := 1027) (by decide +kernel) rfl, in_lwg (i := 39) (by decide +kernel) rfl, in_lwg (i := 83) (by decide +kernel) rfl, in_lwg (i := 1028) (by decide +kernel) rfl⟩, ⟨_, rfl, rfl⟩, by decide +kernel, by decide +kernel, by decide +kernel⟩
theorem mw_X7_row : MW 7 yX7_row cX7_row 3 (some .int) 2 := ⟨by decide, ⟨in_lwg (i := 944) (by decide +kernel) rfl, in_lwg (i := 945) (by decide +kernel) rfl, in_lwg (i := 83) (by decide +kernel) rfl, in_lwg (i := 946) (by decide +kernel) rfl⟩, ⟨_, rfl, rfl⟩, by decide +kernel, by decide +kernel, by decide +kernel⟩
theorem mw_X7_shiftedBy : MW 7 yX7_shiftedBy cX7_shiftedBy 3 (some .int) 2 := ⟨by decide, ⟨in_lwg (i := 1113) (by decide +kernel) rfl, in_lwg (i := 51) (by decide +kernel) rfl, in_lwg (i := 83) (by decide +kernel) rfl, in_lwg (i := 1114) (by decide +kernel) rfl⟩, ⟨_, rfl, rfl⟩, by decide +kernel, by decide +kernel, by decide +kernel⟩
theorem mw_X7_ship : MW 7 yX7_ship cX7_ship 3 (some .int) 2 := ⟨by decide, ⟨in_lwg (i := 1040) (by decide +kernel) rfl, in_lwg (i := 1041) (by decide +kernel) rfl, in_lwg (i := 83) (by decide +kernel) rfl, in_lwg (i := 1042) (by decide +kernel) rfl⟩, ⟨_, rfl, rfl⟩, by decide +kernel, by decide +kernel, by decide +kernel⟩
theorem mw_X7_shipHas : MW 7 yX7_shipHas cX7_shipHas 3 (some .int) 2 := ⟨by decide, ⟨in_lwg (i := 1049) (by decide +kernel) rfl, in_lwg (i := 41) (by decide +kernel) rfl, in_lwg (i := 83) (by decide +kernel) rfl, in_lwg (i := 1050) (by decide +kernel) rfl⟩, ⟨_, rfl, rfl⟩, by decide +kernel, by decide +kernel, by decide +kernel⟩
theorem mw_X7_skips : MW 7 yX7_skips cX7_skips 2 none 1 := ⟨by decide, ⟨in_lwg (i := 1011) (by decide +kernel) rfl, in_lwg (i := 35) (by decide +kernel) rfl, in_lwg (i := 83) (by decide +kernel) rfl, in_lwg (i := 1012) (by decide +kernel) rfl⟩, ⟨_, rfl, rfl⟩, by decide +kernel, by decide +kernel, by decide +kernel⟩
theorem mw_X7_swaps : MW 7 yX7_swaps cX7_swaps 4 none 2 := ⟨by decide, ⟨in_lwg (i := 1208) (by decide +kernel) rfl, in_lwg (i := 62) (by decide +kernel) rfl, in_lwg (i := 83) (by decide +kernel) rfl, in_lwg (i := 1209) (by decide +kernel) rfl⟩, ⟨_, rfl, rfl⟩, by decide +kernel, by decide +kernel, by decide +kernel⟩
theorem mw_X7_takesBack : MW 7 yX7_takesBack cX7_takesBack 3 none 1 := ⟨by decide, ⟨in_lwg (i := 1172) (by decide +kernel) rfl, in_lwg (i := 59) (by decide +kernel) rfl, in_lwg (i := 83) (by decide +kernel) rfl, in_lwg (i := 1173) (by decide +kernel) rfl⟩, ⟨_, rfl, rfl⟩, by decide +kernel, by decide +kernel, by decide +kernel⟩
theorem mw_X7_tea : MW 7 yX7_tea cX7_tea 2 (some .int) 1 := ⟨by decide, ⟨in_lwg (i := 1135) (by decide +kernel) rfl, in_lwg (i := 1136) (by decide +kernel) rfl, in_lwg (i := 83) (by decide +kernel) rfl, in_lwg (i := 1137) (by decide +kernel) rfl⟩, ⟨_, rfl, rfl⟩, by decide +kernel, by decide +kernel, by decide +kernel⟩
theorem mw_X7_tear : MW 7 yX7_tear cX7_tear 2 (some .int) 1 := ⟨by decide, ⟨in_lwg (i := 975) (by decide +kernel) rfl, in_lwg (i := 976) (by decide +kernel) rfl, in_lwg (i := 83) (by decide +kernel) rfl, in_lwg (i := 977) (by decide +kernel) rfl⟩, ⟨_, rfl, rfl⟩, by decide +kernel, by decide +kernel, by decide +kernel⟩
theorem mw_X7_tells : MW 7 yX7_tells cX7_tells 3 (some .int) 2 := ⟨by decide, ⟨in_lwg (i := 971) (by decide +kernel) rfl, in_lwg (i := 32) (by decide +kernel) rfl, in_lwg (i := 83) (by decide +kernel) rfl, in_lwg (i := 972) (by decide +kernel) rfl⟩, ⟨_, rfl, rfl⟩, by decide +kernel, by decide +kernel, by decide +kernel⟩
theorem mw_X7_tellsParts : MW 7 yX7_tellsParts cX7_tellsParts 11 (some .int) 2 := ⟨by decide, ⟨in_lwg (i := 1288) (by decide +kernel) rfl, in_lwg (i := 72) (by decide +kernel) rfl, in_lwg (i := 83) (by decide +kernel) rfl, in_lwg (i := 1289) (by decide +kernel) rfl⟩, ⟨_, rfl, rfl⟩, by decide +kernel, by decide +kernel, by decide +kernel⟩
theorem mw_X7_test : MW 7 yX7_test cX7_test 9 (some .int) 2 := ⟨by decide, ⟨in_lwg (i := 1258) (by decide +kernel) rfl, in_lwg (i := 1259) (by decide +kernel) rfl, in_lwg (i := 83) (by decide +kernel) rfl, in_lwg (i := 1260) (by decide +kernel) rfl⟩, ⟨_, rfl, rfl⟩, by decide +kernel, by decide +kernel, by decide +kernel⟩
theorem mw_X7_text : MW 7 yX7_text cX7_text 4 (some .int) 2 := ⟨by decide, ⟨in_lwg (i := 987) (by decide +kernel) rfl, in_lwg (i := 988) (by decide +kernel) rfl, in_lwg (i := 83) (by decide +kernel) rfl, in_lwg (i := 989) (by decide +kernel) rfl⟩, ⟨_, rfl, rfl⟩, by decide +kernel, by decide +kernel, by decide +kernel⟩
theorem mw_X7_tide : MW 7 yX7_tide cX7_tide 1 (some .int) 0 := ⟨by decide, ⟨in_lwg (i := 1139) (by decide +kernel) rfl, in_lwg (i := 1140) (by decide +kernel) rfl, in_lwg (i := 83) (by decide +kernel) rfl, in_lwg (i := 1141) (by decide +kernel) rfl⟩, ⟨_, rfl, rfl⟩, by decide +kernel, by decide +kernel, by decide +kernel⟩
theorem mw_X7_undo : MW 7 yX7_undo cX7_undo 4 (some .int) 1 := ⟨by decide, ⟨in_lwg (i := 1167) (by decide +kernel) rfl, in_lwg (i := 1168) (by decide +kernel) rfl, in_lwg (i := 83) (by decide +kernel) rfl, in_lwg (i := 1169) (by decide +kernel) rfl⟩, ⟨_, rfl, rfl⟩, by decide +kernel, by decide +kernel, by decide +kernel⟩
theorem mw_X7_upper : MW 7 yX7_upper cX7_upper 1 (some .long) 0 := ⟨by decide, ⟨in_lwg (i := 1307) (by decide +kernel) rfl, in_lwg (i := 1308) (by decide +kernel) rfl, in_lwg (i := 83) (by decide +kernel) rfl, in_lwg (i := 1309) (by decide +kernel) rfl⟩, ⟨_, rfl, rfl⟩, by decide +kernel, by decide +kernel, by decide +kernel⟩
theorem mw_X7_valueOf : MW 7 yX7_valueOf cX7_valueOf 4 (some .int) 1 := ⟨by decide, ⟨in_lwg (i := 1271) (by decide +kernel) rfl, in_lwg (i := 69) (by decide +kernel) rfl, in_lwg (i := 83) (by decide +kernel) rfl, in_lwg (i := 1272) (by decide +kernel) rfl⟩, ⟨_, rfl, rfl⟩, by decide +kernel, by decide +kernel, by decide +kernel⟩
theorem mw_X7_when : MW 7 yX7_when cX7_when 5 (some .int) 2 := ⟨by decide, ⟨in_lwg (i := 1223) (by decide +kernel) rfl, in_lwg (i := 1224) (by decide +kernel) rfl, in_lwg (i := 83) (by decide +kernel) rfl, in_lwg (i := 1225) (by decide +kernel) rfl⟩, ⟨_, rfl, rfl⟩, by decide +kernel, by decide +kernel, by decide +kernel⟩
theorem mw_X7_wrong : MW 7 yX7_wrong cX7_wrong 9 (some .int) 1 := ⟨by decide, ⟨in_lwg (i := 1238) (by decide +kernel) rfl, in_lwg (i := 1239) (by decide +kernel) rfl, in_lwg (i := 83) (by decide +kernel) rfl, in_lwg (i := 1240) (by decide +kernel) rfl⟩, ⟨_, rfl, rfl⟩, by decide +kernel, by decide +kernel, by decide +kernel⟩
theorem mw_X7_year : MW 7 yX7_year cX7_year 1 (some .int) 0 := ⟨by decide, ⟨in_lwg (i := 1163) (by decide +kernel) rfl, in_lwg (i := 1164) (by decide +kernel) rfl, in_lwg (i := 83) (by decide +kernel) rfl, in_lwg (i := 1165) (by decide +kernel) rfl⟩, ⟨_, rfl, rfl⟩, by decide +kernel, by decide +kernel, by decide +kernel⟩
theorem mw_X7_years : MW 7 yX7_years cX7_years 3 (some .int) 1 := ⟨by decide, ⟨in_lwg (i := 1019) (by decide +kernel) rfl, in_lwg (i := 37) (by decide +kernel) rfl, in_lwg (i := 83) (by decide +kernel) rfl, in_lwg (i := 1020) (by decide +kernel) rfl⟩, ⟨_, rfl, rfl⟩, by decide +kernel, by decide +kernel, by decide +kernel⟩
theorem ml_X6_72 : Cond.methodLink RX6 72 yX6_laidOut ∈ lwg := in_lwg (i := 351) (by decide +kernel) rfl
theorem ml_X6_76 : Cond.methodLink RX6 76 yX6_refusalOfPlace ∈ lwg := in_lwg (i := 372) (by decide +kernel) rfl
theorem ml_X6_80 : Cond.methodLink RX6 80 yX5_get ∈ lwg := in_lwg (i := 389) (by decide +kernel) rfl
theorem ml_X6_84 : Cond.methodLink RX6 84 yX5_set ∈ lwg := in_lwg (i := 394) (by decide +kernel) rfl
theorem ml_X6_88 : Cond.methodLink RX6 88 yX6_refusalOfSheet ∈ lwg := in_lwg (i := 376) (by decide +kernel) rfl
theorem ml_X6_92 : Cond.methodLink RX6 92 yX5_drop ∈ lwg := in_lwg (i := 406) (by decide +kernel) rfl
theorem ml_X6_96 : Cond.methodLink RX6 96 yX5_isNumber ∈ lwg := in_lwg (i := 355) (by decide +kernel) rfl
theorem ml_X6_100 : Cond.methodLink RX6 100 yX6_refuse ∈ lwg := in_lwg (i := 359) (by decide +kernel) rfl
theorem ml_X6_104 : Cond.methodLink RX6 104 yX5_isThere ∈ lwg := in_lwg (i := 380) (by decide +kernel) rfl
theorem ml_X6_107 : Cond.methodLink RX6 107 yX5_hasPlaces ∈ lwg := in_lwg (i := 414) (by decide +kernel) rfl
theorem ml_X6_115 : Cond.methodLink RX6 115 arraycopyName ∈ lwg := in_lwg (i := 418) (by decide +kernel) rfl
theorem ml_X6_124 : Cond.methodLink RX6 124 yX1_read ∈ lwg := in_lwg (i := 437) (by decide +kernel) rfl
theorem ml_X6_128 : Cond.methodLink RX6 128 yX6_fault ∈ lwg := in_lwg (i := 474) (by decide +kernel) rfl
theorem ml_X6_134 : Cond.methodLink RX6 134 yX2_begin ∈ lwg := in_lwg (i := 475) (by decide +kernel) rfl
theorem ml_X6_140 : Cond.methodLink RX6 140 yX2_isShip ∈ lwg := in_lwg (i := 507) (by decide +kernel) rfl
theorem ml_X6_143 : Cond.methodLink RX6 143 yX2_fact ∈ lwg := in_lwg (i := 511) (by decide +kernel) rfl
theorem ml_X6_147 : Cond.methodLink RX6 147 yX2_isOf ∈ lwg := in_lwg (i := 533) (by decide +kernel) rfl
theorem ml_X6_151 : Cond.methodLink RX6 151 yX2_markOf ∈ lwg := in_lwg (i := 539) (by decide +kernel) rfl
theorem ml_X6_154 : Cond.methodLink RX6 154 yX2_ageIn ∈ lwg := in_lwg (i := 555) (by decide +kernel) rfl
theorem ml_X6_157 : Cond.methodLink RX6 157 yX6_moved ∈ lwg := in_lwg (i := 560) (by decide +kernel) rfl
theorem ml_X6_161 : Cond.methodLink RX6 161 yX2_hasPaid ∈ lwg := in_lwg (i := 601) (by decide +kernel) rfl
theorem ml_X6_164 : Cond.methodLink RX6 164 yX2_doDeed ∈ lwg := in_lwg (i := 573) (by decide +kernel) rfl
theorem ml_X6_170 : Cond.methodLink RX6 170 yX2_isEmpty ∈ lwg := in_lwg (i := 610) (by decide +kernel) rfl
theorem ml_X6_183 : Cond.methodLink RX6 183 yX2_replay ∈ lwg := in_lwg (i := 622) (by decide +kernel) rfl
theorem ml_X6_187 : Cond.methodLink RX6 187 yX5_make ∈ lwg := in_lwg (i := 363) (by decide +kernel) rfl
theorem ml_X6_193 : Cond.methodLink RX6 193 yJ6_bitCount_0f7a4 ∈ lwg := in_lwg (i := 640) (by decide +kernel) rfl
theorem ml_X6_198 : Cond.methodLink RX6 198 yX2_isIn ∈ lwg := in_lwg (i := 564) (by decide +kernel) rfl
theorem ml_X6_201 : Cond.methodLink RX6 201 yX2_berthNow ∈ lwg := in_lwg (i := 641) (by decide +kernel) rfl
theorem ml_X6_204 : Cond.methodLink RX6 204 yX2_shiftedBy ∈ lwg := in_lwg (i := 646) (by decide +kernel) rfl
theorem ml_X6_207 : Cond.methodLink RX6 207 yX2_tooDeepBy ∈ lwg := in_lwg (i := 651) (by decide +kernel) rfl
theorem ml_X6_210 : Cond.methodLink RX6 210 yX2_tooDeep ∈ lwg := in_lwg (i := 652) (by decide +kernel) rfl
theorem ml_X6_214 : Cond.methodLink RX6 214 yX4_findBest ∈ lwg := in_lwg (i := 657) (by decide +kernel) rfl
theorem ml_X6_229 : Cond.methodLink RX6 229 yX6_refusalOfShips ∈ lwg := in_lwg (i := 691) (by decide +kernel) rfl
theorem ml_X6_232 : Cond.methodLink RX6 232 yX4_begin ∈ lwg := in_lwg (i := 695) (by decide +kernel) rfl
theorem ml_X6_233 : Cond.methodLink RX6 233 yX4_takes ∈ lwg := in_lwg (i := 696) (by decide +kernel) rfl
theorem ml_X6_242 : Cond.methodLink RX6 242 yX6_isBerth ∈ lwg := in_lwg (i := 701) (by decide +kernel) rfl
theorem ml_X6_245 : Cond.methodLink RX6 245 yX2_berthIn ∈ lwg := in_lwg (i := 704) (by decide +kernel) rfl
theorem ml_X6_248 : Cond.methodLink RX6 248 yX2_ageIfBuilt ∈ lwg := in_lwg (i := 712) (by decide +kernel) rfl
theorem ml_X6_251 : Cond.methodLink RX6 251 yX2_ageWithTea ∈ lwg := in_lwg (i := 720) (by decide +kernel) rfl
theorem ml_X6_257 : Cond.methodLink RX6 257 yX6_refusalOfPairs ∈ lwg := in_lwg (i := 732) (by decide +kernel) rfl
theorem ml_X6_260 : Cond.methodLink RX6 260 yX6_possibleKinds ∈ lwg := in_lwg (i := 736) (by decide +kernel) rfl
theorem ml_X6_263 : Cond.methodLink RX6 263 yX2_greatestPart ∈ lwg := in_lwg (i := 749) (by decide +kernel) rfl
theorem ml_X6_266 : Cond.methodLink RX6 266 yX3_outcome ∈ lwg := in_lwg (i := 761) (by decide +kernel) rfl
theorem ml_X6_269 : Cond.methodLink RX6 269 yX6_isOfTwelve ∈ lwg := in_lwg (i := 783) (by decide +kernel) rfl
theorem ml_X6_272 : Cond.methodLink RX6 272 yX0_tellNearer ∈ lwg := in_lwg (i := 786) (by decide +kernel) rfl
theorem ml_X6_275 : Cond.methodLink RX6 275 yX0_tellMean ∈ lwg := in_lwg (i := 809) (by decide +kernel) rfl
theorem ml_X6_284 : Cond.methodLink RX6 284 yX2_hasHoursFor ∈ lwg := in_lwg (i := 565) (by decide +kernel) rfl
theorem ml_X6_294 : Cond.methodLink RX6 294 yX6_counted ∈ lwg := in_lwg (i := 836) (by decide +kernel) rfl
theorem ml_X6_301 : Cond.methodLink RX6 301 yX5_digestFrom ∈ lwg := in_lwg (i := 867) (by decide +kernel) rfl
theorem ml_X6_305 : Cond.methodLink RX6 305 yX5_isPlace ∈ lwg := in_lwg (i := 384) (by decide +kernel) rfl
theorem ml_X6_311 : Cond.methodLink RX6 311 yX6_fitsPairs ∈ lwg := in_lwg (i := 740) (by decide +kernel) rfl
theorem ml_X6_314 : Cond.methodLink RX6 314 yX2_ageAs ∈ lwg := in_lwg (i := 744) (by decide +kernel) rfl
theorem ml_X6_321 : Cond.methodLink RX6 321 yX2_allAground ∈ lwg := in_lwg (i := 840) (by decide +kernel) rfl
theorem ml_X6_324 : Cond.methodLink RX6 324 yX2_bells ∈ lwg := in_lwg (i := 844) (by decide +kernel) rfl
theorem ml_X6_327 : Cond.methodLink RX6 327 yX5_howMany ∈ lwg := in_lwg (i := 849) (by decide +kernel) rfl
theorem ml_X0_22 : Cond.methodLink RX0 22 yX0_spread ∈ lwg := in_lwg (i := 790) (by decide +kernel) rfl
theorem ml_X0_28 : Cond.methodLink RX0 28 yX0_tellInLowestTerms ∈ lwg := in_lwg (i := 798) (by decide +kernel) rfl
theorem ml_X0_32 : Cond.methodLink RX0 32 yJ7_fill_d0a16 ∈ lwg := in_lwg (i := 794) (by decide +kernel) rfl
theorem ml_X0_38 : Cond.methodLink RX0 38 yX0_commonDivisor ∈ lwg := in_lwg (i := 802) (by decide +kernel) rfl
theorem ml_X1_40 : Cond.methodLink RX1 40 yX1_skipBlanks ∈ lwg := in_lwg (i := 441) (by decide +kernel) rfl
theorem ml_X1_44 : Cond.methodLink RX1 44 yX1_readHead ∈ lwg := in_lwg (i := 449) (by decide +kernel) rfl
theorem ml_X1_48 : Cond.methodLink RX1 48 yX1_readShip ∈ lwg := in_lwg (i := 461) (by decide +kernel) rfl
theorem ml_X1_51 : Cond.methodLink RX1 51 yX1_signHere ∈ lwg := in_lwg (i := 445) (by decide +kernel) rfl
theorem ml_X1_55 : Cond.methodLink RX1 55 yX1_readTwoFigures ∈ lwg := in_lwg (i := 453) (by decide +kernel) rfl
theorem ml_X1_58 : Cond.methodLink RX1 58 yX1_readFigure ∈ lwg := in_lwg (i := 457) (by decide +kernel) rfl
theorem ml_X1_62 : Cond.methodLink RX1 62 yX1_kindOf ∈ lwg := in_lwg (i := 465) (by decide +kernel) rfl
theorem ml_X2_53 : Cond.methodLink RX2 53 yJ7_fill_53178 ∈ lwg := in_lwg (i := 479) (by decide +kernel) rfl
theorem ml_X2_65 : Cond.methodLink RX2 65 yX2_settle ∈ lwg := in_lwg (i := 480) (by decide +kernel) rfl
theorem ml_X2_74 : Cond.methodLink RX2 74 yX2_ageAs ∈ lwg := in_lwg (i := 484) (by decide +kernel) rfl
theorem ml_X2_78 : Cond.methodLink RX2 78 yX2_isAhead ∈ lwg := in_lwg (i := 499) (by decide +kernel) rfl
theorem ml_X2_82 : Cond.methodLink RX2 82 yX2_begin ∈ lwg := in_lwg (i := 626) (by decide +kernel) rfl
theorem ml_X2_85 : Cond.methodLink RX2 85 yX2_doDeed ∈ lwg := in_lwg (i := 627) (by decide +kernel) rfl
theorem ml_X2_89 : Cond.methodLink RX2 89 yX2_move ∈ lwg := in_lwg (i := 577) (by decide +kernel) rfl
theorem ml_X2_93 : Cond.methodLink RX2 93 yX2_tooDeep ∈ lwg := in_lwg (i := 581) (by decide +kernel) rfl
theorem ml_X2_97 : Cond.methodLink RX2 97 yX2_runAground ∈ lwg := in_lwg (i := 589) (by decide +kernel) rfl
theorem ml_X2_100 : Cond.methodLink RX2 100 yX2_shiftedBy ∈ lwg := in_lwg (i := 569) (by decide +kernel) rfl
theorem ml_X2_109 : Cond.methodLink RX2 109 yX2_past ∈ lwg := in_lwg (i := 488) (by decide +kernel) rfl
theorem ml_X2_112 : Cond.methodLink RX2 112 yX2_hasPaid ∈ lwg := in_lwg (i := 492) (by decide +kernel) rfl
theorem ml_X2_116 : Cond.methodLink RX2 116 yX2_ageBy ∈ lwg := in_lwg (i := 496) (by decide +kernel) rfl
theorem ml_X2_120 : Cond.methodLink RX2 120 Lib.Math.max.name ∈ lwg := in_lwg (i := 491) (by decide +kernel) rfl
theorem ml_X2_131 : Cond.methodLink RX2 131 yX2_ageIn ∈ lwg := in_lwg (i := 547) (by decide +kernel) rfl
theorem ml_X2_134 : Cond.methodLink RX2 134 yX2_aheadIn ∈ lwg := in_lwg (i := 543) (by decide +kernel) rfl
theorem ml_X2_137 : Cond.methodLink RX2 137 yJ6_bitCount_0f7a4 ∈ lwg := in_lwg (i := 523) (by decide +kernel) rfl
theorem ml_X2_142 : Cond.methodLink RX2 142 yX2_isIn ∈ lwg := in_lwg (i := 515) (by decide +kernel) rfl
theorem ml_X2_148 : Cond.methodLink RX2 148 yX2_berthNow ∈ lwg := in_lwg (i := 519) (by decide +kernel) rfl
theorem ml_X2_151 : Cond.methodLink RX2 151 yX2_tooDeepBy ∈ lwg := in_lwg (i := 585) (by decide +kernel) rfl
theorem ml_X2_154 : Cond.methodLink RX2 154 yX2_isOf ∈ lwg := in_lwg (i := 848) (by decide +kernel) rfl
theorem ml_X2_158 : Cond.methodLink RX2 158 yX2_alike ∈ lwg := in_lwg (i := 753) (by decide +kernel) rfl
theorem ml_X3_34 : Cond.methodLink RX3 34 yX3_worthAtEnd ∈ lwg := in_lwg (i := 765) (by decide +kernel) rfl
theorem ml_X3_38 : Cond.methodLink RX3 38 arraycopyName ∈ lwg := in_lwg (i := 770) (by decide +kernel) rfl
theorem ml_X3_44 : Cond.methodLink RX3 44 yX3_worthBefore ∈ lwg := in_lwg (i := 771) (by decide +kernel) rfl
theorem ml_X3_54 : Cond.methodLink RX3 54 yJ6_bitCount_0f7a4 ∈ lwg := in_lwg (i := 769) (by decide +kernel) rfl
theorem ml_X3_59 : Cond.methodLink RX3 59 Lib.Math.max.name ∈ lwg := in_lwg (i := 775) (by decide +kernel) rfl
theorem ml_X3_64 : Cond.methodLink RX3 64 Lib.Math.min.name ∈ lwg := in_lwg (i := 776) (by decide +kernel) rfl
theorem ml_X4_55 : Cond.methodLink RX4 55 yJ6_bitCount_0f7a4 ∈ lwg := in_lwg (i := 686) (by decide +kernel) rfl
theorem ml_X4_70 : Cond.methodLink RX4 70 yX4_begin ∈ lwg := in_lwg (i := 661) (by decide +kernel) rfl
theorem ml_X4_73 : Cond.methodLink RX4 73 yX4_seek ∈ lwg := in_lwg (i := 665) (by decide +kernel) rfl
theorem ml_X4_77 : Cond.methodLink RX4 77 yX4_isBetter ∈ lwg := in_lwg (i := 669) (by decide +kernel) rfl
theorem ml_X4_84 : Cond.methodLink RX4 84 yX4_keepPath ∈ lwg := in_lwg (i := 673) (by decide +kernel) rfl
theorem ml_X4_87 : Cond.methodLink RX4 87 yX4_seekBehind ∈ lwg := in_lwg (i := 678) (by decide +kernel) rfl
theorem ml_X4_91 : Cond.methodLink RX4 91 yX4_takes ∈ lwg := in_lwg (i := 682) (by decide +kernel) rfl
theorem ml_X4_95 : Cond.methodLink RX4 95 arraycopyName ∈ lwg := in_lwg (i := 677) (by decide +kernel) rfl
theorem ml_X5_9 : Cond.methodLink RX5 9 Lib.Math.max.name ∈ lwg := in_lwg (i := 100) (by decide +kernel) rfl
theorem ml_X5_33 : Cond.methodLink RX5 33 yJ7_fill_53178 ∈ lwg := in_lwg (i := 105) (by decide +kernel) rfl
theorem ml_X5_39 : Cond.methodLink RX5 39 yX5_isNumber ∈ lwg := in_lwg (i := 367) (by decide +kernel) rfl
theorem ml_X5_43 : Cond.methodLink RX5 43 yX5_isThere ∈ lwg := in_lwg (i := 388) (by decide +kernel) rfl
theorem ml_X5_46 : Cond.methodLink RX5 46 yX5_isPlace ∈ lwg := in_lwg (i := 393) (by decide +kernel) rfl
theorem ml_L_13 : Cond.methodLink RL 13 yX6_row ∈ lwg := in_lwg (i := 347) (by decide +kernel) rfl
theorem ml_L_17 : Cond.methodLink RL 17 yX7_row ∈ lwg := in_lwg (i := 943) (by decide +kernel) rfl
theorem ml_L_18 : Cond.methodLink RL 18 yX6_lay ∈ lwg := in_lwg (i := 368) (by decide +kernel) rfl
theorem ml_L_22 : Cond.methodLink RL 22 yX7_lay ∈ lwg := in_lwg (i := 961) (by decide +kernel) rfl
theorem ml_L_23 : Cond.methodLink RL 23 yX6_at ∈ lwg := in_lwg (i := 398) (by decide +kernel) rfl
theorem ml_L_26 : Cond.methodLink RL 26 yX7_at ∈ lwg := in_lwg (i := 973) (by decide +kernel) rfl
theorem ml_L_27 : Cond.methodLink RL 27 yX6_tear ∈ lwg := in_lwg (i := 402) (by decide +kernel) rfl
theorem ml_L_31 : Cond.methodLink RL 31 yX7_tear ∈ lwg := in_lwg (i := 974) (by decide +kernel) rfl
theorem ml_L_32 : Cond.methodLink RL 32 yX6_copy ∈ lwg := in_lwg (i := 410) (by decide +kernel) rfl
theorem ml_L_36 : Cond.methodLink RL 36 yX7_copy ∈ lwg := in_lwg (i := 978) (by decide +kernel) rfl
theorem ml_L_37 : Cond.methodLink RL 37 yX6_mean ∈ lwg := in_lwg (i := 421) (by decide +kernel) rfl
theorem ml_L_40 : Cond.methodLink RL 40 yX7_mean ∈ lwg := in_lwg (i := 982) (by decide +kernel) rfl
theorem ml_L_41 : Cond.methodLink RL 41 yX6_text ∈ lwg := in_lwg (i := 425) (by decide +kernel) rfl
theorem ml_L_44 : Cond.methodLink RL 44 yX7_text ∈ lwg := in_lwg (i := 986) (by decide +kernel) rfl
theorem ml_L_45 : Cond.methodLink RL 45 yX6_put ∈ lwg := in_lwg (i := 429) (by decide +kernel) rfl
theorem ml_L_48 : Cond.methodLink RL 48 yX7_put ∈ lwg := in_lwg (i := 993) (by decide +kernel) rfl
theorem ml_L_49 : Cond.methodLink RL 49 yX6_fault ∈ lwg := in_lwg (i := 433) (by decide +kernel) rfl
theorem ml_L_52 : Cond.methodLink RL 52 yX7_fault ∈ lwg := in_lwg (i := 997) (by decide +kernel) rfl
theorem ml_L_53 : Cond.methodLink RL 53 yX6_harbour ∈ lwg := in_lwg (i := 470) (by decide +kernel) rfl
theorem ml_L_56 : Cond.methodLink RL 56 yX7_harbour ∈ lwg := in_lwg (i := 1032) (by decide +kernel) rfl
theorem ml_L_57 : Cond.methodLink RL 57 yX6_ship ∈ lwg := in_lwg (i := 503) (by decide +kernel) rfl
theorem ml_L_60 : Cond.methodLink RL 60 yX7_ship ∈ lwg := in_lwg (i := 1039) (by decide +kernel) rfl
theorem ml_L_61 : Cond.methodLink RL 61 yX6_mark ∈ lwg := in_lwg (i := 529) (by decide +kernel) rfl
theorem ml_L_64 : Cond.methodLink RL 64 yX7_mark ∈ lwg := in_lwg (i := 1084) (by decide +kernel) rfl
theorem ml_L_65 : Cond.methodLink RL 65 yX6_age ∈ lwg := in_lwg (i := 551) (by decide +kernel) rfl
theorem ml_L_68 : Cond.methodLink RL 68 yX7_age ∈ lwg := in_lwg (i := 1099) (by decide +kernel) rfl
theorem ml_L_69 : Cond.methodLink RL 69 yX6_come ∈ lwg := in_lwg (i := 556) (by decide +kernel) rfl
theorem ml_L_72 : Cond.methodLink RL 72 yX7_come ∈ lwg := in_lwg (i := 1103) (by decide +kernel) rfl
theorem ml_L_73 : Cond.methodLink RL 73 yX6_leave ∈ lwg := in_lwg (i := 593) (by decide +kernel) rfl
theorem ml_L_76 : Cond.methodLink RL 76 yX7_leave ∈ lwg := in_lwg (i := 1126) (by decide +kernel) rfl
theorem ml_L_77 : Cond.methodLink RL 77 yX6_pay ∈ lwg := in_lwg (i := 597) (by decide +kernel) rfl
theorem ml_L_80 : Cond.methodLink RL 80 yX7_pay ∈ lwg := in_lwg (i := 1130) (by decide +kernel) rfl
theorem ml_L_81 : Cond.methodLink RL 81 yX6_tea ∈ lwg := in_lwg (i := 602) (by decide +kernel) rfl
theorem ml_L_84 : Cond.methodLink RL 84 yX7_tea ∈ lwg := in_lwg (i := 1134) (by decide +kernel) rfl
theorem ml_L_85 : Cond.methodLink RL 85 yX6_tide ∈ lwg := in_lwg (i := 606) (by decide +kernel) rfl
theorem ml_L_89 : Cond.methodLink RL 89 yX7_tide ∈ lwg := in_lwg (i := 1138) (by decide +kernel) rfl
theorem ml_L_90 : Cond.methodLink RL 90 yX6_year ∈ lwg := in_lwg (i := 614) (by decide +kernel) rfl
theorem ml_L_93 : Cond.methodLink RL 93 yX7_year ∈ lwg := in_lwg (i := 1162) (by decide +kernel) rfl
theorem ml_L_94 : Cond.methodLink RL 94 yX6_undo ∈ lwg := in_lwg (i := 618) (by decide +kernel) rfl
theorem ml_L_97 : Cond.methodLink RL 97 yX7_undo ∈ lwg := in_lwg (i := 1166) (by decide +kernel) rfl
theorem ml_L_98 : Cond.methodLink RL 98 yX6_keep ∈ lwg := in_lwg (i := 628) (by decide +kernel) rfl
theorem ml_L_101 : Cond.methodLink RL 101 yX7_keep ∈ lwg := in_lwg (i := 1174) (by decide +kernel) rfl
theorem ml_L_102 : Cond.methodLink RL 102 yX6_on ∈ lwg := in_lwg (i := 632) (by decide +kernel) rfl
theorem ml_L_105 : Cond.methodLink RL 105 yX7_on ∈ lwg := in_lwg (i := 1178) (by decide +kernel) rfl
theorem ml_L_106 : Cond.methodLink RL 106 yX6_berths ∈ lwg := in_lwg (i := 636) (by decide +kernel) rfl
theorem ml_L_109 : Cond.methodLink RL 109 yX7_berths ∈ lwg := in_lwg (i := 1182) (by decide +kernel) rfl
theorem ml_L_110 : Cond.methodLink RL 110 yX6_hours ∈ lwg := in_lwg (i := 642) (by decide +kernel) rfl
theorem ml_L_113 : Cond.methodLink RL 113 yX7_hours ∈ lwg := in_lwg (i := 1186) (by decide +kernel) rfl
theorem ml_L_114 : Cond.methodLink RL 114 yX6_ground ∈ lwg := in_lwg (i := 647) (by decide +kernel) rfl
theorem ml_L_117 : Cond.methodLink RL 117 yX7_ground ∈ lwg := in_lwg (i := 1190) (by decide +kernel) rfl
theorem ml_L_118 : Cond.methodLink RL 118 yX6_enter ∈ lwg := in_lwg (i := 653) (by decide +kernel) rfl
theorem ml_L_121 : Cond.methodLink RL 121 yX7_enter ∈ lwg := in_lwg (i := 1194) (by decide +kernel) rfl
theorem ml_L_122 : Cond.methodLink RL 122 yX6_order ∈ lwg := in_lwg (i := 687) (by decide +kernel) rfl
theorem ml_L_125 : Cond.methodLink RL 125 yX7_order ∈ lwg := in_lwg (i := 1210) (by decide +kernel) rfl
theorem ml_L_126 : Cond.methodLink RL 126 yX6_when ∈ lwg := in_lwg (i := 697) (by decide +kernel) rfl
theorem ml_L_129 : Cond.methodLink RL 129 yX7_when ∈ lwg := in_lwg (i := 1222) (by decide +kernel) rfl
theorem ml_L_130 : Cond.methodLink RL 130 yX6_built ∈ lwg := in_lwg (i := 708) (by decide +kernel) rfl
theorem ml_L_133 : Cond.methodLink RL 133 yX7_built ∈ lwg := in_lwg (i := 1229) (by decide +kernel) rfl
theorem ml_L_134 : Cond.methodLink RL 134 yX6_least ∈ lwg := in_lwg (i := 716) (by decide +kernel) rfl
theorem ml_L_137 : Cond.methodLink RL 137 yX7_least ∈ lwg := in_lwg (i := 1233) (by decide +kernel) rfl
theorem ml_L_138 : Cond.methodLink RL 138 yX6_wrong ∈ lwg := in_lwg (i := 724) (by decide +kernel) rfl
theorem ml_L_141 : Cond.methodLink RL 141 yX7_wrong ∈ lwg := in_lwg (i := 1237) (by decide +kernel) rfl
theorem ml_L_142 : Cond.methodLink RL 142 yX6_kinds ∈ lwg := in_lwg (i := 728) (by decide +kernel) rfl
theorem ml_L_145 : Cond.methodLink RL 145 yX7_kinds ∈ lwg := in_lwg (i := 1241) (by decide +kernel) rfl
theorem ml_L_146 : Cond.methodLink RL 146 yX6_test ∈ lwg := in_lwg (i := 745) (by decide +kernel) rfl
theorem ml_L_149 : Cond.methodLink RL 149 yX7_test ∈ lwg := in_lwg (i := 1257) (by decide +kernel) rfl
theorem ml_L_150 : Cond.methodLink RL 150 yX6_duel ∈ lwg := in_lwg (i := 757) (by decide +kernel) rfl
theorem ml_L_153 : Cond.methodLink RL 153 yX7_duel ∈ lwg := in_lwg (i := 1265) (by decide +kernel) rfl
theorem ml_L_154 : Cond.methodLink RL 154 yX6_odds ∈ lwg := in_lwg (i := 779) (by decide +kernel) rfl
theorem ml_L_157 : Cond.methodLink RL 157 yX7_odds ∈ lwg := in_lwg (i := 1277) (by decide +kernel) rfl
theorem ml_L_158 : Cond.methodLink RL 158 yX6_mid ∈ lwg := in_lwg (i := 805) (by decide +kernel) rfl
theorem ml_L_161 : Cond.methodLink RL 161 yX7_mid ∈ lwg := in_lwg (i := 1290) (by decide +kernel) rfl
theorem ml_L_162 : Cond.methodLink RL 162 yX6_lots ∈ lwg := in_lwg (i := 813) (by decide +kernel) rfl
theorem ml_L_165 : Cond.methodLink RL 165 yX7_lots ∈ lwg := in_lwg (i := 1294) (by decide +kernel) rfl
theorem ml_L_166 : Cond.methodLink RL 166 yX6_asked ∈ lwg := in_lwg (i := 820) (by decide +kernel) rfl
theorem ml_L_169 : Cond.methodLink RL 169 yX7_asked ∈ lwg := in_lwg (i := 1302) (by decide +kernel) rfl
theorem ml_L_170 : Cond.methodLink RL 170 yX6_upper ∈ lwg := in_lwg (i := 824) (by decide +kernel) rfl
theorem ml_L_174 : Cond.methodLink RL 174 yX7_upper ∈ lwg := in_lwg (i := 1306) (by decide +kernel) rfl
theorem ml_L_175 : Cond.methodLink RL 175 yX6_lower ∈ lwg := in_lwg (i := 828) (by decide +kernel) rfl
theorem ml_L_178 : Cond.methodLink RL 178 yX7_lower ∈ lwg := in_lwg (i := 1310) (by decide +kernel) rfl
theorem ml_L_179 : Cond.methodLink RL 179 yX6_count ∈ lwg := in_lwg (i := 832) (by decide +kernel) rfl
theorem ml_L_182 : Cond.methodLink RL 182 yX7_count ∈ lwg := in_lwg (i := 1314) (by decide +kernel) rfl
theorem ml_L_183 : Cond.methodLink RL 183 yX6_finding ∈ lwg := in_lwg (i := 853) (by decide +kernel) rfl
theorem ml_L_186 : Cond.methodLink RL 186 yX7_finding ∈ lwg := in_lwg (i := 1318) (by decide +kernel) rfl
theorem ml_L_187 : Cond.methodLink RL 187 yX6_findings ∈ lwg := in_lwg (i := 857) (by decide +kernel) rfl
theorem ml_L_190 : Cond.methodLink RL 190 yX7_findings ∈ lwg := in_lwg (i := 1322) (by decide +kernel) rfl
theorem ml_L_191 : Cond.methodLink RL 191 yX6_digest ∈ lwg := in_lwg (i := 861) (by decide +kernel) rfl
theorem ml_L_194 : Cond.methodLink RL 194 yX7_digest ∈ lwg := in_lwg (i := 1326) (by decide +kernel) rfl
theorem ml_X7_64 : Cond.methodLink RX7 64 yX7_in ∈ lwg := in_lwg (i := 950) (by decide +kernel) rfl
theorem ml_X7_68 : Cond.methodLink RX7 68 yX7_isRow ∈ lwg := in_lwg (i := 947) (by decide +kernel) rfl
theorem ml_X7_72 : Cond.methodLink RX7 72 yX7_finds ∈ lwg := in_lwg (i := 953) (by decide +kernel) rfl
theorem ml_X7_76 : Cond.methodLink RX7 76 yX7_lays ∈ lwg := in_lwg (i := 957) (by decide +kernel) rfl
theorem ml_X7_80 : Cond.methodLink RX7 80 yX7_at ∈ lwg := in_lwg (i := 965) (by decide +kernel) rfl
theorem ml_X7_84 : Cond.methodLink RX7 84 yX7_tells ∈ lwg := in_lwg (i := 969) (by decide +kernel) rfl
theorem ml_X7_87 : Cond.methodLink RX7 87 yX7_isText ∈ lwg := in_lwg (i := 990) (by decide +kernel) rfl
theorem ml_X7_97 : Cond.methodLink RX7 97 yX7_look ∈ lwg := in_lwg (i := 1013) (by decide +kernel) rfl
theorem ml_X7_100 : Cond.methodLink RX7 100 yX7_figure ∈ lwg := in_lwg (i := 1021) (by decide +kernel) rfl
theorem ml_X7_103 : Cond.methodLink RX7 103 yX7_skips ∈ lwg := in_lwg (i := 1009) (by decide +kernel) rfl
theorem ml_X7_107 : Cond.methodLink RX7 107 yX7_years ∈ lwg := in_lwg (i := 1017) (by decide +kernel) rfl
theorem ml_X7_110 : Cond.methodLink RX7 110 yX7_kindOf ∈ lwg := in_lwg (i := 1029) (by decide +kernel) rfl
theorem ml_X7_113 : Cond.methodLink RX7 113 yX7_readsHead ∈ lwg := in_lwg (i := 1005) (by decide +kernel) rfl
theorem ml_X7_116 : Cond.methodLink RX7 116 yX7_readsShip ∈ lwg := in_lwg (i := 1025) (by decide +kernel) rfl
theorem ml_X7_119 : Cond.methodLink RX7 119 yX7_reads ∈ lwg := in_lwg (i := 1001) (by decide +kernel) rfl
theorem ml_X7_122 : Cond.methodLink RX7 122 yX7_copies ∈ lwg := in_lwg (i := 1036) (by decide +kernel) rfl
theorem ml_X7_126 : Cond.methodLink RX7 126 yX7_of ∈ lwg := in_lwg (i := 1051) (by decide +kernel) rfl
theorem ml_X7_129 : Cond.methodLink RX7 129 yX7_oldIn ∈ lwg := in_lwg (i := 1063) (by decide +kernel) rfl
theorem ml_X7_132 : Cond.methodLink RX7 132 yX7_aged ∈ lwg := in_lwg (i := 1066) (by decide +kernel) rfl
theorem ml_X7_136 : Cond.methodLink RX7 136 yX7_ageIn ∈ lwg := in_lwg (i := 1059) (by decide +kernel) rfl
theorem ml_X7_139 : Cond.methodLink RX7 139 yX7_ageNow ∈ lwg := in_lwg (i := 1055) (by decide +kernel) rfl
theorem ml_X7_142 : Cond.methodLink RX7 142 yX7_isAheadBy ∈ lwg := in_lwg (i := 1080) (by decide +kernel) rfl
theorem ml_X7_146 : Cond.methodLink RX7 146 yX7_has ∈ lwg := in_lwg (i := 1069) (by decide +kernel) rfl
theorem ml_X7_150 : Cond.methodLink RX7 150 yX7_berthBy ∈ lwg := in_lwg (i := 1076) (by decide +kernel) rfl
theorem ml_X7_153 : Cond.methodLink RX7 153 yX7_ones ∈ lwg := in_lwg (i := 1115) (by decide +kernel) rfl
theorem ml_X7_156 : Cond.methodLink RX7 156 yX7_berthIn ∈ lwg := in_lwg (i := 1072) (by decide +kernel) rfl
theorem ml_X7_159 : Cond.methodLink RX7 159 yX7_isShip ∈ lwg := in_lwg (i := 1043) (by decide +kernel) rfl
theorem ml_X7_162 : Cond.methodLink RX7 162 yX7_shipHas ∈ lwg := in_lwg (i := 1047) (by decide +kernel) rfl
theorem ml_X7_165 : Cond.methodLink RX7 165 yX7_isAhead ∈ lwg := in_lwg (i := 1095) (by decide +kernel) rfl
theorem ml_X7_168 : Cond.methodLink RX7 168 yX7_isOf ∈ lwg := in_lwg (i := 1088) (by decide +kernel) rfl
theorem ml_X7_171 : Cond.methodLink RX7 171 yX7_markOf ∈ lwg := in_lwg (i := 1091) (by decide +kernel) rfl
theorem ml_X7_174 : Cond.methodLink RX7 174 yX7_shiftedBy ∈ lwg := in_lwg (i := 1111) (by decide +kernel) rfl
theorem ml_X7_177 : Cond.methodLink RX7 177 yX7_notes ∈ lwg := in_lwg (i := 1122) (by decide +kernel) rfl
theorem ml_X7_181 : Cond.methodLink RX7 181 yX7_goes ∈ lwg := in_lwg (i := 1118) (by decide +kernel) rfl
theorem ml_X7_184 : Cond.methodLink RX7 184 yX7_moves ∈ lwg := in_lwg (i := 1107) (by decide +kernel) rfl
theorem ml_X7_188 : Cond.methodLink RX7 188 yX7_excess ∈ lwg := in_lwg (i := 1154) (by decide +kernel) rfl
theorem ml_X7_191 : Cond.methodLink RX7 191 yX7_grounded ∈ lwg := in_lwg (i := 1150) (by decide +kernel) rfl
theorem ml_X7_195 : Cond.methodLink RX7 195 yX7_grounds ∈ lwg := in_lwg (i := 1158) (by decide +kernel) rfl
theorem ml_X7_198 : Cond.methodLink RX7 198 yX7_are ∈ lwg := in_lwg (i := 1142) (by decide +kernel) rfl
theorem ml_X7_202 : Cond.methodLink RX7 202 yX7_ebbs ∈ lwg := in_lwg (i := 1146) (by decide +kernel) rfl
theorem ml_X7_205 : Cond.methodLink RX7 205 yX7_takesBack ∈ lwg := in_lwg (i := 1170) (by decide +kernel) rfl
theorem ml_X7_214 : Cond.methodLink RX7 214 yX7_swaps ∈ lwg := in_lwg (i := 1206) (by decide +kernel) rfl
theorem ml_X7_217 : Cond.methodLink RX7 217 yX7_enters ∈ lwg := in_lwg (i := 1198) (by decide +kernel) rfl
theorem ml_X7_220 : Cond.methodLink RX7 220 yX7_nextOrder ∈ lwg := in_lwg (i := 1202) (by decide +kernel) rfl
theorem ml_X7_223 : Cond.methodLink RX7 223 yX7_all ∈ lwg := in_lwg (i := 1214) (by decide +kernel) rfl
theorem ml_X7_226 : Cond.methodLink RX7 226 yX7_areOnce ∈ lwg := in_lwg (i := 1218) (by decide +kernel) rfl
theorem ml_X7_229 : Cond.methodLink RX7 229 yX7_isBerth ∈ lwg := in_lwg (i := 1226) (by decide +kernel) rfl
theorem ml_X7_232 : Cond.methodLink RX7 232 yX7_ageAs ∈ lwg := in_lwg (i := 1253) (by decide +kernel) rfl
theorem ml_X7_236 : Cond.methodLink RX7 236 yX7_barred ∈ lwg := in_lwg (i := 1245) (by decide +kernel) rfl
theorem ml_X7_239 : Cond.methodLink RX7 239 yX7_kindsBy ∈ lwg := in_lwg (i := 1249) (by decide +kernel) rfl
theorem ml_X7_242 : Cond.methodLink RX7 242 yX7_alike ∈ lwg := in_lwg (i := 1261) (by decide +kernel) rfl
theorem ml_X7_245 : Cond.methodLink RX7 245 yX7_valueOf ∈ lwg := in_lwg (i := 1269) (by decide +kernel) rfl
theorem ml_X7_248 : Cond.methodLink RX7 248 yX7_comes ∈ lwg := in_lwg (i := 1273) (by decide +kernel) rfl
theorem ml_X7_253 : Cond.methodLink RX7 253 yX7_tellsParts ∈ lwg := in_lwg (i := 1286) (by decide +kernel) rfl
theorem ml_X7_257 : Cond.methodLink RX7 257 yX7_chance ∈ lwg := in_lwg (i := 1281) (by decide +kernel) rfl
theorem ml_X7_271 : Cond.methodLink RX7 271 yX7_count ∈ lwg := in_lwg (i := 1332) (by decide +kernel) rfl
theorem fl_X6_14 : FL RX6 14 6 0 := ⟨(RX6, TX6, 11), rfl, by decide, in_lwg (i := 313) (by decide +kernel) rfl, rfl⟩
theorem fl_X6_18 : FL RX6 18 6 1 := ⟨(RX6, TX6, 11), rfl, by decide, in_lwg (i := 314) (by decide +kernel) rfl, rfl⟩
theorem fl_X6_21 : FL RX6 21 6 2 := ⟨(RX6, TX6, 11), rfl, by decide, in_lwg (i := 315) (by decide +kernel) rfl, rfl⟩
theorem fl_X6_27 : FL RX6 27 6 3 := ⟨(RX6, TX6, 11), rfl, by decide, in_lwg (i := 316) (by decide +kernel) rfl, rfl⟩
theorem fl_X6_34 : FL RX6 34 6 4 := ⟨(RX6, TX6, 11), rfl, by decide, in_lwg (i := 317) (by decide +kernel) rfl, rfl⟩
theorem fl_X6_43 : FL RX6 43 6 5 := ⟨(RX6, TX6, 11), rfl, by decide, in_lwg (i := 318) (by decide +kernel) rfl, rfl⟩
theorem fl_X6_50 : FL RX6 50 6 6 := ⟨(RX6, TX6, 11), rfl, by decide, in_lwg (i := 319) (by decide +kernel) rfl, rfl⟩
theorem fl_X6_57 : FL RX6 57 6 7 := ⟨(RX6, TX6, 11), rfl, by decide, in_lwg (i := 320) (by decide +kernel) rfl, rfl⟩
theorem fl_X6_61 : FL RX6 61 6 8 := ⟨(RX6, TX6, 11), rfl, by decide, in_lwg (i := 321) (by decide +kernel) rfl, rfl⟩
theorem fl_X6_65 : FL RX6 65 6 9 := ⟨(RX6, TX6, 11), rfl, by decide, in_lwg (i := 322) (by decide +kernel) rfl, rfl⟩
theorem fl_X6_69 : FL RX6 69 6 10 := ⟨(RX6, TX6, 11), rfl, by decide, in_lwg (i := 323) (by decide +kernel) rfl, rfl⟩
theorem fl_X6_111 : FL RX6 111 5 3 := ⟨(RX5, TX5, 4), rfl, by decide, in_lwg (i := 114) (by decide +kernel) rfl, rfl⟩
theorem fl_X6_121 : FL RX6 121 5 2 := ⟨(RX5, TX5, 4), rfl, by decide, in_lwg (i := 112) (by decide +kernel) rfl, rfl⟩
theorem fl_X6_131 : FL RX6 131 2 0 := ⟨(RX2, TX2, 12), rfl, by decide, in_lwg (i := 180) (by decide +kernel) rfl, rfl⟩
theorem fl_X6_137 : FL RX6 137 1 5 := ⟨(RX1, TX1, 9), rfl, by decide, in_lwg (i := 151) (by decide +kernel) rfl, rfl⟩
theorem fl_X6_167 : FL RX6 167 2 1 := ⟨(RX2, TX2, 12), rfl, by decide, in_lwg (i := 182) (by decide +kernel) rfl, rfl⟩
theorem fl_X6_174 : FL RX6 174 2 7 := ⟨(RX2, TX2, 12), rfl, by decide, in_lwg (i := 194) (by decide +kernel) rfl, rfl⟩
theorem fl_X6_177 : FL RX6 177 2 6 := ⟨(RX2, TX2, 12), rfl, by decide, in_lwg (i := 192) (by decide +kernel) rfl, rfl⟩
theorem fl_X6_180 : FL RX6 180 2 3 := ⟨(RX2, TX2, 12), rfl, by decide, in_lwg (i := 185) (by decide +kernel) rfl, rfl⟩
theorem fl_X6_190 : FL RX6 190 2 9 := ⟨(RX2, TX2, 12), rfl, by decide, in_lwg (i := 201) (by decide +kernel) rfl, rfl⟩
theorem fl_X6_217 : FL RX6 217 4 8 := ⟨(RX4, TX4, 11), rfl, by decide, in_lwg (i := 250) (by decide +kernel) rfl, rfl⟩
theorem fl_X6_220 : FL RX6 220 4 2 := ⟨(RX4, TX4, 11), rfl, by decide, in_lwg (i := 241) (by decide +kernel) rfl, rfl⟩
theorem fl_X6_223 : FL RX6 223 4 10 := ⟨(RX4, TX4, 11), rfl, by decide, in_lwg (i := 254) (by decide +kernel) rfl, rfl⟩
theorem fl_X6_226 : FL RX6 226 4 9 := ⟨(RX4, TX4, 11), rfl, by decide, in_lwg (i := 252) (by decide +kernel) rfl, rfl⟩
theorem fl_X6_236 : FL RX6 236 4 6 := ⟨(RX4, TX4, 11), rfl, by decide, in_lwg (i := 247) (by decide +kernel) rfl, rfl⟩
theorem fl_X6_239 : FL RX6 239 4 5 := ⟨(RX4, TX4, 11), rfl, by decide, in_lwg (i := 245) (by decide +kernel) rfl, rfl⟩
theorem fl_X6_254 : FL RX6 254 2 5 := ⟨(RX2, TX2, 12), rfl, by decide, in_lwg (i := 190) (by decide +kernel) rfl, rfl⟩
theorem fl_X6_287 : FL RX6 287 0 1 := ⟨(RX0, TX0, 3), rfl, by decide, in_lwg (i := 302) (by decide +kernel) rfl, rfl⟩
theorem fl_X6_291 : FL RX6 291 0 2 := ⟨(RX0, TX0, 3), rfl, by decide, in_lwg (i := 304) (by decide +kernel) rfl, rfl⟩
theorem fl_X6_308 : FL RX6 308 5 1 := ⟨(RX5, TX5, 4), rfl, by decide, in_lwg (i := 110) (by decide +kernel) rfl, rfl⟩
theorem fl_X6_317 : FL RX6 317 2 8 := ⟨(RX2, TX2, 12), rfl, by decide, in_lwg (i := 197) (by decide +kernel) rfl, rfl⟩
theorem fl_X6_320 : FL RX6 320 2 11 := ⟨(RX2, TX2, 12), rfl, by decide, in_lwg (i := 204) (by decide +kernel) rfl, rfl⟩
theorem fl_X0_9 : FL RX0 9 0 0 := ⟨(RX0, TX0, 3), rfl, by decide, in_lwg (i := 300) (by decide +kernel) rfl, rfl⟩
theorem fl_X0_15 : FL RX0 15 0 1 := ⟨(RX0, TX0, 3), rfl, by decide, in_lwg (i := 301) (by decide +kernel) rfl, rfl⟩
theorem fl_X0_19 : FL RX0 19 0 2 := ⟨(RX0, TX0, 3), rfl, by decide, in_lwg (i := 303) (by decide +kernel) rfl, rfl⟩
theorem fl_X1_9 : FL RX1 9 1 0 := ⟨(RX1, TX1, 9), rfl, by decide, in_lwg (i := 137) (by decide +kernel) rfl, rfl⟩
theorem fl_X1_15 : FL RX1 15 1 1 := ⟨(RX1, TX1, 9), rfl, by decide, in_lwg (i := 139) (by decide +kernel) rfl, rfl⟩
theorem fl_X1_18 : FL RX1 18 1 2 := ⟨(RX1, TX1, 9), rfl, by decide, in_lwg (i := 141) (by decide +kernel) rfl, rfl⟩
theorem fl_X1_21 : FL RX1 21 1 3 := ⟨(RX1, TX1, 9), rfl, by decide, in_lwg (i := 143) (by decide +kernel) rfl, rfl⟩
theorem fl_X1_24 : FL RX1 24 1 4 := ⟨(RX1, TX1, 9), rfl, by decide, in_lwg (i := 145) (by decide +kernel) rfl, rfl⟩
theorem fl_X1_27 : FL RX1 27 1 5 := ⟨(RX1, TX1, 9), rfl, by decide, in_lwg (i := 147) (by decide +kernel) rfl, rfl⟩
theorem fl_X1_31 : FL RX1 31 1 6 := ⟨(RX1, TX1, 9), rfl, by decide, in_lwg (i := 152) (by decide +kernel) rfl, rfl⟩
theorem fl_X1_34 : FL RX1 34 1 7 := ⟨(RX1, TX1, 9), rfl, by decide, in_lwg (i := 154) (by decide +kernel) rfl, rfl⟩
theorem fl_X1_37 : FL RX1 37 1 8 := ⟨(RX1, TX1, 9), rfl, by decide, in_lwg (i := 157) (by decide +kernel) rfl, rfl⟩
theorem fl_X2_12 : FL RX2 12 2 0 := ⟨(RX2, TX2, 12), rfl, by decide, in_lwg (i := 177) (by decide +kernel) rfl, rfl⟩
theorem fl_X2_18 : FL RX2 18 2 1 := ⟨(RX2, TX2, 12), rfl, by decide, in_lwg (i := 181) (by decide +kernel) rfl, rfl⟩
theorem fl_X2_22 : FL RX2 22 2 2 := ⟨(RX2, TX2, 12), rfl, by decide, in_lwg (i := 183) (by decide +kernel) rfl, rfl⟩
theorem fl_X2_25 : FL RX2 25 2 3 := ⟨(RX2, TX2, 12), rfl, by decide, in_lwg (i := 184) (by decide +kernel) rfl, rfl⟩
theorem fl_X2_28 : FL RX2 28 2 4 := ⟨(RX2, TX2, 12), rfl, by decide, in_lwg (i := 186) (by decide +kernel) rfl, rfl⟩
theorem fl_X2_31 : FL RX2 31 2 5 := ⟨(RX2, TX2, 12), rfl, by decide, in_lwg (i := 187) (by decide +kernel) rfl, rfl⟩
theorem fl_X2_34 : FL RX2 34 2 6 := ⟨(RX2, TX2, 12), rfl, by decide, in_lwg (i := 191) (by decide +kernel) rfl, rfl⟩
theorem fl_X2_38 : FL RX2 38 2 7 := ⟨(RX2, TX2, 12), rfl, by decide, in_lwg (i := 193) (by decide +kernel) rfl, rfl⟩
theorem fl_X2_41 : FL RX2 41 2 8 := ⟨(RX2, TX2, 12), rfl, by decide, in_lwg (i := 195) (by decide +kernel) rfl, rfl⟩
theorem fl_X2_44 : FL RX2 44 2 9 := ⟨(RX2, TX2, 12), rfl, by decide, in_lwg (i := 198) (by decide +kernel) rfl, rfl⟩
theorem fl_X2_47 : FL RX2 47 2 10 := ⟨(RX2, TX2, 12), rfl, by decide, in_lwg (i := 202) (by decide +kernel) rfl, rfl⟩
theorem fl_X2_50 : FL RX2 50 2 11 := ⟨(RX2, TX2, 12), rfl, by decide, in_lwg (i := 203) (by decide +kernel) rfl, rfl⟩
theorem fl_X2_59 : FL RX2 59 1 6 := ⟨(RX1, TX1, 9), rfl, by decide, in_lwg (i := 153) (by decide +kernel) rfl, rfl⟩
theorem fl_X2_62 : FL RX2 62 1 7 := ⟨(RX1, TX1, 9), rfl, by decide, in_lwg (i := 155) (by decide +kernel) rfl, rfl⟩
theorem fl_X2_68 : FL RX2 68 1 5 := ⟨(RX1, TX1, 9), rfl, by decide, in_lwg (i := 149) (by decide +kernel) rfl, rfl⟩
theorem fl_X2_71 : FL RX2 71 1 0 := ⟨(RX1, TX1, 9), rfl, by decide, in_lwg (i := 138) (by decide +kernel) rfl, rfl⟩
theorem fl_X2_106 : FL RX2 106 1 1 := ⟨(RX1, TX1, 9), rfl, by decide, in_lwg (i := 140) (by decide +kernel) rfl, rfl⟩
theorem fl_X2_125 : FL RX2 125 1 2 := ⟨(RX1, TX1, 9), rfl, by decide, in_lwg (i := 142) (by decide +kernel) rfl, rfl⟩
theorem fl_X2_128 : FL RX2 128 1 3 := ⟨(RX1, TX1, 9), rfl, by decide, in_lwg (i := 144) (by decide +kernel) rfl, rfl⟩
theorem fl_X2_145 : FL RX2 145 1 4 := ⟨(RX1, TX1, 9), rfl, by decide, in_lwg (i := 146) (by decide +kernel) rfl, rfl⟩
theorem fl_X3_9 : FL RX3 9 3 1 := ⟨(RX3, TX3, 3), rfl, by decide, in_lwg (i := 285) (by decide +kernel) rfl, rfl⟩
theorem fl_X3_15 : FL RX3 15 3 2 := ⟨(RX3, TX3, 3), rfl, by decide, in_lwg (i := 286) (by decide +kernel) rfl, rfl⟩
theorem fl_X3_18 : FL RX3 18 3 0 := ⟨(RX3, TX3, 3), rfl, by decide, in_lwg (i := 284) (by decide +kernel) rfl, rfl⟩
theorem fl_X3_22 : FL RX3 22 2 0 := ⟨(RX2, TX2, 12), rfl, by decide, in_lwg (i := 178) (by decide +kernel) rfl, rfl⟩
theorem fl_X3_28 : FL RX3 28 1 5 := ⟨(RX1, TX1, 9), rfl, by decide, in_lwg (i := 148) (by decide +kernel) rfl, rfl⟩
theorem fl_X3_48 : FL RX3 48 2 9 := ⟨(RX2, TX2, 12), rfl, by decide, in_lwg (i := 200) (by decide +kernel) rfl, rfl⟩
theorem fl_X3_51 : FL RX3 51 2 5 := ⟨(RX2, TX2, 12), rfl, by decide, in_lwg (i := 189) (by decide +kernel) rfl, rfl⟩
theorem fl_X4_9 : FL RX4 9 4 1 := ⟨(RX4, TX4, 11), rfl, by decide, in_lwg (i := 239) (by decide +kernel) rfl, rfl⟩
theorem fl_X4_15 : FL RX4 15 4 2 := ⟨(RX4, TX4, 11), rfl, by decide, in_lwg (i := 240) (by decide +kernel) rfl, rfl⟩
theorem fl_X4_18 : FL RX4 18 4 3 := ⟨(RX4, TX4, 11), rfl, by decide, in_lwg (i := 242) (by decide +kernel) rfl, rfl⟩
theorem fl_X4_22 : FL RX4 22 4 4 := ⟨(RX4, TX4, 11), rfl, by decide, in_lwg (i := 243) (by decide +kernel) rfl, rfl⟩
theorem fl_X4_25 : FL RX4 25 4 5 := ⟨(RX4, TX4, 11), rfl, by decide, in_lwg (i := 244) (by decide +kernel) rfl, rfl⟩
theorem fl_X4_28 : FL RX4 28 4 6 := ⟨(RX4, TX4, 11), rfl, by decide, in_lwg (i := 246) (by decide +kernel) rfl, rfl⟩
theorem fl_X4_31 : FL RX4 31 4 7 := ⟨(RX4, TX4, 11), rfl, by decide, in_lwg (i := 248) (by decide +kernel) rfl, rfl⟩
theorem fl_X4_35 : FL RX4 35 4 8 := ⟨(RX4, TX4, 11), rfl, by decide, in_lwg (i := 249) (by decide +kernel) rfl, rfl⟩
theorem fl_X4_38 : FL RX4 38 4 9 := ⟨(RX4, TX4, 11), rfl, by decide, in_lwg (i := 251) (by decide +kernel) rfl, rfl⟩
theorem fl_X4_41 : FL RX4 41 4 10 := ⟨(RX4, TX4, 11), rfl, by decide, in_lwg (i := 253) (by decide +kernel) rfl, rfl⟩
theorem fl_X4_44 : FL RX4 44 4 0 := ⟨(RX4, TX4, 11), rfl, by decide, in_lwg (i := 238) (by decide +kernel) rfl, rfl⟩
theorem fl_X4_48 : FL RX4 48 2 9 := ⟨(RX2, TX2, 12), rfl, by decide, in_lwg (i := 199) (by decide +kernel) rfl, rfl⟩
theorem fl_X4_51 : FL RX4 51 2 8 := ⟨(RX2, TX2, 12), rfl, by decide, in_lwg (i := 196) (by decide +kernel) rfl, rfl⟩
theorem fl_X4_52 : FL RX4 52 2 5 := ⟨(RX2, TX2, 12), rfl, by decide, in_lwg (i := 188) (by decide +kernel) rfl, rfl⟩
theorem fl_X4_61 : FL RX4 61 2 0 := ⟨(RX2, TX2, 12), rfl, by decide, in_lwg (i := 179) (by decide +kernel) rfl, rfl⟩
theorem fl_X4_65 : FL RX4 65 1 7 := ⟨(RX1, TX1, 9), rfl, by decide, in_lwg (i := 156) (by decide +kernel) rfl, rfl⟩
theorem fl_X4_81 : FL RX4 81 1 5 := ⟨(RX1, TX1, 9), rfl, by decide, in_lwg (i := 150) (by decide +kernel) rfl, rfl⟩
theorem fl_X5_15 : FL RX5 15 5 0 := ⟨(RX5, TX5, 4), rfl, by decide, in_lwg (i := 108) (by decide +kernel) rfl, rfl⟩
theorem fl_X5_21 : FL RX5 21 5 1 := ⟨(RX5, TX5, 4), rfl, by decide, in_lwg (i := 109) (by decide +kernel) rfl, rfl⟩
theorem fl_X5_24 : FL RX5 24 5 2 := ⟨(RX5, TX5, 4), rfl, by decide, in_lwg (i := 111) (by decide +kernel) rfl, rfl⟩
theorem fl_X5_30 : FL RX5 30 5 3 := ⟨(RX5, TX5, 4), rfl, by decide, in_lwg (i := 113) (by decide +kernel) rfl, rfl⟩
theorem fl_X7_7 : FL RX7 7 7 0 := ⟨(RX7, TX7, 21), rfl, by decide, in_lwg (i := 878) (by decide +kernel) rfl, rfl⟩
theorem fl_X7_13 : FL RX7 13 7 1 := ⟨(RX7, TX7, 21), rfl, by decide, in_lwg (i := 879) (by decide +kernel) rfl, rfl⟩
theorem fl_X7_16 : FL RX7 16 7 2 := ⟨(RX7, TX7, 21), rfl, by decide, in_lwg (i := 880) (by decide +kernel) rfl, rfl⟩
theorem fl_X7_19 : FL RX7 19 7 3 := ⟨(RX7, TX7, 21), rfl, by decide, in_lwg (i := 881) (by decide +kernel) rfl, rfl⟩
theorem fl_X7_22 : FL RX7 22 7 4 := ⟨(RX7, TX7, 21), rfl, by decide, in_lwg (i := 882) (by decide +kernel) rfl, rfl⟩
theorem fl_X7_25 : FL RX7 25 7 5 := ⟨(RX7, TX7, 21), rfl, by decide, in_lwg (i := 883) (by decide +kernel) rfl, rfl⟩
theorem fl_X7_28 : FL RX7 28 7 6 := ⟨(RX7, TX7, 21), rfl, by decide, in_lwg (i := 884) (by decide +kernel) rfl, rfl⟩
theorem fl_X7_31 : FL RX7 31 7 7 := ⟨(RX7, TX7, 21), rfl, by decide, in_lwg (i := 885) (by decide +kernel) rfl, rfl⟩
theorem fl_X7_34 : FL RX7 34 7 8 := ⟨(RX7, TX7, 21), rfl, by decide, in_lwg (i := 886) (by decide +kernel) rfl, rfl⟩
theorem fl_X7_38 : FL RX7 38 7 9 := ⟨(RX7, TX7, 21), rfl, by decide, in_lwg (i := 887) (by decide +kernel) rfl, rfl⟩
theorem fl_X7_41 : FL RX7 41 7 14 := ⟨(RX7, TX7, 21), rfl, by decide, in_lwg (i := 892) (by decide +kernel) rfl, rfl⟩
theorem fl_X7_44 : FL RX7 44 7 15 := ⟨(RX7, TX7, 21), rfl, by decide, in_lwg (i := 893) (by decide +kernel) rfl, rfl⟩
theorem fl_X7_47 : FL RX7 47 7 16 := ⟨(RX7, TX7, 21), rfl, by decide, in_lwg (i := 894) (by decide +kernel) rfl, rfl⟩
theorem fl_X7_50 : FL RX7 50 7 13 := ⟨(RX7, TX7, 21), rfl, by decide, in_lwg (i := 891) (by decide +kernel) rfl, rfl⟩
theorem fl_X7_54 : FL RX7 54 7 10 := ⟨(RX7, TX7, 21), rfl, by decide, in_lwg (i := 888) (by decide +kernel) rfl, rfl⟩
theorem fl_X7_58 : FL RX7 58 7 11 := ⟨(RX7, TX7, 21), rfl, by decide, in_lwg (i := 889) (by decide +kernel) rfl, rfl⟩
theorem fl_X7_61 : FL RX7 61 7 12 := ⟨(RX7, TX7, 21), rfl, by decide, in_lwg (i := 890) (by decide +kernel) rfl, rfl⟩
theorem fl_X7_90 : FL RX7 90 7 19 := ⟨(RX7, TX7, 21), rfl, by decide, in_lwg (i := 897) (by decide +kernel) rfl, rfl⟩
theorem fl_X7_93 : FL RX7 93 7 20 := ⟨(RX7, TX7, 21), rfl, by decide, in_lwg (i := 898) (by decide +kernel) rfl, rfl⟩
theorem fl_X7_208 : FL RX7 208 7 17 := ⟨(RX7, TX7, 21), rfl, by decide, in_lwg (i := 895) (by decide +kernel) rfl, rfl⟩
theorem fl_X7_211 : FL RX7 211 7 18 := ⟨(RX7, TX7, 21), rfl, by decide, in_lwg (i := 896) (by decide +kernel) rfl, rfl⟩
theorem fw_0_1 : FW 0 1 .long := ⟨_, rfl, by decide +kernel, rfl⟩
theorem fw_0_2 : FW 0 2 .long := ⟨_, rfl, by decide +kernel, rfl⟩
theorem fw_1_5 : FW 1 5 .int := ⟨_, rfl, by decide +kernel, rfl⟩
theorem fw_1_6 : FW 1 6 .int := ⟨_, rfl, by decide +kernel, rfl⟩
theorem fw_1_7 : FW 1 7 .int := ⟨_, rfl, by decide +kernel, rfl⟩
theorem fw_1_8 : FW 1 8 .int := ⟨_, rfl, by decide +kernel, rfl⟩
theorem fw_2_6 : FW 2 6 .int := ⟨_, rfl, by decide +kernel, rfl⟩
theorem fw_2_7 : FW 2 7 .int := ⟨_, rfl, by decide +kernel, rfl⟩
theorem fw_2_8 : FW 2 8 .int := ⟨_, rfl, by decide +kernel, rfl⟩
theorem fw_2_9 : FW 2 9 .int := ⟨_, rfl, by decide +kernel, rfl⟩
theorem fw_2_10 : FW 2 10 .int := ⟨_, rfl, by decide +kernel, rfl⟩
theorem fw_2_11 : FW 2 11 .int := ⟨_, rfl, by decide +kernel, rfl⟩
theorem fw_4_3 : FW 4 3 .int := ⟨_, rfl, by decide +kernel, rfl⟩
theorem fw_4_4 : FW 4 4 .int := ⟨_, rfl, by decide +kernel, rfl⟩
theorem fw_4_5 : FW 4 5 .int := ⟨_, rfl, by decide +kernel, rfl⟩
theorem fw_4_6 : FW 4 6 .int := ⟨_, rfl, by decide +kernel, rfl⟩
theorem fw_4_7 : FW 4 7 .boolean := ⟨_, rfl, by decide +kernel, rfl⟩
theorem fw_4_8 : FW 4 8 .int := ⟨_, rfl, by decide +kernel, rfl⟩
theorem fw_4_9 : FW 4 9 .int := ⟨_, rfl, by decide +kernel, rfl⟩
theorem fw_4_10 : FW 4 10 .int := ⟨_, rfl, by decide +kernel, rfl⟩
theorem fw_6_9 : FW 6 9 .int := ⟨_, rfl, by decide +kernel, rfl⟩
theorem fw_6_10 : FW 6 10 .int := ⟨_, rfl, by decide +kernel, rfl⟩
theorem fw_7_10 : FW 7 10 .int := ⟨_, rfl, by decide +kernel, rfl⟩
theorem fw_7_11 : FW 7 11 .int := ⟨_, rfl, by decide +kernel, rfl⟩
theorem fw_7_12 : FW 7 12 .long := ⟨_, rfl, by decide +kernel, rfl⟩
theorem fw_7_13 : FW 7 13 .long := ⟨_, rfl, by decide +kernel, rfl⟩
theorem fw_7_17 : FW 7 17 .int := ⟨_, rfl, by decide +kernel, rfl⟩
theorem fw_7_18 : FW 7 18 .int := ⟨_, rfl, by decide +kernel, rfl⟩
theorem fw_7_19 : FW 7 19 .int := ⟨_, rfl, by decide +kernel, rfl⟩
theorem fw_7_20 : FW 7 20 .boolean := ⟨_, rfl, by decide +kernel, rfl⟩
theorem lc_X6_278 : Cond.constantLong RX6 278 (2147483647) ∈ lwg := in_lwg (i := 817) (by decide +kernel) rfl
theorem lc_X6_280 : Cond.constantLong RX6 280 (48271) ∈ lwg := in_lwg (i := 818) (by decide +kernel) rfl
theorem lc_X6_282 : Cond.constantLong RX6 282 (8) ∈ lwg := in_lwg (i := 819) (by decide +kernel) rfl
theorem lc_X6_297 : Cond.constantLong RX6 297 (17) ∈ lwg := in_lwg (i := 865) (by decide +kernel) rfl
theorem lc_X6_299 : Cond.constantLong RX6 299 (31) ∈ lwg := in_lwg (i := 866) (by decide +kernel) rfl
theorem lc_X0_26 : Cond.constantLong RX0 26 (12) ∈ lwg := in_lwg (i := 797) (by decide +kernel) rfl
theorem lc_X5_50 : Cond.constantLong RX5 50 (31) ∈ lwg := in_lwg (i := 871) (by decide +kernel) rfl
theorem lc_X7_251 : Cond.constantLong RX7 251 (12) ∈ lwg := in_lwg (i := 1285) (by decide +kernel) rfl
theorem lc_X7_260 : Cond.constant RX7 260 (2147483646) ∈ lwg := in_lwg (i := 1298) (by decide +kernel) rfl
theorem lc_X7_261 : Cond.constantLong RX7 261 (48271) ∈ lwg := in_lwg (i := 1299) (by decide +kernel) rfl
theorem lc_X7_263 : Cond.constantLong RX7 263 (2147483647) ∈ lwg := in_lwg (i := 1300) (by decide +kernel) rfl
theorem lc_X7_265 : Cond.constantLong RX7 265 (8) ∈ lwg := in_lwg (i := 1301) (by decide +kernel) rfl
theorem lc_X7_267 : Cond.constantLong RX7 267 (17) ∈ lwg := in_lwg (i := 1330) (by decide +kernel) rfl
theorem lc_X7_269 : Cond.constantLong RX7 269 (31) ∈ lwg := in_lwg (i := 1331) (by decide +kernel) rfl
theorem lc_J6_265 : Cond.constant RJ6 265 (1431655765) ∈ lwg := in_lwg (i := 526) (by decide +kernel) rfl
theorem lc_J6_266 : Cond.constant RJ6 266 (858993459) ∈ lwg := in_lwg (i := 527) (by decide +kernel) rfl
theorem lc_J6_267 : Cond.constant RJ6 267 (252645135) ∈ lwg := in_lwg (i := 528) (by decide +kernel) rfl
theorem lm_max : Cond.static Lib.Math.max.name ∈ lwg ∧ Cond.initialized "java/lang/Math" ∈ lwg ∧ Cond.code Lib.Math.max.name Lib.Math.max.code 2 (some .int) ∈ lwg := ⟨in_lwg (i := 101) (by decide +kernel) rfl, in_lwg (i := 76) (by decide +kernel) rfl, in_lwg (i := 102) (by decide +kernel) rfl⟩
theorem lm_min : Cond.static Lib.Math.min.name ∈ lwg ∧ Cond.initialized "java/lang/Math" ∈ lwg ∧ Cond.code Lib.Math.min.name Lib.Math.min.code 2 (some .int) ∈ lwg := ⟨in_lwg (i := 777) (by decide +kernel) rfl, in_lwg (i := 76) (by decide +kernel) rfl, in_lwg (i := 778) (by decide +kernel) rfl⟩
theorem lm_cp : Cond.static arraycopyName ∈ lwg ∧ Cond.native arraycopyName ∈ lwg ∧ Cond.initialized "java/lang/System" ∈ lwg := ⟨in_lwg (i := 419) (by decide +kernel) rfl, in_lwg (i := 420) (by decide +kernel) rfl, in_lwg (i := 84) (by decide +kernel) rfl⟩
theorem k_bm9 : (Int8.ofInt (-9)).toInt32 = (-9 : Int32) := by decide
theorem k_bm6 : (Int8.ofInt (-6)).toInt32 = (-6 : Int32) := by decide
theorem k_bm4 : (Int8.ofInt (-4)).toInt32 = (-4 : Int32) := by decide
theorem k_bm3 : (Int8.ofInt (-3)).toInt32 = (-3 : Int32) := by decide
theorem k_bm2 : (Int8.ofInt (-2)).toInt32 = (-2 : Int32) := by decide
theorem k_b6 : (Int8.ofInt (6)).toInt32 = (6 : Int32) := by decide
theorem k_b6N : (Int8.ofInt (6)).toInt32 = nI 6 := by decide
theorem k_b7 : (Int8.ofInt (7)).toInt32 = (7 : Int32) := by decide
theorem k_b7N : (Int8.ofInt (7)).toInt32 = nI 7 := by decide
theorem k_b8 : (Int8.ofInt (8)).toInt32 = (8 : Int32) := by decide
theorem k_b8N : (Int8.ofInt (8)).toInt32 = nI 8 := by decide
theorem k_b9 : (Int8.ofInt (9)).toInt32 = (9 : Int32) := by decide
theorem k_b9N : (Int8.ofInt (9)).toInt32 = nI 9 := by decide
theorem k_b10 : (Int8.ofInt (10)).toInt32 = (10 : Int32) := by decide
theorem k_b10N : (Int8.ofInt (10)).toInt32 = nI 10 := by decide
theorem k_b11 : (Int8.ofInt (11)).toInt32 = (11 : Int32) := by decide
theorem k_b11N : (Int8.ofInt (11)).toInt32 = nI 11 := by decide
theorem k_b12 : (Int8.ofInt (12)).toInt32 = (12 : Int32) := by decide
theorem k_b12N : (Int8.ofInt (12)).toInt32 = nI 12 := by decide
theorem k_b16 : (Int8.ofInt (16)).toInt32 = (16 : Int32) := by decide
theorem k_b16N : (Int8.ofInt (16)).toInt32 = nI 16 := by decide
theorem k_b20 : (Int8.ofInt (20)).toInt32 = (20 : Int32) := by decide
theorem k_b20N : (Int8.ofInt (20)).toInt32 = nI 20 := by decide
theorem k_b25 : (Int8.ofInt (25)).toInt32 = (25 : Int32) := by decide
theorem k_b25N : (Int8.ofInt (25)).toInt32 = nI 25 := by decide
theorem k_b32 : (Int8.ofInt (32)).toInt32 = (32 : Int32) := by decide
theorem k_b32N : (Int8.ofInt (32)).toInt32 = nI 32 := by decide
theorem k_b40 : (Int8.ofInt (40)).toInt32 = (40 : Int32) := by decide
theorem k_b40N : (Int8.ofInt (40)).toInt32 = nI 40 := by decide
theorem k_b41 : (Int8.ofInt (41)).toInt32 = (41 : Int32) := by decide
theorem k_b41N : (Int8.ofInt (41)).toInt32 = nI 41 := by decide
theorem k_b48 : (Int8.ofInt (48)).toInt32 = (48 : Int32) := by decide
theorem k_b48N : (Int8.ofInt (48)).toInt32 = nI 48 := by decide
theorem k_b55 : (Int8.ofInt (55)).toInt32 = (55 : Int32) := by decide
theorem k_b55N : (Int8.ofInt (55)).toInt32 = nI 55 := by decide
theorem k_b57 : (Int8.ofInt (57)).toInt32 = (57 : Int32) := by decide
theorem k_b57N : (Int8.ofInt (57)).toInt32 = nI 57 := by decide
theorem k_b60 : (Int8.ofInt (60)).toInt32 = (60 : Int32) := by decide
theorem k_b60N : (Int8.ofInt (60)).toInt32 = nI 60 := by decide
theorem k_b63 : (Int8.ofInt (63)).toInt32 = (63 : Int32) := by decide
theorem k_b63N : (Int8.ofInt (63)).toInt32 = nI 63 := by decide
theorem k_b64 : (Int8.ofInt (64)).toInt32 = (64 : Int32) := by decide
theorem k_b64N : (Int8.ofInt (64)).toInt32 = nI 64 := by decide
theorem k_b90 : (Int8.ofInt (90)).toInt32 = (90 : Int32) := by decide
theorem k_b90N : (Int8.ofInt (90)).toInt32 = nI 90 := by decide
theorem k_b98 : (Int8.ofInt (98)).toInt32 = (98 : Int32) := by decide
theorem k_b98N : (Int8.ofInt (98)).toInt32 = nI 98 := by decide
theorem k_b99 : (Int8.ofInt (99)).toInt32 = (99 : Int32) := by decide
theorem k_b99N : (Int8.ofInt (99)).toInt32 = nI 99 := by decide
theorem k_b100 : (Int8.ofInt (100)).toInt32 = (100 : Int32) := by decide
theorem k_b100N : (Int8.ofInt (100)).toInt32 = nI 100 := by decide
theorem k_b102 : (Int8.ofInt (102)).toInt32 = (102 : Int32) := by decide
theorem k_b102N : (Int8.ofInt (102)).toInt32 = nI 102 := by decide
theorem k_b103 : (Int8.ofInt (103)).toInt32 = (103 : Int32) := by decide
theorem k_b103N : (Int8.ofInt (103)).toInt32 = nI 103 := by decide
theorem k_b104 : (Int8.ofInt (104)).toInt32 = (104 : Int32) := by decide
theorem k_b104N : (Int8.ofInt (104)).toInt32 = nI 104 := by decide
theorem k_b112 : (Int8.ofInt (112)).toInt32 = (112 : Int32) := by decide
theorem k_b112N : (Int8.ofInt (112)).toInt32 = nI 112 := by decide
theorem k_b114 : (Int8.ofInt (114)).toInt32 = (114 : Int32) := by decide
theorem k_b114N : (Int8.ofInt (114)).toInt32 = nI 114 := by decide
theorem k_b115 : (Int8.ofInt (115)).toInt32 = (115 : Int32) := by decide
theorem k_b115N : (Int8.ofInt (115)).toInt32 = nI 115 := by decide
theorem k_im1 : Int32.ofInt (-1) = (-1 : Int32) := by decide
theorem k_i0 : Int32.ofInt (0) = (0 : Int32) := by decide
theorem k_i0N : Int32.ofInt (0) = nI 0 := by decide
theorem k_i1 : Int32.ofInt (1) = (1 : Int32) := by decide
theorem k_i1N : Int32.ofInt (1) = nI 1 := by decide
theorem k_i2 : Int32.ofInt (2) = (2 : Int32) := by decide
theorem k_i2N : Int32.ofInt (2) = nI 2 := by decide
theorem k_i3 : Int32.ofInt (3) = (3 : Int32) := by decide
theorem k_i3N : Int32.ofInt (3) = nI 3 := by decide
theorem k_i4 : Int32.ofInt (4) = (4 : Int32) := by decide
theorem k_i4N : Int32.ofInt (4) = nI 4 := by decide
theorem k_i5 : Int32.ofInt (5) = (5 : Int32) := by decide
theorem k_i5N : Int32.ofInt (5) = nI 5 := by decide
theorem k_sm1000 : (Int16.ofInt (-1000)).toInt32 = (-1000 : Int32) := by decide
theorem k_s215 : (Int16.ofInt (215)).toInt32 = (215 : Int32) := by decide
theorem k_s215N : (Int16.ofInt (215)).toInt32 = nI 215 := by decide
theorem k_s240 : (Int16.ofInt (240)).toInt32 = (240 : Int32) := by decide
theorem k_s240N : (Int16.ofInt (240)).toInt32 = nI 240 := by decide
theorem k_s645 : (Int16.ofInt (645)).toInt32 = (645 : Int32) := by decide
theorem k_s645N : (Int16.ofInt (645)).toInt32 = nI 645 := by decide
theorem k_s999 : (Int16.ofInt (999)).toInt32 = (999 : Int32) := by decide
theorem k_s999N : (Int16.ofInt (999)).toInt32 = nI 999 := by decide
theorem k_s1000 : (Int16.ofInt (1000)).toInt32 = (1000 : Int32) := by decide
theorem k_s1000N : (Int16.ofInt (1000)).toInt32 = nI 1000 := by decide
theorem k_s2000 : (Int16.ofInt (2000)).toInt32 = (2000 : Int32) := by decide
theorem k_s2000N : (Int16.ofInt (2000)).toInt32 = nI 2000 := by decide
