theorem mv_X0_become : rb_MV yX0_become cX0_become 2 none 1 := ⟨rb_at 722 (by decide +kernel) rfl, rb_at 720 (by decide +kernel) rfl, rb_at 721 (by decide +kernel) rfl, rb_at 109 (by decide +kernel) rfl, ⟨by decide +kernel, by decide +kernel, by decide +kernel⟩, Nat.le_of_ble_eq_true rfl⟩
theorem mv_X0_time : rb_MV yX0_time cX0_time 1 (some .int) 0 := ⟨rb_at 775 (by decide +kernel) rfl, rb_at 773 (by decide +kernel) rfl, rb_at 774 (by decide +kernel) rfl, rb_at 109 (by decide +kernel) rfl, ⟨by decide +kernel, by decide +kernel, by decide +kernel⟩, Nat.le_of_ble_eq_true rfl⟩
theorem mv_X0_hasWokenAt : rb_MV yX0_hasWokenAt cX0_hasWokenAt 2 (some .boolean) 1 := ⟨rb_at 787 (by decide +kernel) rfl, rb_at 785 (by decide +kernel) rfl, rb_at 786 (by decide +kernel) rfl, rb_at 109 (by decide +kernel) rfl, ⟨by decide +kernel, by decide +kernel, by decide +kernel⟩, Nat.le_of_ble_eq_true rfl⟩
theorem mv_X0_calledHandles : rb_MV yX0_calledHandles cX0_calledHandles 4 (some .int) 0 := ⟨rb_at 796 (by decide +kernel) rfl, rb_at 794 (by decide +kernel) rfl, rb_at 795 (by decide +kernel) rfl, rb_at 109 (by decide +kernel) rfl, ⟨by decide +kernel, by decide +kernel, by decide +kernel⟩, Nat.le_of_ble_eq_true rfl⟩
theorem mv_X0_makeNamed : rb_MV yX0_makeNamed cX0_makeNamed 4 (some .int) 1 := ⟨rb_at 336 (by decide +kernel) rfl, rb_at 334 (by decide +kernel) rfl, rb_at 335 (by decide +kernel) rfl, rb_at 109 (by decide +kernel) rfl, ⟨by decide +kernel, by decide +kernel, by decide +kernel⟩, Nat.le_of_ble_eq_true rfl⟩
theorem mv_X0_makePipe : rb_MV yX0_makePipe cX0_makePipe 4 (some .int) 1 := ⟨rb_at 285 (by decide +kernel) rfl, rb_at 283 (by decide +kernel) rfl, rb_at 284 (by decide +kernel) rfl, rb_at 109 (by decide +kernel) rfl, ⟨by decide +kernel, by decide +kernel, by decide +kernel⟩, Nat.le_of_ble_eq_true rfl⟩
theorem mv_X0_connectTo : rb_MV yX0_connectTo cX0_connectTo 5 (some .int) 1 := ⟨rb_at 361 (by decide +kernel) rfl, rb_at 359 (by decide +kernel) rfl, rb_at 360 (by decide +kernel) rfl, rb_at 109 (by decide +kernel) rfl, ⟨by decide +kernel, by decide +kernel, by decide +kernel⟩, Nat.le_of_ble_eq_true rfl⟩
theorem mv_X0_acceptFrom : rb_MV yX0_acceptFrom cX0_acceptFrom 5 (some .int) 1 := ⟨rb_at 432 (by decide +kernel) rfl, rb_at 430 (by decide +kernel) rfl, rb_at 431 (by decide +kernel) rfl, rb_at 109 (by decide +kernel) rfl, ⟨by decide +kernel, by decide +kernel, by decide +kernel⟩, Nat.le_of_ble_eq_true rfl⟩
theorem mv_X0_closeHandle : rb_MV yX0_closeHandle cX0_closeHandle 8 (some .boolean) 1 := ⟨rb_at 450 (by decide +kernel) rfl, rb_at 448 (by decide +kernel) rfl, rb_at 449 (by decide +kernel) rfl, rb_at 109 (by decide +kernel) rfl, ⟨by decide +kernel, by decide +kernel, by decide +kernel⟩, Nat.le_of_ble_eq_true rfl⟩
theorem mv_X0_writeTo : rb_MV yX0_writeTo cX0_writeTo 6 (some .int) 2 := ⟨rb_at 489 (by decide +kernel) rfl, rb_at 487 (by decide +kernel) rfl, rb_at 488 (by decide +kernel) rfl, rb_at 109 (by decide +kernel) rfl, ⟨by decide +kernel, by decide +kernel, by decide +kernel⟩, Nat.le_of_ble_eq_true rfl⟩
theorem mv_X0_readFrom : rb_MV yX0_readFrom cX0_readFrom 9 (some .int) 2 := ⟨rb_at 502 (by decide +kernel) rfl, rb_at 500 (by decide +kernel) rfl, rb_at 501 (by decide +kernel) rfl, rb_at 109 (by decide +kernel) rfl, ⟨by decide +kernel, by decide +kernel, by decide +kernel⟩, Nat.le_of_ble_eq_true rfl⟩
theorem mv_X0_armTimer : rb_MV yX0_armTimer cX0_armTimer 5 (some .boolean) 3 := ⟨rb_at 510 (by decide +kernel) rfl, rb_at 508 (by decide +kernel) rfl, rb_at 509 (by decide +kernel) rfl, rb_at 109 (by decide +kernel) rfl, ⟨by decide +kernel, by decide +kernel, by decide +kernel⟩, Nat.le_of_ble_eq_true rfl⟩
theorem mv_X0_passTime : rb_MV yX0_passTime cX0_passTime 4 none 0 := ⟨rb_at 519 (by decide +kernel) rfl, rb_at 517 (by decide +kernel) rfl, rb_at 518 (by decide +kernel) rfl, rb_at 109 (by decide +kernel) rfl, ⟨by decide +kernel, by decide +kernel, by decide +kernel⟩, Nat.le_of_ble_eq_true rfl⟩
theorem mv_X0_findInterest : rb_MV yX0_findInterest cX0_findInterest 5 (some .int) 2 := ⟨rb_at 576 (by decide +kernel) rfl, rb_at 574 (by decide +kernel) rfl, rb_at 575 (by decide +kernel) rfl, rb_at 109 (by decide +kernel) rfl, ⟨by decide +kernel, by decide +kernel, by decide +kernel⟩, Nat.le_of_ble_eq_true rfl⟩
theorem mv_X0_addInterest : rb_MV yX0_addInterest cX0_addInterest 8 (some .int) 4 := ⟨rb_at 531 (by decide +kernel) rfl, rb_at 529 (by decide +kernel) rfl, rb_at 530 (by decide +kernel) rfl, rb_at 109 (by decide +kernel) rfl, ⟨by decide +kernel, by decide +kernel, by decide +kernel⟩, Nat.le_of_ble_eq_true rfl⟩
theorem mv_X0_armInterest : rb_MV yX0_armInterest cX0_armInterest 3 (some .boolean) 1 := ⟨rb_at 556 (by decide +kernel) rfl, rb_at 554 (by decide +kernel) rfl, rb_at 555 (by decide +kernel) rfl, rb_at 109 (by decide +kernel) rfl, ⟨by decide +kernel, by decide +kernel, by decide +kernel⟩, Nat.le_of_ble_eq_true rfl⟩
theorem mv_X0_sendNotice : rb_MV yX0_sendNotice cX0_sendNotice 9 none 3 := ⟨rb_at 374 (by decide +kernel) rfl, rb_at 373 (by decide +kernel) rfl, rb_at 2 (by decide +kernel) rfl, rb_at 109 (by decide +kernel) rfl, ⟨by decide +kernel, by decide +kernel, by decide +kernel⟩, Nat.le_of_ble_eq_true rfl⟩
theorem mv_X0_callSleepers : rb_MV yX0_callSleepers cX0_callSleepers 6 (some .boolean) 1 := ⟨rb_at 390 (by decide +kernel) rfl, rb_at 389 (by decide +kernel) rfl, rb_at 3 (by decide +kernel) rfl, rb_at 109 (by decide +kernel) rfl, ⟨by decide +kernel, by decide +kernel, by decide +kernel⟩, Nat.le_of_ble_eq_true rfl⟩
theorem mv_X0_gather : rb_MV yX0_gather cX0_gather 9 (some .int) 3 := ⟨rb_at 398 (by decide +kernel) rfl, rb_at 397 (by decide +kernel) rfl, rb_at 4 (by decide +kernel) rfl, rb_at 109 (by decide +kernel) rfl, ⟨by decide +kernel, by decide +kernel, by decide +kernel⟩, Nat.le_of_ble_eq_true rfl⟩
theorem mv_X0_canGather : rb_MV yX0_canGather cX0_canGather 4 (some .boolean) 3 := ⟨rb_at 594 (by decide +kernel) rfl, rb_at 593 (by decide +kernel) rfl, rb_at 10 (by decide +kernel) rfl, rb_at 109 (by decide +kernel) rfl, ⟨by decide +kernel, by decide +kernel, by decide +kernel⟩, Nat.le_of_ble_eq_true rfl⟩
theorem mv_X0_collectAt : rb_MV yX0_collectAt cX0_collectAt 5 (some .int) 3 := ⟨rb_at 590 (by decide +kernel) rfl, rb_at 588 (by decide +kernel) rfl, rb_at 589 (by decide +kernel) rfl, rb_at 109 (by decide +kernel) rfl, ⟨by decide +kernel, by decide +kernel, by decide +kernel⟩, Nat.le_of_ble_eq_true rfl⟩
theorem mv_X0_awaitAt : rb_MV yX0_awaitAt cX0_awaitAt 7 (some .int) 4 := ⟨rb_at 605 (by decide +kernel) rfl, rb_at 603 (by decide +kernel) rfl, rb_at 604 (by decide +kernel) rfl, rb_at 109 (by decide +kernel) rfl, ⟨by decide +kernel, by decide +kernel, by decide +kernel⟩, Nat.le_of_ble_eq_true rfl⟩
theorem mv_X0_goOneRound : rb_MV yX0_goOneRound cX0_goOneRound 3 (some .int) 0 := ⟨rb_at 743 (by decide +kernel) rfl, rb_at 741 (by decide +kernel) rfl, rb_at 742 (by decide +kernel) rfl, rb_at 109 (by decide +kernel) rfl, ⟨by decide +kernel, by decide +kernel, by decide +kernel⟩, Nat.le_of_ble_eq_true rfl⟩
theorem mv_X0_doStep : rb_MV yX0_doStep cX0_doStep 6 (some .int) 1 := ⟨rb_at 751 (by decide +kernel) rfl, rb_at 749 (by decide +kernel) rfl, rb_at 750 (by decide +kernel) rfl, rb_at 109 (by decide +kernel) rfl, ⟨by decide +kernel, by decide +kernel, by decide +kernel⟩, Nat.le_of_ble_eq_true rfl⟩
theorem mv_X1_find : rb_MV yX1_find cX1_find 6 (some .int) 3 := ⟨rb_at 535 (by decide +kernel) rfl, rb_at 533 (by decide +kernel) rfl, rb_at 534 (by decide +kernel) rfl, rb_at 111 (by decide +kernel) rfl, ⟨by decide +kernel, by decide +kernel, by decide +kernel⟩, Nat.le_of_ble_eq_true rfl⟩
theorem mv_X1_heldBy : rb_MV yX1_heldBy cX1_heldBy 2 (some .int) 1 := ⟨rb_at 564 (by decide +kernel) rfl, rb_at 562 (by decide +kernel) rfl, rb_at 563 (by decide +kernel) rfl, rb_at 111 (by decide +kernel) rfl, ⟨by decide +kernel, by decide +kernel, by decide +kernel⟩, Nat.le_of_ble_eq_true rfl⟩
theorem mv_X1_aimedAt : rb_MV yX1_aimedAt cX1_aimedAt 2 (some .int) 1 := ⟨rb_at 620 (by decide +kernel) rfl, rb_at 618 (by decide +kernel) rfl, rb_at 619 (by decide +kernel) rfl, rb_at 111 (by decide +kernel) rfl, ⟨by decide +kernel, by decide +kernel, by decide +kernel⟩, Nat.le_of_ble_eq_true rfl⟩
theorem mv_X1_countOf : rb_MV yX1_countOf cX1_countOf 6 (some .int) 2 := ⟨rb_at 568 (by decide +kernel) rfl, rb_at 567 (by decide +kernel) rfl, rb_at 9 (by decide +kernel) rfl, rb_at 111 (by decide +kernel) rfl, ⟨by decide +kernel, by decide +kernel, by decide +kernel⟩, Nat.le_of_ble_eq_true rfl⟩
theorem mv_X1_ofSet : rb_MV yX1_ofSet cX1_ofSet 6 (some .int) 2 := ⟨rb_at 646 (by decide +kernel) rfl, rb_at 644 (by decide +kernel) rfl, rb_at 645 (by decide +kernel) rfl, rb_at 111 (by decide +kernel) rfl, ⟨by decide +kernel, by decide +kernel, by decide +kernel⟩, Nat.le_of_ble_eq_true rfl⟩
theorem mv_X1_append : rb_MV yX1_append cX1_append 7 (some .int) 5 := ⟨rb_at 552 (by decide +kernel) rfl, rb_at 550 (by decide +kernel) rfl, rb_at 551 (by decide +kernel) rfl, rb_at 111 (by decide +kernel) rfl, ⟨by decide +kernel, by decide +kernel, by decide +kernel⟩, Nat.le_of_ble_eq_true rfl⟩
theorem mv_X1_remove : rb_MV yX1_remove cX1_remove 4 none 1 := ⟨rb_at 463 (by decide +kernel) rfl, rb_at 461 (by decide +kernel) rfl, rb_at 462 (by decide +kernel) rfl, rb_at 111 (by decide +kernel) rfl, ⟨by decide +kernel, by decide +kernel, by decide +kernel⟩, Nat.le_of_ble_eq_true rfl⟩
theorem mv_X1_removeAllOf : rb_MV yX1_removeAllOf cX1_removeAllOf 3 none 1 := ⟨rb_at 459 (by decide +kernel) rfl, rb_at 457 (by decide +kernel) rfl, rb_at 458 (by decide +kernel) rfl, rb_at 111 (by decide +kernel) rfl, ⟨by decide +kernel, by decide +kernel, by decide +kernel⟩, Nat.le_of_ble_eq_true rfl⟩
theorem mv_X1_heeds : rb_MV yX1_heeds cX1_heeds 3 (some .boolean) 2 := ⟨rb_at 378 (by decide +kernel) rfl, rb_at 376 (by decide +kernel) rfl, rb_at 377 (by decide +kernel) rfl, rb_at 111 (by decide +kernel) rfl, ⟨by decide +kernel, by decide +kernel, by decide +kernel⟩, Nat.le_of_ble_eq_true rfl⟩
theorem mv_X1_bitsOf : rb_MV yX1_bitsOf cX1_bitsOf 2 (some .int) 1 := ⟨rb_at 382 (by decide +kernel) rfl, rb_at 380 (by decide +kernel) rfl, rb_at 381 (by decide +kernel) rfl, rb_at 111 (by decide +kernel) rfl, ⟨by decide +kernel, by decide +kernel, by decide +kernel⟩, Nat.le_of_ble_eq_true rfl⟩
theorem mv_X1_tells : rb_MV yX1_tells cX1_tells 2 (some .int) 1 := ⟨rb_at 560 (by decide +kernel) rfl, rb_at 558 (by decide +kernel) rfl, rb_at 559 (by decide +kernel) rfl, rb_at 111 (by decide +kernel) rfl, ⟨by decide +kernel, by decide +kernel, by decide +kernel⟩, Nat.le_of_ble_eq_true rfl⟩
theorem mv_X1_ready : rb_MV yX1_ready cX1_ready 8 (some .int) 2 := ⟨rb_at 411 (by decide +kernel) rfl, rb_at 410 (by decide +kernel) rfl, rb_at 5 (by decide +kernel) rfl, rb_at 111 (by decide +kernel) rfl, ⟨by decide +kernel, by decide +kernel, by decide +kernel⟩, Nat.le_of_ble_eq_true rfl⟩
theorem mv_X1_putOnList : rb_MV yX1_putOnList cX1_putOnList 2 none 1 := ⟨rb_at 386 (by decide +kernel) rfl, rb_at 384 (by decide +kernel) rfl, rb_at 385 (by decide +kernel) rfl, rb_at 111 (by decide +kernel) rfl, ⟨by decide +kernel, by decide +kernel, by decide +kernel⟩, Nat.le_of_ble_eq_true rfl⟩
theorem mv_X1_takeOffList : rb_MV yX1_takeOffList cX1_takeOffList 2 none 1 := ⟨rb_at 406 (by decide +kernel) rfl, rb_at 404 (by decide +kernel) rfl, rb_at 405 (by decide +kernel) rfl, rb_at 111 (by decide +kernel) rfl, ⟨by decide +kernel, by decide +kernel, by decide +kernel⟩, Nat.le_of_ble_eq_true rfl⟩
theorem mv_X1_firstListed : rb_MV yX1_firstListed cX1_firstListed 5 (some .int) 1 := ⟨rb_at 402 (by decide +kernel) rfl, rb_at 400 (by decide +kernel) rfl, rb_at 401 (by decide +kernel) rfl, rb_at 111 (by decide +kernel) rfl, ⟨by decide +kernel, by decide +kernel, by decide +kernel⟩, Nat.le_of_ble_eq_true rfl⟩
theorem mv_X1_placeOf : rb_MV yX1_placeOf cX1_placeOf 2 (some .int) 1 := ⟨rb_at 650 (by decide +kernel) rfl, rb_at 648 (by decide +kernel) rfl, rb_at 649 (by decide +kernel) rfl, rb_at 111 (by decide +kernel) rfl, ⟨by decide +kernel, by decide +kernel, by decide +kernel⟩, Nat.le_of_ble_eq_true rfl⟩
theorem mv_X1_aheadOf : rb_MV yX1_aheadOf cX1_aheadOf 7 (some .int) 2 := ⟨rb_at 654 (by decide +kernel) rfl, rb_at 653 (by decide +kernel) rfl, rb_at 13 (by decide +kernel) rfl, rb_at 111 (by decide +kernel) rfl, ⟨by decide +kernel, by decide +kernel, by decide +kernel⟩, Nat.le_of_ble_eq_true rfl⟩
theorem mv_X1_listedBy : rb_MV yX1_listedBy cX1_listedBy 5 (some .int) 1 := ⟨rb_at 664 (by decide +kernel) rfl, rb_at 662 (by decide +kernel) rfl, rb_at 663 (by decide +kernel) rfl, rb_at 111 (by decide +kernel) rfl, ⟨by decide +kernel, by decide +kernel, by decide +kernel⟩, Nat.le_of_ble_eq_true rfl⟩
theorem mv_X1_isShown : rb_MV yX1_isShown cX1_isShown 3 (some .boolean) 2 := ⟨rb_at 676 (by decide +kernel) rfl, rb_at 675 (by decide +kernel) rfl, rb_at 14 (by decide +kernel) rfl, rb_at 111 (by decide +kernel) rfl, ⟨by decide +kernel, by decide +kernel, by decide +kernel⟩, Nat.le_of_ble_eq_true rfl⟩
theorem mv_X1_shownBy : rb_MV yX1_shownBy cX1_shownBy 5 (some .int) 1 := ⟨rb_at 672 (by decide +kernel) rfl, rb_at 670 (by decide +kernel) rfl, rb_at 671 (by decide +kernel) rfl, rb_at 111 (by decide +kernel) rfl, ⟨by decide +kernel, by decide +kernel, by decide +kernel⟩, Nat.le_of_ble_eq_true rfl⟩
theorem mv_X1_showing : rb_MV yX1_showing cX1_showing 5 (some .int) 2 := ⟨rb_at 684 (by decide +kernel) rfl, rb_at 682 (by decide +kernel) rfl, rb_at 683 (by decide +kernel) rfl, rb_at 111 (by decide +kernel) rfl, ⟨by decide +kernel, by decide +kernel, by decide +kernel⟩, Nat.le_of_ble_eq_true rfl⟩
theorem mv_X1_showsOlder : rb_MV yX1_showsOlder cX1_showsOlder 5 (some .boolean) 2 := ⟨rb_at 424 (by decide +kernel) rfl, rb_at 422 (by decide +kernel) rfl, rb_at 423 (by decide +kernel) rfl, rb_at 111 (by decide +kernel) rfl, ⟨by decide +kernel, by decide +kernel, by decide +kernel⟩, Nat.le_of_ble_eq_true rfl⟩
theorem mv_X1_countLeft : rb_MV yX1_countLeft cX1_countLeft 4 none 1 := ⟨rb_at 416 (by decide +kernel) rfl, rb_at 414 (by decide +kernel) rfl, rb_at 415 (by decide +kernel) rfl, rb_at 111 (by decide +kernel) rfl, ⟨by decide +kernel, by decide +kernel, by decide +kernel⟩, Nat.le_of_ble_eq_true rfl⟩
theorem mv_X1_deepBelow : rb_MV yX1_deepBelow cX1_deepBelow 6 (some .int) 2 := ⟨rb_at 547 (by decide +kernel) rfl, rb_at 546 (by decide +kernel) rfl, rb_at 8 (by decide +kernel) rfl, rb_at 111 (by decide +kernel) rfl, ⟨by decide +kernel, by decide +kernel, by decide +kernel⟩, Nat.le_of_ble_eq_true rfl⟩
theorem mv_X1_deepAbove : rb_MV yX1_deepAbove cX1_deepAbove 6 (some .int) 2 := ⟨rb_at 539 (by decide +kernel) rfl, rb_at 538 (by decide +kernel) rfl, rb_at 7 (by decide +kernel) rfl, rb_at 111 (by decide +kernel) rfl, ⟨by decide +kernel, by decide +kernel, by decide +kernel⟩, Nat.le_of_ble_eq_true rfl⟩
theorem mv_X2_restart : rb_MV yX2_restart cX2_restart 2 none 1 := ⟨rb_at 252 (by decide +kernel) rfl, rb_at 250 (by decide +kernel) rfl, rb_at 251 (by decide +kernel) rfl, rb_at 114 (by decide +kernel) rfl, ⟨by decide +kernel, by decide +kernel, by decide +kernel⟩, Nat.le_of_ble_eq_true rfl⟩
theorem mv_X2_keep : rb_MV yX2_keep cX2_keep 2 none 1 := ⟨rb_at 324 (by decide +kernel) rfl, rb_at 322 (by decide +kernel) rfl, rb_at 323 (by decide +kernel) rfl, rb_at 114 (by decide +kernel) rfl, ⟨by decide +kernel, by decide +kernel, by decide +kernel⟩, Nat.le_of_ble_eq_true rfl⟩
theorem mv_X2_goBack : rb_MV yX2_goBack cX2_goBack 2 (some .boolean) 1 := ⟨rb_at 857 (by decide +kernel) rfl, rb_at 855 (by decide +kernel) rfl, rb_at 856 (by decide +kernel) rfl, rb_at 114 (by decide +kernel) rfl, ⟨by decide +kernel, by decide +kernel, by decide +kernel⟩, Nat.le_of_ble_eq_true rfl⟩
theorem mv_X2_goForth : rb_MV yX2_goForth cX2_goForth 2 (some .boolean) 1 := ⟨rb_at 865 (by decide +kernel) rfl, rb_at 863 (by decide +kernel) rfl, rb_at 864 (by decide +kernel) rfl, rb_at 114 (by decide +kernel) rfl, ⟨by decide +kernel, by decide +kernel, by decide +kernel⟩, Nat.le_of_ble_eq_true rfl⟩
theorem mv_X3_begin : rb_MV yX3_begin cX3_begin 4 none 2 := ⟨rb_at 826 (by decide +kernel) rfl, rb_at 824 (by decide +kernel) rfl, rb_at 825 (by decide +kernel) rfl, rb_at 113 (by decide +kernel) rfl, ⟨by decide +kernel, by decide +kernel, by decide +kernel⟩, Nat.le_of_ble_eq_true rfl⟩
theorem mv_X3_tallyOf : rb_MV yX3_tallyOf cX3_tallyOf 2 (some .int) 1 := ⟨rb_at 849 (by decide +kernel) rfl, rb_at 847 (by decide +kernel) rfl, rb_at 848 (by decide +kernel) rfl, rb_at 113 (by decide +kernel) rfl, ⟨by decide +kernel, by decide +kernel, by decide +kernel⟩, Nat.le_of_ble_eq_true rfl⟩
theorem mv_X3_explore : rb_MV yX3_explore cX3_explore 5 none 1 := ⟨rb_at 830 (by decide +kernel) rfl, rb_at 829 (by decide +kernel) rfl, rb_at 18 (by decide +kernel) rfl, rb_at 113 (by decide +kernel) rfl, ⟨by decide +kernel, by decide +kernel, by decide +kernel⟩, Nat.le_of_ble_eq_true rfl⟩
theorem mv_X3_countEnd : rb_MV yX3_countEnd cX3_countEnd 2 none 0 := ⟨rb_at 838 (by decide +kernel) rfl, rb_at 837 (by decide +kernel) rfl, rb_at 19 (by decide +kernel) rfl, rb_at 113 (by decide +kernel) rfl, ⟨by decide +kernel, by decide +kernel, by decide +kernel⟩, Nat.le_of_ble_eq_true rfl⟩
theorem mv_X3_missesSome : rb_MV yX3_missesSome cX3_missesSome 3 (some .boolean) 1 := ⟨rb_at 844 (by decide +kernel) rfl, rb_at 843 (by decide +kernel) rfl, rb_at 20 (by decide +kernel) rfl, rb_at 113 (by decide +kernel) rfl, ⟨by decide +kernel, by decide +kernel, by decide +kernel⟩, Nat.le_of_ble_eq_true rfl⟩
theorem mv_X4_asleep : rb_MV yX4_asleep cX4_asleep 3 (some .int) 0 := ⟨rb_at 779 (by decide +kernel) rfl, rb_at 777 (by decide +kernel) rfl, rb_at 778 (by decide +kernel) rfl, rb_at 112 (by decide +kernel) rfl, ⟨by decide +kernel, by decide +kernel, by decide +kernel⟩, Nat.le_of_ble_eq_true rfl⟩
theorem mv_X4_sleepersAt : rb_MV yX4_sleepersAt cX4_sleepersAt 4 (some .int) 1 := ⟨rb_at 628 (by decide +kernel) rfl, rb_at 626 (by decide +kernel) rfl, rb_at 627 (by decide +kernel) rfl, rb_at 112 (by decide +kernel) rfl, ⟨by decide +kernel, by decide +kernel, by decide +kernel⟩, Nat.le_of_ble_eq_true rfl⟩
theorem mv_X4_firstSleeper : rb_MV yX4_firstSleeper cX4_firstSleeper 4 (some .int) 1 := ⟨rb_at 394 (by decide +kernel) rfl, rb_at 392 (by decide +kernel) rfl, rb_at 393 (by decide +kernel) rfl, rb_at 112 (by decide +kernel) rfl, ⟨by decide +kernel, by decide +kernel, by decide +kernel⟩, Nat.le_of_ble_eq_true rfl⟩
theorem mv_X4_sleeping : rb_MV yX4_sleeping cX4_sleeping 4 (some .int) 2 := ⟨rb_at 697 (by decide +kernel) rfl, rb_at 695 (by decide +kernel) rfl, rb_at 696 (by decide +kernel) rfl, rb_at 112 (by decide +kernel) rfl, ⟨by decide +kernel, by decide +kernel, by decide +kernel⟩, Nat.le_of_ble_eq_true rfl⟩
theorem mv_X4_sleepersAhead : rb_MV yX4_sleepersAhead cX4_sleepersAhead 4 (some .int) 1 := ⟨rb_at 701 (by decide +kernel) rfl, rb_at 700 (by decide +kernel) rfl, rb_at 15 (by decide +kernel) rfl, rb_at 112 (by decide +kernel) rfl, ⟨by decide +kernel, by decide +kernel, by decide +kernel⟩, Nat.le_of_ble_eq_true rfl⟩
theorem mv_X4_fallAsleep : rb_MV yX4_fallAsleep cX4_fallAsleep 5 none 4 := ⟨rb_at 609 (by decide +kernel) rfl, rb_at 607 (by decide +kernel) rfl, rb_at 608 (by decide +kernel) rfl, rb_at 112 (by decide +kernel) rfl, ⟨by decide +kernel, by decide +kernel, by decide +kernel⟩, Nat.le_of_ble_eq_true rfl⟩
theorem mv_X4_getUp : rb_MV yX4_getUp cX4_getUp 2 none 1 := ⟨rb_at 420 (by decide +kernel) rfl, rb_at 418 (by decide +kernel) rfl, rb_at 419 (by decide +kernel) rfl, rb_at 112 (by decide +kernel) rfl, ⟨by decide +kernel, by decide +kernel, by decide +kernel⟩, Nat.le_of_ble_eq_true rfl⟩
theorem mv_X4_giveUp : rb_MV yX4_giveUp cX4_giveUp 2 none 1 := ⟨rb_at 472 (by decide +kernel) rfl, rb_at 470 (by decide +kernel) rfl, rb_at 471 (by decide +kernel) rfl, rb_at 112 (by decide +kernel) rfl, ⟨by decide +kernel, by decide +kernel, by decide +kernel⟩, Nat.le_of_ble_eq_true rfl⟩
theorem mv_X4_dismissFrom : rb_MV yX4_dismissFrom cX4_dismissFrom 3 none 1 := ⟨rb_at 468 (by decide +kernel) rfl, rb_at 466 (by decide +kernel) rfl, rb_at 467 (by decide +kernel) rfl, rb_at 112 (by decide +kernel) rfl, ⟨by decide +kernel, by decide +kernel, by decide +kernel⟩, Nat.le_of_ble_eq_true rfl⟩
theorem mv_X4_dismissLate : rb_MV yX4_dismissLate cX4_dismissLate 2 none 0 := ⟨rb_at 523 (by decide +kernel) rfl, rb_at 521 (by decide +kernel) rfl, rb_at 522 (by decide +kernel) rfl, rb_at 112 (by decide +kernel) rfl, ⟨by decide +kernel, by decide +kernel, by decide +kernel⟩, Nat.le_of_ble_eq_true rfl⟩
theorem mv_X4_canGo : rb_MV yX4_canGo cX4_canGo 2 (some .boolean) 1 := ⟨rb_at 747 (by decide +kernel) rfl, rb_at 745 (by decide +kernel) rfl, rb_at 746 (by decide +kernel) rfl, rb_at 112 (by decide +kernel) rfl, ⟨by decide +kernel, by decide +kernel, by decide +kernel⟩, Nat.le_of_ble_eq_true rfl⟩
theorem mv_X4_putStep : rb_MV yX4_putStep cX4_putStep 7 (some .int) 4 := ⟨rb_at 731 (by decide +kernel) rfl, rb_at 729 (by decide +kernel) rfl, rb_at 730 (by decide +kernel) rfl, rb_at 112 (by decide +kernel) rfl, ⟨by decide +kernel, by decide +kernel, by decide +kernel⟩, Nat.le_of_ble_eq_true rfl⟩
theorem mv_X4_turnProgram : rb_MV yX4_turnProgram cX4_turnProgram 2 none 1 := ⟨rb_at 755 (by decide +kernel) rfl, rb_at 753 (by decide +kernel) rfl, rb_at 754 (by decide +kernel) rfl, rb_at 112 (by decide +kernel) rfl, ⟨by decide +kernel, by decide +kernel, by decide +kernel⟩, Nat.le_of_ble_eq_true rfl⟩
theorem mv_X4_turnColumn : rb_MV yX4_turnColumn cX4_turnColumn 7 none 2 := ⟨rb_at 759 (by decide +kernel) rfl, rb_at 758 (by decide +kernel) rfl, rb_at 17 (by decide +kernel) rfl, rb_at 112 (by decide +kernel) rfl, ⟨by decide +kernel, by decide +kernel, by decide +kernel⟩, Nat.le_of_ble_eq_true rfl⟩
theorem mv_X5_thingOf : rb_MV yX5_thingOf cX5_thingOf 2 (some .int) 1 := ⟨rb_at 341 (by decide +kernel) rfl, rb_at 339 (by decide +kernel) rfl, rb_at 340 (by decide +kernel) rfl, rb_at 110 (by decide +kernel) rfl, ⟨by decide +kernel, by decide +kernel, by decide +kernel⟩, Nat.le_of_ble_eq_true rfl⟩
theorem mv_X5_thingOfKind : rb_MV yX5_thingOfKind cX5_thingOfKind 4 (some .int) 2 := ⟨rb_at 365 (by decide +kernel) rfl, rb_at 363 (by decide +kernel) rfl, rb_at 364 (by decide +kernel) rfl, rb_at 110 (by decide +kernel) rfl, ⟨by decide +kernel, by decide +kernel, by decide +kernel⟩, Nat.le_of_ble_eq_true rfl⟩
theorem mv_X5_freeHandle : rb_MV yX5_freeHandle cX5_freeHandle 1 (some .int) 0 := ⟨rb_at 308 (by decide +kernel) rfl, rb_at 306 (by decide +kernel) rfl, rb_at 307 (by decide +kernel) rfl, rb_at 110 (by decide +kernel) rfl, ⟨by decide +kernel, by decide +kernel, by decide +kernel⟩, Nat.le_of_ble_eq_true rfl⟩
theorem mv_X5_freeHandles : rb_MV yX5_freeHandles cX5_freeHandles 1 (some .int) 0 := ⟨rb_at 292 (by decide +kernel) rfl, rb_at 290 (by decide +kernel) rfl, rb_at 291 (by decide +kernel) rfl, rb_at 110 (by decide +kernel) rfl, ⟨by decide +kernel, by decide +kernel, by decide +kernel⟩, Nat.le_of_ble_eq_true rfl⟩
theorem mv_X5_lowestHandle : rb_MV yX5_lowestHandle cX5_lowestHandle 2 (some .int) 1 := ⟨rb_at 455 (by decide +kernel) rfl, rb_at 453 (by decide +kernel) rfl, rb_at 454 (by decide +kernel) rfl, rb_at 110 (by decide +kernel) rfl, ⟨by decide +kernel, by decide +kernel, by decide +kernel⟩, Nat.le_of_ble_eq_true rfl⟩
theorem mv_X5_firstNaming : rb_MV yX5_firstNaming cX5_firstNaming 3 (some .int) 1 := ⟨rb_at 312 (by decide +kernel) rfl, rb_at 311 (by decide +kernel) rfl, rb_at 0 (by decide +kernel) rfl, rb_at 110 (by decide +kernel) rfl, ⟨by decide +kernel, by decide +kernel, by decide +kernel⟩, Nat.le_of_ble_eq_true rfl⟩
theorem mv_X5_handlesOf : rb_MV yX5_handlesOf cX5_handlesOf 4 (some .int) 1 := ⟨rb_at 296 (by decide +kernel) rfl, rb_at 294 (by decide +kernel) rfl, rb_at 295 (by decide +kernel) rfl, rb_at 110 (by decide +kernel) rfl, ⟨by decide +kernel, by decide +kernel, by decide +kernel⟩, Nat.le_of_ble_eq_true rfl⟩
theorem mv_X5_handleBits : rb_MV yX5_handleBits cX5_handleBits 3 (some .int) 0 := ⟨rb_at 873 (by decide +kernel) rfl, rb_at 871 (by decide +kernel) rfl, rb_at 872 (by decide +kernel) rfl, rb_at 110 (by decide +kernel) rfl, ⟨by decide +kernel, by decide +kernel, by decide +kernel⟩, Nat.le_of_ble_eq_true rfl⟩
theorem mv_X5_giveName : rb_MV yX5_giveName cX5_giveName 3 none 2 := ⟨rb_at 316 (by decide +kernel) rfl, rb_at 314 (by decide +kernel) rfl, rb_at 315 (by decide +kernel) rfl, rb_at 110 (by decide +kernel) rfl, ⟨by decide +kernel, by decide +kernel, by decide +kernel⟩, Nat.le_of_ble_eq_true rfl⟩
theorem mv_X5_makeThing : rb_MV yX5_makeThing cX5_makeThing 3 (some .int) 1 := ⟨rb_at 304 (by decide +kernel) rfl, rb_at 302 (by decide +kernel) rfl, rb_at 303 (by decide +kernel) rfl, rb_at 110 (by decide +kernel) rfl, ⟨by decide +kernel, by decide +kernel, by decide +kernel⟩, Nat.le_of_ble_eq_true rfl⟩
theorem mv_X5_makeEnds : rb_MV yX5_makeEnds cX5_makeEnds 4 (some .int) 1 := ⟨rb_at 300 (by decide +kernel) rfl, rb_at 298 (by decide +kernel) rfl, rb_at 299 (by decide +kernel) rfl, rb_at 110 (by decide +kernel) rfl, ⟨by decide +kernel, by decide +kernel, by decide +kernel⟩, Nat.le_of_ble_eq_true rfl⟩
theorem mv_X5_remove : rb_MV yX5_remove cX5_remove 3 none 1 := ⟨rb_at 477 (by decide +kernel) rfl, rb_at 475 (by decide +kernel) rfl, rb_at 476 (by decide +kernel) rfl, rb_at 110 (by decide +kernel) rfl, ⟨by decide +kernel, by decide +kernel, by decide +kernel⟩, Nat.le_of_ble_eq_true rfl⟩
theorem mv_X5_setHeld : rb_MV yX5_setHeld cX5_setHeld 4 none 2 := ⟨rb_at 494 (by decide +kernel) rfl, rb_at 492 (by decide +kernel) rfl, rb_at 493 (by decide +kernel) rfl, rb_at 110 (by decide +kernel) rfl, ⟨by decide +kernel, by decide +kernel, by decide +kernel⟩, Nat.le_of_ble_eq_true rfl⟩
theorem mv_X5_waitingInAll : rb_MV yX5_waitingInAll cX5_waitingInAll 3 (some .int) 0 := ⟨rb_at 370 (by decide +kernel) rfl, rb_at 368 (by decide +kernel) rfl, rb_at 369 (by decide +kernel) rfl, rb_at 110 (by decide +kernel) rfl, ⟨by decide +kernel, by decide +kernel, by decide +kernel⟩, Nat.le_of_ble_eq_true rfl⟩
theorem mv_X5_longestWaiting : rb_MV yX5_longestWaiting cX5_longestWaiting 4 (some .int) 1 := ⟨rb_at 436 (by decide +kernel) rfl, rb_at 434 (by decide +kernel) rfl, rb_at 435 (by decide +kernel) rfl, rb_at 110 (by decide +kernel) rfl, ⟨by decide +kernel, by decide +kernel, by decide +kernel⟩, Nat.le_of_ble_eq_true rfl⟩
theorem mv_X5_living : rb_MV yX5_living cX5_living 3 (some .int) 0 := ⟨rb_at 805 (by decide +kernel) rfl, rb_at 803 (by decide +kernel) rfl, rb_at 804 (by decide +kernel) rfl, rb_at 110 (by decide +kernel) rfl, ⟨by decide +kernel, by decide +kernel, by decide +kernel⟩, Nat.le_of_ble_eq_true rfl⟩
theorem ms_X6_fillWithNone : rb_MS yX6_fillWithNone cX6_fillWithNone 4 none 3 := ⟨rb_at 131 (by decide +kernel) rfl, rb_at 130 (by decide +kernel) rfl, rb_at 108 (by decide +kernel) rfl, ⟨by decide +kernel, by decide +kernel, by decide +kernel⟩, Nat.le_of_ble_eq_true rfl⟩
theorem ms_X6_between : rb_MS yX6_between cX6_between 3 (some .boolean) 3 := ⟨rb_at 288 (by decide +kernel) rfl, rb_at 287 (by decide +kernel) rfl, rb_at 108 (by decide +kernel) rfl, ⟨by decide +kernel, by decide +kernel, by decide +kernel⟩, Nat.le_of_ble_eq_true rfl⟩
theorem ms_X6_isTask : rb_MS yX6_isTask cX6_isTask 1 (some .boolean) 1 := ⟨rb_at 597 (by decide +kernel) rfl, rb_at 596 (by decide +kernel) rfl, rb_at 108 (by decide +kernel) rfl, ⟨by decide +kernel, by decide +kernel, by decide +kernel⟩, Nat.le_of_ble_eq_true rfl⟩
theorem mv_X6_keptFrom : rb_MV yX6_keptFrom cX6_keptFrom 3 (some .int) 2 := ⟨rb_at 320 (by decide +kernel) rfl, rb_at 319 (by decide +kernel) rfl, rb_at 1 (by decide +kernel) rfl, rb_at 108 (by decide +kernel) rfl, ⟨by decide +kernel, by decide +kernel, by decide +kernel⟩, Nat.le_of_ble_eq_true rfl⟩
theorem mv_X6_keptIf : rb_MV yX6_keptIf cX6_keptIf 2 (some .boolean) 1 := ⟨rb_at 481 (by decide +kernel) rfl, rb_at 480 (by decide +kernel) rfl, rb_at 6 (by decide +kernel) rfl, rb_at 108 (by decide +kernel) rfl, ⟨by decide +kernel, by decide +kernel, by decide +kernel⟩, Nat.le_of_ble_eq_true rfl⟩
theorem mv_X6_rehearse : rb_MV yX6_rehearse cX6_rehearse 1 none 0 := ⟨rb_at 718 (by decide +kernel) rfl, rb_at 717 (by decide +kernel) rfl, rb_at 16 (by decide +kernel) rfl, rb_at 108 (by decide +kernel) rfl, ⟨by decide +kernel, by decide +kernel, by decide +kernel⟩, Nat.le_of_ble_eq_true rfl⟩
theorem mv_X6_setOf : rb_MV yX6_setOf cX6_setOf 2 (some .int) 1 := ⟨rb_at 641 (by decide +kernel) rfl, rb_at 640 (by decide +kernel) rfl, rb_at 12 (by decide +kernel) rfl, rb_at 108 (by decide +kernel) rfl, ⟨by decide +kernel, by decide +kernel, by decide +kernel⟩, Nat.le_of_ble_eq_true rfl⟩
theorem mv_X6_pipe : rb_MV yX6_pipe cX6_pipe 2 (some .int) 1 := ⟨rb_at 281 (by decide +kernel) rfl, rb_at 279 (by decide +kernel) rfl, rb_at 280 (by decide +kernel) rfl, rb_at 108 (by decide +kernel) rfl, ⟨by decide +kernel, by decide +kernel, by decide +kernel⟩, Nat.le_of_ble_eq_true rfl⟩
theorem mv_X6_counter : rb_MV yX6_counter cX6_counter 5 (some .int) 2 := ⟨rb_at 331 (by decide +kernel) rfl, rb_at 329 (by decide +kernel) rfl, rb_at 330 (by decide +kernel) rfl, rb_at 108 (by decide +kernel) rfl, ⟨by decide +kernel, by decide +kernel, by decide +kernel⟩, Nat.le_of_ble_eq_true rfl⟩
theorem mv_X6_timer : rb_MV yX6_timer cX6_timer 1 (some .int) 0 := ⟨rb_at 345 (by decide +kernel) rfl, rb_at 343 (by decide +kernel) rfl, rb_at 344 (by decide +kernel) rfl, rb_at 108 (by decide +kernel) rfl, ⟨by decide +kernel, by decide +kernel, by decide +kernel⟩, Nat.le_of_ble_eq_true rfl⟩
theorem mv_X6_set : rb_MV yX6_set cX6_set 1 (some .int) 0 := ⟨rb_at 349 (by decide +kernel) rfl, rb_at 347 (by decide +kernel) rfl, rb_at 348 (by decide +kernel) rfl, rb_at 108 (by decide +kernel) rfl, ⟨by decide +kernel, by decide +kernel, by decide +kernel⟩, Nat.le_of_ble_eq_true rfl⟩
theorem mv_X6_listener : rb_MV yX6_listener cX6_listener 5 (some .int) 2 := ⟨rb_at 353 (by decide +kernel) rfl, rb_at 351 (by decide +kernel) rfl, rb_at 352 (by decide +kernel) rfl, rb_at 108 (by decide +kernel) rfl, ⟨by decide +kernel, by decide +kernel, by decide +kernel⟩, Nat.le_of_ble_eq_true rfl⟩
theorem mv_X6_connect : rb_MV yX6_connect cX6_connect 2 (some .int) 1 := ⟨rb_at 357 (by decide +kernel) rfl, rb_at 355 (by decide +kernel) rfl, rb_at 356 (by decide +kernel) rfl, rb_at 108 (by decide +kernel) rfl, ⟨by decide +kernel, by decide +kernel, by decide +kernel⟩, Nat.le_of_ble_eq_true rfl⟩
theorem mv_X6_accept : rb_MV yX6_accept cX6_accept 2 (some .int) 1 := ⟨rb_at 428 (by decide +kernel) rfl, rb_at 426 (by decide +kernel) rfl, rb_at 427 (by decide +kernel) rfl, rb_at 108 (by decide +kernel) rfl, ⟨by decide +kernel, by decide +kernel, by decide +kernel⟩, Nat.le_of_ble_eq_true rfl⟩
theorem mv_X6_twin : rb_MV yX6_twin cX6_twin 4 (some .int) 1 := ⟨rb_at 440 (by decide +kernel) rfl, rb_at 438 (by decide +kernel) rfl, rb_at 439 (by decide +kernel) rfl, rb_at 108 (by decide +kernel) rfl, ⟨by decide +kernel, by decide +kernel, by decide +kernel⟩, Nat.le_of_ble_eq_true rfl⟩
theorem mv_X6_close : rb_MV yX6_close cX6_close 2 (some .boolean) 1 := ⟨rb_at 446 (by decide +kernel) rfl, rb_at 444 (by decide +kernel) rfl, rb_at 445 (by decide +kernel) rfl, rb_at 108 (by decide +kernel) rfl, ⟨by decide +kernel, by decide +kernel, by decide +kernel⟩, Nat.le_of_ble_eq_true rfl⟩
theorem mv_X6_write : rb_MV yX6_write cX6_write 3 (some .int) 2 := ⟨rb_at 485 (by decide +kernel) rfl, rb_at 483 (by decide +kernel) rfl, rb_at 484 (by decide +kernel) rfl, rb_at 108 (by decide +kernel) rfl, ⟨by decide +kernel, by decide +kernel, by decide +kernel⟩, Nat.le_of_ble_eq_true rfl⟩
theorem mv_X6_read : rb_MV yX6_read cX6_read 3 (some .int) 2 := ⟨rb_at 498 (by decide +kernel) rfl, rb_at 496 (by decide +kernel) rfl, rb_at 497 (by decide +kernel) rfl, rb_at 108 (by decide +kernel) rfl, ⟨by decide +kernel, by decide +kernel, by decide +kernel⟩, Nat.le_of_ble_eq_true rfl⟩
theorem mv_X6_arm : rb_MV yX6_arm cX6_arm 4 (some .boolean) 3 := ⟨rb_at 506 (by decide +kernel) rfl, rb_at 504 (by decide +kernel) rfl, rb_at 505 (by decide +kernel) rfl, rb_at 108 (by decide +kernel) rfl, ⟨by decide +kernel, by decide +kernel, by decide +kernel⟩, Nat.le_of_ble_eq_true rfl⟩
theorem mv_X6_tick : rb_MV yX6_tick cX6_tick 3 (some .int) 1 := ⟨rb_at 514 (by decide +kernel) rfl, rb_at 512 (by decide +kernel) rfl, rb_at 513 (by decide +kernel) rfl, rb_at 108 (by decide +kernel) rfl, ⟨by decide +kernel, by decide +kernel, by decide +kernel⟩, Nat.le_of_ble_eq_true rfl⟩
theorem mv_X6_add : rb_MV yX6_add cX6_add 5 (some .int) 4 := ⟨rb_at 527 (by decide +kernel) rfl, rb_at 525 (by decide +kernel) rfl, rb_at 526 (by decide +kernel) rfl, rb_at 108 (by decide +kernel) rfl, ⟨by decide +kernel, by decide +kernel, by decide +kernel⟩, Nat.le_of_ble_eq_true rfl⟩
theorem mv_X6_change : rb_MV yX6_change cX6_change 6 (some .boolean) 4 := ⟨rb_at 572 (by decide +kernel) rfl, rb_at 570 (by decide +kernel) rfl, rb_at 571 (by decide +kernel) rfl, rb_at 108 (by decide +kernel) rfl, ⟨by decide +kernel, by decide +kernel, by decide +kernel⟩, Nat.le_of_ble_eq_true rfl⟩
theorem mv_X6_drop : rb_MV yX6_drop cX6_drop 4 (some .boolean) 2 := ⟨rb_at 581 (by decide +kernel) rfl, rb_at 579 (by decide +kernel) rfl, rb_at 580 (by decide +kernel) rfl, rb_at 108 (by decide +kernel) rfl, ⟨by decide +kernel, by decide +kernel, by decide +kernel⟩, Nat.le_of_ble_eq_true rfl⟩
theorem mv_X6_collect : rb_MV yX6_collect cX6_collect 4 (some .int) 3 := ⟨rb_at 586 (by decide +kernel) rfl, rb_at 584 (by decide +kernel) rfl, rb_at 585 (by decide +kernel) rfl, rb_at 108 (by decide +kernel) rfl, ⟨by decide +kernel, by decide +kernel, by decide +kernel⟩, Nat.le_of_ble_eq_true rfl⟩
theorem mv_X6_await : rb_MV yX6_await cX6_await 6 (some .int) 4 := ⟨rb_at 601 (by decide +kernel) rfl, rb_at 599 (by decide +kernel) rfl, rb_at 600 (by decide +kernel) rfl, rb_at 108 (by decide +kernel) rfl, ⟨by decide +kernel, by decide +kernel, by decide +kernel⟩, Nat.le_of_ble_eq_true rfl⟩
theorem mv_X6_handle : rb_MV yX6_handle cX6_handle 4 (some .int) 2 := ⟨rb_at 613 (by decide +kernel) rfl, rb_at 611 (by decide +kernel) rfl, rb_at 612 (by decide +kernel) rfl, rb_at 108 (by decide +kernel) rfl, ⟨by decide +kernel, by decide +kernel, by decide +kernel⟩, Nat.le_of_ble_eq_true rfl⟩
theorem mv_X6_measureOf : rb_MV yX6_measureOf cX6_measureOf 2 (some .int) 1 := ⟨rb_at 624 (by decide +kernel) rfl, rb_at 623 (by decide +kernel) rfl, rb_at 11 (by decide +kernel) rfl, rb_at 108 (by decide +kernel) rfl, ⟨by decide +kernel, by decide +kernel, by decide +kernel⟩, Nat.le_of_ble_eq_true rfl⟩
theorem mv_X6_other : rb_MV yX6_other cX6_other 3 (some .int) 1 := ⟨rb_at 632 (by decide +kernel) rfl, rb_at 630 (by decide +kernel) rfl, rb_at 631 (by decide +kernel) rfl, rb_at 108 (by decide +kernel) rfl, ⟨by decide +kernel, by decide +kernel, by decide +kernel⟩, Nat.le_of_ble_eq_true rfl⟩
theorem mv_X6_interest : rb_MV yX6_interest cX6_interest 6 (some .int) 3 := ⟨rb_at 637 (by decide +kernel) rfl, rb_at 635 (by decide +kernel) rfl, rb_at 636 (by decide +kernel) rfl, rb_at 108 (by decide +kernel) rfl, ⟨by decide +kernel, by decide +kernel, by decide +kernel⟩, Nat.le_of_ble_eq_true rfl⟩
theorem mv_X6_listed : rb_MV yX6_listed cX6_listed 3 (some .int) 1 := ⟨rb_at 660 (by decide +kernel) rfl, rb_at 658 (by decide +kernel) rfl, rb_at 659 (by decide +kernel) rfl, rb_at 108 (by decide +kernel) rfl, ⟨by decide +kernel, by decide +kernel, by decide +kernel⟩, Nat.le_of_ble_eq_true rfl⟩
theorem mv_X6_shows : rb_MV yX6_shows cX6_shows 3 (some .int) 1 := ⟨rb_at 668 (by decide +kernel) rfl, rb_at 666 (by decide +kernel) rfl, rb_at 667 (by decide +kernel) rfl, rb_at 108 (by decide +kernel) rfl, ⟨by decide +kernel, by decide +kernel, by decide +kernel⟩, Nat.le_of_ble_eq_true rfl⟩
theorem mv_X6_shown : rb_MV yX6_shown cX6_shown 5 (some .int) 2 := ⟨rb_at 680 (by decide +kernel) rfl, rb_at 678 (by decide +kernel) rfl, rb_at 679 (by decide +kernel) rfl, rb_at 108 (by decide +kernel) rfl, ⟨by decide +kernel, by decide +kernel, by decide +kernel⟩, Nat.le_of_ble_eq_true rfl⟩
theorem mv_X6_depth : rb_MV yX6_depth cX6_depth 3 (some .int) 1 := ⟨rb_at 688 (by decide +kernel) rfl, rb_at 686 (by decide +kernel) rfl, rb_at 687 (by decide +kernel) rfl, rb_at 108 (by decide +kernel) rfl, ⟨by decide +kernel, by decide +kernel, by decide +kernel⟩, Nat.le_of_ble_eq_true rfl⟩
theorem mv_X6_sleeper : rb_MV yX6_sleeper cX6_sleeper 4 (some .int) 2 := ⟨rb_at 693 (by decide +kernel) rfl, rb_at 691 (by decide +kernel) rfl, rb_at 692 (by decide +kernel) rfl, rb_at 108 (by decide +kernel) rfl, ⟨by decide +kernel, by decide +kernel, by decide +kernel⟩, Nat.le_of_ble_eq_true rfl⟩
theorem mv_X6_task : rb_MV yX6_task cX6_task 3 (some .int) 2 := ⟨rb_at 705 (by decide +kernel) rfl, rb_at 703 (by decide +kernel) rfl, rb_at 704 (by decide +kernel) rfl, rb_at 108 (by decide +kernel) rfl, ⟨by decide +kernel, by decide +kernel, by decide +kernel⟩, Nat.le_of_ble_eq_true rfl⟩
theorem mv_X6_got : rb_MV yX6_got cX6_got 4 (some .int) 3 := ⟨rb_at 710 (by decide +kernel) rfl, rb_at 708 (by decide +kernel) rfl, rb_at 709 (by decide +kernel) rfl, rb_at 108 (by decide +kernel) rfl, ⟨by decide +kernel, by decide +kernel, by decide +kernel⟩, Nat.le_of_ble_eq_true rfl⟩
theorem mv_X6_wakes : rb_MV yX6_wakes cX6_wakes 2 (some .int) 1 := ⟨rb_at 714 (by decide +kernel) rfl, rb_at 712 (by decide +kernel) rfl, rb_at 713 (by decide +kernel) rfl, rb_at 108 (by decide +kernel) rfl, ⟨by decide +kernel, by decide +kernel, by decide +kernel⟩, Nat.le_of_ble_eq_true rfl⟩
theorem mv_X6_plan : rb_MV yX6_plan cX6_plan 5 (some .int) 4 := ⟨rb_at 727 (by decide +kernel) rfl, rb_at 725 (by decide +kernel) rfl, rb_at 726 (by decide +kernel) rfl, rb_at 108 (by decide +kernel) rfl, ⟨by decide +kernel, by decide +kernel, by decide +kernel⟩, Nat.le_of_ble_eq_true rfl⟩
theorem mv_X6_round : rb_MV yX6_round cX6_round 4 (some .boolean) 2 := ⟨rb_at 735 (by decide +kernel) rfl, rb_at 733 (by decide +kernel) rfl, rb_at 734 (by decide +kernel) rfl, rb_at 108 (by decide +kernel) rfl, ⟨by decide +kernel, by decide +kernel, by decide +kernel⟩, Nat.le_of_ble_eq_true rfl⟩
theorem mv_X6_rounds : rb_MV yX6_rounds cX6_rounds 4 (some .int) 1 := ⟨rb_at 739 (by decide +kernel) rfl, rb_at 737 (by decide +kernel) rfl, rb_at 738 (by decide +kernel) rfl, rb_at 108 (by decide +kernel) rfl, ⟨by decide +kernel, by decide +kernel, by decide +kernel⟩, Nat.le_of_ble_eq_true rfl⟩
theorem mv_X6_stuck : rb_MV yX6_stuck cX6_stuck 2 (some .int) 0 := ⟨rb_at 771 (by decide +kernel) rfl, rb_at 769 (by decide +kernel) rfl, rb_at 770 (by decide +kernel) rfl, rb_at 108 (by decide +kernel) rfl, ⟨by decide +kernel, by decide +kernel, by decide +kernel⟩, Nat.le_of_ble_eq_true rfl⟩
theorem mv_X6_soon : rb_MV yX6_soon cX6_soon 4 (some .int) 1 := ⟨rb_at 783 (by decide +kernel) rfl, rb_at 781 (by decide +kernel) rfl, rb_at 782 (by decide +kernel) rfl, rb_at 108 (by decide +kernel) rfl, ⟨by decide +kernel, by decide +kernel, by decide +kernel⟩, Nat.le_of_ble_eq_true rfl⟩
theorem mv_X6_calls : rb_MV yX6_calls cX6_calls 5 (some .int) 2 := ⟨rb_at 791 (by decide +kernel) rfl, rb_at 789 (by decide +kernel) rfl, rb_at 790 (by decide +kernel) rfl, rb_at 108 (by decide +kernel) rfl, ⟨by decide +kernel, by decide +kernel, by decide +kernel⟩, Nat.le_of_ble_eq_true rfl⟩
theorem mv_X6_image : rb_MV yX6_image cX6_image 2 (some .int) 1 := ⟨rb_at 800 (by decide +kernel) rfl, rb_at 798 (by decide +kernel) rfl, rb_at 799 (by decide +kernel) rfl, rb_at 108 (by decide +kernel) rfl, ⟨by decide +kernel, by decide +kernel, by decide +kernel⟩, Nat.le_of_ble_eq_true rfl⟩
theorem mv_X6_back : rb_MV yX6_back cX6_back 2 (some .int) 1 := ⟨rb_at 809 (by decide +kernel) rfl, rb_at 807 (by decide +kernel) rfl, rb_at 808 (by decide +kernel) rfl, rb_at 108 (by decide +kernel) rfl, ⟨by decide +kernel, by decide +kernel, by decide +kernel⟩, Nat.le_of_ble_eq_true rfl⟩
theorem mv_X6_forget : rb_MV yX6_forget cX6_forget 3 (some .int) 1 := ⟨rb_at 813 (by decide +kernel) rfl, rb_at 811 (by decide +kernel) rfl, rb_at 812 (by decide +kernel) rfl, rb_at 108 (by decide +kernel) rfl, ⟨by decide +kernel, by decide +kernel, by decide +kernel⟩, Nat.le_of_ble_eq_true rfl⟩
theorem mv_X6_step : rb_MV yX6_step cX6_step 3 (some .int) 1 := ⟨rb_at 817 (by decide +kernel) rfl, rb_at 815 (by decide +kernel) rfl, rb_at 816 (by decide +kernel) rfl, rb_at 108 (by decide +kernel) rfl, ⟨by decide +kernel, by decide +kernel, by decide +kernel⟩, Nat.le_of_ble_eq_true rfl⟩
theorem mv_X6_orders : rb_MV yX6_orders cX6_orders 4 (some .int) 3 := ⟨rb_at 822 (by decide +kernel) rfl, rb_at 820 (by decide +kernel) rfl, rb_at 821 (by decide +kernel) rfl, rb_at 108 (by decide +kernel) rfl, ⟨by decide +kernel, by decide +kernel, by decide +kernel⟩, Nat.le_of_ble_eq_true rfl⟩
theorem mv_X6_undo : rb_MV yX6_undo cX6_undo 1 (some .boolean) 0 := ⟨rb_at 853 (by decide +kernel) rfl, rb_at 851 (by decide +kernel) rfl, rb_at 852 (by decide +kernel) rfl, rb_at 108 (by decide +kernel) rfl, ⟨by decide +kernel, by decide +kernel, by decide +kernel⟩, Nat.le_of_ble_eq_true rfl⟩
theorem mv_X6_redo : rb_MV yX6_redo cX6_redo 1 (some .boolean) 0 := ⟨rb_at 861 (by decide +kernel) rfl, rb_at 859 (by decide +kernel) rfl, rb_at 860 (by decide +kernel) rfl, rb_at 108 (by decide +kernel) rfl, ⟨by decide +kernel, by decide +kernel, by decide +kernel⟩, Nat.le_of_ble_eq_true rfl⟩
theorem mv_X6_about : rb_MV yX6_about cX6_about 2 (some .int) 1 := ⟨rb_at 869 (by decide +kernel) rfl, rb_at 867 (by decide +kernel) rfl, rb_at 868 (by decide +kernel) rfl, rb_at 108 (by decide +kernel) rfl, ⟨by decide +kernel, by decide +kernel, by decide +kernel⟩, Nat.le_of_ble_eq_true rfl⟩
theorem ms_X7_isIn : rb_MS yX7_isIn cX7_isIn 3 (some .boolean) 3 := ⟨rb_at 957 (by decide +kernel) rfl, rb_at 956 (by decide +kernel) rfl, rb_at 116 (by decide +kernel) rfl, ⟨by decide +kernel, by decide +kernel, by decide +kernel⟩, Nat.le_of_ble_eq_true rfl⟩
theorem ms_X7_objectAt : rb_MS yX7_objectAt cX7_objectAt 2 (some .int) 2 := ⟨rb_at 882 (by decide +kernel) rfl, rb_at 881 (by decide +kernel) rfl, rb_at 116 (by decide +kernel) rfl, ⟨by decide +kernel, by decide +kernel, by decide +kernel⟩, Nat.le_of_ble_eq_true rfl⟩
theorem ms_X7_pipeAt : rb_MS yX7_pipeAt cX7_pipeAt 2 (some .int) 2 := ⟨rb_at 885 (by decide +kernel) rfl, rb_at 884 (by decide +kernel) rfl, rb_at 116 (by decide +kernel) rfl, ⟨by decide +kernel, by decide +kernel, by decide +kernel⟩, Nat.le_of_ble_eq_true rfl⟩
theorem ms_X7_interestAt : rb_MS yX7_interestAt cX7_interestAt 2 (some .int) 2 := ⟨rb_at 888 (by decide +kernel) rfl, rb_at 887 (by decide +kernel) rfl, rb_at 116 (by decide +kernel) rfl, ⟨by decide +kernel, by decide +kernel, by decide +kernel⟩, Nat.le_of_ble_eq_true rfl⟩
theorem ms_X7_taskAt : rb_MS yX7_taskAt cX7_taskAt 2 (some .int) 2 := ⟨rb_at 891 (by decide +kernel) rfl, rb_at 890 (by decide +kernel) rfl, rb_at 116 (by decide +kernel) rfl, ⟨by decide +kernel, by decide +kernel, by decide +kernel⟩, Nat.le_of_ble_eq_true rfl⟩
theorem mv_X7_ofObject : rb_MV yX7_ofObject cX7_ofObject 3 (some .int) 2 := ⟨rb_at 985 (by decide +kernel) rfl, rb_at 984 (by decide +kernel) rfl, rb_at 27 (by decide +kernel) rfl, rb_at 116 (by decide +kernel) rfl, ⟨by decide +kernel, by decide +kernel, by decide +kernel⟩, Nat.le_of_ble_eq_true rfl⟩
theorem mv_X7_ofPipe : rb_MV yX7_ofPipe cX7_ofPipe 3 (some .int) 2 := ⟨rb_at 973 (by decide +kernel) rfl, rb_at 972 (by decide +kernel) rfl, rb_at 24 (by decide +kernel) rfl, rb_at 116 (by decide +kernel) rfl, ⟨by decide +kernel, by decide +kernel, by decide +kernel⟩, Nat.le_of_ble_eq_true rfl⟩
theorem mv_X7_ofInterest : rb_MV yX7_ofInterest cX7_ofInterest 3 (some .int) 2 := ⟨rb_at 1061 (by decide +kernel) rfl, rb_at 1060 (by decide +kernel) rfl, rb_at 40 (by decide +kernel) rfl, rb_at 116 (by decide +kernel) rfl, ⟨by decide +kernel, by decide +kernel, by decide +kernel⟩, Nat.le_of_ble_eq_true rfl⟩
theorem mv_X7_ofTask : rb_MV yX7_ofTask cX7_ofTask 3 (some .int) 2 := ⟨rb_at 1085 (by decide +kernel) rfl, rb_at 1084 (by decide +kernel) rfl, rb_at 46 (by decide +kernel) rfl, rb_at 116 (by decide +kernel) rfl, ⟨by decide +kernel, by decide +kernel, by decide +kernel⟩, Nat.le_of_ble_eq_true rfl⟩
theorem mv_X7_kindOf : rb_MV yX7_kindOf cX7_kindOf 2 (some .int) 1 := ⟨rb_at 981 (by decide +kernel) rfl, rb_at 980 (by decide +kernel) rfl, rb_at 26 (by decide +kernel) rfl, rb_at 116 (by decide +kernel) rfl, ⟨by decide +kernel, by decide +kernel, by decide +kernel⟩, Nat.le_of_ble_eq_true rfl⟩
theorem mv_X7_isHandle : rb_MV yX7_isHandle cX7_isHandle 2 (some .boolean) 1 := ⟨rb_at 1017 (by decide +kernel) rfl, rb_at 1016 (by decide +kernel) rfl, rb_at 30 (by decide +kernel) rfl, rb_at 116 (by decide +kernel) rfl, ⟨by decide +kernel, by decide +kernel, by decide +kernel⟩, Nat.le_of_ble_eq_true rfl⟩
theorem mv_X7_names : rb_MV yX7_names cX7_names 3 (some .boolean) 2 := ⟨rb_at 1029 (by decide +kernel) rfl, rb_at 1028 (by decide +kernel) rfl, rb_at 32 (by decide +kernel) rfl, rb_at 116 (by decide +kernel) rfl, ⟨by decide +kernel, by decide +kernel, by decide +kernel⟩, Nat.le_of_ble_eq_true rfl⟩
theorem mv_X7_isTask : rb_MV yX7_isTask cX7_isTask 2 (some .boolean) 1 := ⟨rb_at 1289 (by decide +kernel) rfl, rb_at 1288 (by decide +kernel) rfl, rb_at 86 (by decide +kernel) rfl, rb_at 116 (by decide +kernel) rfl, ⟨by decide +kernel, by decide +kernel, by decide +kernel⟩, Nat.le_of_ble_eq_true rfl⟩
theorem mv_X7_isInterest : rb_MV yX7_isInterest cX7_isInterest 2 (some .boolean) 1 := ⟨rb_at 1057 (by decide +kernel) rfl, rb_at 1056 (by decide +kernel) rfl, rb_at 39 (by decide +kernel) rfl, rb_at 116 (by decide +kernel) rfl, ⟨by decide +kernel, by decide +kernel, by decide +kernel⟩, Nat.le_of_ble_eq_true rfl⟩
theorem mv_X7_isAsleep : rb_MV yX7_isAsleep cX7_isAsleep 2 (some .boolean) 1 := ⟨rb_at 1226 (by decide +kernel) rfl, rb_at 1225 (by decide +kernel) rfl, rb_at 75 (by decide +kernel) rfl, rb_at 116 (by decide +kernel) rfl, ⟨by decide +kernel, by decide +kernel, by decide +kernel⟩, Nat.le_of_ble_eq_true rfl⟩
theorem mv_X7_stamp : rb_MV yX7_stamp cX7_stamp 1 (some .int) 0 := ⟨rb_at 1037 (by decide +kernel) rfl, rb_at 1036 (by decide +kernel) rfl, rb_at 34 (by decide +kernel) rfl, rb_at 116 (by decide +kernel) rfl, ⟨by decide +kernel, by decide +kernel, by decide +kernel⟩, Nat.le_of_ble_eq_true rfl⟩
theorem mv_X7_freeHandle : rb_MV yX7_freeHandle cX7_freeHandle 2 (some .int) 0 := ⟨rb_at 993 (by decide +kernel) rfl, rb_at 992 (by decide +kernel) rfl, rb_at 29 (by decide +kernel) rfl, rb_at 116 (by decide +kernel) rfl, ⟨by decide +kernel, by decide +kernel, by decide +kernel⟩, Nat.le_of_ble_eq_true rfl⟩
theorem mv_X7_freeHandles : rb_MV yX7_freeHandles cX7_freeHandles 3 (some .int) 0 := ⟨rb_at 961 (by decide +kernel) rfl, rb_at 960 (by decide +kernel) rfl, rb_at 21 (by decide +kernel) rfl, rb_at 116 (by decide +kernel) rfl, ⟨by decide +kernel, by decide +kernel, by decide +kernel⟩, Nat.le_of_ble_eq_true rfl⟩
theorem mv_X7_lowestOf : rb_MV yX7_lowestOf cX7_lowestOf 3 (some .int) 1 := ⟨rb_at 1073 (by decide +kernel) rfl, rb_at 1072 (by decide +kernel) rfl, rb_at 43 (by decide +kernel) rfl, rb_at 116 (by decide +kernel) rfl, ⟨by decide +kernel, by decide +kernel, by decide +kernel⟩, Nat.le_of_ble_eq_true rfl⟩
theorem mv_X7_handlesOf : rb_MV yX7_handlesOf cX7_handlesOf 4 (some .int) 1 := ⟨rb_at 1153 (by decide +kernel) rfl, rb_at 1152 (by decide +kernel) rfl, rb_at 61 (by decide +kernel) rfl, rb_at 116 (by decide +kernel) rfl, ⟨by decide +kernel, by decide +kernel, by decide +kernel⟩, Nat.le_of_ble_eq_true rfl⟩
theorem mv_X7_newObject : rb_MV yX7_newObject cX7_newObject 6 (some .int) 4 := ⟨rb_at 977 (by decide +kernel) rfl, rb_at 976 (by decide +kernel) rfl, rb_at 25 (by decide +kernel) rfl, rb_at 116 (by decide +kernel) rfl, ⟨by decide +kernel, by decide +kernel, by decide +kernel⟩, Nat.le_of_ble_eq_true rfl⟩
theorem mv_X7_newHandle : rb_MV yX7_newHandle cX7_newHandle 3 (some .int) 1 := ⟨rb_at 989 (by decide +kernel) rfl, rb_at 988 (by decide +kernel) rfl, rb_at 28 (by decide +kernel) rfl, rb_at 116 (by decide +kernel) rfl, ⟨by decide +kernel, by decide +kernel, by decide +kernel⟩, Nat.le_of_ble_eq_true rfl⟩
theorem mv_X7_newPipe : rb_MV yX7_newPipe cX7_newPipe 3 (some .int) 1 := ⟨rb_at 969 (by decide +kernel) rfl, rb_at 968 (by decide +kernel) rfl, rb_at 23 (by decide +kernel) rfl, rb_at 116 (by decide +kernel) rfl, ⟨by decide +kernel, by decide +kernel, by decide +kernel⟩, Nat.le_of_ble_eq_true rfl⟩
theorem mv_X7_isEnd : rb_MV yX7_isEnd cX7_isEnd 2 (some .boolean) 1 := ⟨rb_at 1177 (by decide +kernel) rfl, rb_at 1176 (by decide +kernel) rfl, rb_at 67 (by decide +kernel) rfl, rb_at 116 (by decide +kernel) rfl, ⟨by decide +kernel, by decide +kernel, by decide +kernel⟩, Nat.le_of_ble_eq_true rfl⟩
theorem mv_X7_otherEnd : rb_MV yX7_otherEnd cX7_otherEnd 2 (some .int) 1 := ⟨rb_at 1101 (by decide +kernel) rfl, rb_at 1100 (by decide +kernel) rfl, rb_at 50 (by decide +kernel) rfl, rb_at 116 (by decide +kernel) rfl, ⟨by decide +kernel, by decide +kernel, by decide +kernel⟩, Nat.le_of_ble_eq_true rfl⟩
theorem mv_X7_pipe : rb_MV yX7_pipe cX7_pipe 5 (some .int) 1 := ⟨rb_at 954 (by decide +kernel) rfl, rb_at 952 (by decide +kernel) rfl, rb_at 953 (by decide +kernel) rfl, rb_at 116 (by decide +kernel) rfl, ⟨by decide +kernel, by decide +kernel, by decide +kernel⟩, Nat.le_of_ble_eq_true rfl⟩
theorem mv_X7_counter : rb_MV yX7_counter cX7_counter 3 (some .int) 2 := ⟨rb_at 997 (by decide +kernel) rfl, rb_at 995 (by decide +kernel) rfl, rb_at 996 (by decide +kernel) rfl, rb_at 116 (by decide +kernel) rfl, ⟨by decide +kernel, by decide +kernel, by decide +kernel⟩, Nat.le_of_ble_eq_true rfl⟩
theorem mv_X7_timer : rb_MV yX7_timer cX7_timer 1 (some .int) 0 := ⟨rb_at 1001 (by decide +kernel) rfl, rb_at 999 (by decide +kernel) rfl, rb_at 1000 (by decide +kernel) rfl, rb_at 116 (by decide +kernel) rfl, ⟨by decide +kernel, by decide +kernel, by decide +kernel⟩, Nat.le_of_ble_eq_true rfl⟩
theorem mv_X7_set : rb_MV yX7_set cX7_set 1 (some .int) 0 := ⟨rb_at 1005 (by decide +kernel) rfl, rb_at 1003 (by decide +kernel) rfl, rb_at 1004 (by decide +kernel) rfl, rb_at 116 (by decide +kernel) rfl, ⟨by decide +kernel, by decide +kernel, by decide +kernel⟩, Nat.le_of_ble_eq_true rfl⟩
theorem mv_X7_listener : rb_MV yX7_listener cX7_listener 3 (some .int) 2 := ⟨rb_at 1009 (by decide +kernel) rfl, rb_at 1007 (by decide +kernel) rfl, rb_at 1008 (by decide +kernel) rfl, rb_at 116 (by decide +kernel) rfl, ⟨by decide +kernel, by decide +kernel, by decide +kernel⟩, Nat.le_of_ble_eq_true rfl⟩
theorem mv_X7_twin : rb_MV yX7_twin cX7_twin 2 (some .int) 1 := ⟨rb_at 1013 (by decide +kernel) rfl, rb_at 1011 (by decide +kernel) rfl, rb_at 1012 (by decide +kernel) rfl, rb_at 116 (by decide +kernel) rfl, ⟨by decide +kernel, by decide +kernel, by decide +kernel⟩, Nat.le_of_ble_eq_true rfl⟩
theorem mv_X7_waitingAt : rb_MV yX7_waitingAt cX7_waitingAt 4 (some .int) 1 := ⟨rb_at 1033 (by decide +kernel) rfl, rb_at 1032 (by decide +kernel) rfl, rb_at 33 (by decide +kernel) rfl, rb_at 116 (by decide +kernel) rfl, ⟨by decide +kernel, by decide +kernel, by decide +kernel⟩, Nat.le_of_ble_eq_true rfl⟩
theorem mv_X7_longestWaiting : rb_MV yX7_longestWaiting cX7_longestWaiting 4 (some .int) 1 := ⟨rb_at 1141 (by decide +kernel) rfl, rb_at 1140 (by decide +kernel) rfl, rb_at 59 (by decide +kernel) rfl, rb_at 116 (by decide +kernel) rfl, ⟨by decide +kernel, by decide +kernel, by decide +kernel⟩, Nat.le_of_ble_eq_true rfl⟩
theorem mv_X7_goConnect : rb_MV yX7_goConnect cX7_goConnect 6 (some .int) 2 := ⟨rb_at 1025 (by decide +kernel) rfl, rb_at 1024 (by decide +kernel) rfl, rb_at 31 (by decide +kernel) rfl, rb_at 116 (by decide +kernel) rfl, ⟨by decide +kernel, by decide +kernel, by decide +kernel⟩, Nat.le_of_ble_eq_true rfl⟩
theorem mv_X7_goAccept : rb_MV yX7_goAccept cX7_goAccept 4 (some .int) 2 := ⟨rb_at 1137 (by decide +kernel) rfl, rb_at 1136 (by decide +kernel) rfl, rb_at 58 (by decide +kernel) rfl, rb_at 116 (by decide +kernel) rfl, ⟨by decide +kernel, by decide +kernel, by decide +kernel⟩, Nat.le_of_ble_eq_true rfl⟩
theorem mv_X7_connect : rb_MV yX7_connect cX7_connect 2 (some .int) 1 := ⟨rb_at 1021 (by decide +kernel) rfl, rb_at 1019 (by decide +kernel) rfl, rb_at 1020 (by decide +kernel) rfl, rb_at 116 (by decide +kernel) rfl, ⟨by decide +kernel, by decide +kernel, by decide +kernel⟩, Nat.le_of_ble_eq_true rfl⟩
theorem mv_X7_accept : rb_MV yX7_accept cX7_accept 2 (some .int) 1 := ⟨rb_at 1133 (by decide +kernel) rfl, rb_at 1131 (by decide +kernel) rfl, rb_at 1132 (by decide +kernel) rfl, rb_at 116 (by decide +kernel) rfl, ⟨by decide +kernel, by decide +kernel, by decide +kernel⟩, Nat.le_of_ble_eq_true rfl⟩
theorem mv_X7_readyPlain : rb_MV yX7_readyPlain cX7_readyPlain 3 (some .int) 1 := ⟨rb_at 1097 (by decide +kernel) rfl, rb_at 1096 (by decide +kernel) rfl, rb_at 49 (by decide +kernel) rfl, rb_at 116 (by decide +kernel) rfl, ⟨by decide +kernel, by decide +kernel, by decide +kernel⟩, Nat.le_of_ble_eq_true rfl⟩
theorem mv_X7_bitsOf : rb_MV yX7_bitsOf cX7_bitsOf 2 (some .int) 1 := ⟨rb_at 1065 (by decide +kernel) rfl, rb_at 1064 (by decide +kernel) rfl, rb_at 41 (by decide +kernel) rfl, rb_at 116 (by decide +kernel) rfl, ⟨by decide +kernel, by decide +kernel, by decide +kernel⟩, Nat.le_of_ble_eq_true rfl⟩
theorem mv_X7_isTrue : rb_MV yX7_isTrue cX7_isTrue 2 (some .boolean) 1 := ⟨rb_at 1109 (by decide +kernel) rfl, rb_at 1108 (by decide +kernel) rfl, rb_at 52 (by decide +kernel) rfl, rb_at 116 (by decide +kernel) rfl, ⟨by decide +kernel, by decide +kernel, by decide +kernel⟩, Nat.le_of_ble_eq_true rfl⟩
theorem mv_X7_showsOf : rb_MV yX7_showsOf cX7_showsOf 4 (some .int) 1 := ⟨rb_at 1105 (by decide +kernel) rfl, rb_at 1104 (by decide +kernel) rfl, rb_at 51 (by decide +kernel) rfl, rb_at 116 (by decide +kernel) rfl, ⟨by decide +kernel, by decide +kernel, by decide +kernel⟩, Nat.le_of_ble_eq_true rfl⟩
theorem mv_X7_layReady : rb_MV yX7_layReady cX7_layReady 3 none 0 := ⟨rb_at 1093 (by decide +kernel) rfl, rb_at 1092 (by decide +kernel) rfl, rb_at 48 (by decide +kernel) rfl, rb_at 116 (by decide +kernel) rfl, ⟨by decide +kernel, by decide +kernel, by decide +kernel⟩, Nat.le_of_ble_eq_true rfl⟩
theorem mv_X7_list : rb_MV yX7_list cX7_list 2 none 1 := ⟨rb_at 1069 (by decide +kernel) rfl, rb_at 1068 (by decide +kernel) rfl, rb_at 42 (by decide +kernel) rfl, rb_at 116 (by decide +kernel) rfl, ⟨by decide +kernel, by decide +kernel, by decide +kernel⟩, Nat.le_of_ble_eq_true rfl⟩
theorem mv_X7_listedBehind : rb_MV yX7_listedBehind cX7_listedBehind 5 (some .int) 2 := ⟨rb_at 1113 (by decide +kernel) rfl, rb_at 1112 (by decide +kernel) rfl, rb_at 53 (by decide +kernel) rfl, rb_at 116 (by decide +kernel) rfl, ⟨by decide +kernel, by decide +kernel, by decide +kernel⟩, Nat.le_of_ble_eq_true rfl⟩
theorem mv_X7_addedBehind : rb_MV yX7_addedBehind cX7_addedBehind 6 (some .int) 3 := ⟨rb_at 1053 (by decide +kernel) rfl, rb_at 1052 (by decide +kernel) rfl, rb_at 38 (by decide +kernel) rfl, rb_at 116 (by decide +kernel) rfl, ⟨by decide +kernel, by decide +kernel, by decide +kernel⟩, Nat.le_of_ble_eq_true rfl⟩
theorem mv_X7_wasAgain : rb_MV yX7_wasAgain cX7_wasAgain 3 (some .boolean) 1 := ⟨rb_at 1129 (by decide +kernel) rfl, rb_at 1128 (by decide +kernel) rfl, rb_at 57 (by decide +kernel) rfl, rb_at 116 (by decide +kernel) rfl, ⟨by decide +kernel, by decide +kernel, by decide +kernel⟩, Nat.le_of_ble_eq_true rfl⟩
theorem mv_X7_goCollect : rb_MV yX7_goCollect cX7_goCollect 7 (some .int) 3 := ⟨rb_at 1089 (by decide +kernel) rfl, rb_at 1088 (by decide +kernel) rfl, rb_at 47 (by decide +kernel) rfl, rb_at 116 (by decide +kernel) rfl, ⟨by decide +kernel, by decide +kernel, by decide +kernel⟩, Nat.le_of_ble_eq_true rfl⟩
theorem mv_X7_take : rb_MV yX7_take cX7_take 4 none 3 := ⟨rb_at 1117 (by decide +kernel) rfl, rb_at 1116 (by decide +kernel) rfl, rb_at 54 (by decide +kernel) rfl, rb_at 116 (by decide +kernel) rfl, ⟨by decide +kernel, by decide +kernel, by decide +kernel⟩, Nat.le_of_ble_eq_true rfl⟩
theorem mv_X7_sleeperBehind : rb_MV yX7_sleeperBehind cX7_sleeperBehind 5 (some .int) 2 := ⟨rb_at 1081 (by decide +kernel) rfl, rb_at 1080 (by decide +kernel) rfl, rb_at 45 (by decide +kernel) rfl, rb_at 116 (by decide +kernel) rfl, ⟨by decide +kernel, by decide +kernel, by decide +kernel⟩, Nat.le_of_ble_eq_true rfl⟩
theorem mv_X7_sleepNoMore : rb_MV yX7_sleepNoMore cX7_sleepNoMore 2 none 1 := ⟨rb_at 1121 (by decide +kernel) rfl, rb_at 1120 (by decide +kernel) rfl, rb_at 55 (by decide +kernel) rfl, rb_at 116 (by decide +kernel) rfl, ⟨by decide +kernel, by decide +kernel, by decide +kernel⟩, Nat.le_of_ble_eq_true rfl⟩
theorem mv_X7_isSomeLeft : rb_MV yX7_isSomeLeft cX7_isSomeLeft 3 (some .boolean) 1 := ⟨rb_at 1125 (by decide +kernel) rfl, rb_at 1124 (by decide +kernel) rfl, rb_at 56 (by decide +kernel) rfl, rb_at 116 (by decide +kernel) rfl, ⟨by decide +kernel, by decide +kernel, by decide +kernel⟩, Nat.le_of_ble_eq_true rfl⟩
theorem mv_X7_wake : rb_MV yX7_wake cX7_wake 6 (some .boolean) 1 := ⟨rb_at 1077 (by decide +kernel) rfl, rb_at 1076 (by decide +kernel) rfl, rb_at 44 (by decide +kernel) rfl, rb_at 116 (by decide +kernel) rfl, ⟨by decide +kernel, by decide +kernel, by decide +kernel⟩, Nat.le_of_ble_eq_true rfl⟩
theorem mv_X7_beginNotice : rb_MV yX7_beginNotice cX7_beginNotice 4 none 3 := ⟨rb_at 1045 (by decide +kernel) rfl, rb_at 1044 (by decide +kernel) rfl, rb_at 36 (by decide +kernel) rfl, rb_at 116 (by decide +kernel) rfl, ⟨by decide +kernel, by decide +kernel, by decide +kernel⟩, Nat.le_of_ble_eq_true rfl⟩
theorem mv_X7_notice : rb_MV yX7_notice cX7_notice 3 none 2 := ⟨rb_at 1041 (by decide +kernel) rfl, rb_at 1040 (by decide +kernel) rfl, rb_at 35 (by decide +kernel) rfl, rb_at 116 (by decide +kernel) rfl, ⟨by decide +kernel, by decide +kernel, by decide +kernel⟩, Nat.le_of_ble_eq_true rfl⟩
theorem mv_X7_goOnWith : rb_MV yX7_goOnWith cX7_goOnWith 7 none 1 := ⟨rb_at 1049 (by decide +kernel) rfl, rb_at 1048 (by decide +kernel) rfl, rb_at 37 (by decide +kernel) rfl, rb_at 116 (by decide +kernel) rfl, ⟨by decide +kernel, by decide +kernel, by decide +kernel⟩, Nat.le_of_ble_eq_true rfl⟩
theorem mv_X7_call : rb_MV yX7_call cX7_call 2 none 1 := ⟨rb_at 1261 (by decide +kernel) rfl, rb_at 1260 (by decide +kernel) rfl, rb_at 82 (by decide +kernel) rfl, rb_at 116 (by decide +kernel) rfl, ⟨by decide +kernel, by decide +kernel, by decide +kernel⟩, Nat.le_of_ble_eq_true rfl⟩
theorem mv_X7_dropInterest : rb_MV yX7_dropInterest cX7_dropInterest 2 none 1 := ⟨rb_at 1161 (by decide +kernel) rfl, rb_at 1160 (by decide +kernel) rfl, rb_at 63 (by decide +kernel) rfl, rb_at 116 (by decide +kernel) rfl, ⟨by decide +kernel, by decide +kernel, by decide +kernel⟩, Nat.le_of_ble_eq_true rfl⟩
theorem mv_X7_goClose : rb_MV yX7_goClose cX7_goClose 4 (some .boolean) 2 := ⟨rb_at 1149 (by decide +kernel) rfl, rb_at 1148 (by decide +kernel) rfl, rb_at 60 (by decide +kernel) rfl, rb_at 116 (by decide +kernel) rfl, ⟨by decide +kernel, by decide +kernel, by decide +kernel⟩, Nat.le_of_ble_eq_true rfl⟩
theorem mv_X7_gone : rb_MV yX7_gone cX7_gone 4 none 1 := ⟨rb_at 1157 (by decide +kernel) rfl, rb_at 1156 (by decide +kernel) rfl, rb_at 62 (by decide +kernel) rfl, rb_at 116 (by decide +kernel) rfl, ⟨by decide +kernel, by decide +kernel, by decide +kernel⟩, Nat.le_of_ble_eq_true rfl⟩
theorem mv_X7_gotNothing : rb_MV yX7_gotNothing cX7_gotNothing 2 none 1 := ⟨rb_at 1165 (by decide +kernel) rfl, rb_at 1164 (by decide +kernel) rfl, rb_at 64 (by decide +kernel) rfl, rb_at 116 (by decide +kernel) rfl, ⟨by decide +kernel, by decide +kernel, by decide +kernel⟩, Nat.le_of_ble_eq_true rfl⟩
theorem mv_X7_turnAway : rb_MV yX7_turnAway cX7_turnAway 3 none 1 := ⟨rb_at 1169 (by decide +kernel) rfl, rb_at 1168 (by decide +kernel) rfl, rb_at 65 (by decide +kernel) rfl, rb_at 116 (by decide +kernel) rfl, ⟨by decide +kernel, by decide +kernel, by decide +kernel⟩, Nat.le_of_ble_eq_true rfl⟩
theorem mv_X7_endGone : rb_MV yX7_endGone cX7_endGone 4 none 1 := ⟨rb_at 1173 (by decide +kernel) rfl, rb_at 1172 (by decide +kernel) rfl, rb_at 66 (by decide +kernel) rfl, rb_at 116 (by decide +kernel) rfl, ⟨by decide +kernel, by decide +kernel, by decide +kernel⟩, Nat.le_of_ble_eq_true rfl⟩
theorem mv_X7_close : rb_MV yX7_close cX7_close 2 (some .boolean) 1 := ⟨rb_at 1145 (by decide +kernel) rfl, rb_at 1143 (by decide +kernel) rfl, rb_at 1144 (by decide +kernel) rfl, rb_at 116 (by decide +kernel) rfl, ⟨by decide +kernel, by decide +kernel, by decide +kernel⟩, Nat.le_of_ble_eq_true rfl⟩
theorem mv_X7_goWrite : rb_MV yX7_goWrite cX7_goWrite 9 (some .int) 3 := ⟨rb_at 1185 (by decide +kernel) rfl, rb_at 1184 (by decide +kernel) rfl, rb_at 68 (by decide +kernel) rfl, rb_at 116 (by decide +kernel) rfl, ⟨by decide +kernel, by decide +kernel, by decide +kernel⟩, Nat.le_of_ble_eq_true rfl⟩
theorem mv_X7_goCount : rb_MV yX7_goCount cX7_goCount 4 (some .int) 3 := ⟨rb_at 1189 (by decide +kernel) rfl, rb_at 1188 (by decide +kernel) rfl, rb_at 69 (by decide +kernel) rfl, rb_at 116 (by decide +kernel) rfl, ⟨by decide +kernel, by decide +kernel, by decide +kernel⟩, Nat.le_of_ble_eq_true rfl⟩
theorem mv_X7_goRead : rb_MV yX7_goRead cX7_goRead 5 (some .int) 3 := ⟨rb_at 1197 (by decide +kernel) rfl, rb_at 1196 (by decide +kernel) rfl, rb_at 70 (by decide +kernel) rfl, rb_at 116 (by decide +kernel) rfl, ⟨by decide +kernel, by decide +kernel, by decide +kernel⟩, Nat.le_of_ble_eq_true rfl⟩
theorem mv_X7_readBytes : rb_MV yX7_readBytes cX7_readBytes 8 (some .int) 3 := ⟨rb_at 1201 (by decide +kernel) rfl, rb_at 1200 (by decide +kernel) rfl, rb_at 71 (by decide +kernel) rfl, rb_at 116 (by decide +kernel) rfl, ⟨by decide +kernel, by decide +kernel, by decide +kernel⟩, Nat.le_of_ble_eq_true rfl⟩
theorem mv_X7_readValue : rb_MV yX7_readValue cX7_readValue 6 (some .int) 3 := ⟨rb_at 1205 (by decide +kernel) rfl, rb_at 1204 (by decide +kernel) rfl, rb_at 72 (by decide +kernel) rfl, rb_at 116 (by decide +kernel) rfl, ⟨by decide +kernel, by decide +kernel, by decide +kernel⟩, Nat.le_of_ble_eq_true rfl⟩
theorem mv_X7_write : rb_MV yX7_write cX7_write 3 (some .int) 2 := ⟨rb_at 1181 (by decide +kernel) rfl, rb_at 1179 (by decide +kernel) rfl, rb_at 1180 (by decide +kernel) rfl, rb_at 116 (by decide +kernel) rfl, ⟨by decide +kernel, by decide +kernel, by decide +kernel⟩, Nat.le_of_ble_eq_true rfl⟩
theorem mv_X7_read : rb_MV yX7_read cX7_read 3 (some .int) 2 := ⟨rb_at 1193 (by decide +kernel) rfl, rb_at 1191 (by decide +kernel) rfl, rb_at 1192 (by decide +kernel) rfl, rb_at 116 (by decide +kernel) rfl, ⟨by decide +kernel, by decide +kernel, by decide +kernel⟩, Nat.le_of_ble_eq_true rfl⟩
theorem mv_X7_arm : rb_MV yX7_arm cX7_arm 5 (some .boolean) 3 := ⟨rb_at 1209 (by decide +kernel) rfl, rb_at 1207 (by decide +kernel) rfl, rb_at 1208 (by decide +kernel) rfl, rb_at 116 (by decide +kernel) rfl, ⟨by decide +kernel, by decide +kernel, by decide +kernel⟩, Nat.le_of_ble_eq_true rfl⟩
theorem mv_X7_fire : rb_MV yX7_fire cX7_fire 2 none 1 := ⟨rb_at 1222 (by decide +kernel) rfl, rb_at 1221 (by decide +kernel) rfl, rb_at 74 (by decide +kernel) rfl, rb_at 116 (by decide +kernel) rfl, ⟨by decide +kernel, by decide +kernel, by decide +kernel⟩, Nat.le_of_ble_eq_true rfl⟩
theorem mv_X7_tickOnce : rb_MV yX7_tickOnce cX7_tickOnce 2 none 0 := ⟨rb_at 1218 (by decide +kernel) rfl, rb_at 1217 (by decide +kernel) rfl, rb_at 73 (by decide +kernel) rfl, rb_at 116 (by decide +kernel) rfl, ⟨by decide +kernel, by decide +kernel, by decide +kernel⟩, Nat.le_of_ble_eq_true rfl⟩
theorem mv_X7_tick : rb_MV yX7_tick cX7_tick 3 (some .int) 1 := ⟨rb_at 1213 (by decide +kernel) rfl, rb_at 1211 (by decide +kernel) rfl, rb_at 1212 (by decide +kernel) rfl, rb_at 116 (by decide +kernel) rfl, ⟨by decide +kernel, by decide +kernel, by decide +kernel⟩, Nat.le_of_ble_eq_true rfl⟩
theorem mv_X7_interestsNow : rb_MV yX7_interestsNow cX7_interestsNow 3 (some .int) 0 := ⟨rb_at 1253 (by decide +kernel) rfl, rb_at 1252 (by decide +kernel) rfl, rb_at 80 (by decide +kernel) rfl, rb_at 116 (by decide +kernel) rfl, ⟨by decide +kernel, by decide +kernel, by decide +kernel⟩, Nat.le_of_ble_eq_true rfl⟩
theorem mv_X7_heldBy : rb_MV yX7_heldBy cX7_heldBy 4 (some .int) 1 := ⟨rb_at 1265 (by decide +kernel) rfl, rb_at 1264 (by decide +kernel) rfl, rb_at 83 (by decide +kernel) rfl, rb_at 116 (by decide +kernel) rfl, ⟨by decide +kernel, by decide +kernel, by decide +kernel⟩, Nat.le_of_ble_eq_true rfl⟩
theorem mv_X7_found : rb_MV yX7_found cX7_found 4 (some .int) 2 := ⟨rb_at 1237 (by decide +kernel) rfl, rb_at 1236 (by decide +kernel) rfl, rb_at 76 (by decide +kernel) rfl, rb_at 116 (by decide +kernel) rfl, ⟨by decide +kernel, by decide +kernel, by decide +kernel⟩, Nat.le_of_ble_eq_true rfl⟩
theorem mv_X7_layDepths : rb_MV yX7_layDepths cX7_layDepths 5 none 0 := ⟨rb_at 1245 (by decide +kernel) rfl, rb_at 1244 (by decide +kernel) rfl, rb_at 78 (by decide +kernel) rfl, rb_at 116 (by decide +kernel) rfl, ⟨by decide +kernel, by decide +kernel, by decide +kernel⟩, Nat.le_of_ble_eq_true rfl⟩
theorem mv_X7_standsIn : rb_MV yX7_standsIn cX7_standsIn 6 (some .boolean) 2 := ⟨rb_at 1249 (by decide +kernel) rfl, rb_at 1248 (by decide +kernel) rfl, rb_at 79 (by decide +kernel) rfl, rb_at 116 (by decide +kernel) rfl, ⟨by decide +kernel, by decide +kernel, by decide +kernel⟩, Nat.le_of_ble_eq_true rfl⟩
theorem mv_X7_isTooDeep : rb_MV yX7_isTooDeep cX7_isTooDeep 3 (some .boolean) 2 := ⟨rb_at 1241 (by decide +kernel) rfl, rb_at 1240 (by decide +kernel) rfl, rb_at 77 (by decide +kernel) rfl, rb_at 116 (by decide +kernel) rfl, ⟨by decide +kernel, by decide +kernel, by decide +kernel⟩, Nat.le_of_ble_eq_true rfl⟩
theorem ms_X7_isSuch : rb_MS yX7_isSuch cX7_isSuch 2 (some .boolean) 2 := ⟨rb_at 1233 (by decide +kernel) rfl, rb_at 1232 (by decide +kernel) rfl, rb_at 116 (by decide +kernel) rfl, ⟨by decide +kernel, by decide +kernel, by decide +kernel⟩, Nat.le_of_ble_eq_true rfl⟩
theorem mv_X7_add : rb_MV yX7_add cX7_add 6 (some .int) 4 := ⟨rb_at 1230 (by decide +kernel) rfl, rb_at 1228 (by decide +kernel) rfl, rb_at 1229 (by decide +kernel) rfl, rb_at 116 (by decide +kernel) rfl, ⟨by decide +kernel, by decide +kernel, by decide +kernel⟩, Nat.le_of_ble_eq_true rfl⟩
theorem mv_X7_tell : rb_MV yX7_tell cX7_tell 4 none 3 := ⟨rb_at 1257 (by decide +kernel) rfl, rb_at 1256 (by decide +kernel) rfl, rb_at 81 (by decide +kernel) rfl, rb_at 116 (by decide +kernel) rfl, ⟨by decide +kernel, by decide +kernel, by decide +kernel⟩, Nat.le_of_ble_eq_true rfl⟩
theorem mv_X7_change : rb_MV yX7_change cX7_change 6 (some .boolean) 4 := ⟨rb_at 1269 (by decide +kernel) rfl, rb_at 1267 (by decide +kernel) rfl, rb_at 1268 (by decide +kernel) rfl, rb_at 116 (by decide +kernel) rfl, ⟨by decide +kernel, by decide +kernel, by decide +kernel⟩, Nat.le_of_ble_eq_true rfl⟩
theorem mv_X7_changeAsIs : rb_MV yX7_changeAsIs cX7_changeAsIs 4 (some .boolean) 2 := ⟨rb_at 1389 (by decide +kernel) rfl, rb_at 1388 (by decide +kernel) rfl, rb_at 97 (by decide +kernel) rfl, rb_at 116 (by decide +kernel) rfl, ⟨by decide +kernel, by decide +kernel, by decide +kernel⟩, Nat.le_of_ble_eq_true rfl⟩
theorem mv_X7_drop : rb_MV yX7_drop cX7_drop 4 (some .boolean) 2 := ⟨rb_at 1273 (by decide +kernel) rfl, rb_at 1271 (by decide +kernel) rfl, rb_at 1272 (by decide +kernel) rfl, rb_at 116 (by decide +kernel) rfl, ⟨by decide +kernel, by decide +kernel, by decide +kernel⟩, Nat.le_of_ble_eq_true rfl⟩
theorem mv_X7_canCollect : rb_MV yX7_canCollect cX7_canCollect 4 (some .boolean) 3 := ⟨rb_at 1285 (by decide +kernel) rfl, rb_at 1284 (by decide +kernel) rfl, rb_at 85 (by decide +kernel) rfl, rb_at 116 (by decide +kernel) rfl, ⟨by decide +kernel, by decide +kernel, by decide +kernel⟩, Nat.le_of_ble_eq_true rfl⟩
theorem mv_X7_goCollectAt : rb_MV yX7_goCollectAt cX7_goCollectAt 5 (some .int) 4 := ⟨rb_at 1281 (by decide +kernel) rfl, rb_at 1280 (by decide +kernel) rfl, rb_at 84 (by decide +kernel) rfl, rb_at 116 (by decide +kernel) rfl, ⟨by decide +kernel, by decide +kernel, by decide +kernel⟩, Nat.le_of_ble_eq_true rfl⟩
theorem mv_X7_goAwait : rb_MV yX7_goAwait cX7_goAwait 7 (some .int) 5 := ⟨rb_at 1297 (by decide +kernel) rfl, rb_at 1296 (by decide +kernel) rfl, rb_at 87 (by decide +kernel) rfl, rb_at 116 (by decide +kernel) rfl, ⟨by decide +kernel, by decide +kernel, by decide +kernel⟩, Nat.le_of_ble_eq_true rfl⟩
theorem mv_X7_collect : rb_MV yX7_collect cX7_collect 4 (some .int) 3 := ⟨rb_at 1277 (by decide +kernel) rfl, rb_at 1275 (by decide +kernel) rfl, rb_at 1276 (by decide +kernel) rfl, rb_at 116 (by decide +kernel) rfl, ⟨by decide +kernel, by decide +kernel, by decide +kernel⟩, Nat.le_of_ble_eq_true rfl⟩
theorem mv_X7_await : rb_MV yX7_await cX7_await 5 (some .int) 4 := ⟨rb_at 1293 (by decide +kernel) rfl, rb_at 1291 (by decide +kernel) rfl, rb_at 1292 (by decide +kernel) rfl, rb_at 116 (by decide +kernel) rfl, ⟨by decide +kernel, by decide +kernel, by decide +kernel⟩, Nat.le_of_ble_eq_true rfl⟩
theorem mv_X7_handle : rb_MV yX7_handle cX7_handle 4 (some .int) 2 := ⟨rb_at 1301 (by decide +kernel) rfl, rb_at 1299 (by decide +kernel) rfl, rb_at 1300 (by decide +kernel) rfl, rb_at 116 (by decide +kernel) rfl, ⟨by decide +kernel, by decide +kernel, by decide +kernel⟩, Nat.le_of_ble_eq_true rfl⟩
theorem mv_X7_holdsOf : rb_MV yX7_holdsOf cX7_holdsOf 2 (some .int) 1 := ⟨rb_at 1305 (by decide +kernel) rfl, rb_at 1304 (by decide +kernel) rfl, rb_at 88 (by decide +kernel) rfl, rb_at 116 (by decide +kernel) rfl, ⟨by decide +kernel, by decide +kernel, by decide +kernel⟩, Nat.le_of_ble_eq_true rfl⟩
theorem mv_X7_interestsIn : rb_MV yX7_interestsIn cX7_interestsIn 4 (some .int) 1 := ⟨rb_at 1309 (by decide +kernel) rfl, rb_at 1308 (by decide +kernel) rfl, rb_at 89 (by decide +kernel) rfl, rb_at 116 (by decide +kernel) rfl, ⟨by decide +kernel, by decide +kernel, by decide +kernel⟩, Nat.le_of_ble_eq_true rfl⟩
theorem mv_X7_fifthOf : rb_MV yX7_fifthOf cX7_fifthOf 2 (some .int) 1 := ⟨rb_at 1313 (by decide +kernel) rfl, rb_at 1312 (by decide +kernel) rfl, rb_at 90 (by decide +kernel) rfl, rb_at 116 (by decide +kernel) rfl, ⟨by decide +kernel, by decide +kernel, by decide +kernel⟩, Nat.le_of_ble_eq_true rfl⟩
theorem mv_X7_sleepersAt : rb_MV yX7_sleepersAt cX7_sleepersAt 4 (some .int) 1 := ⟨rb_at 1317 (by decide +kernel) rfl, rb_at 1316 (by decide +kernel) rfl, rb_at 91 (by decide +kernel) rfl, rb_at 116 (by decide +kernel) rfl, ⟨by decide +kernel, by decide +kernel, by decide +kernel⟩, Nat.le_of_ble_eq_true rfl⟩
theorem mv_X7_other : rb_MV yX7_other cX7_other 2 (some .int) 1 := ⟨rb_at 1321 (by decide +kernel) rfl, rb_at 1319 (by decide +kernel) rfl, rb_at 1320 (by decide +kernel) rfl, rb_at 116 (by decide +kernel) rfl, ⟨by decide +kernel, by decide +kernel, by decide +kernel⟩, Nat.le_of_ble_eq_true rfl⟩
theorem mv_X7_interest : rb_MV yX7_interest cX7_interest 6 (some .int) 3 := ⟨rb_at 1325 (by decide +kernel) rfl, rb_at 1323 (by decide +kernel) rfl, rb_at 1324 (by decide +kernel) rfl, rb_at 116 (by decide +kernel) rfl, ⟨by decide +kernel, by decide +kernel, by decide +kernel⟩, Nat.le_of_ble_eq_true rfl⟩
theorem mv_X7_placeOf : rb_MV yX7_placeOf cX7_placeOf 4 (some .int) 1 := ⟨rb_at 1329 (by decide +kernel) rfl, rb_at 1328 (by decide +kernel) rfl, rb_at 92 (by decide +kernel) rfl, rb_at 116 (by decide +kernel) rfl, ⟨by decide +kernel, by decide +kernel, by decide +kernel⟩, Nat.le_of_ble_eq_true rfl⟩
theorem mv_X7_listed : rb_MV yX7_listed cX7_listed 4 (some .int) 1 := ⟨rb_at 1333 (by decide +kernel) rfl, rb_at 1331 (by decide +kernel) rfl, rb_at 1332 (by decide +kernel) rfl, rb_at 116 (by decide +kernel) rfl, ⟨by decide +kernel, by decide +kernel, by decide +kernel⟩, Nat.le_of_ble_eq_true rfl⟩
theorem mv_X7_shows : rb_MV yX7_shows cX7_shows 2 (some .int) 1 := ⟨rb_at 1337 (by decide +kernel) rfl, rb_at 1335 (by decide +kernel) rfl, rb_at 1336 (by decide +kernel) rfl, rb_at 116 (by decide +kernel) rfl, ⟨by decide +kernel, by decide +kernel, by decide +kernel⟩, Nat.le_of_ble_eq_true rfl⟩
theorem mv_X7_shown : rb_MV yX7_shown cX7_shown 5 (some .int) 2 := ⟨rb_at 1341 (by decide +kernel) rfl, rb_at 1339 (by decide +kernel) rfl, rb_at 1340 (by decide +kernel) rfl, rb_at 116 (by decide +kernel) rfl, ⟨by decide +kernel, by decide +kernel, by decide +kernel⟩, Nat.le_of_ble_eq_true rfl⟩
theorem mv_X7_depth : rb_MV yX7_depth cX7_depth 2 (some .int) 1 := ⟨rb_at 1345 (by decide +kernel) rfl, rb_at 1343 (by decide +kernel) rfl, rb_at 1344 (by decide +kernel) rfl, rb_at 116 (by decide +kernel) rfl, ⟨by decide +kernel, by decide +kernel, by decide +kernel⟩, Nat.le_of_ble_eq_true rfl⟩
theorem mv_X7_sleeper : rb_MV yX7_sleeper cX7_sleeper 5 (some .int) 2 := ⟨rb_at 1349 (by decide +kernel) rfl, rb_at 1347 (by decide +kernel) rfl, rb_at 1348 (by decide +kernel) rfl, rb_at 116 (by decide +kernel) rfl, ⟨by decide +kernel, by decide +kernel, by decide +kernel⟩, Nat.le_of_ble_eq_true rfl⟩
theorem mv_X7_task : rb_MV yX7_task cX7_task 3 (some .int) 2 := ⟨rb_at 1353 (by decide +kernel) rfl, rb_at 1351 (by decide +kernel) rfl, rb_at 1352 (by decide +kernel) rfl, rb_at 116 (by decide +kernel) rfl, ⟨by decide +kernel, by decide +kernel, by decide +kernel⟩, Nat.le_of_ble_eq_true rfl⟩
theorem mv_X7_got : rb_MV yX7_got cX7_got 4 (some .int) 3 := ⟨rb_at 1357 (by decide +kernel) rfl, rb_at 1355 (by decide +kernel) rfl, rb_at 1356 (by decide +kernel) rfl, rb_at 116 (by decide +kernel) rfl, ⟨by decide +kernel, by decide +kernel, by decide +kernel⟩, Nat.le_of_ble_eq_true rfl⟩
theorem mv_X7_plan : rb_MV yX7_plan cX7_plan 5 (some .int) 4 := ⟨rb_at 1361 (by decide +kernel) rfl, rb_at 1359 (by decide +kernel) rfl, rb_at 1360 (by decide +kernel) rfl, rb_at 116 (by decide +kernel) rfl, ⟨by decide +kernel, by decide +kernel, by decide +kernel⟩, Nat.le_of_ble_eq_true rfl⟩
theorem mv_X7_putStep : rb_MV yX7_putStep cX7_putStep 6 none 4 := ⟨rb_at 1365 (by decide +kernel) rfl, rb_at 1364 (by decide +kernel) rfl, rb_at 93 (by decide +kernel) rfl, rb_at 116 (by decide +kernel) rfl, ⟨by decide +kernel, by decide +kernel, by decide +kernel⟩, Nat.le_of_ble_eq_true rfl⟩
theorem mv_X7_round : rb_MV yX7_round cX7_round 3 (some .boolean) 2 := ⟨rb_at 1369 (by decide +kernel) rfl, rb_at 1367 (by decide +kernel) rfl, rb_at 1368 (by decide +kernel) rfl, rb_at 116 (by decide +kernel) rfl, ⟨by decide +kernel, by decide +kernel, by decide +kernel⟩, Nat.le_of_ble_eq_true rfl⟩
theorem mv_X7_goRoundOnce : rb_MV yX7_goRoundOnce cX7_goRoundOnce 3 (some .int) 0 := ⟨rb_at 1377 (by decide +kernel) rfl, rb_at 1376 (by decide +kernel) rfl, rb_at 94 (by decide +kernel) rfl, rb_at 116 (by decide +kernel) rfl, ⟨by decide +kernel, by decide +kernel, by decide +kernel⟩, Nat.le_of_ble_eq_true rfl⟩
theorem mv_X7_rounds : rb_MV yX7_rounds cX7_rounds 4 (some .int) 1 := ⟨rb_at 1373 (by decide +kernel) rfl, rb_at 1371 (by decide +kernel) rfl, rb_at 1372 (by decide +kernel) rfl, rb_at 116 (by decide +kernel) rfl, ⟨by decide +kernel, by decide +kernel, by decide +kernel⟩, Nat.le_of_ble_eq_true rfl⟩
theorem mv_X7_forget : rb_MV yX7_forget cX7_forget 3 (some .int) 1 := ⟨rb_at 1393 (by decide +kernel) rfl, rb_at 1391 (by decide +kernel) rfl, rb_at 1392 (by decide +kernel) rfl, rb_at 116 (by decide +kernel) rfl, ⟨by decide +kernel, by decide +kernel, by decide +kernel⟩, Nat.le_of_ble_eq_true rfl⟩
theorem mv_X7_canStep : rb_MV yX7_canStep cX7_canStep 2 (some .boolean) 1 := ⟨rb_at 1381 (by decide +kernel) rfl, rb_at 1380 (by decide +kernel) rfl, rb_at 95 (by decide +kernel) rfl, rb_at 116 (by decide +kernel) rfl, ⟨by decide +kernel, by decide +kernel, by decide +kernel⟩, Nat.le_of_ble_eq_true rfl⟩
theorem mv_X7_goStep : rb_MV yX7_goStep cX7_goStep 7 (some .int) 1 := ⟨rb_at 1385 (by decide +kernel) rfl, rb_at 1384 (by decide +kernel) rfl, rb_at 96 (by decide +kernel) rfl, rb_at 116 (by decide +kernel) rfl, ⟨by decide +kernel, by decide +kernel, by decide +kernel⟩, Nat.le_of_ble_eq_true rfl⟩
theorem mv_X7_step : rb_MV yX7_step cX7_step 2 (some .int) 1 := ⟨rb_at 1397 (by decide +kernel) rfl, rb_at 1395 (by decide +kernel) rfl, rb_at 1396 (by decide +kernel) rfl, rb_at 116 (by decide +kernel) rfl, ⟨by decide +kernel, by decide +kernel, by decide +kernel⟩, Nat.le_of_ble_eq_true rfl⟩
theorem mv_X7_putAside : rb_MV yX7_putAside cX7_putAside 2 none 0 := ⟨rb_at 1405 (by decide +kernel) rfl, rb_at 1404 (by decide +kernel) rfl, rb_at 98 (by decide +kernel) rfl, rb_at 116 (by decide +kernel) rfl, ⟨by decide +kernel, by decide +kernel, by decide +kernel⟩, Nat.le_of_ble_eq_true rfl⟩
theorem mv_X7_bringBack : rb_MV yX7_bringBack cX7_bringBack 2 none 0 := ⟨rb_at 1409 (by decide +kernel) rfl, rb_at 1408 (by decide +kernel) rfl, rb_at 99 (by decide +kernel) rfl, rb_at 116 (by decide +kernel) rfl, ⟨by decide +kernel, by decide +kernel, by decide +kernel⟩, Nat.le_of_ble_eq_true rfl⟩
theorem mv_X7_wakes : rb_MV yX7_wakes cX7_wakes 5 (some .int) 1 := ⟨rb_at 1401 (by decide +kernel) rfl, rb_at 1399 (by decide +kernel) rfl, rb_at 1400 (by decide +kernel) rfl, rb_at 116 (by decide +kernel) rfl, ⟨by decide +kernel, by decide +kernel, by decide +kernel⟩, Nat.le_of_ble_eq_true rfl⟩
theorem mv_X7_stuck : rb_MV yX7_stuck cX7_stuck 3 (some .int) 0 := ⟨rb_at 1413 (by decide +kernel) rfl, rb_at 1411 (by decide +kernel) rfl, rb_at 1412 (by decide +kernel) rfl, rb_at 116 (by decide +kernel) rfl, ⟨by decide +kernel, by decide +kernel, by decide +kernel⟩, Nat.le_of_ble_eq_true rfl⟩
theorem mv_X7_wasWoken : rb_MV yX7_wasWoken cX7_wasWoken 3 (some .boolean) 1 := ⟨rb_at 1426 (by decide +kernel) rfl, rb_at 1425 (by decide +kernel) rfl, rb_at 101 (by decide +kernel) rfl, rb_at 116 (by decide +kernel) rfl, ⟨by decide +kernel, by decide +kernel, by decide +kernel⟩, Nat.le_of_ble_eq_true rfl⟩
theorem mv_X7_soon : rb_MV yX7_soon cX7_soon 6 (some .int) 1 := ⟨rb_at 1421 (by decide +kernel) rfl, rb_at 1419 (by decide +kernel) rfl, rb_at 1420 (by decide +kernel) rfl, rb_at 116 (by decide +kernel) rfl, ⟨by decide +kernel, by decide +kernel, by decide +kernel⟩, Nat.le_of_ble_eq_true rfl⟩
theorem mv_X7_calls : rb_MV yX7_calls cX7_calls 3 (some .int) 2 := ⟨rb_at 1430 (by decide +kernel) rfl, rb_at 1428 (by decide +kernel) rfl, rb_at 1429 (by decide +kernel) rfl, rb_at 116 (by decide +kernel) rfl, ⟨by decide +kernel, by decide +kernel, by decide +kernel⟩, Nat.le_of_ble_eq_true rfl⟩
theorem mv_X7_tryOrder : rb_MV yX7_tryOrder cX7_tryOrder 8 (some .boolean) 3 := ⟨rb_at 1438 (by decide +kernel) rfl, rb_at 1437 (by decide +kernel) rfl, rb_at 102 (by decide +kernel) rfl, rb_at 116 (by decide +kernel) rfl, ⟨by decide +kernel, by decide +kernel, by decide +kernel⟩, Nat.le_of_ble_eq_true rfl⟩
theorem mv_X7_tallyNow : rb_MV yX7_tallyNow cX7_tallyNow 5 none 2 := ⟨rb_at 1442 (by decide +kernel) rfl, rb_at 1441 (by decide +kernel) rfl, rb_at 103 (by decide +kernel) rfl, rb_at 116 (by decide +kernel) rfl, ⟨by decide +kernel, by decide +kernel, by decide +kernel⟩, Nat.le_of_ble_eq_true rfl⟩
theorem mv_X7_orders : rb_MV yX7_orders cX7_orders 5 (some .int) 3 := ⟨rb_at 1434 (by decide +kernel) rfl, rb_at 1432 (by decide +kernel) rfl, rb_at 1433 (by decide +kernel) rfl, rb_at 116 (by decide +kernel) rfl, ⟨by decide +kernel, by decide +kernel, by decide +kernel⟩, Nat.le_of_ble_eq_true rfl⟩
theorem mv_X7_keepAct : rb_MV yX7_keepAct cX7_keepAct 2 none 0 := ⟨rb_at 965 (by decide +kernel) rfl, rb_at 964 (by decide +kernel) rfl, rb_at 22 (by decide +kernel) rfl, rb_at 116 (by decide +kernel) rfl, ⟨by decide +kernel, by decide +kernel, by decide +kernel⟩, Nat.le_of_ble_eq_true rfl⟩
theorem mv_X7_swapAll : rb_MV yX7_swapAll cX7_swapAll 3 none 0 := ⟨rb_at 1450 (by decide +kernel) rfl, rb_at 1449 (by decide +kernel) rfl, rb_at 104 (by decide +kernel) rfl, rb_at 116 (by decide +kernel) rfl, ⟨by decide +kernel, by decide +kernel, by decide +kernel⟩, Nat.le_of_ble_eq_true rfl⟩
theorem mv_X7_undo : rb_MV yX7_undo cX7_undo 1 (some .boolean) 0 := ⟨rb_at 1446 (by decide +kernel) rfl, rb_at 1444 (by decide +kernel) rfl, rb_at 1445 (by decide +kernel) rfl, rb_at 116 (by decide +kernel) rfl, ⟨by decide +kernel, by decide +kernel, by decide +kernel⟩, Nat.le_of_ble_eq_true rfl⟩
theorem mv_X7_redo : rb_MV yX7_redo cX7_redo 1 (some .boolean) 0 := ⟨rb_at 1454 (by decide +kernel) rfl, rb_at 1452 (by decide +kernel) rfl, rb_at 1453 (by decide +kernel) rfl, rb_at 116 (by decide +kernel) rfl, ⟨by decide +kernel, by decide +kernel, by decide +kernel⟩, Nat.le_of_ble_eq_true rfl⟩
theorem mv_X7_image : rb_MV yX7_image cX7_image 3 (some .int) 1 := ⟨rb_at 1458 (by decide +kernel) rfl, rb_at 1456 (by decide +kernel) rfl, rb_at 1457 (by decide +kernel) rfl, rb_at 116 (by decide +kernel) rfl, ⟨by decide +kernel, by decide +kernel, by decide +kernel⟩, Nat.le_of_ble_eq_true rfl⟩
theorem mv_X7_back : rb_MV yX7_back cX7_back 3 (some .int) 1 := ⟨rb_at 1466 (by decide +kernel) rfl, rb_at 1464 (by decide +kernel) rfl, rb_at 1465 (by decide +kernel) rfl, rb_at 116 (by decide +kernel) rfl, ⟨by decide +kernel, by decide +kernel, by decide +kernel⟩, Nat.le_of_ble_eq_true rfl⟩
theorem mv_X7_handlesNow : rb_MV yX7_handlesNow cX7_handlesNow 3 (some .int) 0 := ⟨rb_at 1474 (by decide +kernel) rfl, rb_at 1473 (by decide +kernel) rfl, rb_at 106 (by decide +kernel) rfl, rb_at 116 (by decide +kernel) rfl, ⟨by decide +kernel, by decide +kernel, by decide +kernel⟩, Nat.le_of_ble_eq_true rfl⟩
theorem mv_X7_asleepNow : rb_MV yX7_asleepNow cX7_asleepNow 3 (some .int) 0 := ⟨rb_at 1417 (by decide +kernel) rfl, rb_at 1416 (by decide +kernel) rfl, rb_at 100 (by decide +kernel) rfl, rb_at 116 (by decide +kernel) rfl, ⟨by decide +kernel, by decide +kernel, by decide +kernel⟩, Nat.le_of_ble_eq_true rfl⟩
theorem mv_X7_objectsNow : rb_MV yX7_objectsNow cX7_objectsNow 3 (some .int) 0 := ⟨rb_at 1462 (by decide +kernel) rfl, rb_at 1461 (by decide +kernel) rfl, rb_at 105 (by decide +kernel) rfl, rb_at 116 (by decide +kernel) rfl, ⟨by decide +kernel, by decide +kernel, by decide +kernel⟩, Nat.le_of_ble_eq_true rfl⟩
theorem mv_X7_about : rb_MV yX7_about cX7_about 2 (some .int) 1 := ⟨rb_at 1470 (by decide +kernel) rfl, rb_at 1468 (by decide +kernel) rfl, rb_at 1469 (by decide +kernel) rfl, rb_at 116 (by decide +kernel) rfl, ⟨by decide +kernel, by decide +kernel, by decide +kernel⟩, Nat.le_of_ble_eq_true rfl⟩
theorem lk_RX6_45 : rb_LV RX6 45 yX2_restart := Or.inl (rb_at 249 (by decide +kernel) rfl)
theorem lk_RX6_55 : rb_LV RX6 55 yX6_fillWithNone := Or.inl (rb_at 129 (by decide +kernel) rfl)
theorem lk_RX6_59 : rb_LV RX6 59 yX2_keep := Or.inl (rb_at 321 (by decide +kernel) rfl)
theorem lk_RX6_62 : rb_LV RX6 62 yX0_become := Or.inl (rb_at 719 (by decide +kernel) rfl)
theorem lk_RX6_69 : rb_LV RX6 69 yX5_thingOfKind := Or.inl (rb_at 642 (by decide +kernel) rfl)
theorem lk_RX6_75 : rb_LV RX6 75 yX0_makePipe := Or.inl (rb_at 282 (by decide +kernel) rfl)
theorem lk_RX6_79 : rb_LV RX6 79 yX6_keptFrom := Or.inl (rb_at 317 (by decide +kernel) rfl)
theorem lk_RX6_82 : rb_LV RX6 82 yX6_between := Or.inl (rb_at 332 (by decide +kernel) rfl)
theorem lk_RX6_86 : rb_LV RX6 86 yX0_makeNamed := Or.inl (rb_at 333 (by decide +kernel) rfl)
theorem lk_RX6_89 : rb_LV RX6 89 yX5_thingOf := Or.inl (rb_at 338 (by decide +kernel) rfl)
theorem lk_RX6_92 : rb_LV RX6 92 yX0_connectTo := Or.inl (rb_at 358 (by decide +kernel) rfl)
theorem lk_RX6_95 : rb_LV RX6 95 yX0_acceptFrom := Or.inl (rb_at 429 (by decide +kernel) rfl)
theorem lk_RX6_98 : rb_LV RX6 98 yX5_freeHandle := Or.inl (rb_at 441 (by decide +kernel) rfl)
theorem lk_RX6_102 : rb_LV RX6 102 yX5_giveName := Or.inl (rb_at 442 (by decide +kernel) rfl)
theorem lk_RX6_106 : rb_LV RX6 106 yX0_closeHandle := Or.inl (rb_at 447 (by decide +kernel) rfl)
theorem lk_RX6_110 : rb_LV RX6 110 yX6_keptIf := Or.inl (rb_at 478 (by decide +kernel) rfl)
theorem lk_RX6_114 : rb_LV RX6 114 yX0_writeTo := Or.inl (rb_at 486 (by decide +kernel) rfl)
theorem lk_RX6_117 : rb_LV RX6 117 yX0_readFrom := Or.inl (rb_at 499 (by decide +kernel) rfl)
theorem lk_RX6_120 : rb_LV RX6 120 yX0_armTimer := Or.inl (rb_at 507 (by decide +kernel) rfl)
theorem lk_RX6_124 : rb_LV RX6 124 yX0_passTime := Or.inl (rb_at 516 (by decide +kernel) rfl)
theorem lk_RX6_127 : rb_LV RX6 127 yX0_addInterest := Or.inl (rb_at 528 (by decide +kernel) rfl)
theorem lk_RX6_131 : rb_LV RX6 131 yX0_findInterest := Or.inl (rb_at 573 (by decide +kernel) rfl)
theorem lk_RX6_134 : rb_LV RX6 134 yX0_armInterest := Or.inl (rb_at 577 (by decide +kernel) rfl)
theorem lk_RX6_141 : rb_LV RX6 141 yX1_remove := Or.inl (rb_at 582 (by decide +kernel) rfl)
theorem lk_RX6_147 : rb_LV RX6 147 yX0_collectAt := Or.inl (rb_at 587 (by decide +kernel) rfl)
theorem lk_RX6_151 : rb_LV RX6 151 yX0_awaitAt := Or.inl (rb_at 602 (by decide +kernel) rfl)
theorem lk_RX6_154 : rb_LV RX6 154 yX1_heldBy := Or.inl (rb_at 614 (by decide +kernel) rfl)
theorem lk_RX6_157 : rb_LV RX6 157 yX1_ready := Or.inr ⟨"ReadyBell", by decide +kernel⟩
theorem lk_RX6_160 : rb_LV RX6 160 yX5_handlesOf := Or.inl (rb_at 616 (by decide +kernel) rfl)
theorem lk_RX6_163 : rb_LV RX6 163 yX1_aimedAt := Or.inl (rb_at 617 (by decide +kernel) rfl)
theorem lk_RX6_166 : rb_LV RX6 166 yX6_measureOf := Or.inl (rb_at 621 (by decide +kernel) rfl)
theorem lk_RX6_173 : rb_LV RX6 173 yX4_sleepersAt := Or.inl (rb_at 625 (by decide +kernel) rfl)
theorem lk_RX6_178 : rb_LV RX6 178 yX5_lowestHandle := Or.inl (rb_at 633 (by decide +kernel) rfl)
theorem lk_RX6_181 : rb_LV RX6 181 yX6_setOf := Or.inl (rb_at 638 (by decide +kernel) rfl)
theorem lk_RX6_184 : rb_LV RX6 184 yX1_ofSet := Or.inl (rb_at 643 (by decide +kernel) rfl)
theorem lk_RX6_187 : rb_LV RX6 187 yX1_placeOf := Or.inl (rb_at 647 (by decide +kernel) rfl)
theorem lk_RX6_190 : rb_LV RX6 190 yX1_tells := Or.inl (rb_at 656 (by decide +kernel) rfl)
theorem lk_RX6_193 : rb_LV RX6 193 yX1_listedBy := Or.inl (rb_at 661 (by decide +kernel) rfl)
theorem lk_RX6_196 : rb_LV RX6 196 yX1_shownBy := Or.inl (rb_at 669 (by decide +kernel) rfl)
theorem lk_RX6_199 : rb_LV RX6 199 yX1_showing := Or.inl (rb_at 681 (by decide +kernel) rfl)
theorem lk_RX6_202 : rb_LV RX6 202 yX1_deepBelow := Or.inr ⟨"ReadyBell", by decide +kernel⟩
theorem lk_RX6_205 : rb_LV RX6 205 yX4_sleeping := Or.inl (rb_at 694 (by decide +kernel) rfl)
theorem lk_RX6_208 : rb_LV RX6 208 yX6_isTask := Or.inl (rb_at 706 (by decide +kernel) rfl)
theorem lk_RX6_211 : rb_LV RX6 211 yX6_rehearse := Or.inl (rb_at 715 (by decide +kernel) rfl)
theorem lk_RX6_217 : rb_LV RX6 217 yX4_putStep := Or.inl (rb_at 728 (by decide +kernel) rfl)
theorem lk_RX6_220 : rb_LV RX6 220 yX0_goOneRound := Or.inl (rb_at 740 (by decide +kernel) rfl)
theorem lk_RX6_223 : rb_LV RX6 223 yX0_time := Or.inl (rb_at 772 (by decide +kernel) rfl)
theorem lk_RX6_226 : rb_LV RX6 226 yX4_asleep := Or.inl (rb_at 776 (by decide +kernel) rfl)
theorem lk_RX6_229 : rb_LV RX6 229 yX0_hasWokenAt := Or.inl (rb_at 784 (by decide +kernel) rfl)
theorem lk_RX6_232 : rb_LV RX6 232 yX0_sendNotice := Or.inr ⟨"ReadyBell", by decide +kernel⟩
theorem lk_RX6_236 : rb_LV RX6 236 yX0_calledHandles := Or.inl (rb_at 793 (by decide +kernel) rfl)
theorem lk_RX6_239 : Cond.methodLink RX6 239 arraycopyName ∈ rb_tbl := rb_at 801 (by decide +kernel) rfl
theorem lk_RX6_245 : rb_LV RX6 245 yX5_living := Or.inl (rb_at 802 (by decide +kernel) rfl)
theorem lk_RX6_248 : rb_LV RX6 248 yX0_doStep := Or.inl (rb_at 818 (by decide +kernel) rfl)
theorem lk_RX6_251 : rb_LV RX6 251 yX3_begin := Or.inl (rb_at 823 (by decide +kernel) rfl)
theorem lk_RX6_254 : rb_LV RX6 254 yX3_explore := Or.inr ⟨"ReadyBell", by decide +kernel⟩
theorem lk_RX6_257 : rb_LV RX6 257 yX3_tallyOf := Or.inl (rb_at 846 (by decide +kernel) rfl)
theorem lk_RX6_260 : rb_LV RX6 260 yX2_goBack := Or.inl (rb_at 854 (by decide +kernel) rfl)
theorem lk_RX6_264 : rb_LV RX6 264 yX2_goForth := Or.inl (rb_at 862 (by decide +kernel) rfl)
theorem lk_RX6_267 : rb_LV RX6 267 yX5_handleBits := Or.inl (rb_at 870 (by decide +kernel) rfl)
theorem lk_RX0_41 : Cond.methodLink RX0 41 arraycopyName ∈ rb_tbl := rb_at 723 (by decide +kernel) rfl
theorem lk_RX0_57 : rb_LV RX0 57 yX5_lowestHandle := Or.inl (rb_at 452 (by decide +kernel) rfl)
theorem lk_RX0_61 : rb_LV RX0 61 yX5_freeHandle := Or.inl (rb_at 305 (by decide +kernel) rfl)
theorem lk_RX0_65 : rb_LV RX0 65 yX5_makeThing := Or.inl (rb_at 337 (by decide +kernel) rfl)
theorem lk_RX0_68 : rb_LV RX0 68 yX5_giveName := Or.inl (rb_at 313 (by decide +kernel) rfl)
theorem lk_RX0_72 : rb_LV RX0 72 yX6_between := Or.inr ⟨"ReadyBell", by decide +kernel⟩
theorem lk_RX0_76 : rb_LV RX0 76 yX5_freeHandles := Or.inl (rb_at 289 (by decide +kernel) rfl)
theorem lk_RX0_79 : rb_LV RX0 79 yX5_makeEnds := Or.inl (rb_at 297 (by decide +kernel) rfl)
theorem lk_RX0_82 : rb_LV RX0 82 yX5_thingOfKind := Or.inl (rb_at 362 (by decide +kernel) rfl)
theorem lk_RX0_86 : rb_LV RX0 86 yX5_waitingInAll := Or.inl (rb_at 367 (by decide +kernel) rfl)
theorem lk_RX0_89 : rb_LV RX0 89 yX0_sendNotice := Or.inl (rb_at 371 (by decide +kernel) rfl)
theorem lk_RX0_93 : rb_LV RX0 93 yX5_longestWaiting := Or.inl (rb_at 433 (by decide +kernel) rfl)
theorem lk_RX0_96 : rb_LV RX0 96 yX5_thingOf := Or.inl (rb_at 451 (by decide +kernel) rfl)
theorem lk_RX0_99 : rb_LV RX0 99 yX1_removeAllOf := Or.inl (rb_at 456 (by decide +kernel) rfl)
theorem lk_RX0_103 : rb_LV RX0 103 yX4_dismissFrom := Or.inl (rb_at 465 (by decide +kernel) rfl)
theorem lk_RX0_106 : rb_LV RX0 106 yX5_remove := Or.inl (rb_at 474 (by decide +kernel) rfl)
theorem lk_RX0_109 : Cond.methodLink RX0 109 Lib.Math.min.name ∈ rb_tbl := rb_at 490 (by decide +kernel) rfl
theorem lk_RX0_114 : rb_LV RX0 114 yX5_setHeld := Or.inl (rb_at 491 (by decide +kernel) rfl)
theorem lk_RX0_117 : rb_LV RX0 117 yX4_dismissLate := Or.inl (rb_at 520 (by decide +kernel) rfl)
theorem lk_RX0_120 : rb_LV RX0 120 yX1_find := Or.inl (rb_at 532 (by decide +kernel) rfl)
theorem lk_RX0_124 : rb_LV RX0 124 yX1_deepAbove := Or.inr ⟨"ReadyBell", by decide +kernel⟩
theorem lk_RX0_127 : rb_LV RX0 127 yX1_deepBelow := Or.inr ⟨"ReadyBell", by decide +kernel⟩
theorem lk_RX0_130 : rb_LV RX0 130 yX1_append := Or.inl (rb_at 549 (by decide +kernel) rfl)
theorem lk_RX0_134 : rb_LV RX0 134 yX0_armInterest := Or.inl (rb_at 553 (by decide +kernel) rfl)
theorem lk_RX0_138 : rb_LV RX0 138 yX1_heldBy := Or.inl (rb_at 561 (by decide +kernel) rfl)
theorem lk_RX0_141 : rb_LV RX0 141 yX1_tells := Or.inl (rb_at 557 (by decide +kernel) rfl)
theorem lk_RX0_144 : rb_LV RX0 144 yX1_putOnList := Or.inl (rb_at 383 (by decide +kernel) rfl)
theorem lk_RX0_147 : rb_LV RX0 147 yX0_callSleepers := Or.inl (rb_at 387 (by decide +kernel) rfl)
theorem lk_RX0_150 : rb_LV RX0 150 yX1_heeds := Or.inl (rb_at 375 (by decide +kernel) rfl)
theorem lk_RX0_154 : rb_LV RX0 154 yX4_firstSleeper := Or.inl (rb_at 391 (by decide +kernel) rfl)
theorem lk_RX0_157 : rb_LV RX0 157 yX0_gather := Or.inl (rb_at 395 (by decide +kernel) rfl)
theorem lk_RX0_160 : rb_LV RX0 160 yX4_getUp := Or.inl (rb_at 417 (by decide +kernel) rfl)
theorem lk_RX0_163 : rb_LV RX0 163 yX1_showsOlder := Or.inl (rb_at 421 (by decide +kernel) rfl)
theorem lk_RX0_166 : rb_LV RX0 166 yX1_firstListed := Or.inl (rb_at 399 (by decide +kernel) rfl)
theorem lk_RX0_169 : rb_LV RX0 169 yX1_takeOffList := Or.inl (rb_at 403 (by decide +kernel) rfl)
theorem lk_RX0_172 : rb_LV RX0 172 yX1_bitsOf := Or.inl (rb_at 407 (by decide +kernel) rfl)
theorem lk_RX0_175 : rb_LV RX0 175 yX1_ready := Or.inr ⟨"ReadyBell", by decide +kernel⟩
theorem lk_RX0_178 : rb_LV RX0 178 yX1_countLeft := Or.inl (rb_at 413 (by decide +kernel) rfl)
theorem lk_RX0_181 : rb_LV RX0 181 yX6_isTask := Or.inr ⟨"ReadyBell", by decide +kernel⟩
theorem lk_RX0_184 : rb_LV RX0 184 yX0_canGather := Or.inl (rb_at 591 (by decide +kernel) rfl)
theorem lk_RX0_187 : rb_LV RX0 187 yX4_fallAsleep := Or.inl (rb_at 606 (by decide +kernel) rfl)
theorem lk_RX0_191 : rb_LV RX0 191 yX4_canGo := Or.inl (rb_at 744 (by decide +kernel) rfl)
theorem lk_RX0_194 : rb_LV RX0 194 yX0_doStep := Or.inl (rb_at 748 (by decide +kernel) rfl)
theorem lk_RX0_197 : rb_LV RX0 197 yX4_turnProgram := Or.inl (rb_at 752 (by decide +kernel) rfl)
theorem lk_RX0_200 : rb_LV RX0 200 yX0_writeTo := Or.inl (rb_at 760 (by decide +kernel) rfl)
theorem lk_RX0_203 : rb_LV RX0 203 yX0_readFrom := Or.inl (rb_at 761 (by decide +kernel) rfl)
theorem lk_RX0_206 : rb_LV RX0 206 yX0_collectAt := Or.inl (rb_at 762 (by decide +kernel) rfl)
theorem lk_RX0_209 : rb_LV RX0 209 yX0_awaitAt := Or.inl (rb_at 763 (by decide +kernel) rfl)
theorem lk_RX0_213 : rb_LV RX0 213 yX0_closeHandle := Or.inl (rb_at 764 (by decide +kernel) rfl)
theorem lk_RX0_216 : rb_LV RX0 216 yX0_findInterest := Or.inl (rb_at 765 (by decide +kernel) rfl)
theorem lk_RX0_219 : rb_LV RX0 219 yX0_acceptFrom := Or.inl (rb_at 766 (by decide +kernel) rfl)
theorem lk_RX0_222 : rb_LV RX0 222 yX0_connectTo := Or.inl (rb_at 767 (by decide +kernel) rfl)
theorem lk_RX1_15 : rb_LV RX1 15 yX1_countOf := Or.inl (rb_at 565 (by decide +kernel) rfl)
theorem lk_RX1_19 : Cond.methodLink RX1 19 arraycopyName ∈ rb_tbl := rb_at 464 (by decide +kernel) rfl
theorem lk_RX1_25 : rb_LV RX1 25 yX1_remove := Or.inl (rb_at 460 (by decide +kernel) rfl)
theorem lk_RX1_29 : rb_LV RX1 29 yX1_bitsOf := Or.inl (rb_at 379 (by decide +kernel) rfl)
theorem lk_RX1_33 : rb_LV RX1 33 yX1_ready := Or.inl (rb_at 412 (by decide +kernel) rfl)
theorem lk_RX1_36 : rb_LV RX1 36 yX1_aheadOf := Or.inl (rb_at 651 (by decide +kernel) rfl)
theorem lk_RX1_40 : rb_LV RX1 40 yX1_tells := Or.inl (rb_at 655 (by decide +kernel) rfl)
theorem lk_RX1_43 : rb_LV RX1 43 yX1_isShown := Or.inl (rb_at 673 (by decide +kernel) rfl)
theorem lk_RX1_47 : rb_LV RX1 47 yX1_deepBelow := Or.inl (rb_at 548 (by decide +kernel) rfl)
theorem lk_RX1_50 : Cond.methodLink RX1 50 Lib.Math.max.name ∈ rb_tbl := rb_at 541 (by decide +kernel) rfl
theorem lk_RX1_55 : rb_LV RX1 55 yX1_deepAbove := Or.inl (rb_at 540 (by decide +kernel) rfl)
theorem lk_RX2_25 : Cond.methodLink RX2 25 arraycopyName ∈ rb_tbl := rb_at 253 (by decide +kernel) rfl
theorem lk_RX2_31 : Cond.methodLink RX2 31 Lib.Math.min.name ∈ rb_tbl := rb_at 325 (by decide +kernel) rfl
theorem lk_RX3_41 : rb_LV RX3 41 yX4_canGo := Or.inl (rb_at 831 (by decide +kernel) rfl)
theorem lk_RX3_47 : Cond.methodLink RX3 47 arraycopyName ∈ rb_tbl := rb_at 832 (by decide +kernel) rfl
theorem lk_RX3_53 : rb_LV RX3 53 yX0_doStep := Or.inl (rb_at 833 (by decide +kernel) rfl)
theorem lk_RX3_57 : rb_LV RX3 57 yX3_explore := Or.inl (rb_at 834 (by decide +kernel) rfl)
theorem lk_RX3_61 : rb_LV RX3 61 yX3_countEnd := Or.inl (rb_at 835 (by decide +kernel) rfl)
theorem lk_RX3_64 : Cond.methodLink RX3 64 Lib.Math.min.name ∈ rb_tbl := rb_at 839 (by decide +kernel) rfl
theorem lk_RX3_70 : Cond.methodLink RX3 70 Lib.Math.max.name ∈ rb_tbl := rb_at 840 (by decide +kernel) rfl
theorem lk_RX3_73 : rb_LV RX3 73 yX3_missesSome := Or.inl (rb_at 841 (by decide +kernel) rfl)
theorem lk_RX3_80 : rb_LV RX3 80 yX1_ready := Or.inr ⟨"ReadyBell", by decide +kernel⟩
theorem lk_RX4_15 : rb_LV RX4 15 yX4_sleepersAhead := Or.inl (rb_at 698 (by decide +kernel) rfl)
theorem lk_RX4_19 : rb_LV RX4 19 yX4_getUp := Or.inl (rb_at 473 (by decide +kernel) rfl)
theorem lk_RX4_23 : rb_LV RX4 23 yX4_giveUp := Or.inl (rb_at 469 (by decide +kernel) rfl)
theorem lk_RX4_26 : rb_LV RX4 26 yX4_turnColumn := Or.inl (rb_at 756 (by decide +kernel) rfl)
theorem lk_RX5_15 : rb_LV RX5 15 yX5_thingOf := Or.inl (rb_at 366 (by decide +kernel) rfl)
theorem lk_RX5_19 : rb_LV RX5 19 yX5_firstNaming := Or.inl (rb_at 309 (by decide +kernel) rfl)
theorem lk_RX5_22 : rb_LV RX5 22 yX5_handlesOf := Or.inl (rb_at 293 (by decide +kernel) rfl)
theorem lk_RX5_25 : rb_LV RX5 25 yX5_makeThing := Or.inl (rb_at 301 (by decide +kernel) rfl)
theorem lk_RL_13 : rb_LV RL 13 yX6_pipe := Or.inl (rb_at 278 (by decide +kernel) rfl)
theorem lk_RL_17 : rb_LV RL 17 yX7_pipe := Or.inl (rb_at 951 (by decide +kernel) rfl)
theorem lk_RL_18 : rb_LV RL 18 yX6_counter := Or.inl (rb_at 328 (by decide +kernel) rfl)
theorem lk_RL_22 : rb_LV RL 22 yX7_counter := Or.inl (rb_at 994 (by decide +kernel) rfl)
theorem lk_RL_23 : rb_LV RL 23 yX6_timer := Or.inl (rb_at 342 (by decide +kernel) rfl)
theorem lk_RL_27 : rb_LV RL 27 yX7_timer := Or.inl (rb_at 998 (by decide +kernel) rfl)
theorem lk_RL_28 : rb_LV RL 28 yX6_set := Or.inl (rb_at 346 (by decide +kernel) rfl)
theorem lk_RL_31 : rb_LV RL 31 yX7_set := Or.inl (rb_at 1002 (by decide +kernel) rfl)
theorem lk_RL_32 : rb_LV RL 32 yX6_listener := Or.inl (rb_at 350 (by decide +kernel) rfl)
theorem lk_RL_36 : rb_LV RL 36 yX7_listener := Or.inl (rb_at 1006 (by decide +kernel) rfl)
theorem lk_RL_37 : rb_LV RL 37 yX6_connect := Or.inl (rb_at 354 (by decide +kernel) rfl)
theorem lk_RL_40 : rb_LV RL 40 yX7_connect := Or.inl (rb_at 1018 (by decide +kernel) rfl)
theorem lk_RL_41 : rb_LV RL 41 yX6_accept := Or.inl (rb_at 425 (by decide +kernel) rfl)
theorem lk_RL_44 : rb_LV RL 44 yX7_accept := Or.inl (rb_at 1130 (by decide +kernel) rfl)
theorem lk_RL_45 : rb_LV RL 45 yX6_twin := Or.inl (rb_at 437 (by decide +kernel) rfl)
theorem lk_RL_48 : rb_LV RL 48 yX7_twin := Or.inl (rb_at 1010 (by decide +kernel) rfl)
theorem lk_RL_49 : rb_LV RL 49 yX6_close := Or.inl (rb_at 443 (by decide +kernel) rfl)
theorem lk_RL_53 : rb_LV RL 53 yX7_close := Or.inl (rb_at 1142 (by decide +kernel) rfl)
theorem lk_RL_54 : rb_LV RL 54 yX6_write := Or.inl (rb_at 482 (by decide +kernel) rfl)
theorem lk_RL_57 : rb_LV RL 57 yX7_write := Or.inl (rb_at 1178 (by decide +kernel) rfl)
theorem lk_RL_58 : rb_LV RL 58 yX6_read := Or.inl (rb_at 495 (by decide +kernel) rfl)
theorem lk_RL_61 : rb_LV RL 61 yX7_read := Or.inl (rb_at 1190 (by decide +kernel) rfl)
theorem lk_RL_62 : rb_LV RL 62 yX6_arm := Or.inl (rb_at 503 (by decide +kernel) rfl)
theorem lk_RL_66 : rb_LV RL 66 yX7_arm := Or.inl (rb_at 1206 (by decide +kernel) rfl)
theorem lk_RL_67 : rb_LV RL 67 yX6_tick := Or.inl (rb_at 511 (by decide +kernel) rfl)
theorem lk_RL_70 : rb_LV RL 70 yX7_tick := Or.inl (rb_at 1210 (by decide +kernel) rfl)
theorem lk_RL_71 : rb_LV RL 71 yX6_add := Or.inl (rb_at 524 (by decide +kernel) rfl)
theorem lk_RL_75 : rb_LV RL 75 yX7_add := Or.inl (rb_at 1227 (by decide +kernel) rfl)
theorem lk_RL_76 : rb_LV RL 76 yX6_change := Or.inl (rb_at 569 (by decide +kernel) rfl)
theorem lk_RL_80 : rb_LV RL 80 yX7_change := Or.inl (rb_at 1266 (by decide +kernel) rfl)
theorem lk_RL_81 : rb_LV RL 81 yX6_drop := Or.inl (rb_at 578 (by decide +kernel) rfl)
theorem lk_RL_85 : rb_LV RL 85 yX7_drop := Or.inl (rb_at 1270 (by decide +kernel) rfl)
theorem lk_RL_86 : rb_LV RL 86 yX6_collect := Or.inl (rb_at 583 (by decide +kernel) rfl)
theorem lk_RL_90 : rb_LV RL 90 yX7_collect := Or.inl (rb_at 1274 (by decide +kernel) rfl)
theorem lk_RL_91 : rb_LV RL 91 yX6_await := Or.inl (rb_at 598 (by decide +kernel) rfl)
theorem lk_RL_94 : rb_LV RL 94 yX7_await := Or.inl (rb_at 1290 (by decide +kernel) rfl)
theorem lk_RL_95 : rb_LV RL 95 yX6_handle := Or.inl (rb_at 610 (by decide +kernel) rfl)
theorem lk_RL_98 : rb_LV RL 98 yX7_handle := Or.inl (rb_at 1298 (by decide +kernel) rfl)
theorem lk_RL_99 : rb_LV RL 99 yX6_other := Or.inl (rb_at 629 (by decide +kernel) rfl)
theorem lk_RL_102 : rb_LV RL 102 yX7_other := Or.inl (rb_at 1318 (by decide +kernel) rfl)
theorem lk_RL_103 : rb_LV RL 103 yX6_interest := Or.inl (rb_at 634 (by decide +kernel) rfl)
theorem lk_RL_106 : rb_LV RL 106 yX7_interest := Or.inl (rb_at 1322 (by decide +kernel) rfl)
theorem lk_RL_107 : rb_LV RL 107 yX6_listed := Or.inl (rb_at 657 (by decide +kernel) rfl)
theorem lk_RL_110 : rb_LV RL 110 yX7_listed := Or.inl (rb_at 1330 (by decide +kernel) rfl)
theorem lk_RL_111 : rb_LV RL 111 yX6_shows := Or.inl (rb_at 665 (by decide +kernel) rfl)
theorem lk_RL_114 : rb_LV RL 114 yX7_shows := Or.inl (rb_at 1334 (by decide +kernel) rfl)
theorem lk_RL_115 : rb_LV RL 115 yX6_shown := Or.inl (rb_at 677 (by decide +kernel) rfl)
theorem lk_RL_118 : rb_LV RL 118 yX7_shown := Or.inl (rb_at 1338 (by decide +kernel) rfl)
theorem lk_RL_119 : rb_LV RL 119 yX6_depth := Or.inl (rb_at 685 (by decide +kernel) rfl)
theorem lk_RL_122 : rb_LV RL 122 yX7_depth := Or.inl (rb_at 1342 (by decide +kernel) rfl)
theorem lk_RL_123 : rb_LV RL 123 yX6_sleeper := Or.inl (rb_at 690 (by decide +kernel) rfl)
theorem lk_RL_126 : rb_LV RL 126 yX7_sleeper := Or.inl (rb_at 1346 (by decide +kernel) rfl)
theorem lk_RL_127 : rb_LV RL 127 yX6_task := Or.inl (rb_at 702 (by decide +kernel) rfl)
theorem lk_RL_130 : rb_LV RL 130 yX7_task := Or.inl (rb_at 1350 (by decide +kernel) rfl)
theorem lk_RL_131 : rb_LV RL 131 yX6_got := Or.inl (rb_at 707 (by decide +kernel) rfl)
theorem lk_RL_134 : rb_LV RL 134 yX7_got := Or.inl (rb_at 1354 (by decide +kernel) rfl)
theorem lk_RL_135 : rb_LV RL 135 yX6_wakes := Or.inl (rb_at 711 (by decide +kernel) rfl)
theorem lk_RL_138 : rb_LV RL 138 yX7_wakes := Or.inl (rb_at 1398 (by decide +kernel) rfl)
theorem lk_RL_139 : rb_LV RL 139 yX6_plan := Or.inl (rb_at 724 (by decide +kernel) rfl)
theorem lk_RL_142 : rb_LV RL 142 yX7_plan := Or.inl (rb_at 1358 (by decide +kernel) rfl)
theorem lk_RL_143 : rb_LV RL 143 yX6_round := Or.inl (rb_at 732 (by decide +kernel) rfl)
theorem lk_RL_147 : rb_LV RL 147 yX7_round := Or.inl (rb_at 1366 (by decide +kernel) rfl)
theorem lk_RL_148 : rb_LV RL 148 yX6_rounds := Or.inl (rb_at 736 (by decide +kernel) rfl)
theorem lk_RL_151 : rb_LV RL 151 yX7_rounds := Or.inl (rb_at 1370 (by decide +kernel) rfl)
theorem lk_RL_152 : rb_LV RL 152 yX6_stuck := Or.inl (rb_at 768 (by decide +kernel) rfl)
theorem lk_RL_155 : rb_LV RL 155 yX7_stuck := Or.inl (rb_at 1410 (by decide +kernel) rfl)
theorem lk_RL_156 : rb_LV RL 156 yX6_soon := Or.inl (rb_at 780 (by decide +kernel) rfl)
theorem lk_RL_159 : rb_LV RL 159 yX7_soon := Or.inl (rb_at 1418 (by decide +kernel) rfl)
theorem lk_RL_160 : rb_LV RL 160 yX6_calls := Or.inl (rb_at 788 (by decide +kernel) rfl)
theorem lk_RL_163 : rb_LV RL 163 yX7_calls := Or.inl (rb_at 1427 (by decide +kernel) rfl)
theorem lk_RL_164 : rb_LV RL 164 yX6_image := Or.inl (rb_at 797 (by decide +kernel) rfl)
theorem lk_RL_167 : rb_LV RL 167 yX7_image := Or.inl (rb_at 1455 (by decide +kernel) rfl)
theorem lk_RL_168 : rb_LV RL 168 yX6_back := Or.inl (rb_at 806 (by decide +kernel) rfl)
theorem lk_RL_171 : rb_LV RL 171 yX7_back := Or.inl (rb_at 1463 (by decide +kernel) rfl)
theorem lk_RL_172 : rb_LV RL 172 yX6_forget := Or.inl (rb_at 810 (by decide +kernel) rfl)
theorem lk_RL_175 : rb_LV RL 175 yX7_forget := Or.inl (rb_at 1390 (by decide +kernel) rfl)
theorem lk_RL_176 : rb_LV RL 176 yX6_step := Or.inl (rb_at 814 (by decide +kernel) rfl)
theorem lk_RL_179 : rb_LV RL 179 yX7_step := Or.inl (rb_at 1394 (by decide +kernel) rfl)
theorem lk_RL_180 : rb_LV RL 180 yX6_orders := Or.inl (rb_at 819 (by decide +kernel) rfl)
theorem lk_RL_183 : rb_LV RL 183 yX7_orders := Or.inl (rb_at 1431 (by decide +kernel) rfl)
theorem lk_RL_184 : rb_LV RL 184 yX6_undo := Or.inl (rb_at 850 (by decide +kernel) rfl)
theorem lk_RL_188 : rb_LV RL 188 yX7_undo := Or.inl (rb_at 1443 (by decide +kernel) rfl)
theorem lk_RL_189 : rb_LV RL 189 yX6_redo := Or.inl (rb_at 858 (by decide +kernel) rfl)
theorem lk_RL_192 : rb_LV RL 192 yX7_redo := Or.inl (rb_at 1451 (by decide +kernel) rfl)
theorem lk_RL_193 : rb_LV RL 193 yX6_about := Or.inl (rb_at 866 (by decide +kernel) rfl)
theorem lk_RL_196 : rb_LV RL 196 yX7_about := Or.inl (rb_at 1467 (by decide +kernel) rfl)
theorem lk_RX7_53 : rb_LV RX7 53 yX7_objectAt := Or.inl (rb_at 880 (by decide +kernel) rfl)
theorem lk_RX7_57 : rb_LV RX7 57 yX7_pipeAt := Or.inl (rb_at 883 (by decide +kernel) rfl)
theorem lk_RX7_60 : rb_LV RX7 60 yX7_interestAt := Or.inl (rb_at 886 (by decide +kernel) rfl)
theorem lk_RX7_63 : rb_LV RX7 63 yX7_taskAt := Or.inl (rb_at 889 (by decide +kernel) rfl)
theorem lk_RX7_66 : rb_LV RX7 66 yX7_ofObject := Or.inl (rb_at 982 (by decide +kernel) rfl)
theorem lk_RX7_69 : rb_LV RX7 69 yX7_isIn := Or.inl (rb_at 955 (by decide +kernel) rfl)
theorem lk_RX7_73 : rb_LV RX7 73 yX7_isHandle := Or.inl (rb_at 1014 (by decide +kernel) rfl)
theorem lk_RX7_77 : rb_LV RX7 77 yX7_kindOf := Or.inl (rb_at 978 (by decide +kernel) rfl)
theorem lk_RX7_81 : rb_LV RX7 81 yX7_ofInterest := Or.inl (rb_at 1058 (by decide +kernel) rfl)
theorem lk_RX7_84 : rb_LV RX7 84 yX7_ofTask := Or.inl (rb_at 1082 (by decide +kernel) rfl)
theorem lk_RX7_87 : rb_LV RX7 87 yX7_freeHandle := Or.inl (rb_at 990 (by decide +kernel) rfl)
theorem lk_RX7_91 : rb_LV RX7 91 yX7_ofPipe := Or.inl (rb_at 970 (by decide +kernel) rfl)
theorem lk_RX7_94 : rb_LV RX7 94 yX7_newObject := Or.inl (rb_at 974 (by decide +kernel) rfl)
theorem lk_RX7_98 : rb_LV RX7 98 yX7_freeHandles := Or.inl (rb_at 958 (by decide +kernel) rfl)
theorem lk_RX7_101 : rb_LV RX7 101 yX7_keepAct := Or.inl (rb_at 962 (by decide +kernel) rfl)
theorem lk_RX7_104 : rb_LV RX7 104 yX7_newPipe := Or.inl (rb_at 966 (by decide +kernel) rfl)
theorem lk_RX7_107 : rb_LV RX7 107 yX7_newHandle := Or.inl (rb_at 986 (by decide +kernel) rfl)
theorem lk_RX7_110 : rb_LV RX7 110 yX7_names := Or.inl (rb_at 1026 (by decide +kernel) rfl)
theorem lk_RX7_114 : rb_LV RX7 114 yX7_waitingAt := Or.inl (rb_at 1030 (by decide +kernel) rfl)
theorem lk_RX7_117 : rb_LV RX7 117 yX7_stamp := Or.inl (rb_at 1034 (by decide +kernel) rfl)
theorem lk_RX7_120 : rb_LV RX7 120 yX7_notice := Or.inl (rb_at 1038 (by decide +kernel) rfl)
theorem lk_RX7_124 : rb_LV RX7 124 yX7_longestWaiting := Or.inl (rb_at 1138 (by decide +kernel) rfl)
theorem lk_RX7_127 : rb_LV RX7 127 yX7_goConnect := Or.inl (rb_at 1022 (by decide +kernel) rfl)
theorem lk_RX7_131 : rb_LV RX7 131 yX7_goAccept := Or.inl (rb_at 1134 (by decide +kernel) rfl)
theorem lk_RX7_134 : rb_LV RX7 134 yX7_otherEnd := Or.inl (rb_at 1098 (by decide +kernel) rfl)
theorem lk_RX7_137 : rb_LV RX7 137 yX7_bitsOf := Or.inl (rb_at 1062 (by decide +kernel) rfl)
theorem lk_RX7_140 : rb_LV RX7 140 yX7_isTrue := Or.inl (rb_at 1106 (by decide +kernel) rfl)
theorem lk_RX7_143 : rb_LV RX7 143 yX7_readyPlain := Or.inl (rb_at 1094 (by decide +kernel) rfl)
theorem lk_RX7_146 : rb_LV RX7 146 yX7_showsOf := Or.inl (rb_at 1102 (by decide +kernel) rfl)
theorem lk_RX7_149 : rb_LV RX7 149 yX7_isInterest := Or.inl (rb_at 1054 (by decide +kernel) rfl)
theorem lk_RX7_156 : rb_LV RX7 156 yX7_layReady := Or.inl (rb_at 1090 (by decide +kernel) rfl)
theorem lk_RX7_159 : rb_LV RX7 159 yX7_listedBehind := Or.inl (rb_at 1110 (by decide +kernel) rfl)
theorem lk_RX7_162 : rb_LV RX7 162 yX7_take := Or.inl (rb_at 1114 (by decide +kernel) rfl)
theorem lk_RX7_166 : rb_LV RX7 166 yX7_list := Or.inl (rb_at 1066 (by decide +kernel) rfl)
theorem lk_RX7_170 : rb_LV RX7 170 yX7_wasAgain := Or.inl (rb_at 1126 (by decide +kernel) rfl)
theorem lk_RX7_173 : rb_LV RX7 173 yX7_sleeperBehind := Or.inl (rb_at 1078 (by decide +kernel) rfl)
theorem lk_RX7_176 : rb_LV RX7 176 yX7_goCollect := Or.inl (rb_at 1086 (by decide +kernel) rfl)
theorem lk_RX7_180 : rb_LV RX7 180 yX7_sleepNoMore := Or.inl (rb_at 1118 (by decide +kernel) rfl)
theorem lk_RX7_183 : rb_LV RX7 183 yX7_isSomeLeft := Or.inl (rb_at 1122 (by decide +kernel) rfl)
theorem lk_RX7_186 : rb_LV RX7 186 yX7_beginNotice := Or.inl (rb_at 1042 (by decide +kernel) rfl)
theorem lk_RX7_189 : rb_LV RX7 189 yX7_goOnWith := Or.inl (rb_at 1046 (by decide +kernel) rfl)
theorem lk_RX7_192 : rb_LV RX7 192 yX7_addedBehind := Or.inl (rb_at 1050 (by decide +kernel) rfl)
theorem lk_RX7_199 : rb_LV RX7 199 yX7_lowestOf := Or.inl (rb_at 1070 (by decide +kernel) rfl)
theorem lk_RX7_202 : rb_LV RX7 202 yX7_wake := Or.inl (rb_at 1074 (by decide +kernel) rfl)
theorem lk_RX7_205 : rb_LV RX7 205 yX7_handlesOf := Or.inl (rb_at 1150 (by decide +kernel) rfl)
theorem lk_RX7_208 : rb_LV RX7 208 yX7_gone := Or.inl (rb_at 1154 (by decide +kernel) rfl)
theorem lk_RX7_211 : rb_LV RX7 211 yX7_dropInterest := Or.inl (rb_at 1158 (by decide +kernel) rfl)
theorem lk_RX7_214 : rb_LV RX7 214 yX7_gotNothing := Or.inl (rb_at 1162 (by decide +kernel) rfl)
theorem lk_RX7_217 : rb_LV RX7 217 yX7_turnAway := Or.inl (rb_at 1166 (by decide +kernel) rfl)
theorem lk_RX7_220 : rb_LV RX7 220 yX7_isEnd := Or.inl (rb_at 1174 (by decide +kernel) rfl)
theorem lk_RX7_223 : rb_LV RX7 223 yX7_endGone := Or.inl (rb_at 1170 (by decide +kernel) rfl)
theorem lk_RX7_226 : rb_LV RX7 226 yX7_goClose := Or.inl (rb_at 1146 (by decide +kernel) rfl)
theorem lk_RX7_230 : rb_LV RX7 230 yX7_goCount := Or.inl (rb_at 1186 (by decide +kernel) rfl)
theorem lk_RX7_234 : rb_LV RX7 234 yX7_readBytes := Or.inl (rb_at 1198 (by decide +kernel) rfl)
theorem lk_RX7_237 : rb_LV RX7 237 yX7_readValue := Or.inl (rb_at 1202 (by decide +kernel) rfl)
theorem lk_RX7_241 : rb_LV RX7 241 yX7_goWrite := Or.inl (rb_at 1182 (by decide +kernel) rfl)
theorem lk_RX7_244 : rb_LV RX7 244 yX7_goRead := Or.inl (rb_at 1194 (by decide +kernel) rfl)
theorem lk_RX7_247 : rb_LV RX7 247 yX7_fire := Or.inl (rb_at 1219 (by decide +kernel) rfl)
theorem lk_RX7_250 : rb_LV RX7 250 yX7_isAsleep := Or.inl (rb_at 1223 (by decide +kernel) rfl)
theorem lk_RX7_254 : rb_LV RX7 254 yX7_tickOnce := Or.inl (rb_at 1215 (by decide +kernel) rfl)
theorem lk_RX7_257 : rb_LV RX7 257 yX7_layDepths := Or.inl (rb_at 1242 (by decide +kernel) rfl)
theorem lk_RX7_260 : rb_LV RX7 260 yX7_standsIn := Or.inl (rb_at 1246 (by decide +kernel) rfl)
theorem lk_RX7_263 : rb_LV RX7 263 yX7_isSuch := Or.inl (rb_at 1231 (by decide +kernel) rfl)
theorem lk_RX7_266 : rb_LV RX7 266 yX7_found := Or.inl (rb_at 1234 (by decide +kernel) rfl)
theorem lk_RX7_269 : rb_LV RX7 269 yX7_isTooDeep := Or.inl (rb_at 1238 (by decide +kernel) rfl)
theorem lk_RX7_272 : rb_LV RX7 272 yX7_interestsNow := Or.inl (rb_at 1250 (by decide +kernel) rfl)
theorem lk_RX7_275 : rb_LV RX7 275 yX7_tell := Or.inl (rb_at 1254 (by decide +kernel) rfl)
theorem lk_RX7_278 : rb_LV RX7 278 yX7_heldBy := Or.inl (rb_at 1262 (by decide +kernel) rfl)
theorem lk_RX7_281 : rb_LV RX7 281 yX7_call := Or.inl (rb_at 1258 (by decide +kernel) rfl)
theorem lk_RX7_284 : rb_LV RX7 284 yX7_isTask := Or.inl (rb_at 1286 (by decide +kernel) rfl)
theorem lk_RX7_287 : rb_LV RX7 287 yX7_canCollect := Or.inl (rb_at 1282 (by decide +kernel) rfl)
theorem lk_RX7_290 : rb_LV RX7 290 yX7_goCollectAt := Or.inl (rb_at 1278 (by decide +kernel) rfl)
theorem lk_RX7_294 : rb_LV RX7 294 yX7_goAwait := Or.inl (rb_at 1294 (by decide +kernel) rfl)
theorem lk_RX7_298 : rb_LV RX7 298 yX7_holdsOf := Or.inl (rb_at 1302 (by decide +kernel) rfl)
theorem lk_RX7_301 : rb_LV RX7 301 yX7_interestsIn := Or.inl (rb_at 1306 (by decide +kernel) rfl)
theorem lk_RX7_304 : rb_LV RX7 304 yX7_fifthOf := Or.inl (rb_at 1310 (by decide +kernel) rfl)
theorem lk_RX7_307 : rb_LV RX7 307 yX7_sleepersAt := Or.inl (rb_at 1314 (by decide +kernel) rfl)
theorem lk_RX7_310 : rb_LV RX7 310 yX7_placeOf := Or.inl (rb_at 1326 (by decide +kernel) rfl)
theorem lk_RX7_313 : rb_LV RX7 313 yX7_putStep := Or.inl (rb_at 1362 (by decide +kernel) rfl)
theorem lk_RX7_317 : rb_LV RX7 317 yX7_canStep := Or.inl (rb_at 1378 (by decide +kernel) rfl)
theorem lk_RX7_320 : rb_LV RX7 320 yX7_goStep := Or.inl (rb_at 1382 (by decide +kernel) rfl)
theorem lk_RX7_326 : rb_LV RX7 326 yX7_goRoundOnce := Or.inl (rb_at 1374 (by decide +kernel) rfl)
theorem lk_RX7_329 : rb_LV RX7 329 yX7_changeAsIs := Or.inl (rb_at 1386 (by decide +kernel) rfl)
theorem lk_RX7_332 : rb_LV RX7 332 yX7_putAside := Or.inl (rb_at 1402 (by decide +kernel) rfl)
theorem lk_RX7_335 : rb_LV RX7 335 yX7_bringBack := Or.inl (rb_at 1406 (by decide +kernel) rfl)
theorem lk_RX7_338 : rb_LV RX7 338 yX7_asleepNow := Or.inl (rb_at 1414 (by decide +kernel) rfl)
theorem lk_RX7_341 : rb_LV RX7 341 yX7_shows := Or.inl (rb_at 1422 (by decide +kernel) rfl)
theorem lk_RX7_344 : rb_LV RX7 344 yX7_wasWoken := Or.inl (rb_at 1423 (by decide +kernel) rfl)
theorem lk_RX7_347 : rb_LV RX7 347 yX7_tryOrder := Or.inl (rb_at 1435 (by decide +kernel) rfl)
theorem lk_RX7_350 : rb_LV RX7 350 yX7_tallyNow := Or.inl (rb_at 1439 (by decide +kernel) rfl)
theorem lk_RX7_359 : rb_LV RX7 359 yX7_swapAll := Or.inl (rb_at 1447 (by decide +kernel) rfl)
theorem lk_RX7_362 : rb_LV RX7 362 yX7_objectsNow := Or.inl (rb_at 1459 (by decide +kernel) rfl)
theorem lk_RX7_365 : rb_LV RX7 365 yX7_handlesNow := Or.inl (rb_at 1471 (by decide +kernel) rfl)
theorem fl_RX6_13 : rb_FL RX6 13 6 0 := ⟨_, rfl, by decide, rb_at 256 (by decide +kernel) rfl⟩
theorem fl_RX6_22 : rb_FL RX6 22 6 1 := ⟨_, rfl, by decide, rb_at 257 (by decide +kernel) rfl⟩
theorem fl_RX6_26 : rb_FL RX6 26 6 2 := ⟨_, rfl, by decide, rb_at 258 (by decide +kernel) rfl⟩
theorem fl_RX6_34 : rb_FL RX6 34 6 4 := ⟨_, rfl, by decide, rb_at 260 (by decide +kernel) rfl⟩
theorem fl_RX6_41 : rb_FL RX6 41 6 3 := ⟨_, rfl, by decide, rb_at 259 (by decide +kernel) rfl⟩
theorem fl_RX6_48 : rb_FL RX6 48 6 5 := ⟨_, rfl, by decide, rb_at 261 (by decide +kernel) rfl⟩
theorem fl_RX6_51 : rb_FL RX6 51 6 6 := ⟨_, rfl, by decide, rb_at 262 (by decide +kernel) rfl⟩
theorem fp_RX6_51 : rb_FP RX6 51 6 6 := ⟨_, rfl, by decide, rb_at 262 (by decide +kernel) rfl, rfl, by decide +kernel⟩
theorem fl_RX6_65 : rb_FL RX6 65 0 0 := ⟨_, rfl, by decide, rb_at 170 (by decide +kernel) rfl⟩
theorem fl_RX6_137 : rb_FL RX6 137 0 1 := ⟨_, rfl, by decide, rb_at 173 (by decide +kernel) rfl⟩
theorem fl_RX6_169 : rb_FL RX6 169 0 2 := ⟨_, rfl, by decide, rb_at 176 (by decide +kernel) rfl⟩
theorem fl_RX6_214 : rb_FL RX6 214 0 7 := ⟨_, rfl, by decide, rb_at 182 (by decide +kernel) rfl⟩
theorem fp_RX6_214 : rb_FP RX6 214 0 7 := ⟨_, rfl, by decide, rb_at 182 (by decide +kernel) rfl, rfl, by decide +kernel⟩
theorem fl_RX6_270 : rb_FL RX6 270 2 2 := ⟨_, rfl, by decide, rb_at 237 (by decide +kernel) rfl⟩
theorem fp_RX6_270 : rb_FP RX6 270 2 2 := ⟨_, rfl, by decide, rb_at 237 (by decide +kernel) rfl, rfl, by decide +kernel⟩
theorem fl_RX6_273 : rb_FL RX6 273 2 3 := ⟨_, rfl, by decide, rb_at 239 (by decide +kernel) rfl⟩
theorem fp_RX6_273 : rb_FP RX6 273 2 3 := ⟨_, rfl, by decide, rb_at 239 (by decide +kernel) rfl, rfl, by decide +kernel⟩
theorem fl_RX0_9 : rb_FL RX0 9 0 3 := ⟨_, rfl, by decide, rb_at 177 (by decide +kernel) rfl⟩
theorem fl_RX0_20 : rb_FL RX0 20 0 0 := ⟨_, rfl, by decide, rb_at 169 (by decide +kernel) rfl⟩
theorem fl_RX0_27 : rb_FL RX0 27 0 1 := ⟨_, rfl, by decide, rb_at 171 (by decide +kernel) rfl⟩
theorem fl_RX0_34 : rb_FL RX0 34 0 2 := ⟨_, rfl, by decide, rb_at 174 (by decide +kernel) rfl⟩
theorem fl_RX0_38 : rb_FL RX0 38 0 4 := ⟨_, rfl, by decide, rb_at 178 (by decide +kernel) rfl⟩
theorem fl_RX0_47 : rb_FL RX0 47 0 5 := ⟨_, rfl, by decide, rb_at 179 (by decide +kernel) rfl⟩
theorem fp_RX0_47 : rb_FP RX0 47 0 5 := ⟨_, rfl, by decide, rb_at 179 (by decide +kernel) rfl, rfl, by decide +kernel⟩
theorem fl_RX0_51 : rb_FL RX0 51 0 6 := ⟨_, rfl, by decide, rb_at 180 (by decide +kernel) rfl⟩
theorem fp_RX0_51 : rb_FP RX0 51 0 6 := ⟨_, rfl, by decide, rb_at 180 (by decide +kernel) rfl, rfl, by decide +kernel⟩
theorem fl_RX0_54 : rb_FL RX0 54 0 7 := ⟨_, rfl, by decide, rb_at 181 (by decide +kernel) rfl⟩
theorem fp_RX0_54 : rb_FP RX0 54 0 7 := ⟨_, rfl, by decide, rb_at 181 (by decide +kernel) rfl, rfl, by decide +kernel⟩
theorem fl_RX1_9 : rb_FL RX1 9 1 0 := ⟨_, rfl, by decide, rb_at 155 (by decide +kernel) rfl⟩
theorem fl_RX2_11 : rb_FL RX2 11 2 0 := ⟨_, rfl, by decide, rb_at 234 (by decide +kernel) rfl⟩
theorem fl_RX2_15 : rb_FL RX2 15 2 1 := ⟨_, rfl, by decide, rb_at 235 (by decide +kernel) rfl⟩
theorem fp_RX2_15 : rb_FP RX2 15 2 1 := ⟨_, rfl, by decide, rb_at 235 (by decide +kernel) rfl, rfl, by decide +kernel⟩
theorem fl_RX2_19 : rb_FL RX2 19 2 2 := ⟨_, rfl, by decide, rb_at 236 (by decide +kernel) rfl⟩
theorem fp_RX2_19 : rb_FP RX2 19 2 2 := ⟨_, rfl, by decide, rb_at 236 (by decide +kernel) rfl, rfl, by decide +kernel⟩
theorem fl_RX2_22 : rb_FL RX2 22 2 3 := ⟨_, rfl, by decide, rb_at 238 (by decide +kernel) rfl⟩
theorem fp_RX2_22 : rb_FP RX2 22 2 3 := ⟨_, rfl, by decide, rb_at 238 (by decide +kernel) rfl, rfl, by decide +kernel⟩
theorem fl_RX3_9 : rb_FL RX3 9 3 0 := ⟨_, rfl, by decide, rb_at 206 (by decide +kernel) rfl⟩
theorem fl_RX3_15 : rb_FL RX3 15 3 1 := ⟨_, rfl, by decide, rb_at 207 (by decide +kernel) rfl⟩
theorem fl_RX3_19 : rb_FL RX3 19 3 2 := ⟨_, rfl, by decide, rb_at 208 (by decide +kernel) rfl⟩
theorem fl_RX3_22 : rb_FL RX3 22 3 3 := ⟨_, rfl, by decide, rb_at 209 (by decide +kernel) rfl⟩
theorem fl_RX3_25 : rb_FL RX3 25 3 4 := ⟨_, rfl, by decide, rb_at 210 (by decide +kernel) rfl⟩
theorem fp_RX3_25 : rb_FP RX3 25 3 4 := ⟨_, rfl, by decide, rb_at 210 (by decide +kernel) rfl, rfl, by decide +kernel⟩
theorem fl_RX3_29 : rb_FL RX3 29 3 5 := ⟨_, rfl, by decide, rb_at 211 (by decide +kernel) rfl⟩
theorem fp_RX3_29 : rb_FP RX3 29 3 5 := ⟨_, rfl, by decide, rb_at 211 (by decide +kernel) rfl, rfl, by decide +kernel⟩
theorem fl_RX3_32 : rb_FL RX3 32 3 6 := ⟨_, rfl, by decide, rb_at 212 (by decide +kernel) rfl⟩
theorem fp_RX3_32 : rb_FP RX3 32 3 6 := ⟨_, rfl, by decide, rb_at 212 (by decide +kernel) rfl, rfl, by decide +kernel⟩
theorem fl_RX3_35 : rb_FL RX3 35 0 2 := ⟨_, rfl, by decide, rb_at 175 (by decide +kernel) rfl⟩
theorem fl_RX3_76 : rb_FL RX3 76 0 1 := ⟨_, rfl, by decide, rb_at 172 (by decide +kernel) rfl⟩
theorem fl_RX4_9 : rb_FL RX4 9 4 0 := ⟨_, rfl, by decide, rb_at 165 (by decide +kernel) rfl⟩
theorem fl_RX5_9 : rb_FL RX5 9 5 0 := ⟨_, rfl, by decide, rb_at 144 (by decide +kernel) rfl⟩
theorem fl_RX7_7 : rb_FL RX7 7 7 0 := ⟨_, rfl, by decide, rb_at 892 (by decide +kernel) rfl⟩
theorem fl_RX7_13 : rb_FL RX7 13 7 1 := ⟨_, rfl, by decide, rb_at 893 (by decide +kernel) rfl⟩
theorem fl_RX7_16 : rb_FL RX7 16 7 2 := ⟨_, rfl, by decide, rb_at 894 (by decide +kernel) rfl⟩
theorem fl_RX7_19 : rb_FL RX7 19 7 4 := ⟨_, rfl, by decide, rb_at 896 (by decide +kernel) rfl⟩
theorem fl_RX7_22 : rb_FL RX7 22 7 5 := ⟨_, rfl, by decide, rb_at 897 (by decide +kernel) rfl⟩
theorem fl_RX7_25 : rb_FL RX7 25 7 6 := ⟨_, rfl, by decide, rb_at 898 (by decide +kernel) rfl⟩
theorem fl_RX7_28 : rb_FL RX7 28 7 7 := ⟨_, rfl, by decide, rb_at 899 (by decide +kernel) rfl⟩
theorem fl_RX7_32 : rb_FL RX7 32 7 8 := ⟨_, rfl, by decide, rb_at 900 (by decide +kernel) rfl⟩
theorem fl_RX7_35 : rb_FL RX7 35 7 9 := ⟨_, rfl, by decide, rb_at 901 (by decide +kernel) rfl⟩
theorem fl_RX7_38 : rb_FL RX7 38 7 10 := ⟨_, rfl, by decide, rb_at 902 (by decide +kernel) rfl⟩
theorem fl_RX7_41 : rb_FL RX7 41 7 12 := ⟨_, rfl, by decide, rb_at 904 (by decide +kernel) rfl⟩
theorem fl_RX7_44 : rb_FL RX7 44 7 14 := ⟨_, rfl, by decide, rb_at 906 (by decide +kernel) rfl⟩
theorem fl_RX7_47 : rb_FL RX7 47 7 15 := ⟨_, rfl, by decide, rb_at 907 (by decide +kernel) rfl⟩
theorem fl_RX7_50 : rb_FL RX7 50 7 18 := ⟨_, rfl, by decide, rb_at 910 (by decide +kernel) rfl⟩
theorem fl_RX7_152 : rb_FL RX7 152 7 3 := ⟨_, rfl, by decide, rb_at 895 (by decide +kernel) rfl⟩
theorem fp_RX7_152 : rb_FP RX7 152 7 3 := ⟨_, rfl, by decide, rb_at 895 (by decide +kernel) rfl, rfl, by decide +kernel⟩
theorem fl_RX7_196 : rb_FL RX7 196 7 11 := ⟨_, rfl, by decide, rb_at 903 (by decide +kernel) rfl⟩
theorem fp_RX7_196 : rb_FP RX7 196 7 11 := ⟨_, rfl, by decide, rb_at 903 (by decide +kernel) rfl, rfl, by decide +kernel⟩
theorem fl_RX7_323 : rb_FL RX7 323 7 13 := ⟨_, rfl, by decide, rb_at 905 (by decide +kernel) rfl⟩
theorem fp_RX7_323 : rb_FP RX7 323 7 13 := ⟨_, rfl, by decide, rb_at 905 (by decide +kernel) rfl, rfl, by decide +kernel⟩
theorem fl_RX7_353 : rb_FL RX7 353 7 16 := ⟨_, rfl, by decide, rb_at 908 (by decide +kernel) rfl⟩
theorem fp_RX7_353 : rb_FP RX7 353 7 16 := ⟨_, rfl, by decide, rb_at 908 (by decide +kernel) rfl, rfl, by decide +kernel⟩
theorem fl_RX7_356 : rb_FL RX7 356 7 17 := ⟨_, rfl, by decide, rb_at 909 (by decide +kernel) rfl⟩
theorem fp_RX7_356 : rb_FP RX7 356 7 17 := ⟨_, rfl, by decide, rb_at 909 (by decide +kernel) rfl, rfl, by decide +kernel⟩
theorem kc_RX6_123 : Cond.constant RX6 123 100000 ∈ rb_tbl := rb_at 515 (by decide +kernel) rfl
theorem kc_RX7_253 : Cond.constant RX7 253 100000 ∈ rb_tbl := rb_at 1214 (by decide +kernel) rfl
theorem rp_0 : rb_isC 0 RX6 := ⟨6, _, _, rfl, rfl, rfl⟩
theorem rp_1 : rb_isC 1 RX0 := ⟨0, _, _, rfl, rfl, rfl⟩
theorem rp_2 : rb_isC 2 RX5 := ⟨5, _, _, rfl, rfl, rfl⟩
theorem rp_3 : rb_isC 3 RX1 := ⟨1, _, _, rfl, rfl, rfl⟩
theorem rp_4 : rb_isC 4 RX4 := ⟨4, _, _, rfl, rfl, rfl⟩
theorem rp_7 : rb_isC 7 RX0 := ⟨0, _, _, rfl, rfl, rfl⟩
theorem rp_8 : rb_isC 8 RX5 := ⟨5, _, _, rfl, rfl, rfl⟩
theorem rp_9 : rb_isC 9 RX1 := ⟨1, _, _, rfl, rfl, rfl⟩
theorem rp_10 : rb_isC 10 RX4 := ⟨4, _, _, rfl, rfl, rfl⟩
theorem rp_13 : rb_isC 13 RX2 := ⟨2, _, _, rfl, rfl, rfl⟩
theorem rp_15 : rb_isC 15 RX3 := ⟨3, _, _, rfl, rfl, rfl⟩
theorem rp_19 : rb_isC 19 RX7 := ⟨7, _, _, rfl, rfl, rfl⟩
theorem ki_m1 : Int32.ofInt (-1) = (-1) := by decide
theorem ki_0 : Int32.ofInt 0 = 0 := by decide
theorem ki_1 : Int32.ofInt 1 = 1 := by decide
theorem ki_2 : Int32.ofInt 2 = 2 := by decide
theorem ki_3 : Int32.ofInt 3 = 3 := by decide
theorem ki_4 : Int32.ofInt 4 = 4 := by decide
theorem ki_5 : Int32.ofInt 5 = 5 := by decide
theorem kb_m4 : (Int8.ofInt (-4)).toInt32 = (-4) := by decide
theorem kb_m3 : (Int8.ofInt (-3)).toInt32 = (-3) := by decide
theorem kb_m2 : (Int8.ofInt (-2)).toInt32 = (-2) := by decide
theorem kb_6 : (Int8.ofInt 6).toInt32 = 6 := by decide
theorem kb_7 : (Int8.ofInt 7).toInt32 = 7 := by decide
theorem kb_8 : (Int8.ofInt 8).toInt32 = 8 := by decide
theorem kb_9 : (Int8.ofInt 9).toInt32 = 9 := by decide
theorem kb_10 : (Int8.ofInt 10).toInt32 = 10 := by decide
theorem kb_11 : (Int8.ofInt 11).toInt32 = 11 := by decide
theorem kb_12 : (Int8.ofInt 12).toInt32 = 12 := by decide
theorem kb_13 : (Int8.ofInt 13).toInt32 = 13 := by decide
theorem kb_15 : (Int8.ofInt 15).toInt32 = 15 := by decide
theorem kb_16 : (Int8.ofInt 16).toInt32 = 16 := by decide
theorem kb_19 : (Int8.ofInt 19).toInt32 = 19 := by decide
theorem kb_22 : (Int8.ofInt 22).toInt32 = 22 := by decide
theorem kb_24 : (Int8.ofInt 24).toInt32 = 24 := by decide
theorem kb_28 : (Int8.ofInt 28).toInt32 = 28 := by decide
theorem kb_38 : (Int8.ofInt 38).toInt32 = 38 := by decide
theorem kb_39 : (Int8.ofInt 39).toInt32 = 39 := by decide
theorem kb_47 : (Int8.ofInt 47).toInt32 = 47 := by decide
theorem kb_50 : (Int8.ofInt 50).toInt32 = 50 := by decide
theorem kb_60 : (Int8.ofInt 60).toInt32 = 60 := by decide
theorem kb_63 : (Int8.ofInt 63).toInt32 = 63 := by decide
theorem kb_75 : (Int8.ofInt 75).toInt32 = 75 := by decide
theorem kb_100 : (Int8.ofInt 100).toInt32 = 100 := by decide
theorem kb_103 : (Int8.ofInt 103).toInt32 = 103 := by decide
theorem ks_131 : (Int16.ofInt 131).toInt32 = 131 := by decide
theorem ks_159 : (Int16.ofInt 159).toInt32 = 159 := by decide
theorem ks_184 : (Int16.ofInt 184).toInt32 = 184 := by decide
theorem ks_187 : (Int16.ofInt 187).toInt32 = 187 := by decide
theorem ks_215 : (Int16.ofInt 215).toInt32 = 215 := by decide
theorem ks_243 : (Int16.ofInt 243).toInt32 = 243 := by decide
theorem ks_256 : (Int16.ofInt 256).toInt32 = 256 := by decide
theorem ks_271 : (Int16.ofInt 271).toInt32 = 271 := by decide
theorem ks_296 : (Int16.ofInt 296).toInt32 = 296 := by decide
theorem ks_299 : (Int16.ofInt 299).toInt32 = 299 := by decide
theorem ks_323 : (Int16.ofInt 323).toInt32 = 323 := by decide
theorem ks_347 : (Int16.ofInt 347).toInt32 = 347 := by decide
theorem ks_371 : (Int16.ofInt 371).toInt32 = 371 := by decide
theorem ks_395 : (Int16.ofInt 395).toInt32 = 395 := by decide
theorem ks_419 : (Int16.ofInt 419).toInt32 = 419 := by decide
theorem ks_443 : (Int16.ofInt 443).toInt32 = 443 := by decide
theorem ks_467 : (Int16.ofInt 467).toInt32 = 467 := by decide
theorem ks_491 : (Int16.ofInt 491).toInt32 = 491 := by decide
theorem ks_515 : (Int16.ofInt 515).toInt32 = 515 := by decide
theorem ks_539 : (Int16.ofInt 539).toInt32 = 539 := by decide
theorem ks_545 : (Int16.ofInt 545).toInt32 = 545 := by decide
theorem ks_551 : (Int16.ofInt 551).toInt32 = 551 := by decide
theorem ks_557 : (Int16.ofInt 557).toInt32 = 557 := by decide
theorem ks_560 : (Int16.ofInt 560).toInt32 = 560 := by decide
theorem ks_563 : (Int16.ofInt 563).toInt32 = 563 := by decide
theorem ks_569 : (Int16.ofInt 569).toInt32 = 569 := by decide
theorem ks_575 : (Int16.ofInt 575).toInt32 = 575 := by decide
theorem ks_581 : (Int16.ofInt 581).toInt32 = 581 := by decide
theorem ks_587 : (Int16.ofInt 587).toInt32 = 587 := by decide
theorem ks_593 : (Int16.ofInt 593).toInt32 = 593 := by decide
theorem ks_599 : (Int16.ofInt 599).toInt32 = 599 := by decide
theorem ks_605 : (Int16.ofInt 605).toInt32 = 605 := by decide
theorem ks_629 : (Int16.ofInt 629).toInt32 = 629 := by decide
theorem ks_653 : (Int16.ofInt 653).toInt32 = 653 := by decide
theorem ks_677 : (Int16.ofInt 677).toInt32 = 677 := by decide
theorem ks_725 : (Int16.ofInt 725).toInt32 = 725 := by decide
theorem ks_773 : (Int16.ofInt 773).toInt32 = 773 := by decide
theorem ks_794 : (Int16.ofInt 794).toInt32 = 794 := by decide
theorem ks_795 : (Int16.ofInt 795).toInt32 = 795 := by decide
theorem ks_796 : (Int16.ofInt 796).toInt32 = 796 := by decide
theorem ks_1000 : (Int16.ofInt 1000).toInt32 = 1000 := by decide
theorem ks_1546 : (Int16.ofInt 1546).toInt32 = 1546 := by decide
theorem ks_1592 : (Int16.ofInt 1592).toInt32 = 1592 := by decide
theorem ks_6184 : (Int16.ofInt 6184).toInt32 = 6184 := by decide
theorem ks_9552 : (Int16.ofInt 9552).toInt32 = 9552 := by decide
theorem ks_10049 : (Int16.ofInt 10049).toInt32 = 10049 := by decide
theorem ks_10348 : (Int16.ofInt 10348).toInt32 = 10348 := by decide
theorem pn_0 : plainName RX0 = true := by decide
theorem pn_1 : plainName RX1 = true := by decide
theorem pn_2 : plainName RX2 = true := by decide
theorem pn_3 : plainName RX3 = true := by decide
theorem pn_4 : plainName RX4 = true := by decide
theorem pn_5 : plainName RX5 = true := by decide
theorem pn_6 : plainName RX6 = true := by decide
theorem pn_7 : plainName RX7 = true := by decide
