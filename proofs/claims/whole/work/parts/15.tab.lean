abbrev mJ6_bitCount_0f7a4 : Mth := (RJ6, yJ6_bitCount_0f7a4, cJ6_bitCount_0f7a4, 1, (some .int))
theorem hJ6_bitCount_0f7a4 : plainName yJ6_bitCount_0f7a4.cls = true ∧ yJ6_bitCount_0f7a4.cls = RJ6 ∧ RJ6 ≠ RL := ⟨by decide +kernel, rfl, by decide +kernel⟩
theorem kJ6_bitCount_0f7a4 : Cond.static yJ6_bitCount_0f7a4 ∈ lw_good ∧ CkN mJ6_bitCount_0f7a4 1 := ⟨lw_gi 765 (by decide +kernel) (by decide +kernel), ⟨lw_gi 766 (by decide +kernel) (by decide +kernel), lw_gi 75 (by decide +kernel) (by decide +kernel), ⟨rfl, by decide +kernel, by decide +kernel, by decide +kernel⟩, by decide⟩⟩
abbrev mJ9_min_7cf53 : Mth := (RJ9, yJ9_min_7cf53, cJ9_min_7cf53, 2, (some .int))
theorem kJ9_min_7cf53 : Cond.static yJ9_min_7cf53 ∈ lw_good ∧ CkN mJ9_min_7cf53 2 := ⟨lw_gi 809 (by decide +kernel) (by decide +kernel), ⟨lw_gi 810 (by decide +kernel) (by decide +kernel), lw_gi 76 (by decide +kernel) (by decide +kernel), ⟨rfl, by decide +kernel, by decide +kernel, by decide +kernel⟩, by decide⟩⟩
abbrev mX0_addSort : Mth := (RX0, yX0_addSort, cX0_addSort, 3, (some .int))
theorem hX0_addSort : plainName yX0_addSort.cls = true ∧ yX0_addSort.cls = RX0 ∧ RX0 ≠ RL := ⟨by decide +kernel, rfl, by decide +kernel⟩
theorem kX0_addSort : Cond.instanceMethod yX0_addSort ∈ lw_good ∧ Cond.selects RX0 yX0_addSort yX0_addSort ∈ lw_good ∧ CkN mX0_addSort 1 := ⟨lw_gi 411 (by decide +kernel) (by decide +kernel), lw_gi 412 (by decide +kernel) (by decide +kernel), ⟨lw_gi 413 (by decide +kernel) (by decide +kernel), lw_gi 64 (by decide +kernel) (by decide +kernel), ⟨rfl, by decide +kernel, by decide +kernel, by decide +kernel⟩, by decide⟩⟩
abbrev mX0_addToRow : Mth := (RX0, yX0_addToRow, cX0_addToRow, 3, none)
theorem hX0_addToRow : plainName yX0_addToRow.cls = true ∧ yX0_addToRow.cls = RX0 ∧ RX0 ≠ RL := ⟨by decide +kernel, rfl, by decide +kernel⟩
theorem kX0_addToRow : Cond.instanceMethod yX0_addToRow ∈ lw_good ∧ Cond.selects RX0 yX0_addToRow yX0_addToRow ∈ lw_good ∧ CkN mX0_addToRow 1 := ⟨lw_gi 442 (by decide +kernel) (by decide +kernel), lw_gi 443 (by decide +kernel) (by decide +kernel), ⟨lw_gi 444 (by decide +kernel) (by decide +kernel), lw_gi 64 (by decide +kernel) (by decide +kernel), ⟨rfl, by decide +kernel, by decide +kernel, by decide +kernel⟩, by decide⟩⟩
abbrev mX0_addToWord : Mth := (RX0, yX0_addToWord, cX0_addToWord, 4, none)
theorem hX0_addToWord : plainName yX0_addToWord.cls = true ∧ yX0_addToWord.cls = RX0 ∧ RX0 ≠ RL := ⟨by decide +kernel, rfl, by decide +kernel⟩
theorem kX0_addToWord : Cond.instanceMethod yX0_addToWord ∈ lw_good ∧ Cond.selects RX0 yX0_addToWord yX0_addToWord ∈ lw_good ∧ CkN mX0_addToWord 2 := ⟨lw_gi 426 (by decide +kernel) (by decide +kernel), lw_gi 427 (by decide +kernel) (by decide +kernel), ⟨lw_gi 428 (by decide +kernel) (by decide +kernel), lw_gi 64 (by decide +kernel) (by decide +kernel), ⟨rfl, by decide +kernel, by decide +kernel, by decide +kernel⟩, by decide⟩⟩
abbrev mX0_clear : Mth := (RX0, yX0_clear, cX0_clear, 2, none)
theorem hX0_clear : plainName yX0_clear.cls = true ∧ yX0_clear.cls = RX0 ∧ RX0 ≠ RL := ⟨by decide +kernel, rfl, by decide +kernel⟩
theorem kX0_clear : Cond.instanceMethod yX0_clear ∈ lw_good ∧ Cond.selects RX0 yX0_clear yX0_clear ∈ lw_good ∧ CkN mX0_clear 0 := ⟨lw_gi 362 (by decide +kernel) (by decide +kernel), lw_gi 363 (by decide +kernel) (by decide +kernel), ⟨lw_gi 364 (by decide +kernel) (by decide +kernel), lw_gi 64 (by decide +kernel) (by decide +kernel), ⟨rfl, by decide +kernel, by decide +kernel, by decide +kernel⟩, by decide⟩⟩
abbrev mX0_clearRow : Mth := (RX0, yX0_clearRow, cX0_clearRow, 1, none)
theorem hX0_clearRow : plainName yX0_clearRow.cls = true ∧ yX0_clearRow.cls = RX0 ∧ RX0 ≠ RL := ⟨by decide +kernel, rfl, by decide +kernel⟩
theorem kX0_clearRow : Cond.instanceMethod yX0_clearRow ∈ lw_good ∧ Cond.selects RX0 yX0_clearRow yX0_clearRow ∈ lw_good ∧ CkN mX0_clearRow 0 := ⟨lw_gi 580 (by decide +kernel) (by decide +kernel), lw_gi 581 (by decide +kernel) (by decide +kernel), ⟨lw_gi 582 (by decide +kernel) (by decide +kernel), lw_gi 64 (by decide +kernel) (by decide +kernel), ⟨rfl, by decide +kernel, by decide +kernel, by decide +kernel⟩, by decide⟩⟩
abbrev mX0_clearWord : Mth := (RX0, yX0_clearWord, cX0_clearWord, 2, none)
theorem hX0_clearWord : plainName yX0_clearWord.cls = true ∧ yX0_clearWord.cls = RX0 ∧ RX0 ≠ RL := ⟨by decide +kernel, rfl, by decide +kernel⟩
theorem kX0_clearWord : Cond.instanceMethod yX0_clearWord ∈ lw_good ∧ Cond.selects RX0 yX0_clearWord yX0_clearWord ∈ lw_good ∧ CkN mX0_clearWord 1 := ⟨lw_gi 534 (by decide +kernel) (by decide +kernel), lw_gi 535 (by decide +kernel) (by decide +kernel), ⟨lw_gi 536 (by decide +kernel) (by decide +kernel), lw_gi 64 (by decide +kernel) (by decide +kernel), ⟨rfl, by decide +kernel, by decide +kernel, by decide +kernel⟩, by decide⟩⟩
abbrev mX0_hasAllSortsItNames : Mth := (RX0, yX0_hasAllSortsItNames, cX0_hasAllSortsItNames, 3, (some .boolean))
theorem hX0_hasAllSortsItNames : plainName yX0_hasAllSortsItNames.cls = true ∧ yX0_hasAllSortsItNames.cls = RX0 ∧ RX0 ≠ RL := ⟨by decide +kernel, rfl, by decide +kernel⟩
theorem kX0_hasAllSortsItNames : Cond.instanceMethod yX0_hasAllSortsItNames ∈ lw_good ∧ Cond.selects RX0 yX0_hasAllSortsItNames yX0_hasAllSortsItNames ∈ lw_good ∧ CkN mX0_hasAllSortsItNames 0 := ⟨lw_gi 454 (by decide +kernel) (by decide +kernel), lw_gi 455 (by decide +kernel) (by decide +kernel), ⟨lw_gi 456 (by decide +kernel) (by decide +kernel), lw_gi 64 (by decide +kernel) (by decide +kernel), ⟨rfl, by decide +kernel, by decide +kernel, by decide +kernel⟩, by decide⟩⟩
abbrev mX0_hasSort : Mth := (RX0, yX0_hasSort, cX0_hasSort, 2, (some .boolean))
theorem hX0_hasSort : plainName yX0_hasSort.cls = true ∧ yX0_hasSort.cls = RX0 ∧ RX0 ≠ RL := ⟨by decide +kernel, rfl, by decide +kernel⟩
theorem kX0_hasSort : Cond.instanceMethod yX0_hasSort ∈ lw_good ∧ Cond.selects RX0 yX0_hasSort yX0_hasSort ∈ lw_good ∧ CkN mX0_hasSort 1 := ⟨lw_gi 463 (by decide +kernel) (by decide +kernel), lw_gi 464 (by decide +kernel) (by decide +kernel), ⟨lw_gi 465 (by decide +kernel) (by decide +kernel), lw_gi 64 (by decide +kernel) (by decide +kernel), ⟨rfl, by decide +kernel, by decide +kernel, by decide +kernel⟩, by decide⟩⟩
abbrev mX0_imageLength : Mth := (RX0, yX0_imageLength, cX0_imageLength, 5, (some .int))
theorem hX0_imageLength : plainName yX0_imageLength.cls = true ∧ yX0_imageLength.cls = RX0 ∧ RX0 ≠ RL := ⟨by decide +kernel, rfl, by decide +kernel⟩
theorem kX0_imageLength : Cond.instanceMethod yX0_imageLength ∈ lw_good ∧ Cond.selects RX0 yX0_imageLength yX0_imageLength ∈ lw_good ∧ CkN mX0_imageLength 2 := ⟨lw_gi 780 (by decide +kernel) (by decide +kernel), lw_gi 781 (by decide +kernel) (by decide +kernel), ⟨lw_gi 782 (by decide +kernel) (by decide +kernel), lw_gi 64 (by decide +kernel) (by decide +kernel), ⟨rfl, by decide +kernel, by decide +kernel, by decide +kernel⟩, by decide⟩⟩
abbrev mX0_imageLetter : Mth := (RX0, yX0_imageLetter, cX0_imageLetter, 4, (some .int))
theorem hX0_imageLetter : plainName yX0_imageLetter.cls = true ∧ yX0_imageLetter.cls = RX0 ∧ RX0 ≠ RL := ⟨by decide +kernel, rfl, by decide +kernel⟩
theorem kX0_imageLetter : Cond.instanceMethod yX0_imageLetter ∈ lw_good ∧ Cond.selects RX0 yX0_imageLetter yX0_imageLetter ∈ lw_good ∧ CkN mX0_imageLetter 2 := ⟨lw_gi 604 (by decide +kernel) (by decide +kernel), lw_gi 605 (by decide +kernel) (by decide +kernel), ⟨lw_gi 606 (by decide +kernel) (by decide +kernel), lw_gi 64 (by decide +kernel) (by decide +kernel), ⟨rfl, by decide +kernel, by decide +kernel, by decide +kernel⟩, by decide⟩⟩
abbrev mX0_imageSize : Mth := (RX0, yX0_imageSize, cX0_imageSize, 2, (some .int))
theorem hX0_imageSize : plainName yX0_imageSize.cls = true ∧ yX0_imageSize.cls = RX0 ∧ RX0 ≠ RL := ⟨by decide +kernel, rfl, by decide +kernel⟩
theorem kX0_imageSize : Cond.instanceMethod yX0_imageSize ∈ lw_good ∧ Cond.selects RX0 yX0_imageSize yX0_imageSize ∈ lw_good ∧ CkN mX0_imageSize 1 := ⟨lw_gi 599 (by decide +kernel) (by decide +kernel), lw_gi 600 (by decide +kernel) (by decide +kernel), ⟨lw_gi 601 (by decide +kernel) (by decide +kernel), lw_gi 64 (by decide +kernel) (by decide +kernel), ⟨rfl, by decide +kernel, by decide +kernel, by decide +kernel⟩, by decide⟩⟩
abbrev mX0_kindOf : Mth := (RX0, yX0_kindOf, cX0_kindOf, 2, (some .int))
theorem hX0_kindOf : plainName yX0_kindOf.cls = true ∧ yX0_kindOf.cls = RX0 ∧ RX0 ≠ RL := ⟨by decide +kernel, rfl, by decide +kernel⟩
theorem kX0_kindOf : Cond.instanceMethod yX0_kindOf ∈ lw_good ∧ Cond.selects RX0 yX0_kindOf yX0_kindOf ∈ lw_good ∧ CkN mX0_kindOf 1 := ⟨lw_gi 552 (by decide +kernel) (by decide +kernel), lw_gi 553 (by decide +kernel) (by decide +kernel), ⟨lw_gi 554 (by decide +kernel) (by decide +kernel), lw_gi 64 (by decide +kernel) (by decide +kernel), ⟨rfl, by decide +kernel, by decide +kernel, by decide +kernel⟩, by decide⟩⟩
abbrev mX0_law : Mth := (RX0, yX0_law, cX0_law, 2, (some .int))
theorem hX0_law : plainName yX0_law.cls = true ∧ yX0_law.cls = RX0 ∧ RX0 ≠ RL := ⟨by decide +kernel, rfl, by decide +kernel⟩
theorem kX0_law : Cond.instanceMethod yX0_law ∈ lw_good ∧ Cond.selects RX0 yX0_law yX0_law ∈ lw_good ∧ CkN mX0_law 1 := ⟨lw_gi 570 (by decide +kernel) (by decide +kernel), lw_gi 571 (by decide +kernel) (by decide +kernel), ⟨lw_gi 572 (by decide +kernel) (by decide +kernel), lw_gi 64 (by decide +kernel) (by decide +kernel), ⟨rfl, by decide +kernel, by decide +kernel, by decide +kernel⟩, by decide⟩⟩
abbrev mX0_leastLaw : Mth := (RX0, yX0_leastLaw, cX0_leastLaw, 1, (some .int))
theorem hX0_leastLaw : plainName yX0_leastLaw.cls = true ∧ yX0_leastLaw.cls = RX0 ∧ RX0 ≠ RL := ⟨by decide +kernel, rfl, by decide +kernel⟩
theorem kX0_leastLaw : Cond.static yX0_leastLaw ∈ lw_good ∧ CkN mX0_leastLaw 1 := ⟨lw_gi 382 (by decide +kernel) (by decide +kernel), ⟨lw_gi 383 (by decide +kernel) (by decide +kernel), lw_gi 64 (by decide +kernel) (by decide +kernel), ⟨rfl, by decide +kernel, by decide +kernel, by decide +kernel⟩, by decide⟩⟩
abbrev mX0_lengthOf : Mth := (RX0, yX0_lengthOf, cX0_lengthOf, 3, (some .int))
theorem hX0_lengthOf : plainName yX0_lengthOf.cls = true ∧ yX0_lengthOf.cls = RX0 ∧ RX0 ≠ RL := ⟨by decide +kernel, rfl, by decide +kernel⟩
theorem kX0_lengthOf : Cond.instanceMethod yX0_lengthOf ∈ lw_good ∧ Cond.selects RX0 yX0_lengthOf yX0_lengthOf ∈ lw_good ∧ CkN mX0_lengthOf 2 := ⟨lw_gi 663 (by decide +kernel) (by decide +kernel), lw_gi 664 (by decide +kernel) (by decide +kernel), ⟨lw_gi 665 (by decide +kernel) (by decide +kernel), lw_gi 64 (by decide +kernel) (by decide +kernel), ⟨rfl, by decide +kernel, by decide +kernel, by decide +kernel⟩, by decide⟩⟩
abbrev mX0_lettersOfWords : Mth := (RX0, yX0_lettersOfWords, cX0_lettersOfWords, 3, (some .int))
theorem hX0_lettersOfWords : plainName yX0_lettersOfWords.cls = true ∧ yX0_lettersOfWords.cls = RX0 ∧ RX0 ≠ RL := ⟨by decide +kernel, rfl, by decide +kernel⟩
theorem kX0_lettersOfWords : Cond.instanceMethod yX0_lettersOfWords ∈ lw_good ∧ Cond.selects RX0 yX0_lettersOfWords yX0_lettersOfWords ∈ lw_good ∧ CkN mX0_lettersOfWords 0 := ⟨lw_gi 977 (by decide +kernel) (by decide +kernel), lw_gi 978 (by decide +kernel) (by decide +kernel), ⟨lw_gi 979 (by decide +kernel) (by decide +kernel), lw_gi 64 (by decide +kernel) (by decide +kernel), ⟨rfl, by decide +kernel, by decide +kernel, by decide +kernel⟩, by decide⟩⟩
abbrev mX0_mostLaw : Mth := (RX0, yX0_mostLaw, cX0_mostLaw, 1, (some .int))
theorem hX0_mostLaw : plainName yX0_mostLaw.cls = true ∧ yX0_mostLaw.cls = RX0 ∧ RX0 ≠ RL := ⟨by decide +kernel, rfl, by decide +kernel⟩
theorem kX0_mostLaw : Cond.static yX0_mostLaw ∈ lw_good ∧ CkN mX0_mostLaw 1 := ⟨lw_gi 385 (by decide +kernel) (by decide +kernel), ⟨lw_gi 386 (by decide +kernel) (by decide +kernel), lw_gi 64 (by decide +kernel) (by decide +kernel), ⟨rfl, by decide +kernel, by decide +kernel, by decide +kernel⟩, by decide⟩⟩
abbrev mX0_part : Mth := (RX0, yX0_part, cX0_part, 3, (some .int))
theorem hX0_part : plainName yX0_part.cls = true ∧ yX0_part.cls = RX0 ∧ RX0 ≠ RL := ⟨by decide +kernel, rfl, by decide +kernel⟩
theorem kX0_part : Cond.instanceMethod yX0_part ∈ lw_good ∧ Cond.selects RX0 yX0_part yX0_part ∈ lw_good ∧ CkN mX0_part 2 := ⟨lw_gi 543 (by decide +kernel) (by decide +kernel), lw_gi 544 (by decide +kernel) (by decide +kernel), ⟨lw_gi 545 (by decide +kernel) (by decide +kernel), lw_gi 64 (by decide +kernel) (by decide +kernel), ⟨rfl, by decide +kernel, by decide +kernel, by decide +kernel⟩, by decide⟩⟩
abbrev mX0_putAll : Mth := (RX0, yX0_putAll, cX0_putAll, 3, none)
theorem hX0_putAll : plainName yX0_putAll.cls = true ∧ yX0_putAll.cls = RX0 ∧ RX0 ≠ RL := ⟨by decide +kernel, rfl, by decide +kernel⟩
theorem kX0_putAll : Cond.instanceMethod yX0_putAll ∈ lw_good ∧ Cond.selects RX0 yX0_putAll yX0_putAll ∈ lw_good ∧ CkN mX0_putAll 2 := ⟨lw_gi 530 (by decide +kernel) (by decide +kernel), lw_gi 531 (by decide +kernel) (by decide +kernel), ⟨lw_gi 532 (by decide +kernel) (by decide +kernel), lw_gi 64 (by decide +kernel) (by decide +kernel), ⟨rfl, by decide +kernel, by decide +kernel, by decide +kernel⟩, by decide⟩⟩
abbrev mX0_rowLetter : Mth := (RX0, yX0_rowLetter, cX0_rowLetter, 2, (some .int))
theorem hX0_rowLetter : plainName yX0_rowLetter.cls = true ∧ yX0_rowLetter.cls = RX0 ∧ RX0 ≠ RL := ⟨by decide +kernel, rfl, by decide +kernel⟩
theorem kX0_rowLetter : Cond.instanceMethod yX0_rowLetter ∈ lw_good ∧ Cond.selects RX0 yX0_rowLetter yX0_rowLetter ∈ lw_good ∧ CkN mX0_rowLetter 1 := ⟨lw_gi 467 (by decide +kernel) (by decide +kernel), lw_gi 468 (by decide +kernel) (by decide +kernel), ⟨lw_gi 469 (by decide +kernel) (by decide +kernel), lw_gi 64 (by decide +kernel) (by decide +kernel), ⟨rfl, by decide +kernel, by decide +kernel, by decide +kernel⟩, by decide⟩⟩
abbrev mX0_rowSize : Mth := (RX0, yX0_rowSize, cX0_rowSize, 1, (some .int))
theorem hX0_rowSize : plainName yX0_rowSize.cls = true ∧ yX0_rowSize.cls = RX0 ∧ RX0 ≠ RL := ⟨by decide +kernel, rfl, by decide +kernel⟩
theorem kX0_rowSize : Cond.instanceMethod yX0_rowSize ∈ lw_good ∧ Cond.selects RX0 yX0_rowSize yX0_rowSize ∈ lw_good ∧ CkN mX0_rowSize 0 := ⟨lw_gi 450 (by decide +kernel) (by decide +kernel), lw_gi 451 (by decide +kernel) (by decide +kernel), ⟨lw_gi 452 (by decide +kernel) (by decide +kernel), lw_gi 64 (by decide +kernel) (by decide +kernel), ⟨rfl, by decide +kernel, by decide +kernel, by decide +kernel⟩, by decide⟩⟩
abbrev mX0_scalesBy : Mth := (RX0, yX0_scalesBy, cX0_scalesBy, 6, (some .boolean))
theorem hX0_scalesBy : plainName yX0_scalesBy.cls = true ∧ yX0_scalesBy.cls = RX0 ∧ RX0 ≠ RL := ⟨by decide +kernel, rfl, by decide +kernel⟩
theorem kX0_scalesBy : Cond.instanceMethod yX0_scalesBy ∈ lw_good ∧ Cond.selects RX0 yX0_scalesBy yX0_scalesBy ∈ lw_good ∧ CkN mX0_scalesBy 2 := ⟨lw_gi 775 (by decide +kernel) (by decide +kernel), lw_gi 776 (by decide +kernel) (by decide +kernel), ⟨lw_gi 777 (by decide +kernel) (by decide +kernel), lw_gi 64 (by decide +kernel) (by decide +kernel), ⟨rfl, by decide +kernel, by decide +kernel, by decide +kernel⟩, by decide⟩⟩
abbrev mX0_setKind : Mth := (RX0, yX0_setKind, cX0_setKind, 3, none)
theorem hX0_setKind : plainName yX0_setKind.cls = true ∧ yX0_setKind.cls = RX0 ∧ RX0 ≠ RL := ⟨by decide +kernel, rfl, by decide +kernel⟩
theorem kX0_setKind : Cond.instanceMethod yX0_setKind ∈ lw_good ∧ Cond.selects RX0 yX0_setKind yX0_setKind ∈ lw_good ∧ CkN mX0_setKind 2 := ⟨lw_gi 556 (by decide +kernel) (by decide +kernel), lw_gi 557 (by decide +kernel) (by decide +kernel), ⟨lw_gi 558 (by decide +kernel) (by decide +kernel), lw_gi 64 (by decide +kernel) (by decide +kernel), ⟨rfl, by decide +kernel, by decide +kernel, by decide +kernel⟩, by decide⟩⟩
abbrev mX0_setLaw : Mth := (RX0, yX0_setLaw, cX0_setLaw, 3, none)
theorem hX0_setLaw : plainName yX0_setLaw.cls = true ∧ yX0_setLaw.cls = RX0 ∧ RX0 ≠ RL := ⟨by decide +kernel, rfl, by decide +kernel⟩
theorem kX0_setLaw : Cond.instanceMethod yX0_setLaw ∈ lw_good ∧ Cond.selects RX0 yX0_setLaw yX0_setLaw ∈ lw_good ∧ CkN mX0_setLaw 2 := ⟨lw_gi 392 (by decide +kernel) (by decide +kernel), lw_gi 393 (by decide +kernel) (by decide +kernel), ⟨lw_gi 394 (by decide +kernel) (by decide +kernel), lw_gi 64 (by decide +kernel) (by decide +kernel), ⟨rfl, by decide +kernel, by decide +kernel, by decide +kernel⟩, by decide⟩⟩
abbrev mX0_setPart : Mth := (RX0, yX0_setPart, cX0_setPart, 4, none)
theorem hX0_setPart : plainName yX0_setPart.cls = true ∧ yX0_setPart.cls = RX0 ∧ RX0 ≠ RL := ⟨by decide +kernel, rfl, by decide +kernel⟩
theorem kX0_setPart : Cond.instanceMethod yX0_setPart ∈ lw_good ∧ Cond.selects RX0 yX0_setPart yX0_setPart ∈ lw_good ∧ CkN mX0_setPart 3 := ⟨lw_gi 415 (by decide +kernel) (by decide +kernel), lw_gi 416 (by decide +kernel) (by decide +kernel), ⟨lw_gi 417 (by decide +kernel) (by decide +kernel), lw_gi 64 (by decide +kernel) (by decide +kernel), ⟨rfl, by decide +kernel, by decide +kernel, by decide +kernel⟩, by decide⟩⟩
abbrev mX0_setRowLetter : Mth := (RX0, yX0_setRowLetter, cX0_setRowLetter, 3, none)
theorem hX0_setRowLetter : plainName yX0_setRowLetter.cls = true ∧ yX0_setRowLetter.cls = RX0 ∧ RX0 ≠ RL := ⟨by decide +kernel, rfl, by decide +kernel⟩
theorem kX0_setRowLetter : Cond.instanceMethod yX0_setRowLetter ∈ lw_good ∧ Cond.selects RX0 yX0_setRowLetter yX0_setRowLetter ∈ lw_good ∧ CkN mX0_setRowLetter 2 := ⟨lw_gi 446 (by decide +kernel) (by decide +kernel), lw_gi 447 (by decide +kernel) (by decide +kernel), ⟨lw_gi 448 (by decide +kernel) (by decide +kernel), lw_gi 64 (by decide +kernel) (by decide +kernel), ⟨rfl, by decide +kernel, by decide +kernel, by decide +kernel⟩, by decide⟩⟩
abbrev mX0_setWordLetter : Mth := (RX0, yX0_setWordLetter, cX0_setWordLetter, 4, none)
theorem hX0_setWordLetter : plainName yX0_setWordLetter.cls = true ∧ yX0_setWordLetter.cls = RX0 ∧ RX0 ≠ RL := ⟨by decide +kernel, rfl, by decide +kernel⟩
theorem kX0_setWordLetter : Cond.instanceMethod yX0_setWordLetter ∈ lw_good ∧ Cond.selects RX0 yX0_setWordLetter yX0_setWordLetter ∈ lw_good ∧ CkN mX0_setWordLetter 3 := ⟨lw_gi 430 (by decide +kernel) (by decide +kernel), lw_gi 431 (by decide +kernel) (by decide +kernel), ⟨lw_gi 432 (by decide +kernel) (by decide +kernel), lw_gi 64 (by decide +kernel) (by decide +kernel), ⟨rfl, by decide +kernel, by decide +kernel, by decide +kernel⟩, by decide⟩⟩
abbrev mX0_sortCount : Mth := (RX0, yX0_sortCount, cX0_sortCount, 1, (some .int))
theorem hX0_sortCount : plainName yX0_sortCount.cls = true ∧ yX0_sortCount.cls = RX0 ∧ RX0 ≠ RL := ⟨by decide +kernel, rfl, by decide +kernel⟩
theorem kX0_sortCount : Cond.instanceMethod yX0_sortCount ∈ lw_good ∧ Cond.selects RX0 yX0_sortCount yX0_sortCount ∈ lw_good ∧ CkN mX0_sortCount 0 := ⟨lw_gi 407 (by decide +kernel) (by decide +kernel), lw_gi 408 (by decide +kernel) (by decide +kernel), ⟨lw_gi 409 (by decide +kernel) (by decide +kernel), lw_gi 64 (by decide +kernel) (by decide +kernel), ⟨rfl, by decide +kernel, by decide +kernel, by decide +kernel⟩, by decide⟩⟩
abbrev mX0_stands : Mth := (RX0, yX0_stands, cX0_stands, 1, (some .boolean))
theorem hX0_stands : plainName yX0_stands.cls = true ∧ yX0_stands.cls = RX0 ∧ RX0 ≠ RL := ⟨by decide +kernel, rfl, by decide +kernel⟩
theorem kX0_stands : Cond.instanceMethod yX0_stands ∈ lw_good ∧ Cond.selects RX0 yX0_stands yX0_stands ∈ lw_good ∧ CkN mX0_stands 0 := ⟨lw_gi 564 (by decide +kernel) (by decide +kernel), lw_gi 565 (by decide +kernel) (by decide +kernel), ⟨lw_gi 566 (by decide +kernel) (by decide +kernel), lw_gi 64 (by decide +kernel) (by decide +kernel), ⟨rfl, by decide +kernel, by decide +kernel, by decide +kernel⟩, by decide⟩⟩
abbrev mX0_takeAll : Mth := (RX0, yX0_takeAll, cX0_takeAll, 2, none)
theorem hX0_takeAll : plainName yX0_takeAll.cls = true ∧ yX0_takeAll.cls = RX0 ∧ RX0 ≠ RL := ⟨by decide +kernel, rfl, by decide +kernel⟩
theorem kX0_takeAll : Cond.instanceMethod yX0_takeAll ∈ lw_good ∧ Cond.selects RX0 yX0_takeAll yX0_takeAll ∈ lw_good ∧ CkN mX0_takeAll 1 := ⟨lw_gi 480 (by decide +kernel) (by decide +kernel), lw_gi 481 (by decide +kernel) (by decide +kernel), ⟨lw_gi 482 (by decide +kernel) (by decide +kernel), lw_gi 64 (by decide +kernel) (by decide +kernel), ⟨rfl, by decide +kernel, by decide +kernel, by decide +kernel⟩, by decide⟩⟩
abbrev mX0_takeAll_ : Mth := (RX0, yX0_takeAll_, cX0_takeAll_, 3, none)
theorem hX0_takeAll_ : plainName yX0_takeAll_.cls = true ∧ yX0_takeAll_.cls = RX0 ∧ RX0 ≠ RL := ⟨by decide +kernel, rfl, by decide +kernel⟩
theorem kX0_takeAll_ : Cond.instanceMethod yX0_takeAll_ ∈ lw_good ∧ Cond.selects RX0 yX0_takeAll_ yX0_takeAll_ ∈ lw_good ∧ CkN mX0_takeAll_ 2 := ⟨lw_gi 484 (by decide +kernel) (by decide +kernel), lw_gi 485 (by decide +kernel) (by decide +kernel), ⟨lw_gi 486 (by decide +kernel) (by decide +kernel), lw_gi 64 (by decide +kernel) (by decide +kernel), ⟨rfl, by decide +kernel, by decide +kernel, by decide +kernel⟩, by decide⟩⟩
abbrev mX0_timesInImage : Mth := (RX0, yX0_timesInImage, cX0_timesInImage, 5, (some .int))
theorem hX0_timesInImage : plainName yX0_timesInImage.cls = true ∧ yX0_timesInImage.cls = RX0 ∧ RX0 ≠ RL := ⟨by decide +kernel, rfl, by decide +kernel⟩
theorem kX0_timesInImage : Cond.instanceMethod yX0_timesInImage ∈ lw_good ∧ Cond.selects RX0 yX0_timesInImage yX0_timesInImage ∈ lw_good ∧ CkN mX0_timesInImage 2 := ⟨lw_gi 682 (by decide +kernel) (by decide +kernel), lw_gi 683 (by decide +kernel) (by decide +kernel), ⟨lw_gi 684 (by decide +kernel) (by decide +kernel), lw_gi 64 (by decide +kernel) (by decide +kernel), ⟨rfl, by decide +kernel, by decide +kernel, by decide +kernel⟩, by decide⟩⟩
abbrev mX0_wordLetter : Mth := (RX0, yX0_wordLetter, cX0_wordLetter, 3, (some .int))
theorem hX0_wordLetter : plainName yX0_wordLetter.cls = true ∧ yX0_wordLetter.cls = RX0 ∧ RX0 ≠ RL := ⟨by decide +kernel, rfl, by decide +kernel⟩
theorem kX0_wordLetter : Cond.instanceMethod yX0_wordLetter ∈ lw_good ∧ Cond.selects RX0 yX0_wordLetter yX0_wordLetter ∈ lw_good ∧ CkN mX0_wordLetter 2 := ⟨lw_gi 459 (by decide +kernel) (by decide +kernel), lw_gi 460 (by decide +kernel) (by decide +kernel), ⟨lw_gi 461 (by decide +kernel) (by decide +kernel), lw_gi 64 (by decide +kernel) (by decide +kernel), ⟨rfl, by decide +kernel, by decide +kernel, by decide +kernel⟩, by decide⟩⟩
abbrev mX0_wordSize : Mth := (RX0, yX0_wordSize, cX0_wordSize, 2, (some .int))
theorem hX0_wordSize : plainName yX0_wordSize.cls = true ∧ yX0_wordSize.cls = RX0 ∧ RX0 ≠ RL := ⟨by decide +kernel, rfl, by decide +kernel⟩
theorem kX0_wordSize : Cond.instanceMethod yX0_wordSize ∈ lw_good ∧ Cond.selects RX0 yX0_wordSize yX0_wordSize ∈ lw_good ∧ CkN mX0_wordSize 1 := ⟨lw_gi 434 (by decide +kernel) (by decide +kernel), lw_gi 435 (by decide +kernel) (by decide +kernel), ⟨lw_gi 436 (by decide +kernel) (by decide +kernel), lw_gi 64 (by decide +kernel) (by decide +kernel), ⟨rfl, by decide +kernel, by decide +kernel, by decide +kernel⟩, by decide⟩⟩
abbrev mX10_add : Mth := (RX10, yX10_add, cX10_add, 2, none)
theorem hX10_add : plainName yX10_add.cls = true ∧ yX10_add.cls = RX10 ∧ RX10 ≠ RL := ⟨by decide +kernel, rfl, by decide +kernel⟩
theorem kX10_add : Cond.instanceMethod yX10_add ∈ lw_good ∧ Cond.selects RX10 yX10_add yX10_add ∈ lw_good ∧ CkN mX10_add 1 := ⟨lw_gi 350 (by decide +kernel) (by decide +kernel), lw_gi 351 (by decide +kernel) (by decide +kernel), ⟨lw_gi 352 (by decide +kernel) (by decide +kernel), lw_gi 63 (by decide +kernel) (by decide +kernel), ⟨rfl, by decide +kernel, by decide +kernel, by decide +kernel⟩, by decide⟩⟩
abbrev mX10_at : Mth := (RX10, yX10_at, cX10_at, 1, (some .int))
theorem hX10_at : plainName yX10_at.cls = true ∧ yX10_at.cls = RX10 ∧ RX10 ≠ RL := ⟨by decide +kernel, rfl, by decide +kernel⟩
theorem kX10_at : Cond.instanceMethod yX10_at ∈ lw_good ∧ Cond.selects RX10 yX10_at yX10_at ∈ lw_good ∧ CkN mX10_at 0 := ⟨lw_gi 471 (by decide +kernel) (by decide +kernel), lw_gi 472 (by decide +kernel) (by decide +kernel), ⟨lw_gi 473 (by decide +kernel) (by decide +kernel), lw_gi 63 (by decide +kernel) (by decide +kernel), ⟨rfl, by decide +kernel, by decide +kernel, by decide +kernel⟩, by decide⟩⟩
abbrev mX10_clear : Mth := (RX10, yX10_clear, cX10_clear, 1, none)
theorem hX10_clear : plainName yX10_clear.cls = true ∧ yX10_clear.cls = RX10 ∧ RX10 ≠ RL := ⟨by decide +kernel, rfl, by decide +kernel⟩
theorem kX10_clear : Cond.instanceMethod yX10_clear ∈ lw_good ∧ Cond.selects RX10 yX10_clear yX10_clear ∈ lw_good ∧ CkN mX10_clear 0 := ⟨lw_gi 475 (by decide +kernel) (by decide +kernel), lw_gi 476 (by decide +kernel) (by decide +kernel), ⟨lw_gi 477 (by decide +kernel) (by decide +kernel), lw_gi 63 (by decide +kernel) (by decide +kernel), ⟨rfl, by decide +kernel, by decide +kernel, by decide +kernel⟩, by decide⟩⟩
abbrev mX10_isTile : Mth := (RX10, yX10_isTile, cX10_isTile, 1, (some .boolean))
theorem hX10_isTile : plainName yX10_isTile.cls = true ∧ yX10_isTile.cls = RX10 ∧ RX10 ≠ RL := ⟨by decide +kernel, rfl, by decide +kernel⟩
theorem kX10_isTile : Cond.static yX10_isTile ∈ lw_good ∧ CkN mX10_isTile 1 := ⟨lw_gi 419 (by decide +kernel) (by decide +kernel), ⟨lw_gi 420 (by decide +kernel) (by decide +kernel), lw_gi 63 (by decide +kernel) (by decide +kernel), ⟨rfl, by decide +kernel, by decide +kernel, by decide +kernel⟩, by decide⟩⟩
abbrev mX10_leave : Mth := (RX10, yX10_leave, cX10_leave, 2, (some .boolean))
theorem hX10_leave : plainName yX10_leave.cls = true ∧ yX10_leave.cls = RX10 ∧ RX10 ≠ RL := ⟨by decide +kernel, rfl, by decide +kernel⟩
theorem kX10_leave : Cond.instanceMethod yX10_leave ∈ lw_good ∧ Cond.selects RX10 yX10_leave yX10_leave ∈ lw_good ∧ CkN mX10_leave 1 := ⟨lw_gi 379 (by decide +kernel) (by decide +kernel), lw_gi 5 (by decide +kernel) (by decide +kernel), ⟨lw_gi 380 (by decide +kernel) (by decide +kernel), lw_gi 63 (by decide +kernel) (by decide +kernel), ⟨rfl, by decide +kernel, by decide +kernel, by decide +kernel⟩, by decide⟩⟩
abbrev mX10_next : Mth := (RX10, yX10_next, cX10_next, 1, (some .int))
theorem hX10_next : plainName yX10_next.cls = true ∧ yX10_next.cls = RX10 ∧ RX10 ≠ RL := ⟨by decide +kernel, rfl, by decide +kernel⟩
theorem kX10_next : Cond.instanceMethod yX10_next ∈ lw_good ∧ Cond.selects RX10 yX10_next yX10_next ∈ lw_good ∧ CkN mX10_next 0 := ⟨lw_gi 375 (by decide +kernel) (by decide +kernel), lw_gi 4 (by decide +kernel) (by decide +kernel), ⟨lw_gi 376 (by decide +kernel) (by decide +kernel), lw_gi 63 (by decide +kernel) (by decide +kernel), ⟨rfl, by decide +kernel, by decide +kernel, by decide +kernel⟩, by decide⟩⟩
abbrev mX10_nextTile : Mth := (RX10, yX10_nextTile, cX10_nextTile, 2, (some .int))
theorem hX10_nextTile : plainName yX10_nextTile.cls = true ∧ yX10_nextTile.cls = RX10 ∧ RX10 ≠ RL := ⟨by decide +kernel, rfl, by decide +kernel⟩
theorem kX10_nextTile : Cond.instanceMethod yX10_nextTile ∈ lw_good ∧ Cond.selects RX10 yX10_nextTile yX10_nextTile ∈ lw_good ∧ CkN mX10_nextTile 0 := ⟨lw_gi 423 (by decide +kernel) (by decide +kernel), lw_gi 9 (by decide +kernel) (by decide +kernel), ⟨lw_gi 424 (by decide +kernel) (by decide +kernel), lw_gi 63 (by decide +kernel) (by decide +kernel), ⟨rfl, by decide +kernel, by decide +kernel, by decide +kernel⟩, by decide⟩⟩
abbrev mX10_readInto : Mth := (RX10, yX10_readInto, cX10_readInto, 3, (some .int))
theorem hX10_readInto : plainName yX10_readInto.cls = true ∧ yX10_readInto.cls = RX10 ∧ RX10 ≠ RL := ⟨by decide +kernel, rfl, by decide +kernel⟩
theorem kX10_readInto : Cond.instanceMethod yX10_readInto ∈ lw_good ∧ Cond.selects RX10 yX10_readInto yX10_readInto ∈ lw_good ∧ CkN mX10_readInto 1 := ⟨lw_gi 358 (by decide +kernel) (by decide +kernel), lw_gi 359 (by decide +kernel) (by decide +kernel), ⟨lw_gi 360 (by decide +kernel) (by decide +kernel), lw_gi 63 (by decide +kernel) (by decide +kernel), ⟨rfl, by decide +kernel, by decide +kernel, by decide +kernel⟩, by decide⟩⟩
abbrev mX10_size : Mth := (RX10, yX10_size, cX10_size, 1, (some .int))
theorem hX10_size : plainName yX10_size.cls = true ∧ yX10_size.cls = RX10 ∧ RX10 ≠ RL := ⟨by decide +kernel, rfl, by decide +kernel⟩
theorem kX10_size : Cond.instanceMethod yX10_size ∈ lw_good ∧ Cond.selects RX10 yX10_size yX10_size ∈ lw_good ∧ CkN mX10_size 0 := ⟨lw_gi 345 (by decide +kernel) (by decide +kernel), lw_gi 346 (by decide +kernel) (by decide +kernel), ⟨lw_gi 347 (by decide +kernel) (by decide +kernel), lw_gi 63 (by decide +kernel) (by decide +kernel), ⟨rfl, by decide +kernel, by decide +kernel, by decide +kernel⟩, by decide⟩⟩
abbrev mX10_takeByte : Mth := (RX10, yX10_takeByte, cX10_takeByte, 2, (some .boolean))
theorem hX10_takeByte : plainName yX10_takeByte.cls = true ∧ yX10_takeByte.cls = RX10 ∧ RX10 ≠ RL := ⟨by decide +kernel, rfl, by decide +kernel⟩
theorem kX10_takeByte : Cond.instanceMethod yX10_takeByte ∈ lw_good ∧ Cond.selects RX10 yX10_takeByte yX10_takeByte ∈ lw_good ∧ CkN mX10_takeByte 1 := ⟨lw_gi 371 (by decide +kernel) (by decide +kernel), lw_gi 3 (by decide +kernel) (by decide +kernel), ⟨lw_gi 372 (by decide +kernel) (by decide +kernel), lw_gi 63 (by decide +kernel) (by decide +kernel), ⟨rfl, by decide +kernel, by decide +kernel, by decide +kernel⟩, by decide⟩⟩
abbrev mX10_takeLaw : Mth := (RX10, yX10_takeLaw, cX10_takeLaw, 2, (some .boolean))
theorem hX10_takeLaw : plainName yX10_takeLaw.cls = true ∧ yX10_takeLaw.cls = RX10 ∧ RX10 ≠ RL := ⟨by decide +kernel, rfl, by decide +kernel⟩
theorem kX10_takeLaw : Cond.instanceMethod yX10_takeLaw ∈ lw_good ∧ Cond.selects RX10 yX10_takeLaw yX10_takeLaw ∈ lw_good ∧ CkN mX10_takeLaw 1 := ⟨lw_gi 367 (by decide +kernel) (by decide +kernel), lw_gi 2 (by decide +kernel) (by decide +kernel), ⟨lw_gi 368 (by decide +kernel) (by decide +kernel), lw_gi 63 (by decide +kernel) (by decide +kernel), ⟨rfl, by decide +kernel, by decide +kernel, by decide +kernel⟩, by decide⟩⟩
abbrev mX10_takeNumber : Mth := (RX10, yX10_takeNumber, cX10_takeNumber, 6, (some .boolean))
theorem hX10_takeNumber : plainName yX10_takeNumber.cls = true ∧ yX10_takeNumber.cls = RX10 ∧ RX10 ≠ RL := ⟨by decide +kernel, rfl, by decide +kernel⟩
theorem kX10_takeNumber : Cond.instanceMethod yX10_takeNumber ∈ lw_good ∧ Cond.selects RX10 yX10_takeNumber yX10_takeNumber ∈ lw_good ∧ CkN mX10_takeNumber 2 := ⟨lw_gi 389 (by decide +kernel) (by decide +kernel), lw_gi 6 (by decide +kernel) (by decide +kernel), ⟨lw_gi 390 (by decide +kernel) (by decide +kernel), lw_gi 63 (by decide +kernel) (by decide +kernel), ⟨rfl, by decide +kernel, by decide +kernel, by decide +kernel⟩, by decide⟩⟩
abbrev mX10_takeSort : Mth := (RX10, yX10_takeSort, cX10_takeSort, 5, (some .boolean))
theorem hX10_takeSort : plainName yX10_takeSort.cls = true ∧ yX10_takeSort.cls = RX10 ∧ RX10 ≠ RL := ⟨by decide +kernel, rfl, by decide +kernel⟩
theorem kX10_takeSort : Cond.instanceMethod yX10_takeSort ∈ lw_good ∧ Cond.selects RX10 yX10_takeSort yX10_takeSort ∈ lw_good ∧ CkN mX10_takeSort 1 := ⟨lw_gi 401 (by decide +kernel) (by decide +kernel), lw_gi 8 (by decide +kernel) (by decide +kernel), ⟨lw_gi 402 (by decide +kernel) (by decide +kernel), lw_gi 63 (by decide +kernel) (by decide +kernel), ⟨rfl, by decide +kernel, by decide +kernel, by decide +kernel⟩, by decide⟩⟩
abbrev mX10_takeSorts : Mth := (RX10, yX10_takeSorts, cX10_takeSorts, 3, (some .boolean))
theorem hX10_takeSorts : plainName yX10_takeSorts.cls = true ∧ yX10_takeSorts.cls = RX10 ∧ RX10 ≠ RL := ⟨by decide +kernel, rfl, by decide +kernel⟩
theorem kX10_takeSorts : Cond.instanceMethod yX10_takeSorts ∈ lw_good ∧ Cond.selects RX10 yX10_takeSorts yX10_takeSorts ∈ lw_good ∧ CkN mX10_takeSorts 1 := ⟨lw_gi 397 (by decide +kernel) (by decide +kernel), lw_gi 7 (by decide +kernel) (by decide +kernel), ⟨lw_gi 398 (by decide +kernel) (by decide +kernel), lw_gi 63 (by decide +kernel) (by decide +kernel), ⟨rfl, by decide +kernel, by decide +kernel, by decide +kernel⟩, by decide⟩⟩
abbrev mX10_takeTheRow : Mth := (RX10, yX10_takeTheRow, cX10_takeTheRow, 3, (some .boolean))
theorem hX10_takeTheRow : plainName yX10_takeTheRow.cls = true ∧ yX10_takeTheRow.cls = RX10 ∧ RX10 ≠ RL := ⟨by decide +kernel, rfl, by decide +kernel⟩
theorem kX10_takeTheRow : Cond.instanceMethod yX10_takeTheRow ∈ lw_good ∧ Cond.selects RX10 yX10_takeTheRow yX10_takeTheRow ∈ lw_good ∧ CkN mX10_takeTheRow 1 := ⟨lw_gi 439 (by decide +kernel) (by decide +kernel), lw_gi 10 (by decide +kernel) (by decide +kernel), ⟨lw_gi 440 (by decide +kernel) (by decide +kernel), lw_gi 63 (by decide +kernel) (by decide +kernel), ⟨rfl, by decide +kernel, by decide +kernel, by decide +kernel⟩, by decide⟩⟩
abbrev mX11_all : Mth := (RX11, yX11_all, cX11_all, 3, (some .long))
theorem hX11_all : plainName yX11_all.cls = true ∧ yX11_all.cls = RX11 ∧ RX11 ≠ RL := ⟨by decide +kernel, rfl, by decide +kernel⟩
theorem kX11_all : Cond.instanceMethod yX11_all ∈ lw_good ∧ Cond.selects RX11 yX11_all yX11_all ∈ lw_good ∧ CkN mX11_all 2 := ⟨lw_gi 726 (by decide +kernel) (by decide +kernel), lw_gi 727 (by decide +kernel) (by decide +kernel), ⟨lw_gi 728 (by decide +kernel) (by decide +kernel), lw_gi 61 (by decide +kernel) (by decide +kernel), ⟨rfl, by decide +kernel, by decide +kernel, by decide +kernel⟩, by decide⟩⟩
abbrev mX11_as : Mth := (RX11, yX11_as, cX11_as, 3, (some .int))
theorem hX11_as : plainName yX11_as.cls = true ∧ yX11_as.cls = RX11 ∧ RX11 ≠ RL := ⟨by decide +kernel, rfl, by decide +kernel⟩
theorem kX11_as : Cond.instanceMethod yX11_as ∈ lw_good ∧ Cond.selects RX11 yX11_as yX11_as ∈ lw_good ∧ CkN mX11_as 2 := ⟨lw_gi 919 (by decide +kernel) (by decide +kernel), lw_gi 920 (by decide +kernel) (by decide +kernel), ⟨lw_gi 921 (by decide +kernel) (by decide +kernel), lw_gi 61 (by decide +kernel) (by decide +kernel), ⟨rfl, by decide +kernel, by decide +kernel, by decide +kernel⟩, by decide⟩⟩
abbrev mX11_ask : Mth := (RX11, yX11_ask, cX11_ask, 3, (some .int))
theorem hX11_ask : plainName yX11_ask.cls = true ∧ yX11_ask.cls = RX11 ∧ RX11 ≠ RL := ⟨by decide +kernel, rfl, by decide +kernel⟩
theorem kX11_ask : Cond.instanceMethod yX11_ask ∈ lw_good ∧ Cond.selects RX11 yX11_ask yX11_ask ∈ lw_good ∧ CkN mX11_ask 2 := ⟨lw_gi 928 (by decide +kernel) (by decide +kernel), lw_gi 929 (by decide +kernel) (by decide +kernel), ⟨lw_gi 930 (by decide +kernel) (by decide +kernel), lw_gi 61 (by decide +kernel) (by decide +kernel), ⟨rfl, by decide +kernel, by decide +kernel, by decide +kernel⟩, by decide⟩⟩
abbrev mX11_back : Mth := (RX11, yX11_back, cX11_back, 6, (some .int))
theorem hX11_back : plainName yX11_back.cls = true ∧ yX11_back.cls = RX11 ∧ RX11 ≠ RL := ⟨by decide +kernel, rfl, by decide +kernel⟩
theorem kX11_back : Cond.instanceMethod yX11_back ∈ lw_good ∧ Cond.selects RX11 yX11_back yX11_back ∈ lw_good ∧ CkN mX11_back 3 := ⟨lw_gi 785 (by decide +kernel) (by decide +kernel), lw_gi 786 (by decide +kernel) (by decide +kernel), ⟨lw_gi 787 (by decide +kernel) (by decide +kernel), lw_gi 61 (by decide +kernel) (by decide +kernel), ⟨rfl, by decide +kernel, by decide +kernel, by decide +kernel⟩, by decide⟩⟩
abbrev mX11_become : Mth := (RX11, yX11_become, cX11_become, 4, (some .int))
theorem hX11_become : plainName yX11_become.cls = true ∧ yX11_become.cls = RX11 ∧ RX11 ≠ RL := ⟨by decide +kernel, rfl, by decide +kernel⟩
theorem kX11_become : Cond.instanceMethod yX11_become ∈ lw_good ∧ Cond.selects RX11 yX11_become yX11_become ∈ lw_good ∧ CkN mX11_become 2 := ⟨lw_gi 548 (by decide +kernel) (by decide +kernel), lw_gi 549 (by decide +kernel) (by decide +kernel), ⟨lw_gi 550 (by decide +kernel) (by decide +kernel), lw_gi 61 (by decide +kernel) (by decide +kernel), ⟨rfl, by decide +kernel, by decide +kernel, by decide +kernel⟩, by decide⟩⟩
abbrev mX11_begin : Mth := (RX11, yX11_begin, cX11_begin, 6, (some .int))
theorem hX11_begin : plainName yX11_begin.cls = true ∧ yX11_begin.cls = RX11 ∧ RX11 ≠ RL := ⟨by decide +kernel, rfl, by decide +kernel⟩
theorem kX11_begin : Cond.instanceMethod yX11_begin ∈ lw_good ∧ Cond.selects RX11 yX11_begin yX11_begin ∈ lw_good ∧ CkN mX11_begin 2 := ⟨lw_gi 575 (by decide +kernel) (by decide +kernel), lw_gi 576 (by decide +kernel) (by decide +kernel), ⟨lw_gi 577 (by decide +kernel) (by decide +kernel), lw_gi 61 (by decide +kernel) (by decide +kernel), ⟨rfl, by decide +kernel, by decide +kernel, by decide +kernel⟩, by decide⟩⟩
abbrev mX11_bitsThatTell : Mth := (RX11, yX11_bitsThatTell, cX11_bitsThatTell, 11, (some .int))
theorem hX11_bitsThatTell : plainName yX11_bitsThatTell.cls = true ∧ yX11_bitsThatTell.cls = RX11 ∧ RX11 ≠ RL := ⟨by decide +kernel, rfl, by decide +kernel⟩
theorem kX11_bitsThatTell : Cond.instanceMethod yX11_bitsThatTell ∈ lw_good ∧ Cond.selects RX11 yX11_bitsThatTell yX11_bitsThatTell ∈ lw_good ∧ CkN mX11_bitsThatTell 6 := ⟨lw_gi 829 (by decide +kernel) (by decide +kernel), lw_gi 21 (by decide +kernel) (by decide +kernel), ⟨lw_gi 830 (by decide +kernel) (by decide +kernel), lw_gi 61 (by decide +kernel) (by decide +kernel), ⟨rfl, by decide +kernel, by decide +kernel, by decide +kernel⟩, by decide⟩⟩
abbrev mX11_book : Mth := (RX11, yX11_book, cX11_book, 3, (some .int))
theorem hX11_book : plainName yX11_book.cls = true ∧ yX11_book.cls = RX11 ∧ RX11 ≠ RL := ⟨by decide +kernel, rfl, by decide +kernel⟩
theorem kX11_book : Cond.instanceMethod yX11_book ∈ lw_good ∧ Cond.selects RX11 yX11_book yX11_book ∈ lw_good ∧ CkN mX11_book 0 := ⟨lw_gi 354 (by decide +kernel) (by decide +kernel), lw_gi 355 (by decide +kernel) (by decide +kernel), ⟨lw_gi 356 (by decide +kernel) (by decide +kernel), lw_gi 61 (by decide +kernel) (by decide +kernel), ⟨rfl, by decide +kernel, by decide +kernel, by decide +kernel⟩, by decide⟩⟩
abbrev mX11_changeByDraw : Mth := (RX11, yX11_changeByDraw, cX11_changeByDraw, 5, none)
theorem hX11_changeByDraw : plainName yX11_changeByDraw.cls = true ∧ yX11_changeByDraw.cls = RX11 ∧ RX11 ≠ RL := ⟨by decide +kernel, rfl, by decide +kernel⟩
theorem kX11_changeByDraw : Cond.instanceMethod yX11_changeByDraw ∈ lw_good ∧ Cond.selects RX11 yX11_changeByDraw yX11_changeByDraw ∈ lw_good ∧ CkN mX11_changeByDraw 1 := ⟨lw_gi 888 (by decide +kernel) (by decide +kernel), lw_gi 26 (by decide +kernel) (by decide +kernel), ⟨lw_gi 889 (by decide +kernel) (by decide +kernel), lw_gi 61 (by decide +kernel) (by decide +kernel), ⟨rfl, by decide +kernel, by decide +kernel, by decide +kernel⟩, by decide⟩⟩
abbrev mX11_copy : Mth := (RX11, yX11_copy, cX11_copy, 6, (some .int))
theorem hX11_copy : plainName yX11_copy.cls = true ∧ yX11_copy.cls = RX11 ∧ RX11 ≠ RL := ⟨by decide +kernel, rfl, by decide +kernel⟩
theorem kX11_copy : Cond.instanceMethod yX11_copy ∈ lw_good ∧ Cond.selects RX11 yX11_copy yX11_copy ∈ lw_good ∧ CkN mX11_copy 5 := ⟨lw_gi 314 (by decide +kernel) (by decide +kernel), lw_gi 315 (by decide +kernel) (by decide +kernel), ⟨lw_gi 316 (by decide +kernel) (by decide +kernel), lw_gi 61 (by decide +kernel) (by decide +kernel), ⟨rfl, by decide +kernel, by decide +kernel, by decide +kernel⟩, by decide⟩⟩
abbrev mX11_count : Mth := (RX11, yX11_count, cX11_count, 2, (some .int))
theorem hX11_count : plainName yX11_count.cls = true ∧ yX11_count.cls = RX11 ∧ RX11 ≠ RL := ⟨by decide +kernel, rfl, by decide +kernel⟩
theorem kX11_count : Cond.instanceMethod yX11_count ∈ lw_good ∧ Cond.selects RX11 yX11_count yX11_count ∈ lw_good ∧ CkN mX11_count 1 := ⟨lw_gi 969 (by decide +kernel) (by decide +kernel), lw_gi 970 (by decide +kernel) (by decide +kernel), ⟨lw_gi 971 (by decide +kernel) (by decide +kernel), lw_gi 61 (by decide +kernel) (by decide +kernel), ⟨rfl, by decide +kernel, by decide +kernel, by decide +kernel⟩, by decide⟩⟩
abbrev mX11_drawn : Mth := (RX11, yX11_drawn, cX11_drawn, 10, (some .int))
theorem hX11_drawn : plainName yX11_drawn.cls = true ∧ yX11_drawn.cls = RX11 ∧ RX11 ≠ RL := ⟨by decide +kernel, rfl, by decide +kernel⟩
theorem kX11_drawn : Cond.instanceMethod yX11_drawn ∈ lw_good ∧ Cond.selects RX11 yX11_drawn yX11_drawn ∈ lw_good ∧ CkN mX11_drawn 3 := ⟨lw_gi 879 (by decide +kernel) (by decide +kernel), lw_gi 880 (by decide +kernel) (by decide +kernel), ⟨lw_gi 881 (by decide +kernel) (by decide +kernel), lw_gi 61 (by decide +kernel) (by decide +kernel), ⟨rfl, by decide +kernel, by decide +kernel, by decide +kernel⟩, by decide⟩⟩
abbrev mX11_drop : Mth := (RX11, yX11_drop, cX11_drop, 3, (some .int))
theorem hX11_drop : plainName yX11_drop.cls = true ∧ yX11_drop.cls = RX11 ∧ RX11 ≠ RL := ⟨by decide +kernel, rfl, by decide +kernel⟩
theorem kX11_drop : Cond.instanceMethod yX11_drop ∈ lw_good ∧ Cond.selects RX11 yX11_drop yX11_drop ∈ lw_good ∧ CkN mX11_drop 1 := ⟨lw_gi 333 (by decide +kernel) (by decide +kernel), lw_gi 334 (by decide +kernel) (by decide +kernel), ⟨lw_gi 335 (by decide +kernel) (by decide +kernel), lw_gi 61 (by decide +kernel) (by decide +kernel), ⟨rfl, by decide +kernel, by decide +kernel, by decide +kernel⟩, by decide⟩⟩
abbrev mX11_fault : Mth := (RX11, yX11_fault, cX11_fault, 1, (some .int))
theorem hX11_fault : plainName yX11_fault.cls = true ∧ yX11_fault.cls = RX11 ∧ RX11 ≠ RL := ⟨by decide +kernel, rfl, by decide +kernel⟩
theorem kX11_fault : Cond.instanceMethod yX11_fault ∈ lw_good ∧ Cond.selects RX11 yX11_fault yX11_fault ∈ lw_good ∧ CkN mX11_fault 0 := ⟨lw_gi 494 (by decide +kernel) (by decide +kernel), lw_gi 495 (by decide +kernel) (by decide +kernel), ⟨lw_gi 496 (by decide +kernel) (by decide +kernel), lw_gi 61 (by decide +kernel) (by decide +kernel), ⟨rfl, by decide +kernel, by decide +kernel, by decide +kernel⟩, by decide⟩⟩
abbrev mX11_feed : Mth := (RX11, yX11_feed, cX11_feed, 2, (some .int))
theorem hX11_feed : plainName yX11_feed.cls = true ∧ yX11_feed.cls = RX11 ∧ RX11 ≠ RL := ⟨by decide +kernel, rfl, by decide +kernel⟩
theorem kX11_feed : Cond.instanceMethod yX11_feed ∈ lw_good ∧ Cond.selects RX11 yX11_feed yX11_feed ∈ lw_good ∧ CkN mX11_feed 1 := ⟨lw_gi 341 (by decide +kernel) (by decide +kernel), lw_gi 342 (by decide +kernel) (by decide +kernel), ⟨lw_gi 343 (by decide +kernel) (by decide +kernel), lw_gi 61 (by decide +kernel) (by decide +kernel), ⟨rfl, by decide +kernel, by decide +kernel, by decide +kernel⟩, by decide⟩⟩
abbrev mX11_found : Mth := (RX11, yX11_found, cX11_found, 2, (some .int))
theorem hX11_found : plainName yX11_found.cls = true ∧ yX11_found.cls = RX11 ∧ RX11 ≠ RL := ⟨by decide +kernel, rfl, by decide +kernel⟩
theorem kX11_found : Cond.instanceMethod yX11_found ∈ lw_good ∧ Cond.selects RX11 yX11_found yX11_found ∈ lw_good ∧ CkN mX11_found 1 := ⟨lw_gi 286 (by decide +kernel) (by decide +kernel), lw_gi 0 (by decide +kernel) (by decide +kernel), ⟨lw_gi 287 (by decide +kernel) (by decide +kernel), lw_gi 61 (by decide +kernel) (by decide +kernel), ⟨rfl, by decide +kernel, by decide +kernel, by decide +kernel⟩, by decide⟩⟩
abbrev mX11_grown : Mth := (RX11, yX11_grown, cX11_grown, 3, (some .int))
theorem hX11_grown : plainName yX11_grown.cls = true ∧ yX11_grown.cls = RX11 ∧ RX11 ≠ RL := ⟨by decide +kernel, rfl, by decide +kernel⟩
theorem kX11_grown : Cond.instanceMethod yX11_grown ∈ lw_good ∧ Cond.selects RX11 yX11_grown yX11_grown ∈ lw_good ∧ CkN mX11_grown 2 := ⟨lw_gi 637 (by decide +kernel) (by decide +kernel), lw_gi 638 (by decide +kernel) (by decide +kernel), ⟨lw_gi 639 (by decide +kernel) (by decide +kernel), lw_gi 61 (by decide +kernel) (by decide +kernel), ⟨rfl, by decide +kernel, by decide +kernel, by decide +kernel⟩, by decide⟩⟩
abbrev mX11_image : Mth := (RX11, yX11_image, cX11_image, 2, (some .int))
theorem hX11_image : plainName yX11_image.cls = true ∧ yX11_image.cls = RX11 ∧ RX11 ≠ RL := ⟨by decide +kernel, rfl, by decide +kernel⟩
theorem kX11_image : Cond.instanceMethod yX11_image ∈ lw_good ∧ Cond.selects RX11 yX11_image yX11_image ∈ lw_good ∧ CkN mX11_image 1 := ⟨lw_gi 892 (by decide +kernel) (by decide +kernel), lw_gi 893 (by decide +kernel) (by decide +kernel), ⟨lw_gi 894 (by decide +kernel) (by decide +kernel), lw_gi 61 (by decide +kernel) (by decide +kernel), ⟨rfl, by decide +kernel, by decide +kernel, by decide +kernel⟩, by decide⟩⟩
abbrev mX11_imageLetterOrNone : Mth := (RX11, yX11_imageLetterOrNone, cX11_imageLetterOrNone, 3, (some .int))
theorem hX11_imageLetterOrNone : plainName yX11_imageLetterOrNone.cls = true ∧ yX11_imageLetterOrNone.cls = RX11 ∧ RX11 ≠ RL := ⟨by decide +kernel, rfl, by decide +kernel⟩
theorem kX11_imageLetterOrNone : Cond.instanceMethod yX11_imageLetterOrNone ∈ lw_good ∧ Cond.selects RX11 yX11_imageLetterOrNone yX11_imageLetterOrNone ∈ lw_good ∧ CkN mX11_imageLetterOrNone 2 := ⟨lw_gi 628 (by decide +kernel) (by decide +kernel), lw_gi 14 (by decide +kernel) (by decide +kernel), ⟨lw_gi 629 (by decide +kernel) (by decide +kernel), lw_gi 61 (by decide +kernel) (by decide +kernel), ⟨rfl, by decide +kernel, by decide +kernel, by decide +kernel⟩, by decide⟩⟩
abbrev mX11_inflate : Mth := (RX11, yX11_inflate, cX11_inflate, 2, (some .int))
theorem hX11_inflate : plainName yX11_inflate.cls = true ∧ yX11_inflate.cls = RX11 ∧ RX11 ≠ RL := ⟨by decide +kernel, rfl, by decide +kernel⟩
theorem kX11_inflate : Cond.instanceMethod yX11_inflate ∈ lw_good ∧ Cond.selects RX11 yX11_inflate yX11_inflate ∈ lw_good ∧ CkN mX11_inflate 0 := ⟨lw_gi 585 (by decide +kernel) (by decide +kernel), lw_gi 586 (by decide +kernel) (by decide +kernel), ⟨lw_gi 587 (by decide +kernel) (by decide +kernel), lw_gi 61 (by decide +kernel) (by decide +kernel), ⟨rfl, by decide +kernel, by decide +kernel, by decide +kernel⟩, by decide⟩⟩
abbrev mX11_isQuiet : Mth := (RX11, yX11_isQuiet, cX11_isQuiet, 5, (some .boolean))
theorem hX11_isQuiet : plainName yX11_isQuiet.cls = true ∧ yX11_isQuiet.cls = RX11 ∧ RX11 ≠ RL := ⟨by decide +kernel, rfl, by decide +kernel⟩
theorem kX11_isQuiet : Cond.instanceMethod yX11_isQuiet ∈ lw_good ∧ Cond.selects RX11 yX11_isQuiet yX11_isQuiet ∈ lw_good ∧ CkN mX11_isQuiet 2 := ⟨lw_gi 843 (by decide +kernel) (by decide +kernel), lw_gi 23 (by decide +kernel) (by decide +kernel), ⟨lw_gi 844 (by decide +kernel) (by decide +kernel), lw_gi 61 (by decide +kernel) (by decide +kernel), ⟨rfl, by decide +kernel, by decide +kernel, by decide +kernel⟩, by decide⟩⟩
abbrev mX11_kind : Mth := (RX11, yX11_kind, cX11_kind, 2, (some .int))
theorem hX11_kind : plainName yX11_kind.cls = true ∧ yX11_kind.cls = RX11 ∧ RX11 ≠ RL := ⟨by decide +kernel, rfl, by decide +kernel⟩
theorem kX11_kind : Cond.instanceMethod yX11_kind ∈ lw_good ∧ Cond.selects RX11 yX11_kind yX11_kind ∈ lw_good ∧ CkN mX11_kind 1 := ⟨lw_gi 915 (by decide +kernel) (by decide +kernel), lw_gi 916 (by decide +kernel) (by decide +kernel), ⟨lw_gi 917 (by decide +kernel) (by decide +kernel), lw_gi 61 (by decide +kernel) (by decide +kernel), ⟨rfl, by decide +kernel, by decide +kernel, by decide +kernel⟩, by decide⟩⟩
abbrev mX11_length : Mth := (RX11, yX11_length, cX11_length, 5, (some .int))
theorem hX11_length : plainName yX11_length.cls = true ∧ yX11_length.cls = RX11 ∧ RX11 ≠ RL := ⟨by decide +kernel, rfl, by decide +kernel⟩
theorem kX11_length : Cond.instanceMethod yX11_length ∈ lw_good ∧ Cond.selects RX11 yX11_length yX11_length ∈ lw_good ∧ CkN mX11_length 3 := ⟨lw_gi 539 (by decide +kernel) (by decide +kernel), lw_gi 540 (by decide +kernel) (by decide +kernel), ⟨lw_gi 541 (by decide +kernel) (by decide +kernel), lw_gi 61 (by decide +kernel) (by decide +kernel), ⟨rfl, by decide +kernel, by decide +kernel, by decide +kernel⟩, by decide⟩⟩
abbrev mX11_letter : Mth := (RX11, yX11_letter, cX11_letter, 2, (some .int))
theorem hX11_letter : plainName yX11_letter.cls = true ∧ yX11_letter.cls = RX11 ∧ RX11 ≠ RL := ⟨by decide +kernel, rfl, by decide +kernel⟩
theorem kX11_letter : Cond.instanceMethod yX11_letter ∈ lw_good ∧ Cond.selects RX11 yX11_letter yX11_letter ∈ lw_good ∧ CkN mX11_letter 1 := ⟨lw_gi 632 (by decide +kernel) (by decide +kernel), lw_gi 633 (by decide +kernel) (by decide +kernel), ⟨lw_gi 634 (by decide +kernel) (by decide +kernel), lw_gi 61 (by decide +kernel) (by decide +kernel), ⟨rfl, by decide +kernel, by decide +kernel, by decide +kernel⟩, by decide⟩⟩
abbrev mX11_lettersFinding : Mth := (RX11, yX11_lettersFinding, cX11_lettersFinding, 4, (some .int))
theorem hX11_lettersFinding : plainName yX11_lettersFinding.cls = true ∧ yX11_lettersFinding.cls = RX11 ∧ RX11 ≠ RL := ⟨by decide +kernel, rfl, by decide +kernel⟩
theorem kX11_lettersFinding : Cond.instanceMethod yX11_lettersFinding ∈ lw_good ∧ Cond.selects RX11 yX11_lettersFinding yX11_lettersFinding ∈ lw_good ∧ CkN mX11_lettersFinding 2 := ⟨lw_gi 518 (by decide +kernel) (by decide +kernel), lw_gi 11 (by decide +kernel) (by decide +kernel), ⟨lw_gi 519 (by decide +kernel) (by decide +kernel), lw_gi 61 (by decide +kernel) (by decide +kernel), ⟨rfl, by decide +kernel, by decide +kernel, by decide +kernel⟩, by decide⟩⟩
abbrev mX11_lost : Mth := (RX11, yX11_lost, cX11_lost, 5, (some .long))
theorem hX11_lost : plainName yX11_lost.cls = true ∧ yX11_lost.cls = RX11 ∧ RX11 ≠ RL := ⟨by decide +kernel, rfl, by decide +kernel⟩
theorem kX11_lost : Cond.instanceMethod yX11_lost ∈ lw_good ∧ Cond.selects RX11 yX11_lost yX11_lost ∈ lw_good ∧ CkN mX11_lost 4 := ⟨lw_gi 855 (by decide +kernel) (by decide +kernel), lw_gi 856 (by decide +kernel) (by decide +kernel), ⟨lw_gi 857 (by decide +kernel) (by decide +kernel), lw_gi 61 (by decide +kernel) (by decide +kernel), ⟨rfl, by decide +kernel, by decide +kernel, by decide +kernel⟩, by decide⟩⟩
abbrev mX11_numbers : Mth := (RX11, yX11_numbers, cX11_numbers, 3, (some .long))
theorem hX11_numbers : plainName yX11_numbers.cls = true ∧ yX11_numbers.cls = RX11 ∧ RX11 ≠ RL := ⟨by decide +kernel, rfl, by decide +kernel⟩
theorem kX11_numbers : Cond.instanceMethod yX11_numbers ∈ lw_good ∧ Cond.selects RX11 yX11_numbers yX11_numbers ∈ lw_good ∧ CkN mX11_numbers 2 := ⟨lw_gi 669 (by decide +kernel) (by decide +kernel), lw_gi 670 (by decide +kernel) (by decide +kernel), ⟨lw_gi 671 (by decide +kernel) (by decide +kernel), lw_gi 61 (by decide +kernel) (by decide +kernel), ⟨rfl, by decide +kernel, by decide +kernel, by decide +kernel⟩, by decide⟩⟩
abbrev mX11_orOver : Mth := (RX11, yX11_orOver, cX11_orOver, 3, (some .long))
theorem hX11_orOver : plainName yX11_orOver.cls = true ∧ yX11_orOver.cls = RX11 ∧ RX11 ≠ RL := ⟨by decide +kernel, rfl, by decide +kernel⟩
theorem kX11_orOver : Cond.instanceMethod yX11_orOver ∈ lw_good ∧ Cond.selects RX11 yX11_orOver yX11_orOver ∈ lw_good ∧ CkN mX11_orOver 1 := ⟨lw_gi 709 (by decide +kernel) (by decide +kernel), lw_gi 17 (by decide +kernel) (by decide +kernel), ⟨lw_gi 710 (by decide +kernel) (by decide +kernel), lw_gi 61 (by decide +kernel) (by decide +kernel), ⟨rfl, by decide +kernel, by decide +kernel, by decide +kernel⟩, by decide⟩⟩
abbrev mX11_origin : Mth := (RX11, yX11_origin, cX11_origin, 4, (some .int))
theorem hX11_origin : plainName yX11_origin.cls = true ∧ yX11_origin.cls = RX11 ∧ RX11 ≠ RL := ⟨by decide +kernel, rfl, by decide +kernel⟩
theorem kX11_origin : Cond.instanceMethod yX11_origin ∈ lw_good ∧ Cond.selects RX11 yX11_origin yX11_origin ∈ lw_good ∧ CkN mX11_origin 3 := ⟨lw_gi 644 (by decide +kernel) (by decide +kernel), lw_gi 645 (by decide +kernel) (by decide +kernel), ⟨lw_gi 646 (by decide +kernel) (by decide +kernel), lw_gi 61 (by decide +kernel) (by decide +kernel), ⟨rfl, by decide +kernel, by decide +kernel, by decide +kernel⟩, by decide⟩⟩
abbrev mX11_place : Mth := (RX11, yX11_place, cX11_place, 4, (some .long))
theorem hX11_place : plainName yX11_place.cls = true ∧ yX11_place.cls = RX11 ∧ RX11 ≠ RL := ⟨by decide +kernel, rfl, by decide +kernel⟩
theorem kX11_place : Cond.instanceMethod yX11_place ∈ lw_good ∧ Cond.selects RX11 yX11_place yX11_place ∈ lw_good ∧ CkN mX11_place 3 := ⟨lw_gi 652 (by decide +kernel) (by decide +kernel), lw_gi 653 (by decide +kernel) (by decide +kernel), ⟨lw_gi 654 (by decide +kernel) (by decide +kernel), lw_gi 61 (by decide +kernel) (by decide +kernel), ⟨rfl, by decide +kernel, by decide +kernel, by decide +kernel⟩, by decide⟩⟩
abbrev mX11_quiet : Mth := (RX11, yX11_quiet, cX11_quiet, 4, (some .int))
theorem hX11_quiet : plainName yX11_quiet.cls = true ∧ yX11_quiet.cls = RX11 ∧ RX11 ≠ RL := ⟨by decide +kernel, rfl, by decide +kernel⟩
theorem kX11_quiet : Cond.instanceMethod yX11_quiet ∈ lw_good ∧ Cond.selects RX11 yX11_quiet yX11_quiet ∈ lw_good ∧ CkN mX11_quiet 0 := ⟨lw_gi 838 (by decide +kernel) (by decide +kernel), lw_gi 839 (by decide +kernel) (by decide +kernel), ⟨lw_gi 840 (by decide +kernel) (by decide +kernel), lw_gi 61 (by decide +kernel) (by decide +kernel), ⟨rfl, by decide +kernel, by decide +kernel, by decide +kernel⟩, by decide⟩⟩
abbrev mX11_restore : Mth := (RX11, yX11_restore, cX11_restore, 2, (some .int))
theorem hX11_restore : plainName yX11_restore.cls = true ∧ yX11_restore.cls = RX11 ∧ RX11 ≠ RL := ⟨by decide +kernel, rfl, by decide +kernel⟩
theorem kX11_restore : Cond.instanceMethod yX11_restore ∈ lw_good ∧ Cond.selects RX11 yX11_restore yX11_restore ∈ lw_good ∧ CkN mX11_restore 1 := ⟨lw_gi 903 (by decide +kernel) (by decide +kernel), lw_gi 904 (by decide +kernel) (by decide +kernel), ⟨lw_gi 905 (by decide +kernel) (by decide +kernel), lw_gi 61 (by decide +kernel) (by decide +kernel), ⟨rfl, by decide +kernel, by decide +kernel, by decide +kernel⟩, by decide⟩⟩
abbrev mX11_root : Mth := (RX11, yX11_root, cX11_root, 4, (some .int))
theorem hX11_root : plainName yX11_root.cls = true ∧ yX11_root.cls = RX11 ∧ RX11 ≠ RL := ⟨by decide +kernel, rfl, by decide +kernel⟩
theorem kX11_root : Cond.instanceMethod yX11_root ∈ lw_good ∧ Cond.selects RX11 yX11_root yX11_root ∈ lw_good ∧ CkN mX11_root 2 := ⟨lw_gi 560 (by decide +kernel) (by decide +kernel), lw_gi 561 (by decide +kernel) (by decide +kernel), ⟨lw_gi 562 (by decide +kernel) (by decide +kernel), lw_gi 61 (by decide +kernel) (by decide +kernel), ⟨rfl, by decide +kernel, by decide +kernel, by decide +kernel⟩, by decide⟩⟩
abbrev mX11_row : Mth := (RX11, yX11_row, cX11_row, 4, (some .int))
theorem hX11_row : plainName yX11_row.cls = true ∧ yX11_row.cls = RX11 ∧ RX11 ≠ RL := ⟨by decide +kernel, rfl, by decide +kernel⟩
theorem kX11_row : Cond.instanceMethod yX11_row ∈ lw_good ∧ Cond.selects RX11 yX11_row yX11_row ∈ lw_good ∧ CkN mX11_row 3 := ⟨lw_gi 277 (by decide +kernel) (by decide +kernel), lw_gi 278 (by decide +kernel) (by decide +kernel), ⟨lw_gi 279 (by decide +kernel) (by decide +kernel), lw_gi 61 (by decide +kernel) (by decide +kernel), ⟨rfl, by decide +kernel, by decide +kernel, by decide +kernel⟩, by decide⟩⟩
abbrev mX11_scalePart : Mth := (RX11, yX11_scalePart, cX11_scalePart, 4, (some .int))
theorem hX11_scalePart : plainName yX11_scalePart.cls = true ∧ yX11_scalePart.cls = RX11 ∧ RX11 ≠ RL := ⟨by decide +kernel, rfl, by decide +kernel⟩
theorem kX11_scalePart : Cond.instanceMethod yX11_scalePart ∈ lw_good ∧ Cond.selects RX11 yX11_scalePart yX11_scalePart ∈ lw_good ∧ CkN mX11_scalePart 1 := ⟨lw_gi 772 (by decide +kernel) (by decide +kernel), lw_gi 18 (by decide +kernel) (by decide +kernel), ⟨lw_gi 773 (by decide +kernel) (by decide +kernel), lw_gi 61 (by decide +kernel) (by decide +kernel), ⟨rfl, by decide +kernel, by decide +kernel, by decide +kernel⟩, by decide⟩⟩
abbrev mX11_set : Mth := (RX11, yX11_set, cX11_set, 4, (some .int))
theorem hX11_set : plainName yX11_set.cls = true ∧ yX11_set.cls = RX11 ∧ RX11 ≠ RL := ⟨by decide +kernel, rfl, by decide +kernel⟩
theorem kX11_set : Cond.instanceMethod yX11_set ∈ lw_good ∧ Cond.selects RX11 yX11_set yX11_set ∈ lw_good ∧ CkN mX11_set 3 := ⟨lw_gi 298 (by decide +kernel) (by decide +kernel), lw_gi 299 (by decide +kernel) (by decide +kernel), ⟨lw_gi 300 (by decide +kernel) (by decide +kernel), lw_gi 61 (by decide +kernel) (by decide +kernel), ⟨rfl, by decide +kernel, by decide +kernel, by decide +kernel⟩, by decide⟩⟩
abbrev mX11_sets : Mth := (RX11, yX11_sets, cX11_sets, 7, (some .int))
theorem hX11_sets : plainName yX11_sets.cls = true ∧ yX11_sets.cls = RX11 ∧ RX11 ≠ RL := ⟨by decide +kernel, rfl, by decide +kernel⟩
theorem kX11_sets : Cond.instanceMethod yX11_sets ∈ lw_good ∧ Cond.selects RX11 yX11_sets yX11_sets ∈ lw_good ∧ CkN mX11_sets 2 := ⟨lw_gi 846 (by decide +kernel) (by decide +kernel), lw_gi 847 (by decide +kernel) (by decide +kernel), ⟨lw_gi 848 (by decide +kernel) (by decide +kernel), lw_gi 61 (by decide +kernel) (by decide +kernel), ⟨rfl, by decide +kernel, by decide +kernel, by decide +kernel⟩, by decide⟩⟩
abbrev mX11_share : Mth := (RX11, yX11_share, cX11_share, 6, (some .long))
theorem hX11_share : plainName yX11_share.cls = true ∧ yX11_share.cls = RX11 ∧ RX11 ≠ RL := ⟨by decide +kernel, rfl, by decide +kernel⟩
theorem kX11_share : Cond.instanceMethod yX11_share ∈ lw_good ∧ Cond.selects RX11 yX11_share yX11_share ∈ lw_good ∧ CkN mX11_share 3 := ⟨lw_gi 712 (by decide +kernel) (by decide +kernel), lw_gi 713 (by decide +kernel) (by decide +kernel), ⟨lw_gi 714 (by decide +kernel) (by decide +kernel), lw_gi 61 (by decide +kernel) (by decide +kernel), ⟨rfl, by decide +kernel, by decide +kernel, by decide +kernel⟩, by decide⟩⟩
abbrev mX11_sort : Mth := (RX11, yX11_sort, cX11_sort, 3, (some .int))
theorem hX11_sort : plainName yX11_sort.cls = true ∧ yX11_sort.cls = RX11 ∧ RX11 ≠ RL := ⟨by decide +kernel, rfl, by decide +kernel⟩
theorem kX11_sort : Cond.instanceMethod yX11_sort ∈ lw_good ∧ Cond.selects RX11 yX11_sort yX11_sort ∈ lw_good ∧ CkN mX11_sort 2 := ⟨lw_gi 616 (by decide +kernel) (by decide +kernel), lw_gi 617 (by decide +kernel) (by decide +kernel), ⟨lw_gi 618 (by decide +kernel) (by decide +kernel), lw_gi 61 (by decide +kernel) (by decide +kernel), ⟨rfl, by decide +kernel, by decide +kernel, by decide +kernel⟩, by decide⟩⟩
abbrev mX11_status : Mth := (RX11, yX11_status, cX11_status, 1, (some .int))
theorem hX11_status : plainName yX11_status.cls = true ∧ yX11_status.cls = RX11 ∧ RX11 ≠ RL := ⟨by decide +kernel, rfl, by decide +kernel⟩
theorem kX11_status : Cond.instanceMethod yX11_status ∈ lw_good ∧ Cond.selects RX11 yX11_status yX11_status ∈ lw_good ∧ CkN mX11_status 0 := ⟨lw_gi 981 (by decide +kernel) (by decide +kernel), lw_gi 982 (by decide +kernel) (by decide +kernel), ⟨lw_gi 983 (by decide +kernel) (by decide +kernel), lw_gi 61 (by decide +kernel) (by decide +kernel), ⟨rfl, by decide +kernel, by decide +kernel, by decide +kernel⟩, by decide⟩⟩
abbrev mX11_trace : Mth := (RX11, yX11_trace, cX11_trace, 2, (some .int))
theorem hX11_trace : plainName yX11_trace.cls = true ∧ yX11_trace.cls = RX11 ∧ RX11 ≠ RL := ⟨by decide +kernel, rfl, by decide +kernel⟩
theorem kX11_trace : Cond.instanceMethod yX11_trace ∈ lw_good ∧ Cond.selects RX11 yX11_trace yX11_trace ∈ lw_good ∧ CkN mX11_trace 1 := ⟨lw_gi 957 (by decide +kernel) (by decide +kernel), lw_gi 958 (by decide +kernel) (by decide +kernel), ⟨lw_gi 959 (by decide +kernel) (by decide +kernel), lw_gi 61 (by decide +kernel) (by decide +kernel), ⟨rfl, by decide +kernel, by decide +kernel, by decide +kernel⟩, by decide⟩⟩
abbrev mX11_trialTells : Mth := (RX11, yX11_trialTells, cX11_trialTells, 5, (some .boolean))
theorem hX11_trialTells : plainName yX11_trialTells.cls = true ∧ yX11_trialTells.cls = RX11 ∧ RX11 ≠ RL := ⟨by decide +kernel, rfl, by decide +kernel⟩
theorem kX11_trialTells : Cond.instanceMethod yX11_trialTells ∈ lw_good ∧ Cond.selects RX11 yX11_trialTells yX11_trialTells ∈ lw_good ∧ CkN mX11_trialTells 3 := ⟨lw_gi 835 (by decide +kernel) (by decide +kernel), lw_gi 22 (by decide +kernel) (by decide +kernel), ⟨lw_gi 836 (by decide +kernel) (by decide +kernel), lw_gi 61 (by decide +kernel) (by decide +kernel), ⟨rfl, by decide +kernel, by decide +kernel, by decide +kernel⟩, by decide⟩⟩
abbrev mX11_undo : Mth := (RX11, yX11_undo, cX11_undo, 1, (some .int))
theorem hX11_undo : plainName yX11_undo.cls = true ∧ yX11_undo.cls = RX11 ∧ RX11 ≠ RL := ⟨by decide +kernel, rfl, by decide +kernel⟩
theorem kX11_undo : Cond.instanceMethod yX11_undo ∈ lw_good ∧ Cond.selects RX11 yX11_undo yX11_undo ∈ lw_good ∧ CkN mX11_undo 0 := ⟨lw_gi 498 (by decide +kernel) (by decide +kernel), lw_gi 499 (by decide +kernel) (by decide +kernel), ⟨lw_gi 500 (by decide +kernel) (by decide +kernel), lw_gi 61 (by decide +kernel) (by decide +kernel), ⟨rfl, by decide +kernel, by decide +kernel, by decide +kernel⟩, by decide⟩⟩
abbrev mX11_unfound : Mth := (RX11, yX11_unfound, cX11_unfound, 2, (some .int))
theorem hX11_unfound : plainName yX11_unfound.cls = true ∧ yX11_unfound.cls = RX11 ∧ RX11 ≠ RL := ⟨by decide +kernel, rfl, by decide +kernel⟩
theorem kX11_unfound : Cond.instanceMethod yX11_unfound ∈ lw_good ∧ Cond.selects RX11 yX11_unfound yX11_unfound ∈ lw_good ∧ CkN mX11_unfound 1 := ⟨lw_gi 295 (by decide +kernel) (by decide +kernel), lw_gi 1 (by decide +kernel) (by decide +kernel), ⟨lw_gi 296 (by decide +kernel) (by decide +kernel), lw_gi 61 (by decide +kernel) (by decide +kernel), ⟨rfl, by decide +kernel, by decide +kernel, by decide +kernel⟩, by decide⟩⟩
abbrev mX11_weightOf : Mth := (RX11, yX11_weightOf, cX11_weightOf, 4, (some .int))
theorem hX11_weightOf : plainName yX11_weightOf.cls = true ∧ yX11_weightOf.cls = RX11 ∧ RX11 ≠ RL := ⟨by decide +kernel, rfl, by decide +kernel⟩
theorem kX11_weightOf : Cond.instanceMethod yX11_weightOf ∈ lw_good ∧ Cond.selects RX11 yX11_weightOf yX11_weightOf ∈ lw_good ∧ CkN mX11_weightOf 1 := ⟨lw_gi 851 (by decide +kernel) (by decide +kernel), lw_gi 24 (by decide +kernel) (by decide +kernel), ⟨lw_gi 852 (by decide +kernel) (by decide +kernel), lw_gi 61 (by decide +kernel) (by decide +kernel), ⟨rfl, by decide +kernel, by decide +kernel, by decide +kernel⟩, by decide⟩⟩
abbrev mX11_who : Mth := (RX11, yX11_who, cX11_who, 7, (some .int))
theorem hX11_who : plainName yX11_who.cls = true ∧ yX11_who.cls = RX11 ∧ RX11 ≠ RL := ⟨by decide +kernel, rfl, by decide +kernel⟩
theorem kX11_who : Cond.instanceMethod yX11_who ∈ lw_good ∧ Cond.selects RX11 yX11_who yX11_who ∈ lw_good ∧ CkN mX11_who 6 := ⟨lw_gi 824 (by decide +kernel) (by decide +kernel), lw_gi 825 (by decide +kernel) (by decide +kernel), ⟨lw_gi 826 (by decide +kernel) (by decide +kernel), lw_gi 61 (by decide +kernel) (by decide +kernel), ⟨rfl, by decide +kernel, by decide +kernel, by decide +kernel⟩, by decide⟩⟩
abbrev mX11_whole : Mth := (RX11, yX11_whole, cX11_whole, 2, (some .int))
theorem hX11_whole : plainName yX11_whole.cls = true ∧ yX11_whole.cls = RX11 ∧ RX11 ≠ RL := ⟨by decide +kernel, rfl, by decide +kernel⟩
theorem kX11_whole : Cond.instanceMethod yX11_whole ∈ lw_good ∧ Cond.selects RX11 yX11_whole yX11_whole ∈ lw_good ∧ CkN mX11_whole 1 := ⟨lw_gi 735 (by decide +kernel) (by decide +kernel), lw_gi 736 (by decide +kernel) (by decide +kernel), ⟨lw_gi 737 (by decide +kernel) (by decide +kernel), lw_gi 61 (by decide +kernel) (by decide +kernel), ⟨rfl, by decide +kernel, by decide +kernel, by decide +kernel⟩, by decide⟩⟩
abbrev mX11_word : Mth := (RX11, yX11_word, cX11_word, 7, (some .int))
theorem hX11_word : plainName yX11_word.cls = true ∧ yX11_word.cls = RX11 ∧ RX11 ≠ RL := ⟨by decide +kernel, rfl, by decide +kernel⟩
theorem kX11_word : Cond.instanceMethod yX11_word ∈ lw_good ∧ Cond.selects RX11 yX11_word yX11_word ∈ lw_good ∧ CkN mX11_word 3 := ⟨lw_gi 512 (by decide +kernel) (by decide +kernel), lw_gi 513 (by decide +kernel) (by decide +kernel), ⟨lw_gi 514 (by decide +kernel) (by decide +kernel), lw_gi 61 (by decide +kernel) (by decide +kernel), ⟨rfl, by decide +kernel, by decide +kernel, by decide +kernel⟩, by decide⟩⟩
abbrev mX11_wordLetterOrNone : Mth := (RX11, yX11_wordLetterOrNone, cX11_wordLetterOrNone, 3, (some .int))
theorem hX11_wordLetterOrNone : plainName yX11_wordLetterOrNone.cls = true ∧ yX11_wordLetterOrNone.cls = RX11 ∧ RX11 ≠ RL := ⟨by decide +kernel, rfl, by decide +kernel⟩
theorem kX11_wordLetterOrNone : Cond.instanceMethod yX11_wordLetterOrNone ∈ lw_good ∧ Cond.selects RX11 yX11_wordLetterOrNone yX11_wordLetterOrNone ∈ lw_good ∧ CkN mX11_wordLetterOrNone 2 := ⟨lw_gi 622 (by decide +kernel) (by decide +kernel), lw_gi 13 (by decide +kernel) (by decide +kernel), ⟨lw_gi 623 (by decide +kernel) (by decide +kernel), lw_gi 61 (by decide +kernel) (by decide +kernel), ⟨rfl, by decide +kernel, by decide +kernel, by decide +kernel⟩, by decide⟩⟩
abbrev mX12_all : Mth := (RX12, yX12_all, cX12_all, 7, (some .long))
theorem hX12_all : plainName yX12_all.cls = true ∧ yX12_all.cls = RX12 ∧ RX12 ≠ RL := ⟨by decide +kernel, rfl, by decide +kernel⟩
theorem kX12_all : Cond.instanceMethod yX12_all ∈ lw_good ∧ Cond.selects RX12 yX12_all yX12_all ∈ lw_good ∧ CkN mX12_all 2 := ⟨lw_gi 1292 (by decide +kernel) (by decide +kernel), lw_gi 1293 (by decide +kernel) (by decide +kernel), ⟨lw_gi 1294 (by decide +kernel) (by decide +kernel), lw_gi 71 (by decide +kernel) (by decide +kernel), ⟨rfl, by decide +kernel, by decide +kernel, by decide +kernel⟩, by decide⟩⟩
abbrev mX12_as : Mth := (RX12, yX12_as, cX12_as, 3, (some .int))
theorem hX12_as : plainName yX12_as.cls = true ∧ yX12_as.cls = RX12 ∧ RX12 ≠ RL := ⟨by decide +kernel, rfl, by decide +kernel⟩
theorem kX12_as : Cond.instanceMethod yX12_as ∈ lw_good ∧ Cond.selects RX12 yX12_as yX12_as ∈ lw_good ∧ CkN mX12_as 2 := ⟨lw_gi 1386 (by decide +kernel) (by decide +kernel), lw_gi 1387 (by decide +kernel) (by decide +kernel), ⟨lw_gi 1388 (by decide +kernel) (by decide +kernel), lw_gi 71 (by decide +kernel) (by decide +kernel), ⟨rfl, by decide +kernel, by decide +kernel, by decide +kernel⟩, by decide⟩⟩
abbrev mX12_ask : Mth := (RX12, yX12_ask, cX12_ask, 3, (some .int))
theorem hX12_ask : plainName yX12_ask.cls = true ∧ yX12_ask.cls = RX12 ∧ RX12 ≠ RL := ⟨by decide +kernel, rfl, by decide +kernel⟩
theorem kX12_ask : Cond.instanceMethod yX12_ask ∈ lw_good ∧ Cond.selects RX12 yX12_ask yX12_ask ∈ lw_good ∧ CkN mX12_ask 2 := ⟨lw_gi 1393 (by decide +kernel) (by decide +kernel), lw_gi 1394 (by decide +kernel) (by decide +kernel), ⟨lw_gi 1395 (by decide +kernel) (by decide +kernel), lw_gi 71 (by decide +kernel) (by decide +kernel), ⟨rfl, by decide +kernel, by decide +kernel, by decide +kernel⟩, by decide⟩⟩
abbrev mX12_askedSize : Mth := (RX12, yX12_askedSize, cX12_askedSize, 4, (some .int))
theorem hX12_askedSize : plainName yX12_askedSize.cls = true ∧ yX12_askedSize.cls = RX12 ∧ RX12 ≠ RL := ⟨by decide +kernel, rfl, by decide +kernel⟩
theorem kX12_askedSize : Cond.instanceMethod yX12_askedSize ∈ lw_good ∧ Cond.selects RX12 yX12_askedSize yX12_askedSize ∈ lw_good ∧ CkN mX12_askedSize 1 := ⟨lw_gi 1398 (by decide +kernel) (by decide +kernel), lw_gi 54 (by decide +kernel) (by decide +kernel), ⟨lw_gi 1399 (by decide +kernel) (by decide +kernel), lw_gi 71 (by decide +kernel) (by decide +kernel), ⟨rfl, by decide +kernel, by decide +kernel, by decide +kernel⟩, by decide⟩⟩
abbrev mX12_back : Mth := (RX12, yX12_back, cX12_back, 7, (some .int))
theorem hX12_back : plainName yX12_back.cls = true ∧ yX12_back.cls = RX12 ∧ RX12 ≠ RL := ⟨by decide +kernel, rfl, by decide +kernel⟩
theorem kX12_back : Cond.instanceMethod yX12_back ∈ lw_good ∧ Cond.selects RX12 yX12_back yX12_back ∈ lw_good ∧ CkN mX12_back 3 := ⟨lw_gi 1317 (by decide +kernel) (by decide +kernel), lw_gi 1318 (by decide +kernel) (by decide +kernel), ⟨lw_gi 1319 (by decide +kernel) (by decide +kernel), lw_gi 71 (by decide +kernel) (by decide +kernel), ⟨rfl, by decide +kernel, by decide +kernel, by decide +kernel⟩, by decide⟩⟩
abbrev mX12_bad : Mth := (RX12, yX12_bad, cX12_bad, 2, none)
theorem hX12_bad : plainName yX12_bad.cls = true ∧ yX12_bad.cls = RX12 ∧ RX12 ≠ RL := ⟨by decide +kernel, rfl, by decide +kernel⟩
theorem kX12_bad : Cond.instanceMethod yX12_bad ∈ lw_good ∧ Cond.selects RX12 yX12_bad yX12_bad ∈ lw_good ∧ CkN mX12_bad 1 := ⟨lw_gi 1137 (by decide +kernel) (by decide +kernel), lw_gi 32 (by decide +kernel) (by decide +kernel), ⟨lw_gi 1138 (by decide +kernel) (by decide +kernel), lw_gi 71 (by decide +kernel) (by decide +kernel), ⟨rfl, by decide +kernel, by decide +kernel, by decide +kernel⟩, by decide⟩⟩
abbrev mX12_become : Mth := (RX12, yX12_become, cX12_become, 4, (some .int))
theorem hX12_become : plainName yX12_become.cls = true ∧ yX12_become.cls = RX12 ∧ RX12 ≠ RL := ⟨by decide +kernel, rfl, by decide +kernel⟩
theorem kX12_become : Cond.instanceMethod yX12_become ∈ lw_good ∧ Cond.selects RX12 yX12_become yX12_become ∈ lw_good ∧ CkN mX12_become 2 := ⟨lw_gi 1199 (by decide +kernel) (by decide +kernel), lw_gi 1200 (by decide +kernel) (by decide +kernel), ⟨lw_gi 1201 (by decide +kernel) (by decide +kernel), lw_gi 71 (by decide +kernel) (by decide +kernel), ⟨rfl, by decide +kernel, by decide +kernel, by decide +kernel⟩, by decide⟩⟩
abbrev mX12_began : Mth := (RX12, yX12_began, cX12_began, 2, none)
theorem hX12_began : plainName yX12_began.cls = true ∧ yX12_began.cls = RX12 ∧ RX12 ≠ RL := ⟨by decide +kernel, rfl, by decide +kernel⟩
theorem kX12_began : Cond.instanceMethod yX12_began ∈ lw_good ∧ Cond.selects RX12 yX12_began yX12_began ∈ lw_good ∧ CkN mX12_began 1 := ⟨lw_gi 1406 (by decide +kernel) (by decide +kernel), lw_gi 56 (by decide +kernel) (by decide +kernel), ⟨lw_gi 1407 (by decide +kernel) (by decide +kernel), lw_gi 71 (by decide +kernel) (by decide +kernel), ⟨rfl, by decide +kernel, by decide +kernel, by decide +kernel⟩, by decide⟩⟩
abbrev mX12_begin : Mth := (RX12, yX12_begin, cX12_begin, 6, (some .int))
theorem hX12_begin : plainName yX12_begin.cls = true ∧ yX12_begin.cls = RX12 ∧ RX12 ≠ RL := ⟨by decide +kernel, rfl, by decide +kernel⟩
theorem kX12_begin : Cond.instanceMethod yX12_begin ∈ lw_good ∧ Cond.selects RX12 yX12_begin yX12_begin ∈ lw_good ∧ CkN mX12_begin 2 := ⟨lw_gi 1216 (by decide +kernel) (by decide +kernel), lw_gi 1217 (by decide +kernel) (by decide +kernel), ⟨lw_gi 1218 (by decide +kernel) (by decide +kernel), lw_gi 71 (by decide +kernel) (by decide +kernel), ⟨rfl, by decide +kernel, by decide +kernel, by decide +kernel⟩, by decide⟩⟩
abbrev mX12_book : Mth := (RX12, yX12_book, cX12_book, 2, (some .int))
theorem hX12_book : plainName yX12_book.cls = true ∧ yX12_book.cls = RX12 ∧ RX12 ≠ RL := ⟨by decide +kernel, rfl, by decide +kernel⟩
theorem kX12_book : Cond.instanceMethod yX12_book ∈ lw_good ∧ Cond.selects RX12 yX12_book yX12_book ∈ lw_good ∧ CkN mX12_book 0 := ⟨lw_gi 1119 (by decide +kernel) (by decide +kernel), lw_gi 1120 (by decide +kernel) (by decide +kernel), ⟨lw_gi 1121 (by decide +kernel) (by decide +kernel), lw_gi 71 (by decide +kernel) (by decide +kernel), ⟨rfl, by decide +kernel, by decide +kernel, by decide +kernel⟩, by decide⟩⟩
abbrev mX12_copy : Mth := (RX12, yX12_copy, cX12_copy, 9, (some .int))
theorem hX12_copy : plainName yX12_copy.cls = true ∧ yX12_copy.cls = RX12 ∧ RX12 ≠ RL := ⟨by decide +kernel, rfl, by decide +kernel⟩
theorem kX12_copy : Cond.instanceMethod yX12_copy ∈ lw_good ∧ Cond.selects RX12 yX12_copy yX12_copy ∈ lw_good ∧ CkN mX12_copy 5 := ⟨lw_gi 1105 (by decide +kernel) (by decide +kernel), lw_gi 1106 (by decide +kernel) (by decide +kernel), ⟨lw_gi 1107 (by decide +kernel) (by decide +kernel), lw_gi 71 (by decide +kernel) (by decide +kernel), ⟨rfl, by decide +kernel, by decide +kernel, by decide +kernel⟩, by decide⟩⟩
abbrev mX12_count : Mth := (RX12, yX12_count, cX12_count, 4, (some .int))
theorem hX12_count : plainName yX12_count.cls = true ∧ yX12_count.cls = RX12 ∧ RX12 ≠ RL := ⟨by decide +kernel, rfl, by decide +kernel⟩
theorem kX12_count : Cond.instanceMethod yX12_count ∈ lw_good ∧ Cond.selects RX12 yX12_count yX12_count ∈ lw_good ∧ CkN mX12_count 1 := ⟨lw_gi 1421 (by decide +kernel) (by decide +kernel), lw_gi 1422 (by decide +kernel) (by decide +kernel), ⟨lw_gi 1423 (by decide +kernel) (by decide +kernel), lw_gi 71 (by decide +kernel) (by decide +kernel), ⟨rfl, by decide +kernel, by decide +kernel, by decide +kernel⟩, by decide⟩⟩
abbrev mX12_drawn : Mth := (RX12, yX12_drawn, cX12_drawn, 10, (some .int))
theorem hX12_drawn : plainName yX12_drawn.cls = true ∧ yX12_drawn.cls = RX12 ∧ RX12 ≠ RL := ⟨by decide +kernel, rfl, by decide +kernel⟩
theorem kX12_drawn : Cond.instanceMethod yX12_drawn ∈ lw_good ∧ Cond.selects RX12 yX12_drawn yX12_drawn ∈ lw_good ∧ CkN mX12_drawn 3 := ⟨lw_gi 1364 (by decide +kernel) (by decide +kernel), lw_gi 1365 (by decide +kernel) (by decide +kernel), ⟨lw_gi 1366 (by decide +kernel) (by decide +kernel), lw_gi 71 (by decide +kernel) (by decide +kernel), ⟨rfl, by decide +kernel, by decide +kernel, by decide +kernel⟩, by decide⟩⟩
abbrev mX12_drop : Mth := (RX12, yX12_drop, cX12_drop, 2, (some .int))
theorem hX12_drop : plainName yX12_drop.cls = true ∧ yX12_drop.cls = RX12 ∧ RX12 ≠ RL := ⟨by decide +kernel, rfl, by decide +kernel⟩
theorem kX12_drop : Cond.instanceMethod yX12_drop ∈ lw_good ∧ Cond.selects RX12 yX12_drop yX12_drop ∈ lw_good ∧ CkN mX12_drop 1 := ⟨lw_gi 1109 (by decide +kernel) (by decide +kernel), lw_gi 1110 (by decide +kernel) (by decide +kernel), ⟨lw_gi 1111 (by decide +kernel) (by decide +kernel), lw_gi 71 (by decide +kernel) (by decide +kernel), ⟨rfl, by decide +kernel, by decide +kernel, by decide +kernel⟩, by decide⟩⟩
abbrev mX12_fault : Mth := (RX12, yX12_fault, cX12_fault, 1, (some .int))
theorem hX12_fault : plainName yX12_fault.cls = true ∧ yX12_fault.cls = RX12 ∧ RX12 ≠ RL := ⟨by decide +kernel, rfl, by decide +kernel⟩
theorem kX12_fault : Cond.instanceMethod yX12_fault ∈ lw_good ∧ Cond.selects RX12 yX12_fault yX12_fault ∈ lw_good ∧ CkN mX12_fault 0 := ⟨lw_gi 1161 (by decide +kernel) (by decide +kernel), lw_gi 1162 (by decide +kernel) (by decide +kernel), ⟨lw_gi 1163 (by decide +kernel) (by decide +kernel), lw_gi 71 (by decide +kernel) (by decide +kernel), ⟨rfl, by decide +kernel, by decide +kernel, by decide +kernel⟩, by decide⟩⟩
abbrev mX12_feed : Mth := (RX12, yX12_feed, cX12_feed, 2, (some .int))
theorem hX12_feed : plainName yX12_feed.cls = true ∧ yX12_feed.cls = RX12 ∧ RX12 ≠ RL := ⟨by decide +kernel, rfl, by decide +kernel⟩
theorem kX12_feed : Cond.instanceMethod yX12_feed ∈ lw_good ∧ Cond.selects RX12 yX12_feed yX12_feed ∈ lw_good ∧ CkN mX12_feed 1 := ⟨lw_gi 1113 (by decide +kernel) (by decide +kernel), lw_gi 1114 (by decide +kernel) (by decide +kernel), ⟨lw_gi 1115 (by decide +kernel) (by decide +kernel), lw_gi 71 (by decide +kernel) (by decide +kernel), ⟨rfl, by decide +kernel, by decide +kernel, by decide +kernel⟩, by decide⟩⟩
abbrev mX12_figure : Mth := (RX12, yX12_figure, cX12_figure, 4, (some .int))
theorem hX12_figure : plainName yX12_figure.cls = true ∧ yX12_figure.cls = RX12 ∧ RX12 ≠ RL := ⟨by decide +kernel, rfl, by decide +kernel⟩
theorem kX12_figure : Cond.instanceMethod yX12_figure ∈ lw_good ∧ Cond.selects RX12 yX12_figure yX12_figure ∈ lw_good ∧ CkN mX12_figure 2 := ⟨lw_gi 1141 (by decide +kernel) (by decide +kernel), lw_gi 33 (by decide +kernel) (by decide +kernel), ⟨lw_gi 1142 (by decide +kernel) (by decide +kernel), lw_gi 71 (by decide +kernel) (by decide +kernel), ⟨rfl, by decide +kernel, by decide +kernel, by decide +kernel⟩, by decide⟩⟩
abbrev mX12_finding : Mth := (RX12, yX12_finding, cX12_finding, 2, (some .int))
theorem hX12_finding : plainName yX12_finding.cls = true ∧ yX12_finding.cls = RX12 ∧ RX12 ≠ RL := ⟨by decide +kernel, rfl, by decide +kernel⟩
theorem kX12_finding : Cond.instanceMethod yX12_finding ∈ lw_good ∧ Cond.selects RX12 yX12_finding yX12_finding ∈ lw_good ∧ CkN mX12_finding 1 := ⟨lw_gi 1097 (by decide +kernel) (by decide +kernel), lw_gi 29 (by decide +kernel) (by decide +kernel), ⟨lw_gi 1098 (by decide +kernel) (by decide +kernel), lw_gi 71 (by decide +kernel) (by decide +kernel), ⟨rfl, by decide +kernel, by decide +kernel, by decide +kernel⟩, by decide⟩⟩
abbrev mX12_firstAt : Mth := (RX12, yX12_firstAt, cX12_firstAt, 6, (some .int))
theorem hX12_firstAt : plainName yX12_firstAt.cls = true ∧ yX12_firstAt.cls = RX12 ∧ RX12 ≠ RL := ⟨by decide +kernel, rfl, by decide +kernel⟩
theorem kX12_firstAt : Cond.instanceMethod yX12_firstAt ∈ lw_good ∧ Cond.selects RX12 yX12_firstAt yX12_firstAt ∈ lw_good ∧ CkN mX12_firstAt 3 := ⟨lw_gi 1332 (by decide +kernel) (by decide +kernel), lw_gi 50 (by decide +kernel) (by decide +kernel), ⟨lw_gi 1333 (by decide +kernel) (by decide +kernel), lw_gi 71 (by decide +kernel) (by decide +kernel), ⟨rfl, by decide +kernel, by decide +kernel, by decide +kernel⟩, by decide⟩⟩
abbrev mX12_fixedSize : Mth := (RX12, yX12_fixedSize, cX12_fixedSize, 4, (some .int))
theorem hX12_fixedSize : plainName yX12_fixedSize.cls = true ∧ yX12_fixedSize.cls = RX12 ∧ RX12 ≠ RL := ⟨by decide +kernel, rfl, by decide +kernel⟩
theorem kX12_fixedSize : Cond.instanceMethod yX12_fixedSize ∈ lw_good ∧ Cond.selects RX12 yX12_fixedSize yX12_fixedSize ∈ lw_good ∧ CkN mX12_fixedSize 1 := ⟨lw_gi 1402 (by decide +kernel) (by decide +kernel), lw_gi 55 (by decide +kernel) (by decide +kernel), ⟨lw_gi 1403 (by decide +kernel) (by decide +kernel), lw_gi 71 (by decide +kernel) (by decide +kernel), ⟨rfl, by decide +kernel, by decide +kernel, by decide +kernel⟩, by decide⟩⟩
abbrev mX12_grown : Mth := (RX12, yX12_grown, cX12_grown, 4, (some .int))
theorem hX12_grown : plainName yX12_grown.cls = true ∧ yX12_grown.cls = RX12 ∧ RX12 ≠ RL := ⟨by decide +kernel, rfl, by decide +kernel⟩
theorem kX12_grown : Cond.instanceMethod yX12_grown ∈ lw_good ∧ Cond.selects RX12 yX12_grown yX12_grown ∈ lw_good ∧ CkN mX12_grown 2 := ⟨lw_gi 1251 (by decide +kernel) (by decide +kernel), lw_gi 1252 (by decide +kernel) (by decide +kernel), ⟨lw_gi 1253 (by decide +kernel) (by decide +kernel), lw_gi 71 (by decide +kernel) (by decide +kernel), ⟨rfl, by decide +kernel, by decide +kernel, by decide +kernel⟩, by decide⟩⟩
abbrev mX12_has : Mth := (RX12, yX12_has, cX12_has, 2, (some .boolean))
theorem hX12_has : plainName yX12_has.cls = true ∧ yX12_has.cls = RX12 ∧ RX12 ≠ RL := ⟨by decide +kernel, rfl, by decide +kernel⟩
theorem kX12_has : Cond.static yX12_has ∈ lw_good ∧ CkN mX12_has 2 := ⟨lw_gi 1311 (by decide +kernel) (by decide +kernel), ⟨lw_gi 1312 (by decide +kernel) (by decide +kernel), lw_gi 71 (by decide +kernel) (by decide +kernel), ⟨rfl, by decide +kernel, by decide +kernel, by decide +kernel⟩, by decide⟩⟩
abbrev mX12_image : Mth := (RX12, yX12_image, cX12_image, 3, (some .int))
theorem hX12_image : plainName yX12_image.cls = true ∧ yX12_image.cls = RX12 ∧ RX12 ≠ RL := ⟨by decide +kernel, rfl, by decide +kernel⟩
theorem kX12_image : Cond.instanceMethod yX12_image ∈ lw_good ∧ Cond.selects RX12 yX12_image yX12_image ∈ lw_good ∧ CkN mX12_image 1 := ⟨lw_gi 1374 (by decide +kernel) (by decide +kernel), lw_gi 1375 (by decide +kernel) (by decide +kernel), ⟨lw_gi 1376 (by decide +kernel) (by decide +kernel), lw_gi 71 (by decide +kernel) (by decide +kernel), ⟨rfl, by decide +kernel, by decide +kernel, by decide +kernel⟩, by decide⟩⟩
abbrev mX12_imageAt : Mth := (RX12, yX12_imageAt, cX12_imageAt, 5, (some .int))
theorem hX12_imageAt : plainName yX12_imageAt.cls = true ∧ yX12_imageAt.cls = RX12 ∧ RX12 ≠ RL := ⟨by decide +kernel, rfl, by decide +kernel⟩
theorem kX12_imageAt : Cond.static yX12_imageAt ∈ lw_good ∧ CkN mX12_imageAt 3 := ⟨lw_gi 1236 (by decide +kernel) (by decide +kernel), ⟨lw_gi 1237 (by decide +kernel) (by decide +kernel), lw_gi 71 (by decide +kernel) (by decide +kernel), ⟨rfl, by decide +kernel, by decide +kernel, by decide +kernel⟩, by decide⟩⟩
abbrev mX12_imageSize : Mth := (RX12, yX12_imageSize, cX12_imageSize, 3, (some .int))
theorem hX12_imageSize : plainName yX12_imageSize.cls = true ∧ yX12_imageSize.cls = RX12 ∧ RX12 ≠ RL := ⟨by decide +kernel, rfl, by decide +kernel⟩
theorem kX12_imageSize : Cond.static yX12_imageSize ∈ lw_good ∧ CkN mX12_imageSize 2 := ⟨lw_gi 1233 (by decide +kernel) (by decide +kernel), ⟨lw_gi 1234 (by decide +kernel) (by decide +kernel), lw_gi 71 (by decide +kernel) (by decide +kernel), ⟨rfl, by decide +kernel, by decide +kernel, by decide +kernel⟩, by decide⟩⟩
abbrev mX12_in : Mth := (RX12, yX12_in, cX12_in, 6, (some .boolean))
theorem hX12_in : plainName yX12_in.cls = true ∧ yX12_in.cls = RX12 ∧ RX12 ≠ RL := ⟨by decide +kernel, rfl, by decide +kernel⟩
theorem kX12_in : Cond.static yX12_in ∈ lw_good ∧ CkN mX12_in 3 := ⟨lw_gi 1091 (by decide +kernel) (by decide +kernel), ⟨lw_gi 1092 (by decide +kernel) (by decide +kernel), lw_gi 71 (by decide +kernel) (by decide +kernel), ⟨rfl, by decide +kernel, by decide +kernel, by decide +kernel⟩, by decide⟩⟩
abbrev mX12_inflate : Mth := (RX12, yX12_inflate, cX12_inflate, 3, (some .int))
theorem hX12_inflate : plainName yX12_inflate.cls = true ∧ yX12_inflate.cls = RX12 ∧ RX12 ≠ RL := ⟨by decide +kernel, rfl, by decide +kernel⟩
theorem kX12_inflate : Cond.instanceMethod yX12_inflate ∈ lw_good ∧ Cond.selects RX12 yX12_inflate yX12_inflate ∈ lw_good ∧ CkN mX12_inflate 0 := ⟨lw_gi 1221 (by decide +kernel) (by decide +kernel), lw_gi 1222 (by decide +kernel) (by decide +kernel), ⟨lw_gi 1223 (by decide +kernel) (by decide +kernel), lw_gi 71 (by decide +kernel) (by decide +kernel), ⟨rfl, by decide +kernel, by decide +kernel, by decide +kernel⟩, by decide⟩⟩
abbrev mX12_inflated : Mth := (RX12, yX12_inflated, cX12_inflated, 7, (some .int))
theorem hX12_inflated : plainName yX12_inflated.cls = true ∧ yX12_inflated.cls = RX12 ∧ RX12 ≠ RL := ⟨by decide +kernel, rfl, by decide +kernel⟩
theorem kX12_inflated : Cond.instanceMethod yX12_inflated ∈ lw_good ∧ Cond.selects RX12 yX12_inflated yX12_inflated ∈ lw_good ∧ CkN mX12_inflated 2 := ⟨lw_gi 1230 (by decide +kernel) (by decide +kernel), lw_gi 43 (by decide +kernel) (by decide +kernel), ⟨lw_gi 1231 (by decide +kernel) (by decide +kernel), lw_gi 71 (by decide +kernel) (by decide +kernel), ⟨rfl, by decide +kernel, by decide +kernel, by decide +kernel⟩, by decide⟩⟩
abbrev mX12_isImageAt : Mth := (RX12, yX12_isImageAt, cX12_isImageAt, 7, (some .boolean))
theorem hX12_isImageAt : plainName yX12_isImageAt.cls = true ∧ yX12_isImageAt.cls = RX12 ∧ RX12 ≠ RL := ⟨by decide +kernel, rfl, by decide +kernel⟩
theorem kX12_isImageAt : Cond.instanceMethod yX12_isImageAt ∈ lw_good ∧ Cond.selects RX12 yX12_isImageAt yX12_isImageAt ∈ lw_good ∧ CkN mX12_isImageAt 4 := ⟨lw_gi 1327 (by decide +kernel) (by decide +kernel), lw_gi 49 (by decide +kernel) (by decide +kernel), ⟨lw_gi 1328 (by decide +kernel) (by decide +kernel), lw_gi 71 (by decide +kernel) (by decide +kernel), ⟨rfl, by decide +kernel, by decide +kernel, by decide +kernel⟩, by decide⟩⟩
abbrev mX12_isOf : Mth := (RX12, yX12_isOf, cX12_isOf, 2, (some .boolean))
theorem hX12_isOf : plainName yX12_isOf.cls = true ∧ yX12_isOf.cls = RX12 ∧ RX12 ≠ RL := ⟨by decide +kernel, rfl, by decide +kernel⟩
theorem kX12_isOf : Cond.static yX12_isOf ∈ lw_good ∧ CkN mX12_isOf 2 := ⟨lw_gi 1390 (by decide +kernel) (by decide +kernel), ⟨lw_gi 1391 (by decide +kernel) (by decide +kernel), lw_gi 71 (by decide +kernel) (by decide +kernel), ⟨rfl, by decide +kernel, by decide +kernel, by decide +kernel⟩, by decide⟩⟩
abbrev mX12_isRow : Mth := (RX12, yX12_isRow, cX12_isRow, 1, (some .boolean))
theorem hX12_isRow : plainName yX12_isRow.cls = true ∧ yX12_isRow.cls = RX12 ∧ RX12 ≠ RL := ⟨by decide +kernel, rfl, by decide +kernel⟩
theorem kX12_isRow : Cond.static yX12_isRow ∈ lw_good ∧ CkN mX12_isRow 1 := ⟨lw_gi 1087 (by decide +kernel) (by decide +kernel), ⟨lw_gi 1088 (by decide +kernel) (by decide +kernel), lw_gi 71 (by decide +kernel) (by decide +kernel), ⟨rfl, by decide +kernel, by decide +kernel, by decide +kernel⟩, by decide⟩⟩
abbrev mX12_isScale : Mth := (RX12, yX12_isScale, cX12_isScale, 10, (some .boolean))
theorem hX12_isScale : plainName yX12_isScale.cls = true ∧ yX12_isScale.cls = RX12 ∧ RX12 ≠ RL := ⟨by decide +kernel, rfl, by decide +kernel⟩
theorem kX12_isScale : Cond.instanceMethod yX12_isScale ∈ lw_good ∧ Cond.selects RX12 yX12_isScale yX12_isScale ∈ lw_good ∧ CkN mX12_isScale 2 := ⟨lw_gi 1305 (by decide +kernel) (by decide +kernel), lw_gi 47 (by decide +kernel) (by decide +kernel), ⟨lw_gi 1306 (by decide +kernel) (by decide +kernel), lw_gi 71 (by decide +kernel) (by decide +kernel), ⟨rfl, by decide +kernel, by decide +kernel, by decide +kernel⟩, by decide⟩⟩
abbrev mX12_isSo : Mth := (RX12, yX12_isSo, cX12_isSo, 7, (some .boolean))
theorem hX12_isSo : plainName yX12_isSo.cls = true ∧ yX12_isSo.cls = RX12 ∧ RX12 ≠ RL := ⟨by decide +kernel, rfl, by decide +kernel⟩
theorem kX12_isSo : Cond.instanceMethod yX12_isSo ∈ lw_good ∧ Cond.selects RX12 yX12_isSo yX12_isSo ∈ lw_good ∧ CkN mX12_isSo 3 := ⟨lw_gi 1344 (by decide +kernel) (by decide +kernel), lw_gi 52 (by decide +kernel) (by decide +kernel), ⟨lw_gi 1345 (by decide +kernel) (by decide +kernel), lw_gi 71 (by decide +kernel) (by decide +kernel), ⟨rfl, by decide +kernel, by decide +kernel, by decide +kernel⟩, by decide⟩⟩
abbrev mX12_isSort : Mth := (RX12, yX12_isSort, cX12_isSort, 2, (some .boolean))
theorem hX12_isSort : plainName yX12_isSort.cls = true ∧ yX12_isSort.cls = RX12 ∧ RX12 ≠ RL := ⟨by decide +kernel, rfl, by decide +kernel⟩
theorem kX12_isSort : Cond.instanceMethod yX12_isSort ∈ lw_good ∧ Cond.selects RX12 yX12_isSort yX12_isSort ∈ lw_good ∧ CkN mX12_isSort 1 := ⟨lw_gi 1175 (by decide +kernel) (by decide +kernel), lw_gi 37 (by decide +kernel) (by decide +kernel), ⟨lw_gi 1176 (by decide +kernel) (by decide +kernel), lw_gi 71 (by decide +kernel) (by decide +kernel), ⟨rfl, by decide +kernel, by decide +kernel, by decide +kernel⟩, by decide⟩⟩
abbrev mX12_isThere : Mth := (RX12, yX12_isThere, cX12_isThere, 1, (some .boolean))
theorem hX12_isThere : plainName yX12_isThere.cls = true ∧ yX12_isThere.cls = RX12 ∧ RX12 ≠ RL := ⟨by decide +kernel, rfl, by decide +kernel⟩
theorem kX12_isThere : Cond.instanceMethod yX12_isThere ∈ lw_good ∧ Cond.selects RX12 yX12_isThere yX12_isThere ∈ lw_good ∧ CkN mX12_isThere 0 := ⟨lw_gi 1212 (by decide +kernel) (by decide +kernel), lw_gi 41 (by decide +kernel) (by decide +kernel), ⟨lw_gi 1213 (by decide +kernel) (by decide +kernel), lw_gi 71 (by decide +kernel) (by decide +kernel), ⟨rfl, by decide +kernel, by decide +kernel, by decide +kernel⟩, by decide⟩⟩
abbrev mX12_keeps : Mth := (RX12, yX12_keeps, cX12_keeps, 2, none)
theorem hX12_keeps : plainName yX12_keeps.cls = true ∧ yX12_keeps.cls = RX12 ∧ RX12 ≠ RL := ⟨by decide +kernel, rfl, by decide +kernel⟩
theorem kX12_keeps : Cond.instanceMethod yX12_keeps ∈ lw_good ∧ Cond.selects RX12 yX12_keeps yX12_keeps ∈ lw_good ∧ CkN mX12_keeps 0 := ⟨lw_gi 1188 (by decide +kernel) (by decide +kernel), lw_gi 40 (by decide +kernel) (by decide +kernel), ⟨lw_gi 1189 (by decide +kernel) (by decide +kernel), lw_gi 71 (by decide +kernel) (by decide +kernel), ⟨rfl, by decide +kernel, by decide +kernel, by decide +kernel⟩, by decide⟩⟩
abbrev mX12_kind : Mth := (RX12, yX12_kind, cX12_kind, 2, (some .int))
theorem hX12_kind : plainName yX12_kind.cls = true ∧ yX12_kind.cls = RX12 ∧ RX12 ≠ RL := ⟨by decide +kernel, rfl, by decide +kernel⟩
theorem kX12_kind : Cond.instanceMethod yX12_kind ∈ lw_good ∧ Cond.selects RX12 yX12_kind yX12_kind ∈ lw_good ∧ CkN mX12_kind 1 := ⟨lw_gi 1382 (by decide +kernel) (by decide +kernel), lw_gi 1383 (by decide +kernel) (by decide +kernel), ⟨lw_gi 1384 (by decide +kernel) (by decide +kernel), lw_gi 71 (by decide +kernel) (by decide +kernel), ⟨rfl, by decide +kernel, by decide +kernel, by decide +kernel⟩, by decide⟩⟩
abbrev mX12_kindOf : Mth := (RX12, yX12_kindOf, cX12_kindOf, 2, (some .int))
theorem hX12_kindOf : plainName yX12_kindOf.cls = true ∧ yX12_kindOf.cls = RX12 ∧ RX12 ≠ RL := ⟨by decide +kernel, rfl, by decide +kernel⟩
theorem kX12_kindOf : Cond.static yX12_kindOf ∈ lw_good ∧ CkN mX12_kindOf 2 := ⟨lw_gi 1204 (by decide +kernel) (by decide +kernel), ⟨lw_gi 1205 (by decide +kernel) (by decide +kernel), lw_gi 71 (by decide +kernel) (by decide +kernel), ⟨rfl, by decide +kernel, by decide +kernel, by decide +kernel⟩, by decide⟩⟩
abbrev mX12_lacks : Mth := (RX12, yX12_lacks, cX12_lacks, 3, (some .int))
theorem hX12_lacks : plainName yX12_lacks.cls = true ∧ yX12_lacks.cls = RX12 ∧ RX12 ≠ RL := ⟨by decide +kernel, rfl, by decide +kernel⟩
theorem kX12_lacks : Cond.instanceMethod yX12_lacks ∈ lw_good ∧ Cond.selects RX12 yX12_lacks yX12_lacks ∈ lw_good ∧ CkN mX12_lacks 2 := ⟨lw_gi 1184 (by decide +kernel) (by decide +kernel), lw_gi 39 (by decide +kernel) (by decide +kernel), ⟨lw_gi 1185 (by decide +kernel) (by decide +kernel), lw_gi 71 (by decide +kernel) (by decide +kernel), ⟨rfl, by decide +kernel, by decide +kernel, by decide +kernel⟩, by decide⟩⟩
abbrev mX12_lacksLetters : Mth := (RX12, yX12_lacksLetters, cX12_lacksLetters, 6, (some .int))
theorem hX12_lacksLetters : plainName yX12_lacksLetters.cls = true ∧ yX12_lacksLetters.cls = RX12 ∧ RX12 ≠ RL := ⟨by decide +kernel, rfl, by decide +kernel⟩
theorem kX12_lacksLetters : Cond.instanceMethod yX12_lacksLetters ∈ lw_good ∧ Cond.selects RX12 yX12_lacksLetters yX12_lacksLetters ∈ lw_good ∧ CkN mX12_lacksLetters 2 := ⟨lw_gi 1180 (by decide +kernel) (by decide +kernel), lw_gi 38 (by decide +kernel) (by decide +kernel), ⟨lw_gi 1181 (by decide +kernel) (by decide +kernel), lw_gi 71 (by decide +kernel) (by decide +kernel), ⟨rfl, by decide +kernel, by decide +kernel, by decide +kernel⟩, by decide⟩⟩
abbrev mX12_layGrown : Mth := (RX12, yX12_layGrown, cX12_layGrown, 5, (some .int))
theorem hX12_layGrown : plainName yX12_layGrown.cls = true ∧ yX12_layGrown.cls = RX12 ∧ RX12 ≠ RL := ⟨by decide +kernel, rfl, by decide +kernel⟩
theorem kX12_layGrown : Cond.instanceMethod yX12_layGrown ∈ lw_good ∧ Cond.selects RX12 yX12_layGrown yX12_layGrown ∈ lw_good ∧ CkN mX12_layGrown 2 := ⟨lw_gi 1226 (by decide +kernel) (by decide +kernel), lw_gi 42 (by decide +kernel) (by decide +kernel), ⟨lw_gi 1227 (by decide +kernel) (by decide +kernel), lw_gi 71 (by decide +kernel) (by decide +kernel), ⟨rfl, by decide +kernel, by decide +kernel, by decide +kernel⟩, by decide⟩⟩
abbrev mX12_layNumbers : Mth := (RX12, yX12_layNumbers, cX12_layNumbers, 6, none)
theorem hX12_layNumbers : plainName yX12_layNumbers.cls = true ∧ yX12_layNumbers.cls = RX12 ∧ RX12 ≠ RL := ⟨by decide +kernel, rfl, by decide +kernel⟩
theorem kX12_layNumbers : Cond.instanceMethod yX12_layNumbers ∈ lw_good ∧ Cond.selects RX12 yX12_layNumbers yX12_layNumbers ∈ lw_good ∧ CkN mX12_layNumbers 1 := ⟨lw_gi 1277 (by decide +kernel) (by decide +kernel), lw_gi 44 (by decide +kernel) (by decide +kernel), ⟨lw_gi 1278 (by decide +kernel) (by decide +kernel), lw_gi 71 (by decide +kernel) (by decide +kernel), ⟨rfl, by decide +kernel, by decide +kernel, by decide +kernel⟩, by decide⟩⟩
abbrev mX12_layThen : Mth := (RX12, yX12_layThen, cX12_layThen, 2, none)
theorem hX12_layThen : plainName yX12_layThen.cls = true ∧ yX12_layThen.cls = RX12 ∧ RX12 ≠ RL := ⟨by decide +kernel, rfl, by decide +kernel⟩
theorem kX12_layThen : Cond.instanceMethod yX12_layThen ∈ lw_good ∧ Cond.selects RX12 yX12_layThen yX12_layThen ∈ lw_good ∧ CkN mX12_layThen 0 := ⟨lw_gi 1340 (by decide +kernel) (by decide +kernel), lw_gi 51 (by decide +kernel) (by decide +kernel), ⟨lw_gi 1341 (by decide +kernel) (by decide +kernel), lw_gi 71 (by decide +kernel) (by decide +kernel), ⟨rfl, by decide +kernel, by decide +kernel, by decide +kernel⟩, by decide⟩⟩
abbrev mX12_layWays : Mth := (RX12, yX12_layWays, cX12_layWays, 6, none)
theorem hX12_layWays : plainName yX12_layWays.cls = true ∧ yX12_layWays.cls = RX12 ∧ RX12 ≠ RL := ⟨by decide +kernel, rfl, by decide +kernel⟩
theorem kX12_layWays : Cond.instanceMethod yX12_layWays ∈ lw_good ∧ Cond.selects RX12 yX12_layWays yX12_layWays ∈ lw_good ∧ CkN mX12_layWays 2 := ⟨lw_gi 1323 (by decide +kernel) (by decide +kernel), lw_gi 48 (by decide +kernel) (by decide +kernel), ⟨lw_gi 1324 (by decide +kernel) (by decide +kernel), lw_gi 71 (by decide +kernel) (by decide +kernel), ⟨rfl, by decide +kernel, by decide +kernel, by decide +kernel⟩, by decide⟩⟩
abbrev mX12_length : Mth := (RX12, yX12_length, cX12_length, 5, (some .int))
theorem hX12_length : plainName yX12_length.cls = true ∧ yX12_length.cls = RX12 ∧ RX12 ≠ RL := ⟨by decide +kernel, rfl, by decide +kernel⟩
theorem kX12_length : Cond.instanceMethod yX12_length ∈ lw_good ∧ Cond.selects RX12 yX12_length yX12_length ∈ lw_good ∧ CkN mX12_length 3 := ⟨lw_gi 1194 (by decide +kernel) (by decide +kernel), lw_gi 1195 (by decide +kernel) (by decide +kernel), ⟨lw_gi 1196 (by decide +kernel) (by decide +kernel), lw_gi 71 (by decide +kernel) (by decide +kernel), ⟨rfl, by decide +kernel, by decide +kernel, by decide +kernel⟩, by decide⟩⟩
abbrev mX12_lengthOf : Mth := (RX12, yX12_lengthOf, cX12_lengthOf, 3, (some .int))
theorem hX12_lengthOf : plainName yX12_lengthOf.cls = true ∧ yX12_lengthOf.cls = RX12 ∧ RX12 ≠ RL := ⟨by decide +kernel, rfl, by decide +kernel⟩
theorem kX12_lengthOf : Cond.static yX12_lengthOf ∈ lw_good ∧ CkN mX12_lengthOf 3 := ⟨lw_gi 1268 (by decide +kernel) (by decide +kernel), ⟨lw_gi 1269 (by decide +kernel) (by decide +kernel), lw_gi 71 (by decide +kernel) (by decide +kernel), ⟨rfl, by decide +kernel, by decide +kernel, by decide +kernel⟩, by decide⟩⟩
abbrev mX12_lentSize : Mth := (RX12, yX12_lentSize, cX12_lentSize, 2, (some .int))
theorem hX12_lentSize : plainName yX12_lentSize.cls = true ∧ yX12_lentSize.cls = RX12 ∧ RX12 ≠ RL := ⟨by decide +kernel, rfl, by decide +kernel⟩
theorem kX12_lentSize : Cond.instanceMethod yX12_lentSize ∈ lw_good ∧ Cond.selects RX12 yX12_lentSize yX12_lentSize ∈ lw_good ∧ CkN mX12_lentSize 1 := ⟨lw_gi 1410 (by decide +kernel) (by decide +kernel), lw_gi 57 (by decide +kernel) (by decide +kernel), ⟨lw_gi 1411 (by decide +kernel) (by decide +kernel), lw_gi 71 (by decide +kernel) (by decide +kernel), ⟨rfl, by decide +kernel, by decide +kernel, by decide +kernel⟩, by decide⟩⟩
abbrev mX12_letter : Mth := (RX12, yX12_letter, cX12_letter, 2, (some .int))
theorem hX12_letter : plainName yX12_letter.cls = true ∧ yX12_letter.cls = RX12 ∧ RX12 ≠ RL := ⟨by decide +kernel, rfl, by decide +kernel⟩
theorem kX12_letter : Cond.instanceMethod yX12_letter ∈ lw_good ∧ Cond.selects RX12 yX12_letter yX12_letter ∈ lw_good ∧ CkN mX12_letter 1 := ⟨lw_gi 1247 (by decide +kernel) (by decide +kernel), lw_gi 1248 (by decide +kernel) (by decide +kernel), ⟨lw_gi 1249 (by decide +kernel) (by decide +kernel), lw_gi 71 (by decide +kernel) (by decide +kernel), ⟨rfl, by decide +kernel, by decide +kernel, by decide +kernel⟩, by decide⟩⟩
abbrev mX12_lettersOfAll : Mth := (RX12, yX12_lettersOfAll, cX12_lettersOfAll, 3, (some .int))
theorem hX12_lettersOfAll : plainName yX12_lettersOfAll.cls = true ∧ yX12_lettersOfAll.cls = RX12 ∧ RX12 ≠ RL := ⟨by decide +kernel, rfl, by decide +kernel⟩
theorem kX12_lettersOfAll : Cond.instanceMethod yX12_lettersOfAll ∈ lw_good ∧ Cond.selects RX12 yX12_lettersOfAll yX12_lettersOfAll ∈ lw_good ∧ CkN mX12_lettersOfAll 0 := ⟨lw_gi 1426 (by decide +kernel) (by decide +kernel), lw_gi 59 (by decide +kernel) (by decide +kernel), ⟨lw_gi 1427 (by decide +kernel) (by decide +kernel), lw_gi 71 (by decide +kernel) (by decide +kernel), ⟨rfl, by decide +kernel, by decide +kernel, by decide +kernel⟩, by decide⟩⟩
abbrev mX12_lost : Mth := (RX12, yX12_lost, cX12_lost, 14, (some .long))
theorem hX12_lost : plainName yX12_lost.cls = true ∧ yX12_lost.cls = RX12 ∧ RX12 ≠ RL := ⟨by decide +kernel, rfl, by decide +kernel⟩
theorem kX12_lost : Cond.instanceMethod yX12_lost ∈ lw_good ∧ Cond.selects RX12 yX12_lost yX12_lost ∈ lw_good ∧ CkN mX12_lost 4 := ⟨lw_gi 1356 (by decide +kernel) (by decide +kernel), lw_gi 1357 (by decide +kernel) (by decide +kernel), ⟨lw_gi 1358 (by decide +kernel) (by decide +kernel), lw_gi 71 (by decide +kernel) (by decide +kernel), ⟨rfl, by decide +kernel, by decide +kernel, by decide +kernel⟩, by decide⟩⟩
abbrev mX12_lowest : Mth := (RX12, yX12_lowest, cX12_lowest, 11, (some .long))
theorem hX12_lowest : plainName yX12_lowest.cls = true ∧ yX12_lowest.cls = RX12 ∧ RX12 ≠ RL := ⟨by decide +kernel, rfl, by decide +kernel⟩
theorem kX12_lowest : Cond.static yX12_lowest ∈ lw_good ∧ CkN mX12_lowest 3 := ⟨lw_gi 1289 (by decide +kernel) (by decide +kernel), ⟨lw_gi 1290 (by decide +kernel) (by decide +kernel), lw_gi 71 (by decide +kernel) (by decide +kernel), ⟨rfl, by decide +kernel, by decide +kernel, by decide +kernel⟩, by decide⟩⟩
abbrev mX12_markOf : Mth := (RX12, yX12_markOf, cX12_markOf, 4, (some .int))
theorem hX12_markOf : plainName yX12_markOf.cls = true ∧ yX12_markOf.cls = RX12 ∧ RX12 ≠ RL := ⟨by decide +kernel, rfl, by decide +kernel⟩
theorem kX12_markOf : Cond.instanceMethod yX12_markOf ∈ lw_good ∧ Cond.selects RX12 yX12_markOf yX12_markOf ∈ lw_good ∧ CkN mX12_markOf 1 := ⟨lw_gi 1414 (by decide +kernel) (by decide +kernel), lw_gi 58 (by decide +kernel) (by decide +kernel), ⟨lw_gi 1415 (by decide +kernel) (by decide +kernel), lw_gi 71 (by decide +kernel) (by decide +kernel), ⟨rfl, by decide +kernel, by decide +kernel, by decide +kernel⟩, by decide⟩⟩
abbrev mX12_must : Mth := (RX12, yX12_must, cX12_must, 2, none)
theorem hX12_must : plainName yX12_must.cls = true ∧ yX12_must.cls = RX12 ∧ RX12 ≠ RL := ⟨by decide +kernel, rfl, by decide +kernel⟩
theorem kX12_must : Cond.instanceMethod yX12_must ∈ lw_good ∧ Cond.selects RX12 yX12_must yX12_must ∈ lw_good ∧ CkN mX12_must 1 := ⟨lw_gi 1133 (by decide +kernel) (by decide +kernel), lw_gi 31 (by decide +kernel) (by decide +kernel), ⟨lw_gi 1134 (by decide +kernel) (by decide +kernel), lw_gi 71 (by decide +kernel) (by decide +kernel), ⟨rfl, by decide +kernel, by decide +kernel, by decide +kernel⟩, by decide⟩⟩
abbrev mX12_mustSign : Mth := (RX12, yX12_mustSign, cX12_mustSign, 2, none)
theorem hX12_mustSign : plainName yX12_mustSign.cls = true ∧ yX12_mustSign.cls = RX12 ∧ RX12 ≠ RL := ⟨by decide +kernel, rfl, by decide +kernel⟩
theorem kX12_mustSign : Cond.instanceMethod yX12_mustSign ∈ lw_good ∧ Cond.selects RX12 yX12_mustSign yX12_mustSign ∈ lw_good ∧ CkN mX12_mustSign 1 := ⟨lw_gi 1145 (by decide +kernel) (by decide +kernel), lw_gi 34 (by decide +kernel) (by decide +kernel), ⟨lw_gi 1146 (by decide +kernel) (by decide +kernel), lw_gi 71 (by decide +kernel) (by decide +kernel), ⟨rfl, by decide +kernel, by decide +kernel, by decide +kernel⟩, by decide⟩⟩
abbrev mX12_nextToken : Mth := (RX12, yX12_nextToken, cX12_nextToken, 1, none)
theorem hX12_nextToken : plainName yX12_nextToken.cls = true ∧ yX12_nextToken.cls = RX12 ∧ RX12 ≠ RL := ⟨by decide +kernel, rfl, by decide +kernel⟩
theorem kX12_nextToken : Cond.instanceMethod yX12_nextToken ∈ lw_good ∧ Cond.selects RX12 yX12_nextToken yX12_nextToken ∈ lw_good ∧ CkN mX12_nextToken 0 := ⟨lw_gi 1124 (by decide +kernel) (by decide +kernel), lw_gi 30 (by decide +kernel) (by decide +kernel), ⟨lw_gi 1125 (by decide +kernel) (by decide +kernel), lw_gi 71 (by decide +kernel) (by decide +kernel), ⟨rfl, by decide +kernel, by decide +kernel, by decide +kernel⟩, by decide⟩⟩
abbrev mX12_numbers : Mth := (RX12, yX12_numbers, cX12_numbers, 3, (some .long))
theorem hX12_numbers : plainName yX12_numbers.cls = true ∧ yX12_numbers.cls = RX12 ∧ RX12 ≠ RL := ⟨by decide +kernel, rfl, by decide +kernel⟩
theorem kX12_numbers : Cond.instanceMethod yX12_numbers ∈ lw_good ∧ Cond.selects RX12 yX12_numbers yX12_numbers ∈ lw_good ∧ CkN mX12_numbers 2 := ⟨lw_gi 1271 (by decide +kernel) (by decide +kernel), lw_gi 1272 (by decide +kernel) (by decide +kernel), ⟨lw_gi 1273 (by decide +kernel) (by decide +kernel), lw_gi 71 (by decide +kernel) (by decide +kernel), ⟨rfl, by decide +kernel, by decide +kernel, by decide +kernel⟩, by decide⟩⟩
abbrev mX12_oftenIn : Mth := (RX12, yX12_oftenIn, cX12_oftenIn, 5, (some .int))
theorem hX12_oftenIn : plainName yX12_oftenIn.cls = true ∧ yX12_oftenIn.cls = RX12 ∧ RX12 ≠ RL := ⟨by decide +kernel, rfl, by decide +kernel⟩
theorem kX12_oftenIn : Cond.instanceMethod yX12_oftenIn ∈ lw_good ∧ Cond.selects RX12 yX12_oftenIn yX12_oftenIn ∈ lw_good ∧ CkN mX12_oftenIn 2 := ⟨lw_gi 1361 (by decide +kernel) (by decide +kernel), lw_gi 53 (by decide +kernel) (by decide +kernel), ⟨lw_gi 1362 (by decide +kernel) (by decide +kernel), lw_gi 71 (by decide +kernel) (by decide +kernel), ⟨rfl, by decide +kernel, by decide +kernel, by decide +kernel⟩, by decide⟩⟩
abbrev mX12_origin : Mth := (RX12, yX12_origin, cX12_origin, 8, (some .int))
theorem hX12_origin : plainName yX12_origin.cls = true ∧ yX12_origin.cls = RX12 ∧ RX12 ≠ RL := ⟨by decide +kernel, rfl, by decide +kernel⟩
theorem kX12_origin : Cond.instanceMethod yX12_origin ∈ lw_good ∧ Cond.selects RX12 yX12_origin yX12_origin ∈ lw_good ∧ CkN mX12_origin 3 := ⟨lw_gi 1256 (by decide +kernel) (by decide +kernel), lw_gi 1257 (by decide +kernel) (by decide +kernel), ⟨lw_gi 1258 (by decide +kernel) (by decide +kernel), lw_gi 71 (by decide +kernel) (by decide +kernel), ⟨rfl, by decide +kernel, by decide +kernel, by decide +kernel⟩, by decide⟩⟩
abbrev mX12_pairsOf : Mth := (RX12, yX12_pairsOf, cX12_pairsOf, 6, (some .int))
theorem hX12_pairsOf : plainName yX12_pairsOf.cls = true ∧ yX12_pairsOf.cls = RX12 ∧ RX12 ≠ RL := ⟨by decide +kernel, rfl, by decide +kernel⟩
theorem kX12_pairsOf : Cond.static yX12_pairsOf ∈ lw_good ∧ CkN mX12_pairsOf 1 := ⟨lw_gi 1308 (by decide +kernel) (by decide +kernel), ⟨lw_gi 1309 (by decide +kernel) (by decide +kernel), lw_gi 71 (by decide +kernel) (by decide +kernel), ⟨rfl, by decide +kernel, by decide +kernel, by decide +kernel⟩, by decide⟩⟩
abbrev mX12_place : Mth := (RX12, yX12_place, cX12_place, 8, (some .long))
theorem hX12_place : plainName yX12_place.cls = true ∧ yX12_place.cls = RX12 ∧ RX12 ≠ RL := ⟨by decide +kernel, rfl, by decide +kernel⟩
theorem kX12_place : Cond.instanceMethod yX12_place ∈ lw_good ∧ Cond.selects RX12 yX12_place yX12_place ∈ lw_good ∧ CkN mX12_place 3 := ⟨lw_gi 1260 (by decide +kernel) (by decide +kernel), lw_gi 1261 (by decide +kernel) (by decide +kernel), ⟨lw_gi 1262 (by decide +kernel) (by decide +kernel), lw_gi 71 (by decide +kernel) (by decide +kernel), ⟨rfl, by decide +kernel, by decide +kernel, by decide +kernel⟩, by decide⟩⟩
abbrev mX12_plus : Mth := (RX12, yX12_plus, cX12_plus, 5, (some .long))
theorem hX12_plus : plainName yX12_plus.cls = true ∧ yX12_plus.cls = RX12 ∧ RX12 ≠ RL := ⟨by decide +kernel, rfl, by decide +kernel⟩
theorem kX12_plus : Cond.instanceMethod yX12_plus ∈ lw_good ∧ Cond.selects RX12 yX12_plus yX12_plus ∈ lw_good ∧ CkN mX12_plus 2 := ⟨lw_gi 1281 (by decide +kernel) (by decide +kernel), lw_gi 45 (by decide +kernel) (by decide +kernel), ⟨lw_gi 1282 (by decide +kernel) (by decide +kernel), lw_gi 71 (by decide +kernel) (by decide +kernel), ⟨rfl, by decide +kernel, by decide +kernel, by decide +kernel⟩, by decide⟩⟩
abbrev mX12_quiet : Mth := (RX12, yX12_quiet, cX12_quiet, 4, (some .int))
theorem hX12_quiet : plainName yX12_quiet.cls = true ∧ yX12_quiet.cls = RX12 ∧ RX12 ≠ RL := ⟨by decide +kernel, rfl, by decide +kernel⟩
theorem kX12_quiet : Cond.instanceMethod yX12_quiet ∈ lw_good ∧ Cond.selects RX12 yX12_quiet yX12_quiet ∈ lw_good ∧ CkN mX12_quiet 0 := ⟨lw_gi 1347 (by decide +kernel) (by decide +kernel), lw_gi 1348 (by decide +kernel) (by decide +kernel), ⟨lw_gi 1349 (by decide +kernel) (by decide +kernel), lw_gi 71 (by decide +kernel) (by decide +kernel), ⟨rfl, by decide +kernel, by decide +kernel, by decide +kernel⟩, by decide⟩⟩
abbrev mX12_readSort : Mth := (RX12, yX12_readSort, cX12_readSort, 3, none)
theorem hX12_readSort : plainName yX12_readSort.cls = true ∧ yX12_readSort.cls = RX12 ∧ RX12 ≠ RL := ⟨by decide +kernel, rfl, by decide +kernel⟩
theorem kX12_readSort : Cond.instanceMethod yX12_readSort ∈ lw_good ∧ Cond.selects RX12 yX12_readSort yX12_readSort ∈ lw_good ∧ CkN mX12_readSort 0 := ⟨lw_gi 1149 (by decide +kernel) (by decide +kernel), lw_gi 35 (by decide +kernel) (by decide +kernel), ⟨lw_gi 1150 (by decide +kernel) (by decide +kernel), lw_gi 71 (by decide +kernel) (by decide +kernel), ⟨rfl, by decide +kernel, by decide +kernel, by decide +kernel⟩, by decide⟩⟩
abbrev mX12_readWord : Mth := (RX12, yX12_readWord, cX12_readWord, 4, (some .int))
theorem hX12_readWord : plainName yX12_readWord.cls = true ∧ yX12_readWord.cls = RX12 ∧ RX12 ≠ RL := ⟨by decide +kernel, rfl, by decide +kernel⟩
theorem kX12_readWord : Cond.instanceMethod yX12_readWord ∈ lw_good ∧ Cond.selects RX12 yX12_readWord yX12_readWord ∈ lw_good ∧ CkN mX12_readWord 2 := ⟨lw_gi 1156 (by decide +kernel) (by decide +kernel), lw_gi 36 (by decide +kernel) (by decide +kernel), ⟨lw_gi 1157 (by decide +kernel) (by decide +kernel), lw_gi 71 (by decide +kernel) (by decide +kernel), ⟨rfl, by decide +kernel, by decide +kernel, by decide +kernel⟩, by decide⟩⟩
abbrev mX12_restore : Mth := (RX12, yX12_restore, cX12_restore, 3, (some .int))
theorem hX12_restore : plainName yX12_restore.cls = true ∧ yX12_restore.cls = RX12 ∧ RX12 ≠ RL := ⟨by decide +kernel, rfl, by decide +kernel⟩
theorem kX12_restore : Cond.instanceMethod yX12_restore ∈ lw_good ∧ Cond.selects RX12 yX12_restore yX12_restore ∈ lw_good ∧ CkN mX12_restore 1 := ⟨lw_gi 1378 (by decide +kernel) (by decide +kernel), lw_gi 1379 (by decide +kernel) (by decide +kernel), ⟨lw_gi 1380 (by decide +kernel) (by decide +kernel), lw_gi 71 (by decide +kernel) (by decide +kernel), ⟨rfl, by decide +kernel, by decide +kernel, by decide +kernel⟩, by decide⟩⟩
abbrev mX12_root : Mth := (RX12, yX12_root, cX12_root, 4, (some .int))
theorem hX12_root : plainName yX12_root.cls = true ∧ yX12_root.cls = RX12 ∧ RX12 ≠ RL := ⟨by decide +kernel, rfl, by decide +kernel⟩
theorem kX12_root : Cond.instanceMethod yX12_root ∈ lw_good ∧ Cond.selects RX12 yX12_root yX12_root ∈ lw_good ∧ CkN mX12_root 2 := ⟨lw_gi 1207 (by decide +kernel) (by decide +kernel), lw_gi 1208 (by decide +kernel) (by decide +kernel), ⟨lw_gi 1209 (by decide +kernel) (by decide +kernel), lw_gi 71 (by decide +kernel) (by decide +kernel), ⟨rfl, by decide +kernel, by decide +kernel, by decide +kernel⟩, by decide⟩⟩
abbrev mX12_row : Mth := (RX12, yX12_row, cX12_row, 5, (some .int))
theorem hX12_row : plainName yX12_row.cls = true ∧ yX12_row.cls = RX12 ∧ RX12 ≠ RL := ⟨by decide +kernel, rfl, by decide +kernel⟩
theorem kX12_row : Cond.instanceMethod yX12_row ∈ lw_good ∧ Cond.selects RX12 yX12_row yX12_row ∈ lw_good ∧ CkN mX12_row 3 := ⟨lw_gi 1083 (by decide +kernel) (by decide +kernel), lw_gi 1084 (by decide +kernel) (by decide +kernel), ⟨lw_gi 1085 (by decide +kernel) (by decide +kernel), lw_gi 71 (by decide +kernel) (by decide +kernel), ⟨rfl, by decide +kernel, by decide +kernel, by decide +kernel⟩, by decide⟩⟩
abbrev mX12_scale : Mth := (RX12, yX12_scale, cX12_scale, 3, (some .int))
theorem hX12_scale : plainName yX12_scale.cls = true ∧ yX12_scale.cls = RX12 ∧ RX12 ≠ RL := ⟨by decide +kernel, rfl, by decide +kernel⟩
theorem kX12_scale : Cond.instanceMethod yX12_scale ∈ lw_good ∧ Cond.selects RX12 yX12_scale yX12_scale ∈ lw_good ∧ CkN mX12_scale 0 := ⟨lw_gi 1301 (by decide +kernel) (by decide +kernel), lw_gi 46 (by decide +kernel) (by decide +kernel), ⟨lw_gi 1302 (by decide +kernel) (by decide +kernel), lw_gi 71 (by decide +kernel) (by decide +kernel), ⟨rfl, by decide +kernel, by decide +kernel, by decide +kernel⟩, by decide⟩⟩
abbrev mX12_set : Mth := (RX12, yX12_set, cX12_set, 4, (some .int))
theorem hX12_set : plainName yX12_set.cls = true ∧ yX12_set.cls = RX12 ∧ RX12 ≠ RL := ⟨by decide +kernel, rfl, by decide +kernel⟩
theorem kX12_set : Cond.instanceMethod yX12_set ∈ lw_good ∧ Cond.selects RX12 yX12_set yX12_set ∈ lw_good ∧ CkN mX12_set 3 := ⟨lw_gi 1101 (by decide +kernel) (by decide +kernel), lw_gi 1102 (by decide +kernel) (by decide +kernel), ⟨lw_gi 1103 (by decide +kernel) (by decide +kernel), lw_gi 71 (by decide +kernel) (by decide +kernel), ⟨rfl, by decide +kernel, by decide +kernel, by decide +kernel⟩, by decide⟩⟩
abbrev mX12_sets : Mth := (RX12, yX12_sets, cX12_sets, 10, (some .int))
theorem hX12_sets : plainName yX12_sets.cls = true ∧ yX12_sets.cls = RX12 ∧ RX12 ≠ RL := ⟨by decide +kernel, rfl, by decide +kernel⟩
theorem kX12_sets : Cond.instanceMethod yX12_sets ∈ lw_good ∧ Cond.selects RX12 yX12_sets yX12_sets ∈ lw_good ∧ CkN mX12_sets 2 := ⟨lw_gi 1351 (by decide +kernel) (by decide +kernel), lw_gi 1352 (by decide +kernel) (by decide +kernel), ⟨lw_gi 1353 (by decide +kernel) (by decide +kernel), lw_gi 71 (by decide +kernel) (by decide +kernel), ⟨rfl, by decide +kernel, by decide +kernel, by decide +kernel⟩, by decide⟩⟩
abbrev mX12_share : Mth := (RX12, yX12_share, cX12_share, 7, (some .long))
theorem hX12_share : plainName yX12_share.cls = true ∧ yX12_share.cls = RX12 ∧ RX12 ≠ RL := ⟨by decide +kernel, rfl, by decide +kernel⟩
theorem kX12_share : Cond.instanceMethod yX12_share ∈ lw_good ∧ Cond.selects RX12 yX12_share yX12_share ∈ lw_good ∧ CkN mX12_share 3 := ⟨lw_gi 1285 (by decide +kernel) (by decide +kernel), lw_gi 1286 (by decide +kernel) (by decide +kernel), ⟨lw_gi 1287 (by decide +kernel) (by decide +kernel), lw_gi 71 (by decide +kernel) (by decide +kernel), ⟨rfl, by decide +kernel, by decide +kernel, by decide +kernel⟩, by decide⟩⟩
abbrev mX12_sizeOf : Mth := (RX12, yX12_sizeOf, cX12_sizeOf, 3, (some .int))
theorem hX12_sizeOf : plainName yX12_sizeOf.cls = true ∧ yX12_sizeOf.cls = RX12 ∧ RX12 ≠ RL := ⟨by decide +kernel, rfl, by decide +kernel⟩
theorem kX12_sizeOf : Cond.static yX12_sizeOf ∈ lw_good ∧ CkN mX12_sizeOf 1 := ⟨lw_gi 1314 (by decide +kernel) (by decide +kernel), ⟨lw_gi 1315 (by decide +kernel) (by decide +kernel), lw_gi 71 (by decide +kernel) (by decide +kernel), ⟨rfl, by decide +kernel, by decide +kernel, by decide +kernel⟩, by decide⟩⟩
abbrev mX12_sort : Mth := (RX12, yX12_sort, cX12_sort, 3, (some .int))
theorem hX12_sort : plainName yX12_sort.cls = true ∧ yX12_sort.cls = RX12 ∧ RX12 ≠ RL := ⟨by decide +kernel, rfl, by decide +kernel⟩
theorem kX12_sort : Cond.instanceMethod yX12_sort ∈ lw_good ∧ Cond.selects RX12 yX12_sort yX12_sort ∈ lw_good ∧ CkN mX12_sort 2 := ⟨lw_gi 1239 (by decide +kernel) (by decide +kernel), lw_gi 1240 (by decide +kernel) (by decide +kernel), ⟨lw_gi 1241 (by decide +kernel) (by decide +kernel), lw_gi 71 (by decide +kernel) (by decide +kernel), ⟨rfl, by decide +kernel, by decide +kernel, by decide +kernel⟩, by decide⟩⟩
abbrev mX12_sortOf : Mth := (RX12, yX12_sortOf, cX12_sortOf, 1, (some .int))
theorem hX12_sortOf : plainName yX12_sortOf.cls = true ∧ yX12_sortOf.cls = RX12 ∧ RX12 ≠ RL := ⟨by decide +kernel, rfl, by decide +kernel⟩
theorem kX12_sortOf : Cond.static yX12_sortOf ∈ lw_good ∧ CkN mX12_sortOf 1 := ⟨lw_gi 1152 (by decide +kernel) (by decide +kernel), ⟨lw_gi 1153 (by decide +kernel) (by decide +kernel), lw_gi 71 (by decide +kernel) (by decide +kernel), ⟨rfl, by decide +kernel, by decide +kernel, by decide +kernel⟩, by decide⟩⟩
abbrev mX12_status : Mth := (RX12, yX12_status, cX12_status, 1, (some .int))
theorem hX12_status : plainName yX12_status.cls = true ∧ yX12_status.cls = RX12 ∧ RX12 ≠ RL := ⟨by decide +kernel, rfl, by decide +kernel⟩
theorem kX12_status : Cond.instanceMethod yX12_status ∈ lw_good ∧ Cond.selects RX12 yX12_status yX12_status ∈ lw_good ∧ CkN mX12_status 0 := ⟨lw_gi 1429 (by decide +kernel) (by decide +kernel), lw_gi 1430 (by decide +kernel) (by decide +kernel), ⟨lw_gi 1431 (by decide +kernel) (by decide +kernel), lw_gi 71 (by decide +kernel) (by decide +kernel), ⟨rfl, by decide +kernel, by decide +kernel, by decide +kernel⟩, by decide⟩⟩
abbrev mX12_trace : Mth := (RX12, yX12_trace, cX12_trace, 2, (some .int))
theorem hX12_trace : plainName yX12_trace.cls = true ∧ yX12_trace.cls = RX12 ∧ RX12 ≠ RL := ⟨by decide +kernel, rfl, by decide +kernel⟩
theorem kX12_trace : Cond.instanceMethod yX12_trace ∈ lw_good ∧ Cond.selects RX12 yX12_trace yX12_trace ∈ lw_good ∧ CkN mX12_trace 1 := ⟨lw_gi 1417 (by decide +kernel) (by decide +kernel), lw_gi 1418 (by decide +kernel) (by decide +kernel), ⟨lw_gi 1419 (by decide +kernel) (by decide +kernel), lw_gi 71 (by decide +kernel) (by decide +kernel), ⟨rfl, by decide +kernel, by decide +kernel, by decide +kernel⟩, by decide⟩⟩
abbrev mX12_undo : Mth := (RX12, yX12_undo, cX12_undo, 2, (some .int))
theorem hX12_undo : plainName yX12_undo.cls = true ∧ yX12_undo.cls = RX12 ∧ RX12 ≠ RL := ⟨by decide +kernel, rfl, by decide +kernel⟩
theorem kX12_undo : Cond.instanceMethod yX12_undo ∈ lw_good ∧ Cond.selects RX12 yX12_undo yX12_undo ∈ lw_good ∧ CkN mX12_undo 0 := ⟨lw_gi 1165 (by decide +kernel) (by decide +kernel), lw_gi 1166 (by decide +kernel) (by decide +kernel), ⟨lw_gi 1167 (by decide +kernel) (by decide +kernel), lw_gi 71 (by decide +kernel) (by decide +kernel), ⟨rfl, by decide +kernel, by decide +kernel, by decide +kernel⟩, by decide⟩⟩
abbrev mX12_who : Mth := (RX12, yX12_who, cX12_who, 10, (some .int))
theorem hX12_who : plainName yX12_who.cls = true ∧ yX12_who.cls = RX12 ∧ RX12 ≠ RL := ⟨by decide +kernel, rfl, by decide +kernel⟩
theorem kX12_who : Cond.instanceMethod yX12_who ∈ lw_good ∧ Cond.selects RX12 yX12_who yX12_who ∈ lw_good ∧ CkN mX12_who 6 := ⟨lw_gi 1335 (by decide +kernel) (by decide +kernel), lw_gi 1336 (by decide +kernel) (by decide +kernel), ⟨lw_gi 1337 (by decide +kernel) (by decide +kernel), lw_gi 71 (by decide +kernel) (by decide +kernel), ⟨rfl, by decide +kernel, by decide +kernel, by decide +kernel⟩, by decide⟩⟩
abbrev mX12_whole : Mth := (RX12, yX12_whole, cX12_whole, 3, (some .int))
theorem hX12_whole : plainName yX12_whole.cls = true ∧ yX12_whole.cls = RX12 ∧ RX12 ≠ RL := ⟨by decide +kernel, rfl, by decide +kernel⟩
theorem kX12_whole : Cond.instanceMethod yX12_whole ∈ lw_good ∧ Cond.selects RX12 yX12_whole yX12_whole ∈ lw_good ∧ CkN mX12_whole 1 := ⟨lw_gi 1296 (by decide +kernel) (by decide +kernel), lw_gi 1297 (by decide +kernel) (by decide +kernel), ⟨lw_gi 1298 (by decide +kernel) (by decide +kernel), lw_gi 71 (by decide +kernel) (by decide +kernel), ⟨rfl, by decide +kernel, by decide +kernel, by decide +kernel⟩, by decide⟩⟩
abbrev mX12_word : Mth := (RX12, yX12_word, cX12_word, 7, (some .int))
theorem hX12_word : plainName yX12_word.cls = true ∧ yX12_word.cls = RX12 ∧ RX12 ≠ RL := ⟨by decide +kernel, rfl, by decide +kernel⟩
theorem kX12_word : Cond.instanceMethod yX12_word ∈ lw_good ∧ Cond.selects RX12 yX12_word yX12_word ∈ lw_good ∧ CkN mX12_word 3 := ⟨lw_gi 1170 (by decide +kernel) (by decide +kernel), lw_gi 1171 (by decide +kernel) (by decide +kernel), ⟨lw_gi 1172 (by decide +kernel) (by decide +kernel), lw_gi 71 (by decide +kernel) (by decide +kernel), ⟨rfl, by decide +kernel, by decide +kernel, by decide +kernel⟩, by decide⟩⟩
abbrev mX12_wordSize : Mth := (RX12, yX12_wordSize, cX12_wordSize, 2, (some .int))
theorem hX12_wordSize : plainName yX12_wordSize.cls = true ∧ yX12_wordSize.cls = RX12 ∧ RX12 ≠ RL := ⟨by decide +kernel, rfl, by decide +kernel⟩
theorem kX12_wordSize : Cond.static yX12_wordSize ∈ lw_good ∧ CkN mX12_wordSize 2 := ⟨lw_gi 1191 (by decide +kernel) (by decide +kernel), ⟨lw_gi 1192 (by decide +kernel) (by decide +kernel), lw_gi 71 (by decide +kernel) (by decide +kernel), ⟨rfl, by decide +kernel, by decide +kernel, by decide +kernel⟩, by decide⟩⟩
abbrev mX1_commonDivisor : Mth := (RX1, yX1_commonDivisor, cX1_commonDivisor, 11, (some .long))
theorem hX1_commonDivisor : plainName yX1_commonDivisor.cls = true ∧ yX1_commonDivisor.cls = RX1 ∧ RX1 ≠ RL := ⟨by decide +kernel, rfl, by decide +kernel⟩
theorem kX1_commonDivisor : Cond.static yX1_commonDivisor ∈ lw_good ∧ CkN mX1_commonDivisor 2 := ⟨lw_gi 723 (by decide +kernel) (by decide +kernel), ⟨lw_gi 724 (by decide +kernel) (by decide +kernel), lw_gi 73 (by decide +kernel) (by decide +kernel), ⟨rfl, by decide +kernel, by decide +kernel, by decide +kernel⟩, by decide⟩⟩
abbrev mX1_partOfFraction : Mth := (RX1, yX1_partOfFraction, cX1_partOfFraction, 7, (some .long))
theorem hX1_partOfFraction : plainName yX1_partOfFraction.cls = true ∧ yX1_partOfFraction.cls = RX1 ∧ RX1 ≠ RL := ⟨by decide +kernel, rfl, by decide +kernel⟩
theorem kX1_partOfFraction : Cond.static yX1_partOfFraction ∈ lw_good ∧ CkN mX1_partOfFraction 3 := ⟨lw_gi 720 (by decide +kernel) (by decide +kernel), ⟨lw_gi 721 (by decide +kernel) (by decide +kernel), lw_gi 73 (by decide +kernel) (by decide +kernel), ⟨rfl, by decide +kernel, by decide +kernel, by decide +kernel⟩, by decide⟩⟩
abbrev mX1_plus : Mth := (RX1, yX1_plus, cX1_plus, 4, (some .long))
theorem hX1_plus : plainName yX1_plus.cls = true ∧ yX1_plus.cls = RX1 ∧ RX1 ≠ RL := ⟨by decide +kernel, rfl, by decide +kernel⟩
theorem kX1_plus : Cond.static yX1_plus ∈ lw_good ∧ CkN mX1_plus 2 := ⟨lw_gi 699 (by decide +kernel) (by decide +kernel), ⟨lw_gi 700 (by decide +kernel) (by decide +kernel), lw_gi 73 (by decide +kernel) (by decide +kernel), ⟨rfl, by decide +kernel, by decide +kernel, by decide +kernel⟩, by decide⟩⟩
abbrev mX1_times : Mth := (RX1, yX1_times, cX1_times, 3, (some .long))
theorem hX1_times : plainName yX1_times.cls = true ∧ yX1_times.cls = RX1 ∧ RX1 ≠ RL := ⟨by decide +kernel, rfl, by decide +kernel⟩
theorem kX1_times : Cond.static yX1_times ∈ lw_good ∧ CkN mX1_times 2 := ⟨lw_gi 694 (by decide +kernel) (by decide +kernel), ⟨lw_gi 695 (by decide +kernel) (by decide +kernel), lw_gi 73 (by decide +kernel) (by decide +kernel), ⟨rfl, by decide +kernel, by decide +kernel, by decide +kernel⟩, by decide⟩⟩
abbrev mX2_add : Mth := (RX2, yX2_add, cX2_add, 2, none)
theorem hX2_add : plainName yX2_add.cls = true ∧ yX2_add.cls = RX2 ∧ RX2 ≠ RL := ⟨by decide +kernel, rfl, by decide +kernel⟩
theorem kX2_add : Cond.instanceMethod yX2_add ∈ lw_good ∧ Cond.selects RX2 yX2_add yX2_add ∈ lw_good ∧ CkN mX2_add 1 := ⟨lw_gi 793 (by decide +kernel) (by decide +kernel), lw_gi 794 (by decide +kernel) (by decide +kernel), ⟨lw_gi 795 (by decide +kernel) (by decide +kernel), lw_gi 68 (by decide +kernel) (by decide +kernel), ⟨rfl, by decide +kernel, by decide +kernel, by decide +kernel⟩, by decide⟩⟩
abbrev mX2_clear : Mth := (RX2, yX2_clear, cX2_clear, 1, none)
theorem hX2_clear : plainName yX2_clear.cls = true ∧ yX2_clear.cls = RX2 ∧ RX2 ≠ RL := ⟨by decide +kernel, rfl, by decide +kernel⟩
theorem kX2_clear : Cond.instanceMethod yX2_clear ∈ lw_good ∧ Cond.selects RX2 yX2_clear yX2_clear ∈ lw_good ∧ CkN mX2_clear 0 := ⟨lw_gi 789 (by decide +kernel) (by decide +kernel), lw_gi 790 (by decide +kernel) (by decide +kernel), ⟨lw_gi 791 (by decide +kernel) (by decide +kernel), lw_gi 68 (by decide +kernel) (by decide +kernel), ⟨rfl, by decide +kernel, by decide +kernel, by decide +kernel⟩, by decide⟩⟩
abbrev mX2_leastAt : Mth := (RX2, yX2_leastAt, cX2_leastAt, 4, (some .int))
theorem hX2_leastAt : plainName yX2_leastAt.cls = true ∧ yX2_leastAt.cls = RX2 ∧ RX2 ≠ RL := ⟨by decide +kernel, rfl, by decide +kernel⟩
theorem kX2_leastAt : Cond.instanceMethod yX2_leastAt ∈ lw_good ∧ Cond.selects RX2 yX2_leastAt yX2_leastAt ∈ lw_good ∧ CkN mX2_leastAt 2 := ⟨lw_gi 821 (by decide +kernel) (by decide +kernel), lw_gi 20 (by decide +kernel) (by decide +kernel), ⟨lw_gi 822 (by decide +kernel) (by decide +kernel), lw_gi 68 (by decide +kernel) (by decide +kernel), ⟨rfl, by decide +kernel, by decide +kernel, by decide +kernel⟩, by decide⟩⟩
abbrev mX2_letterOfFirst : Mth := (RX2, yX2_letterOfFirst, cX2_letterOfFirst, 6, (some .int))
theorem hX2_letterOfFirst : plainName yX2_letterOfFirst.cls = true ∧ yX2_letterOfFirst.cls = RX2 ∧ RX2 ≠ RL := ⟨by decide +kernel, rfl, by decide +kernel⟩
theorem kX2_letterOfFirst : Cond.instanceMethod yX2_letterOfFirst ∈ lw_good ∧ Cond.selects RX2 yX2_letterOfFirst yX2_letterOfFirst ∈ lw_good ∧ CkN mX2_letterOfFirst 2 := ⟨lw_gi 816 (by decide +kernel) (by decide +kernel), lw_gi 817 (by decide +kernel) (by decide +kernel), ⟨lw_gi 818 (by decide +kernel) (by decide +kernel), lw_gi 68 (by decide +kernel) (by decide +kernel), ⟨rfl, by decide +kernel, by decide +kernel, by decide +kernel⟩, by decide⟩⟩
abbrev mX2_liesAt : Mth := (RX2, yX2_liesAt, cX2_liesAt, 6, (some .boolean))
theorem hX2_liesAt : plainName yX2_liesAt.cls = true ∧ yX2_liesAt.cls = RX2 ∧ RX2 ≠ RL := ⟨by decide +kernel, rfl, by decide +kernel⟩
theorem kX2_liesAt : Cond.instanceMethod yX2_liesAt ∈ lw_good ∧ Cond.selects RX2 yX2_liesAt yX2_liesAt ∈ lw_good ∧ CkN mX2_liesAt 3 := ⟨lw_gi 803 (by decide +kernel) (by decide +kernel), lw_gi 19 (by decide +kernel) (by decide +kernel), ⟨lw_gi 804 (by decide +kernel) (by decide +kernel), lw_gi 68 (by decide +kernel) (by decide +kernel), ⟨rfl, by decide +kernel, by decide +kernel, by decide +kernel⟩, by decide⟩⟩
abbrev mX2_unfold : Mth := (RX2, yX2_unfold, cX2_unfold, 5, none)
theorem hX2_unfold : plainName yX2_unfold.cls = true ∧ yX2_unfold.cls = RX2 ∧ RX2 ≠ RL := ⟨by decide +kernel, rfl, by decide +kernel⟩
theorem kX2_unfold : Cond.instanceMethod yX2_unfold ∈ lw_good ∧ Cond.selects RX2 yX2_unfold yX2_unfold ∈ lw_good ∧ CkN mX2_unfold 1 := ⟨lw_gi 797 (by decide +kernel) (by decide +kernel), lw_gi 798 (by decide +kernel) (by decide +kernel), ⟨lw_gi 799 (by decide +kernel) (by decide +kernel), lw_gi 68 (by decide +kernel) (by decide +kernel), ⟨rfl, by decide +kernel, by decide +kernel, by decide +kernel⟩, by decide⟩⟩
abbrev mX2_ways : Mth := (RX2, yX2_ways, cX2_ways, 1, (some .int))
theorem hX2_ways : plainName yX2_ways.cls = true ∧ yX2_ways.cls = RX2 ∧ RX2 ≠ RL := ⟨by decide +kernel, rfl, by decide +kernel⟩
theorem kX2_ways : Cond.instanceMethod yX2_ways ∈ lw_good ∧ Cond.selects RX2 yX2_ways yX2_ways ∈ lw_good ∧ CkN mX2_ways 0 := ⟨lw_gi 812 (by decide +kernel) (by decide +kernel), lw_gi 813 (by decide +kernel) (by decide +kernel), ⟨lw_gi 814 (by decide +kernel) (by decide +kernel), lw_gi 68 (by decide +kernel) (by decide +kernel), ⟨rfl, by decide +kernel, by decide +kernel, by decide +kernel⟩, by decide⟩⟩
abbrev mX3_ancestor : Mth := (RX3, yX3_ancestor, cX3_ancestor, 6, (some .int))
theorem hX3_ancestor : plainName yX3_ancestor.cls = true ∧ yX3_ancestor.cls = RX3 ∧ RX3 ≠ RL := ⟨by decide +kernel, rfl, by decide +kernel⟩
theorem kX3_ancestor : Cond.instanceMethod yX3_ancestor ∈ lw_good ∧ Cond.selects RX3 yX3_ancestor yX3_ancestor ∈ lw_good ∧ CkN mX3_ancestor 3 := ⟨lw_gi 648 (by decide +kernel) (by decide +kernel), lw_gi 649 (by decide +kernel) (by decide +kernel), ⟨lw_gi 650 (by decide +kernel) (by decide +kernel), lw_gi 66 (by decide +kernel) (by decide +kernel), ⟨rfl, by decide +kernel, by decide +kernel, by decide +kernel⟩, by decide⟩⟩
abbrev mX3_grow : Mth := (RX3, yX3_grow, cX3_grow, 4, (some .boolean))
theorem hX3_grow : plainName yX3_grow.cls = true ∧ yX3_grow.cls = RX3 ∧ RX3 ≠ RL := ⟨by decide +kernel, rfl, by decide +kernel⟩
theorem kX3_grow : Cond.instanceMethod yX3_grow ∈ lw_good ∧ Cond.selects RX3 yX3_grow yX3_grow ∈ lw_good ∧ CkN mX3_grow 2 := ⟨lw_gi 589 (by decide +kernel) (by decide +kernel), lw_gi 590 (by decide +kernel) (by decide +kernel), ⟨lw_gi 591 (by decide +kernel) (by decide +kernel), lw_gi 66 (by decide +kernel) (by decide +kernel), ⟨rfl, by decide +kernel, by decide +kernel, by decide +kernel⟩, by decide⟩⟩
abbrev mX3_growOnce : Mth := (RX3, yX3_growOnce, cX3_growOnce, 8, (some .boolean))
theorem hX3_growOnce : plainName yX3_growOnce.cls = true ∧ yX3_growOnce.cls = RX3 ∧ RX3 ≠ RL := ⟨by decide +kernel, rfl, by decide +kernel⟩
theorem kX3_growOnce : Cond.instanceMethod yX3_growOnce ∈ lw_good ∧ Cond.selects RX3 yX3_growOnce yX3_growOnce ∈ lw_good ∧ CkN mX3_growOnce 2 := ⟨lw_gi 596 (by decide +kernel) (by decide +kernel), lw_gi 12 (by decide +kernel) (by decide +kernel), ⟨lw_gi 597 (by decide +kernel) (by decide +kernel), lw_gi 66 (by decide +kernel) (by decide +kernel), ⟨rfl, by decide +kernel, by decide +kernel, by decide +kernel⟩, by decide⟩⟩
abbrev mX3_isStep : Mth := (RX3, yX3_isStep, cX3_isStep, 1, (some .boolean))
theorem hX3_isStep : plainName yX3_isStep.cls = true ∧ yX3_isStep.cls = RX3 ∧ RX3 ≠ RL := ⟨by decide +kernel, rfl, by decide +kernel⟩
theorem kX3_isStep : Cond.static yX3_isStep ∈ lw_good ∧ CkN mX3_isStep 1 := ⟨lw_gi 641 (by decide +kernel) (by decide +kernel), ⟨lw_gi 642 (by decide +kernel) (by decide +kernel), lw_gi 66 (by decide +kernel) (by decide +kernel), ⟨rfl, by decide +kernel, by decide +kernel, by decide +kernel⟩, by decide⟩⟩
abbrev mX3_lengthAhead : Mth := (RX3, yX3_lengthAhead, cX3_lengthAhead, 7, (some .int))
theorem hX3_lengthAhead : plainName yX3_lengthAhead.cls = true ∧ yX3_lengthAhead.cls = RX3 ∧ RX3 ≠ RL := ⟨by decide +kernel, rfl, by decide +kernel⟩
theorem kX3_lengthAhead : Cond.instanceMethod yX3_lengthAhead ∈ lw_good ∧ Cond.selects RX3 yX3_lengthAhead yX3_lengthAhead ∈ lw_good ∧ CkN mX3_lengthAhead 4 := ⟨lw_gi 659 (by decide +kernel) (by decide +kernel), lw_gi 660 (by decide +kernel) (by decide +kernel), ⟨lw_gi 661 (by decide +kernel) (by decide +kernel), lw_gi 66 (by decide +kernel) (by decide +kernel), ⟨rfl, by decide +kernel, by decide +kernel, by decide +kernel⟩, by decide⟩⟩
abbrev mX3_letterAt : Mth := (RX3, yX3_letterAt, cX3_letterAt, 3, (some .int))
theorem hX3_letterAt : plainName yX3_letterAt.cls = true ∧ yX3_letterAt.cls = RX3 ∧ RX3 ≠ RL := ⟨by decide +kernel, rfl, by decide +kernel⟩
theorem kX3_letterAt : Cond.instanceMethod yX3_letterAt ∈ lw_good ∧ Cond.selects RX3 yX3_letterAt yX3_letterAt ∈ lw_good ∧ CkN mX3_letterAt 2 := ⟨lw_gi 612 (by decide +kernel) (by decide +kernel), lw_gi 613 (by decide +kernel) (by decide +kernel), ⟨lw_gi 614 (by decide +kernel) (by decide +kernel), lw_gi 66 (by decide +kernel) (by decide +kernel), ⟨rfl, by decide +kernel, by decide +kernel, by decide +kernel⟩, by decide⟩⟩
abbrev mX3_sizeAt : Mth := (RX3, yX3_sizeAt, cX3_sizeAt, 2, (some .int))
theorem hX3_sizeAt : plainName yX3_sizeAt.cls = true ∧ yX3_sizeAt.cls = RX3 ∧ RX3 ≠ RL := ⟨by decide +kernel, rfl, by decide +kernel⟩
theorem kX3_sizeAt : Cond.instanceMethod yX3_sizeAt ∈ lw_good ∧ Cond.selects RX3 yX3_sizeAt yX3_sizeAt ∈ lw_good ∧ CkN mX3_sizeAt 1 := ⟨lw_gi 608 (by decide +kernel) (by decide +kernel), lw_gi 609 (by decide +kernel) (by decide +kernel), ⟨lw_gi 610 (by decide +kernel) (by decide +kernel), lw_gi 66 (by decide +kernel) (by decide +kernel), ⟨rfl, by decide +kernel, by decide +kernel, by decide +kernel⟩, by decide⟩⟩
abbrev mX4_answer : Mth := (RX4, yX4_answer, cX4_answer, 4, (some .int))
theorem hX4_answer : plainName yX4_answer.cls = true ∧ yX4_answer.cls = RX4 ∧ RX4 ≠ RL := ⟨by decide +kernel, rfl, by decide +kernel⟩
theorem kX4_answer : Cond.instanceMethod yX4_answer ∈ lw_good ∧ Cond.selects RX4 yX4_answer yX4_answer ∈ lw_good ∧ CkN mX4_answer 3 := ⟨lw_gi 932 (by decide +kernel) (by decide +kernel), lw_gi 933 (by decide +kernel) (by decide +kernel), ⟨lw_gi 934 (by decide +kernel) (by decide +kernel), lw_gi 70 (by decide +kernel) (by decide +kernel), ⟨rfl, by decide +kernel, by decide +kernel, by decide +kernel⟩, by decide⟩⟩
abbrev mX4_body : Mth := (RX4, yX4_body, cX4_body, 2, (some .int))
theorem hX4_body : plainName yX4_body.cls = true ∧ yX4_body.cls = RX4 ∧ RX4 ≠ RL := ⟨by decide +kernel, rfl, by decide +kernel⟩
theorem kX4_body : Cond.instanceMethod yX4_body ∈ lw_good ∧ Cond.selects RX4 yX4_body yX4_body ∈ lw_good ∧ CkN mX4_body 1 := ⟨lw_gi 965 (by decide +kernel) (by decide +kernel), lw_gi 966 (by decide +kernel) (by decide +kernel), ⟨lw_gi 967 (by decide +kernel) (by decide +kernel), lw_gi 70 (by decide +kernel) (by decide +kernel), ⟨rfl, by decide +kernel, by decide +kernel, by decide +kernel⟩, by decide⟩⟩
abbrev mX4_bodyCount : Mth := (RX4, yX4_bodyCount, cX4_bodyCount, 1, (some .int))
theorem hX4_bodyCount : plainName yX4_bodyCount.cls = true ∧ yX4_bodyCount.cls = RX4 ∧ RX4 ≠ RL := ⟨by decide +kernel, rfl, by decide +kernel⟩
theorem kX4_bodyCount : Cond.instanceMethod yX4_bodyCount ∈ lw_good ∧ Cond.selects RX4 yX4_bodyCount yX4_bodyCount ∈ lw_good ∧ CkN mX4_bodyCount 0 := ⟨lw_gi 961 (by decide +kernel) (by decide +kernel), lw_gi 962 (by decide +kernel) (by decide +kernel), ⟨lw_gi 963 (by decide +kernel) (by decide +kernel), lw_gi 70 (by decide +kernel) (by decide +kernel), ⟨rfl, by decide +kernel, by decide +kernel, by decide +kernel⟩, by decide⟩⟩
abbrev mX4_give : Mth := (RX4, yX4_give, cX4_give, 6, (some .int))
theorem hX4_give : plainName yX4_give.cls = true ∧ yX4_give.cls = RX4 ∧ RX4 ≠ RL := ⟨by decide +kernel, rfl, by decide +kernel⟩
theorem kX4_give : Cond.instanceMethod yX4_give ∈ lw_good ∧ Cond.selects RX4 yX4_give yX4_give ∈ lw_good ∧ CkN mX4_give 4 := ⟨lw_gi 948 (by decide +kernel) (by decide +kernel), lw_gi 27 (by decide +kernel) (by decide +kernel), ⟨lw_gi 949 (by decide +kernel) (by decide +kernel), lw_gi 70 (by decide +kernel) (by decide +kernel), ⟨rfl, by decide +kernel, by decide +kernel, by decide +kernel⟩, by decide⟩⟩
abbrev mX4_isA : Mth := (RX4, yX4_isA, cX4_isA, 4, (some .boolean))
theorem hX4_isA : plainName yX4_isA.cls = true ∧ yX4_isA.cls = RX4 ∧ RX4 ≠ RL := ⟨by decide +kernel, rfl, by decide +kernel⟩
theorem kX4_isA : Cond.static yX4_isA ∈ lw_good ∧ CkN mX4_isA 2 := ⟨lw_gi 923 (by decide +kernel) (by decide +kernel), ⟨lw_gi 924 (by decide +kernel) (by decide +kernel), lw_gi 70 (by decide +kernel) (by decide +kernel), ⟨rfl, by decide +kernel, by decide +kernel, by decide +kernel⟩, by decide⟩⟩
abbrev mX4_leave : Mth := (RX4, yX4_leave, cX4_leave, 2, none)
theorem hX4_leave : plainName yX4_leave.cls = true ∧ yX4_leave.cls = RX4 ∧ RX4 ≠ RL := ⟨by decide +kernel, rfl, by decide +kernel⟩
theorem kX4_leave : Cond.instanceMethod yX4_leave ∈ lw_good ∧ Cond.selects RX4 yX4_leave yX4_leave ∈ lw_good ∧ CkN mX4_leave 1 := ⟨lw_gi 952 (by decide +kernel) (by decide +kernel), lw_gi 28 (by decide +kernel) (by decide +kernel), ⟨lw_gi 953 (by decide +kernel) (by decide +kernel), lw_gi 70 (by decide +kernel) (by decide +kernel), ⟨rfl, by decide +kernel, by decide +kernel, by decide +kernel⟩, by decide⟩⟩
abbrev mX4_markBody : Mth := (RX4, yX4_markBody, cX4_markBody, 2, (some .int))
theorem hX4_markBody : plainName yX4_markBody.cls = true ∧ yX4_markBody.cls = RX4 ∧ RX4 ≠ RL := ⟨by decide +kernel, rfl, by decide +kernel⟩
theorem kX4_markBody : Cond.static yX4_markBody ∈ lw_good ∧ CkN mX4_markBody 2 := ⟨lw_gi 942 (by decide +kernel) (by decide +kernel), ⟨lw_gi 943 (by decide +kernel) (by decide +kernel), lw_gi 70 (by decide +kernel) (by decide +kernel), ⟨rfl, by decide +kernel, by decide +kernel, by decide +kernel⟩, by decide⟩⟩
abbrev mX4_sizeBody : Mth := (RX4, yX4_sizeBody, cX4_sizeBody, 2, (some .int))
theorem hX4_sizeBody : plainName yX4_sizeBody.cls = true ∧ yX4_sizeBody.cls = RX4 ∧ RX4 ≠ RL := ⟨by decide +kernel, rfl, by decide +kernel⟩
theorem kX4_sizeBody : Cond.static yX4_sizeBody ∈ lw_good ∧ CkN mX4_sizeBody 2 := ⟨lw_gi 936 (by decide +kernel) (by decide +kernel), ⟨lw_gi 937 (by decide +kernel) (by decide +kernel), lw_gi 70 (by decide +kernel) (by decide +kernel), ⟨rfl, by decide +kernel, by decide +kernel, by decide +kernel⟩, by decide⟩⟩
abbrev mX4_toldBy : Mth := (RX4, yX4_toldBy, cX4_toldBy, 1, (some .int))
theorem hX4_toldBy : plainName yX4_toldBy.cls = true ∧ yX4_toldBy.cls = RX4 ∧ RX4 ≠ RL := ⟨by decide +kernel, rfl, by decide +kernel⟩
theorem kX4_toldBy : Cond.static yX4_toldBy ∈ lw_good ∧ CkN mX4_toldBy 1 := ⟨lw_gi 404 (by decide +kernel) (by decide +kernel), ⟨lw_gi 405 (by decide +kernel) (by decide +kernel), lw_gi 70 (by decide +kernel) (by decide +kernel), ⟨rfl, by decide +kernel, by decide +kernel, by decide +kernel⟩, by decide⟩⟩
abbrev mX5_addLetter : Mth := (RX5, yX5_addLetter, cX5_addLetter, 6, none)
theorem hX5_addLetter : plainName yX5_addLetter.cls = true ∧ yX5_addLetter.cls = RX5 ∧ RX5 ≠ RL := ⟨by decide +kernel, rfl, by decide +kernel⟩
theorem kX5_addLetter : Cond.instanceMethod yX5_addLetter ∈ lw_good ∧ Cond.selects RX5 yX5_addLetter yX5_addLetter ∈ lw_good ∧ CkN mX5_addLetter 2 := ⟨lw_gi 867 (by decide +kernel) (by decide +kernel), lw_gi 25 (by decide +kernel) (by decide +kernel), ⟨lw_gi 868 (by decide +kernel) (by decide +kernel), lw_gi 69 (by decide +kernel) (by decide +kernel), ⟨rfl, by decide +kernel, by decide +kernel, by decide +kernel⟩, by decide⟩⟩
abbrev mX5_cases : Mth := (RX5, yX5_cases, cX5_cases, 1, (some .long))
theorem hX5_cases : plainName yX5_cases.cls = true ∧ yX5_cases.cls = RX5 ∧ RX5 ≠ RL := ⟨by decide +kernel, rfl, by decide +kernel⟩
theorem kX5_cases : Cond.instanceMethod yX5_cases ∈ lw_good ∧ Cond.selects RX5 yX5_cases yX5_cases ∈ lw_good ∧ CkN mX5_cases 0 := ⟨lw_gi 875 (by decide +kernel) (by decide +kernel), lw_gi 876 (by decide +kernel) (by decide +kernel), ⟨lw_gi 877 (by decide +kernel) (by decide +kernel), lw_gi 69 (by decide +kernel) (by decide +kernel), ⟨rfl, by decide +kernel, by decide +kernel, by decide +kernel⟩, by decide⟩⟩
abbrev mX5_casesUpTo : Mth := (RX5, yX5_casesUpTo, cX5_casesUpTo, 5, (some .long))
theorem hX5_casesUpTo : plainName yX5_casesUpTo.cls = true ∧ yX5_casesUpTo.cls = RX5 ∧ RX5 ≠ RL := ⟨by decide +kernel, rfl, by decide +kernel⟩
theorem kX5_casesUpTo : Cond.instanceMethod yX5_casesUpTo ∈ lw_good ∧ Cond.selects RX5 yX5_casesUpTo yX5_casesUpTo ∈ lw_good ∧ CkN mX5_casesUpTo 1 := ⟨lw_gi 871 (by decide +kernel) (by decide +kernel), lw_gi 872 (by decide +kernel) (by decide +kernel), ⟨lw_gi 873 (by decide +kernel) (by decide +kernel), lw_gi 69 (by decide +kernel) (by decide +kernel), ⟨rfl, by decide +kernel, by decide +kernel, by decide +kernel⟩, by decide⟩⟩
abbrev mX5_spread : Mth := (RX5, yX5_spread, cX5_spread, 5, none)
theorem hX5_spread : plainName yX5_spread.cls = true ∧ yX5_spread.cls = RX5 ∧ RX5 ≠ RL := ⟨by decide +kernel, rfl, by decide +kernel⟩
theorem kX5_spread : Cond.instanceMethod yX5_spread ∈ lw_good ∧ Cond.selects RX5 yX5_spread yX5_spread ∈ lw_good ∧ CkN mX5_spread 3 := ⟨lw_gi 859 (by decide +kernel) (by decide +kernel), lw_gi 860 (by decide +kernel) (by decide +kernel), ⟨lw_gi 861 (by decide +kernel) (by decide +kernel), lw_gi 69 (by decide +kernel) (by decide +kernel), ⟨rfl, by decide +kernel, by decide +kernel, by decide +kernel⟩, by decide⟩⟩
abbrev mX6_actCount : Mth := (RX6, yX6_actCount, cX6_actCount, 1, (some .int))
theorem hX6_actCount : plainName yX6_actCount.cls = true ∧ yX6_actCount.cls = RX6 ∧ RX6 ≠ RL := ⟨by decide +kernel, rfl, by decide +kernel⟩
theorem kX6_actCount : Cond.instanceMethod yX6_actCount ∈ lw_good ∧ Cond.selects RX6 yX6_actCount yX6_actCount ∈ lw_good ∧ CkN mX6_actCount 0 := ⟨lw_gi 502 (by decide +kernel) (by decide +kernel), lw_gi 503 (by decide +kernel) (by decide +kernel), ⟨lw_gi 504 (by decide +kernel) (by decide +kernel), lw_gi 65 (by decide +kernel) (by decide +kernel), ⟨rfl, by decide +kernel, by decide +kernel, by decide +kernel⟩, by decide⟩⟩
abbrev mX6_bringImage : Mth := (RX6, yX6_bringImage, cX6_bringImage, 3, none)
theorem hX6_bringImage : plainName yX6_bringImage.cls = true ∧ yX6_bringImage.cls = RX6 ∧ RX6 ≠ RL := ⟨by decide +kernel, rfl, by decide +kernel⟩
theorem kX6_bringImage : Cond.instanceMethod yX6_bringImage ∈ lw_good ∧ Cond.selects RX6 yX6_bringImage yX6_bringImage ∈ lw_good ∧ CkN mX6_bringImage 2 := ⟨lw_gi 911 (by decide +kernel) (by decide +kernel), lw_gi 912 (by decide +kernel) (by decide +kernel), ⟨lw_gi 913 (by decide +kernel) (by decide +kernel), lw_gi 65 (by decide +kernel) (by decide +kernel), ⟨rfl, by decide +kernel, by decide +kernel, by decide +kernel⟩, by decide⟩⟩
abbrev mX6_forgetActs : Mth := (RX6, yX6_forgetActs, cX6_forgetActs, 1, none)
theorem hX6_forgetActs : plainName yX6_forgetActs.cls = true ∧ yX6_forgetActs.cls = RX6 ∧ RX6 ≠ RL := ⟨by decide +kernel, rfl, by decide +kernel⟩
theorem kX6_forgetActs : Cond.instanceMethod yX6_forgetActs ∈ lw_good ∧ Cond.selects RX6 yX6_forgetActs yX6_forgetActs ∈ lw_good ∧ CkN mX6_forgetActs 0 := ⟨lw_gi 489 (by decide +kernel) (by decide +kernel), lw_gi 490 (by decide +kernel) (by decide +kernel), ⟨lw_gi 491 (by decide +kernel) (by decide +kernel), lw_gi 65 (by decide +kernel) (by decide +kernel), ⟨rfl, by decide +kernel, by decide +kernel, by decide +kernel⟩, by decide⟩⟩
abbrev mX6_hasImage : Mth := (RX6, yX6_hasImage, cX6_hasImage, 2, (some .boolean))
theorem hX6_hasImage : plainName yX6_hasImage.cls = true ∧ yX6_hasImage.cls = RX6 ∧ RX6 ≠ RL := ⟨by decide +kernel, rfl, by decide +kernel⟩
theorem kX6_hasImage : Cond.instanceMethod yX6_hasImage ∈ lw_good ∧ Cond.selects RX6 yX6_hasImage yX6_hasImage ∈ lw_good ∧ CkN mX6_hasImage 1 := ⟨lw_gi 907 (by decide +kernel) (by decide +kernel), lw_gi 908 (by decide +kernel) (by decide +kernel), ⟨lw_gi 909 (by decide +kernel) (by decide +kernel), lw_gi 65 (by decide +kernel) (by decide +kernel), ⟨rfl, by decide +kernel, by decide +kernel, by decide +kernel⟩, by decide⟩⟩
abbrev mX6_isImage : Mth := (RX6, yX6_isImage, cX6_isImage, 1, (some .boolean))
theorem hX6_isImage : plainName yX6_isImage.cls = true ∧ yX6_isImage.cls = RX6 ∧ RX6 ≠ RL := ⟨by decide +kernel, rfl, by decide +kernel⟩
theorem kX6_isImage : Cond.static yX6_isImage ∈ lw_good ∧ CkN mX6_isImage 1 := ⟨lw_gi 896 (by decide +kernel) (by decide +kernel), ⟨lw_gi 897 (by decide +kernel) (by decide +kernel), lw_gi 65 (by decide +kernel) (by decide +kernel), ⟨rfl, by decide +kernel, by decide +kernel, by decide +kernel⟩, by decide⟩⟩
abbrev mX6_keepAct : Mth := (RX6, yX6_keepAct, cX6_keepAct, 2, none)
theorem hX6_keepAct : plainName yX6_keepAct.cls = true ∧ yX6_keepAct.cls = RX6 ∧ RX6 ≠ RL := ⟨by decide +kernel, rfl, by decide +kernel⟩
theorem kX6_keepAct : Cond.instanceMethod yX6_keepAct ∈ lw_good ∧ Cond.selects RX6 yX6_keepAct yX6_keepAct ∈ lw_good ∧ CkN mX6_keepAct 1 := ⟨lw_gi 526 (by decide +kernel) (by decide +kernel), lw_gi 527 (by decide +kernel) (by decide +kernel), ⟨lw_gi 528 (by decide +kernel) (by decide +kernel), lw_gi 65 (by decide +kernel) (by decide +kernel), ⟨rfl, by decide +kernel, by decide +kernel, by decide +kernel⟩, by decide⟩⟩
abbrev mX6_keepImage : Mth := (RX6, yX6_keepImage, cX6_keepImage, 3, none)
theorem hX6_keepImage : plainName yX6_keepImage.cls = true ∧ yX6_keepImage.cls = RX6 ∧ RX6 ≠ RL := ⟨by decide +kernel, rfl, by decide +kernel⟩
theorem kX6_keepImage : Cond.instanceMethod yX6_keepImage ∈ lw_good ∧ Cond.selects RX6 yX6_keepImage yX6_keepImage ∈ lw_good ∧ CkN mX6_keepImage 2 := ⟨lw_gi 899 (by decide +kernel) (by decide +kernel), lw_gi 900 (by decide +kernel) (by decide +kernel), ⟨lw_gi 901 (by decide +kernel) (by decide +kernel), lw_gi 65 (by decide +kernel) (by decide +kernel), ⟨rfl, by decide +kernel, by decide +kernel, by decide +kernel⟩, by decide⟩⟩
abbrev mX6_takeBack : Mth := (RX6, yX6_takeBack, cX6_takeBack, 2, none)
theorem hX6_takeBack : plainName yX6_takeBack.cls = true ∧ yX6_takeBack.cls = RX6 ∧ RX6 ≠ RL := ⟨by decide +kernel, rfl, by decide +kernel⟩
theorem kX6_takeBack : Cond.instanceMethod yX6_takeBack ∈ lw_good ∧ Cond.selects RX6 yX6_takeBack yX6_takeBack ∈ lw_good ∧ CkN mX6_takeBack 1 := ⟨lw_gi 507 (by decide +kernel) (by decide +kernel), lw_gi 508 (by decide +kernel) (by decide +kernel), ⟨lw_gi 509 (by decide +kernel) (by decide +kernel), lw_gi 65 (by decide +kernel) (by decide +kernel), ⟨rfl, by decide +kernel, by decide +kernel, by decide +kernel⟩, by decide⟩⟩
abbrev mX7_bit : Mth := (RX7, yX7_bit, cX7_bit, 2, (some .int))
theorem hX7_bit : plainName yX7_bit.cls = true ∧ yX7_bit.cls = RX7 ∧ RX7 ≠ RL := ⟨by decide +kernel, rfl, by decide +kernel⟩
theorem kX7_bit : Cond.static yX7_bit ∈ lw_good ∧ CkN mX7_bit 2 := ⟨lw_gi 759 (by decide +kernel) (by decide +kernel), ⟨lw_gi 760 (by decide +kernel) (by decide +kernel), lw_gi 74 (by decide +kernel) (by decide +kernel), ⟨rfl, by decide +kernel, by decide +kernel, by decide +kernel⟩, by decide⟩⟩
abbrev mX7_in : Mth := (RX7, yX7_in, cX7_in, 4, (some .int))
theorem hX7_in : plainName yX7_in.cls = true ∧ yX7_in.cls = RX7 ∧ RX7 ≠ RL := ⟨by decide +kernel, rfl, by decide +kernel⟩
theorem kX7_in : Cond.static yX7_in ∈ lw_good ∧ CkN mX7_in 1 := ⟨lw_gi 739 (by decide +kernel) (by decide +kernel), ⟨lw_gi 740 (by decide +kernel) (by decide +kernel), lw_gi 74 (by decide +kernel) (by decide +kernel), ⟨rfl, by decide +kernel, by decide +kernel, by decide +kernel⟩, by decide⟩⟩
abbrev mX7_lettersEver : Mth := (RX7, yX7_lettersEver, cX7_lettersEver, 4, (some .int))
theorem hX7_lettersEver : plainName yX7_lettersEver.cls = true ∧ yX7_lettersEver.cls = RX7 ∧ RX7 ≠ RL := ⟨by decide +kernel, rfl, by decide +kernel⟩
theorem kX7_lettersEver : Cond.static yX7_lettersEver ∈ lw_good ∧ CkN mX7_lettersEver 1 := ⟨lw_gi 742 (by decide +kernel) (by decide +kernel), ⟨lw_gi 743 (by decide +kernel) (by decide +kernel), lw_gi 74 (by decide +kernel) (by decide +kernel), ⟨rfl, by decide +kernel, by decide +kernel, by decide +kernel⟩, by decide⟩⟩
abbrev mX7_lettersOfImage : Mth := (RX7, yX7_lettersOfImage, cX7_lettersOfImage, 4, (some .int))
theorem hX7_lettersOfImage : plainName yX7_lettersOfImage.cls = true ∧ yX7_lettersOfImage.cls = RX7 ∧ RX7 ≠ RL := ⟨by decide +kernel, rfl, by decide +kernel⟩
theorem kX7_lettersOfImage : Cond.static yX7_lettersOfImage ∈ lw_good ∧ CkN mX7_lettersOfImage 2 := ⟨lw_gi 748 (by decide +kernel) (by decide +kernel), ⟨lw_gi 749 (by decide +kernel) (by decide +kernel), lw_gi 74 (by decide +kernel) (by decide +kernel), ⟨rfl, by decide +kernel, by decide +kernel, by decide +kernel⟩, by decide⟩⟩
abbrev mX7_whereImagesMeet : Mth := (RX7, yX7_whereImagesMeet, cX7_whereImagesMeet, 6, (some .int))
theorem hX7_whereImagesMeet : plainName yX7_whereImagesMeet.cls = true ∧ yX7_whereImagesMeet.cls = RX7 ∧ RX7 ≠ RL := ⟨by decide +kernel, rfl, by decide +kernel⟩
theorem kX7_whereImagesMeet : Cond.static yX7_whereImagesMeet ∈ lw_good ∧ CkN mX7_whereImagesMeet 2 := ⟨lw_gi 762 (by decide +kernel) (by decide +kernel), ⟨lw_gi 763 (by decide +kernel) (by decide +kernel), lw_gi 74 (by decide +kernel) (by decide +kernel), ⟨rfl, by decide +kernel, by decide +kernel, by decide +kernel⟩, by decide⟩⟩
abbrev mX7_withinImage : Mth := (RX7, yX7_withinImage, cX7_withinImage, 4, (some .int))
theorem hX7_withinImage : plainName yX7_withinImage.cls = true ∧ yX7_withinImage.cls = RX7 ∧ RX7 ≠ RL := ⟨by decide +kernel, rfl, by decide +kernel⟩
theorem kX7_withinImage : Cond.static yX7_withinImage ∈ lw_good ∧ CkN mX7_withinImage 2 := ⟨lw_gi 756 (by decide +kernel) (by decide +kernel), ⟨lw_gi 757 (by decide +kernel) (by decide +kernel), lw_gi 74 (by decide +kernel) (by decide +kernel), ⟨rfl, by decide +kernel, by decide +kernel, by decide +kernel⟩, by decide⟩⟩
abbrev mX7_withinImages : Mth := (RX7, yX7_withinImages, cX7_withinImages, 4, (some .int))
theorem hX7_withinImages : plainName yX7_withinImages.cls = true ∧ yX7_withinImages.cls = RX7 ∧ RX7 ≠ RL := ⟨by decide +kernel, rfl, by decide +kernel⟩
theorem kX7_withinImages : Cond.static yX7_withinImages ∈ lw_good ∧ CkN mX7_withinImages 2 := ⟨lw_gi 753 (by decide +kernel) (by decide +kernel), ⟨lw_gi 754 (by decide +kernel) (by decide +kernel), lw_gi 74 (by decide +kernel) (by decide +kernel), ⟨rfl, by decide +kernel, by decide +kernel, by decide +kernel⟩, by decide⟩⟩
abbrev mX8_forget : Mth := (RX8, yX8_forget, cX8_forget, 2, none)
theorem hX8_forget : plainName yX8_forget.cls = true ∧ yX8_forget.cls = RX8 ∧ RX8 ≠ RL := ⟨by decide +kernel, rfl, by decide +kernel⟩
theorem kX8_forget : Cond.instanceMethod yX8_forget ∈ lw_good ∧ Cond.selects RX8 yX8_forget yX8_forget ∈ lw_good ∧ CkN mX8_forget 1 := ⟨lw_gi 337 (by decide +kernel) (by decide +kernel), lw_gi 338 (by decide +kernel) (by decide +kernel), ⟨lw_gi 339 (by decide +kernel) (by decide +kernel), lw_gi 62 (by decide +kernel) (by decide +kernel), ⟨rfl, by decide +kernel, by decide +kernel, by decide +kernel⟩, by decide⟩⟩
abbrev mX8_howMany : Mth := (RX8, yX8_howMany, cX8_howMany, 3, (some .int))
theorem hX8_howMany : plainName yX8_howMany.cls = true ∧ yX8_howMany.cls = RX8 ∧ RX8 ≠ RL := ⟨by decide +kernel, rfl, by decide +kernel⟩
theorem kX8_howMany : Cond.instanceMethod yX8_howMany ∈ lw_good ∧ Cond.selects RX8 yX8_howMany yX8_howMany ∈ lw_good ∧ CkN mX8_howMany 0 := ⟨lw_gi 973 (by decide +kernel) (by decide +kernel), lw_gi 974 (by decide +kernel) (by decide +kernel), ⟨lw_gi 975 (by decide +kernel) (by decide +kernel), lw_gi 62 (by decide +kernel) (by decide +kernel), ⟨rfl, by decide +kernel, by decide +kernel, by decide +kernel⟩, by decide⟩⟩
abbrev mX8_isMissing : Mth := (RX8, yX8_isMissing, cX8_isMissing, 2, (some .boolean))
theorem hX8_isMissing : plainName yX8_isMissing.cls = true ∧ yX8_isMissing.cls = RX8 ∧ RX8 ≠ RL := ⟨by decide +kernel, rfl, by decide +kernel⟩
theorem kX8_isMissing : Cond.instanceMethod yX8_isMissing ∈ lw_good ∧ Cond.selects RX8 yX8_isMissing yX8_isMissing ∈ lw_good ∧ CkN mX8_isMissing 1 := ⟨lw_gi 302 (by decide +kernel) (by decide +kernel), lw_gi 303 (by decide +kernel) (by decide +kernel), ⟨lw_gi 304 (by decide +kernel) (by decide +kernel), lw_gi 62 (by decide +kernel) (by decide +kernel), ⟨rfl, by decide +kernel, by decide +kernel, by decide +kernel⟩, by decide⟩⟩
abbrev mX8_isRow : Mth := (RX8, yX8_isRow, cX8_isRow, 1, (some .boolean))
theorem hX8_isRow : plainName yX8_isRow.cls = true ∧ yX8_isRow.cls = RX8 ∧ RX8 ≠ RL := ⟨by decide +kernel, rfl, by decide +kernel⟩
theorem kX8_isRow : Cond.static yX8_isRow ∈ lw_good ∧ CkN mX8_isRow 1 := ⟨lw_gi 281 (by decide +kernel) (by decide +kernel), ⟨lw_gi 282 (by decide +kernel) (by decide +kernel), lw_gi 62 (by decide +kernel) (by decide +kernel), ⟨rfl, by decide +kernel, by decide +kernel, by decide +kernel⟩, by decide⟩⟩
abbrev mX8_item : Mth := (RX8, yX8_item, cX8_item, 3, (some .int))
theorem hX8_item : plainName yX8_item.cls = true ∧ yX8_item.cls = RX8 ∧ RX8 ≠ RL := ⟨by decide +kernel, rfl, by decide +kernel⟩
theorem kX8_item : Cond.instanceMethod yX8_item ∈ lw_good ∧ Cond.selects RX8 yX8_item yX8_item ∈ lw_good ∧ CkN mX8_item 2 := ⟨lw_gi 521 (by decide +kernel) (by decide +kernel), lw_gi 522 (by decide +kernel) (by decide +kernel), ⟨lw_gi 523 (by decide +kernel) (by decide +kernel), lw_gi 62 (by decide +kernel) (by decide +kernel), ⟨rfl, by decide +kernel, by decide +kernel, by decide +kernel⟩, by decide⟩⟩
abbrev mX8_laneOf : Mth := (RX8, yX8_laneOf, cX8_laneOf, 2, (some .int))
theorem hX8_laneOf : plainName yX8_laneOf.cls = true ∧ yX8_laneOf.cls = RX8 ∧ RX8 ≠ RL := ⟨by decide +kernel, rfl, by decide +kernel⟩
theorem kX8_laneOf : Cond.instanceMethod yX8_laneOf ∈ lw_good ∧ Cond.selects RX8 yX8_laneOf yX8_laneOf ∈ lw_good ∧ CkN mX8_laneOf 1 := ⟨lw_gi 318 (by decide +kernel) (by decide +kernel), lw_gi 319 (by decide +kernel) (by decide +kernel), ⟨lw_gi 320 (by decide +kernel) (by decide +kernel), lw_gi 62 (by decide +kernel) (by decide +kernel), ⟨rfl, by decide +kernel, by decide +kernel, by decide +kernel⟩, by decide⟩⟩
abbrev mX8_make : Mth := (RX8, yX8_make, cX8_make, 5, none)
theorem hX8_make : plainName yX8_make.cls = true ∧ yX8_make.cls = RX8 ∧ RX8 ≠ RL := ⟨by decide +kernel, rfl, by decide +kernel⟩
theorem kX8_make : Cond.instanceMethod yX8_make ∈ lw_good ∧ Cond.selects RX8 yX8_make yX8_make ∈ lw_good ∧ CkN mX8_make 3 := ⟨lw_gi 290 (by decide +kernel) (by decide +kernel), lw_gi 291 (by decide +kernel) (by decide +kernel), ⟨lw_gi 292 (by decide +kernel) (by decide +kernel), lw_gi 62 (by decide +kernel) (by decide +kernel), ⟨rfl, by decide +kernel, by decide +kernel, by decide +kernel⟩, by decide⟩⟩
abbrev mX8_move : Mth := (RX8, yX8_move, cX8_move, 6, none)
theorem hX8_move : plainName yX8_move.cls = true ∧ yX8_move.cls = RX8 ∧ RX8 ≠ RL := ⟨by decide +kernel, rfl, by decide +kernel⟩
theorem kX8_move : Cond.instanceMethod yX8_move ∈ lw_good ∧ Cond.selects RX8 yX8_move yX8_move ∈ lw_good ∧ CkN mX8_move 5 := ⟨lw_gi 326 (by decide +kernel) (by decide +kernel), lw_gi 327 (by decide +kernel) (by decide +kernel), ⟨lw_gi 328 (by decide +kernel) (by decide +kernel), lw_gi 62 (by decide +kernel) (by decide +kernel), ⟨rfl, by decide +kernel, by decide +kernel, by decide +kernel⟩, by decide⟩⟩
abbrev mX8_put : Mth := (RX8, yX8_put, cX8_put, 5, (some .int))
theorem hX8_put : plainName yX8_put.cls = true ∧ yX8_put.cls = RX8 ∧ RX8 ≠ RL := ⟨by decide +kernel, rfl, by decide +kernel⟩
theorem kX8_put : Cond.instanceMethod yX8_put ∈ lw_good ∧ Cond.selects RX8 yX8_put yX8_put ∈ lw_good ∧ CkN mX8_put 3 := ⟨lw_gi 310 (by decide +kernel) (by decide +kernel), lw_gi 311 (by decide +kernel) (by decide +kernel), ⟨lw_gi 312 (by decide +kernel) (by decide +kernel), lw_gi 62 (by decide +kernel) (by decide +kernel), ⟨rfl, by decide +kernel, by decide +kernel, by decide +kernel⟩, by decide⟩⟩
abbrev mX8_sizeOf : Mth := (RX8, yX8_sizeOf, cX8_sizeOf, 2, (some .int))
theorem hX8_sizeOf : plainName yX8_sizeOf.cls = true ∧ yX8_sizeOf.cls = RX8 ∧ RX8 ≠ RL := ⟨by decide +kernel, rfl, by decide +kernel⟩
theorem kX8_sizeOf : Cond.instanceMethod yX8_sizeOf ∈ lw_good ∧ Cond.selects RX8 yX8_sizeOf yX8_sizeOf ∈ lw_good ∧ CkN mX8_sizeOf 1 := ⟨lw_gi 306 (by decide +kernel) (by decide +kernel), lw_gi 307 (by decide +kernel) (by decide +kernel), ⟨lw_gi 308 (by decide +kernel) (by decide +kernel), lw_gi 62 (by decide +kernel) (by decide +kernel), ⟨rfl, by decide +kernel, by decide +kernel, by decide +kernel⟩, by decide⟩⟩
abbrev mX8_spans : Mth := (RX8, yX8_spans, cX8_spans, 4, (some .boolean))
theorem hX8_spans : plainName yX8_spans.cls = true ∧ yX8_spans.cls = RX8 ∧ RX8 ≠ RL := ⟨by decide +kernel, rfl, by decide +kernel⟩
theorem kX8_spans : Cond.instanceMethod yX8_spans ∈ lw_good ∧ Cond.selects RX8 yX8_spans yX8_spans ∈ lw_good ∧ CkN mX8_spans 3 := ⟨lw_gi 322 (by decide +kernel) (by decide +kernel), lw_gi 323 (by decide +kernel) (by decide +kernel), ⟨lw_gi 324 (by decide +kernel) (by decide +kernel), lw_gi 62 (by decide +kernel) (by decide +kernel), ⟨rfl, by decide +kernel, by decide +kernel, by decide +kernel⟩, by decide⟩⟩
abbrev mX9_of : Mth := (RX9, yX9_of, cX9_of, 2, (some .long))
theorem hX9_of : plainName yX9_of.cls = true ∧ yX9_of.cls = RX9 ∧ RX9 ≠ RL := ⟨by decide +kernel, rfl, by decide +kernel⟩
theorem kX9_of : Cond.instanceMethod yX9_of ∈ lw_good ∧ Cond.selects RX9 yX9_of yX9_of ∈ lw_good ∧ CkN mX9_of 1 := ⟨lw_gi 703 (by decide +kernel) (by decide +kernel), lw_gi 704 (by decide +kernel) (by decide +kernel), ⟨lw_gi 705 (by decide +kernel) (by decide +kernel), lw_gi 67 (by decide +kernel) (by decide +kernel), ⟨rfl, by decide +kernel, by decide +kernel, by decide +kernel⟩, by decide⟩⟩
abbrev mX9_run : Mth := (RX9, yX9_run, cX9_run, 4, (some .boolean))
theorem hX9_run : plainName yX9_run.cls = true ∧ yX9_run.cls = RX9 ∧ RX9 ≠ RL := ⟨by decide +kernel, rfl, by decide +kernel⟩
theorem kX9_run : Cond.instanceMethod yX9_run ∈ lw_good ∧ Cond.selects RX9 yX9_run yX9_run ∈ lw_good ∧ CkN mX9_run 2 := ⟨lw_gi 673 (by decide +kernel) (by decide +kernel), lw_gi 674 (by decide +kernel) (by decide +kernel), ⟨lw_gi 675 (by decide +kernel) (by decide +kernel), lw_gi 67 (by decide +kernel) (by decide +kernel), ⟨rfl, by decide +kernel, by decide +kernel, by decide +kernel⟩, by decide⟩⟩
abbrev mX9_runOnce : Mth := (RX9, yX9_runOnce, cX9_runOnce, 5, (some .boolean))
theorem hX9_runOnce : plainName yX9_runOnce.cls = true ∧ yX9_runOnce.cls = RX9 ∧ RX9 ≠ RL := ⟨by decide +kernel, rfl, by decide +kernel⟩
theorem kX9_runOnce : Cond.instanceMethod yX9_runOnce ∈ lw_good ∧ Cond.selects RX9 yX9_runOnce yX9_runOnce ∈ lw_good ∧ CkN mX9_runOnce 0 := ⟨lw_gi 691 (by decide +kernel) (by decide +kernel), lw_gi 16 (by decide +kernel) (by decide +kernel), ⟨lw_gi 692 (by decide +kernel) (by decide +kernel), lw_gi 67 (by decide +kernel) (by decide +kernel), ⟨rfl, by decide +kernel, by decide +kernel, by decide +kernel⟩, by decide⟩⟩
abbrev mX9_sum : Mth := (RX9, yX9_sum, cX9_sum, 4, (some .long))
theorem hX9_sum : plainName yX9_sum.cls = true ∧ yX9_sum.cls = RX9 ∧ RX9 ≠ RL := ⟨by decide +kernel, rfl, by decide +kernel⟩
theorem kX9_sum : Cond.instanceMethod yX9_sum ∈ lw_good ∧ Cond.selects RX9 yX9_sum yX9_sum ∈ lw_good ∧ CkN mX9_sum 0 := ⟨lw_gi 716 (by decide +kernel) (by decide +kernel), lw_gi 717 (by decide +kernel) (by decide +kernel), ⟨lw_gi 718 (by decide +kernel) (by decide +kernel), lw_gi 67 (by decide +kernel) (by decide +kernel), ⟨rfl, by decide +kernel, by decide +kernel, by decide +kernel⟩, by decide⟩⟩
abbrev mX9_takeImages : Mth := (RX9, yX9_takeImages, cX9_takeImages, 4, none)
theorem hX9_takeImages : plainName yX9_takeImages.cls = true ∧ yX9_takeImages.cls = RX9 ∧ RX9 ≠ RL := ⟨by decide +kernel, rfl, by decide +kernel⟩
theorem kX9_takeImages : Cond.instanceMethod yX9_takeImages ∈ lw_good ∧ Cond.selects RX9 yX9_takeImages yX9_takeImages ∈ lw_good ∧ CkN mX9_takeImages 1 := ⟨lw_gi 678 (by decide +kernel) (by decide +kernel), lw_gi 15 (by decide +kernel) (by decide +kernel), ⟨lw_gi 679 (by decide +kernel) (by decide +kernel), lw_gi 67 (by decide +kernel) (by decide +kernel), ⟨rfl, by decide +kernel, by decide +kernel, by decide +kernel⟩, by decide⟩⟩
abbrev mX9_wholeLength : Mth := (RX9, yX9_wholeLength, cX9_wholeLength, 6, (some .long))
theorem hX9_wholeLength : plainName yX9_wholeLength.cls = true ∧ yX9_wholeLength.cls = RX9 ∧ RX9 ≠ RL := ⟨by decide +kernel, rfl, by decide +kernel⟩
theorem kX9_wholeLength : Cond.instanceMethod yX9_wholeLength ∈ lw_good ∧ Cond.selects RX9 yX9_wholeLength yX9_wholeLength ∈ lw_good ∧ CkN mX9_wholeLength 2 := ⟨lw_gi 730 (by decide +kernel) (by decide +kernel), lw_gi 731 (by decide +kernel) (by decide +kernel), ⟨lw_gi 732 (by decide +kernel) (by decide +kernel), lw_gi 67 (by decide +kernel) (by decide +kernel), ⟨rfl, by decide +kernel, by decide +kernel, by decide +kernel⟩, by decide⟩⟩
theorem uX0 : ∀ w ∈ u_ws RX0 TX0 1, w ∈ lw_good := by decide +kernel
theorem uX2 : ∀ w ∈ u_ws RX2 TX2 3, w ∈ lw_good := by decide +kernel
theorem uX3 : ∀ w ∈ u_ws RX3 TX3 3, w ∈ lw_good := by decide +kernel
theorem uX4 : ∀ w ∈ u_ws RX4 TX4 2, w ∈ lw_good := by decide +kernel
theorem uX5 : ∀ w ∈ u_ws RX5 TX5 2, w ∈ lw_good := by decide +kernel
theorem uX6 : ∀ w ∈ u_ws RX6 TX6 5, w ∈ lw_good := by decide +kernel
theorem uX8 : ∀ w ∈ u_ws RX8 TX8 3, w ∈ lw_good := by decide +kernel
theorem uX9 : ∀ w ∈ u_ws RX9 TX9 4, w ∈ lw_good := by decide +kernel
theorem uX10 : ∀ w ∈ u_ws RX10 TX10 5, w ∈ lw_good := by decide +kernel
theorem uX11 : ∀ w ∈ u_ws RX11 TX11 13, w ∈ lw_good := by decide +kernel
theorem uX12 : ∀ w ∈ u_ws RX12 TX12 30, w ∈ lw_good := by decide +kernel
theorem fX8_9 : Fl RX8 9 6 0 := ⟨RX8, TX8, 3, rfl, by decide, uX8, lw_gi 91 (by decide +kernel) (by decide +kernel)⟩
theorem fX8_13 : Fl RX8 13 6 1 := ⟨RX8, TX8, 3, rfl, by decide, uX8, lw_gi 92 (by decide +kernel) (by decide +kernel)⟩
theorem fX8_16 : Fl RX8 16 6 2 := ⟨RX8, TX8, 3, rfl, by decide, uX8, lw_gi 93 (by decide +kernel) (by decide +kernel)⟩
theorem fX10_9 : Fl RX10 9 8 0 := ⟨RX10, TX10, 5, rfl, by decide, uX10, lw_gi 108 (by decide +kernel) (by decide +kernel)⟩
theorem fX10_13 : Fl RX10 13 8 1 := ⟨RX10, TX10, 5, rfl, by decide, uX10, lw_gi 109 (by decide +kernel) (by decide +kernel)⟩
theorem pX10_13 : Fp RX10 13 8 1 .int := ⟨RX10, TX10, 5, tyX10, rfl, by decide, uX10, lw_gi 109 (by decide +kernel) (by decide +kernel), tyX10_ok, nmX10, rfl, by decide +kernel⟩
theorem fX10_17 : Fl RX10 17 8 2 := ⟨RX10, TX10, 5, rfl, by decide, uX10, lw_gi 110 (by decide +kernel) (by decide +kernel)⟩
theorem pX10_17 : Fp RX10 17 8 2 .int := ⟨RX10, TX10, 5, tyX10, rfl, by decide, uX10, lw_gi 110 (by decide +kernel) (by decide +kernel), tyX10_ok, nmX10, rfl, by decide +kernel⟩
theorem fX10_20 : Fl RX10 20 8 3 := ⟨RX10, TX10, 5, rfl, by decide, uX10, lw_gi 111 (by decide +kernel) (by decide +kernel)⟩
theorem pX10_20 : Fp RX10 20 8 3 .int := ⟨RX10, TX10, 5, tyX10, rfl, by decide, uX10, lw_gi 111 (by decide +kernel) (by decide +kernel), tyX10_ok, nmX10, rfl, by decide +kernel⟩
theorem fX10_23 : Fl RX10 23 8 4 := ⟨RX10, TX10, 5, rfl, by decide, uX10, lw_gi 112 (by decide +kernel) (by decide +kernel)⟩
theorem pX10_23 : Fp RX10 23 8 4 .int := ⟨RX10, TX10, 5, tyX10, rfl, by decide, uX10, lw_gi 112 (by decide +kernel) (by decide +kernel), tyX10_ok, nmX10, rfl, by decide +kernel⟩
theorem fX0_9 : Fl RX0 9 0 0 := ⟨RX0, TX0, 1, rfl, by decide, uX0, lw_gi 130 (by decide +kernel) (by decide +kernel)⟩
theorem fX6_11 : Fl RX6 11 5 0 := ⟨RX6, TX6, 5, rfl, by decide, uX6, lw_gi 140 (by decide +kernel) (by decide +kernel)⟩
theorem fX6_15 : Fl RX6 15 5 1 := ⟨RX6, TX6, 5, rfl, by decide, uX6, lw_gi 141 (by decide +kernel) (by decide +kernel)⟩
theorem fX6_18 : Fl RX6 18 5 2 := ⟨RX6, TX6, 5, rfl, by decide, uX6, lw_gi 142 (by decide +kernel) (by decide +kernel)⟩
theorem pX6_18 : Fp RX6 18 5 2 .int := ⟨RX6, TX6, 5, tyX6, rfl, by decide, uX6, lw_gi 142 (by decide +kernel) (by decide +kernel), tyX6_ok, nmX6, rfl, by decide +kernel⟩
theorem fX6_22 : Fl RX6 22 5 3 := ⟨RX6, TX6, 5, rfl, by decide, uX6, lw_gi 143 (by decide +kernel) (by decide +kernel)⟩
theorem pX6_22 : Fp RX6 22 5 3 .int := ⟨RX6, TX6, 5, tyX6, rfl, by decide, uX6, lw_gi 143 (by decide +kernel) (by decide +kernel), tyX6_ok, nmX6, rfl, by decide +kernel⟩
theorem fX6_25 : Fl RX6 25 5 4 := ⟨RX6, TX6, 5, rfl, by decide, uX6, lw_gi 144 (by decide +kernel) (by decide +kernel)⟩
theorem pX6_25 : Fp RX6 25 5 4 .int := ⟨RX6, TX6, 5, tyX6, rfl, by decide, uX6, lw_gi 144 (by decide +kernel) (by decide +kernel), tyX6_ok, nmX6, rfl, by decide +kernel⟩
theorem fX3_11 : Fl RX3 11 2 0 := ⟨RX3, TX3, 3, rfl, by decide, uX3, lw_gi 164 (by decide +kernel) (by decide +kernel)⟩
theorem fX3_14 : Fl RX3 14 2 1 := ⟨RX3, TX3, 3, rfl, by decide, uX3, lw_gi 165 (by decide +kernel) (by decide +kernel)⟩
theorem fX3_17 : Fl RX3 17 2 2 := ⟨RX3, TX3, 3, rfl, by decide, uX3, lw_gi 166 (by decide +kernel) (by decide +kernel)⟩
theorem fX9_9 : Fl RX9 9 7 0 := ⟨RX9, TX9, 4, rfl, by decide, uX9, lw_gi 180 (by decide +kernel) (by decide +kernel)⟩
theorem fX9_15 : Fl RX9 15 7 1 := ⟨RX9, TX9, 4, rfl, by decide, uX9, lw_gi 181 (by decide +kernel) (by decide +kernel)⟩
theorem fX9_18 : Fl RX9 18 7 2 := ⟨RX9, TX9, 4, rfl, by decide, uX9, lw_gi 182 (by decide +kernel) (by decide +kernel)⟩
theorem fX9_22 : Fl RX9 22 7 3 := ⟨RX9, TX9, 4, rfl, by decide, uX9, lw_gi 183 (by decide +kernel) (by decide +kernel)⟩
theorem pX9_22 : Fp RX9 22 7 3 .int := ⟨RX9, TX9, 4, tyX9, rfl, by decide, uX9, lw_gi 183 (by decide +kernel) (by decide +kernel), tyX9_ok, nmX9, rfl, by decide +kernel⟩
theorem fX2_9 : Fl RX2 9 1 0 := ⟨RX2, TX2, 3, rfl, by decide, uX2, lw_gi 200 (by decide +kernel) (by decide +kernel)⟩
theorem fX2_15 : Fl RX2 15 1 1 := ⟨RX2, TX2, 3, rfl, by decide, uX2, lw_gi 201 (by decide +kernel) (by decide +kernel)⟩
theorem fX2_18 : Fl RX2 18 1 2 := ⟨RX2, TX2, 3, rfl, by decide, uX2, lw_gi 202 (by decide +kernel) (by decide +kernel)⟩
theorem pX2_18 : Fp RX2 18 1 2 .int := ⟨RX2, TX2, 3, tyX2, rfl, by decide, uX2, lw_gi 202 (by decide +kernel) (by decide +kernel), tyX2_ok, nmX2, rfl, by decide +kernel⟩
theorem fX5_9 : Fl RX5 9 4 0 := ⟨RX5, TX5, 2, rfl, by decide, uX5, lw_gi 216 (by decide +kernel) (by decide +kernel)⟩
theorem fX5_13 : Fl RX5 13 4 1 := ⟨RX5, TX5, 2, rfl, by decide, uX5, lw_gi 217 (by decide +kernel) (by decide +kernel)⟩
theorem pX5_13 : Fp RX5 13 4 1 .long := ⟨RX5, TX5, 2, tyX5, rfl, by decide, uX5, lw_gi 217 (by decide +kernel) (by decide +kernel), tyX5_ok, nmX5, rfl, by decide +kernel⟩
theorem fX4_9 : Fl RX4 9 3 0 := ⟨RX4, TX4, 2, rfl, by decide, uX4, lw_gi 229 (by decide +kernel) (by decide +kernel)⟩
theorem fX4_13 : Fl RX4 13 3 1 := ⟨RX4, TX4, 2, rfl, by decide, uX4, lw_gi 230 (by decide +kernel) (by decide +kernel)⟩
theorem pX4_13 : Fp RX4 13 3 1 .int := ⟨RX4, TX4, 2, tyX4, rfl, by decide, uX4, lw_gi 230 (by decide +kernel) (by decide +kernel), tyX4_ok, nmX4, rfl, by decide +kernel⟩
theorem fX11_10 : Fl RX11 10 9 0 := ⟨RX11, TX11, 13, rfl, by decide, uX11, lw_gi 236 (by decide +kernel) (by decide +kernel)⟩
theorem fX11_19 : Fl RX11 19 9 1 := ⟨RX11, TX11, 13, rfl, by decide, uX11, lw_gi 237 (by decide +kernel) (by decide +kernel)⟩
theorem fX11_26 : Fl RX11 26 9 2 := ⟨RX11, TX11, 13, rfl, by decide, uX11, lw_gi 238 (by decide +kernel) (by decide +kernel)⟩
theorem fX11_30 : Fl RX11 30 9 3 := ⟨RX11, TX11, 13, rfl, by decide, uX11, lw_gi 239 (by decide +kernel) (by decide +kernel)⟩
theorem fX11_33 : Fl RX11 33 9 4 := ⟨RX11, TX11, 13, rfl, by decide, uX11, lw_gi 240 (by decide +kernel) (by decide +kernel)⟩
theorem fX11_39 : Fl RX11 39 9 5 := ⟨RX11, TX11, 13, rfl, by decide, uX11, lw_gi 241 (by decide +kernel) (by decide +kernel)⟩
theorem fX11_46 : Fl RX11 46 9 6 := ⟨RX11, TX11, 13, rfl, by decide, uX11, lw_gi 242 (by decide +kernel) (by decide +kernel)⟩
theorem fX11_53 : Fl RX11 53 9 7 := ⟨RX11, TX11, 13, rfl, by decide, uX11, lw_gi 243 (by decide +kernel) (by decide +kernel)⟩
theorem fX11_60 : Fl RX11 60 9 8 := ⟨RX11, TX11, 13, rfl, by decide, uX11, lw_gi 244 (by decide +kernel) (by decide +kernel)⟩
theorem fX11_67 : Fl RX11 67 9 9 := ⟨RX11, TX11, 13, rfl, by decide, uX11, lw_gi 245 (by decide +kernel) (by decide +kernel)⟩
theorem fX11_74 : Fl RX11 74 9 10 := ⟨RX11, TX11, 13, rfl, by decide, uX11, lw_gi 246 (by decide +kernel) (by decide +kernel)⟩
theorem fX11_78 : Fl RX11 78 9 11 := ⟨RX11, TX11, 13, rfl, by decide, uX11, lw_gi 247 (by decide +kernel) (by decide +kernel)⟩
theorem pX11_78 : Fp RX11 78 9 11 .int := ⟨RX11, TX11, 13, tyX11, rfl, by decide, uX11, lw_gi 247 (by decide +kernel) (by decide +kernel), tyX11_ok, nmX11, rfl, by decide +kernel⟩
theorem fX11_82 : Fl RX11 82 9 12 := ⟨RX11, TX11, 13, rfl, by decide, uX11, lw_gi 248 (by decide +kernel) (by decide +kernel)⟩
theorem pX11_82 : Fp RX11 82 9 12 .int := ⟨RX11, TX11, 13, tyX11, rfl, by decide, uX11, lw_gi 248 (by decide +kernel) (by decide +kernel), tyX11_ok, nmX11, rfl, by decide +kernel⟩
theorem lL_13 : Cond.methodLink RL 13 yX11_row ∈ lw_good := lw_gi 276 (by decide +kernel) (by decide +kernel)
theorem lX11_85 : Cond.methodLink RX11 85 yX8_isRow ∈ lw_good := lw_gi 280 (by decide +kernel) (by decide +kernel)
theorem qX11_89 : Cond.constant RX11 89 (Int32.ofInt (-1000001)) ∈ lw_good := lw_gi 283 (by decide +kernel) (by decide +kernel)
theorem lX11_90 : Cond.methodLink RX11 90 yX11_found ∈ lw_good := lw_gi 284 (by decide +kernel) (by decide +kernel)
theorem qX11_378 : Cond.constant RX11 378 (Int32.ofInt (-1000010)) ∈ lw_good := lw_gi 288 (by decide +kernel) (by decide +kernel)
theorem lX11_94 : Cond.methodLink RX11 94 yX8_make ∈ lw_good := lw_gi 289 (by decide +kernel) (by decide +kernel)
theorem lX11_98 : Cond.methodLink RX11 98 yX11_unfound ∈ lw_good := lw_gi 293 (by decide +kernel) (by decide +kernel)
theorem lL_18 : Cond.methodLink RL 18 yX11_set ∈ lw_good := lw_gi 297 (by decide +kernel) (by decide +kernel)
theorem lX11_101 : Cond.methodLink RX11 101 yX8_isMissing ∈ lw_good := lw_gi 301 (by decide +kernel) (by decide +kernel)
theorem lX11_104 : Cond.methodLink RX11 104 yX8_sizeOf ∈ lw_good := lw_gi 305 (by decide +kernel) (by decide +kernel)
theorem lX11_107 : Cond.methodLink RX11 107 yX8_put ∈ lw_good := lw_gi 309 (by decide +kernel) (by decide +kernel)
theorem lL_22 : Cond.methodLink RL 22 yX11_copy ∈ lw_good := lw_gi 313 (by decide +kernel) (by decide +kernel)
theorem lX11_111 : Cond.methodLink RX11 111 yX8_laneOf ∈ lw_good := lw_gi 317 (by decide +kernel) (by decide +kernel)
theorem lX11_114 : Cond.methodLink RX11 114 yX8_spans ∈ lw_good := lw_gi 321 (by decide +kernel) (by decide +kernel)
theorem lX11_118 : Cond.methodLink RX11 118 yX8_move ∈ lw_good := lw_gi 325 (by decide +kernel) (by decide +kernel)
theorem lX8_19 : Cond.methodLink RX8 19 arraycopyName ∈ lw_good ∧ Cond.native arraycopyName ∈ lw_good ∧ Cond.static arraycopyName ∈ lw_good ∧ Cond.initialized "java/lang/System" ∈ lw_good := ⟨lw_gi 329 (by decide +kernel) (by decide +kernel), lw_gi 331 (by decide +kernel) (by decide +kernel), lw_gi 330 (by decide +kernel) (by decide +kernel), lw_gi 72 (by decide +kernel) (by decide +kernel)⟩
theorem lL_27 : Cond.methodLink RL 27 yX11_drop ∈ lw_good := lw_gi 332 (by decide +kernel) (by decide +kernel)
theorem lX11_122 : Cond.methodLink RX11 122 yX8_forget ∈ lw_good := lw_gi 336 (by decide +kernel) (by decide +kernel)
theorem lL_32 : Cond.methodLink RL 32 yX11_feed ∈ lw_good := lw_gi 340 (by decide +kernel) (by decide +kernel)
theorem lX11_126 : Cond.methodLink RX11 126 yX10_size ∈ lw_good := lw_gi 344 (by decide +kernel) (by decide +kernel)
theorem qX11_130 : Cond.constant RX11 130 (Int32.ofInt (-1000003)) ∈ lw_good := lw_gi 348 (by decide +kernel) (by decide +kernel)
theorem lX11_131 : Cond.methodLink RX11 131 yX10_add ∈ lw_good := lw_gi 349 (by decide +kernel) (by decide +kernel)
theorem lL_36 : Cond.methodLink RL 36 yX11_book ∈ lw_good := lw_gi 353 (by decide +kernel) (by decide +kernel)
theorem lX11_134 : Cond.methodLink RX11 134 yX10_readInto ∈ lw_good := lw_gi 357 (by decide +kernel) (by decide +kernel)
theorem lX10_26 : Cond.methodLink RX10 26 yX0_clear ∈ lw_good := lw_gi 361 (by decide +kernel) (by decide +kernel)
theorem lX10_31 : Cond.methodLink RX10 31 yX10_takeLaw ∈ lw_good := lw_gi 365 (by decide +kernel) (by decide +kernel)
theorem lX10_49 : Cond.methodLink RX10 49 yX10_takeByte ∈ lw_good := lw_gi 369 (by decide +kernel) (by decide +kernel)
theorem lX10_67 : Cond.methodLink RX10 67 yX10_next ∈ lw_good := lw_gi 373 (by decide +kernel) (by decide +kernel)
theorem lX10_41 : Cond.methodLink RX10 41 yX10_leave ∈ lw_good := lw_gi 377 (by decide +kernel) (by decide +kernel)
theorem lX10_52 : Cond.methodLink RX10 52 yX0_leastLaw ∈ lw_good := lw_gi 381 (by decide +kernel) (by decide +kernel)
theorem lX10_56 : Cond.methodLink RX10 56 yX0_mostLaw ∈ lw_good := lw_gi 384 (by decide +kernel) (by decide +kernel)
theorem lX10_59 : Cond.methodLink RX10 59 yX10_takeNumber ∈ lw_good := lw_gi 387 (by decide +kernel) (by decide +kernel)
theorem lX10_63 : Cond.methodLink RX10 63 yX0_setLaw ∈ lw_good := lw_gi 391 (by decide +kernel) (by decide +kernel)
theorem lX10_35 : Cond.methodLink RX10 35 yX10_takeSorts ∈ lw_good := lw_gi 395 (by decide +kernel) (by decide +kernel)
theorem lX10_71 : Cond.methodLink RX10 71 yX10_takeSort ∈ lw_good := lw_gi 399 (by decide +kernel) (by decide +kernel)
theorem lX10_74 : Cond.methodLink RX10 74 yX4_toldBy ∈ lw_good := lw_gi 403 (by decide +kernel) (by decide +kernel)
theorem lX10_79 : Cond.methodLink RX10 79 yX0_sortCount ∈ lw_good := lw_gi 406 (by decide +kernel) (by decide +kernel)
theorem lX10_82 : Cond.methodLink RX10 82 yX0_addSort ∈ lw_good := lw_gi 410 (by decide +kernel) (by decide +kernel)
theorem lX10_85 : Cond.methodLink RX10 85 yX0_setPart ∈ lw_good := lw_gi 414 (by decide +kernel) (by decide +kernel)
theorem lX10_89 : Cond.methodLink RX10 89 yX10_isTile ∈ lw_good := lw_gi 418 (by decide +kernel) (by decide +kernel)
theorem lX10_92 : Cond.methodLink RX10 92 yX10_nextTile ∈ lw_good := lw_gi 421 (by decide +kernel) (by decide +kernel)
theorem lX10_95 : Cond.methodLink RX10 95 yX0_addToWord ∈ lw_good := lw_gi 425 (by decide +kernel) (by decide +kernel)
theorem lX0_33 : Cond.methodLink RX0 33 yX0_setWordLetter ∈ lw_good := lw_gi 429 (by decide +kernel) (by decide +kernel)
theorem lX10_98 : Cond.methodLink RX10 98 yX0_wordSize ∈ lw_good := lw_gi 433 (by decide +kernel) (by decide +kernel)
theorem lX10_38 : Cond.methodLink RX10 38 yX10_takeTheRow ∈ lw_good := lw_gi 437 (by decide +kernel) (by decide +kernel)
theorem lX10_101 : Cond.methodLink RX10 101 yX0_addToRow ∈ lw_good := lw_gi 441 (by decide +kernel) (by decide +kernel)
theorem lX0_58 : Cond.methodLink RX0 58 yX0_setRowLetter ∈ lw_good := lw_gi 445 (by decide +kernel) (by decide +kernel)
theorem lX10_105 : Cond.methodLink RX10 105 yX0_rowSize ∈ lw_good := lw_gi 449 (by decide +kernel) (by decide +kernel)
theorem lX10_45 : Cond.methodLink RX10 45 yX0_hasAllSortsItNames ∈ lw_good := lw_gi 453 (by decide +kernel) (by decide +kernel)
theorem lX0_37 : Cond.methodLink RX0 37 yX0_wordSize ∈ lw_good := lw_gi 457 (by decide +kernel) (by decide +kernel)
theorem lX0_40 : Cond.methodLink RX0 40 yX0_wordLetter ∈ lw_good := lw_gi 458 (by decide +kernel) (by decide +kernel)
theorem lX0_62 : Cond.methodLink RX0 62 yX0_hasSort ∈ lw_good := lw_gi 462 (by decide +kernel) (by decide +kernel)
theorem lX0_66 : Cond.methodLink RX0 66 yX0_rowLetter ∈ lw_good := lw_gi 466 (by decide +kernel) (by decide +kernel)
theorem lX11_138 : Cond.methodLink RX11 138 yX10_at ∈ lw_good := lw_gi 470 (by decide +kernel) (by decide +kernel)
theorem lX11_141 : Cond.methodLink RX11 141 yX10_clear ∈ lw_good := lw_gi 474 (by decide +kernel) (by decide +kernel)
theorem qX11_144 : Cond.constant RX11 144 (Int32.ofInt (-1000100)) ∈ lw_good := lw_gi 478 (by decide +kernel) (by decide +kernel)
theorem lX11_145 : Cond.methodLink RX11 145 yX0_takeAll ∈ lw_good := lw_gi 479 (by decide +kernel) (by decide +kernel)
theorem lX0_13 : Cond.methodLink RX0 13 yX0_takeAll_ ∈ lw_good := lw_gi 483 (by decide +kernel) (by decide +kernel)
theorem lX0_17 : Cond.methodLink RX0 17 arraycopyName ∈ lw_good ∧ Cond.native arraycopyName ∈ lw_good ∧ Cond.static arraycopyName ∈ lw_good ∧ Cond.initialized "java/lang/System" ∈ lw_good := ⟨lw_gi 487 (by decide +kernel) (by decide +kernel), lw_gi 331 (by decide +kernel) (by decide +kernel), lw_gi 330 (by decide +kernel) (by decide +kernel), lw_gi 72 (by decide +kernel) (by decide +kernel)⟩
theorem lX11_149 : Cond.methodLink RX11 149 yX6_forgetActs ∈ lw_good := lw_gi 488 (by decide +kernel) (by decide +kernel)
theorem lX11_152 : Cond.methodLink RX11 152 yX0_sortCount ∈ lw_good := lw_gi 492 (by decide +kernel) (by decide +kernel)
theorem lL_41 : Cond.methodLink RL 41 yX11_fault ∈ lw_good := lw_gi 493 (by decide +kernel) (by decide +kernel)
theorem lL_45 : Cond.methodLink RL 45 yX11_undo ∈ lw_good := lw_gi 497 (by decide +kernel) (by decide +kernel)
theorem lX11_155 : Cond.methodLink RX11 155 yX6_actCount ∈ lw_good := lw_gi 501 (by decide +kernel) (by decide +kernel)
theorem qX11_158 : Cond.constant RX11 158 (Int32.ofInt (-1000002)) ∈ lw_good := lw_gi 505 (by decide +kernel) (by decide +kernel)
theorem lX11_159 : Cond.methodLink RX11 159 yX6_takeBack ∈ lw_good := lw_gi 506 (by decide +kernel) (by decide +kernel)
theorem lX6_32 : Cond.methodLink RX6 32 yX0_takeAll_ ∈ lw_good := lw_gi 510 (by decide +kernel) (by decide +kernel)
theorem lL_49 : Cond.methodLink RL 49 yX11_word ∈ lw_good := lw_gi 511 (by decide +kernel) (by decide +kernel)
theorem lX11_162 : Cond.methodLink RX11 162 yX0_hasSort ∈ lw_good := lw_gi 515 (by decide +kernel) (by decide +kernel)
theorem lX11_165 : Cond.methodLink RX11 165 yX11_lettersFinding ∈ lw_good := lw_gi 516 (by decide +kernel) (by decide +kernel)
theorem lX11_178 : Cond.methodLink RX11 178 yX8_item ∈ lw_good := lw_gi 520 (by decide +kernel) (by decide +kernel)
theorem lX11_169 : Cond.methodLink RX11 169 yX0_wordSize ∈ lw_good := lw_gi 524 (by decide +kernel) (by decide +kernel)
theorem lX11_172 : Cond.methodLink RX11 172 yX6_keepAct ∈ lw_good := lw_gi 525 (by decide +kernel) (by decide +kernel)
theorem lX6_28 : Cond.methodLink RX6 28 yX0_putAll ∈ lw_good := lw_gi 529 (by decide +kernel) (by decide +kernel)
theorem lX11_175 : Cond.methodLink RX11 175 yX0_clearWord ∈ lw_good := lw_gi 533 (by decide +kernel) (by decide +kernel)
theorem lX11_181 : Cond.methodLink RX11 181 yX0_addToWord ∈ lw_good := lw_gi 537 (by decide +kernel) (by decide +kernel)
theorem lL_53 : Cond.methodLink RL 53 yX11_length ∈ lw_good := lw_gi 538 (by decide +kernel) (by decide +kernel)
theorem lX11_185 : Cond.methodLink RX11 185 yX0_part ∈ lw_good := lw_gi 542 (by decide +kernel) (by decide +kernel)
theorem lX11_188 : Cond.methodLink RX11 188 yX0_setPart ∈ lw_good := lw_gi 546 (by decide +kernel) (by decide +kernel)
theorem lL_57 : Cond.methodLink RL 57 yX11_become ∈ lw_good := lw_gi 547 (by decide +kernel) (by decide +kernel)
theorem lX11_191 : Cond.methodLink RX11 191 yX0_kindOf ∈ lw_good := lw_gi 551 (by decide +kernel) (by decide +kernel)
theorem lX11_194 : Cond.methodLink RX11 194 yX0_setKind ∈ lw_good := lw_gi 555 (by decide +kernel) (by decide +kernel)
theorem lL_62 : Cond.methodLink RL 62 yX11_root ∈ lw_good := lw_gi 559 (by decide +kernel) (by decide +kernel)
theorem lX11_197 : Cond.methodLink RX11 197 yX0_stands ∈ lw_good := lw_gi 563 (by decide +kernel) (by decide +kernel)
theorem lX11_201 : Cond.methodLink RX11 201 yX0_leastLaw ∈ lw_good := lw_gi 567 (by decide +kernel) (by decide +kernel)
theorem lX11_204 : Cond.methodLink RX11 204 yX0_mostLaw ∈ lw_good := lw_gi 568 (by decide +kernel) (by decide +kernel)
theorem lX11_207 : Cond.methodLink RX11 207 yX0_law ∈ lw_good := lw_gi 569 (by decide +kernel) (by decide +kernel)
theorem lX11_210 : Cond.methodLink RX11 210 yX0_setLaw ∈ lw_good := lw_gi 573 (by decide +kernel) (by decide +kernel)
theorem lL_66 : Cond.methodLink RL 66 yX11_begin ∈ lw_good := lw_gi 574 (by decide +kernel) (by decide +kernel)
theorem lX11_213 : Cond.methodLink RX11 213 yX0_rowSize ∈ lw_good := lw_gi 578 (by decide +kernel) (by decide +kernel)
theorem lX11_216 : Cond.methodLink RX11 216 yX0_clearRow ∈ lw_good := lw_gi 579 (by decide +kernel) (by decide +kernel)
theorem lX11_219 : Cond.methodLink RX11 219 yX0_addToRow ∈ lw_good := lw_gi 583 (by decide +kernel) (by decide +kernel)
theorem lL_70 : Cond.methodLink RL 70 yX11_inflate ∈ lw_good := lw_gi 584 (by decide +kernel) (by decide +kernel)
theorem lX11_222 : Cond.methodLink RX11 222 yX3_grow ∈ lw_good := lw_gi 588 (by decide +kernel) (by decide +kernel)
theorem lX3_21 : Cond.methodLink RX3 21 yX0_rowSize ∈ lw_good := lw_gi 592 (by decide +kernel) (by decide +kernel)
theorem lX3_27 : Cond.methodLink RX3 27 yX0_rowLetter ∈ lw_good := lw_gi 593 (by decide +kernel) (by decide +kernel)
theorem lX3_31 : Cond.methodLink RX3 31 yX3_growOnce ∈ lw_good := lw_gi 594 (by decide +kernel) (by decide +kernel)
theorem lX3_35 : Cond.methodLink RX3 35 yX0_imageSize ∈ lw_good := lw_gi 598 (by decide +kernel) (by decide +kernel)
theorem lX0_23 : Cond.methodLink RX0 23 yX0_kindOf ∈ lw_good := lw_gi 602 (by decide +kernel) (by decide +kernel)
theorem lX3_38 : Cond.methodLink RX3 38 yX0_imageLetter ∈ lw_good := lw_gi 603 (by decide +kernel) (by decide +kernel)
theorem lX11_226 : Cond.methodLink RX11 226 yX3_sizeAt ∈ lw_good := lw_gi 607 (by decide +kernel) (by decide +kernel)
theorem lX11_229 : Cond.methodLink RX11 229 yX3_letterAt ∈ lw_good := lw_gi 611 (by decide +kernel) (by decide +kernel)
theorem lL_74 : Cond.methodLink RL 74 yX11_sort ∈ lw_good := lw_gi 615 (by decide +kernel) (by decide +kernel)
theorem lX11_232 : Cond.methodLink RX11 232 yX0_imageSize ∈ lw_good := lw_gi 619 (by decide +kernel) (by decide +kernel)
theorem lX11_235 : Cond.methodLink RX11 235 yX11_wordLetterOrNone ∈ lw_good := lw_gi 620 (by decide +kernel) (by decide +kernel)
theorem lX11_379 : Cond.methodLink RX11 379 yX0_wordLetter ∈ lw_good := lw_gi 624 (by decide +kernel) (by decide +kernel)
theorem qX11_244 : Cond.constant RX11 244 (Int32.ofInt (-1000000)) ∈ lw_good := lw_gi 625 (by decide +kernel) (by decide +kernel)
theorem lX11_238 : Cond.methodLink RX11 238 yX11_imageLetterOrNone ∈ lw_good := lw_gi 626 (by decide +kernel) (by decide +kernel)
theorem lX11_382 : Cond.methodLink RX11 382 yX0_imageLetter ∈ lw_good := lw_gi 630 (by decide +kernel) (by decide +kernel)
theorem lL_78 : Cond.methodLink RL 78 yX11_letter ∈ lw_good := lw_gi 631 (by decide +kernel) (by decide +kernel)
theorem lX11_241 : Cond.methodLink RX11 241 yX0_rowLetter ∈ lw_good := lw_gi 635 (by decide +kernel) (by decide +kernel)
theorem lL_82 : Cond.methodLink RL 82 yX11_grown ∈ lw_good := lw_gi 636 (by decide +kernel) (by decide +kernel)
theorem lX11_245 : Cond.methodLink RX11 245 yX3_isStep ∈ lw_good := lw_gi 640 (by decide +kernel) (by decide +kernel)
theorem lL_86 : Cond.methodLink RL 86 yX11_origin ∈ lw_good := lw_gi 643 (by decide +kernel) (by decide +kernel)
theorem lX11_248 : Cond.methodLink RX11 248 yX3_ancestor ∈ lw_good := lw_gi 647 (by decide +kernel) (by decide +kernel)
theorem lL_90 : Cond.methodLink RL 90 yX11_place ∈ lw_good := lw_gi 651 (by decide +kernel) (by decide +kernel)
theorem qX11_251 : Cond.constantLong RX11 251 (Int64.ofInt (-1000002)) ∈ lw_good := lw_gi 655 (by decide +kernel) (by decide +kernel)
theorem qX11_253 : Cond.constantLong RX11 253 (Int64.ofInt (-1000001)) ∈ lw_good := lw_gi 656 (by decide +kernel) (by decide +kernel)
theorem qX11_255 : Cond.constantLong RX11 255 (Int64.ofInt (-1000003)) ∈ lw_good := lw_gi 657 (by decide +kernel) (by decide +kernel)
theorem lX11_257 : Cond.methodLink RX11 257 yX3_lengthAhead ∈ lw_good := lw_gi 658 (by decide +kernel) (by decide +kernel)
theorem lX3_42 : Cond.methodLink RX3 42 yX0_lengthOf ∈ lw_good := lw_gi 662 (by decide +kernel) (by decide +kernel)
theorem lX0_29 : Cond.methodLink RX0 29 yX0_part ∈ lw_good := lw_gi 666 (by decide +kernel) (by decide +kernel)
theorem qX11_261 : Cond.constantLong RX11 261 (Int64.ofInt (-1000000)) ∈ lw_good := lw_gi 667 (by decide +kernel) (by decide +kernel)
theorem lL_95 : Cond.methodLink RL 95 yX11_numbers ∈ lw_good := lw_gi 668 (by decide +kernel) (by decide +kernel)
theorem lX11_263 : Cond.methodLink RX11 263 yX9_run ∈ lw_good := lw_gi 672 (by decide +kernel) (by decide +kernel)
theorem lX9_26 : Cond.methodLink RX9 26 yX9_takeImages ∈ lw_good := lw_gi 676 (by decide +kernel) (by decide +kernel)
theorem lX9_42 : Cond.methodLink RX9 42 yX0_sortCount ∈ lw_good := lw_gi 680 (by decide +kernel) (by decide +kernel)
theorem lX9_45 : Cond.methodLink RX9 45 yX0_timesInImage ∈ lw_good := lw_gi 681 (by decide +kernel) (by decide +kernel)
theorem lX0_43 : Cond.methodLink RX0 43 yX0_imageSize ∈ lw_good := lw_gi 685 (by decide +kernel) (by decide +kernel)
theorem lX0_46 : Cond.methodLink RX0 46 yX0_imageLetter ∈ lw_good := lw_gi 686 (by decide +kernel) (by decide +kernel)
theorem lX9_30 : Cond.methodLink RX9 30 yX0_rowSize ∈ lw_good := lw_gi 687 (by decide +kernel) (by decide +kernel)
theorem lX9_34 : Cond.methodLink RX9 34 yX0_rowLetter ∈ lw_good := lw_gi 688 (by decide +kernel) (by decide +kernel)
theorem lX9_38 : Cond.methodLink RX9 38 yX9_runOnce ∈ lw_good := lw_gi 689 (by decide +kernel) (by decide +kernel)
theorem lX9_48 : Cond.methodLink RX9 48 yX1_times ∈ lw_good := lw_gi 693 (by decide +kernel) (by decide +kernel)
theorem qX1_11 : Cond.constantLong RX1 11 (Int64.ofInt (-1)) ∈ lw_good := lw_gi 696 (by decide +kernel) (by decide +kernel)
theorem qX1_9 : Cond.constantLong RX1 9 (Int64.ofInt (9223372036854775807)) ∈ lw_good := lw_gi 697 (by decide +kernel) (by decide +kernel)
theorem lX9_54 : Cond.methodLink RX9 54 yX1_plus ∈ lw_good := lw_gi 698 (by decide +kernel) (by decide +kernel)
theorem lX9_58 : Cond.methodLink RX9 58 arraycopyName ∈ lw_good ∧ Cond.native arraycopyName ∈ lw_good ∧ Cond.static arraycopyName ∈ lw_good ∧ Cond.initialized "java/lang/System" ∈ lw_good := ⟨lw_gi 701 (by decide +kernel) (by decide +kernel), lw_gi 331 (by decide +kernel) (by decide +kernel), lw_gi 330 (by decide +kernel) (by decide +kernel), lw_gi 72 (by decide +kernel) (by decide +kernel)⟩
theorem lX11_266 : Cond.methodLink RX11 266 yX9_of ∈ lw_good := lw_gi 702 (by decide +kernel) (by decide +kernel)
theorem qX11_272 : Cond.constantLong RX11 272 (Int64.ofInt (-1)) ∈ lw_good := lw_gi 706 (by decide +kernel) (by decide +kernel)
theorem lX11_274 : Cond.methodLink RX11 274 yX11_orOver ∈ lw_good := lw_gi 707 (by decide +kernel) (by decide +kernel)
theorem lL_100 : Cond.methodLink RL 100 yX11_share ∈ lw_good := lw_gi 711 (by decide +kernel) (by decide +kernel)
theorem lX11_278 : Cond.methodLink RX11 278 yX9_sum ∈ lw_good := lw_gi 715 (by decide +kernel) (by decide +kernel)
theorem lX11_282 : Cond.methodLink RX11 282 yX1_partOfFraction ∈ lw_good := lw_gi 719 (by decide +kernel) (by decide +kernel)
theorem lX1_13 : Cond.methodLink RX1 13 yX1_commonDivisor ∈ lw_good := lw_gi 722 (by decide +kernel) (by decide +kernel)
theorem lL_104 : Cond.methodLink RL 104 yX11_all ∈ lw_good := lw_gi 725 (by decide +kernel) (by decide +kernel)
theorem lX11_286 : Cond.methodLink RX11 286 yX9_wholeLength ∈ lw_good := lw_gi 729 (by decide +kernel) (by decide +kernel)
theorem lX9_64 : Cond.methodLink RX9 64 yX0_lengthOf ∈ lw_good := lw_gi 733 (by decide +kernel) (by decide +kernel)
theorem lL_108 : Cond.methodLink RL 108 yX11_whole ∈ lw_good := lw_gi 734 (by decide +kernel) (by decide +kernel)
theorem lX11_290 : Cond.methodLink RX11 290 yX7_in ∈ lw_good := lw_gi 738 (by decide +kernel) (by decide +kernel)
theorem lX7_7 : Cond.methodLink RX7 7 yX7_lettersEver ∈ lw_good := lw_gi 741 (by decide +kernel) (by decide +kernel)
theorem lX7_17 : Cond.methodLink RX7 17 yX0_rowSize ∈ lw_good := lw_gi 744 (by decide +kernel) (by decide +kernel)
theorem lX7_23 : Cond.methodLink RX7 23 yX0_rowLetter ∈ lw_good := lw_gi 745 (by decide +kernel) (by decide +kernel)
theorem lX7_34 : Cond.methodLink RX7 34 yX0_sortCount ∈ lw_good := lw_gi 746 (by decide +kernel) (by decide +kernel)
theorem lX7_37 : Cond.methodLink RX7 37 yX7_lettersOfImage ∈ lw_good := lw_gi 747 (by decide +kernel) (by decide +kernel)
theorem lX7_40 : Cond.methodLink RX7 40 yX0_imageSize ∈ lw_good := lw_gi 750 (by decide +kernel) (by decide +kernel)
theorem lX7_43 : Cond.methodLink RX7 43 yX0_imageLetter ∈ lw_good := lw_gi 751 (by decide +kernel) (by decide +kernel)
theorem lX7_13 : Cond.methodLink RX7 13 yX7_withinImages ∈ lw_good := lw_gi 752 (by decide +kernel) (by decide +kernel)
theorem lX7_46 : Cond.methodLink RX7 46 yX7_withinImage ∈ lw_good := lw_gi 755 (by decide +kernel) (by decide +kernel)
theorem lX7_27 : Cond.methodLink RX7 27 yX7_bit ∈ lw_good := lw_gi 758 (by decide +kernel) (by decide +kernel)
theorem lX7_31 : Cond.methodLink RX7 31 yX7_whereImagesMeet ∈ lw_good := lw_gi 761 (by decide +kernel) (by decide +kernel)
theorem lX11_295 : Cond.methodLink RX11 295 yJ6_bitCount_0f7a4 ∈ lw_good := lw_gi 764 (by decide +kernel) (by decide +kernel)
theorem qJ6_265 : Cond.constant RJ6 265 (Int32.ofInt (1431655765)) ∈ lw_good := lw_gi 767 (by decide +kernel) (by decide +kernel)
theorem qJ6_266 : Cond.constant RJ6 266 (Int32.ofInt (858993459)) ∈ lw_good := lw_gi 768 (by decide +kernel) (by decide +kernel)
theorem qJ6_267 : Cond.constant RJ6 267 (Int32.ofInt (252645135)) ∈ lw_good := lw_gi 769 (by decide +kernel) (by decide +kernel)
theorem lX11_300 : Cond.methodLink RX11 300 yX11_scalePart ∈ lw_good := lw_gi 770 (by decide +kernel) (by decide +kernel)
theorem lX11_385 : Cond.methodLink RX11 385 yX0_scalesBy ∈ lw_good := lw_gi 774 (by decide +kernel) (by decide +kernel)
theorem lX0_49 : Cond.methodLink RX0 49 yX0_lengthOf ∈ lw_good := lw_gi 778 (by decide +kernel) (by decide +kernel)
theorem lX0_52 : Cond.methodLink RX0 52 yX0_imageLength ∈ lw_good := lw_gi 779 (by decide +kernel) (by decide +kernel)
theorem lX0_55 : Cond.methodLink RX0 55 yX0_law ∈ lw_good := lw_gi 783 (by decide +kernel) (by decide +kernel)
theorem lL_112 : Cond.methodLink RL 112 yX11_back ∈ lw_good := lw_gi 784 (by decide +kernel) (by decide +kernel)
theorem lX11_303 : Cond.methodLink RX11 303 yX2_clear ∈ lw_good := lw_gi 788 (by decide +kernel) (by decide +kernel)
theorem lX11_304 : Cond.methodLink RX11 304 yX2_add ∈ lw_good := lw_gi 792 (by decide +kernel) (by decide +kernel)
theorem lX11_305 : Cond.methodLink RX11 305 yX2_unfold ∈ lw_good := lw_gi 796 (by decide +kernel) (by decide +kernel)
theorem lX2_22 : Cond.methodLink RX2 22 yX0_sortCount ∈ lw_good := lw_gi 800 (by decide +kernel) (by decide +kernel)
theorem lX2_28 : Cond.methodLink RX2 28 yX2_liesAt ∈ lw_good := lw_gi 801 (by decide +kernel) (by decide +kernel)
theorem lX2_32 : Cond.methodLink RX2 32 yX0_imageSize ∈ lw_good := lw_gi 805 (by decide +kernel) (by decide +kernel)
theorem lX2_47 : Cond.methodLink RX2 47 yX0_imageLetter ∈ lw_good := lw_gi 806 (by decide +kernel) (by decide +kernel)
theorem qX2_36 : Cond.constant RX2 36 (Int32.ofInt (1000000)) ∈ lw_good := lw_gi 807 (by decide +kernel) (by decide +kernel)
theorem lX2_37 : Cond.methodLink RX2 37 yJ9_min_7cf53 ∈ lw_good := lw_gi 808 (by decide +kernel) (by decide +kernel)
theorem lX11_308 : Cond.methodLink RX11 308 yX2_ways ∈ lw_good := lw_gi 811 (by decide +kernel) (by decide +kernel)
theorem lX11_311 : Cond.methodLink RX11 311 yX2_letterOfFirst ∈ lw_good := lw_gi 815 (by decide +kernel) (by decide +kernel)
theorem lX2_43 : Cond.methodLink RX2 43 yX2_leastAt ∈ lw_good := lw_gi 819 (by decide +kernel) (by decide +kernel)
theorem lL_116 : Cond.methodLink RL 116 yX11_who ∈ lw_good := lw_gi 823 (by decide +kernel) (by decide +kernel)
theorem lX11_315 : Cond.methodLink RX11 315 yX11_bitsThatTell ∈ lw_good := lw_gi 827 (by decide +kernel) (by decide +kernel)
theorem lX11_388 : Cond.methodLink RX11 388 yX0_setRowLetter ∈ lw_good := lw_gi 831 (by decide +kernel) (by decide +kernel)
theorem lX11_391 : Cond.methodLink RX11 391 yX0_setWordLetter ∈ lw_good := lw_gi 832 (by decide +kernel) (by decide +kernel)
theorem lX11_394 : Cond.methodLink RX11 394 yX11_trialTells ∈ lw_good := lw_gi 833 (by decide +kernel) (by decide +kernel)
theorem lL_121 : Cond.methodLink RL 121 yX11_quiet ∈ lw_good := lw_gi 837 (by decide +kernel) (by decide +kernel)
theorem lX11_319 : Cond.methodLink RX11 319 yX11_isQuiet ∈ lw_good := lw_gi 841 (by decide +kernel) (by decide +kernel)
theorem lL_125 : Cond.methodLink RL 125 yX11_sets ∈ lw_good := lw_gi 845 (by decide +kernel) (by decide +kernel)
theorem lX11_323 : Cond.methodLink RX11 323 yX11_weightOf ∈ lw_good := lw_gi 849 (by decide +kernel) (by decide +kernel)
theorem lX11_397 : Cond.methodLink RX11 397 yX0_lengthOf ∈ lw_good := lw_gi 853 (by decide +kernel) (by decide +kernel)
theorem lL_129 : Cond.methodLink RL 129 yX11_lost ∈ lw_good := lw_gi 854 (by decide +kernel) (by decide +kernel)
theorem lX11_326 : Cond.methodLink RX11 326 yX5_spread ∈ lw_good := lw_gi 858 (by decide +kernel) (by decide +kernel)
theorem lX5_17 : Cond.methodLink RX5 17 yX0_rowSize ∈ lw_good := lw_gi 862 (by decide +kernel) (by decide +kernel)
theorem lX5_23 : Cond.methodLink RX5 23 yX0_rowLetter ∈ lw_good := lw_gi 863 (by decide +kernel) (by decide +kernel)
theorem lX5_27 : Cond.methodLink RX5 27 yX0_timesInImage ∈ lw_good := lw_gi 864 (by decide +kernel) (by decide +kernel)
theorem lX5_31 : Cond.methodLink RX5 31 yX5_addLetter ∈ lw_good := lw_gi 865 (by decide +kernel) (by decide +kernel)
theorem qX5_35 : Cond.constantLong RX5 35 (Int64.ofInt (10)) ∈ lw_good := lw_gi 869 (by decide +kernel) (by decide +kernel)
theorem lX11_330 : Cond.methodLink RX11 330 yX5_casesUpTo ∈ lw_good := lw_gi 870 (by decide +kernel) (by decide +kernel)
theorem lX11_333 : Cond.methodLink RX11 333 yX5_cases ∈ lw_good := lw_gi 874 (by decide +kernel) (by decide +kernel)
theorem lL_134 : Cond.methodLink RL 134 yX11_drawn ∈ lw_good := lw_gi 878 (by decide +kernel) (by decide +kernel)
theorem qX11_336 : Cond.constant RX11 336 (Int32.ofInt (999999)) ∈ lw_good := lw_gi 882 (by decide +kernel) (by decide +kernel)
theorem qX11_337 : Cond.constant RX11 337 (Int32.ofInt (65535)) ∈ lw_good := lw_gi 883 (by decide +kernel) (by decide +kernel)
theorem qX11_338 : Cond.constantLong RX11 338 (Int64.ofInt (16807)) ∈ lw_good := lw_gi 884 (by decide +kernel) (by decide +kernel)
theorem qX11_340 : Cond.constantLong RX11 340 (Int64.ofInt (2147483647)) ∈ lw_good := lw_gi 885 (by decide +kernel) (by decide +kernel)
theorem lX11_342 : Cond.methodLink RX11 342 yX11_changeByDraw ∈ lw_good := lw_gi 886 (by decide +kernel) (by decide +kernel)
theorem qX11_400 : Cond.constantLong RX11 400 (Int64.ofInt (16)) ∈ lw_good := lw_gi 890 (by decide +kernel) (by decide +kernel)
theorem lL_138 : Cond.methodLink RL 138 yX11_image ∈ lw_good := lw_gi 891 (by decide +kernel) (by decide +kernel)
theorem lX11_346 : Cond.methodLink RX11 346 yX6_isImage ∈ lw_good := lw_gi 895 (by decide +kernel) (by decide +kernel)
theorem lX11_349 : Cond.methodLink RX11 349 yX6_keepImage ∈ lw_good := lw_gi 898 (by decide +kernel) (by decide +kernel)
theorem lL_142 : Cond.methodLink RL 142 yX11_restore ∈ lw_good := lw_gi 902 (by decide +kernel) (by decide +kernel)
theorem lX11_353 : Cond.methodLink RX11 353 yX6_hasImage ∈ lw_good := lw_gi 906 (by decide +kernel) (by decide +kernel)
theorem lX11_356 : Cond.methodLink RX11 356 yX6_bringImage ∈ lw_good := lw_gi 910 (by decide +kernel) (by decide +kernel)
theorem lL_146 : Cond.methodLink RL 146 yX11_kind ∈ lw_good := lw_gi 914 (by decide +kernel) (by decide +kernel)
theorem lL_150 : Cond.methodLink RL 150 yX11_as ∈ lw_good := lw_gi 918 (by decide +kernel) (by decide +kernel)
theorem lX11_359 : Cond.methodLink RX11 359 yX4_isA ∈ lw_good := lw_gi 922 (by decide +kernel) (by decide +kernel)
theorem zX4_17 : Cond.fieldLink RX4 17 RX4 (zn 0) "[I" ∈ lw_good := lw_gi 925 (by decide +kernel) (by decide +kernel)
theorem lL_154 : Cond.methodLink RL 154 yX11_ask ∈ lw_good := lw_gi 927 (by decide +kernel) (by decide +kernel)
theorem lX11_362 : Cond.methodLink RX11 362 yX4_answer ∈ lw_good := lw_gi 931 (by decide +kernel) (by decide +kernel)
theorem lX4_20 : Cond.methodLink RX4 20 yX4_sizeBody ∈ lw_good := lw_gi 935 (by decide +kernel) (by decide +kernel)
theorem zX4_31 : Cond.fieldLink RX4 31 RX4 (zn 1) "[I" ∈ lw_good := lw_gi 938 (by decide +kernel) (by decide +kernel)
theorem lX4_34 : Cond.methodLink RX4 34 yX0_kindOf ∈ lw_good := lw_gi 940 (by decide +kernel) (by decide +kernel)
theorem lX4_24 : Cond.methodLink RX4 24 yX4_markBody ∈ lw_good := lw_gi 941 (by decide +kernel) (by decide +kernel)
theorem zX4_40 : Cond.fieldLink RX4 40 RX4 (zn 2) "[I" ∈ lw_good := lw_gi 944 (by decide +kernel) (by decide +kernel)
theorem lX4_27 : Cond.methodLink RX4 27 yX4_give ∈ lw_good := lw_gi 946 (by decide +kernel) (by decide +kernel)
theorem lX4_43 : Cond.methodLink RX4 43 yX4_leave ∈ lw_good := lw_gi 950 (by decide +kernel) (by decide +kernel)
theorem lX4_47 : Cond.methodLink RX4 47 yX0_part ∈ lw_good := lw_gi 954 (by decide +kernel) (by decide +kernel)
theorem lX4_51 : Cond.methodLink RX4 51 yX0_wordSize ∈ lw_good := lw_gi 955 (by decide +kernel) (by decide +kernel)
theorem lL_158 : Cond.methodLink RL 158 yX11_trace ∈ lw_good := lw_gi 956 (by decide +kernel) (by decide +kernel)
theorem lX11_366 : Cond.methodLink RX11 366 yX4_bodyCount ∈ lw_good := lw_gi 960 (by decide +kernel) (by decide +kernel)
theorem lX11_369 : Cond.methodLink RX11 369 yX4_body ∈ lw_good := lw_gi 964 (by decide +kernel) (by decide +kernel)
theorem lL_162 : Cond.methodLink RL 162 yX11_count ∈ lw_good := lw_gi 968 (by decide +kernel) (by decide +kernel)
theorem lX11_372 : Cond.methodLink RX11 372 yX8_howMany ∈ lw_good := lw_gi 972 (by decide +kernel) (by decide +kernel)
theorem lX11_375 : Cond.methodLink RX11 375 yX0_lettersOfWords ∈ lw_good := lw_gi 976 (by decide +kernel) (by decide +kernel)
theorem lL_166 : Cond.methodLink RL 166 yX11_status ∈ lw_good := lw_gi 980 (by decide +kernel) (by decide +kernel)
theorem fX12_63 : Fl RX12 63 10 0 := ⟨RX12, TX12, 30, rfl, by decide, uX12, lw_gi 990 (by decide +kernel) (by decide +kernel)⟩
theorem pX12_63 : Fp RX12 63 10 0 .int := ⟨RX12, TX12, 30, tyX12, rfl, by decide, uX12, lw_gi 990 (by decide +kernel) (by decide +kernel), tyX12_ok, nmX12, rfl, by decide +kernel⟩
theorem fX12_7 : Fl RX12 7 10 1 := ⟨RX12, TX12, 30, rfl, by decide, uX12, lw_gi 991 (by decide +kernel) (by decide +kernel)⟩
theorem fX12_13 : Fl RX12 13 10 2 := ⟨RX12, TX12, 30, rfl, by decide, uX12, lw_gi 992 (by decide +kernel) (by decide +kernel)⟩
theorem fX12_16 : Fl RX12 16 10 3 := ⟨RX12, TX12, 30, rfl, by decide, uX12, lw_gi 993 (by decide +kernel) (by decide +kernel)⟩
theorem fX12_19 : Fl RX12 19 10 4 := ⟨RX12, TX12, 30, rfl, by decide, uX12, lw_gi 994 (by decide +kernel) (by decide +kernel)⟩
theorem fX12_22 : Fl RX12 22 10 5 := ⟨RX12, TX12, 30, rfl, by decide, uX12, lw_gi 995 (by decide +kernel) (by decide +kernel)⟩
theorem fX12_25 : Fl RX12 25 10 6 := ⟨RX12, TX12, 30, rfl, by decide, uX12, lw_gi 996 (by decide +kernel) (by decide +kernel)⟩
theorem fX12_28 : Fl RX12 28 10 7 := ⟨RX12, TX12, 30, rfl, by decide, uX12, lw_gi 997 (by decide +kernel) (by decide +kernel)⟩
theorem fX12_175 : Fl RX12 175 10 8 := ⟨RX12, TX12, 30, rfl, by decide, uX12, lw_gi 998 (by decide +kernel) (by decide +kernel)⟩
theorem pX12_175 : Fp RX12 175 10 8 .int := ⟨RX12, TX12, 30, tyX12, rfl, by decide, uX12, lw_gi 998 (by decide +kernel) (by decide +kernel), tyX12_ok, nmX12, rfl, by decide +kernel⟩
theorem fX12_31 : Fl RX12 31 10 9 := ⟨RX12, TX12, 30, rfl, by decide, uX12, lw_gi 999 (by decide +kernel) (by decide +kernel)⟩
theorem fX12_34 : Fl RX12 34 10 10 := ⟨RX12, TX12, 30, rfl, by decide, uX12, lw_gi 1000 (by decide +kernel) (by decide +kernel)⟩
theorem fX12_37 : Fl RX12 37 10 11 := ⟨RX12, TX12, 30, rfl, by decide, uX12, lw_gi 1001 (by decide +kernel) (by decide +kernel)⟩
theorem fX12_109 : Fl RX12 109 10 12 := ⟨RX12, TX12, 30, rfl, by decide, uX12, lw_gi 1002 (by decide +kernel) (by decide +kernel)⟩
theorem pX12_109 : Fp RX12 109 10 12 .int := ⟨RX12, TX12, 30, tyX12, rfl, by decide, uX12, lw_gi 1002 (by decide +kernel) (by decide +kernel), tyX12_ok, nmX12, rfl, by decide +kernel⟩
theorem fX12_121 : Fl RX12 121 10 13 := ⟨RX12, TX12, 30, rfl, by decide, uX12, lw_gi 1003 (by decide +kernel) (by decide +kernel)⟩
theorem pX12_121 : Fp RX12 121 10 13 .int := ⟨RX12, TX12, 30, tyX12, rfl, by decide, uX12, lw_gi 1003 (by decide +kernel) (by decide +kernel), tyX12_ok, nmX12, rfl, by decide +kernel⟩
theorem fX12_115 : Fl RX12 115 10 14 := ⟨RX12, TX12, 30, rfl, by decide, uX12, lw_gi 1004 (by decide +kernel) (by decide +kernel)⟩
theorem pX12_115 : Fp RX12 115 10 14 .int := ⟨RX12, TX12, 30, tyX12, rfl, by decide, uX12, lw_gi 1004 (by decide +kernel) (by decide +kernel), tyX12_ok, nmX12, rfl, by decide +kernel⟩
theorem fX12_136 : Fl RX12 136 10 15 := ⟨RX12, TX12, 30, rfl, by decide, uX12, lw_gi 1005 (by decide +kernel) (by decide +kernel)⟩
theorem pX12_136 : Fp RX12 136 10 15 .int := ⟨RX12, TX12, 30, tyX12, rfl, by decide, uX12, lw_gi 1005 (by decide +kernel) (by decide +kernel), tyX12_ok, nmX12, rfl, by decide +kernel⟩
theorem fX12_125 : Fl RX12 125 10 16 := ⟨RX12, TX12, 30, rfl, by decide, uX12, lw_gi 1006 (by decide +kernel) (by decide +kernel)⟩
theorem pX12_125 : Fp RX12 125 10 16 .int := ⟨RX12, TX12, 30, tyX12, rfl, by decide, uX12, lw_gi 1006 (by decide +kernel) (by decide +kernel), tyX12_ok, nmX12, rfl, by decide +kernel⟩
theorem fX12_112 : Fl RX12 112 10 17 := ⟨RX12, TX12, 30, rfl, by decide, uX12, lw_gi 1007 (by decide +kernel) (by decide +kernel)⟩
theorem pX12_112 : Fp RX12 112 10 17 .int := ⟨RX12, TX12, 30, tyX12, rfl, by decide, uX12, lw_gi 1007 (by decide +kernel) (by decide +kernel), tyX12_ok, nmX12, rfl, by decide +kernel⟩
theorem fX12_118 : Fl RX12 118 10 18 := ⟨RX12, TX12, 30, rfl, by decide, uX12, lw_gi 1008 (by decide +kernel) (by decide +kernel)⟩
theorem pX12_118 : Fp RX12 118 10 18 .int := ⟨RX12, TX12, 30, tyX12, rfl, by decide, uX12, lw_gi 1008 (by decide +kernel) (by decide +kernel), tyX12_ok, nmX12, rfl, by decide +kernel⟩
theorem fX12_171 : Fl RX12 171 10 19 := ⟨RX12, TX12, 30, rfl, by decide, uX12, lw_gi 1009 (by decide +kernel) (by decide +kernel)⟩
theorem pX12_171 : Fp RX12 171 10 19 .int := ⟨RX12, TX12, 30, tyX12, rfl, by decide, uX12, lw_gi 1009 (by decide +kernel) (by decide +kernel), tyX12_ok, nmX12, rfl, by decide +kernel⟩
theorem fX12_152 : Fl RX12 152 10 20 := ⟨RX12, TX12, 30, rfl, by decide, uX12, lw_gi 1010 (by decide +kernel) (by decide +kernel)⟩
theorem pX12_152 : Fp RX12 152 10 20 .int := ⟨RX12, TX12, 30, tyX12, rfl, by decide, uX12, lw_gi 1010 (by decide +kernel) (by decide +kernel), tyX12_ok, nmX12, rfl, by decide +kernel⟩
theorem fX12_40 : Fl RX12 40 10 21 := ⟨RX12, TX12, 30, rfl, by decide, uX12, lw_gi 1011 (by decide +kernel) (by decide +kernel)⟩
theorem fX12_44 : Fl RX12 44 10 22 := ⟨RX12, TX12, 30, rfl, by decide, uX12, lw_gi 1012 (by decide +kernel) (by decide +kernel)⟩
theorem fX12_229 : Fl RX12 229 10 23 := ⟨RX12, TX12, 30, rfl, by decide, uX12, lw_gi 1013 (by decide +kernel) (by decide +kernel)⟩
theorem pX12_229 : Fp RX12 229 10 23 .boolean := ⟨RX12, TX12, 30, tyX12, rfl, by decide, uX12, lw_gi 1013 (by decide +kernel) (by decide +kernel), tyX12_ok, nmX12, rfl, by decide +kernel⟩
theorem fX12_47 : Fl RX12 47 10 24 := ⟨RX12, TX12, 30, rfl, by decide, uX12, lw_gi 1014 (by decide +kernel) (by decide +kernel)⟩
theorem fX12_50 : Fl RX12 50 10 25 := ⟨RX12, TX12, 30, rfl, by decide, uX12, lw_gi 1015 (by decide +kernel) (by decide +kernel)⟩
theorem fX12_54 : Fl RX12 54 10 26 := ⟨RX12, TX12, 30, rfl, by decide, uX12, lw_gi 1016 (by decide +kernel) (by decide +kernel)⟩
theorem fX12_57 : Fl RX12 57 10 27 := ⟨RX12, TX12, 30, rfl, by decide, uX12, lw_gi 1017 (by decide +kernel) (by decide +kernel)⟩
theorem fX12_60 : Fl RX12 60 10 28 := ⟨RX12, TX12, 30, rfl, by decide, uX12, lw_gi 1018 (by decide +kernel) (by decide +kernel)⟩
theorem fX12_303 : Fl RX12 303 10 29 := ⟨RX12, TX12, 30, rfl, by decide, uX12, lw_gi 1019 (by decide +kernel) (by decide +kernel)⟩
theorem pX12_303 : Fp RX12 303 10 29 .int := ⟨RX12, TX12, 30, tyX12, rfl, by decide, uX12, lw_gi 1019 (by decide +kernel) (by decide +kernel), tyX12_ok, nmX12, rfl, by decide +kernel⟩
theorem lL_17 : Cond.methodLink RL 17 yX12_row ∈ lw_good := lw_gi 1082 (by decide +kernel) (by decide +kernel)
theorem lX12_74 : Cond.methodLink RX12 74 yX12_isRow ∈ lw_good := lw_gi 1086 (by decide +kernel) (by decide +kernel)
theorem qX12_68 : Cond.constantLong RX12 68 (Int64.ofInt (7)) ∈ lw_good := lw_gi 1089 (by decide +kernel) (by decide +kernel)
theorem lX12_70 : Cond.methodLink RX12 70 yX12_in ∈ lw_good := lw_gi 1090 (by decide +kernel) (by decide +kernel)
theorem qX12_78 : Cond.constantLong RX12 78 (Int64.ofInt (2)) ∈ lw_good := lw_gi 1093 (by decide +kernel) (by decide +kernel)
theorem qX12_80 : Cond.constant RX12 80 (Int32.ofInt (-1000001)) ∈ lw_good := lw_gi 1094 (by decide +kernel) (by decide +kernel)
theorem lX12_81 : Cond.methodLink RX12 81 yX12_finding ∈ lw_good := lw_gi 1095 (by decide +kernel) (by decide +kernel)
theorem qX12_67 : Cond.constant RX12 67 (Int32.ofInt (-1000010)) ∈ lw_good := lw_gi 1099 (by decide +kernel) (by decide +kernel)
theorem lL_21 : Cond.methodLink RL 21 yX12_set ∈ lw_good := lw_gi 1100 (by decide +kernel) (by decide +kernel)
theorem lL_26 : Cond.methodLink RL 26 yX12_copy ∈ lw_good := lw_gi 1104 (by decide +kernel) (by decide +kernel)
theorem lL_31 : Cond.methodLink RL 31 yX12_drop ∈ lw_good := lw_gi 1108 (by decide +kernel) (by decide +kernel)
theorem lL_35 : Cond.methodLink RL 35 yX12_feed ∈ lw_good := lw_gi 1112 (by decide +kernel) (by decide +kernel)
theorem qX12_107 : Cond.constantLong RX12 107 (Int64.ofInt (255)) ∈ lw_good := lw_gi 1116 (by decide +kernel) (by decide +kernel)
theorem qX12_96 : Cond.constant RX12 96 (Int32.ofInt (-1000003)) ∈ lw_good := lw_gi 1117 (by decide +kernel) (by decide +kernel)
theorem lL_40 : Cond.methodLink RL 40 yX12_book ∈ lw_good := lw_gi 1118 (by decide +kernel) (by decide +kernel)
theorem lX12_143 : Cond.methodLink RX12 143 yX12_nextToken ∈ lw_good := lw_gi 1122 (by decide +kernel) (by decide +kernel)
theorem qX12_124 : Cond.constant RX12 124 (Int32.ofInt (-1000000)) ∈ lw_good := lw_gi 1126 (by decide +kernel) (by decide +kernel)
theorem qX12_128 : Cond.constantLong RX12 128 (Int64.ofInt (97)) ∈ lw_good := lw_gi 1127 (by decide +kernel) (by decide +kernel)
theorem qX12_130 : Cond.constantLong RX12 130 (Int64.ofInt (122)) ∈ lw_good := lw_gi 1128 (by decide +kernel) (by decide +kernel)
theorem qX12_132 : Cond.constantLong RX12 132 (Int64.ofInt (48)) ∈ lw_good := lw_gi 1129 (by decide +kernel) (by decide +kernel)
theorem qX12_134 : Cond.constantLong RX12 134 (Int64.ofInt (57)) ∈ lw_good := lw_gi 1130 (by decide +kernel) (by decide +kernel)
theorem lX12_146 : Cond.methodLink RX12 146 yX12_must ∈ lw_good := lw_gi 1131 (by decide +kernel) (by decide +kernel)
theorem lX12_139 : Cond.methodLink RX12 139 yX12_bad ∈ lw_good := lw_gi 1135 (by decide +kernel) (by decide +kernel)
theorem lX12_158 : Cond.methodLink RX12 158 yX12_figure ∈ lw_good := lw_gi 1139 (by decide +kernel) (by decide +kernel)
theorem lX12_162 : Cond.methodLink RX12 162 yX12_mustSign ∈ lw_good := lw_gi 1143 (by decide +kernel) (by decide +kernel)
theorem lX12_168 : Cond.methodLink RX12 168 yX12_readSort ∈ lw_good := lw_gi 1147 (by decide +kernel) (by decide +kernel)
theorem lX12_155 : Cond.methodLink RX12 155 yX12_sortOf ∈ lw_good := lw_gi 1151 (by decide +kernel) (by decide +kernel)
theorem lX12_165 : Cond.methodLink RX12 165 yX12_readWord ∈ lw_good := lw_gi 1154 (by decide +kernel) (by decide +kernel)
theorem qX12_150 : Cond.constantLong RX12 150 (Int64.ofInt (100)) ∈ lw_good := lw_gi 1158 (by decide +kernel) (by decide +kernel)
theorem qX12_174 : Cond.constant RX12 174 (Int32.ofInt (-1000100)) ∈ lw_good := lw_gi 1159 (by decide +kernel) (by decide +kernel)
theorem lL_44 : Cond.methodLink RL 44 yX12_fault ∈ lw_good := lw_gi 1160 (by decide +kernel) (by decide +kernel)
theorem lL_48 : Cond.methodLink RL 48 yX12_undo ∈ lw_good := lw_gi 1164 (by decide +kernel) (by decide +kernel)
theorem qX12_178 : Cond.constant RX12 178 (Int32.ofInt (-1000002)) ∈ lw_good := lw_gi 1168 (by decide +kernel) (by decide +kernel)
theorem lL_52 : Cond.methodLink RL 52 yX12_word ∈ lw_good := lw_gi 1169 (by decide +kernel) (by decide +kernel)
theorem lX12_182 : Cond.methodLink RX12 182 yX12_isSort ∈ lw_good := lw_gi 1173 (by decide +kernel) (by decide +kernel)
theorem qX12_185 : Cond.constantLong RX12 185 (Int64.ofInt (4)) ∈ lw_good := lw_gi 1177 (by decide +kernel) (by decide +kernel)
theorem lX12_187 : Cond.methodLink RX12 187 yX12_lacksLetters ∈ lw_good := lw_gi 1178 (by decide +kernel) (by decide +kernel)
theorem lX12_179 : Cond.methodLink RX12 179 yX12_lacks ∈ lw_good := lw_gi 1182 (by decide +kernel) (by decide +kernel)
theorem lX12_190 : Cond.methodLink RX12 190 yX12_keeps ∈ lw_good := lw_gi 1186 (by decide +kernel) (by decide +kernel)
theorem lX12_93 : Cond.methodLink RX12 93 yX12_wordSize ∈ lw_good := lw_gi 1190 (by decide +kernel) (by decide +kernel)
theorem lL_56 : Cond.methodLink RL 56 yX12_length ∈ lw_good := lw_gi 1193 (by decide +kernel) (by decide +kernel)
theorem qX12_193 : Cond.constantLong RX12 193 (Int64.ofInt (9)) ∈ lw_good := lw_gi 1197 (by decide +kernel) (by decide +kernel)
theorem lL_61 : Cond.methodLink RL 61 yX12_become ∈ lw_good := lw_gi 1198 (by decide +kernel) (by decide +kernel)
theorem qX12_195 : Cond.constantLong RX12 195 (Int64.ofInt (5)) ∈ lw_good := lw_gi 1202 (by decide +kernel) (by decide +kernel)
theorem lX12_89 : Cond.methodLink RX12 89 yX12_kindOf ∈ lw_good := lw_gi 1203 (by decide +kernel) (by decide +kernel)
theorem lL_65 : Cond.methodLink RL 65 yX12_root ∈ lw_good := lw_gi 1206 (by decide +kernel) (by decide +kernel)
theorem lX12_197 : Cond.methodLink RX12 197 yX12_isThere ∈ lw_good := lw_gi 1210 (by decide +kernel) (by decide +kernel)
theorem qX12_201 : Cond.constantLong RX12 201 (Int64.ofInt (3)) ∈ lw_good := lw_gi 1214 (by decide +kernel) (by decide +kernel)
theorem lL_69 : Cond.methodLink RL 69 yX12_begin ∈ lw_good := lw_gi 1215 (by decide +kernel) (by decide +kernel)
theorem qX12_203 : Cond.constantLong RX12 203 (Int64.ofInt (8)) ∈ lw_good := lw_gi 1219 (by decide +kernel) (by decide +kernel)
theorem lL_73 : Cond.methodLink RL 73 yX12_inflate ∈ lw_good := lw_gi 1220 (by decide +kernel) (by decide +kernel)
theorem lX12_205 : Cond.methodLink RX12 205 yX12_layGrown ∈ lw_good := lw_gi 1224 (by decide +kernel) (by decide +kernel)
theorem lX12_97 : Cond.methodLink RX12 97 yX12_inflated ∈ lw_good := lw_gi 1228 (by decide +kernel) (by decide +kernel)
theorem lX12_100 : Cond.methodLink RX12 100 yX12_imageSize ∈ lw_good := lw_gi 1232 (by decide +kernel) (by decide +kernel)
theorem lX12_103 : Cond.methodLink RX12 103 yX12_imageAt ∈ lw_good := lw_gi 1235 (by decide +kernel) (by decide +kernel)
theorem lL_77 : Cond.methodLink RL 77 yX12_sort ∈ lw_good := lw_gi 1238 (by decide +kernel) (by decide +kernel)
theorem qX12_208 : Cond.constantLong RX12 208 (Int64.ofInt (10)) ∈ lw_good := lw_gi 1242 (by decide +kernel) (by decide +kernel)
theorem qX12_210 : Cond.constantLong RX12 210 (Int64.ofInt (13)) ∈ lw_good := lw_gi 1243 (by decide +kernel) (by decide +kernel)
theorem qX12_212 : Cond.constantLong RX12 212 (Int64.ofInt (20)) ∈ lw_good := lw_gi 1244 (by decide +kernel) (by decide +kernel)
theorem qX12_214 : Cond.constantLong RX12 214 (Int64.ofInt (23)) ∈ lw_good := lw_gi 1245 (by decide +kernel) (by decide +kernel)
theorem lL_81 : Cond.methodLink RL 81 yX12_letter ∈ lw_good := lw_gi 1246 (by decide +kernel) (by decide +kernel)
theorem lL_85 : Cond.methodLink RL 85 yX12_grown ∈ lw_good := lw_gi 1250 (by decide +kernel) (by decide +kernel)
theorem qX12_216 : Cond.constantLong RX12 216 (Int64.ofInt (6)) ∈ lw_good := lw_gi 1254 (by decide +kernel) (by decide +kernel)
theorem lL_89 : Cond.methodLink RL 89 yX12_origin ∈ lw_good := lw_gi 1255 (by decide +kernel) (by decide +kernel)
theorem lL_94 : Cond.methodLink RL 94 yX12_place ∈ lw_good := lw_gi 1259 (by decide +kernel) (by decide +kernel)
theorem qX12_218 : Cond.constantLong RX12 218 (Int64.ofInt (-1000002)) ∈ lw_good := lw_gi 1263 (by decide +kernel) (by decide +kernel)
theorem qX12_220 : Cond.constantLong RX12 220 (Int64.ofInt (-1000001)) ∈ lw_good := lw_gi 1264 (by decide +kernel) (by decide +kernel)
theorem qX12_222 : Cond.constantLong RX12 222 (Int64.ofInt (-1000003)) ∈ lw_good := lw_gi 1265 (by decide +kernel) (by decide +kernel)
theorem qX12_224 : Cond.constantLong RX12 224 (Int64.ofInt (-1000000)) ∈ lw_good := lw_gi 1266 (by decide +kernel) (by decide +kernel)
theorem lX12_226 : Cond.methodLink RX12 226 yX12_lengthOf ∈ lw_good := lw_gi 1267 (by decide +kernel) (by decide +kernel)
theorem lL_99 : Cond.methodLink RL 99 yX12_numbers ∈ lw_good := lw_gi 1270 (by decide +kernel) (by decide +kernel)
theorem qX12_239 : Cond.constantLong RX12 239 (Int64.ofInt (60)) ∈ lw_good := lw_gi 1274 (by decide +kernel) (by decide +kernel)
theorem lX12_241 : Cond.methodLink RX12 241 yX12_layNumbers ∈ lw_good := lw_gi 1275 (by decide +kernel) (by decide +kernel)
theorem lX12_235 : Cond.methodLink RX12 235 yX12_plus ∈ lw_good := lw_gi 1279 (by decide +kernel) (by decide +kernel)
theorem qX12_233 : Cond.constantLong RX12 233 (Int64.ofInt (9223372036854775807)) ∈ lw_good := lw_gi 1283 (by decide +kernel) (by decide +kernel)
theorem lL_103 : Cond.methodLink RL 103 yX12_share ∈ lw_good := lw_gi 1284 (by decide +kernel) (by decide +kernel)
theorem lX12_244 : Cond.methodLink RX12 244 yX12_lowest ∈ lw_good := lw_gi 1288 (by decide +kernel) (by decide +kernel)
theorem lL_107 : Cond.methodLink RL 107 yX12_all ∈ lw_good := lw_gi 1291 (by decide +kernel) (by decide +kernel)
theorem lL_111 : Cond.methodLink RL 111 yX12_whole ∈ lw_good := lw_gi 1295 (by decide +kernel) (by decide +kernel)
theorem lX12_251 : Cond.methodLink RX12 251 yX12_scale ∈ lw_good := lw_gi 1299 (by decide +kernel) (by decide +kernel)
theorem lX12_248 : Cond.methodLink RX12 248 yX12_isScale ∈ lw_good := lw_gi 1303 (by decide +kernel) (by decide +kernel)
theorem lX12_255 : Cond.methodLink RX12 255 yX12_pairsOf ∈ lw_good := lw_gi 1307 (by decide +kernel) (by decide +kernel)
theorem lX12_85 : Cond.methodLink RX12 85 yX12_has ∈ lw_good := lw_gi 1310 (by decide +kernel) (by decide +kernel)
theorem lX12_259 : Cond.methodLink RX12 259 yX12_sizeOf ∈ lw_good := lw_gi 1313 (by decide +kernel) (by decide +kernel)
theorem lL_115 : Cond.methodLink RL 115 yX12_back ∈ lw_good := lw_gi 1316 (by decide +kernel) (by decide +kernel)
theorem qX12_267 : Cond.constantLong RX12 267 (Int64.ofInt (40)) ∈ lw_good := lw_gi 1320 (by decide +kernel) (by decide +kernel)
theorem lX12_269 : Cond.methodLink RX12 269 yX12_layWays ∈ lw_good := lw_gi 1321 (by decide +kernel) (by decide +kernel)
theorem lX12_262 : Cond.methodLink RX12 262 yX12_isImageAt ∈ lw_good := lw_gi 1325 (by decide +kernel) (by decide +kernel)
theorem qX12_266 : Cond.constant RX12 266 (Int32.ofInt (1000000)) ∈ lw_good := lw_gi 1329 (by decide +kernel) (by decide +kernel)
theorem lX12_273 : Cond.methodLink RX12 273 yX12_firstAt ∈ lw_good := lw_gi 1330 (by decide +kernel) (by decide +kernel)
theorem lL_120 : Cond.methodLink RL 120 yX12_who ∈ lw_good := lw_gi 1334 (by decide +kernel) (by decide +kernel)
theorem lX12_277 : Cond.methodLink RX12 277 yX12_layThen ∈ lw_good := lw_gi 1338 (by decide +kernel) (by decide +kernel)
theorem lX12_280 : Cond.methodLink RX12 280 yX12_isSo ∈ lw_good := lw_gi 1342 (by decide +kernel) (by decide +kernel)
theorem lL_124 : Cond.methodLink RL 124 yX12_quiet ∈ lw_good := lw_gi 1346 (by decide +kernel) (by decide +kernel)
theorem lL_128 : Cond.methodLink RL 128 yX12_sets ∈ lw_good := lw_gi 1350 (by decide +kernel) (by decide +kernel)
theorem qX12_284 : Cond.constantLong RX12 284 (Int64.ofInt (99)) ∈ lw_good := lw_gi 1354 (by decide +kernel) (by decide +kernel)
theorem lL_133 : Cond.methodLink RL 133 yX12_lost ∈ lw_good := lw_gi 1355 (by decide +kernel) (by decide +kernel)
theorem lX12_286 : Cond.methodLink RX12 286 yX12_oftenIn ∈ lw_good := lw_gi 1359 (by decide +kernel) (by decide +kernel)
theorem lL_137 : Cond.methodLink RL 137 yX12_drawn ∈ lw_good := lw_gi 1363 (by decide +kernel) (by decide +kernel)
theorem qX12_289 : Cond.constantLong RX12 289 (Int64.ofInt (30)) ∈ lw_good := lw_gi 1367 (by decide +kernel) (by decide +kernel)
theorem qX12_291 : Cond.constantLong RX12 291 (Int64.ofInt (999999)) ∈ lw_good := lw_gi 1368 (by decide +kernel) (by decide +kernel)
theorem qX12_293 : Cond.constant RX12 293 (Int32.ofInt (65535)) ∈ lw_good := lw_gi 1369 (by decide +kernel) (by decide +kernel)
theorem qX12_294 : Cond.constantLong RX12 294 (Int64.ofInt (16807)) ∈ lw_good := lw_gi 1370 (by decide +kernel) (by decide +kernel)
theorem qX12_296 : Cond.constantLong RX12 296 (Int64.ofInt (2147483647)) ∈ lw_good := lw_gi 1371 (by decide +kernel) (by decide +kernel)
theorem qX12_298 : Cond.constantLong RX12 298 (Int64.ofInt (16)) ∈ lw_good := lw_gi 1372 (by decide +kernel) (by decide +kernel)
theorem lL_141 : Cond.methodLink RL 141 yX12_image ∈ lw_good := lw_gi 1373 (by decide +kernel) (by decide +kernel)
theorem lL_145 : Cond.methodLink RL 145 yX12_restore ∈ lw_good := lw_gi 1377 (by decide +kernel) (by decide +kernel)
theorem lL_149 : Cond.methodLink RL 149 yX12_kind ∈ lw_good := lw_gi 1381 (by decide +kernel) (by decide +kernel)
theorem lL_153 : Cond.methodLink RL 153 yX12_as ∈ lw_good := lw_gi 1385 (by decide +kernel) (by decide +kernel)
theorem lX12_300 : Cond.methodLink RX12 300 yX12_isOf ∈ lw_good := lw_gi 1389 (by decide +kernel) (by decide +kernel)
theorem lL_157 : Cond.methodLink RL 157 yX12_ask ∈ lw_good := lw_gi 1392 (by decide +kernel) (by decide +kernel)
theorem lX12_318 : Cond.methodLink RX12 318 yX12_askedSize ∈ lw_good := lw_gi 1396 (by decide +kernel) (by decide +kernel)
theorem lX12_312 : Cond.methodLink RX12 312 yX12_fixedSize ∈ lw_good := lw_gi 1400 (by decide +kernel) (by decide +kernel)
theorem lX12_306 : Cond.methodLink RX12 306 yX12_began ∈ lw_good := lw_gi 1404 (by decide +kernel) (by decide +kernel)
theorem lX12_309 : Cond.methodLink RX12 309 yX12_lentSize ∈ lw_good := lw_gi 1408 (by decide +kernel) (by decide +kernel)
theorem lX12_315 : Cond.methodLink RX12 315 yX12_markOf ∈ lw_good := lw_gi 1412 (by decide +kernel) (by decide +kernel)
theorem lL_161 : Cond.methodLink RL 161 yX12_trace ∈ lw_good := lw_gi 1416 (by decide +kernel) (by decide +kernel)
theorem lL_165 : Cond.methodLink RL 165 yX12_count ∈ lw_good := lw_gi 1420 (by decide +kernel) (by decide +kernel)
theorem lX12_321 : Cond.methodLink RX12 321 yX12_lettersOfAll ∈ lw_good := lw_gi 1424 (by decide +kernel) (by decide +kernel)
theorem lL_169 : Cond.methodLink RL 169 yX12_status ∈ lw_good := lw_gi 1428 (by decide +kernel) (by decide +kernel)
