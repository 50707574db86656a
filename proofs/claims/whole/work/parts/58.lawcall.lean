/-! WORDS of the law's calls -/
theorem m_1006 : Cond.methodLink RL 303 yL_bakeCakes ∈ zWS := zws_in 1006 (by decide +kernel) (by decide +kernel)
theorem m_1015 : Cond.methodLink RL 306 yL_restore ∈ zWS := zws_in 1015 (by decide +kernel) (by decide +kernel)
theorem m_1035 : Cond.methodLink RL 309 yL_undo ∈ zWS := zws_in 1035 (by decide +kernel) (by decide +kernel)
theorem m_1050 : Cond.methodLink RL 313 yL_save ∈ zWS := zws_in 1050 (by decide +kernel) (by decide +kernel)
theorem m_1057 : Cond.methodLink RL 316 yL_writeChild ∈ zWS := zws_in 1057 (by decide +kernel) (by decide +kernel)
theorem m_1069 : Cond.methodLink RL 323 yL_outputByte ∈ zWS := zws_in 1069 (by decide +kernel) (by decide +kernel)
theorem m_1214 : Cond.methodLink RL 133 yX4_thrown ∈ zWS := zws_in 1214 (by decide +kernel) (by decide +kernel)
theorem m_1218 : Cond.methodLink RL 132 yX4_append ∈ zWS := zws_in 1218 (by decide +kernel) (by decide +kernel)
theorem m_1234 : Cond.methodLink RL 139 yX4_load ∈ zWS := zws_in 1234 (by decide +kernel) (by decide +kernel)
theorem m_1331 : Cond.methodLink RL 143 yX4_errorKind ∈ zWS := zws_in 1331 (by decide +kernel) (by decide +kernel)
theorem m_1335 : Cond.methodLink RL 147 yX4_errorOffset ∈ zWS := zws_in 1335 (by decide +kernel) (by decide +kernel)
theorem m_1339 : Cond.methodLink RL 151 yX4_year ∈ zWS := zws_in 1339 (by decide +kernel) (by decide +kernel)
theorem m_1343 : Cond.methodLink RL 155 yX4_month ∈ zWS := zws_in 1343 (by decide +kernel) (by decide +kernel)
theorem m_1347 : Cond.methodLink RL 159 yX4_dayOfMonth ∈ zWS := zws_in 1347 (by decide +kernel) (by decide +kernel)
theorem m_1351 : Cond.methodLink RL 163 yX4_seed ∈ zWS := zws_in 1351 (by decide +kernel) (by decide +kernel)
theorem m_1355 : Cond.methodLink RL 167 yX4_nextDraw ∈ zWS := zws_in 1355 (by decide +kernel) (by decide +kernel)
theorem m_1359 : Cond.methodLink RL 171 yX4_candles ∈ zWS := zws_in 1359 (by decide +kernel) (by decide +kernel)
theorem m_1363 : Cond.methodLink RL 174 yX4_cakes ∈ zWS := zws_in 1363 (by decide +kernel) (by decide +kernel)
theorem m_1367 : Cond.methodLink RL 178 yX4_mostWantedCake ∈ zWS := zws_in 1367 (by decide +kernel) (by decide +kernel)
theorem m_1371 : Cond.methodLink RL 182 yX4_gardenCount ∈ zWS := zws_in 1371 (by decide +kernel) (by decide +kernel)
theorem m_1375 : Cond.methodLink RL 185 yX4_seatsOf ∈ zWS := zws_in 1375 (by decide +kernel) (by decide +kernel)
theorem m_1383 : Cond.methodLink RL 188 yX4_childrenOf ∈ zWS := zws_in 1383 (by decide +kernel) (by decide +kernel)
theorem m_1387 : Cond.methodLink RL 192 yX4_partyIn ∈ zWS := zws_in 1387 (by decide +kernel) (by decide +kernel)
theorem m_1398 : Cond.methodLink RL 196 yX4_childCount ∈ zWS := zws_in 1398 (by decide +kernel) (by decide +kernel)
theorem m_1402 : Cond.methodLink RL 199 yX4_cakeOf ∈ zWS := zws_in 1402 (by decide +kernel) (by decide +kernel)
theorem m_1414 : Cond.methodLink RL 202 yX4_breathOf ∈ zWS := zws_in 1414 (by decide +kernel) (by decide +kernel)
theorem m_1418 : Cond.methodLink RL 205 yX4_ageOf ∈ zWS := zws_in 1418 (by decide +kernel) (by decide +kernel)
theorem m_1422 : Cond.methodLink RL 208 yX4_gardenOf ∈ zWS := zws_in 1422 (by decide +kernel) (by decide +kernel)
theorem m_1426 : Cond.methodLink RL 211 yX4_birthdayOf ∈ zWS := zws_in 1426 (by decide +kernel) (by decide +kernel)
theorem m_1430 : Cond.methodLink RL 214 yX4_daysUntilBirthday ∈ zWS := zws_in 1430 (by decide +kernel) (by decide +kernel)
theorem m_1442 : Cond.methodLink RL 217 yX4_partiesOf ∈ zWS := zws_in 1442 (by decide +kernel) (by decide +kernel)
theorem m_1446 : Cond.methodLink RL 220 yX4_wishesOf ∈ zWS := zws_in 1446 (by decide +kernel) (by decide +kernel)
theorem m_1450 : Cond.methodLink RL 223 yX4_strengthOf ∈ zWS := zws_in 1450 (by decide +kernel) (by decide +kernel)
theorem m_1454 : Cond.methodLink RL 227 yX4_nextChild ∈ zWS := zws_in 1454 (by decide +kernel) (by decide +kernel)
theorem m_1458 : Cond.methodLink RL 231 yX4_childrenOn ∈ zWS := zws_in 1458 (by decide +kernel) (by decide +kernel)
theorem m_1466 : Cond.methodLink RL 235 yX4_differentDates ∈ zWS := zws_in 1466 (by decide +kernel) (by decide +kernel)
theorem m_1474 : Cond.methodLink RL 238 yX4_dateAt ∈ zWS := zws_in 1474 (by decide +kernel) (by decide +kernel)
theorem m_1478 : Cond.methodLink RL 242 yX4_busiestMonth ∈ zWS := zws_in 1478 (by decide +kernel) (by decide +kernel)
theorem m_1486 : Cond.methodLink RL 246 yX4_obstacle ∈ zWS := zws_in 1486 (by decide +kernel) (by decide +kernel)
theorem m_1490 : Cond.methodLink RL 249 yX4_freeGarden ∈ zWS := zws_in 1490 (by decide +kernel) (by decide +kernel)
theorem m_1494 : Cond.methodLink RL 252 yX4_drawsNeeded ∈ zWS := zws_in 1494 (by decide +kernel) (by decide +kernel)
theorem m_1498 : Cond.methodLink RL 255 yX4_candlesAfter ∈ zWS := zws_in 1498 (by decide +kernel) (by decide +kernel)
theorem m_1502 : Cond.methodLink RL 258 yX4_wishesAfter ∈ zWS := zws_in 1502 (by decide +kernel) (by decide +kernel)
theorem m_1506 : Cond.methodLink RL 262 yX4_heldParties ∈ zWS := zws_in 1506 (by decide +kernel) (by decide +kernel)
theorem m_1510 : Cond.methodLink RL 266 yX4_failedParties ∈ zWS := zws_in 1510 (by decide +kernel) (by decide +kernel)
theorem m_1514 : Cond.methodLink RL 270 yX4_clashes ∈ zWS := zws_in 1514 (by decide +kernel) (by decide +kernel)
theorem m_1518 : Cond.methodLink RL 274 yX4_candleDifference ∈ zWS := zws_in 1518 (by decide +kernel) (by decide +kernel)
theorem m_1525 : Cond.methodLink RL 279 yX4_meanAge ∈ zWS := zws_in 1525 (by decide +kernel) (by decide +kernel)
theorem m_1533 : Cond.methodLink RL 284 yX4_wishShare ∈ zWS := zws_in 1533 (by decide +kernel) (by decide +kernel)
theorem m_1537 : Cond.methodLink RL 287 yX4_advance ∈ zWS := zws_in 1537 (by decide +kernel) (by decide +kernel)
theorem m_1545 : Cond.methodLink RL 290 yX4_draw ∈ zWS := zws_in 1545 (by decide +kernel) (by decide +kernel)
theorem m_1549 : Cond.methodLink RL 293 yX4_setBirthday ∈ zWS := zws_in 1549 (by decide +kernel) (by decide +kernel)
theorem m_1553 : Cond.methodLink RL 296 yX4_forgetBirthday ∈ zWS := zws_in 1553 (by decide +kernel) (by decide +kernel)
theorem m_1557 : Cond.methodLink RL 299 yX4_moveTo ∈ zWS := zws_in 1557 (by decide +kernel) (by decide +kernel)
theorem m_1561 : Cond.methodLink RL 302 yX4_buyCandles ∈ zWS := zws_in 1561 (by decide +kernel) (by decide +kernel)
theorem m_1565 : Cond.methodLink RL 305 yX4_bakeCakes ∈ zWS := zws_in 1565 (by decide +kernel) (by decide +kernel)
theorem m_1569 : Cond.methodLink RL 308 yX4_restore ∈ zWS := zws_in 1569 (by decide +kernel) (by decide +kernel)
theorem m_1573 : Cond.methodLink RL 312 yX4_undo ∈ zWS := zws_in 1573 (by decide +kernel) (by decide +kernel)
theorem m_1577 : Cond.methodLink RL 315 yX4_save ∈ zWS := zws_in 1577 (by decide +kernel) (by decide +kernel)
theorem m_1581 : Cond.methodLink RL 318 yX4_writeChild ∈ zWS := zws_in 1581 (by decide +kernel) (by decide +kernel)
theorem m_1593 : Cond.methodLink RL 322 yX4_writeDate ∈ zWS := zws_in 1593 (by decide +kernel) (by decide +kernel)
theorem m_1597 : Cond.methodLink RL 325 yX4_outputByte ∈ zWS := zws_in 1597 (by decide +kernel) (by decide +kernel)
theorem m_528 : Cond.methodLink RL 140 yX3_errorKind ∈ zWS := zws_in 528 (by decide +kernel) (by decide +kernel)
theorem m_532 : Cond.methodLink RL 144 yX3_errorOffset ∈ zWS := zws_in 532 (by decide +kernel) (by decide +kernel)
theorem m_536 : Cond.methodLink RL 148 yX3_year ∈ zWS := zws_in 536 (by decide +kernel) (by decide +kernel)
theorem m_540 : Cond.methodLink RL 152 yX3_month ∈ zWS := zws_in 540 (by decide +kernel) (by decide +kernel)
theorem m_547 : Cond.methodLink RL 156 yX3_dayOfMonth ∈ zWS := zws_in 547 (by decide +kernel) (by decide +kernel)
theorem m_554 : Cond.methodLink RL 160 yX3_seed ∈ zWS := zws_in 554 (by decide +kernel) (by decide +kernel)
theorem m_558 : Cond.methodLink RL 164 yX3_nextDraw ∈ zWS := zws_in 558 (by decide +kernel) (by decide +kernel)
theorem m_563 : Cond.methodLink RL 168 yX3_candles ∈ zWS := zws_in 563 (by decide +kernel) (by decide +kernel)
theorem m_567 : Cond.methodLink RL 175 yX3_mostWantedCake ∈ zWS := zws_in 567 (by decide +kernel) (by decide +kernel)
theorem m_572 : Cond.methodLink RL 179 yX3_gardenCount ∈ zWS := zws_in 572 (by decide +kernel) (by decide +kernel)
theorem m_576 : Cond.methodLink RL 193 yX3_childCount ∈ zWS := zws_in 576 (by decide +kernel) (by decide +kernel)
theorem m_580 : Cond.methodLink RL 224 yX3_nextChild ∈ zWS := zws_in 580 (by decide +kernel) (by decide +kernel)
theorem m_589 : Cond.methodLink RL 232 yX3_differentDates ∈ zWS := zws_in 589 (by decide +kernel) (by decide +kernel)
theorem m_597 : Cond.methodLink RL 239 yX3_busiestMonth ∈ zWS := zws_in 597 (by decide +kernel) (by decide +kernel)
theorem m_605 : Cond.methodLink RL 259 yX3_heldParties ∈ zWS := zws_in 605 (by decide +kernel) (by decide +kernel)
theorem m_612 : Cond.methodLink RL 263 yX3_failedParties ∈ zWS := zws_in 612 (by decide +kernel) (by decide +kernel)
theorem m_616 : Cond.methodLink RL 267 yX3_clashes ∈ zWS := zws_in 616 (by decide +kernel) (by decide +kernel)
theorem m_624 : Cond.methodLink RL 271 yX3_candleDifference ∈ zWS := zws_in 624 (by decide +kernel) (by decide +kernel)
theorem m_628 : Cond.methodLink RL 275 yX3_meanAge ∈ zWS := zws_in 628 (by decide +kernel) (by decide +kernel)
theorem m_632 : Cond.methodLink RL 280 yX3_wishShare ∈ zWS := zws_in 632 (by decide +kernel) (by decide +kernel)
theorem m_636 : Cond.methodLink RL 319 yX3_writeDate ∈ zWS := zws_in 636 (by decide +kernel) (by decide +kernel)
theorem m_649 : Cond.methodLink RL 127 yL_append ∈ zWS := zws_in 649 (by decide +kernel) (by decide +kernel)
theorem m_728 : Cond.methodLink RL 136 yL_load ∈ zWS := zws_in 728 (by decide +kernel) (by decide +kernel)
theorem m_773 : Cond.methodLink RL 172 yL_cakes ∈ zWS := zws_in 773 (by decide +kernel) (by decide +kernel)
theorem m_784 : Cond.methodLink RL 183 yL_seatsOf ∈ zWS := zws_in 784 (by decide +kernel) (by decide +kernel)
theorem m_796 : Cond.methodLink RL 186 yL_childrenOf ∈ zWS := zws_in 796 (by decide +kernel) (by decide +kernel)
theorem m_804 : Cond.methodLink RL 189 yL_partyIn ∈ zWS := zws_in 804 (by decide +kernel) (by decide +kernel)
theorem m_816 : Cond.methodLink RL 197 yL_cakeOf ∈ zWS := zws_in 816 (by decide +kernel) (by decide +kernel)
theorem m_828 : Cond.methodLink RL 200 yL_breathOf ∈ zWS := zws_in 828 (by decide +kernel) (by decide +kernel)
theorem m_835 : Cond.methodLink RL 203 yL_ageOf ∈ zWS := zws_in 835 (by decide +kernel) (by decide +kernel)
theorem m_842 : Cond.methodLink RL 206 yL_gardenOf ∈ zWS := zws_in 842 (by decide +kernel) (by decide +kernel)
theorem m_849 : Cond.methodLink RL 209 yL_birthdayOf ∈ zWS := zws_in 849 (by decide +kernel) (by decide +kernel)
theorem m_856 : Cond.methodLink RL 212 yL_daysUntilBirthday ∈ zWS := zws_in 856 (by decide +kernel) (by decide +kernel)
theorem m_863 : Cond.methodLink RL 215 yL_partiesOf ∈ zWS := zws_in 863 (by decide +kernel) (by decide +kernel)
theorem m_870 : Cond.methodLink RL 218 yL_wishesOf ∈ zWS := zws_in 870 (by decide +kernel) (by decide +kernel)
theorem m_877 : Cond.methodLink RL 221 yL_strengthOf ∈ zWS := zws_in 877 (by decide +kernel) (by decide +kernel)
theorem m_885 : Cond.methodLink RL 228 yL_childrenOn ∈ zWS := zws_in 885 (by decide +kernel) (by decide +kernel)
theorem m_892 : Cond.methodLink RL 236 yL_dateAt ∈ zWS := zws_in 892 (by decide +kernel) (by decide +kernel)
theorem m_899 : Cond.methodLink RL 243 yL_obstacle ∈ zWS := zws_in 899 (by decide +kernel) (by decide +kernel)
theorem m_907 : Cond.methodLink RL 247 yL_freeGarden ∈ zWS := zws_in 907 (by decide +kernel) (by decide +kernel)
theorem m_914 : Cond.methodLink RL 250 yL_drawsNeeded ∈ zWS := zws_in 914 (by decide +kernel) (by decide +kernel)
theorem m_922 : Cond.methodLink RL 253 yL_candlesAfter ∈ zWS := zws_in 922 (by decide +kernel) (by decide +kernel)
theorem m_938 : Cond.methodLink RL 256 yL_wishesAfter ∈ zWS := zws_in 938 (by decide +kernel) (by decide +kernel)
theorem m_945 : Cond.methodLink RL 285 yL_advance ∈ zWS := zws_in 945 (by decide +kernel) (by decide +kernel)
theorem m_964 : Cond.methodLink RL 288 yL_draw ∈ zWS := zws_in 964 (by decide +kernel) (by decide +kernel)
theorem m_973 : Cond.methodLink RL 291 yL_setBirthday ∈ zWS := zws_in 973 (by decide +kernel) (by decide +kernel)
theorem m_982 : Cond.methodLink RL 294 yL_forgetBirthday ∈ zWS := zws_in 982 (by decide +kernel) (by decide +kernel)
theorem m_989 : Cond.methodLink RL 297 yL_moveTo ∈ zWS := zws_in 989 (by decide +kernel) (by decide +kernel)
theorem m_997 : Cond.methodLink RL 300 yL_buyCandles ∈ zWS := zws_in 997 (by decide +kernel) (by decide +kernel)
theorem k_X3_busiestMonth : zcal yX3_busiestMonth cX3_busiestMonth 5 (some .int) 0 := ⟨zws_in 598 (by decide +kernel) (by decide +kernel), zws_in 599 (by decide +kernel) (by decide +kernel), zws_in 83 (by decide +kernel) (by decide +kernel), zws_in 600 (by decide +kernel) (by decide +kernel), ⟨by decide +kernel, by decide +kernel⟩, by decide +kernel, by decide⟩
theorem k_X3_candleDifference : zcal yX3_candleDifference cX3_candleDifference 2 (some .int) 0 := ⟨zws_in 625 (by decide +kernel) (by decide +kernel), zws_in 626 (by decide +kernel) (by decide +kernel), zws_in 83 (by decide +kernel) (by decide +kernel), zws_in 627 (by decide +kernel) (by decide +kernel), ⟨by decide +kernel, by decide +kernel⟩, by decide +kernel, by decide⟩
theorem k_X3_candles : zcal yX3_candles cX3_candles 1 (some .int) 0 := ⟨zws_in 564 (by decide +kernel) (by decide +kernel), zws_in 565 (by decide +kernel) (by decide +kernel), zws_in 83 (by decide +kernel) (by decide +kernel), zws_in 566 (by decide +kernel) (by decide +kernel), ⟨by decide +kernel, by decide +kernel⟩, by decide +kernel, by decide⟩
theorem k_X3_childCount : zcal yX3_childCount cX3_childCount 1 (some .int) 0 := ⟨zws_in 577 (by decide +kernel) (by decide +kernel), zws_in 578 (by decide +kernel) (by decide +kernel), zws_in 83 (by decide +kernel) (by decide +kernel), zws_in 579 (by decide +kernel) (by decide +kernel), ⟨by decide +kernel, by decide +kernel⟩, by decide +kernel, by decide⟩
theorem k_X3_clashes : zcal yX3_clashes cX3_clashes 4 (some .int) 0 := ⟨zws_in 617 (by decide +kernel) (by decide +kernel), zws_in 618 (by decide +kernel) (by decide +kernel), zws_in 83 (by decide +kernel) (by decide +kernel), zws_in 619 (by decide +kernel) (by decide +kernel), ⟨by decide +kernel, by decide +kernel⟩, by decide +kernel, by decide⟩
theorem k_X3_dayOfMonth : zcal yX3_dayOfMonth cX3_dayOfMonth 1 (some .int) 0 := ⟨zws_in 548 (by decide +kernel) (by decide +kernel), zws_in 549 (by decide +kernel) (by decide +kernel), zws_in 83 (by decide +kernel) (by decide +kernel), zws_in 550 (by decide +kernel) (by decide +kernel), ⟨by decide +kernel, by decide +kernel⟩, by decide +kernel, by decide⟩
theorem k_X3_differentDates : zcal yX3_differentDates cX3_differentDates 3 (some .int) 0 := ⟨zws_in 590 (by decide +kernel) (by decide +kernel), zws_in 591 (by decide +kernel) (by decide +kernel), zws_in 83 (by decide +kernel) (by decide +kernel), zws_in 592 (by decide +kernel) (by decide +kernel), ⟨by decide +kernel, by decide +kernel⟩, by decide +kernel, by decide⟩
theorem k_X3_errorKind : zcal yX3_errorKind cX3_errorKind 1 (some .int) 0 := ⟨zws_in 529 (by decide +kernel) (by decide +kernel), zws_in 530 (by decide +kernel) (by decide +kernel), zws_in 83 (by decide +kernel) (by decide +kernel), zws_in 531 (by decide +kernel) (by decide +kernel), ⟨by decide +kernel, by decide +kernel⟩, by decide +kernel, by decide⟩
theorem k_X3_errorOffset : zcal yX3_errorOffset cX3_errorOffset 1 (some .int) 0 := ⟨zws_in 533 (by decide +kernel) (by decide +kernel), zws_in 534 (by decide +kernel) (by decide +kernel), zws_in 83 (by decide +kernel) (by decide +kernel), zws_in 535 (by decide +kernel) (by decide +kernel), ⟨by decide +kernel, by decide +kernel⟩, by decide +kernel, by decide⟩
theorem k_X3_failedParties : zcal yX3_failedParties cX3_failedParties 1 (some .int) 0 := ⟨zws_in 613 (by decide +kernel) (by decide +kernel), zws_in 614 (by decide +kernel) (by decide +kernel), zws_in 83 (by decide +kernel) (by decide +kernel), zws_in 615 (by decide +kernel) (by decide +kernel), ⟨by decide +kernel, by decide +kernel⟩, by decide +kernel, by decide⟩
theorem k_X3_gardenCount : zcal yX3_gardenCount cX3_gardenCount 1 (some .int) 0 := ⟨zws_in 573 (by decide +kernel) (by decide +kernel), zws_in 574 (by decide +kernel) (by decide +kernel), zws_in 83 (by decide +kernel) (by decide +kernel), zws_in 575 (by decide +kernel) (by decide +kernel), ⟨by decide +kernel, by decide +kernel⟩, by decide +kernel, by decide⟩
theorem k_X3_heldParties : zcal yX3_heldParties cX3_heldParties 1 (some .int) 0 := ⟨zws_in 606 (by decide +kernel) (by decide +kernel), zws_in 607 (by decide +kernel) (by decide +kernel), zws_in 83 (by decide +kernel) (by decide +kernel), zws_in 608 (by decide +kernel) (by decide +kernel), ⟨by decide +kernel, by decide +kernel⟩, by decide +kernel, by decide⟩
theorem k_X3_meanAge : zcal yX3_meanAge cX3_meanAge 1 (some .double) 0 := ⟨zws_in 629 (by decide +kernel) (by decide +kernel), zws_in 630 (by decide +kernel) (by decide +kernel), zws_in 83 (by decide +kernel) (by decide +kernel), zws_in 631 (by decide +kernel) (by decide +kernel), ⟨by decide +kernel, by decide +kernel⟩, by decide +kernel, by decide⟩
theorem k_X3_month : zcal yX3_month cX3_month 1 (some .int) 0 := ⟨zws_in 541 (by decide +kernel) (by decide +kernel), zws_in 542 (by decide +kernel) (by decide +kernel), zws_in 83 (by decide +kernel) (by decide +kernel), zws_in 543 (by decide +kernel) (by decide +kernel), ⟨by decide +kernel, by decide +kernel⟩, by decide +kernel, by decide⟩
theorem k_X3_mostWantedCake : zcal yX3_mostWantedCake cX3_mostWantedCake 3 (some .int) 0 := ⟨zws_in 568 (by decide +kernel) (by decide +kernel), zws_in 569 (by decide +kernel) (by decide +kernel), zws_in 83 (by decide +kernel) (by decide +kernel), zws_in 570 (by decide +kernel) (by decide +kernel), ⟨by decide +kernel, by decide +kernel⟩, by decide +kernel, by decide⟩
theorem k_X3_nextChild : zcal yX3_nextChild cX3_nextChild 5 (some .int) 0 := ⟨zws_in 581 (by decide +kernel) (by decide +kernel), zws_in 582 (by decide +kernel) (by decide +kernel), zws_in 83 (by decide +kernel) (by decide +kernel), zws_in 583 (by decide +kernel) (by decide +kernel), ⟨by decide +kernel, by decide +kernel⟩, by decide +kernel, by decide⟩
theorem k_X3_nextDraw : zcal yX3_nextDraw cX3_nextDraw 1 (some .int) 0 := ⟨zws_in 559 (by decide +kernel) (by decide +kernel), zws_in 560 (by decide +kernel) (by decide +kernel), zws_in 83 (by decide +kernel) (by decide +kernel), zws_in 561 (by decide +kernel) (by decide +kernel), ⟨by decide +kernel, by decide +kernel⟩, by decide +kernel, by decide⟩
theorem k_X3_seed : zcal yX3_seed cX3_seed 1 (some .int) 0 := ⟨zws_in 555 (by decide +kernel) (by decide +kernel), zws_in 556 (by decide +kernel) (by decide +kernel), zws_in 83 (by decide +kernel) (by decide +kernel), zws_in 557 (by decide +kernel) (by decide +kernel), ⟨by decide +kernel, by decide +kernel⟩, by decide +kernel, by decide⟩
theorem k_X3_wishShare : zcal yX3_wishShare cX3_wishShare 2 (some .float) 0 := ⟨zws_in 633 (by decide +kernel) (by decide +kernel), zws_in 634 (by decide +kernel) (by decide +kernel), zws_in 83 (by decide +kernel) (by decide +kernel), zws_in 635 (by decide +kernel) (by decide +kernel), ⟨by decide +kernel, by decide +kernel⟩, by decide +kernel, by decide⟩
theorem k_X3_writeDate : zcal yX3_writeDate cX3_writeDate 1 (some .int) 0 := ⟨zws_in 637 (by decide +kernel) (by decide +kernel), zws_in 638 (by decide +kernel) (by decide +kernel), zws_in 83 (by decide +kernel) (by decide +kernel), zws_in 639 (by decide +kernel) (by decide +kernel), ⟨by decide +kernel, by decide +kernel⟩, by decide +kernel, by decide⟩
theorem k_X3_year : zcal yX3_year cX3_year 1 (some .int) 0 := ⟨zws_in 537 (by decide +kernel) (by decide +kernel), zws_in 538 (by decide +kernel) (by decide +kernel), zws_in 83 (by decide +kernel) (by decide +kernel), zws_in 539 (by decide +kernel) (by decide +kernel), ⟨by decide +kernel, by decide +kernel⟩, by decide +kernel, by decide⟩
theorem k_X4_advance : zcal yX4_advance cX4_advance 2 (some .int) 1 := ⟨zws_in 1538 (by decide +kernel) (by decide +kernel), zws_in 1539 (by decide +kernel) (by decide +kernel), zws_in 94 (by decide +kernel) (by decide +kernel), zws_in 1540 (by decide +kernel) (by decide +kernel), ⟨by decide +kernel, by decide +kernel⟩, by decide +kernel, by decide⟩
theorem k_X4_ageOf : zcal yX4_ageOf cX4_ageOf 2 (some .int) 1 := ⟨zws_in 1419 (by decide +kernel) (by decide +kernel), zws_in 1420 (by decide +kernel) (by decide +kernel), zws_in 94 (by decide +kernel) (by decide +kernel), zws_in 1421 (by decide +kernel) (by decide +kernel), ⟨by decide +kernel, by decide +kernel⟩, by decide +kernel, by decide⟩
theorem k_X4_append : zcal yX4_append cX4_append 6 (some .int) 5 := ⟨zws_in 1219 (by decide +kernel) (by decide +kernel), zws_in 1220 (by decide +kernel) (by decide +kernel), zws_in 94 (by decide +kernel) (by decide +kernel), zws_in 1221 (by decide +kernel) (by decide +kernel), ⟨by decide +kernel, by decide +kernel⟩, by decide +kernel, by decide⟩
theorem k_X4_bakeCakes : zcal yX4_bakeCakes cX4_bakeCakes 3 (some .int) 2 := ⟨zws_in 1566 (by decide +kernel) (by decide +kernel), zws_in 1567 (by decide +kernel) (by decide +kernel), zws_in 94 (by decide +kernel) (by decide +kernel), zws_in 1568 (by decide +kernel) (by decide +kernel), ⟨by decide +kernel, by decide +kernel⟩, by decide +kernel, by decide⟩
theorem k_X4_birthdayOf : zcal yX4_birthdayOf cX4_birthdayOf 2 (some .int) 1 := ⟨zws_in 1427 (by decide +kernel) (by decide +kernel), zws_in 1428 (by decide +kernel) (by decide +kernel), zws_in 94 (by decide +kernel) (by decide +kernel), zws_in 1429 (by decide +kernel) (by decide +kernel), ⟨by decide +kernel, by decide +kernel⟩, by decide +kernel, by decide⟩
theorem k_X4_breathOf : zcal yX4_breathOf cX4_breathOf 2 (some .int) 1 := ⟨zws_in 1415 (by decide +kernel) (by decide +kernel), zws_in 1416 (by decide +kernel) (by decide +kernel), zws_in 94 (by decide +kernel) (by decide +kernel), zws_in 1417 (by decide +kernel) (by decide +kernel), ⟨by decide +kernel, by decide +kernel⟩, by decide +kernel, by decide⟩
theorem k_X4_busiestMonth : zcal yX4_busiestMonth cX4_busiestMonth 4 (some .int) 0 := ⟨zws_in 1479 (by decide +kernel) (by decide +kernel), zws_in 1480 (by decide +kernel) (by decide +kernel), zws_in 94 (by decide +kernel) (by decide +kernel), zws_in 1481 (by decide +kernel) (by decide +kernel), ⟨by decide +kernel, by decide +kernel⟩, by decide +kernel, by decide⟩
theorem k_X4_buyCandles : zcal yX4_buyCandles cX4_buyCandles 2 (some .int) 1 := ⟨zws_in 1562 (by decide +kernel) (by decide +kernel), zws_in 1563 (by decide +kernel) (by decide +kernel), zws_in 94 (by decide +kernel) (by decide +kernel), zws_in 1564 (by decide +kernel) (by decide +kernel), ⟨by decide +kernel, by decide +kernel⟩, by decide +kernel, by decide⟩
theorem k_X4_cakeOf : zcal yX4_cakeOf cX4_cakeOf 2 (some .int) 1 := ⟨zws_in 1403 (by decide +kernel) (by decide +kernel), zws_in 1404 (by decide +kernel) (by decide +kernel), zws_in 94 (by decide +kernel) (by decide +kernel), zws_in 1405 (by decide +kernel) (by decide +kernel), ⟨by decide +kernel, by decide +kernel⟩, by decide +kernel, by decide⟩
theorem k_X4_cakes : zcal yX4_cakes cX4_cakes 2 (some .int) 1 := ⟨zws_in 1364 (by decide +kernel) (by decide +kernel), zws_in 1365 (by decide +kernel) (by decide +kernel), zws_in 94 (by decide +kernel) (by decide +kernel), zws_in 1366 (by decide +kernel) (by decide +kernel), ⟨by decide +kernel, by decide +kernel⟩, by decide +kernel, by decide⟩
theorem k_X4_candleDifference : zcal yX4_candleDifference cX4_candleDifference 1 (some .int) 0 := ⟨zws_in 1519 (by decide +kernel) (by decide +kernel), zws_in 1520 (by decide +kernel) (by decide +kernel), zws_in 94 (by decide +kernel) (by decide +kernel), zws_in 1521 (by decide +kernel) (by decide +kernel), ⟨by decide +kernel, by decide +kernel⟩, by decide +kernel, by decide⟩
theorem k_X4_candles : zcal yX4_candles cX4_candles 1 (some .int) 0 := ⟨zws_in 1360 (by decide +kernel) (by decide +kernel), zws_in 1361 (by decide +kernel) (by decide +kernel), zws_in 94 (by decide +kernel) (by decide +kernel), zws_in 1362 (by decide +kernel) (by decide +kernel), ⟨by decide +kernel, by decide +kernel⟩, by decide +kernel, by decide⟩
theorem k_X4_candlesAfter : zcal yX4_candlesAfter cX4_candlesAfter 4 (some .int) 1 := ⟨zws_in 1499 (by decide +kernel) (by decide +kernel), zws_in 1500 (by decide +kernel) (by decide +kernel), zws_in 94 (by decide +kernel) (by decide +kernel), zws_in 1501 (by decide +kernel) (by decide +kernel), ⟨by decide +kernel, by decide +kernel⟩, by decide +kernel, by decide⟩
theorem k_X4_childCount : zcal yX4_childCount cX4_childCount 1 (some .int) 0 := ⟨zws_in 1399 (by decide +kernel) (by decide +kernel), zws_in 1400 (by decide +kernel) (by decide +kernel), zws_in 94 (by decide +kernel) (by decide +kernel), zws_in 1401 (by decide +kernel) (by decide +kernel), ⟨by decide +kernel, by decide +kernel⟩, by decide +kernel, by decide⟩
theorem k_X4_childrenOf : zcal yX4_childrenOf cX4_childrenOf 4 (some .int) 1 := ⟨zws_in 1384 (by decide +kernel) (by decide +kernel), zws_in 1385 (by decide +kernel) (by decide +kernel), zws_in 94 (by decide +kernel) (by decide +kernel), zws_in 1386 (by decide +kernel) (by decide +kernel), ⟨by decide +kernel, by decide +kernel⟩, by decide +kernel, by decide⟩
theorem k_X4_childrenOn : zcal yX4_childrenOn cX4_childrenOn 3 (some .int) 2 := ⟨zws_in 1459 (by decide +kernel) (by decide +kernel), zws_in 1460 (by decide +kernel) (by decide +kernel), zws_in 94 (by decide +kernel) (by decide +kernel), zws_in 1461 (by decide +kernel) (by decide +kernel), ⟨by decide +kernel, by decide +kernel⟩, by decide +kernel, by decide⟩
theorem k_X4_clashes : zcal yX4_clashes cX4_clashes 5 (some .int) 0 := ⟨zws_in 1515 (by decide +kernel) (by decide +kernel), zws_in 1516 (by decide +kernel) (by decide +kernel), zws_in 94 (by decide +kernel) (by decide +kernel), zws_in 1517 (by decide +kernel) (by decide +kernel), ⟨by decide +kernel, by decide +kernel⟩, by decide +kernel, by decide⟩
theorem k_X4_dateAt : zcal yX4_dateAt cX4_dateAt 4 (some .int) 1 := ⟨zws_in 1475 (by decide +kernel) (by decide +kernel), zws_in 1476 (by decide +kernel) (by decide +kernel), zws_in 94 (by decide +kernel) (by decide +kernel), zws_in 1477 (by decide +kernel) (by decide +kernel), ⟨by decide +kernel, by decide +kernel⟩, by decide +kernel, by decide⟩
theorem k_X4_dayOfMonth : zcal yX4_dayOfMonth cX4_dayOfMonth 1 (some .int) 0 := ⟨zws_in 1348 (by decide +kernel) (by decide +kernel), zws_in 1349 (by decide +kernel) (by decide +kernel), zws_in 94 (by decide +kernel) (by decide +kernel), zws_in 1350 (by decide +kernel) (by decide +kernel), ⟨by decide +kernel, by decide +kernel⟩, by decide +kernel, by decide⟩
theorem k_X4_daysUntilBirthday : zcal yX4_daysUntilBirthday cX4_daysUntilBirthday 2 (some .int) 1 := ⟨zws_in 1431 (by decide +kernel) (by decide +kernel), zws_in 1432 (by decide +kernel) (by decide +kernel), zws_in 94 (by decide +kernel) (by decide +kernel), zws_in 1433 (by decide +kernel) (by decide +kernel), ⟨by decide +kernel, by decide +kernel⟩, by decide +kernel, by decide⟩
theorem k_X4_differentDates : zcal yX4_differentDates cX4_differentDates 3 (some .int) 0 := ⟨zws_in 1467 (by decide +kernel) (by decide +kernel), zws_in 1468 (by decide +kernel) (by decide +kernel), zws_in 94 (by decide +kernel) (by decide +kernel), zws_in 1469 (by decide +kernel) (by decide +kernel), ⟨by decide +kernel, by decide +kernel⟩, by decide +kernel, by decide⟩
theorem k_X4_draw : zcal yX4_draw cX4_draw 3 (some .int) 1 := ⟨zws_in 1546 (by decide +kernel) (by decide +kernel), zws_in 1547 (by decide +kernel) (by decide +kernel), zws_in 94 (by decide +kernel) (by decide +kernel), zws_in 1548 (by decide +kernel) (by decide +kernel), ⟨by decide +kernel, by decide +kernel⟩, by decide +kernel, by decide⟩
theorem k_X4_drawsNeeded : zcal yX4_drawsNeeded cX4_drawsNeeded 2 (some .int) 1 := ⟨zws_in 1495 (by decide +kernel) (by decide +kernel), zws_in 1496 (by decide +kernel) (by decide +kernel), zws_in 94 (by decide +kernel) (by decide +kernel), zws_in 1497 (by decide +kernel) (by decide +kernel), ⟨by decide +kernel, by decide +kernel⟩, by decide +kernel, by decide⟩
theorem k_X4_errorKind : zcal yX4_errorKind cX4_errorKind 1 (some .int) 0 := ⟨zws_in 1332 (by decide +kernel) (by decide +kernel), zws_in 1333 (by decide +kernel) (by decide +kernel), zws_in 94 (by decide +kernel) (by decide +kernel), zws_in 1334 (by decide +kernel) (by decide +kernel), ⟨by decide +kernel, by decide +kernel⟩, by decide +kernel, by decide⟩
theorem k_X4_errorOffset : zcal yX4_errorOffset cX4_errorOffset 1 (some .int) 0 := ⟨zws_in 1336 (by decide +kernel) (by decide +kernel), zws_in 1337 (by decide +kernel) (by decide +kernel), zws_in 94 (by decide +kernel) (by decide +kernel), zws_in 1338 (by decide +kernel) (by decide +kernel), ⟨by decide +kernel, by decide +kernel⟩, by decide +kernel, by decide⟩
theorem k_X4_failedParties : zcal yX4_failedParties cX4_failedParties 1 (some .int) 0 := ⟨zws_in 1511 (by decide +kernel) (by decide +kernel), zws_in 1512 (by decide +kernel) (by decide +kernel), zws_in 94 (by decide +kernel) (by decide +kernel), zws_in 1513 (by decide +kernel) (by decide +kernel), ⟨by decide +kernel, by decide +kernel⟩, by decide +kernel, by decide⟩
theorem k_X4_forgetBirthday : zcal yX4_forgetBirthday cX4_forgetBirthday 3 (some .int) 1 := ⟨zws_in 1554 (by decide +kernel) (by decide +kernel), zws_in 1555 (by decide +kernel) (by decide +kernel), zws_in 94 (by decide +kernel) (by decide +kernel), zws_in 1556 (by decide +kernel) (by decide +kernel), ⟨by decide +kernel, by decide +kernel⟩, by decide +kernel, by decide⟩
theorem k_X4_freeGarden : zcal yX4_freeGarden cX4_freeGarden 5 (some .int) 3 := ⟨zws_in 1491 (by decide +kernel) (by decide +kernel), zws_in 1492 (by decide +kernel) (by decide +kernel), zws_in 94 (by decide +kernel) (by decide +kernel), zws_in 1493 (by decide +kernel) (by decide +kernel), ⟨by decide +kernel, by decide +kernel⟩, by decide +kernel, by decide⟩
theorem k_X4_gardenCount : zcal yX4_gardenCount cX4_gardenCount 1 (some .int) 0 := ⟨zws_in 1372 (by decide +kernel) (by decide +kernel), zws_in 1373 (by decide +kernel) (by decide +kernel), zws_in 94 (by decide +kernel) (by decide +kernel), zws_in 1374 (by decide +kernel) (by decide +kernel), ⟨by decide +kernel, by decide +kernel⟩, by decide +kernel, by decide⟩
theorem k_X4_gardenOf : zcal yX4_gardenOf cX4_gardenOf 2 (some .int) 1 := ⟨zws_in 1423 (by decide +kernel) (by decide +kernel), zws_in 1424 (by decide +kernel) (by decide +kernel), zws_in 94 (by decide +kernel) (by decide +kernel), zws_in 1425 (by decide +kernel) (by decide +kernel), ⟨by decide +kernel, by decide +kernel⟩, by decide +kernel, by decide⟩
theorem k_X4_heldParties : zcal yX4_heldParties cX4_heldParties 1 (some .int) 0 := ⟨zws_in 1507 (by decide +kernel) (by decide +kernel), zws_in 1508 (by decide +kernel) (by decide +kernel), zws_in 94 (by decide +kernel) (by decide +kernel), zws_in 1509 (by decide +kernel) (by decide +kernel), ⟨by decide +kernel, by decide +kernel⟩, by decide +kernel, by decide⟩
theorem k_X4_load : zcal yX4_load cX4_load 2 (some .int) 1 := ⟨zws_in 1235 (by decide +kernel) (by decide +kernel), zws_in 1236 (by decide +kernel) (by decide +kernel), zws_in 94 (by decide +kernel) (by decide +kernel), zws_in 1237 (by decide +kernel) (by decide +kernel), ⟨by decide +kernel, by decide +kernel⟩, by decide +kernel, by decide⟩
theorem k_X4_meanAge : zcal yX4_meanAge cX4_meanAge 1 (some .double) 0 := ⟨zws_in 1526 (by decide +kernel) (by decide +kernel), zws_in 1527 (by decide +kernel) (by decide +kernel), zws_in 94 (by decide +kernel) (by decide +kernel), zws_in 1528 (by decide +kernel) (by decide +kernel), ⟨by decide +kernel, by decide +kernel⟩, by decide +kernel, by decide⟩
theorem k_X4_month : zcal yX4_month cX4_month 1 (some .int) 0 := ⟨zws_in 1344 (by decide +kernel) (by decide +kernel), zws_in 1345 (by decide +kernel) (by decide +kernel), zws_in 94 (by decide +kernel) (by decide +kernel), zws_in 1346 (by decide +kernel) (by decide +kernel), ⟨by decide +kernel, by decide +kernel⟩, by decide +kernel, by decide⟩
theorem k_X4_mostWantedCake : zcal yX4_mostWantedCake cX4_mostWantedCake 3 (some .int) 0 := ⟨zws_in 1368 (by decide +kernel) (by decide +kernel), zws_in 1369 (by decide +kernel) (by decide +kernel), zws_in 94 (by decide +kernel) (by decide +kernel), zws_in 1370 (by decide +kernel) (by decide +kernel), ⟨by decide +kernel, by decide +kernel⟩, by decide +kernel, by decide⟩
theorem k_X4_moveTo : zcal yX4_moveTo cX4_moveTo 4 (some .int) 2 := ⟨zws_in 1558 (by decide +kernel) (by decide +kernel), zws_in 1559 (by decide +kernel) (by decide +kernel), zws_in 94 (by decide +kernel) (by decide +kernel), zws_in 1560 (by decide +kernel) (by decide +kernel), ⟨by decide +kernel, by decide +kernel⟩, by decide +kernel, by decide⟩
theorem k_X4_nextChild : zcal yX4_nextChild cX4_nextChild 5 (some .int) 0 := ⟨zws_in 1455 (by decide +kernel) (by decide +kernel), zws_in 1456 (by decide +kernel) (by decide +kernel), zws_in 94 (by decide +kernel) (by decide +kernel), zws_in 1457 (by decide +kernel) (by decide +kernel), ⟨by decide +kernel, by decide +kernel⟩, by decide +kernel, by decide⟩
theorem k_X4_nextDraw : zcal yX4_nextDraw cX4_nextDraw 1 (some .int) 0 := ⟨zws_in 1356 (by decide +kernel) (by decide +kernel), zws_in 1357 (by decide +kernel) (by decide +kernel), zws_in 94 (by decide +kernel) (by decide +kernel), zws_in 1358 (by decide +kernel) (by decide +kernel), ⟨by decide +kernel, by decide +kernel⟩, by decide +kernel, by decide⟩
theorem k_X4_obstacle : zcal yX4_obstacle cX4_obstacle 5 (some .int) 4 := ⟨zws_in 1487 (by decide +kernel) (by decide +kernel), zws_in 1488 (by decide +kernel) (by decide +kernel), zws_in 94 (by decide +kernel) (by decide +kernel), zws_in 1489 (by decide +kernel) (by decide +kernel), ⟨by decide +kernel, by decide +kernel⟩, by decide +kernel, by decide⟩
theorem k_X4_outputByte : zcal yX4_outputByte cX4_outputByte 2 (some .int) 1 := ⟨zws_in 1598 (by decide +kernel) (by decide +kernel), zws_in 1599 (by decide +kernel) (by decide +kernel), zws_in 94 (by decide +kernel) (by decide +kernel), zws_in 1600 (by decide +kernel) (by decide +kernel), ⟨by decide +kernel, by decide +kernel⟩, by decide +kernel, by decide⟩
theorem k_X4_partiesOf : zcal yX4_partiesOf cX4_partiesOf 2 (some .int) 1 := ⟨zws_in 1443 (by decide +kernel) (by decide +kernel), zws_in 1444 (by decide +kernel) (by decide +kernel), zws_in 94 (by decide +kernel) (by decide +kernel), zws_in 1445 (by decide +kernel) (by decide +kernel), ⟨by decide +kernel, by decide +kernel⟩, by decide +kernel, by decide⟩
theorem k_X4_partyIn : zcal yX4_partyIn cX4_partyIn 4 (some .int) 3 := ⟨zws_in 1388 (by decide +kernel) (by decide +kernel), zws_in 1389 (by decide +kernel) (by decide +kernel), zws_in 94 (by decide +kernel) (by decide +kernel), zws_in 1390 (by decide +kernel) (by decide +kernel), ⟨by decide +kernel, by decide +kernel⟩, by decide +kernel, by decide⟩
theorem k_X4_restore : zcal yX4_restore cX4_restore 3 (some .int) 1 := ⟨zws_in 1570 (by decide +kernel) (by decide +kernel), zws_in 1571 (by decide +kernel) (by decide +kernel), zws_in 94 (by decide +kernel) (by decide +kernel), zws_in 1572 (by decide +kernel) (by decide +kernel), ⟨by decide +kernel, by decide +kernel⟩, by decide +kernel, by decide⟩
theorem k_X4_save : zcal yX4_save cX4_save 3 (some .int) 1 := ⟨zws_in 1578 (by decide +kernel) (by decide +kernel), zws_in 1579 (by decide +kernel) (by decide +kernel), zws_in 94 (by decide +kernel) (by decide +kernel), zws_in 1580 (by decide +kernel) (by decide +kernel), ⟨by decide +kernel, by decide +kernel⟩, by decide +kernel, by decide⟩
theorem k_X4_seatsOf : zcal yX4_seatsOf cX4_seatsOf 2 (some .int) 1 := ⟨zws_in 1376 (by decide +kernel) (by decide +kernel), zws_in 1377 (by decide +kernel) (by decide +kernel), zws_in 94 (by decide +kernel) (by decide +kernel), zws_in 1378 (by decide +kernel) (by decide +kernel), ⟨by decide +kernel, by decide +kernel⟩, by decide +kernel, by decide⟩
theorem k_X4_seed : zcal yX4_seed cX4_seed 1 (some .int) 0 := ⟨zws_in 1352 (by decide +kernel) (by decide +kernel), zws_in 1353 (by decide +kernel) (by decide +kernel), zws_in 94 (by decide +kernel) (by decide +kernel), zws_in 1354 (by decide +kernel) (by decide +kernel), ⟨by decide +kernel, by decide +kernel⟩, by decide +kernel, by decide⟩
theorem k_X4_setBirthday : zcal yX4_setBirthday cX4_setBirthday 4 (some .int) 3 := ⟨zws_in 1550 (by decide +kernel) (by decide +kernel), zws_in 1551 (by decide +kernel) (by decide +kernel), zws_in 94 (by decide +kernel) (by decide +kernel), zws_in 1552 (by decide +kernel) (by decide +kernel), ⟨by decide +kernel, by decide +kernel⟩, by decide +kernel, by decide⟩
theorem k_X4_strengthOf : zcal yX4_strengthOf cX4_strengthOf 2 (some .int) 1 := ⟨zws_in 1451 (by decide +kernel) (by decide +kernel), zws_in 1452 (by decide +kernel) (by decide +kernel), zws_in 94 (by decide +kernel) (by decide +kernel), zws_in 1453 (by decide +kernel) (by decide +kernel), ⟨by decide +kernel, by decide +kernel⟩, by decide +kernel, by decide⟩
theorem k_X4_thrown : zcal yX4_thrown cX4_thrown 1 (some .int) 0 := ⟨zws_in 1215 (by decide +kernel) (by decide +kernel), zws_in 1216 (by decide +kernel) (by decide +kernel), zws_in 94 (by decide +kernel) (by decide +kernel), zws_in 1217 (by decide +kernel) (by decide +kernel), ⟨by decide +kernel, by decide +kernel⟩, by decide +kernel, by decide⟩
theorem k_X4_undo : zcal yX4_undo cX4_undo 2 (some .int) 0 := ⟨zws_in 1574 (by decide +kernel) (by decide +kernel), zws_in 1575 (by decide +kernel) (by decide +kernel), zws_in 94 (by decide +kernel) (by decide +kernel), zws_in 1576 (by decide +kernel) (by decide +kernel), ⟨by decide +kernel, by decide +kernel⟩, by decide +kernel, by decide⟩
theorem k_X4_wishShare : zcal yX4_wishShare cX4_wishShare 1 (some .float) 0 := ⟨zws_in 1534 (by decide +kernel) (by decide +kernel), zws_in 1535 (by decide +kernel) (by decide +kernel), zws_in 94 (by decide +kernel) (by decide +kernel), zws_in 1536 (by decide +kernel) (by decide +kernel), ⟨by decide +kernel, by decide +kernel⟩, by decide +kernel, by decide⟩
theorem k_X4_wishesAfter : zcal yX4_wishesAfter cX4_wishesAfter 5 (some .int) 2 := ⟨zws_in 1503 (by decide +kernel) (by decide +kernel), zws_in 1504 (by decide +kernel) (by decide +kernel), zws_in 94 (by decide +kernel) (by decide +kernel), zws_in 1505 (by decide +kernel) (by decide +kernel), ⟨by decide +kernel, by decide +kernel⟩, by decide +kernel, by decide⟩
theorem k_X4_wishesOf : zcal yX4_wishesOf cX4_wishesOf 2 (some .int) 1 := ⟨zws_in 1447 (by decide +kernel) (by decide +kernel), zws_in 1448 (by decide +kernel) (by decide +kernel), zws_in 94 (by decide +kernel) (by decide +kernel), zws_in 1449 (by decide +kernel) (by decide +kernel), ⟨by decide +kernel, by decide +kernel⟩, by decide +kernel, by decide⟩
theorem k_X4_writeChild : zcal yX4_writeChild cX4_writeChild 4 (some .int) 1 := ⟨zws_in 1582 (by decide +kernel) (by decide +kernel), zws_in 1583 (by decide +kernel) (by decide +kernel), zws_in 94 (by decide +kernel) (by decide +kernel), zws_in 1584 (by decide +kernel) (by decide +kernel), ⟨by decide +kernel, by decide +kernel⟩, by decide +kernel, by decide⟩
theorem k_X4_writeDate : zcal yX4_writeDate cX4_writeDate 1 (some .int) 0 := ⟨zws_in 1594 (by decide +kernel) (by decide +kernel), zws_in 1595 (by decide +kernel) (by decide +kernel), zws_in 94 (by decide +kernel) (by decide +kernel), zws_in 1596 (by decide +kernel) (by decide +kernel), ⟨by decide +kernel, by decide +kernel⟩, by decide +kernel, by decide⟩
theorem k_X4_year : zcal yX4_year cX4_year 1 (some .int) 0 := ⟨zws_in 1340 (by decide +kernel) (by decide +kernel), zws_in 1341 (by decide +kernel) (by decide +kernel), zws_in 94 (by decide +kernel) (by decide +kernel), zws_in 1342 (by decide +kernel) (by decide +kernel), ⟨by decide +kernel, by decide +kernel⟩, by decide +kernel, by decide⟩
/-! THE LAW'S CALLS: two worlds, the class's and the model's, and a row of one long -/
def zc0 : Cond := Cond.initialized "java/lang/Math"
theorem zc0_in : zc0 ∈ zWS := m_92
def zLS (p : Program) (l : Launch) (s : State) (m : MethodId) (args : Array Value) (c : Code) : Prop :=
  p.tables.exec = Jvm.exec ∧ c.code = cL_law ∧ c.maxLocals = 9 ∧ s.vm.findClass RL = some m.cls ∧ (∀ w ∈ zc0 :: zWS, w.before args s = true) ∧ l.flags = flags0
def zLC (D : va_G) (Y : Nat → ClassId) (S V : Nat → Nat) (G Gm : Nat → Nat → Nat) (A : Nat → Prop) (cL : ClassId) (o : Nat) (s : State) : Prop :=
  zKl D Y S V A cL s s.heap ∧ zG 0 G A ∧ zG 1 Gm A ∧ A o ∧ (∀ κ ι κ' ι', zV 0 κ ι → zV 1 κ' ι' → G κ ι ≠ Gm κ' ι') ∧ (∀ κ ι, zV 0 κ ι → G κ ι ≠ o) ∧ (∀ κ ι, zV 1 κ ι → Gm κ ι ≠ o) ∧ ∀ q, s.heap.size ≤ q → A q
def zLW (D : va_G) (Y : Nat → ClassId) (G Gm : Nat → Nat → Nat) (A : Nat → Prop) (cL : ClassId) (o : Nat) (f : Nat → Int64) (s : State) (T M : zT) (H : Heap) (locs : List Loc) : Prop :=
  zP 0 D Y G T H ∧ zP 1 D Y Gm M H ∧ zOw D cL o f H ∧ va_S A s.heap H locs
/-- the script -/
def zLX (b L : Nat) (xs : Nat → Int32) (A : Nat → Prop) (s : State) : Prop := va_X b L xs s s.heap ∧ b < s.heap.size ∧ ¬ A b ∧ L ≤ 3072
theorem zroom : room_1 = zR 12 601024 7293034 := rfl
section LW
variable {p : Program} {l : Launch} {e : Env} {s : State} {m : MethodId} {args : Array Value} {below : List Frame} {meth : Method} {c : Code} {H : Heap} {locs : List Loc} {cells slots : Nat} {Q : State → Prop}
variable {pc : Nat} {ls : Array Slot} {rest : List Value} {D : va_G} {Y : Nat → ClassId} {S V : Nat → Nat} {G Gm : Nat → Nat → Nat} {A : Nat → Prop} {cL : ClassId} {o : Nat} {f : Nat → Int64} {T T' M M' : zT}
variable {y : MethodName} {cc' : ByteArray} {maxL' n d' mc' ms' index : Nat} {ret' : Option FieldType} {as : (Nat → Nat → Nat) → (Nat → Nat) → List Value} {v : Option Value} {As : List Value} {st : List Value}
theorem lw_M (K : zLS p l s m args c) (C : zLC D Y S V G Gm A cL o s) (W0 : zLW D Y G Gm A cL o f s T M H locs) (hc : zcal y cc' maxL' ret' n) (hlink : Cond.methodLink RL index y ∈ zWS) (hC : zC 1 y cc' maxL' ret' d' mc' ms' as M (fun _ => .inl v) M') (hy : y.cls = RX4) (has : as Gm S = .ref (Gm 0 0) :: As) (hn : As.length = n) (hsz : ls.size = 9) (hrest : (rest.map fun v => v.category).sum ≤ 8) (hdg : decode cL_law pc = .ok (.invokevirtual index, 3)) (hd : d' + 1 ≤ 12) (hf : cells + mc' ≤ 601024 ∧ slots + ms' ≤ 7293034) (hst : st = As.reverse ++ .ref (Gm 0 0) :: rest)
    (kk : ∀ (H1 : Heap) (locs1 : List Loc), zLW D Y G Gm A cL o f s T M' H1 locs1 → W p l e room_1 s m args below meth c H1 locs1 (cells + mc') (slots + ms') Q (F0 m (pc + 3) ls (v.toList ++ rest))) : W p l e room_1 s m args below meth c H locs cells slots Q (F0 m pc ls st) := by
  obtain ⟨hP0, hP1, hO, hS⟩ := W0
  obtain ⟨hK, hG0, hG1, hoA, hd01, hd0, hd1, hA⟩ := C
  obtain ⟨A1, eA⟩ : ∃ z : Nat → Prop, z = fun q => (∃ κ ι, zV 1 κ ι ∧ q = Gm κ ι) ∨ H.size ≤ q := ⟨_, rfl⟩
  have hAB : ∀ q, A1 q → A q := fun q h => by
    rw [eA] at h
    rcases h with ⟨κ, ι, hV, rfl⟩ | h
    · exact hG1.2 κ ι hV
    · exact hA q (Nat.le_trans hS.1 h)
  have hGA : zG 1 Gm A1 := ⟨hG1.1, fun κ ι hV => by rw [eA]; exact Or.inl ⟨κ, ι, hV, rfl⟩⟩
  have hA1 : ∀ q, H.size ≤ q → A1 q := fun q hq => by rw [eA]; exact Or.inr hq
  rw [zroom]
  refine z_oks (z_runVs (D := D) (Y := Y) (S := S) (V := V) (A1 := A1) (rest := rest) ⟨K, hGA, hK.1, hAB, hA1⟩ hc hlink hC hP1 hS (zV_m (κ := 0) (by decide)) rfl (by rw [hy]; rfl) has hn hsz hrest hdg hd hf hst) hS hAB (fun H1 locs1 hP1' hz hk hS1 => ?_)
  rw [← zroom]
  refine kk H1 locs1 ⟨hP0.frame fun κ ι hV => hk _ (hP0.lt hV) fun h => ?_, hP1', va_at.kept hO (hk o (va_at.lt hO) fun h => ?_), hS1⟩
  · rw [eA] at h
    rcases h with ⟨κ', ι', hV', h⟩ | h
    · exact hd01 κ ι κ' ι' hV hV' h
    · exact absurd (hP0.lt hV) (by omega)
  · rw [eA] at h
    rcases h with ⟨κ', ι', hV', h⟩ | h
    · exact hd1 κ' ι' hV' h.symm
    · exact absurd (va_at.lt hO : o < H.size) (by omega)
theorem lw_X (K : zLS p l s m args c) (C : zLC D Y S V G Gm A cL o s) (W0 : zLW D Y G Gm A cL o f s T M H locs) (hc : zcal y cc' maxL' ret' n) (hlink : Cond.methodLink RL index y ∈ zWS) (hC : zC 0 y cc' maxL' ret' d' mc' ms' as T (fun _ => .inl v) T') (hy : y.cls = RX3) (has : as G S = .ref (G 0 0) :: As) (hn : As.length = n) (hsz : ls.size = 9) (hrest : (rest.map fun v => v.category).sum ≤ 8) (hdg : decode cL_law pc = .ok (.invokevirtual index, 3)) (hd : d' + 1 ≤ 12) (hf : cells + mc' ≤ 601024 ∧ slots + ms' ≤ 7293034) (hst : st = As.reverse ++ .ref (G 0 0) :: rest)
    (kk : ∀ (H1 : Heap) (locs1 : List Loc), zLW D Y G Gm A cL o f s T' M H1 locs1 → W p l e room_1 s m args below meth c H1 locs1 (cells + mc') (slots + ms') Q (F0 m (pc + 3) ls (v.toList ++ rest))) : W p l e room_1 s m args below meth c H locs cells slots Q (F0 m pc ls st) := by
  obtain ⟨hP0, hP1, hO, hS⟩ := W0
  obtain ⟨hK, hG0, hG1, hoA, hd01, hd0, hd1, hA⟩ := C
  obtain ⟨A1, eA⟩ : ∃ z : Nat → Prop, z = fun q => (∃ κ ι, zV 0 κ ι ∧ q = G κ ι) ∨ H.size ≤ q := ⟨_, rfl⟩
  have hAB : ∀ q, A1 q → A q := fun q h => by
    rw [eA] at h
    rcases h with ⟨κ, ι, hV, rfl⟩ | h
    · exact hG0.2 κ ι hV
    · exact hA q (Nat.le_trans hS.1 h)
  have hGA : zG 0 G A1 := ⟨hG0.1, fun κ ι hV => by rw [eA]; exact Or.inl ⟨κ, ι, hV, rfl⟩⟩
  have hA1 : ∀ q, H.size ≤ q → A1 q := fun q hq => by rw [eA]; exact Or.inr hq
  rw [zroom]
  refine z_oks (z_runVs (D := D) (Y := Y) (S := S) (V := V) (A1 := A1) (rest := rest) ⟨K, hGA, hK.1, hAB, hA1⟩ hc hlink hC hP0 hS (zV_0 (ι := 0) (by decide)) rfl (by rw [hy]; rfl) has hn hsz hrest hdg hd hf hst) hS hAB (fun H1 locs1 hP0' hz hk hS1 => ?_)
  rw [← zroom]
  refine kk H1 locs1 ⟨hP0', hP1.frame fun κ ι hV => hk _ (hP1.lt hV) fun h => ?_, va_at.kept hO (hk o (va_at.lt hO) fun h => ?_), hS1⟩
  · rw [eA] at h
    rcases h with ⟨κ', ι', hV', h⟩ | h
    · exact hd01 κ' ι' κ ι hV' hV h.symm
    · exact absurd (hP1.lt hV) (by omega)
  · rw [eA] at h
    rcases h with ⟨κ', ι', hV', h⟩ | h
    · exact hd0 κ' ι' hV' h.symm
    · exact absurd (va_at.lt hO : o < H.size) (by omega)
theorem lw_C {hh : List (Nat × Nat × Nat × Nat)} {as : (Nat → Nat → Nat) → Nat → List Value} {v : Int32 ⊕ Nat} {code : Nat → Int32} (K : zLS p l s m args c) (C : zLC D Y S V G Gm A cL o s) (W0 : zLW D Y G Gm A cL o f s T M H locs) (hc : zcaw y cc' maxL' hh n) (hlink : Cond.methodLink RL index y ∈ zWS) (hC : zCl y cc' maxL' hh d' mc' ms' as T v code T') (has : as G o = As) (hn : As.length = n) (hsz : ls.size = 9) (hrest : (rest.map fun v => v.category).sum ≤ 8) (hdg : decode cL_law pc = .ok (.invokestatic index, 3)) (hd : d' + 1 ≤ 12) (hf : cells + mc' ≤ 601024 ∧ slots + ms' ≤ 7293034) (hst : st = As.reverse ++ rest)
    (kk : ∀ (H1 : Heap) (locs1 : List Loc) (k : Int32) (f' : Nat → Int64), zpost v code k (f' 0) → zLW D Y G Gm A cL o f' s T' M H1 locs1 → W p l e room_1 s m args below meth c H1 locs1 (cells + mc') (slots + ms') Q (F0 m (pc + 3) ls (.int k :: rest))) : W p l e room_1 s m args below meth c H locs cells slots Q (F0 m pc ls st) := by
  obtain ⟨hP0, hP1, hO, hS⟩ := W0
  obtain ⟨hK, hG0, hG1, hoA, hd01, hd0, hd1, hA⟩ := C
  obtain ⟨hx, hb, hml, hown, hts, hl9⟩ := K
  obtain ⟨k1, k2, k3, k4, k5, k6⟩ := hc
  have ok : ∀ w ∈ zWS, w.before args s = true := fun w h => hts w (List.mem_cons_of_mem _ h)
  obtain ⟨A1, eA⟩ : ∃ z : Nat → Prop, z = fun q => (∃ κ ι, zV 0 κ ι ∧ q = G κ ι) ∨ q = o ∨ H.size ≤ q := ⟨_, rfl⟩
  have hAB : ∀ q, A1 q → A q := fun q h => by
    rw [eA] at h
    rcases h with ⟨κ, ι, hV, rfl⟩ | rfl | h
    · exact hG0.2 κ ι hV
    · exact hoA
    · exact hA q (Nat.le_trans hS.1 h)
  have hGA : zG 0 G A1 := ⟨hG0.1, fun κ ι hV => by rw [eA]; exact Or.inl ⟨κ, ι, hV, rfl⟩⟩
  have hA1 : ∀ q, H.size ≤ q → A1 q := fun q hq => by rw [eA]; exact Or.inr (Or.inr hq)
  have hoA1 : A1 o := by rw [eA]; exact Or.inr (Or.inl rfl)
  rw [zroom]
  have run := vx_runSX (p := p) (e := e) (below := below) (meth := meth) (locs := locs) (cells := cells) (slots := slots) (g := F0 m pc ls st) (rest := rest) (H := H) (R := zR 12 601024 7293034) (ret := some .int) (bytes := cc') (maxL := maxL') (n := n) (hh := hh) (As := As) (Ts := zc0 :: zWS) (own := RL) (index := index) (nL := 9) (cc := cL_law) ⟨hx, hb, hml, hown, hts⟩ (hC l D Y S V G A1 cL o f hl9 hGA hoA1 hd0)
    ⟨⟨rfl, rfl, hd, (by show 8 + (maxL' + 11) + 37 * d' ≤ 37 * 12; omega), z_pay hts k3, List.mem_cons_self⟩, ok _ k3, ok _ k2, k4, z_len k5, ok _ hlink, ok _ k1⟩
    ⟨zLB_blind, fun U hU hW => ⟨by rw [has], by rw [hU]; exact (hK.go hW hS.2.1).narrow hAB, by rw [hU]; exact hP0, by rw [hU]; exact hO, by rw [hU]; exact hA1⟩⟩ rfl hn hsz hst (by show 2 * 0 + _ ≤ 8; omega) hdg hf
  intro U hU X
  rcases run U hU X with ⟨v', st₀, t, T1, L, h0, X', hL, e1, e2, ⟨⟨k, f', ho, hp, hO', hpost⟩, hF⟩, st'⟩ | ⟨q, st₀, t, T1, L, E, ce, h0, X', hL, e1, e2, hfalse, -⟩
  · cases ho
    obtain ⟨z1, z2, z3⟩ := vx_keep h0 e1 hS (fun q _ h => hAB q h) hAB hL hF
    obtain ⟨t2, a1, b1⟩ := kk T1.heap (locs ++ L) k f' hpost ⟨by rw [e1]; exact hp, hP1.frame fun κ ι hV => z2 _ (hP1.lt hV) fun h => by
      rw [eA] at h
      rcases h with ⟨κ', ι', hV', h⟩ | h | h
      · exact hd01 κ' ι' κ ι hV' hV h.symm
      · exact hd1 κ ι hV h
      · exact absurd (hP1.lt hV) (by omega), by rw [e1]; exact hO', z3⟩ T1 rfl X'
    exact ⟨t2, st' t2 a1, b1⟩
  · exact hfalse.elim
/-- an int of the script, pushed -/
theorem lw_arg {b L i : Nat} {xs : Nat → Int32} {lv : List (Nat × Value)} (K : zLS p l s m args c) (X : zLX b L xs A s) (hS : va_S A s.heap H locs) (hl : lv_has ls 9 lv) (j4 j0 : Nat) (h0 : lv[j0]? = some (0, .ref b)) (h4 : lv[j4]? = some (4, .int (nI i))) (k : Nat) (hk : i + k < L) {n : Int} (hn : Int32.ofInt n = nI k) (d0 : decode cL_law pc = .ok (.aload_n 0, 1)) (d1 : decode cL_law (pc + 1) = .ok (.iload 4, 2)) (d3 : decode cL_law (pc + 3) = .ok (.iconst n, 1)) (d4 : decode cL_law (pc + 4) = .ok (.iadd, 1)) (d5 : decode cL_law (pc + 5) = .ok (.iaload, 1))
    (kk : W p l e room_1 s m args below meth c H locs cells slots Q (F0 m (pc + 6) ls (.int (xs (i + k)) :: rest))) : W p l e room_1 s m args below meth c H locs cells slots Q (F0 m pc ls rest) := by
  obtain ⟨hx, hb, -⟩ := K
  obtain ⟨hX, hbl, hbA, hL⟩ := X
  refine lv_aload_n hx hb d0 rfl (lv_at hl j0 h0) ?_
  refine lv_iload hx hb d1 (lv_at hl j4 h4) ?_
  refine lv_iconst hx hb d3 hn ?_
  refine lv_iadd hx hb d4 ?_
  refine z_topi (nI_add i k).symm ?_
  have hin : vp_in (nI (i + k)) L := zin_i (of_eq_true (q_zt (by omega) (by omega)))
  refine va_sld hx hb hX hbl hbA hS hin d5 ?_
  rw [nI_clamp (by omega)]
  exact kk
/-- behind the two calls of an act that may throw -/
theorem lw_tail {v : Int32 ⊕ Nat} {code : Nat → Int32} {k r : Int32} {lv : List (Nat × Value)} {t0 : Nat} {off : Int} (K : zLS p l s m args c) (C : zLC D Y S V G Gm A cL o s) (W0 : zLW D Y G Gm A cL o f s T M H locs) (hl : lv_has ls 9 lv) (j2 j3 j5 j6 : Nat) (h2 : lv[j2]? = some (2, .ref (Gm 0 0))) (h3 : lv[j3]? = some (3, .ref o)) (h5 : lv[j5]? = some (5, .int k)) (h6 : lv[j6]? = some (6, .int r)) (hp : zpost v code k (f 0)) (hz : (∃ x, v = .inl x ∧ r = x ∧ M.1 0 0 1 = 0) ∨ ∃ x, v = .inr x ∧ M.1 0 0 1 = code x ∧ code x ≠ 0) (hf : cells ≤ 601024 ∧ slots ≤ 7293034)
    (d0 : decode cL_law t0 = .ok (.aload_n 2, 1)) (d1 : decode cL_law (t0 + 1) = .ok (.invokevirtual 133, 3)) (d4 : decode cL_law (t0 + 4) = .ok (.iload 5, 2)) (d6 : decode cL_law (t0 + 6) = .ok (.if_icmp .eq 5, 3)) (d11 : decode cL_law (t0 + 11) = .ok (.iload 5, 2)) (d13 : decode cL_law (t0 + 13) = .ok (.ifCond .ne 15, 3)) (d16 : decode cL_law (t0 + 16) = .ok (.aload_n 3, 1)) (d17 : decode cL_law (t0 + 17) = .ok (.iconst 0, 1)) (d18 : decode cL_law (t0 + 18) = .ok (.laload, 1)) (d19 : decode cL_law (t0 + 19) = .ok (.iload 6, 2)) (d21 : decode cL_law (t0 + 21) = .ok (.i2l, 1)) (d22 : decode cL_law (t0 + 22) = .ok (.lcmp, 1)) (d23 : decode cL_law (t0 + 23) = .ok (.ifCond .eq 5, 3)) (d28 : decode cL_law (t0 + 28) = .ok (.goto off, 3)) (ht : ((t0 + 28 : Nat) : Int) + off = (2703 : Nat))
    (kk : ∀ (H1 : Heap) (locs1 : List Loc), zLW D Y G Gm A cL o f s T M H1 locs1 → W p l e room_1 s m args below meth c H1 locs1 cells slots Q (F0 m 2703 ls [])) : W p l e room_1 s m args below meth c H locs cells slots Q (F0 m t0 ls []) := by
  obtain ⟨hx, hb, -⟩ := id K
  refine lv_aload_n hx hb d0 rfl (lv_at hl j2 h2) ?_
  refine lw_M (As := []) (rest := []) K C W0 k_X4_thrown m_1214 (c_X4_thrown M M (M.1 0 0 1) rfl) rfl rfl rfl hl.1 (by decide) d1 (by decide) hf rfl (fun H locs W0 => ?_)
  refine lv_iload hx hb d4 (lv_at hl j5 h5) ?_
  have hk : M.1 0 0 1 = k := by
    rcases hz with ⟨x, rfl, -, h⟩ | ⟨x, rfl, h, -⟩
    · rw [h]; exact hp.1.symm
    · rw [h]; exact (show k = code x from hp).symm
  refine lv_icmp_eq (tgt := t0 + 11) hx hb d6 (by omega) (fun _ => ?_) (fun hc => absurd hk hc)
  refine lv_iload hx hb d11 (lv_at hl j5 h5) ?_
  have fin : W p l e room_1 s m args below meth c H locs cells slots Q (F0 m (t0 + 28) ls []) := lv_goto (tgt := 2703) hx hb d28 ht (kk H locs W0)
  refine lv_if_ne (tgt := t0 + 28) hx hb d13 (by omega) (fun _ => fin) (fun hk0 => ?_)
  refine lv_aload_n hx hb d16 rfl (lv_at hl j3 h3) ?_
  refine lv_iconst (v := 0) hx hb d17 (by decide) ?_
  refine va_lald (ws := [(o, .inl (cL, 1, .inr (.inl f)))]) hx hb C.1.2.1 (fun k q hk => by match k, hk with | 0, hk => cases hk; exact W0.2.2.1) 0 0 rfl rfl (zin_i (by decide)) d18 ?_
  refine lv_iload hx hb d19 (lv_at hl j6 h6) ?_
  refine lv_i2l (v := r.toInt64) hx hb d21 rfl ?_
  refine W.lcmp hx hb d22 ?_
  have he : f (0 : Int32).toNatClampNeg = r.toInt64 := by
    rcases hz with ⟨x, rfl, rfl, h⟩ | ⟨x, rfl, h, h9⟩
    · exact hp.2
    · exact absurd ((show k = code x from hp).symm.trans hk0) h9
  refine lv_if_eq (tgt := t0 + 28) hx hb d23 (by omega) (fun _ => fin) (fun hc => absurd ?_ hc)
  rw [he]
  unfold lg_cmp
  rw [if_neg (fun z => Int64.lt_irrefl z), if_pos rfl]
end LW
/-- both ways of an act that may throw, in one -/
theorem zOpX.all {cs : List (Nat × Nat)} {fc : Option ((Int32 ⊕ Nat) × zT)} {fm : Option (Int32 × zT)} {code : Nat → Int32} (h : zOpX cs fc fm) (hc : ∀ x k, (x, k) ∈ cs → code x = nI k ∧ nI k ≠ 0) : ∃ v T' r M', fc = some (v, T') ∧ fm = some (r, M') ∧ zRel T' M' ∧ (∀ n, v = .inr n → ∃ k, (n, k) ∈ cs) ∧ ((∃ x, v = .inl x ∧ r = x ∧ M'.1 0 0 1 = 0) ∨ ∃ x, v = .inr x ∧ M'.1 0 0 1 = code x ∧ code x ≠ 0) := by
  rcases h with ⟨v, T', M', e1, e2, e3, hR⟩ | ⟨x, k, T', r, M', hm, e1, e2, e3, hR⟩
  · exact ⟨.inl v, T', v, M', e1, e2, hR, (fun n hn => by cases hn), Or.inl ⟨v, rfl, rfl, e3⟩⟩
  · obtain ⟨h1, h2⟩ := hc x k hm
    exact ⟨.inr x, T', r, M', e1, e2, hR, fun n hn => ⟨k, by cases hn; exact hm⟩, Or.inr ⟨x, rfl, by rw [e3, h1], by rw [h1]; exact h2⟩⟩
theorem z_and63 (x : Int32) : ∃ j, j < 64 ∧ x &&& 63 = nI j := by
  refine ⟨(x &&& 63).toBitVec.toNat, ?_, ?_⟩
  · show (x.toBitVec &&& (63 : Int32).toBitVec).toNat < 64
    rw [BitVec.toNat_and]
    exact Nat.and_lt_two_pow _ (n := 6) (by decide)
  · refine Int32.toBitVec_inj.mp ?_
    show (x &&& 63).toBitVec = BitVec.ofNat 32 (x &&& 63).toBitVec.toNat
    rw [BitVec.ofNat_toNat, BitVec.setWidth_eq]
