theorem uJ0 : ∀ w ∈ u_ws RJ0 TJ0 4, w ∈ mGood := by decide +kernel
theorem uJ4 : ∀ w ∈ u_ws RJ4 TJ4 4, w ∈ mGood := by decide +kernel
theorem uX1 : ∀ w ∈ u_ws RX1 TX1 4, w ∈ mGood := by decide +kernel
theorem uX2 : ∀ w ∈ u_ws RX2 TX2 4, w ∈ mGood := by decide +kernel
theorem uX4 : ∀ w ∈ u_ws RX4 TX4 5, w ∈ mGood := by decide +kernel
theorem uX6 : ∀ w ∈ u_ws RX6 TX6 9, w ∈ mGood := by decide +kernel
theorem uX7 : ∀ w ∈ u_ws RX7 TX7 3, w ∈ mGood := by decide +kernel
theorem uX8 : ∀ w ∈ u_ws RX8 TX8 12, w ∈ mGood := by decide +kernel
theorem uX9 : ∀ w ∈ u_ws RX9 TX9 21, w ∈ mGood := by decide +kernel
theorem mlL_7 : Cond.methodLink RL 7 yX8_addPlayer ∈ mGood := mGood_in (List.mem_of_getElem? (i := 531) (by decide +kernel)) rfl
theorem ic_X8 : Cond.initialized RX8 ∈ mGood := mGood_in (List.mem_of_getElem? (i := 59) (by decide +kernel)) rfl
theorem cd_X8_addPlayer : Cond.code yX8_addPlayer cX8_addPlayer 2 (some .int) ∈ mGood := mGood_in (List.mem_of_getElem? (i := 534) (by decide +kernel)) rfl
theorem im_X8_addPlayer : Cond.instanceMethod yX8_addPlayer ∈ mGood := mGood_in (List.mem_of_getElem? (i := 532) (by decide +kernel)) rfl
theorem sl_X8_addPlayer : Cond.selects RX8 yX8_addPlayer yX8_addPlayer ∈ mGood := mGood_in (List.mem_of_getElem? (i := 533) (by decide +kernel)) rfl
theorem mlL_83 : Cond.methodLink RL 83 yX8_append ∈ mGood := mGood_in (List.mem_of_getElem? (i := 958) (by decide +kernel)) rfl
theorem cd_X8_append : Cond.code yX8_append cX8_append 2 (some .int) ∈ mGood := mGood_in (List.mem_of_getElem? (i := 961) (by decide +kernel)) rfl
theorem im_X8_append : Cond.instanceMethod yX8_append ∈ mGood := mGood_in (List.mem_of_getElem? (i := 959) (by decide +kernel)) rfl
theorem sl_X8_append : Cond.selects RX8 yX8_append yX8_append ∈ mGood := mGood_in (List.mem_of_getElem? (i := 960) (by decide +kernel)) rfl
theorem mlL_77 : Cond.methodLink RL 77 yX8_crownShare ∈ mGood := mGood_in (List.mem_of_getElem? (i := 948) (by decide +kernel)) rfl
theorem cd_X8_crownShare : Cond.code yX8_crownShare cX8_crownShare 3 (some .float) ∈ mGood := mGood_in (List.mem_of_getElem? (i := 951) (by decide +kernel)) rfl
theorem im_X8_crownShare : Cond.instanceMethod yX8_crownShare ∈ mGood := mGood_in (List.mem_of_getElem? (i := 949) (by decide +kernel)) rfl
theorem sl_X8_crownShare : Cond.selects RX8 yX8_crownShare yX8_crownShare ∈ mGood := mGood_in (List.mem_of_getElem? (i := 950) (by decide +kernel)) rfl
theorem mlL_68 : Cond.methodLink RL 68 yX8_crowns ∈ mGood := mGood_in (List.mem_of_getElem? (i := 895) (by decide +kernel)) rfl
theorem cd_X8_crowns : Cond.code yX8_crowns cX8_crowns 2 (some .int) ∈ mGood := mGood_in (List.mem_of_getElem? (i := 898) (by decide +kernel)) rfl
theorem im_X8_crowns : Cond.instanceMethod yX8_crowns ∈ mGood := mGood_in (List.mem_of_getElem? (i := 896) (by decide +kernel)) rfl
theorem sl_X8_crowns : Cond.selects RX8 yX8_crowns yX8_crowns ∈ mGood := mGood_in (List.mem_of_getElem? (i := 897) (by decide +kernel)) rfl
theorem mlL_97 : Cond.methodLink RL 97 yX8_describeRow ∈ mGood := mGood_in (List.mem_of_getElem? (i := 1352) (by decide +kernel)) rfl
theorem cd_X8_describeRow : Cond.code yX8_describeRow cX8_describeRow 3 (some .int) ∈ mGood := mGood_in (List.mem_of_getElem? (i := 1355) (by decide +kernel)) rfl
theorem im_X8_describeRow : Cond.instanceMethod yX8_describeRow ∈ mGood := mGood_in (List.mem_of_getElem? (i := 1353) (by decide +kernel)) rfl
theorem sl_X8_describeRow : Cond.selects RX8 yX8_describeRow yX8_describeRow ∈ mGood := mGood_in (List.mem_of_getElem? (i := 1354) (by decide +kernel)) rfl
theorem mlL_17 : Cond.methodLink RL 17 yX8_drop ∈ mGood := mGood_in (List.mem_of_getElem? (i := 721) (by decide +kernel)) rfl
theorem cd_X8_drop : Cond.code yX8_drop cX8_drop 4 (some .int) ∈ mGood := mGood_in (List.mem_of_getElem? (i := 724) (by decide +kernel)) rfl
theorem im_X8_drop : Cond.instanceMethod yX8_drop ∈ mGood := mGood_in (List.mem_of_getElem? (i := 722) (by decide +kernel)) rfl
theorem sl_X8_drop : Cond.selects RX8 yX8_drop yX8_drop ∈ mGood := mGood_in (List.mem_of_getElem? (i := 723) (by decide +kernel)) rfl
theorem mlL_91 : Cond.methodLink RL 91 yX8_errorPosition ∈ mGood := mGood_in (List.mem_of_getElem? (i := 1336) (by decide +kernel)) rfl
theorem cd_X8_errorPosition : Cond.code yX8_errorPosition cX8_errorPosition 1 (some .int) ∈ mGood := mGood_in (List.mem_of_getElem? (i := 1339) (by decide +kernel)) rfl
theorem im_X8_errorPosition : Cond.instanceMethod yX8_errorPosition ∈ mGood := mGood_in (List.mem_of_getElem? (i := 1337) (by decide +kernel)) rfl
theorem sl_X8_errorPosition : Cond.selects RX8 yX8_errorPosition yX8_errorPosition ∈ mGood := mGood_in (List.mem_of_getElem? (i := 1338) (by decide +kernel)) rfl
theorem mlL_94 : Cond.methodLink RL 94 yX8_failedCommand ∈ mGood := mGood_in (List.mem_of_getElem? (i := 1344) (by decide +kernel)) rfl
theorem cd_X8_failedCommand : Cond.code yX8_failedCommand cX8_failedCommand 1 (some .int) ∈ mGood := mGood_in (List.mem_of_getElem? (i := 1347) (by decide +kernel)) rfl
theorem im_X8_failedCommand : Cond.instanceMethod yX8_failedCommand ∈ mGood := mGood_in (List.mem_of_getElem? (i := 1345) (by decide +kernel)) rfl
theorem sl_X8_failedCommand : Cond.selects RX8 yX8_failedCommand yX8_failedCommand ∈ mGood := mGood_in (List.mem_of_getElem? (i := 1346) (by decide +kernel)) rfl
theorem mlL_34 : Cond.methodLink RL 34 yX8_hand ∈ mGood := mGood_in (List.mem_of_getElem? (i := 785) (by decide +kernel)) rfl
theorem cd_X8_hand : Cond.code yX8_hand cX8_hand 2 (some .int) ∈ mGood := mGood_in (List.mem_of_getElem? (i := 788) (by decide +kernel)) rfl
theorem im_X8_hand : Cond.instanceMethod yX8_hand ∈ mGood := mGood_in (List.mem_of_getElem? (i := 786) (by decide +kernel)) rfl
theorem sl_X8_hand : Cond.selects RX8 yX8_hand yX8_hand ∈ mGood := mGood_in (List.mem_of_getElem? (i := 787) (by decide +kernel)) rfl
theorem mlL_43 : Cond.methodLink RL 43 yX8_height ∈ mGood := mGood_in (List.mem_of_getElem? (i := 820) (by decide +kernel)) rfl
theorem cd_X8_height : Cond.code yX8_height cX8_height 2 (some .int) ∈ mGood := mGood_in (List.mem_of_getElem? (i := 823) (by decide +kernel)) rfl
theorem im_X8_height : Cond.instanceMethod yX8_height ∈ mGood := mGood_in (List.mem_of_getElem? (i := 821) (by decide +kernel)) rfl
theorem sl_X8_height : Cond.selects RX8 yX8_height yX8_height ∈ mGood := mGood_in (List.mem_of_getElem? (i := 822) (by decide +kernel)) rfl
theorem mlL_61 : Cond.methodLink RL 61 yX8_isPeak ∈ mGood := mGood_in (List.mem_of_getElem? (i := 875) (by decide +kernel)) rfl
theorem cd_X8_isPeak : Cond.code yX8_isPeak cX8_isPeak 2 (some .boolean) ∈ mGood := mGood_in (List.mem_of_getElem? (i := 878) (by decide +kernel)) rfl
theorem im_X8_isPeak : Cond.instanceMethod yX8_isPeak ∈ mGood := mGood_in (List.mem_of_getElem? (i := 876) (by decide +kernel)) rfl
theorem sl_X8_isPeak : Cond.selects RX8 yX8_isPeak yX8_isPeak ∈ mGood := mGood_in (List.mem_of_getElem? (i := 877) (by decide +kernel)) rfl
theorem mlL_123 : Cond.methodLink RL 123 yX9_addPlayer ∈ mGood := mGood_in (List.mem_of_getElem? (i := 1469) (by decide +kernel)) rfl
theorem ic_X9 : Cond.initialized RX9 ∈ mGood := mGood_in (List.mem_of_getElem? (i := 71) (by decide +kernel)) rfl
theorem cd_X9_addPlayer : Cond.code yX9_addPlayer cX9_addPlayer 2 (some .int) ∈ mGood := mGood_in (List.mem_of_getElem? (i := 1472) (by decide +kernel)) rfl
theorem im_X9_addPlayer : Cond.instanceMethod yX9_addPlayer ∈ mGood := mGood_in (List.mem_of_getElem? (i := 1470) (by decide +kernel)) rfl
theorem sl_X9_addPlayer : Cond.selects RX9 yX9_addPlayer yX9_addPlayer ∈ mGood := mGood_in (List.mem_of_getElem? (i := 1471) (by decide +kernel)) rfl
theorem mlL_124 : Cond.methodLink RL 124 yX9_thrown ∈ mGood := mGood_in (List.mem_of_getElem? (i := 1465) (by decide +kernel)) rfl
theorem cd_X9_thrown : Cond.code yX9_thrown cX9_thrown 1 (some .int) ∈ mGood := mGood_in (List.mem_of_getElem? (i := 1468) (by decide +kernel)) rfl
theorem im_X9_thrown : Cond.instanceMethod yX9_thrown ∈ mGood := mGood_in (List.mem_of_getElem? (i := 1466) (by decide +kernel)) rfl
theorem sl_X9_thrown : Cond.selects RX9 yX9_thrown yX9_thrown ∈ mGood := mGood_in (List.mem_of_getElem? (i := 1467) (by decide +kernel)) rfl
theorem mlL_130 : Cond.methodLink RL 130 yX9_drop ∈ mGood := mGood_in (List.mem_of_getElem? (i := 1495) (by decide +kernel)) rfl
theorem cd_X9_drop : Cond.code yX9_drop cX9_drop 4 (some .int) ∈ mGood := mGood_in (List.mem_of_getElem? (i := 1498) (by decide +kernel)) rfl
theorem im_X9_drop : Cond.instanceMethod yX9_drop ∈ mGood := mGood_in (List.mem_of_getElem? (i := 1496) (by decide +kernel)) rfl
theorem sl_X9_drop : Cond.selects RX9 yX9_drop yX9_drop ∈ mGood := mGood_in (List.mem_of_getElem? (i := 1497) (by decide +kernel)) rfl
theorem mlL_134 : Cond.methodLink RL 134 yX9_pile ∈ mGood := mGood_in (List.mem_of_getElem? (i := 1553) (by decide +kernel)) rfl
theorem cd_X9_pile : Cond.code yX9_pile cX9_pile 3 (some .int) ∈ mGood := mGood_in (List.mem_of_getElem? (i := 1556) (by decide +kernel)) rfl
theorem im_X9_pile : Cond.instanceMethod yX9_pile ∈ mGood := mGood_in (List.mem_of_getElem? (i := 1554) (by decide +kernel)) rfl
theorem sl_X9_pile : Cond.selects RX9 yX9_pile yX9_pile ∈ mGood := mGood_in (List.mem_of_getElem? (i := 1555) (by decide +kernel)) rfl
theorem mlL_137 : Cond.methodLink RL 137 yX9_take ∈ mGood := mGood_in (List.mem_of_getElem? (i := 1561) (by decide +kernel)) rfl
theorem cd_X9_take : Cond.code yX9_take cX9_take 3 (some .int) ∈ mGood := mGood_in (List.mem_of_getElem? (i := 1564) (by decide +kernel)) rfl
theorem im_X9_take : Cond.instanceMethod yX9_take ∈ mGood := mGood_in (List.mem_of_getElem? (i := 1562) (by decide +kernel)) rfl
theorem sl_X9_take : Cond.selects RX9 yX9_take yX9_take ∈ mGood := mGood_in (List.mem_of_getElem? (i := 1563) (by decide +kernel)) rfl
theorem mlL_138 : Cond.methodLink RL 138 yX8_skip ∈ mGood := mGood_in (List.mem_of_getElem? (i := 319) (by decide +kernel)) rfl
theorem cd_X8_skip : Cond.code yX8_skip cX8_skip 1 (some .int) ∈ mGood := mGood_in (List.mem_of_getElem? (i := 322) (by decide +kernel)) rfl
theorem im_X8_skip : Cond.instanceMethod yX8_skip ∈ mGood := mGood_in (List.mem_of_getElem? (i := 320) (by decide +kernel)) rfl
theorem sl_X8_skip : Cond.selects RX8 yX8_skip yX8_skip ∈ mGood := mGood_in (List.mem_of_getElem? (i := 321) (by decide +kernel)) rfl
theorem mlL_141 : Cond.methodLink RL 141 yX9_skip ∈ mGood := mGood_in (List.mem_of_getElem? (i := 1569) (by decide +kernel)) rfl
theorem cd_X9_skip : Cond.code yX9_skip cX9_skip 1 (some .int) ∈ mGood := mGood_in (List.mem_of_getElem? (i := 1572) (by decide +kernel)) rfl
theorem im_X9_skip : Cond.instanceMethod yX9_skip ∈ mGood := mGood_in (List.mem_of_getElem? (i := 1570) (by decide +kernel)) rfl
theorem sl_X9_skip : Cond.selects RX9 yX9_skip yX9_skip ∈ mGood := mGood_in (List.mem_of_getElem? (i := 1571) (by decide +kernel)) rfl
theorem mlL_142 : Cond.methodLink RL 142 yX8_playerCount ∈ mGood := mGood_in (List.mem_of_getElem? (i := 347) (by decide +kernel)) rfl
theorem cd_X8_playerCount : Cond.code yX8_playerCount cX8_playerCount 1 (some .int) ∈ mGood := mGood_in (List.mem_of_getElem? (i := 350) (by decide +kernel)) rfl
theorem im_X8_playerCount : Cond.instanceMethod yX8_playerCount ∈ mGood := mGood_in (List.mem_of_getElem? (i := 348) (by decide +kernel)) rfl
theorem sl_X8_playerCount : Cond.selects RX8 yX8_playerCount yX8_playerCount ∈ mGood := mGood_in (List.mem_of_getElem? (i := 349) (by decide +kernel)) rfl
theorem mlL_145 : Cond.methodLink RL 145 yX9_playerCount ∈ mGood := mGood_in (List.mem_of_getElem? (i := 1589) (by decide +kernel)) rfl
theorem cd_X9_playerCount : Cond.code yX9_playerCount cX9_playerCount 1 (some .int) ∈ mGood := mGood_in (List.mem_of_getElem? (i := 1592) (by decide +kernel)) rfl
theorem im_X9_playerCount : Cond.instanceMethod yX9_playerCount ∈ mGood := mGood_in (List.mem_of_getElem? (i := 1590) (by decide +kernel)) rfl
theorem sl_X9_playerCount : Cond.selects RX9 yX9_playerCount yX9_playerCount ∈ mGood := mGood_in (List.mem_of_getElem? (i := 1591) (by decide +kernel)) rfl
theorem mlL_148 : Cond.methodLink RL 148 yX9_hand ∈ mGood := mGood_in (List.mem_of_getElem? (i := 1593) (by decide +kernel)) rfl
theorem cd_X9_hand : Cond.code yX9_hand cX9_hand 2 (some .int) ∈ mGood := mGood_in (List.mem_of_getElem? (i := 1596) (by decide +kernel)) rfl
theorem im_X9_hand : Cond.instanceMethod yX9_hand ∈ mGood := mGood_in (List.mem_of_getElem? (i := 1594) (by decide +kernel)) rfl
theorem sl_X9_hand : Cond.selects RX9 yX9_hand yX9_hand ∈ mGood := mGood_in (List.mem_of_getElem? (i := 1595) (by decide +kernel)) rfl
theorem mlL_151 : Cond.methodLink RL 151 yX9_rest ∈ mGood := mGood_in (List.mem_of_getElem? (i := 1597) (by decide +kernel)) rfl
theorem cd_X9_rest : Cond.code yX9_rest cX9_rest 2 (some .int) ∈ mGood := mGood_in (List.mem_of_getElem? (i := 1600) (by decide +kernel)) rfl
theorem im_X9_rest : Cond.instanceMethod yX9_rest ∈ mGood := mGood_in (List.mem_of_getElem? (i := 1598) (by decide +kernel)) rfl
theorem sl_X9_rest : Cond.selects RX9 yX9_rest yX9_rest ∈ mGood := mGood_in (List.mem_of_getElem? (i := 1599) (by decide +kernel)) rfl
theorem mlL_154 : Cond.methodLink RL 154 yX9_setSlope ∈ mGood := mGood_in (List.mem_of_getElem? (i := 1573) (by decide +kernel)) rfl
theorem cd_X9_setSlope : Cond.code yX9_setSlope cX9_setSlope 2 (some .int) ∈ mGood := mGood_in (List.mem_of_getElem? (i := 1576) (by decide +kernel)) rfl
theorem im_X9_setSlope : Cond.instanceMethod yX9_setSlope ∈ mGood := mGood_in (List.mem_of_getElem? (i := 1574) (by decide +kernel)) rfl
theorem sl_X9_setSlope : Cond.selects RX9 yX9_setSlope yX9_setSlope ∈ mGood := mGood_in (List.mem_of_getElem? (i := 1575) (by decide +kernel)) rfl
theorem mlL_155 : Cond.methodLink RL 155 yX8_setBorder ∈ mGood := mGood_in (List.mem_of_getElem? (i := 351) (by decide +kernel)) rfl
theorem cd_X8_setBorder : Cond.code yX8_setBorder cX8_setBorder 3 (some .boolean) ∈ mGood := mGood_in (List.mem_of_getElem? (i := 354) (by decide +kernel)) rfl
theorem im_X8_setBorder : Cond.instanceMethod yX8_setBorder ∈ mGood := mGood_in (List.mem_of_getElem? (i := 352) (by decide +kernel)) rfl
theorem sl_X8_setBorder : Cond.selects RX8 yX8_setBorder yX8_setBorder ∈ mGood := mGood_in (List.mem_of_getElem? (i := 353) (by decide +kernel)) rfl
theorem mlL_159 : Cond.methodLink RL 159 yX9_setBorder ∈ mGood := mGood_in (List.mem_of_getElem? (i := 1581) (by decide +kernel)) rfl
theorem cd_X9_setBorder : Cond.code yX9_setBorder cX9_setBorder 2 (some .boolean) ∈ mGood := mGood_in (List.mem_of_getElem? (i := 1584) (by decide +kernel)) rfl
theorem im_X9_setBorder : Cond.instanceMethod yX9_setBorder ∈ mGood := mGood_in (List.mem_of_getElem? (i := 1582) (by decide +kernel)) rfl
theorem sl_X9_setBorder : Cond.selects RX9 yX9_setBorder yX9_setBorder ∈ mGood := mGood_in (List.mem_of_getElem? (i := 1583) (by decide +kernel)) rfl
theorem mlL_160 : Cond.methodLink RL 160 yX8_criticalSlope ∈ mGood := mGood_in (List.mem_of_getElem? (i := 397) (by decide +kernel)) rfl
theorem cd_X8_criticalSlope : Cond.code yX8_criticalSlope cX8_criticalSlope 1 (some .int) ∈ mGood := mGood_in (List.mem_of_getElem? (i := 400) (by decide +kernel)) rfl
theorem im_X8_criticalSlope : Cond.instanceMethod yX8_criticalSlope ∈ mGood := mGood_in (List.mem_of_getElem? (i := 398) (by decide +kernel)) rfl
theorem sl_X8_criticalSlope : Cond.selects RX8 yX8_criticalSlope yX8_criticalSlope ∈ mGood := mGood_in (List.mem_of_getElem? (i := 399) (by decide +kernel)) rfl
theorem mlL_163 : Cond.methodLink RL 163 yX9_criticalSlope ∈ mGood := mGood_in (List.mem_of_getElem? (i := 1601) (by decide +kernel)) rfl
theorem cd_X9_criticalSlope : Cond.code yX9_criticalSlope cX9_criticalSlope 1 (some .int) ∈ mGood := mGood_in (List.mem_of_getElem? (i := 1604) (by decide +kernel)) rfl
theorem im_X9_criticalSlope : Cond.instanceMethod yX9_criticalSlope ∈ mGood := mGood_in (List.mem_of_getElem? (i := 1602) (by decide +kernel)) rfl
theorem sl_X9_criticalSlope : Cond.selects RX9 yX9_criticalSlope yX9_criticalSlope ∈ mGood := mGood_in (List.mem_of_getElem? (i := 1603) (by decide +kernel)) rfl
theorem mlL_164 : Cond.methodLink RL 164 yX8_isBorderOpen ∈ mGood := mGood_in (List.mem_of_getElem? (i := 401) (by decide +kernel)) rfl
theorem cd_X8_isBorderOpen : Cond.code yX8_isBorderOpen cX8_isBorderOpen 1 (some .boolean) ∈ mGood := mGood_in (List.mem_of_getElem? (i := 404) (by decide +kernel)) rfl
theorem im_X8_isBorderOpen : Cond.instanceMethod yX8_isBorderOpen ∈ mGood := mGood_in (List.mem_of_getElem? (i := 402) (by decide +kernel)) rfl
theorem sl_X8_isBorderOpen : Cond.selects RX8 yX8_isBorderOpen yX8_isBorderOpen ∈ mGood := mGood_in (List.mem_of_getElem? (i := 403) (by decide +kernel)) rfl
theorem mlL_168 : Cond.methodLink RL 168 yX9_isBorderOpen ∈ mGood := mGood_in (List.mem_of_getElem? (i := 1605) (by decide +kernel)) rfl
theorem cd_X9_isBorderOpen : Cond.code yX9_isBorderOpen cX9_isBorderOpen 1 (some .boolean) ∈ mGood := mGood_in (List.mem_of_getElem? (i := 1608) (by decide +kernel)) rfl
theorem im_X9_isBorderOpen : Cond.instanceMethod yX9_isBorderOpen ∈ mGood := mGood_in (List.mem_of_getElem? (i := 1606) (by decide +kernel)) rfl
theorem sl_X9_isBorderOpen : Cond.selects RX9 yX9_isBorderOpen yX9_isBorderOpen ∈ mGood := mGood_in (List.mem_of_getElem? (i := 1607) (by decide +kernel)) rfl
theorem mlL_171 : Cond.methodLink RL 171 yX9_height ∈ mGood := mGood_in (List.mem_of_getElem? (i := 1609) (by decide +kernel)) rfl
theorem cd_X9_height : Cond.code yX9_height cX9_height 2 (some .int) ∈ mGood := mGood_in (List.mem_of_getElem? (i := 1612) (by decide +kernel)) rfl
theorem im_X9_height : Cond.instanceMethod yX9_height ∈ mGood := mGood_in (List.mem_of_getElem? (i := 1610) (by decide +kernel)) rfl
theorem sl_X9_height : Cond.selects RX9 yX9_height yX9_height ∈ mGood := mGood_in (List.mem_of_getElem? (i := 1611) (by decide +kernel)) rfl
theorem mlL_174 : Cond.methodLink RL 174 yX9_owner ∈ mGood := mGood_in (List.mem_of_getElem? (i := 1613) (by decide +kernel)) rfl
theorem cd_X9_owner : Cond.code yX9_owner cX9_owner 2 (some .int) ∈ mGood := mGood_in (List.mem_of_getElem? (i := 1616) (by decide +kernel)) rfl
theorem im_X9_owner : Cond.instanceMethod yX9_owner ∈ mGood := mGood_in (List.mem_of_getElem? (i := 1614) (by decide +kernel)) rfl
theorem sl_X9_owner : Cond.selects RX9 yX9_owner yX9_owner ∈ mGood := mGood_in (List.mem_of_getElem? (i := 1615) (by decide +kernel)) rfl
theorem mlL_177 : Cond.methodLink RL 177 yX9_steepness ∈ mGood := mGood_in (List.mem_of_getElem? (i := 1617) (by decide +kernel)) rfl
theorem cd_X9_steepness : Cond.code yX9_steepness cX9_steepness 2 (some .int) ∈ mGood := mGood_in (List.mem_of_getElem? (i := 1620) (by decide +kernel)) rfl
theorem im_X9_steepness : Cond.instanceMethod yX9_steepness ∈ mGood := mGood_in (List.mem_of_getElem? (i := 1618) (by decide +kernel)) rfl
theorem sl_X9_steepness : Cond.selects RX9 yX9_steepness yX9_steepness ∈ mGood := mGood_in (List.mem_of_getElem? (i := 1619) (by decide +kernel)) rfl
theorem mlL_180 : Cond.methodLink RL 180 yX9_lowestNeighbour ∈ mGood := mGood_in (List.mem_of_getElem? (i := 1621) (by decide +kernel)) rfl
theorem cd_X9_lowestNeighbour : Cond.code yX9_lowestNeighbour cX9_lowestNeighbour 2 (some .int) ∈ mGood := mGood_in (List.mem_of_getElem? (i := 1624) (by decide +kernel)) rfl
theorem im_X9_lowestNeighbour : Cond.instanceMethod yX9_lowestNeighbour ∈ mGood := mGood_in (List.mem_of_getElem? (i := 1622) (by decide +kernel)) rfl
theorem sl_X9_lowestNeighbour : Cond.selects RX9 yX9_lowestNeighbour yX9_lowestNeighbour ∈ mGood := mGood_in (List.mem_of_getElem? (i := 1623) (by decide +kernel)) rfl
theorem mlL_181 : Cond.methodLink RL 181 yX8_stonesOnHill ∈ mGood := mGood_in (List.mem_of_getElem? (i := 405) (by decide +kernel)) rfl
theorem cd_X8_stonesOnHill : Cond.code yX8_stonesOnHill cX8_stonesOnHill 1 (some .int) ∈ mGood := mGood_in (List.mem_of_getElem? (i := 408) (by decide +kernel)) rfl
theorem im_X8_stonesOnHill : Cond.instanceMethod yX8_stonesOnHill ∈ mGood := mGood_in (List.mem_of_getElem? (i := 406) (by decide +kernel)) rfl
theorem sl_X8_stonesOnHill : Cond.selects RX8 yX8_stonesOnHill yX8_stonesOnHill ∈ mGood := mGood_in (List.mem_of_getElem? (i := 407) (by decide +kernel)) rfl
theorem mlL_184 : Cond.methodLink RL 184 yX9_stonesOnHill ∈ mGood := mGood_in (List.mem_of_getElem? (i := 1625) (by decide +kernel)) rfl
theorem cd_X9_stonesOnHill : Cond.code yX9_stonesOnHill cX9_stonesOnHill 1 (some .int) ∈ mGood := mGood_in (List.mem_of_getElem? (i := 1628) (by decide +kernel)) rfl
theorem im_X9_stonesOnHill : Cond.instanceMethod yX9_stonesOnHill ∈ mGood := mGood_in (List.mem_of_getElem? (i := 1626) (by decide +kernel)) rfl
theorem sl_X9_stonesOnHill : Cond.selects RX9 yX9_stonesOnHill yX9_stonesOnHill ∈ mGood := mGood_in (List.mem_of_getElem? (i := 1627) (by decide +kernel)) rfl
theorem mlL_185 : Cond.methodLink RL 185 yX8_stonesByLevels ∈ mGood := mGood_in (List.mem_of_getElem? (i := 413) (by decide +kernel)) rfl
theorem cd_X8_stonesByLevels : Cond.code yX8_stonesByLevels cX8_stonesByLevels 1 (some .int) ∈ mGood := mGood_in (List.mem_of_getElem? (i := 416) (by decide +kernel)) rfl
theorem im_X8_stonesByLevels : Cond.instanceMethod yX8_stonesByLevels ∈ mGood := mGood_in (List.mem_of_getElem? (i := 414) (by decide +kernel)) rfl
theorem sl_X8_stonesByLevels : Cond.selects RX8 yX8_stonesByLevels yX8_stonesByLevels ∈ mGood := mGood_in (List.mem_of_getElem? (i := 415) (by decide +kernel)) rfl
theorem mlL_188 : Cond.methodLink RL 188 yX9_stonesByLevels ∈ mGood := mGood_in (List.mem_of_getElem? (i := 1629) (by decide +kernel)) rfl
theorem cd_X9_stonesByLevels : Cond.code yX9_stonesByLevels cX9_stonesByLevels 1 (some .int) ∈ mGood := mGood_in (List.mem_of_getElem? (i := 1632) (by decide +kernel)) rfl
theorem im_X9_stonesByLevels : Cond.instanceMethod yX9_stonesByLevels ∈ mGood := mGood_in (List.mem_of_getElem? (i := 1630) (by decide +kernel)) rfl
theorem sl_X9_stonesByLevels : Cond.selects RX9 yX9_stonesByLevels yX9_stonesByLevels ∈ mGood := mGood_in (List.mem_of_getElem? (i := 1631) (by decide +kernel)) rfl
theorem mlL_189 : Cond.methodLink RL 189 yX8_highestCell ∈ mGood := mGood_in (List.mem_of_getElem? (i := 425) (by decide +kernel)) rfl
theorem cd_X8_highestCell : Cond.code yX8_highestCell cX8_highestCell 1 (some .int) ∈ mGood := mGood_in (List.mem_of_getElem? (i := 428) (by decide +kernel)) rfl
theorem im_X8_highestCell : Cond.instanceMethod yX8_highestCell ∈ mGood := mGood_in (List.mem_of_getElem? (i := 426) (by decide +kernel)) rfl
theorem sl_X8_highestCell : Cond.selects RX8 yX8_highestCell yX8_highestCell ∈ mGood := mGood_in (List.mem_of_getElem? (i := 427) (by decide +kernel)) rfl
theorem mlL_192 : Cond.methodLink RL 192 yX9_highestCell ∈ mGood := mGood_in (List.mem_of_getElem? (i := 1633) (by decide +kernel)) rfl
theorem cd_X9_highestCell : Cond.code yX9_highestCell cX9_highestCell 3 (some .int) ∈ mGood := mGood_in (List.mem_of_getElem? (i := 1636) (by decide +kernel)) rfl
theorem im_X9_highestCell : Cond.instanceMethod yX9_highestCell ∈ mGood := mGood_in (List.mem_of_getElem? (i := 1634) (by decide +kernel)) rfl
theorem sl_X9_highestCell : Cond.selects RX9 yX9_highestCell yX9_highestCell ∈ mGood := mGood_in (List.mem_of_getElem? (i := 1635) (by decide +kernel)) rfl
theorem mlL_195 : Cond.methodLink RL 195 yX9_topplesIf ∈ mGood := mGood_in (List.mem_of_getElem? (i := 1637) (by decide +kernel)) rfl
theorem cd_X9_topplesIf : Cond.code yX9_topplesIf cX9_topplesIf 4 (some .int) ∈ mGood := mGood_in (List.mem_of_getElem? (i := 1640) (by decide +kernel)) rfl
theorem im_X9_topplesIf : Cond.instanceMethod yX9_topplesIf ∈ mGood := mGood_in (List.mem_of_getElem? (i := 1638) (by decide +kernel)) rfl
theorem sl_X9_topplesIf : Cond.selects RX9 yX9_topplesIf yX9_topplesIf ∈ mGood := mGood_in (List.mem_of_getElem? (i := 1639) (by decide +kernel)) rfl
theorem mlL_198 : Cond.methodLink RL 198 yX9_topplesIfByScan ∈ mGood := mGood_in (List.mem_of_getElem? (i := 1641) (by decide +kernel)) rfl
theorem cd_X9_topplesIfByScan : Cond.code yX9_topplesIfByScan cX9_topplesIfByScan 3 (some .int) ∈ mGood := mGood_in (List.mem_of_getElem? (i := 1644) (by decide +kernel)) rfl
theorem im_X9_topplesIfByScan : Cond.instanceMethod yX9_topplesIfByScan ∈ mGood := mGood_in (List.mem_of_getElem? (i := 1642) (by decide +kernel)) rfl
theorem sl_X9_topplesIfByScan : Cond.selects RX9 yX9_topplesIfByScan yX9_topplesIfByScan ∈ mGood := mGood_in (List.mem_of_getElem? (i := 1643) (by decide +kernel)) rfl
theorem mlL_201 : Cond.methodLink RL 201 yX9_isPeak ∈ mGood := mGood_in (List.mem_of_getElem? (i := 1646) (by decide +kernel)) rfl
theorem cd_X9_isPeak : Cond.code yX9_isPeak cX9_isPeak 2 (some .boolean) ∈ mGood := mGood_in (List.mem_of_getElem? (i := 1649) (by decide +kernel)) rfl
theorem im_X9_isPeak : Cond.instanceMethod yX9_isPeak ∈ mGood := mGood_in (List.mem_of_getElem? (i := 1647) (by decide +kernel)) rfl
theorem sl_X9_isPeak : Cond.selects RX9 yX9_isPeak yX9_isPeak ∈ mGood := mGood_in (List.mem_of_getElem? (i := 1648) (by decide +kernel)) rfl
theorem mlL_202 : Cond.methodLink RL 202 yX8_peakCount ∈ mGood := mGood_in (List.mem_of_getElem? (i := 430) (by decide +kernel)) rfl
theorem cd_X8_peakCount : Cond.code yX8_peakCount cX8_peakCount 1 (some .int) ∈ mGood := mGood_in (List.mem_of_getElem? (i := 433) (by decide +kernel)) rfl
theorem im_X8_peakCount : Cond.instanceMethod yX8_peakCount ∈ mGood := mGood_in (List.mem_of_getElem? (i := 431) (by decide +kernel)) rfl
theorem sl_X8_peakCount : Cond.selects RX8 yX8_peakCount yX8_peakCount ∈ mGood := mGood_in (List.mem_of_getElem? (i := 432) (by decide +kernel)) rfl
theorem mlL_205 : Cond.methodLink RL 205 yX9_peakCount ∈ mGood := mGood_in (List.mem_of_getElem? (i := 1654) (by decide +kernel)) rfl
theorem cd_X9_peakCount : Cond.code yX9_peakCount cX9_peakCount 1 (some .int) ∈ mGood := mGood_in (List.mem_of_getElem? (i := 1657) (by decide +kernel)) rfl
theorem im_X9_peakCount : Cond.instanceMethod yX9_peakCount ∈ mGood := mGood_in (List.mem_of_getElem? (i := 1655) (by decide +kernel)) rfl
theorem sl_X9_peakCount : Cond.selects RX9 yX9_peakCount yX9_peakCount ∈ mGood := mGood_in (List.mem_of_getElem? (i := 1656) (by decide +kernel)) rfl
theorem mlL_208 : Cond.methodLink RL 208 yX9_peakAt ∈ mGood := mGood_in (List.mem_of_getElem? (i := 1662) (by decide +kernel)) rfl
theorem cd_X9_peakAt : Cond.code yX9_peakAt cX9_peakAt 5 (some .int) ∈ mGood := mGood_in (List.mem_of_getElem? (i := 1665) (by decide +kernel)) rfl
theorem im_X9_peakAt : Cond.instanceMethod yX9_peakAt ∈ mGood := mGood_in (List.mem_of_getElem? (i := 1663) (by decide +kernel)) rfl
theorem sl_X9_peakAt : Cond.selects RX9 yX9_peakAt yX9_peakAt ∈ mGood := mGood_in (List.mem_of_getElem? (i := 1664) (by decide +kernel)) rfl
theorem mlL_211 : Cond.methodLink RL 211 yX9_crowns ∈ mGood := mGood_in (List.mem_of_getElem? (i := 1666) (by decide +kernel)) rfl
theorem cd_X9_crowns : Cond.code yX9_crowns cX9_crowns 2 (some .int) ∈ mGood := mGood_in (List.mem_of_getElem? (i := 1669) (by decide +kernel)) rfl
theorem im_X9_crowns : Cond.instanceMethod yX9_crowns ∈ mGood := mGood_in (List.mem_of_getElem? (i := 1667) (by decide +kernel)) rfl
theorem sl_X9_crowns : Cond.selects RX9 yX9_crowns yX9_crowns ∈ mGood := mGood_in (List.mem_of_getElem? (i := 1668) (by decide +kernel)) rfl
theorem mlL_214 : Cond.methodLink RL 214 yX9_score ∈ mGood := mGood_in (List.mem_of_getElem? (i := 1674) (by decide +kernel)) rfl
theorem cd_X9_score : Cond.code yX9_score cX9_score 2 (some .int) ∈ mGood := mGood_in (List.mem_of_getElem? (i := 1677) (by decide +kernel)) rfl
theorem im_X9_score : Cond.instanceMethod yX9_score ∈ mGood := mGood_in (List.mem_of_getElem? (i := 1675) (by decide +kernel)) rfl
theorem sl_X9_score : Cond.selects RX9 yX9_score yX9_score ∈ mGood := mGood_in (List.mem_of_getElem? (i := 1676) (by decide +kernel)) rfl
theorem mlL_217 : Cond.methodLink RL 217 yX9_playerAtRank ∈ mGood := mGood_in (List.mem_of_getElem? (i := 1678) (by decide +kernel)) rfl
theorem cd_X9_playerAtRank : Cond.code yX9_playerAtRank cX9_playerAtRank 6 (some .int) ∈ mGood := mGood_in (List.mem_of_getElem? (i := 1681) (by decide +kernel)) rfl
theorem im_X9_playerAtRank : Cond.instanceMethod yX9_playerAtRank ∈ mGood := mGood_in (List.mem_of_getElem? (i := 1679) (by decide +kernel)) rfl
theorem sl_X9_playerAtRank : Cond.selects RX9 yX9_playerAtRank yX9_playerAtRank ∈ mGood := mGood_in (List.mem_of_getElem? (i := 1680) (by decide +kernel)) rfl
theorem mlL_221 : Cond.methodLink RL 221 yX9_crownShare ∈ mGood := mGood_in (List.mem_of_getElem? (i := 1682) (by decide +kernel)) rfl
theorem cd_X9_crownShare : Cond.code yX9_crownShare cX9_crownShare 2 (some .float) ∈ mGood := mGood_in (List.mem_of_getElem? (i := 1685) (by decide +kernel)) rfl
theorem im_X9_crownShare : Cond.instanceMethod yX9_crownShare ∈ mGood := mGood_in (List.mem_of_getElem? (i := 1683) (by decide +kernel)) rfl
theorem sl_X9_crownShare : Cond.selects RX9 yX9_crownShare yX9_crownShare ∈ mGood := mGood_in (List.mem_of_getElem? (i := 1684) (by decide +kernel)) rfl
theorem mlL_222 : Cond.methodLink RL 222 yX8_toppleTotal ∈ mGood := mGood_in (List.mem_of_getElem? (i := 442) (by decide +kernel)) rfl
theorem cd_X8_toppleTotal : Cond.code yX8_toppleTotal cX8_toppleTotal 1 (some .int) ∈ mGood := mGood_in (List.mem_of_getElem? (i := 445) (by decide +kernel)) rfl
theorem im_X8_toppleTotal : Cond.instanceMethod yX8_toppleTotal ∈ mGood := mGood_in (List.mem_of_getElem? (i := 443) (by decide +kernel)) rfl
theorem sl_X8_toppleTotal : Cond.selects RX8 yX8_toppleTotal yX8_toppleTotal ∈ mGood := mGood_in (List.mem_of_getElem? (i := 444) (by decide +kernel)) rfl
theorem mlL_225 : Cond.methodLink RL 225 yX9_toppleTotal ∈ mGood := mGood_in (List.mem_of_getElem? (i := 1686) (by decide +kernel)) rfl
theorem cd_X9_toppleTotal : Cond.code yX9_toppleTotal cX9_toppleTotal 1 (some .int) ∈ mGood := mGood_in (List.mem_of_getElem? (i := 1689) (by decide +kernel)) rfl
theorem im_X9_toppleTotal : Cond.instanceMethod yX9_toppleTotal ∈ mGood := mGood_in (List.mem_of_getElem? (i := 1687) (by decide +kernel)) rfl
theorem sl_X9_toppleTotal : Cond.selects RX9 yX9_toppleTotal yX9_toppleTotal ∈ mGood := mGood_in (List.mem_of_getElem? (i := 1688) (by decide +kernel)) rfl
theorem mlL_226 : Cond.methodLink RL 226 yX8_avalancheCount ∈ mGood := mGood_in (List.mem_of_getElem? (i := 446) (by decide +kernel)) rfl
theorem cd_X8_avalancheCount : Cond.code yX8_avalancheCount cX8_avalancheCount 1 (some .int) ∈ mGood := mGood_in (List.mem_of_getElem? (i := 449) (by decide +kernel)) rfl
theorem im_X8_avalancheCount : Cond.instanceMethod yX8_avalancheCount ∈ mGood := mGood_in (List.mem_of_getElem? (i := 447) (by decide +kernel)) rfl
theorem sl_X8_avalancheCount : Cond.selects RX8 yX8_avalancheCount yX8_avalancheCount ∈ mGood := mGood_in (List.mem_of_getElem? (i := 448) (by decide +kernel)) rfl
theorem mlL_229 : Cond.methodLink RL 229 yX9_avalancheCount ∈ mGood := mGood_in (List.mem_of_getElem? (i := 1694) (by decide +kernel)) rfl
theorem cd_X9_avalancheCount : Cond.code yX9_avalancheCount cX9_avalancheCount 1 (some .int) ∈ mGood := mGood_in (List.mem_of_getElem? (i := 1697) (by decide +kernel)) rfl
theorem im_X9_avalancheCount : Cond.instanceMethod yX9_avalancheCount ∈ mGood := mGood_in (List.mem_of_getElem? (i := 1695) (by decide +kernel)) rfl
theorem sl_X9_avalancheCount : Cond.selects RX9 yX9_avalancheCount yX9_avalancheCount ∈ mGood := mGood_in (List.mem_of_getElem? (i := 1696) (by decide +kernel)) rfl
theorem mlL_230 : Cond.methodLink RL 230 yX8_largestAvalanche ∈ mGood := mGood_in (List.mem_of_getElem? (i := 450) (by decide +kernel)) rfl
theorem cd_X8_largestAvalanche : Cond.code yX8_largestAvalanche cX8_largestAvalanche 1 (some .int) ∈ mGood := mGood_in (List.mem_of_getElem? (i := 453) (by decide +kernel)) rfl
theorem im_X8_largestAvalanche : Cond.instanceMethod yX8_largestAvalanche ∈ mGood := mGood_in (List.mem_of_getElem? (i := 451) (by decide +kernel)) rfl
theorem sl_X8_largestAvalanche : Cond.selects RX8 yX8_largestAvalanche yX8_largestAvalanche ∈ mGood := mGood_in (List.mem_of_getElem? (i := 452) (by decide +kernel)) rfl
theorem mlL_233 : Cond.methodLink RL 233 yX9_largestAvalanche ∈ mGood := mGood_in (List.mem_of_getElem? (i := 1698) (by decide +kernel)) rfl
theorem cd_X9_largestAvalanche : Cond.code yX9_largestAvalanche cX9_largestAvalanche 1 (some .int) ∈ mGood := mGood_in (List.mem_of_getElem? (i := 1701) (by decide +kernel)) rfl
theorem im_X9_largestAvalanche : Cond.instanceMethod yX9_largestAvalanche ∈ mGood := mGood_in (List.mem_of_getElem? (i := 1699) (by decide +kernel)) rfl
theorem sl_X9_largestAvalanche : Cond.selects RX9 yX9_largestAvalanche yX9_largestAvalanche ∈ mGood := mGood_in (List.mem_of_getElem? (i := 1700) (by decide +kernel)) rfl
theorem mlL_234 : Cond.methodLink RL 234 yX8_placedTotal ∈ mGood := mGood_in (List.mem_of_getElem? (i := 454) (by decide +kernel)) rfl
theorem cd_X8_placedTotal : Cond.code yX8_placedTotal cX8_placedTotal 1 (some .int) ∈ mGood := mGood_in (List.mem_of_getElem? (i := 457) (by decide +kernel)) rfl
theorem im_X8_placedTotal : Cond.instanceMethod yX8_placedTotal ∈ mGood := mGood_in (List.mem_of_getElem? (i := 455) (by decide +kernel)) rfl
theorem sl_X8_placedTotal : Cond.selects RX8 yX8_placedTotal yX8_placedTotal ∈ mGood := mGood_in (List.mem_of_getElem? (i := 456) (by decide +kernel)) rfl
theorem mlL_237 : Cond.methodLink RL 237 yX9_placedTotal ∈ mGood := mGood_in (List.mem_of_getElem? (i := 1702) (by decide +kernel)) rfl
theorem cd_X9_placedTotal : Cond.code yX9_placedTotal cX9_placedTotal 1 (some .int) ∈ mGood := mGood_in (List.mem_of_getElem? (i := 1705) (by decide +kernel)) rfl
theorem im_X9_placedTotal : Cond.instanceMethod yX9_placedTotal ∈ mGood := mGood_in (List.mem_of_getElem? (i := 1703) (by decide +kernel)) rfl
theorem sl_X9_placedTotal : Cond.selects RX9 yX9_placedTotal yX9_placedTotal ∈ mGood := mGood_in (List.mem_of_getElem? (i := 1704) (by decide +kernel)) rfl
theorem mlL_238 : Cond.methodLink RL 238 yX8_lostTotal ∈ mGood := mGood_in (List.mem_of_getElem? (i := 458) (by decide +kernel)) rfl
theorem cd_X8_lostTotal : Cond.code yX8_lostTotal cX8_lostTotal 1 (some .int) ∈ mGood := mGood_in (List.mem_of_getElem? (i := 461) (by decide +kernel)) rfl
theorem im_X8_lostTotal : Cond.instanceMethod yX8_lostTotal ∈ mGood := mGood_in (List.mem_of_getElem? (i := 459) (by decide +kernel)) rfl
theorem sl_X8_lostTotal : Cond.selects RX8 yX8_lostTotal yX8_lostTotal ∈ mGood := mGood_in (List.mem_of_getElem? (i := 460) (by decide +kernel)) rfl
theorem mlL_241 : Cond.methodLink RL 241 yX9_lostTotal ∈ mGood := mGood_in (List.mem_of_getElem? (i := 1706) (by decide +kernel)) rfl
theorem cd_X9_lostTotal : Cond.code yX9_lostTotal cX9_lostTotal 1 (some .int) ∈ mGood := mGood_in (List.mem_of_getElem? (i := 1709) (by decide +kernel)) rfl
theorem im_X9_lostTotal : Cond.instanceMethod yX9_lostTotal ∈ mGood := mGood_in (List.mem_of_getElem? (i := 1707) (by decide +kernel)) rfl
theorem sl_X9_lostTotal : Cond.selects RX9 yX9_lostTotal yX9_lostTotal ∈ mGood := mGood_in (List.mem_of_getElem? (i := 1708) (by decide +kernel)) rfl
theorem mlL_242 : Cond.methodLink RL 242 yX8_takenTotal ∈ mGood := mGood_in (List.mem_of_getElem? (i := 462) (by decide +kernel)) rfl
theorem cd_X8_takenTotal : Cond.code yX8_takenTotal cX8_takenTotal 1 (some .int) ∈ mGood := mGood_in (List.mem_of_getElem? (i := 465) (by decide +kernel)) rfl
theorem im_X8_takenTotal : Cond.instanceMethod yX8_takenTotal ∈ mGood := mGood_in (List.mem_of_getElem? (i := 463) (by decide +kernel)) rfl
theorem sl_X8_takenTotal : Cond.selects RX8 yX8_takenTotal yX8_takenTotal ∈ mGood := mGood_in (List.mem_of_getElem? (i := 464) (by decide +kernel)) rfl
theorem mlL_245 : Cond.methodLink RL 245 yX9_takenTotal ∈ mGood := mGood_in (List.mem_of_getElem? (i := 1710) (by decide +kernel)) rfl
theorem cd_X9_takenTotal : Cond.code yX9_takenTotal cX9_takenTotal 1 (some .int) ∈ mGood := mGood_in (List.mem_of_getElem? (i := 1713) (by decide +kernel)) rfl
theorem im_X9_takenTotal : Cond.instanceMethod yX9_takenTotal ∈ mGood := mGood_in (List.mem_of_getElem? (i := 1711) (by decide +kernel)) rfl
theorem sl_X9_takenTotal : Cond.selects RX9 yX9_takenTotal yX9_takenTotal ∈ mGood := mGood_in (List.mem_of_getElem? (i := 1712) (by decide +kernel)) rfl
theorem mlL_249 : Cond.methodLink RL 249 yX9_append ∈ mGood := mGood_in (List.mem_of_getElem? (i := 1714) (by decide +kernel)) rfl
theorem cd_X9_append : Cond.code yX9_append cX9_append 2 (some .int) ∈ mGood := mGood_in (List.mem_of_getElem? (i := 1717) (by decide +kernel)) rfl
theorem im_X9_append : Cond.instanceMethod yX9_append ∈ mGood := mGood_in (List.mem_of_getElem? (i := 1715) (by decide +kernel)) rfl
theorem sl_X9_append : Cond.selects RX9 yX9_append yX9_append ∈ mGood := mGood_in (List.mem_of_getElem? (i := 1716) (by decide +kernel)) rfl
theorem mlL_253 : Cond.methodLink RL 253 yX9_run ∈ mGood := mGood_in (List.mem_of_getElem? (i := 1718) (by decide +kernel)) rfl
theorem cd_X9_run : Cond.code yX9_run cX9_run 2 (some .int) ∈ mGood := mGood_in (List.mem_of_getElem? (i := 1721) (by decide +kernel)) rfl
theorem im_X9_run : Cond.instanceMethod yX9_run ∈ mGood := mGood_in (List.mem_of_getElem? (i := 1719) (by decide +kernel)) rfl
theorem sl_X9_run : Cond.selects RX9 yX9_run yX9_run ∈ mGood := mGood_in (List.mem_of_getElem? (i := 1720) (by decide +kernel)) rfl
theorem mlL_256 : Cond.methodLink RL 256 yX9_errorPosition ∈ mGood := mGood_in (List.mem_of_getElem? (i := 1754) (by decide +kernel)) rfl
theorem cd_X9_errorPosition : Cond.code yX9_errorPosition cX9_errorPosition 1 (some .int) ∈ mGood := mGood_in (List.mem_of_getElem? (i := 1757) (by decide +kernel)) rfl
theorem im_X9_errorPosition : Cond.instanceMethod yX9_errorPosition ∈ mGood := mGood_in (List.mem_of_getElem? (i := 1755) (by decide +kernel)) rfl
theorem sl_X9_errorPosition : Cond.selects RX9 yX9_errorPosition yX9_errorPosition ∈ mGood := mGood_in (List.mem_of_getElem? (i := 1756) (by decide +kernel)) rfl
theorem mlL_259 : Cond.methodLink RL 259 yX9_failedCommand ∈ mGood := mGood_in (List.mem_of_getElem? (i := 1758) (by decide +kernel)) rfl
theorem cd_X9_failedCommand : Cond.code yX9_failedCommand cX9_failedCommand 1 (some .int) ∈ mGood := mGood_in (List.mem_of_getElem? (i := 1761) (by decide +kernel)) rfl
theorem im_X9_failedCommand : Cond.instanceMethod yX9_failedCommand ∈ mGood := mGood_in (List.mem_of_getElem? (i := 1759) (by decide +kernel)) rfl
theorem sl_X9_failedCommand : Cond.selects RX9 yX9_failedCommand yX9_failedCommand ∈ mGood := mGood_in (List.mem_of_getElem? (i := 1760) (by decide +kernel)) rfl
theorem mlL_262 : Cond.methodLink RL 262 yX9_describeRow ∈ mGood := mGood_in (List.mem_of_getElem? (i := 1762) (by decide +kernel)) rfl
theorem cd_X9_describeRow : Cond.code yX9_describeRow cX9_describeRow 3 (some .int) ∈ mGood := mGood_in (List.mem_of_getElem? (i := 1765) (by decide +kernel)) rfl
theorem im_X9_describeRow : Cond.instanceMethod yX9_describeRow ∈ mGood := mGood_in (List.mem_of_getElem? (i := 1763) (by decide +kernel)) rfl
theorem sl_X9_describeRow : Cond.selects RX9 yX9_describeRow yX9_describeRow ∈ mGood := mGood_in (List.mem_of_getElem? (i := 1764) (by decide +kernel)) rfl
theorem mlL_265 : Cond.methodLink RL 265 yX9_lineAt ∈ mGood := mGood_in (List.mem_of_getElem? (i := 1774) (by decide +kernel)) rfl
theorem cd_X9_lineAt : Cond.code yX9_lineAt cX9_lineAt 2 (some .char) ∈ mGood := mGood_in (List.mem_of_getElem? (i := 1777) (by decide +kernel)) rfl
theorem im_X9_lineAt : Cond.instanceMethod yX9_lineAt ∈ mGood := mGood_in (List.mem_of_getElem? (i := 1775) (by decide +kernel)) rfl
theorem sl_X9_lineAt : Cond.selects RX9 yX9_lineAt yX9_lineAt ∈ mGood := mGood_in (List.mem_of_getElem? (i := 1776) (by decide +kernel)) rfl
theorem mlL_269 : Cond.methodLink RL 269 yX9_meanAvalanche ∈ mGood := mGood_in (List.mem_of_getElem? (i := 1778) (by decide +kernel)) rfl
theorem cd_X9_meanAvalanche : Cond.code yX9_meanAvalanche cX9_meanAvalanche 1 (some .double) ∈ mGood := mGood_in (List.mem_of_getElem? (i := 1781) (by decide +kernel)) rfl
theorem im_X9_meanAvalanche : Cond.instanceMethod yX9_meanAvalanche ∈ mGood := mGood_in (List.mem_of_getElem? (i := 1779) (by decide +kernel)) rfl
theorem sl_X9_meanAvalanche : Cond.selects RX9 yX9_meanAvalanche yX9_meanAvalanche ∈ mGood := mGood_in (List.mem_of_getElem? (i := 1780) (by decide +kernel)) rfl
theorem mlL_270 : Cond.methodLink RL 270 yX8_isConsistent ∈ mGood := mGood_in (List.mem_of_getElem? (i := 466) (by decide +kernel)) rfl
theorem cd_X8_isConsistent : Cond.code yX8_isConsistent cX8_isConsistent 2 (some .boolean) ∈ mGood := mGood_in (List.mem_of_getElem? (i := 469) (by decide +kernel)) rfl
theorem im_X8_isConsistent : Cond.instanceMethod yX8_isConsistent ∈ mGood := mGood_in (List.mem_of_getElem? (i := 467) (by decide +kernel)) rfl
theorem sl_X8_isConsistent : Cond.selects RX8 yX8_isConsistent yX8_isConsistent ∈ mGood := mGood_in (List.mem_of_getElem? (i := 468) (by decide +kernel)) rfl
theorem mlL_273 : Cond.methodLink RL 273 yX9_isConsistent ∈ mGood := mGood_in (List.mem_of_getElem? (i := 1782) (by decide +kernel)) rfl
theorem cd_X9_isConsistent : Cond.code yX9_isConsistent cX9_isConsistent 1 (some .boolean) ∈ mGood := mGood_in (List.mem_of_getElem? (i := 1785) (by decide +kernel)) rfl
theorem im_X9_isConsistent : Cond.instanceMethod yX9_isConsistent ∈ mGood := mGood_in (List.mem_of_getElem? (i := 1783) (by decide +kernel)) rfl
theorem sl_X9_isConsistent : Cond.selects RX9 yX9_isConsistent yX9_isConsistent ∈ mGood := mGood_in (List.mem_of_getElem? (i := 1784) (by decide +kernel)) rfl
theorem mlL_276 : Cond.methodLink RL 276 yX9_undo ∈ mGood := mGood_in (List.mem_of_getElem? (i := 1786) (by decide +kernel)) rfl
theorem cd_X9_undo : Cond.code yX9_undo cX9_undo 2 (some .int) ∈ mGood := mGood_in (List.mem_of_getElem? (i := 1789) (by decide +kernel)) rfl
theorem im_X9_undo : Cond.instanceMethod yX9_undo ∈ mGood := mGood_in (List.mem_of_getElem? (i := 1787) (by decide +kernel)) rfl
theorem sl_X9_undo : Cond.selects RX9 yX9_undo yX9_undo ∈ mGood := mGood_in (List.mem_of_getElem? (i := 1788) (by decide +kernel)) rfl
theorem mlL_277 : Cond.methodLink RL 277 yX8_save ∈ mGood := mGood_in (List.mem_of_getElem? (i := 522) (by decide +kernel)) rfl
theorem cd_X8_save : Cond.code yX8_save cX8_save 1 (some .int) ∈ mGood := mGood_in (List.mem_of_getElem? (i := 525) (by decide +kernel)) rfl
theorem im_X8_save : Cond.instanceMethod yX8_save ∈ mGood := mGood_in (List.mem_of_getElem? (i := 523) (by decide +kernel)) rfl
theorem sl_X8_save : Cond.selects RX8 yX8_save yX8_save ∈ mGood := mGood_in (List.mem_of_getElem? (i := 524) (by decide +kernel)) rfl
theorem mlL_280 : Cond.methodLink RL 280 yX9_save ∈ mGood := mGood_in (List.mem_of_getElem? (i := 1790) (by decide +kernel)) rfl
theorem cd_X9_save : Cond.code yX9_save cX9_save 1 (some .int) ∈ mGood := mGood_in (List.mem_of_getElem? (i := 1793) (by decide +kernel)) rfl
theorem im_X9_save : Cond.instanceMethod yX9_save ∈ mGood := mGood_in (List.mem_of_getElem? (i := 1791) (by decide +kernel)) rfl
theorem sl_X9_save : Cond.selects RX9 yX9_save yX9_save ∈ mGood := mGood_in (List.mem_of_getElem? (i := 1792) (by decide +kernel)) rfl
theorem mlL_283 : Cond.methodLink RL 283 yX9_restore ∈ mGood := mGood_in (List.mem_of_getElem? (i := 1794) (by decide +kernel)) rfl
theorem cd_X9_restore : Cond.code yX9_restore cX9_restore 1 (some .int) ∈ mGood := mGood_in (List.mem_of_getElem? (i := 1797) (by decide +kernel)) rfl
theorem im_X9_restore : Cond.instanceMethod yX9_restore ∈ mGood := mGood_in (List.mem_of_getElem? (i := 1795) (by decide +kernel)) rfl
theorem sl_X9_restore : Cond.selects RX9 yX9_restore yX9_restore ∈ mGood := mGood_in (List.mem_of_getElem? (i := 1796) (by decide +kernel)) rfl
theorem mlL_100 : Cond.methodLink RL 100 yX8_lineAt ∈ mGood := mGood_in (List.mem_of_getElem? (i := 1365) (by decide +kernel)) rfl
theorem cd_X8_lineAt : Cond.code yX8_lineAt cX8_lineAt 2 (some .char) ∈ mGood := mGood_in (List.mem_of_getElem? (i := 1368) (by decide +kernel)) rfl
theorem im_X8_lineAt : Cond.instanceMethod yX8_lineAt ∈ mGood := mGood_in (List.mem_of_getElem? (i := 1366) (by decide +kernel)) rfl
theorem sl_X8_lineAt : Cond.selects RX8 yX8_lineAt yX8_lineAt ∈ mGood := mGood_in (List.mem_of_getElem? (i := 1367) (by decide +kernel)) rfl
theorem mlL_52 : Cond.methodLink RL 52 yX8_lowestNeighbour ∈ mGood := mGood_in (List.mem_of_getElem? (i := 848) (by decide +kernel)) rfl
theorem cd_X8_lowestNeighbour : Cond.code yX8_lowestNeighbour cX8_lowestNeighbour 2 (some .int) ∈ mGood := mGood_in (List.mem_of_getElem? (i := 851) (by decide +kernel)) rfl
theorem im_X8_lowestNeighbour : Cond.instanceMethod yX8_lowestNeighbour ∈ mGood := mGood_in (List.mem_of_getElem? (i := 849) (by decide +kernel)) rfl
theorem sl_X8_lowestNeighbour : Cond.selects RX8 yX8_lowestNeighbour yX8_lowestNeighbour ∈ mGood := mGood_in (List.mem_of_getElem? (i := 850) (by decide +kernel)) rfl
theorem mlL_104 : Cond.methodLink RL 104 yX8_meanAvalanche ∈ mGood := mGood_in (List.mem_of_getElem? (i := 1374) (by decide +kernel)) rfl
theorem cd_X8_meanAvalanche : Cond.code yX8_meanAvalanche cX8_meanAvalanche 1 (some .double) ∈ mGood := mGood_in (List.mem_of_getElem? (i := 1377) (by decide +kernel)) rfl
theorem im_X8_meanAvalanche : Cond.instanceMethod yX8_meanAvalanche ∈ mGood := mGood_in (List.mem_of_getElem? (i := 1375) (by decide +kernel)) rfl
theorem sl_X8_meanAvalanche : Cond.selects RX8 yX8_meanAvalanche yX8_meanAvalanche ∈ mGood := mGood_in (List.mem_of_getElem? (i := 1376) (by decide +kernel)) rfl
theorem mlL_46 : Cond.methodLink RL 46 yX8_owner ∈ mGood := mGood_in (List.mem_of_getElem? (i := 832) (by decide +kernel)) rfl
theorem cd_X8_owner : Cond.code yX8_owner cX8_owner 2 (some .int) ∈ mGood := mGood_in (List.mem_of_getElem? (i := 835) (by decide +kernel)) rfl
theorem im_X8_owner : Cond.instanceMethod yX8_owner ∈ mGood := mGood_in (List.mem_of_getElem? (i := 833) (by decide +kernel)) rfl
theorem sl_X8_owner : Cond.selects RX8 yX8_owner yX8_owner ∈ mGood := mGood_in (List.mem_of_getElem? (i := 834) (by decide +kernel)) rfl
theorem mlL_65 : Cond.methodLink RL 65 yX8_peakAt ∈ mGood := mGood_in (List.mem_of_getElem? (i := 883) (by decide +kernel)) rfl
theorem cd_X8_peakAt : Cond.code yX8_peakAt cX8_peakAt 3 (some .int) ∈ mGood := mGood_in (List.mem_of_getElem? (i := 886) (by decide +kernel)) rfl
theorem im_X8_peakAt : Cond.instanceMethod yX8_peakAt ∈ mGood := mGood_in (List.mem_of_getElem? (i := 884) (by decide +kernel)) rfl
theorem sl_X8_peakAt : Cond.selects RX8 yX8_peakAt yX8_peakAt ∈ mGood := mGood_in (List.mem_of_getElem? (i := 885) (by decide +kernel)) rfl
theorem mlL_25 : Cond.methodLink RL 25 yX8_pile ∈ mGood := mGood_in (List.mem_of_getElem? (i := 755) (by decide +kernel)) rfl
theorem cd_X8_pile : Cond.code yX8_pile cX8_pile 3 (some .int) ∈ mGood := mGood_in (List.mem_of_getElem? (i := 758) (by decide +kernel)) rfl
theorem im_X8_pile : Cond.instanceMethod yX8_pile ∈ mGood := mGood_in (List.mem_of_getElem? (i := 756) (by decide +kernel)) rfl
theorem sl_X8_pile : Cond.selects RX8 yX8_pile yX8_pile ∈ mGood := mGood_in (List.mem_of_getElem? (i := 757) (by decide +kernel)) rfl
theorem mlL_74 : Cond.methodLink RL 74 yX8_playerAtRank ∈ mGood := mGood_in (List.mem_of_getElem? (i := 917) (by decide +kernel)) rfl
theorem cd_X8_playerAtRank : Cond.code yX8_playerAtRank cX8_playerAtRank 3 (some .int) ∈ mGood := mGood_in (List.mem_of_getElem? (i := 920) (by decide +kernel)) rfl
theorem im_X8_playerAtRank : Cond.instanceMethod yX8_playerAtRank ∈ mGood := mGood_in (List.mem_of_getElem? (i := 918) (by decide +kernel)) rfl
theorem sl_X8_playerAtRank : Cond.selects RX8 yX8_playerAtRank yX8_playerAtRank ∈ mGood := mGood_in (List.mem_of_getElem? (i := 919) (by decide +kernel)) rfl
theorem mlL_37 : Cond.methodLink RL 37 yX8_rest ∈ mGood := mGood_in (List.mem_of_getElem? (i := 798) (by decide +kernel)) rfl
theorem cd_X8_rest : Cond.code yX8_rest cX8_rest 2 (some .int) ∈ mGood := mGood_in (List.mem_of_getElem? (i := 801) (by decide +kernel)) rfl
theorem im_X8_rest : Cond.instanceMethod yX8_rest ∈ mGood := mGood_in (List.mem_of_getElem? (i := 799) (by decide +kernel)) rfl
theorem sl_X8_rest : Cond.selects RX8 yX8_rest yX8_rest ∈ mGood := mGood_in (List.mem_of_getElem? (i := 800) (by decide +kernel)) rfl
theorem mlL_111 : Cond.methodLink RL 111 yX8_restore ∈ mGood := mGood_in (List.mem_of_getElem? (i := 1390) (by decide +kernel)) rfl
theorem cd_X8_restore : Cond.code yX8_restore cX8_restore 1 (some .int) ∈ mGood := mGood_in (List.mem_of_getElem? (i := 1393) (by decide +kernel)) rfl
theorem im_X8_restore : Cond.instanceMethod yX8_restore ∈ mGood := mGood_in (List.mem_of_getElem? (i := 1391) (by decide +kernel)) rfl
theorem sl_X8_restore : Cond.selects RX8 yX8_restore yX8_restore ∈ mGood := mGood_in (List.mem_of_getElem? (i := 1392) (by decide +kernel)) rfl
theorem mlL_87 : Cond.methodLink RL 87 yX8_run ∈ mGood := mGood_in (List.mem_of_getElem? (i := 1065) (by decide +kernel)) rfl
theorem cd_X8_run : Cond.code yX8_run cX8_run 4 (some .int) ∈ mGood := mGood_in (List.mem_of_getElem? (i := 1068) (by decide +kernel)) rfl
theorem im_X8_run : Cond.instanceMethod yX8_run ∈ mGood := mGood_in (List.mem_of_getElem? (i := 1066) (by decide +kernel)) rfl
theorem sl_X8_run : Cond.selects RX8 yX8_run yX8_run ∈ mGood := mGood_in (List.mem_of_getElem? (i := 1067) (by decide +kernel)) rfl
theorem mlL_71 : Cond.methodLink RL 71 yX8_score ∈ mGood := mGood_in (List.mem_of_getElem? (i := 906) (by decide +kernel)) rfl
theorem cd_X8_score : Cond.code yX8_score cX8_score 2 (some .int) ∈ mGood := mGood_in (List.mem_of_getElem? (i := 909) (by decide +kernel)) rfl
theorem im_X8_score : Cond.instanceMethod yX8_score ∈ mGood := mGood_in (List.mem_of_getElem? (i := 907) (by decide +kernel)) rfl
theorem sl_X8_score : Cond.selects RX8 yX8_score yX8_score ∈ mGood := mGood_in (List.mem_of_getElem? (i := 908) (by decide +kernel)) rfl
theorem mlL_40 : Cond.methodLink RL 40 yX8_setSlope ∈ mGood := mGood_in (List.mem_of_getElem? (i := 805) (by decide +kernel)) rfl
theorem cd_X8_setSlope : Cond.code yX8_setSlope cX8_setSlope 2 (some .int) ∈ mGood := mGood_in (List.mem_of_getElem? (i := 808) (by decide +kernel)) rfl
theorem im_X8_setSlope : Cond.instanceMethod yX8_setSlope ∈ mGood := mGood_in (List.mem_of_getElem? (i := 806) (by decide +kernel)) rfl
theorem sl_X8_setSlope : Cond.selects RX8 yX8_setSlope yX8_setSlope ∈ mGood := mGood_in (List.mem_of_getElem? (i := 807) (by decide +kernel)) rfl
theorem mlL_49 : Cond.methodLink RL 49 yX8_steepness ∈ mGood := mGood_in (List.mem_of_getElem? (i := 840) (by decide +kernel)) rfl
theorem cd_X8_steepness : Cond.code yX8_steepness cX8_steepness 2 (some .int) ∈ mGood := mGood_in (List.mem_of_getElem? (i := 843) (by decide +kernel)) rfl
theorem im_X8_steepness : Cond.instanceMethod yX8_steepness ∈ mGood := mGood_in (List.mem_of_getElem? (i := 841) (by decide +kernel)) rfl
theorem sl_X8_steepness : Cond.selects RX8 yX8_steepness yX8_steepness ∈ mGood := mGood_in (List.mem_of_getElem? (i := 842) (by decide +kernel)) rfl
theorem mlL_29 : Cond.methodLink RL 29 yX8_take ∈ mGood := mGood_in (List.mem_of_getElem? (i := 768) (by decide +kernel)) rfl
theorem cd_X8_take : Cond.code yX8_take cX8_take 3 (some .int) ∈ mGood := mGood_in (List.mem_of_getElem? (i := 771) (by decide +kernel)) rfl
theorem im_X8_take : Cond.instanceMethod yX8_take ∈ mGood := mGood_in (List.mem_of_getElem? (i := 769) (by decide +kernel)) rfl
theorem sl_X8_take : Cond.selects RX8 yX8_take yX8_take ∈ mGood := mGood_in (List.mem_of_getElem? (i := 770) (by decide +kernel)) rfl
theorem mlL_55 : Cond.methodLink RL 55 yX8_topplesIf ∈ mGood := mGood_in (List.mem_of_getElem? (i := 856) (by decide +kernel)) rfl
theorem cd_X8_topplesIf : Cond.code yX8_topplesIf cX8_topplesIf 3 (some .int) ∈ mGood := mGood_in (List.mem_of_getElem? (i := 859) (by decide +kernel)) rfl
theorem im_X8_topplesIf : Cond.instanceMethod yX8_topplesIf ∈ mGood := mGood_in (List.mem_of_getElem? (i := 857) (by decide +kernel)) rfl
theorem sl_X8_topplesIf : Cond.selects RX8 yX8_topplesIf yX8_topplesIf ∈ mGood := mGood_in (List.mem_of_getElem? (i := 858) (by decide +kernel)) rfl
theorem mlL_58 : Cond.methodLink RL 58 yX8_topplesIfByScan ∈ mGood := mGood_in (List.mem_of_getElem? (i := 868) (by decide +kernel)) rfl
theorem cd_X8_topplesIfByScan : Cond.code yX8_topplesIfByScan cX8_topplesIfByScan 3 (some .int) ∈ mGood := mGood_in (List.mem_of_getElem? (i := 871) (by decide +kernel)) rfl
theorem im_X8_topplesIfByScan : Cond.instanceMethod yX8_topplesIfByScan ∈ mGood := mGood_in (List.mem_of_getElem? (i := 869) (by decide +kernel)) rfl
theorem sl_X8_topplesIfByScan : Cond.selects RX8 yX8_topplesIfByScan yX8_topplesIfByScan ∈ mGood := mGood_in (List.mem_of_getElem? (i := 870) (by decide +kernel)) rfl
theorem mlL_108 : Cond.methodLink RL 108 yX8_undo ∈ mGood := mGood_in (List.mem_of_getElem? (i := 1382) (by decide +kernel)) rfl
theorem cd_X8_undo : Cond.code yX8_undo cX8_undo 1 (some .int) ∈ mGood := mGood_in (List.mem_of_getElem? (i := 1385) (by decide +kernel)) rfl
theorem im_X8_undo : Cond.instanceMethod yX8_undo ∈ mGood := mGood_in (List.mem_of_getElem? (i := 1383) (by decide +kernel)) rfl
theorem sl_X8_undo : Cond.selects RX8 yX8_undo yX8_undo ∈ mGood := mGood_in (List.mem_of_getElem? (i := 1384) (by decide +kernel)) rfl
theorem lkX1_7 : mFl RX1 7 "HillContest$Keyword" "SKIP" "LHillContest$Keyword;" := Or.inl (mGood_in (List.mem_of_getElem? (i := 243) (by decide +kernel)) rfl)
theorem lkX1_13 : mFl RX1 13 "HillContest$Command" "keyword" "LHillContest$Keyword;" := Or.inl (mGood_in (List.mem_of_getElem? (i := 245) (by decide +kernel)) rfl)
theorem lkX1_18 : mFl RX1 18 "HillContest$Command" "first" "I" := Or.inl (mGood_in (List.mem_of_getElem? (i := 248) (by decide +kernel)) rfl)
theorem lkX1_22 : mFl RX1 22 "HillContest$Command" "second" "I" := Or.inl (mGood_in (List.mem_of_getElem? (i := 250) (by decide +kernel)) rfl)
theorem lkX1_25 : mFl RX1 25 "HillContest$Command" "third" "I" := Or.inl (mGood_in (List.mem_of_getElem? (i := 252) (by decide +kernel)) rfl)
theorem mlX2_57 : Cond.methodLink RX2 57 yJ0_length_8abf5 ∈ mGood := mGood_in (List.mem_of_getElem? (i := 1087) (by decide +kernel)) rfl
theorem ic_J0 : Cond.initialized RJ0 ∈ mGood := mGood_in (List.mem_of_getElem? (i := 66) (by decide +kernel)) rfl
theorem cd_J0_length_8abf5 : Cond.code yJ0_length_8abf5 cJ0_length_8abf5 1 (some .int) ∈ mGood := mGood_in (List.mem_of_getElem? (i := 1090) (by decide +kernel)) rfl
theorem im_J0_length_8abf5 : Cond.instanceMethod yJ0_length_8abf5 ∈ mGood := mGood_in (List.mem_of_getElem? (i := 1088) (by decide +kernel)) rfl
theorem sl_J0_length_8abf5 : Cond.selects RJ0 yJ0_length_8abf5 yJ0_length_8abf5 ∈ mGood := mGood_in (List.mem_of_getElem? (i := 1089) (by decide +kernel)) rfl
theorem lkX2_25 : mFl RX2 25 "HillContest$CommandText" "position" "I" := Or.inl (mGood_in (List.mem_of_getElem? (i := 269) (by decide +kernel)) rfl)
theorem lkX2_12 : mFl RX2 12 "HillContest$CommandText" "signs" "Ljava/lang/StringBuilder;" := Or.inl (mGood_in (List.mem_of_getElem? (i := 263) (by decide +kernel)) rfl)
theorem mlX2_36 : Cond.methodLink RX2 36 yJ4_length_8abf5 ∈ mGood := mGood_in (List.mem_of_getElem? (i := 1096) (by decide +kernel)) rfl
theorem ic_J4 : Cond.initialized RJ4 ∈ mGood := mGood_in (List.mem_of_getElem? (i := 65) (by decide +kernel)) rfl
theorem cd_J4_length_8abf5 : Cond.code yJ4_length_8abf5 cJ4_length_8abf5 1 (some .int) ∈ mGood := mGood_in (List.mem_of_getElem? (i := 966) (by decide +kernel)) rfl
theorem im_J4_length_8abf5 : Cond.instanceMethod yJ4_length_8abf5 ∈ mGood := mGood_in (List.mem_of_getElem? (i := 964) (by decide +kernel)) rfl
theorem sl_J4_length_8abf5 : Cond.selects RJ4 yJ4_length_8abf5 yJ4_length_8abf5 ∈ mGood := mGood_in (List.mem_of_getElem? (i := 965) (by decide +kernel)) rfl
theorem mlX2_93 : Cond.methodLink RX2 93 yJ4_charAt_5068e ∈ mGood := mGood_in (List.mem_of_getElem? (i := 1097) (by decide +kernel)) rfl
theorem cd_J4_charAt_5068e : Cond.code yJ4_charAt_5068e cJ4_charAt_5068e 2 (some .char) ∈ mGood := mGood_in (List.mem_of_getElem? (i := 1100) (by decide +kernel)) rfl
theorem im_J4_charAt_5068e : Cond.instanceMethod yJ4_charAt_5068e ∈ mGood := mGood_in (List.mem_of_getElem? (i := 1098) (by decide +kernel)) rfl
theorem sl_J4_charAt_5068e : Cond.selects RJ4 yJ4_charAt_5068e yJ4_charAt_5068e ∈ mGood := mGood_in (List.mem_of_getElem? (i := 1099) (by decide +kernel)) rfl
theorem mlX2_60 : Cond.methodLink RX2 60 yJ0_charAt_5068e ∈ mGood := mGood_in (List.mem_of_getElem? (i := 1109) (by decide +kernel)) rfl
theorem cd_J0_charAt_5068e : Cond.code yJ0_charAt_5068e cJ0_charAt_5068e 2 (some .char) ∈ mGood := mGood_in (List.mem_of_getElem? (i := 1112) (by decide +kernel)) rfl
theorem im_J0_charAt_5068e : Cond.instanceMethod yJ0_charAt_5068e ∈ mGood := mGood_in (List.mem_of_getElem? (i := 1110) (by decide +kernel)) rfl
theorem sl_J0_charAt_5068e : Cond.selects RJ0 yJ0_charAt_5068e yJ0_charAt_5068e ∈ mGood := mGood_in (List.mem_of_getElem? (i := 1111) (by decide +kernel)) rfl
theorem lkX2_20 : mFl RX2 20 "HillContest$CommandText" "commands" "[LHillContest$Command;" := Or.inl (mGood_in (List.mem_of_getElem? (i := 265) (by decide +kernel)) rfl)
theorem lkX2_29 : mFl RX2 29 "HillContest$CommandText" "count" "I" := Or.inl (mGood_in (List.mem_of_getElem? (i := 267) (by decide +kernel)) rfl)
theorem mlX2_32 : Cond.methodLink RX2 32 yX2_readCommand ∈ mGood := mGood_in (List.mem_of_getElem? (i := 1073) (by decide +kernel)) rfl
theorem ic_X2 : Cond.initialized RX2 ∈ mGood := mGood_in (List.mem_of_getElem? (i := 63) (by decide +kernel)) rfl
theorem cd_X2_readCommand : Cond.code yX2_readCommand cX2_readCommand 5 (some .boolean) ∈ mGood := mGood_in (List.mem_of_getElem? (i := 1076) (by decide +kernel)) rfl
theorem im_X2_readCommand : Cond.instanceMethod yX2_readCommand ∈ mGood := mGood_in (List.mem_of_getElem? (i := 1075) (by decide +kernel)) rfl
theorem sl_X2_readCommand : Cond.selects RX2 yX2_readCommand yX2_readCommand ∈ mGood := mGood_in (List.mem_of_getElem? (i := 14) (by decide +kernel)) rfl
theorem mlX2_40 : Cond.methodLink RX2 40 yX2_readSign ∈ mGood := mGood_in (List.mem_of_getElem? (i := 1126) (by decide +kernel)) rfl
theorem cd_X2_readSign : Cond.code yX2_readSign cX2_readSign 2 (some .boolean) ∈ mGood := mGood_in (List.mem_of_getElem? (i := 1129) (by decide +kernel)) rfl
theorem im_X2_readSign : Cond.instanceMethod yX2_readSign ∈ mGood := mGood_in (List.mem_of_getElem? (i := 1128) (by decide +kernel)) rfl
theorem sl_X2_readSign : Cond.selects RX2 yX2_readSign yX2_readSign ∈ mGood := mGood_in (List.mem_of_getElem? (i := 17) (by decide +kernel)) rfl
theorem mlX2_44 : Cond.methodLink RX2 44 yX2_readKeyword ∈ mGood := mGood_in (List.mem_of_getElem? (i := 1077) (by decide +kernel)) rfl
theorem cd_X2_readKeyword : Cond.code yX2_readKeyword cX2_readKeyword 8 (some .boolean) ∈ mGood := mGood_in (List.mem_of_getElem? (i := 1080) (by decide +kernel)) rfl
theorem im_X2_readKeyword : Cond.instanceMethod yX2_readKeyword ∈ mGood := mGood_in (List.mem_of_getElem? (i := 1079) (by decide +kernel)) rfl
theorem sl_X2_readKeyword : Cond.selects RX2 yX2_readKeyword yX2_readKeyword ∈ mGood := mGood_in (List.mem_of_getElem? (i := 15) (by decide +kernel)) rfl
theorem lkX2_47 : mFl RX2 47 "HillContest$Command" "keyword" "LHillContest$Keyword;" := Or.inr ⟨"HillContest", mNests_in (List.mem_of_getElem? (i := 246) (by decide +kernel)) rfl⟩
theorem lkX2_51 : mFl RX2 51 "HillContest$Keyword" "form" "Ljava/lang/String;" := Or.inr ⟨"HillContest", mNests_in (List.mem_of_getElem? (i := 1837) (by decide +kernel)) rfl⟩
theorem mlX2_64 : Cond.methodLink RX2 64 yX2_isDigitNext ∈ mGood := mGood_in (List.mem_of_getElem? (i := 1130) (by decide +kernel)) rfl
theorem cd_X2_isDigitNext : Cond.code yX2_isDigitNext cX2_isDigitNext 1 (some .boolean) ∈ mGood := mGood_in (List.mem_of_getElem? (i := 1133) (by decide +kernel)) rfl
theorem im_X2_isDigitNext : Cond.instanceMethod yX2_isDigitNext ∈ mGood := mGood_in (List.mem_of_getElem? (i := 1132) (by decide +kernel)) rfl
theorem sl_X2_isDigitNext : Cond.selects RX2 yX2_isDigitNext yX2_isDigitNext ∈ mGood := mGood_in (List.mem_of_getElem? (i := 18) (by decide +kernel)) rfl
theorem mlX2_68 : Cond.methodLink RX2 68 yX2_readNumber ∈ mGood := mGood_in (List.mem_of_getElem? (i := 1134) (by decide +kernel)) rfl
theorem cd_X2_readNumber : Cond.code yX2_readNumber cX2_readNumber 3 (some .int) ∈ mGood := mGood_in (List.mem_of_getElem? (i := 1137) (by decide +kernel)) rfl
theorem im_X2_readNumber : Cond.instanceMethod yX2_readNumber ∈ mGood := mGood_in (List.mem_of_getElem? (i := 1136) (by decide +kernel)) rfl
theorem sl_X2_readNumber : Cond.selects RX2 yX2_readNumber yX2_readNumber ∈ mGood := mGood_in (List.mem_of_getElem? (i := 19) (by decide +kernel)) rfl
theorem mlX2_72 : Cond.methodLink RX2 72 yX1_setNumber ∈ mGood := mGood_in (List.mem_of_getElem? (i := 1142) (by decide +kernel)) rfl
theorem ic_X1 : Cond.initialized RX1 ∈ mGood := mGood_in (List.mem_of_getElem? (i := 68) (by decide +kernel)) rfl
theorem cd_X1_setNumber : Cond.code yX1_setNumber cX1_setNumber 3 none ∈ mGood := mGood_in (List.mem_of_getElem? (i := 1145) (by decide +kernel)) rfl
theorem im_X1_setNumber : Cond.instanceMethod yX1_setNumber ∈ mGood := mGood_in (List.mem_of_getElem? (i := 1143) (by decide +kernel)) rfl
theorem sl_X1_setNumber : Cond.selects RX1 yX1_setNumber yX1_setNumber ∈ mGood := mGood_in (List.mem_of_getElem? (i := 1144) (by decide +kernel)) rfl
theorem lkX2_76 : mFl RX2 76 "HillContest" "KEYWORDS" "[LHillContest$Keyword;" := Or.inr ⟨"HillContest", mNests_in (List.mem_of_getElem? (i := 1081) (by decide +kernel)) rfl⟩
theorem lkX2_80 : mFl RX2 80 "HillContest$Keyword" "word" "Ljava/lang/String;" := Or.inr ⟨"HillContest", mNests_in (List.mem_of_getElem? (i := 1836) (by decide +kernel)) rfl⟩
theorem mlX2_83 : Cond.methodLink RX2 83 yX2_countAlike ∈ mGood := mGood_in (List.mem_of_getElem? (i := 1083) (by decide +kernel)) rfl
theorem cd_X2_countAlike : Cond.code yX2_countAlike cX2_countAlike 3 (some .int) ∈ mGood := mGood_in (List.mem_of_getElem? (i := 1086) (by decide +kernel)) rfl
theorem im_X2_countAlike : Cond.instanceMethod yX2_countAlike ∈ mGood := mGood_in (List.mem_of_getElem? (i := 1085) (by decide +kernel)) rfl
theorem sl_X2_countAlike : Cond.selects RX2 yX2_countAlike yX2_countAlike ∈ mGood := mGood_in (List.mem_of_getElem? (i := 16) (by decide +kernel)) rfl
theorem mlX2_87 : Cond.methodLink RX2 87 yJ9_max_7cf53 ∈ mGood := mGood_in (List.mem_of_getElem? (i := 1125) (by decide +kernel)) rfl
theorem ic_J9 : Cond.initialized RJ9 ∈ mGood := mGood_in (List.mem_of_getElem? (i := 83) (by decide +kernel)) rfl
theorem cd_J9_max_7cf53 : Cond.code yJ9_max_7cf53 cJ9_max_7cf53 2 (some .int) ∈ mGood := mGood_in (List.mem_of_getElem? (i := 396) (by decide +kernel)) rfl
theorem st_J9_max_7cf53 : Cond.static yJ9_max_7cf53 ∈ mGood := mGood_in (List.mem_of_getElem? (i := 395) (by decide +kernel)) rfl
theorem mlX2_94 : Cond.methodLink RX2 94 yX2_readDigit ∈ mGood := mGood_in (List.mem_of_getElem? (i := 1138) (by decide +kernel)) rfl
theorem cd_X2_readDigit : Cond.code yX2_readDigit cX2_readDigit 2 (some .int) ∈ mGood := mGood_in (List.mem_of_getElem? (i := 1141) (by decide +kernel)) rfl
theorem im_X2_readDigit : Cond.instanceMethod yX2_readDigit ∈ mGood := mGood_in (List.mem_of_getElem? (i := 1140) (by decide +kernel)) rfl
theorem sl_X2_readDigit : Cond.selects RX2 yX2_readDigit yX2_readDigit ∈ mGood := mGood_in (List.mem_of_getElem? (i := 20) (by decide +kernel)) rfl
theorem mlX4_54 : Cond.methodLink RX4 54 yX4_findHighestUnstable ∈ mGood := mGood_in (List.mem_of_getElem? (i := 364) (by decide +kernel)) rfl
theorem ic_X4 : Cond.initialized RX4 ∈ mGood := mGood_in (List.mem_of_getElem? (i := 61) (by decide +kernel)) rfl
theorem cd_X4_findHighestUnstable : Cond.code yX4_findHighestUnstable cX4_findHighestUnstable 4 (some .int) ∈ mGood := mGood_in (List.mem_of_getElem? (i := 367) (by decide +kernel)) rfl
theorem im_X4_findHighestUnstable : Cond.instanceMethod yX4_findHighestUnstable ∈ mGood := mGood_in (List.mem_of_getElem? (i := 365) (by decide +kernel)) rfl
theorem sl_X4_findHighestUnstable : Cond.selects RX4 yX4_findHighestUnstable yX4_findHighestUnstable ∈ mGood := mGood_in (List.mem_of_getElem? (i := 366) (by decide +kernel)) rfl
theorem mlX4_58 : Cond.methodLink RX4 58 yX4_topple ∈ mGood := mGood_in (List.mem_of_getElem? (i := 378) (by decide +kernel)) rfl
theorem cd_X4_topple : Cond.code yX4_topple cX4_topple 4 (some .int) ∈ mGood := mGood_in (List.mem_of_getElem? (i := 381) (by decide +kernel)) rfl
theorem im_X4_topple : Cond.instanceMethod yX4_topple ∈ mGood := mGood_in (List.mem_of_getElem? (i := 379) (by decide +kernel)) rfl
theorem sl_X4_topple : Cond.selects RX4 yX4_topple yX4_topple ∈ mGood := mGood_in (List.mem_of_getElem? (i := 380) (by decide +kernel)) rfl
theorem lkX4_9 : mFl RX4 9 "HillContest$Hill" "heights" "[I" := Or.inl (mGood_in (List.mem_of_getElem? (i := 113) (by decide +kernel)) rfl)
theorem lkX4_15 : mFl RX4 15 "HillContest$Hill" "owners" "[I" := Or.inl (mGood_in (List.mem_of_getElem? (i := 117) (by decide +kernel)) rfl)
theorem lkX4_18 : mFl RX4 18 "HillContest$Hill" "slope" "I" := Or.inl (mGood_in (List.mem_of_getElem? (i := 120) (by decide +kernel)) rfl)
theorem lkX4_28 : mFl RX4 28 "HillContest$Hill" "isOpen" "Z" := Or.inl (mGood_in (List.mem_of_getElem? (i := 124) (by decide +kernel)) rfl)
theorem lkX4_32 : mFl RX4 32 "HillContest$Hill" "lost" "I" := Or.inl (mGood_in (List.mem_of_getElem? (i := 127) (by decide +kernel)) rfl)
theorem mlX4_61 : Cond.methodLink RX4 61 yX4_findHighest ∈ mGood := mGood_in (List.mem_of_getElem? (i := 421) (by decide +kernel)) rfl
theorem cd_X4_findHighest : Cond.code yX4_findHighest cX4_findHighest 3 (some .int) ∈ mGood := mGood_in (List.mem_of_getElem? (i := 424) (by decide +kernel)) rfl
theorem im_X4_findHighest : Cond.instanceMethod yX4_findHighest ∈ mGood := mGood_in (List.mem_of_getElem? (i := 422) (by decide +kernel)) rfl
theorem sl_X4_findHighest : Cond.selects RX4 yX4_findHighest yX4_findHighest ∈ mGood := mGood_in (List.mem_of_getElem? (i := 423) (by decide +kernel)) rfl
theorem mlX4_64 : Cond.methodLink RX4 64 yX4_isSummit ∈ mGood := mGood_in (List.mem_of_getElem? (i := 438) (by decide +kernel)) rfl
theorem cd_X4_isSummit : Cond.code yX4_isSummit cX4_isSummit 3 (some .boolean) ∈ mGood := mGood_in (List.mem_of_getElem? (i := 441) (by decide +kernel)) rfl
theorem im_X4_isSummit : Cond.instanceMethod yX4_isSummit ∈ mGood := mGood_in (List.mem_of_getElem? (i := 439) (by decide +kernel)) rfl
theorem sl_X4_isSummit : Cond.selects RX4 yX4_isSummit yX4_isSummit ∈ mGood := mGood_in (List.mem_of_getElem? (i := 440) (by decide +kernel)) rfl
theorem mlX4_42 : Cond.methodLink RX4 42 yX4_steepnessOf ∈ mGood := mGood_in (List.mem_of_getElem? (i := 368) (by decide +kernel)) rfl
theorem cd_X4_steepnessOf : Cond.code yX4_steepnessOf cX4_steepnessOf 2 (some .int) ∈ mGood := mGood_in (List.mem_of_getElem? (i := 371) (by decide +kernel)) rfl
theorem im_X4_steepnessOf : Cond.instanceMethod yX4_steepnessOf ∈ mGood := mGood_in (List.mem_of_getElem? (i := 369) (by decide +kernel)) rfl
theorem sl_X4_steepnessOf : Cond.selects RX4 yX4_steepnessOf yX4_steepnessOf ∈ mGood := mGood_in (List.mem_of_getElem? (i := 370) (by decide +kernel)) rfl
theorem lkX4_35 : mFl RX4 35 "HillContest" "NEIGHBOURS" "[I" := Or.inr ⟨"HillContest", mNests_in (List.mem_of_getElem? (i := 376) (by decide +kernel)) rfl⟩
theorem mlX4_38 : Cond.methodLink RX4 38 yX4_findLowestNeighbour ∈ mGood := mGood_in (List.mem_of_getElem? (i := 372) (by decide +kernel)) rfl
theorem cd_X4_findLowestNeighbour : Cond.code yX4_findLowestNeighbour cX4_findLowestNeighbour 6 (some .int) ∈ mGood := mGood_in (List.mem_of_getElem? (i := 375) (by decide +kernel)) rfl
theorem im_X4_findLowestNeighbour : Cond.instanceMethod yX4_findLowestNeighbour ∈ mGood := mGood_in (List.mem_of_getElem? (i := 373) (by decide +kernel)) rfl
theorem sl_X4_findLowestNeighbour : Cond.selects RX4 yX4_findLowestNeighbour yX4_findLowestNeighbour ∈ mGood := mGood_in (List.mem_of_getElem? (i := 374) (by decide +kernel)) rfl
theorem mlX4_45 : Cond.methodLink RX4 45 yX4_removeStone ∈ mGood := mGood_in (List.mem_of_getElem? (i := 382) (by decide +kernel)) rfl
theorem cd_X4_removeStone : Cond.code yX4_removeStone cX4_removeStone 2 none ∈ mGood := mGood_in (List.mem_of_getElem? (i := 385) (by decide +kernel)) rfl
theorem im_X4_removeStone : Cond.instanceMethod yX4_removeStone ∈ mGood := mGood_in (List.mem_of_getElem? (i := 383) (by decide +kernel)) rfl
theorem sl_X4_removeStone : Cond.selects RX4 yX4_removeStone yX4_removeStone ∈ mGood := mGood_in (List.mem_of_getElem? (i := 384) (by decide +kernel)) rfl
theorem mlX4_49 : Cond.methodLink RX4 49 yX4_place ∈ mGood := mGood_in (List.mem_of_getElem? (i := 386) (by decide +kernel)) rfl
theorem cd_X4_place : Cond.code yX4_place cX4_place 4 none ∈ mGood := mGood_in (List.mem_of_getElem? (i := 389) (by decide +kernel)) rfl
theorem im_X4_place : Cond.instanceMethod yX4_place ∈ mGood := mGood_in (List.mem_of_getElem? (i := 387) (by decide +kernel)) rfl
theorem sl_X4_place : Cond.selects RX4 yX4_place yX4_place ∈ mGood := mGood_in (List.mem_of_getElem? (i := 388) (by decide +kernel)) rfl
theorem lkX6_12 : mFl RX6 12 "HillContest$State" "hill" "LHillContest$Hill;" := Or.inl (mGood_in (List.mem_of_getElem? (i := 141) (by decide +kernel)) rfl)
theorem lkX6_120 : mFl RX6 120 "HillContest$Hill" "isOpen" "Z" := Or.inr ⟨"HillContest", mNests_in (List.mem_of_getElem? (i := 126) (by decide +kernel)) rfl⟩
theorem mlX6_88 : Cond.methodLink RX6 88 yX4_comeToRest ∈ mGood := mGood_in (List.mem_of_getElem? (i := 359) (by decide +kernel)) rfl
theorem cd_X4_comeToRest : Cond.code yX4_comeToRest cX4_comeToRest 3 (some .int) ∈ mGood := mGood_in (List.mem_of_getElem? (i := 362) (by decide +kernel)) rfl
theorem im_X4_comeToRest : Cond.instanceMethod yX4_comeToRest ∈ mGood := mGood_in (List.mem_of_getElem? (i := 360) (by decide +kernel)) rfl
theorem sl_X4_comeToRest : Cond.selects RX4 yX4_comeToRest yX4_comeToRest ∈ mGood := mGood_in (List.mem_of_getElem? (i := 361) (by decide +kernel)) rfl
theorem mlX6_92 : Cond.methodLink RX6 92 yX6_countAvalanche ∈ mGood := mGood_in (List.mem_of_getElem? (i := 390) (by decide +kernel)) rfl
theorem ic_X6 : Cond.initialized RX6 ∈ mGood := mGood_in (List.mem_of_getElem? (i := 60) (by decide +kernel)) rfl
theorem cd_X6_countAvalanche : Cond.code yX6_countAvalanche cX6_countAvalanche 2 (some .int) ∈ mGood := mGood_in (List.mem_of_getElem? (i := 393) (by decide +kernel)) rfl
theorem im_X6_countAvalanche : Cond.instanceMethod yX6_countAvalanche ∈ mGood := mGood_in (List.mem_of_getElem? (i := 392) (by decide +kernel)) rfl
theorem sl_X6_countAvalanche : Cond.selects RX6 yX6_countAvalanche yX6_countAvalanche ∈ mGood := mGood_in (List.mem_of_getElem? (i := 1) (by decide +kernel)) rfl
theorem lkX6_117 : mFl RX6 117 "HillContest$Hill" "slope" "I" := Or.inr ⟨"HillContest", mNests_in (List.mem_of_getElem? (i := 123) (by decide +kernel)) rfl⟩
theorem mlX6_25 : Cond.methodLink RX6 25 yX4_copyFrom ∈ mGood := mGood_in (List.mem_of_getElem? (i := 331) (by decide +kernel)) rfl
theorem cd_X4_copyFrom : Cond.code yX4_copyFrom cX4_copyFrom 2 none ∈ mGood := mGood_in (List.mem_of_getElem? (i := 334) (by decide +kernel)) rfl
theorem im_X4_copyFrom : Cond.instanceMethod yX4_copyFrom ∈ mGood := mGood_in (List.mem_of_getElem? (i := 332) (by decide +kernel)) rfl
theorem sl_X4_copyFrom : Cond.selects RX4 yX4_copyFrom yX4_copyFrom ∈ mGood := mGood_in (List.mem_of_getElem? (i := 333) (by decide +kernel)) rfl
theorem lkX6_18 : mFl RX6 18 "HillContest$State" "hands" "[I" := Or.inl (mGood_in (List.mem_of_getElem? (i := 143) (by decide +kernel)) rfl)
theorem lkX6_22 : mFl RX6 22 "HillContest$State" "rests" "[I" := Or.inl (mGood_in (List.mem_of_getElem? (i := 145) (by decide +kernel)) rfl)
theorem lkX6_35 : mFl RX6 35 "HillContest$State" "players" "I" := Or.inl (mGood_in (List.mem_of_getElem? (i := 147) (by decide +kernel)) rfl)
theorem lkX6_39 : mFl RX6 39 "HillContest$State" "topples" "I" := Or.inl (mGood_in (List.mem_of_getElem? (i := 149) (by decide +kernel)) rfl)
theorem lkX6_42 : mFl RX6 42 "HillContest$State" "avalanches" "I" := Or.inl (mGood_in (List.mem_of_getElem? (i := 151) (by decide +kernel)) rfl)
theorem lkX6_45 : mFl RX6 45 "HillContest$State" "largest" "I" := Or.inl (mGood_in (List.mem_of_getElem? (i := 153) (by decide +kernel)) rfl)
theorem lkX6_48 : mFl RX6 48 "HillContest$State" "placed" "I" := Or.inl (mGood_in (List.mem_of_getElem? (i := 155) (by decide +kernel)) rfl)
theorem lkX6_51 : mFl RX6 51 "HillContest$State" "taken" "I" := Or.inl (mGood_in (List.mem_of_getElem? (i := 157) (by decide +kernel)) rfl)
theorem mlX6_124 : Cond.methodLink RX6 124 yJ9_max_7cf53 ∈ mGood := mGood_in (List.mem_of_getElem? (i := 394) (by decide +kernel)) rfl
theorem mlX6_130 : Cond.methodLink RX6 130 yX6_isAhead ∈ mGood := mGood_in (List.mem_of_getElem? (i := 925) (by decide +kernel)) rfl
theorem cd_X6_isAhead : Cond.code yX6_isAhead cX6_isAhead 4 (some .boolean) ∈ mGood := mGood_in (List.mem_of_getElem? (i := 928) (by decide +kernel)) rfl
theorem im_X6_isAhead : Cond.instanceMethod yX6_isAhead ∈ mGood := mGood_in (List.mem_of_getElem? (i := 927) (by decide +kernel)) rfl
theorem sl_X6_isAhead : Cond.selects RX6 yX6_isAhead yX6_isAhead ∈ mGood := mGood_in (List.mem_of_getElem? (i := 13) (by decide +kernel)) rfl
theorem mlX6_80 : Cond.methodLink RX6 80 yX6_passRound ∈ mGood := mGood_in (List.mem_of_getElem? (i := 750) (by decide +kernel)) rfl
theorem cd_X6_passRound : Cond.code yX6_passRound cX6_passRound 3 none ∈ mGood := mGood_in (List.mem_of_getElem? (i := 342) (by decide +kernel)) rfl
theorem im_X6_passRound : Cond.instanceMethod yX6_passRound ∈ mGood := mGood_in (List.mem_of_getElem? (i := 340) (by decide +kernel)) rfl
theorem sl_X6_passRound : Cond.selects RX6 yX6_passRound yX6_passRound ∈ mGood := mGood_in (List.mem_of_getElem? (i := 341) (by decide +kernel)) rfl
theorem mlX6_84 : Cond.methodLink RX6 84 yX4_place ∈ mGood := mGood_in (List.mem_of_getElem? (i := 751) (by decide +kernel)) rfl
theorem mlX6_66 : Cond.methodLink RX6 66 yX6_hasPlayer ∈ mGood := mGood_in (List.mem_of_getElem? (i := 729) (by decide +kernel)) rfl
theorem cd_X6_hasPlayer : Cond.code yX6_hasPlayer cX6_hasPlayer 2 (some .boolean) ∈ mGood := mGood_in (List.mem_of_getElem? (i := 732) (by decide +kernel)) rfl
theorem im_X6_hasPlayer : Cond.instanceMethod yX6_hasPlayer ∈ mGood := mGood_in (List.mem_of_getElem? (i := 730) (by decide +kernel)) rfl
theorem sl_X6_hasPlayer : Cond.selects RX6 yX6_hasPlayer yX6_hasPlayer ∈ mGood := mGood_in (List.mem_of_getElem? (i := 731) (by decide +kernel)) rfl
theorem lkX6_70 : mFl RX6 70 "HillContest$Fault" "INDEX" "LHillContest$Fault;" := Or.inl (mGood_in (List.mem_of_getElem? (i := 733) (by decide +kernel)) rfl)
theorem mlX6_73 : Cond.methodLink RX6 73 yX6_faultOfPile ∈ mGood := mGood_in (List.mem_of_getElem? (i := 734) (by decide +kernel)) rfl
theorem cd_X6_faultOfPile : Cond.code yX6_faultOfPile cX6_faultOfPile 4 (some (.object "HillContest$Fault")) ∈ mGood := mGood_in (List.mem_of_getElem? (i := 737) (by decide +kernel)) rfl
theorem im_X6_faultOfPile : Cond.instanceMethod yX6_faultOfPile ∈ mGood := mGood_in (List.mem_of_getElem? (i := 735) (by decide +kernel)) rfl
theorem sl_X6_faultOfPile : Cond.selects RX6 yX6_faultOfPile yX6_faultOfPile ∈ mGood := mGood_in (List.mem_of_getElem? (i := 736) (by decide +kernel)) rfl
theorem lkX6_63 : mFl RX6 63 "HillContest$Fault" "NO_FAULT" "LHillContest$Fault;" := Or.inl (mGood_in (List.mem_of_getElem? (i := 543) (by decide +kernel)) rfl)
theorem lkX6_60 : mFl RX6 60 "HillContest$Fault" "STATE" "LHillContest$Fault;" := Or.inl (mGood_in (List.mem_of_getElem? (i := 541) (by decide +kernel)) rfl)
theorem lkX6_77 : mFl RX6 77 "HillContest$Fault" "OPERATION" "LHillContest$Fault;" := Or.inl (mGood_in (List.mem_of_getElem? (i := 745) (by decide +kernel)) rfl)
theorem lkX6_54 : mFl RX6 54 "HillContest$Fault" "ARGUMENT" "LHillContest$Fault;" := Or.inl (mGood_in (List.mem_of_getElem? (i := 539) (by decide +kernel)) rfl)
theorem mlX6_102 : Cond.methodLink RX6 102 yX4_countByCells ∈ mGood := mGood_in (List.mem_of_getElem? (i := 744) (by decide +kernel)) rfl
theorem cd_X4_countByCells : Cond.code yX4_countByCells cX4_countByCells 3 (some .int) ∈ mGood := mGood_in (List.mem_of_getElem? (i := 412) (by decide +kernel)) rfl
theorem im_X4_countByCells : Cond.instanceMethod yX4_countByCells ∈ mGood := mGood_in (List.mem_of_getElem? (i := 410) (by decide +kernel)) rfl
theorem sl_X4_countByCells : Cond.selects RX4 yX4_countByCells yX4_countByCells ∈ mGood := mGood_in (List.mem_of_getElem? (i := 411) (by decide +kernel)) rfl
theorem lkX6_105 : mFl RX6 105 "HillContest$Hill" "heights" "[I" := Or.inr ⟨"HillContest", mNests_in (List.mem_of_getElem? (i := 114) (by decide +kernel)) rfl⟩
theorem lkX6_108 : mFl RX6 108 "HillContest$Fault" "ELEMENT" "LHillContest$Fault;" := Or.inl (mGood_in (List.mem_of_getElem? (i := 776) (by decide +kernel)) rfl)
theorem lkX6_111 : mFl RX6 111 "HillContest$Hill" "owners" "[I" := Or.inr ⟨"HillContest", mNests_in (List.mem_of_getElem? (i := 118) (by decide +kernel)) rfl⟩
theorem mlX6_134 : Cond.methodLink RX6 134 yX4_sumPeaksOf ∈ mGood := mGood_in (List.mem_of_getElem? (i := 929) (by decide +kernel)) rfl
theorem cd_X4_sumPeaksOf : Cond.code yX4_sumPeaksOf cX4_sumPeaksOf 4 (some .int) ∈ mGood := mGood_in (List.mem_of_getElem? (i := 913) (by decide +kernel)) rfl
theorem im_X4_sumPeaksOf : Cond.instanceMethod yX4_sumPeaksOf ∈ mGood := mGood_in (List.mem_of_getElem? (i := 911) (by decide +kernel)) rfl
theorem sl_X4_sumPeaksOf : Cond.selects RX4 yX4_sumPeaksOf yX4_sumPeaksOf ∈ mGood := mGood_in (List.mem_of_getElem? (i := 912) (by decide +kernel)) rfl
theorem mlX6_114 : Cond.methodLink RX6 114 yX4_removeStone ∈ mGood := mGood_in (List.mem_of_getElem? (i := 781) (by decide +kernel)) rfl
theorem lkX7_12 : mFl RX7 12 "HillContest$Trial" "hill" "LHillContest$Hill;" := Or.inl (mGood_in (List.mem_of_getElem? (i := 187) (by decide +kernel)) rfl)
theorem mlX7_49 : Cond.methodLink RX7 49 yX4_copyFrom ∈ mGood := mGood_in (List.mem_of_getElem? (i := 483) (by decide +kernel)) rfl
theorem mlX7_53 : Cond.methodLink RX7 53 yX4_place ∈ mGood := mGood_in (List.mem_of_getElem? (i := 484) (by decide +kernel)) rfl
theorem lkX7_79 : mFl RX7 79 "HillContest$Hill" "heights" "[I" := Or.inr ⟨"HillContest", mNests_in (List.mem_of_getElem? (i := 115) (by decide +kernel)) rfl⟩
theorem mlX7_22 : Cond.methodLink RX7 22 yX7_begin ∈ mGood := mGood_in (List.mem_of_getElem? (i := 479) (by decide +kernel)) rfl
theorem ic_X7 : Cond.initialized RX7 ∈ mGood := mGood_in (List.mem_of_getElem? (i := 62) (by decide +kernel)) rfl
theorem cd_X7_begin : Cond.code yX7_begin cX7_begin 4 none ∈ mGood := mGood_in (List.mem_of_getElem? (i := 482) (by decide +kernel)) rfl
theorem im_X7_begin : Cond.instanceMethod yX7_begin ∈ mGood := mGood_in (List.mem_of_getElem? (i := 481) (by decide +kernel)) rfl
theorem sl_X7_begin : Cond.selects RX7 yX7_begin yX7_begin ∈ mGood := mGood_in (List.mem_of_getElem? (i := 3) (by decide +kernel)) rfl
theorem mlX7_30 : Cond.methodLink RX7 30 yX7_fillQueue ∈ mGood := mGood_in (List.mem_of_getElem? (i := 485) (by decide +kernel)) rfl
theorem cd_X7_fillQueue : Cond.code yX7_fillQueue cX7_fillQueue 2 none ∈ mGood := mGood_in (List.mem_of_getElem? (i := 488) (by decide +kernel)) rfl
theorem im_X7_fillQueue : Cond.instanceMethod yX7_fillQueue ∈ mGood := mGood_in (List.mem_of_getElem? (i := 487) (by decide +kernel)) rfl
theorem sl_X7_fillQueue : Cond.selects RX7 yX7_fillQueue yX7_fillQueue ∈ mGood := mGood_in (List.mem_of_getElem? (i := 4) (by decide +kernel)) rfl
theorem lkX7_34 : mFl RX7 34 "HillContest$Trial" "size" "I" := Or.inl (mGood_in (List.mem_of_getElem? (i := 189) (by decide +kernel)) rfl)
theorem mlX7_38 : Cond.methodLink RX7 38 yX7_removeFirst ∈ mGood := mGood_in (List.mem_of_getElem? (i := 507) (by decide +kernel)) rfl
theorem cd_X7_removeFirst : Cond.code yX7_removeFirst cX7_removeFirst 2 (some .int) ∈ mGood := mGood_in (List.mem_of_getElem? (i := 510) (by decide +kernel)) rfl
theorem im_X7_removeFirst : Cond.instanceMethod yX7_removeFirst ∈ mGood := mGood_in (List.mem_of_getElem? (i := 509) (by decide +kernel)) rfl
theorem sl_X7_removeFirst : Cond.selects RX7 yX7_removeFirst yX7_removeFirst ∈ mGood := mGood_in (List.mem_of_getElem? (i := 9) (by decide +kernel)) rfl
theorem mlX7_41 : Cond.methodLink RX7 41 yX4_topple ∈ mGood := mGood_in (List.mem_of_getElem? (i := 511) (by decide +kernel)) rfl
theorem mlX7_45 : Cond.methodLink RX7 45 yX7_refreshAround ∈ mGood := mGood_in (List.mem_of_getElem? (i := 512) (by decide +kernel)) rfl
theorem cd_X7_refreshAround : Cond.code yX7_refreshAround cX7_refreshAround 4 none ∈ mGood := mGood_in (List.mem_of_getElem? (i := 515) (by decide +kernel)) rfl
theorem im_X7_refreshAround : Cond.instanceMethod yX7_refreshAround ∈ mGood := mGood_in (List.mem_of_getElem? (i := 514) (by decide +kernel)) rfl
theorem sl_X7_refreshAround : Cond.selects RX7 yX7_refreshAround yX7_refreshAround ∈ mGood := mGood_in (List.mem_of_getElem? (i := 10) (by decide +kernel)) rfl
theorem mlX7_26 : Cond.methodLink RX7 26 yX4_comeToRest ∈ mGood := mGood_in (List.mem_of_getElem? (i := 521) (by decide +kernel)) rfl
theorem mlX7_57 : Cond.methodLink RX7 57 yX7_refresh ∈ mGood := mGood_in (List.mem_of_getElem? (i := 489) (by decide +kernel)) rfl
theorem cd_X7_refresh : Cond.code yX7_refresh cX7_refresh 2 none ∈ mGood := mGood_in (List.mem_of_getElem? (i := 492) (by decide +kernel)) rfl
theorem im_X7_refresh : Cond.instanceMethod yX7_refresh ∈ mGood := mGood_in (List.mem_of_getElem? (i := 491) (by decide +kernel)) rfl
theorem sl_X7_refresh : Cond.selects RX7 yX7_refresh yX7_refresh ∈ mGood := mGood_in (List.mem_of_getElem? (i := 5) (by decide +kernel)) rfl
theorem lkX7_18 : mFl RX7 18 "HillContest$Trial" "queue" "[I" := Or.inl (mGood_in (List.mem_of_getElem? (i := 188) (by decide +kernel)) rfl)
theorem mlX7_75 : Cond.methodLink RX7 75 yX7_comesBefore ∈ mGood := mGood_in (List.mem_of_getElem? (i := 502) (by decide +kernel)) rfl
theorem cd_X7_comesBefore : Cond.code yX7_comesBefore cX7_comesBefore 4 (some .boolean) ∈ mGood := mGood_in (List.mem_of_getElem? (i := 505) (by decide +kernel)) rfl
theorem im_X7_comesBefore : Cond.instanceMethod yX7_comesBefore ∈ mGood := mGood_in (List.mem_of_getElem? (i := 504) (by decide +kernel)) rfl
theorem sl_X7_comesBefore : Cond.selects RX7 yX7_comesBefore yX7_comesBefore ∈ mGood := mGood_in (List.mem_of_getElem? (i := 8) (by decide +kernel)) rfl
theorem mlX7_60 : Cond.methodLink RX7 60 yX7_remove ∈ mGood := mGood_in (List.mem_of_getElem? (i := 493) (by decide +kernel)) rfl
theorem cd_X7_remove : Cond.code yX7_remove cX7_remove 4 none ∈ mGood := mGood_in (List.mem_of_getElem? (i := 496) (by decide +kernel)) rfl
theorem im_X7_remove : Cond.instanceMethod yX7_remove ∈ mGood := mGood_in (List.mem_of_getElem? (i := 495) (by decide +kernel)) rfl
theorem sl_X7_remove : Cond.selects RX7 yX7_remove yX7_remove ∈ mGood := mGood_in (List.mem_of_getElem? (i := 6) (by decide +kernel)) rfl
theorem mlX7_66 : Cond.methodLink RX7 66 yX4_steepnessOf ∈ mGood := mGood_in (List.mem_of_getElem? (i := 497) (by decide +kernel)) rfl
theorem lkX7_69 : mFl RX7 69 "HillContest$Hill" "slope" "I" := Or.inr ⟨"HillContest", mNests_in (List.mem_of_getElem? (i := 121) (by decide +kernel)) rfl⟩
theorem mlX7_72 : Cond.methodLink RX7 72 yX7_insert ∈ mGood := mGood_in (List.mem_of_getElem? (i := 498) (by decide +kernel)) rfl
theorem cd_X7_insert : Cond.code yX7_insert cX7_insert 3 none ∈ mGood := mGood_in (List.mem_of_getElem? (i := 501) (by decide +kernel)) rfl
theorem im_X7_insert : Cond.instanceMethod yX7_insert ∈ mGood := mGood_in (List.mem_of_getElem? (i := 500) (by decide +kernel)) rfl
theorem sl_X7_insert : Cond.selects RX7 yX7_insert yX7_insert ∈ mGood := mGood_in (List.mem_of_getElem? (i := 7) (by decide +kernel)) rfl
theorem lkX7_63 : mFl RX7 63 "HillContest" "NEIGHBOURS" "[I" := Or.inr ⟨"HillContest", mNests_in (List.mem_of_getElem? (i := 516) (by decide +kernel)) rfl⟩
theorem lkX8_10 : mFl RX8 10 "HillContest" "now" "LHillContest$State;" := Or.inl (mGood_in (List.mem_of_getElem? (i := 282) (by decide +kernel)) rfl)
theorem mlX8_54 : Cond.methodLink RX8 54 yX6_faultOfEntry ∈ mGood := mGood_in (List.mem_of_getElem? (i := 535) (by decide +kernel)) rfl
theorem cd_X6_faultOfEntry : Cond.code yX6_faultOfEntry cX6_faultOfEntry 2 (some (.object "HillContest$Fault")) ∈ mGood := mGood_in (List.mem_of_getElem? (i := 538) (by decide +kernel)) rfl
theorem im_X6_faultOfEntry : Cond.instanceMethod yX6_faultOfEntry ∈ mGood := mGood_in (List.mem_of_getElem? (i := 536) (by decide +kernel)) rfl
theorem sl_X6_faultOfEntry : Cond.selects RX6 yX6_faultOfEntry yX6_faultOfEntry ∈ mGood := mGood_in (List.mem_of_getElem? (i := 537) (by decide +kernel)) rfl
theorem mlX8_58 : Cond.methodLink RX8 58 yX8_throwIfAny ∈ mGood := mGood_in (List.mem_of_getElem? (i := 545) (by decide +kernel)) rfl
theorem cd_X8_throwIfAny : Cond.code yX8_throwIfAny cX8_throwIfAny 1 none ∈ mGood := mGood_in (List.mem_of_getElem? (i := 547) (by decide +kernel)) rfl
theorem st_X8_throwIfAny : Cond.static yX8_throwIfAny ∈ mGood := mGood_in (List.mem_of_getElem? (i := 546) (by decide +kernel)) rfl
theorem mlX8_62 : Cond.methodLink RX8 62 yX8_keepForUndo ∈ mGood := mGood_in (List.mem_of_getElem? (i := 323) (by decide +kernel)) rfl
theorem cd_X8_keepForUndo : Cond.code yX8_keepForUndo cX8_keepForUndo 2 none ∈ mGood := mGood_in (List.mem_of_getElem? (i := 326) (by decide +kernel)) rfl
theorem im_X8_keepForUndo : Cond.instanceMethod yX8_keepForUndo ∈ mGood := mGood_in (List.mem_of_getElem? (i := 325) (by decide +kernel)) rfl
theorem sl_X8_keepForUndo : Cond.selects RX8 yX8_keepForUndo yX8_keepForUndo ∈ mGood := mGood_in (List.mem_of_getElem? (i := 0) (by decide +kernel)) rfl
theorem mlX8_66 : Cond.methodLink RX8 66 yX6_enterPlayer ∈ mGood := mGood_in (List.mem_of_getElem? (i := 692) (by decide +kernel)) rfl
theorem cd_X6_enterPlayer : Cond.code yX6_enterPlayer cX6_enterPlayer 3 (some .int) ∈ mGood := mGood_in (List.mem_of_getElem? (i := 695) (by decide +kernel)) rfl
theorem im_X6_enterPlayer : Cond.instanceMethod yX6_enterPlayer ∈ mGood := mGood_in (List.mem_of_getElem? (i := 693) (by decide +kernel)) rfl
theorem sl_X6_enterPlayer : Cond.selects RX6 yX6_enterPlayer yX6_enterPlayer ∈ mGood := mGood_in (List.mem_of_getElem? (i := 694) (by decide +kernel)) rfl
theorem lkX8_36 : mFl RX8 36 "HillContest" "commandText" "LHillContest$CommandText;" := Or.inl (mGood_in (List.mem_of_getElem? (i := 290) (by decide +kernel)) rfl)
theorem lkX8_228 : mFl RX8 228 "HillContest$CommandText" "signs" "Ljava/lang/StringBuilder;" := Or.inr ⟨"HillContest", mNests_in (List.mem_of_getElem? (i := 264) (by decide +kernel)) rfl⟩
theorem mlX8_231 : Cond.methodLink RX8 231 yJ4_length_8abf5 ∈ mGood := mGood_in (List.mem_of_getElem? (i := 963) (by decide +kernel)) rfl
theorem mlX8_239 : Cond.methodLink RX8 239 yJ4_append_cf468 ∈ mGood := mGood_in (List.mem_of_getElem? (i := 971) (by decide +kernel)) rfl
theorem cd_J4_append_cf468 : Cond.code yJ4_append_cf468 cJ4_append_cf468 2 (some (.object "java/lang/StringBuilder")) ∈ mGood := mGood_in (List.mem_of_getElem? (i := 974) (by decide +kernel)) rfl
theorem im_J4_append_cf468 : Cond.instanceMethod yJ4_append_cf468 ∈ mGood := mGood_in (List.mem_of_getElem? (i := 972) (by decide +kernel)) rfl
theorem sl_J4_append_cf468 : Cond.selects RJ4 yJ4_append_cf468 yJ4_append_cf468 ∈ mGood := mGood_in (List.mem_of_getElem? (i := 973) (by decide +kernel)) rfl
theorem lkX8_208 : mFl RX8 208 "HillContest$State" "avalanches" "I" := Or.inr ⟨"HillContest", mNests_in (List.mem_of_getElem? (i := 152) (by decide +kernel)) rfl⟩
theorem lkX8_363 : mFl RX8 363 "HillContest$1" "$SwitchMap$HillContest$Keyword" "[I" := Or.inl (mGood_in (List.mem_of_getElem? (i := 1317) (by decide +kernel)) rfl)
theorem lkX8_368 : mFl RX8 368 "HillContest$Command" "keyword" "LHillContest$Keyword;" := Or.inr ⟨"HillContest", mNests_in (List.mem_of_getElem? (i := 247) (by decide +kernel)) rfl⟩
theorem lkX8_379 : mFl RX8 379 "HillContest$Command" "first" "I" := Or.inr ⟨"HillContest", mNests_in (List.mem_of_getElem? (i := 249) (by decide +kernel)) rfl⟩
theorem lkX8_382 : mFl RX8 382 "HillContest$Command" "second" "I" := Or.inr ⟨"HillContest", mNests_in (List.mem_of_getElem? (i := 251) (by decide +kernel)) rfl⟩
theorem lkX8_385 : mFl RX8 385 "HillContest$Command" "third" "I" := Or.inr ⟨"HillContest", mNests_in (List.mem_of_getElem? (i := 253) (by decide +kernel)) rfl⟩
theorem mlX8_74 : Cond.methodLink RX8 74 yX6_dropStones ∈ mGood := mGood_in (List.mem_of_getElem? (i := 746) (by decide +kernel)) rfl
theorem cd_X6_dropStones : Cond.code yX6_dropStones cX6_dropStones 5 (some .int) ∈ mGood := mGood_in (List.mem_of_getElem? (i := 749) (by decide +kernel)) rfl
theorem im_X6_dropStones : Cond.instanceMethod yX6_dropStones ∈ mGood := mGood_in (List.mem_of_getElem? (i := 747) (by decide +kernel)) rfl
theorem sl_X6_dropStones : Cond.selects RX6 yX6_dropStones yX6_dropStones ∈ mGood := mGood_in (List.mem_of_getElem? (i := 748) (by decide +kernel)) rfl
theorem mlX8_82 : Cond.methodLink RX8 82 yX6_pileStones ∈ mGood := mGood_in (List.mem_of_getElem? (i := 760) (by decide +kernel)) rfl
theorem cd_X6_pileStones : Cond.code yX6_pileStones cX6_pileStones 3 (some .int) ∈ mGood := mGood_in (List.mem_of_getElem? (i := 763) (by decide +kernel)) rfl
theorem im_X6_pileStones : Cond.instanceMethod yX6_pileStones ∈ mGood := mGood_in (List.mem_of_getElem? (i := 761) (by decide +kernel)) rfl
theorem sl_X6_pileStones : Cond.selects RX6 yX6_pileStones yX6_pileStones ∈ mGood := mGood_in (List.mem_of_getElem? (i := 762) (by decide +kernel)) rfl
theorem mlX8_89 : Cond.methodLink RX8 89 yX6_takeStone ∈ mGood := mGood_in (List.mem_of_getElem? (i := 777) (by decide +kernel)) rfl
theorem cd_X6_takeStone : Cond.code yX6_takeStone cX6_takeStone 3 (some .int) ∈ mGood := mGood_in (List.mem_of_getElem? (i := 780) (by decide +kernel)) rfl
theorem im_X6_takeStone : Cond.instanceMethod yX6_takeStone ∈ mGood := mGood_in (List.mem_of_getElem? (i := 778) (by decide +kernel)) rfl
theorem sl_X6_takeStone : Cond.selects RX6 yX6_takeStone yX6_takeStone ∈ mGood := mGood_in (List.mem_of_getElem? (i := 779) (by decide +kernel)) rfl
theorem mlX8_92 : Cond.methodLink RX8 92 yX6_passRound ∈ mGood := mGood_in (List.mem_of_getElem? (i := 339) (by decide +kernel)) rfl
theorem mlX8_116 : Cond.methodLink RX8 116 yX6_changeSlope ∈ mGood := mGood_in (List.mem_of_getElem? (i := 813) (by decide +kernel)) rfl
theorem cd_X6_changeSlope : Cond.code yX6_changeSlope cX6_changeSlope 2 (some .int) ∈ mGood := mGood_in (List.mem_of_getElem? (i := 816) (by decide +kernel)) rfl
theorem im_X6_changeSlope : Cond.instanceMethod yX6_changeSlope ∈ mGood := mGood_in (List.mem_of_getElem? (i := 814) (by decide +kernel)) rfl
theorem sl_X6_changeSlope : Cond.selects RX6 yX6_changeSlope yX6_changeSlope ∈ mGood := mGood_in (List.mem_of_getElem? (i := 815) (by decide +kernel)) rfl
theorem lkX8_388 : mFl RX8 388 "HillContest$Keyword" "OPEN" "LHillContest$Keyword;" := Or.inl (mGood_in (List.mem_of_getElem? (i := 1331) (by decide +kernel)) rfl)
theorem mlX8_129 : Cond.methodLink RX8 129 yX6_changeBorder ∈ mGood := mGood_in (List.mem_of_getElem? (i := 355) (by decide +kernel)) rfl
theorem cd_X6_changeBorder : Cond.code yX6_changeBorder cX6_changeBorder 2 none ∈ mGood := mGood_in (List.mem_of_getElem? (i := 358) (by decide +kernel)) rfl
theorem im_X6_changeBorder : Cond.instanceMethod yX6_changeBorder ∈ mGood := mGood_in (List.mem_of_getElem? (i := 356) (by decide +kernel)) rfl
theorem sl_X6_changeBorder : Cond.selects RX6 yX6_changeBorder yX6_changeBorder ∈ mGood := mGood_in (List.mem_of_getElem? (i := 357) (by decide +kernel)) rfl
theorem lkX8_119 : mFl RX8 119 "HillContest$State" "hill" "LHillContest$Hill;" := Or.inr ⟨"HillContest", mNests_in (List.mem_of_getElem? (i := 142) (by decide +kernel)) rfl⟩
theorem lkX8_133 : mFl RX8 133 "HillContest$Hill" "slope" "I" := Or.inr ⟨"HillContest", mNests_in (List.mem_of_getElem? (i := 122) (by decide +kernel)) rfl⟩
theorem mlX8_103 : Cond.methodLink RX8 103 yX8_requirePlayer ∈ mGood := mGood_in (List.mem_of_getElem? (i := 789) (by decide +kernel)) rfl
theorem cd_X8_requirePlayer : Cond.code yX8_requirePlayer cX8_requirePlayer 2 none ∈ mGood := mGood_in (List.mem_of_getElem? (i := 792) (by decide +kernel)) rfl
theorem im_X8_requirePlayer : Cond.instanceMethod yX8_requirePlayer ∈ mGood := mGood_in (List.mem_of_getElem? (i := 791) (by decide +kernel)) rfl
theorem sl_X8_requirePlayer : Cond.selects RX8 yX8_requirePlayer yX8_requirePlayer ∈ mGood := mGood_in (List.mem_of_getElem? (i := 12) (by decide +kernel)) rfl
theorem mlX8_181 : Cond.methodLink RX8 181 yX4_countPeaks ∈ mGood := mGood_in (List.mem_of_getElem? (i := 434) (by decide +kernel)) rfl
theorem cd_X4_countPeaks : Cond.code yX4_countPeaks cX4_countPeaks 3 (some .int) ∈ mGood := mGood_in (List.mem_of_getElem? (i := 437) (by decide +kernel)) rfl
theorem im_X4_countPeaks : Cond.instanceMethod yX4_countPeaks ∈ mGood := mGood_in (List.mem_of_getElem? (i := 435) (by decide +kernel)) rfl
theorem sl_X4_countPeaks : Cond.selects RX4 yX4_countPeaks yX4_countPeaks ∈ mGood := mGood_in (List.mem_of_getElem? (i := 436) (by decide +kernel)) rfl
theorem mlX8_189 : Cond.methodLink RX8 189 yX4_countPeaksOf ∈ mGood := mGood_in (List.mem_of_getElem? (i := 899) (by decide +kernel)) rfl
theorem cd_X4_countPeaksOf : Cond.code yX4_countPeaksOf cX4_countPeaksOf 4 (some .int) ∈ mGood := mGood_in (List.mem_of_getElem? (i := 902) (by decide +kernel)) rfl
theorem im_X4_countPeaksOf : Cond.instanceMethod yX4_countPeaksOf ∈ mGood := mGood_in (List.mem_of_getElem? (i := 900) (by decide +kernel)) rfl
theorem sl_X4_countPeaksOf : Cond.selects RX4 yX4_countPeaksOf yX4_countPeaksOf ∈ mGood := mGood_in (List.mem_of_getElem? (i := 901) (by decide +kernel)) rfl
theorem lkX8_50 : mFl RX8 50 "HillContest" "line" "Ljava/lang/StringBuilder;" := Or.inl (mGood_in (List.mem_of_getElem? (i := 293) (by decide +kernel)) rfl)
theorem mlX8_247 : Cond.methodLink RX8 247 yJ4_setLength_d00df ∈ mGood := mGood_in (List.mem_of_getElem? (i := 1146) (by decide +kernel)) rfl
theorem cd_J4_setLength_d00df : Cond.code yJ4_setLength_d00df cJ4_setLength_d00df 2 none ∈ mGood := mGood_in (List.mem_of_getElem? (i := 1149) (by decide +kernel)) rfl
theorem im_J4_setLength_d00df : Cond.instanceMethod yJ4_setLength_d00df ∈ mGood := mGood_in (List.mem_of_getElem? (i := 1147) (by decide +kernel)) rfl
theorem sl_J4_setLength_d00df : Cond.selects RJ4 yJ4_setLength_d00df yJ4_setLength_d00df ∈ mGood := mGood_in (List.mem_of_getElem? (i := 1148) (by decide +kernel)) rfl
theorem mlX8_290 : Cond.methodLink RX8 290 yX8_writeCell ∈ mGood := mGood_in (List.mem_of_getElem? (i := 1357) (by decide +kernel)) rfl
theorem cd_X8_writeCell : Cond.code yX8_writeCell cX8_writeCell 2 none ∈ mGood := mGood_in (List.mem_of_getElem? (i := 1360) (by decide +kernel)) rfl
theorem im_X8_writeCell : Cond.instanceMethod yX8_writeCell ∈ mGood := mGood_in (List.mem_of_getElem? (i := 1359) (by decide +kernel)) rfl
theorem sl_X8_writeCell : Cond.selects RX8 yX8_writeCell yX8_writeCell ∈ mGood := mGood_in (List.mem_of_getElem? (i := 23) (by decide +kernel)) rfl
theorem lkX8_29 : mFl RX8 29 "HillContest" "trial" "LHillContest$Trial;" := Or.inl (mGood_in (List.mem_of_getElem? (i := 289) (by decide +kernel)) rfl)
theorem mlX8_170 : Cond.methodLink RX8 170 yX7_countByQueue ∈ mGood := mGood_in (List.mem_of_getElem? (i := 475) (by decide +kernel)) rfl
theorem cd_X7_countByQueue : Cond.code yX7_countByQueue cX7_countByQueue 7 (some .int) ∈ mGood := mGood_in (List.mem_of_getElem? (i := 478) (by decide +kernel)) rfl
theorem im_X7_countByQueue : Cond.instanceMethod yX7_countByQueue ∈ mGood := mGood_in (List.mem_of_getElem? (i := 476) (by decide +kernel)) rfl
theorem sl_X7_countByQueue : Cond.selects RX7 yX7_countByQueue yX7_countByQueue ∈ mGood := mGood_in (List.mem_of_getElem? (i := 477) (by decide +kernel)) rfl
theorem mlX8_174 : Cond.methodLink RX8 174 yX7_countByScan ∈ mGood := mGood_in (List.mem_of_getElem? (i := 517) (by decide +kernel)) rfl
theorem cd_X7_countByScan : Cond.code yX7_countByScan cX7_countByScan 4 (some .int) ∈ mGood := mGood_in (List.mem_of_getElem? (i := 520) (by decide +kernel)) rfl
theorem im_X7_countByScan : Cond.instanceMethod yX7_countByScan ∈ mGood := mGood_in (List.mem_of_getElem? (i := 518) (by decide +kernel)) rfl
theorem sl_X7_countByScan : Cond.selects RX7 yX7_countByScan yX7_countByScan ∈ mGood := mGood_in (List.mem_of_getElem? (i := 519) (by decide +kernel)) rfl
theorem mlX8_70 : Cond.methodLink RX8 70 yX6_faultOfDrop ∈ mGood := mGood_in (List.mem_of_getElem? (i := 725) (by decide +kernel)) rfl
theorem cd_X6_faultOfDrop : Cond.code yX6_faultOfDrop cX6_faultOfDrop 5 (some (.object "HillContest$Fault")) ∈ mGood := mGood_in (List.mem_of_getElem? (i := 728) (by decide +kernel)) rfl
theorem im_X6_faultOfDrop : Cond.instanceMethod yX6_faultOfDrop ∈ mGood := mGood_in (List.mem_of_getElem? (i := 726) (by decide +kernel)) rfl
theorem sl_X6_faultOfDrop : Cond.selects RX6 yX6_faultOfDrop yX6_faultOfDrop ∈ mGood := mGood_in (List.mem_of_getElem? (i := 727) (by decide +kernel)) rfl
theorem lkX8_40 : mFl RX8 40 "HillContest" "lastErrorPosition" "I" := Or.inl (mGood_in (List.mem_of_getElem? (i := 291) (by decide +kernel)) rfl)
theorem lkX8_44 : mFl RX8 44 "HillContest" "lastFailedCommand" "I" := Or.inl (mGood_in (List.mem_of_getElem? (i := 292) (by decide +kernel)) rfl)
theorem mlX8_78 : Cond.methodLink RX8 78 yX6_faultOfPile ∈ mGood := mGood_in (List.mem_of_getElem? (i := 759) (by decide +kernel)) rfl
theorem mlX8_86 : Cond.methodLink RX8 86 yX6_faultOfTake ∈ mGood := mGood_in (List.mem_of_getElem? (i := 772) (by decide +kernel)) rfl
theorem cd_X6_faultOfTake : Cond.code yX6_faultOfTake cX6_faultOfTake 3 (some (.object "HillContest$Fault")) ∈ mGood := mGood_in (List.mem_of_getElem? (i := 775) (by decide +kernel)) rfl
theorem im_X6_faultOfTake : Cond.instanceMethod yX6_faultOfTake ∈ mGood := mGood_in (List.mem_of_getElem? (i := 773) (by decide +kernel)) rfl
theorem sl_X6_faultOfTake : Cond.selects RX6 yX6_faultOfTake yX6_faultOfTake ∈ mGood := mGood_in (List.mem_of_getElem? (i := 774) (by decide +kernel)) rfl
theorem mlX8_113 : Cond.methodLink RX8 113 yX6_faultOfSlope ∈ mGood := mGood_in (List.mem_of_getElem? (i := 809) (by decide +kernel)) rfl
theorem cd_X6_faultOfSlope : Cond.code yX6_faultOfSlope cX6_faultOfSlope 3 (some (.object "HillContest$Fault")) ∈ mGood := mGood_in (List.mem_of_getElem? (i := 812) (by decide +kernel)) rfl
theorem im_X6_faultOfSlope : Cond.instanceMethod yX6_faultOfSlope ∈ mGood := mGood_in (List.mem_of_getElem? (i := 810) (by decide +kernel)) rfl
theorem sl_X6_faultOfSlope : Cond.selects RX6 yX6_faultOfSlope yX6_faultOfSlope ∈ mGood := mGood_in (List.mem_of_getElem? (i := 811) (by decide +kernel)) rfl
theorem lkX8_269 : mFl RX8 269 "HillContest$Fault" "NO_FAULT" "LHillContest$Fault;" := Or.inl (mGood_in (List.mem_of_getElem? (i := 1325) (by decide +kernel)) rfl)
theorem lkX8_106 : mFl RX8 106 "HillContest$State" "hands" "[I" := Or.inr ⟨"HillContest", mNests_in (List.mem_of_getElem? (i := 144) (by decide +kernel)) rfl⟩
theorem mlX8_136 : Cond.methodLink RX8 136 yX8_requireCell ∈ mGood := mGood_in (List.mem_of_getElem? (i := 824) (by decide +kernel)) rfl
theorem cd_X8_requireCell : Cond.code yX8_requireCell cX8_requireCell 1 none ∈ mGood := mGood_in (List.mem_of_getElem? (i := 826) (by decide +kernel)) rfl
theorem st_X8_requireCell : Cond.static yX8_requireCell ∈ mGood := mGood_in (List.mem_of_getElem? (i := 825) (by decide +kernel)) rfl
theorem lkX8_139 : mFl RX8 139 "HillContest$Hill" "heights" "[I" := Or.inr ⟨"HillContest", mNests_in (List.mem_of_getElem? (i := 116) (by decide +kernel)) rfl⟩
theorem mlX8_164 : Cond.methodLink RX8 164 yX4_findHighest ∈ mGood := mGood_in (List.mem_of_getElem? (i := 429) (by decide +kernel)) rfl
theorem lkX8_16 : mFl RX8 16 "HillContest" "beforeRun" "LHillContest$State;" := Or.inl (mGood_in (List.mem_of_getElem? (i := 283) (by decide +kernel)) rfl)
theorem lkX8_19 : mFl RX8 19 "HillContest" "snapshot" "LHillContest$State;" := Or.inl (mGood_in (List.mem_of_getElem? (i := 284) (by decide +kernel)) rfl)
theorem lkX8_22 : mFl RX8 22 "HillContest" "history" "[LHillContest$State;" := Or.inl (mGood_in (List.mem_of_getElem? (i := 286) (by decide +kernel)) rfl)
theorem lkX8_123 : mFl RX8 123 "HillContest$Hill" "isOpen" "Z" := Or.inr ⟨"HillContest", mNests_in (List.mem_of_getElem? (i := 125) (by decide +kernel)) rfl⟩
theorem mlX8_158 : Cond.methodLink RX8 158 yX4_countByCells ∈ mGood := mGood_in (List.mem_of_getElem? (i := 409) (by decide +kernel)) rfl
theorem mlX8_301 : Cond.methodLink RX8 301 yX4_findHighestUnstable ∈ mGood := mGood_in (List.mem_of_getElem? (i := 470) (by decide +kernel)) rfl
theorem mlX8_161 : Cond.methodLink RX8 161 yX4_countByLevels ∈ mGood := mGood_in (List.mem_of_getElem? (i := 417) (by decide +kernel)) rfl
theorem cd_X4_countByLevels : Cond.code yX4_countByLevels cX4_countByLevels 5 (some .int) ∈ mGood := mGood_in (List.mem_of_getElem? (i := 420) (by decide +kernel)) rfl
theorem im_X4_countByLevels : Cond.instanceMethod yX4_countByLevels ∈ mGood := mGood_in (List.mem_of_getElem? (i := 418) (by decide +kernel)) rfl
theorem sl_X4_countByLevels : Cond.selects RX4 yX4_countByLevels yX4_countByLevels ∈ mGood := mGood_in (List.mem_of_getElem? (i := 419) (by decide +kernel)) rfl
theorem lkX8_214 : mFl RX8 214 "HillContest$State" "placed" "I" := Or.inr ⟨"HillContest", mNests_in (List.mem_of_getElem? (i := 156) (by decide +kernel)) rfl⟩
theorem lkX8_217 : mFl RX8 217 "HillContest$Hill" "lost" "I" := Or.inr ⟨"HillContest", mNests_in (List.mem_of_getElem? (i := 128) (by decide +kernel)) rfl⟩
theorem lkX8_220 : mFl RX8 220 "HillContest$State" "taken" "I" := Or.inr ⟨"HillContest", mNests_in (List.mem_of_getElem? (i := 158) (by decide +kernel)) rfl⟩
theorem mlX8_304 : Cond.methodLink RX8 304 yX8_doTrialsAgree ∈ mGood := mGood_in (List.mem_of_getElem? (i := 471) (by decide +kernel)) rfl
theorem cd_X8_doTrialsAgree : Cond.code yX8_doTrialsAgree cX8_doTrialsAgree 4 (some .boolean) ∈ mGood := mGood_in (List.mem_of_getElem? (i := 474) (by decide +kernel)) rfl
theorem im_X8_doTrialsAgree : Cond.instanceMethod yX8_doTrialsAgree ∈ mGood := mGood_in (List.mem_of_getElem? (i := 473) (by decide +kernel)) rfl
theorem sl_X8_doTrialsAgree : Cond.selects RX8 yX8_doTrialsAgree yX8_doTrialsAgree ∈ mGood := mGood_in (List.mem_of_getElem? (i := 2) (by decide +kernel)) rfl
theorem mlX8_177 : Cond.methodLink RX8 177 yX4_isSummit ∈ mGood := mGood_in (List.mem_of_getElem? (i := 879) (by decide +kernel)) rfl
theorem lkX8_312 : mFl RX8 312 "HillContest" "oldestInHistory" "I" := Or.inl (mGood_in (List.mem_of_getElem? (i := 287) (by decide +kernel)) rfl)
theorem lkX8_307 : mFl RX8 307 "HillContest" "undoable" "I" := Or.inl (mGood_in (List.mem_of_getElem? (i := 288) (by decide +kernel)) rfl)
theorem mlX8_255 : Cond.methodLink RX8 255 yX6_copyFrom ∈ mGood := mGood_in (List.mem_of_getElem? (i := 327) (by decide +kernel)) rfl
theorem cd_X6_copyFrom : Cond.code yX6_copyFrom cX6_copyFrom 2 none ∈ mGood := mGood_in (List.mem_of_getElem? (i := 330) (by decide +kernel)) rfl
theorem im_X6_copyFrom : Cond.instanceMethod yX6_copyFrom ∈ mGood := mGood_in (List.mem_of_getElem? (i := 328) (by decide +kernel)) rfl
theorem sl_X6_copyFrom : Cond.selects RX6 yX6_copyFrom yX6_copyFrom ∈ mGood := mGood_in (List.mem_of_getElem? (i := 329) (by decide +kernel)) rfl
theorem lkX8_211 : mFl RX8 211 "HillContest$State" "largest" "I" := Or.inr ⟨"HillContest", mNests_in (List.mem_of_getElem? (i := 154) (by decide +kernel)) rfl⟩
theorem mlX8_295 : Cond.methodLink RX8 295 yJ4_charAt_5068e ∈ mGood := mGood_in (List.mem_of_getElem? (i := 1370) (by decide +kernel)) rfl
theorem mlX8_155 : Cond.methodLink RX8 155 yX4_findLowestNeighbour ∈ mGood := mGood_in (List.mem_of_getElem? (i := 852) (by decide +kernel)) rfl
theorem lkX8_205 : mFl RX8 205 "HillContest$State" "topples" "I" := Or.inr ⟨"HillContest", mNests_in (List.mem_of_getElem? (i := 150) (by decide +kernel)) rfl⟩
theorem lkX8_142 : mFl RX8 142 "HillContest$Hill" "owners" "[I" := Or.inr ⟨"HillContest", mNests_in (List.mem_of_getElem? (i := 119) (by decide +kernel)) rfl⟩
theorem mlX8_184 : Cond.methodLink RX8 184 yX4_countPeaksAhead ∈ mGood := mGood_in (List.mem_of_getElem? (i := 887) (by decide +kernel)) rfl
theorem cd_X4_countPeaksAhead : Cond.code yX4_countPeaksAhead cX4_countPeaksAhead 5 (some .int) ∈ mGood := mGood_in (List.mem_of_getElem? (i := 890) (by decide +kernel)) rfl
theorem im_X4_countPeaksAhead : Cond.instanceMethod yX4_countPeaksAhead ∈ mGood := mGood_in (List.mem_of_getElem? (i := 888) (by decide +kernel)) rfl
theorem sl_X4_countPeaksAhead : Cond.selects RX4 yX4_countPeaksAhead yX4_countPeaksAhead ∈ mGood := mGood_in (List.mem_of_getElem? (i := 889) (by decide +kernel)) rfl
theorem lkX8_100 : mFl RX8 100 "HillContest$State" "players" "I" := Or.inr ⟨"HillContest", mNests_in (List.mem_of_getElem? (i := 148) (by decide +kernel)) rfl⟩
theorem mlX8_195 : Cond.methodLink RX8 195 yX6_countPlayersAhead ∈ mGood := mGood_in (List.mem_of_getElem? (i := 921) (by decide +kernel)) rfl
theorem cd_X6_countPlayersAhead : Cond.code yX6_countPlayersAhead cX6_countPlayersAhead 4 (some .int) ∈ mGood := mGood_in (List.mem_of_getElem? (i := 924) (by decide +kernel)) rfl
theorem im_X6_countPlayersAhead : Cond.instanceMethod yX6_countPlayersAhead ∈ mGood := mGood_in (List.mem_of_getElem? (i := 922) (by decide +kernel)) rfl
theorem sl_X6_countPlayersAhead : Cond.selects RX6 yX6_countPlayersAhead yX6_countPlayersAhead ∈ mGood := mGood_in (List.mem_of_getElem? (i := 923) (by decide +kernel)) rfl
theorem mlX8_353 : Cond.methodLink RX8 353 yX8_isCell ∈ mGood := mGood_in (List.mem_of_getElem? (i := 827) (by decide +kernel)) rfl
theorem cd_X8_isCell : Cond.code yX8_isCell cX8_isCell 1 (some .boolean) ∈ mGood := mGood_in (List.mem_of_getElem? (i := 740) (by decide +kernel)) rfl
theorem st_X8_isCell : Cond.static yX8_isCell ∈ mGood := mGood_in (List.mem_of_getElem? (i := 739) (by decide +kernel)) rfl
theorem mlX8_348 : Cond.methodLink RX8 348 yX6_hasPlayer ∈ mGood := mGood_in (List.mem_of_getElem? (i := 793) (by decide +kernel)) rfl
theorem mlX8_358 : Cond.methodLink RX8 358 yX8_isPlaceable ∈ mGood := mGood_in (List.mem_of_getElem? (i := 863) (by decide +kernel)) rfl
theorem cd_X8_isPlaceable : Cond.code yX8_isPlaceable cX8_isPlaceable 1 (some .boolean) ∈ mGood := mGood_in (List.mem_of_getElem? (i := 743) (by decide +kernel)) rfl
theorem st_X8_isPlaceable : Cond.static yX8_isPlaceable ∈ mGood := mGood_in (List.mem_of_getElem? (i := 742) (by decide +kernel)) rfl
theorem lkX8_110 : mFl RX8 110 "HillContest$State" "rests" "[I" := Or.inr ⟨"HillContest", mNests_in (List.mem_of_getElem? (i := 146) (by decide +kernel)) rfl⟩
theorem lkX8_315 : mFl RX8 315 "HillContest" "hasSnapshot" "Z" := Or.inl (mGood_in (List.mem_of_getElem? (i := 285) (by decide +kernel)) rfl)
theorem mlX8_243 : Cond.methodLink RX8 243 yX2_readAll ∈ mGood := mGood_in (List.mem_of_getElem? (i := 1069) (by decide +kernel)) rfl
theorem cd_X2_readAll : Cond.code yX2_readAll cX2_readAll 1 (some .boolean) ∈ mGood := mGood_in (List.mem_of_getElem? (i := 1072) (by decide +kernel)) rfl
theorem im_X2_readAll : Cond.instanceMethod yX2_readAll ∈ mGood := mGood_in (List.mem_of_getElem? (i := 1070) (by decide +kernel)) rfl
theorem sl_X2_readAll : Cond.selects RX2 yX2_readAll yX2_readAll ∈ mGood := mGood_in (List.mem_of_getElem? (i := 1071) (by decide +kernel)) rfl
theorem lkX8_250 : mFl RX8 250 "HillContest$CommandText" "position" "I" := Or.inr ⟨"HillContest", mNests_in (List.mem_of_getElem? (i := 270) (by decide +kernel)) rfl⟩
theorem lkX8_258 : mFl RX8 258 "HillContest$CommandText" "count" "I" := Or.inr ⟨"HillContest", mNests_in (List.mem_of_getElem? (i := 268) (by decide +kernel)) rfl⟩
theorem lkX8_261 : mFl RX8 261 "HillContest$CommandText" "commands" "[LHillContest$Command;" := Or.inr ⟨"HillContest", mNests_in (List.mem_of_getElem? (i := 266) (by decide +kernel)) rfl⟩
theorem mlX8_265 : Cond.methodLink RX8 265 yX8_faultOf ∈ mGood := mGood_in (List.mem_of_getElem? (i := 1313) (by decide +kernel)) rfl
theorem cd_X8_faultOf : Cond.code yX8_faultOf cX8_faultOf 2 (some (.object "HillContest$Fault")) ∈ mGood := mGood_in (List.mem_of_getElem? (i := 1316) (by decide +kernel)) rfl
theorem im_X8_faultOf : Cond.instanceMethod yX8_faultOf ∈ mGood := mGood_in (List.mem_of_getElem? (i := 1315) (by decide +kernel)) rfl
theorem sl_X8_faultOf : Cond.selects RX8 yX8_faultOf yX8_faultOf ∈ mGood := mGood_in (List.mem_of_getElem? (i := 21) (by decide +kernel)) rfl
theorem mlX8_277 : Cond.methodLink RX8 277 yX8_carryOut ∈ mGood := mGood_in (List.mem_of_getElem? (i := 1327) (by decide +kernel)) rfl
theorem cd_X8_carryOut : Cond.code yX8_carryOut cX8_carryOut 2 none ∈ mGood := mGood_in (List.mem_of_getElem? (i := 1330) (by decide +kernel)) rfl
theorem im_X8_carryOut : Cond.instanceMethod yX8_carryOut ∈ mGood := mGood_in (List.mem_of_getElem? (i := 1329) (by decide +kernel)) rfl
theorem sl_X8_carryOut : Cond.selects RX8 yX8_carryOut yX8_carryOut ∈ mGood := mGood_in (List.mem_of_getElem? (i := 22) (by decide +kernel)) rfl
theorem mlX8_192 : Cond.methodLink RX8 192 yX4_sumPeaksOf ∈ mGood := mGood_in (List.mem_of_getElem? (i := 910) (by decide +kernel)) rfl
theorem mlX8_96 : Cond.methodLink RX8 96 yX6_countResting ∈ mGood := mGood_in (List.mem_of_getElem? (i := 343) (by decide +kernel)) rfl
theorem cd_X6_countResting : Cond.code yX6_countResting cX6_countResting 3 (some .int) ∈ mGood := mGood_in (List.mem_of_getElem? (i := 346) (by decide +kernel)) rfl
theorem im_X6_countResting : Cond.instanceMethod yX6_countResting ∈ mGood := mGood_in (List.mem_of_getElem? (i := 344) (by decide +kernel)) rfl
theorem sl_X6_countResting : Cond.selects RX6 yX6_countResting yX6_countResting ∈ mGood := mGood_in (List.mem_of_getElem? (i := 345) (by decide +kernel)) rfl
theorem mlX8_152 : Cond.methodLink RX8 152 yX4_steepnessOf ∈ mGood := mGood_in (List.mem_of_getElem? (i := 844) (by decide +kernel)) rfl
theorem lkX8_320 : mFl RX8 320 "HillContest$Fault" "INDEX" "LHillContest$Fault;" := Or.inl (mGood_in (List.mem_of_getElem? (i := 548) (by decide +kernel)) rfl)
theorem lkX8_325 : mFl RX8 325 "HillContest$Fault" "ARGUMENT" "LHillContest$Fault;" := Or.inl (mGood_in (List.mem_of_getElem? (i := 622) (by decide +kernel)) rfl)
theorem lkX8_330 : mFl RX8 330 "HillContest$Fault" "STATE" "LHillContest$Fault;" := Or.inl (mGood_in (List.mem_of_getElem? (i := 639) (by decide +kernel)) rfl)
theorem lkX8_335 : mFl RX8 335 "HillContest$Fault" "ELEMENT" "LHillContest$Fault;" := Or.inl (mGood_in (List.mem_of_getElem? (i := 656) (by decide +kernel)) rfl)
theorem lkX8_340 : mFl RX8 340 "HillContest$Fault" "OPERATION" "LHillContest$Fault;" := Or.inl (mGood_in (List.mem_of_getElem? (i := 674) (by decide +kernel)) rfl)
theorem mlX8_167 : Cond.methodLink RX8 167 yX8_requireStones ∈ mGood := mGood_in (List.mem_of_getElem? (i := 860) (by decide +kernel)) rfl
theorem cd_X8_requireStones : Cond.code yX8_requireStones cX8_requireStones 1 none ∈ mGood := mGood_in (List.mem_of_getElem? (i := 862) (by decide +kernel)) rfl
theorem st_X8_requireStones : Cond.static yX8_requireStones ∈ mGood := mGood_in (List.mem_of_getElem? (i := 861) (by decide +kernel)) rfl
theorem mlX8_391 : Cond.methodLink RX8 391 yJ4_append_bf812 ∈ mGood := mGood_in (List.mem_of_getElem? (i := 1361) (by decide +kernel)) rfl
theorem cd_J4_append_bf812 : Cond.code yJ4_append_bf812 cJ4_append_bf812 2 (some (.object "java/lang/StringBuilder")) ∈ mGood := mGood_in (List.mem_of_getElem? (i := 1203) (by decide +kernel)) rfl
theorem im_J4_append_bf812 : Cond.instanceMethod yJ4_append_bf812 ∈ mGood := mGood_in (List.mem_of_getElem? (i := 1201) (by decide +kernel)) rfl
theorem sl_J4_append_bf812 : Cond.selects RJ4 yJ4_append_bf812 yJ4_append_bf812 ∈ mGood := mGood_in (List.mem_of_getElem? (i := 1202) (by decide +kernel)) rfl
theorem mlX9_90 : Cond.methodLink RX9 90 yX9_begins ∈ mGood := mGood_in (List.mem_of_getElem? (i := 1473) (by decide +kernel)) rfl
theorem cd_X9_begins : Cond.code yX9_begins cX9_begins 1 none ∈ mGood := mGood_in (List.mem_of_getElem? (i := 1476) (by decide +kernel)) rfl
theorem im_X9_begins : Cond.instanceMethod yX9_begins ∈ mGood := mGood_in (List.mem_of_getElem? (i := 1475) (by decide +kernel)) rfl
theorem sl_X9_begins : Cond.selects RX9 yX9_begins yX9_begins ∈ mGood := mGood_in (List.mem_of_getElem? (i := 24) (by decide +kernel)) rfl
theorem mlX9_93 : Cond.methodLink RX9 93 yX9_adds ∈ mGood := mGood_in (List.mem_of_getElem? (i := 1480) (by decide +kernel)) rfl
theorem cd_X9_adds : Cond.code yX9_adds cX9_adds 3 (some .int) ∈ mGood := mGood_in (List.mem_of_getElem? (i := 1483) (by decide +kernel)) rfl
theorem im_X9_adds : Cond.instanceMethod yX9_adds ∈ mGood := mGood_in (List.mem_of_getElem? (i := 1482) (by decide +kernel)) rfl
theorem sl_X9_adds : Cond.selects RX9 yX9_adds yX9_adds ∈ mGood := mGood_in (List.mem_of_getElem? (i := 25) (by decide +kernel)) rfl
theorem mlX9_96 : Cond.methodLink RX9 96 yX9_ends ∈ mGood := mGood_in (List.mem_of_getElem? (i := 1491) (by decide +kernel)) rfl
theorem cd_X9_ends : Cond.code yX9_ends cX9_ends 3 (some .int) ∈ mGood := mGood_in (List.mem_of_getElem? (i := 1494) (by decide +kernel)) rfl
theorem im_X9_ends : Cond.instanceMethod yX9_ends ∈ mGood := mGood_in (List.mem_of_getElem? (i := 1493) (by decide +kernel)) rfl
theorem sl_X9_ends : Cond.selects RX9 yX9_ends yX9_ends ∈ mGood := mGood_in (List.mem_of_getElem? (i := 27) (by decide +kernel)) rfl
theorem mlX9_57 : Cond.methodLink RX9 57 yX9_isIn ∈ mGood := mGood_in (List.mem_of_getElem? (i := 1484) (by decide +kernel)) rfl
theorem cd_X9_isIn : Cond.code yX9_isIn cX9_isIn 3 (some .boolean) ∈ mGood := mGood_in (List.mem_of_getElem? (i := 1486) (by decide +kernel)) rfl
theorem st_X9_isIn : Cond.static yX9_isIn ∈ mGood := mGood_in (List.mem_of_getElem? (i := 1485) (by decide +kernel)) rfl
theorem mlX9_87 : Cond.methodLink RX9 87 yX9_fail ∈ mGood := mGood_in (List.mem_of_getElem? (i := 1487) (by decide +kernel)) rfl
theorem cd_X9_fail : Cond.code yX9_fail cX9_fail 2 (some .int) ∈ mGood := mGood_in (List.mem_of_getElem? (i := 1490) (by decide +kernel)) rfl
theorem im_X9_fail : Cond.instanceMethod yX9_fail ∈ mGood := mGood_in (List.mem_of_getElem? (i := 1489) (by decide +kernel)) rfl
theorem sl_X9_fail : Cond.selects RX9 yX9_fail yX9_fail ∈ mGood := mGood_in (List.mem_of_getElem? (i := 26) (by decide +kernel)) rfl
theorem lkX9_16 : mFl RX9 16 "HillContestModel" "v" "[I" := Or.inl (mGood_in (List.mem_of_getElem? (i := 1406) (by decide +kernel)) rfl)
theorem lkX9_149 : mFl RX9 149 "HillContestModel" "textN" "I" := Or.inl (mGood_in (List.mem_of_getElem? (i := 1416) (by decide +kernel)) rfl)
theorem lkX9_47 : mFl RX9 47 "HillContestModel" "thrown" "I" := Or.inl (mGood_in (List.mem_of_getElem? (i := 1401) (by decide +kernel)) rfl)
theorem lkX9_32 : mFl RX9 32 "HillContestModel" "text" "[I" := Or.inl (mGood_in (List.mem_of_getElem? (i := 1411) (by decide +kernel)) rfl)
theorem mlX9_146 : Cond.methodLink RX9 146 yX9_tells ∈ mGood := mGood_in (List.mem_of_getElem? (i := 1690) (by decide +kernel)) rfl
theorem cd_X9_tells : Cond.code yX9_tells cX9_tells 2 (some .int) ∈ mGood := mGood_in (List.mem_of_getElem? (i := 1693) (by decide +kernel)) rfl
theorem im_X9_tells : Cond.instanceMethod yX9_tells ∈ mGood := mGood_in (List.mem_of_getElem? (i := 1692) (by decide +kernel)) rfl
theorem sl_X9_tells : Cond.selects RX9 yX9_tells yX9_tells ∈ mGood := mGood_in (List.mem_of_getElem? (i := 47) (by decide +kernel)) rfl
theorem lkX9_20 : mFl RX9 20 "HillContestModel" "before" "[I" := Or.inl (mGood_in (List.mem_of_getElem? (i := 1407) (by decide +kernel)) rfl)
theorem mlX9_50 : Cond.methodLink RX9 50 yX9_lays ∈ mGood := mGood_in (List.mem_of_getElem? (i := 1477) (by decide +kernel)) rfl
theorem cd_X9_lays : Cond.code yX9_lays cX9_lays 3 none ∈ mGood := mGood_in (List.mem_of_getElem? (i := 1479) (by decide +kernel)) rfl
theorem st_X9_lays : Cond.static yX9_lays ∈ mGood := mGood_in (List.mem_of_getElem? (i := 1478) (by decide +kernel)) rfl
theorem mlX9_165 : Cond.methodLink RX9 165 yX9_mark ∈ mGood := mGood_in (List.mem_of_getElem? (i := 1746) (by decide +kernel)) rfl
theorem cd_X9_mark : Cond.code yX9_mark cX9_mark 2 none ∈ mGood := mGood_in (List.mem_of_getElem? (i := 1749) (by decide +kernel)) rfl
theorem im_X9_mark : Cond.instanceMethod yX9_mark ∈ mGood := mGood_in (List.mem_of_getElem? (i := 1748) (by decide +kernel)) rfl
theorem sl_X9_mark : Cond.selects RX9 yX9_mark yX9_mark ∈ mGood := mGood_in (List.mem_of_getElem? (i := 54) (by decide +kernel)) rfl
theorem lkX9_158 : mFl RX9 158 "HillContestModel" "isWrong" "Z" := Or.inl (mGood_in (List.mem_of_getElem? (i := 1420) (by decide +kernel)) rfl)
theorem mlX9_168 : Cond.methodLink RX9 168 yX9_digits ∈ mGood := mGood_in (List.mem_of_getElem? (i := 1738) (by decide +kernel)) rfl
theorem cd_X9_digits : Cond.code yX9_digits cX9_digits 4 (some .int) ∈ mGood := mGood_in (List.mem_of_getElem? (i := 1741) (by decide +kernel)) rfl
theorem im_X9_digits : Cond.instanceMethod yX9_digits ∈ mGood := mGood_in (List.mem_of_getElem? (i := 1740) (by decide +kernel)) rfl
theorem sl_X9_digits : Cond.selects RX9 yX9_digits yX9_digits ∈ mGood := mGood_in (List.mem_of_getElem? (i := 52) (by decide +kernel)) rfl
theorem mlX9_171 : Cond.methodLink RX9 171 yX9_word ∈ mGood := mGood_in (List.mem_of_getElem? (i := 1730) (by decide +kernel)) rfl
theorem cd_X9_word : Cond.code yX9_word cX9_word 5 (some .int) ∈ mGood := mGood_in (List.mem_of_getElem? (i := 1733) (by decide +kernel)) rfl
theorem im_X9_word : Cond.instanceMethod yX9_word ∈ mGood := mGood_in (List.mem_of_getElem? (i := 1732) (by decide +kernel)) rfl
theorem sl_X9_word : Cond.selects RX9 yX9_word yX9_word ∈ mGood := mGood_in (List.mem_of_getElem? (i := 50) (by decide +kernel)) rfl
theorem mlX9_174 : Cond.methodLink RX9 174 yX9_behind ∈ mGood := mGood_in (List.mem_of_getElem? (i := 1742) (by decide +kernel)) rfl
theorem cd_X9_behind : Cond.code yX9_behind cX9_behind 2 (some .int) ∈ mGood := mGood_in (List.mem_of_getElem? (i := 1745) (by decide +kernel)) rfl
theorem im_X9_behind : Cond.instanceMethod yX9_behind ∈ mGood := mGood_in (List.mem_of_getElem? (i := 1744) (by decide +kernel)) rfl
theorem sl_X9_behind : Cond.selects RX9 yX9_behind yX9_behind ∈ mGood := mGood_in (List.mem_of_getElem? (i := 53) (by decide +kernel)) rfl
theorem lkX9_177 : mFl RX9 177 "HillContestModel" "isDoing" "Z" := Or.inl (mGood_in (List.mem_of_getElem? (i := 1421) (by decide +kernel)) rfl)
theorem mlX9_180 : Cond.methodLink RX9 180 yX9_does ∈ mGood := mGood_in (List.mem_of_getElem? (i := 1750) (by decide +kernel)) rfl
theorem cd_X9_does : Cond.code yX9_does cX9_does 5 (some .int) ∈ mGood := mGood_in (List.mem_of_getElem? (i := 1753) (by decide +kernel)) rfl
theorem im_X9_does : Cond.instanceMethod yX9_does ∈ mGood := mGood_in (List.mem_of_getElem? (i := 1752) (by decide +kernel)) rfl
theorem sl_X9_does : Cond.selects RX9 yX9_does yX9_does ∈ mGood := mGood_in (List.mem_of_getElem? (i := 55) (by decide +kernel)) rfl
theorem lkX9_152 : mFl RX9 152 "HillContestModel" "here" "I" := Or.inl (mGood_in (List.mem_of_getElem? (i := 1417) (by decide +kernel)) rfl)
theorem mlX9_184 : Cond.methodLink RX9 184 yX9_command ∈ mGood := mGood_in (List.mem_of_getElem? (i := 1726) (by decide +kernel)) rfl
theorem cd_X9_command : Cond.code yX9_command cX9_command 6 none ∈ mGood := mGood_in (List.mem_of_getElem? (i := 1729) (by decide +kernel)) rfl
theorem im_X9_command : Cond.instanceMethod yX9_command ∈ mGood := mGood_in (List.mem_of_getElem? (i := 1728) (by decide +kernel)) rfl
theorem sl_X9_command : Cond.selects RX9 yX9_command yX9_command ∈ mGood := mGood_in (List.mem_of_getElem? (i := 49) (by decide +kernel)) rfl
theorem lkX9_155 : mFl RX9 155 "HillContestModel" "end" "I" := Or.inl (mGood_in (List.mem_of_getElem? (i := 1418) (by decide +kernel)) rfl)
theorem mlX9_102 : Cond.methodLink RX9 102 yX9_isPlayer ∈ mGood := mGood_in (List.mem_of_getElem? (i := 1503) (by decide +kernel)) rfl
theorem cd_X9_isPlayer : Cond.code yX9_isPlayer cX9_isPlayer 2 (some .boolean) ∈ mGood := mGood_in (List.mem_of_getElem? (i := 1506) (by decide +kernel)) rfl
theorem im_X9_isPlayer : Cond.instanceMethod yX9_isPlayer ∈ mGood := mGood_in (List.mem_of_getElem? (i := 1505) (by decide +kernel)) rfl
theorem sl_X9_isPlayer : Cond.selects RX9 yX9_isPlayer yX9_isPlayer ∈ mGood := mGood_in (List.mem_of_getElem? (i := 29) (by decide +kernel)) rfl
theorem mlX9_139 : Cond.methodLink RX9 139 yX9_peaks ∈ mGood := mGood_in (List.mem_of_getElem? (i := 1658) (by decide +kernel)) rfl
theorem cd_X9_peaks : Cond.code yX9_peaks cX9_peaks 3 (some .int) ∈ mGood := mGood_in (List.mem_of_getElem? (i := 1661) (by decide +kernel)) rfl
theorem im_X9_peaks : Cond.instanceMethod yX9_peaks ∈ mGood := mGood_in (List.mem_of_getElem? (i := 1660) (by decide +kernel)) rfl
theorem sl_X9_peaks : Cond.selects RX9 yX9_peaks yX9_peaks ∈ mGood := mGood_in (List.mem_of_getElem? (i := 45) (by decide +kernel)) rfl
theorem mlX9_142 : Cond.methodLink RX9 142 yX9_owned ∈ mGood := mGood_in (List.mem_of_getElem? (i := 1670) (by decide +kernel)) rfl
theorem cd_X9_owned : Cond.code yX9_owned cX9_owned 5 (some .int) ∈ mGood := mGood_in (List.mem_of_getElem? (i := 1673) (by decide +kernel)) rfl
theorem im_X9_owned : Cond.instanceMethod yX9_owned ∈ mGood := mGood_in (List.mem_of_getElem? (i := 1672) (by decide +kernel)) rfl
theorem sl_X9_owned : Cond.selects RX9 yX9_owned yX9_owned ∈ mGood := mGood_in (List.mem_of_getElem? (i := 46) (by decide +kernel)) rfl
theorem lkX9_190 : mFl RX9 190 "HillContestModel" "lineN" "I" := Or.inl (mGood_in (List.mem_of_getElem? (i := 1419) (by decide +kernel)) rfl)
theorem mlX9_193 : Cond.methodLink RX9 193 yX9_writes ∈ mGood := mGood_in (List.mem_of_getElem? (i := 1766) (by decide +kernel)) rfl
theorem cd_X9_writes : Cond.code yX9_writes cX9_writes 2 none ∈ mGood := mGood_in (List.mem_of_getElem? (i := 1769) (by decide +kernel)) rfl
theorem im_X9_writes : Cond.instanceMethod yX9_writes ∈ mGood := mGood_in (List.mem_of_getElem? (i := 1768) (by decide +kernel)) rfl
theorem sl_X9_writes : Cond.selects RX9 yX9_writes yX9_writes ∈ mGood := mGood_in (List.mem_of_getElem? (i := 56) (by decide +kernel)) rfl
theorem mlX9_196 : Cond.methodLink RX9 196 yX9_writesNumber ∈ mGood := mGood_in (List.mem_of_getElem? (i := 1770) (by decide +kernel)) rfl
theorem cd_X9_writesNumber : Cond.code yX9_writesNumber cX9_writesNumber 3 none ∈ mGood := mGood_in (List.mem_of_getElem? (i := 1773) (by decide +kernel)) rfl
theorem im_X9_writesNumber : Cond.instanceMethod yX9_writesNumber ∈ mGood := mGood_in (List.mem_of_getElem? (i := 1772) (by decide +kernel)) rfl
theorem sl_X9_writesNumber : Cond.selects RX9 yX9_writesNumber yX9_writesNumber ∈ mGood := mGood_in (List.mem_of_getElem? (i := 57) (by decide +kernel)) rfl
theorem mlX9_136 : Cond.methodLink RX9 136 yX9_isTop ∈ mGood := mGood_in (List.mem_of_getElem? (i := 1650) (by decide +kernel)) rfl
theorem cd_X9_isTop : Cond.code yX9_isTop cX9_isTop 4 (some .boolean) ∈ mGood := mGood_in (List.mem_of_getElem? (i := 1653) (by decide +kernel)) rfl
theorem im_X9_isTop : Cond.instanceMethod yX9_isTop ∈ mGood := mGood_in (List.mem_of_getElem? (i := 1652) (by decide +kernel)) rfl
theorem sl_X9_isTop : Cond.selects RX9 yX9_isTop yX9_isTop ∈ mGood := mGood_in (List.mem_of_getElem? (i := 44) (by decide +kernel)) rfl
theorem mlX9_162 : Cond.methodLink RX9 162 yX9_sign ∈ mGood := mGood_in (List.mem_of_getElem? (i := 1734) (by decide +kernel)) rfl
theorem cd_X9_sign : Cond.code yX9_sign cX9_sign 1 (some .int) ∈ mGood := mGood_in (List.mem_of_getElem? (i := 1737) (by decide +kernel)) rfl
theorem im_X9_sign : Cond.instanceMethod yX9_sign ∈ mGood := mGood_in (List.mem_of_getElem? (i := 1736) (by decide +kernel)) rfl
theorem sl_X9_sign : Cond.selects RX9 yX9_sign yX9_sign ∈ mGood := mGood_in (List.mem_of_getElem? (i := 51) (by decide +kernel)) rfl
theorem mlX9_118 : Cond.methodLink RX9 118 yX9_drops ∈ mGood := mGood_in (List.mem_of_getElem? (i := 1499) (by decide +kernel)) rfl
theorem cd_X9_drops : Cond.code yX9_drops cX9_drops 6 (some .int) ∈ mGood := mGood_in (List.mem_of_getElem? (i := 1502) (by decide +kernel)) rfl
theorem im_X9_drops : Cond.instanceMethod yX9_drops ∈ mGood := mGood_in (List.mem_of_getElem? (i := 1501) (by decide +kernel)) rfl
theorem sl_X9_drops : Cond.selects RX9 yX9_drops yX9_drops ∈ mGood := mGood_in (List.mem_of_getElem? (i := 28) (by decide +kernel)) rfl
theorem mlX9_121 : Cond.methodLink RX9 121 yX9_piles ∈ mGood := mGood_in (List.mem_of_getElem? (i := 1557) (by decide +kernel)) rfl
theorem cd_X9_piles : Cond.code yX9_piles cX9_piles 3 (some .int) ∈ mGood := mGood_in (List.mem_of_getElem? (i := 1560) (by decide +kernel)) rfl
theorem im_X9_piles : Cond.instanceMethod yX9_piles ∈ mGood := mGood_in (List.mem_of_getElem? (i := 1559) (by decide +kernel)) rfl
theorem sl_X9_piles : Cond.selects RX9 yX9_piles yX9_piles ∈ mGood := mGood_in (List.mem_of_getElem? (i := 40) (by decide +kernel)) rfl
theorem mlX9_124 : Cond.methodLink RX9 124 yX9_takes ∈ mGood := mGood_in (List.mem_of_getElem? (i := 1565) (by decide +kernel)) rfl
theorem cd_X9_takes : Cond.code yX9_takes cX9_takes 3 (some .int) ∈ mGood := mGood_in (List.mem_of_getElem? (i := 1568) (by decide +kernel)) rfl
theorem im_X9_takes : Cond.instanceMethod yX9_takes ∈ mGood := mGood_in (List.mem_of_getElem? (i := 1567) (by decide +kernel)) rfl
theorem sl_X9_takes : Cond.selects RX9 yX9_takes yX9_takes ∈ mGood := mGood_in (List.mem_of_getElem? (i := 41) (by decide +kernel)) rfl
theorem mlX9_111 : Cond.methodLink RX9 111 yX9_waits ∈ mGood := mGood_in (List.mem_of_getElem? (i := 1514) (by decide +kernel)) rfl
theorem cd_X9_waits : Cond.code yX9_waits cX9_waits 4 (some .int) ∈ mGood := mGood_in (List.mem_of_getElem? (i := 1517) (by decide +kernel)) rfl
theorem im_X9_waits : Cond.instanceMethod yX9_waits ∈ mGood := mGood_in (List.mem_of_getElem? (i := 1516) (by decide +kernel)) rfl
theorem sl_X9_waits : Cond.selects RX9 yX9_waits yX9_waits ∈ mGood := mGood_in (List.mem_of_getElem? (i := 31) (by decide +kernel)) rfl
theorem mlX9_127 : Cond.methodLink RX9 127 yX9_slopes ∈ mGood := mGood_in (List.mem_of_getElem? (i := 1577) (by decide +kernel)) rfl
theorem cd_X9_slopes : Cond.code yX9_slopes cX9_slopes 2 (some .int) ∈ mGood := mGood_in (List.mem_of_getElem? (i := 1580) (by decide +kernel)) rfl
theorem im_X9_slopes : Cond.instanceMethod yX9_slopes ∈ mGood := mGood_in (List.mem_of_getElem? (i := 1579) (by decide +kernel)) rfl
theorem sl_X9_slopes : Cond.selects RX9 yX9_slopes yX9_slopes ∈ mGood := mGood_in (List.mem_of_getElem? (i := 42) (by decide +kernel)) rfl
theorem mlX9_130 : Cond.methodLink RX9 130 yX9_opens ∈ mGood := mGood_in (List.mem_of_getElem? (i := 1585) (by decide +kernel)) rfl
theorem cd_X9_opens : Cond.code yX9_opens cX9_opens 4 (some .int) ∈ mGood := mGood_in (List.mem_of_getElem? (i := 1588) (by decide +kernel)) rfl
theorem im_X9_opens : Cond.instanceMethod yX9_opens ∈ mGood := mGood_in (List.mem_of_getElem? (i := 1587) (by decide +kernel)) rfl
theorem sl_X9_opens : Cond.selects RX9 yX9_opens yX9_opens ∈ mGood := mGood_in (List.mem_of_getElem? (i := 43) (by decide +kernel)) rfl
theorem mlX9_105 : Cond.methodLink RX9 105 yX9_isCell ∈ mGood := mGood_in (List.mem_of_getElem? (i := 1507) (by decide +kernel)) rfl
theorem cd_X9_isCell : Cond.code yX9_isCell cX9_isCell 1 (some .boolean) ∈ mGood := mGood_in (List.mem_of_getElem? (i := 1509) (by decide +kernel)) rfl
theorem st_X9_isCell : Cond.static yX9_isCell ∈ mGood := mGood_in (List.mem_of_getElem? (i := 1508) (by decide +kernel)) rfl
theorem mlX9_108 : Cond.methodLink RX9 108 yX9_stones ∈ mGood := mGood_in (List.mem_of_getElem? (i := 1510) (by decide +kernel)) rfl
theorem cd_X9_stones : Cond.code yX9_stones cX9_stones 3 (some .int) ∈ mGood := mGood_in (List.mem_of_getElem? (i := 1513) (by decide +kernel)) rfl
theorem im_X9_stones : Cond.instanceMethod yX9_stones ∈ mGood := mGood_in (List.mem_of_getElem? (i := 1512) (by decide +kernel)) rfl
theorem sl_X9_stones : Cond.selects RX9 yX9_stones yX9_stones ∈ mGood := mGood_in (List.mem_of_getElem? (i := 30) (by decide +kernel)) rfl
theorem mlX9_114 : Cond.methodLink RX9 114 yX9_heaps ∈ mGood := mGood_in (List.mem_of_getElem? (i := 1518) (by decide +kernel)) rfl
theorem cd_X9_heaps : Cond.code yX9_heaps cX9_heaps 4 (some .int) ∈ mGood := mGood_in (List.mem_of_getElem? (i := 1521) (by decide +kernel)) rfl
theorem im_X9_heaps : Cond.instanceMethod yX9_heaps ∈ mGood := mGood_in (List.mem_of_getElem? (i := 1520) (by decide +kernel)) rfl
theorem sl_X9_heaps : Cond.selects RX9 yX9_heaps yX9_heaps ∈ mGood := mGood_in (List.mem_of_getElem? (i := 32) (by decide +kernel)) rfl
theorem lkX9_54 : mFl RX9 54 "HillContestModel" "changes" "I" := Or.inl (mGood_in (List.mem_of_getElem? (i := 1402) (by decide +kernel)) rfl)
theorem lkX9_29 : mFl RX9 29 "HillContestModel" "past" "[I" := Or.inl (mGood_in (List.mem_of_getElem? (i := 1410) (by decide +kernel)) rfl)
theorem lkX9_7 : mFl RX9 7 "HillContestModel" "errorAt" "I" := Or.inl (mGood_in (List.mem_of_getElem? (i := 1403) (by decide +kernel)) rfl)
theorem lkX9_13 : mFl RX9 13 "HillContestModel" "failedAt" "I" := Or.inl (mGood_in (List.mem_of_getElem? (i := 1404) (by decide +kernel)) rfl)
theorem mlX9_99 : Cond.methodLink RX9 99 yX9_rests ∈ mGood := mGood_in (List.mem_of_getElem? (i := 1522) (by decide +kernel)) rfl
theorem cd_X9_rests : Cond.code yX9_rests cX9_rests 3 (some .int) ∈ mGood := mGood_in (List.mem_of_getElem? (i := 1525) (by decide +kernel)) rfl
theorem im_X9_rests : Cond.instanceMethod yX9_rests ∈ mGood := mGood_in (List.mem_of_getElem? (i := 1524) (by decide +kernel)) rfl
theorem sl_X9_rests : Cond.selects RX9 yX9_rests yX9_rests ∈ mGood := mGood_in (List.mem_of_getElem? (i := 33) (by decide +kernel)) rfl
theorem lkX9_23 : mFl RX9 23 "HillContestModel" "saved" "[I" := Or.inl (mGood_in (List.mem_of_getElem? (i := 1408) (by decide +kernel)) rfl)
theorem lkX9_26 : mFl RX9 26 "HillContestModel" "kept" "[I" := Or.inl (mGood_in (List.mem_of_getElem? (i := 1409) (by decide +kernel)) rfl)
theorem lkX9_35 : mFl RX9 35 "HillContestModel" "line" "[I" := Or.inl (mGood_in (List.mem_of_getElem? (i := 1412) (by decide +kernel)) rfl)
theorem lkX9_38 : mFl RX9 38 "HillContestModel" "isLeft" "[I" := Or.inl (mGood_in (List.mem_of_getElem? (i := 1413) (by decide +kernel)) rfl)
theorem lkX9_41 : mFl RX9 41 "HillContestModel" "words" "[I" := Or.inl (mGood_in (List.mem_of_getElem? (i := 1414) (by decide +kernel)) rfl)
theorem lkX9_44 : mFl RX9 44 "HillContestModel" "wordAt" "[I" := Or.inl (mGood_in (List.mem_of_getElem? (i := 1415) (by decide +kernel)) rfl)
theorem mlX9_79 : Cond.methodLink RX9 79 yX9_next ∈ mGood := mGood_in (List.mem_of_getElem? (i := 1526) (by decide +kernel)) rfl
theorem cd_X9_next : Cond.code yX9_next cX9_next 3 (some .int) ∈ mGood := mGood_in (List.mem_of_getElem? (i := 1529) (by decide +kernel)) rfl
theorem im_X9_next : Cond.instanceMethod yX9_next ∈ mGood := mGood_in (List.mem_of_getElem? (i := 1528) (by decide +kernel)) rfl
theorem sl_X9_next : Cond.selects RX9 yX9_next yX9_next ∈ mGood := mGood_in (List.mem_of_getElem? (i := 34) (by decide +kernel)) rfl
theorem mlX9_61 : Cond.methodLink RX9 61 yX9_high ∈ mGood := mGood_in (List.mem_of_getElem? (i := 1542) (by decide +kernel)) rfl
theorem cd_X9_high : Cond.code yX9_high cX9_high 2 (some .int) ∈ mGood := mGood_in (List.mem_of_getElem? (i := 1545) (by decide +kernel)) rfl
theorem im_X9_high : Cond.instanceMethod yX9_high ∈ mGood := mGood_in (List.mem_of_getElem? (i := 1544) (by decide +kernel)) rfl
theorem sl_X9_high : Cond.selects RX9 yX9_high yX9_high ∈ mGood := mGood_in (List.mem_of_getElem? (i := 38) (by decide +kernel)) rfl
theorem mlX9_65 : Cond.methodLink RX9 65 yX9_lower ∈ mGood := mGood_in (List.mem_of_getElem? (i := 1538) (by decide +kernel)) rfl
theorem cd_X9_lower : Cond.code yX9_lower cX9_lower 3 (some .int) ∈ mGood := mGood_in (List.mem_of_getElem? (i := 1541) (by decide +kernel)) rfl
theorem im_X9_lower : Cond.instanceMethod yX9_lower ∈ mGood := mGood_in (List.mem_of_getElem? (i := 1540) (by decide +kernel)) rfl
theorem sl_X9_lower : Cond.selects RX9 yX9_lower yX9_lower ∈ mGood := mGood_in (List.mem_of_getElem? (i := 37) (by decide +kernel)) rfl
theorem mlX9_69 : Cond.methodLink RX9 69 yX9_isEdge ∈ mGood := mGood_in (List.mem_of_getElem? (i := 1546) (by decide +kernel)) rfl
theorem cd_X9_isEdge : Cond.code yX9_isEdge cX9_isEdge 1 (some .boolean) ∈ mGood := mGood_in (List.mem_of_getElem? (i := 1548) (by decide +kernel)) rfl
theorem st_X9_isEdge : Cond.static yX9_isEdge ∈ mGood := mGood_in (List.mem_of_getElem? (i := 1547) (by decide +kernel)) rfl
theorem mlX9_73 : Cond.methodLink RX9 73 yX9_lowest ∈ mGood := mGood_in (List.mem_of_getElem? (i := 1534) (by decide +kernel)) rfl
theorem cd_X9_lowest : Cond.code yX9_lowest cX9_lowest 3 (some .int) ∈ mGood := mGood_in (List.mem_of_getElem? (i := 1537) (by decide +kernel)) rfl
theorem im_X9_lowest : Cond.instanceMethod yX9_lowest ∈ mGood := mGood_in (List.mem_of_getElem? (i := 1536) (by decide +kernel)) rfl
theorem sl_X9_lowest : Cond.selects RX9 yX9_lowest yX9_lowest ∈ mGood := mGood_in (List.mem_of_getElem? (i := 36) (by decide +kernel)) rfl
theorem mlX9_76 : Cond.methodLink RX9 76 yX9_steep ∈ mGood := mGood_in (List.mem_of_getElem? (i := 1530) (by decide +kernel)) rfl
theorem cd_X9_steep : Cond.code yX9_steep cX9_steep 2 (some .int) ∈ mGood := mGood_in (List.mem_of_getElem? (i := 1533) (by decide +kernel)) rfl
theorem im_X9_steep : Cond.instanceMethod yX9_steep ∈ mGood := mGood_in (List.mem_of_getElem? (i := 1532) (by decide +kernel)) rfl
theorem sl_X9_steep : Cond.selects RX9 yX9_steep yX9_steep ∈ mGood := mGood_in (List.mem_of_getElem? (i := 35) (by decide +kernel)) rfl
theorem lkX9_199 : mFl RX9 199 "HillContestModel" "isSaved" "Z" := Or.inl (mGood_in (List.mem_of_getElem? (i := 1405) (by decide +kernel)) rfl)
theorem mlX9_83 : Cond.methodLink RX9 83 yX9_topples ∈ mGood := mGood_in (List.mem_of_getElem? (i := 1549) (by decide +kernel)) rfl
theorem cd_X9_topples : Cond.code yX9_topples cX9_topples 4 none ∈ mGood := mGood_in (List.mem_of_getElem? (i := 1552) (by decide +kernel)) rfl
theorem im_X9_topples : Cond.instanceMethod yX9_topples ∈ mGood := mGood_in (List.mem_of_getElem? (i := 1551) (by decide +kernel)) rfl
theorem sl_X9_topples : Cond.selects RX9 yX9_topples yX9_topples ∈ mGood := mGood_in (List.mem_of_getElem? (i := 39) (by decide +kernel)) rfl
theorem mlX9_187 : Cond.methodLink RX9 187 yX9_commands ∈ mGood := mGood_in (List.mem_of_getElem? (i := 1722) (by decide +kernel)) rfl
theorem cd_X9_commands : Cond.code yX9_commands cX9_commands 2 (some .int) ∈ mGood := mGood_in (List.mem_of_getElem? (i := 1725) (by decide +kernel)) rfl
theorem im_X9_commands : Cond.instanceMethod yX9_commands ∈ mGood := mGood_in (List.mem_of_getElem? (i := 1724) (by decide +kernel)) rfl
theorem sl_X9_commands : Cond.selects RX9 yX9_commands yX9_commands ∈ mGood := mGood_in (List.mem_of_getElem? (i := 48) (by decide +kernel)) rfl
theorem mlX9_133 : Cond.methodLink RX9 133 yX9_topplesIf ∈ mGood := mGood_in (List.mem_of_getElem? (i := 1645) (by decide +kernel)) rfl
