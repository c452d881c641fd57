theorem cw_0 : lw_tbl[293]? = some (Cond.code yX0_init cX0_init 4 none) := by decide +kernel
theorem cw_1 : lw_tbl[700]? = some (Cond.code yX0_search cX0_search 3 none) := by decide +kernel
theorem cw_2 : lw_tbl[705]? = some (Cond.code yX0_tryAllBehind cX0_tryAllBehind 8 none) := by decide +kernel
theorem cw_3 : lw_tbl[718]? = some (Cond.code yX0_tryBehind cX0_tryBehind 8 none) := by decide +kernel
theorem cw_4 : lw_tbl[709]? = some (Cond.code yX0_isHopeless cX0_isHopeless 3 (some .boolean)) := by decide +kernel
theorem cw_5 : lw_tbl[713]? = some (Cond.code yX0_isBetter cX0_isBetter 4 (some .boolean)) := by decide +kernel
theorem cw_6 : lw_tbl[727]? = some (Cond.code yX0_take cX0_take 7 none) := by decide +kernel
theorem cw_7 : lw_tbl[722]? = some (Cond.code yX0_nearAhead cX0_nearAhead 6 (some .int)) := by decide +kernel
theorem cw_8 : lw_tbl[331]? = some (Cond.code yX1_init cX1_init 1 none) := by decide +kernel
theorem cw_9 : lw_tbl[736]? = some (Cond.code yX1_search cX1_search 10 (some .int)) := by decide +kernel
theorem cw_10 : lw_tbl[740]? = some (Cond.code yX1_fewest cX1_fewest 9 (some .int)) := by decide +kernel
theorem cw_11 : lw_tbl[743]? = some (Cond.code yX1_riversIn cX1_riversIn 4 (some .int)) := by decide +kernel
theorem cw_12 : lw_tbl[227]? = some (Cond.code yX2_init cX2_init 1 none) := by decide +kernel
theorem cw_13 : lw_tbl[355]? = some (Cond.code yX2_begin cX2_begin 3 none) := by decide +kernel
theorem cw_14 : lw_tbl[576]? = some (Cond.code yX2_become cX2_become 3 none) := by decide +kernel
theorem cw_15 : lw_tbl[532]? = some (Cond.code yX2_placeOf cX2_placeOf 3 (some .int)) := by decide +kernel
theorem cw_16 : lw_tbl[528]? = some (Cond.code yX2_isLost cX2_isLost 2 (some .boolean)) := by decide +kernel
theorem cw_17 : lw_tbl[524]? = some (Cond.code yX2_isLate cX2_isLate 2 (some .boolean)) := by decide +kernel
theorem cw_18 : lw_tbl[580]? = some (Cond.code yX2_setLate cX2_setLate 3 none) := by decide +kernel
theorem cw_19 : lw_tbl[553]? = some (Cond.code yX2_isRiver cX2_isRiver 2 (some .boolean)) := by decide +kernel
theorem cw_20 : lw_tbl[605]? = some (Cond.code yX2_takeOut cX2_takeOut 4 none) := by decide +kernel
theorem cw_21 : lw_tbl[609]? = some (Cond.code yX2_addBehind cX2_addBehind 2 none) := by decide +kernel
theorem cw_22 : lw_tbl[617]? = some (Cond.code yX2_turnAbout cX2_turnAbout 3 none) := by decide +kernel
theorem cw_23 : lw_tbl[676]? = some (Cond.code yX2_widthOfAll cX2_widthOfAll 3 (some .int)) := by decide +kernel
theorem cw_24 : lw_tbl[811]? = some (Cond.code yX2_cartsAt cX2_cartsAt 4 (some .int)) := by decide +kernel
theorem cw_25 : lw_tbl[278]? = some (Cond.code yX3_init cX3_init 1 none) := by decide +kernel
theorem cw_26 : lw_tbl[367]? = some (Cond.code yX3_measure cX3_measure 7 none) := by decide +kernel
theorem cw_27 : lw_tbl[375]? = some (Cond.code yX3_firstFor cX3_firstFor 3 (some .int)) := by decide +kernel
theorem cw_28 : lw_tbl[371]? = some (Cond.code yX3_setUp cX3_setUp 9 (some .int)) := by decide +kernel
theorem cw_29 : lw_tbl[221]? = some (Cond.code yX4_init cX4_init 2 none) := by decide +kernel
theorem cw_30 : lw_tbl[351]? = some (Cond.code yX4_begin cX4_begin 2 none) := by decide +kernel
theorem cw_31 : lw_tbl[856]? = some (Cond.code yX4_become cX4_become 3 none) := by decide +kernel
theorem cw_32 : lw_tbl[568]? = some (Cond.code yX4_remember cX4_remember 1 none) := by decide +kernel
theorem cw_33 : lw_tbl[572]? = some (Cond.code yX4_loseOldest cX4_loseOldest 3 none) := by decide +kernel
theorem cw_34 : lw_tbl[637]? = some (Cond.code yX4_recall cX4_recall 1 (some .boolean)) := by decide +kernel
theorem cw_35 : lw_tbl[138]? = some (Cond.code yX5_init cX5_init 1 none) := by decide +kernel
theorem cw_36 : lw_tbl[435]? = some (Cond.code yX5_add cX5_add 2 (some .boolean)) := by decide +kernel
theorem cw_37 : lw_tbl[443]? = some (Cond.code yX5_drop cX5_drop 1 none) := by decide +kernel
theorem cw_38 : lw_tbl[451]? = some (Cond.code yX5_readInto cX5_readInto 3 (some .int)) := by decide +kernel
theorem cw_39 : lw_tbl[464]? = some (Cond.code yX5_readItem cX5_readItem 2 (some .boolean)) := by decide +kernel
theorem cw_40 : lw_tbl[468]? = some (Cond.code yX5_readCart cX5_readCart 3 (some .boolean)) := by decide +kernel
theorem cw_41 : lw_tbl[484]? = some (Cond.code yX5_readFeud cX5_readFeud 3 (some .boolean)) := by decide +kernel
theorem cw_42 : lw_tbl[492]? = some (Cond.code yX5_readApart cX5_readApart 2 (some .boolean)) := by decide +kernel
theorem cw_43 : lw_tbl[496]? = some (Cond.code yX5_readMiles cX5_readMiles 2 (some .boolean)) := by decide +kernel
theorem cw_44 : lw_tbl[500]? = some (Cond.code yX5_readGround cX5_readGround 2 (some .boolean)) := by decide +kernel
theorem cw_45 : lw_tbl[504]? = some (Cond.code yX5_groundOfToken cX5_groundOfToken 1 (some .int)) := by decide +kernel
theorem cw_46 : lw_tbl[472]? = some (Cond.code yX5_readNumber cX5_readNumber 3 (some .boolean)) := by decide +kernel
theorem cw_47 : lw_tbl[480]? = some (Cond.code yX5_readSemicolon cX5_readSemicolon 1 (some .boolean)) := by decide +kernel
theorem cw_48 : lw_tbl[456]? = some (Cond.code yX5_readToken cX5_readToken 1 none) := by decide +kernel
theorem cw_49 : lw_tbl[460]? = some (Cond.code yX5_readDigits cX5_readDigits 2 none) := by decide +kernel
theorem cw_50 : lw_tbl[460]? = some (Cond.code yX5_readDigits cX5_readDigits 2 none) := by decide +kernel
theorem cw_51 : lw_tbl[171]? = some (Cond.code yX6_init cX6_init 1 none) := by decide +kernel
theorem cw_52 : lw_tbl[176]? = some (Cond.code yX6_empty cX6_empty 1 none) := by decide +kernel
theorem cw_53 : lw_tbl[512]? = some (Cond.code yX6_become cX6_become 3 none) := by decide +kernel
theorem cw_54 : lw_tbl[476]? = some (Cond.code yX6_addCart cX6_addCart 3 none) := by decide +kernel
theorem cw_55 : lw_tbl[488]? = some (Cond.code yX6_addFeud cX6_addFeud 3 none) := by decide +kernel
theorem cw_56 : lw_tbl[508]? = some (Cond.code yX6_addCell cX6_addCell 2 none) := by decide +kernel
theorem cw_57 : lw_tbl[653]? = some (Cond.code yX6_isFeud cX6_isFeud 3 (some .boolean)) := by decide +kernel
theorem cw_58 : lw_tbl[764]? = some (Cond.code yX6_hours cX6_hours 3 (some .int)) := by decide +kernel
theorem cw_59 : lw_tbl[359]? = some (Cond.code yX6_riverBits cX6_riverBits 4 (some .long)) := by decide +kernel
theorem cw_60 : lw_tbl[130]? = some (Cond.code yX7_init cX7_init 2 none) := by decide +kernel
theorem cw_61 : lw_tbl[431]? = some (Cond.code yX7_type cX7_type 2 (some .int)) := by decide +kernel
theorem cw_62 : lw_tbl[439]? = some (Cond.code yX7_clear cX7_clear 2 (some .int)) := by decide +kernel
theorem cw_63 : lw_tbl[447]? = some (Cond.code yX7_town cX7_town 2 (some .int)) := by decide +kernel
theorem cw_64 : lw_tbl[516]? = some (Cond.code yX7_cart cX7_cart 3 (some .int)) := by decide +kernel
theorem cw_65 : lw_tbl[541]? = some (Cond.code yX7_ground cX7_ground 2 (some .int)) := by decide +kernel
theorem cw_66 : lw_tbl[557]? = some (Cond.code yX7_takes cX7_takes 4 (some .int)) := by decide +kernel
theorem cw_67 : lw_tbl[561]? = some (Cond.code yX7_late cX7_late 3 (some .int)) := by decide +kernel
theorem cw_68 : lw_tbl[584]? = some (Cond.code yX7_nine cX7_nine 2 (some .int)) := by decide +kernel
theorem cw_69 : lw_tbl[601]? = some (Cond.code yX7_pin cX7_pin 3 (some .int)) := by decide +kernel
theorem cw_70 : lw_tbl[613]? = some (Cond.code yX7_storm cX7_storm 1 (some .int)) := by decide +kernel
theorem cw_71 : lw_tbl[621]? = some (Cond.code yX7_widens cX7_widens 2 (some .int)) := by decide +kernel
theorem cw_72 : lw_tbl[625]? = some (Cond.code yX7_floods cX7_floods 3 (some .int)) := by decide +kernel
theorem cw_73 : lw_tbl[629]? = some (Cond.code yX7_loses cX7_loses 3 (some .int)) := by decide +kernel
theorem cw_74 : lw_tbl[633]? = some (Cond.code yX7_undo cX7_undo 1 (some .int)) := by decide +kernel
theorem cw_75 : lw_tbl[641]? = some (Cond.code yX7_now cX7_now 2 (some .int)) := by decide +kernel
theorem cw_76 : lw_tbl[680]? = some (Cond.code yX7_order cX7_order 2 (some .int)) := by decide +kernel
theorem cw_77 : lw_tbl[684]? = some (Cond.code yX7_between cX7_between 3 (some .int)) := by decide +kernel
theorem cw_78 : lw_tbl[692]? = some (Cond.code yX7_windward cX7_windward 5 (some .int)) := by decide +kernel
theorem cw_79 : lw_tbl[696]? = some (Cond.code yX7_best cX7_best 2 (some .int)) := by decide +kernel
theorem cw_80 : lw_tbl[732]? = some (Cond.code yX7_ropes cX7_ropes 3 (some .int)) := by decide +kernel
theorem cw_81 : lw_tbl[757]? = some (Cond.code yX7_dark cX7_dark 3 (some .int)) := by decide +kernel
theorem cw_82 : lw_tbl[768]? = some (Cond.code yX7_soon cX7_soon 5 (some .int)) := by decide +kernel
theorem cw_83 : lw_tbl[780]? = some (Cond.code yX7_saw cX7_saw 3 (some .int)) := by decide +kernel
theorem cw_84 : lw_tbl[784]? = some (Cond.code yX7_forget cX7_forget 2 (some .int)) := by decide +kernel
theorem cw_85 : lw_tbl[788]? = some (Cond.code yX7_who cX7_who 4 (some .int)) := by decide +kernel
theorem cw_86 : lw_tbl[800]? = some (Cond.code yX7_odds cX7_odds 8 (some .int)) := by decide +kernel
theorem cw_87 : lw_tbl[818]? = some (Cond.code yX7_mark cX7_mark 3 (some .int)) := by decide +kernel
theorem cw_88 : lw_tbl[852]? = some (Cond.code yX7_keep cX7_keep 2 (some .int)) := by decide +kernel
theorem cw_89 : lw_tbl[860]? = some (Cond.code yX7_back cX7_back 2 (some .int)) := by decide +kernel
theorem cw_90 : lw_tbl[864]? = some (Cond.code yX7_count cX7_count 2 (some .int)) := by decide +kernel
theorem cw_91 : lw_tbl[868]? = some (Cond.code yX7_trace cX7_trace 1 (some .long)) := by decide +kernel
theorem cw_92 : lw_tbl[520]? = some (Cond.code yX7_isCart cX7_isCart 2 (some .boolean)) := by decide +kernel
theorem cw_93 : lw_tbl[688]? = some (Cond.code yX7_areTwo cX7_areTwo 3 (some .boolean)) := by decide +kernel
theorem cw_94 : lw_tbl[545]? = some (Cond.code yX7_isCell cX7_isCell 2 (some .boolean)) := by decide +kernel
theorem cw_95 : lw_tbl[564]? = some (Cond.code yX7_isFlag cX7_isFlag 1 (some .boolean)) := by decide +kernel
theorem cw_96 : lw_tbl[760]? = some (Cond.code yX7_isHour cX7_isHour 1 (some .boolean)) := by decide +kernel
theorem cw_97 : lw_tbl[347]? = some (Cond.code yX7_startAsTold cX7_startAsTold 2 none) := by decide +kernel
theorem cw_98 : lw_tbl[363]? = some (Cond.code yX7_settle cX7_settle 1 none) := by decide +kernel
theorem cw_99 : lw_tbl[549]? = some (Cond.code yX7_groundNow cX7_groundNow 2 (some .int)) := by decide +kernel
theorem cw_100 : lw_tbl[536]? = some (Cond.code yX7_cellOf cX7_cellOf 2 (some .int)) := by decide +kernel
theorem cw_101 : lw_tbl[657]? = some (Cond.code yX7_cellsBetween cX7_cellsBetween 5 (some .int)) := by decide +kernel
theorem cw_102 : lw_tbl[660]? = some (Cond.code yX7_gap cX7_gap 4 (some .int)) := by decide +kernel
theorem cw_103 : lw_tbl[645]? = some (Cond.code yX7_breaks cX7_breaks 5 (some .int)) := by decide +kernel
theorem cw_104 : lw_tbl[649]? = some (Cond.code yX7_nearTwos cX7_nearTwos 5 (some .int)) := by decide +kernel
theorem cw_105 : lw_tbl[664]? = some (Cond.code yX7_onHills cX7_onHills 4 (some .int)) := by decide +kernel
theorem cw_106 : lw_tbl[668]? = some (Cond.code yX7_hasHill cX7_hasHill 4 (some .boolean)) := by decide +kernel
theorem cw_107 : lw_tbl[672]? = some (Cond.code yX7_lastTaken cX7_lastTaken 3 (some .int)) := by decide +kernel
theorem cw_108 : lw_tbl[594]? = some (Cond.code yX7_partRow cX7_partRow 6 none) := by decide +kernel
theorem cw_109 : lw_tbl[772]? = some (Cond.code yX7_isQuick cX7_isQuick 3 (some .boolean)) := by decide +kernel
theorem cw_110 : lw_tbl[776]? = some (Cond.code yX7_ithOfPace cX7_ithOfPace 6 (some .int)) := by decide +kernel
theorem cw_111 : lw_tbl[792]? = some (Cond.code yX7_allSeenIn cX7_allSeenIn 3 (some .boolean)) := by decide +kernel
theorem cw_112 : lw_tbl[796]? = some (Cond.code yX7_standsRightAhead cX7_standsRightAhead 5 (some .boolean)) := by decide +kernel
theorem cw_113 : lw_tbl[804]? = some (Cond.code yX7_waysToStandAt cX7_waysToStandAt 9 (some .int)) := by decide +kernel
theorem cw_114 : lw_tbl[807]? = some (Cond.code yX7_power cX7_power 4 (some .int)) := by decide +kernel
theorem cw_115 : lw_tbl[814]? = some (Cond.code yX7_commonDivisor cX7_commonDivisor 6 (some .int)) := by decide +kernel
theorem cw_116 : lw_tbl[823]? = some (Cond.code yX7_markOfCart cX7_markOfCart 2 (some .int)) := by decide +kernel
theorem cw_117 : lw_tbl[827]? = some (Cond.code yX7_markOfChurch cX7_markOfChurch 2 (some .int)) := by decide +kernel
theorem cw_118 : lw_tbl[832]? = some (Cond.code yX7_markOfBaker cX7_markOfBaker 3 (some .int)) := by decide +kernel
theorem cw_119 : lw_tbl[837]? = some (Cond.code yX7_markOfMill cX7_markOfMill 2 (some .int)) := by decide +kernel
theorem cw_120 : lw_tbl[842]? = some (Cond.code yX7_markOfDyer cX7_markOfDyer 2 (some .int)) := by decide +kernel
theorem cw_121 : lw_tbl[847]? = some (Cond.code yX7_markOfGuest cX7_markOfGuest 2 (some .int)) := by decide +kernel
theorem cw_122 : lw_tbl[873]? = some (Cond.code yX8_init cX8_init 1 none) := by decide +kernel
theorem cw_123 : lw_tbl[970]? = some (Cond.code yX8_in cX8_in 3 (some .boolean)) := by decide +kernel
theorem cw_124 : lw_tbl[967]? = some (Cond.code yX8_type cX8_type 2 (some .int)) := by decide +kernel
theorem cw_125 : lw_tbl[974]? = some (Cond.code yX8_clear cX8_clear 2 (some .int)) := by decide +kernel
theorem cw_126 : lw_tbl[986]? = some (Cond.code yX8_here cX8_here 1 (some .int)) := by decide +kernel
theorem cw_127 : lw_tbl[982]? = some (Cond.code yX8_step cX8_step 2 none) := by decide +kernel
theorem cw_128 : lw_tbl[994]? = some (Cond.code yX8_due cX8_due 3 (some .int)) := by decide +kernel
theorem cw_129 : lw_tbl[1002]? = some (Cond.code yX8_number cX8_number 3 (some .int)) := by decide +kernel
theorem cw_130 : lw_tbl[990]? = some (Cond.code yX8_mayBe cX8_mayBe 2 (some .boolean)) := by decide +kernel
theorem cw_131 : lw_tbl[1009]? = some (Cond.code yX8_groundOf cX8_groundOf 1 (some .int)) := by decide +kernel
theorem cw_132 : lw_tbl[1006]? = some (Cond.code yX8_readGround cX8_readGround 3 none) := by decide +kernel
theorem cw_133 : lw_tbl[998]? = some (Cond.code yX8_readRow cX8_readRow 4 none) := by decide +kernel
theorem cw_134 : lw_tbl[878]? = some (Cond.code yX8_plain cX8_plain 2 none) := by decide +kernel
theorem cw_135 : lw_tbl[882]? = some (Cond.code yX8_takeDraft cX8_takeDraft 2 none) := by decide +kernel
theorem cw_136 : lw_tbl[978]? = some (Cond.code yX8_town cX8_town 3 (some .int)) := by decide +kernel
theorem cw_137 : lw_tbl[1017]? = some (Cond.code yX8_isCart cX8_isCart 2 (some .boolean)) := by decide +kernel
theorem cw_138 : lw_tbl[1057]? = some (Cond.code yX8_isCell cX8_isCell 2 (some .boolean)) := by decide +kernel
theorem cw_139 : lw_tbl[1021]? = some (Cond.code yX8_isLate cX8_isLate 2 (some .boolean)) := by decide +kernel
theorem cw_140 : lw_tbl[1222]? = some (Cond.code yX8_manyOf cX8_manyOf 3 (some .int)) := by decide +kernel
theorem cw_141 : lw_tbl[1025]? = some (Cond.code yX8_placeOf cX8_placeOf 3 (some .int)) := by decide +kernel
theorem cw_142 : lw_tbl[1037]? = some (Cond.code yX8_takeLand cX8_takeLand 2 none) := by decide +kernel
theorem cw_143 : lw_tbl[1041]? = some (Cond.code yX8_takeRow cX8_takeRow 2 none) := by decide +kernel
theorem cw_144 : lw_tbl[1049]? = some (Cond.code yX8_isFree cX8_isFree 5 (some .boolean)) := by decide +kernel
theorem cw_145 : lw_tbl[1045]? = some (Cond.code yX8_setUp cX8_setUp 6 none) := by decide +kernel
theorem cw_146 : lw_tbl[1033]? = some (Cond.code yX8_setUpNow cX8_setUpNow 1 none) := by decide +kernel
theorem cw_147 : lw_tbl[1029]? = some (Cond.code yX8_cellOf cX8_cellOf 2 (some .int)) := by decide +kernel
theorem cw_148 : lw_tbl[1113]? = some (Cond.code yX8_breaks cX8_breaks 5 (some .int)) := by decide +kernel
theorem cw_149 : lw_tbl[1121]? = some (Cond.code yX8_betweenOf cX8_betweenOf 3 (some .int)) := by decide +kernel
theorem cw_150 : lw_tbl[1117]? = some (Cond.code yX8_nearOf cX8_nearOf 8 (some .int)) := by decide +kernel
theorem cw_151 : lw_tbl[1109]? = some (Cond.code yX8_outs cX8_outs 3 (some .int)) := by decide +kernel
theorem cw_152 : lw_tbl[1129]? = some (Cond.code yX8_lastOf cX8_lastOf 6 (some .int)) := by decide +kernel
theorem cw_153 : lw_tbl[1125]? = some (Cond.code yX8_onHills cX8_onHills 5 (some .int)) := by decide +kernel
theorem cw_154 : lw_tbl[1133]? = some (Cond.code yX8_least cX8_least 3 (some .int)) := by decide +kernel
theorem cw_155 : lw_tbl[1013]? = some (Cond.code yX8_cart cX8_cart 3 (some .int)) := by decide +kernel
theorem cw_156 : lw_tbl[1053]? = some (Cond.code yX8_ground cX8_ground 2 (some .int)) := by decide +kernel
theorem cw_157 : lw_tbl[1061]? = some (Cond.code yX8_takes cX8_takes 5 (some .int)) := by decide +kernel
theorem cw_158 : lw_tbl[1069]? = some (Cond.code yX8_know cX8_know 2 none) := by decide +kernel
theorem cw_159 : lw_tbl[1077]? = some (Cond.code yX8_goBehind cX8_goBehind 4 none) := by decide +kernel
theorem cw_160 : lw_tbl[1065]? = some (Cond.code yX8_late cX8_late 3 (some .int)) := by decide +kernel
theorem cw_161 : lw_tbl[1073]? = some (Cond.code yX8_nine cX8_nine 4 (some .int)) := by decide +kernel
theorem cw_162 : lw_tbl[1081]? = some (Cond.code yX8_pin cX8_pin 3 (some .int)) := by decide +kernel
theorem cw_163 : lw_tbl[1085]? = some (Cond.code yX8_storm cX8_storm 4 (some .int)) := by decide +kernel
theorem cw_164 : lw_tbl[1089]? = some (Cond.code yX8_widens cX8_widens 2 (some .int)) := by decide +kernel
theorem cw_165 : lw_tbl[1093]? = some (Cond.code yX8_floods cX8_floods 3 (some .int)) := by decide +kernel
theorem cw_166 : lw_tbl[1097]? = some (Cond.code yX8_loses cX8_loses 4 (some .int)) := by decide +kernel
theorem cw_167 : lw_tbl[1101]? = some (Cond.code yX8_undo cX8_undo 2 (some .int)) := by decide +kernel
theorem cw_168 : lw_tbl[1105]? = some (Cond.code yX8_now cX8_now 2 (some .int)) := by decide +kernel
theorem cw_169 : lw_tbl[1137]? = some (Cond.code yX8_order cX8_order 2 (some .int)) := by decide +kernel
theorem cw_170 : lw_tbl[1145]? = some (Cond.code yX8_doesStand cX8_doesStand 2 (some .boolean)) := by decide +kernel
theorem cw_171 : lw_tbl[1141]? = some (Cond.code yX8_between cX8_between 3 (some .int)) := by decide +kernel
theorem cw_172 : lw_tbl[1149]? = some (Cond.code yX8_windward cX8_windward 3 (some .int)) := by decide +kernel
theorem cw_173 : lw_tbl[1157]? = some (Cond.code yX8_firstRow cX8_firstRow 2 none) := by decide +kernel
theorem cw_174 : lw_tbl[1166]? = some (Cond.code yX8_nextRow cX8_nextRow 6 (some .boolean)) := by decide +kernel
theorem cw_175 : lw_tbl[1162]? = some (Cond.code yX8_keepRow cX8_keepRow 2 none) := by decide +kernel
theorem cw_176 : lw_tbl[1153]? = some (Cond.code yX8_best cX8_best 9 (some .int)) := by decide +kernel
theorem cw_177 : lw_tbl[1178]? = some (Cond.code yX8_isDone cX8_isDone 4 (some .boolean)) := by decide +kernel
theorem cw_178 : lw_tbl[1174]? = some (Cond.code yX8_isRiver cX8_isRiver 2 (some .boolean)) := by decide +kernel
theorem cw_179 : lw_tbl[1170]? = some (Cond.code yX8_ropes cX8_ropes 6 (some .int)) := by decide +kernel
theorem cw_180 : lw_tbl[1186]? = some (Cond.code yX8_inBy cX8_inBy 6 (some .int)) := by decide +kernel
theorem cw_181 : lw_tbl[1182]? = some (Cond.code yX8_dark cX8_dark 2 (some .int)) := by decide +kernel
theorem cw_182 : lw_tbl[1190]? = some (Cond.code yX8_soon cX8_soon 6 (some .int)) := by decide +kernel
theorem cw_183 : lw_tbl[1194]? = some (Cond.code yX8_saw cX8_saw 3 (some .int)) := by decide +kernel
theorem cw_184 : lw_tbl[1198]? = some (Cond.code yX8_forget cX8_forget 2 (some .int)) := by decide +kernel
theorem cw_185 : lw_tbl[1206]? = some (Cond.code yX8_isSo cX8_isSo 6 (some .boolean)) := by decide +kernel
theorem cw_186 : lw_tbl[1202]? = some (Cond.code yX8_who cX8_who 3 (some .int)) := by decide +kernel
theorem cw_187 : lw_tbl[1210]? = some (Cond.code yX8_odds cX8_odds 12 (some .int)) := by decide +kernel
theorem cw_188 : lw_tbl[1214]? = some (Cond.code yX8_mark cX8_mark 6 (some .int)) := by decide +kernel
theorem cw_189 : lw_tbl[1227]? = some (Cond.code yX8_keep cX8_keep 3 (some .int)) := by decide +kernel
theorem cw_190 : lw_tbl[1231]? = some (Cond.code yX8_back cX8_back 3 (some .int)) := by decide +kernel
theorem cw_191 : lw_tbl[1235]? = some (Cond.code yX8_count cX8_count 2 (some .int)) := by decide +kernel
theorem cw_192 : lw_tbl[1239]? = some (Cond.code yX8_trace cX8_trace 1 (some .long)) := by decide +kernel
theorem cw_193 : lw_tbl[587]? = some (Cond.code yJ6_bitCount_0f7a4 cJ6_bitCount_0f7a4 1 (some .int)) := by decide +kernel
theorem cw_194 : lw_tbl[746]? = some (Cond.code yJ13_bitCount_95d88 cJ13_bitCount_95d88 2 (some .int)) := by decide +kernel
theorem cwT0 : ∀ q ∈ mTab0, Cond.code q.2.1 q.2.2.1 q.2.2.2.1 q.2.2.2.2.1 ∈ lw_tbl := List.forall_mem_cons.mpr ⟨List.mem_of_getElem? cw_0, List.forall_mem_cons.mpr ⟨List.mem_of_getElem? cw_1, List.forall_mem_cons.mpr ⟨List.mem_of_getElem? cw_2, List.forall_mem_cons.mpr ⟨List.mem_of_getElem? cw_3, List.forall_mem_cons.mpr ⟨List.mem_of_getElem? cw_4, List.forall_mem_cons.mpr ⟨List.mem_of_getElem? cw_5, List.forall_mem_cons.mpr ⟨List.mem_of_getElem? cw_6, List.forall_mem_cons.mpr ⟨List.mem_of_getElem? cw_7, List.forall_mem_cons.mpr ⟨List.mem_of_getElem? cw_8, List.forall_mem_cons.mpr ⟨List.mem_of_getElem? cw_9, List.forall_mem_cons.mpr ⟨List.mem_of_getElem? cw_10, List.forall_mem_cons.mpr ⟨List.mem_of_getElem? cw_11, List.forall_mem_cons.mpr ⟨List.mem_of_getElem? cw_12, List.forall_mem_cons.mpr ⟨List.mem_of_getElem? cw_13, List.forall_mem_cons.mpr ⟨List.mem_of_getElem? cw_14, List.forall_mem_cons.mpr ⟨List.mem_of_getElem? cw_15, List.forall_mem_cons.mpr ⟨List.mem_of_getElem? cw_16, List.forall_mem_cons.mpr ⟨List.mem_of_getElem? cw_17, List.forall_mem_cons.mpr ⟨List.mem_of_getElem? cw_18, List.forall_mem_cons.mpr ⟨List.mem_of_getElem? cw_19, List.forall_mem_cons.mpr ⟨List.mem_of_getElem? cw_20, List.forall_mem_cons.mpr ⟨List.mem_of_getElem? cw_21, List.forall_mem_cons.mpr ⟨List.mem_of_getElem? cw_22, List.forall_mem_cons.mpr ⟨List.mem_of_getElem? cw_23, List.forall_mem_cons.mpr ⟨List.mem_of_getElem? cw_24, fun _ h => absurd h List.not_mem_nil⟩⟩⟩⟩⟩⟩⟩⟩⟩⟩⟩⟩⟩⟩⟩⟩⟩⟩⟩⟩⟩⟩⟩⟩⟩
theorem cwT1 : ∀ q ∈ mTab1, Cond.code q.2.1 q.2.2.1 q.2.2.2.1 q.2.2.2.2.1 ∈ lw_tbl := List.forall_mem_cons.mpr ⟨List.mem_of_getElem? cw_25, List.forall_mem_cons.mpr ⟨List.mem_of_getElem? cw_26, List.forall_mem_cons.mpr ⟨List.mem_of_getElem? cw_27, List.forall_mem_cons.mpr ⟨List.mem_of_getElem? cw_28, List.forall_mem_cons.mpr ⟨List.mem_of_getElem? cw_29, List.forall_mem_cons.mpr ⟨List.mem_of_getElem? cw_30, List.forall_mem_cons.mpr ⟨List.mem_of_getElem? cw_31, List.forall_mem_cons.mpr ⟨List.mem_of_getElem? cw_32, List.forall_mem_cons.mpr ⟨List.mem_of_getElem? cw_33, List.forall_mem_cons.mpr ⟨List.mem_of_getElem? cw_34, List.forall_mem_cons.mpr ⟨List.mem_of_getElem? cw_35, List.forall_mem_cons.mpr ⟨List.mem_of_getElem? cw_36, List.forall_mem_cons.mpr ⟨List.mem_of_getElem? cw_37, List.forall_mem_cons.mpr ⟨List.mem_of_getElem? cw_38, List.forall_mem_cons.mpr ⟨List.mem_of_getElem? cw_39, List.forall_mem_cons.mpr ⟨List.mem_of_getElem? cw_40, List.forall_mem_cons.mpr ⟨List.mem_of_getElem? cw_41, List.forall_mem_cons.mpr ⟨List.mem_of_getElem? cw_42, List.forall_mem_cons.mpr ⟨List.mem_of_getElem? cw_43, List.forall_mem_cons.mpr ⟨List.mem_of_getElem? cw_44, List.forall_mem_cons.mpr ⟨List.mem_of_getElem? cw_45, List.forall_mem_cons.mpr ⟨List.mem_of_getElem? cw_46, List.forall_mem_cons.mpr ⟨List.mem_of_getElem? cw_47, List.forall_mem_cons.mpr ⟨List.mem_of_getElem? cw_48, List.forall_mem_cons.mpr ⟨List.mem_of_getElem? cw_49, fun _ h => absurd h List.not_mem_nil⟩⟩⟩⟩⟩⟩⟩⟩⟩⟩⟩⟩⟩⟩⟩⟩⟩⟩⟩⟩⟩⟩⟩⟩⟩
theorem cwT2 : ∀ q ∈ mTab2, Cond.code q.2.1 q.2.2.1 q.2.2.2.1 q.2.2.2.2.1 ∈ lw_tbl := List.forall_mem_cons.mpr ⟨List.mem_of_getElem? cw_50, List.forall_mem_cons.mpr ⟨List.mem_of_getElem? cw_51, List.forall_mem_cons.mpr ⟨List.mem_of_getElem? cw_52, List.forall_mem_cons.mpr ⟨List.mem_of_getElem? cw_53, List.forall_mem_cons.mpr ⟨List.mem_of_getElem? cw_54, List.forall_mem_cons.mpr ⟨List.mem_of_getElem? cw_55, List.forall_mem_cons.mpr ⟨List.mem_of_getElem? cw_56, List.forall_mem_cons.mpr ⟨List.mem_of_getElem? cw_57, List.forall_mem_cons.mpr ⟨List.mem_of_getElem? cw_58, List.forall_mem_cons.mpr ⟨List.mem_of_getElem? cw_59, List.forall_mem_cons.mpr ⟨List.mem_of_getElem? cw_60, List.forall_mem_cons.mpr ⟨List.mem_of_getElem? cw_61, List.forall_mem_cons.mpr ⟨List.mem_of_getElem? cw_62, List.forall_mem_cons.mpr ⟨List.mem_of_getElem? cw_63, List.forall_mem_cons.mpr ⟨List.mem_of_getElem? cw_64, List.forall_mem_cons.mpr ⟨List.mem_of_getElem? cw_65, List.forall_mem_cons.mpr ⟨List.mem_of_getElem? cw_66, List.forall_mem_cons.mpr ⟨List.mem_of_getElem? cw_67, List.forall_mem_cons.mpr ⟨List.mem_of_getElem? cw_68, List.forall_mem_cons.mpr ⟨List.mem_of_getElem? cw_69, List.forall_mem_cons.mpr ⟨List.mem_of_getElem? cw_70, List.forall_mem_cons.mpr ⟨List.mem_of_getElem? cw_71, List.forall_mem_cons.mpr ⟨List.mem_of_getElem? cw_72, List.forall_mem_cons.mpr ⟨List.mem_of_getElem? cw_73, List.forall_mem_cons.mpr ⟨List.mem_of_getElem? cw_74, fun _ h => absurd h List.not_mem_nil⟩⟩⟩⟩⟩⟩⟩⟩⟩⟩⟩⟩⟩⟩⟩⟩⟩⟩⟩⟩⟩⟩⟩⟩⟩
theorem cwT3 : ∀ q ∈ mTab3, Cond.code q.2.1 q.2.2.1 q.2.2.2.1 q.2.2.2.2.1 ∈ lw_tbl := List.forall_mem_cons.mpr ⟨List.mem_of_getElem? cw_75, List.forall_mem_cons.mpr ⟨List.mem_of_getElem? cw_76, List.forall_mem_cons.mpr ⟨List.mem_of_getElem? cw_77, List.forall_mem_cons.mpr ⟨List.mem_of_getElem? cw_78, List.forall_mem_cons.mpr ⟨List.mem_of_getElem? cw_79, List.forall_mem_cons.mpr ⟨List.mem_of_getElem? cw_80, List.forall_mem_cons.mpr ⟨List.mem_of_getElem? cw_81, List.forall_mem_cons.mpr ⟨List.mem_of_getElem? cw_82, List.forall_mem_cons.mpr ⟨List.mem_of_getElem? cw_83, List.forall_mem_cons.mpr ⟨List.mem_of_getElem? cw_84, List.forall_mem_cons.mpr ⟨List.mem_of_getElem? cw_85, List.forall_mem_cons.mpr ⟨List.mem_of_getElem? cw_86, List.forall_mem_cons.mpr ⟨List.mem_of_getElem? cw_87, List.forall_mem_cons.mpr ⟨List.mem_of_getElem? cw_88, List.forall_mem_cons.mpr ⟨List.mem_of_getElem? cw_89, List.forall_mem_cons.mpr ⟨List.mem_of_getElem? cw_90, List.forall_mem_cons.mpr ⟨List.mem_of_getElem? cw_91, List.forall_mem_cons.mpr ⟨List.mem_of_getElem? cw_92, List.forall_mem_cons.mpr ⟨List.mem_of_getElem? cw_93, List.forall_mem_cons.mpr ⟨List.mem_of_getElem? cw_94, List.forall_mem_cons.mpr ⟨List.mem_of_getElem? cw_95, List.forall_mem_cons.mpr ⟨List.mem_of_getElem? cw_96, List.forall_mem_cons.mpr ⟨List.mem_of_getElem? cw_97, List.forall_mem_cons.mpr ⟨List.mem_of_getElem? cw_98, List.forall_mem_cons.mpr ⟨List.mem_of_getElem? cw_99, fun _ h => absurd h List.not_mem_nil⟩⟩⟩⟩⟩⟩⟩⟩⟩⟩⟩⟩⟩⟩⟩⟩⟩⟩⟩⟩⟩⟩⟩⟩⟩
theorem cwT4 : ∀ q ∈ mTab4, Cond.code q.2.1 q.2.2.1 q.2.2.2.1 q.2.2.2.2.1 ∈ lw_tbl := List.forall_mem_cons.mpr ⟨List.mem_of_getElem? cw_100, List.forall_mem_cons.mpr ⟨List.mem_of_getElem? cw_101, List.forall_mem_cons.mpr ⟨List.mem_of_getElem? cw_102, List.forall_mem_cons.mpr ⟨List.mem_of_getElem? cw_103, List.forall_mem_cons.mpr ⟨List.mem_of_getElem? cw_104, List.forall_mem_cons.mpr ⟨List.mem_of_getElem? cw_105, List.forall_mem_cons.mpr ⟨List.mem_of_getElem? cw_106, List.forall_mem_cons.mpr ⟨List.mem_of_getElem? cw_107, List.forall_mem_cons.mpr ⟨List.mem_of_getElem? cw_108, List.forall_mem_cons.mpr ⟨List.mem_of_getElem? cw_109, List.forall_mem_cons.mpr ⟨List.mem_of_getElem? cw_110, List.forall_mem_cons.mpr ⟨List.mem_of_getElem? cw_111, List.forall_mem_cons.mpr ⟨List.mem_of_getElem? cw_112, List.forall_mem_cons.mpr ⟨List.mem_of_getElem? cw_113, List.forall_mem_cons.mpr ⟨List.mem_of_getElem? cw_114, List.forall_mem_cons.mpr ⟨List.mem_of_getElem? cw_115, List.forall_mem_cons.mpr ⟨List.mem_of_getElem? cw_116, List.forall_mem_cons.mpr ⟨List.mem_of_getElem? cw_117, List.forall_mem_cons.mpr ⟨List.mem_of_getElem? cw_118, List.forall_mem_cons.mpr ⟨List.mem_of_getElem? cw_119, List.forall_mem_cons.mpr ⟨List.mem_of_getElem? cw_120, List.forall_mem_cons.mpr ⟨List.mem_of_getElem? cw_121, List.forall_mem_cons.mpr ⟨List.mem_of_getElem? cw_122, List.forall_mem_cons.mpr ⟨List.mem_of_getElem? cw_123, List.forall_mem_cons.mpr ⟨List.mem_of_getElem? cw_124, fun _ h => absurd h List.not_mem_nil⟩⟩⟩⟩⟩⟩⟩⟩⟩⟩⟩⟩⟩⟩⟩⟩⟩⟩⟩⟩⟩⟩⟩⟩⟩
theorem cwT5 : ∀ q ∈ mTab5, Cond.code q.2.1 q.2.2.1 q.2.2.2.1 q.2.2.2.2.1 ∈ lw_tbl := List.forall_mem_cons.mpr ⟨List.mem_of_getElem? cw_125, List.forall_mem_cons.mpr ⟨List.mem_of_getElem? cw_126, List.forall_mem_cons.mpr ⟨List.mem_of_getElem? cw_127, List.forall_mem_cons.mpr ⟨List.mem_of_getElem? cw_128, List.forall_mem_cons.mpr ⟨List.mem_of_getElem? cw_129, List.forall_mem_cons.mpr ⟨List.mem_of_getElem? cw_130, List.forall_mem_cons.mpr ⟨List.mem_of_getElem? cw_131, List.forall_mem_cons.mpr ⟨List.mem_of_getElem? cw_132, List.forall_mem_cons.mpr ⟨List.mem_of_getElem? cw_133, List.forall_mem_cons.mpr ⟨List.mem_of_getElem? cw_134, List.forall_mem_cons.mpr ⟨List.mem_of_getElem? cw_135, List.forall_mem_cons.mpr ⟨List.mem_of_getElem? cw_136, List.forall_mem_cons.mpr ⟨List.mem_of_getElem? cw_137, List.forall_mem_cons.mpr ⟨List.mem_of_getElem? cw_138, List.forall_mem_cons.mpr ⟨List.mem_of_getElem? cw_139, List.forall_mem_cons.mpr ⟨List.mem_of_getElem? cw_140, List.forall_mem_cons.mpr ⟨List.mem_of_getElem? cw_141, List.forall_mem_cons.mpr ⟨List.mem_of_getElem? cw_142, List.forall_mem_cons.mpr ⟨List.mem_of_getElem? cw_143, List.forall_mem_cons.mpr ⟨List.mem_of_getElem? cw_144, List.forall_mem_cons.mpr ⟨List.mem_of_getElem? cw_145, List.forall_mem_cons.mpr ⟨List.mem_of_getElem? cw_146, List.forall_mem_cons.mpr ⟨List.mem_of_getElem? cw_147, List.forall_mem_cons.mpr ⟨List.mem_of_getElem? cw_148, List.forall_mem_cons.mpr ⟨List.mem_of_getElem? cw_149, fun _ h => absurd h List.not_mem_nil⟩⟩⟩⟩⟩⟩⟩⟩⟩⟩⟩⟩⟩⟩⟩⟩⟩⟩⟩⟩⟩⟩⟩⟩⟩
theorem cwT6 : ∀ q ∈ mTab6, Cond.code q.2.1 q.2.2.1 q.2.2.2.1 q.2.2.2.2.1 ∈ lw_tbl := List.forall_mem_cons.mpr ⟨List.mem_of_getElem? cw_150, List.forall_mem_cons.mpr ⟨List.mem_of_getElem? cw_151, List.forall_mem_cons.mpr ⟨List.mem_of_getElem? cw_152, List.forall_mem_cons.mpr ⟨List.mem_of_getElem? cw_153, List.forall_mem_cons.mpr ⟨List.mem_of_getElem? cw_154, List.forall_mem_cons.mpr ⟨List.mem_of_getElem? cw_155, List.forall_mem_cons.mpr ⟨List.mem_of_getElem? cw_156, List.forall_mem_cons.mpr ⟨List.mem_of_getElem? cw_157, List.forall_mem_cons.mpr ⟨List.mem_of_getElem? cw_158, List.forall_mem_cons.mpr ⟨List.mem_of_getElem? cw_159, List.forall_mem_cons.mpr ⟨List.mem_of_getElem? cw_160, List.forall_mem_cons.mpr ⟨List.mem_of_getElem? cw_161, List.forall_mem_cons.mpr ⟨List.mem_of_getElem? cw_162, List.forall_mem_cons.mpr ⟨List.mem_of_getElem? cw_163, List.forall_mem_cons.mpr ⟨List.mem_of_getElem? cw_164, List.forall_mem_cons.mpr ⟨List.mem_of_getElem? cw_165, List.forall_mem_cons.mpr ⟨List.mem_of_getElem? cw_166, List.forall_mem_cons.mpr ⟨List.mem_of_getElem? cw_167, List.forall_mem_cons.mpr ⟨List.mem_of_getElem? cw_168, List.forall_mem_cons.mpr ⟨List.mem_of_getElem? cw_169, List.forall_mem_cons.mpr ⟨List.mem_of_getElem? cw_170, List.forall_mem_cons.mpr ⟨List.mem_of_getElem? cw_171, List.forall_mem_cons.mpr ⟨List.mem_of_getElem? cw_172, List.forall_mem_cons.mpr ⟨List.mem_of_getElem? cw_173, List.forall_mem_cons.mpr ⟨List.mem_of_getElem? cw_174, fun _ h => absurd h List.not_mem_nil⟩⟩⟩⟩⟩⟩⟩⟩⟩⟩⟩⟩⟩⟩⟩⟩⟩⟩⟩⟩⟩⟩⟩⟩⟩
theorem cwT7 : ∀ q ∈ mTab7, Cond.code q.2.1 q.2.2.1 q.2.2.2.1 q.2.2.2.2.1 ∈ lw_tbl := List.forall_mem_cons.mpr ⟨List.mem_of_getElem? cw_175, List.forall_mem_cons.mpr ⟨List.mem_of_getElem? cw_176, List.forall_mem_cons.mpr ⟨List.mem_of_getElem? cw_177, List.forall_mem_cons.mpr ⟨List.mem_of_getElem? cw_178, List.forall_mem_cons.mpr ⟨List.mem_of_getElem? cw_179, List.forall_mem_cons.mpr ⟨List.mem_of_getElem? cw_180, List.forall_mem_cons.mpr ⟨List.mem_of_getElem? cw_181, List.forall_mem_cons.mpr ⟨List.mem_of_getElem? cw_182, List.forall_mem_cons.mpr ⟨List.mem_of_getElem? cw_183, List.forall_mem_cons.mpr ⟨List.mem_of_getElem? cw_184, List.forall_mem_cons.mpr ⟨List.mem_of_getElem? cw_185, List.forall_mem_cons.mpr ⟨List.mem_of_getElem? cw_186, List.forall_mem_cons.mpr ⟨List.mem_of_getElem? cw_187, List.forall_mem_cons.mpr ⟨List.mem_of_getElem? cw_188, List.forall_mem_cons.mpr ⟨List.mem_of_getElem? cw_189, List.forall_mem_cons.mpr ⟨List.mem_of_getElem? cw_190, List.forall_mem_cons.mpr ⟨List.mem_of_getElem? cw_191, List.forall_mem_cons.mpr ⟨List.mem_of_getElem? cw_192, List.forall_mem_cons.mpr ⟨List.mem_of_getElem? cw_193, List.forall_mem_cons.mpr ⟨List.mem_of_getElem? cw_194, fun _ h => absurd h List.not_mem_nil⟩⟩⟩⟩⟩⟩⟩⟩⟩⟩⟩⟩⟩⟩⟩⟩⟩⟩⟩⟩
theorem mTab_cw : ∀ q ∈ mTab, Cond.code q.2.1 q.2.2.1 q.2.2.2.1 q.2.2.2.2.1 ∈ lw_tbl := List.forall_mem_append.mpr ⟨cwT0, List.forall_mem_append.mpr ⟨cwT1, List.forall_mem_append.mpr ⟨cwT2, List.forall_mem_append.mpr ⟨cwT3, List.forall_mem_append.mpr ⟨cwT4, List.forall_mem_append.mpr ⟨cwT5, List.forall_mem_append.mpr ⟨cwT6, cwT7⟩⟩⟩⟩⟩⟩⟩
