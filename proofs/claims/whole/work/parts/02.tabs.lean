/-! the tables of the pure machine: written by wip/whole/gen_tabs.py -/
abbrev MTy : Type := MethodName × ByteArray × Nat × Option FieldType × Nat × Nat × Nat × Nat × Nat × Nat × Nat
-- name, code, locals, return type, own class, parameters, kind (0 static, 1 instance, 2 <init>), places in lw_tbl: code, static or instanceMethod, selects, initialized
abbrev mt_0 : MTy := (yX0_init, cX0_init, 1, none, 0, 0, 2, 52, 51, 0, 32)
abbrev mt_1 : MTy := (yX0_copy, cX0_copy, 2, none, 0, 1, 1, 564, 562, 563, 32)
abbrev mt_2 : MTy := (yX1_init, cX1_init, 2, none, 1, 0, 2, 163, 162, 0, 37)
abbrev mt_3 : MTy := (yX1_fewestSeconds, cX1_fewestSeconds, 5, some (FieldType.int), 1, 3, 1, 415, 413, 414, 37)
abbrev mt_4 : MTy := (yX1_placed, cX1_placed, 2, some (FieldType.int), 1, 1, 1, 467, 465, 466, 37)
abbrev mt_5 : MTy := (yX1_goOn, cX1_goOn, 5, none, 1, 2, 1, 425, 424, 8, 37)
abbrev mt_6 : MTy := (yX1_sayNext, cX1_sayNext, 7, none, 1, 4, 1, 456, 455, 11, 37)
abbrev mt_7 : MTy := (yX1_valleyAt, cX1_valleyAt, 2, some (FieldType.object "SilentAfter$Valley"), 1, 1, 1, 419, 418, 7, 37)
abbrev mt_8 : MTy := (yX1_mayBeSaid, cX1_mayBeSaid, 4, some (FieldType.boolean), 1, 2, 1, 448, 447, 10, 37)
abbrev mt_9 : MTy := (yX1_leastSeconds, cX1_leastSeconds, 7, some (FieldType.int), 1, 2, 1, 429, 428, 9, 37)
abbrev mt_10 : MTy := (yX2_init, cX2_init, 1, none, 2, 0, 2, 97, 96, 0, 35)
abbrev mt_11 : MTy := (yX2_count, cX2_count, 1, some (FieldType.int), 2, 0, 1, 498, 496, 497, 35)
abbrev mt_12 : MTy := (yX2_append, cX2_append, 3, some (FieldType.boolean), 2, 2, 1, 493, 491, 492, 35)
abbrev mt_13 : MTy := (yX2_clear, cX2_clear, 2, some (FieldType.int), 2, 0, 1, 506, 504, 505, 35)
abbrev mt_14 : MTy := (yX2_hold, cX2_hold, 3, some (FieldType.boolean), 2, 1, 1, 526, 524, 525, 35)
abbrev mt_15 : MTy := (yX2_copy, cX2_copy, 2, none, 2, 1, 1, 574, 572, 573, 35)
abbrev mt_16 : MTy := (yX3_init, cX3_init, 1, none, 3, 0, 2, 78, 77, 0, 34)
abbrev mt_17 : MTy := (yX3_count, cX3_count, 1, some (FieldType.int), 3, 0, 1, 393, 391, 392, 34)
abbrev mt_18 : MTy := (yX3_speaker, cX3_speaker, 2, some (FieldType.int), 3, 1, 1, 436, 434, 435, 34)
abbrev mt_19 : MTy := (yX3_seconds, cX3_seconds, 2, some (FieldType.int), 3, 1, 1, 441, 439, 440, 34)
abbrev mt_20 : MTy := (yX3_ahead, cX3_ahead, 2, some (FieldType.int), 3, 1, 1, 452, 450, 451, 34)
abbrev mt_21 : MTy := (yX3_speech, cX3_speech, 3, some (FieldType.int), 3, 0, 1, 463, 461, 462, 34)
abbrev mt_22 : MTy := (yX3_append, cX3_append, 4, some (FieldType.boolean), 3, 3, 1, 397, 395, 396, 34)
abbrev mt_23 : MTy := (yX3_clear, cX3_clear, 2, some (FieldType.int), 3, 0, 1, 406, 404, 405, 34)
abbrev mt_24 : MTy := (yX3_copy, cX3_copy, 2, none, 3, 1, 1, 569, 567, 568, 34)
abbrev mt_25 : MTy := (yX4_init, cX4_init, 1, none, 4, 0, 2, 130, 129, 0, 36)
abbrev mt_26 : MTy := (yX4_signCount, cX4_signCount, 1, some (FieldType.int), 4, 0, 1, 244, 242, 243, 36)
abbrev mt_27 : MTy := (yX4_asked, cX4_asked, 1, some (FieldType.int), 4, 0, 1, 288, 286, 287, 36)
abbrev mt_28 : MTy := (yX4_append, cX4_append, 2, some (FieldType.boolean), 4, 1, 1, 237, 235, 236, 36)
abbrev mt_29 : MTy := (yX4_clear, cX4_clear, 2, some (FieldType.int), 4, 0, 1, 252, 250, 251, 36)
abbrev mt_30 : MTy := (yX4_read, cX4_read, 2, some (FieldType.int), 4, 0, 1, 260, 258, 259, 36)
abbrev mt_31 : MTy := (yX4_goesBy, cX4_goesBy, 4, some (FieldType.int), 4, 2, 1, 299, 297, 298, 36)
abbrev mt_32 : MTy := (yX4_readySeconds, cX4_readySeconds, 6, some (FieldType.int), 4, 3, 1, 540, 538, 539, 36)
abbrev mt_33 : MTy := (yX4_partGoesBy, cX4_partGoesBy, 7, some (FieldType.boolean), 4, 3, 1, 303, 302, 4, 36)
abbrev mt_34 : MTy := (yX4_takes, cX4_takes, 2, some (FieldType.boolean), 4, 1, 1, 267, 266, 0, 36)
abbrev mt_35 : MTy := (yX4_beginsPart, cX4_beginsPart, 2, some (FieldType.boolean), 4, 1, 1, 272, 271, 1, 36)
abbrev mt_36 : MTy := (yX4_addPart, cX4_addPart, 3, none, 4, 2, 1, 276, 275, 2, 36)
abbrev mt_37 : MTy := (yX5_init, cX5_init, 1, none, 5, 0, 2, 58, 57, 0, 33)
abbrev mt_38 : MTy := (yX5_time, cX5_time, 1, some (FieldType.int), 5, 0, 1, 351, 349, 350, 33)
abbrev mt_39 : MTy := (yX5_bound, cX5_bound, 1, some (FieldType.int), 5, 0, 1, 587, 585, 586, 33)
abbrev mt_40 : MTy := (yX5_fire, cX5_fire, 1, some (FieldType.int), 5, 0, 1, 591, 589, 590, 33)
abbrev mt_41 : MTy := (yX5_glass, cX5_glass, 2, some (FieldType.int), 5, 1, 1, 329, 327, 328, 33)
abbrev mt_42 : MTy := (yX5_changeBound, cX5_changeBound, 3, some (FieldType.int), 5, 1, 1, 225, 223, 224, 33)
abbrev mt_43 : MTy := (yX5_changeFire, cX5_changeFire, 3, some (FieldType.int), 5, 1, 1, 229, 227, 228, 33)
abbrev mt_44 : MTy := (yX5_isFree, cX5_isFree, 2, some (FieldType.boolean), 5, 1, 1, 335, 333, 334, 33)
abbrev mt_45 : MTy := (yX5_waitOf, cX5_waitOf, 2, some (FieldType.int), 5, 1, 1, 367, 365, 366, 33)
abbrev mt_46 : MTy := (yX5_speak, cX5_speak, 3, none, 5, 2, 1, 339, 337, 338, 33)
abbrev mt_47 : MTy := (yX5_callFire, cX5_callFire, 3, none, 5, 2, 1, 325, 323, 324, 33)
abbrev mt_48 : MTy := (yX5_keepSilence, cX5_keepSilence, 2, none, 5, 1, 1, 314, 312, 313, 33)
abbrev mt_49 : MTy := (yX5_sleep, cX5_sleep, 2, none, 5, 0, 1, 307, 305, 306, 33)
abbrev mt_50 : MTy := (yX5_lend, cX5_lend, 3, none, 5, 2, 1, 381, 379, 380, 33)
abbrev mt_51 : MTy := (yX5_receive, cX5_receive, 5, some (FieldType.int), 5, 2, 1, 385, 383, 384, 33)
abbrev mt_52 : MTy := (yX5_copy, cX5_copy, 2, none, 5, 1, 1, 292, 290, 291, 33)
abbrev mt_53 : MTy := (yX5_pass, cX5_pass, 4, none, 5, 2, 1, 318, 317, 5, 33)
abbrev mt_54 : MTy := (yX6_init, cX6_init, 1, none, 6, 0, 2, 44, 43, 0, 31)
abbrev mt_55 : MTy := (yX6_set, cX6_set, 3, some (FieldType.int), 6, 2, 1, 218, 216, 217, 31)
abbrev mt_56 : MTy := (yX6_say, cX6_say, 2, some (FieldType.int), 6, 1, 1, 233, 231, 232, 31)
abbrev mt_57 : MTy := (yX6_wipe, cX6_wipe, 1, some (FieldType.int), 6, 0, 1, 248, 246, 247, 31)
abbrev mt_58 : MTy := (yX6_fault, cX6_fault, 1, some (FieldType.int), 6, 0, 1, 256, 254, 255, 31)
abbrev mt_59 : MTy := (yX6_judge, cX6_judge, 2, some (FieldType.int), 6, 0, 1, 280, 278, 279, 31)
abbrev mt_60 : MTy := (yX6_done, cX6_done, 3, some (FieldType.int), 6, 0, 1, 343, 341, 342, 31)
abbrev mt_61 : MTy := (yX6_behind, cX6_behind, 3, some (FieldType.int), 6, 1, 1, 355, 353, 354, 31)
abbrev mt_62 : MTy := (yX6_free, cX6_free, 2, some (FieldType.int), 6, 1, 1, 363, 361, 362, 31)
abbrev mt_63 : MTy := (yX6_answer, cX6_answer, 5, some (FieldType.int), 6, 2, 1, 371, 369, 370, 31)
abbrev mt_64 : MTy := (yX6_give, cX6_give, 4, some (FieldType.int), 6, 3, 1, 377, 375, 376, 31)
abbrev mt_65 : MTy := (yX6_saying, cX6_saying, 4, some (FieldType.int), 6, 3, 1, 389, 387, 388, 31)
abbrev mt_66 : MTy := (yX6_drop, cX6_drop, 1, some (FieldType.int), 6, 0, 1, 402, 400, 401, 31)
abbrev mt_67 : MTy := (yX6_soonest, cX6_soonest, 3, some (FieldType.int), 6, 1, 1, 410, 408, 409, 31)
abbrev mt_68 : MTy := (yX6_whom, cX6_whom, 7, some (FieldType.int), 6, 2, 1, 471, 469, 470, 31)
abbrev mt_69 : MTy := (yX6_quarrel, cX6_quarrel, 15, some (FieldType.int), 6, 6, 1, 475, 473, 474, 31)
abbrev mt_70 : MTy := (yX6_length, cX6_length, 8, some (FieldType.int), 6, 3, 1, 481, 479, 480, 31)
abbrev mt_71 : MTy := (yX6_seen, cX6_seen, 3, some (FieldType.int), 6, 2, 1, 489, 487, 488, 31)
abbrev mt_72 : MTy := (yX6_forget, cX6_forget, 1, some (FieldType.int), 6, 0, 1, 502, 500, 501, 31)
abbrev mt_73 : MTy := (yX6_filled, cX6_filled, 7, some (FieldType.int), 6, 1, 1, 510, 508, 509, 31)
abbrev mt_74 : MTy := (yX6_burns, cX6_burns, 7, some (FieldType.long), 6, 2, 1, 533, 531, 532, 31)
abbrev mt_75 : MTy := (yX6_year, cX6_year, 8, some (FieldType.int), 6, 3, 1, 551, 549, 550, 31)
abbrev mt_76 : MTy := (yX6_image, cX6_image, 2, some (FieldType.int), 6, 1, 1, 556, 554, 555, 31)
abbrev mt_77 : MTy := (yX6_restore, cX6_restore, 2, some (FieldType.int), 6, 1, 1, 579, 577, 578, 31)
abbrev mt_78 : MTy := (yX6_told, cX6_told, 2, some (FieldType.int), 6, 1, 1, 583, 581, 582, 31)
abbrev mt_79 : MTy := (yX6_refuseText, cX6_refuseText, 1, some (FieldType.int), 6, 0, 1, 284, 283, 3, 31)
abbrev mt_80 : MTy := (yX6_tryText, cX6_tryText, 2, some (FieldType.int), 6, 0, 1, 347, 346, 6, 31)
abbrev mt_81 : MTy := (yX6_isFilledRightly, cX6_isFilledRightly, 1, some (FieldType.boolean), 6, 0, 1, 522, 521, 13, 31)
abbrev mt_82 : MTy := (yX6_writePeople, cX6_writePeople, 5, none, 6, 2, 1, 517, 516, 12, 31)
abbrev mt_83 : MTy := (yX6_waysToWrite, cX6_waysToWrite, 3, some (FieldType.int), 6, 1, 0, 513, 512, 0, 31)
abbrev mt_84 : MTy := (yX6_spokenAlone, cX6_spokenAlone, 8, some (FieldType.int), 6, 3, 0, 484, 483, 0, 31)
abbrev mt_85 : MTy := (yX6_imageOf, cX6_imageOf, 2, some (FieldType.object "SilentAfter$Scene"), 6, 1, 1, 560, 559, 14, 31)
abbrev mt_86 : MTy := (yX6_commonDivisor, cX6_commonDivisor, 6, some (FieldType.int), 6, 2, 0, 545, 544, 0, 31)
abbrev mt_87 : MTy := (yX6_isPerson, cX6_isPerson, 1, some (FieldType.boolean), 6, 1, 0, 358, 357, 0, 31)
abbrev mt_88 : MTy := (yX6_isWithin, cX6_isWithin, 3, some (FieldType.boolean), 6, 3, 0, 221, 220, 0, 31)
abbrev mt_89 : MTy := (yX6_at, cX6_at, 2, some (FieldType.int), 6, 2, 0, 263, 262, 0, 31)
abbrev mt_90 : MTy := (yX6_put, cX6_put, 3, none, 6, 3, 0, 240, 239, 0, 31)
abbrev mt_91 : MTy := (yX6_copyRow, cX6_copyRow, 3, none, 6, 2, 0, 295, 294, 0, 31)
abbrev mt_92 : MTy := (yX7_init, cX7_init, 1, none, 7, 0, 2, 596, 595, 0, 38)
abbrev mt_93 : MTy := (yX7_in, cX7_in, 3, some (FieldType.boolean), 7, 3, 0, 666, 665, 0, 38)
abbrev mt_94 : MTy := (yX7_isPerson, cX7_isPerson, 1, some (FieldType.boolean), 7, 1, 0, 733, 732, 0, 38)
abbrev mt_95 : MTy := (yX7_set, cX7_set, 5, some (FieldType.int), 7, 2, 1, 663, 661, 662, 38)
abbrev mt_96 : MTy := (yX7_say, cX7_say, 2, some (FieldType.int), 7, 1, 1, 670, 668, 669, 38)
abbrev mt_97 : MTy := (yX7_wipe, cX7_wipe, 2, some (FieldType.int), 7, 0, 1, 674, 672, 673, 38)
abbrev mt_98 : MTy := (yX7_faultOf, cX7_faultOf, 7, some (FieldType.int), 7, 0, 1, 682, 681, 15, 38)
abbrev mt_99 : MTy := (yX7_fault, cX7_fault, 1, some (FieldType.int), 7, 0, 1, 678, 676, 677, 38)
abbrev mt_100 : MTy := (yX7_opens, cX7_opens, 3, some (FieldType.int), 7, 0, 1, 690, 689, 16, 38)
abbrev mt_101 : MTy := (yX7_asNow, cX7_asNow, 2, none, 7, 0, 1, 698, 697, 18, 38)
abbrev mt_102 : MTy := (yX7_less, cX7_less, 3, some (FieldType.int), 7, 2, 1, 714, 713, 22, 38)
abbrev mt_103 : MTy := (yX7_pass, cX7_pass, 4, none, 7, 2, 1, 710, 709, 21, 38)
abbrev mt_104 : MTy := (yX7_speak, cX7_speak, 4, none, 7, 3, 1, 718, 717, 23, 38)
abbrev mt_105 : MTy := (yX7_watch, cX7_watch, 4, none, 7, 2, 1, 706, 705, 20, 38)
abbrev mt_106 : MTy := (yX7_number, cX7_number, 3, some (FieldType.int), 7, 1, 1, 702, 701, 19, 38)
abbrev mt_107 : MTy := (yX7_goText, cX7_goText, 8, some (FieldType.int), 7, 1, 1, 694, 693, 17, 38)
abbrev mt_108 : MTy := (yX7_judge, cX7_judge, 1, some (FieldType.int), 7, 0, 1, 686, 684, 685, 38)
abbrev mt_109 : MTy := (yX7_barOfText, cX7_barOfText, 1, some (FieldType.int), 7, 0, 1, 726, 725, 24, 38)
abbrev mt_110 : MTy := (yX7_done, cX7_done, 3, some (FieldType.int), 7, 0, 1, 722, 720, 721, 38)
abbrev mt_111 : MTy := (yX7_behind, cX7_behind, 3, some (FieldType.int), 7, 1, 1, 730, 728, 729, 38)
abbrev mt_112 : MTy := (yX7_free, cX7_free, 2, some (FieldType.int), 7, 1, 1, 737, 735, 736, 38)
abbrev mt_113 : MTy := (yX7_answer, cX7_answer, 5, some (FieldType.int), 7, 2, 1, 741, 739, 740, 38)
abbrev mt_114 : MTy := (yX7_give, cX7_give, 5, some (FieldType.int), 7, 3, 1, 745, 743, 744, 38)
abbrev mt_115 : MTy := (yX7_saying, cX7_saying, 4, some (FieldType.int), 7, 3, 1, 749, 747, 748, 38)
abbrev mt_116 : MTy := (yX7_drop, cX7_drop, 2, some (FieldType.int), 7, 0, 1, 753, 751, 752, 38)
abbrev mt_117 : MTy := (yX7_nextRow, cX7_nextRow, 6, some (FieldType.boolean), 7, 1, 1, 769, 768, 27, 38)
abbrev mt_118 : MTy := (yX7_change, cX7_change, 4, none, 7, 2, 1, 773, 772, 28, 38)
abbrev mt_119 : MTy := (yX7_keepsOrder, cX7_keepsOrder, 5, some (FieldType.boolean), 7, 0, 1, 765, 764, 26, 38)
abbrev mt_120 : MTy := (yX7_layTalk, cX7_layTalk, 6, none, 7, 2, 1, 761, 760, 25, 38)
abbrev mt_121 : MTy := (yX7_allSeconds, cX7_allSeconds, 3, some (FieldType.int), 7, 0, 1, 777, 776, 29, 38)
abbrev mt_122 : MTy := (yX7_soonest, cX7_soonest, 2, some (FieldType.int), 7, 1, 1, 757, 755, 756, 38)
abbrev mt_123 : MTy := (yX7_whom, cX7_whom, 6, some (FieldType.int), 7, 2, 1, 781, 779, 780, 38)
abbrev mt_124 : MTy := (yX7_quarrel, cX7_quarrel, 13, some (FieldType.int), 7, 6, 1, 785, 783, 784, 38)
abbrev mt_125 : MTy := (yX7_length, cX7_length, 8, some (FieldType.int), 7, 3, 1, 789, 787, 788, 38)
abbrev mt_126 : MTy := (yX7_seen, cX7_seen, 3, some (FieldType.int), 7, 2, 1, 793, 791, 792, 38)
abbrev mt_127 : MTy := (yX7_forget, cX7_forget, 2, some (FieldType.int), 7, 0, 1, 797, 795, 796, 38)
abbrev mt_128 : MTy := (yX7_filled, cX7_filled, 8, some (FieldType.int), 7, 1, 1, 801, 799, 800, 38)
abbrev mt_129 : MTy := (yX7_burns, cX7_burns, 8, some (FieldType.long), 7, 2, 1, 805, 803, 804, 38)
abbrev mt_130 : MTy := (yX7_year, cX7_year, 8, some (FieldType.int), 7, 3, 1, 813, 811, 812, 38)
abbrev mt_131 : MTy := (yX7_image, cX7_image, 4, some (FieldType.int), 7, 1, 1, 818, 816, 817, 38)
abbrev mt_132 : MTy := (yX7_restore, cX7_restore, 4, some (FieldType.int), 7, 1, 1, 822, 820, 821, 38)
abbrev mt_133 : MTy := (yX7_told, cX7_told, 2, some (FieldType.int), 7, 1, 1, 826, 824, 825, 38)
abbrev mt_134 : MTy := (yL_law, cL_law, 4, some .boolean, 8, 1, 0, 0, 0, 0, 0)
def MT : List MTy := [mt_0, mt_1, mt_2, mt_3, mt_4, mt_5, mt_6, mt_7, mt_8, mt_9, mt_10, mt_11, mt_12, mt_13, mt_14, mt_15, mt_16, mt_17, mt_18, mt_19, mt_20, mt_21, mt_22, mt_23, mt_24, mt_25, mt_26, mt_27, mt_28, mt_29, mt_30, mt_31, mt_32, mt_33, mt_34, mt_35, mt_36, mt_37, mt_38, mt_39, mt_40, mt_41, mt_42, mt_43, mt_44, mt_45, mt_46, mt_47, mt_48, mt_49, mt_50, mt_51, mt_52, mt_53, mt_54, mt_55, mt_56, mt_57, mt_58, mt_59, mt_60, mt_61, mt_62, mt_63, mt_64, mt_65, mt_66, mt_67, mt_68, mt_69, mt_70, mt_71, mt_72, mt_73, mt_74, mt_75, mt_76, mt_77, mt_78, mt_79, mt_80, mt_81, mt_82, mt_83, mt_84, mt_85, mt_86, mt_87, mt_88, mt_89, mt_90, mt_91, mt_92, mt_93, mt_94, mt_95, mt_96, mt_97, mt_98, mt_99, mt_100, mt_101, mt_102, mt_103, mt_104, mt_105, mt_106, mt_107, mt_108, mt_109, mt_110, mt_111, mt_112, mt_113, mt_114, mt_115, mt_116, mt_117, mt_118, mt_119, mt_120, mt_121, mt_122, mt_123, mt_124, mt_125, mt_126, mt_127, mt_128, mt_129, mt_130, mt_131, mt_132, mt_133, mt_134]
def mq (k : Nat) : MTy := MT.getD k mt_134
def nm (k : Nat) := (mq k).1
def cd (k : Nat) := (mq k).2.1
def mx (k : Nat) := (mq k).2.2.1
def rt (k : Nat) := (mq k).2.2.2.1
def oc (k : Nat) := (mq k).2.2.2.2.1
def na (k : Nat) := (mq k).2.2.2.2.2.1
def kd (k : Nat) := (mq k).2.2.2.2.2.2.1
def cn (c : Nat) : String := [RX0, RX1, RX2, RX3, RX4, RX5, RX6, RX7].getD c RL
-- own class, pool place, class, field, nest, place in lw_tbl, kind of type (0 int, 1 boolean, 2 reference), final
abbrev FTy : Type := Nat × Nat × Nat × Nat × Bool × Nat × Nat × Bool
def FR : List FTy := [(5, 9, 5, 0, false, 60, 2, true),
  (5, 15, 5, 1, false, 61, 0, false),
  (5, 19, 5, 2, false, 62, 0, false),
  (5, 22, 5, 3, false, 63, 0, false),
  (3, 9, 3, 0, false, 80, 2, true),
  (3, 15, 3, 1, false, 81, 2, true),
  (3, 18, 3, 2, false, 82, 2, true),
  (3, 21, 3, 3, false, 83, 0, false),
  (2, 9, 2, 0, false, 99, 2, true),
  (2, 15, 2, 1, false, 100, 2, true),
  (2, 18, 2, 2, false, 101, 0, false),
  (0, 10, 0, 0, false, 109, 2, true),
  (6, 51, 0, 0, true, 110, 2, true),
  (0, 19, 0, 1, false, 111, 2, true),
  (6, 115, 0, 1, true, 112, 2, true),
  (0, 26, 0, 2, false, 113, 2, true),
  (6, 151, 0, 2, true, 114, 2, true),
  (0, 30, 0, 3, false, 115, 1, false),
  (6, 202, 0, 3, true, 116, 1, false),
  (4, 9, 4, 0, false, 132, 2, true),
  (4, 15, 4, 1, false, 133, 0, false),
  (4, 19, 4, 2, false, 134, 2, true),
  (4, 22, 4, 3, false, 135, 2, true),
  (4, 25, 4, 4, false, 136, 2, true),
  (4, 28, 4, 5, false, 137, 0, false),
  (4, 31, 4, 6, false, 138, 0, false),
  (4, 34, 4, 7, false, 139, 0, false),
  (1, 11, 1, 0, false, 168, 2, true),
  (1, 17, 1, 1, false, 169, 2, true),
  (1, 21, 1, 2, false, 170, 2, true),
  (1, 24, 1, 3, false, 171, 2, true),
  (1, 27, 1, 4, false, 172, 2, true),
  (1, 30, 1, 5, false, 173, 2, true),
  (1, 33, 1, 6, false, 174, 0, false),
  (1, 37, 1, 7, false, 175, 0, false),
  (6, 10, 6, 0, false, 193, 2, true),
  (6, 16, 6, 1, false, 194, 2, true),
  (6, 19, 6, 2, false, 195, 2, true),
  (6, 25, 6, 3, false, 196, 2, true),
  (6, 32, 6, 4, false, 197, 2, true),
  (6, 39, 6, 5, false, 198, 2, true),
  (6, 43, 6, 6, false, 199, 2, true),
  (7, 7, 7, 0, false, 598, 0, false),
  (7, 13, 7, 1, false, 599, 0, false),
  (7, 45, 7, 2, false, 600, 0, false),
  (7, 16, 7, 3, false, 601, 2, true),
  (7, 106, 7, 4, false, 602, 0, false),
  (7, 20, 7, 5, false, 603, 2, true),
  (7, 128, 7, 6, false, 604, 0, false),
  (7, 23, 7, 7, false, 605, 2, true),
  (7, 52, 7, 8, false, 606, 0, false),
  (7, 26, 7, 9, false, 607, 2, true),
  (7, 29, 7, 10, false, 608, 2, true),
  (7, 59, 7, 11, false, 609, 0, false),
  (7, 70, 7, 12, false, 610, 0, false),
  (7, 73, 7, 13, false, 611, 0, false),
  (7, 76, 7, 14, false, 612, 0, false),
  (7, 32, 7, 15, false, 613, 2, true),
  (7, 35, 7, 16, false, 614, 2, true),
  (7, 112, 7, 17, false, 615, 0, false),
  (7, 38, 7, 18, false, 616, 2, true),
  (7, 41, 7, 19, false, 617, 2, true)]
-- own class, pool place, target (200 Object.<init>, 201 Math.max, 202 Math.min), nest, place in lw_tbl
abbrev RTy : Type := Nat × Nat × Nat × Bool × Nat
def MR : List RTy := [(8, 9, 54, false, 42),
  (6, 1, 200, false, 45),
  (6, 9, 0, true, 50),
  (0, 1, 200, false, 53),
  (0, 9, 37, true, 56),
  (5, 3, 200, false, 59),
  (0, 18, 16, true, 76),
  (3, 3, 200, false, 79),
  (0, 25, 10, true, 95),
  (2, 3, 200, false, 98),
  (6, 24, 25, true, 128),
  (4, 3, 200, false, 131),
  (6, 31, 37, true, 158),
  (6, 38, 2, false, 161),
  (1, 3, 200, false, 164),
  (1, 40, 37, true, 167),
  (8, 13, 55, false, 215),
  (6, 47, 88, false, 219),
  (6, 54, 42, false, 222),
  (6, 58, 43, false, 226),
  (8, 18, 56, false, 230),
  (6, 61, 28, false, 234),
  (4, 37, 90, true, 238),
  (6, 65, 26, false, 241),
  (8, 23, 57, false, 245),
  (6, 69, 29, false, 249),
  (8, 28, 58, false, 253),
  (6, 72, 30, false, 257),
  (4, 41, 89, true, 261),
  (4, 45, 34, false, 264),
  (4, 82, 88, true, 268),
  (4, 86, 35, false, 269),
  (4, 89, 36, false, 273),
  (8, 32, 59, false, 277),
  (6, 75, 79, false, 281),
  (6, 162, 27, false, 285),
  (6, 78, 52, false, 289),
  (5, 50, 91, true, 293),
  (6, 82, 31, false, 296),
  (4, 49, 33, false, 300),
  (4, 65, 49, false, 304),
  (5, 47, 202, false, 308),
  (4, 68, 48, false, 311),
  (5, 39, 53, false, 315),
  (5, 33, 201, false, 319),
  (4, 72, 47, false, 322),
  (5, 29, 41, false, 326),
  (5, 25, 89, true, 330),
  (5, 43, 90, true, 331),
  (4, 76, 44, false, 332),
  (4, 79, 46, false, 336),
  (8, 36, 60, false, 340),
  (6, 86, 80, false, 344),
  (6, 89, 38, false, 348),
  (8, 40, 61, false, 352),
  (6, 92, 87, false, 356),
  (6, 95, 41, false, 359),
  (8, 44, 62, false, 360),
  (6, 98, 45, false, 364),
  (8, 48, 63, false, 368),
  (6, 101, 44, false, 372),
  (6, 104, 46, false, 373),
  (8, 52, 64, false, 374),
  (6, 108, 50, false, 378),
  (6, 111, 51, false, 382),
  (8, 57, 65, false, 386),
  (6, 119, 17, false, 390),
  (6, 124, 22, false, 394),
  (3, 29, 90, true, 398),
  (8, 61, 66, false, 399),
  (6, 126, 23, false, 403),
  (8, 65, 67, false, 407),
  (6, 128, 3, false, 412),
  (1, 41, 7, false, 416),
  (1, 45, 52, false, 420),
  (1, 49, 38, false, 421),
  (1, 53, 5, false, 422),
  (1, 61, 9, false, 426),
  (1, 100, 90, true, 430),
  (1, 65, 17, false, 431),
  (1, 57, 89, true, 432),
  (1, 82, 18, false, 433),
  (3, 25, 89, true, 437),
  (1, 93, 19, false, 438),
  (1, 107, 201, false, 442),
  (1, 113, 41, false, 443),
  (1, 70, 91, true, 444),
  (1, 74, 8, false, 445),
  (1, 104, 20, false, 449),
  (1, 78, 6, false, 453),
  (1, 86, 45, false, 457),
  (1, 89, 48, false, 458),
  (1, 96, 46, false, 459),
  (6, 132, 21, false, 460),
  (6, 135, 4, false, 464),
  (8, 69, 68, false, 468),
  (8, 73, 69, false, 472),
  (6, 138, 202, false, 476),
  (6, 143, 48, false, 477),
  (8, 78, 70, false, 478),
  (6, 147, 84, false, 482),
  (6, 220, 201, false, 485),
  (8, 82, 71, false, 486),
  (6, 155, 12, false, 490),
  (2, 22, 90, true, 494),
  (6, 160, 11, false, 495),
  (8, 86, 72, false, 499),
  (6, 161, 13, false, 503),
  (8, 90, 73, false, 507),
  (6, 165, 83, false, 511),
  (6, 168, 82, false, 514),
  (6, 216, 90, false, 518),
  (6, 171, 81, false, 519),
  (6, 212, 14, false, 523),
  (2, 26, 89, true, 527),
  (2, 30, 41, false, 528),
  (6, 175, 89, false, 529),
  (8, 94, 74, false, 530),
  (6, 185, 32, false, 537),
  (4, 53, 45, false, 541),
  (4, 59, 201, false, 542),
  (6, 189, 86, false, 543),
  (8, 99, 75, false, 548),
  (8, 103, 76, false, 553),
  (6, 195, 85, false, 557),
  (6, 199, 1, false, 561),
  (0, 34, 52, false, 565),
  (0, 38, 24, false, 566),
  (3, 33, 91, true, 570),
  (0, 41, 15, false, 571),
  (2, 36, 91, true, 575),
  (8, 107, 77, false, 576),
  (8, 111, 78, false, 580),
  (6, 206, 39, false, 584),
  (6, 209, 40, false, 588),
  (8, 12, 92, false, 594),
  (7, 1, 200, false, 597),
  (8, 17, 95, false, 660),
  (7, 48, 93, false, 664),
  (8, 22, 96, false, 667),
  (8, 27, 97, false, 671),
  (8, 31, 99, false, 675),
  (7, 55, 98, false, 679),
  (8, 35, 108, false, 683),
  (7, 82, 100, false, 687),
  (7, 96, 107, false, 691),
  (7, 79, 101, false, 695),
  (7, 85, 106, false, 699),
  (7, 89, 105, false, 703),
  (7, 66, 103, false, 707),
  (7, 62, 102, false, 711),
  (7, 92, 104, false, 715),
  (8, 39, 110, false, 719),
  (7, 99, 109, false, 723),
  (8, 43, 111, false, 727),
  (7, 102, 94, false, 731),
  (8, 47, 112, false, 734),
  (8, 51, 113, false, 738),
  (8, 56, 114, false, 742),
  (8, 60, 115, false, 746),
  (8, 64, 116, false, 750),
  (8, 68, 122, false, 754),
  (7, 122, 120, false, 758),
  (7, 115, 119, false, 762),
  (7, 119, 117, false, 766),
  (7, 109, 118, false, 770),
  (7, 125, 121, false, 774),
  (8, 72, 123, false, 778),
  (8, 77, 124, false, 782),
  (8, 81, 125, false, 786),
  (8, 85, 126, false, 790),
  (8, 89, 127, false, 794),
  (8, 93, 128, false, 798),
  (8, 98, 129, false, 802),
  (8, 102, 130, false, 810),
  (8, 106, 131, false, 815),
  (8, 110, 132, false, 819),
  (8, 114, 133, false, 823)]
def KI : List (Nat × Nat × Int × Nat) := [(6, 127, 1000000000, 411), (6, 223, 1000000, 546), (6, 194, 65537, 552), (7, 139, 65537, 814)]
def KL : List (Nat × Nat × Int × Nat) := [(6, 179, -1000000000000000001, 534), (6, 181, -1000000000000000002, 535), (6, 183, -1000000000000000000, 536), (6, 192, -1000000000000000004, 547), (7, 131, -1000000000000000001, 806), (7, 133, -1000000000000000002, 807), (7, 135, -1000000000000000000, 808), (7, 137, -1000000000000000004, 809)]
-- own class, pool place, class made, place of its classLink, instantiable, initialized
def NC : List (Nat × Nat × Nat × Nat × Nat × Nat) := [(8, 7, 6, 40, 41, 31), (6, 7, 0, 48, 49, 32), (0, 7, 5, 54, 55, 33), (0, 16, 3, 74, 75, 34), (0, 23, 2, 93, 94, 35), (6, 22, 4, 126, 127, 36), (6, 29, 5, 157, 55, 33), (6, 36, 1, 159, 160, 37), (1, 9, 5, 165, 55, 33), (8, 10, 7, 592, 593, 38)]
-- places of arrayClass int, arrayClass boolean, arrayOver Valley: 73, 659, 166
/-! the facts of the tables -/
def MTm : List MTy := MT.take 134
set_option maxRecDepth 100000 in
theorem mtc_0 : lw_tbl[mt_0.2.2.2.2.2.2.2.1]? = some (.code mt_0.1 mt_0.2.1 mt_0.2.2.1 mt_0.2.2.2.1) := rfl
set_option maxRecDepth 100000 in
theorem mtc_1 : lw_tbl[mt_1.2.2.2.2.2.2.2.1]? = some (.code mt_1.1 mt_1.2.1 mt_1.2.2.1 mt_1.2.2.2.1) := rfl
set_option maxRecDepth 100000 in
theorem mtc_2 : lw_tbl[mt_2.2.2.2.2.2.2.2.1]? = some (.code mt_2.1 mt_2.2.1 mt_2.2.2.1 mt_2.2.2.2.1) := rfl
set_option maxRecDepth 100000 in
theorem mtc_3 : lw_tbl[mt_3.2.2.2.2.2.2.2.1]? = some (.code mt_3.1 mt_3.2.1 mt_3.2.2.1 mt_3.2.2.2.1) := rfl
set_option maxRecDepth 100000 in
theorem mtc_4 : lw_tbl[mt_4.2.2.2.2.2.2.2.1]? = some (.code mt_4.1 mt_4.2.1 mt_4.2.2.1 mt_4.2.2.2.1) := rfl
set_option maxRecDepth 100000 in
theorem mtc_5 : lw_tbl[mt_5.2.2.2.2.2.2.2.1]? = some (.code mt_5.1 mt_5.2.1 mt_5.2.2.1 mt_5.2.2.2.1) := rfl
set_option maxRecDepth 100000 in
theorem mtc_6 : lw_tbl[mt_6.2.2.2.2.2.2.2.1]? = some (.code mt_6.1 mt_6.2.1 mt_6.2.2.1 mt_6.2.2.2.1) := rfl
set_option maxRecDepth 100000 in
theorem mtc_7 : lw_tbl[mt_7.2.2.2.2.2.2.2.1]? = some (.code mt_7.1 mt_7.2.1 mt_7.2.2.1 mt_7.2.2.2.1) := rfl
set_option maxRecDepth 100000 in
theorem mtc_8 : lw_tbl[mt_8.2.2.2.2.2.2.2.1]? = some (.code mt_8.1 mt_8.2.1 mt_8.2.2.1 mt_8.2.2.2.1) := rfl
set_option maxRecDepth 100000 in
theorem mtc_9 : lw_tbl[mt_9.2.2.2.2.2.2.2.1]? = some (.code mt_9.1 mt_9.2.1 mt_9.2.2.1 mt_9.2.2.2.1) := rfl
set_option maxRecDepth 100000 in
theorem mtc_10 : lw_tbl[mt_10.2.2.2.2.2.2.2.1]? = some (.code mt_10.1 mt_10.2.1 mt_10.2.2.1 mt_10.2.2.2.1) := rfl
set_option maxRecDepth 100000 in
theorem mtc_11 : lw_tbl[mt_11.2.2.2.2.2.2.2.1]? = some (.code mt_11.1 mt_11.2.1 mt_11.2.2.1 mt_11.2.2.2.1) := rfl
set_option maxRecDepth 100000 in
theorem mtc_12 : lw_tbl[mt_12.2.2.2.2.2.2.2.1]? = some (.code mt_12.1 mt_12.2.1 mt_12.2.2.1 mt_12.2.2.2.1) := rfl
set_option maxRecDepth 100000 in
theorem mtc_13 : lw_tbl[mt_13.2.2.2.2.2.2.2.1]? = some (.code mt_13.1 mt_13.2.1 mt_13.2.2.1 mt_13.2.2.2.1) := rfl
set_option maxRecDepth 100000 in
theorem mtc_14 : lw_tbl[mt_14.2.2.2.2.2.2.2.1]? = some (.code mt_14.1 mt_14.2.1 mt_14.2.2.1 mt_14.2.2.2.1) := rfl
set_option maxRecDepth 100000 in
theorem mtc_15 : lw_tbl[mt_15.2.2.2.2.2.2.2.1]? = some (.code mt_15.1 mt_15.2.1 mt_15.2.2.1 mt_15.2.2.2.1) := rfl
set_option maxRecDepth 100000 in
theorem mtc_16 : lw_tbl[mt_16.2.2.2.2.2.2.2.1]? = some (.code mt_16.1 mt_16.2.1 mt_16.2.2.1 mt_16.2.2.2.1) := rfl
set_option maxRecDepth 100000 in
theorem mtc_17 : lw_tbl[mt_17.2.2.2.2.2.2.2.1]? = some (.code mt_17.1 mt_17.2.1 mt_17.2.2.1 mt_17.2.2.2.1) := rfl
set_option maxRecDepth 100000 in
theorem mtc_18 : lw_tbl[mt_18.2.2.2.2.2.2.2.1]? = some (.code mt_18.1 mt_18.2.1 mt_18.2.2.1 mt_18.2.2.2.1) := rfl
set_option maxRecDepth 100000 in
theorem mtc_19 : lw_tbl[mt_19.2.2.2.2.2.2.2.1]? = some (.code mt_19.1 mt_19.2.1 mt_19.2.2.1 mt_19.2.2.2.1) := rfl
set_option maxRecDepth 100000 in
theorem mtc_20 : lw_tbl[mt_20.2.2.2.2.2.2.2.1]? = some (.code mt_20.1 mt_20.2.1 mt_20.2.2.1 mt_20.2.2.2.1) := rfl
set_option maxRecDepth 100000 in
theorem mtc_21 : lw_tbl[mt_21.2.2.2.2.2.2.2.1]? = some (.code mt_21.1 mt_21.2.1 mt_21.2.2.1 mt_21.2.2.2.1) := rfl
set_option maxRecDepth 100000 in
theorem mtc_22 : lw_tbl[mt_22.2.2.2.2.2.2.2.1]? = some (.code mt_22.1 mt_22.2.1 mt_22.2.2.1 mt_22.2.2.2.1) := rfl
set_option maxRecDepth 100000 in
theorem mtc_23 : lw_tbl[mt_23.2.2.2.2.2.2.2.1]? = some (.code mt_23.1 mt_23.2.1 mt_23.2.2.1 mt_23.2.2.2.1) := rfl
set_option maxRecDepth 100000 in
theorem mtc_24 : lw_tbl[mt_24.2.2.2.2.2.2.2.1]? = some (.code mt_24.1 mt_24.2.1 mt_24.2.2.1 mt_24.2.2.2.1) := rfl
set_option maxRecDepth 100000 in
theorem mtc_25 : lw_tbl[mt_25.2.2.2.2.2.2.2.1]? = some (.code mt_25.1 mt_25.2.1 mt_25.2.2.1 mt_25.2.2.2.1) := rfl
set_option maxRecDepth 100000 in
theorem mtc_26 : lw_tbl[mt_26.2.2.2.2.2.2.2.1]? = some (.code mt_26.1 mt_26.2.1 mt_26.2.2.1 mt_26.2.2.2.1) := rfl
set_option maxRecDepth 100000 in
theorem mtc_27 : lw_tbl[mt_27.2.2.2.2.2.2.2.1]? = some (.code mt_27.1 mt_27.2.1 mt_27.2.2.1 mt_27.2.2.2.1) := rfl
set_option maxRecDepth 100000 in
theorem mtc_28 : lw_tbl[mt_28.2.2.2.2.2.2.2.1]? = some (.code mt_28.1 mt_28.2.1 mt_28.2.2.1 mt_28.2.2.2.1) := rfl
set_option maxRecDepth 100000 in
theorem mtc_29 : lw_tbl[mt_29.2.2.2.2.2.2.2.1]? = some (.code mt_29.1 mt_29.2.1 mt_29.2.2.1 mt_29.2.2.2.1) := rfl
set_option maxRecDepth 100000 in
theorem mtc_30 : lw_tbl[mt_30.2.2.2.2.2.2.2.1]? = some (.code mt_30.1 mt_30.2.1 mt_30.2.2.1 mt_30.2.2.2.1) := rfl
set_option maxRecDepth 100000 in
theorem mtc_31 : lw_tbl[mt_31.2.2.2.2.2.2.2.1]? = some (.code mt_31.1 mt_31.2.1 mt_31.2.2.1 mt_31.2.2.2.1) := rfl
set_option maxRecDepth 100000 in
theorem mtc_32 : lw_tbl[mt_32.2.2.2.2.2.2.2.1]? = some (.code mt_32.1 mt_32.2.1 mt_32.2.2.1 mt_32.2.2.2.1) := rfl
set_option maxRecDepth 100000 in
theorem mtc_33 : lw_tbl[mt_33.2.2.2.2.2.2.2.1]? = some (.code mt_33.1 mt_33.2.1 mt_33.2.2.1 mt_33.2.2.2.1) := rfl
set_option maxRecDepth 100000 in
theorem mtc_34 : lw_tbl[mt_34.2.2.2.2.2.2.2.1]? = some (.code mt_34.1 mt_34.2.1 mt_34.2.2.1 mt_34.2.2.2.1) := rfl
set_option maxRecDepth 100000 in
theorem mtc_35 : lw_tbl[mt_35.2.2.2.2.2.2.2.1]? = some (.code mt_35.1 mt_35.2.1 mt_35.2.2.1 mt_35.2.2.2.1) := rfl
set_option maxRecDepth 100000 in
theorem mtc_36 : lw_tbl[mt_36.2.2.2.2.2.2.2.1]? = some (.code mt_36.1 mt_36.2.1 mt_36.2.2.1 mt_36.2.2.2.1) := rfl
set_option maxRecDepth 100000 in
theorem mtc_37 : lw_tbl[mt_37.2.2.2.2.2.2.2.1]? = some (.code mt_37.1 mt_37.2.1 mt_37.2.2.1 mt_37.2.2.2.1) := rfl
set_option maxRecDepth 100000 in
theorem mtc_38 : lw_tbl[mt_38.2.2.2.2.2.2.2.1]? = some (.code mt_38.1 mt_38.2.1 mt_38.2.2.1 mt_38.2.2.2.1) := rfl
set_option maxRecDepth 100000 in
theorem mtc_39 : lw_tbl[mt_39.2.2.2.2.2.2.2.1]? = some (.code mt_39.1 mt_39.2.1 mt_39.2.2.1 mt_39.2.2.2.1) := rfl
set_option maxRecDepth 100000 in
theorem mtc_40 : lw_tbl[mt_40.2.2.2.2.2.2.2.1]? = some (.code mt_40.1 mt_40.2.1 mt_40.2.2.1 mt_40.2.2.2.1) := rfl
set_option maxRecDepth 100000 in
theorem mtc_41 : lw_tbl[mt_41.2.2.2.2.2.2.2.1]? = some (.code mt_41.1 mt_41.2.1 mt_41.2.2.1 mt_41.2.2.2.1) := rfl
set_option maxRecDepth 100000 in
theorem mtc_42 : lw_tbl[mt_42.2.2.2.2.2.2.2.1]? = some (.code mt_42.1 mt_42.2.1 mt_42.2.2.1 mt_42.2.2.2.1) := rfl
set_option maxRecDepth 100000 in
theorem mtc_43 : lw_tbl[mt_43.2.2.2.2.2.2.2.1]? = some (.code mt_43.1 mt_43.2.1 mt_43.2.2.1 mt_43.2.2.2.1) := rfl
set_option maxRecDepth 100000 in
theorem mtc_44 : lw_tbl[mt_44.2.2.2.2.2.2.2.1]? = some (.code mt_44.1 mt_44.2.1 mt_44.2.2.1 mt_44.2.2.2.1) := rfl
set_option maxRecDepth 100000 in
theorem mtc_45 : lw_tbl[mt_45.2.2.2.2.2.2.2.1]? = some (.code mt_45.1 mt_45.2.1 mt_45.2.2.1 mt_45.2.2.2.1) := rfl
set_option maxRecDepth 100000 in
theorem mtc_46 : lw_tbl[mt_46.2.2.2.2.2.2.2.1]? = some (.code mt_46.1 mt_46.2.1 mt_46.2.2.1 mt_46.2.2.2.1) := rfl
set_option maxRecDepth 100000 in
theorem mtc_47 : lw_tbl[mt_47.2.2.2.2.2.2.2.1]? = some (.code mt_47.1 mt_47.2.1 mt_47.2.2.1 mt_47.2.2.2.1) := rfl
set_option maxRecDepth 100000 in
theorem mtc_48 : lw_tbl[mt_48.2.2.2.2.2.2.2.1]? = some (.code mt_48.1 mt_48.2.1 mt_48.2.2.1 mt_48.2.2.2.1) := rfl
set_option maxRecDepth 100000 in
theorem mtc_49 : lw_tbl[mt_49.2.2.2.2.2.2.2.1]? = some (.code mt_49.1 mt_49.2.1 mt_49.2.2.1 mt_49.2.2.2.1) := rfl
set_option maxRecDepth 100000 in
theorem mtc_50 : lw_tbl[mt_50.2.2.2.2.2.2.2.1]? = some (.code mt_50.1 mt_50.2.1 mt_50.2.2.1 mt_50.2.2.2.1) := rfl
set_option maxRecDepth 100000 in
theorem mtc_51 : lw_tbl[mt_51.2.2.2.2.2.2.2.1]? = some (.code mt_51.1 mt_51.2.1 mt_51.2.2.1 mt_51.2.2.2.1) := rfl
set_option maxRecDepth 100000 in
theorem mtc_52 : lw_tbl[mt_52.2.2.2.2.2.2.2.1]? = some (.code mt_52.1 mt_52.2.1 mt_52.2.2.1 mt_52.2.2.2.1) := rfl
set_option maxRecDepth 100000 in
theorem mtc_53 : lw_tbl[mt_53.2.2.2.2.2.2.2.1]? = some (.code mt_53.1 mt_53.2.1 mt_53.2.2.1 mt_53.2.2.2.1) := rfl
set_option maxRecDepth 100000 in
theorem mtc_54 : lw_tbl[mt_54.2.2.2.2.2.2.2.1]? = some (.code mt_54.1 mt_54.2.1 mt_54.2.2.1 mt_54.2.2.2.1) := rfl
set_option maxRecDepth 100000 in
theorem mtc_55 : lw_tbl[mt_55.2.2.2.2.2.2.2.1]? = some (.code mt_55.1 mt_55.2.1 mt_55.2.2.1 mt_55.2.2.2.1) := rfl
set_option maxRecDepth 100000 in
theorem mtc_56 : lw_tbl[mt_56.2.2.2.2.2.2.2.1]? = some (.code mt_56.1 mt_56.2.1 mt_56.2.2.1 mt_56.2.2.2.1) := rfl
set_option maxRecDepth 100000 in
theorem mtc_57 : lw_tbl[mt_57.2.2.2.2.2.2.2.1]? = some (.code mt_57.1 mt_57.2.1 mt_57.2.2.1 mt_57.2.2.2.1) := rfl
set_option maxRecDepth 100000 in
theorem mtc_58 : lw_tbl[mt_58.2.2.2.2.2.2.2.1]? = some (.code mt_58.1 mt_58.2.1 mt_58.2.2.1 mt_58.2.2.2.1) := rfl
set_option maxRecDepth 100000 in
theorem mtc_59 : lw_tbl[mt_59.2.2.2.2.2.2.2.1]? = some (.code mt_59.1 mt_59.2.1 mt_59.2.2.1 mt_59.2.2.2.1) := rfl
set_option maxRecDepth 100000 in
theorem mtc_60 : lw_tbl[mt_60.2.2.2.2.2.2.2.1]? = some (.code mt_60.1 mt_60.2.1 mt_60.2.2.1 mt_60.2.2.2.1) := rfl
set_option maxRecDepth 100000 in
theorem mtc_61 : lw_tbl[mt_61.2.2.2.2.2.2.2.1]? = some (.code mt_61.1 mt_61.2.1 mt_61.2.2.1 mt_61.2.2.2.1) := rfl
set_option maxRecDepth 100000 in
theorem mtc_62 : lw_tbl[mt_62.2.2.2.2.2.2.2.1]? = some (.code mt_62.1 mt_62.2.1 mt_62.2.2.1 mt_62.2.2.2.1) := rfl
set_option maxRecDepth 100000 in
theorem mtc_63 : lw_tbl[mt_63.2.2.2.2.2.2.2.1]? = some (.code mt_63.1 mt_63.2.1 mt_63.2.2.1 mt_63.2.2.2.1) := rfl
set_option maxRecDepth 100000 in
theorem mtc_64 : lw_tbl[mt_64.2.2.2.2.2.2.2.1]? = some (.code mt_64.1 mt_64.2.1 mt_64.2.2.1 mt_64.2.2.2.1) := rfl
set_option maxRecDepth 100000 in
theorem mtc_65 : lw_tbl[mt_65.2.2.2.2.2.2.2.1]? = some (.code mt_65.1 mt_65.2.1 mt_65.2.2.1 mt_65.2.2.2.1) := rfl
set_option maxRecDepth 100000 in
theorem mtc_66 : lw_tbl[mt_66.2.2.2.2.2.2.2.1]? = some (.code mt_66.1 mt_66.2.1 mt_66.2.2.1 mt_66.2.2.2.1) := rfl
set_option maxRecDepth 100000 in
theorem mtc_67 : lw_tbl[mt_67.2.2.2.2.2.2.2.1]? = some (.code mt_67.1 mt_67.2.1 mt_67.2.2.1 mt_67.2.2.2.1) := rfl
set_option maxRecDepth 100000 in
theorem mtc_68 : lw_tbl[mt_68.2.2.2.2.2.2.2.1]? = some (.code mt_68.1 mt_68.2.1 mt_68.2.2.1 mt_68.2.2.2.1) := rfl
set_option maxRecDepth 100000 in
theorem mtc_69 : lw_tbl[mt_69.2.2.2.2.2.2.2.1]? = some (.code mt_69.1 mt_69.2.1 mt_69.2.2.1 mt_69.2.2.2.1) := rfl
set_option maxRecDepth 100000 in
theorem mtc_70 : lw_tbl[mt_70.2.2.2.2.2.2.2.1]? = some (.code mt_70.1 mt_70.2.1 mt_70.2.2.1 mt_70.2.2.2.1) := rfl
set_option maxRecDepth 100000 in
theorem mtc_71 : lw_tbl[mt_71.2.2.2.2.2.2.2.1]? = some (.code mt_71.1 mt_71.2.1 mt_71.2.2.1 mt_71.2.2.2.1) := rfl
set_option maxRecDepth 100000 in
theorem mtc_72 : lw_tbl[mt_72.2.2.2.2.2.2.2.1]? = some (.code mt_72.1 mt_72.2.1 mt_72.2.2.1 mt_72.2.2.2.1) := rfl
set_option maxRecDepth 100000 in
theorem mtc_73 : lw_tbl[mt_73.2.2.2.2.2.2.2.1]? = some (.code mt_73.1 mt_73.2.1 mt_73.2.2.1 mt_73.2.2.2.1) := rfl
set_option maxRecDepth 100000 in
theorem mtc_74 : lw_tbl[mt_74.2.2.2.2.2.2.2.1]? = some (.code mt_74.1 mt_74.2.1 mt_74.2.2.1 mt_74.2.2.2.1) := rfl
set_option maxRecDepth 100000 in
theorem mtc_75 : lw_tbl[mt_75.2.2.2.2.2.2.2.1]? = some (.code mt_75.1 mt_75.2.1 mt_75.2.2.1 mt_75.2.2.2.1) := rfl
set_option maxRecDepth 100000 in
theorem mtc_76 : lw_tbl[mt_76.2.2.2.2.2.2.2.1]? = some (.code mt_76.1 mt_76.2.1 mt_76.2.2.1 mt_76.2.2.2.1) := rfl
set_option maxRecDepth 100000 in
theorem mtc_77 : lw_tbl[mt_77.2.2.2.2.2.2.2.1]? = some (.code mt_77.1 mt_77.2.1 mt_77.2.2.1 mt_77.2.2.2.1) := rfl
set_option maxRecDepth 100000 in
theorem mtc_78 : lw_tbl[mt_78.2.2.2.2.2.2.2.1]? = some (.code mt_78.1 mt_78.2.1 mt_78.2.2.1 mt_78.2.2.2.1) := rfl
set_option maxRecDepth 100000 in
theorem mtc_79 : lw_tbl[mt_79.2.2.2.2.2.2.2.1]? = some (.code mt_79.1 mt_79.2.1 mt_79.2.2.1 mt_79.2.2.2.1) := rfl
set_option maxRecDepth 100000 in
theorem mtc_80 : lw_tbl[mt_80.2.2.2.2.2.2.2.1]? = some (.code mt_80.1 mt_80.2.1 mt_80.2.2.1 mt_80.2.2.2.1) := rfl
set_option maxRecDepth 100000 in
theorem mtc_81 : lw_tbl[mt_81.2.2.2.2.2.2.2.1]? = some (.code mt_81.1 mt_81.2.1 mt_81.2.2.1 mt_81.2.2.2.1) := rfl
set_option maxRecDepth 100000 in
theorem mtc_82 : lw_tbl[mt_82.2.2.2.2.2.2.2.1]? = some (.code mt_82.1 mt_82.2.1 mt_82.2.2.1 mt_82.2.2.2.1) := rfl
set_option maxRecDepth 100000 in
theorem mtc_83 : lw_tbl[mt_83.2.2.2.2.2.2.2.1]? = some (.code mt_83.1 mt_83.2.1 mt_83.2.2.1 mt_83.2.2.2.1) := rfl
set_option maxRecDepth 100000 in
theorem mtc_84 : lw_tbl[mt_84.2.2.2.2.2.2.2.1]? = some (.code mt_84.1 mt_84.2.1 mt_84.2.2.1 mt_84.2.2.2.1) := rfl
set_option maxRecDepth 100000 in
theorem mtc_85 : lw_tbl[mt_85.2.2.2.2.2.2.2.1]? = some (.code mt_85.1 mt_85.2.1 mt_85.2.2.1 mt_85.2.2.2.1) := rfl
set_option maxRecDepth 100000 in
theorem mtc_86 : lw_tbl[mt_86.2.2.2.2.2.2.2.1]? = some (.code mt_86.1 mt_86.2.1 mt_86.2.2.1 mt_86.2.2.2.1) := rfl
set_option maxRecDepth 100000 in
theorem mtc_87 : lw_tbl[mt_87.2.2.2.2.2.2.2.1]? = some (.code mt_87.1 mt_87.2.1 mt_87.2.2.1 mt_87.2.2.2.1) := rfl
set_option maxRecDepth 100000 in
theorem mtc_88 : lw_tbl[mt_88.2.2.2.2.2.2.2.1]? = some (.code mt_88.1 mt_88.2.1 mt_88.2.2.1 mt_88.2.2.2.1) := rfl
set_option maxRecDepth 100000 in
theorem mtc_89 : lw_tbl[mt_89.2.2.2.2.2.2.2.1]? = some (.code mt_89.1 mt_89.2.1 mt_89.2.2.1 mt_89.2.2.2.1) := rfl
set_option maxRecDepth 100000 in
theorem mtc_90 : lw_tbl[mt_90.2.2.2.2.2.2.2.1]? = some (.code mt_90.1 mt_90.2.1 mt_90.2.2.1 mt_90.2.2.2.1) := rfl
set_option maxRecDepth 100000 in
theorem mtc_91 : lw_tbl[mt_91.2.2.2.2.2.2.2.1]? = some (.code mt_91.1 mt_91.2.1 mt_91.2.2.1 mt_91.2.2.2.1) := rfl
set_option maxRecDepth 100000 in
theorem mtc_92 : lw_tbl[mt_92.2.2.2.2.2.2.2.1]? = some (.code mt_92.1 mt_92.2.1 mt_92.2.2.1 mt_92.2.2.2.1) := rfl
set_option maxRecDepth 100000 in
theorem mtc_93 : lw_tbl[mt_93.2.2.2.2.2.2.2.1]? = some (.code mt_93.1 mt_93.2.1 mt_93.2.2.1 mt_93.2.2.2.1) := rfl
set_option maxRecDepth 100000 in
theorem mtc_94 : lw_tbl[mt_94.2.2.2.2.2.2.2.1]? = some (.code mt_94.1 mt_94.2.1 mt_94.2.2.1 mt_94.2.2.2.1) := rfl
set_option maxRecDepth 100000 in
theorem mtc_95 : lw_tbl[mt_95.2.2.2.2.2.2.2.1]? = some (.code mt_95.1 mt_95.2.1 mt_95.2.2.1 mt_95.2.2.2.1) := rfl
set_option maxRecDepth 100000 in
theorem mtc_96 : lw_tbl[mt_96.2.2.2.2.2.2.2.1]? = some (.code mt_96.1 mt_96.2.1 mt_96.2.2.1 mt_96.2.2.2.1) := rfl
set_option maxRecDepth 100000 in
theorem mtc_97 : lw_tbl[mt_97.2.2.2.2.2.2.2.1]? = some (.code mt_97.1 mt_97.2.1 mt_97.2.2.1 mt_97.2.2.2.1) := rfl
set_option maxRecDepth 100000 in
theorem mtc_98 : lw_tbl[mt_98.2.2.2.2.2.2.2.1]? = some (.code mt_98.1 mt_98.2.1 mt_98.2.2.1 mt_98.2.2.2.1) := rfl
set_option maxRecDepth 100000 in
theorem mtc_99 : lw_tbl[mt_99.2.2.2.2.2.2.2.1]? = some (.code mt_99.1 mt_99.2.1 mt_99.2.2.1 mt_99.2.2.2.1) := rfl
set_option maxRecDepth 100000 in
theorem mtc_100 : lw_tbl[mt_100.2.2.2.2.2.2.2.1]? = some (.code mt_100.1 mt_100.2.1 mt_100.2.2.1 mt_100.2.2.2.1) := rfl
set_option maxRecDepth 100000 in
theorem mtc_101 : lw_tbl[mt_101.2.2.2.2.2.2.2.1]? = some (.code mt_101.1 mt_101.2.1 mt_101.2.2.1 mt_101.2.2.2.1) := rfl
set_option maxRecDepth 100000 in
theorem mtc_102 : lw_tbl[mt_102.2.2.2.2.2.2.2.1]? = some (.code mt_102.1 mt_102.2.1 mt_102.2.2.1 mt_102.2.2.2.1) := rfl
set_option maxRecDepth 100000 in
theorem mtc_103 : lw_tbl[mt_103.2.2.2.2.2.2.2.1]? = some (.code mt_103.1 mt_103.2.1 mt_103.2.2.1 mt_103.2.2.2.1) := rfl
set_option maxRecDepth 100000 in
theorem mtc_104 : lw_tbl[mt_104.2.2.2.2.2.2.2.1]? = some (.code mt_104.1 mt_104.2.1 mt_104.2.2.1 mt_104.2.2.2.1) := rfl
set_option maxRecDepth 100000 in
theorem mtc_105 : lw_tbl[mt_105.2.2.2.2.2.2.2.1]? = some (.code mt_105.1 mt_105.2.1 mt_105.2.2.1 mt_105.2.2.2.1) := rfl
set_option maxRecDepth 100000 in
theorem mtc_106 : lw_tbl[mt_106.2.2.2.2.2.2.2.1]? = some (.code mt_106.1 mt_106.2.1 mt_106.2.2.1 mt_106.2.2.2.1) := rfl
set_option maxRecDepth 100000 in
theorem mtc_107 : lw_tbl[mt_107.2.2.2.2.2.2.2.1]? = some (.code mt_107.1 mt_107.2.1 mt_107.2.2.1 mt_107.2.2.2.1) := rfl
set_option maxRecDepth 100000 in
theorem mtc_108 : lw_tbl[mt_108.2.2.2.2.2.2.2.1]? = some (.code mt_108.1 mt_108.2.1 mt_108.2.2.1 mt_108.2.2.2.1) := rfl
set_option maxRecDepth 100000 in
theorem mtc_109 : lw_tbl[mt_109.2.2.2.2.2.2.2.1]? = some (.code mt_109.1 mt_109.2.1 mt_109.2.2.1 mt_109.2.2.2.1) := rfl
set_option maxRecDepth 100000 in
theorem mtc_110 : lw_tbl[mt_110.2.2.2.2.2.2.2.1]? = some (.code mt_110.1 mt_110.2.1 mt_110.2.2.1 mt_110.2.2.2.1) := rfl
set_option maxRecDepth 100000 in
theorem mtc_111 : lw_tbl[mt_111.2.2.2.2.2.2.2.1]? = some (.code mt_111.1 mt_111.2.1 mt_111.2.2.1 mt_111.2.2.2.1) := rfl
set_option maxRecDepth 100000 in
theorem mtc_112 : lw_tbl[mt_112.2.2.2.2.2.2.2.1]? = some (.code mt_112.1 mt_112.2.1 mt_112.2.2.1 mt_112.2.2.2.1) := rfl
set_option maxRecDepth 100000 in
theorem mtc_113 : lw_tbl[mt_113.2.2.2.2.2.2.2.1]? = some (.code mt_113.1 mt_113.2.1 mt_113.2.2.1 mt_113.2.2.2.1) := rfl
set_option maxRecDepth 100000 in
theorem mtc_114 : lw_tbl[mt_114.2.2.2.2.2.2.2.1]? = some (.code mt_114.1 mt_114.2.1 mt_114.2.2.1 mt_114.2.2.2.1) := rfl
set_option maxRecDepth 100000 in
theorem mtc_115 : lw_tbl[mt_115.2.2.2.2.2.2.2.1]? = some (.code mt_115.1 mt_115.2.1 mt_115.2.2.1 mt_115.2.2.2.1) := rfl
set_option maxRecDepth 100000 in
theorem mtc_116 : lw_tbl[mt_116.2.2.2.2.2.2.2.1]? = some (.code mt_116.1 mt_116.2.1 mt_116.2.2.1 mt_116.2.2.2.1) := rfl
set_option maxRecDepth 100000 in
theorem mtc_117 : lw_tbl[mt_117.2.2.2.2.2.2.2.1]? = some (.code mt_117.1 mt_117.2.1 mt_117.2.2.1 mt_117.2.2.2.1) := rfl
set_option maxRecDepth 100000 in
theorem mtc_118 : lw_tbl[mt_118.2.2.2.2.2.2.2.1]? = some (.code mt_118.1 mt_118.2.1 mt_118.2.2.1 mt_118.2.2.2.1) := rfl
set_option maxRecDepth 100000 in
theorem mtc_119 : lw_tbl[mt_119.2.2.2.2.2.2.2.1]? = some (.code mt_119.1 mt_119.2.1 mt_119.2.2.1 mt_119.2.2.2.1) := rfl
set_option maxRecDepth 100000 in
theorem mtc_120 : lw_tbl[mt_120.2.2.2.2.2.2.2.1]? = some (.code mt_120.1 mt_120.2.1 mt_120.2.2.1 mt_120.2.2.2.1) := rfl
set_option maxRecDepth 100000 in
theorem mtc_121 : lw_tbl[mt_121.2.2.2.2.2.2.2.1]? = some (.code mt_121.1 mt_121.2.1 mt_121.2.2.1 mt_121.2.2.2.1) := rfl
set_option maxRecDepth 100000 in
theorem mtc_122 : lw_tbl[mt_122.2.2.2.2.2.2.2.1]? = some (.code mt_122.1 mt_122.2.1 mt_122.2.2.1 mt_122.2.2.2.1) := rfl
set_option maxRecDepth 100000 in
theorem mtc_123 : lw_tbl[mt_123.2.2.2.2.2.2.2.1]? = some (.code mt_123.1 mt_123.2.1 mt_123.2.2.1 mt_123.2.2.2.1) := rfl
set_option maxRecDepth 100000 in
theorem mtc_124 : lw_tbl[mt_124.2.2.2.2.2.2.2.1]? = some (.code mt_124.1 mt_124.2.1 mt_124.2.2.1 mt_124.2.2.2.1) := rfl
set_option maxRecDepth 100000 in
theorem mtc_125 : lw_tbl[mt_125.2.2.2.2.2.2.2.1]? = some (.code mt_125.1 mt_125.2.1 mt_125.2.2.1 mt_125.2.2.2.1) := rfl
set_option maxRecDepth 100000 in
theorem mtc_126 : lw_tbl[mt_126.2.2.2.2.2.2.2.1]? = some (.code mt_126.1 mt_126.2.1 mt_126.2.2.1 mt_126.2.2.2.1) := rfl
set_option maxRecDepth 100000 in
theorem mtc_127 : lw_tbl[mt_127.2.2.2.2.2.2.2.1]? = some (.code mt_127.1 mt_127.2.1 mt_127.2.2.1 mt_127.2.2.2.1) := rfl
set_option maxRecDepth 100000 in
theorem mtc_128 : lw_tbl[mt_128.2.2.2.2.2.2.2.1]? = some (.code mt_128.1 mt_128.2.1 mt_128.2.2.1 mt_128.2.2.2.1) := rfl
set_option maxRecDepth 100000 in
theorem mtc_129 : lw_tbl[mt_129.2.2.2.2.2.2.2.1]? = some (.code mt_129.1 mt_129.2.1 mt_129.2.2.1 mt_129.2.2.2.1) := rfl
set_option maxRecDepth 100000 in
theorem mtc_130 : lw_tbl[mt_130.2.2.2.2.2.2.2.1]? = some (.code mt_130.1 mt_130.2.1 mt_130.2.2.1 mt_130.2.2.2.1) := rfl
set_option maxRecDepth 100000 in
theorem mtc_131 : lw_tbl[mt_131.2.2.2.2.2.2.2.1]? = some (.code mt_131.1 mt_131.2.1 mt_131.2.2.1 mt_131.2.2.2.1) := rfl
set_option maxRecDepth 100000 in
theorem mtc_132 : lw_tbl[mt_132.2.2.2.2.2.2.2.1]? = some (.code mt_132.1 mt_132.2.1 mt_132.2.2.1 mt_132.2.2.2.1) := rfl
set_option maxRecDepth 100000 in
theorem mtc_133 : lw_tbl[mt_133.2.2.2.2.2.2.2.1]? = some (.code mt_133.1 mt_133.2.1 mt_133.2.2.1 mt_133.2.2.2.1) := rfl
theorem MT_code : ∀ q ∈ MTm, lw_tbl[q.2.2.2.2.2.2.2.1]? = some (.code q.1 q.2.1 q.2.2.1 q.2.2.2.1) := by
  show ∀ q ∈ [mt_0, mt_1, mt_2, mt_3, mt_4, mt_5, mt_6, mt_7, mt_8, mt_9, mt_10, mt_11, mt_12, mt_13, mt_14, mt_15, mt_16, mt_17, mt_18, mt_19, mt_20, mt_21, mt_22, mt_23, mt_24, mt_25, mt_26, mt_27, mt_28, mt_29, mt_30, mt_31, mt_32, mt_33, mt_34, mt_35, mt_36, mt_37, mt_38, mt_39, mt_40, mt_41, mt_42, mt_43, mt_44, mt_45, mt_46, mt_47, mt_48, mt_49, mt_50, mt_51, mt_52, mt_53, mt_54, mt_55, mt_56, mt_57, mt_58, mt_59, mt_60, mt_61, mt_62, mt_63, mt_64, mt_65, mt_66, mt_67, mt_68, mt_69, mt_70, mt_71, mt_72, mt_73, mt_74, mt_75, mt_76, mt_77, mt_78, mt_79, mt_80, mt_81, mt_82, mt_83, mt_84, mt_85, mt_86, mt_87, mt_88, mt_89, mt_90, mt_91, mt_92, mt_93, mt_94, mt_95, mt_96, mt_97, mt_98, mt_99, mt_100, mt_101, mt_102, mt_103, mt_104, mt_105, mt_106, mt_107, mt_108, mt_109, mt_110, mt_111, mt_112, mt_113, mt_114, mt_115, mt_116, mt_117, mt_118, mt_119, mt_120, mt_121, mt_122, mt_123, mt_124, mt_125, mt_126, mt_127, mt_128, mt_129, mt_130, mt_131, mt_132, mt_133], lw_tbl[q.2.2.2.2.2.2.2.1]? = some (.code q.1 q.2.1 q.2.2.1 q.2.2.2.1)
  exact List.forall_mem_cons.mpr ⟨mtc_0, List.forall_mem_cons.mpr ⟨mtc_1, List.forall_mem_cons.mpr ⟨mtc_2, List.forall_mem_cons.mpr ⟨mtc_3, List.forall_mem_cons.mpr ⟨mtc_4, List.forall_mem_cons.mpr ⟨mtc_5, List.forall_mem_cons.mpr ⟨mtc_6, List.forall_mem_cons.mpr ⟨mtc_7, List.forall_mem_cons.mpr ⟨mtc_8, List.forall_mem_cons.mpr ⟨mtc_9, List.forall_mem_cons.mpr ⟨mtc_10, List.forall_mem_cons.mpr ⟨mtc_11, List.forall_mem_cons.mpr ⟨mtc_12, List.forall_mem_cons.mpr ⟨mtc_13, List.forall_mem_cons.mpr ⟨mtc_14, List.forall_mem_cons.mpr ⟨mtc_15, List.forall_mem_cons.mpr ⟨mtc_16, List.forall_mem_cons.mpr ⟨mtc_17, List.forall_mem_cons.mpr ⟨mtc_18, List.forall_mem_cons.mpr ⟨mtc_19, List.forall_mem_cons.mpr ⟨mtc_20, List.forall_mem_cons.mpr ⟨mtc_21, List.forall_mem_cons.mpr ⟨mtc_22, List.forall_mem_cons.mpr ⟨mtc_23, List.forall_mem_cons.mpr ⟨mtc_24, List.forall_mem_cons.mpr ⟨mtc_25, List.forall_mem_cons.mpr ⟨mtc_26, List.forall_mem_cons.mpr ⟨mtc_27, List.forall_mem_cons.mpr ⟨mtc_28, List.forall_mem_cons.mpr ⟨mtc_29, List.forall_mem_cons.mpr ⟨mtc_30, List.forall_mem_cons.mpr ⟨mtc_31, List.forall_mem_cons.mpr ⟨mtc_32, List.forall_mem_cons.mpr ⟨mtc_33, List.forall_mem_cons.mpr ⟨mtc_34, List.forall_mem_cons.mpr ⟨mtc_35, List.forall_mem_cons.mpr ⟨mtc_36, List.forall_mem_cons.mpr ⟨mtc_37, List.forall_mem_cons.mpr ⟨mtc_38, List.forall_mem_cons.mpr ⟨mtc_39, List.forall_mem_cons.mpr ⟨mtc_40, List.forall_mem_cons.mpr ⟨mtc_41, List.forall_mem_cons.mpr ⟨mtc_42, List.forall_mem_cons.mpr ⟨mtc_43, List.forall_mem_cons.mpr ⟨mtc_44, List.forall_mem_cons.mpr ⟨mtc_45, List.forall_mem_cons.mpr ⟨mtc_46, List.forall_mem_cons.mpr ⟨mtc_47, List.forall_mem_cons.mpr ⟨mtc_48, List.forall_mem_cons.mpr ⟨mtc_49, List.forall_mem_cons.mpr ⟨mtc_50, List.forall_mem_cons.mpr ⟨mtc_51, List.forall_mem_cons.mpr ⟨mtc_52, List.forall_mem_cons.mpr ⟨mtc_53, List.forall_mem_cons.mpr ⟨mtc_54, List.forall_mem_cons.mpr ⟨mtc_55, List.forall_mem_cons.mpr ⟨mtc_56, List.forall_mem_cons.mpr ⟨mtc_57, List.forall_mem_cons.mpr ⟨mtc_58, List.forall_mem_cons.mpr ⟨mtc_59, List.forall_mem_cons.mpr ⟨mtc_60, List.forall_mem_cons.mpr ⟨mtc_61, List.forall_mem_cons.mpr ⟨mtc_62, List.forall_mem_cons.mpr ⟨mtc_63, List.forall_mem_cons.mpr ⟨mtc_64, List.forall_mem_cons.mpr ⟨mtc_65, List.forall_mem_cons.mpr ⟨mtc_66, List.forall_mem_cons.mpr ⟨mtc_67, List.forall_mem_cons.mpr ⟨mtc_68, List.forall_mem_cons.mpr ⟨mtc_69, List.forall_mem_cons.mpr ⟨mtc_70, List.forall_mem_cons.mpr ⟨mtc_71, List.forall_mem_cons.mpr ⟨mtc_72, List.forall_mem_cons.mpr ⟨mtc_73, List.forall_mem_cons.mpr ⟨mtc_74, List.forall_mem_cons.mpr ⟨mtc_75, List.forall_mem_cons.mpr ⟨mtc_76, List.forall_mem_cons.mpr ⟨mtc_77, List.forall_mem_cons.mpr ⟨mtc_78, List.forall_mem_cons.mpr ⟨mtc_79, List.forall_mem_cons.mpr ⟨mtc_80, List.forall_mem_cons.mpr ⟨mtc_81, List.forall_mem_cons.mpr ⟨mtc_82, List.forall_mem_cons.mpr ⟨mtc_83, List.forall_mem_cons.mpr ⟨mtc_84, List.forall_mem_cons.mpr ⟨mtc_85, List.forall_mem_cons.mpr ⟨mtc_86, List.forall_mem_cons.mpr ⟨mtc_87, List.forall_mem_cons.mpr ⟨mtc_88, List.forall_mem_cons.mpr ⟨mtc_89, List.forall_mem_cons.mpr ⟨mtc_90, List.forall_mem_cons.mpr ⟨mtc_91, List.forall_mem_cons.mpr ⟨mtc_92, List.forall_mem_cons.mpr ⟨mtc_93, List.forall_mem_cons.mpr ⟨mtc_94, List.forall_mem_cons.mpr ⟨mtc_95, List.forall_mem_cons.mpr ⟨mtc_96, List.forall_mem_cons.mpr ⟨mtc_97, List.forall_mem_cons.mpr ⟨mtc_98, List.forall_mem_cons.mpr ⟨mtc_99, List.forall_mem_cons.mpr ⟨mtc_100, List.forall_mem_cons.mpr ⟨mtc_101, List.forall_mem_cons.mpr ⟨mtc_102, List.forall_mem_cons.mpr ⟨mtc_103, List.forall_mem_cons.mpr ⟨mtc_104, List.forall_mem_cons.mpr ⟨mtc_105, List.forall_mem_cons.mpr ⟨mtc_106, List.forall_mem_cons.mpr ⟨mtc_107, List.forall_mem_cons.mpr ⟨mtc_108, List.forall_mem_cons.mpr ⟨mtc_109, List.forall_mem_cons.mpr ⟨mtc_110, List.forall_mem_cons.mpr ⟨mtc_111, List.forall_mem_cons.mpr ⟨mtc_112, List.forall_mem_cons.mpr ⟨mtc_113, List.forall_mem_cons.mpr ⟨mtc_114, List.forall_mem_cons.mpr ⟨mtc_115, List.forall_mem_cons.mpr ⟨mtc_116, List.forall_mem_cons.mpr ⟨mtc_117, List.forall_mem_cons.mpr ⟨mtc_118, List.forall_mem_cons.mpr ⟨mtc_119, List.forall_mem_cons.mpr ⟨mtc_120, List.forall_mem_cons.mpr ⟨mtc_121, List.forall_mem_cons.mpr ⟨mtc_122, List.forall_mem_cons.mpr ⟨mtc_123, List.forall_mem_cons.mpr ⟨mtc_124, List.forall_mem_cons.mpr ⟨mtc_125, List.forall_mem_cons.mpr ⟨mtc_126, List.forall_mem_cons.mpr ⟨mtc_127, List.forall_mem_cons.mpr ⟨mtc_128, List.forall_mem_cons.mpr ⟨mtc_129, List.forall_mem_cons.mpr ⟨mtc_130, List.forall_mem_cons.mpr ⟨mtc_131, List.forall_mem_cons.mpr ⟨mtc_132, List.forall_mem_cons.mpr ⟨mtc_133, fun _ h => absurd h List.not_mem_nil⟩⟩⟩⟩⟩⟩⟩⟩⟩⟩⟩⟩⟩⟩⟩⟩⟩⟩⟩⟩⟩⟩⟩⟩⟩⟩⟩⟩⟩⟩⟩⟩⟩⟩⟩⟩⟩⟩⟩⟩⟩⟩⟩⟩⟩⟩⟩⟩⟩⟩⟩⟩⟩⟩⟩⟩⟩⟩⟩⟩⟩⟩⟩⟩⟩⟩⟩⟩⟩⟩⟩⟩⟩⟩⟩⟩⟩⟩⟩⟩⟩⟩⟩⟩⟩⟩⟩⟩⟩⟩⟩⟩⟩⟩⟩⟩⟩⟩⟩⟩⟩⟩⟩⟩⟩⟩⟩⟩⟩⟩⟩⟩⟩⟩⟩⟩⟩⟩⟩⟩⟩⟩⟩⟩⟩⟩⟩⟩⟩⟩⟩⟩⟩⟩
theorem tb_oc : lw_tbl[47]? = some (.code Lib.objectInit ⟨#[0xb1]⟩ 1 none) := by set_option maxRecDepth 100000 in exact rfl
theorem tb_mx : lw_tbl[321]? = some (.code Lib.Math.max.name Lib.Math.max.code 2 (some .int)) := by set_option maxRecDepth 100000 in exact rfl
theorem tb_mn : lw_tbl[310]? = some (.code Lib.Math.min.name Lib.Math.min.code 2 (some .int)) := by set_option maxRecDepth 100000 in exact rfl
