/-! what the tables say of the words that the small machine needs: by their places in lw_tbl (made by wip/whole/gen3.py) -/
def ai_ty (q : vw_C) (k : Nat) : FieldType := (parseFieldDescriptor (q.2.1 k).2.2.1).getD .int
def ai_lw (e : String × Nat × Nat) : List Cond := match ai_mt[e.2.2]? with
  | some (y, _, _, _, k) => (match k with
    | 0 => [.methodLink e.1 e.2.1 y, .instanceMethod y, .selects y.cls y y]
    | 1 => [.methodLink e.1 e.2.1 y, .static y]
    | _ => [.methodLink e.1 e.2.1 y, .instanceMethod y])
  | none => []
def ai_nw (e : String × Nat × Nat) : List Cond := match ai_mt[e.2.2]? with
  | some (y, _, _, _, k) => (match k with
    | 0 => []
    | 1 => [.static y]
    | _ => [.instanceMethod y])
  | none => []
def ai_nl (e : String × Nat × Nat) : List Cond := match ai_mt[e.2.2]? with
  | some (y, _, _, _, _) => [.methodLinkNest e.1 e.2.1 y "PredictionMaker"]
  | none => []
def ai_mw (q : ai_M) : List Cond := [.code q.1 q.2.1 q.2.2.1 q.2.2.2.1]
def ai_fw (e : String × Nat × Nat × Nat) : List Cond := match vwCl[e.2.2.1]? with
  | some q => [.fieldLink e.1 e.2.1 q.1 (q.2.1 e.2.2.2).2.1 (q.2.1 e.2.2.2).2.2.1]
  | none => []
def ai_kw (e : String × Nat × Nat) : List Cond := match vwCl[e.2.2]? with
  | some q => [.classLink e.1 e.2.1 q.1]
  | none => [.classLink e.1 e.2.1 "[[I"]
def ai_cw (q : vw_C) : List Cond := u_ws q.1 q.2.1 q.2.2 ++ [.instantiable q.1 q.2.2, .initialized q.1]
def ai_misc : List Cond := [.instanceMethod objectInit, .code objectInit ⟨#[0xb1]⟩ 1 none, .native arraycopyName, .static arraycopyName, .initialized "java/lang/System", .initialized RJ9, .initialized RL, .arrayClass .int, .arrayClass .char]
def ai_over : List Cond := [.arrayOver (.object RX3), .arrayOver (.object RX4), .arrayOver (.array .int)]
set_option maxRecDepth 100000 in
theorem ai_lw_pl : ai_lt.flatMap ai_lw = [51, 52, 59, 60, 66, 67, 143, 144, 207, 208, 246, 247, 292, 293, 294, 296, 298, 0, 300, 301, 304, 305, 306, 309, 310, 311, 313, 314, 315, 317, 318, 319, 322, 323, 324, 327, 328, 329, 331, 332, 336, 337, 338, 340, 341, 342, 344, 346, 1, 348, 349, 350, 352, 354, 2, 356, 358, 3, 360, 362, 4, 364, 365, 366, 368, 369, 370, 372, 373, 375, 376, 377, 379, 380, 381, 384, 385, 386, 388, 389, 390, 393, 349, 350, 394, 395, 396, 398, 365, 366, 399, 341, 342, 400, 401, 402, 404, 318, 319, 405, 406, 407, 409, 410, 411, 416, 389, 390, 417, 418, 419, 421, 423, 5, 425, 426, 427, 430, 431, 432, 434, 435, 436, 438, 439, 440, 443, 444, 445, 447, 448, 449, 451, 376, 377, 452, 453, 454, 456, 457, 458, 460, 314, 315, 462, 463, 464, 466, 467, 468, 470, 471, 472, 474, 475, 476, 478, 376, 377, 479, 480, 481, 483, 484, 485, 487, 323, 324, 488, 490, 6, 492, 493, 494, 496, 497, 498, 500, 501, 502, 504, 484, 485, 505, 506, 507, 509, 480, 481, 510, 511, 512, 514, 515, 516, 518, 520, 7, 522, 524, 8, 526, 527, 530, 531, 532, 534, 535, 536, 538, 539, 540, 542, 543, 544, 546, 547, 548, 550, 551, 552, 554, 555, 556, 558, 559, 560, 562, 563, 564, 566, 535, 536, 567, 568, 569, 571, 572, 573, 575, 576, 577, 579, 580, 581, 583, 584, 585, 587, 588, 589, 591, 592, 593, 595, 596, 597, 599, 600, 601, 603, 604, 605, 607, 608, 609, 611, 612, 613, 615, 616, 617, 619, 620, 621, 624, 625, 626, 628, 629, 630, 632, 633, 636, 637, 638, 640, 527, 641, 643, 9, 645, 431, 432, 646, 395, 396, 647, 648, 650, 651, 652, 654, 655, 656, 661, 662, 663, 666, 667, 668, 670, 671, 672, 674, 675, 676, 679, 680, 681, 685, 686, 711, 712, 713, 715, 717, 10, 719, 720, 722, 724, 11, 727, 728, 731, 732, 733, 735, 737, 12, 739, 741, 13, 743, 745, 14, 749, 750, 751, 753, 754, 757, 759, 15, 761, 762, 764, 766, 16, 768, 770, 17, 772, 774, 18, 776, 778, 19, 780, 782, 20, 784, 786, 21, 788, 790, 22, 792, 794, 23, 796, 797, 799, 801, 24, 803, 804, 805, 808, 809, 810, 812, 813, 814, 816, 817, 818, 820, 822, 25, 824, 826, 26, 828, 829, 830, 832, 833, 834, 836, 837, 838, 840, 842, 27, 844, 845, 846, 848, 849, 850, 852, 853, 854, 856, 858, 28, 860, 862, 29, 864, 866, 30, 868, 870, 31, 872, 873, 874, 876, 877, 878, 880, 881, 882, 884, 886, 32, 888, 889, 890, 892, 894, 33, 896, 897, 898, 900, 901, 902, 904, 905, 906, 908, 909, 910, 912, 913, 914, 916, 918, 34, 920, 527, 921, 922, 923, 925, 926, 927, 929, 930, 931, 933, 934, 935, 937, 938, 939, 941, 942, 943, 945, 947, 35, 949, 951, 36, 953, 955, 37, 957, 813, 814, 958, 829, 830, 959, 960, 961, 963, 964, 965].filterMap (fun i => lw_tbl[i]?) := by decide +kernel
set_option maxRecDepth 100000 in
theorem ai_lw_gd : (ai_lt.flatMap ai_lw).all goodWord = true := by decide +kernel
set_option maxRecDepth 100000 in
theorem ai_nw_pl : ai_nt.flatMap ai_nw = [151, 301, 414, 414, 301].filterMap (fun i => lw_tbl[i]?) := by decide +kernel
set_option maxRecDepth 100000 in
theorem ai_nw_gd : (ai_nt.flatMap ai_nw).all goodWord = true := by decide +kernel
set_option maxRecDepth 100000 in
theorem ai_fw_pl : ai_ft.flatMap ai_fw = [72, 73, 74, 75, 76, 77, 78, 79, 80, 81, 82, 83, 84, 85, 86, 87, 88, 89, 90, 91, 92, 93, 94, 95, 96, 97, 98, 99, 100, 101, 102, 103, 104, 105, 106, 154, 155, 156, 157, 158, 159, 160, 161, 162, 163, 164, 165, 166, 167, 168, 169, 170, 171, 172, 173, 174, 175, 176, 177, 191, 192, 193, 194, 195, 196, 197, 212, 213, 214, 220, 221, 222, 223, 224, 225, 226, 227, 228, 229, 230, 250, 251, 252, 253, 254, 255, 256, 257, 258, 259, 260, 261, 262, 279, 280, 281, 282, 689, 690, 691, 692, 693, 694, 695].filterMap (fun i => lw_tbl[i]?) := by decide +kernel
set_option maxRecDepth 100000 in
theorem ai_fw_gd : (ai_ft.flatMap ai_fw).all goodWord = true := by decide +kernel
set_option maxRecDepth 100000 in
theorem ai_kw_pl : ai_kt.flatMap ai_kw = [49, 57, 63, 70, 141, 147, 205, 211, 244, 683].filterMap (fun i => lw_tbl[i]?) := by decide +kernel
set_option maxRecDepth 100000 in
theorem ai_kw_gd : (ai_kt.flatMap ai_kw).all goodWord = true := by decide +kernel
set_option maxRecDepth 100000 in
theorem ai_cw_pl : vwCl.flatMap ai_cw = [198, 200, 202, 142, 42, 231, 233, 235, 237, 239, 241, 58, 40, 215, 217, 206, 44, 107, 109, 111, 113, 115, 117, 119, 121, 123, 125, 127, 129, 131, 133, 135, 137, 65, 41, 178, 180, 182, 184, 186, 188, 149, 43, 263, 265, 267, 269, 271, 273, 275, 245, 45, 283, 285, 287, 289, 50, 39, 696, 698, 700, 702, 704, 706, 708, 684, 46].filterMap (fun i => lw_tbl[i]?) := by decide +kernel
set_option maxRecDepth 100000 in
theorem ai_cw_gd : (vwCl.flatMap ai_cw).all goodWord = true := by decide +kernel
set_option maxRecDepth 100000 in
theorem ai_con_pl : ai_ct.flatMap (fun e => [Cond.constant e.1 e.2.1 e.2.2]) = [303, 308, 321, 326, 334, 335, 383, 442, 461, 529, 623, 726, 730, 747, 748, 756, 807].filterMap (fun i => lw_tbl[i]?) := by decide +kernel
set_option maxRecDepth 100000 in
theorem ai_con_gd : (ai_ct.flatMap (fun e => [Cond.constant e.1 e.2.1 e.2.2])).all goodWord = true := by decide +kernel
set_option maxRecDepth 100000 in
theorem ai_ot_pl : ai_ot.flatMap (fun e => [Cond.methodLink e.1 e.2 objectInit]) = [54, 62, 69, 146, 153, 210, 249, 688].filterMap (fun i => lw_tbl[i]?) := by decide +kernel
set_option maxRecDepth 100000 in
theorem ai_ot_gd : (ai_ot.flatMap (fun e => [Cond.methodLink e.1 e.2 objectInit])).all goodWord = true := by decide +kernel
set_option maxRecDepth 100000 in
theorem ai_pt_pl : ai_pt.flatMap (fun e => [Cond.methodLink e.1 e.2 arraycopyName]) = [658, 665, 678].filterMap (fun i => lw_tbl[i]?) := by decide +kernel
set_option maxRecDepth 100000 in
theorem ai_pt_gd : (ai_pt.flatMap (fun e => [Cond.methodLink e.1 e.2 arraycopyName])).all goodWord = true := by decide +kernel
set_option maxRecDepth 100000 in
theorem ai_misc_pl : ai_misc = [55, 56, 660, 659, 48, 47, 38, 140, 278].filterMap (fun i => lw_tbl[i]?) := by decide +kernel
set_option maxRecDepth 100000 in
theorem ai_misc_gd : (ai_misc).all goodWord = true := by decide +kernel
set_option maxRecDepth 100000 in
theorem ai_nl_pl : ai_nt.flatMap ai_nl = [150, 392, 413, 429, 635].filterMap (fun i => lw_tbl[i]?) := by decide +kernel
set_option maxRecDepth 100000 in
theorem ai_over_pl : ai_over = [64, 148, 71].filterMap (fun i => lw_tbl[i]?) := by decide +kernel
set_option maxRecDepth 100000 in
theorem ai_mw0 : lw_tbl[145]? = some (Cond.code yX0_init cX0_init 2 none) := rfl
set_option maxRecDepth 100000 in
theorem ai_mw1 : lw_tbl[669]? = some (Cond.code yX0_copyFrom cX0_copyFrom 3 none) := rfl
set_option maxRecDepth 100000 in
theorem ai_mw2 : lw_tbl[441]? = some (Cond.code yX0_insert cX0_insert 8 (some .int)) := rfl
set_option maxRecDepth 100000 in
theorem ai_mw3 : lw_tbl[450]? = some (Cond.code yX0_positionOf cX0_positionOf 3 (some .int)) := rfl
set_option maxRecDepth 100000 in
theorem ai_mw4 : lw_tbl[378]? = some (Cond.code yX0_remove cX0_remove 4 none) := rfl
set_option maxRecDepth 100000 in
theorem ai_mw5 : lw_tbl[477]? = some (Cond.code yX0_removeAll cX0_removeAll 3 none) := rfl
set_option maxRecDepth 100000 in
theorem ai_mw6 : lw_tbl[570]? = some (Cond.code yX0_openOf cX0_openOf 4 (some .int)) := rfl
set_option maxRecDepth 100000 in
theorem ai_mw7 : lw_tbl[61]? = some (Cond.code yX1_init cX1_init 2 none) := rfl
set_option maxRecDepth 100000 in
theorem ai_mw8 : lw_tbl[657]? = some (Cond.code yX1_copyFrom cX1_copyFrom 3 none) := rfl
set_option maxRecDepth 100000 in
theorem ai_mw9 : lw_tbl[320]? = some (Cond.code yX1_marketAt cX1_marketAt 2 (some (.object "PredictionMaker$Market"))) := rfl
set_option maxRecDepth 100000 in
theorem ai_mw10 : lw_tbl[316]? = some (Cond.code yX1_marketWith cX1_marketWith 4 (some (.object "PredictionMaker$Market"))) := rfl
set_option maxRecDepth 100000 in
theorem ai_mw11 : lw_tbl[307]? = some (Cond.code yX1_addMarket cX1_addMarket 7 (some .int)) := rfl
set_option maxRecDepth 100000 in
theorem ai_mw12 : lw_tbl[367]? = some (Cond.code yX1_exchange cX1_exchange 7 (some .int)) := rfl
set_option maxRecDepth 100000 in
theorem ai_mw13 : lw_tbl[428]? = some (Cond.code yX1_exchangeSet cX1_exchangeSet 6 none) := rfl
set_option maxRecDepth 100000 in
theorem ai_mw14 : lw_tbl[339]? = some (Cond.code yX1_executeAllOrders cX1_executeAllOrders 2 none) := rfl
set_option maxRecDepth 100000 in
theorem ai_mw15 : lw_tbl[343]? = some (Cond.code yX1_executeOrders cX1_executeOrders 5 none) := rfl
set_option maxRecDepth 100000 in
theorem ai_mw16 : lw_tbl[347]? = some (Cond.code yX1_firstExecutable cX1_firstExecutable 5 (some .int)) := rfl
set_option maxRecDepth 100000 in
theorem ai_mw17 : lw_tbl[459]? = some (Cond.code yX1_obstacleOf cX1_obstacleOf 4 (some .int)) := rfl
set_option maxRecDepth 100000 in
theorem ai_mw18 : lw_tbl[363]? = some (Cond.code yX1_obstacle cX1_obstacle 4 (some .int)) := rfl
set_option maxRecDepth 100000 in
theorem ai_mw19 : lw_tbl[473]? = some (Cond.code yX1_passTick cX1_passTick 3 none) := rfl
set_option maxRecDepth 100000 in
theorem ai_mw20 : lw_tbl[499]? = some (Cond.code yX1_waitsForCondition cX1_waitsForCondition 3 (some .boolean)) := rfl
set_option maxRecDepth 100000 in
theorem ai_mw21 : lw_tbl[503]? = some (Cond.code yX1_payWinners cX1_payWinners 6 (some .int)) := rfl
set_option maxRecDepth 100000 in
theorem ai_mw22 : lw_tbl[482]? = some (Cond.code yX1_makeVoid cX1_makeVoid 4 none) := rfl
set_option maxRecDepth 100000 in
theorem ai_mw23 : lw_tbl[486]? = some (Cond.code yX1_voidFollowers cX1_voidFollowers 5 (some .int)) := rfl
set_option maxRecDepth 100000 in
theorem ai_mw24 : lw_tbl[491]? = some (Cond.code yX1_reasonByCondition cX1_reasonByCondition 3 (some .int)) := rfl
set_option maxRecDepth 100000 in
theorem ai_mw25 : lw_tbl[561]? = some (Cond.code yX1_worthOf cX1_worthOf 4 (some .int)) := rfl
set_option maxRecDepth 100000 in
theorem ai_mw26 : lw_tbl[574]? = some (Cond.code yX1_mostCoinsOf cX1_mostCoinsOf 4 (some .int)) := rfl
set_option maxRecDepth 100000 in
theorem ai_mw27 : lw_tbl[606]? = some (Cond.code yX1_openMarkets cX1_openMarkets 3 (some .int)) := rfl
set_option maxRecDepth 100000 in
theorem ai_mw28 : lw_tbl[610]? = some (Cond.code yX1_sumOfBalances cX1_sumOfBalances 3 (some .int)) := rfl
set_option maxRecDepth 100000 in
theorem ai_mw29 : lw_tbl[614]? = some (Cond.code yX1_sumOfAccounts cX1_sumOfAccounts 3 (some .int)) := rfl
set_option maxRecDepth 100000 in
theorem ai_mw30 : lw_tbl[209]? = some (Cond.code yX2_init cX2_init 1 none) := rfl
set_option maxRecDepth 100000 in
theorem ai_mw31 : lw_tbl[677]? = some (Cond.code yX2_copyFrom cX2_copyFrom 3 none) := rfl
set_option maxRecDepth 100000 in
theorem ai_mw32 : lw_tbl[371]? = some (Cond.code yX2_add cX2_add 8 none) := rfl
set_option maxRecDepth 100000 in
theorem ai_mw33 : lw_tbl[594]? = some (Cond.code yX2_keeps cX2_keeps 2 (some .boolean)) := rfl
set_option maxRecDepth 100000 in
theorem ai_mw34 : lw_tbl[598]? = some (Cond.code yX2_partOf cX2_partOf 3 (some .int)) := rfl
set_option maxRecDepth 100000 in
theorem ai_mw35 : lw_tbl[68]? = some (Cond.code yX3_init cX3_init 2 none) := rfl
set_option maxRecDepth 100000 in
theorem ai_mw36 : lw_tbl[664]? = some (Cond.code yX3_copyFrom cX3_copyFrom 3 none) := rfl
set_option maxRecDepth 100000 in
theorem ai_mw37 : lw_tbl[325]? = some (Cond.code yX3_isLive cX3_isLive 1 (some .boolean)) := rfl
set_option maxRecDepth 100000 in
theorem ai_mw38 : lw_tbl[517]? = some (Cond.code yX3_property cX3_property 2 (some .int)) := rfl
set_option maxRecDepth 100000 in
theorem ai_mw39 : lw_tbl[521]? = some (Cond.code yX3_lossBound cX3_lossBound 1 (some .int)) := rfl
set_option maxRecDepth 100000 in
theorem ai_mw40 : lw_tbl[525]? = some (Cond.code yX3_mostShares cX3_mostShares 3 (some .int)) := rfl
set_option maxRecDepth 100000 in
theorem ai_mw41 : lw_tbl[359]? = some (Cond.code yX3_measure cX3_measure 4 none) := rfl
set_option maxRecDepth 100000 in
theorem ai_mw42 : lw_tbl[355]? = some (Cond.code yX3_level cX3_level 2 (some .int)) := rfl
set_option maxRecDepth 100000 in
theorem ai_mw43 : lw_tbl[351]? = some (Cond.code yX3_costOf cX3_costOf 5 (some .int)) := rfl
set_option maxRecDepth 100000 in
theorem ai_mw44 : lw_tbl[420]? = some (Cond.code yX3_costOfSet cX3_costOfSet 5 (some .int)) := rfl
set_option maxRecDepth 100000 in
theorem ai_mw45 : lw_tbl[424]? = some (Cond.code yX3_addSet cX3_addSet 4 none) := rfl
set_option maxRecDepth 100000 in
theorem ai_mw46 : lw_tbl[537]? = some (Cond.code yX3_priceWith cX3_priceWith 4 (some .int)) := rfl
set_option maxRecDepth 100000 in
theorem ai_mw47 : lw_tbl[391]? = some (Cond.code yX3_canHave cX3_canHave 3 (some .boolean)) := rfl
set_option maxRecDepth 100000 in
theorem ai_mw48 : lw_tbl[412]? = some (Cond.code yX3_canHaveSet cX3_canHaveSet 4 (some .boolean)) := rfl
set_option maxRecDepth 100000 in
theorem ai_mw49 : lw_tbl[408]? = some (Cond.code yX3_hasSet cX3_hasSet 2 (some .boolean)) := rfl
set_option maxRecDepth 100000 in
theorem ai_mw50 : lw_tbl[565]? = some (Cond.code yX3_worthOf cX3_worthOf 4 (some .int)) := rfl
set_option maxRecDepth 100000 in
theorem ai_mw51 : lw_tbl[578]? = some (Cond.code yX3_mostHeldBy cX3_mostHeldBy 4 (some .int)) := rfl
set_option maxRecDepth 100000 in
theorem ai_mw52 : lw_tbl[152]? = some (Cond.code yX4_init cX4_init 1 none) := rfl
set_option maxRecDepth 100000 in
theorem ai_mw53 : lw_tbl[673]? = some (Cond.code yX4_copyFrom cX4_copyFrom 2 none) := rfl
set_option maxRecDepth 100000 in
theorem ai_mw54 : lw_tbl[248]? = some (Cond.code yX5_init cX5_init 1 none) := rfl
set_option maxRecDepth 100000 in
theorem ai_mw55 : lw_tbl[622]? = some (Cond.code yX5_add cX5_add 4 (some .int)) := rfl
set_option maxRecDepth 100000 in
theorem ai_mw56 : lw_tbl[631]? = some (Cond.code yX5_errorOffset cX5_errorOffset 3 (some .int)) := rfl
set_option maxRecDepth 100000 in
theorem ai_mw57 : lw_tbl[634]? = some (Cond.code yX5_stepAfter cX5_stepAfter 2 (some .int)) := rfl
set_option maxRecDepth 100000 in
theorem ai_mw58 : lw_tbl[639]? = some (Cond.code yX5_readTrade cX5_readTrade 4 (some .int)) := rfl
set_option maxRecDepth 100000 in
theorem ai_mw59 : lw_tbl[644]? = some (Cond.code yX5_note cX5_note 4 none) := rfl
set_option maxRecDepth 100000 in
theorem ai_mw60 : lw_tbl[53]? = some (Cond.code yX6_init cX6_init 1 none) := rfl
set_option maxRecDepth 100000 in
theorem ai_mw61 : lw_tbl[295]? = some (Cond.code yX6_openMarket cX6_openMarket 4 (some .int)) := rfl
set_option maxRecDepth 100000 in
theorem ai_mw62 : lw_tbl[312]? = some (Cond.code yX6_openLinked cX6_openLinked 7 (some .int)) := rfl
set_option maxRecDepth 100000 in
theorem ai_mw63 : lw_tbl[330]? = some (Cond.code yX6_deposit cX6_deposit 4 (some .int)) := rfl
set_option maxRecDepth 100000 in
theorem ai_mw64 : lw_tbl[382]? = some (Cond.code yX6_withdraw cX6_withdraw 3 (some .int)) := rfl
set_option maxRecDepth 100000 in
theorem ai_mw65 : lw_tbl[387]? = some (Cond.code yX6_cost cX6_cost 5 (some .int)) := rfl
set_option maxRecDepth 100000 in
theorem ai_mw66 : lw_tbl[397]? = some (Cond.code yX6_buy cX6_buy 7 (some .int)) := rfl
set_option maxRecDepth 100000 in
theorem ai_mw67 : lw_tbl[403]? = some (Cond.code yX6_buySet cX6_buySet 7 (some .int)) := rfl
set_option maxRecDepth 100000 in
theorem ai_mw68 : lw_tbl[433]? = some (Cond.code yX6_sell cX6_sell 7 (some .int)) := rfl
set_option maxRecDepth 100000 in
theorem ai_mw69 : lw_tbl[437]? = some (Cond.code yX6_place cX6_place 8 (some .int)) := rfl
set_option maxRecDepth 100000 in
theorem ai_mw70 : lw_tbl[446]? = some (Cond.code yX6_cancel cX6_cancel 4 (some .int)) := rfl
set_option maxRecDepth 100000 in
theorem ai_mw71 : lw_tbl[455]? = some (Cond.code yX6_order cX6_order 5 (some .int)) := rfl
set_option maxRecDepth 100000 in
theorem ai_mw72 : lw_tbl[465]? = some (Cond.code yX6_waiting cX6_waiting 6 (some .int)) := rfl
set_option maxRecDepth 100000 in
theorem ai_mw73 : lw_tbl[469]? = some (Cond.code yX6_tick cX6_tick 3 (some .int)) := rfl
set_option maxRecDepth 100000 in
theorem ai_mw74 : lw_tbl[495]? = some (Cond.code yX6_settle cX6_settle 5 (some .int)) := rfl
set_option maxRecDepth 100000 in
theorem ai_mw75 : lw_tbl[508]? = some (Cond.code yX6_cancelMarket cX6_cancelMarket 3 (some .int)) := rfl
set_option maxRecDepth 100000 in
theorem ai_mw76 : lw_tbl[513]? = some (Cond.code yX6_market cX6_market 4 (some .int)) := rfl
set_option maxRecDepth 100000 in
theorem ai_mw77 : lw_tbl[533]? = some (Cond.code yX6_price cX6_price 4 (some .int)) := rfl
set_option maxRecDepth 100000 in
theorem ai_mw78 : lw_tbl[541]? = some (Cond.code yX6_sharesFor cX6_sharesFor 6 (some .int)) := rfl
set_option maxRecDepth 100000 in
theorem ai_mw79 : lw_tbl[545]? = some (Cond.code yX6_voidReason cX6_voidReason 6 (some .int)) := rfl
set_option maxRecDepth 100000 in
theorem ai_mw80 : lw_tbl[549]? = some (Cond.code yX6_shares cX6_shares 4 (some .int)) := rfl
set_option maxRecDepth 100000 in
theorem ai_mw81 : lw_tbl[553]? = some (Cond.code yX6_holding cX6_holding 5 (some .int)) := rfl
set_option maxRecDepth 100000 in
theorem ai_mw82 : lw_tbl[557]? = some (Cond.code yX6_trader cX6_trader 3 (some .int)) := rfl
set_option maxRecDepth 100000 in
theorem ai_mw83 : lw_tbl[582]? = some (Cond.code yX6_paid cX6_paid 4 (some .int)) := rfl
set_option maxRecDepth 100000 in
theorem ai_mw84 : lw_tbl[586]? = some (Cond.code yX6_affordable cX6_affordable 7 (some .int)) := rfl
set_option maxRecDepth 100000 in
theorem ai_mw85 : lw_tbl[590]? = some (Cond.code yX6_history cX6_history 3 (some .int)) := rfl
set_option maxRecDepth 100000 in
theorem ai_mw86 : lw_tbl[602]? = some (Cond.code yX6_count cX6_count 2 (some .int)) := rfl
set_option maxRecDepth 100000 in
theorem ai_mw87 : lw_tbl[618]? = some (Cond.code yX6_append cX6_append 3 (some .int)) := rfl
set_option maxRecDepth 100000 in
theorem ai_mw88 : lw_tbl[627]? = some (Cond.code yX6_trade cX6_trade 6 (some .int)) := rfl
set_option maxRecDepth 100000 in
theorem ai_mw89 : lw_tbl[653]? = some (Cond.code yX6_save cX6_save 1 (some .int)) := rfl
set_option maxRecDepth 100000 in
theorem ai_mw90 : lw_tbl[682]? = some (Cond.code yX6_restore cX6_restore 1 (some .int)) := rfl
set_option maxRecDepth 100000 in
theorem ai_mw91 : lw_tbl[299]? = some (Cond.code yX6_canOpen cX6_canOpen 4 (some .boolean)) := rfl
set_option maxRecDepth 100000 in
theorem ai_mw92 : lw_tbl[333]? = some (Cond.code yX6_isTrader cX6_isTrader 1 (some .boolean)) := rfl
set_option maxRecDepth 100000 in
theorem ai_mw93 : lw_tbl[649]? = some (Cond.code yX6_isRefusal cX6_isRefusal 1 (some .boolean)) := rfl
set_option maxRecDepth 100000 in
theorem ai_mw94 : lw_tbl[415]? = some (Cond.code yX6_isIn cX6_isIn 2 (some .boolean)) := rfl
set_option maxRecDepth 100000 in
theorem ai_mw95 : lw_tbl[302]? = some (Cond.code yX6_isBetween cX6_isBetween 3 (some .boolean)) := rfl
set_option maxRecDepth 100000 in
theorem ai_mw96 : lw_tbl[687]? = some (Cond.code yX7_init cX7_init 1 none) := rfl
set_option maxRecDepth 100000 in
theorem ai_mw97 : lw_tbl[721]? = some (Cond.code yX7_in cX7_in 3 (some .boolean)) := rfl
set_option maxRecDepth 100000 in
theorem ai_mw98 : lw_tbl[729]? = some (Cond.code yX7_marketAt cX7_marketAt 1 (some .int)) := rfl
set_option maxRecDepth 100000 in
theorem ai_mw99 : lw_tbl[763]? = some (Cond.code yX7_orderAt cX7_orderAt 1 (some .int)) := rfl
set_option maxRecDepth 100000 in
theorem ai_mw100 : lw_tbl[746]? = some (Cond.code yX7_of cX7_of 3 (some .int)) := rfl
set_option maxRecDepth 100000 in
theorem ai_mw101 : lw_tbl[742]? = some (Cond.code yX7_isMarket cX7_isMarket 2 (some .boolean)) := rfl
set_option maxRecDepth 100000 in
theorem ai_mw102 : lw_tbl[738]? = some (Cond.code yX7_isOutcome cX7_isOutcome 3 (some .boolean)) := rfl
set_option maxRecDepth 100000 in
theorem ai_mw103 : lw_tbl[755]? = some (Cond.code yX7_isTrader cX7_isTrader 1 (some .boolean)) := rfl
set_option maxRecDepth 100000 in
theorem ai_mw104 : lw_tbl[791]? = some (Cond.code yX7_isAhead cX7_isAhead 5 (some .boolean)) := rfl
set_option maxRecDepth 100000 in
theorem ai_mw105 : lw_tbl[787]? = some (Cond.code yX7_ranked cX7_ranked 6 (some .int)) := rfl
set_option maxRecDepth 100000 in
theorem ai_mw106 : lw_tbl[783]? = some (Cond.code yX7_active cX7_active 4 (some .int)) := rfl
set_option maxRecDepth 100000 in
theorem ai_mw107 : lw_tbl[779]? = some (Cond.code yX7_level cX7_level 7 (some .int)) := rfl
set_option maxRecDepth 100000 in
theorem ai_mw108 : lw_tbl[895]? = some (Cond.code yX7_priceOf cX7_priceOf 8 (some .int)) := rfl
set_option maxRecDepth 100000 in
theorem ai_mw109 : lw_tbl[775]? = some (Cond.code yX7_costOf cX7_costOf 6 (some .int)) := rfl
set_option maxRecDepth 100000 in
theorem ai_mw110 : lw_tbl[718]? = some (Cond.code yX7_isFine cX7_isFine 4 (some .boolean)) := rfl
set_option maxRecDepth 100000 in
theorem ai_mw111 : lw_tbl[725]? = some (Cond.code yX7_opens cX7_opens 8 (some .int)) := rfl
set_option maxRecDepth 100000 in
theorem ai_mw112 : lw_tbl[714]? = some (Cond.code yX7_openMarket cX7_openMarket 4 (some .int)) := rfl
set_option maxRecDepth 100000 in
theorem ai_mw113 : lw_tbl[734]? = some (Cond.code yX7_openLinked cX7_openLinked 6 (some .int)) := rfl
set_option maxRecDepth 100000 in
theorem ai_mw114 : lw_tbl[752]? = some (Cond.code yX7_deposit cX7_deposit 5 (some .int)) := rfl
set_option maxRecDepth 100000 in
theorem ai_mw115 : lw_tbl[806]? = some (Cond.code yX7_withdraw cX7_withdraw 3 (some .int)) := rfl
set_option maxRecDepth 100000 in
theorem ai_mw116 : lw_tbl[811]? = some (Cond.code yX7_cost cX7_cost 4 (some .int)) := rfl
set_option maxRecDepth 100000 in
theorem ai_mw117 : lw_tbl[795]? = some (Cond.code yX7_trades cX7_trades 8 (some .int)) := rfl
set_option maxRecDepth 100000 in
theorem ai_mw118 : lw_tbl[815]? = some (Cond.code yX7_buy cX7_buy 6 (some .int)) := rfl
set_option maxRecDepth 100000 in
theorem ai_mw119 : lw_tbl[823]? = some (Cond.code yX7_has cX7_has 3 (some .boolean)) := rfl
set_option maxRecDepth 100000 in
theorem ai_mw120 : lw_tbl[827]? = some (Cond.code yX7_grows cX7_grows 5 none) := rfl
set_option maxRecDepth 100000 in
theorem ai_mw121 : lw_tbl[819]? = some (Cond.code yX7_buySet cX7_buySet 7 (some .int)) := rfl
set_option maxRecDepth 100000 in
theorem ai_mw122 : lw_tbl[831]? = some (Cond.code yX7_sell cX7_sell 6 (some .int)) := rfl
set_option maxRecDepth 100000 in
theorem ai_mw123 : lw_tbl[771]? = some (Cond.code yX7_bar cX7_bar 5 (some .int)) := rfl
set_option maxRecDepth 100000 in
theorem ai_mw124 : lw_tbl[767]? = some (Cond.code yX7_isTriedAhead cX7_isTriedAhead 4 (some .boolean)) := rfl
set_option maxRecDepth 100000 in
theorem ai_mw125 : lw_tbl[802]? = some (Cond.code yX7_removes cX7_removes 3 none) := rfl
set_option maxRecDepth 100000 in
theorem ai_mw126 : lw_tbl[760]? = some (Cond.code yX7_executes cX7_executes 5 none) := rfl
set_option maxRecDepth 100000 in
theorem ai_mw127 : lw_tbl[835]? = some (Cond.code yX7_place cX7_place 8 (some .int)) := rfl
set_option maxRecDepth 100000 in
theorem ai_mw128 : lw_tbl[843]? = some (Cond.code yX7_find cX7_find 4 (some .int)) := rfl
set_option maxRecDepth 100000 in
theorem ai_mw129 : lw_tbl[839]? = some (Cond.code yX7_cancel cX7_cancel 4 (some .int)) := rfl
set_option maxRecDepth 100000 in
theorem ai_mw130 : lw_tbl[847]? = some (Cond.code yX7_order cX7_order 4 (some .int)) := rfl
set_option maxRecDepth 100000 in
theorem ai_mw131 : lw_tbl[851]? = some (Cond.code yX7_waiting cX7_waiting 6 (some .int)) := rfl
set_option maxRecDepth 100000 in
theorem ai_mw132 : lw_tbl[867]? = some (Cond.code yX7_cancelsAll cX7_cancelsAll 3 none) := rfl
set_option maxRecDepth 100000 in
theorem ai_mw133 : lw_tbl[871]? = some (Cond.code yX7_voids cX7_voids 4 none) := rfl
set_option maxRecDepth 100000 in
theorem ai_mw134 : lw_tbl[863]? = some (Cond.code yX7_earliest cX7_earliest 5 (some .int)) := rfl
set_option maxRecDepth 100000 in
theorem ai_mw135 : lw_tbl[859]? = some (Cond.code yX7_ticks cX7_ticks 2 none) := rfl
set_option maxRecDepth 100000 in
theorem ai_mw136 : lw_tbl[855]? = some (Cond.code yX7_tick cX7_tick 3 (some .int)) := rfl
set_option maxRecDepth 100000 in
theorem ai_mw137 : lw_tbl[875]? = some (Cond.code yX7_settle cX7_settle 6 (some .int)) := rfl
set_option maxRecDepth 100000 in
theorem ai_mw138 : lw_tbl[879]? = some (Cond.code yX7_cancelMarket cX7_cancelMarket 2 (some .int)) := rfl
set_option maxRecDepth 100000 in
theorem ai_mw139 : lw_tbl[887]? = some (Cond.code yX7_greatestShares cX7_greatestShares 2 (some .int)) := rfl
set_option maxRecDepth 100000 in
theorem ai_mw140 : lw_tbl[883]? = some (Cond.code yX7_market cX7_market 3 (some .int)) := rfl
set_option maxRecDepth 100000 in
theorem ai_mw141 : lw_tbl[891]? = some (Cond.code yX7_price cX7_price 3 (some .int)) := rfl
set_option maxRecDepth 100000 in
theorem ai_mw142 : lw_tbl[899]? = some (Cond.code yX7_sharesFor cX7_sharesFor 7 (some .int)) := rfl
set_option maxRecDepth 100000 in
theorem ai_mw143 : lw_tbl[903]? = some (Cond.code yX7_voidReason cX7_voidReason 5 (some .int)) := rfl
set_option maxRecDepth 100000 in
theorem ai_mw144 : lw_tbl[907]? = some (Cond.code yX7_shares cX7_shares 3 (some .int)) := rfl
set_option maxRecDepth 100000 in
theorem ai_mw145 : lw_tbl[911]? = some (Cond.code yX7_holding cX7_holding 4 (some .int)) := rfl
set_option maxRecDepth 100000 in
theorem ai_mw146 : lw_tbl[919]? = some (Cond.code yX7_worth cX7_worth 8 (some .int)) := rfl
set_option maxRecDepth 100000 in
theorem ai_mw147 : lw_tbl[915]? = some (Cond.code yX7_trader cX7_trader 5 (some .int)) := rfl
set_option maxRecDepth 100000 in
theorem ai_mw148 : lw_tbl[924]? = some (Cond.code yX7_paid cX7_paid 3 (some .int)) := rfl
set_option maxRecDepth 100000 in
theorem ai_mw149 : lw_tbl[928]? = some (Cond.code yX7_affordable cX7_affordable 6 (some .int)) := rfl
set_option maxRecDepth 100000 in
theorem ai_mw150 : lw_tbl[932]? = some (Cond.code yX7_history cX7_history 3 (some .int)) := rfl
set_option maxRecDepth 100000 in
theorem ai_mw151 : lw_tbl[936]? = some (Cond.code yX7_count cX7_count 4 (some .int)) := rfl
set_option maxRecDepth 100000 in
theorem ai_mw152 : lw_tbl[940]? = some (Cond.code yX7_append cX7_append 4 (some .int)) := rfl
set_option maxRecDepth 100000 in
theorem ai_mw153 : lw_tbl[952]? = some (Cond.code yX7_takes cX7_takes 3 (some .boolean)) := rfl
set_option maxRecDepth 100000 in
theorem ai_mw154 : lw_tbl[948]? = some (Cond.code yX7_isTrade cX7_isTrade 1 (some .boolean)) := rfl
set_option maxRecDepth 100000 in
theorem ai_mw155 : lw_tbl[956]? = some (Cond.code yX7_does cX7_does 7 (some .boolean)) := rfl
set_option maxRecDepth 100000 in
theorem ai_mw156 : lw_tbl[944]? = some (Cond.code yX7_trade cX7_trade 7 (some .int)) := rfl
set_option maxRecDepth 100000 in
theorem ai_mw157 : lw_tbl[962]? = some (Cond.code yX7_save cX7_save 2 (some .int)) := rfl
set_option maxRecDepth 100000 in
theorem ai_mw158 : lw_tbl[966]? = some (Cond.code yX7_restore cX7_restore 2 (some .int)) := rfl
set_option maxRecDepth 100000 in
theorem ai_mw159 : lw_tbl[374]? = some (Cond.code yJ9_floorMod_7cf53 cJ9_floorMod_7cf53 3 (some .int)) := rfl
set_option maxRecDepth 100000 in
theorem ai_mw160 : lw_tbl[528]? = some (Cond.code yJ9_max_7cf53 cJ9_max_7cf53 2 (some .int)) := rfl
set_option maxRecDepth 100000 in
theorem ai_mw161 : lw_tbl[798]? = some (Cond.code yJ9_min_7cf53 cJ9_min_7cf53 2 (some .int)) := rfl
set_option maxRecDepth 100000 in
theorem ai_mw_in : ∀ w ∈ (ai_mt.take 162).flatMap ai_mw, w ∈ lw_tbl := by
  show ∀ w ∈ [Cond.code yX0_init cX0_init 2 none, Cond.code yX0_copyFrom cX0_copyFrom 3 none, Cond.code yX0_insert cX0_insert 8 (some .int), Cond.code yX0_positionOf cX0_positionOf 3 (some .int), Cond.code yX0_remove cX0_remove 4 none, Cond.code yX0_removeAll cX0_removeAll 3 none, Cond.code yX0_openOf cX0_openOf 4 (some .int), Cond.code yX1_init cX1_init 2 none, Cond.code yX1_copyFrom cX1_copyFrom 3 none, Cond.code yX1_marketAt cX1_marketAt 2 (some (.object "PredictionMaker$Market")), Cond.code yX1_marketWith cX1_marketWith 4 (some (.object "PredictionMaker$Market")), Cond.code yX1_addMarket cX1_addMarket 7 (some .int), Cond.code yX1_exchange cX1_exchange 7 (some .int), Cond.code yX1_exchangeSet cX1_exchangeSet 6 none, Cond.code yX1_executeAllOrders cX1_executeAllOrders 2 none, Cond.code yX1_executeOrders cX1_executeOrders 5 none, Cond.code yX1_firstExecutable cX1_firstExecutable 5 (some .int), Cond.code yX1_obstacleOf cX1_obstacleOf 4 (some .int), Cond.code yX1_obstacle cX1_obstacle 4 (some .int), Cond.code yX1_passTick cX1_passTick 3 none, Cond.code yX1_waitsForCondition cX1_waitsForCondition 3 (some .boolean), Cond.code yX1_payWinners cX1_payWinners 6 (some .int), Cond.code yX1_makeVoid cX1_makeVoid 4 none, Cond.code yX1_voidFollowers cX1_voidFollowers 5 (some .int), Cond.code yX1_reasonByCondition cX1_reasonByCondition 3 (some .int), Cond.code yX1_worthOf cX1_worthOf 4 (some .int), Cond.code yX1_mostCoinsOf cX1_mostCoinsOf 4 (some .int), Cond.code yX1_openMarkets cX1_openMarkets 3 (some .int), Cond.code yX1_sumOfBalances cX1_sumOfBalances 3 (some .int), Cond.code yX1_sumOfAccounts cX1_sumOfAccounts 3 (some .int), Cond.code yX2_init cX2_init 1 none, Cond.code yX2_copyFrom cX2_copyFrom 3 none, Cond.code yX2_add cX2_add 8 none, Cond.code yX2_keeps cX2_keeps 2 (some .boolean), Cond.code yX2_partOf cX2_partOf 3 (some .int), Cond.code yX3_init cX3_init 2 none, Cond.code yX3_copyFrom cX3_copyFrom 3 none, Cond.code yX3_isLive cX3_isLive 1 (some .boolean), Cond.code yX3_property cX3_property 2 (some .int), Cond.code yX3_lossBound cX3_lossBound 1 (some .int), Cond.code yX3_mostShares cX3_mostShares 3 (some .int), Cond.code yX3_measure cX3_measure 4 none, Cond.code yX3_level cX3_level 2 (some .int), Cond.code yX3_costOf cX3_costOf 5 (some .int), Cond.code yX3_costOfSet cX3_costOfSet 5 (some .int), Cond.code yX3_addSet cX3_addSet 4 none, Cond.code yX3_priceWith cX3_priceWith 4 (some .int), Cond.code yX3_canHave cX3_canHave 3 (some .boolean), Cond.code yX3_canHaveSet cX3_canHaveSet 4 (some .boolean), Cond.code yX3_hasSet cX3_hasSet 2 (some .boolean), Cond.code yX3_worthOf cX3_worthOf 4 (some .int), Cond.code yX3_mostHeldBy cX3_mostHeldBy 4 (some .int), Cond.code yX4_init cX4_init 1 none, Cond.code yX4_copyFrom cX4_copyFrom 2 none, Cond.code yX5_init cX5_init 1 none, Cond.code yX5_add cX5_add 4 (some .int), Cond.code yX5_errorOffset cX5_errorOffset 3 (some .int), Cond.code yX5_stepAfter cX5_stepAfter 2 (some .int), Cond.code yX5_readTrade cX5_readTrade 4 (some .int), Cond.code yX5_note cX5_note 4 none, Cond.code yX6_init cX6_init 1 none, Cond.code yX6_openMarket cX6_openMarket 4 (some .int), Cond.code yX6_openLinked cX6_openLinked 7 (some .int), Cond.code yX6_deposit cX6_deposit 4 (some .int), Cond.code yX6_withdraw cX6_withdraw 3 (some .int), Cond.code yX6_cost cX6_cost 5 (some .int), Cond.code yX6_buy cX6_buy 7 (some .int), Cond.code yX6_buySet cX6_buySet 7 (some .int), Cond.code yX6_sell cX6_sell 7 (some .int), Cond.code yX6_place cX6_place 8 (some .int), Cond.code yX6_cancel cX6_cancel 4 (some .int), Cond.code yX6_order cX6_order 5 (some .int), Cond.code yX6_waiting cX6_waiting 6 (some .int), Cond.code yX6_tick cX6_tick 3 (some .int), Cond.code yX6_settle cX6_settle 5 (some .int), Cond.code yX6_cancelMarket cX6_cancelMarket 3 (some .int), Cond.code yX6_market cX6_market 4 (some .int), Cond.code yX6_price cX6_price 4 (some .int), Cond.code yX6_sharesFor cX6_sharesFor 6 (some .int), Cond.code yX6_voidReason cX6_voidReason 6 (some .int), Cond.code yX6_shares cX6_shares 4 (some .int), Cond.code yX6_holding cX6_holding 5 (some .int), Cond.code yX6_trader cX6_trader 3 (some .int), Cond.code yX6_paid cX6_paid 4 (some .int), Cond.code yX6_affordable cX6_affordable 7 (some .int), Cond.code yX6_history cX6_history 3 (some .int), Cond.code yX6_count cX6_count 2 (some .int), Cond.code yX6_append cX6_append 3 (some .int), Cond.code yX6_trade cX6_trade 6 (some .int), Cond.code yX6_save cX6_save 1 (some .int), Cond.code yX6_restore cX6_restore 1 (some .int), Cond.code yX6_canOpen cX6_canOpen 4 (some .boolean), Cond.code yX6_isTrader cX6_isTrader 1 (some .boolean), Cond.code yX6_isRefusal cX6_isRefusal 1 (some .boolean), Cond.code yX6_isIn cX6_isIn 2 (some .boolean), Cond.code yX6_isBetween cX6_isBetween 3 (some .boolean), Cond.code yX7_init cX7_init 1 none, Cond.code yX7_in cX7_in 3 (some .boolean), Cond.code yX7_marketAt cX7_marketAt 1 (some .int), Cond.code yX7_orderAt cX7_orderAt 1 (some .int), Cond.code yX7_of cX7_of 3 (some .int), Cond.code yX7_isMarket cX7_isMarket 2 (some .boolean), Cond.code yX7_isOutcome cX7_isOutcome 3 (some .boolean), Cond.code yX7_isTrader cX7_isTrader 1 (some .boolean), Cond.code yX7_isAhead cX7_isAhead 5 (some .boolean), Cond.code yX7_ranked cX7_ranked 6 (some .int), Cond.code yX7_active cX7_active 4 (some .int), Cond.code yX7_level cX7_level 7 (some .int), Cond.code yX7_priceOf cX7_priceOf 8 (some .int), Cond.code yX7_costOf cX7_costOf 6 (some .int), Cond.code yX7_isFine cX7_isFine 4 (some .boolean), Cond.code yX7_opens cX7_opens 8 (some .int), Cond.code yX7_openMarket cX7_openMarket 4 (some .int), Cond.code yX7_openLinked cX7_openLinked 6 (some .int), Cond.code yX7_deposit cX7_deposit 5 (some .int), Cond.code yX7_withdraw cX7_withdraw 3 (some .int), Cond.code yX7_cost cX7_cost 4 (some .int), Cond.code yX7_trades cX7_trades 8 (some .int), Cond.code yX7_buy cX7_buy 6 (some .int), Cond.code yX7_has cX7_has 3 (some .boolean), Cond.code yX7_grows cX7_grows 5 none, Cond.code yX7_buySet cX7_buySet 7 (some .int), Cond.code yX7_sell cX7_sell 6 (some .int), Cond.code yX7_bar cX7_bar 5 (some .int), Cond.code yX7_isTriedAhead cX7_isTriedAhead 4 (some .boolean), Cond.code yX7_removes cX7_removes 3 none, Cond.code yX7_executes cX7_executes 5 none, Cond.code yX7_place cX7_place 8 (some .int), Cond.code yX7_find cX7_find 4 (some .int), Cond.code yX7_cancel cX7_cancel 4 (some .int), Cond.code yX7_order cX7_order 4 (some .int), Cond.code yX7_waiting cX7_waiting 6 (some .int), Cond.code yX7_cancelsAll cX7_cancelsAll 3 none, Cond.code yX7_voids cX7_voids 4 none, Cond.code yX7_earliest cX7_earliest 5 (some .int), Cond.code yX7_ticks cX7_ticks 2 none, Cond.code yX7_tick cX7_tick 3 (some .int), Cond.code yX7_settle cX7_settle 6 (some .int), Cond.code yX7_cancelMarket cX7_cancelMarket 2 (some .int), Cond.code yX7_greatestShares cX7_greatestShares 2 (some .int), Cond.code yX7_market cX7_market 3 (some .int), Cond.code yX7_price cX7_price 3 (some .int), Cond.code yX7_sharesFor cX7_sharesFor 7 (some .int), Cond.code yX7_voidReason cX7_voidReason 5 (some .int), Cond.code yX7_shares cX7_shares 3 (some .int), Cond.code yX7_holding cX7_holding 4 (some .int), Cond.code yX7_worth cX7_worth 8 (some .int), Cond.code yX7_trader cX7_trader 5 (some .int), Cond.code yX7_paid cX7_paid 3 (some .int), Cond.code yX7_affordable cX7_affordable 6 (some .int), Cond.code yX7_history cX7_history 3 (some .int), Cond.code yX7_count cX7_count 4 (some .int), Cond.code yX7_append cX7_append 4 (some .int), Cond.code yX7_takes cX7_takes 3 (some .boolean), Cond.code yX7_isTrade cX7_isTrade 1 (some .boolean), Cond.code yX7_does cX7_does 7 (some .boolean), Cond.code yX7_trade cX7_trade 7 (some .int), Cond.code yX7_save cX7_save 2 (some .int), Cond.code yX7_restore cX7_restore 2 (some .int), Cond.code yJ9_floorMod_7cf53 cJ9_floorMod_7cf53 3 (some .int), Cond.code yJ9_max_7cf53 cJ9_max_7cf53 2 (some .int), Cond.code yJ9_min_7cf53 cJ9_min_7cf53 2 (some .int)], w ∈ lw_tbl
  simp only [List.forall_mem_cons]
  exact ⟨List.mem_of_getElem? ai_mw0, List.mem_of_getElem? ai_mw1, List.mem_of_getElem? ai_mw2, List.mem_of_getElem? ai_mw3, List.mem_of_getElem? ai_mw4, List.mem_of_getElem? ai_mw5, List.mem_of_getElem? ai_mw6, List.mem_of_getElem? ai_mw7, List.mem_of_getElem? ai_mw8, List.mem_of_getElem? ai_mw9, List.mem_of_getElem? ai_mw10, List.mem_of_getElem? ai_mw11, List.mem_of_getElem? ai_mw12, List.mem_of_getElem? ai_mw13, List.mem_of_getElem? ai_mw14, List.mem_of_getElem? ai_mw15, List.mem_of_getElem? ai_mw16, List.mem_of_getElem? ai_mw17, List.mem_of_getElem? ai_mw18, List.mem_of_getElem? ai_mw19, List.mem_of_getElem? ai_mw20, List.mem_of_getElem? ai_mw21, List.mem_of_getElem? ai_mw22, List.mem_of_getElem? ai_mw23, List.mem_of_getElem? ai_mw24, List.mem_of_getElem? ai_mw25, List.mem_of_getElem? ai_mw26, List.mem_of_getElem? ai_mw27, List.mem_of_getElem? ai_mw28, List.mem_of_getElem? ai_mw29, List.mem_of_getElem? ai_mw30, List.mem_of_getElem? ai_mw31, List.mem_of_getElem? ai_mw32, List.mem_of_getElem? ai_mw33, List.mem_of_getElem? ai_mw34, List.mem_of_getElem? ai_mw35, List.mem_of_getElem? ai_mw36, List.mem_of_getElem? ai_mw37, List.mem_of_getElem? ai_mw38, List.mem_of_getElem? ai_mw39, List.mem_of_getElem? ai_mw40, List.mem_of_getElem? ai_mw41, List.mem_of_getElem? ai_mw42, List.mem_of_getElem? ai_mw43, List.mem_of_getElem? ai_mw44, List.mem_of_getElem? ai_mw45, List.mem_of_getElem? ai_mw46, List.mem_of_getElem? ai_mw47, List.mem_of_getElem? ai_mw48, List.mem_of_getElem? ai_mw49, List.mem_of_getElem? ai_mw50, List.mem_of_getElem? ai_mw51, List.mem_of_getElem? ai_mw52, List.mem_of_getElem? ai_mw53, List.mem_of_getElem? ai_mw54, List.mem_of_getElem? ai_mw55, List.mem_of_getElem? ai_mw56, List.mem_of_getElem? ai_mw57, List.mem_of_getElem? ai_mw58, List.mem_of_getElem? ai_mw59, List.mem_of_getElem? ai_mw60, List.mem_of_getElem? ai_mw61, List.mem_of_getElem? ai_mw62, List.mem_of_getElem? ai_mw63, List.mem_of_getElem? ai_mw64, List.mem_of_getElem? ai_mw65, List.mem_of_getElem? ai_mw66, List.mem_of_getElem? ai_mw67, List.mem_of_getElem? ai_mw68, List.mem_of_getElem? ai_mw69, List.mem_of_getElem? ai_mw70, List.mem_of_getElem? ai_mw71, List.mem_of_getElem? ai_mw72, List.mem_of_getElem? ai_mw73, List.mem_of_getElem? ai_mw74, List.mem_of_getElem? ai_mw75, List.mem_of_getElem? ai_mw76, List.mem_of_getElem? ai_mw77, List.mem_of_getElem? ai_mw78, List.mem_of_getElem? ai_mw79, List.mem_of_getElem? ai_mw80, List.mem_of_getElem? ai_mw81, List.mem_of_getElem? ai_mw82, List.mem_of_getElem? ai_mw83, List.mem_of_getElem? ai_mw84, List.mem_of_getElem? ai_mw85, List.mem_of_getElem? ai_mw86, List.mem_of_getElem? ai_mw87, List.mem_of_getElem? ai_mw88, List.mem_of_getElem? ai_mw89, List.mem_of_getElem? ai_mw90, List.mem_of_getElem? ai_mw91, List.mem_of_getElem? ai_mw92, List.mem_of_getElem? ai_mw93, List.mem_of_getElem? ai_mw94, List.mem_of_getElem? ai_mw95, List.mem_of_getElem? ai_mw96, List.mem_of_getElem? ai_mw97, List.mem_of_getElem? ai_mw98, List.mem_of_getElem? ai_mw99, List.mem_of_getElem? ai_mw100, List.mem_of_getElem? ai_mw101, List.mem_of_getElem? ai_mw102, List.mem_of_getElem? ai_mw103, List.mem_of_getElem? ai_mw104, List.mem_of_getElem? ai_mw105, List.mem_of_getElem? ai_mw106, List.mem_of_getElem? ai_mw107, List.mem_of_getElem? ai_mw108, List.mem_of_getElem? ai_mw109, List.mem_of_getElem? ai_mw110, List.mem_of_getElem? ai_mw111, List.mem_of_getElem? ai_mw112, List.mem_of_getElem? ai_mw113, List.mem_of_getElem? ai_mw114, List.mem_of_getElem? ai_mw115, List.mem_of_getElem? ai_mw116, List.mem_of_getElem? ai_mw117, List.mem_of_getElem? ai_mw118, List.mem_of_getElem? ai_mw119, List.mem_of_getElem? ai_mw120, List.mem_of_getElem? ai_mw121, List.mem_of_getElem? ai_mw122, List.mem_of_getElem? ai_mw123, List.mem_of_getElem? ai_mw124, List.mem_of_getElem? ai_mw125, List.mem_of_getElem? ai_mw126, List.mem_of_getElem? ai_mw127, List.mem_of_getElem? ai_mw128, List.mem_of_getElem? ai_mw129, List.mem_of_getElem? ai_mw130, List.mem_of_getElem? ai_mw131, List.mem_of_getElem? ai_mw132, List.mem_of_getElem? ai_mw133, List.mem_of_getElem? ai_mw134, List.mem_of_getElem? ai_mw135, List.mem_of_getElem? ai_mw136, List.mem_of_getElem? ai_mw137, List.mem_of_getElem? ai_mw138, List.mem_of_getElem? ai_mw139, List.mem_of_getElem? ai_mw140, List.mem_of_getElem? ai_mw141, List.mem_of_getElem? ai_mw142, List.mem_of_getElem? ai_mw143, List.mem_of_getElem? ai_mw144, List.mem_of_getElem? ai_mw145, List.mem_of_getElem? ai_mw146, List.mem_of_getElem? ai_mw147, List.mem_of_getElem? ai_mw148, List.mem_of_getElem? ai_mw149, List.mem_of_getElem? ai_mw150, List.mem_of_getElem? ai_mw151, List.mem_of_getElem? ai_mw152, List.mem_of_getElem? ai_mw153, List.mem_of_getElem? ai_mw154, List.mem_of_getElem? ai_mw155, List.mem_of_getElem? ai_mw156, List.mem_of_getElem? ai_mw157, List.mem_of_getElem? ai_mw158, List.mem_of_getElem? ai_mw159, List.mem_of_getElem? ai_mw160, List.mem_of_getElem? ai_mw161, fun _ h => absurd h List.not_mem_nil⟩
/-- all words that the small machine needs -/
def ai_ws : List Cond := (ai_mt.take 162).flatMap ai_mw ++ (ai_lt.flatMap ai_lw ++ (ai_nt.flatMap ai_nw ++ (ai_ft.flatMap ai_fw ++ (ai_kt.flatMap ai_kw ++ (vwCl.flatMap ai_cw ++ (ai_ct.flatMap (fun e => [Cond.constant e.1 e.2.1 e.2.2]) ++ (ai_ot.flatMap (fun e => [Cond.methodLink e.1 e.2 objectInit]) ++ (ai_pt.flatMap (fun e => [Cond.methodLink e.1 e.2 arraycopyName]) ++ ai_misc))))))))
theorem ai_pls {l : List Cond} {ps : List Nat} (h : l = ps.filterMap (fun i => lw_tbl[i]?)) : ∀ w ∈ l, w ∈ lw_tbl := by
  intro w hw
  rw [h] at hw
  obtain ⟨i, -, hi⟩ := List.mem_filterMap.mp hw
  exact List.mem_of_getElem? hi
theorem ai_ws_in : ∀ w ∈ ai_ws, w ∈ lw_tbl := by
  unfold ai_ws
  simp only [List.forall_mem_append]
  exact ⟨ai_mw_in, ai_pls ai_lw_pl, ai_pls ai_nw_pl, ai_pls ai_fw_pl, ai_pls ai_kw_pl, ai_pls ai_cw_pl, ai_pls ai_con_pl, ai_pls ai_ot_pl, ai_pls ai_pt_pl, ai_pls ai_misc_pl⟩
theorem ai_ws_good : ∀ w ∈ ai_ws, goodWord w = true := by
  unfold ai_ws
  simp only [List.forall_mem_append]
  exact ⟨fun w h => by obtain ⟨q, -, hq⟩ := List.mem_flatMap.mp h; rw [ai_mw, List.mem_singleton] at hq; rw [hq]; rfl, List.all_eq_true.mp ai_lw_gd, List.all_eq_true.mp ai_nw_gd, List.all_eq_true.mp ai_fw_gd, List.all_eq_true.mp ai_kw_gd, List.all_eq_true.mp ai_cw_gd, List.all_eq_true.mp ai_con_gd, List.all_eq_true.mp ai_ot_gd, List.all_eq_true.mp ai_pt_gd, List.all_eq_true.mp ai_misc_gd⟩
/-- what else is decided of the methods, the fields, the classes -/
def ai_mtb (q : ai_M) : Bool := match q with
  | (y, cc, ml, ret, k) => plainFor y && decide (y.cls ≠ "java/lang/invoke/MethodHandle") && decide (y.cls ≠ "java/lang/invoke/VarHandle") &&
    decide ((parseMethodDescriptor y.desc).map (fun d => d.parameters.length) = some (ai_nargs y)) && decide (ml ≤ 30) && decide (ai_nargs y + 1 ≤ ml + (if k = 1 then 1 else 0)) && (decide (k = 1) || (match vwCl[ai_cno y.cls]? with | some q => decide (q.1 = y.cls) | none => false)) && decide (k ≤ 2) &&
    (decide (k ≤ 1) || (decide (y.name = "<init>") && decide (ret = none))) && (decide (y.cls = RX0) || decide (y.cls = RX1) || decide (y.cls = RX2) || decide (y.cls = RX3) || decide (y.cls = RX4) || decide (y.cls = RX5) || decide (y.cls = RX6) || decide (y.cls = RX7) || decide (y.cls = RJ9))
def ai_ftb (e : String × Nat × Nat × Nat) : Bool := match vwCl[e.2.2.1]? with
  | some q => decide (e.2.2.2 < q.2.2)
  | none => false
def ai_tyb (k : Nat) (q : vw_C) (j : Nat) : Bool := decide ((q.2.1 j).1 = q.1) && decide (parseFieldDescriptor (q.2.1 j).2.2.1 = some (ai_ty q j)) && (if ai_isref k j then (match ai_ty q j with | .object _ => true | .array _ => true | _ => false) else (decide (ai_ty q j = .int) || (decide (ai_ty q j = .boolean) && ai_bool k j)))
def ai_clb (k : Nat) : Bool := match vwCl[k]? with
  | some q => (List.range q.2.2).all (ai_tyb k q) && (List.range q.2.2).all (fun a => (List.range q.2.2).all (fun b => decide (a = b) || decide ((q.2.1 a).2.1 ≠ (q.2.1 b).2.1)))
  | none => false
set_option maxRecDepth 100000 in
theorem ai_mtb_ok : (ai_mt.take 162).all ai_mtb = true := by decide +kernel
set_option maxRecDepth 100000 in
theorem ai_ftb_ok : ai_ft.all ai_ftb = true := by decide +kernel
set_option maxRecDepth 100000 in
theorem ai_clb_ok : (List.range 8).all ai_clb = true := by decide +kernel
set_option maxRecDepth 100000 in
theorem ai_kt_ok : ai_kt.all (fun e => decide (e.2.2 < 8) || decide (e.2.2 = 12)) = true := by decide +kernel
