theorem mt_c_PT : mb_cl mt_tb mk_PT [189, 191, 193, 195, 197, 199, 201, 203, 205, 207, 209, 211, 213, 215] = true := by decide +kernel
theorem mt_c_Br : mb_cl mt_tb mk_Br [156, 158, 160, 162, 164, 166, 168, 170, 172] = true := by decide +kernel
theorem mt_c_Ty : mb_cl mt_tb mk_Ty [493, 495, 497, 499] = true := by decide +kernel
theorem mt_c_Ca : mb_cl mt_tb mk_Ca [537, 539, 541, 543, 545, 547, 549, 551, 553, 555, 557] = true := by decide +kernel
theorem mt_c_Rq : mb_cl mt_tb mk_Rq [608, 610, 612] = true := by decide +kernel
theorem mt_c_St : mb_cl mt_tb mk_St [118, 120, 122] = true := by decide +kernel
theorem mt_c_Mo : mb_cl mt_tb mk_Mo [778, 780, 782, 784, 786, 788, 790, 792, 794, 796, 798, 800, 802, 804, 806, 808, 810, 812, 814, 816, 818, 820, 822, 824, 826, 828, 830, 832, 834, 836, 838] = true := by decide +kernel
theorem mt_c_Al : mb_cl mt_tb mk_Al [102, 104, 106] = true := by decide +kernel
theorem mt_c_Ia : mb_cl mt_tb mk_Ia [] = true := by decide +kernel
theorem mt_c_Is : mb_cl mt_tb mk_Is [] = true := by decide +kernel
theorem mt_m_0 : mb_meth mt_cl mt_ty mt_tb mt_ms mj_Ac_init 93 49 [] = true := by decide +kernel
theorem mt_m_1 : mb_meth mt_cl mt_ty mt_tb mt_ms mj_Ab_init 90 50 [] = true := by decide +kernel
theorem mt_m_2 : mb_meth mt_cl mt_ty mt_tb mt_ms mj_Al_init 87 51 [] = true := by decide +kernel
theorem mt_m_3 : mb_meth mt_cl mt_ty mt_tb mt_ms mj_Al_size 593 51 [] = true := by decide +kernel
theorem mt_m_4 : mb_meth mt_cl mt_ty mt_tb mt_ms mj_Al_add 618 51 [] = true := by decide +kernel
theorem mt_m_5 : mb_meth mt_cl mt_ty mt_tb mt_ms mj_Al_add_5 622 51 [] = true := by decide +kernel
theorem mt_m_6 : mb_meth mt_cl mt_ty mt_tb mt_ms mj_Al_grow 626 51 [] = true := by decide +kernel
theorem mt_m_7 : mb_meth mt_cl mt_ty mt_tb mt_ms mj_Al_grow_7 630 51 [] = true := by decide +kernel
theorem mt_m_8 : mb_meth mt_cl mt_ty mt_tb mt_ms mj_Al_get 695 51 [] = true := by decide +kernel
theorem mt_m_9 : mb_meth mt_cl mt_ty mt_tb mt_ms mj_Al_elementData 705 51 [] = true := by decide +kernel
theorem mt_m_10 : mb_meth mt_cl mt_ty mt_tb mt_ms mj_As_copyOf 643 66 [] = true := by decide +kernel
theorem mt_m_11 : mb_meth mt_cl mt_ty mt_tb mt_ms mj_As_copyOf_11 660 66 [] = true := by decide +kernel
theorem mt_m_12 : mb_meth mt_cl mt_ty mt_tb mt_ms mj_Ob_checkIndex 698 67 [] = true := by decide +kernel
theorem mt_m_13 : mb_meth mt_cl mt_ty mt_tb mt_ms mj_Ma_max 636 65 [] = true := by decide +kernel
theorem mt_m_14 : mb_meth mt_cl mt_ty mt_tb mt_ms mj_Ma_min 666 65 [] = true := by decide +kernel
theorem mt_m_15 : mb_meth mt_cl mt_ty mt_tb mt_ms mj_Su_newLength 633 64 [] = true := by decide +kernel
theorem mt_m_16 : mb_meth mt_cl mt_ty mt_tb mt_ms mj_Pr_checkIndex 701 68 [] = true := by decide +kernel
theorem mt_m_17 : mb_meth mt_cl mt_ty mt_tb mt_ms mj_Rq_init 598 63 [] = true := by decide +kernel
theorem mt_m_18 : mb_meth mt_cl mt_ty mt_tb mt_ms mj_Ty_sumOfSizes 320 60 [] = true := by decide +kernel
theorem mt_m_19 : mb_meth mt_cl mt_ty mt_tb mt_ms mj_Ty_init 475 60 [] = true := by decide +kernel
theorem mt_m_20 : mb_meth mt_cl mt_ty mt_tb mt_ms mj_Ty_sizeOf 479 60 [] = true := by decide +kernel
theorem mt_m_21 : mb_meth mt_cl mt_ty mt_tb mt_ms mj_Ty_rankOf 482 60 [] = true := by decide +kernel
theorem mt_m_22 : mb_meth mt_cl mt_ty mt_tb mt_ms mj_Br_init 129 53 [] = true := by decide +kernel
theorem mt_m_23 : mb_meth mt_cl mt_ty mt_tb mt_ms mj_Br_isClosed 241 53 [] = true := by decide +kernel
theorem mt_m_24 : mb_meth mt_cl mt_ty mt_tb mt_ms mj_Br_isAtOrBelow 266 53 [] = true := by decide +kernel
theorem mt_m_25 : mb_meth mt_cl mt_ty mt_tb mt_ms mj_Br_sumToLay 316 53 [] = true := by decide +kernel
theorem mt_m_26 : mb_meth mt_cl mt_ty mt_tb mt_ms mj_Br_isSlotEmpty 449 53 [] = true := by decide +kernel
theorem mt_m_27 : mb_meth mt_cl mt_ty mt_tb mt_ms mj_Ca_takeOut 229 61 [] = true := by decide +kernel
theorem mt_m_28 : mb_meth mt_cl mt_ty mt_tb mt_ms mj_Ca_isThere 249 61 [] = true := by decide +kernel
theorem mt_m_29 : mb_meth mt_cl mt_ty mt_tb mt_ms mj_Ca_holds 360 61 [] = true := by decide +kernel
theorem mt_m_30 : mb_meth mt_cl mt_ty mt_tb mt_ms mj_Ca_init 512 61 [] = true := by decide +kernel
theorem mt_m_31 : mb_meth mt_cl mt_ty mt_tb mt_ms mj_Ca_loseFrom 574 61 [] = true := by decide +kernel
theorem mt_m_32 : mb_meth mt_cl mt_ty mt_tb mt_ms mj_Ca_doPiece 680 61 [] = true := by decide +kernel
theorem mt_m_33 : mb_meth mt_cl mt_ty mt_tb mt_ms mj_Ca_finishFirst 684 61 [] = true := by decide +kernel
theorem mt_m_34 : mb_meth mt_cl mt_ty mt_tb mt_ms mj_St_init 113 52 [] = true := by decide +kernel
theorem mt_m_35 : mb_meth mt_cl mt_ty mt_tb mt_ms mj_St_gather 237 52 [] = true := by decide +kernel
theorem mt_m_36 : mb_meth mt_cl mt_ty mt_tb mt_ms mj_St_add 245 52 [] = true := by decide +kernel
theorem mt_m_37 : mb_meth mt_cl mt_ty mt_tb mt_ms mj_St_addRanges 253 52 [] = true := by decide +kernel
theorem mt_m_38 : mb_meth mt_cl mt_ty mt_tb mt_ms mj_St_become 278 52 [] = true := by decide +kernel
theorem mt_m_39 : mb_meth mt_cl mt_ty mt_tb mt_ms mj_St_placeFor 285 52 [] = true := by decide +kernel
theorem mt_m_40 : mb_meth mt_cl mt_ty mt_tb mt_ms mj_St_isFree 299 52 [] = true := by decide +kernel
theorem mt_m_41 : mb_meth mt_cl mt_ty mt_tb mt_ms mj_PT_init 73 48 [] = true := by decide +kernel
theorem mt_m_42 : mb_meth mt_cl mt_ty mt_tb mt_ms mj_PT_step 221 48 [] = true := by decide +kernel
theorem mt_m_43 : mb_meth mt_cl mt_ty mt_tb mt_ms mj_PT_dismissLeaving 225 48 [] = true := by decide +kernel
theorem mt_m_44 : mb_meth mt_cl mt_ty mt_tb mt_ms mj_PT_examine 233 48 [] = true := by decide +kernel
theorem mt_m_45 : mb_meth mt_cl mt_ty mt_tb mt_ms mj_PT_exceedsPower 257 48 [] = true := by decide +kernel
theorem mt_m_46 : mb_meth mt_cl mt_ty mt_tb mt_ms mj_PT_powerUsed 261 48 [] = true := by decide +kernel
theorem mt_m_47 : mb_meth mt_cl mt_ty mt_tb mt_ms mj_PT_refuse 270 48 [] = true := by decide +kernel
theorem mt_m_48 : mb_meth mt_cl mt_ty mt_tb mt_ms mj_PT_fits 274 48 [] = true := by decide +kernel
theorem mt_m_49 : mb_meth mt_cl mt_ty mt_tb mt_ms mj_PT_grows 290 48 [] = true := by decide +kernel
