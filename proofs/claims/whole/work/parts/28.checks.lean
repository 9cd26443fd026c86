theorem mt_c_PT : mb_cl lw_tbl mk_PT [189, 191, 193, 195, 197, 199, 201, 203, 205, 207, 209, 211, 213, 215] = true := by decide +kernel
theorem mt_c_Br : mb_cl lw_tbl mk_Br [156, 158, 160, 162, 164, 166, 168, 170, 172] = true := by decide +kernel
theorem mt_c_Ty : mb_cl lw_tbl mk_Ty [493, 495, 497, 499] = true := by decide +kernel
theorem mt_c_Ca : mb_cl lw_tbl mk_Ca [537, 539, 541, 543, 545, 547, 549, 551, 553, 555, 557] = true := by decide +kernel
theorem mt_c_Rq : mb_cl lw_tbl mk_Rq [608, 610, 612] = true := by decide +kernel
theorem mt_c_St : mb_cl lw_tbl mk_St [118, 120, 122] = true := by decide +kernel
theorem mt_c_Mo : mb_cl lw_tbl mk_Mo [778, 780, 782, 784, 786, 788, 790, 792, 794, 796, 798, 800, 802, 804, 806, 808, 810, 812, 814, 816, 818, 820, 822, 824, 826, 828, 830, 832, 834, 836, 838] = true := by decide +kernel
theorem mt_c_Al : mb_cl lw_tbl mk_Al [102, 104, 106] = true := by decide +kernel
theorem mt_c_Ia : mb_cl lw_tbl mk_Ia [] = true := by decide +kernel
theorem mt_c_Is : mb_cl lw_tbl mk_Is [] = true := by decide +kernel
theorem mt_m_0 : mb_meth mt_cl mt_ty lw_tbl mt_ms mj_Ac_init 93 49 [] = true := by decide +kernel
theorem mt_m_1 : mb_meth mt_cl mt_ty lw_tbl mt_ms mj_Ab_init 90 50 [] = true := by decide +kernel
theorem mt_m_2 : mb_meth mt_cl mt_ty lw_tbl mt_ms mj_Al_init 87 51 [] = true := by decide +kernel
theorem mt_m_3 : mb_meth mt_cl mt_ty lw_tbl mt_ms mj_Al_size 593 51 [] = true := by decide +kernel
theorem mt_m_4 : mb_meth mt_cl mt_ty lw_tbl mt_ms mj_Al_add 618 51 [] = true := by decide +kernel
theorem mt_m_5 : mb_meth mt_cl mt_ty lw_tbl mt_ms mj_Al_add_5 622 51 [] = true := by decide +kernel
theorem mt_m_6 : mb_meth mt_cl mt_ty lw_tbl mt_ms mj_Al_grow 626 51 [] = true := by decide +kernel
theorem mt_m_7 : mb_meth mt_cl mt_ty lw_tbl mt_ms mj_Al_grow_7 630 51 [] = true := by decide +kernel
theorem mt_m_8 : mb_meth mt_cl mt_ty lw_tbl mt_ms mj_Al_get 695 51 [] = true := by decide +kernel
theorem mt_m_9 : mb_meth mt_cl mt_ty lw_tbl mt_ms mj_Al_elementData 705 51 [] = true := by decide +kernel
theorem mt_m_10 : mb_meth mt_cl mt_ty lw_tbl mt_ms mj_As_copyOf 643 66 [] = true := by decide +kernel
theorem mt_m_11 : mb_meth mt_cl mt_ty lw_tbl mt_ms mj_As_copyOf_11 660 66 [] = true := by decide +kernel
theorem mt_m_12 : mb_meth mt_cl mt_ty lw_tbl mt_ms mj_Ob_checkIndex 698 67 [] = true := by decide +kernel
theorem mt_m_13 : mb_meth mt_cl mt_ty lw_tbl mt_ms mj_Ma_max 636 65 [] = true := by decide +kernel
theorem mt_m_14 : mb_meth mt_cl mt_ty lw_tbl mt_ms mj_Ma_min 666 65 [] = true := by decide +kernel
theorem mt_m_15 : mb_meth mt_cl mt_ty lw_tbl mt_ms mj_Su_newLength 633 64 [] = true := by decide +kernel
theorem mt_m_16 : mb_meth mt_cl mt_ty lw_tbl mt_ms mj_Pr_checkIndex 701 68 [] = true := by decide +kernel
