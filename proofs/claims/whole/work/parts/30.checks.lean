theorem mt_m_100 : mb_meth mt_cl mt_ty mt_tb mt_ms mj_Mo_sizeOf 916 54 [] = true := by decide +kernel
theorem mt_m_101 : mb_meth mt_cl mt_ty mt_tb mt_ms mj_Mo_placeFor 920 54 [] = true := by decide +kernel
theorem mt_m_102 : mb_meth mt_cl mt_ty mt_tb mt_ms mj_Mo_grows 924 54 [] = true := by decide +kernel
theorem mt_m_103 : mb_meth mt_cl mt_ty mt_tb mt_ms mj_Mo_growsFrom 928 54 [] = true := by decide +kernel
theorem mt_m_104 : mb_meth mt_cl mt_ty mt_tb mt_ms mj_Mo_isFree 932 54 [] = true := by decide +kernel
theorem mt_m_105 : mb_meth mt_cl mt_ty mt_tb mt_ms mj_Mo_measure 936 54 [] = true := by decide +kernel
theorem mt_m_106 : mb_meth mt_cl mt_ty mt_tb mt_ms mj_Mo_laidBy 940 54 [] = true := by decide +kernel
theorem mt_m_107 : mb_meth mt_cl mt_ty mt_tb mt_ms mj_Mo_change 944 54 [] = true := by decide +kernel
theorem mt_m_108 : mb_meth mt_cl mt_ty mt_tb mt_ms mj_Mo_moveAll 948 54 [] = true := by decide +kernel
theorem mt_m_109 : mb_meth mt_cl mt_ty mt_tb mt_ms mj_Mo_plan 952 54 [] = true := by decide +kernel
theorem mt_m_110 : mb_meth mt_cl mt_ty mt_tb mt_ms mj_Mo_settle 956 54 [] = true := by decide +kernel
theorem mt_m_111 : mb_meth mt_cl mt_ty mt_tb mt_ms mj_Mo_pull 960 54 [] = true := by decide +kernel
theorem mt_m_112 : mb_meth mt_cl mt_ty mt_tb mt_ms mj_Mo_isCard 964 54 [] = true := by decide +kernel
theorem mt_m_113 : mb_meth mt_cl mt_ty mt_tb mt_ms mj_Mo_lose 968 54 [] = true := by decide +kernel
theorem mt_m_114 : mb_meth mt_cl mt_ty mt_tb mt_ms mj_Mo_leave 974 54 [] = true := by decide +kernel
theorem mt_m_115 : mb_meth mt_cl mt_ty mt_tb mt_ms mj_Mo_firstOf 978 54 [] = true := by decide +kernel
theorem mt_m_116 : mb_meth mt_cl mt_ty mt_tb mt_ms mj_Mo_request 982 54 [] = true := by decide +kernel
theorem mt_m_117 : mb_meth mt_cl mt_ty mt_tb mt_ms mj_Mo_waiting 986 54 [] = true := by decide +kernel
theorem mt_m_118 : mb_meth mt_cl mt_ty mt_tb mt_ms mj_Mo_work 990 54 [] = true := by decide +kernel
theorem mt_m_119 : mb_meth mt_cl mt_ty mt_tb mt_ms mj_Mo_result 994 54 [] = true := by decide +kernel
theorem mt_m_120 : mb_meth mt_cl mt_ty mt_tb mt_ms mj_Mo_card 998 54 [] = true := by decide +kernel
theorem mt_m_121 : mb_meth mt_cl mt_ty mt_tb mt_ms mj_Mo_range 1002 54 [] = true := by decide +kernel
theorem mt_m_122 : mb_meth mt_cl mt_ty mt_tb mt_ms mj_Mo_opening 1006 54 [] = true := by decide +kernel
theorem mt_m_123 : mb_meth mt_cl mt_ty mt_tb mt_ms mj_Mo_decode 1010 54 [] = true := by decide +kernel
theorem mt_m_124 : mb_meth mt_cl mt_ty mt_tb mt_ms mj_Mo_power 1014 54 [] = true := by decide +kernel
theorem mt_m_125 : mb_meth mt_cl mt_ty mt_tb mt_ms mj_Mo_slot 1018 54 [] = true := by decide +kernel
theorem mt_m_126 : mb_meth mt_cl mt_ty mt_tb mt_ms mj_Mo_moved 1022 54 [] = true := by decide +kernel
theorem mt_m_127 : mb_meth mt_cl mt_ty mt_tb mt_ms mj_Lw_bridge 367 47 [368, 369] = true := by decide +kernel
theorem mt_m_128 : mb_meth mt_cl mt_ty mt_tb mt_ms mj_Lw_type 467 47 [368, 369] = true := by decide +kernel
theorem mt_m_129 : mb_meth mt_cl mt_ty mt_tb mt_ms mj_Lw_plug 504 47 [368, 369] = true := by decide +kernel
theorem mt_m_130 : mb_meth mt_cl mt_ty mt_tb mt_ms mj_Lw_pull 562 47 [368, 369] = true := by decide +kernel
theorem mt_m_131 : mb_meth mt_cl mt_ty mt_tb mt_ms mj_Lw_leave 578 47 [368, 369] = true := by decide +kernel
theorem mt_m_132 : mb_meth mt_cl mt_ty mt_tb mt_ms mj_Lw_request 585 47 [368, 369] = true := by decide +kernel
theorem mt_m_133 : mb_meth mt_cl mt_ty mt_tb mt_ms mj_Lw_work 672 47 [368] = true := by decide +kernel
theorem mt_m_134 : mb_meth mt_cl mt_ty mt_tb mt_ms mj_Lw_result 687 47 [368] = true := by decide +kernel
theorem mt_m_135 : mb_meth mt_cl mt_ty mt_tb mt_ms mj_Lw_card 708 47 [368] = true := by decide +kernel
theorem mt_m_136 : mb_meth mt_cl mt_ty mt_tb mt_ms mj_Lw_range 715 47 [368] = true := by decide +kernel
theorem mt_m_137 : mb_meth mt_cl mt_ty mt_tb mt_ms mj_Lw_opening 722 47 [368] = true := by decide +kernel
theorem mt_m_138 : mb_meth mt_cl mt_ty mt_tb mt_ms mj_Lw_power 729 47 [368] = true := by decide +kernel
theorem mt_m_139 : mb_meth mt_cl mt_ty mt_tb mt_ms mj_Lw_slot 736 47 [368] = true := by decide +kernel
