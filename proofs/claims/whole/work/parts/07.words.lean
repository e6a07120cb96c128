/-! words, constants, places -/
theorem kc_b10 : (Int8.ofInt 10).toInt32 = (10 : Int32) := by decide
theorem kc_b100 : (Int8.ofInt 100).toInt32 = (100 : Int32) := by decide
theorem kc_b102 : (Int8.ofInt 102).toInt32 = (102 : Int32) := by decide
theorem kc_b11 : (Int8.ofInt 11).toInt32 = (11 : Int32) := by decide
theorem kc_b12 : (Int8.ofInt 12).toInt32 = (12 : Int32) := by decide
theorem kc_b127 : (Int8.ofInt 127).toInt32 = (127 : Int32) := by decide
theorem kc_b13 : (Int8.ofInt 13).toInt32 = (13 : Int32) := by decide
theorem kc_b14 : (Int8.ofInt 14).toInt32 = (14 : Int32) := by decide
theorem kc_b15 : (Int8.ofInt 15).toInt32 = (15 : Int32) := by decide
theorem kc_b16 : (Int8.ofInt 16).toInt32 = (16 : Int32) := by decide
theorem kc_b24 : (Int8.ofInt 24).toInt32 = (24 : Int32) := by decide
theorem kc_b28 : (Int8.ofInt 28).toInt32 = (28 : Int32) := by decide
theorem kc_b32 : (Int8.ofInt 32).toInt32 = (32 : Int32) := by decide
theorem kc_b48 : (Int8.ofInt 48).toInt32 = (48 : Int32) := by decide
theorem kc_b6 : (Int8.ofInt 6).toInt32 = (6 : Int32) := by decide
theorem kc_b64 : (Int8.ofInt 64).toInt32 = (64 : Int32) := by decide
theorem kc_b7 : (Int8.ofInt 7).toInt32 = (7 : Int32) := by decide
theorem kc_b8 : (Int8.ofInt 8).toInt32 = (8 : Int32) := by decide
theorem kc_b9 : (Int8.ofInt 9).toInt32 = (9 : Int32) := by decide
theorem kc_b96 : (Int8.ofInt 96).toInt32 = (96 : Int32) := by decide
theorem kc_b99 : (Int8.ofInt 99).toInt32 = (99 : Int32) := by decide
theorem kc_i0 : Int32.ofInt 0 = (0 : Int32) := by decide
theorem kc_i1 : Int32.ofInt 1 = (1 : Int32) := by decide
theorem kc_i2 : Int32.ofInt 2 = (2 : Int32) := by decide
theorem kc_i3 : Int32.ofInt 3 = (3 : Int32) := by decide
theorem kc_i4 : Int32.ofInt 4 = (4 : Int32) := by decide
theorem kc_i5 : Int32.ofInt 5 = (5 : Int32) := by decide
theorem kc_im1 : Int32.ofInt (-1) = (-1 : Int32) := by decide
theorem kc_s128 : (Int16.ofInt 128).toInt32 = (128 : Int32) := by decide
theorem kc_s153 : (Int16.ofInt 153).toInt32 = (153 : Int32) := by decide
theorem kc_s191 : (Int16.ofInt 191).toInt32 = (191 : Int32) := by decide
theorem kc_s192 : (Int16.ofInt 192).toInt32 = (192 : Int32) := by decide
theorem kc_s2000 : (Int16.ofInt 2000).toInt32 = (2000 : Int32) := by decide
theorem kc_s204 : (Int16.ofInt 204).toInt32 = (204 : Int32) := by decide
theorem kc_s206 : (Int16.ofInt 206).toInt32 = (206 : Int32) := by decide
theorem kc_s224 : (Int16.ofInt 224).toInt32 = (224 : Int32) := by decide
theorem kc_s232 : (Int16.ofInt 232).toInt32 = (232 : Int32) := by decide
theorem kc_s237 : (Int16.ofInt 237).toInt32 = (237 : Int32) := by decide
theorem kc_s240 : (Int16.ofInt 240).toInt32 = (240 : Int32) := by decide
theorem kc_s253 : (Int16.ofInt 253).toInt32 = (253 : Int32) := by decide
theorem kc_s254 : (Int16.ofInt 254).toInt32 = (254 : Int32) := by decide
theorem kc_s255 : (Int16.ofInt 255).toInt32 = (255 : Int32) := by decide
theorem kc_s256 : (Int16.ofInt 256).toInt32 = (256 : Int32) := by decide
theorem kc_s512 : (Int16.ofInt 512).toInt32 = (512 : Int32) := by decide
theorem kc_s640 : (Int16.ofInt 640).toInt32 = (640 : Int32) := by decide
theorem kc_s702 : (Int16.ofInt 702).toInt32 = (702 : Int32) := by decide
theorem kc_s703 : (Int16.ofInt 703).toInt32 = (703 : Int32) := by decide
theorem kc_s704 : (Int16.ofInt 704).toInt32 = (704 : Int32) := by decide
theorem kc_s705 : (Int16.ofInt 705).toInt32 = (705 : Int32) := by decide
theorem ki_m1 (x : Int32) : x + Int32.ofInt (-1) = x + (-1 : Int32) := by rw [show Int32.ofInt (-1) = (-1 : Int32) from by decide]
theorem ki_1 (x : Int32) : x + Int32.ofInt (1) = x + (1 : Int32) := by rw [show Int32.ofInt (1) = (1 : Int32) from by decide]
theorem ki_96 (x : Int32) : x + Int32.ofInt (96) = x + (96 : Int32) := by rw [show Int32.ofInt (96) = (96 : Int32) from by decide]
theorem vi_0_10 : vp_in (0 : Int32) 10 := by unfold vp_in; decide
theorem vi_1_512 : vp_in (1 : Int32) 512 := by unfold vp_in; decide
theorem vi_5_8 : vp_in (5 : Int32) 8 := by unfold vp_in; decide
theorem vi_6_512 : vp_in (6 : Int32) 512 := by unfold vp_in; decide
theorem vi_7_8 : vp_in (7 : Int32) 8 := by unfold vp_in; decide
theorem vi_13_512 : vp_in (13 : Int32) 512 := by unfold vp_in; decide
theorem vi_13_705 : vp_in (13 : Int32) 705 := by unfold vp_in; decide
theorem vi_14_512 : vp_in (14 : Int32) 512 := by unfold vp_in; decide
theorem vi_14_705 : vp_in (14 : Int32) 705 := by unfold vp_in; decide
theorem vi_15_512 : vp_in (15 : Int32) 512 := by unfold vp_in; decide
theorem vi_15_705 : vp_in (15 : Int32) 705 := by unfold vp_in; decide
theorem vi_702_705 : vp_in (702 : Int32) 705 := by unfold vp_in; decide
theorem vi_703_705 : vp_in (703 : Int32) 705 := by unfold vp_in; decide
theorem al_8 : Int32.ofNat 8 = (8 : Int32) := by decide
theorem al_62 : Int32.ofNat 62 = (62 : Int32) := by decide
theorem al_128 : Int32.ofNat 128 = (128 : Int32) := by decide
theorem mw_D_103 : Cond.methodLink RD 103 yP_addressOf ∈ wS := wT2 198 rfl rfl
theorem mw_D_106 : Cond.methodLink RD 106 yK_size ∈ wS := wT2 206 rfl rfl
theorem mw_D_112 : Cond.methodLink RD 112 yK_isMade ∈ wS := wT2 221 rfl rfl
theorem mw_D_115 : Cond.methodLink RD 115 yK_verdict ∈ wS := wT2 225 rfl rfl
theorem mw_D_121 : Cond.methodLink RD 121 yN_canGo ∈ wS := wT3 3 rfl rfl
theorem mw_D_124 : Cond.methodLink RD 124 yN_step ∈ wS := wT3 7 rfl rfl
theorem mw_D_130 : Cond.methodLink RD 130 yN_shown ∈ wS := wT3 142 rfl rfl
theorem mw_D_133 : Cond.methodLink RD 133 yM_read ∈ wS := wT3 157 rfl rfl
theorem mw_D_139 : Cond.methodLink RD 139 yN_keptCount ∈ wS := wT3 165 rfl rfl
theorem mw_D_61 : Cond.methodLink RD 61 yS_open ∈ wS := wT2 71 rfl rfl
theorem mw_D_65 : Cond.methodLink RD 65 yS_canTake ∈ wS := wT2 82 rfl rfl
theorem mw_D_69 : Cond.methodLink RD 69 yS_append ∈ wS := wT2 86 rfl rfl
theorem mw_D_73 : Cond.methodLink RD 73 yS_lacksOne ∈ wS := wT2 105 rfl rfl
theorem mw_D_80 : Cond.methodLink RD 80 yP_pack ∈ wS := wT2 124 rfl rfl
theorem mw_D_87 : Cond.methodLink RD 87 yK_make ∈ wS := wT2 152 rfl rfl
theorem mw_D_91 : Cond.methodLink RD 91 yN_begin ∈ wS := wT1 215 rfl rfl
theorem mw_D_94 : Cond.methodLink RD 94 yS_total ∈ wS := wT2 187 rfl rfl
theorem mw_K_19 : Cond.methodLink RK 19 yK_size ∈ wS := wT2 156 rfl rfl
theorem mw_K_28 : Cond.methodLink RK 28 yK_lay ∈ wS := wT2 160 rfl rfl
theorem mw_K_32 : Cond.methodLink RK 32 yP_addressOf ∈ wS := wT2 164 rfl rfl
theorem mw_K_38 : Cond.methodLink RK 38 yK_writeHead ∈ wS := wT2 168 rfl rfl
theorem mw_K_42 : Cond.fieldLink RK 42 "CartridgeDesk$Cartridge" "HEAD" "[I" ∈ wS := wT2 172 rfl rfl
theorem mw_K_45 : Cond.methodLink RK 45 yK_sizeCode ∈ wS := wT2 174 rfl rfl
theorem mw_K_48 : Cond.methodLink RK 48 yK_headCheck ∈ wS := wT2 178 rfl rfl
theorem mw_K_51 : Cond.methodLink RK 51 yK_imageCheck ∈ wS := wT2 182 rfl rfl
theorem mw_K_69 : Cond.constant RK 69 65535 ∈ wS := wT2 186 rfl rfl
theorem mw_M_42 : Cond.methodLink RM 42 yK_at ∈ wS := wT3 47 rfl rfl
theorem mw_M_48 : Cond.methodLink RM 48 yM_ramPlace ∈ wS := wT3 35 rfl rfl
theorem mw_M_52 : Cond.methodLink RM 52 yM_turnSwitch ∈ wS := wT3 31 rfl rfl
theorem mw_N_100 : Cond.methodLink RN 100 yN_obeySingle ∈ wS := wT3 55 rfl rfl
theorem mw_N_103 : Cond.methodLink RN 103 yN_obeyOnOne ∈ wS := wT3 75 rfl rfl
theorem mw_N_107 : Cond.methodLink RN 107 yN_set ∈ wS := wT3 87 rfl rfl
theorem mw_N_110 : Cond.methodLink RN 110 yN_calculate ∈ wS := wT3 99 rfl rfl
theorem mw_N_113 : Cond.methodLink RN 113 yN_obeyJump ∈ wS := wT3 115 rfl rfl
theorem mw_N_116 : Cond.methodLink RN 116 yN_obeyOnBits ∈ wS := wT3 123 rfl rfl
theorem mw_N_119 : Cond.methodLink RN 119 yN_endAs ∈ wS := wT3 59 rfl rfl
theorem mw_N_122 : Cond.methodLink RN 122 yN_pull ∈ wS := wT3 63 rfl rfl
theorem mw_N_125 : Cond.methodLink RN 125 yN_adjust ∈ wS := wT3 67 rfl rfl
theorem mw_N_131 : Cond.methodLink RN 131 yN_send ∈ wS := wT3 71 rfl rfl
theorem mw_N_134 : Cond.methodLink RN 134 yN_oneMore ∈ wS := wT3 83 rfl rfl
theorem mw_N_137 : Cond.methodLink RN 137 yN_oneLess ∈ wS := wT3 91 rfl rfl
theorem mw_N_140 : Cond.methodLink RN 140 yN_exchanged ∈ wS := wT3 95 rfl rfl
theorem mw_N_143 : Cond.methodLink RN 143 yN_holds ∈ wS := wT3 119 rfl rfl
theorem mw_N_147 : Cond.methodLink RN 147 yN_sum ∈ wS := wT3 103 rfl rfl
theorem mw_N_150 : Cond.methodLink RN 150 yN_difference ∈ wS := wT3 111 rfl rfl
theorem mw_N_153 : Cond.methodLink RN 153 yN_shifted ∈ wS := wT3 127 rfl rfl
theorem mw_N_156 : Cond.methodLink RN 156 yN_comesIn ∈ wS := wT3 131 rfl rfl
theorem mw_N_160 : Cond.methodLink RN 160 yM_read ∈ wS := wT3 43 rfl rfl
theorem mw_N_163 : Cond.methodLink RN 163 yM_write ∈ wS := wT3 27 rfl rfl
theorem mw_N_32 : Cond.methodLink RN 32 yN_setFlags ∈ wS := wT1 114 rfl rfl
theorem mw_N_49 : Cond.methodLink RN 49 yM_begin ∈ wS := wT1 118 rfl rfl
theorem mw_N_52 : Cond.methodLink RN 52 Lib.Math.min.name ∈ wS := wT3 169 rfl rfl
theorem mn_s : Cond.static Lib.Math.min.name ∈ wS := wT3 170 rfl rfl
theorem mn_i : Cond.initialized "java/lang/Math" ∈ wS := wT1 14 rfl rfl
theorem mn_c : Cond.code Lib.Math.min.name Lib.Math.min.code 2 (some .int) ∈ wS := wT3 171 rfl rfl
theorem mw_N_67 : Cond.methodLink RN 67 yN_carryBit ∈ wS := wT3 107 rfl rfl
theorem mw_N_71 : Cond.methodLink RN 71 yM_switches ∈ wS := wT3 146 rfl rfl
theorem mw_N_74 : Cond.methodLink RN 74 yN_get ∈ wS := wT3 79 rfl rfl
theorem mw_N_78 : Cond.methodLink RN 78 yM_askingLine ∈ wS := wT3 11 rfl rfl
theorem mw_N_81 : Cond.methodLink RN 81 yN_wakeFor ∈ wS := wT3 15 rfl rfl
theorem mw_N_85 : Cond.methodLink RN 85 yN_interruptFor ∈ wS := wT3 19 rfl rfl
theorem mw_N_88 : Cond.methodLink RN 88 yN_next ∈ wS := wT3 39 rfl rfl
theorem mw_N_91 : Cond.methodLink RN 91 yN_obey ∈ wS := wT3 51 rfl rfl
theorem mw_N_97 : Cond.methodLink RN 97 yN_push ∈ wS := wT3 23 rfl rfl
theorem mw_P_28 : Cond.methodLink RP 28 yP_packPinned ∈ wS := wT2 128 rfl rfl
theorem mw_P_32 : Cond.methodLink RP 32 yP_packFloating ∈ wS := wT2 140 rfl rfl
theorem mw_P_39 : Cond.methodLink RP 39 yP_fits ∈ wS := wT2 132 rfl rfl
theorem mw_P_43 : Cond.methodLink RP 43 yP_put ∈ wS := wT2 136 rfl rfl
theorem mw_P_47 : Cond.methodLink RP 47 yP_packLowest ∈ wS := wT2 144 rfl rfl
theorem mw_Q_103 : Cond.methodLink RQ 103 yQ_room ∈ wS := wT4 48 rfl rfl
theorem mw_Q_107 : Cond.methodLink RQ 107 yQ_append ∈ wS := wT4 52 rfl rfl
theorem mw_Q_111 : Cond.methodLink RQ 111 yQ_put ∈ wS := wT4 76 rfl rfl
theorem mw_Q_117 : Cond.constant RQ 117 65535 ∈ wS := wT4 100 rfl rfl
theorem mw_Q_118 : Cond.methodLink RQ 118 yQ_mark ∈ wS := wT4 88 rfl rfl
theorem mw_Q_122 : Cond.methodLink RQ 122 yQ_headByte ∈ wS := wT4 84 rfl rfl
theorem mw_Q_125 : Cond.methodLink RQ 125 yQ_headCheck ∈ wS := wT4 92 rfl rfl
theorem mw_Q_129 : Cond.methodLink RQ 129 yQ_imageCheck ∈ wS := wT4 96 rfl rfl
theorem mw_Q_132 : Cond.methodLink RQ 132 yQ_allKnown ∈ wS := wT4 68 rfl rfl
theorem mw_Q_136 : Cond.methodLink RQ 136 yQ_pack ∈ wS := wT4 72 rfl rfl
theorem mw_Q_139 : Cond.methodLink RQ 139 yQ_build ∈ wS := wT4 80 rfl rfl
theorem mw_Q_146 : Cond.methodLink RQ 146 yQ_refuse ∈ wS := wT4 105 rfl rfl
theorem mw_Q_149 : Cond.methodLink RQ 149 yQ_where ∈ wS := wT4 149 rfl rfl
theorem mw_Q_152 : Cond.methodLink RQ 152 yQ_read ∈ wS := wT4 161 rfl rfl
theorem mw_Q_155 : Cond.methodLink RQ 155 yQ_write ∈ wS := wT4 145 rfl rfl
theorem mw_Q_158 : Cond.methodLink RQ 158 yQ_add ∈ wS := wT4 193 rfl rfl
theorem mw_Q_162 : Cond.methodLink RQ 162 yQ_take ∈ wS := wT4 197 rfl rfl
theorem mw_Q_165 : Cond.methodLink RQ 165 yQ_plain ∈ wS := wT4 205 rfl rfl
theorem mw_Q_169 : Cond.methodLink RQ 169 yQ_get ∈ wS := wT4 185 rfl rfl
theorem mw_Q_172 : Cond.methodLink RQ 172 yQ_turned ∈ wS := wT4 225 rfl rfl
theorem mw_Q_176 : Cond.methodLink RQ 176 yQ_set ∈ wS := wT4 201 rfl rfl
theorem mw_Q_179 : Cond.methodLink RQ 179 yQ_stand ∈ wS := wT4 169 rfl rfl
theorem mw_Q_182 : Cond.methodLink RQ 182 yQ_adjust ∈ wS := wT4 173 rfl rfl
theorem mw_Q_185 : Cond.methodLink RQ 185 yQ_pop ∈ wS := wT4 177 rfl rfl
theorem mw_Q_188 : Cond.methodLink RQ 188 yQ_count ∈ wS := wT4 189 rfl rfl
theorem mw_Q_191 : Cond.methodLink RQ 191 yQ_push ∈ wS := wT4 141 rfl rfl
theorem mw_Q_194 : Cond.methodLink RQ 194 yQ_next ∈ wS := wT4 157 rfl rfl
theorem mw_Q_197 : Cond.methodLink RQ 197 yQ_holds ∈ wS := wT4 217 rfl rfl
theorem mw_Q_200 : Cond.methodLink RQ 200 yQ_few ∈ wS := wT4 165 rfl rfl
theorem mw_Q_203 : Cond.methodLink RQ 203 yQ_single ∈ wS := wT4 181 rfl rfl
theorem mw_Q_206 : Cond.methodLink RQ 206 yQ_reckon ∈ wS := wT4 209 rfl rfl
theorem mw_Q_209 : Cond.methodLink RQ 209 yQ_lead ∈ wS := wT4 213 rfl rfl
theorem mw_Q_212 : Cond.methodLink RQ 212 yQ_bits ∈ wS := wT4 221 rfl rfl
theorem mw_Q_215 : Cond.methodLink RQ 215 yQ_interrupt ∈ wS := wT4 137 rfl rfl
theorem mw_Q_218 : Cond.methodLink RQ 218 yQ_instruction ∈ wS := wT4 153 rfl rfl
theorem mw_Q_221 : Cond.methodLink RQ 221 yQ_step ∈ wS := wT4 133 rfl rfl
theorem mw_Q_46 : Cond.methodLink RQ 46 yQ_begin ∈ wS := wT3 178 rfl rfl
theorem mw_Q_96 : Cond.methodLink RQ 96 yQ_outside ∈ wS := wT4 41 rfl rfl
theorem me_D_clear : me_ yD_clear bD_clear 1 none RD 0 := ⟨wT1 208 rfl rfl, wT1 209 rfl rfl, wT1 1 rfl rfl, wT1 210 rfl rfl, ⟨rfl, by decide, by decide, by decide +kernel⟩⟩
theorem me_D_raise : me_ yD_raise bD_raise 2 none RD 1 := ⟨wT2 233 rfl rfl, wT2 234 rfl rfl, wT1 1 rfl rfl, wT2 235 rfl rfl, ⟨rfl, by decide, by decide, by decide +kernel⟩⟩
theorem me_D_sent : me_ yD_sent bD_sent 1 (some .int) RD 0 := ⟨wT1 221 rfl rfl, wT1 222 rfl rfl, wT1 1 rfl rfl, wT1 223 rfl rfl, ⟨rfl, by decide, by decide, by decide +kernel⟩⟩
theorem me_D_state : me_ yD_state bD_state 1 (some .int) RD 0 := ⟨wT1 217 rfl rfl, wT1 218 rfl rfl, wT1 1 rfl rfl, wT1 219 rfl rfl, ⟨rfl, by decide, by decide, by decide +kernel⟩⟩
theorem me_K_at : me_ yK_at bK_at 3 (some .int) RK 2 := ⟨wT3 48 rfl rfl, wT3 49 rfl rfl, wT1 3 rfl rfl, wT3 50 rfl rfl, ⟨rfl, by decide, by decide, by decide +kernel⟩⟩
theorem me_K_headCheck : me_ yK_headCheck bK_headCheck 3 (some .int) RK 0 := ⟨wT2 180 rfl rfl, wP1 (n := 2) 11 rfl, wT1 3 rfl rfl, wT2 181 rfl rfl, ⟨rfl, by decide, by decide, by decide +kernel⟩⟩
theorem me_K_isMade : me_ yK_isMade bK_isMade 1 (some .boolean) RK 0 := ⟨wT2 222 rfl rfl, wT2 223 rfl rfl, wT1 3 rfl rfl, wT2 224 rfl rfl, ⟨rfl, by decide, by decide, by decide +kernel⟩⟩
theorem me_K_size : me_ yK_size bK_size 1 (some .int) RK 0 := ⟨wT2 157 rfl rfl, wT2 158 rfl rfl, wT1 3 rfl rfl, wT2 159 rfl rfl, ⟨rfl, by decide, by decide, by decide +kernel⟩⟩
theorem me_K_sizeCode : me_ yK_sizeCode bK_sizeCode 1 (some .int) RK 0 := ⟨wT2 176 rfl rfl, wP1 (n := 2) 10 rfl, wT1 3 rfl rfl, wT2 177 rfl rfl, ⟨rfl, by decide, by decide, by decide +kernel⟩⟩
theorem me_N_canGo : me_ yN_canGo bN_canGo 1 (some .boolean) RN 0 := ⟨wT3 4 rfl rfl, wT3 5 rfl rfl, wT1 5 rfl rfl, wT3 6 rfl rfl, ⟨rfl, by decide, by decide, by decide +kernel⟩⟩
theorem me_N_carryBit : me_ yN_carryBit bN_carryBit 1 (some .int) RN 0 := ⟨wT3 109 rfl rfl, wP3 (n := 13) 1 rfl, wT1 5 rfl rfl, wT3 110 rfl rfl, ⟨rfl, by decide, by decide, by decide +kernel⟩⟩
theorem me_N_endAs : me_ yN_endAs bN_endAs 2 none RN 1 := ⟨wT3 61 rfl rfl, wP2 (n := 13) 5 rfl, wT1 5 rfl rfl, wT3 62 rfl rfl, ⟨rfl, by decide, by decide, by decide +kernel⟩⟩
theorem me_N_holds : me_ yN_holds bN_holds 2 (some .boolean) RN 1 := ⟨wT3 121 rfl rfl, wP3 (n := 13) 4 rfl, wT1 5 rfl rfl, wT3 122 rfl rfl, ⟨rfl, by decide, by decide, by decide +kernel⟩⟩
theorem me_N_keptCount : me_ yN_keptCount bN_keptCount 1 (some .int) RN 0 := ⟨wT3 166 rfl rfl, wT3 167 rfl rfl, wT1 5 rfl rfl, wT3 168 rfl rfl, ⟨rfl, by decide, by decide, by decide +kernel⟩⟩
theorem me_N_send : me_ yN_send bN_send 2 none RN 1 := ⟨wT3 73 rfl rfl, wP2 (n := 13) 8 rfl, wT1 5 rfl rfl, wT3 74 rfl rfl, ⟨rfl, by decide, by decide, by decide +kernel⟩⟩
theorem me_N_setFlags : me_ yN_setFlags bN_setFlags 5 none RN 4 := ⟨wT1 116 rfl rfl, wP1 (n := 13) 0 rfl, wT1 5 rfl rfl, wT1 117 rfl rfl, ⟨rfl, by decide, by decide, by decide +kernel⟩⟩
theorem me_N_wakeFor : me_ yN_wakeFor bN_wakeFor 2 none RN 1 := ⟨wT3 17 rfl rfl, wP1 (n := 13) 13 rfl, wT1 5 rfl rfl, wT3 18 rfl rfl, ⟨rfl, by decide, by decide, by decide +kernel⟩⟩
theorem me_M_askingLine : me_ yM_askingLine bM_askingLine 2 (some .int) RM 0 := ⟨wT3 12 rfl rfl, wT3 13 rfl rfl, wT1 4 rfl rfl, wT3 14 rfl rfl, ⟨rfl, by decide, by decide, by decide +kernel⟩⟩
theorem me_M_begin : me_ yM_begin bM_begin 2 none RM 0 := ⟨wT1 119 rfl rfl, wT1 120 rfl rfl, wT1 4 rfl rfl, wT1 121 rfl rfl, ⟨rfl, by decide, by decide, by decide +kernel⟩⟩
theorem me_M_ramPlace : me_ yM_ramPlace bM_ramPlace 2 (some .int) RM 1 := ⟨wT3 37 rfl rfl, wP2 (n := 9) 1 rfl, wT1 4 rfl rfl, wT3 38 rfl rfl, ⟨rfl, by decide, by decide, by decide +kernel⟩⟩
theorem me_M_switches : me_ yM_switches bM_switches 1 (some .int) RM 0 := ⟨wT3 147 rfl rfl, wT3 148 rfl rfl, wT1 4 rfl rfl, wT3 149 rfl rfl, ⟨rfl, by decide, by decide, by decide +kernel⟩⟩
theorem me_M_turnSwitch : me_ yM_turnSwitch bM_turnSwitch 3 none RM 2 := ⟨wT3 33 rfl rfl, wP2 (n := 9) 0 rfl, wT1 4 rfl rfl, wT3 34 rfl rfl, ⟨rfl, by decide, by decide, by decide +kernel⟩⟩
theorem me_P_addressOf : me_ yP_addressOf bP_addressOf 2 (some .int) RP 1 := ⟨wT2 165 rfl rfl, wT2 166 rfl rfl, wT1 6 rfl rfl, wT2 167 rfl rfl, ⟨rfl, by decide, by decide, by decide +kernel⟩⟩
theorem me_P_fits : me_ yP_fits bP_fits 3 (some .boolean) RP 2 := ⟨wT2 134 rfl rfl, wP1 (n := 4) 3 rfl, wT1 6 rfl rfl, wT2 135 rfl rfl, ⟨rfl, by decide, by decide, by decide +kernel⟩⟩
theorem me_P_put : me_ yP_put bP_put 4 none RP 3 := ⟨wT2 138 rfl rfl, wP1 (n := 4) 4 rfl, wT1 6 rfl rfl, wT2 139 rfl rfl, ⟨rfl, by decide, by decide, by decide +kernel⟩⟩
theorem me_S_append : me_ yS_append bS_append 5 none RS 2 := ⟨wT2 87 rfl rfl, wT2 88 rfl rfl, wT1 2 rfl rfl, wT2 89 rfl rfl, ⟨rfl, by decide, by decide, by decide +kernel⟩⟩
theorem me_S_canTake : me_ yS_canTake bS_canTake 2 (some .boolean) RS 1 := ⟨wT2 83 rfl rfl, wT2 84 rfl rfl, wT1 2 rfl rfl, wT2 85 rfl rfl, ⟨rfl, by decide, by decide, by decide +kernel⟩⟩
theorem me_S_lacksOne : me_ yS_lacksOne bS_lacksOne 4 (some .boolean) RS 0 := ⟨wT2 106 rfl rfl, wT2 107 rfl rfl, wT1 2 rfl rfl, wT2 108 rfl rfl, ⟨rfl, by decide, by decide, by decide +kernel⟩⟩
theorem me_S_open : me_ yS_open bS_open 3 (some .int) RS 1 := ⟨wT2 72 rfl rfl, wT2 73 rfl rfl, wT1 2 rfl rfl, wT2 74 rfl rfl, ⟨rfl, by decide, by decide, by decide +kernel⟩⟩
theorem me_S_total : me_ yS_total bS_total 3 (some .int) RS 0 := ⟨wT2 188 rfl rfl, wT2 189 rfl rfl, wT1 2 rfl rfl, wT2 190 rfl rfl, ⟨rfl, by decide, by decide, by decide +kernel⟩⟩
theorem me_Q_add : me_ yQ_add bQ_add 7 (some .int) RQ 3 := ⟨wT4 195 rfl rfl, wP5 (n := 30) 3 rfl, wT1 7 rfl rfl, wT4 196 rfl rfl, ⟨rfl, by decide, by decide, by decide +kernel⟩⟩
theorem me_Q_adjust : me_ yQ_adjust bQ_adjust 4 none RQ 0 := ⟨wT4 175 rfl rfl, wP4 (n := 30) 14 rfl, wT1 7 rfl rfl, wT4 176 rfl rfl, ⟨rfl, by decide, by decide, by decide +kernel⟩⟩
theorem me_Q_allKnown : me_ yQ_allKnown bQ_allKnown 4 (some .boolean) RQ 0 := ⟨wT4 70 rfl rfl, wP3 (n := 30) 11 rfl, wT1 7 rfl rfl, wT4 71 rfl rfl, ⟨rfl, by decide, by decide, by decide +kernel⟩⟩
theorem me_Q_append : me_ yQ_append bQ_append 4 none RQ 2 := ⟨wT4 54 rfl rfl, wP3 (n := 30) 10 rfl, wT1 7 rfl rfl, wT4 55 rfl rfl, ⟨rfl, by decide, by decide, by decide +kernel⟩⟩
theorem me_Q_begin : me_ yQ_begin bQ_begin 2 none RQ 0 := ⟨wT3 180 rfl rfl, wP3 (n := 30) 8 rfl, wT1 7 rfl rfl, wT3 181 rfl rfl, ⟨rfl, by decide, by decide, by decide +kernel⟩⟩
theorem me_Q_clear : me_ yQ_clear bQ_clear 1 none RQ 0 := ⟨wT4 61 rfl rfl, wT4 62 rfl rfl, wT1 7 rfl rfl, wT4 63 rfl rfl, ⟨rfl, by decide, by decide, by decide +kernel⟩⟩
theorem me_Q_headCheck : me_ yQ_headCheck bQ_headCheck 3 (some .int) RQ 0 := ⟨wT4 94 rfl rfl, wP4 (n := 30) 1 rfl, wT1 7 rfl rfl, wT4 95 rfl rfl, ⟨rfl, by decide, by decide, by decide +kernel⟩⟩
theorem me_Q_holds : me_ yQ_holds bQ_holds 2 (some .boolean) RQ 1 := ⟨wT4 219 rfl rfl, wP5 (n := 30) 9 rfl, wT1 7 rfl rfl, wT4 220 rfl rfl, ⟨rfl, by decide, by decide, by decide +kernel⟩⟩
theorem me_Q_imageCheck : me_ yQ_imageCheck bQ_imageCheck 3 (some .int) RQ 0 := ⟨wT4 98 rfl rfl, wP4 (n := 30) 2 rfl, wT1 7 rfl rfl, wT4 99 rfl rfl, ⟨rfl, by decide, by decide, by decide +kernel⟩⟩
theorem me_Q_mark : me_ yQ_mark bQ_mark 2 (some .int) RQ 1 := ⟨wT4 90 rfl rfl, wP4 (n := 30) 0 rfl, wT1 7 rfl rfl, wT4 91 rfl rfl, ⟨rfl, by decide, by decide, by decide +kernel⟩⟩
theorem me_Q_outside : ms_ yQ_outside bQ_outside 3 (some .boolean) RQ 3 := ⟨wT4 42 rfl rfl, wT1 7 rfl rfl, wT4 43 rfl rfl, ⟨rfl, by decide, by decide, by decide +kernel⟩⟩
theorem me_Q_plain : me_ yQ_plain bQ_plain 3 (some .int) RQ 2 := ⟨wT4 207 rfl rfl, wP5 (n := 30) 6 rfl, wT1 7 rfl rfl, wT4 208 rfl rfl, ⟨rfl, by decide, by decide, by decide +kernel⟩⟩
theorem me_Q_put : me_ yQ_put bQ_put 4 (some .boolean) RQ 3 := ⟨wT4 78 rfl rfl, wP3 (n := 30) 13 rfl, wT1 7 rfl rfl, wT4 79 rfl rfl, ⟨rfl, by decide, by decide, by decide +kernel⟩⟩
theorem me_Q_refuse : me_ yQ_refuse bQ_refuse 2 (some .int) RQ 1 := ⟨wT4 107 rfl rfl, wP4 (n := 30) 3 rfl, wT1 7 rfl rfl, wT4 108 rfl rfl, ⟨rfl, by decide, by decide, by decide +kernel⟩⟩
theorem me_Q_room : me_ yQ_room bQ_room 2 (some .boolean) RQ 1 := ⟨wT4 50 rfl rfl, wP3 (n := 30) 9 rfl, wT1 7 rfl rfl, wT4 51 rfl rfl, ⟨rfl, by decide, by decide, by decide +kernel⟩⟩
theorem me_Q_sent : me_ yQ_sent bQ_sent 1 (some .int) RQ 0 := ⟨wT5 2 rfl rfl, wT5 3 rfl rfl, wT1 7 rfl rfl, wT5 4 rfl rfl, ⟨rfl, by decide, by decide, by decide +kernel⟩⟩
theorem me_Q_stand : me_ yQ_stand bQ_stand 2 none RQ 1 := ⟨wT4 171 rfl rfl, wP4 (n := 30) 13 rfl, wT1 7 rfl rfl, wT4 172 rfl rfl, ⟨rfl, by decide, by decide, by decide +kernel⟩⟩
theorem me_Q_state : me_ yQ_state bQ_state 1 (some .int) RQ 0 := ⟨wT4 230 rfl rfl, wT4 231 rfl rfl, wT1 7 rfl rfl, wT4 232 rfl rfl, ⟨rfl, by decide, by decide, by decide +kernel⟩⟩
theorem me_Q_take : me_ yQ_take bQ_take 7 (some .int) RQ 3 := ⟨wT4 199 rfl rfl, wP5 (n := 30) 4 rfl, wT1 7 rfl rfl, wT4 200 rfl rfl, ⟨rfl, by decide, by decide, by decide +kernel⟩⟩
theorem me_Q_thrown : me_ yQ_thrown bQ_thrown 1 (some .int) RQ 0 := ⟨wT4 34 rfl rfl, wT4 35 rfl rfl, wT1 7 rfl rfl, wT4 36 rfl rfl, ⟨rfl, by decide, by decide, by decide +kernel⟩⟩
theorem me_Q_where : me_ yQ_where bQ_where 2 (some .int) RQ 1 := ⟨wT4 151 rfl rfl, wP4 (n := 30) 8 rfl, wT1 7 rfl rfl, wT4 152 rfl rfl, ⟨rfl, by decide, by decide, by decide +kernel⟩⟩
theorem me_D_byteSent : me_ yD_byteSent bD_byteSent 2 (some .int) RD 1 := ⟨wT3 162 rfl rfl, wT3 163 rfl rfl, wT1 1 rfl rfl, wT3 164 rfl rfl, ⟨rfl, by decide, by decide, by decide +kernel⟩⟩
theorem me_D_bytes : me_ yD_bytes bD_bytes 4 none RD 2 := ⟨wT2 79 rfl rfl, wT2 80 rfl rfl, wT1 1 rfl rfl, wT2 81 rfl rfl, ⟨rfl, by decide, by decide, by decide +kernel⟩⟩
theorem me_D_image : me_ yD_image bD_image 2 (some .int) RD 1 := ⟨wT2 203 rfl rfl, wT2 204 rfl rfl, wT1 1 rfl rfl, wT2 205 rfl rfl, ⟨rfl, by decide, by decide, by decide +kernel⟩⟩
theorem me_D_mended : me_ yD_mended bD_mended 4 none RD 2 := ⟨wT2 94 rfl rfl, wT2 95 rfl rfl, wT1 1 rfl rfl, wT2 96 rfl rfl, ⟨rfl, by decide, by decide, by decide +kernel⟩⟩
theorem me_D_packed : me_ yD_packed bD_packed 3 (some .int) RD 2 := ⟨wT2 195 rfl rfl, wT2 196 rfl rfl, wT1 1 rfl rfl, wT2 197 rfl rfl, ⟨rfl, by decide, by decide, by decide +kernel⟩⟩
theorem me_D_section : me_ yD_section bD_section 2 (some .int) RD 1 := ⟨wT1 230 rfl rfl, wT1 231 rfl rfl, wT1 1 rfl rfl, wT1 232 rfl rfl, ⟨rfl, by decide, by decide, by decide +kernel⟩⟩
theorem me_D_spoil : me_ yD_spoil bD_spoil 3 none RD 2 := ⟨wT2 211 rfl rfl, wT2 212 rfl rfl, wT1 1 rfl rfl, wT2 213 rfl rfl, ⟨rfl, by decide, by decide, by decide +kernel⟩⟩
theorem me_K_imageCheck : me_ yK_imageCheck bK_imageCheck 3 (some .int) RK 0 := ⟨wT2 184 rfl rfl, wP1 (n := 2) 12 rfl, wT1 3 rfl rfl, wT2 185 rfl rfl, ⟨rfl, by decide, by decide, by decide +kernel⟩⟩
theorem me_K_lay : me_ yK_lay bK_lay 9 none RK 3 := ⟨wT2 162 rfl rfl, wP1 (n := 2) 8 rfl, wT1 3 rfl rfl, wT2 163 rfl rfl, ⟨rfl, by decide, by decide, by decide +kernel⟩⟩
theorem me_N_adjust : me_ yN_adjust bN_adjust 4 none RN 0 := ⟨wT3 69 rfl rfl, wP2 (n := 13) 7 rfl, wT1 5 rfl rfl, wT3 70 rfl rfl, ⟨rfl, by decide, by decide, by decide +kernel⟩⟩
theorem me_N_begin : me_ yN_begin bN_begin 2 none RN 0 := ⟨wT1 111 rfl rfl, wT1 112 rfl rfl, wT1 5 rfl rfl, wT1 113 rfl rfl, ⟨rfl, by decide, by decide, by decide +kernel⟩⟩
theorem me_N_comesIn : me_ yN_comesIn bN_comesIn 4 (some .int) RN 3 := ⟨wT3 133 rfl rfl, wP3 (n := 13) 7 rfl, wT1 5 rfl rfl, wT3 134 rfl rfl, ⟨rfl, by decide, by decide, by decide +kernel⟩⟩
theorem me_N_difference : me_ yN_difference bN_difference 6 (some .int) RN 2 := ⟨wT3 113 rfl rfl, wP3 (n := 13) 2 rfl, wT1 5 rfl rfl, wT3 114 rfl rfl, ⟨rfl, by decide, by decide, by decide +kernel⟩⟩
theorem me_N_exchanged : me_ yN_exchanged bN_exchanged 2 (some .int) RN 1 := ⟨wT3 97 rfl rfl, wP2 (n := 13) 14 rfl, wT1 5 rfl rfl, wT3 98 rfl rfl, ⟨rfl, by decide, by decide, by decide +kernel⟩⟩
theorem me_N_oneLess : me_ yN_oneLess bN_oneLess 3 (some .int) RN 1 := ⟨wT3 93 rfl rfl, wP2 (n := 13) 13 rfl, wT1 5 rfl rfl, wT3 94 rfl rfl, ⟨rfl, by decide, by decide, by decide +kernel⟩⟩
theorem me_N_oneMore : me_ yN_oneMore bN_oneMore 3 (some .int) RN 1 := ⟨wT3 85 rfl rfl, wP2 (n := 13) 11 rfl, wT1 5 rfl rfl, wT3 86 rfl rfl, ⟨rfl, by decide, by decide, by decide +kernel⟩⟩
theorem me_N_sum : me_ yN_sum bN_sum 6 (some .int) RN 2 := ⟨wT3 105 rfl rfl, wP3 (n := 13) 0 rfl, wT1 5 rfl rfl, wT3 106 rfl rfl, ⟨rfl, by decide, by decide, by decide +kernel⟩⟩
theorem me_M_read : me_ yM_read bM_read 2 (some .int) RM 1 := ⟨wT3 44 rfl rfl, wT3 45 rfl rfl, wT1 4 rfl rfl, wT3 46 rfl rfl, ⟨rfl, by decide, by decide, by decide +kernel⟩⟩
theorem me_M_write : me_ yM_write bM_write 3 none RM 2 := ⟨wT3 28 rfl rfl, wT3 29 rfl rfl, wT1 4 rfl rfl, wT3 30 rfl rfl, ⟨rfl, by decide, by decide, by decide +kernel⟩⟩
theorem me_P_packLowest : me_ yP_packLowest bP_packLowest 5 (some .boolean) RP 3 := ⟨wT2 146 rfl rfl, wP1 (n := 4) 6 rfl, wT1 6 rfl rfl, wT2 147 rfl rfl, ⟨rfl, by decide, by decide, by decide +kernel⟩⟩
theorem me_P_packPinned : me_ yP_packPinned bP_packPinned 5 (some .boolean) RP 2 := ⟨wT2 130 rfl rfl, wP1 (n := 4) 2 rfl, wT1 6 rfl rfl, wT2 131 rfl rfl, ⟨rfl, by decide, by decide, by decide +kernel⟩⟩
theorem me_Q_byteSent : me_ yQ_byteSent bQ_byteSent 2 (some .int) RQ 1 := ⟨wT5 6 rfl rfl, wT5 7 rfl rfl, wT1 7 rfl rfl, wT5 8 rfl rfl, ⟨rfl, by decide, by decide, by decide +kernel⟩⟩
theorem me_Q_bytes : me_ yQ_bytes bQ_bytes 4 none RQ 2 := ⟨wT4 45 rfl rfl, wT4 46 rfl rfl, wT1 7 rfl rfl, wT4 47 rfl rfl, ⟨rfl, by decide, by decide, by decide +kernel⟩⟩
theorem me_Q_count : me_ yQ_count bQ_count 5 (some .int) RQ 2 := ⟨wT4 191 rfl rfl, wP5 (n := 30) 2 rfl, wT1 7 rfl rfl, wT4 192 rfl rfl, ⟨rfl, by decide, by decide, by decide +kernel⟩⟩
theorem me_Q_headByte : me_ yQ_headByte bQ_headByte 2 (some .int) RQ 1 := ⟨wT4 86 rfl rfl, wP3 (n := 30) 15 rfl, wT1 7 rfl rfl, wT4 87 rfl rfl, ⟨rfl, by decide, by decide, by decide +kernel⟩⟩
theorem me_Q_image : me_ yQ_image bQ_image 2 (some .int) RQ 1 := ⟨wT4 110 rfl rfl, wT4 111 rfl rfl, wT1 7 rfl rfl, wT4 112 rfl rfl, ⟨rfl, by decide, by decide, by decide +kernel⟩⟩
theorem me_Q_mended : me_ yQ_mended bQ_mended 3 none RQ 2 := ⟨wT4 57 rfl rfl, wT4 58 rfl rfl, wT1 7 rfl rfl, wT4 59 rfl rfl, ⟨rfl, by decide, by decide, by decide +kernel⟩⟩
theorem me_Q_pack : me_ yQ_pack bQ_pack 5 (some .boolean) RQ 1 := ⟨wT4 74 rfl rfl, wP3 (n := 30) 12 rfl, wT1 7 rfl rfl, wT4 75 rfl rfl, ⟨rfl, by decide, by decide, by decide +kernel⟩⟩
theorem me_Q_packed : me_ yQ_packed bQ_packed 3 (some .int) RQ 2 := ⟨wT4 102 rfl rfl, wT4 103 rfl rfl, wT1 7 rfl rfl, wT4 104 rfl rfl, ⟨rfl, by decide, by decide, by decide +kernel⟩⟩
theorem me_Q_raise : me_ yQ_raise bQ_raise 2 none RQ 1 := ⟨wT4 126 rfl rfl, wT4 127 rfl rfl, wT1 7 rfl rfl, wT4 128 rfl rfl, ⟨rfl, by decide, by decide, by decide +kernel⟩⟩
theorem me_Q_read : me_ yQ_read bQ_read 2 (some .int) RQ 1 := ⟨wT4 163 rfl rfl, wP4 (n := 30) 11 rfl, wT1 7 rfl rfl, wT4 164 rfl rfl, ⟨rfl, by decide, by decide, by decide +kernel⟩⟩
theorem me_Q_reckon : me_ yQ_reckon bQ_reckon 5 none RQ 2 := ⟨wT4 211 rfl rfl, wP5 (n := 30) 7 rfl, wT1 7 rfl rfl, wT4 212 rfl rfl, ⟨rfl, by decide, by decide, by decide +kernel⟩⟩
theorem me_Q_restart : me_ yQ_restart bQ_restart 1 none RQ 0 := ⟨wT4 122 rfl rfl, wT4 123 rfl rfl, wT1 7 rfl rfl, wT4 124 rfl rfl, ⟨rfl, by decide, by decide, by decide +kernel⟩⟩
theorem me_Q_section : me_ yQ_section bQ_section 2 (some .int) RQ 1 := ⟨wT4 38 rfl rfl, wT4 39 rfl rfl, wT1 7 rfl rfl, wT4 40 rfl rfl, ⟨rfl, by decide, by decide, by decide +kernel⟩⟩
theorem me_Q_spoil : me_ yQ_spoil bQ_spoil 3 none RQ 2 := ⟨wT4 114 rfl rfl, wT4 115 rfl rfl, wT1 7 rfl rfl, wT4 116 rfl rfl, ⟨rfl, by decide, by decide, by decide +kernel⟩⟩
theorem me_Q_turned : me_ yQ_turned bQ_turned 7 (some .int) RQ 2 := ⟨wT4 227 rfl rfl, wP5 (n := 30) 11 rfl, wT1 7 rfl rfl, wT4 228 rfl rfl, ⟨rfl, by decide, by decide, by decide +kernel⟩⟩
theorem me_Q_valid : me_ yQ_valid bQ_valid 3 (some .int) RQ 0 := ⟨wT4 118 rfl rfl, wT4 119 rfl rfl, wT1 7 rfl rfl, wT4 120 rfl rfl, ⟨rfl, by decide, by decide, by decide +kernel⟩⟩
theorem me_Q_write : me_ yQ_write bQ_write 3 none RQ 2 := ⟨wT4 147 rfl rfl, wP4 (n := 30) 7 rfl, wT1 7 rfl rfl, wT4 148 rfl rfl, ⟨rfl, by decide, by decide, by decide +kernel⟩⟩
theorem me_D_peek : me_ yD_peek bD_peek 2 (some .int) RD 1 := ⟨wT3 154 rfl rfl, wT3 155 rfl rfl, wT1 1 rfl rfl, wT3 156 rfl rfl, ⟨rfl, by decide, by decide, by decide +kernel⟩⟩
theorem me_D_restart : me_ yD_restart bD_restart 1 none RD 0 := ⟨wT1 212 rfl rfl, wT1 213 rfl rfl, wT1 1 rfl rfl, wT1 214 rfl rfl, ⟨rfl, by decide, by decide, by decide +kernel⟩⟩
theorem me_K_verdict : me_ yK_verdict bK_verdict 2 (some .int) RK 0 := ⟨wT2 226 rfl rfl, wT2 227 rfl rfl, wT1 3 rfl rfl, wT2 228 rfl rfl, ⟨rfl, by decide, by decide, by decide +kernel⟩⟩
theorem me_K_writeHead : me_ yK_writeHead bK_writeHead 3 none RK 1 := ⟨wT2 170 rfl rfl, wP1 (n := 2) 9 rfl, wT1 3 rfl rfl, wT2 171 rfl rfl, ⟨rfl, by decide, by decide, by decide +kernel⟩⟩
theorem me_N_calculate : me_ yN_calculate bN_calculate 3 none RN 2 := ⟨wT3 101 rfl rfl, wP2 (n := 13) 15 rfl, wT1 5 rfl rfl, wT3 102 rfl rfl, ⟨rfl, by decide, by decide, by decide +kernel⟩⟩
theorem me_N_get : me_ yN_get bN_get 2 (some .int) RN 1 := ⟨wT3 81 rfl rfl, wP2 (n := 13) 10 rfl, wT1 5 rfl rfl, wT3 82 rfl rfl, ⟨rfl, by decide, by decide, by decide +kernel⟩⟩
theorem me_N_next : me_ yN_next bN_next 2 (some .int) RN 0 := ⟨wT3 41 rfl rfl, wP2 (n := 13) 2 rfl, wT1 5 rfl rfl, wT3 42 rfl rfl, ⟨rfl, by decide, by decide, by decide +kernel⟩⟩
theorem me_N_pull : me_ yN_pull bN_pull 2 (some .int) RN 0 := ⟨wT3 65 rfl rfl, wP2 (n := 13) 6 rfl, wT1 5 rfl rfl, wT3 66 rfl rfl, ⟨rfl, by decide, by decide, by decide +kernel⟩⟩
theorem me_N_push : me_ yN_push bN_push 2 none RN 1 := ⟨wT3 25 rfl rfl, wP1 (n := 13) 15 rfl, wT1 5 rfl rfl, wT3 26 rfl rfl, ⟨rfl, by decide, by decide, by decide +kernel⟩⟩
theorem me_N_set : me_ yN_set bN_set 3 none RN 2 := ⟨wT3 89 rfl rfl, wP2 (n := 13) 12 rfl, wT1 5 rfl rfl, wT3 90 rfl rfl, ⟨rfl, by decide, by decide, by decide +kernel⟩⟩
theorem me_N_shifted : me_ yN_shifted bN_shifted 7 (some .int) RN 2 := ⟨wT3 129 rfl rfl, wP3 (n := 13) 6 rfl, wT1 5 rfl rfl, wT3 130 rfl rfl, ⟨rfl, by decide, by decide, by decide +kernel⟩⟩
theorem me_P_packFloating : me_ yP_packFloating bP_packFloating 6 (some .boolean) RP 2 := ⟨wT2 142 rfl rfl, wP1 (n := 4) 5 rfl, wT1 6 rfl rfl, wT2 143 rfl rfl, ⟨rfl, by decide, by decide, by decide +kernel⟩⟩
theorem me_Q_build : me_ yQ_build bQ_build 7 none RQ 1 := ⟨wT4 82 rfl rfl, wP3 (n := 30) 14 rfl, wT1 7 rfl rfl, wT4 83 rfl rfl, ⟨rfl, by decide, by decide, by decide +kernel⟩⟩
theorem me_Q_get : me_ yQ_get bQ_get 2 (some .int) RQ 1 := ⟨wT4 187 rfl rfl, wP5 (n := 30) 1 rfl, wT1 7 rfl rfl, wT4 188 rfl rfl, ⟨rfl, by decide, by decide, by decide +kernel⟩⟩
theorem me_Q_next : me_ yQ_next bQ_next 2 (some .int) RQ 0 := ⟨wT4 159 rfl rfl, wP4 (n := 30) 10 rfl, wT1 7 rfl rfl, wT4 160 rfl rfl, ⟨rfl, by decide, by decide, by decide +kernel⟩⟩
theorem me_Q_peek : me_ yQ_peek bQ_peek 2 (some .int) RQ 1 := ⟨wT4 238 rfl rfl, wT4 239 rfl rfl, wT1 7 rfl rfl, wT5 0 rfl rfl, ⟨rfl, by decide, by decide, by decide +kernel⟩⟩
theorem me_Q_pop : me_ yQ_pop bQ_pop 2 (some .int) RQ 0 := ⟨wT4 179 rfl rfl, wP4 (n := 30) 15 rfl, wT1 7 rfl rfl, wT4 180 rfl rfl, ⟨rfl, by decide, by decide, by decide +kernel⟩⟩
theorem me_Q_push : me_ yQ_push bQ_push 2 none RQ 1 := ⟨wT4 143 rfl rfl, wP4 (n := 30) 6 rfl, wT1 7 rfl rfl, wT4 144 rfl rfl, ⟨rfl, by decide, by decide, by decide +kernel⟩⟩
theorem me_Q_set : me_ yQ_set bQ_set 3 none RQ 2 := ⟨wT4 203 rfl rfl, wP5 (n := 30) 5 rfl, wT1 7 rfl rfl, wT4 204 rfl rfl, ⟨rfl, by decide, by decide, by decide +kernel⟩⟩
theorem me_D_valid : me_ yD_valid bD_valid 1 (some .int) RD 0 := ⟨wT2 218 rfl rfl, wT2 219 rfl rfl, wT1 1 rfl rfl, wT2 220 rfl rfl, ⟨rfl, by decide, by decide, by decide +kernel⟩⟩
theorem me_K_make : me_ yK_make bK_make 5 none RK 3 := ⟨wT2 153 rfl rfl, wT2 154 rfl rfl, wT1 3 rfl rfl, wT2 155 rfl rfl, ⟨rfl, by decide, by decide, by decide +kernel⟩⟩
theorem me_N_interruptFor : me_ yN_interruptFor bN_interruptFor 2 none RN 1 := ⟨wT3 21 rfl rfl, wP1 (n := 13) 14 rfl, wT1 5 rfl rfl, wT3 22 rfl rfl, ⟨rfl, by decide, by decide, by decide +kernel⟩⟩
theorem me_N_obeyJump : me_ yN_obeyJump bN_obeyJump 5 none RN 2 := ⟨wT3 117 rfl rfl, wP3 (n := 13) 3 rfl, wT1 5 rfl rfl, wT3 118 rfl rfl, ⟨rfl, by decide, by decide, by decide +kernel⟩⟩
theorem me_N_obeyOnBits : me_ yN_obeyOnBits bN_obeyOnBits 5 none RN 1 := ⟨wT3 125 rfl rfl, wP3 (n := 13) 5 rfl, wT1 5 rfl rfl, wT3 126 rfl rfl, ⟨rfl, by decide, by decide, by decide +kernel⟩⟩
theorem me_N_obeyOnOne : me_ yN_obeyOnOne bN_obeyOnOne 3 none RN 2 := ⟨wT3 77 rfl rfl, wP2 (n := 13) 9 rfl, wT1 5 rfl rfl, wT3 78 rfl rfl, ⟨rfl, by decide, by decide, by decide +kernel⟩⟩
theorem me_N_obeySingle : me_ yN_obeySingle bN_obeySingle 2 none RN 1 := ⟨wT3 57 rfl rfl, wP2 (n := 13) 4 rfl, wT1 5 rfl rfl, wT3 58 rfl rfl, ⟨rfl, by decide, by decide, by decide +kernel⟩⟩
theorem me_N_shown : me_ yN_shown bN_shown 2 (some .int) RN 1 := ⟨wT3 143 rfl rfl, wT3 144 rfl rfl, wT1 5 rfl rfl, wT3 145 rfl rfl, ⟨rfl, by decide, by decide, by decide +kernel⟩⟩
theorem me_P_pack : me_ yP_pack bP_pack 4 (some .boolean) RP 2 := ⟨wT2 125 rfl rfl, wT2 126 rfl rfl, wT1 6 rfl rfl, wT2 127 rfl rfl, ⟨rfl, by decide, by decide, by decide +kernel⟩⟩
theorem me_Q_bits : me_ yQ_bits bQ_bits 6 none RQ 1 := ⟨wT4 223 rfl rfl, wP5 (n := 30) 10 rfl, wT1 7 rfl rfl, wT4 224 rfl rfl, ⟨rfl, by decide, by decide, by decide +kernel⟩⟩
theorem me_Q_few : me_ yQ_few bQ_few 2 none RQ 1 := ⟨wT4 167 rfl rfl, wP4 (n := 30) 12 rfl, wT1 7 rfl rfl, wT4 168 rfl rfl, ⟨rfl, by decide, by decide, by decide +kernel⟩⟩
theorem me_Q_interrupt : me_ yQ_interrupt bQ_interrupt 3 none RQ 1 := ⟨wT4 139 rfl rfl, wP4 (n := 30) 5 rfl, wT1 7 rfl rfl, wT4 140 rfl rfl, ⟨rfl, by decide, by decide, by decide +kernel⟩⟩
theorem me_Q_lead : me_ yQ_lead bQ_lead 6 none RQ 1 := ⟨wT4 215 rfl rfl, wP5 (n := 30) 8 rfl, wT1 7 rfl rfl, wT4 216 rfl rfl, ⟨rfl, by decide, by decide, by decide +kernel⟩⟩
theorem me_Q_link : me_ yQ_link bQ_link 4 (some .int) RQ 1 := ⟨wT4 65 rfl rfl, wT4 66 rfl rfl, wT1 7 rfl rfl, wT4 67 rfl rfl, ⟨rfl, by decide, by decide, by decide +kernel⟩⟩
theorem me_Q_register : me_ yQ_register bQ_register 3 (some .int) RQ 1 := ⟨wT4 234 rfl rfl, wT4 235 rfl rfl, wT1 7 rfl rfl, wT4 236 rfl rfl, ⟨rfl, by decide, by decide, by decide +kernel⟩⟩
theorem me_Q_single : me_ yQ_single bQ_single 4 none RQ 2 := ⟨wT4 183 rfl rfl, wP5 (n := 30) 0 rfl, wT1 7 rfl rfl, wT4 184 rfl rfl, ⟨rfl, by decide, by decide, by decide +kernel⟩⟩
theorem me_D_link : me_ yD_link bD_link 2 (some .int) RD 1 := ⟨wT2 102 rfl rfl, wT2 103 rfl rfl, wT1 1 rfl rfl, wT2 104 rfl rfl, ⟨rfl, by decide, by decide, by decide +kernel⟩⟩
theorem me_D_register : me_ yD_register bD_register 3 (some .int) RD 1 := ⟨wT3 139 rfl rfl, wT3 140 rfl rfl, wT1 1 rfl rfl, wT3 141 rfl rfl, ⟨rfl, by decide, by decide, by decide +kernel⟩⟩
theorem me_N_obey : me_ yN_obey bN_obey 4 none RN 1 := ⟨wT3 53 rfl rfl, wP2 (n := 13) 3 rfl, wT1 5 rfl rfl, wT3 54 rfl rfl, ⟨rfl, by decide, by decide, by decide +kernel⟩⟩
theorem me_Q_instruction : me_ yQ_instruction bQ_instruction 2 none RQ 0 := ⟨wT4 155 rfl rfl, wP4 (n := 30) 9 rfl, wT1 7 rfl rfl, wT4 156 rfl rfl, ⟨rfl, by decide, by decide, by decide +kernel⟩⟩
theorem me_N_step : me_ yN_step bN_step 3 none RN 0 := ⟨wT3 8 rfl rfl, wT3 9 rfl rfl, wT1 5 rfl rfl, wT3 10 rfl rfl, ⟨rfl, by decide, by decide, by decide +kernel⟩⟩
theorem me_Q_step : me_ yQ_step bQ_step 3 none RQ 0 := ⟨wT4 135 rfl rfl, wP4 (n := 30) 4 rfl, wT1 7 rfl rfl, wT4 136 rfl rfl, ⟨rfl, by decide, by decide, by decide +kernel⟩⟩
theorem me_D_run : me_ yD_run bD_run 3 (some .int) RD 1 := ⟨wT3 0 rfl rfl, wT3 1 rfl rfl, wT1 1 rfl rfl, wT3 2 rfl rfl, ⟨rfl, by decide, by decide, by decide +kernel⟩⟩
theorem me_Q_run : me_ yQ_run bQ_run 3 (some .int) RQ 1 := ⟨wT4 130 rfl rfl, wT4 131 rfl rfl, wT1 7 rfl rfl, wT4 132 rfl rfl, ⟨rfl, by decide, by decide, by decide +kernel⟩⟩
theorem me_D_keepTried : me_ yD_keepTried bD_keepTried 2 none RD 0 := ⟨wT2 150 rfl rfl, wP1 (n := 6) 7 rfl, wT1 1 rfl rfl, wT2 151 rfl rfl, ⟨rfl, by decide, by decide, by decide +kernel⟩⟩
