theorem dX6_takes_174 : decode cX6_takes 174 = .ok (.getfield 30, 3) := by decide +kernel
theorem dX6_takes_177 : decode cX6_takes 177 = .ok (.bipush 6, 2) := by decide +kernel
theorem dX6_takes_179 : decode cX6_takes 179 = .ok (.iload 8, 2) := by decide +kernel
theorem dX6_takes_181 : decode cX6_takes 181 = .ok (.imul, 1) := by decide +kernel
theorem dX6_takes_182 : decode cX6_takes 182 = .ok (.iconst 3, 1) := by decide +kernel
theorem dX6_takes_183 : decode cX6_takes 183 = .ok (.iadd, 1) := by decide +kernel
theorem dX6_takes_184 : decode cX6_takes 184 = .ok (.iload 5, 2) := by decide +kernel
theorem dX6_takes_186 : decode cX6_takes 186 = .ok (.iastore, 1) := by decide +kernel
theorem dX6_takes_187 : decode cX6_takes 187 = .ok (.aload_n 0, 1) := by decide +kernel
theorem dX6_takes_188 : decode cX6_takes 188 = .ok (.getfield 30, 3) := by decide +kernel
theorem dX6_takes_191 : decode cX6_takes 191 = .ok (.bipush 6, 2) := by decide +kernel
theorem dX6_takes_193 : decode cX6_takes 193 = .ok (.iload 8, 2) := by decide +kernel
theorem dX6_takes_195 : decode cX6_takes 195 = .ok (.imul, 1) := by decide +kernel
theorem dX6_takes_196 : decode cX6_takes 196 = .ok (.iconst 4, 1) := by decide +kernel
theorem dX6_takes_197 : decode cX6_takes 197 = .ok (.iadd, 1) := by decide +kernel
theorem dX6_takes_198 : decode cX6_takes 198 = .ok (.iload 6, 2) := by decide +kernel
theorem dX6_takes_200 : decode cX6_takes 200 = .ok (.iastore, 1) := by decide +kernel
theorem dX6_takes_201 : decode cX6_takes 201 = .ok (.aload_n 0, 1) := by decide +kernel
theorem dX6_takes_202 : decode cX6_takes 202 = .ok (.getfield 30, 3) := by decide +kernel
theorem dX6_takes_205 : decode cX6_takes 205 = .ok (.bipush 6, 2) := by decide +kernel
theorem dX6_takes_207 : decode cX6_takes 207 = .ok (.iload 8, 2) := by decide +kernel
theorem dX6_takes_209 : decode cX6_takes 209 = .ok (.imul, 1) := by decide +kernel
theorem dX6_takes_210 : decode cX6_takes 210 = .ok (.iconst 5, 1) := by decide +kernel
theorem dX6_takes_211 : decode cX6_takes 211 = .ok (.iadd, 1) := by decide +kernel
theorem dX6_takes_212 : decode cX6_takes 212 = .ok (.iload 7, 2) := by decide +kernel
theorem dX6_takes_214 : decode cX6_takes 214 = .ok (.iastore, 1) := by decide +kernel
theorem dX6_takes_215 : decode cX6_takes 215 = .ok (.aload_n 0, 1) := by decide +kernel
theorem dX6_takes_216 : decode cX6_takes 216 = .ok (.iload_n 1, 1) := by decide +kernel
theorem dX6_takes_217 : decode cX6_takes 217 = .ok (.iload_n 2, 1) := by decide +kernel
theorem dX6_takes_218 : decode cX6_takes 218 = .ok (.invokevirtual 98, 3) := by decide +kernel
theorem dX6_takes_221 : decode cX6_takes 221 = .ok (.iconst 0, 1) := by decide +kernel
theorem dX6_takes_222 : decode cX6_takes 222 = .ok (.istore 11, 2) := by decide +kernel
theorem dX6_takes_224 : decode cX6_takes 224 = .ok (.iload 11, 2) := by decide +kernel
theorem dX6_takes_226 : decode cX6_takes 226 = .ok (.aload_n 0, 1) := by decide +kernel
theorem dX6_takes_227 : decode cX6_takes 227 = .ok (.getfield 17, 3) := by decide +kernel
theorem dX6_takes_230 : decode cX6_takes 230 = .ok (.iload_n 2, 1) := by decide +kernel
theorem dX6_takes_231 : decode cX6_takes 231 = .ok (.iaload, 1) := by decide +kernel
theorem dX6_takes_232 : decode cX6_takes 232 = .ok (.if_icmp .ge 29, 3) := by decide +kernel
theorem dX6_takes_235 : decode cX6_takes 235 = .ok (.aload_n 0, 1) := by decide +kernel
theorem dX6_takes_236 : decode cX6_takes 236 = .ok (.getfield 33, 3) := by decide +kernel
theorem dX6_takes_239 : decode cX6_takes 239 = .ok (.bipush 8, 2) := by decide +kernel
theorem dX6_takes_241 : decode cX6_takes 241 = .ok (.iload 8, 2) := by decide +kernel
theorem dX6_takes_243 : decode cX6_takes 243 = .ok (.imul, 1) := by decide +kernel
theorem dX6_takes_244 : decode cX6_takes 244 = .ok (.iload 11, 2) := by decide +kernel
theorem dX6_takes_246 : decode cX6_takes 246 = .ok (.iadd, 1) := by decide +kernel
theorem dX6_takes_247 : decode cX6_takes 247 = .ok (.aload_n 0, 1) := by decide +kernel
theorem dX6_takes_248 : decode cX6_takes 248 = .ok (.getfield 45, 3) := by decide +kernel
theorem dX6_takes_251 : decode cX6_takes 251 = .ok (.iload 11, 2) := by decide +kernel
theorem dX6_takes_253 : decode cX6_takes 253 = .ok (.iaload, 1) := by decide +kernel
theorem dX6_takes_254 : decode cX6_takes 254 = .ok (.iastore, 1) := by decide +kernel
theorem dX6_takes_255 : decode cX6_takes 255 = .ok (.iinc 11 1, 3) := by decide +kernel
theorem dX6_takes_258 : decode cX6_takes 258 = .ok (.goto (-34), 3) := by decide +kernel
theorem dX6_takes_261 : decode cX6_takes 261 = .ok (.iload 9, 2) := by decide +kernel
theorem dX6_takes_263 : decode cX6_takes 263 = .ok (.ireturn, 1) := by decide +kernel
theorem dX6_hasLay_0 : decode cX6_hasLay 0 = .ok (.aload_n 0, 1) := by decide +kernel
theorem dX6_hasLay_1 : decode cX6_hasLay 1 = .ok (.iload_n 1, 1) := by decide +kernel
theorem dX6_hasLay_2 : decode cX6_hasLay 2 = .ok (.iload_n 2, 1) := by decide +kernel
theorem dX6_hasLay_3 : decode cX6_hasLay 3 = .ok (.invokevirtual 102, 3) := by decide +kernel
theorem dX6_hasLay_6 : decode cX6_hasLay 6 = .ok (.aload_n 0, 1) := by decide +kernel
theorem dX6_hasLay_7 : decode cX6_hasLay 7 = .ok (.getfield 30, 3) := by decide +kernel
theorem dX6_hasLay_10 : decode cX6_hasLay 10 = .ok (.bipush 6, 2) := by decide +kernel
theorem dX6_hasLay_12 : decode cX6_hasLay 12 = .ok (.iconst 5, 1) := by decide +kernel
theorem dX6_hasLay_13 : decode cX6_hasLay 13 = .ok (.iload_n 1, 1) := by decide +kernel
theorem dX6_hasLay_14 : decode cX6_hasLay 14 = .ok (.imul, 1) := by decide +kernel
theorem dX6_hasLay_15 : decode cX6_hasLay 15 = .ok (.iload_n 2, 1) := by decide +kernel
theorem dX6_hasLay_16 : decode cX6_hasLay 16 = .ok (.iadd, 1) := by decide +kernel
theorem dX6_hasLay_17 : decode cX6_hasLay 17 = .ok (.imul, 1) := by decide +kernel
theorem dX6_hasLay_18 : decode cX6_hasLay 18 = .ok (.iaload, 1) := by decide +kernel
theorem dX6_hasLay_19 : decode cX6_hasLay 19 = .ok (.iconst (-1), 1) := by decide +kernel
theorem dX6_hasLay_20 : decode cX6_hasLay 20 = .ok (.if_icmp .eq 7, 3) := by decide +kernel
theorem dX6_hasLay_23 : decode cX6_hasLay 23 = .ok (.iconst 1, 1) := by decide +kernel
theorem dX6_hasLay_24 : decode cX6_hasLay 24 = .ok (.goto 4, 3) := by decide +kernel
theorem dX6_hasLay_27 : decode cX6_hasLay 27 = .ok (.iconst 0, 1) := by decide +kernel
theorem dX6_hasLay_28 : decode cX6_hasLay 28 = .ok (.ireturn, 1) := by decide +kernel
theorem dX6_lay_0 : decode cX6_lay 0 = .ok (.aload_n 0, 1) := by decide +kernel
theorem dX6_lay_1 : decode cX6_lay 1 = .ok (.iload_n 1, 1) := by decide +kernel
theorem dX6_lay_2 : decode cX6_lay 2 = .ok (.invokevirtual 58, 3) := by decide +kernel
theorem dX6_lay_5 : decode cX6_lay 5 = .ok (.ifCond .eq 52, 3) := by decide +kernel
theorem dX6_lay_8 : decode cX6_lay 8 = .ok (.aload_n 0, 1) := by decide +kernel
theorem dX6_lay_9 : decode cX6_lay 9 = .ok (.iload_n 2, 1) := by decide +kernel
theorem dX6_lay_10 : decode cX6_lay 10 = .ok (.invokevirtual 58, 3) := by decide +kernel
theorem dX6_lay_13 : decode cX6_lay 13 = .ok (.ifCond .eq 44, 3) := by decide +kernel
theorem dX6_lay_16 : decode cX6_lay 16 = .ok (.iload_n 1, 1) := by decide +kernel
theorem dX6_lay_17 : decode cX6_lay 17 = .ok (.iload_n 2, 1) := by decide +kernel
theorem dX6_lay_18 : decode cX6_lay 18 = .ok (.if_icmp .eq 39, 3) := by decide +kernel
theorem dX6_lay_21 : decode cX6_lay 21 = .ok (.iload_n 3, 1) := by decide +kernel
theorem dX6_lay_22 : decode cX6_lay 22 = .ok (.iconst 0, 1) := by decide +kernel
theorem dX6_lay_23 : decode cX6_lay 23 = .ok (.iconst 5, 1) := by decide +kernel
theorem dX6_lay_24 : decode cX6_lay 24 = .ok (.invokestatic 51, 3) := by decide +kernel
theorem dX6_lay_27 : decode cX6_lay 27 = .ok (.ifCond .eq 30, 3) := by decide +kernel
theorem dX6_lay_30 : decode cX6_lay 30 = .ok (.aload_n 0, 1) := by decide +kernel
theorem dX6_lay_31 : decode cX6_lay 31 = .ok (.iload_n 1, 1) := by decide +kernel
theorem dX6_lay_32 : decode cX6_lay 32 = .ok (.iload_n 2, 1) := by decide +kernel
theorem dX6_lay_33 : decode cX6_lay 33 = .ok (.invokevirtual 105, 3) := by decide +kernel
theorem dX6_lay_36 : decode cX6_lay 36 = .ok (.ifCond .eq 21, 3) := by decide +kernel
theorem dX6_lay_39 : decode cX6_lay 39 = .ok (.aload_n 0, 1) := by decide +kernel
theorem dX6_lay_40 : decode cX6_lay 40 = .ok (.getfield 30, 3) := by decide +kernel
theorem dX6_lay_43 : decode cX6_lay 43 = .ok (.bipush 6, 2) := by decide +kernel
theorem dX6_lay_45 : decode cX6_lay 45 = .ok (.iconst 5, 1) := by decide +kernel
theorem dX6_lay_46 : decode cX6_lay 46 = .ok (.iload_n 1, 1) := by decide +kernel
theorem dX6_lay_47 : decode cX6_lay 47 = .ok (.imul, 1) := by decide +kernel
theorem dX6_lay_48 : decode cX6_lay 48 = .ok (.iload_n 2, 1) := by decide +kernel
theorem dX6_lay_49 : decode cX6_lay 49 = .ok (.iadd, 1) := by decide +kernel
theorem dX6_lay_50 : decode cX6_lay 50 = .ok (.imul, 1) := by decide +kernel
theorem dX6_lay_51 : decode cX6_lay 51 = .ok (.iload_n 3, 1) := by decide +kernel
theorem dX6_lay_52 : decode cX6_lay 52 = .ok (.iadd, 1) := by decide +kernel
theorem dX6_lay_53 : decode cX6_lay 53 = .ok (.iaload, 1) := by decide +kernel
theorem dX6_lay_54 : decode cX6_lay 54 = .ok (.goto 6, 3) := by decide +kernel
theorem dX6_lay_57 : decode cX6_lay 57 = .ok (.sipush (-10000), 3) := by decide +kernel
theorem dX6_lay_60 : decode cX6_lay 60 = .ok (.ireturn, 1) := by decide +kernel
theorem dX6_pair_0 : decode cX6_pair 0 = .ok (.aload_n 0, 1) := by decide +kernel
theorem dX6_pair_1 : decode cX6_pair 1 = .ok (.iload_n 1, 1) := by decide +kernel
theorem dX6_pair_2 : decode cX6_pair 2 = .ok (.invokevirtual 58, 3) := by decide +kernel
theorem dX6_pair_5 : decode cX6_pair 5 = .ok (.ifCond .eq 59, 3) := by decide +kernel
theorem dX6_pair_8 : decode cX6_pair 8 = .ok (.aload_n 0, 1) := by decide +kernel
theorem dX6_pair_9 : decode cX6_pair 9 = .ok (.iload_n 2, 1) := by decide +kernel
theorem dX6_pair_10 : decode cX6_pair 10 = .ok (.invokevirtual 58, 3) := by decide +kernel
theorem dX6_pair_13 : decode cX6_pair 13 = .ok (.ifCond .eq 51, 3) := by decide +kernel
theorem dX6_pair_16 : decode cX6_pair 16 = .ok (.iload_n 1, 1) := by decide +kernel
theorem dX6_pair_17 : decode cX6_pair 17 = .ok (.iload_n 2, 1) := by decide +kernel
theorem dX6_pair_18 : decode cX6_pair 18 = .ok (.if_icmp .eq 46, 3) := by decide +kernel
theorem dX6_pair_21 : decode cX6_pair 21 = .ok (.iload_n 3, 1) := by decide +kernel
theorem dX6_pair_22 : decode cX6_pair 22 = .ok (.iconst 0, 1) := by decide +kernel
theorem dX6_pair_23 : decode cX6_pair 23 = .ok (.aload_n 0, 1) := by decide +kernel
theorem dX6_pair_24 : decode cX6_pair 24 = .ok (.getfield 17, 3) := by decide +kernel
theorem dX6_pair_27 : decode cX6_pair 27 = .ok (.iload_n 2, 1) := by decide +kernel
theorem dX6_pair_28 : decode cX6_pair 28 = .ok (.iaload, 1) := by decide +kernel
theorem dX6_pair_29 : decode cX6_pair 29 = .ok (.iconst 1, 1) := by decide +kernel
theorem dX6_pair_30 : decode cX6_pair 30 = .ok (.isub, 1) := by decide +kernel
theorem dX6_pair_31 : decode cX6_pair 31 = .ok (.invokestatic 51, 3) := by decide +kernel
theorem dX6_pair_34 : decode cX6_pair 34 = .ok (.ifCond .eq 30, 3) := by decide +kernel
theorem dX6_pair_37 : decode cX6_pair 37 = .ok (.aload_n 0, 1) := by decide +kernel
theorem dX6_pair_38 : decode cX6_pair 38 = .ok (.iload_n 1, 1) := by decide +kernel
theorem dX6_pair_39 : decode cX6_pair 39 = .ok (.iload_n 2, 1) := by decide +kernel
theorem dX6_pair_40 : decode cX6_pair 40 = .ok (.invokevirtual 105, 3) := by decide +kernel
theorem dX6_pair_43 : decode cX6_pair 43 = .ok (.ifCond .eq 21, 3) := by decide +kernel
theorem dX6_pair_46 : decode cX6_pair 46 = .ok (.aload_n 0, 1) := by decide +kernel
theorem dX6_pair_47 : decode cX6_pair 47 = .ok (.getfield 33, 3) := by decide +kernel
theorem dX6_pair_50 : decode cX6_pair 50 = .ok (.bipush 8, 2) := by decide +kernel
theorem dX6_pair_52 : decode cX6_pair 52 = .ok (.iconst 5, 1) := by decide +kernel
theorem dX6_pair_53 : decode cX6_pair 53 = .ok (.iload_n 1, 1) := by decide +kernel
theorem dX6_pair_54 : decode cX6_pair 54 = .ok (.imul, 1) := by decide +kernel
theorem dX6_pair_55 : decode cX6_pair 55 = .ok (.iload_n 2, 1) := by decide +kernel
theorem dX6_pair_56 : decode cX6_pair 56 = .ok (.iadd, 1) := by decide +kernel
theorem dX6_pair_57 : decode cX6_pair 57 = .ok (.imul, 1) := by decide +kernel
theorem dX6_pair_58 : decode cX6_pair 58 = .ok (.iload_n 3, 1) := by decide +kernel
theorem dX6_pair_59 : decode cX6_pair 59 = .ok (.iadd, 1) := by decide +kernel
theorem dX6_pair_60 : decode cX6_pair 60 = .ok (.iaload, 1) := by decide +kernel
theorem dX6_pair_61 : decode cX6_pair 61 = .ok (.goto 4, 3) := by decide +kernel
theorem dX6_pair_64 : decode cX6_pair 64 = .ok (.iconst (-1), 1) := by decide +kernel
theorem dX6_pair_65 : decode cX6_pair 65 = .ok (.ireturn, 1) := by decide +kernel
theorem dX6_frame_0 : decode cX6_frame 0 = .ok (.iconst (-1), 1) := by decide +kernel
theorem dX6_frame_1 : decode cX6_frame 1 = .ok (.istore_n 1, 1) := by decide +kernel
theorem dX6_frame_2 : decode cX6_frame 2 = .ok (.iconst 0, 1) := by decide +kernel
theorem dX6_frame_3 : decode cX6_frame 3 = .ok (.istore_n 2, 1) := by decide +kernel
theorem dX6_frame_4 : decode cX6_frame 4 = .ok (.iload_n 2, 1) := by decide +kernel
theorem dX6_frame_5 : decode cX6_frame 5 = .ok (.aload_n 0, 1) := by decide +kernel
theorem dX6_frame_6 : decode cX6_frame 6 = .ok (.getfield 48, 3) := by decide +kernel
theorem dX6_frame_9 : decode cX6_frame 9 = .ok (.if_icmp .ge 31, 3) := by decide +kernel
theorem dX6_frame_12 : decode cX6_frame 12 = .ok (.iload_n 1, 1) := by decide +kernel
theorem dX6_frame_13 : decode cX6_frame 13 = .ok (.iconst (-1), 1) := by decide +kernel
theorem dX6_frame_14 : decode cX6_frame 14 = .ok (.if_icmp .eq 18, 3) := by decide +kernel
theorem dX6_frame_17 : decode cX6_frame 17 = .ok (.aload_n 0, 1) := by decide +kernel
theorem dX6_frame_18 : decode cX6_frame 18 = .ok (.getfield 13, 3) := by decide +kernel
theorem dX6_frame_21 : decode cX6_frame 21 = .ok (.iload_n 2, 1) := by decide +kernel
theorem dX6_frame_22 : decode cX6_frame 22 = .ok (.iaload, 1) := by decide +kernel
theorem dX6_frame_23 : decode cX6_frame 23 = .ok (.aload_n 0, 1) := by decide +kernel
theorem dX6_frame_24 : decode cX6_frame 24 = .ok (.getfield 13, 3) := by decide +kernel
theorem dX6_frame_27 : decode cX6_frame 27 = .ok (.iload_n 1, 1) := by decide +kernel
theorem dX6_frame_28 : decode cX6_frame 28 = .ok (.iaload, 1) := by decide +kernel
theorem dX6_frame_29 : decode cX6_frame 29 = .ok (.if_icmp .ge 5, 3) := by decide +kernel
theorem dX6_frame_32 : decode cX6_frame 32 = .ok (.iload_n 2, 1) := by decide +kernel
theorem dX6_frame_33 : decode cX6_frame 33 = .ok (.istore_n 1, 1) := by decide +kernel
theorem dX6_frame_34 : decode cX6_frame 34 = .ok (.iinc 2 1, 3) := by decide +kernel
theorem dX6_frame_37 : decode cX6_frame 37 = .ok (.goto (-33), 3) := by decide +kernel
theorem dX6_frame_40 : decode cX6_frame 40 = .ok (.iload_n 1, 1) := by decide +kernel
theorem dX6_frame_41 : decode cX6_frame 41 = .ok (.ireturn, 1) := by decide +kernel
theorem dX6_tracks_0 : decode cX6_tracks 0 = .ok (.aload_n 0, 1) := by decide +kernel
theorem dX6_tracks_1 : decode cX6_tracks 1 = .ok (.getfield 48, 3) := by decide +kernel
theorem dX6_tracks_4 : decode cX6_tracks 4 = .ok (.ifCond .ne 7, 3) := by decide +kernel
theorem dX6_tracks_7 : decode cX6_tracks 7 = .ok (.iconst 0, 1) := by decide +kernel
theorem dX6_tracks_8 : decode cX6_tracks 8 = .ok (.goto 12, 3) := by decide +kernel
theorem dX6_tracks_11 : decode cX6_tracks 11 = .ok (.aload_n 0, 1) := by decide +kernel
theorem dX6_tracks_12 : decode cX6_tracks 12 = .ok (.getfield 17, 3) := by decide +kernel
theorem dX6_tracks_15 : decode cX6_tracks 15 = .ok (.aload_n 0, 1) := by decide +kernel
theorem dX6_tracks_16 : decode cX6_tracks 16 = .ok (.invokevirtual 109, 3) := by decide +kernel
theorem dX6_tracks_19 : decode cX6_tracks 19 = .ok (.iaload, 1) := by decide +kernel
theorem dX6_tracks_20 : decode cX6_tracks 20 = .ok (.ireturn, 1) := by decide +kernel
theorem dX6_spotOf_0 : decode cX6_spotOf 0 = .ok (.aload_n 0, 1) := by decide +kernel
theorem dX6_spotOf_1 : decode cX6_spotOf 1 = .ok (.invokevirtual 109, 3) := by decide +kernel
theorem dX6_spotOf_4 : decode cX6_spotOf 4 = .ok (.istore_n 3, 1) := by decide +kernel
theorem dX6_spotOf_5 : decode cX6_spotOf 5 = .ok (.iload_n 2, 1) := by decide +kernel
theorem dX6_spotOf_6 : decode cX6_spotOf 6 = .ok (.iload_n 3, 1) := by decide +kernel
theorem dX6_spotOf_7 : decode cX6_spotOf 7 = .ok (.if_icmp .ne 5, 3) := by decide +kernel
theorem dX6_spotOf_10 : decode cX6_spotOf 10 = .ok (.iload_n 1, 1) := by decide +kernel
theorem dX6_spotOf_11 : decode cX6_spotOf 11 = .ok (.ireturn, 1) := by decide +kernel
theorem dX6_spotOf_12 : decode cX6_spotOf 12 = .ok (.aload_n 0, 1) := by decide +kernel
theorem dX6_spotOf_13 : decode cX6_spotOf 13 = .ok (.iload_n 3, 1) := by decide +kernel
theorem dX6_spotOf_14 : decode cX6_spotOf 14 = .ok (.iload_n 2, 1) := by decide +kernel
theorem dX6_spotOf_15 : decode cX6_spotOf 15 = .ok (.invokevirtual 105, 3) := by decide +kernel
theorem dX6_spotOf_18 : decode cX6_spotOf 18 = .ok (.ifCond .ne 5, 3) := by decide +kernel
theorem dX6_spotOf_21 : decode cX6_spotOf 21 = .ok (.iconst (-1), 1) := by decide +kernel
theorem dX6_spotOf_22 : decode cX6_spotOf 22 = .ok (.ireturn, 1) := by decide +kernel
theorem dX6_spotOf_23 : decode cX6_spotOf 23 = .ok (.iconst 0, 1) := by decide +kernel
theorem dX6_spotOf_24 : decode cX6_spotOf 24 = .ok (.istore 4, 2) := by decide +kernel
theorem dX6_spotOf_26 : decode cX6_spotOf 26 = .ok (.iload 4, 2) := by decide +kernel
theorem dX6_spotOf_28 : decode cX6_spotOf 28 = .ok (.aload_n 0, 1) := by decide +kernel
theorem dX6_spotOf_29 : decode cX6_spotOf 29 = .ok (.getfield 17, 3) := by decide +kernel
theorem dX6_spotOf_32 : decode cX6_spotOf 32 = .ok (.iload_n 2, 1) := by decide +kernel
theorem dX6_spotOf_33 : decode cX6_spotOf 33 = .ok (.iaload, 1) := by decide +kernel
theorem dX6_spotOf_34 : decode cX6_spotOf 34 = .ok (.if_icmp .ge 32, 3) := by decide +kernel
theorem dX6_spotOf_37 : decode cX6_spotOf 37 = .ok (.aload_n 0, 1) := by decide +kernel
theorem dX6_spotOf_38 : decode cX6_spotOf 38 = .ok (.getfield 33, 3) := by decide +kernel
theorem dX6_spotOf_41 : decode cX6_spotOf 41 = .ok (.bipush 8, 2) := by decide +kernel
theorem dX6_spotOf_43 : decode cX6_spotOf 43 = .ok (.iconst 5, 1) := by decide +kernel
theorem dX6_spotOf_44 : decode cX6_spotOf 44 = .ok (.iload_n 3, 1) := by decide +kernel
theorem dX6_spotOf_45 : decode cX6_spotOf 45 = .ok (.imul, 1) := by decide +kernel
theorem dX6_spotOf_46 : decode cX6_spotOf 46 = .ok (.iload_n 2, 1) := by decide +kernel
theorem dX6_spotOf_47 : decode cX6_spotOf 47 = .ok (.iadd, 1) := by decide +kernel
theorem dX6_spotOf_48 : decode cX6_spotOf 48 = .ok (.imul, 1) := by decide +kernel
theorem dX6_spotOf_49 : decode cX6_spotOf 49 = .ok (.iload 4, 2) := by decide +kernel
theorem dX6_spotOf_51 : decode cX6_spotOf 51 = .ok (.iadd, 1) := by decide +kernel
theorem dX6_spotOf_52 : decode cX6_spotOf 52 = .ok (.iaload, 1) := by decide +kernel
theorem dX6_spotOf_53 : decode cX6_spotOf 53 = .ok (.iload_n 1, 1) := by decide +kernel
theorem dX6_spotOf_54 : decode cX6_spotOf 54 = .ok (.if_icmp .ne 6, 3) := by decide +kernel
theorem dX6_spotOf_57 : decode cX6_spotOf 57 = .ok (.iload 4, 2) := by decide +kernel
theorem dX6_spotOf_59 : decode cX6_spotOf 59 = .ok (.ireturn, 1) := by decide +kernel
theorem dX6_spotOf_60 : decode cX6_spotOf 60 = .ok (.iinc 4 1, 3) := by decide +kernel
theorem dX6_spotOf_63 : decode cX6_spotOf 63 = .ok (.goto (-37), 3) := by decide +kernel
theorem dX6_spotOf_66 : decode cX6_spotOf 66 = .ok (.iconst (-1), 1) := by decide +kernel
theorem dX6_spotOf_67 : decode cX6_spotOf 67 = .ok (.ireturn, 1) := by decide +kernel
theorem dX6_isTrack_0 : decode cX6_isTrack 0 = .ok (.iload_n 1, 1) := by decide +kernel
theorem dX6_isTrack_1 : decode cX6_isTrack 1 = .ok (.iconst 0, 1) := by decide +kernel
theorem dX6_isTrack_2 : decode cX6_isTrack 2 = .ok (.aload_n 0, 1) := by decide +kernel
theorem dX6_isTrack_3 : decode cX6_isTrack 3 = .ok (.invokevirtual 113, 3) := by decide +kernel
theorem dX6_isTrack_6 : decode cX6_isTrack 6 = .ok (.iconst 1, 1) := by decide +kernel
theorem dX6_isTrack_7 : decode cX6_isTrack 7 = .ok (.isub, 1) := by decide +kernel
theorem dX6_isTrack_8 : decode cX6_isTrack 8 = .ok (.invokestatic 51, 3) := by decide +kernel
theorem dX6_isTrack_11 : decode cX6_isTrack 11 = .ok (.ireturn, 1) := by decide +kernel
theorem dX6_track_0 : decode cX6_track 0 = .ok (.aload_n 0, 1) := by decide +kernel
theorem dX6_track_1 : decode cX6_track 1 = .ok (.iload_n 1, 1) := by decide +kernel
theorem dX6_track_2 : decode cX6_track 2 = .ok (.invokevirtual 116, 3) := by decide +kernel
theorem dX6_track_5 : decode cX6_track 5 = .ok (.ifCond .eq 20, 3) := by decide +kernel
theorem dX6_track_8 : decode cX6_track 8 = .ok (.aload_n 0, 1) := by decide +kernel
theorem dX6_track_9 : decode cX6_track 9 = .ok (.iload_n 2, 1) := by decide +kernel
theorem dX6_track_10 : decode cX6_track 10 = .ok (.invokevirtual 58, 3) := by decide +kernel
theorem dX6_track_13 : decode cX6_track 13 = .ok (.ifCond .eq 12, 3) := by decide +kernel
theorem dX6_track_16 : decode cX6_track 16 = .ok (.aload_n 0, 1) := by decide +kernel
theorem dX6_track_17 : decode cX6_track 17 = .ok (.iload_n 1, 1) := by decide +kernel
theorem dX6_track_18 : decode cX6_track 18 = .ok (.iload_n 2, 1) := by decide +kernel
theorem dX6_track_19 : decode cX6_track 19 = .ok (.invokevirtual 119, 3) := by decide +kernel
theorem dX6_track_22 : decode cX6_track 22 = .ok (.goto 4, 3) := by decide +kernel
theorem dX6_track_25 : decode cX6_track 25 = .ok (.iconst (-1), 1) := by decide +kernel
theorem dX6_track_26 : decode cX6_track 26 = .ok (.ireturn, 1) := by decide +kernel
theorem dX6_onFrame_0 : decode cX6_onFrame 0 = .ok (.aload_n 0, 1) := by decide +kernel
theorem dX6_onFrame_1 : decode cX6_onFrame 1 = .ok (.invokevirtual 109, 3) := by decide +kernel
theorem dX6_onFrame_4 : decode cX6_onFrame 4 = .ok (.istore 4, 2) := by decide +kernel
theorem dX6_onFrame_6 : decode cX6_onFrame 6 = .ok (.iload_n 1, 1) := by decide +kernel
theorem dX6_onFrame_7 : decode cX6_onFrame 7 = .ok (.iload 4, 2) := by decide +kernel
theorem dX6_onFrame_9 : decode cX6_onFrame 9 = .ok (.if_icmp .ne 33, 3) := by decide +kernel
theorem dX6_onFrame_12 : decode cX6_onFrame 12 = .ok (.iload_n 3, 1) := by decide +kernel
theorem dX6_onFrame_13 : decode cX6_onFrame 13 = .ok (.ifCond .ne 17, 3) := by decide +kernel
theorem dX6_onFrame_16 : decode cX6_onFrame 16 = .ok (.aload_n 0, 1) := by decide +kernel
theorem dX6_onFrame_17 : decode cX6_onFrame 17 = .ok (.getfield 20, 3) := by decide +kernel
theorem dX6_onFrame_20 : decode cX6_onFrame 20 = .ok (.bipush 8, 2) := by decide +kernel
theorem dX6_onFrame_22 : decode cX6_onFrame 22 = .ok (.iload_n 1, 1) := by decide +kernel
theorem dX6_onFrame_23 : decode cX6_onFrame 23 = .ok (.imul, 1) := by decide +kernel
theorem dX6_onFrame_24 : decode cX6_onFrame 24 = .ok (.iload_n 2, 1) := by decide +kernel
theorem dX6_onFrame_25 : decode cX6_onFrame 25 = .ok (.iadd, 1) := by decide +kernel
theorem dX6_onFrame_26 : decode cX6_onFrame 26 = .ok (.iaload, 1) := by decide +kernel
theorem dX6_onFrame_27 : decode cX6_onFrame 27 = .ok (.goto 14, 3) := by decide +kernel
theorem dX6_onFrame_30 : decode cX6_onFrame 30 = .ok (.aload_n 0, 1) := by decide +kernel
theorem dX6_onFrame_31 : decode cX6_onFrame 31 = .ok (.getfield 23, 3) := by decide +kernel
theorem dX6_onFrame_34 : decode cX6_onFrame 34 = .ok (.bipush 8, 2) := by decide +kernel
theorem dX6_onFrame_36 : decode cX6_onFrame 36 = .ok (.iload_n 1, 1) := by decide +kernel
theorem dX6_onFrame_37 : decode cX6_onFrame 37 = .ok (.imul, 1) := by decide +kernel
theorem dX6_onFrame_38 : decode cX6_onFrame 38 = .ok (.iload_n 2, 1) := by decide +kernel
theorem dX6_onFrame_39 : decode cX6_onFrame 39 = .ok (.iadd, 1) := by decide +kernel
theorem dX6_onFrame_40 : decode cX6_onFrame 40 = .ok (.iaload, 1) := by decide +kernel
theorem dX6_onFrame_41 : decode cX6_onFrame 41 = .ok (.ireturn, 1) := by decide +kernel
theorem dX6_onFrame_42 : decode cX6_onFrame 42 = .ok (.bipush 6, 2) := by decide +kernel
theorem dX6_onFrame_44 : decode cX6_onFrame 44 = .ok (.iconst 5, 1) := by decide +kernel
theorem dX6_onFrame_45 : decode cX6_onFrame 45 = .ok (.iload 4, 2) := by decide +kernel
theorem dX6_onFrame_47 : decode cX6_onFrame 47 = .ok (.imul, 1) := by decide +kernel
theorem dX6_onFrame_48 : decode cX6_onFrame 48 = .ok (.iload_n 1, 1) := by decide +kernel
theorem dX6_onFrame_49 : decode cX6_onFrame 49 = .ok (.iadd, 1) := by decide +kernel
theorem dX6_onFrame_50 : decode cX6_onFrame 50 = .ok (.imul, 1) := by decide +kernel
theorem dX6_onFrame_51 : decode cX6_onFrame 51 = .ok (.istore 5, 2) := by decide +kernel
theorem dX6_onFrame_53 : decode cX6_onFrame 53 = .ok (.aload_n 0, 1) := by decide +kernel
theorem dX6_onFrame_54 : decode cX6_onFrame 54 = .ok (.getfield 30, 3) := by decide +kernel
theorem dX6_onFrame_57 : decode cX6_onFrame 57 = .ok (.iload 5, 2) := by decide +kernel
theorem dX6_onFrame_59 : decode cX6_onFrame 59 = .ok (.iconst 2, 1) := by decide +kernel
theorem dX6_onFrame_60 : decode cX6_onFrame 60 = .ok (.iadd, 1) := by decide +kernel
theorem dX6_onFrame_61 : decode cX6_onFrame 61 = .ok (.iaload, 1) := by decide +kernel
theorem dX6_onFrame_62 : decode cX6_onFrame 62 = .ok (.istore 6, 2) := by decide +kernel
theorem dX6_onFrame_64 : decode cX6_onFrame 64 = .ok (.iload_n 3, 1) := by decide +kernel
theorem dX6_onFrame_65 : decode cX6_onFrame 65 = .ok (.ifCond .ne 33, 3) := by decide +kernel
theorem dX6_onFrame_68 : decode cX6_onFrame 68 = .ok (.iload 6, 2) := by decide +kernel
theorem dX6_onFrame_70 : decode cX6_onFrame 70 = .ok (.aload_n 0, 1) := by decide +kernel
theorem dX6_onFrame_71 : decode cX6_onFrame 71 = .ok (.getfield 20, 3) := by decide +kernel
theorem dX6_onFrame_74 : decode cX6_onFrame 74 = .ok (.bipush 8, 2) := by decide +kernel
theorem dX6_onFrame_76 : decode cX6_onFrame 76 = .ok (.iload_n 1, 1) := by decide +kernel
theorem dX6_onFrame_77 : decode cX6_onFrame 77 = .ok (.imul, 1) := by decide +kernel
theorem dX6_onFrame_78 : decode cX6_onFrame 78 = .ok (.iload_n 2, 1) := by decide +kernel
theorem dX6_onFrame_79 : decode cX6_onFrame 79 = .ok (.iadd, 1) := by decide +kernel
theorem dX6_onFrame_80 : decode cX6_onFrame 80 = .ok (.iaload, 1) := by decide +kernel
theorem dX6_onFrame_81 : decode cX6_onFrame 81 = .ok (.aload_n 0, 1) := by decide +kernel
theorem dX6_onFrame_82 : decode cX6_onFrame 82 = .ok (.getfield 23, 3) := by decide +kernel
theorem dX6_onFrame_85 : decode cX6_onFrame 85 = .ok (.bipush 8, 2) := by decide +kernel
theorem dX6_onFrame_87 : decode cX6_onFrame 87 = .ok (.iload_n 1, 1) := by decide +kernel
theorem dX6_onFrame_88 : decode cX6_onFrame 88 = .ok (.imul, 1) := by decide +kernel
theorem dX6_onFrame_89 : decode cX6_onFrame 89 = .ok (.iload_n 2, 1) := by decide +kernel
theorem dX6_onFrame_90 : decode cX6_onFrame 90 = .ok (.iadd, 1) := by decide +kernel
theorem dX6_onFrame_91 : decode cX6_onFrame 91 = .ok (.iaload, 1) := by decide +kernel
theorem dX6_onFrame_92 : decode cX6_onFrame 92 = .ok (.invokestatic 66, 3) := by decide +kernel
theorem dX6_onFrame_95 : decode cX6_onFrame 95 = .ok (.goto 30, 3) := by decide +kernel
theorem dX6_onFrame_98 : decode cX6_onFrame 98 = .ok (.iload 6, 2) := by decide +kernel
theorem dX6_onFrame_100 : decode cX6_onFrame 100 = .ok (.aload_n 0, 1) := by decide +kernel
theorem dX6_onFrame_101 : decode cX6_onFrame 101 = .ok (.getfield 20, 3) := by decide +kernel
theorem dX6_onFrame_104 : decode cX6_onFrame 104 = .ok (.bipush 8, 2) := by decide +kernel
theorem dX6_onFrame_106 : decode cX6_onFrame 106 = .ok (.iload_n 1, 1) := by decide +kernel
theorem dX6_onFrame_107 : decode cX6_onFrame 107 = .ok (.imul, 1) := by decide +kernel
theorem dX6_onFrame_108 : decode cX6_onFrame 108 = .ok (.iload_n 2, 1) := by decide +kernel
theorem dX6_onFrame_109 : decode cX6_onFrame 109 = .ok (.iadd, 1) := by decide +kernel
theorem dX6_onFrame_110 : decode cX6_onFrame 110 = .ok (.iaload, 1) := by decide +kernel
theorem dX6_onFrame_111 : decode cX6_onFrame 111 = .ok (.aload_n 0, 1) := by decide +kernel
theorem dX6_onFrame_112 : decode cX6_onFrame 112 = .ok (.getfield 23, 3) := by decide +kernel
theorem dX6_onFrame_115 : decode cX6_onFrame 115 = .ok (.bipush 8, 2) := by decide +kernel
theorem dX6_onFrame_117 : decode cX6_onFrame 117 = .ok (.iload_n 1, 1) := by decide +kernel
theorem dX6_onFrame_118 : decode cX6_onFrame 118 = .ok (.imul, 1) := by decide +kernel
theorem dX6_onFrame_119 : decode cX6_onFrame 119 = .ok (.iload_n 2, 1) := by decide +kernel
theorem dX6_onFrame_120 : decode cX6_onFrame 120 = .ok (.iadd, 1) := by decide +kernel
theorem dX6_onFrame_121 : decode cX6_onFrame 121 = .ok (.iaload, 1) := by decide +kernel
theorem dX6_onFrame_122 : decode cX6_onFrame 122 = .ok (.invokestatic 70, 3) := by decide +kernel
theorem dX6_onFrame_125 : decode cX6_onFrame 125 = .ok (.istore 7, 2) := by decide +kernel
theorem dX6_onFrame_127 : decode cX6_onFrame 127 = .ok (.aload_n 0, 1) := by decide +kernel
theorem dX6_onFrame_128 : decode cX6_onFrame 128 = .ok (.getfield 30, 3) := by decide +kernel
theorem dX6_onFrame_131 : decode cX6_onFrame 131 = .ok (.iload 5, 2) := by decide +kernel
theorem dX6_onFrame_133 : decode cX6_onFrame 133 = .ok (.iconst 3, 1) := by decide +kernel
theorem dX6_onFrame_134 : decode cX6_onFrame 134 = .ok (.iadd, 1) := by decide +kernel
theorem dX6_onFrame_135 : decode cX6_onFrame 135 = .ok (.iaload, 1) := by decide +kernel
theorem dX6_onFrame_136 : decode cX6_onFrame 136 = .ok (.iload 7, 2) := by decide +kernel
theorem dX6_onFrame_138 : decode cX6_onFrame 138 = .ok (.imul, 1) := by decide +kernel
theorem dX6_onFrame_139 : decode cX6_onFrame 139 = .ok (.aload_n 0, 1) := by decide +kernel
theorem dX6_onFrame_140 : decode cX6_onFrame 140 = .ok (.getfield 30, 3) := by decide +kernel
theorem dX6_onFrame_143 : decode cX6_onFrame 143 = .ok (.iload 5, 2) := by decide +kernel
theorem dX6_onFrame_145 : decode cX6_onFrame 145 = .ok (.iconst 4, 1) := by decide +kernel
theorem dX6_onFrame_146 : decode cX6_onFrame 146 = .ok (.iadd, 1) := by decide +kernel
theorem dX6_onFrame_147 : decode cX6_onFrame 147 = .ok (.iload_n 3, 1) := by decide +kernel
theorem dX6_onFrame_148 : decode cX6_onFrame 148 = .ok (.iadd, 1) := by decide +kernel
theorem dX6_onFrame_149 : decode cX6_onFrame 149 = .ok (.iaload, 1) := by decide +kernel
theorem dX6_onFrame_150 : decode cX6_onFrame 150 = .ok (.iadd, 1) := by decide +kernel
theorem dX6_onFrame_151 : decode cX6_onFrame 151 = .ok (.ireturn, 1) := by decide +kernel
theorem dX6_place_0 : decode cX6_place 0 = .ok (.aload_n 0, 1) := by decide +kernel
theorem dX6_place_1 : decode cX6_place 1 = .ok (.iload_n 1, 1) := by decide +kernel
theorem dX6_place_2 : decode cX6_place 2 = .ok (.invokevirtual 116, 3) := by decide +kernel
theorem dX6_place_5 : decode cX6_place 5 = .ok (.ifCond .eq 20, 3) := by decide +kernel
theorem dX6_place_8 : decode cX6_place 8 = .ok (.aload_n 0, 1) := by decide +kernel
theorem dX6_place_9 : decode cX6_place 9 = .ok (.iload_n 2, 1) := by decide +kernel
theorem dX6_place_10 : decode cX6_place 10 = .ok (.invokevirtual 58, 3) := by decide +kernel
theorem dX6_place_13 : decode cX6_place 13 = .ok (.ifCond .eq 12, 3) := by decide +kernel
theorem dX6_place_16 : decode cX6_place 16 = .ok (.iload_n 3, 1) := by decide +kernel
theorem dX6_place_17 : decode cX6_place 17 = .ok (.iconst 0, 1) := by decide +kernel
theorem dX6_place_18 : decode cX6_place 18 = .ok (.iconst 1, 1) := by decide +kernel
theorem dX6_place_19 : decode cX6_place 19 = .ok (.invokestatic 51, 3) := by decide +kernel
theorem dX6_place_22 : decode cX6_place 22 = .ok (.ifCond .ne 7, 3) := by decide +kernel
theorem dX6_place_25 : decode cX6_place 25 = .ok (.sipush (-10000), 3) := by decide +kernel
theorem dX6_place_28 : decode cX6_place 28 = .ok (.ireturn, 1) := by decide +kernel
theorem dX6_place_29 : decode cX6_place 29 = .ok (.aload_n 0, 1) := by decide +kernel
theorem dX6_place_30 : decode cX6_place 30 = .ok (.iload_n 1, 1) := by decide +kernel
theorem dX6_place_31 : decode cX6_place 31 = .ok (.iload_n 2, 1) := by decide +kernel
theorem dX6_place_32 : decode cX6_place 32 = .ok (.invokevirtual 119, 3) := by decide +kernel
theorem dX6_place_35 : decode cX6_place 35 = .ok (.istore 4, 2) := by decide +kernel
theorem dX6_place_37 : decode cX6_place 37 = .ok (.iload 4, 2) := by decide +kernel
theorem dX6_place_39 : decode cX6_place 39 = .ok (.iconst (-1), 1) := by decide +kernel
theorem dX6_place_40 : decode cX6_place 40 = .ok (.if_icmp .ne 9, 3) := by decide +kernel
theorem dX6_place_43 : decode cX6_place 43 = .ok (.sipush (-10000), 3) := by decide +kernel
theorem dX6_place_46 : decode cX6_place 46 = .ok (.goto 11, 3) := by decide +kernel
theorem dX6_place_49 : decode cX6_place 49 = .ok (.aload_n 0, 1) := by decide +kernel
theorem dX6_place_50 : decode cX6_place 50 = .ok (.iload_n 2, 1) := by decide +kernel
theorem dX6_place_51 : decode cX6_place 51 = .ok (.iload 4, 2) := by decide +kernel
theorem dX6_place_53 : decode cX6_place 53 = .ok (.iload_n 3, 1) := by decide +kernel
theorem dX6_place_54 : decode cX6_place 54 = .ok (.invokevirtual 122, 3) := by decide +kernel
theorem dX6_place_57 : decode cX6_place 57 = .ok (.ireturn, 1) := by decide +kernel
theorem dX6_moves_0 : decode cX6_moves 0 = .ok (.aload_n 0, 1) := by decide +kernel
theorem dX6_moves_1 : decode cX6_moves 1 = .ok (.invokevirtual 109, 3) := by decide +kernel
theorem dX6_moves_4 : decode cX6_moves 4 = .ok (.istore_n 2, 1) := by decide +kernel
theorem dX6_moves_5 : decode cX6_moves 5 = .ok (.aload_n 0, 1) := by decide +kernel
theorem dX6_moves_6 : decode cX6_moves 6 = .ok (.iload_n 2, 1) := by decide +kernel
theorem dX6_moves_7 : decode cX6_moves 7 = .ok (.putfield 125, 3) := by decide +kernel
theorem dX6_moves_10 : decode cX6_moves 10 = .ok (.aload_n 0, 1) := by decide +kernel
theorem dX6_moves_11 : decode cX6_moves 11 = .ok (.iconst 0, 1) := by decide +kernel
theorem dX6_moves_12 : decode cX6_moves 12 = .ok (.putfield 128, 3) := by decide +kernel
theorem dX6_moves_15 : decode cX6_moves 15 = .ok (.iconst 0, 1) := by decide +kernel
theorem dX6_moves_16 : decode cX6_moves 16 = .ok (.istore_n 3, 1) := by decide +kernel
theorem dX6_moves_17 : decode cX6_moves 17 = .ok (.iload_n 3, 1) := by decide +kernel
theorem dX6_moves_18 : decode cX6_moves 18 = .ok (.aload_n 0, 1) := by decide +kernel
theorem dX6_moves_19 : decode cX6_moves 19 = .ok (.getfield 48, 3) := by decide +kernel
theorem dX6_moves_22 : decode cX6_moves 22 = .ok (.if_icmp .ge 62, 3) := by decide +kernel
theorem dX6_moves_25 : decode cX6_moves 25 = .ok (.aload_n 0, 1) := by decide +kernel
theorem dX6_moves_26 : decode cX6_moves 26 = .ok (.iload_n 1, 1) := by decide +kernel
theorem dX6_moves_27 : decode cX6_moves 27 = .ok (.iload_n 3, 1) := by decide +kernel
theorem dX6_moves_28 : decode cX6_moves 28 = .ok (.invokevirtual 119, 3) := by decide +kernel
theorem dX6_moves_31 : decode cX6_moves 31 = .ok (.iconst (-1), 1) := by decide +kernel
theorem dX6_moves_32 : decode cX6_moves 32 = .ok (.if_icmp .ne 6, 3) := by decide +kernel
theorem dX6_moves_35 : decode cX6_moves 35 = .ok (.goto 43, 3) := by decide +kernel
theorem dX6_moves_38 : decode cX6_moves 38 = .ok (.aload_n 0, 1) := by decide +kernel
theorem dX6_moves_39 : decode cX6_moves 39 = .ok (.dup, 1) := by decide +kernel
theorem dX6_moves_40 : decode cX6_moves 40 = .ok (.getfield 128, 3) := by decide +kernel
theorem dX6_moves_43 : decode cX6_moves 43 = .ok (.iconst 1, 1) := by decide +kernel
theorem dX6_moves_44 : decode cX6_moves 44 = .ok (.iadd, 1) := by decide +kernel
theorem dX6_moves_45 : decode cX6_moves 45 = .ok (.putfield 128, 3) := by decide +kernel
theorem dX6_moves_48 : decode cX6_moves 48 = .ok (.aload_n 0, 1) := by decide +kernel
theorem dX6_moves_49 : decode cX6_moves 49 = .ok (.aload_n 0, 1) := by decide +kernel
theorem dX6_moves_50 : decode cX6_moves 50 = .ok (.getfield 13, 3) := by decide +kernel
theorem dX6_moves_53 : decode cX6_moves 53 = .ok (.iload_n 3, 1) := by decide +kernel
theorem dX6_moves_54 : decode cX6_moves 54 = .ok (.iaload, 1) := by decide +kernel
theorem dX6_moves_55 : decode cX6_moves 55 = .ok (.aload_n 0, 1) := by decide +kernel
theorem dX6_moves_56 : decode cX6_moves 56 = .ok (.getfield 13, 3) := by decide +kernel
theorem dX6_moves_59 : decode cX6_moves 59 = .ok (.aload_n 0, 1) := by decide +kernel
theorem dX6_moves_60 : decode cX6_moves 60 = .ok (.getfield 125, 3) := by decide +kernel
theorem dX6_moves_63 : decode cX6_moves 63 = .ok (.iaload, 1) := by decide +kernel
theorem dX6_moves_64 : decode cX6_moves 64 = .ok (.if_icmp .le 7, 3) := by decide +kernel
theorem dX6_moves_67 : decode cX6_moves 67 = .ok (.iload_n 3, 1) := by decide +kernel
theorem dX6_moves_68 : decode cX6_moves 68 = .ok (.goto 7, 3) := by decide +kernel
theorem dX6_moves_71 : decode cX6_moves 71 = .ok (.aload_n 0, 1) := by decide +kernel
theorem dX6_moves_72 : decode cX6_moves 72 = .ok (.getfield 125, 3) := by decide +kernel
theorem dX6_moves_75 : decode cX6_moves 75 = .ok (.putfield 125, 3) := by decide +kernel
theorem dX6_moves_78 : decode cX6_moves 78 = .ok (.iinc 3 1, 3) := by decide +kernel
theorem dX6_moves_81 : decode cX6_moves 81 = .ok (.goto (-64), 3) := by decide +kernel
theorem dX6_moves_84 : decode cX6_moves 84 = .ok (.aload_n 0, 1) := by decide +kernel
theorem dX6_moves_85 : decode cX6_moves 85 = .ok (.aload_n 0, 1) := by decide +kernel
theorem dX6_moves_86 : decode cX6_moves 86 = .ok (.getfield 48, 3) := by decide +kernel
theorem dX6_moves_89 : decode cX6_moves 89 = .ok (.aload_n 0, 1) := by decide +kernel
theorem dX6_moves_90 : decode cX6_moves 90 = .ok (.getfield 128, 3) := by decide +kernel
theorem dX6_moves_93 : decode cX6_moves 93 = .ok (.isub, 1) := by decide +kernel
theorem dX6_moves_94 : decode cX6_moves 94 = .ok (.putfield 131, 3) := by decide +kernel
theorem dX6_moves_97 : decode cX6_moves 97 = .ok (.aload_n 0, 1) := by decide +kernel
theorem dX6_moves_98 : decode cX6_moves 98 = .ok (.getfield 125, 3) := by decide +kernel
theorem dX6_moves_101 : decode cX6_moves 101 = .ok (.iload_n 2, 1) := by decide +kernel
theorem dX6_moves_102 : decode cX6_moves 102 = .ok (.if_icmp .ne 5, 3) := by decide +kernel
theorem dX6_moves_105 : decode cX6_moves 105 = .ok (.iconst 0, 1) := by decide +kernel
theorem dX6_moves_106 : decode cX6_moves 106 = .ok (.ireturn, 1) := by decide +kernel
theorem dX6_moves_107 : decode cX6_moves 107 = .ok (.aload_n 0, 1) := by decide +kernel
theorem dX6_moves_108 : decode cX6_moves 108 = .ok (.iload_n 1, 1) := by decide +kernel
theorem dX6_moves_109 : decode cX6_moves 109 = .ok (.aload_n 0, 1) := by decide +kernel
theorem dX6_moves_110 : decode cX6_moves 110 = .ok (.getfield 125, 3) := by decide +kernel
theorem dX6_moves_113 : decode cX6_moves 113 = .ok (.invokevirtual 119, 3) := by decide +kernel
theorem dX6_moves_116 : decode cX6_moves 116 = .ok (.istore_n 3, 1) := by decide +kernel
theorem dX6_moves_117 : decode cX6_moves 117 = .ok (.aload_n 0, 1) := by decide +kernel
theorem dX6_moves_118 : decode cX6_moves 118 = .ok (.aload_n 0, 1) := by decide +kernel
theorem dX6_moves_119 : decode cX6_moves 119 = .ok (.aload_n 0, 1) := by decide +kernel
theorem dX6_moves_120 : decode cX6_moves 120 = .ok (.getfield 125, 3) := by decide +kernel
theorem dX6_moves_123 : decode cX6_moves 123 = .ok (.iload_n 3, 1) := by decide +kernel
theorem dX6_moves_124 : decode cX6_moves 124 = .ok (.iconst 0, 1) := by decide +kernel
theorem dX6_moves_125 : decode cX6_moves 125 = .ok (.invokevirtual 122, 3) := by decide +kernel
theorem dX6_moves_128 : decode cX6_moves 128 = .ok (.aload_n 0, 1) := by decide +kernel
theorem dX6_moves_129 : decode cX6_moves 129 = .ok (.getfield 20, 3) := by decide +kernel
theorem dX6_moves_132 : decode cX6_moves 132 = .ok (.bipush 8, 2) := by decide +kernel
theorem dX6_moves_134 : decode cX6_moves 134 = .ok (.iload_n 2, 1) := by decide +kernel
theorem dX6_moves_135 : decode cX6_moves 135 = .ok (.imul, 1) := by decide +kernel
theorem dX6_moves_136 : decode cX6_moves 136 = .ok (.iload_n 1, 1) := by decide +kernel
theorem dX6_moves_137 : decode cX6_moves 137 = .ok (.iadd, 1) := by decide +kernel
theorem dX6_moves_138 : decode cX6_moves 138 = .ok (.iaload, 1) := by decide +kernel
theorem dX6_moves_139 : decode cX6_moves 139 = .ok (.isub, 1) := by decide +kernel
theorem dX6_moves_140 : decode cX6_moves 140 = .ok (.putfield 134, 3) := by decide +kernel
theorem dX6_moves_143 : decode cX6_moves 143 = .ok (.aload_n 0, 1) := by decide +kernel
theorem dX6_moves_144 : decode cX6_moves 144 = .ok (.aload_n 0, 1) := by decide +kernel
theorem dX6_moves_145 : decode cX6_moves 145 = .ok (.aload_n 0, 1) := by decide +kernel
theorem dX6_moves_146 : decode cX6_moves 146 = .ok (.getfield 125, 3) := by decide +kernel
theorem dX6_moves_149 : decode cX6_moves 149 = .ok (.iload_n 3, 1) := by decide +kernel
theorem dX6_moves_150 : decode cX6_moves 150 = .ok (.iconst 1, 1) := by decide +kernel
theorem dX6_moves_151 : decode cX6_moves 151 = .ok (.invokevirtual 122, 3) := by decide +kernel
theorem dX6_moves_154 : decode cX6_moves 154 = .ok (.aload_n 0, 1) := by decide +kernel
theorem dX6_moves_155 : decode cX6_moves 155 = .ok (.getfield 23, 3) := by decide +kernel
theorem dX6_moves_158 : decode cX6_moves 158 = .ok (.bipush 8, 2) := by decide +kernel
theorem dX6_moves_160 : decode cX6_moves 160 = .ok (.iload_n 2, 1) := by decide +kernel
theorem dX6_moves_161 : decode cX6_moves 161 = .ok (.imul, 1) := by decide +kernel
theorem dX6_moves_162 : decode cX6_moves 162 = .ok (.iload_n 1, 1) := by decide +kernel
theorem dX6_moves_163 : decode cX6_moves 163 = .ok (.iadd, 1) := by decide +kernel
theorem dX6_moves_164 : decode cX6_moves 164 = .ok (.iaload, 1) := by decide +kernel
theorem dX6_moves_165 : decode cX6_moves 165 = .ok (.isub, 1) := by decide +kernel
theorem dX6_moves_166 : decode cX6_moves 166 = .ok (.putfield 137, 3) := by decide +kernel
theorem dX6_moves_169 : decode cX6_moves 169 = .ok (.aload_n 0, 1) := by decide +kernel
theorem dX6_moves_170 : decode cX6_moves 170 = .ok (.aload_n 0, 1) := by decide +kernel
theorem dX6_moves_171 : decode cX6_moves 171 = .ok (.getfield 13, 3) := by decide +kernel
theorem dX6_moves_174 : decode cX6_moves 174 = .ok (.aload_n 0, 1) := by decide +kernel
theorem dX6_moves_175 : decode cX6_moves 175 = .ok (.getfield 125, 3) := by decide +kernel
theorem dX6_moves_178 : decode cX6_moves 178 = .ok (.iaload, 1) := by decide +kernel
theorem dX6_moves_179 : decode cX6_moves 179 = .ok (.aload_n 0, 1) := by decide +kernel
theorem dX6_moves_180 : decode cX6_moves 180 = .ok (.getfield 13, 3) := by decide +kernel
theorem dX6_moves_183 : decode cX6_moves 183 = .ok (.iload_n 2, 1) := by decide +kernel
theorem dX6_moves_184 : decode cX6_moves 184 = .ok (.iaload, 1) := by decide +kernel
theorem dX6_moves_185 : decode cX6_moves 185 = .ok (.isub, 1) := by decide +kernel
theorem dX6_moves_186 : decode cX6_moves 186 = .ok (.putfield 140, 3) := by decide +kernel
theorem dX6_moves_189 : decode cX6_moves 189 = .ok (.iconst 1, 1) := by decide +kernel
theorem dX6_moves_190 : decode cX6_moves 190 = .ok (.ireturn, 1) := by decide +kernel
theorem dX6_common_0 : decode cX6_common 0 = .ok (.iload_n 0, 1) := by decide +kernel
theorem dX6_common_1 : decode cX6_common 1 = .ok (.invokestatic 62, 3) := by decide +kernel
theorem dX6_common_4 : decode cX6_common 4 = .ok (.istore_n 2, 1) := by decide +kernel
theorem dX6_common_5 : decode cX6_common 5 = .ok (.iload_n 1, 1) := by decide +kernel
theorem dX6_common_6 : decode cX6_common 6 = .ok (.istore_n 3, 1) := by decide +kernel
theorem dX6_common_7 : decode cX6_common 7 = .ok (.iload_n 3, 1) := by decide +kernel
theorem dX6_common_8 : decode cX6_common 8 = .ok (.ifCond .eq 16, 3) := by decide +kernel
theorem dX6_common_11 : decode cX6_common 11 = .ok (.iload_n 2, 1) := by decide +kernel
theorem dX6_common_12 : decode cX6_common 12 = .ok (.iload_n 3, 1) := by decide +kernel
theorem dX6_common_13 : decode cX6_common 13 = .ok (.irem, 1) := by decide +kernel
theorem dX6_common_14 : decode cX6_common 14 = .ok (.istore 4, 2) := by decide +kernel
theorem dX6_common_16 : decode cX6_common 16 = .ok (.iload_n 3, 1) := by decide +kernel
theorem dX6_common_17 : decode cX6_common 17 = .ok (.istore_n 2, 1) := by decide +kernel
theorem dX6_common_18 : decode cX6_common 18 = .ok (.iload 4, 2) := by decide +kernel
theorem dX6_common_20 : decode cX6_common 20 = .ok (.istore_n 3, 1) := by decide +kernel
theorem dX6_common_21 : decode cX6_common 21 = .ok (.goto (-14), 3) := by decide +kernel
theorem dX6_common_24 : decode cX6_common 24 = .ok (.iload_n 2, 1) := by decide +kernel
theorem dX6_common_25 : decode cX6_common 25 = .ok (.ireturn, 1) := by decide +kernel
theorem dX6_motion_0 : decode cX6_motion 0 = .ok (.aload_n 0, 1) := by decide +kernel
theorem dX6_motion_1 : decode cX6_motion 1 = .ok (.iload_n 1, 1) := by decide +kernel
theorem dX6_motion_2 : decode cX6_motion 2 = .ok (.invokevirtual 116, 3) := by decide +kernel
theorem dX6_motion_5 : decode cX6_motion 5 = .ok (.ifCond .eq 20, 3) := by decide +kernel
theorem dX6_motion_8 : decode cX6_motion 8 = .ok (.iload_n 2, 1) := by decide +kernel
theorem dX6_motion_9 : decode cX6_motion 9 = .ok (.iconst 0, 1) := by decide +kernel
theorem dX6_motion_10 : decode cX6_motion 10 = .ok (.iconst 3, 1) := by decide +kernel
theorem dX6_motion_11 : decode cX6_motion 11 = .ok (.invokestatic 51, 3) := by decide +kernel
theorem dX6_motion_14 : decode cX6_motion 14 = .ok (.ifCond .eq 11, 3) := by decide +kernel
theorem dX6_motion_17 : decode cX6_motion 17 = .ok (.aload_n 0, 1) := by decide +kernel
theorem dX6_motion_18 : decode cX6_motion 18 = .ok (.iload_n 1, 1) := by decide +kernel
theorem dX6_motion_19 : decode cX6_motion 19 = .ok (.invokevirtual 143, 3) := by decide +kernel
theorem dX6_motion_22 : decode cX6_motion 22 = .ok (.ifCond .ne 7, 3) := by decide +kernel
theorem dX6_motion_25 : decode cX6_motion 25 = .ok (.sipush (-10000), 3) := by decide +kernel
theorem dX6_motion_28 : decode cX6_motion 28 = .ok (.ireturn, 1) := by decide +kernel
theorem dX6_motion_29 : decode cX6_motion 29 = .ok (.iload_n 2, 1) := by decide +kernel
theorem dX6_motion_30 : decode cX6_motion 30 = .ok (.iconst 2, 1) := by decide +kernel
theorem dX6_motion_31 : decode cX6_motion 31 = .ok (.if_icmp .ge 10, 3) := by decide +kernel
theorem dX6_motion_34 : decode cX6_motion 34 = .ok (.aload_n 0, 1) := by decide +kernel
theorem dX6_motion_35 : decode cX6_motion 35 = .ok (.getfield 134, 3) := by decide +kernel
theorem dX6_motion_38 : decode cX6_motion 38 = .ok (.goto 7, 3) := by decide +kernel
theorem dX6_motion_41 : decode cX6_motion 41 = .ok (.aload_n 0, 1) := by decide +kernel
theorem dX6_motion_42 : decode cX6_motion 42 = .ok (.getfield 137, 3) := by decide +kernel
theorem dX6_motion_45 : decode cX6_motion 45 = .ok (.istore_n 3, 1) := by decide +kernel
theorem dX6_motion_46 : decode cX6_motion 46 = .ok (.iload_n 3, 1) := by decide +kernel
theorem dX6_motion_47 : decode cX6_motion 47 = .ok (.aload_n 0, 1) := by decide +kernel
theorem dX6_motion_48 : decode cX6_motion 48 = .ok (.getfield 140, 3) := by decide +kernel
theorem dX6_motion_51 : decode cX6_motion 51 = .ok (.invokestatic 146, 3) := by decide +kernel
theorem dX6_motion_54 : decode cX6_motion 54 = .ok (.istore 4, 2) := by decide +kernel
theorem dX6_motion_56 : decode cX6_motion 56 = .ok (.iload_n 2, 1) := by decide +kernel
theorem dX6_motion_57 : decode cX6_motion 57 = .ok (.iconst 2, 1) := by decide +kernel
theorem dX6_motion_58 : decode cX6_motion 58 = .ok (.irem, 1) := by decide +kernel
theorem dX6_motion_59 : decode cX6_motion 59 = .ok (.ifCond .ne 10, 3) := by decide +kernel
theorem dX6_motion_62 : decode cX6_motion 62 = .ok (.iload_n 3, 1) := by decide +kernel
theorem dX6_motion_63 : decode cX6_motion 63 = .ok (.iload 4, 2) := by decide +kernel
theorem dX6_motion_65 : decode cX6_motion 65 = .ok (.idiv, 1) := by decide +kernel
theorem dX6_motion_66 : decode cX6_motion 66 = .ok (.goto 10, 3) := by decide +kernel
theorem dX6_motion_69 : decode cX6_motion 69 = .ok (.aload_n 0, 1) := by decide +kernel
theorem dX6_motion_70 : decode cX6_motion 70 = .ok (.getfield 140, 3) := by decide +kernel
theorem dX6_motion_73 : decode cX6_motion 73 = .ok (.iload 4, 2) := by decide +kernel
theorem dX6_motion_75 : decode cX6_motion 75 = .ok (.idiv, 1) := by decide +kernel
theorem dX6_motion_76 : decode cX6_motion 76 = .ok (.ireturn, 1) := by decide +kernel
theorem dX6_isSteady_0 : decode cX6_isSteady 0 = .ok (.aload_n 0, 1) := by decide +kernel
theorem dX6_isSteady_1 : decode cX6_isSteady 1 = .ok (.invokevirtual 109, 3) := by decide +kernel
theorem dX6_isSteady_4 : decode cX6_isSteady 4 = .ok (.istore_n 2, 1) := by decide +kernel
theorem dX6_isSteady_5 : decode cX6_isSteady 5 = .ok (.iconst 1, 1) := by decide +kernel
theorem dX6_isSteady_6 : decode cX6_isSteady 6 = .ok (.istore_n 3, 1) := by decide +kernel
theorem dX6_isSteady_7 : decode cX6_isSteady 7 = .ok (.iconst 0, 1) := by decide +kernel
theorem dX6_isSteady_8 : decode cX6_isSteady 8 = .ok (.istore 4, 2) := by decide +kernel
theorem dX6_isSteady_10 : decode cX6_isSteady 10 = .ok (.iload 4, 2) := by decide +kernel
theorem dX6_isSteady_12 : decode cX6_isSteady 12 = .ok (.aload_n 0, 1) := by decide +kernel
theorem dX6_isSteady_13 : decode cX6_isSteady 13 = .ok (.getfield 48, 3) := by decide +kernel
theorem dX6_isSteady_16 : decode cX6_isSteady 16 = .ok (.if_icmp .ge 151, 3) := by decide +kernel
theorem dX6_isSteady_19 : decode cX6_isSteady 19 = .ok (.aload_n 0, 1) := by decide +kernel
theorem dX6_isSteady_20 : decode cX6_isSteady 20 = .ok (.iload_n 1, 1) := by decide +kernel
theorem dX6_isSteady_21 : decode cX6_isSteady 21 = .ok (.iload 4, 2) := by decide +kernel
theorem dX6_isSteady_23 : decode cX6_isSteady 23 = .ok (.invokevirtual 119, 3) := by decide +kernel
theorem dX6_isSteady_26 : decode cX6_isSteady 26 = .ok (.istore 5, 2) := by decide +kernel
theorem dX6_isSteady_28 : decode cX6_isSteady 28 = .ok (.iload 5, 2) := by decide +kernel
theorem dX6_isSteady_30 : decode cX6_isSteady 30 = .ok (.iconst (-1), 1) := by decide +kernel
theorem dX6_isSteady_31 : decode cX6_isSteady 31 = .ok (.if_icmp .ne 6, 3) := by decide +kernel
theorem dX6_isSteady_34 : decode cX6_isSteady 34 = .ok (.goto 127, 3) := by decide +kernel
theorem dX6_isSteady_37 : decode cX6_isSteady 37 = .ok (.aload_n 0, 1) := by decide +kernel
theorem dX6_isSteady_38 : decode cX6_isSteady 38 = .ok (.getfield 13, 3) := by decide +kernel
theorem dX6_isSteady_41 : decode cX6_isSteady 41 = .ok (.iload 4, 2) := by decide +kernel
theorem dX6_isSteady_43 : decode cX6_isSteady 43 = .ok (.iaload, 1) := by decide +kernel
theorem dX6_isSteady_44 : decode cX6_isSteady 44 = .ok (.aload_n 0, 1) := by decide +kernel
theorem dX6_isSteady_45 : decode cX6_isSteady 45 = .ok (.getfield 13, 3) := by decide +kernel
theorem dX6_isSteady_48 : decode cX6_isSteady 48 = .ok (.iload_n 2, 1) := by decide +kernel
theorem dX6_isSteady_49 : decode cX6_isSteady 49 = .ok (.iaload, 1) := by decide +kernel
theorem dX6_isSteady_50 : decode cX6_isSteady 50 = .ok (.isub, 1) := by decide +kernel
theorem dX6_isSteady_51 : decode cX6_isSteady 51 = .ok (.istore 6, 2) := by decide +kernel
theorem dX6_isSteady_53 : decode cX6_isSteady 53 = .ok (.iload_n 3, 1) := by decide +kernel
theorem dX6_isSteady_54 : decode cX6_isSteady 54 = .ok (.ifCond .eq 105, 3) := by decide +kernel
theorem dX6_isSteady_57 : decode cX6_isSteady 57 = .ok (.aload_n 0, 1) := by decide +kernel
theorem dX6_isSteady_58 : decode cX6_isSteady 58 = .ok (.iload 4, 2) := by decide +kernel
theorem dX6_isSteady_60 : decode cX6_isSteady 60 = .ok (.iload 5, 2) := by decide +kernel
theorem dX6_isSteady_62 : decode cX6_isSteady 62 = .ok (.iconst 0, 1) := by decide +kernel
theorem dX6_isSteady_63 : decode cX6_isSteady 63 = .ok (.invokevirtual 122, 3) := by decide +kernel
theorem dX6_isSteady_66 : decode cX6_isSteady 66 = .ok (.aload_n 0, 1) := by decide +kernel
theorem dX6_isSteady_67 : decode cX6_isSteady 67 = .ok (.getfield 20, 3) := by decide +kernel
theorem dX6_isSteady_70 : decode cX6_isSteady 70 = .ok (.bipush 8, 2) := by decide +kernel
theorem dX6_isSteady_72 : decode cX6_isSteady 72 = .ok (.iload_n 2, 1) := by decide +kernel
theorem dX6_isSteady_73 : decode cX6_isSteady 73 = .ok (.imul, 1) := by decide +kernel
theorem dX6_isSteady_74 : decode cX6_isSteady 74 = .ok (.iload_n 1, 1) := by decide +kernel
theorem dX6_isSteady_75 : decode cX6_isSteady 75 = .ok (.iadd, 1) := by decide +kernel
theorem dX6_isSteady_76 : decode cX6_isSteady 76 = .ok (.iaload, 1) := by decide +kernel
theorem dX6_isSteady_77 : decode cX6_isSteady 77 = .ok (.isub, 1) := by decide +kernel
theorem dX6_isSteady_78 : decode cX6_isSteady 78 = .ok (.aload_n 0, 1) := by decide +kernel
theorem dX6_isSteady_79 : decode cX6_isSteady 79 = .ok (.getfield 140, 3) := by decide +kernel
theorem dX6_isSteady_82 : decode cX6_isSteady 82 = .ok (.imul, 1) := by decide +kernel
theorem dX6_isSteady_83 : decode cX6_isSteady 83 = .ok (.aload_n 0, 1) := by decide +kernel
theorem dX6_isSteady_84 : decode cX6_isSteady 84 = .ok (.getfield 134, 3) := by decide +kernel
theorem dX6_isSteady_87 : decode cX6_isSteady 87 = .ok (.iload 6, 2) := by decide +kernel
theorem dX6_isSteady_89 : decode cX6_isSteady 89 = .ok (.imul, 1) := by decide +kernel
theorem dX6_isSteady_90 : decode cX6_isSteady 90 = .ok (.isub, 1) := by decide +kernel
theorem dX6_isSteady_91 : decode cX6_isSteady 91 = .ok (.invokestatic 62, 3) := by decide +kernel
theorem dX6_isSteady_94 : decode cX6_isSteady 94 = .ok (.aload_n 0, 1) := by decide +kernel
theorem dX6_isSteady_95 : decode cX6_isSteady 95 = .ok (.getfield 7, 3) := by decide +kernel
theorem dX6_isSteady_98 : decode cX6_isSteady 98 = .ok (.aload_n 0, 1) := by decide +kernel
theorem dX6_isSteady_99 : decode cX6_isSteady 99 = .ok (.getfield 140, 3) := by decide +kernel
theorem dX6_isSteady_102 : decode cX6_isSteady 102 = .ok (.imul, 1) := by decide +kernel
theorem dX6_isSteady_103 : decode cX6_isSteady 103 = .ok (.if_icmp .gt 56, 3) := by decide +kernel
theorem dX6_isSteady_106 : decode cX6_isSteady 106 = .ok (.aload_n 0, 1) := by decide +kernel
theorem dX6_isSteady_107 : decode cX6_isSteady 107 = .ok (.iload 4, 2) := by decide +kernel
theorem dX6_isSteady_109 : decode cX6_isSteady 109 = .ok (.iload 5, 2) := by decide +kernel
theorem dX6_isSteady_111 : decode cX6_isSteady 111 = .ok (.iconst 1, 1) := by decide +kernel
theorem dX6_isSteady_112 : decode cX6_isSteady 112 = .ok (.invokevirtual 122, 3) := by decide +kernel
theorem dX6_isSteady_115 : decode cX6_isSteady 115 = .ok (.aload_n 0, 1) := by decide +kernel
theorem dX6_isSteady_116 : decode cX6_isSteady 116 = .ok (.getfield 23, 3) := by decide +kernel
theorem dX6_isSteady_119 : decode cX6_isSteady 119 = .ok (.bipush 8, 2) := by decide +kernel
theorem dX6_isSteady_121 : decode cX6_isSteady 121 = .ok (.iload_n 2, 1) := by decide +kernel
theorem dX6_isSteady_122 : decode cX6_isSteady 122 = .ok (.imul, 1) := by decide +kernel
theorem dX6_isSteady_123 : decode cX6_isSteady 123 = .ok (.iload_n 1, 1) := by decide +kernel
theorem dX6_isSteady_124 : decode cX6_isSteady 124 = .ok (.iadd, 1) := by decide +kernel
theorem dX6_isSteady_125 : decode cX6_isSteady 125 = .ok (.iaload, 1) := by decide +kernel
theorem dX6_isSteady_126 : decode cX6_isSteady 126 = .ok (.isub, 1) := by decide +kernel
theorem dX6_isSteady_127 : decode cX6_isSteady 127 = .ok (.aload_n 0, 1) := by decide +kernel
theorem dX6_isSteady_128 : decode cX6_isSteady 128 = .ok (.getfield 140, 3) := by decide +kernel
theorem dX6_isSteady_131 : decode cX6_isSteady 131 = .ok (.imul, 1) := by decide +kernel
theorem dX6_isSteady_132 : decode cX6_isSteady 132 = .ok (.aload_n 0, 1) := by decide +kernel
theorem dX6_isSteady_133 : decode cX6_isSteady 133 = .ok (.getfield 137, 3) := by decide +kernel
theorem dX6_isSteady_136 : decode cX6_isSteady 136 = .ok (.iload 6, 2) := by decide +kernel
theorem dX6_isSteady_138 : decode cX6_isSteady 138 = .ok (.imul, 1) := by decide +kernel
theorem dX6_isSteady_139 : decode cX6_isSteady 139 = .ok (.isub, 1) := by decide +kernel
theorem dX6_isSteady_140 : decode cX6_isSteady 140 = .ok (.invokestatic 62, 3) := by decide +kernel
theorem dX6_isSteady_143 : decode cX6_isSteady 143 = .ok (.aload_n 0, 1) := by decide +kernel
theorem dX6_isSteady_144 : decode cX6_isSteady 144 = .ok (.getfield 7, 3) := by decide +kernel
theorem dX6_isSteady_147 : decode cX6_isSteady 147 = .ok (.aload_n 0, 1) := by decide +kernel
theorem dX6_isSteady_148 : decode cX6_isSteady 148 = .ok (.getfield 140, 3) := by decide +kernel
theorem dX6_isSteady_151 : decode cX6_isSteady 151 = .ok (.imul, 1) := by decide +kernel
theorem dX6_isSteady_152 : decode cX6_isSteady 152 = .ok (.if_icmp .gt 7, 3) := by decide +kernel
theorem dX6_isSteady_155 : decode cX6_isSteady 155 = .ok (.iconst 1, 1) := by decide +kernel
theorem dX6_isSteady_156 : decode cX6_isSteady 156 = .ok (.goto 4, 3) := by decide +kernel
theorem dX6_isSteady_159 : decode cX6_isSteady 159 = .ok (.iconst 0, 1) := by decide +kernel
theorem dX6_isSteady_160 : decode cX6_isSteady 160 = .ok (.istore_n 3, 1) := by decide +kernel
theorem dX6_isSteady_161 : decode cX6_isSteady 161 = .ok (.iinc 4 1, 3) := by decide +kernel
theorem dX6_isSteady_164 : decode cX6_isSteady 164 = .ok (.goto (-154), 3) := by decide +kernel
theorem dX6_isSteady_167 : decode cX6_isSteady 167 = .ok (.iload_n 3, 1) := by decide +kernel
theorem dX6_isSteady_168 : decode cX6_isSteady 168 = .ok (.ireturn, 1) := by decide +kernel
theorem dX6_together_0 : decode cX6_together 0 = .ok (.aload_n 0, 1) := by decide +kernel
theorem dX6_together_1 : decode cX6_together 1 = .ok (.getfield 134, 3) := by decide +kernel
theorem dX6_together_4 : decode cX6_together 4 = .ok (.ifCond .ne 12, 3) := by decide +kernel
theorem dX6_together_7 : decode cX6_together 7 = .ok (.aload_n 0, 1) := by decide +kernel
theorem dX6_together_8 : decode cX6_together 8 = .ok (.getfield 137, 3) := by decide +kernel
theorem dX6_together_11 : decode cX6_together 11 = .ok (.ifCond .ne 5, 3) := by decide +kernel
theorem dX6_together_14 : decode cX6_together 14 = .ok (.iconst (-1), 1) := by decide +kernel
theorem dX6_together_15 : decode cX6_together 15 = .ok (.ireturn, 1) := by decide +kernel
theorem dX6_together_16 : decode cX6_together 16 = .ok (.aload_n 0, 1) := by decide +kernel
theorem dX6_together_17 : decode cX6_together 17 = .ok (.getfield 134, 3) := by decide +kernel
theorem dX6_together_20 : decode cX6_together 20 = .ok (.istore_n 2, 1) := by decide +kernel
theorem dX6_together_21 : decode cX6_together 21 = .ok (.aload_n 0, 1) := by decide +kernel
theorem dX6_together_22 : decode cX6_together 22 = .ok (.getfield 137, 3) := by decide +kernel
theorem dX6_together_25 : decode cX6_together 25 = .ok (.istore_n 3, 1) := by decide +kernel
theorem dX6_together_26 : decode cX6_together 26 = .ok (.aload_n 0, 1) := by decide +kernel
theorem dX6_together_27 : decode cX6_together 27 = .ok (.getfield 140, 3) := by decide +kernel
theorem dX6_together_30 : decode cX6_together 30 = .ok (.istore 4, 2) := by decide +kernel
theorem dX6_together_32 : decode cX6_together 32 = .ok (.iconst (-1), 1) := by decide +kernel
theorem dX6_together_33 : decode cX6_together 33 = .ok (.istore 5, 2) := by decide +kernel
theorem dX6_together_35 : decode cX6_together 35 = .ok (.iconst 0, 1) := by decide +kernel
theorem dX6_together_36 : decode cX6_together 36 = .ok (.istore 6, 2) := by decide +kernel
theorem dX6_together_38 : decode cX6_together 38 = .ok (.iload 6, 2) := by decide +kernel
theorem dX6_together_40 : decode cX6_together 40 = .ok (.aload_n 0, 1) := by decide +kernel
theorem dX6_together_41 : decode cX6_together 41 = .ok (.invokevirtual 113, 3) := by decide +kernel
theorem dX6_together_44 : decode cX6_together 44 = .ok (.if_icmp .ge 66, 3) := by decide +kernel
theorem dX6_together_47 : decode cX6_together 47 = .ok (.iload 5, 2) := by decide +kernel
theorem dX6_together_49 : decode cX6_together 49 = .ok (.iconst (-1), 1) := by decide +kernel
theorem dX6_together_50 : decode cX6_together 50 = .ok (.if_icmp .ne 60, 3) := by decide +kernel
theorem dX6_together_53 : decode cX6_together 53 = .ok (.iload 6, 2) := by decide +kernel
theorem dX6_together_55 : decode cX6_together 55 = .ok (.iload_n 1, 1) := by decide +kernel
theorem dX6_together_56 : decode cX6_together 56 = .ok (.if_icmp .eq 48, 3) := by decide +kernel
theorem dX6_together_59 : decode cX6_together 59 = .ok (.aload_n 0, 1) := by decide +kernel
theorem dX6_together_60 : decode cX6_together 60 = .ok (.iload 6, 2) := by decide +kernel
theorem dX6_together_62 : decode cX6_together 62 = .ok (.invokevirtual 143, 3) := by decide +kernel
theorem dX6_together_65 : decode cX6_together 65 = .ok (.ifCond .eq 39, 3) := by decide +kernel
theorem dX6_together_68 : decode cX6_together 68 = .ok (.iload_n 2, 1) := by decide +kernel
theorem dX6_together_69 : decode cX6_together 69 = .ok (.aload_n 0, 1) := by decide +kernel
theorem dX6_together_70 : decode cX6_together 70 = .ok (.getfield 140, 3) := by decide +kernel
theorem dX6_together_73 : decode cX6_together 73 = .ok (.imul, 1) := by decide +kernel
theorem dX6_together_74 : decode cX6_together 74 = .ok (.aload_n 0, 1) := by decide +kernel
theorem dX6_together_75 : decode cX6_together 75 = .ok (.getfield 134, 3) := by decide +kernel
theorem dX6_together_78 : decode cX6_together 78 = .ok (.iload 4, 2) := by decide +kernel
theorem dX6_together_80 : decode cX6_together 80 = .ok (.imul, 1) := by decide +kernel
theorem dX6_together_81 : decode cX6_together 81 = .ok (.if_icmp .ne 23, 3) := by decide +kernel
theorem dX6_together_84 : decode cX6_together 84 = .ok (.iload_n 3, 1) := by decide +kernel
theorem dX6_together_85 : decode cX6_together 85 = .ok (.aload_n 0, 1) := by decide +kernel
theorem dX6_together_86 : decode cX6_together 86 = .ok (.getfield 140, 3) := by decide +kernel
theorem dX6_together_89 : decode cX6_together 89 = .ok (.imul, 1) := by decide +kernel
theorem dX6_together_90 : decode cX6_together 90 = .ok (.aload_n 0, 1) := by decide +kernel
theorem dX6_together_91 : decode cX6_together 91 = .ok (.getfield 137, 3) := by decide +kernel
theorem dX6_together_94 : decode cX6_together 94 = .ok (.iload 4, 2) := by decide +kernel
theorem dX6_together_96 : decode cX6_together 96 = .ok (.imul, 1) := by decide +kernel
theorem dX6_together_97 : decode cX6_together 97 = .ok (.if_icmp .ne 7, 3) := by decide +kernel
theorem dX6_together_100 : decode cX6_together 100 = .ok (.iload 6, 2) := by decide +kernel
theorem dX6_together_102 : decode cX6_together 102 = .ok (.istore 5, 2) := by decide +kernel
theorem dX6_together_104 : decode cX6_together 104 = .ok (.iinc 6 1, 3) := by decide +kernel
theorem dX6_together_107 : decode cX6_together 107 = .ok (.goto (-69), 3) := by decide +kernel
theorem dX6_together_110 : decode cX6_together 110 = .ok (.iload 5, 2) := by decide +kernel
theorem dX6_together_112 : decode cX6_together 112 = .ok (.ireturn, 1) := by decide +kernel
theorem dX6_tell_0 : decode cX6_tell 0 = .ok (.aload_n 0, 1) := by decide +kernel
theorem dX6_tell_1 : decode cX6_tell 1 = .ok (.iload_n 1, 1) := by decide +kernel
theorem dX6_tell_2 : decode cX6_tell 2 = .ok (.invokevirtual 116, 3) := by decide +kernel
theorem dX6_tell_5 : decode cX6_tell 5 = .ok (.ifCond .eq 12, 3) := by decide +kernel
theorem dX6_tell_8 : decode cX6_tell 8 = .ok (.iload_n 2, 1) := by decide +kernel
theorem dX6_tell_9 : decode cX6_tell 9 = .ok (.iconst 0, 1) := by decide +kernel
theorem dX6_tell_10 : decode cX6_tell 10 = .ok (.iconst 3, 1) := by decide +kernel
theorem dX6_tell_11 : decode cX6_tell 11 = .ok (.invokestatic 51, 3) := by decide +kernel
theorem dX6_tell_14 : decode cX6_tell 14 = .ok (.ifCond .ne 5, 3) := by decide +kernel
theorem dX6_tell_17 : decode cX6_tell 17 = .ok (.iconst (-1), 1) := by decide +kernel
theorem dX6_tell_18 : decode cX6_tell 18 = .ok (.ireturn, 1) := by decide +kernel
theorem dX6_tell_19 : decode cX6_tell 19 = .ok (.aload_n 0, 1) := by decide +kernel
theorem dX6_tell_20 : decode cX6_tell 20 = .ok (.iload_n 1, 1) := by decide +kernel
theorem dX6_tell_21 : decode cX6_tell 21 = .ok (.invokevirtual 143, 3) := by decide +kernel
theorem dX6_tell_24 : decode cX6_tell 24 = .ok (.istore_n 3, 1) := by decide +kernel
theorem dX6_tell_25 : decode cX6_tell 25 = .ok (.iload_n 2, 1) := by decide +kernel
theorem dX6_tell_26 : decode cX6_tell 26 = .ok (.iconst 2, 1) := by decide +kernel
theorem dX6_tell_27 : decode cX6_tell 27 = .ok (.if_icmp .ne 8, 3) := by decide +kernel
theorem dX6_tell_30 : decode cX6_tell 30 = .ok (.aload_n 0, 1) := by decide +kernel
theorem dX6_tell_31 : decode cX6_tell 31 = .ok (.getfield 128, 3) := by decide +kernel
theorem dX6_tell_34 : decode cX6_tell 34 = .ok (.ireturn, 1) := by decide +kernel
theorem dX6_tell_35 : decode cX6_tell 35 = .ok (.iload_n 3, 1) := by decide +kernel
theorem dX6_tell_36 : decode cX6_tell 36 = .ok (.ifCond .ne 5, 3) := by decide +kernel
theorem dX6_tell_39 : decode cX6_tell 39 = .ok (.iconst (-1), 1) := by decide +kernel
theorem dX6_tell_40 : decode cX6_tell 40 = .ok (.ireturn, 1) := by decide +kernel
theorem dX6_tell_41 : decode cX6_tell 41 = .ok (.iload_n 2, 1) := by decide +kernel
theorem dX6_tell_42 : decode cX6_tell 42 = .ok (.ifCond .ne 19, 3) := by decide +kernel
theorem dX6_tell_45 : decode cX6_tell 45 = .ok (.aload_n 0, 1) := by decide +kernel
theorem dX6_tell_46 : decode cX6_tell 46 = .ok (.iload_n 1, 1) := by decide +kernel
theorem dX6_tell_47 : decode cX6_tell 47 = .ok (.invokevirtual 149, 3) := by decide +kernel
theorem dX6_tell_50 : decode cX6_tell 50 = .ok (.ifCond .eq 7, 3) := by decide +kernel
theorem dX6_tell_53 : decode cX6_tell 53 = .ok (.iconst 1, 1) := by decide +kernel
theorem dX6_tell_54 : decode cX6_tell 54 = .ok (.goto 39, 3) := by decide +kernel
theorem dX6_tell_57 : decode cX6_tell 57 = .ok (.iconst 0, 1) := by decide +kernel
theorem dX6_tell_58 : decode cX6_tell 58 = .ok (.goto 35, 3) := by decide +kernel
theorem dX6_tell_61 : decode cX6_tell 61 = .ok (.iload_n 2, 1) := by decide +kernel
theorem dX6_tell_62 : decode cX6_tell 62 = .ok (.iconst 1, 1) := by decide +kernel
theorem dX6_tell_63 : decode cX6_tell 63 = .ok (.if_icmp .ne 25, 3) := by decide +kernel
theorem dX6_tell_66 : decode cX6_tell 66 = .ok (.aload_n 0, 1) := by decide +kernel
theorem dX6_tell_67 : decode cX6_tell 67 = .ok (.getfield 134, 3) := by decide +kernel
theorem dX6_tell_70 : decode cX6_tell 70 = .ok (.ifCond .ne 14, 3) := by decide +kernel
theorem dX6_tell_73 : decode cX6_tell 73 = .ok (.aload_n 0, 1) := by decide +kernel
theorem dX6_tell_74 : decode cX6_tell 74 = .ok (.getfield 137, 3) := by decide +kernel
theorem dX6_tell_77 : decode cX6_tell 77 = .ok (.ifCond .ne 7, 3) := by decide +kernel
theorem dX6_tell_80 : decode cX6_tell 80 = .ok (.iconst 1, 1) := by decide +kernel
theorem dX6_tell_81 : decode cX6_tell 81 = .ok (.goto 12, 3) := by decide +kernel
theorem dX6_tell_84 : decode cX6_tell 84 = .ok (.iconst 0, 1) := by decide +kernel
theorem dX6_tell_85 : decode cX6_tell 85 = .ok (.goto 8, 3) := by decide +kernel
theorem dX6_tell_88 : decode cX6_tell 88 = .ok (.aload_n 0, 1) := by decide +kernel
theorem dX6_tell_89 : decode cX6_tell 89 = .ok (.iload_n 1, 1) := by decide +kernel
theorem dX6_tell_90 : decode cX6_tell 90 = .ok (.invokevirtual 152, 3) := by decide +kernel
theorem dX6_tell_93 : decode cX6_tell 93 = .ok (.ireturn, 1) := by decide +kernel
theorem dX6_down_0 : decode cX6_down 0 = .ok (.iload_n 0, 1) := by decide +kernel
theorem dX6_down_1 : decode cX6_down 1 = .ok (.ifCond .lt 9, 3) := by decide +kernel
theorem dX6_down_4 : decode cX6_down 4 = .ok (.iload_n 0, 1) := by decide +kernel
theorem dX6_down_5 : decode cX6_down 5 = .ok (.iload_n 1, 1) := by decide +kernel
theorem dX6_down_6 : decode cX6_down 6 = .ok (.idiv, 1) := by decide +kernel
theorem dX6_down_7 : decode cX6_down 7 = .ok (.goto 12, 3) := by decide +kernel
theorem dX6_down_10 : decode cX6_down 10 = .ok (.iload_n 0, 1) := by decide +kernel
theorem dX6_down_11 : decode cX6_down 11 = .ok (.ineg, 1) := by decide +kernel
theorem dX6_down_12 : decode cX6_down 12 = .ok (.iload_n 1, 1) := by decide +kernel
theorem dX6_down_13 : decode cX6_down 13 = .ok (.iadd, 1) := by decide +kernel
theorem dX6_down_14 : decode cX6_down 14 = .ok (.iconst 1, 1) := by decide +kernel
theorem dX6_down_15 : decode cX6_down 15 = .ok (.isub, 1) := by decide +kernel
theorem dX6_down_16 : decode cX6_down 16 = .ok (.iload_n 1, 1) := by decide +kernel
theorem dX6_down_17 : decode cX6_down 17 = .ok (.idiv, 1) := by decide +kernel
theorem dX6_down_18 : decode cX6_down 18 = .ok (.ineg, 1) := by decide +kernel
theorem dX6_down_19 : decode cX6_down 19 = .ok (.ireturn, 1) := by decide +kernel
theorem dX6_foretell_0 : decode cX6_foretell 0 = .ok (.aload_n 0, 1) := by decide +kernel
theorem dX6_foretell_1 : decode cX6_foretell 1 = .ok (.iload_n 1, 1) := by decide +kernel
theorem dX6_foretell_2 : decode cX6_foretell 2 = .ok (.invokevirtual 116, 3) := by decide +kernel
theorem dX6_foretell_5 : decode cX6_foretell 5 = .ok (.ifCond .eq 23, 3) := by decide +kernel
theorem dX6_foretell_8 : decode cX6_foretell 8 = .ok (.iload_n 2, 1) := by decide +kernel
theorem dX6_foretell_9 : decode cX6_foretell 9 = .ok (.iconst 0, 1) := by decide +kernel
theorem dX6_foretell_10 : decode cX6_foretell 10 = .ok (.sipush 2000, 3) := by decide +kernel
theorem dX6_foretell_13 : decode cX6_foretell 13 = .ok (.invokestatic 51, 3) := by decide +kernel
theorem dX6_foretell_16 : decode cX6_foretell 16 = .ok (.ifCond .eq 12, 3) := by decide +kernel
theorem dX6_foretell_19 : decode cX6_foretell 19 = .ok (.iload_n 3, 1) := by decide +kernel
theorem dX6_foretell_20 : decode cX6_foretell 20 = .ok (.iconst 0, 1) := by decide +kernel
theorem dX6_foretell_21 : decode cX6_foretell 21 = .ok (.iconst 1, 1) := by decide +kernel
theorem dX6_foretell_22 : decode cX6_foretell 22 = .ok (.invokestatic 51, 3) := by decide +kernel
theorem dX6_foretell_25 : decode cX6_foretell 25 = .ok (.ifCond .ne 6, 3) := by decide +kernel
theorem dX6_foretell_28 : decode cX6_foretell 28 = .ok (.ldc 155, 2) := by decide +kernel
theorem dX6_foretell_30 : decode cX6_foretell 30 = .ok (.ireturn, 1) := by decide +kernel
theorem dX6_foretell_31 : decode cX6_foretell 31 = .ok (.aload_n 0, 1) := by decide +kernel
theorem dX6_foretell_32 : decode cX6_foretell 32 = .ok (.invokevirtual 109, 3) := by decide +kernel
theorem dX6_foretell_35 : decode cX6_foretell 35 = .ok (.istore 4, 2) := by decide +kernel
theorem dX6_foretell_37 : decode cX6_foretell 37 = .ok (.iload_n 3, 1) := by decide +kernel
theorem dX6_foretell_38 : decode cX6_foretell 38 = .ok (.ifCond .ne 18, 3) := by decide +kernel
theorem dX6_foretell_41 : decode cX6_foretell 41 = .ok (.aload_n 0, 1) := by decide +kernel
theorem dX6_foretell_42 : decode cX6_foretell 42 = .ok (.getfield 20, 3) := by decide +kernel
theorem dX6_foretell_45 : decode cX6_foretell 45 = .ok (.bipush 8, 2) := by decide +kernel
theorem dX6_foretell_47 : decode cX6_foretell 47 = .ok (.iload 4, 2) := by decide +kernel
theorem dX6_foretell_49 : decode cX6_foretell 49 = .ok (.imul, 1) := by decide +kernel
theorem dX6_foretell_50 : decode cX6_foretell 50 = .ok (.iload_n 1, 1) := by decide +kernel
theorem dX6_foretell_51 : decode cX6_foretell 51 = .ok (.iadd, 1) := by decide +kernel
theorem dX6_foretell_52 : decode cX6_foretell 52 = .ok (.iaload, 1) := by decide +kernel
theorem dX6_foretell_53 : decode cX6_foretell 53 = .ok (.goto 15, 3) := by decide +kernel
theorem dX6_foretell_56 : decode cX6_foretell 56 = .ok (.aload_n 0, 1) := by decide +kernel
theorem dX6_foretell_57 : decode cX6_foretell 57 = .ok (.getfield 23, 3) := by decide +kernel
theorem dX6_foretell_60 : decode cX6_foretell 60 = .ok (.bipush 8, 2) := by decide +kernel
theorem dX6_foretell_62 : decode cX6_foretell 62 = .ok (.iload 4, 2) := by decide +kernel
theorem dX6_foretell_64 : decode cX6_foretell 64 = .ok (.imul, 1) := by decide +kernel
theorem dX6_foretell_65 : decode cX6_foretell 65 = .ok (.iload_n 1, 1) := by decide +kernel
theorem dX6_foretell_66 : decode cX6_foretell 66 = .ok (.iadd, 1) := by decide +kernel
theorem dX6_foretell_67 : decode cX6_foretell 67 = .ok (.iaload, 1) := by decide +kernel
theorem dX6_foretell_68 : decode cX6_foretell 68 = .ok (.istore 5, 2) := by decide +kernel
theorem dX6_foretell_70 : decode cX6_foretell 70 = .ok (.aload_n 0, 1) := by decide +kernel
theorem dX6_foretell_71 : decode cX6_foretell 71 = .ok (.iload_n 1, 1) := by decide +kernel
theorem dX6_foretell_72 : decode cX6_foretell 72 = .ok (.invokevirtual 143, 3) := by decide +kernel
theorem dX6_foretell_75 : decode cX6_foretell 75 = .ok (.ifCond .eq 50, 3) := by decide +kernel
theorem dX6_foretell_78 : decode cX6_foretell 78 = .ok (.iload 5, 2) := by decide +kernel
theorem dX6_foretell_80 : decode cX6_foretell 80 = .ok (.iconst 2, 1) := by decide +kernel
theorem dX6_foretell_81 : decode cX6_foretell 81 = .ok (.iload_n 3, 1) := by decide +kernel
theorem dX6_foretell_82 : decode cX6_foretell 82 = .ok (.ifCond .ne 10, 3) := by decide +kernel
theorem dX6_foretell_85 : decode cX6_foretell 85 = .ok (.aload_n 0, 1) := by decide +kernel
theorem dX6_foretell_86 : decode cX6_foretell 86 = .ok (.getfield 134, 3) := by decide +kernel
theorem dX6_foretell_89 : decode cX6_foretell 89 = .ok (.goto 7, 3) := by decide +kernel
theorem dX6_foretell_92 : decode cX6_foretell 92 = .ok (.aload_n 0, 1) := by decide +kernel
theorem dX6_foretell_93 : decode cX6_foretell 93 = .ok (.getfield 137, 3) := by decide +kernel
theorem dX6_foretell_96 : decode cX6_foretell 96 = .ok (.imul, 1) := by decide +kernel
theorem dX6_foretell_97 : decode cX6_foretell 97 = .ok (.iload_n 2, 1) := by decide +kernel
theorem dX6_foretell_98 : decode cX6_foretell 98 = .ok (.aload_n 0, 1) := by decide +kernel
theorem dX6_foretell_99 : decode cX6_foretell 99 = .ok (.getfield 13, 3) := by decide +kernel
theorem dX6_foretell_102 : decode cX6_foretell 102 = .ok (.iload 4, 2) := by decide +kernel
theorem dX6_foretell_104 : decode cX6_foretell 104 = .ok (.iaload, 1) := by decide +kernel
theorem dX6_foretell_105 : decode cX6_foretell 105 = .ok (.isub, 1) := by decide +kernel
theorem dX6_foretell_106 : decode cX6_foretell 106 = .ok (.imul, 1) := by decide +kernel
theorem dX6_foretell_107 : decode cX6_foretell 107 = .ok (.aload_n 0, 1) := by decide +kernel
theorem dX6_foretell_108 : decode cX6_foretell 108 = .ok (.getfield 140, 3) := by decide +kernel
theorem dX6_foretell_111 : decode cX6_foretell 111 = .ok (.iadd, 1) := by decide +kernel
theorem dX6_foretell_112 : decode cX6_foretell 112 = .ok (.iconst 2, 1) := by decide +kernel
theorem dX6_foretell_113 : decode cX6_foretell 113 = .ok (.aload_n 0, 1) := by decide +kernel
theorem dX6_foretell_114 : decode cX6_foretell 114 = .ok (.getfield 140, 3) := by decide +kernel
theorem dX6_foretell_117 : decode cX6_foretell 117 = .ok (.imul, 1) := by decide +kernel
theorem dX6_foretell_118 : decode cX6_foretell 118 = .ok (.invokestatic 156, 3) := by decide +kernel
theorem dX6_foretell_121 : decode cX6_foretell 121 = .ok (.iadd, 1) := by decide +kernel
theorem dX6_foretell_122 : decode cX6_foretell 122 = .ok (.goto 5, 3) := by decide +kernel
theorem dX6_foretell_125 : decode cX6_foretell 125 = .ok (.iload 5, 2) := by decide +kernel
theorem dX6_foretell_127 : decode cX6_foretell 127 = .ok (.ireturn, 1) := by decide +kernel
theorem dX6_look_0 : decode cX6_look 0 = .ok (.iconst 0, 1) := by decide +kernel
theorem dX6_look_1 : decode cX6_look 1 = .ok (.istore_n 2, 1) := by decide +kernel
theorem dX6_look_2 : decode cX6_look 2 = .ok (.iload_n 1, 1) := by decide +kernel
theorem dX6_look_3 : decode cX6_look 3 = .ok (.tableswitch 137 0 5 #[37, 42, 47, 52, 57, 105], 37) := by decide +kernel
theorem dX6_look_40 : decode cX6_look 40 = .ok (.aload_n 0, 1) := by decide +kernel
theorem dX6_look_41 : decode cX6_look 41 = .ok (.getfield 48, 3) := by decide +kernel
theorem dX6_look_44 : decode cX6_look 44 = .ok (.ireturn, 1) := by decide +kernel
theorem dX6_look_45 : decode cX6_look 45 = .ok (.aload_n 0, 1) := by decide +kernel
theorem dX6_look_46 : decode cX6_look 46 = .ok (.getfield 7, 3) := by decide +kernel
theorem dX6_look_49 : decode cX6_look 49 = .ok (.ireturn, 1) := by decide +kernel
theorem dX6_look_50 : decode cX6_look 50 = .ok (.aload_n 0, 1) := by decide +kernel
theorem dX6_look_51 : decode cX6_look 51 = .ok (.invokevirtual 109, 3) := by decide +kernel
theorem dX6_look_54 : decode cX6_look 54 = .ok (.ireturn, 1) := by decide +kernel
theorem dX6_look_55 : decode cX6_look 55 = .ok (.aload_n 0, 1) := by decide +kernel
theorem dX6_look_56 : decode cX6_look 56 = .ok (.invokevirtual 113, 3) := by decide +kernel
theorem dX6_look_59 : decode cX6_look 59 = .ok (.ireturn, 1) := by decide +kernel
theorem dX6_look_60 : decode cX6_look 60 = .ok (.iconst 0, 1) := by decide +kernel
theorem dX6_look_61 : decode cX6_look 61 = .ok (.istore_n 3, 1) := by decide +kernel
theorem dX6_look_62 : decode cX6_look 62 = .ok (.iload_n 3, 1) := by decide +kernel
theorem dX6_look_63 : decode cX6_look 63 = .ok (.aload_n 0, 1) := by decide +kernel
theorem dX6_look_64 : decode cX6_look 64 = .ok (.invokevirtual 113, 3) := by decide +kernel
theorem dX6_look_67 : decode cX6_look 67 = .ok (.if_icmp .ge 39, 3) := by decide +kernel
theorem dX6_look_70 : decode cX6_look 70 = .ok (.iload_n 2, 1) := by decide +kernel
theorem dX6_look_71 : decode cX6_look 71 = .ok (.aload_n 0, 1) := by decide +kernel
theorem dX6_look_72 : decode cX6_look 72 = .ok (.iload_n 3, 1) := by decide +kernel
theorem dX6_look_73 : decode cX6_look 73 = .ok (.invokevirtual 143, 3) := by decide +kernel
theorem dX6_look_76 : decode cX6_look 76 = .ok (.ifCond .eq 21, 3) := by decide +kernel
theorem dX6_look_79 : decode cX6_look 79 = .ok (.aload_n 0, 1) := by decide +kernel
theorem dX6_look_80 : decode cX6_look 80 = .ok (.getfield 134, 3) := by decide +kernel
theorem dX6_look_83 : decode cX6_look 83 = .ok (.ifCond .ne 14, 3) := by decide +kernel
theorem dX6_look_86 : decode cX6_look 86 = .ok (.aload_n 0, 1) := by decide +kernel
theorem dX6_look_87 : decode cX6_look 87 = .ok (.getfield 137, 3) := by decide +kernel
theorem dX6_look_90 : decode cX6_look 90 = .ok (.ifCond .ne 7, 3) := by decide +kernel
theorem dX6_look_93 : decode cX6_look 93 = .ok (.iconst 1, 1) := by decide +kernel
theorem dX6_look_94 : decode cX6_look 94 = .ok (.goto 4, 3) := by decide +kernel
theorem dX6_look_97 : decode cX6_look 97 = .ok (.iconst 0, 1) := by decide +kernel
theorem dX6_look_98 : decode cX6_look 98 = .ok (.iadd, 1) := by decide +kernel
theorem dX6_look_99 : decode cX6_look 99 = .ok (.istore_n 2, 1) := by decide +kernel
theorem dX6_look_100 : decode cX6_look 100 = .ok (.iinc 3 1, 3) := by decide +kernel
theorem dX6_look_103 : decode cX6_look 103 = .ok (.goto (-41), 3) := by decide +kernel
theorem dX6_look_106 : decode cX6_look 106 = .ok (.iload_n 2, 1) := by decide +kernel
theorem dX6_look_107 : decode cX6_look 107 = .ok (.ireturn, 1) := by decide +kernel
theorem dX6_look_108 : decode cX6_look 108 = .ok (.iconst 0, 1) := by decide +kernel
theorem dX6_look_109 : decode cX6_look 109 = .ok (.istore_n 3, 1) := by decide +kernel
theorem dX6_look_110 : decode cX6_look 110 = .ok (.iload_n 3, 1) := by decide +kernel
theorem dX6_look_111 : decode cX6_look 111 = .ok (.aload_n 0, 1) := by decide +kernel
