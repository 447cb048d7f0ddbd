theorem ckm_240 : mm_ckm (mE_240, 240) = true := by decide +kernel
theorem ckm_241 : mm_ckm (mE_241, 241) = true := by decide +kernel
theorem ckm_242 : mm_ckm (mE_242, 242) = true := by decide +kernel
theorem ckm_243 : mm_ckm (mE_243, 243) = true := by decide +kernel
theorem ckm_244 : mm_ckm (mE_244, 244) = true := by decide +kernel
theorem ckm_245 : mm_ckm (mE_245, 245) = true := by decide +kernel
theorem ckm_246 : mm_ckm (mE_246, 246) = true := by decide +kernel
theorem ckm_247 : mm_ckm (mE_247, 247) = true := by decide +kernel
theorem ckm_248 : mm_ckm (mE_248, 248) = true := by decide +kernel
theorem ckm_249 : mm_ckm (mE_249, 249) = true := by decide +kernel
theorem ckm_250 : mm_ckm (mE_250, 250) = true := by decide +kernel
theorem ckm_251 : mm_ckm (mE_251, 251) = true := by decide +kernel
theorem ckl_0 : (mE_252_0.all fun x => mm_ck 252 x.1 x.2) = true := by decide +kernel
theorem ckl_1 : (mE_252_1.all fun x => mm_ck 252 x.1 x.2) = true := by decide +kernel
theorem ckl_2 : (mE_252_2.all fun x => mm_ck 252 x.1 x.2) = true := by decide +kernel
theorem ckl_3 : (mE_252_3.all fun x => mm_ck 252 x.1 x.2) = true := by decide +kernel
theorem ckl_4 : (mE_252_4.all fun x => mm_ck 252 x.1 x.2) = true := by decide +kernel
theorem ckl_5 : (mE_252_5.all fun x => mm_ck 252 x.1 x.2) = true := by decide +kernel
theorem ckl_6 : (mE_252_6.all fun x => mm_ck 252 x.1 x.2) = true := by decide +kernel
theorem ckl_7 : (mE_252_7.all fun x => mm_ck 252 x.1 x.2) = true := by decide +kernel
theorem ckl_8 : (mE_252_8.all fun x => mm_ck 252 x.1 x.2) = true := by decide +kernel
theorem ckl_9 : (mE_252_9.all fun x => mm_ck 252 x.1 x.2) = true := by decide +kernel
theorem ckl_10 : (mE_252_10.all fun x => mm_ck 252 x.1 x.2) = true := by decide +kernel
theorem ckl_11 : (mE_252_11.all fun x => mm_ck 252 x.1 x.2) = true := by decide +kernel
theorem ckl_12 : (mE_252_12.all fun x => mm_ck 252 x.1 x.2) = true := by decide +kernel
theorem ckl_13 : (mE_252_13.all fun x => mm_ck 252 x.1 x.2) = true := by decide +kernel
theorem ckl_14 : (mE_252_14.all fun x => mm_ck 252 x.1 x.2) = true := by decide +kernel
theorem ckl_15 : (mE_252_15.all fun x => mm_ck 252 x.1 x.2) = true := by decide +kernel
theorem ckl_16 : (mE_252_16.all fun x => mm_ck 252 x.1 x.2) = true := by decide +kernel
theorem ckl_17 : (mE_252_17.all fun x => mm_ck 252 x.1 x.2) = true := by decide +kernel
theorem ckl_18 : (mE_252_18.all fun x => mm_ck 252 x.1 x.2) = true := by decide +kernel
theorem ckl_19 : (mE_252_19.all fun x => mm_ck 252 x.1 x.2) = true := by decide +kernel
theorem ckl_20 : (mE_252_20.all fun x => mm_ck 252 x.1 x.2) = true := by decide +kernel
theorem ckl_21 : (mE_252_21.all fun x => mm_ck 252 x.1 x.2) = true := by decide +kernel
theorem ckl_22 : (mE_252_22.all fun x => mm_ck 252 x.1 x.2) = true := by decide +kernel
theorem ckl_23 : (mE_252_23.all fun x => mm_ck 252 x.1 x.2) = true := by decide +kernel
theorem ckl_24 : (mE_252_24.all fun x => mm_ck 252 x.1 x.2) = true := by decide +kernel
theorem ckl_25 : (mE_252_25.all fun x => mm_ck 252 x.1 x.2) = true := by decide +kernel
theorem ckl_26 : (mE_252_26.all fun x => mm_ck 252 x.1 x.2) = true := by decide +kernel
theorem ckl_27 : (mE_252_27.all fun x => mm_ck 252 x.1 x.2) = true := by decide +kernel
theorem ckl_28 : (mE_252_28.all fun x => mm_ck 252 x.1 x.2) = true := by decide +kernel
theorem ckl_29 : (mE_252_29.all fun x => mm_ck 252 x.1 x.2) = true := by decide +kernel
theorem ckl_30 : (mE_252_30.all fun x => mm_ck 252 x.1 x.2) = true := by decide +kernel
theorem ckl_31 : (mE_252_31.all fun x => mm_ck 252 x.1 x.2) = true := by decide +kernel
theorem ckl_32 : (mE_252_32.all fun x => mm_ck 252 x.1 x.2) = true := by decide +kernel
theorem ckl_33 : (mE_252_33.all fun x => mm_ck 252 x.1 x.2) = true := by decide +kernel
theorem ckl_34 : (mE_252_34.all fun x => mm_ck 252 x.1 x.2) = true := by decide +kernel
theorem ckl_35 : (mE_252_35.all fun x => mm_ck 252 x.1 x.2) = true := by decide +kernel
theorem ckl_36 : (mE_252_36.all fun x => mm_ck 252 x.1 x.2) = true := by decide +kernel
theorem ckl_37 : (mE_252_37.all fun x => mm_ck 252 x.1 x.2) = true := by decide +kernel
theorem ckl_38 : (mE_252_38.all fun x => mm_ck 252 x.1 x.2) = true := by decide +kernel
theorem ckl_39 : (mE_252_39.all fun x => mm_ck 252 x.1 x.2) = true := by decide +kernel
theorem ckl_40 : (mE_252_40.all fun x => mm_ck 252 x.1 x.2) = true := by decide +kernel
theorem ckl_41 : (mE_252_41.all fun x => mm_ck 252 x.1 x.2) = true := by decide +kernel
theorem ckl_42 : (mE_252_42.all fun x => mm_ck 252 x.1 x.2) = true := by decide +kernel
theorem ckl_43 : (mE_252_43.all fun x => mm_ck 252 x.1 x.2) = true := by decide +kernel
theorem ckl_44 : (mE_252_44.all fun x => mm_ck 252 x.1 x.2) = true := by decide +kernel
theorem ckl_45 : (mE_252_45.all fun x => mm_ck 252 x.1 x.2) = true := by decide +kernel
theorem ckl_46 : (mE_252_46.all fun x => mm_ck 252 x.1 x.2) = true := by decide +kernel
theorem ckm_252 : mm_ckm (mE_252, 252) = true := by
  simp only [mm_ckm, mE_252, List.all_cons, List.all_nil, Bool.and_true, ckl_0, ckl_1, ckl_2, ckl_3, ckl_4, ckl_5, ckl_6, ckl_7, ckl_8, ckl_9, ckl_10, ckl_11, ckl_12, ckl_13, ckl_14, ckl_15, ckl_16, ckl_17, ckl_18, ckl_19, ckl_20, ckl_21, ckl_22, ckl_23, ckl_24, ckl_25, ckl_26, ckl_27, ckl_28, ckl_29, ckl_30, ckl_31, ckl_32, ckl_33, ckl_34, ckl_35, ckl_36, ckl_37, ckl_38, ckl_39, ckl_40, ckl_41, ckl_42, ckl_43, ckl_44, ckl_45, ckl_46]
theorem ck_ok15 : (mE_g15.zipIdx 240).all mm_ckm = true := by
  simp only [mE_g15, List.zipIdx_cons, List.zipIdx_nil, List.all_cons, List.all_nil, Bool.and_true, Nat.reduceAdd, ckm_240, ckm_241, ckm_242, ckm_243, ckm_244, ckm_245, ckm_246, ckm_247, ckm_248, ckm_249, ckm_250, ckm_251, ckm_252]
