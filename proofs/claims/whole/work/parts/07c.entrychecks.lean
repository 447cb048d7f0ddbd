theorem ck_ok11 : (mE_g11.zipIdx 176).all mm_ckm = true := by decide +kernel
theorem ck_ok12 : (mE_g12.zipIdx 192).all mm_ckm = true := by decide +kernel
theorem ck_ok13 : (mE_g13.zipIdx 208).all mm_ckm = true := by decide +kernel
theorem ck_ok14 : (mE_g14.zipIdx 224).all mm_ckm = true := by decide +kernel
