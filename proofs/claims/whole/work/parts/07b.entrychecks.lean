theorem ck_ok6 : (mE_g6.zipIdx 96).all mm_ckm = true := by decide +kernel
theorem ck_ok7 : (mE_g7.zipIdx 112).all mm_ckm = true := by decide +kernel
theorem ck_ok8 : (mE_g8.zipIdx 128).all mm_ckm = true := by decide +kernel
theorem ck_ok9 : (mE_g9.zipIdx 144).all mm_ckm = true := by decide +kernel
theorem ck_ok10 : (mE_g10.zipIdx 160).all mm_ckm = true := by decide +kernel
