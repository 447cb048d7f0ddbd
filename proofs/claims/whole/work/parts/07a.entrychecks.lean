theorem ck_ok0 : (mE_g0.zipIdx 0).all mm_ckm = true := by decide +kernel
theorem ck_ok1 : (mE_g1.zipIdx 16).all mm_ckm = true := by decide +kernel
theorem ck_ok2 : (mE_g2.zipIdx 32).all mm_ckm = true := by decide +kernel
theorem ck_ok3 : (mE_g3.zipIdx 48).all mm_ckm = true := by decide +kernel
theorem ck_ok4 : (mE_g4.zipIdx 64).all mm_ckm = true := by decide +kernel
theorem ck_ok5 : (mE_g5.zipIdx 80).all mm_ckm = true := by decide +kernel
