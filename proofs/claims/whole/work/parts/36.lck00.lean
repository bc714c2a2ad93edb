theorem mj_ckL0 : mj_cL0.all (mj_ck1 code (some .boolean)) = true := by decide +kernel
theorem mj_ckL1 : mj_cL1.all (mj_ck1 code (some .boolean)) = true := by decide +kernel
theorem mj_ckL2 : mj_cL2.all (mj_ck1 code (some .boolean)) = true := by decide +kernel
theorem mj_ckL3 : mj_cL3.all (mj_ck1 code (some .boolean)) = true := by decide +kernel
theorem mj_ckL4 : mj_cL4.all (mj_ck1 code (some .boolean)) = true := by decide +kernel
theorem mj_ckL5 : mj_cL5.all (mj_ck1 code (some .boolean)) = true := by decide +kernel
theorem mj_ckL6 : mj_cL6.all (mj_ck1 code (some .boolean)) = true := by decide +kernel
theorem mj_ckL7 : mj_cL7.all (mj_ck1 code (some .boolean)) = true := by decide +kernel
