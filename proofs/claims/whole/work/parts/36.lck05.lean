theorem mj_ckL40 : mj_cL40.all (mj_ck1 code (some .boolean)) = true := by decide +kernel
theorem mj_ckL41 : mj_cL41.all (mj_ck1 code (some .boolean)) = true := by decide +kernel
theorem mj_ckL42 : mj_cL42.all (mj_ck1 code (some .boolean)) = true := by decide +kernel
theorem mj_ckL43 : mj_cL43.all (mj_ck1 code (some .boolean)) = true := by decide +kernel
theorem mj_ckL44 : mj_cL44.all (mj_ck1 code (some .boolean)) = true := by decide +kernel
theorem mj_ckL45 : mj_cL45.all (mj_ck1 code (some .boolean)) = true := by decide +kernel
theorem mj_ckL46 : mj_cL46.all (mj_ck1 code (some .boolean)) = true := by decide +kernel
theorem mj_ckL47 : mj_cL47.all (mj_ck1 code (some .boolean)) = true := by decide +kernel
