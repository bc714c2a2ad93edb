theorem mj_ckL16 : mj_cL16.all (mj_ck1 code (some .boolean)) = true := by decide +kernel
theorem mj_ckL17 : mj_cL17.all (mj_ck1 code (some .boolean)) = true := by decide +kernel
theorem mj_ckL18 : mj_cL18.all (mj_ck1 code (some .boolean)) = true := by decide +kernel
theorem mj_ckL19 : mj_cL19.all (mj_ck1 code (some .boolean)) = true := by decide +kernel
theorem mj_ckL20 : mj_cL20.all (mj_ck1 code (some .boolean)) = true := by decide +kernel
theorem mj_ckL21 : mj_cL21.all (mj_ck1 code (some .boolean)) = true := by decide +kernel
theorem mj_ckL22 : mj_cL22.all (mj_ck1 code (some .boolean)) = true := by decide +kernel
theorem mj_ckL23 : mj_cL23.all (mj_ck1 code (some .boolean)) = true := by decide +kernel
