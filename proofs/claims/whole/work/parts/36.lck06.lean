theorem mj_ckL48 : mj_cL48.all (mj_ck1 code (some .boolean)) = true := by decide +kernel
theorem mj_ckL49 : mj_cL49.all (mj_ck1 code (some .boolean)) = true := by decide +kernel
theorem mj_ckL50 : mj_cL50.all (mj_ck1 code (some .boolean)) = true := by decide +kernel
theorem mj_ckL51 : mj_cL51.all (mj_ck1 code (some .boolean)) = true := by decide +kernel
theorem mj_ckL52 : mj_cL52.all (mj_ck1 code (some .boolean)) = true := by decide +kernel
theorem mj_ckL53 : mj_cL53.all (mj_ck1 code (some .boolean)) = true := by decide +kernel
theorem mj_ckL54 : mj_cL54.all (mj_ck1 code (some .boolean)) = true := by decide +kernel
theorem mj_ckL55 : mj_cL55.all (mj_ck1 code (some .boolean)) = true := by decide +kernel
