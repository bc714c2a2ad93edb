theorem mj_ckL64 : mj_cL64.all (mj_ck1 code (some .boolean)) = true := by decide +kernel
theorem mj_ckL65 : mj_cL65.all (mj_ck1 code (some .boolean)) = true := by decide +kernel
theorem mj_ckL66 : mj_cL66.all (mj_ck1 code (some .boolean)) = true := by decide +kernel
theorem mj_ckL67 : mj_cL67.all (mj_ck1 code (some .boolean)) = true := by decide +kernel
theorem mj_ckL68 : mj_cL68.all (mj_ck1 code (some .boolean)) = true := by decide +kernel
theorem mj_ckL69 : mj_cL69.all (mj_ck1 code (some .boolean)) = true := by decide +kernel
theorem mj_ckL70 : mj_cL70.all (mj_ck1 code (some .boolean)) = true := by decide +kernel
theorem mj_ckL71 : mj_cL71.all (mj_ck1 code (some .boolean)) = true := by decide +kernel
