theorem mj_ckL56 : mj_cL56.all (mj_ck1 code (some .boolean)) = true := by decide +kernel
theorem mj_ckL57 : mj_cL57.all (mj_ck1 code (some .boolean)) = true := by decide +kernel
theorem mj_ckL58 : mj_cL58.all (mj_ck1 code (some .boolean)) = true := by decide +kernel
theorem mj_ckL59 : mj_cL59.all (mj_ck1 code (some .boolean)) = true := by decide +kernel
theorem mj_ckL60 : mj_cL60.all (mj_ck1 code (some .boolean)) = true := by decide +kernel
theorem mj_ckL61 : mj_cL61.all (mj_ck1 code (some .boolean)) = true := by decide +kernel
theorem mj_ckL62 : mj_cL62.all (mj_ck1 code (some .boolean)) = true := by decide +kernel
theorem mj_ckL63 : mj_cL63.all (mj_ck1 code (some .boolean)) = true := by decide +kernel
