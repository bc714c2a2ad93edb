theorem mj_ckL72 : mj_cL72.all (mj_ck1 code (some .boolean)) = true := by decide +kernel
theorem mj_ckL73 : mj_cL73.all (mj_ck1 code (some .boolean)) = true := by decide +kernel
theorem mj_ckL74 : mj_cL74.all (mj_ck1 code (some .boolean)) = true := by decide +kernel
theorem mj_ckL75 : mj_cL75.all (mj_ck1 code (some .boolean)) = true := by decide +kernel
theorem mj_ckL76 : mj_cL76.all (mj_ck1 code (some .boolean)) = true := by decide +kernel
theorem mj_ckL77 : mj_cL77.all (mj_ck1 code (some .boolean)) = true := by decide +kernel
theorem mj_ckL78 : mj_cL78.all (mj_ck1 code (some .boolean)) = true := by decide +kernel
theorem mj_ckL79 : mj_cL79.all (mj_ck1 code (some .boolean)) = true := by decide +kernel
