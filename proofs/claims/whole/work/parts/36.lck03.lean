theorem mj_ckL24 : mj_cL24.all (mj_ck1 code (some .boolean)) = true := by decide +kernel
theorem mj_ckL25 : mj_cL25.all (mj_ck1 code (some .boolean)) = true := by decide +kernel
theorem mj_ckL26 : mj_cL26.all (mj_ck1 code (some .boolean)) = true := by decide +kernel
theorem mj_ckL27 : mj_cL27.all (mj_ck1 code (some .boolean)) = true := by decide +kernel
theorem mj_ckL28 : mj_cL28.all (mj_ck1 code (some .boolean)) = true := by decide +kernel
theorem mj_ckL29 : mj_cL29.all (mj_ck1 code (some .boolean)) = true := by decide +kernel
theorem mj_ckL30 : mj_cL30.all (mj_ck1 code (some .boolean)) = true := by decide +kernel
theorem mj_ckL31 : mj_cL31.all (mj_ck1 code (some .boolean)) = true := by decide +kernel
