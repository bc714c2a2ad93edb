theorem mj_ckL32 : mj_cL32.all (mj_ck1 code (some .boolean)) = true := by decide +kernel
theorem mj_ckL33 : mj_cL33.all (mj_ck1 code (some .boolean)) = true := by decide +kernel
theorem mj_ckL34 : mj_cL34.all (mj_ck1 code (some .boolean)) = true := by decide +kernel
theorem mj_ckL35 : mj_cL35.all (mj_ck1 code (some .boolean)) = true := by decide +kernel
theorem mj_ckL36 : mj_cL36.all (mj_ck1 code (some .boolean)) = true := by decide +kernel
theorem mj_ckL37 : mj_cL37.all (mj_ck1 code (some .boolean)) = true := by decide +kernel
theorem mj_ckL38 : mj_cL38.all (mj_ck1 code (some .boolean)) = true := by decide +kernel
theorem mj_ckL39 : mj_cL39.all (mj_ck1 code (some .boolean)) = true := by decide +kernel
