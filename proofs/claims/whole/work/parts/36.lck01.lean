theorem mj_ckL8 : mj_cL8.all (mj_ck1 code (some .boolean)) = true := by decide +kernel
theorem mj_ckL9 : mj_cL9.all (mj_ck1 code (some .boolean)) = true := by decide +kernel
theorem mj_ckL10 : mj_cL10.all (mj_ck1 code (some .boolean)) = true := by decide +kernel
theorem mj_ckL11 : mj_cL11.all (mj_ck1 code (some .boolean)) = true := by decide +kernel
theorem mj_ckL12 : mj_cL12.all (mj_ck1 code (some .boolean)) = true := by decide +kernel
theorem mj_ckL13 : mj_cL13.all (mj_ck1 code (some .boolean)) = true := by decide +kernel
theorem mj_ckL14 : mj_cL14.all (mj_ck1 code (some .boolean)) = true := by decide +kernel
theorem mj_ckL15 : mj_cL15.all (mj_ck1 code (some .boolean)) = true := by decide +kernel
