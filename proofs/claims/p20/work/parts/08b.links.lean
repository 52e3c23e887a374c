theorem xpOI : lw_tbl[130]? = some (.instanceMethod Lib.objectInit) := by decide +kernel
theorem xpOC : lw_tbl[131]? = some (.code Lib.objectInit ⟨#[0xb1]⟩ 1 none) := by decide +kernel
theorem xpMathI : lw_tbl[120]? = some (.initialized "java/lang/Math") := by decide +kernel
theorem xpSysI : lw_tbl[122]? = some (.initialized "java/lang/System") := by decide +kernel
theorem xpCopyS : lw_tbl[904]? = some (.static arraycopyName) := by decide +kernel
theorem xpCopyN : lw_tbl[905]? = some (.native arraycopyName) := by decide +kernel
theorem xpMaxS : lw_tbl[882]? = some (.static Lib.Math.max.name) := by decide +kernel
theorem xpMinS : lw_tbl[885]? = some (.static Lib.Math.min.name) := by decide +kernel
theorem xpMaxC : lw_tbl[883]? = some (.code Lib.Math.max.name Lib.Math.max.code 2 (some .int)) := by decide +kernel
theorem xpMinC : lw_tbl[886]? = some (.code Lib.Math.min.name Lib.Math.min.code 2 (some .int)) := by decide +kernel
