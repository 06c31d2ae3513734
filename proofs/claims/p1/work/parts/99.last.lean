theorem zz_last : 1 = 1 := rfl
def zzL : List Cond := ((vx_atS RX8 265 "java/util/NoSuchElementException" ["java/lang/RuntimeException", "java/lang/Exception"]).filter goodWord)
theorem zz_0 : (zzL.filter (fun w => !decide (w ∈ lw_tbl))).length = 77 := by decide +kernel
theorem zz_1 : zzL.length = 99 := by decide +kernel
