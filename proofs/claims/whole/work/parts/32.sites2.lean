/-! THROWS: the words of the three exceptions -/
theorem ow_A : xOwB "CursorBase" 38 "java/lang/IllegalArgumentException" = true := by decide +kernel
theorem ow_S : xOwB "CursorBase" 49 "java/lang/IllegalStateException" = true := by decide +kernel
theorem ow_X : xOwB "CursorBase" 110 "java/lang/IndexOutOfBoundsException" = true := by decide +kernel
