/-! ===== the pure part: the two starts ===== -/
theorem e_m0 : (fx_X12_init_end SM0).isSome = true := by decide +kernel
theorem e_x0 : (fx_X11_init_end SX0).isSome = true := by decide +kernel
