theorem mx_X2_11 : am_mxs RX2 11 := ⟨am_t3 144 (by decide +kernel) rfl, am_t3 145 (by decide +kernel) rfl, am_t1 18 (by decide +kernel) rfl, am_t3 146 (by decide +kernel) rfl⟩
theorem mx_X11_335 : am_mxs RX11 335 := ⟨am_t4 53 (by decide +kernel) rfl, am_t3 145 (by decide +kernel) rfl, am_t1 18 (by decide +kernel) rfl, am_t3 146 (by decide +kernel) rfl⟩
