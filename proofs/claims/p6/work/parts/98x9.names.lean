theorem dX8_thrown_0 : decode cX8_thrown 0 = .ok (.aload_n 0, 1) := d_42 (by decide +kernel)
theorem dX8_thrown_1 : decode cX8_thrown 1 = .ok (.getfield 49, 3) := d_180 (by decide +kernel)
theorem dX8_thrown_4 : decode cX8_thrown 4 = .ok (.ireturn, 1) := d_172 (by decide +kernel)
