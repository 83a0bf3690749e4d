theorem ok_23 : okM 23 wp_23 = true := by decide +kernel
theorem ok_32 : okM 32 wp_32 = true := by decide +kernel
theorem ok_107 : okM 107 wp_107 = true := by decide +kernel
theorem ok_111 : okM 111 wp_111 = true := by decide +kernel
theorem ok_159 : okM 159 wp_159 = true := by decide +kernel
