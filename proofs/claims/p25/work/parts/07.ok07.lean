theorem ok_170_2 : okR 170 wp_170 200 100 = true := by decide +kernel
theorem ok_170_3 : okR 170 wp_170 300 100 = true := by decide +kernel
theorem ok_170_4 : okR 170 wp_170 400 100 = true := by decide +kernel
theorem ok_170_5 : okR 170 wp_170 500 100 = true := by decide +kernel
theorem ok_170_6 : okR 170 wp_170 600 89 = true := by decide +kernel
theorem ok_170 : okR 170 wp_170 0 689 = true := (okR_add (lo := 0) (n := 600) (n2 := 89) (lo2 := 600) (n3 := 689) (okR_add (lo := 0) (n := 500) (n2 := 100) (lo2 := 500) (n3 := 600) (okR_add (lo := 0) (n := 400) (n2 := 100) (lo2 := 400) (n3 := 500) (okR_add (lo := 0) (n := 300) (n2 := 100) (lo2 := 300) (n3 := 400) (okR_add (lo := 0) (n := 200) (n2 := 100) (lo2 := 200) (n3 := 300) (okR_add (lo := 0) (n := 100) (n2 := 100) (lo2 := 100) (n3 := 200) ok_170_0 ok_170_1 (by decide) (by decide)) ok_170_2 (by decide) (by decide)) ok_170_3 (by decide) (by decide)) ok_170_4 (by decide) (by decide)) ok_170_5 (by decide) (by decide)) ok_170_6 (by decide) (by decide))
theorem ok_171 : okR 171 wp_171 0 245 = true := by decide +kernel
theorem ok_172_0 : okR 172 wp_172 0 100 = true := by decide +kernel
theorem ok_172_1 : okR 172 wp_172 100 100 = true := by decide +kernel
theorem ok_172_2 : okR 172 wp_172 200 100 = true := by decide +kernel
theorem ok_172_3 : okR 172 wp_172 300 100 = true := by decide +kernel
theorem ok_172_4 : okR 172 wp_172 400 100 = true := by decide +kernel
