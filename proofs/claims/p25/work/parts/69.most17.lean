theorem qmo_79_6 : mntF 494 Smo_79z = Smo_79_6 := fa (S := Smo_79_5) (d := 1) (L := Lmo_79_6) qmo_79_5 pmo_79_6 (by decide +kernel) (by decide +kernel) rfl
theorem qmo_79_7 : mntF 503 Smo_79z = Smo_79_7 := fa (S := Smo_79_6) (d := 9) (L := Lmo_79_7) qmo_79_6 pmo_79_7 (by decide +kernel) (by decide +kernel) rfl
theorem qmo_79_8 : mntF 504 Smo_79z = Smo_79_8 := fa (S := Smo_79_7) (d := 1) (L := Lmo_79_8) qmo_79_7 pmo_79_8 (by decide +kernel) (by decide +kernel) rfl
theorem qmo_79_9 : mntF 505 Smo_79z = Smo_79_9 := fa (S := Smo_79_8) (d := 1) (L := Lmo_79_9) qmo_79_8 pmo_79_9 (by decide +kernel) (by decide +kernel) rfl
theorem qmo_79_10 : mntF 514 Smo_79z = Smo_79_10 := fa (S := Smo_79_9) (d := 9) (L := Lmo_79_10) qmo_79_9 pmo_79_10 (by decide +kernel) (by decide +kernel) rfl
theorem qmo_79_11 : mntF 515 Smo_79z = Smo_79_11 := fa (S := Smo_79_10) (d := 1) (L := Lmo_79_11) qmo_79_10 pmo_79_11 (by decide +kernel) (by decide +kernel) rfl
theorem qmo_79_12 : mntF 524 Smo_79z = Smo_79_12 := fa (S := Smo_79_11) (d := 9) (L := Lmo_79_12) qmo_79_11 pmo_79_12 (by decide +kernel) (by decide +kernel) rfl
theorem qmo_79_13 : mntF 525 Smo_79z = Smo_79_13 := fa (S := Smo_79_12) (d := 1) (L := Lmo_79_13) qmo_79_12 pmo_79_13 (by decide +kernel) (by decide +kernel) rfl
theorem qmo_79_14 : mntF 526 Smo_79z = Smo_79_14 := fa (S := Smo_79_13) (d := 1) (L := Lmo_79_14) qmo_79_13 pmo_79_14 (by decide +kernel) (by decide +kernel) rfl
theorem qmo_79_15 : mntF 535 Smo_79z = Smo_79_15 := fa (S := Smo_79_14) (d := 9) (L := Lmo_79_15) qmo_79_14 pmo_79_15 (by decide +kernel) (by decide +kernel) rfl
theorem qmo_79_16 : mntF 536 Smo_79z = Smo_79_16 := fa (S := Smo_79_15) (d := 1) (L := Lmo_79_16) qmo_79_15 pmo_79_16 (by decide +kernel) (by decide +kernel) rfl
theorem qmo_79_17 : mntF 1440 Smo_79z = Smo_79_17 := fa (S := Smo_79_16) (d := 904) (L := Lmo_79_17) qmo_79_16 pmo_79_17 (by decide +kernel) (by decide +kernel) rfl
theorem qmo_79_18 : mntF 3000 Smo_79z = Smo_79_18 := fa (S := Smo_79_17) (d := 1560) (L := Lmo_79_18) qmo_79_17 pmo_79_18 (by decide +kernel) (by decide +kernel) rfl




theorem emo_79 : sZ 21 Smo_79a [3000] = Smo_79_18 := pass_Z (n := 3000) rfl qmo_79_18
