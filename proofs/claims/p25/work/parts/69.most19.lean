theorem qmo_79_12 : mntF 524 Smo_79z = Smo_79_12 := fa (S := Smo_79_11) (d := 9) (L := Lmo_79_12) qmo_79_11 pmo_79_12 (by decide +kernel) (by decide +kernel) rfl
theorem qmo_79_13 : mntF 525 Smo_79z = Smo_79_13 := fa (S := Smo_79_12) (d := 1) (L := Lmo_79_13) qmo_79_12 pmo_79_13 (by decide +kernel) (by decide +kernel) rfl
theorem qmo_79_14 : mntF 526 Smo_79z = Smo_79_14 := fa (S := Smo_79_13) (d := 1) (L := Lmo_79_14) qmo_79_13 pmo_79_14 (by decide +kernel) (by decide +kernel) rfl
theorem qmo_79_15 : mntF 535 Smo_79z = Smo_79_15 := fa (S := Smo_79_14) (d := 9) (L := Lmo_79_15) qmo_79_14 pmo_79_15 (by decide +kernel) (by decide +kernel) rfl
theorem qmo_79_16 : mntF 536 Smo_79z = Smo_79_16 := fa (S := Smo_79_15) (d := 1) (L := Lmo_79_16) qmo_79_15 pmo_79_16 (by decide +kernel) (by decide +kernel) rfl
theorem qmo_79_17 : mntF 1439 Smo_79z = Smo_79_17 := fa (S := Smo_79_16) (d := 903) (L := Lmo_79_17) qmo_79_16 pmo_79_17 (by decide +kernel) (by decide +kernel) rfl
theorem qmo_79_18r0 : retF 10 0 Smo_79_18u = Smo_79_18r0 := ret_q (D := Smo_79_18u) (a := 0) (d := 10) (L := Lmo_79_18r0) rfl pmo_79_18r0 rfl
theorem qmo_79_18r10 : retF 20 0 Smo_79_18u = Smo_79_18r10 := ret_q (D := Smo_79_18r0) (a := 10) (d := 10) (L := Lmo_79_18r10) qmo_79_18r0 pmo_79_18r10 rfl
theorem qmo_79_18r20 : retF 30 0 Smo_79_18u = Smo_79_18r20 := ret_q (D := Smo_79_18r10) (a := 20) (d := 10) (L := Lmo_79_18r20) qmo_79_18r10 pmo_79_18r20 rfl
theorem qmo_79_18r30 : retF 40 0 Smo_79_18u = Smo_79_18r30 := ret_q (D := Smo_79_18r20) (a := 30) (d := 10) (L := Lmo_79_18r30) qmo_79_18r20 pmo_79_18r30 rfl
theorem qmo_79_18d0 : dlvF 10 0 Smo_79_18r30 = Smo_79_18d0 := dlv_q (D := Smo_79_18r30) (a := 0) (d := 10) (L := Lmo_79_18d0) rfl pmo_79_18d0 rfl
theorem qmo_79_18d10 : dlvF 20 0 Smo_79_18r30 = Smo_79_18d10 := dlv_q (D := Smo_79_18d0) (a := 10) (d := 10) (L := Lmo_79_18d10) qmo_79_18d0 pmo_79_18d10 rfl
theorem qmo_79_18d20 : dlvF 30 0 Smo_79_18r30 = Smo_79_18d20 := dlv_q (D := Smo_79_18d10) (a := 20) (d := 10) (L := Lmo_79_18d20) qmo_79_18d10 pmo_79_18d20 rfl
theorem qmo_79_18d30 : dlvF 40 0 Smo_79_18r30 = Smo_79_18d30 := dlv_q (D := Smo_79_18d20) (a := 30) (d := 10) (L := Lmo_79_18d30) qmo_79_18d20 pmo_79_18d30 rfl
theorem qmo_79_18 : mntF 1440 Smo_79z = Smo_79_18 := day_q (S := Smo_79_17) (U := Smo_79_18u) (R := Smo_79_18r30) (D := Smo_79_18d30) (n := 40) (k := 1439) qmo_79_17 (pat_eq pmo_79_18u).symm (by decide +kernel) (by decide +kernel) qmo_79_18r30 qmo_79_18d30 (pat_eq pmo_79_18).symm rfl
theorem qmo_79_19 : mntF 3000 Smo_79z = Smo_79_19 := fa (S := Smo_79_18) (d := 1560) (L := Lmo_79_19) qmo_79_18 pmo_79_19 (by decide +kernel) (by decide +kernel) rfl


