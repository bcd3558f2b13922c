theorem uX0 : ∀ w ∈ u_ws RX0 TX0 9, w ∈ zTbl := by decide +kernel
theorem uX1 : ∀ w ∈ u_ws RX1 TX1 5, w ∈ zTbl := by decide +kernel
theorem uX2 : ∀ w ∈ u_ws RX2 TX2 2, w ∈ zTbl := by decide +kernel
theorem uX3 : ∀ w ∈ u_ws RX3 TX3 4, w ∈ zTbl := by decide +kernel
theorem uX4 : ∀ w ∈ u_ws RX4 TX4 11, w ∈ zTbl := by decide +kernel
theorem uX5 : ∀ w ∈ u_ws RX5 TX5 10, w ∈ zTbl := by decide +kernel
theorem uX6 : ∀ w ∈ u_ws RX6 TX6 2, w ∈ zTbl := by decide +kernel
theorem uX7 : ∀ w ∈ u_ws RX7 TX7 13, w ∈ zTbl := by decide +kernel
theorem uX8 : ∀ w ∈ u_ws RX8 TX8 33, w ∈ zTbl := by decide +kernel
theorem ftX0_0 : zFty 0 0 .int false := fun r hr => by cases hr; exact ⟨tyX0, tyX0_ok, nmX0, by decide +kernel, rfl⟩
theorem ftX0_1 : zFty 0 1 .int false := fun r hr => by cases hr; exact ⟨tyX0, tyX0_ok, nmX0, by decide +kernel, rfl⟩
theorem ftX0_2 : zFty 0 2 .int false := fun r hr => by cases hr; exact ⟨tyX0, tyX0_ok, nmX0, by decide +kernel, rfl⟩
theorem ftX0_3 : zFty 0 3 .int false := fun r hr => by cases hr; exact ⟨tyX0, tyX0_ok, nmX0, by decide +kernel, rfl⟩
theorem ftX0_4 : zFty 0 4 (.array .int) true := fun r hr => by cases hr; exact ⟨tyX0, tyX0_ok, nmX0, by decide +kernel, rfl⟩
theorem ftX0_5 : zFty 0 5 (.array .int) true := fun r hr => by cases hr; exact ⟨tyX0, tyX0_ok, nmX0, by decide +kernel, rfl⟩
theorem ftX0_6 : zFty 0 6 (.array .int) true := fun r hr => by cases hr; exact ⟨tyX0, tyX0_ok, nmX0, by decide +kernel, rfl⟩
theorem ftX0_7 : zFty 0 7 (.array .int) true := fun r hr => by cases hr; exact ⟨tyX0, tyX0_ok, nmX0, by decide +kernel, rfl⟩
theorem ftX0_8 : zFty 0 8 (.array .int) true := fun r hr => by cases hr; exact ⟨tyX0, tyX0_ok, nmX0, by decide +kernel, rfl⟩
theorem ftX1_0 : zFty 1 0 .int false := fun r hr => by cases hr; exact ⟨tyX1, tyX1_ok, nmX1, by decide +kernel, rfl⟩
theorem ftX1_1 : zFty 1 1 (.array .int) true := fun r hr => by cases hr; exact ⟨tyX1, tyX1_ok, nmX1, by decide +kernel, rfl⟩
theorem ftX1_2 : zFty 1 2 (.array .int) true := fun r hr => by cases hr; exact ⟨tyX1, tyX1_ok, nmX1, by decide +kernel, rfl⟩
theorem ftX1_3 : zFty 1 3 (.array .int) true := fun r hr => by cases hr; exact ⟨tyX1, tyX1_ok, nmX1, by decide +kernel, rfl⟩
theorem ftX1_4 : zFty 1 4 .int false := fun r hr => by cases hr; exact ⟨tyX1, tyX1_ok, nmX1, by decide +kernel, rfl⟩
theorem ftX2_0 : zFty 2 0 (.array (.object "ShakenParcels$Scene")) true := fun r hr => by cases hr; exact ⟨tyX2, tyX2_ok, nmX2, by decide +kernel, rfl⟩
theorem ftX2_1 : zFty 2 1 .int false := fun r hr => by cases hr; exact ⟨tyX2, tyX2_ok, nmX2, by decide +kernel, rfl⟩
theorem ftX3_0 : zFty 3 0 (.array .char) true := fun r hr => by cases hr; exact ⟨tyX3, tyX3_ok, nmX3, by decide +kernel, rfl⟩
theorem ftX3_1 : zFty 3 1 .int false := fun r hr => by cases hr; exact ⟨tyX3, tyX3_ok, nmX3, by decide +kernel, rfl⟩
theorem ftX3_2 : zFty 3 2 (.array .int) true := fun r hr => by cases hr; exact ⟨tyX3, tyX3_ok, nmX3, by decide +kernel, rfl⟩
theorem ftX3_3 : zFty 3 3 .int false := fun r hr => by cases hr; exact ⟨tyX3, tyX3_ok, nmX3, by decide +kernel, rfl⟩
theorem ftX4_0 : zFty 4 0 (.array .int) true := fun r hr => by cases hr; exact ⟨tyX4, tyX4_ok, nmX4, by decide +kernel, rfl⟩
theorem ftX4_1 : zFty 4 1 (.array .int) true := fun r hr => by cases hr; exact ⟨tyX4, tyX4_ok, nmX4, by decide +kernel, rfl⟩
theorem ftX4_2 : zFty 4 2 (.array .int) true := fun r hr => by cases hr; exact ⟨tyX4, tyX4_ok, nmX4, by decide +kernel, rfl⟩
theorem ftX4_3 : zFty 4 3 (.array .int) true := fun r hr => by cases hr; exact ⟨tyX4, tyX4_ok, nmX4, by decide +kernel, rfl⟩
theorem ftX4_4 : zFty 4 4 .int false := fun r hr => by cases hr; exact ⟨tyX4, tyX4_ok, nmX4, by decide +kernel, rfl⟩
theorem ftX4_5 : zFty 4 5 (.array .int) true := fun r hr => by cases hr; exact ⟨tyX4, tyX4_ok, nmX4, by decide +kernel, rfl⟩
theorem ftX4_6 : zFty 4 6 (.array .int) true := fun r hr => by cases hr; exact ⟨tyX4, tyX4_ok, nmX4, by decide +kernel, rfl⟩
theorem ftX4_7 : zFty 4 7 (.array .int) true := fun r hr => by cases hr; exact ⟨tyX4, tyX4_ok, nmX4, by decide +kernel, rfl⟩
theorem ftX4_8 : zFty 4 8 .int false := fun r hr => by cases hr; exact ⟨tyX4, tyX4_ok, nmX4, by decide +kernel, rfl⟩
theorem ftX4_9 : zFty 4 9 .int false := fun r hr => by cases hr; exact ⟨tyX4, tyX4_ok, nmX4, by decide +kernel, rfl⟩
theorem ftX4_10 : zFty 4 10 .int false := fun r hr => by cases hr; exact ⟨tyX4, tyX4_ok, nmX4, by decide +kernel, rfl⟩
theorem ftX5_0 : zFty 5 0 (.object "ShakenParcels$Things") true := fun r hr => by cases hr; exact ⟨tyX5, tyX5_ok, nmX5, by decide +kernel, rfl⟩
theorem ftX5_1 : zFty 5 1 (.array .int) true := fun r hr => by cases hr; exact ⟨tyX5, tyX5_ok, nmX5, by decide +kernel, rfl⟩
theorem ftX5_2 : zFty 5 2 (.array .int) true := fun r hr => by cases hr; exact ⟨tyX5, tyX5_ok, nmX5, by decide +kernel, rfl⟩
theorem ftX5_3 : zFty 5 3 (.array .int) true := fun r hr => by cases hr; exact ⟨tyX5, tyX5_ok, nmX5, by decide +kernel, rfl⟩
theorem ftX5_4 : zFty 5 4 .int false := fun r hr => by cases hr; exact ⟨tyX5, tyX5_ok, nmX5, by decide +kernel, rfl⟩
theorem ftX5_5 : zFty 5 5 .int false := fun r hr => by cases hr; exact ⟨tyX5, tyX5_ok, nmX5, by decide +kernel, rfl⟩
theorem ftX5_6 : zFty 5 6 .int false := fun r hr => by cases hr; exact ⟨tyX5, tyX5_ok, nmX5, by decide +kernel, rfl⟩
theorem ftX5_7 : zFty 5 7 .int false := fun r hr => by cases hr; exact ⟨tyX5, tyX5_ok, nmX5, by decide +kernel, rfl⟩
theorem ftX5_8 : zFty 5 8 (.array .int) true := fun r hr => by cases hr; exact ⟨tyX5, tyX5_ok, nmX5, by decide +kernel, rfl⟩
theorem ftX5_9 : zFty 5 9 (.array .int) true := fun r hr => by cases hr; exact ⟨tyX5, tyX5_ok, nmX5, by decide +kernel, rfl⟩
theorem ftX6_0 : zFty 6 0 (.array .int) false := fun r hr => by cases hr; exact ⟨tyX6, tyX6_ok, nmX6, by decide +kernel, rfl⟩
theorem ftX6_1 : zFty 6 1 .int false := fun r hr => by cases hr; exact ⟨tyX6, tyX6_ok, nmX6, by decide +kernel, rfl⟩
theorem ftX7_0 : zFty 7 0 (.object "ShakenParcels$Text") true := fun r hr => by cases hr; exact ⟨tyX7, tyX7_ok, nmX7, by decide +kernel, rfl⟩
theorem ftX7_1 : zFty 7 1 (.object "ShakenParcels$Tree") false := fun r hr => by cases hr; exact ⟨tyX7, tyX7_ok, nmX7, by decide +kernel, rfl⟩
theorem ftX7_2 : zFty 7 2 (.object "ShakenParcels$Tree") false := fun r hr => by cases hr; exact ⟨tyX7, tyX7_ok, nmX7, by decide +kernel, rfl⟩
theorem ftX7_3 : zFty 7 3 (.object "ShakenParcels$Worlds") true := fun r hr => by cases hr; exact ⟨tyX7, tyX7_ok, nmX7, by decide +kernel, rfl⟩
theorem ftX7_4 : zFty 7 4 (.object "ShakenParcels$Worlds") true := fun r hr => by cases hr; exact ⟨tyX7, tyX7_ok, nmX7, by decide +kernel, rfl⟩
theorem ftX7_5 : zFty 7 5 (.object "ShakenParcels$Worlds") true := fun r hr => by cases hr; exact ⟨tyX7, tyX7_ok, nmX7, by decide +kernel, rfl⟩
theorem ftX7_6 : zFty 7 6 (.object "ShakenParcels$Finder") true := fun r hr => by cases hr; exact ⟨tyX7, tyX7_ok, nmX7, by decide +kernel, rfl⟩
theorem ftX7_7 : zFty 7 7 (.object "ShakenParcels$Scene") true := fun r hr => by cases hr; exact ⟨tyX7, tyX7_ok, nmX7, by decide +kernel, rfl⟩
theorem ftX7_8 : zFty 7 8 (.object "ShakenParcels$Scenes") true := fun r hr => by cases hr; exact ⟨tyX7, tyX7_ok, nmX7, by decide +kernel, rfl⟩
theorem ftX7_9 : zFty 7 9 (.object "ShakenParcels$Scenes") true := fun r hr => by cases hr; exact ⟨tyX7, tyX7_ok, nmX7, by decide +kernel, rfl⟩
theorem ftX7_10 : zFty 7 10 (.array .long) true := fun r hr => by cases hr; exact ⟨tyX7, tyX7_ok, nmX7, by decide +kernel, rfl⟩
theorem ftX7_11 : zFty 7 11 .boolean false := fun r hr => by cases hr; exact ⟨tyX7, tyX7_ok, nmX7, by decide +kernel, rfl⟩
theorem ftX7_12 : zFty 7 12 .int false := fun r hr => by cases hr; exact ⟨tyX7, tyX7_ok, nmX7, by decide +kernel, rfl⟩
theorem ftX8_0 : zFty 8 0 .int false := fun r hr => by cases hr; exact ⟨tyX8, tyX8_ok, nmX8, by decide +kernel, rfl⟩
theorem ftX8_1 : zFty 8 1 (.array .int) true := fun r hr => by cases hr; exact ⟨tyX8, tyX8_ok, nmX8, by decide +kernel, rfl⟩
theorem ftX8_2 : zFty 8 2 (.array .int) true := fun r hr => by cases hr; exact ⟨tyX8, tyX8_ok, nmX8, by decide +kernel, rfl⟩
theorem ftX8_3 : zFty 8 3 (.array .int) true := fun r hr => by cases hr; exact ⟨tyX8, tyX8_ok, nmX8, by decide +kernel, rfl⟩
theorem ftX8_4 : zFty 8 4 (.array .int) true := fun r hr => by cases hr; exact ⟨tyX8, tyX8_ok, nmX8, by decide +kernel, rfl⟩
theorem ftX8_5 : zFty 8 5 (.array .int) true := fun r hr => by cases hr; exact ⟨tyX8, tyX8_ok, nmX8, by decide +kernel, rfl⟩
theorem ftX8_6 : zFty 8 6 (.array .int) true := fun r hr => by cases hr; exact ⟨tyX8, tyX8_ok, nmX8, by decide +kernel, rfl⟩
theorem ftX8_7 : zFty 8 7 (.array .int) true := fun r hr => by cases hr; exact ⟨tyX8, tyX8_ok, nmX8, by decide +kernel, rfl⟩
theorem ftX8_8 : zFty 8 8 (.array .int) true := fun r hr => by cases hr; exact ⟨tyX8, tyX8_ok, nmX8, by decide +kernel, rfl⟩
theorem ftX8_9 : zFty 8 9 (.array .int) true := fun r hr => by cases hr; exact ⟨tyX8, tyX8_ok, nmX8, by decide +kernel, rfl⟩
theorem ftX8_10 : zFty 8 10 (.array .int) true := fun r hr => by cases hr; exact ⟨tyX8, tyX8_ok, nmX8, by decide +kernel, rfl⟩
theorem ftX8_11 : zFty 8 11 (.array .int) true := fun r hr => by cases hr; exact ⟨tyX8, tyX8_ok, nmX8, by decide +kernel, rfl⟩
theorem ftX8_12 : zFty 8 12 (.array .int) true := fun r hr => by cases hr; exact ⟨tyX8, tyX8_ok, nmX8, by decide +kernel, rfl⟩
theorem ftX8_13 : zFty 8 13 (.array .int) true := fun r hr => by cases hr; exact ⟨tyX8, tyX8_ok, nmX8, by decide +kernel, rfl⟩
theorem ftX8_14 : zFty 8 14 (.array .int) true := fun r hr => by cases hr; exact ⟨tyX8, tyX8_ok, nmX8, by decide +kernel, rfl⟩
theorem ftX8_15 : zFty 8 15 (.array .int) true := fun r hr => by cases hr; exact ⟨tyX8, tyX8_ok, nmX8, by decide +kernel, rfl⟩
theorem ftX8_16 : zFty 8 16 (.array .int) true := fun r hr => by cases hr; exact ⟨tyX8, tyX8_ok, nmX8, by decide +kernel, rfl⟩
theorem ftX8_17 : zFty 8 17 .int false := fun r hr => by cases hr; exact ⟨tyX8, tyX8_ok, nmX8, by decide +kernel, rfl⟩
theorem ftX8_18 : zFty 8 18 (.array .int) true := fun r hr => by cases hr; exact ⟨tyX8, tyX8_ok, nmX8, by decide +kernel, rfl⟩
theorem ftX8_19 : zFty 8 19 (.array .int) true := fun r hr => by cases hr; exact ⟨tyX8, tyX8_ok, nmX8, by decide +kernel, rfl⟩
theorem ftX8_20 : zFty 8 20 .int false := fun r hr => by cases hr; exact ⟨tyX8, tyX8_ok, nmX8, by decide +kernel, rfl⟩
theorem ftX8_21 : zFty 8 21 (.array .int) true := fun r hr => by cases hr; exact ⟨tyX8, tyX8_ok, nmX8, by decide +kernel, rfl⟩
theorem ftX8_22 : zFty 8 22 .int false := fun r hr => by cases hr; exact ⟨tyX8, tyX8_ok, nmX8, by decide +kernel, rfl⟩
theorem ftX8_23 : zFty 8 23 .int false := fun r hr => by cases hr; exact ⟨tyX8, tyX8_ok, nmX8, by decide +kernel, rfl⟩
theorem ftX8_24 : zFty 8 24 (.array .int) true := fun r hr => by cases hr; exact ⟨tyX8, tyX8_ok, nmX8, by decide +kernel, rfl⟩
theorem ftX8_25 : zFty 8 25 (.array .int) true := fun r hr => by cases hr; exact ⟨tyX8, tyX8_ok, nmX8, by decide +kernel, rfl⟩
theorem ftX8_26 : zFty 8 26 (.array .boolean) true := fun r hr => by cases hr; exact ⟨tyX8, tyX8_ok, nmX8, by decide +kernel, rfl⟩
theorem ftX8_27 : zFty 8 27 (.array .long) true := fun r hr => by cases hr; exact ⟨tyX8, tyX8_ok, nmX8, by decide +kernel, rfl⟩
theorem ftX8_28 : zFty 8 28 (.array .int) true := fun r hr => by cases hr; exact ⟨tyX8, tyX8_ok, nmX8, by decide +kernel, rfl⟩
theorem ftX8_29 : zFty 8 29 .int false := fun r hr => by cases hr; exact ⟨tyX8, tyX8_ok, nmX8, by decide +kernel, rfl⟩
theorem ftX8_30 : zFty 8 30 (.array .int) true := fun r hr => by cases hr; exact ⟨tyX8, tyX8_ok, nmX8, by decide +kernel, rfl⟩
theorem ftX8_31 : zFty 8 31 (.array .boolean) true := fun r hr => by cases hr; exact ⟨tyX8, tyX8_ok, nmX8, by decide +kernel, rfl⟩
theorem ftX8_32 : zFty 8 32 .int false := fun r hr => by cases hr; exact ⟨tyX8, tyX8_ok, nmX8, by decide +kernel, rfl⟩
theorem flX3_9 : zFld RX3 9 3 0 := ⟨(RX3, TX3, 4), rfl, by decide, rfl, uX3, Or.inl (zmem 93 (by decide +kernel) rfl)⟩
theorem fkX3_9 : Cond.fieldLink RX3 9 RX3 "letters" "[C" ∈ zTbl := zmem 93 (by decide +kernel) rfl
theorem flX3_19 : zFld RX3 19 3 1 := ⟨(RX3, TX3, 4), rfl, by decide, rfl, uX3, Or.inl (zmem 94 (by decide +kernel) rfl)⟩
theorem flX3_15 : zFld RX3 15 3 2 := ⟨(RX3, TX3, 4), rfl, by decide, rfl, uX3, Or.inl (zmem 96 (by decide +kernel) rfl)⟩
theorem fkX3_15 : Cond.fieldLink RX3 15 RX3 "numbers" "[I" ∈ zTbl := zmem 96 (by decide +kernel) rfl
theorem flX3_35 : zFld RX3 35 3 3 := ⟨(RX3, TX3, 4), rfl, by decide, rfl, uX3, Or.inl (zmem 97 (by decide +kernel) rfl)⟩
theorem flX4_9 : zFld RX4 9 4 0 := ⟨(RX4, TX4, 11), rfl, by decide, rfl, uX4, Or.inl (zmem 121 (by decide +kernel) rfl)⟩
theorem fkX4_9 : Cond.fieldLink RX4 9 RX4 "weight" "[I" ∈ zTbl := zmem 121 (by decide +kernel) rfl
theorem flX4_15 : zFld RX4 15 4 1 := ⟨(RX4, TX4, 11), rfl, by decide, rfl, uX4, Or.inl (zmem 123 (by decide +kernel) rfl)⟩
theorem fkX4_15 : Cond.fieldLink RX4 15 RX4 "kind" "[I" ∈ zTbl := zmem 123 (by decide +kernel) rfl
theorem flX4_18 : zFld RX4 18 4 2 := ⟨(RX4, TX4, 11), rfl, by decide, rfl, uX4, Or.inl (zmem 125 (by decide +kernel) rfl)⟩
theorem fkX4_18 : Cond.fieldLink RX4 18 RX4 "worth" "[I" ∈ zTbl := zmem 125 (by decide +kernel) rfl
theorem flX4_21 : zFld RX4 21 4 3 := ⟨(RX4, TX4, 11), rfl, by decide, rfl, uX4, Or.inl (zmem 127 (by decide +kernel) rfl)⟩
theorem fkX4_21 : Cond.fieldLink RX4 21 RX4 "chance" "[I" ∈ zTbl := zmem 127 (by decide +kernel) rfl
theorem flX4_33 : zFld RX4 33 4 4 := ⟨(RX4, TX4, 11), rfl, by decide, rfl, uX4, Or.inl (zmem 129 (by decide +kernel) rfl)⟩
theorem flX4_24 : zFld RX4 24 4 5 := ⟨(RX4, TX4, 11), rfl, by decide, rfl, uX4, Or.inl (zmem 133 (by decide +kernel) rfl)⟩
theorem fkX4_24 : Cond.fieldLink RX4 24 RX4 "weightOfSet" "[I" ∈ zTbl := zmem 133 (by decide +kernel) rfl
theorem flX4_27 : zFld RX4 27 4 6 := ⟨(RX4, TX4, 11), rfl, by decide, rfl, uX4, Or.inl (zmem 135 (by decide +kernel) rfl)⟩
theorem fkX4_27 : Cond.fieldLink RX4 27 RX4 "worthOfSet" "[I" ∈ zTbl := zmem 135 (by decide +kernel) rfl
theorem flX4_30 : zFld RX4 30 4 7 := ⟨(RX4, TX4, 11), rfl, by decide, rfl, uX4, Or.inl (zmem 137 (by decide +kernel) rfl)⟩
theorem fkX4_30 : Cond.fieldLink RX4 30 RX4 "chanceOfSet" "[I" ∈ zTbl := zmem 137 (by decide +kernel) rfl
theorem flX4_37 : zFld RX4 37 4 8 := ⟨(RX4, TX4, 11), rfl, by decide, rfl, uX4, Or.inl (zmem 139 (by decide +kernel) rfl)⟩
theorem flX4_40 : zFld RX4 40 4 9 := ⟨(RX4, TX4, 11), rfl, by decide, rfl, uX4, Or.inl (zmem 140 (by decide +kernel) rfl)⟩
theorem flX4_43 : zFld RX4 43 4 10 := ⟨(RX4, TX4, 11), rfl, by decide, rfl, uX4, Or.inl (zmem 141 (by decide +kernel) rfl)⟩
theorem flX5_12 : zFld RX5 12 5 0 := ⟨(RX5, TX5, 10), rfl, by decide, rfl, uX5, Or.inl (zmem 165 (by decide +kernel) rfl)⟩
theorem fkX5_12 : Cond.fieldLink RX5 12 RX5 "things" "LShakenParcels$Things;" ∈ zTbl := zmem 165 (by decide +kernel) rfl
theorem flX5_18 : zFld RX5 18 5 1 := ⟨(RX5, TX5, 10), rfl, by decide, rfl, uX5, Or.inl (zmem 168 (by decide +kernel) rfl)⟩
theorem fkX5_18 : Cond.fieldLink RX5 18 RX5 "box" "[I" ∈ zTbl := zmem 168 (by decide +kernel) rfl
theorem flX5_22 : zFld RX5 22 5 2 := ⟨(RX5, TX5, 10), rfl, by decide, rfl, uX5, Or.inl (zmem 170 (by decide +kernel) rfl)⟩
theorem fkX5_22 : Cond.fieldLink RX5 22 RX5 "child" "[I" ∈ zTbl := zmem 170 (by decide +kernel) rfl
theorem flX5_25 : zFld RX5 25 5 3 := ⟨(RX5, TX5, 10), rfl, by decide, rfl, uX5, Or.inl (zmem 172 (by decide +kernel) rfl)⟩
theorem fkX5_25 : Cond.fieldLink RX5 25 RX5 "room" "[I" ∈ zTbl := zmem 172 (by decide +kernel) rfl
theorem flX5_41 : zFld RX5 41 5 4 := ⟨(RX5, TX5, 10), rfl, by decide, rfl, uX5, Or.inl (zmem 174 (by decide +kernel) rfl)⟩
theorem flX5_44 : zFld RX5 44 5 5 := ⟨(RX5, TX5, 10), rfl, by decide, rfl, uX5, Or.inl (zmem 177 (by decide +kernel) rfl)⟩
theorem flX5_28 : zFld RX5 28 5 6 := ⟨(RX5, TX5, 10), rfl, by decide, rfl, uX5, Or.inl (zmem 179 (by decide +kernel) rfl)⟩
theorem flX5_47 : zFld RX5 47 5 7 := ⟨(RX5, TX5, 10), rfl, by decide, rfl, uX5, Or.inl (zmem 180 (by decide +kernel) rfl)⟩
theorem flX5_32 : zFld RX5 32 5 8 := ⟨(RX5, TX5, 10), rfl, by decide, rfl, uX5, Or.inl (zmem 181 (by decide +kernel) rfl)⟩
theorem fkX5_32 : Cond.fieldLink RX5 32 RX5 "noticed" "[I" ∈ zTbl := zmem 181 (by decide +kernel) rfl
theorem flX5_35 : zFld RX5 35 5 9 := ⟨(RX5, TX5, 10), rfl, by decide, rfl, uX5, Or.inl (zmem 183 (by decide +kernel) rfl)⟩
theorem fkX5_35 : Cond.fieldLink RX5 35 RX5 "lasting" "[I" ∈ zTbl := zmem 183 (by decide +kernel) rfl
theorem flX6_7 : zFld RX6 7 6 0 := ⟨(RX6, TX6, 2), rfl, by decide, rfl, uX6, Or.inl (zmem 213 (by decide +kernel) rfl)⟩
theorem flX6_13 : zFld RX6 13 6 1 := ⟨(RX6, TX6, 2), rfl, by decide, rfl, uX6, Or.inl (zmem 215 (by decide +kernel) rfl)⟩
theorem flX0_27 : zFld RX0 27 0 0 := ⟨(RX0, TX0, 9), rfl, by decide, rfl, uX0, Or.inl (zmem 228 (by decide +kernel) rfl)⟩
theorem flX0_36 : zFld RX0 36 0 1 := ⟨(RX0, TX0, 9), rfl, by decide, rfl, uX0, Or.inl (zmem 230 (by decide +kernel) rfl)⟩
theorem flX0_86 : zFld RX0 86 0 2 := ⟨(RX0, TX0, 9), rfl, by decide, rfl, uX0, Or.inl (zmem 232 (by decide +kernel) rfl)⟩
theorem flX0_89 : zFld RX0 89 0 3 := ⟨(RX0, TX0, 9), rfl, by decide, rfl, uX0, Or.inl (zmem 234 (by decide +kernel) rfl)⟩
theorem flX0_9 : zFld RX0 9 0 4 := ⟨(RX0, TX0, 9), rfl, by decide, rfl, uX0, Or.inl (zmem 236 (by decide +kernel) rfl)⟩
theorem fkX0_9 : Cond.fieldLink RX0 9 RX0 "bySet" "[I" ∈ zTbl := zmem 236 (by decide +kernel) rfl
theorem flX0_15 : zFld RX0 15 0 5 := ⟨(RX0, TX0, 9), rfl, by decide, rfl, uX0, Or.inl (zmem 237 (by decide +kernel) rfl)⟩
theorem fkX0_15 : Cond.fieldLink RX0 15 RX0 "byReply" "[I" ∈ zTbl := zmem 237 (by decide +kernel) rfl
theorem flX0_18 : zFld RX0 18 0 6 := ⟨(RX0, TX0, 9), rfl, by decide, rfl, uX0, Or.inl (zmem 239 (by decide +kernel) rfl)⟩
theorem fkX0_18 : Cond.fieldLink RX0 18 RX0 "starts" "[I" ∈ zTbl := zmem 239 (by decide +kernel) rfl
theorem flX0_21 : zFld RX0 21 0 7 := ⟨(RX0, TX0, 9), rfl, by decide, rfl, uX0, Or.inl (zmem 240 (by decide +kernel) rfl)⟩
theorem fkX0_21 : Cond.fieldLink RX0 21 RX0 "known" "[I" ∈ zTbl := zmem 240 (by decide +kernel) rfl
theorem flX0_24 : zFld RX0 24 0 8 := ⟨(RX0, TX0, 9), rfl, by decide, rfl, uX0, Or.inl (zmem 241 (by decide +kernel) rfl)⟩
theorem fkX0_24 : Cond.fieldLink RX0 24 RX0 "replyOfSet" "[I" ∈ zTbl := zmem 241 (by decide +kernel) rfl
theorem flX1_21 : zFld RX1 21 1 0 := ⟨(RX1, TX1, 5), rfl, by decide, rfl, uX1, Or.inl (zmem 267 (by decide +kernel) rfl)⟩
theorem flX1_9 : zFld RX1 9 1 1 := ⟨(RX1, TX1, 5), rfl, by decide, rfl, uX1, Or.inl (zmem 269 (by decide +kernel) rfl)⟩
theorem fkX1_9 : Cond.fieldLink RX1 9 RX1 "hidden" "[I" ∈ zTbl := zmem 269 (by decide +kernel) rfl
theorem flX1_15 : zFld RX1 15 1 2 := ⟨(RX1, TX1, 5), rfl, by decide, rfl, uX1, Or.inl (zmem 271 (by decide +kernel) rfl)⟩
theorem fkX1_15 : Cond.fieldLink RX1 15 RX1 "trials" "[I" ∈ zTbl := zmem 271 (by decide +kernel) rfl
theorem flX1_18 : zFld RX1 18 1 3 := ⟨(RX1, TX1, 5), rfl, by decide, rfl, uX1, Or.inl (zmem 273 (by decide +kernel) rfl)⟩
theorem fkX1_18 : Cond.fieldLink RX1 18 RX1 "replies" "[I" ∈ zTbl := zmem 273 (by decide +kernel) rfl
theorem flX1_31 : zFld RX1 31 1 4 := ⟨(RX1, TX1, 5), rfl, by decide, rfl, uX1, Or.inl (zmem 275 (by decide +kernel) rfl)⟩
theorem flX2_15 : zFld RX2 15 2 0 := ⟨(RX2, TX2, 2), rfl, by decide, rfl, uX2, Or.inl (zmem 300 (by decide +kernel) rfl)⟩
theorem fkX2_15 : Cond.fieldLink RX2 15 RX2 "row" "[LShakenParcels$Scene;" ∈ zTbl := zmem 300 (by decide +kernel) rfl
theorem flX2_22 : zFld RX2 22 2 1 := ⟨(RX2, TX2, 2), rfl, by decide, rfl, uX2, Or.inl (zmem 301 (by decide +kernel) rfl)⟩
theorem flX7_12 : zFld RX7 12 7 0 := ⟨(RX7, TX7, 13), rfl, by decide, rfl, uX7, Or.inl (zmem 519 (by decide +kernel) rfl)⟩
theorem fkX7_12 : Cond.fieldLink RX7 12 RX7 "text" "LShakenParcels$Text;" ∈ zTbl := zmem 519 (by decide +kernel) rfl
theorem flX7_19 : zFld RX7 19 7 1 := ⟨(RX7, TX7, 13), rfl, by decide, rfl, uX7, Or.inl (zmem 520 (by decide +kernel) rfl)⟩
theorem flX7_23 : zFld RX7 23 7 2 := ⟨(RX7, TX7, 13), rfl, by decide, rfl, uX7, Or.inl (zmem 521 (by decide +kernel) rfl)⟩
theorem flX7_29 : zFld RX7 29 7 3 := ⟨(RX7, TX7, 13), rfl, by decide, rfl, uX7, Or.inl (zmem 522 (by decide +kernel) rfl)⟩
theorem fkX7_29 : Cond.fieldLink RX7 29 RX7 "all" "LShakenParcels$Worlds;" ∈ zTbl := zmem 522 (by decide +kernel) rfl
theorem flX7_33 : zFld RX7 33 7 4 := ⟨(RX7, TX7, 13), rfl, by decide, rfl, uX7, Or.inl (zmem 523 (by decide +kernel) rfl)⟩
theorem fkX7_33 : Cond.fieldLink RX7 33 RX7 "remaining" "LShakenParcels$Worlds;" ∈ zTbl := zmem 523 (by decide +kernel) rfl
theorem flX7_36 : zFld RX7 36 7 5 := ⟨(RX7, TX7, 13), rfl, by decide, rfl, uX7, Or.inl (zmem 524 (by decide +kernel) rfl)⟩
theorem fkX7_36 : Cond.fieldLink RX7 36 RX7 "scratch" "LShakenParcels$Worlds;" ∈ zTbl := zmem 524 (by decide +kernel) rfl
theorem flX7_42 : zFld RX7 42 7 6 := ⟨(RX7, TX7, 13), rfl, by decide, rfl, uX7, Or.inl (zmem 525 (by decide +kernel) rfl)⟩
theorem fkX7_42 : Cond.fieldLink RX7 42 RX7 "finder" "LShakenParcels$Finder;" ∈ zTbl := zmem 525 (by decide +kernel) rfl
theorem flX7_49 : zFld RX7 49 7 7 := ⟨(RX7, TX7, 13), rfl, by decide, rfl, uX7, Or.inl (zmem 526 (by decide +kernel) rfl)⟩
theorem fkX7_49 : Cond.fieldLink RX7 49 RX7 "now" "LShakenParcels$Scene;" ∈ zTbl := zmem 526 (by decide +kernel) rfl
theorem flX7_58 : zFld RX7 58 7 8 := ⟨(RX7, TX7, 13), rfl, by decide, rfl, uX7, Or.inl (zmem 527 (by decide +kernel) rfl)⟩
theorem fkX7_58 : Cond.fieldLink RX7 58 RX7 "undoable" "LShakenParcels$Scenes;" ∈ zTbl := zmem 527 (by decide +kernel) rfl
theorem flX7_62 : zFld RX7 62 7 9 := ⟨(RX7, TX7, 13), rfl, by decide, rfl, uX7, Or.inl (zmem 528 (by decide +kernel) rfl)⟩
theorem fkX7_62 : Cond.fieldLink RX7 62 RX7 "kept" "LShakenParcels$Scenes;" ∈ zTbl := zmem 528 (by decide +kernel) rfl
theorem flX7_65 : zFld RX7 65 7 10 := ⟨(RX7, TX7, 13), rfl, by decide, rfl, uX7, Or.inl (zmem 529 (by decide +kernel) rfl)⟩
theorem fkX7_65 : Cond.fieldLink RX7 65 RX7 "chanceBySet" "[J" ∈ zTbl := zmem 529 (by decide +kernel) rfl
theorem flX7_69 : zFld RX7 69 7 11 := ⟨(RX7, TX7, 13), rfl, by decide, rfl, uX7, Or.inl (zmem 530 (by decide +kernel) rfl)⟩
theorem flX7_73 : zFld RX7 73 7 12 := ⟨(RX7, TX7, 13), rfl, by decide, rfl, uX7, Or.inl (zmem 531 (by decide +kernel) rfl)⟩
theorem flX8_113 : zFld RX8 113 8 0 := ⟨(RX8, TX8, 33), rfl, by decide, rfl, uX8, Or.inl (zmem 943 (by decide +kernel) rfl)⟩
theorem flX8_7 : zFld RX8 7 8 1 := ⟨(RX8, TX8, 33), rfl, by decide, rfl, uX8, Or.inl (zmem 944 (by decide +kernel) rfl)⟩
theorem fkX8_7 : Cond.fieldLink RX8 7 RX8 "text" "[I" ∈ zTbl := zmem 944 (by decide +kernel) rfl
theorem flX8_13 : zFld RX8 13 8 2 := ⟨(RX8, TX8, 33), rfl, by decide, rfl, uX8, Or.inl (zmem 945 (by decide +kernel) rfl)⟩
theorem fkX8_13 : Cond.fieldLink RX8 13 RX8 "things" "[I" ∈ zTbl := zmem 945 (by decide +kernel) rfl
theorem flX8_16 : zFld RX8 16 8 3 := ⟨(RX8, TX8, 33), rfl, by decide, rfl, uX8, Or.inl (zmem 946 (by decide +kernel) rfl)⟩
theorem fkX8_16 : Cond.fieldLink RX8 16 RX8 "weights" "[I" ∈ zTbl := zmem 946 (by decide +kernel) rfl
theorem flX8_19 : zFld RX8 19 8 4 := ⟨(RX8, TX8, 33), rfl, by decide, rfl, uX8, Or.inl (zmem 947 (by decide +kernel) rfl)⟩
theorem fkX8_19 : Cond.fieldLink RX8 19 RX8 "kinds" "[I" ∈ zTbl := zmem 947 (by decide +kernel) rfl
theorem flX8_22 : zFld RX8 22 8 5 := ⟨(RX8, TX8, 33), rfl, by decide, rfl, uX8, Or.inl (zmem 948 (by decide +kernel) rfl)⟩
theorem fkX8_22 : Cond.fieldLink RX8 22 RX8 "values" "[I" ∈ zTbl := zmem 948 (by decide +kernel) rfl
theorem flX8_25 : zFld RX8 25 8 6 := ⟨(RX8, TX8, 33), rfl, by decide, rfl, uX8, Or.inl (zmem 949 (by decide +kernel) rfl)⟩
theorem fkX8_25 : Cond.fieldLink RX8 25 RX8 "chances" "[I" ∈ zTbl := zmem 949 (by decide +kernel) rfl
theorem flX8_28 : zFld RX8 28 8 7 := ⟨(RX8, TX8, 33), rfl, by decide, rfl, uX8, Or.inl (zmem 950 (by decide +kernel) rfl)⟩
theorem fkX8_28 : Cond.fieldLink RX8 28 RX8 "parcels" "[I" ∈ zTbl := zmem 950 (by decide +kernel) rfl
theorem flX8_31 : zFld RX8 31 8 8 := ⟨(RX8, TX8, 33), rfl, by decide, rfl, uX8, Or.inl (zmem 951 (by decide +kernel) rfl)⟩
theorem fkX8_31 : Cond.fieldLink RX8 31 RX8 "boxes" "[I" ∈ zTbl := zmem 951 (by decide +kernel) rfl
theorem flX8_34 : zFld RX8 34 8 9 := ⟨(RX8, TX8, 33), rfl, by decide, rfl, uX8, Or.inl (zmem 952 (by decide +kernel) rfl)⟩
theorem fkX8_34 : Cond.fieldLink RX8 34 RX8 "childOf" "[I" ∈ zTbl := zmem 952 (by decide +kernel) rfl
theorem flX8_37 : zFld RX8 37 8 10 := ⟨(RX8, TX8, 33), rfl, by decide, rfl, uX8, Or.inl (zmem 953 (by decide +kernel) rfl)⟩
theorem fkX8_37 : Cond.fieldLink RX8 37 RX8 "sizes" "[I" ∈ zTbl := zmem 953 (by decide +kernel) rfl
theorem flX8_40 : zFld RX8 40 8 11 := ⟨(RX8, TX8, 33), rfl, by decide, rfl, uX8, Or.inl (zmem 954 (by decide +kernel) rfl)⟩
theorem fkX8_40 : Cond.fieldLink RX8 40 RX8 "scale" "[I" ∈ zTbl := zmem 954 (by decide +kernel) rfl
theorem flX8_43 : zFld RX8 43 8 12 := ⟨(RX8, TX8, 33), rfl, by decide, rfl, uX8, Or.inl (zmem 955 (by decide +kernel) rfl)⟩
theorem fkX8_43 : Cond.fieldLink RX8 43 RX8 "apart" "[I" ∈ zTbl := zmem 955 (by decide +kernel) rfl
theorem flX8_46 : zFld RX8 46 8 13 := ⟨(RX8, TX8, 33), rfl, by decide, rfl, uX8, Or.inl (zmem 956 (by decide +kernel) rfl)⟩
theorem fkX8_46 : Cond.fieldLink RX8 46 RX8 "noticed" "[I" ∈ zTbl := zmem 956 (by decide +kernel) rfl
theorem flX8_49 : zFld RX8 49 8 14 := ⟨(RX8, TX8, 33), rfl, by decide, rfl, uX8, Or.inl (zmem 957 (by decide +kernel) rfl)⟩
theorem fkX8_49 : Cond.fieldLink RX8 49 RX8 "takes" "[I" ∈ zTbl := zmem 957 (by decide +kernel) rfl
theorem flX8_52 : zFld RX8 52 8 15 := ⟨(RX8, TX8, 33), rfl, by decide, rfl, uX8, Or.inl (zmem 958 (by decide +kernel) rfl)⟩
theorem fkX8_52 : Cond.fieldLink RX8 52 RX8 "toldIn" "[I" ∈ zTbl := zmem 958 (by decide +kernel) rfl
theorem flX8_55 : zFld RX8 55 8 16 := ⟨(RX8, TX8, 33), rfl, by decide, rfl, uX8, Or.inl (zmem 959 (by decide +kernel) rfl)⟩
theorem fkX8_55 : Cond.fieldLink RX8 55 RX8 "worlds" "[I" ∈ zTbl := zmem 959 (by decide +kernel) rfl
theorem flX8_172 : zFld RX8 172 8 17 := ⟨(RX8, TX8, 33), rfl, by decide, rfl, uX8, Or.inl (zmem 960 (by decide +kernel) rfl)⟩
theorem flX8_58 : zFld RX8 58 8 18 := ⟨(RX8, TX8, 33), rfl, by decide, rfl, uX8, Or.inl (zmem 961 (by decide +kernel) rfl)⟩
theorem fkX8_58 : Cond.fieldLink RX8 58 RX8 "now" "[I" ∈ zTbl := zmem 961 (by decide +kernel) rfl
theorem flX8_61 : zFld RX8 61 8 19 := ⟨(RX8, TX8, 33), rfl, by decide, rfl, uX8, Or.inl (zmem 962 (by decide +kernel) rfl)⟩
theorem fkX8_61 : Cond.fieldLink RX8 61 RX8 "before" "[I" ∈ zTbl := zmem 962 (by decide +kernel) rfl
theorem flX8_175 : zFld RX8 175 8 20 := ⟨(RX8, TX8, 33), rfl, by decide, rfl, uX8, Or.inl (zmem 963 (by decide +kernel) rfl)⟩
theorem flX8_64 : zFld RX8 64 8 21 := ⟨(RX8, TX8, 33), rfl, by decide, rfl, uX8, Or.inl (zmem 964 (by decide +kernel) rfl)⟩
theorem fkX8_64 : Cond.fieldLink RX8 64 RX8 "kept" "[I" ∈ zTbl := zmem 964 (by decide +kernel) rfl
theorem flX8_178 : zFld RX8 178 8 22 := ⟨(RX8, TX8, 33), rfl, by decide, rfl, uX8, Or.inl (zmem 965 (by decide +kernel) rfl)⟩
theorem flX8_117 : zFld RX8 117 8 23 := ⟨(RX8, TX8, 33), rfl, by decide, rfl, uX8, Or.inl (zmem 966 (by decide +kernel) rfl)⟩
theorem flX8_67 : zFld RX8 67 8 24 := ⟨(RX8, TX8, 33), rfl, by decide, rfl, uX8, Or.inl (zmem 967 (by decide +kernel) rfl)⟩
theorem fkX8_67 : Cond.fieldLink RX8 67 RX8 "told" "[I" ∈ zTbl := zmem 967 (by decide +kernel) rfl
theorem flX8_70 : zFld RX8 70 8 25 := ⟨(RX8, TX8, 33), rfl, by decide, rfl, uX8, Or.inl (zmem 968 (by decide +kernel) rfl)⟩
theorem fkX8_70 : Cond.fieldLink RX8 70 RX8 "partly" "[I" ∈ zTbl := zmem 968 (by decide +kernel) rfl
theorem flX8_73 : zFld RX8 73 8 26 := ⟨(RX8, TX8, 33), rfl, by decide, rfl, uX8, Or.inl (zmem 969 (by decide +kernel) rfl)⟩
theorem fkX8_73 : Cond.fieldLink RX8 73 RX8 "may" "[Z" ∈ zTbl := zmem 969 (by decide +kernel) rfl
theorem flX8_77 : zFld RX8 77 8 27 := ⟨(RX8, TX8, 33), rfl, by decide, rfl, uX8, Or.inl (zmem 970 (by decide +kernel) rfl)⟩
theorem fkX8_77 : Cond.fieldLink RX8 77 RX8 "bySet" "[J" ∈ zTbl := zmem 970 (by decide +kernel) rfl
theorem flX8_81 : zFld RX8 81 8 28 := ⟨(RX8, TX8, 33), rfl, by decide, rfl, uX8, Or.inl (zmem 971 (by decide +kernel) rfl)⟩
theorem fkX8_81 : Cond.fieldLink RX8 81 RX8 "byAnswer" "[I" ∈ zTbl := zmem 971 (by decide +kernel) rfl
theorem flX8_239 : zFld RX8 239 8 29 := ⟨(RX8, TX8, 33), rfl, by decide, rfl, uX8, Or.inl (zmem 972 (by decide +kernel) rfl)⟩
theorem flX8_84 : zFld RX8 84 8 30 := ⟨(RX8, TX8, 33), rfl, by decide, rfl, uX8, Or.inl (zmem 973 (by decide +kernel) rfl)⟩
theorem fkX8_84 : Cond.fieldLink RX8 84 RX8 "twoIn" "[I" ∈ zTbl := zmem 973 (by decide +kernel) rfl
theorem flX8_87 : zFld RX8 87 8 31 := ⟨(RX8, TX8, 33), rfl, by decide, rfl, uX8, Or.inl (zmem 974 (by decide +kernel) rfl)⟩
theorem fkX8_87 : Cond.fieldLink RX8 87 RX8 "known" "[Z" ∈ zTbl := zmem 974 (by decide +kernel) rfl
theorem flX8_258 : zFld RX8 258 8 32 := ⟨(RX8, TX8, 33), rfl, by decide, rfl, uX8, Or.inl (zmem 975 (by decide +kernel) rfl)⟩
theorem flX7_100 : zFld RX7 100 3 1 := ⟨(RX3, TX3, 4), rfl, by decide, rfl, uX3, Or.inr ⟨_, zmemN (w := Cond.fieldLinkNest RX7 100 RX3 "length" "I" "ShakenParcels") 95 (by decide +kernel) rfl⟩⟩
theorem flX7_116 : zFld RX7 116 4 0 := ⟨(RX4, TX4, 11), rfl, by decide, rfl, uX4, Or.inr ⟨_, zmemN (w := Cond.fieldLinkNest RX7 116 RX4 "weight" "[I" "ShakenParcels") 122 (by decide +kernel) rfl⟩⟩
theorem flX7_126 : zFld RX7 126 4 1 := ⟨(RX4, TX4, 11), rfl, by decide, rfl, uX4, Or.inr ⟨_, zmemN (w := Cond.fieldLinkNest RX7 126 RX4 "kind" "[I" "ShakenParcels") 124 (by decide +kernel) rfl⟩⟩
theorem flX7_129 : zFld RX7 129 4 2 := ⟨(RX4, TX4, 11), rfl, by decide, rfl, uX4, Or.inr ⟨_, zmemN (w := Cond.fieldLinkNest RX7 129 RX4 "worth" "[I" "ShakenParcels") 126 (by decide +kernel) rfl⟩⟩
theorem flX7_132 : zFld RX7 132 4 3 := ⟨(RX4, TX4, 11), rfl, by decide, rfl, uX4, Or.inr ⟨_, zmemN (w := Cond.fieldLinkNest RX7 132 RX4 "chance" "[I" "ShakenParcels") 128 (by decide +kernel) rfl⟩⟩
theorem flX5_82 : zFld RX5 82 4 4 := ⟨(RX4, TX4, 11), rfl, by decide, rfl, uX4, Or.inr ⟨_, zmemN (w := Cond.fieldLinkNest RX5 82 RX4 "amount" "I" "ShakenParcels") 130 (by decide +kernel) rfl⟩⟩
theorem flX7_167 : zFld RX7 167 4 4 := ⟨(RX4, TX4, 11), rfl, by decide, rfl, uX4, Or.inr ⟨_, zmemN (w := Cond.fieldLinkNest RX7 167 RX4 "amount" "I" "ShakenParcels") 131 (by decide +kernel) rfl⟩⟩
theorem flX0_155 : zFld RX0 155 4 4 := ⟨(RX4, TX4, 11), rfl, by decide, rfl, uX4, Or.inr ⟨_, zmemN (w := Cond.fieldLinkNest RX0 155 RX4 "amount" "I" "ShakenParcels") 132 (by decide +kernel) rfl⟩⟩
theorem flX5_132 : zFld RX5 132 4 5 := ⟨(RX4, TX4, 11), rfl, by decide, rfl, uX4, Or.inr ⟨_, zmemN (w := Cond.fieldLinkNest RX5 132 RX4 "weightOfSet" "[I" "ShakenParcels") 134 (by decide +kernel) rfl⟩⟩
theorem flX5_126 : zFld RX5 126 4 6 := ⟨(RX4, TX4, 11), rfl, by decide, rfl, uX4, Or.inr ⟨_, zmemN (w := Cond.fieldLinkNest RX5 126 RX4 "worthOfSet" "[I" "ShakenParcels") 136 (by decide +kernel) rfl⟩⟩
theorem flX5_129 : zFld RX5 129 4 7 := ⟨(RX4, TX4, 11), rfl, by decide, rfl, uX4, Or.inr ⟨_, zmemN (w := Cond.fieldLinkNest RX5 129 RX4 "chanceOfSet" "[I" "ShakenParcels") 138 (by decide +kernel) rfl⟩⟩
theorem flX7_112 : zFld RX7 112 5 0 := ⟨(RX5, TX5, 10), rfl, by decide, rfl, uX5, Or.inr ⟨_, zmemN (w := Cond.fieldLinkNest RX7 112 RX5 "things" "LShakenParcels$Things;" "ShakenParcels") 166 (by decide +kernel) rfl⟩⟩
theorem flX0_151 : zFld RX0 151 5 0 := ⟨(RX5, TX5, 10), rfl, by decide, rfl, uX5, Or.inr ⟨_, zmemN (w := Cond.fieldLinkNest RX0 151 RX5 "things" "LShakenParcels$Things;" "ShakenParcels") 167 (by decide +kernel) rfl⟩⟩
theorem flX7_142 : zFld RX7 142 5 1 := ⟨(RX5, TX5, 10), rfl, by decide, rfl, uX5, Or.inr ⟨_, zmemN (w := Cond.fieldLinkNest RX7 142 RX5 "box" "[I" "ShakenParcels") 169 (by decide +kernel) rfl⟩⟩
theorem flX7_145 : zFld RX7 145 5 2 := ⟨(RX5, TX5, 10), rfl, by decide, rfl, uX5, Or.inr ⟨_, zmemN (w := Cond.fieldLinkNest RX7 145 RX5 "child" "[I" "ShakenParcels") 171 (by decide +kernel) rfl⟩⟩
theorem flX7_148 : zFld RX7 148 5 3 := ⟨(RX5, TX5, 10), rfl, by decide, rfl, uX5, Or.inr ⟨_, zmemN (w := Cond.fieldLinkNest RX7 148 RX5 "room" "[I" "ShakenParcels") 173 (by decide +kernel) rfl⟩⟩
theorem flX0_39 : zFld RX0 39 5 4 := ⟨(RX5, TX5, 10), rfl, by decide, rfl, uX5, Or.inr ⟨_, zmemN (w := Cond.fieldLinkNest RX0 39 RX5 "parcels" "I" "ShakenParcels") 175 (by decide +kernel) rfl⟩⟩
theorem flX7_287 : zFld RX7 287 5 4 := ⟨(RX5, TX5, 10), rfl, by decide, rfl, uX5, Or.inr ⟨_, zmemN (w := Cond.fieldLinkNest RX7 287 RX5 "parcels" "I" "ShakenParcels") 176 (by decide +kernel) rfl⟩⟩
theorem flX7_290 : zFld RX7 290 5 5 := ⟨(RX5, TX5, 10), rfl, by decide, rfl, uX5, Or.inr ⟨_, zmemN (w := Cond.fieldLinkNest RX7 290 RX5 "told" "I" "ShakenParcels") 178 (by decide +kernel) rfl⟩⟩
theorem flX7_245 : zFld RX7 245 5 8 := ⟨(RX5, TX5, 10), rfl, by decide, rfl, uX5, Or.inr ⟨_, zmemN (w := Cond.fieldLinkNest RX7 245 RX5 "noticed" "[I" "ShakenParcels") 182 (by decide +kernel) rfl⟩⟩
theorem flX0_110 : zFld RX0 110 5 9 := ⟨(RX5, TX5, 10), rfl, by decide, rfl, uX5, Or.inr ⟨_, zmemN (w := Cond.fieldLinkNest RX0 110 RX5 "lasting" "[I" "ShakenParcels") 184 (by decide +kernel) rfl⟩⟩
theorem flX7_256 : zFld RX7 256 5 9 := ⟨(RX5, TX5, 10), rfl, by decide, rfl, uX5, Or.inr ⟨_, zmemN (w := Cond.fieldLinkNest RX7 256 RX5 "lasting" "[I" "ShakenParcels") 185 (by decide +kernel) rfl⟩⟩
theorem flX0_31 : zFld RX0 31 6 1 := ⟨(RX6, TX6, 2), rfl, by decide, rfl, uX6, Or.inr ⟨_, zmemN (w := Cond.fieldLinkNest RX0 31 RX6 "size" "I" "ShakenParcels") 214 (by decide +kernel) rfl⟩⟩
theorem flX7_106 : zFld RX7 106 6 1 := ⟨(RX6, TX6, 2), rfl, by decide, rfl, uX6, Or.inr ⟨_, zmemN (w := Cond.fieldLinkNest RX7 106 RX6 "size" "I" "ShakenParcels") 216 (by decide +kernel) rfl⟩⟩
theorem flX7_231 : zFld RX7 231 0 0 := ⟨(RX0, TX0, 9), rfl, by decide, rfl, uX0, Or.inr ⟨_, zmemN (w := Cond.fieldLinkNest RX7 231 RX0 "trial" "I" "ShakenParcels") 229 (by decide +kernel) rfl⟩⟩
theorem flX7_234 : zFld RX7 234 0 1 := ⟨(RX0, TX0, 9), rfl, by decide, rfl, uX0, Or.inr ⟨_, zmemN (w := Cond.fieldLinkNest RX7 234 RX0 "worst" "I" "ShakenParcels") 231 (by decide +kernel) rfl⟩⟩
theorem flX7_335 : zFld RX7 335 0 2 := ⟨(RX0, TX0, 9), rfl, by decide, rfl, uX0, Or.inr ⟨_, zmemN (w := Cond.fieldLinkNest RX7 335 RX0 "trials" "I" "ShakenParcels") 233 (by decide +kernel) rfl⟩⟩
theorem flX7_337 : zFld RX7 337 0 3 := ⟨(RX0, TX0, 9), rfl, by decide, rfl, uX0, Or.inr ⟨_, zmemN (w := Cond.fieldLinkNest RX7 337 RX0 "spent" "I" "ShakenParcels") 235 (by decide +kernel) rfl⟩⟩
theorem flX7_267 : zFld RX7 267 0 5 := ⟨(RX0, TX0, 9), rfl, by decide, rfl, uX0, Or.inr ⟨_, zmemN (w := Cond.fieldLinkNest RX7 267 RX0 "byReply" "[I" "ShakenParcels") 238 (by decide +kernel) rfl⟩⟩
theorem flX7_151 : zFld RX7 151 1 0 := ⟨(RX1, TX1, 5), rfl, by decide, rfl, uX1, Or.inr ⟨_, zmemN (w := Cond.fieldLinkNest RX7 151 RX1 "truth" "I" "ShakenParcels") 268 (by decide +kernel) rfl⟩⟩
theorem flX7_158 : zFld RX7 158 1 1 := ⟨(RX1, TX1, 5), rfl, by decide, rfl, uX1, Or.inr ⟨_, zmemN (w := Cond.fieldLinkNest RX7 158 RX1 "hidden" "[I" "ShakenParcels") 270 (by decide +kernel) rfl⟩⟩
theorem flX7_248 : zFld RX7 248 1 2 := ⟨(RX1, TX1, 5), rfl, by decide, rfl, uX1, Or.inr ⟨_, zmemN (w := Cond.fieldLinkNest RX7 248 RX1 "trials" "[I" "ShakenParcels") 272 (by decide +kernel) rfl⟩⟩
theorem flX7_318 : zFld RX7 318 1 3 := ⟨(RX1, TX1, 5), rfl, by decide, rfl, uX1, Or.inr ⟨_, zmemN (w := Cond.fieldLinkNest RX7 318 RX1 "replies" "[I" "ShakenParcels") 274 (by decide +kernel) rfl⟩⟩
theorem flX7_185 : zFld RX7 185 1 4 := ⟨(RX1, TX1, 5), rfl, by decide, rfl, uX1, Or.inr ⟨_, zmemN (w := Cond.fieldLinkNest RX7 185 RX1 "answers" "I" "ShakenParcels") 276 (by decide +kernel) rfl⟩⟩
theorem flX7_207 : zFld RX7 207 2 1 := ⟨(RX2, TX2, 2), rfl, by decide, rfl, uX2, Or.inr ⟨_, zmemN (w := Cond.fieldLinkNest RX7 207 RX2 "size" "I" "ShakenParcels") 302 (by decide +kernel) rfl⟩⟩
def MX7_init : zM := (yX7_init, cX7_init, 2, none)
def MX3_init : zM := (yX3_init, cX3_init, 1, none)
def MX5_init : zM := (yX5_init, cX5_init, 1, none)
def MX4_init : zM := (yX4_init, cX4_init, 1, none)
def MX6_init : zM := (yX6_init, cX6_init, 1, none)
def MX0_init : zM := (yX0_init, cX0_init, 1, none)
def MX1_init : zM := (yX1_init, cX1_init, 1, none)
def MX2_init : zM := (yX2_init, cX2_init, 3, none)
def MJ9_max_7cf53 : zM := (yJ9_max_7cf53, cJ9_max_7cf53, 2, some .int)
def MJ0_length_8abf5 : zM := (yJ0_length_8abf5, cJ0_length_8abf5, 1, some .int)
def MJ0_coder_7d493 : zM := (yJ0_coder_7d493, cJ0_coder_7d493, 1, some .byte)
def MJ0_charAt_5068e : zM := (yJ0_charAt_5068e, cJ0_charAt_5068e, 2, some .char)
def MJ0_isLatin1_aae02 : zM := (yJ0_isLatin1_aae02, cJ0_isLatin1_aae02, 1, some .boolean)
def MJ1_charAt_3b067 : zM := (yJ1_charAt_3b067, cJ1_charAt_3b067, 2, some .char)
def MJ0_checkIndex_df160 : zM := (yJ0_checkIndex_df160, cJ0_checkIndex_df160, 2, none)
def MJ3_checkIndex_8e157 : zM := (yJ3_checkIndex_8e157, cJ3_checkIndex_8e157, 3, some .int)
def MJ2_charAt_3b067 : zM := (yJ2_charAt_3b067, cJ2_charAt_3b067, 2, some .char)
def MJ2_checkIndex_2214a : zM := (yJ2_checkIndex_2214a, cJ2_checkIndex_2214a, 2, none)
def MJ2_length_9d52b : zM := (yJ2_length_9d52b, cJ2_length_9d52b, 1, some .int)
def MJ2_getChar_3b067 : zM := (yJ2_getChar_3b067, cJ2_getChar_3b067, 2, some .char)
def MX3_add : zM := (yX3_add, cX3_add, 2, some .boolean)
def MX7_layText : zM := (yX7_layText, cX7_layText, 3, some .boolean)
def MX3_readInto : zM := (yX3_readInto, cX3_readInto, 5, some .int)
def MX5_clear : zM := (yX5_clear, cX5_clear, 1, none)
def MX4_clear : zM := (yX4_clear, cX4_clear, 1, none)
def MX7_put : zM := (yX7_put, cX7_put, 3, none)
def MJ7_fill_53178 : zM := (yJ7_fill_53178, cJ7_fill_53178, 4, none)
def MX3_readNumbers : zM := (yX3_readNumbers, cX3_readNumbers, 6, some .int)
def MX3_figuresAt : zM := (yX3_figuresAt, cX3_figuresAt, 2, some .int)
def MX3_letterAt : zM := (yX3_letterAt, cX3_letterAt, 2, some .int)
def MX3_isFigure : zM := (yX3_isFigure, cX3_isFigure, 1, some .boolean)
def MX7_isWithin : zM := (yX7_isWithin, cX7_isWithin, 3, some .boolean)
def MX3_numberAt : zM := (yX3_numberAt, cX3_numberAt, 4, some .int)
def MX5_takes : zM := (yX5_takes, cX5_takes, 4, some .boolean)
def MX5_takesThing : zM := (yX5_takesThing, cX5_takesThing, 2, some .boolean)
def MX7_at : zM := (yX7_at, cX7_at, 2, some .int)
def MX4_add : zM := (yX4_add, cX4_add, 4, none)
def MX4_sortByKind : zM := (yX4_sortByKind, cX4_sortByKind, 3, none)
def MX5_takesParcel : zM := (yX5_takesParcel, cX5_takesParcel, 2, some .boolean)
def MX5_takesTruth : zM := (yX5_takesTruth, cX5_takesTruth, 3, some .boolean)
def MX7_isBelow : zM := (yX7_isBelow, cX7_isBelow, 2, some .boolean)
def MX5_takesScale : zM := (yX5_takesScale, cX5_takesScale, 2, some .boolean)
def MX5_takesApart : zM := (yX5_takesApart, cX5_takesApart, 2, some .boolean)
def MX5_takesSort : zM := (yX5_takesSort, cX5_takesSort, 4, some .boolean)
def MX7_isSort : zM := (yX7_isSort, cX7_isSort, 1, some .boolean)
def MX5_isWorld : zM := (yX5_isWorld, cX5_isWorld, 5, some .boolean)
def MX7_inside : zM := (yX7_inside, cX7_inside, 2, some .int)
def MJ6_bitCount_0f7a4 : zM := (yJ6_bitCount_0f7a4, cJ6_bitCount_0f7a4, 1, some .int)
def MX5_isFair : zM := (yX5_isFair, cX5_isFair, 2, some .boolean)
def MX5_hasParcels : zM := (yX5_hasParcels, cX5_hasParcels, 3, some .boolean)
def MX5_worthFor : zM := (yX5_worthFor, cX5_worthFor, 5, some .int)
def MJ9_abs_0f7a4 : zM := (yJ9_abs_0f7a4, cJ9_abs_0f7a4, 1, some .int)
def MX5_mostWorlds : zM := (yX5_mostWorlds, cX5_mostWorlds, 4, some .int)
def MX6_makeRoom : zM := (yX6_makeRoom, cX6_makeRoom, 2, none)
def MX5_listWorlds : zM := (yX5_listWorlds, cX5_listWorlds, 2, none)
def MX6_clear : zM := (yX6_clear, cX6_clear, 1, none)
def MX5_addWorlds : zM := (yX5_addWorlds, cX5_addWorlds, 8, none)
def MX6_add : zM := (yX6_add, cX6_add, 2, none)
def MX1_begin : zM := (yX1_begin, cX1_begin, 2, none)
def MX2_clear : zM := (yX2_clear, cX2_clear, 1, none)
def MX3_clear : zM := (yX3_clear, cX3_clear, 1, none)
def MX7_write : zM := (yX7_write, cX7_write, 2, some .int)
def MX7_wipe : zM := (yX7_wipe, cX7_wipe, 2, some .int)
def MX7_fault : zM := (yX7_fault, cX7_fault, 1, some .int)
def MX7_lay : zM := (yX7_lay, cX7_lay, 1, some .int)
def MX7_thing : zM := (yX7_thing, cX7_thing, 3, some .int)
def MX7_isThing : zM := (yX7_isThing, cX7_isThing, 2, some .boolean)
def MX7_parcelWith : zM := (yX7_parcelWith, cX7_parcelWith, 3, some .int)
def MX7_parcel : zM := (yX7_parcel, cX7_parcel, 3, some .int)
def MX7_isParcel : zM := (yX7_isParcel, cX7_isParcel, 2, some .boolean)
def MX7_world : zM := (yX7_world, cX7_world, 3, some .int)
def MX6_take : zM := (yX6_take, cX6_take, 2, some .int)
def MX7_answer : zM := (yX7_answer, cX7_answer, 4, some .int)
def MX5_reply : zM := (yX5_reply, cX5_reply, 5, some .int)
def MX5_inSteps : zM := (yX5_inSteps, cX5_inSteps, 2, some .int)
def MX4_tipped : zM := (yX4_tipped, cX4_tipped, 2, some .int)
def MX4_shaken : zM := (yX4_shaken, cX4_shaken, 2, some .int)
def MX4_pressed : zM := (yX4_pressed, cX4_pressed, 2, some .int)
def MX7_attempt : zM := (yX7_attempt, cX7_attempt, 4, some .int)
def MX1_isFull : zM := (yX1_isFull, cX1_isFull, 1, some .boolean)
def MX7_note : zM := (yX7_note, cX7_note, 4, none)
def MX2_push : zM := (yX2_push, cX2_push, 2, none)
def MX2_isFull : zM := (yX2_isFull, cX2_isFull, 1, some .boolean)
def MX2_dropLowest : zM := (yX2_dropLowest, cX2_dropLowest, 3, none)
def MX1_copy : zM := (yX1_copy, cX1_copy, 3, none)
def MX7_trialOf : zM := (yX7_trialOf, cX7_trialOf, 2, some .int)
def MX1_add : zM := (yX1_add, cX1_add, 3, none)
def MX7_hear : zM := (yX7_hear, cX7_hear, 4, some .int)
def MX7_change : zM := (yX7_change, cX7_change, 4, some .int)
def MX7_swapped : zM := (yX7_swapped, cX7_swapped, 4, some .int)
def MX7_hide : zM := (yX7_hide, cX7_hide, 4, some .int)
def MX7_undo : zM := (yX7_undo, cX7_undo, 1, some .int)
def MX2_popInto : zM := (yX2_popInto, cX2_popInto, 2, some .boolean)
def MX7_left : zM := (yX7_left, cX7_left, 1, some .int)
def MX7_findRemaining : zM := (yX7_findRemaining, cX7_findRemaining, 3, some (.object "ShakenParcels$Worlds"))
def MX6_copy : zM := (yX6_copy, cX6_copy, 2, none)
def MJ9_min_7cf53 : zM := (yJ9_min_7cf53, cJ9_min_7cf53, 2, some .int)
def MX7_parcelOf : zM := (yX7_parcelOf, cX7_parcelOf, 1, some .int)
def MX7_sortOf : zM := (yX7_sortOf, cX7_sortOf, 1, some .int)
def MX6_narrow : zM := (yX6_narrow, cX6_narrow, 8, none)
def MX7_likely : zM := (yX7_likely, cX7_likely, 13, some .long)
def MX5_chanceOf : zM := (yX5_chanceOf, cX5_chanceOf, 4, some .int)
def MX7_inLowestTerms : zM := (yX7_inLowestTerms, cX7_inLowestTerms, 12, some .long)
def MX7_sure : zM := (yX7_sure, cX7_sure, 7, some .int)
def MX7_judge : zM := (yX7_judge, cX7_judge, 1, some .int)
def MX7_guess : zM := (yX7_guess, cX7_guess, 8, some .long)
def MX7_sumChances : zM := (yX7_sumChances, cX7_sumChances, 10, some .long)
def MJ7_fill_d0a16 : zM := (yJ7_fill_d0a16, cJ7_fill_d0a16, 5, none)
def MX7_next : zM := (yX7_next, cX7_next, 3, some .int)
def MX0_choose : zM := (yX0_choose, cX0_choose, 6, none)
def MX0_countSets : zM := (yX0_countSets, cX0_countSets, 4, none)
def MX7_raise : zM := (yX7_raise, cX7_raise, 3, none)
def MX0_countReplies : zM := (yX0_countReplies, cX0_countReplies, 7, some .int)
def MX7_few : zM := (yX7_few, cX7_few, 2, some .int)
def MX0_fewest : zM := (yX0_fewest, cX0_fewest, 6, some .int)
def MX0_isKnown : zM := (yX0_isKnown, cX0_isKnown, 4, some .boolean)
def MX0_someTrialTells : zM := (yX0_someTrialTells, cX0_someTrialTells, 7, some .boolean)
def MX5_trials : zM := (yX5_trials, cX5_trials, 1, some .int)
def MX0_tells : zM := (yX0_tells, cX0_tells, 14, some .boolean)
def MX0_group : zM := (yX0_group, cX0_group, 9, none)
def MX0_listReplies : zM := (yX0_listReplies, cX0_listReplies, 5, none)
def MX6_set : zM := (yX6_set, cX6_set, 3, none)
def MX0_eachGroupIsTold : zM := (yX0_eachGroupIsTold, cX0_eachGroupIsTold, 7, some .boolean)
def MX7_solved : zM := (yX7_solved, cX7_solved, 2, some .int)
def MX7_solve : zM := (yX7_solve, cX7_solve, 4, some .int)
def MX0_solves : zM := (yX0_solves, cX0_solves, 7, some .boolean)
def MX6_holds : zM := (yX6_holds, cX6_holds, 3, some .boolean)
def MX7_risk : zM := (yX7_risk, cX7_risk, 7, some .long)
def MX7_seconds : zM := (yX7_seconds, cX7_seconds, 3, some .int)
def MX7_misled : zM := (yX7_misled, cX7_misled, 7, some .int)
def MX7_more : zM := (yX7_more, cX7_more, 7, some .int)
def MJ6_compare_7cf53 : zM := (yJ6_compare_7cf53, cJ6_compare_7cf53, 2, some .int)
def MX7_heavier : zM := (yX7_heavier, cX7_heavier, 7, some .int)
def MX5_weightWithBox : zM := (yX5_weightWithBox, cX5_weightWithBox, 3, some .int)
def MX7_morning : zM := (yX7_morning, cX7_morning, 6, some .int)
def MX7_keep : zM := (yX7_keep, cX7_keep, 1, some .int)
def MX7_back : zM := (yX7_back, cX7_back, 1, some .int)
def MX7_count : zM := (yX7_count, cX7_count, 2, some .int)
def MX8_init : zM := (yX8_init, cX8_init, 1, none)
def MX8_noTree : zM := (yX8_noTree, cX8_noTree, 3, none)
def MX8_addThing : zM := (yX8_addThing, cX8_addThing, 7, none)
def MX8_addParcel : zM := (yX8_addParcel, cX8_addParcel, 6, none)
def MX8_begin : zM := (yX8_begin, cX8_begin, 2, none)
def MX8_layWorlds : zM := (yX8_layWorlds, cX8_layWorlds, 6, none)
def MX8_bits : zM := (yX8_bits, cX8_bits, 3, some .int)
def MX8_isFair : zM := (yX8_isFair, cX8_isFair, 5, some .boolean)
def MX8_gap : zM := (yX8_gap, cX8_gap, 7, some .int)
def MX8_has : zM := (yX8_has, cX8_has, 2, some .boolean)
def MX8_in : zM := (yX8_in, cX8_in, 6, some .boolean)
def MX8_write : zM := (yX8_write, cX8_write, 2, some .int)
def MX8_wipe : zM := (yX8_wipe, cX8_wipe, 2, some .int)
def MX8_fault : zM := (yX8_fault, cX8_fault, 1, some .int)
def MX8_readAll : zM := (yX8_readAll, cX8_readAll, 2, some .int)
def MX8_item : zM := (yX8_item, cX8_item, 2, some .boolean)
def MX8_letterAt : zM := (yX8_letterAt, cX8_letterAt, 2, some .int)
def MX8_figures : zM := (yX8_figures, cX8_figures, 5, some .boolean)
def MX8_isThingTold : zM := (yX8_isThingTold, cX8_isThingTold, 1, some .boolean)
def MX8_lay : zM := (yX8_lay, cX8_lay, 2, some .int)
def MX8_isTruth : zM := (yX8_isTruth, cX8_isTruth, 4, some .boolean)
def MX8_codeOf : zM := (yX8_codeOf, cX8_codeOf, 5, some .int)
def MX8_thing : zM := (yX8_thing, cX8_thing, 5, some .int)
def MX8_isThing : zM := (yX8_isThing, cX8_isThing, 2, some .boolean)
def MX8_parcel : zM := (yX8_parcel, cX8_parcel, 3, some .int)
def MX8_isParcel : zM := (yX8_isParcel, cX8_isParcel, 2, some .boolean)
def MX8_world : zM := (yX8_world, cX8_world, 3, some .int)
def MX8_setIn : zM := (yX8_setIn, cX8_setIn, 2, some .int)
def MX8_answer : zM := (yX8_answer, cX8_answer, 4, some .int)
def MX8_answerOf : zM := (yX8_answerOf, cX8_answerOf, 5, some .int)
def MX8_weightOf : zM := (yX8_weightOf, cX8_weightOf, 5, some .int)
def MX8_manyOf : zM := (yX8_manyOf, cX8_manyOf, 5, some .int)
def MX8_attempt : zM := (yX8_attempt, cX8_attempt, 4, some .int)
def MX8_addAnswer : zM := (yX8_addAnswer, cX8_addAnswer, 4, none)
def MX8_note : zM := (yX8_note, cX8_note, 2, none)
def MX8_hear : zM := (yX8_hear, cX8_hear, 4, some .int)
def MX8_change : zM := (yX8_change, cX8_change, 5, some .int)
def MX8_truth : zM := (yX8_truth, cX8_truth, 1, some .int)
def MX8_hide : zM := (yX8_hide, cX8_hide, 4, some .int)
def MX8_undo : zM := (yX8_undo, cX8_undo, 2, some .int)
def MX8_left : zM := (yX8_left, cX8_left, 1, some .int)
def MX8_layLeft : zM := (yX8_layLeft, cX8_layLeft, 4, some .int)
def MX8_fits : zM := (yX8_fits, cX8_fits, 6, some .boolean)
def MX8_likely : zM := (yX8_likely, cX8_likely, 11, some .long)
def MX8_weighs : zM := (yX8_weighs, cX8_weighs, 7, some .long)
def MX8_common : zM := (yX8_common, cX8_common, 10, some .long)
def MX8_sure : zM := (yX8_sure, cX8_sure, 6, some .int)
def MX8_judge : zM := (yX8_judge, cX8_judge, 2, some .int)
def MX8_guess : zM := (yX8_guess, cX8_guess, 8, some .long)
def MX8_next : zM := (yX8_next, cX8_next, 3, some .int)
def MX8_bestTrial : zM := (yX8_bestTrial, cX8_bestTrial, 4, some .int)
def MX8_worstOf : zM := (yX8_worstOf, cX8_worstOf, 6, some .int)
def MX8_few : zM := (yX8_few, cX8_few, 3, some .int)
def MX8_layTwo : zM := (yX8_layTwo, cX8_layTwo, 7, none)
def MX8_meet : zM := (yX8_meet, cX8_meet, 3, none)
def MX8_isKnown : zM := (yX8_isKnown, cX8_isKnown, 4, some .boolean)
def MX8_isEnough : zM := (yX8_isEnough, cX8_isEnough, 5, some .boolean)
def MX8_solved : zM := (yX8_solved, cX8_solved, 3, some .int)
def MX8_solve : zM := (yX8_solve, cX8_solve, 8, some .int)
def MX8_risk : zM := (yX8_risk, cX8_risk, 8, some .long)
def MX8_seconds : zM := (yX8_seconds, cX8_seconds, 3, some .int)
def MX8_misled : zM := (yX8_misled, cX8_misled, 9, some .int)
def MX8_more : zM := (yX8_more, cX8_more, 5, some .int)
def MX8_heavier : zM := (yX8_heavier, cX8_heavier, 5, some .int)
def MX8_morning : zM := (yX8_morning, cX8_morning, 6, some .int)
def MX8_keep : zM := (yX8_keep, cX8_keep, 2, some .int)
def MX8_back : zM := (yX8_back, cX8_back, 2, some .int)
def MX8_count : zM := (yX8_count, cX8_count, 2, some .int)
theorem mdX7_init : zMd MX7_init 0 := ⟨zmem 83 (by decide +kernel) rfl, zmem 62 (by decide +kernel) rfl, by decide +kernel, by decide⟩
theorem isX7_init : Cond.instanceMethod MX7_init.1 ∈ zTbl := zmem 82 (by decide +kernel) rfl
theorem mdX3_init : zMd MX3_init 0 := ⟨zmem 91 (by decide +kernel) rfl, zmem 63 (by decide +kernel) rfl, by decide +kernel, by decide⟩
theorem isX3_init : Cond.instanceMethod MX3_init.1 ∈ zTbl := zmem 90 (by decide +kernel) rfl
theorem mdX5_init : zMd MX5_init 0 := ⟨zmem 113 (by decide +kernel) rfl, zmem 64 (by decide +kernel) rfl, by decide +kernel, by decide⟩
theorem isX5_init : Cond.instanceMethod MX5_init.1 ∈ zTbl := zmem 112 (by decide +kernel) rfl
theorem mdX4_init : zMd MX4_init 0 := ⟨zmem 119 (by decide +kernel) rfl, zmem 65 (by decide +kernel) rfl, by decide +kernel, by decide⟩
theorem isX4_init : Cond.instanceMethod MX4_init.1 ∈ zTbl := zmem 118 (by decide +kernel) rfl
theorem mdX6_init : zMd MX6_init 0 := ⟨zmem 211 (by decide +kernel) rfl, zmem 66 (by decide +kernel) rfl, by decide +kernel, by decide⟩
theorem isX6_init : Cond.instanceMethod MX6_init.1 ∈ zTbl := zmem 210 (by decide +kernel) rfl
theorem mdX0_init : zMd MX0_init 0 := ⟨zmem 226 (by decide +kernel) rfl, zmem 67 (by decide +kernel) rfl, by decide +kernel, by decide⟩
theorem isX0_init : Cond.instanceMethod MX0_init.1 ∈ zTbl := zmem 225 (by decide +kernel) rfl
theorem mdX1_init : zMd MX1_init 0 := ⟨zmem 265 (by decide +kernel) rfl, zmem 68 (by decide +kernel) rfl, by decide +kernel, by decide⟩
theorem isX1_init : Cond.instanceMethod MX1_init.1 ∈ zTbl := zmem 264 (by decide +kernel) rfl
theorem mdX2_init : zMd MX2_init 1 := ⟨zmem 292 (by decide +kernel) rfl, zmem 69 (by decide +kernel) rfl, by decide +kernel, by decide⟩
theorem isX2_init : Cond.instanceMethod MX2_init.1 ∈ zTbl := zmem 291 (by decide +kernel) rfl
theorem mdJ9_max_7cf53 : zMd MJ9_max_7cf53 2 := ⟨zmem 296 (by decide +kernel) rfl, zmem 70 (by decide +kernel) rfl, by decide +kernel, by decide⟩
theorem stJ9_max_7cf53 : Cond.static MJ9_max_7cf53.1 ∈ zTbl := zmem 295 (by decide +kernel) rfl
theorem mdJ0_length_8abf5 : zMd MJ0_length_8abf5 0 := ⟨zmem 312 (by decide +kernel) rfl, zmem 71 (by decide +kernel) rfl, by decide +kernel, by decide⟩
theorem isJ0_length_8abf5 : Cond.instanceMethod MJ0_length_8abf5.1 ∈ zTbl ∧ Cond.selects MJ0_length_8abf5.1.cls MJ0_length_8abf5.1 MJ0_length_8abf5.1 ∈ zTbl := ⟨zmem 310 (by decide +kernel) rfl, zmem 311 (by decide +kernel) rfl⟩
theorem mdJ0_coder_7d493 : zMd MJ0_coder_7d493 0 := ⟨zmem 316 (by decide +kernel) rfl, zmem 71 (by decide +kernel) rfl, by decide +kernel, by decide⟩
theorem isJ0_coder_7d493 : Cond.instanceMethod MJ0_coder_7d493.1 ∈ zTbl ∧ Cond.selects MJ0_coder_7d493.1.cls MJ0_coder_7d493.1 MJ0_coder_7d493.1 ∈ zTbl := ⟨zmem 314 (by decide +kernel) rfl, zmem 315 (by decide +kernel) rfl⟩
theorem mdJ0_charAt_5068e : zMd MJ0_charAt_5068e 1 := ⟨zmem 322 (by decide +kernel) rfl, zmem 71 (by decide +kernel) rfl, by decide +kernel, by decide⟩
theorem isJ0_charAt_5068e : Cond.instanceMethod MJ0_charAt_5068e.1 ∈ zTbl ∧ Cond.selects MJ0_charAt_5068e.1.cls MJ0_charAt_5068e.1 MJ0_charAt_5068e.1 ∈ zTbl := ⟨zmem 320 (by decide +kernel) rfl, zmem 321 (by decide +kernel) rfl⟩
theorem mdJ0_isLatin1_aae02 : zMd MJ0_isLatin1_aae02 0 := ⟨zmem 326 (by decide +kernel) rfl, zmem 71 (by decide +kernel) rfl, by decide +kernel, by decide⟩
theorem isJ0_isLatin1_aae02 : Cond.instanceMethod MJ0_isLatin1_aae02.1 ∈ zTbl ∧ Cond.selects MJ0_isLatin1_aae02.1.cls MJ0_isLatin1_aae02.1 MJ0_isLatin1_aae02.1 ∈ zTbl := ⟨zmem 324 (by decide +kernel) rfl, zmem 325 (by decide +kernel) rfl⟩
theorem mdJ1_charAt_3b067 : zMd MJ1_charAt_3b067 2 := ⟨zmem 329 (by decide +kernel) rfl, zmem 72 (by decide +kernel) rfl, by decide +kernel, by decide⟩
theorem stJ1_charAt_3b067 : Cond.static MJ1_charAt_3b067.1 ∈ zTbl := zmem 328 (by decide +kernel) rfl
theorem mdJ0_checkIndex_df160 : zMd MJ0_checkIndex_df160 2 := ⟨zmem 332 (by decide +kernel) rfl, zmem 71 (by decide +kernel) rfl, by decide +kernel, by decide⟩
theorem stJ0_checkIndex_df160 : Cond.static MJ0_checkIndex_df160.1 ∈ zTbl := zmem 331 (by decide +kernel) rfl
theorem mdJ3_checkIndex_8e157 : zMd MJ3_checkIndex_8e157 3 := ⟨zmem 337 (by decide +kernel) rfl, zmem 73 (by decide +kernel) rfl, by decide +kernel, by decide⟩
theorem stJ3_checkIndex_8e157 : Cond.static MJ3_checkIndex_8e157.1 ∈ zTbl := zmem 336 (by decide +kernel) rfl
theorem mdJ2_charAt_3b067 : zMd MJ2_charAt_3b067 2 := ⟨zmem 340 (by decide +kernel) rfl, zmem 74 (by decide +kernel) rfl, by decide +kernel, by decide⟩
theorem stJ2_charAt_3b067 : Cond.static MJ2_charAt_3b067.1 ∈ zTbl := zmem 339 (by decide +kernel) rfl
theorem mdJ2_checkIndex_2214a : zMd MJ2_checkIndex_2214a 2 := ⟨zmem 343 (by decide +kernel) rfl, zmem 74 (by decide +kernel) rfl, by decide +kernel, by decide⟩
theorem stJ2_checkIndex_2214a : Cond.static MJ2_checkIndex_2214a.1 ∈ zTbl := zmem 342 (by decide +kernel) rfl
theorem mdJ2_length_9d52b : zMd MJ2_length_9d52b 1 := ⟨zmem 346 (by decide +kernel) rfl, zmem 74 (by decide +kernel) rfl, by decide +kernel, by decide⟩
theorem stJ2_length_9d52b : Cond.static MJ2_length_9d52b.1 ∈ zTbl := zmem 345 (by decide +kernel) rfl
theorem mdJ2_getChar_3b067 : zMd MJ2_getChar_3b067 2 := ⟨zmem 350 (by decide +kernel) rfl, zmem 74 (by decide +kernel) rfl, by decide +kernel, by decide⟩
theorem stJ2_getChar_3b067 : Cond.static MJ2_getChar_3b067.1 ∈ zTbl := zmem 349 (by decide +kernel) rfl
theorem mdX3_add : zMd MX3_add 1 := ⟨zmem 360 (by decide +kernel) rfl, zmem 63 (by decide +kernel) rfl, by decide +kernel, by decide⟩
theorem isX3_add : Cond.instanceMethod MX3_add.1 ∈ zTbl ∧ Cond.selects MX3_add.1.cls MX3_add.1 MX3_add.1 ∈ zTbl := ⟨zmem 358 (by decide +kernel) rfl, zmem 359 (by decide +kernel) rfl⟩
theorem mdX7_layText : zMd MX7_layText 0 := ⟨zmem 364 (by decide +kernel) rfl, zmem 62 (by decide +kernel) rfl, by decide +kernel, by decide⟩
theorem isX7_layText : Cond.instanceMethod MX7_layText.1 ∈ zTbl ∧ Cond.selects MX7_layText.1.cls MX7_layText.1 MX7_layText.1 ∈ zTbl := ⟨zmem 363 (by decide +kernel) rfl, zmem 0 (by decide +kernel) rfl⟩
theorem mdX3_readInto : zMd MX3_readInto 1 := ⟨zmem 368 (by decide +kernel) rfl, zmem 63 (by decide +kernel) rfl, by decide +kernel, by decide⟩
theorem isX3_readInto : Cond.instanceMethod MX3_readInto.1 ∈ zTbl ∧ Cond.selects MX3_readInto.1.cls MX3_readInto.1 MX3_readInto.1 ∈ zTbl := ⟨zmem 366 (by decide +kernel) rfl, zmem 367 (by decide +kernel) rfl⟩
theorem mdX5_clear : zMd MX5_clear 0 := ⟨zmem 372 (by decide +kernel) rfl, zmem 64 (by decide +kernel) rfl, by decide +kernel, by decide⟩
theorem isX5_clear : Cond.instanceMethod MX5_clear.1 ∈ zTbl ∧ Cond.selects MX5_clear.1.cls MX5_clear.1 MX5_clear.1 ∈ zTbl := ⟨zmem 370 (by decide +kernel) rfl, zmem 371 (by decide +kernel) rfl⟩
theorem mdX4_clear : zMd MX4_clear 0 := ⟨zmem 376 (by decide +kernel) rfl, zmem 65 (by decide +kernel) rfl, by decide +kernel, by decide⟩
theorem isX4_clear : Cond.instanceMethod MX4_clear.1 ∈ zTbl ∧ Cond.selects MX4_clear.1.cls MX4_clear.1 MX4_clear.1 ∈ zTbl := ⟨zmem 374 (by decide +kernel) rfl, zmem 375 (by decide +kernel) rfl⟩
theorem mdX7_put : zMd MX7_put 3 := ⟨zmem 379 (by decide +kernel) rfl, zmem 62 (by decide +kernel) rfl, by decide +kernel, by decide⟩
theorem stX7_put : Cond.static MX7_put.1 ∈ zTbl := zmem 378 (by decide +kernel) rfl
theorem mdJ7_fill_53178 : zMd MJ7_fill_53178 2 := ⟨zmem 382 (by decide +kernel) rfl, zmem 75 (by decide +kernel) rfl, by decide +kernel, by decide⟩
theorem stJ7_fill_53178 : Cond.static MJ7_fill_53178.1 ∈ zTbl := zmem 381 (by decide +kernel) rfl
theorem mdX3_readNumbers : zMd MX3_readNumbers 1 := ⟨zmem 386 (by decide +kernel) rfl, zmem 63 (by decide +kernel) rfl, by decide +kernel, by decide⟩
theorem isX3_readNumbers : Cond.instanceMethod MX3_readNumbers.1 ∈ zTbl ∧ Cond.selects MX3_readNumbers.1.cls MX3_readNumbers.1 MX3_readNumbers.1 ∈ zTbl := ⟨zmem 385 (by decide +kernel) rfl, zmem 1 (by decide +kernel) rfl⟩
theorem mdX3_figuresAt : zMd MX3_figuresAt 1 := ⟨zmem 390 (by decide +kernel) rfl, zmem 63 (by decide +kernel) rfl, by decide +kernel, by decide⟩
theorem isX3_figuresAt : Cond.instanceMethod MX3_figuresAt.1 ∈ zTbl ∧ Cond.selects MX3_figuresAt.1.cls MX3_figuresAt.1 MX3_figuresAt.1 ∈ zTbl := ⟨zmem 389 (by decide +kernel) rfl, zmem 2 (by decide +kernel) rfl⟩
theorem mdX3_letterAt : zMd MX3_letterAt 1 := ⟨zmem 394 (by decide +kernel) rfl, zmem 63 (by decide +kernel) rfl, by decide +kernel, by decide⟩
theorem isX3_letterAt : Cond.instanceMethod MX3_letterAt.1 ∈ zTbl ∧ Cond.selects MX3_letterAt.1.cls MX3_letterAt.1 MX3_letterAt.1 ∈ zTbl := ⟨zmem 393 (by decide +kernel) rfl, zmem 3 (by decide +kernel) rfl⟩
theorem mdX3_isFigure : zMd MX3_isFigure 1 := ⟨zmem 397 (by decide +kernel) rfl, zmem 63 (by decide +kernel) rfl, by decide +kernel, by decide⟩
theorem stX3_isFigure : Cond.static MX3_isFigure.1 ∈ zTbl := zmem 396 (by decide +kernel) rfl
theorem mdX7_isWithin : zMd MX7_isWithin 3 := ⟨zmem 400 (by decide +kernel) rfl, zmem 62 (by decide +kernel) rfl, by decide +kernel, by decide⟩
theorem stX7_isWithin : Cond.static MX7_isWithin.1 ∈ zTbl := zmem 399 (by decide +kernel) rfl
theorem mdX3_numberAt : zMd MX3_numberAt 2 := ⟨zmem 404 (by decide +kernel) rfl, zmem 63 (by decide +kernel) rfl, by decide +kernel, by decide⟩
theorem isX3_numberAt : Cond.instanceMethod MX3_numberAt.1 ∈ zTbl ∧ Cond.selects MX3_numberAt.1.cls MX3_numberAt.1 MX3_numberAt.1 ∈ zTbl := ⟨zmem 403 (by decide +kernel) rfl, zmem 4 (by decide +kernel) rfl⟩
theorem mdX5_takes : zMd MX5_takes 3 := ⟨zmem 409 (by decide +kernel) rfl, zmem 64 (by decide +kernel) rfl, by decide +kernel, by decide⟩
theorem isX5_takes : Cond.instanceMethod MX5_takes.1 ∈ zTbl ∧ Cond.selects MX5_takes.1.cls MX5_takes.1 MX5_takes.1 ∈ zTbl := ⟨zmem 407 (by decide +kernel) rfl, zmem 408 (by decide +kernel) rfl⟩
theorem mdX5_takesThing : zMd MX5_takesThing 1 := ⟨zmem 413 (by decide +kernel) rfl, zmem 64 (by decide +kernel) rfl, by decide +kernel, by decide⟩
theorem isX5_takesThing : Cond.instanceMethod MX5_takesThing.1 ∈ zTbl ∧ Cond.selects MX5_takesThing.1.cls MX5_takesThing.1 MX5_takesThing.1 ∈ zTbl := ⟨zmem 412 (by decide +kernel) rfl, zmem 5 (by decide +kernel) rfl⟩
theorem mdX7_at : zMd MX7_at 2 := ⟨zmem 416 (by decide +kernel) rfl, zmem 62 (by decide +kernel) rfl, by decide +kernel, by decide⟩
theorem stX7_at : Cond.static MX7_at.1 ∈ zTbl := zmem 415 (by decide +kernel) rfl
theorem mdX4_add : zMd MX4_add 1 := ⟨zmem 421 (by decide +kernel) rfl, zmem 65 (by decide +kernel) rfl, by decide +kernel, by decide⟩
theorem isX4_add : Cond.instanceMethod MX4_add.1 ∈ zTbl ∧ Cond.selects MX4_add.1.cls MX4_add.1 MX4_add.1 ∈ zTbl := ⟨zmem 419 (by decide +kernel) rfl, zmem 420 (by decide +kernel) rfl⟩
theorem mdX4_sortByKind : zMd MX4_sortByKind 2 := ⟨zmem 426 (by decide +kernel) rfl, zmem 65 (by decide +kernel) rfl, by decide +kernel, by decide⟩
theorem isX4_sortByKind : Cond.instanceMethod MX4_sortByKind.1 ∈ zTbl ∧ Cond.selects MX4_sortByKind.1.cls MX4_sortByKind.1 MX4_sortByKind.1 ∈ zTbl := ⟨zmem 425 (by decide +kernel) rfl, zmem 6 (by decide +kernel) rfl⟩
theorem mdX5_takesParcel : zMd MX5_takesParcel 1 := ⟨zmem 430 (by decide +kernel) rfl, zmem 64 (by decide +kernel) rfl, by decide +kernel, by decide⟩
theorem isX5_takesParcel : Cond.instanceMethod MX5_takesParcel.1 ∈ zTbl ∧ Cond.selects MX5_takesParcel.1.cls MX5_takesParcel.1 MX5_takesParcel.1 ∈ zTbl := ⟨zmem 429 (by decide +kernel) rfl, zmem 7 (by decide +kernel) rfl⟩
theorem mdX5_takesTruth : zMd MX5_takesTruth 2 := ⟨zmem 435 (by decide +kernel) rfl, zmem 64 (by decide +kernel) rfl, by decide +kernel, by decide⟩
theorem isX5_takesTruth : Cond.instanceMethod MX5_takesTruth.1 ∈ zTbl ∧ Cond.selects MX5_takesTruth.1.cls MX5_takesTruth.1 MX5_takesTruth.1 ∈ zTbl := ⟨zmem 434 (by decide +kernel) rfl, zmem 8 (by decide +kernel) rfl⟩
theorem mdX7_isBelow : zMd MX7_isBelow 2 := ⟨zmem 438 (by decide +kernel) rfl, zmem 62 (by decide +kernel) rfl, by decide +kernel, by decide⟩
theorem stX7_isBelow : Cond.static MX7_isBelow.1 ∈ zTbl := zmem 437 (by decide +kernel) rfl
theorem mdX5_takesScale : zMd MX5_takesScale 1 := ⟨zmem 442 (by decide +kernel) rfl, zmem 64 (by decide +kernel) rfl, by decide +kernel, by decide⟩
theorem isX5_takesScale : Cond.instanceMethod MX5_takesScale.1 ∈ zTbl ∧ Cond.selects MX5_takesScale.1.cls MX5_takesScale.1 MX5_takesScale.1 ∈ zTbl := ⟨zmem 441 (by decide +kernel) rfl, zmem 9 (by decide +kernel) rfl⟩
theorem mdX5_takesApart : zMd MX5_takesApart 1 := ⟨zmem 446 (by decide +kernel) rfl, zmem 64 (by decide +kernel) rfl, by decide +kernel, by decide⟩
theorem isX5_takesApart : Cond.instanceMethod MX5_takesApart.1 ∈ zTbl ∧ Cond.selects MX5_takesApart.1.cls MX5_takesApart.1 MX5_takesApart.1 ∈ zTbl := ⟨zmem 445 (by decide +kernel) rfl, zmem 10 (by decide +kernel) rfl⟩
theorem mdX5_takesSort : zMd MX5_takesSort 3 := ⟨zmem 450 (by decide +kernel) rfl, zmem 64 (by decide +kernel) rfl, by decide +kernel, by decide⟩
theorem isX5_takesSort : Cond.instanceMethod MX5_takesSort.1 ∈ zTbl ∧ Cond.selects MX5_takesSort.1.cls MX5_takesSort.1 MX5_takesSort.1 ∈ zTbl := ⟨zmem 449 (by decide +kernel) rfl, zmem 11 (by decide +kernel) rfl⟩
theorem mdX7_isSort : zMd MX7_isSort 1 := ⟨zmem 453 (by decide +kernel) rfl, zmem 62 (by decide +kernel) rfl, by decide +kernel, by decide⟩
theorem stX7_isSort : Cond.static MX7_isSort.1 ∈ zTbl := zmem 452 (by decide +kernel) rfl
theorem mdX5_isWorld : zMd MX5_isWorld 1 := ⟨zmem 458 (by decide +kernel) rfl, zmem 64 (by decide +kernel) rfl, by decide +kernel, by decide⟩
theorem isX5_isWorld : Cond.instanceMethod MX5_isWorld.1 ∈ zTbl ∧ Cond.selects MX5_isWorld.1.cls MX5_isWorld.1 MX5_isWorld.1 ∈ zTbl := ⟨zmem 456 (by decide +kernel) rfl, zmem 457 (by decide +kernel) rfl⟩
theorem mdX7_inside : zMd MX7_inside 2 := ⟨zmem 461 (by decide +kernel) rfl, zmem 62 (by decide +kernel) rfl, by decide +kernel, by decide⟩
theorem stX7_inside : Cond.static MX7_inside.1 ∈ zTbl := zmem 460 (by decide +kernel) rfl
theorem mdJ6_bitCount_0f7a4 : zMd MJ6_bitCount_0f7a4 1 := ⟨zmem 464 (by decide +kernel) rfl, zmem 76 (by decide +kernel) rfl, by decide +kernel, by decide⟩
theorem stJ6_bitCount_0f7a4 : Cond.static MJ6_bitCount_0f7a4.1 ∈ zTbl := zmem 463 (by decide +kernel) rfl
theorem mdX5_isFair : zMd MX5_isFair 1 := ⟨zmem 471 (by decide +kernel) rfl, zmem 64 (by decide +kernel) rfl, by decide +kernel, by decide⟩
theorem isX5_isFair : Cond.instanceMethod MX5_isFair.1 ∈ zTbl ∧ Cond.selects MX5_isFair.1.cls MX5_isFair.1 MX5_isFair.1 ∈ zTbl := ⟨zmem 470 (by decide +kernel) rfl, zmem 12 (by decide +kernel) rfl⟩
theorem mdX5_hasParcels : zMd MX5_hasParcels 1 := ⟨zmem 475 (by decide +kernel) rfl, zmem 64 (by decide +kernel) rfl, by decide +kernel, by decide⟩
theorem isX5_hasParcels : Cond.instanceMethod MX5_hasParcels.1 ∈ zTbl ∧ Cond.selects MX5_hasParcels.1.cls MX5_hasParcels.1 MX5_hasParcels.1 ∈ zTbl := ⟨zmem 474 (by decide +kernel) rfl, zmem 13 (by decide +kernel) rfl⟩
theorem mdX5_worthFor : zMd MX5_worthFor 2 := ⟨zmem 479 (by decide +kernel) rfl, zmem 64 (by decide +kernel) rfl, by decide +kernel, by decide⟩
theorem isX5_worthFor : Cond.instanceMethod MX5_worthFor.1 ∈ zTbl ∧ Cond.selects MX5_worthFor.1.cls MX5_worthFor.1 MX5_worthFor.1 ∈ zTbl := ⟨zmem 477 (by decide +kernel) rfl, zmem 478 (by decide +kernel) rfl⟩
theorem mdJ9_abs_0f7a4 : zMd MJ9_abs_0f7a4 1 := ⟨zmem 482 (by decide +kernel) rfl, zmem 70 (by decide +kernel) rfl, by decide +kernel, by decide⟩
theorem stJ9_abs_0f7a4 : Cond.static MJ9_abs_0f7a4.1 ∈ zTbl := zmem 481 (by decide +kernel) rfl
theorem mdX5_mostWorlds : zMd MX5_mostWorlds 0 := ⟨zmem 486 (by decide +kernel) rfl, zmem 64 (by decide +kernel) rfl, by decide +kernel, by decide⟩
theorem isX5_mostWorlds : Cond.instanceMethod MX5_mostWorlds.1 ∈ zTbl ∧ Cond.selects MX5_mostWorlds.1.cls MX5_mostWorlds.1 MX5_mostWorlds.1 ∈ zTbl := ⟨zmem 484 (by decide +kernel) rfl, zmem 485 (by decide +kernel) rfl⟩
theorem mdX6_makeRoom : zMd MX6_makeRoom 1 := ⟨zmem 490 (by decide +kernel) rfl, zmem 66 (by decide +kernel) rfl, by decide +kernel, by decide⟩
theorem isX6_makeRoom : Cond.instanceMethod MX6_makeRoom.1 ∈ zTbl ∧ Cond.selects MX6_makeRoom.1.cls MX6_makeRoom.1 MX6_makeRoom.1 ∈ zTbl := ⟨zmem 488 (by decide +kernel) rfl, zmem 489 (by decide +kernel) rfl⟩
theorem mdX5_listWorlds : zMd MX5_listWorlds 1 := ⟨zmem 494 (by decide +kernel) rfl, zmem 64 (by decide +kernel) rfl, by decide +kernel, by decide⟩
theorem isX5_listWorlds : Cond.instanceMethod MX5_listWorlds.1 ∈ zTbl ∧ Cond.selects MX5_listWorlds.1.cls MX5_listWorlds.1 MX5_listWorlds.1 ∈ zTbl := ⟨zmem 492 (by decide +kernel) rfl, zmem 493 (by decide +kernel) rfl⟩
theorem mdX6_clear : zMd MX6_clear 0 := ⟨zmem 498 (by decide +kernel) rfl, zmem 66 (by decide +kernel) rfl, by decide +kernel, by decide⟩
theorem isX6_clear : Cond.instanceMethod MX6_clear.1 ∈ zTbl ∧ Cond.selects MX6_clear.1.cls MX6_clear.1 MX6_clear.1 ∈ zTbl := ⟨zmem 496 (by decide +kernel) rfl, zmem 497 (by decide +kernel) rfl⟩
theorem mdX5_addWorlds : zMd MX5_addWorlds 5 := ⟨zmem 501 (by decide +kernel) rfl, zmem 64 (by decide +kernel) rfl, by decide +kernel, by decide⟩
theorem stX5_addWorlds : Cond.static MX5_addWorlds.1 ∈ zTbl := zmem 500 (by decide +kernel) rfl
theorem mdX6_add : zMd MX6_add 1 := ⟨zmem 505 (by decide +kernel) rfl, zmem 66 (by decide +kernel) rfl, by decide +kernel, by decide⟩
theorem isX6_add : Cond.instanceMethod MX6_add.1 ∈ zTbl ∧ Cond.selects MX6_add.1.cls MX6_add.1 MX6_add.1 ∈ zTbl := ⟨zmem 503 (by decide +kernel) rfl, zmem 504 (by decide +kernel) rfl⟩
theorem mdX1_begin : zMd MX1_begin 1 := ⟨zmem 509 (by decide +kernel) rfl, zmem 68 (by decide +kernel) rfl, by decide +kernel, by decide⟩
theorem isX1_begin : Cond.instanceMethod MX1_begin.1 ∈ zTbl ∧ Cond.selects MX1_begin.1.cls MX1_begin.1 MX1_begin.1 ∈ zTbl := ⟨zmem 507 (by decide +kernel) rfl, zmem 508 (by decide +kernel) rfl⟩
theorem mdX2_clear : zMd MX2_clear 0 := ⟨zmem 514 (by decide +kernel) rfl, zmem 69 (by decide +kernel) rfl, by decide +kernel, by decide⟩
theorem isX2_clear : Cond.instanceMethod MX2_clear.1 ∈ zTbl ∧ Cond.selects MX2_clear.1.cls MX2_clear.1 MX2_clear.1 ∈ zTbl := ⟨zmem 512 (by decide +kernel) rfl, zmem 513 (by decide +kernel) rfl⟩
theorem mdX3_clear : zMd MX3_clear 0 := ⟨zmem 518 (by decide +kernel) rfl, zmem 63 (by decide +kernel) rfl, by decide +kernel, by decide⟩
theorem isX3_clear : Cond.instanceMethod MX3_clear.1 ∈ zTbl ∧ Cond.selects MX3_clear.1.cls MX3_clear.1 MX3_clear.1 ∈ zTbl := ⟨zmem 516 (by decide +kernel) rfl, zmem 517 (by decide +kernel) rfl⟩
theorem mdX7_write : zMd MX7_write 1 := ⟨zmem 564 (by decide +kernel) rfl, zmem 62 (by decide +kernel) rfl, by decide +kernel, by decide⟩
theorem isX7_write : Cond.instanceMethod MX7_write.1 ∈ zTbl ∧ Cond.selects MX7_write.1.cls MX7_write.1 MX7_write.1 ∈ zTbl := ⟨zmem 562 (by decide +kernel) rfl, zmem 563 (by decide +kernel) rfl⟩
theorem mdX7_wipe : zMd MX7_wipe 0 := ⟨zmem 568 (by decide +kernel) rfl, zmem 62 (by decide +kernel) rfl, by decide +kernel, by decide⟩
theorem isX7_wipe : Cond.instanceMethod MX7_wipe.1 ∈ zTbl ∧ Cond.selects MX7_wipe.1.cls MX7_wipe.1 MX7_wipe.1 ∈ zTbl := ⟨zmem 566 (by decide +kernel) rfl, zmem 567 (by decide +kernel) rfl⟩
theorem mdX7_fault : zMd MX7_fault 0 := ⟨zmem 572 (by decide +kernel) rfl, zmem 62 (by decide +kernel) rfl, by decide +kernel, by decide⟩
theorem isX7_fault : Cond.instanceMethod MX7_fault.1 ∈ zTbl ∧ Cond.selects MX7_fault.1.cls MX7_fault.1 MX7_fault.1 ∈ zTbl := ⟨zmem 570 (by decide +kernel) rfl, zmem 571 (by decide +kernel) rfl⟩
theorem mdX7_lay : zMd MX7_lay 0 := ⟨zmem 576 (by decide +kernel) rfl, zmem 62 (by decide +kernel) rfl, by decide +kernel, by decide⟩
theorem isX7_lay : Cond.instanceMethod MX7_lay.1 ∈ zTbl ∧ Cond.selects MX7_lay.1.cls MX7_lay.1 MX7_lay.1 ∈ zTbl := ⟨zmem 574 (by decide +kernel) rfl, zmem 575 (by decide +kernel) rfl⟩
theorem mdX7_thing : zMd MX7_thing 2 := ⟨zmem 580 (by decide +kernel) rfl, zmem 62 (by decide +kernel) rfl, by decide +kernel, by decide⟩
theorem isX7_thing : Cond.instanceMethod MX7_thing.1 ∈ zTbl ∧ Cond.selects MX7_thing.1.cls MX7_thing.1 MX7_thing.1 ∈ zTbl := ⟨zmem 578 (by decide +kernel) rfl, zmem 579 (by decide +kernel) rfl⟩
theorem mdX7_isThing : zMd MX7_isThing 1 := ⟨zmem 584 (by decide +kernel) rfl, zmem 62 (by decide +kernel) rfl, by decide +kernel, by decide⟩
theorem isX7_isThing : Cond.instanceMethod MX7_isThing.1 ∈ zTbl ∧ Cond.selects MX7_isThing.1.cls MX7_isThing.1 MX7_isThing.1 ∈ zTbl := ⟨zmem 583 (by decide +kernel) rfl, zmem 14 (by decide +kernel) rfl⟩
theorem mdX7_parcelWith : zMd MX7_parcelWith 1 := ⟨zmem 589 (by decide +kernel) rfl, zmem 62 (by decide +kernel) rfl, by decide +kernel, by decide⟩
theorem isX7_parcelWith : Cond.instanceMethod MX7_parcelWith.1 ∈ zTbl ∧ Cond.selects MX7_parcelWith.1.cls MX7_parcelWith.1 MX7_parcelWith.1 ∈ zTbl := ⟨zmem 588 (by decide +kernel) rfl, zmem 15 (by decide +kernel) rfl⟩
theorem mdX7_parcel : zMd MX7_parcel 2 := ⟨zmem 594 (by decide +kernel) rfl, zmem 62 (by decide +kernel) rfl, by decide +kernel, by decide⟩
theorem isX7_parcel : Cond.instanceMethod MX7_parcel.1 ∈ zTbl ∧ Cond.selects MX7_parcel.1.cls MX7_parcel.1 MX7_parcel.1 ∈ zTbl := ⟨zmem 592 (by decide +kernel) rfl, zmem 593 (by decide +kernel) rfl⟩
theorem mdX7_isParcel : zMd MX7_isParcel 1 := ⟨zmem 598 (by decide +kernel) rfl, zmem 62 (by decide +kernel) rfl, by decide +kernel, by decide⟩
theorem isX7_isParcel : Cond.instanceMethod MX7_isParcel.1 ∈ zTbl ∧ Cond.selects MX7_isParcel.1.cls MX7_isParcel.1 MX7_isParcel.1 ∈ zTbl := ⟨zmem 597 (by decide +kernel) rfl, zmem 16 (by decide +kernel) rfl⟩
theorem mdX7_world : zMd MX7_world 2 := ⟨zmem 602 (by decide +kernel) rfl, zmem 62 (by decide +kernel) rfl, by decide +kernel, by decide⟩
theorem isX7_world : Cond.instanceMethod MX7_world.1 ∈ zTbl ∧ Cond.selects MX7_world.1.cls MX7_world.1 MX7_world.1 ∈ zTbl := ⟨zmem 600 (by decide +kernel) rfl, zmem 601 (by decide +kernel) rfl⟩
theorem mdX6_take : zMd MX6_take 1 := ⟨zmem 606 (by decide +kernel) rfl, zmem 66 (by decide +kernel) rfl, by decide +kernel, by decide⟩
theorem isX6_take : Cond.instanceMethod MX6_take.1 ∈ zTbl ∧ Cond.selects MX6_take.1.cls MX6_take.1 MX6_take.1 ∈ zTbl := ⟨zmem 604 (by decide +kernel) rfl, zmem 605 (by decide +kernel) rfl⟩
theorem mdX7_answer : zMd MX7_answer 3 := ⟨zmem 611 (by decide +kernel) rfl, zmem 62 (by decide +kernel) rfl, by decide +kernel, by decide⟩
theorem isX7_answer : Cond.instanceMethod MX7_answer.1 ∈ zTbl ∧ Cond.selects MX7_answer.1.cls MX7_answer.1 MX7_answer.1 ∈ zTbl := ⟨zmem 609 (by decide +kernel) rfl, zmem 610 (by decide +kernel) rfl⟩
theorem mdX5_reply : zMd MX5_reply 4 := ⟨zmem 616 (by decide +kernel) rfl, zmem 64 (by decide +kernel) rfl, by decide +kernel, by decide⟩
theorem isX5_reply : Cond.instanceMethod MX5_reply.1 ∈ zTbl ∧ Cond.selects MX5_reply.1.cls MX5_reply.1 MX5_reply.1 ∈ zTbl := ⟨zmem 614 (by decide +kernel) rfl, zmem 615 (by decide +kernel) rfl⟩
theorem mdX5_inSteps : zMd MX5_inSteps 1 := ⟨zmem 620 (by decide +kernel) rfl, zmem 64 (by decide +kernel) rfl, by decide +kernel, by decide⟩
theorem isX5_inSteps : Cond.instanceMethod MX5_inSteps.1 ∈ zTbl ∧ Cond.selects MX5_inSteps.1.cls MX5_inSteps.1 MX5_inSteps.1 ∈ zTbl := ⟨zmem 619 (by decide +kernel) rfl, zmem 17 (by decide +kernel) rfl⟩
theorem mdX4_tipped : zMd MX4_tipped 1 := ⟨zmem 624 (by decide +kernel) rfl, zmem 65 (by decide +kernel) rfl, by decide +kernel, by decide⟩
theorem isX4_tipped : Cond.instanceMethod MX4_tipped.1 ∈ zTbl ∧ Cond.selects MX4_tipped.1.cls MX4_tipped.1 MX4_tipped.1 ∈ zTbl := ⟨zmem 622 (by decide +kernel) rfl, zmem 623 (by decide +kernel) rfl⟩
theorem mdX4_shaken : zMd MX4_shaken 1 := ⟨zmem 628 (by decide +kernel) rfl, zmem 65 (by decide +kernel) rfl, by decide +kernel, by decide⟩
theorem isX4_shaken : Cond.instanceMethod MX4_shaken.1 ∈ zTbl ∧ Cond.selects MX4_shaken.1.cls MX4_shaken.1 MX4_shaken.1 ∈ zTbl := ⟨zmem 626 (by decide +kernel) rfl, zmem 627 (by decide +kernel) rfl⟩
theorem mdX4_pressed : zMd MX4_pressed 1 := ⟨zmem 633 (by decide +kernel) rfl, zmem 65 (by decide +kernel) rfl, by decide +kernel, by decide⟩
theorem isX4_pressed : Cond.instanceMethod MX4_pressed.1 ∈ zTbl ∧ Cond.selects MX4_pressed.1.cls MX4_pressed.1 MX4_pressed.1 ∈ zTbl := ⟨zmem 631 (by decide +kernel) rfl, zmem 632 (by decide +kernel) rfl⟩
theorem mdX7_attempt : zMd MX7_attempt 2 := ⟨zmem 637 (by decide +kernel) rfl, zmem 62 (by decide +kernel) rfl, by decide +kernel, by decide⟩
theorem isX7_attempt : Cond.instanceMethod MX7_attempt.1 ∈ zTbl ∧ Cond.selects MX7_attempt.1.cls MX7_attempt.1 MX7_attempt.1 ∈ zTbl := ⟨zmem 635 (by decide +kernel) rfl, zmem 636 (by decide +kernel) rfl⟩
theorem mdX1_isFull : zMd MX1_isFull 0 := ⟨zmem 641 (by decide +kernel) rfl, zmem 68 (by decide +kernel) rfl, by decide +kernel, by decide⟩
theorem isX1_isFull : Cond.instanceMethod MX1_isFull.1 ∈ zTbl ∧ Cond.selects MX1_isFull.1.cls MX1_isFull.1 MX1_isFull.1 ∈ zTbl := ⟨zmem 639 (by decide +kernel) rfl, zmem 640 (by decide +kernel) rfl⟩
theorem mdX7_note : zMd MX7_note 3 := ⟨zmem 645 (by decide +kernel) rfl, zmem 62 (by decide +kernel) rfl, by decide +kernel, by decide⟩
theorem isX7_note : Cond.instanceMethod MX7_note.1 ∈ zTbl ∧ Cond.selects MX7_note.1.cls MX7_note.1 MX7_note.1 ∈ zTbl := ⟨zmem 644 (by decide +kernel) rfl, zmem 18 (by decide +kernel) rfl⟩
theorem mdX2_push : zMd MX2_push 1 := ⟨zmem 649 (by decide +kernel) rfl, zmem 69 (by decide +kernel) rfl, by decide +kernel, by decide⟩
theorem isX2_push : Cond.instanceMethod MX2_push.1 ∈ zTbl ∧ Cond.selects MX2_push.1.cls MX2_push.1 MX2_push.1 ∈ zTbl := ⟨zmem 647 (by decide +kernel) rfl, zmem 648 (by decide +kernel) rfl⟩
theorem mdX2_isFull : zMd MX2_isFull 0 := ⟨zmem 653 (by decide +kernel) rfl, zmem 69 (by decide +kernel) rfl, by decide +kernel, by decide⟩
theorem isX2_isFull : Cond.instanceMethod MX2_isFull.1 ∈ zTbl ∧ Cond.selects MX2_isFull.1.cls MX2_isFull.1 MX2_isFull.1 ∈ zTbl := ⟨zmem 651 (by decide +kernel) rfl, zmem 652 (by decide +kernel) rfl⟩
theorem mdX2_dropLowest : zMd MX2_dropLowest 0 := ⟨zmem 657 (by decide +kernel) rfl, zmem 69 (by decide +kernel) rfl, by decide +kernel, by decide⟩
theorem isX2_dropLowest : Cond.instanceMethod MX2_dropLowest.1 ∈ zTbl ∧ Cond.selects MX2_dropLowest.1.cls MX2_dropLowest.1 MX2_dropLowest.1 ∈ zTbl := ⟨zmem 656 (by decide +kernel) rfl, zmem 19 (by decide +kernel) rfl⟩
theorem mdX1_copy : zMd MX1_copy 1 := ⟨zmem 661 (by decide +kernel) rfl, zmem 68 (by decide +kernel) rfl, by decide +kernel, by decide⟩
theorem isX1_copy : Cond.instanceMethod MX1_copy.1 ∈ zTbl ∧ Cond.selects MX1_copy.1.cls MX1_copy.1 MX1_copy.1 ∈ zTbl := ⟨zmem 659 (by decide +kernel) rfl, zmem 660 (by decide +kernel) rfl⟩
theorem mdX7_trialOf : zMd MX7_trialOf 2 := ⟨zmem 666 (by decide +kernel) rfl, zmem 62 (by decide +kernel) rfl, by decide +kernel, by decide⟩
theorem stX7_trialOf : Cond.static MX7_trialOf.1 ∈ zTbl := zmem 665 (by decide +kernel) rfl
theorem mdX1_add : zMd MX1_add 2 := ⟨zmem 670 (by decide +kernel) rfl, zmem 68 (by decide +kernel) rfl, by decide +kernel, by decide⟩
theorem isX1_add : Cond.instanceMethod MX1_add.1 ∈ zTbl ∧ Cond.selects MX1_add.1.cls MX1_add.1 MX1_add.1 ∈ zTbl := ⟨zmem 668 (by decide +kernel) rfl, zmem 669 (by decide +kernel) rfl⟩
theorem mdX7_hear : zMd MX7_hear 3 := ⟨zmem 675 (by decide +kernel) rfl, zmem 62 (by decide +kernel) rfl, by decide +kernel, by decide⟩
theorem isX7_hear : Cond.instanceMethod MX7_hear.1 ∈ zTbl ∧ Cond.selects MX7_hear.1.cls MX7_hear.1 MX7_hear.1 ∈ zTbl := ⟨zmem 673 (by decide +kernel) rfl, zmem 674 (by decide +kernel) rfl⟩
theorem mdX7_change : zMd MX7_change 2 := ⟨zmem 679 (by decide +kernel) rfl, zmem 62 (by decide +kernel) rfl, by decide +kernel, by decide⟩
theorem isX7_change : Cond.instanceMethod MX7_change.1 ∈ zTbl ∧ Cond.selects MX7_change.1.cls MX7_change.1 MX7_change.1 ∈ zTbl := ⟨zmem 677 (by decide +kernel) rfl, zmem 678 (by decide +kernel) rfl⟩
theorem mdX7_swapped : zMd MX7_swapped 3 := ⟨zmem 682 (by decide +kernel) rfl, zmem 62 (by decide +kernel) rfl, by decide +kernel, by decide⟩
theorem stX7_swapped : Cond.static MX7_swapped.1 ∈ zTbl := zmem 681 (by decide +kernel) rfl
theorem mdX7_hide : zMd MX7_hide 2 := ⟨zmem 686 (by decide +kernel) rfl, zmem 62 (by decide +kernel) rfl, by decide +kernel, by decide⟩
theorem isX7_hide : Cond.instanceMethod MX7_hide.1 ∈ zTbl ∧ Cond.selects MX7_hide.1.cls MX7_hide.1 MX7_hide.1 ∈ zTbl := ⟨zmem 684 (by decide +kernel) rfl, zmem 685 (by decide +kernel) rfl⟩
theorem mdX7_undo : zMd MX7_undo 0 := ⟨zmem 691 (by decide +kernel) rfl, zmem 62 (by decide +kernel) rfl, by decide +kernel, by decide⟩
theorem isX7_undo : Cond.instanceMethod MX7_undo.1 ∈ zTbl ∧ Cond.selects MX7_undo.1.cls MX7_undo.1 MX7_undo.1 ∈ zTbl := ⟨zmem 689 (by decide +kernel) rfl, zmem 690 (by decide +kernel) rfl⟩
theorem mdX2_popInto : zMd MX2_popInto 1 := ⟨zmem 695 (by decide +kernel) rfl, zmem 69 (by decide +kernel) rfl, by decide +kernel, by decide⟩
theorem isX2_popInto : Cond.instanceMethod MX2_popInto.1 ∈ zTbl ∧ Cond.selects MX2_popInto.1.cls MX2_popInto.1 MX2_popInto.1 ∈ zTbl := ⟨zmem 693 (by decide +kernel) rfl, zmem 694 (by decide +kernel) rfl⟩
theorem mdX7_left : zMd MX7_left 0 := ⟨zmem 699 (by decide +kernel) rfl, zmem 62 (by decide +kernel) rfl, by decide +kernel, by decide⟩
theorem isX7_left : Cond.instanceMethod MX7_left.1 ∈ zTbl ∧ Cond.selects MX7_left.1.cls MX7_left.1 MX7_left.1 ∈ zTbl := ⟨zmem 697 (by decide +kernel) rfl, zmem 698 (by decide +kernel) rfl⟩
theorem mdX7_findRemaining : zMd MX7_findRemaining 0 := ⟨zmem 703 (by decide +kernel) rfl, zmem 62 (by decide +kernel) rfl, by decide +kernel, by decide⟩
theorem isX7_findRemaining : Cond.instanceMethod MX7_findRemaining.1 ∈ zTbl ∧ Cond.selects MX7_findRemaining.1.cls MX7_findRemaining.1 MX7_findRemaining.1 ∈ zTbl := ⟨zmem 702 (by decide +kernel) rfl, zmem 20 (by decide +kernel) rfl⟩
theorem mdX6_copy : zMd MX6_copy 1 := ⟨zmem 707 (by decide +kernel) rfl, zmem 66 (by decide +kernel) rfl, by decide +kernel, by decide⟩
theorem isX6_copy : Cond.instanceMethod MX6_copy.1 ∈ zTbl ∧ Cond.selects MX6_copy.1.cls MX6_copy.1 MX6_copy.1 ∈ zTbl := ⟨zmem 705 (by decide +kernel) rfl, zmem 706 (by decide +kernel) rfl⟩
theorem mdJ9_min_7cf53 : zMd MJ9_min_7cf53 2 := ⟨zmem 710 (by decide +kernel) rfl, zmem 70 (by decide +kernel) rfl, by decide +kernel, by decide⟩
theorem stJ9_min_7cf53 : Cond.static MJ9_min_7cf53.1 ∈ zTbl := zmem 709 (by decide +kernel) rfl
theorem mdX7_parcelOf : zMd MX7_parcelOf 1 := ⟨zmem 716 (by decide +kernel) rfl, zmem 62 (by decide +kernel) rfl, by decide +kernel, by decide⟩
theorem stX7_parcelOf : Cond.static MX7_parcelOf.1 ∈ zTbl := zmem 715 (by decide +kernel) rfl
theorem mdX7_sortOf : zMd MX7_sortOf 1 := ⟨zmem 719 (by decide +kernel) rfl, zmem 62 (by decide +kernel) rfl, by decide +kernel, by decide⟩
theorem stX7_sortOf : Cond.static MX7_sortOf.1 ∈ zTbl := zmem 718 (by decide +kernel) rfl
theorem mdX6_narrow : zMd MX6_narrow 4 := ⟨zmem 723 (by decide +kernel) rfl, zmem 66 (by decide +kernel) rfl, by decide +kernel, by decide⟩
theorem isX6_narrow : Cond.instanceMethod MX6_narrow.1 ∈ zTbl ∧ Cond.selects MX6_narrow.1.cls MX6_narrow.1 MX6_narrow.1 ∈ zTbl := ⟨zmem 721 (by decide +kernel) rfl, zmem 722 (by decide +kernel) rfl⟩
theorem mdX7_likely : zMd MX7_likely 3 := ⟨zmem 732 (by decide +kernel) rfl, zmem 62 (by decide +kernel) rfl, by decide +kernel, by decide⟩
theorem isX7_likely : Cond.instanceMethod MX7_likely.1 ∈ zTbl ∧ Cond.selects MX7_likely.1.cls MX7_likely.1 MX7_likely.1 ∈ zTbl := ⟨zmem 730 (by decide +kernel) rfl, zmem 731 (by decide +kernel) rfl⟩
theorem mdX5_chanceOf : zMd MX5_chanceOf 1 := ⟨zmem 738 (by decide +kernel) rfl, zmem 64 (by decide +kernel) rfl, by decide +kernel, by decide⟩
theorem isX5_chanceOf : Cond.instanceMethod MX5_chanceOf.1 ∈ zTbl ∧ Cond.selects MX5_chanceOf.1.cls MX5_chanceOf.1 MX5_chanceOf.1 ∈ zTbl := ⟨zmem 736 (by decide +kernel) rfl, zmem 737 (by decide +kernel) rfl⟩
theorem mdX7_inLowestTerms : zMd MX7_inLowestTerms 3 := ⟨zmem 741 (by decide +kernel) rfl, zmem 62 (by decide +kernel) rfl, by decide +kernel, by decide⟩
theorem stX7_inLowestTerms : Cond.static MX7_inLowestTerms.1 ∈ zTbl := zmem 740 (by decide +kernel) rfl
theorem mdX7_sure : zMd MX7_sure 2 := ⟨zmem 745 (by decide +kernel) rfl, zmem 62 (by decide +kernel) rfl, by decide +kernel, by decide⟩
theorem isX7_sure : Cond.instanceMethod MX7_sure.1 ∈ zTbl ∧ Cond.selects MX7_sure.1.cls MX7_sure.1 MX7_sure.1 ∈ zTbl := ⟨zmem 743 (by decide +kernel) rfl, zmem 744 (by decide +kernel) rfl⟩
theorem mdX7_judge : zMd MX7_judge 0 := ⟨zmem 749 (by decide +kernel) rfl, zmem 62 (by decide +kernel) rfl, by decide +kernel, by decide⟩
theorem isX7_judge : Cond.instanceMethod MX7_judge.1 ∈ zTbl ∧ Cond.selects MX7_judge.1.cls MX7_judge.1 MX7_judge.1 ∈ zTbl := ⟨zmem 747 (by decide +kernel) rfl, zmem 748 (by decide +kernel) rfl⟩
theorem mdX7_guess : zMd MX7_guess 2 := ⟨zmem 753 (by decide +kernel) rfl, zmem 62 (by decide +kernel) rfl, by decide +kernel, by decide⟩
theorem isX7_guess : Cond.instanceMethod MX7_guess.1 ∈ zTbl ∧ Cond.selects MX7_guess.1.cls MX7_guess.1 MX7_guess.1 ∈ zTbl := ⟨zmem 751 (by decide +kernel) rfl, zmem 752 (by decide +kernel) rfl⟩
theorem mdX7_sumChances : zMd MX7_sumChances 2 := ⟨zmem 757 (by decide +kernel) rfl, zmem 62 (by decide +kernel) rfl, by decide +kernel, by decide⟩
theorem isX7_sumChances : Cond.instanceMethod MX7_sumChances.1 ∈ zTbl ∧ Cond.selects MX7_sumChances.1.cls MX7_sumChances.1 MX7_sumChances.1 ∈ zTbl := ⟨zmem 756 (by decide +kernel) rfl, zmem 21 (by decide +kernel) rfl⟩
theorem mdJ7_fill_d0a16 : zMd MJ7_fill_d0a16 2 := ⟨zmem 760 (by decide +kernel) rfl, zmem 75 (by decide +kernel) rfl, by decide +kernel, by decide⟩
theorem stJ7_fill_d0a16 : Cond.static MJ7_fill_d0a16.1 ∈ zTbl := zmem 759 (by decide +kernel) rfl
theorem mdX7_next : zMd MX7_next 1 := ⟨zmem 764 (by decide +kernel) rfl, zmem 62 (by decide +kernel) rfl, by decide +kernel, by decide⟩
theorem isX7_next : Cond.instanceMethod MX7_next.1 ∈ zTbl ∧ Cond.selects MX7_next.1.cls MX7_next.1 MX7_next.1 ∈ zTbl := ⟨zmem 762 (by decide +kernel) rfl, zmem 763 (by decide +kernel) rfl⟩
theorem mdX0_choose : zMd MX0_choose 2 := ⟨zmem 768 (by decide +kernel) rfl, zmem 67 (by decide +kernel) rfl, by decide +kernel, by decide⟩
theorem isX0_choose : Cond.instanceMethod MX0_choose.1 ∈ zTbl ∧ Cond.selects MX0_choose.1.cls MX0_choose.1 MX0_choose.1 ∈ zTbl := ⟨zmem 766 (by decide +kernel) rfl, zmem 767 (by decide +kernel) rfl⟩
theorem mdX0_countSets : zMd MX0_countSets 2 := ⟨zmem 772 (by decide +kernel) rfl, zmem 67 (by decide +kernel) rfl, by decide +kernel, by decide⟩
theorem isX0_countSets : Cond.instanceMethod MX0_countSets.1 ∈ zTbl ∧ Cond.selects MX0_countSets.1.cls MX0_countSets.1 MX0_countSets.1 ∈ zTbl := ⟨zmem 770 (by decide +kernel) rfl, zmem 771 (by decide +kernel) rfl⟩
theorem mdX7_raise : zMd MX7_raise 3 := ⟨zmem 778 (by decide +kernel) rfl, zmem 62 (by decide +kernel) rfl, by decide +kernel, by decide⟩
theorem stX7_raise : Cond.static MX7_raise.1 ∈ zTbl := zmem 777 (by decide +kernel) rfl
theorem mdX0_countReplies : zMd MX0_countReplies 3 := ⟨zmem 782 (by decide +kernel) rfl, zmem 67 (by decide +kernel) rfl, by decide +kernel, by decide⟩
theorem isX0_countReplies : Cond.instanceMethod MX0_countReplies.1 ∈ zTbl ∧ Cond.selects MX0_countReplies.1.cls MX0_countReplies.1 MX0_countReplies.1 ∈ zTbl := ⟨zmem 780 (by decide +kernel) rfl, zmem 781 (by decide +kernel) rfl⟩
theorem mdX7_few : zMd MX7_few 1 := ⟨zmem 790 (by decide +kernel) rfl, zmem 62 (by decide +kernel) rfl, by decide +kernel, by decide⟩
theorem isX7_few : Cond.instanceMethod MX7_few.1 ∈ zTbl ∧ Cond.selects MX7_few.1.cls MX7_few.1 MX7_few.1 ∈ zTbl := ⟨zmem 788 (by decide +kernel) rfl, zmem 789 (by decide +kernel) rfl⟩
theorem mdX0_fewest : zMd MX0_fewest 4 := ⟨zmem 794 (by decide +kernel) rfl, zmem 67 (by decide +kernel) rfl, by decide +kernel, by decide⟩
theorem isX0_fewest : Cond.instanceMethod MX0_fewest.1 ∈ zTbl ∧ Cond.selects MX0_fewest.1.cls MX0_fewest.1 MX0_fewest.1 ∈ zTbl := ⟨zmem 792 (by decide +kernel) rfl, zmem 793 (by decide +kernel) rfl⟩
theorem mdX0_isKnown : zMd MX0_isKnown 2 := ⟨zmem 798 (by decide +kernel) rfl, zmem 67 (by decide +kernel) rfl, by decide +kernel, by decide⟩
theorem isX0_isKnown : Cond.instanceMethod MX0_isKnown.1 ∈ zTbl ∧ Cond.selects MX0_isKnown.1.cls MX0_isKnown.1 MX0_isKnown.1 ∈ zTbl := ⟨zmem 797 (by decide +kernel) rfl, zmem 22 (by decide +kernel) rfl⟩
theorem mdX0_someTrialTells : zMd MX0_someTrialTells 5 := ⟨zmem 802 (by decide +kernel) rfl, zmem 67 (by decide +kernel) rfl, by decide +kernel, by decide⟩
theorem isX0_someTrialTells : Cond.instanceMethod MX0_someTrialTells.1 ∈ zTbl ∧ Cond.selects MX0_someTrialTells.1.cls MX0_someTrialTells.1 MX0_someTrialTells.1 ∈ zTbl := ⟨zmem 801 (by decide +kernel) rfl, zmem 23 (by decide +kernel) rfl⟩
theorem mdX5_trials : zMd MX5_trials 0 := ⟨zmem 806 (by decide +kernel) rfl, zmem 64 (by decide +kernel) rfl, by decide +kernel, by decide⟩
theorem isX5_trials : Cond.instanceMethod MX5_trials.1 ∈ zTbl ∧ Cond.selects MX5_trials.1.cls MX5_trials.1 MX5_trials.1 ∈ zTbl := ⟨zmem 804 (by decide +kernel) rfl, zmem 805 (by decide +kernel) rfl⟩
theorem mdX0_tells : zMd MX0_tells 6 := ⟨zmem 810 (by decide +kernel) rfl, zmem 67 (by decide +kernel) rfl, by decide +kernel, by decide⟩
theorem isX0_tells : Cond.instanceMethod MX0_tells.1 ∈ zTbl ∧ Cond.selects MX0_tells.1.cls MX0_tells.1 MX0_tells.1 ∈ zTbl := ⟨zmem 809 (by decide +kernel) rfl, zmem 24 (by decide +kernel) rfl⟩
theorem mdX0_group : zMd MX0_group 4 := ⟨zmem 817 (by decide +kernel) rfl, zmem 67 (by decide +kernel) rfl, by decide +kernel, by decide⟩
theorem isX0_group : Cond.instanceMethod MX0_group.1 ∈ zTbl ∧ Cond.selects MX0_group.1.cls MX0_group.1 MX0_group.1 ∈ zTbl := ⟨zmem 816 (by decide +kernel) rfl, zmem 25 (by decide +kernel) rfl⟩
theorem mdX0_listReplies : zMd MX0_listReplies 3 := ⟨zmem 821 (by decide +kernel) rfl, zmem 67 (by decide +kernel) rfl, by decide +kernel, by decide⟩
theorem isX0_listReplies : Cond.instanceMethod MX0_listReplies.1 ∈ zTbl ∧ Cond.selects MX0_listReplies.1.cls MX0_listReplies.1 MX0_listReplies.1 ∈ zTbl := ⟨zmem 820 (by decide +kernel) rfl, zmem 26 (by decide +kernel) rfl⟩
theorem mdX6_set : zMd MX6_set 2 := ⟨zmem 826 (by decide +kernel) rfl, zmem 66 (by decide +kernel) rfl, by decide +kernel, by decide⟩
theorem isX6_set : Cond.instanceMethod MX6_set.1 ∈ zTbl ∧ Cond.selects MX6_set.1.cls MX6_set.1 MX6_set.1 ∈ zTbl := ⟨zmem 824 (by decide +kernel) rfl, zmem 825 (by decide +kernel) rfl⟩
theorem mdX0_eachGroupIsTold : zMd MX0_eachGroupIsTold 3 := ⟨zmem 831 (by decide +kernel) rfl, zmem 67 (by decide +kernel) rfl, by decide +kernel, by decide⟩
theorem isX0_eachGroupIsTold : Cond.instanceMethod MX0_eachGroupIsTold.1 ∈ zTbl ∧ Cond.selects MX0_eachGroupIsTold.1.cls MX0_eachGroupIsTold.1 MX0_eachGroupIsTold.1 ∈ zTbl := ⟨zmem 830 (by decide +kernel) rfl, zmem 27 (by decide +kernel) rfl⟩
theorem mdX7_solved : zMd MX7_solved 1 := ⟨zmem 835 (by decide +kernel) rfl, zmem 62 (by decide +kernel) rfl, by decide +kernel, by decide⟩
theorem isX7_solved : Cond.instanceMethod MX7_solved.1 ∈ zTbl ∧ Cond.selects MX7_solved.1.cls MX7_solved.1 MX7_solved.1 ∈ zTbl := ⟨zmem 833 (by decide +kernel) rfl, zmem 834 (by decide +kernel) rfl⟩
theorem mdX7_solve : zMd MX7_solve 3 := ⟨zmem 839 (by decide +kernel) rfl, zmem 62 (by decide +kernel) rfl, by decide +kernel, by decide⟩
theorem isX7_solve : Cond.instanceMethod MX7_solve.1 ∈ zTbl ∧ Cond.selects MX7_solve.1.cls MX7_solve.1 MX7_solve.1 ∈ zTbl := ⟨zmem 838 (by decide +kernel) rfl, zmem 28 (by decide +kernel) rfl⟩
theorem mdX0_solves : zMd MX0_solves 3 := ⟨zmem 843 (by decide +kernel) rfl, zmem 67 (by decide +kernel) rfl, by decide +kernel, by decide⟩
theorem isX0_solves : Cond.instanceMethod MX0_solves.1 ∈ zTbl ∧ Cond.selects MX0_solves.1.cls MX0_solves.1 MX0_solves.1 ∈ zTbl := ⟨zmem 841 (by decide +kernel) rfl, zmem 842 (by decide +kernel) rfl⟩
theorem mdX6_holds : zMd MX6_holds 1 := ⟨zmem 847 (by decide +kernel) rfl, zmem 66 (by decide +kernel) rfl, by decide +kernel, by decide⟩
theorem isX6_holds : Cond.instanceMethod MX6_holds.1 ∈ zTbl ∧ Cond.selects MX6_holds.1.cls MX6_holds.1 MX6_holds.1 ∈ zTbl := ⟨zmem 845 (by decide +kernel) rfl, zmem 846 (by decide +kernel) rfl⟩
theorem mdX7_risk : zMd MX7_risk 1 := ⟨zmem 853 (by decide +kernel) rfl, zmem 62 (by decide +kernel) rfl, by decide +kernel, by decide⟩
theorem isX7_risk : Cond.instanceMethod MX7_risk.1 ∈ zTbl ∧ Cond.selects MX7_risk.1.cls MX7_risk.1 MX7_risk.1 ∈ zTbl := ⟨zmem 851 (by decide +kernel) rfl, zmem 852 (by decide +kernel) rfl⟩
theorem mdX7_seconds : zMd MX7_seconds 0 := ⟨zmem 858 (by decide +kernel) rfl, zmem 62 (by decide +kernel) rfl, by decide +kernel, by decide⟩
theorem isX7_seconds : Cond.instanceMethod MX7_seconds.1 ∈ zTbl ∧ Cond.selects MX7_seconds.1.cls MX7_seconds.1 MX7_seconds.1 ∈ zTbl := ⟨zmem 856 (by decide +kernel) rfl, zmem 857 (by decide +kernel) rfl⟩
theorem mdX7_misled : zMd MX7_misled 2 := ⟨zmem 862 (by decide +kernel) rfl, zmem 62 (by decide +kernel) rfl, by decide +kernel, by decide⟩
theorem isX7_misled : Cond.instanceMethod MX7_misled.1 ∈ zTbl ∧ Cond.selects MX7_misled.1.cls MX7_misled.1 MX7_misled.1 ∈ zTbl := ⟨zmem 860 (by decide +kernel) rfl, zmem 861 (by decide +kernel) rfl⟩
theorem mdX7_more : zMd MX7_more 1 := ⟨zmem 868 (by decide +kernel) rfl, zmem 62 (by decide +kernel) rfl, by decide +kernel, by decide⟩
theorem isX7_more : Cond.instanceMethod MX7_more.1 ∈ zTbl ∧ Cond.selects MX7_more.1.cls MX7_more.1 MX7_more.1 ∈ zTbl := ⟨zmem 866 (by decide +kernel) rfl, zmem 867 (by decide +kernel) rfl⟩
theorem mdJ6_compare_7cf53 : zMd MJ6_compare_7cf53 2 := ⟨zmem 872 (by decide +kernel) rfl, zmem 76 (by decide +kernel) rfl, by decide +kernel, by decide⟩
theorem stJ6_compare_7cf53 : Cond.static MJ6_compare_7cf53.1 ∈ zTbl := zmem 871 (by decide +kernel) rfl
theorem mdX7_heavier : zMd MX7_heavier 2 := ⟨zmem 876 (by decide +kernel) rfl, zmem 62 (by decide +kernel) rfl, by decide +kernel, by decide⟩
theorem isX7_heavier : Cond.instanceMethod MX7_heavier.1 ∈ zTbl ∧ Cond.selects MX7_heavier.1.cls MX7_heavier.1 MX7_heavier.1 ∈ zTbl := ⟨zmem 874 (by decide +kernel) rfl, zmem 875 (by decide +kernel) rfl⟩
theorem mdX5_weightWithBox : zMd MX5_weightWithBox 2 := ⟨zmem 880 (by decide +kernel) rfl, zmem 64 (by decide +kernel) rfl, by decide +kernel, by decide⟩
theorem isX5_weightWithBox : Cond.instanceMethod MX5_weightWithBox.1 ∈ zTbl ∧ Cond.selects MX5_weightWithBox.1.cls MX5_weightWithBox.1 MX5_weightWithBox.1 ∈ zTbl := ⟨zmem 878 (by decide +kernel) rfl, zmem 879 (by decide +kernel) rfl⟩
theorem mdX7_morning : zMd MX7_morning 2 := ⟨zmem 884 (by decide +kernel) rfl, zmem 62 (by decide +kernel) rfl, by decide +kernel, by decide⟩
theorem isX7_morning : Cond.instanceMethod MX7_morning.1 ∈ zTbl ∧ Cond.selects MX7_morning.1.cls MX7_morning.1 MX7_morning.1 ∈ zTbl := ⟨zmem 882 (by decide +kernel) rfl, zmem 883 (by decide +kernel) rfl⟩
theorem mdX7_keep : zMd MX7_keep 0 := ⟨zmem 890 (by decide +kernel) rfl, zmem 62 (by decide +kernel) rfl, by decide +kernel, by decide⟩
theorem isX7_keep : Cond.instanceMethod MX7_keep.1 ∈ zTbl ∧ Cond.selects MX7_keep.1.cls MX7_keep.1 MX7_keep.1 ∈ zTbl := ⟨zmem 888 (by decide +kernel) rfl, zmem 889 (by decide +kernel) rfl⟩
theorem mdX7_back : zMd MX7_back 0 := ⟨zmem 895 (by decide +kernel) rfl, zmem 62 (by decide +kernel) rfl, by decide +kernel, by decide⟩
theorem isX7_back : Cond.instanceMethod MX7_back.1 ∈ zTbl ∧ Cond.selects MX7_back.1.cls MX7_back.1 MX7_back.1 ∈ zTbl := ⟨zmem 893 (by decide +kernel) rfl, zmem 894 (by decide +kernel) rfl⟩
theorem mdX7_count : zMd MX7_count 1 := ⟨zmem 899 (by decide +kernel) rfl, zmem 62 (by decide +kernel) rfl, by decide +kernel, by decide⟩
theorem isX7_count : Cond.instanceMethod MX7_count.1 ∈ zTbl ∧ Cond.selects MX7_count.1.cls MX7_count.1 MX7_count.1 ∈ zTbl := ⟨zmem 897 (by decide +kernel) rfl, zmem 898 (by decide +kernel) rfl⟩
theorem mdX8_init : zMd MX8_init 0 := ⟨zmem 904 (by decide +kernel) rfl, zmem 77 (by decide +kernel) rfl, by decide +kernel, by decide⟩
theorem isX8_init : Cond.instanceMethod MX8_init.1 ∈ zTbl := zmem 903 (by decide +kernel) rfl
theorem mdX8_noTree : zMd MX8_noTree 1 := ⟨zmem 909 (by decide +kernel) rfl, zmem 77 (by decide +kernel) rfl, by decide +kernel, by decide⟩
theorem isX8_noTree : Cond.instanceMethod MX8_noTree.1 ∈ zTbl ∧ Cond.selects MX8_noTree.1.cls MX8_noTree.1 MX8_noTree.1 ∈ zTbl := ⟨zmem 908 (by decide +kernel) rfl, zmem 29 (by decide +kernel) rfl⟩
theorem mdX8_addThing : zMd MX8_addThing 5 := ⟨zmem 913 (by decide +kernel) rfl, zmem 77 (by decide +kernel) rfl, by decide +kernel, by decide⟩
theorem isX8_addThing : Cond.instanceMethod MX8_addThing.1 ∈ zTbl ∧ Cond.selects MX8_addThing.1.cls MX8_addThing.1 MX8_addThing.1 ∈ zTbl := ⟨zmem 912 (by decide +kernel) rfl, zmem 30 (by decide +kernel) rfl⟩
theorem mdX8_addParcel : zMd MX8_addParcel 4 := ⟨zmem 917 (by decide +kernel) rfl, zmem 77 (by decide +kernel) rfl, by decide +kernel, by decide⟩
theorem isX8_addParcel : Cond.instanceMethod MX8_addParcel.1 ∈ zTbl ∧ Cond.selects MX8_addParcel.1.cls MX8_addParcel.1 MX8_addParcel.1 ∈ zTbl := ⟨zmem 916 (by decide +kernel) rfl, zmem 31 (by decide +kernel) rfl⟩
theorem mdX8_begin : zMd MX8_begin 0 := ⟨zmem 921 (by decide +kernel) rfl, zmem 77 (by decide +kernel) rfl, by decide +kernel, by decide⟩
theorem isX8_begin : Cond.instanceMethod MX8_begin.1 ∈ zTbl ∧ Cond.selects MX8_begin.1.cls MX8_begin.1 MX8_begin.1 ∈ zTbl := ⟨zmem 920 (by decide +kernel) rfl, zmem 32 (by decide +kernel) rfl⟩
theorem mdX8_layWorlds : zMd MX8_layWorlds 0 := ⟨zmem 925 (by decide +kernel) rfl, zmem 77 (by decide +kernel) rfl, by decide +kernel, by decide⟩
theorem isX8_layWorlds : Cond.instanceMethod MX8_layWorlds.1 ∈ zTbl ∧ Cond.selects MX8_layWorlds.1.cls MX8_layWorlds.1 MX8_layWorlds.1 ∈ zTbl := ⟨zmem 924 (by decide +kernel) rfl, zmem 33 (by decide +kernel) rfl⟩
theorem mdX8_bits : zMd MX8_bits 1 := ⟨zmem 928 (by decide +kernel) rfl, zmem 77 (by decide +kernel) rfl, by decide +kernel, by decide⟩
theorem stX8_bits : Cond.static MX8_bits.1 ∈ zTbl := zmem 927 (by decide +kernel) rfl
theorem mdX8_isFair : zMd MX8_isFair 2 := ⟨zmem 932 (by decide +kernel) rfl, zmem 77 (by decide +kernel) rfl, by decide +kernel, by decide⟩
theorem isX8_isFair : Cond.instanceMethod MX8_isFair.1 ∈ zTbl ∧ Cond.selects MX8_isFair.1.cls MX8_isFair.1 MX8_isFair.1 ∈ zTbl := ⟨zmem 931 (by decide +kernel) rfl, zmem 34 (by decide +kernel) rfl⟩
theorem mdX8_gap : zMd MX8_gap 2 := ⟨zmem 936 (by decide +kernel) rfl, zmem 77 (by decide +kernel) rfl, by decide +kernel, by decide⟩
theorem isX8_gap : Cond.instanceMethod MX8_gap.1 ∈ zTbl ∧ Cond.selects MX8_gap.1.cls MX8_gap.1 MX8_gap.1 ∈ zTbl := ⟨zmem 935 (by decide +kernel) rfl, zmem 35 (by decide +kernel) rfl⟩
theorem mdX8_has : zMd MX8_has 2 := ⟨zmem 939 (by decide +kernel) rfl, zmem 77 (by decide +kernel) rfl, by decide +kernel, by decide⟩
theorem stX8_has : Cond.static MX8_has.1 ∈ zTbl := zmem 938 (by decide +kernel) rfl
theorem mdX8_in : zMd MX8_in 3 := ⟨zmem 942 (by decide +kernel) rfl, zmem 77 (by decide +kernel) rfl, by decide +kernel, by decide⟩
theorem stX8_in : Cond.static MX8_in.1 ∈ zTbl := zmem 941 (by decide +kernel) rfl
theorem mdX8_write : zMd MX8_write 1 := ⟨zmem 1047 (by decide +kernel) rfl, zmem 77 (by decide +kernel) rfl, by decide +kernel, by decide⟩
theorem isX8_write : Cond.instanceMethod MX8_write.1 ∈ zTbl ∧ Cond.selects MX8_write.1.cls MX8_write.1 MX8_write.1 ∈ zTbl := ⟨zmem 1045 (by decide +kernel) rfl, zmem 1046 (by decide +kernel) rfl⟩
theorem mdX8_wipe : zMd MX8_wipe 0 := ⟨zmem 1053 (by decide +kernel) rfl, zmem 77 (by decide +kernel) rfl, by decide +kernel, by decide⟩
theorem isX8_wipe : Cond.instanceMethod MX8_wipe.1 ∈ zTbl ∧ Cond.selects MX8_wipe.1.cls MX8_wipe.1 MX8_wipe.1 ∈ zTbl := ⟨zmem 1051 (by decide +kernel) rfl, zmem 1052 (by decide +kernel) rfl⟩
theorem mdX8_fault : zMd MX8_fault 0 := ⟨zmem 1057 (by decide +kernel) rfl, zmem 77 (by decide +kernel) rfl, by decide +kernel, by decide⟩
theorem isX8_fault : Cond.instanceMethod MX8_fault.1 ∈ zTbl ∧ Cond.selects MX8_fault.1.cls MX8_fault.1 MX8_fault.1 ∈ zTbl := ⟨zmem 1055 (by decide +kernel) rfl, zmem 1056 (by decide +kernel) rfl⟩
theorem mdX8_readAll : zMd MX8_readAll 0 := ⟨zmem 1061 (by decide +kernel) rfl, zmem 77 (by decide +kernel) rfl, by decide +kernel, by decide⟩
theorem isX8_readAll : Cond.instanceMethod MX8_readAll.1 ∈ zTbl ∧ Cond.selects MX8_readAll.1.cls MX8_readAll.1 MX8_readAll.1 ∈ zTbl := ⟨zmem 1060 (by decide +kernel) rfl, zmem 36 (by decide +kernel) rfl⟩
theorem mdX8_item : zMd MX8_item 0 := ⟨zmem 1065 (by decide +kernel) rfl, zmem 77 (by decide +kernel) rfl, by decide +kernel, by decide⟩
theorem isX8_item : Cond.instanceMethod MX8_item.1 ∈ zTbl ∧ Cond.selects MX8_item.1.cls MX8_item.1 MX8_item.1 ∈ zTbl := ⟨zmem 1064 (by decide +kernel) rfl, zmem 37 (by decide +kernel) rfl⟩
theorem mdX8_letterAt : zMd MX8_letterAt 1 := ⟨zmem 1069 (by decide +kernel) rfl, zmem 77 (by decide +kernel) rfl, by decide +kernel, by decide⟩
theorem isX8_letterAt : Cond.instanceMethod MX8_letterAt.1 ∈ zTbl ∧ Cond.selects MX8_letterAt.1.cls MX8_letterAt.1 MX8_letterAt.1 ∈ zTbl := ⟨zmem 1068 (by decide +kernel) rfl, zmem 38 (by decide +kernel) rfl⟩
theorem mdX8_figures : zMd MX8_figures 1 := ⟨zmem 1073 (by decide +kernel) rfl, zmem 77 (by decide +kernel) rfl, by decide +kernel, by decide⟩
theorem isX8_figures : Cond.instanceMethod MX8_figures.1 ∈ zTbl ∧ Cond.selects MX8_figures.1.cls MX8_figures.1 MX8_figures.1 ∈ zTbl := ⟨zmem 1072 (by decide +kernel) rfl, zmem 39 (by decide +kernel) rfl⟩
theorem mdX8_isThingTold : zMd MX8_isThingTold 0 := ⟨zmem 1080 (by decide +kernel) rfl, zmem 77 (by decide +kernel) rfl, by decide +kernel, by decide⟩
theorem isX8_isThingTold : Cond.instanceMethod MX8_isThingTold.1 ∈ zTbl ∧ Cond.selects MX8_isThingTold.1.cls MX8_isThingTold.1 MX8_isThingTold.1 ∈ zTbl := ⟨zmem 1079 (by decide +kernel) rfl, zmem 40 (by decide +kernel) rfl⟩
theorem mdX8_lay : zMd MX8_lay 0 := ⟨zmem 1087 (by decide +kernel) rfl, zmem 77 (by decide +kernel) rfl, by decide +kernel, by decide⟩
theorem isX8_lay : Cond.instanceMethod MX8_lay.1 ∈ zTbl ∧ Cond.selects MX8_lay.1.cls MX8_lay.1 MX8_lay.1 ∈ zTbl := ⟨zmem 1085 (by decide +kernel) rfl, zmem 1086 (by decide +kernel) rfl⟩
theorem mdX8_isTruth : zMd MX8_isTruth 0 := ⟨zmem 1091 (by decide +kernel) rfl, zmem 77 (by decide +kernel) rfl, by decide +kernel, by decide⟩
theorem isX8_isTruth : Cond.instanceMethod MX8_isTruth.1 ∈ zTbl ∧ Cond.selects MX8_isTruth.1.cls MX8_isTruth.1 MX8_isTruth.1 ∈ zTbl := ⟨zmem 1090 (by decide +kernel) rfl, zmem 41 (by decide +kernel) rfl⟩
theorem mdX8_codeOf : zMd MX8_codeOf 4 := ⟨zmem 1095 (by decide +kernel) rfl, zmem 77 (by decide +kernel) rfl, by decide +kernel, by decide⟩
theorem isX8_codeOf : Cond.instanceMethod MX8_codeOf.1 ∈ zTbl ∧ Cond.selects MX8_codeOf.1.cls MX8_codeOf.1 MX8_codeOf.1 ∈ zTbl := ⟨zmem 1094 (by decide +kernel) rfl, zmem 42 (by decide +kernel) rfl⟩
theorem mdX8_thing : zMd MX8_thing 2 := ⟨zmem 1099 (by decide +kernel) rfl, zmem 77 (by decide +kernel) rfl, by decide +kernel, by decide⟩
theorem isX8_thing : Cond.instanceMethod MX8_thing.1 ∈ zTbl ∧ Cond.selects MX8_thing.1.cls MX8_thing.1 MX8_thing.1 ∈ zTbl := ⟨zmem 1097 (by decide +kernel) rfl, zmem 1098 (by decide +kernel) rfl⟩
theorem mdX8_isThing : zMd MX8_isThing 1 := ⟨zmem 1103 (by decide +kernel) rfl, zmem 77 (by decide +kernel) rfl, by decide +kernel, by decide⟩
theorem isX8_isThing : Cond.instanceMethod MX8_isThing.1 ∈ zTbl ∧ Cond.selects MX8_isThing.1.cls MX8_isThing.1 MX8_isThing.1 ∈ zTbl := ⟨zmem 1102 (by decide +kernel) rfl, zmem 43 (by decide +kernel) rfl⟩
theorem mdX8_parcel : zMd MX8_parcel 2 := ⟨zmem 1108 (by decide +kernel) rfl, zmem 77 (by decide +kernel) rfl, by decide +kernel, by decide⟩
theorem isX8_parcel : Cond.instanceMethod MX8_parcel.1 ∈ zTbl ∧ Cond.selects MX8_parcel.1.cls MX8_parcel.1 MX8_parcel.1 ∈ zTbl := ⟨zmem 1106 (by decide +kernel) rfl, zmem 1107 (by decide +kernel) rfl⟩
theorem mdX8_isParcel : zMd MX8_isParcel 1 := ⟨zmem 1112 (by decide +kernel) rfl, zmem 77 (by decide +kernel) rfl, by decide +kernel, by decide⟩
theorem isX8_isParcel : Cond.instanceMethod MX8_isParcel.1 ∈ zTbl ∧ Cond.selects MX8_isParcel.1.cls MX8_isParcel.1 MX8_isParcel.1 ∈ zTbl := ⟨zmem 1111 (by decide +kernel) rfl, zmem 44 (by decide +kernel) rfl⟩
theorem mdX8_world : zMd MX8_world 2 := ⟨zmem 1116 (by decide +kernel) rfl, zmem 77 (by decide +kernel) rfl, by decide +kernel, by decide⟩
theorem isX8_world : Cond.instanceMethod MX8_world.1 ∈ zTbl ∧ Cond.selects MX8_world.1.cls MX8_world.1 MX8_world.1 ∈ zTbl := ⟨zmem 1114 (by decide +kernel) rfl, zmem 1115 (by decide +kernel) rfl⟩
theorem mdX8_setIn : zMd MX8_setIn 2 := ⟨zmem 1119 (by decide +kernel) rfl, zmem 77 (by decide +kernel) rfl, by decide +kernel, by decide⟩
theorem stX8_setIn : Cond.static MX8_setIn.1 ∈ zTbl := zmem 1118 (by decide +kernel) rfl
theorem mdX8_answer : zMd MX8_answer 3 := ⟨zmem 1123 (by decide +kernel) rfl, zmem 77 (by decide +kernel) rfl, by decide +kernel, by decide⟩
theorem isX8_answer : Cond.instanceMethod MX8_answer.1 ∈ zTbl ∧ Cond.selects MX8_answer.1.cls MX8_answer.1 MX8_answer.1 ∈ zTbl := ⟨zmem 1121 (by decide +kernel) rfl, zmem 1122 (by decide +kernel) rfl⟩
theorem mdX8_answerOf : zMd MX8_answerOf 4 := ⟨zmem 1128 (by decide +kernel) rfl, zmem 77 (by decide +kernel) rfl, by decide +kernel, by decide⟩
theorem isX8_answerOf : Cond.instanceMethod MX8_answerOf.1 ∈ zTbl ∧ Cond.selects MX8_answerOf.1.cls MX8_answerOf.1 MX8_answerOf.1 ∈ zTbl := ⟨zmem 1127 (by decide +kernel) rfl, zmem 45 (by decide +kernel) rfl⟩
theorem mdX8_weightOf : zMd MX8_weightOf 2 := ⟨zmem 1132 (by decide +kernel) rfl, zmem 77 (by decide +kernel) rfl, by decide +kernel, by decide⟩
theorem isX8_weightOf : Cond.instanceMethod MX8_weightOf.1 ∈ zTbl ∧ Cond.selects MX8_weightOf.1.cls MX8_weightOf.1 MX8_weightOf.1 ∈ zTbl := ⟨zmem 1131 (by decide +kernel) rfl, zmem 46 (by decide +kernel) rfl⟩
theorem mdX8_manyOf : zMd MX8_manyOf 2 := ⟨zmem 1136 (by decide +kernel) rfl, zmem 77 (by decide +kernel) rfl, by decide +kernel, by decide⟩
theorem isX8_manyOf : Cond.instanceMethod MX8_manyOf.1 ∈ zTbl ∧ Cond.selects MX8_manyOf.1.cls MX8_manyOf.1 MX8_manyOf.1 ∈ zTbl := ⟨zmem 1135 (by decide +kernel) rfl, zmem 47 (by decide +kernel) rfl⟩
theorem mdX8_attempt : zMd MX8_attempt 2 := ⟨zmem 1140 (by decide +kernel) rfl, zmem 77 (by decide +kernel) rfl, by decide +kernel, by decide⟩
theorem isX8_attempt : Cond.instanceMethod MX8_attempt.1 ∈ zTbl ∧ Cond.selects MX8_attempt.1.cls MX8_attempt.1 MX8_attempt.1 ∈ zTbl := ⟨zmem 1138 (by decide +kernel) rfl, zmem 1139 (by decide +kernel) rfl⟩
theorem mdX8_addAnswer : zMd MX8_addAnswer 3 := ⟨zmem 1144 (by decide +kernel) rfl, zmem 77 (by decide +kernel) rfl, by decide +kernel, by decide⟩
theorem isX8_addAnswer : Cond.instanceMethod MX8_addAnswer.1 ∈ zTbl ∧ Cond.selects MX8_addAnswer.1.cls MX8_addAnswer.1 MX8_addAnswer.1 ∈ zTbl := ⟨zmem 1143 (by decide +kernel) rfl, zmem 48 (by decide +kernel) rfl⟩
theorem mdX8_note : zMd MX8_note 0 := ⟨zmem 1148 (by decide +kernel) rfl, zmem 77 (by decide +kernel) rfl, by decide +kernel, by decide⟩
theorem isX8_note : Cond.instanceMethod MX8_note.1 ∈ zTbl ∧ Cond.selects MX8_note.1.cls MX8_note.1 MX8_note.1 ∈ zTbl := ⟨zmem 1147 (by decide +kernel) rfl, zmem 49 (by decide +kernel) rfl⟩
theorem mdX8_hear : zMd MX8_hear 3 := ⟨zmem 1152 (by decide +kernel) rfl, zmem 77 (by decide +kernel) rfl, by decide +kernel, by decide⟩
theorem isX8_hear : Cond.instanceMethod MX8_hear.1 ∈ zTbl ∧ Cond.selects MX8_hear.1.cls MX8_hear.1 MX8_hear.1 ∈ zTbl := ⟨zmem 1150 (by decide +kernel) rfl, zmem 1151 (by decide +kernel) rfl⟩
theorem mdX8_change : zMd MX8_change 2 := ⟨zmem 1157 (by decide +kernel) rfl, zmem 77 (by decide +kernel) rfl, by decide +kernel, by decide⟩
theorem isX8_change : Cond.instanceMethod MX8_change.1 ∈ zTbl ∧ Cond.selects MX8_change.1.cls MX8_change.1 MX8_change.1 ∈ zTbl := ⟨zmem 1155 (by decide +kernel) rfl, zmem 1156 (by decide +kernel) rfl⟩
theorem mdX8_truth : zMd MX8_truth 0 := ⟨zmem 1161 (by decide +kernel) rfl, zmem 77 (by decide +kernel) rfl, by decide +kernel, by decide⟩
theorem isX8_truth : Cond.instanceMethod MX8_truth.1 ∈ zTbl ∧ Cond.selects MX8_truth.1.cls MX8_truth.1 MX8_truth.1 ∈ zTbl := ⟨zmem 1160 (by decide +kernel) rfl, zmem 50 (by decide +kernel) rfl⟩
theorem mdX8_hide : zMd MX8_hide 2 := ⟨zmem 1165 (by decide +kernel) rfl, zmem 77 (by decide +kernel) rfl, by decide +kernel, by decide⟩
theorem isX8_hide : Cond.instanceMethod MX8_hide.1 ∈ zTbl ∧ Cond.selects MX8_hide.1.cls MX8_hide.1 MX8_hide.1 ∈ zTbl := ⟨zmem 1163 (by decide +kernel) rfl, zmem 1164 (by decide +kernel) rfl⟩
theorem mdX8_undo : zMd MX8_undo 0 := ⟨zmem 1169 (by decide +kernel) rfl, zmem 77 (by decide +kernel) rfl, by decide +kernel, by decide⟩
theorem isX8_undo : Cond.instanceMethod MX8_undo.1 ∈ zTbl ∧ Cond.selects MX8_undo.1.cls MX8_undo.1 MX8_undo.1 ∈ zTbl := ⟨zmem 1167 (by decide +kernel) rfl, zmem 1168 (by decide +kernel) rfl⟩
theorem mdX8_left : zMd MX8_left 0 := ⟨zmem 1173 (by decide +kernel) rfl, zmem 77 (by decide +kernel) rfl, by decide +kernel, by decide⟩
theorem isX8_left : Cond.instanceMethod MX8_left.1 ∈ zTbl ∧ Cond.selects MX8_left.1.cls MX8_left.1 MX8_left.1 ∈ zTbl := ⟨zmem 1171 (by decide +kernel) rfl, zmem 1172 (by decide +kernel) rfl⟩
theorem mdX8_layLeft : zMd MX8_layLeft 1 := ⟨zmem 1177 (by decide +kernel) rfl, zmem 77 (by decide +kernel) rfl, by decide +kernel, by decide⟩
theorem isX8_layLeft : Cond.instanceMethod MX8_layLeft.1 ∈ zTbl ∧ Cond.selects MX8_layLeft.1.cls MX8_layLeft.1 MX8_layLeft.1 ∈ zTbl := ⟨zmem 1176 (by decide +kernel) rfl, zmem 51 (by decide +kernel) rfl⟩
theorem mdX8_fits : zMd MX8_fits 2 := ⟨zmem 1181 (by decide +kernel) rfl, zmem 77 (by decide +kernel) rfl, by decide +kernel, by decide⟩
theorem isX8_fits : Cond.instanceMethod MX8_fits.1 ∈ zTbl ∧ Cond.selects MX8_fits.1.cls MX8_fits.1 MX8_fits.1 ∈ zTbl := ⟨zmem 1180 (by decide +kernel) rfl, zmem 52 (by decide +kernel) rfl⟩
theorem mdX8_likely : zMd MX8_likely 3 := ⟨zmem 1185 (by decide +kernel) rfl, zmem 77 (by decide +kernel) rfl, by decide +kernel, by decide⟩
theorem isX8_likely : Cond.instanceMethod MX8_likely.1 ∈ zTbl ∧ Cond.selects MX8_likely.1.cls MX8_likely.1 MX8_likely.1 ∈ zTbl := ⟨zmem 1183 (by decide +kernel) rfl, zmem 1184 (by decide +kernel) rfl⟩
theorem mdX8_weighs : zMd MX8_weighs 1 := ⟨zmem 1191 (by decide +kernel) rfl, zmem 77 (by decide +kernel) rfl, by decide +kernel, by decide⟩
theorem isX8_weighs : Cond.instanceMethod MX8_weighs.1 ∈ zTbl ∧ Cond.selects MX8_weighs.1.cls MX8_weighs.1 MX8_weighs.1 ∈ zTbl := ⟨zmem 1190 (by decide +kernel) rfl, zmem 53 (by decide +kernel) rfl⟩
theorem mdX8_common : zMd MX8_common 2 := ⟨zmem 1194 (by decide +kernel) rfl, zmem 77 (by decide +kernel) rfl, by decide +kernel, by decide⟩
theorem stX8_common : Cond.static MX8_common.1 ∈ zTbl := zmem 1193 (by decide +kernel) rfl
theorem mdX8_sure : zMd MX8_sure 2 := ⟨zmem 1198 (by decide +kernel) rfl, zmem 77 (by decide +kernel) rfl, by decide +kernel, by decide⟩
theorem isX8_sure : Cond.instanceMethod MX8_sure.1 ∈ zTbl ∧ Cond.selects MX8_sure.1.cls MX8_sure.1 MX8_sure.1 ∈ zTbl := ⟨zmem 1196 (by decide +kernel) rfl, zmem 1197 (by decide +kernel) rfl⟩
theorem mdX8_judge : zMd MX8_judge 0 := ⟨zmem 1202 (by decide +kernel) rfl, zmem 77 (by decide +kernel) rfl, by decide +kernel, by decide⟩
theorem isX8_judge : Cond.instanceMethod MX8_judge.1 ∈ zTbl ∧ Cond.selects MX8_judge.1.cls MX8_judge.1 MX8_judge.1 ∈ zTbl := ⟨zmem 1200 (by decide +kernel) rfl, zmem 1201 (by decide +kernel) rfl⟩
theorem mdX8_guess : zMd MX8_guess 2 := ⟨zmem 1206 (by decide +kernel) rfl, zmem 77 (by decide +kernel) rfl, by decide +kernel, by decide⟩
theorem isX8_guess : Cond.instanceMethod MX8_guess.1 ∈ zTbl ∧ Cond.selects MX8_guess.1.cls MX8_guess.1 MX8_guess.1 ∈ zTbl := ⟨zmem 1204 (by decide +kernel) rfl, zmem 1205 (by decide +kernel) rfl⟩
theorem mdX8_next : zMd MX8_next 1 := ⟨zmem 1210 (by decide +kernel) rfl, zmem 77 (by decide +kernel) rfl, by decide +kernel, by decide⟩
theorem isX8_next : Cond.instanceMethod MX8_next.1 ∈ zTbl ∧ Cond.selects MX8_next.1.cls MX8_next.1 MX8_next.1 ∈ zTbl := ⟨zmem 1208 (by decide +kernel) rfl, zmem 1209 (by decide +kernel) rfl⟩
theorem mdX8_bestTrial : zMd MX8_bestTrial 0 := ⟨zmem 1214 (by decide +kernel) rfl, zmem 77 (by decide +kernel) rfl, by decide +kernel, by decide⟩
theorem isX8_bestTrial : Cond.instanceMethod MX8_bestTrial.1 ∈ zTbl ∧ Cond.selects MX8_bestTrial.1.cls MX8_bestTrial.1 MX8_bestTrial.1 ∈ zTbl := ⟨zmem 1213 (by decide +kernel) rfl, zmem 54 (by decide +kernel) rfl⟩
theorem mdX8_worstOf : zMd MX8_worstOf 2 := ⟨zmem 1218 (by decide +kernel) rfl, zmem 77 (by decide +kernel) rfl, by decide +kernel, by decide⟩
theorem isX8_worstOf : Cond.instanceMethod MX8_worstOf.1 ∈ zTbl ∧ Cond.selects MX8_worstOf.1.cls MX8_worstOf.1 MX8_worstOf.1 ∈ zTbl := ⟨zmem 1217 (by decide +kernel) rfl, zmem 55 (by decide +kernel) rfl⟩
theorem mdX8_few : zMd MX8_few 1 := ⟨zmem 1222 (by decide +kernel) rfl, zmem 77 (by decide +kernel) rfl, by decide +kernel, by decide⟩
theorem isX8_few : Cond.instanceMethod MX8_few.1 ∈ zTbl ∧ Cond.selects MX8_few.1.cls MX8_few.1 MX8_few.1 ∈ zTbl := ⟨zmem 1220 (by decide +kernel) rfl, zmem 1221 (by decide +kernel) rfl⟩
theorem mdX8_layTwo : zMd MX8_layTwo 3 := ⟨zmem 1226 (by decide +kernel) rfl, zmem 77 (by decide +kernel) rfl, by decide +kernel, by decide⟩
theorem isX8_layTwo : Cond.instanceMethod MX8_layTwo.1 ∈ zTbl ∧ Cond.selects MX8_layTwo.1.cls MX8_layTwo.1 MX8_layTwo.1 ∈ zTbl := ⟨zmem 1225 (by decide +kernel) rfl, zmem 56 (by decide +kernel) rfl⟩
theorem mdX8_meet : zMd MX8_meet 2 := ⟨zmem 1230 (by decide +kernel) rfl, zmem 77 (by decide +kernel) rfl, by decide +kernel, by decide⟩
theorem isX8_meet : Cond.instanceMethod MX8_meet.1 ∈ zTbl ∧ Cond.selects MX8_meet.1.cls MX8_meet.1 MX8_meet.1 ∈ zTbl := ⟨zmem 1229 (by decide +kernel) rfl, zmem 57 (by decide +kernel) rfl⟩
theorem mdX8_isKnown : zMd MX8_isKnown 1 := ⟨zmem 1234 (by decide +kernel) rfl, zmem 77 (by decide +kernel) rfl, by decide +kernel, by decide⟩
theorem isX8_isKnown : Cond.instanceMethod MX8_isKnown.1 ∈ zTbl ∧ Cond.selects MX8_isKnown.1.cls MX8_isKnown.1 MX8_isKnown.1 ∈ zTbl := ⟨zmem 1233 (by decide +kernel) rfl, zmem 58 (by decide +kernel) rfl⟩
theorem mdX8_isEnough : zMd MX8_isEnough 2 := ⟨zmem 1238 (by decide +kernel) rfl, zmem 77 (by decide +kernel) rfl, by decide +kernel, by decide⟩
theorem isX8_isEnough : Cond.instanceMethod MX8_isEnough.1 ∈ zTbl ∧ Cond.selects MX8_isEnough.1.cls MX8_isEnough.1 MX8_isEnough.1 ∈ zTbl := ⟨zmem 1237 (by decide +kernel) rfl, zmem 59 (by decide +kernel) rfl⟩
theorem mdX8_solved : zMd MX8_solved 1 := ⟨zmem 1242 (by decide +kernel) rfl, zmem 77 (by decide +kernel) rfl, by decide +kernel, by decide⟩
theorem isX8_solved : Cond.instanceMethod MX8_solved.1 ∈ zTbl ∧ Cond.selects MX8_solved.1.cls MX8_solved.1 MX8_solved.1 ∈ zTbl := ⟨zmem 1240 (by decide +kernel) rfl, zmem 1241 (by decide +kernel) rfl⟩
theorem mdX8_solve : zMd MX8_solve 1 := ⟨zmem 1246 (by decide +kernel) rfl, zmem 77 (by decide +kernel) rfl, by decide +kernel, by decide⟩
theorem isX8_solve : Cond.instanceMethod MX8_solve.1 ∈ zTbl ∧ Cond.selects MX8_solve.1.cls MX8_solve.1 MX8_solve.1 ∈ zTbl := ⟨zmem 1245 (by decide +kernel) rfl, zmem 60 (by decide +kernel) rfl⟩
theorem mdX8_risk : zMd MX8_risk 1 := ⟨zmem 1250 (by decide +kernel) rfl, zmem 77 (by decide +kernel) rfl, by decide +kernel, by decide⟩
theorem isX8_risk : Cond.instanceMethod MX8_risk.1 ∈ zTbl ∧ Cond.selects MX8_risk.1.cls MX8_risk.1 MX8_risk.1 ∈ zTbl := ⟨zmem 1248 (by decide +kernel) rfl, zmem 1249 (by decide +kernel) rfl⟩
theorem mdX8_seconds : zMd MX8_seconds 0 := ⟨zmem 1255 (by decide +kernel) rfl, zmem 77 (by decide +kernel) rfl, by decide +kernel, by decide⟩
theorem isX8_seconds : Cond.instanceMethod MX8_seconds.1 ∈ zTbl ∧ Cond.selects MX8_seconds.1.cls MX8_seconds.1 MX8_seconds.1 ∈ zTbl := ⟨zmem 1253 (by decide +kernel) rfl, zmem 1254 (by decide +kernel) rfl⟩
theorem mdX8_misled : zMd MX8_misled 2 := ⟨zmem 1259 (by decide +kernel) rfl, zmem 77 (by decide +kernel) rfl, by decide +kernel, by decide⟩
theorem isX8_misled : Cond.instanceMethod MX8_misled.1 ∈ zTbl ∧ Cond.selects MX8_misled.1.cls MX8_misled.1 MX8_misled.1 ∈ zTbl := ⟨zmem 1257 (by decide +kernel) rfl, zmem 1258 (by decide +kernel) rfl⟩
theorem mdX8_more : zMd MX8_more 1 := ⟨zmem 1263 (by decide +kernel) rfl, zmem 77 (by decide +kernel) rfl, by decide +kernel, by decide⟩
theorem isX8_more : Cond.instanceMethod MX8_more.1 ∈ zTbl ∧ Cond.selects MX8_more.1.cls MX8_more.1 MX8_more.1 ∈ zTbl := ⟨zmem 1261 (by decide +kernel) rfl, zmem 1262 (by decide +kernel) rfl⟩
theorem mdX8_heavier : zMd MX8_heavier 2 := ⟨zmem 1267 (by decide +kernel) rfl, zmem 77 (by decide +kernel) rfl, by decide +kernel, by decide⟩
theorem isX8_heavier : Cond.instanceMethod MX8_heavier.1 ∈ zTbl ∧ Cond.selects MX8_heavier.1.cls MX8_heavier.1 MX8_heavier.1 ∈ zTbl := ⟨zmem 1265 (by decide +kernel) rfl, zmem 1266 (by decide +kernel) rfl⟩
theorem mdX8_morning : zMd MX8_morning 2 := ⟨zmem 1271 (by decide +kernel) rfl, zmem 77 (by decide +kernel) rfl, by decide +kernel, by decide⟩
theorem isX8_morning : Cond.instanceMethod MX8_morning.1 ∈ zTbl ∧ Cond.selects MX8_morning.1.cls MX8_morning.1 MX8_morning.1 ∈ zTbl := ⟨zmem 1269 (by decide +kernel) rfl, zmem 1270 (by decide +kernel) rfl⟩
theorem mdX8_keep : zMd MX8_keep 0 := ⟨zmem 1278 (by decide +kernel) rfl, zmem 77 (by decide +kernel) rfl, by decide +kernel, by decide⟩
theorem isX8_keep : Cond.instanceMethod MX8_keep.1 ∈ zTbl ∧ Cond.selects MX8_keep.1.cls MX8_keep.1 MX8_keep.1 ∈ zTbl := ⟨zmem 1276 (by decide +kernel) rfl, zmem 1277 (by decide +kernel) rfl⟩
theorem mdX8_back : zMd MX8_back 0 := ⟨zmem 1282 (by decide +kernel) rfl, zmem 77 (by decide +kernel) rfl, by decide +kernel, by decide⟩
theorem isX8_back : Cond.instanceMethod MX8_back.1 ∈ zTbl ∧ Cond.selects MX8_back.1.cls MX8_back.1 MX8_back.1 ∈ zTbl := ⟨zmem 1280 (by decide +kernel) rfl, zmem 1281 (by decide +kernel) rfl⟩
theorem mdX8_count : zMd MX8_count 1 := ⟨zmem 1286 (by decide +kernel) rfl, zmem 77 (by decide +kernel) rfl, by decide +kernel, by decide⟩
theorem isX8_count : Cond.instanceMethod MX8_count.1 ∈ zTbl ∧ Cond.selects MX8_count.1.cls MX8_count.1 MX8_count.1 ∈ zTbl := ⟨zmem 1284 (by decide +kernel) rfl, zmem 1285 (by decide +kernel) rfl⟩
theorem lkL_9 : zLk RL 9 MX7_init := Or.inl (zmem 81 (by decide +kernel) rfl)
theorem obX7_3 : Cond.methodLink RX7 3 Lib.objectInit ∈ zTbl := zmem 84 (by decide +kernel) rfl
theorem obX3_3 : Cond.methodLink RX3 3 Lib.objectInit ∈ zTbl := zmem 92 (by decide +kernel) rfl
theorem obX5_3 : Cond.methodLink RX5 3 Lib.objectInit ∈ zTbl := zmem 114 (by decide +kernel) rfl
theorem obX4_3 : Cond.methodLink RX4 3 Lib.objectInit ∈ zTbl := zmem 120 (by decide +kernel) rfl
theorem obX6_1 : Cond.methodLink RX6 1 Lib.objectInit ∈ zTbl := zmem 212 (by decide +kernel) rfl
theorem obX0_3 : Cond.methodLink RX0 3 Lib.objectInit ∈ zTbl := zmem 227 (by decide +kernel) rfl
theorem obX1_3 : Cond.methodLink RX1 3 Lib.objectInit ∈ zTbl := zmem 266 (by decide +kernel) rfl
theorem lkX7_55 : zLk RX7 55 MX2_init := Or.inl (zmem 290 (by decide +kernel) rfl)
theorem obX2_1 : Cond.methodLink RX2 1 Lib.objectInit ∈ zTbl := zmem 293 (by decide +kernel) rfl
theorem lkX2_7 : zLk RX2 7 MJ9_max_7cf53 := Or.inl (zmem 294 (by decide +kernel) rfl)
theorem lkX7_79 : zLk RX7 79 MJ0_length_8abf5 := Or.inl (zmem 309 (by decide +kernel) rfl)
theorem lkJ0_335 : zLk RJ0 335 MJ0_coder_7d493 := Or.inl (zmem 313 (by decide +kernel) rfl)
theorem lkX7_85 : zLk RX7 85 MJ0_charAt_5068e := Or.inl (zmem 319 (by decide +kernel) rfl)
theorem lkJ0_492 : zLk RJ0 492 MJ0_isLatin1_aae02 := Or.inl (zmem 323 (by decide +kernel) rfl)
theorem lkJ0_495 : zLk RJ0 495 MJ1_charAt_3b067 := Or.inl (zmem 327 (by decide +kernel) rfl)
theorem lkJ1_9 : zLk RJ1 9 MJ0_checkIndex_df160 := Or.inl (zmem 330 (by decide +kernel) rfl)
theorem lkJ0_1059 : zLk RJ0 1059 MJ3_checkIndex_8e157 := Or.inl (zmem 335 (by decide +kernel) rfl)
theorem lkJ0_498 : zLk RJ0 498 MJ2_charAt_3b067 := Or.inl (zmem 338 (by decide +kernel) rfl)
theorem lkJ2_67 : zLk RJ2 67 MJ2_checkIndex_2214a := Or.inl (zmem 341 (by decide +kernel) rfl)
theorem lkJ2_48 : zLk RJ2 48 MJ2_length_9d52b := Or.inl (zmem 344 (by decide +kernel) rfl)
theorem lkJ2_414 : zLk RJ2 414 MJ0_checkIndex_df160 := Or.inl (zmem 347 (by decide +kernel) rfl)
theorem lkJ2_71 : zLk RJ2 71 MJ2_getChar_3b067 := Or.inl (zmem 348 (by decide +kernel) rfl)
theorem lkX7_89 : zLk RX7 89 MX3_add := Or.inl (zmem 357 (by decide +kernel) rfl)
theorem lkX7_93 : zLk RX7 93 MX7_layText := Or.inl (zmem 361 (by decide +kernel) rfl)
theorem lkX7_102 : zLk RX7 102 MX3_readInto := Or.inl (zmem 365 (by decide +kernel) rfl)
theorem lkX3_23 : zLk RX3 23 MX5_clear := Or.inl (zmem 369 (by decide +kernel) rfl)
theorem lkX5_38 : zLk RX5 38 MX4_clear := Or.inl (zmem 373 (by decide +kernel) rfl)
theorem lkX5_50 : zLk RX5 50 MJ7_fill_53178 := Or.inl (zmem 380 (by decide +kernel) rfl)
theorem lkX3_28 : zLk RX3 28 MX3_readNumbers := Or.inl (zmem 383 (by decide +kernel) rfl)
theorem lkX3_42 : zLk RX3 42 MX3_figuresAt := Or.inl (zmem 387 (by decide +kernel) rfl)
theorem lkX3_32 : zLk RX3 32 MX3_letterAt := Or.inl (zmem 391 (by decide +kernel) rfl)
theorem lkX3_53 : zLk RX3 53 MX3_isFigure := Or.inl (zmem 395 (by decide +kernel) rfl)
theorem lkX3_45 : zLk RX3 45 MX3_numberAt := Or.inl (zmem 401 (by decide +kernel) rfl)
theorem lkX3_38 : zLk RX3 38 MX5_takes := Or.inl (zmem 406 (by decide +kernel) rfl)
theorem lkX5_56 : zLk RX5 56 MX5_takesThing := Or.inl (zmem 410 (by decide +kernel) rfl)
theorem lkX5_88 : zLk RX5 88 MX4_add := Or.inl (zmem 418 (by decide +kernel) rfl)
theorem lkX4_54 : zLk RX4 54 MX4_sortByKind := Or.inl (zmem 423 (by decide +kernel) rfl)
theorem lkX5_60 : zLk RX5 60 MX5_takesParcel := Or.inl (zmem 427 (by decide +kernel) rfl)
theorem lkX5_67 : zLk RX5 67 MX5_takesTruth := Or.inl (zmem 432 (by decide +kernel) rfl)
theorem lkX5_71 : zLk RX5 71 MX5_takesScale := Or.inl (zmem 439 (by decide +kernel) rfl)
theorem lkX5_75 : zLk RX5 75 MX5_takesApart := Or.inl (zmem 443 (by decide +kernel) rfl)
theorem lkX5_78 : zLk RX5 78 MX5_takesSort := Or.inl (zmem 447 (by decide +kernel) rfl)
theorem lkX7_170 : zLk RX7 170 MX7_isBelow := Or.inl (zmem 454 (by decide +kernel) rfl)
theorem lkX7_192 : zLk RX7 192 MX5_isWorld := Or.inl (zmem 455 (by decide +kernel) rfl)
theorem lkX5_106 : zLk RX5 106 MJ6_bitCount_0f7a4 := Or.inl (zmem 462 (by decide +kernel) rfl)
theorem lkX5_112 : zLk RX5 112 MX5_isFair := Or.inl (zmem 468 (by decide +kernel) rfl)
theorem lkX5_115 : zLk RX5 115 MX5_hasParcels := Or.inl (zmem 472 (by decide +kernel) rfl)
theorem lkX5_118 : zLk RX5 118 MX5_worthFor := Or.inl (zmem 476 (by decide +kernel) rfl)
theorem lkX5_121 : zLk RX5 121 MJ9_abs_0f7a4 := Or.inl (zmem 480 (by decide +kernel) rfl)
theorem lkX7_293 : zLk RX7 293 MX5_mostWorlds := Or.inl (zmem 483 (by decide +kernel) rfl)
theorem lkX7_296 : zLk RX7 296 MX6_makeRoom := Or.inl (zmem 487 (by decide +kernel) rfl)
theorem lkX7_299 : zLk RX7 299 MX5_listWorlds := Or.inl (zmem 491 (by decide +kernel) rfl)
theorem lkX5_147 : zLk RX5 147 MX6_clear := Or.inl (zmem 495 (by decide +kernel) rfl)
theorem lkX5_150 : zLk RX5 150 MX5_addWorlds := Or.inl (zmem 499 (by decide +kernel) rfl)
theorem lkX5_154 : zLk RX5 154 MX6_add := Or.inl (zmem 502 (by decide +kernel) rfl)
theorem lkX7_303 : zLk RX7 303 MX1_begin := Or.inl (zmem 506 (by decide +kernel) rfl)
theorem lkX1_25 : zLk RX1 25 MJ7_fill_53178 := Or.inl (zmem 510 (by decide +kernel) rfl)
theorem lkX7_286 : zLk RX7 286 MX2_clear := Or.inl (zmem 511 (by decide +kernel) rfl)
theorem lkX7_97 : zLk RX7 97 MX3_clear := Or.inl (zmem 515 (by decide +kernel) rfl)
theorem lkL_13 : zLk RL 13 MX7_write := Or.inl (zmem 561 (by decide +kernel) rfl)
theorem lkL_18 : zLk RL 18 MX7_wipe := Or.inl (zmem 565 (by decide +kernel) rfl)
theorem lkL_23 : zLk RL 23 MX7_fault := Or.inl (zmem 569 (by decide +kernel) rfl)
theorem lkL_27 : zLk RL 27 MX7_lay := Or.inl (zmem 573 (by decide +kernel) rfl)
theorem lkL_31 : zLk RL 31 MX7_thing := Or.inl (zmem 577 (by decide +kernel) rfl)
theorem lkX7_109 : zLk RX7 109 MX7_isThing := Or.inl (zmem 581 (by decide +kernel) rfl)
theorem lkX7_122 : zLk RX7 122 MX7_at := Or.inl (zmem 585 (by decide +kernel) rfl)
theorem lkX7_135 : zLk RX7 135 MX7_parcelWith := Or.inl (zmem 586 (by decide +kernel) rfl)
theorem lkX7_154 : zLk RX7 154 MX7_inside := Or.inl (zmem 590 (by decide +kernel) rfl)
theorem lkL_36 : zLk RL 36 MX7_parcel := Or.inl (zmem 591 (by decide +kernel) rfl)
theorem lkX7_139 : zLk RX7 139 MX7_isParcel := Or.inl (zmem 595 (by decide +kernel) rfl)
theorem lkL_40 : zLk RL 40 MX7_world := Or.inl (zmem 599 (by decide +kernel) rfl)
theorem lkX7_161 : zLk RX7 161 MX6_take := Or.inl (zmem 603 (by decide +kernel) rfl)
theorem lkL_44 : zLk RL 44 MX7_answer := Or.inl (zmem 608 (by decide +kernel) rfl)
theorem lkX7_164 : zLk RX7 164 MX7_isSort := Or.inl (zmem 612 (by decide +kernel) rfl)
theorem lkX7_174 : zLk RX7 174 MX5_reply := Or.inl (zmem 613 (by decide +kernel) rfl)
theorem lkX5_135 : zLk RX5 135 MX5_inSteps := Or.inl (zmem 617 (by decide +kernel) rfl)
theorem lkX5_138 : zLk RX5 138 MX4_tipped := Or.inl (zmem 621 (by decide +kernel) rfl)
theorem lkX5_141 : zLk RX5 141 MX4_shaken := Or.inl (zmem 625 (by decide +kernel) rfl)
theorem lkX4_58 : zLk RX4 58 MJ6_bitCount_0f7a4 := Or.inl (zmem 629 (by decide +kernel) rfl)
theorem lkX5_144 : zLk RX5 144 MX4_pressed := Or.inl (zmem 630 (by decide +kernel) rfl)
theorem lkL_49 : zLk RL 49 MX7_attempt := Or.inl (zmem 634 (by decide +kernel) rfl)
theorem lkX7_178 : zLk RX7 178 MX1_isFull := Or.inl (zmem 638 (by decide +kernel) rfl)
theorem lkX7_181 : zLk RX7 181 MX7_note := Or.inl (zmem 642 (by decide +kernel) rfl)
theorem lkX7_195 : zLk RX7 195 MX2_push := Or.inl (zmem 646 (by decide +kernel) rfl)
theorem lkX2_26 : zLk RX2 26 MX2_isFull := Or.inl (zmem 650 (by decide +kernel) rfl)
theorem lkX2_30 : zLk RX2 30 MX2_dropLowest := Or.inl (zmem 654 (by decide +kernel) rfl)
theorem lkX2_33 : zLk RX2 33 MX1_copy := Or.inl (zmem 658 (by decide +kernel) rfl)
theorem lkX7_306 : zLk RX7 306 MX7_trialOf := Or.inl (zmem 664 (by decide +kernel) rfl)
theorem lkX7_309 : zLk RX7 309 MX1_add := Or.inl (zmem 667 (by decide +kernel) rfl)
theorem lkX1_42 : zLk RX1 42 MX1_isFull := Or.inl (zmem 671 (by decide +kernel) rfl)
theorem lkL_53 : zLk RL 53 MX7_hear := Or.inl (zmem 672 (by decide +kernel) rfl)
theorem lkL_57 : zLk RL 57 MX7_change := Or.inl (zmem 676 (by decide +kernel) rfl)
theorem lkX7_188 : zLk RX7 188 MX7_swapped := Or.inl (zmem 680 (by decide +kernel) rfl)
theorem lkL_61 : zLk RL 61 MX7_hide := Or.inl (zmem 683 (by decide +kernel) rfl)
theorem lkX7_199 : zLk RX7 199 MX7_put := Or.inl (zmem 687 (by decide +kernel) rfl)
theorem lkL_65 : zLk RL 65 MX7_undo := Or.inl (zmem 688 (by decide +kernel) rfl)
theorem lkX7_203 : zLk RX7 203 MX2_popInto := Or.inl (zmem 692 (by decide +kernel) rfl)
theorem lkL_69 : zLk RL 69 MX7_left := Or.inl (zmem 696 (by decide +kernel) rfl)
theorem lkX7_208 : zLk RX7 208 MX7_findRemaining := Or.inl (zmem 700 (by decide +kernel) rfl)
theorem lkX7_312 : zLk RX7 312 MX6_copy := Or.inl (zmem 704 (by decide +kernel) rfl)
theorem lkX6_27 : zLk RX6 27 MJ9_min_7cf53 := Or.inl (zmem 708 (by decide +kernel) rfl)
theorem lkX7_315 : zLk RX7 315 MX7_parcelOf := Or.inl (zmem 714 (by decide +kernel) rfl)
theorem lkX7_251 : zLk RX7 251 MX7_sortOf := Or.inl (zmem 717 (by decide +kernel) rfl)
theorem lkX7_321 : zLk RX7 321 MX6_narrow := Or.inl (zmem 720 (by decide +kernel) rfl)
theorem lkX6_43 : zLk RX6 43 MX6_clear := Or.inl (zmem 724 (by decide +kernel) rfl)
theorem lkX6_39 : zLk RX6 39 MX6_take := Or.inl (zmem 725 (by decide +kernel) rfl)
theorem lkX6_49 : zLk RX6 49 MX5_reply := Or.inl (zmem 727 (by decide +kernel) rfl)
theorem lkX6_55 : zLk RX6 55 MX6_add := Or.inl (zmem 728 (by decide +kernel) rfl)
theorem lkL_73 : zLk RL 73 MX7_likely := Or.inl (zmem 729 (by decide +kernel) rfl)
theorem lkX7_216 : zLk RX7 216 MX5_chanceOf := Or.inl (zmem 735 (by decide +kernel) rfl)
theorem lkX7_219 : zLk RX7 219 MX7_inLowestTerms := Or.inl (zmem 739 (by decide +kernel) rfl)
theorem lkL_78 : zLk RL 78 MX7_sure := Or.inl (zmem 742 (by decide +kernel) rfl)
theorem lkL_83 : zLk RL 83 MX7_judge := Or.inl (zmem 746 (by decide +kernel) rfl)
theorem lkL_87 : zLk RL 87 MX7_guess := Or.inl (zmem 750 (by decide +kernel) rfl)
theorem lkX7_223 : zLk RX7 223 MX7_sumChances := Or.inl (zmem 754 (by decide +kernel) rfl)
theorem lkX7_325 : zLk RX7 325 MJ7_fill_d0a16 := Or.inl (zmem 758 (by decide +kernel) rfl)
theorem lkL_92 : zLk RL 92 MX7_next := Or.inl (zmem 761 (by decide +kernel) rfl)
theorem lkX7_227 : zLk RX7 227 MX0_choose := Or.inl (zmem 765 (by decide +kernel) rfl)
theorem lkX0_44 : zLk RX0 44 MX0_countSets := Or.inl (zmem 769 (by decide +kernel) rfl)
theorem lkX0_56 : zLk RX0 56 MJ7_fill_53178 := Or.inl (zmem 773 (by decide +kernel) rfl)
theorem lkX0_62 : zLk RX0 62 MX6_take := Or.inl (zmem 774 (by decide +kernel) rfl)
theorem lkX0_48 : zLk RX0 48 MX0_countReplies := Or.inl (zmem 779 (by decide +kernel) rfl)
theorem lkX0_73 : zLk RX0 73 MX5_reply := Or.inl (zmem 783 (by decide +kernel) rfl)
theorem lkX0_81 : zLk RX0 81 MJ9_max_7cf53 := Or.inl (zmem 785 (by decide +kernel) rfl)
theorem lkL_96 : zLk RL 96 MX7_few := Or.inl (zmem 787 (by decide +kernel) rfl)
theorem lkX7_237 : zLk RX7 237 MX0_fewest := Or.inl (zmem 791 (by decide +kernel) rfl)
theorem lkX0_113 : zLk RX0 113 MX0_isKnown := Or.inl (zmem 795 (by decide +kernel) rfl)
theorem lkX0_117 : zLk RX0 117 MX0_someTrialTells := Or.inl (zmem 799 (by decide +kernel) rfl)
theorem lkX0_121 : zLk RX0 121 MX5_trials := Or.inl (zmem 803 (by decide +kernel) rfl)
theorem lkX0_132 : zLk RX0 132 MX0_tells := Or.inl (zmem 807 (by decide +kernel) rfl)
theorem lkX0_124 : zLk RX0 124 MX0_group := Or.inl (zmem 814 (by decide +kernel) rfl)
theorem lkX0_139 : zLk RX0 139 MX0_listReplies := Or.inl (zmem 818 (by decide +kernel) rfl)
theorem lkX0_143 : zLk RX0 143 MX6_copy := Or.inl (zmem 822 (by decide +kernel) rfl)
theorem lkX0_147 : zLk RX0 147 MX6_set := Or.inl (zmem 823 (by decide +kernel) rfl)
theorem lkX0_128 : zLk RX0 128 MX0_eachGroupIsTold := Or.inl (zmem 828 (by decide +kernel) rfl)
theorem lkL_100 : zLk RL 100 MX7_solved := Or.inl (zmem 832 (by decide +kernel) rfl)
theorem lkX7_241 : zLk RX7 241 MX7_solve := Or.inl (zmem 836 (by decide +kernel) rfl)
theorem lkX7_331 : zLk RX7 331 MX0_solves := Or.inl (zmem 840 (by decide +kernel) rfl)
theorem lkX0_92 : zLk RX0 92 MX6_holds := Or.inl (zmem 844 (by decide +kernel) rfl)
theorem lkX0_96 : zLk RX0 96 MX0_choose := Or.inl (zmem 848 (by decide +kernel) rfl)
theorem lkX0_106 : zLk RX0 106 MX6_narrow := Or.inl (zmem 849 (by decide +kernel) rfl)
theorem lkL_104 : zLk RL 104 MX7_risk := Or.inl (zmem 850 (by decide +kernel) rfl)
theorem lkL_109 : zLk RL 109 MX7_seconds := Or.inl (zmem 855 (by decide +kernel) rfl)
theorem lkL_113 : zLk RL 113 MX7_misled := Or.inl (zmem 859 (by decide +kernel) rfl)
theorem lkX7_259 : zLk RX7 259 MX0_countSets := Or.inl (zmem 863 (by decide +kernel) rfl)
theorem lkX7_263 : zLk RX7 263 MX0_countReplies := Or.inl (zmem 864 (by decide +kernel) rfl)
theorem lkL_117 : zLk RL 117 MX7_more := Or.inl (zmem 865 (by decide +kernel) rfl)
theorem lkX7_270 : zLk RX7 270 MX5_worthFor := Or.inl (zmem 869 (by decide +kernel) rfl)
theorem lkX7_273 : zLk RX7 273 MJ6_compare_7cf53 := Or.inl (zmem 870 (by decide +kernel) rfl)
theorem lkL_121 : zLk RL 121 MX7_heavier := Or.inl (zmem 873 (by decide +kernel) rfl)
theorem lkX7_278 : zLk RX7 278 MX5_weightWithBox := Or.inl (zmem 877 (by decide +kernel) rfl)
theorem lkL_125 : zLk RL 125 MX7_morning := Or.inl (zmem 881 (by decide +kernel) rfl)
theorem lkL_129 : zLk RL 129 MX7_keep := Or.inl (zmem 887 (by decide +kernel) rfl)
theorem lkX7_285 : zLk RX7 285 MX2_isFull := Or.inl (zmem 891 (by decide +kernel) rfl)
theorem lkL_133 : zLk RL 133 MX7_back := Or.inl (zmem 892 (by decide +kernel) rfl)
theorem lkL_137 : zLk RL 137 MX7_count := Or.inl (zmem 896 (by decide +kernel) rfl)
theorem lkL_12 : zLk RL 12 MX8_init := Or.inl (zmem 902 (by decide +kernel) rfl)
theorem obX8_1 : Cond.methodLink RX8 1 Lib.objectInit ∈ zTbl := zmem 905 (by decide +kernel) rfl
theorem lkX8_90 : zLk RX8 90 MX8_noTree := Or.inl (zmem 906 (by decide +kernel) rfl)
theorem lkX8_94 : zLk RX8 94 MX8_addThing := Or.inl (zmem 910 (by decide +kernel) rfl)
theorem lkX8_98 : zLk RX8 98 MX8_addParcel := Or.inl (zmem 914 (by decide +kernel) rfl)
theorem lkX8_102 : zLk RX8 102 MX8_begin := Or.inl (zmem 918 (by decide +kernel) rfl)
theorem lkX8_181 : zLk RX8 181 MX8_layWorlds := Or.inl (zmem 922 (by decide +kernel) rfl)
theorem lkX8_159 : zLk RX8 159 MX8_bits := Or.inl (zmem 926 (by decide +kernel) rfl)
theorem lkX8_166 : zLk RX8 166 MX8_isFair := Or.inl (zmem 929 (by decide +kernel) rfl)
theorem lkX8_155 : zLk RX8 155 MX8_gap := Or.inl (zmem 933 (by decide +kernel) rfl)
theorem lkX8_151 : zLk RX8 151 MX8_has := Or.inl (zmem 937 (by decide +kernel) rfl)
theorem lkX8_109 : zLk RX8 109 MX8_in := Or.inl (zmem 940 (by decide +kernel) rfl)
theorem lkL_17 : zLk RL 17 MX8_write := Or.inl (zmem 1044 (by decide +kernel) rfl)
theorem lkL_22 : zLk RL 22 MX8_wipe := Or.inl (zmem 1050 (by decide +kernel) rfl)
theorem lkL_26 : zLk RL 26 MX8_fault := Or.inl (zmem 1054 (by decide +kernel) rfl)
theorem lkX8_147 : zLk RX8 147 MX8_readAll := Or.inl (zmem 1058 (by decide +kernel) rfl)
theorem lkX8_144 : zLk RX8 144 MX8_item := Or.inl (zmem 1062 (by decide +kernel) rfl)
theorem lkX8_120 : zLk RX8 120 MX8_letterAt := Or.inl (zmem 1066 (by decide +kernel) rfl)
theorem lkX8_134 : zLk RX8 134 MX8_figures := Or.inl (zmem 1070 (by decide +kernel) rfl)
theorem lkX8_138 : zLk RX8 138 MX8_isThingTold := Or.inl (zmem 1077 (by decide +kernel) rfl)
theorem lkL_30 : zLk RL 30 MX8_lay := Or.inl (zmem 1084 (by decide +kernel) rfl)
theorem lkX8_169 : zLk RX8 169 MX8_isTruth := Or.inl (zmem 1088 (by decide +kernel) rfl)
theorem lkX8_162 : zLk RX8 162 MX8_codeOf := Or.inl (zmem 1092 (by decide +kernel) rfl)
theorem lkL_35 : zLk RL 35 MX8_thing := Or.inl (zmem 1096 (by decide +kernel) rfl)
theorem lkX8_184 : zLk RX8 184 MX8_isThing := Or.inl (zmem 1100 (by decide +kernel) rfl)
theorem lkL_39 : zLk RL 39 MX8_parcel := Or.inl (zmem 1105 (by decide +kernel) rfl)
theorem lkX8_189 : zLk RX8 189 MX8_isParcel := Or.inl (zmem 1109 (by decide +kernel) rfl)
theorem lkL_43 : zLk RL 43 MX8_world := Or.inl (zmem 1113 (by decide +kernel) rfl)
theorem lkX8_192 : zLk RX8 192 MX8_setIn := Or.inl (zmem 1117 (by decide +kernel) rfl)
theorem lkL_48 : zLk RL 48 MX8_answer := Or.inl (zmem 1120 (by decide +kernel) rfl)
theorem lkX8_203 : zLk RX8 203 MX8_answerOf := Or.inl (zmem 1125 (by decide +kernel) rfl)
theorem lkX8_195 : zLk RX8 195 MX8_weightOf := Or.inl (zmem 1129 (by decide +kernel) rfl)
theorem lkX8_198 : zLk RX8 198 MX8_manyOf := Or.inl (zmem 1133 (by decide +kernel) rfl)
theorem lkL_52 : zLk RL 52 MX8_attempt := Or.inl (zmem 1137 (by decide +kernel) rfl)
theorem lkX8_209 : zLk RX8 209 MX8_addAnswer := Or.inl (zmem 1141 (by decide +kernel) rfl)
theorem lkX8_206 : zLk RX8 206 MX8_note := Or.inl (zmem 1145 (by decide +kernel) rfl)
theorem lkL_56 : zLk RL 56 MX8_hear := Or.inl (zmem 1149 (by decide +kernel) rfl)
theorem lkL_60 : zLk RL 60 MX8_change := Or.inl (zmem 1154 (by decide +kernel) rfl)
theorem lkX8_215 : zLk RX8 215 MX8_truth := Or.inl (zmem 1158 (by decide +kernel) rfl)
theorem lkL_64 : zLk RL 64 MX8_hide := Or.inl (zmem 1162 (by decide +kernel) rfl)
theorem lkL_68 : zLk RL 68 MX8_undo := Or.inl (zmem 1166 (by decide +kernel) rfl)
theorem lkL_72 : zLk RL 72 MX8_left := Or.inl (zmem 1170 (by decide +kernel) rfl)
theorem lkX8_221 : zLk RX8 221 MX8_layLeft := Or.inl (zmem 1174 (by decide +kernel) rfl)
theorem lkX8_218 : zLk RX8 218 MX8_fits := Or.inl (zmem 1178 (by decide +kernel) rfl)
theorem lkL_77 : zLk RL 77 MX8_likely := Or.inl (zmem 1182 (by decide +kernel) rfl)
theorem lkX8_228 : zLk RX8 228 MX8_weighs := Or.inl (zmem 1188 (by decide +kernel) rfl)
theorem lkX8_232 : zLk RX8 232 MX8_common := Or.inl (zmem 1192 (by decide +kernel) rfl)
theorem lkL_82 : zLk RL 82 MX8_sure := Or.inl (zmem 1195 (by decide +kernel) rfl)
theorem lkL_86 : zLk RL 86 MX8_judge := Or.inl (zmem 1199 (by decide +kernel) rfl)
theorem lkL_91 : zLk RL 91 MX8_guess := Or.inl (zmem 1203 (by decide +kernel) rfl)
theorem lkL_95 : zLk RL 95 MX8_next := Or.inl (zmem 1207 (by decide +kernel) rfl)
theorem lkX8_242 : zLk RX8 242 MX8_bestTrial := Or.inl (zmem 1211 (by decide +kernel) rfl)
theorem lkX8_236 : zLk RX8 236 MX8_worstOf := Or.inl (zmem 1215 (by decide +kernel) rfl)
theorem lkL_99 : zLk RL 99 MX8_few := Or.inl (zmem 1219 (by decide +kernel) rfl)
theorem lkX8_249 : zLk RX8 249 MX8_layTwo := Or.inl (zmem 1223 (by decide +kernel) rfl)
theorem lkX8_245 : zLk RX8 245 MX8_meet := Or.inl (zmem 1227 (by decide +kernel) rfl)
theorem lkX8_252 : zLk RX8 252 MX8_isKnown := Or.inl (zmem 1231 (by decide +kernel) rfl)
theorem lkX8_255 : zLk RX8 255 MX8_isEnough := Or.inl (zmem 1235 (by decide +kernel) rfl)
theorem lkL_103 : zLk RL 103 MX8_solved := Or.inl (zmem 1239 (by decide +kernel) rfl)
theorem lkX8_261 : zLk RX8 261 MX8_solve := Or.inl (zmem 1243 (by decide +kernel) rfl)
theorem lkL_108 : zLk RL 108 MX8_risk := Or.inl (zmem 1247 (by decide +kernel) rfl)
theorem lkL_112 : zLk RL 112 MX8_seconds := Or.inl (zmem 1252 (by decide +kernel) rfl)
theorem lkL_116 : zLk RL 116 MX8_misled := Or.inl (zmem 1256 (by decide +kernel) rfl)
theorem lkL_120 : zLk RL 120 MX8_more := Or.inl (zmem 1260 (by decide +kernel) rfl)
theorem lkL_124 : zLk RL 124 MX8_heavier := Or.inl (zmem 1264 (by decide +kernel) rfl)
theorem lkL_128 : zLk RL 128 MX8_morning := Or.inl (zmem 1268 (by decide +kernel) rfl)
theorem lkL_132 : zLk RL 132 MX8_keep := Or.inl (zmem 1275 (by decide +kernel) rfl)
theorem lkL_136 : zLk RL 136 MX8_back := Or.inl (zmem 1279 (by decide +kernel) rfl)
theorem lkL_140 : zLk RL 140 MX8_count := Or.inl (zmem 1283 (by decide +kernel) rfl)
theorem lkX7_11 : zLk RX7 11 MX3_init := Or.inr ⟨_, zmemN (w := Cond.methodLinkNest RX7 11 yX3_init "ShakenParcels") 89 (by decide +kernel) rfl⟩
theorem lkX7_18 : zLk RX7 18 MX5_init := Or.inr ⟨_, zmemN (w := Cond.methodLinkNest RX7 18 yX5_init "ShakenParcels") 111 (by decide +kernel) rfl⟩
theorem lkX5_11 : zLk RX5 11 MX4_init := Or.inr ⟨_, zmemN (w := Cond.methodLinkNest RX5 11 yX4_init "ShakenParcels") 117 (by decide +kernel) rfl⟩
theorem lkX7_28 : zLk RX7 28 MX6_init := Or.inr ⟨_, zmemN (w := Cond.methodLinkNest RX7 28 yX6_init "ShakenParcels") 209 (by decide +kernel) rfl⟩
theorem lkX7_41 : zLk RX7 41 MX0_init := Or.inr ⟨_, zmemN (w := Cond.methodLinkNest RX7 41 yX0_init "ShakenParcels") 224 (by decide +kernel) rfl⟩
theorem lkX7_48 : zLk RX7 48 MX1_init := Or.inr ⟨_, zmemN (w := Cond.methodLinkNest RX7 48 yX1_init "ShakenParcels") 263 (by decide +kernel) rfl⟩
theorem lkX2_21 : zLk RX2 21 MX1_init := Or.inr ⟨_, zmemN (w := Cond.methodLinkNest RX2 21 yX1_init "ShakenParcels") 299 (by decide +kernel) rfl⟩
theorem lkX4_46 : zLk RX4 46 MX7_put := Or.inr ⟨_, zmemN (w := Cond.methodLinkNest RX4 46 yX7_put "ShakenParcels") 377 (by decide +kernel) rfl⟩
theorem lkX3_57 : zLk RX3 57 MX7_isWithin := Or.inr ⟨_, zmemN (w := Cond.methodLinkNest RX3 57 yX7_isWithin "ShakenParcels") 398 (by decide +kernel) rfl⟩
theorem lkX3_49 : zLk RX3 49 MX7_put := Or.inr ⟨_, zmemN (w := Cond.methodLinkNest RX3 49 yX7_put "ShakenParcels") 405 (by decide +kernel) rfl⟩
theorem lkX5_63 : zLk RX5 63 MX7_at := Or.inr ⟨_, zmemN (w := Cond.methodLinkNest RX5 63 yX7_at "ShakenParcels") 414 (by decide +kernel) rfl⟩
theorem lkX5_85 : zLk RX5 85 MX7_isWithin := Or.inr ⟨_, zmemN (w := Cond.methodLinkNest RX5 85 yX7_isWithin "ShakenParcels") 417 (by decide +kernel) rfl⟩
theorem lkX4_50 : zLk RX4 50 MX7_at := Or.inr ⟨_, zmemN (w := Cond.methodLinkNest RX4 50 yX7_at "ShakenParcels") 422 (by decide +kernel) rfl⟩
theorem lkX5_92 : zLk RX5 92 MX7_put := Or.inr ⟨_, zmemN (w := Cond.methodLinkNest RX5 92 yX7_put "ShakenParcels") 431 (by decide +kernel) rfl⟩
theorem lkX5_96 : zLk RX5 96 MX7_isBelow := Or.inr ⟨_, zmemN (w := Cond.methodLinkNest RX5 96 yX7_isBelow "ShakenParcels") 436 (by decide +kernel) rfl⟩
theorem lkX5_99 : zLk RX5 99 MX7_isSort := Or.inr ⟨_, zmemN (w := Cond.methodLinkNest RX5 99 yX7_isSort "ShakenParcels") 451 (by decide +kernel) rfl⟩
theorem lkX5_102 : zLk RX5 102 MX7_inside := Or.inr ⟨_, zmemN (w := Cond.methodLinkNest RX5 102 yX7_inside "ShakenParcels") 459 (by decide +kernel) rfl⟩
theorem lkX6_17 : zLk RX6 17 MX7_at := Or.inr ⟨_, zmemN (w := Cond.methodLinkNest RX6 17 yX7_at "ShakenParcels") 607 (by decide +kernel) rfl⟩
theorem lkX1_34 : zLk RX1 34 MX7_at := Or.inr ⟨_, zmemN (w := Cond.methodLinkNest RX1 34 yX7_at "ShakenParcels") 662 (by decide +kernel) rfl⟩
theorem lkX1_38 : zLk RX1 38 MX7_put := Or.inr ⟨_, zmemN (w := Cond.methodLinkNest RX1 38 yX7_put "ShakenParcels") 663 (by decide +kernel) rfl⟩
theorem lkX6_46 : zLk RX6 46 MX7_inside := Or.inr ⟨_, zmemN (w := Cond.methodLinkNest RX6 46 yX7_inside "ShakenParcels") 726 (by decide +kernel) rfl⟩
theorem lkX0_66 : zLk RX0 66 MX7_inside := Or.inr ⟨_, zmemN (w := Cond.methodLinkNest RX0 66 yX7_inside "ShakenParcels") 775 (by decide +kernel) rfl⟩
theorem lkX0_69 : zLk RX0 69 MX7_raise := Or.inr ⟨_, zmemN (w := Cond.methodLinkNest RX0 69 yX7_raise "ShakenParcels") 776 (by decide +kernel) rfl⟩
theorem lkX0_77 : zLk RX0 77 MX7_at := Or.inr ⟨_, zmemN (w := Cond.methodLinkNest RX0 77 yX7_at "ShakenParcels") 784 (by decide +kernel) rfl⟩
theorem lkX0_52 : zLk RX0 52 MX7_trialOf := Or.inr ⟨_, zmemN (w := Cond.methodLinkNest RX0 52 yX7_trialOf "ShakenParcels") 786 (by decide +kernel) rfl⟩
theorem lkX0_100 : zLk RX0 100 MX7_parcelOf := Or.inr ⟨_, zmemN (w := Cond.methodLinkNest RX0 100 yX7_parcelOf "ShakenParcels") 811 (by decide +kernel) rfl⟩
theorem lkX0_103 : zLk RX0 103 MX7_sortOf := Or.inr ⟨_, zmemN (w := Cond.methodLinkNest RX0 103 yX7_sortOf "ShakenParcels") 812 (by decide +kernel) rfl⟩
theorem lkX0_136 : zLk RX0 136 MX7_put := Or.inr ⟨_, zmemN (w := Cond.methodLinkNest RX0 136 yX7_put "ShakenParcels") 813 (by decide +kernel) rfl⟩
theorem lkX6_23 : zLk RX6 23 MX7_put := Or.inr ⟨_, zmemN (w := Cond.methodLinkNest RX6 23 yX7_put "ShakenParcels") 827 (by decide +kernel) rfl⟩
theorem obj_i : Cond.instanceMethod Lib.objectInit ∈ zTbl := zmem 85 (by decide +kernel) rfl
theorem obj_c : Cond.code Lib.objectInit ⟨#[0xb1]⟩ 1 none ∈ zTbl := zmem 86 (by decide +kernel) rfl
theorem coX7_212 : Cond.constantLong RX7 212 (-1) ∈ zTbl := zmem 733 (by decide +kernel) rfl
theorem coX7_214 : Cond.constantLong RX7 214 (-4) ∈ zTbl := zmem 734 (by decide +kernel) rfl
theorem coX7_254 : Cond.constantLong RX7 254 (10) ∈ zTbl := zmem 854 (by decide +kernel) rfl
theorem coX7_281 : Cond.constantLong RX7 281 (7919) ∈ zTbl := zmem 885 (by decide +kernel) rfl
theorem coX7_283 : Cond.constantLong RX7 283 (65521) ∈ zTbl := zmem 886 (by decide +kernel) rfl
theorem coX8_105 : Cond.constantLong RX8 105 (32) ∈ zTbl := zmem 1048 (by decide +kernel) rfl
theorem coX8_107 : Cond.constantLong RX8 107 (126) ∈ zTbl := zmem 1049 (by decide +kernel) rfl
theorem coX8_124 : Cond.constantLong RX8 124 (48) ∈ zTbl := zmem 1074 (by decide +kernel) rfl
theorem coX8_126 : Cond.constantLong RX8 126 (57) ∈ zTbl := zmem 1075 (by decide +kernel) rfl
theorem coX8_128 : Cond.constantLong RX8 128 (2) ∈ zTbl := zmem 1076 (by decide +kernel) rfl
theorem coX8_130 : Cond.constantLong RX8 130 (20) ∈ zTbl := zmem 1081 (by decide +kernel) rfl
theorem coX8_132 : Cond.constantLong RX8 132 (9) ∈ zTbl := zmem 1082 (by decide +kernel) rfl
theorem coX8_142 : Cond.constantLong RX8 142 (60) ∈ zTbl := zmem 1083 (by decide +kernel) rfl
theorem coX8_187 : Cond.constantLong RX8 187 (4) ∈ zTbl := zmem 1104 (by decide +kernel) rfl
theorem coX8_201 : Cond.constantLong RX8 201 (3) ∈ zTbl := zmem 1124 (by decide +kernel) rfl
theorem coX8_213 : Cond.constantLong RX8 213 (99) ∈ zTbl := zmem 1153 (by decide +kernel) rfl
theorem coX8_224 : Cond.constantLong RX8 224 (-1) ∈ zTbl := zmem 1186 (by decide +kernel) rfl
theorem coX8_226 : Cond.constantLong RX8 226 (-4) ∈ zTbl := zmem 1187 (by decide +kernel) rfl
theorem coX8_264 : Cond.constantLong RX8 264 (10) ∈ zTbl := zmem 1251 (by decide +kernel) rfl
theorem coX8_266 : Cond.constantLong RX8 266 (9999) ∈ zTbl := zmem 1272 (by decide +kernel) rfl
theorem coX8_268 : Cond.constantLong RX8 268 (7919) ∈ zTbl := zmem 1273 (by decide +kernel) rfl
theorem coX8_270 : Cond.constantLong RX8 270 (65521) ∈ zTbl := zmem 1274 (by decide +kernel) rfl
theorem coJ6_265 : Cond.constant RJ6 265 (1431655765) ∈ zTbl := zmem 465 (by decide +kernel) rfl
theorem coJ6_266 : Cond.constant RJ6 266 (858993459) ∈ zTbl := zmem 466 (by decide +kernel) rfl
theorem coJ6_267 : Cond.constant RJ6 267 (252645135) ∈ zTbl := zmem 467 (by decide +kernel) rfl
theorem clL_7 : Cond.classLink RL 7 RX7 ∈ zTbl := zmem 79 (by decide +kernel) rfl
theorem clX7_9 : Cond.classLink RX7 9 RX3 ∈ zTbl := zmem 87 (by decide +kernel) rfl
theorem clX7_16 : Cond.classLink RX7 16 RX5 ∈ zTbl := zmem 109 (by decide +kernel) rfl
theorem clX5_9 : Cond.classLink RX5 9 RX4 ∈ zTbl := zmem 115 (by decide +kernel) rfl
theorem clX7_26 : Cond.classLink RX7 26 RX6 ∈ zTbl := zmem 207 (by decide +kernel) rfl
theorem clX7_39 : Cond.classLink RX7 39 RX0 ∈ zTbl := zmem 222 (by decide +kernel) rfl
theorem clX7_46 : Cond.classLink RX7 46 RX1 ∈ zTbl := zmem 261 (by decide +kernel) rfl
theorem clX7_53 : Cond.classLink RX7 53 RX2 ∈ zTbl := zmem 288 (by decide +kernel) rfl
theorem clX2_13 : Cond.classLink RX2 13 RX1 ∈ zTbl := zmem 297 (by decide +kernel) rfl
theorem clL_10 : Cond.classLink RL 10 RX8 ∈ zTbl := zmem 900 (by decide +kernel) rfl
theorem itX7 : Cond.instantiable RX7 13 ∈ zTbl := zmem 80 (by decide +kernel) rfl
theorem itX3 : Cond.instantiable RX3 4 ∈ zTbl := zmem 88 (by decide +kernel) rfl
theorem itX5 : Cond.instantiable RX5 10 ∈ zTbl := zmem 110 (by decide +kernel) rfl
theorem itX4 : Cond.instantiable RX4 11 ∈ zTbl := zmem 116 (by decide +kernel) rfl
theorem itX6 : Cond.instantiable RX6 2 ∈ zTbl := zmem 208 (by decide +kernel) rfl
theorem itX0 : Cond.instantiable RX0 9 ∈ zTbl := zmem 223 (by decide +kernel) rfl
theorem itX1 : Cond.instantiable RX1 5 ∈ zTbl := zmem 262 (by decide +kernel) rfl
theorem itX2 : Cond.instantiable RX2 2 ∈ zTbl := zmem 289 (by decide +kernel) rfl
theorem itX8 : Cond.instantiable RX8 33 ∈ zTbl := zmem 901 (by decide +kernel) rfl
theorem izL : Cond.initialized RL ∈ zTbl := zmem 61 (by decide +kernel) rfl
theorem izX7 : Cond.initialized RX7 ∈ zTbl := zmem 62 (by decide +kernel) rfl
theorem izX3 : Cond.initialized RX3 ∈ zTbl := zmem 63 (by decide +kernel) rfl
theorem izX5 : Cond.initialized RX5 ∈ zTbl := zmem 64 (by decide +kernel) rfl
theorem izX4 : Cond.initialized RX4 ∈ zTbl := zmem 65 (by decide +kernel) rfl
theorem izX6 : Cond.initialized RX6 ∈ zTbl := zmem 66 (by decide +kernel) rfl
theorem izX0 : Cond.initialized RX0 ∈ zTbl := zmem 67 (by decide +kernel) rfl
theorem izX1 : Cond.initialized RX1 ∈ zTbl := zmem 68 (by decide +kernel) rfl
theorem izX2 : Cond.initialized RX2 ∈ zTbl := zmem 69 (by decide +kernel) rfl
theorem izJ9 : Cond.initialized RJ9 ∈ zTbl := zmem 70 (by decide +kernel) rfl
theorem izJ0 : Cond.initialized RJ0 ∈ zTbl := zmem 71 (by decide +kernel) rfl
theorem izJ1 : Cond.initialized RJ1 ∈ zTbl := zmem 72 (by decide +kernel) rfl
theorem izJ3 : Cond.initialized RJ3 ∈ zTbl := zmem 73 (by decide +kernel) rfl
theorem izJ2 : Cond.initialized RJ2 ∈ zTbl := zmem 74 (by decide +kernel) rfl
theorem izJ7 : Cond.initialized RJ7 ∈ zTbl := zmem 75 (by decide +kernel) rfl
theorem izJ6 : Cond.initialized RJ6 ∈ zTbl := zmem 76 (by decide +kernel) rfl
theorem izX8 : Cond.initialized RX8 ∈ zTbl := zmem 77 (by decide +kernel) rfl
theorem izJ10 : Cond.initialized RJ10 ∈ zTbl := zmem 78 (by decide +kernel) rfl
theorem ac_char : Cond.arrayClass .char ∈ zTbl := zmem 107 (by decide +kernel) rfl
theorem ac_int : Cond.arrayClass .int ∈ zTbl := zmem 108 (by decide +kernel) rfl
theorem ac_long : Cond.arrayClass .long ∈ zTbl := zmem 559 (by decide +kernel) rfl
theorem ac_byte : Cond.arrayClass .byte ∈ zTbl := zmem 560 (by decide +kernel) rfl
theorem ac_boolean : Cond.arrayClass .boolean ∈ zTbl := zmem 1043 (by decide +kernel) rfl
