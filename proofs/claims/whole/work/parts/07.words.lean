theorem tg_in {w : Cond} (i : Nat) (h : lw_tbl[i]? = some w) (hw : tgw w = true) : w ∈ lw_tg := List.mem_filter.mpr ⟨List.mem_of_getElem? h, hw⟩
theorem kcX1 : KC 0 RX1 TX1 4 tyX1 := ⟨rfl, iX1, tyX1_ok, nmX1⟩
theorem kcX2 : KC 1 RX2 TX2 3 tyX2 := ⟨rfl, iX2, tyX2_ok, nmX2⟩
theorem kcX3 : KC 2 RX3 TX3 2 tyX3 := ⟨rfl, iX3, tyX3_ok, nmX3⟩
theorem kcX4 : KC 3 RX4 TX4 4 tyX4 := ⟨rfl, iX4, tyX4_ok, nmX4⟩
theorem kcX5 : KC 4 RX5 TX5 4 tyX5 := ⟨rfl, iX5, tyX5_ok, nmX5⟩
theorem kcX6 : KC 5 RX6 TX6 3 tyX6 := ⟨rfl, iX6, tyX6_ok, nmX6⟩
theorem kcX7 : KC 6 RX7 TX7 2 tyX7 := ⟨rfl, iX7, tyX7_ok, nmX7⟩
theorem kcX8 : KC 7 RX8 TX8 2 tyX8 := ⟨rfl, iX8, tyX8_ok, nmX8⟩
theorem kcX9 : KC 8 RX9 TX9 5 tyX9 := ⟨rfl, iX9, tyX9_ok, nmX9⟩
theorem kcX10 : KC 9 RX10 TX10 3 tyX10 := ⟨rfl, iX10, tyX10_ok, nmX10⟩
theorem kcX11 : KC 10 RX11 TX11 12 tyX11 := ⟨rfl, iX11, tyX11_ok, nmX11⟩
theorem kcX12 : KC 11 RX12 TX12 24 tyX12 := ⟨rfl, iX12, tyX12_ok, nmX12⟩
theorem pnJ0 : plainName RJ0 = true := by decide +kernel
theorem pnJ1 : plainName RJ1 = true := by decide +kernel
theorem pnJ11 : plainName RJ11 = true := by decide +kernel
theorem pnJ2 : plainName RJ2 = true := by decide +kernel
theorem pnJ3 : plainName RJ3 = true := by decide +kernel
theorem pnJ7 : plainName RJ7 = true := by decide +kernel
theorem pnL : plainName RL = true := by decide +kernel
theorem pnX0 : plainName RX0 = true := by decide +kernel
theorem pnX1 : plainName RX1 = true := by decide +kernel
theorem pnX10 : plainName RX10 = true := by decide +kernel
theorem pnX11 : plainName RX11 = true := by decide +kernel
theorem pnX12 : plainName RX12 = true := by decide +kernel
theorem pnX2 : plainName RX2 = true := by decide +kernel
theorem pnX3 : plainName RX3 = true := by decide +kernel
theorem pnX4 : plainName RX4 = true := by decide +kernel
theorem pnX5 : plainName RX5 = true := by decide +kernel
theorem pnX6 : plainName RX6 = true := by decide +kernel
theorem pnX7 : plainName RX7 = true := by decide +kernel
theorem pnX8 : plainName RX8 = true := by decide +kernel
theorem pnX9 : plainName RX9 = true := by decide +kernel
theorem gX9_9 : FG RX9 9 8 0 := ⟨RX9, TX9, 5, tyX9, kcX9, by decide, Or.inl (tg_in 65 (by decide +kernel) (by decide +kernel))⟩
theorem qX9_9 : FQ RX9 9 8 0 (.array .int) := ⟨RX9, TX9, 5, tyX9, kcX9, by decide, tg_in 65 (by decide +kernel) (by decide +kernel), rfl, rfl, rfl⟩
theorem gX9_15 : FG RX9 15 8 1 := ⟨RX9, TX9, 5, tyX9, kcX9, by decide, Or.inl (tg_in 66 (by decide +kernel) (by decide +kernel))⟩
theorem pX9_15 : FP RX9 15 8 1 (.int) := ⟨RX9, TX9, 5, tyX9, kcX9, by decide, Or.inl (tg_in 66 (by decide +kernel) (by decide +kernel)), rfl, rfl⟩
theorem gX6_30 : FG RX6 30 8 1 := ⟨RX9, TX9, 5, tyX9, kcX9, by decide, Or.inr ⟨"TeleprinterTape", tg_in 67 (by decide +kernel) (by decide +kernel)⟩⟩
theorem pX6_30 : FP RX6 30 8 1 (.int) := ⟨RX9, TX9, 5, tyX9, kcX9, by decide, Or.inr ⟨"TeleprinterTape", tg_in 67 (by decide +kernel) (by decide +kernel)⟩, rfl, rfl⟩
theorem gX10_27 : FG RX10 27 8 1 := ⟨RX9, TX9, 5, tyX9, kcX9, by decide, Or.inr ⟨"TeleprinterTape", tg_in 68 (by decide +kernel) (by decide +kernel)⟩⟩
theorem pX10_27 : FP RX10 27 8 1 (.int) := ⟨RX9, TX9, 5, tyX9, kcX9, by decide, Or.inr ⟨"TeleprinterTape", tg_in 68 (by decide +kernel) (by decide +kernel)⟩, rfl, rfl⟩
theorem gX11_101 : FG RX11 101 8 1 := ⟨RX9, TX9, 5, tyX9, kcX9, by decide, Or.inr ⟨"TeleprinterTape", tg_in 69 (by decide +kernel) (by decide +kernel)⟩⟩
theorem pX11_101 : FP RX11 101 8 1 (.int) := ⟨RX9, TX9, 5, tyX9, kcX9, by decide, Or.inr ⟨"TeleprinterTape", tg_in 69 (by decide +kernel) (by decide +kernel)⟩, rfl, rfl⟩
theorem gX3_33 : FG RX3 33 8 1 := ⟨RX9, TX9, 5, tyX9, kcX9, by decide, Or.inr ⟨"TeleprinterTape", tg_in 70 (by decide +kernel) (by decide +kernel)⟩⟩
theorem pX3_33 : FP RX3 33 8 1 (.int) := ⟨RX9, TX9, 5, tyX9, kcX9, by decide, Or.inr ⟨"TeleprinterTape", tg_in 70 (by decide +kernel) (by decide +kernel)⟩, rfl, rfl⟩
theorem gX9_19 : FG RX9 19 8 2 := ⟨RX9, TX9, 5, tyX9, kcX9, by decide, Or.inl (tg_in 71 (by decide +kernel) (by decide +kernel))⟩
theorem pX9_19 : FP RX9 19 8 2 (.int) := ⟨RX9, TX9, 5, tyX9, kcX9, by decide, Or.inl (tg_in 71 (by decide +kernel) (by decide +kernel)), rfl, rfl⟩
theorem gX10_22 : FG RX10 22 8 2 := ⟨RX9, TX9, 5, tyX9, kcX9, by decide, Or.inr ⟨"TeleprinterTape", tg_in 72 (by decide +kernel) (by decide +kernel)⟩⟩
theorem pX10_22 : FP RX10 22 8 2 (.int) := ⟨RX9, TX9, 5, tyX9, kcX9, by decide, Or.inr ⟨"TeleprinterTape", tg_in 72 (by decide +kernel) (by decide +kernel)⟩, rfl, rfl⟩
theorem gX1_24 : FG RX1 24 8 2 := ⟨RX9, TX9, 5, tyX9, kcX9, by decide, Or.inr ⟨"TeleprinterTape", tg_in 73 (by decide +kernel) (by decide +kernel)⟩⟩
theorem pX1_24 : FP RX1 24 8 2 (.int) := ⟨RX9, TX9, 5, tyX9, kcX9, by decide, Or.inr ⟨"TeleprinterTape", tg_in 73 (by decide +kernel) (by decide +kernel)⟩, rfl, rfl⟩
theorem gX6_40 : FG RX6 40 8 2 := ⟨RX9, TX9, 5, tyX9, kcX9, by decide, Or.inr ⟨"TeleprinterTape", tg_in 74 (by decide +kernel) (by decide +kernel)⟩⟩
theorem pX6_40 : FP RX6 40 8 2 (.int) := ⟨RX9, TX9, 5, tyX9, kcX9, by decide, Or.inr ⟨"TeleprinterTape", tg_in 74 (by decide +kernel) (by decide +kernel)⟩, rfl, rfl⟩
theorem gX7_63 : FG RX7 63 8 2 := ⟨RX9, TX9, 5, tyX9, kcX9, by decide, Or.inr ⟨"TeleprinterTape", tg_in 75 (by decide +kernel) (by decide +kernel)⟩⟩
theorem pX7_63 : FP RX7 63 8 2 (.int) := ⟨RX9, TX9, 5, tyX9, kcX9, by decide, Or.inr ⟨"TeleprinterTape", tg_in 75 (by decide +kernel) (by decide +kernel)⟩, rfl, rfl⟩
theorem gX11_173 : FG RX11 173 8 2 := ⟨RX9, TX9, 5, tyX9, kcX9, by decide, Or.inr ⟨"TeleprinterTape", tg_in 76 (by decide +kernel) (by decide +kernel)⟩⟩
theorem pX11_173 : FP RX11 173 8 2 (.int) := ⟨RX9, TX9, 5, tyX9, kcX9, by decide, Or.inr ⟨"TeleprinterTape", tg_in 76 (by decide +kernel) (by decide +kernel)⟩, rfl, rfl⟩
theorem gX9_22 : FG RX9 22 8 3 := ⟨RX9, TX9, 5, tyX9, kcX9, by decide, Or.inl (tg_in 77 (by decide +kernel) (by decide +kernel))⟩
theorem pX9_22 : FP RX9 22 8 3 (.int) := ⟨RX9, TX9, 5, tyX9, kcX9, by decide, Or.inl (tg_in 77 (by decide +kernel) (by decide +kernel)), rfl, rfl⟩
theorem gX6_47 : FG RX6 47 8 3 := ⟨RX9, TX9, 5, tyX9, kcX9, by decide, Or.inr ⟨"TeleprinterTape", tg_in 78 (by decide +kernel) (by decide +kernel)⟩⟩
theorem pX6_47 : FP RX6 47 8 3 (.int) := ⟨RX9, TX9, 5, tyX9, kcX9, by decide, Or.inr ⟨"TeleprinterTape", tg_in 78 (by decide +kernel) (by decide +kernel)⟩, rfl, rfl⟩
theorem gX7_60 : FG RX7 60 8 3 := ⟨RX9, TX9, 5, tyX9, kcX9, by decide, Or.inr ⟨"TeleprinterTape", tg_in 79 (by decide +kernel) (by decide +kernel)⟩⟩
theorem pX7_60 : FP RX7 60 8 3 (.int) := ⟨RX9, TX9, 5, tyX9, kcX9, by decide, Or.inr ⟨"TeleprinterTape", tg_in 79 (by decide +kernel) (by decide +kernel)⟩, rfl, rfl⟩
theorem gX11_176 : FG RX11 176 8 3 := ⟨RX9, TX9, 5, tyX9, kcX9, by decide, Or.inr ⟨"TeleprinterTape", tg_in 80 (by decide +kernel) (by decide +kernel)⟩⟩
theorem pX11_176 : FP RX11 176 8 3 (.int) := ⟨RX9, TX9, 5, tyX9, kcX9, by decide, Or.inr ⟨"TeleprinterTape", tg_in 80 (by decide +kernel) (by decide +kernel)⟩, rfl, rfl⟩
theorem gX9_25 : FG RX9 25 8 4 := ⟨RX9, TX9, 5, tyX9, kcX9, by decide, Or.inl (tg_in 81 (by decide +kernel) (by decide +kernel))⟩
theorem pX9_25 : FP RX9 25 8 4 (.int) := ⟨RX9, TX9, 5, tyX9, kcX9, by decide, Or.inl (tg_in 81 (by decide +kernel) (by decide +kernel)), rfl, rfl⟩
theorem gX11_142 : FG RX11 142 8 4 := ⟨RX9, TX9, 5, tyX9, kcX9, by decide, Or.inr ⟨"TeleprinterTape", tg_in 82 (by decide +kernel) (by decide +kernel)⟩⟩
theorem pX11_142 : FP RX11 142 8 4 (.int) := ⟨RX9, TX9, 5, tyX9, kcX9, by decide, Or.inr ⟨"TeleprinterTape", tg_in 82 (by decide +kernel) (by decide +kernel)⟩, rfl, rfl⟩
theorem gX6_12 : FG RX6 12 5 0 := ⟨RX6, TX6, 3, tyX6, kcX6, by decide, Or.inl (tg_in 103 (by decide +kernel) (by decide +kernel))⟩
theorem qX6_12 : FQ RX6 12 5 0 (.object "TeleprinterTape$Tape") := ⟨RX6, TX6, 3, tyX6, kcX6, by decide, tg_in 103 (by decide +kernel) (by decide +kernel), rfl, rfl, rfl⟩
theorem gX11_251 : FG RX11 251 5 0 := ⟨RX6, TX6, 3, tyX6, kcX6, by decide, Or.inr ⟨"TeleprinterTape", tg_in 104 (by decide +kernel) (by decide +kernel)⟩⟩
theorem gX6_18 : FG RX6 18 5 1 := ⟨RX6, TX6, 3, tyX6, kcX6, by decide, Or.inl (tg_in 105 (by decide +kernel) (by decide +kernel))⟩
theorem pX6_18 : FP RX6 18 5 1 (.int) := ⟨RX6, TX6, 3, tyX6, kcX6, by decide, Or.inl (tg_in 105 (by decide +kernel) (by decide +kernel)), rfl, rfl⟩
theorem gX6_22 : FG RX6 22 5 2 := ⟨RX6, TX6, 3, tyX6, kcX6, by decide, Or.inl (tg_in 106 (by decide +kernel) (by decide +kernel))⟩
theorem pX6_22 : FP RX6 22 5 2 (.boolean) := ⟨RX6, TX6, 3, tyX6, kcX6, by decide, Or.inl (tg_in 106 (by decide +kernel) (by decide +kernel)), rfl, rfl⟩
theorem gX11_247 : FG RX11 247 5 2 := ⟨RX6, TX6, 3, tyX6, kcX6, by decide, Or.inr ⟨"TeleprinterTape", tg_in 107 (by decide +kernel) (by decide +kernel)⟩⟩
theorem pX11_247 : FP RX11 247 5 2 (.boolean) := ⟨RX6, TX6, 3, tyX6, kcX6, by decide, Or.inr ⟨"TeleprinterTape", tg_in 107 (by decide +kernel) (by decide +kernel)⟩, rfl, rfl⟩
theorem gX3_9 : FG RX3 9 2 0 := ⟨RX3, TX3, 2, tyX3, kcX3, by decide, Or.inl (tg_in 121 (by decide +kernel) (by decide +kernel))⟩
theorem qX3_9 : FQ RX3 9 2 0 (.array .int) := ⟨RX3, TX3, 2, tyX3, kcX3, by decide, tg_in 121 (by decide +kernel) (by decide +kernel), rfl, rfl, rfl⟩
theorem gX3_15 : FG RX3 15 2 1 := ⟨RX3, TX3, 2, tyX3, kcX3, by decide, Or.inl (tg_in 122 (by decide +kernel) (by decide +kernel))⟩
theorem pX3_15 : FP RX3 15 2 1 (.int) := ⟨RX3, TX3, 2, tyX3, kcX3, by decide, Or.inl (tg_in 122 (by decide +kernel) (by decide +kernel)), rfl, rfl⟩
theorem gX11_93 : FG RX11 93 2 1 := ⟨RX3, TX3, 2, tyX3, kcX3, by decide, Or.inr ⟨"TeleprinterTape", tg_in 123 (by decide +kernel) (by decide +kernel)⟩⟩
theorem pX11_93 : FP RX11 93 2 1 (.int) := ⟨RX3, TX3, 2, tyX3, kcX3, by decide, Or.inr ⟨"TeleprinterTape", tg_in 123 (by decide +kernel) (by decide +kernel)⟩, rfl, rfl⟩
theorem gX6_72 : FG RX6 72 2 1 := ⟨RX3, TX3, 2, tyX3, kcX3, by decide, Or.inr ⟨"TeleprinterTape", tg_in 124 (by decide +kernel) (by decide +kernel)⟩⟩
theorem pX6_72 : FP RX6 72 2 1 (.int) := ⟨RX3, TX3, 2, tyX3, kcX3, by decide, Or.inr ⟨"TeleprinterTape", tg_in 124 (by decide +kernel) (by decide +kernel)⟩, rfl, rfl⟩
theorem gX2_11 : FG RX2 11 1 0 := ⟨RX2, TX2, 3, tyX2, kcX2, by decide, Or.inl (tg_in 139 (by decide +kernel) (by decide +kernel))⟩
theorem qX2_11 : FQ RX2 11 1 0 (.array (.object "TeleprinterTape$Tape")) := ⟨RX2, TX2, 3, tyX2, kcX2, by decide, tg_in 139 (by decide +kernel) (by decide +kernel), rfl, rfl, rfl⟩
theorem gX2_17 : FG RX2 17 1 1 := ⟨RX2, TX2, 3, tyX2, kcX2, by decide, Or.inl (tg_in 140 (by decide +kernel) (by decide +kernel))⟩
theorem pX2_17 : FP RX2 17 1 1 (.int) := ⟨RX2, TX2, 3, tyX2, kcX2, by decide, Or.inl (tg_in 140 (by decide +kernel) (by decide +kernel)), rfl, rfl⟩
theorem gX2_21 : FG RX2 21 1 2 := ⟨RX2, TX2, 3, tyX2, kcX2, by decide, Or.inl (tg_in 141 (by decide +kernel) (by decide +kernel))⟩
theorem pX2_21 : FP RX2 21 1 2 (.int) := ⟨RX2, TX2, 3, tyX2, kcX2, by decide, Or.inl (tg_in 141 (by decide +kernel) (by decide +kernel)), rfl, rfl⟩
theorem gX11_183 : FG RX11 183 1 2 := ⟨RX2, TX2, 3, tyX2, kcX2, by decide, Or.inr ⟨"TeleprinterTape", tg_in 142 (by decide +kernel) (by decide +kernel)⟩⟩
theorem pX11_183 : FP RX11 183 1 2 (.int) := ⟨RX2, TX2, 3, tyX2, kcX2, by decide, Or.inr ⟨"TeleprinterTape", tg_in 142 (by decide +kernel) (by decide +kernel)⟩, rfl, rfl⟩
theorem gX8_11 : FG RX8 11 7 0 := ⟨RX8, TX8, 2, tyX8, kcX8, by decide, Or.inl (tg_in 158 (by decide +kernel) (by decide +kernel))⟩
theorem qX8_11 : FQ RX8 11 7 0 (.array (.object "TeleprinterTape$Tape")) := ⟨RX8, TX8, 2, tyX8, kcX8, by decide, tg_in 158 (by decide +kernel) (by decide +kernel), rfl, rfl, rfl⟩
theorem gX8_17 : FG RX8 17 7 1 := ⟨RX8, TX8, 2, tyX8, kcX8, by decide, Or.inl (tg_in 159 (by decide +kernel) (by decide +kernel))⟩
theorem qX8_17 : FQ RX8 17 7 1 (.array .boolean) := ⟨RX8, TX8, 2, tyX8, kcX8, by decide, tg_in 159 (by decide +kernel) (by decide +kernel), rfl, rfl, rfl⟩
theorem gX10_9 : FG RX10 9 9 0 := ⟨RX10, TX10, 3, tyX10, kcX10, by decide, Or.inl (tg_in 172 (by decide +kernel) (by decide +kernel))⟩
theorem qX10_9 : FQ RX10 9 9 0 (.array .int) := ⟨RX10, TX10, 3, tyX10, kcX10, by decide, tg_in 172 (by decide +kernel) (by decide +kernel), rfl, rfl, rfl⟩
theorem gX10_15 : FG RX10 15 9 1 := ⟨RX10, TX10, 3, tyX10, kcX10, by decide, Or.inl (tg_in 173 (by decide +kernel) (by decide +kernel))⟩
theorem qX10_15 : FQ RX10 15 9 1 (.array .int) := ⟨RX10, TX10, 3, tyX10, kcX10, by decide, tg_in 173 (by decide +kernel) (by decide +kernel), rfl, rfl, rfl⟩
theorem gX10_18 : FG RX10 18 9 2 := ⟨RX10, TX10, 3, tyX10, kcX10, by decide, Or.inl (tg_in 174 (by decide +kernel) (by decide +kernel))⟩
theorem pX10_18 : FP RX10 18 9 2 (.int) := ⟨RX10, TX10, 3, tyX10, kcX10, by decide, Or.inl (tg_in 174 (by decide +kernel) (by decide +kernel)), rfl, rfl⟩
theorem gX5_31 : FG RX5 31 9 2 := ⟨RX10, TX10, 3, tyX10, kcX10, by decide, Or.inr ⟨"TeleprinterTape", tg_in 175 (by decide +kernel) (by decide +kernel)⟩⟩
theorem pX5_31 : FP RX5 31 9 2 (.int) := ⟨RX10, TX10, 3, tyX10, kcX10, by decide, Or.inr ⟨"TeleprinterTape", tg_in 175 (by decide +kernel) (by decide +kernel)⟩, rfl, rfl⟩
theorem gX7_50 : FG RX7 50 9 2 := ⟨RX10, TX10, 3, tyX10, kcX10, by decide, Or.inr ⟨"TeleprinterTape", tg_in 176 (by decide +kernel) (by decide +kernel)⟩⟩
theorem pX7_50 : FP RX7 50 9 2 (.int) := ⟨RX10, TX10, 3, tyX10, kcX10, by decide, Or.inr ⟨"TeleprinterTape", tg_in 176 (by decide +kernel) (by decide +kernel)⟩, rfl, rfl⟩
theorem gX11_116 : FG RX11 116 9 2 := ⟨RX10, TX10, 3, tyX10, kcX10, by decide, Or.inr ⟨"TeleprinterTape", tg_in 177 (by decide +kernel) (by decide +kernel)⟩⟩
theorem pX11_116 : FP RX11 116 9 2 (.int) := ⟨RX10, TX10, 3, tyX10, kcX10, by decide, Or.inr ⟨"TeleprinterTape", tg_in 177 (by decide +kernel) (by decide +kernel)⟩, rfl, rfl⟩
theorem gX5_11 : FG RX5 11 4 0 := ⟨RX5, TX5, 4, tyX5, kcX5, by decide, Or.inl (tg_in 191 (by decide +kernel) (by decide +kernel))⟩
theorem qX5_11 : FQ RX5 11 4 0 (.array .int) := ⟨RX5, TX5, 4, tyX5, kcX5, by decide, tg_in 191 (by decide +kernel) (by decide +kernel), rfl, rfl, rfl⟩
theorem gX5_15 : FG RX5 15 4 1 := ⟨RX5, TX5, 4, tyX5, kcX5, by decide, Or.inl (tg_in 192 (by decide +kernel) (by decide +kernel))⟩
theorem pX5_15 : FP RX5 15 4 1 (.int) := ⟨RX5, TX5, 4, tyX5, kcX5, by decide, Or.inl (tg_in 192 (by decide +kernel) (by decide +kernel)), rfl, rfl⟩
theorem gX5_19 : FG RX5 19 4 2 := ⟨RX5, TX5, 4, tyX5, kcX5, by decide, Or.inl (tg_in 193 (by decide +kernel) (by decide +kernel))⟩
theorem pX5_19 : FP RX5 19 4 2 (.int) := ⟨RX5, TX5, 4, tyX5, kcX5, by decide, Or.inl (tg_in 193 (by decide +kernel) (by decide +kernel)), rfl, rfl⟩
theorem gX5_22 : FG RX5 22 4 3 := ⟨RX5, TX5, 4, tyX5, kcX5, by decide, Or.inl (tg_in 194 (by decide +kernel) (by decide +kernel))⟩
theorem pX5_22 : FP RX5 22 4 3 (.int) := ⟨RX5, TX5, 4, tyX5, kcX5, by decide, Or.inl (tg_in 194 (by decide +kernel) (by decide +kernel)), rfl, rfl⟩
theorem gX11_190 : FG RX11 190 4 3 := ⟨RX5, TX5, 4, tyX5, kcX5, by decide, Or.inr ⟨"TeleprinterTape", tg_in 195 (by decide +kernel) (by decide +kernel)⟩⟩
theorem pX11_190 : FP RX11 190 4 3 (.int) := ⟨RX5, TX5, 4, tyX5, kcX5, by decide, Or.inr ⟨"TeleprinterTape", tg_in 195 (by decide +kernel) (by decide +kernel)⟩, rfl, rfl⟩
theorem gX4_9 : FG RX4 9 3 0 := ⟨RX4, TX4, 4, tyX4, kcX4, by decide, Or.inl (tg_in 211 (by decide +kernel) (by decide +kernel))⟩
theorem qX4_9 : FQ RX4 9 3 0 (.array .int) := ⟨RX4, TX4, 4, tyX4, kcX4, by decide, tg_in 211 (by decide +kernel) (by decide +kernel), rfl, rfl, rfl⟩
theorem gX4_15 : FG RX4 15 3 1 := ⟨RX4, TX4, 4, tyX4, kcX4, by decide, Or.inl (tg_in 212 (by decide +kernel) (by decide +kernel))⟩
theorem qX4_15 : FQ RX4 15 3 1 (.array .int) := ⟨RX4, TX4, 4, tyX4, kcX4, by decide, tg_in 212 (by decide +kernel) (by decide +kernel), rfl, rfl, rfl⟩
theorem gX4_18 : FG RX4 18 3 2 := ⟨RX4, TX4, 4, tyX4, kcX4, by decide, Or.inl (tg_in 213 (by decide +kernel) (by decide +kernel))⟩
theorem pX4_18 : FP RX4 18 3 2 (.int) := ⟨RX4, TX4, 4, tyX4, kcX4, by decide, Or.inl (tg_in 213 (by decide +kernel) (by decide +kernel)), rfl, rfl⟩
theorem gX4_22 : FG RX4 22 3 3 := ⟨RX4, TX4, 4, tyX4, kcX4, by decide, Or.inl (tg_in 214 (by decide +kernel) (by decide +kernel))⟩
theorem pX4_22 : FP RX4 22 3 3 (.int) := ⟨RX4, TX4, 4, tyX4, kcX4, by decide, Or.inl (tg_in 214 (by decide +kernel) (by decide +kernel)), rfl, rfl⟩
theorem gX11_224 : FG RX11 224 3 3 := ⟨RX4, TX4, 4, tyX4, kcX4, by decide, Or.inr ⟨"TeleprinterTape", tg_in 215 (by decide +kernel) (by decide +kernel)⟩⟩
theorem pX11_224 : FP RX11 224 3 3 (.int) := ⟨RX4, TX4, 4, tyX4, kcX4, by decide, Or.inr ⟨"TeleprinterTape", tg_in 215 (by decide +kernel) (by decide +kernel)⟩, rfl, rfl⟩
theorem gX1_9 : FG RX1 9 0 0 := ⟨RX1, TX1, 4, tyX1, kcX1, by decide, Or.inl (tg_in 231 (by decide +kernel) (by decide +kernel))⟩
theorem pX1_9 : FP RX1 9 0 0 (.long) := ⟨RX1, TX1, 4, tyX1, kcX1, by decide, Or.inl (tg_in 231 (by decide +kernel) (by decide +kernel)), rfl, rfl⟩
theorem gX11_206 : FG RX11 206 0 0 := ⟨RX1, TX1, 4, tyX1, kcX1, by decide, Or.inr ⟨"TeleprinterTape", tg_in 232 (by decide +kernel) (by decide +kernel)⟩⟩
theorem pX11_206 : FP RX11 206 0 0 (.long) := ⟨RX1, TX1, 4, tyX1, kcX1, by decide, Or.inr ⟨"TeleprinterTape", tg_in 232 (by decide +kernel) (by decide +kernel)⟩, rfl, rfl⟩
theorem gX1_15 : FG RX1 15 0 1 := ⟨RX1, TX1, 4, tyX1, kcX1, by decide, Or.inl (tg_in 233 (by decide +kernel) (by decide +kernel))⟩
theorem pX1_15 : FP RX1 15 0 1 (.long) := ⟨RX1, TX1, 4, tyX1, kcX1, by decide, Or.inl (tg_in 233 (by decide +kernel) (by decide +kernel)), rfl, rfl⟩
theorem gX11_210 : FG RX11 210 0 1 := ⟨RX1, TX1, 4, tyX1, kcX1, by decide, Or.inr ⟨"TeleprinterTape", tg_in 234 (by decide +kernel) (by decide +kernel)⟩⟩
theorem pX11_210 : FP RX11 210 0 1 (.long) := ⟨RX1, TX1, 4, tyX1, kcX1, by decide, Or.inr ⟨"TeleprinterTape", tg_in 234 (by decide +kernel) (by decide +kernel)⟩, rfl, rfl⟩
theorem gX1_18 : FG RX1 18 0 2 := ⟨RX1, TX1, 4, tyX1, kcX1, by decide, Or.inl (tg_in 235 (by decide +kernel) (by decide +kernel))⟩
theorem pX1_18 : FP RX1 18 0 2 (.long) := ⟨RX1, TX1, 4, tyX1, kcX1, by decide, Or.inl (tg_in 235 (by decide +kernel) (by decide +kernel)), rfl, rfl⟩
theorem gX1_21 : FG RX1 21 0 3 := ⟨RX1, TX1, 4, tyX1, kcX1, by decide, Or.inl (tg_in 236 (by decide +kernel) (by decide +kernel))⟩
theorem pX1_21 : FP RX1 21 0 3 (.long) := ⟨RX1, TX1, 4, tyX1, kcX1, by decide, Or.inl (tg_in 236 (by decide +kernel) (by decide +kernel)), rfl, rfl⟩
theorem gX7_9 : FG RX7 9 6 0 := ⟨RX7, TX7, 2, tyX7, kcX7, by decide, Or.inl (tg_in 252 (by decide +kernel) (by decide +kernel))⟩
theorem qX7_9 : FQ RX7 9 6 0 (.array .int) := ⟨RX7, TX7, 2, tyX7, kcX7, by decide, tg_in 252 (by decide +kernel) (by decide +kernel), rfl, rfl, rfl⟩
theorem gX7_15 : FG RX7 15 6 1 := ⟨RX7, TX7, 2, tyX7, kcX7, by decide, Or.inl (tg_in 253 (by decide +kernel) (by decide +kernel))⟩
theorem pX7_15 : FP RX7 15 6 1 (.int) := ⟨RX7, TX7, 2, tyX7, kcX7, by decide, Or.inl (tg_in 253 (by decide +kernel) (by decide +kernel)), rfl, rfl⟩
theorem gX11_10 : FG RX11 10 10 0 := ⟨RX11, TX11, 12, tyX11, kcX11, by decide, Or.inl (tg_in 259 (by decide +kernel) (by decide +kernel))⟩
theorem qX11_10 : FQ RX11 10 10 0 (.object "TeleprinterTape$Tape") := ⟨RX11, TX11, 12, tyX11, kcX11, by decide, tg_in 259 (by decide +kernel) (by decide +kernel), rfl, rfl, rfl⟩
theorem gX11_16 : FG RX11 16 10 1 := ⟨RX11, TX11, 12, tyX11, kcX11, by decide, Or.inl (tg_in 260 (by decide +kernel) (by decide +kernel))⟩
theorem qX11_16 : FQ RX11 16 10 1 (.object "TeleprinterTape$Tape") := ⟨RX11, TX11, 12, tyX11, kcX11, by decide, tg_in 260 (by decide +kernel) (by decide +kernel), rfl, rfl, rfl⟩
theorem gX11_22 : FG RX11 22 10 2 := ⟨RX11, TX11, 12, tyX11, kcX11, by decide, Or.inl (tg_in 261 (by decide +kernel) (by decide +kernel))⟩
theorem qX11_22 : FQ RX11 22 10 2 (.object "TeleprinterTape$Puncher") := ⟨RX11, TX11, 12, tyX11, kcX11, by decide, tg_in 261 (by decide +kernel) (by decide +kernel), rfl, rfl, rfl⟩
theorem gX11_29 : FG RX11 29 10 3 := ⟨RX11, TX11, 12, tyX11, kcX11, by decide, Or.inl (tg_in 262 (by decide +kernel) (by decide +kernel))⟩
theorem qX11_29 : FQ RX11 29 10 3 (.object "TeleprinterTape$Message") := ⟨RX11, TX11, 12, tyX11, kcX11, by decide, tg_in 262 (by decide +kernel) (by decide +kernel), rfl, rfl, rfl⟩
theorem gX11_36 : FG RX11 36 10 4 := ⟨RX11, TX11, 12, tyX11, kcX11, by decide, Or.inl (tg_in 263 (by decide +kernel) (by decide +kernel))⟩
theorem qX11_36 : FQ RX11 36 10 4 (.object "TeleprinterTape$History") := ⟨RX11, TX11, 12, tyX11, kcX11, by decide, tg_in 263 (by decide +kernel) (by decide +kernel), rfl, rfl, rfl⟩
theorem gX11_43 : FG RX11 43 10 5 := ⟨RX11, TX11, 12, tyX11, kcX11, by decide, Or.inl (tg_in 264 (by decide +kernel) (by decide +kernel))⟩
theorem qX11_43 : FQ RX11 43 10 5 (.object "TeleprinterTape$Slots") := ⟨RX11, TX11, 12, tyX11, kcX11, by decide, tg_in 264 (by decide +kernel) (by decide +kernel), rfl, rfl, rfl⟩
theorem gX11_50 : FG RX11 50 10 6 := ⟨RX11, TX11, 12, tyX11, kcX11, by decide, Or.inl (tg_in 265 (by decide +kernel) (by decide +kernel))⟩
theorem qX11_50 : FQ RX11 50 10 6 (.object "TeleprinterTape$Text") := ⟨RX11, TX11, 12, tyX11, kcX11, by decide, tg_in 265 (by decide +kernel) (by decide +kernel), rfl, rfl, rfl⟩
theorem gX11_54 : FG RX11 54 10 7 := ⟨RX11, TX11, 12, tyX11, kcX11, by decide, Or.inl (tg_in 266 (by decide +kernel) (by decide +kernel))⟩
theorem qX11_54 : FQ RX11 54 10 7 (.object "TeleprinterTape$Text") := ⟨RX11, TX11, 12, tyX11, kcX11, by decide, tg_in 266 (by decide +kernel) (by decide +kernel), rfl, rfl, rfl⟩
theorem gX11_60 : FG RX11 60 10 8 := ⟨RX11, TX11, 12, tyX11, kcX11, by decide, Or.inl (tg_in 267 (by decide +kernel) (by decide +kernel))⟩
theorem qX11_60 : FQ RX11 60 10 8 (.object "TeleprinterTape$Page") := ⟨RX11, TX11, 12, tyX11, kcX11, by decide, tg_in 267 (by decide +kernel) (by decide +kernel), rfl, rfl, rfl⟩
theorem gX11_67 : FG RX11 67 10 9 := ⟨RX11, TX11, 12, tyX11, kcX11, by decide, Or.inl (tg_in 268 (by decide +kernel) (by decide +kernel))⟩
theorem qX11_67 : FQ RX11 67 10 9 (.object "TeleprinterTape$Observations") := ⟨RX11, TX11, 12, tyX11, kcX11, by decide, tg_in 268 (by decide +kernel) (by decide +kernel), rfl, rfl, rfl⟩
theorem gX11_74 : FG RX11 74 10 10 := ⟨RX11, TX11, 12, tyX11, kcX11, by decide, Or.inl (tg_in 269 (by decide +kernel) (by decide +kernel))⟩
theorem qX11_74 : FQ RX11 74 10 10 (.object "TeleprinterTape$Confidence") := ⟨RX11, TX11, 12, tyX11, kcX11, by decide, tg_in 269 (by decide +kernel) (by decide +kernel), rfl, rfl, rfl⟩
theorem gX11_81 : FG RX11 81 10 11 := ⟨RX11, TX11, 12, tyX11, kcX11, by decide, Or.inl (tg_in 270 (by decide +kernel) (by decide +kernel))⟩
theorem qX11_81 : FQ RX11 81 10 11 (.object "TeleprinterTape$Script") := ⟨RX11, TX11, 12, tyX11, kcX11, by decide, tg_in 270 (by decide +kernel) (by decide +kernel), rfl, rfl, rfl⟩
theorem gX12_7 : FG RX12 7 11 0 := ⟨RX12, TX12, 24, tyX12, kcX12, by decide, Or.inl (tg_in 868 (by decide +kernel) (by decide +kernel))⟩
theorem qX12_7 : FQ RX12 7 11 0 (.array .int) := ⟨RX12, TX12, 24, tyX12, kcX12, by decide, tg_in 868 (by decide +kernel) (by decide +kernel), rfl, rfl, rfl⟩
theorem gX12_92 : FG RX12 92 11 1 := ⟨RX12, TX12, 24, tyX12, kcX12, by decide, Or.inl (tg_in 869 (by decide +kernel) (by decide +kernel))⟩
theorem pX12_92 : FP RX12 92 11 1 (.int) := ⟨RX12, TX12, 24, tyX12, kcX12, by decide, Or.inl (tg_in 869 (by decide +kernel) (by decide +kernel)), rfl, rfl⟩
theorem gX12_13 : FG RX12 13 11 2 := ⟨RX12, TX12, 24, tyX12, kcX12, by decide, Or.inl (tg_in 870 (by decide +kernel) (by decide +kernel))⟩
theorem qX12_13 : FQ RX12 13 11 2 (.array .int) := ⟨RX12, TX12, 24, tyX12, kcX12, by decide, tg_in 870 (by decide +kernel) (by decide +kernel), rfl, rfl, rfl⟩
theorem gX12_16 : FG RX12 16 11 3 := ⟨RX12, TX12, 24, tyX12, kcX12, by decide, Or.inl (tg_in 871 (by decide +kernel) (by decide +kernel))⟩
theorem qX12_16 : FQ RX12 16 11 3 (.array .int) := ⟨RX12, TX12, 24, tyX12, kcX12, by decide, tg_in 871 (by decide +kernel) (by decide +kernel), rfl, rfl, rfl⟩
theorem gX12_19 : FG RX12 19 11 4 := ⟨RX12, TX12, 24, tyX12, kcX12, by decide, Or.inl (tg_in 872 (by decide +kernel) (by decide +kernel))⟩
theorem qX12_19 : FQ RX12 19 11 4 (.array .int) := ⟨RX12, TX12, 24, tyX12, kcX12, by decide, tg_in 872 (by decide +kernel) (by decide +kernel), rfl, rfl, rfl⟩
theorem gX12_109 : FG RX12 109 11 5 := ⟨RX12, TX12, 24, tyX12, kcX12, by decide, Or.inl (tg_in 873 (by decide +kernel) (by decide +kernel))⟩
theorem pX12_109 : FP RX12 109 11 5 (.int) := ⟨RX12, TX12, 24, tyX12, kcX12, by decide, Or.inl (tg_in 873 (by decide +kernel) (by decide +kernel)), rfl, rfl⟩
theorem gX12_106 : FG RX12 106 11 6 := ⟨RX12, TX12, 24, tyX12, kcX12, by decide, Or.inl (tg_in 874 (by decide +kernel) (by decide +kernel))⟩
theorem pX12_106 : FP RX12 106 11 6 (.int) := ⟨RX12, TX12, 24, tyX12, kcX12, by decide, Or.inl (tg_in 874 (by decide +kernel) (by decide +kernel)), rfl, rfl⟩
theorem gX12_22 : FG RX12 22 11 7 := ⟨RX12, TX12, 24, tyX12, kcX12, by decide, Or.inl (tg_in 875 (by decide +kernel) (by decide +kernel))⟩
theorem qX12_22 : FQ RX12 22 11 7 (.array .int) := ⟨RX12, TX12, 24, tyX12, kcX12, by decide, tg_in 875 (by decide +kernel) (by decide +kernel), rfl, rfl, rfl⟩
theorem gX12_25 : FG RX12 25 11 8 := ⟨RX12, TX12, 24, tyX12, kcX12, by decide, Or.inl (tg_in 876 (by decide +kernel) (by decide +kernel))⟩
theorem qX12_25 : FQ RX12 25 11 8 (.array .boolean) := ⟨RX12, TX12, 24, tyX12, kcX12, by decide, tg_in 876 (by decide +kernel) (by decide +kernel), rfl, rfl, rfl⟩
theorem gX12_29 : FG RX12 29 11 9 := ⟨RX12, TX12, 24, tyX12, kcX12, by decide, Or.inl (tg_in 877 (by decide +kernel) (by decide +kernel))⟩
theorem qX12_29 : FQ RX12 29 11 9 (.array .int) := ⟨RX12, TX12, 24, tyX12, kcX12, by decide, tg_in 877 (by decide +kernel) (by decide +kernel), rfl, rfl, rfl⟩
theorem gX12_32 : FG RX12 32 11 10 := ⟨RX12, TX12, 24, tyX12, kcX12, by decide, Or.inl (tg_in 878 (by decide +kernel) (by decide +kernel))⟩
theorem qX12_32 : FQ RX12 32 11 10 (.array .int) := ⟨RX12, TX12, 24, tyX12, kcX12, by decide, tg_in 878 (by decide +kernel) (by decide +kernel), rfl, rfl, rfl⟩
theorem gX12_210 : FG RX12 210 11 11 := ⟨RX12, TX12, 24, tyX12, kcX12, by decide, Or.inl (tg_in 879 (by decide +kernel) (by decide +kernel))⟩
theorem pX12_210 : FP RX12 210 11 11 (.int) := ⟨RX12, TX12, 24, tyX12, kcX12, by decide, Or.inl (tg_in 879 (by decide +kernel) (by decide +kernel)), rfl, rfl⟩
theorem gX12_207 : FG RX12 207 11 12 := ⟨RX12, TX12, 24, tyX12, kcX12, by decide, Or.inl (tg_in 880 (by decide +kernel) (by decide +kernel))⟩
theorem pX12_207 : FP RX12 207 11 12 (.int) := ⟨RX12, TX12, 24, tyX12, kcX12, by decide, Or.inl (tg_in 880 (by decide +kernel) (by decide +kernel)), rfl, rfl⟩
theorem gX12_35 : FG RX12 35 11 13 := ⟨RX12, TX12, 24, tyX12, kcX12, by decide, Or.inl (tg_in 881 (by decide +kernel) (by decide +kernel))⟩
theorem qX12_35 : FQ RX12 35 11 13 (.array .int) := ⟨RX12, TX12, 24, tyX12, kcX12, by decide, tg_in 881 (by decide +kernel) (by decide +kernel), rfl, rfl, rfl⟩
theorem gX12_38 : FG RX12 38 11 14 := ⟨RX12, TX12, 24, tyX12, kcX12, by decide, Or.inl (tg_in 882 (by decide +kernel) (by decide +kernel))⟩
theorem qX12_38 : FQ RX12 38 11 14 (.array .int) := ⟨RX12, TX12, 24, tyX12, kcX12, by decide, tg_in 882 (by decide +kernel) (by decide +kernel), rfl, rfl, rfl⟩
theorem gX12_41 : FG RX12 41 11 15 := ⟨RX12, TX12, 24, tyX12, kcX12, by decide, Or.inl (tg_in 883 (by decide +kernel) (by decide +kernel))⟩
theorem qX12_41 : FQ RX12 41 11 15 (.array .int) := ⟨RX12, TX12, 24, tyX12, kcX12, by decide, tg_in 883 (by decide +kernel) (by decide +kernel), rfl, rfl, rfl⟩
theorem gX12_44 : FG RX12 44 11 16 := ⟨RX12, TX12, 24, tyX12, kcX12, by decide, Or.inl (tg_in 884 (by decide +kernel) (by decide +kernel))⟩
theorem qX12_44 : FQ RX12 44 11 16 (.array .int) := ⟨RX12, TX12, 24, tyX12, kcX12, by decide, tg_in 884 (by decide +kernel) (by decide +kernel), rfl, rfl, rfl⟩
theorem gX12_47 : FG RX12 47 11 17 := ⟨RX12, TX12, 24, tyX12, kcX12, by decide, Or.inl (tg_in 885 (by decide +kernel) (by decide +kernel))⟩
theorem qX12_47 : FQ RX12 47 11 17 (.array .int) := ⟨RX12, TX12, 24, tyX12, kcX12, by decide, tg_in 885 (by decide +kernel) (by decide +kernel), rfl, rfl, rfl⟩
theorem gX12_83 : FG RX12 83 11 18 := ⟨RX12, TX12, 24, tyX12, kcX12, by decide, Or.inl (tg_in 886 (by decide +kernel) (by decide +kernel))⟩
theorem pX12_83 : FP RX12 83 11 18 (.int) := ⟨RX12, TX12, 24, tyX12, kcX12, by decide, Or.inl (tg_in 886 (by decide +kernel) (by decide +kernel)), rfl, rfl⟩
theorem gX12_50 : FG RX12 50 11 19 := ⟨RX12, TX12, 24, tyX12, kcX12, by decide, Or.inl (tg_in 887 (by decide +kernel) (by decide +kernel))⟩
theorem qX12_50 : FQ RX12 50 11 19 (.array .int) := ⟨RX12, TX12, 24, tyX12, kcX12, by decide, tg_in 887 (by decide +kernel) (by decide +kernel), rfl, rfl, rfl⟩
theorem gX12_87 : FG RX12 87 11 20 := ⟨RX12, TX12, 24, tyX12, kcX12, by decide, Or.inl (tg_in 888 (by decide +kernel) (by decide +kernel))⟩
theorem pX12_87 : FP RX12 87 11 20 (.int) := ⟨RX12, TX12, 24, tyX12, kcX12, by decide, Or.inl (tg_in 888 (by decide +kernel) (by decide +kernel)), rfl, rfl⟩
theorem gX12_53 : FG RX12 53 11 21 := ⟨RX12, TX12, 24, tyX12, kcX12, by decide, Or.inl (tg_in 889 (by decide +kernel) (by decide +kernel))⟩
theorem qX12_53 : FQ RX12 53 11 21 (.array .int) := ⟨RX12, TX12, 24, tyX12, kcX12, by decide, tg_in 889 (by decide +kernel) (by decide +kernel), rfl, rfl, rfl⟩
theorem gX12_163 : FG RX12 163 11 22 := ⟨RX12, TX12, 24, tyX12, kcX12, by decide, Or.inl (tg_in 890 (by decide +kernel) (by decide +kernel))⟩
theorem pX12_163 : FP RX12 163 11 22 (.int) := ⟨RX12, TX12, 24, tyX12, kcX12, by decide, Or.inl (tg_in 890 (by decide +kernel) (by decide +kernel)), rfl, rfl⟩
theorem gX12_56 : FG RX12 56 11 23 := ⟨RX12, TX12, 24, tyX12, kcX12, by decide, Or.inl (tg_in 891 (by decide +kernel) (by decide +kernel))⟩
theorem qX12_56 : FQ RX12 56 11 23 (.array .int) := ⟨RX12, TX12, 24, tyX12, kcX12, by decide, tg_in 891 (by decide +kernel) (by decide +kernel), rfl, rfl, rfl⟩
def mX0_dependsOnCase : MT := (yX0_dependsOnCase, cX0_dependsOnCase, 1, (some .boolean), { frames := 0, cells := 0, slots := 0, locals := 0 })
set_option maxRecDepth 100000 in
theorem eX0_dependsOnCase : Cond.code (mY mX0_dependsOnCase) (mB mX0_dependsOnCase) (mN mX0_dependsOnCase) (mR mX0_dependsOnCase) ∈ lw_tg := tg_in 457 rfl rfl
theorem kX0_dependsOnCase : MS mX0_dependsOnCase 1 := ⟨⟨eX0_dependsOnCase, tg_in 42 (by decide +kernel) (by decide +kernel), ⟨by decide +kernel, by decide +kernel⟩, by decide +kernel⟩, tg_in 456 (by decide +kernel) (by decide +kernel)⟩
theorem zX0_dependsOnCase : CZ mX0_dependsOnCase := ⟨rfl, rfl⟩
def mX0_isShift : MT := (yX0_isShift, cX0_isShift, 1, (some .boolean), { frames := 0, cells := 0, slots := 0, locals := 0 })
set_option maxRecDepth 100000 in
theorem eX0_isShift : Cond.code (mY mX0_isShift) (mB mX0_isShift) (mN mX0_isShift) (mR mX0_isShift) ∈ lw_tg := tg_in 632 rfl rfl
theorem kX0_isShift : MS mX0_isShift 1 := ⟨⟨eX0_isShift, tg_in 42 (by decide +kernel) (by decide +kernel), ⟨by decide +kernel, by decide +kernel⟩, by decide +kernel⟩, tg_in 631 (by decide +kernel) (by decide +kernel)⟩
theorem zX0_isShift : CZ mX0_isShift := ⟨rfl, rfl⟩
def mX0_shiftTo : MT := (yX0_shiftTo, cX0_shiftTo, 1, (some .int), { frames := 0, cells := 0, slots := 0, locals := 0 })
set_option maxRecDepth 100000 in
theorem eX0_shiftTo : Cond.code (mY mX0_shiftTo) (mB mX0_shiftTo) (mN mX0_shiftTo) (mR mX0_shiftTo) ∈ lw_tg := tg_in 560 rfl rfl
theorem kX0_shiftTo : MS mX0_shiftTo 1 := ⟨⟨eX0_shiftTo, tg_in 42 (by decide +kernel) (by decide +kernel), ⟨by decide +kernel, by decide +kernel⟩, by decide +kernel⟩, tg_in 559 (by decide +kernel) (by decide +kernel)⟩
theorem zX0_shiftTo : CZ mX0_shiftTo := ⟨rfl, rfl⟩
def mX0_caseAfter : MT := (yX0_caseAfter, cX0_caseAfter, 3, (some .int), { frames := 0, cells := 0, slots := 0, locals := 0 })
set_option maxRecDepth 100000 in
theorem eX0_caseAfter : Cond.code (mY mX0_caseAfter) (mB mX0_caseAfter) (mN mX0_caseAfter) (mR mX0_caseAfter) ∈ lw_tg := tg_in 442 rfl rfl
theorem kX0_caseAfter : MS mX0_caseAfter 3 := ⟨⟨eX0_caseAfter, tg_in 42 (by decide +kernel) (by decide +kernel), ⟨by decide +kernel, by decide +kernel⟩, by decide +kernel⟩, tg_in 441 (by decide +kernel) (by decide +kernel)⟩
theorem zX0_caseAfter : CZ mX0_caseAfter := ⟨rfl, rfl⟩
def mX0_printed : MT := (yX0_printed, cX0_printed, 2, (some .int), { frames := 4, cells := 0, slots := 0, locals := 85 })
set_option maxRecDepth 100000 in
theorem eX0_printed : Cond.code (mY mX0_printed) (mB mX0_printed) (mN mX0_printed) (mR mX0_printed) ∈ lw_tg := tg_in 454 rfl rfl
theorem kX0_printed : MS mX0_printed 2 := ⟨⟨eX0_printed, tg_in 42 (by decide +kernel) (by decide +kernel), ⟨by decide +kernel, by decide +kernel⟩, by decide +kernel⟩, tg_in 453 (by decide +kernel) (by decide +kernel)⟩
theorem zX0_printed : CZ mX0_printed := ⟨rfl, rfl⟩
def mX0_of : MT := (yX0_of, cX0_of, 2, (some .int), { frames := 4, cells := 0, slots := 0, locals := 91 })
set_option maxRecDepth 100000 in
theorem eX0_of : Cond.code (mY mX0_of) (mB mX0_of) (mN mX0_of) (mR mX0_of) ∈ lw_tg := tg_in 321 rfl rfl
theorem kX0_of : MS mX0_of 1 := ⟨⟨eX0_of, tg_in 42 (by decide +kernel) (by decide +kernel), ⟨by decide +kernel, by decide +kernel⟩, by decide +kernel⟩, tg_in 320 (by decide +kernel) (by decide +kernel)⟩
theorem zX0_of : CZ mX0_of := ⟨rfl, rfl⟩
def mX0_caseFor : MT := (yX0_caseFor, cX0_caseFor, 1, (some .int), { frames := 4, cells := 0, slots := 0, locals := 91 })
set_option maxRecDepth 100000 in
theorem eX0_caseFor : Cond.code (mY mX0_caseFor) (mB mX0_caseFor) (mN mX0_caseFor) (mR mX0_caseFor) ∈ lw_tg := tg_in 557 rfl rfl
theorem kX0_caseFor : MS mX0_caseFor 1 := ⟨⟨eX0_caseFor, tg_in 42 (by decide +kernel) (by decide +kernel), ⟨by decide +kernel, by decide +kernel⟩, by decide +kernel⟩, tg_in 556 (by decide +kernel) (by decide +kernel)⟩
theorem zX0_caseFor : CZ mX0_caseFor := ⟨rfl, rfl⟩
def mX1_init : MT := (yX1_init, cX1_init, 1, none, { frames := 1, cells := 0, slots := 0, locals := 24 })
set_option maxRecDepth 100000 in
theorem eX1_init : Cond.code (mY mX1_init) (mB mX1_init) (mN mX1_init) (mR mX1_init) ∈ lw_tg := tg_in 229 rfl rfl
theorem kX1_init : MI mX1_init 0 := ⟨⟨eX1_init, tg_in 39 (by decide +kernel) (by decide +kernel), ⟨by decide +kernel, by decide +kernel⟩, by decide +kernel⟩, tg_in 228 (by decide +kernel) (by decide +kernel), rfl, rfl⟩
theorem zX1_init : CZ mX1_init := ⟨rfl, rfl⟩
def mX1_reckon : MT := (yX1_reckon, cX1_reckon, 7, (some .boolean), { frames := 3, cells := 0, slots := 0, locals := 67 })
set_option maxRecDepth 100000 in
theorem eX1_reckon : Cond.code (mY mX1_reckon) (mB mX1_reckon) (mN mX1_reckon) (mR mX1_reckon) ∈ lw_tg := tg_in 745 rfl rfl
theorem kX1_reckon : MV mX1_reckon 3 := ⟨⟨eX1_reckon, tg_in 39 (by decide +kernel) (by decide +kernel), ⟨by decide +kernel, by decide +kernel⟩, by decide +kernel⟩, tg_in 743 (by decide +kernel) (by decide +kernel), tg_in 744 (by decide +kernel) (by decide +kernel)⟩
theorem zX1_reckon : CZ mX1_reckon := ⟨rfl, rfl⟩
def mX1_passShift : MT := (yX1_passShift, cX1_passShift, 3, none, { frames := 0, cells := 0, slots := 0, locals := 0 })
set_option maxRecDepth 100000 in
theorem eX1_passShift : Cond.code (mY mX1_passShift) (mB mX1_passShift) (mN mX1_passShift) (mR mX1_passShift) ∈ lw_tg := tg_in 751 rfl rfl
theorem kX1_passShift : MV mX1_passShift 2 := ⟨⟨eX1_passShift, tg_in 39 (by decide +kernel) (by decide +kernel), ⟨by decide +kernel, by decide +kernel⟩, by decide +kernel⟩, tg_in 750 (by decide +kernel) (by decide +kernel), tg_in 12 (by decide +kernel) (by decide +kernel)⟩
theorem zX1_passShift : CZ mX1_passShift := ⟨rfl, rfl⟩
def mX1_reduce : MT := (yX1_reduce, cX1_reduce, 2, none, { frames := 0, cells := 0, slots := 0, locals := 0 })
set_option maxRecDepth 100000 in
theorem eX1_reduce : Cond.code (mY mX1_reduce) (mB mX1_reduce) (mN mX1_reduce) (mR mX1_reduce) ∈ lw_tg := tg_in 758 rfl rfl
theorem kX1_reduce : MV mX1_reduce 0 := ⟨⟨eX1_reduce, tg_in 39 (by decide +kernel) (by decide +kernel), ⟨by decide +kernel, by decide +kernel⟩, by decide +kernel⟩, tg_in 757 (by decide +kernel) (by decide +kernel), tg_in 13 (by decide +kernel) (by decide +kernel)⟩
theorem zX1_reduce : CZ mX1_reduce := ⟨rfl, rfl⟩
def mX2_init : MT := (yX2_init, cX2_init, 2, none, { frames := 2, cells := 29, slots := 1428, locals := 44 })
set_option maxRecDepth 100000 in
theorem eX2_init : Cond.code (mY mX2_init) (mB mX2_init) (mN mX2_init) (mR mX2_init) ∈ lw_tg := tg_in 134 rfl rfl
theorem kX2_init : MI mX2_init 0 := ⟨⟨eX2_init, tg_in 34 (by decide +kernel) (by decide +kernel), ⟨by decide +kernel, by decide +kernel⟩, by decide +kernel⟩, tg_in 133 (by decide +kernel) (by decide +kernel), rfl, rfl⟩
def mX2_remember : MT := (yX2_remember, cX2_remember, 3, none, { frames := 2, cells := 0, slots := 0, locals := 61 })
set_option maxRecDepth 100000 in
theorem eX2_remember : Cond.code (mY mX2_remember) (mB mX2_remember) (mN mX2_remember) (mR mX2_remember) ∈ lw_tg := tg_in 503 rfl rfl
theorem kX2_remember : MV mX2_remember 1 := ⟨⟨eX2_remember, tg_in 34 (by decide +kernel) (by decide +kernel), ⟨by decide +kernel, by decide +kernel⟩, by decide +kernel⟩, tg_in 501 (by decide +kernel) (by decide +kernel), tg_in 502 (by decide +kernel) (by decide +kernel)⟩
theorem zX2_remember : CZ mX2_remember := ⟨rfl, rfl⟩
def mX2_bringBack : MT := (yX2_bringBack, cX2_bringBack, 4, (some .boolean), { frames := 2, cells := 0, slots := 0, locals := 61 })
set_option maxRecDepth 100000 in
theorem eX2_bringBack : Cond.code (mY mX2_bringBack) (mB mX2_bringBack) (mN mX2_bringBack) (mR mX2_bringBack) ∈ lw_tg := tg_in 681 rfl rfl
theorem kX2_bringBack : MV mX2_bringBack 1 := ⟨⟨eX2_bringBack, tg_in 34 (by decide +kernel) (by decide +kernel), ⟨by decide +kernel, by decide +kernel⟩, by decide +kernel⟩, tg_in 679 (by decide +kernel) (by decide +kernel), tg_in 680 (by decide +kernel) (by decide +kernel)⟩
theorem zX2_bringBack : CZ mX2_bringBack := ⟨rfl, rfl⟩
def mX2_stateAt : MT := (yX2_stateAt, cX2_stateAt, 2, (some (.object "TeleprinterTape$Tape")), { frames := 0, cells := 0, slots := 0, locals := 0 })
set_option maxRecDepth 100000 in
theorem eX2_stateAt : Cond.code (mY mX2_stateAt) (mB mX2_stateAt) (mN mX2_stateAt) (mR mX2_stateAt) ∈ lw_tg := tg_in 507 rfl rfl
theorem kX2_stateAt : MV mX2_stateAt 1 := ⟨⟨eX2_stateAt, tg_in 34 (by decide +kernel) (by decide +kernel), ⟨by decide +kernel, by decide +kernel⟩, by decide +kernel⟩, tg_in 506 (by decide +kernel) (by decide +kernel), tg_in 0 (by decide +kernel) (by decide +kernel)⟩
theorem zX2_stateAt : CZ mX2_stateAt := ⟨rfl, rfl⟩
def mX2_forgetAll : MT := (yX2_forgetAll, cX2_forgetAll, 1, none, { frames := 0, cells := 0, slots := 0, locals := 0 })
set_option maxRecDepth 100000 in
theorem eX2_forgetAll : Cond.code (mY mX2_forgetAll) (mB mX2_forgetAll) (mN mX2_forgetAll) (mR mX2_forgetAll) ∈ lw_tg := tg_in 848 rfl rfl
theorem kX2_forgetAll : MV mX2_forgetAll 0 := ⟨⟨eX2_forgetAll, tg_in 34 (by decide +kernel) (by decide +kernel), ⟨by decide +kernel, by decide +kernel⟩, by decide +kernel⟩, tg_in 846 (by decide +kernel) (by decide +kernel), tg_in 847 (by decide +kernel) (by decide +kernel)⟩
theorem zX2_forgetAll : CZ mX2_forgetAll := ⟨rfl, rfl⟩
def mX3_init : MT := (yX3_init, cX3_init, 1, none, { frames := 1, cells := 1, slots := 60, locals := 24 })
set_option maxRecDepth 100000 in
theorem eX3_init : Cond.code (mY mX3_init) (mB mX3_init) (mN mX3_init) (mR mX3_init) ∈ lw_tg := tg_in 119 rfl rfl
theorem kX3_init : MI mX3_init 0 := ⟨⟨eX3_init, tg_in 33 (by decide +kernel) (by decide +kernel), ⟨by decide +kernel, by decide +kernel⟩, by decide +kernel⟩, tg_in 118 (by decide +kernel) (by decide +kernel), rfl, rfl⟩
def mX3_add : MT := (yX3_add, cX3_add, 2, (some .boolean), { frames := 0, cells := 0, slots := 0, locals := 0 })
set_option maxRecDepth 100000 in
theorem eX3_add : Cond.code (mY mX3_add) (mB mX3_add) (mN mX3_add) (mR mX3_add) ∈ lw_tg := tg_in 306 rfl rfl
theorem kX3_add : MV mX3_add 1 := ⟨⟨eX3_add, tg_in 33 (by decide +kernel) (by decide +kernel), ⟨by decide +kernel, by decide +kernel⟩, by decide +kernel⟩, tg_in 304 (by decide +kernel) (by decide +kernel), tg_in 305 (by decide +kernel) (by decide +kernel)⟩
theorem zX3_add : CZ mX3_add := ⟨rfl, rfl⟩
def mX3_at : MT := (yX3_at, cX3_at, 2, (some .int), { frames := 0, cells := 0, slots := 0, locals := 0 })
set_option maxRecDepth 100000 in
theorem eX3_at : Cond.code (mY mX3_at) (mB mX3_at) (mN mX3_at) (mR mX3_at) ∈ lw_tg := tg_in 546 rfl rfl
theorem kX3_at : MV mX3_at 1 := ⟨⟨eX3_at, tg_in 33 (by decide +kernel) (by decide +kernel), ⟨by decide +kernel, by decide +kernel⟩, by decide +kernel⟩, tg_in 544 (by decide +kernel) (by decide +kernel), tg_in 545 (by decide +kernel) (by decide +kernel)⟩
theorem zX3_at : CZ mX3_at := ⟨rfl, rfl⟩
def mX3_firstNotEncodable : MT := (yX3_firstNotEncodable, cX3_firstNotEncodable, 2, (some .int), { frames := 5, cells := 0, slots := 0, locals := 112 })
set_option maxRecDepth 100000 in
theorem eX3_firstNotEncodable : Cond.code (mY mX3_firstNotEncodable) (mB mX3_firstNotEncodable) (mN mX3_firstNotEncodable) (mR mX3_firstNotEncodable) ∈ lw_tg := tg_in 318 rfl rfl
theorem kX3_firstNotEncodable : MV mX3_firstNotEncodable 0 := ⟨⟨eX3_firstNotEncodable, tg_in 33 (by decide +kernel) (by decide +kernel), ⟨by decide +kernel, by decide +kernel⟩, by decide +kernel⟩, tg_in 316 (by decide +kernel) (by decide +kernel), tg_in 317 (by decide +kernel) (by decide +kernel)⟩
theorem zX3_firstNotEncodable : CZ mX3_firstNotEncodable := ⟨rfl, rfl⟩
def mX3_isEncodable : MT := (yX3_isEncodable, cX3_isEncodable, 1, (some .boolean), { frames := 6, cells := 0, slots := 0, locals := 133 })
set_option maxRecDepth 100000 in
theorem eX3_isEncodable : Cond.code (mY mX3_isEncodable) (mB mX3_isEncodable) (mN mX3_isEncodable) (mR mX3_isEncodable) ∈ lw_tg := tg_in 531 rfl rfl
theorem kX3_isEncodable : MV mX3_isEncodable 0 := ⟨⟨eX3_isEncodable, tg_in 33 (by decide +kernel) (by decide +kernel), ⟨by decide +kernel, by decide +kernel⟩, by decide +kernel⟩, tg_in 529 (by decide +kernel) (by decide +kernel), tg_in 530 (by decide +kernel) (by decide +kernel)⟩
theorem zX3_isEncodable : CZ mX3_isEncodable := ⟨rfl, rfl⟩
def mX3_isBetweenWords : MT := (yX3_isBetweenWords, cX3_isBetweenWords, 3, (some .boolean), { frames := 0, cells := 0, slots := 0, locals := 0 })
set_option maxRecDepth 100000 in
theorem eX3_isBetweenWords : Cond.code (mY mX3_isBetweenWords) (mB mX3_isBetweenWords) (mN mX3_isBetweenWords) (mR mX3_isBetweenWords) ∈ lw_tg := tg_in 588 rfl rfl
theorem kX3_isBetweenWords : MV mX3_isBetweenWords 1 := ⟨⟨eX3_isBetweenWords, tg_in 33 (by decide +kernel) (by decide +kernel), ⟨by decide +kernel, by decide +kernel⟩, by decide +kernel⟩, tg_in 586 (by decide +kernel) (by decide +kernel), tg_in 587 (by decide +kernel) (by decide +kernel)⟩
theorem zX3_isBetweenWords : CZ mX3_isBetweenWords := ⟨rfl, rfl⟩
def mX3_beginsWord : MT := (yX3_beginsWord, cX3_beginsWord, 2, (some .boolean), { frames := 1, cells := 0, slots := 0, locals := 22 })
set_option maxRecDepth 100000 in
theorem eX3_beginsWord : Cond.code (mY mX3_beginsWord) (mB mX3_beginsWord) (mN mX3_beginsWord) (mR mX3_beginsWord) ∈ lw_tg := tg_in 584 rfl rfl
theorem kX3_beginsWord : MV mX3_beginsWord 1 := ⟨⟨eX3_beginsWord, tg_in 33 (by decide +kernel) (by decide +kernel), ⟨by decide +kernel, by decide +kernel⟩, by decide +kernel⟩, tg_in 582 (by decide +kernel) (by decide +kernel), tg_in 583 (by decide +kernel) (by decide +kernel)⟩
theorem zX3_beginsWord : CZ mX3_beginsWord := ⟨rfl, rfl⟩
def mX3_endOfWord : MT := (yX3_endOfWord, cX3_endOfWord, 3, (some .int), { frames := 1, cells := 0, slots := 0, locals := 22 })
set_option maxRecDepth 100000 in
theorem eX3_endOfWord : Cond.code (mY mX3_endOfWord) (mB mX3_endOfWord) (mN mX3_endOfWord) (mR mX3_endOfWord) ∈ lw_tg := tg_in 592 rfl rfl
theorem kX3_endOfWord : MV mX3_endOfWord 1 := ⟨⟨eX3_endOfWord, tg_in 33 (by decide +kernel) (by decide +kernel), ⟨by decide +kernel, by decide +kernel⟩, by decide +kernel⟩, tg_in 590 (by decide +kernel) (by decide +kernel), tg_in 591 (by decide +kernel) (by decide +kernel)⟩
theorem zX3_endOfWord : CZ mX3_endOfWord := ⟨rfl, rfl⟩
def mX3_canBeReadFrom : MT := (yX3_canBeReadFrom, cX3_canBeReadFrom, 6, (some .boolean), { frames := 5, cells := 0, slots := 0, locals := 112 })
set_option maxRecDepth 100000 in
theorem eX3_canBeReadFrom : Cond.code (mY mX3_canBeReadFrom) (mB mX3_canBeReadFrom) (mN mX3_canBeReadFrom) (mR mX3_canBeReadFrom) ∈ lw_tg := tg_in 647 rfl rfl
theorem kX3_canBeReadFrom : MV mX3_canBeReadFrom 2 := ⟨⟨eX3_canBeReadFrom, tg_in 33 (by decide +kernel) (by decide +kernel), ⟨by decide +kernel, by decide +kernel⟩, by decide +kernel⟩, tg_in 645 (by decide +kernel) (by decide +kernel), tg_in 646 (by decide +kernel) (by decide +kernel)⟩
theorem zX3_canBeReadFrom : CZ mX3_canBeReadFrom := ⟨rfl, rfl⟩
def mX4_init : MT := (yX4_init, cX4_init, 1, none, { frames := 1, cells := 2, slots := 12, locals := 24 })
set_option maxRecDepth 100000 in
theorem eX4_init : Cond.code (mY mX4_init) (mB mX4_init) (mN mX4_init) (mR mX4_init) ∈ lw_tg := tg_in 209 rfl rfl
theorem kX4_init : MI mX4_init 0 := ⟨⟨eX4_init, tg_in 38 (by decide +kernel) (by decide +kernel), ⟨by decide +kernel, by decide +kernel⟩, by decide +kernel⟩, tg_in 208 (by decide +kernel) (by decide +kernel), rfl, rfl⟩
def mX4_keep : MT := (yX4_keep, cX4_keep, 3, none, { frames := 1, cells := 0, slots := 0, locals := 21 })
set_option maxRecDepth 100000 in
theorem eX4_keep : Cond.code (mY mX4_keep) (mB mX4_keep) (mN mX4_keep) (mR mX4_keep) ∈ lw_tg := tg_in 800 rfl rfl
theorem kX4_keep : MV mX4_keep 2 := ⟨⟨eX4_keep, tg_in 38 (by decide +kernel) (by decide +kernel), ⟨by decide +kernel, by decide +kernel⟩, by decide +kernel⟩, tg_in 798 (by decide +kernel) (by decide +kernel), tg_in 799 (by decide +kernel) (by decide +kernel)⟩
theorem zX4_keep : CZ mX4_keep := ⟨rfl, rfl⟩
def mX4_holdFor : MT := (yX4_holdFor, cX4_holdFor, 3, (some .boolean), { frames := 2, cells := 0, slots := 0, locals := 42 })
set_option maxRecDepth 100000 in
theorem eX4_holdFor : Cond.code (mY mX4_holdFor) (mB mX4_holdFor) (mN mX4_holdFor) (mR mX4_holdFor) ∈ lw_tg := tg_in 809 rfl rfl
theorem kX4_holdFor : MV mX4_holdFor 1 := ⟨⟨eX4_holdFor, tg_in 38 (by decide +kernel) (by decide +kernel), ⟨by decide +kernel, by decide +kernel⟩, by decide +kernel⟩, tg_in 807 (by decide +kernel) (by decide +kernel), tg_in 808 (by decide +kernel) (by decide +kernel)⟩
theorem zX4_holdFor : CZ mX4_holdFor := ⟨rfl, rfl⟩
def mX5_init : MT := (yX5_init, cX5_init, 1, none, { frames := 1, cells := 1, slots := 320, locals := 24 })
set_option maxRecDepth 100000 in
theorem eX5_init : Cond.code (mY mX5_init) (mB mX5_init) (mN mX5_init) (mR mX5_init) ∈ lw_tg := tg_in 189 rfl rfl
theorem kX5_init : MI mX5_init 0 := ⟨⟨eX5_init, tg_in 37 (by decide +kernel) (by decide +kernel), ⟨by decide +kernel, by decide +kernel⟩, by decide +kernel⟩, tg_in 188 (by decide +kernel) (by decide +kernel), rfl, rfl⟩
def mX5_print : MT := (yX5_print, cX5_print, 4, none, { frames := 3, cells := 0, slots := 0, locals := 84 })
set_option maxRecDepth 100000 in
theorem eX5_print : Cond.code (mY mX5_print) (mB mX5_print) (mN mX5_print) (mR mX5_print) ∈ lw_tg := tg_in 693 rfl rfl
theorem kX5_print : MV mX5_print 2 := ⟨⟨eX5_print, tg_in 37 (by decide +kernel) (by decide +kernel), ⟨by decide +kernel, by decide +kernel⟩, by decide +kernel⟩, tg_in 691 (by decide +kernel) (by decide +kernel), tg_in 692 (by decide +kernel) (by decide +kernel)⟩
theorem zX5_print : CZ mX5_print := ⟨rfl, rfl⟩
def mX5_at : MT := (yX5_at, cX5_at, 4, (some .int), { frames := 0, cells := 0, slots := 0, locals := 0 })
set_option maxRecDepth 100000 in
theorem eX5_at : Cond.code (mY mX5_at) (mB mX5_at) (mN mX5_at) (mR mX5_at) ∈ lw_tg := tg_in 715 rfl rfl
theorem kX5_at : MV mX5_at 2 := ⟨⟨eX5_at, tg_in 37 (by decide +kernel) (by decide +kernel), ⟨by decide +kernel, by decide +kernel⟩, by decide +kernel⟩, tg_in 713 (by decide +kernel) (by decide +kernel), tg_in 714 (by decide +kernel) (by decide +kernel)⟩
theorem zX5_at : CZ mX5_at := ⟨rfl, rfl⟩
def mX5_printCharacter : MT := (yX5_printCharacter, cX5_printCharacter, 3, none, { frames := 2, cells := 0, slots := 0, locals := 62 })
set_option maxRecDepth 100000 in
theorem eX5_printCharacter : Cond.code (mY mX5_printCharacter) (mB mX5_printCharacter) (mN mX5_printCharacter) (mR mX5_printCharacter) ∈ lw_tg := tg_in 701 rfl rfl
theorem kX5_printCharacter : MV mX5_printCharacter 2 := ⟨⟨eX5_printCharacter, tg_in 37 (by decide +kernel) (by decide +kernel), ⟨by decide +kernel, by decide +kernel⟩, by decide +kernel⟩, tg_in 700 (by decide +kernel) (by decide +kernel), tg_in 8 (by decide +kernel) (by decide +kernel)⟩
theorem zX5_printCharacter : CZ mX5_printCharacter := ⟨rfl, rfl⟩
def mX5_feedLine : MT := (yX5_feedLine, cX5_feedLine, 3, none, { frames := 1, cells := 0, slots := 0, locals := 40 })
set_option maxRecDepth 100000 in
theorem eX5_feedLine : Cond.code (mY mX5_feedLine) (mB mX5_feedLine) (mN mX5_feedLine) (mR mX5_feedLine) ∈ lw_tg := tg_in 705 rfl rfl
theorem kX5_feedLine : MV mX5_feedLine 0 := ⟨⟨eX5_feedLine, tg_in 37 (by decide +kernel) (by decide +kernel), ⟨by decide +kernel, by decide +kernel⟩, by decide +kernel⟩, tg_in 704 (by decide +kernel) (by decide +kernel), tg_in 9 (by decide +kernel) (by decide +kernel)⟩
theorem zX5_feedLine : CZ mX5_feedLine := ⟨rfl, rfl⟩
def mX5_strike : MT := (yX5_strike, cX5_strike, 3, none, { frames := 0, cells := 0, slots := 0, locals := 0 })
set_option maxRecDepth 100000 in
theorem eX5_strike : Cond.code (mY mX5_strike) (mB mX5_strike) (mN mX5_strike) (mR mX5_strike) ∈ lw_tg := tg_in 710 rfl rfl
theorem kX5_strike : MV mX5_strike 1 := ⟨⟨eX5_strike, tg_in 37 (by decide +kernel) (by decide +kernel), ⟨by decide +kernel, by decide +kernel⟩, by decide +kernel⟩, tg_in 709 (by decide +kernel) (by decide +kernel), tg_in 10 (by decide +kernel) (by decide +kernel)⟩
theorem zX5_strike : CZ mX5_strike := ⟨rfl, rfl⟩
def mX6_init : MT := (yX6_init, cX6_init, 1, none, { frames := 2, cells := 2, slots := 101, locals := 44 })
set_option maxRecDepth 100000 in
theorem eX6_init : Cond.code (mY mX6_init) (mB mX6_init) (mN mX6_init) (mR mX6_init) ∈ lw_tg := tg_in 99 rfl rfl
theorem kX6_init : MI mX6_init 0 := ⟨⟨eX6_init, tg_in 32 (by decide +kernel) (by decide +kernel), ⟨by decide +kernel, by decide +kernel⟩, by decide +kernel⟩, tg_in 98 (by decide +kernel) (by decide +kernel), rfl, rfl⟩
def mX6_beginBehind : MT := (yX6_beginBehind, cX6_beginBehind, 2, none, { frames := 3, cells := 0, slots := 0, locals := 67 })
set_option maxRecDepth 100000 in
theorem eX6_beginBehind : Cond.code (mY mX6_beginBehind) (mB mX6_beginBehind) (mN mX6_beginBehind) (mR mX6_beginBehind) ∈ lw_tg := tg_in 536 rfl rfl
theorem kX6_beginBehind : MV mX6_beginBehind 1 := ⟨⟨eX6_beginBehind, tg_in 32 (by decide +kernel) (by decide +kernel), ⟨by decide +kernel, by decide +kernel⟩, by decide +kernel⟩, tg_in 534 (by decide +kernel) (by decide +kernel), tg_in 535 (by decide +kernel) (by decide +kernel)⟩
theorem zX6_beginBehind : CZ mX6_beginBehind := ⟨rfl, rfl⟩
def mX6_beginAnew : MT := (yX6_beginAnew, cX6_beginAnew, 2, none, { frames := 1, cells := 0, slots := 0, locals := 21 })
set_option maxRecDepth 100000 in
theorem eX6_beginAnew : Cond.code (mY mX6_beginAnew) (mB mX6_beginAnew) (mN mX6_beginAnew) (mR mX6_beginAnew) ∈ lw_tg := tg_in 654 rfl rfl
theorem kX6_beginAnew : MV mX6_beginAnew 1 := ⟨⟨eX6_beginAnew, tg_in 32 (by decide +kernel) (by decide +kernel), ⟨by decide +kernel, by decide +kernel⟩, by decide +kernel⟩, tg_in 652 (by decide +kernel) (by decide +kernel), tg_in 653 (by decide +kernel) (by decide +kernel)⟩
theorem zX6_beginAnew : CZ mX6_beginAnew := ⟨rfl, rfl⟩
def mX6_put : MT := (yX6_put, cX6_put, 2, none, { frames := 1, cells := 0, slots := 0, locals := 22 })
set_option maxRecDepth 100000 in
theorem eX6_put : Cond.code (mY mX6_put) (mB mX6_put) (mN mX6_put) (mR mX6_put) ∈ lw_tg := tg_in 564 rfl rfl
theorem kX6_put : MV mX6_put 1 := ⟨⟨eX6_put, tg_in 32 (by decide +kernel) (by decide +kernel), ⟨by decide +kernel, by decide +kernel⟩, by decide +kernel⟩, tg_in 563 (by decide +kernel) (by decide +kernel), tg_in 3 (by decide +kernel) (by decide +kernel)⟩
theorem zX6_put : CZ mX6_put := ⟨rfl, rfl⟩
def mX6_shiftFor : MT := (yX6_shiftFor, cX6_shiftFor, 3, none, { frames := 5, cells := 0, slots := 0, locals := 111 })
set_option maxRecDepth 100000 in
theorem eX6_shiftFor : Cond.code (mY mX6_shiftFor) (mB mX6_shiftFor) (mN mX6_shiftFor) (mR mX6_shiftFor) ∈ lw_tg := tg_in 554 rfl rfl
theorem kX6_shiftFor : MV mX6_shiftFor 1 := ⟨⟨eX6_shiftFor, tg_in 32 (by decide +kernel) (by decide +kernel), ⟨by decide +kernel, by decide +kernel⟩, by decide +kernel⟩, tg_in 553 (by decide +kernel) (by decide +kernel), tg_in 2 (by decide +kernel) (by decide +kernel)⟩
theorem zX6_shiftFor : CZ mX6_shiftFor := ⟨rfl, rfl⟩
def mX6_encode : MT := (yX6_encode, cX6_encode, 2, none, { frames := 6, cells := 0, slots := 0, locals := 133 })
set_option maxRecDepth 100000 in
theorem eX6_encode : Cond.code (mY mX6_encode) (mB mX6_encode) (mN mX6_encode) (mR mX6_encode) ∈ lw_tg := tg_in 550 rfl rfl
theorem kX6_encode : MV mX6_encode 1 := ⟨⟨eX6_encode, tg_in 32 (by decide +kernel) (by decide +kernel), ⟨by decide +kernel, by decide +kernel⟩, by decide +kernel⟩, tg_in 549 (by decide +kernel) (by decide +kernel), tg_in 1 (by decide +kernel) (by decide +kernel)⟩
theorem zX6_encode : CZ mX6_encode := ⟨rfl, rfl⟩
def mX6_encodeRun : MT := (yX6_encodeRun, cX6_encodeRun, 5, none, { frames := 7, cells := 0, slots := 0, locals := 154 })
set_option maxRecDepth 100000 in
theorem eX6_encodeRun : Cond.code (mY mX6_encodeRun) (mB mX6_encodeRun) (mN mX6_encodeRun) (mR mX6_encodeRun) ∈ lw_tg := tg_in 542 rfl rfl
theorem kX6_encodeRun : MV mX6_encodeRun 3 := ⟨⟨eX6_encodeRun, tg_in 32 (by decide +kernel) (by decide +kernel), ⟨by decide +kernel, by decide +kernel⟩, by decide +kernel⟩, tg_in 540 (by decide +kernel) (by decide +kernel), tg_in 541 (by decide +kernel) (by decide +kernel)⟩
theorem zX6_encodeRun : CZ mX6_encodeRun := ⟨rfl, rfl⟩
def mX6_encodeWords : MT := (yX6_encodeWords, cX6_encodeWords, 6, none, { frames := 8, cells := 0, slots := 0, locals := 178 })
set_option maxRecDepth 100000 in
theorem eX6_encodeWords : Cond.code (mY mX6_encodeWords) (mB mX6_encodeWords) (mN mX6_encodeWords) (mR mX6_encodeWords) ∈ lw_tg := tg_in 580 rfl rfl
theorem kX6_encodeWords : MV mX6_encodeWords 2 := ⟨⟨eX6_encodeWords, tg_in 32 (by decide +kernel) (by decide +kernel), ⟨by decide +kernel, by decide +kernel⟩, by decide +kernel⟩, tg_in 578 (by decide +kernel) (by decide +kernel), tg_in 579 (by decide +kernel) (by decide +kernel)⟩
theorem zX6_encodeWords : CZ mX6_encodeWords := ⟨rfl, rfl⟩
def mX6_placeWord : MT := (yX6_placeWord, cX6_placeWord, 4, (some .int), { frames := 7, cells := 0, slots := 0, locals := 154 })
set_option maxRecDepth 100000 in
theorem eX6_placeWord : Cond.code (mY mX6_placeWord) (mB mX6_placeWord) (mN mX6_placeWord) (mR mX6_placeWord) ∈ lw_tg := tg_in 596 rfl rfl
theorem kX6_placeWord : MV mX6_placeWord 3 := ⟨⟨eX6_placeWord, tg_in 32 (by decide +kernel) (by decide +kernel), ⟨by decide +kernel, by decide +kernel⟩, by decide +kernel⟩, tg_in 595 (by decide +kernel) (by decide +kernel), tg_in 5 (by decide +kernel) (by decide +kernel)⟩
theorem zX6_placeWord : CZ mX6_placeWord := ⟨rfl, rfl⟩
def mX6_punchRepaired : MT := (yX6_punchRepaired, cX6_punchRepaired, 6, none, { frames := 6, cells := 0, slots := 0, locals := 133 })
set_option maxRecDepth 100000 in
theorem eX6_punchRepaired : Cond.code (mY mX6_punchRepaired) (mB mX6_punchRepaired) (mN mX6_punchRepaired) (mR mX6_punchRepaired) ∈ lw_tg := tg_in 659 rfl rfl
theorem kX6_punchRepaired : MV mX6_punchRepaired 2 := ⟨⟨eX6_punchRepaired, tg_in 32 (by decide +kernel) (by decide +kernel), ⟨by decide +kernel, by decide +kernel⟩, by decide +kernel⟩, tg_in 657 (by decide +kernel) (by decide +kernel), tg_in 658 (by decide +kernel) (by decide +kernel)⟩
theorem zX6_punchRepaired : CZ mX6_punchRepaired := ⟨rfl, rfl⟩
def mX7_init : MT := (yX7_init, cX7_init, 1, none, { frames := 1, cells := 1, slots := 4, locals := 24 })
set_option maxRecDepth 100000 in
theorem eX7_init : Cond.code (mY mX7_init) (mB mX7_init) (mN mX7_init) (mR mX7_init) ∈ lw_tg := tg_in 250 rfl rfl
theorem kX7_init : MI mX7_init 0 := ⟨⟨eX7_init, tg_in 40 (by decide +kernel) (by decide +kernel), ⟨by decide +kernel, by decide +kernel⟩, by decide +kernel⟩, tg_in 249 (by decide +kernel) (by decide +kernel), rfl, rfl⟩
def mX7_split : MT := (yX7_split, cX7_split, 7, (some .boolean), { frames := 0, cells := 0, slots := 0, locals := 0 })
set_option maxRecDepth 100000 in
theorem eX7_split : Cond.code (mY mX7_split) (mB mX7_split) (mN mX7_split) (mR mX7_split) ∈ lw_tg := tg_in 772 rfl rfl
theorem kX7_split : MV mX7_split 2 := ⟨⟨eX7_split, tg_in 40 (by decide +kernel) (by decide +kernel), ⟨by decide +kernel, by decide +kernel⟩, by decide +kernel⟩, tg_in 770 (by decide +kernel) (by decide +kernel), tg_in 771 (by decide +kernel) (by decide +kernel)⟩
theorem zX7_split : CZ mX7_split := ⟨rfl, rfl⟩
def mX7_firstFailure : MT := (yX7_firstFailure, cX7_firstFailure, 4, (some .int), { frames := 7, cells := 0, slots := 0, locals := 154 })
set_option maxRecDepth 100000 in
theorem eX7_firstFailure : Cond.code (mY mX7_firstFailure) (mB mX7_firstFailure) (mN mX7_firstFailure) (mR mX7_firstFailure) ∈ lw_tg := tg_in 777 rfl rfl
theorem kX7_firstFailure : MV mX7_firstFailure 2 := ⟨⟨eX7_firstFailure, tg_in 40 (by decide +kernel) (by decide +kernel), ⟨by decide +kernel, by decide +kernel⟩, by decide +kernel⟩, tg_in 775 (by decide +kernel) (by decide +kernel), tg_in 776 (by decide +kernel) (by decide +kernel)⟩
theorem zX7_firstFailure : CZ mX7_firstFailure := ⟨rfl, rfl⟩
def mX7_succeeds : MT := (yX7_succeeds, cX7_succeeds, 4, (some .boolean), { frames := 6, cells := 0, slots := 0, locals := 131 })
set_option maxRecDepth 100000 in
theorem eX7_succeeds : Cond.code (mY mX7_succeeds) (mB mX7_succeeds) (mN mX7_succeeds) (mR mX7_succeeds) ∈ lw_tg := tg_in 780 rfl rfl
theorem kX7_succeeds : MS mX7_succeeds 3 := ⟨⟨eX7_succeeds, tg_in 40 (by decide +kernel) (by decide +kernel), ⟨by decide +kernel, by decide +kernel⟩, by decide +kernel⟩, tg_in 779 (by decide +kernel) (by decide +kernel)⟩
theorem zX7_succeeds : CZ mX7_succeeds := ⟨rfl, rfl⟩
def mX7_setsOption : MT := (yX7_setsOption, cX7_setsOption, 2, (some .boolean), { frames := 0, cells := 0, slots := 0, locals := 0 })
set_option maxRecDepth 100000 in
theorem eX7_setsOption : Cond.code (mY mX7_setsOption) (mB mX7_setsOption) (mN mX7_setsOption) (mR mX7_setsOption) ∈ lw_tg := tg_in 786 rfl rfl
theorem kX7_setsOption : MS mX7_setsOption 2 := ⟨⟨eX7_setsOption, tg_in 40 (by decide +kernel) (by decide +kernel), ⟨by decide +kernel, by decide +kernel⟩, by decide +kernel⟩, tg_in 785 (by decide +kernel) (by decide +kernel)⟩
theorem zX7_setsOption : CZ mX7_setsOption := ⟨rfl, rfl⟩
def mX7_setsStartCase : MT := (yX7_setsStartCase, cX7_setsStartCase, 2, (some .boolean), { frames := 0, cells := 0, slots := 0, locals := 0 })
set_option maxRecDepth 100000 in
theorem eX7_setsStartCase : Cond.code (mY mX7_setsStartCase) (mB mX7_setsStartCase) (mN mX7_setsStartCase) (mR mX7_setsStartCase) ∈ lw_tg := tg_in 789 rfl rfl
theorem kX7_setsStartCase : MS mX7_setsStartCase 2 := ⟨⟨eX7_setsStartCase, tg_in 40 (by decide +kernel) (by decide +kernel), ⟨by decide +kernel, by decide +kernel⟩, by decide +kernel⟩, tg_in 788 (by decide +kernel) (by decide +kernel)⟩
theorem zX7_setsStartCase : CZ mX7_setsStartCase := ⟨rfl, rfl⟩
def mX8_init : MT := (yX8_init, cX8_init, 2, none, { frames := 2, cells := 6, slots := 206, locals := 44 })
set_option maxRecDepth 100000 in
theorem eX8_init : Cond.code (mY mX8_init) (mB mX8_init) (mN mX8_init) (mR mX8_init) ∈ lw_tg := tg_in 154 rfl rfl
theorem kX8_init : MI mX8_init 0 := ⟨⟨eX8_init, tg_in 35 (by decide +kernel) (by decide +kernel), ⟨by decide +kernel, by decide +kernel⟩, by decide +kernel⟩, tg_in 153 (by decide +kernel) (by decide +kernel), rfl, rfl⟩
def mX8_has : MT := (yX8_has, cX8_has, 2, (some .boolean), { frames := 0, cells := 0, slots := 0, locals := 0 })
set_option maxRecDepth 100000 in
theorem eX8_has : Cond.code (mY mX8_has) (mB mX8_has) (mN mX8_has) (mR mX8_has) ∈ lw_tg := tg_in 830 rfl rfl
theorem kX8_has : MV mX8_has 1 := ⟨⟨eX8_has, tg_in 35 (by decide +kernel) (by decide +kernel), ⟨by decide +kernel, by decide +kernel⟩, by decide +kernel⟩, tg_in 828 (by decide +kernel) (by decide +kernel), tg_in 829 (by decide +kernel) (by decide +kernel)⟩
theorem zX8_has : CZ mX8_has := ⟨rfl, rfl⟩
def mX8_keep : MT := (yX8_keep, cX8_keep, 3, none, { frames := 2, cells := 0, slots := 0, locals := 61 })
set_option maxRecDepth 100000 in
theorem eX8_keep : Cond.code (mY mX8_keep) (mB mX8_keep) (mN mX8_keep) (mR mX8_keep) ∈ lw_tg := tg_in 834 rfl rfl
theorem kX8_keep : MV mX8_keep 2 := ⟨⟨eX8_keep, tg_in 35 (by decide +kernel) (by decide +kernel), ⟨by decide +kernel, by decide +kernel⟩, by decide +kernel⟩, tg_in 832 (by decide +kernel) (by decide +kernel), tg_in 833 (by decide +kernel) (by decide +kernel)⟩
theorem zX8_keep : CZ mX8_keep := ⟨rfl, rfl⟩
def mX8_bringBack : MT := (yX8_bringBack, cX8_bringBack, 3, (some .boolean), { frames := 2, cells := 0, slots := 0, locals := 61 })
set_option maxRecDepth 100000 in
theorem eX8_bringBack : Cond.code (mY mX8_bringBack) (mB mX8_bringBack) (mN mX8_bringBack) (mR mX8_bringBack) ∈ lw_tg := tg_in 844 rfl rfl
theorem kX8_bringBack : MV mX8_bringBack 2 := ⟨⟨eX8_bringBack, tg_in 35 (by decide +kernel) (by decide +kernel), ⟨by decide +kernel, by decide +kernel⟩, by decide +kernel⟩, tg_in 842 (by decide +kernel) (by decide +kernel), tg_in 843 (by decide +kernel) (by decide +kernel)⟩
theorem zX8_bringBack : CZ mX8_bringBack := ⟨rfl, rfl⟩
def mX9_init : MT := (yX9_init, cX9_init, 1, none, { frames := 1, cells := 1, slots := 96, locals := 24 })
set_option maxRecDepth 100000 in
theorem eX9_init : Cond.code (mY mX9_init) (mB mX9_init) (mN mX9_init) (mR mX9_init) ∈ lw_tg := tg_in 63 rfl rfl
theorem kX9_init : MI mX9_init 0 := ⟨⟨eX9_init, tg_in 31 (by decide +kernel) (by decide +kernel), ⟨by decide +kernel, by decide +kernel⟩, by decide +kernel⟩, tg_in 62 (by decide +kernel) (by decide +kernel), rfl, rfl⟩
def mX9_become : MT := (yX9_become, cX9_become, 2, none, { frames := 1, cells := 0, slots := 0, locals := 40 })
set_option maxRecDepth 100000 in
theorem eX9_become : Cond.code (mY mX9_become) (mB mX9_become) (mN mX9_become) (mR mX9_become) ∈ lw_tg := tg_in 511 rfl rfl
theorem kX9_become : MV mX9_become 1 := ⟨⟨eX9_become, tg_in 31 (by decide +kernel) (by decide +kernel), ⟨by decide +kernel, by decide +kernel⟩, by decide +kernel⟩, tg_in 509 (by decide +kernel) (by decide +kernel), tg_in 510 (by decide +kernel) (by decide +kernel)⟩
theorem zX9_become : CZ mX9_become := ⟨rfl, rfl⟩
def mX9_takeSettings : MT := (yX9_takeSettings, cX9_takeSettings, 2, none, { frames := 0, cells := 0, slots := 0, locals := 0 })
set_option maxRecDepth 100000 in
theorem eX9_takeSettings : Cond.code (mY mX9_takeSettings) (mB mX9_takeSettings) (mN mX9_takeSettings) (mR mX9_takeSettings) ∈ lw_tg := tg_in 518 rfl rfl
theorem kX9_takeSettings : MV mX9_takeSettings 1 := ⟨⟨eX9_takeSettings, tg_in 31 (by decide +kernel) (by decide +kernel), ⟨by decide +kernel, by decide +kernel⟩, by decide +kernel⟩, tg_in 516 (by decide +kernel) (by decide +kernel), tg_in 517 (by decide +kernel) (by decide +kernel)⟩
theorem zX9_takeSettings : CZ mX9_takeSettings := ⟨rfl, rfl⟩
def mX9_has : MT := (yX9_has, cX9_has, 2, (some .boolean), { frames := 0, cells := 0, slots := 0, locals := 0 })
set_option maxRecDepth 100000 in
theorem eX9_has : Cond.code (mY mX9_has) (mB mX9_has) (mN mX9_has) (mR mX9_has) ∈ lw_tg := tg_in 422 rfl rfl
theorem kX9_has : MV mX9_has 1 := ⟨⟨eX9_has, tg_in 31 (by decide +kernel) (by decide +kernel), ⟨by decide +kernel, by decide +kernel⟩, by decide +kernel⟩, tg_in 420 (by decide +kernel) (by decide +kernel), tg_in 421 (by decide +kernel) (by decide +kernel)⟩
theorem zX9_has : CZ mX9_has := ⟨rfl, rfl⟩
def mX9_isFull : MT := (yX9_isFull, cX9_isFull, 1, (some .boolean), { frames := 0, cells := 0, slots := 0, locals := 0 })
set_option maxRecDepth 100000 in
theorem eX9_isFull : Cond.code (mY mX9_isFull) (mB mX9_isFull) (mN mX9_isFull) (mR mX9_isFull) ∈ lw_tg := tg_in 499 rfl rfl
theorem kX9_isFull : MV mX9_isFull 0 := ⟨⟨eX9_isFull, tg_in 31 (by decide +kernel) (by decide +kernel), ⟨by decide +kernel, by decide +kernel⟩, by decide +kernel⟩, tg_in 497 (by decide +kernel) (by decide +kernel), tg_in 498 (by decide +kernel) (by decide +kernel)⟩
theorem zX9_isFull : CZ mX9_isFull := ⟨rfl, rfl⟩
def mX9_at : MT := (yX9_at, cX9_at, 2, (some .int), { frames := 1, cells := 0, slots := 0, locals := 21 })
set_option maxRecDepth 100000 in
theorem eX9_at : Cond.code (mY mX9_at) (mB mX9_at) (mN mX9_at) (mR mX9_at) ∈ lw_tg := tg_in 426 rfl rfl
theorem kX9_at : MV mX9_at 1 := ⟨⟨eX9_at, tg_in 31 (by decide +kernel) (by decide +kernel), ⟨by decide +kernel, by decide +kernel⟩, by decide +kernel⟩, tg_in 424 (by decide +kernel) (by decide +kernel), tg_in 425 (by decide +kernel) (by decide +kernel)⟩
theorem zX9_at : CZ mX9_at := ⟨rfl, rfl⟩
def mX9_add : MT := (yX9_add, cX9_add, 2, (some .boolean), { frames := 0, cells := 0, slots := 0, locals := 0 })
set_option maxRecDepth 100000 in
theorem eX9_add : Cond.code (mY mX9_add) (mB mX9_add) (mN mX9_add) (mR mX9_add) ∈ lw_tg := tg_in 523 rfl rfl
theorem kX9_add : MV mX9_add 1 := ⟨⟨eX9_add, tg_in 31 (by decide +kernel) (by decide +kernel), ⟨by decide +kernel, by decide +kernel⟩, by decide +kernel⟩, tg_in 521 (by decide +kernel) (by decide +kernel), tg_in 522 (by decide +kernel) (by decide +kernel)⟩
theorem zX9_add : CZ mX9_add := ⟨rfl, rfl⟩
def mX9_takeOut : MT := (yX9_takeOut, cX9_takeOut, 3, (some .int), { frames := 1, cells := 0, slots := 0, locals := 40 })
set_option maxRecDepth 100000 in
theorem eX9_takeOut : Cond.code (mY mX9_takeOut) (mB mX9_takeOut) (mN mX9_takeOut) (mR mX9_takeOut) ∈ lw_tg := tg_in 605 rfl rfl
theorem kX9_takeOut : MV mX9_takeOut 1 := ⟨⟨eX9_takeOut, tg_in 31 (by decide +kernel) (by decide +kernel), ⟨by decide +kernel, by decide +kernel⟩, by decide +kernel⟩, tg_in 603 (by decide +kernel) (by decide +kernel), tg_in 604 (by decide +kernel) (by decide +kernel)⟩
theorem zX9_takeOut : CZ mX9_takeOut := ⟨rfl, rfl⟩
def mX9_turnBit : MT := (yX9_turnBit, cX9_turnBit, 3, none, { frames := 1, cells := 0, slots := 0, locals := 21 })
set_option maxRecDepth 100000 in
theorem eX9_turnBit : Cond.code (mY mX9_turnBit) (mB mX9_turnBit) (mN mX9_turnBit) (mR mX9_turnBit) ∈ lw_tg := tg_in 616 rfl rfl
theorem kX9_turnBit : MV mX9_turnBit 2 := ⟨⟨eX9_turnBit, tg_in 31 (by decide +kernel) (by decide +kernel), ⟨by decide +kernel, by decide +kernel⟩, by decide +kernel⟩, tg_in 614 (by decide +kernel) (by decide +kernel), tg_in 615 (by decide +kernel) (by decide +kernel)⟩
theorem zX9_turnBit : CZ mX9_turnBit := ⟨rfl, rfl⟩
def mX9_caseAfter : MT := (yX9_caseAfter, cX9_caseAfter, 3, (some .int), { frames := 1, cells := 0, slots := 0, locals := 22 })
set_option maxRecDepth 100000 in
theorem eX9_caseAfter : Cond.code (mY mX9_caseAfter) (mB mX9_caseAfter) (mN mX9_caseAfter) (mR mX9_caseAfter) ∈ lw_tg := tg_in 439 rfl rfl
theorem kX9_caseAfter : MV mX9_caseAfter 2 := ⟨⟨eX9_caseAfter, tg_in 31 (by decide +kernel) (by decide +kernel), ⟨by decide +kernel, by decide +kernel⟩, by decide +kernel⟩, tg_in 437 (by decide +kernel) (by decide +kernel), tg_in 438 (by decide +kernel) (by decide +kernel)⟩
theorem zX9_caseAfter : CZ mX9_caseAfter := ⟨rfl, rfl⟩
def mX9_caseBefore : MT := (yX9_caseBefore, cX9_caseBefore, 4, (some .int), { frames := 2, cells := 0, slots := 0, locals := 44 })
set_option maxRecDepth 100000 in
theorem eX9_caseBefore : Cond.code (mY mX9_caseBefore) (mB mX9_caseBefore) (mN mX9_caseBefore) (mR mX9_caseBefore) ∈ lw_tg := tg_in 435 rfl rfl
theorem kX9_caseBefore : MV mX9_caseBefore 1 := ⟨⟨eX9_caseBefore, tg_in 31 (by decide +kernel) (by decide +kernel), ⟨by decide +kernel, by decide +kernel⟩, by decide +kernel⟩, tg_in 433 (by decide +kernel) (by decide +kernel), tg_in 434 (by decide +kernel) (by decide +kernel)⟩
theorem zX9_caseBefore : CZ mX9_caseBefore := ⟨rfl, rfl⟩
def mX9_lossDamage : MT := (yX9_lossDamage, cX9_lossDamage, 6, (some .int), { frames := 3, cells := 0, slots := 0, locals := 67 })
set_option maxRecDepth 100000 in
theorem eX9_lossDamage : Cond.code (mY mX9_lossDamage) (mB mX9_lossDamage) (mN mX9_lossDamage) (mR mX9_lossDamage) ∈ lw_tg := tg_in 636 rfl rfl
theorem kX9_lossDamage : MV mX9_lossDamage 1 := ⟨⟨eX9_lossDamage, tg_in 31 (by decide +kernel) (by decide +kernel), ⟨by decide +kernel, by decide +kernel⟩, by decide +kernel⟩, tg_in 634 (by decide +kernel) (by decide +kernel), tg_in 635 (by decide +kernel) (by decide +kernel)⟩
theorem zX9_lossDamage : CZ mX9_lossDamage := ⟨rfl, rfl⟩
def mX9_differences : MT := (yX9_differences, cX9_differences, 6, (some .int), { frames := 5, cells := 0, slots := 0, locals := 106 })
set_option maxRecDepth 100000 in
theorem eX9_differences : Cond.code (mY mX9_differences) (mB mX9_differences) (mN mX9_differences) (mR mX9_differences) ∈ lw_tg := tg_in 732 rfl rfl
theorem kX9_differences : MV mX9_differences 1 := ⟨⟨eX9_differences, tg_in 31 (by decide +kernel) (by decide +kernel), ⟨by decide +kernel, by decide +kernel⟩, by decide +kernel⟩, tg_in 730 (by decide +kernel) (by decide +kernel), tg_in 731 (by decide +kernel) (by decide +kernel)⟩
theorem zX9_differences : CZ mX9_differences := ⟨rfl, rfl⟩
def mX9_dropRedundant : MT := (yX9_dropRedundant, cX9_dropRedundant, 4, (some .int), { frames := 5, cells := 0, slots := 0, locals := 114 })
set_option maxRecDepth 100000 in
theorem eX9_dropRedundant : Cond.code (mY mX9_dropRedundant) (mB mX9_dropRedundant) (mN mX9_dropRedundant) (mR mX9_dropRedundant) ∈ lw_tg := tg_in 624 rfl rfl
theorem kX9_dropRedundant : MV mX9_dropRedundant 0 := ⟨⟨eX9_dropRedundant, tg_in 31 (by decide +kernel) (by decide +kernel), ⟨by decide +kernel, by decide +kernel⟩, by decide +kernel⟩, tg_in 622 (by decide +kernel) (by decide +kernel), tg_in 623 (by decide +kernel) (by decide +kernel)⟩
theorem zX9_dropRedundant : CZ mX9_dropRedundant := ⟨rfl, rfl⟩
def mX9_isRedundant : MT := (yX9_isRedundant, cX9_isRedundant, 3, (some .boolean), { frames := 4, cells := 0, slots := 0, locals := 92 })
set_option maxRecDepth 100000 in
theorem eX9_isRedundant : Cond.code (mY mX9_isRedundant) (mB mX9_isRedundant) (mN mX9_isRedundant) (mR mX9_isRedundant) ∈ lw_tg := tg_in 628 rfl rfl
theorem kX9_isRedundant : MV mX9_isRedundant 1 := ⟨⟨eX9_isRedundant, tg_in 31 (by decide +kernel) (by decide +kernel), ⟨by decide +kernel, by decide +kernel⟩, by decide +kernel⟩, tg_in 627 (by decide +kernel) (by decide +kernel), tg_in 6 (by decide +kernel) (by decide +kernel)⟩
theorem zX9_isRedundant : CZ mX9_isRedundant := ⟨rfl, rfl⟩
def mX9_disturb : MT := (yX9_disturb, cX9_disturb, 8, none, { frames := 2, cells := 0, slots := 0, locals := 43 })
set_option maxRecDepth 100000 in
theorem eX9_disturb : Cond.code (mY mX9_disturb) (mB mX9_disturb) (mN mX9_disturb) (mR mX9_disturb) ∈ lw_tg := tg_in 819 rfl rfl
theorem kX9_disturb : MV mX9_disturb 2 := ⟨⟨eX9_disturb, tg_in 31 (by decide +kernel) (by decide +kernel), ⟨by decide +kernel, by decide +kernel⟩, by decide +kernel⟩, tg_in 817 (by decide +kernel) (by decide +kernel), tg_in 818 (by decide +kernel) (by decide +kernel)⟩
theorem zX9_disturb : CZ mX9_disturb := ⟨rfl, rfl⟩
def mX10_init : MT := (yX10_init, cX10_init, 1, none, { frames := 1, cells := 2, slots := 193, locals := 24 })
set_option maxRecDepth 100000 in
theorem eX10_init : Cond.code (mY mX10_init) (mB mX10_init) (mN mX10_init) (mR mX10_init) ∈ lw_tg := tg_in 170 rfl rfl
theorem kX10_init : MI mX10_init 0 := ⟨⟨eX10_init, tg_in 36 (by decide +kernel) (by decide +kernel), ⟨by decide +kernel, by decide +kernel⟩, by decide +kernel⟩, tg_in 169 (by decide +kernel) (by decide +kernel), rfl, rfl⟩
def mX10_read : MT := (yX10_read, cX10_read, 6, none, { frames := 5, cells := 0, slots := 0, locals := 106 })
set_option maxRecDepth 100000 in
theorem eX10_read : Cond.code (mY mX10_read) (mB mX10_read) (mN mX10_read) (mR mX10_read) ∈ lw_tg := tg_in 450 rfl rfl
theorem kX10_read : MV mX10_read 1 := ⟨⟨eX10_read, tg_in 36 (by decide +kernel) (by decide +kernel), ⟨by decide +kernel, by decide +kernel⟩, by decide +kernel⟩, tg_in 448 (by decide +kernel) (by decide +kernel), tg_in 449 (by decide +kernel) (by decide +kernel)⟩
theorem zX10_read : CZ mX10_read := ⟨rfl, rfl⟩
def mX10_has : MT := (yX10_has, cX10_has, 2, (some .boolean), { frames := 0, cells := 0, slots := 0, locals := 0 })
set_option maxRecDepth 100000 in
theorem eX10_has : Cond.code (mY mX10_has) (mB mX10_has) (mN mX10_has) (mR mX10_has) ∈ lw_tg := tg_in 486 rfl rfl
theorem kX10_has : MV mX10_has 1 := ⟨⟨eX10_has, tg_in 36 (by decide +kernel) (by decide +kernel), ⟨by decide +kernel, by decide +kernel⟩, by decide +kernel⟩, tg_in 484 (by decide +kernel) (by decide +kernel), tg_in 485 (by decide +kernel) (by decide +kernel)⟩
theorem zX10_has : CZ mX10_has := ⟨rfl, rfl⟩
def mX10_at : MT := (yX10_at, cX10_at, 2, (some .int), { frames := 1, cells := 0, slots := 0, locals := 21 })
set_option maxRecDepth 100000 in
theorem eX10_at : Cond.code (mY mX10_at) (mB mX10_at) (mN mX10_at) (mR mX10_at) ∈ lw_tg := tg_in 490 rfl rfl
theorem kX10_at : MV mX10_at 1 := ⟨⟨eX10_at, tg_in 36 (by decide +kernel) (by decide +kernel), ⟨by decide +kernel, by decide +kernel⟩, by decide +kernel⟩, tg_in 488 (by decide +kernel) (by decide +kernel), tg_in 489 (by decide +kernel) (by decide +kernel)⟩
theorem zX10_at : CZ mX10_at := ⟨rfl, rfl⟩
def mX10_distanceTo : MT := (yX10_distanceTo, cX10_distanceTo, 3, (some .int), { frames := 2, cells := 0, slots := 0, locals := 47 })
set_option maxRecDepth 100000 in
theorem eX10_distanceTo : Cond.code (mY mX10_distanceTo) (mB mX10_distanceTo) (mN mX10_distanceTo) (mR mX10_distanceTo) ∈ lw_tg := tg_in 856 rfl rfl
theorem kX10_distanceTo : MV mX10_distanceTo 1 := ⟨⟨eX10_distanceTo, tg_in 36 (by decide +kernel) (by decide +kernel), ⟨by decide +kernel, by decide +kernel⟩, by decide +kernel⟩, tg_in 854 (by decide +kernel) (by decide +kernel), tg_in 855 (by decide +kernel) (by decide +kernel)⟩
theorem zX10_distanceTo : CZ mX10_distanceTo := ⟨rfl, rfl⟩
def mX10_nextDistances : MT := (yX10_nextDistances, cX10_nextDistances, 7, none, { frames := 1, cells := 0, slots := 0, locals := 21 })
set_option maxRecDepth 100000 in
theorem eX10_nextDistances : Cond.code (mY mX10_nextDistances) (mB mX10_nextDistances) (mN mX10_nextDistances) (mR mX10_nextDistances) ∈ lw_tg := tg_in 860 rfl rfl
theorem kX10_nextDistances : MV mX10_nextDistances 2 := ⟨⟨eX10_nextDistances, tg_in 36 (by decide +kernel) (by decide +kernel), ⟨by decide +kernel, by decide +kernel⟩, by decide +kernel⟩, tg_in 859 (by decide +kernel) (by decide +kernel), tg_in 14 (by decide +kernel) (by decide +kernel)⟩
theorem zX10_nextDistances : CZ mX10_nextDistances := ⟨rfl, rfl⟩
def mX11_init : MT := (yX11_init, cX11_init, 1, none, { frames := 3, cells := 60, slots := 2749, locals := 65 })
set_option maxRecDepth 100000 in
theorem eX11_init : Cond.code (mY mX11_init) (mB mX11_init) (mN mX11_init) (mR mX11_init) ∈ lw_tg := tg_in 55 rfl rfl
theorem kX11_init : MI mX11_init 0 := ⟨⟨eX11_init, tg_in 30 (by decide +kernel) (by decide +kernel), ⟨by decide +kernel, by decide +kernel⟩, by decide +kernel⟩, tg_in 54 (by decide +kernel) (by decide +kernel), rfl, rfl⟩
def mX11_append : MT := (yX11_append, cX11_append, 2, (some .int), { frames := 1, cells := 0, slots := 0, locals := 22 })
set_option maxRecDepth 100000 in
theorem eX11_append : Cond.code (mY mX11_append) (mB mX11_append) (mN mX11_append) (mR mX11_append) ∈ lw_tg := tg_in 299 rfl rfl
theorem kX11_append : MV mX11_append 1 := ⟨⟨eX11_append, tg_in 30 (by decide +kernel) (by decide +kernel), ⟨by decide +kernel, by decide +kernel⟩, by decide +kernel⟩, tg_in 297 (by decide +kernel) (by decide +kernel), tg_in 298 (by decide +kernel) (by decide +kernel)⟩
theorem zX11_append : CZ mX11_append := ⟨rfl, rfl⟩
def mX11_clearMessage : MT := (yX11_clearMessage, cX11_clearMessage, 2, (some .int), { frames := 0, cells := 0, slots := 0, locals := 0 })
set_option maxRecDepth 100000 in
theorem eX11_clearMessage : Cond.code (mY mX11_clearMessage) (mB mX11_clearMessage) (mN mX11_clearMessage) (mR mX11_clearMessage) ∈ lw_tg := tg_in 310 rfl rfl
theorem kX11_clearMessage : MV mX11_clearMessage 0 := ⟨⟨eX11_clearMessage, tg_in 30 (by decide +kernel) (by decide +kernel), ⟨by decide +kernel, by decide +kernel⟩, by decide +kernel⟩, tg_in 308 (by decide +kernel) (by decide +kernel), tg_in 309 (by decide +kernel) (by decide +kernel)⟩
theorem zX11_clearMessage : CZ mX11_clearMessage := ⟨rfl, rfl⟩
def mX11_errorPosition : MT := (yX11_errorPosition, cX11_errorPosition, 1, (some .int), { frames := 6, cells := 0, slots := 0, locals := 133 })
set_option maxRecDepth 100000 in
theorem eX11_errorPosition : Cond.code (mY mX11_errorPosition) (mB mX11_errorPosition) (mN mX11_errorPosition) (mR mX11_errorPosition) ∈ lw_tg := tg_in 314 rfl rfl
theorem kX11_errorPosition : MV mX11_errorPosition 0 := ⟨⟨eX11_errorPosition, tg_in 30 (by decide +kernel) (by decide +kernel), ⟨by decide +kernel, by decide +kernel⟩, by decide +kernel⟩, tg_in 312 (by decide +kernel) (by decide +kernel), tg_in 313 (by decide +kernel) (by decide +kernel)⟩
theorem zX11_errorPosition : CZ mX11_errorPosition := ⟨rfl, rfl⟩
def mX11_length : MT := (yX11_length, cX11_length, 1, (some .int), { frames := 0, cells := 0, slots := 0, locals := 0 })
set_option maxRecDepth 100000 in
theorem eX11_length : Cond.code (mY mX11_length) (mB mX11_length) (mN mX11_length) (mR mX11_length) ∈ lw_tg := tg_in 414 rfl rfl
theorem kX11_length : MV mX11_length 0 := ⟨⟨eX11_length, tg_in 30 (by decide +kernel) (by decide +kernel), ⟨by decide +kernel, by decide +kernel⟩, by decide +kernel⟩, tg_in 412 (by decide +kernel) (by decide +kernel), tg_in 413 (by decide +kernel) (by decide +kernel)⟩
theorem zX11_length : CZ mX11_length := ⟨rfl, rfl⟩
def mX11_codeAt : MT := (yX11_codeAt, cX11_codeAt, 2, (some .int), { frames := 2, cells := 0, slots := 0, locals := 42 })
set_option maxRecDepth 100000 in
theorem eX11_codeAt : Cond.code (mY mX11_codeAt) (mB mX11_codeAt) (mN mX11_codeAt) (mR mX11_codeAt) ∈ lw_tg := tg_in 418 rfl rfl
theorem kX11_codeAt : MV mX11_codeAt 1 := ⟨⟨eX11_codeAt, tg_in 30 (by decide +kernel) (by decide +kernel), ⟨by decide +kernel, by decide +kernel⟩, by decide +kernel⟩, tg_in 416 (by decide +kernel) (by decide +kernel), tg_in 417 (by decide +kernel) (by decide +kernel)⟩
theorem zX11_codeAt : CZ mX11_codeAt := ⟨rfl, rfl⟩
def mX11_caseAt : MT := (yX11_caseAt, cX11_caseAt, 2, (some .int), { frames := 3, cells := 0, slots := 0, locals := 67 })
set_option maxRecDepth 100000 in
theorem eX11_caseAt : Cond.code (mY mX11_caseAt) (mB mX11_caseAt) (mN mX11_caseAt) (mR mX11_caseAt) ∈ lw_tg := tg_in 431 rfl rfl
theorem kX11_caseAt : MV mX11_caseAt 1 := ⟨⟨eX11_caseAt, tg_in 30 (by decide +kernel) (by decide +kernel), ⟨by decide +kernel, by decide +kernel⟩, by decide +kernel⟩, tg_in 429 (by decide +kernel) (by decide +kernel), tg_in 430 (by decide +kernel) (by decide +kernel)⟩
theorem zX11_caseAt : CZ mX11_caseAt := ⟨rfl, rfl⟩
def mX11_printedLength : MT := (yX11_printedLength, cX11_printedLength, 1, (some .int), { frames := 6, cells := 0, slots := 0, locals := 131 })
set_option maxRecDepth 100000 in
theorem eX11_printedLength : Cond.code (mY mX11_printedLength) (mB mX11_printedLength) (mN mX11_printedLength) (mR mX11_printedLength) ∈ lw_tg := tg_in 446 rfl rfl
theorem kX11_printedLength : MV mX11_printedLength 0 := ⟨⟨eX11_printedLength, tg_in 30 (by decide +kernel) (by decide +kernel), ⟨by decide +kernel, by decide +kernel⟩, by decide +kernel⟩, tg_in 444 (by decide +kernel) (by decide +kernel), tg_in 445 (by decide +kernel) (by decide +kernel)⟩
theorem zX11_printedLength : CZ mX11_printedLength := ⟨rfl, rfl⟩
def mX11_printedAt : MT := (yX11_printedAt, cX11_printedAt, 2, (some .int), { frames := 6, cells := 0, slots := 0, locals := 131 })
set_option maxRecDepth 100000 in
theorem eX11_printedAt : Cond.code (mY mX11_printedAt) (mB mX11_printedAt) (mN mX11_printedAt) (mR mX11_printedAt) ∈ lw_tg := tg_in 482 rfl rfl
theorem kX11_printedAt : MV mX11_printedAt 1 := ⟨⟨eX11_printedAt, tg_in 30 (by decide +kernel) (by decide +kernel), ⟨by decide +kernel, by decide +kernel⟩, by decide +kernel⟩, tg_in 480 (by decide +kernel) (by decide +kernel), tg_in 481 (by decide +kernel) (by decide +kernel)⟩
theorem zX11_printedAt : CZ mX11_printedAt := ⟨rfl, rfl⟩
def mX11_punch : MT := (yX11_punch, cX11_punch, 2, (some .int), { frames := 3, cells := 0, slots := 0, locals := 83 })
set_option maxRecDepth 100000 in
theorem eX11_punch : Cond.code (mY mX11_punch) (mB mX11_punch) (mN mX11_punch) (mR mX11_punch) ∈ lw_tg := tg_in 495 rfl rfl
theorem kX11_punch : MV mX11_punch 1 := ⟨⟨eX11_punch, tg_in 30 (by decide +kernel) (by decide +kernel), ⟨by decide +kernel, by decide +kernel⟩, by decide +kernel⟩, tg_in 493 (by decide +kernel) (by decide +kernel), tg_in 494 (by decide +kernel) (by decide +kernel)⟩
theorem zX11_punch : CZ mX11_punch := ⟨rfl, rfl⟩
def mX11_encodeMessage : MT := (yX11_encodeMessage, cX11_encodeMessage, 1, (some .int), { frames := 8, cells := 0, slots := 0, locals := 178 })
set_option maxRecDepth 100000 in
theorem eX11_encodeMessage : Cond.code (mY mX11_encodeMessage) (mB mX11_encodeMessage) (mN mX11_encodeMessage) (mR mX11_encodeMessage) ∈ lw_tg := tg_in 527 rfl rfl
theorem kX11_encodeMessage : MV mX11_encodeMessage 0 := ⟨⟨eX11_encodeMessage, tg_in 30 (by decide +kernel) (by decide +kernel), ⟨by decide +kernel, by decide +kernel⟩, by decide +kernel⟩, tg_in 525 (by decide +kernel) (by decide +kernel), tg_in 526 (by decide +kernel) (by decide +kernel)⟩
theorem zX11_encodeMessage : CZ mX11_encodeMessage := ⟨rfl, rfl⟩
def mX11_encodeWrapped : MT := (yX11_encodeWrapped, cX11_encodeWrapped, 1, (some .int), { frames := 9, cells := 0, slots := 0, locals := 203 })
set_option maxRecDepth 100000 in
theorem eX11_encodeWrapped : Cond.code (mY mX11_encodeWrapped) (mB mX11_encodeWrapped) (mN mX11_encodeWrapped) (mR mX11_encodeWrapped) ∈ lw_tg := tg_in 576 rfl rfl
theorem kX11_encodeWrapped : MV mX11_encodeWrapped 0 := ⟨⟨eX11_encodeWrapped, tg_in 30 (by decide +kernel) (by decide +kernel), ⟨by decide +kernel, by decide +kernel⟩, by decide +kernel⟩, tg_in 574 (by decide +kernel) (by decide +kernel), tg_in 575 (by decide +kernel) (by decide +kernel)⟩
theorem zX11_encodeWrapped : CZ mX11_encodeWrapped := ⟨rfl, rfl⟩
def mX11_remove : MT := (yX11_remove, cX11_remove, 2, (some .int), { frames := 3, cells := 0, slots := 0, locals := 83 })
set_option maxRecDepth 100000 in
theorem eX11_remove : Cond.code (mY mX11_remove) (mB mX11_remove) (mN mX11_remove) (mR mX11_remove) ∈ lw_tg := tg_in 601 rfl rfl
theorem kX11_remove : MV mX11_remove 1 := ⟨⟨eX11_remove, tg_in 30 (by decide +kernel) (by decide +kernel), ⟨by decide +kernel, by decide +kernel⟩, by decide +kernel⟩, tg_in 599 (by decide +kernel) (by decide +kernel), tg_in 600 (by decide +kernel) (by decide +kernel)⟩
theorem zX11_remove : CZ mX11_remove := ⟨rfl, rfl⟩
def mX11_flip : MT := (yX11_flip, cX11_flip, 3, (some .int), { frames := 3, cells := 0, slots := 0, locals := 83 })
set_option maxRecDepth 100000 in
theorem eX11_flip : Cond.code (mY mX11_flip) (mB mX11_flip) (mN mX11_flip) (mR mX11_flip) ∈ lw_tg := tg_in 609 rfl rfl
theorem kX11_flip : MV mX11_flip 2 := ⟨⟨eX11_flip, tg_in 30 (by decide +kernel) (by decide +kernel), ⟨by decide +kernel, by decide +kernel⟩, by decide +kernel⟩, tg_in 607 (by decide +kernel) (by decide +kernel), tg_in 608 (by decide +kernel) (by decide +kernel)⟩
theorem zX11_flip : CZ mX11_flip := ⟨rfl, rfl⟩
def mX11_compact : MT := (yX11_compact, cX11_compact, 1, (some .int), { frames := 6, cells := 0, slots := 0, locals := 137 })
set_option maxRecDepth 100000 in
theorem eX11_compact : Cond.code (mY mX11_compact) (mB mX11_compact) (mN mX11_compact) (mR mX11_compact) ∈ lw_tg := tg_in 620 rfl rfl
theorem kX11_compact : MV mX11_compact 0 := ⟨⟨eX11_compact, tg_in 30 (by decide +kernel) (by decide +kernel), ⟨by decide +kernel, by decide +kernel⟩, by decide +kernel⟩, tg_in 618 (by decide +kernel) (by decide +kernel), tg_in 619 (by decide +kernel) (by decide +kernel)⟩
theorem zX11_compact : CZ mX11_compact := ⟨rfl, rfl⟩
def mX11_repair : MT := (yX11_repair, cX11_repair, 2, (some .int), { frames := 7, cells := 0, slots := 0, locals := 158 })
set_option maxRecDepth 100000 in
theorem eX11_repair : Cond.code (mY mX11_repair) (mB mX11_repair) (mN mX11_repair) (mR mX11_repair) ∈ lw_tg := tg_in 643 rfl rfl
theorem kX11_repair : MV mX11_repair 0 := ⟨⟨eX11_repair, tg_in 30 (by decide +kernel) (by decide +kernel), ⟨by decide +kernel, by decide +kernel⟩, by decide +kernel⟩, tg_in 641 (by decide +kernel) (by decide +kernel), tg_in 642 (by decide +kernel) (by decide +kernel)⟩
theorem zX11_repair : CZ mX11_repair := ⟨rfl, rfl⟩
def mX11_setStartCase : MT := (yX11_setStartCase, cX11_setStartCase, 3, (some .int), { frames := 3, cells := 0, slots := 0, locals := 83 })
set_option maxRecDepth 100000 in
theorem eX11_setStartCase : Cond.code (mY mX11_setStartCase) (mB mX11_setStartCase) (mN mX11_setStartCase) (mR mX11_setStartCase) ∈ lw_tg := tg_in 665 rfl rfl
theorem kX11_setStartCase : MV mX11_setStartCase 1 := ⟨⟨eX11_setStartCase, tg_in 30 (by decide +kernel) (by decide +kernel), ⟨by decide +kernel, by decide +kernel⟩, by decide +kernel⟩, tg_in 663 (by decide +kernel) (by decide +kernel), tg_in 664 (by decide +kernel) (by decide +kernel)⟩
theorem zX11_setStartCase : CZ mX11_setStartCase := ⟨rfl, rfl⟩
def mX11_setUnshiftOnSpace : MT := (yX11_setUnshiftOnSpace, cX11_setUnshiftOnSpace, 3, (some .int), { frames := 3, cells := 0, slots := 0, locals := 83 })
set_option maxRecDepth 100000 in
theorem eX11_setUnshiftOnSpace : Cond.code (mY mX11_setUnshiftOnSpace) (mB mX11_setUnshiftOnSpace) (mN mX11_setUnshiftOnSpace) (mR mX11_setUnshiftOnSpace) ∈ lw_tg := tg_in 669 rfl rfl
theorem kX11_setUnshiftOnSpace : MV mX11_setUnshiftOnSpace 1 := ⟨⟨eX11_setUnshiftOnSpace, tg_in 30 (by decide +kernel) (by decide +kernel), ⟨by decide +kernel, by decide +kernel⟩, by decide +kernel⟩, tg_in 667 (by decide +kernel) (by decide +kernel), tg_in 668 (by decide +kernel) (by decide +kernel)⟩
theorem zX11_setUnshiftOnSpace : CZ mX11_setUnshiftOnSpace := ⟨rfl, rfl⟩
def mX11_setWidth : MT := (yX11_setWidth, cX11_setWidth, 3, (some .int), { frames := 3, cells := 0, slots := 0, locals := 83 })
set_option maxRecDepth 100000 in
theorem eX11_setWidth : Cond.code (mY mX11_setWidth) (mB mX11_setWidth) (mN mX11_setWidth) (mR mX11_setWidth) ∈ lw_tg := tg_in 673 rfl rfl
theorem kX11_setWidth : MV mX11_setWidth 1 := ⟨⟨eX11_setWidth, tg_in 30 (by decide +kernel) (by decide +kernel), ⟨by decide +kernel, by decide +kernel⟩, by decide +kernel⟩, tg_in 671 (by decide +kernel) (by decide +kernel), tg_in 672 (by decide +kernel) (by decide +kernel)⟩
theorem zX11_setWidth : CZ mX11_setWidth := ⟨rfl, rfl⟩
def mX11_undo : MT := (yX11_undo, cX11_undo, 1, (some .int), { frames := 3, cells := 0, slots := 0, locals := 84 })
set_option maxRecDepth 100000 in
theorem eX11_undo : Cond.code (mY mX11_undo) (mB mX11_undo) (mN mX11_undo) (mR mX11_undo) ∈ lw_tg := tg_in 677 rfl rfl
theorem kX11_undo : MV mX11_undo 0 := ⟨⟨eX11_undo, tg_in 30 (by decide +kernel) (by decide +kernel), ⟨by decide +kernel, by decide +kernel⟩, by decide +kernel⟩, tg_in 675 (by decide +kernel) (by decide +kernel), tg_in 676 (by decide +kernel) (by decide +kernel)⟩
theorem zX11_undo : CZ mX11_undo := ⟨rfl, rfl⟩
def mX11_cell : MT := (yX11_cell, cX11_cell, 3, (some .int), { frames := 7, cells := 0, slots := 0, locals := 151 })
set_option maxRecDepth 100000 in
theorem eX11_cell : Cond.code (mY mX11_cell) (mB mX11_cell) (mN mX11_cell) (mR mX11_cell) ∈ lw_tg := tg_in 685 rfl rfl
theorem kX11_cell : MV mX11_cell 2 := ⟨⟨eX11_cell, tg_in 30 (by decide +kernel) (by decide +kernel), ⟨by decide +kernel, by decide +kernel⟩, by decide +kernel⟩, tg_in 683 (by decide +kernel) (by decide +kernel), tg_in 684 (by decide +kernel) (by decide +kernel)⟩
theorem zX11_cell : CZ mX11_cell := ⟨rfl, rfl⟩
def mX11_overstrikes : MT := (yX11_overstrikes, cX11_overstrikes, 1, (some .int), { frames := 7, cells := 0, slots := 0, locals := 151 })
set_option maxRecDepth 100000 in
theorem eX11_overstrikes : Cond.code (mY mX11_overstrikes) (mB mX11_overstrikes) (mN mX11_overstrikes) (mR mX11_overstrikes) ∈ lw_tg := tg_in 719 rfl rfl
theorem kX11_overstrikes : MV mX11_overstrikes 0 := ⟨⟨eX11_overstrikes, tg_in 30 (by decide +kernel) (by decide +kernel), ⟨by decide +kernel, by decide +kernel⟩, by decide +kernel⟩, tg_in 717 (by decide +kernel) (by decide +kernel), tg_in 718 (by decide +kernel) (by decide +kernel)⟩
theorem zX11_overstrikes : CZ mX11_overstrikes := ⟨rfl, rfl⟩
def mX11_damageIfLost : MT := (yX11_damageIfLost, cX11_damageIfLost, 2, (some .int), { frames := 4, cells := 0, slots := 0, locals := 92 })
set_option maxRecDepth 100000 in
theorem eX11_damageIfLost : Cond.code (mY mX11_damageIfLost) (mB mX11_damageIfLost) (mN mX11_damageIfLost) (mR mX11_damageIfLost) ∈ lw_tg := tg_in 723 rfl rfl
theorem kX11_damageIfLost : MV mX11_damageIfLost 1 := ⟨⟨eX11_damageIfLost, tg_in 30 (by decide +kernel) (by decide +kernel), ⟨by decide +kernel, by decide +kernel⟩, by decide +kernel⟩, tg_in 721 (by decide +kernel) (by decide +kernel), tg_in 722 (by decide +kernel) (by decide +kernel)⟩
theorem zX11_damageIfLost : CZ mX11_damageIfLost := ⟨rfl, rfl⟩
def mX11_damageIfFlipped : MT := (yX11_damageIfFlipped, cX11_damageIfFlipped, 3, (some .int), { frames := 6, cells := 0, slots := 0, locals := 131 })
set_option maxRecDepth 100000 in
theorem eX11_damageIfFlipped : Cond.code (mY mX11_damageIfFlipped) (mB mX11_damageIfFlipped) (mN mX11_damageIfFlipped) (mR mX11_damageIfFlipped) ∈ lw_tg := tg_in 728 rfl rfl
theorem kX11_damageIfFlipped : MV mX11_damageIfFlipped 2 := ⟨⟨eX11_damageIfFlipped, tg_in 30 (by decide +kernel) (by decide +kernel), ⟨by decide +kernel, by decide +kernel⟩, by decide +kernel⟩, tg_in 726 (by decide +kernel) (by decide +kernel), tg_in 727 (by decide +kernel) (by decide +kernel)⟩
theorem zX11_damageIfFlipped : CZ mX11_damageIfFlipped := ⟨rfl, rfl⟩
def mX11_confidenceNumerator : MT := (yX11_confidenceNumerator, cX11_confidenceNumerator, 4, (some .int), { frames := 5, cells := 0, slots := 0, locals := 115 })
set_option maxRecDepth 100000 in
theorem eX11_confidenceNumerator : Cond.code (mY mX11_confidenceNumerator) (mB mX11_confidenceNumerator) (mN mX11_confidenceNumerator) (mR mX11_confidenceNumerator) ∈ lw_tg := tg_in 737 rfl rfl
theorem kX11_confidenceNumerator : MV mX11_confidenceNumerator 2 := ⟨⟨eX11_confidenceNumerator, tg_in 30 (by decide +kernel) (by decide +kernel), ⟨by decide +kernel, by decide +kernel⟩, by decide +kernel⟩, tg_in 735 (by decide +kernel) (by decide +kernel), tg_in 736 (by decide +kernel) (by decide +kernel)⟩
theorem zX11_confidenceNumerator : CZ mX11_confidenceNumerator := ⟨rfl, rfl⟩
def mX11_confidenceDenominator : MT := (yX11_confidenceDenominator, cX11_confidenceDenominator, 4, (some .int), { frames := 5, cells := 0, slots := 0, locals := 115 })
set_option maxRecDepth 100000 in
theorem eX11_confidenceDenominator : Cond.code (mY mX11_confidenceDenominator) (mB mX11_confidenceDenominator) (mN mX11_confidenceDenominator) (mR mX11_confidenceDenominator) ∈ lw_tg := tg_in 764 rfl rfl
theorem kX11_confidenceDenominator : MV mX11_confidenceDenominator 2 := ⟨⟨eX11_confidenceDenominator, tg_in 30 (by decide +kernel) (by decide +kernel), ⟨by decide +kernel, by decide +kernel⟩, by decide +kernel⟩, tg_in 762 (by decide +kernel) (by decide +kernel), tg_in 763 (by decide +kernel) (by decide +kernel)⟩
theorem zX11_confidenceDenominator : CZ mX11_confidenceDenominator := ⟨rfl, rfl⟩
def mX11_runScript : MT := (yX11_runScript, cX11_runScript, 4, (some .int), { frames := 8, cells := 0, slots := 0, locals := 177 })
set_option maxRecDepth 100000 in
theorem eX11_runScript : Cond.code (mY mX11_runScript) (mB mX11_runScript) (mN mX11_runScript) (mR mX11_runScript) ∈ lw_tg := tg_in 768 rfl rfl
theorem kX11_runScript : MV mX11_runScript 2 := ⟨⟨eX11_runScript, tg_in 30 (by decide +kernel) (by decide +kernel), ⟨by decide +kernel, by decide +kernel⟩, by decide +kernel⟩, tg_in 766 (by decide +kernel) (by decide +kernel), tg_in 767 (by decide +kernel) (by decide +kernel)⟩
theorem zX11_runScript : CZ mX11_runScript := ⟨rfl, rfl⟩
def mX11_observe : MT := (yX11_observe, cX11_observe, 3, (some .int), { frames := 2, cells := 0, slots := 0, locals := 43 })
set_option maxRecDepth 100000 in
theorem eX11_observe : Cond.code (mY mX11_observe) (mB mX11_observe) (mN mX11_observe) (mR mX11_observe) ∈ lw_tg := tg_in 796 rfl rfl
theorem kX11_observe : MV mX11_observe 2 := ⟨⟨eX11_observe, tg_in 30 (by decide +kernel) (by decide +kernel), ⟨by decide +kernel, by decide +kernel⟩, by decide +kernel⟩, tg_in 794 (by decide +kernel) (by decide +kernel), tg_in 795 (by decide +kernel) (by decide +kernel)⟩
theorem zX11_observe : CZ mX11_observe := ⟨rfl, rfl⟩
def mX11_possibleSettings : MT := (yX11_possibleSettings, cX11_possibleSettings, 3, (some .int), { frames := 6, cells := 0, slots := 0, locals := 131 })
set_option maxRecDepth 100000 in
theorem eX11_possibleSettings : Cond.code (mY mX11_possibleSettings) (mB mX11_possibleSettings) (mN mX11_possibleSettings) (mR mX11_possibleSettings) ∈ lw_tg := tg_in 805 rfl rfl
theorem kX11_possibleSettings : MV mX11_possibleSettings 0 := ⟨⟨eX11_possibleSettings, tg_in 30 (by decide +kernel) (by decide +kernel), ⟨by decide +kernel, by decide +kernel⟩, by decide +kernel⟩, tg_in 803 (by decide +kernel) (by decide +kernel), tg_in 804 (by decide +kernel) (by decide +kernel)⟩
theorem zX11_possibleSettings : CZ mX11_possibleSettings := ⟨rfl, rfl⟩
def mX11_noise : MT := (yX11_noise, cX11_noise, 4, (some .int), { frames := 6, cells := 0, slots := 0, locals := 131 })
set_option maxRecDepth 100000 in
theorem eX11_noise : Cond.code (mY mX11_noise) (mB mX11_noise) (mN mX11_noise) (mR mX11_noise) ∈ lw_tg := tg_in 815 rfl rfl
theorem kX11_noise : MV mX11_noise 2 := ⟨⟨eX11_noise, tg_in 30 (by decide +kernel) (by decide +kernel), ⟨by decide +kernel, by decide +kernel⟩, by decide +kernel⟩, tg_in 813 (by decide +kernel) (by decide +kernel), tg_in 814 (by decide +kernel) (by decide +kernel)⟩
theorem zX11_noise : CZ mX11_noise := ⟨rfl, rfl⟩
def mX11_save : MT := (yX11_save, cX11_save, 2, (some .int), { frames := 3, cells := 0, slots := 0, locals := 83 })
set_option maxRecDepth 100000 in
theorem eX11_save : Cond.code (mY mX11_save) (mB mX11_save) (mN mX11_save) (mR mX11_save) ∈ lw_tg := tg_in 826 rfl rfl
theorem kX11_save : MV mX11_save 1 := ⟨⟨eX11_save, tg_in 30 (by decide +kernel) (by decide +kernel), ⟨by decide +kernel, by decide +kernel⟩, by decide +kernel⟩, tg_in 824 (by decide +kernel) (by decide +kernel), tg_in 825 (by decide +kernel) (by decide +kernel)⟩
theorem zX11_save : CZ mX11_save := ⟨rfl, rfl⟩
def mX11_restore : MT := (yX11_restore, cX11_restore, 2, (some .int), { frames := 3, cells := 0, slots := 0, locals := 83 })
set_option maxRecDepth 100000 in
theorem eX11_restore : Cond.code (mY mX11_restore) (mB mX11_restore) (mN mX11_restore) (mR mX11_restore) ∈ lw_tg := tg_in 840 rfl rfl
theorem kX11_restore : MV mX11_restore 1 := ⟨⟨eX11_restore, tg_in 30 (by decide +kernel) (by decide +kernel), ⟨by decide +kernel, by decide +kernel⟩, by decide +kernel⟩, tg_in 838 (by decide +kernel) (by decide +kernel), tg_in 839 (by decide +kernel) (by decide +kernel)⟩
theorem zX11_restore : CZ mX11_restore := ⟨rfl, rfl⟩
def mX11_editDistance : MT := (yX11_editDistance, cX11_editDistance, 2, (some .int), { frames := 6, cells := 0, slots := 0, locals := 131 })
set_option maxRecDepth 100000 in
theorem eX11_editDistance : Cond.code (mY mX11_editDistance) (mB mX11_editDistance) (mN mX11_editDistance) (mR mX11_editDistance) ∈ lw_tg := tg_in 852 rfl rfl
theorem kX11_editDistance : MV mX11_editDistance 1 := ⟨⟨eX11_editDistance, tg_in 30 (by decide +kernel) (by decide +kernel), ⟨by decide +kernel, by decide +kernel⟩, by decide +kernel⟩, tg_in 850 (by decide +kernel) (by decide +kernel), tg_in 851 (by decide +kernel) (by decide +kernel)⟩
theorem zX11_editDistance : CZ mX11_editDistance := ⟨rfl, rfl⟩
def mX11_isWithin : MT := (yX11_isWithin, cX11_isWithin, 3, (some .boolean), { frames := 0, cells := 0, slots := 0, locals := 0 })
set_option maxRecDepth 100000 in
theorem eX11_isWithin : Cond.code (mY mX11_isWithin) (mB mX11_isWithin) (mN mX11_isWithin) (mR mX11_isWithin) ∈ lw_tg := tg_in 302 rfl rfl
theorem kX11_isWithin : MS mX11_isWithin 3 := ⟨⟨eX11_isWithin, tg_in 30 (by decide +kernel) (by decide +kernel), ⟨by decide +kernel, by decide +kernel⟩, by decide +kernel⟩, tg_in 301 (by decide +kernel) (by decide +kernel)⟩
theorem zX11_isWithin : CZ mX11_isWithin := ⟨rfl, rfl⟩
def mX11_isBit : MT := (yX11_isBit, cX11_isBit, 1, (some .boolean), { frames := 1, cells := 0, slots := 0, locals := 22 })
set_option maxRecDepth 100000 in
theorem eX11_isBit : Cond.code (mY mX11_isBit) (mB mX11_isBit) (mN mX11_isBit) (mR mX11_isBit) ∈ lw_tg := tg_in 612 rfl rfl
theorem kX11_isBit : MS mX11_isBit 1 := ⟨⟨eX11_isBit, tg_in 30 (by decide +kernel) (by decide +kernel), ⟨by decide +kernel, by decide +kernel⟩, by decide +kernel⟩, tg_in 611 (by decide +kernel) (by decide +kernel)⟩
theorem zX11_isBit : CZ mX11_isBit := ⟨rfl, rfl⟩
def mX11_takePunched : MT := (yX11_takePunched, cX11_takePunched, 1, (some .boolean), { frames := 3, cells := 0, slots := 0, locals := 83 })
set_option maxRecDepth 100000 in
theorem eX11_takePunched : Cond.code (mY mX11_takePunched) (mB mX11_takePunched) (mN mX11_takePunched) (mR mX11_takePunched) ∈ lw_tg := tg_in 571 rfl rfl
theorem kX11_takePunched : MV mX11_takePunched 0 := ⟨⟨eX11_takePunched, tg_in 30 (by decide +kernel) (by decide +kernel), ⟨by decide +kernel, by decide +kernel⟩, by decide +kernel⟩, tg_in 570 (by decide +kernel) (by decide +kernel), tg_in 4 (by decide +kernel) (by decide +kernel)⟩
theorem zX11_takePunched : CZ mX11_takePunched := ⟨rfl, rfl⟩
def mX11_printPage : MT := (yX11_printPage, cX11_printPage, 1, none, { frames := 6, cells := 0, slots := 0, locals := 131 })
set_option maxRecDepth 100000 in
theorem eX11_printPage : Cond.code (mY mX11_printPage) (mB mX11_printPage) (mN mX11_printPage) (mR mX11_printPage) ∈ lw_tg := tg_in 689 rfl rfl
theorem kX11_printPage : MV mX11_printPage 0 := ⟨⟨eX11_printPage, tg_in 30 (by decide +kernel) (by decide +kernel), ⟨by decide +kernel, by decide +kernel⟩, by decide +kernel⟩, tg_in 688 (by decide +kernel) (by decide +kernel), tg_in 7 (by decide +kernel) (by decide +kernel)⟩
theorem zX11_printPage : CZ mX11_printPage := ⟨rfl, rfl⟩
def mX11_reckonConfidence : MT := (yX11_reckonConfidence, cX11_reckonConfidence, 3, (some .int), { frames := 4, cells := 0, slots := 0, locals := 93 })
set_option maxRecDepth 100000 in
theorem eX11_reckonConfidence : Cond.code (mY mX11_reckonConfidence) (mB mX11_reckonConfidence) (mN mX11_reckonConfidence) (mR mX11_reckonConfidence) ∈ lw_tg := tg_in 741 rfl rfl
theorem kX11_reckonConfidence : MV mX11_reckonConfidence 2 := ⟨⟨eX11_reckonConfidence, tg_in 30 (by decide +kernel) (by decide +kernel), ⟨by decide +kernel, by decide +kernel⟩, by decide +kernel⟩, tg_in 740 (by decide +kernel) (by decide +kernel), tg_in 11 (by decide +kernel) (by decide +kernel)⟩
theorem zX11_reckonConfidence : CZ mX11_reckonConfidence := ⟨rfl, rfl⟩
def mX12_init : MT := (yX12_init, cX12_init, 1, none, { frames := 1, cells := 16, slots := 2869, locals := 24 })
set_option maxRecDepth 100000 in
theorem eX12_init : Cond.code (mY mX12_init) (mB mX12_init) (mN mX12_init) (mR mX12_init) ∈ lw_tg := tg_in 866 rfl rfl
theorem kX12_init : MI mX12_init 0 := ⟨⟨eX12_init, tg_in 41 (by decide +kernel) (by decide +kernel), ⟨by decide +kernel, by decide +kernel⟩, by decide +kernel⟩, tg_in 865 (by decide +kernel) (by decide +kernel), rfl, rfl⟩
def mX12_copy : MT := (yX12_copy, cX12_copy, 3, none, { frames := 0, cells := 0, slots := 0, locals := 0 })
set_option maxRecDepth 100000 in
theorem eX12_copy : Cond.code (mY mX12_copy) (mB mX12_copy) (mN mX12_copy) (mR mX12_copy) ∈ lw_tg := tg_in 1021 rfl rfl
theorem kX12_copy : MS mX12_copy 2 := ⟨⟨eX12_copy, tg_in 41 (by decide +kernel) (by decide +kernel), ⟨by decide +kernel, by decide +kernel⟩, by decide +kernel⟩, tg_in 1020 (by decide +kernel) (by decide +kernel)⟩
theorem zX12_copy : CZ mX12_copy := ⟨rfl, rfl⟩
def mX12_in : MT := (yX12_in, cX12_in, 6, (some .boolean), { frames := 0, cells := 0, slots := 0, locals := 0 })
set_option maxRecDepth 100000 in
theorem eX12_in : Cond.code (mY mX12_in) (mB mX12_in) (mN mX12_in) (mR mX12_in) ∈ lw_tg := tg_in 948 rfl rfl
theorem kX12_in : MS mX12_in 3 := ⟨⟨eX12_in, tg_in 41 (by decide +kernel) (by decide +kernel), ⟨by decide +kernel, by decide +kernel⟩, by decide +kernel⟩, tg_in 947 (by decide +kernel) (by decide +kernel)⟩
theorem zX12_in : CZ mX12_in := ⟨rfl, rfl⟩
def mX12_has : MT := (yX12_has, cX12_has, 2, (some .boolean), { frames := 0, cells := 0, slots := 0, locals := 0 })
set_option maxRecDepth 100000 in
theorem eX12_has : Cond.code (mY mX12_has) (mB mX12_has) (mN mX12_has) (mR mX12_has) ∈ lw_tg := tg_in 1138 rfl rfl
theorem kX12_has : MS mX12_has 2 := ⟨⟨eX12_has, tg_in 41 (by decide +kernel) (by decide +kernel), ⟨by decide +kernel, by decide +kernel⟩, by decide +kernel⟩, tg_in 1137 (by decide +kernel) (by decide +kernel)⟩
theorem zX12_has : CZ mX12_has := ⟨rfl, rfl⟩
def mX12_figureOf : MT := (yX12_figureOf, cX12_figureOf, 1, (some .int), { frames := 0, cells := 0, slots := 0, locals := 0 })
set_option maxRecDepth 100000 in
theorem eX12_figureOf : Cond.code (mY mX12_figureOf) (mB mX12_figureOf) (mN mX12_figureOf) (mR mX12_figureOf) ∈ lw_tg := tg_in 964 rfl rfl
theorem kX12_figureOf : MS mX12_figureOf 1 := ⟨⟨eX12_figureOf, tg_in 41 (by decide +kernel) (by decide +kernel), ⟨by decide +kernel, by decide +kernel⟩, by decide +kernel⟩, tg_in 963 (by decide +kernel) (by decide +kernel)⟩
theorem zX12_figureOf : CZ mX12_figureOf := ⟨rfl, rfl⟩
def mX12_printOf : MT := (yX12_printOf, cX12_printOf, 2, (some .int), { frames := 1, cells := 0, slots := 0, locals := 20 })
set_option maxRecDepth 100000 in
theorem eX12_printOf : Cond.code (mY mX12_printOf) (mB mX12_printOf) (mN mX12_printOf) (mR mX12_printOf) ∈ lw_tg := tg_in 990 rfl rfl
theorem kX12_printOf : MS mX12_printOf 2 := ⟨⟨eX12_printOf, tg_in 41 (by decide +kernel) (by decide +kernel), ⟨by decide +kernel, by decide +kernel⟩, by decide +kernel⟩, tg_in 989 (by decide +kernel) (by decide +kernel)⟩
theorem zX12_printOf : CZ mX12_printOf := ⟨rfl, rfl⟩
def mX12_caseAfter : MT := (yX12_caseAfter, cX12_caseAfter, 3, (some .int), { frames := 0, cells := 0, slots := 0, locals := 0 })
set_option maxRecDepth 100000 in
theorem eX12_caseAfter : Cond.code (mY mX12_caseAfter) (mB mX12_caseAfter) (mN mX12_caseAfter) (mR mX12_caseAfter) ∈ lw_tg := tg_in 993 rfl rfl
theorem kX12_caseAfter : MS mX12_caseAfter 3 := ⟨⟨eX12_caseAfter, tg_in 41 (by decide +kernel) (by decide +kernel), ⟨by decide +kernel, by decide +kernel⟩, by decide +kernel⟩, tg_in 992 (by decide +kernel) (by decide +kernel)⟩
theorem zX12_caseAfter : CZ mX12_caseAfter := ⟨rfl, rfl⟩
def mX12_codeOf : MT := (yX12_codeOf, cX12_codeOf, 3, (some .int), { frames := 1, cells := 0, slots := 0, locals := 25 })
set_option maxRecDepth 100000 in
theorem eX12_codeOf : Cond.code (mY mX12_codeOf) (mB mX12_codeOf) (mN mX12_codeOf) (mR mX12_codeOf) ∈ lw_tg := tg_in 959 rfl rfl
theorem kX12_codeOf : MS mX12_codeOf 1 := ⟨⟨eX12_codeOf, tg_in 41 (by decide +kernel) (by decide +kernel), ⟨by decide +kernel, by decide +kernel⟩, by decide +kernel⟩, tg_in 958 (by decide +kernel) (by decide +kernel)⟩
theorem zX12_codeOf : CZ mX12_codeOf := ⟨rfl, rfl⟩
def mX12_layPrints : MT := (yX12_layPrints, cX12_layPrints, 4, none, { frames := 2, cells := 0, slots := 0, locals := 41 })
set_option maxRecDepth 100000 in
theorem eX12_layPrints : Cond.code (mY mX12_layPrints) (mB mX12_layPrints) (mN mX12_layPrints) (mR mX12_layPrints) ∈ lw_tg := tg_in 987 rfl rfl
theorem kX12_layPrints : MS mX12_layPrints 3 := ⟨⟨eX12_layPrints, tg_in 41 (by decide +kernel) (by decide +kernel), ⟨by decide +kernel, by decide +kernel⟩, by decide +kernel⟩, tg_in 986 (by decide +kernel) (by decide +kernel)⟩
theorem zX12_layPrints : CZ mX12_layPrints := ⟨rfl, rfl⟩
def mX12_layText : MT := (yX12_layText, cX12_layText, 3, none, { frames := 3, cells := 0, slots := 0, locals := 64 })
set_option maxRecDepth 100000 in
theorem eX12_layText : Cond.code (mY mX12_layText) (mB mX12_layText) (mN mX12_layText) (mR mX12_layText) ∈ lw_tg := tg_in 984 rfl rfl
theorem kX12_layText : MV mX12_layText 1 := ⟨⟨eX12_layText, tg_in 41 (by decide +kernel) (by decide +kernel), ⟨by decide +kernel, by decide +kernel⟩, by decide +kernel⟩, tg_in 983 (by decide +kernel) (by decide +kernel), tg_in 16 (by decide +kernel) (by decide +kernel)⟩
theorem zX12_layText : CZ mX12_layText := ⟨rfl, rfl⟩
def mX12_laySecond : MT := (yX12_laySecond, cX12_laySecond, 3, none, { frames := 3, cells := 0, slots := 0, locals := 64 })
set_option maxRecDepth 100000 in
theorem eX12_laySecond : Cond.code (mY mX12_laySecond) (mB mX12_laySecond) (mN mX12_laySecond) (mR mX12_laySecond) ∈ lw_tg := tg_in 1059 rfl rfl
theorem kX12_laySecond : MV mX12_laySecond 1 := ⟨⟨eX12_laySecond, tg_in 41 (by decide +kernel) (by decide +kernel), ⟨by decide +kernel, by decide +kernel⟩, by decide +kernel⟩, tg_in 1058 (by decide +kernel) (by decide +kernel), tg_in 20 (by decide +kernel) (by decide +kernel)⟩
theorem zX12_laySecond : CZ mX12_laySecond := ⟨rfl, rfl⟩
def mX12_isSameText : MT := (yX12_isSameText, cX12_isSameText, 3, (some .boolean), { frames := 0, cells := 0, slots := 0, locals := 0 })
set_option maxRecDepth 100000 in
theorem eX12_isSameText : Cond.code (mY mX12_isSameText) (mB mX12_isSameText) (mN mX12_isSameText) (mR mX12_isSameText) ∈ lw_tg := tg_in 1063 rfl rfl
theorem kX12_isSameText : MV mX12_isSameText 0 := ⟨⟨eX12_isSameText, tg_in 41 (by decide +kernel) (by decide +kernel), ⟨by decide +kernel, by decide +kernel⟩, by decide +kernel⟩, tg_in 1062 (by decide +kernel) (by decide +kernel), tg_in 21 (by decide +kernel) (by decide +kernel)⟩
theorem zX12_isSameText : CZ mX12_isSameText := ⟨rfl, rfl⟩
def mX12_append : MT := (yX12_append, cX12_append, 2, (some .int), { frames := 1, cells := 0, slots := 0, locals := 25 })
set_option maxRecDepth 100000 in
theorem eX12_append : Cond.code (mY mX12_append) (mB mX12_append) (mN mX12_append) (mR mX12_append) ∈ lw_tg := tg_in 944 rfl rfl
theorem kX12_append : MV mX12_append 1 := ⟨⟨eX12_append, tg_in 41 (by decide +kernel) (by decide +kernel), ⟨by decide +kernel, by decide +kernel⟩, by decide +kernel⟩, tg_in 942 (by decide +kernel) (by decide +kernel), tg_in 943 (by decide +kernel) (by decide +kernel)⟩
theorem zX12_append : CZ mX12_append := ⟨rfl, rfl⟩
def mX12_clearMessage : MT := (yX12_clearMessage, cX12_clearMessage, 2, (some .int), { frames := 0, cells := 0, slots := 0, locals := 0 })
set_option maxRecDepth 100000 in
theorem eX12_clearMessage : Cond.code (mY mX12_clearMessage) (mB mX12_clearMessage) (mN mX12_clearMessage) (mR mX12_clearMessage) ∈ lw_tg := tg_in 952 rfl rfl
theorem kX12_clearMessage : MV mX12_clearMessage 0 := ⟨⟨eX12_clearMessage, tg_in 41 (by decide +kernel) (by decide +kernel), ⟨by decide +kernel, by decide +kernel⟩, by decide +kernel⟩, tg_in 950 (by decide +kernel) (by decide +kernel), tg_in 951 (by decide +kernel) (by decide +kernel)⟩
theorem zX12_clearMessage : CZ mX12_clearMessage := ⟨rfl, rfl⟩
def mX12_errorPosition : MT := (yX12_errorPosition, cX12_errorPosition, 2, (some .int), { frames := 2, cells := 0, slots := 0, locals := 47 })
set_option maxRecDepth 100000 in
theorem eX12_errorPosition : Cond.code (mY mX12_errorPosition) (mB mX12_errorPosition) (mN mX12_errorPosition) (mR mX12_errorPosition) ∈ lw_tg := tg_in 956 rfl rfl
theorem kX12_errorPosition : MV mX12_errorPosition 0 := ⟨⟨eX12_errorPosition, tg_in 41 (by decide +kernel) (by decide +kernel), ⟨by decide +kernel, by decide +kernel⟩, by decide +kernel⟩, tg_in 954 (by decide +kernel) (by decide +kernel), tg_in 955 (by decide +kernel) (by decide +kernel)⟩
theorem zX12_errorPosition : CZ mX12_errorPosition := ⟨rfl, rfl⟩
def mX12_length : MT := (yX12_length, cX12_length, 1, (some .int), { frames := 0, cells := 0, slots := 0, locals := 0 })
set_option maxRecDepth 100000 in
theorem eX12_length : Cond.code (mY mX12_length) (mB mX12_length) (mN mX12_length) (mR mX12_length) ∈ lw_tg := tg_in 968 rfl rfl
theorem kX12_length : MV mX12_length 0 := ⟨⟨eX12_length, tg_in 41 (by decide +kernel) (by decide +kernel), ⟨by decide +kernel, by decide +kernel⟩, by decide +kernel⟩, tg_in 966 (by decide +kernel) (by decide +kernel), tg_in 967 (by decide +kernel) (by decide +kernel)⟩
theorem zX12_length : CZ mX12_length := ⟨rfl, rfl⟩
def mX12_isIndex : MT := (yX12_isIndex, cX12_isIndex, 2, (some .boolean), { frames := 1, cells := 0, slots := 0, locals := 25 })
set_option maxRecDepth 100000 in
theorem eX12_isIndex : Cond.code (mY mX12_isIndex) (mB mX12_isIndex) (mN mX12_isIndex) (mR mX12_isIndex) ∈ lw_tg := tg_in 976 rfl rfl
theorem kX12_isIndex : MV mX12_isIndex 1 := ⟨⟨eX12_isIndex, tg_in 41 (by decide +kernel) (by decide +kernel), ⟨by decide +kernel, by decide +kernel⟩, by decide +kernel⟩, tg_in 975 (by decide +kernel) (by decide +kernel), tg_in 15 (by decide +kernel) (by decide +kernel)⟩
theorem zX12_isIndex : CZ mX12_isIndex := ⟨rfl, rfl⟩
def mX12_codeAt : MT := (yX12_codeAt, cX12_codeAt, 2, (some .int), { frames := 2, cells := 0, slots := 0, locals := 46 })
set_option maxRecDepth 100000 in
theorem eX12_codeAt : Cond.code (mY mX12_codeAt) (mB mX12_codeAt) (mN mX12_codeAt) (mR mX12_codeAt) ∈ lw_tg := tg_in 972 rfl rfl
theorem kX12_codeAt : MV mX12_codeAt 1 := ⟨⟨eX12_codeAt, tg_in 41 (by decide +kernel) (by decide +kernel), ⟨by decide +kernel, by decide +kernel⟩, by decide +kernel⟩, tg_in 970 (by decide +kernel) (by decide +kernel), tg_in 971 (by decide +kernel) (by decide +kernel)⟩
theorem zX12_codeAt : CZ mX12_codeAt := ⟨rfl, rfl⟩
def mX12_caseAt : MT := (yX12_caseAt, cX12_caseAt, 2, (some .int), { frames := 4, cells := 0, slots := 0, locals := 86 })
set_option maxRecDepth 100000 in
theorem eX12_caseAt : Cond.code (mY mX12_caseAt) (mB mX12_caseAt) (mN mX12_caseAt) (mR mX12_caseAt) ∈ lw_tg := tg_in 980 rfl rfl
theorem kX12_caseAt : MV mX12_caseAt 1 := ⟨⟨eX12_caseAt, tg_in 41 (by decide +kernel) (by decide +kernel), ⟨by decide +kernel, by decide +kernel⟩, by decide +kernel⟩, tg_in 978 (by decide +kernel) (by decide +kernel), tg_in 979 (by decide +kernel) (by decide +kernel)⟩
theorem zX12_caseAt : CZ mX12_caseAt := ⟨rfl, rfl⟩
def mX12_printedLength : MT := (yX12_printedLength, cX12_printedLength, 1, (some .int), { frames := 4, cells := 0, slots := 0, locals := 86 })
set_option maxRecDepth 100000 in
theorem eX12_printedLength : Cond.code (mY mX12_printedLength) (mB mX12_printedLength) (mN mX12_printedLength) (mR mX12_printedLength) ∈ lw_tg := tg_in 997 rfl rfl
theorem kX12_printedLength : MV mX12_printedLength 0 := ⟨⟨eX12_printedLength, tg_in 41 (by decide +kernel) (by decide +kernel), ⟨by decide +kernel, by decide +kernel⟩, by decide +kernel⟩, tg_in 995 (by decide +kernel) (by decide +kernel), tg_in 996 (by decide +kernel) (by decide +kernel)⟩
theorem zX12_printedLength : CZ mX12_printedLength := ⟨rfl, rfl⟩
def mX12_printedAt : MT := (yX12_printedAt, cX12_printedAt, 2, (some .int), { frames := 4, cells := 0, slots := 0, locals := 86 })
set_option maxRecDepth 100000 in
theorem eX12_printedAt : Cond.code (mY mX12_printedAt) (mB mX12_printedAt) (mN mX12_printedAt) (mR mX12_printedAt) ∈ lw_tg := tg_in 1001 rfl rfl
theorem kX12_printedAt : MV mX12_printedAt 1 := ⟨⟨eX12_printedAt, tg_in 41 (by decide +kernel) (by decide +kernel), ⟨by decide +kernel, by decide +kernel⟩, by decide +kernel⟩, tg_in 999 (by decide +kernel) (by decide +kernel), tg_in 1000 (by decide +kernel) (by decide +kernel)⟩
theorem zX12_printedAt : CZ mX12_printedAt := ⟨rfl, rfl⟩
def mX12_note : MT := (yX12_note, cX12_note, 2, none, { frames := 0, cells := 0, slots := 0, locals := 0 })
set_option maxRecDepth 100000 in
theorem eX12_note : Cond.code (mY mX12_note) (mB mX12_note) (mN mX12_note) (mR mX12_note) ∈ lw_tg := tg_in 1010 rfl rfl
theorem kX12_note : MV mX12_note 0 := ⟨⟨eX12_note, tg_in 41 (by decide +kernel) (by decide +kernel), ⟨by decide +kernel, by decide +kernel⟩, by decide +kernel⟩, tg_in 1009 (by decide +kernel) (by decide +kernel), tg_in 17 (by decide +kernel) (by decide +kernel)⟩
theorem zX12_note : CZ mX12_note := ⟨rfl, rfl⟩
def mX12_put : MT := (yX12_put, cX12_put, 2, (some .boolean), { frames := 0, cells := 0, slots := 0, locals := 0 })
set_option maxRecDepth 100000 in
theorem eX12_put : Cond.code (mY mX12_put) (mB mX12_put) (mN mX12_put) (mR mX12_put) ∈ lw_tg := tg_in 1013 rfl rfl
theorem kX12_put : MS mX12_put 2 := ⟨⟨eX12_put, tg_in 41 (by decide +kernel) (by decide +kernel), ⟨by decide +kernel, by decide +kernel⟩, by decide +kernel⟩, tg_in 1012 (by decide +kernel) (by decide +kernel)⟩
theorem zX12_put : CZ mX12_put := ⟨rfl, rfl⟩
def mX12_caseOfAll : MT := (yX12_caseOfAll, cX12_caseOfAll, 3, (some .int), { frames := 1, cells := 0, slots := 0, locals := 22 })
set_option maxRecDepth 100000 in
theorem eX12_caseOfAll : Cond.code (mY mX12_caseOfAll) (mB mX12_caseOfAll) (mN mX12_caseOfAll) (mR mX12_caseOfAll) ∈ lw_tg := tg_in 1027 rfl rfl
theorem kX12_caseOfAll : MS mX12_caseOfAll 1 := ⟨⟨eX12_caseOfAll, tg_in 41 (by decide +kernel) (by decide +kernel), ⟨by decide +kernel, by decide +kernel⟩, by decide +kernel⟩, tg_in 1026 (by decide +kernel) (by decide +kernel)⟩
theorem zX12_caseOfAll : CZ mX12_caseOfAll := ⟨rfl, rfl⟩
def mX12_encode : MT := (yX12_encode, cX12_encode, 6, (some .boolean), { frames := 2, cells := 0, slots := 0, locals := 47 })
set_option maxRecDepth 100000 in
theorem eX12_encode : Cond.code (mY mX12_encode) (mB mX12_encode) (mN mX12_encode) (mR mX12_encode) ∈ lw_tg := tg_in 1024 rfl rfl
theorem kX12_encode : MS mX12_encode 2 := ⟨⟨eX12_encode, tg_in 41 (by decide +kernel) (by decide +kernel), ⟨by decide +kernel, by decide +kernel⟩, by decide +kernel⟩, tg_in 1023 (by decide +kernel) (by decide +kernel)⟩
theorem zX12_encode : CZ mX12_encode := ⟨rfl, rfl⟩
def mX12_punch : MT := (yX12_punch, cX12_punch, 3, (some .int), { frames := 1, cells := 0, slots := 0, locals := 25 })
set_option maxRecDepth 100000 in
theorem eX12_punch : Cond.code (mY mX12_punch) (mB mX12_punch) (mN mX12_punch) (mR mX12_punch) ∈ lw_tg := tg_in 1005 rfl rfl
theorem kX12_punch : MV mX12_punch 1 := ⟨⟨eX12_punch, tg_in 41 (by decide +kernel) (by decide +kernel), ⟨by decide +kernel, by decide +kernel⟩, by decide +kernel⟩, tg_in 1003 (by decide +kernel) (by decide +kernel), tg_in 1004 (by decide +kernel) (by decide +kernel)⟩
theorem zX12_punch : CZ mX12_punch := ⟨rfl, rfl⟩
def mX12_encodeMessage : MT := (yX12_encodeMessage, cX12_encodeMessage, 3, (some .int), { frames := 3, cells := 0, slots := 0, locals := 72 })
set_option maxRecDepth 100000 in
theorem eX12_encodeMessage : Cond.code (mY mX12_encodeMessage) (mB mX12_encodeMessage) (mN mX12_encodeMessage) (mR mX12_encodeMessage) ∈ lw_tg := tg_in 1017 rfl rfl
theorem kX12_encodeMessage : MV mX12_encodeMessage 0 := ⟨⟨eX12_encodeMessage, tg_in 41 (by decide +kernel) (by decide +kernel), ⟨by decide +kernel, by decide +kernel⟩, by decide +kernel⟩, tg_in 1015 (by decide +kernel) (by decide +kernel), tg_in 1016 (by decide +kernel) (by decide +kernel)⟩
theorem zX12_encodeMessage : CZ mX12_encodeMessage := ⟨rfl, rfl⟩
def mX12_take : MT := (yX12_take, cX12_take, 2, (some .int), { frames := 1, cells := 0, slots := 0, locals := 22 })
set_option maxRecDepth 100000 in
theorem eX12_take : Cond.code (mY mX12_take) (mB mX12_take) (mN mX12_take) (mR mX12_take) ∈ lw_tg := tg_in 1031 rfl rfl
theorem kX12_take : MV mX12_take 1 := ⟨⟨eX12_take, tg_in 41 (by decide +kernel) (by decide +kernel), ⟨by decide +kernel, by decide +kernel⟩, by decide +kernel⟩, tg_in 1030 (by decide +kernel) (by decide +kernel), tg_in 18 (by decide +kernel) (by decide +kernel)⟩
theorem zX12_take : CZ mX12_take := ⟨rfl, rfl⟩
def mX12_isBlank : MT := (yX12_isBlank, cX12_isBlank, 3, (some .boolean), { frames := 0, cells := 0, slots := 0, locals := 0 })
set_option maxRecDepth 100000 in
theorem eX12_isBlank : Cond.code (mY mX12_isBlank) (mB mX12_isBlank) (mN mX12_isBlank) (mR mX12_isBlank) ∈ lw_tg := tg_in 1039 rfl rfl
theorem kX12_isBlank : MV mX12_isBlank 1 := ⟨⟨eX12_isBlank, tg_in 41 (by decide +kernel) (by decide +kernel), ⟨by decide +kernel, by decide +kernel⟩, by decide +kernel⟩, tg_in 1038 (by decide +kernel) (by decide +kernel), tg_in 19 (by decide +kernel) (by decide +kernel)⟩
theorem zX12_isBlank : CZ mX12_isBlank := ⟨rfl, rfl⟩
def mX12_encodeWrapped : MT := (yX12_encodeWrapped, cX12_encodeWrapped, 6, (some .int), { frames := 3, cells := 0, slots := 0, locals := 72 })
set_option maxRecDepth 100000 in
theorem eX12_encodeWrapped : Cond.code (mY mX12_encodeWrapped) (mB mX12_encodeWrapped) (mN mX12_encodeWrapped) (mR mX12_encodeWrapped) ∈ lw_tg := tg_in 1035 rfl rfl
theorem kX12_encodeWrapped : MV mX12_encodeWrapped 0 := ⟨⟨eX12_encodeWrapped, tg_in 41 (by decide +kernel) (by decide +kernel), ⟨by decide +kernel, by decide +kernel⟩, by decide +kernel⟩, tg_in 1033 (by decide +kernel) (by decide +kernel), tg_in 1034 (by decide +kernel) (by decide +kernel)⟩
theorem zX12_encodeWrapped : CZ mX12_encodeWrapped := ⟨rfl, rfl⟩
def mX12_takeOut : MT := (yX12_takeOut, cX12_takeOut, 3, none, { frames := 0, cells := 0, slots := 0, locals := 0 })
set_option maxRecDepth 100000 in
theorem eX12_takeOut : Cond.code (mY mX12_takeOut) (mB mX12_takeOut) (mN mX12_takeOut) (mR mX12_takeOut) ∈ lw_tg := tg_in 1046 rfl rfl
theorem kX12_takeOut : MS mX12_takeOut 2 := ⟨⟨eX12_takeOut, tg_in 41 (by decide +kernel) (by decide +kernel), ⟨by decide +kernel, by decide +kernel⟩, by decide +kernel⟩, tg_in 1045 (by decide +kernel) (by decide +kernel)⟩
theorem zX12_takeOut : CZ mX12_takeOut := ⟨rfl, rfl⟩
def mX12_remove : MT := (yX12_remove, cX12_remove, 3, (some .int), { frames := 2, cells := 0, slots := 0, locals := 46 })
set_option maxRecDepth 100000 in
theorem eX12_remove : Cond.code (mY mX12_remove) (mB mX12_remove) (mN mX12_remove) (mR mX12_remove) ∈ lw_tg := tg_in 1043 rfl rfl
theorem kX12_remove : MV mX12_remove 1 := ⟨⟨eX12_remove, tg_in 41 (by decide +kernel) (by decide +kernel), ⟨by decide +kernel, by decide +kernel⟩, by decide +kernel⟩, tg_in 1041 (by decide +kernel) (by decide +kernel), tg_in 1042 (by decide +kernel) (by decide +kernel)⟩
theorem zX12_remove : CZ mX12_remove := ⟨rfl, rfl⟩
def mX12_flip : MT := (yX12_flip, cX12_flip, 3, (some .int), { frames := 2, cells := 0, slots := 0, locals := 46 })
set_option maxRecDepth 100000 in
theorem eX12_flip : Cond.code (mY mX12_flip) (mB mX12_flip) (mN mX12_flip) (mR mX12_flip) ∈ lw_tg := tg_in 1050 rfl rfl
theorem kX12_flip : MV mX12_flip 2 := ⟨⟨eX12_flip, tg_in 41 (by decide +kernel) (by decide +kernel), ⟨by decide +kernel, by decide +kernel⟩, by decide +kernel⟩, tg_in 1048 (by decide +kernel) (by decide +kernel), tg_in 1049 (by decide +kernel) (by decide +kernel)⟩
theorem zX12_flip : CZ mX12_flip := ⟨rfl, rfl⟩
def mX12_compact : MT := (yX12_compact, cX12_compact, 4, (some .int), { frames := 4, cells := 0, slots := 0, locals := 86 })
set_option maxRecDepth 100000 in
theorem eX12_compact : Cond.code (mY mX12_compact) (mB mX12_compact) (mN mX12_compact) (mR mX12_compact) ∈ lw_tg := tg_in 1055 rfl rfl
theorem kX12_compact : MV mX12_compact 0 := ⟨⟨eX12_compact, tg_in 41 (by decide +kernel) (by decide +kernel), ⟨by decide +kernel, by decide +kernel⟩, by decide +kernel⟩, tg_in 1053 (by decide +kernel) (by decide +kernel), tg_in 1054 (by decide +kernel) (by decide +kernel)⟩
theorem zX12_compact : CZ mX12_compact := ⟨rfl, rfl⟩
def mX12_caseFor : MT := (yX12_caseFor, cX12_caseFor, 3, (some .int), { frames := 2, cells := 0, slots := 0, locals := 41 })
set_option maxRecDepth 100000 in
theorem eX12_caseFor : Cond.code (mY mX12_caseFor) (mB mX12_caseFor) (mN mX12_caseFor) (mR mX12_caseFor) ∈ lw_tg := tg_in 1070 rfl rfl
theorem kX12_caseFor : MS mX12_caseFor 3 := ⟨⟨eX12_caseFor, tg_in 41 (by decide +kernel) (by decide +kernel), ⟨by decide +kernel, by decide +kernel⟩, by decide +kernel⟩, tg_in 1069 (by decide +kernel) (by decide +kernel)⟩
theorem zX12_caseFor : CZ mX12_caseFor := ⟨rfl, rfl⟩
def mX12_repair : MT := (yX12_repair, cX12_repair, 9, (some .int), { frames := 3, cells := 0, slots := 0, locals := 63 })
set_option maxRecDepth 100000 in
theorem eX12_repair : Cond.code (mY mX12_repair) (mB mX12_repair) (mN mX12_repair) (mR mX12_repair) ∈ lw_tg := tg_in 1067 rfl rfl
theorem kX12_repair : MV mX12_repair 0 := ⟨⟨eX12_repair, tg_in 41 (by decide +kernel) (by decide +kernel), ⟨by decide +kernel, by decide +kernel⟩, by decide +kernel⟩, tg_in 1065 (by decide +kernel) (by decide +kernel), tg_in 1066 (by decide +kernel) (by decide +kernel)⟩
theorem zX12_repair : CZ mX12_repair := ⟨rfl, rfl⟩
def mX12_turn : MT := (yX12_turn, cX12_turn, 6, (some .int), { frames := 1, cells := 0, slots := 0, locals := 25 })
set_option maxRecDepth 100000 in
theorem eX12_turn : Cond.code (mY mX12_turn) (mB mX12_turn) (mN mX12_turn) (mR mX12_turn) ∈ lw_tg := tg_in 1078 rfl rfl
theorem kX12_turn : MV mX12_turn 4 := ⟨⟨eX12_turn, tg_in 41 (by decide +kernel) (by decide +kernel), ⟨by decide +kernel, by decide +kernel⟩, by decide +kernel⟩, tg_in 1077 (by decide +kernel) (by decide +kernel), tg_in 22 (by decide +kernel) (by decide +kernel)⟩
theorem zX12_turn : CZ mX12_turn := ⟨rfl, rfl⟩
def mX12_setStartCase : MT := (yX12_setStartCase, cX12_setStartCase, 2, (some .int), { frames := 2, cells := 0, slots := 0, locals := 50 })
set_option maxRecDepth 100000 in
theorem eX12_setStartCase : Cond.code (mY mX12_setStartCase) (mB mX12_setStartCase) (mN mX12_setStartCase) (mR mX12_setStartCase) ∈ lw_tg := tg_in 1074 rfl rfl
theorem kX12_setStartCase : MV mX12_setStartCase 1 := ⟨⟨eX12_setStartCase, tg_in 41 (by decide +kernel) (by decide +kernel), ⟨by decide +kernel, by decide +kernel⟩, by decide +kernel⟩, tg_in 1072 (by decide +kernel) (by decide +kernel), tg_in 1073 (by decide +kernel) (by decide +kernel)⟩
theorem zX12_setStartCase : CZ mX12_setStartCase := ⟨rfl, rfl⟩
def mX12_setUnshiftOnSpace : MT := (yX12_setUnshiftOnSpace, cX12_setUnshiftOnSpace, 2, (some .int), { frames := 2, cells := 0, slots := 0, locals := 50 })
set_option maxRecDepth 100000 in
theorem eX12_setUnshiftOnSpace : Cond.code (mY mX12_setUnshiftOnSpace) (mB mX12_setUnshiftOnSpace) (mN mX12_setUnshiftOnSpace) (mR mX12_setUnshiftOnSpace) ∈ lw_tg := tg_in 1082 rfl rfl
theorem kX12_setUnshiftOnSpace : MV mX12_setUnshiftOnSpace 1 := ⟨⟨eX12_setUnshiftOnSpace, tg_in 41 (by decide +kernel) (by decide +kernel), ⟨by decide +kernel, by decide +kernel⟩, by decide +kernel⟩, tg_in 1080 (by decide +kernel) (by decide +kernel), tg_in 1081 (by decide +kernel) (by decide +kernel)⟩
theorem zX12_setUnshiftOnSpace : CZ mX12_setUnshiftOnSpace := ⟨rfl, rfl⟩
def mX12_setWidth : MT := (yX12_setWidth, cX12_setWidth, 2, (some .int), { frames := 2, cells := 0, slots := 0, locals := 50 })
set_option maxRecDepth 100000 in
theorem eX12_setWidth : Cond.code (mY mX12_setWidth) (mB mX12_setWidth) (mN mX12_setWidth) (mR mX12_setWidth) ∈ lw_tg := tg_in 1086 rfl rfl
theorem kX12_setWidth : MV mX12_setWidth 1 := ⟨⟨eX12_setWidth, tg_in 41 (by decide +kernel) (by decide +kernel), ⟨by decide +kernel, by decide +kernel⟩, by decide +kernel⟩, tg_in 1084 (by decide +kernel) (by decide +kernel), tg_in 1085 (by decide +kernel) (by decide +kernel)⟩
theorem zX12_setWidth : CZ mX12_setWidth := ⟨rfl, rfl⟩
def mX12_undo : MT := (yX12_undo, cX12_undo, 2, (some .int), { frames := 0, cells := 0, slots := 0, locals := 0 })
set_option maxRecDepth 100000 in
theorem eX12_undo : Cond.code (mY mX12_undo) (mB mX12_undo) (mN mX12_undo) (mR mX12_undo) ∈ lw_tg := tg_in 1090 rfl rfl
theorem kX12_undo : MV mX12_undo 0 := ⟨⟨eX12_undo, tg_in 41 (by decide +kernel) (by decide +kernel), ⟨by decide +kernel, by decide +kernel⟩, by decide +kernel⟩, tg_in 1088 (by decide +kernel) (by decide +kernel), tg_in 1089 (by decide +kernel) (by decide +kernel)⟩
theorem zX12_undo : CZ mX12_undo := ⟨rfl, rfl⟩
def mX12_layPage : MT := (yX12_layPage, cX12_layPage, 7, none, { frames := 4, cells := 0, slots := 0, locals := 86 })
set_option maxRecDepth 100000 in
theorem eX12_layPage : Cond.code (mY mX12_layPage) (mB mX12_layPage) (mN mX12_layPage) (mR mX12_layPage) ∈ lw_tg := tg_in 1099 rfl rfl
theorem kX12_layPage : MV mX12_layPage 0 := ⟨⟨eX12_layPage, tg_in 41 (by decide +kernel) (by decide +kernel), ⟨by decide +kernel, by decide +kernel⟩, by decide +kernel⟩, tg_in 1098 (by decide +kernel) (by decide +kernel), tg_in 23 (by decide +kernel) (by decide +kernel)⟩
theorem zX12_layPage : CZ mX12_layPage := ⟨rfl, rfl⟩
def mX12_cell : MT := (yX12_cell, cX12_cell, 3, (some .int), { frames := 5, cells := 0, slots := 0, locals := 112 })
set_option maxRecDepth 100000 in
theorem eX12_cell : Cond.code (mY mX12_cell) (mB mX12_cell) (mN mX12_cell) (mR mX12_cell) ∈ lw_tg := tg_in 1094 rfl rfl
theorem kX12_cell : MV mX12_cell 2 := ⟨⟨eX12_cell, tg_in 41 (by decide +kernel) (by decide +kernel), ⟨by decide +kernel, by decide +kernel⟩, by decide +kernel⟩, tg_in 1092 (by decide +kernel) (by decide +kernel), tg_in 1093 (by decide +kernel) (by decide +kernel)⟩
theorem zX12_cell : CZ mX12_cell := ⟨rfl, rfl⟩
def mX12_overstrikes : MT := (yX12_overstrikes, cX12_overstrikes, 1, (some .int), { frames := 5, cells := 0, slots := 0, locals := 112 })
set_option maxRecDepth 100000 in
theorem eX12_overstrikes : Cond.code (mY mX12_overstrikes) (mB mX12_overstrikes) (mN mX12_overstrikes) (mR mX12_overstrikes) ∈ lw_tg := tg_in 1103 rfl rfl
theorem kX12_overstrikes : MV mX12_overstrikes 0 := ⟨⟨eX12_overstrikes, tg_in 41 (by decide +kernel) (by decide +kernel), ⟨by decide +kernel, by decide +kernel⟩, by decide +kernel⟩, tg_in 1101 (by decide +kernel) (by decide +kernel), tg_in 1102 (by decide +kernel) (by decide +kernel)⟩
theorem zX12_overstrikes : CZ mX12_overstrikes := ⟨rfl, rfl⟩
def mX12_damageIfLost : MT := (yX12_damageIfLost, cX12_damageIfLost, 4, (some .int), { frames := 4, cells := 0, slots := 0, locals := 86 })
set_option maxRecDepth 100000 in
theorem eX12_damageIfLost : Cond.code (mY mX12_damageIfLost) (mB mX12_damageIfLost) (mN mX12_damageIfLost) (mR mX12_damageIfLost) ∈ lw_tg := tg_in 1107 rfl rfl
theorem kX12_damageIfLost : MV mX12_damageIfLost 1 := ⟨⟨eX12_damageIfLost, tg_in 41 (by decide +kernel) (by decide +kernel), ⟨by decide +kernel, by decide +kernel⟩, by decide +kernel⟩, tg_in 1105 (by decide +kernel) (by decide +kernel), tg_in 1106 (by decide +kernel) (by decide +kernel)⟩
theorem zX12_damageIfLost : CZ mX12_damageIfLost := ⟨rfl, rfl⟩
def mX12_unlike : MT := (yX12_unlike, cX12_unlike, 3, (some .int), { frames := 4, cells := 0, slots := 0, locals := 86 })
set_option maxRecDepth 100000 in
theorem eX12_unlike : Cond.code (mY mX12_unlike) (mB mX12_unlike) (mN mX12_unlike) (mR mX12_unlike) ∈ lw_tg := tg_in 1115 rfl rfl
theorem kX12_unlike : MV mX12_unlike 0 := ⟨⟨eX12_unlike, tg_in 41 (by decide +kernel) (by decide +kernel), ⟨by decide +kernel, by decide +kernel⟩, by decide +kernel⟩, tg_in 1114 (by decide +kernel) (by decide +kernel), tg_in 24 (by decide +kernel) (by decide +kernel)⟩
theorem zX12_unlike : CZ mX12_unlike := ⟨rfl, rfl⟩
def mX12_damageIfFlipped : MT := (yX12_damageIfFlipped, cX12_damageIfFlipped, 3, (some .int), { frames := 5, cells := 0, slots := 0, locals := 108 })
set_option maxRecDepth 100000 in
theorem eX12_damageIfFlipped : Cond.code (mY mX12_damageIfFlipped) (mB mX12_damageIfFlipped) (mN mX12_damageIfFlipped) (mR mX12_damageIfFlipped) ∈ lw_tg := tg_in 1111 rfl rfl
theorem kX12_damageIfFlipped : MV mX12_damageIfFlipped 2 := ⟨⟨eX12_damageIfFlipped, tg_in 41 (by decide +kernel) (by decide +kernel), ⟨by decide +kernel, by decide +kernel⟩, by decide +kernel⟩, tg_in 1109 (by decide +kernel) (by decide +kernel), tg_in 1110 (by decide +kernel) (by decide +kernel)⟩
theorem zX12_damageIfFlipped : CZ mX12_damageIfFlipped := ⟨rfl, rfl⟩
def mX12_isShift : MT := (yX12_isShift, cX12_isShift, 1, (some .boolean), { frames := 0, cells := 0, slots := 0, locals := 0 })
set_option maxRecDepth 100000 in
theorem eX12_isShift : Cond.code (mY mX12_isShift) (mB mX12_isShift) (mN mX12_isShift) (mR mX12_isShift) ∈ lw_tg := tg_in 1131 rfl rfl
theorem kX12_isShift : MS mX12_isShift 1 := ⟨⟨eX12_isShift, tg_in 41 (by decide +kernel) (by decide +kernel), ⟨by decide +kernel, by decide +kernel⟩, by decide +kernel⟩, tg_in 1130 (by decide +kernel) (by decide +kernel)⟩
theorem zX12_isShift : CZ mX12_isShift := ⟨rfl, rfl⟩
def mX12_shiftsBelow : MT := (yX12_shiftsBelow, cX12_shiftsBelow, 4, (some .int), { frames := 1, cells := 0, slots := 0, locals := 20 })
set_option maxRecDepth 100000 in
theorem eX12_shiftsBelow : Cond.code (mY mX12_shiftsBelow) (mB mX12_shiftsBelow) (mN mX12_shiftsBelow) (mR mX12_shiftsBelow) ∈ lw_tg := tg_in 1128 rfl rfl
theorem kX12_shiftsBelow : MV mX12_shiftsBelow 1 := ⟨⟨eX12_shiftsBelow, tg_in 41 (by decide +kernel) (by decide +kernel), ⟨by decide +kernel, by decide +kernel⟩, by decide +kernel⟩, tg_in 1127 (by decide +kernel) (by decide +kernel), tg_in 26 (by decide +kernel) (by decide +kernel)⟩
theorem zX12_shiftsBelow : CZ mX12_shiftsBelow := ⟨rfl, rfl⟩
def mX12_power : MT := (yX12_power, cX12_power, 4, (some .int), { frames := 0, cells := 0, slots := 0, locals := 0 })
set_option maxRecDepth 100000 in
theorem eX12_power : Cond.code (mY mX12_power) (mB mX12_power) (mN mX12_power) (mR mX12_power) ∈ lw_tg := tg_in 1141 rfl rfl
theorem kX12_power : MS mX12_power 2 := ⟨⟨eX12_power, tg_in 41 (by decide +kernel) (by decide +kernel), ⟨by decide +kernel, by decide +kernel⟩, by decide +kernel⟩, tg_in 1140 (by decide +kernel) (by decide +kernel)⟩
theorem zX12_power : CZ mX12_power := ⟨rfl, rfl⟩
def mX12_caseBut : MT := (yX12_caseBut, cX12_caseBut, 8, (some .int), { frames := 1, cells := 0, slots := 0, locals := 22 })
set_option maxRecDepth 100000 in
theorem eX12_caseBut : Cond.code (mY mX12_caseBut) (mB mX12_caseBut) (mN mX12_caseBut) (mR mX12_caseBut) ∈ lw_tg := tg_in 1135 rfl rfl
theorem kX12_caseBut : MV mX12_caseBut 2 := ⟨⟨eX12_caseBut, tg_in 41 (by decide +kernel) (by decide +kernel), ⟨by decide +kernel, by decide +kernel⟩, by decide +kernel⟩, tg_in 1134 (by decide +kernel) (by decide +kernel), tg_in 27 (by decide +kernel) (by decide +kernel)⟩
theorem zX12_caseBut : CZ mX12_caseBut := ⟨rfl, rfl⟩
def mX12_confidence : MT := (yX12_confidence, cX12_confidence, 11, (some .int), { frames := 2, cells := 0, slots := 0, locals := 49 })
set_option maxRecDepth 100000 in
theorem eX12_confidence : Cond.code (mY mX12_confidence) (mB mX12_confidence) (mN mX12_confidence) (mR mX12_confidence) ∈ lw_tg := tg_in 1123 rfl rfl
theorem kX12_confidence : MV mX12_confidence 3 := ⟨⟨eX12_confidence, tg_in 41 (by decide +kernel) (by decide +kernel), ⟨by decide +kernel, by decide +kernel⟩, by decide +kernel⟩, tg_in 1122 (by decide +kernel) (by decide +kernel), tg_in 25 (by decide +kernel) (by decide +kernel)⟩
theorem zX12_confidence : CZ mX12_confidence := ⟨rfl, rfl⟩
def mX12_confidenceNumerator : MT := (yX12_confidenceNumerator, cX12_confidenceNumerator, 3, (some .int), { frames := 3, cells := 0, slots := 0, locals := 79 })
set_option maxRecDepth 100000 in
theorem eX12_confidenceNumerator : Cond.code (mY mX12_confidenceNumerator) (mB mX12_confidenceNumerator) (mN mX12_confidenceNumerator) (mR mX12_confidenceNumerator) ∈ lw_tg := tg_in 1119 rfl rfl
theorem kX12_confidenceNumerator : MV mX12_confidenceNumerator 2 := ⟨⟨eX12_confidenceNumerator, tg_in 41 (by decide +kernel) (by decide +kernel), ⟨by decide +kernel, by decide +kernel⟩, by decide +kernel⟩, tg_in 1117 (by decide +kernel) (by decide +kernel), tg_in 1118 (by decide +kernel) (by decide +kernel)⟩
theorem zX12_confidenceNumerator : CZ mX12_confidenceNumerator := ⟨rfl, rfl⟩
def mX12_confidenceDenominator : MT := (yX12_confidenceDenominator, cX12_confidenceDenominator, 3, (some .int), { frames := 3, cells := 0, slots := 0, locals := 79 })
set_option maxRecDepth 100000 in
theorem eX12_confidenceDenominator : Cond.code (mY mX12_confidenceDenominator) (mB mX12_confidenceDenominator) (mN mX12_confidenceDenominator) (mR mX12_confidenceDenominator) ∈ lw_tg := tg_in 1145 rfl rfl
theorem kX12_confidenceDenominator : MV mX12_confidenceDenominator 2 := ⟨⟨eX12_confidenceDenominator, tg_in 41 (by decide +kernel) (by decide +kernel), ⟨by decide +kernel, by decide +kernel⟩, by decide +kernel⟩, tg_in 1143 (by decide +kernel) (by decide +kernel), tg_in 1144 (by decide +kernel) (by decide +kernel)⟩
theorem zX12_confidenceDenominator : CZ mX12_confidenceDenominator := ⟨rfl, rfl⟩
def mX12_command : MT := (yX12_command, cX12_command, 3, (some .boolean), { frames := 4, cells := 0, slots := 0, locals := 86 })
set_option maxRecDepth 100000 in
theorem eX12_command : Cond.code (mY mX12_command) (mB mX12_command) (mN mX12_command) (mR mX12_command) ∈ lw_tg := tg_in 1157 rfl rfl
theorem kX12_command : MV mX12_command 2 := ⟨⟨eX12_command, tg_in 41 (by decide +kernel) (by decide +kernel), ⟨by decide +kernel, by decide +kernel⟩, by decide +kernel⟩, tg_in 1156 (by decide +kernel) (by decide +kernel), tg_in 28 (by decide +kernel) (by decide +kernel)⟩
theorem zX12_command : CZ mX12_command := ⟨rfl, rfl⟩
def mX12_thousands : MT := (yX12_thousands, cX12_thousands, 4, (some .long), { frames := 0, cells := 0, slots := 0, locals := 0 })
set_option maxRecDepth 100000 in
theorem eX12_thousands : Cond.code (mY mX12_thousands) (mB mX12_thousands) (mN mX12_thousands) (mR mX12_thousands) ∈ lw_tg := tg_in 1152 rfl rfl
theorem kX12_thousands : MS mX12_thousands 1 := ⟨⟨eX12_thousands, tg_in 41 (by decide +kernel) (by decide +kernel), ⟨by decide +kernel, by decide +kernel⟩, by decide +kernel⟩, tg_in 1151 (by decide +kernel) (by decide +kernel)⟩
theorem zX12_thousands : CZ mX12_thousands := ⟨rfl, rfl⟩
def mX12_runScript : MT := (yX12_runScript, cX12_runScript, 6, (some .int), { frames := 5, cells := 0, slots := 0, locals := 108 })
set_option maxRecDepth 100000 in
theorem eX12_runScript : Cond.code (mY mX12_runScript) (mB mX12_runScript) (mN mX12_runScript) (mR mX12_runScript) ∈ lw_tg := tg_in 1149 rfl rfl
theorem kX12_runScript : MV mX12_runScript 2 := ⟨⟨eX12_runScript, tg_in 41 (by decide +kernel) (by decide +kernel), ⟨by decide +kernel, by decide +kernel⟩, by decide +kernel⟩, tg_in 1147 (by decide +kernel) (by decide +kernel), tg_in 1148 (by decide +kernel) (by decide +kernel)⟩
theorem zX12_runScript : CZ mX12_runScript := ⟨rfl, rfl⟩
def mX12_observe : MT := (yX12_observe, cX12_observe, 3, (some .int), { frames := 1, cells := 0, slots := 0, locals := 25 })
set_option maxRecDepth 100000 in
theorem eX12_observe : Cond.code (mY mX12_observe) (mB mX12_observe) (mN mX12_observe) (mR mX12_observe) ∈ lw_tg := tg_in 1161 rfl rfl
theorem kX12_observe : MV mX12_observe 2 := ⟨⟨eX12_observe, tg_in 41 (by decide +kernel) (by decide +kernel), ⟨by decide +kernel, by decide +kernel⟩, by decide +kernel⟩, tg_in 1159 (by decide +kernel) (by decide +kernel), tg_in 1160 (by decide +kernel) (by decide +kernel)⟩
theorem zX12_observe : CZ mX12_observe := ⟨rfl, rfl⟩
def mX12_possibleSettings : MT := (yX12_possibleSettings, cX12_possibleSettings, 5, (some .int), { frames := 4, cells := 0, slots := 0, locals := 86 })
set_option maxRecDepth 100000 in
theorem eX12_possibleSettings : Cond.code (mY mX12_possibleSettings) (mB mX12_possibleSettings) (mN mX12_possibleSettings) (mR mX12_possibleSettings) ∈ lw_tg := tg_in 1166 rfl rfl
theorem kX12_possibleSettings : MV mX12_possibleSettings 0 := ⟨⟨eX12_possibleSettings, tg_in 41 (by decide +kernel) (by decide +kernel), ⟨by decide +kernel, by decide +kernel⟩, by decide +kernel⟩, tg_in 1164 (by decide +kernel) (by decide +kernel), tg_in 1165 (by decide +kernel) (by decide +kernel)⟩
theorem zX12_possibleSettings : CZ mX12_possibleSettings := ⟨rfl, rfl⟩
def mX12_noise : MT := (yX12_noise, cX12_noise, 9, (some .int), { frames := 5, cells := 0, slots := 0, locals := 108 })
set_option maxRecDepth 100000 in
theorem eX12_noise : Cond.code (mY mX12_noise) (mB mX12_noise) (mN mX12_noise) (mR mX12_noise) ∈ lw_tg := tg_in 1170 rfl rfl
theorem kX12_noise : MV mX12_noise 2 := ⟨⟨eX12_noise, tg_in 41 (by decide +kernel) (by decide +kernel), ⟨by decide +kernel, by decide +kernel⟩, by decide +kernel⟩, tg_in 1168 (by decide +kernel) (by decide +kernel), tg_in 1169 (by decide +kernel) (by decide +kernel)⟩
theorem zX12_noise : CZ mX12_noise := ⟨rfl, rfl⟩
def mX12_save : MT := (yX12_save, cX12_save, 3, (some .int), { frames := 1, cells := 0, slots := 0, locals := 25 })
set_option maxRecDepth 100000 in
theorem eX12_save : Cond.code (mY mX12_save) (mB mX12_save) (mN mX12_save) (mR mX12_save) ∈ lw_tg := tg_in 1177 rfl rfl
theorem kX12_save : MV mX12_save 1 := ⟨⟨eX12_save, tg_in 41 (by decide +kernel) (by decide +kernel), ⟨by decide +kernel, by decide +kernel⟩, by decide +kernel⟩, tg_in 1175 (by decide +kernel) (by decide +kernel), tg_in 1176 (by decide +kernel) (by decide +kernel)⟩
theorem zX12_save : CZ mX12_save := ⟨rfl, rfl⟩
def mX12_restore : MT := (yX12_restore, cX12_restore, 3, (some .int), { frames := 1, cells := 0, slots := 0, locals := 25 })
set_option maxRecDepth 100000 in
theorem eX12_restore : Cond.code (mY mX12_restore) (mB mX12_restore) (mN mX12_restore) (mR mX12_restore) ∈ lw_tg := tg_in 1181 rfl rfl
theorem kX12_restore : MV mX12_restore 1 := ⟨⟨eX12_restore, tg_in 41 (by decide +kernel) (by decide +kernel), ⟨by decide +kernel, by decide +kernel⟩, by decide +kernel⟩, tg_in 1179 (by decide +kernel) (by decide +kernel), tg_in 1180 (by decide +kernel) (by decide +kernel)⟩
theorem zX12_restore : CZ mX12_restore := ⟨rfl, rfl⟩
def mX12_editDistance : MT := (yX12_editDistance, cX12_editDistance, 6, (some .int), { frames := 4, cells := 0, slots := 0, locals := 86 })
set_option maxRecDepth 100000 in
theorem eX12_editDistance : Cond.code (mY mX12_editDistance) (mB mX12_editDistance) (mN mX12_editDistance) (mR mX12_editDistance) ∈ lw_tg := tg_in 1185 rfl rfl
theorem kX12_editDistance : MV mX12_editDistance 1 := ⟨⟨eX12_editDistance, tg_in 41 (by decide +kernel) (by decide +kernel), ⟨by decide +kernel, by decide +kernel⟩, by decide +kernel⟩, tg_in 1183 (by decide +kernel) (by decide +kernel), tg_in 1184 (by decide +kernel) (by decide +kernel)⟩
theorem zX12_editDistance : CZ mX12_editDistance := ⟨rfl, rfl⟩
def mJ9_max_7cf53 : MT := (yJ9_max_7cf53, cJ9_max_7cf53, 2, (some .int), { frames := 0, cells := 0, slots := 0, locals := 0 })
set_option maxRecDepth 100000 in
theorem eJ9_max_7cf53 : Cond.code (mY mJ9_max_7cf53) (mB mJ9_max_7cf53) (mN mJ9_max_7cf53) (mR mJ9_max_7cf53) ∈ lw_tg := tg_in 353 rfl rfl
theorem kJ9_max_7cf53 : MS mJ9_max_7cf53 2 := ⟨⟨eJ9_max_7cf53, tg_in 45 (by decide +kernel) (by decide +kernel), ⟨by decide +kernel, by decide +kernel⟩, by decide +kernel⟩, tg_in 352 (by decide +kernel) (by decide +kernel)⟩
theorem zJ9_max_7cf53 : CZ mJ9_max_7cf53 := ⟨rfl, rfl⟩
def mJ9_min_7cf53 : MT := (yJ9_min_7cf53, cJ9_min_7cf53, 2, (some .int), { frames := 0, cells := 0, slots := 0, locals := 0 })
set_option maxRecDepth 100000 in
theorem eJ9_min_7cf53 : Cond.code (mY mJ9_min_7cf53) (mB mJ9_min_7cf53) (mN mJ9_min_7cf53) (mR mJ9_min_7cf53) ∈ lw_tg := tg_in 356 rfl rfl
theorem kJ9_min_7cf53 : MS mJ9_min_7cf53 2 := ⟨⟨eJ9_min_7cf53, tg_in 45 (by decide +kernel) (by decide +kernel), ⟨by decide +kernel, by decide +kernel⟩, by decide +kernel⟩, tg_in 355 (by decide +kernel) (by decide +kernel)⟩
theorem zJ9_min_7cf53 : CZ mJ9_min_7cf53 := ⟨rfl, rfl⟩
def mJ0_length_8abf5 : MT := (yJ0_length_8abf5, cJ0_length_8abf5, 1, (some .int), { frames := 1, cells := 0, slots := 0, locals := 20 })
set_option maxRecDepth 100000 in
theorem eJ0_length_8abf5 : Cond.code (mY mJ0_length_8abf5) (mB mJ0_length_8abf5) (mN mJ0_length_8abf5) (mR mJ0_length_8abf5) ∈ lw_tg := tg_in 340 rfl rfl
theorem kJ0_length_8abf5 : MV mJ0_length_8abf5 0 := ⟨⟨eJ0_length_8abf5, tg_in 43 (by decide +kernel) (by decide +kernel), ⟨by decide +kernel, by decide +kernel⟩, by decide +kernel⟩, tg_in 338 (by decide +kernel) (by decide +kernel), tg_in 339 (by decide +kernel) (by decide +kernel)⟩
theorem zJ0_length_8abf5 : CZ mJ0_length_8abf5 := ⟨rfl, rfl⟩
def mJ0_charAt_5068e : MT := (yJ0_charAt_5068e, cJ0_charAt_5068e, 2, (some .char), { frames := 3, cells := 0, slots := 0, locals := 64 })
set_option maxRecDepth 100000 in
theorem eJ0_charAt_5068e : Cond.code (mY mJ0_charAt_5068e) (mB mJ0_charAt_5068e) (mN mJ0_charAt_5068e) (mR mJ0_charAt_5068e) ∈ lw_tg := tg_in 461 rfl rfl
theorem kJ0_charAt_5068e : MV mJ0_charAt_5068e 1 := ⟨⟨eJ0_charAt_5068e, tg_in 43 (by decide +kernel) (by decide +kernel), ⟨by decide +kernel, by decide +kernel⟩, by decide +kernel⟩, tg_in 459 (by decide +kernel) (by decide +kernel), tg_in 460 (by decide +kernel) (by decide +kernel)⟩
theorem zJ0_charAt_5068e : CZ mJ0_charAt_5068e := ⟨rfl, rfl⟩
def mJ0_indexOf_0f7a4 : MT := (yJ0_indexOf_0f7a4, cJ0_indexOf_0f7a4, 2, (some .int), { frames := 3, cells := 0, slots := 0, locals := 70 })
set_option maxRecDepth 100000 in
theorem eJ0_indexOf_0f7a4 : Cond.code (mY mJ0_indexOf_0f7a4) (mB mJ0_indexOf_0f7a4) (mN mJ0_indexOf_0f7a4) (mR mJ0_indexOf_0f7a4) ∈ lw_tg := tg_in 326 rfl rfl
theorem kJ0_indexOf_0f7a4 : MV mJ0_indexOf_0f7a4 1 := ⟨⟨eJ0_indexOf_0f7a4, tg_in 43 (by decide +kernel) (by decide +kernel), ⟨by decide +kernel, by decide +kernel⟩, by decide +kernel⟩, tg_in 324 (by decide +kernel) (by decide +kernel), tg_in 325 (by decide +kernel) (by decide +kernel)⟩
theorem zJ0_indexOf_0f7a4 : CZ mJ0_indexOf_0f7a4 := ⟨rfl, rfl⟩
def mJ0_indexOf_7cf53 : MT := (yJ0_indexOf_7cf53, cJ0_indexOf_7cf53, 3, (some .int), { frames := 2, cells := 0, slots := 0, locals := 48 })
set_option maxRecDepth 100000 in
theorem eJ0_indexOf_7cf53 : Cond.code (mY mJ0_indexOf_7cf53) (mB mJ0_indexOf_7cf53) (mN mJ0_indexOf_7cf53) (mR mJ0_indexOf_7cf53) ∈ lw_tg := tg_in 330 rfl rfl
theorem kJ0_indexOf_7cf53 : MV mJ0_indexOf_7cf53 2 := ⟨⟨eJ0_indexOf_7cf53, tg_in 43 (by decide +kernel) (by decide +kernel), ⟨by decide +kernel, by decide +kernel⟩, by decide +kernel⟩, tg_in 328 (by decide +kernel) (by decide +kernel), tg_in 329 (by decide +kernel) (by decide +kernel)⟩
theorem zJ0_indexOf_7cf53 : CZ mJ0_indexOf_7cf53 := ⟨rfl, rfl⟩
def mJ0_coder_7d493 : MT := (yJ0_coder_7d493, cJ0_coder_7d493, 1, (some .byte), { frames := 0, cells := 0, slots := 0, locals := 0 })
set_option maxRecDepth 100000 in
theorem eJ0_coder_7d493 : Cond.code (mY mJ0_coder_7d493) (mB mJ0_coder_7d493) (mN mJ0_coder_7d493) (mR mJ0_coder_7d493) ∈ lw_tg := tg_in 344 rfl rfl
theorem kJ0_coder_7d493 : MV mJ0_coder_7d493 0 := ⟨⟨eJ0_coder_7d493, tg_in 43 (by decide +kernel) (by decide +kernel), ⟨by decide +kernel, by decide +kernel⟩, by decide +kernel⟩, tg_in 342 (by decide +kernel) (by decide +kernel), tg_in 343 (by decide +kernel) (by decide +kernel)⟩
theorem zJ0_coder_7d493 : CZ mJ0_coder_7d493 := ⟨rfl, rfl⟩
def mJ0_isLatin1_aae02 : MT := (yJ0_isLatin1_aae02, cJ0_isLatin1_aae02, 1, (some .boolean), { frames := 0, cells := 0, slots := 0, locals := 0 })
set_option maxRecDepth 100000 in
theorem eJ0_isLatin1_aae02 : Cond.code (mY mJ0_isLatin1_aae02) (mB mJ0_isLatin1_aae02) (mN mJ0_isLatin1_aae02) (mR mJ0_isLatin1_aae02) ∈ lw_tg := tg_in 334 rfl rfl
theorem kJ0_isLatin1_aae02 : MV mJ0_isLatin1_aae02 0 := ⟨⟨eJ0_isLatin1_aae02, tg_in 43 (by decide +kernel) (by decide +kernel), ⟨by decide +kernel, by decide +kernel⟩, by decide +kernel⟩, tg_in 332 (by decide +kernel) (by decide +kernel), tg_in 333 (by decide +kernel) (by decide +kernel)⟩
theorem zJ0_isLatin1_aae02 : CZ mJ0_isLatin1_aae02 := ⟨rfl, rfl⟩
def mJ0_checkIndex_df160 : MT := (yJ0_checkIndex_df160, cJ0_checkIndex_df160, 2, none, { frames := 1, cells := 0, slots := 0, locals := 22 })
set_option maxRecDepth 100000 in
theorem eJ0_checkIndex_df160 : Cond.code (mY mJ0_checkIndex_df160) (mB mJ0_checkIndex_df160) (mN mJ0_checkIndex_df160) (mR mJ0_checkIndex_df160) ∈ lw_tg := tg_in 467 rfl rfl
theorem kJ0_checkIndex_df160 : MS mJ0_checkIndex_df160 2 := ⟨⟨eJ0_checkIndex_df160, tg_in 43 (by decide +kernel) (by decide +kernel), ⟨by decide +kernel, by decide +kernel⟩, by decide +kernel⟩, tg_in 466 (by decide +kernel) (by decide +kernel)⟩
theorem zJ0_checkIndex_df160 : CZ mJ0_checkIndex_df160 := ⟨rfl, rfl⟩
def mJ1_charAt_3b067 : MT := (yJ1_charAt_3b067, cJ1_charAt_3b067, 2, (some .char), { frames := 2, cells := 0, slots := 0, locals := 43 })
set_option maxRecDepth 100000 in
theorem eJ1_charAt_3b067 : Cond.code (mY mJ1_charAt_3b067) (mB mJ1_charAt_3b067) (mN mJ1_charAt_3b067) (mR mJ1_charAt_3b067) ∈ lw_tg := tg_in 464 rfl rfl
theorem kJ1_charAt_3b067 : MS mJ1_charAt_3b067 2 := ⟨⟨eJ1_charAt_3b067, tg_in 44 (by decide +kernel) (by decide +kernel), ⟨by decide +kernel, by decide +kernel⟩, by decide +kernel⟩, tg_in 463 (by decide +kernel) (by decide +kernel)⟩
theorem zJ1_charAt_3b067 : CZ mJ1_charAt_3b067 := ⟨rfl, rfl⟩
def mJ1_canEncode_9a6ad : MT := (yJ1_canEncode_9a6ad, cJ1_canEncode_9a6ad, 1, (some .boolean), { frames := 0, cells := 0, slots := 0, locals := 0 })
set_option maxRecDepth 100000 in
theorem eJ1_canEncode_9a6ad : Cond.code (mY mJ1_canEncode_9a6ad) (mB mJ1_canEncode_9a6ad) (mN mJ1_canEncode_9a6ad) (mR mJ1_canEncode_9a6ad) ∈ lw_tg := tg_in 350 rfl rfl
theorem kJ1_canEncode_9a6ad : MS mJ1_canEncode_9a6ad 1 := ⟨⟨eJ1_canEncode_9a6ad, tg_in 44 (by decide +kernel) (by decide +kernel), ⟨by decide +kernel, by decide +kernel⟩, by decide +kernel⟩, tg_in 349 (by decide +kernel) (by decide +kernel)⟩
theorem zJ1_canEncode_9a6ad : CZ mJ1_canEncode_9a6ad := ⟨rfl, rfl⟩
def mJ1_indexOf_4cfef : MT := (yJ1_indexOf_4cfef, cJ1_indexOf_4cfef, 4, (some .int), { frames := 1, cells := 0, slots := 0, locals := 25 })
set_option maxRecDepth 100000 in
theorem eJ1_indexOf_4cfef : Cond.code (mY mJ1_indexOf_4cfef) (mB mJ1_indexOf_4cfef) (mN mJ1_indexOf_4cfef) (mR mJ1_indexOf_4cfef) ∈ lw_tg := tg_in 347 rfl rfl
theorem kJ1_indexOf_4cfef : MS mJ1_indexOf_4cfef 4 := ⟨⟨eJ1_indexOf_4cfef, tg_in 44 (by decide +kernel) (by decide +kernel), ⟨by decide +kernel, by decide +kernel⟩, by decide +kernel⟩, tg_in 346 (by decide +kernel) (by decide +kernel)⟩
theorem zJ1_indexOf_4cfef : CZ mJ1_indexOf_4cfef := ⟨rfl, rfl⟩
def mJ1_indexOfChar_4cfef : MT := (yJ1_indexOfChar_4cfef, cJ1_indexOfChar_4cfef, 6, (some .int), { frames := 0, cells := 0, slots := 0, locals := 0 })
set_option maxRecDepth 100000 in
theorem eJ1_indexOfChar_4cfef : Cond.code (mY mJ1_indexOfChar_4cfef) (mB mJ1_indexOfChar_4cfef) (mN mJ1_indexOfChar_4cfef) (mR mJ1_indexOfChar_4cfef) ∈ lw_tg := tg_in 359 rfl rfl
theorem kJ1_indexOfChar_4cfef : MS mJ1_indexOfChar_4cfef 4 := ⟨⟨eJ1_indexOfChar_4cfef, tg_in 44 (by decide +kernel) (by decide +kernel), ⟨by decide +kernel, by decide +kernel⟩, by decide +kernel⟩, tg_in 358 (by decide +kernel) (by decide +kernel)⟩
theorem zJ1_indexOfChar_4cfef : CZ mJ1_indexOfChar_4cfef := ⟨rfl, rfl⟩
def mJ7_fill_53178 : MT := (yJ7_fill_53178, cJ7_fill_53178, 4, none, { frames := 0, cells := 0, slots := 0, locals := 0 })
set_option maxRecDepth 100000 in
theorem eJ7_fill_53178 : Cond.code (mY mJ7_fill_53178) (mB mJ7_fill_53178) (mN mJ7_fill_53178) (mR mJ7_fill_53178) ∈ lw_tg := tg_in 696 rfl rfl
theorem kJ7_fill_53178 : MS mJ7_fill_53178 2 := ⟨⟨eJ7_fill_53178, tg_in 50 (by decide +kernel) (by decide +kernel), ⟨by decide +kernel, by decide +kernel⟩, by decide +kernel⟩, tg_in 695 (by decide +kernel) (by decide +kernel)⟩
theorem zJ7_fill_53178 : CZ mJ7_fill_53178 := ⟨rfl, rfl⟩
def mJ3_checkIndex_8e157 : MT := (yJ3_checkIndex_8e157, cJ3_checkIndex_8e157, 3, (some .int), { frames := 0, cells := 0, slots := 0, locals := 0 })
set_option maxRecDepth 100000 in
theorem eJ3_checkIndex_8e157 : Cond.code (mY mJ3_checkIndex_8e157) (mB mJ3_checkIndex_8e157) (mN mJ3_checkIndex_8e157) (mR mJ3_checkIndex_8e157) ∈ lw_tg := tg_in 470 rfl rfl
theorem kJ3_checkIndex_8e157 : MS mJ3_checkIndex_8e157 3 := ⟨⟨eJ3_checkIndex_8e157, tg_in 47 (by decide +kernel) (by decide +kernel), ⟨by decide +kernel, by decide +kernel⟩, by decide +kernel⟩, tg_in 469 (by decide +kernel) (by decide +kernel)⟩
theorem zJ3_checkIndex_8e157 : CZ mJ3_checkIndex_8e157 := ⟨rfl, rfl⟩
def mL_law : MT := (yL_law, cL_law, 4, (some .boolean), room_1)
theorem lL_9 : MLk RL 9 yX11_init := Or.inl (tg_in 53 (by decide +kernel) (by decide +kernel))
theorem lX11_1 : Cond.methodLink RX11 1 objectInit ∈ lw_tg := tg_in 56 (by decide +kernel) (by decide +kernel)
theorem lX11_9 : MLk RX11 9 yX9_init := Or.inr ⟨"TeleprinterTape", tg_in 61 (by decide +kernel) (by decide +kernel)⟩
theorem lX9_3 : Cond.methodLink RX9 3 objectInit ∈ lw_tg := tg_in 64 (by decide +kernel) (by decide +kernel)
theorem lX11_21 : MLk RX11 21 yX6_init := Or.inr ⟨"TeleprinterTape", tg_in 97 (by decide +kernel) (by decide +kernel)⟩
theorem lX6_3 : Cond.methodLink RX6 3 objectInit ∈ lw_tg := tg_in 100 (by decide +kernel) (by decide +kernel)
theorem lX6_11 : MLk RX6 11 yX9_init := Or.inr ⟨"TeleprinterTape", tg_in 102 (by decide +kernel) (by decide +kernel)⟩
theorem lX11_28 : MLk RX11 28 yX3_init := Or.inr ⟨"TeleprinterTape", tg_in 117 (by decide +kernel) (by decide +kernel)⟩
theorem lX3_3 : Cond.methodLink RX3 3 objectInit ∈ lw_tg := tg_in 120 (by decide +kernel) (by decide +kernel)
theorem lX11_35 : MLk RX11 35 yX2_init := Or.inl (tg_in 132 (by decide +kernel) (by decide +kernel))
theorem lX2_3 : Cond.methodLink RX2 3 objectInit ∈ lw_tg := tg_in 135 (by decide +kernel) (by decide +kernel)
theorem lX2_24 : MLk RX2 24 yX9_init := Or.inr ⟨"TeleprinterTape", tg_in 138 (by decide +kernel) (by decide +kernel)⟩
theorem lX11_42 : MLk RX11 42 yX8_init := Or.inl (tg_in 152 (by decide +kernel) (by decide +kernel))
theorem lX8_3 : Cond.methodLink RX8 3 objectInit ∈ lw_tg := tg_in 155 (by decide +kernel) (by decide +kernel)
theorem lX8_21 : MLk RX8 21 yX9_init := Or.inr ⟨"TeleprinterTape", tg_in 157 (by decide +kernel) (by decide +kernel)⟩
theorem lX11_49 : MLk RX11 49 yX10_init := Or.inr ⟨"TeleprinterTape", tg_in 168 (by decide +kernel) (by decide +kernel)⟩
theorem lX10_3 : Cond.methodLink RX10 3 objectInit ∈ lw_tg := tg_in 171 (by decide +kernel) (by decide +kernel)
theorem lX11_59 : MLk RX11 59 yX5_init := Or.inr ⟨"TeleprinterTape", tg_in 187 (by decide +kernel) (by decide +kernel)⟩
theorem lX5_3 : Cond.methodLink RX5 3 objectInit ∈ lw_tg := tg_in 190 (by decide +kernel) (by decide +kernel)
theorem lX11_66 : MLk RX11 66 yX4_init := Or.inr ⟨"TeleprinterTape", tg_in 207 (by decide +kernel) (by decide +kernel)⟩
theorem lX4_3 : Cond.methodLink RX4 3 objectInit ∈ lw_tg := tg_in 210 (by decide +kernel) (by decide +kernel)
theorem lX11_73 : MLk RX11 73 yX1_init := Or.inr ⟨"TeleprinterTape", tg_in 227 (by decide +kernel) (by decide +kernel)⟩
theorem lX1_3 : Cond.methodLink RX1 3 objectInit ∈ lw_tg := tg_in 230 (by decide +kernel) (by decide +kernel)
theorem lX11_80 : MLk RX11 80 yX7_init := Or.inr ⟨"TeleprinterTape", tg_in 248 (by decide +kernel) (by decide +kernel)⟩
theorem lX7_3 : Cond.methodLink RX7 3 objectInit ∈ lw_tg := tg_in 251 (by decide +kernel) (by decide +kernel)
theorem lL_13 : MLk RL 13 yX11_append := Or.inl (tg_in 296 (by decide +kernel) (by decide +kernel))
theorem lX11_85 : MLk RX11 85 yX11_isWithin := Or.inl (tg_in 300 (by decide +kernel) (by decide +kernel))
theorem lX11_89 : MLk RX11 89 yX3_add := Or.inl (tg_in 303 (by decide +kernel) (by decide +kernel))
theorem lL_18 : MLk RL 18 yX11_clearMessage := Or.inl (tg_in 307 (by decide +kernel) (by decide +kernel))
theorem lL_23 : MLk RL 23 yX11_errorPosition := Or.inl (tg_in 311 (by decide +kernel) (by decide +kernel))
theorem lX11_97 : MLk RX11 97 yX3_firstNotEncodable := Or.inl (tg_in 315 (by decide +kernel) (by decide +kernel))
theorem lX3_19 : MLk RX3 19 yX0_of := Or.inl (tg_in 319 (by decide +kernel) (by decide +kernel))
theorem lX0_25 : MLk RX0 25 yJ0_indexOf_0f7a4 := Or.inl (tg_in 323 (by decide +kernel) (by decide +kernel))
theorem lJ0_633 : MLk RJ0 633 yJ0_indexOf_7cf53 := Or.inl (tg_in 327 (by decide +kernel) (by decide +kernel))
theorem lJ0_492 : MLk RJ0 492 yJ0_isLatin1_aae02 := Or.inl (tg_in 331 (by decide +kernel) (by decide +kernel))
theorem lJ0_505 : MLk RJ0 505 yJ0_length_8abf5 := Or.inl (tg_in 337 (by decide +kernel) (by decide +kernel))
theorem lJ0_335 : MLk RJ0 335 yJ0_coder_7d493 := Or.inl (tg_in 341 (by decide +kernel) (by decide +kernel))
theorem lJ0_637 : MLk RJ0 637 yJ1_indexOf_4cfef := Or.inl (tg_in 345 (by decide +kernel) (by decide +kernel))
theorem lJ1_88 : MLk RJ1 88 yJ1_canEncode_9a6ad := Or.inl (tg_in 348 (by decide +kernel) (by decide +kernel))
theorem lJ1_92 : MLk RJ1 92 yJ9_max_7cf53 := Or.inl (tg_in 351 (by decide +kernel) (by decide +kernel))
theorem lJ1_38 : MLk RJ1 38 yJ9_min_7cf53 := Or.inl (tg_in 354 (by decide +kernel) (by decide +kernel))
theorem lJ1_95 : MLk RJ1 95 yJ1_indexOfChar_4cfef := Or.inl (tg_in 357 (by decide +kernel) (by decide +kernel))
theorem lJ2_224 : MLk RJ2 224 yJ9_max_7cf53 := Or.inl (tg_in 363 (by decide +kernel) (by decide +kernel))
theorem lJ2_183 : MLk RJ2 183 yJ9_min_7cf53 := Or.inl (tg_in 364 (by decide +kernel) (by decide +kernel))
theorem lL_27 : MLk RL 27 yX11_length := Or.inl (tg_in 411 (by decide +kernel) (by decide +kernel))
theorem lL_31 : MLk RL 31 yX11_codeAt := Or.inl (tg_in 415 (by decide +kernel) (by decide +kernel))
theorem lX11_102 : MLk RX11 102 yX9_has := Or.inl (tg_in 419 (by decide +kernel) (by decide +kernel))
theorem lX11_105 : MLk RX11 105 yX9_at := Or.inl (tg_in 423 (by decide +kernel) (by decide +kernel))
theorem lX9_38 : MLk RX9 38 yX9_has := Or.inl (tg_in 427 (by decide +kernel) (by decide +kernel))
theorem lL_35 : MLk RL 35 yX11_caseAt := Or.inl (tg_in 428 (by decide +kernel) (by decide +kernel))
theorem lX11_109 : MLk RX11 109 yX9_caseBefore := Or.inl (tg_in 432 (by decide +kernel) (by decide +kernel))
theorem lX9_48 : MLk RX9 48 yX9_caseAfter := Or.inl (tg_in 436 (by decide +kernel) (by decide +kernel))
theorem lX9_44 : MLk RX9 44 yX0_caseAfter := Or.inl (tg_in 440 (by decide +kernel) (by decide +kernel))
theorem lL_39 : MLk RL 39 yX11_printedLength := Or.inl (tg_in 443 (by decide +kernel) (by decide +kernel))
theorem lX11_112 : MLk RX11 112 yX10_read := Or.inl (tg_in 447 (by decide +kernel) (by decide +kernel))
theorem lX10_28 : MLk RX10 28 yX9_at := Or.inl (tg_in 451 (by decide +kernel) (by decide +kernel))
theorem lX10_32 : MLk RX10 32 yX0_printed := Or.inl (tg_in 452 (by decide +kernel) (by decide +kernel))
theorem lX0_11 : MLk RX0 11 yX0_dependsOnCase := Or.inl (tg_in 455 (by decide +kernel) (by decide +kernel))
theorem lX0_17 : MLk RX0 17 yJ0_charAt_5068e := Or.inl (tg_in 458 (by decide +kernel) (by decide +kernel))
theorem lJ0_495 : MLk RJ0 495 yJ1_charAt_3b067 := Or.inl (tg_in 462 (by decide +kernel) (by decide +kernel))
theorem lJ1_9 : MLk RJ1 9 yJ0_checkIndex_df160 := Or.inl (tg_in 465 (by decide +kernel) (by decide +kernel))
theorem lJ0_1059 : MLk RJ0 1059 yJ3_checkIndex_8e157 := Or.inl (tg_in 468 (by decide +kernel) (by decide +kernel))
theorem lJ2_414 : MLk RJ2 414 yJ0_checkIndex_df160 := Or.inl (tg_in 477 (by decide +kernel) (by decide +kernel))
theorem lX10_38 : MLk RX10 38 yX9_caseAfter := Or.inl (tg_in 478 (by decide +kernel) (by decide +kernel))
theorem lL_43 : MLk RL 43 yX11_printedAt := Or.inl (tg_in 479 (by decide +kernel) (by decide +kernel))
theorem lX11_117 : MLk RX11 117 yX10_has := Or.inl (tg_in 483 (by decide +kernel) (by decide +kernel))
theorem lX11_118 : MLk RX11 118 yX10_at := Or.inl (tg_in 487 (by decide +kernel) (by decide +kernel))
theorem lX10_41 : MLk RX10 41 yX10_has := Or.inl (tg_in 491 (by decide +kernel) (by decide +kernel))
theorem lL_47 : MLk RL 47 yX11_punch := Or.inl (tg_in 492 (by decide +kernel) (by decide +kernel))
theorem lX11_121 : MLk RX11 121 yX9_isFull := Or.inl (tg_in 496 (by decide +kernel) (by decide +kernel))
theorem lX11_125 : MLk RX11 125 yX2_remember := Or.inl (tg_in 500 (by decide +kernel) (by decide +kernel))
theorem lX2_25 : MLk RX2 25 yX2_stateAt := Or.inl (tg_in 504 (by decide +kernel) (by decide +kernel))
theorem lX2_29 : MLk RX2 29 yX9_become := Or.inl (tg_in 508 (by decide +kernel) (by decide +kernel))
theorem lX9_28 : Cond.methodLink RX9 28 arraycopyName ∈ lw_tg := tg_in 512 (by decide +kernel) (by decide +kernel)
theorem lX9_34 : MLk RX9 34 yX9_takeSettings := Or.inl (tg_in 515 (by decide +kernel) (by decide +kernel))
theorem lX2_33 : MLk RX2 33 yJ9_min_7cf53 := Or.inl (tg_in 519 (by decide +kernel) (by decide +kernel))
theorem lX11_128 : MLk RX11 128 yX9_add := Or.inl (tg_in 520 (by decide +kernel) (by decide +kernel))
theorem lL_51 : MLk RL 51 yX11_encodeMessage := Or.inl (tg_in 524 (by decide +kernel) (by decide +kernel))
theorem lX11_129 : MLk RX11 129 yX3_isEncodable := Or.inl (tg_in 528 (by decide +kernel) (by decide +kernel))
theorem lX3_25 : MLk RX3 25 yX3_firstNotEncodable := Or.inl (tg_in 532 (by decide +kernel) (by decide +kernel))
theorem lX11_132 : MLk RX11 132 yX6_beginBehind := Or.inl (tg_in 533 (by decide +kernel) (by decide +kernel))
theorem lX6_26 : MLk RX6 26 yX9_become := Or.inl (tg_in 537 (by decide +kernel) (by decide +kernel))
theorem lX6_33 : MLk RX6 33 yX9_caseBefore := Or.inl (tg_in 538 (by decide +kernel) (by decide +kernel))
theorem lX11_135 : MLk RX11 135 yX6_encodeRun := Or.inl (tg_in 539 (by decide +kernel) (by decide +kernel))
theorem lX6_75 : MLk RX6 75 yX3_at := Or.inl (tg_in 543 (by decide +kernel) (by decide +kernel))
theorem lX6_78 : MLk RX6 78 yX6_encode := Or.inl (tg_in 547 (by decide +kernel) (by decide +kernel))
theorem lX6_66 : MLk RX6 66 yX6_shiftFor := Or.inl (tg_in 551 (by decide +kernel) (by decide +kernel))
theorem lX6_56 : MLk RX6 56 yX0_caseFor := Or.inl (tg_in 555 (by decide +kernel) (by decide +kernel))
theorem lX6_59 : MLk RX6 59 yX0_shiftTo := Or.inl (tg_in 558 (by decide +kernel) (by decide +kernel))
theorem lX6_62 : MLk RX6 62 yX6_put := Or.inl (tg_in 561 (by decide +kernel) (by decide +kernel))
theorem lX6_43 : MLk RX6 43 yX9_add := Or.inl (tg_in 565 (by decide +kernel) (by decide +kernel))
theorem lX6_50 : MLk RX6 50 yX0_caseAfter := Or.inl (tg_in 566 (by decide +kernel) (by decide +kernel))
theorem lX6_69 : MLk RX6 69 yX0_of := Or.inl (tg_in 567 (by decide +kernel) (by decide +kernel))
theorem lX11_139 : MLk RX11 139 yX11_takePunched := Or.inl (tg_in 568 (by decide +kernel) (by decide +kernel))
theorem lX11_196 : MLk RX11 196 yX9_become := Or.inl (tg_in 572 (by decide +kernel) (by decide +kernel))
theorem lL_55 : MLk RL 55 yX11_encodeWrapped := Or.inl (tg_in 573 (by decide +kernel) (by decide +kernel))
theorem lX11_145 : MLk RX11 145 yX6_encodeWords := Or.inl (tg_in 577 (by decide +kernel) (by decide +kernel))
theorem lX6_81 : MLk RX6 81 yX3_beginsWord := Or.inl (tg_in 581 (by decide +kernel) (by decide +kernel))
theorem lX3_29 : MLk RX3 29 yX3_isBetweenWords := Or.inl (tg_in 585 (by decide +kernel) (by decide +kernel))
theorem lX6_84 : MLk RX6 84 yX3_endOfWord := Or.inl (tg_in 589 (by decide +kernel) (by decide +kernel))
theorem lX6_87 : MLk RX6 87 yX6_placeWord := Or.inl (tg_in 593 (by decide +kernel) (by decide +kernel))
theorem lX6_90 : MLk RX6 90 yX6_encodeRun := Or.inl (tg_in 597 (by decide +kernel) (by decide +kernel))
theorem lL_59 : MLk RL 59 yX11_remove := Or.inl (tg_in 598 (by decide +kernel) (by decide +kernel))
theorem lX11_149 : MLk RX11 149 yX9_takeOut := Or.inl (tg_in 602 (by decide +kernel) (by decide +kernel))
theorem lL_63 : MLk RL 63 yX11_flip := Or.inl (tg_in 606 (by decide +kernel) (by decide +kernel))
theorem lX11_152 : MLk RX11 152 yX11_isBit := Or.inl (tg_in 610 (by decide +kernel) (by decide +kernel))
theorem lX11_155 : MLk RX11 155 yX9_turnBit := Or.inl (tg_in 613 (by decide +kernel) (by decide +kernel))
theorem lL_68 : MLk RL 68 yX11_compact := Or.inl (tg_in 617 (by decide +kernel) (by decide +kernel))
theorem lX11_159 : MLk RX11 159 yX9_dropRedundant := Or.inl (tg_in 621 (by decide +kernel) (by decide +kernel))
theorem lX9_64 : MLk RX9 64 yX9_isRedundant := Or.inl (tg_in 625 (by decide +kernel) (by decide +kernel))
theorem lX9_55 : MLk RX9 55 yX9_at := Or.inl (tg_in 629 (by decide +kernel) (by decide +kernel))
theorem lX9_70 : MLk RX9 70 yX0_isShift := Or.inl (tg_in 630 (by decide +kernel) (by decide +kernel))
theorem lX9_73 : MLk RX9 73 yX9_lossDamage := Or.inl (tg_in 633 (by decide +kernel) (by decide +kernel))
theorem lX9_51 : MLk RX9 51 yX9_caseBefore := Or.inl (tg_in 637 (by decide +kernel) (by decide +kernel))
theorem lX9_58 : MLk RX9 58 yX0_dependsOnCase := Or.inl (tg_in 638 (by decide +kernel) (by decide +kernel))
theorem lX9_67 : MLk RX9 67 yX9_takeOut := Or.inl (tg_in 639 (by decide +kernel) (by decide +kernel))
theorem lL_72 : MLk RL 72 yX11_repair := Or.inl (tg_in 640 (by decide +kernel) (by decide +kernel))
theorem lX11_162 : MLk RX11 162 yX3_canBeReadFrom := Or.inl (tg_in 644 (by decide +kernel) (by decide +kernel))
theorem lX3_36 : MLk RX3 36 yX9_at := Or.inl (tg_in 648 (by decide +kernel) (by decide +kernel))
theorem lX3_39 : MLk RX3 39 yX0_printed := Or.inl (tg_in 649 (by decide +kernel) (by decide +kernel))
theorem lX3_43 : MLk RX3 43 yX3_at := Or.inl (tg_in 650 (by decide +kernel) (by decide +kernel))
theorem lX11_166 : MLk RX11 166 yX6_beginAnew := Or.inl (tg_in 651 (by decide +kernel) (by decide +kernel))
theorem lX6_37 : MLk RX6 37 yX9_takeSettings := Or.inl (tg_in 655 (by decide +kernel) (by decide +kernel))
theorem lX11_169 : MLk RX11 169 yX6_punchRepaired := Or.inl (tg_in 656 (by decide +kernel) (by decide +kernel))
theorem lX6_94 : MLk RX6 94 yX9_at := Or.inl (tg_in 660 (by decide +kernel) (by decide +kernel))
theorem lX6_95 : MLk RX6 95 yX0_printed := Or.inl (tg_in 661 (by decide +kernel) (by decide +kernel))
theorem lL_76 : MLk RL 76 yX11_setStartCase := Or.inl (tg_in 662 (by decide +kernel) (by decide +kernel))
theorem lL_80 : MLk RL 80 yX11_setUnshiftOnSpace := Or.inl (tg_in 666 (by decide +kernel) (by decide +kernel))
theorem lL_84 : MLk RL 84 yX11_setWidth := Or.inl (tg_in 670 (by decide +kernel) (by decide +kernel))
theorem lL_88 : MLk RL 88 yX11_undo := Or.inl (tg_in 674 (by decide +kernel) (by decide +kernel))
theorem lX11_179 : MLk RX11 179 yX2_bringBack := Or.inl (tg_in 678 (by decide +kernel) (by decide +kernel))
theorem lL_92 : MLk RL 92 yX11_cell := Or.inl (tg_in 682 (by decide +kernel) (by decide +kernel))
theorem lX11_184 : MLk RX11 184 yX11_printPage := Or.inl (tg_in 686 (by decide +kernel) (by decide +kernel))
theorem lX11_254 : MLk RX11 254 yX5_print := Or.inl (tg_in 690 (by decide +kernel) (by decide +kernel))
theorem lX5_25 : MLk RX5 25 yJ7_fill_53178 := Or.inl (tg_in 694 (by decide +kernel) (by decide +kernel))
theorem lX5_36 : MLk RX5 36 yX10_at := Or.inl (tg_in 697 (by decide +kernel) (by decide +kernel))
theorem lX5_40 : MLk RX5 40 yX5_printCharacter := Or.inl (tg_in 698 (by decide +kernel) (by decide +kernel))
theorem lX5_44 : MLk RX5 44 yX5_feedLine := Or.inl (tg_in 702 (by decide +kernel) (by decide +kernel))
theorem lX5_57 : Cond.methodLink RX5 57 arraycopyName ∈ lw_tg := tg_in 706 (by decide +kernel) (by decide +kernel)
theorem lX5_47 : MLk RX5 47 yX5_strike := Or.inl (tg_in 707 (by decide +kernel) (by decide +kernel))
theorem lX5_51 : MLk RX5 51 yJ9_min_7cf53 := Or.inl (tg_in 711 (by decide +kernel) (by decide +kernel))
theorem lX11_187 : MLk RX11 187 yX5_at := Or.inl (tg_in 712 (by decide +kernel) (by decide +kernel))
theorem lL_96 : MLk RL 96 yX11_overstrikes := Or.inl (tg_in 716 (by decide +kernel) (by decide +kernel))
theorem lL_100 : MLk RL 100 yX11_damageIfLost := Or.inl (tg_in 720 (by decide +kernel) (by decide +kernel))
theorem lX11_193 : MLk RX11 193 yX9_lossDamage := Or.inl (tg_in 724 (by decide +kernel) (by decide +kernel))
theorem lL_104 : MLk RL 104 yX11_damageIfFlipped := Or.inl (tg_in 725 (by decide +kernel) (by decide +kernel))
theorem lX11_199 : MLk RX11 199 yX9_differences := Or.inl (tg_in 729 (by decide +kernel) (by decide +kernel))
theorem lX9_61 : MLk RX9 61 yX0_printed := Or.inl (tg_in 733 (by decide +kernel) (by decide +kernel))
theorem lL_108 : MLk RL 108 yX11_confidenceNumerator := Or.inl (tg_in 734 (by decide +kernel) (by decide +kernel))
theorem lX11_203 : MLk RX11 203 yX11_reckonConfidence := Or.inl (tg_in 738 (by decide +kernel) (by decide +kernel))
theorem lX11_258 : MLk RX11 258 yX1_reckon := Or.inl (tg_in 742 (by decide +kernel) (by decide +kernel))
theorem lX1_30 : MLk RX1 30 yX9_at := Or.inl (tg_in 746 (by decide +kernel) (by decide +kernel))
theorem lX1_34 : MLk RX1 34 yX0_isShift := Or.inl (tg_in 747 (by decide +kernel) (by decide +kernel))
theorem lX1_40 : MLk RX1 40 yX1_passShift := Or.inl (tg_in 748 (by decide +kernel) (by decide +kernel))
theorem lX1_44 : MLk RX1 44 yX9_caseAfter := Or.inl (tg_in 753 (by decide +kernel) (by decide +kernel))
theorem lX1_48 : MLk RX1 48 yX9_caseBefore := Or.inl (tg_in 754 (by decide +kernel) (by decide +kernel))
theorem lX1_51 : MLk RX1 51 yX1_reduce := Or.inl (tg_in 755 (by decide +kernel) (by decide +kernel))
theorem lL_112 : MLk RL 112 yX11_confidenceDenominator := Or.inl (tg_in 761 (by decide +kernel) (by decide +kernel))
theorem lL_118 : MLk RL 118 yX11_runScript := Or.inl (tg_in 765 (by decide +kernel) (by decide +kernel))
theorem lX11_213 : MLk RX11 213 yX7_split := Or.inl (tg_in 769 (by decide +kernel) (by decide +kernel))
theorem lX11_217 : MLk RX11 217 yX7_firstFailure := Or.inl (tg_in 774 (by decide +kernel) (by decide +kernel))
theorem lX7_21 : MLk RX7 21 yX7_succeeds := Or.inl (tg_in 778 (by decide +kernel) (by decide +kernel))
theorem lX7_25 : MLk RX7 25 yX10_read := Or.inl (tg_in 781 (by decide +kernel) (by decide +kernel))
theorem lX7_33 : MLk RX7 33 yX9_add := Or.inl (tg_in 782 (by decide +kernel) (by decide +kernel))
theorem lX7_39 : MLk RX7 39 yX9_takeOut := Or.inl (tg_in 783 (by decide +kernel) (by decide +kernel))
theorem lX7_43 : MLk RX7 43 yX7_setsOption := Or.inl (tg_in 784 (by decide +kernel) (by decide +kernel))
theorem lX7_47 : MLk RX7 47 yX7_setsStartCase := Or.inl (tg_in 787 (by decide +kernel) (by decide +kernel))
theorem lX7_51 : MLk RX7 51 yX9_has := Or.inl (tg_in 790 (by decide +kernel) (by decide +kernel))
theorem lX7_54 : MLk RX7 54 yX9_caseBefore := Or.inl (tg_in 791 (by decide +kernel) (by decide +kernel))
theorem lX7_57 : MLk RX7 57 yX10_at := Or.inl (tg_in 792 (by decide +kernel) (by decide +kernel))
theorem lL_123 : MLk RL 123 yX11_observe := Or.inl (tg_in 793 (by decide +kernel) (by decide +kernel))
theorem lX11_221 : MLk RX11 221 yX4_keep := Or.inl (tg_in 797 (by decide +kernel) (by decide +kernel))
theorem lX4_25 : MLk RX4 25 yJ9_min_7cf53 := Or.inl (tg_in 801 (by decide +kernel) (by decide +kernel))
theorem lL_127 : MLk RL 127 yX11_possibleSettings := Or.inl (tg_in 802 (by decide +kernel) (by decide +kernel))
theorem lX11_225 : MLk RX11 225 yX4_holdFor := Or.inl (tg_in 806 (by decide +kernel) (by decide +kernel))
theorem lX4_31 : MLk RX4 31 yX10_has := Or.inl (tg_in 810 (by decide +kernel) (by decide +kernel))
theorem lX4_37 : MLk RX4 37 yX10_at := Or.inl (tg_in 811 (by decide +kernel) (by decide +kernel))
theorem lL_131 : MLk RL 131 yX11_noise := Or.inl (tg_in 812 (by decide +kernel) (by decide +kernel))
theorem lX11_229 : MLk RX11 229 yX9_disturb := Or.inl (tg_in 816 (by decide +kernel) (by decide +kernel))
theorem lX9_80 : MLk RX9 80 yX9_turnBit := Or.inl (tg_in 822 (by decide +kernel) (by decide +kernel))
theorem lL_136 : MLk RL 136 yX11_save := Or.inl (tg_in 823 (by decide +kernel) (by decide +kernel))
theorem lX11_233 : MLk RX11 233 yX8_has := Or.inl (tg_in 827 (by decide +kernel) (by decide +kernel))
theorem lX11_234 : MLk RX11 234 yX8_keep := Or.inl (tg_in 831 (by decide +kernel) (by decide +kernel))
theorem lX8_22 : MLk RX8 22 yX8_has := Or.inl (tg_in 835 (by decide +kernel) (by decide +kernel))
theorem lX8_26 : MLk RX8 26 yX9_become := Or.inl (tg_in 836 (by decide +kernel) (by decide +kernel))
theorem lL_140 : MLk RL 140 yX11_restore := Or.inl (tg_in 837 (by decide +kernel) (by decide +kernel))
theorem lX11_237 : MLk RX11 237 yX8_bringBack := Or.inl (tg_in 841 (by decide +kernel) (by decide +kernel))
theorem lX11_240 : MLk RX11 240 yX2_forgetAll := Or.inl (tg_in 845 (by decide +kernel) (by decide +kernel))
theorem lL_144 : MLk RL 144 yX11_editDistance := Or.inl (tg_in 849 (by decide +kernel) (by decide +kernel))
theorem lX11_243 : MLk RX11 243 yX10_distanceTo := Or.inl (tg_in 853 (by decide +kernel) (by decide +kernel))
theorem lX10_45 : MLk RX10 45 yX10_nextDistances := Or.inl (tg_in 857 (by decide +kernel) (by decide +kernel))
theorem lX10_49 : MLk RX10 49 yJ9_min_7cf53 := Or.inl (tg_in 861 (by decide +kernel) (by decide +kernel))
theorem lL_12 : MLk RL 12 yX12_init := Or.inl (tg_in 864 (by decide +kernel) (by decide +kernel))
theorem lX12_1 : Cond.methodLink RX12 1 objectInit ∈ lw_tg := tg_in 867 (by decide +kernel) (by decide +kernel)
theorem lL_17 : MLk RL 17 yX12_append := Or.inl (tg_in 941 (by decide +kernel) (by decide +kernel))
theorem lX12_67 : MLk RX12 67 yX12_in := Or.inl (tg_in 946 (by decide +kernel) (by decide +kernel))
theorem lL_22 : MLk RL 22 yX12_clearMessage := Or.inl (tg_in 949 (by decide +kernel) (by decide +kernel))
theorem lL_26 : MLk RL 26 yX12_errorPosition := Or.inl (tg_in 953 (by decide +kernel) (by decide +kernel))
theorem lX12_95 : MLk RX12 95 yX12_codeOf := Or.inl (tg_in 957 (by decide +kernel) (by decide +kernel))
theorem lX12_59 : MLk RX12 59 yX12_figureOf := Or.inl (tg_in 962 (by decide +kernel) (by decide +kernel))
theorem lL_30 : MLk RL 30 yX12_length := Or.inl (tg_in 965 (by decide +kernel) (by decide +kernel))
theorem lL_34 : MLk RL 34 yX12_codeAt := Or.inl (tg_in 969 (by decide +kernel) (by decide +kernel))
theorem lX12_98 : MLk RX12 98 yX12_isIndex := Or.inl (tg_in 973 (by decide +kernel) (by decide +kernel))
theorem lL_38 : MLk RL 38 yX12_caseAt := Or.inl (tg_in 977 (by decide +kernel) (by decide +kernel))
theorem lX12_102 : MLk RX12 102 yX12_layText := Or.inl (tg_in 981 (by decide +kernel) (by decide +kernel))
theorem lX12_79 : MLk RX12 79 yX12_layPrints := Or.inl (tg_in 985 (by decide +kernel) (by decide +kernel))
theorem lX12_71 : MLk RX12 71 yX12_printOf := Or.inl (tg_in 988 (by decide +kernel) (by decide +kernel))
theorem lX12_75 : MLk RX12 75 yX12_caseAfter := Or.inl (tg_in 991 (by decide +kernel) (by decide +kernel))
theorem lL_42 : MLk RL 42 yX12_printedLength := Or.inl (tg_in 994 (by decide +kernel) (by decide +kernel))
theorem lL_46 : MLk RL 46 yX12_printedAt := Or.inl (tg_in 998 (by decide +kernel) (by decide +kernel))
theorem lL_50 : MLk RL 50 yX12_punch := Or.inl (tg_in 1002 (by decide +kernel) (by decide +kernel))
theorem lX12_122 : MLk RX12 122 yX12_note := Or.inl (tg_in 1007 (by decide +kernel) (by decide +kernel))
theorem lX12_116 : MLk RX12 116 yX12_put := Or.inl (tg_in 1011 (by decide +kernel) (by decide +kernel))
theorem lL_54 : MLk RL 54 yX12_encodeMessage := Or.inl (tg_in 1014 (by decide +kernel) (by decide +kernel))
theorem lX12_125 : MLk RX12 125 yX12_errorPosition := Or.inl (tg_in 1018 (by decide +kernel) (by decide +kernel))
theorem lX12_129 : MLk RX12 129 yX12_copy := Or.inl (tg_in 1019 (by decide +kernel) (by decide +kernel))
theorem lX12_133 : MLk RX12 133 yX12_encode := Or.inl (tg_in 1022 (by decide +kernel) (by decide +kernel))
theorem lX12_112 : MLk RX12 112 yX12_caseOfAll := Or.inl (tg_in 1025 (by decide +kernel) (by decide +kernel))
theorem lX12_136 : MLk RX12 136 yX12_take := Or.inl (tg_in 1028 (by decide +kernel) (by decide +kernel))
theorem lL_58 : MLk RL 58 yX12_encodeWrapped := Or.inl (tg_in 1032 (by decide +kernel) (by decide +kernel))
theorem lX12_140 : MLk RX12 140 yX12_isBlank := Or.inl (tg_in 1036 (by decide +kernel) (by decide +kernel))
theorem lL_62 : MLk RL 62 yX12_remove := Or.inl (tg_in 1040 (by decide +kernel) (by decide +kernel))
theorem lX12_143 : MLk RX12 143 yX12_takeOut := Or.inl (tg_in 1044 (by decide +kernel) (by decide +kernel))
theorem lL_67 : MLk RL 67 yX12_flip := Or.inl (tg_in 1047 (by decide +kernel) (by decide +kernel))
theorem lL_71 : MLk RL 71 yX12_compact := Or.inl (tg_in 1052 (by decide +kernel) (by decide +kernel))
theorem lX12_149 : MLk RX12 149 yX12_laySecond := Or.inl (tg_in 1056 (by decide +kernel) (by decide +kernel))
theorem lX12_152 : MLk RX12 152 yX12_isSameText := Or.inl (tg_in 1060 (by decide +kernel) (by decide +kernel))
theorem lL_75 : MLk RL 75 yX12_repair := Or.inl (tg_in 1064 (by decide +kernel) (by decide +kernel))
theorem lX12_156 : MLk RX12 156 yX12_caseFor := Or.inl (tg_in 1068 (by decide +kernel) (by decide +kernel))
theorem lL_79 : MLk RL 79 yX12_setStartCase := Or.inl (tg_in 1071 (by decide +kernel) (by decide +kernel))
theorem lX12_159 : MLk RX12 159 yX12_turn := Or.inl (tg_in 1075 (by decide +kernel) (by decide +kernel))
theorem lL_83 : MLk RL 83 yX12_setUnshiftOnSpace := Or.inl (tg_in 1079 (by decide +kernel) (by decide +kernel))
theorem lL_87 : MLk RL 87 yX12_setWidth := Or.inl (tg_in 1083 (by decide +kernel) (by decide +kernel))
theorem lL_91 : MLk RL 91 yX12_undo := Or.inl (tg_in 1087 (by decide +kernel) (by decide +kernel))
theorem lL_95 : MLk RL 95 yX12_cell := Or.inl (tg_in 1091 (by decide +kernel) (by decide +kernel))
theorem lX12_168 : MLk RX12 168 yX12_layPage := Or.inl (tg_in 1096 (by decide +kernel) (by decide +kernel))
theorem lL_99 : MLk RL 99 yX12_overstrikes := Or.inl (tg_in 1100 (by decide +kernel) (by decide +kernel))
theorem lL_103 : MLk RL 103 yX12_damageIfLost := Or.inl (tg_in 1104 (by decide +kernel) (by decide +kernel))
theorem lL_107 : MLk RL 107 yX12_damageIfFlipped := Or.inl (tg_in 1108 (by decide +kernel) (by decide +kernel))
theorem lX12_171 : MLk RX12 171 yX12_unlike := Or.inl (tg_in 1112 (by decide +kernel) (by decide +kernel))
theorem lL_111 : MLk RL 111 yX12_confidenceNumerator := Or.inl (tg_in 1116 (by decide +kernel) (by decide +kernel))
theorem lX12_192 : MLk RX12 192 yX12_confidence := Or.inl (tg_in 1120 (by decide +kernel) (by decide +kernel))
theorem lX12_183 : MLk RX12 183 yX12_shiftsBelow := Or.inl (tg_in 1125 (by decide +kernel) (by decide +kernel))
theorem lX12_174 : MLk RX12 174 yX12_isShift := Or.inl (tg_in 1129 (by decide +kernel) (by decide +kernel))
theorem lX12_186 : MLk RX12 186 yX12_caseBut := Or.inl (tg_in 1132 (by decide +kernel) (by decide +kernel))
theorem lX12_177 : MLk RX12 177 yX12_has := Or.inl (tg_in 1136 (by decide +kernel) (by decide +kernel))
theorem lX12_189 : MLk RX12 189 yX12_power := Or.inl (tg_in 1139 (by decide +kernel) (by decide +kernel))
theorem lL_115 : MLk RL 115 yX12_confidenceDenominator := Or.inl (tg_in 1142 (by decide +kernel) (by decide +kernel))
theorem lL_122 : MLk RL 122 yX12_runScript := Or.inl (tg_in 1146 (by decide +kernel) (by decide +kernel))
theorem lX12_198 : MLk RX12 198 yX12_thousands := Or.inl (tg_in 1150 (by decide +kernel) (by decide +kernel))
theorem lX12_202 : MLk RX12 202 yX12_command := Or.inl (tg_in 1154 (by decide +kernel) (by decide +kernel))
theorem lL_126 : MLk RL 126 yX12_observe := Or.inl (tg_in 1158 (by decide +kernel) (by decide +kernel))
theorem lL_130 : MLk RL 130 yX12_possibleSettings := Or.inl (tg_in 1163 (by decide +kernel) (by decide +kernel))
theorem lL_135 : MLk RL 135 yX12_noise := Or.inl (tg_in 1167 (by decide +kernel) (by decide +kernel))
theorem lL_139 : MLk RL 139 yX12_save := Or.inl (tg_in 1174 (by decide +kernel) (by decide +kernel))
theorem lL_143 : MLk RL 143 yX12_restore := Or.inl (tg_in 1178 (by decide +kernel) (by decide +kernel))
theorem lL_147 : MLk RL 147 yX12_editDistance := Or.inl (tg_in 1182 (by decide +kernel) (by decide +kernel))
theorem nX1_54 : Cond.constantLong RX1 54 (10) ∈ lw_tg := tg_in 752 (by decide +kernel) (by decide +kernel)
theorem nX1_56 : Cond.constantLong RX1 56 (2) ∈ lw_tg := tg_in 759 (by decide +kernel) (by decide +kernel)
theorem nX1_58 : Cond.constantLong RX1 58 (5) ∈ lw_tg := tg_in 760 (by decide +kernel) (by decide +kernel)
theorem nX7_19 : Cond.constantLong RX7 19 (1000) ∈ lw_tg := tg_in 773 (by decide +kernel) (by decide +kernel)
theorem nX9_76 : Cond.constantLong RX9 76 (6364136223846793005) ∈ lw_tg := tg_in 820 (by decide +kernel) (by decide +kernel)
theorem nX9_78 : Cond.constantLong RX9 78 (1442695040888963407) ∈ lw_tg := tg_in 821 (by decide +kernel) (by decide +kernel)
theorem nX12_90 : Cond.constantLong RX12 90 (255) ∈ lw_tg := tg_in 945 (by decide +kernel) (by decide +kernel)
theorem nX12_63 : Cond.constantLong RX12 63 (65) ∈ lw_tg := tg_in 960 (by decide +kernel) (by decide +kernel)
theorem nX12_65 : Cond.constantLong RX12 65 (90) ∈ lw_tg := tg_in 961 (by decide +kernel) (by decide +kernel)
theorem nX12_120 : Cond.constantLong RX12 120 (31) ∈ lw_tg := tg_in 1006 (by decide +kernel) (by decide +kernel)
theorem nX12_147 : Cond.constantLong RX12 147 (4) ∈ lw_tg := tg_in 1051 (by decide +kernel) (by decide +kernel)
theorem nX12_166 : Cond.constantLong RX12 166 (7) ∈ lw_tg := tg_in 1095 (by decide +kernel) (by decide +kernel)
theorem nX12_181 : Cond.constantLong RX12 181 (10) ∈ lw_tg := tg_in 1124 (by decide +kernel) (by decide +kernel)
theorem nX12_196 : Cond.constantLong RX12 196 (1000) ∈ lw_tg := tg_in 1153 (by decide +kernel) (by decide +kernel)
theorem nX12_205 : Cond.constantLong RX12 205 (95) ∈ lw_tg := tg_in 1162 (by decide +kernel) (by decide +kernel)
theorem nX12_213 : Cond.constantLong RX12 213 (60) ∈ lw_tg := tg_in 1171 (by decide +kernel) (by decide +kernel)
theorem nX12_215 : Cond.constantLong RX12 215 (6364136223846793005) ∈ lw_tg := tg_in 1172 (by decide +kernel) (by decide +kernel)
theorem nX12_217 : Cond.constantLong RX12 217 (1442695040888963407) ∈ lw_tg := tg_in 1173 (by decide +kernel) (by decide +kernel)
theorem nL_116 : Cond.constantLong RL 116 (4294967295) ∈ lw_tg := tg_in 1186 (by decide +kernel) (by decide +kernel)
theorem wL_7 : Cond.classLink RL 7 RX11 ∈ lw_tg := tg_in 51 (by decide +kernel) (by decide +kernel)
theorem wX11_7 : Cond.classLink RX11 7 RX9 ∈ lw_tg := tg_in 59 (by decide +kernel) (by decide +kernel)
theorem wX11_19 : Cond.classLink RX11 19 RX6 ∈ lw_tg := tg_in 95 (by decide +kernel) (by decide +kernel)
theorem wX6_9 : Cond.classLink RX6 9 RX9 ∈ lw_tg := tg_in 101 (by decide +kernel) (by decide +kernel)
theorem wX11_26 : Cond.classLink RX11 26 RX3 ∈ lw_tg := tg_in 115 (by decide +kernel) (by decide +kernel)
theorem wX11_33 : Cond.classLink RX11 33 RX2 ∈ lw_tg := tg_in 130 (by decide +kernel) (by decide +kernel)
theorem wX2_9 : Cond.classLink RX2 9 RX9 ∈ lw_tg := tg_in 136 (by decide +kernel) (by decide +kernel)
theorem wX11_40 : Cond.classLink RX11 40 RX8 ∈ lw_tg := tg_in 150 (by decide +kernel) (by decide +kernel)
theorem wX8_9 : Cond.classLink RX8 9 RX9 ∈ lw_tg := tg_in 156 (by decide +kernel) (by decide +kernel)
theorem wX11_47 : Cond.classLink RX11 47 RX10 ∈ lw_tg := tg_in 166 (by decide +kernel) (by decide +kernel)
theorem wX11_57 : Cond.classLink RX11 57 RX5 ∈ lw_tg := tg_in 185 (by decide +kernel) (by decide +kernel)
theorem wX11_64 : Cond.classLink RX11 64 RX4 ∈ lw_tg := tg_in 205 (by decide +kernel) (by decide +kernel)
theorem wX11_71 : Cond.classLink RX11 71 RX1 ∈ lw_tg := tg_in 225 (by decide +kernel) (by decide +kernel)
theorem wX11_78 : Cond.classLink RX11 78 RX7 ∈ lw_tg := tg_in 246 (by decide +kernel) (by decide +kernel)
theorem wL_10 : Cond.classLink RL 10 RX12 ∈ lw_tg := tg_in 862 (by decide +kernel) (by decide +kernel)
theorem tX1 : Cond.instantiable RX1 4 ∈ lw_tg := tg_in 226 (by decide +kernel) (by decide +kernel)
theorem sX1 : Cond.initialized RX1 ∈ lw_tg := tg_in 39 (by decide +kernel) (by decide +kernel)
theorem tX2 : Cond.instantiable RX2 3 ∈ lw_tg := tg_in 131 (by decide +kernel) (by decide +kernel)
theorem sX2 : Cond.initialized RX2 ∈ lw_tg := tg_in 34 (by decide +kernel) (by decide +kernel)
theorem tX3 : Cond.instantiable RX3 2 ∈ lw_tg := tg_in 116 (by decide +kernel) (by decide +kernel)
theorem sX3 : Cond.initialized RX3 ∈ lw_tg := tg_in 33 (by decide +kernel) (by decide +kernel)
theorem tX4 : Cond.instantiable RX4 4 ∈ lw_tg := tg_in 206 (by decide +kernel) (by decide +kernel)
theorem sX4 : Cond.initialized RX4 ∈ lw_tg := tg_in 38 (by decide +kernel) (by decide +kernel)
theorem tX5 : Cond.instantiable RX5 4 ∈ lw_tg := tg_in 186 (by decide +kernel) (by decide +kernel)
theorem sX5 : Cond.initialized RX5 ∈ lw_tg := tg_in 37 (by decide +kernel) (by decide +kernel)
theorem tX6 : Cond.instantiable RX6 3 ∈ lw_tg := tg_in 96 (by decide +kernel) (by decide +kernel)
theorem sX6 : Cond.initialized RX6 ∈ lw_tg := tg_in 32 (by decide +kernel) (by decide +kernel)
theorem tX7 : Cond.instantiable RX7 2 ∈ lw_tg := tg_in 247 (by decide +kernel) (by decide +kernel)
theorem sX7 : Cond.initialized RX7 ∈ lw_tg := tg_in 40 (by decide +kernel) (by decide +kernel)
theorem tX8 : Cond.instantiable RX8 2 ∈ lw_tg := tg_in 151 (by decide +kernel) (by decide +kernel)
theorem sX8 : Cond.initialized RX8 ∈ lw_tg := tg_in 35 (by decide +kernel) (by decide +kernel)
theorem tX9 : Cond.instantiable RX9 5 ∈ lw_tg := tg_in 60 (by decide +kernel) (by decide +kernel)
theorem sX9 : Cond.initialized RX9 ∈ lw_tg := tg_in 31 (by decide +kernel) (by decide +kernel)
theorem tX10 : Cond.instantiable RX10 3 ∈ lw_tg := tg_in 167 (by decide +kernel) (by decide +kernel)
theorem sX10 : Cond.initialized RX10 ∈ lw_tg := tg_in 36 (by decide +kernel) (by decide +kernel)
theorem tX11 : Cond.instantiable RX11 12 ∈ lw_tg := tg_in 52 (by decide +kernel) (by decide +kernel)
theorem sX11 : Cond.initialized RX11 ∈ lw_tg := tg_in 30 (by decide +kernel) (by decide +kernel)
theorem tX12 : Cond.instantiable RX12 24 ∈ lw_tg := tg_in 863 (by decide +kernel) (by decide +kernel)
theorem sX12 : Cond.initialized RX12 ∈ lw_tg := tg_in 41 (by decide +kernel) (by decide +kernel)
theorem gJ0_38 : Cond.fieldLink RJ0 38 "java/lang/String" "COMPACT_STRINGS" "Z" ∈ lw_tg := tg_in 335 (by decide +kernel) (by decide +kernel)
theorem gJ0_1053 : Cond.fieldLink RJ0 1053 "jdk/internal/util/Preconditions" "SIOOBE_FORMATTER" "Ljava/util/function/BiFunction;" ∈ lw_tg := tg_in 378 (by decide +kernel) (by decide +kernel)
theorem gJ0_15 : Cond.fieldLink RJ0 15 "java/lang/String" "coder" "B" ∈ lw_tg := tg_in 1187 (by decide +kernel) (by decide +kernel)
theorem gJ0_9 : Cond.fieldLink RJ0 9 "java/lang/String" "value" "[B" ∈ lw_tg := tg_in 1188 (by decide +kernel) (by decide +kernel)
theorem ac_n : Cond.native arraycopyName ∈ lw_tg := tg_in 514 (by decide +kernel) (by decide +kernel)
theorem ac_s : Cond.static arraycopyName ∈ lw_tg := tg_in 513 (by decide +kernel) (by decide +kernel)
theorem ac_i : Cond.initialized "java/lang/System" ∈ lw_tg := tg_in 49 (by decide +kernel) (by decide +kernel)
theorem oi_i : Cond.instanceMethod objectInit ∈ lw_tg := tg_in 57 (by decide +kernel) (by decide +kernel)
theorem oi_c : Cond.code objectInit ⟨#[0xb1]⟩ 1 none ∈ lw_tg := tg_in 58 (by decide +kernel) (by decide +kernel)
