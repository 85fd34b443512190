theorem nk0 : n_K 0 := ⟨RX0, TX0, 4, tyX0, rfl, inlX0, tyX0_ok, fun j hj => (match j, hj with | 0, _ => rfl | 1, _ => rfl | 2, _ => rfl | 3, _ => rfl | k + 4, h => absurd h (by omega)), in_r2 _ (List.mem_of_getElem? (i := 23) rfl), in_r3 _ (List.mem_of_getElem? (i := 0) rfl)⟩
theorem nk2 : n_K 1 := ⟨RX2, TX2, 3, tyX2, rfl, inlX2, tyX2_ok, fun j hj => (match j, hj with | 0, _ => rfl | 1, _ => rfl | 2, _ => rfl | k + 3, h => absurd h (by omega)), in_r4 _ (List.mem_of_getElem? (i := 12) rfl), in_r4 _ (List.mem_of_getElem? (i := 13) rfl)⟩
theorem nk3 : n_K 2 := ⟨RX3, TX3, 5, tyX3, rfl, inlX3, tyX3_ok, fun j hj => (match j, hj with | 0, _ => rfl | 1, _ => rfl | 2, _ => rfl | 3, _ => rfl | 4, _ => rfl | k + 5, h => absurd h (by omega)), in_r5 _ (List.mem_of_getElem? (i := 17) rfl), in_r5 _ (List.mem_of_getElem? (i := 18) rfl)⟩
theorem nk4 : n_K 3 := ⟨RX4, TX4, 9, tyX4, rfl, inlX4, tyX4_ok, fun j hj => (match j, hj with | 0, _ => rfl | 1, _ => rfl | 2, _ => rfl | 3, _ => rfl | 4, _ => rfl | 5, _ => rfl | 6, _ => rfl | 7, _ => rfl | 8, _ => rfl | k + 9, h => absurd h (by omega)), in_r2 _ (List.mem_of_getElem? (i := 11) rfl), in_r2 _ (List.mem_of_getElem? (i := 12) rfl)⟩
theorem nk5 : n_K 4 := ⟨RX5, TX5, 4, tyX5, rfl, inlX5, tyX5_ok, fun j hj => (match j, hj with | 0, _ => rfl | 1, _ => rfl | 2, _ => rfl | 3, _ => rfl | k + 4, h => absurd h (by omega)), in_r2 _ (List.mem_of_getElem? (i := 19) rfl), in_r2 _ (List.mem_of_getElem? (i := 20) rfl)⟩
theorem nk6 : n_K 5 := ⟨RX6, TX6, 4, tyX6, rfl, inlX6, tyX6_ok, fun j hj => (match j, hj with | 0, _ => rfl | 1, _ => rfl | 2, _ => rfl | 3, _ => rfl | k + 4, h => absurd h (by omega)), in_r4 _ (List.mem_of_getElem? (i := 16) rfl), in_r4 _ (List.mem_of_getElem? (i := 17) rfl)⟩
theorem nk7 : n_K 6 := ⟨RX7, TX7, 12, tyX7, rfl, inlX7, tyX7_ok, fun j hj => (match j, hj with | 0, _ => rfl | 1, _ => rfl | 2, _ => rfl | 3, _ => rfl | 4, _ => rfl | 5, _ => rfl | 6, _ => rfl | 7, _ => rfl | 8, _ => rfl | 9, _ => rfl | 10, _ => rfl | 11, _ => rfl | k + 12, h => absurd h (by omega)), in_r2 _ (List.mem_of_getElem? (i := 5) rfl), in_r2 _ (List.mem_of_getElem? (i := 6) rfl)⟩
theorem nk8 : n_K 7 := ⟨RX8, TX8, 5, tyX8, rfl, inlX8, tyX8_ok, fun j hj => (match j, hj with | 0, _ => rfl | 1, _ => rfl | 2, _ => rfl | 3, _ => rfl | 4, _ => rfl | k + 5, h => absurd h (by omega)), in_r2 _ (List.mem_of_getElem? (i := 15) rfl), in_r2 _ (List.mem_of_getElem? (i := 16) rfl)⟩
theorem nk9 : n_K 8 := ⟨RX9, TX9, 4, tyX9, rfl, inlX9, tyX9_ok, fun j hj => (match j, hj with | 0, _ => rfl | 1, _ => rfl | 2, _ => rfl | 3, _ => rfl | k + 4, h => absurd h (by omega)), in_r1 _ (List.mem_of_getElem? (i := 21) rfl), in_r1 _ (List.mem_of_getElem? (i := 22) rfl)⟩
theorem nk10 : n_K 9 := ⟨RX10, TX10, 5, tyX10, rfl, inlX10, tyX10_ok, fun j hj => (match j, hj with | 0, _ => rfl | 1, _ => rfl | 2, _ => rfl | 3, _ => rfl | 4, _ => rfl | k + 5, h => absurd h (by omega)), in_r2 _ (List.mem_of_getElem? (i := 3) rfl), in_r2 _ (List.mem_of_getElem? (i := 4) rfl)⟩
theorem nk11 : n_K 10 := ⟨RX11, TX11, 7, tyX11, rfl, inlX11, tyX11_ok, fun j hj => (match j, hj with | 0, _ => rfl | 1, _ => rfl | 2, _ => rfl | 3, _ => rfl | 4, _ => rfl | 5, _ => rfl | 6, _ => rfl | k + 7, h => absurd h (by omega)), in_r1 _ (List.mem_of_getElem? (i := 1) rfl), in_r1 _ (List.mem_of_getElem? (i := 2) rfl)⟩
theorem nk12 : n_K 11 := ⟨RX12, TX12, 58, tyX12, rfl, inlX12, tyX12_ok, fun j hj => (match j, hj with | 0, _ => rfl | 1, _ => rfl | 2, _ => rfl | 3, _ => rfl | 4, _ => rfl | 5, _ => rfl | 6, _ => rfl | 7, _ => rfl | 8, _ => rfl | 9, _ => rfl | 10, _ => rfl | 11, _ => rfl | 12, _ => rfl | 13, _ => rfl | 14, _ => rfl | 15, _ => rfl | 16, _ => rfl | 17, _ => rfl | 18, _ => rfl | 19, _ => rfl | 20, _ => rfl | 21, _ => rfl | 22, _ => rfl | 23, _ => rfl | 24, _ => rfl | 25, _ => rfl | 26, _ => rfl | 27, _ => rfl | 28, _ => rfl | 29, _ => rfl | 30, _ => rfl | 31, _ => rfl | 32, _ => rfl | 33, _ => rfl | 34, _ => rfl | 35, _ => rfl | 36, _ => rfl | 37, _ => rfl | 38, _ => rfl | 39, _ => rfl | 40, _ => rfl | 41, _ => rfl | 42, _ => rfl | 43, _ => rfl | 44, _ => rfl | 45, _ => rfl | 46, _ => rfl | 47, _ => rfl | 48, _ => rfl | 49, _ => rfl | 50, _ => rfl | 51, _ => rfl | 52, _ => rfl | 53, _ => rfl | 54, _ => rfl | 55, _ => rfl | 56, _ => rfl | 57, _ => rfl | k + 58, h => absurd h (by omega)), in_r1 _ (List.mem_of_getElem? (i := 4) rfl), in_r1 _ (List.mem_of_getElem? (i := 5) rfl)⟩
theorem nlX11_9 : n_Lf RX11 9 10 0 (.array .byte) := ⟨TX11, 7, tyX11, rfl, inlX11, by decide, in_r1 _ (List.mem_of_getElem? (i := 14) rfl), rfl, tyX11_ok, nmX11, rfl, rfl⟩
theorem nlX11_17 : n_Lf RX11 17 10 2 (.array .byte) := ⟨TX11, 7, tyX11, rfl, inlX11, by decide, in_r1 _ (List.mem_of_getElem? (i := 16) rfl), rfl, tyX11_ok, nmX11, rfl, rfl⟩
theorem nlX11_25 : n_Lf RX11 25 10 4 (.array (.array .byte)) := ⟨TX11, 7, tyX11, rfl, inlX11, by decide, in_r1 _ (List.mem_of_getElem? (i := 19) rfl), rfl, tyX11_ok, nmX11, rfl, rfl⟩
theorem nlX11_31 : n_Lf RX11 31 10 5 (.object "NoiseEngine$Suite") := ⟨TX11, 7, tyX11, rfl, inlX11, by decide, in_r1 _ (List.mem_of_getElem? (i := 23) rfl), rfl, tyX11_ok, nmX11, rfl, rfl⟩
theorem nlX11_37 : n_Lf RX11 37 10 6 (.array (.object "NoiseEngine$Session")) := ⟨TX11, 7, tyX11, rfl, inlX11, by decide, in_r2 _ (List.mem_of_getElem? (i := 1) rfl), rfl, tyX11_ok, nmX11, rfl, rfl⟩
theorem nlX9_10 : n_Lf RX9 10 8 0 (.object "NoiseEngine$Curve25519") := ⟨TX9, 4, tyX9, rfl, inlX9, by decide, in_r2 _ (List.mem_of_getElem? (i := 13) rfl), rfl, tyX9_ok, nmX9, rfl, rfl⟩
theorem nlX9_19 : n_Lf RX9 19 8 1 (.object "NoiseEngine$Sha256") := ⟨TX9, 4, tyX9, rfl, inlX9, by decide, in_r2 _ (List.mem_of_getElem? (i := 17) rfl), rfl, tyX9_ok, nmX9, rfl, rfl⟩
theorem nlX9_28 : n_Lf RX9 28 8 2 (.object "NoiseEngine$Hmac") := ⟨TX9, 4, tyX9, rfl, inlX9, by decide, in_r2 _ (List.mem_of_getElem? (i := 21) rfl), rfl, tyX9_ok, nmX9, rfl, rfl⟩
theorem nlX9_35 : n_Lf RX9 35 8 3 (.object "NoiseEngine$Aead") := ⟨TX9, 4, tyX9, rfl, inlX9, by decide, in_r3 _ (List.mem_of_getElem? (i := 1) rfl), rfl, tyX9_ok, nmX9, rfl, rfl⟩
theorem nlX4_9 : n_Lf RX4 9 3 0 (.array .byte) := ⟨TX4, 9, tyX4, rfl, inlX4, by decide, in_r3 _ (List.mem_of_getElem? (i := 5) rfl), rfl, tyX4_ok, nmX4, rfl, rfl⟩
theorem nlX4_15 : n_Lf RX4 15 3 1 (.array .byte) := ⟨TX4, 9, tyX4, rfl, inlX4, by decide, in_r3 _ (List.mem_of_getElem? (i := 6) rfl), rfl, tyX4_ok, nmX4, rfl, rfl⟩
theorem nlX4_18 : n_Lf RX4 18 3 2 (.array .long) := ⟨TX4, 9, tyX4, rfl, inlX4, by decide, in_r3 _ (List.mem_of_getElem? (i := 8) rfl), rfl, tyX4_ok, nmX4, rfl, rfl⟩
theorem nlX4_22 : n_Lf RX4 22 3 3 (.array .long) := ⟨TX4, 9, tyX4, rfl, inlX4, by decide, in_r3 _ (List.mem_of_getElem? (i := 9) rfl), rfl, tyX4_ok, nmX4, rfl, rfl⟩
theorem nlX4_25 : n_Lf RX4 25 3 4 (.array .long) := ⟨TX4, 9, tyX4, rfl, inlX4, by decide, in_r3 _ (List.mem_of_getElem? (i := 10) rfl), rfl, tyX4_ok, nmX4, rfl, rfl⟩
theorem nlX4_28 : n_Lf RX4 28 3 5 (.array .long) := ⟨TX4, 9, tyX4, rfl, inlX4, by decide, in_r3 _ (List.mem_of_getElem? (i := 11) rfl), rfl, tyX4_ok, nmX4, rfl, rfl⟩
theorem nlX4_31 : n_Lf RX4 31 3 6 (.array .long) := ⟨TX4, 9, tyX4, rfl, inlX4, by decide, in_r3 _ (List.mem_of_getElem? (i := 12) rfl), rfl, tyX4_ok, nmX4, rfl, rfl⟩
theorem nlX4_34 : n_Lf RX4 34 3 7 (.array .long) := ⟨TX4, 9, tyX4, rfl, inlX4, by decide, in_r3 _ (List.mem_of_getElem? (i := 13) rfl), rfl, tyX4_ok, nmX4, rfl, rfl⟩
theorem nlX4_37 : n_Lf RX4 37 3 8 (.array .long) := ⟨TX4, 9, tyX4, rfl, inlX4, by decide, in_r3 _ (List.mem_of_getElem? (i := 14) rfl), rfl, tyX4_ok, nmX4, rfl, rfl⟩
theorem nlX8_7 : n_Lf RX8 7 7 0 (.array .int) := ⟨TX8, 5, tyX8, rfl, inlX8, by decide, in_r3 _ (List.mem_of_getElem? (i := 19) rfl), rfl, tyX8_ok, nmX8, rfl, rfl⟩
theorem nlX8_13 : n_Lf RX8 13 7 1 (.array .int) := ⟨TX8, 5, tyX8, rfl, inlX8, by decide, in_r3 _ (List.mem_of_getElem? (i := 20) rfl), rfl, tyX8_ok, nmX8, rfl, rfl⟩
theorem nlX8_16 : n_Lf RX8 16 7 2 (.array .byte) := ⟨TX8, 5, tyX8, rfl, inlX8, by decide, in_r3 _ (List.mem_of_getElem? (i := 21) rfl), rfl, tyX8_ok, nmX8, rfl, rfl⟩
theorem nlX5_11 : n_Lf RX5 11 4 1 (.array .byte) := ⟨TX5, 4, tyX5, rfl, inlX5, by decide, in_r4 _ (List.mem_of_getElem? (i := 4) rfl), rfl, tyX5_ok, nmX5, rfl, rfl⟩
theorem nlX5_15 : n_Lf RX5 15 4 2 (.array .byte) := ⟨TX5, 4, tyX5, rfl, inlX5, by decide, in_r4 _ (List.mem_of_getElem? (i := 5) rfl), rfl, tyX5_ok, nmX5, rfl, rfl⟩
theorem nlX5_18 : n_Lf RX5 18 4 3 (.array .byte) := ⟨TX5, 4, tyX5, rfl, inlX5, by decide, in_r4 _ (List.mem_of_getElem? (i := 6) rfl), rfl, tyX5_ok, nmX5, rfl, rfl⟩
theorem nlX5_21 : n_Lf RX5 21 4 0 (.object "NoiseEngine$Sha256") := ⟨TX5, 4, tyX5, rfl, inlX5, by decide, in_r4 _ (List.mem_of_getElem? (i := 7) rfl), rfl, tyX5_ok, nmX5, rfl, rfl⟩
theorem nlX0_12 : n_Lf RX0 12 0 0 (.object "NoiseEngine$ChaCha20") := ⟨TX0, 4, tyX0, rfl, inlX0, by decide, in_r4 _ (List.mem_of_getElem? (i := 14) rfl), rfl, tyX0_ok, nmX0, rfl, rfl⟩
theorem nlX0_21 : n_Lf RX0 21 0 1 (.object "NoiseEngine$Poly1305") := ⟨TX0, 4, tyX0, rfl, inlX0, by decide, in_r4 _ (List.mem_of_getElem? (i := 18) rfl), rfl, tyX0_ok, nmX0, rfl, rfl⟩
theorem nlX0_25 : n_Lf RX0 25 0 2 (.array .byte) := ⟨TX0, 4, tyX0, rfl, inlX0, by decide, in_r4 _ (List.mem_of_getElem? (i := 19) rfl), rfl, tyX0_ok, nmX0, rfl, rfl⟩
theorem nlX2_9 : n_Lf RX2 9 1 0 (.array .byte) := ⟨TX2, 3, tyX2, rfl, inlX2, by decide, in_r5 _ (List.mem_of_getElem? (i := 0) rfl), rfl, tyX2_ok, nmX2, rfl, rfl⟩
theorem nlX2_13 : n_Lf RX2 13 1 1 (.array .int) := ⟨TX2, 3, tyX2, rfl, inlX2, by decide, in_r5 _ (List.mem_of_getElem? (i := 1) rfl), rfl, tyX2_ok, nmX2, rfl, rfl⟩
theorem nlX2_17 : n_Lf RX2 17 1 2 (.array .int) := ⟨TX2, 3, tyX2, rfl, inlX2, by decide, in_r5 _ (List.mem_of_getElem? (i := 2) rfl), rfl, tyX2_ok, nmX2, rfl, rfl⟩
theorem nlX6_7 : n_Lf RX6 7 5 0 (.array .long) := ⟨TX6, 4, tyX6, rfl, inlX6, by decide, in_r5 _ (List.mem_of_getElem? (i := 6) rfl), rfl, tyX6_ok, nmX6, rfl, rfl⟩
theorem nlX6_13 : n_Lf RX6 13 5 1 (.array .long) := ⟨TX6, 4, tyX6, rfl, inlX6, by decide, in_r5 _ (List.mem_of_getElem? (i := 7) rfl), rfl, tyX6_ok, nmX6, rfl, rfl⟩
theorem nlX6_16 : n_Lf RX6 16 5 2 (.array .byte) := ⟨TX6, 4, tyX6, rfl, inlX6, by decide, in_r5 _ (List.mem_of_getElem? (i := 8) rfl), rfl, tyX6_ok, nmX6, rfl, rfl⟩
theorem nlX6_20 : n_Lf RX6 20 5 3 (.array .int) := ⟨TX6, 4, tyX6, rfl, inlX6, by decide, in_r5 _ (List.mem_of_getElem? (i := 9) rfl), rfl, tyX6_ok, nmX6, rfl, rfl⟩
theorem nlX10_9 : n_Lf RX10 9 9 0 (.array .byte) := ⟨TX10, 5, tyX10, rfl, inlX10, by decide, in_r5 _ (List.mem_of_getElem? (i := 14) rfl), rfl, tyX10_ok, nmX10, rfl, rfl⟩
theorem nlX10_15 : n_Lf RX10 15 9 1 (.array .byte) := ⟨TX10, 5, tyX10, rfl, inlX10, by decide, in_r5 _ (List.mem_of_getElem? (i := 15) rfl), rfl, tyX10_ok, nmX10, rfl, rfl⟩
theorem nlX10_29 : n_Lf RX10 29 9 2 (.object "NoiseEngine$CipherState") := ⟨TX10, 5, tyX10, rfl, inlX10, by decide, in_r5 _ (List.mem_of_getElem? (i := 20) rfl), rfl, tyX10_ok, nmX10, rfl, rfl⟩
theorem nlX10_37 : n_Lf RX10 37 9 3 (.object "NoiseEngine$Sha256") := ⟨TX10, 5, tyX10, rfl, inlX10, by decide, in_r5 _ (List.mem_of_getElem? (i := 22) rfl), rfl, tyX10_ok, nmX10, rfl, rfl⟩
theorem nlX10_42 : n_Lf RX10 42 9 4 (.object "NoiseEngine$Hmac") := ⟨TX10, 5, tyX10, rfl, inlX10, by decide, in_r6 _ (List.mem_of_getElem? (i := 0) rfl), rfl, tyX10_ok, nmX10, rfl, rfl⟩
theorem nlX3_9 : n_Lf RX3 9 2 0 (.array .byte) := ⟨TX3, 5, tyX3, rfl, inlX3, by decide, in_r6 _ (List.mem_of_getElem? (i := 5) rfl), rfl, tyX3_ok, nmX3, rfl, rfl⟩
theorem nlX3_15 : n_Lf RX3 15 2 1 (.array .byte) := ⟨TX3, 5, tyX3, rfl, inlX3, by decide, in_r6 _ (List.mem_of_getElem? (i := 6) rfl), rfl, tyX3_ok, nmX3, rfl, rfl⟩
theorem nlX3_26 : n_Lf RX3 26 2 2 (.object "NoiseEngine$Aead") := ⟨TX3, 5, tyX3, rfl, inlX3, by decide, in_r6 _ (List.mem_of_getElem? (i := 9) rfl), rfl, tyX3_ok, nmX3, rfl, rfl⟩
theorem nlX7_9 : n_Lf RX7 9 6 5 (.array .byte) := ⟨TX7, 12, tyX7, rfl, inlX7, by decide, in_r6 _ (List.mem_of_getElem? (i := 14) rfl), rfl, tyX7_ok, nmX7, rfl, rfl⟩
theorem nlX7_15 : n_Lf RX7 15 6 6 (.array .byte) := ⟨TX7, 12, tyX7, rfl, inlX7, by decide, in_r6 _ (List.mem_of_getElem? (i := 15) rfl), rfl, tyX7_ok, nmX7, rfl, rfl⟩
theorem nlX7_18 : n_Lf RX7 18 6 7 (.array .byte) := ⟨TX7, 12, tyX7, rfl, inlX7, by decide, in_r6 _ (List.mem_of_getElem? (i := 16) rfl), rfl, tyX7_ok, nmX7, rfl, rfl⟩
theorem nlX7_21 : n_Lf RX7 21 6 8 (.array .byte) := ⟨TX7, 12, tyX7, rfl, inlX7, by decide, in_r6 _ (List.mem_of_getElem? (i := 17) rfl), rfl, tyX7_ok, nmX7, rfl, rfl⟩
theorem nlX7_41 : n_Lf RX7 41 6 0 (.object "NoiseEngine$Curve25519") := ⟨TX7, 12, tyX7, rfl, inlX7, by decide, in_r6 _ (List.mem_of_getElem? (i := 22) rfl), rfl, tyX7_ok, nmX7, rfl, rfl⟩
theorem nlX7_47 : n_Lf RX7 47 6 1 (.object "NoiseEngine$SymmetricState") := ⟨TX7, 12, tyX7, rfl, inlX7, by decide, in_r7 _ (List.mem_of_getElem? (i := 0) rfl), rfl, tyX7_ok, nmX7, rfl, rfl⟩
theorem nlX7_51 : n_Lf RX7 51 6 2 (.object "NoiseEngine$SymmetricState") := ⟨TX7, 12, tyX7, rfl, inlX7, by decide, in_r7 _ (List.mem_of_getElem? (i := 1) rfl), rfl, tyX7_ok, nmX7, rfl, rfl⟩
theorem nlX7_63 : n_Lf RX7 63 6 3 (.object "NoiseEngine$CipherState") := ⟨TX7, 12, tyX7, rfl, inlX7, by decide, in_r7 _ (List.mem_of_getElem? (i := 4) rfl), rfl, tyX7_ok, nmX7, rfl, rfl⟩
theorem nlX7_67 : n_Lf RX7 67 6 4 (.object "NoiseEngine$CipherState") := ⟨TX7, 12, tyX7, rfl, inlX7, by decide, in_r7 _ (List.mem_of_getElem? (i := 5) rfl), rfl, tyX7_ok, nmX7, rfl, rfl⟩
theorem nlX12_7 : n_Lf RX12 7 11 0 (.array .byte) := ⟨TX12, 58, tyX12, rfl, inlX12, by decide, in_r7 _ (List.mem_of_getElem? (i := 12) rfl), rfl, tyX12_ok, nmX12, rfl, rfl⟩
theorem nlX12_13 : n_Lf RX12 13 11 1 (.array .byte) := ⟨TX12, 58, tyX12, rfl, inlX12, by decide, in_r7 _ (List.mem_of_getElem? (i := 13) rfl), rfl, tyX12_ok, nmX12, rfl, rfl⟩
theorem nlX12_16 : n_Lf RX12 16 11 2 (.array .byte) := ⟨TX12, 58, tyX12, rfl, inlX12, by decide, in_r7 _ (List.mem_of_getElem? (i := 14) rfl), rfl, tyX12_ok, nmX12, rfl, rfl⟩
theorem nlX12_19 : n_Lf RX12 19 11 3 (.array .byte) := ⟨TX12, 58, tyX12, rfl, inlX12, by decide, in_r7 _ (List.mem_of_getElem? (i := 15) rfl), rfl, tyX12_ok, nmX12, rfl, rfl⟩
theorem nlX12_22 : n_Lf RX12 22 11 6 (.array .byte) := ⟨TX12, 58, tyX12, rfl, inlX12, by decide, in_r7 _ (List.mem_of_getElem? (i := 16) rfl), rfl, tyX12_ok, nmX12, rfl, rfl⟩
theorem nlX12_89 : n_Lf RX12 89 11 7 (.array .int) := ⟨TX12, 58, tyX12, rfl, inlX12, by decide, in_r10 _ (List.mem_of_getElem? (i := 9) rfl), rfl, tyX12_ok, nmX12, rfl, rfl⟩
theorem nlX12_101 : n_Lf RX12 101 11 8 (.array .int) := ⟨TX12, 58, tyX12, rfl, inlX12, by decide, in_r10 _ (List.mem_of_getElem? (i := 18) rfl), rfl, tyX12_ok, nmX12, rfl, rfl⟩
theorem nlX12_104 : n_Lf RX12 104 11 9 (.array .int) := ⟨TX12, 58, tyX12, rfl, inlX12, by decide, in_r10 _ (List.mem_of_getElem? (i := 19) rfl), rfl, tyX12_ok, nmX12, rfl, rfl⟩
theorem nlX12_107 : n_Lf RX12 107 11 10 (.array .int) := ⟨TX12, 58, tyX12, rfl, inlX12, by decide, in_r10 _ (List.mem_of_getElem? (i := 20) rfl), rfl, tyX12_ok, nmX12, rfl, rfl⟩
theorem nlX12_110 : n_Lf RX12 110 11 11 (.array .int) := ⟨TX12, 58, tyX12, rfl, inlX12, by decide, in_r10 _ (List.mem_of_getElem? (i := 21) rfl), rfl, tyX12_ok, nmX12, rfl, rfl⟩
theorem nlX12_113 : n_Lf RX12 113 11 12 (.array .byte) := ⟨TX12, 58, tyX12, rfl, inlX12, by decide, in_r10 _ (List.mem_of_getElem? (i := 22) rfl), rfl, tyX12_ok, nmX12, rfl, rfl⟩
theorem nlX12_116 : n_Lf RX12 116 11 13 (.array .byte) := ⟨TX12, 58, tyX12, rfl, inlX12, by decide, in_r10 _ (List.mem_of_getElem? (i := 23) rfl), rfl, tyX12_ok, nmX12, rfl, rfl⟩
theorem nlX12_119 : n_Lf RX12 119 11 15 (.array .byte) := ⟨TX12, 58, tyX12, rfl, inlX12, by decide, in_r11 _ (List.mem_of_getElem? (i := 0) rfl), rfl, tyX12_ok, nmX12, rfl, rfl⟩
theorem nlX12_122 : n_Lf RX12 122 11 16 (.array .byte) := ⟨TX12, 58, tyX12, rfl, inlX12, by decide, in_r11 _ (List.mem_of_getElem? (i := 1) rfl), rfl, tyX12_ok, nmX12, rfl, rfl⟩
theorem nlX12_125 : n_Lf RX12 125 11 17 (.array .long) := ⟨TX12, 58, tyX12, rfl, inlX12, by decide, in_r11 _ (List.mem_of_getElem? (i := 2) rfl), rfl, tyX12_ok, nmX12, rfl, rfl⟩
theorem nlX12_129 : n_Lf RX12 129 11 18 (.array .long) := ⟨TX12, 58, tyX12, rfl, inlX12, by decide, in_r11 _ (List.mem_of_getElem? (i := 3) rfl), rfl, tyX12_ok, nmX12, rfl, rfl⟩
theorem nlX12_132 : n_Lf RX12 132 11 19 (.array .long) := ⟨TX12, 58, tyX12, rfl, inlX12, by decide, in_r11 _ (List.mem_of_getElem? (i := 4) rfl), rfl, tyX12_ok, nmX12, rfl, rfl⟩
theorem nlX12_135 : n_Lf RX12 135 11 20 (.array .long) := ⟨TX12, 58, tyX12, rfl, inlX12, by decide, in_r11 _ (List.mem_of_getElem? (i := 5) rfl), rfl, tyX12_ok, nmX12, rfl, rfl⟩
theorem nlX12_138 : n_Lf RX12 138 11 21 (.array .long) := ⟨TX12, 58, tyX12, rfl, inlX12, by decide, in_r11 _ (List.mem_of_getElem? (i := 6) rfl), rfl, tyX12_ok, nmX12, rfl, rfl⟩
theorem nlX12_141 : n_Lf RX12 141 11 22 (.array .long) := ⟨TX12, 58, tyX12, rfl, inlX12, by decide, in_r11 _ (List.mem_of_getElem? (i := 7) rfl), rfl, tyX12_ok, nmX12, rfl, rfl⟩
theorem nlX12_144 : n_Lf RX12 144 11 23 (.array .long) := ⟨TX12, 58, tyX12, rfl, inlX12, by decide, in_r11 _ (List.mem_of_getElem? (i := 8) rfl), rfl, tyX12_ok, nmX12, rfl, rfl⟩
theorem nlX12_147 : n_Lf RX12 147 11 24 (.array .long) := ⟨TX12, 58, tyX12, rfl, inlX12, by decide, in_r11 _ (List.mem_of_getElem? (i := 9) rfl), rfl, tyX12_ok, nmX12, rfl, rfl⟩
theorem nlX12_150 : n_Lf RX12 150 11 25 (.array .long) := ⟨TX12, 58, tyX12, rfl, inlX12, by decide, in_r11 _ (List.mem_of_getElem? (i := 10) rfl), rfl, tyX12_ok, nmX12, rfl, rfl⟩
theorem nlX12_153 : n_Lf RX12 153 11 26 (.array .long) := ⟨TX12, 58, tyX12, rfl, inlX12, by decide, in_r11 _ (List.mem_of_getElem? (i := 11) rfl), rfl, tyX12_ok, nmX12, rfl, rfl⟩
theorem nlX12_156 : n_Lf RX12 156 11 27 (.array .long) := ⟨TX12, 58, tyX12, rfl, inlX12, by decide, in_r11 _ (List.mem_of_getElem? (i := 12) rfl), rfl, tyX12_ok, nmX12, rfl, rfl⟩
theorem nlX12_159 : n_Lf RX12 159 11 28 (.array .long) := ⟨TX12, 58, tyX12, rfl, inlX12, by decide, in_r11 _ (List.mem_of_getElem? (i := 13) rfl), rfl, tyX12_ok, nmX12, rfl, rfl⟩
theorem nlX12_162 : n_Lf RX12 162 11 29 (.array .byte) := ⟨TX12, 58, tyX12, rfl, inlX12, by decide, in_r11 _ (List.mem_of_getElem? (i := 14) rfl), rfl, tyX12_ok, nmX12, rfl, rfl⟩
theorem nlX12_165 : n_Lf RX12 165 11 30 (.array .byte) := ⟨TX12, 58, tyX12, rfl, inlX12, by decide, in_r11 _ (List.mem_of_getElem? (i := 15) rfl), rfl, tyX12_ok, nmX12, rfl, rfl⟩
theorem nlX12_168 : n_Lf RX12 168 11 31 (.array .byte) := ⟨TX12, 58, tyX12, rfl, inlX12, by decide, in_r11 _ (List.mem_of_getElem? (i := 16) rfl), rfl, tyX12_ok, nmX12, rfl, rfl⟩
theorem nlX12_171 : n_Lf RX12 171 11 32 (.array .int) := ⟨TX12, 58, tyX12, rfl, inlX12, by decide, in_r11 _ (List.mem_of_getElem? (i := 17) rfl), rfl, tyX12_ok, nmX12, rfl, rfl⟩
theorem nlX12_174 : n_Lf RX12 174 11 33 (.array .int) := ⟨TX12, 58, tyX12, rfl, inlX12, by decide, in_r11 _ (List.mem_of_getElem? (i := 18) rfl), rfl, tyX12_ok, nmX12, rfl, rfl⟩
theorem nlX12_177 : n_Lf RX12 177 11 34 (.array .byte) := ⟨TX12, 58, tyX12, rfl, inlX12, by decide, in_r11 _ (List.mem_of_getElem? (i := 19) rfl), rfl, tyX12_ok, nmX12, rfl, rfl⟩
theorem nlX12_180 : n_Lf RX12 180 11 35 (.array .int) := ⟨TX12, 58, tyX12, rfl, inlX12, by decide, in_r11 _ (List.mem_of_getElem? (i := 20) rfl), rfl, tyX12_ok, nmX12, rfl, rfl⟩
theorem nlX12_183 : n_Lf RX12 183 11 36 (.array .int) := ⟨TX12, 58, tyX12, rfl, inlX12, by decide, in_r11 _ (List.mem_of_getElem? (i := 21) rfl), rfl, tyX12_ok, nmX12, rfl, rfl⟩
theorem nlX12_186 : n_Lf RX12 186 11 37 (.array .int) := ⟨TX12, 58, tyX12, rfl, inlX12, by decide, in_r11 _ (List.mem_of_getElem? (i := 22) rfl), rfl, tyX12_ok, nmX12, rfl, rfl⟩
theorem nlX12_189 : n_Lf RX12 189 11 38 (.array .int) := ⟨TX12, 58, tyX12, rfl, inlX12, by decide, in_r11 _ (List.mem_of_getElem? (i := 23) rfl), rfl, tyX12_ok, nmX12, rfl, rfl⟩
theorem nlX12_192 : n_Lf RX12 192 11 39 (.array .int) := ⟨TX12, 58, tyX12, rfl, inlX12, by decide, in_r12 _ (List.mem_of_getElem? (i := 0) rfl), rfl, tyX12_ok, nmX12, rfl, rfl⟩
theorem nlX12_195 : n_Lf RX12 195 11 40 (.array .byte) := ⟨TX12, 58, tyX12, rfl, inlX12, by decide, in_r12 _ (List.mem_of_getElem? (i := 1) rfl), rfl, tyX12_ok, nmX12, rfl, rfl⟩
theorem nlX12_198 : n_Lf RX12 198 11 41 (.array .byte) := ⟨TX12, 58, tyX12, rfl, inlX12, by decide, in_r12 _ (List.mem_of_getElem? (i := 2) rfl), rfl, tyX12_ok, nmX12, rfl, rfl⟩
theorem nlX12_201 : n_Lf RX12 201 11 42 (.array .byte) := ⟨TX12, 58, tyX12, rfl, inlX12, by decide, in_r12 _ (List.mem_of_getElem? (i := 3) rfl), rfl, tyX12_ok, nmX12, rfl, rfl⟩
theorem nlX12_204 : n_Lf RX12 204 11 43 (.array .byte) := ⟨TX12, 58, tyX12, rfl, inlX12, by decide, in_r12 _ (List.mem_of_getElem? (i := 4) rfl), rfl, tyX12_ok, nmX12, rfl, rfl⟩
theorem nlX12_207 : n_Lf RX12 207 11 44 (.array .boolean) := ⟨TX12, 58, tyX12, rfl, inlX12, by decide, in_r12 _ (List.mem_of_getElem? (i := 6) rfl), rfl, tyX12_ok, nmX12, rfl, rfl⟩
theorem nlX12_211 : n_Lf RX12 211 11 45 (.array .boolean) := ⟨TX12, 58, tyX12, rfl, inlX12, by decide, in_r12 _ (List.mem_of_getElem? (i := 7) rfl), rfl, tyX12_ok, nmX12, rfl, rfl⟩
theorem nlX12_214 : n_Lf RX12 214 11 46 (.array .boolean) := ⟨TX12, 58, tyX12, rfl, inlX12, by decide, in_r12 _ (List.mem_of_getElem? (i := 8) rfl), rfl, tyX12_ok, nmX12, rfl, rfl⟩
theorem nlX12_217 : n_Lf RX12 217 11 47 (.array .boolean) := ⟨TX12, 58, tyX12, rfl, inlX12, by decide, in_r12 _ (List.mem_of_getElem? (i := 9) rfl), rfl, tyX12_ok, nmX12, rfl, rfl⟩
theorem nlX12_220 : n_Lf RX12 220 11 48 (.array .boolean) := ⟨TX12, 58, tyX12, rfl, inlX12, by decide, in_r12 _ (List.mem_of_getElem? (i := 10) rfl), rfl, tyX12_ok, nmX12, rfl, rfl⟩
theorem nlX12_223 : n_Lf RX12 223 11 49 (.array .int) := ⟨TX12, 58, tyX12, rfl, inlX12, by decide, in_r12 _ (List.mem_of_getElem? (i := 11) rfl), rfl, tyX12_ok, nmX12, rfl, rfl⟩
theorem nlX12_226 : n_Lf RX12 226 11 50 (.array .int) := ⟨TX12, 58, tyX12, rfl, inlX12, by decide, in_r12 _ (List.mem_of_getElem? (i := 12) rfl), rfl, tyX12_ok, nmX12, rfl, rfl⟩
theorem nlX12_229 : n_Lf RX12 229 11 51 (.array .long) := ⟨TX12, 58, tyX12, rfl, inlX12, by decide, in_r12 _ (List.mem_of_getElem? (i := 13) rfl), rfl, tyX12_ok, nmX12, rfl, rfl⟩
theorem nlX12_232 : n_Lf RX12 232 11 52 (.array .long) := ⟨TX12, 58, tyX12, rfl, inlX12, by decide, in_r12 _ (List.mem_of_getElem? (i := 14) rfl), rfl, tyX12_ok, nmX12, rfl, rfl⟩
theorem nlX12_235 : n_Lf RX12 235 11 53 (.array .long) := ⟨TX12, 58, tyX12, rfl, inlX12, by decide, in_r12 _ (List.mem_of_getElem? (i := 15) rfl), rfl, tyX12_ok, nmX12, rfl, rfl⟩
theorem nlX12_238 : n_Lf RX12 238 11 54 (.array .byte) := ⟨TX12, 58, tyX12, rfl, inlX12, by decide, in_r12 _ (List.mem_of_getElem? (i := 16) rfl), rfl, tyX12_ok, nmX12, rfl, rfl⟩
theorem nlX12_241 : n_Lf RX12 241 11 55 (.array .byte) := ⟨TX12, 58, tyX12, rfl, inlX12, by decide, in_r12 _ (List.mem_of_getElem? (i := 17) rfl), rfl, tyX12_ok, nmX12, rfl, rfl⟩
theorem nlX12_244 : n_Lf RX12 244 11 56 (.array .byte) := ⟨TX12, 58, tyX12, rfl, inlX12, by decide, in_r12 _ (List.mem_of_getElem? (i := 18) rfl), rfl, tyX12_ok, nmX12, rfl, rfl⟩
theorem nlX12_247 : n_Lf RX12 247 11 57 (.array .byte) := ⟨TX12, 58, tyX12, rfl, inlX12, by decide, in_r12 _ (List.mem_of_getElem? (i := 19) rfl), rfl, tyX12_ok, nmX12, rfl, rfl⟩
theorem n_oi1 : Cond.instanceMethod objectInit ∈ wsL_law := in_r1 _ (List.mem_of_getElem? (i := 11) rfl)
theorem n_oi2 : Cond.code objectInit ⟨#[0xb1]⟩ 1 none ∈ wsL_law := in_r1 _ (List.mem_of_getElem? (i := 12) rfl)
theorem n_ac_byte : Cond.arrayClass (newarray.typeOf .byte) ∈ wsL_law := in_r1 _ (List.mem_of_getElem? (i := 13) rfl)
theorem n_ac_int : Cond.arrayClass (newarray.typeOf .int) ∈ wsL_law := in_r3 _ (List.mem_of_getElem? (i := 18) rfl)
theorem n_ac_long : Cond.arrayClass (newarray.typeOf .long) ∈ wsL_law := in_r3 _ (List.mem_of_getElem? (i := 7) rfl)
theorem n_ac_boolean : Cond.arrayClass (newarray.typeOf .boolean) ∈ wsL_law := in_r12 _ (List.mem_of_getElem? (i := 5) rfl)
