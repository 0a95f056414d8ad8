/-! SITES: what the tables say of each class, field and call site (by program, wip/whole/gen.py). -/
theorem clJ0 : gx_cls RJ0 TJ0 4 tyJ0 := ⟨tyJ0_ok, nmJ0⟩
theorem dfJ0 : ∀ j, j < 4 → defaultValue (tyJ0 j) = vp_V [.null, .int 0, .int 0, .int 0] j := fun j hj => match j, hj with
  | 0, _ => rfl
  | 1, _ => rfl
  | 2, _ => rfl
  | 3, _ => rfl
  | k + 4, h => absurd h (by omega)
theorem inJ0 : ∀ w ∈ u_ws RJ0 TJ0 4, w ∈ lw_all := tq_u (fun k hk => match k, hk with
  | 0, _ => (tq_3 111 (by decide +kernel) rfl)
  | 1, _ => (tq_3 113 (by decide +kernel) rfl)
  | 2, _ => (tq_3 115 (by decide +kernel) rfl)
  | 3, _ => (tq_3 117 (by decide +kernel) rfl)
  | k + 4, h => absurd h (by omega))
theorem clJ4 : gx_cls RJ4 TJ4 4 tyJ4 := ⟨tyJ4_ok, nmJ4⟩
theorem dfJ4 : ∀ j, j < 4 → defaultValue (tyJ4 j) = vp_V [.null, .int 0, .int 0, .int 0] j := fun j hj => match j, hj with
  | 0, _ => rfl
  | 1, _ => rfl
  | 2, _ => rfl
  | 3, _ => rfl
  | k + 4, h => absurd h (by omega)
theorem inJ4 : ∀ w ∈ u_ws RJ4 TJ4 4, w ∈ lw_all := tq_u (fun k hk => match k, hk with
  | 0, _ => (tq_1 89 (by decide +kernel) rfl)
  | 1, _ => (tq_1 91 (by decide +kernel) rfl)
  | 2, _ => (tq_1 93 (by decide +kernel) rfl)
  | 3, _ => (tq_1 95 (by decide +kernel) rfl)
  | k + 4, h => absurd h (by omega))
theorem clJx00060 : gx_cls RJx00060 TJx00060 6 tyJx00060 := ⟨tyJx00060_ok, nmJx00060⟩
theorem dfJx00060 : ∀ j, j < 6 → defaultValue (tyJx00060 j) = vp_V [.null, .null, .null, .null, .null, .int 0] j := fun j hj => match j, hj with
  | 0, _ => rfl
  | 1, _ => rfl
  | 2, _ => rfl
  | 3, _ => rfl
  | 4, _ => rfl
  | 5, _ => rfl
  | k + 6, h => absurd h (by omega)
theorem inJx00060 : ∀ w ∈ u_ws RJx00060 TJx00060 6, w ∈ lw_all := tq_u (fun k hk => match k, hk with
  | 0, _ => (tq_3 149 (by decide +kernel) rfl)
  | 1, _ => (tq_3 150 (by decide +kernel) rfl)
  | 2, _ => (tq_3 151 (by decide +kernel) rfl)
  | 3, _ => (tq_3 152 (by decide +kernel) rfl)
  | 4, _ => (tq_3 153 (by decide +kernel) rfl)
  | 5, _ => (tq_3 164 (by decide +kernel) rfl)
  | k + 6, h => absurd h (by omega))
theorem clJx7c733 : gx_cls RJx7c733 TJx7c733 6 tyJx7c733 := ⟨tyJx7c733_ok, nmJx7c733⟩
theorem dfJx7c733 : ∀ j, j < 6 → defaultValue (tyJx7c733 j) = vp_V [.null, .null, .null, .null, .int 0, .null] j := fun j hj => match j, hj with
  | 0, _ => rfl
  | 1, _ => rfl
  | 2, _ => rfl
  | 3, _ => rfl
  | 4, _ => rfl
  | 5, _ => rfl
  | k + 6, h => absurd h (by omega)
theorem inJx7c733 : ∀ w ∈ u_ws RJx7c733 TJx7c733 6, w ∈ lw_all := tq_u (fun k hk => match k, hk with
  | 0, _ => (tq_3 124 (by decide +kernel) rfl)
  | 1, _ => (tq_3 125 (by decide +kernel) rfl)
  | 2, _ => (tq_3 126 (by decide +kernel) rfl)
  | 3, _ => (tq_3 127 (by decide +kernel) rfl)
  | 4, _ => (tq_3 128 (by decide +kernel) rfl)
  | 5, _ => (tq_3 129 (by decide +kernel) rfl)
  | k + 6, h => absurd h (by omega))
theorem clJx4a65c : gx_cls RJx4a65c TJx4a65c 3 tyJx4a65c := ⟨tyJx4a65c_ok, nmJx4a65c⟩
theorem dfJx4a65c : ∀ j, j < 3 → defaultValue (tyJx4a65c j) = vp_V [.int 0, .null, .int 0] j := fun j hj => match j, hj with
  | 0, _ => rfl
  | 1, _ => rfl
  | 2, _ => rfl
  | k + 3, h => absurd h (by omega)
theorem inJx4a65c : ∀ w ∈ u_ws RJx4a65c TJx4a65c 3, w ∈ lw_all := tq_u (fun k hk => match k, hk with
  | 0, _ => (tq_1 63 (by decide +kernel) rfl)
  | 1, _ => (tq_1 59 (by decide +kernel) rfl)
  | 2, _ => (tq_1 61 (by decide +kernel) rfl)
  | k + 3, h => absurd h (by omega))
theorem clX0 : gx_cls RX0 TX0 3 tyX0 := ⟨tyX0_ok, nmX0⟩
theorem dfX0 : ∀ j, j < 3 → defaultValue (tyX0 j) = vp_V [.int 0, .long 0, .long 0] j := fun j hj => match j, hj with
  | 0, _ => rfl
  | 1, _ => rfl
  | 2, _ => rfl
  | k + 3, h => absurd h (by omega)
theorem inX0 : ∀ w ∈ u_ws RX0 TX0 3, w ∈ lw_all := tq_u (fun k hk => match k, hk with
  | 0, _ => (tq_4 3 (by decide +kernel) rfl)
  | 1, _ => (tq_4 5 (by decide +kernel) rfl)
  | 2, _ => (tq_4 7 (by decide +kernel) rfl)
  | k + 3, h => absurd h (by omega))
theorem clX1 : gx_cls RX1 TX1 6 tyX1 := ⟨tyX1_ok, nmX1⟩
theorem dfX1 : ∀ j, j < 6 → defaultValue (tyX1 j) = vp_V [.long 0, .long 0, .long 0, .long 0, .int 0, .long 0] j := fun j hj => match j, hj with
  | 0, _ => rfl
  | 1, _ => rfl
  | 2, _ => rfl
  | 3, _ => rfl
  | 4, _ => rfl
  | 5, _ => rfl
  | k + 6, h => absurd h (by omega)
theorem inX1 : ∀ w ∈ u_ws RX1 TX1 6, w ∈ lw_all := tq_u (fun k hk => match k, hk with
  | 0, _ => (tq_1 116 (by decide +kernel) rfl)
  | 1, _ => (tq_1 118 (by decide +kernel) rfl)
  | 2, _ => (tq_1 120 (by decide +kernel) rfl)
  | 3, _ => (tq_1 122 (by decide +kernel) rfl)
  | 4, _ => (tq_1 124 (by decide +kernel) rfl)
  | 5, _ => (tq_1 126 (by decide +kernel) rfl)
  | k + 6, h => absurd h (by omega))
theorem clX2 : gx_cls RX2 TX2 2 tyX2 := ⟨tyX2_ok, nmX2⟩
theorem dfX2 : ∀ j, j < 2 → defaultValue (tyX2 j) = vp_V [.null, .null] j := fun j hj => match j, hj with
  | 0, _ => rfl
  | 1, _ => rfl
  | k + 2, h => absurd h (by omega)
theorem inX2 : ∀ w ∈ u_ws RX2 TX2 2, w ∈ lw_all := tq_u (fun k hk => match k, hk with
  | 0, _ => (tq_4 71 (by decide +kernel) rfl)
  | 1, _ => (tq_4 73 (by decide +kernel) rfl)
  | k + 2, h => absurd h (by omega))
theorem clX3 : gx_cls RX3 TX3 2 tyX3 := ⟨tyX3_ok, nmX3⟩
theorem dfX3 : ∀ j, j < 2 → defaultValue (tyX3 j) = vp_V [.null, .int 0] j := fun j hj => match j, hj with
  | 0, _ => rfl
  | 1, _ => rfl
  | k + 2, h => absurd h (by omega)
theorem inX3 : ∀ w ∈ u_ws RX3 TX3 2, w ∈ lw_all := tq_u (fun k hk => match k, hk with
  | 0, _ => (tq_2 96 (by decide +kernel) rfl)
  | 1, _ => (tq_2 98 (by decide +kernel) rfl)
  | k + 2, h => absurd h (by omega))
theorem clX4 : gx_cls RX4 TX4 4 tyX4 := ⟨tyX4_ok, nmX4⟩
theorem dfX4 : ∀ j, j < 4 → defaultValue (tyX4 j) = vp_V [.null, .null, .int 0, .int 0] j := fun j hj => match j, hj with
  | 0, _ => rfl
  | 1, _ => rfl
  | 2, _ => rfl
  | 3, _ => rfl
  | k + 4, h => absurd h (by omega)
theorem inX4 : ∀ w ∈ u_ws RX4 TX4 4, w ∈ lw_all := tq_u (fun k hk => match k, hk with
  | 0, _ => (tq_2 38 (by decide +kernel) rfl)
  | 1, _ => (tq_2 40 (by decide +kernel) rfl)
  | 2, _ => (tq_2 42 (by decide +kernel) rfl)
  | 3, _ => (tq_2 44 (by decide +kernel) rfl)
  | k + 4, h => absurd h (by omega))
theorem clX5 : gx_cls RX5 TX5 8 tyX5 := ⟨tyX5_ok, nmX5⟩
theorem dfX5 : ∀ j, j < 8 → defaultValue (tyX5 j) = vp_V [.null, .null, .null, .null, .null, .null, .null, .int 0] j := fun j hj => match j, hj with
  | 0, _ => rfl
  | 1, _ => rfl
  | 2, _ => rfl
  | 3, _ => rfl
  | 4, _ => rfl
  | 5, _ => rfl
  | 6, _ => rfl
  | 7, _ => rfl
  | k + 8, h => absurd h (by omega)
theorem inX5 : ∀ w ∈ u_ws RX5 TX5 8, w ∈ lw_all := tq_u (fun k hk => match k, hk with
  | 0, _ => (tq_1 137 (by decide +kernel) rfl)
  | 1, _ => (tq_1 139 (by decide +kernel) rfl)
  | 2, _ => (tq_1 141 (by decide +kernel) rfl)
  | 3, _ => (tq_1 143 (by decide +kernel) rfl)
  | 4, _ => (tq_1 145 (by decide +kernel) rfl)
  | 5, _ => (tq_1 147 (by decide +kernel) rfl)
  | 6, _ => (tq_1 149 (by decide +kernel) rfl)
  | 7, _ => (tq_1 151 (by decide +kernel) rfl)
  | k + 8, h => absurd h (by omega))
theorem clX6 : gx_cls RX6 TX6 24 tyX6 := ⟨tyX6_ok, nmX6⟩
theorem dfX6 : ∀ j, j < 24 → defaultValue (tyX6 j) = vp_V [.int 0, .int 0, .null, .null, .null, .null, .null, .int 0, .null, .null, .int 0, .null, .long 0, .long 0, .long 0, .int 0, .null, .null, .int 0, .int 0, .int 0, .int 0, .null, .null] j := fun j hj => match j, hj with
  | 0, _ => rfl
  | 1, _ => rfl
  | 2, _ => rfl
  | 3, _ => rfl
  | 4, _ => rfl
  | 5, _ => rfl
  | 6, _ => rfl
  | 7, _ => rfl
  | 8, _ => rfl
  | 9, _ => rfl
  | 10, _ => rfl
  | 11, _ => rfl
  | 12, _ => rfl
  | 13, _ => rfl
  | 14, _ => rfl
  | 15, _ => rfl
  | 16, _ => rfl
  | 17, _ => rfl
  | 18, _ => rfl
  | 19, _ => rfl
  | 20, _ => rfl
  | 21, _ => rfl
  | 22, _ => rfl
  | 23, _ => rfl
  | k + 24, h => absurd h (by omega)
theorem inX6 : ∀ w ∈ u_ws RX6 TX6 24, w ∈ lw_all := tq_u (fun k hk => match k, hk with
  | 0, _ => (tq_5 33 (by decide +kernel) rfl)
  | 1, _ => (tq_5 35 (by decide +kernel) rfl)
  | 2, _ => (tq_5 37 (by decide +kernel) rfl)
  | 3, _ => (tq_5 39 (by decide +kernel) rfl)
  | 4, _ => (tq_5 41 (by decide +kernel) rfl)
  | 5, _ => (tq_5 43 (by decide +kernel) rfl)
  | 6, _ => (tq_5 45 (by decide +kernel) rfl)
  | 7, _ => (tq_5 47 (by decide +kernel) rfl)
  | 8, _ => (tq_5 49 (by decide +kernel) rfl)
  | 9, _ => (tq_5 51 (by decide +kernel) rfl)
  | 10, _ => (tq_5 53 (by decide +kernel) rfl)
  | 11, _ => (tq_5 55 (by decide +kernel) rfl)
  | 12, _ => (tq_5 57 (by decide +kernel) rfl)
  | 13, _ => (tq_5 59 (by decide +kernel) rfl)
  | 14, _ => (tq_5 61 (by decide +kernel) rfl)
  | 15, _ => (tq_5 63 (by decide +kernel) rfl)
  | 16, _ => (tq_5 65 (by decide +kernel) rfl)
  | 17, _ => (tq_5 67 (by decide +kernel) rfl)
  | 18, _ => (tq_5 69 (by decide +kernel) rfl)
  | 19, _ => (tq_5 71 (by decide +kernel) rfl)
  | 20, _ => (tq_5 73 (by decide +kernel) rfl)
  | 21, _ => (tq_5 75 (by decide +kernel) rfl)
  | 22, _ => (tq_5 77 (by decide +kernel) rfl)
  | 23, _ => (tq_5 79 (by decide +kernel) rfl)
  | k + 24, h => absurd h (by omega))
theorem fX0_7 : gx_fld RX0 7 5 0 RX0 TX0 3 "StandTests$Foot" := ⟨inX0, rfl, by decide, (tq_3 237 (by decide +kernel) rfl), Or.inl rfl⟩
theorem fX0_13 : gx_fld RX0 13 5 1 RX0 TX0 3 "StandTests$Foot" := ⟨inX0, rfl, by decide, (tq_3 239 (by decide +kernel) rfl), Or.inl rfl⟩
theorem fX0_17 : gx_fld RX0 17 5 2 RX0 TX0 3 "StandTests$Foot" := ⟨inX0, rfl, by decide, (tq_4 1 (by decide +kernel) rfl), Or.inl rfl⟩
theorem sX0_20 : gx_sV RX0 20 yX0_isAt cX0_isAt 2 (some .boolean) 1 := ⟨⟨(tq_4 50 (by decide +kernel) rfl), (tq_4 52 (by decide +kernel) rfl), (tq_s 16 3 (by decide +kernel)), (tq_1 20 (by decide +kernel) rfl), (tq_4 53 (by decide +kernel) rfl)⟩, ⟨by decide +kernel, by decide +kernel, by decide +kernel⟩⟩
theorem sX0_24 : gx_sV RX0 24 yX0_turn cX0_turn 3 (some .long) 2 := ⟨⟨(tq_4 54 (by decide +kernel) rfl), (tq_4 56 (by decide +kernel) rfl), (tq_s 17 3 (by decide +kernel)), (tq_1 20 (by decide +kernel) rfl), (tq_4 57 (by decide +kernel) rfl)⟩, ⟨by decide +kernel, by decide +kernel, by decide +kernel⟩⟩
theorem sX0_28 : gx_sV RX0 28 yX0_squareTo cX0_squareTo 2 (some .long) 1 := ⟨⟨(tq_4 58 (by decide +kernel) rfl), (tq_4 60 (by decide +kernel) rfl), (tq_s 18 3 (by decide +kernel)), (tq_1 20 (by decide +kernel) rfl), (tq_4 61 (by decide +kernel) rfl)⟩, ⟨by decide +kernel, by decide +kernel, by decide +kernel⟩⟩
theorem fX1_9 : gx_fld RX1 9 6 0 RX1 TX1 6 "StandTests$Load" := ⟨inX1, rfl, by decide, (tq_1 105 (by decide +kernel) rfl), Or.inl rfl⟩
theorem fX1_15 : gx_fld RX1 15 6 1 RX1 TX1 6 "StandTests$Load" := ⟨inX1, rfl, by decide, (tq_1 107 (by decide +kernel) rfl), Or.inl rfl⟩
theorem fX1_18 : gx_fld RX1 18 6 2 RX1 TX1 6 "StandTests$Load" := ⟨inX1, rfl, by decide, (tq_1 109 (by decide +kernel) rfl), Or.inl rfl⟩
theorem fX1_21 : gx_fld RX1 21 6 3 RX1 TX1 6 "StandTests$Load" := ⟨inX1, rfl, by decide, (tq_1 110 (by decide +kernel) rfl), Or.inl rfl⟩
theorem fX1_24 : gx_fld RX1 24 6 4 RX1 TX1 6 "StandTests$Load" := ⟨inX1, rfl, by decide, (tq_1 112 (by decide +kernel) rfl), Or.inl rfl⟩
theorem fX1_28 : gx_fld RX1 28 6 5 RX1 TX1 6 "StandTests$Load" := ⟨inX1, rfl, by decide, (tq_1 114 (by decide +kernel) rfl), Or.inl rfl⟩
theorem sX1_31n : gx_sVN RX1 31 yX2_turnTo "StandTests" cX2_turnTo 5 (some .long) 2 := ⟨⟨List.mem_of_getElem? (i := 10) (by decide +kernel), (tq_4 164 (by decide +kernel) rfl), (tq_s 24 2 (by decide +kernel)), (tq_1 23 (by decide +kernel) rfl), (tq_4 165 (by decide +kernel) rfl)⟩, ⟨by decide +kernel, by decide +kernel, by decide +kernel⟩⟩
theorem fX2_7 : gx_fld RX2 7 7 0 RX2 TX2 2 "StandTests$Side" := ⟨inX2, rfl, by decide, (tq_4 68 (by decide +kernel) rfl), Or.inl rfl⟩
theorem fX2_13 : gx_fld RX2 13 7 1 RX2 TX2 2 "StandTests$Side" := ⟨inX2, rfl, by decide, (tq_4 70 (by decide +kernel) rfl), Or.inl rfl⟩
theorem fX2_16n : gx_fldN RX2 16 5 1 RX0 TX0 3 "StandTests$Foot" "StandTests" := ⟨inX0, rfl, by decide, List.mem_of_getElem? (i := 11) (by decide +kernel), rfl⟩
theorem fX2_22n : gx_fldN RX2 22 5 2 RX0 TX0 3 "StandTests$Foot" "StandTests" := ⟨inX0, rfl, by decide, List.mem_of_getElem? (i := 12) (by decide +kernel), rfl⟩
theorem fX3_7 : gx_fld RX3 7 8 0 RX3 TX3 2 "StandTests$Trial" := ⟨inX3, rfl, by decide, (tq_2 92 (by decide +kernel) rfl), Or.inl rfl⟩
theorem fX3_13 : gx_fld RX3 13 8 1 RX3 TX3 2 "StandTests$Trial" := ⟨inX3, rfl, by decide, (tq_2 94 (by decide +kernel) rfl), Or.inl rfl⟩
theorem fX4_9 : gx_fld RX4 9 9 0 RX4 TX4 4 "StandTests$TrialReader" := ⟨inX4, rfl, by decide, (tq_2 32 (by decide +kernel) rfl), Or.inl rfl⟩
theorem sX4_17 : gx_sI RX4 17 yJx4a65c_init_da8c8 cJx4a65c_init_da8c8 1 0 := ⟨⟨(tq_2 31 (by decide +kernel) rfl), (tq_1 43 (by decide +kernel) rfl), (tq_1 4 (by decide +kernel) rfl), (tq_1 44 (by decide +kernel) rfl)⟩, rfl, ⟨by decide +kernel, by decide +kernel, by decide +kernel⟩⟩
theorem fX4_18 : gx_fld RX4 18 9 1 RX4 TX4 4 "StandTests$TrialReader" := ⟨inX4, rfl, by decide, (tq_2 33 (by decide +kernel) rfl), Or.inl rfl⟩
theorem fX4_22 : gx_fld RX4 22 9 2 RX4 TX4 4 "StandTests$TrialReader" := ⟨inX4, rfl, by decide, (tq_2 35 (by decide +kernel) rfl), Or.inl rfl⟩
theorem fX4_26 : gx_fld RX4 26 9 3 RX4 TX4 4 "StandTests$TrialReader" := ⟨inX4, rfl, by decide, (tq_2 37 (by decide +kernel) rfl), Or.inl rfl⟩
theorem sX4_29 : gx_sV RX4 29 yX4_skip cX4_skip 2 (some .boolean) 1 := ⟨⟨(tq_2 51 (by decide +kernel) rfl), (tq_2 53 (by decide +kernel) rfl), (tq_s 1 4 (by decide +kernel)), (tq_1 26 (by decide +kernel) rfl), (tq_2 54 (by decide +kernel) rfl)⟩, ⟨by decide +kernel, by decide +kernel, by decide +kernel⟩⟩
theorem sX4_33 : gx_sV RX4 33 yX4_readTrial cX4_readTrial 4 (some .boolean) 0 := ⟨⟨(tq_2 68 (by decide +kernel) rfl), (tq_2 70 (by decide +kernel) rfl), (tq_s 2 4 (by decide +kernel)), (tq_1 26 (by decide +kernel) rfl), (tq_2 71 (by decide +kernel) rfl)⟩, ⟨by decide +kernel, by decide +kernel, by decide +kernel⟩⟩
theorem sX4_37 : gx_sV RX4 37 yJ4_length_8abf5 cJ4_length_8abf5 1 (some .int) 0 := ⟨⟨(tq_2 55 (by decide +kernel) rfl), (tq_1 159 (by decide +kernel) rfl), (tq_1 160 (by decide +kernel) rfl), (tq_1 6 (by decide +kernel) rfl), (tq_1 161 (by decide +kernel) rfl)⟩, ⟨by decide +kernel, by decide +kernel, by decide +kernel⟩⟩
theorem sX4_43 : gx_sV RX4 43 yX4_readSigned cX4_readSigned 3 (some .boolean) 0 := ⟨⟨(tq_2 72 (by decide +kernel) rfl), (tq_2 74 (by decide +kernel) rfl), (tq_s 3 4 (by decide +kernel)), (tq_1 26 (by decide +kernel) rfl), (tq_2 75 (by decide +kernel) rfl)⟩, ⟨by decide +kernel, by decide +kernel, by decide +kernel⟩⟩
theorem sX4_46 : gx_sV RX4 46 yX4_readDigits cX4_readDigits 3 (some .boolean) 0 := ⟨⟨(tq_2 76 (by decide +kernel) rfl), (tq_2 78 (by decide +kernel) rfl), (tq_s 4 4 (by decide +kernel)), (tq_1 26 (by decide +kernel) rfl), (tq_2 79 (by decide +kernel) rfl)⟩, ⟨by decide +kernel, by decide +kernel, by decide +kernel⟩⟩
theorem sX4_53n : gx_sIN RX4 53 yX1_init "StandTests" cX1_init 9 4 := ⟨⟨List.mem_of_getElem? (i := 11) (by decide +kernel), (tq_1 102 (by decide +kernel) rfl), (tq_1 9 (by decide +kernel) rfl), (tq_1 103 (by decide +kernel) rfl)⟩, rfl, ⟨by decide +kernel, by decide +kernel, by decide +kernel⟩⟩
theorem sX4_56n : gx_sIN RX4 56 yX3_init "StandTests" cX3_init 3 2 := ⟨⟨List.mem_of_getElem? (i := 12) (by decide +kernel), (tq_2 89 (by decide +kernel) rfl), (tq_1 27 (by decide +kernel) rfl), (tq_2 90 (by decide +kernel) rfl)⟩, rfl, ⟨by decide +kernel, by decide +kernel, by decide +kernel⟩⟩
theorem sX4_59 : gx_sV RX4 59 yJx4a65c_add_9ea2d cJx4a65c_add_9ea2d 2 (some .boolean) 1 := ⟨⟨(tq_2 101 (by decide +kernel) rfl), (tq_2 102 (by decide +kernel) rfl), (tq_2 103 (by decide +kernel) rfl), (tq_1 4 (by decide +kernel) rfl), (tq_2 104 (by decide +kernel) rfl)⟩, ⟨by decide +kernel, by decide +kernel, by decide +kernel⟩⟩
theorem sX4_63 : gx_sV RX4 63 yX4_digitHere cX4_digitHere 2 (some .int) 0 := ⟨⟨(tq_2 80 (by decide +kernel) rfl), (tq_2 82 (by decide +kernel) rfl), (tq_s 5 4 (by decide +kernel)), (tq_1 26 (by decide +kernel) rfl), (tq_2 83 (by decide +kernel) rfl)⟩, ⟨by decide +kernel, by decide +kernel, by decide +kernel⟩⟩
theorem sX4_66 : gx_sV RX4 66 yJ4_charAt_5068e cJ4_charAt_5068e 2 (some .char) 1 := ⟨⟨(tq_2 56 (by decide +kernel) rfl), (tq_2 57 (by decide +kernel) rfl), (tq_2 58 (by decide +kernel) rfl), (tq_1 6 (by decide +kernel) rfl), (tq_2 59 (by decide +kernel) rfl)⟩, ⟨by decide +kernel, by decide +kernel, by decide +kernel⟩⟩
theorem sX5_9 : gx_sI RX5 9 yJx4a65c_init_da8c8 cJx4a65c_init_da8c8 1 0 := ⟨⟨(tq_1 42 (by decide +kernel) rfl), (tq_1 43 (by decide +kernel) rfl), (tq_1 4 (by decide +kernel) rfl), (tq_1 44 (by decide +kernel) rfl)⟩, rfl, ⟨by decide +kernel, by decide +kernel, by decide +kernel⟩⟩
theorem fX5_10 : gx_fld RX5 10 10 0 RX5 TX5 8 "StandTests" := ⟨inX5, rfl, by decide, (tq_1 129 (by decide +kernel) rfl), Or.inl rfl⟩
theorem fX5_16 : gx_fld RX5 16 10 1 RX5 TX5 8 "StandTests" := ⟨inX5, rfl, by decide, (tq_1 130 (by decide +kernel) rfl), Or.inl rfl⟩
theorem fX5_19 : gx_fld RX5 19 10 2 RX5 TX5 8 "StandTests" := ⟨inX5, rfl, by decide, (tq_1 131 (by decide +kernel) rfl), Or.inl rfl⟩
theorem sX5_24 : gx_sI RX5 24 yJ4_init_da8c8 cJ4_init_da8c8 1 0 := ⟨⟨(tq_1 68 (by decide +kernel) rfl), (tq_1 69 (by decide +kernel) rfl), (tq_1 6 (by decide +kernel) rfl), (tq_1 70 (by decide +kernel) rfl)⟩, rfl, ⟨by decide +kernel, by decide +kernel, by decide +kernel⟩⟩
theorem fX5_25 : gx_fld RX5 25 10 3 RX5 TX5 8 "StandTests" := ⟨inX5, rfl, by decide, (tq_1 132 (by decide +kernel) rfl), Or.inl rfl⟩
theorem sX5_31n : gx_sIN RX5 31 yX1_init "StandTests" cX1_init 9 4 := ⟨⟨List.mem_of_getElem? (i := 8) (by decide +kernel), (tq_1 102 (by decide +kernel) rfl), (tq_1 9 (by decide +kernel) rfl), (tq_1 103 (by decide +kernel) rfl)⟩, rfl, ⟨by decide +kernel, by decide +kernel, by decide +kernel⟩⟩
theorem fX5_34 : gx_fld RX5 34 10 4 RX5 TX5 8 "StandTests" := ⟨inX5, rfl, by decide, (tq_1 133 (by decide +kernel) rfl), Or.inl rfl⟩
theorem fX5_38 : gx_fld RX5 38 10 5 RX5 TX5 8 "StandTests" := ⟨inX5, rfl, by decide, (tq_1 134 (by decide +kernel) rfl), Or.inl rfl⟩
theorem fX5_41 : gx_fld RX5 41 10 6 RX5 TX5 8 "StandTests" := ⟨inX5, rfl, by decide, (tq_1 135 (by decide +kernel) rfl), Or.inl rfl⟩
theorem fX5_44 : gx_fld RX5 44 10 7 RX5 TX5 8 "StandTests" := ⟨inX5, rfl, by decide, (tq_1 136 (by decide +kernel) rfl), Or.inl rfl⟩
theorem sX5_48 : gx_sV RX5 48 yJx4a65c_size_8abf5 cJx4a65c_size_8abf5 1 (some .int) 0 := ⟨⟨(tq_3 170 (by decide +kernel) rfl), (tq_3 171 (by decide +kernel) rfl), (tq_3 172 (by decide +kernel) rfl), (tq_1 4 (by decide +kernel) rfl), (tq_3 173 (by decide +kernel) rfl)⟩, ⟨by decide +kernel, by decide +kernel, by decide +kernel⟩⟩
theorem sX5_59 : gx_sS RX5 59 yX5_needPlace cX5_needPlace 2 none 1 := ⟨⟨(tq_3 207 (by decide +kernel) rfl), (tq_3 208 (by decide +kernel) rfl), (tq_1 1 (by decide +kernel) rfl), (tq_3 209 (by decide +kernel) rfl)⟩, ⟨by decide +kernel, by decide +kernel, by decide +kernel⟩⟩
theorem sX5_63 : gx_sS RX5 63 yX5_needGrams cX5_needGrams 2 none 1 := ⟨⟨(tq_3 218 (by decide +kernel) rfl), (tq_3 219 (by decide +kernel) rfl), (tq_1 1 (by decide +kernel) rfl), (tq_3 220 (by decide +kernel) rfl)⟩, ⟨by decide +kernel, by decide +kernel, by decide +kernel⟩⟩
theorem sX5_66 : gx_sV RX5 66 yJx4a65c_add_9ea2d cJx4a65c_add_9ea2d 2 (some .boolean) 1 := ⟨⟨(tq_3 223 (by decide +kernel) rfl), (tq_2 102 (by decide +kernel) rfl), (tq_2 103 (by decide +kernel) rfl), (tq_1 4 (by decide +kernel) rfl), (tq_2 104 (by decide +kernel) rfl)⟩, ⟨by decide +kernel, by decide +kernel, by decide +kernel⟩⟩
theorem sX5_72n : gx_sIN RX5 72 yX0_init "StandTests" cX0_init 6 3 := ⟨⟨List.mem_of_getElem? (i := 9) (by decide +kernel), (tq_3 234 (by decide +kernel) rfl), (tq_1 20 (by decide +kernel) rfl), (tq_3 235 (by decide +kernel) rfl)⟩, rfl, ⟨by decide +kernel, by decide +kernel, by decide +kernel⟩⟩
theorem sX5_75 : gx_sV RX5 75 yX5_layOutSides cX5_layOutSides 6 none 1 := ⟨⟨(tq_4 10 (by decide +kernel) rfl), (tq_4 12 (by decide +kernel) rfl), (tq_s 10 8 (by decide +kernel)), (tq_1 1 (by decide +kernel) rfl), (tq_4 13 (by decide +kernel) rfl)⟩, ⟨by decide +kernel, by decide +kernel, by decide +kernel⟩⟩
theorem sX5_86 : gx_sS RX5 86 yX5_isWithin cX5_isWithin 6 (some .boolean) 3 := ⟨⟨(tq_3 212 (by decide +kernel) rfl), (tq_3 213 (by decide +kernel) rfl), (tq_1 1 (by decide +kernel) rfl), (tq_3 214 (by decide +kernel) rfl)⟩, ⟨by decide +kernel, by decide +kernel, by decide +kernel⟩⟩
theorem sX5_95 : gx_sV RX5 95 yJx4a65c_get_915e3 cJx4a65c_get_915e3 2 (some (.object "java/lang/Object")) 1 := ⟨⟨(tq_4 22 (by decide +kernel) rfl), (tq_4 23 (by decide +kernel) rfl), (tq_4 24 (by decide +kernel) rfl), (tq_1 4 (by decide +kernel) rfl), (tq_4 25 (by decide +kernel) rfl)⟩, ⟨by decide +kernel, by decide +kernel, by decide +kernel⟩⟩
theorem fX5_99n : gx_fldN RX5 99 6 4 RX1 TX1 6 "StandTests$Load" "StandTests" := ⟨inX1, rfl, by decide, List.mem_of_getElem? (i := 10) (by decide +kernel), rfl⟩
theorem fX5_102n : gx_fldN RX5 102 6 5 RX1 TX1 6 "StandTests$Load" "StandTests" := ⟨inX1, rfl, by decide, List.mem_of_getElem? (i := 0) (by decide +kernel), rfl⟩
theorem fX5_106n : gx_fldN RX5 106 6 0 RX1 TX1 6 "StandTests$Load" "StandTests" := ⟨inX1, rfl, by decide, List.mem_of_getElem? (i := 1) (by decide +kernel), rfl⟩
theorem fX5_109n : gx_fldN RX5 109 6 1 RX1 TX1 6 "StandTests$Load" "StandTests" := ⟨inX1, rfl, by decide, List.mem_of_getElem? (i := 2) (by decide +kernel), rfl⟩
theorem fX5_112n : gx_fldN RX5 112 6 3 RX1 TX1 6 "StandTests$Load" "StandTests" := ⟨inX1, rfl, by decide, List.mem_of_getElem? (i := 3) (by decide +kernel), rfl⟩
theorem sX5_119n : gx_sVN RX5 119 yX1_placeOn "StandTests" cX1_placeOn 2 (some .long) 1 := ⟨⟨List.mem_of_getElem? (i := 0) (by decide +kernel), (tq_4 116 (by decide +kernel) rfl), (tq_s 19 6 (by decide +kernel)), (tq_1 9 (by decide +kernel) rfl), (tq_4 117 (by decide +kernel) rfl)⟩, ⟨by decide +kernel, by decide +kernel, by decide +kernel⟩⟩
theorem sX5_125 : gx_sS RX5 125 yJ9_abs_067f4 cJ9_abs_067f4 2 (some .long) 1 := ⟨⟨(tq_4 119 (by decide +kernel) rfl), (tq_4 120 (by decide +kernel) rfl), (tq_1 17 (by decide +kernel) rfl), (tq_4 121 (by decide +kernel) rfl)⟩, ⟨by decide +kernel, by decide +kernel, by decide +kernel⟩⟩
theorem sX5_131 : gx_sS RX5 131 yX5_commonDivisor cX5_commonDivisor 11 (some .long) 2 := ⟨⟨(tq_4 122 (by decide +kernel) rfl), (tq_4 123 (by decide +kernel) rfl), (tq_1 1 (by decide +kernel) rfl), (tq_4 124 (by decide +kernel) rfl)⟩, ⟨by decide +kernel, by decide +kernel, by decide +kernel⟩⟩
theorem sX5_135 : gx_sV RX5 135 yX5_needPolygon cX5_needPolygon 1 none 0 := ⟨⟨(tq_4 132 (by decide +kernel) rfl), (tq_4 134 (by decide +kernel) rfl), (tq_s 20 8 (by decide +kernel)), (tq_1 1 (by decide +kernel) rfl), (tq_4 135 (by decide +kernel) rfl)⟩, ⟨by decide +kernel, by decide +kernel, by decide +kernel⟩⟩
theorem fX5_142n : gx_fldN RX5 142 7 0 RX2 TX2 2 "StandTests$Side" "StandTests" := ⟨inX2, rfl, by decide, List.mem_of_getElem? (i := 4) (by decide +kernel), rfl⟩
theorem fX5_146n : gx_fldN RX5 146 5 0 RX0 TX0 3 "StandTests$Foot" "StandTests" := ⟨inX0, rfl, by decide, List.mem_of_getElem? (i := 5) (by decide +kernel), rfl⟩
theorem sX5_151 : gx_sV RX5 151 yX5_verdict cX5_verdict 4 (some .int) 2 := ⟨⟨(tq_4 150 (by decide +kernel) rfl), (tq_4 152 (by decide +kernel) rfl), (tq_s 21 8 (by decide +kernel)), (tq_1 1 (by decide +kernel) rfl), (tq_4 153 (by decide +kernel) rfl)⟩, ⟨by decide +kernel, by decide +kernel, by decide +kernel⟩⟩
theorem sX5_157 : gx_sV RX5 157 yX5_momentOver cX5_momentOver 7 (some .long) 3 := ⟨⟨(tq_4 154 (by decide +kernel) rfl), (tq_4 156 (by decide +kernel) rfl), (tq_s 22 8 (by decide +kernel)), (tq_1 1 (by decide +kernel) rfl), (tq_4 157 (by decide +kernel) rfl)⟩, ⟨by decide +kernel, by decide +kernel, by decide +kernel⟩⟩
theorem sX5_161 : gx_sV RX5 161 yJ4_length_8abf5 cJ4_length_8abf5 1 (some .int) 0 := ⟨⟨(tq_1 158 (by decide +kernel) rfl), (tq_1 159 (by decide +kernel) rfl), (tq_1 160 (by decide +kernel) rfl), (tq_1 6 (by decide +kernel) rfl), (tq_1 161 (by decide +kernel) rfl)⟩, ⟨by decide +kernel, by decide +kernel, by decide +kernel⟩⟩
theorem sX5_164 : gx_sV RX5 164 yJ4_append_cf468 cJ4_append_cf468 2 (some (.object "java/lang/StringBuilder")) 1 := ⟨⟨(tq_1 165 (by decide +kernel) rfl), (tq_1 166 (by decide +kernel) rfl), (tq_1 167 (by decide +kernel) rfl), (tq_1 6 (by decide +kernel) rfl), (tq_1 168 (by decide +kernel) rfl)⟩, ⟨by decide +kernel, by decide +kernel, by decide +kernel⟩⟩
theorem sX5_170n : gx_sIN RX5 170 yX4_init "StandTests" cX4_init 2 1 := ⟨⟨List.mem_of_getElem? (i := 1) (by decide +kernel), (tq_2 27 (by decide +kernel) rfl), (tq_1 26 (by decide +kernel) rfl), (tq_2 28 (by decide +kernel) rfl)⟩, rfl, ⟨by decide +kernel, by decide +kernel, by decide +kernel⟩⟩
theorem sX5_173n : gx_sVN RX5 173 yX4_readTrials "StandTests" cX4_readTrials 2 (some .boolean) 0 := ⟨⟨List.mem_of_getElem? (i := 2) (by decide +kernel), (tq_2 49 (by decide +kernel) rfl), (tq_s 0 4 (by decide +kernel)), (tq_1 26 (by decide +kernel) rfl), (tq_2 50 (by decide +kernel) rfl)⟩, ⟨by decide +kernel, by decide +kernel, by decide +kernel⟩⟩
theorem sX5_177 : gx_sV RX5 177 yJ4_setLength_d00df cJ4_setLength_d00df 2 none 1 := ⟨⟨(tq_2 148 (by decide +kernel) rfl), (tq_2 149 (by decide +kernel) rfl), (tq_2 150 (by decide +kernel) rfl), (tq_1 6 (by decide +kernel) rfl), (tq_2 151 (by decide +kernel) rfl)⟩, ⟨by decide +kernel, by decide +kernel, by decide +kernel⟩⟩
theorem fX5_181n : gx_fldN RX5 181 9 2 RX4 TX4 4 "StandTests$TrialReader" "StandTests" := ⟨inX4, rfl, by decide, List.mem_of_getElem? (i := 6) (by decide +kernel), rfl⟩
theorem fX5_184n : gx_fldN RX5 184 9 1 RX4 TX4 4 "StandTests$TrialReader" "StandTests" := ⟨inX4, rfl, by decide, List.mem_of_getElem? (i := 7) (by decide +kernel), rfl⟩
theorem fX5_191n : gx_fldN RX5 191 8 0 RX3 TX3 2 "StandTests$Trial" "StandTests" := ⟨inX3, rfl, by decide, List.mem_of_getElem? (i := 8) (by decide +kernel), rfl⟩
theorem sX5_194 : gx_sV RX5 194 yX5_openDrawers cX5_openDrawers 2 (some .int) 1 := ⟨⟨(tq_4 191 (by decide +kernel) rfl), (tq_4 193 (by decide +kernel) rfl), (tq_s 25 8 (by decide +kernel)), (tq_1 1 (by decide +kernel) rfl), (tq_4 194 (by decide +kernel) rfl)⟩, ⟨by decide +kernel, by decide +kernel, by decide +kernel⟩⟩
theorem sX5_200n : gx_sVN RX5 200 yX0_turn "StandTests" cX0_turn 3 (some .long) 2 := ⟨⟨List.mem_of_getElem? (i := 3) (by decide +kernel), (tq_4 56 (by decide +kernel) rfl), (tq_s 17 3 (by decide +kernel)), (tq_1 20 (by decide +kernel) rfl), (tq_4 57 (by decide +kernel) rfl)⟩, ⟨by decide +kernel, by decide +kernel, by decide +kernel⟩⟩
theorem sX5_206 : gx_sS RX5 206 yX5_needHeight cX5_needHeight 2 none 1 := ⟨⟨(tq_4 212 (by decide +kernel) rfl), (tq_4 213 (by decide +kernel) rfl), (tq_1 1 (by decide +kernel) rfl), (tq_4 214 (by decide +kernel) rfl)⟩, ⟨by decide +kernel, by decide +kernel, by decide +kernel⟩⟩
theorem sX5_211 : gx_sS RX5 211 yX5_isSize cX5_isSize 6 (some .boolean) 3 := ⟨⟨(tq_4 226 (by decide +kernel) rfl), (tq_4 227 (by decide +kernel) rfl), (tq_1 1 (by decide +kernel) rfl), (tq_4 228 (by decide +kernel) rfl)⟩, ⟨by decide +kernel, by decide +kernel, by decide +kernel⟩⟩
theorem sX5_251 : gx_sV RX5 251 yJx4a65c_isEmpty_aae02 cJx4a65c_isEmpty_aae02 1 (some .boolean) 0 := ⟨⟨(tq_4 136 (by decide +kernel) rfl), (tq_4 137 (by decide +kernel) rfl), (tq_4 138 (by decide +kernel) rfl), (tq_1 4 (by decide +kernel) rfl), (tq_4 139 (by decide +kernel) rfl)⟩, ⟨by decide +kernel, by decide +kernel, by decide +kernel⟩⟩
theorem fX5_256n : gx_fldN RX5 256 8 1 RX3 TX3 2 "StandTests$Trial" "StandTests" := ⟨inX3, rfl, by decide, List.mem_of_getElem? (i := 9) (by decide +kernel), rfl⟩
theorem sX5_259n : gx_sVN RX5 259 yX1_momentAbout "StandTests" cX1_momentAbout 4 (some .long) 2 := ⟨⟨List.mem_of_getElem? (i := 4) (by decide +kernel), (tq_4 160 (by decide +kernel) rfl), (tq_s 23 6 (by decide +kernel)), (tq_1 9 (by decide +kernel) rfl), (tq_4 161 (by decide +kernel) rfl)⟩, ⟨by decide +kernel, by decide +kernel, by decide +kernel⟩⟩
theorem sX5_263 : gx_sV RX5 263 yJx4a65c_clear_da8c8 cJx4a65c_clear_da8c8 4 none 0 := ⟨⟨(tq_4 14 (by decide +kernel) rfl), (tq_4 15 (by decide +kernel) rfl), (tq_4 16 (by decide +kernel) rfl), (tq_1 4 (by decide +kernel) rfl), (tq_4 17 (by decide +kernel) rfl)⟩, ⟨by decide +kernel, by decide +kernel, by decide +kernel⟩⟩
theorem sX5_266 : gx_sV RX5 266 yX5_firstCorner cX5_firstCorner 5 (some (.object "StandTests$Foot")) 1 := ⟨⟨(tq_4 18 (by decide +kernel) rfl), (tq_4 20 (by decide +kernel) rfl), (tq_s 11 8 (by decide +kernel)), (tq_1 1 (by decide +kernel) rfl), (tq_4 21 (by decide +kernel) rfl)⟩, ⟨by decide +kernel, by decide +kernel, by decide +kernel⟩⟩
theorem sX5_270 : gx_sV RX5 270 yX5_cornersAgainstClock cX5_cornersAgainstClock 5 (some (.object "java/util/ArrayList")) 1 := ⟨⟨(tq_4 38 (by decide +kernel) rfl), (tq_4 40 (by decide +kernel) rfl), (tq_s 13 8 (by decide +kernel)), (tq_1 1 (by decide +kernel) rfl), (tq_4 41 (by decide +kernel) rfl)⟩, ⟨by decide +kernel, by decide +kernel, by decide +kernel⟩⟩
theorem sX5_274n : gx_sIN RX5 274 yX2_init "StandTests" cX2_init 3 2 := ⟨⟨List.mem_of_getElem? (i := 5) (by decide +kernel), (tq_4 65 (by decide +kernel) rfl), (tq_1 23 (by decide +kernel) rfl), (tq_4 66 (by decide +kernel) rfl)⟩, rfl, ⟨by decide +kernel, by decide +kernel, by decide +kernel⟩⟩
theorem sX5_277n : gx_sVN RX5 277 yX0_isBefore "StandTests" cX0_isBefore 2 (some .boolean) 1 := ⟨⟨List.mem_of_getElem? (i := 6) (by decide +kernel), (tq_4 36 (by decide +kernel) rfl), (tq_s 12 3 (by decide +kernel)), (tq_1 20 (by decide +kernel) rfl), (tq_4 37 (by decide +kernel) rfl)⟩, ⟨by decide +kernel, by decide +kernel, by decide +kernel⟩⟩
theorem sX5_281 : gx_sV RX5 281 yX5_cornerAfter cX5_cornerAfter 5 (some (.object "StandTests$Foot")) 1 := ⟨⟨(tq_4 42 (by decide +kernel) rfl), (tq_4 44 (by decide +kernel) rfl), (tq_s 14 8 (by decide +kernel)), (tq_1 1 (by decide +kernel) rfl), (tq_4 45 (by decide +kernel) rfl)⟩, ⟨by decide +kernel, by decide +kernel, by decide +kernel⟩⟩
theorem sX5_284n : gx_sVN RX5 284 yX0_seesMoreRightOf "StandTests" cX0_seesMoreRightOf 5 (some .boolean) 2 := ⟨⟨List.mem_of_getElem? (i := 7) (by decide +kernel), (tq_4 48 (by decide +kernel) rfl), (tq_s 15 3 (by decide +kernel)), (tq_1 20 (by decide +kernel) rfl), (tq_4 49 (by decide +kernel) rfl)⟩, ⟨by decide +kernel, by decide +kernel, by decide +kernel⟩⟩
theorem fX6_7 : gx_fld RX6 7 11 2 RX6 TX6 24 "StandTestsModel" := ⟨inX6, rfl, by decide, (tq_5 11 (by decide +kernel) rfl), Or.inl rfl⟩
theorem fX6_13 : gx_fld RX6 13 11 3 RX6 TX6 24 "StandTestsModel" := ⟨inX6, rfl, by decide, (tq_5 12 (by decide +kernel) rfl), Or.inl rfl⟩
theorem fX6_16 : gx_fld RX6 16 11 4 RX6 TX6 24 "StandTestsModel" := ⟨inX6, rfl, by decide, (tq_5 13 (by decide +kernel) rfl), Or.inl rfl⟩
theorem fX6_19 : gx_fld RX6 19 11 5 RX6 TX6 24 "StandTestsModel" := ⟨inX6, rfl, by decide, (tq_5 14 (by decide +kernel) rfl), Or.inl rfl⟩
theorem fX6_22 : gx_fld RX6 22 11 6 RX6 TX6 24 "StandTestsModel" := ⟨inX6, rfl, by decide, (tq_5 15 (by decide +kernel) rfl), Or.inl rfl⟩
theorem fX6_25 : gx_fld RX6 25 11 8 RX6 TX6 24 "StandTestsModel" := ⟨inX6, rfl, by decide, (tq_5 17 (by decide +kernel) rfl), Or.inl rfl⟩
theorem fX6_28 : gx_fld RX6 28 11 9 RX6 TX6 24 "StandTestsModel" := ⟨inX6, rfl, by decide, (tq_5 18 (by decide +kernel) rfl), Or.inl rfl⟩
theorem fX6_31 : gx_fld RX6 31 11 11 RX6 TX6 24 "StandTestsModel" := ⟨inX6, rfl, by decide, (tq_5 20 (by decide +kernel) rfl), Or.inl rfl⟩
theorem fX6_35 : gx_fld RX6 35 11 16 RX6 TX6 24 "StandTestsModel" := ⟨inX6, rfl, by decide, (tq_5 25 (by decide +kernel) rfl), Or.inl rfl⟩
theorem fX6_38 : gx_fld RX6 38 11 17 RX6 TX6 24 "StandTestsModel" := ⟨inX6, rfl, by decide, (tq_5 26 (by decide +kernel) rfl), Or.inl rfl⟩
theorem fX6_41 : gx_fld RX6 41 11 22 RX6 TX6 24 "StandTestsModel" := ⟨inX6, rfl, by decide, (tq_5 31 (by decide +kernel) rfl), Or.inl rfl⟩
theorem fX6_44 : gx_fld RX6 44 11 23 RX6 TX6 24 "StandTestsModel" := ⟨inX6, rfl, by decide, (tq_5 32 (by decide +kernel) rfl), Or.inl rfl⟩
theorem fX6_47 : gx_fld RX6 47 11 0 RX6 TX6 24 "StandTestsModel" := ⟨inX6, rfl, by decide, (tq_5 9 (by decide +kernel) rfl), Or.inl rfl⟩
theorem sX6_55 : gx_sS RX6 55 yX6_isPlace cX6_isPlace 2 (some .boolean) 1 := ⟨⟨(tq_5 92 (by decide +kernel) rfl), (tq_5 93 (by decide +kernel) rfl), (tq_1 10 (by decide +kernel) rfl), (tq_5 94 (by decide +kernel) rfl)⟩, ⟨by decide +kernel, by decide +kernel, by decide +kernel⟩⟩
theorem sX6_61 : gx_sS RX6 61 yX6_isIn cX6_isIn 6 (some .boolean) 3 := ⟨⟨(tq_5 98 (by decide +kernel) rfl), (tq_5 99 (by decide +kernel) rfl), (tq_1 10 (by decide +kernel) rfl), (tq_5 100 (by decide +kernel) rfl)⟩, ⟨by decide +kernel, by decide +kernel, by decide +kernel⟩⟩
theorem fX6_65 : gx_fld RX6 65 11 1 RX6 TX6 24 "StandTestsModel" := ⟨inX6, rfl, by decide, (tq_5 10 (by decide +kernel) rfl), Or.inl rfl⟩
theorem fX6_68 : gx_fld RX6 68 11 7 RX6 TX6 24 "StandTestsModel" := ⟨inX6, rfl, by decide, (tq_5 16 (by decide +kernel) rfl), Or.inl rfl⟩
theorem sX6_71 : gx_sV RX6 71 yX6_wind cX6_wind 4 none 0 := ⟨⟨(tq_5 105 (by decide +kernel) rfl), (tq_5 107 (by decide +kernel) rfl), (tq_s 26 24 (by decide +kernel)), (tq_1 10 (by decide +kernel) rfl), (tq_5 108 (by decide +kernel) rfl)⟩, ⟨by decide +kernel, by decide +kernel, by decide +kernel⟩⟩
theorem fX6_74 : gx_fld RX6 74 11 10 RX6 TX6 24 "StandTestsModel" := ⟨inX6, rfl, by decide, (tq_5 19 (by decide +kernel) rfl), Or.inl rfl⟩
theorem fX6_77 : gx_fld RX6 77 11 12 RX6 TX6 24 "StandTestsModel" := ⟨inX6, rfl, by decide, (tq_5 21 (by decide +kernel) rfl), Or.inl rfl⟩
theorem fX6_81 : gx_fld RX6 81 11 13 RX6 TX6 24 "StandTestsModel" := ⟨inX6, rfl, by decide, (tq_5 22 (by decide +kernel) rfl), Or.inl rfl⟩
theorem fX6_84 : gx_fld RX6 84 11 14 RX6 TX6 24 "StandTestsModel" := ⟨inX6, rfl, by decide, (tq_5 23 (by decide +kernel) rfl), Or.inl rfl⟩
theorem sX6_87 : gx_sV RX6 87 yX6_turn cX6_turn 7 (some .long) 4 := ⟨⟨(tq_5 117 (by decide +kernel) rfl), (tq_5 119 (by decide +kernel) rfl), (tq_s 29 24 (by decide +kernel)), (tq_1 10 (by decide +kernel) rfl), (tq_5 120 (by decide +kernel) rfl)⟩, ⟨by decide +kernel, by decide +kernel, by decide +kernel⟩⟩
theorem sX6_91 : gx_sV RX6 91 yX6_isSide cX6_isSide 11 (some .boolean) 2 := ⟨⟨(tq_5 113 (by decide +kernel) rfl), (tq_5 115 (by decide +kernel) rfl), (tq_s 28 24 (by decide +kernel)), (tq_1 10 (by decide +kernel) rfl), (tq_5 116 (by decide +kernel) rfl)⟩, ⟨by decide +kernel, by decide +kernel, by decide +kernel⟩⟩
theorem fX6_95 : gx_fld RX6 95 11 15 RX6 TX6 24 "StandTestsModel" := ⟨inX6, rfl, by decide, (tq_5 24 (by decide +kernel) rfl), Or.inl rfl⟩
theorem sX6_98 : gx_sV RX6 98 yX6_next cX6_next 3 (some .int) 1 := ⟨⟨(tq_5 109 (by decide +kernel) rfl), (tq_5 111 (by decide +kernel) rfl), (tq_s 27 24 (by decide +kernel)), (tq_1 10 (by decide +kernel) rfl), (tq_5 112 (by decide +kernel) rfl)⟩, ⟨by decide +kernel, by decide +kernel, by decide +kernel⟩⟩
theorem sX6_102 : gx_sS RX6 102 yX6_common cX6_common 10 (some .long) 2 := ⟨⟨(tq_5 133 (by decide +kernel) rfl), (tq_5 134 (by decide +kernel) rfl), (tq_1 10 (by decide +kernel) rfl), (tq_5 135 (by decide +kernel) rfl)⟩, ⟨by decide +kernel, by decide +kernel, by decide +kernel⟩⟩
theorem sX6_106 : gx_sV RX6 106 yX6_isOut cX6_isOut 5 (some .boolean) 2 := ⟨⟨(tq_5 156 (by decide +kernel) rfl), (tq_5 158 (by decide +kernel) rfl), (tq_s 33 24 (by decide +kernel)), (tq_1 10 (by decide +kernel) rfl), (tq_5 159 (by decide +kernel) rfl)⟩, ⟨by decide +kernel, by decide +kernel, by decide +kernel⟩⟩
theorem sX6_109 : gx_sV RX6 109 yX6_momentOf cX6_momentOf 14 (some .long) 5 := ⟨⟨(tq_5 152 (by decide +kernel) rfl), (tq_5 154 (by decide +kernel) rfl), (tq_s 32 24 (by decide +kernel)), (tq_1 10 (by decide +kernel) rfl), (tq_5 155 (by decide +kernel) rfl)⟩, ⟨by decide +kernel, by decide +kernel, by decide +kernel⟩⟩
theorem sX6_113 : gx_sV RX6 113 yX6_noPolygon cX6_noPolygon 1 (some .boolean) 0 := ⟨⟨(tq_5 140 (by decide +kernel) rfl), (tq_5 142 (by decide +kernel) rfl), (tq_s 30 24 (by decide +kernel)), (tq_1 10 (by decide +kernel) rfl), (tq_5 143 (by decide +kernel) rfl)⟩, ⟨by decide +kernel, by decide +kernel, by decide +kernel⟩⟩
theorem sX6_117 : gx_sV RX6 117 yX6_tipping cX6_tipping 10 (some .int) 4 := ⟨⟨(tq_5 148 (by decide +kernel) rfl), (tq_5 150 (by decide +kernel) rfl), (tq_s 31 24 (by decide +kernel)), (tq_1 10 (by decide +kernel) rfl), (tq_5 151 (by decide +kernel) rfl)⟩, ⟨by decide +kernel, by decide +kernel, by decide +kernel⟩⟩
theorem fX6_121 : gx_fld RX6 121 11 18 RX6 TX6 24 "StandTestsModel" := ⟨inX6, rfl, by decide, (tq_5 27 (by decide +kernel) rfl), Or.inl rfl⟩
theorem fX6_124 : gx_fld RX6 124 11 19 RX6 TX6 24 "StandTestsModel" := ⟨inX6, rfl, by decide, (tq_5 28 (by decide +kernel) rfl), Or.inl rfl⟩
theorem fX6_127 : gx_fld RX6 127 11 20 RX6 TX6 24 "StandTestsModel" := ⟨inX6, rfl, by decide, (tq_5 29 (by decide +kernel) rfl), Or.inl rfl⟩
theorem sX6_130 : gx_sV RX6 130 yX6_here cX6_here 1 (some .int) 0 := ⟨⟨(tq_5 180 (by decide +kernel) rfl), (tq_5 182 (by decide +kernel) rfl), (tq_s 35 24 (by decide +kernel)), (tq_1 10 (by decide +kernel) rfl), (tq_5 183 (by decide +kernel) rfl)⟩, ⟨by decide +kernel, by decide +kernel, by decide +kernel⟩⟩
theorem sX6_134 : gx_sV RX6 134 yX6_fail cX6_fail 1 none 0 := ⟨⟨(tq_5 184 (by decide +kernel) rfl), (tq_5 186 (by decide +kernel) rfl), (tq_s 36 24 (by decide +kernel)), (tq_1 10 (by decide +kernel) rfl), (tq_5 187 (by decide +kernel) rfl)⟩, ⟨by decide +kernel, by decide +kernel, by decide +kernel⟩⟩
theorem sX6_137 : gx_sV RX6 137 yX6_readNumber cX6_readNumber 5 (some .int) 1 := ⟨⟨(tq_5 188 (by decide +kernel) rfl), (tq_5 190 (by decide +kernel) rfl), (tq_s 37 24 (by decide +kernel)), (tq_1 10 (by decide +kernel) rfl), (tq_5 191 (by decide +kernel) rfl)⟩, ⟨by decide +kernel, by decide +kernel, by decide +kernel⟩⟩
theorem sX6_141 : gx_sV RX6 141 yX6_readTest cX6_readTest 3 none 1 := ⟨⟨(tq_5 176 (by decide +kernel) rfl), (tq_5 178 (by decide +kernel) rfl), (tq_s 34 24 (by decide +kernel)), (tq_1 10 (by decide +kernel) rfl), (tq_5 179 (by decide +kernel) rfl)⟩, ⟨by decide +kernel, by decide +kernel, by decide +kernel⟩⟩
theorem fX6_145 : gx_fld RX6 145 11 21 RX6 TX6 24 "StandTestsModel" := ⟨inX6, rfl, by decide, (tq_5 30 (by decide +kernel) rfl), Or.inl rfl⟩
theorem sX6_148 : gx_sV RX6 148 yX6_openIn cX6_openIn 2 (some .int) 1 := ⟨⟨(tq_5 200 (by decide +kernel) rfl), (tq_5 202 (by decide +kernel) rfl), (tq_s 39 24 (by decide +kernel)), (tq_1 10 (by decide +kernel) rfl), (tq_5 203 (by decide +kernel) rfl)⟩, ⟨by decide +kernel, by decide +kernel, by decide +kernel⟩⟩
theorem sX6_151 : gx_sV RX6 151 yX6_testAt cX6_testAt 2 (some .int) 1 := ⟨⟨(tq_5 196 (by decide +kernel) rfl), (tq_5 198 (by decide +kernel) rfl), (tq_s 38 24 (by decide +kernel)), (tq_1 10 (by decide +kernel) rfl), (tq_5 199 (by decide +kernel) rfl)⟩, ⟨by decide +kernel, by decide +kernel, by decide +kernel⟩⟩
theorem sX6_158 : gx_sV RX6 158 yX6_cross cX6_cross 3 (some .long) 2 := ⟨⟨(tq_5 214 (by decide +kernel) rfl), (tq_5 216 (by decide +kernel) rfl), (tq_s 40 24 (by decide +kernel)), (tq_1 10 (by decide +kernel) rfl), (tq_5 217 (by decide +kernel) rfl)⟩, ⟨by decide +kernel, by decide +kernel, by decide +kernel⟩⟩
theorem sX6_164 : gx_sS RX6 164 yX6_isNumber cX6_isNumber 6 (some .boolean) 3 := ⟨⟨(tq_5 223 (by decide +kernel) rfl), (tq_5 224 (by decide +kernel) rfl), (tq_1 10 (by decide +kernel) rfl), (tq_5 225 (by decide +kernel) rfl)⟩, ⟨by decide +kernel, by decide +kernel, by decide +kernel⟩⟩
theorem sJxc12de_1 : gx_sI RJxc12de 1 yJxa1e45_init_da8c8 cJxa1e45_init_da8c8 1 0 := ⟨⟨(tq_1 48 (by decide +kernel) rfl), (tq_1 49 (by decide +kernel) rfl), (tq_1 2 (by decide +kernel) rfl), (tq_1 50 (by decide +kernel) rfl)⟩, rfl, ⟨by decide +kernel, by decide +kernel, by decide +kernel⟩⟩
theorem fJxc12de_7 : gx_fld RJxc12de 7 4 0 RJx4a65c TJx4a65c 3 "java/util/AbstractList" := ⟨inJx4a65c, rfl, by decide, (tq_1 56 (by decide +kernel) rfl), Or.inl rfl⟩
theorem sJx4a65c_1 : gx_sI RJx4a65c 1 yJxc12de_init_da8c8 cJxc12de_init_da8c8 1 0 := ⟨⟨(tq_1 45 (by decide +kernel) rfl), (tq_1 46 (by decide +kernel) rfl), (tq_1 3 (by decide +kernel) rfl), (tq_1 47 (by decide +kernel) rfl)⟩, rfl, ⟨by decide +kernel, by decide +kernel, by decide +kernel⟩⟩
theorem fJx4a65c_9 : gx_fld RJx4a65c 9 4 1 RJx4a65c TJx4a65c 3 "java/util/ArrayList" := ⟨inJx4a65c, rfl, by decide, (tq_1 54 (by decide +kernel) rfl), Or.inl rfl⟩
theorem sJx4a65c_73 : gx_sS RJx4a65c 73 yJ8_newLength_cabcc cJ8_newLength_cabcc 4 (some .int) 3 := ⟨⟨(tq_2 117 (by decide +kernel) rfl), (tq_1 181 (by decide +kernel) rfl), (tq_1 16 (by decide +kernel) rfl), (tq_1 182 (by decide +kernel) rfl)⟩, ⟨by decide +kernel, by decide +kernel, by decide +kernel⟩⟩
theorem sJx4a65c_66 : gx_sS RJx4a65c 66 yJ7_copyOf_1904c cJ7_copyOf_1904c 2 (some (.array (.object "java/lang/Object"))) 2 := ⟨⟨(tq_2 118 (by decide +kernel) rfl), (tq_2 119 (by decide +kernel) rfl), (tq_1 18 (by decide +kernel) rfl), (tq_2 120 (by decide +kernel) rfl)⟩, ⟨by decide +kernel, by decide +kernel, by decide +kernel⟩⟩
theorem sJx4a65c_79 : gx_sS RJx4a65c 79 yJ9_max_7cf53 cJ9_max_7cf53 2 (some .int) 2 := ⟨⟨(tq_2 146 (by decide +kernel) rfl), (tq_1 184 (by decide +kernel) rfl), (tq_1 17 (by decide +kernel) rfl), (tq_1 185 (by decide +kernel) rfl)⟩, ⟨by decide +kernel, by decide +kernel, by decide +kernel⟩⟩
theorem fJx4a65c_48 : gx_fld RJx4a65c 48 4 2 RJx4a65c TJx4a65c 3 "java/util/ArrayList" := ⟨inJx4a65c, rfl, by decide, (tq_1 55 (by decide +kernel) rfl), Or.inl rfl⟩
theorem sJx4a65c_69 : gx_sV RJx4a65c 69 yJx4a65c_grow_92f84 cJx4a65c_grow_92f84 4 (some (.array (.object "java/lang/Object"))) 1 := ⟨⟨(tq_2 113 (by decide +kernel) rfl), (tq_2 115 (by decide +kernel) rfl), (tq_s 8 3 (by decide +kernel)), (tq_1 4 (by decide +kernel) rfl), (tq_2 116 (by decide +kernel) rfl)⟩, ⟨by decide +kernel, by decide +kernel, by decide +kernel⟩⟩
theorem sJx4a65c_118 : gx_sS RJx4a65c 118 yJ15_checkIndex_7cf53 cJ15_checkIndex_7cf53 2 (some .int) 2 := ⟨⟨(tq_4 26 (by decide +kernel) rfl), (tq_4 27 (by decide +kernel) rfl), (tq_1 21 (by decide +kernel) rfl), (tq_4 28 (by decide +kernel) rfl)⟩, ⟨by decide +kernel, by decide +kernel, by decide +kernel⟩⟩
theorem sJx4a65c_123 : gx_sV RJx4a65c 123 yJx4a65c_elementData_915e3 cJx4a65c_elementData_915e3 2 (some (.object "java/lang/Object")) 1 := ⟨⟨(tq_4 30 (by decide +kernel) rfl), (tq_4 31 (by decide +kernel) rfl), (tq_4 32 (by decide +kernel) rfl), (tq_1 4 (by decide +kernel) rfl), (tq_4 33 (by decide +kernel) rfl)⟩, ⟨by decide +kernel, by decide +kernel, by decide +kernel⟩⟩
theorem sJx4a65c_129 : gx_sV RJx4a65c 129 yJx4a65c_grow_d5877 cJx4a65c_grow_d5877 1 (some (.array (.object "java/lang/Object"))) 0 := ⟨⟨(tq_2 109 (by decide +kernel) rfl), (tq_2 111 (by decide +kernel) rfl), (tq_s 7 3 (by decide +kernel)), (tq_1 4 (by decide +kernel) rfl), (tq_2 112 (by decide +kernel) rfl)⟩, ⟨by decide +kernel, by decide +kernel, by decide +kernel⟩⟩
theorem fJx4a65c_63 : gx_fld RJx4a65c 63 4 0 RJx4a65c TJx4a65c 3 "java/util/ArrayList" := ⟨inJx4a65c, rfl, by decide, (tq_1 57 (by decide +kernel) rfl), Or.inr (tq_1 58 (by decide +kernel) rfl)⟩
theorem sJx4a65c_131 : gx_sV RJx4a65c 131 yJx4a65c_add_72be8 cJx4a65c_add_72be8 4 none 3 := ⟨⟨(tq_2 105 (by decide +kernel) rfl), (tq_2 107 (by decide +kernel) rfl), (tq_s 6 3 (by decide +kernel)), (tq_1 4 (by decide +kernel) rfl), (tq_2 108 (by decide +kernel) rfl)⟩, ⟨by decide +kernel, by decide +kernel, by decide +kernel⟩⟩
theorem sJ7_300 : gx_sS RJ7 300 yJ7_copyOf_6403c cJ7_copyOf_6403c 4 (some (.array (.object "java/lang/Object"))) 3 := ⟨⟨(tq_2 140 (by decide +kernel) rfl), (tq_2 141 (by decide +kernel) rfl), (tq_1 18 (by decide +kernel) rfl), (tq_2 142 (by decide +kernel) rfl)⟩, ⟨by decide +kernel, by decide +kernel, by decide +kernel⟩⟩
theorem sJ7_304 : gx_sS RJ7 304 yJ9_min_7cf53 cJ9_min_7cf53 2 (some .int) 2 := ⟨⟨(tq_1 201 (by decide +kernel) rfl), (tq_1 202 (by decide +kernel) rfl), (tq_1 17 (by decide +kernel) rfl), (tq_1 203 (by decide +kernel) rfl)⟩, ⟨by decide +kernel, by decide +kernel, by decide +kernel⟩⟩
theorem sJ15_105 : gx_sS RJ15 105 yJ3_checkIndex_8e157 cJ3_checkIndex_8e157 3 (some .int) 3 := ⟨⟨(tq_4 29 (by decide +kernel) rfl), (tq_2 18 (by decide +kernel) rfl), (tq_1 22 (by decide +kernel) rfl), (tq_2 19 (by decide +kernel) rfl)⟩, ⟨by decide +kernel, by decide +kernel, by decide +kernel⟩⟩
theorem sJ8_194 : gx_sS RJ8 194 yJ9_max_7cf53 cJ9_max_7cf53 2 (some .int) 2 := ⟨⟨(tq_1 183 (by decide +kernel) rfl), (tq_1 184 (by decide +kernel) rfl), (tq_1 17 (by decide +kernel) rfl), (tq_1 185 (by decide +kernel) rfl)⟩, ⟨by decide +kernel, by decide +kernel, by decide +kernel⟩⟩
theorem sJ8_201 : gx_sS RJ8 201 yJ8_hugeLength_7cf53 cJ8_hugeLength_7cf53 3 (some .int) 2 := ⟨⟨(tq_1 187 (by decide +kernel) rfl), (tq_1 188 (by decide +kernel) rfl), (tq_1 16 (by decide +kernel) rfl), (tq_1 189 (by decide +kernel) rfl)⟩, ⟨by decide +kernel, by decide +kernel, by decide +kernel⟩⟩
theorem fJ5_15 : gx_fld RJ5 15 1 0 RJ4 TJ4 4 "java/lang/AbstractStringBuilder" := ⟨inJ4, rfl, by decide, (tq_1 84 (by decide +kernel) rfl), Or.inl rfl⟩
theorem fJ5_22 : gx_fld RJ5 22 1 1 RJ4 TJ4 4 "java/lang/AbstractStringBuilder" := ⟨inJ4, rfl, by decide, (tq_1 85 (by decide +kernel) rfl), Or.inl rfl⟩
theorem sJ5_26 : gx_sS RJ5 26 yJ2_newBytesFor_77867 cJ2_newBytesFor_77867 1 (some (.array .byte)) 1 := ⟨⟨(tq_1 77 (by decide +kernel) rfl), (tq_1 78 (by decide +kernel) rfl), (tq_1 8 (by decide +kernel) rfl), (tq_1 79 (by decide +kernel) rfl)⟩, ⟨by decide +kernel, by decide +kernel, by decide +kernel⟩⟩
theorem fJ5_79 : gx_fld RJ5 79 1 3 RJ4 TJ4 4 "java/lang/AbstractStringBuilder" := ⟨inJ4, rfl, by decide, (tq_1 88 (by decide +kernel) rfl), Or.inl rfl⟩
theorem sJ5_104 : gx_sVK RJ5 104 "java/lang/StringBuilder" yJ5_newCapacity_0f7a4 cJ5_newCapacity_0f7a4 6 (some .int) 1 := ⟨⟨(tq_1 176 (by decide +kernel) rfl), (tq_1 178 (by decide +kernel) rfl), (tq_x 1 (by decide +kernel)), (tq_1 5 (by decide +kernel) rfl), (tq_1 179 (by decide +kernel) rfl)⟩, ⟨by decide +kernel, by decide +kernel, by decide +kernel⟩⟩
theorem sJ5_108 : gx_sS RJ5 108 yJ7_copyOf_9075b cJ7_copyOf_9075b 3 (some (.array .byte)) 2 := ⟨⟨(tq_1 191 (by decide +kernel) rfl), (tq_1 192 (by decide +kernel) rfl), (tq_1 18 (by decide +kernel) rfl), (tq_1 193 (by decide +kernel) rfl)⟩, ⟨by decide +kernel, by decide +kernel, by decide +kernel⟩⟩
theorem sJ5_114 : gx_sS RJ5 114 yJ8_newLength_cabcc cJ8_newLength_cabcc 4 (some .int) 3 := ⟨⟨(tq_1 180 (by decide +kernel) rfl), (tq_1 181 (by decide +kernel) rfl), (tq_1 16 (by decide +kernel) rfl), (tq_1 182 (by decide +kernel) rfl)⟩, ⟨by decide +kernel, by decide +kernel, by decide +kernel⟩⟩
theorem sJ5_131 : gx_sI RJ5 131 yJx7c733_init_d00df cJx7c733_init_d00df 2 1 := ⟨⟨(tq_2 157 (by decide +kernel) rfl), (tq_2 158 (by decide +kernel) rfl), (tq_1 28 (by decide +kernel) rfl), (tq_2 159 (by decide +kernel) rfl)⟩, rfl, ⟨by decide +kernel, by decide +kernel, by decide +kernel⟩⟩
theorem sJ5_100 : gx_sVK RJ5 100 "java/lang/StringBuilder" yJ5_ensureCapacityInternal_d00df cJ5_ensureCapacityInternal_d00df 3 none 1 := ⟨⟨(tq_1 172 (by decide +kernel) rfl), (tq_1 174 (by decide +kernel) rfl), (tq_x 0 (by decide +kernel)), (tq_1 5 (by decide +kernel) rfl), (tq_1 175 (by decide +kernel) rfl)⟩, ⟨by decide +kernel, by decide +kernel, by decide +kernel⟩⟩
theorem sJ5_83 : gx_sU RJ5 83 "java/lang/StringBuilder" "java/lang/AbstractStringBuilder" (⟨"java/lang/AbstractStringBuilder", "isLatin1", "()Z"⟩ : MethodName) yJ5_isLatin1_aae02 cJ5_isLatin1_aae02 1 (some .boolean) 0 := ⟨⟨(tq_1 207 (by decide +kernel) rfl), (tq_1 209 (by decide +kernel) rfl), (tq_1 210 (by decide +kernel) rfl), (tq_1 208 (by decide +kernel) rfl), (tq_1 5 (by decide +kernel) rfl), (tq_1 211 (by decide +kernel) rfl)⟩, rfl, by decide +kernel, by decide +kernel, by decide +kernel⟩
theorem sJ5_133 : gx_sS RJ5 133 yJ1_fillNull_b72d1 cJ1_fillNull_b72d1 3 none 3 := ⟨⟨(tq_3 131 (by decide +kernel) rfl), (tq_3 132 (by decide +kernel) rfl), (tq_1 25 (by decide +kernel) rfl), (tq_3 133 (by decide +kernel) rfl)⟩, ⟨by decide +kernel, by decide +kernel, by decide +kernel⟩⟩
theorem sJ5_137 : gx_sS RJ5 137 yJ2_fillNull_b72d1 cJ2_fillNull_b72d1 3 none 3 := ⟨⟨(tq_3 166 (by decide +kernel) rfl), (tq_3 167 (by decide +kernel) rfl), (tq_1 8 (by decide +kernel) rfl), (tq_3 168 (by decide +kernel) rfl)⟩, ⟨by decide +kernel, by decide +kernel, by decide +kernel⟩⟩
theorem fJ5_73 : gx_fld RJ5 73 1 2 RJ4 TJ4 4 "java/lang/AbstractStringBuilder" := ⟨inJ4, rfl, by decide, (tq_1 86 (by decide +kernel) rfl), Or.inl rfl⟩
theorem sJ5_138 : gx_sS RJ5 138 yJ9_min_7cf53 cJ9_min_7cf53 2 (some .int) 2 := ⟨⟨(tq_2 63 (by decide +kernel) rfl), (tq_1 202 (by decide +kernel) rfl), (tq_1 17 (by decide +kernel) rfl), (tq_1 203 (by decide +kernel) rfl)⟩, ⟨by decide +kernel, by decide +kernel, by decide +kernel⟩⟩
theorem sJ5_144 : gx_sS RJ5 144 yJ0_checkIndex_df160 cJ0_checkIndex_df160 2 none 2 := ⟨⟨(tq_2 64 (by decide +kernel) rfl), (tq_2 15 (by decide +kernel) rfl), (tq_1 7 (by decide +kernel) rfl), (tq_2 16 (by decide +kernel) rfl)⟩, ⟨by decide +kernel, by decide +kernel, by decide +kernel⟩⟩
theorem sJ5_148 : gx_sS RJ5 148 yJ2_getChar_3b067 cJ2_getChar_3b067 2 (some .char) 2 := ⟨⟨(tq_2 65 (by decide +kernel) rfl), (tq_2 66 (by decide +kernel) rfl), (tq_1 8 (by decide +kernel) rfl), (tq_2 67 (by decide +kernel) rfl)⟩, ⟨by decide +kernel, by decide +kernel, by decide +kernel⟩⟩
theorem sJ5_32 : gx_sV RJ5 32 yJ0_length_8abf5 cJ0_length_8abf5 1 (some .int) 0 := ⟨⟨(tq_2 186 (by decide +kernel) rfl), (tq_2 187 (by decide +kernel) rfl), (tq_2 188 (by decide +kernel) rfl), (tq_1 7 (by decide +kernel) rfl), (tq_2 189 (by decide +kernel) rfl)⟩, ⟨by decide +kernel, by decide +kernel, by decide +kernel⟩⟩
theorem sJ5_191 : gx_sS RJ5 191 yJ1_canEncode_fc78d cJ1_canEncode_fc78d 1 (some .boolean) 1 := ⟨⟨(tq_1 212 (by decide +kernel) rfl), (tq_1 213 (by decide +kernel) rfl), (tq_1 25 (by decide +kernel) rfl), (tq_1 214 (by decide +kernel) rfl)⟩, ⟨by decide +kernel, by decide +kernel, by decide +kernel⟩⟩
theorem sJ5_197 : gx_sS RJ5 197 yJ2_putCharSB_b72d1 cJ2_putCharSB_b72d1 3 none 3 := ⟨⟨(tq_2 8 (by decide +kernel) rfl), (tq_2 9 (by decide +kernel) rfl), (tq_1 8 (by decide +kernel) rfl), (tq_2 10 (by decide +kernel) rfl)⟩, ⟨by decide +kernel, by decide +kernel, by decide +kernel⟩⟩
theorem sJ5_245 : gx_sS RJ5 245 yJ6_stringSize_0f7a4 cJ6_stringSize_0f7a4 4 (some .int) 1 := ⟨⟨(tq_2 217 (by decide +kernel) rfl), (tq_2 218 (by decide +kernel) rfl), (tq_1 30 (by decide +kernel) rfl), (tq_2 219 (by decide +kernel) rfl)⟩, ⟨by decide +kernel, by decide +kernel, by decide +kernel⟩⟩
theorem sJ5_248 : gx_sS RJ5 248 yJ6_getChars_ba4f3 cJ6_getChars_ba4f3 7 (some .int) 3 := ⟨⟨(tq_2 220 (by decide +kernel) rfl), (tq_2 221 (by decide +kernel) rfl), (tq_1 30 (by decide +kernel) rfl), (tq_2 222 (by decide +kernel) rfl)⟩, ⟨by decide +kernel, by decide +kernel, by decide +kernel⟩⟩
theorem sJ5_251 : gx_sS RJ5 251 yJ2_getChars_46870 cJ2_getChars_46870 5 (some .int) 4 := ⟨⟨(tq_2 227 (by decide +kernel) rfl), (tq_2 228 (by decide +kernel) rfl), (tq_1 8 (by decide +kernel) rfl), (tq_2 229 (by decide +kernel) rfl)⟩, ⟨by decide +kernel, by decide +kernel, by decide +kernel⟩⟩
theorem sJ4_1 : gx_sI RJ4 1 yJ5_init_d00df cJ5_init_d00df 2 1 := ⟨⟨(tq_1 71 (by decide +kernel) rfl), (tq_1 72 (by decide +kernel) rfl), (tq_1 5 (by decide +kernel) rfl), (tq_1 73 (by decide +kernel) rfl)⟩, rfl, ⟨by decide +kernel, by decide +kernel, by decide +kernel⟩⟩
theorem sJ4_29 : gx_sSU RJ4 29 yJ5_append_cf1ce cJ5_append_cf1ce 3 (some (.object "java/lang/AbstractStringBuilder")) 1 := ⟨⟨(tq_2 167 (by decide +kernel) rfl), (tq_6 12 (by decide +kernel) rfl), (tq_1 97 (by decide +kernel) rfl), (tq_2 168 (by decide +kernel) rfl), (tq_1 5 (by decide +kernel) rfl), (tq_2 169 (by decide +kernel) rfl)⟩, by decide +kernel, by decide +kernel⟩
theorem sJ4_50 : gx_sSU RJ4 50 yJ5_append_3fe6f cJ5_append_3fe6f 2 (some (.object "java/lang/AbstractStringBuilder")) 1 := ⟨⟨(tq_1 169 (by decide +kernel) rfl), (tq_6 6 (by decide +kernel) rfl), (tq_1 97 (by decide +kernel) rfl), (tq_1 170 (by decide +kernel) rfl), (tq_1 5 (by decide +kernel) rfl), (tq_1 171 (by decide +kernel) rfl)⟩, by decide +kernel, by decide +kernel⟩
theorem sJ4_53 : gx_sSU RJ4 53 yJ5_append_c97b9 cJ5_append_c97b9 4 (some (.object "java/lang/AbstractStringBuilder")) 1 := ⟨⟨(tq_2 214 (by decide +kernel) rfl), (tq_6 16 (by decide +kernel) rfl), (tq_1 97 (by decide +kernel) rfl), (tq_2 215 (by decide +kernel) rfl), (tq_1 5 (by decide +kernel) rfl), (tq_2 216 (by decide +kernel) rfl)⟩, by decide +kernel, by decide +kernel⟩
theorem sJ4_329 : gx_sSU RJ4 329 yJ5_charAt_5068e cJ5_charAt_5068e 5 (some .char) 1 := ⟨⟨(tq_2 60 (by decide +kernel) rfl), (tq_6 10 (by decide +kernel) rfl), (tq_1 97 (by decide +kernel) rfl), (tq_2 61 (by decide +kernel) rfl), (tq_1 5 (by decide +kernel) rfl), (tq_2 62 (by decide +kernel) rfl)⟩, by decide +kernel, by decide +kernel⟩
theorem sJ4_333 : gx_sSU RJ4 333 yJ5_setLength_d00df cJ5_setLength_d00df 2 none 1 := ⟨⟨(tq_2 152 (by decide +kernel) rfl), (tq_6 11 (by decide +kernel) rfl), (tq_1 97 (by decide +kernel) rfl), (tq_2 153 (by decide +kernel) rfl), (tq_1 5 (by decide +kernel) rfl), (tq_2 154 (by decide +kernel) rfl)⟩, by decide +kernel, by decide +kernel⟩
theorem sJ4_343 : gx_sSU RJ4 343 yJ5_length_8abf5 cJ5_length_8abf5 1 (some .int) 0 := ⟨⟨(tq_1 162 (by decide +kernel) rfl), (tq_6 5 (by decide +kernel) rfl), (tq_1 97 (by decide +kernel) rfl), (tq_1 163 (by decide +kernel) rfl), (tq_1 5 (by decide +kernel) rfl), (tq_1 164 (by decide +kernel) rfl)⟩, by decide +kernel, by decide +kernel⟩
theorem sJ0_1059 : gx_sS RJ0 1059 yJ3_checkIndex_8e157 cJ3_checkIndex_8e157 3 (some .int) 3 := ⟨⟨(tq_2 17 (by decide +kernel) rfl), (tq_2 18 (by decide +kernel) rfl), (tq_1 22 (by decide +kernel) rfl), (tq_2 19 (by decide +kernel) rfl)⟩, ⟨by decide +kernel, by decide +kernel, by decide +kernel⟩⟩
theorem sJ2_48 : gx_sS RJ2 48 yJ2_length_9d52b cJ2_length_9d52b 1 (some .int) 1 := ⟨⟨(tq_1 228 (by decide +kernel) rfl), (tq_1 229 (by decide +kernel) rfl), (tq_1 8 (by decide +kernel) rfl), (tq_1 230 (by decide +kernel) rfl)⟩, ⟨by decide +kernel, by decide +kernel, by decide +kernel⟩⟩
theorem sJ2_414 : gx_sS RJ2 414 yJ0_checkIndex_df160 cJ0_checkIndex_df160 2 none 2 := ⟨⟨(tq_2 14 (by decide +kernel) rfl), (tq_2 15 (by decide +kernel) rfl), (tq_1 7 (by decide +kernel) rfl), (tq_2 16 (by decide +kernel) rfl)⟩, ⟨by decide +kernel, by decide +kernel, by decide +kernel⟩⟩
