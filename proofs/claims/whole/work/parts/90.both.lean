theorem nX11_7 : Nwk RX11 7 6 3 [.null, .null, .null] := ⟨RX8, TX8, tyX8, rfl, uX8, tyX8_ok, lw_gi 85 (by decide +kernel) (by decide +kernel), lw_gi 86 (by decide +kernel) (by decide +kernel), lw_gi 62 (by decide +kernel) (by decide +kernel), fun j hj => by rcases (show j = 0 ∨ j = 1 ∨ j = 2 by omega) with rfl | rfl | rfl <;> rfl⟩
theorem iX11_9 : CkI RX11 9 mX8_init := ⟨lw_gi 87 (by decide +kernel) (by decide +kernel), lw_gi 88 (by decide +kernel) (by decide +kernel), lw_gi 89 (by decide +kernel) (by decide +kernel), lw_gi 62 (by decide +kernel) (by decide +kernel), rfl, ⟨by decide +kernel, by decide +kernel, by decide +kernel⟩, by decide, rfl⟩
theorem gX11_10 : Fq RX11 10 9 0 (.object "InflatedRows$Rows") := ⟨RX11, TX11, 13, tyX11, rfl, by decide, uX11, lw_gi 236 (by decide +kernel) (by decide +kernel), tyX11_ok, nmX11, rfl, rfl, by decide +kernel⟩
theorem nX11_16 : Nwk RX11 16 8 5 [.null, vi 0, vi 0, vi 0, vi 0] := ⟨RX10, TX10, tyX10, rfl, uX10, tyX10_ok, lw_gi 102 (by decide +kernel) (by decide +kernel), lw_gi 103 (by decide +kernel) (by decide +kernel), lw_gi 63 (by decide +kernel) (by decide +kernel), fun j hj => by rcases (show j = 0 ∨ j = 1 ∨ j = 2 ∨ j = 3 ∨ j = 4 by omega) with rfl | rfl | rfl | rfl | rfl <;> rfl⟩
theorem iX11_18 : CkI RX11 18 mX10_init := ⟨lw_gi 104 (by decide +kernel) (by decide +kernel), lw_gi 105 (by decide +kernel) (by decide +kernel), lw_gi 106 (by decide +kernel) (by decide +kernel), lw_gi 63 (by decide +kernel) (by decide +kernel), rfl, ⟨by decide +kernel, by decide +kernel, by decide +kernel⟩, by decide, rfl⟩
theorem gX11_19 : Fq RX11 19 9 1 (.object "InflatedRows$Tape") := ⟨RX11, TX11, 13, tyX11, rfl, by decide, uX11, lw_gi 237 (by decide +kernel) (by decide +kernel), tyX11_ok, nmX11, rfl, rfl, by decide +kernel⟩
theorem nX11_23 : Nwk RX11 23 0 1 [.null] := ⟨RX0, TX0, tyX0, rfl, uX0, tyX0_ok, lw_gi 124 (by decide +kernel) (by decide +kernel), lw_gi 125 (by decide +kernel) (by decide +kernel), lw_gi 64 (by decide +kernel) (by decide +kernel), fun j hj => by rcases (show j = 0 by omega) with rfl <;> rfl⟩
theorem iX11_25 : CkI RX11 25 mX0_init := ⟨lw_gi 126 (by decide +kernel) (by decide +kernel), lw_gi 127 (by decide +kernel) (by decide +kernel), lw_gi 128 (by decide +kernel) (by decide +kernel), lw_gi 64 (by decide +kernel) (by decide +kernel), rfl, ⟨by decide +kernel, by decide +kernel, by decide +kernel⟩, by decide, rfl⟩
theorem gX11_26 : Fq RX11 26 9 2 (.object "InflatedRows$Book") := ⟨RX11, TX11, 13, tyX11, rfl, by decide, uX11, lw_gi 238 (by decide +kernel) (by decide +kernel), tyX11_ok, nmX11, rfl, rfl, by decide +kernel⟩
theorem gX11_30 : Fq RX11 30 9 3 (.object "InflatedRows$Book") := ⟨RX11, TX11, 13, tyX11, rfl, by decide, uX11, lw_gi 239 (by decide +kernel) (by decide +kernel), tyX11_ok, nmX11, rfl, rfl, by decide +kernel⟩
theorem gX11_33 : Fq RX11 33 9 4 (.object "InflatedRows$Book") := ⟨RX11, TX11, 13, tyX11, rfl, by decide, uX11, lw_gi 240 (by decide +kernel) (by decide +kernel), tyX11_ok, nmX11, rfl, rfl, by decide +kernel⟩
theorem nX11_36 : Nwk RX11 36 5 5 [.null, .null, vi 0, vi 0, vi 0] := ⟨RX6, TX6, tyX6, rfl, uX6, tyX6_ok, lw_gi 134 (by decide +kernel) (by decide +kernel), lw_gi 135 (by decide +kernel) (by decide +kernel), lw_gi 65 (by decide +kernel) (by decide +kernel), fun j hj => by rcases (show j = 0 ∨ j = 1 ∨ j = 2 ∨ j = 3 ∨ j = 4 by omega) with rfl | rfl | rfl | rfl | rfl <;> rfl⟩
theorem iX11_38 : CkI RX11 38 mX6_init := ⟨lw_gi 136 (by decide +kernel) (by decide +kernel), lw_gi 137 (by decide +kernel) (by decide +kernel), lw_gi 138 (by decide +kernel) (by decide +kernel), lw_gi 65 (by decide +kernel) (by decide +kernel), rfl, ⟨by decide +kernel, by decide +kernel, by decide +kernel⟩, by decide, rfl⟩
theorem gX11_39 : Fq RX11 39 9 5 (.object "InflatedRows$Memory") := ⟨RX11, TX11, 13, tyX11, rfl, by decide, uX11, lw_gi 241 (by decide +kernel) (by decide +kernel), tyX11_ok, nmX11, rfl, rfl, by decide +kernel⟩
theorem nX11_43 : Nwk RX11 43 2 3 [.null, .null, .null] := ⟨RX3, TX3, tyX3, rfl, uX3, tyX3_ok, lw_gi 156 (by decide +kernel) (by decide +kernel), lw_gi 157 (by decide +kernel) (by decide +kernel), lw_gi 66 (by decide +kernel) (by decide +kernel), fun j hj => by rcases (show j = 0 ∨ j = 1 ∨ j = 2 by omega) with rfl | rfl | rfl <;> rfl⟩
theorem iX11_45 : CkI RX11 45 mX3_init := ⟨lw_gi 158 (by decide +kernel) (by decide +kernel), lw_gi 159 (by decide +kernel) (by decide +kernel), lw_gi 160 (by decide +kernel) (by decide +kernel), lw_gi 66 (by decide +kernel) (by decide +kernel), rfl, ⟨by decide +kernel, by decide +kernel, by decide +kernel⟩, by decide, rfl⟩
theorem gX11_46 : Fq RX11 46 9 6 (.object "InflatedRows$Growth") := ⟨RX11, TX11, 13, tyX11, rfl, by decide, uX11, lw_gi 242 (by decide +kernel) (by decide +kernel), tyX11_ok, nmX11, rfl, rfl, by decide +kernel⟩
theorem nX11_50 : Nwk RX11 50 7 4 [.null, .null, .null, vi 0] := ⟨RX9, TX9, tyX9, rfl, uX9, tyX9_ok, lw_gi 174 (by decide +kernel) (by decide +kernel), lw_gi 175 (by decide +kernel) (by decide +kernel), lw_gi 67 (by decide +kernel) (by decide +kernel), fun j hj => by rcases (show j = 0 ∨ j = 1 ∨ j = 2 ∨ j = 3 by omega) with rfl | rfl | rfl | rfl <;> rfl⟩
theorem iX11_52 : CkI RX11 52 mX9_init := ⟨lw_gi 176 (by decide +kernel) (by decide +kernel), lw_gi 177 (by decide +kernel) (by decide +kernel), lw_gi 178 (by decide +kernel) (by decide +kernel), lw_gi 67 (by decide +kernel) (by decide +kernel), rfl, ⟨by decide +kernel, by decide +kernel, by decide +kernel⟩, by decide, rfl⟩
theorem gX11_53 : Fq RX11 53 9 7 (.object "InflatedRows$Tally") := ⟨RX11, TX11, 13, tyX11, rfl, by decide, uX11, lw_gi 243 (by decide +kernel) (by decide +kernel), tyX11_ok, nmX11, rfl, rfl, by decide +kernel⟩
theorem nX11_57 : Nwk RX11 57 1 3 [.null, .null, vi 0] := ⟨RX2, TX2, tyX2, rfl, uX2, tyX2_ok, lw_gi 194 (by decide +kernel) (by decide +kernel), lw_gi 195 (by decide +kernel) (by decide +kernel), lw_gi 68 (by decide +kernel) (by decide +kernel), fun j hj => by rcases (show j = 0 ∨ j = 1 ∨ j = 2 by omega) with rfl | rfl | rfl <;> rfl⟩
theorem iX11_59 : CkI RX11 59 mX2_init := ⟨lw_gi 196 (by decide +kernel) (by decide +kernel), lw_gi 197 (by decide +kernel) (by decide +kernel), lw_gi 198 (by decide +kernel) (by decide +kernel), lw_gi 68 (by decide +kernel) (by decide +kernel), rfl, ⟨by decide +kernel, by decide +kernel, by decide +kernel⟩, by decide, rfl⟩
theorem gX11_60 : Fq RX11 60 9 8 (.object "InflatedRows$Folding") := ⟨RX11, TX11, 13, tyX11, rfl, by decide, uX11, lw_gi 244 (by decide +kernel) (by decide +kernel), tyX11_ok, nmX11, rfl, rfl, by decide +kernel⟩
theorem nX11_64 : Nwk RX11 64 4 2 [.null, vl 0] := ⟨RX5, TX5, tyX5, rfl, uX5, tyX5_ok, lw_gi 210 (by decide +kernel) (by decide +kernel), lw_gi 211 (by decide +kernel) (by decide +kernel), lw_gi 69 (by decide +kernel) (by decide +kernel), fun j hj => by rcases (show j = 0 ∨ j = 1 by omega) with rfl | rfl <;> rfl⟩
theorem iX11_66 : CkI RX11 66 mX5_init := ⟨lw_gi 212 (by decide +kernel) (by decide +kernel), lw_gi 213 (by decide +kernel) (by decide +kernel), lw_gi 214 (by decide +kernel) (by decide +kernel), lw_gi 69 (by decide +kernel) (by decide +kernel), rfl, ⟨by decide +kernel, by decide +kernel, by decide +kernel⟩, by decide, rfl⟩
theorem gX11_67 : Fq RX11 67 9 9 (.object "InflatedRows$Losses") := ⟨RX11, TX11, 13, tyX11, rfl, by decide, uX11, lw_gi 245 (by decide +kernel) (by decide +kernel), tyX11_ok, nmX11, rfl, rfl, by decide +kernel⟩
theorem nX11_71 : Nwk RX11 71 3 2 [.null, vi 0] := ⟨RX4, TX4, tyX4, rfl, uX4, tyX4_ok, lw_gi 223 (by decide +kernel) (by decide +kernel), lw_gi 224 (by decide +kernel) (by decide +kernel), lw_gi 70 (by decide +kernel) (by decide +kernel), fun j hj => by rcases (show j = 0 ∨ j = 1 by omega) with rfl | rfl <;> rfl⟩
theorem iX11_73 : CkI RX11 73 mX4_init := ⟨lw_gi 225 (by decide +kernel) (by decide +kernel), lw_gi 226 (by decide +kernel) (by decide +kernel), lw_gi 227 (by decide +kernel) (by decide +kernel), lw_gi 70 (by decide +kernel) (by decide +kernel), rfl, ⟨by decide +kernel, by decide +kernel, by decide +kernel⟩, by decide, rfl⟩
theorem gX11_74 : Fq RX11 74 9 10 (.object "InflatedRows$Kinds") := ⟨RX11, TX11, 13, tyX11, rfl, by decide, uX11, lw_gi 246 (by decide +kernel) (by decide +kernel), tyX11_ok, nmX11, rfl, rfl, by decide +kernel⟩
def pm_X11 : List Nat := [0, 1, 5, 7, 9, 11, 13, 16, 34, 38, 41, 43, 2, 3, 4, 6, 8, 10, 12, 14, 15, 17, 25, 33, 18, 19, 20, 21, 22, 23, 24, 26, 27, 28, 29, 30, 31, 32, 35, 36, 37, 39, 40, 42, 44]
def qX11 : va_G → (Nat → ClassId) → Nat → va_W → Prop := fun D cA h0 ws => ∃ ad : Nat → Nat, ad 0 = h0 ∧ pm_X11.map (fun i => ws[i]?) = ((List.range 45).map (fun k => (ad (0 + k), el (D, cA, ad) s0 (0 + k)))).map some
set_option maxRecDepth 100000 in
set_option maxHeartbeats 4000000 in
theorem vX11_init : CtI 2 mX11_init 9 [.null, .null, .null, .null, .null, .null, .null, .null, .null, .null, .null, vi 0, vi 0] 44 6145 qX11 := by
  refine ctI_of hX11_init (by decide) rfl (fun D cA h0 => ?_)
  refine k_aload_n 0 eX11_init_0 rfl ?_
  refine k_obj eX11_init_1 (by decide) oX11_1 oJi oJc ?_
  refine k_aload_n 0 eX11_init_4 rfl ?_
  refine k_new (mc := 43) (ms := 6142) (N := 3) eX11_init_5 nX11_7 (fun a1 => ?_)
  refine k_dup eX11_init_8 rfl ?_
  refine k_call (mc := 40) (ms := 5806) (mc2 := 3) (ms2 := 336) eX11_init_9 iX11_9 (Nat.le_of_ble_eq_true rfl) vX8_init ?_
  rintro _ ⟨b2_a1, b2_a2, b2_a3, rfl⟩
  refine k_putF eX11_init_12 gX11_10 rfl rfl (Nat.le_of_ble_eq_true rfl) ?_
  refine k_aload_n 0 eX11_init_15 rfl ?_
  refine k_new (mc := 39) (ms := 5801) (N := 5) eX11_init_16 nX11_16 (fun a3 => ?_)
  refine k_dup eX11_init_19 rfl ?_
  refine k_call (mc := 38) (ms := 5681) (mc2 := 1) (ms2 := 120) eX11_init_20 iX11_18 (Nat.le_of_ble_eq_true rfl) vX10_init ?_
  rintro _ ⟨b4_a1, rfl⟩
  refine k_putF eX11_init_23 gX11_19 rfl rfl (Nat.le_of_ble_eq_true rfl) ?_
  refine k_aload_n 0 eX11_init_26 rfl ?_
  refine k_new (mc := 37) (ms := 5680) (N := 1) eX11_init_27 nX11_23 (fun a5 => ?_)
  refine k_dup eX11_init_30 rfl ?_
  refine k_call (mc := 36) (ms := 5636) (mc2 := 1) (ms2 := 44) eX11_init_31 iX11_25 (Nat.le_of_ble_eq_true rfl) vX0_init ?_
  rintro _ ⟨b6_a1, rfl⟩
  refine k_putF eX11_init_34 gX11_26 rfl rfl (Nat.le_of_ble_eq_true rfl) ?_
  refine k_aload_n 0 eX11_init_37 rfl ?_
  refine k_new (mc := 35) (ms := 5635) (N := 1) eX11_init_38 nX11_23 (fun a7 => ?_)
  refine k_dup eX11_init_41 rfl ?_
  refine k_call (mc := 34) (ms := 5591) (mc2 := 1) (ms2 := 44) eX11_init_42 iX11_25 (Nat.le_of_ble_eq_true rfl) vX0_init ?_
  rintro _ ⟨b8_a1, rfl⟩
  refine k_putF eX11_init_45 gX11_30 rfl rfl (Nat.le_of_ble_eq_true rfl) ?_
  refine k_aload_n 0 eX11_init_48 rfl ?_
  refine k_new (mc := 33) (ms := 5590) (N := 1) eX11_init_49 nX11_23 (fun a9 => ?_)
  refine k_dup eX11_init_52 rfl ?_
  refine k_call (mc := 32) (ms := 5546) (mc2 := 1) (ms2 := 44) eX11_init_53 iX11_25 (Nat.le_of_ble_eq_true rfl) vX0_init ?_
  rintro _ ⟨b10_a1, rfl⟩
  refine k_putF eX11_init_56 gX11_33 rfl rfl (Nat.le_of_ble_eq_true rfl) ?_
  refine k_aload_n 0 eX11_init_59 rfl ?_
  refine k_new (mc := 31) (ms := 5541) (N := 5) eX11_init_60 nX11_36 (fun a11 => ?_)
  refine k_dup eX11_init_63 rfl ?_
  refine k_call (mc := 29) (ms := 4397) (mc2 := 2) (ms2 := 1144) eX11_init_64 iX11_38 (Nat.le_of_ble_eq_true rfl) vX6_init ?_
  rintro _ ⟨b12_a1, b12_a2, rfl⟩
  refine k_putF eX11_init_67 gX11_39 rfl rfl (Nat.le_of_ble_eq_true rfl) ?_
  refine k_aload_n 0 eX11_init_70 rfl ?_
  refine k_new (mc := 28) (ms := 4394) (N := 3) eX11_init_71 nX11_43 (fun a13 => ?_)
  refine k_dup eX11_init_74 rfl ?_
  refine k_call (mc := 11) (ms := 173) (mc2 := 17) (ms2 := 4221) eX11_init_75 iX11_45 (Nat.le_of_ble_eq_true rfl) vX3_init ?_
  rintro _ ⟨b14_a1, b14_r1, b14_a2, b14_r2, b14_a3, rfl⟩
  refine k_putF eX11_init_78 gX11_46 rfl rfl (Nat.le_of_ble_eq_true rfl) ?_
  refine k_aload_n 0 eX11_init_81 rfl ?_
  refine k_new (mc := 10) (ms := 169) (N := 4) eX11_init_82 nX11_50 (fun a15 => ?_)
  refine k_dup eX11_init_85 rfl ?_
  refine k_call (mc := 7) (ms := 145) (mc2 := 3) (ms2 := 24) eX11_init_86 iX11_52 (Nat.le_of_ble_eq_true rfl) vX9_init ?_
  rintro _ ⟨b16_a1, b16_a2, b16_a3, rfl⟩
  refine k_putF eX11_init_89 gX11_53 rfl rfl (Nat.le_of_ble_eq_true rfl) ?_
  refine k_aload_n 0 eX11_init_92 rfl ?_
  refine k_new (mc := 6) (ms := 142) (N := 3) eX11_init_93 nX11_57 (fun a17 => ?_)
  refine k_dup eX11_init_96 rfl ?_
  refine k_call (mc := 4) (ms := 61) (mc2 := 2) (ms2 := 81) eX11_init_97 iX11_59 (Nat.le_of_ble_eq_true rfl) vX2_init ?_
  rintro _ ⟨b18_a1, b18_a2, rfl⟩
  refine k_putF eX11_init_100 gX11_60 rfl rfl (Nat.le_of_ble_eq_true rfl) ?_
  refine k_aload_n 0 eX11_init_103 rfl ?_
  refine k_new (mc := 3) (ms := 59) (N := 2) eX11_init_104 nX11_64 (fun a19 => ?_)
  refine k_dup eX11_init_107 rfl ?_
  refine k_call (mc := 2) (ms := 18) (mc2 := 1) (ms2 := 41) eX11_init_108 iX11_66 (Nat.le_of_ble_eq_true rfl) vX5_init ?_
  rintro _ ⟨b20_a1, rfl⟩
  refine k_putF eX11_init_111 gX11_67 rfl rfl (Nat.le_of_ble_eq_true rfl) ?_
  refine k_aload_n 0 eX11_init_114 rfl ?_
  refine k_new (mc := 1) (ms := 16) (N := 2) eX11_init_115 nX11_71 (fun a21 => ?_)
  refine k_dup eX11_init_118 rfl ?_
  refine k_call (mc := 0) (ms := 0) (mc2 := 1) (ms2 := 16) eX11_init_119 iX11_73 (Nat.le_of_ble_eq_true rfl) vX4_init ?_
  rintro _ ⟨b22_a1, rfl⟩
  refine k_putF eX11_init_122 gX11_74 rfl rfl (Nat.le_of_ble_eq_true rfl) ?_
  refine k_aload_n 0 eX11_init_125 rfl ?_
  refine k_iconst eX11_init_126 ?_
  refine k_put eX11_init_127 pX11_78 rfl rfl (Nat.le_of_ble_eq_true rfl) ?_
  refine k_aload_n 0 eX11_init_130 rfl ?_
  refine k_iconst eX11_init_131 ?_
  refine k_put eX11_init_132 pX11_82 rfl rfl (Nat.le_of_ble_eq_true rfl) ?_
  refine k_ret eX11_init_135 ⟨fun k => ([h0, a1, a3, a5, a7, a9, a11, a13, a15, a17, a19, a21, b2_a1, b2_a2, b2_a3, b4_a1, b6_a1, b8_a1, b10_a1, b12_a1, b12_a2, b14_a1, b14_a2, b14_a3, b14_r1 0, b14_r1 1, b14_r1 2, b14_r1 3, b14_r1 4, b14_r1 5, b14_r1 6, b14_r2 0, b14_r2 1, b14_r2 2, b14_r2 3, b14_r2 4, b14_r2 5, b14_r2 6, b16_a1, b16_a2, b16_a3, b18_a1, b18_a2, b20_a1, b22_a1] : List Nat).getD (k - 0) 0, rfl, ?_⟩
  refine Eq.trans ?_ (congrArg (List.map some) (wl_45 (D, cA, fun k => ([h0, a1, a3, a5, a7, a9, a11, a13, a15, a17, a19, a21, b2_a1, b2_a2, b2_a3, b4_a1, b6_a1, b8_a1, b10_a1, b12_a1, b12_a2, b14_a1, b14_a2, b14_a3, b14_r1 0, b14_r1 1, b14_r1 2, b14_r1 3, b14_r1 4, b14_r1 5, b14_r1 6, b14_r2 0, b14_r2 1, b14_r2 2, b14_r2 3, b14_r2 4, b14_r2 5, b14_r2 6, b16_a1, b16_a2, b16_a3, b18_a1, b18_a2, b20_a1, b22_a1] : List Nat).getD (k - 0) 0))).symm
  rfl
theorem gX12_7 : Fq RX12 7 10 1 (.array .int) := ⟨RX12, TX12, 30, tyX12, rfl, by decide, uX12, lw_gi 991 (by decide +kernel) (by decide +kernel), tyX12_ok, nmX12, rfl, rfl, by decide +kernel⟩
theorem gX12_13 : Fq RX12 13 10 2 (.array .int) := ⟨RX12, TX12, 30, tyX12, rfl, by decide, uX12, lw_gi 992 (by decide +kernel) (by decide +kernel), tyX12_ok, nmX12, rfl, rfl, by decide +kernel⟩
theorem gX12_16 : Fq RX12 16 10 3 (.array .int) := ⟨RX12, TX12, 30, tyX12, rfl, by decide, uX12, lw_gi 993 (by decide +kernel) (by decide +kernel), tyX12_ok, nmX12, rfl, rfl, by decide +kernel⟩
theorem gX12_19 : Fq RX12 19 10 4 (.array .int) := ⟨RX12, TX12, 30, tyX12, rfl, by decide, uX12, lw_gi 994 (by decide +kernel) (by decide +kernel), tyX12_ok, nmX12, rfl, rfl, by decide +kernel⟩
theorem gX12_22 : Fq RX12 22 10 5 (.array .int) := ⟨RX12, TX12, 30, tyX12, rfl, by decide, uX12, lw_gi 995 (by decide +kernel) (by decide +kernel), tyX12_ok, nmX12, rfl, rfl, by decide +kernel⟩
theorem gX12_25 : Fq RX12 25 10 6 (.array .int) := ⟨RX12, TX12, 30, tyX12, rfl, by decide, uX12, lw_gi 996 (by decide +kernel) (by decide +kernel), tyX12_ok, nmX12, rfl, rfl, by decide +kernel⟩
theorem gX12_28 : Fq RX12 28 10 7 (.array .int) := ⟨RX12, TX12, 30, tyX12, rfl, by decide, uX12, lw_gi 997 (by decide +kernel) (by decide +kernel), tyX12_ok, nmX12, rfl, rfl, by decide +kernel⟩
theorem gX12_31 : Fq RX12 31 10 9 (.array .int) := ⟨RX12, TX12, 30, tyX12, rfl, by decide, uX12, lw_gi 999 (by decide +kernel) (by decide +kernel), tyX12_ok, nmX12, rfl, rfl, by decide +kernel⟩
theorem gX12_34 : Fq RX12 34 10 10 (.array .int) := ⟨RX12, TX12, 30, tyX12, rfl, by decide, uX12, lw_gi 1000 (by decide +kernel) (by decide +kernel), tyX12_ok, nmX12, rfl, rfl, by decide +kernel⟩
theorem gX12_37 : Fq RX12 37 10 11 (.array .int) := ⟨RX12, TX12, 30, tyX12, rfl, by decide, uX12, lw_gi 1001 (by decide +kernel) (by decide +kernel), tyX12_ok, nmX12, rfl, rfl, by decide +kernel⟩
theorem gX12_40 : Fq RX12 40 10 21 (.array .long) := ⟨RX12, TX12, 30, tyX12, rfl, by decide, uX12, lw_gi 1011 (by decide +kernel) (by decide +kernel), tyX12_ok, nmX12, rfl, rfl, by decide +kernel⟩
theorem gX12_44 : Fq RX12 44 10 22 (.array .long) := ⟨RX12, TX12, 30, tyX12, rfl, by decide, uX12, lw_gi 1012 (by decide +kernel) (by decide +kernel), tyX12_ok, nmX12, rfl, rfl, by decide +kernel⟩
theorem gX12_47 : Fq RX12 47 10 24 (.array .int) := ⟨RX12, TX12, 30, tyX12, rfl, by decide, uX12, lw_gi 1014 (by decide +kernel) (by decide +kernel), tyX12_ok, nmX12, rfl, rfl, by decide +kernel⟩
theorem gX12_50 : Fq RX12 50 10 25 (.array .boolean) := ⟨RX12, TX12, 30, tyX12, rfl, by decide, uX12, lw_gi 1015 (by decide +kernel) (by decide +kernel), tyX12_ok, nmX12, rfl, rfl, by decide +kernel⟩
theorem gX12_54 : Fq RX12 54 10 26 (.array .boolean) := ⟨RX12, TX12, 30, tyX12, rfl, by decide, uX12, lw_gi 1016 (by decide +kernel) (by decide +kernel), tyX12_ok, nmX12, rfl, rfl, by decide +kernel⟩
theorem gX12_57 : Fq RX12 57 10 27 (.array .int) := ⟨RX12, TX12, 30, tyX12, rfl, by decide, uX12, lw_gi 1017 (by decide +kernel) (by decide +kernel), tyX12_ok, nmX12, rfl, rfl, by decide +kernel⟩
theorem gX12_60 : Fq RX12 60 10 28 (.array .int) := ⟨RX12, TX12, 30, tyX12, rfl, by decide, uX12, lw_gi 1018 (by decide +kernel) (by decide +kernel), tyX12_ok, nmX12, rfl, rfl, by decide +kernel⟩
def pm_X12 : List Nat := [0, 1, 2, 3, 4, 5, 6, 7, 8, 9, 10, 11, 12, 13, 14, 15, 16, 17]
def qX12 : va_G → (Nat → ClassId) → Nat → va_W → Prop := fun D cA h0 ws => ∃ ad : Nat → Nat, ad 45 = h0 ∧ pm_X12.map (fun i => ws[i]?) = ((List.range 18).map (fun k => (ad (45 + k), el (D, cA, ad) s0 (45 + k)))).map some
set_option maxRecDepth 100000 in
set_option maxHeartbeats 4000000 in
theorem vX12_init : CtI 1 mX12_init 10 [vi 0, .null, .null, .null, .null, .null, .null, .null, vi 0, .null, .null, .null, vi 0, vi 0, vi 0, vi 0, vi 0, vi 0, vi 0, vi 0, vi 0, .null, .null, vi 0, .null, .null, .null, .null, .null, vi 0] 17 2440 qX12 := by
  refine ctI_of hX12_init (by decide) rfl (fun D cA h0 => ?_)
  refine k_aload_n 0 eX12_init_0 rfl ?_
  refine k_obj eX12_init_1 (by decide) oX12_1 oJi oJc ?_
  refine k_aload_n 0 eX12_init_4 rfl ?_
  refine k_bipush eX12_init_5 rfl ?_
  refine k_newI (mc := 16) (ms := 2432) 8 eX12_init_7 oA_int (by decide) (by decide) (Nat.le_of_ble_eq_true rfl) (fun a1 => ?_)
  refine k_dup eX12_init_9 rfl ?_
  refine k_iconst eX12_init_10 ?_
  refine k_iconst eX12_init_11 ?_
  refine k_iast 0 eX12_init_12 (by decide) (by decide) (by decide) ?_
  refine k_dup eX12_init_13 rfl ?_
  refine k_iconst eX12_init_14 ?_
  refine k_iconst eX12_init_15 ?_
  refine k_iast 1 eX12_init_16 (by decide) (by decide) (by decide) ?_
  refine k_dup eX12_init_17 rfl ?_
  refine k_iconst eX12_init_18 ?_
  refine k_iconst eX12_init_19 ?_
  refine k_iast 2 eX12_init_20 (by decide) (by decide) (by decide) ?_
  refine k_dup eX12_init_21 rfl ?_
  refine k_iconst eX12_init_22 ?_
  refine k_iconst eX12_init_23 ?_
  refine k_iast 3 eX12_init_24 (by decide) (by decide) (by decide) ?_
  refine k_dup eX12_init_25 rfl ?_
  refine k_iconst eX12_init_26 ?_
  refine k_iconst eX12_init_27 ?_
  refine k_iast 4 eX12_init_28 (by decide) (by decide) (by decide) ?_
  refine k_dup eX12_init_29 rfl ?_
  refine k_iconst eX12_init_30 ?_
  refine k_iconst eX12_init_31 ?_
  refine k_iast 5 eX12_init_32 (by decide) (by decide) (by decide) ?_
  refine k_dup eX12_init_33 rfl ?_
  refine k_bipush eX12_init_34 rfl ?_
  refine k_iconst eX12_init_36 ?_
  refine k_iast 6 eX12_init_37 (by decide) (by decide) (by decide) ?_
  refine k_dup eX12_init_38 rfl ?_
  refine k_bipush eX12_init_39 rfl ?_
  refine k_iconst eX12_init_41 ?_
  refine k_iast 7 eX12_init_42 (by decide) (by decide) (by decide) ?_
  refine k_putF eX12_init_43 gX12_7 rfl rfl (Nat.le_of_ble_eq_true rfl) ?_
  refine k_aload_n 0 eX12_init_46 rfl ?_
  refine k_bipush eX12_init_47 rfl ?_
  refine k_newI (mc := 15) (ms := 2424) 8 eX12_init_49 oA_int (by decide) (by decide) (Nat.le_of_ble_eq_true rfl) (fun a2 => ?_)
  refine k_putF eX12_init_51 gX12_13 rfl rfl (Nat.le_of_ble_eq_true rfl) ?_
  refine k_aload_n 0 eX12_init_54 rfl ?_
  refine k_sipush eX12_init_55 rfl ?_
  refine k_newI (mc := 14) (ms := 2104) 320 eX12_init_58 oA_int (by decide) (by decide) (Nat.le_of_ble_eq_true rfl) (fun a3 => ?_)
  refine k_putF eX12_init_60 gX12_16 rfl rfl (Nat.le_of_ble_eq_true rfl) ?_
  refine k_aload_n 0 eX12_init_63 rfl ?_
  refine k_bipush eX12_init_64 rfl ?_
  refine k_newI (mc := 13) (ms := 2060) 44 eX12_init_66 oA_int (by decide) (by decide) (Nat.le_of_ble_eq_true rfl) (fun a4 => ?_)
  refine k_putF eX12_init_68 gX12_19 rfl rfl (Nat.le_of_ble_eq_true rfl) ?_
  refine k_aload_n 0 eX12_init_71 rfl ?_
  refine k_bipush eX12_init_72 rfl ?_
  refine k_newI (mc := 12) (ms := 2016) 44 eX12_init_74 oA_int (by decide) (by decide) (Nat.le_of_ble_eq_true rfl) (fun a5 => ?_)
  refine k_putF eX12_init_76 gX12_22 rfl rfl (Nat.le_of_ble_eq_true rfl) ?_
  refine k_aload_n 0 eX12_init_79 rfl ?_
  refine k_bipush eX12_init_80 rfl ?_
  refine k_newI (mc := 11) (ms := 1972) 44 eX12_init_82 oA_int (by decide) (by decide) (Nat.le_of_ble_eq_true rfl) (fun a6 => ?_)
  refine k_putF eX12_init_84 gX12_25 rfl rfl (Nat.le_of_ble_eq_true rfl) ?_
  refine k_aload_n 0 eX12_init_87 rfl ?_
  refine k_sipush eX12_init_88 rfl ?_
  refine k_newI (mc := 10) (ms := 916) 1056 eX12_init_91 oA_int (by decide) (by decide) (Nat.le_of_ble_eq_true rfl) (fun a7 => ?_)
  refine k_putF eX12_init_93 gX12_28 rfl rfl (Nat.le_of_ble_eq_true rfl) ?_
  refine k_aload_n 0 eX12_init_96 rfl ?_
  refine k_sipush eX12_init_97 rfl ?_
  refine k_newI (mc := 9) (ms := 616) 300 eX12_init_100 oA_int (by decide) (by decide) (Nat.le_of_ble_eq_true rfl) (fun a8 => ?_)
  refine k_putF eX12_init_102 gX12_31 rfl rfl (Nat.le_of_ble_eq_true rfl) ?_
  refine k_aload_n 0 eX12_init_105 rfl ?_
  refine k_sipush eX12_init_106 rfl ?_
  refine k_newI (mc := 8) (ms := 316) 300 eX12_init_109 oA_int (by decide) (by decide) (Nat.le_of_ble_eq_true rfl) (fun a9 => ?_)
  refine k_putF eX12_init_111 gX12_34 rfl rfl (Nat.le_of_ble_eq_true rfl) ?_
  refine k_aload_n 0 eX12_init_114 rfl ?_
  refine k_bipush eX12_init_115 rfl ?_
  refine k_newI (mc := 7) (ms := 196) 120 eX12_init_117 oA_int (by decide) (by decide) (Nat.le_of_ble_eq_true rfl) (fun a10 => ?_)
  refine k_putF eX12_init_119 gX12_37 rfl rfl (Nat.le_of_ble_eq_true rfl) ?_
  refine k_aload_n 0 eX12_init_122 rfl ?_
  refine k_iconst eX12_init_123 ?_
  refine k_newJ (mc := 6) (ms := 192) 4 eX12_init_124 oA_long (by decide) (by decide) (Nat.le_of_ble_eq_true rfl) (fun a11 => ?_)
  refine k_putF eX12_init_126 gX12_40 rfl rfl (Nat.le_of_ble_eq_true rfl) ?_
  refine k_aload_n 0 eX12_init_129 rfl ?_
  refine k_iconst eX12_init_130 ?_
  refine k_newJ (mc := 5) (ms := 188) 4 eX12_init_131 oA_long (by decide) (by decide) (Nat.le_of_ble_eq_true rfl) (fun a12 => ?_)
  refine k_putF eX12_init_133 gX12_44 rfl rfl (Nat.le_of_ble_eq_true rfl) ?_
  refine k_aload_n 0 eX12_init_136 rfl ?_
  refine k_bipush eX12_init_137 rfl ?_
  refine k_newI (mc := 4) (ms := 147) 41 eX12_init_139 oA_int (by decide) (by decide) (Nat.le_of_ble_eq_true rfl) (fun a13 => ?_)
  refine k_putF eX12_init_141 gX12_47 rfl rfl (Nat.le_of_ble_eq_true rfl) ?_
  refine k_aload_n 0 eX12_init_144 rfl ?_
  refine k_bipush eX12_init_145 rfl ?_
  refine k_newZ (mc := 3) (ms := 106) 41 eX12_init_147 oA_boolean (by decide) (by decide) (Nat.le_of_ble_eq_true rfl) (fun a14 => ?_)
  refine k_putF eX12_init_149 gX12_50 rfl rfl (Nat.le_of_ble_eq_true rfl) ?_
  refine k_aload_n 0 eX12_init_152 rfl ?_
  refine k_iconst eX12_init_153 ?_
  refine k_newZ (mc := 2) (ms := 104) 2 eX12_init_154 oA_boolean (by decide) (by decide) (Nat.le_of_ble_eq_true rfl) (fun a15 => ?_)
  refine k_putF eX12_init_156 gX12_54 rfl rfl (Nat.le_of_ble_eq_true rfl) ?_
  refine k_aload_n 0 eX12_init_159 rfl ?_
  refine k_bipush eX12_init_160 rfl ?_
  refine k_newI (mc := 1) (ms := 16) 88 eX12_init_162 oA_int (by decide) (by decide) (Nat.le_of_ble_eq_true rfl) (fun a16 => ?_)
  refine k_putF eX12_init_164 gX12_57 rfl rfl (Nat.le_of_ble_eq_true rfl) ?_
  refine k_aload_n 0 eX12_init_167 rfl ?_
  refine k_bipush eX12_init_168 rfl ?_
  refine k_newI (mc := 0) (ms := 0) 16 eX12_init_170 oA_int (by decide) (by decide) (Nat.le_of_ble_eq_true rfl) (fun a17 => ?_)
  refine k_putF eX12_init_172 gX12_60 rfl rfl (Nat.le_of_ble_eq_true rfl) ?_
  refine k_ret eX12_init_175 ⟨fun k => ([h0, a1, a2, a3, a4, a5, a6, a7, a8, a9, a10, a11, a12, a13, a14, a15, a16, a17] : List Nat).getD (k - 45) 0, rfl, ?_⟩
  rw [ln8_eq]
  refine Eq.trans ?_ (congrArg (List.map some) (wl_18 (D, cA, fun k => ([h0, a1, a2, a3, a4, a5, a6, a7, a8, a9, a10, a11, a12, a13, a14, a15, a16, a17] : List Nat).getD (k - 45) 0))).symm
  rfl
theorem nL_7 : Nwk RL 7 9 13 [.null, .null, .null, .null, .null, .null, .null, .null, .null, .null, .null, vi 0, vi 0] := ⟨RX11, TX11, tyX11, rfl, uX11, tyX11_ok, lw_gi 77 (by decide +kernel) (by decide +kernel), lw_gi 78 (by decide +kernel) (by decide +kernel), lw_gi 61 (by decide +kernel) (by decide +kernel), fun j hj => by rcases (show j = 0 ∨ j = 1 ∨ j = 2 ∨ j = 3 ∨ j = 4 ∨ j = 5 ∨ j = 6 ∨ j = 7 ∨ j = 8 ∨ j = 9 ∨ j = 10 ∨ j = 11 ∨ j = 12 by omega) with rfl | rfl | rfl | rfl | rfl | rfl | rfl | rfl | rfl | rfl | rfl | rfl | rfl <;> rfl⟩
theorem nL_10 : Nwk RL 10 10 30 [vi 0, .null, .null, .null, .null, .null, .null, .null, vi 0, .null, .null, .null, vi 0, vi 0, vi 0, vi 0, vi 0, vi 0, vi 0, vi 0, vi 0, .null, .null, vi 0, .null, .null, .null, .null, .null, vi 0] := ⟨RX12, TX12, tyX12, rfl, uX12, tyX12_ok, lw_gi 984 (by decide +kernel) (by decide +kernel), lw_gi 985 (by decide +kernel) (by decide +kernel), lw_gi 71 (by decide +kernel) (by decide +kernel), fun j hj => by rcases (show j = 0 ∨ j = 1 ∨ j = 2 ∨ j = 3 ∨ j = 4 ∨ j = 5 ∨ j = 6 ∨ j = 7 ∨ j = 8 ∨ j = 9 ∨ j = 10 ∨ j = 11 ∨ j = 12 ∨ j = 13 ∨ j = 14 ∨ j = 15 ∨ j = 16 ∨ j = 17 ∨ j = 18 ∨ j = 19 ∨ j = 20 ∨ j = 21 ∨ j = 22 ∨ j = 23 ∨ j = 24 ∨ j = 25 ∨ j = 26 ∨ j = 27 ∨ j = 28 ∨ j = 29 by omega) with rfl | rfl | rfl | rfl | rfl | rfl | rfl | rfl | rfl | rfl | rfl | rfl | rfl | rfl | rfl | rfl | rfl | rfl | rfl | rfl | rfl | rfl | rfl | rfl | rfl | rfl | rfl | rfl | rfl | rfl <;> rfl⟩
theorem iL_9 : CkI RL 9 mX11_init := ⟨lw_gi 79 (by decide +kernel) (by decide +kernel), lw_gi 80 (by decide +kernel) (by decide +kernel), lw_gi 81 (by decide +kernel) (by decide +kernel), lw_gi 61 (by decide +kernel) (by decide +kernel), rfl, ⟨by decide +kernel, by decide +kernel, by decide +kernel⟩, by decide, rfl⟩
theorem iL_12 : CkI RL 12 mX12_init := ⟨lw_gi 986 (by decide +kernel) (by decide +kernel), lw_gi 987 (by decide +kernel) (by decide +kernel), lw_gi 988 (by decide +kernel) (by decide +kernel), lw_gi 71 (by decide +kernel) (by decide +kernel), rfl, ⟨by decide +kernel, by decide +kernel, by decide +kernel⟩, by decide, rfl⟩
