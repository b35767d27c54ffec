/-! the constructors: names, links -/
theorem oJi : Cond.instanceMethod objectInit ∈ lw_good := lw_gi 83 (by decide +kernel) (by decide +kernel)
theorem oJc : Cond.code objectInit ⟨#[0xb1]⟩ 1 none ∈ lw_good := lw_gi 84 (by decide +kernel) (by decide +kernel)
theorem oA_int : Cond.arrayClass .int ∈ lw_good := lw_gi 101 (by decide +kernel) (by decide +kernel)
theorem oA_long : Cond.arrayClass .long ∈ lw_good := lw_gi 193 (by decide +kernel) (by decide +kernel)
theorem oA_boolean : Cond.arrayClass .boolean ∈ lw_good := lw_gi 1081 (by decide +kernel) (by decide +kernel)
theorem oX3_9 : Cond.classLink RX3 9 ("[" ++ (FieldType.array .int).toString) ∈ lw_good := lw_gi 162 (by decide +kernel) (by decide +kernel)
abbrev mX0_init : Mth := (RX0, yX0_init, cX0_init, 1, none)
theorem oX0_1 : Cond.methodLink RX0 1 objectInit ∈ lw_good := lw_gi 129 (by decide +kernel) (by decide +kernel)
theorem hX0_init : plainName yX0_init.cls = true ∧ yX0_init.cls = RX0 ∧ yX0_init.name = "<init>" := ⟨by decide +kernel, rfl, rfl⟩
abbrev mX2_init : Mth := (RX2, yX2_init, cX2_init, 1, none)
theorem oX2_1 : Cond.methodLink RX2 1 objectInit ∈ lw_good := lw_gi 199 (by decide +kernel) (by decide +kernel)
theorem hX2_init : plainName yX2_init.cls = true ∧ yX2_init.cls = RX2 ∧ yX2_init.name = "<init>" := ⟨by decide +kernel, rfl, rfl⟩
abbrev mX3_init : Mth := (RX3, yX3_init, cX3_init, 1, none)
theorem oX3_1 : Cond.methodLink RX3 1 objectInit ∈ lw_good := lw_gi 161 (by decide +kernel) (by decide +kernel)
theorem hX3_init : plainName yX3_init.cls = true ∧ yX3_init.cls = RX3 ∧ yX3_init.name = "<init>" := ⟨by decide +kernel, rfl, rfl⟩
abbrev mX4_init : Mth := (RX4, yX4_init, cX4_init, 1, none)
theorem oX4_1 : Cond.methodLink RX4 1 objectInit ∈ lw_good := lw_gi 228 (by decide +kernel) (by decide +kernel)
theorem hX4_init : plainName yX4_init.cls = true ∧ yX4_init.cls = RX4 ∧ yX4_init.name = "<init>" := ⟨by decide +kernel, rfl, rfl⟩
abbrev mX5_init : Mth := (RX5, yX5_init, cX5_init, 1, none)
theorem oX5_1 : Cond.methodLink RX5 1 objectInit ∈ lw_good := lw_gi 215 (by decide +kernel) (by decide +kernel)
theorem hX5_init : plainName yX5_init.cls = true ∧ yX5_init.cls = RX5 ∧ yX5_init.name = "<init>" := ⟨by decide +kernel, rfl, rfl⟩
abbrev mX6_init : Mth := (RX6, yX6_init, cX6_init, 1, none)
theorem oX6_1 : Cond.methodLink RX6 1 objectInit ∈ lw_good := lw_gi 139 (by decide +kernel) (by decide +kernel)
theorem hX6_init : plainName yX6_init.cls = true ∧ yX6_init.cls = RX6 ∧ yX6_init.name = "<init>" := ⟨by decide +kernel, rfl, rfl⟩
abbrev mX8_init : Mth := (RX8, yX8_init, cX8_init, 2, none)
theorem oX8_1 : Cond.methodLink RX8 1 objectInit ∈ lw_good := lw_gi 90 (by decide +kernel) (by decide +kernel)
theorem hX8_init : plainName yX8_init.cls = true ∧ yX8_init.cls = RX8 ∧ yX8_init.name = "<init>" := ⟨by decide +kernel, rfl, rfl⟩
abbrev mX9_init : Mth := (RX9, yX9_init, cX9_init, 1, none)
theorem oX9_1 : Cond.methodLink RX9 1 objectInit ∈ lw_good := lw_gi 179 (by decide +kernel) (by decide +kernel)
theorem hX9_init : plainName yX9_init.cls = true ∧ yX9_init.cls = RX9 ∧ yX9_init.name = "<init>" := ⟨by decide +kernel, rfl, rfl⟩
abbrev mX10_init : Mth := (RX10, yX10_init, cX10_init, 1, none)
theorem oX10_1 : Cond.methodLink RX10 1 objectInit ∈ lw_good := lw_gi 107 (by decide +kernel) (by decide +kernel)
theorem hX10_init : plainName yX10_init.cls = true ∧ yX10_init.cls = RX10 ∧ yX10_init.name = "<init>" := ⟨by decide +kernel, rfl, rfl⟩
abbrev mX11_init : Mth := (RX11, yX11_init, cX11_init, 1, none)
theorem oX11_1 : Cond.methodLink RX11 1 objectInit ∈ lw_good := lw_gi 82 (by decide +kernel) (by decide +kernel)
theorem hX11_init : plainName yX11_init.cls = true ∧ yX11_init.cls = RX11 ∧ yX11_init.name = "<init>" := ⟨by decide +kernel, rfl, rfl⟩
abbrev mX12_init : Mth := (RX12, yX12_init, cX12_init, 1, none)
theorem oX12_1 : Cond.methodLink RX12 1 objectInit ∈ lw_good := lw_gi 989 (by decide +kernel) (by decide +kernel)
theorem hX12_init : plainName yX12_init.cls = true ∧ yX12_init.cls = RX12 ∧ yX12_init.name = "<init>" := ⟨by decide +kernel, rfl, rfl⟩
def ln8 : Nat → Int32 := fun j => Int32.ofInt (if j < 8 then -1 else 0)
theorem ln8_eq : upd (upd (upd (upd (upd (upd (upd (upd (fun _ => Int32.ofInt 0) 0 (Int32.ofInt (-1))) 1 (Int32.ofInt (-1))) 2 (Int32.ofInt (-1))) 3 (Int32.ofInt (-1))) 4 (Int32.ofInt (-1))) 5 (Int32.ofInt (-1))) 6 (Int32.ofInt (-1))) 7 (Int32.ofInt (-1)) = ln8 := by
  funext j
  match j with
  | 0 => rfl
  | 1 => rfl
  | 2 => rfl
  | 3 => rfl
  | 4 => rfl
  | 5 => rfl
  | 6 => rfl
  | 7 => rfl
  | j + 8 =>
    have h : ∀ k, k < 8 → ¬ j + 8 = k := fun k hk => by omega
    unfold upd ln8
    rw [if_neg (h 7 (by omega)), if_neg (h 6 (by omega)), if_neg (h 5 (by omega)), if_neg (h 4 (by omega)), if_neg (h 3 (by omega)), if_neg (h 2 (by omega)), if_neg (h 1 (by omega)), if_neg (h 0 (by omega)), if_neg (by omega)]
theorem gX0_9 : Fq RX0 9 0 0 (.array .int) := ⟨RX0, TX0, 1, tyX0, rfl, by decide, uX0, lw_gi 130 (by decide +kernel) (by decide +kernel), tyX0_ok, nmX0, rfl, rfl, by decide +kernel⟩
def qX0 : va_G → (Nat → ClassId) → Nat → va_W → Prop := fun _ cA h0 ws => ∃ (a1 : Nat), ws = [(h0, .inr (0, [.ref a1])), (a1, .inl (cA 1, 44, .inl (fun _ => Int32.ofInt 0)))]
set_option maxRecDepth 100000 in
theorem vX0_init : CtI 1 mX0_init 0 [.null] 1 44 qX0 := by
  refine ctI_of hX0_init (by decide) rfl (fun D cA h0 => ?_)
  refine k_aload_n 0 eX0_init_0 rfl ?_
  refine k_obj eX0_init_1 (by decide) oX0_1 oJi oJc ?_
  refine k_aload_n 0 eX0_init_4 rfl ?_
  refine k_bipush eX0_init_5 rfl ?_
  refine k_newI (mc := 0) (ms := 0) 44 eX0_init_7 oA_int (by decide) (by decide) (Nat.le_of_ble_eq_true rfl) (fun a1 => ?_)
  refine k_putF eX0_init_9 gX0_9 rfl rfl (Nat.le_of_ble_eq_true rfl) ?_
  exact k_ret eX0_init_12 ⟨a1, rfl⟩
theorem gX2_9 : Fq RX2 9 1 0 (.array .int) := ⟨RX2, TX2, 3, tyX2, rfl, by decide, uX2, lw_gi 200 (by decide +kernel) (by decide +kernel), tyX2_ok, nmX2, rfl, rfl, by decide +kernel⟩
theorem gX2_15 : Fq RX2 15 1 1 (.array .int) := ⟨RX2, TX2, 3, tyX2, rfl, by decide, uX2, lw_gi 201 (by decide +kernel) (by decide +kernel), tyX2_ok, nmX2, rfl, rfl, by decide +kernel⟩
def qX2 : va_G → (Nat → ClassId) → Nat → va_W → Prop := fun _ cA h0 ws => ∃ (a1 : Nat) (a2 : Nat), ws = [(h0, .inr (1, [.ref a1, .ref a2, vi 0])), (a1, .inl (cA 1, 40, .inl (fun _ => Int32.ofInt 0))), (a2, .inl (cA 1, 41, .inl (fun _ => Int32.ofInt 0)))]
set_option maxRecDepth 100000 in
theorem vX2_init : CtI 1 mX2_init 1 [.null, .null, vi 0] 2 81 qX2 := by
  refine ctI_of hX2_init (by decide) rfl (fun D cA h0 => ?_)
  refine k_aload_n 0 eX2_init_0 rfl ?_
  refine k_obj eX2_init_1 (by decide) oX2_1 oJi oJc ?_
  refine k_aload_n 0 eX2_init_4 rfl ?_
  refine k_bipush eX2_init_5 rfl ?_
  refine k_newI (mc := 1) (ms := 41) 40 eX2_init_7 oA_int (by decide) (by decide) (Nat.le_of_ble_eq_true rfl) (fun a1 => ?_)
  refine k_putF eX2_init_9 gX2_9 rfl rfl (Nat.le_of_ble_eq_true rfl) ?_
  refine k_aload_n 0 eX2_init_12 rfl ?_
  refine k_bipush eX2_init_13 rfl ?_
  refine k_newI (mc := 0) (ms := 0) 41 eX2_init_15 oA_int (by decide) (by decide) (Nat.le_of_ble_eq_true rfl) (fun a2 => ?_)
  refine k_putF eX2_init_17 gX2_15 rfl rfl (Nat.le_of_ble_eq_true rfl) ?_
  refine k_aload_n 0 eX2_init_20 rfl ?_
  refine k_iconst eX2_init_21 ?_
  refine k_put eX2_init_22 pX2_18 rfl rfl (Nat.le_of_ble_eq_true rfl) ?_
  exact k_ret eX2_init_25 ⟨a1, a2, rfl⟩
theorem gX3_11 : Fq RX3 11 2 0 (.array (.array .int)) := ⟨RX3, TX3, 3, tyX3, rfl, by decide, uX3, lw_gi 164 (by decide +kernel) (by decide +kernel), tyX3_ok, nmX3, rfl, rfl, by decide +kernel⟩
theorem gX3_14 : Fq RX3 14 2 1 (.array (.array .int)) := ⟨RX3, TX3, 3, tyX3, rfl, by decide, uX3, lw_gi 165 (by decide +kernel) (by decide +kernel), tyX3_ok, nmX3, rfl, rfl, by decide +kernel⟩
theorem gX3_17 : Fq RX3 17 2 2 (.array .int) := ⟨RX3, TX3, 3, tyX3, rfl, by decide, uX3, lw_gi 166 (by decide +kernel) (by decide +kernel), tyX3_ok, nmX3, rfl, rfl, by decide +kernel⟩
def qX3 : va_G → (Nat → ClassId) → Nat → va_W → Prop := fun _ cA h0 ws => ∃ (a1 : Nat) (r1 : Nat → Nat) (a2 : Nat) (r2 : Nat → Nat) (a3 : Nat), ws = [(h0, .inr (2, [.ref a1, .ref a2, .ref a3])), (a1, .inl (cA 4, 7, .inr (.inr (.inr (.inr (out7 r1))))))] ++ in7 (cA 1) r1 ++ [(a2, .inl (cA 4, 7, .inr (.inr (.inr (.inr (out7 r2))))))] ++ in7 (cA 1) r2 ++ [(a3, .inl (cA 1, 7, .inl (fun _ => Int32.ofInt 0)))]
set_option maxRecDepth 100000 in
theorem vX3_init : CtI 1 mX3_init 2 [.null, .null, .null] 17 4221 qX3 := by
  refine ctI_of hX3_init (by decide) rfl (fun D cA h0 => ?_)
  refine k_aload_n 0 eX3_init_0 rfl ?_
  refine k_obj eX3_init_1 (by decide) oX3_1 oJi oJc ?_
  refine k_aload_n 0 eX3_init_4 rfl ?_
  refine k_bipush eX3_init_5 rfl ?_
  refine k_sipush eX3_init_7 rfl ?_
  refine k_mna (mc := 9) (ms := 2114) eX3_init_10 oX3_9 oA_int (fun a1 r1 => ?_)
  refine k_putF eX3_init_14 gX3_11 rfl rfl (Nat.le_of_ble_eq_true rfl) ?_
  refine k_aload_n 0 eX3_init_17 rfl ?_
  refine k_bipush eX3_init_18 rfl ?_
  refine k_sipush eX3_init_20 rfl ?_
  refine k_mna (mc := 1) (ms := 7) eX3_init_23 oX3_9 oA_int (fun a2 r2 => ?_)
  refine k_putF eX3_init_27 gX3_14 rfl rfl (Nat.le_of_ble_eq_true rfl) ?_
  refine k_aload_n 0 eX3_init_30 rfl ?_
  refine k_bipush eX3_init_31 rfl ?_
  refine k_newI (mc := 0) (ms := 0) 7 eX3_init_33 oA_int (by decide) (by decide) (Nat.le_of_ble_eq_true rfl) (fun a3 => ?_)
  refine k_putF eX3_init_35 gX3_17 rfl rfl (Nat.le_of_ble_eq_true rfl) ?_
  exact k_ret eX3_init_38 ⟨a1, r1, a2, r2, a3, rfl⟩
theorem gX4_9 : Fq RX4 9 3 0 (.array .int) := ⟨RX4, TX4, 2, tyX4, rfl, by decide, uX4, lw_gi 229 (by decide +kernel) (by decide +kernel), tyX4_ok, nmX4, rfl, rfl, by decide +kernel⟩
def qX4 : va_G → (Nat → ClassId) → Nat → va_W → Prop := fun _ cA h0 ws => ∃ (a1 : Nat), ws = [(h0, .inr (3, [.ref a1, vi 0])), (a1, .inl (cA 1, 16, .inl (fun _ => Int32.ofInt 0)))]
set_option maxRecDepth 100000 in
theorem vX4_init : CtI 1 mX4_init 3 [.null, vi 0] 1 16 qX4 := by
  refine ctI_of hX4_init (by decide) rfl (fun D cA h0 => ?_)
  refine k_aload_n 0 eX4_init_0 rfl ?_
  refine k_obj eX4_init_1 (by decide) oX4_1 oJi oJc ?_
  refine k_aload_n 0 eX4_init_4 rfl ?_
  refine k_bipush eX4_init_5 rfl ?_
  refine k_newI (mc := 0) (ms := 0) 16 eX4_init_7 oA_int (by decide) (by decide) (Nat.le_of_ble_eq_true rfl) (fun a1 => ?_)
  refine k_putF eX4_init_9 gX4_9 rfl rfl (Nat.le_of_ble_eq_true rfl) ?_
  refine k_aload_n 0 eX4_init_12 rfl ?_
  refine k_iconst eX4_init_13 ?_
  refine k_put eX4_init_14 pX4_13 rfl rfl (Nat.le_of_ble_eq_true rfl) ?_
  exact k_ret eX4_init_17 ⟨a1, rfl⟩
theorem gX5_9 : Fq RX5 9 4 0 (.array .long) := ⟨RX5, TX5, 2, tyX5, rfl, by decide, uX5, lw_gi 216 (by decide +kernel) (by decide +kernel), tyX5_ok, nmX5, rfl, rfl, by decide +kernel⟩
def qX5 : va_G → (Nat → ClassId) → Nat → va_W → Prop := fun _ cA h0 ws => ∃ (a1 : Nat), ws = [(h0, .inr (4, [.ref a1, vl 1])), (a1, .inl (cA 2, 41, .inr (.inl (fun _ => Int64.ofInt 0))))]
set_option maxRecDepth 100000 in
theorem vX5_init : CtI 1 mX5_init 4 [.null, vl 0] 1 41 qX5 := by
  refine ctI_of hX5_init (by decide) rfl (fun D cA h0 => ?_)
  refine k_aload_n 0 eX5_init_0 rfl ?_
  refine k_obj eX5_init_1 (by decide) oX5_1 oJi oJc ?_
  refine k_aload_n 0 eX5_init_4 rfl ?_
  refine k_bipush eX5_init_5 rfl ?_
  refine k_newJ (mc := 0) (ms := 0) 41 eX5_init_7 oA_long (by decide) (by decide) (Nat.le_of_ble_eq_true rfl) (fun a1 => ?_)
  refine k_putF eX5_init_9 gX5_9 rfl rfl (Nat.le_of_ble_eq_true rfl) ?_
  refine k_aload_n 0 eX5_init_12 rfl ?_
  refine k_lconst 1 eX5_init_13 rfl ?_
  refine k_put eX5_init_14 pX5_13 rfl rfl (Nat.le_of_ble_eq_true rfl) ?_
  exact k_ret eX5_init_17 ⟨a1, rfl⟩
theorem gX6_11 : Fq RX6 11 5 0 (.array .int) := ⟨RX6, TX6, 5, tyX6, rfl, by decide, uX6, lw_gi 140 (by decide +kernel) (by decide +kernel), tyX6_ok, nmX6, rfl, rfl, by decide +kernel⟩
theorem gX6_15 : Fq RX6 15 5 1 (.array .int) := ⟨RX6, TX6, 5, tyX6, rfl, by decide, uX6, lw_gi 141 (by decide +kernel) (by decide +kernel), tyX6_ok, nmX6, rfl, rfl, by decide +kernel⟩
def qX6 : va_G → (Nat → ClassId) → Nat → va_W → Prop := fun _ cA h0 ws => ∃ (a1 : Nat) (a2 : Nat), ws = [(h0, .inr (5, [.ref a1, .ref a2, vi 0, vi 0, vi 0])), (a1, .inl (cA 1, 1056, .inl (fun _ => Int32.ofInt 0))), (a2, .inl (cA 1, 88, .inl (fun _ => Int32.ofInt 0)))]
set_option maxRecDepth 100000 in
theorem vX6_init : CtI 1 mX6_init 5 [.null, .null, vi 0, vi 0, vi 0] 2 1144 qX6 := by
  refine ctI_of hX6_init (by decide) rfl (fun D cA h0 => ?_)
  refine k_aload_n 0 eX6_init_0 rfl ?_
  refine k_obj eX6_init_1 (by decide) oX6_1 oJi oJc ?_
  refine k_aload_n 0 eX6_init_4 rfl ?_
  refine k_sipush eX6_init_5 rfl ?_
  refine k_newI (mc := 1) (ms := 88) 1056 eX6_init_8 oA_int (by decide) (by decide) (Nat.le_of_ble_eq_true rfl) (fun a1 => ?_)
  refine k_putF eX6_init_10 gX6_11 rfl rfl (Nat.le_of_ble_eq_true rfl) ?_
  refine k_aload_n 0 eX6_init_13 rfl ?_
  refine k_bipush eX6_init_14 rfl ?_
  refine k_newI (mc := 0) (ms := 0) 88 eX6_init_16 oA_int (by decide) (by decide) (Nat.le_of_ble_eq_true rfl) (fun a2 => ?_)
  refine k_putF eX6_init_18 gX6_15 rfl rfl (Nat.le_of_ble_eq_true rfl) ?_
  refine k_aload_n 0 eX6_init_21 rfl ?_
  refine k_iconst eX6_init_22 ?_
  refine k_put eX6_init_23 pX6_18 rfl rfl (Nat.le_of_ble_eq_true rfl) ?_
  refine k_aload_n 0 eX6_init_26 rfl ?_
  refine k_iconst eX6_init_27 ?_
  refine k_put eX6_init_28 pX6_22 rfl rfl (Nat.le_of_ble_eq_true rfl) ?_
  refine k_aload_n 0 eX6_init_31 rfl ?_
  refine k_iconst eX6_init_32 ?_
  refine k_put eX6_init_33 pX6_25 rfl rfl (Nat.le_of_ble_eq_true rfl) ?_
  exact k_ret eX6_init_36 ⟨a1, a2, rfl⟩
theorem gX8_9 : Fq RX8 9 6 0 (.array .int) := ⟨RX8, TX8, 3, tyX8, rfl, by decide, uX8, lw_gi 91 (by decide +kernel) (by decide +kernel), tyX8_ok, nmX8, rfl, rfl, by decide +kernel⟩
theorem gX8_13 : Fq RX8 13 6 1 (.array .int) := ⟨RX8, TX8, 3, tyX8, rfl, by decide, uX8, lw_gi 92 (by decide +kernel) (by decide +kernel), tyX8_ok, nmX8, rfl, rfl, by decide +kernel⟩
theorem gX8_16 : Fq RX8 16 6 2 (.array .int) := ⟨RX8, TX8, 3, tyX8, rfl, by decide, uX8, lw_gi 93 (by decide +kernel) (by decide +kernel), tyX8_ok, nmX8, rfl, rfl, by decide +kernel⟩
def qX8 : va_G → (Nat → ClassId) → Nat → va_W → Prop := fun _ cA h0 ws => ∃ (a1 : Nat) (a2 : Nat) (a3 : Nat), ws = [(h0, .inr (6, [.ref a1, .ref a2, .ref a3])), (a1, .inl (cA 1, 320, .inl (fun _ => Int32.ofInt 0))), (a2, .inl (cA 1, 8, .inl (fun _ => Int32.ofInt 0))), (a3, .inl (cA 1, 8, .inl ln8))]
set_option maxRecDepth 100000 in
theorem vX8_init : CtI 1 mX8_init 6 [.null, .null, .null] 3 336 qX8 := by
  refine ctI_of hX8_init (by decide) rfl (fun D cA h0 => ?_)
  refine k_aload_n 0 eX8_init_0 rfl ?_
  refine k_obj eX8_init_1 (by decide) oX8_1 oJi oJc ?_
  refine k_aload_n 0 eX8_init_4 rfl ?_
  refine k_sipush eX8_init_5 rfl ?_
  refine k_newI (mc := 2) (ms := 16) 320 eX8_init_8 oA_int (by decide) (by decide) (Nat.le_of_ble_eq_true rfl) (fun a1 => ?_)
  refine k_putF eX8_init_10 gX8_9 rfl rfl (Nat.le_of_ble_eq_true rfl) ?_
  refine k_aload_n 0 eX8_init_13 rfl ?_
  refine k_bipush eX8_init_14 rfl ?_
  refine k_newI (mc := 1) (ms := 8) 8 eX8_init_16 oA_int (by decide) (by decide) (Nat.le_of_ble_eq_true rfl) (fun a2 => ?_)
  refine k_putF eX8_init_18 gX8_13 rfl rfl (Nat.le_of_ble_eq_true rfl) ?_
  refine k_aload_n 0 eX8_init_21 rfl ?_
  refine k_bipush eX8_init_22 rfl ?_
  refine k_newI (mc := 0) (ms := 0) 8 eX8_init_24 oA_int (by decide) (by decide) (Nat.le_of_ble_eq_true rfl) (fun a3 => ?_)
  refine k_putF eX8_init_26 gX8_16 rfl rfl (Nat.le_of_ble_eq_true rfl) ?_
  refine k_iconst eX8_init_29 ?_
  refine k_istore_n (lv2 := [(1, vi 0), (0, .ref h0)]) eX8_init_30 (by decide) rfl ?_
  refine k_iload_n 0 eX8_init_31 rfl ?_
  refine k_bipush eX8_init_32 rfl ?_
  refine k_geF 50 eX8_init_34 rfl (by decide) ?_
  refine k_aload_n 1 eX8_init_37 rfl ?_
  refine k_get eX8_init_38 fX8_16 rfl ?_
  refine k_iload_n 0 eX8_init_41 rfl ?_
  refine k_iconst eX8_init_42 ?_
  refine k_iast 0 eX8_init_43 (by decide) (by decide) (by decide) ?_
  refine k_iinc (j := 0) (v := Int32.ofInt 1) (lv2 := [(1, vi 1), (0, .ref h0)]) eX8_init_44 rfl (by decide) (by decide) rfl ?_
  refine k_goto 31 eX8_init_47 rfl ?_
  refine k_iload_n 0 eX8_init_31 rfl ?_
  refine k_bipush eX8_init_32 rfl ?_
  refine k_geF 50 eX8_init_34 rfl (by decide) ?_
  refine k_aload_n 1 eX8_init_37 rfl ?_
  refine k_get eX8_init_38 fX8_16 rfl ?_
  refine k_iload_n 0 eX8_init_41 rfl ?_
  refine k_iconst eX8_init_42 ?_
  refine k_iast 1 eX8_init_43 (by decide) (by decide) (by decide) ?_
  refine k_iinc (j := 0) (v := Int32.ofInt 2) (lv2 := [(1, vi 2), (0, .ref h0)]) eX8_init_44 rfl (by decide) (by decide) rfl ?_
  refine k_goto 31 eX8_init_47 rfl ?_
  refine k_iload_n 0 eX8_init_31 rfl ?_
  refine k_bipush eX8_init_32 rfl ?_
  refine k_geF 50 eX8_init_34 rfl (by decide) ?_
  refine k_aload_n 1 eX8_init_37 rfl ?_
  refine k_get eX8_init_38 fX8_16 rfl ?_
  refine k_iload_n 0 eX8_init_41 rfl ?_
  refine k_iconst eX8_init_42 ?_
  refine k_iast 2 eX8_init_43 (by decide) (by decide) (by decide) ?_
  refine k_iinc (j := 0) (v := Int32.ofInt 3) (lv2 := [(1, vi 3), (0, .ref h0)]) eX8_init_44 rfl (by decide) (by decide) rfl ?_
  refine k_goto 31 eX8_init_47 rfl ?_
  refine k_iload_n 0 eX8_init_31 rfl ?_
  refine k_bipush eX8_init_32 rfl ?_
  refine k_geF 50 eX8_init_34 rfl (by decide) ?_
  refine k_aload_n 1 eX8_init_37 rfl ?_
  refine k_get eX8_init_38 fX8_16 rfl ?_
  refine k_iload_n 0 eX8_init_41 rfl ?_
  refine k_iconst eX8_init_42 ?_
  refine k_iast 3 eX8_init_43 (by decide) (by decide) (by decide) ?_
  refine k_iinc (j := 0) (v := Int32.ofInt 4) (lv2 := [(1, vi 4), (0, .ref h0)]) eX8_init_44 rfl (by decide) (by decide) rfl ?_
  refine k_goto 31 eX8_init_47 rfl ?_
  refine k_iload_n 0 eX8_init_31 rfl ?_
  refine k_bipush eX8_init_32 rfl ?_
  refine k_geF 50 eX8_init_34 rfl (by decide) ?_
  refine k_aload_n 1 eX8_init_37 rfl ?_
  refine k_get eX8_init_38 fX8_16 rfl ?_
  refine k_iload_n 0 eX8_init_41 rfl ?_
  refine k_iconst eX8_init_42 ?_
  refine k_iast 4 eX8_init_43 (by decide) (by decide) (by decide) ?_
  refine k_iinc (j := 0) (v := Int32.ofInt 5) (lv2 := [(1, vi 5), (0, .ref h0)]) eX8_init_44 rfl (by decide) (by decide) rfl ?_
  refine k_goto 31 eX8_init_47 rfl ?_
  refine k_iload_n 0 eX8_init_31 rfl ?_
  refine k_bipush eX8_init_32 rfl ?_
  refine k_geF 50 eX8_init_34 rfl (by decide) ?_
  refine k_aload_n 1 eX8_init_37 rfl ?_
  refine k_get eX8_init_38 fX8_16 rfl ?_
  refine k_iload_n 0 eX8_init_41 rfl ?_
  refine k_iconst eX8_init_42 ?_
  refine k_iast 5 eX8_init_43 (by decide) (by decide) (by decide) ?_
  refine k_iinc (j := 0) (v := Int32.ofInt 6) (lv2 := [(1, vi 6), (0, .ref h0)]) eX8_init_44 rfl (by decide) (by decide) rfl ?_
  refine k_goto 31 eX8_init_47 rfl ?_
  refine k_iload_n 0 eX8_init_31 rfl ?_
  refine k_bipush eX8_init_32 rfl ?_
  refine k_geF 50 eX8_init_34 rfl (by decide) ?_
  refine k_aload_n 1 eX8_init_37 rfl ?_
  refine k_get eX8_init_38 fX8_16 rfl ?_
  refine k_iload_n 0 eX8_init_41 rfl ?_
  refine k_iconst eX8_init_42 ?_
  refine k_iast 6 eX8_init_43 (by decide) (by decide) (by decide) ?_
  refine k_iinc (j := 0) (v := Int32.ofInt 7) (lv2 := [(1, vi 7), (0, .ref h0)]) eX8_init_44 rfl (by decide) (by decide) rfl ?_
  refine k_goto 31 eX8_init_47 rfl ?_
  refine k_iload_n 0 eX8_init_31 rfl ?_
  refine k_bipush eX8_init_32 rfl ?_
  refine k_geF 50 eX8_init_34 rfl (by decide) ?_
  refine k_aload_n 1 eX8_init_37 rfl ?_
  refine k_get eX8_init_38 fX8_16 rfl ?_
  refine k_iload_n 0 eX8_init_41 rfl ?_
  refine k_iconst eX8_init_42 ?_
  refine k_iast 7 eX8_init_43 (by decide) (by decide) (by decide) ?_
  refine k_iinc (j := 0) (v := Int32.ofInt 8) (lv2 := [(1, vi 8), (0, .ref h0)]) eX8_init_44 rfl (by decide) (by decide) rfl ?_
  refine k_goto 31 eX8_init_47 rfl ?_
  refine k_iload_n 0 eX8_init_31 rfl ?_
  refine k_bipush eX8_init_32 rfl ?_
  refine k_geT 50 eX8_init_34 rfl (by decide) ?_
  exact k_ret eX8_init_50 ⟨a1, a2, a3, by rw [ln8_eq]; rfl⟩
theorem gX9_9 : Fq RX9 9 7 0 (.array .long) := ⟨RX9, TX9, 4, tyX9, rfl, by decide, uX9, lw_gi 180 (by decide +kernel) (by decide +kernel), tyX9_ok, nmX9, rfl, rfl, by decide +kernel⟩
theorem gX9_15 : Fq RX9 15 7 1 (.array .long) := ⟨RX9, TX9, 4, tyX9, rfl, by decide, uX9, lw_gi 181 (by decide +kernel) (by decide +kernel), tyX9_ok, nmX9, rfl, rfl, by decide +kernel⟩
theorem gX9_18 : Fq RX9 18 7 2 (.array .int) := ⟨RX9, TX9, 4, tyX9, rfl, by decide, uX9, lw_gi 182 (by decide +kernel) (by decide +kernel), tyX9_ok, nmX9, rfl, rfl, by decide +kernel⟩
def qX9 : va_G → (Nat → ClassId) → Nat → va_W → Prop := fun _ cA h0 ws => ∃ (a1 : Nat) (a2 : Nat) (a3 : Nat), ws = [(h0, .inr (7, [.ref a1, .ref a2, .ref a3, vi 0])), (a1, .inl (cA 2, 4, .inr (.inl (fun _ => Int64.ofInt 0)))), (a2, .inl (cA 2, 4, .inr (.inl (fun _ => Int64.ofInt 0)))), (a3, .inl (cA 1, 16, .inl (fun _ => Int32.ofInt 0)))]
set_option maxRecDepth 100000 in
theorem vX9_init : CtI 1 mX9_init 7 [.null, .null, .null, vi 0] 3 24 qX9 := by
  refine ctI_of hX9_init (by decide) rfl (fun D cA h0 => ?_)
  refine k_aload_n 0 eX9_init_0 rfl ?_
  refine k_obj eX9_init_1 (by decide) oX9_1 oJi oJc ?_
  refine k_aload_n 0 eX9_init_4 rfl ?_
  refine k_iconst eX9_init_5 ?_
  refine k_newJ (mc := 2) (ms := 20) 4 eX9_init_6 oA_long (by decide) (by decide) (Nat.le_of_ble_eq_true rfl) (fun a1 => ?_)
  refine k_putF eX9_init_8 gX9_9 rfl rfl (Nat.le_of_ble_eq_true rfl) ?_
  refine k_aload_n 0 eX9_init_11 rfl ?_
  refine k_iconst eX9_init_12 ?_
  refine k_newJ (mc := 1) (ms := 16) 4 eX9_init_13 oA_long (by decide) (by decide) (Nat.le_of_ble_eq_true rfl) (fun a2 => ?_)
  refine k_putF eX9_init_15 gX9_15 rfl rfl (Nat.le_of_ble_eq_true rfl) ?_
  refine k_aload_n 0 eX9_init_18 rfl ?_
  refine k_bipush eX9_init_19 rfl ?_
  refine k_newI (mc := 0) (ms := 0) 16 eX9_init_21 oA_int (by decide) (by decide) (Nat.le_of_ble_eq_true rfl) (fun a3 => ?_)
  refine k_putF eX9_init_23 gX9_18 rfl rfl (Nat.le_of_ble_eq_true rfl) ?_
  refine k_aload_n 0 eX9_init_26 rfl ?_
  refine k_iconst eX9_init_27 ?_
  refine k_put eX9_init_28 pX9_22 rfl rfl (Nat.le_of_ble_eq_true rfl) ?_
  exact k_ret eX9_init_31 ⟨a1, a2, a3, rfl⟩
theorem gX10_9 : Fq RX10 9 8 0 (.array .int) := ⟨RX10, TX10, 5, tyX10, rfl, by decide, uX10, lw_gi 108 (by decide +kernel) (by decide +kernel), tyX10_ok, nmX10, rfl, rfl, by decide +kernel⟩
def qX10 : va_G → (Nat → ClassId) → Nat → va_W → Prop := fun _ cA h0 ws => ∃ (a1 : Nat), ws = [(h0, .inr (8, [.ref a1, vi 0, vi 0, vi 0, vi 0])), (a1, .inl (cA 1, 120, .inl (fun _ => Int32.ofInt 0)))]
set_option maxRecDepth 100000 in
theorem vX10_init : CtI 1 mX10_init 8 [.null, vi 0, vi 0, vi 0, vi 0] 1 120 qX10 := by
  refine ctI_of hX10_init (by decide) rfl (fun D cA h0 => ?_)
  refine k_aload_n 0 eX10_init_0 rfl ?_
  refine k_obj eX10_init_1 (by decide) oX10_1 oJi oJc ?_
  refine k_aload_n 0 eX10_init_4 rfl ?_
  refine k_bipush eX10_init_5 rfl ?_
  refine k_newI (mc := 0) (ms := 0) 120 eX10_init_7 oA_int (by decide) (by decide) (Nat.le_of_ble_eq_true rfl) (fun a1 => ?_)
  refine k_putF eX10_init_9 gX10_9 rfl rfl (Nat.le_of_ble_eq_true rfl) ?_
  refine k_aload_n 0 eX10_init_12 rfl ?_
  refine k_iconst eX10_init_13 ?_
  refine k_put eX10_init_14 pX10_13 rfl rfl (Nat.le_of_ble_eq_true rfl) ?_
  refine k_aload_n 0 eX10_init_17 rfl ?_
  refine k_iconst eX10_init_18 ?_
  refine k_put eX10_init_19 pX10_17 rfl rfl (Nat.le_of_ble_eq_true rfl) ?_
  refine k_aload_n 0 eX10_init_22 rfl ?_
  refine k_iconst eX10_init_23 ?_
  refine k_put eX10_init_24 pX10_20 rfl rfl (Nat.le_of_ble_eq_true rfl) ?_
  refine k_aload_n 0 eX10_init_27 rfl ?_
  refine k_iconst eX10_init_28 ?_
  refine k_put eX10_init_29 pX10_23 rfl rfl (Nat.le_of_ble_eq_true rfl) ?_
  exact k_ret eX10_init_32 ⟨a1, rfl⟩
