/-! Rows (cells 1, 12, 13, 14), Memory (6, 19, 20), Checked -/
def R32 (x : Int) : Prop := -2147483648 ≤ x ∧ x ≤ 2147483647
def RwC (σ : St) : Prop := ∀ r, r < 8 → (-1 ≤ σ 14 r ∧ σ 14 r ≤ 2) ∧ (0 ≤ σ 13 r ∧ σ 13 r ≤ 40)
def cntN (f : Nat → Int) : Nat → Nat
  | 0 => 0
  | n + 1 => cntN f n + (if f n = -1 then 0 else 1)
theorem cntN_le (f : Nat → Int) (n : Nat) : cntN f n ≤ n := by
  induction n with
  | zero => exact Nat.le_refl _
  | succ n ih => unfold cntN; split <;> omega
/-- an item as the lane keeps it -/
def kp (l v : Int) : Int := if l = 0 then iB v else if l = 1 then iS v else v
set_option maxRecDepth 20000 in
theorem c_isRow {d : Nat} {σ : St} {x : Int} (hx : -2147483648 ≤ x ∧ x ≤ 2147483647) : Ct (d) mX8_isRow [vi x] σ (rt (vi (bI (0 ≤ x ∧ x < 8))) σ) := by
  refine ct_of hX8_isRow (Nat.le_of_ble_eq_true rfl) ?_
  refine ev_iload_n eX8_isRow_0 rfl ?_
  refine ev_if_lt 14 eX8_isRow_1 rfl (by omega) (fun h1 => ?_) (fun h1 => ?_)
  · skip
    refine ev_iconst eX8_isRow_14 ?_
    refine ev_zret eX8_isRow_15 rfl (by first | exact Or.inl rfl | exact Or.inr rfl | exact bI01 _) ?_
    exact ⟨congrArg (fun q => some (vi q)) (bI_f (by omega)), rfl⟩
  · skip
    refine ev_iload_n eX8_isRow_4 rfl ?_
    refine ev_bipush eX8_isRow_5 rfl ?_
    refine ev_icmp_ge 14 eX8_isRow_7 rfl (by omega) (by omega) (fun h7 => ?_) (fun h7 => ?_)
    · skip
      refine ev_iconst eX8_isRow_14 ?_
      refine ev_zret eX8_isRow_15 rfl (by first | exact Or.inl rfl | exact Or.inr rfl | exact bI01 _) ?_
      exact ⟨congrArg (fun q => some (vi q)) (bI_f (by omega)), rfl⟩
    · skip
      refine ev_iconst eX8_isRow_10 ?_
      refine ev_goto 15 eX8_isRow_11 rfl ?_
      refine ev_zret eX8_isRow_15 rfl (by first | exact Or.inl rfl | exact Or.inr rfl | exact bI01 _) ?_
      exact ⟨congrArg (fun q => some (vi q)) (bI_t (by omega)), rfl⟩
set_option maxRecDepth 20000 in
theorem c_isMissing {d : Nat} {σ : St} (hR : RwC σ) {r : Nat} (hr : r < 8) : Ct (d) mX8_isMissing [.ref 1, vi r] σ (rt (vi (bI (σ 14 r = -1))) σ) := by
  refine ct_of hX8_isMissing (Nat.le_of_ble_eq_true rfl) ?_
  obtain ⟨hl, hz⟩ := hR r hr
  refine ev_aload_n eX8_isMissing_0 rfl ?_
  refine ev_getr eX8_isMissing_1 fX8_16 rfl ?_
  refine ev_iload_n eX8_isMissing_4 rfl ?_
  refine ev_ialdv (r) eX8_isMissing_5 rfl (by first | rfl | omega) (by omega) rfl ?_
  refine ev_iconst eX8_isMissing_6 ?_
  refine ev_icmp_ne 14 eX8_isMissing_7 rfl (by omega) (by omega) (fun h7 => ?_) (fun h7 => ?_)
  · skip
    refine ev_iconst eX8_isMissing_14 ?_
    refine ev_zret eX8_isMissing_15 rfl (by first | exact Or.inl rfl | exact Or.inr rfl | exact bI01 _) ?_
    exact ⟨congrArg (fun q => some (vi q)) (bI_f (by omega)), rfl⟩
  · skip
    refine ev_iconst eX8_isMissing_10 ?_
    refine ev_goto 15 eX8_isMissing_11 rfl ?_
    refine ev_zret eX8_isMissing_15 rfl (by first | exact Or.inl rfl | exact Or.inr rfl | exact bI01 _) ?_
    exact ⟨congrArg (fun q => some (vi q)) (bI_t (by omega)), rfl⟩
set_option maxRecDepth 20000 in
theorem c_sizeOf {d : Nat} {σ : St} {r : Nat} (hr : r < 8) : Ct (d) mX8_sizeOf [.ref 1, vi r] σ (rt (vi (σ 13 r)) σ) := by
  refine ct_of hX8_sizeOf (Nat.le_of_ble_eq_true rfl) ?_
  refine ev_aload_n eX8_sizeOf_0 rfl ?_
  refine ev_getr eX8_sizeOf_1 fX8_13 rfl ?_
  refine ev_iload_n eX8_sizeOf_4 rfl ?_
  refine ev_ialdv (r) eX8_sizeOf_5 rfl (by first | rfl | omega) (by omega) rfl ?_
  refine ev_iret eX8_sizeOf_6 rfl ?_
  exact ⟨rfl, rfl⟩
set_option maxRecDepth 20000 in
theorem c_laneOf {d : Nat} {σ : St} {r : Nat} (hr : r < 8) : Ct (d) mX8_laneOf [.ref 1, vi r] σ (rt (vi (σ 14 r)) σ) := by
  refine ct_of hX8_laneOf (Nat.le_of_ble_eq_true rfl) ?_
  refine ev_aload_n eX8_laneOf_0 rfl ?_
  refine ev_getr eX8_laneOf_1 fX8_16 rfl ?_
  refine ev_iload_n eX8_laneOf_4 rfl ?_
  refine ev_ialdv (r) eX8_laneOf_5 rfl (by first | rfl | omega) (by omega) rfl ?_
  refine ev_iret eX8_laneOf_6 rfl ?_
  exact ⟨rfl, rfl⟩
set_option maxRecDepth 20000 in
theorem c_item {d : Nat} {σ : St} {r i : Nat} (hr : r < 8) (hi : i < 40) : Ct (d) mX8_item [.ref 1, vi r, vi i] σ (rt (vi (σ 12 (r * 40 + i))) σ) := by
  refine ct_of hX8_item (Nat.le_of_ble_eq_true rfl) ?_
  refine ev_aload_n eX8_item_0 rfl ?_
  refine ev_getr eX8_item_1 fX8_9 rfl ?_
  refine ev_iload_n eX8_item_4 rfl ?_
  refine ev_bipush eX8_item_5 rfl ?_
  refine ev_imul eX8_item_7 ?_
  refine ev_iload_n eX8_item_8 rfl ?_
  refine ev_iadd eX8_item_9 ?_
  refine ev_ialdv (((r * 40) + i)) eX8_item_10 rfl (by first | rfl | omega) (by omega) rfl ?_
  refine ev_iret eX8_item_11 rfl ?_
  exact ⟨rfl, rfl⟩
set_option maxRecDepth 20000 in
theorem c_forget {d : Nat} {σ : St} {r : Nat} (hr : r < 8) : Ct (d) mX8_forget [.ref 1, vi r] σ (rv (up (up σ 14 r (-1)) 13 r 0)) := by
  refine ct_of hX8_forget (Nat.le_of_ble_eq_true rfl) ?_
  refine ev_aload_n eX8_forget_0 rfl ?_
  refine ev_getr eX8_forget_1 fX8_16 rfl ?_
  refine ev_iload_n eX8_forget_4 rfl ?_
  refine ev_iconst eX8_forget_5 ?_
  refine ev_iast (r) eX8_forget_6 rfl (by first | rfl | omega) (by omega) ?_
  refine ev_aload_n eX8_forget_7 rfl ?_
  refine ev_getr eX8_forget_8 fX8_13 rfl ?_
  refine ev_iload_n eX8_forget_11 rfl ?_
  refine ev_iconst eX8_forget_12 ?_
  refine ev_iast (r) eX8_forget_13 rfl (by first | rfl | omega) (by omega) ?_
  refine ev_ret eX8_forget_14 rfl ?_
  exact ⟨rfl, rfl⟩
set_option maxRecDepth 20000 in
theorem c_put {d : Nat} {σ : St} {v : Int} (hR : RwC σ) {r i : Nat} (hr : r < 8) (hi : i < 40) : Ct (d) mX8_put [.ref 1, vi r, vi i, vi v] σ (rt (vi (kp (σ 14 r) v)) (up σ 12 (r * 40 + i) (kp (σ 14 r) v))) := by
  refine ct_of hX8_put (Nat.le_of_ble_eq_true rfl) ?_
  obtain ⟨hl, hz⟩ := hR r hr
  refine ev_iload_n eX8_put_0 rfl ?_
  refine ev_istore eX8_put_1 (by decide) ?_
  refine ev_aload_n eX8_put_3 rfl ?_
  refine ev_getr eX8_put_4 fX8_16 rfl ?_
  refine ev_iload_n eX8_put_7 rfl ?_
  refine ev_ialdv (r) eX8_put_8 rfl (by first | rfl | omega) (by omega) rfl ?_
  refine ev_if_ne 16 eX8_put_9 rfl (by omega) (fun h9 => ?_) (fun h9 => ?_)
  · skip
    refine ev_aload_n eX8_put_16 rfl ?_
    refine ev_getr eX8_put_17 fX8_16 rfl ?_
    refine ev_iload_n eX8_put_20 rfl ?_
    refine ev_ialdv (r) eX8_put_21 rfl (by first | rfl | omega) (by omega) rfl ?_
    refine ev_iconst eX8_put_22 ?_
    refine ev_icmp_ne 30 eX8_put_23 rfl (by omega) (by omega) (fun h23 => ?_) (fun h23 => ?_)
    · skip
      refine ev_aload_n eX8_put_30 rfl ?_
      refine ev_getr eX8_put_31 fX8_9 rfl ?_
      refine ev_iload_n eX8_put_34 rfl ?_
      refine ev_bipush eX8_put_35 rfl ?_
      refine ev_imul eX8_put_37 ?_
      refine ev_iload_n eX8_put_38 rfl ?_
      refine ev_iadd eX8_put_39 ?_
      refine ev_iload eX8_put_40 rfl ?_
      refine ev_iast (((r * 40) + i)) eX8_put_42 rfl (by first | rfl | omega) (by omega) ?_
      refine ev_iload eX8_put_43 rfl ?_
      refine ev_iret eX8_put_45 rfl ?_
      rw [show kp (σ 14 r) v = v by unfold kp; rw [if_neg (by omega), if_neg (by omega)]]
      exact ⟨rfl, rfl⟩
    · skip
      refine ev_iload_n eX8_put_26 rfl ?_
      refine ev_i2s eX8_put_27 ?_
      refine ev_istore eX8_put_28 (by decide) ?_
      refine ev_aload_n eX8_put_30 rfl ?_
      refine ev_getr eX8_put_31 fX8_9 rfl ?_
      refine ev_iload_n eX8_put_34 rfl ?_
      refine ev_bipush eX8_put_35 rfl ?_
      refine ev_imul eX8_put_37 ?_
      refine ev_iload_n eX8_put_38 rfl ?_
      refine ev_iadd eX8_put_39 ?_
      refine ev_iload eX8_put_40 rfl ?_
      refine ev_iast (((r * 40) + i)) eX8_put_42 rfl (by first | rfl | omega) (by omega) ?_
      refine ev_iload eX8_put_43 rfl ?_
      refine ev_iret eX8_put_45 rfl ?_
      rw [show kp (σ 14 r) v = iS v by unfold kp; rw [if_neg (by omega), if_pos (by omega)]]
      exact ⟨rfl, rfl⟩
  · skip
    refine ev_iload_n eX8_put_12 rfl ?_
    refine ev_i2b eX8_put_13 ?_
    refine ev_istore eX8_put_14 (by decide) ?_
    refine ev_aload_n eX8_put_16 rfl ?_
    refine ev_getr eX8_put_17 fX8_16 rfl ?_
    refine ev_iload_n eX8_put_20 rfl ?_
    refine ev_ialdv (r) eX8_put_21 rfl (by first | rfl | omega) (by omega) rfl ?_
    refine ev_iconst eX8_put_22 ?_
    refine ev_icmp_ne 30 eX8_put_23 rfl (by omega) (by omega) (fun h23 => ?_) (fun h23 => False.elim (by omega))
    refine ev_aload_n eX8_put_30 rfl ?_
    refine ev_getr eX8_put_31 fX8_9 rfl ?_
    refine ev_iload_n eX8_put_34 rfl ?_
    refine ev_bipush eX8_put_35 rfl ?_
    refine ev_imul eX8_put_37 ?_
    refine ev_iload_n eX8_put_38 rfl ?_
    refine ev_iadd eX8_put_39 ?_
    refine ev_iload eX8_put_40 rfl ?_
    refine ev_iast (((r * 40) + i)) eX8_put_42 rfl (by first | rfl | omega) (by omega) ?_
    refine ev_iload eX8_put_43 rfl ?_
    refine ev_iret eX8_put_45 rfl ?_
    rw [show kp (σ 14 r) v = iB v by unfold kp; rw [if_pos (by omega)]]
    exact ⟨rfl, rfl⟩
set_option maxRecDepth 20000 in
theorem c_spans {d : Nat} {σ : St} (hR : RwC σ) {r : Nat} (hr : r < 8) {f n : Int} (hf : -2147483648 ≤ f ∧ f ≤ 2147483647) (hn : -2147483648 ≤ n ∧ n ≤ 2147483647) : Ct (d) mX8_spans [.ref 1, vi r, vi f, vi n] σ (rt (vi (bI (0 ≤ f ∧ 0 ≤ n ∧ f ≤ σ 13 r ∧ n ≤ σ 13 r - f))) σ) := by
  refine ct_of hX8_spans (Nat.le_of_ble_eq_true rfl) ?_
  obtain ⟨hl, hz⟩ := hR r hr
  refine ev_iload_n eX8_spans_0 rfl ?_
  refine ev_if_lt 34 eX8_spans_1 rfl (by omega) (fun h1 => ?_) (fun h1 => ?_)
  · skip
    refine ev_iconst eX8_spans_34 ?_
    refine ev_zret eX8_spans_35 rfl (by first | exact Or.inl rfl | exact Or.inr rfl | exact bI01 _) ?_
    exact ⟨congrArg (fun q => some (vi q)) (bI_f (by omega)), rfl⟩
  · skip
    refine ev_iload_n eX8_spans_4 rfl ?_
    refine ev_if_lt 34 eX8_spans_5 rfl (by omega) (fun h5 => ?_) (fun h5 => ?_)
    · skip
      refine ev_iconst eX8_spans_34 ?_
      refine ev_zret eX8_spans_35 rfl (by first | exact Or.inl rfl | exact Or.inr rfl | exact bI01 _) ?_
      exact ⟨congrArg (fun q => some (vi q)) (bI_f (by omega)), rfl⟩
    · skip
      refine ev_iload_n eX8_spans_8 rfl ?_
      refine ev_aload_n eX8_spans_9 rfl ?_
      refine ev_getr eX8_spans_10 fX8_13 rfl ?_
      refine ev_iload_n eX8_spans_13 rfl ?_
      refine ev_ialdv (r) eX8_spans_14 rfl (by first | rfl | omega) (by omega) rfl ?_
      refine ev_icmp_gt 34 eX8_spans_15 rfl (by omega) (by omega) (fun h15 => ?_) (fun h15 => ?_)
      · skip
        refine ev_iconst eX8_spans_34 ?_
        refine ev_zret eX8_spans_35 rfl (by first | exact Or.inl rfl | exact Or.inr rfl | exact bI01 _) ?_
        exact ⟨congrArg (fun q => some (vi q)) (bI_f (by omega)), rfl⟩
      · skip
        refine ev_iload_n eX8_spans_18 rfl ?_
        refine ev_aload_n eX8_spans_19 rfl ?_
        refine ev_getr eX8_spans_20 fX8_13 rfl ?_
        refine ev_iload_n eX8_spans_23 rfl ?_
        refine ev_ialdv (r) eX8_spans_24 rfl (by first | rfl | omega) (by omega) rfl ?_
        refine ev_iload_n eX8_spans_25 rfl ?_
        refine ev_isub eX8_spans_26 ?_
        refine ev_icmp_gt 34 eX8_spans_27 rfl (by omega) (by omega) (fun h27 => ?_) (fun h27 => ?_)
        · skip
          refine ev_iconst eX8_spans_34 ?_
          refine ev_zret eX8_spans_35 rfl (by first | exact Or.inl rfl | exact Or.inr rfl | exact bI01 _) ?_
          exact ⟨congrArg (fun q => some (vi q)) (bI_f (by omega)), rfl⟩
        · skip
          refine ev_iconst eX8_spans_30 ?_
          refine ev_goto 35 eX8_spans_31 rfl ?_
          refine ev_zret eX8_spans_35 rfl (by first | exact Or.inl rfl | exact Or.inr rfl | exact bI01 _) ?_
          exact ⟨congrArg (fun q => some (vi q)) (bI_t (by omega)), rfl⟩
set_option maxRecDepth 20000 in
theorem c_move {d : Nat} {σ : St} {a i b j n : Nat} (ha : a < 8) (hb : b < 8) (hi : i + n ≤ 40) (hj : j + n ≤ 40) : Ct (d + 1) mX8_move [.ref 1, vi a, vi i, vi b, vi j, vi n] σ (rv (upA σ 12 (cpF (σ 12) (σ 12) (a * 40 + i) (b * 40 + j) n))) := by
  refine ct_of hX8_move (Nat.le_of_ble_eq_true rfl) ?_
  refine ev_aload_n eX8_move_0 rfl ?_
  refine ev_getr eX8_move_1 fX8_9 rfl ?_
  refine ev_iload_n eX8_move_4 rfl ?_
  refine ev_bipush eX8_move_5 rfl ?_
  refine ev_imul eX8_move_7 ?_
  refine ev_iload_n eX8_move_8 rfl ?_
  refine ev_iadd eX8_move_9 ?_
  refine ev_aload_n eX8_move_10 rfl ?_
  refine ev_getr eX8_move_11 fX8_9 rfl ?_
  refine ev_iload_n eX8_move_14 rfl ?_
  refine ev_bipush eX8_move_15 rfl ?_
  refine ev_imul eX8_move_17 ?_
  refine ev_iload eX8_move_18 rfl ?_
  refine ev_iadd eX8_move_20 ?_
  refine ev_iload eX8_move_21 rfl ?_
  refine ev_acpi (a * 40 + i) (b * 40 + j) (n) eX8_move_23 lX8_19 rfl rfl (by first | rfl | omega) (by first | rfl | omega) (by first | rfl | omega) (by omega) (by omega) (Nat.le_of_ble_eq_true rfl) ?_
  refine ev_ret eX8_move_26 rfl ?_
  exact ⟨rfl, rfl⟩
set_option maxRecDepth 20000 in
theorem c_howMany_l {d : Nat} {σ : St} (hR : RwC σ) : ∀ (fu : Nat) {i t : Nat}, 8 - i < fu → i ≤ 8 → t = cntN (σ 14) i → Ev (d) mX8_howMany 4 [.ref 1, vi t, vi i] [] σ (rt (vi (cntN (σ 14) 8)) σ) := by
  intro fu
  induction fu with
  | zero => intros; omega
  | succ fu ih =>
    intro i t hn h1 h2
    have h3 := cntN_le (σ 14) i
    refine ev_iload_n eX8_howMany_4 rfl ?_
    refine ev_bipush eX8_howMany_5 rfl ?_
    refine ev_icmp_ge 29 eX8_howMany_7 rfl (by omega) (by omega) (fun h7 => ?_) (fun h7 => ?_)
    · skip
      refine ev_iload_n eX8_howMany_29 rfl ?_
      refine ev_iret eX8_howMany_30 rfl ?_
      exact ⟨congrArg (fun q => some (vi q)) (by rw [h2, show i = 8 by omega]), rfl⟩
    · skip
      refine ev_aload_n eX8_howMany_10 rfl ?_
      refine ev_getr eX8_howMany_11 fX8_16 rfl ?_
      refine ev_iload_n eX8_howMany_14 rfl ?_
      refine ev_ialdv (i) eX8_howMany_15 rfl (by first | rfl | omega) (by omega) rfl ?_
      refine ev_iconst eX8_howMany_16 ?_
      obtain ⟨hl, hz⟩ := hR i (by omega)
      refine ev_icmp_eq 23 eX8_howMany_17 rfl (by omega) (by omega) (fun h17 => ?_) (fun h17 => ?_)
      · skip
        refine ev_iinc eX8_howMany_23 rfl (by decide) ?_
        refine ev_goto 4 eX8_howMany_26 rfl ?_
        exact ih (i := i + 1) (by omega) (by omega) (by unfold cntN; split <;> omega)
      · skip
        refine ev_iinc eX8_howMany_20 rfl (by decide) ?_
        refine ev_iinc eX8_howMany_23 rfl (by decide) ?_
        refine ev_goto 4 eX8_howMany_26 rfl ?_
        exact ih (i := i + 1) (by omega) (by omega) (by unfold cntN; split <;> omega)
set_option maxRecDepth 20000 in
theorem c_howMany {d : Nat} {σ : St} (hR : RwC σ) : Ct (d) mX8_howMany [.ref 1] σ (rt (vi (cntN (σ 14) 8)) σ) := by
  refine ct_of hX8_howMany (Nat.le_of_ble_eq_true rfl) ?_
  refine ev_iconst eX8_howMany_0 ?_
  refine ev_istore_n eX8_howMany_1 (by decide) ?_
  refine ev_iconst eX8_howMany_2 ?_
  refine ev_istore_n eX8_howMany_3 (by decide) ?_
  exact c_howMany_l hR 9 (i := 0) (t := 0) (by omega) (by omega) rfl
set_option maxRecDepth 20000 in
theorem c_make_l {d : Nat} {σ : St} {q n : Nat} {l : Int} (hq : q < 8) (hn : n ≤ 40) : ∀ (fu : Nat) {i : Nat} {τ : St}, n - i < fu → i ≤ n → (∀ j, j < i → τ 12 (q * 40 + j) = 0) → (∀ j, j < q * 40 ∨ q * 40 + n ≤ j → τ 12 j = σ 12 j) → (τ 13 = upF (σ 13) q n ∧ τ 14 = upF (σ 14) q l ∧ ∀ k, k ≠ 12 → k ≠ 13 → k ≠ 14 → τ k = σ k) → Ev (d) mX8_make 17 [.ref 1, vi q, vi l, vi n, vi i] [] τ (fun r τ => none = r ∧ (∀ i, i < n → τ 12 (q * 40 + i) = 0) ∧ (∀ j, j < q * 40 ∨ q * 40 + n ≤ j → τ 12 j = σ 12 j) ∧ τ 13 = upF (σ 13) q n ∧ τ 14 = upF (σ 14) q l ∧ ∀ k, k ≠ 12 → k ≠ 13 → k ≠ 14 → τ k = σ k) := by
  intro fu
  induction fu with
  | zero => intros; omega
  | succ fu ih =>
    intro i τ hm h1 h2 h3 h4
    refine ev_iload eX8_make_17 rfl ?_
    refine ev_iload_n eX8_make_19 rfl ?_
    refine ev_icmp_ge 42 eX8_make_20 rfl (by omega) (by omega) (fun h20 => ?_) (fun h20 => ?_)
    · skip
      refine ev_ret eX8_make_42 rfl ?_
      exact ⟨rfl, fun j hj => h2 j (by omega), h3, h4⟩
    · skip
      refine ev_aload_n eX8_make_23 rfl ?_
      refine ev_getr eX8_make_24 fX8_9 rfl ?_
      refine ev_iload_n eX8_make_27 rfl ?_
      refine ev_bipush eX8_make_28 rfl ?_
      refine ev_imul eX8_make_30 ?_
      refine ev_iload eX8_make_31 rfl ?_
      refine ev_iadd eX8_make_33 ?_
      refine ev_iconst eX8_make_34 ?_
      refine ev_iast (((q * 40) + i)) eX8_make_35 rfl (by first | rfl | omega) (by omega) ?_
      refine ev_iinc eX8_make_36 rfl (by decide) ?_
      refine ev_goto 17 eX8_make_39 rfl ?_
      refine ih (i := i + 1) (by omega) (by omega) (fun j hj => ?_) (fun j hj => ?_) ⟨by rw [up_o _ _ _ (by decide)]; exact h4.1, by rw [up_o _ _ _ (by decide)]; exact h4.2.1, fun k a1 a2 a3 => by rw [up_o _ _ _ a1]; exact h4.2.2 k a1 a2 a3⟩
      · by_cases e : j = i
        · subst e; exact up_s _ _ _ _
        · rw [up_n _ _ (by omega)]; exact h2 j (by omega)
      · rw [up_n _ _ (by omega)]; exact h3 j hj
set_option maxRecDepth 20000 in
theorem c_make {d : Nat} {σ : St} {q n : Nat} {l : Int} (hq : q < 8) (hn : n ≤ 40) : Ct (d) mX8_make [.ref 1, vi q, vi l, vi n] σ (fun r τ => none = r ∧ (∀ i, i < n → τ 12 (q * 40 + i) = 0) ∧ (∀ j, j < q * 40 ∨ q * 40 + n ≤ j → τ 12 j = σ 12 j) ∧ τ 13 = upF (σ 13) q n ∧ τ 14 = upF (σ 14) q l ∧ ∀ k, k ≠ 12 → k ≠ 13 → k ≠ 14 → τ k = σ k) := by
  refine ct_of hX8_make (Nat.le_of_ble_eq_true rfl) ?_
  refine ev_aload_n eX8_make_0 rfl ?_
  refine ev_getr eX8_make_1 fX8_16 rfl ?_
  refine ev_iload_n eX8_make_4 rfl ?_
  refine ev_iload_n eX8_make_5 rfl ?_
  refine ev_iast (q) eX8_make_6 rfl (by first | rfl | omega) (by omega) ?_
  refine ev_aload_n eX8_make_7 rfl ?_
  refine ev_getr eX8_make_8 fX8_13 rfl ?_
  refine ev_iload_n eX8_make_11 rfl ?_
  refine ev_iload_n eX8_make_12 rfl ?_
  refine ev_iast (q) eX8_make_13 rfl (by first | rfl | omega) (by omega) ?_
  refine ev_iconst eX8_make_14 ?_
  refine ev_istore eX8_make_15 (by decide) ?_
  refine c_make_l hq hn 41 (i := 0) (by omega) (by omega) (fun j hj => by omega) (fun j _ => by rw [up_o _ _ _ (by decide), up_o _ _ _ (by decide)]) ⟨by rw [up, upA_s, up_o _ _ _ (by decide)], by rw [up_o _ _ _ (by decide), up, upA_s], fun k a1 a2 a3 => by rw [up_o _ _ _ a2, up_o _ _ _ a3]⟩
set_option maxRecDepth 20000 in
theorem c_actCount {d : Nat} {σ : St}  : Ct (d) mX6_actCount [.ref 6] σ (rt (vi (σ 6 3)) σ) := by
  refine ct_of hX6_actCount (Nat.le_of_ble_eq_true rfl) ?_
  refine ev_aload_n eX6_actCount_0 rfl ?_
  refine ev_geti eX6_actCount_1 fX6_22 rfl ?_
  refine ev_iret eX6_actCount_4 rfl ?_
  exact ⟨rfl, rfl⟩
set_option maxRecDepth 20000 in
theorem c_forgetActs {d : Nat} {σ : St}  : Ct (d) mX6_forgetActs [.ref 6] σ (rv (up (up σ 6 2 0) 6 3 0)) := by
  refine ct_of hX6_forgetActs (Nat.le_of_ble_eq_true rfl) ?_
  refine ev_aload_n eX6_forgetActs_0 rfl ?_
  refine ev_iconst eX6_forgetActs_1 ?_
  refine ev_puti eX6_forgetActs_2 pX6_18 rfl ?_
  refine ev_aload_n eX6_forgetActs_5 rfl ?_
  refine ev_iconst eX6_forgetActs_6 ?_
  refine ev_puti eX6_forgetActs_7 pX6_22 rfl ?_
  refine ev_ret eX6_forgetActs_10 rfl ?_
  exact ⟨rfl, rfl⟩
set_option maxRecDepth 20000 in
theorem c_isImage {d : Nat} {σ : St} {x : Int} (hx : -2147483648 ≤ x ∧ x ≤ 2147483647) : Ct (d) mX6_isImage [vi x] σ (rt (vi (bI (0 ≤ x ∧ x < 2))) σ) := by
  refine ct_of hX6_isImage (Nat.le_of_ble_eq_true rfl) ?_
  refine ev_iload_n eX6_isImage_0 rfl ?_
  refine ev_if_lt 13 eX6_isImage_1 rfl (by omega) (fun h1 => ?_) (fun h1 => ?_)
  · skip
    refine ev_iconst eX6_isImage_13 ?_
    refine ev_zret eX6_isImage_14 rfl (by first | exact Or.inl rfl | exact Or.inr rfl | exact bI01 _) ?_
    exact ⟨congrArg (fun q => some (vi q)) (bI_f (by omega)), rfl⟩
  · skip
    refine ev_iload_n eX6_isImage_4 rfl ?_
    refine ev_iconst eX6_isImage_5 ?_
    refine ev_icmp_ge 13 eX6_isImage_6 rfl (by omega) (by omega) (fun h6 => ?_) (fun h6 => ?_)
    · skip
      refine ev_iconst eX6_isImage_13 ?_
      refine ev_zret eX6_isImage_14 rfl (by first | exact Or.inl rfl | exact Or.inr rfl | exact bI01 _) ?_
      exact ⟨congrArg (fun q => some (vi q)) (bI_f (by omega)), rfl⟩
    · skip
      refine ev_iconst eX6_isImage_9 ?_
      refine ev_goto 14 eX6_isImage_10 rfl ?_
      refine ev_zret eX6_isImage_14 rfl (by first | exact Or.inl rfl | exact Or.inr rfl | exact bI01 _) ?_
      exact ⟨congrArg (fun q => some (vi q)) (bI_t (by omega)), rfl⟩
def odN (od na : Nat) : Nat := if na = 24 then (od + 1) % 24 else od
def naN (na : Nat) : Nat := if na = 24 then 23 else na
set_option maxRecDepth 20000 in
theorem c_keepAct {d : Nat} {σ : St} {b od na : Nat} (hb : Bq b) (ho : σ 6 2 = (od : Int)) (hod : od < 24) (ha : σ 6 3 = (na : Int)) (hna : na ≤ 24) : Ct (d + 2) mX6_keepAct [.ref 6, .ref b] σ (fun r τ => none = r ∧ τ 6 2 = (odN od na : Int) ∧ τ 6 3 = (naN na + 1 : Int) ∧ τ 6 4 = σ 6 4 ∧ τ 19 = cpF (σ (b + 13)) (σ 19) 0 ((odN od na + naN na) % 24 * 44) 44 ∧ ∀ k, k ≠ 6 → k ≠ 19 → τ k = σ k) := by
  refine ct_of hX6_keepAct (Nat.le_of_ble_eq_true rfl) ?_
  refine ev_aload_n eX6_keepAct_0 rfl ?_
  refine ev_getiv eX6_keepAct_1 fX6_22 rfl ha ?_
  refine ev_bipush eX6_keepAct_4 rfl ?_
  refine ev_icmp_ne 32 eX6_keepAct_6 rfl (by omega) (by omega) (fun h6 => ?_) (fun h6 => ?_)
  · skip
    refine ev_aload_n eX6_keepAct_32 rfl ?_
    refine ev_aload_n eX6_keepAct_33 rfl ?_
    refine ev_getr eX6_keepAct_34 fX6_11 rfl ?_
    refine ev_aload_n eX6_keepAct_37 rfl ?_
    refine ev_getiv eX6_keepAct_38 fX6_18 rfl ho ?_
    refine ev_aload_n eX6_keepAct_41 rfl ?_
    refine ev_getiv eX6_keepAct_42 fX6_22 rfl ha ?_
    refine ev_iadd eX6_keepAct_45 ?_
    refine ev_bipush eX6_keepAct_46 rfl ?_
    refine ev_irem eX6_keepAct_48 (by omega) (by omega) ?_
    refine ev_bipush eX6_keepAct_49 rfl ?_
    refine ev_imul eX6_keepAct_51 ?_
    rw [show (((od : Int) + (na : Int)) % 24 * 44) = (((od + na) % 24 * 44 : Nat) : Int) by omega]
    refine ev_cV2 eX6_keepAct_52 ⟨lX6_28, kX0_putAll⟩ (ocB hb) rfl (c_putAll hb (k := 19) (n0 := 1056) rfl (sp := (od + na) % 24 * 44) (by omega)) ?_
    rintro _ _ ⟨rfl, rfl⟩
    refine ev_aload_n eX6_keepAct_55 rfl ?_
    refine ev_dup eX6_keepAct_56 rfl ?_
    refine ev_getiv eX6_keepAct_57 fX6_22 rfl (show _ = (na : Int) by rw [upA_n _ _ (by decide)]; exact ha) ?_
    refine ev_iconst eX6_keepAct_60 ?_
    refine ev_iadd eX6_keepAct_61 ?_
    refine ev_puti eX6_keepAct_62 pX6_22 rfl ?_
    refine ev_ret eX6_keepAct_65 rfl ?_
    have e1 : odN od na = od := by unfold odN; rw [if_neg (by omega)]
    have e2 : naN na = na := by unfold naN; rw [if_neg (by omega)]
    rw [e1, e2]
    exact ⟨rfl, by rw [up_n _ _ (by decide), upA_n _ _ (by decide)]; exact ho, up_s _ _ _ _, by rw [up_n _ _ (by decide), upA_n _ _ (by decide)], by rw [up_o _ _ _ (by decide), upA_s], fun k a1 a2 => by rw [up_o _ _ _ a1, upA_n _ _ a2]⟩
  · skip
    refine ev_aload_n eX6_keepAct_9 rfl ?_
    refine ev_aload_n eX6_keepAct_10 rfl ?_
    refine ev_getiv eX6_keepAct_11 fX6_18 rfl ho ?_
    refine ev_iconst eX6_keepAct_14 ?_
    refine ev_iadd eX6_keepAct_15 ?_
    refine ev_bipush eX6_keepAct_16 rfl ?_
    refine ev_irem eX6_keepAct_18 (by omega) (by omega) ?_
    refine ev_puti eX6_keepAct_19 pX6_18 rfl ?_
    refine ev_aload_n eX6_keepAct_22 rfl ?_
    refine ev_dup eX6_keepAct_23 rfl ?_
    refine ev_getiv eX6_keepAct_24 fX6_22 rfl (show _ = (na : Int) by rw [up_n _ _ (by decide)]; exact ha) ?_
    refine ev_iconst eX6_keepAct_27 ?_
    refine ev_isub eX6_keepAct_28 ?_
    refine ev_puti eX6_keepAct_29 pX6_22 rfl ?_
    refine ev_aload_n eX6_keepAct_32 rfl ?_
    refine ev_aload_n eX6_keepAct_33 rfl ?_
    refine ev_getr eX6_keepAct_34 fX6_11 rfl ?_
    refine ev_aload_n eX6_keepAct_37 rfl ?_
    refine ev_getiv eX6_keepAct_38 fX6_18 rfl (show _ = (((od + 1) % 24 : Nat) : Int) by rw [up_n _ _ (by decide), up_s]; omega) ?_
    refine ev_aload_n eX6_keepAct_41 rfl ?_
    refine ev_getiv eX6_keepAct_42 fX6_22 rfl (show _ = ((23 : Nat) : Int) by rw [up_s]; omega) ?_
    refine ev_iadd eX6_keepAct_45 ?_
    refine ev_bipush eX6_keepAct_46 rfl ?_
    refine ev_irem eX6_keepAct_48 (by omega) (by omega) ?_
    refine ev_bipush eX6_keepAct_49 rfl ?_
    refine ev_imul eX6_keepAct_51 ?_
    rw [show (((((od + 1) % 24 : Nat) : Int) + ((23 : Nat) : Int)) % 24 * 44) = ((((od + 1) % 24 + 23) % 24 * 44 : Nat) : Int) by omega]
    refine ev_cV2 eX6_keepAct_52 ⟨lX6_28, kX0_putAll⟩ (ocB hb) rfl (c_putAll hb (k := 19) (n0 := 1056) rfl (sp := ((od + 1) % 24 + 23) % 24 * 44) (by omega)) ?_
    rintro _ _ ⟨rfl, rfl⟩
    refine ev_aload_n eX6_keepAct_55 rfl ?_
    refine ev_dup eX6_keepAct_56 rfl ?_
    refine ev_getiv eX6_keepAct_57 fX6_22 rfl (show _ = ((23 : Nat) : Int) by rw [upA_n _ _ (by decide), up_s]; omega) ?_
    refine ev_iconst eX6_keepAct_60 ?_
    refine ev_iadd eX6_keepAct_61 ?_
    refine ev_puti eX6_keepAct_62 pX6_22 rfl ?_
    refine ev_ret eX6_keepAct_65 rfl ?_
    have e1 : odN od na = (od + 1) % 24 := by unfold odN; rw [if_pos (by omega)]
    have e2 : naN na = 23 := by unfold naN; rw [if_pos (by omega)]
    have hb6 : b + 13 ≠ 6 := by omega
    rw [e1, e2]
    exact ⟨rfl, by rw [up_n _ _ (by decide), upA_n _ _ (by decide), up_n _ _ (by decide), up_s]; omega, up_s _ _ _ _, by rw [up_n _ _ (by decide), upA_n _ _ (by decide), up_n _ _ (by decide), up_n _ _ (by decide)], by rw [up_o _ _ _ (by decide), upA_s, up_o _ _ _ hb6, up_o _ _ _ hb6, up_o _ _ _ (by decide), up_o _ _ _ (by decide)], fun k a1 a2 => by rw [up_o _ _ _ a1, upA_n _ _ a2, up_o _ _ _ a1, up_o _ _ _ a1]⟩
set_option maxRecDepth 20000 in
theorem c_takeBack {d : Nat} {σ : St} {b od na : Nat} (hb : Bq b) (ho : σ 6 2 = (od : Int)) (hod : od < 24) (ha : σ 6 3 = (na : Int)) (hna : na ≤ 24) (hn1 : 1 ≤ na) : Ct (d + 2) mX6_takeBack [.ref 6, .ref b] σ (fun r τ => none = r ∧ τ 6 2 = (od : Int) ∧ τ 6 3 = ((na - 1 : Nat) : Int) ∧ τ 6 4 = σ 6 4 ∧ τ (b + 13) = cpF (σ 19) (σ (b + 13)) ((od + (na - 1)) % 24 * 44) 0 44 ∧ ∀ k, k ≠ 6 → k ≠ b + 13 → τ k = σ k) := by
  refine ct_of hX6_takeBack (Nat.le_of_ble_eq_true rfl) ?_
  refine ev_aload_n eX6_takeBack_0 rfl ?_
  refine ev_getiv eX6_takeBack_1 fX6_22 rfl ha ?_
  refine ev_if_ne 8 eX6_takeBack_4 rfl (by omega) (fun h4 => ?_) (fun h4 => False.elim (by omega))
  refine ev_aload_n eX6_takeBack_8 rfl ?_
  refine ev_dup eX6_takeBack_9 rfl ?_
  refine ev_getiv eX6_takeBack_10 fX6_22 rfl ha ?_
  refine ev_iconst eX6_takeBack_13 ?_
  refine ev_isub eX6_takeBack_14 ?_
  refine ev_puti eX6_takeBack_15 pX6_22 rfl ?_
  refine ev_aload_n eX6_takeBack_18 rfl ?_
  refine ev_aload_n eX6_takeBack_19 rfl ?_
  refine ev_getr eX6_takeBack_20 fX6_11 rfl ?_
  refine ev_aload_n eX6_takeBack_23 rfl ?_
  refine ev_getiv eX6_takeBack_24 fX6_18 rfl (show _ = (od : Int) by rw [up_n _ _ (by decide)]; exact ho) ?_
  refine ev_aload_n eX6_takeBack_27 rfl ?_
  refine ev_getiv eX6_takeBack_28 fX6_22 rfl (show _ = ((na - 1 : Nat) : Int) by rw [up_s]; omega) ?_
  refine ev_iadd eX6_takeBack_31 ?_
  refine ev_bipush eX6_takeBack_32 rfl ?_
  refine ev_irem eX6_takeBack_34 (by omega) (by omega) ?_
  refine ev_bipush eX6_takeBack_35 rfl ?_
  refine ev_imul eX6_takeBack_37 ?_
  rw [show (((od : Int) + ((na - 1 : Nat) : Int)) % 24 * 44) = (((od + (na - 1)) % 24 * 44 : Nat) : Int) by omega]
  refine ev_cV2 eX6_takeBack_38 ⟨lX6_32, kX0_takeAll_⟩ (ocB hb) rfl (c_takeAll_ hb (k := 19) (n0 := 1056) rfl (sp := (od + (na - 1)) % 24 * 44) (by omega)) ?_
  rintro _ _ ⟨rfl, rfl⟩
  refine ev_ret eX6_takeBack_41 rfl ?_
  have hb6 : b + 13 ≠ 6 := by omega
  have hb7 : 6 ≠ b + 13 := by omega
  exact ⟨rfl, by rw [upA_n _ _ hb7, up_n _ _ (by decide)]; exact ho, by rw [upA_n _ _ hb7, up_s]; omega, by rw [upA_n _ _ hb7, up_n _ _ (by decide)], by rw [upA_s, up_o _ _ _ (by decide), up_o _ _ _ hb6], fun k a1 a2 => by rw [upA_n _ _ a2, up_o _ _ _ a1]⟩
/-! bits of what is not below 0 -/
theorem i_bv {a : Nat} (h : a < 2147483648) : (Int32.ofInt (a : Int)).toBitVec.toNat = a := by
  have := pk_tn (n := a) (by omega)
  exact this
theorem i_nat {x : Int32} {a : Nat} (h : x.toBitVec.toNat = a) (ha : a < 2147483648) : x.toInt = (a : Int) := by
  have e : x = Int32.ofInt (a : Int) := by
    apply Int32.toBitVec_inj.mp
    apply BitVec.eq_of_toNat_eq
    rw [h, i_bv ha]
  rw [e, i_rt (by omega)]
theorem iOr_n {a b : Nat} (ha : a < 2147483648) (hb : b < 2147483648) : iOr (a : Int) (b : Int) = ((a ||| b : Nat) : Int) := by
  unfold iOr
  refine i_nat ?_ (Nat.or_lt_two_pow (n := 31) ha hb)
  rw [Int32.toBitVec_or, BitVec.toNat_or, i_bv ha, i_bv hb]
theorem iAnd_n {a b : Nat} (ha : a < 2147483648) (hb : b < 2147483648) : iAnd (a : Int) (b : Int) = ((a &&& b : Nat) : Int) := by
  unfold iAnd
  refine i_nat ?_ (Nat.and_lt_two_pow (n := 31) _ hb)
  rw [Int32.toBitVec_and, BitVec.toNat_and, i_bv ha, i_bv hb]
theorem sh31 : ∀ b : Nat, b < 32 → ((Int32.ofInt (b : Int) &&& 31).toBitVec.smod 32).toNat = b := by decide +kernel
theorem iShr_n {a b : Nat} (ha : a < 2147483648) (hb : b < 32) : iShr (a : Int) (b : Int) = ((a / 2 ^ b : Nat) : Int) := by
  unfold iShr
  have h := pk_shr (Int32.ofInt (a : Int)) (Int32.ofInt (b : Int) &&& 31) b (sh31 b hb)
  rw [h, i_rt (by omega)]
  show ((a >>> b : Nat) : Int) = _
  rw [Nat.shiftRight_eq_div_pow]
theorem iShl_n {a b : Nat} (hb : b < 32) (hab : a * 2 ^ b < 2147483648) : iShl (a : Int) (b : Int) = ((a * 2 ^ b : Nat) : Int) := by
  unfold iShl
  have h := pk_shl (Int32.ofInt (a : Int)) (Int32.ofInt (b : Int) &&& 31) b (sh31 b hb)
  have ha : a < 2147483648 := by
    have : a * 1 ≤ a * 2 ^ b := Nat.mul_le_mul_left a (Nat.one_le_two_pow)
    omega
  refine i_nat ?_ hab
  rw [h, i_bv ha, Nat.mod_eq_of_lt (by omega)]
set_option maxRecDepth 20000 in
theorem c_hasImage {d : Nat} {σ : St} {k m : Nat} (hk : k < 2) (hm : σ 6 4 = (m : Int)) (hm4 : m < 4) : Ct (d) mX6_hasImage [.ref 6, vi k] σ (rt (vi (bI (m / 2 ^ k % 2 = 1))) σ) := by
  refine ct_of hX6_hasImage (Nat.le_of_ble_eq_true rfl) ?_
  refine ev_aload_n eX6_hasImage_0 rfl ?_
  refine ev_getiv eX6_hasImage_1 fX6_25 rfl hm ?_
  refine ev_iload_n eX6_hasImage_4 rfl ?_
  refine ev_ishr eX6_hasImage_5 ?_
  refine ev_iconst eX6_hasImage_6 ?_
  
  refine ev_iand eX6_hasImage_7 ?_
  refine ev_iconst eX6_hasImage_8 ?_
  rw [iShr_n (by omega) (by omega), show iAnd ((m / 2 ^ k : Nat) : Int) 1 = ((m / 2 ^ k % 2 : Nat) : Int) from (iAnd_n (b := 1) (by have := Nat.div_le_self m (2 ^ k); omega) (by omega)).trans (by rw [Nat.and_one_is_mod])]
  refine ev_icmp_ne 16 eX6_hasImage_9 rfl (by omega) (by omega) (fun h9 => ?_) (fun h9 => ?_)
  · skip
    refine ev_iconst eX6_hasImage_16 ?_
    refine ev_zret eX6_hasImage_17 rfl (by first | exact Or.inl rfl | exact Or.inr rfl | exact bI01 _) ?_
    exact ⟨congrArg (fun q => some (vi q)) (bI_f (by omega)), rfl⟩
  · skip
    refine ev_iconst eX6_hasImage_12 ?_
    refine ev_goto 17 eX6_hasImage_13 rfl ?_
    refine ev_zret eX6_hasImage_17 rfl (by first | exact Or.inl rfl | exact Or.inr rfl | exact bI01 _) ?_
    exact ⟨congrArg (fun q => some (vi q)) (bI_t (by omega)), rfl⟩
set_option maxRecDepth 20000 in
theorem c_bringImage {d : Nat} {σ : St} {b k : Nat} (hb : Bq b) (hk : k < 2) : Ct (d + 2) mX6_bringImage [.ref 6, vi k, .ref b] σ (rv (upA σ (b + 13) (cpF (σ 20) (σ (b + 13)) (k * 44) 0 44))) := by
  refine ct_of hX6_bringImage (Nat.le_of_ble_eq_true rfl) ?_
  refine ev_aload_n eX6_bringImage_0 rfl ?_
  refine ev_aload_n eX6_bringImage_1 rfl ?_
  refine ev_getr eX6_bringImage_2 fX6_15 rfl ?_
  refine ev_iload_n eX6_bringImage_5 rfl ?_
  refine ev_bipush eX6_bringImage_6 rfl ?_
  refine ev_imul eX6_bringImage_8 ?_
  refine ev_cV2 eX6_bringImage_9 ⟨lX6_32, kX0_takeAll_⟩ (ocB hb) rfl (c_takeAll_ hb (k := 20) (n0 := 88) rfl (sp := k * 44) (by omega)) ?_
  rintro _ _ ⟨rfl, rfl⟩
  refine ev_ret eX6_bringImage_12 rfl ?_
  exact ⟨rfl, rfl⟩
set_option maxRecDepth 20000 in
theorem c_keepImage {d : Nat} {σ : St} {b k m : Nat} (hb : Bq b) (hk : k < 2) (hm : σ 6 4 = (m : Int)) (hm4 : m < 4) : Ct (d + 2) mX6_keepImage [.ref 6, vi k, .ref b] σ (rv (up (upA σ 20 (cpF (σ (b + 13)) (σ 20) 0 (k * 44) 44)) 6 4 ((m ||| 2 ^ k : Nat) : Int))) := by
  refine ct_of hX6_keepImage (Nat.le_of_ble_eq_true rfl) ?_
  refine ev_aload_n eX6_keepImage_0 rfl ?_
  refine ev_aload_n eX6_keepImage_1 rfl ?_
  refine ev_getr eX6_keepImage_2 fX6_15 rfl ?_
  refine ev_iload_n eX6_keepImage_5 rfl ?_
  refine ev_bipush eX6_keepImage_6 rfl ?_
  refine ev_imul eX6_keepImage_8 ?_
  refine ev_cV2 eX6_keepImage_9 ⟨lX6_28, kX0_putAll⟩ (ocB hb) rfl (c_putAll hb (k := 20) (n0 := 88) rfl (sp := k * 44) (by omega)) ?_
  rintro _ _ ⟨rfl, rfl⟩
  refine ev_aload_n eX6_keepImage_12 rfl ?_
  refine ev_dup eX6_keepImage_13 rfl ?_
  refine ev_getiv eX6_keepImage_14 fX6_25 rfl (show _ = (m : Int) by rw [upA_n _ _ (by decide)]; exact hm) ?_
  refine ev_iconst eX6_keepImage_17 ?_
  refine ev_iload_n eX6_keepImage_18 rfl ?_
  refine ev_ishl eX6_keepImage_19 ?_
  refine ev_ior eX6_keepImage_20 ?_
  have hp : 2 ^ k < 4 := by
    have : k = 0 ∨ k = 1 := by omega
    rcases this with rfl | rfl <;> decide
  rw [show iShl 1 (k : Int) = ((2 ^ k : Nat) : Int) from (iShl_n (a := 1) (by omega) (by omega)).trans (by rw [Nat.one_mul]), iOr_n (by omega) (by omega)]
  refine ev_puti eX6_keepImage_21 pX6_25 rfl ?_
  refine ev_ret eX6_keepImage_24 rfl ?_
  exact ⟨rfl, rfl⟩
