/-! the reference: small calls -/
set_option maxRecDepth 20000 in
theorem m_fault {d : Nat} {σ : St}  : Ct (d) mX12_fault [.ref 45] σ (rt (vi (σ 45 19)) σ) := by
  refine ct_of hX12_fault (Nat.le_of_ble_eq_true rfl) ?_
  refine ev_aload_n eX12_fault_0 rfl ?_
  refine ev_geti eX12_fault_1 fX12_171 rfl ?_
  refine ev_iret eX12_fault_4 rfl ?_
  exact ⟨rfl, rfl⟩
set_option maxRecDepth 20000 in
theorem m_status {d : Nat} {σ : St}  : Ct (d) mX12_status [.ref 45] σ (rt (vi (σ 45 0)) σ) := by
  refine ct_of hX12_status (Nat.le_of_ble_eq_true rfl) ?_
  refine ev_aload_n eX12_status_0 rfl ?_
  refine ev_geti eX12_status_1 fX12_63 rfl ?_
  refine ev_iret eX12_status_4 rfl ?_
  exact ⟨rfl, rfl⟩
set_option maxRecDepth 20000 in
theorem m_trace {d : Nat} {σ : St} {n : Nat} (hn : σ 45 29 = (n : Int)) (h16 : n ≤ 16) {x : Int} (hx : -2147483648 ≤ x ∧ x ≤ 2147483647) : Ct (d + 1) mX12_trace [.ref 45, vi x] σ (fun r τ => (¬ (0 ≤ x ∧ x < n) → some (vi (-1000000)) = r ∧ σ = τ) ∧ (0 ≤ x ∧ x < n → some (vi (σ 62 x.toNat)) = r ∧ σ = τ)) := by
  refine ct_of hX12_trace (Nat.le_of_ble_eq_true rfl) ?_
  refine ev_iload_n eX12_trace_0 rfl ?_
  refine ev_i2l eX12_trace_1 (by omega) ?_
  refine ev_lconst 0 eX12_trace_2 rfl ?_
  refine ev_aload_n eX12_trace_3 rfl ?_
  refine ev_getiv eX12_trace_4 fX12_303 rfl hn ?_
  refine ev_iconst eX12_trace_7 ?_
  refine ev_isub eX12_trace_8 ?_
  refine ev_i2l eX12_trace_9 (by omega) ?_
  refine ev_cS3 eX12_trace_10 ⟨lX12_70, kX12_in⟩ rfl (m_in (a := x) (b := 0) (c := (n : Int) - 1) (by omega) (by omega) (by omega)) ?_
  rintro _ _ ⟨rfl, rfl⟩
  refine ev_ifb_eq 25 eX12_trace_13 rfl (fun h13 => ?_) (fun h13 => ?_)
  · skip
    refine ev_ldc eX12_trace_25 qX12_124 ?_
    refine ev_iret eX12_trace_27 rfl ?_
    refine ⟨fun hc => ?_, fun hc => ?_⟩ <;> first | (exfalso; omega) | (exact ⟨rfl, rfl⟩)
  · skip
    refine ev_aload_n eX12_trace_16 rfl ?_
    refine ev_getr eX12_trace_17 fX12_60 rfl ?_
    refine ev_iload_n eX12_trace_20 rfl ?_
    refine ev_ialdv (x.toNat) eX12_trace_21 rfl (by first | rfl | omega) (by omega) rfl ?_
    refine ev_goto 27 eX12_trace_22 rfl ?_
    refine ev_iret eX12_trace_27 rfl ?_
    refine ⟨fun hc => ?_, fun hc => ?_⟩ <;> first | (exfalso; omega) | (exact ⟨rfl, rfl⟩)
set_option maxRecDepth 20000 in
theorem m_kind {d : Nat} {σ : St} {B : Bok} (hM : MBk σ 49 B) (hZ : OkZ B) {x : Int} (hx : -2147483648 ≤ x ∧ x ≤ 2147483647) : Ct (d + 2) mX12_kind [.ref 45, vi x] σ (fun r τ => (¬ (0 ≤ x ∧ x < B 2) → some (vi (-1000001)) = r ∧ σ = τ) ∧ (0 ≤ x ∧ x < B 2 → some (vi (bk B x.toNat)) = r ∧ σ = τ)) := by
  refine ct_of hX12_kind (Nat.le_of_ble_eq_true rfl) ?_
  have hf := hZ.wf
  have h7 := hf.2.1
  have h8 := hf.2.2.1
  refine ev_aload_n eX12_kind_0 rfl ?_
  refine ev_iload_n eX12_kind_1 rfl ?_
  refine ev_cV1 eX12_kind_2 ⟨lX12_182, kX12_isSort⟩ rfl rfl (m_isSort hM hZ.wf (x := x) (by omega)) ?_
  rintro _ _ ⟨rfl, rfl⟩
  refine ev_ifb_eq 19 eX12_kind_5 rfl (fun h5 => ?_) (fun h5 => ?_)
  · skip
    refine ev_ldc eX12_kind_19 qX12_80 ?_
    refine ev_iret eX12_kind_21 rfl ?_
    refine ⟨fun hc => ?_, fun hc => ?_⟩ <;> first | (exfalso; omega) | (exact ⟨rfl, rfl⟩)
  · skip
    refine ev_aload_n eX12_kind_8 rfl ?_
    refine ev_getr eX12_kind_9 fX12_19 rfl ?_
    refine ev_iload_n eX12_kind_12 rfl ?_
    obtain ⟨x, rfl⟩ : ∃ q : Nat, x = q := ⟨x.toNat, by omega⟩
    rw [Int.toNat_natCast]
    refine ev_cS2 eX12_kind_13 ⟨lX12_89, kX12_kindOf⟩ rfl (m_kindOf (Or.inl rfl) hM hf (s := x) (by omega)) ?_
    rintro _ _ ⟨rfl, rfl⟩
    refine ev_goto 21 eX12_kind_16 rfl ?_
    refine ev_iret eX12_kind_21 rfl ?_
    refine ⟨fun hc => ?_, fun hc => ?_⟩ <;> first | (exfalso; omega) | (exact ⟨rfl, rfl⟩)
theorem bI_r (P : Prop) {_ : Decidable P} : bI P = 0 ∨ bI P = 1 := bI01 P
set_option maxRecDepth 20000 in
theorem m_isOf {d : Nat} {σ : St} {k v : Nat} (hk : 1 ≤ k ∧ k ≤ 5) (hv : v ≤ 5) : Ct (d) mX12_isOf [vi k, vi v] σ (rt (vi (bC (isK k v))) σ) := by
  refine ct_of hX12_isOf (Nat.le_of_ble_eq_true rfl) ?_
  refine ev_iload_n eX12_isOf_0 rfl ?_
  refine ev_if_eq 29 eX12_isOf_1 rfl (by omega) (fun h1 => ?_) (fun h1 => ?_)
  · skip
    refine ev_iconst eX12_isOf_29 ?_
    refine ev_goto 34 eX12_isOf_30 rfl ?_
    refine ev_zret eX12_isOf_34 rfl (by first | exact Or.inl rfl | exact Or.inr rfl | exact bI01 _) ?_
    first | exact ⟨congrArg (fun q => some (vi q)) (bI_t (by unfold isK; omega)), rfl⟩ | exact ⟨congrArg (fun q => some (vi q)) (bI_f (by unfold isK; omega)), rfl⟩
  · skip
    refine ev_iload_n eX12_isOf_4 rfl ?_
    refine ev_iload_n eX12_isOf_5 rfl ?_
    refine ev_icmp_eq 29 eX12_isOf_6 rfl (by omega) (by omega) (fun h6 => ?_) (fun h6 => ?_)
    · skip
      refine ev_iconst eX12_isOf_29 ?_
      refine ev_goto 34 eX12_isOf_30 rfl ?_
      refine ev_zret eX12_isOf_34 rfl (by first | exact Or.inl rfl | exact Or.inr rfl | exact bI01 _) ?_
      first | exact ⟨congrArg (fun q => some (vi q)) (bI_t (by unfold isK; omega)), rfl⟩ | exact ⟨congrArg (fun q => some (vi q)) (bI_f (by unfold isK; omega)), rfl⟩
    · skip
      refine ev_iload_n eX12_isOf_9 rfl ?_
      refine ev_iconst eX12_isOf_10 ?_
      refine ev_icmp_ne 19 eX12_isOf_11 rfl (by omega) (by omega) (fun h11 => ?_) (fun h11 => ?_)
      · skip
        refine ev_iload_n eX12_isOf_19 rfl ?_
        refine ev_iconst eX12_isOf_20 ?_
        refine ev_icmp_ne 33 eX12_isOf_21 rfl (by omega) (by omega) (fun h21 => ?_) (fun h21 => ?_)
        · skip
          refine ev_iconst eX12_isOf_33 ?_
          refine ev_zret eX12_isOf_34 rfl (by first | exact Or.inl rfl | exact Or.inr rfl | exact bI01 _) ?_
          first | exact ⟨congrArg (fun q => some (vi q)) (bI_t (by unfold isK; omega)), rfl⟩ | exact ⟨congrArg (fun q => some (vi q)) (bI_f (by unfold isK; omega)), rfl⟩
        · skip
          refine ev_iload_n eX12_isOf_24 rfl ?_
          refine ev_iconst eX12_isOf_25 ?_
          refine ev_icmp_ne 33 eX12_isOf_26 rfl (by omega) (by omega) (fun h26 => ?_) (fun h26 => ?_)
          · skip
            refine ev_iconst eX12_isOf_33 ?_
            refine ev_zret eX12_isOf_34 rfl (by first | exact Or.inl rfl | exact Or.inr rfl | exact bI01 _) ?_
            first | exact ⟨congrArg (fun q => some (vi q)) (bI_t (by unfold isK; omega)), rfl⟩ | exact ⟨congrArg (fun q => some (vi q)) (bI_f (by unfold isK; omega)), rfl⟩
          · skip
            refine ev_iconst eX12_isOf_29 ?_
            refine ev_goto 34 eX12_isOf_30 rfl ?_
            refine ev_zret eX12_isOf_34 rfl (by first | exact Or.inl rfl | exact Or.inr rfl | exact bI01 _) ?_
            first | exact ⟨congrArg (fun q => some (vi q)) (bI_t (by unfold isK; omega)), rfl⟩ | exact ⟨congrArg (fun q => some (vi q)) (bI_f (by unfold isK; omega)), rfl⟩
      · skip
        refine ev_iload_n eX12_isOf_14 rfl ?_
        refine ev_iconst eX12_isOf_15 ?_
        refine ev_icmp_lt 29 eX12_isOf_16 rfl (by omega) (by omega) (fun h16 => ?_) (fun h16 => ?_)
        · skip
          refine ev_iconst eX12_isOf_29 ?_
          refine ev_goto 34 eX12_isOf_30 rfl ?_
          refine ev_zret eX12_isOf_34 rfl (by first | exact Or.inl rfl | exact Or.inr rfl | exact bI01 _) ?_
          first | exact ⟨congrArg (fun q => some (vi q)) (bI_t (by unfold isK; omega)), rfl⟩ | exact ⟨congrArg (fun q => some (vi q)) (bI_f (by unfold isK; omega)), rfl⟩
        · skip
          refine ev_iload_n eX12_isOf_19 rfl ?_
          refine ev_iconst eX12_isOf_20 ?_
          refine ev_icmp_ne 33 eX12_isOf_21 rfl (by omega) (by omega) (fun h21 => ?_) (fun h21 => ?_)
          · skip
            refine ev_iconst eX12_isOf_33 ?_
            refine ev_zret eX12_isOf_34 rfl (by first | exact Or.inl rfl | exact Or.inr rfl | exact bI01 _) ?_
            first | exact ⟨congrArg (fun q => some (vi q)) (bI_t (by unfold isK; omega)), rfl⟩ | exact ⟨congrArg (fun q => some (vi q)) (bI_f (by unfold isK; omega)), rfl⟩
          · skip
            refine ev_iload_n eX12_isOf_24 rfl ?_
            refine ev_iconst eX12_isOf_25 ?_
            refine ev_icmp_ne 33 eX12_isOf_26 rfl (by omega) (by omega) (fun h26 => ?_) (fun h26 => ?_)
            · skip
              refine ev_iconst eX12_isOf_33 ?_
              refine ev_zret eX12_isOf_34 rfl (by first | exact Or.inl rfl | exact Or.inr rfl | exact bI01 _) ?_
              first | exact ⟨congrArg (fun q => some (vi q)) (bI_t (by unfold isK; omega)), rfl⟩ | exact ⟨congrArg (fun q => some (vi q)) (bI_f (by unfold isK; omega)), rfl⟩
            · skip
              refine ev_iconst eX12_isOf_29 ?_
              refine ev_goto 34 eX12_isOf_30 rfl ?_
              refine ev_zret eX12_isOf_34 rfl (by first | exact Or.inl rfl | exact Or.inr rfl | exact bI01 _) ?_
              first | exact ⟨congrArg (fun q => some (vi q)) (bI_t (by unfold isK; omega)), rfl⟩ | exact ⟨congrArg (fun q => some (vi q)) (bI_f (by unfold isK; omega)), rfl⟩
set_option maxRecDepth 20000 in
theorem m_as {d : Nat} {σ : St} {B : Bok} (hM : MBk σ 49 B) (hZ : OkZ B) {x k : Int} (hx : -2147483648 ≤ x ∧ x ≤ 2147483647) (hk : -2147483648 ≤ k ∧ k ≤ 2147483647) : Ct (d + 2) mX12_as [.ref 45, vi x, vi k] σ (fun r τ => (¬ ((0 ≤ x ∧ x < B 2) ∧ 0 ≤ k ∧ k ≤ 5) → some (vi (-1000001)) = r ∧ σ = τ) ∧ ((0 ≤ x ∧ x < B 2) ∧ 0 ≤ k ∧ k ≤ 5 → (isK (bk B x.toNat) k.toNat → some (vi x) = r ∧ up σ 45 0 0 = τ) ∧ (¬ isK (bk B x.toNat) k.toNat → some (vi (-1000010 - 3)) = r ∧ up σ 45 0 3 = τ))) := by
  refine ct_of hX12_as (Nat.le_of_ble_eq_true rfl) ?_
  have hf := hZ.wf
  have h7 := hf.2.1
  have h8 := hf.2.2.1
  refine ev_aload_n eX12_as_0 rfl ?_
  refine ev_iload_n eX12_as_1 rfl ?_
  refine ev_cV1 eX12_as_2 ⟨lX12_182, kX12_isSort⟩ rfl rfl (m_isSort hM hZ.wf (x := x) (by omega)) ?_
  rintro _ _ ⟨rfl, rfl⟩
  refine ev_ifb_eq 20 eX12_as_5 rfl (fun h5 => ?_) (fun h5 => ?_)
  · skip
    refine ev_ldc eX12_as_20 qX12_80 ?_
    refine ev_iret eX12_as_22 rfl ?_
    refine ⟨fun _ => ⟨rfl, rfl⟩, fun hc => ?_⟩
    exfalso; omega
  · skip
    refine ev_iload_n eX12_as_8 rfl ?_
    refine ev_i2l eX12_as_9 (by omega) ?_
    refine ev_lconst 0 eX12_as_10 rfl ?_
    refine ev_ldc2 eX12_as_11 qX12_195 ?_
    refine ev_cS3 eX12_as_14 ⟨lX12_70, kX12_in⟩ rfl (m_in (a := k) (b := 0) (c := 5) (by omega) (by omega) (by omega)) ?_
    rintro _ _ ⟨rfl, rfl⟩
    refine ev_ifb_ne 23 eX12_as_17 rfl (fun h17 => ?_) (fun h17 => ?_)
    · skip
      obtain ⟨x, rfl⟩ : ∃ q : Nat, x = q := ⟨x.toNat, by omega⟩
      obtain ⟨k, rfl⟩ : ∃ q : Nat, k = q := ⟨k.toNat, by omega⟩
      rw [Int.toNat_natCast, Int.toNat_natCast]
      have hO := hZ.ok (by omega)
      have hk1 := (hO.2.2.2.2 x (by omega)).1
      have hk5 := hf.2.2.2.2.1 x (by omega)
      refine ev_aload_n eX12_as_23 rfl ?_
      refine ev_iconst eX12_as_24 ?_
      refine ev_puti eX12_as_25 pX12_63 rfl ?_
      refine ev_aload_n eX12_as_28 rfl ?_
      refine ev_getr eX12_as_29 fX12_19 rfl ?_
      refine ev_iload_n eX12_as_32 rfl ?_
      refine ev_cS2 eX12_as_33 ⟨lX12_89, kX12_kindOf⟩ rfl (m_kindOf (Or.inl rfl) (hM.of (up_o _ _ _ (by decide))) hf (s := x) (by omega)) ?_
      rintro _ _ ⟨rfl, rfl⟩
      refine ev_iload_n eX12_as_36 rfl ?_
      refine ev_cS2 eX12_as_37 ⟨lX12_300, kX12_isOf⟩ rfl (m_isOf (k := bk B x) (v := k) (by omega) (by omega)) ?_
      rintro _ _ ⟨rfl, rfl⟩
      refine ev_ifb_eq 47 eX12_as_40 rfl (fun hK => ?_) (fun hK => ?_)
      · skip
        refine ev_aload_n eX12_as_47 rfl ?_
        refine ev_iconst eX12_as_48 ?_
        refine ev_cV1 eX12_as_49 ⟨lX12_81, kX12_finding⟩ rfl rfl m_finding ?_
        rintro _ _ ⟨rfl, rfl⟩
        refine ev_iret eX12_as_52 rfl ?_
        refine ⟨fun hc => absurd hc (by omega), fun _ => ⟨fun z => absurd z hK, fun _ => ⟨rfl, (up_up _ _ _ _ _).symm⟩⟩⟩
      · skip
        refine ev_iload_n eX12_as_43 rfl ?_
        refine ev_goto 52 eX12_as_44 rfl ?_
        refine ev_iret eX12_as_52 rfl ?_
        refine ⟨fun hc => absurd hc (by omega), fun _ => ⟨fun _ => ⟨rfl, rfl⟩, fun z => absurd hK z⟩⟩
    · skip
      refine ev_ldc eX12_as_20 qX12_80 ?_
      refine ev_iret eX12_as_22 rfl ?_
      refine ⟨fun _ => ⟨rfl, rfl⟩, fun hc => ?_⟩
      exfalso; omega
set_option maxRecDepth 20000 in
theorem m_letter {d : Nat} {σ : St} {B : Bok} (hM : MBk σ 49 B) (hZ : OkZ B) {x : Int} (hx : -2147483648 ≤ x ∧ x ≤ 2147483647) : Ct (d + 1) mX12_letter [.ref 45, vi x] σ (fun r τ => (B 2 = 0 → some (vi (-1000002)) = r ∧ σ = τ) ∧ (0 < B 2 ∧ x < 0 → some (vi (-1000001)) = r ∧ σ = τ) ∧ (0 < B 2 ∧ 0 ≤ x ∧ B 3 ≤ x → some (vi (-1000000)) = r ∧ σ = τ) ∧ (0 < B 2 ∧ 0 ≤ x ∧ x < B 3 → some (vi (rw_ B x.toNat)) = r ∧ σ = τ)) := by
  refine ct_of hX12_letter (Nat.le_of_ble_eq_true rfl) ?_
  have hf := hZ.wf
  have h7 := hf.2.1
  have h8 := hf.2.2.1
  refine ev_aload_n eX12_letter_0 rfl ?_
  refine ev_cV0 eX12_letter_1 ⟨lX12_197, kX12_isThere⟩ rfl rfl (m_isThere hM hZ.wf) ?_
  rintro _ _ ⟨rfl, rfl⟩
  refine ev_ifb_ne 10 eX12_letter_4 rfl (fun h4 => ?_) (fun h4 => ?_)
  · skip
    refine ev_iload_n eX12_letter_10 rfl ?_
    refine ev_if_ge 19 eX12_letter_11 rfl (by omega) (fun h11 => ?_) (fun h11 => ?_)
    · skip
      refine ev_iload_n eX12_letter_19 rfl ?_
      refine ev_aload_n eX12_letter_20 rfl ?_
      refine ev_getr eX12_letter_21 fX12_19 rfl ?_
      refine ev_iconst eX12_letter_24 ?_
      refine ev_ialdv (3) eX12_letter_25 rfl (by first | rfl | omega) (by omega) hM.N ?_
      refine ev_icmp_ge 40 eX12_letter_26 rfl (by omega) (by omega) (fun h26 => ?_) (fun h26 => ?_)
      · skip
        refine ev_ldc eX12_letter_40 qX12_124 ?_
        refine ev_iret eX12_letter_42 rfl ?_
        refine ⟨fun hc => ?_, fun hc => ?_, fun hc => ?_, fun hc => ?_⟩ <;> first | (exfalso; omega) | (exact ⟨rfl, rfl⟩)
      · skip
        obtain ⟨x, rfl⟩ : ∃ q : Nat, x = q := ⟨x.toNat, by omega⟩
        rw [Int.toNat_natCast]
        refine ev_aload_n eX12_letter_29 rfl ?_
        refine ev_getr eX12_letter_30 fX12_19 rfl ?_
        refine ev_iconst eX12_letter_33 ?_
        refine ev_iload_n eX12_letter_34 rfl ?_
        refine ev_iadd eX12_letter_35 ?_
        refine ev_ialdv (4 + x) eX12_letter_36 rfl (by first | rfl | omega) (by omega) (hM.R (i := x) (by omega)) ?_
        refine ev_goto 42 eX12_letter_37 rfl ?_
        refine ev_iret eX12_letter_42 rfl ?_
        refine ⟨fun hc => ?_, fun hc => ?_, fun hc => ?_, fun hc => ?_⟩ <;> first | (exfalso; omega) | (exact ⟨rfl, rfl⟩)
    · skip
      refine ev_ldc eX12_letter_14 qX12_80 ?_
      refine ev_goto 42 eX12_letter_16 rfl ?_
      refine ev_iret eX12_letter_42 rfl ?_
      refine ⟨fun hc => ?_, fun hc => ?_, fun hc => ?_, fun hc => ?_⟩ <;> first | (exfalso; omega) | (exact ⟨rfl, rfl⟩)
  · skip
    refine ev_ldc eX12_letter_7 qX12_178 ?_
    refine ev_iret eX12_letter_9 rfl ?_
    refine ⟨fun hc => ?_, fun hc => ?_, fun hc => ?_, fun hc => ?_⟩ <;> first | (exfalso; omega) | (exact ⟨rfl, rfl⟩)
set_option maxRecDepth 20000 in
theorem m_sort {d : Nat} {σ : St} {B : Bok} (hM : MBk σ 49 B) (hZ : OkZ B) {x e : Int} (hx : -2147483648 ≤ x ∧ x ≤ 2147483647) (he : -2147483648 ≤ e ∧ e ≤ 2147483647) : Ct (d + 2) mX12_sort [.ref 45, vi x, vi e] σ (fun r τ => (¬ (0 ≤ x ∧ x < B 2) → some (vi (-1000001)) = r ∧ σ = τ) ∧ (0 ≤ x ∧ x < B 2 → some (vi (srt B x.toNat e)) = r ∧ σ = τ)) := by
  refine ct_of hX12_sort (Nat.le_of_ble_eq_true rfl) ?_
  have hf := hZ.wf
  have h7 := hf.2.1
  have h8 := hf.2.2.1
  refine ev_aload_n eX12_sort_0 rfl ?_
  refine ev_iload_n eX12_sort_1 rfl ?_
  refine ev_cV1 eX12_sort_2 ⟨lX12_182, kX12_isSort⟩ rfl rfl (m_isSort hM hZ.wf (x := x) (by omega)) ?_
  rintro _ _ ⟨rfl, rfl⟩
  refine ev_ifb_ne 11 eX12_sort_5 rfl (fun h5 => ?_) (fun h5 => ?_)
  · skip
    obtain ⟨x, rfl⟩ : ∃ q : Nat, x = q := ⟨x.toNat, by omega⟩
    rw [Int.toNat_natCast]
    have hi4 := im_le hf (s := x) (by omega)
    have hw4 := hf.2.2.2.1 x (by omega)
    refine ev_iload_n eX12_sort_11 rfl ?_
    refine ev_i2l eX12_sort_12 (by omega) ?_
    refine ev_ldc2 eX12_sort_13 qX12_208 ?_
    refine ev_ldc2 eX12_sort_16 qX12_210 ?_
    refine ev_cS3 eX12_sort_19 ⟨lX12_70, kX12_in⟩ rfl (m_in (a := e) (b := 10) (c := 13) (by omega) (by omega) (by omega)) ?_
    rintro _ _ ⟨rfl, rfl⟩
    refine ev_ifb_eq 65 eX12_sort_22 rfl (fun h22 => ?_) (fun h22 => ?_)
    · skip
      refine ev_iload_n eX12_sort_65 rfl ?_
      refine ev_i2l eX12_sort_66 (by omega) ?_
      refine ev_ldc2 eX12_sort_67 qX12_212 ?_
      refine ev_ldc2 eX12_sort_70 qX12_214 ?_
      refine ev_cS3 eX12_sort_73 ⟨lX12_70, kX12_in⟩ rfl (m_in (a := e) (b := 20) (c := 23) (by omega) (by omega) (by omega)) ?_
      rintro _ _ ⟨rfl, rfl⟩
      refine ev_ifb_eq 112 eX12_sort_76 rfl (fun h76 => ?_) (fun h76 => ?_)
      · skip
        refine ev_iload_n eX12_sort_112 rfl ?_
        by_cases hsw : e < 0 ∨ 3 < e
        · refine ev_tswO 179 eX12_sort_113 (by omega) (by omega) rfl ?_
          refine ev_ldc eX12_sort_179 qX12_80 ?_
          refine ev_iret eX12_sort_181 rfl ?_
          refine ⟨fun hc => absurd hc (by omega), fun _ => ⟨congrArg (fun q => some (vi q)) ?_, rfl⟩⟩
          unfold srt
          rw [if_neg (by omega), if_neg (by omega), if_neg (by omega), if_neg (by omega), if_neg (by omega)]
        · rcases (show e = 0 ∨ e = 1 ∨ e = 2 ∨ e = 3 by omega) with rfl | rfl | rfl | rfl
          · refine ev_tswI 144 eX12_sort_113 (by omega) (by omega) rfl rfl ?_
            refine ev_aload_n eX12_sort_144 rfl ?_
            refine ev_getr eX12_sort_145 fX12_19 rfl ?_
            refine ev_bipush eX12_sort_148 rfl ?_
            refine ev_bipush eX12_sort_150 rfl ?_
            refine ev_iload_n eX12_sort_152 rfl ?_
            refine ev_imul eX12_sort_153 ?_
            refine ev_iadd eX12_sort_154 ?_
            refine ev_iconst eX12_sort_155 ?_
            refine ev_iadd eX12_sort_156 ?_
            refine ev_iload_n eX12_sort_157 rfl ?_
            refine ev_iadd eX12_sort_158 ?_
            refine ev_ialdv (12 + 8 * x + 1 + 0) eX12_sort_159 rfl (by first | rfl | omega) (by omega) (hM.p (by omega) (by omega)) ?_
            refine ev_iret eX12_sort_160 rfl ?_
            refine ⟨fun hc => absurd hc (by omega), fun _ => ⟨congrArg (fun q => some (vi q)) ?_, rfl⟩⟩
            unfold srt
            rw [if_pos (by omega)]
            rfl
          · refine ev_tswI 144 eX12_sort_113 (by omega) (by omega) rfl rfl ?_
            refine ev_aload_n eX12_sort_144 rfl ?_
            refine ev_getr eX12_sort_145 fX12_19 rfl ?_
            refine ev_bipush eX12_sort_148 rfl ?_
            refine ev_bipush eX12_sort_150 rfl ?_
            refine ev_iload_n eX12_sort_152 rfl ?_
            refine ev_imul eX12_sort_153 ?_
            refine ev_iadd eX12_sort_154 ?_
            refine ev_iconst eX12_sort_155 ?_
            refine ev_iadd eX12_sort_156 ?_
            refine ev_iload_n eX12_sort_157 rfl ?_
            refine ev_iadd eX12_sort_158 ?_
            refine ev_ialdv (12 + 8 * x + 1 + 1) eX12_sort_159 rfl (by first | rfl | omega) (by omega) (hM.p (by omega) (by omega)) ?_
            refine ev_iret eX12_sort_160 rfl ?_
            refine ⟨fun hc => absurd hc (by omega), fun _ => ⟨congrArg (fun q => some (vi q)) ?_, rfl⟩⟩
            unfold srt
            rw [if_pos (by omega)]
            rfl
          · refine ev_tswI 161 eX12_sort_113 (by omega) (by omega) rfl rfl ?_
            refine ev_aload_n eX12_sort_161 rfl ?_
            refine ev_getr eX12_sort_162 fX12_19 rfl ?_
            refine ev_iload_n eX12_sort_165 rfl ?_
            refine ev_cS2 eX12_sort_166 ⟨lX12_93, kX12_wordSize⟩ rfl (m_wordSize (Or.inl rfl) hM hf (s := x) (by omega)) ?_
            rintro _ _ ⟨rfl, rfl⟩
            refine ev_iret eX12_sort_169 rfl ?_
            refine ⟨fun hc => absurd hc (by omega), fun _ => ⟨congrArg (fun q => some (vi q)) ?_, rfl⟩⟩
            unfold srt
            rw [if_neg (by omega), if_pos (by omega)]
          · refine ev_tswI 170 eX12_sort_113 (by omega) (by omega) rfl rfl ?_
            refine ev_aload_n eX12_sort_170 rfl ?_
            refine ev_getr eX12_sort_171 fX12_19 rfl ?_
            refine ev_iload_n eX12_sort_174 rfl ?_
            refine ev_cS2 eX12_sort_175 ⟨lX12_100, kX12_imageSize⟩ rfl (m_imageSize (Or.inl rfl) hM hf (s := x) (by omega)) ?_
            rintro _ _ ⟨rfl, rfl⟩
            refine ev_iret eX12_sort_178 rfl ?_
            refine ⟨fun hc => absurd hc (by omega), fun _ => ⟨congrArg (fun q => some (vi q)) ?_, rfl⟩⟩
            unfold srt
            rw [if_neg (by omega), if_neg (by omega), if_pos (by omega)]
      · skip
        refine ev_iload_n eX12_sort_79 rfl ?_
        refine ev_bipush eX12_sort_80 rfl ?_
        refine ev_isub eX12_sort_82 ?_
        refine ev_aload_n eX12_sort_83 rfl ?_
        refine ev_getr eX12_sort_84 fX12_19 rfl ?_
        refine ev_iload_n eX12_sort_87 rfl ?_
        refine ev_cS2 eX12_sort_88 ⟨lX12_100, kX12_imageSize⟩ rfl (m_imageSize (Or.inl rfl) hM hf (s := x) (by omega)) ?_
        rintro _ _ ⟨rfl, rfl⟩
        refine ev_icmp_ge 109 eX12_sort_91 rfl (by omega) (by omega) (fun h91 => ?_) (fun h91 => ?_)
        · skip
          refine ev_ldc eX12_sort_109 qX12_124 ?_
          refine ev_iret eX12_sort_111 rfl ?_
          refine ⟨fun hc => absurd hc (by omega), fun _ => ⟨congrArg (fun q => some (vi q)) ?_, rfl⟩⟩
          unfold srt
          rw [if_neg (by omega), if_neg (by omega), if_neg (by omega), if_neg (by omega), if_pos (by omega), if_neg (by omega)]
        · skip
          refine ev_aload_n eX12_sort_94 rfl ?_
          refine ev_getr eX12_sort_95 fX12_19 rfl ?_
          refine ev_iload_n eX12_sort_98 rfl ?_
          obtain ⟨i, hi⟩ : ∃ i : Nat, e - 20 = (i : Int) := ⟨(e - 20).toNat, by omega⟩
          refine ev_iload_n eX12_sort_99 rfl ?_
          refine ev_bipush eX12_sort_100 rfl ?_
          refine ev_isub eX12_sort_102 ?_
          rw [hi]
          refine ev_cS3 eX12_sort_103 ⟨lX12_103, kX12_imageAt⟩ rfl (m_imageAt (Or.inl rfl) hM hf (s := x) (i := i) (by omega) (by omega)) ?_
          rintro _ _ ⟨rfl, rfl⟩
          refine ev_goto 111 eX12_sort_106 rfl ?_
          refine ev_iret eX12_sort_111 rfl ?_
          refine ⟨fun hc => absurd hc (by omega), fun _ => ⟨congrArg (fun q => some (vi q)) ?_, rfl⟩⟩
          unfold srt
          rw [if_neg (by omega), if_neg (by omega), if_neg (by omega), if_neg (by omega), if_pos (by omega), if_pos (by omega), hi]
          rfl
    · skip
      refine ev_iload_n eX12_sort_25 rfl ?_
      refine ev_bipush eX12_sort_26 rfl ?_
      refine ev_isub eX12_sort_28 ?_
      refine ev_aload_n eX12_sort_29 rfl ?_
      refine ev_getr eX12_sort_30 fX12_19 rfl ?_
      refine ev_iload_n eX12_sort_33 rfl ?_
      refine ev_cS2 eX12_sort_34 ⟨lX12_93, kX12_wordSize⟩ rfl (m_wordSize (Or.inl rfl) hM hf (s := x) (by omega)) ?_
      rintro _ _ ⟨rfl, rfl⟩
      refine ev_icmp_ge 62 eX12_sort_37 rfl (by omega) (by omega) (fun h37 => ?_) (fun h37 => ?_)
      · skip
        refine ev_ldc eX12_sort_62 qX12_124 ?_
        refine ev_iret eX12_sort_64 rfl ?_
        refine ⟨fun hc => absurd hc (by omega), fun _ => ⟨congrArg (fun q => some (vi q)) ?_, rfl⟩⟩
        unfold srt
        rw [if_neg (by omega), if_neg (by omega), if_neg (by omega), if_pos (by omega), if_neg (by omega)]
      · skip
        refine ev_aload_n eX12_sort_40 rfl ?_
        refine ev_getr eX12_sort_41 fX12_19 rfl ?_
        refine ev_bipush eX12_sort_44 rfl ?_
        refine ev_bipush eX12_sort_46 rfl ?_
        refine ev_iload_n eX12_sort_48 rfl ?_
        refine ev_imul eX12_sort_49 ?_
        refine ev_iadd eX12_sort_50 ?_
        refine ev_iconst eX12_sort_51 ?_
        refine ev_iadd eX12_sort_52 ?_
        refine ev_iload_n eX12_sort_53 rfl ?_
        refine ev_iadd eX12_sort_54 ?_
        refine ev_bipush eX12_sort_55 rfl ?_
        refine ev_isub eX12_sort_57 ?_
        refine ev_ialdv (12 + 8 * x + 4 + (e - 10).toNat) eX12_sort_58 rfl (by first | rfl | omega) (by omega) (hM.l (by omega) (by omega)) ?_
        refine ev_goto 64 eX12_sort_59 rfl ?_
        refine ev_iret eX12_sort_64 rfl ?_
        refine ⟨fun hc => absurd hc (by omega), fun _ => ⟨congrArg (fun q => some (vi q)) ?_, rfl⟩⟩
        unfold srt
        rw [if_neg (by omega), if_neg (by omega), if_neg (by omega), if_pos (by omega), if_pos (by omega)]
  · skip
    refine ev_ldc eX12_sort_8 qX12_80 ?_
    refine ev_iret eX12_sort_10 rfl ?_
    refine ⟨fun hc => ?_, fun hc => ?_⟩ <;> first | (exfalso; omega) | (exact ⟨rfl, rfl⟩)
def lvM (σ : St) (n : Nat) (x : Int) : St := up (up σ 62 n x) 45 29 ((n : Int) + 1)
def lvN (σ : St) : Nat → List Int → St
  | _, [] => σ
  | n, x :: r => lvN (lvM σ n x) (n + 1) r
theorem lvM_n (σ : St) (n : Nat) (x : Int) : lvM σ n x 45 29 = ((n + 1 : Nat) : Int) := up_s _ _ _ _
theorem lvM_b {σ : St} {B : Bok} (h : MBk σ 49 B) (n : Nat) (x : Int) : MBk (lvM σ n x) 49 B := h.of (by unfold lvM; rw [up_o _ _ _ (by decide), up_o _ _ _ (by decide)])
set_option maxRecDepth 20000 in
theorem m_began {d : Nat} {σ : St} {n : Nat} (hn : σ 45 29 = (n : Int)) (h16 : n < 16) {x : Int} : Ct (d) mX12_began [.ref 45, vi x] σ (rv (lvM σ n x)) := by
  refine ct_of hX12_began (Nat.le_of_ble_eq_true rfl) ?_
  refine ev_aload_n eX12_began_0 rfl ?_
  refine ev_getiv eX12_began_1 fX12_303 rfl hn ?_
  refine ev_bipush eX12_began_4 rfl ?_
  refine ev_icmp_ge 29 eX12_began_6 rfl (by omega) (by omega) (fun h6 => False.elim (by omega)) (fun h6 => ?_)
  refine ev_aload_n eX12_began_9 rfl ?_
  refine ev_getr eX12_began_10 fX12_60 rfl ?_
  refine ev_aload_n eX12_began_13 rfl ?_
  refine ev_getiv eX12_began_14 fX12_303 rfl hn ?_
  refine ev_iload_n eX12_began_17 rfl ?_
  refine ev_iast (n) eX12_began_18 rfl (by first | rfl | omega) (by omega) ?_
  refine ev_aload_n eX12_began_19 rfl ?_
  refine ev_dup eX12_began_20 rfl ?_
  refine ev_getiv eX12_began_21 fX12_303 rfl (show up σ 62 n x 45 29 = (n : Int) by rw [up_o _ _ _ (by decide)]; exact hn) ?_
  refine ev_iconst eX12_began_24 ?_
  refine ev_iadd eX12_began_25 ?_
  refine ev_puti eX12_began_26 pX12_303 rfl ?_
  refine ev_ret eX12_began_29 rfl ?_
  exact ⟨rfl, rfl⟩
set_option maxRecDepth 20000 in
theorem m_lentSize {d : Nat} {σ : St} {B : Bok} (hM : MBk σ 49 B) (hf : Wf B) {n : Nat} (hn : σ 45 29 = (n : Int)) (h16 : n < 16) {s : Nat} (hs : s < 4) : Ct (d + 1) mX12_lentSize [.ref 45, vi s] σ (rt (vi (pt B s 0)) (lvM σ n 10)) := by
  refine ct_of hX12_lentSize (Nat.le_of_ble_eq_true rfl) ?_
  refine ev_aload_n eX12_lentSize_0 rfl ?_
  refine ev_bipush eX12_lentSize_1 rfl ?_
  refine ev_cV1 eX12_lentSize_3 ⟨lX12_306, kX12_began⟩ rfl rfl (m_began hn h16) ?_
  rintro _ _ ⟨rfl, rfl⟩
  refine ev_aload_n eX12_lentSize_6 rfl ?_
  refine ev_getr eX12_lentSize_7 fX12_19 rfl ?_
  refine ev_bipush eX12_lentSize_10 rfl ?_
  refine ev_bipush eX12_lentSize_12 rfl ?_
  refine ev_iload_n eX12_lentSize_14 rfl ?_
  refine ev_imul eX12_lentSize_15 ?_
  refine ev_iadd eX12_lentSize_16 ?_
  refine ev_iconst eX12_lentSize_17 ?_
  refine ev_iadd eX12_lentSize_18 ?_
  refine ev_ialdv (12 + 8 * s + 1 + 0) eX12_lentSize_19 rfl (by first | rfl | omega) (by omega) ((lvM_b hM n 10).p hs (by omega)) ?_
  refine ev_iret eX12_lentSize_20 rfl ?_
  exact ⟨rfl, rfl⟩
set_option maxRecDepth 20000 in
theorem m_fixedSize {d : Nat} {σ : St} {B : Bok} (hM : MBk σ 49 B) (hf : Wf B) {n : Nat} (hn : σ 45 29 = (n : Int)) (h16 : n < 8) {s : Nat} (hs : s < 4) (hk : 4 ≤ bk B s) : Ct (d + 2) mX12_fixedSize [.ref 45, vi s] σ (rt (vi (if bk B s = 5 then 2 * ((pt B s 0 : Int) - 100) else (pt B s 0 : Int) - 100)) (lvN σ n (if bk B s = 5 then [14, 13, 10] else [13, 10]))) := by
  refine ct_of hX12_fixedSize (Nat.le_of_ble_eq_true rfl) ?_
  have hk5 := hf.2.2.2.2.1 s hs
  refine ev_aload_n eX12_fixedSize_0 rfl ?_
  refine ev_getr eX12_fixedSize_1 fX12_19 rfl ?_
  refine ev_iload_n eX12_fixedSize_4 rfl ?_
  refine ev_cS2 eX12_fixedSize_5 ⟨lX12_89, kX12_kindOf⟩ rfl (m_kindOf (Or.inl rfl) hM hf hs) ?_
  rintro _ _ ⟨rfl, rfl⟩
  refine ev_iconst eX12_fixedSize_8 ?_
  refine ev_icmp_ne 16 eX12_fixedSize_9 rfl (by omega) (by omega) (fun h9 => ?_) (fun h9 => ?_)
  · skip
    refine ev_iconst eX12_fixedSize_16 ?_
    refine ev_istore_n eX12_fixedSize_17 (by decide) ?_
    refine ev_iload_n eX12_fixedSize_18 rfl ?_
    refine ev_if_eq 28 eX12_fixedSize_19 rfl (by omega) (fun h19 => ?_) (fun h19 => False.elim (by omega))
    refine ev_aload_n eX12_fixedSize_28 rfl ?_
    refine ev_bipush eX12_fixedSize_29 rfl ?_
    refine ev_cV1 eX12_fixedSize_31 ⟨lX12_306, kX12_began⟩ rfl rfl (m_began hn (by omega)) ?_
    rintro _ _ ⟨rfl, rfl⟩
    refine ev_aload_n eX12_fixedSize_34 rfl ?_
    refine ev_iload_n eX12_fixedSize_35 rfl ?_
    refine ev_cV1 eX12_fixedSize_36 ⟨lX12_309, kX12_lentSize⟩ rfl rfl (m_lentSize (lvM_b hM _ _) hf (lvM_n _ _ _) (by omega) hs) ?_
    rintro _ _ ⟨rfl, rfl⟩
    refine ev_bipush eX12_fixedSize_39 rfl ?_
    refine ev_isub eX12_fixedSize_41 ?_
    refine ev_istore_n eX12_fixedSize_42 (by decide) ?_
    refine ev_iload_n eX12_fixedSize_43 rfl ?_
    refine ev_if_eq 53 eX12_fixedSize_44 rfl (by omega) (fun h44 => ?_) (fun h44 => False.elim (by omega))
    refine ev_iload_n eX12_fixedSize_53 rfl ?_
    refine ev_iret eX12_fixedSize_54 rfl ?_
    rw [if_neg (show ¬ bk B s = 5 by omega), if_neg (show ¬ bk B s = 5 by omega)]
    exact ⟨rfl, rfl⟩
  · skip
    refine ev_iconst eX12_fixedSize_12 ?_
    refine ev_goto 17 eX12_fixedSize_13 rfl ?_
    refine ev_istore_n eX12_fixedSize_17 (by decide) ?_
    refine ev_iload_n eX12_fixedSize_18 rfl ?_
    refine ev_if_eq 28 eX12_fixedSize_19 rfl (by omega) (fun h19 => False.elim (by omega)) (fun h19 => ?_)
    refine ev_aload_n eX12_fixedSize_22 rfl ?_
    refine ev_bipush eX12_fixedSize_23 rfl ?_
    refine ev_cV1 eX12_fixedSize_25 ⟨lX12_306, kX12_began⟩ rfl rfl (m_began hn (by omega)) ?_
    rintro _ _ ⟨rfl, rfl⟩
    refine ev_aload_n eX12_fixedSize_28 rfl ?_
    refine ev_bipush eX12_fixedSize_29 rfl ?_
    refine ev_cV1 eX12_fixedSize_31 ⟨lX12_306, kX12_began⟩ rfl rfl (m_began (lvM_n _ _ _) (by omega)) ?_
    rintro _ _ ⟨rfl, rfl⟩
    refine ev_aload_n eX12_fixedSize_34 rfl ?_
    refine ev_iload_n eX12_fixedSize_35 rfl ?_
    refine ev_cV1 eX12_fixedSize_36 ⟨lX12_309, kX12_lentSize⟩ rfl rfl (m_lentSize (lvM_b (lvM_b hM _ _) _ _) hf (lvM_n _ _ _) (by omega) hs) ?_
    rintro _ _ ⟨rfl, rfl⟩
    refine ev_bipush eX12_fixedSize_39 rfl ?_
    refine ev_isub eX12_fixedSize_41 ?_
    refine ev_istore_n eX12_fixedSize_42 (by decide) ?_
    refine ev_iload_n eX12_fixedSize_43 rfl ?_
    refine ev_if_eq 53 eX12_fixedSize_44 rfl (by omega) (fun h44 => False.elim (by omega)) (fun h44 => ?_)
    refine ev_iconst eX12_fixedSize_47 ?_
    refine ev_iload_n eX12_fixedSize_48 rfl ?_
    refine ev_imul eX12_fixedSize_49 ?_
    refine ev_goto 54 eX12_fixedSize_50 rfl ?_
    refine ev_iret eX12_fixedSize_54 rfl ?_
    rw [if_pos (show bk B s = 5 by omega), if_pos (show bk B s = 5 by omega)]
    exact ⟨rfl, rfl⟩
set_option maxRecDepth 20000 in
theorem m_markOf {d : Nat} {σ : St} {B : Bok} (hM : MBk σ 49 B) (hf : Wf B) {n : Nat} (hn : σ 45 29 = (n : Int)) (h16 : n < 5) {s : Nat} (hs : s < 4) (hk : 1 ≤ bk B s) : Ct (d + 3) mX12_markOf [.ref 45, vi s] σ (rt (vi (akV (bk B s) s (pt B s 0) (ws B s) 1)) (lvN σ n (akT (bk B s) 1))) := by
  refine ct_of hX12_markOf (Nat.le_of_ble_eq_true rfl) ?_
  have hk5 := hf.2.2.2.2.1 s hs
  refine ev_aload_n eX12_markOf_0 rfl ?_
  refine ev_getr eX12_markOf_1 fX12_19 rfl ?_
  refine ev_iload_n eX12_markOf_4 rfl ?_
  refine ev_cS2 eX12_markOf_5 ⟨lX12_89, kX12_kindOf⟩ rfl (m_kindOf (Or.inl rfl) hM hf hs) ?_
  rintro _ _ ⟨rfl, rfl⟩
  refine ev_istore_n eX12_markOf_8 (by decide) ?_
  refine ev_iload_n eX12_markOf_9 rfl ?_
  refine ev_iconst eX12_markOf_10 ?_
  refine ev_icmp_lt 34 eX12_markOf_11 rfl (by omega) (by omega) (fun h11 => ?_) (fun h11 => ?_)
  · skip
    refine ev_iload_n eX12_markOf_34 rfl ?_
    refine ev_iconst eX12_markOf_35 ?_
    refine ev_icmp_eq 55 eX12_markOf_36 rfl (by omega) (by omega) (fun h36 => ?_) (fun h36 => ?_)
    · skip
      refine ev_aload_n eX12_markOf_55 rfl ?_
      refine ev_bipush eX12_markOf_56 rfl ?_
      refine ev_cV1 eX12_markOf_58 ⟨lX12_306, kX12_began⟩ rfl rfl (m_began hn (by omega)) ?_
      rintro _ _ ⟨rfl, rfl⟩
      refine ev_aload_n eX12_markOf_61 rfl ?_
      refine ev_bipush eX12_markOf_62 rfl ?_
      refine ev_cV1 eX12_markOf_64 ⟨lX12_306, kX12_began⟩ rfl rfl (m_began (lvM_n _ _ _) (by omega)) ?_
      rintro _ _ ⟨rfl, rfl⟩
      refine ev_iload_n eX12_markOf_67 rfl ?_
      refine ev_aload_n eX12_markOf_68 rfl ?_
      refine ev_getr eX12_markOf_69 fX12_19 rfl ?_
      refine ev_iload_n eX12_markOf_72 rfl ?_
      refine ev_cS2 eX12_markOf_73 ⟨lX12_93, kX12_wordSize⟩ rfl (m_wordSize (Or.inl rfl) (lvM_b (lvM_b hM _ _) _ _) hf hs) ?_
      rintro _ _ ⟨rfl, rfl⟩
      refine ev_iadd eX12_markOf_76 ?_
      refine ev_istore_n eX12_markOf_77 (by decide) ?_
      refine ev_iload_n eX12_markOf_78 rfl ?_
      refine ev_iconst eX12_markOf_79 ?_
      refine ev_icmp_ne 87 eX12_markOf_80 rfl (by omega) (by omega) (fun h80 => False.elim (by omega)) (fun h80 => ?_)
      refine ev_iload_n eX12_markOf_83 rfl ?_
      refine ev_goto 103 eX12_markOf_84 rfl ?_
      refine ev_iret eX12_markOf_103 rfl ?_
      have ek : bk B s = 1 := by omega
      rw [ek]
      exact ⟨rfl, rfl⟩
    · skip
      refine ev_aload_n eX12_markOf_39 rfl ?_
      refine ev_iload_n eX12_markOf_40 rfl ?_
      refine ev_iconst eX12_markOf_41 ?_
      refine ev_icmp_ne 50 eX12_markOf_42 rfl (by omega) (by omega) (fun h42 => ?_) (fun h42 => ?_)
      · skip
        refine ev_bipush eX12_markOf_50 rfl ?_
        refine ev_cV1 eX12_markOf_52 ⟨lX12_306, kX12_began⟩ rfl rfl (m_began hn (by omega)) ?_
        rintro _ _ ⟨rfl, rfl⟩
        refine ev_aload_n eX12_markOf_55 rfl ?_
        refine ev_bipush eX12_markOf_56 rfl ?_
        refine ev_cV1 eX12_markOf_58 ⟨lX12_306, kX12_began⟩ rfl rfl (m_began (lvM_n _ _ _) (by omega)) ?_
        rintro _ _ ⟨rfl, rfl⟩
        refine ev_aload_n eX12_markOf_61 rfl ?_
        refine ev_bipush eX12_markOf_62 rfl ?_
        refine ev_cV1 eX12_markOf_64 ⟨lX12_306, kX12_began⟩ rfl rfl (m_began (lvM_n _ _ _) (by omega)) ?_
        rintro _ _ ⟨rfl, rfl⟩
        refine ev_iload_n eX12_markOf_67 rfl ?_
        refine ev_aload_n eX12_markOf_68 rfl ?_
        refine ev_getr eX12_markOf_69 fX12_19 rfl ?_
        refine ev_iload_n eX12_markOf_72 rfl ?_
        refine ev_cS2 eX12_markOf_73 ⟨lX12_93, kX12_wordSize⟩ rfl (m_wordSize (Or.inl rfl) (lvM_b (lvM_b (lvM_b hM _ _) _ _) _ _) hf hs) ?_
        rintro _ _ ⟨rfl, rfl⟩
        refine ev_iadd eX12_markOf_76 ?_
        refine ev_istore_n eX12_markOf_77 (by decide) ?_
        refine ev_iload_n eX12_markOf_78 rfl ?_
        refine ev_iconst eX12_markOf_79 ?_
        refine ev_icmp_ne 87 eX12_markOf_80 rfl (by omega) (by omega) (fun h80 => ?_) (fun h80 => False.elim (by omega))
        refine ev_iload_n eX12_markOf_87 rfl ?_
        refine ev_iconst eX12_markOf_88 ?_
        refine ev_icmp_ne 100 eX12_markOf_89 rfl (by omega) (by omega) (fun h89 => ?_) (fun h89 => False.elim (by omega))
        refine ev_iconst eX12_markOf_100 ?_
        refine ev_iload_n eX12_markOf_101 rfl ?_
        refine ev_imul eX12_markOf_102 ?_
        refine ev_iret eX12_markOf_103 rfl ?_
        have ek : bk B s = 2 := by omega
        rw [ek]
        exact ⟨rfl, rfl⟩
      · skip
        refine ev_bipush eX12_markOf_45 rfl ?_
        refine ev_goto 52 eX12_markOf_47 rfl ?_
        refine ev_cV1 eX12_markOf_52 ⟨lX12_306, kX12_began⟩ rfl rfl (m_began hn (by omega)) ?_
        rintro _ _ ⟨rfl, rfl⟩
        refine ev_aload_n eX12_markOf_55 rfl ?_
        refine ev_bipush eX12_markOf_56 rfl ?_
        refine ev_cV1 eX12_markOf_58 ⟨lX12_306, kX12_began⟩ rfl rfl (m_began (lvM_n _ _ _) (by omega)) ?_
        rintro _ _ ⟨rfl, rfl⟩
        refine ev_aload_n eX12_markOf_61 rfl ?_
        refine ev_bipush eX12_markOf_62 rfl ?_
        refine ev_cV1 eX12_markOf_64 ⟨lX12_306, kX12_began⟩ rfl rfl (m_began (lvM_n _ _ _) (by omega)) ?_
        rintro _ _ ⟨rfl, rfl⟩
        refine ev_iload_n eX12_markOf_67 rfl ?_
        refine ev_aload_n eX12_markOf_68 rfl ?_
        refine ev_getr eX12_markOf_69 fX12_19 rfl ?_
        refine ev_iload_n eX12_markOf_72 rfl ?_
        refine ev_cS2 eX12_markOf_73 ⟨lX12_93, kX12_wordSize⟩ rfl (m_wordSize (Or.inl rfl) (lvM_b (lvM_b (lvM_b hM _ _) _ _) _ _) hf hs) ?_
        rintro _ _ ⟨rfl, rfl⟩
        refine ev_iadd eX12_markOf_76 ?_
        refine ev_istore_n eX12_markOf_77 (by decide) ?_
        refine ev_iload_n eX12_markOf_78 rfl ?_
        refine ev_iconst eX12_markOf_79 ?_
        refine ev_icmp_ne 87 eX12_markOf_80 rfl (by omega) (by omega) (fun h80 => ?_) (fun h80 => False.elim (by omega))
        refine ev_iload_n eX12_markOf_87 rfl ?_
        refine ev_iconst eX12_markOf_88 ?_
        refine ev_icmp_ne 100 eX12_markOf_89 rfl (by omega) (by omega) (fun h89 => False.elim (by omega)) (fun h89 => ?_)
        refine ev_iload_n eX12_markOf_92 rfl ?_
        refine ev_sipush eX12_markOf_93 rfl ?_
        refine ev_isub eX12_markOf_96 ?_
        refine ev_goto 103 eX12_markOf_97 rfl ?_
        refine ev_iret eX12_markOf_103 rfl ?_
        have ek : bk B s = 3 := by omega
        rw [ek]
        exact ⟨rfl, rfl⟩
  · skip
    refine ev_aload_n eX12_markOf_14 rfl ?_
    refine ev_bipush eX12_markOf_15 rfl ?_
    refine ev_cV1 eX12_markOf_17 ⟨lX12_306, kX12_began⟩ rfl rfl (m_began hn (by omega)) ?_
    rintro _ _ ⟨rfl, rfl⟩
    refine ev_aload_n eX12_markOf_20 rfl ?_
    refine ev_bipush eX12_markOf_21 rfl ?_
    refine ev_cV1 eX12_markOf_23 ⟨lX12_306, kX12_began⟩ rfl rfl (m_began (lvM_n _ _ _) (by omega)) ?_
    rintro _ _ ⟨rfl, rfl⟩
    refine ev_iload_n eX12_markOf_26 rfl ?_
    refine ev_aload_n eX12_markOf_27 rfl ?_
    refine ev_iload_n eX12_markOf_28 rfl ?_
    refine ev_cV1 eX12_markOf_29 ⟨lX12_312, kX12_fixedSize⟩ rfl rfl (m_fixedSize (lvM_b (lvM_b hM _ _) _ _) hf (lvM_n _ _ _) (by omega) hs (by omega)) ?_
    rintro _ _ ⟨rfl, rfl⟩
    refine ev_isub eX12_markOf_32 ?_
    refine ev_iret eX12_markOf_33 rfl ?_
    rcases (show bk B s = 4 ∨ bk B s = 5 by omega) with ek | ek <;> (rw [ek]; exact ⟨rfl, rfl⟩)
set_option maxRecDepth 20000 in
theorem m_askedSize {d : Nat} {σ : St} {B : Bok} (hM : MBk σ 49 B) (hf : Wf B) (hn : σ 45 29 = ((0 : Nat) : Int)) {s : Nat} (hs : s < 4) (hk : 1 ≤ bk B s) : Ct (d + 4) mX12_askedSize [.ref 45, vi s] σ (rt (vi (akV (bk B s) s (pt B s 0) (ws B s) 0)) (lvN σ 0 (akT (bk B s) 0))) := by
  refine ct_of hX12_askedSize (Nat.le_of_ble_eq_true rfl) ?_
  have hk5 := hf.2.2.2.2.1 s hs
  refine ev_aload_n eX12_askedSize_0 rfl ?_
  refine ev_getr eX12_askedSize_1 fX12_19 rfl ?_
  refine ev_iload_n eX12_askedSize_4 rfl ?_
  refine ev_cS2 eX12_askedSize_5 ⟨lX12_89, kX12_kindOf⟩ rfl (m_kindOf (Or.inl rfl) hM hf hs) ?_
  rintro _ _ ⟨rfl, rfl⟩
  refine ev_istore_n eX12_askedSize_8 (by decide) ?_
  refine ev_iload_n eX12_askedSize_9 rfl ?_
  refine ev_iconst eX12_askedSize_10 ?_
  refine ev_icmp_lt 20 eX12_askedSize_11 rfl (by omega) (by omega) (fun h11 => ?_) (fun h11 => ?_)
  · skip
    refine ev_iload_n eX12_askedSize_20 rfl ?_
    refine ev_iconst eX12_askedSize_21 ?_
    refine ev_icmp_ne 31 eX12_askedSize_22 rfl (by omega) (by omega) (fun h22 => ?_) (fun h22 => ?_)
    · skip
      refine ev_aload_n eX12_askedSize_31 rfl ?_
      refine ev_bipush eX12_askedSize_32 rfl ?_
      refine ev_cV1 eX12_askedSize_34 ⟨lX12_306, kX12_began⟩ rfl rfl (m_began hn (by omega)) ?_
      rintro _ _ ⟨rfl, rfl⟩
      refine ev_aload_n eX12_askedSize_37 rfl ?_
      refine ev_iload_n eX12_askedSize_38 rfl ?_
      refine ev_cV1 eX12_askedSize_39 ⟨lX12_309, kX12_lentSize⟩ rfl rfl (m_lentSize (lvM_b hM _ _) hf (lvM_n _ _ _) (by omega) hs) ?_
      rintro _ _ ⟨rfl, rfl⟩
      refine ev_istore_n eX12_askedSize_42 (by decide) ?_
      refine ev_iload_n eX12_askedSize_43 rfl ?_
      refine ev_aload_n eX12_askedSize_44 rfl ?_
      refine ev_iload_n eX12_askedSize_45 rfl ?_
      refine ev_cV1 eX12_askedSize_46 ⟨lX12_315, kX12_markOf⟩ rfl rfl (m_markOf (lvM_b (lvM_b hM _ _) _ _) hf (lvM_n _ _ _) (by omega) hs hk) ?_
      rintro _ _ ⟨rfl, rfl⟩
      refine ev_iadd eX12_askedSize_49 ?_
      refine ev_istore_n eX12_askedSize_50 (by decide) ?_
      refine ev_iload_n eX12_askedSize_51 rfl ?_
      refine ev_iconst eX12_askedSize_52 ?_
      refine ev_icmp_ne 61 eX12_askedSize_53 rfl (by omega) (by omega) (fun h53 => ?_) (fun h53 => False.elim (by omega))
      refine ev_iload_n eX12_askedSize_61 rfl ?_
      refine ev_iret eX12_askedSize_62 rfl ?_
      rcases (show bk B s = 1 ∨ bk B s = 3 by omega) with ek | ek <;> (rw [ek]; exact ⟨rfl, rfl⟩)
    · skip
      refine ev_aload_n eX12_askedSize_25 rfl ?_
      refine ev_bipush eX12_askedSize_26 rfl ?_
      refine ev_cV1 eX12_askedSize_28 ⟨lX12_306, kX12_began⟩ rfl rfl (m_began hn (by omega)) ?_
      rintro _ _ ⟨rfl, rfl⟩
      refine ev_aload_n eX12_askedSize_31 rfl ?_
      refine ev_bipush eX12_askedSize_32 rfl ?_
      refine ev_cV1 eX12_askedSize_34 ⟨lX12_306, kX12_began⟩ rfl rfl (m_began (lvM_n _ _ _) (by omega)) ?_
      rintro _ _ ⟨rfl, rfl⟩
      refine ev_aload_n eX12_askedSize_37 rfl ?_
      refine ev_iload_n eX12_askedSize_38 rfl ?_
      refine ev_cV1 eX12_askedSize_39 ⟨lX12_309, kX12_lentSize⟩ rfl rfl (m_lentSize (lvM_b (lvM_b hM _ _) _ _) hf (lvM_n _ _ _) (by omega) hs) ?_
      rintro _ _ ⟨rfl, rfl⟩
      refine ev_istore_n eX12_askedSize_42 (by decide) ?_
      refine ev_iload_n eX12_askedSize_43 rfl ?_
      refine ev_aload_n eX12_askedSize_44 rfl ?_
      refine ev_iload_n eX12_askedSize_45 rfl ?_
      refine ev_cV1 eX12_askedSize_46 ⟨lX12_315, kX12_markOf⟩ rfl rfl (m_markOf (lvM_b (lvM_b (lvM_b hM _ _) _ _) _ _) hf (lvM_n _ _ _) (by omega) hs hk) ?_
      rintro _ _ ⟨rfl, rfl⟩
      refine ev_iadd eX12_askedSize_49 ?_
      refine ev_istore_n eX12_askedSize_50 (by decide) ?_
      refine ev_iload_n eX12_askedSize_51 rfl ?_
      refine ev_iconst eX12_askedSize_52 ?_
      refine ev_icmp_ne 61 eX12_askedSize_53 rfl (by omega) (by omega) (fun h53 => False.elim (by omega)) (fun h53 => ?_)
      refine ev_iload_n eX12_askedSize_56 rfl ?_
      refine ev_ineg eX12_askedSize_57 ?_
      refine ev_goto 62 eX12_askedSize_58 rfl ?_
      refine ev_iret eX12_askedSize_62 rfl ?_
      have ek : bk B s = 2 := by omega
      rw [ek]
      exact ⟨rfl, rfl⟩
  · skip
    refine ev_aload_n eX12_askedSize_14 rfl ?_
    refine ev_iload_n eX12_askedSize_15 rfl ?_
    refine ev_cV1 eX12_askedSize_16 ⟨lX12_312, kX12_fixedSize⟩ rfl rfl (m_fixedSize hM hf hn (by omega) hs (by omega)) ?_
    rintro _ _ ⟨rfl, rfl⟩
    refine ev_iret eX12_askedSize_19 rfl ?_
    rcases (show bk B s = 4 ∨ bk B s = 5 by omega) with ek | ek <;> (rw [ek]; exact ⟨rfl, rfl⟩)
set_option maxRecDepth 20000 in
theorem m_ask {d : Nat} {σ : St} {B : Bok} (hM : MBk σ 49 B) (hZ : OkZ B) {x k : Int} (hx : -2147483648 ≤ x ∧ x ≤ 2147483647) (hk : -2147483648 ≤ k ∧ k ≤ 2147483647) : Ct (d + 5) mX12_ask [.ref 45, vi x, vi k] σ (fun r τ => (¬ ((0 ≤ x ∧ x < B 2) ∧ 0 ≤ k ∧ k ≤ 1) → some (vi (-1000001)) = r ∧ σ = τ) ∧ ((0 ≤ x ∧ x < B 2) ∧ 0 ≤ k ∧ k ≤ 1 → some (vi (akV (bk B x.toNat) x (pt B x.toNat 0) (ws B x.toNat) k.toNat)) = r ∧ lvN (up σ 45 29 0) 0 (akT (bk B x.toNat) k.toNat) = τ)) := by
  refine ct_of hX12_ask (Nat.le_of_ble_eq_true rfl) ?_
  have hf := hZ.wf
  have h7 := hf.2.1
  have h8 := hf.2.2.1
  refine ev_aload_n eX12_ask_0 rfl ?_
  refine ev_iload_n eX12_ask_1 rfl ?_
  refine ev_cV1 eX12_ask_2 ⟨lX12_182, kX12_isSort⟩ rfl rfl (m_isSort hM hZ.wf (x := x) (by omega)) ?_
  rintro _ _ ⟨rfl, rfl⟩
  refine ev_ifb_eq 18 eX12_ask_5 rfl (fun h5 => ?_) (fun h5 => ?_)
  · skip
    refine ev_ldc eX12_ask_18 qX12_80 ?_
    refine ev_iret eX12_ask_20 rfl ?_
    refine ⟨fun hc => ?_, fun hc => ?_⟩ <;> first | (exfalso; omega) | (exact ⟨rfl, rfl⟩)
  · skip
    refine ev_iload_n eX12_ask_8 rfl ?_
    refine ev_i2l eX12_ask_9 (by omega) ?_
    refine ev_lconst 0 eX12_ask_10 rfl ?_
    refine ev_lconst 1 eX12_ask_11 rfl ?_
    refine ev_cS3 eX12_ask_12 ⟨lX12_70, kX12_in⟩ rfl (m_in (a := k) (b := 0) (c := 1) (by omega) (by omega) (by omega)) ?_
    rintro _ _ ⟨rfl, rfl⟩
    refine ev_ifb_ne 21 eX12_ask_15 rfl (fun h15 => ?_) (fun h15 => ?_)
    · skip
      obtain ⟨x, rfl⟩ : ∃ q : Nat, x = q := ⟨x.toNat, by omega⟩
      rw [Int.toNat_natCast]
      have hO := hZ.ok (by omega)
      have hk1 := (hO.2.2.2.2 x (by omega)).1
      have hM0 : MBk (up σ 45 29 0) 49 B := hM.of (up_o _ _ _ (by decide))
      refine ev_aload_n eX12_ask_21 rfl ?_
      refine ev_iconst eX12_ask_22 ?_
      refine ev_puti eX12_ask_23 pX12_303 rfl ?_
      refine ev_iload_n eX12_ask_26 rfl ?_
      refine ev_if_ne 38 eX12_ask_27 rfl (by omega) (fun h27 => ?_) (fun h27 => ?_)
      · skip
        refine ev_aload_n eX12_ask_38 rfl ?_
        refine ev_iload_n eX12_ask_39 rfl ?_
        refine ev_cV1 eX12_ask_40 ⟨lX12_315, kX12_markOf⟩ rfl rfl (m_markOf hM0 hf (n := 0) (up_s _ _ _ _) (by omega) (s := x) (by omega) hk1) ?_
        rintro _ _ ⟨rfl, rfl⟩
        refine ev_iret eX12_ask_43 rfl ?_
        obtain rfl : k = 1 := by omega
        exact ⟨fun hc => absurd hc (by omega), fun _ => ⟨rfl, rfl⟩⟩
      · skip
        refine ev_aload_n eX12_ask_30 rfl ?_
        refine ev_iload_n eX12_ask_31 rfl ?_
        refine ev_cV1 eX12_ask_32 ⟨lX12_318, kX12_askedSize⟩ rfl rfl (m_askedSize hM0 hf (up_s _ _ _ _) (s := x) (by omega) hk1) ?_
        rintro _ _ ⟨rfl, rfl⟩
        refine ev_goto 43 eX12_ask_35 rfl ?_
        refine ev_iret eX12_ask_43 rfl ?_
        obtain rfl : k = 0 := by omega
        exact ⟨fun hc => absurd hc (by omega), fun _ => ⟨rfl, rfl⟩⟩
    · skip
      refine ev_ldc eX12_ask_18 qX12_80 ?_
      refine ev_iret eX12_ask_20 rfl ?_
      refine ⟨fun hc => ?_, fun hc => ?_⟩ <;> first | (exfalso; omega) | (exact ⟨rfl, rfl⟩)
set_option maxRecDepth 20000 in
theorem m_loa_l {d : Nat} {σ : St} {B : Bok} (hM : MBk σ 49 B) (hf : Wf B) : ∀ (fu : Nat) {s : Nat}, B 2 - s < fu → s ≤ B 2 → Ev (d + 1) mX12_lettersOfAll 4 [.ref 45, vi (sumF (ws B) s), vi s] [] σ (rt (vi (sumF (ws B) (B 2))) σ) := by
  intro fu
  induction fu with
  | zero => intros; omega
  | succ fu ih =>
    intro s hm h1
    have h4 := hf.2.1
    refine ev_iload_n eX12_lettersOfAll_4 rfl ?_
    refine ev_aload_n eX12_lettersOfAll_5 rfl ?_
    refine ev_getr eX12_lettersOfAll_6 fX12_19 rfl ?_
    refine ev_iconst eX12_lettersOfAll_9 ?_
    refine ev_ialdv (0) eX12_lettersOfAll_10 rfl (by first | rfl | omega) (by omega) hM.S ?_
    refine ev_icmp_ge 31 eX12_lettersOfAll_11 rfl (by omega) (by omega) (fun h11 => ?_) (fun h11 => ?_)
    · skip
      refine ev_iload_n eX12_lettersOfAll_31 rfl ?_
      refine ev_iret eX12_lettersOfAll_32 rfl ?_
      exact ⟨congrArg (fun q => some (vi q)) (by rw [show s = B 2 by omega]), rfl⟩
    · skip
      refine ev_iload_n eX12_lettersOfAll_14 rfl ?_
      refine ev_aload_n eX12_lettersOfAll_15 rfl ?_
      refine ev_getr eX12_lettersOfAll_16 fX12_19 rfl ?_
      refine ev_iload_n eX12_lettersOfAll_19 rfl ?_
      refine ev_cS2 eX12_lettersOfAll_20 ⟨lX12_93, kX12_wordSize⟩ rfl (m_wordSize (Or.inl rfl) hM hf (s := s) (by omega)) ?_
      rintro _ _ ⟨rfl, rfl⟩
      refine ev_iadd eX12_lettersOfAll_23 ?_
      refine ev_istore_n eX12_lettersOfAll_24 (by decide) ?_
      refine ev_iinc eX12_lettersOfAll_25 rfl (by decide) ?_
      refine ev_goto 4 eX12_lettersOfAll_28 rfl ?_
      exact ih (s := s + 1) (by omega) (by omega)
set_option maxRecDepth 20000 in
theorem m_lettersOfAll {d : Nat} {σ : St} {B : Bok} (hM : MBk σ 49 B) (hf : Wf B) : Ct (d + 1) mX12_lettersOfAll [.ref 45] σ (rt (vi (sumF (ws B) (B 2))) σ) := by
  refine ct_of hX12_lettersOfAll (Nat.le_of_ble_eq_true rfl) ?_
  refine ev_iconst eX12_lettersOfAll_0 ?_
  refine ev_istore_n eX12_lettersOfAll_1 (by decide) ?_
  refine ev_iconst eX12_lettersOfAll_2 ?_
  refine ev_istore_n eX12_lettersOfAll_3 (by decide) ?_
  exact m_loa_l hM hf 5 (s := 0) (by have := hf.2.1; omega) (by omega)
set_option maxRecDepth 20000 in
theorem m_cnt_l {d : Nat} {σ : St} {la : Nat → Int} {sz : Nat → Nat} {it : Nat → Int} (hW : MRw σ la sz it)  : ∀ (fu : Nat) {r : Nat}, 8 - r < fu → r ≤ 8 → Ev (d) mX12_count 42 [.ref 45, vi 0, vi (cntN la r), vi r] [] σ (rt (vi (cntN la 8)) σ) := by
  intro fu
  induction fu with
  | zero => intros; omega
  | succ fu ih =>
    intro r hm h1
    refine ev_iload_n eX12_count_42 rfl ?_
    refine ev_bipush eX12_count_43 rfl ?_
    refine ev_icmp_ge 71 eX12_count_45 rfl (by omega) (by omega) (fun h45 => ?_) (fun h45 => ?_)
    · skip
      refine ev_iload_n eX12_count_71 rfl ?_
      refine ev_iret eX12_count_72 rfl ?_
      exact ⟨congrArg (fun q => some (vi q)) (by rw [show r = 8 by omega]), rfl⟩
    · skip
      refine ev_iload_n eX12_count_48 rfl ?_
      refine ev_aload_n eX12_count_49 rfl ?_
      refine ev_getr eX12_count_50 fX12_7 rfl ?_
      refine ev_iload_n eX12_count_53 rfl ?_
      have hla := (hW r (by omega)).2.1
      refine ev_ialdv (r) eX12_count_54 rfl (by first | rfl | omega) (by omega) (hW r (by omega)).1 ?_
      refine ev_if_lt 62 eX12_count_55 rfl (by omega) (fun h55 => ?_) (fun h55 => ?_)
      · skip
        refine ev_iconst eX12_count_62 ?_
        refine ev_iadd eX12_count_63 ?_
        refine ev_istore_n eX12_count_64 (by decide) ?_
        refine ev_iinc eX12_count_65 rfl (by decide) ?_
        refine ev_goto 42 eX12_count_68 rfl ?_
        first | (rw [show ((cntN la r : Nat) : Int) + 1 = ((cntN la (r + 1) : Nat) : Int) by show _ = ((cntN la r + (if la r = -1 then 0 else 1) : Nat) : Int); rw [if_neg (by omega)]; rfl]; exact ih (r := r + 1) (by omega) (by omega)) | (rw [show ((cntN la r : Nat) : Int) + 0 = ((cntN la (r + 1) : Nat) : Int) by show _ = ((cntN la r + (if la r = -1 then 0 else 1) : Nat) : Int); rw [if_pos (by omega)]; rfl]; exact ih (r := r + 1) (by omega) (by omega))
      · skip
        refine ev_iconst eX12_count_58 ?_
        refine ev_goto 63 eX12_count_59 rfl ?_
        refine ev_iadd eX12_count_63 ?_
        refine ev_istore_n eX12_count_64 (by decide) ?_
        refine ev_iinc eX12_count_65 rfl (by decide) ?_
        refine ev_goto 42 eX12_count_68 rfl ?_
        first | (rw [show ((cntN la r : Nat) : Int) + 1 = ((cntN la (r + 1) : Nat) : Int) by show _ = ((cntN la r + (if la r = -1 then 0 else 1) : Nat) : Int); rw [if_neg (by omega)]; rfl]; exact ih (r := r + 1) (by omega) (by omega)) | (rw [show ((cntN la r : Nat) : Int) + 0 = ((cntN la (r + 1) : Nat) : Int) by show _ = ((cntN la r + (if la r = -1 then 0 else 1) : Nat) : Int); rw [if_pos (by omega)]; rfl]; exact ih (r := r + 1) (by omega) (by omega))
set_option maxRecDepth 20000 in
theorem m_count {d : Nat} {σ : St} {B : Bok} (hM : MBk σ 49 B) (hZ : OkZ B) {la : Nat → Int} {sz : Nat → Nat} {it : Nat → Int} (hW : MRw σ la sz it) {na nt : Nat} (hna : σ 45 8 = (na : Int)) (hnt : σ 45 12 = (nt : Int)) {x : Int} (hx : -2147483648 ≤ x ∧ x ≤ 2147483647) : Ct (d + 2) mX12_count [.ref 45, vi x] σ (fun r τ => σ = τ ∧ some (vi (if x = 0 then (cntN la 8 : Int) else if x = 1 then (B 2 : Int) else if x = 2 then (B 3 : Int) else if x = 3 then (sumF (ws B) (B 2) : Int) else if x = 4 then (na : Int) else if x = 5 then (nt : Int) else -1000001)) = r) := by
  refine ct_of hX12_count (Nat.le_of_ble_eq_true rfl) ?_
  have hf := hZ.wf
  have h7 := hf.2.1
  have h8 := hf.2.2.1
  refine ev_iconst eX12_count_0 ?_
  refine ev_istore_n eX12_count_1 (by decide) ?_
  refine ev_iload_n eX12_count_2 rfl ?_
  by_cases hsw : x < 0 ∨ 5 < x
  · refine ev_tswO 102 eX12_count_3 (by omega) (by omega) rfl ?_
    refine ev_ldc eX12_count_102 qX12_80 ?_
    refine ev_iret eX12_count_104 rfl ?_
    refine ⟨rfl, congrArg (fun q => some (vi q)) ?_⟩
    rw [if_neg (by omega), if_neg (by omega), if_neg (by omega), if_neg (by omega), if_neg (by omega), if_neg (by omega)]
  · rcases (show x = 0 ∨ x = 1 ∨ x = 2 ∨ x = 3 ∨ x = 4 ∨ x = 5 by omega) with rfl | rfl | rfl | rfl | rfl | rfl
    · refine ev_tswI 40 eX12_count_3 (by omega) (by omega) rfl rfl ?_
      refine ev_iconst eX12_count_40 ?_
      refine ev_istore_n eX12_count_41 (by decide) ?_
      refine ev_mono (fun r τ h => ?_) (m_cnt_l hW 9 (r := 0) (by omega) (by omega))
      obtain ⟨rfl, rfl⟩ := h
      exact ⟨rfl, rfl⟩
    · refine ev_tswI 73 eX12_count_3 (by omega) (by omega) rfl rfl ?_
      refine ev_aload_n eX12_count_73 rfl ?_
      refine ev_getr eX12_count_74 fX12_19 rfl ?_
      refine ev_iconst eX12_count_77 ?_
      refine ev_ialdv (0) eX12_count_78 rfl (by first | rfl | omega) (by omega) hM.S ?_
      refine ev_iret eX12_count_79 rfl ?_
      refine ⟨rfl, congrArg (fun q => some (vi q)) ?_⟩
      rw [if_neg (by omega), if_pos rfl]
    · refine ev_tswI 80 eX12_count_3 (by omega) (by omega) rfl rfl ?_
      refine ev_aload_n eX12_count_80 rfl ?_
      refine ev_getr eX12_count_81 fX12_19 rfl ?_
      refine ev_iconst eX12_count_84 ?_
      refine ev_ialdv (3) eX12_count_85 rfl (by first | rfl | omega) (by omega) hM.N ?_
      refine ev_iret eX12_count_86 rfl ?_
      refine ⟨rfl, congrArg (fun q => some (vi q)) ?_⟩
      rw [if_neg (by omega), if_neg (by omega), if_pos rfl]
    · refine ev_tswI 87 eX12_count_3 (by omega) (by omega) rfl rfl ?_
      refine ev_aload_n eX12_count_87 rfl ?_
      refine ev_cV0 eX12_count_88 ⟨lX12_321, kX12_lettersOfAll⟩ rfl rfl (m_lettersOfAll hM hf) ?_
      rintro _ _ ⟨rfl, rfl⟩
      refine ev_iret eX12_count_91 rfl ?_
      refine ⟨rfl, congrArg (fun q => some (vi q)) ?_⟩
      rw [if_neg (by omega), if_neg (by omega), if_neg (by omega), if_pos rfl]
    · refine ev_tswI 92 eX12_count_3 (by omega) (by omega) rfl rfl ?_
      refine ev_aload_n eX12_count_92 rfl ?_
      refine ev_getiv eX12_count_93 fX12_175 rfl hna ?_
      refine ev_iret eX12_count_96 rfl ?_
      refine ⟨rfl, congrArg (fun q => some (vi q)) ?_⟩
      rw [if_neg (by omega), if_neg (by omega), if_neg (by omega), if_neg (by omega), if_pos rfl]
    · refine ev_tswI 97 eX12_count_3 (by omega) (by omega) rfl rfl ?_
      refine ev_aload_n eX12_count_97 rfl ?_
      refine ev_getiv eX12_count_98 fX12_109 rfl hnt ?_
      refine ev_iret eX12_count_101 rfl ?_
      refine ⟨rfl, congrArg (fun q => some (vi q)) ?_⟩
      rw [if_neg (by omega), if_neg (by omega), if_neg (by omega), if_neg (by omega), if_neg (by omega), if_pos rfl]
set_option maxRecDepth 20000 in
theorem m_image_l {d : Nat} {σ : St} {q : Nat} (hq : q < 2) : ∀ (fu : Nat) {k : Nat} {τ : St}, 44 - k < fu → k ≤ 44 → (∀ j, τ 61 j = if 44 * q ≤ j ∧ j < 44 * q + k then σ 49 (j - 44 * q) else σ 61 j) → (∀ c, c ≠ 61 → τ c = σ c) → Ev (d) mX12_image 25 [.ref 45, vi q, vi k] [] τ (fun r τ => some (vi 1) = r ∧ (∀ j, τ 61 j = if 44 * q ≤ j ∧ j < 44 * q + 44 then σ 49 (j - 44 * q) else σ 61 j) ∧ τ 60 = upF (σ 60) q 1 ∧ ∀ c, c ≠ 60 → c ≠ 61 → τ c = σ c) := by
  intro fu
  induction fu with
  | zero => intros; omega
  | succ fu ih =>
    intro k τ hm h1 h2 h3
    refine ev_iload_n eX12_image_25 rfl ?_
    refine ev_bipush eX12_image_26 rfl ?_
    refine ev_icmp_ge 54 eX12_image_28 rfl (by omega) (by omega) (fun h28 => ?_) (fun h28 => ?_)
    · skip
      refine ev_aload_n eX12_image_54 rfl ?_
      refine ev_getr eX12_image_55 fX12_54 rfl ?_
      refine ev_iload_n eX12_image_58 rfl ?_
      refine ev_iconst eX12_image_59 ?_
      refine ev_zast (q) eX12_image_60 rfl (by first | rfl | omega) (by omega) (Or.inr rfl) ?_
      refine ev_iconst eX12_image_61 ?_
      refine ev_iret eX12_image_62 rfl ?_
      refine ⟨rfl, fun j => ?_, ?_, fun c a1 a2 => ?_⟩
      · rw [up_o _ _ _ (by decide), h2 j, show k = 44 by omega]
      · rw [up_r, h3 60 (by decide)]
      · rw [up_o _ _ _ a1]; exact h3 c a2
    · skip
      refine ev_aload_n eX12_image_31 rfl ?_
      refine ev_getr eX12_image_32 fX12_57 rfl ?_
      refine ev_bipush eX12_image_35 rfl ?_
      refine ev_iload_n eX12_image_37 rfl ?_
      refine ev_imul eX12_image_38 ?_
      refine ev_iload_n eX12_image_39 rfl ?_
      refine ev_iadd eX12_image_40 ?_
      refine ev_aload_n eX12_image_41 rfl ?_
      refine ev_getr eX12_image_42 fX12_19 rfl ?_
      refine ev_iload_n eX12_image_45 rfl ?_
      refine ev_ialdv (k) eX12_image_46 rfl (by first | rfl | omega) (by omega) (show τ 49 k = σ 49 k by rw [h3 49 (by decide)]) ?_
      refine ev_iast (((44 * q) + k)) eX12_image_47 rfl (by first | rfl | omega) (by omega) ?_
      refine ev_iinc eX12_image_48 rfl (by decide) ?_
      refine ev_goto 25 eX12_image_51 rfl ?_
      refine ih (k := k + 1) (by omega) (by omega) (fun j => ?_) (fun c hc => by rw [up_o _ _ _ hc]; exact h3 c hc)
      by_cases e : j = 44 * q + k
      · subst e
        rw [up_s, if_pos (by omega), show 44 * q + k - 44 * q = k by omega]
      · rw [up_n _ _ e, h2 j]
        by_cases e2 : 44 * q ≤ j ∧ j < 44 * q + k
        · rw [if_pos e2, if_pos (by omega)]
        · rw [if_neg e2, if_neg (by omega)]
set_option maxRecDepth 20000 in
theorem m_image {d : Nat} {σ : St} {B : Bok} (hM : MBk σ 49 B) (hZ : OkZ B) {x : Int} (hx : -2147483648 ≤ x ∧ x ≤ 2147483647) : Ct (d + 2) mX12_image [.ref 45, vi x] σ (fun r τ => (¬ (0 ≤ x ∧ x < 2) → some (vi (-1000001)) = r ∧ σ = τ) ∧ ((0 ≤ x ∧ x < 2) ∧ B 2 = 0 → some (vi (-1000002)) = r ∧ σ = τ) ∧ ((0 ≤ x ∧ x < 2) ∧ 0 < B 2 → some (vi 1) = r ∧ (∀ j, τ 61 j = if 44 * x.toNat ≤ j ∧ j < 44 * x.toNat + 44 then σ 49 (j - 44 * x.toNat) else σ 61 j) ∧ τ 60 = upF (σ 60) x.toNat 1 ∧ ∀ c, c ≠ 60 → c ≠ 61 → τ c = σ c)) := by
  refine ct_of hX12_image (Nat.le_of_ble_eq_true rfl) ?_
  have hf := hZ.wf
  have h7 := hf.2.1
  have h8 := hf.2.2.1
  refine ev_iload_n eX12_image_0 rfl ?_
  refine ev_i2l eX12_image_1 (by omega) ?_
  refine ev_lconst 0 eX12_image_2 rfl ?_
  refine ev_lconst 1 eX12_image_3 rfl ?_
  refine ev_cS3 eX12_image_4 ⟨lX12_70, kX12_in⟩ rfl (m_in (a := x) (b := 0) (c := 1) (by omega) (by omega) (by omega)) ?_
  rintro _ _ ⟨rfl, rfl⟩
  refine ev_ifb_ne 13 eX12_image_7 rfl (fun h7 => ?_) (fun h7 => ?_)
  · skip
    refine ev_aload_n eX12_image_13 rfl ?_
    refine ev_cV0 eX12_image_14 ⟨lX12_197, kX12_isThere⟩ rfl rfl (m_isThere hM hZ.wf) ?_
    rintro _ _ ⟨rfl, rfl⟩
    refine ev_ifb_ne 23 eX12_image_17 rfl (fun h17 => ?_) (fun h17 => ?_)
    · skip
      refine ev_iconst eX12_image_23 ?_
      refine ev_istore_n eX12_image_24 (by decide) ?_
      obtain ⟨x, rfl⟩ : ∃ q : Nat, x = q := ⟨x.toNat, by omega⟩
      rw [Int.toNat_natCast]
      refine ev_mono (fun r τ h => ?_) (m_image_l (q := x) (by omega) 45 (k := 0) (by omega) (by omega) (fun j => by rw [if_neg (by omega)]) (fun _ _ => rfl))
      exact ⟨fun hc => absurd hc (by omega), fun hc => absurd hc.2 (by omega), fun _ => h⟩
    · skip
      refine ev_ldc eX12_image_20 qX12_178 ?_
      refine ev_iret eX12_image_22 rfl ?_
      refine ⟨fun hc => ?_, fun hc => ?_, fun hc => ?_⟩ <;> first | (exfalso; omega) | (exact ⟨rfl, rfl⟩)
  · skip
    refine ev_ldc eX12_image_10 qX12_80 ?_
    refine ev_iret eX12_image_12 rfl ?_
    refine ⟨fun hc => ?_, fun hc => ?_, fun hc => ?_⟩ <;> first | (exfalso; omega) | (exact ⟨rfl, rfl⟩)
set_option maxRecDepth 20000 in
theorem m_rest_l {d : Nat} {σ : St} {q : Nat} (hq : q < 2) : ∀ (fu : Nat) {k : Nat} {τ : St}, 44 - k < fu → k ≤ 44 → (∀ j, j < k → τ 49 j = σ 61 (44 * q + j)) → (∀ c, c ≠ 49 → τ c = σ c) → Ev (d) mX12_restore 27 [.ref 45, vi q, vi k] [] τ (fun r τ => some (vi 1) = r ∧ (∀ j, j < 44 → τ 49 j = σ 61 (44 * q + j)) ∧ τ 45 8 = 0 ∧ (∀ j, j ≠ 8 → τ 45 j = σ 45 j) ∧ ∀ c, c ≠ 45 → c ≠ 49 → τ c = σ c) := by
  intro fu
  induction fu with
  | zero => intros; omega
  | succ fu ih =>
    intro k τ hm h1 h2 h3
    refine ev_iload_n eX12_restore_27 rfl ?_
    refine ev_bipush eX12_restore_28 rfl ?_
    refine ev_icmp_ge 56 eX12_restore_30 rfl (by omega) (by omega) (fun h30 => ?_) (fun h30 => ?_)
    · skip
      refine ev_aload_n eX12_restore_56 rfl ?_
      refine ev_iconst eX12_restore_57 ?_
      refine ev_puti eX12_restore_58 pX12_175 rfl ?_
      refine ev_iconst eX12_restore_61 ?_
      refine ev_iret eX12_restore_62 rfl ?_
      refine ⟨rfl, fun j hj => ?_, up_s _ _ _ _, fun j hj => ?_, fun c a1 a2 => ?_⟩
      · rw [up_o _ _ _ (by decide), h2 j (by omega)]
      · rw [up_n _ _ hj, h3 45 (by decide)]
      · rw [up_o _ _ _ a1]; exact h3 c a2
    · skip
      refine ev_aload_n eX12_restore_33 rfl ?_
      refine ev_getr eX12_restore_34 fX12_19 rfl ?_
      refine ev_iload_n eX12_restore_37 rfl ?_
      refine ev_aload_n eX12_restore_38 rfl ?_
      refine ev_getr eX12_restore_39 fX12_57 rfl ?_
      refine ev_bipush eX12_restore_42 rfl ?_
      refine ev_iload_n eX12_restore_44 rfl ?_
      refine ev_imul eX12_restore_45 ?_
      refine ev_iload_n eX12_restore_46 rfl ?_
      refine ev_iadd eX12_restore_47 ?_
      refine ev_ialdv (((44 * q) + k)) eX12_restore_48 rfl (by first | rfl | omega) (by omega) (show τ 61 (44 * q + k) = σ 61 (44 * q + k) by rw [h3 61 (by decide)]) ?_
      refine ev_iast (k) eX12_restore_49 rfl (by first | rfl | omega) (by omega) ?_
      refine ev_iinc eX12_restore_50 rfl (by decide) ?_
      refine ev_goto 27 eX12_restore_53 rfl ?_
      refine ih (k := k + 1) (by omega) (by omega) (fun j hj => ?_) (fun c hc => by rw [up_o _ _ _ hc]; exact h3 c hc)
      by_cases e : j = k
      · subst e; exact up_s _ _ _ _
      · rw [up_n _ _ e]; exact h2 j (by omega)
set_option maxRecDepth 20000 in
theorem m_restore {d : Nat} {σ : St} {m : Nat} (hm : ∀ k, k < 2 → σ 60 k = ((m / 2 ^ k % 2 : Nat) : Int)) {x : Int} (hx : -2147483648 ≤ x ∧ x ≤ 2147483647) : Ct (d + 1) mX12_restore [.ref 45, vi x] σ (fun r τ => (¬ (0 ≤ x ∧ x < 2) → some (vi (-1000001)) = r ∧ σ = τ) ∧ ((0 ≤ x ∧ x < 2) ∧ m / 2 ^ x.toNat % 2 ≠ 1 → some (vi (-1000002)) = r ∧ σ = τ) ∧ ((0 ≤ x ∧ x < 2) ∧ m / 2 ^ x.toNat % 2 = 1 → some (vi 1) = r ∧ (∀ j, j < 44 → τ 49 j = σ 61 (44 * x.toNat + j)) ∧ τ 45 8 = 0 ∧ (∀ j, j ≠ 8 → τ 45 j = σ 45 j) ∧ ∀ c, c ≠ 45 → c ≠ 49 → τ c = σ c)) := by
  refine ct_of hX12_restore (Nat.le_of_ble_eq_true rfl) ?_
  refine ev_iload_n eX12_restore_0 rfl ?_
  refine ev_i2l eX12_restore_1 (by omega) ?_
  refine ev_lconst 0 eX12_restore_2 rfl ?_
  refine ev_lconst 1 eX12_restore_3 rfl ?_
  refine ev_cS3 eX12_restore_4 ⟨lX12_70, kX12_in⟩ rfl (m_in (a := x) (b := 0) (c := 1) (by omega) (by omega) (by omega)) ?_
  rintro _ _ ⟨rfl, rfl⟩
  refine ev_ifb_ne 13 eX12_restore_7 rfl (fun h7 => ?_) (fun h7 => ?_)
  · skip
    obtain ⟨x, rfl⟩ : ∃ q : Nat, x = q := ⟨x.toNat, by omega⟩
    rw [Int.toNat_natCast]
    have h01 := Nat.mod_two_eq_zero_or_one (m / 2 ^ x)
    refine ev_aload_n eX12_restore_13 rfl ?_
    refine ev_getr eX12_restore_14 fX12_54 rfl ?_
    refine ev_iload_n eX12_restore_17 rfl ?_
    refine ev_zaldv (x) eX12_restore_18 rfl (by first | rfl | omega) (by omega) (hm x (by omega)) ?_
    refine ev_if_ne 25 eX12_restore_19 rfl (by omega) (fun h19 => ?_) (fun h19 => ?_)
    · skip
      refine ev_iconst eX12_restore_25 ?_
      refine ev_istore_n eX12_restore_26 (by decide) ?_
      refine ev_mono (fun r τ h => ?_) (m_rest_l (q := x) (by omega) 45 (k := 0) (by omega) (by omega) (fun j hj => by omega) (fun _ _ => rfl))
      exact ⟨fun hc => absurd hc (by omega), fun hc => absurd hc.2 (by omega), fun _ => h⟩
    · skip
      refine ev_ldc eX12_restore_22 qX12_178 ?_
      refine ev_iret eX12_restore_24 rfl ?_
      refine ⟨fun hc => absurd hc (by omega), fun hc => ⟨rfl, rfl⟩, fun hc => absurd hc.2 (by omega)⟩
  · skip
    refine ev_ldc eX12_restore_10 qX12_80 ?_
    refine ev_iret eX12_restore_12 rfl ?_
    refine ⟨fun hc => ⟨rfl, rfl⟩, fun hc => absurd hc.1 (by omega), fun hc => absurd hc.1 (by omega)⟩
