/-! the reference: calls that change the book, small calls -/
theorem MBk.ro {σ : St} {B : Bok} {τ : St} (h : MBk σ 49 B) (e : ∀ c, c ≠ 45 → c ≠ 52 → τ c = σ c) : MBk τ 49 B := h.of (e 49 (by decide) (by decide))
def Mfr (σ τ : St) : Prop := (∀ j, j ≠ 0 → j ≠ 8 → τ 45 j = σ 45 j) ∧ ∀ c, c ≠ 45 → c ≠ 49 → c ≠ 52 → τ c = σ c
set_option maxRecDepth 20000 in
theorem m_length {d : Nat} {σ : St} {B : Bok} (hM : MBk σ 49 B) (hZ : OkZ B) {na : Nat} {Ac : Nat → Bok} (hA : MAc σ na Ac) {x e v : Int} (hx : -2147483648 ≤ x ∧ x ≤ 2147483647) (he : -2147483648 ≤ e ∧ e ≤ 2147483647) (hv : -2147483648 ≤ v ∧ v ≤ 2147483647) : Ct (d + 2) mX12_length [.ref 45, vi x, vi e, vi v] σ (fun r τ => (¬ ((0 ≤ x ∧ x < B 2) ∧ (0 ≤ e ∧ e ≤ 1) ∧ 0 ≤ v ∧ v ≤ 9) → some (vi (-1000001)) = r ∧ σ = τ) ∧ ((0 ≤ x ∧ x < B 2) ∧ (0 ≤ e ∧ e ≤ 1) ∧ 0 ≤ v ∧ v ≤ 9 → some (vi (pt B x.toNat e.toNat)) = r ∧ MBk τ 49 (upB B (8 + 2 * x.toNat + e.toNat) v.toNat) ∧ MAc τ (naN na + 1) (acN na Ac B) ∧ τ 45 0 = σ 45 0 ∧ Mfr σ τ)) := by
  refine ct_of hX12_length (Nat.le_of_ble_eq_true rfl) ?_
  have hf := hZ.wf
  have h7 := hf.2.1
  have h8 := hf.2.2.1
  refine ev_aload_n eX12_length_0 rfl ?_
  refine ev_iload_n eX12_length_1 rfl ?_
  refine ev_cV1 eX12_length_2 ⟨lX12_182, kX12_isSort⟩ rfl rfl (m_isSort hM hZ.wf (x := x) (by omega)) ?_
  rintro _ _ ⟨rfl, rfl⟩
  refine ev_ifb_eq 30 eX12_length_5 rfl (fun h5 => ?_) (fun h5 => ?_)
  · skip
    refine ev_ldc eX12_length_30 qX12_80 ?_
    refine ev_iret eX12_length_32 rfl ?_
    refine ⟨fun hc => ?_, fun hc => ?_⟩ <;> first | (exfalso; omega) | (exact ⟨rfl, rfl⟩)
  · skip
    refine ev_iload_n eX12_length_8 rfl ?_
    refine ev_i2l eX12_length_9 (by omega) ?_
    refine ev_lconst 0 eX12_length_10 rfl ?_
    refine ev_lconst 1 eX12_length_11 rfl ?_
    refine ev_cS3 eX12_length_12 ⟨lX12_70, kX12_in⟩ rfl (m_in (a := e) (b := 0) (c := 1) (by omega) (by omega) (by omega)) ?_
    rintro _ _ ⟨rfl, rfl⟩
    refine ev_ifb_eq 30 eX12_length_15 rfl (fun h15 => ?_) (fun h15 => ?_)
    · skip
      refine ev_ldc eX12_length_30 qX12_80 ?_
      refine ev_iret eX12_length_32 rfl ?_
      refine ⟨fun hc => ?_, fun hc => ?_⟩ <;> first | (exfalso; omega) | (exact ⟨rfl, rfl⟩)
    · skip
      refine ev_iload_n eX12_length_18 rfl ?_
      refine ev_i2l eX12_length_19 (by omega) ?_
      refine ev_lconst 0 eX12_length_20 rfl ?_
      refine ev_ldc2 eX12_length_21 qX12_193 ?_
      refine ev_cS3 eX12_length_24 ⟨lX12_70, kX12_in⟩ rfl (m_in (a := v) (b := 0) (c := 9) (by omega) (by omega) (by omega)) ?_
      rintro _ _ ⟨rfl, rfl⟩
      refine ev_ifb_ne 33 eX12_length_27 rfl (fun h27 => ?_) (fun h27 => ?_)
      · skip
        obtain ⟨x, rfl⟩ : ∃ q : Nat, x = q := ⟨x.toNat, by omega⟩
        obtain ⟨e, rfl⟩ : ∃ q : Nat, e = q := ⟨e.toNat, by omega⟩
        obtain ⟨v, rfl⟩ : ∃ q : Nat, v = q := ⟨v.toNat, by omega⟩
        refine ev_aload_n eX12_length_33 rfl ?_
        refine ev_cV0 eX12_length_34 ⟨lX12_190, kX12_keeps⟩ rfl rfl (m_keeps hM hA) ?_
        rintro _ τ ⟨rfl, a1, a2, a3⟩
        have hM1 := hM.ro a3
        refine ev_aload_n eX12_length_37 rfl ?_
        refine ev_getr eX12_length_38 fX12_19 rfl ?_
        refine ev_bipush eX12_length_41 rfl ?_
        refine ev_bipush eX12_length_43 rfl ?_
        refine ev_iload_n eX12_length_45 rfl ?_
        refine ev_imul eX12_length_46 ?_
        refine ev_iadd eX12_length_47 ?_
        refine ev_iconst eX12_length_48 ?_
        refine ev_iadd eX12_length_49 ?_
        refine ev_iload_n eX12_length_50 rfl ?_
        refine ev_iadd eX12_length_51 ?_
        refine ev_ialdv (12 + 8 * x + 1 + e) eX12_length_52 rfl (by first | rfl | omega) (by omega) (hM1.p (by omega) (by omega)) ?_
        refine ev_istore eX12_length_53 (by decide) ?_
        refine ev_aload_n eX12_length_55 rfl ?_
        refine ev_getr eX12_length_56 fX12_19 rfl ?_
        refine ev_bipush eX12_length_59 rfl ?_
        refine ev_bipush eX12_length_61 rfl ?_
        refine ev_iload_n eX12_length_63 rfl ?_
        refine ev_imul eX12_length_64 ?_
        refine ev_iadd eX12_length_65 ?_
        refine ev_iconst eX12_length_66 ?_
        refine ev_iadd eX12_length_67 ?_
        refine ev_iload_n eX12_length_68 rfl ?_
        refine ev_iadd eX12_length_69 ?_
        refine ev_iload_n eX12_length_70 rfl ?_
        refine ev_iast (12 + 8 * x + 1 + e) eX12_length_71 rfl (by first | rfl | omega) (by omega) ?_
        refine ev_iload eX12_length_72 rfl ?_
        refine ev_iret eX12_length_74 rfl ?_
        refine ⟨fun hc => absurd hc (by omega), fun _ => ?_⟩
        exact ⟨rfl, by have := hM1.up (j := 12 + 8 * x + 1 + e) (x := v) (by omega); rw [pm_p x (by omega) e (by omega)] at this; exact this, a1.of (by rw [up_o _ _ _ (by decide)]) (by rw [up_o _ _ _ (by decide)]), by rw [up_o _ _ _ (by decide)]; exact a2 0 (by decide), fun j b1 b2 => by rw [up_o _ _ _ (by decide)]; exact a2 j b2, fun c b1 b2 b3 => by rw [up_o _ _ _ b2]; exact a3 c b1 b3⟩
      · skip
        refine ev_ldc eX12_length_30 qX12_80 ?_
        refine ev_iret eX12_length_32 rfl ?_
        refine ⟨fun hc => ?_, fun hc => ?_⟩ <;> first | (exfalso; omega) | (exact ⟨rfl, rfl⟩)
set_option maxRecDepth 20000 in
theorem m_become {d : Nat} {σ : St} {B : Bok} (hM : MBk σ 49 B) (hZ : OkZ B) {na : Nat} {Ac : Nat → Bok} (hA : MAc σ na Ac) {x v : Int} (hx : -2147483648 ≤ x ∧ x ≤ 2147483647) (hv : -2147483648 ≤ v ∧ v ≤ 2147483647) : Ct (d + 2) mX12_become [.ref 45, vi x, vi v] σ (fun r τ => (¬ ((0 ≤ x ∧ x < B 2) ∧ 1 ≤ v ∧ v ≤ 5) → some (vi (-1000001)) = r ∧ σ = τ) ∧ (((0 ≤ x ∧ x < B 2) ∧ 1 ≤ v ∧ v ≤ 5) ∧ (bk B x.toNat : Int) = v → some (vi (-1000002)) = r ∧ σ = τ) ∧ (((0 ≤ x ∧ x < B 2) ∧ 1 ≤ v ∧ v ≤ 5) ∧ (bk B x.toNat : Int) ≠ v → some (vi (bk B x.toNat)) = r ∧ MBk τ 49 (upB B (4 + x.toNat) v.toNat) ∧ MAc τ (naN na + 1) (acN na Ac B) ∧ τ 45 0 = σ 45 0 ∧ Mfr σ τ)) := by
  refine ct_of hX12_become (Nat.le_of_ble_eq_true rfl) ?_
  have hf := hZ.wf
  have h7 := hf.2.1
  have h8 := hf.2.2.1
  refine ev_aload_n eX12_become_0 rfl ?_
  refine ev_iload_n eX12_become_1 rfl ?_
  refine ev_cV1 eX12_become_2 ⟨lX12_182, kX12_isSort⟩ rfl rfl (m_isSort hM hZ.wf (x := x) (by omega)) ?_
  rintro _ _ ⟨rfl, rfl⟩
  refine ev_ifb_eq 20 eX12_become_5 rfl (fun h5 => ?_) (fun h5 => ?_)
  · skip
    refine ev_ldc eX12_become_20 qX12_80 ?_
    refine ev_iret eX12_become_22 rfl ?_
    refine ⟨fun hc => ?_, fun hc => ?_, fun hc => ?_⟩ <;> first | (exfalso; omega) | (exact ⟨rfl, rfl⟩)
  · skip
    refine ev_iload_n eX12_become_8 rfl ?_
    refine ev_i2l eX12_become_9 (by omega) ?_
    refine ev_lconst 1 eX12_become_10 rfl ?_
    refine ev_ldc2 eX12_become_11 qX12_195 ?_
    refine ev_cS3 eX12_become_14 ⟨lX12_70, kX12_in⟩ rfl (m_in (a := v) (b := 1) (c := 5) (by omega) (by omega) (by omega)) ?_
    rintro _ _ ⟨rfl, rfl⟩
    refine ev_ifb_ne 23 eX12_become_17 rfl (fun h17 => ?_) (fun h17 => ?_)
    · skip
      obtain ⟨x, rfl⟩ : ∃ q : Nat, x = q := ⟨x.toNat, by omega⟩
      obtain ⟨v, rfl⟩ : ∃ q : Nat, v = q := ⟨v.toNat, by omega⟩
      rw [Int.toNat_natCast]
      have hk5 := hf.2.2.2.2.1 x (by omega)
      refine ev_aload_n eX12_become_23 rfl ?_
      refine ev_getr eX12_become_24 fX12_19 rfl ?_
      refine ev_iload_n eX12_become_27 rfl ?_
      refine ev_cS2 eX12_become_28 ⟨lX12_89, kX12_kindOf⟩ rfl (m_kindOf (Or.inl rfl) hM hf (s := x) (by omega)) ?_
      rintro _ _ ⟨rfl, rfl⟩
      refine ev_istore_n eX12_become_31 (by decide) ?_
      refine ev_iload_n eX12_become_32 rfl ?_
      refine ev_iload_n eX12_become_33 rfl ?_
      refine ev_icmp_ne 40 eX12_become_34 rfl (by omega) (by omega) (fun h34 => ?_) (fun h34 => ?_)
      · skip
        refine ev_aload_n eX12_become_40 rfl ?_
        refine ev_cV0 eX12_become_41 ⟨lX12_190, kX12_keeps⟩ rfl rfl (m_keeps hM hA) ?_
        rintro _ τ ⟨rfl, a1, a2, a3⟩
        have hM1 := hM.ro a3
        refine ev_aload_n eX12_become_44 rfl ?_
        refine ev_getr eX12_become_45 fX12_19 rfl ?_
        refine ev_bipush eX12_become_48 rfl ?_
        refine ev_bipush eX12_become_50 rfl ?_
        refine ev_iload_n eX12_become_52 rfl ?_
        refine ev_imul eX12_become_53 ?_
        refine ev_iadd eX12_become_54 ?_
        refine ev_iload_n eX12_become_55 rfl ?_
        refine ev_iast (12 + 8 * x) eX12_become_56 rfl (by first | rfl | omega) (by omega) ?_
        refine ev_iload_n eX12_become_57 rfl ?_
        refine ev_iret eX12_become_58 rfl ?_
        refine ⟨fun hc => absurd hc (by omega), fun hc => absurd hc.2 (by omega), fun _ => ?_⟩
        exact ⟨rfl, by have := hM1.up (j := 12 + 8 * x) (x := v) (by omega); rw [pm_k x (by omega)] at this; exact this, a1.of (by rw [up_o _ _ _ (by decide)]) (by rw [up_o _ _ _ (by decide)]), by rw [up_o _ _ _ (by decide)]; exact a2 0 (by decide), fun j b1 b2 => by rw [up_o _ _ _ (by decide)]; exact a2 j b2, fun c b1 b2 b3 => by rw [up_o _ _ _ b2]; exact a3 c b1 b3⟩
      · skip
        refine ev_ldc eX12_become_37 qX12_178 ?_
        refine ev_iret eX12_become_39 rfl ?_
        refine ⟨fun hc => ?_, fun hc => ?_, fun hc => ?_⟩ <;> first | (exfalso; omega) | (exact ⟨rfl, rfl⟩)
    · skip
      refine ev_ldc eX12_become_20 qX12_80 ?_
      refine ev_iret eX12_become_22 rfl ?_
      refine ⟨fun hc => ?_, fun hc => ?_, fun hc => ?_⟩ <;> first | (exfalso; omega) | (exact ⟨rfl, rfl⟩)
set_option maxRecDepth 20000 in
theorem m_root {d : Nat} {σ : St} {B : Bok} (hM : MBk σ 49 B) (hZ : OkZ B) {na : Nat} {Ac : Nat → Bok} (hA : MAc σ na Ac) {e v : Int} (he : -2147483648 ≤ e ∧ e ≤ 2147483647) (hv : -2147483648 ≤ v ∧ v ≤ 2147483647) : Ct (d + 2) mX12_root [.ref 45, vi e, vi v] σ (fun r τ => (B 2 = 0 → some (vi (-1000002)) = r ∧ σ = τ) ∧ (0 < B 2 ∧ ¬ ((0 ≤ e ∧ e ≤ 1) ∧ e ≤ v ∧ v ≤ (if e = 0 then 3 else 9)) → some (vi (-1000001)) = r ∧ σ = τ) ∧ (0 < B 2 ∧ (0 ≤ e ∧ e ≤ 1) ∧ e ≤ v ∧ v ≤ (if e = 0 then 3 else 9) → some (vi (B (0 + e.toNat))) = r ∧ MBk τ 49 (upB B (0 + e.toNat) v.toNat) ∧ MAc τ (naN na + 1) (acN na Ac B) ∧ τ 45 0 = σ 45 0 ∧ Mfr σ τ)) := by
  refine ct_of hX12_root (Nat.le_of_ble_eq_true rfl) ?_
  have hf := hZ.wf
  have h7 := hf.2.1
  have h8 := hf.2.2.1
  refine ev_aload_n eX12_root_0 rfl ?_
  refine ev_cV0 eX12_root_1 ⟨lX12_197, kX12_isThere⟩ rfl rfl (m_isThere hM hZ.wf) ?_
  rintro _ _ ⟨rfl, rfl⟩
  refine ev_ifb_ne 10 eX12_root_4 rfl (fun h4 => ?_) (fun h4 => ?_)
  · skip
    refine ev_iload_n eX12_root_10 rfl ?_
    refine ev_i2l eX12_root_11 (by omega) ?_
    refine ev_lconst 0 eX12_root_12 rfl ?_
    refine ev_lconst 1 eX12_root_13 rfl ?_
    refine ev_cS3 eX12_root_14 ⟨lX12_70, kX12_in⟩ rfl (m_in (a := e) (b := 0) (c := 1) (by omega) (by omega) (by omega)) ?_
    rintro _ _ ⟨rfl, rfl⟩
    refine ev_ifb_eq 43 eX12_root_17 rfl (fun h17 => ?_) (fun h17 => ?_)
    · skip
      refine ev_ldc eX12_root_43 qX12_80 ?_
      refine ev_iret eX12_root_45 rfl ?_
      refine ⟨fun hc => absurd hc (by omega), fun hc => ?_, fun hc => ?_⟩ <;> (split at hc <;> first | (exfalso; omega) | exact ⟨rfl, rfl⟩)
    · skip
      refine ev_iload_n eX12_root_20 rfl ?_
      refine ev_i2l eX12_root_21 (by omega) ?_
      refine ev_iload_n eX12_root_22 rfl ?_
      refine ev_i2l eX12_root_23 (by omega) ?_
      refine ev_iload_n eX12_root_24 rfl ?_
      refine ev_if_ne 34 eX12_root_25 rfl (by omega) (fun h25 => ?_) (fun h25 => ?_)
      · skip
        refine ev_ldc2 eX12_root_34 qX12_193 ?_
        refine ev_cS3 eX12_root_37 ⟨lX12_70, kX12_in⟩ rfl (m_in (a := v) (b := e) (c := 9) (by omega) (by omega) (by omega)) ?_
        rintro _ _ ⟨rfl, rfl⟩
        refine ev_ifb_ne 46 eX12_root_40 rfl (fun h40 => ?_) (fun h40 => ?_)
        · skip
          obtain ⟨e, rfl⟩ : ∃ q : Nat, e = q := ⟨e.toNat, by omega⟩
          obtain ⟨v, rfl⟩ : ∃ q : Nat, v = q := ⟨v.toNat, by omega⟩
          have pe : pm (1 + e) = 0 + e := by rcases (show e = 0 ∨ e = 1 by omega) with rfl | rfl <;> rfl
          refine ev_aload_n eX12_root_46 rfl ?_
          refine ev_cV0 eX12_root_47 ⟨lX12_190, kX12_keeps⟩ rfl rfl (m_keeps hM hA) ?_
          rintro _ τ ⟨rfl, a1, a2, a3⟩
          have hM1 := hM.ro a3
          refine ev_aload_n eX12_root_50 rfl ?_
          refine ev_getr eX12_root_51 fX12_19 rfl ?_
          refine ev_iconst eX12_root_54 ?_
          refine ev_iload_n eX12_root_55 rfl ?_
          refine ev_iadd eX12_root_56 ?_
          refine ev_ialdv (1 + e) eX12_root_57 rfl (by first | rfl | omega) (by omega) (show τ 49 (1 + e) = (B (0 + e) : Int) by rw [hM1 (1 + e) (by omega), pe]) ?_
          refine ev_istore_n eX12_root_58 (by decide) ?_
          refine ev_aload_n eX12_root_59 rfl ?_
          refine ev_getr eX12_root_60 fX12_19 rfl ?_
          refine ev_iconst eX12_root_63 ?_
          refine ev_iload_n eX12_root_64 rfl ?_
          refine ev_iadd eX12_root_65 ?_
          refine ev_iload_n eX12_root_66 rfl ?_
          refine ev_iast (1 + e) eX12_root_67 rfl (by first | rfl | omega) (by omega) ?_
          refine ev_iload_n eX12_root_68 rfl ?_
          refine ev_iret eX12_root_69 rfl ?_
          refine ⟨fun hc => absurd hc (by omega), fun hc => ?_, fun _ => ?_⟩
          · exfalso; split at hc <;> omega
          · exact ⟨rfl, by have := hM1.up (j := 1 + e) (x := v) (by omega); rw [pe] at this; exact this, a1.of (by rw [up_o _ _ _ (by decide)]) (by rw [up_o _ _ _ (by decide)]), by rw [up_o _ _ _ (by decide)]; exact a2 0 (by decide), fun j b1 b2 => by rw [up_o _ _ _ (by decide)]; exact a2 j b2, fun c b1 b2 b3 => by rw [up_o _ _ _ b2]; exact a3 c b1 b3⟩
        · skip
          refine ev_ldc eX12_root_43 qX12_80 ?_
          refine ev_iret eX12_root_45 rfl ?_
          refine ⟨fun hc => absurd hc (by omega), fun hc => ?_, fun hc => ?_⟩ <;> (split at hc <;> first | (exfalso; omega) | exact ⟨rfl, rfl⟩)
      · skip
        refine ev_ldc2 eX12_root_28 qX12_201 ?_
        refine ev_goto 37 eX12_root_31 rfl ?_
        refine ev_cS3 eX12_root_37 ⟨lX12_70, kX12_in⟩ rfl (m_in (a := v) (b := e) (c := 3) (by omega) (by omega) (by omega)) ?_
        rintro _ _ ⟨rfl, rfl⟩
        refine ev_ifb_ne 46 eX12_root_40 rfl (fun h40 => ?_) (fun h40 => ?_)
        · skip
          obtain ⟨e, rfl⟩ : ∃ q : Nat, e = q := ⟨e.toNat, by omega⟩
          obtain ⟨v, rfl⟩ : ∃ q : Nat, v = q := ⟨v.toNat, by omega⟩
          have pe : pm (1 + e) = 0 + e := by rcases (show e = 0 ∨ e = 1 by omega) with rfl | rfl <;> rfl
          refine ev_aload_n eX12_root_46 rfl ?_
          refine ev_cV0 eX12_root_47 ⟨lX12_190, kX12_keeps⟩ rfl rfl (m_keeps hM hA) ?_
          rintro _ τ ⟨rfl, a1, a2, a3⟩
          have hM1 := hM.ro a3
          refine ev_aload_n eX12_root_50 rfl ?_
          refine ev_getr eX12_root_51 fX12_19 rfl ?_
          refine ev_iconst eX12_root_54 ?_
          refine ev_iload_n eX12_root_55 rfl ?_
          refine ev_iadd eX12_root_56 ?_
          refine ev_ialdv (1 + e) eX12_root_57 rfl (by first | rfl | omega) (by omega) (show τ 49 (1 + e) = (B (0 + e) : Int) by rw [hM1 (1 + e) (by omega), pe]) ?_
          refine ev_istore_n eX12_root_58 (by decide) ?_
          refine ev_aload_n eX12_root_59 rfl ?_
          refine ev_getr eX12_root_60 fX12_19 rfl ?_
          refine ev_iconst eX12_root_63 ?_
          refine ev_iload_n eX12_root_64 rfl ?_
          refine ev_iadd eX12_root_65 ?_
          refine ev_iload_n eX12_root_66 rfl ?_
          refine ev_iast (1 + e) eX12_root_67 rfl (by first | rfl | omega) (by omega) ?_
          refine ev_iload_n eX12_root_68 rfl ?_
          refine ev_iret eX12_root_69 rfl ?_
          refine ⟨fun hc => absurd hc (by omega), fun hc => ?_, fun _ => ?_⟩
          · exfalso; split at hc <;> omega
          · exact ⟨rfl, by have := hM1.up (j := 1 + e) (x := v) (by omega); rw [pe] at this; exact this, a1.of (by rw [up_o _ _ _ (by decide)]) (by rw [up_o _ _ _ (by decide)]), by rw [up_o _ _ _ (by decide)]; exact a2 0 (by decide), fun j b1 b2 => by rw [up_o _ _ _ (by decide)]; exact a2 j b2, fun c b1 b2 b3 => by rw [up_o _ _ _ b2]; exact a3 c b1 b3⟩
        · skip
          refine ev_ldc eX12_root_43 qX12_80 ?_
          refine ev_iret eX12_root_45 rfl ?_
          refine ⟨fun hc => absurd hc (by omega), fun hc => ?_, fun hc => ?_⟩ <;> (split at hc <;> first | (exfalso; omega) | exact ⟨rfl, rfl⟩)
  · skip
    refine ev_ldc eX12_root_7 qX12_178 ?_
    refine ev_iret eX12_root_9 rfl ?_
    refine ⟨fun hc => ?_, fun hc => ?_, fun hc => ?_⟩ <;> first | (exfalso; omega) | (exact ⟨rfl, rfl⟩)
def wdP (B : Bok) (s k : Nat) (l : Nat → Nat) : Bok := fun j => if 20 + 4 * s ≤ j ∧ j < 20 + 4 * s + k then l (j - (20 + 4 * s)) else B j
def rwP (B : Bok) (k : Nat) (l : Nat → Nat) : Bok := fun j => if 36 ≤ j ∧ j < 36 + k then l (j - 36) else B j
theorem wdP_s (B : Bok) (s k : Nat) (l : Nat → Nat) (j : Nat) : upB (wdP B s k l) (20 + 4 * s + k) (l k) j = wdP B s (k + 1) l j := by
  unfold upB wdP
  by_cases e : j = 20 + 4 * s + k
  · subst e; rw [if_pos rfl, if_pos (by omega), show 20 + 4 * s + k - (20 + 4 * s) = k by omega]
  · rw [if_neg e]
    by_cases e2 : 20 + 4 * s ≤ j ∧ j < 20 + 4 * s + k
    · rw [if_pos e2, if_pos (by omega)]
    · rw [if_neg e2, if_neg (by omega)]
theorem rwP_s (B : Bok) (k : Nat) (l : Nat → Nat) (j : Nat) : upB (rwP B k l) (36 + k) (l k) j = rwP B (k + 1) l j := by
  unfold upB rwP
  by_cases e : j = 36 + k
  · subst e; rw [if_pos rfl, if_pos (by omega), show 36 + k - 36 = k by omega]
  · rw [if_neg e]
    by_cases e2 : 36 ≤ j ∧ j < 36 + k
    · rw [if_pos e2, if_pos (by omega)]
    · rw [if_neg e2, if_neg (by omega)]
theorem rwP_f (B : Bok) (k : Nat) (l : Nat → Nat) (j : Nat) : upB (rwP B k l) 3 k j = rwB B k l j := rfl
theorem wdP_f (B : Bok) (s k : Nat) (l : Nat → Nat) (j : Nat) : upB (wdP B s k l) (16 + s) k j = wdB B s k l j := rfl
def MCh (σ τ : St) (na : Nat) (Ac : Nat → Bok) (B : Bok) : Prop := MAc τ (naN na + 1) (acN na Ac B) ∧ Mfr σ τ
theorem LtP_l {sz : Nat → Nat} {it : Nat → Int} {B : Bok} {q n k : Nat} (h : LtP sz it B q n) (hk : k < n) : it (q * 40 + k) = ((lts it q k : Nat) : Int) := by
  have := h.2 k hk
  unfold lts
  omega
theorem lfn_p {la : Nat → Int} {sz : Nat → Nat} {it : Nat → Int} {B : Bok} {q n : Nat} (h : lfn la sz it B q n = 0) : la q ≠ -1 ∧ LtP sz it B q n := by
  unfold lfn at h
  split at h
  · exact absurd h (by decide)
  · rename_i e
    refine ⟨e, ?_⟩
    split at h
    · assumption
    · exact absurd h (by decide)
set_option maxRecDepth 20000 in
theorem m_word_l {d : Nat} {ρ : St} {B : Bok} {na : Nat} {Ac : Nat → Bok} {l : Nat → Nat} {n : Nat} {s q : Nat} {u v : Int} (hs : s < 4) (hq : q < 8) (hn : n ≤ 4) (hx : ∀ k, k < n → ρ 48 (40 * q + k) = (l k : Int)) : ∀ (fu : Nat) {k : Nat} {τ : St}, n - k < fu → k ≤ n → MBk τ 49 (wdP B s k l) → (∀ c, c ≠ 49 → τ c = ρ c) → Ev (d) mX12_word 63 [.ref 45, vi s, vi q, vi n, vi u, vi v, vi k] [] τ (fun r τ => some (vi v) = r ∧ MBk τ 49 (wdB B s n l) ∧ ∀ c, c ≠ 49 → τ c = ρ c) := by
  intro fu
  induction fu with
  | zero => intros; omega
  | succ fu ih =>
    intro k τ hm h1 h2 h3
    refine ev_iload eX12_word_63 rfl ?_
    refine ev_iload_n eX12_word_65 rfl ?_
    refine ev_icmp_ge 104 eX12_word_66 rfl (by omega) (by omega) (fun h66 => ?_) (fun h66 => ?_)
    · skip
      refine ev_aload_n eX12_word_104 rfl ?_
      refine ev_getr eX12_word_105 fX12_19 rfl ?_
      refine ev_bipush eX12_word_108 rfl ?_
      refine ev_bipush eX12_word_110 rfl ?_
      refine ev_iload_n eX12_word_112 rfl ?_
      refine ev_imul eX12_word_113 ?_
      refine ev_iadd eX12_word_114 ?_
      refine ev_iconst eX12_word_115 ?_
      refine ev_iadd eX12_word_116 ?_
      refine ev_iload_n eX12_word_117 rfl ?_
      refine ev_iast (12 + 8 * s + 3) eX12_word_118 rfl (by first | rfl | omega) (by omega) ?_
      refine ev_iload eX12_word_119 rfl ?_
      refine ev_iret eX12_word_121 rfl ?_
      refine ⟨rfl, ?_, fun c hc => by rw [up_o _ _ _ hc]; exact h3 c hc⟩
      have := h2.up (j := 12 + 8 * s + 3) (x := n) (by omega)
      rw [pm_w s hs, show k = n by omega] at this
      exact this.cg (fun j _ => wdP_f B s n l j)
    · skip
      refine ev_aload_n eX12_word_69 rfl ?_
      refine ev_getr eX12_word_70 fX12_19 rfl ?_
      refine ev_bipush eX12_word_73 rfl ?_
      refine ev_bipush eX12_word_75 rfl ?_
      refine ev_iload_n eX12_word_77 rfl ?_
      refine ev_imul eX12_word_78 ?_
      refine ev_iadd eX12_word_79 ?_
      refine ev_iconst eX12_word_80 ?_
      refine ev_iadd eX12_word_81 ?_
      refine ev_iload eX12_word_82 rfl ?_
      refine ev_iadd eX12_word_84 ?_
      refine ev_aload_n eX12_word_85 rfl ?_
      refine ev_getr eX12_word_86 fX12_16 rfl ?_
      refine ev_bipush eX12_word_89 rfl ?_
      refine ev_iload_n eX12_word_91 rfl ?_
      refine ev_imul eX12_word_92 ?_
      refine ev_iload eX12_word_93 rfl ?_
      refine ev_iadd eX12_word_95 ?_
      refine ev_ialdv (40 * q + k) eX12_word_96 rfl (by first | rfl | omega) (by omega) (show τ 48 (40 * q + k) = (l k : Int) by rw [h3 _ (by decide)]; exact hx k (by omega)) ?_
      refine ev_iast (12 + 8 * s + 4 + k) eX12_word_97 rfl (by first | rfl | omega) (by omega) ?_
      refine ev_iinc eX12_word_98 rfl (by decide) ?_
      refine ev_goto 63 eX12_word_101 rfl ?_
      refine ih (k := k + 1) (by omega) (by omega) ?_ (fun c hc => by rw [up_o _ _ _ hc]; exact h3 c hc)
      have := h2.up (j := 12 + 8 * s + 4 + k) (x := l k) (by omega)
      rw [pm_l s hs k (by omega)] at this
      exact this.cg (fun j _ => wdP_s B s k l j)
set_option maxRecDepth 20000 in
theorem m_begin_l {d : Nat} {ρ : St} {B : Bok} {na : Nat} {Ac : Nat → Bok} {l : Nat → Nat} {n : Nat} {q : Nat} {u v : Int} (hq : q < 8) (hn : n ≤ 8) (hx : ∀ k, k < n → ρ 48 (40 * q + k) = (l k : Int)) : ∀ (fu : Nat) {k : Nat} {τ : St}, n - k < fu → k ≤ n → MBk τ 49 (rwP B k l) → (∀ c, c ≠ 49 → τ c = ρ c) → Ev (d) mX12_begin 60 [.ref 45, vi q, vi n, vi u, vi v, vi k] [] τ (fun r τ => some (vi v) = r ∧ MBk τ 49 (rwB B n l) ∧ ∀ c, c ≠ 49 → τ c = ρ c) := by
  intro fu
  induction fu with
  | zero => intros; omega
  | succ fu ih =>
    intro k τ hm h1 h2 h3
    refine ev_iload eX12_begin_60 rfl ?_
    refine ev_iload_n eX12_begin_62 rfl ?_
    refine ev_icmp_ge 93 eX12_begin_63 rfl (by omega) (by omega) (fun h63 => ?_) (fun h63 => ?_)
    · skip
      refine ev_aload_n eX12_begin_93 rfl ?_
      refine ev_getr eX12_begin_94 fX12_19 rfl ?_
      refine ev_iconst eX12_begin_97 ?_
      refine ev_iload_n eX12_begin_98 rfl ?_
      refine ev_iast (3) eX12_begin_99 rfl (by first | rfl | omega) (by omega) ?_
      refine ev_iload eX12_begin_100 rfl ?_
      refine ev_iret eX12_begin_102 rfl ?_
      refine ⟨rfl, ?_, fun c hc => by rw [up_o _ _ _ hc]; exact h3 c hc⟩
      have := h2.up (j := 3) (x := n) (by omega)
      rw [show k = n by omega] at this
      exact this.cg (fun j _ => rwP_f B n l j)
    · skip
      refine ev_aload_n eX12_begin_66 rfl ?_
      refine ev_getr eX12_begin_67 fX12_19 rfl ?_
      refine ev_iconst eX12_begin_70 ?_
      refine ev_iload eX12_begin_71 rfl ?_
      refine ev_iadd eX12_begin_73 ?_
      refine ev_aload_n eX12_begin_74 rfl ?_
      refine ev_getr eX12_begin_75 fX12_16 rfl ?_
      refine ev_bipush eX12_begin_78 rfl ?_
      refine ev_iload_n eX12_begin_80 rfl ?_
      refine ev_imul eX12_begin_81 ?_
      refine ev_iload eX12_begin_82 rfl ?_
      refine ev_iadd eX12_begin_84 ?_
      refine ev_ialdv (40 * q + k) eX12_begin_85 rfl (by first | rfl | omega) (by omega) (show τ 48 (40 * q + k) = (l k : Int) by rw [h3 _ (by decide)]; exact hx k (by omega)) ?_
      refine ev_iast (4 + k) eX12_begin_86 rfl (by first | rfl | omega) (by omega) ?_
      refine ev_iinc eX12_begin_87 rfl (by decide) ?_
      refine ev_goto 60 eX12_begin_90 rfl ?_
      refine ih (k := k + 1) (by omega) (by omega) ?_ (fun c hc => by rw [up_o _ _ _ hc]; exact h3 c hc)
      have := h2.up (j := 4 + k) (x := l k) (by omega)
      rw [pm_R k (by omega)] at this
      exact this.cg (fun j _ => rwP_s B k l j)
set_option maxRecDepth 20000 in
theorem m_infl_l {d : Nat} {ρ : St} {B : Bok} {na : Nat} {Ac : Nat → Bok} {l : Nat → Nat} {n : Nat} (hn : n ≤ 8) (hx : ∀ k, k < n → ρ 53 k = (l k : Int)) : ∀ (fu : Nat) {k : Nat} {τ : St}, n - k < fu → k ≤ n → MBk τ 49 (rwP B k l) → (∀ c, c ≠ 49 → τ c = ρ c) → Ev (d) mX12_inflate 35 [.ref 45, vi n, vi k] [] τ (fun r τ => some (vi n) = r ∧ MBk τ 49 (rwB B n l) ∧ ∀ c, c ≠ 49 → τ c = ρ c) := by
  intro fu
  induction fu with
  | zero => intros; omega
  | succ fu ih =>
    intro k τ hm h1 h2 h3
    refine ev_iload_n eX12_inflate_35 rfl ?_
    refine ev_iload_n eX12_inflate_36 rfl ?_
    refine ev_icmp_ge 60 eX12_inflate_37 rfl (by omega) (by omega) (fun h37 => ?_) (fun h37 => ?_)
    · skip
      refine ev_aload_n eX12_inflate_60 rfl ?_
      refine ev_getr eX12_inflate_61 fX12_19 rfl ?_
      refine ev_iconst eX12_inflate_64 ?_
      refine ev_iload_n eX12_inflate_65 rfl ?_
      refine ev_iast (3) eX12_inflate_66 rfl (by first | rfl | omega) (by omega) ?_
      refine ev_iload_n eX12_inflate_67 rfl ?_
      refine ev_iret eX12_inflate_68 rfl ?_
      refine ⟨rfl, ?_, fun c hc => by rw [up_o _ _ _ hc]; exact h3 c hc⟩
      have := h2.up (j := 3) (x := n) (by omega)
      rw [show k = n by omega] at this
      exact this.cg (fun j _ => rwP_f B n l j)
    · skip
      refine ev_aload_n eX12_inflate_40 rfl ?_
      refine ev_getr eX12_inflate_41 fX12_19 rfl ?_
      refine ev_iconst eX12_inflate_44 ?_
      refine ev_iload_n eX12_inflate_45 rfl ?_
      refine ev_iadd eX12_inflate_46 ?_
      refine ev_aload_n eX12_inflate_47 rfl ?_
      refine ev_getr eX12_inflate_48 fX12_31 rfl ?_
      refine ev_iload_n eX12_inflate_51 rfl ?_
      refine ev_ialdv (k) eX12_inflate_52 rfl (by first | rfl | omega) (by omega) (show τ 53 k = (l k : Int) by rw [h3 _ (by decide)]; exact hx k (by omega)) ?_
      refine ev_iast (4 + k) eX12_inflate_53 rfl (by first | rfl | omega) (by omega) ?_
      refine ev_iinc eX12_inflate_54 rfl (by decide) ?_
      refine ev_goto 35 eX12_inflate_57 rfl ?_
      refine ih (k := k + 1) (by omega) (by omega) ?_ (fun c hc => by rw [up_o _ _ _ hc]; exact h3 c hc)
      have := h2.up (j := 4 + k) (x := l k) (by omega)
      rw [pm_R k (by omega)] at this
      exact this.cg (fun j _ => rwP_s B k l j)
set_option maxRecDepth 20000 in
theorem m_word {d : Nat} {σ : St} {B : Bok} (hM : MBk σ 49 B) (hZ : OkZ B) {la : Nat → Int} {sz : Nat → Nat} {it : Nat → Int} (hW : MRw σ la sz it) {na : Nat} {Ac : Nat → Bok} (hA : MAc σ na Ac) {x y n : Int} (hx : -2147483648 ≤ x ∧ x ≤ 2147483647) (hy : -2147483648 ≤ y ∧ y ≤ 2147483647) (hn : -2147483648 ≤ n ∧ n ≤ 2147483647) : Ct (d + 3) mX12_word [.ref 45, vi x, vi y, vi n] σ (fun r τ => (¬ ((0 ≤ x ∧ x < B 2) ∧ (0 ≤ y ∧ y < 8) ∧ 1 ≤ n ∧ n ≤ 4) → some (vi (-1000001)) = r ∧ σ = τ) ∧ (((0 ≤ x ∧ x < B 2) ∧ (0 ≤ y ∧ y < 8) ∧ 1 ≤ n ∧ n ≤ 4) ∧ lfn la sz it B y.toNat n.toNat ≠ 0 → some (vi (-1000010 - lfn la sz it B y.toNat n.toNat)) = r ∧ up σ 45 0 (lfn la sz it B y.toNat n.toNat) = τ) ∧ (((0 ≤ x ∧ x < B 2) ∧ (0 ≤ y ∧ y < 8) ∧ 1 ≤ n ∧ n ≤ 4) ∧ lfn la sz it B y.toNat n.toNat = 0 → some (vi (ws B x.toNat)) = r ∧ MBk τ 49 (wdB B x.toNat n.toNat (lts it y.toNat)) ∧ MAc τ (naN na + 1) (acN na Ac B) ∧ τ 45 0 = 0 ∧ Mfr σ τ)) := by
  refine ct_of hX12_word (Nat.le_of_ble_eq_true rfl) ?_
  have hf := hZ.wf
  have h7 := hf.2.1
  have h8 := hf.2.2.1
  refine ev_aload_n eX12_word_0 rfl ?_
  refine ev_iload_n eX12_word_1 rfl ?_
  refine ev_cV1 eX12_word_2 ⟨lX12_182, kX12_isSort⟩ rfl rfl (m_isSort hM hZ.wf (x := x) (by omega)) ?_
  rintro _ _ ⟨rfl, rfl⟩
  refine ev_ifb_eq 27 eX12_word_5 rfl (fun h5 => ?_) (fun h5 => ?_)
  · skip
    refine ev_ldc eX12_word_27 qX12_80 ?_
    refine ev_iret eX12_word_29 rfl ?_
    refine ⟨fun hc => ?_, fun hc => ?_, fun hc => ?_⟩ <;> first | (exfalso; omega) | (exact ⟨rfl, rfl⟩)
  · skip
    refine ev_iload_n eX12_word_8 rfl ?_
    refine ev_cS1 eX12_word_9 ⟨lX12_74, kX12_isRow⟩ rfl (m_isRow (x := y) (by omega)) ?_
    rintro _ _ ⟨rfl, rfl⟩
    refine ev_ifb_eq 27 eX12_word_12 rfl (fun h12 => ?_) (fun h12 => ?_)
    · skip
      refine ev_ldc eX12_word_27 qX12_80 ?_
      refine ev_iret eX12_word_29 rfl ?_
      refine ⟨fun hc => ?_, fun hc => ?_, fun hc => ?_⟩ <;> first | (exfalso; omega) | (exact ⟨rfl, rfl⟩)
    · skip
      refine ev_iload_n eX12_word_15 rfl ?_
      refine ev_i2l eX12_word_16 (by omega) ?_
      refine ev_lconst 1 eX12_word_17 rfl ?_
      refine ev_ldc2 eX12_word_18 qX12_185 ?_
      refine ev_cS3 eX12_word_21 ⟨lX12_70, kX12_in⟩ rfl (m_in (a := n) (b := 1) (c := 4) (by omega) (by omega) (by omega)) ?_
      rintro _ _ ⟨rfl, rfl⟩
      refine ev_ifb_ne 30 eX12_word_24 rfl (fun h24 => ?_) (fun h24 => ?_)
      · skip
        obtain ⟨x, rfl⟩ : ∃ q : Nat, x = q := ⟨x.toNat, by omega⟩
        obtain ⟨y, rfl⟩ : ∃ q : Nat, y = q := ⟨y.toNat, by omega⟩
        obtain ⟨n, rfl⟩ : ∃ q : Nat, n = q := ⟨n.toNat, by omega⟩
        rw [Int.toNat_natCast, Int.toNat_natCast, Int.toNat_natCast]
        refine ev_aload_n eX12_word_30 rfl ?_
        refine ev_iload_n eX12_word_31 rfl ?_
        refine ev_iload_n eX12_word_32 rfl ?_
        refine ev_cV2 eX12_word_33 ⟨lX12_187, kX12_lacksLetters⟩ rfl rfl (m_lacksLetters hM hf hW (q := y) (n := n) (by omega) (by omega)) ?_
        rintro r τ ⟨g1, g2⟩
        by_cases e0 : lfn la sz it B y n = 0
        rotate_left
        · obtain ⟨rfl, rfl⟩ := g1 e0
          have hr : lfn la sz it B y n = 1 ∨ lfn la sz it B y n = 2 ∨ lfn la sz it B y n = 0 := by unfold lfn; split; exact Or.inl rfl; split; exact Or.inr (Or.inr rfl); exact Or.inr (Or.inl rfl)
          refine ev_istore eX12_word_36 (by decide) ?_
          refine ev_iload eX12_word_38 rfl ?_
          refine ev_if_eq 46 eX12_word_40 rfl (by omega) (fun h40 => False.elim (by omega)) (fun h40 => ?_)
          refine ev_iload eX12_word_43 rfl ?_
          refine ev_iret eX12_word_45 rfl ?_
          refine ⟨fun hc => ?_, fun hc => ?_, fun hc => ?_⟩ <;> first | (exfalso; omega) | exact ⟨rfl, rfl⟩
        obtain ⟨rfl, rfl⟩ := g2 e0
        obtain ⟨e1, e2⟩ := lfn_p e0
        have hM0 : MBk (up σ 45 0 0) 49 B := hM.of (up_o _ _ _ (by decide))
        have hA0 : MAc (up σ 45 0 0) na Ac := hA.of (by rw [up_n _ _ (by decide)]) (up_o _ _ _ (by decide))
        obtain ⟨k1, k2, k3, k4, k5⟩ := hW y (by omega)
        obtain ⟨k6, k7⟩ := k5 e1
        refine ev_istore eX12_word_36 (by decide) ?_
        refine ev_iload eX12_word_38 rfl ?_
        refine ev_if_eq 46 eX12_word_40 rfl (by omega) (fun h40 => ?_) (fun h40 => False.elim (by omega))
        refine ev_aload_n eX12_word_46 rfl ?_
        refine ev_cV0 eX12_word_47 ⟨lX12_190, kX12_keeps⟩ rfl rfl (m_keeps hM0 hA0) ?_
        rintro _ τ ⟨rfl, a1, a2, a3⟩
        have hM1 := hM0.ro a3
        refine ev_aload_n eX12_word_50 rfl ?_
        refine ev_getr eX12_word_51 fX12_19 rfl ?_
        refine ev_iload_n eX12_word_54 rfl ?_
        refine ev_cS2 eX12_word_55 ⟨lX12_93, kX12_wordSize⟩ rfl (m_wordSize (Or.inl rfl) hM1 hf (s := x) (by omega)) ?_
        rintro _ _ ⟨rfl, rfl⟩
        refine ev_istore eX12_word_58 (by decide) ?_
        refine ev_iconst eX12_word_60 ?_
        refine ev_istore eX12_word_61 (by decide) ?_
        refine ev_mono (fun r ν h => ?_) (m_word_l (ρ := τ) (B := B) (na := na) (Ac := Ac) (l := lts it y) (s := x) (q := y) (n := n) (by omega) (by omega) (by omega) (fun k hk => by rw [a3 48 (by decide) (by decide), up_o _ _ _ (by decide), (k7 k (by have := e2.1; omega)).1]; exact LtP_l e2 hk) (n + 1) (k := 0) (by omega) (by omega) (hM1.cg (fun j _ => by unfold wdP; rw [if_neg (by omega)])) (fun _ _ => rfl))
        obtain ⟨rfl, g1, g2⟩ := h
        refine ⟨fun hc => ?_, fun hc => ?_, fun hc => ?_⟩ <;> first | (exfalso; omega) | skip
        refine ⟨rfl, g1, a1.of (by rw [g2 45 (by decide)]) (by rw [g2 52 (by decide)]), by rw [g2 45 (by decide), a2 0 (by decide), up_s], fun j b1 b2 => by rw [g2 45 (by decide), a2 j b2, up_n _ _ b1], fun c b1 b2 b3 => by rw [g2 c b2, a3 c b1 b3, up_o _ _ _ b1]⟩
      · skip
        refine ev_ldc eX12_word_27 qX12_80 ?_
        refine ev_iret eX12_word_29 rfl ?_
        refine ⟨fun hc => ?_, fun hc => ?_, fun hc => ?_⟩ <;> first | (exfalso; omega) | (exact ⟨rfl, rfl⟩)
set_option maxRecDepth 20000 in
theorem m_begin {d : Nat} {σ : St} {B : Bok} (hM : MBk σ 49 B) (hZ : OkZ B) {la : Nat → Int} {sz : Nat → Nat} {it : Nat → Int} (hW : MRw σ la sz it) {na : Nat} {Ac : Nat → Bok} (hA : MAc σ na Ac) {y n : Int} (hy : -2147483648 ≤ y ∧ y ≤ 2147483647) (hn : -2147483648 ≤ n ∧ n ≤ 2147483647) : Ct (d + 3) mX12_begin [.ref 45, vi y, vi n] σ (fun r τ => (B 2 = 0 → some (vi (-1000002)) = r ∧ σ = τ) ∧ (0 < B 2 ∧ ¬ ((0 ≤ y ∧ y < 8) ∧ 1 ≤ n ∧ n ≤ 8) → some (vi (-1000001)) = r ∧ σ = τ) ∧ ((0 < B 2 ∧ (0 ≤ y ∧ y < 8) ∧ 1 ≤ n ∧ n ≤ 8) ∧ lfn la sz it B y.toNat n.toNat ≠ 0 → some (vi (-1000010 - lfn la sz it B y.toNat n.toNat)) = r ∧ up σ 45 0 (lfn la sz it B y.toNat n.toNat) = τ) ∧ ((0 < B 2 ∧ (0 ≤ y ∧ y < 8) ∧ 1 ≤ n ∧ n ≤ 8) ∧ lfn la sz it B y.toNat n.toNat = 0 → some (vi (B 3)) = r ∧ MBk τ 49 (rwB B n.toNat (lts it y.toNat)) ∧ MAc τ (naN na + 1) (acN na Ac B) ∧ τ 45 0 = 0 ∧ Mfr σ τ)) := by
  refine ct_of hX12_begin (Nat.le_of_ble_eq_true rfl) ?_
  have hf := hZ.wf
  have h7 := hf.2.1
  have h8 := hf.2.2.1
  refine ev_aload_n eX12_begin_0 rfl ?_
  refine ev_cV0 eX12_begin_1 ⟨lX12_197, kX12_isThere⟩ rfl rfl (m_isThere hM hZ.wf) ?_
  rintro _ _ ⟨rfl, rfl⟩
  refine ev_ifb_ne 10 eX12_begin_4 rfl (fun h4 => ?_) (fun h4 => ?_)
  · skip
    refine ev_iload_n eX12_begin_10 rfl ?_
    refine ev_cS1 eX12_begin_11 ⟨lX12_74, kX12_isRow⟩ rfl (m_isRow (x := y) (by omega)) ?_
    rintro _ _ ⟨rfl, rfl⟩
    refine ev_ifb_eq 29 eX12_begin_14 rfl (fun h14 => ?_) (fun h14 => ?_)
    · skip
      refine ev_ldc eX12_begin_29 qX12_80 ?_
      refine ev_iret eX12_begin_31 rfl ?_
      refine ⟨fun hc => ?_, fun hc => ?_, fun hc => ?_, fun hc => ?_⟩ <;> first | (exfalso; omega) | (exact ⟨rfl, rfl⟩)
    · skip
      refine ev_iload_n eX12_begin_17 rfl ?_
      refine ev_i2l eX12_begin_18 (by omega) ?_
      refine ev_lconst 1 eX12_begin_19 rfl ?_
      refine ev_ldc2 eX12_begin_20 qX12_203 ?_
      refine ev_cS3 eX12_begin_23 ⟨lX12_70, kX12_in⟩ rfl (m_in (a := n) (b := 1) (c := 8) (by omega) (by omega) (by omega)) ?_
      rintro _ _ ⟨rfl, rfl⟩
      refine ev_ifb_ne 32 eX12_begin_26 rfl (fun h26 => ?_) (fun h26 => ?_)
      · skip
        obtain ⟨y, rfl⟩ : ∃ q : Nat, y = q := ⟨y.toNat, by omega⟩
        obtain ⟨n, rfl⟩ : ∃ q : Nat, n = q := ⟨n.toNat, by omega⟩
        rw [Int.toNat_natCast, Int.toNat_natCast]
        refine ev_aload_n eX12_begin_32 rfl ?_
        refine ev_iload_n eX12_begin_33 rfl ?_
        refine ev_iload_n eX12_begin_34 rfl ?_
        refine ev_cV2 eX12_begin_35 ⟨lX12_187, kX12_lacksLetters⟩ rfl rfl (m_lacksLetters hM hf hW (q := y) (n := n) (by omega) (by omega)) ?_
        rintro r τ ⟨g1, g2⟩
        by_cases e0 : lfn la sz it B y n = 0
        rotate_left
        · obtain ⟨rfl, rfl⟩ := g1 e0
          have hr : lfn la sz it B y n = 1 ∨ lfn la sz it B y n = 2 ∨ lfn la sz it B y n = 0 := by unfold lfn; split; exact Or.inl rfl; split; exact Or.inr (Or.inr rfl); exact Or.inr (Or.inl rfl)
          refine ev_istore_n eX12_begin_38 (by decide) ?_
          refine ev_iload_n eX12_begin_39 rfl ?_
          refine ev_if_eq 45 eX12_begin_40 rfl (by omega) (fun h40 => False.elim (by omega)) (fun h40 => ?_)
          refine ev_iload_n eX12_begin_43 rfl ?_
          refine ev_iret eX12_begin_44 rfl ?_
          refine ⟨fun hc => ?_, fun hc => ?_, fun hc => ?_, fun hc => ?_⟩ <;> first | (exfalso; omega) | exact ⟨rfl, rfl⟩
        obtain ⟨rfl, rfl⟩ := g2 e0
        obtain ⟨e1, e2⟩ := lfn_p e0
        have hM0 : MBk (up σ 45 0 0) 49 B := hM.of (up_o _ _ _ (by decide))
        have hA0 : MAc (up σ 45 0 0) na Ac := hA.of (by rw [up_n _ _ (by decide)]) (up_o _ _ _ (by decide))
        obtain ⟨k1, k2, k3, k4, k5⟩ := hW y (by omega)
        obtain ⟨k6, k7⟩ := k5 e1
        refine ev_istore_n eX12_begin_38 (by decide) ?_
        refine ev_iload_n eX12_begin_39 rfl ?_
        refine ev_if_eq 45 eX12_begin_40 rfl (by omega) (fun h40 => ?_) (fun h40 => False.elim (by omega))
        refine ev_aload_n eX12_begin_45 rfl ?_
        refine ev_cV0 eX12_begin_46 ⟨lX12_190, kX12_keeps⟩ rfl rfl (m_keeps hM0 hA0) ?_
        rintro _ τ ⟨rfl, a1, a2, a3⟩
        have hM1 := hM0.ro a3
        refine ev_aload_n eX12_begin_49 rfl ?_
        refine ev_getr eX12_begin_50 fX12_19 rfl ?_
        refine ev_iconst eX12_begin_53 ?_
        refine ev_ialdv (3) eX12_begin_54 rfl (by first | rfl | omega) (by omega) hM1.N ?_
        refine ev_istore eX12_begin_55 (by decide) ?_
        refine ev_iconst eX12_begin_57 ?_
        refine ev_istore eX12_begin_58 (by decide) ?_
        refine ev_mono (fun r ν h => ?_) (m_begin_l (ρ := τ) (B := B) (na := na) (Ac := Ac) (l := lts it y) (q := y) (n := n) (by omega) (by omega) (fun k hk => by rw [a3 48 (by decide) (by decide), up_o _ _ _ (by decide), (k7 k (by have := e2.1; omega)).1]; exact LtP_l e2 hk) (n + 1) (k := 0) (by omega) (by omega) (hM1.cg (fun j _ => by unfold rwP; rw [if_neg (by omega)])) (fun _ _ => rfl))
        obtain ⟨rfl, g1, g2⟩ := h
        refine ⟨fun hc => ?_, fun hc => ?_, fun hc => ?_, fun hc => ?_⟩ <;> first | (exfalso; omega) | skip
        refine ⟨rfl, g1, a1.of (by rw [g2 45 (by decide)]) (by rw [g2 52 (by decide)]), by rw [g2 45 (by decide), a2 0 (by decide), up_s], fun j b1 b2 => by rw [g2 45 (by decide), a2 j b2, up_n _ _ b1], fun c b1 b2 b3 => by rw [g2 c b2, a3 c b1 b3, up_o _ _ _ b1]⟩
      · skip
        refine ev_ldc eX12_begin_29 qX12_80 ?_
        refine ev_iret eX12_begin_31 rfl ?_
        refine ⟨fun hc => ?_, fun hc => ?_, fun hc => ?_, fun hc => ?_⟩ <;> first | (exfalso; omega) | (exact ⟨rfl, rfl⟩)
  · skip
    refine ev_ldc eX12_begin_7 qX12_178 ?_
    refine ev_iret eX12_begin_9 rfl ?_
    refine ⟨fun hc => ?_, fun hc => ?_, fun hc => ?_, fun hc => ?_⟩ <;> first | (exfalso; omega) | (exact ⟨rfl, rfl⟩)
