/-! InflatedRows: images, what grows -/
theorem em_pos {x : Nat} (h : ¬ 0 < x) : x = 0 := by omega
set_option maxRecDepth 20000 in
theorem o_image {d : Nat} {σ : St} {B : Bok} (hB : BkC σ 16 B) (hZ : OkZ B) {m : Nat} (hm : σ 6 4 = (m : Int)) (hm4 : m < 4) {x : Int} (hx : -2147483648 ≤ x ∧ x ≤ 2147483647) : Ct (d + 3) mX11_image [.ref 0, vi x] σ (fun r τ => (¬ (0 ≤ x ∧ x < 2) → some (vi (-1000001)) = r ∧ σ = τ) ∧ ((0 ≤ x ∧ x < 2) ∧ B 2 = 0 → some (vi (-1000002)) = r ∧ σ = τ) ∧ ((0 ≤ x ∧ x < 2) ∧ 0 < B 2 → some (vi 1) = r ∧ up (upA σ 20 (cpF (σ 16) (σ 20) 0 (x.toNat * 44) 44)) 6 4 ((m ||| 2 ^ x.toNat : Nat) : Int) = τ)) := by
  refine ct_of hX11_image (Nat.le_of_ble_eq_true rfl) ?_
  have hf := hZ.wf
  have h7 := hf.2.1
  refine ev_iload_n eX11_image_0 rfl ?_
  refine ev_cS1 eX11_image_1 ⟨lX11_346, kX6_isImage⟩ rfl (c_isImage (x := x) (by omega)) ?_
  rintro _ _ ⟨rfl, rfl⟩
  refine ev_ifb_ne 10 eX11_image_4 rfl (fun h4 => ?_) (fun h4 => ?_)
  · skip
    refine ev_aload_n eX11_image_10 rfl ?_
    refine ev_getr eX11_image_11 fX11_26 rfl ?_
    refine ev_cV0 eX11_image_14 ⟨lX11_197, kX0_stands⟩ rfl rfl (c_stands Bq3 hB hf.1) ?_
    rintro _ _ ⟨rfl, rfl⟩
    refine ev_ifb_ne 23 eX11_image_17 rfl (fun h17 => ?_) (fun h17 => ?_)
    · skip
      obtain ⟨k, rfl⟩ : ∃ q : Nat, x = q := ⟨x.toNat, by omega⟩
      rw [Int.toNat_natCast]
      refine ev_aload_n eX11_image_23 rfl ?_
      refine ev_getr eX11_image_24 fX11_39 rfl ?_
      refine ev_iload_n eX11_image_27 rfl ?_
      refine ev_aload_n eX11_image_28 rfl ?_
      refine ev_getr eX11_image_29 fX11_26 rfl ?_
      refine ev_cV2 eX11_image_32 ⟨lX11_349, kX6_keepImage⟩ rfl rfl (c_keepImage Bq3 (k := k) (by omega) hm hm4) ?_
      rintro _ _ ⟨rfl, rfl⟩
      refine ev_iconst eX11_image_35 ?_
      refine ev_iret eX11_image_36 rfl ?_
      refine ⟨fun hc => ?_, fun hc => ?_, fun hc => ?_⟩ <;> first | (exfalso; omega) | (exact ⟨rfl, rfl⟩)
    · skip
      refine ev_ldc eX11_image_20 qX11_158 ?_
      refine ev_iret eX11_image_22 rfl ?_
      refine ⟨fun hc => ?_, fun hc => ?_, fun hc => ?_⟩ <;> first | (exfalso; omega) | (exact ⟨rfl, rfl⟩)
  · skip
    refine ev_ldc eX11_image_7 qX11_89 ?_
    refine ev_iret eX11_image_9 rfl ?_
    refine ⟨fun hc => ?_, fun hc => ?_, fun hc => ?_⟩ <;> first | (exfalso; omega) | (exact ⟨rfl, rfl⟩)
set_option maxRecDepth 20000 in
theorem o_restore {d : Nat} {σ : St} {m : Nat} (hm : σ 6 4 = (m : Int)) (hm4 : m < 4) {x : Int} (hx : -2147483648 ≤ x ∧ x ≤ 2147483647) : Ct (d + 3) mX11_restore [.ref 0, vi x] σ (fun r τ => (¬ (0 ≤ x ∧ x < 2) → some (vi (-1000001)) = r ∧ σ = τ) ∧ ((0 ≤ x ∧ x < 2) ∧ m / 2 ^ x.toNat % 2 ≠ 1 → some (vi (-1000002)) = r ∧ σ = τ) ∧ ((0 ≤ x ∧ x < 2) ∧ m / 2 ^ x.toNat % 2 = 1 → some (vi 1) = r ∧ up (up (upA σ 16 (cpF (σ 20) (σ 16) (x.toNat * 44) 0 44)) 6 2 0) 6 3 0 = τ)) := by
  refine ct_of hX11_restore (Nat.le_of_ble_eq_true rfl) ?_
  refine ev_iload_n eX11_restore_0 rfl ?_
  refine ev_cS1 eX11_restore_1 ⟨lX11_346, kX6_isImage⟩ rfl (c_isImage (x := x) (by omega)) ?_
  rintro _ _ ⟨rfl, rfl⟩
  refine ev_ifb_ne 10 eX11_restore_4 rfl (fun h4 => ?_) (fun h4 => ?_)
  · skip
    obtain ⟨k, rfl⟩ : ∃ q : Nat, x = q := ⟨x.toNat, by omega⟩
    rw [Int.toNat_natCast]
    refine ev_aload_n eX11_restore_10 rfl ?_
    refine ev_getr eX11_restore_11 fX11_39 rfl ?_
    refine ev_iload_n eX11_restore_14 rfl ?_
    refine ev_cV1 eX11_restore_15 ⟨lX11_353, kX6_hasImage⟩ rfl rfl (c_hasImage (k := k) (m := m) (by omega) hm hm4) ?_
    rintro _ _ ⟨rfl, rfl⟩
    refine ev_ifb_ne 24 eX11_restore_18 rfl (fun h18 => ?_) (fun h18 => ?_)
    · skip
      refine ev_aload_n eX11_restore_24 rfl ?_
      refine ev_getr eX11_restore_25 fX11_39 rfl ?_
      refine ev_iload_n eX11_restore_28 rfl ?_
      refine ev_aload_n eX11_restore_29 rfl ?_
      refine ev_getr eX11_restore_30 fX11_26 rfl ?_
      refine ev_cV2 eX11_restore_33 ⟨lX11_356, kX6_bringImage⟩ rfl rfl (c_bringImage Bq3 (k := k) (by omega)) ?_
      rintro _ _ ⟨rfl, rfl⟩
      refine ev_aload_n eX11_restore_36 rfl ?_
      refine ev_getr eX11_restore_37 fX11_39 rfl ?_
      refine ev_cV0 eX11_restore_40 ⟨lX11_149, kX6_forgetActs⟩ rfl rfl c_forgetActs ?_
      rintro _ _ ⟨rfl, rfl⟩
      refine ev_iconst eX11_restore_43 ?_
      refine ev_iret eX11_restore_44 rfl ?_
      refine ⟨fun hc => ?_, fun hc => ?_, fun hc => ?_⟩ <;> first | (exfalso; omega) | (exact ⟨rfl, rfl⟩)
    · skip
      refine ev_ldc eX11_restore_21 qX11_158 ?_
      refine ev_iret eX11_restore_23 rfl ?_
      refine ⟨fun hc => ?_, fun hc => ?_, fun hc => ?_⟩ <;> first | (exfalso; omega) | (exact ⟨rfl, rfl⟩)
  · skip
    refine ev_ldc eX11_restore_7 qX11_89 ?_
    refine ev_iret eX11_restore_9 rfl ?_
    refine ⟨fun hc => ?_, fun hc => ?_, fun hc => ?_⟩ <;> first | (exfalso; omega) | (exact ⟨rfl, rfl⟩)
theorem grw_le {σ : St} {B : Bok} {n : Nat} (h : Grw σ B n) : (Gr B n).length ≤ 300 := (h n (Nat.le_refl _)).1
theorem grw_z {σ : St} {B : Bok} {n : Nat} (h : Grw σ B n) : σ 23 n = ((Gr B n).length : Int) := (h n (Nat.le_refl _)).2.1
theorem grw_at {σ : St} {B : Bok} {n i : Nat} (h : Grw σ B n) (hi : i < (Gr B n).length) : σ (24 + n) i = ((Gr B n).getD i 0 : Int) := (h n (Nat.le_refl _)).2.2.1 i _ (by rw [List.getD_eq_getElem?_getD, List.getElem?_eq_getElem hi]; rfl)
set_option maxRecDepth 20000 in
theorem o_grown {d : Nat} {σ : St} {B : Bok} (hB : BkC σ 16 B) (hZ : OkZ B) {n i : Int} (hn : -2147483648 ≤ n ∧ n ≤ 2147483647) (hi : -2147483648 ≤ i ∧ i ≤ 2147483647) : Ct (d + 4) mX11_grown [.ref 0, vi n, vi i] σ (fun r τ => (B 2 = 0 → some (vi (-1000002)) = r ∧ σ = τ) ∧ (0 < B 2 ∧ ¬ ((0 ≤ n ∧ n ≤ 6) ∧ -1 ≤ i) → some (vi (-1000001)) = r ∧ σ = τ) ∧ (0 < B 2 ∧ ((0 ≤ n ∧ n ≤ 6) ∧ -1 ≤ i) ∧ 300 < ((Gr B n.toNat).length : Int) → some (vi (-1000003)) = r ∧ ∀ k, k < 23 ∨ 38 ≤ k → τ k = σ k) ∧ (0 < B 2 ∧ ((0 ≤ n ∧ n ≤ 6) ∧ -1 ≤ i) ∧ ((Gr B n.toNat).length : Int) ≤ 300 → some (vi (if i = -1 then ((Gr B n.toNat).length : Int) else if i < ((Gr B n.toNat).length : Int) then ((Gr B n.toNat).getD i.toNat 0 : Int) else -1000000)) = r ∧ ∀ k, k < 23 ∨ 38 ≤ k → τ k = σ k)) := by
  refine ct_of hX11_grown (Nat.le_of_ble_eq_true rfl) ?_
  have hf := hZ.wf
  have h7 := hf.2.1
  refine ev_aload_n eX11_grown_0 rfl ?_
  refine ev_getr eX11_grown_1 fX11_26 rfl ?_
  refine ev_cV0 eX11_grown_4 ⟨lX11_197, kX0_stands⟩ rfl rfl (c_stands Bq3 hB hf.1) ?_
  rintro _ _ ⟨rfl, rfl⟩
  refine ev_ifb_ne 13 eX11_grown_7 rfl (fun h7 => ?_) (fun h7 => ?_)
  · skip
    refine ev_iload_n eX11_grown_13 rfl ?_
    refine ev_cS1 eX11_grown_14 ⟨lX11_245, kX3_isStep⟩ rfl (c_isStep (x := n) (by omega)) ?_
    rintro _ _ ⟨rfl, rfl⟩
    refine ev_ifb_eq 25 eX11_grown_17 rfl (fun h17 => ?_) (fun h17 => ?_)
    · skip
      refine ev_ldc eX11_grown_25 qX11_89 ?_
      refine ev_iret eX11_grown_27 rfl ?_
      refine ⟨fun hc => ?_, fun hc => ?_, fun hc => ?_, fun hc => ?_⟩ <;> first | (exfalso; omega) | (exact ⟨rfl, rfl⟩)
    · skip
      refine ev_iload_n eX11_grown_20 rfl ?_
      refine ev_iconst eX11_grown_21 ?_
      refine ev_icmp_ge 28 eX11_grown_22 rfl (by omega) (by omega) (fun h22 => ?_) (fun h22 => ?_)
      · skip
        have hO := hZ.ok (by omega)
        obtain ⟨q, rfl⟩ : ∃ q : Nat, n = q := ⟨n.toNat, by omega⟩
        rw [Int.toNat_natCast]
        refine ev_aload_n eX11_grown_28 rfl ?_
        refine ev_getr eX11_grown_29 fX11_46 rfl ?_
        refine ev_aload_n eX11_grown_32 rfl ?_
        refine ev_getr eX11_grown_33 fX11_26 rfl ?_
        refine ev_iload_n eX11_grown_36 rfl ?_
        refine ev_cV2 eX11_grown_37 ⟨lX11_222, kX3_grow⟩ rfl rfl (c_grow Bq3 hB hO (n := q) (by omega)) ?_
        rintro _ ξ ⟨q0, ⟨rfl, q1⟩ | ⟨rfl, q1⟩⟩
        · skip
          refine ev_if_ne 46 eX11_grown_40 rfl (by omega) (fun h40 => ?_) (fun h40 => False.elim (by omega))
          have hz := grw_z q1
          have hl := grw_le q1
          refine ev_iload_n eX11_grown_46 rfl ?_
          refine ev_iconst eX11_grown_47 ?_
          refine ev_icmp_ne 60 eX11_grown_48 rfl (by omega) (by omega) (fun h48 => ?_) (fun h48 => ?_)
          · skip
            refine ev_iload_n eX11_grown_60 rfl ?_
            refine ev_aload_n eX11_grown_61 rfl ?_
            refine ev_getr eX11_grown_62 fX11_46 rfl ?_
            refine ev_iload_n eX11_grown_65 rfl ?_
            refine ev_cV1 eX11_grown_66 ⟨lX11_226, kX3_sizeAt⟩ rfl rfl (c_sizeAt (k := q) (by omega)) ?_
            rintro _ _ ⟨rfl, rfl⟩
            rw [hz]
            refine ev_icmp_ge 84 eX11_grown_69 rfl (by omega) (by omega) (fun h69 => ?_) (fun h69 => ?_)
            · skip
              refine ev_ldc eX11_grown_84 qX11_244 ?_
              refine ev_iret eX11_grown_86 rfl ?_
              refine ⟨fun hc => ?_, fun hc => ?_, fun hc => ?_, fun hc => ?_⟩ <;> first | (exfalso; omega) | (exact ⟨congrArg (fun q => some (vi q)) (by repeat (first | rw [if_pos (by omega)] | rw [if_neg (by omega)]); try rw [Int.toNat_natCast]), q0⟩)
            · skip
              refine ev_aload_n eX11_grown_72 rfl ?_
              refine ev_getr eX11_grown_73 fX11_46 rfl ?_
              refine ev_iload_n eX11_grown_76 rfl ?_
              refine ev_iload_n eX11_grown_77 rfl ?_
              obtain ⟨j, rfl⟩ : ∃ q : Nat, i = q := ⟨i.toNat, by omega⟩
              refine ev_cV2 eX11_grown_78 ⟨lX11_229, kX3_letterAt⟩ rfl rfl (c_letterAt (k := q) (i := j) (by omega) (by omega)) ?_
              rintro _ _ ⟨rfl, rfl⟩
              rw [grw_at q1 (by omega)]
              refine ev_goto 86 eX11_grown_81 rfl ?_
              refine ev_iret eX11_grown_86 rfl ?_
              refine ⟨fun hc => ?_, fun hc => ?_, fun hc => ?_, fun hc => ?_⟩ <;> first | (exfalso; omega) | (exact ⟨congrArg (fun q => some (vi q)) (by repeat (first | rw [if_pos (by omega)] | rw [if_neg (by omega)]); try rw [Int.toNat_natCast]), q0⟩)
          · skip
            refine ev_aload_n eX11_grown_51 rfl ?_
            refine ev_getr eX11_grown_52 fX11_46 rfl ?_
            refine ev_iload_n eX11_grown_55 rfl ?_
            refine ev_cV1 eX11_grown_56 ⟨lX11_226, kX3_sizeAt⟩ rfl rfl (c_sizeAt (k := q) (by omega)) ?_
            rintro _ _ ⟨rfl, rfl⟩
            rw [hz]
            refine ev_iret eX11_grown_59 rfl ?_
            refine ⟨fun hc => ?_, fun hc => ?_, fun hc => ?_, fun hc => ?_⟩ <;> first | (exfalso; omega) | (exact ⟨congrArg (fun q => some (vi q)) (by repeat (first | rw [if_pos (by omega)] | rw [if_neg (by omega)]); try rw [Int.toNat_natCast]), q0⟩)
        · skip
          refine ev_if_ne 46 eX11_grown_40 rfl (by omega) (fun h40 => False.elim (by omega)) (fun h40 => ?_)
          refine ev_ldc eX11_grown_43 qX11_130 ?_
          refine ev_iret eX11_grown_45 rfl ?_
          refine ⟨fun hc => ?_, fun hc => ?_, fun hc => ?_, fun hc => ?_⟩ <;> first | (exfalso; omega) | (exact ⟨rfl, q0⟩)
      · skip
        refine ev_ldc eX11_grown_25 qX11_89 ?_
        refine ev_iret eX11_grown_27 rfl ?_
        refine ⟨fun hc => ?_, fun hc => ?_, fun hc => ?_, fun hc => ?_⟩ <;> first | (exfalso; omega) | (exact ⟨rfl, rfl⟩)
  · skip
    refine ev_ldc eX11_grown_10 qX11_158 ?_
    refine ev_iret eX11_grown_12 rfl ?_
    refine ⟨fun hc => ?_, fun hc => ?_, fun hc => ?_, fun hc => ?_⟩ <;> first | (exfalso; omega) | (exact ⟨rfl, rfl⟩)
set_option maxRecDepth 20000 in
theorem o_origin {d : Nat} {σ : St} {B : Bok} (hB : BkC σ 16 B) (hZ : OkZ B) {n i j : Int} (hn : -2147483648 ≤ n ∧ n ≤ 2147483647) (hi : -2147483648 ≤ i ∧ i ≤ 2147483647) (hj : -2147483648 ≤ j ∧ j ≤ 2147483647) : Ct (d + 4) mX11_origin [.ref 0, vi n, vi i, vi j] σ (fun r τ => (B 2 = 0 → some (vi (-1000002)) = r ∧ σ = τ) ∧ (0 < B 2 ∧ ¬ (0 ≤ n ∧ n ≤ 6) → some (vi (-1000001)) = r ∧ σ = τ) ∧ ((0 < B 2 ∧ (0 ≤ n ∧ n ≤ 6)) ∧ 300 < ((Gr B n.toNat).length : Int) → some (vi (-1000003)) = r ∧ ∀ k, k < 23 ∨ 38 ≤ k → τ k = σ k) ∧ ((0 < B 2 ∧ (0 ≤ n ∧ n ≤ 6)) ∧ ((Gr B n.toNat).length : Int) ≤ 300 ∧ ¬ ((0 ≤ i ∧ i < ((Gr B n.toNat).length : Int)) ∧ 0 ≤ j ∧ j ≤ n) → some (vi (-1000001)) = r ∧ ∀ k, k < 23 ∨ 38 ≤ k → τ k = σ k) ∧ ((0 < B 2 ∧ (0 ≤ n ∧ n ≤ 6)) ∧ ((Gr B n.toNat).length : Int) ≤ 300 ∧ ((0 ≤ i ∧ i < ((Gr B n.toNat).length : Int)) ∧ 0 ≤ j ∧ j ≤ n) → some (vi (anc B n.toNat i.toNat j.toNat)) = r ∧ ∀ k, k < 23 ∨ 38 ≤ k → τ k = σ k)) := by
  refine ct_of hX11_origin (Nat.le_of_ble_eq_true rfl) ?_
  have hf := hZ.wf
  have h7 := hf.2.1
  refine ev_aload_n eX11_origin_0 rfl ?_
  refine ev_getr eX11_origin_1 fX11_26 rfl ?_
  refine ev_cV0 eX11_origin_4 ⟨lX11_197, kX0_stands⟩ rfl rfl (c_stands Bq3 hB hf.1) ?_
  rintro _ _ ⟨rfl, rfl⟩
  refine ev_ifb_ne 13 eX11_origin_7 rfl (fun h7 => ?_) (fun h7 => ?_)
  · skip
    refine ev_iload_n eX11_origin_13 rfl ?_
    refine ev_cS1 eX11_origin_14 ⟨lX11_245, kX3_isStep⟩ rfl (c_isStep (x := n) (by omega)) ?_
    rintro _ _ ⟨rfl, rfl⟩
    refine ev_ifb_ne 23 eX11_origin_17 rfl (fun h17 => ?_) (fun h17 => ?_)
    · skip
      have hO := hZ.ok (by omega)
      obtain ⟨q, rfl⟩ : ∃ q : Nat, n = q := ⟨n.toNat, by omega⟩
      rw [Int.toNat_natCast]
      refine ev_aload_n eX11_origin_23 rfl ?_
      refine ev_getr eX11_origin_24 fX11_46 rfl ?_
      refine ev_aload_n eX11_origin_27 rfl ?_
      refine ev_getr eX11_origin_28 fX11_26 rfl ?_
      refine ev_iload_n eX11_origin_31 rfl ?_
      refine ev_cV2 eX11_origin_32 ⟨lX11_222, kX3_grow⟩ rfl rfl (c_grow Bq3 hB hO (n := q) (by omega)) ?_
      rintro _ ξ ⟨q0, ⟨rfl, q1⟩ | ⟨rfl, q1⟩⟩
      · skip
        refine ev_if_ne 41 eX11_origin_35 rfl (by omega) (fun h35 => ?_) (fun h35 => False.elim (by omega))
        have hz := grw_z q1
        have hl := grw_le q1
        refine ev_iload_n eX11_origin_41 rfl ?_
        refine ev_if_lt 66 eX11_origin_42 rfl (by omega) (fun h42 => ?_) (fun h42 => ?_)
        · skip
          refine ev_ldc eX11_origin_66 qX11_89 ?_
          refine ev_iret eX11_origin_68 rfl ?_
          refine ⟨fun hc => ?_, fun hc => ?_, fun hc => ?_, fun hc => ?_, fun hc => ?_⟩ <;> first | (exfalso; omega) | (exact ⟨rfl, q0⟩)
        · skip
          refine ev_iload_n eX11_origin_45 rfl ?_
          refine ev_aload_n eX11_origin_46 rfl ?_
          refine ev_getr eX11_origin_47 fX11_46 rfl ?_
          refine ev_iload_n eX11_origin_50 rfl ?_
          refine ev_cV1 eX11_origin_51 ⟨lX11_226, kX3_sizeAt⟩ rfl rfl (c_sizeAt (k := q) (by omega)) ?_
          rintro _ _ ⟨rfl, rfl⟩
          rw [hz]
          refine ev_icmp_ge 66 eX11_origin_54 rfl (by omega) (by omega) (fun h54 => ?_) (fun h54 => ?_)
          · skip
            refine ev_ldc eX11_origin_66 qX11_89 ?_
            refine ev_iret eX11_origin_68 rfl ?_
            refine ⟨fun hc => ?_, fun hc => ?_, fun hc => ?_, fun hc => ?_, fun hc => ?_⟩ <;> first | (exfalso; omega) | (exact ⟨rfl, q0⟩)
          · skip
            refine ev_iload_n eX11_origin_57 rfl ?_
            refine ev_if_lt 66 eX11_origin_58 rfl (by omega) (fun h58 => ?_) (fun h58 => ?_)
            · skip
              refine ev_ldc eX11_origin_66 qX11_89 ?_
              refine ev_iret eX11_origin_68 rfl ?_
              refine ⟨fun hc => ?_, fun hc => ?_, fun hc => ?_, fun hc => ?_, fun hc => ?_⟩ <;> first | (exfalso; omega) | (exact ⟨rfl, q0⟩)
            · skip
              refine ev_iload_n eX11_origin_61 rfl ?_
              refine ev_iload_n eX11_origin_62 rfl ?_
              refine ev_icmp_le 69 eX11_origin_63 rfl (by omega) (by omega) (fun h63 => ?_) (fun h63 => ?_)
              · skip
                obtain ⟨i1, rfl⟩ : ∃ q : Nat, i = q := ⟨i.toNat, by omega⟩
                obtain ⟨j1, rfl⟩ : ∃ q : Nat, j = q := ⟨j.toNat, by omega⟩
                refine ev_aload_n eX11_origin_69 rfl ?_
                refine ev_getr eX11_origin_70 fX11_46 rfl ?_
                refine ev_iload_n eX11_origin_73 rfl ?_
                refine ev_iload_n eX11_origin_74 rfl ?_
                refine ev_iload_n eX11_origin_75 rfl ?_
                refine ev_cV3 eX11_origin_76 ⟨lX11_248, kX3_ancestor⟩ rfl rfl (c_anc (n := q) (i := i1) (q := j1) (by omega) q1 (by omega) (by omega)) ?_
                rintro _ _ ⟨rfl, rfl⟩
                refine ev_iret eX11_origin_79 rfl ?_
                refine ⟨fun hc => ?_, fun hc => ?_, fun hc => ?_, fun hc => ?_, fun hc => ?_⟩ <;> first | (exfalso; omega) | (exact ⟨rfl, q0⟩)
              · skip
                refine ev_ldc eX11_origin_66 qX11_89 ?_
                refine ev_iret eX11_origin_68 rfl ?_
                refine ⟨fun hc => ?_, fun hc => ?_, fun hc => ?_, fun hc => ?_, fun hc => ?_⟩ <;> first | (exfalso; omega) | (exact ⟨rfl, q0⟩)
      · skip
        refine ev_if_ne 41 eX11_origin_35 rfl (by omega) (fun h35 => False.elim (by omega)) (fun h35 => ?_)
        refine ev_ldc eX11_origin_38 qX11_130 ?_
        refine ev_iret eX11_origin_40 rfl ?_
        refine ⟨fun hc => ?_, fun hc => ?_, fun hc => ?_, fun hc => ?_, fun hc => ?_⟩ <;> first | (exfalso; omega) | (exact ⟨rfl, q0⟩)
    · skip
      refine ev_ldc eX11_origin_20 qX11_89 ?_
      refine ev_iret eX11_origin_22 rfl ?_
      refine ⟨fun hc => ?_, fun hc => ?_, fun hc => ?_, fun hc => ?_, fun hc => ?_⟩ <;> first | (exfalso; omega) | (exact ⟨rfl, rfl⟩)
  · skip
    refine ev_ldc eX11_origin_10 qX11_158 ?_
    refine ev_iret eX11_origin_12 rfl ?_
    refine ⟨fun hc => ?_, fun hc => ?_, fun hc => ?_, fun hc => ?_, fun hc => ?_⟩ <;> first | (exfalso; omega) | (exact ⟨rfl, rfl⟩)
theorem pl_le {B : Bok} (h : Ok B) {n v i : Nat} (hv : v < 2) (hi : i ≤ (Gr B n).length) : pl B n v i ≤ i * 18 := sumF_le (fun q hq => by
  have hj : q < (Gr B n).length := by omega
  have he : (Gr B n)[q]? = some ((Gr B n).getD q 0) := by rw [List.getD_eq_getElem?_getD, List.getElem?_eq_getElem hj]; rfl
  exact ln_le h.1 (by have := Gr_lt h n _ (List.mem_of_getElem? he); have := h.1.2.1; omega) hv)
set_option maxRecDepth 20000 in
theorem o_place {d : Nat} {σ : St} {B : Bok} (hB : BkC σ 16 B) (hZ : OkZ B) {n i e : Int} (hn : -2147483648 ≤ n ∧ n ≤ 2147483647) (hi : -2147483648 ≤ i ∧ i ≤ 2147483647) (he : -2147483648 ≤ e ∧ e ≤ 2147483647) : Ct (d + 4) mX11_place [.ref 0, vi n, vi i, vi e] σ (fun r τ => (B 2 = 0 → some (vl (-1000002)) = r ∧ σ = τ) ∧ (0 < B 2 ∧ ¬ ((0 ≤ n ∧ n ≤ 6) ∧ 0 ≤ i ∧ 0 ≤ e ∧ e ≤ 1) → some (vl (-1000001)) = r ∧ σ = τ) ∧ (0 < B 2 ∧ ((0 ≤ n ∧ n ≤ 6) ∧ 0 ≤ i ∧ 0 ≤ e ∧ e ≤ 1) ∧ 300 < ((Gr B n.toNat).length : Int) → some (vl (-1000003)) = r ∧ ∀ k, k < 23 ∨ 38 ≤ k → τ k = σ k) ∧ (0 < B 2 ∧ ((0 ≤ n ∧ n ≤ 6) ∧ 0 ≤ i ∧ 0 ≤ e ∧ e ≤ 1) ∧ ((Gr B n.toNat).length : Int) ≤ 300 ∧ ((Gr B n.toNat).length : Int) ≤ i → some (vl (-1000000)) = r ∧ ∀ k, k < 23 ∨ 38 ≤ k → τ k = σ k) ∧ (0 < B 2 ∧ ((0 ≤ n ∧ n ≤ 6) ∧ 0 ≤ i ∧ 0 ≤ e ∧ e ≤ 1) ∧ ((Gr B n.toNat).length : Int) ≤ 300 ∧ i < ((Gr B n.toNat).length : Int) → some (vl (pl B n.toNat e.toNat i.toNat)) = r ∧ ∀ k, k < 23 ∨ 38 ≤ k → τ k = σ k)) := by
  refine ct_of hX11_place (Nat.le_of_ble_eq_true rfl) ?_
  have hf := hZ.wf
  have h7 := hf.2.1
  refine ev_aload_n eX11_place_0 rfl ?_
  refine ev_getr eX11_place_1 fX11_26 rfl ?_
  refine ev_cV0 eX11_place_4 ⟨lX11_197, kX0_stands⟩ rfl rfl (c_stands Bq3 hB hf.1) ?_
  rintro _ _ ⟨rfl, rfl⟩
  refine ev_ifb_ne 14 eX11_place_7 rfl (fun h7 => ?_) (fun h7 => ?_)
  · skip
    refine ev_iload_n eX11_place_14 rfl ?_
    refine ev_cS1 eX11_place_15 ⟨lX11_245, kX3_isStep⟩ rfl (c_isStep (x := n) (by omega)) ?_
    rintro _ _ ⟨rfl, rfl⟩
    refine ev_ifb_eq 34 eX11_place_18 rfl (fun h18 => ?_) (fun h18 => ?_)
    · skip
      refine ev_ldc2 eX11_place_34 qX11_253 ?_
      refine ev_lret eX11_place_37 rfl ?_
      refine ⟨fun hc => ?_, fun hc => ?_, fun hc => ?_, fun hc => ?_, fun hc => ?_⟩ <;> first | (exfalso; omega) | (exact ⟨rfl, rfl⟩)
    · skip
      refine ev_iload_n eX11_place_21 rfl ?_
      refine ev_if_lt 34 eX11_place_22 rfl (by omega) (fun h22 => ?_) (fun h22 => ?_)
      · skip
        refine ev_ldc2 eX11_place_34 qX11_253 ?_
        refine ev_lret eX11_place_37 rfl ?_
        refine ⟨fun hc => ?_, fun hc => ?_, fun hc => ?_, fun hc => ?_, fun hc => ?_⟩ <;> first | (exfalso; omega) | (exact ⟨rfl, rfl⟩)
      · skip
        refine ev_iload_n eX11_place_25 rfl ?_
        refine ev_if_lt 34 eX11_place_26 rfl (by omega) (fun h26 => ?_) (fun h26 => ?_)
        · skip
          refine ev_ldc2 eX11_place_34 qX11_253 ?_
          refine ev_lret eX11_place_37 rfl ?_
          refine ⟨fun hc => ?_, fun hc => ?_, fun hc => ?_, fun hc => ?_, fun hc => ?_⟩ <;> first | (exfalso; omega) | (exact ⟨rfl, rfl⟩)
        · skip
          refine ev_iload_n eX11_place_29 rfl ?_
          refine ev_iconst eX11_place_30 ?_
          refine ev_icmp_le 38 eX11_place_31 rfl (by omega) (by omega) (fun h31 => ?_) (fun h31 => ?_)
          · skip
            have hO := hZ.ok (by omega)
            obtain ⟨q, rfl⟩ : ∃ q : Nat, n = q := ⟨n.toNat, by omega⟩
            obtain ⟨i1, rfl⟩ : ∃ q : Nat, i = q := ⟨i.toNat, by omega⟩
            obtain ⟨e1, rfl⟩ : ∃ q : Nat, e = q := ⟨e.toNat, by omega⟩
            rw [Int.toNat_natCast, Int.toNat_natCast, Int.toNat_natCast]
            refine ev_aload_n eX11_place_38 rfl ?_
            refine ev_getr eX11_place_39 fX11_46 rfl ?_
            refine ev_aload_n eX11_place_42 rfl ?_
            refine ev_getr eX11_place_43 fX11_26 rfl ?_
            refine ev_iload_n eX11_place_46 rfl ?_
            refine ev_cV2 eX11_place_47 ⟨lX11_222, kX3_grow⟩ rfl rfl (c_grow Bq3 hB hO (n := q) (by omega)) ?_
            rintro _ ξ ⟨q0, ⟨rfl, q1⟩ | ⟨rfl, q1⟩⟩
            · skip
              refine ev_if_ne 57 eX11_place_50 rfl (by omega) (fun h50 => ?_) (fun h50 => False.elim (by omega))
              have hz := grw_z q1
              have hl := grw_le q1
              refine ev_iload_n eX11_place_57 rfl ?_
              refine ev_aload_n eX11_place_58 rfl ?_
              refine ev_getr eX11_place_59 fX11_46 rfl ?_
              refine ev_iload_n eX11_place_62 rfl ?_
              refine ev_cV1 eX11_place_63 ⟨lX11_226, kX3_sizeAt⟩ rfl rfl (c_sizeAt (k := q) (by omega)) ?_
              rintro _ _ ⟨rfl, rfl⟩
              rw [hz]
              refine ev_icmp_ge 87 eX11_place_66 rfl (by omega) (by omega) (fun h66 => ?_) (fun h66 => ?_)
              · skip
                refine ev_ldc2 eX11_place_87 qX11_261 ?_
                refine ev_lret eX11_place_90 rfl ?_
                refine ⟨fun hc => ?_, fun hc => ?_, fun hc => ?_, fun hc => ?_, fun hc => ?_⟩ <;> first | (exfalso; omega) | (exact ⟨rfl, q0⟩)
              · skip
                refine ev_aload_n eX11_place_69 rfl ?_
                refine ev_getr eX11_place_70 fX11_46 rfl ?_
                refine ev_aload_n eX11_place_73 rfl ?_
                refine ev_getr eX11_place_74 fX11_26 rfl ?_
                refine ev_iload_n eX11_place_77 rfl ?_
                refine ev_iload_n eX11_place_78 rfl ?_
                refine ev_iload_n eX11_place_79 rfl ?_
                refine ev_cV4 eX11_place_80 ⟨lX11_257, kX3_lengthAhead⟩ rfl rfl (c_ahead Bq3 (fun j hj => by rw [q0 _ (by omega)]; exact hB j hj) hO (n := q) (i := i1) (v := e1) (by omega) q1 (by omega) (by omega)) ?_
                rintro _ _ ⟨rfl, rfl⟩
                have hpl := pl_le hO (n := q) (v := e1) (i := i1) (by omega) (by omega)
                refine ev_i2l eX11_place_83 (by omega) ?_
                refine ev_goto 90 eX11_place_84 rfl ?_
                refine ev_lret eX11_place_90 rfl ?_
                refine ⟨fun hc => ?_, fun hc => ?_, fun hc => ?_, fun hc => ?_, fun hc => ?_⟩ <;> first | (exfalso; omega) | (exact ⟨rfl, q0⟩)
            · skip
              refine ev_if_ne 57 eX11_place_50 rfl (by omega) (fun h50 => False.elim (by omega)) (fun h50 => ?_)
              refine ev_ldc2 eX11_place_53 qX11_255 ?_
              refine ev_lret eX11_place_56 rfl ?_
              refine ⟨fun hc => ?_, fun hc => ?_, fun hc => ?_, fun hc => ?_, fun hc => ?_⟩ <;> first | (exfalso; omega) | (exact ⟨rfl, q0⟩)
          · skip
            refine ev_ldc2 eX11_place_34 qX11_253 ?_
            refine ev_lret eX11_place_37 rfl ?_
            refine ⟨fun hc => ?_, fun hc => ?_, fun hc => ?_, fun hc => ?_, fun hc => ?_⟩ <;> first | (exfalso; omega) | (exact ⟨rfl, rfl⟩)
  · skip
    refine ev_ldc2 eX11_place_10 qX11_251 ?_
    refine ev_lret eX11_place_13 rfl ?_
    refine ⟨fun hc => ?_, fun hc => ?_, fun hc => ?_, fun hc => ?_, fun hc => ?_⟩ <;> first | (exfalso; omega) | (exact ⟨rfl, rfl⟩)
set_option maxRecDepth 20000 in
theorem c_orOver {d : Nat} {σ : St} {x : Int} (hx : -9223372036854775808 ≤ x ∧ x ≤ 9223372036854775807) : Ct (d + 1) mX11_orOver [.ref 0, vl x] σ (fun r τ => (x < 0 → some (vl (-1000016)) = r ∧ up σ 0 12 6 = τ) ∧ (0 ≤ x → some (vl x) = r ∧ up σ 0 12 0 = τ)) := by
  refine ct_of hX11_orOver (Nat.le_of_ble_eq_true rfl) ?_
  refine ev_lload_n eX11_orOver_0 rfl ?_
  refine ev_lconst 0 eX11_orOver_1 rfl ?_
  refine ev_lif_ge 14 eX11_orOver_2 eX11_orOver_3 rfl (by omega) (by omega) (fun h2 => ?_) (fun h2 => ?_)
  · skip
    refine ev_aload_n eX11_orOver_14 rfl ?_
    refine ev_iconst eX11_orOver_15 ?_
    refine ev_puti eX11_orOver_16 pX11_82 rfl ?_
    refine ev_lload_n eX11_orOver_19 rfl ?_
    refine ev_lret eX11_orOver_20 rfl ?_
    refine ⟨fun hc => ?_, fun hc => ?_⟩ <;> first | (exfalso; omega) | (exact ⟨rfl, rfl⟩)
  · skip
    refine ev_aload_n eX11_orOver_6 rfl ?_
    refine ev_bipush eX11_orOver_7 rfl ?_
    refine ev_cV1 eX11_orOver_9 ⟨lX11_90, kX11_found⟩ rfl rfl c_found ?_
    rintro _ _ ⟨rfl, rfl⟩
    refine ev_i2l eX11_orOver_12 (by omega) ?_
    refine ev_lret eX11_orOver_13 rfl ?_
    refine ⟨fun hc => ?_, fun hc => ?_⟩ <;> first | (exfalso; omega) | (exact ⟨rfl, rfl⟩)
set_option maxRecDepth 20000 in
theorem o_numbers {d : Nat} {σ : St} {B : Bok} (hB : BkC σ 16 B) (hZ : OkZ B) {x n : Int} (hx : -2147483648 ≤ x ∧ x ≤ 2147483647) (hn : -2147483648 ≤ n ∧ n ≤ 2147483647) : Ct (d + 5) mX11_numbers [.ref 0, vi x, vi n] σ (fun r τ => (¬ ((0 ≤ x ∧ x < B 2) ∧ (0 ≤ n ∧ n ≤ 60)) → some (vl (-1000001)) = r ∧ σ = τ) ∧ (((0 ≤ x ∧ x < B 2) ∧ (0 ≤ n ∧ n ≤ 60)) ∧ ovr B n.toNat → some (vl (-1000016)) = r ∧ τ 0 11 = σ 0 11 ∧ τ 0 12 = 6 ∧ ∀ k, k ≠ 8 → k ≠ 38 → k ≠ 39 → k ≠ 40 → k ≠ 0 → τ k = σ k) ∧ (((0 ≤ x ∧ x < B 2) ∧ (0 ≤ n ∧ n ≤ 60)) ∧ ¬ ovr B n.toNat → some (vl (nm B n.toNat x.toNat)) = r ∧ τ 0 11 = σ 0 11 ∧ τ 0 12 = 0 ∧ ∀ k, k ≠ 8 → k ≠ 38 → k ≠ 39 → k ≠ 40 → k ≠ 0 → τ k = σ k)) := by
  refine ct_of hX11_numbers (Nat.le_of_ble_eq_true rfl) ?_
  have hf := hZ.wf
  have h7 := hf.2.1
  refine ev_aload_n eX11_numbers_0 rfl ?_
  refine ev_getr eX11_numbers_1 fX11_26 rfl ?_
  refine ev_iload_n eX11_numbers_4 rfl ?_
  refine ev_cV1 eX11_numbers_5 ⟨lX11_162, kX0_hasSort⟩ rfl rfl (c_hasSort Bq3 hB hf.1 (x := x) (by omega)) ?_
  rintro _ _ ⟨rfl, rfl⟩
  refine ev_ifb_eq 21 eX11_numbers_8 rfl (fun h8 => ?_) (fun h8 => ?_)
  · skip
    refine ev_ldc2 eX11_numbers_21 qX11_253 ?_
    refine ev_lret eX11_numbers_24 rfl ?_
    refine ⟨fun hc => ?_, fun hc => ?_, fun hc => ?_⟩ <;> first | (exfalso; omega) | (exact ⟨rfl, rfl⟩)
  · skip
    refine ev_iload_n eX11_numbers_11 rfl ?_
    refine ev_if_lt 21 eX11_numbers_12 rfl (by omega) (fun h12 => ?_) (fun h12 => ?_)
    · skip
      refine ev_ldc2 eX11_numbers_21 qX11_253 ?_
      refine ev_lret eX11_numbers_24 rfl ?_
      refine ⟨fun hc => ?_, fun hc => ?_, fun hc => ?_⟩ <;> first | (exfalso; omega) | (exact ⟨rfl, rfl⟩)
    · skip
      refine ev_iload_n eX11_numbers_15 rfl ?_
      refine ev_bipush eX11_numbers_16 rfl ?_
      refine ev_icmp_le 25 eX11_numbers_18 rfl (by omega) (by omega) (fun h18 => ?_) (fun h18 => ?_)
      · skip
        obtain ⟨s, rfl⟩ : ∃ q : Nat, x = q := ⟨x.toNat, by omega⟩
        have hO := hZ.ok (by omega)
        obtain ⟨q, rfl⟩ : ∃ q : Nat, n = q := ⟨n.toNat, by omega⟩
        rw [Int.toNat_natCast, Int.toNat_natCast]
        refine ev_aload_n eX11_numbers_25 rfl ?_
        refine ev_aload_n eX11_numbers_26 rfl ?_
        refine ev_getr eX11_numbers_27 fX11_53 rfl ?_
        refine ev_aload_n eX11_numbers_30 rfl ?_
        refine ev_getr eX11_numbers_31 fX11_26 rfl ?_
        refine ev_iload_n eX11_numbers_34 rfl ?_
        refine ev_cV2 eX11_numbers_35 ⟨lX11_263, kX9_run⟩ rfl rfl (c_run Bq3 hB hf (n := q) (by omega) hO.2.2.2.1) ?_
        rintro _ ξ ⟨q0, ⟨rfl, q1, q2, q3⟩ | ⟨rfl, q1⟩⟩
        · skip
          refine ev_if_eq 52 eX11_numbers_38 rfl (by omega) (fun h38 => False.elim (by omega)) (fun h38 => ?_)
          refine ev_aload_n eX11_numbers_41 rfl ?_
          refine ev_getr eX11_numbers_42 fX11_53 rfl ?_
          refine ev_iload_n eX11_numbers_45 rfl ?_
          refine ev_cV1 eX11_numbers_46 ⟨lX11_266, kX9_of⟩ rfl rfl (c_of q3 (s := s) (m := B 2) (by omega) (by omega)) ?_
          rintro _ _ ⟨rfl, rfl⟩
          have hv := (q3 s (by omega)).1
          have hmx := MXe
          refine ev_goto 55 eX11_numbers_49 rfl ?_
          refine ev_cV1 eX11_numbers_55 ⟨lX11_274, kX11_orOver⟩ rfl rfl (c_orOver (by omega)) ?_
          rintro _ _ ⟨-, g⟩
          obtain ⟨rfl, rfl⟩ := g (by omega)
          refine ev_lret eX11_numbers_58 rfl ?_
          refine ⟨fun hc => ?_, fun hc => absurd hc.2 q2, fun hc => ?_⟩ <;> first | (exfalso; omega) | skip
          exact ⟨rfl, by rw [up_n _ _ (by decide), q0 0 (by decide) (by decide) (by decide) (by decide)], up_s _ _ _ _, fun k a1 a2 a3 a4 a5 => by rw [up_o _ _ _ a5]; exact q0 k a1 a2 a3 a4⟩
        · skip
          refine ev_if_eq 52 eX11_numbers_38 rfl (by omega) (fun h38 => ?_) (fun h38 => False.elim (by omega))
          refine ev_ldc2 eX11_numbers_52 qX11_272 ?_
          refine ev_cV1 eX11_numbers_55 ⟨lX11_274, kX11_orOver⟩ rfl rfl (c_orOver (by omega)) ?_
          rintro _ _ ⟨g, -⟩
          obtain ⟨rfl, rfl⟩ := g (by omega)
          refine ev_lret eX11_numbers_58 rfl ?_
          refine ⟨fun hc => ?_, fun hc => ?_, fun hc => absurd q1 hc.2⟩ <;> first | (exfalso; omega) | skip
          exact ⟨rfl, by rw [up_n _ _ (by decide), q0 0 (by decide) (by decide) (by decide) (by decide)], up_s _ _ _ _, fun k a1 a2 a3 a4 a5 => by rw [up_o _ _ _ a5]; exact q0 k a1 a2 a3 a4⟩
      · skip
        refine ev_ldc2 eX11_numbers_21 qX11_253 ?_
        refine ev_lret eX11_numbers_24 rfl ?_
        refine ⟨fun hc => ?_, fun hc => ?_, fun hc => ?_⟩ <;> first | (exfalso; omega) | (exact ⟨rfl, rfl⟩)
set_option maxRecDepth 20000 in
theorem o_all {d : Nat} {σ : St} {B : Bok} (hB : BkC σ 16 B) (hZ : OkZ B) {n e : Int} (hn : -2147483648 ≤ n ∧ n ≤ 2147483647) (he : -2147483648 ≤ e ∧ e ≤ 2147483647) : Ct (d + 5) mX11_all [.ref 0, vi n, vi e] σ (fun r τ => (B 2 = 0 → some (vl (-1000002)) = r ∧ σ = τ) ∧ (0 < B 2 ∧ ¬ ((0 ≤ n ∧ n ≤ 60) ∧ 0 ≤ e ∧ e ≤ 1) → some (vl (-1000001)) = r ∧ σ = τ) ∧ (0 < B 2 ∧ ((0 ≤ n ∧ n ≤ 60) ∧ 0 ≤ e ∧ e ≤ 1) ∧ (ovr B n.toNat ∨ MX < sumF (fun q => nm B n.toNat q * ln B q e.toNat) (B 2)) → some (vl (-1000016)) = r ∧ τ 0 11 = σ 0 11 ∧ τ 0 12 = 6 ∧ ∀ k, k ≠ 8 → k ≠ 38 → k ≠ 39 → k ≠ 40 → k ≠ 0 → τ k = σ k) ∧ (0 < B 2 ∧ ((0 ≤ n ∧ n ≤ 60) ∧ 0 ≤ e ∧ e ≤ 1) ∧ ¬ (ovr B n.toNat ∨ MX < sumF (fun q => nm B n.toNat q * ln B q e.toNat) (B 2)) → some (vl ((sumF (fun q => nm B n.toNat q * ln B q e.toNat) (B 2) : Nat) : Int)) = r ∧ τ 0 11 = σ 0 11 ∧ τ 0 12 = 0 ∧ ∀ k, k ≠ 8 → k ≠ 38 → k ≠ 39 → k ≠ 40 → k ≠ 0 → τ k = σ k)) := by
  refine ct_of hX11_all (Nat.le_of_ble_eq_true rfl) ?_
  have hf := hZ.wf
  have h7 := hf.2.1
  refine ev_aload_n eX11_all_0 rfl ?_
  refine ev_getr eX11_all_1 fX11_26 rfl ?_
  refine ev_cV0 eX11_all_4 ⟨lX11_197, kX0_stands⟩ rfl rfl (c_stands Bq3 hB hf.1) ?_
  rintro _ _ ⟨rfl, rfl⟩
  refine ev_ifb_ne 14 eX11_all_7 rfl (fun h7 => ?_) (fun h7 => ?_)
  · skip
    refine ev_iload_n eX11_all_14 rfl ?_
    refine ev_if_lt 33 eX11_all_15 rfl (by omega) (fun h15 => ?_) (fun h15 => ?_)
    · skip
      refine ev_ldc2 eX11_all_33 qX11_253 ?_
      refine ev_lret eX11_all_36 rfl ?_
      refine ⟨fun hc => ?_, fun hc => ?_, fun hc => ?_, fun hc => ?_⟩ <;> first | (exfalso; omega) | (exact ⟨rfl, rfl⟩)
    · skip
      refine ev_iload_n eX11_all_18 rfl ?_
      refine ev_bipush eX11_all_19 rfl ?_
      refine ev_icmp_gt 33 eX11_all_21 rfl (by omega) (by omega) (fun h21 => ?_) (fun h21 => ?_)
      · skip
        refine ev_ldc2 eX11_all_33 qX11_253 ?_
        refine ev_lret eX11_all_36 rfl ?_
        refine ⟨fun hc => ?_, fun hc => ?_, fun hc => ?_, fun hc => ?_⟩ <;> first | (exfalso; omega) | (exact ⟨rfl, rfl⟩)
      · skip
        refine ev_iload_n eX11_all_24 rfl ?_
        refine ev_if_lt 33 eX11_all_25 rfl (by omega) (fun h25 => ?_) (fun h25 => ?_)
        · skip
          refine ev_ldc2 eX11_all_33 qX11_253 ?_
          refine ev_lret eX11_all_36 rfl ?_
          refine ⟨fun hc => ?_, fun hc => ?_, fun hc => ?_, fun hc => ?_⟩ <;> first | (exfalso; omega) | (exact ⟨rfl, rfl⟩)
        · skip
          refine ev_iload_n eX11_all_28 rfl ?_
          refine ev_iconst eX11_all_29 ?_
          refine ev_icmp_le 37 eX11_all_30 rfl (by omega) (by omega) (fun h30 => ?_) (fun h30 => ?_)
          · skip
            have hO := hZ.ok (by omega)
            obtain ⟨q, rfl⟩ : ∃ q : Nat, n = q := ⟨n.toNat, by omega⟩
            obtain ⟨e1, rfl⟩ : ∃ q : Nat, e = q := ⟨e.toNat, by omega⟩
            rw [Int.toNat_natCast, Int.toNat_natCast]
            refine ev_aload_n eX11_all_37 rfl ?_
            refine ev_aload_n eX11_all_38 rfl ?_
            refine ev_getr eX11_all_39 fX11_53 rfl ?_
            refine ev_aload_n eX11_all_42 rfl ?_
            refine ev_getr eX11_all_43 fX11_26 rfl ?_
            refine ev_iload_n eX11_all_46 rfl ?_
            refine ev_cV2 eX11_all_47 ⟨lX11_263, kX9_run⟩ rfl rfl (c_run Bq3 hB hf (n := q) (by omega) hO.2.2.2.1) ?_
            rintro _ ξ ⟨q0, ⟨rfl, q1, q2, q3⟩ | ⟨rfl, q1⟩⟩
            · skip
              refine ev_if_eq 68 eX11_all_50 rfl (by omega) (fun h50 => False.elim (by omega)) (fun h50 => ?_)
              refine ev_aload_n eX11_all_53 rfl ?_
              refine ev_getr eX11_all_54 fX11_53 rfl ?_
              refine ev_aload_n eX11_all_57 rfl ?_
              refine ev_getr eX11_all_58 fX11_26 rfl ?_
              refine ev_iload_n eX11_all_61 rfl ?_
              refine ev_cV2 eX11_all_62 ⟨lX11_286, kX9_wholeLength⟩ rfl rfl (c_wlen Bq3 (B := B) (fun j hj => by rw [q0 _ (by decide) (by decide) (by decide) (by decide)]; exact hB j hj) hf q3 q1.1 (e := e1) (by omega)) ?_
              rintro _ _ ⟨rfl, rfl⟩
              have hcr := cl_r (sumF (fun z => nm B q z * ln B z e1) (B 2))
              have hmx := MXe
              refine ev_goto 71 eX11_all_65 rfl ?_
              refine ev_cV1 eX11_all_71 ⟨lX11_274, kX11_orOver⟩ rfl rfl (c_orOver (by omega)) ?_
              rintro _ _ ⟨gn, gp⟩
              by_cases hle : sumF (fun z => nm B q z * ln B z e1) (B 2) ≤ MX
              · rw [cl_le hle] at gp
                obtain ⟨rfl, rfl⟩ := gp (by omega)
                refine ev_lret eX11_all_74 rfl ?_
                refine ⟨fun hc => ?_, fun hc => ?_, fun hc => ?_, fun hc => ?_⟩ <;> first | (exfalso; omega) | skip
                · rcases hc.2.2 with z | z
                  · exact absurd z q2
                  · exfalso; omega
                · exact ⟨rfl, by rw [up_n _ _ (by decide), q0 0 (by decide) (by decide) (by decide) (by decide)], up_s _ _ _ _, fun k a1 a2 a3 a4 a5 => by rw [up_o _ _ _ a5]; exact q0 k a1 a2 a3 a4⟩
              · rw [cl_gt (by omega)] at gn
                obtain ⟨rfl, rfl⟩ := gn (by omega)
                refine ev_lret eX11_all_74 rfl ?_
                refine ⟨fun hc => ?_, fun hc => ?_, fun hc => ?_, fun hc => absurd (Or.inr (by omega)) hc.2.2⟩ <;> first | (exfalso; omega) | skip
                exact ⟨rfl, by rw [up_n _ _ (by decide), q0 0 (by decide) (by decide) (by decide) (by decide)], up_s _ _ _ _, fun k a1 a2 a3 a4 a5 => by rw [up_o _ _ _ a5]; exact q0 k a1 a2 a3 a4⟩
            · skip
              refine ev_if_eq 68 eX11_all_50 rfl (by omega) (fun h50 => ?_) (fun h50 => False.elim (by omega))
              refine ev_ldc2 eX11_all_68 qX11_272 ?_
              refine ev_cV1 eX11_all_71 ⟨lX11_274, kX11_orOver⟩ rfl rfl (c_orOver (by omega)) ?_
              rintro _ _ ⟨g, -⟩
              obtain ⟨rfl, rfl⟩ := g (by omega)
              refine ev_lret eX11_all_74 rfl ?_
              refine ⟨fun hc => ?_, fun hc => ?_, fun hc => ?_, fun hc => absurd (Or.inl q1) hc.2.2⟩ <;> first | (exfalso; omega) | skip
              exact ⟨rfl, by rw [up_n _ _ (by decide), q0 0 (by decide) (by decide) (by decide) (by decide)], up_s _ _ _ _, fun k a1 a2 a3 a4 a5 => by rw [up_o _ _ _ a5]; exact q0 k a1 a2 a3 a4⟩
          · skip
            refine ev_ldc2 eX11_all_33 qX11_253 ?_
            refine ev_lret eX11_all_36 rfl ?_
            refine ⟨fun hc => ?_, fun hc => ?_, fun hc => ?_, fun hc => ?_⟩ <;> first | (exfalso; omega) | (exact ⟨rfl, rfl⟩)
  · skip
    refine ev_ldc2 eX11_all_10 qX11_251 ?_
    refine ev_lret eX11_all_13 rfl ?_
    refine ⟨fun hc => ?_, fun hc => ?_, fun hc => ?_, fun hc => ?_⟩ <;> first | (exfalso; omega) | (exact ⟨rfl, rfl⟩)
