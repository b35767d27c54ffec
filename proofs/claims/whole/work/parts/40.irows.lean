/-! InflatedRows (0): rows -/
/-- of the class: lanes, sizes, items -/
def RwsC (σ : St) (la : Nat → Int) (sz : Nat → Nat) (it : Nat → Int) : Prop := ∀ r, r < 8 → σ 14 r = la r ∧ (-1 ≤ la r ∧ la r ≤ 2) ∧ (0 ≤ σ 13 r ∧ σ 13 r ≤ 40) ∧ sz r ≤ 40 ∧ (la r ≠ -1 → σ 13 r = (sz r : Int) ∧ ∀ i, i < sz r → σ 12 (r * 40 + i) = it (r * 40 + i) ∧ R32 (it (r * 40 + i)))
theorem RwsC.rw {σ : St} {la : Nat → Int} {sz : Nat → Nat} {it : Nat → Int} (h : RwsC σ la sz it) : RwC σ := fun r hr => by
  obtain ⟨h1, h2, h3, -⟩ := h r hr
  rw [h1]
  exact ⟨h2, h3⟩
theorem RwsC.of {σ τ : St} {la : Nat → Int} {sz : Nat → Nat} {it : Nat → Int} (h : RwsC σ la sz it) (e1 : τ 12 = σ 12) (e2 : τ 13 = σ 13) (e3 : τ 14 = σ 14) : RwsC τ la sz it := fun r hr => by rw [e1, e2, e3]; exact h r hr
def zrow (it : Nat → Int) (q : Nat) : Nat → Int := fun j => if q * 40 ≤ j ∧ j < q * 40 + 40 then 0 else it j
set_option maxRecDepth 20000 in
theorem c_found {d : Nat} {σ : St} {x : Int} : Ct (d) mX11_found [.ref 0, vi x] σ (rt (vi (-1000010 - x)) (up σ 0 12 x)) := by
  refine ct_of hX11_found (Nat.le_of_ble_eq_true rfl) ?_
  refine ev_aload_n eX11_found_0 rfl ?_
  refine ev_iload_n eX11_found_1 rfl ?_
  refine ev_puti eX11_found_2 pX11_82 rfl ?_
  refine ev_ldc_w eX11_found_5 qX11_378 ?_
  refine ev_iload_n eX11_found_8 rfl ?_
  refine ev_isub eX11_found_9 ?_
  refine ev_iret eX11_found_10 rfl ?_
  exact ⟨rfl, rfl⟩
set_option maxRecDepth 20000 in
theorem c_unfound {d : Nat} {σ : St} {x : Int} : Ct (d) mX11_unfound [.ref 0, vi x] σ (rt (vi x) (up σ 0 12 0)) := by
  refine ct_of hX11_unfound (Nat.le_of_ble_eq_true rfl) ?_
  refine ev_aload_n eX11_unfound_0 rfl ?_
  refine ev_iconst eX11_unfound_1 ?_
  refine ev_puti eX11_unfound_2 pX11_82 rfl ?_
  refine ev_iload_n eX11_unfound_5 rfl ?_
  refine ev_iret eX11_unfound_6 rfl ?_
  exact ⟨rfl, rfl⟩
set_option maxRecDepth 20000 in
theorem o_row {d : Nat} {σ : St} {la : Nat → Int} {sz : Nat → Nat} {it : Nat → Int} (hW : RwsC σ la sz it) {x l n : Int} (hx : -2147483648 ≤ x ∧ x ≤ 2147483647) (hl : -2147483648 ≤ l ∧ l ≤ 2147483647) (hn : -2147483648 ≤ n ∧ n ≤ 2147483647) : Ct (d + 1) mX11_row [.ref 0, vi x, vi l, vi n] σ (fun r τ => (¬ (0 ≤ x ∧ x < 8 ∧ 0 ≤ l ∧ l ≤ 2 ∧ n ≤ 40) → some (vi (-1000001)) = r ∧ σ = τ) ∧ ((0 ≤ x ∧ x < 8 ∧ 0 ≤ l ∧ l ≤ 2) ∧ n < 0 → some (vi (-1000010 - 4)) = r ∧ up σ 0 12 4 = τ) ∧ ((0 ≤ x ∧ x < 8 ∧ 0 ≤ l ∧ l ≤ 2) ∧ 0 ≤ n ∧ n ≤ 40 → some (vi n) = r ∧ RwsC τ (upF la x.toNat l) (upB sz x.toNat n.toNat) (zrow it x.toNat) ∧ τ 0 11 = σ 0 11 ∧ τ 0 12 = 0 ∧ ∀ k, k ≠ 0 → k ≠ 12 → k ≠ 13 → k ≠ 14 → τ k = σ k)) := by
  refine ct_of hX11_row (Nat.le_of_ble_eq_true rfl) ?_
  refine ev_iload_n eX11_row_0 rfl ?_
  refine ev_cS1 eX11_row_1 ⟨lX11_85, kX8_isRow⟩ rfl (c_isRow (x := x) (by omega)) ?_
  rintro _ _ ⟨rfl, rfl⟩
  refine ev_ifb_eq 22 eX11_row_4 rfl (fun h4 => ?_) (fun h4 => ?_)
  · skip
    refine ev_ldc eX11_row_22 qX11_89 ?_
    refine ev_iret eX11_row_24 rfl ?_
    refine ⟨fun hc => ?_, fun hc => ?_, fun hc => ?_⟩ <;> first | (exfalso; omega) | (exact ⟨rfl, rfl⟩)
  · skip
    refine ev_iload_n eX11_row_7 rfl ?_
    refine ev_if_lt 22 eX11_row_8 rfl (by omega) (fun h8 => ?_) (fun h8 => ?_)
    · skip
      refine ev_ldc eX11_row_22 qX11_89 ?_
      refine ev_iret eX11_row_24 rfl ?_
      refine ⟨fun hc => ?_, fun hc => ?_, fun hc => ?_⟩ <;> first | (exfalso; omega) | (exact ⟨rfl, rfl⟩)
    · skip
      refine ev_iload_n eX11_row_11 rfl ?_
      refine ev_iconst eX11_row_12 ?_
      refine ev_icmp_gt 22 eX11_row_13 rfl (by omega) (by omega) (fun h13 => ?_) (fun h13 => ?_)
      · skip
        refine ev_ldc eX11_row_22 qX11_89 ?_
        refine ev_iret eX11_row_24 rfl ?_
        refine ⟨fun hc => ?_, fun hc => ?_, fun hc => ?_⟩ <;> first | (exfalso; omega) | (exact ⟨rfl, rfl⟩)
      · skip
        refine ev_iload_n eX11_row_16 rfl ?_
        refine ev_bipush eX11_row_17 rfl ?_
        refine ev_icmp_le 25 eX11_row_19 rfl (by omega) (by omega) (fun h19 => ?_) (fun h19 => ?_)
        · skip
          refine ev_iload_n eX11_row_25 rfl ?_
          refine ev_if_ge 35 eX11_row_26 rfl (by omega) (fun h26 => ?_) (fun h26 => ?_)
          · skip
            obtain ⟨q, rfl⟩ : ∃ q : Nat, x = q := ⟨x.toNat, by omega⟩
            obtain ⟨m, rfl⟩ : ∃ q : Nat, n = q := ⟨n.toNat, by omega⟩
            refine ev_aload_n eX11_row_35 rfl ?_
            
            refine ev_getr eX11_row_36 fX11_10 rfl ?_
            refine ev_iload_n eX11_row_39 rfl ?_
            refine ev_iload_n eX11_row_40 rfl ?_
            refine ev_iload_n eX11_row_41 rfl ?_
            refine ev_cV3 eX11_row_42 ⟨lX11_94, kX8_make⟩ rfl rfl (c_make (q := q) (n := m) (l := l) (by omega) (by omega)) ?_
            rintro _ τ ⟨rfl, g1, g2, g3, g4, g5⟩
            refine ev_aload_n eX11_row_45 rfl ?_
            refine ev_iload_n eX11_row_46 rfl ?_
            refine ev_cV1 eX11_row_47 ⟨lX11_98, kX11_unfound⟩ rfl rfl c_unfound ?_
            rintro _ _ ⟨rfl, rfl⟩
            refine ev_iret eX11_row_50 rfl ?_
            refine ⟨fun hc => ?_, fun hc => ?_, fun hc => ?_⟩ <;> first | (exfalso; omega) | skip
            refine ⟨rfl, ?_, ?_, up_s _ _ _ _, fun k a1 a2 a3 a4 => by rw [up_o _ _ _ a1]; exact g5 k a2 a3 a4⟩
            · rw [Int.toNat_natCast, Int.toNat_natCast]
              intro z hz
              rw [up_o _ _ _ (by decide), up_o _ _ _ (by decide), up_o _ _ _ (by decide), g3, g4]
              obtain ⟨h1, h2, h3, h4, h5⟩ := hW z hz
              by_cases e : z = q
              · subst e
                rw [upF_s, upF_s, upF_s, upB_s]
                exact ⟨rfl, by omega, by omega, by omega, fun _ => ⟨rfl, fun i hi => ⟨by rw [g1 i hi]; unfold zrow; rw [if_pos (by omega)], by unfold zrow; rw [if_pos (by omega)]; unfold R32; omega⟩⟩⟩
              · rw [upF_n _ _ e, upF_n _ _ e, upF_n _ _ e, upB_n _ _ e]
                refine ⟨h1, h2, h3, h4, fun hne => ⟨(h5 hne).1, fun i hi => ?_⟩⟩
                have hh := (h5 hne).2 i hi
                rw [g2 _ (by omega)]
                unfold zrow
                rw [if_neg (by omega)]
                exact hh
            · rw [up_n _ _ (by decide), g5 0 (by decide) (by decide) (by decide)]
          · skip
            refine ev_aload_n eX11_row_29 rfl ?_
            refine ev_iconst eX11_row_30 ?_
            refine ev_cV1 eX11_row_31 ⟨lX11_90, kX11_found⟩ rfl rfl c_found ?_
            rintro _ _ ⟨rfl, rfl⟩
            refine ev_iret eX11_row_34 rfl ?_
            refine ⟨fun hc => ?_, fun hc => ?_, fun hc => ?_⟩ <;> first | (exfalso; omega) | (exact ⟨rfl, rfl⟩)
        · skip
          refine ev_ldc eX11_row_22 qX11_89 ?_
          refine ev_iret eX11_row_24 rfl ?_
          refine ⟨fun hc => ?_, fun hc => ?_, fun hc => ?_⟩ <;> first | (exfalso; omega) | (exact ⟨rfl, rfl⟩)
set_option maxRecDepth 20000 in
theorem o_set {d : Nat} {σ : St} {la : Nat → Int} {sz : Nat → Nat} {it : Nat → Int} (hW : RwsC σ la sz it) {x i v : Int} (hx : -2147483648 ≤ x ∧ x ≤ 2147483647) (hi : -2147483648 ≤ i ∧ i ≤ 2147483647) (hv : -2147483648 ≤ v ∧ v ≤ 2147483647) : Ct (d + 1) mX11_set [.ref 0, vi x, vi i, vi v] σ (fun r τ => (¬ (0 ≤ x ∧ x < 8) → some (vi (-1000001)) = r ∧ σ = τ) ∧ ((0 ≤ x ∧ x < 8) ∧ la x.toNat = -1 → some (vi (-1000010 - 1)) = r ∧ up σ 0 12 1 = τ) ∧ ((0 ≤ x ∧ x < 8) ∧ la x.toNat ≠ -1 ∧ ¬ (0 ≤ i ∧ i < sz x.toNat) → some (vi (-1000010 - 2)) = r ∧ up σ 0 12 2 = τ) ∧ ((0 ≤ x ∧ x < 8) ∧ la x.toNat ≠ -1 ∧ (0 ≤ i ∧ i < sz x.toNat) → some (vi (kp (la x.toNat) v)) = r ∧ up (up σ 12 (x.toNat * 40 + i.toNat) (kp (la x.toNat) v)) 0 12 0 = τ)) := by
  refine ct_of hX11_set (Nat.le_of_ble_eq_true rfl) ?_
  refine ev_iload_n eX11_set_0 rfl ?_
  refine ev_cS1 eX11_set_1 ⟨lX11_85, kX8_isRow⟩ rfl (c_isRow (x := x) (by omega)) ?_
  rintro _ _ ⟨rfl, rfl⟩
  refine ev_ifb_ne 10 eX11_set_4 rfl (fun h4 => ?_) (fun h4 => ?_)
  · skip
    obtain ⟨q, rfl⟩ : ∃ q : Nat, x = q := ⟨x.toNat, by omega⟩
    rw [Int.toNat_natCast]
    obtain ⟨k1, k2, k3, k4, k5⟩ := hW q (by omega)
    refine ev_aload_n eX11_set_10 rfl ?_
    refine ev_getr eX11_set_11 fX11_10 rfl ?_
    refine ev_iload_n eX11_set_14 rfl ?_
    refine ev_cV1 eX11_set_15 ⟨lX11_101, kX8_isMissing⟩ rfl rfl (c_isMissing hW.rw (r := q) (by omega)) ?_
    rintro _ _ ⟨rfl, rfl⟩
    refine ev_ifb_eq 27 eX11_set_18 rfl (fun h18 => ?_) (fun h18 => ?_)
    · skip
      refine ev_iload_n eX11_set_27 rfl ?_
      obtain ⟨k6, k7⟩ := k5 (by omega)
      refine ev_if_lt 43 eX11_set_28 rfl (by omega) (fun h28 => ?_) (fun h28 => ?_)
      · skip
        refine ev_aload_n eX11_set_43 rfl ?_
        refine ev_iconst eX11_set_44 ?_
        refine ev_cV1 eX11_set_45 ⟨lX11_90, kX11_found⟩ rfl rfl c_found ?_
        rintro _ _ ⟨rfl, rfl⟩
        refine ev_iret eX11_set_48 rfl ?_
        refine ⟨fun hc => ?_, fun hc => ?_, fun hc => ?_, fun hc => ?_⟩ <;> first | (exfalso; omega) | (exact ⟨rfl, rfl⟩)
      · skip
        refine ev_iload_n eX11_set_31 rfl ?_
        refine ev_aload_n eX11_set_32 rfl ?_
        refine ev_getr eX11_set_33 fX11_10 rfl ?_
        refine ev_iload_n eX11_set_36 rfl ?_
        refine ev_cV1 eX11_set_37 ⟨lX11_104, kX8_sizeOf⟩ rfl rfl (c_sizeOf (r := q) (by omega)) ?_
        rintro _ _ ⟨rfl, rfl⟩
        rw [k6]
        refine ev_icmp_lt 49 eX11_set_40 rfl (by omega) (by omega) (fun h40 => ?_) (fun h40 => ?_)
        · skip
          obtain ⟨j, rfl⟩ : ∃ q : Nat, i = q := ⟨i.toNat, by omega⟩
          refine ev_aload_n eX11_set_49 rfl ?_
          refine ev_aload_n eX11_set_50 rfl ?_
          refine ev_getr eX11_set_51 fX11_10 rfl ?_
          refine ev_iload_n eX11_set_54 rfl ?_
          refine ev_iload_n eX11_set_55 rfl ?_
          refine ev_iload_n eX11_set_56 rfl ?_
          refine ev_cV3 eX11_set_57 ⟨lX11_107, kX8_put⟩ rfl rfl (c_put hW.rw (r := q) (i := j) (by omega) (by omega)) ?_
          rintro _ _ ⟨rfl, rfl⟩
          refine ev_cV1 eX11_set_60 ⟨lX11_98, kX11_unfound⟩ rfl rfl c_unfound ?_
          rintro _ _ ⟨rfl, rfl⟩
          refine ev_iret eX11_set_63 rfl ?_
          rw [k1]
          refine ⟨fun hc => ?_, fun hc => ?_, fun hc => ?_, fun hc => ?_⟩ <;> first | (exfalso; omega) | (exact ⟨rfl, rfl⟩)
        · skip
          refine ev_aload_n eX11_set_43 rfl ?_
          refine ev_iconst eX11_set_44 ?_
          refine ev_cV1 eX11_set_45 ⟨lX11_90, kX11_found⟩ rfl rfl c_found ?_
          rintro _ _ ⟨rfl, rfl⟩
          refine ev_iret eX11_set_48 rfl ?_
          refine ⟨fun hc => ?_, fun hc => ?_, fun hc => ?_, fun hc => ?_⟩ <;> first | (exfalso; omega) | (exact ⟨rfl, rfl⟩)
    · skip
      refine ev_aload_n eX11_set_21 rfl ?_
      refine ev_iconst eX11_set_22 ?_
      refine ev_cV1 eX11_set_23 ⟨lX11_90, kX11_found⟩ rfl rfl c_found ?_
      rintro _ _ ⟨rfl, rfl⟩
      refine ev_iret eX11_set_26 rfl ?_
      refine ⟨fun hc => ?_, fun hc => ?_, fun hc => ?_, fun hc => ?_⟩ <;> first | (exfalso; omega) | (exact ⟨rfl, rfl⟩)
  · skip
    refine ev_ldc eX11_set_7 qX11_89 ?_
    refine ev_iret eX11_set_9 rfl ?_
    refine ⟨fun hc => ?_, fun hc => ?_, fun hc => ?_, fun hc => ?_⟩ <;> first | (exfalso; omega) | (exact ⟨rfl, rfl⟩)
set_option maxRecDepth 20000 in
theorem o_drop {d : Nat} {σ : St} {la : Nat → Int} {sz : Nat → Nat} {it : Nat → Int} (hW : RwsC σ la sz it) {x : Int} (hx : -2147483648 ≤ x ∧ x ≤ 2147483647) : Ct (d + 1) mX11_drop [.ref 0, vi x] σ (fun r τ => (¬ (0 ≤ x ∧ x < 8) → some (vi (-1000001)) = r ∧ σ = τ) ∧ ((0 ≤ x ∧ x < 8) ∧ la x.toNat = -1 → some (vi (-1000010 - 1)) = r ∧ up σ 0 12 1 = τ) ∧ ((0 ≤ x ∧ x < 8) ∧ la x.toNat ≠ -1 → some (vi (sz x.toNat)) = r ∧ up (up (up σ 14 x.toNat (-1)) 13 x.toNat 0) 0 12 0 = τ)) := by
  refine ct_of hX11_drop (Nat.le_of_ble_eq_true rfl) ?_
  refine ev_iload_n eX11_drop_0 rfl ?_
  refine ev_cS1 eX11_drop_1 ⟨lX11_85, kX8_isRow⟩ rfl (c_isRow (x := x) (by omega)) ?_
  rintro _ _ ⟨rfl, rfl⟩
  refine ev_ifb_ne 10 eX11_drop_4 rfl (fun h4 => ?_) (fun h4 => ?_)
  · skip
    obtain ⟨q, rfl⟩ : ∃ q : Nat, x = q := ⟨x.toNat, by omega⟩
    rw [Int.toNat_natCast]
    obtain ⟨k1, k2, k3, k4, k5⟩ := hW q (by omega)
    refine ev_aload_n eX11_drop_10 rfl ?_
    refine ev_getr eX11_drop_11 fX11_10 rfl ?_
    refine ev_iload_n eX11_drop_14 rfl ?_
    refine ev_cV1 eX11_drop_15 ⟨lX11_101, kX8_isMissing⟩ rfl rfl (c_isMissing hW.rw (r := q) (by omega)) ?_
    rintro _ _ ⟨rfl, rfl⟩
    refine ev_ifb_eq 27 eX11_drop_18 rfl (fun h18 => ?_) (fun h18 => ?_)
    · skip
      obtain ⟨k6, k7⟩ := k5 (by omega)
      refine ev_aload_n eX11_drop_27 rfl ?_
      refine ev_getr eX11_drop_28 fX11_10 rfl ?_
      refine ev_iload_n eX11_drop_31 rfl ?_
      refine ev_cV1 eX11_drop_32 ⟨lX11_104, kX8_sizeOf⟩ rfl rfl (c_sizeOf (r := q) (by omega)) ?_
      rintro _ _ ⟨rfl, rfl⟩
      refine ev_istore_n eX11_drop_35 (by decide) ?_
      refine ev_aload_n eX11_drop_36 rfl ?_
      refine ev_getr eX11_drop_37 fX11_10 rfl ?_
      refine ev_iload_n eX11_drop_40 rfl ?_
      refine ev_cV1 eX11_drop_41 ⟨lX11_122, kX8_forget⟩ rfl rfl (c_forget (r := q) (by omega)) ?_
      rintro _ _ ⟨rfl, rfl⟩
      refine ev_aload_n eX11_drop_44 rfl ?_
      refine ev_iload_n eX11_drop_45 rfl ?_
      refine ev_cV1 eX11_drop_46 ⟨lX11_98, kX11_unfound⟩ rfl rfl c_unfound ?_
      rintro _ _ ⟨rfl, rfl⟩
      refine ev_iret eX11_drop_49 rfl ?_
      rw [k6]
      refine ⟨fun hc => ?_, fun hc => ?_, fun hc => ?_⟩ <;> first | (exfalso; omega) | (exact ⟨rfl, rfl⟩)
    · skip
      refine ev_aload_n eX11_drop_21 rfl ?_
      refine ev_iconst eX11_drop_22 ?_
      refine ev_cV1 eX11_drop_23 ⟨lX11_90, kX11_found⟩ rfl rfl c_found ?_
      rintro _ _ ⟨rfl, rfl⟩
      refine ev_iret eX11_drop_26 rfl ?_
      refine ⟨fun hc => ?_, fun hc => ?_, fun hc => ?_⟩ <;> first | (exfalso; omega) | (exact ⟨rfl, rfl⟩)
  · skip
    refine ev_ldc eX11_drop_7 qX11_89 ?_
    refine ev_iret eX11_drop_9 rfl ?_
    refine ⟨fun hc => ?_, fun hc => ?_, fun hc => ?_⟩ <;> first | (exfalso; omega) | (exact ⟨rfl, rfl⟩)
set_option maxRecDepth 20000 in
theorem o_copy {d : Nat} {σ : St} {la : Nat → Int} {sz : Nat → Nat} {it : Nat → Int} (hW : RwsC σ la sz it) {a i b j n : Int} (ha : -2147483648 ≤ a ∧ a ≤ 2147483647) (hi : -2147483648 ≤ i ∧ i ≤ 2147483647) (hb : -2147483648 ≤ b ∧ b ≤ 2147483647) (hj : -2147483648 ≤ j ∧ j ≤ 2147483647) (hn : -2147483648 ≤ n ∧ n ≤ 2147483647) : Ct (d + 2) mX11_copy [.ref 0, vi a, vi i, vi b, vi j, vi n] σ (fun r τ => (¬ ((0 ≤ a ∧ a < 8) ∧ (0 ≤ b ∧ b < 8)) → some (vi (-1000001)) = r ∧ σ = τ) ∧ (((0 ≤ a ∧ a < 8) ∧ (0 ≤ b ∧ b < 8)) ∧ (la a.toNat = -1 ∨ la b.toNat = -1) → some (vi (-1000010 - 1)) = r ∧ up σ 0 12 1 = τ) ∧ (((0 ≤ a ∧ a < 8) ∧ (0 ≤ b ∧ b < 8)) ∧ ¬ (la a.toNat = -1 ∨ la b.toNat = -1) ∧ la a.toNat ≠ la b.toNat → some (vi (-1000010 - 5)) = r ∧ up σ 0 12 5 = τ) ∧ (((0 ≤ a ∧ a < 8) ∧ (0 ≤ b ∧ b < 8)) ∧ ¬ (la a.toNat = -1 ∨ la b.toNat = -1) ∧ la a.toNat = la b.toNat ∧ ¬ ((0 ≤ i ∧ 0 ≤ n ∧ i + n ≤ sz a.toNat) ∧ (0 ≤ j ∧ j + n ≤ sz b.toNat)) → some (vi (-1000010 - 2)) = r ∧ up σ 0 12 2 = τ) ∧ (((0 ≤ a ∧ a < 8) ∧ (0 ≤ b ∧ b < 8)) ∧ ¬ (la a.toNat = -1 ∨ la b.toNat = -1) ∧ la a.toNat = la b.toNat ∧ ((0 ≤ i ∧ 0 ≤ n ∧ i + n ≤ sz a.toNat) ∧ (0 ≤ j ∧ j + n ≤ sz b.toNat)) → some (vi n) = r ∧ up (upA σ 12 (cpF (σ 12) (σ 12) (a.toNat * 40 + i.toNat) (b.toNat * 40 + j.toNat) n.toNat)) 0 12 0 = τ)) := by
  refine ct_of hX11_copy (Nat.le_of_ble_eq_true rfl) ?_
  refine ev_iload_n eX11_copy_0 rfl ?_
  refine ev_cS1 eX11_copy_1 ⟨lX11_85, kX8_isRow⟩ rfl (c_isRow (x := a) (by omega)) ?_
  rintro _ _ ⟨rfl, rfl⟩
  refine ev_ifb_eq 14 eX11_copy_4 rfl (fun h4 => ?_) (fun h4 => ?_)
  · skip
    refine ev_ldc eX11_copy_14 qX11_89 ?_
    refine ev_iret eX11_copy_16 rfl ?_
    refine ⟨fun hc => ?_, fun hc => ?_, fun hc => ?_, fun hc => ?_, fun hc => ?_⟩ <;> first | (exfalso; omega) | (exact ⟨rfl, rfl⟩)
  · skip
    refine ev_iload_n eX11_copy_7 rfl ?_
    refine ev_cS1 eX11_copy_8 ⟨lX11_85, kX8_isRow⟩ rfl (c_isRow (x := b) (by omega)) ?_
    rintro _ _ ⟨rfl, rfl⟩
    refine ev_ifb_ne 17 eX11_copy_11 rfl (fun h11 => ?_) (fun h11 => ?_)
    · skip
      obtain ⟨qa, rfl⟩ : ∃ q : Nat, a = q := ⟨a.toNat, by omega⟩
      obtain ⟨qb, rfl⟩ : ∃ q : Nat, b = q := ⟨b.toNat, by omega⟩
      rw [Int.toNat_natCast, Int.toNat_natCast]
      obtain ⟨k1, k2, k3, k4, k5⟩ := hW qa (by omega)
      obtain ⟨m1, m2, m3, m4, m5⟩ := hW qb (by omega)
      refine ev_aload_n eX11_copy_17 rfl ?_
      refine ev_getr eX11_copy_18 fX11_10 rfl ?_
      refine ev_iload_n eX11_copy_21 rfl ?_
      refine ev_cV1 eX11_copy_22 ⟨lX11_101, kX8_isMissing⟩ rfl rfl (c_isMissing hW.rw (r := qa) (by omega)) ?_
      rintro _ _ ⟨rfl, rfl⟩
      refine ev_ifb_ne 39 eX11_copy_25 rfl (fun h25 => ?_) (fun h25 => ?_)
      · skip
        refine ev_aload_n eX11_copy_39 rfl ?_
        refine ev_iconst eX11_copy_40 ?_
        refine ev_cV1 eX11_copy_41 ⟨lX11_90, kX11_found⟩ rfl rfl c_found ?_
        rintro _ _ ⟨rfl, rfl⟩
        refine ev_iret eX11_copy_44 rfl ?_
        refine ⟨fun hc => ?_, fun hc => ?_, fun hc => ?_, fun hc => ?_, fun hc => ?_⟩ <;> first | (exfalso; omega) | (exact ⟨rfl, rfl⟩)
      · skip
        refine ev_aload_n eX11_copy_28 rfl ?_
        refine ev_getr eX11_copy_29 fX11_10 rfl ?_
        refine ev_iload_n eX11_copy_32 rfl ?_
        refine ev_cV1 eX11_copy_33 ⟨lX11_101, kX8_isMissing⟩ rfl rfl (c_isMissing hW.rw (r := qb) (by omega)) ?_
        rintro _ _ ⟨rfl, rfl⟩
        refine ev_ifb_eq 45 eX11_copy_36 rfl (fun h36 => ?_) (fun h36 => ?_)
        · skip
          refine ev_aload_n eX11_copy_45 rfl ?_
          refine ev_getr eX11_copy_46 fX11_10 rfl ?_
          refine ev_iload_n eX11_copy_49 rfl ?_
          refine ev_cV1 eX11_copy_50 ⟨lX11_111, kX8_laneOf⟩ rfl rfl (c_laneOf (r := qa) (by omega)) ?_
          rintro _ _ ⟨rfl, rfl⟩
          refine ev_aload_n eX11_copy_53 rfl ?_
          refine ev_getr eX11_copy_54 fX11_10 rfl ?_
          refine ev_iload_n eX11_copy_57 rfl ?_
          refine ev_cV1 eX11_copy_58 ⟨lX11_111, kX8_laneOf⟩ rfl rfl (c_laneOf (r := qb) (by omega)) ?_
          rintro _ _ ⟨rfl, rfl⟩
          have k6 := (k5 (by omega)).1
          have m6 := (m5 (by omega)).1
          refine ev_icmp_eq 70 eX11_copy_61 rfl (by omega) (by omega) (fun h61 => ?_) (fun h61 => ?_)
          · skip
            refine ev_aload_n eX11_copy_70 rfl ?_
            refine ev_getr eX11_copy_71 fX11_10 rfl ?_
            refine ev_iload_n eX11_copy_74 rfl ?_
            refine ev_iload_n eX11_copy_75 rfl ?_
            refine ev_iload eX11_copy_76 rfl ?_
            refine ev_cV3 eX11_copy_78 ⟨lX11_114, kX8_spans⟩ rfl rfl (c_spans hW.rw (r := qa) (by omega) (f := i) (n := n) (by omega) (by omega)) ?_
            rintro _ _ ⟨rfl, rfl⟩
            refine ev_ifb_eq 99 eX11_copy_81 rfl (fun h81 => ?_) (fun h81 => ?_)
            · skip
              refine ev_aload_n eX11_copy_99 rfl ?_
              refine ev_iconst eX11_copy_100 ?_
              refine ev_cV1 eX11_copy_101 ⟨lX11_90, kX11_found⟩ rfl rfl c_found ?_
              rintro _ _ ⟨rfl, rfl⟩
              refine ev_iret eX11_copy_104 rfl ?_
              refine ⟨fun hc => ?_, fun hc => ?_, fun hc => ?_, fun hc => ?_, fun hc => ?_⟩ <;> first | (exfalso; omega) | (exact ⟨rfl, rfl⟩)
            · skip
              refine ev_aload_n eX11_copy_84 rfl ?_
              refine ev_getr eX11_copy_85 fX11_10 rfl ?_
              refine ev_iload_n eX11_copy_88 rfl ?_
              refine ev_iload eX11_copy_89 rfl ?_
              refine ev_iload eX11_copy_91 rfl ?_
              refine ev_cV3 eX11_copy_93 ⟨lX11_114, kX8_spans⟩ rfl rfl (c_spans hW.rw (r := qb) (by omega) (f := j) (n := n) (by omega) (by omega)) ?_
              rintro _ _ ⟨rfl, rfl⟩
              refine ev_ifb_ne 105 eX11_copy_96 rfl (fun h96 => ?_) (fun h96 => ?_)
              · skip
                obtain ⟨ni, rfl⟩ : ∃ q : Nat, i = q := ⟨i.toNat, by omega⟩
                obtain ⟨nj, rfl⟩ : ∃ q : Nat, j = q := ⟨j.toNat, by omega⟩
                obtain ⟨nn, rfl⟩ : ∃ q : Nat, n = q := ⟨n.toNat, by omega⟩
                refine ev_aload_n eX11_copy_105 rfl ?_
                refine ev_getr eX11_copy_106 fX11_10 rfl ?_
                refine ev_iload_n eX11_copy_109 rfl ?_
                refine ev_iload_n eX11_copy_110 rfl ?_
                refine ev_iload_n eX11_copy_111 rfl ?_
                refine ev_iload eX11_copy_112 rfl ?_
                refine ev_iload eX11_copy_114 rfl ?_
                refine ev_cV5 eX11_copy_116 ⟨lX11_118, kX8_move⟩ rfl rfl (c_move (a := qa) (i := ni) (b := qb) (j := nj) (n := nn) (by omega) (by omega) (by omega) (by omega)) ?_
                rintro _ _ ⟨rfl, rfl⟩
                refine ev_aload_n eX11_copy_119 rfl ?_
                refine ev_iload eX11_copy_120 rfl ?_
                refine ev_cV1 eX11_copy_122 ⟨lX11_98, kX11_unfound⟩ rfl rfl c_unfound ?_
                rintro _ _ ⟨rfl, rfl⟩
                refine ev_iret eX11_copy_125 rfl ?_
                refine ⟨fun hc => ?_, fun hc => ?_, fun hc => ?_, fun hc => ?_, fun hc => ?_⟩ <;> first | (exfalso; omega) | (exact ⟨rfl, rfl⟩)
              · skip
                refine ev_aload_n eX11_copy_99 rfl ?_
                refine ev_iconst eX11_copy_100 ?_
                refine ev_cV1 eX11_copy_101 ⟨lX11_90, kX11_found⟩ rfl rfl c_found ?_
                rintro _ _ ⟨rfl, rfl⟩
                refine ev_iret eX11_copy_104 rfl ?_
                refine ⟨fun hc => ?_, fun hc => ?_, fun hc => ?_, fun hc => ?_, fun hc => ?_⟩ <;> first | (exfalso; omega) | (exact ⟨rfl, rfl⟩)
          · skip
            refine ev_aload_n eX11_copy_64 rfl ?_
            refine ev_iconst eX11_copy_65 ?_
            refine ev_cV1 eX11_copy_66 ⟨lX11_90, kX11_found⟩ rfl rfl c_found ?_
            rintro _ _ ⟨rfl, rfl⟩
            refine ev_iret eX11_copy_69 rfl ?_
            refine ⟨fun hc => ?_, fun hc => ?_, fun hc => ?_, fun hc => ?_, fun hc => ?_⟩ <;> first | (exfalso; omega) | (exact ⟨rfl, rfl⟩)
        · skip
          refine ev_aload_n eX11_copy_39 rfl ?_
          refine ev_iconst eX11_copy_40 ?_
          refine ev_cV1 eX11_copy_41 ⟨lX11_90, kX11_found⟩ rfl rfl c_found ?_
          rintro _ _ ⟨rfl, rfl⟩
          refine ev_iret eX11_copy_44 rfl ?_
          refine ⟨fun hc => ?_, fun hc => ?_, fun hc => ?_, fun hc => ?_, fun hc => ?_⟩ <;> first | (exfalso; omega) | (exact ⟨rfl, rfl⟩)
    · skip
      refine ev_ldc eX11_copy_14 qX11_89 ?_
      refine ev_iret eX11_copy_16 rfl ?_
      refine ⟨fun hc => ?_, fun hc => ?_, fun hc => ?_, fun hc => ?_, fun hc => ?_⟩ <;> first | (exfalso; omega) | (exact ⟨rfl, rfl⟩)
