/-! the reference: rows, acts, tape -/
def MRw (σ : St) (la : Nat → Int) (sz : Nat → Nat) (it : Nat → Int) : Prop := ∀ r, r < 8 → σ 46 r = la r ∧ (-1 ≤ la r ∧ la r ≤ 2) ∧ (0 ≤ σ 47 r ∧ σ 47 r ≤ 40) ∧ sz r ≤ 40 ∧ (la r ≠ -1 → σ 47 r = (sz r : Int) ∧ ∀ i, i < sz r → σ 48 (40 * r + i) = it (r * 40 + i) ∧ R32 (it (r * 40 + i)))
theorem up_r (σ : St) (k j : Nat) (x : Int) : up σ k j x k = upF (σ k) j x := by rw [up, upA_s]
theorem MRw.of {σ τ : St} {la : Nat → Int} {sz : Nat → Nat} {it : Nat → Int} (h : MRw σ la sz it) (e1 : τ 46 = σ 46) (e2 : τ 47 = σ 47) (e3 : τ 48 = σ 48) : MRw τ la sz it := fun r hr => by rw [e1, e2, e3]; exact h r hr
set_option maxRecDepth 20000 in
theorem m_row_l {d : Nat} {σ : St} {q n : Nat} {l : Int} (hq : q < 8) : ∀ (fu : Nat) {k : Nat} {τ : St}, 40 - k < fu → k ≤ 40 → (∀ i, i < k → τ 48 (40 * q + i) = 0) → (∀ j, ¬ (40 * q ≤ j ∧ j < 40 * q + 40) → τ 48 j = σ 48 j) → (∀ c, c ≠ 48 → τ c = σ c) → Ev (d) mX12_row 60 [.ref 45, vi q, vi l, vi n, vi k] [] τ (fun r τ => some (vi n) = r ∧ (∀ i, i < 40 → τ 48 (40 * q + i) = 0) ∧ (∀ j, ¬ (40 * q ≤ j ∧ j < 40 * q + 40) → τ 48 j = σ 48 j) ∧ ∀ c, c ≠ 48 → τ c = σ c) := by
  intro fu
  induction fu with
  | zero => intros; omega
  | succ fu ih =>
    intro k τ hm h1 h2 h3 h4
    refine ev_iload eX12_row_60 rfl ?_
    refine ev_bipush eX12_row_62 rfl ?_
    refine ev_icmp_ge 86 eX12_row_64 rfl (by omega) (by omega) (fun h64 => ?_) (fun h64 => ?_)
    · skip
      refine ev_iload_n eX12_row_86 rfl ?_
      refine ev_iret eX12_row_87 rfl ?_
      exact ⟨rfl, fun i hi => h2 i (by omega), h3, h4⟩
    · skip
      refine ev_aload_n eX12_row_67 rfl ?_
      refine ev_getr eX12_row_68 fX12_16 rfl ?_
      refine ev_bipush eX12_row_71 rfl ?_
      refine ev_iload_n eX12_row_73 rfl ?_
      refine ev_imul eX12_row_74 ?_
      refine ev_iload eX12_row_75 rfl ?_
      refine ev_iadd eX12_row_77 ?_
      refine ev_iconst eX12_row_78 ?_
      refine ev_iast (((40 * q) + k)) eX12_row_79 rfl (by first | rfl | omega) (by omega) ?_
      refine ev_iinc eX12_row_80 rfl (by decide) ?_
      refine ev_goto 60 eX12_row_83 rfl ?_
      refine ih (k := k + 1) (by omega) (by omega) (fun i hi => ?_) (fun j hj => ?_) (fun c hc => by rw [up_o _ _ _ hc]; exact h4 c hc)
      · by_cases e : i = k
        · subst e; exact up_s _ _ _ _
        · rw [up_n _ _ (by omega)]; exact h2 i (by omega)
      · rw [up_n _ _ (by omega)]; exact h3 j hj
set_option maxRecDepth 20000 in
theorem m_row {d : Nat} {σ : St} {la : Nat → Int} {sz : Nat → Nat} {it : Nat → Int} (hW : MRw σ la sz it) {x l n : Int} (hx : -2147483648 ≤ x ∧ x ≤ 2147483647) (hl : -2147483648 ≤ l ∧ l ≤ 2147483647) (hn : -2147483648 ≤ n ∧ n ≤ 2147483647) : Ct (d + 2) mX12_row [.ref 45, vi x, vi l, vi n] σ (fun r τ => (¬ (0 ≤ x ∧ x < 8 ∧ 0 ≤ l ∧ l ≤ 2 ∧ n ≤ 40) → some (vi (-1000001)) = r ∧ σ = τ) ∧ ((0 ≤ x ∧ x < 8 ∧ 0 ≤ l ∧ l ≤ 2) ∧ n < 0 → some (vi (-1000010 - 4)) = r ∧ up σ 45 0 4 = τ) ∧ ((0 ≤ x ∧ x < 8 ∧ 0 ≤ l ∧ l ≤ 2) ∧ 0 ≤ n ∧ n ≤ 40 → some (vi n) = r ∧ MRw τ (upF la x.toNat l) (upB sz x.toNat n.toNat) (zrow it x.toNat) ∧ τ 45 0 = 0 ∧ (∀ j, j ≠ 0 → τ 45 j = σ 45 j) ∧ ∀ k, k ≠ 45 → k ≠ 46 → k ≠ 47 → k ≠ 48 → τ k = σ k)) := by
  refine ct_of hX12_row (Nat.le_of_ble_eq_true rfl) ?_
  refine ev_iload_n eX12_row_0 rfl ?_
  refine ev_cS1 eX12_row_1 ⟨lX12_74, kX12_isRow⟩ rfl (m_isRow (x := x) (by omega)) ?_
  rintro _ _ ⟨rfl, rfl⟩
  refine ev_ifb_eq 25 eX12_row_4 rfl (fun h4 => ?_) (fun h4 => ?_)
  · skip
    refine ev_ldc eX12_row_25 qX12_80 ?_
    refine ev_iret eX12_row_27 rfl ?_
    refine ⟨fun hc => ?_, fun hc => ?_, fun hc => ?_⟩ <;> first | (exfalso; omega) | (exact ⟨rfl, rfl⟩)
  · skip
    refine ev_iload_n eX12_row_7 rfl ?_
    refine ev_i2l eX12_row_8 (by omega) ?_
    refine ev_lconst 0 eX12_row_9 rfl ?_
    refine ev_ldc2 eX12_row_10 qX12_78 ?_
    refine ev_cS3 eX12_row_13 ⟨lX12_70, kX12_in⟩ rfl (m_in (a := l) (b := 0) (c := 2) (by omega) (by omega) (by omega)) ?_
    rintro _ _ ⟨rfl, rfl⟩
    refine ev_ifb_eq 25 eX12_row_16 rfl (fun h16 => ?_) (fun h16 => ?_)
    · skip
      refine ev_ldc eX12_row_25 qX12_80 ?_
      refine ev_iret eX12_row_27 rfl ?_
      refine ⟨fun hc => ?_, fun hc => ?_, fun hc => ?_⟩ <;> first | (exfalso; omega) | (exact ⟨rfl, rfl⟩)
    · skip
      refine ev_iload_n eX12_row_19 rfl ?_
      refine ev_bipush eX12_row_20 rfl ?_
      refine ev_icmp_le 28 eX12_row_22 rfl (by omega) (by omega) (fun h22 => ?_) (fun h22 => ?_)
      · skip
        refine ev_aload_n eX12_row_28 rfl ?_
        refine ev_iconst eX12_row_29 ?_
        refine ev_puti eX12_row_30 pX12_63 rfl ?_
        refine ev_iload_n eX12_row_33 rfl ?_
        refine ev_if_ge 43 eX12_row_34 rfl (by omega) (fun h34 => ?_) (fun h34 => ?_)
        · skip
          obtain ⟨q, rfl⟩ : ∃ q : Nat, x = q := ⟨x.toNat, by omega⟩
          obtain ⟨m, rfl⟩ : ∃ q : Nat, n = q := ⟨n.toNat, by omega⟩
          refine ev_aload_n eX12_row_43 rfl ?_
          refine ev_getr eX12_row_44 fX12_7 rfl ?_
          refine ev_iload_n eX12_row_47 rfl ?_
          refine ev_iload_n eX12_row_48 rfl ?_
          refine ev_iast (q) eX12_row_49 rfl (by first | rfl | omega) (by omega) ?_
          refine ev_aload_n eX12_row_50 rfl ?_
          refine ev_getr eX12_row_51 fX12_13 rfl ?_
          refine ev_iload_n eX12_row_54 rfl ?_
          refine ev_iload_n eX12_row_55 rfl ?_
          refine ev_iast (q) eX12_row_56 rfl (by first | rfl | omega) (by omega) ?_
          refine ev_iconst eX12_row_57 ?_
          refine ev_istore eX12_row_58 (by decide) ?_
          refine ev_mono (fun r τ h => ?_) (m_row_l (q := q) (n := m) (l := l) (by omega) 41 (k := 0) (by omega) (by omega) (fun i hi => by omega) (fun _ _ => rfl) (fun _ _ => rfl))
          obtain ⟨rfl, g1, g2, g3⟩ := h
          refine ⟨fun hc => ?_, fun hc => ?_, fun hc => ?_⟩ <;> first | (exfalso; omega) | skip
          refine ⟨rfl, ?_, ?_, ?_, ?_⟩
          · rw [Int.toNat_natCast, Int.toNat_natCast]
            intro z hz
            have t46 : τ 46 = upF (σ 46) q l := by rw [g3 46 (by decide), up_o _ _ _ (by decide), up_r, up_o _ _ _ (by decide)]
            have t47 : τ 47 = upF (σ 47) q m := by rw [g3 47 (by decide), up_r, up_o _ _ _ (by decide), up_o _ _ _ (by decide)]
            rw [t46, t47]
            obtain ⟨h1, h2, h3, h4, h5⟩ := hW z hz
            by_cases e : z = q
            · subst e
              rw [upF_s, upF_s, upF_s, upB_s]
              exact ⟨rfl, by omega, by omega, by omega, fun _ => ⟨rfl, fun i hi => ⟨by rw [g1 i (by omega)]; unfold zrow; rw [if_pos (by omega)], by unfold zrow; rw [if_pos (by omega)]; unfold R32; omega⟩⟩⟩
            · rw [upF_n _ _ e, upF_n _ _ e, upF_n _ _ e, upB_n _ _ e]
              refine ⟨h1, h2, h3, h4, fun hne => ⟨(h5 hne).1, fun i hi => ?_⟩⟩
              have hh := (h5 hne).2 i hi
              rw [g2 _ (by omega), up_o _ _ _ (by decide), up_o _ _ _ (by decide), up_o _ _ _ (by decide)]
              unfold zrow
              rw [if_neg (by omega)]
              exact hh
          · rw [g3 45 (by decide), up_o _ _ _ (by decide), up_o _ _ _ (by decide), up_s]
          · intro j hj
            rw [g3 45 (by decide), up_o _ _ _ (by decide), up_o _ _ _ (by decide), up_n _ _ hj]
          · intro k a1 a2 a3 a4
            rw [g3 k a4, up_o _ _ _ a3, up_o _ _ _ a2, up_o _ _ _ a1]
        · skip
          refine ev_aload_n eX12_row_37 rfl ?_
          refine ev_iconst eX12_row_38 ?_
          refine ev_cV1 eX12_row_39 ⟨lX12_81, kX12_finding⟩ rfl rfl m_finding ?_
          rintro _ _ ⟨rfl, rfl⟩
          refine ev_iret eX12_row_42 rfl ?_
          refine ⟨fun hc => ?_, fun hc => ?_, fun hc => ?_⟩ <;> first | (exfalso; omega) | (exact ⟨rfl, (up_up _ _ _ _ _).symm⟩)
      · skip
        refine ev_ldc eX12_row_25 qX12_80 ?_
        refine ev_iret eX12_row_27 rfl ?_
        refine ⟨fun hc => ?_, fun hc => ?_, fun hc => ?_⟩ <;> first | (exfalso; omega) | (exact ⟨rfl, rfl⟩)
set_option maxRecDepth 20000 in
theorem m_set {d : Nat} {σ : St} {la : Nat → Int} {sz : Nat → Nat} {it : Nat → Int} (hW : MRw σ la sz it) {x i v : Int} (hx : -2147483648 ≤ x ∧ x ≤ 2147483647) (hi : -2147483648 ≤ i ∧ i ≤ 2147483647) (hv : -2147483648 ≤ v ∧ v ≤ 2147483647) : Ct (d + 2) mX12_set [.ref 45, vi x, vi i, vi v] σ (fun r τ => (¬ (0 ≤ x ∧ x < 8) → some (vi (-1000001)) = r ∧ σ = τ) ∧ ((0 ≤ x ∧ x < 8) ∧ la x.toNat = -1 → some (vi (-1000010 - 1)) = r ∧ up σ 45 0 1 = τ) ∧ ((0 ≤ x ∧ x < 8) ∧ la x.toNat ≠ -1 ∧ ¬ (0 ≤ i ∧ i < sz x.toNat) → some (vi (-1000010 - 2)) = r ∧ up σ 45 0 2 = τ) ∧ ((0 ≤ x ∧ x < 8) ∧ la x.toNat ≠ -1 ∧ (0 ≤ i ∧ i < sz x.toNat) → some (vi (kp (la x.toNat) v)) = r ∧ up (up σ 45 0 0) 48 (40 * x.toNat + i.toNat) (kp (la x.toNat) v) = τ)) := by
  refine ct_of hX12_set (Nat.le_of_ble_eq_true rfl) ?_
  refine ev_iload_n eX12_set_0 rfl ?_
  refine ev_cS1 eX12_set_1 ⟨lX12_74, kX12_isRow⟩ rfl (m_isRow (x := x) (by omega)) ?_
  rintro _ _ ⟨rfl, rfl⟩
  refine ev_ifb_ne 10 eX12_set_4 rfl (fun h4 => ?_) (fun h4 => ?_)
  · skip
    obtain ⟨q, rfl⟩ : ∃ q : Nat, x = q := ⟨x.toNat, by omega⟩
    rw [Int.toNat_natCast]
    obtain ⟨k1, k2, k3, k4, k5⟩ := hW q (by omega)
    refine ev_aload_n eX12_set_10 rfl ?_
    refine ev_iconst eX12_set_11 ?_
    refine ev_puti eX12_set_12 pX12_63 rfl ?_
    refine ev_aload_n eX12_set_15 rfl ?_
    refine ev_getr eX12_set_16 fX12_7 rfl ?_
    refine ev_iload_n eX12_set_19 rfl ?_
    refine ev_ialdv (q) eX12_set_20 rfl (by first | rfl | omega) (by omega) (show up σ 45 0 0 46 q = la q by rw [up_o _ _ _ (by decide)]; exact k1) ?_
    refine ev_if_ge 30 eX12_set_21 rfl (by omega) (fun h21 => ?_) (fun h21 => ?_)
    · skip
      obtain ⟨k6, k7⟩ := k5 (by omega)
      refine ev_iload_n eX12_set_30 rfl ?_
      refine ev_i2l eX12_set_31 (by omega) ?_
      refine ev_lconst 0 eX12_set_32 rfl ?_
      refine ev_aload_n eX12_set_33 rfl ?_
      refine ev_getr eX12_set_34 fX12_13 rfl ?_
      refine ev_iload_n eX12_set_37 rfl ?_
      refine ev_ialdv (q) eX12_set_38 rfl (by first | rfl | omega) (by omega) (show up σ 45 0 0 47 q = (sz q : Int) by rw [up_o _ _ _ (by decide)]; exact k6) ?_
      refine ev_iconst eX12_set_39 ?_
      refine ev_isub eX12_set_40 ?_
      refine ev_i2l eX12_set_41 (by omega) ?_
      refine ev_cS3 eX12_set_42 ⟨lX12_70, kX12_in⟩ rfl (m_in (a := i) (b := 0) (c := (sz q : Int) - 1) (by omega) (by omega) (by omega)) ?_
      rintro _ _ ⟨rfl, rfl⟩
      refine ev_ifb_ne 54 eX12_set_45 rfl (fun h45 => ?_) (fun h45 => ?_)
      · skip
        obtain ⟨j, rfl⟩ : ∃ q : Nat, i = q := ⟨i.toNat, by omega⟩
        refine ev_aload_n eX12_set_54 rfl ?_
        refine ev_getr eX12_set_55 fX12_16 rfl ?_
        refine ev_bipush eX12_set_58 rfl ?_
        refine ev_iload_n eX12_set_60 rfl ?_
        refine ev_imul eX12_set_61 ?_
        refine ev_iload_n eX12_set_62 rfl ?_
        refine ev_iadd eX12_set_63 ?_
        refine ev_aload_n eX12_set_64 rfl ?_
        refine ev_getr eX12_set_65 fX12_7 rfl ?_
        refine ev_iload_n eX12_set_68 rfl ?_
        refine ev_ialdv (q) eX12_set_69 rfl (by first | rfl | omega) (by omega) (show up σ 45 0 0 46 q = la q by rw [up_o _ _ _ (by decide)]; exact k1) ?_
        refine ev_if_ne 78 eX12_set_70 rfl (by omega) (fun h70 => ?_) (fun h70 => ?_)
        · skip
          refine ev_aload_n eX12_set_78 rfl ?_
          refine ev_getr eX12_set_79 fX12_7 rfl ?_
          refine ev_iload_n eX12_set_82 rfl ?_
          refine ev_ialdv (q) eX12_set_83 rfl (by first | rfl | omega) (by omega) (show up σ 45 0 0 46 q = la q by rw [up_o _ _ _ (by decide)]; exact k1) ?_
          refine ev_iconst eX12_set_84 ?_
          refine ev_icmp_ne 93 eX12_set_85 rfl (by omega) (by omega) (fun h85 => ?_) (fun h85 => ?_)
          · skip
            refine ev_iload_n eX12_set_93 rfl ?_
            have ek : kp (la q) v = v := by unfold kp; rw [if_neg (by omega), if_neg (by omega)]
            
            refine ev_iast (40 * q + j) eX12_set_94 rfl (by first | rfl | omega) (by omega) ?_
            refine ev_aload_n eX12_set_95 rfl ?_
            refine ev_getr eX12_set_96 fX12_16 rfl ?_
            refine ev_bipush eX12_set_99 rfl ?_
            refine ev_iload_n eX12_set_101 rfl ?_
            refine ev_imul eX12_set_102 ?_
            refine ev_iload_n eX12_set_103 rfl ?_
            refine ev_iadd eX12_set_104 ?_
            refine ev_ialdv (40 * q + j) eX12_set_105 rfl (by first | rfl | omega) (by omega) (up_s _ _ _ _) ?_
            refine ev_iret eX12_set_106 rfl ?_
            rw [ek]
            refine ⟨fun hc => ?_, fun hc => ?_, fun hc => ?_, fun hc => ?_⟩ <;> first | (exfalso; omega) | (exact ⟨rfl, rfl⟩)
          · skip
            refine ev_iload_n eX12_set_88 rfl ?_
            refine ev_i2s eX12_set_89 ?_
            refine ev_goto 94 eX12_set_90 rfl ?_
            have ek : kp (la q) v = iS v := by unfold kp; rw [if_neg (by omega), if_pos (by omega)]
            
            refine ev_iast (40 * q + j) eX12_set_94 rfl (by first | rfl | omega) (by omega) ?_
            refine ev_aload_n eX12_set_95 rfl ?_
            refine ev_getr eX12_set_96 fX12_16 rfl ?_
            refine ev_bipush eX12_set_99 rfl ?_
            refine ev_iload_n eX12_set_101 rfl ?_
            refine ev_imul eX12_set_102 ?_
            refine ev_iload_n eX12_set_103 rfl ?_
            refine ev_iadd eX12_set_104 ?_
            refine ev_ialdv (40 * q + j) eX12_set_105 rfl (by first | rfl | omega) (by omega) (up_s _ _ _ _) ?_
            refine ev_iret eX12_set_106 rfl ?_
            rw [ek]
            refine ⟨fun hc => ?_, fun hc => ?_, fun hc => ?_, fun hc => ?_⟩ <;> first | (exfalso; omega) | (exact ⟨rfl, rfl⟩)
        · skip
          refine ev_iload_n eX12_set_73 rfl ?_
          refine ev_i2b eX12_set_74 ?_
          refine ev_goto 94 eX12_set_75 rfl ?_
          have ek : kp (la q) v = iB v := by unfold kp; rw [if_pos (by omega)]
          
          refine ev_iast (40 * q + j) eX12_set_94 rfl (by first | rfl | omega) (by omega) ?_
          refine ev_aload_n eX12_set_95 rfl ?_
          refine ev_getr eX12_set_96 fX12_16 rfl ?_
          refine ev_bipush eX12_set_99 rfl ?_
          refine ev_iload_n eX12_set_101 rfl ?_
          refine ev_imul eX12_set_102 ?_
          refine ev_iload_n eX12_set_103 rfl ?_
          refine ev_iadd eX12_set_104 ?_
          refine ev_ialdv (40 * q + j) eX12_set_105 rfl (by first | rfl | omega) (by omega) (up_s _ _ _ _) ?_
          refine ev_iret eX12_set_106 rfl ?_
          rw [ek]
          refine ⟨fun hc => ?_, fun hc => ?_, fun hc => ?_, fun hc => ?_⟩ <;> first | (exfalso; omega) | (exact ⟨rfl, rfl⟩)
      · skip
        refine ev_aload_n eX12_set_48 rfl ?_
        refine ev_iconst eX12_set_49 ?_
        refine ev_cV1 eX12_set_50 ⟨lX12_81, kX12_finding⟩ rfl rfl m_finding ?_
        rintro _ _ ⟨rfl, rfl⟩
        refine ev_iret eX12_set_53 rfl ?_
        refine ⟨fun hc => ?_, fun hc => ?_, fun hc => ?_, fun hc => ?_⟩ <;> first | (exfalso; omega) | (exact ⟨rfl, (up_up _ _ _ _ _).symm⟩)
    · skip
      refine ev_aload_n eX12_set_24 rfl ?_
      refine ev_iconst eX12_set_25 ?_
      refine ev_cV1 eX12_set_26 ⟨lX12_81, kX12_finding⟩ rfl rfl m_finding ?_
      rintro _ _ ⟨rfl, rfl⟩
      refine ev_iret eX12_set_29 rfl ?_
      refine ⟨fun hc => ?_, fun hc => ?_, fun hc => ?_, fun hc => ?_⟩ <;> first | (exfalso; omega) | (exact ⟨rfl, (up_up _ _ _ _ _).symm⟩)
  · skip
    refine ev_ldc eX12_set_7 qX12_80 ?_
    refine ev_iret eX12_set_9 rfl ?_
    refine ⟨fun hc => ?_, fun hc => ?_, fun hc => ?_, fun hc => ?_⟩ <;> first | (exfalso; omega) | (exact ⟨rfl, rfl⟩)
set_option maxRecDepth 20000 in
theorem m_drop {d : Nat} {σ : St} {la : Nat → Int} {sz : Nat → Nat} {it : Nat → Int} (hW : MRw σ la sz it) {x : Int} (hx : -2147483648 ≤ x ∧ x ≤ 2147483647) : Ct (d + 2) mX12_drop [.ref 45, vi x] σ (fun r τ => (¬ (0 ≤ x ∧ x < 8) → some (vi (-1000001)) = r ∧ σ = τ) ∧ ((0 ≤ x ∧ x < 8) ∧ la x.toNat = -1 → some (vi (-1000010 - 1)) = r ∧ up σ 45 0 1 = τ) ∧ ((0 ≤ x ∧ x < 8) ∧ la x.toNat ≠ -1 → some (vi (sz x.toNat)) = r ∧ up (up σ 45 0 0) 46 x.toNat (-1) = τ)) := by
  refine ct_of hX12_drop (Nat.le_of_ble_eq_true rfl) ?_
  refine ev_iload_n eX12_drop_0 rfl ?_
  refine ev_cS1 eX12_drop_1 ⟨lX12_74, kX12_isRow⟩ rfl (m_isRow (x := x) (by omega)) ?_
  rintro _ _ ⟨rfl, rfl⟩
  refine ev_ifb_ne 10 eX12_drop_4 rfl (fun h4 => ?_) (fun h4 => ?_)
  · skip
    obtain ⟨q, rfl⟩ : ∃ q : Nat, x = q := ⟨x.toNat, by omega⟩
    rw [Int.toNat_natCast]
    obtain ⟨k1, k2, k3, k4, k5⟩ := hW q (by omega)
    refine ev_aload_n eX12_drop_10 rfl ?_
    refine ev_iconst eX12_drop_11 ?_
    refine ev_puti eX12_drop_12 pX12_63 rfl ?_
    refine ev_aload_n eX12_drop_15 rfl ?_
    refine ev_getr eX12_drop_16 fX12_7 rfl ?_
    refine ev_iload_n eX12_drop_19 rfl ?_
    refine ev_ialdv (q) eX12_drop_20 rfl (by first | rfl | omega) (by omega) (show up σ 45 0 0 46 q = la q by rw [up_o _ _ _ (by decide)]; exact k1) ?_
    refine ev_if_ge 30 eX12_drop_21 rfl (by omega) (fun h21 => ?_) (fun h21 => ?_)
    · skip
      obtain ⟨k6, k7⟩ := k5 (by omega)
      refine ev_aload_n eX12_drop_30 rfl ?_
      refine ev_getr eX12_drop_31 fX12_7 rfl ?_
      refine ev_iload_n eX12_drop_34 rfl ?_
      refine ev_iconst eX12_drop_35 ?_
      refine ev_iast (q) eX12_drop_36 rfl (by first | rfl | omega) (by omega) ?_
      refine ev_aload_n eX12_drop_37 rfl ?_
      refine ev_getr eX12_drop_38 fX12_13 rfl ?_
      refine ev_iload_n eX12_drop_41 rfl ?_
      refine ev_ialdv (q) eX12_drop_42 rfl (by first | rfl | omega) (by omega) (show up (up σ 45 0 0) 46 q (-1) 47 q = (sz q : Int) by rw [up_o _ _ _ (by decide), up_o _ _ _ (by decide)]; exact k6) ?_
      refine ev_iret eX12_drop_43 rfl ?_
      refine ⟨fun hc => ?_, fun hc => ?_, fun hc => ?_⟩ <;> first | (exfalso; omega) | (exact ⟨rfl, rfl⟩)
    · skip
      refine ev_aload_n eX12_drop_24 rfl ?_
      refine ev_iconst eX12_drop_25 ?_
      refine ev_cV1 eX12_drop_26 ⟨lX12_81, kX12_finding⟩ rfl rfl m_finding ?_
      rintro _ _ ⟨rfl, rfl⟩
      refine ev_iret eX12_drop_29 rfl ?_
      refine ⟨fun hc => ?_, fun hc => ?_, fun hc => ?_⟩ <;> first | (exfalso; omega) | (exact ⟨rfl, (up_up _ _ _ _ _).symm⟩)
  · skip
    refine ev_ldc eX12_drop_7 qX12_80 ?_
    refine ev_iret eX12_drop_9 rfl ?_
    refine ⟨fun hc => ?_, fun hc => ?_, fun hc => ?_⟩ <;> first | (exfalso; omega) | (exact ⟨rfl, rfl⟩)
set_option maxRecDepth 20000 in
theorem m_copy_u {d : Nat} {σ : St} {a b i j n : Nat} (ha : a < 8) (hb : b < 8) (hi : i + n ≤ 40) (hj : j + n ≤ 40) (hud : j ≤ i) : ∀ (fu : Nat) {k : Nat} {v : Value} {τ : St}, n - k < fu → k ≤ n → (∀ q, τ 48 q = if 40 * b + j ≤ q ∧ q < 40 * b + j + k then σ 48 (40 * a + i + (q - (40 * b + j))) else σ 48 q) → (∀ c, c ≠ 48 → τ c = σ c) → Ev (d) mX12_copy 138 [.ref 45, vi a, vi i, vi b, vi j, vi n, vi 1, vi k, v] [] τ (fun r τ => some (vi n) = r ∧ τ 48 = cpF (σ 48) (σ 48) (40 * a + i) (40 * b + j) n ∧ ∀ c, c ≠ 48 → τ c = σ c) := by
  intro fu
  induction fu with
  | zero => intros; omega
  | succ fu ih =>
    intro k v τ hm h1 h2 h3
    refine ev_iload eX12_copy_138 rfl ?_
    refine ev_iload eX12_copy_140 rfl ?_
    refine ev_icmp_ge 199 eX12_copy_142 rfl (by omega) (by omega) (fun h142 => ?_) (fun h142 => ?_)
    · skip
      refine ev_iload eX12_copy_199 rfl ?_
      refine ev_iret eX12_copy_201 rfl ?_
      refine ⟨rfl, funext fun q => ?_, h3⟩
      rw [h2 q]
      unfold cpF
      by_cases e : 40 * b + j ≤ q ∧ q < 40 * b + j + k
      · rw [if_pos e, if_pos (by omega)]
      · rw [if_neg e, if_neg (by omega)]
    · skip
      refine ev_iload eX12_copy_145 rfl ?_
      refine ev_if_eq 155 eX12_copy_147 rfl (by omega) (fun h147 => False.elim (by omega)) (fun h147 => ?_)
      refine ev_iload eX12_copy_150 rfl ?_
      refine ev_goto 162 eX12_copy_152 rfl ?_
      refine ev_istore eX12_copy_162 (by decide) ?_
      refine ev_aload_n eX12_copy_164 rfl ?_
      refine ev_getr eX12_copy_165 fX12_16 rfl ?_
      refine ev_bipush eX12_copy_168 rfl ?_
      refine ev_iload_n eX12_copy_170 rfl ?_
      refine ev_imul eX12_copy_171 ?_
      refine ev_iload eX12_copy_172 rfl ?_
      refine ev_iadd eX12_copy_174 ?_
      refine ev_iload eX12_copy_175 rfl ?_
      refine ev_iadd eX12_copy_177 ?_
      refine ev_aload_n eX12_copy_178 rfl ?_
      refine ev_getr eX12_copy_179 fX12_16 rfl ?_
      refine ev_bipush eX12_copy_182 rfl ?_
      refine ev_iload_n eX12_copy_184 rfl ?_
      refine ev_imul eX12_copy_185 ?_
      refine ev_iload_n eX12_copy_186 rfl ?_
      refine ev_iadd eX12_copy_187 ?_
      refine ev_iload eX12_copy_188 rfl ?_
      refine ev_iadd eX12_copy_190 ?_
      refine ev_ialdv (40 * a + i + k) eX12_copy_191 rfl (by first | rfl | omega) (by omega) (h2 _) ?_
      refine ev_iast (40 * b + j + k) eX12_copy_192 rfl (by first | rfl | omega) (by omega) ?_
      refine ev_iinc eX12_copy_193 rfl (by decide) ?_
      refine ev_goto 138 eX12_copy_196 rfl ?_
      rw [if_neg (by omega)]
      refine ih (k := k + 1) (by omega) (by omega) (fun q => ?_) (fun c hc => by rw [up_o _ _ _ hc]; exact h3 c hc)
      by_cases e : q = 40 * b + j + k
      · subst e
        rw [up_s, if_pos (by omega)]
        exact congrArg (σ 48) (by omega)
      · rw [up_n _ _ e, h2 q]
        by_cases e2 : 40 * b + j ≤ q ∧ q < 40 * b + j + k
        · rw [if_pos e2, if_pos (by omega)]
        · rw [if_neg e2, if_neg (by omega)]
set_option maxRecDepth 20000 in
theorem m_copy_d {d : Nat} {σ : St} {a b i j n : Nat} (ha : a < 8) (hb : b < 8) (hi : i + n ≤ 40) (hj : j + n ≤ 40) (hud : i < j) : ∀ (fu : Nat) {k : Nat} {v : Value} {τ : St}, n - k < fu → k ≤ n → (∀ q, τ 48 q = if 40 * b + j + (n - k) ≤ q ∧ q < 40 * b + j + n then σ 48 (40 * a + i + (q - (40 * b + j))) else σ 48 q) → (∀ c, c ≠ 48 → τ c = σ c) → Ev (d) mX12_copy 138 [.ref 45, vi a, vi i, vi b, vi j, vi n, vi 0, vi k, v] [] τ (fun r τ => some (vi n) = r ∧ τ 48 = cpF (σ 48) (σ 48) (40 * a + i) (40 * b + j) n ∧ ∀ c, c ≠ 48 → τ c = σ c) := by
  intro fu
  induction fu with
  | zero => intros; omega
  | succ fu ih =>
    intro k v τ hm h1 h2 h3
    refine ev_iload eX12_copy_138 rfl ?_
    refine ev_iload eX12_copy_140 rfl ?_
    refine ev_icmp_ge 199 eX12_copy_142 rfl (by omega) (by omega) (fun h142 => ?_) (fun h142 => ?_)
    · skip
      refine ev_iload eX12_copy_199 rfl ?_
      refine ev_iret eX12_copy_201 rfl ?_
      refine ⟨rfl, funext fun q => ?_, h3⟩
      rw [h2 q]
      unfold cpF
      by_cases e : 40 * b + j + (n - k) ≤ q ∧ q < 40 * b + j + n
      · rw [if_pos e, if_pos (by omega)]
      · rw [if_neg e, if_neg (by omega)]
    · skip
      refine ev_iload eX12_copy_145 rfl ?_
      refine ev_if_eq 155 eX12_copy_147 rfl (by omega) (fun h147 => ?_) (fun h147 => False.elim (by omega))
      refine ev_iload eX12_copy_155 rfl ?_
      refine ev_iconst eX12_copy_157 ?_
      refine ev_isub eX12_copy_158 ?_
      refine ev_iload eX12_copy_159 rfl ?_
      refine ev_isub eX12_copy_161 ?_
      refine ev_istore eX12_copy_162 (by decide) ?_
      refine ev_aload_n eX12_copy_164 rfl ?_
      refine ev_getr eX12_copy_165 fX12_16 rfl ?_
      refine ev_bipush eX12_copy_168 rfl ?_
      refine ev_iload_n eX12_copy_170 rfl ?_
      refine ev_imul eX12_copy_171 ?_
      refine ev_iload eX12_copy_172 rfl ?_
      refine ev_iadd eX12_copy_174 ?_
      refine ev_iload eX12_copy_175 rfl ?_
      refine ev_iadd eX12_copy_177 ?_
      refine ev_aload_n eX12_copy_178 rfl ?_
      refine ev_getr eX12_copy_179 fX12_16 rfl ?_
      refine ev_bipush eX12_copy_182 rfl ?_
      refine ev_iload_n eX12_copy_184 rfl ?_
      refine ev_imul eX12_copy_185 ?_
      refine ev_iload_n eX12_copy_186 rfl ?_
      refine ev_iadd eX12_copy_187 ?_
      refine ev_iload eX12_copy_188 rfl ?_
      refine ev_iadd eX12_copy_190 ?_
      refine ev_ialdv (40 * a + i + (n - 1 - k)) eX12_copy_191 rfl (by first | rfl | omega) (by omega) (h2 _) ?_
      refine ev_iast (40 * b + j + (n - 1 - k)) eX12_copy_192 rfl (by first | rfl | omega) (by omega) ?_
      refine ev_iinc eX12_copy_193 rfl (by decide) ?_
      refine ev_goto 138 eX12_copy_196 rfl ?_
      rw [if_neg (by omega)]
      refine ih (k := k + 1) (by omega) (by omega) (fun q => ?_) (fun c hc => by rw [up_o _ _ _ hc]; exact h3 c hc)
      by_cases e : q = 40 * b + j + (n - 1 - k)
      · subst e
        rw [up_s, if_pos (by omega)]
        exact congrArg (σ 48) (by omega)
      · rw [up_n _ _ e, h2 q]
        by_cases e2 : 40 * b + j + (n - k) ≤ q ∧ q < 40 * b + j + n
        · rw [if_pos e2, if_pos (by omega)]
        · rw [if_neg e2, if_neg (by omega)]
set_option maxRecDepth 20000 in
theorem m_copy {d : Nat} {σ : St} {la : Nat → Int} {sz : Nat → Nat} {it : Nat → Int} (hW : MRw σ la sz it) {a i b j n : Int} (ha : -2147483648 ≤ a ∧ a ≤ 2147483647) (hi : -2147483648 ≤ i ∧ i ≤ 2147483647) (hb : -2147483648 ≤ b ∧ b ≤ 2147483647) (hj : -2147483648 ≤ j ∧ j ≤ 2147483647) (hn : -2147483648 ≤ n ∧ n ≤ 2147483647) : Ct (d + 2) mX12_copy [.ref 45, vi a, vi i, vi b, vi j, vi n] σ (fun r τ => (¬ ((0 ≤ a ∧ a < 8) ∧ (0 ≤ b ∧ b < 8)) → some (vi (-1000001)) = r ∧ σ = τ) ∧ (((0 ≤ a ∧ a < 8) ∧ (0 ≤ b ∧ b < 8)) ∧ (la a.toNat = -1 ∨ la b.toNat = -1) → some (vi (-1000010 - 1)) = r ∧ up σ 45 0 1 = τ) ∧ (((0 ≤ a ∧ a < 8) ∧ (0 ≤ b ∧ b < 8)) ∧ ¬ (la a.toNat = -1 ∨ la b.toNat = -1) ∧ la a.toNat ≠ la b.toNat → some (vi (-1000010 - 5)) = r ∧ up σ 45 0 5 = τ) ∧ (((0 ≤ a ∧ a < 8) ∧ (0 ≤ b ∧ b < 8)) ∧ ¬ (la a.toNat = -1 ∨ la b.toNat = -1) ∧ la a.toNat = la b.toNat ∧ ¬ ((0 ≤ i ∧ 0 ≤ n ∧ i + n ≤ sz a.toNat) ∧ (0 ≤ j ∧ j + n ≤ sz b.toNat)) → some (vi (-1000010 - 2)) = r ∧ up σ 45 0 2 = τ) ∧ (((0 ≤ a ∧ a < 8) ∧ (0 ≤ b ∧ b < 8)) ∧ ¬ (la a.toNat = -1 ∨ la b.toNat = -1) ∧ la a.toNat = la b.toNat ∧ ((0 ≤ i ∧ 0 ≤ n ∧ i + n ≤ sz a.toNat) ∧ (0 ≤ j ∧ j + n ≤ sz b.toNat)) → some (vi n) = r ∧ τ 48 = cpF (σ 48) (σ 48) (40 * a.toNat + i.toNat) (40 * b.toNat + j.toNat) n.toNat ∧ τ 45 0 = 0 ∧ (∀ j, j ≠ 0 → τ 45 j = σ 45 j) ∧ ∀ c, c ≠ 45 → c ≠ 48 → τ c = σ c)) := by
  refine ct_of hX12_copy (Nat.le_of_ble_eq_true rfl) ?_
  refine ev_iload_n eX12_copy_0 rfl ?_
  refine ev_cS1 eX12_copy_1 ⟨lX12_74, kX12_isRow⟩ rfl (m_isRow (x := a) (by omega)) ?_
  rintro _ _ ⟨rfl, rfl⟩
  refine ev_ifb_eq 14 eX12_copy_4 rfl (fun h4 => ?_) (fun h4 => ?_)
  · skip
    refine ev_ldc eX12_copy_14 qX12_80 ?_
    refine ev_iret eX12_copy_16 rfl ?_
    refine ⟨fun hc => ?_, fun hc => ?_, fun hc => ?_, fun hc => ?_, fun hc => ?_⟩ <;> first | (exfalso; omega) | (exact ⟨rfl, rfl⟩)
  · skip
    refine ev_iload_n eX12_copy_7 rfl ?_
    refine ev_cS1 eX12_copy_8 ⟨lX12_74, kX12_isRow⟩ rfl (m_isRow (x := b) (by omega)) ?_
    rintro _ _ ⟨rfl, rfl⟩
    refine ev_ifb_ne 17 eX12_copy_11 rfl (fun h11 => ?_) (fun h11 => ?_)
    · skip
      obtain ⟨a, rfl⟩ : ∃ q : Nat, a = q := ⟨a.toNat, by omega⟩
      obtain ⟨b, rfl⟩ : ∃ q : Nat, b = q := ⟨b.toNat, by omega⟩
      rw [Int.toNat_natCast, Int.toNat_natCast]
      obtain ⟨k1, k2, k3, k4, k5⟩ := hW a (by omega)
      obtain ⟨l1, l2, l3, l4, l5⟩ := hW b (by omega)
      refine ev_aload_n eX12_copy_17 rfl ?_
      refine ev_iconst eX12_copy_18 ?_
      refine ev_puti eX12_copy_19 pX12_63 rfl ?_
      refine ev_aload_n eX12_copy_22 rfl ?_
      refine ev_getr eX12_copy_23 fX12_7 rfl ?_
      refine ev_iload_n eX12_copy_26 rfl ?_
      refine ev_ialdv (a) eX12_copy_27 rfl (by first | rfl | omega) (by omega) (show up σ 45 0 0 46 a = la a by rw [up_o _ _ _ (by decide)]; exact k1) ?_
      refine ev_if_lt 40 eX12_copy_28 rfl (by omega) (fun h28 => ?_) (fun h28 => ?_)
      · skip
        refine ev_aload_n eX12_copy_40 rfl ?_
        refine ev_iconst eX12_copy_41 ?_
        refine ev_cV1 eX12_copy_42 ⟨lX12_81, kX12_finding⟩ rfl rfl m_finding ?_
        rintro _ _ ⟨rfl, rfl⟩
        refine ev_iret eX12_copy_45 rfl ?_
        refine ⟨fun hc => ?_, fun hc => ?_, fun hc => ?_, fun hc => ?_, fun hc => ?_⟩ <;> first | (exfalso; omega) | (exact ⟨rfl, (up_up _ _ _ _ _).symm⟩)
      · skip
        refine ev_aload_n eX12_copy_31 rfl ?_
        refine ev_getr eX12_copy_32 fX12_7 rfl ?_
        refine ev_iload_n eX12_copy_35 rfl ?_
        refine ev_ialdv (b) eX12_copy_36 rfl (by first | rfl | omega) (by omega) (show up σ 45 0 0 46 b = la b by rw [up_o _ _ _ (by decide)]; exact l1) ?_
        refine ev_if_ge 46 eX12_copy_37 rfl (by omega) (fun h37 => ?_) (fun h37 => ?_)
        · skip
          refine ev_aload_n eX12_copy_46 rfl ?_
          refine ev_getr eX12_copy_47 fX12_7 rfl ?_
          refine ev_iload_n eX12_copy_50 rfl ?_
          refine ev_ialdv (a) eX12_copy_51 rfl (by first | rfl | omega) (by omega) (show up σ 45 0 0 46 a = la a by rw [up_o _ _ _ (by decide)]; exact k1) ?_
          refine ev_aload_n eX12_copy_52 rfl ?_
          refine ev_getr eX12_copy_53 fX12_7 rfl ?_
          refine ev_iload_n eX12_copy_56 rfl ?_
          refine ev_ialdv (b) eX12_copy_57 rfl (by first | rfl | omega) (by omega) (show up σ 45 0 0 46 b = la b by rw [up_o _ _ _ (by decide)]; exact l1) ?_
          refine ev_icmp_eq 67 eX12_copy_58 rfl (by omega) (by omega) (fun h58 => ?_) (fun h58 => ?_)
          · skip
            refine ev_iload_n eX12_copy_67 rfl ?_
            refine ev_if_lt 116 eX12_copy_68 rfl (by omega) (fun h68 => ?_) (fun h68 => ?_)
            · skip
              refine ev_aload_n eX12_copy_116 rfl ?_
              refine ev_iconst eX12_copy_117 ?_
              refine ev_cV1 eX12_copy_118 ⟨lX12_81, kX12_finding⟩ rfl rfl m_finding ?_
              rintro _ _ ⟨rfl, rfl⟩
              refine ev_iret eX12_copy_121 rfl ?_
              refine ⟨fun hc => ?_, fun hc => ?_, fun hc => ?_, fun hc => ?_, fun hc => ?_⟩ <;> first | (exfalso; omega) | (exact ⟨rfl, (up_up _ _ _ _ _).symm⟩)
            · skip
              refine ev_iload eX12_copy_71 rfl ?_
              refine ev_if_lt 116 eX12_copy_73 rfl (by omega) (fun h73 => ?_) (fun h73 => ?_)
              · skip
                refine ev_aload_n eX12_copy_116 rfl ?_
                refine ev_iconst eX12_copy_117 ?_
                refine ev_cV1 eX12_copy_118 ⟨lX12_81, kX12_finding⟩ rfl rfl m_finding ?_
                rintro _ _ ⟨rfl, rfl⟩
                refine ev_iret eX12_copy_121 rfl ?_
                refine ⟨fun hc => ?_, fun hc => ?_, fun hc => ?_, fun hc => ?_, fun hc => ?_⟩ <;> first | (exfalso; omega) | (exact ⟨rfl, (up_up _ _ _ _ _).symm⟩)
              · skip
                refine ev_iload eX12_copy_76 rfl ?_
                refine ev_if_lt 116 eX12_copy_78 rfl (by omega) (fun h78 => ?_) (fun h78 => ?_)
                · skip
                  refine ev_aload_n eX12_copy_116 rfl ?_
                  refine ev_iconst eX12_copy_117 ?_
                  refine ev_cV1 eX12_copy_118 ⟨lX12_81, kX12_finding⟩ rfl rfl m_finding ?_
                  rintro _ _ ⟨rfl, rfl⟩
                  refine ev_iret eX12_copy_121 rfl ?_
                  refine ⟨fun hc => ?_, fun hc => ?_, fun hc => ?_, fun hc => ?_, fun hc => ?_⟩ <;> first | (exfalso; omega) | (exact ⟨rfl, (up_up _ _ _ _ _).symm⟩)
                · skip
                  refine ev_iload_n eX12_copy_81 rfl ?_
                  refine ev_i2l eX12_copy_82 (by omega) ?_
                  refine ev_iload eX12_copy_83 rfl ?_
                  refine ev_i2l eX12_copy_85 (by omega) ?_
                  refine ev_ladd eX12_copy_86 ?_
                  refine ev_aload_n eX12_copy_87 rfl ?_
                  refine ev_getr eX12_copy_88 fX12_13 rfl ?_
                  refine ev_iload_n eX12_copy_91 rfl ?_
                  refine ev_ialdv (a) eX12_copy_92 rfl (by first | rfl | omega) (by omega) (show up σ 45 0 0 47 a = (sz a : Int) by rw [up_o _ _ _ (by decide)]; exact (k5 (by omega)).1) ?_
                  refine ev_i2l eX12_copy_93 (by omega) ?_
                  refine ev_lif_gt 116 eX12_copy_94 eX12_copy_95 rfl (by omega) (by omega) (fun h94 => ?_) (fun h94 => ?_)
                  · skip
                    refine ev_aload_n eX12_copy_116 rfl ?_
                    refine ev_iconst eX12_copy_117 ?_
                    refine ev_cV1 eX12_copy_118 ⟨lX12_81, kX12_finding⟩ rfl rfl m_finding ?_
                    rintro _ _ ⟨rfl, rfl⟩
                    refine ev_iret eX12_copy_121 rfl ?_
                    refine ⟨fun hc => ?_, fun hc => ?_, fun hc => ?_, fun hc => ?_, fun hc => ?_⟩ <;> first | (exfalso; omega) | (exact ⟨rfl, (up_up _ _ _ _ _).symm⟩)
                  · skip
                    refine ev_iload eX12_copy_98 rfl ?_
                    refine ev_i2l eX12_copy_100 (by omega) ?_
                    refine ev_iload eX12_copy_101 rfl ?_
                    refine ev_i2l eX12_copy_103 (by omega) ?_
                    refine ev_ladd eX12_copy_104 ?_
                    refine ev_aload_n eX12_copy_105 rfl ?_
                    refine ev_getr eX12_copy_106 fX12_13 rfl ?_
                    refine ev_iload_n eX12_copy_109 rfl ?_
                    refine ev_ialdv (b) eX12_copy_110 rfl (by first | rfl | omega) (by omega) (show up σ 45 0 0 47 b = (sz b : Int) by rw [up_o _ _ _ (by decide)]; exact (l5 (by omega)).1) ?_
                    refine ev_i2l eX12_copy_111 (by omega) ?_
                    refine ev_lif_le 122 eX12_copy_112 eX12_copy_113 rfl (by omega) (by omega) (fun h112 => ?_) (fun h112 => ?_)
                    · skip
                      obtain ⟨i, rfl⟩ : ∃ q : Nat, i = q := ⟨i.toNat, by omega⟩
                      obtain ⟨j, rfl⟩ : ∃ q : Nat, j = q := ⟨j.toNat, by omega⟩
                      obtain ⟨n, rfl⟩ : ∃ q : Nat, n = q := ⟨n.toNat, by omega⟩
                      refine ev_iload_n eX12_copy_122 rfl ?_
                      refine ev_iload eX12_copy_123 rfl ?_
                      refine ev_icmp_lt 132 eX12_copy_125 rfl (by omega) (by omega) (fun h125 => ?_) (fun h125 => ?_)
                      · skip
                        refine ev_iconst eX12_copy_132 ?_
                        refine ev_istore eX12_copy_133 (by decide) ?_
                        refine ev_iconst eX12_copy_135 ?_
                        refine ev_istore eX12_copy_136 (by decide) ?_
                        refine ev_mono (fun r τ h => ?_) (m_copy_d (a := a) (b := b) (i := i) (j := j) (n := n) (by omega) (by omega) (by omega) (by omega) (by omega) (n + 1) (k := 0) (by omega) (by omega) (fun q => by rw [if_neg (by omega)]) (fun _ _ => rfl))
                        obtain ⟨rfl, g1, g2⟩ := h
                        refine ⟨fun hc => ?_, fun hc => ?_, fun hc => ?_, fun hc => ?_, fun hc => ?_⟩ <;> first | (exfalso; omega) | skip
                        refine ⟨rfl, ?_, ?_, ?_, ?_⟩
                        · rw [g1, up_o _ _ _ (by decide)]; rfl
                        · rw [g2 45 (by decide), up_s]
                        · intro j hj
                          rw [g2 45 (by decide), up_n _ _ hj]
                        · intro c a1 a2
                          rw [g2 c a2, up_o _ _ _ a1]
                      · skip
                        refine ev_iconst eX12_copy_128 ?_
                        refine ev_goto 133 eX12_copy_129 rfl ?_
                        refine ev_istore eX12_copy_133 (by decide) ?_
                        refine ev_iconst eX12_copy_135 ?_
                        refine ev_istore eX12_copy_136 (by decide) ?_
                        refine ev_mono (fun r τ h => ?_) (m_copy_u (a := a) (b := b) (i := i) (j := j) (n := n) (by omega) (by omega) (by omega) (by omega) (by omega) (n + 1) (k := 0) (by omega) (by omega) (fun q => by rw [if_neg (by omega)]) (fun _ _ => rfl))
                        obtain ⟨rfl, g1, g2⟩ := h
                        refine ⟨fun hc => ?_, fun hc => ?_, fun hc => ?_, fun hc => ?_, fun hc => ?_⟩ <;> first | (exfalso; omega) | skip
                        refine ⟨rfl, ?_, ?_, ?_, ?_⟩
                        · rw [g1, up_o _ _ _ (by decide)]; rfl
                        · rw [g2 45 (by decide), up_s]
                        · intro j hj
                          rw [g2 45 (by decide), up_n _ _ hj]
                        · intro c a1 a2
                          rw [g2 c a2, up_o _ _ _ a1]
                    · skip
                      refine ev_aload_n eX12_copy_116 rfl ?_
                      refine ev_iconst eX12_copy_117 ?_
                      refine ev_cV1 eX12_copy_118 ⟨lX12_81, kX12_finding⟩ rfl rfl m_finding ?_
                      rintro _ _ ⟨rfl, rfl⟩
                      refine ev_iret eX12_copy_121 rfl ?_
                      refine ⟨fun hc => ?_, fun hc => ?_, fun hc => ?_, fun hc => ?_, fun hc => ?_⟩ <;> first | (exfalso; omega) | (exact ⟨rfl, (up_up _ _ _ _ _).symm⟩)
          · skip
            refine ev_aload_n eX12_copy_61 rfl ?_
            refine ev_iconst eX12_copy_62 ?_
            refine ev_cV1 eX12_copy_63 ⟨lX12_81, kX12_finding⟩ rfl rfl m_finding ?_
            rintro _ _ ⟨rfl, rfl⟩
            refine ev_iret eX12_copy_66 rfl ?_
            refine ⟨fun hc => ?_, fun hc => ?_, fun hc => ?_, fun hc => ?_, fun hc => ?_⟩ <;> first | (exfalso; omega) | (exact ⟨rfl, (up_up _ _ _ _ _).symm⟩)
        · skip
          refine ev_aload_n eX12_copy_40 rfl ?_
          refine ev_iconst eX12_copy_41 ?_
          refine ev_cV1 eX12_copy_42 ⟨lX12_81, kX12_finding⟩ rfl rfl m_finding ?_
          rintro _ _ ⟨rfl, rfl⟩
          refine ev_iret eX12_copy_45 rfl ?_
          refine ⟨fun hc => ?_, fun hc => ?_, fun hc => ?_, fun hc => ?_, fun hc => ?_⟩ <;> first | (exfalso; omega) | (exact ⟨rfl, (up_up _ _ _ _ _).symm⟩)
    · skip
      refine ev_ldc eX12_copy_14 qX12_80 ?_
      refine ev_iret eX12_copy_16 rfl ?_
      refine ⟨fun hc => ?_, fun hc => ?_, fun hc => ?_, fun hc => ?_, fun hc => ?_⟩ <;> first | (exfalso; omega) | (exact ⟨rfl, rfl⟩)
def MTp (σ : St) (tp : Nat → Nat) (n : Nat) : Prop := σ 45 12 = (n : Int) ∧ n ≤ 120 ∧ ∀ i, i < n → tp i ≤ 255 ∧ σ 55 i = (tp i : Int)
set_option maxRecDepth 20000 in
theorem m_feed {d : Nat} {σ : St} {n : Nat} (hn : σ 45 12 = (n : Int)) (hn1 : n ≤ 120) {x : Int} (hx : -2147483648 ≤ x ∧ x ≤ 2147483647) : Ct (d + 2) mX12_feed [.ref 45, vi x] σ (fun r τ => (¬ (0 ≤ x ∧ x ≤ 255) → some (vi (-1000001)) = r ∧ σ = τ) ∧ ((0 ≤ x ∧ x ≤ 255) ∧ 120 ≤ n → some (vi (-1000003)) = r ∧ σ = τ) ∧ ((0 ≤ x ∧ x ≤ 255) ∧ n < 120 → some (vi ((n : Int) + 1)) = r ∧ up (up σ 55 n x) 45 12 ((n : Int) + 1) = τ)) := by
  refine ct_of hX12_feed (Nat.le_of_ble_eq_true rfl) ?_
  refine ev_iload_n eX12_feed_0 rfl ?_
  refine ev_i2l eX12_feed_1 (by omega) ?_
  refine ev_lconst 0 eX12_feed_2 rfl ?_
  refine ev_ldc2 eX12_feed_3 qX12_107 ?_
  refine ev_cS3 eX12_feed_6 ⟨lX12_70, kX12_in⟩ rfl (m_in (a := x) (b := 0) (c := 255) (by omega) (by omega) (by omega)) ?_
  rintro _ _ ⟨rfl, rfl⟩
  refine ev_ifb_ne 15 eX12_feed_9 rfl (fun h9 => ?_) (fun h9 => ?_)
  · skip
    refine ev_aload_n eX12_feed_15 rfl ?_
    refine ev_getiv eX12_feed_16 fX12_109 rfl hn ?_
    refine ev_bipush eX12_feed_19 rfl ?_
    refine ev_icmp_ne 27 eX12_feed_21 rfl (by omega) (by omega) (fun h21 => ?_) (fun h21 => ?_)
    · skip
      refine ev_aload_n eX12_feed_27 rfl ?_
      refine ev_getr eX12_feed_28 fX12_37 rfl ?_
      refine ev_aload_n eX12_feed_31 rfl ?_
      refine ev_getiv eX12_feed_32 fX12_109 rfl hn ?_
      refine ev_iload_n eX12_feed_35 rfl ?_
      refine ev_iast (n) eX12_feed_36 rfl (by first | rfl | omega) (by omega) ?_
      refine ev_aload_n eX12_feed_37 rfl ?_
      refine ev_dup eX12_feed_38 rfl ?_
      refine ev_getiv eX12_feed_39 fX12_109 rfl (show up σ 55 n x 45 12 = (n : Int) by rw [up_o _ _ _ (by decide)]; exact hn) ?_
      refine ev_iconst eX12_feed_42 ?_
      refine ev_iadd eX12_feed_43 ?_
      refine ev_puti eX12_feed_44 pX12_109 rfl ?_
      refine ev_aload_n eX12_feed_47 rfl ?_
      refine ev_getiv eX12_feed_48 fX12_109 rfl (up_s _ _ _ _) ?_
      refine ev_iret eX12_feed_51 rfl ?_
      refine ⟨fun hc => ?_, fun hc => ?_, fun hc => ?_⟩ <;> first | (exfalso; omega) | (exact ⟨rfl, rfl⟩)
    · skip
      refine ev_ldc eX12_feed_24 qX12_96 ?_
      refine ev_iret eX12_feed_26 rfl ?_
      refine ⟨fun hc => ?_, fun hc => ?_, fun hc => ?_⟩ <;> first | (exfalso; omega) | (exact ⟨rfl, rfl⟩)
  · skip
    refine ev_ldc eX12_feed_12 qX12_80 ?_
    refine ev_iret eX12_feed_14 rfl ?_
    refine ⟨fun hc => ?_, fun hc => ?_, fun hc => ?_⟩ <;> first | (exfalso; omega) | (exact ⟨rfl, rfl⟩)
