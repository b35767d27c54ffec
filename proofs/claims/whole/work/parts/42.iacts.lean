/-! InflatedRows: acts -/
def AcC (σ : St) (na : Nat) (Ac : Nat → Bok) : Prop := ∃ od : Nat, σ 6 2 = (od : Int) ∧ od < 24 ∧ σ 6 3 = (na : Int) ∧ na ≤ 24 ∧ ∀ k, k < na → ∀ j, j < 44 → σ 19 ((od + k) % 24 * 44 + j) = (Ac k j : Int)
def acN (na : Nat) (Ac : Nat → Bok) (B : Bok) : Nat → Bok := fun k => if k = naN na then B else if na = 24 then Ac (k + 1) else Ac k
theorem AcC.of {σ τ : St} {na : Nat} {Ac : Nat → Bok} (h : AcC σ na Ac) (e2 : τ 6 2 = σ 6 2) (e3 : τ 6 3 = σ 6 3) (e : τ 19 = σ 19) : AcC τ na Ac := by
  obtain ⟨od, h1, h2, h3, h4, h5⟩ := h
  exact ⟨od, by rw [e2]; exact h1, h2, by rw [e3]; exact h3, h4, fun k hk j hj => by rw [e]; exact h5 k hk j hj⟩
theorem AcC_keep {σ τ : St} {na od : Nat} {Ac : Nat → Bok} {B : Bok} (hB : BkC σ 16 B) (ho : od < 24) (hna : na ≤ 24) (h5 : ∀ k, k < na → ∀ j, j < 44 → σ 19 ((od + k) % 24 * 44 + j) = (Ac k j : Int)) (g1 : τ 6 2 = (odN od na : Int)) (g2 : τ 6 3 = (naN na + 1 : Int)) (g4 : τ 19 = cpF (σ 16) (σ 19) 0 ((odN od na + naN na) % 24 * 44) 44) : AcC τ (naN na + 1) (acN na Ac B) := by
  have hn23 : naN na ≤ 23 := by unfold naN; split <;> omega
  have ho23 : odN od na < 24 := by unfold odN; split <;> omega
  refine ⟨odN od na, g1, ho23, by rw [g2]; push_cast; rfl, by omega, fun k hk j hj => ?_⟩
  rw [g4]
  by_cases e : k = naN na
  · subst e
    rw [cpF_in (by omega) (by omega)]
    unfold acN
    rw [if_pos rfl, show 0 + ((odN od na + naN na) % 24 * 44 + j - (odN od na + naN na) % 24 * 44) = j by omega]
    exact hB j hj
  · rw [cpF_out (by omega)]
    unfold acN
    rw [if_neg e]
    by_cases e2 : na = 24
    · rw [if_pos e2]
      have e3 : odN od na = (od + 1) % 24 := by unfold odN; rw [if_pos e2]
      have e4 : naN na = 23 := by unfold naN; rw [if_pos e2]
      rw [show (odN od na + k) % 24 = (od + (k + 1)) % 24 by omega]
      exact h5 (k + 1) (by omega) j hj
    · rw [if_neg e2]
      have e3 : odN od na = od := by unfold odN; rw [if_neg e2]
      have e4 : naN na = na := by unfold naN; rw [if_neg e2]
      rw [e3]
      exact h5 k (by omega) j hj
/-- the findings of letters -/
def LtP (sz : Nat → Nat) (it : Nat → Int) (B : Bok) (q n : Nat) : Prop := n ≤ sz q ∧ ∀ i, i < n → 0 ≤ it (q * 40 + i) ∧ it (q * 40 + i) < B 2
noncomputable def lfn (la : Nat → Int) (sz : Nat → Nat) (it : Nat → Int) (B : Bok) (q n : Nat) : Int := if la q = -1 then 1 else @ite _ (LtP sz it B q n) (Classical.propDecidable _) 0 2
theorem lfn_1 {la : Nat → Int} {sz : Nat → Nat} {it : Nat → Int} {B : Bok} {q n : Nat} (h : la q = -1) : lfn la sz it B q n = 1 := if_pos h
theorem lfn_0 {la : Nat → Int} {sz : Nat → Nat} {it : Nat → Int} {B : Bok} {q n : Nat} (h : la q ≠ -1) (h2 : LtP sz it B q n) : lfn la sz it B q n = 0 := by unfold lfn; rw [if_neg h, if_pos h2]
theorem lfn_2 {la : Nat → Int} {sz : Nat → Nat} {it : Nat → Int} {B : Bok} {q n : Nat} (h : la q ≠ -1) (h2 : ¬ LtP sz it B q n) : lfn la sz it B q n = 2 := by unfold lfn; rw [if_neg h, if_neg h2]
theorem lfn_c (la : Nat → Int) (sz : Nat → Nat) (it : Nat → Int) (B : Bok) (q n : Nat) : (la q = -1 ∧ lfn la sz it B q n = 1) ∨ (la q ≠ -1 ∧ LtP sz it B q n ∧ lfn la sz it B q n = 0) ∨ (la q ≠ -1 ∧ ¬ LtP sz it B q n ∧ lfn la sz it B q n = 2) := by
  by_cases h : la q = -1
  · exact Or.inl ⟨h, lfn_1 h⟩
  · by_cases h2 : LtP sz it B q n
    · exact Or.inr (Or.inl ⟨h, h2, lfn_0 h h2⟩)
    · exact Or.inr (Or.inr ⟨h, h2, lfn_2 h h2⟩)
set_option maxRecDepth 20000 in
theorem c_lfd_l {d : Nat} {σ : St} {B : Bok} (hB : BkC σ 16 B) (hZ : OkZ B) {la : Nat → Int} {sz : Nat → Nat} {it : Nat → Int} (hW : RwsC σ la sz it) {q n : Nat} (hq : q < 8) (hn : n ≤ 40) (hla : la q ≠ -1) (hsz : n ≤ sz q) : ∀ (fu : Nat) {i : Nat}, n - i < fu → i ≤ n → (∀ z, z < i → 0 ≤ it (q * 40 + z) ∧ it (q * 40 + z) < B 2) → Ev (d + 1) mX11_lettersFinding 29 [.ref 0, vi q, vi n, vi i] [] σ (rt (vi (lfn la sz it B q n)) σ) := by
  intro fu
  induction fu with
  | zero => intros; omega
  | succ fu ih =>
    intro i hm h1 h2
    have hf := hZ.wf
    have h7 := hf.2.1
    obtain ⟨k1, k2, k3, k4, k5⟩ := hW q hq
    obtain ⟨k6, k7⟩ := k5 hla
    refine ev_iload_n eX11_lettersFinding_29 rfl ?_
    refine ev_iload_n eX11_lettersFinding_30 rfl ?_
    refine ev_icmp_ge 61 eX11_lettersFinding_31 rfl (by omega) (by omega) (fun h31 => ?_) (fun h31 => ?_)
    · skip
      refine ev_iconst eX11_lettersFinding_61 ?_
      refine ev_iret eX11_lettersFinding_62 rfl ?_
      exact ⟨congrArg (fun q => some (vi q)) (lfn_0 hla ⟨hsz, fun z hz => h2 z (by omega)⟩), rfl⟩
    · skip
      refine ev_aload_n eX11_lettersFinding_34 rfl ?_
      refine ev_getr eX11_lettersFinding_35 fX11_26 rfl ?_
      refine ev_aload_n eX11_lettersFinding_38 rfl ?_
      refine ev_getr eX11_lettersFinding_39 fX11_10 rfl ?_
      refine ev_iload_n eX11_lettersFinding_42 rfl ?_
      refine ev_iload_n eX11_lettersFinding_43 rfl ?_
      refine ev_cV2 eX11_lettersFinding_44 ⟨lX11_178, kX8_item⟩ rfl rfl (c_item (r := q) (i := i) hq (by omega)) ?_
      rintro _ _ ⟨rfl, rfl⟩
      rw [(k7 i (by omega)).1]
      have hr := (k7 i (by omega)).2
      unfold R32 at hr
      refine ev_cV1 eX11_lettersFinding_47 ⟨lX11_162, kX0_hasSort⟩ rfl rfl (c_hasSort Bq3 hB hf.1 (x := it (q * 40 + i)) hr) ?_
      rintro _ _ ⟨rfl, rfl⟩
      refine ev_ifb_ne 55 eX11_lettersFinding_50 rfl (fun h50 => ?_) (fun h50 => ?_)
      · skip
        refine ev_iinc eX11_lettersFinding_55 rfl (by decide) ?_
        refine ev_goto 29 eX11_lettersFinding_58 rfl ?_
        refine ih (i := i + 1) (by omega) (by omega) (fun z hz => ?_)
        by_cases e : z = i
        · subst e; exact h50
        · exact h2 z (by omega)
      · skip
        refine ev_iconst eX11_lettersFinding_53 ?_
        refine ev_iret eX11_lettersFinding_54 rfl ?_
        exact ⟨congrArg (fun q => some (vi q)) (lfn_2 hla (fun z => h50 (z.2 i (by omega)))), rfl⟩
set_option maxRecDepth 20000 in
theorem c_lfd {d : Nat} {σ : St} {B : Bok} (hB : BkC σ 16 B) (hZ : OkZ B) {la : Nat → Int} {sz : Nat → Nat} {it : Nat → Int} (hW : RwsC σ la sz it) {q n : Nat} (hq : q < 8) (hn : n ≤ 40) : Ct (d + 1) mX11_lettersFinding [.ref 0, vi q, vi n] σ (rt (vi (lfn la sz it B q n)) σ) := by
  refine ct_of hX11_lettersFinding (Nat.le_of_ble_eq_true rfl) ?_
  have hf := hZ.wf
  have h7 := hf.2.1
  obtain ⟨k1, k2, k3, k4, k5⟩ := hW q hq
  refine ev_aload_n eX11_lettersFinding_0 rfl ?_
  refine ev_getr eX11_lettersFinding_1 fX11_10 rfl ?_
  refine ev_iload_n eX11_lettersFinding_4 rfl ?_
  refine ev_cV1 eX11_lettersFinding_5 ⟨lX11_101, kX8_isMissing⟩ rfl rfl (c_isMissing hW.rw (r := q) hq) ?_
  rintro _ _ ⟨rfl, rfl⟩
  refine ev_ifb_eq 13 eX11_lettersFinding_8 rfl (fun h8 => ?_) (fun h8 => ?_)
  · skip
    obtain ⟨k6, k7⟩ := k5 (by omega)
    refine ev_iload_n eX11_lettersFinding_13 rfl ?_
    refine ev_aload_n eX11_lettersFinding_14 rfl ?_
    refine ev_getr eX11_lettersFinding_15 fX11_10 rfl ?_
    refine ev_iload_n eX11_lettersFinding_18 rfl ?_
    refine ev_cV1 eX11_lettersFinding_19 ⟨lX11_104, kX8_sizeOf⟩ rfl rfl (c_sizeOf (r := q) hq) ?_
    rintro _ _ ⟨rfl, rfl⟩
    rw [k6]
    refine ev_icmp_le 27 eX11_lettersFinding_22 rfl (by omega) (by omega) (fun h22 => ?_) (fun h22 => ?_)
    · skip
      refine ev_iconst eX11_lettersFinding_27 ?_
      refine ev_istore_n eX11_lettersFinding_28 (by decide) ?_
      exact c_lfd_l hB hZ hW hq hn (by omega) (by omega) 41 (i := 0) (by omega) (by omega) (fun z hz => by omega)
    · skip
      refine ev_iconst eX11_lettersFinding_25 ?_
      refine ev_iret eX11_lettersFinding_26 rfl ?_
      exact ⟨congrArg (fun q => some (vi q)) (lfn_2 (by omega) (fun z => by have := z.1; omega)), rfl⟩
  · skip
    refine ev_iconst eX11_lettersFinding_11 ?_
    refine ev_iret eX11_lettersFinding_12 rfl ?_
    exact ⟨congrArg (fun q => some (vi q)) (lfn_1 (by omega)), rfl⟩
set_option maxRecDepth 20000 in
theorem o_length {d : Nat} {σ : St} {B : Bok} (hB : BkC σ 16 B) (hZ : OkZ B) {na : Nat} {Ac : Nat → Bok} (hA : AcC σ na Ac) {x e v : Int} (hx : -2147483648 ≤ x ∧ x ≤ 2147483647) (he : -2147483648 ≤ e ∧ e ≤ 2147483647) (hv : -2147483648 ≤ v ∧ v ≤ 2147483647) : Ct (d + 3) mX11_length [.ref 0, vi x, vi e, vi v] σ (fun r τ => (¬ ((0 ≤ x ∧ x < B 2) ∧ (0 ≤ e ∧ e ≤ 1) ∧ 0 ≤ v ∧ v ≤ 9) → some (vi (-1000001)) = r ∧ σ = τ) ∧ ((0 ≤ x ∧ x < B 2) ∧ (0 ≤ e ∧ e ≤ 1) ∧ 0 ≤ v ∧ v ≤ 9 → some (vi (pt B x.toNat e.toNat)) = r ∧ BkC τ 16 (upB B (8 + 2 * x.toNat + e.toNat) v.toNat) ∧ AcC τ (naN na + 1) (acN na Ac B) ∧ τ 6 4 = σ 6 4 ∧ ∀ k, k ≠ 6 → k ≠ 16 → k ≠ 19 → τ k = σ k)) := by
  refine ct_of hX11_length (Nat.le_of_ble_eq_true rfl) ?_
  have hf := hZ.wf
  have h7 := hf.2.1
  refine ev_aload_n eX11_length_0 rfl ?_
  refine ev_getr eX11_length_1 fX11_26 rfl ?_
  refine ev_iload_n eX11_length_4 rfl ?_
  refine ev_cV1 eX11_length_5 ⟨lX11_162, kX0_hasSort⟩ rfl rfl (c_hasSort Bq3 hB hf.1 (x := x) (by omega)) ?_
  rintro _ _ ⟨rfl, rfl⟩
  refine ev_ifb_eq 30 eX11_length_8 rfl (fun h8 => ?_) (fun h8 => ?_)
  · skip
    refine ev_ldc eX11_length_30 qX11_89 ?_
    refine ev_iret eX11_length_32 rfl ?_
    refine ⟨fun hc => ?_, fun hc => ?_⟩ <;> first | (exfalso; omega) | (exact ⟨rfl, rfl⟩)
  · skip
    refine ev_iload_n eX11_length_11 rfl ?_
    refine ev_if_lt 30 eX11_length_12 rfl (by omega) (fun h12 => ?_) (fun h12 => ?_)
    · skip
      refine ev_ldc eX11_length_30 qX11_89 ?_
      refine ev_iret eX11_length_32 rfl ?_
      refine ⟨fun hc => ?_, fun hc => ?_⟩ <;> first | (exfalso; omega) | (exact ⟨rfl, rfl⟩)
    · skip
      refine ev_iload_n eX11_length_15 rfl ?_
      refine ev_iconst eX11_length_16 ?_
      refine ev_icmp_gt 30 eX11_length_17 rfl (by omega) (by omega) (fun h17 => ?_) (fun h17 => ?_)
      · skip
        refine ev_ldc eX11_length_30 qX11_89 ?_
        refine ev_iret eX11_length_32 rfl ?_
        refine ⟨fun hc => ?_, fun hc => ?_⟩ <;> first | (exfalso; omega) | (exact ⟨rfl, rfl⟩)
      · skip
        refine ev_iload_n eX11_length_20 rfl ?_
        refine ev_if_lt 30 eX11_length_21 rfl (by omega) (fun h21 => ?_) (fun h21 => ?_)
        · skip
          refine ev_ldc eX11_length_30 qX11_89 ?_
          refine ev_iret eX11_length_32 rfl ?_
          refine ⟨fun hc => ?_, fun hc => ?_⟩ <;> first | (exfalso; omega) | (exact ⟨rfl, rfl⟩)
        · skip
          refine ev_iload_n eX11_length_24 rfl ?_
          refine ev_bipush eX11_length_25 rfl ?_
          refine ev_icmp_le 33 eX11_length_27 rfl (by omega) (by omega) (fun h27 => ?_) (fun h27 => ?_)
          · skip
            obtain ⟨s, rfl⟩ : ∃ q : Nat, x = q := ⟨x.toNat, by omega⟩
            have hO := hZ.ok (by omega)
            obtain ⟨q, rfl⟩ : ∃ q : Nat, e = q := ⟨e.toNat, by omega⟩
            obtain ⟨z, rfl⟩ : ∃ q : Nat, v = q := ⟨v.toNat, by omega⟩
            rw [Int.toNat_natCast, Int.toNat_natCast, Int.toNat_natCast]
            obtain ⟨od, ho, hod, ha, hna, hac⟩ := hA
            refine ev_aload_n eX11_length_33 rfl ?_
            refine ev_getr eX11_length_34 fX11_26 rfl ?_
            refine ev_iload_n eX11_length_37 rfl ?_
            refine ev_iload_n eX11_length_38 rfl ?_
            refine ev_cV2 eX11_length_39 ⟨lX11_185, kX0_part⟩ rfl rfl (c_part Bq3 hB hf.1 (s := s) (w := q) (by omega) (by omega)) ?_
            rintro _ _ ⟨rfl, rfl⟩
            refine ev_istore eX11_length_42 (by decide) ?_
            refine ev_aload_n eX11_length_44 rfl ?_
            refine ev_getr eX11_length_45 fX11_39 rfl ?_
            refine ev_aload_n eX11_length_48 rfl ?_
            refine ev_getr eX11_length_49 fX11_26 rfl ?_
            refine ev_cV1 eX11_length_52 ⟨lX11_172, kX6_keepAct⟩ rfl rfl (c_keepAct Bq3 ho hod ha hna) ?_
            rintro _ τ ⟨rfl, g1, g2, g3, g4, g5⟩
            have hB2 : BkC τ 16 B := fun j hj => by rw [g5 16 (by decide) (by decide)]; exact hB j hj
            have hAK := AcC_keep hB hod hna hac g1 g2 g4
            refine ev_aload_n eX11_length_55 rfl ?_
            refine ev_getr eX11_length_56 fX11_26 rfl ?_
            refine ev_iload_n eX11_length_59 rfl ?_
            refine ev_iload_n eX11_length_60 rfl ?_
            refine ev_iload_n eX11_length_61 rfl ?_
            refine ev_cV3 eX11_length_62 ⟨lX11_188, kX0_setPart⟩ rfl rfl (c_setPart Bq3 (s := s) (v := q) (by omega) (by omega)) ?_
            rintro _ _ ⟨rfl, rfl⟩
            refine ev_iload eX11_length_65 rfl ?_
            refine ev_iret eX11_length_67 rfl ?_
            refine ⟨fun hc => ?_, fun hc => ?_⟩ <;> first | (exfalso; omega) | (exact ⟨rfl, BkC_up hB2 (8 + 2 * s + q) z, hAK.of (by rw [up_o _ _ _ (by decide)]) (by rw [up_o _ _ _ (by decide)]) (by rw [up_o _ _ _ (by decide)]), by rw [up_o _ _ _ (by decide)]; exact g3, fun k a1 a2 a3 => by rw [up_o _ _ _ a2]; exact g5 k a1 a3⟩)
          · skip
            refine ev_ldc eX11_length_30 qX11_89 ?_
            refine ev_iret eX11_length_32 rfl ?_
            refine ⟨fun hc => ?_, fun hc => ?_⟩ <;> first | (exfalso; omega) | (exact ⟨rfl, rfl⟩)
set_option maxRecDepth 20000 in
theorem o_become {d : Nat} {σ : St} {B : Bok} (hB : BkC σ 16 B) (hZ : OkZ B) {na : Nat} {Ac : Nat → Bok} (hA : AcC σ na Ac) {x v : Int} (hx : -2147483648 ≤ x ∧ x ≤ 2147483647) (hv : -2147483648 ≤ v ∧ v ≤ 2147483647) : Ct (d + 3) mX11_become [.ref 0, vi x, vi v] σ (fun r τ => (¬ ((0 ≤ x ∧ x < B 2) ∧ 1 ≤ v ∧ v ≤ 5) → some (vi (-1000001)) = r ∧ σ = τ) ∧ (((0 ≤ x ∧ x < B 2) ∧ 1 ≤ v ∧ v ≤ 5) ∧ (bk B x.toNat : Int) = v → some (vi (-1000002)) = r ∧ σ = τ) ∧ (((0 ≤ x ∧ x < B 2) ∧ 1 ≤ v ∧ v ≤ 5) ∧ (bk B x.toNat : Int) ≠ v → some (vi (bk B x.toNat)) = r ∧ BkC τ 16 (upB B (4 + x.toNat) v.toNat) ∧ AcC τ (naN na + 1) (acN na Ac B) ∧ τ 6 4 = σ 6 4 ∧ ∀ k, k ≠ 6 → k ≠ 16 → k ≠ 19 → τ k = σ k)) := by
  refine ct_of hX11_become (Nat.le_of_ble_eq_true rfl) ?_
  have hf := hZ.wf
  have h7 := hf.2.1
  refine ev_aload_n eX11_become_0 rfl ?_
  refine ev_getr eX11_become_1 fX11_26 rfl ?_
  refine ev_iload_n eX11_become_4 rfl ?_
  refine ev_cV1 eX11_become_5 ⟨lX11_162, kX0_hasSort⟩ rfl rfl (c_hasSort Bq3 hB hf.1 (x := x) (by omega)) ?_
  rintro _ _ ⟨rfl, rfl⟩
  refine ev_ifb_eq 21 eX11_become_8 rfl (fun h8 => ?_) (fun h8 => ?_)
  · skip
    refine ev_ldc eX11_become_21 qX11_89 ?_
    refine ev_iret eX11_become_23 rfl ?_
    refine ⟨fun hc => ?_, fun hc => ?_, fun hc => ?_⟩ <;> first | (exfalso; omega) | (exact ⟨rfl, rfl⟩)
  · skip
    refine ev_iload_n eX11_become_11 rfl ?_
    refine ev_iconst eX11_become_12 ?_
    refine ev_icmp_lt 21 eX11_become_13 rfl (by omega) (by omega) (fun h13 => ?_) (fun h13 => ?_)
    · skip
      refine ev_ldc eX11_become_21 qX11_89 ?_
      refine ev_iret eX11_become_23 rfl ?_
      refine ⟨fun hc => ?_, fun hc => ?_, fun hc => ?_⟩ <;> first | (exfalso; omega) | (exact ⟨rfl, rfl⟩)
    · skip
      refine ev_iload_n eX11_become_16 rfl ?_
      refine ev_iconst eX11_become_17 ?_
      refine ev_icmp_le 24 eX11_become_18 rfl (by omega) (by omega) (fun h18 => ?_) (fun h18 => ?_)
      · skip
        obtain ⟨s, rfl⟩ : ∃ q : Nat, x = q := ⟨x.toNat, by omega⟩
        have hO := hZ.ok (by omega)
        obtain ⟨z, rfl⟩ : ∃ q : Nat, v = q := ⟨v.toNat, by omega⟩
        rw [Int.toNat_natCast, Int.toNat_natCast]
        obtain ⟨od, ho, hod, ha, hna, hac⟩ := hA
        refine ev_aload_n eX11_become_24 rfl ?_
        refine ev_getr eX11_become_25 fX11_26 rfl ?_
        refine ev_iload_n eX11_become_28 rfl ?_
        refine ev_cV1 eX11_become_29 ⟨lX11_191, kX0_kindOf⟩ rfl rfl (c_kindOf Bq3 hB hf.1 (s := s) (by omega)) ?_
        rintro _ _ ⟨rfl, rfl⟩
        have hk5 := hf.2.2.2.2.1 s (by omega)
        refine ev_istore_n eX11_become_32 (by decide) ?_
        refine ev_iload_n eX11_become_33 rfl ?_
        refine ev_iload_n eX11_become_34 rfl ?_
        refine ev_icmp_ne 41 eX11_become_35 rfl (by omega) (by omega) (fun h35 => ?_) (fun h35 => ?_)
        · skip
          refine ev_aload_n eX11_become_41 rfl ?_
          refine ev_getr eX11_become_42 fX11_39 rfl ?_
          refine ev_aload_n eX11_become_45 rfl ?_
          refine ev_getr eX11_become_46 fX11_26 rfl ?_
          refine ev_cV1 eX11_become_49 ⟨lX11_172, kX6_keepAct⟩ rfl rfl (c_keepAct Bq3 ho hod ha hna) ?_
          rintro _ τ ⟨rfl, g1, g2, g3, g4, g5⟩
          have hB2 : BkC τ 16 B := fun j hj => by rw [g5 16 (by decide) (by decide)]; exact hB j hj
          have hAK := AcC_keep hB hod hna hac g1 g2 g4
          refine ev_aload_n eX11_become_52 rfl ?_
          refine ev_getr eX11_become_53 fX11_26 rfl ?_
          refine ev_iload_n eX11_become_56 rfl ?_
          refine ev_iload_n eX11_become_57 rfl ?_
          refine ev_cV2 eX11_become_58 ⟨lX11_194, kX0_setKind⟩ rfl rfl (c_setKind Bq3 (s := s) (by omega)) ?_
          rintro _ _ ⟨rfl, rfl⟩
          refine ev_iload_n eX11_become_61 rfl ?_
          refine ev_iret eX11_become_62 rfl ?_
          refine ⟨fun hc => ?_, fun hc => ?_, fun hc => ?_⟩ <;> first | (exfalso; omega) | (exact ⟨rfl, BkC_up hB2 (4 + s) z, hAK.of (by rw [up_o _ _ _ (by decide)]) (by rw [up_o _ _ _ (by decide)]) (by rw [up_o _ _ _ (by decide)]), by rw [up_o _ _ _ (by decide)]; exact g3, fun k a1 a2 a3 => by rw [up_o _ _ _ a2]; exact g5 k a1 a3⟩)
        · skip
          refine ev_ldc eX11_become_38 qX11_158 ?_
          refine ev_iret eX11_become_40 rfl ?_
          refine ⟨fun hc => ?_, fun hc => ?_, fun hc => ?_⟩ <;> first | (exfalso; omega) | (exact ⟨rfl, rfl⟩)
      · skip
        refine ev_ldc eX11_become_21 qX11_89 ?_
        refine ev_iret eX11_become_23 rfl ?_
        refine ⟨fun hc => ?_, fun hc => ?_, fun hc => ?_⟩ <;> first | (exfalso; omega) | (exact ⟨rfl, rfl⟩)
set_option maxRecDepth 20000 in
theorem o_root {d : Nat} {σ : St} {B : Bok} (hB : BkC σ 16 B) (hZ : OkZ B) {na : Nat} {Ac : Nat → Bok} (hA : AcC σ na Ac) {e v : Int} (he : -2147483648 ≤ e ∧ e ≤ 2147483647) (hv : -2147483648 ≤ v ∧ v ≤ 2147483647) : Ct (d + 3) mX11_root [.ref 0, vi e, vi v] σ (fun r τ => (B 2 = 0 → some (vi (-1000002)) = r ∧ σ = τ) ∧ (0 < B 2 ∧ ¬ ((0 ≤ e ∧ e ≤ 1) ∧ e ≤ v ∧ v ≤ (if e = 0 then 3 else 9)) → some (vi (-1000001)) = r ∧ σ = τ) ∧ (0 < B 2 ∧ (0 ≤ e ∧ e ≤ 1) ∧ e ≤ v ∧ v ≤ (if e = 0 then 3 else 9) → some (vi (B (0 + e.toNat))) = r ∧ BkC τ 16 (upB B (0 + e.toNat) v.toNat) ∧ AcC τ (naN na + 1) (acN na Ac B) ∧ τ 6 4 = σ 6 4 ∧ ∀ k, k ≠ 6 → k ≠ 16 → k ≠ 19 → τ k = σ k)) := by
  refine ct_of hX11_root (Nat.le_of_ble_eq_true rfl) ?_
  have hf := hZ.wf
  have h7 := hf.2.1
  refine ev_aload_n eX11_root_0 rfl ?_
  refine ev_getr eX11_root_1 fX11_26 rfl ?_
  refine ev_cV0 eX11_root_4 ⟨lX11_197, kX0_stands⟩ rfl rfl (c_stands Bq3 hB hf.1) ?_
  rintro _ _ ⟨rfl, rfl⟩
  refine ev_ifb_ne 13 eX11_root_7 rfl (fun h7 => ?_) (fun h7 => ?_)
  · skip
    refine ev_iload_n eX11_root_13 rfl ?_
    refine ev_if_lt 38 eX11_root_14 rfl (by omega) (fun h14 => ?_) (fun h14 => ?_)
    · skip
      refine ev_ldc eX11_root_38 qX11_89 ?_
      refine ev_iret eX11_root_40 rfl ?_
      refine ⟨fun hc => ?_, fun hc => ?_, fun hc => ?_⟩ <;> first | (exfalso; omega) | (exact ⟨rfl, rfl⟩)
    · skip
      refine ev_iload_n eX11_root_17 rfl ?_
      refine ev_iconst eX11_root_18 ?_
      refine ev_icmp_gt 38 eX11_root_19 rfl (by omega) (by omega) (fun h19 => ?_) (fun h19 => ?_)
      · skip
        refine ev_ldc eX11_root_38 qX11_89 ?_
        refine ev_iret eX11_root_40 rfl ?_
        refine ⟨fun hc => ?_, fun hc => ?_, fun hc => ?_⟩ <;> first | (exfalso; omega) | (exact ⟨rfl, rfl⟩)
      · skip
        refine ev_iload_n eX11_root_22 rfl ?_
        refine ev_iload_n eX11_root_23 rfl ?_
        obtain ⟨q, rfl⟩ : ∃ q : Nat, e = q := ⟨e.toNat, by omega⟩
        refine ev_cS1 eX11_root_24 ⟨lX11_201, kX0_leastLaw⟩ rfl (c_leastLaw (s := q) (by omega)) ?_
        rintro _ _ ⟨rfl, rfl⟩
        refine ev_icmp_lt 38 eX11_root_27 rfl (by omega) (by omega) (fun h27 => ?_) (fun h27 => ?_)
        · skip
          refine ev_ldc eX11_root_38 qX11_89 ?_
          refine ev_iret eX11_root_40 rfl ?_
          refine ⟨fun hc => ?_, fun hc => ?_, fun hc => ?_⟩ <;> first | (exfalso; omega) | (exact ⟨rfl, rfl⟩)
        · skip
          refine ev_iload_n eX11_root_30 rfl ?_
          refine ev_iload_n eX11_root_31 rfl ?_
          refine ev_cS1 eX11_root_32 ⟨lX11_204, kX0_mostLaw⟩ rfl (c_mostLaw (s := q) (by omega)) ?_
          rintro _ _ ⟨rfl, rfl⟩
          have hml : ((if q = 0 then 3 else 9 : Nat) : Int) = (if (q : Int) = 0 then 3 else 9) := by split <;> split <;> first | rfl | (exfalso; omega)
          have hml2 : ((if q = 0 then 3 else 9 : Nat) : Int) ≤ 9 := by split <;> omega
          have hml3 : 3 ≤ ((if q = 0 then 3 else 9 : Nat) : Int) := by split <;> omega
          refine ev_icmp_le 41 eX11_root_35 rfl (by omega) (by omega) (fun h35 => ?_) (fun h35 => ?_)
          · skip
            obtain ⟨z, rfl⟩ : ∃ q : Nat, v = q := ⟨v.toNat, by omega⟩
            rw [Int.toNat_natCast, Int.toNat_natCast]
            obtain ⟨od, ho, hod, ha, hna, hac⟩ := hA
            refine ev_aload_n eX11_root_41 rfl ?_
            refine ev_getr eX11_root_42 fX11_26 rfl ?_
            refine ev_iload_n eX11_root_45 rfl ?_
            refine ev_cV1 eX11_root_46 ⟨lX11_207, kX0_law⟩ rfl rfl (c_law Bq3 hB hf.1 (s := q) (by omega)) ?_
            rintro _ _ ⟨rfl, rfl⟩
            refine ev_istore_n eX11_root_49 (by decide) ?_
            refine ev_aload_n eX11_root_50 rfl ?_
            refine ev_getr eX11_root_51 fX11_39 rfl ?_
            refine ev_aload_n eX11_root_54 rfl ?_
            refine ev_getr eX11_root_55 fX11_26 rfl ?_
            refine ev_cV1 eX11_root_58 ⟨lX11_172, kX6_keepAct⟩ rfl rfl (c_keepAct Bq3 ho hod ha hna) ?_
            rintro _ τ ⟨rfl, g1, g2, g3, g4, g5⟩
            have hB2 : BkC τ 16 B := fun j hj => by rw [g5 16 (by decide) (by decide)]; exact hB j hj
            have hAK := AcC_keep hB hod hna hac g1 g2 g4
            refine ev_aload_n eX11_root_61 rfl ?_
            refine ev_getr eX11_root_62 fX11_26 rfl ?_
            refine ev_iload_n eX11_root_65 rfl ?_
            refine ev_iload_n eX11_root_66 rfl ?_
            refine ev_cV2 eX11_root_67 ⟨lX11_210, kX0_setLaw⟩ rfl rfl (c_setLaw Bq3 (s := q) (by omega)) ?_
            rintro _ _ ⟨rfl, rfl⟩
            refine ev_iload_n eX11_root_70 rfl ?_
            refine ev_iret eX11_root_71 rfl ?_
            refine ⟨fun hc => ?_, fun hc => ?_, fun hc => ?_⟩ <;> first | (exfalso; omega) | (exact ⟨rfl, BkC_up hB2 (0 + q) z, hAK.of (by rw [up_o _ _ _ (by decide)]) (by rw [up_o _ _ _ (by decide)]) (by rw [up_o _ _ _ (by decide)]), by rw [up_o _ _ _ (by decide)]; exact g3, fun k a1 a2 a3 => by rw [up_o _ _ _ a2]; exact g5 k a1 a3⟩)
          · skip
            refine ev_ldc eX11_root_38 qX11_89 ?_
            refine ev_iret eX11_root_40 rfl ?_
            refine ⟨fun hc => ?_, fun hc => ?_, fun hc => ?_⟩ <;> first | (exfalso; omega) | (exact ⟨rfl, rfl⟩)
  · skip
    refine ev_ldc eX11_root_10 qX11_158 ?_
    refine ev_iret eX11_root_12 rfl ?_
    refine ⟨fun hc => ?_, fun hc => ?_, fun hc => ?_⟩ <;> first | (exfalso; omega) | (exact ⟨rfl, rfl⟩)
