/-! InflatedRows: word, begin, inflate, images, count -/
def wdB (B : Bok) (s n : Nat) (l : Nat → Nat) : Bok := fun j => if j = 16 + s then n else if 20 + 4 * s ≤ j ∧ j < 20 + 4 * s + n then l (j - (20 + 4 * s)) else B j
def rwB (B : Bok) (n : Nat) (l : Nat → Nat) : Bok := fun j => if j = 3 then n else if 36 ≤ j ∧ j < 36 + n then l (j - 36) else B j
theorem wdB_0 {σ : St} {B : Bok} {s : Nat} (l : Nat → Nat) (hB : BkC σ 16 B) : BkC (up σ 16 (16 + s) 0) 16 (wdB B s 0 l) := by
  intro j hj
  unfold wdB
  by_cases e : j = 16 + s
  · subst e; rw [up_s, if_pos rfl]; rfl
  · rw [up_n _ _ e, if_neg e, if_neg (by omega)]; exact hB j hj
theorem wdB_s {σ : St} {B : Bok} {s n : Nat} {l : Nat → Nat} (hs : s < 4) (hn : n < 4) (hB : BkC σ 16 (wdB B s n l)) : BkC (up (up σ 16 (20 + 4 * s + n) (l n : Int)) 16 (16 + s) ((n : Int) + 1)) 16 (wdB B s (n + 1) l) := by
  intro j hj
  have h := hB j hj
  unfold wdB at h ⊢
  by_cases e : j = 16 + s
  · subst e; rw [up_s, if_pos rfl]; push_cast; rfl
  · rw [up_n _ _ e, if_neg e]
    rw [if_neg e] at h
    by_cases e2 : j = 20 + 4 * s + n
    · subst e2
      rw [up_s, if_pos (by omega), show 20 + 4 * s + n - (20 + 4 * s) = n by omega]
    · rw [up_n _ _ e2, h]
      by_cases e3 : 20 + 4 * s ≤ j ∧ j < 20 + 4 * s + n
      · rw [if_pos e3, if_pos (by omega)]
      · rw [if_neg e3, if_neg (by omega)]
theorem rwB_0 {σ : St} {B : Bok} (l : Nat → Nat) (hB : BkC σ 16 B) : BkC (up σ 16 3 0) 16 (rwB B 0 l) := by
  intro j hj
  unfold rwB
  by_cases e : j = 3
  · subst e; rw [up_s, if_pos rfl]; rfl
  · rw [up_n _ _ e, if_neg e, if_neg (by omega)]; exact hB j hj
theorem rwB_s {σ : St} {B : Bok} {n : Nat} {l : Nat → Nat} (hn : n < 8) (hB : BkC σ 16 (rwB B n l)) : BkC (up (up σ 16 (36 + n) (l n : Int)) 16 3 ((n : Int) + 1)) 16 (rwB B (n + 1) l) := by
  intro j hj
  have h := hB j hj
  unfold rwB at h ⊢
  by_cases e : j = 3
  · subst e; rw [up_s, if_pos rfl]; push_cast; rfl
  · rw [up_n _ _ e, if_neg e]
    rw [if_neg e] at h
    by_cases e2 : j = 36 + n
    · subst e2
      rw [up_s, if_pos (by omega), show 36 + n - 36 = n by omega]
    · rw [up_n _ _ e2, h]
      by_cases e3 : 36 ≤ j ∧ j < 36 + n
      · rw [if_pos e3, if_pos (by omega)]
      · rw [if_neg e3, if_neg (by omega)]
theorem rwB_3 (B : Bok) (n : Nat) (l : Nat → Nat) : rwB B n l 3 = n := if_pos rfl
theorem wdB_z (B : Bok) (s n : Nat) (l : Nat → Nat) : wdB B s n l (16 + s) = n := if_pos rfl
/-- the letters of a row -/
def lts (it : Nat → Int) (q : Nat) : Nat → Nat := fun i => (it (q * 40 + i)).toNat
set_option maxRecDepth 20000 in
theorem c_word_l {d : Nat} {B : Bok} {it : Nat → Int} {s q n : Nat} {ρ : St} (hs : s < 4) (hq : q < 8) (hn : n ≤ 4) (hit : (∀ i, i < n → ρ 12 (q * 40 + i) = (lts it q i : Int))) {u4 : Value} {u5 : Int} {post : Option Value → St → Prop} (hk : ∀ τ : St, BkC τ 16 (wdB B s n (lts it q)) → (∀ k, k ≠ 16 → τ k = ρ k) → Ev (d + 2) mX11_word 113 [.ref 0, vi s, vi q, vi n, u4, vi u5, vi n] [] τ post) : ∀ (fu : Nat) {i : Nat} {τ : St}, n - i < fu → i ≤ n → BkC τ 16 (wdB B s i (lts it q)) → (∀ k, k ≠ 16 → τ k = ρ k) → Ev (d + 2) mX11_word 83 [.ref 0, vi s, vi q, vi n, u4, vi u5, vi i] [] τ (post) := by
  intro fu
  induction fu with
  | zero => intros; omega
  | succ fu ih =>
    intro i τ hm h1 h2 h3
    refine ev_iload eX11_word_83 rfl ?_
    refine ev_iload_n eX11_word_85 rfl ?_
    refine ev_icmp_ge 113 eX11_word_86 rfl (by omega) (by omega) (fun h86 => ?_) (fun h86 => ?_)
    · skip
      obtain rfl : i = n := by omega
      exact hk τ h2 h3
    · skip
      refine ev_aload_n eX11_word_89 rfl ?_
      refine ev_getr eX11_word_90 fX11_26 rfl ?_
      refine ev_iload_n eX11_word_93 rfl ?_
      refine ev_aload_n eX11_word_94 rfl ?_
      refine ev_getr eX11_word_95 fX11_10 rfl ?_
      refine ev_iload_n eX11_word_98 rfl ?_
      refine ev_iload eX11_word_99 rfl ?_
      refine ev_cV2 eX11_word_101 ⟨lX11_178, kX8_item⟩ rfl rfl (c_item (r := q) (i := i) hq (by omega)) ?_
      rintro _ _ ⟨rfl, rfl⟩
      rw [h3 12 (by decide), hit i (by omega)]
      refine ev_cV2 eX11_word_104 ⟨lX11_181, kX0_addToWord⟩ rfl rfl (c_addToWord Bq3 (s := s) (z := i) hs (show τ (3 + 13) (16 + s) = (i : Int) by rw [h2 _ (by omega), wdB_z]) (by omega)) ?_
      rintro _ _ ⟨rfl, rfl⟩
      refine ev_iinc eX11_word_107 rfl (by decide) ?_
      refine ev_goto 83 eX11_word_110 rfl ?_
      exact ih (i := i + 1) (by omega) (by omega) (wdB_s hs (by omega) h2) (fun k hk => by rw [up_o _ _ _ hk, up_o _ _ _ hk]; exact h3 k hk)
set_option maxRecDepth 20000 in
theorem c_begin_l {d : Nat} {B : Bok} {it : Nat → Int} {q n : Nat} {ρ : St} (hq : q < 8) (hn : n ≤ 8) (hit : (∀ i, i < n → ρ 12 (q * 40 + i) = (lts it q i : Int))) {u4 : Value} {u5 : Int} {post : Option Value → St → Prop} (hk : ∀ τ : St, BkC τ 16 (rwB B n (lts it q)) → (∀ k, k ≠ 16 → τ k = ρ k) → Ev (d + 2) mX11_begin 110 [.ref 0, vi q, vi n, u4, vi u5, vi n] [] τ post) : ∀ (fu : Nat) {i : Nat} {τ : St}, n - i < fu → i ≤ n → BkC τ 16 (rwB B i (lts it q)) → (∀ k, k ≠ 16 → τ k = ρ k) → Ev (d + 2) mX11_begin 81 [.ref 0, vi q, vi n, u4, vi u5, vi i] [] τ (post) := by
  intro fu
  induction fu with
  | zero => intros; omega
  | succ fu ih =>
    intro i τ hm h1 h2 h3
    refine ev_iload eX11_begin_81 rfl ?_
    refine ev_iload_n eX11_begin_83 rfl ?_
    refine ev_icmp_ge 110 eX11_begin_84 rfl (by omega) (by omega) (fun h84 => ?_) (fun h84 => ?_)
    · skip
      obtain rfl : i = n := by omega
      exact hk τ h2 h3
    · skip
      refine ev_aload_n eX11_begin_87 rfl ?_
      refine ev_getr eX11_begin_88 fX11_26 rfl ?_
      refine ev_aload_n eX11_begin_91 rfl ?_
      refine ev_getr eX11_begin_92 fX11_10 rfl ?_
      refine ev_iload_n eX11_begin_95 rfl ?_
      refine ev_iload eX11_begin_96 rfl ?_
      refine ev_cV2 eX11_begin_98 ⟨lX11_178, kX8_item⟩ rfl rfl (c_item (r := q) (i := i) hq (by omega)) ?_
      rintro _ _ ⟨rfl, rfl⟩
      rw [h3 12 (by decide), hit i (by omega)]
      refine ev_cV1 eX11_begin_101 ⟨lX11_219, kX0_addToRow⟩ rfl rfl (c_addToRow Bq3 (z := i) (show τ (3 + 13) 3 = (i : Int) by rw [h2 _ (by omega), rwB_3]) (by omega)) ?_
      rintro _ _ ⟨rfl, rfl⟩
      refine ev_iinc eX11_begin_104 rfl (by decide) ?_
      refine ev_goto 81 eX11_begin_107 rfl ?_
      exact ih (i := i + 1) (by omega) (by omega) (rwB_s (by omega) h2) (fun k hk => by rw [up_o _ _ _ hk, up_o _ _ _ hk]; exact h3 k hk)
set_option maxRecDepth 20000 in
theorem o_word {d : Nat} {σ : St} {B : Bok} (hB : BkC σ 16 B) (hZ : OkZ B) {la : Nat → Int} {sz : Nat → Nat} {it : Nat → Int} (hW : RwsC σ la sz it) {na : Nat} {Ac : Nat → Bok} (hA : AcC σ na Ac) {x y n : Int} (hx : -2147483648 ≤ x ∧ x ≤ 2147483647) (hy : -2147483648 ≤ y ∧ y ≤ 2147483647) (hn : -2147483648 ≤ n ∧ n ≤ 2147483647) : Ct (d + 4) mX11_word [.ref 0, vi x, vi y, vi n] σ (fun r τ => (¬ ((0 ≤ x ∧ x < B 2) ∧ (0 ≤ y ∧ y < 8) ∧ 1 ≤ n ∧ n ≤ 4) → some (vi (-1000001)) = r ∧ σ = τ) ∧ (((0 ≤ x ∧ x < B 2) ∧ (0 ≤ y ∧ y < 8) ∧ 1 ≤ n ∧ n ≤ 4) ∧ lfn la sz it B y.toNat n.toNat ≠ 0 → some (vi (-1000010 - lfn la sz it B y.toNat n.toNat)) = r ∧ up σ 0 12 (lfn la sz it B y.toNat n.toNat) = τ) ∧ (((0 ≤ x ∧ x < B 2) ∧ (0 ≤ y ∧ y < 8) ∧ 1 ≤ n ∧ n ≤ 4) ∧ lfn la sz it B y.toNat n.toNat = 0 → some (vi (ws B x.toNat)) = r ∧ BkC τ 16 (wdB B x.toNat n.toNat (lts it y.toNat)) ∧ AcC τ (naN na + 1) (acN na Ac B) ∧ τ 6 4 = σ 6 4 ∧ τ 0 11 = σ 0 11 ∧ τ 0 12 = 0 ∧ ∀ k, k ≠ 0 → k ≠ 6 → k ≠ 16 → k ≠ 19 → τ k = σ k)) := by
  refine ct_of hX11_word (Nat.le_of_ble_eq_true rfl) ?_
  have hf := hZ.wf
  have h7 := hf.2.1
  refine ev_aload_n eX11_word_0 rfl ?_
  refine ev_getr eX11_word_1 fX11_26 rfl ?_
  refine ev_iload_n eX11_word_4 rfl ?_
  refine ev_cV1 eX11_word_5 ⟨lX11_162, kX0_hasSort⟩ rfl rfl (c_hasSort Bq3 hB hf.1 (x := x) (by omega)) ?_
  rintro _ _ ⟨rfl, rfl⟩
  refine ev_ifb_eq 28 eX11_word_8 rfl (fun h8 => ?_) (fun h8 => ?_)
  · skip
    refine ev_ldc eX11_word_28 qX11_89 ?_
    refine ev_iret eX11_word_30 rfl ?_
    refine ⟨fun hc => ?_, fun hc => ?_, fun hc => ?_⟩ <;> first | (exfalso; omega) | (exact ⟨rfl, rfl⟩)
  · skip
    refine ev_iload_n eX11_word_11 rfl ?_
    refine ev_cS1 eX11_word_12 ⟨lX11_85, kX8_isRow⟩ rfl (c_isRow (x := y) (by omega)) ?_
    rintro _ _ ⟨rfl, rfl⟩
    refine ev_ifb_eq 28 eX11_word_15 rfl (fun h15 => ?_) (fun h15 => ?_)
    · skip
      refine ev_ldc eX11_word_28 qX11_89 ?_
      refine ev_iret eX11_word_30 rfl ?_
      refine ⟨fun hc => ?_, fun hc => ?_, fun hc => ?_⟩ <;> first | (exfalso; omega) | (exact ⟨rfl, rfl⟩)
    · skip
      refine ev_iload_n eX11_word_18 rfl ?_
      refine ev_iconst eX11_word_19 ?_
      refine ev_icmp_lt 28 eX11_word_20 rfl (by omega) (by omega) (fun h20 => ?_) (fun h20 => ?_)
      · skip
        refine ev_ldc eX11_word_28 qX11_89 ?_
        refine ev_iret eX11_word_30 rfl ?_
        refine ⟨fun hc => ?_, fun hc => ?_, fun hc => ?_⟩ <;> first | (exfalso; omega) | (exact ⟨rfl, rfl⟩)
      · skip
        refine ev_iload_n eX11_word_23 rfl ?_
        refine ev_iconst eX11_word_24 ?_
        refine ev_icmp_le 31 eX11_word_25 rfl (by omega) (by omega) (fun h25 => ?_) (fun h25 => ?_)
        · skip
          obtain ⟨s, rfl⟩ : ∃ q : Nat, x = q := ⟨x.toNat, by omega⟩
          have hO := hZ.ok (by omega)
          obtain ⟨q, rfl⟩ : ∃ q : Nat, y = q := ⟨y.toNat, by omega⟩
          obtain ⟨z, rfl⟩ : ∃ q : Nat, n = q := ⟨n.toNat, by omega⟩
          rw [Int.toNat_natCast, Int.toNat_natCast, Int.toNat_natCast]
          obtain ⟨od, ho, hod, ha, hna, hac⟩ := hA
          refine ev_aload_n eX11_word_31 rfl ?_
          refine ev_iload_n eX11_word_32 rfl ?_
          refine ev_iload_n eX11_word_33 rfl ?_
          refine ev_cV2 eX11_word_34 ⟨lX11_165, kX11_lettersFinding⟩ rfl rfl (c_lfd hB hZ hW (q := q) (n := z) (by omega) (by omega)) ?_
          rintro _ _ ⟨rfl, rfl⟩
          have hlr : 0 ≤ lfn la sz it B q z ∧ lfn la sz it B q z ≤ 2 := by
            rcases lfn_c la sz it B q z with ⟨z1, z2⟩ | ⟨z1, z2, z3⟩ | ⟨z1, z2, z3⟩ <;> omega
          refine ev_istore eX11_word_37 (by decide) ?_
          refine ev_iload eX11_word_39 rfl ?_
          refine ev_if_eq 51 eX11_word_41 rfl (by omega) (fun h41 => ?_) (fun h41 => ?_)
          · skip
            have hLt : la q ≠ -1 ∧ LtP sz it B q z := by
              rcases lfn_c la sz it B q z with ⟨z1, z2⟩ | ⟨z1, z2, z3⟩ | ⟨z1, z2, z3⟩
              · omega
              · exact ⟨z1, z2⟩
              · omega
            obtain ⟨k1, k2, k3, k4, k5⟩ := hW q (by omega)
            obtain ⟨k6, k7⟩ := k5 hLt.1
            have hit : ∀ i, i < z → σ 12 (q * 40 + i) = (lts it q i : Int) := fun i hi => by
              rw [(k7 i (by have := hLt.2.1; omega)).1]
              have := hLt.2.2 i hi
              unfold lts
              omega
            refine ev_aload_n eX11_word_51 rfl ?_
            refine ev_getr eX11_word_52 fX11_26 rfl ?_
            refine ev_iload_n eX11_word_55 rfl ?_
            refine ev_cV1 eX11_word_56 ⟨lX11_169, kX0_wordSize⟩ rfl rfl (c_wordSize Bq3 hB hf.1 (s := s) (by omega)) ?_
            rintro _ _ ⟨rfl, rfl⟩
            refine ev_istore eX11_word_59 (by decide) ?_
            refine ev_aload_n eX11_word_61 rfl ?_
            refine ev_getr eX11_word_62 fX11_39 rfl ?_
            refine ev_aload_n eX11_word_65 rfl ?_
            refine ev_getr eX11_word_66 fX11_26 rfl ?_
            refine ev_cV1 eX11_word_69 ⟨lX11_172, kX6_keepAct⟩ rfl rfl (c_keepAct Bq3 ho hod ha hna) ?_
            rintro _ τ ⟨rfl, g1, g2, g3, g4, g5⟩
            have hB2 : BkC τ 16 B := fun j hj => by rw [g5 16 (by decide) (by decide)]; exact hB j hj
            have hAK := AcC_keep hB hod hna hac g1 g2 g4
            refine ev_aload_n eX11_word_72 rfl ?_
            refine ev_getr eX11_word_73 fX11_26 rfl ?_
            refine ev_iload_n eX11_word_76 rfl ?_
            refine ev_cV1 eX11_word_77 ⟨lX11_175, kX0_clearWord⟩ rfl rfl (c_clearWord Bq3 (s := s) (by omega)) ?_
            rintro _ _ ⟨rfl, rfl⟩
            refine ev_iconst eX11_word_80 ?_
            refine ev_istore eX11_word_81 (by decide) ?_
            refine c_word_l (ρ := up τ 16 (16 + s) 0) (s := s) (q := q) (n := z) (by omega) (by omega) (by omega) (fun i hi => by rw [up_o _ _ _ (by decide), g5 12 (by decide) (by decide)]; exact hit i hi) (fun ξ f1 f2 => ?_) 5 (i := 0) (by omega) (by omega) (wdB_0 _ hB2) (fun k _ => rfl)
            refine ev_aload_n eX11_word_113 rfl ?_
            refine ev_iload eX11_word_114 rfl ?_
            refine ev_cV1 eX11_word_116 ⟨lX11_98, kX11_unfound⟩ rfl rfl c_unfound ?_
            rintro _ _ ⟨rfl, rfl⟩
            refine ev_iret eX11_word_119 rfl ?_
            refine ⟨fun hc => ?_, fun hc => ?_, fun hc => ?_⟩ <;> first | (exfalso; omega) | skip
            exact ⟨rfl, fun j hj => by rw [up_o _ _ _ (by decide)]; exact f1 j hj, hAK.of (by rw [up_o _ _ _ (by decide), f2 _ (by decide), up_o _ _ _ (by decide)]) (by rw [up_o _ _ _ (by decide), f2 _ (by decide), up_o _ _ _ (by decide)]) (by rw [up_o _ _ _ (by decide), f2 _ (by decide), up_o _ _ _ (by decide)]), by rw [up_o _ _ _ (by decide), f2 _ (by decide), up_o _ _ _ (by decide)]; exact g3, by rw [up_n _ _ (by decide), f2 _ (by decide), up_o _ _ _ (by decide), g5 0 (by decide) (by decide)], up_s _ _ _ _, fun k a0 a1 a2 a3 => by rw [up_o _ _ _ a0, f2 k a2, up_o _ _ _ a2]; exact g5 k a1 a3⟩
          · skip
            refine ev_aload_n eX11_word_44 rfl ?_
            refine ev_iload eX11_word_45 rfl ?_
            refine ev_cV1 eX11_word_47 ⟨lX11_90, kX11_found⟩ rfl rfl c_found ?_
            rintro _ _ ⟨rfl, rfl⟩
            refine ev_iret eX11_word_50 rfl ?_
            refine ⟨fun hc => ?_, fun hc => ?_, fun hc => ?_⟩ <;> first | (exfalso; omega) | (exact ⟨rfl, rfl⟩)
        · skip
          refine ev_ldc eX11_word_28 qX11_89 ?_
          refine ev_iret eX11_word_30 rfl ?_
          refine ⟨fun hc => ?_, fun hc => ?_, fun hc => ?_⟩ <;> first | (exfalso; omega) | (exact ⟨rfl, rfl⟩)
set_option maxRecDepth 20000 in
theorem o_begin {d : Nat} {σ : St} {B : Bok} (hB : BkC σ 16 B) (hZ : OkZ B) {la : Nat → Int} {sz : Nat → Nat} {it : Nat → Int} (hW : RwsC σ la sz it) {na : Nat} {Ac : Nat → Bok} (hA : AcC σ na Ac) {y n : Int} (hy : -2147483648 ≤ y ∧ y ≤ 2147483647) (hn : -2147483648 ≤ n ∧ n ≤ 2147483647) : Ct (d + 4) mX11_begin [.ref 0, vi y, vi n] σ (fun r τ => (B 2 = 0 → some (vi (-1000002)) = r ∧ σ = τ) ∧ (0 < B 2 ∧ ¬ ((0 ≤ y ∧ y < 8) ∧ 1 ≤ n ∧ n ≤ 8) → some (vi (-1000001)) = r ∧ σ = τ) ∧ ((0 < B 2 ∧ (0 ≤ y ∧ y < 8) ∧ 1 ≤ n ∧ n ≤ 8) ∧ lfn la sz it B y.toNat n.toNat ≠ 0 → some (vi (-1000010 - lfn la sz it B y.toNat n.toNat)) = r ∧ up σ 0 12 (lfn la sz it B y.toNat n.toNat) = τ) ∧ ((0 < B 2 ∧ (0 ≤ y ∧ y < 8) ∧ 1 ≤ n ∧ n ≤ 8) ∧ lfn la sz it B y.toNat n.toNat = 0 → some (vi (B 3)) = r ∧ BkC τ 16 (rwB B n.toNat (lts it y.toNat)) ∧ AcC τ (naN na + 1) (acN na Ac B) ∧ τ 6 4 = σ 6 4 ∧ τ 0 11 = σ 0 11 ∧ τ 0 12 = 0 ∧ ∀ k, k ≠ 0 → k ≠ 6 → k ≠ 16 → k ≠ 19 → τ k = σ k)) := by
  refine ct_of hX11_begin (Nat.le_of_ble_eq_true rfl) ?_
  have hf := hZ.wf
  have h7 := hf.2.1
  refine ev_aload_n eX11_begin_0 rfl ?_
  refine ev_getr eX11_begin_1 fX11_26 rfl ?_
  refine ev_cV0 eX11_begin_4 ⟨lX11_197, kX0_stands⟩ rfl rfl (c_stands Bq3 hB hf.1) ?_
  rintro _ _ ⟨rfl, rfl⟩
  refine ev_ifb_ne 13 eX11_begin_7 rfl (fun h7 => ?_) (fun h7 => ?_)
  · skip
    refine ev_iload_n eX11_begin_13 rfl ?_
    refine ev_cS1 eX11_begin_14 ⟨lX11_85, kX8_isRow⟩ rfl (c_isRow (x := y) (by omega)) ?_
    rintro _ _ ⟨rfl, rfl⟩
    refine ev_ifb_eq 31 eX11_begin_17 rfl (fun h17 => ?_) (fun h17 => ?_)
    · skip
      refine ev_ldc eX11_begin_31 qX11_89 ?_
      refine ev_iret eX11_begin_33 rfl ?_
      refine ⟨fun hc => ?_, fun hc => ?_, fun hc => ?_, fun hc => ?_⟩ <;> first | (exfalso; omega) | (exact ⟨rfl, rfl⟩)
    · skip
      refine ev_iload_n eX11_begin_20 rfl ?_
      refine ev_iconst eX11_begin_21 ?_
      refine ev_icmp_lt 31 eX11_begin_22 rfl (by omega) (by omega) (fun h22 => ?_) (fun h22 => ?_)
      · skip
        refine ev_ldc eX11_begin_31 qX11_89 ?_
        refine ev_iret eX11_begin_33 rfl ?_
        refine ⟨fun hc => ?_, fun hc => ?_, fun hc => ?_, fun hc => ?_⟩ <;> first | (exfalso; omega) | (exact ⟨rfl, rfl⟩)
      · skip
        refine ev_iload_n eX11_begin_25 rfl ?_
        refine ev_bipush eX11_begin_26 rfl ?_
        refine ev_icmp_le 34 eX11_begin_28 rfl (by omega) (by omega) (fun h28 => ?_) (fun h28 => ?_)
        · skip
          obtain ⟨q, rfl⟩ : ∃ q : Nat, y = q := ⟨y.toNat, by omega⟩
          obtain ⟨z, rfl⟩ : ∃ q : Nat, n = q := ⟨n.toNat, by omega⟩
          rw [Int.toNat_natCast, Int.toNat_natCast]
          obtain ⟨od, ho, hod, ha, hna, hac⟩ := hA
          refine ev_aload_n eX11_begin_34 rfl ?_
          refine ev_iload_n eX11_begin_35 rfl ?_
          refine ev_iload_n eX11_begin_36 rfl ?_
          refine ev_cV2 eX11_begin_37 ⟨lX11_165, kX11_lettersFinding⟩ rfl rfl (c_lfd hB hZ hW (q := q) (n := z) (by omega) (by omega)) ?_
          rintro _ _ ⟨rfl, rfl⟩
          have hlr : 0 ≤ lfn la sz it B q z ∧ lfn la sz it B q z ≤ 2 := by
            rcases lfn_c la sz it B q z with ⟨z1, z2⟩ | ⟨z1, z2, z3⟩ | ⟨z1, z2, z3⟩ <;> omega
          refine ev_istore_n eX11_begin_40 (by decide) ?_
          refine ev_iload_n eX11_begin_41 rfl ?_
          refine ev_if_eq 51 eX11_begin_42 rfl (by omega) (fun h42 => ?_) (fun h42 => ?_)
          · skip
            have hLt : la q ≠ -1 ∧ LtP sz it B q z := by
              rcases lfn_c la sz it B q z with ⟨z1, z2⟩ | ⟨z1, z2, z3⟩ | ⟨z1, z2, z3⟩
              · omega
              · exact ⟨z1, z2⟩
              · omega
            obtain ⟨k1, k2, k3, k4, k5⟩ := hW q (by omega)
            obtain ⟨k6, k7⟩ := k5 hLt.1
            have hit : ∀ i, i < z → σ 12 (q * 40 + i) = (lts it q i : Int) := fun i hi => by
              rw [(k7 i (by have := hLt.2.1; omega)).1]
              have := hLt.2.2 i hi
              unfold lts
              omega
            refine ev_aload_n eX11_begin_51 rfl ?_
            refine ev_getr eX11_begin_52 fX11_26 rfl ?_
            refine ev_cV0 eX11_begin_55 ⟨lX11_213, kX0_rowSize⟩ rfl rfl (c_rowSize Bq3 hB hf.1) ?_
            rintro _ _ ⟨rfl, rfl⟩
            refine ev_istore eX11_begin_58 (by decide) ?_
            refine ev_aload_n eX11_begin_60 rfl ?_
            refine ev_getr eX11_begin_61 fX11_39 rfl ?_
            refine ev_aload_n eX11_begin_64 rfl ?_
            refine ev_getr eX11_begin_65 fX11_26 rfl ?_
            refine ev_cV1 eX11_begin_68 ⟨lX11_172, kX6_keepAct⟩ rfl rfl (c_keepAct Bq3 ho hod ha hna) ?_
            rintro _ τ ⟨rfl, g1, g2, g3, g4, g5⟩
            have hB2 : BkC τ 16 B := fun j hj => by rw [g5 16 (by decide) (by decide)]; exact hB j hj
            have hAK := AcC_keep hB hod hna hac g1 g2 g4
            refine ev_aload_n eX11_begin_71 rfl ?_
            refine ev_getr eX11_begin_72 fX11_26 rfl ?_
            refine ev_cV0 eX11_begin_75 ⟨lX11_216, kX0_clearRow⟩ rfl rfl (c_clearRow Bq3) ?_
            rintro _ _ ⟨rfl, rfl⟩
            refine ev_iconst eX11_begin_78 ?_
            refine ev_istore eX11_begin_79 (by decide) ?_
            refine c_begin_l (ρ := up τ 16 3 0) (q := q) (n := z) (by omega) (by omega) (fun i hi => by rw [up_o _ _ _ (by decide), g5 12 (by decide) (by decide)]; exact hit i hi) (fun ξ f1 f2 => ?_) 9 (i := 0) (by omega) (by omega) (rwB_0 _ hB2) (fun k _ => rfl)
            refine ev_aload_n eX11_begin_110 rfl ?_
            refine ev_iload eX11_begin_111 rfl ?_
            refine ev_cV1 eX11_begin_113 ⟨lX11_98, kX11_unfound⟩ rfl rfl c_unfound ?_
            rintro _ _ ⟨rfl, rfl⟩
            refine ev_iret eX11_begin_116 rfl ?_
            refine ⟨fun hc => ?_, fun hc => ?_, fun hc => ?_, fun hc => ?_⟩ <;> first | (exfalso; omega) | skip
            exact ⟨rfl, fun j hj => by rw [up_o _ _ _ (by decide)]; exact f1 j hj, hAK.of (by rw [up_o _ _ _ (by decide), f2 _ (by decide), up_o _ _ _ (by decide)]) (by rw [up_o _ _ _ (by decide), f2 _ (by decide), up_o _ _ _ (by decide)]) (by rw [up_o _ _ _ (by decide), f2 _ (by decide), up_o _ _ _ (by decide)]), by rw [up_o _ _ _ (by decide), f2 _ (by decide), up_o _ _ _ (by decide)]; exact g3, by rw [up_n _ _ (by decide), f2 _ (by decide), up_o _ _ _ (by decide), g5 0 (by decide) (by decide)], up_s _ _ _ _, fun k a0 a1 a2 a3 => by rw [up_o _ _ _ a0, f2 k a2, up_o _ _ _ a2]; exact g5 k a1 a3⟩
          · skip
            refine ev_aload_n eX11_begin_45 rfl ?_
            refine ev_iload_n eX11_begin_46 rfl ?_
            refine ev_cV1 eX11_begin_47 ⟨lX11_90, kX11_found⟩ rfl rfl c_found ?_
            rintro _ _ ⟨rfl, rfl⟩
            refine ev_iret eX11_begin_50 rfl ?_
            refine ⟨fun hc => ?_, fun hc => ?_, fun hc => ?_, fun hc => ?_⟩ <;> first | (exfalso; omega) | (exact ⟨rfl, rfl⟩)
        · skip
          refine ev_ldc eX11_begin_31 qX11_89 ?_
          refine ev_iret eX11_begin_33 rfl ?_
          refine ⟨fun hc => ?_, fun hc => ?_, fun hc => ?_, fun hc => ?_⟩ <;> first | (exfalso; omega) | (exact ⟨rfl, rfl⟩)
  · skip
    refine ev_ldc eX11_begin_10 qX11_158 ?_
    refine ev_iret eX11_begin_12 rfl ?_
    refine ⟨fun hc => ?_, fun hc => ?_, fun hc => ?_, fun hc => ?_⟩ <;> first | (exfalso; omega) | (exact ⟨rfl, rfl⟩)
set_option maxRecDepth 20000 in
theorem c_infl_l {d : Nat} {B : Bok} {l : Nat → Nat} {n : Nat} {ρ : St} (hn : n ≤ 8) (hz : ρ 23 1 = (n : Int)) (hit : ∀ i, i < n → ρ 25 i = (l i : Int)) {post : Option Value → St → Prop} (hk : ∀ τ : St, BkC τ 16 (rwB B n l) → (∀ k, k ≠ 16 → τ k = ρ k) → Ev (d + 2) mX11_inflate 98 [.ref 0, vi n] [] τ post) : ∀ (fu : Nat) {i : Nat} {τ : St}, n - i < fu → i ≤ n → BkC τ 16 (rwB B i l) → (∀ k, k ≠ 16 → τ k = ρ k) → Ev (d + 2) mX11_inflate 64 [.ref 0, vi i] [] τ (post) := by
  intro fu
  induction fu with
  | zero => intros; omega
  | succ fu ih =>
    intro i τ hm h1 h2 h3
    refine ev_iload_n eX11_inflate_64 rfl ?_
    refine ev_aload_n eX11_inflate_65 rfl ?_
    refine ev_getr eX11_inflate_66 fX11_46 rfl ?_
    refine ev_iconst eX11_inflate_69 ?_
    refine ev_cV1 eX11_inflate_70 ⟨lX11_226, kX3_sizeAt⟩ rfl rfl (c_sizeAt (k := 1) (by decide)) ?_
    rintro _ _ ⟨rfl, rfl⟩
    rw [h3 23 (by decide), hz]
    refine ev_icmp_ge 98 eX11_inflate_73 rfl (by omega) (by omega) (fun h73 => ?_) (fun h73 => ?_)
    · skip
      obtain rfl : i = n := by omega
      exact hk τ h2 h3
    · skip
      refine ev_aload_n eX11_inflate_76 rfl ?_
      refine ev_getr eX11_inflate_77 fX11_26 rfl ?_
      refine ev_aload_n eX11_inflate_80 rfl ?_
      refine ev_getr eX11_inflate_81 fX11_46 rfl ?_
      refine ev_iconst eX11_inflate_84 ?_
      refine ev_iload_n eX11_inflate_85 rfl ?_
      refine ev_cV2 eX11_inflate_86 ⟨lX11_229, kX3_letterAt⟩ rfl rfl (c_letterAt (k := 1) (i := i) (by decide) (by omega)) ?_
      rintro _ _ ⟨rfl, rfl⟩
      rw [show τ (24 + 1) i = (l i : Int) by rw [h3 _ (by decide)]; exact hit i (by omega)]
      refine ev_cV1 eX11_inflate_89 ⟨lX11_219, kX0_addToRow⟩ rfl rfl (c_addToRow Bq3 (z := i) (show τ (3 + 13) 3 = (i : Int) by rw [h2 _ (by omega), rwB_3]) (by omega)) ?_
      rintro _ _ ⟨rfl, rfl⟩
      refine ev_iinc eX11_inflate_92 rfl (by decide) ?_
      refine ev_goto 64 eX11_inflate_95 rfl ?_
      exact ih (i := i + 1) (by omega) (by omega) (rwB_s (by omega) h2) (fun k hk => by rw [up_o _ _ _ hk, up_o _ _ _ hk]; exact h3 k hk)
def g1L (B : Bok) : Nat → Nat := fun i => (Gr B 1).getD i 0
set_option maxRecDepth 20000 in
theorem o_inflate {d : Nat} {σ : St} {B : Bok} (hB : BkC σ 16 B) (hZ : OkZ B) {na : Nat} {Ac : Nat → Bok} (hA : AcC σ na Ac)  : Ct (d + 4) mX11_inflate [.ref 0] σ (fun r τ => (B 2 = 0 → some (vi (-1000002)) = r ∧ σ = τ) ∧ (0 < B 2 ∧ 8 < (Gr B 1).length → some (vi (-1000003)) = r ∧ ∀ k, k < 23 ∨ 38 ≤ k → τ k = σ k) ∧ (0 < B 2 ∧ (Gr B 1).length ≤ 8 → some (vi ((Gr B 1).length : Int)) = r ∧ BkC τ 16 (rwB B (Gr B 1).length (g1L B)) ∧ AcC τ (naN na + 1) (acN na Ac B) ∧ τ 6 4 = σ 6 4 ∧ ∀ k, k < 23 ∨ 38 ≤ k → k ≠ 6 → k ≠ 16 → k ≠ 19 → τ k = σ k)) := by
  refine ct_of hX11_inflate (Nat.le_of_ble_eq_true rfl) ?_
  have hf := hZ.wf
  have h7 := hf.2.1
  refine ev_aload_n eX11_inflate_0 rfl ?_
  refine ev_getr eX11_inflate_1 fX11_26 rfl ?_
  refine ev_cV0 eX11_inflate_4 ⟨lX11_197, kX0_stands⟩ rfl rfl (c_stands Bq3 hB hf.1) ?_
  rintro _ _ ⟨rfl, rfl⟩
  refine ev_ifb_ne 13 eX11_inflate_7 rfl (fun h7 => ?_) (fun h7 => ?_)
  · skip
    have hO := hZ.ok (by omega)
    obtain ⟨od, ho, hod, ha, hna, hac⟩ := hA
    refine ev_aload_n eX11_inflate_13 rfl ?_
    refine ev_getr eX11_inflate_14 fX11_46 rfl ?_
    refine ev_aload_n eX11_inflate_17 rfl ?_
    refine ev_getr eX11_inflate_18 fX11_26 rfl ?_
    refine ev_iconst eX11_inflate_21 ?_
    refine ev_cV2 eX11_inflate_22 ⟨lX11_222, kX3_grow⟩ rfl rfl (c_grow Bq3 hB hO (n := 1) (by decide)) ?_
    rintro _ ξ ⟨q0, ⟨rfl, q1⟩ | ⟨rfl, q1⟩⟩
    · skip
      refine ev_if_eq 41 eX11_inflate_25 rfl (by omega) (fun h25 => False.elim (by omega)) (fun h25 => ?_)
      refine ev_aload_n eX11_inflate_28 rfl ?_
      refine ev_getr eX11_inflate_29 fX11_46 rfl ?_
      refine ev_iconst eX11_inflate_32 ?_
      refine ev_cV1 eX11_inflate_33 ⟨lX11_226, kX3_sizeAt⟩ rfl rfl (c_sizeAt (k := 1) (by decide)) ?_
      rintro _ _ ⟨rfl, rfl⟩
      rw [(q1 1 (by omega)).2.1]
      have hl300 := (q1 1 (by omega)).1
      refine ev_bipush eX11_inflate_36 rfl ?_
      refine ev_icmp_le 44 eX11_inflate_38 rfl (by omega) (by omega) (fun h38 => ?_) (fun h38 => ?_)
      · skip
        refine ev_aload_n eX11_inflate_44 rfl ?_
        refine ev_getr eX11_inflate_45 fX11_39 rfl ?_
        refine ev_aload_n eX11_inflate_48 rfl ?_
        refine ev_getr eX11_inflate_49 fX11_26 rfl ?_
        refine ev_cV1 eX11_inflate_52 ⟨lX11_172, kX6_keepAct⟩ rfl rfl (c_keepAct (od := od) (na := na) Bq3 (by rw [q0 6 (by decide)]; exact ho) hod (by rw [q0 6 (by decide)]; exact ha) hna) ?_
        rintro _ τ ⟨rfl, g1, g2, g3, g4, g5⟩
        have hBx : BkC ξ 16 B := fun j hj => by rw [q0 16 (by decide)]; exact hB j hj
        have hB2 : BkC τ 16 B := fun j hj => by rw [g5 16 (by decide) (by decide)]; exact hBx j hj
        have hAK := AcC_keep hBx hod hna (fun k hk j hj => by rw [q0 19 (by decide)]; exact hac k hk j hj) g1 g2 g4
        have hSm : ∀ j, j < 44 → rwB B (Gr B 1).length (g1L B) j ≤ 1000 := fun j hj => by
          unfold rwB
          split
          · omega
          · split
            · unfold g1L
              rw [List.getD_eq_getElem?_getD]
              cases hx : (Gr B 1)[j - 36]? with
              | none => simp
              | some v => have := Gr_lt hO 1 v (List.mem_of_getElem? hx); simp; omega
            · exact hf.1 j hj
        refine ev_aload_n eX11_inflate_55 rfl ?_
        refine ev_getr eX11_inflate_56 fX11_26 rfl ?_
        refine ev_cV0 eX11_inflate_59 ⟨lX11_216, kX0_clearRow⟩ rfl rfl (c_clearRow Bq3) ?_
        rintro _ _ ⟨rfl, rfl⟩
        refine ev_iconst eX11_inflate_62 ?_
        refine ev_istore_n eX11_inflate_63 (by decide) ?_
        refine c_infl_l (ρ := up τ 16 3 0) (n := (Gr B 1).length) (l := g1L B) (by omega) (by rw [up_o _ _ _ (by decide), g5 23 (by decide) (by decide)]; exact (q1 1 (by omega)).2.1) (fun i hi => by
            rw [up_o _ _ _ (by decide), g5 25 (by decide) (by decide)]
            refine (q1 1 (by omega)).2.2.1 i _ ?_
            unfold g1L
            rw [List.getD_eq_getElem?_getD, List.getElem?_eq_getElem hi]
            rfl) (fun ξ2 f1 f2 => ?_) 9 (i := 0) (by omega) (by omega) (rwB_0 _ hB2) (fun k _ => rfl)
        refine ev_aload_n eX11_inflate_98 rfl ?_
        refine ev_getr eX11_inflate_99 fX11_26 rfl ?_
        refine ev_cV0 eX11_inflate_102 ⟨lX11_213, kX0_rowSize⟩ rfl rfl (c_rowSize Bq3 (B := rwB B (Gr B 1).length (g1L B)) f1 (fun j hj => by have := hSm j hj; exact this)) ?_
        rintro _ _ ⟨rfl, rfl⟩
        refine ev_iret eX11_inflate_105 rfl ?_
        rw [rwB_3]
        refine ⟨fun hc => ?_, fun hc => ?_, fun hc => ?_⟩ <;> first | (exfalso; omega) | skip
        exact ⟨rfl, f1, hAK.of (by rw [f2 _ (by decide), up_o _ _ _ (by decide)]) (by rw [f2 _ (by decide), up_o _ _ _ (by decide)]) (by rw [f2 _ (by decide), up_o _ _ _ (by decide)]), by rw [f2 _ (by decide), up_o _ _ _ (by decide)]; rw [g3]; exact congrFun (q0 6 (by decide)) 4, fun k a0 a1 a2 a3 => by rw [f2 k a2, up_o _ _ _ a2, g5 k a1 a3]; exact q0 k a0⟩
      · skip
        refine ev_ldc eX11_inflate_41 qX11_130 ?_
        refine ev_iret eX11_inflate_43 rfl ?_
        refine ⟨fun hc => ?_, fun hc => ?_, fun hc => ?_⟩ <;> first | (exfalso; omega) | (exact ⟨rfl, q0⟩)
    · skip
      refine ev_if_eq 41 eX11_inflate_25 rfl (by omega) (fun h25 => ?_) (fun h25 => False.elim (by omega))
      refine ev_ldc eX11_inflate_41 qX11_130 ?_
      refine ev_iret eX11_inflate_43 rfl ?_
      refine ⟨fun hc => ?_, fun hc => ?_, fun hc => ?_⟩ <;> first | (exfalso; omega) | (exact ⟨rfl, q0⟩)
  · skip
    refine ev_ldc eX11_inflate_10 qX11_158 ?_
    refine ev_iret eX11_inflate_12 rfl ?_
    refine ⟨fun hc => ?_, fun hc => ?_, fun hc => ?_⟩ <;> first | (exfalso; omega) | (exact ⟨rfl, rfl⟩)
