/-! InflatedRows: drawn, back, who -/
def dX (x : Nat) : Nat := x * 16807 % 2147483647
def dB (x : Nat) (B : Bok) : Bok := upB B (36 + dX x % B 3) (dX x / 16 % B 2)
/-- years: the seed, the book, the sum, what is in all -/
def dr : Nat → Nat → Bok → Nat → Nat → Nat × Nat
  | 0, _, _, s, a => (s, a)
  | n + 1, x, B, s, a => dr n (dX x) (dB x B) (s + cb (prC (dB x B)) 16) (a &&& prC (dB x B))
theorem dB_ok {x : Nat} {B : Bok} (h : Ok B) : Ok (dB x B) := by
  have h1 := h.2.1
  have h2 := h.2.2.1
  have h3 := h.1.2.2.1
  have h4 : dX x % B 3 < B 3 := Nat.mod_lt _ (by omega)
  exact Ok_row h (by omega) (Nat.mod_lt _ (by omega))
theorem cb_le (n : Nat) : ∀ k, cb n k ≤ k
  | 0 => Nat.le_refl _
  | k + 1 => by unfold cb; have := cb_le n k; omega
set_option maxRecDepth 20000 in
theorem c_cbd {d : Nat} {σ : St} {B : Bok} {x : Nat} (hB : BkC σ 17 B) (hO : Ok B) (hx : x < 2147483647) : Ct (d + 1) mX11_changeByDraw [.ref 0, vl x] σ (rv (up σ 17 (36 + x % B 3) ((x / 16 % B 2 : Nat) : Int))) := by
  refine ct_of hX11_changeByDraw (Nat.le_of_ble_eq_true rfl) ?_
  have hf := hO.1
  have h7 := hf.2.1
  have h8 := hf.2.2.1
  have h5 := hO.2.1
  have h6 := hO.2.2.1
  refine ev_aload_n eX11_changeByDraw_0 rfl ?_
  refine ev_getr eX11_changeByDraw_1 fX11_30 rfl ?_
  refine ev_cV0 eX11_changeByDraw_4 ⟨lX11_213, kX0_rowSize⟩ rfl rfl (c_rowSize Bq4 hB hf.1) ?_
  rintro _ _ ⟨rfl, rfl⟩
  refine ev_istore_n eX11_changeByDraw_7 (by decide) ?_
  refine ev_aload_n eX11_changeByDraw_8 rfl ?_
  refine ev_getr eX11_changeByDraw_9 fX11_30 rfl ?_
  refine ev_cV0 eX11_changeByDraw_12 ⟨lX11_152, kX0_sortCount⟩ rfl rfl (c_sortCount Bq4 hB hf.1) ?_
  rintro _ _ ⟨rfl, rfl⟩
  refine ev_istore eX11_changeByDraw_15 (by decide) ?_
  refine ev_iload_n eX11_changeByDraw_17 rfl ?_
  refine ev_iconst eX11_changeByDraw_18 ?_
  refine ev_icmp_lt 28 eX11_changeByDraw_19 rfl (by omega) (by omega) (fun h19 => False.elim (by omega)) (fun h19 => ?_)
  refine ev_iload eX11_changeByDraw_22 rfl ?_
  refine ev_iconst eX11_changeByDraw_24 ?_
  refine ev_icmp_ge 29 eX11_changeByDraw_25 rfl (by omega) (by omega) (fun h25 => ?_) (fun h25 => False.elim (by omega))
  refine ev_aload_n eX11_changeByDraw_29 rfl ?_
  refine ev_getr eX11_changeByDraw_30 fX11_30 rfl ?_
  refine ev_lload_n eX11_changeByDraw_33 rfl ?_
  refine ev_iload_n eX11_changeByDraw_34 rfl ?_
  refine ev_i2l eX11_changeByDraw_35 (by omega) ?_
  refine ev_lrem eX11_changeByDraw_36 (by omega) (by omega) ?_
  refine ev_l2i eX11_changeByDraw_37 ?_
  refine ev_lload_n eX11_changeByDraw_38 rfl ?_
  refine ev_ldc2 eX11_changeByDraw_39 qX11_400 ?_
  refine ev_ldiv eX11_changeByDraw_42 (by omega) (by omega) ?_
  refine ev_iload eX11_changeByDraw_43 rfl ?_
  refine ev_i2l eX11_changeByDraw_45 (by omega) ?_
  refine ev_lrem eX11_changeByDraw_46 (by omega) (by omega) ?_
  refine ev_l2i eX11_changeByDraw_47 ?_
  rw [show ((x : Int) % (B 3 : Int)) = ((x % B 3 : Nat) : Int) by rw [Int.natCast_emod], show ((x : Int) / 16 % (B 2 : Int)) = ((x / 16 % B 2 : Nat) : Int) by rw [Int.natCast_emod, Int.natCast_ediv]; rfl]
  have hmd : x % B 3 < B 3 := Nat.mod_lt _ (by omega)
  refine ev_cV2 eX11_changeByDraw_48 ⟨lX11_388, kX0_setRowLetter⟩ rfl rfl (c_setRowLetter Bq4 (i := x % B 3) (by omega)) ?_
  rintro _ _ ⟨rfl, rfl⟩
  refine ev_ret eX11_changeByDraw_51 rfl ?_
  exact ⟨rfl, rfl⟩
set_option maxRecDepth 20000 in
theorem c_dr_l {d : Nat} {σ : St} {v2 : Value} {n x0 e : Nat} {B0 : Bok} (he : e < 2) (hn : n ≤ 30) : ∀ (fu : Nat) {i x s a : Nat} {B : Bok} {u9 : Value} {τ : St}, n - i < fu → i ≤ n → BkC τ 17 B → Ok B → x < 2147483647 → s ≤ 16 * i → a < 65536 → dr (n - i) x B s a = dr n x0 B0 0 65535 → (∀ k, k ≠ 17 → τ k = σ k) → Ev (d + 5) mX11_drawn 73 [.ref 0, vi n, v2, vi e, vl x, .null, vi s, vi a, vi i, u9] [] τ (fun r τ => some (vi ((if e = 0 then (dr n x0 B0 0 65535).1 else (dr n x0 B0 0 65535).2 : Nat) : Int)) = r ∧ ∀ k, k ≠ 17 → τ k = σ k) := by
  intro fu
  induction fu with
  | zero => intros; omega
  | succ fu ih =>
    intro i x s a B u9 τ hm h1 h2 h3 h4 h5 h6 h7 h9
    refine ev_iload eX11_drawn_73 rfl ?_
    refine ev_iload_n eX11_drawn_75 rfl ?_
    refine ev_icmp_ge 129 eX11_drawn_76 rfl (by omega) (by omega) (fun h76 => ?_) (fun h76 => ?_)
    · skip
      refine ev_iload_n eX11_drawn_129 rfl ?_
      obtain rfl : i = n := by omega
      rw [Nat.sub_self] at h7
      rw [← h7]
      refine ev_if_ne 138 eX11_drawn_130 rfl (by omega) (fun h130 => ?_) (fun h130 => ?_)
      · skip
        refine ev_iload eX11_drawn_138 rfl ?_
        refine ev_iret eX11_drawn_140 rfl ?_
        exact ⟨congrArg (fun q => some (vi q)) (by rw [if_neg (by omega)]; rfl), h9⟩
      · skip
        refine ev_iload eX11_drawn_133 rfl ?_
        refine ev_goto 140 eX11_drawn_135 rfl ?_
        refine ev_iret eX11_drawn_140 rfl ?_
        exact ⟨congrArg (fun q => some (vi q)) (by rw [if_pos (by omega)]; rfl), h9⟩
    · skip
      refine ev_lload eX11_drawn_79 rfl ?_
      refine ev_ldc2 eX11_drawn_81 qX11_338 ?_
      refine ev_lmul eX11_drawn_84 ?_
      refine ev_ldc2 eX11_drawn_85 qX11_340 ?_
      refine ev_lrem eX11_drawn_88 (by omega) (by omega) ?_
      rw [show ((x : Int) * 16807 % 2147483647) = (dX x : Int) by unfold dX; omega]
      have hdx : dX x < 2147483647 := Nat.mod_lt _ (by decide)
      refine ev_lstore eX11_drawn_89 (by decide) ?_
      refine ev_aload_n eX11_drawn_91 rfl ?_
      refine ev_lload eX11_drawn_92 rfl ?_
      refine ev_cV1 eX11_drawn_94 ⟨lX11_342, kX11_changeByDraw⟩ rfl rfl (c_cbd h2 h3 hdx) ?_
      rintro _ _ ⟨rfl, rfl⟩
      have hB4 : BkC (up τ 17 (36 + dX x % B 3) ((dX x / 16 % B 2 : Nat) : Int)) 17 (dB x B) := BkC_up h2 _ _
      have hO4 := dB_ok (x := x) h3
      have hpl := prC_lt hO4
      refine ev_aload_n eX11_drawn_97 rfl ?_
      refine ev_getr eX11_drawn_98 fX11_30 rfl ?_
      refine ev_cS1 eX11_drawn_101 ⟨lX11_290, kX7_in⟩ rfl (c_pairs Bq4 (B := dB x B) hB4 hO4) ?_
      rintro _ _ ⟨rfl, rfl⟩
      refine ev_istore eX11_drawn_104 (by decide) ?_
      refine ev_iload eX11_drawn_106 rfl ?_
      refine ev_iload eX11_drawn_108 rfl ?_
      refine ev_cS1 eX11_drawn_110 ⟨lX11_295, kJ6_bitCount_0f7a4⟩ rfl (c_bitCount hpl) ?_
      rintro _ _ ⟨rfl, rfl⟩
      have hcb := cb_le (prC (dB x B)) 16
      refine ev_iadd eX11_drawn_113 ?_
      refine ev_istore eX11_drawn_114 (by decide) ?_
      refine ev_iload eX11_drawn_116 rfl ?_
      refine ev_iload eX11_drawn_118 rfl ?_
      refine ev_iand eX11_drawn_120 ?_
      rw [iAnd_n (by omega) (by omega)]
      have hal := Nat.and_le_left (n := a) (m := prC (dB x B))
      refine ev_istore eX11_drawn_121 (by decide) ?_
      refine ev_iinc eX11_drawn_123 rfl (by decide) ?_
      refine ev_goto 73 eX11_drawn_126 rfl ?_
      refine ih (i := i + 1) (x := dX x) (s := s + cb (prC (dB x B)) 16) (a := a &&& prC (dB x B)) (B := dB x B) (by omega) (by omega) hB4 hO4 hdx (by omega) (by omega) ?_ (fun k hk => by rw [up_o _ _ _ hk]; exact h9 k hk)
      rw [← h7, show n - i = (n - (i + 1)) + 1 by omega]
      rfl
set_option maxRecDepth 20000 in
theorem o_drawn {d : Nat} {σ : St} {B : Bok} (hB : BkC σ 16 B) (hZ : OkZ B) {n y e : Int} (hn : -2147483648 ≤ n ∧ n ≤ 2147483647) (hy : -2147483648 ≤ y ∧ y ≤ 2147483647) (he : -2147483648 ≤ e ∧ e ≤ 2147483647) : Ct (d + 5) mX11_drawn [.ref 0, vi n, vi y, vi e] σ (fun r τ => (B 2 = 0 → some (vi (-1000002)) = r ∧ σ = τ) ∧ (0 < B 2 ∧ ¬ ((0 ≤ n ∧ n ≤ 30) ∧ (1 ≤ y ∧ y ≤ 999999) ∧ 0 ≤ e ∧ e ≤ 1) → some (vi (-1000001)) = r ∧ σ = τ) ∧ (0 < B 2 ∧ ((0 ≤ n ∧ n ≤ 30) ∧ (1 ≤ y ∧ y ≤ 999999) ∧ 0 ≤ e ∧ e ≤ 1) → some (vi ((if e.toNat = 0 then (dr n.toNat y.toNat B 0 65535).1 else (dr n.toNat y.toNat B 0 65535).2 : Nat) : Int)) = r ∧ ∀ k, k ≠ 17 → τ k = σ k)) := by
  refine ct_of hX11_drawn (Nat.le_of_ble_eq_true rfl) ?_
  have hf := hZ.wf
  have h7 := hf.2.1
  refine ev_aload_n eX11_drawn_0 rfl ?_
  refine ev_getr eX11_drawn_1 fX11_26 rfl ?_
  refine ev_cV0 eX11_drawn_4 ⟨lX11_197, kX0_stands⟩ rfl rfl (c_stands Bq3 hB hf.1) ?_
  rintro _ _ ⟨rfl, rfl⟩
  refine ev_ifb_ne 13 eX11_drawn_7 rfl (fun h7 => ?_) (fun h7 => ?_)
  · skip
    refine ev_iload_n eX11_drawn_13 rfl ?_
    refine ev_if_lt 44 eX11_drawn_14 rfl (by omega) (fun h14 => ?_) (fun h14 => ?_)
    · skip
      refine ev_ldc eX11_drawn_44 qX11_89 ?_
      refine ev_iret eX11_drawn_46 rfl ?_
      refine ⟨fun hc => ?_, fun hc => ?_, fun hc => ?_⟩ <;> first | (exfalso; omega) | (exact ⟨rfl, rfl⟩)
    · skip
      refine ev_iload_n eX11_drawn_17 rfl ?_
      refine ev_bipush eX11_drawn_18 rfl ?_
      refine ev_icmp_gt 44 eX11_drawn_20 rfl (by omega) (by omega) (fun h20 => ?_) (fun h20 => ?_)
      · skip
        refine ev_ldc eX11_drawn_44 qX11_89 ?_
        refine ev_iret eX11_drawn_46 rfl ?_
        refine ⟨fun hc => ?_, fun hc => ?_, fun hc => ?_⟩ <;> first | (exfalso; omega) | (exact ⟨rfl, rfl⟩)
      · skip
        refine ev_iload_n eX11_drawn_23 rfl ?_
        refine ev_iconst eX11_drawn_24 ?_
        refine ev_icmp_lt 44 eX11_drawn_25 rfl (by omega) (by omega) (fun h25 => ?_) (fun h25 => ?_)
        · skip
          refine ev_ldc eX11_drawn_44 qX11_89 ?_
          refine ev_iret eX11_drawn_46 rfl ?_
          refine ⟨fun hc => ?_, fun hc => ?_, fun hc => ?_⟩ <;> first | (exfalso; omega) | (exact ⟨rfl, rfl⟩)
        · skip
          refine ev_iload_n eX11_drawn_28 rfl ?_
          refine ev_ldc_w eX11_drawn_29 qX11_336 ?_
          refine ev_icmp_gt 44 eX11_drawn_32 rfl (by omega) (by omega) (fun h32 => ?_) (fun h32 => ?_)
          · skip
            refine ev_ldc eX11_drawn_44 qX11_89 ?_
            refine ev_iret eX11_drawn_46 rfl ?_
            refine ⟨fun hc => ?_, fun hc => ?_, fun hc => ?_⟩ <;> first | (exfalso; omega) | (exact ⟨rfl, rfl⟩)
          · skip
            refine ev_iload_n eX11_drawn_35 rfl ?_
            refine ev_if_lt 44 eX11_drawn_36 rfl (by omega) (fun h36 => ?_) (fun h36 => ?_)
            · skip
              refine ev_ldc eX11_drawn_44 qX11_89 ?_
              refine ev_iret eX11_drawn_46 rfl ?_
              refine ⟨fun hc => ?_, fun hc => ?_, fun hc => ?_⟩ <;> first | (exfalso; omega) | (exact ⟨rfl, rfl⟩)
            · skip
              refine ev_iload_n eX11_drawn_39 rfl ?_
              refine ev_iconst eX11_drawn_40 ?_
              refine ev_icmp_le 47 eX11_drawn_41 rfl (by omega) (by omega) (fun h41 => ?_) (fun h41 => ?_)
              · skip
                have hO := hZ.ok (by omega)
                obtain ⟨n1, rfl⟩ : ∃ q : Nat, n = q := ⟨n.toNat, by omega⟩
                obtain ⟨y1, rfl⟩ : ∃ q : Nat, y = q := ⟨y.toNat, by omega⟩
                obtain ⟨e1, rfl⟩ : ∃ q : Nat, e = q := ⟨e.toNat, by omega⟩
                rw [Int.toNat_natCast, Int.toNat_natCast, Int.toNat_natCast]
                refine ev_aload_n eX11_drawn_47 rfl ?_
                refine ev_getr eX11_drawn_48 fX11_30 rfl ?_
                refine ev_aload_n eX11_drawn_51 rfl ?_
                refine ev_getr eX11_drawn_52 fX11_26 rfl ?_
                refine ev_cV1 eX11_drawn_55 ⟨lX11_145, kX0_takeAll⟩ rfl rfl (c_takeAll Bq4 Bq3) ?_
                rintro _ _ ⟨rfl, rfl⟩
                refine ev_iload_n eX11_drawn_58 rfl ?_
                refine ev_i2l eX11_drawn_59 (by omega) ?_
                refine ev_lstore eX11_drawn_60 (by decide) ?_
                refine ev_iconst eX11_drawn_62 ?_
                refine ev_istore eX11_drawn_63 (by decide) ?_
                refine ev_ldc_w eX11_drawn_65 qX11_337 ?_
                refine ev_istore eX11_drawn_68 (by decide) ?_
                refine ev_iconst eX11_drawn_70 ?_
                refine ev_istore eX11_drawn_71 (by decide) ?_
                refine ev_mono (fun r τ h => ?_) (c_dr_l (σ := σ) (n := n1) (x0 := y1) (e := e1) (B0 := B) (by omega) (by omega) 31 (i := 0) (x := y1) (s := 0) (a := 65535) (B := B) (by omega) (by omega) (fun j hj => ?_) hO (by omega) (by omega) (by omega) rfl (fun k hk => upA_n _ _ hk))
                · refine ⟨fun hc => ?_, fun hc => ?_, fun hc => h⟩ <;> (exfalso; omega)
                · rw [show upA σ (4 + 13) (cpF (σ (3 + 13)) (σ (4 + 13)) 0 0 44) 17 j = σ 16 j by (show upA σ 17 _ 17 j = _); rw [upA_s, cpF_in (by omega) (by omega), Nat.sub_zero, Nat.zero_add]]
                  exact hB j hj
              · skip
                refine ev_ldc eX11_drawn_44 qX11_89 ?_
                refine ev_iret eX11_drawn_46 rfl ?_
                refine ⟨fun hc => ?_, fun hc => ?_, fun hc => ?_⟩ <;> first | (exfalso; omega) | (exact ⟨rfl, rfl⟩)
  · skip
    refine ev_ldc eX11_drawn_10 qX11_158 ?_
    refine ev_iret eX11_drawn_12 rfl ?_
    refine ⟨fun hc => ?_, fun hc => ?_, fun hc => ?_⟩ <;> first | (exfalso; omega) | (exact ⟨rfl, rfl⟩)
noncomputable def bkR (B : Bok) (l : Nat → Nat) (n : Nat) (F : Nat → Nat) (e : Int) : Int := if e = -1 then (F 0 : Int) else if lf B l n F e.toNat 0 < 0 then -1000000 else lf B l n F e.toNat 0
set_option maxRecDepth 20000 in
theorem c_back_l {d : Nat} {σ : St} {l : Nat → Nat} {q n : Nat} {e : Int} {u4 : Int} (hq : q < 8) (hn : n ≤ 40) (hit : ∀ i, i < n → σ 12 (q * 40 + i) = (l i : Int)) {post : Option Value → St → Prop} (hk : ∀ τ : St, τ 9 2 = (n : Int) → (∀ i, i < n → τ 41 i = (l i : Int)) → (∀ k, k ≠ 9 → k ≠ 41 → τ k = σ k) → Ev (d + 1) mX11_back 98 [.ref 0, vi q, vi n, vi e, vi u4, vi n] [] τ post) : ∀ (fu : Nat) {i : Nat} {τ : St}, n - i < fu → i ≤ n → τ 9 2 = (i : Int) → (∀ z, z < i → τ 41 z = (l z : Int)) → (∀ k, k ≠ 9 → k ≠ 41 → τ k = σ k) → Ev (d + 1) mX11_back 69 [.ref 0, vi q, vi n, vi e, vi u4, vi i] [] τ (post) := by
  intro fu
  induction fu with
  | zero => intros; omega
  | succ fu ih =>
    intro i τ hm h1 h2 h3 h9
    refine ev_iload eX11_back_69 rfl ?_
    refine ev_iload_n eX11_back_71 rfl ?_
    refine ev_icmp_ge 98 eX11_back_72 rfl (by omega) (by omega) (fun h72 => ?_) (fun h72 => ?_)
    · skip
      obtain rfl : i = n := by omega
      exact hk τ h2 h3 h9
    · skip
      refine ev_aload_n eX11_back_75 rfl ?_
      refine ev_getr eX11_back_76 fX11_60 rfl ?_
      refine ev_aload_n eX11_back_79 rfl ?_
      refine ev_getr eX11_back_80 fX11_10 rfl ?_
      refine ev_iload_n eX11_back_83 rfl ?_
      refine ev_iload eX11_back_84 rfl ?_
      refine ev_cV2 eX11_back_86 ⟨lX11_178, kX8_item⟩ rfl rfl (c_item (r := q) (i := i) hq (by omega)) ?_
      rintro _ _ ⟨rfl, rfl⟩
      rw [h9 12 (by decide) (by decide), hit i (by omega)]
      refine ev_cV1 eX11_back_89 ⟨lX11_304, kX2_add⟩ rfl rfl (c_fadd (z := i) h2 (by omega)) ?_
      rintro _ _ ⟨rfl, rfl⟩
      refine ev_iinc eX11_back_92 rfl (by decide) ?_
      refine ev_goto 69 eX11_back_95 rfl ?_
      refine ih (i := i + 1) (by omega) (by omega) (up_s _ _ _ _) (fun z hz => ?_) (fun k a1 a2 => by rw [up_o _ _ _ a1, up_o _ _ _ a2]; exact h9 k a1 a2)
      rw [up_o _ _ _ (by decide)]
      by_cases e2 : z = i
      · subst e2; exact up_s _ _ _ _
      · rw [up_n _ _ e2]; exact h3 z (by omega)
theorem lf_r (B : Bok) (l : Nat → Nat) (n : Nat) (F : Nat → Nat) (h4 : B 2 ≤ 4) : ∀ k a, -1 ≤ lf B l n F k a ∧ lf B l n F k a ≤ 4
  | 0, a => by
    unfold lf
    split
    · rcases lm_c (Gd B l n F a) (B 2) with ⟨s, g1, g2, g3, g4⟩ | ⟨g1, g2⟩ <;> omega
    · omega
  | k + 1, a => by
    unfold lf
    split
    · split
      · omega
      · exact lf_r B l n F h4 k _
    · omega
set_option maxRecDepth 20000 in
theorem o_back {d : Nat} {σ : St} {B : Bok} (hB : BkC σ 16 B) (hZ : OkZ B) {la : Nat → Int} {sz : Nat → Nat} {it : Nat → Int} (hW : RwsC σ la sz it) {y n e : Int} (hy : -2147483648 ≤ y ∧ y ≤ 2147483647) (hn : -2147483648 ≤ n ∧ n ≤ 2147483647) (he : -2147483648 ≤ e ∧ e ≤ 2147483647) : Ct (d + 6) mX11_back [.ref 0, vi y, vi n, vi e] σ (fun r τ => (B 2 = 0 → some (vi (-1000002)) = r ∧ σ = τ) ∧ (0 < B 2 ∧ ¬ ((0 ≤ y ∧ y < 8) ∧ (1 ≤ n ∧ n ≤ 40) ∧ -1 ≤ e) → some (vi (-1000001)) = r ∧ σ = τ) ∧ (0 < B 2 ∧ ((0 ≤ y ∧ y < 8) ∧ (1 ≤ n ∧ n ≤ 40) ∧ -1 ≤ e) ∧ lfn la sz it B y.toNat n.toNat ≠ 0 → some (vi (-1000010 - lfn la sz it B y.toNat n.toNat)) = r ∧ up σ 0 12 (lfn la sz it B y.toNat n.toNat) = τ) ∧ (0 < B 2 ∧ ((0 ≤ y ∧ y < 8) ∧ (1 ≤ n ∧ n ≤ 40) ∧ -1 ≤ e) ∧ lfn la sz it B y.toNat n.toNat = 0 → ∃ F, Wy B (lts it y.toNat) n.toNat F ∧ some (vi (bkR B (lts it y.toNat) n.toNat F e)) = r ∧ τ 0 11 = σ 0 11 ∧ τ 0 12 = 0 ∧ ∀ k, k ≠ 0 → k ≠ 9 → k ≠ 41 → k ≠ 42 → τ k = σ k)) := by
  refine ct_of hX11_back (Nat.le_of_ble_eq_true rfl) ?_
  have hf := hZ.wf
  have h7 := hf.2.1
  refine ev_aload_n eX11_back_0 rfl ?_
  refine ev_getr eX11_back_1 fX11_26 rfl ?_
  refine ev_cV0 eX11_back_4 ⟨lX11_197, kX0_stands⟩ rfl rfl (c_stands Bq3 hB hf.1) ?_
  rintro _ _ ⟨rfl, rfl⟩
  refine ev_ifb_ne 13 eX11_back_7 rfl (fun h7 => ?_) (fun h7 => ?_)
  · skip
    refine ev_iload_n eX11_back_13 rfl ?_
    refine ev_cS1 eX11_back_14 ⟨lX11_85, kX8_isRow⟩ rfl (c_isRow (x := y) (by omega)) ?_
    rintro _ _ ⟨rfl, rfl⟩
    refine ev_ifb_eq 36 eX11_back_17 rfl (fun h17 => ?_) (fun h17 => ?_)
    · skip
      refine ev_ldc eX11_back_36 qX11_89 ?_
      refine ev_iret eX11_back_38 rfl ?_
      refine ⟨fun hc => ?_, fun hc => ?_, fun hc => ?_, fun hc => ?_⟩ <;> first | (exfalso; omega) | (exact ⟨rfl, rfl⟩)
    · skip
      refine ev_iload_n eX11_back_20 rfl ?_
      refine ev_iconst eX11_back_21 ?_
      refine ev_icmp_lt 36 eX11_back_22 rfl (by omega) (by omega) (fun h22 => ?_) (fun h22 => ?_)
      · skip
        refine ev_ldc eX11_back_36 qX11_89 ?_
        refine ev_iret eX11_back_38 rfl ?_
        refine ⟨fun hc => ?_, fun hc => ?_, fun hc => ?_, fun hc => ?_⟩ <;> first | (exfalso; omega) | (exact ⟨rfl, rfl⟩)
      · skip
        refine ev_iload_n eX11_back_25 rfl ?_
        refine ev_bipush eX11_back_26 rfl ?_
        refine ev_icmp_gt 36 eX11_back_28 rfl (by omega) (by omega) (fun h28 => ?_) (fun h28 => ?_)
        · skip
          refine ev_ldc eX11_back_36 qX11_89 ?_
          refine ev_iret eX11_back_38 rfl ?_
          refine ⟨fun hc => ?_, fun hc => ?_, fun hc => ?_, fun hc => ?_⟩ <;> first | (exfalso; omega) | (exact ⟨rfl, rfl⟩)
        · skip
          refine ev_iload_n eX11_back_31 rfl ?_
          refine ev_iconst eX11_back_32 ?_
          refine ev_icmp_ge 39 eX11_back_33 rfl (by omega) (by omega) (fun h33 => ?_) (fun h33 => ?_)
          · skip
            have hO := hZ.ok (by omega)
            obtain ⟨q, rfl⟩ : ∃ q : Nat, y = q := ⟨y.toNat, by omega⟩
            obtain ⟨z, rfl⟩ : ∃ q : Nat, n = q := ⟨n.toNat, by omega⟩
            rw [Int.toNat_natCast, Int.toNat_natCast]
            refine ev_aload_n eX11_back_39 rfl ?_
            refine ev_iload_n eX11_back_40 rfl ?_
            refine ev_iload_n eX11_back_41 rfl ?_
            refine ev_cV2 eX11_back_42 ⟨lX11_165, kX11_lettersFinding⟩ rfl rfl (c_lfd hB hZ hW (q := q) (n := z) (by omega) (by omega)) ?_
            rintro _ _ ⟨rfl, rfl⟩
            have hlr : 0 ≤ lfn la sz it B q z ∧ lfn la sz it B q z ≤ 2 := by
              rcases lfn_c la sz it B q z with ⟨z1, z2⟩ | ⟨z1, z2, z3⟩ | ⟨z1, z2, z3⟩ <;> omega
            refine ev_istore eX11_back_45 (by decide) ?_
            refine ev_iload eX11_back_47 rfl ?_
            refine ev_if_eq 59 eX11_back_49 rfl (by omega) (fun h49 => ?_) (fun h49 => ?_)
            · skip
              have hLt : la q ≠ -1 ∧ LtP sz it B q z := by
                rcases lfn_c la sz it B q z with ⟨z1, z2⟩ | ⟨z1, z2, z3⟩ | ⟨z1, z2, z3⟩
                · omega
                · exact ⟨z1, z2⟩
                · omega
              obtain ⟨k1, k2, k3, k4, k5⟩ := hW q (by omega)
              obtain ⟨k6, k7⟩ := k5 hLt.1
              have hlv : ∀ i, i < z → lts it q i < B 2 ∧ it (q * 40 + i) = (lts it q i : Int) := fun i hi => by
                have := hLt.2.2 i hi
                unfold lts
                omega
              have hit : ∀ i, i < z → σ 12 (q * 40 + i) = (lts it q i : Int) := fun i hi => by
                rw [(k7 i (by have := hLt.2.1; omega)).1]
                exact (hlv i hi).2
              refine ev_aload_n eX11_back_59 rfl ?_
              refine ev_getr eX11_back_60 fX11_60 rfl ?_
              refine ev_cV0 eX11_back_63 ⟨lX11_303, kX2_clear⟩ rfl rfl c_fclear ?_
              rintro _ _ ⟨rfl, rfl⟩
              refine ev_iconst eX11_back_66 ?_
              refine ev_istore eX11_back_67 (by decide) ?_
              refine c_back_l (q := q) (n := z) (l := lts it q) (by omega) (by omega) (fun i hi => by rw [up_o _ _ _ (by decide)]; exact hit i hi) (fun ξ f1 f2 f3 => ?_) 41 (i := 0) (by omega) (by omega) (up_s _ _ _ _) (fun z hz => by omega) (fun k _ _ => rfl)
              refine ev_aload_n eX11_back_98 rfl ?_
              refine ev_getr eX11_back_99 fX11_60 rfl ?_
              refine ev_aload_n eX11_back_102 rfl ?_
              refine ev_getr eX11_back_103 fX11_26 rfl ?_
              have hFo : Fo ξ (lts it q) z := ⟨f1, by omega, fun j hj => ⟨by have := (hlv j hj).1; omega, f2 j hj⟩⟩
              refine ev_cV1 eX11_back_106 ⟨lX11_305, kX2_unfold⟩ rfl rfl (c_unfold Bq3 (B := B) (fun j hj => by rw [f3 16 (by decide) (by decide), up_o _ _ _ (by decide)]; exact hB j hj) hf (l := lts it q) (n := z) hFo (fun s hs => hO.im1 hs)) ?_
              rintro _ χ ⟨rfl, w2, F, w3, w4⟩
              refine ev_iload_n eX11_back_109 rfl ?_
              refine ev_iconst eX11_back_110 ?_
              refine ev_icmp_ne 126 eX11_back_111 rfl (by omega) (by omega) (fun h111 => ?_) (fun h111 => ?_)
              · skip
                obtain ⟨e1, rfl⟩ : ∃ q : Nat, e = q := ⟨e.toNat, by omega⟩
                refine ev_aload_n eX11_back_126 rfl ?_
                refine ev_getr eX11_back_127 fX11_60 rfl ?_
                refine ev_aload_n eX11_back_130 rfl ?_
                refine ev_getr eX11_back_131 fX11_26 rfl ?_
                refine ev_iload_n eX11_back_134 rfl ?_
                refine ev_cV2 eX11_back_135 ⟨lX11_311, kX2_letterOfFirst⟩ rfl rfl (c_lof Bq3 (B := B) (fun j hj => by rw [w2 16 (by decide), f3 16 (by decide) (by decide), up_o _ _ _ (by decide)]; exact hB j hj) hf (l := lts it q) (n := z) ⟨by rw [w2 9 (by decide)]; exact f1, by omega, fun j hj => ⟨by have := (hlv j hj).1; omega, by rw [w2 41 (by decide)]; exact f2 j hj⟩⟩ w4 (fun s hs => hO.im1 hs) (wh := e1) (by omega)) ?_
                rintro _ _ ⟨rfl, rfl⟩
                have hlf := lf_r B (lts it q) z F hf.2.1 e1 0
                refine ev_istore eX11_back_138 (by decide) ?_
                refine ev_aload_n eX11_back_140 rfl ?_
                refine ev_iload eX11_back_141 rfl ?_
                refine ev_if_ge 151 eX11_back_143 rfl (by omega) (fun h143 => ?_) (fun h143 => ?_)
                · skip
                  refine ev_iload eX11_back_151 rfl ?_
                  refine ev_cV1 eX11_back_153 ⟨lX11_98, kX11_unfound⟩ rfl rfl c_unfound ?_
                  rintro _ _ ⟨rfl, rfl⟩
                  refine ev_iret eX11_back_156 rfl ?_
                  refine ⟨fun hc => ?_, fun hc => ?_, fun hc => ?_, fun hc => ?_⟩ <;> first | (exfalso; omega) | skip
                  exact ⟨F, w3, congrArg (fun q => some (vi q)) (by unfold bkR; rw [if_neg (by omega), Int.toNat_natCast, if_neg (by omega)]), by rw [up_n _ _ (by decide), w2 0 (by decide), f3 0 (by decide) (by decide), up_o _ _ _ (by decide)], up_s _ _ _ _, fun k a0 a1 a2 a3 => by rw [up_o _ _ _ a0, w2 k a3, f3 k a1 a2, up_o _ _ _ a1]⟩
                · skip
                  refine ev_ldc eX11_back_146 qX11_244 ?_
                  refine ev_goto 153 eX11_back_148 rfl ?_
                  refine ev_cV1 eX11_back_153 ⟨lX11_98, kX11_unfound⟩ rfl rfl c_unfound ?_
                  rintro _ _ ⟨rfl, rfl⟩
                  refine ev_iret eX11_back_156 rfl ?_
                  refine ⟨fun hc => ?_, fun hc => ?_, fun hc => ?_, fun hc => ?_⟩ <;> first | (exfalso; omega) | skip
                  exact ⟨F, w3, congrArg (fun q => some (vi q)) (by unfold bkR; rw [if_neg (by omega), Int.toNat_natCast, if_pos (by omega)]), by rw [up_n _ _ (by decide), w2 0 (by decide), f3 0 (by decide) (by decide), up_o _ _ _ (by decide)], up_s _ _ _ _, fun k a0 a1 a2 a3 => by rw [up_o _ _ _ a0, w2 k a3, f3 k a1 a2, up_o _ _ _ a1]⟩
              · skip
                refine ev_aload_n eX11_back_114 rfl ?_
                refine ev_aload_n eX11_back_115 rfl ?_
                refine ev_getr eX11_back_116 fX11_60 rfl ?_
                refine ev_cV0 eX11_back_119 ⟨lX11_308, kX2_ways⟩ rfl rfl c_fways ?_
                rintro _ _ ⟨rfl, rfl⟩
                rw [(w4 0 (by omega)).1]
                refine ev_cV1 eX11_back_122 ⟨lX11_98, kX11_unfound⟩ rfl rfl c_unfound ?_
                rintro _ _ ⟨rfl, rfl⟩
                refine ev_iret eX11_back_125 rfl ?_
                refine ⟨fun hc => ?_, fun hc => ?_, fun hc => ?_, fun hc => ?_⟩ <;> first | (exfalso; omega) | skip
                exact ⟨F, w3, congrArg (fun q => some (vi q)) (by unfold bkR; rw [if_pos (by omega)]), by rw [up_n _ _ (by decide), w2 0 (by decide), f3 0 (by decide) (by decide), up_o _ _ _ (by decide)], up_s _ _ _ _, fun k a0 a1 a2 a3 => by rw [up_o _ _ _ a0, w2 k a3, f3 k a1 a2, up_o _ _ _ a1]⟩
            · skip
              refine ev_aload_n eX11_back_52 rfl ?_
              refine ev_iload eX11_back_53 rfl ?_
              refine ev_cV1 eX11_back_55 ⟨lX11_90, kX11_found⟩ rfl rfl c_found ?_
              rintro _ _ ⟨rfl, rfl⟩
              refine ev_iret eX11_back_58 rfl ?_
              refine ⟨fun hc => ?_, fun hc => ?_, fun hc => ?_, fun hc => ?_⟩ <;> first | (exfalso; omega) | (exact ⟨rfl, rfl⟩)
          · skip
            refine ev_ldc eX11_back_36 qX11_89 ?_
            refine ev_iret eX11_back_38 rfl ?_
            refine ⟨fun hc => ?_, fun hc => ?_, fun hc => ?_, fun hc => ?_⟩ <;> first | (exfalso; omega) | (exact ⟨rfl, rfl⟩)
  · skip
    refine ev_ldc eX11_back_10 qX11_158 ?_
    refine ev_iret eX11_back_12 rfl ?_
    refine ⟨fun hc => ?_, fun hc => ?_, fun hc => ?_, fun hc => ?_⟩ <;> first | (exfalso; omega) | (exact ⟨rfl, rfl⟩)
