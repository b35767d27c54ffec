/-! InflatedRows: sets, quiet, drawn, who, back -/
def setA (B : Bok) (v e : Nat) : Nat := if e = 0 then sfM B v (2 ^ B 3) else if e = 1 then (if sfM B v (2 ^ B 3) = 0 then 0 else sfA B v (2 ^ B 3)) else sfO B v (2 ^ B 3)
theorem setA_1 (B : Bok) (v : Nat) : setA B v 1 = if sfM B v (2 ^ B 3) = 0 then 0 else sfA B v (2 ^ B 3) := rfl
theorem sf_t {B : Bok} {v P : Nat} (h : wgt B P (B 3) = v) : sfM B v (P + 1) = sfM B v P + 1 ∧ sfA B v (P + 1) = (sfA B v P &&& P) ∧ sfO B v (P + 1) = (sfO B v P ||| P) := ⟨if_pos h, if_pos h, if_pos h⟩
theorem sf_f {B : Bok} {v P : Nat} (h : ¬ wgt B P (B 3) = v) : sfM B v (P + 1) = sfM B v P ∧ sfA B v (P + 1) = sfA B v P ∧ sfO B v (P + 1) = sfO B v P := ⟨if_neg h, if_neg h, if_neg h⟩
set_option maxRecDepth 20000 in
theorem c_sets_l {d : Nat} {σ : St} {B : Bok} (hB : BkC σ 16 B) (hZ : OkZ B) {v e : Nat} (hv : v ≤ 99) (he : e ≤ 2) : ∀ (fu : Nat) {P : Nat}, 2 ^ B 3 - P < fu → P ≤ 2 ^ B 3 → Ev (d + 3) mX11_sets 56 [.ref 0, vi v, vi e, vi (sfM B v P), vi (sfA B v P), vi (sfO B v P), vi P] [] σ (rt (vi (setA B v e)) σ) := by
  intro fu
  induction fu with
  | zero => intros; omega
  | succ fu ih =>
    intro P hm h1
    have hf := hZ.wf
    have h7 := hf.2.1
    have h8 := hf.2.2.1
    have h256 := p2_256 h8
    have ⟨r1, r2⟩ := sf_r B v P (by omega)
    have r3 := r2 h256
    refine ev_iload eX11_sets_56 rfl ?_
    refine ev_iconst eX11_sets_58 ?_
    refine ev_aload_n eX11_sets_59 rfl ?_
    refine ev_getr eX11_sets_60 fX11_26 rfl ?_
    refine ev_cV0 eX11_sets_63 ⟨lX11_213, kX0_rowSize⟩ rfl rfl (c_rowSize Bq3 hB hf.1) ?_
    rintro _ _ ⟨rfl, rfl⟩
    refine ev_ishl eX11_sets_66 ?_
    rw [sh1 (by omega)]
    refine ev_icmp_ge 103 eX11_sets_67 rfl (by omega) (by omega) (fun h67 => ?_) (fun h67 => ?_)
    · skip
      refine ev_iload_n eX11_sets_103 rfl ?_
      obtain rfl : P = 2 ^ B 3 := by omega
      refine ev_if_ne 109 eX11_sets_104 rfl (by omega) (fun h104 => ?_) (fun h104 => ?_)
      · skip
        refine ev_iload_n eX11_sets_109 rfl ?_
        refine ev_iconst eX11_sets_110 ?_
        refine ev_icmp_ne 125 eX11_sets_111 rfl (by omega) (by omega) (fun h111 => ?_) (fun h111 => ?_)
        · skip
          refine ev_iload eX11_sets_125 rfl ?_
          refine ev_iret eX11_sets_127 rfl ?_
          obtain rfl : e = 2 := by omega
          exact ⟨rfl, rfl⟩
        · skip
          refine ev_iload_n eX11_sets_114 rfl ?_
          refine ev_if_ne 122 eX11_sets_115 rfl (by omega) (fun h115 => ?_) (fun h115 => ?_)
          · skip
            refine ev_iload eX11_sets_122 rfl ?_
            refine ev_iret eX11_sets_124 rfl ?_
            obtain rfl : e = 1 := by omega
            exact ⟨congrArg (fun q => some (vi q)) (by rw [setA_1, if_neg (by omega)]), rfl⟩
          · skip
            refine ev_iconst eX11_sets_118 ?_
            refine ev_goto 124 eX11_sets_119 rfl ?_
            refine ev_iret eX11_sets_124 rfl ?_
            obtain rfl : e = 1 := by omega
            exact ⟨congrArg (fun q => some (vi q)) (by rw [setA_1, if_pos (by omega)]; rfl), rfl⟩
      · skip
        refine ev_iload_n eX11_sets_107 rfl ?_
        refine ev_iret eX11_sets_108 rfl ?_
        obtain rfl : e = 0 := by omega
        exact ⟨rfl, rfl⟩
    · skip
      refine ev_aload_n eX11_sets_70 rfl ?_
      refine ev_iload eX11_sets_71 rfl ?_
      refine ev_cV1 eX11_sets_73 ⟨lX11_323, kX11_weightOf⟩ rfl rfl (c_wgt hB hZ (P := P) (by omega)) ?_
      rintro _ _ ⟨rfl, rfl⟩
      have hwl := wgt_le hf P (B 3) h8
      refine ev_iload_n eX11_sets_76 rfl ?_
      refine ev_icmp_ne 97 eX11_sets_77 rfl (by omega) (by omega) (fun h77 => ?_) (fun h77 => ?_)
      · skip
        refine ev_iinc eX11_sets_97 rfl (by decide) ?_
        refine ev_goto 56 eX11_sets_100 rfl ?_
        first | (obtain ⟨e1, e2, e3⟩ := sf_f (B := B) (v := v) (P := P) (by omega)
                 rw [← e1, ← e2, ← e3]
                 exact ih (P := P + 1) (by omega) (by omega)) | (obtain ⟨e1, e2, e3⟩ := sf_t (B := B) (v := v) (P := P) (by omega)
                                                                 rw [show ((sfM B v P : Int) + 1) = (sfM B v (P + 1) : Int) by rw [e1]; push_cast; rfl, ← e2, ← e3]
                                                                 exact ih (P := P + 1) (by omega) (by omega))
      · skip
        refine ev_iinc eX11_sets_80 rfl (by decide) ?_
        refine ev_iload eX11_sets_83 rfl ?_
        refine ev_iload eX11_sets_85 rfl ?_
        refine ev_iand eX11_sets_87 ?_
        rw [iAnd_n (by omega) (by omega)]
        refine ev_istore eX11_sets_88 (by decide) ?_
        refine ev_iload eX11_sets_90 rfl ?_
        refine ev_iload eX11_sets_92 rfl ?_
        refine ev_ior eX11_sets_94 ?_
        rw [iOr_n (by omega) (by omega)]
        refine ev_istore eX11_sets_95 (by decide) ?_
        refine ev_iinc eX11_sets_97 rfl (by decide) ?_
        refine ev_goto 56 eX11_sets_100 rfl ?_
        first | (obtain ⟨e1, e2, e3⟩ := sf_f (B := B) (v := v) (P := P) (by omega)
                 rw [← e1, ← e2, ← e3]
                 exact ih (P := P + 1) (by omega) (by omega)) | (obtain ⟨e1, e2, e3⟩ := sf_t (B := B) (v := v) (P := P) (by omega)
                                                                 rw [show ((sfM B v P : Int) + 1) = (sfM B v (P + 1) : Int) by rw [e1]; push_cast; rfl, ← e2, ← e3]
                                                                 exact ih (P := P + 1) (by omega) (by omega))
set_option maxRecDepth 20000 in
theorem o_sets {d : Nat} {σ : St} {B : Bok} (hB : BkC σ 16 B) (hZ : OkZ B) {v e : Int} (hv : -2147483648 ≤ v ∧ v ≤ 2147483647) (he : -2147483648 ≤ e ∧ e ≤ 2147483647) : Ct (d + 3) mX11_sets [.ref 0, vi v, vi e] σ (fun r τ => (B 2 = 0 → some (vi (-1000002)) = r ∧ σ = τ) ∧ (0 < B 2 ∧ ¬ ((0 ≤ v ∧ v ≤ 99) ∧ 0 ≤ e ∧ e ≤ 2) → some (vi (-1000001)) = r ∧ σ = τ) ∧ (0 < B 2 ∧ ((0 ≤ v ∧ v ≤ 99) ∧ 0 ≤ e ∧ e ≤ 2) → some (vi (setA B v.toNat e.toNat)) = r ∧ σ = τ)) := by
  refine ct_of hX11_sets (Nat.le_of_ble_eq_true rfl) ?_
  have hf := hZ.wf
  have h7 := hf.2.1
  refine ev_aload_n eX11_sets_0 rfl ?_
  refine ev_getr eX11_sets_1 fX11_26 rfl ?_
  refine ev_cV0 eX11_sets_4 ⟨lX11_197, kX0_stands⟩ rfl rfl (c_stands Bq3 hB hf.1) ?_
  rintro _ _ ⟨rfl, rfl⟩
  refine ev_ifb_ne 13 eX11_sets_7 rfl (fun h7 => ?_) (fun h7 => ?_)
  · skip
    refine ev_iload_n eX11_sets_13 rfl ?_
    refine ev_if_lt 32 eX11_sets_14 rfl (by omega) (fun h14 => ?_) (fun h14 => ?_)
    · skip
      refine ev_ldc eX11_sets_32 qX11_89 ?_
      refine ev_iret eX11_sets_34 rfl ?_
      refine ⟨fun hc => ?_, fun hc => ?_, fun hc => ?_⟩ <;> first | (exfalso; omega) | (exact ⟨rfl, rfl⟩)
    · skip
      refine ev_iload_n eX11_sets_17 rfl ?_
      refine ev_bipush eX11_sets_18 rfl ?_
      refine ev_icmp_gt 32 eX11_sets_20 rfl (by omega) (by omega) (fun h20 => ?_) (fun h20 => ?_)
      · skip
        refine ev_ldc eX11_sets_32 qX11_89 ?_
        refine ev_iret eX11_sets_34 rfl ?_
        refine ⟨fun hc => ?_, fun hc => ?_, fun hc => ?_⟩ <;> first | (exfalso; omega) | (exact ⟨rfl, rfl⟩)
      · skip
        refine ev_iload_n eX11_sets_23 rfl ?_
        refine ev_if_lt 32 eX11_sets_24 rfl (by omega) (fun h24 => ?_) (fun h24 => ?_)
        · skip
          refine ev_ldc eX11_sets_32 qX11_89 ?_
          refine ev_iret eX11_sets_34 rfl ?_
          refine ⟨fun hc => ?_, fun hc => ?_, fun hc => ?_⟩ <;> first | (exfalso; omega) | (exact ⟨rfl, rfl⟩)
        · skip
          refine ev_iload_n eX11_sets_27 rfl ?_
          refine ev_iconst eX11_sets_28 ?_
          refine ev_icmp_le 35 eX11_sets_29 rfl (by omega) (by omega) (fun h29 => ?_) (fun h29 => ?_)
          · skip
            obtain ⟨z, rfl⟩ : ∃ q : Nat, v = q := ⟨v.toNat, by omega⟩
            obtain ⟨q, rfl⟩ : ∃ q : Nat, e = q := ⟨e.toNat, by omega⟩
            rw [Int.toNat_natCast, Int.toNat_natCast]
            have h8 := hf.2.2.1
            refine ev_iconst eX11_sets_35 ?_
            refine ev_istore_n eX11_sets_36 (by decide) ?_
            refine ev_iconst eX11_sets_37 ?_
            refine ev_aload_n eX11_sets_38 rfl ?_
            refine ev_getr eX11_sets_39 fX11_26 rfl ?_
            refine ev_cV0 eX11_sets_42 ⟨lX11_213, kX0_rowSize⟩ rfl rfl (c_rowSize Bq3 hB hf.1) ?_
            rintro _ _ ⟨rfl, rfl⟩
            refine ev_ishl eX11_sets_45 ?_
            refine ev_iconst eX11_sets_46 ?_
            refine ev_isub eX11_sets_47 ?_
            rw [sh1 (by omega), show (((2 ^ B 3 : Nat) : Int) - 1) = (sfA B z 0 : Int) by (show _ = ((2 ^ B 3 - 1 : Nat) : Int)); have := Nat.two_pow_pos (B 3); omega]
            refine ev_istore eX11_sets_48 (by decide) ?_
            refine ev_iconst eX11_sets_50 ?_
            refine ev_istore eX11_sets_51 (by decide) ?_
            refine ev_iconst eX11_sets_53 ?_
            refine ev_istore eX11_sets_54 (by decide) ?_
            refine ev_mono (fun r τ h => ?_) (c_sets_l hB hZ (v := z) (e := q) (by omega) (by omega) (2 ^ B 3 + 1) (P := 0) (Nat.lt_succ_of_le (Nat.sub_le _ _)) (Nat.zero_le _))
            obtain ⟨rfl, rfl⟩ := h
            refine ⟨fun hc => ?_, fun hc => ?_, fun hc => ?_⟩ <;> first | (exfalso; omega) | (exact ⟨rfl, rfl⟩)
          · skip
            refine ev_ldc eX11_sets_32 qX11_89 ?_
            refine ev_iret eX11_sets_34 rfl ?_
            refine ⟨fun hc => ?_, fun hc => ?_, fun hc => ?_⟩ <;> first | (exfalso; omega) | (exact ⟨rfl, rfl⟩)
  · skip
    refine ev_ldc eX11_sets_10 qX11_158 ?_
    refine ev_iret eX11_sets_12 rfl ?_
    refine ⟨fun hc => ?_, fun hc => ?_, fun hc => ?_⟩ <;> first | (exfalso; omega) | (exact ⟨rfl, rfl⟩)
/-- another letter at a place of the row leaves the pairs -/
def qt (B : Bok) (i : Nat) : Prop := ∃ v, v < B 2 ∧ v ≠ rw_ B i ∧ prC (upB B (36 + i) v) = prC B
noncomputable def qtF (B : Bok) : Nat → Nat
  | 0 => 0
  | i + 1 => @ite _ (qt B i) (Classical.propDecidable _) (qtF B i ||| 2 ^ i) (qtF B i)
theorem qtF_t {B : Bok} {i : Nat} (h : qt B i) : qtF B (i + 1) = qtF B i ||| 2 ^ i := if_pos h
theorem qtF_f {B : Bok} {i : Nat} (h : ¬ qt B i) : qtF B (i + 1) = qtF B i := if_neg h
theorem qtF_lt (B : Bok) : ∀ i, i ≤ 8 → qtF B i < 256
  | 0, _ => by show 0 < 256; decide
  | i + 1, hi => by
    have := qtF_lt B i (by omega)
    by_cases h : qt B i
    · rw [qtF_t h]; exact Nat.or_lt_two_pow (n := 8) this (p2_lt (by omega))
    · rw [qtF_f h]; exact this
theorem rw_up {B : Bok} {i v q : Nat} : rw_ (upB B (36 + i) v) q = if q = i then v else rw_ B q := by
  unfold rw_ upB
  by_cases e : q = i
  · rw [if_pos e, if_pos (by omega)]
  · rw [if_neg e, if_neg (by omega)]
theorem upB_lo {B : Bok} {j v q : Nat} (h : q ≠ j) : upB B j v q = B q := upB_n _ _ h
theorem Ok_row {B : Bok} (h : Ok B) {i v : Nat} (hi : i < 8) (hv : v < B 2) : Ok (upB B (36 + i) v) := by
  obtain ⟨⟨w1, w2, w3, w4, w5, w6, w7, w8, w9, w10⟩, o1, o2, o3, o4⟩ := h
  have e2 : upB B (36 + i) v 2 = B 2 := upB_n _ _ (by omega)
  have e3 : upB B (36 + i) v 3 = B 3 := upB_n _ _ (by omega)
  have eb : ∀ s, s < 4 → bk (upB B (36 + i) v) s = bk B s := fun s hs => upB_n _ _ (by omega)
  have ew : ∀ s, s < 4 → ws (upB B (36 + i) v) s = ws B s := fun s hs => upB_n _ _ (by omega)
  have ed : ∀ s j, s < 4 → j < 4 → wd (upB B (36 + i) v) s j = wd B s j := fun s j hs hj => upB_n _ _ (by omega)
  refine ⟨⟨fun j hj => ?_, by rw [e2]; exact w2, by rw [e3]; exact w3, fun s hs => by rw [ew s hs]; exact w4 s hs, fun s hs => by rw [eb s hs]; exact w5 s hs, fun s e hs he => ?_, ?_, ?_, fun s j hs hj => by rw [ed s j hs hj]; exact w9 s j hs hj, fun q hq => ?_⟩, by rw [e2]; exact o1, by rw [e3]; exact o2, fun q hq => ?_, fun s hs => ?_⟩
  · unfold upB
    split
    · omega
    · exact w1 j hj
  · have : pt (upB B (36 + i) v) s e = pt B s e := upB_n _ _ (by omega)
    rw [this]; exact w6 s e hs he
  · rw [upB_n _ _ (by omega)]; exact w7
  · rw [upB_n _ _ (by omega)]; exact w8
  · rw [rw_up]
    split
    · omega
    · exact w10 q hq
  · rw [e3] at hq
    rw [e2, rw_up]
    split
    · exact hv
    · exact o3 q hq
  · rw [e2] at hs
    have hs4 : s < 4 := by omega
    obtain ⟨a1, a2, a3⟩ := o4 s hs
    rw [eb s hs4, ew s hs4, e2]
    exact ⟨a1, a2, fun j hj => by rw [ed s j hs4 (by have := w4 s hs4; omega)]; exact a3 j hj⟩
set_option maxRecDepth 20000 in
theorem c_isq_l {d : Nat} {σ : St} {B : Bok} (hB : BkC σ 16 B) (hZ : OkZ B) (hO : Ok B) {i : Nat} (hi : i < B 3) : ∀ (fu : Nat) {v : Nat} {τ : St}, B 2 - v < fu → v ≤ B 2 → (∀ q, q < v → ¬ (q ≠ rw_ B i ∧ prC (upB B (36 + i) q) = prC B)) → (∃ q, q < B 2 ∧ BkC τ 17 (upB B (36 + i) q)) → (∀ k, k ≠ 17 → τ k = σ k) → Ev (d + 5) mX11_isQuiet 23 [.ref 0, vi i, vi (prC B), vi (rw_ B i), vi v] [] τ (fun r τ => some (vi (bC (qt B i))) = r ∧ ∀ k, k ≠ 17 → τ k = σ k) := by
  intro fu
  induction fu with
  | zero => intros; omega
  | succ fu ih =>
    intro v τ hm h1 h2 h3 h9
    have hf := hZ.wf
    have h7 := hf.2.1
    have h8 := hf.2.2.1
    refine ev_iload eX11_isQuiet_23 rfl ?_
    refine ev_aload_n eX11_isQuiet_25 rfl ?_
    refine ev_getr eX11_isQuiet_26 fX11_26 rfl ?_
    refine ev_cV0 eX11_isQuiet_29 ⟨lX11_152, kX0_sortCount⟩ rfl rfl (c_sortCount Bq3 (B := B) (fun j hj => by rw [h9 16 (by decide)]; exact hB j hj) hf.1) ?_
    rintro _ _ ⟨rfl, rfl⟩
    refine ev_icmp_ge 70 eX11_isQuiet_32 rfl (by omega) (by omega) (fun h32 => ?_) (fun h32 => ?_)
    · skip
      refine ev_iconst eX11_isQuiet_70 ?_
      refine ev_zret eX11_isQuiet_71 rfl (Or.inl rfl) ?_
      exact ⟨congrArg (fun q => some (vi q)) (bI_f (fun ⟨q, q1, q2, q3⟩ => h2 q (by omega) ⟨q2, q3⟩)), h9⟩
    · skip
      refine ev_aload_n eX11_isQuiet_35 rfl ?_
      refine ev_getr eX11_isQuiet_36 fX11_30 rfl ?_
      refine ev_iload_n eX11_isQuiet_39 rfl ?_
      refine ev_iload eX11_isQuiet_40 rfl ?_
      refine ev_cV2 eX11_isQuiet_42 ⟨lX11_388, kX0_setRowLetter⟩ rfl rfl (c_setRowLetter Bq4 (i := i) (x := (v : Int)) (by omega)) ?_
      rintro _ _ ⟨rfl, rfl⟩
      have hB4 : BkC (up τ (4 + 13) (36 + i) (v : Int)) 17 (upB B (36 + i) v) := fun j hj => by
        obtain ⟨q, -, hq⟩ := h3
        by_cases e : j = 36 + i
        · subst e; rw [upB_s]; exact up_s _ _ _ _
        · rw [upB_n _ _ e]
          refine (up_n _ _ e).trans ?_
          rw [hq j hj, upB_n _ _ e]
      have hO4 := Ok_row hO (i := i) (v := v) (by omega) (by omega)
      have hpl := prC_lt hO4
      have hpl2 := prC_lt hO
      have hrl := hf.2.2.2.2.2.2.2.2.2 i (by omega)
      refine ev_iload eX11_isQuiet_45 rfl ?_
      refine ev_iload_n eX11_isQuiet_47 rfl ?_
      refine ev_icmp_eq 64 eX11_isQuiet_48 rfl (by omega) (by omega) (fun h48 => ?_) (fun h48 => ?_)
      · skip
        refine ev_iinc eX11_isQuiet_64 rfl (by decide) ?_
        refine ev_goto 23 eX11_isQuiet_67 rfl ?_
        refine ih (v := v + 1) (by omega) (by omega) (fun q hq => ?_) ⟨v, by omega, hB4⟩ (fun k hk => by rw [up_o _ _ _ hk]; exact h9 k hk)
        by_cases e : q = v
        · subst e; omega
        · exact h2 q (by omega)
      · skip
        refine ev_aload_n eX11_isQuiet_51 rfl ?_
        refine ev_getr eX11_isQuiet_52 fX11_30 rfl ?_
        refine ev_cS1 eX11_isQuiet_55 ⟨lX11_290, kX7_in⟩ rfl (c_pairs Bq4 (B := upB B (36 + i) v) hB4 hO4) ?_
        rintro _ _ ⟨rfl, rfl⟩
        refine ev_iload_n eX11_isQuiet_58 rfl ?_
        refine ev_icmp_ne 64 eX11_isQuiet_59 rfl (by omega) (by omega) (fun h59 => ?_) (fun h59 => ?_)
        · skip
          refine ev_iinc eX11_isQuiet_64 rfl (by decide) ?_
          refine ev_goto 23 eX11_isQuiet_67 rfl ?_
          refine ih (v := v + 1) (by omega) (by omega) (fun q hq => ?_) ⟨v, by omega, hB4⟩ (fun k hk => by rw [up_o _ _ _ hk]; exact h9 k hk)
          by_cases e : q = v
          · subst e; omega
          · exact h2 q (by omega)
        · skip
          refine ev_iconst eX11_isQuiet_62 ?_
          refine ev_zret eX11_isQuiet_63 rfl (by first | exact Or.inl rfl | exact Or.inr rfl | exact bI01 _) ?_
          exact ⟨congrArg (fun q => some (vi q)) (bI_t ⟨v, by omega, by omega, by omega⟩), fun k hk => by rw [up_o _ _ _ hk]; exact h9 k hk⟩
set_option maxRecDepth 20000 in
theorem c_isq {d : Nat} {σ : St} {B : Bok} (hB : BkC σ 16 B) (hZ : OkZ B) (hO : Ok B) {i : Nat} (hi : i < B 3) : Ct (d + 5) mX11_isQuiet [.ref 0, vi i, vi (prC B)] σ (fun r τ => some (vi (bC (qt B i))) = r ∧ ∀ k, k ≠ 17 → τ k = σ k) := by
  refine ct_of hX11_isQuiet (Nat.le_of_ble_eq_true rfl) ?_
  have hf := hZ.wf
  have h7 := hf.2.1
  have h8 := hf.2.2.1
  refine ev_aload_n eX11_isQuiet_0 rfl ?_
  refine ev_getr eX11_isQuiet_1 fX11_26 rfl ?_
  refine ev_iload_n eX11_isQuiet_4 rfl ?_
  refine ev_cV1 eX11_isQuiet_5 ⟨lX11_241, kX0_rowLetter⟩ rfl rfl (c_rowLetter Bq3 hB hf.1 (i := i) (by omega)) ?_
  rintro _ _ ⟨rfl, rfl⟩
  refine ev_istore_n eX11_isQuiet_8 (by decide) ?_
  refine ev_aload_n eX11_isQuiet_9 rfl ?_
  refine ev_getr eX11_isQuiet_10 fX11_30 rfl ?_
  refine ev_aload_n eX11_isQuiet_13 rfl ?_
  refine ev_getr eX11_isQuiet_14 fX11_26 rfl ?_
  refine ev_cV1 eX11_isQuiet_17 ⟨lX11_145, kX0_takeAll⟩ rfl rfl (c_takeAll Bq4 Bq3) ?_
  rintro _ _ ⟨rfl, rfl⟩
  refine ev_iconst eX11_isQuiet_20 ?_
  refine ev_istore eX11_isQuiet_21 (by decide) ?_
  refine c_isq_l hB hZ hO hi 5 (v := 0) (by omega) (by omega) (fun q hq => by omega) ⟨rw_ B i, hO.2.2.2.1 i hi, fun j hj => ?_⟩ (fun k hk => upA_n _ _ hk)
  rw [show upA σ (4 + 13) (cpF (σ (3 + 13)) (σ (4 + 13)) 0 0 44) 17 j = σ 16 j by (show upA σ 17 _ 17 j = _); rw [upA_s, cpF_in (by omega) (by omega), Nat.sub_zero, Nat.zero_add], hB j hj]
  unfold upB
  split
  · rename_i e; subst e; rfl
  · rfl
set_option maxRecDepth 20000 in
theorem c_quiet_l {d : Nat} {σ : St} {B : Bok} (hB : BkC σ 16 B) (hZ : OkZ B) (hO : Ok B) : ∀ (fu : Nat) {i : Nat} {τ : St}, B 3 - i < fu → i ≤ B 3 → (∀ k, k ≠ 17 → τ k = σ k) → Ev (d + 6) mX11_quiet 25 [.ref 0, vi (prC B), vi (qtF B i), vi i] [] τ (fun r τ => some (vi (qtF B (B 3))) = r ∧ ∀ k, k ≠ 17 → τ k = σ k) := by
  intro fu
  induction fu with
  | zero => intros; omega
  | succ fu ih =>
    intro i τ hm h1 h9
    have hf := hZ.wf
    have h7 := hf.2.1
    have h8 := hf.2.2.1
    have hql := qtF_lt B i (by omega)
    refine ev_iload_n eX11_quiet_25 rfl ?_
    refine ev_aload_n eX11_quiet_26 rfl ?_
    refine ev_getr eX11_quiet_27 fX11_26 rfl ?_
    refine ev_cV0 eX11_quiet_30 ⟨lX11_213, kX0_rowSize⟩ rfl rfl (c_rowSize Bq3 (B := B) (fun j hj => by rw [h9 16 (by decide)]; exact hB j hj) hf.1) ?_
    rintro _ _ ⟨rfl, rfl⟩
    refine ev_icmp_ge 57 eX11_quiet_33 rfl (by omega) (by omega) (fun h33 => ?_) (fun h33 => ?_)
    · skip
      refine ev_iload_n eX11_quiet_57 rfl ?_
      refine ev_iret eX11_quiet_58 rfl ?_
      exact ⟨congrArg (fun q => some (vi q)) (by rw [show i = B 3 by omega]), h9⟩
    · skip
      refine ev_aload_n eX11_quiet_36 rfl ?_
      refine ev_iload_n eX11_quiet_37 rfl ?_
      refine ev_iload_n eX11_quiet_38 rfl ?_
      refine ev_cV2 eX11_quiet_39 ⟨lX11_319, kX11_isQuiet⟩ rfl rfl (c_isq (B := B) (fun j hj => by rw [h9 16 (by decide)]; exact hB j hj) hZ hO (i := i) (by omega)) ?_
      rintro _ ξ ⟨rfl, g⟩
      refine ev_ifb_eq 51 eX11_quiet_42 rfl (fun h42 => ?_) (fun h42 => ?_)
      · skip
        refine ev_iinc eX11_quiet_51 rfl (by decide) ?_
        refine ev_goto 25 eX11_quiet_54 rfl ?_
        first | (rw [← qtF_f h42]; exact ih (i := i + 1) (by omega) (by omega) (fun k hk => by rw [g k hk]; exact h9 k hk)) | (rw [← qtF_t h42]; exact ih (i := i + 1) (by omega) (by omega) (fun k hk => by rw [g k hk]; exact h9 k hk))
      · skip
        refine ev_iload_n eX11_quiet_45 rfl ?_
        refine ev_iconst eX11_quiet_46 ?_
        refine ev_iload_n eX11_quiet_47 rfl ?_
        refine ev_ishl eX11_quiet_48 ?_
        refine ev_ior eX11_quiet_49 ?_
        rw [sh1 (by omega), iOr_n (by omega) (p2_30 (by omega))]
        refine ev_istore_n eX11_quiet_50 (by decide) ?_
        refine ev_iinc eX11_quiet_51 rfl (by decide) ?_
        refine ev_goto 25 eX11_quiet_54 rfl ?_
        first | (rw [← qtF_f h42]; exact ih (i := i + 1) (by omega) (by omega) (fun k hk => by rw [g k hk]; exact h9 k hk)) | (rw [← qtF_t h42]; exact ih (i := i + 1) (by omega) (by omega) (fun k hk => by rw [g k hk]; exact h9 k hk))
set_option maxRecDepth 20000 in
theorem o_quiet {d : Nat} {σ : St} {B : Bok} (hB : BkC σ 16 B) (hZ : OkZ B)  : Ct (d + 6) mX11_quiet [.ref 0] σ (fun r τ => (B 2 = 0 → some (vi (-1000002)) = r ∧ σ = τ) ∧ (0 < B 2 → some (vi (qtF B (B 3))) = r ∧ ∀ k, k ≠ 17 → τ k = σ k)) := by
  refine ct_of hX11_quiet (Nat.le_of_ble_eq_true rfl) ?_
  have hf := hZ.wf
  have h7 := hf.2.1
  refine ev_aload_n eX11_quiet_0 rfl ?_
  refine ev_getr eX11_quiet_1 fX11_26 rfl ?_
  refine ev_cV0 eX11_quiet_4 ⟨lX11_197, kX0_stands⟩ rfl rfl (c_stands Bq3 hB hf.1) ?_
  rintro _ _ ⟨rfl, rfl⟩
  refine ev_ifb_ne 13 eX11_quiet_7 rfl (fun h7 => ?_) (fun h7 => ?_)
  · skip
    have hO := hZ.ok (by omega)
    refine ev_aload_n eX11_quiet_13 rfl ?_
    refine ev_getr eX11_quiet_14 fX11_26 rfl ?_
    refine ev_cS1 eX11_quiet_17 ⟨lX11_290, kX7_in⟩ rfl (c_pairs Bq3 hB hO) ?_
    rintro _ _ ⟨rfl, rfl⟩
    refine ev_istore_n eX11_quiet_20 (by decide) ?_
    refine ev_iconst eX11_quiet_21 ?_
    refine ev_istore_n eX11_quiet_22 (by decide) ?_
    refine ev_iconst eX11_quiet_23 ?_
    refine ev_istore_n eX11_quiet_24 (by decide) ?_
    refine ev_mono (fun r τ h => ?_) (c_quiet_l hB hZ hO 9 (i := 0) (by have := hf.2.2.1; omega) (by omega) (fun k _ => rfl))
    refine ⟨fun hc => ?_, fun hc => h⟩
    exfalso; omega
  · skip
    refine ev_ldc eX11_quiet_10 qX11_158 ?_
    refine ev_iret eX11_quiet_12 rfl ?_
    refine ⟨fun hc => ?_, fun hc => ?_⟩ <;> first | (exfalso; omega) | (exact ⟨rfl, rfl⟩)
