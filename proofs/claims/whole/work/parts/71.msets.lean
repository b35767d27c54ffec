/-! the reference: sets, scales -/
theorem wgt_t {B : Bok} {P i : Nat} (h : P.testBit i = true) : wgt B P (i + 1) = wgt B P i + ln B (rw_ B i) 0 := by
  show wgt B P i + (if P / 2 ^ i % 2 = 1 then ln B (rw_ B i) 0 else 0) = _
  rw [if_pos ((bit_div P i).1 h)]
theorem wgt_f {B : Bok} {P i : Nat} (h : ¬ P.testBit i = true) : wgt B P (i + 1) = wgt B P i := by
  show wgt B P i + (if P / 2 ^ i % 2 = 1 then ln B (rw_ B i) 0 else 0) = _
  rw [if_neg (fun z => h ((bit_div P i).2 z))]; rfl
set_option maxRecDepth 20000 in
theorem m_sets_i {d : Nat} {σ : St} {B : Bok} (hM : MBk σ 49 B) (hf : Wf B) {v e P : Nat} (hP : P < 256) {post : Option Value → St → Prop} (hk : Ev (d + 2) mX12_sets 122 [.ref 45, vi v, vi e, vi (B 3), vi (sfM B v P), vi (sfA B v P), vi (sfO B v P), vi P, vi (wgt B P (B 3)), vi (B 3)] [] σ post) : ∀ (fu : Nat) {k : Nat}, B 3 - k < fu → k ≤ B 3 → Ev (d + 2) mX12_sets 74 [.ref 45, vi v, vi e, vi (B 3), vi (sfM B v P), vi (sfA B v P), vi (sfO B v P), vi P, vi (wgt B P k), vi k] [] σ (post) := by
  intro fu
  induction fu with
  | zero => intros; omega
  | succ fu ih =>
    intro k hm h1
    have h7 := hf.2.1
    have h8 := hf.2.2.1
    refine ev_iload eX12_sets_74 rfl ?_
    refine ev_iload_n eX12_sets_76 rfl ?_
    refine ev_icmp_ge 122 eX12_sets_77 rfl (by omega) (by omega) (fun h77 => ?_) (fun h77 => ?_)
    · skip
      obtain rfl : k = B 3 := by omega
      exact hk
    · skip
      refine ev_iload eX12_sets_80 rfl ?_
      refine ev_iload eX12_sets_82 rfl ?_
      refine ev_iload eX12_sets_84 rfl ?_
      refine ev_cS2 eX12_sets_86 ⟨lX12_85, kX12_has⟩ rfl (m_has (P := P) (k := k) (by omega) (by omega)) ?_
      rintro _ _ ⟨rfl, rfl⟩
      refine ev_ifb_eq 112 eX12_sets_89 rfl (fun hb => ?_) (fun hb => ?_)
      · skip
        refine ev_iconst eX12_sets_112 ?_
        refine ev_iadd eX12_sets_113 ?_
        refine ev_istore eX12_sets_114 (by decide) ?_
        refine ev_n1 (lv2 := [.ref 45, vi v, vi e, vi (B 3), vi (sfM B v P), vi (sfA B v P), vi (sfO B v P), vi P, vi ((wgt B P k : Int) + 0), vi k]) rfl ?_
        refine ev_iinc eX12_sets_116 rfl (by decide) ?_
        refine ev_n1 (lv2 := [.ref 45, vi v, vi e, vi (B 3), vi (sfM B v P), vi (sfA B v P), vi (sfO B v P), vi P, vi ((wgt B P k : Int) + 0), vi ((k : Int) + 1)]) rfl ?_
        refine ev_goto 74 eX12_sets_119 rfl ?_
        first | (rw [← Int.natCast_add, ← wgt_t hb]; exact ih (k := k + 1) (by omega) (by omega)) | (rw [Int.add_zero, ← wgt_f hb]; exact ih (k := k + 1) (by omega) (by omega))
      · skip
        refine ev_aload_n eX12_sets_92 rfl ?_
        refine ev_getr eX12_sets_93 fX12_19 rfl ?_
        refine ev_aload_n eX12_sets_96 rfl ?_
        refine ev_getr eX12_sets_97 fX12_19 rfl ?_
        refine ev_iconst eX12_sets_100 ?_
        refine ev_iload eX12_sets_101 rfl ?_
        refine ev_iadd eX12_sets_103 ?_
        have hr4 := hf.2.2.2.2.2.2.2.2.2 k (by omega)
        refine ev_ialdv ((4 + k)) eX12_sets_104 rfl (by first | rfl | omega) (by omega) (hM.R (i := k) (by omega)) ?_
        refine ev_iconst eX12_sets_105 ?_
        refine ev_cS3 eX12_sets_106 ⟨lX12_226, kX12_lengthOf⟩ rfl (m_lengthOf (Or.inl rfl) hM hf (s := rw_ B k) (v := 0) (by omega) (by omega)) ?_
        rintro _ _ ⟨rfl, rfl⟩
        refine ev_goto 113 eX12_sets_109 rfl ?_
        refine ev_iadd eX12_sets_113 ?_
        refine ev_istore eX12_sets_114 (by decide) ?_
        refine ev_n1 (lv2 := [.ref 45, vi v, vi e, vi (B 3), vi (sfM B v P), vi (sfA B v P), vi (sfO B v P), vi P, vi ((wgt B P k : Int) + (ln B (rw_ B k) 0 : Int)), vi k]) rfl ?_
        refine ev_iinc eX12_sets_116 rfl (by decide) ?_
        refine ev_n1 (lv2 := [.ref 45, vi v, vi e, vi (B 3), vi (sfM B v P), vi (sfA B v P), vi (sfO B v P), vi P, vi ((wgt B P k : Int) + (ln B (rw_ B k) 0 : Int)), vi ((k : Int) + 1)]) rfl ?_
        refine ev_goto 74 eX12_sets_119 rfl ?_
        first | (rw [← Int.natCast_add, ← wgt_t hb]; exact ih (k := k + 1) (by omega) (by omega)) | (rw [Int.add_zero, ← wgt_f hb]; exact ih (k := k + 1) (by omega) (by omega))
set_option maxRecDepth 20000 in
theorem m_sets_o {d : Nat} {σ : St} {B : Bok} (hM : MBk σ 49 B) (hf : Wf B) {v e : Nat} (hv : v ≤ 99) (he : e ≤ 2) : ∀ (fu : Nat) {P : Nat} {u8 u9 : Value}, 2 ^ B 3 - P < fu → P ≤ 2 ^ B 3 → Ev (d + 2) mX12_sets 60 [.ref 45, vi v, vi e, vi (B 3), vi (sfM B v P), vi (sfA B v P), vi (sfO B v P), vi P, u8, u9] [] σ (rt (vi (setA B v e)) σ) := by
  intro fu
  induction fu with
  | zero => intros; omega
  | succ fu ih =>
    intro P u8 u9 hm h1
    have h7 := hf.2.1
    have h8 := hf.2.2.1
    have h256 := p2_256 h8
    have ⟨r1, r2⟩ := sf_r B v P (by omega)
    have r3 := r2 h256
    refine ev_iload eX12_sets_60 rfl ?_
    refine ev_iconst eX12_sets_62 ?_
    refine ev_iload_n eX12_sets_63 rfl ?_
    refine ev_ishl eX12_sets_64 ?_
    rw [sh1 (by omega)]
    refine ev_icmp_ge 151 eX12_sets_65 rfl (by omega) (by omega) (fun h65 => ?_) (fun h65 => ?_)
    · skip
      obtain rfl : P = 2 ^ B 3 := by omega
      refine ev_iload_n eX12_sets_151 rfl ?_
      refine ev_if_ne 160 eX12_sets_152 rfl (by omega) (fun h152 => ?_) (fun h152 => ?_)
      · skip
        refine ev_iload_n eX12_sets_160 rfl ?_
        refine ev_iconst eX12_sets_161 ?_
        refine ev_icmp_ne 170 eX12_sets_162 rfl (by omega) (by omega) (fun h162 => ?_) (fun h162 => ?_)
        · skip
          refine ev_iload eX12_sets_170 rfl ?_
          refine ev_if_le 180 eX12_sets_172 rfl (by omega) (fun h172 => ?_) (fun h172 => ?_)
          · skip
            refine ev_iconst eX12_sets_180 ?_
            refine ev_iret eX12_sets_181 rfl ?_
            obtain rfl : e = 1 := by omega
            exact ⟨congrArg (fun q => some (vi q)) (by rw [setA_1, if_pos (by omega)]; rfl), rfl⟩
          · skip
            refine ev_iload eX12_sets_175 rfl ?_
            refine ev_goto 181 eX12_sets_177 rfl ?_
            refine ev_iret eX12_sets_181 rfl ?_
            obtain rfl : e = 1 := by omega
            exact ⟨congrArg (fun q => some (vi q)) (by rw [setA_1, if_neg (by omega)]), rfl⟩
        · skip
          refine ev_iload eX12_sets_165 rfl ?_
          refine ev_goto 181 eX12_sets_167 rfl ?_
          refine ev_iret eX12_sets_181 rfl ?_
          obtain rfl : e = 2 := by omega
          exact ⟨rfl, rfl⟩
      · skip
        refine ev_iload eX12_sets_155 rfl ?_
        refine ev_goto 181 eX12_sets_157 rfl ?_
        refine ev_iret eX12_sets_181 rfl ?_
        obtain rfl : e = 0 := by omega
        exact ⟨rfl, rfl⟩
    · skip
      refine ev_iconst eX12_sets_68 ?_
      refine ev_istore eX12_sets_69 (by decide) ?_
      refine ev_n1 (lv2 := [.ref 45, vi v, vi e, vi (B 3), vi (sfM B v P), vi (sfA B v P), vi (sfO B v P), vi P, vi 0, u9]) rfl ?_
      refine ev_iconst eX12_sets_71 ?_
      refine ev_istore eX12_sets_72 (by decide) ?_
      refine ev_n1 (lv2 := [.ref 45, vi v, vi e, vi (B 3), vi (sfM B v P), vi (sfA B v P), vi (sfO B v P), vi P, vi 0, vi 0]) rfl ?_
      have hwl := wgt_le hf P (B 3) h8
      refine m_sets_i hM hf (by omega) ?_ 9 (k := 0) (by omega) (by omega)
      refine ev_iload eX12_sets_122 rfl ?_
      refine ev_iload_n eX12_sets_124 rfl ?_
      refine ev_icmp_ne 145 eX12_sets_125 rfl (by omega) (by omega) (fun h125 => ?_) (fun h125 => ?_)
      · skip
        refine ev_iinc eX12_sets_145 rfl (by decide) ?_
        refine ev_n1 (lv2 := [.ref 45, vi v, vi e, vi (B 3), vi (sfM B v P), vi (sfA B v P), vi (sfO B v P), vi ((P : Int) + 1), vi (wgt B P (B 3)), vi (B 3)]) rfl ?_
        refine ev_goto 60 eX12_sets_148 rfl ?_
        obtain ⟨e1, e2, e3⟩ := sf_f (B := B) (v := v) (P := P) (by omega)
        rw [← e1, ← e2, ← e3]
        exact ih (P := P + 1) (by omega) (by omega)
      · skip
        refine ev_iinc eX12_sets_128 rfl (by decide) ?_
        refine ev_n1 (lv2 := [.ref 45, vi v, vi e, vi (B 3), vi ((sfM B v P : Int) + 1), vi (sfA B v P), vi (sfO B v P), vi P, vi (wgt B P (B 3)), vi (B 3)]) rfl ?_
        refine ev_iload eX12_sets_131 rfl ?_
        refine ev_iload eX12_sets_133 rfl ?_
        refine ev_iand eX12_sets_135 ?_
        rw [iAnd_n (by omega) (by omega)]
        refine ev_istore eX12_sets_136 (by decide) ?_
        refine ev_n1 (lv2 := [.ref 45, vi v, vi e, vi (B 3), vi ((sfM B v P : Int) + 1), vi ((sfA B v P &&& P : Nat) : Int), vi (sfO B v P), vi P, vi (wgt B P (B 3)), vi (B 3)]) rfl ?_
        refine ev_iload eX12_sets_138 rfl ?_
        refine ev_iload eX12_sets_140 rfl ?_
        refine ev_ior eX12_sets_142 ?_
        rw [iOr_n (by omega) (by omega)]
        refine ev_istore eX12_sets_143 (by decide) ?_
        refine ev_n1 (lv2 := [.ref 45, vi v, vi e, vi (B 3), vi ((sfM B v P : Int) + 1), vi ((sfA B v P &&& P : Nat) : Int), vi ((sfO B v P ||| P : Nat) : Int), vi P, vi (wgt B P (B 3)), vi (B 3)]) rfl ?_
        refine ev_iinc eX12_sets_145 rfl (by decide) ?_
        refine ev_n1 (lv2 := [.ref 45, vi v, vi e, vi (B 3), vi ((sfM B v P : Int) + 1), vi ((sfA B v P &&& P : Nat) : Int), vi ((sfO B v P ||| P : Nat) : Int), vi ((P : Int) + 1), vi (wgt B P (B 3)), vi (B 3)]) rfl ?_
        refine ev_goto 60 eX12_sets_148 rfl ?_
        obtain ⟨e1, e2, e3⟩ := sf_t (B := B) (v := v) (P := P) (by omega)
        rw [show ((sfM B v P : Int) + 1) = (sfM B v (P + 1) : Int) by rw [e1]; push_cast; rfl, ← e2, ← e3]
        exact ih (P := P + 1) (by omega) (by omega)
set_option maxRecDepth 20000 in
theorem m_sets {d : Nat} {σ : St} {B : Bok} (hM : MBk σ 49 B) (hZ : OkZ B) {v e : Int} (hv : -2147483648 ≤ v ∧ v ≤ 2147483647) (he : -2147483648 ≤ e ∧ e ≤ 2147483647) : Ct (d + 2) mX12_sets [.ref 45, vi v, vi e] σ (fun r τ => (B 2 = 0 → some (vi (-1000002)) = r ∧ σ = τ) ∧ (0 < B 2 ∧ ¬ ((0 ≤ v ∧ v ≤ 99) ∧ 0 ≤ e ∧ e ≤ 2) → some (vi (-1000001)) = r ∧ σ = τ) ∧ (0 < B 2 ∧ ((0 ≤ v ∧ v ≤ 99) ∧ 0 ≤ e ∧ e ≤ 2) → some (vi (setA B v.toNat e.toNat)) = r ∧ σ = τ)) := by
  refine ct_of hX12_sets (Nat.le_of_ble_eq_true rfl) ?_
  have hf := hZ.wf
  have h7 := hf.2.1
  have h8 := hf.2.2.1
  refine ev_aload_n eX12_sets_0 rfl ?_
  refine ev_cV0 eX12_sets_1 ⟨lX12_197, kX12_isThere⟩ rfl rfl (m_isThere hM hZ.wf) ?_
  rintro _ _ ⟨rfl, rfl⟩
  refine ev_ifb_ne 10 eX12_sets_4 rfl (fun h4 => ?_) (fun h4 => ?_)
  · skip
    refine ev_iload_n eX12_sets_10 rfl ?_
    refine ev_i2l eX12_sets_11 (by omega) ?_
    refine ev_lconst 0 eX12_sets_12 rfl ?_
    refine ev_ldc2 eX12_sets_13 qX12_284 ?_
    refine ev_cS3 eX12_sets_16 ⟨lX12_70, kX12_in⟩ rfl (m_in (a := v) (b := 0) (c := 99) (by omega) (by omega) (by omega)) ?_
    rintro _ _ ⟨rfl, rfl⟩
    refine ev_ifb_eq 34 eX12_sets_19 rfl (fun h19 => ?_) (fun h19 => ?_)
    · skip
      refine ev_ldc eX12_sets_34 qX12_80 ?_
      refine ev_iret eX12_sets_36 rfl ?_
      refine ⟨fun hc => ?_, fun hc => ?_, fun hc => ?_⟩ <;> first | (exfalso; omega) | (exact ⟨rfl, rfl⟩)
    · skip
      refine ev_iload_n eX12_sets_22 rfl ?_
      refine ev_i2l eX12_sets_23 (by omega) ?_
      refine ev_lconst 0 eX12_sets_24 rfl ?_
      refine ev_ldc2 eX12_sets_25 qX12_78 ?_
      refine ev_cS3 eX12_sets_28 ⟨lX12_70, kX12_in⟩ rfl (m_in (a := e) (b := 0) (c := 2) (by omega) (by omega) (by omega)) ?_
      rintro _ _ ⟨rfl, rfl⟩
      refine ev_ifb_ne 37 eX12_sets_31 rfl (fun h31 => ?_) (fun h31 => ?_)
      · skip
        obtain ⟨v, rfl⟩ : ∃ q : Nat, v = q := ⟨v.toNat, by omega⟩
        obtain ⟨e, rfl⟩ : ∃ q : Nat, e = q := ⟨e.toNat, by omega⟩
        rw [Int.toNat_natCast, Int.toNat_natCast]
        refine ev_aload_n eX12_sets_37 rfl ?_
        refine ev_getr eX12_sets_38 fX12_19 rfl ?_
        refine ev_iconst eX12_sets_41 ?_
        refine ev_ialdv (3) eX12_sets_42 rfl (by first | rfl | omega) (by omega) hM.N ?_
        refine ev_istore_n eX12_sets_43 (by decide) ?_
        refine ev_iconst eX12_sets_44 ?_
        refine ev_istore eX12_sets_45 (by decide) ?_
        refine ev_iconst eX12_sets_47 ?_
        refine ev_iload_n eX12_sets_48 rfl ?_
        refine ev_ishl eX12_sets_49 ?_
        refine ev_iconst eX12_sets_50 ?_
        refine ev_isub eX12_sets_51 ?_
        rw [sh1 (by omega), show (((2 ^ B 3 : Nat) : Int) - 1) = (sfA B v 0 : Int) by (show _ = ((2 ^ B 3 - 1 : Nat) : Int)); have := Nat.two_pow_pos (B 3); omega]
        refine ev_istore eX12_sets_52 (by decide) ?_
        refine ev_iconst eX12_sets_54 ?_
        refine ev_istore eX12_sets_55 (by decide) ?_
        refine ev_iconst eX12_sets_57 ?_
        refine ev_istore eX12_sets_58 (by decide) ?_
        refine ev_mono (fun r τ h => ?_) (m_sets_o hM hf (v := v) (e := e) (by omega) (by omega) (2 ^ B 3 + 1) (P := 0) (Nat.lt_succ_of_le (Nat.sub_le _ _)) (Nat.zero_le _))
        obtain ⟨rfl, rfl⟩ := h
        refine ⟨fun hc => ?_, fun hc => ?_, fun hc => ?_⟩ <;> first | (exfalso; omega) | (exact ⟨rfl, rfl⟩)
      · skip
        refine ev_ldc eX12_sets_34 qX12_80 ?_
        refine ev_iret eX12_sets_36 rfl ?_
        refine ⟨fun hc => ?_, fun hc => ?_, fun hc => ?_⟩ <;> first | (exfalso; omega) | (exact ⟨rfl, rfl⟩)
  · skip
    refine ev_ldc eX12_sets_7 qX12_178 ?_
    refine ev_iret eX12_sets_9 rfl ?_
    refine ⟨fun hc => ?_, fun hc => ?_, fun hc => ?_⟩ <;> first | (exfalso; omega) | (exact ⟨rfl, rfl⟩)
set_option maxRecDepth 20000 in
theorem m_sc_i {d : Nat} {σ : St} {B : Bok} (hM : MBk σ 49 B) (hf : Wf B) {s t x : Nat} {a : Int} (hx : x < 4) {post : Option Value → St → Prop} (hk : Ev (d + 2) mX12_isScale 117 [.ref 45, vi s, vi t, vi a, vi x, vi (ln B x 0), vi (ln B x 1), vi (imL B x 0), vi (imL B x 1), vi (im B x)] [] σ post) : ∀ (fu : Nat) {i : Nat}, im B x - i < fu → i ≤ im B x → Ev (d + 2) mX12_isScale 49 [.ref 45, vi s, vi t, vi a, vi x, vi (ln B x 0), vi (ln B x 1), vi (sumF (fun j => ln B (il B x j) 0) i), vi (sumF (fun j => ln B (il B x j) 1) i), vi i] [] σ (post) := by
  intro fu
  induction fu with
  | zero => intros; omega
  | succ fu ih =>
    intro i hm h1
    have him := im_le hf hx
    refine ev_iload eX12_isScale_49 rfl ?_
    refine ev_aload_n eX12_isScale_51 rfl ?_
    refine ev_getr eX12_isScale_52 fX12_19 rfl ?_
    refine ev_iload eX12_isScale_55 rfl ?_
    refine ev_cS2 eX12_isScale_57 ⟨lX12_100, kX12_imageSize⟩ rfl (m_imageSize (Or.inl rfl) hM hf (s := x) hx) ?_
    rintro _ _ ⟨rfl, rfl⟩
    refine ev_icmp_ge 117 eX12_isScale_60 rfl (by omega) (by omega) (fun h60 => ?_) (fun h60 => ?_)
    · skip
      obtain rfl : i = im B x := by omega
      exact hk
    · skip
      refine ev_iload eX12_isScale_63 rfl ?_
      refine ev_aload_n eX12_isScale_65 rfl ?_
      refine ev_getr eX12_isScale_66 fX12_19 rfl ?_
      refine ev_aload_n eX12_isScale_69 rfl ?_
      refine ev_getr eX12_isScale_70 fX12_19 rfl ?_
      refine ev_iload eX12_isScale_73 rfl ?_
      refine ev_iload eX12_isScale_75 rfl ?_
      refine ev_cS3 eX12_isScale_77 ⟨lX12_103, kX12_imageAt⟩ rfl (m_imageAt (Or.inl rfl) hM hf (s := x) (i := i) hx (by omega)) ?_
      rintro _ _ ⟨rfl, rfl⟩
      have hil := il_lt hf hx (i := i) (by omega)
      refine ev_iconst eX12_isScale_80 ?_
      refine ev_cS3 eX12_isScale_81 ⟨lX12_226, kX12_lengthOf⟩ rfl (m_lengthOf (Or.inl rfl) hM hf (s := il B x i) (v := 0) (by omega) (by omega)) ?_
      rintro _ _ ⟨rfl, rfl⟩
      refine ev_iadd eX12_isScale_84 ?_
      refine ev_istore eX12_isScale_85 (by decide) ?_
      refine ev_n1 (lv2 := [.ref 45, vi s, vi t, vi a, vi x, vi (ln B x 0), vi (ln B x 1), vi (((sumF (fun j => ln B (il B x j) 0) i : Nat) : Int) + (ln B (il B x i) 0 : Int)), vi (sumF (fun j => ln B (il B x j) 1) i), vi i]) rfl ?_
      refine ev_iload eX12_isScale_87 rfl ?_
      refine ev_aload_n eX12_isScale_89 rfl ?_
      refine ev_getr eX12_isScale_90 fX12_19 rfl ?_
      refine ev_aload_n eX12_isScale_93 rfl ?_
      refine ev_getr eX12_isScale_94 fX12_19 rfl ?_
      refine ev_iload eX12_isScale_97 rfl ?_
      refine ev_iload eX12_isScale_99 rfl ?_
      refine ev_cS3 eX12_isScale_101 ⟨lX12_103, kX12_imageAt⟩ rfl (m_imageAt (Or.inl rfl) hM hf (s := x) (i := i) hx (by omega)) ?_
      rintro _ _ ⟨rfl, rfl⟩
      have hil := il_lt hf hx (i := i) (by omega)
      refine ev_iconst eX12_isScale_104 ?_
      refine ev_cS3 eX12_isScale_105 ⟨lX12_226, kX12_lengthOf⟩ rfl (m_lengthOf (Or.inl rfl) hM hf (s := il B x i) (v := 1) (by omega) (by omega)) ?_
      rintro _ _ ⟨rfl, rfl⟩
      refine ev_iadd eX12_isScale_108 ?_
      refine ev_istore eX12_isScale_109 (by decide) ?_
      refine ev_n1 (lv2 := [.ref 45, vi s, vi t, vi a, vi x, vi (ln B x 0), vi (ln B x 1), vi (((sumF (fun j => ln B (il B x j) 0) i : Nat) : Int) + (ln B (il B x i) 0 : Int)), vi (((sumF (fun j => ln B (il B x j) 1) i : Nat) : Int) + (ln B (il B x i) 1 : Int)), vi i]) rfl ?_
      refine ev_iinc eX12_isScale_111 rfl (by decide) ?_
      refine ev_n1 (lv2 := [.ref 45, vi s, vi t, vi a, vi x, vi (ln B x 0), vi (ln B x 1), vi (((sumF (fun j => ln B (il B x j) 0) i : Nat) : Int) + (ln B (il B x i) 0 : Int)), vi (((sumF (fun j => ln B (il B x j) 1) i : Nat) : Int) + (ln B (il B x i) 1 : Int)), vi ((i : Int) + 1)]) rfl ?_
      refine ev_goto 49 eX12_isScale_114 rfl ?_
      exact ih (i := i + 1) (by omega) (by omega)
set_option maxRecDepth 20000 in
theorem m_sc_o {d : Nat} {σ : St} {B : Bok} (hM : MBk σ 49 B) (hf : Wf B) {s t : Nat} (hs : s ≤ 9) (ht : t ≤ 9) : ∀ (fu : Nat) {x : Nat} {a : Int} {u5 u6 u7 u8 u9 : Value}, B 2 - x < fu → x ≤ B 2 → a = bC (∀ q, q < x → ScX B s t q) → Ev (d + 2) mX12_isScale 5 [.ref 45, vi s, vi t, vi a, vi x, u5, u6, u7, u8, u9] [] σ (rt (vi (bC (Sc B s t))) σ) := by
  intro fu
  induction fu with
  | zero => intros; omega
  | succ fu ih =>
    intro x a u5 u6 u7 u8 u9 hm h1 ha
    have h7 := hf.2.1
    have h8 := hf.2.2.1
    refine ev_iload eX12_isScale_5 rfl ?_
    refine ev_aload_n eX12_isScale_7 rfl ?_
    refine ev_getr eX12_isScale_8 fX12_19 rfl ?_
    refine ev_iconst eX12_isScale_11 ?_
    refine ev_ialdv (0) eX12_isScale_12 rfl (by first | rfl | omega) (by omega) hM.S ?_
    refine ev_icmp_ge 180 eX12_isScale_13 rfl (by omega) (by omega) (fun h13 => ?_) (fun h13 => ?_)
    · skip
      refine ev_iload_n eX12_isScale_180 rfl ?_
      refine ev_zret eX12_isScale_181 rfl (by rw [ha]; exact bI01 _) ?_
      rw [ha]
      exact ⟨congrArg (fun q => some (vi q)) (by rw [show x = B 2 by omega]; rfl), rfl⟩
    · skip
      have l0 := ln_le hf (s := x) (v := 0) (by omega) (by omega)
      have l1 := ln_le hf (s := x) (v := 1) (by omega) (by omega)
      have i0 := imL_le hf (x := x) (v := 0) (by omega) (by omega)
      have i1 := imL_le hf (x := x) (v := 1) (by omega) (by omega)
      have m1 := mul_le hs l0
      have m2 := mul_le hs l1
      have m3 := mul_le ht l0
      have m4 := mul_le ht l1
      have m5 := mul_le m4 (show B (0 + 1) ≤ 9 from hf.2.2.2.2.2.2.2.1)
      have m6 := mul_le m4 (show B (0 + 0) ≤ 9 from hf.2.2.2.2.2.2.1)
      refine ev_aload_n eX12_isScale_16 rfl ?_
      refine ev_getr eX12_isScale_17 fX12_19 rfl ?_
      refine ev_iload eX12_isScale_20 rfl ?_
      refine ev_iconst eX12_isScale_22 ?_
      refine ev_cS3 eX12_isScale_23 ⟨lX12_226, kX12_lengthOf⟩ rfl (m_lengthOf (Or.inl rfl) hM hf (s := x) (v := 0) (by omega) (by omega)) ?_
      rintro _ _ ⟨rfl, rfl⟩
      refine ev_istore eX12_isScale_26 (by decide) ?_
      refine ev_n1 (lv2 := [.ref 45, vi s, vi t, vi a, vi x, vi (ln B x 0), u6, u7, u8, u9]) rfl ?_
      refine ev_aload_n eX12_isScale_28 rfl ?_
      refine ev_getr eX12_isScale_29 fX12_19 rfl ?_
      refine ev_iload eX12_isScale_32 rfl ?_
      refine ev_iconst eX12_isScale_34 ?_
      refine ev_cS3 eX12_isScale_35 ⟨lX12_226, kX12_lengthOf⟩ rfl (m_lengthOf (Or.inl rfl) hM hf (s := x) (v := 1) (by omega) (by omega)) ?_
      rintro _ _ ⟨rfl, rfl⟩
      refine ev_istore eX12_isScale_38 (by decide) ?_
      refine ev_n1 (lv2 := [.ref 45, vi s, vi t, vi a, vi x, vi (ln B x 0), vi (ln B x 1), u7, u8, u9]) rfl ?_
      refine ev_iconst eX12_isScale_40 ?_
      refine ev_istore eX12_isScale_41 (by decide) ?_
      refine ev_n1 (lv2 := [.ref 45, vi s, vi t, vi a, vi x, vi (ln B x 0), vi (ln B x 1), vi 0, u8, u9]) rfl ?_
      refine ev_iconst eX12_isScale_43 ?_
      refine ev_istore eX12_isScale_44 (by decide) ?_
      refine ev_n1 (lv2 := [.ref 45, vi s, vi t, vi a, vi x, vi (ln B x 0), vi (ln B x 1), vi 0, vi 0, u9]) rfl ?_
      refine ev_iconst eX12_isScale_46 ?_
      refine ev_istore eX12_isScale_47 (by decide) ?_
      refine ev_n1 (lv2 := [.ref 45, vi s, vi t, vi a, vi x, vi (ln B x 0), vi (ln B x 1), vi 0, vi 0, vi 0]) rfl ?_
      refine m_sc_i hM hf (by omega) ?_ 5 (i := 0) (by have := im_le hf (s := x) (by omega); omega) (by omega)
      subst ha
      refine ev_iload_n eX12_isScale_117 rfl ?_
      refine ev_ifb_eq 172 eX12_isScale_118 rfl (fun hz => ?_) (fun hz => ?_)
      · skip
        refine ev_iconst eX12_isScale_172 ?_
        refine ev_istore_n eX12_isScale_173 (by decide) ?_
        refine ev_n1 (lv2 := [.ref 45, vi s, vi t, vi 0, vi x, vi (ln B x 0), vi (ln B x 1), vi (imL B x 0), vi (imL B x 1), vi (im B x)]) rfl ?_
        refine ev_iinc eX12_isScale_174 rfl (by decide) ?_
        refine ev_n1 (lv2 := [.ref 45, vi s, vi t, vi 0, vi ((x : Int) + 1), vi (ln B x 0), vi (ln B x 1), vi (imL B x 0), vi (imL B x 1), vi (im B x)]) rfl ?_
        refine ev_goto 5 eX12_isScale_177 rfl ?_
        exact ih (x := x + 1) (by omega) (by omega) (bI_f (fun z => hz (fun q hq => z q (by omega)))).symm
      · skip
        refine ev_iload eX12_isScale_121 rfl ?_
        refine ev_iload eX12_isScale_123 rfl ?_
        refine ev_iload_n eX12_isScale_125 rfl ?_
        refine ev_imul eX12_isScale_126 ?_
        refine ev_iload eX12_isScale_127 rfl ?_
        refine ev_iload_n eX12_isScale_129 rfl ?_
        refine ev_imul eX12_isScale_130 ?_
        refine ev_aload_n eX12_isScale_131 rfl ?_
        refine ev_getr eX12_isScale_132 fX12_19 rfl ?_
        refine ev_iconst eX12_isScale_135 ?_
        refine ev_ialdv (2) eX12_isScale_136 rfl (by first | rfl | omega) (by omega) (show σ 49 2 = (B (0 + 1) : Int) from hM.K) ?_
        refine ev_imul eX12_isScale_137 ?_
        refine ev_iadd eX12_isScale_138 ?_
        rw [show ((ln B x 0 : Int) * (s : Int) + (ln B x 1 : Int) * (t : Int) * (B (0 + 1) : Int)) = ((s * ln B x 0 + t * ln B x 1 * B (0 + 1) : Nat) : Int) by rw [Int.mul_comm (ln B x 0 : Int), Int.mul_comm (ln B x 1 : Int)]; push_cast; rfl]
        refine ev_icmp_ne 172 eX12_isScale_139 rfl (by omega) (by omega) (fun h139 => ?_) (fun h139 => ?_)
        · skip
          refine ev_iconst eX12_isScale_172 ?_
          refine ev_istore_n eX12_isScale_173 (by decide) ?_
          refine ev_n1 (lv2 := [.ref 45, vi s, vi t, vi 0, vi x, vi (ln B x 0), vi (ln B x 1), vi (imL B x 0), vi (imL B x 1), vi (im B x)]) rfl ?_
          refine ev_iinc eX12_isScale_174 rfl (by decide) ?_
          refine ev_n1 (lv2 := [.ref 45, vi s, vi t, vi 0, vi ((x : Int) + 1), vi (ln B x 0), vi (ln B x 1), vi (imL B x 0), vi (imL B x 1), vi (im B x)]) rfl ?_
          refine ev_goto 5 eX12_isScale_177 rfl ?_
          exact ih (x := x + 1) (by omega) (by omega) (bI_f (fun z => h139 (by have := (z x (by omega)).1; omega))).symm
        · skip
          refine ev_iload eX12_isScale_142 rfl ?_
          refine ev_iload eX12_isScale_144 rfl ?_
          refine ev_iload_n eX12_isScale_146 rfl ?_
          refine ev_imul eX12_isScale_147 ?_
          refine ev_iload eX12_isScale_148 rfl ?_
          refine ev_iload_n eX12_isScale_150 rfl ?_
          refine ev_imul eX12_isScale_151 ?_
          refine ev_iadd eX12_isScale_152 ?_
          refine ev_iload eX12_isScale_153 rfl ?_
          refine ev_iload_n eX12_isScale_155 rfl ?_
          refine ev_imul eX12_isScale_156 ?_
          refine ev_aload_n eX12_isScale_157 rfl ?_
          refine ev_getr eX12_isScale_158 fX12_19 rfl ?_
          refine ev_iconst eX12_isScale_161 ?_
          refine ev_ialdv (1) eX12_isScale_162 rfl (by first | rfl | omega) (by omega) (show σ 49 1 = (B (0 + 0) : Int) from hM.M) ?_
          refine ev_imul eX12_isScale_163 ?_
          refine ev_iadd eX12_isScale_164 ?_
          rw [show ((ln B x 0 : Int) * (t : Int) + (ln B x 1 : Int) * (s : Int) + (ln B x 1 : Int) * (t : Int) * (B (0 + 0) : Int)) = ((s * ln B x 1 + t * ln B x 0 + t * ln B x 1 * B (0 + 0) : Nat) : Int) by rw [Int.mul_comm (ln B x 0 : Int), Int.mul_comm (ln B x 1 : Int) (s : Int), Int.mul_comm (ln B x 1 : Int) (t : Int), Int.add_comm ((t : Int) * (ln B x 0 : Int))]; push_cast; rfl]
          refine ev_icmp_ne 172 eX12_isScale_165 rfl (by omega) (by omega) (fun h165 => ?_) (fun h165 => ?_)
          · skip
            refine ev_iconst eX12_isScale_172 ?_
            refine ev_istore_n eX12_isScale_173 (by decide) ?_
            refine ev_n1 (lv2 := [.ref 45, vi s, vi t, vi 0, vi x, vi (ln B x 0), vi (ln B x 1), vi (imL B x 0), vi (imL B x 1), vi (im B x)]) rfl ?_
            refine ev_iinc eX12_isScale_174 rfl (by decide) ?_
            refine ev_n1 (lv2 := [.ref 45, vi s, vi t, vi 0, vi ((x : Int) + 1), vi (ln B x 0), vi (ln B x 1), vi (imL B x 0), vi (imL B x 1), vi (im B x)]) rfl ?_
            refine ev_goto 5 eX12_isScale_177 rfl ?_
            exact ih (x := x + 1) (by omega) (by omega) (bI_f (fun z => h165 (by have := (z x (by omega)).2; omega))).symm
          · skip
            refine ev_iconst eX12_isScale_168 ?_
            refine ev_goto 173 eX12_isScale_169 rfl ?_
            refine ev_istore_n eX12_isScale_173 (by decide) ?_
            refine ev_n1 (lv2 := [.ref 45, vi s, vi t, vi 1, vi x, vi (ln B x 0), vi (ln B x 1), vi (imL B x 0), vi (imL B x 1), vi (im B x)]) rfl ?_
            refine ev_iinc eX12_isScale_174 rfl (by decide) ?_
            refine ev_n1 (lv2 := [.ref 45, vi s, vi t, vi 1, vi ((x : Int) + 1), vi (ln B x 0), vi (ln B x 1), vi (imL B x 0), vi (imL B x 1), vi (im B x)]) rfl ?_
            refine ev_goto 5 eX12_isScale_177 rfl ?_
            refine ih (x := x + 1) (by omega) (by omega) (bI_t (fun q hq => ?_)).symm
            by_cases e : q = x
            · subst e; exact ⟨by omega, by omega⟩
            · exact hz q (by omega)
set_option maxRecDepth 20000 in
theorem m_isScale {d : Nat} {σ : St} {B : Bok} (hM : MBk σ 49 B) (hf : Wf B) {s t : Nat} (hs : s ≤ 9) (ht : t ≤ 9) : Ct (d + 2) mX12_isScale [.ref 45, vi s, vi t] σ (rt (vi (bC (Sc B s t))) σ) := by
  refine ct_of hX12_isScale (Nat.le_of_ble_eq_true rfl) ?_
  refine ev_iconst eX12_isScale_0 ?_
  refine ev_istore_n eX12_isScale_1 (by decide) ?_
  refine ev_iconst eX12_isScale_2 ?_
  refine ev_istore eX12_isScale_3 (by decide) ?_
  exact m_sc_o hM hf hs ht 5 (x := 0) (by have := hf.2.1; omega) (by omega) (bI_t (fun q hq => by omega)).symm
def Bst (P : Nat → Prop) (m : Nat) (b : Int) : Prop := (b = -1000000 ∧ ∀ q, m ≤ q → q < 100 → ¬ P q) ∨ ∃ s : Nat, m ≤ s ∧ s < 100 ∧ P s ∧ (∀ q, m ≤ q → q < s → ¬ P q) ∧ b = (s : Int)
theorem Bst_0 {P : Nat → Prop} {b : Int} (h : Bst P 0 b) : b = if lm P 100 = -1 then -1000000 else lm P 100 := by
  rcases h with ⟨rfl, h⟩ | ⟨s, _, h2, h3, h4, rfl⟩
  · rw [lm_n (fun q hq => h q (by omega) hq), if_pos rfl]
  · rw [lm_s h2 h3 (fun q hq => h4 q (by omega) hq), if_neg (by omega)]
theorem Bst_t {P : Nat → Prop} {k : Nat} (h : P k) (hk : k < 100) : Bst P k (k : Int) := Or.inr ⟨k, Nat.le_refl _, hk, h, fun q a b => by omega, rfl⟩
theorem Bst_f {P : Nat → Prop} {k : Nat} {b : Int} (h : ¬ P k) (hb : Bst P (k + 1) b) : Bst P k b := by
  rcases hb with ⟨rfl, hb⟩ | ⟨s, h1, h2, h3, h4, rfl⟩
  · refine Or.inl ⟨rfl, fun q a c => ?_⟩
    by_cases e : q = k
    · subst e; exact h
    · exact hb q (by omega) c
  · refine Or.inr ⟨s, by omega, h2, h3, fun q a c => ?_, rfl⟩
    by_cases e : q = k
    · subst e; exact h
    · exact h4 q (by omega) c
noncomputable def sclN (B : Bok) : Int := if scl B = -1 then -1000000 else scl B
set_option maxRecDepth 20000 in
theorem m_scale_l {d : Nat} {σ : St} {B : Bok} (hM : MBk σ 49 B) (hf : Wf B)  : ∀ (fu : Nat) {m : Nat} {b : Int}, m < fu → m ≤ 100 → Bst (fun k => Sc B (k / 10) (k % 10)) m b → Ev (d + 3) mX12_scale 6 [.ref 45, vi b, vi ((m : Int) - 1)] [] σ (rt (vi (sclN B)) σ) := by
  intro fu
  induction fu with
  | zero => intros; omega
  | succ fu ih =>
    intro m b hm h1 h2
    refine ev_iload_n eX12_scale_6 rfl ?_
    refine ev_if_lt 37 eX12_scale_7 rfl (by omega) (fun h7 => ?_) (fun h7 => ?_)
    · skip
      refine ev_iload_n eX12_scale_37 rfl ?_
      refine ev_iret eX12_scale_38 rfl ?_
      obtain rfl : m = 0 := by omega
      exact ⟨congrArg (fun q => some (vi q)) (Bst_0 h2).symm, rfl⟩
    · skip
      obtain ⟨k, rfl⟩ : ∃ k, m = k + 1 := ⟨m - 1, by omega⟩
      rw [show (((k + 1 : Nat) : Int) - 1) = (k : Int) by omega]
      refine ev_aload_n eX12_scale_10 rfl ?_
      refine ev_iload_n eX12_scale_11 rfl ?_
      refine ev_bipush eX12_scale_12 rfl ?_
      refine ev_idiv eX12_scale_14 (by omega) (by omega) ?_
      refine ev_iload_n eX12_scale_15 rfl ?_
      refine ev_bipush eX12_scale_16 rfl ?_
      refine ev_irem eX12_scale_18 (by omega) (by omega) ?_
      refine ev_cV2 eX12_scale_19 ⟨lX12_248, kX12_isScale⟩ rfl rfl (m_isScale hM hf (s := k / 10) (t := k % 10) (by omega) (by omega)) ?_
      rintro _ _ ⟨rfl, rfl⟩
      refine ev_ifb_eq 29 eX12_scale_22 rfl (fun h22 => ?_) (fun h22 => ?_)
      · skip
        refine ev_iload_n eX12_scale_29 rfl ?_
        refine ev_istore_n eX12_scale_30 (by decide) ?_
        refine ev_iinc eX12_scale_31 rfl (by decide) ?_
        refine ev_goto 6 eX12_scale_34 rfl ?_
        first | (exact ih (m := k) (by omega) (by omega) (Bst_t h22 (by omega))) | (exact ih (m := k) (by omega) (by omega) (Bst_f h22 h2))
      · skip
        refine ev_iload_n eX12_scale_25 rfl ?_
        refine ev_goto 30 eX12_scale_26 rfl ?_
        refine ev_istore_n eX12_scale_30 (by decide) ?_
        refine ev_iinc eX12_scale_31 rfl (by decide) ?_
        refine ev_goto 6 eX12_scale_34 rfl ?_
        first | (exact ih (m := k) (by omega) (by omega) (Bst_t h22 (by omega))) | (exact ih (m := k) (by omega) (by omega) (Bst_f h22 h2))
set_option maxRecDepth 20000 in
theorem m_scale {d : Nat} {σ : St} {B : Bok} (hM : MBk σ 49 B) (hf : Wf B)  : Ct (d + 3) mX12_scale [.ref 45] σ (rt (vi (sclN B)) σ) := by
  refine ct_of hX12_scale (Nat.le_of_ble_eq_true rfl) ?_
  refine ev_ldc eX12_scale_0 qX12_124 ?_
  refine ev_istore_n eX12_scale_2 (by decide) ?_
  refine ev_bipush eX12_scale_3 rfl ?_
  refine ev_istore_n eX12_scale_5 (by decide) ?_
  exact m_scale_l hM hf 101 (m := 100) (by omega) (by omega) (Or.inl ⟨rfl, fun q a b => by omega⟩)
