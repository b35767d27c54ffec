theorem iUsh_n {a k : Nat} (ha : a < 2147483648) (hs : (((Int32.ofInt (k : Int)).toUInt32 &&& Int32.toUInt32 31).toBitVec % 32).toNat = k) : iUsh (a : Int) (k : Int) = ((a / 2 ^ k : Nat) : Int) := by
  have h := pk_ushrN (n := a) (by omega) (Int32.ofInt (k : Int)) k hs
  unfold iUsh
  have h2 : ((Int32.ofInt (a : Int)).toUInt32 >>> ((Int32.ofInt (k : Int)).toUInt32 &&& Int32.toUInt32 31)).toInt32 = Int32.ofInt ((a / 2 ^ k : Nat) : Int) := h
  have h3 := Nat.div_le_self a (2 ^ k)
  rw [h2]
  generalize a / 2 ^ k = z at h3
  rw [i_rt (by omega)]
theorem ush1 {a : Nat} (ha : a < 2147483648) : iUsh (a : Int) 1 = ((a / 2 : Nat) : Int) := iUsh_n (k := 1) ha (by decide +kernel)
theorem ush2 {a : Nat} (ha : a < 2147483648) : iUsh (a : Int) 2 = ((a / 4 : Nat) : Int) := iUsh_n (k := 2) ha (by decide +kernel)
theorem ush4 {a : Nat} (ha : a < 2147483648) : iUsh (a : Int) 4 = ((a / 16 : Nat) : Int) := iUsh_n (k := 4) ha (by decide +kernel)
theorem ush8 {a : Nat} (ha : a < 2147483648) : iUsh (a : Int) 8 = ((a / 256 : Nat) : Int) := iUsh_n (k := 8) ha (by decide +kernel)
theorem ush16 {a : Nat} (ha : a < 2147483648) : iUsh (a : Int) 16 = ((a / 65536 : Nat) : Int) := iUsh_n (k := 16) ha (by decide +kernel)
theorem and_k {a : Nat} (k : Nat) (z : Int) (hz : z = (k : Int)) (ha : a < 2147483648) (hk : k < 2147483648) : iAnd (a : Int) z = ((a &&& k : Nat) : Int) := by rw [hz]; exact iAnd_n ha hk
theorem bc_r (n : Nat) (h : n < 65536) : bc1 n < 65536 ∧ bc2 (bc1 n) < 131072 ∧ bc3 (bc2 (bc1 n)) < 262144 ∧ bc4 (bc3 (bc2 (bc1 n))) < 524288 ∧ bc5 (bc4 (bc3 (bc2 (bc1 n)))) < 1048576 := by
  have a1 : bc1 n < 65536 := by unfold bc1; omega
  have a2 : bc2 (bc1 n) < 131072 := by
    unfold bc2
    have := Nat.and_le_left (n := bc1 n) (m := 858993459)
    have := Nat.and_le_left (n := bc1 n / 4) (m := 858993459)
    omega
  have a3 : bc3 (bc2 (bc1 n)) < 262144 := by
    unfold bc3
    have := Nat.and_le_left (n := bc2 (bc1 n) + bc2 (bc1 n) / 16) (m := 252645135)
    omega
  have a4 : bc4 (bc3 (bc2 (bc1 n))) < 524288 := by
    generalize bc3 (bc2 (bc1 n)) = z at a3
    unfold bc4; omega
  refine ⟨a1, a2, a3, a4, ?_⟩
  generalize bc4 (bc3 (bc2 (bc1 n))) = z at a4
  unfold bc5; omega
set_option maxRecDepth 20000 in
theorem c_bitCount {d : Nat} {σ : St} {n : Nat} (hn : n < 65536) : Ct (d) mJ6_bitCount_0f7a4 [vi n] σ (rt (vi (cb n 16)) σ) := by
  refine ct_of hJ6_bitCount_0f7a4 (Nat.le_of_ble_eq_true rfl) ?_
  obtain ⟨a1, a2, a3, a4, a5⟩ := bc_r n hn
  refine ev_iload_n eJ6_bitCount_0f7a4_0 rfl ?_
  refine ev_iload_n eJ6_bitCount_0f7a4_1 rfl ?_
  refine ev_iconst eJ6_bitCount_0f7a4_2 ?_
  refine ev_iushr eJ6_bitCount_0f7a4_3 ?_
  refine ev_ldc_w eJ6_bitCount_0f7a4_4 qJ6_265 ?_
  refine ev_iand eJ6_bitCount_0f7a4_7 ?_
  refine ev_isub eJ6_bitCount_0f7a4_8 ?_
  have hle := Nat.and_le_left (n := n / 2) (m := 1431655765)
  rw [ush1 (by omega), and_k 1431655765 1431655765 rfl (by omega) (by omega), show ((n : Int) - ((n / 2 &&& 1431655765 : Nat) : Int)) = (bc1 n : Int) by unfold bc1; omega]
  refine ev_istore_n eJ6_bitCount_0f7a4_9 (by decide) ?_
  refine ev_iload_n eJ6_bitCount_0f7a4_10 rfl ?_
  refine ev_ldc_w eJ6_bitCount_0f7a4_11 qJ6_266 ?_
  refine ev_iand eJ6_bitCount_0f7a4_14 ?_
  refine ev_iload_n eJ6_bitCount_0f7a4_15 rfl ?_
  refine ev_iconst eJ6_bitCount_0f7a4_16 ?_
  refine ev_iushr eJ6_bitCount_0f7a4_17 ?_
  refine ev_ldc_w eJ6_bitCount_0f7a4_18 qJ6_266 ?_
  refine ev_iand eJ6_bitCount_0f7a4_21 ?_
  refine ev_iadd eJ6_bitCount_0f7a4_22 ?_
  rw [ush2 (by omega), and_k 858993459 858993459 rfl (by omega) (by omega), and_k 858993459 858993459 rfl (by omega) (by omega), show (((bc1 n &&& 858993459 : Nat) : Int) + ((bc1 n / 4 &&& 858993459 : Nat) : Int)) = (bc2 (bc1 n) : Int) by unfold bc2; push_cast; rfl]
  refine ev_istore_n eJ6_bitCount_0f7a4_23 (by decide) ?_
  refine ev_iload_n eJ6_bitCount_0f7a4_24 rfl ?_
  refine ev_iload_n eJ6_bitCount_0f7a4_25 rfl ?_
  refine ev_iconst eJ6_bitCount_0f7a4_26 ?_
  refine ev_iushr eJ6_bitCount_0f7a4_27 ?_
  refine ev_iadd eJ6_bitCount_0f7a4_28 ?_
  refine ev_ldc_w eJ6_bitCount_0f7a4_29 qJ6_267 ?_
  refine ev_iand eJ6_bitCount_0f7a4_32 ?_
  rw [ush4 (by omega), show (((bc2 (bc1 n) : Nat) : Int) + ((bc2 (bc1 n) / 16 : Nat) : Int)) = ((bc2 (bc1 n) + bc2 (bc1 n) / 16 : Nat) : Int) by omega, and_k 252645135 252645135 rfl (by omega) (by omega)]
  show Ev _ _ _ _ [vi (bc3 (bc2 (bc1 n)))] _ _
  refine ev_istore_n eJ6_bitCount_0f7a4_33 (by decide) ?_
  refine ev_iload_n eJ6_bitCount_0f7a4_34 rfl ?_
  refine ev_iload_n eJ6_bitCount_0f7a4_35 rfl ?_
  refine ev_bipush eJ6_bitCount_0f7a4_36 rfl ?_
  refine ev_iushr eJ6_bitCount_0f7a4_38 ?_
  refine ev_iadd eJ6_bitCount_0f7a4_39 ?_
  rw [ush8 (by omega), show (((bc3 (bc2 (bc1 n)) : Nat) : Int) + ((bc3 (bc2 (bc1 n)) / 256 : Nat) : Int)) = (bc4 (bc3 (bc2 (bc1 n))) : Int) by unfold bc4; omega]
  refine ev_istore_n eJ6_bitCount_0f7a4_40 (by decide) ?_
  refine ev_iload_n eJ6_bitCount_0f7a4_41 rfl ?_
  refine ev_iload_n eJ6_bitCount_0f7a4_42 rfl ?_
  refine ev_bipush eJ6_bitCount_0f7a4_43 rfl ?_
  refine ev_iushr eJ6_bitCount_0f7a4_45 ?_
  refine ev_iadd eJ6_bitCount_0f7a4_46 ?_
  rw [ush16 (by omega), show (((bc4 (bc3 (bc2 (bc1 n))) : Nat) : Int) + ((bc4 (bc3 (bc2 (bc1 n))) / 65536 : Nat) : Int)) = (bc5 (bc4 (bc3 (bc2 (bc1 n)))) : Int) by unfold bc5; omega]
  refine ev_istore_n eJ6_bitCount_0f7a4_47 (by decide) ?_
  refine ev_iload_n eJ6_bitCount_0f7a4_48 rfl ?_
  refine ev_bipush eJ6_bitCount_0f7a4_49 rfl ?_
  refine ev_iand eJ6_bitCount_0f7a4_51 ?_
  refine ev_iret eJ6_bitCount_0f7a4_52 rfl ?_
  rw [and_k 63 63 rfl (by omega) (by omega)]
  exact ⟨congrArg (fun q => some (vi q)) (by rw [← bcN_eq hn]; rfl), rfl⟩
theorem prC_lt {B : Bok} (h : Ok B) : prC B < 65536 := by
  have h0 : pr0 B < 65536 := rpF_lt h (wiF_lt h _ _ (Nat.le_refl _)) _ (Nat.le_refl _)
  have key : ∀ n P, P < 65536 → itN (mstep B) n P < 65536 := by
    intro n
    induction n with
    | zero => exact fun P hP => hP
    | succ n ih => exact fun P hP => ih _ (Nat.or_lt_two_pow (n := 16) hP (mtX_lt h P _ (Nat.le_refl _)))
  exact key 16 _ h0
/-- the scale: ten times s, and t; the least that fits -/
noncomputable def scl (B : Bok) : Int := lm (fun k => Sc B (k / 10) (k % 10)) 100
noncomputable def scP (B : Bok) (e : Nat) : Int := if scl B = -1 then -1000000 else if e = 0 then scl B / 10 else scl B % 10
theorem scP_t {B : Bok} {k e : Nat} (hk : k < 100) (h : Sc B (k / 10) (k % 10)) (hq : ∀ q, q < k → ¬ Sc B (q / 10) (q % 10)) : scP B e = if e = 0 then ((k / 10 : Nat) : Int) else ((k % 10 : Nat) : Int) := by
  have h1 : scl B = (k : Int) := lm_s (P := fun k => Sc B (k / 10) (k % 10)) hk h hq
  unfold scP
  rw [h1, if_neg (by omega)]
  split <;> omega
theorem scP_f {B : Bok} (e : Nat) (hq : ∀ q, q < 100 → ¬ Sc B (q / 10) (q % 10)) : scP B e = -1000000 := by
  have h1 : scl B = -1 := lm_n (P := fun k => Sc B (k / 10) (k % 10)) hq
  unfold scP
  rw [h1, if_pos rfl]
set_option maxRecDepth 20000 in
theorem c_sp_in {d : Nat} {σ : St} {B : Bok} (hB : BkC σ 16 B) (hf : Wf B) {e s : Nat} (he : e < 2) (hs9 : s ≤ 9) {post : Option Value → St → Prop} (hk : (∀ q, q < 10 * s + 10 → ¬ Sc B (q / 10) (q % 10)) → Ev (d + 4) mX11_scalePart 44 [.ref 0, vi e, vi s, vi ((10 : Nat) : Int)] [] σ post) (hr : (∃ q, q < 100 ∧ Sc B (q / 10) (q % 10)) → post (some (vi (scP B e))) σ) : ∀ (fu : Nat) {u : Nat}, 10 - u < fu → u ≤ 10 → (∀ q, q < 10 * s + u → ¬ Sc B (q / 10) (q % 10)) → Ev (d + 4) mX11_scalePart 10 [.ref 0, vi e, vi s, vi u] [] σ (post) := by
  intro fu
  induction fu with
  | zero => intros; omega
  | succ fu ih =>
    intro u hm h1 h2
    refine ev_iload_n eX11_scalePart_10 rfl ?_
    refine ev_bipush eX11_scalePart_11 rfl ?_
    refine ev_icmp_gt 44 eX11_scalePart_13 rfl (by omega) (by omega) (fun h13 => ?_) (fun h13 => ?_)
    · skip
      obtain rfl : u = 10 := by omega
      exact hk h2
    · skip
      refine ev_aload_n eX11_scalePart_16 rfl ?_
      refine ev_getr eX11_scalePart_17 fX11_26 rfl ?_
      refine ev_iload_n eX11_scalePart_20 rfl ?_
      refine ev_iload_n eX11_scalePart_21 rfl ?_
      refine ev_cV2 eX11_scalePart_22 ⟨lX11_385, kX0_scalesBy⟩ rfl rfl (c_scales Bq3 hB hf (s := s) (t := u) (by omega) (by omega)) ?_
      rintro _ _ ⟨rfl, rfl⟩
      refine ev_ifb_eq 38 eX11_scalePart_25 rfl (fun h25 => ?_) (fun h25 => ?_)
      · skip
        refine ev_iinc eX11_scalePart_38 rfl (by decide) ?_
        refine ev_goto 10 eX11_scalePart_41 rfl ?_
        refine ih (u := u + 1) (by omega) (by omega) (fun q hq => ?_)
        by_cases e2 : q = 10 * s + u
        · subst e2; rw [show (10 * s + u) / 10 = s by omega, show (10 * s + u) % 10 = u by omega]; exact h25
        · exact h2 q (by omega)
      · skip
        have hh : Sc B ((10 * s + u) / 10) ((10 * s + u) % 10) := by rw [show (10 * s + u) / 10 = s by omega, show (10 * s + u) % 10 = u by omega]; exact h25
        have hpp := hr ⟨10 * s + u, by omega, hh⟩
        rw [scP_t (k := 10 * s + u) (by omega) hh h2] at hpp
        refine ev_iload_n eX11_scalePart_28 rfl ?_
        refine ev_if_ne 36 eX11_scalePart_29 rfl (by omega) (fun h29 => ?_) (fun h29 => ?_)
        · skip
          refine ev_iload_n eX11_scalePart_36 rfl ?_
          refine ev_iret eX11_scalePart_37 rfl ?_
          rw [if_neg (by omega), show (10 * s + u) % 10 = u by omega] at hpp
          exact hpp
        · skip
          refine ev_iload_n eX11_scalePart_32 rfl ?_
          refine ev_goto 37 eX11_scalePart_33 rfl ?_
          refine ev_iret eX11_scalePart_37 rfl ?_
          rw [if_pos (by omega), show (10 * s + u) / 10 = s by omega] at hpp
          exact hpp
set_option maxRecDepth 20000 in
theorem c_sp_l {d : Nat} {σ : St} {B : Bok} (hB : BkC σ 16 B) (hf : Wf B) {e : Nat} (he : e < 2) : ∀ (fu : Nat) {s : Nat} {v : Value}, 10 - s < fu → s ≤ 10 → (∀ q, q < 10 * s → ¬ Sc B (q / 10) (q % 10)) → Ev (d + 4) mX11_scalePart 2 [.ref 0, vi e, vi s, v] [] σ (rt (vi (scP B e)) σ) := by
  intro fu
  induction fu with
  | zero => intros; omega
  | succ fu ih =>
    intro s v hm h1 h2
    refine ev_iload_n eX11_scalePart_2 rfl ?_
    refine ev_bipush eX11_scalePart_3 rfl ?_
    refine ev_icmp_gt 50 eX11_scalePart_5 rfl (by omega) (by omega) (fun h5 => ?_) (fun h5 => ?_)
    · skip
      refine ev_ldc eX11_scalePart_50 qX11_244 ?_
      refine ev_iret eX11_scalePart_52 rfl ?_
      exact ⟨congrArg (fun q => some (vi q)) (scP_f e (fun q hq => h2 q (by omega))), rfl⟩
    · skip
      refine ev_iconst eX11_scalePart_8 ?_
      refine ev_istore_n eX11_scalePart_9 (by decide) ?_
      refine c_sp_in hB hf (s := s) he (by omega) (fun g => ?_) (fun _ => ⟨rfl, rfl⟩) 11 (u := 0) (by omega) (by omega) h2
      refine ev_iinc eX11_scalePart_44 rfl (by decide) ?_
      refine ev_goto 2 eX11_scalePart_47 rfl ?_
      exact ih (s := s + 1) (by omega) (by omega) (fun q hq => g q (by omega))
set_option maxRecDepth 20000 in
theorem c_sp {d : Nat} {σ : St} {B : Bok} (hB : BkC σ 16 B) (hf : Wf B) {e : Nat} (he : e < 2) : Ct (d + 4) mX11_scalePart [.ref 0, vi e] σ (rt (vi (scP B e)) σ) := by
  refine ct_of hX11_scalePart (Nat.le_of_ble_eq_true rfl) ?_
  refine ev_iconst eX11_scalePart_0 ?_
  refine ev_istore_n eX11_scalePart_1 (by decide) ?_
  exact c_sp_l hB hf he 11 (s := 0) (by omega) (by omega) (fun q hq => by omega)
noncomputable def whl (B : Bok) (e : Int) : Int :=
  if e = 0 then (B (0 + 0) : Int) else if e = 1 then (B (0 + 1) : Int) else if e = 2 then (B 3 : Int) else if e = 3 then (prC B : Int) else if e = 4 then (cb (prC B) 16 : Int) else if e = 5 then scP B 0 else if e = 6 then scP B 1 else -1000001
set_option maxRecDepth 20000 in
theorem o_whole {d : Nat} {σ : St} {B : Bok} (hB : BkC σ 16 B) (hZ : OkZ B) {x : Int} (hx : -2147483648 ≤ x ∧ x ≤ 2147483647) : Ct (d + 5) mX11_whole [.ref 0, vi x] σ (fun r τ => (B 2 = 0 → some (vi (-1000002)) = r ∧ σ = τ) ∧ (0 < B 2 → some (vi (whl B x)) = r ∧ σ = τ)) := by
  refine ct_of hX11_whole (Nat.le_of_ble_eq_true rfl) ?_
  have hf := hZ.wf
  have h7 := hf.2.1
  refine ev_aload_n eX11_whole_0 rfl ?_
  refine ev_getr eX11_whole_1 fX11_26 rfl ?_
  refine ev_cV0 eX11_whole_4 ⟨lX11_197, kX0_stands⟩ rfl rfl (c_stands Bq3 hB hf.1) ?_
  rintro _ _ ⟨rfl, rfl⟩
  refine ev_ifb_ne 13 eX11_whole_7 rfl (fun h7 => ?_) (fun h7 => ?_)
  · skip
    have hO := hZ.ok (by omega)
    refine ev_iload_n eX11_whole_13 rfl ?_
    by_cases hsw : x < 0 ∨ 6 < x
    · refine ev_tswO 100 eX11_whole_14 (by omega) (by omega) rfl ?_
      refine ev_ldc eX11_whole_100 qX11_89 ?_
      refine ev_iret eX11_whole_102 rfl ?_
      refine ⟨fun hc => ?_, fun hc => ?_⟩ <;> first | (exfalso; omega) | (exact ⟨congrArg (fun q => some (vi q)) (by unfold whl; repeat (first | rw [if_pos (by omega)] | rw [if_neg (by omega)])), rfl⟩)
    · rcases (show x = 0 ∨ x = 1 ∨ x = 2 ∨ x = 3 ∨ x = 4 ∨ x = 5 ∨ x = 6 by omega) with rfl | rfl | rfl | rfl | rfl | rfl | rfl
      · refine ev_tswI 56 eX11_whole_14 (by omega) (by omega) rfl rfl ?_
        refine ev_aload_n eX11_whole_56 rfl ?_
        refine ev_getr eX11_whole_57 fX11_26 rfl ?_
        refine ev_iload_n eX11_whole_60 rfl ?_
        refine ev_cV1 eX11_whole_61 ⟨lX11_207, kX0_law⟩ rfl rfl (c_law Bq3 hB hf.1 (s := 0) (by omega)) ?_
        rintro _ _ ⟨rfl, rfl⟩
        refine ev_iret eX11_whole_64 rfl ?_
        refine ⟨fun hc => ?_, fun hc => ?_⟩ <;> first | (exfalso; omega) | (exact ⟨congrArg (fun q => some (vi q)) (by unfold whl; repeat (first | rw [if_pos (by omega)] | rw [if_neg (by omega)])), rfl⟩)
      · refine ev_tswI 56 eX11_whole_14 (by omega) (by omega) rfl rfl ?_
        refine ev_aload_n eX11_whole_56 rfl ?_
        refine ev_getr eX11_whole_57 fX11_26 rfl ?_
        refine ev_iload_n eX11_whole_60 rfl ?_
        refine ev_cV1 eX11_whole_61 ⟨lX11_207, kX0_law⟩ rfl rfl (c_law Bq3 hB hf.1 (s := 1) (by omega)) ?_
        rintro _ _ ⟨rfl, rfl⟩
        refine ev_iret eX11_whole_64 rfl ?_
        refine ⟨fun hc => ?_, fun hc => ?_⟩ <;> first | (exfalso; omega) | (exact ⟨congrArg (fun q => some (vi q)) (by unfold whl; repeat (first | rw [if_pos (by omega)] | rw [if_neg (by omega)])), rfl⟩)
      · refine ev_tswI 65 eX11_whole_14 (by omega) (by omega) rfl rfl ?_
        refine ev_aload_n eX11_whole_65 rfl ?_
        refine ev_getr eX11_whole_66 fX11_26 rfl ?_
        refine ev_cV0 eX11_whole_69 ⟨lX11_213, kX0_rowSize⟩ rfl rfl (c_rowSize Bq3 hB hf.1) ?_
        rintro _ _ ⟨rfl, rfl⟩
        refine ev_iret eX11_whole_72 rfl ?_
        refine ⟨fun hc => ?_, fun hc => ?_⟩ <;> first | (exfalso; omega) | (exact ⟨congrArg (fun q => some (vi q)) (by unfold whl; repeat (first | rw [if_pos (by omega)] | rw [if_neg (by omega)])), rfl⟩)
      · refine ev_tswI 73 eX11_whole_14 (by omega) (by omega) rfl rfl ?_
        refine ev_aload_n eX11_whole_73 rfl ?_
        refine ev_getr eX11_whole_74 fX11_26 rfl ?_
        refine ev_cS1 eX11_whole_77 ⟨lX11_290, kX7_in⟩ rfl (c_pairs Bq3 hB hO) ?_
        rintro _ _ ⟨rfl, rfl⟩
        refine ev_iret eX11_whole_80 rfl ?_
        refine ⟨fun hc => ?_, fun hc => ?_⟩ <;> first | (exfalso; omega) | (exact ⟨congrArg (fun q => some (vi q)) (by unfold whl; repeat (first | rw [if_pos (by omega)] | rw [if_neg (by omega)])), rfl⟩)
      · refine ev_tswI 81 eX11_whole_14 (by omega) (by omega) rfl rfl ?_
        refine ev_aload_n eX11_whole_81 rfl ?_
        refine ev_getr eX11_whole_82 fX11_26 rfl ?_
        refine ev_cS1 eX11_whole_85 ⟨lX11_290, kX7_in⟩ rfl (c_pairs Bq3 hB hO) ?_
        rintro _ _ ⟨rfl, rfl⟩
        refine ev_cS1 eX11_whole_88 ⟨lX11_295, kJ6_bitCount_0f7a4⟩ rfl (c_bitCount (prC_lt hO)) ?_
        rintro _ _ ⟨rfl, rfl⟩
        refine ev_iret eX11_whole_91 rfl ?_
        refine ⟨fun hc => ?_, fun hc => ?_⟩ <;> first | (exfalso; omega) | (exact ⟨congrArg (fun q => some (vi q)) (by unfold whl; repeat (first | rw [if_pos (by omega)] | rw [if_neg (by omega)])), rfl⟩)
      · refine ev_tswI 92 eX11_whole_14 (by omega) (by omega) rfl rfl ?_
        refine ev_aload_n eX11_whole_92 rfl ?_
        refine ev_iload_n eX11_whole_93 rfl ?_
        refine ev_iconst eX11_whole_94 ?_
        refine ev_isub eX11_whole_95 ?_
        refine ev_cV1 eX11_whole_96 ⟨lX11_300, kX11_scalePart⟩ rfl rfl (c_sp hB hf (e := 0) (by omega)) ?_
        rintro _ _ ⟨rfl, rfl⟩
        refine ev_iret eX11_whole_99 rfl ?_
        refine ⟨fun hc => ?_, fun hc => ?_⟩ <;> first | (exfalso; omega) | (exact ⟨congrArg (fun q => some (vi q)) (by unfold whl; repeat (first | rw [if_pos (by omega)] | rw [if_neg (by omega)])), rfl⟩)
      · refine ev_tswI 92 eX11_whole_14 (by omega) (by omega) rfl rfl ?_
        refine ev_aload_n eX11_whole_92 rfl ?_
        refine ev_iload_n eX11_whole_93 rfl ?_
        refine ev_iconst eX11_whole_94 ?_
        refine ev_isub eX11_whole_95 ?_
        refine ev_cV1 eX11_whole_96 ⟨lX11_300, kX11_scalePart⟩ rfl rfl (c_sp hB hf (e := 1) (by omega)) ?_
        rintro _ _ ⟨rfl, rfl⟩
        refine ev_iret eX11_whole_99 rfl ?_
        refine ⟨fun hc => ?_, fun hc => ?_⟩ <;> first | (exfalso; omega) | (exact ⟨congrArg (fun q => some (vi q)) (by unfold whl; repeat (first | rw [if_pos (by omega)] | rw [if_neg (by omega)])), rfl⟩)
  · skip
    refine ev_ldc eX11_whole_10 qX11_158 ?_
    refine ev_iret eX11_whole_12 rfl ?_
    refine ⟨fun hc => ?_, fun hc => ?_⟩ <;> first | (exfalso; omega) | (exact ⟨rfl, rfl⟩)
theorem cntN_congr {f g : Nat → Int} {n : Nat} (h : ∀ i, i < n → f i = g i) : cntN f n = cntN g n := by
  induction n with
  | zero => rfl
  | succ n ih => unfold cntN; rw [ih (fun i hi => h i (by omega)), h n (by omega)]
set_option maxRecDepth 20000 in
theorem o_count {d : Nat} {σ : St} {B : Bok} (hB : BkC σ 16 B) (hZ : OkZ B) {la : Nat → Int} {sz : Nat → Nat} {it : Nat → Int} (hW : RwsC σ la sz it) {na nt : Nat} (hna : σ 6 3 = (na : Int)) (hnt : σ 2 1 = (nt : Int)) {x : Int} (hx : -2147483648 ≤ x ∧ x ≤ 2147483647) : Ct (d + 2) mX11_count [.ref 0, vi x] σ (fun r τ => σ = τ ∧ some (vi (if x = 0 then (cntN la 8 : Int) else if x = 1 then (B 2 : Int) else if x = 2 then (B 3 : Int) else if x = 3 then (sumF (ws B) (B 2) : Int) else if x = 4 then (na : Int) else if x = 5 then (nt : Int) else -1000001)) = r) := by
  refine ct_of hX11_count (Nat.le_of_ble_eq_true rfl) ?_
  have hf := hZ.wf
  have h7 := hf.2.1
  refine ev_iload_n eX11_count_0 rfl ?_
  by_cases hsw : x < 0 ∨ 5 < x
  · refine ev_tswO 88 eX11_count_1 (by omega) (by omega) rfl ?_
    refine ev_ldc eX11_count_88 qX11_89 ?_
    refine ev_iret eX11_count_90 rfl ?_
    exact ⟨rfl, congrArg (fun q => some (vi q)) (by repeat (first | rw [if_pos (by omega)] | rw [if_neg (by omega)]))⟩
  · rcases (show x = 0 ∨ x = 1 ∨ x = 2 ∨ x = 3 ∨ x = 4 ∨ x = 5 by omega) with rfl | rfl | rfl | rfl | rfl | rfl
    · refine ev_tswI 40 eX11_count_1 (by omega) (by omega) rfl rfl ?_
      refine ev_aload_n eX11_count_40 rfl ?_
      refine ev_getr eX11_count_41 fX11_10 rfl ?_
      refine ev_cV0 eX11_count_44 ⟨lX11_372, kX8_howMany⟩ rfl rfl (c_howMany hW.rw) ?_
      rintro _ _ ⟨rfl, rfl⟩
      refine ev_iret eX11_count_47 rfl ?_
      rw [show cntN (σ 14) 8 = cntN la 8 from cntN_congr (fun i hi => (hW i hi).1)]
      exact ⟨rfl, congrArg (fun q => some (vi q)) (by repeat (first | rw [if_pos (by omega)] | rw [if_neg (by omega)]))⟩
    · refine ev_tswI 48 eX11_count_1 (by omega) (by omega) rfl rfl ?_
      refine ev_aload_n eX11_count_48 rfl ?_
      refine ev_getr eX11_count_49 fX11_26 rfl ?_
      refine ev_cV0 eX11_count_52 ⟨lX11_152, kX0_sortCount⟩ rfl rfl (c_sortCount Bq3 hB hf.1) ?_
      rintro _ _ ⟨rfl, rfl⟩
      refine ev_iret eX11_count_55 rfl ?_
      exact ⟨rfl, congrArg (fun q => some (vi q)) (by repeat (first | rw [if_pos (by omega)] | rw [if_neg (by omega)]))⟩
    · refine ev_tswI 56 eX11_count_1 (by omega) (by omega) rfl rfl ?_
      refine ev_aload_n eX11_count_56 rfl ?_
      refine ev_getr eX11_count_57 fX11_26 rfl ?_
      refine ev_cV0 eX11_count_60 ⟨lX11_213, kX0_rowSize⟩ rfl rfl (c_rowSize Bq3 hB hf.1) ?_
      rintro _ _ ⟨rfl, rfl⟩
      refine ev_iret eX11_count_63 rfl ?_
      exact ⟨rfl, congrArg (fun q => some (vi q)) (by repeat (first | rw [if_pos (by omega)] | rw [if_neg (by omega)]))⟩
    · refine ev_tswI 64 eX11_count_1 (by omega) (by omega) rfl rfl ?_
      refine ev_aload_n eX11_count_64 rfl ?_
      refine ev_getr eX11_count_65 fX11_26 rfl ?_
      refine ev_cV0 eX11_count_68 ⟨lX11_375, kX0_lettersOfWords⟩ rfl rfl (c_letw Bq3 hB hf) ?_
      rintro _ _ ⟨rfl, rfl⟩
      refine ev_iret eX11_count_71 rfl ?_
      exact ⟨rfl, congrArg (fun q => some (vi q)) (by repeat (first | rw [if_pos (by omega)] | rw [if_neg (by omega)]))⟩
    · refine ev_tswI 72 eX11_count_1 (by omega) (by omega) rfl rfl ?_
      refine ev_aload_n eX11_count_72 rfl ?_
      refine ev_getr eX11_count_73 fX11_39 rfl ?_
      refine ev_cV0 eX11_count_76 ⟨lX11_155, kX6_actCount⟩ rfl rfl c_actCount ?_
      rintro _ _ ⟨rfl, rfl⟩
      rw [hna]
      refine ev_iret eX11_count_79 rfl ?_
      exact ⟨rfl, congrArg (fun q => some (vi q)) (by repeat (first | rw [if_pos (by omega)] | rw [if_neg (by omega)]))⟩
    · refine ev_tswI 80 eX11_count_1 (by omega) (by omega) rfl rfl ?_
      refine ev_aload_n eX11_count_80 rfl ?_
      refine ev_getr eX11_count_81 fX11_19 rfl ?_
      refine ev_cV0 eX11_count_84 ⟨lX11_126, kX10_size⟩ rfl rfl (c_tsize hnt) ?_
      rintro _ _ ⟨rfl, rfl⟩
      refine ev_iret eX11_count_87 rfl ?_
      exact ⟨rfl, congrArg (fun q => some (vi q)) (by repeat (first | rw [if_pos (by omega)] | rw [if_neg (by omega)]))⟩
