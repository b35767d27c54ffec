/-! the reference: faults, signs, numbers -/
set_option maxRecDepth 20000 in
theorem m_bad {d : Nat} {σ : St} {f a : Nat} (hf : σ 45 17 = (f : Int)) (hf4 : f ≤ 4) (ha : σ 45 14 = (a : Int)) {k : Int} : Ct (d) mX12_bad [.ref 45, vi k] σ (fun r τ => (f = 0 → none = r ∧ up (up σ 45 17 k) 45 18 (a : Int) = τ) ∧ (f ≠ 0 → none = r ∧ σ = τ)) := by
  refine ct_of hX12_bad (Nat.le_of_ble_eq_true rfl) ?_
  refine ev_aload_n eX12_bad_0 rfl ?_
  refine ev_getiv eX12_bad_1 fX12_112 rfl hf ?_
  refine ev_if_ne 20 eX12_bad_4 rfl (by omega) (fun h4 => ?_) (fun h4 => ?_)
  · skip
    refine ev_ret eX12_bad_20 rfl ?_
    refine ⟨fun hc => ?_, fun hc => ?_⟩ <;> first | (exfalso; omega) | (exact ⟨rfl, rfl⟩)
  · skip
    refine ev_aload_n eX12_bad_7 rfl ?_
    refine ev_iload_n eX12_bad_8 rfl ?_
    refine ev_puti eX12_bad_9 pX12_112 rfl ?_
    refine ev_aload_n eX12_bad_12 rfl ?_
    refine ev_aload_n eX12_bad_13 rfl ?_
    refine ev_getiv eX12_bad_14 fX12_115 rfl (gv (a : Int) (by rw [up_n _ _ (by decide)]; exact ha)) ?_
    refine ev_puti eX12_bad_17 pX12_118 rfl ?_
    refine ev_ret eX12_bad_20 rfl ?_
    refine ⟨fun hc => ?_, fun hc => ?_⟩ <;> first | (exfalso; omega) | (exact ⟨rfl, rfl⟩)
def sBad (k : Nat) (q : Ps) : Ps := if q.1 ≠ 0 then q else (k, q.2.1, q.2.2)
theorem sBad_f {k : Nat} {q : Ps} (h : q.1 ≠ 0) : sBad k q = q := if_pos h
theorem sBad_z {k : Nat} {q : Ps} (h : q.1 = 0) : sBad k q = (k, q.2.1, q.2.2) := if_neg (by omega)
theorem sBad_n {k : Nat} {q : Ps} (hk : k ≠ 0) : (sBad k q).1 ≠ 0 := by
  by_cases h : q.1 = 0
  · rw [sBad_z h]; exact hk
  · rw [sBad_f h]; exact h
theorem m_bad2 {d : Nat} {σ : St} {tp : Nat → Nat} {n : Nat} {q : Ps} (hR : RM σ tp n q) {k : Nat} (hk : k ≠ 0) (hk4 : k ≤ 4) : Ct d mX12_bad [.ref 45, vi k] σ (fun r τ => none = r ∧ RM τ tp n (sBad k q) ∧ Fx σ τ) := by
  obtain ⟨hT, han, hq4, hft, hst, htk, hfa⟩ := id hR
  refine ct_imp (m_bad hft hq4 hst (k := (k : Int))) (fun r τ h => ?_)
  by_cases e : q.1 = 0
  · obtain ⟨rfl, rfl⟩ := h.1 e
    rw [sBad_z e]
    refine ⟨rfl, ⟨hT.of (by rw [up_n _ _ (by decide), up_n _ _ (by decide)]) (by rw [up_o _ _ _ (by decide), up_o _ _ _ (by decide)]), han, hk4, by rw [up_n _ _ (by decide), up_s], by rw [up_n _ _ (by decide), up_n _ _ (by decide)]; exact hst, htk.cg (by rw [up_n _ _ (by decide), up_n _ _ (by decide)]) (by rw [up_n _ _ (by decide), up_n _ _ (by decide)]) (by rw [up_n _ _ (by decide), up_n _ _ (by decide)]), fun _ => up_s _ _ _ _⟩, fun j hj => ?_, fun c hc => by rw [up_o _ _ _ hc, up_o _ _ _ hc]⟩
    rw [up_n _ _ (by omega), up_n _ _ (by omega)]
  · obtain ⟨rfl, rfl⟩ := h.2 e
    rw [sBad_f e]
    exact ⟨rfl, hR, Fx.rf _⟩
def sMust (z : Int) (c : Nat) (q : Ps) : Ps := if q.1 ≠ 0 then q else if z = 1 then (0, c, q.2.2) else (1, q.2.1, q.2.2)
theorem sMust_f {z : Int} {c : Nat} {q : Ps} (h : q.1 ≠ 0) : sMust z c q = q := if_pos h
theorem sMust_1 {c : Nat} {q : Ps} (h : q.1 = 0) : sMust 1 c q = (0, c, q.2.2) := by unfold sMust; rw [if_neg (by omega), if_pos rfl]
theorem sMust_0 {c : Nat} {q : Ps} (h : q.1 = 0) : sMust 0 c q = (1, q.2.1, q.2.2) := by unfold sMust; rw [if_neg (by omega), if_neg (by decide)]
theorem sMust_B0 {tp : Nat → Nat} {n x : Nat} {c : Int} {q : Ps} (h : nx tp n q.2.1 ≠ c) : sMust 0 x q = sByte tp n c q := by
  by_cases e : q.1 = 0
  · rw [sMust_0 e, sByte_0 e h]
  · rw [sMust_f e, sByte_f e]
theorem sMust_B1 {tp : Nat → Nat} {n : Nat} {c : Int} {q : Ps} (h : nx tp n q.2.1 = c) : sMust 1 (q.2.1 + 1) q = sByte tp n c q := by
  by_cases e : q.1 = 0
  · rw [sMust_1 e, sByte_1 e h]
  · rw [sMust_f e, sByte_f e]
theorem RM.nt {σ τ : St} {tp : Nat → Nat} {n a : Nat} {q : Ps} (hR : RM σ tp n q) (e : q.1 = 0) (han : a ≤ n) (h1 : τ 45 14 = (a : Int)) (h2 : Tk tp n a (τ 45 15) (τ 45 16) (τ 45 13)) (h3 : ∀ j, j ≠ 13 → j ≠ 14 → j ≠ 15 → j ≠ 16 → τ 45 j = σ 45 j) (h4 : ∀ c, c ≠ 45 → τ c = σ c) : RM τ tp n (0, a, q.2.2) := ⟨hR.1.of (h3 12 (by decide) (by decide) (by decide) (by decide)) (h4 55 (by decide)), han, by show 0 ≤ 4; omega, by rw [h3 17 (by decide) (by decide) (by decide) (by decide), hR.2.2.2.1, e], h1, h2, fun z => absurd rfl z⟩
theorem Fx.nt {σ τ : St} (h3 : ∀ j, j ≠ 13 → j ≠ 14 → j ≠ 15 → j ≠ 16 → τ 45 j = σ 45 j) (h4 : ∀ c, c ≠ 45 → τ c = σ c) : Fx σ τ := ⟨fun j hj => h3 j (by omega) (by omega) (by omega) (by omega), h4⟩
set_option maxRecDepth 20000 in
theorem m_must {d : Nat} {σ : St} {tp : Nat → Nat} {n : Nat} {q : Ps} (hR : RM σ tp n q) {z : Int} (hz : z = 0 ∨ z = 1) {c : Nat} (hc : q.1 = 0 → z = 1 → σ 45 13 = (c : Int) ∧ c ≤ n) : Ct (d + 2) mX12_must [.ref 45, vi z] σ (fun r τ => none = r ∧ RM τ tp n (sMust z c q) ∧ Fx σ τ) := by
  refine ct_of hX12_must (Nat.le_of_ble_eq_true rfl) ?_
  obtain ⟨hT, han, hq4, hft, hst, htk, hfa⟩ := id hR
  have hn := hT.2.1
  have hk := htk.2.1
  have hv := htk.1
  refine ev_iload_n eX12_must_0 rfl ?_
  refine ev_if_ne 9 eX12_must_1 rfl (by omega) (fun h1 => ?_) (fun h1 => ?_)
  · skip
    obtain rfl : z = 1 := by omega
    refine ev_aload_n eX12_must_9 rfl ?_
    refine ev_getiv eX12_must_10 fX12_112 rfl hft ?_
    refine ev_if_ne 20 eX12_must_13 rfl (by omega) (fun h13 => ?_) (fun h13 => ?_)
    · skip
      refine ev_ret eX12_must_20 rfl ?_
      rw [sMust_f (by omega)]
      exact ⟨rfl, hR, Fx.rf _⟩
    · skip
      refine ev_aload_n eX12_must_16 rfl ?_
      refine ev_cV0 eX12_must_17 ⟨lX12_143, kX12_nextToken⟩ rfl rfl (m_nextToken hT (hc (by omega) rfl).1 (hc (by omega) rfl).2) ?_
      rintro _ ξ ⟨rfl, n1, n2, n3, n4⟩
      refine ev_ret eX12_must_20 rfl ?_
      rw [sMust_1 (by omega)]
      exact ⟨rfl, hR.nt (by omega) (hc (by omega) rfl).2 n1 n2 n3 n4, Fx.nt n3 n4⟩
  · skip
    obtain rfl : z = 0 := by omega
    refine ev_aload_n eX12_must_4 rfl ?_
    refine ev_iconst eX12_must_5 ?_
    refine ev_cV1 eX12_must_6 ⟨lX12_139, kX12_bad⟩ rfl rfl (m_bad2 hR (k := 1) (by decide) (by decide)) ?_
    rintro _ τ ⟨rfl, r1, f1⟩
    have hn1 := sBad_n (k := 1) (q := q) (by decide)
    have hb4 := r1.2.2.1
    refine ev_aload_n eX12_must_9 rfl ?_
    refine ev_getiv eX12_must_10 fX12_112 rfl r1.2.2.2.1 ?_
    refine ev_if_ne 20 eX12_must_13 rfl (by omega) (fun h13 => ?_) (fun h13 => False.elim (by omega))
    refine ev_ret eX12_must_20 rfl ?_
    refine ⟨rfl, ?_, f1⟩
    by_cases e : q.1 = 0
    · rw [sMust_0 e]; rw [sBad_z e] at r1; exact r1
    · rw [sMust_f e]; rw [sBad_f e] at r1; exact r1
set_option maxRecDepth 20000 in
theorem m_mustSign {d : Nat} {σ : St} {tp : Nat → Nat} {n : Nat} {q : Ps} (hR : RM σ tp n q) {x : Int} (hx0 : x = 44 ∨ x = 59) : Ct (d + 3) mX12_mustSign [.ref 45, vi x] σ (fun r τ => none = r ∧ RM τ tp n (sByte tp n x q) ∧ Fx σ τ) := by
  refine ct_of hX12_mustSign (Nat.le_of_ble_eq_true rfl) ?_
  obtain ⟨hT, han, hq4, hft, hst, htk, hfa⟩ := id hR
  have hn := hT.2.1
  have hk := htk.2.1
  have hv := htk.1
  refine ev_aload_n eX12_mustSign_0 rfl ?_
  refine ev_aload_n eX12_mustSign_1 rfl ?_
  refine ev_geti eX12_mustSign_2 fX12_136 rfl ?_
  refine ev_iconst eX12_mustSign_5 ?_
  refine ev_icmp_ne 21 eX12_mustSign_6 rfl (by omega) (by omega) (fun h6 => ?_) (fun h6 => ?_)
  · skip
    refine ev_iconst eX12_mustSign_21 ?_
    refine ev_cV1 eX12_mustSign_22 ⟨lX12_146, kX12_must⟩ rfl rfl (m_must hR (z := 0) (Or.inl rfl) (c := 0) (fun _ z => absurd z (by decide))) ?_
    rintro _ τ ⟨rfl, r1, f1⟩
    refine ev_ret eX12_mustSign_25 rfl ?_
    rw [sMust_B0 (c := x) (fun e => by have := (htk.sign hx0).2 e; omega)] at r1
    exact ⟨rfl, r1, f1⟩
  · skip
    refine ev_aload_n eX12_mustSign_9 rfl ?_
    refine ev_geti eX12_mustSign_10 fX12_125 rfl ?_
    refine ev_iload_n eX12_mustSign_13 rfl ?_
    refine ev_icmp_ne 21 eX12_mustSign_14 rfl (by omega) (by omega) (fun h14 => ?_) (fun h14 => ?_)
    · skip
      refine ev_iconst eX12_mustSign_21 ?_
      refine ev_cV1 eX12_mustSign_22 ⟨lX12_146, kX12_must⟩ rfl rfl (m_must hR (z := 0) (Or.inl rfl) (c := 0) (fun _ z => absurd z (by decide))) ?_
      rintro _ τ ⟨rfl, r1, f1⟩
      refine ev_ret eX12_mustSign_25 rfl ?_
      rw [sMust_B0 (c := x) (fun e => by have := (htk.sign hx0).2 e; omega)] at r1
      exact ⟨rfl, r1, f1⟩
    · skip
      have hx : nx tp n q.2.1 = x := (htk.sign hx0).1 (by omega)
      refine ev_iconst eX12_mustSign_17 ?_
      refine ev_goto 22 eX12_mustSign_18 rfl ?_
      refine ev_cV1 eX12_mustSign_22 ⟨lX12_146, kX12_must⟩ rfl rfl (m_must hR (z := 1) (Or.inr rfl) (c := q.2.1 + 1) (fun _ _ => htk.c1 hx (by omega) (by omega))) ?_
      rintro _ τ ⟨rfl, r1, f1⟩
      refine ev_ret eX12_mustSign_25 rfl ?_
      rw [sMust_B1 hx] at r1
      exact ⟨rfl, r1, f1⟩
set_option maxRecDepth 20000 in
theorem m_figure {d : Nat} {σ : St} {tp : Nat → Nat} {n : Nat} {q : Ps} (hR : RM σ tp n q) {lo hi : Nat} (hlo : lo ≤ 9) (hhi : hi ≤ 9) (j : Nat) : Ct (d + 3) mX12_figure [.ref 45, vi lo, vi hi] σ (fun r τ => ∃ v : Nat, some (vi v) = r ∧ RM τ tp n (sNum tp n lo hi j q) ∧ Fx σ τ ∧ v ≤ 99 ∧ ((sNum tp n lo hi j q).1 = 0 → lo ≤ v ∧ v ≤ hi ∧ (sNum tp n lo hi j q).2.2 = upB q.2.2 j v)) := by
  refine ct_of hX12_figure (Nat.le_of_ble_eq_true rfl) ?_
  obtain ⟨hT, han, hq4, hft, hst, htk, hfa⟩ := id hR
  have hn := hT.2.1
  have hk := htk.2.1
  have hv := htk.1
  refine ev_aload_n eX12_figure_0 rfl ?_
  refine ev_getiv eX12_figure_1 fX12_112 rfl hft ?_
  refine ev_if_ne 20 eX12_figure_4 rfl (by omega) (fun h4 => ?_) (fun h4 => ?_)
  · skip
    refine ev_aload_n eX12_figure_20 rfl ?_
    refine ev_getiv eX12_figure_21 fX12_112 rfl hft ?_
    refine ev_if_ne 47 eX12_figure_24 rfl (by omega) (fun h24 => ?_) (fun h24 => False.elim (by omega))
    refine ev_aload_n eX12_figure_47 rfl ?_
    refine ev_getiv eX12_figure_48 fX12_112 rfl hft ?_
    refine ev_if_ne 61 eX12_figure_51 rfl (by omega) (fun h51 => ?_) (fun h51 => False.elim (by omega))
    refine ev_iload_n eX12_figure_61 rfl ?_
    refine ev_istore_n eX12_figure_62 (by decide) ?_
    refine ev_aload_n eX12_figure_63 rfl ?_
    refine ev_iconst eX12_figure_64 ?_
    refine ev_cV1 eX12_figure_65 ⟨lX12_146, kX12_must⟩ rfl rfl (m_must hR (z := 1) (Or.inr rfl) (c := 0) (fun z => absurd z (by omega))) ?_
    rintro _ χ ⟨rfl, r2, f2⟩
    refine ev_iload_n eX12_figure_68 rfl ?_
    refine ev_iret eX12_figure_69 rfl ?_
    rw [sMust_f (by omega)] at r2
    exact ⟨lo, rfl, by rw [sNum_f (by omega)]; exact r2, f2, by omega, fun z => absurd z (by rw [sNum_f (by omega)]; omega)⟩
  · skip
    refine ev_aload_n eX12_figure_7 rfl ?_
    refine ev_geti eX12_figure_8 fX12_136 rfl ?_
    refine ev_iconst eX12_figure_11 ?_
    refine ev_icmp_eq 20 eX12_figure_12 rfl (by omega) (by omega) (fun h12 => ?_) (fun h12 => ?_)
    · skip
      obtain ⟨hn2, hn3, hn5⟩ := htk.num (by omega)
      have hfl := figs_le hn2
      have hvl := vl2_le (figs_c tp n q.2.1).1
      refine ev_aload_n eX12_figure_20 rfl ?_
      refine ev_getiv eX12_figure_21 fX12_112 rfl hft ?_
      refine ev_if_ne 47 eX12_figure_24 rfl (by omega) (fun h24 => False.elim (by omega)) (fun h24 => ?_)
      refine ev_aload_n eX12_figure_27 rfl ?_
      refine ev_getiv eX12_figure_28 fX12_125 rfl hn3 ?_
      refine ev_i2l eX12_figure_31 (by omega) ?_
      refine ev_iload_n eX12_figure_32 rfl ?_
      refine ev_i2l eX12_figure_33 (by omega) ?_
      refine ev_iload_n eX12_figure_34 rfl ?_
      refine ev_i2l eX12_figure_35 (by omega) ?_
      refine ev_cS3 eX12_figure_36 ⟨lX12_70, kX12_in⟩ rfl (m_in (a := (vl2 tp q.2.1 (figs tp n q.2.1) : Int)) (b := lo) (c := hi) (by omega) (by omega) (by omega)) ?_
      rintro _ _ ⟨rfl, rfl⟩
      refine ev_ifb_ne 47 eX12_figure_39 rfl (fun h39 => ?_) (fun h39 => ?_)
      · skip
        refine ev_aload_n eX12_figure_47 rfl ?_
        refine ev_getiv eX12_figure_48 fX12_112 rfl hft ?_
        refine ev_if_ne 61 eX12_figure_51 rfl (by omega) (fun h51 => False.elim (by omega)) (fun h51 => ?_)
        refine ev_aload_n eX12_figure_54 rfl ?_
        refine ev_getiv eX12_figure_55 fX12_125 rfl hn3 ?_
        refine ev_goto 62 eX12_figure_58 rfl ?_
        refine ev_istore_n eX12_figure_62 (by decide) ?_
        refine ev_aload_n eX12_figure_63 rfl ?_
        refine ev_iconst eX12_figure_64 ?_
        refine ev_cV1 eX12_figure_65 ⟨lX12_146, kX12_must⟩ rfl rfl (m_must hR (z := 1) (Or.inr rfl) (c := q.2.1 + figs tp n q.2.1) (fun _ _ => ⟨hn5, hfl⟩)) ?_
        rintro _ χ ⟨rfl, r2, f2⟩
        refine ev_iload_n eX12_figure_68 rfl ?_
        refine ev_iret eX12_figure_69 rfl ?_
        rw [sMust_1 (by omega)] at r2
        rcases sNum_c tp n lo hi j (q := q) (by omega) with ⟨e1, e2⟩ | ⟨e1, e2, e3⟩ | ⟨e1, e2, e3⟩ <;> first | (exfalso; omega) | skip
        exact ⟨_, rfl, by rw [e3]; exact r2.q rfl rfl, f2, hvl, fun _ => ⟨by omega, by omega, by rw [e3]⟩⟩
      · skip
        refine ev_aload_n eX12_figure_42 rfl ?_
        refine ev_iconst eX12_figure_43 ?_
        refine ev_cV1 eX12_figure_44 ⟨lX12_139, kX12_bad⟩ rfl rfl (m_bad2 hR (k := 2) (by decide) (by decide)) ?_
        rintro _ τ ⟨rfl, r1, f1⟩
        have hn1 := sBad_n (k := 2) (q := q) (by decide)
        have hb4 := r1.2.2.1
        refine ev_aload_n eX12_figure_47 rfl ?_
        refine ev_getiv eX12_figure_48 fX12_112 rfl r1.2.2.2.1 ?_
        refine ev_if_ne 61 eX12_figure_51 rfl (by omega) (fun h51 => ?_) (fun h51 => False.elim (by omega))
        refine ev_iload_n eX12_figure_61 rfl ?_
        refine ev_istore_n eX12_figure_62 (by decide) ?_
        refine ev_aload_n eX12_figure_63 rfl ?_
        refine ev_iconst eX12_figure_64 ?_
        refine ev_cV1 eX12_figure_65 ⟨lX12_146, kX12_must⟩ rfl rfl (m_must r1 (z := 1) (Or.inr rfl) (c := 0) (fun z => absurd z hn1)) ?_
        rintro _ χ ⟨rfl, r2, f2⟩
        refine ev_iload_n eX12_figure_68 rfl ?_
        refine ev_iret eX12_figure_69 rfl ?_
        rw [sMust_f hn1, sBad_z (by omega)] at r2
        rcases sNum_c tp n lo hi j (q := q) (by omega) with ⟨e1, e2⟩ | ⟨e1, e2, e3⟩ | ⟨e1, e2, e3⟩ <;> first | (exfalso; omega) | skip
        exact ⟨lo, rfl, by rw [e3]; exact r2, f1.tr f2, by omega, fun z => by rw [e3] at z; exact absurd (show (2 : Nat) = 0 from z) (by decide)⟩
    · skip
      have hn2 := htk.nnum (by omega)
      refine ev_aload_n eX12_figure_15 rfl ?_
      refine ev_iconst eX12_figure_16 ?_
      refine ev_cV1 eX12_figure_17 ⟨lX12_139, kX12_bad⟩ rfl rfl (m_bad2 hR (k := 1) (by decide) (by decide)) ?_
      rintro _ τ ⟨rfl, r1, f1⟩
      have hn1 := sBad_n (k := 1) (q := q) (by decide)
      have hb4 := r1.2.2.1
      refine ev_aload_n eX12_figure_20 rfl ?_
      refine ev_getiv eX12_figure_21 fX12_112 rfl r1.2.2.2.1 ?_
      refine ev_if_ne 47 eX12_figure_24 rfl (by omega) (fun h24 => ?_) (fun h24 => False.elim (by omega))
      refine ev_aload_n eX12_figure_47 rfl ?_
      refine ev_getiv eX12_figure_48 fX12_112 rfl r1.2.2.2.1 ?_
      refine ev_if_ne 61 eX12_figure_51 rfl (by omega) (fun h51 => ?_) (fun h51 => False.elim (by omega))
      refine ev_iload_n eX12_figure_61 rfl ?_
      refine ev_istore_n eX12_figure_62 (by decide) ?_
      refine ev_aload_n eX12_figure_63 rfl ?_
      refine ev_iconst eX12_figure_64 ?_
      refine ev_cV1 eX12_figure_65 ⟨lX12_146, kX12_must⟩ rfl rfl (m_must r1 (z := 1) (Or.inr rfl) (c := 0) (fun z => absurd z hn1)) ?_
      rintro _ χ ⟨rfl, r2, f2⟩
      refine ev_iload_n eX12_figure_68 rfl ?_
      refine ev_iret eX12_figure_69 rfl ?_
      rw [sMust_f hn1, sBad_z (by omega)] at r2
      rcases sNum_c tp n lo hi j (q := q) (by omega) with ⟨e1, e2⟩ | ⟨e1, e2, e3⟩ | ⟨e1, e2, e3⟩ <;> first | (exfalso; omega) | skip
      exact ⟨lo, rfl, by rw [e2]; exact r2, f1.tr f2, by omega, fun z => by rw [e2] at z; exact absurd (show (1 : Nat) = 0 from z) (by decide)⟩
set_option maxRecDepth 20000 in
theorem m_sortOf {d : Nat} {σ : St} {x : Int} (hx : -2147483648 ≤ x ∧ x ≤ 2147483647) : Ct (d) mX12_sortOf [vi x] σ (rt (vi (toldN x)) σ) := by
  refine ct_of hX12_sortOf (Nat.le_of_ble_eq_true rfl) ?_
  refine ev_iload_n eX12_sortOf_0 rfl ?_
  refine ev_bipush eX12_sortOf_1 rfl ?_
  refine ev_icmp_ne 10 eX12_sortOf_3 rfl (by omega) (by omega) (fun h3 => ?_) (fun h3 => ?_)
  · skip
    refine ev_iload_n eX12_sortOf_10 rfl ?_
    refine ev_bipush eX12_sortOf_11 rfl ?_
    refine ev_icmp_ne 20 eX12_sortOf_13 rfl (by omega) (by omega) (fun h13 => ?_) (fun h13 => ?_)
    · skip
      refine ev_iload_n eX12_sortOf_20 rfl ?_
      refine ev_bipush eX12_sortOf_21 rfl ?_
      refine ev_icmp_ne 30 eX12_sortOf_23 rfl (by omega) (by omega) (fun h23 => ?_) (fun h23 => ?_)
      · skip
        refine ev_iload_n eX12_sortOf_30 rfl ?_
        refine ev_bipush eX12_sortOf_31 rfl ?_
        refine ev_icmp_ne 40 eX12_sortOf_33 rfl (by omega) (by omega) (fun h33 => ?_) (fun h33 => ?_)
        · skip
          refine ev_iload_n eX12_sortOf_40 rfl ?_
          refine ev_bipush eX12_sortOf_41 rfl ?_
          refine ev_icmp_ne 50 eX12_sortOf_43 rfl (by omega) (by omega) (fun h43 => ?_) (fun h43 => ?_)
          · skip
            refine ev_iconst eX12_sortOf_50 ?_
            refine ev_iret eX12_sortOf_51 rfl ?_
            rw [show toldN x = 0 by unfold toldN; repeat (first | omega | split)]
            exact ⟨rfl, rfl⟩
          · skip
            refine ev_iconst eX12_sortOf_46 ?_
            refine ev_goto 51 eX12_sortOf_47 rfl ?_
            refine ev_iret eX12_sortOf_51 rfl ?_
            rw [show toldN x = 5 by unfold toldN; repeat (first | omega | split)]
            exact ⟨rfl, rfl⟩
        · skip
          refine ev_iconst eX12_sortOf_36 ?_
          refine ev_goto 51 eX12_sortOf_37 rfl ?_
          refine ev_iret eX12_sortOf_51 rfl ?_
          rw [show toldN x = 4 by unfold toldN; repeat (first | omega | split)]
          exact ⟨rfl, rfl⟩
      · skip
        refine ev_iconst eX12_sortOf_26 ?_
        refine ev_goto 51 eX12_sortOf_27 rfl ?_
        refine ev_iret eX12_sortOf_51 rfl ?_
        rw [show toldN x = 3 by unfold toldN; repeat (first | omega | split)]
        exact ⟨rfl, rfl⟩
    · skip
      refine ev_iconst eX12_sortOf_16 ?_
      refine ev_goto 51 eX12_sortOf_17 rfl ?_
      refine ev_iret eX12_sortOf_51 rfl ?_
      rw [show toldN x = 2 by unfold toldN; repeat (first | omega | split)]
      exact ⟨rfl, rfl⟩
  · skip
    refine ev_iconst eX12_sortOf_6 ?_
    refine ev_goto 51 eX12_sortOf_7 rfl ?_
    refine ev_iret eX12_sortOf_51 rfl ?_
    rw [show toldN x = 1 by unfold toldN; repeat (first | omega | split)]
    exact ⟨rfl, rfl⟩
