/-! Tally: run, sums -/
theorem nm_succ (B : Bok) (n : Nat) : nm B (n + 1) = nxt B (nm B n) := rfl
theorem cntF_s (f : Nat → Nat) (x n : Nat) : cntF f x (n + 1) = cntF f x n + (if f n = x then 1 else 0) := rfl
theorem sumF_s (f : Nat → Nat) (n : Nat) : sumF f (n + 1) = sumF f n + f n := rfl
theorem cntF_congr {f g : Nat → Nat} {x n : Nat} (h : ∀ i, i < n → f i = g i) : cntF f x n = cntF g x n := by
  induction n with
  | zero => rfl
  | succ n ih => unfold cntF; rw [ih (fun i hi => h i (by omega)), h n (by omega)]
set_option maxRecDepth 20000 in
theorem c_run_c {d : Nat} {σ : St} {b : Nat} {B : Bok} (hb : Bq b) (hB : BkC σ (b + 13) B) (hf : Wf B) {n : Nat} (hn : n ≤ 60) : ∀ (fu : Nat) {i : Nat} {τ : St}, n - i < fu → i ≤ n → Tt τ B → ¬ ovr B i → Vat τ (B 2) (nm B i) → (∀ k, k ≠ 8 → k ≠ 38 → k ≠ 39 → k ≠ 40 → τ k = σ k) → Ev (d + 2) mX9_run 60 [.ref 8, .ref b, vi n, vi i] [] τ (fun r τ => (∀ k, k ≠ 8 → k ≠ 38 → k ≠ 39 → k ≠ 40 → τ k = σ k) ∧ ((some (vi 1) = r ∧ Tt τ B ∧ ¬ ovr B n ∧ Vat τ (B 2) (nm B n)) ∨ (some (vi 0) = r ∧ ovr B n))) := by
  intro fu
  induction fu with
  | zero => intros; omega
  | succ fu ih =>
    intro i τ hm h1 h2 h3 h4 h9
    refine ev_iload_n eX9_run_60 rfl ?_
    refine ev_iload_n eX9_run_61 rfl ?_
    refine ev_icmp_ge 80 eX9_run_62 rfl (by omega) (by omega) (fun h62 => ?_) (fun h62 => ?_)
    · skip
      refine ev_iconst eX9_run_80 ?_
      refine ev_zret eX9_run_81 rfl (by first | exact Or.inl rfl | exact Or.inr rfl | exact bI01 _) ?_
      obtain rfl : i = n := by omega
      exact ⟨h9, Or.inl ⟨rfl, h2, h3, h4⟩⟩
    · skip
      refine ev_aload_n eX9_run_65 rfl ?_
      refine ev_cV0 eX9_run_66 ⟨lX9_38, kX9_runOnce⟩ rfl rfl (c_runOnce hf h2 h4) ?_
      rintro _ τ2 ⟨g0, ⟨rfl, g1⟩ | ⟨rfl, g1⟩⟩
      · skip
        refine ev_if_ne 74 eX9_run_69 rfl (by omega) (fun h69 => ?_) (fun h69 => False.elim (by omega))
        refine ev_iinc eX9_run_74 rfl (by decide) ?_
        refine ev_goto 60 eX9_run_77 rfl ?_
        refine ih (i := i + 1) (by omega) (by omega) ⟨by rw [g0 8 (by decide) (by decide)]; exact h2.1, fun f t a1 a2 => by rw [g0 40 (by decide) (by decide)]; exact h2.2 f t a1 a2⟩ ?_ g1 (fun k a1 a2 a3 a4 => by rw [g0 k a2 a3]; exact h9 k a1 a2 a3 a4)
        rintro ⟨k, hk, s, hs, hq⟩
        by_cases e : k = i + 1
        · subst e
          have := (g1 s hs).1
          rw [nm_succ] at hq
          omega
        · exact h3 ⟨k, by omega, s, hs, hq⟩
      · skip
        refine ev_if_ne 74 eX9_run_69 rfl (by omega) (fun h69 => False.elim (by omega)) (fun h69 => ?_)
        refine ev_iconst eX9_run_72 ?_
        refine ev_zret eX9_run_73 rfl (by first | exact Or.inl rfl | exact Or.inr rfl | exact bI01 _) ?_
        obtain ⟨s, hs, hq⟩ := g1
        exact ⟨fun k a1 a2 a3 a4 => by rw [g0 k a2 a3]; exact h9 k a1 a2 a3 a4, Or.inr ⟨rfl, i + 1, by omega, s, hs, hq⟩⟩
set_option maxRecDepth 20000 in
theorem c_run_b {d : Nat} {σ : St} {b : Nat} {B : Bok} (hb : Bq b) (hB : BkC σ (b + 13) B) (hf : Wf B) {n : Nat} (hn : n ≤ 60) (hlt : ∀ i, i < B 3 → rw_ B i < B 2) : ∀ (fu : Nat) {i : Nat} {τ : St}, B 3 - i < fu → i ≤ B 3 → Tt τ B → (∀ s, s < B 2 → τ 38 s = (cntF (rw_ B) s i : Int)) → (∀ k, k ≠ 8 → k ≠ 38 → k ≠ 39 → k ≠ 40 → τ k = σ k) → Ev (d + 2) mX9_run 30 [.ref 8, .ref b, vi n, vi i] [] τ (fun r τ => (∀ k, k ≠ 8 → k ≠ 38 → k ≠ 39 → k ≠ 40 → τ k = σ k) ∧ ((some (vi 1) = r ∧ Tt τ B ∧ ¬ ovr B n ∧ Vat τ (B 2) (nm B n)) ∨ (some (vi 0) = r ∧ ovr B n))) := by
  intro fu
  induction fu with
  | zero => intros; omega
  | succ fu ih =>
    intro i τ hm h1 h2 h3 h9
    have h8 := hf.2.2.1
    have h7 := hf.2.1
    refine ev_iload_n eX9_run_30 rfl ?_
    refine ev_aload_n eX9_run_31 rfl ?_
    refine ev_cV0 eX9_run_32 ⟨lX9_30, kX0_rowSize⟩ (ocB hb) rfl (c_rowSize hb (fun j hj => by rw [h9 _ (by have := hb; unfold Bq at this; omega) (by have := hb; unfold Bq at this; omega) (by have := hb; unfold Bq at this; omega) (by have := hb; unfold Bq at this; omega)]; exact hB j hj) hf.1) ?_
    rintro _ _ ⟨rfl, rfl⟩
    refine ev_icmp_ge 58 eX9_run_35 rfl (by omega) (by omega) (fun h35 => ?_) (fun h35 => ?_)
    · skip
      refine ev_iconst eX9_run_58 ?_
      refine ev_istore_n eX9_run_59 (by decide) ?_
      refine c_run_c hb hB hf hn 61 (i := 0) (by omega) (by omega) h2 ?_ (fun s hs => ?_) h9
      · rintro ⟨k, hk, s, hs, hq⟩
        obtain rfl : k = 0 := by omega
        have h1 := cntF_le (rw_ B) s (B 3)
        have e := MXe
        have h8 := hf.2.2.1
        unfold nm at hq
        omega
      · have h1 := cntF_le (rw_ B) s (B 3)
        have e := MXe
        have h8 := hf.2.2.1
        refine ⟨by unfold nm; omega, ?_⟩
        rw [h3 s hs, show i = B 3 by omega]
        rfl
    · skip
      refine ev_aload_n eX9_run_38 rfl ?_
      refine ev_getr eX9_run_39 fX9_9 rfl ?_
      refine ev_aload_n eX9_run_42 rfl ?_
      refine ev_iload_n eX9_run_43 rfl ?_
      refine ev_cV1 eX9_run_44 ⟨lX9_34, kX0_rowLetter⟩ (ocB hb) rfl (c_rowLetter hb (fun j hj => by rw [h9 _ (by have := hb; unfold Bq at this; omega) (by have := hb; unfold Bq at this; omega) (by have := hb; unfold Bq at this; omega) (by have := hb; unfold Bq at this; omega)]; exact hB j hj) hf.1 (i := i) (by omega)) ?_
      rintro _ _ ⟨rfl, rfl⟩
      have hq := hlt i (by omega)
      refine ev_dup2 eX9_run_47 rfl rfl ?_
      refine ev_laldv (rw_ B i) eX9_run_48 rfl (by first | rfl | omega) (by omega) (h3 _ hq) ?_
      refine ev_lconst 1 eX9_run_49 rfl ?_
      refine ev_ladd eX9_run_50 ?_
      refine ev_last (rw_ B i) eX9_run_51 rfl (by first | rfl | omega) (by omega) ?_
      refine ev_iinc eX9_run_52 rfl (by decide) ?_
      refine ev_goto 30 eX9_run_55 rfl ?_
      refine ih (i := i + 1) (by omega) (by omega) ⟨by rw [up_o _ _ _ (by decide)]; exact h2.1, fun f t a1 a2 => by rw [up_o _ _ _ (by decide)]; exact h2.2 f t a1 a2⟩ (fun s hs => ?_) (fun k a1 a2 a3 a4 => by rw [up_o _ _ _ a2]; exact h9 k a1 a2 a3 a4)
      by_cases e : s = rw_ B i
      · subst e
        rw [up_s, cntF_s, if_pos rfl]
        push_cast
        rfl
      · rw [up_n _ _ e, h3 s hs, cntF_s, if_neg (fun z => e z.symm), Nat.add_zero]
set_option maxRecDepth 20000 in
theorem c_run_a {d : Nat} {σ : St} {b : Nat} {B : Bok} (hb : Bq b) (hB : BkC σ (b + 13) B) (hf : Wf B) {n : Nat} (hn : n ≤ 60) (hlt : ∀ i, i < B 3 → rw_ B i < B 2) : ∀ (fu : Nat) {i : Nat} {τ : St}, B 2 - i < fu → i ≤ B 2 → Tt τ B → (∀ s, s < i → τ 38 s = 0) → (∀ k, k ≠ 8 → k ≠ 38 → k ≠ 39 → k ≠ 40 → τ k = σ k) → Ev (d + 2) mX9_run 7 [.ref 8, .ref b, vi n, vi i] [] τ (fun r τ => (∀ k, k ≠ 8 → k ≠ 38 → k ≠ 39 → k ≠ 40 → τ k = σ k) ∧ ((some (vi 1) = r ∧ Tt τ B ∧ ¬ ovr B n ∧ Vat τ (B 2) (nm B n)) ∨ (some (vi 0) = r ∧ ovr B n))) := by
  intro fu
  induction fu with
  | zero => intros; omega
  | succ fu ih =>
    intro i τ hm h1 h2 h3 h9
    have h7 := hf.2.1
    refine ev_iload_n eX9_run_7 rfl ?_
    refine ev_aload_n eX9_run_8 rfl ?_
    refine ev_getiv eX9_run_9 fX9_22 rfl h2.1 ?_
    refine ev_icmp_ge 28 eX9_run_12 rfl (by omega) (by omega) (fun h12 => ?_) (fun h12 => ?_)
    · skip
      refine ev_iconst eX9_run_28 ?_
      refine ev_istore_n eX9_run_29 (by decide) ?_
      exact c_run_b hb hB hf hn hlt 9 (i := 0) (by have := hf.2.2.1; omega) (by omega) h2 (fun s hs => h3 s (by omega)) h9
    · skip
      refine ev_aload_n eX9_run_15 rfl ?_
      refine ev_getr eX9_run_16 fX9_9 rfl ?_
      refine ev_iload_n eX9_run_19 rfl ?_
      refine ev_lconst 0 eX9_run_20 rfl ?_
      refine ev_last (i) eX9_run_21 rfl (by first | rfl | omega) (by omega) ?_
      refine ev_iinc eX9_run_22 rfl (by decide) ?_
      refine ev_goto 7 eX9_run_25 rfl ?_
      refine ih (i := i + 1) (by omega) (by omega) ⟨by rw [up_o _ _ _ (by decide)]; exact h2.1, fun f t a1 a2 => by rw [up_o _ _ _ (by decide)]; exact h2.2 f t a1 a2⟩ (fun s hs => ?_) (fun k a1 a2 a3 a4 => by rw [up_o _ _ _ a2]; exact h9 k a1 a2 a3 a4)
      by_cases e : s = i
      · subst e; exact up_s _ _ _ _
      · rw [up_n _ _ e]; exact h3 s (by omega)
set_option maxRecDepth 20000 in
theorem c_run {d : Nat} {σ : St} {b : Nat} {B : Bok} (hb : Bq b) (hB : BkC σ (b + 13) B) (hf : Wf B) {n : Nat} (hn : n ≤ 60) (hlt : ∀ i, i < B 3 → rw_ B i < B 2) : Ct (d + 4) mX9_run [.ref 8, .ref b, vi n] σ (fun r τ => (∀ k, k ≠ 8 → k ≠ 38 → k ≠ 39 → k ≠ 40 → τ k = σ k) ∧ ((some (vi 1) = r ∧ Tt τ B ∧ ¬ ovr B n ∧ Vat τ (B 2) (nm B n)) ∨ (some (vi 0) = r ∧ ovr B n))) := by
  refine ct_of hX9_run (Nat.le_of_ble_eq_true rfl) ?_
  refine ev_aload_n eX9_run_0 rfl ?_
  refine ev_aload_n eX9_run_1 rfl ?_
  refine ev_cV1 eX9_run_2 ⟨lX9_26, kX9_takeImages⟩ rfl rfl (c_takeImages hb hB hf) ?_
  rintro _ τ ⟨rfl, g1, g2⟩
  refine ev_iconst eX9_run_5 ?_
  refine ev_istore_n eX9_run_6 (by decide) ?_
  exact c_run_a hb hB hf hn hlt 5 (i := 0) (by have := hf.2.1; omega) (by omega) g1 (fun s hs => by omega) (fun k a1 a2 a3 a4 => g2 k a1 a4)
set_option maxRecDepth 20000 in
theorem c_of {d : Nat} {σ : St} {s m : Nat} {v : Nat → Nat} (hv : Vat σ m v) (hs : s < m) (hm : m ≤ 4) : Ct (d) mX9_of [.ref 8, vi s] σ (rt (vl (v s)) σ) := by
  refine ct_of hX9_of (Nat.le_of_ble_eq_true rfl) ?_
  refine ev_aload_n eX9_of_0 rfl ?_
  refine ev_getr eX9_of_1 fX9_9 rfl ?_
  refine ev_iload_n eX9_of_4 rfl ?_
  refine ev_laldv (s) eX9_of_5 rfl (by first | rfl | omega) (by omega) (hv s hs).2 ?_
  refine ev_lret eX9_of_6 rfl ?_
  exact ⟨rfl, rfl⟩
set_option maxRecDepth 20000 in
theorem c_sum_l {d : Nat} {σ : St} {m : Nat} {v : Nat → Nat} (hv : Vat σ m v) (hm : m ≤ 4) (hs : σ 8 3 = (m : Int)) : ∀ (fu : Nat) {i : Nat}, m - i < fu → i ≤ m → Ev (d + 1) mX9_sum 4 [.ref 8, vl (cl (sumF v i)), .null, vi i] [] σ (rt (vl (cl (sumF v m))) σ) := by
  intro fu
  induction fu with
  | zero => intros; omega
  | succ fu ih =>
    intro i hn h1
    refine ev_iload_n eX9_sum_4 rfl ?_
    refine ev_aload_n eX9_sum_5 rfl ?_
    refine ev_getiv eX9_sum_6 fX9_22 rfl hs ?_
    refine ev_icmp_ge 29 eX9_sum_9 rfl (by omega) (by omega) (fun h9 => ?_) (fun h9 => ?_)
    · skip
      refine ev_lload_n eX9_sum_29 rfl ?_
      refine ev_lret eX9_sum_30 rfl ?_
      exact ⟨congrArg (fun q => some (vl q)) (by rw [show i = m by omega]), rfl⟩
    · skip
      refine ev_lload_n eX9_sum_12 rfl ?_
      refine ev_aload_n eX9_sum_13 rfl ?_
      refine ev_getr eX9_sum_14 fX9_9 rfl ?_
      refine ev_iload_n eX9_sum_17 rfl ?_
      refine ev_laldv (i) eX9_sum_18 rfl (by first | rfl | omega) (by omega) ((hv i (by omega)).2.trans (cl_le (hv i (by omega)).1).symm) ?_
      refine ev_cS2 eX9_sum_19 ⟨lX9_54, kX1_plus⟩ rfl (c_plus _ _) ?_
      rintro _ _ ⟨rfl, rfl⟩
      refine ev_lstore_n eX9_sum_22 (by decide) ?_
      refine ev_iinc eX9_sum_23 rfl (by decide) ?_
      refine ev_goto 4 eX9_sum_26 rfl ?_
      exact ih (i := i + 1) (by omega) (by omega)
set_option maxRecDepth 20000 in
theorem c_sum {d : Nat} {σ : St} {m : Nat} {v : Nat → Nat} (hv : Vat σ m v) (hm : m ≤ 4) (hs : σ 8 3 = (m : Int)) : Ct (d + 1) mX9_sum [.ref 8] σ (rt (vl (cl (sumF v m))) σ) := by
  refine ct_of hX9_sum (Nat.le_of_ble_eq_true rfl) ?_
  refine ev_lconst 0 eX9_sum_0 rfl ?_
  refine ev_lstore_n eX9_sum_1 (by decide) ?_
  refine ev_iconst eX9_sum_2 ?_
  refine ev_istore_n eX9_sum_3 (by decide) ?_
  exact c_sum_l hv hm hs 5 (i := 0) (by omega) (by omega)
set_option maxRecDepth 20000 in
theorem c_wlen_l {d : Nat} {σ : St} {b : Nat} {B : Bok} (hb : Bq b) (hB : BkC σ (b + 13) B) (hf : Wf B) {v : Nat → Nat} (hv : Vat σ (B 2) v) (hs : σ 8 3 = (B 2 : Int)) {e : Nat} (he : e < 2)  : ∀ (fu : Nat) {i : Nat}, B 2 - i < fu → i ≤ B 2 → Ev (d + 2) mX9_wholeLength 5 [.ref 8, .ref b, vi e, vl (cl (sumF (fun q => v q * ln B q e)  i)), .null, vi i] [] σ (rt (vl (cl (sumF (fun q => v q * ln B q e)  (B 2)))) σ) := by
  intro fu
  induction fu with
  | zero => intros; omega
  | succ fu ih =>
    intro i hn h1
    have h7 := hf.2.1
    refine ev_iload eX9_wholeLength_5 rfl ?_
    refine ev_aload_n eX9_wholeLength_7 rfl ?_
    refine ev_getiv eX9_wholeLength_8 fX9_22 rfl hs ?_
    refine ev_icmp_ge 42 eX9_wholeLength_11 rfl (by omega) (by omega) (fun h11 => ?_) (fun h11 => ?_)
    · skip
      refine ev_lload_n eX9_wholeLength_42 rfl ?_
      refine ev_lret eX9_wholeLength_43 rfl ?_
      exact ⟨congrArg (fun q => some (vl q)) (by rw [show i = B 2 by omega]), rfl⟩
    · skip
      refine ev_lload_n eX9_wholeLength_14 rfl ?_
      refine ev_aload_n eX9_wholeLength_15 rfl ?_
      refine ev_getr eX9_wholeLength_16 fX9_9 rfl ?_
      refine ev_iload eX9_wholeLength_19 rfl ?_
      refine ev_laldv (i) eX9_wholeLength_21 rfl (by first | rfl | omega) (by omega) (hv i (by omega)).2 ?_
      refine ev_aload_n eX9_wholeLength_22 rfl ?_
      refine ev_iload eX9_wholeLength_23 rfl ?_
      refine ev_iload_n eX9_wholeLength_25 rfl ?_
      refine ev_cV2 eX9_wholeLength_26 ⟨lX9_64, kX0_lengthOf⟩ (ocB hb) rfl (c_lengthOf hb hB hf.1 (s := i) (by omega) he) ?_
      rintro _ _ ⟨rfl, rfl⟩
      refine ev_cS2 eX9_wholeLength_29 ⟨lX9_48, kX1_times⟩ rfl (c_times_ (hv i (by omega)).1 (by have := ln_le hf (s := i) (by omega) he; omega)) ?_
      rintro _ _ ⟨rfl, rfl⟩
      refine ev_cS2 eX9_wholeLength_32 ⟨lX9_54, kX1_plus⟩ rfl (c_plus _ _) ?_
      rintro _ _ ⟨rfl, rfl⟩
      refine ev_lstore_n eX9_wholeLength_35 (by decide) ?_
      refine ev_iinc eX9_wholeLength_36 rfl (by decide) ?_
      refine ev_goto 5 eX9_wholeLength_39 rfl ?_
      exact ih (i := i + 1) (by omega) (by omega)
set_option maxRecDepth 20000 in
theorem c_wlen {d : Nat} {σ : St} {b : Nat} {B : Bok} (hb : Bq b) (hB : BkC σ (b + 13) B) (hf : Wf B) {v : Nat → Nat} (hv : Vat σ (B 2) v) (hs : σ 8 3 = (B 2 : Int)) {e : Nat} (he : e < 2)  : Ct (d + 2) mX9_wholeLength [.ref 8, .ref b, vi e] σ (rt (vl (cl (sumF (fun q => v q * ln B q e)  (B 2)))) σ) := by
  refine ct_of hX9_wholeLength (Nat.le_of_ble_eq_true rfl) ?_
  refine ev_lconst 0 eX9_wholeLength_0 rfl ?_
  refine ev_lstore_n eX9_wholeLength_1 (by decide) ?_
  refine ev_iconst eX9_wholeLength_2 ?_
  refine ev_istore eX9_wholeLength_3 (by decide) ?_
  exact c_wlen_l hb hB hf hv hs he 5 (i := 0) (by have := hf.2.1; omega) (by omega)
