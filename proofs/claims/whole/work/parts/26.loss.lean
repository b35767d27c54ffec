/-! the first of the ways -/
def Gd (B : Bok) (l : Nat → Nat) (n : Nat) (F : Nat → Nat) (a s : Nat) : Prop := LAc B l n s a ∧ 0 < F (a + im B s)
noncomputable def lf (B : Bok) (l : Nat → Nat) (n : Nat) (F : Nat → Nat) : Nat → Nat → Int
  | 0, a => if a < n then lm (Gd B l n F a) (B 2) else -1
  | k + 1, a => if a < n then (if lm (Gd B l n F a) (B 2) < 0 then -1 else lf B l n F k (a + im B (lm (Gd B l n F a) (B 2)).toNat)) else -1
set_option maxRecDepth 20000 in
theorem c_least_l {d : Nat} {σ : St} {b : Nat} {B : Bok} (hb : Bq b) (hB : BkC σ (b + 13) B) (hf : Wf B) {l : Nat → Nat} {n : Nat} (hF : Fo σ l n) {F : Nat → Nat} (hv : ∀ a, a ≤ n → σ 42 a = (F a : Int) ∧ F a ≤ CR) {a : Nat} (ha : a < n) : ∀ (fu : Nat) {s : Nat}, B 2 - s < fu → s ≤ B 2 → (∀ q, q < s → ¬ Gd B l n F a q) → Ev (d + 3) mX2_leastAt 2 [.ref 9, .ref b, vi a, vi s] [] σ (rt (vi (lm (Gd B l n F a) (B 2))) σ) := by
  intro fu
  induction fu with
  | zero => intros; omega
  | succ fu ih =>
    intro s hn h1 h2
    have h4 := hf.2.1
    have h5 := hF.2.1
    have hce := CRe
    refine ev_iload_n eX2_leastAt_2 rfl ?_
    refine ev_aload_n eX2_leastAt_3 rfl ?_
    refine ev_cV0 eX2_leastAt_4 ⟨lX2_22, kX0_sortCount⟩ (ocB hb) rfl (c_sortCount hb hB hf.1) ?_
    rintro _ _ ⟨rfl, rfl⟩
    refine ev_icmp_ge 43 eX2_leastAt_7 rfl (by omega) (by omega) (fun h7 => ?_) (fun h7 => ?_)
    · skip
      refine ev_iconst eX2_leastAt_43 ?_
      refine ev_iret eX2_leastAt_44 rfl ?_
      exact ⟨congrArg (fun q => some (vi q)) (lm_n (fun q hq => h2 q (by omega))), rfl⟩
    · skip
      refine ev_aload_n eX2_leastAt_10 rfl ?_
      refine ev_aload_n eX2_leastAt_11 rfl ?_
      refine ev_iload_n eX2_leastAt_12 rfl ?_
      refine ev_iload_n eX2_leastAt_13 rfl ?_
      refine ev_cV3 eX2_leastAt_14 ⟨lX2_28, kX2_liesAt⟩ rfl rfl (c_lies hb hB hf hF (s := s) (a := a) (by omega) (by omega)) ?_
      rintro _ _ ⟨rfl, rfl⟩
      refine ev_ifb_eq 37 eX2_leastAt_17 rfl (fun h17 => ?_) (fun h17 => ?_)
      · skip
        refine ev_iinc eX2_leastAt_37 rfl (by decide) ?_
        refine ev_goto 2 eX2_leastAt_40 rfl ?_
        refine ih (s := s + 1) (by omega) (by omega) (fun q hq => ?_)
        by_cases e : q = s
        · subst e; first | exact fun z => h17 z.1 | exact fun z => by have := z.2; omega
        · exact h2 q (by omega)
      · skip
        have hle := h17.1
        refine ev_aload_n eX2_leastAt_20 rfl ?_
        refine ev_getr eX2_leastAt_21 fX2_15 rfl ?_
        refine ev_iload_n eX2_leastAt_24 rfl ?_
        refine ev_aload_n eX2_leastAt_25 rfl ?_
        refine ev_iload_n eX2_leastAt_26 rfl ?_
        refine ev_cV1 eX2_leastAt_27 ⟨lX2_32, kX0_imageSize⟩ (ocB hb) rfl (c_imageSize hb hB hf.1 (s := s) (by omega)) ?_
        rintro _ _ ⟨rfl, rfl⟩
        refine ev_iadd eX2_leastAt_30 ?_
        refine ev_ialdv ((a + im B s)) eX2_leastAt_31 rfl (by first | rfl | omega) (by omega) (hv _ (by omega)).1 ?_
        have hcr := (hv (a + im B s) (by omega)).2
        refine ev_if_le 37 eX2_leastAt_32 rfl (by omega) (fun h32 => ?_) (fun h32 => ?_)
        · skip
          refine ev_iinc eX2_leastAt_37 rfl (by decide) ?_
          refine ev_goto 2 eX2_leastAt_40 rfl ?_
          refine ih (s := s + 1) (by omega) (by omega) (fun q hq => ?_)
          by_cases e : q = s
          · subst e; first | exact fun z => h17 z.1 | exact fun z => by have := z.2; omega
          · exact h2 q (by omega)
        · skip
          refine ev_iload_n eX2_leastAt_35 rfl ?_
          refine ev_iret eX2_leastAt_36 rfl ?_
          exact ⟨congrArg (fun q => some (vi q)) (lm_s (by omega) ⟨h17, by omega⟩ h2), rfl⟩
set_option maxRecDepth 20000 in
theorem c_least {d : Nat} {σ : St} {b : Nat} {B : Bok} (hb : Bq b) (hB : BkC σ (b + 13) B) (hf : Wf B) {l : Nat → Nat} {n : Nat} (hF : Fo σ l n) {F : Nat → Nat} (hv : ∀ a, a ≤ n → σ 42 a = (F a : Int) ∧ F a ≤ CR) {a : Nat} (ha : a < n) : Ct (d + 3) mX2_leastAt [.ref 9, .ref b, vi a] σ (rt (vi (lm (Gd B l n F a) (B 2))) σ) := by
  refine ct_of hX2_leastAt (Nat.le_of_ble_eq_true rfl) ?_
  refine ev_iconst eX2_leastAt_0 ?_
  refine ev_istore_n eX2_leastAt_1 (by decide) ?_
  exact c_least_l hb hB hf hF hv ha 5 (s := 0) (by have := hf.2.1; omega) (by omega) (fun q hq => by omega)
set_option maxRecDepth 20000 in
theorem c_lof_l {d : Nat} {σ : St} {b : Nat} {B : Bok} (hb : Bq b) (hB : BkC σ (b + 13) B) (hf : Wf B) {l : Nat → Nat} {n : Nat} (hF : Fo σ l n) {F : Nat → Nat} (hv : ∀ a, a ≤ n → σ 42 a = (F a : Int) ∧ F a ≤ CR) (h1i : ∀ s, s < B 2 → 1 ≤ im B s) {wh : Nat} (hwh : wh ≤ 2147483647) : ∀ (fu : Nat) {a i : Nat} {u5 : Value}, n - a < fu → a ≤ n → i ≤ a → i ≤ wh → lf B l n F (wh - i) a = lf B l n F wh 0 → Ev (d + 4) mX2_letterOfFirst 5 [.ref 9, .ref b, vi wh, vi a, vi i, u5] [] σ (rt (vi (lf B l n F wh 0)) σ) := by
  intro fu
  induction fu with
  | zero => intros; omega
  | succ fu ih =>
    intro a i u5 hn h0 h1 h2 h3
    have h4 := hf.2.1
    have h5 := hF.2.1
    have hce := CRe
    refine ev_iload eX2_letterOfFirst_5 rfl ?_
    refine ev_aload_n eX2_letterOfFirst_7 rfl ?_
    refine ev_getiv eX2_letterOfFirst_8 fX2_18 rfl hF.1 ?_
    refine ev_icmp_ge 59 eX2_letterOfFirst_11 rfl (by omega) (by omega) (fun h11 => ?_) (fun h11 => ?_)
    · skip
      refine ev_iconst eX2_letterOfFirst_59 ?_
      refine ev_iret eX2_letterOfFirst_60 rfl ?_
      exact ⟨congrArg (fun q => some (vi q)) (by rw [← h3]; cases hk : wh - i with | zero => (unfold lf; rw [if_neg (by omega)]) | succ k => (unfold lf; rw [if_neg (by omega)])), rfl⟩
    · skip
      refine ev_iload_n eX2_letterOfFirst_14 rfl ?_
      refine ev_aload_n eX2_letterOfFirst_15 rfl ?_
      refine ev_getiv eX2_letterOfFirst_16 fX2_18 rfl hF.1 ?_
      refine ev_icmp_ge 59 eX2_letterOfFirst_19 rfl (by omega) (by omega) (fun h19 => ?_) (fun h19 => ?_)
      · skip
        refine ev_iconst eX2_letterOfFirst_59 ?_
        refine ev_iret eX2_letterOfFirst_60 rfl ?_
        exact ⟨congrArg (fun q => some (vi q)) (by rw [← h3]; cases hk : wh - i with | zero => (unfold lf; rw [if_neg (by omega)]) | succ k => (unfold lf; rw [if_neg (by omega)])), rfl⟩
      · skip
        refine ev_aload_n eX2_letterOfFirst_22 rfl ?_
        refine ev_aload_n eX2_letterOfFirst_23 rfl ?_
        refine ev_iload_n eX2_letterOfFirst_24 rfl ?_
        refine ev_cV2 eX2_letterOfFirst_25 ⟨lX2_43, kX2_leastAt⟩ rfl rfl (c_least hb hB hf hF hv (a := a) (by omega)) ?_
        rintro _ _ ⟨rfl, rfl⟩
        have hlm := lm_c (Gd B l n F a) (B 2)
        have hlr : -1 ≤ lm (Gd B l n F a) (B 2) ∧ lm (Gd B l n F a) (B 2) ≤ 4 := by
          rcases hlm with ⟨s, g1, g2, g3, g4⟩ | ⟨g1, g2⟩ <;> omega
        refine ev_istore eX2_letterOfFirst_28 (by decide) ?_
        refine ev_iload eX2_letterOfFirst_30 rfl ?_
        refine ev_if_lt 41 eX2_letterOfFirst_32 rfl (by omega) (fun h32 => ?_) (fun h32 => ?_)
        · skip
          refine ev_iload eX2_letterOfFirst_41 rfl ?_
          refine ev_iret eX2_letterOfFirst_43 rfl ?_
          exact ⟨congrArg (fun q => some (vi q)) (by rw [← h3]; cases hk : wh - i with | zero => (unfold lf; rw [if_pos (by omega)]) | succ k => (unfold lf; rw [if_pos (by omega), if_pos h32]; omega)), rfl⟩
        · skip
          refine ev_iload eX2_letterOfFirst_35 rfl ?_
          refine ev_iload_n eX2_letterOfFirst_37 rfl ?_
          refine ev_icmp_ne 44 eX2_letterOfFirst_38 rfl (by omega) (by omega) (fun h38 => ?_) (fun h38 => ?_)
          · skip
            obtain ⟨s, g1, g2, g3, g4⟩ : ∃ s, s < B 2 ∧ Gd B l n F a s ∧ (∀ q, q < s → ¬ Gd B l n F a q) ∧ lm (Gd B l n F a) (B 2) = (s : Int) := by
              rcases hlm with h | ⟨_, h⟩
              · exact h
              · omega
            have gle := g2.1.1
            have g1i := h1i s g1
            rw [g4]
            refine ev_iload_n eX2_letterOfFirst_44 rfl ?_
            refine ev_aload_n eX2_letterOfFirst_45 rfl ?_
            refine ev_iload eX2_letterOfFirst_46 rfl ?_
            refine ev_cV1 eX2_letterOfFirst_48 ⟨lX2_32, kX0_imageSize⟩ (ocB hb) rfl (c_imageSize hb hB hf.1 (s := s) (by omega)) ?_
            rintro _ _ ⟨rfl, rfl⟩
            refine ev_iadd eX2_letterOfFirst_51 ?_
            refine ev_istore_n eX2_letterOfFirst_52 (by decide) ?_
            refine ev_iinc eX2_letterOfFirst_53 rfl (by decide) ?_
            refine ev_goto 5 eX2_letterOfFirst_56 rfl ?_
            refine ih (a := a + im B s) (i := i + 1) (by omega) (by omega) (by omega) (by omega) ?_
            rw [← h3, show wh - i = (wh - (i + 1)) + 1 by omega]
            conv => rhs; unfold lf
            rw [if_pos (by omega), g4, if_neg (by omega)]
            rfl
          · skip
            refine ev_iload eX2_letterOfFirst_41 rfl ?_
            refine ev_iret eX2_letterOfFirst_43 rfl ?_
            exact ⟨congrArg (fun q => some (vi q)) (by rw [← h3, show wh - i = 0 by omega]; unfold lf; rw [if_pos (by omega)]), rfl⟩
set_option maxRecDepth 20000 in
theorem c_lof {d : Nat} {σ : St} {b : Nat} {B : Bok} (hb : Bq b) (hB : BkC σ (b + 13) B) (hf : Wf B) {l : Nat → Nat} {n : Nat} (hF : Fo σ l n) {F : Nat → Nat} (hv : ∀ a, a ≤ n → σ 42 a = (F a : Int) ∧ F a ≤ CR) (h1i : ∀ s, s < B 2 → 1 ≤ im B s) {wh : Nat} (hwh : wh ≤ 2147483647) : Ct (d + 4) mX2_letterOfFirst [.ref 9, .ref b, vi wh] σ (rt (vi (lf B l n F wh 0)) σ) := by
  refine ct_of hX2_letterOfFirst (Nat.le_of_ble_eq_true rfl) ?_
  refine ev_iconst eX2_letterOfFirst_0 ?_
  refine ev_istore_n eX2_letterOfFirst_1 (by decide) ?_
  refine ev_iconst eX2_letterOfFirst_2 ?_
  refine ev_istore eX2_letterOfFirst_3 (by decide) ?_
  exact c_lof_l hb hB hf hF hv h1i hwh (n + 1) (a := 0) (i := 0) (by omega) (by omega) (by omega) (by omega) rfl
/-! Losses (10: cases of so many 43) -/
def Dl (br : Nat → Nat) (q : Nat) : Nat → Nat → Nat
  | 0, m => if m = 0 then 1 else 0
  | k + 1, m => q * Dl br q k m + (10 - q) * (if br k ≤ m then Dl br q k (m - br k) else 0)
def Ls (σ : St) (D : Nat → Nat) : Prop := ∀ m, m ≤ 40 → σ 43 m = (D m : Int)
set_option maxRecDepth 20000 in
theorem c_cases {d : Nat} {σ : St} {c : Int} (hc : σ 10 1 = c) : Ct (d) mX5_cases [.ref 10] σ (rt (vl c) σ) := by
  refine ct_of hX5_cases (Nat.le_of_ble_eq_true rfl) ?_
  refine ev_aload_n eX5_cases_0 rfl ?_
  refine ev_getlv eX5_cases_1 fX5_13 rfl hc ?_
  refine ev_lret eX5_cases_4 rfl ?_
  exact ⟨rfl, rfl⟩
set_option maxRecDepth 20000 in
theorem c_upTo_l {d : Nat} {σ : St} {D : Nat → Nat} (hD : Ls σ D) {v : Nat} (hv : v ≤ 40) : ∀ (fu : Nat) {i : Nat}, v + 1 - i < fu → i ≤ v + 1 → Ev (d) mX5_casesUpTo 5 [.ref 10, vi v, vl (sumF D i), .null, vi i] [] σ (rt (vl (sumF D (v + 1))) σ) := by
  intro fu
  induction fu with
  | zero => intros; omega
  | succ fu ih =>
    intro i hn h1
    refine ev_iload eX5_casesUpTo_5 rfl ?_
    refine ev_iload_n eX5_casesUpTo_7 rfl ?_
    refine ev_icmp_gt 27 eX5_casesUpTo_8 rfl (by omega) (by omega) (fun h8 => ?_) (fun h8 => ?_)
    · skip
      refine ev_lload_n eX5_casesUpTo_27 rfl ?_
      refine ev_lret eX5_casesUpTo_28 rfl ?_
      exact ⟨congrArg (fun q => some (vl q)) (by rw [show i = v + 1 by omega]), rfl⟩
    · skip
      refine ev_lload_n eX5_casesUpTo_11 rfl ?_
      refine ev_aload_n eX5_casesUpTo_12 rfl ?_
      refine ev_getr eX5_casesUpTo_13 fX5_9 rfl ?_
      refine ev_iload eX5_casesUpTo_16 rfl ?_
      refine ev_laldv (i) eX5_casesUpTo_18 rfl (by first | rfl | omega) (by omega) (hD _ (by omega)) ?_
      refine ev_ladd eX5_casesUpTo_19 ?_
      refine ev_lstore_n eX5_casesUpTo_20 (by decide) ?_
      refine ev_iinc eX5_casesUpTo_21 rfl (by decide) ?_
      refine ev_goto 5 eX5_casesUpTo_24 rfl ?_
      exact ih (i := i + 1) (by omega) (by omega)
set_option maxRecDepth 20000 in
theorem c_upTo {d : Nat} {σ : St} {D : Nat → Nat} (hD : Ls σ D) {v : Nat} (hv : v ≤ 40) : Ct (d) mX5_casesUpTo [.ref 10, vi v] σ (rt (vl (sumF D (v + 1))) σ) := by
  refine ct_of hX5_casesUpTo (Nat.le_of_ble_eq_true rfl) ?_
  refine ev_lconst 0 eX5_casesUpTo_0 rfl ?_
  refine ev_lstore_n eX5_casesUpTo_1 (by decide) ?_
  refine ev_iconst eX5_casesUpTo_2 ?_
  refine ev_istore eX5_casesUpTo_3 (by decide) ?_
  exact c_upTo_l hD hv 42 (i := 0) (by omega) (by omega)
set_option maxRecDepth 20000 in
theorem c_addL_l {d : Nat} {σ : St} {D : Nat → Nat} {br q : Nat} (hD : Ls σ D) (hbr : br ≤ 40) (hq : q ≤ 10)  : ∀ (fu : Nat) {i : Nat} {u4 u5 : Value} {τ : St}, i < fu → i ≤ 41 → (∀ m, m < i → τ 43 m = (D m : Int)) → (∀ m, i ≤ m → m ≤ 40 → τ 43 m = ((q * D m + (10 - q) * (if br ≤ m then D (m - br) else 0) : Nat) : Int)) → (∀ k, k ≠ 43 → τ k = σ k) → Ev (d) mX5_addLetter 3 [.ref 10, vi br, vi q, vi ((i : Int) - 1), u4, u5] [] τ (fun r τ => none = r ∧ Ls τ (fun m => q * D m + (10 - q) * (if br ≤ m then D (m - br) else 0)) ∧ ∀ k, k ≠ 43 → τ k = σ k) := by
  intro fu
  induction fu with
  | zero => intros; omega
  | succ fu ih =>
    intro i u4 u5 τ hn h1 h2 h3 h9
    refine ev_iload_n eX5_addLetter_3 rfl ?_
    refine ev_if_lt 56 eX5_addLetter_4 rfl (by omega) (fun h4 => ?_) (fun h4 => ?_)
    · skip
      refine ev_ret eX5_addLetter_56 rfl ?_
      obtain rfl : i = 0 := by omega
      exact ⟨rfl, fun m hm => h3 m (by omega) hm, h9⟩
    · skip
      obtain ⟨i, rfl⟩ : ∃ z, i = z + 1 := ⟨i - 1, by omega⟩
      rw [show (((i + 1 : Nat) : Int) - 1) = (i : Int) by omega]
      refine ev_iload_n eX5_addLetter_7 rfl ?_
      refine ev_iload_n eX5_addLetter_8 rfl ?_
      refine ev_icmp_lt 23 eX5_addLetter_9 rfl (by omega) (by omega) (fun h9i => ?_) (fun h9i => ?_)
      · skip
        refine ev_lconst 0 eX5_addLetter_23 rfl ?_
        refine ev_lstore eX5_addLetter_24 (by decide) ?_
        refine ev_aload_n eX5_addLetter_26 rfl ?_
        refine ev_getr eX5_addLetter_27 fX5_9 rfl ?_
        refine ev_iload_n eX5_addLetter_30 rfl ?_
        refine ev_iload_n eX5_addLetter_31 rfl ?_
        refine ev_i2l eX5_addLetter_32 (by omega) ?_
        refine ev_aload_n eX5_addLetter_33 rfl ?_
        refine ev_getr eX5_addLetter_34 fX5_9 rfl ?_
        refine ev_iload_n eX5_addLetter_37 rfl ?_
        refine ev_laldv (i) eX5_addLetter_38 rfl (by first | rfl | omega) (by omega) (h2 _ (by omega)) ?_
        refine ev_lmul eX5_addLetter_39 ?_
        refine ev_bipush eX5_addLetter_40 rfl ?_
        refine ev_iload_n eX5_addLetter_42 rfl ?_
        refine ev_isub eX5_addLetter_43 ?_
        refine ev_i2l eX5_addLetter_44 (by omega) ?_
        refine ev_lload eX5_addLetter_45 rfl ?_
        refine ev_lmul eX5_addLetter_47 ?_
        refine ev_ladd eX5_addLetter_48 ?_
        refine ev_last (i) eX5_addLetter_49 rfl (by first | rfl | omega) (by omega) ?_
        refine ev_iinc eX5_addLetter_50 rfl (by decide) ?_
        refine ev_goto 3 eX5_addLetter_53 rfl ?_
        refine ih (i := i) (by omega) (by omega) (fun m hm => by rw [up_n _ _ (by omega)]; exact h2 m (by omega)) (fun m m1 m2 => ?_) (fun k hk => by rw [up_o _ _ _ hk]; exact h9 k hk)
        by_cases e : m = i
        · subst e
          rw [up_s]
          first | (rw [if_pos (by omega), Int.natCast_add, Int.natCast_mul, Int.natCast_mul, show ((10 - q : Nat) : Int) = 10 - (q : Int) by omega]) | (rw [if_neg (by omega), Nat.mul_zero, Nat.add_zero, Int.natCast_mul, Int.mul_zero, Int.add_zero])
        · rw [up_n _ _ e]; exact h3 m (by omega) m2
      · skip
        refine ev_aload_n eX5_addLetter_12 rfl ?_
        refine ev_getr eX5_addLetter_13 fX5_9 rfl ?_
        refine ev_iload_n eX5_addLetter_16 rfl ?_
        refine ev_iload_n eX5_addLetter_17 rfl ?_
        refine ev_isub eX5_addLetter_18 ?_
        refine ev_laldv (i - br) eX5_addLetter_19 rfl (by first | rfl | omega) (by omega) (h2 _ (by omega)) ?_
        refine ev_goto 24 eX5_addLetter_20 rfl ?_
        refine ev_lstore eX5_addLetter_24 (by decide) ?_
        refine ev_aload_n eX5_addLetter_26 rfl ?_
        refine ev_getr eX5_addLetter_27 fX5_9 rfl ?_
        refine ev_iload_n eX5_addLetter_30 rfl ?_
        refine ev_iload_n eX5_addLetter_31 rfl ?_
        refine ev_i2l eX5_addLetter_32 (by omega) ?_
        refine ev_aload_n eX5_addLetter_33 rfl ?_
        refine ev_getr eX5_addLetter_34 fX5_9 rfl ?_
        refine ev_iload_n eX5_addLetter_37 rfl ?_
        refine ev_laldv (i) eX5_addLetter_38 rfl (by first | rfl | omega) (by omega) (h2 _ (by omega)) ?_
        refine ev_lmul eX5_addLetter_39 ?_
        refine ev_bipush eX5_addLetter_40 rfl ?_
        refine ev_iload_n eX5_addLetter_42 rfl ?_
        refine ev_isub eX5_addLetter_43 ?_
        refine ev_i2l eX5_addLetter_44 (by omega) ?_
        refine ev_lload eX5_addLetter_45 rfl ?_
        refine ev_lmul eX5_addLetter_47 ?_
        refine ev_ladd eX5_addLetter_48 ?_
        refine ev_last (i) eX5_addLetter_49 rfl (by first | rfl | omega) (by omega) ?_
        refine ev_iinc eX5_addLetter_50 rfl (by decide) ?_
        refine ev_goto 3 eX5_addLetter_53 rfl ?_
        refine ih (i := i) (by omega) (by omega) (fun m hm => by rw [up_n _ _ (by omega)]; exact h2 m (by omega)) (fun m m1 m2 => ?_) (fun k hk => by rw [up_o _ _ _ hk]; exact h9 k hk)
        by_cases e : m = i
        · subst e
          rw [up_s]
          first | (rw [if_pos (by omega), Int.natCast_add, Int.natCast_mul, Int.natCast_mul, show ((10 - q : Nat) : Int) = 10 - (q : Int) by omega]) | (rw [if_neg (by omega), Nat.mul_zero, Nat.add_zero, Int.natCast_mul, Int.mul_zero, Int.add_zero])
        · rw [up_n _ _ e]; exact h3 m (by omega) m2
set_option maxRecDepth 20000 in
theorem c_addL {d : Nat} {σ : St} {D : Nat → Nat} {br q : Nat} (hD : Ls σ D) (hbr : br ≤ 40) (hq : q ≤ 10)  : Ct (d) mX5_addLetter [.ref 10, vi br, vi q] σ (fun r τ => none = r ∧ Ls τ (fun m => q * D m + (10 - q) * (if br ≤ m then D (m - br) else 0)) ∧ ∀ k, k ≠ 43 → τ k = σ k) := by
  refine ct_of hX5_addLetter (Nat.le_of_ble_eq_true rfl) ?_
  refine ev_bipush eX5_addLetter_0 rfl ?_
  refine ev_istore_n eX5_addLetter_2 (by decide) ?_
  exact c_addL_l hD hbr hq 42 (i := 41) (by omega) (by omega) (fun m hm => hD m (by omega)) (fun m m1 m2 => by omega) (fun k _ => rfl)
set_option maxRecDepth 20000 in
theorem c_spr_b {d : Nat} {σ : St} {b : Nat} {B : Bok} (hb : Bq b) (hB : BkC σ (b + 13) B) (hf : Wf B) {s q : Nat} (hs : s < 4) (hq : q ≤ 10) (hl : ∀ i, i < B 3 → rw_ B i < 4) : ∀ (fu : Nat) {i : Nat} {τ : St}, B 3 - i < fu → i ≤ B 3 → Ls τ (Dl (fun i => cn B (rw_ B i) s) q i) → τ 10 1 = ((10 ^ i : Nat) : Int) → (∀ k, k ≠ 43 → k ≠ 10 → τ k = σ k) → Ev (d + 3) mX5_spread 39 [.ref 10, .ref b, vi s, vi q, vi i] [] τ (fun r τ => none = r ∧ Ls τ (Dl (fun i => cn B (rw_ B i) s) q (B 3)) ∧ τ 10 1 = ((10 ^ B 3 : Nat) : Int) ∧ ∀ k, k ≠ 43 → k ≠ 10 → τ k = σ k) := by
  intro fu
  induction fu with
  | zero => intros; omega
  | succ fu ih =>
    intro i τ hn h1 h2 h3 h9
    have h8 := hf.2.2.1
    refine ev_iload eX5_spread_39 rfl ?_
    refine ev_aload_n eX5_spread_41 rfl ?_
    refine ev_cV0 eX5_spread_42 ⟨lX5_17, kX0_rowSize⟩ (ocB hb) rfl (c_rowSize hb (fun j hj => by rw [h9 _ (by have := hb; unfold Bq at this; omega) (by have := hb; unfold Bq at this; omega)]; exact hB j hj) hf.1) ?_
    rintro _ _ ⟨rfl, rfl⟩
    refine ev_icmp_ge 82 eX5_spread_45 rfl (by omega) (by omega) (fun h45 => ?_) (fun h45 => ?_)
    · skip
      refine ev_ret eX5_spread_82 rfl ?_
      obtain rfl : i = B 3 := by omega
      exact ⟨rfl, h2, h3, h9⟩
    · skip
      refine ev_aload_n eX5_spread_48 rfl ?_
      refine ev_aload_n eX5_spread_49 rfl ?_
      refine ev_aload_n eX5_spread_50 rfl ?_
      refine ev_iload eX5_spread_51 rfl ?_
      refine ev_cV1 eX5_spread_53 ⟨lX5_23, kX0_rowLetter⟩ (ocB hb) rfl (c_rowLetter hb (fun j hj => by rw [h9 _ (by have := hb; unfold Bq at this; omega) (by have := hb; unfold Bq at this; omega)]; exact hB j hj) hf.1 (i := i) (by omega)) ?_
      rintro _ _ ⟨rfl, rfl⟩
      have hli := hl i (by omega)
      refine ev_iload_n eX5_spread_56 rfl ?_
      refine ev_cV2 eX5_spread_57 ⟨lX5_27, kX0_timesInImage⟩ (ocB hb) rfl (c_times hb (fun j hj => by rw [h9 _ (by have := hb; unfold Bq at this; omega) (by have := hb; unfold Bq at this; omega)]; exact hB j hj) hf hli (x := s) (by omega)) ?_
      rintro _ _ ⟨rfl, rfl⟩
      refine ev_iload_n eX5_spread_60 rfl ?_
      refine ev_cV2 eX5_spread_61 ⟨lX5_31, kX5_addLetter⟩ rfl rfl (c_addL h2 (br := cn B (rw_ B i) s) (by have := cn_le hf hli s; omega) hq) ?_
      rintro _ τ2 ⟨rfl, g1, g2⟩
      refine ev_aload_n eX5_spread_64 rfl ?_
      refine ev_dup eX5_spread_65 rfl ?_
      refine ev_getlv eX5_spread_66 fX5_13 rfl (show _ = ((10 ^ i : Nat) : Int) by rw [g2 10 (by decide)]; exact h3) ?_
      refine ev_ldc2 eX5_spread_69 qX5_35 ?_
      refine ev_lmul eX5_spread_72 ?_
      refine ev_putl eX5_spread_73 pX5_13 rfl ?_
      refine ev_iinc eX5_spread_76 rfl (by decide) ?_
      refine ev_goto 39 eX5_spread_79 rfl ?_
      refine ih (i := i + 1) (by omega) (by omega) (fun m hm => ?_) ?_ (fun k a1 a2 => by rw [up_o _ _ _ a2, g2 k a1]; exact h9 k a1 a2)
      · rw [up_o _ _ _ (by decide)]; exact g1 m hm
      · rw [up_s, Nat.pow_succ]; push_cast; rfl
set_option maxRecDepth 20000 in
theorem c_spr_a {d : Nat} {σ : St} {b : Nat} {B : Bok} (hb : Bq b) (hB : BkC σ (b + 13) B) (hf : Wf B) {s q : Nat} (hs : s < 4) (hq : q ≤ 10) (hl : ∀ i, i < B 3 → rw_ B i < 4) : ∀ (fu : Nat) {i : Nat} {τ : St}, 41 - i < fu → i ≤ 41 → (∀ m, m < i → τ 43 m = 0) → (∀ k, k ≠ 43 → τ k = σ k) → Ev (d + 3) mX5_spread 3 [.ref 10, .ref b, vi s, vi q, vi i] [] τ (fun r τ => none = r ∧ Ls τ (Dl (fun i => cn B (rw_ B i) s) q (B 3)) ∧ τ 10 1 = ((10 ^ B 3 : Nat) : Int) ∧ ∀ k, k ≠ 43 → k ≠ 10 → τ k = σ k) := by
  intro fu
  induction fu with
  | zero => intros; omega
  | succ fu ih =>
    intro i τ hn h1 h2 h9
    refine ev_iload eX5_spread_3 rfl ?_
    refine ev_bipush eX5_spread_5 rfl ?_
    refine ev_icmp_gt 24 eX5_spread_7 rfl (by omega) (by omega) (fun h7 => ?_) (fun h7 => ?_)
    · skip
      refine ev_aload_n eX5_spread_24 rfl ?_
      refine ev_getr eX5_spread_25 fX5_9 rfl ?_
      refine ev_iconst eX5_spread_28 ?_
      refine ev_lconst 1 eX5_spread_29 rfl ?_
      refine ev_last (0) eX5_spread_30 rfl (by first | rfl | omega) (by omega) ?_
      refine ev_aload_n eX5_spread_31 rfl ?_
      refine ev_lconst 1 eX5_spread_32 rfl ?_
      refine ev_putl eX5_spread_33 pX5_13 rfl ?_
      refine ev_iconst eX5_spread_36 ?_
      refine ev_istore eX5_spread_37 (by decide) ?_
      refine c_spr_b hb hB hf hs hq hl 9 (i := 0) (by have := hf.2.2.1; omega) (by omega) (fun m hm => ?_) (up_s _ _ _ _) (fun k a1 a2 => by rw [up_o _ _ _ a2, up_o _ _ _ a1]; exact h9 k a1)
      rw [up_o _ _ _ (by decide)]
      unfold Dl
      by_cases e : m = 0
      · subst e; exact up_s _ _ _ _
      · rw [up_n _ _ e, if_neg e]; exact h2 m (by omega)
    · skip
      refine ev_aload_n eX5_spread_10 rfl ?_
      refine ev_getr eX5_spread_11 fX5_9 rfl ?_
      refine ev_iload eX5_spread_14 rfl ?_
      refine ev_lconst 0 eX5_spread_16 rfl ?_
      refine ev_last (i) eX5_spread_17 rfl (by first | rfl | omega) (by omega) ?_
      refine ev_iinc eX5_spread_18 rfl (by decide) ?_
      refine ev_goto 3 eX5_spread_21 rfl ?_
      refine ih (i := i + 1) (by omega) (by omega) (fun m hm => ?_) (fun k a1 => by rw [up_o _ _ _ a1]; exact h9 k a1)
      by_cases e : m = i
      · subst e; exact up_s _ _ _ _
      · rw [up_n _ _ e]; exact h2 m (by omega)
set_option maxRecDepth 20000 in
theorem c_spread {d : Nat} {σ : St} {b : Nat} {B : Bok} (hb : Bq b) (hB : BkC σ (b + 13) B) (hf : Wf B) {s q : Nat} (hs : s < 4) (hq : q ≤ 10) (hl : ∀ i, i < B 3 → rw_ B i < 4) : Ct (d + 3) mX5_spread [.ref 10, .ref b, vi s, vi q] σ (fun r τ => none = r ∧ Ls τ (Dl (fun i => cn B (rw_ B i) s) q (B 3)) ∧ τ 10 1 = ((10 ^ B 3 : Nat) : Int) ∧ ∀ k, k ≠ 43 → k ≠ 10 → τ k = σ k) := by
  refine ct_of hX5_spread (Nat.le_of_ble_eq_true rfl) ?_
  refine ev_iconst eX5_spread_0 ?_
  refine ev_istore eX5_spread_1 (by decide) ?_
  exact c_spr_a hb hB hf hs hq hl 42 (i := 0) (by omega) (by omega) (fun m hm => by omega) (fun k _ => rfl)
