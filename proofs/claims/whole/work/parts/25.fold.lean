/-! Euclid in at most 100 divisions -/
def fbP : Nat → Nat × Nat
  | 0 => (1, 2)
  | n + 1 => ((fbP n).2, (fbP n).1 + (fbP n).2)
def fb (n : Nat) : Nat := (fbP n).1
theorem fb_s (n : Nat) : fb (n + 2) = fb n + fb (n + 1) := rfl
theorem fb_100 : MX < fb 100 := by decide +kernel
def Ends : Nat → Nat → Nat → Prop
  | 0, _, b => b = 0
  | k + 1, a, b => b = 0 ∨ Ends k b (a % b)
theorem Ends_of : ∀ k a b : Nat, b < fb k → Ends k a b := by
  intro k
  induction k using Nat.strongRecOn with
  | _ k ih =>
    intro a b hb
    match k, ih, hb with
    | 0, _, hb => exact Nat.lt_one_iff.mp hb
    | 1, _, hb =>
      by_cases h : b = 0
      · exact Or.inl h
      · refine Or.inr ?_
        have : b < 2 := hb
        have h1 : b = 1 := by omega
        subst h1
        exact Nat.mod_one a
    | k + 2, ih, hb =>
      by_cases h : b = 0
      · exact Or.inl h
      · refine Or.inr ?_
        have hr : a % b < b := Nat.mod_lt _ (Nat.pos_of_ne_zero h)
        by_cases h2 : a % b < fb (k + 1)
        · exact ih (k + 1) (by omega) b (a % b) h2
        · by_cases h3 : a % b = 0
          · exact Or.inl h3
          · refine Or.inr (ih k (by omega) (a % b) (b % (a % b)) ?_)
            have hd := Nat.div_add_mod b (a % b)
            have hq : 1 ≤ b / (a % b) := Nat.div_pos (by omega) (Nat.pos_of_ne_zero h3)
            have hm : (a % b) * 1 ≤ (a % b) * (b / (a % b)) := Nat.mul_le_mul_left _ hq
            rw [fb_s] at hb
            omega
set_option maxRecDepth 20000 in
theorem c_gcd_l {d : Nat} {σ : St} {G : Nat} : ∀ (fu : Nat) {a b i : Nat} {u0 u1 u2 u3 u9 u10 : Value}, 100 - i < fu → a ≤ MX → b ≤ MX → i ≤ 100 → Ends (100 - i) a b → Nat.gcd a b = G → Ev (d) mX1_commonDivisor 9 [u0, u1, u2, u3, vl a, .null, vl b, .null, vi i, u9, u10] [] σ (rt (vl G) σ) := by
  intro fu
  induction fu with
  | zero => intros; omega
  | succ fu ih =>
    intro a b i u0 u1 u2 u3 u9 u10 hn h1 h2 h3 h4 h5
    have e := MXe
    refine ev_iload eX1_commonDivisor_9 rfl ?_
    refine ev_bipush eX1_commonDivisor_11 rfl ?_
    refine ev_icmp_ge 44 eX1_commonDivisor_13 rfl (by omega) (by omega) (fun h13 => ?_) (fun h13 => ?_)
    · skip
      refine ev_lload eX1_commonDivisor_44 rfl ?_
      refine ev_lret eX1_commonDivisor_46 rfl ?_
      obtain rfl : i = 100 := by omega
      have hz : b = 0 := h4
      subst hz
      rw [Nat.gcd_zero_right] at h5
      subst h5
      exact ⟨rfl, rfl⟩
    · skip
      refine ev_lload eX1_commonDivisor_16 rfl ?_
      refine ev_lconst 0 eX1_commonDivisor_18 rfl ?_
      refine ev_lif_eq 44 eX1_commonDivisor_19 eX1_commonDivisor_20 rfl (by omega) (by omega) (fun h19 => ?_) (fun h19 => ?_)
      · skip
        refine ev_lload eX1_commonDivisor_44 rfl ?_
        refine ev_lret eX1_commonDivisor_46 rfl ?_
        have hz : b = 0 := by omega
        subst hz
        rw [Nat.gcd_zero_right] at h5
        subst h5
        exact ⟨rfl, rfl⟩
      · skip
        refine ev_lload eX1_commonDivisor_23 rfl ?_
        refine ev_lload eX1_commonDivisor_25 rfl ?_
        refine ev_lrem eX1_commonDivisor_27 (by omega) (by omega) ?_
        refine ev_lstore eX1_commonDivisor_28 (by decide) ?_
        refine ev_lload eX1_commonDivisor_30 rfl ?_
        refine ev_lstore eX1_commonDivisor_32 (by decide) ?_
        refine ev_lload eX1_commonDivisor_34 rfl ?_
        refine ev_lstore eX1_commonDivisor_36 (by decide) ?_
        refine ev_iinc eX1_commonDivisor_38 rfl (by decide) ?_
        refine ev_goto 9 eX1_commonDivisor_41 rfl ?_
        rw [show 100 - i = (100 - (i + 1)) + 1 by omega] at h4
        have h6 : Ends (100 - (i + 1)) b (a % b) := h4.elim (fun z => absurd z (by omega)) id
        refine ih (a := b) (b := a % b) (i := i + 1) (by omega) h2 (Nat.le_trans (Nat.mod_le a b) h1) (by omega) h6 ?_
        rw [← h5, Nat.gcd_comm a b, Nat.gcd_rec b a, Nat.gcd_comm]
set_option maxRecDepth 20000 in
theorem c_gcd {d : Nat} {σ : St} {a b : Nat} (ha : a ≤ MX) (hb : b ≤ MX) : Ct (d) mX1_commonDivisor [vl a, vl b] σ (rt (vl (Nat.gcd a b)) σ) := by
  refine ct_of hX1_commonDivisor (Nat.le_of_ble_eq_true rfl) ?_
  refine ev_lload_n eX1_commonDivisor_0 rfl ?_
  refine ev_lstore eX1_commonDivisor_1 (by decide) ?_
  refine ev_lload_n eX1_commonDivisor_3 rfl ?_
  refine ev_lstore eX1_commonDivisor_4 (by decide) ?_
  refine ev_iconst eX1_commonDivisor_6 ?_
  refine ev_istore eX1_commonDivisor_7 (by decide) ?_
  exact c_gcd_l 101 (i := 0) (by omega) ha hb (by omega) (Ends_of 100 a b (by have := fb_100; omega)) rfl
def lowT (a b e : Nat) : Nat := (if e = 0 then a else b) / Nat.gcd a b
set_option maxRecDepth 20000 in
theorem c_frac {d : Nat} {σ : St} {a b e : Nat} (ha : a ≤ MX) (hb : b ≤ MX) (h0 : 0 < b) (he : e < 2) : Ct (d + 1) mX1_partOfFraction [vl a, vl b, vi e] σ (rt (vl (lowT a b e)) σ) := by
  refine ct_of hX1_partOfFraction (Nat.le_of_ble_eq_true rfl) ?_
  refine ev_lload_n eX1_partOfFraction_0 rfl ?_
  refine ev_lload_n eX1_partOfFraction_1 rfl ?_
  refine ev_cS2 eX1_partOfFraction_2 ⟨lX1_13, kX1_commonDivisor⟩ rfl (c_gcd ha hb) ?_
  rintro _ _ ⟨rfl, rfl⟩
  have em := MXe
  have hg : 0 < Nat.gcd a b := Nat.gcd_pos_of_pos_right _ h0
  have hg2 : Nat.gcd a b ≤ b := Nat.gcd_le_right _ h0
  refine ev_lstore eX1_partOfFraction_5 (by decide) ?_
  refine ev_lload eX1_partOfFraction_7 rfl ?_
  refine ev_lconst 0 eX1_partOfFraction_9 rfl ?_
  refine ev_lif_ne 16 eX1_partOfFraction_10 eX1_partOfFraction_11 rfl (by omega) (by omega) (fun h10 => ?_) (fun h10 => False.elim (by omega))
  refine ev_iload eX1_partOfFraction_16 rfl ?_
  refine ev_if_ne 25 eX1_partOfFraction_18 rfl (by omega) (fun h18 => ?_) (fun h18 => ?_)
  · skip
    refine ev_lload_n eX1_partOfFraction_25 rfl ?_
    refine ev_lload eX1_partOfFraction_26 rfl ?_
    refine ev_ldiv eX1_partOfFraction_28 (by omega) (by omega) ?_
    refine ev_lret eX1_partOfFraction_29 rfl ?_
    exact ⟨congrArg (fun q => some (vl q)) (by unfold lowT; rw [if_neg (by omega)]; exact Int.natCast_ediv _ _), rfl⟩
  · skip
    refine ev_lload_n eX1_partOfFraction_21 rfl ?_
    refine ev_goto 26 eX1_partOfFraction_22 rfl ?_
    refine ev_lload eX1_partOfFraction_26 rfl ?_
    refine ev_ldiv eX1_partOfFraction_28 (by omega) (by omega) ?_
    refine ev_lret eX1_partOfFraction_29 rfl ?_
    exact ⟨congrArg (fun q => some (vl q)) (by unfold lowT; rw [if_pos (by omega)]; exact Int.natCast_ediv _ _), rfl⟩
/-! Folding (9: letters 41, ways 42) -/
def LAc (B : Bok) (l : Nat → Nat) (n s a : Nat) : Prop := a + im B s ≤ n ∧ ∀ i, i < im B s → l (a + i) = il B s i
def Fo (σ : St) (l : Nat → Nat) (n : Nat) : Prop := σ 9 2 = (n : Int) ∧ n ≤ 40 ∧ ∀ j, j < n → l j < 4 ∧ σ 41 j = (l j : Int)
noncomputable def lm (P : Nat → Prop) (m : Nat) : Int := @ite _ (∃ s, s < m ∧ P s) (Classical.propDecidable _) (Classical.epsilon (fun z : Int => ∃ s : Nat, z = s ∧ s < m ∧ P s ∧ ∀ q, q < s → ¬ P q)) (-1)
theorem lm_s {P : Nat → Prop} {m s : Nat} (h1 : s < m) (h2 : P s) (h3 : ∀ q, q < s → ¬ P q) : lm P m = (s : Int) := by
  unfold lm
  rw [if_pos ⟨s, h1, h2⟩]
  obtain ⟨s', e1, e2, e3, e4⟩ := Classical.epsilon_spec (p := fun z : Int => ∃ s : Nat, z = s ∧ s < m ∧ P s ∧ ∀ q, q < s → ¬ P q) ⟨(s : Int), s, rfl, h1, h2, h3⟩
  rw [e1]
  congr 1
  rcases Nat.lt_trichotomy s s' with q | q | q
  · exact absurd h2 (e4 s q)
  · exact q.symm
  · exact absurd e3 (h3 s' q)
theorem lm_n {P : Nat → Prop} {m : Nat} (h : ∀ q, q < m → ¬ P q) : lm P m = -1 := by
  unfold lm
  rw [if_neg]
  rintro ⟨s, h1, h2⟩
  exact h s h1 h2
theorem lm_c (P : Nat → Prop) (m : Nat) : (∃ s, s < m ∧ P s ∧ (∀ q, q < s → ¬ P q) ∧ lm P m = (s : Int)) ∨ ((∀ q, q < m → ¬ P q) ∧ lm P m = -1) := by
  by_cases h : ∃ s, s < m ∧ P s
  · obtain ⟨s0, h1, h2⟩ := h
    obtain ⟨s, g1, g2⟩ := pk_least P ⟨s0, h2⟩
    have hs : s < m := by
      rcases Nat.lt_or_ge s0 s with q | q
      · exact absurd h2 (g2 s0 q)
      · omega
    exact Or.inl ⟨s, hs, g1, g2, lm_s hs g1 g2⟩
  · have h' : ∀ q, q < m → ¬ P q := fun q a b => h ⟨q, a, b⟩
    exact Or.inr ⟨h', lm_n h'⟩
set_option maxRecDepth 20000 in
theorem c_fclear {d : Nat} {σ : St}  : Ct (d) mX2_clear [.ref 9] σ (rv (up σ 9 2 0)) := by
  refine ct_of hX2_clear (Nat.le_of_ble_eq_true rfl) ?_
  refine ev_aload_n eX2_clear_0 rfl ?_
  refine ev_iconst eX2_clear_1 ?_
  refine ev_puti eX2_clear_2 pX2_18 rfl ?_
  refine ev_ret eX2_clear_5 rfl ?_
  exact ⟨rfl, rfl⟩
set_option maxRecDepth 20000 in
theorem c_fadd {d : Nat} {σ : St} {z : Nat} {x : Int} (hz : σ 9 2 = (z : Int)) (hz4 : z < 40) : Ct (d) mX2_add [.ref 9, vi x] σ (rv (up (up σ 41 z x) 9 2 ((z : Int) + 1))) := by
  refine ct_of hX2_add (Nat.le_of_ble_eq_true rfl) ?_
  refine ev_aload_n eX2_add_0 rfl ?_
  refine ev_getiv eX2_add_1 fX2_18 rfl hz ?_
  refine ev_bipush eX2_add_4 rfl ?_
  refine ev_icmp_lt 10 eX2_add_6 rfl (by omega) (by omega) (fun h6 => ?_) (fun h6 => False.elim (by omega))
  refine ev_aload_n eX2_add_10 rfl ?_
  refine ev_getr eX2_add_11 fX2_9 rfl ?_
  refine ev_aload_n eX2_add_14 rfl ?_
  refine ev_getiv eX2_add_15 fX2_18 rfl hz ?_
  refine ev_iload_n eX2_add_18 rfl ?_
  refine ev_iast (z) eX2_add_19 rfl (by first | rfl | omega) (by omega) ?_
  refine ev_aload_n eX2_add_20 rfl ?_
  refine ev_dup eX2_add_21 rfl ?_
  refine ev_getiv eX2_add_22 fX2_18 rfl (show _ = (z : Int) by rw [up_o _ _ _ (by decide)]; exact hz) ?_
  refine ev_iconst eX2_add_25 ?_
  refine ev_iadd eX2_add_26 ?_
  refine ev_puti eX2_add_27 pX2_18 rfl ?_
  refine ev_ret eX2_add_30 rfl ?_
  exact ⟨rfl, rfl⟩
set_option maxRecDepth 20000 in
theorem c_fways {d : Nat} {σ : St}  : Ct (d) mX2_ways [.ref 9] σ (rt (vi (σ 42 0)) σ) := by
  refine ct_of hX2_ways (Nat.le_of_ble_eq_true rfl) ?_
  refine ev_aload_n eX2_ways_0 rfl ?_
  refine ev_getr eX2_ways_1 fX2_15 rfl ?_
  refine ev_iconst eX2_ways_4 ?_
  refine ev_ialdv (0) eX2_ways_5 rfl (by first | rfl | omega) (by omega) rfl ?_
  refine ev_iret eX2_ways_6 rfl ?_
  exact ⟨rfl, rfl⟩
set_option maxRecDepth 20000 in
theorem c_lies_l {d : Nat} {σ : St} {b : Nat} {B : Bok} (hb : Bq b) (hB : BkC σ (b + 13) B) (hf : Wf B) {l : Nat → Nat} {n : Nat} (hF : Fo σ l n) {s a : Nat} (hs : s < 4) (ha : a + im B s ≤ n) : ∀ (fu : Nat) {i : Nat}, im B s - i < fu → i ≤ im B s → (∀ q, q < i → l (a + q) = il B s q) → Ev (d + 2) mX2_liesAt 23 [.ref 9, .ref b, vi s, vi a, vi (im B s), vi i] [] σ (rt (vi (bC (LAc B l n s a))) σ) := by
  intro fu
  induction fu with
  | zero => intros; omega
  | succ fu ih =>
    intro i hn h1 h2
    have h4 := im_le hf hs
    have h5 := hF.2.1
    refine ev_iload eX2_liesAt_23 rfl ?_
    refine ev_iload eX2_liesAt_25 rfl ?_
    refine ev_icmp_ge 57 eX2_liesAt_27 rfl (by omega) (by omega) (fun h27 => ?_) (fun h27 => ?_)
    · skip
      refine ev_iconst eX2_liesAt_57 ?_
      refine ev_zret eX2_liesAt_58 rfl (by first | exact Or.inl rfl | exact Or.inr rfl | exact bI01 _) ?_
      exact ⟨congrArg (fun q => some (vi q)) (bI_t ⟨ha, fun q hq => h2 q (by omega)⟩), rfl⟩
    · skip
      refine ev_aload_n eX2_liesAt_30 rfl ?_
      refine ev_getr eX2_liesAt_31 fX2_9 rfl ?_
      refine ev_iload_n eX2_liesAt_34 rfl ?_
      refine ev_iload eX2_liesAt_35 rfl ?_
      refine ev_iadd eX2_liesAt_37 ?_
      refine ev_ialdv ((a + i)) eX2_liesAt_38 rfl (by first | rfl | omega) (by omega) (hF.2.2 _ (by omega)).2 ?_
      refine ev_aload_n eX2_liesAt_39 rfl ?_
      refine ev_iload_n eX2_liesAt_40 rfl ?_
      refine ev_iload eX2_liesAt_41 rfl ?_
      refine ev_cV2 eX2_liesAt_43 ⟨lX2_47, kX0_imageLetter⟩ (ocB hb) rfl (c_imageLetter hb hB hf.1 hs (i := i) (by omega) (hf.2.2.2.1 s hs)) ?_
      rintro _ _ ⟨rfl, rfl⟩
      have g1 := il_lt hf hs (i := i) (by omega)
      have g2 := (hF.2.2 (a + i) (by omega)).1
      refine ev_icmp_eq 51 eX2_liesAt_46 rfl (by omega) (by omega) (fun h46 => ?_) (fun h46 => ?_)
      · skip
        refine ev_iinc eX2_liesAt_51 rfl (by decide) ?_
        refine ev_goto 23 eX2_liesAt_54 rfl ?_
        refine ih (i := i + 1) (by omega) (by omega) (fun q hq => ?_)
        by_cases e : q = i
        · subst e; omega
        · exact h2 q (by omega)
      · skip
        refine ev_iconst eX2_liesAt_49 ?_
        refine ev_zret eX2_liesAt_50 rfl (by first | exact Or.inl rfl | exact Or.inr rfl | exact bI01 _) ?_
        exact ⟨congrArg (fun q => some (vi q)) (bI_f (fun q => h46 (by have := q.2 i (by omega); omega))), rfl⟩
set_option maxRecDepth 20000 in
theorem c_lies {d : Nat} {σ : St} {b : Nat} {B : Bok} (hb : Bq b) (hB : BkC σ (b + 13) B) (hf : Wf B) {l : Nat → Nat} {n : Nat} (hF : Fo σ l n) {s a : Nat} (hs : s < 4) (ha : a ≤ n) : Ct (d + 2) mX2_liesAt [.ref 9, .ref b, vi s, vi a] σ (rt (vi (bC (LAc B l n s a))) σ) := by
  refine ct_of hX2_liesAt (Nat.le_of_ble_eq_true rfl) ?_
  refine ev_aload_n eX2_liesAt_0 rfl ?_
  refine ev_iload_n eX2_liesAt_1 rfl ?_
  refine ev_cV1 eX2_liesAt_2 ⟨lX2_32, kX0_imageSize⟩ (ocB hb) rfl (c_imageSize hb hB hf.1 hs) ?_
  rintro _ _ ⟨rfl, rfl⟩
  have h4 := im_le hf hs
  have h5 := hF.2.1
  refine ev_istore eX2_liesAt_5 (by decide) ?_
  refine ev_iload eX2_liesAt_7 rfl ?_
  refine ev_aload_n eX2_liesAt_9 rfl ?_
  refine ev_getiv eX2_liesAt_10 fX2_18 rfl hF.1 ?_
  refine ev_iload_n eX2_liesAt_13 rfl ?_
  refine ev_isub eX2_liesAt_14 ?_
  refine ev_icmp_le 20 eX2_liesAt_15 rfl (by omega) (by omega) (fun h15 => ?_) (fun h15 => ?_)
  · skip
    refine ev_iconst eX2_liesAt_20 ?_
    refine ev_istore eX2_liesAt_21 (by decide) ?_
    exact c_lies_l hb hB hf hF hs (by omega) 5 (i := 0) (by omega) (by omega) (fun q hq => by omega)
  · skip
    refine ev_iconst eX2_liesAt_18 ?_
    refine ev_zret eX2_liesAt_19 rfl (by first | exact Or.inl rfl | exact Or.inr rfl | exact bI01 _) ?_
    exact ⟨congrArg (fun q => some (vi q)) (bI_f (fun q => by have := q.1; omega)), rfl⟩
theorem lmin_X2 : Cond.methodLink RX2 37 Lib.Math.min.name ∈ lw_good ∧ Cond.static Lib.Math.min.name ∈ lw_good ∧ Cond.initialized "java/lang/Math" ∈ lw_good ∧ Cond.code Lib.Math.min.name Lib.Math.min.code 2 (some .int) ∈ lw_good := ⟨lw_gi 808 (by decide +kernel) (by decide +kernel), lw_gi 809 (by decide +kernel) (by decide +kernel), lw_gi 76 (by decide +kernel) (by decide +kernel), lw_gi 810 (by decide +kernel) (by decide +kernel)⟩
/-- the recurrence of the ways -/
noncomputable def wstep (B : Bok) (l : Nat → Nat) (n : Nat) (F : Nat → Nat) (a : Nat) : Nat → Nat := fun s => @ite _ (LAc B l n s a) (Classical.propDecidable _) (F (a + im B s)) 0
theorem ws_t {B : Bok} {l : Nat → Nat} {n : Nat} {F : Nat → Nat} {a s : Nat} (h : LAc B l n s a) : wstep B l n F a s = F (a + im B s) := by unfold wstep; rw [if_pos h]
theorem ws_f {B : Bok} {l : Nat → Nat} {n : Nat} {F : Nat → Nat} {a s : Nat} (h : ¬ LAc B l n s a) : wstep B l n F a s = 0 := by unfold wstep; rw [if_neg h]
def CR : Nat := 1000000
theorem CRe : CR = 1000000 := rfl
def Wy (B : Bok) (l : Nat → Nat) (n : Nat) (F : Nat → Nat) : Prop := F n = 1 ∧ ∀ a, a < n → F a = min (sumF (wstep B l n F a) (B 2)) CR
set_option maxRecDepth 20000 in
theorem c_unf_in {d : Nat} {σ : St} {b : Nat} {B : Bok} (hb : Bq b) (hB : BkC σ (b + 13) B) (hf : Wf B) {l : Nat → Nat} {n : Nat} (hF : Fo σ l n) (h1i : ∀ s, s < B 2 → 1 ≤ im B s) {post : Option Value → St → Prop} {a : Nat} {F : Nat → Nat} (ha : a < n) {τ : St} (h9 : (∀ k, k ≠ 42 → τ k = σ k)) (hv : ∀ q, a + 1 ≤ q → q ≤ n → τ 42 q = (F q : Int) ∧ F q ≤ CR) (hk : ∀ v : Nat, v = sumF (wstep B l n F a) (B 2) → v ≤ 4000000 → Ev (d + 3) mX2_unfold 68 [.ref 9, .ref b, vi a, vi v, vi (B 2)] [] τ post) : ∀ (fu : Nat) {s v : Nat}, B 2 - s < fu → s ≤ B 2 → v = sumF (wstep B l n F a) s → v ≤ s * CR → Ev (d + 3) mX2_unfold 26 [.ref 9, .ref b, vi a, vi v, vi s] [] τ (post) := by
  intro fu
  induction fu with
  | zero => intros; omega
  | succ fu ih =>
    intro s v hn h1 h2 h3
    have h4 := hf.2.1
    have h5 := hF.2.1
    have hce := CRe
    refine ev_iload eX2_unfold_26 rfl ?_
    refine ev_aload_n eX2_unfold_28 rfl ?_
    refine ev_cV0 eX2_unfold_29 ⟨lX2_22, kX0_sortCount⟩ (ocB hb) rfl (c_sortCount hb (fun j hj => by rw [h9 _ (by have := hb; unfold Bq at this; omega)]; exact hB j hj) hf.1) ?_
    rintro _ _ ⟨rfl, rfl⟩
    refine ev_icmp_ge 68 eX2_unfold_32 rfl (by omega) (by omega) (fun h32 => ?_) (fun h32 => ?_)
    · skip
      obtain rfl : s = B 2 := by omega
      exact hk v h2 (Nat.le_trans h3 (Nat.le_trans (Nat.mul_le_mul_right CR h4) (by omega)))
    · skip
      refine ev_aload_n eX2_unfold_35 rfl ?_
      refine ev_aload_n eX2_unfold_36 rfl ?_
      refine ev_iload eX2_unfold_37 rfl ?_
      refine ev_iload_n eX2_unfold_39 rfl ?_
      refine ev_cV3 eX2_unfold_40 ⟨lX2_28, kX2_liesAt⟩ rfl rfl (c_lies hb (fun j hj => by rw [h9 _ (by have := hb; unfold Bq at this; omega)]; exact hB j hj) hf ⟨by rw [h9 9 (by decide)]; exact hF.1, hF.2.1, fun j hj => by rw [h9 41 (by decide)]; exact hF.2.2 j hj⟩ (s := s) (a := a) (by omega) (by omega)) ?_
      rintro _ _ ⟨rfl, rfl⟩
      refine ev_ifb_eq 62 eX2_unfold_43 rfl (fun h43 => ?_) (fun h43 => ?_)
      · skip
        refine ev_iinc eX2_unfold_62 rfl (by decide) ?_
        refine ev_goto 26 eX2_unfold_65 rfl ?_
        first | exact ih (s := s + 1) (v := v) (by omega) (by omega) (by rw [sumF_s, ws_f h43]; exact h2) (by rw [Nat.succ_mul]; omega) | exact ih (s := s + 1) (v := v + F (a + im B s)) (by omega) (by omega) (by rw [sumF_s, ws_t h43]; omega) (by have := (hv (a + im B s) (by omega) (by omega)).2; rw [Nat.succ_mul]; omega)
      · skip
        have hle := h43.1
        have h1s := h1i s (by omega)
        refine ev_iload_n eX2_unfold_46 rfl ?_
        refine ev_aload_n eX2_unfold_47 rfl ?_
        refine ev_getr eX2_unfold_48 fX2_15 rfl ?_
        refine ev_iload_n eX2_unfold_51 rfl ?_
        refine ev_aload_n eX2_unfold_52 rfl ?_
        refine ev_iload eX2_unfold_53 rfl ?_
        refine ev_cV1 eX2_unfold_55 ⟨lX2_32, kX0_imageSize⟩ (ocB hb) rfl (c_imageSize hb (fun j hj => by rw [h9 _ (by have := hb; unfold Bq at this; omega)]; exact hB j hj) hf.1 (s := s) (by omega)) ?_
        rintro _ _ ⟨rfl, rfl⟩
        refine ev_iadd eX2_unfold_58 ?_
        refine ev_ialdv ((a + im B s)) eX2_unfold_59 rfl (by first | rfl | omega) (by omega) (hv _ (by omega) (by omega)).1 ?_
        refine ev_iadd eX2_unfold_60 ?_
        refine ev_istore_n eX2_unfold_61 (by decide) ?_
        refine ev_iinc eX2_unfold_62 rfl (by decide) ?_
        refine ev_goto 26 eX2_unfold_65 rfl ?_
        first | exact ih (s := s + 1) (v := v) (by omega) (by omega) (by rw [sumF_s, ws_f h43]; exact h2) (by rw [Nat.succ_mul]; omega) | exact ih (s := s + 1) (v := v + F (a + im B s)) (by omega) (by omega) (by rw [sumF_s, ws_t h43]; omega) (by have := (hv (a + im B s) (by omega) (by omega)).2; rw [Nat.succ_mul]; omega)
set_option maxRecDepth 20000 in
theorem c_unf_l {d : Nat} {σ : St} {b : Nat} {B : Bok} (hb : Bq b) (hB : BkC σ (b + 13) B) (hf : Wf B) {l : Nat → Nat} {n : Nat} (hF : Fo σ l n) (h1i : ∀ s, s < B 2 → 1 ≤ im B s) : ∀ (fu : Nat) {m : Nat} {F : Nat → Nat} {τ : St} {u3 u4 : Value}, m < fu → m ≤ n → F n = 1 → (∀ a, m ≤ a → a < n → F a = min (sumF (wstep B l n F a) (B 2)) CR) → (∀ a, m ≤ a → a ≤ n → τ 42 a = (F a : Int) ∧ F a ≤ CR) → (∀ k, k ≠ 42 → τ k = σ k) → Ev (d + 3) mX2_unfold 17 [.ref 9, .ref b, vi ((m : Int) - 1), u3, u4] [] τ (fun r τ => none = r ∧ (∀ k, k ≠ 42 → τ k = σ k) ∧ ∃ F : Nat → Nat, Wy B l n F ∧ ∀ a, a ≤ n → τ 42 a = (F a : Int) ∧ F a ≤ CR) := by
  intro fu
  induction fu with
  | zero => intros; omega
  | succ fu ih =>
    intro m F τ u3 u4 hn h1 h2 h3 h5 h9
    have h4 := hf.2.1
    have h6 := hF.2.1
    have hce := CRe
    refine ev_iload_n eX2_unfold_17 rfl ?_
    refine ev_if_lt 86 eX2_unfold_18 rfl (by omega) (fun h18 => ?_) (fun h18 => ?_)
    · skip
      refine ev_ret eX2_unfold_86 rfl ?_
      obtain rfl : m = 0 := by omega
      exact ⟨rfl, h9, F, ⟨h2, fun a ha => h3 a (by omega) ha⟩, fun a ha => h5 a (by omega) ha⟩
    · skip
      obtain ⟨m, rfl⟩ : ∃ q, m = q + 1 := ⟨m - 1, by omega⟩
      rw [show (((m + 1 : Nat) : Int) - 1) = (m : Int) by omega]
      refine ev_iconst eX2_unfold_21 ?_
      refine ev_istore_n eX2_unfold_22 (by decide) ?_
      refine ev_iconst eX2_unfold_23 ?_
      refine ev_istore eX2_unfold_24 (by decide) ?_
      refine c_unf_in hb hB hf hF h1i (a := m) (F := F) (by omega) h9 (fun q q1 q2 => h5 q (by omega) q2) (fun v hv1 hv2 => ?_) 5 (s := 0) (v := 0) (by omega) (by omega) rfl (by omega)
      refine ev_aload_n eX2_unfold_68 rfl ?_
      refine ev_getr eX2_unfold_69 fX2_15 rfl ?_
      refine ev_iload_n eX2_unfold_72 rfl ?_
      refine ev_iload_n eX2_unfold_73 rfl ?_
      refine ev_ldc eX2_unfold_74 qX2_36 ?_
      refine ev_min eX2_unfold_76 lmin_X2 (Nat.le_of_ble_eq_true rfl) (by omega) (by omega) ?_
      refine ev_iast (m) eX2_unfold_79 rfl (by first | rfl | omega) (by omega) ?_
      refine ev_iinc eX2_unfold_80 rfl (by decide) ?_
      refine ev_goto 17 eX2_unfold_83 rfl ?_
      refine ih (m := m) (F := fun q => if q = m then min v CR else F q) (by omega) (by omega) (by rw [if_neg (by omega)]; exact h2) (fun q q1 q2 => ?_) (fun q q1 q2 => ?_) (fun k hk => by rw [up_o _ _ _ hk]; exact h9 k hk)
      · have hst : ∀ z, m ≤ z → z < n → sumF (wstep B l n (fun q => if q = m then min v CR else F q) z) (B 2) = sumF (wstep B l n F z) (B 2) := fun z z1 z2 => sumF_congr (fun s hs => by
          have h1s := h1i s hs
          by_cases hla : LAc B l n s z
          · rw [ws_t hla, ws_t hla, if_neg (by omega)]
          · rw [ws_f hla, ws_f hla])
        rw [hst q q1 q2]
        by_cases e : q = m
        · subst e
          rw [if_pos rfl, hv1]
        · rw [if_neg e]
          exact h3 q (by omega) q2
      · by_cases e : q = m
        · subst e
          rw [up_s, if_pos rfl]
          exact ⟨by omega, by omega⟩
        · rw [up_n _ _ e, if_neg e]
          exact h5 q (by omega) q2
set_option maxRecDepth 20000 in
theorem c_unfold {d : Nat} {σ : St} {b : Nat} {B : Bok} (hb : Bq b) (hB : BkC σ (b + 13) B) (hf : Wf B) {l : Nat → Nat} {n : Nat} (hF : Fo σ l n) (h1i : ∀ s, s < B 2 → 1 ≤ im B s) : Ct (d + 3) mX2_unfold [.ref 9, .ref b] σ (fun r τ => none = r ∧ (∀ k, k ≠ 42 → τ k = σ k) ∧ ∃ F : Nat → Nat, Wy B l n F ∧ ∀ a, a ≤ n → τ 42 a = (F a : Int) ∧ F a ≤ CR) := by
  refine ct_of hX2_unfold (Nat.le_of_ble_eq_true rfl) ?_
  refine ev_aload_n eX2_unfold_0 rfl ?_
  refine ev_getr eX2_unfold_1 fX2_15 rfl ?_
  refine ev_aload_n eX2_unfold_4 rfl ?_
  refine ev_getiv eX2_unfold_5 fX2_18 rfl hF.1 ?_
  refine ev_iconst eX2_unfold_8 ?_
  have h6 := hF.2.1
  refine ev_iast (n) eX2_unfold_9 rfl (by first | rfl | omega) (by omega) ?_
  refine ev_aload_n eX2_unfold_10 rfl ?_
  refine ev_getiv eX2_unfold_11 fX2_18 rfl (show _ = (n : Int) by rw [up_o _ _ _ (by decide)]; exact hF.1) ?_
  refine ev_iconst eX2_unfold_14 ?_
  refine ev_isub eX2_unfold_15 ?_
  refine ev_istore_n eX2_unfold_16 (by decide) ?_
  refine c_unf_l hb hB hf hF h1i (n + 1) (m := n) (F := fun _ => 1) (by omega) (by omega) rfl (fun a a1 a2 => by omega) (fun a a1 a2 => ?_) (fun k hk => up_o _ _ _ hk)
  obtain rfl : a = n := by omega
  exact ⟨up_s _ _ _ _, by have hce := CRe; omega⟩
