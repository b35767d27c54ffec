/-! Checked, Tally (8: now 38, next 39, times 40) -/
def MX : Nat := 9223372036854775807
theorem MXe : (MX : Int) = 9223372036854775807 := rfl
def cl (a : Nat) : Int := if a ≤ MX then (a : Int) else -1
theorem cl_le {a : Nat} (h : a ≤ MX) : cl a = (a : Int) := by simp [cl, h]
theorem cl_gt {a : Nat} (h : MX < a) : cl a = -1 := by unfold cl; rw [if_neg (by omega)]
theorem cl_r (a : Nat) : -1 ≤ cl a ∧ cl a ≤ 9223372036854775807 := by
  unfold cl
  have := MXe
  split <;> omega
def plI (a b : Int) : Int := if a < 0 ∨ b < 0 ∨ 9223372036854775807 - b < a then -1 else a + b
theorem plI_cl (a b : Nat) : plI (cl a) (cl b) = cl (a + b) := by
  have e := MXe
  unfold plI
  by_cases h1 : a ≤ MX
  · rw [cl_le h1]
    by_cases h2 : b ≤ MX
    · rw [cl_le h2]
      by_cases h3 : a + b ≤ MX
      · rw [cl_le h3, if_neg (by omega)]; omega
      · rw [cl_gt (by omega), if_pos (by omega)]
    · rw [cl_gt (a := b) (by omega), cl_gt (a := a + b) (by omega), if_pos (by omega)]
  · rw [cl_gt (a := a) (by omega), cl_gt (a := a + b) (by omega), if_pos (by omega)]
set_option maxRecDepth 20000 in
theorem c_plusI {d : Nat} {σ : St} {a b : Int} (ha : -1 ≤ a ∧ a ≤ 9223372036854775807) (hb : -1 ≤ b ∧ b ≤ 9223372036854775807) : Ct (d) mX1_plus [vl a, vl b] σ (rt (vl (plI a b)) σ) := by
  refine ct_of hX1_plus (Nat.le_of_ble_eq_true rfl) ?_
  refine ev_lload_n eX1_plus_0 rfl ?_
  refine ev_lconst 0 eX1_plus_1 rfl ?_
  refine ev_lif_lt 22 eX1_plus_2 eX1_plus_3 rfl (by omega) (by omega) (fun h2 => ?_) (fun h2 => ?_)
  · skip
    refine ev_ldc2 eX1_plus_22 qX1_11 ?_
    refine ev_lret eX1_plus_25 rfl ?_
    exact ⟨congrArg (fun q => some (vl q)) (by unfold plI; rw [if_pos (by omega)]), rfl⟩
  · skip
    refine ev_lload_n eX1_plus_6 rfl ?_
    refine ev_lconst 0 eX1_plus_7 rfl ?_
    refine ev_lif_lt 22 eX1_plus_8 eX1_plus_9 rfl (by omega) (by omega) (fun h8 => ?_) (fun h8 => ?_)
    · skip
      refine ev_ldc2 eX1_plus_22 qX1_11 ?_
      refine ev_lret eX1_plus_25 rfl ?_
      exact ⟨congrArg (fun q => some (vl q)) (by unfold plI; rw [if_pos (by omega)]), rfl⟩
    · skip
      refine ev_lload_n eX1_plus_12 rfl ?_
      refine ev_ldc2 eX1_plus_13 qX1_9 ?_
      refine ev_lload_n eX1_plus_16 rfl ?_
      refine ev_lsub eX1_plus_17 ?_
      refine ev_lif_le 26 eX1_plus_18 eX1_plus_19 rfl (by omega) (by omega) (fun h18 => ?_) (fun h18 => ?_)
      · skip
        refine ev_lload_n eX1_plus_26 rfl ?_
        refine ev_lload_n eX1_plus_27 rfl ?_
        refine ev_ladd eX1_plus_28 ?_
        refine ev_lret eX1_plus_29 rfl ?_
        exact ⟨congrArg (fun q => some (vl q)) (by unfold plI; rw [if_neg (by omega)]), rfl⟩
      · skip
        refine ev_ldc2 eX1_plus_22 qX1_11 ?_
        refine ev_lret eX1_plus_25 rfl ?_
        exact ⟨congrArg (fun q => some (vl q)) (by unfold plI; rw [if_pos (by omega)]), rfl⟩
theorem c_plus {d : Nat} {σ : St} (a b : Nat) : Ct d mX1_plus [vl (cl a), vl (cl b)] σ (rt (vl (cl (a + b))) σ) := by
  rw [← plI_cl]
  exact c_plusI (cl_r a) (cl_r b)
theorem md1 {a c : Nat} (hc : (0 : Int) < (c : Int)) (h : (a : Int) ≤ 9223372036854775807 / (c : Int)) : a * c ≤ MX := by
  have h1 := (Int.le_ediv_iff_mul_le hc).mp h
  rw [← Int.natCast_mul] at h1
  have e := MXe
  omega
theorem md2 {a c : Nat} (hc : (0 : Int) < (c : Int)) (h : 9223372036854775807 / (c : Int) < (a : Int)) : MX < a * c := by
  have h1 := (Int.ediv_lt_iff_lt_mul hc).mp h
  rw [← Int.natCast_mul] at h1
  have e := MXe
  omega
set_option maxRecDepth 20000 in
theorem c_times_ {d : Nat} {σ : St} {a c : Nat} (ha : a ≤ MX) (hc : c ≤ 1000) : Ct (d) mX1_times [vl a, vi c] σ (rt (vl (cl (a * c))) σ) := by
  refine ct_of hX1_times (Nat.le_of_ble_eq_true rfl) ?_
  have e := MXe
  refine ev_lload_n eX1_times_0 rfl ?_
  refine ev_lconst 0 eX1_times_1 rfl ?_
  refine ev_lif_lt 10 eX1_times_2 eX1_times_3 rfl (by omega) (by omega) (fun h2 => False.elim (by omega)) (fun h2 => ?_)
  refine ev_iload_n eX1_times_6 rfl ?_
  refine ev_if_ge 14 eX1_times_7 rfl (by omega) (fun h7 => ?_) (fun h7 => False.elim (by omega))
  refine ev_iload_n eX1_times_14 rfl ?_
  refine ev_if_ne 20 eX1_times_15 rfl (by omega) (fun h15 => ?_) (fun h15 => ?_)
  · skip
    have hc0 : (0 : Int) < (c : Int) := by omega
    have hq0 : (0 : Int) ≤ 9223372036854775807 / (c : Int) := Int.ediv_nonneg (by omega) (by omega)
    have hq1 : 9223372036854775807 / (c : Int) ≤ 9223372036854775807 := Int.ediv_le_self _ (by omega)
    refine ev_lload_n eX1_times_20 rfl ?_
    refine ev_ldc2 eX1_times_21 qX1_9 ?_
    refine ev_iload_n eX1_times_24 rfl ?_
    refine ev_i2l eX1_times_25 (by omega) ?_
    refine ev_ldiv eX1_times_26 (by omega) (by omega) ?_
    refine ev_lif_le 37 eX1_times_27 eX1_times_28 rfl (by omega) (by omega) (fun h27 => ?_) (fun h27 => ?_)
    · skip
      refine ev_lload_n eX1_times_37 rfl ?_
      refine ev_iload_n eX1_times_38 rfl ?_
      refine ev_i2l eX1_times_39 (by omega) ?_
      refine ev_lmul eX1_times_40 ?_
      refine ev_lret eX1_times_41 rfl ?_
      exact ⟨congrArg (fun q => some (vl q)) ((cl_le (md1 hc0 h27)).trans (Int.natCast_mul a c)), rfl⟩
    · skip
      refine ev_ldc2 eX1_times_31 qX1_11 ?_
      refine ev_goto 41 eX1_times_34 rfl ?_
      refine ev_lret eX1_times_41 rfl ?_
      exact ⟨congrArg (fun q => some (vl q)) (cl_gt (md2 hc0 h27)), rfl⟩
  · skip
    refine ev_lconst 0 eX1_times_18 rfl ?_
    refine ev_lret eX1_times_19 rfl ?_
    exact ⟨congrArg (fun q => some (vl q)) (by rw [show c = 0 by omega, Nat.mul_zero]; rfl), rfl⟩
def cn (B : Bok) (t s : Nat) : Nat := cntF (il B t) s (im B t)
theorem cn_le {B : Bok} (h : Wf B) {t : Nat} (ht : t < 4) (s : Nat) : cn B t s ≤ 4 := Nat.le_trans (cntF_le _ _ _) (im_le h ht)
/-- how often each sort is there after n inflations -/
def nm (B : Bok) : Nat → Nat → Nat
  | 0, s => cntF (rw_ B) s (B 3)
  | n + 1, s => sumF (fun t => nm B n t * cn B t s) (B 2)
def ovr (B : Bok) (n : Nat) : Prop := ∃ k, k ≤ n ∧ ∃ s, s < B 2 ∧ MX < nm B k s
def nxt (B : Bok) (v : Nat → Nat) (s : Nat) : Nat := sumF (fun t => v t * cn B t s) (B 2)
def Vat (σ : St) (m : Nat) (v : Nat → Nat) : Prop := ∀ s, s < m → v s ≤ MX ∧ σ 38 s = (v s : Int)
/-- the table of the images -/
def Tt (σ : St) (B : Bok) : Prop := σ 8 3 = (B 2 : Int) ∧ ∀ f t, f < B 2 → t < B 2 → σ 40 (f * 4 + t) = (cn B f t : Int)
set_option maxRecDepth 20000 in
theorem c_tki_in {d : Nat} {σ : St} {b : Nat} {B : Bok} (hb : Bq b) (hB : BkC σ (b + 13) B) (hf : Wf B) {post : Option Value → St → Prop} {f : Nat} (hff : f < B 2) (hk : ∀ τ : St, τ 8 3 = (B 2 : Int) → (∀ a t, a < f + 1 → t < B 2 → τ 40 (a * 4 + t) = (cn B a t : Int)) → (∀ k, k ≠ 8 → k ≠ 40 → τ k = σ k) → Ev (d + 3) mX9_takeImages 50 [.ref 8, .ref b, vi f, vi (B 2)] [] τ post) : ∀ (fu : Nat) {t : Nat} {τ : St}, B 2 - t < fu → t ≤ B 2 → (τ 8 3 = (B 2 : Int) ∧ (∀ a q, a < f → q < B 2 → τ 40 (a * 4 + q) = (cn B a q : Int)) ∧ ∀ q, q < t → τ 40 (f * 4 + q) = (cn B f q : Int)) → (∀ k, k ≠ 8 → k ≠ 40 → τ k = σ k) → Ev (d + 3) mX9_takeImages 20 [.ref 8, .ref b, vi f, vi t] [] τ (post) := by
  intro fu
  induction fu with
  | zero => intros; omega
  | succ fu ih =>
    intro t τ hn h1 h2 h3
    have h4 := hf.2.1
    refine ev_iload_n eX9_takeImages_20 rfl ?_
    refine ev_aload_n eX9_takeImages_21 rfl ?_
    refine ev_getiv eX9_takeImages_22 fX9_22 rfl h2.1 ?_
    refine ev_icmp_ge 50 eX9_takeImages_25 rfl (by omega) (by omega) (fun h25 => ?_) (fun h25 => ?_)
    · skip
      obtain rfl : t = B 2 := by omega
      refine hk τ h2.1 (fun a q ha hq => ?_) h3
      by_cases e : a = f
      · subst e; exact h2.2.2 q hq
      · exact h2.2.1 a q (by omega) hq
    · skip
      refine ev_aload_n eX9_takeImages_28 rfl ?_
      refine ev_getr eX9_takeImages_29 fX9_18 rfl ?_
      refine ev_iload_n eX9_takeImages_32 rfl ?_
      refine ev_iconst eX9_takeImages_33 ?_
      refine ev_imul eX9_takeImages_34 ?_
      refine ev_iload_n eX9_takeImages_35 rfl ?_
      refine ev_iadd eX9_takeImages_36 ?_
      refine ev_aload_n eX9_takeImages_37 rfl ?_
      refine ev_iload_n eX9_takeImages_38 rfl ?_
      refine ev_iload_n eX9_takeImages_39 rfl ?_
      refine ev_cV2 eX9_takeImages_40 ⟨lX9_45, kX0_timesInImage⟩ (ocB hb) rfl (c_times hb (fun j hj => by rw [h3 _ (by have := hb; unfold Bq at this; omega) (by have := hb; unfold Bq at this; omega)]; exact hB j hj) hf (s := f) (x := t) (by omega) (by omega)) ?_
      rintro _ _ ⟨rfl, rfl⟩
      refine ev_iast (((f * 4) + t)) eX9_takeImages_43 rfl (by first | rfl | omega) (by omega) ?_
      refine ev_iinc eX9_takeImages_44 rfl (by decide) ?_
      refine ev_goto 20 eX9_takeImages_47 rfl ?_
      refine ih (t := t + 1) (by omega) (by omega) ⟨?_, fun a q ha hq => ?_, fun q hq => ?_⟩ (fun k a1 a2 => by rw [up_o _ _ _ a2]; exact h3 k a1 a2)
      · rw [up_o _ _ _ (by decide)]; exact h2.1
      · rw [up_n _ _ (by omega)]; exact h2.2.1 a q ha hq
      · by_cases e : q = t
        · subst e; exact up_s _ _ _ _
        · rw [up_n _ _ (by omega)]; exact h2.2.2 q (by omega)
set_option maxRecDepth 20000 in
theorem c_tki_l {d : Nat} {σ : St} {b : Nat} {B : Bok} (hb : Bq b) (hB : BkC σ (b + 13) B) (hf : Wf B)  : ∀ (fu : Nat) {f : Nat} {v : Value} {τ : St}, B 2 - f < fu → f ≤ B 2 → (τ 8 3 = (B 2 : Int) ∧ ∀ a q, a < f → q < B 2 → τ 40 (a * 4 + q) = (cn B a q : Int)) → (∀ k, k ≠ 8 → k ≠ 40 → τ k = σ k) → Ev (d + 3) mX9_takeImages 10 [.ref 8, .ref b, vi f, v] [] τ (fun r τ => none = r ∧ Tt τ B ∧ ∀ k, k ≠ 8 → k ≠ 40 → τ k = σ k) := by
  intro fu
  induction fu with
  | zero => intros; omega
  | succ fu ih =>
    intro f v τ hn h1 h2 h3
    have h4 := hf.2.1
    refine ev_iload_n eX9_takeImages_10 rfl ?_
    refine ev_aload_n eX9_takeImages_11 rfl ?_
    refine ev_getiv eX9_takeImages_12 fX9_22 rfl h2.1 ?_
    refine ev_icmp_ge 56 eX9_takeImages_15 rfl (by omega) (by omega) (fun h15 => ?_) (fun h15 => ?_)
    · skip
      refine ev_ret eX9_takeImages_56 rfl ?_
      exact ⟨rfl, ⟨h2.1, fun a q ha hq => h2.2 a q (by omega) hq⟩, h3⟩
    · skip
      refine ev_iconst eX9_takeImages_18 ?_
      refine ev_istore_n eX9_takeImages_19 (by decide) ?_
      refine c_tki_in hb hB hf (f := f) (by omega) (fun τ2 g1 g2 g3 => ?_) 5 (t := 0) (by omega) (by omega) ⟨h2.1, h2.2, fun q hq => by omega⟩ h3
      refine ev_iinc eX9_takeImages_50 rfl (by decide) ?_
      refine ev_goto 10 eX9_takeImages_53 rfl ?_
      exact ih (f := f + 1) (by omega) (by omega) ⟨g1, g2⟩ g3
set_option maxRecDepth 20000 in
theorem c_takeImages {d : Nat} {σ : St} {b : Nat} {B : Bok} (hb : Bq b) (hB : BkC σ (b + 13) B) (hf : Wf B)  : Ct (d + 3) mX9_takeImages [.ref 8, .ref b] σ (fun r τ => none = r ∧ Tt τ B ∧ ∀ k, k ≠ 8 → k ≠ 40 → τ k = σ k) := by
  refine ct_of hX9_takeImages (Nat.le_of_ble_eq_true rfl) ?_
  refine ev_aload_n eX9_takeImages_0 rfl ?_
  refine ev_aload_n eX9_takeImages_1 rfl ?_
  refine ev_cV0 eX9_takeImages_2 ⟨lX9_42, kX0_sortCount⟩ (ocB hb) rfl (c_sortCount hb hB hf.1) ?_
  rintro _ _ ⟨rfl, rfl⟩
  refine ev_puti eX9_takeImages_5 pX9_22 rfl ?_
  refine ev_iconst eX9_takeImages_8 ?_
  refine ev_istore_n eX9_takeImages_9 (by decide) ?_
  exact c_tki_l hb hB hf 5 (f := 0) (by have := hf.2.1; omega) (by omega) ⟨up_s _ _ _ _, fun a q ha => by omega⟩ (fun k a1 a2 => up_o _ _ _ a1)
set_option maxRecDepth 20000 in
theorem c_ro_in {d : Nat} {σ : St} {B : Bok} (hf : Wf B) (hT : Tt σ B) {v : Nat → Nat} (hv : Vat σ (B 2) v) {post : Option Value → St → Prop} {t : Nat} (ht : t < B 2) {lv3 lv4 : Value} (hk : ∀ (τ : St) (u3 u4 : Value), (∀ k, k ≠ 39 → τ k = σ k) → τ 39 t = cl (nxt B v t) → (∀ q, q < t → τ 39 q = (nxt B v q : Int)) → Ev (d + 1) mX9_runOnce 69 [.ref 8, vi t, vi (B 2), u3, u4] [] τ post) : ∀ (fu : Nat) {f : Nat} {u3 u4 : Value} {τ : St}, B 2 - f < fu → f ≤ B 2 → (∀ k, k ≠ 39 → τ k = σ k) → τ 39 t = cl (sumF (fun q => v q * cn B q t) f) → (∀ q, q < t → τ 39 q = (nxt B v q : Int)) → Ev (d + 1) mX9_runOnce 19 [.ref 8, vi t, vi f, u3, u4] [] τ (post) := by
  intro fu
  induction fu with
  | zero => intros; omega
  | succ fu ih =>
    intro f u3 u4 τ hn h1 h2 h3 h5
    have h4 := hf.2.1
    refine ev_iload_n eX9_runOnce_19 rfl ?_
    refine ev_aload_n eX9_runOnce_20 rfl ?_
    refine ev_getiv eX9_runOnce_21 fX9_22 rfl (show _ = (B 2 : Int) by rw [h2 8 (by decide)]; exact hT.1) ?_
    refine ev_icmp_ge 69 eX9_runOnce_24 rfl (by omega) (by omega) (fun h24 => ?_) (fun h24 => ?_)
    · skip
      obtain rfl : f = B 2 := by omega
      exact hk τ u3 u4 h2 h3 h5
    · skip
      refine ev_aload_n eX9_runOnce_27 rfl ?_
      refine ev_getr eX9_runOnce_28 fX9_9 rfl ?_
      refine ev_iload_n eX9_runOnce_31 rfl ?_
      refine ev_laldv (f) eX9_runOnce_32 rfl (by first | rfl | omega) (by omega) (show _ = (v f : Int) by rw [h2 38 (by decide)]; exact (hv f (by omega)).2) ?_
      refine ev_aload_n eX9_runOnce_33 rfl ?_
      refine ev_getr eX9_runOnce_34 fX9_18 rfl ?_
      refine ev_iload_n eX9_runOnce_37 rfl ?_
      refine ev_iconst eX9_runOnce_38 ?_
      refine ev_imul eX9_runOnce_39 ?_
      refine ev_iload_n eX9_runOnce_40 rfl ?_
      refine ev_iadd eX9_runOnce_41 ?_
      refine ev_ialdv (((f * 4) + t)) eX9_runOnce_42 rfl (by first | rfl | omega) (by omega) (show _ = (cn B f t : Int) by rw [h2 40 (by decide)]; exact hT.2 f t (by omega) ht) ?_
      refine ev_cS2 eX9_runOnce_43 ⟨lX9_48, kX1_times⟩ rfl (c_times_ (hv f (by omega)).1 (by have := cn_le hf (t := f) (by omega) t; omega)) ?_
      rintro _ _ ⟨rfl, rfl⟩
      refine ev_lstore_n eX9_runOnce_46 (by decide) ?_
      refine ev_aload_n eX9_runOnce_47 rfl ?_
      refine ev_getr eX9_runOnce_48 fX9_15 rfl ?_
      refine ev_iload_n eX9_runOnce_51 rfl ?_
      refine ev_aload_n eX9_runOnce_52 rfl ?_
      refine ev_getr eX9_runOnce_53 fX9_15 rfl ?_
      refine ev_iload_n eX9_runOnce_56 rfl ?_
      refine ev_laldv (t) eX9_runOnce_57 rfl (by first | rfl | omega) (by omega) h3 ?_
      refine ev_lload_n eX9_runOnce_58 rfl ?_
      refine ev_cS2 eX9_runOnce_59 ⟨lX9_54, kX1_plus⟩ rfl (c_plus _ _) ?_
      rintro _ _ ⟨rfl, rfl⟩
      refine ev_last (t) eX9_runOnce_62 rfl (by first | rfl | omega) (by omega) ?_
      refine ev_iinc eX9_runOnce_63 rfl (by decide) ?_
      refine ev_goto 19 eX9_runOnce_66 rfl ?_
      refine ih (f := f + 1) (by omega) (by omega) (fun k a => by rw [up_o _ _ _ a]; exact h2 k a) ?_ (fun q hq => by rw [up_n _ _ (by omega)]; exact h5 q hq)
      rw [up_s]
      rfl
theorem cpF_in {f h : Nat → Int} {sp dp n q : Nat} (h1 : dp ≤ q) (h2 : q < dp + n) : cpF f h sp dp n q = f (sp + (q - dp)) := by unfold cpF; rw [if_pos ⟨h1, h2⟩]
theorem cpF_out {f h : Nat → Int} {sp dp n q : Nat} (h1 : q < dp ∨ dp + n ≤ q) : cpF f h sp dp n q = h q := by unfold cpF; rw [if_neg (by omega)]
set_option maxRecDepth 20000 in
theorem c_ro_l {d : Nat} {σ : St} {B : Bok} (hf : Wf B) (hT : Tt σ B) {v : Nat → Nat} (hv : Vat σ (B 2) v)  : ∀ (fu : Nat) {t : Nat} {u2 u3 u4 : Value} {τ : St}, B 2 - t < fu → t ≤ B 2 → (∀ k, k ≠ 39 → τ k = σ k) → (∀ q, q < t → nxt B v q ≤ MX ∧ τ 39 q = (nxt B v q : Int)) → Ev (d + 1) mX9_runOnce 2 [.ref 8, vi t, u2, u3, u4] [] τ (fun r τ => (∀ k, k ≠ 38 → k ≠ 39 → τ k = σ k) ∧ ((some (vi 1) = r ∧ Vat τ (B 2) (nxt B v)) ∨ (some (vi 0) = r ∧ ∃ s, s < B 2 ∧ MX < nxt B v s))) := by
  intro fu
  induction fu with
  | zero => intros; omega
  | succ fu ih =>
    intro t u2 u3 u4 τ hn h1 h2 h3
    have h4 := hf.2.1
    refine ev_iload_n eX9_runOnce_2 rfl ?_
    refine ev_aload_n eX9_runOnce_3 rfl ?_
    refine ev_getiv eX9_runOnce_4 fX9_22 rfl (show _ = (B 2 : Int) by rw [h2 8 (by decide)]; exact hT.1) ?_
    refine ev_icmp_ge 88 eX9_runOnce_7 rfl (by omega) (by omega) (fun h7 => ?_) (fun h7 => ?_)
    · skip
      obtain rfl : t = B 2 := by omega
      refine ev_aload_n eX9_runOnce_88 rfl ?_
      refine ev_getr eX9_runOnce_89 fX9_15 rfl ?_
      refine ev_iconst eX9_runOnce_92 ?_
      refine ev_aload_n eX9_runOnce_93 rfl ?_
      refine ev_getr eX9_runOnce_94 fX9_9 rfl ?_
      refine ev_iconst eX9_runOnce_97 ?_
      refine ev_aload_n eX9_runOnce_98 rfl ?_
      refine ev_getiv eX9_runOnce_99 fX9_22 rfl (show _ = (B 2 : Int) by rw [h2 8 (by decide)]; exact hT.1) ?_
      refine ev_acpl (0) (0) (B 2) eX9_runOnce_102 lX9_58 rfl rfl (by first | rfl | omega) (by first | rfl | omega) (by first | rfl | omega) (by omega) (by omega) (Nat.le_of_ble_eq_true rfl) ?_
      refine ev_iconst eX9_runOnce_105 ?_
      refine ev_zret eX9_runOnce_106 rfl (by first | exact Or.inl rfl | exact Or.inr rfl | exact bI01 _) ?_
      refine ⟨fun k a1 a2 => by rw [upA_n _ _ a1]; exact h2 k a2, Or.inl ⟨rfl, fun s hs => ⟨(h3 s hs).1, ?_⟩⟩⟩
      rw [upA_s, cpF_in (by omega) (by omega), Nat.sub_zero, Nat.zero_add]
      exact (h3 s hs).2
    · skip
      refine ev_aload_n eX9_runOnce_10 rfl ?_
      refine ev_getr eX9_runOnce_11 fX9_15 rfl ?_
      refine ev_iload_n eX9_runOnce_14 rfl ?_
      refine ev_lconst 0 eX9_runOnce_15 rfl ?_
      refine ev_last (t) eX9_runOnce_16 rfl (by first | rfl | omega) (by omega) ?_
      refine ev_iconst eX9_runOnce_17 ?_
      refine ev_istore_n eX9_runOnce_18 (by decide) ?_
      refine c_ro_in hf hT hv (t := t) (by omega) (lv3 := u3) (lv4 := u4) (fun τ2 w3 w4 g1 g2 g3 => ?_) 5 (f := 0) (by omega) (by omega) (fun k a => by rw [up_o _ _ _ a]; exact h2 k a) (by rw [up_s]; rfl) (fun q hq => by rw [up_n _ _ (by omega)]; exact (h3 q hq).2)
      refine ev_aload_n eX9_runOnce_69 rfl ?_
      refine ev_getr eX9_runOnce_70 fX9_15 rfl ?_
      refine ev_iload_n eX9_runOnce_73 rfl ?_
      refine ev_laldv (t) eX9_runOnce_74 rfl (by first | rfl | omega) (by omega) g2 ?_
      refine ev_lconst 0 eX9_runOnce_75 rfl ?_
      have hr := cl_r (nxt B v t)
      refine ev_lif_ge 82 eX9_runOnce_76 eX9_runOnce_77 rfl (by omega) (by omega) (fun hq => ?_) (fun hq => ?_)
      · skip
        refine ev_iinc eX9_runOnce_82 rfl (by decide) ?_
        refine ev_goto 2 eX9_runOnce_85 rfl ?_
        have hle : nxt B v t ≤ MX := by
          rcases Nat.lt_or_ge MX (nxt B v t) with z | z
          · rw [cl_gt z] at hq; omega
          · exact z
        refine ih (t := t + 1) (by omega) (by omega) g1 (fun q hz => ?_)
        by_cases e : q = t
        · subst e; exact ⟨hle, by rw [g2, cl_le hle]⟩
        · exact ⟨(h3 q (by omega)).1, g3 q (by omega)⟩
      · skip
        refine ev_iconst eX9_runOnce_80 ?_
        refine ev_zret eX9_runOnce_81 rfl (by first | exact Or.inl rfl | exact Or.inr rfl | exact bI01 _) ?_
        refine ⟨fun k a1 a2 => g1 k a2, Or.inr ⟨rfl, t, by omega, ?_⟩⟩
        rcases Nat.lt_or_ge MX (nxt B v t) with z | z
        · exact z
        · rw [cl_le z] at hq; omega
set_option maxRecDepth 20000 in
theorem c_runOnce {d : Nat} {σ : St} {B : Bok} (hf : Wf B) (hT : Tt σ B) {v : Nat → Nat} (hv : Vat σ (B 2) v)  : Ct (d + 1) mX9_runOnce [.ref 8] σ (fun r τ => (∀ k, k ≠ 38 → k ≠ 39 → τ k = σ k) ∧ ((some (vi 1) = r ∧ Vat τ (B 2) (nxt B v)) ∨ (some (vi 0) = r ∧ ∃ s, s < B 2 ∧ MX < nxt B v s))) := by
  refine ct_of hX9_runOnce (Nat.le_of_ble_eq_true rfl) ?_
  refine ev_iconst eX9_runOnce_0 ?_
  refine ev_istore_n eX9_runOnce_1 (by decide) ?_
  exact c_ro_l hf hT hv 5 (t := 0) (by have := hf.2.1; omega) (by omega) (fun k _ => rfl) (fun q hq => by omega)
