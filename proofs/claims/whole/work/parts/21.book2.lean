/-! Book: writes, loops -/
def upB (B : Bok) (j x : Nat) : Bok := fun i => if i = j then x else B i
theorem upB_s (B : Bok) (j x : Nat) : upB B j x j = x := by simp [upB]
theorem upB_n (B : Bok) {j i : Nat} (x : Nat) (h : i ≠ j) : upB B j x i = B i := by simp [upB, h]
theorem up_s (σ : St) (k j : Nat) (x : Int) : up σ k j x k j = x := by rw [up, upA_s, upF_s]
theorem up_n (σ : St) {k j i : Nat} (x : Int) (h : i ≠ j) : up σ k j x k i = σ k i := by rw [up, upA_s, upF_n _ _ h]
theorem up_o (σ : St) {k a : Nat} (j : Nat) (x : Int) (h : a ≠ k) : up σ k j x a = σ a := by rw [up, upA_n _ _ h]
theorem BkC_up {σ : St} {c : Nat} {B : Bok} (h : BkC σ c B) (j x : Nat) : BkC (up σ c j (x : Int)) c (upB B j x) := by
  intro i hi
  by_cases e : i = j
  · subst e; rw [up_s, upB_s]
  · rw [up_n _ _ e, upB_n _ _ e]; exact h i hi
theorem BkC_of {σ τ : St} {c c' : Nat} {B : Bok} (h : BkC σ c B) (e : ∀ j, j < 44 → τ c' j = σ c j) : BkC τ c' B := fun j hj => (e j hj).trans (h j hj)
def cntF (f : Nat → Nat) (x : Nat) : Nat → Nat
  | 0 => 0
  | n + 1 => cntF f x n + (if f n = x then 1 else 0)
def sumF (f : Nat → Nat) : Nat → Nat
  | 0 => 0
  | n + 1 => sumF f n + f n
theorem cntF_le (f : Nat → Nat) (x n : Nat) : cntF f x n ≤ n := by
  induction n with
  | zero => exact Nat.le_refl _
  | succ n ih => unfold cntF; split <;> omega
theorem sumF_le {f : Nat → Nat} {n M : Nat} (h : ∀ i, i < n → f i ≤ M) : sumF f n ≤ n * M := by
  induction n with
  | zero => exact Nat.zero_le _
  | succ n ih =>
    unfold sumF
    have h1 := ih (fun i hi => h i (by omega))
    have h2 := h n (by omega)
    rw [Nat.succ_mul]
    omega
theorem sumF_congr {f g : Nat → Nat} {n : Nat} (h : ∀ i, i < n → f i = g i) : sumF f n = sumF g n := by
  induction n with
  | zero => rfl
  | succ n ih => unfold sumF; rw [ih (fun i hi => h i (by omega)), h n (by omega)]
/-- a book that can be read: sizes and letters within their rows -/
def Wf (B : Bok) : Prop := Sm B ∧ B 2 ≤ 4 ∧ B 3 ≤ 8 ∧ (∀ s, s < 4 → ws B s ≤ 4) ∧ (∀ s, s < 4 → bk B s ≤ 5) ∧ (∀ s w, s < 4 → w < 2 → pt B s w ≤ 9) ∧ B 0 ≤ 9 ∧ B 1 ≤ 9 ∧ (∀ s i, s < 4 → i < 4 → wd B s i < 4) ∧ (∀ i, i < 8 → rw_ B i < 4)
theorem im_le {B : Bok} (h : Wf B) {s : Nat} (hs : s < 4) : im B s ≤ 4 := by
  have := h.2.2.2.1 s hs
  unfold im
  split
  · omega
  · split <;> omega
theorem il_lt {B : Bok} (h : Wf B) {s i : Nat} (hs : s < 4) (hi : i < im B s) : il B s i < 4 := by
  have h1 := h.2.2.2.1 s hs
  have h2 := h.2.2.2.2.2.2.2.2.1 s
  unfold im at hi
  unfold il
  split
  · omega
  · rename_i q
    rw [if_neg (by omega), if_neg (by omega)] at hi
    split
    · exact h2 _ hs (by omega)
    · exact h2 _ hs (by omega)
theorem ln_le {B : Bok} (h : Wf B) {s v : Nat} (hs : s < 4) (hv : v < 2) : ln B s v ≤ 18 := by
  have := h.2.2.2.2.2.1 s v hs hv
  unfold ln
  split <;> omega
set_option maxRecDepth 20000 in
theorem c_setLaw {d : Nat} {σ : St} {b : Nat} (hb : Bq b) {s : Nat} {x : Int} (hs : s < 2) : Ct (d) mX0_setLaw [.ref b, vi s, vi x] σ (rv (up σ (b + 13) (0 + s) x)) := by
  refine ct_of hX0_setLaw (Nat.le_of_ble_eq_true rfl) ?_
  refine ev_aload_n eX0_setLaw_0 rfl ?_
  refine ev_getr eX0_setLaw_1 fX0_9 (fcB hb) ?_
  refine ev_iconst eX0_setLaw_4 ?_
  refine ev_iload_n eX0_setLaw_5 rfl ?_
  refine ev_iadd eX0_setLaw_6 ?_
  refine ev_iload_n eX0_setLaw_7 rfl ?_
  refine ev_iast ((0 + s)) eX0_setLaw_8 (akB hb) (by first | rfl | omega) (by omega) ?_
  refine ev_ret eX0_setLaw_9 rfl ?_
  exact ⟨rfl, rfl⟩
set_option maxRecDepth 20000 in
theorem c_setKind {d : Nat} {σ : St} {b : Nat} (hb : Bq b) {s : Nat} {x : Int} (hs : s < 4) : Ct (d) mX0_setKind [.ref b, vi s, vi x] σ (rv (up σ (b + 13) (4 + s) x)) := by
  refine ct_of hX0_setKind (Nat.le_of_ble_eq_true rfl) ?_
  refine ev_aload_n eX0_setKind_0 rfl ?_
  refine ev_getr eX0_setKind_1 fX0_9 (fcB hb) ?_
  refine ev_iconst eX0_setKind_4 ?_
  refine ev_iload_n eX0_setKind_5 rfl ?_
  refine ev_iadd eX0_setKind_6 ?_
  refine ev_iload_n eX0_setKind_7 rfl ?_
  refine ev_iast ((4 + s)) eX0_setKind_8 (akB hb) (by first | rfl | omega) (by omega) ?_
  refine ev_ret eX0_setKind_9 rfl ?_
  exact ⟨rfl, rfl⟩
set_option maxRecDepth 20000 in
theorem c_setPart {d : Nat} {σ : St} {b : Nat} (hb : Bq b) {s v : Nat} {x : Int} (hs : s < 4) (hv : v < 2) : Ct (d) mX0_setPart [.ref b, vi s, vi v, vi x] σ (rv (up σ (b + 13) (8 + 2 * s + v) x)) := by
  refine ct_of hX0_setPart (Nat.le_of_ble_eq_true rfl) ?_
  refine ev_aload_n eX0_setPart_0 rfl ?_
  refine ev_getr eX0_setPart_1 fX0_9 (fcB hb) ?_
  refine ev_bipush eX0_setPart_4 rfl ?_
  refine ev_iconst eX0_setPart_6 ?_
  refine ev_iload_n eX0_setPart_7 rfl ?_
  refine ev_imul eX0_setPart_8 ?_
  refine ev_iadd eX0_setPart_9 ?_
  refine ev_iload_n eX0_setPart_10 rfl ?_
  refine ev_iadd eX0_setPart_11 ?_
  refine ev_iload_n eX0_setPart_12 rfl ?_
  refine ev_iast (((8 + (2 * s)) + v)) eX0_setPart_13 (akB hb) (by first | rfl | omega) (by omega) ?_
  refine ev_ret eX0_setPart_14 rfl ?_
  exact ⟨rfl, rfl⟩
set_option maxRecDepth 20000 in
theorem c_setWordLetter {d : Nat} {σ : St} {b : Nat} (hb : Bq b) {s i : Nat} {x : Int} (hs : s < 4) (hi : i < 4) : Ct (d) mX0_setWordLetter [.ref b, vi s, vi i, vi x] σ (rv (up σ (b + 13) (20 + 4 * s + i) x)) := by
  refine ct_of hX0_setWordLetter (Nat.le_of_ble_eq_true rfl) ?_
  refine ev_aload_n eX0_setWordLetter_0 rfl ?_
  refine ev_getr eX0_setWordLetter_1 fX0_9 (fcB hb) ?_
  refine ev_bipush eX0_setWordLetter_4 rfl ?_
  refine ev_iconst eX0_setWordLetter_6 ?_
  refine ev_iload_n eX0_setWordLetter_7 rfl ?_
  refine ev_imul eX0_setWordLetter_8 ?_
  refine ev_iadd eX0_setWordLetter_9 ?_
  refine ev_iload_n eX0_setWordLetter_10 rfl ?_
  refine ev_iadd eX0_setWordLetter_11 ?_
  refine ev_iload_n eX0_setWordLetter_12 rfl ?_
  refine ev_iast (((20 + (4 * s)) + i)) eX0_setWordLetter_13 (akB hb) (by first | rfl | omega) (by omega) ?_
  refine ev_ret eX0_setWordLetter_14 rfl ?_
  exact ⟨rfl, rfl⟩
set_option maxRecDepth 20000 in
theorem c_setRowLetter {d : Nat} {σ : St} {b : Nat} (hb : Bq b) {i : Nat} {x : Int} (hi : i < 8) : Ct (d) mX0_setRowLetter [.ref b, vi i, vi x] σ (rv (up σ (b + 13) (36 + i) x)) := by
  refine ct_of hX0_setRowLetter (Nat.le_of_ble_eq_true rfl) ?_
  refine ev_aload_n eX0_setRowLetter_0 rfl ?_
  refine ev_getr eX0_setRowLetter_1 fX0_9 (fcB hb) ?_
  refine ev_bipush eX0_setRowLetter_4 rfl ?_
  refine ev_iload_n eX0_setRowLetter_6 rfl ?_
  refine ev_iadd eX0_setRowLetter_7 ?_
  refine ev_iload_n eX0_setRowLetter_8 rfl ?_
  refine ev_iast ((36 + i)) eX0_setRowLetter_9 (akB hb) (by first | rfl | omega) (by omega) ?_
  refine ev_ret eX0_setRowLetter_10 rfl ?_
  exact ⟨rfl, rfl⟩
set_option maxRecDepth 20000 in
theorem c_clearWord {d : Nat} {σ : St} {b : Nat} (hb : Bq b) {s : Nat} (hs : s < 4) : Ct (d) mX0_clearWord [.ref b, vi s] σ (rv (up σ (b + 13) (16 + s) 0)) := by
  refine ct_of hX0_clearWord (Nat.le_of_ble_eq_true rfl) ?_
  refine ev_aload_n eX0_clearWord_0 rfl ?_
  refine ev_getr eX0_clearWord_1 fX0_9 (fcB hb) ?_
  refine ev_bipush eX0_clearWord_4 rfl ?_
  refine ev_iload_n eX0_clearWord_6 rfl ?_
  refine ev_iadd eX0_clearWord_7 ?_
  refine ev_iconst eX0_clearWord_8 ?_
  refine ev_iast ((16 + s)) eX0_clearWord_9 (akB hb) (by first | rfl | omega) (by omega) ?_
  refine ev_ret eX0_clearWord_10 rfl ?_
  exact ⟨rfl, rfl⟩
set_option maxRecDepth 20000 in
theorem c_clearRow {d : Nat} {σ : St} {b : Nat} (hb : Bq b)  : Ct (d) mX0_clearRow [.ref b] σ (rv (up σ (b + 13) 3 0)) := by
  refine ct_of hX0_clearRow (Nat.le_of_ble_eq_true rfl) ?_
  refine ev_aload_n eX0_clearRow_0 rfl ?_
  refine ev_getr eX0_clearRow_1 fX0_9 (fcB hb) ?_
  refine ev_iconst eX0_clearRow_4 ?_
  refine ev_iconst eX0_clearRow_5 ?_
  refine ev_iast (3) eX0_clearRow_6 (akB hb) (by first | rfl | omega) (by omega) ?_
  refine ev_ret eX0_clearRow_7 rfl ?_
  exact ⟨rfl, rfl⟩
set_option maxRecDepth 20000 in
theorem c_leastLaw {d : Nat} {σ : St} {s : Nat} (hs : s < 2) : Ct (d) mX0_leastLaw [vi s] σ (rt (vi s) σ) := by
  refine ct_of hX0_leastLaw (Nat.le_of_ble_eq_true rfl) ?_
  refine ev_iload_n eX0_leastLaw_0 rfl ?_
  refine ev_if_ne 8 eX0_leastLaw_1 rfl (by omega) (fun h1 => ?_) (fun h1 => ?_)
  · skip
    refine ev_iconst eX0_leastLaw_8 ?_
    refine ev_iret eX0_leastLaw_9 rfl ?_
    exact ⟨congrArg (fun q => some (vi q)) (by omega), rfl⟩
  · skip
    refine ev_iconst eX0_leastLaw_4 ?_
    refine ev_goto 9 eX0_leastLaw_5 rfl ?_
    refine ev_iret eX0_leastLaw_9 rfl ?_
    exact ⟨congrArg (fun q => some (vi q)) (by omega), rfl⟩
set_option maxRecDepth 20000 in
theorem c_mostLaw {d : Nat} {σ : St} {s : Nat} (hs : s < 2) : Ct (d) mX0_mostLaw [vi s] σ (rt (vi ((if s = 0 then 3 else 9 : Nat) : Int)) σ) := by
  refine ct_of hX0_mostLaw (Nat.le_of_ble_eq_true rfl) ?_
  refine ev_iload_n eX0_mostLaw_0 rfl ?_
  refine ev_if_ne 8 eX0_mostLaw_1 rfl (by omega) (fun h1 => ?_) (fun h1 => ?_)
  · skip
    refine ev_bipush eX0_mostLaw_8 rfl ?_
    refine ev_iret eX0_mostLaw_10 rfl ?_
    exact ⟨congrArg (fun q => some (vi q)) (by rw [if_neg (by omega)]; rfl), rfl⟩
  · skip
    refine ev_iconst eX0_mostLaw_4 ?_
    refine ev_goto 10 eX0_mostLaw_5 rfl ?_
    refine ev_iret eX0_mostLaw_10 rfl ?_
    exact ⟨congrArg (fun q => some (vi q)) (by rw [if_pos (by omega)]; rfl), rfl⟩
set_option maxRecDepth 20000 in
theorem c_addSort {d : Nat} {σ : St} {b : Nat} (hb : Bq b) {z : Nat} {x : Int} (hz : σ (b + 13) 2 = (z : Int)) (hz4 : z < 4) : Ct (d) mX0_addSort [.ref b, vi x] σ (rt (vi z) (up (up σ (b + 13) 2 ((z : Int) + 1)) (b + 13) (4 + z) x)) := by
  refine ct_of hX0_addSort (Nat.le_of_ble_eq_true rfl) ?_
  refine ev_aload_n eX0_addSort_0 rfl ?_
  refine ev_getr eX0_addSort_1 fX0_9 (fcB hb) ?_
  refine ev_iconst eX0_addSort_4 ?_
  refine ev_ialdv (2) eX0_addSort_5 (akB hb) (by first | rfl | omega) (by omega) hz ?_
  refine ev_istore_n eX0_addSort_6 (by decide) ?_
  refine ev_aload_n eX0_addSort_7 rfl ?_
  refine ev_getr eX0_addSort_8 fX0_9 (fcB hb) ?_
  refine ev_iconst eX0_addSort_11 ?_
  refine ev_iload_n eX0_addSort_12 rfl ?_
  refine ev_iconst eX0_addSort_13 ?_
  refine ev_iadd eX0_addSort_14 ?_
  refine ev_iast (2) eX0_addSort_15 (akB hb) (by first | rfl | omega) (by omega) ?_
  refine ev_aload_n eX0_addSort_16 rfl ?_
  refine ev_getr eX0_addSort_17 fX0_9 (fcB hb) ?_
  refine ev_iconst eX0_addSort_20 ?_
  refine ev_iload_n eX0_addSort_21 rfl ?_
  refine ev_iadd eX0_addSort_22 ?_
  refine ev_iload_n eX0_addSort_23 rfl ?_
  refine ev_iast ((4 + z)) eX0_addSort_24 (akB hb) (by first | rfl | omega) (by omega) ?_
  refine ev_iload_n eX0_addSort_25 rfl ?_
  refine ev_iret eX0_addSort_26 rfl ?_
  exact ⟨rfl, rfl⟩
set_option maxRecDepth 20000 in
theorem c_addToWord {d : Nat} {σ : St} {b : Nat} (hb : Bq b) {s z : Nat} {x : Int} (hs : s < 4) (hz : σ (b + 13) (16 + s) = (z : Int)) (hz4 : z < 4) : Ct (d + 1) mX0_addToWord [.ref b, vi s, vi x] σ (rv (up (up σ (b + 13) (20 + 4 * s + z) x) (b + 13) (16 + s) ((z : Int) + 1))) := by
  refine ct_of hX0_addToWord (Nat.le_of_ble_eq_true rfl) ?_
  refine ev_aload_n eX0_addToWord_0 rfl ?_
  refine ev_getr eX0_addToWord_1 fX0_9 (fcB hb) ?_
  refine ev_bipush eX0_addToWord_4 rfl ?_
  refine ev_iload_n eX0_addToWord_6 rfl ?_
  refine ev_iadd eX0_addToWord_7 ?_
  refine ev_ialdv ((16 + s)) eX0_addToWord_8 (akB hb) (by first | rfl | omega) (by omega) hz ?_
  refine ev_istore_n eX0_addToWord_9 (by decide) ?_
  refine ev_iload_n eX0_addToWord_10 rfl ?_
  refine ev_iconst eX0_addToWord_11 ?_
  refine ev_icmp_lt 16 eX0_addToWord_12 rfl (by omega) (by omega) (fun h12 => ?_) (fun h12 => False.elim (by omega))
  refine ev_aload_n eX0_addToWord_16 rfl ?_
  refine ev_iload_n eX0_addToWord_17 rfl ?_
  refine ev_iload_n eX0_addToWord_18 rfl ?_
  refine ev_iload_n eX0_addToWord_19 rfl ?_
  refine ev_cV3 eX0_addToWord_20 ⟨lX0_33, kX0_setWordLetter⟩ (ocB hb) rfl (c_setWordLetter hb hs hz4) ?_
  rintro _ _ ⟨rfl, rfl⟩
  refine ev_aload_n eX0_addToWord_23 rfl ?_
  refine ev_getr eX0_addToWord_24 fX0_9 (fcB hb) ?_
  refine ev_bipush eX0_addToWord_27 rfl ?_
  refine ev_iload_n eX0_addToWord_29 rfl ?_
  refine ev_iadd eX0_addToWord_30 ?_
  refine ev_iload_n eX0_addToWord_31 rfl ?_
  refine ev_iconst eX0_addToWord_32 ?_
  refine ev_iadd eX0_addToWord_33 ?_
  refine ev_iast ((16 + s)) eX0_addToWord_34 (akB hb) (by first | rfl | omega) (by omega) ?_
  refine ev_ret eX0_addToWord_35 rfl ?_
  exact ⟨rfl, rfl⟩
set_option maxRecDepth 20000 in
theorem c_addToRow {d : Nat} {σ : St} {b : Nat} (hb : Bq b) {z : Nat} {x : Int} (hz : σ (b + 13) 3 = (z : Int)) (hz8 : z < 8) : Ct (d + 1) mX0_addToRow [.ref b, vi x] σ (rv (up (up σ (b + 13) (36 + z) x) (b + 13) 3 ((z : Int) + 1))) := by
  refine ct_of hX0_addToRow (Nat.le_of_ble_eq_true rfl) ?_
  refine ev_aload_n eX0_addToRow_0 rfl ?_
  refine ev_getr eX0_addToRow_1 fX0_9 (fcB hb) ?_
  refine ev_iconst eX0_addToRow_4 ?_
  refine ev_ialdv (3) eX0_addToRow_5 (akB hb) (by first | rfl | omega) (by omega) hz ?_
  refine ev_istore_n eX0_addToRow_6 (by decide) ?_
  refine ev_iload_n eX0_addToRow_7 rfl ?_
  refine ev_bipush eX0_addToRow_8 rfl ?_
  refine ev_icmp_lt 14 eX0_addToRow_10 rfl (by omega) (by omega) (fun h10 => ?_) (fun h10 => False.elim (by omega))
  refine ev_aload_n eX0_addToRow_14 rfl ?_
  refine ev_iload_n eX0_addToRow_15 rfl ?_
  refine ev_iload_n eX0_addToRow_16 rfl ?_
  refine ev_cV2 eX0_addToRow_17 ⟨lX0_58, kX0_setRowLetter⟩ (ocB hb) rfl (c_setRowLetter hb hz8) ?_
  rintro _ _ ⟨rfl, rfl⟩
  refine ev_aload_n eX0_addToRow_20 rfl ?_
  refine ev_getr eX0_addToRow_21 fX0_9 (fcB hb) ?_
  refine ev_iconst eX0_addToRow_24 ?_
  refine ev_iload_n eX0_addToRow_25 rfl ?_
  refine ev_iconst eX0_addToRow_26 ?_
  refine ev_iadd eX0_addToRow_27 ?_
  refine ev_iast (3) eX0_addToRow_28 (akB hb) (by first | rfl | omega) (by omega) ?_
  refine ev_ret eX0_addToRow_29 rfl ?_
  exact ⟨rfl, rfl⟩
set_option maxRecDepth 20000 in
theorem c_takeAll_ {d : Nat} {σ : St} {b : Nat} (hb : Bq b) {k n0 sp : Nat} (hk : ak k = some (1, n0)) (hsp : sp + 44 ≤ n0) : Ct (d + 1) mX0_takeAll_ [.ref b, .ref k, vi sp] σ (rv (upA σ (b + 13) (cpF (σ k) (σ (b + 13)) sp 0 44))) := by
  refine ct_of hX0_takeAll_ (Nat.le_of_ble_eq_true rfl) ?_
  refine ev_aload_n eX0_takeAll__0 rfl ?_
  refine ev_iload_n eX0_takeAll__1 rfl ?_
  refine ev_aload_n eX0_takeAll__2 rfl ?_
  refine ev_getr eX0_takeAll__3 fX0_9 (fcB hb) ?_
  refine ev_iconst eX0_takeAll__6 ?_
  refine ev_bipush eX0_takeAll__7 rfl ?_
  refine ev_acpi (sp) (0) (44) eX0_takeAll__9 lX0_17 hk (akB hb) (by first | rfl | omega) (by first | rfl | omega) (by first | rfl | omega) (by omega) (by omega) (Nat.le_of_ble_eq_true rfl) ?_
  refine ev_ret eX0_takeAll__12 rfl ?_
  exact ⟨rfl, rfl⟩
set_option maxRecDepth 20000 in
theorem c_putAll {d : Nat} {σ : St} {b : Nat} (hb : Bq b) {k n0 sp : Nat} (hk : ak k = some (1, n0)) (hsp : sp + 44 ≤ n0) : Ct (d + 1) mX0_putAll [.ref b, .ref k, vi sp] σ (rv (upA σ k (cpF (σ (b + 13)) (σ k) 0 sp 44))) := by
  refine ct_of hX0_putAll (Nat.le_of_ble_eq_true rfl) ?_
  refine ev_aload_n eX0_putAll_0 rfl ?_
  refine ev_getr eX0_putAll_1 fX0_9 (fcB hb) ?_
  refine ev_iconst eX0_putAll_4 ?_
  refine ev_aload_n eX0_putAll_5 rfl ?_
  refine ev_iload_n eX0_putAll_6 rfl ?_
  refine ev_bipush eX0_putAll_7 rfl ?_
  refine ev_acpi (0) (sp) (44) eX0_putAll_9 lX0_17 (akB hb) hk (by first | rfl | omega) (by first | rfl | omega) (by first | rfl | omega) (by omega) (by omega) (Nat.le_of_ble_eq_true rfl) ?_
  refine ev_ret eX0_putAll_12 rfl ?_
  exact ⟨rfl, rfl⟩
set_option maxRecDepth 20000 in
theorem c_takeAll {d : Nat} {σ : St} {b : Nat} (hb : Bq b) {o : Nat} (ho : Bq o) : Ct (d + 2) mX0_takeAll [.ref b, .ref o] σ (rv (upA σ (b + 13) (cpF (σ (o + 13)) (σ (b + 13)) 0 0 44))) := by
  refine ct_of hX0_takeAll (Nat.le_of_ble_eq_true rfl) ?_
  refine ev_aload_n eX0_takeAll_0 rfl ?_
  refine ev_aload_n eX0_takeAll_1 rfl ?_
  refine ev_getr eX0_takeAll_2 fX0_9 (fcB ho) ?_
  refine ev_iconst eX0_takeAll_5 ?_
  refine ev_cV2 eX0_takeAll_6 ⟨lX0_13, kX0_takeAll_⟩ (ocB hb) rfl (c_takeAll_ hb (akB ho) (sp := 0) (by decide)) ?_
  rintro _ _ ⟨rfl, rfl⟩
  refine ev_ret eX0_takeAll_9 rfl ?_
  exact ⟨rfl, rfl⟩
set_option maxRecDepth 20000 in
theorem c_clear_l {d : Nat} {σ : St} {b : Nat} (hb : Bq b)  : ∀ (fu : Nat) {i : Nat} {τ : St}, 44 - i < fu → i ≤ 44 → (∀ j, j < i → τ (b + 13) j = 0) → (∀ k, k ≠ b + 13 → τ k = σ k) → Ev (d) mX0_clear 2 [.ref b, vi i] [] τ (fun r τ => none = r ∧ (∀ j, j < 44 → τ (b + 13) j = 0) ∧ ∀ k, k ≠ b + 13 → τ k = σ k) := by
  intro fu
  induction fu with
  | zero => intros; omega
  | succ fu ih =>
    intro i τ hn h0 h1 h2
    refine ev_iload_n eX0_clear_2 rfl ?_
    refine ev_bipush eX0_clear_3 rfl ?_
    refine ev_icmp_ge 21 eX0_clear_5 rfl (by omega) (by omega) (fun h5 => ?_) (fun h5 => ?_)
    · skip
      refine ev_ret eX0_clear_21 rfl ?_
      exact ⟨rfl, fun j hj => h1 j (by omega), h2⟩
    · skip
      refine ev_aload_n eX0_clear_8 rfl ?_
      refine ev_getr eX0_clear_9 fX0_9 (fcB hb) ?_
      refine ev_iload_n eX0_clear_12 rfl ?_
      refine ev_iconst eX0_clear_13 ?_
      refine ev_iast (i) eX0_clear_14 (akB hb) (by first | rfl | omega) (by omega) ?_
      refine ev_iinc eX0_clear_15 rfl (by decide) ?_
      refine ev_goto 2 eX0_clear_18 rfl ?_
      refine ih (i := i + 1) (by omega) (by omega) (fun j hj => ?_) (fun k hk => by rw [up_o _ _ _ hk]; exact h2 k hk)
      by_cases e : j = i
      · subst e; exact up_s _ _ _ _
      · rw [up_n _ _ e]; exact h1 j (by omega)
set_option maxRecDepth 20000 in
theorem c_clear {d : Nat} {σ : St} {b : Nat} (hb : Bq b)  : Ct (d) mX0_clear [.ref b] σ (fun r τ => none = r ∧ (∀ j, j < 44 → τ (b + 13) j = 0) ∧ ∀ k, k ≠ b + 13 → τ k = σ k) := by
  refine ct_of hX0_clear (Nat.le_of_ble_eq_true rfl) ?_
  refine ev_iconst eX0_clear_0 ?_
  refine ev_istore_n eX0_clear_1 (by decide) ?_
  exact c_clear_l hb 45 (i := 0) (by omega) (by omega) (fun j hj => by omega) (fun k _ => rfl)
set_option maxRecDepth 20000 in
theorem c_times_l {d : Nat} {σ : St} {b : Nat} {B : Bok} (hb : Bq b) (hB : BkC σ (b + 13) B) (hf : Wf B) {s x : Nat} (hs : s < 4) (hx : x < 1000) : ∀ (fu : Nat) {i t : Nat}, im B s - i < fu → i ≤ im B s → t = cntF (il B s) x i → Ev (d + 2) mX0_timesInImage 5 [.ref b, vi s, vi x, vi t, vi i] [] σ (rt (vi (cntF (il B s) x (im B s))) σ) := by
  intro fu
  induction fu with
  | zero => intros; omega
  | succ fu ih =>
    intro i t hn h1 h2
    have h4 := im_le hf hs
    have h9 := cntF_le (il B s) x i
    refine ev_iload eX0_timesInImage_5 rfl ?_
    refine ev_aload_n eX0_timesInImage_7 rfl ?_
    refine ev_iload_n eX0_timesInImage_8 rfl ?_
    refine ev_cV1 eX0_timesInImage_9 ⟨lX0_43, kX0_imageSize⟩ (ocB hb) rfl (c_imageSize hb hB hf.1 hs) ?_
    rintro _ _ ⟨rfl, rfl⟩
    refine ev_icmp_ge 35 eX0_timesInImage_12 rfl (by omega) (by omega) (fun h12 => ?_) (fun h12 => ?_)
    · skip
      refine ev_iload_n eX0_timesInImage_35 rfl ?_
      refine ev_iret eX0_timesInImage_36 rfl ?_
      exact ⟨congrArg (fun q => some (vi q)) (by rw [h2, show i = im B s by omega]), rfl⟩
    · skip
      refine ev_aload_n eX0_timesInImage_15 rfl ?_
      refine ev_iload_n eX0_timesInImage_16 rfl ?_
      refine ev_iload eX0_timesInImage_17 rfl ?_
      refine ev_cV2 eX0_timesInImage_19 ⟨lX0_46, kX0_imageLetter⟩ (ocB hb) rfl (c_imageLetter hb hB hf.1 hs (i := i) (by omega) (hf.2.2.2.1 s hs)) ?_
      rintro _ _ ⟨rfl, rfl⟩
      have hq := il_lt hf hs (i := i) (by omega)
      refine ev_iload_n eX0_timesInImage_22 rfl ?_
      refine ev_icmp_ne 29 eX0_timesInImage_23 rfl (by omega) (by omega) (fun h23 => ?_) (fun h23 => ?_)
      · skip
        refine ev_iinc eX0_timesInImage_29 rfl (by decide) ?_
        refine ev_goto 5 eX0_timesInImage_32 rfl ?_
        exact ih (i := i + 1) (by omega) (by omega) (by unfold cntF; split <;> omega)
      · skip
        refine ev_iinc eX0_timesInImage_26 rfl (by decide) ?_
        refine ev_iinc eX0_timesInImage_29 rfl (by decide) ?_
        refine ev_goto 5 eX0_timesInImage_32 rfl ?_
        exact ih (i := i + 1) (by omega) (by omega) (by unfold cntF; split <;> omega)
set_option maxRecDepth 20000 in
theorem c_times {d : Nat} {σ : St} {b : Nat} {B : Bok} (hb : Bq b) (hB : BkC σ (b + 13) B) (hf : Wf B) {s x : Nat} (hs : s < 4) (hx : x < 1000) : Ct (d + 2) mX0_timesInImage [.ref b, vi s, vi x] σ (rt (vi (cntF (il B s) x (im B s))) σ) := by
  refine ct_of hX0_timesInImage (Nat.le_of_ble_eq_true rfl) ?_
  refine ev_iconst eX0_timesInImage_0 ?_
  refine ev_istore_n eX0_timesInImage_1 (by decide) ?_
  refine ev_iconst eX0_timesInImage_2 ?_
  refine ev_istore eX0_timesInImage_3 (by decide) ?_
  exact c_times_l hb hB hf hs hx 5 (i := 0) (t := 0) (by have := im_le hf hs; omega) (by omega) rfl
set_option maxRecDepth 20000 in
theorem c_imlen_l {d : Nat} {σ : St} {b : Nat} {B : Bok} (hb : Bq b) (hB : BkC σ (b + 13) B) (hf : Wf B) {s v : Nat} (hs : s < 4) (hv : v < 2) : ∀ (fu : Nat) {i t : Nat}, im B s - i < fu → i ≤ im B s → t = sumF (fun j => ln B (il B s j) v) i → Ev (d + 2) mX0_imageLength 5 [.ref b, vi s, vi v, vi t, vi i] [] σ (rt (vi (sumF (fun j => ln B (il B s j) v) (im B s))) σ) := by
  intro fu
  induction fu with
  | zero => intros; omega
  | succ fu ih =>
    intro i t hn h1 h2
    have h4 := im_le hf hs
    refine ev_iload eX0_imageLength_5 rfl ?_
    refine ev_aload_n eX0_imageLength_7 rfl ?_
    refine ev_iload_n eX0_imageLength_8 rfl ?_
    refine ev_cV1 eX0_imageLength_9 ⟨lX0_43, kX0_imageSize⟩ (ocB hb) rfl (c_imageSize hb hB hf.1 hs) ?_
    rintro _ _ ⟨rfl, rfl⟩
    refine ev_icmp_ge 36 eX0_imageLength_12 rfl (by omega) (by omega) (fun h12 => ?_) (fun h12 => ?_)
    · skip
      refine ev_iload_n eX0_imageLength_36 rfl ?_
      refine ev_iret eX0_imageLength_37 rfl ?_
      exact ⟨congrArg (fun q => some (vi q)) (by rw [h2, show i = im B s by omega]), rfl⟩
    · skip
      refine ev_iload_n eX0_imageLength_15 rfl ?_
      refine ev_aload_n eX0_imageLength_16 rfl ?_
      refine ev_aload_n eX0_imageLength_17 rfl ?_
      refine ev_iload_n eX0_imageLength_18 rfl ?_
      refine ev_iload eX0_imageLength_19 rfl ?_
      refine ev_cV2 eX0_imageLength_21 ⟨lX0_46, kX0_imageLetter⟩ (ocB hb) rfl (c_imageLetter hb hB hf.1 hs (i := i) (by omega) (hf.2.2.2.1 s hs)) ?_
      rintro _ _ ⟨rfl, rfl⟩
      have hq := il_lt hf hs (i := i) (by omega)
      refine ev_iload_n eX0_imageLength_24 rfl ?_
      refine ev_cV2 eX0_imageLength_25 ⟨lX0_49, kX0_lengthOf⟩ (ocB hb) rfl (c_lengthOf hb hB hf.1 hq hv) ?_
      rintro _ _ ⟨rfl, rfl⟩
      refine ev_iadd eX0_imageLength_28 ?_
      refine ev_istore_n eX0_imageLength_29 (by decide) ?_
      refine ev_iinc eX0_imageLength_30 rfl (by decide) ?_
      refine ev_goto 5 eX0_imageLength_33 rfl ?_
      exact ih (i := i + 1) (t := t + ln B (il B s i) v) (by omega) (by omega) (by unfold sumF; omega)
set_option maxRecDepth 20000 in
theorem c_imlen {d : Nat} {σ : St} {b : Nat} {B : Bok} (hb : Bq b) (hB : BkC σ (b + 13) B) (hf : Wf B) {s v : Nat} (hs : s < 4) (hv : v < 2) : Ct (d + 2) mX0_imageLength [.ref b, vi s, vi v] σ (rt (vi (sumF (fun j => ln B (il B s j) v) (im B s))) σ) := by
  refine ct_of hX0_imageLength (Nat.le_of_ble_eq_true rfl) ?_
  refine ev_iconst eX0_imageLength_0 ?_
  refine ev_istore_n eX0_imageLength_1 (by decide) ?_
  refine ev_iconst eX0_imageLength_2 ?_
  refine ev_istore eX0_imageLength_3 (by decide) ?_
  exact c_imlen_l hb hB hf hs hv 5 (i := 0) (t := 0) (by have := im_le hf hs; omega) (by omega) rfl
set_option maxRecDepth 20000 in
theorem c_letw_l {d : Nat} {σ : St} {b : Nat} {B : Bok} (hb : Bq b) (hB : BkC σ (b + 13) B) (hf : Wf B)  : ∀ (fu : Nat) {i t : Nat}, B 2 - i < fu → i ≤ B 2 → t = sumF (ws B) i → Ev (d + 1) mX0_lettersOfWords 4 [.ref b, vi t, vi i] [] σ (rt (vi (sumF (ws B) (B 2))) σ) := by
  intro fu
  induction fu with
  | zero => intros; omega
  | succ fu ih =>
    intro i t hn h1 h2
    have h4 := hf.2.1
    refine ev_iload_n eX0_lettersOfWords_4 rfl ?_
    refine ev_aload_n eX0_lettersOfWords_5 rfl ?_
    refine ev_getr eX0_lettersOfWords_6 fX0_9 (fcB hb) ?_
    refine ev_iconst eX0_lettersOfWords_9 ?_
    refine ev_ialdv (2) eX0_lettersOfWords_10 (akB hb) (by first | rfl | omega) (by omega) (hB _ (by omega)) ?_
    refine ev_icmp_ge 28 eX0_lettersOfWords_11 rfl (by omega) (by omega) (fun h11 => ?_) (fun h11 => ?_)
    · skip
      refine ev_iload_n eX0_lettersOfWords_28 rfl ?_
      refine ev_iret eX0_lettersOfWords_29 rfl ?_
      exact ⟨congrArg (fun q => some (vi q)) (by rw [h2, show i = B 2 by omega]), rfl⟩
    · skip
      refine ev_iload_n eX0_lettersOfWords_14 rfl ?_
      refine ev_aload_n eX0_lettersOfWords_15 rfl ?_
      refine ev_iload_n eX0_lettersOfWords_16 rfl ?_
      refine ev_cV1 eX0_lettersOfWords_17 ⟨lX0_37, kX0_wordSize⟩ (ocB hb) rfl (c_wordSize hb hB hf.1 (s := i) (by omega)) ?_
      rintro _ _ ⟨rfl, rfl⟩
      refine ev_iadd eX0_lettersOfWords_20 ?_
      refine ev_istore_n eX0_lettersOfWords_21 (by decide) ?_
      refine ev_iinc eX0_lettersOfWords_22 rfl (by decide) ?_
      refine ev_goto 4 eX0_lettersOfWords_25 rfl ?_
      exact ih (i := i + 1) (t := t + ws B i) (by omega) (by omega) (by unfold sumF; omega)
set_option maxRecDepth 20000 in
theorem c_letw {d : Nat} {σ : St} {b : Nat} {B : Bok} (hb : Bq b) (hB : BkC σ (b + 13) B) (hf : Wf B)  : Ct (d + 1) mX0_lettersOfWords [.ref b] σ (rt (vi (sumF (ws B) (B 2))) σ) := by
  refine ct_of hX0_lettersOfWords (Nat.le_of_ble_eq_true rfl) ?_
  refine ev_iconst eX0_lettersOfWords_0 ?_
  refine ev_istore_n eX0_lettersOfWords_1 (by decide) ?_
  refine ev_iconst eX0_lettersOfWords_2 ?_
  refine ev_istore_n eX0_lettersOfWords_3 (by decide) ?_
  exact c_letw_l hb hB hf 5 (i := 0) (t := 0) (by have := hf.2.1; omega) (by omega) rfl
/-- the lengths of all images are s and t R times those of their sorts -/
def imL (B : Bok) (x v : Nat) : Nat := sumF (fun j => ln B (il B x j) v) (im B x)
def ScX (B : Bok) (s t x : Nat) : Prop := imL B x 0 = s * ln B x 0 + t * ln B x 1 * B (0 + 1) ∧ imL B x 1 = s * ln B x 1 + t * ln B x 0 + t * ln B x 1 * B (0 + 0)
/-- the boolean of a Prop, decided or not -/
noncomputable abbrev bC (P : Prop) : Int := @bI P (Classical.propDecidable P)
def Sc (B : Bok) (s t : Nat) : Prop := ∀ x, x < B 2 → ScX B s t x
theorem imL_le {B : Bok} (h : Wf B) {x v : Nat} (hx : x < 4) (hv : v < 2) : imL B x v ≤ 72 := by
  have h1 := im_le h hx
  have h2 : imL B x v ≤ im B x * 18 := sumF_le (fun i hi => ln_le h (il_lt h hx hi) hv)
  omega
theorem mul_le {a b m n : Nat} (h1 : a ≤ m) (h2 : b ≤ n) : a * b ≤ m * n := Nat.mul_le_mul h1 h2
set_option maxRecDepth 20000 in
theorem c_scales_l {d : Nat} {σ : St} {b : Nat} {B : Bok} (hb : Bq b) (hB : BkC σ (b + 13) B) (hf : Wf B) {s t : Nat} (hs : s ≤ 9) (ht : t ≤ 9)  : ∀ (fu : Nat) {x : Nat} {lv5 lv6 : Value}, B 2 - x < fu → x ≤ B 2 → (∀ q, q < x → ScX B s t q) → Ev (d + 3) mX0_scalesBy 2 [.ref b, vi s, vi t, vi x, lv5, lv6] [] σ (rt (vi (bC (Sc B s t))) σ) := by
  intro fu
  induction fu with
  | zero => intros; omega
  | succ fu ih =>
    intro x lv5 lv6 hn h1 h2
    have h4 := hf.2.1
    refine ev_iload_n eX0_scalesBy_2 rfl ?_
    refine ev_aload_n eX0_scalesBy_3 rfl ?_
    refine ev_getr eX0_scalesBy_4 fX0_9 (fcB hb) ?_
    refine ev_iconst eX0_scalesBy_7 ?_
    refine ev_ialdv (2) eX0_scalesBy_8 (akB hb) (by first | rfl | omega) (by omega) (hB _ (by omega)) ?_
    refine ev_icmp_ge 91 eX0_scalesBy_9 rfl (by omega) (by omega) (fun h9 => ?_) (fun h9 => ?_)
    · skip
      refine ev_iconst eX0_scalesBy_91 ?_
      refine ev_zret eX0_scalesBy_92 rfl (by first | exact Or.inl rfl | exact Or.inr rfl | exact bI01 _) ?_
      exact ⟨congrArg (fun q => some (vi q)) (bI_t (fun q hq => h2 q (by omega))), rfl⟩
    · skip
      have l0 := ln_le hf (s := x) (v := 0) (by omega) (by omega)
      have l1 := ln_le hf (s := x) (v := 1) (by omega) (by omega)
      have i0 := imL_le hf (x := x) (v := 0) (by omega) (by omega)
      have i1 := imL_le hf (x := x) (v := 1) (by omega) (by omega)
      have m1 := mul_le hs l0
      have m2 := mul_le hs l1
      have m3 := mul_le ht l0
      have m4 := mul_le ht l1
      have m5 := mul_le m4 (show B (0 + 1) ≤ 9 from hf.2.2.2.2.2.2.2.1)
      have m6 := mul_le m4 (show B (0 + 0) ≤ 9 from hf.2.2.2.2.2.2.1)
      refine ev_aload_n eX0_scalesBy_12 rfl ?_
      refine ev_iload_n eX0_scalesBy_13 rfl ?_
      refine ev_iconst eX0_scalesBy_14 ?_
      refine ev_cV2 eX0_scalesBy_15 ⟨lX0_49, kX0_lengthOf⟩ (ocB hb) rfl (c_lengthOf hb hB hf.1 (s := x) (by omega) (w := 0) (by omega)) ?_
      rintro _ _ ⟨rfl, rfl⟩
      refine ev_istore eX0_scalesBy_18 (by decide) ?_
      refine ev_aload_n eX0_scalesBy_20 rfl ?_
      refine ev_iload_n eX0_scalesBy_21 rfl ?_
      refine ev_iconst eX0_scalesBy_22 ?_
      refine ev_cV2 eX0_scalesBy_23 ⟨lX0_49, kX0_lengthOf⟩ (ocB hb) rfl (c_lengthOf hb hB hf.1 (s := x) (by omega) (w := 1) (by omega)) ?_
      rintro _ _ ⟨rfl, rfl⟩
      refine ev_istore eX0_scalesBy_26 (by decide) ?_
      refine ev_aload_n eX0_scalesBy_28 rfl ?_
      refine ev_iload_n eX0_scalesBy_29 rfl ?_
      refine ev_iconst eX0_scalesBy_30 ?_
      refine ev_cV2 eX0_scalesBy_31 ⟨lX0_52, kX0_imageLength⟩ (ocB hb) rfl (c_imlen hb hB hf (s := x) (by omega) (v := 0) (by omega)) ?_
      rintro _ _ ⟨rfl, rfl⟩
      refine ev_iload_n eX0_scalesBy_34 rfl ?_
      refine ev_iload eX0_scalesBy_35 rfl ?_
      refine ev_imul eX0_scalesBy_37 ?_
      refine ev_iload_n eX0_scalesBy_38 rfl ?_
      refine ev_iload eX0_scalesBy_39 rfl ?_
      refine ev_imul eX0_scalesBy_41 ?_
      refine ev_aload_n eX0_scalesBy_42 rfl ?_
      refine ev_iconst eX0_scalesBy_43 ?_
      refine ev_cV1 eX0_scalesBy_44 ⟨lX0_55, kX0_law⟩ (ocB hb) rfl (c_law hb hB hf.1 (s := 1) (by omega)) ?_
      rintro _ _ ⟨rfl, rfl⟩
      refine ev_imul eX0_scalesBy_47 ?_
      refine ev_iadd eX0_scalesBy_48 ?_
      show Ev _ _ _ _ [_, vi (imL B x 0)] _ _
      rw [show ((s : Int) * (ln B x 0 : Int) + (t : Int) * (ln B x 1 : Int) * (B (0 + 1) : Int)) = ((s * ln B x 0 + t * ln B x 1 * B (0 + 1) : Nat) : Int) by push_cast; rfl]
      refine ev_icmp_eq 54 eX0_scalesBy_49 rfl (by omega) (by omega) (fun h49 => ?_) (fun h49 => ?_)
      · skip
        refine ev_aload_n eX0_scalesBy_54 rfl ?_
        refine ev_iload_n eX0_scalesBy_55 rfl ?_
        refine ev_iconst eX0_scalesBy_56 ?_
        refine ev_cV2 eX0_scalesBy_57 ⟨lX0_52, kX0_imageLength⟩ (ocB hb) rfl (c_imlen hb hB hf (s := x) (by omega) (v := 1) (by omega)) ?_
        rintro _ _ ⟨rfl, rfl⟩
        refine ev_iload_n eX0_scalesBy_60 rfl ?_
        refine ev_iload eX0_scalesBy_61 rfl ?_
        refine ev_imul eX0_scalesBy_63 ?_
        refine ev_iload_n eX0_scalesBy_64 rfl ?_
        refine ev_iload eX0_scalesBy_65 rfl ?_
        refine ev_imul eX0_scalesBy_67 ?_
        refine ev_iadd eX0_scalesBy_68 ?_
        refine ev_iload_n eX0_scalesBy_69 rfl ?_
        refine ev_iload eX0_scalesBy_70 rfl ?_
        refine ev_imul eX0_scalesBy_72 ?_
        refine ev_aload_n eX0_scalesBy_73 rfl ?_
        refine ev_iconst eX0_scalesBy_74 ?_
        refine ev_cV1 eX0_scalesBy_75 ⟨lX0_55, kX0_law⟩ (ocB hb) rfl (c_law hb hB hf.1 (s := 0) (by omega)) ?_
        rintro _ _ ⟨rfl, rfl⟩
        refine ev_imul eX0_scalesBy_78 ?_
        refine ev_iadd eX0_scalesBy_79 ?_
        show Ev _ _ _ _ [_, vi (imL B x 1)] _ _
        rw [show ((s : Int) * (ln B x 1 : Int) + (t : Int) * (ln B x 0 : Int) + (t : Int) * (ln B x 1 : Int) * (B (0 + 0) : Int)) = ((s * ln B x 1 + t * ln B x 0 + t * ln B x 1 * B (0 + 0) : Nat) : Int) by push_cast; rfl]
        refine ev_icmp_eq 85 eX0_scalesBy_80 rfl (by omega) (by omega) (fun h80 => ?_) (fun h80 => ?_)
        · skip
          refine ev_iinc eX0_scalesBy_85 rfl (by decide) ?_
          refine ev_goto 2 eX0_scalesBy_88 rfl ?_
          refine ih (x := x + 1) (by omega) (by omega) (fun q hq => ?_)
          by_cases e : q = x
          · subst e; exact ⟨by omega, by omega⟩
          · exact h2 q (by omega)
        · skip
          refine ev_iconst eX0_scalesBy_83 ?_
          refine ev_zret eX0_scalesBy_84 rfl (by first | exact Or.inl rfl | exact Or.inr rfl | exact bI01 _) ?_
          exact ⟨congrArg (fun q => some (vi q)) (bI_f (fun q => h80 (by have := (q x (by omega)).2; omega))), rfl⟩
      · skip
        refine ev_iconst eX0_scalesBy_52 ?_
        refine ev_zret eX0_scalesBy_53 rfl (by first | exact Or.inl rfl | exact Or.inr rfl | exact bI01 _) ?_
        exact ⟨congrArg (fun q => some (vi q)) (bI_f (fun q => h49 (by have := (q x (by omega)).1; omega))), rfl⟩
set_option maxRecDepth 20000 in
theorem c_scales {d : Nat} {σ : St} {b : Nat} {B : Bok} (hb : Bq b) (hB : BkC σ (b + 13) B) (hf : Wf B) {s t : Nat} (hs : s ≤ 9) (ht : t ≤ 9) : Ct (d + 3) mX0_scalesBy [.ref b, vi s, vi t] σ (rt (vi (bC (Sc B s t))) σ) := by
  refine ct_of hX0_scalesBy (Nat.le_of_ble_eq_true rfl) ?_
  refine ev_iconst eX0_scalesBy_0 ?_
  refine ev_istore_n eX0_scalesBy_1 (by decide) ?_
  exact c_scales_l hb hB hf hs ht 5 (x := 0) (by have := hf.2.1; omega) (by omega) (fun q hq => by omega)
def Pall (B : Bok) : Prop := (∀ s, s < B 2 → ∀ i, i < ws B s → wd B s i < B 2) ∧ ∀ i, i < B 3 → rw_ B i < B 2
set_option maxRecDepth 20000 in
theorem c_hasall_in {d : Nat} {σ : St} {b : Nat} {B : Bok} (hb : Bq b) (hB : BkC σ (b + 13) B) (hf : Wf B) {i : Nat} (hi : i < B 2) {post : Option Value → St → Prop} (hk : (∀ j, j < ws B i → wd B i j < B 2) → Ev (d + 1) mX0_hasAllSortsItNames 44 [.ref b, vi i, vi (ws B i)] [] σ post) (hbad : ¬ Pall B → post (some (vi 0)) σ) : ∀ (fu : Nat) {j : Nat}, ws B i - j < fu → j ≤ ws B i → (∀ q, q < j → wd B i q < B 2) → Ev (d + 1) mX0_hasAllSortsItNames 14 [.ref b, vi i, vi j] [] σ (post) := by
  intro fu
  induction fu with
  | zero => intros; omega
  | succ fu ih =>
    intro j hn h1 h2
    have h4 := hf.2.1
    have h5 := hf.2.2.2.1 i (by omega)
    refine ev_iload_n eX0_hasAllSortsItNames_14 rfl ?_
    refine ev_aload_n eX0_hasAllSortsItNames_15 rfl ?_
    refine ev_iload_n eX0_hasAllSortsItNames_16 rfl ?_
    refine ev_cV1 eX0_hasAllSortsItNames_17 ⟨lX0_37, kX0_wordSize⟩ (ocB hb) rfl (c_wordSize hb hB hf.1 (s := i) (by omega)) ?_
    rintro _ _ ⟨rfl, rfl⟩
    refine ev_icmp_ge 44 eX0_hasAllSortsItNames_20 rfl (by omega) (by omega) (fun h20 => ?_) (fun h20 => ?_)
    · skip
      obtain rfl : j = ws B i := by omega
      exact hk h2
    · skip
      refine ev_aload_n eX0_hasAllSortsItNames_23 rfl ?_
      refine ev_aload_n eX0_hasAllSortsItNames_24 rfl ?_
      refine ev_iload_n eX0_hasAllSortsItNames_25 rfl ?_
      refine ev_iload_n eX0_hasAllSortsItNames_26 rfl ?_
      refine ev_cV2 eX0_hasAllSortsItNames_27 ⟨lX0_40, kX0_wordLetter⟩ (ocB hb) rfl (c_wordLetter hb hB hf.1 (s := i) (i := j) (by omega) (by omega)) ?_
      rintro _ _ ⟨rfl, rfl⟩
      have hq := hf.2.2.2.2.2.2.2.2.1 i j (by omega) (by omega)
      refine ev_cV1 eX0_hasAllSortsItNames_30 ⟨lX0_62, kX0_hasSort⟩ (ocB hb) rfl (c_hasSort hb hB hf.1 (x := (wd B i j : Nat)) (by omega)) ?_
      rintro _ _ ⟨rfl, rfl⟩
      refine ev_ifb_ne 38 eX0_hasAllSortsItNames_33 rfl (fun h33 => ?_) (fun h33 => ?_)
      · skip
        refine ev_iinc eX0_hasAllSortsItNames_38 rfl (by decide) ?_
        refine ev_goto 14 eX0_hasAllSortsItNames_41 rfl ?_
        refine ih (j := j + 1) (by omega) (by omega) (fun q hq => ?_)
        by_cases e : q = j
        · subst e; omega
        · exact h2 q (by omega)
      · skip
        refine ev_iconst eX0_hasAllSortsItNames_36 ?_
        refine ev_zret eX0_hasAllSortsItNames_37 rfl (by first | exact Or.inl rfl | exact Or.inr rfl | exact bI01 _) ?_
        exact hbad (fun q => h33 ⟨by omega, by have := q.1 i hi j (by omega); omega⟩)
set_option maxRecDepth 20000 in
theorem c_hasall_l2 {d : Nat} {σ : St} {b : Nat} {B : Bok} (hb : Bq b) (hB : BkC σ (b + 13) B) (hf : Wf B) {v : Value} (hW : ∀ s, s < B 2 → ∀ i, i < ws B s → wd B s i < B 2) : ∀ (fu : Nat) {i : Nat}, B 3 - i < fu → i ≤ B 3 → (∀ q, q < i → rw_ B q < B 2) → Ev (d + 1) mX0_hasAllSortsItNames 52 [.ref b, vi i, v] [] σ (rt (vi (bC (Pall B))) σ) := by
  intro fu
  induction fu with
  | zero => intros; omega
  | succ fu ih =>
    intro i hn h1 h2
    have h4 := hf.2.1
    have h5 := hf.2.2.1
    refine ev_iload_n eX0_hasAllSortsItNames_52 rfl ?_
    refine ev_aload_n eX0_hasAllSortsItNames_53 rfl ?_
    refine ev_getr eX0_hasAllSortsItNames_54 fX0_9 (fcB hb) ?_
    refine ev_iconst eX0_hasAllSortsItNames_57 ?_
    refine ev_ialdv (3) eX0_hasAllSortsItNames_58 (akB hb) (by first | rfl | omega) (by omega) (hB _ (by omega)) ?_
    refine ev_icmp_ge 82 eX0_hasAllSortsItNames_59 rfl (by omega) (by omega) (fun h59 => ?_) (fun h59 => ?_)
    · skip
      refine ev_iconst eX0_hasAllSortsItNames_82 ?_
      refine ev_zret eX0_hasAllSortsItNames_83 rfl (by first | exact Or.inl rfl | exact Or.inr rfl | exact bI01 _) ?_
      exact ⟨congrArg (fun q => some (vi q)) (bI_t ⟨hW, fun q hq => h2 q (by omega)⟩), rfl⟩
    · skip
      refine ev_aload_n eX0_hasAllSortsItNames_62 rfl ?_
      refine ev_aload_n eX0_hasAllSortsItNames_63 rfl ?_
      refine ev_iload_n eX0_hasAllSortsItNames_64 rfl ?_
      refine ev_cV1 eX0_hasAllSortsItNames_65 ⟨lX0_66, kX0_rowLetter⟩ (ocB hb) rfl (c_rowLetter hb hB hf.1 (i := i) (by omega)) ?_
      rintro _ _ ⟨rfl, rfl⟩
      have hq := hf.2.2.2.2.2.2.2.2.2 i (by omega)
      refine ev_cV1 eX0_hasAllSortsItNames_68 ⟨lX0_62, kX0_hasSort⟩ (ocB hb) rfl (c_hasSort hb hB hf.1 (x := (rw_ B i : Nat)) (by omega)) ?_
      rintro _ _ ⟨rfl, rfl⟩
      refine ev_ifb_ne 76 eX0_hasAllSortsItNames_71 rfl (fun h71 => ?_) (fun h71 => ?_)
      · skip
        refine ev_iinc eX0_hasAllSortsItNames_76 rfl (by decide) ?_
        refine ev_goto 52 eX0_hasAllSortsItNames_79 rfl ?_
        refine ih (i := i + 1) (by omega) (by omega) (fun q hq => ?_)
        by_cases e : q = i
        · subst e; omega
        · exact h2 q (by omega)
      · skip
        refine ev_iconst eX0_hasAllSortsItNames_74 ?_
        refine ev_zret eX0_hasAllSortsItNames_75 rfl (by first | exact Or.inl rfl | exact Or.inr rfl | exact bI01 _) ?_
        exact ⟨congrArg (fun q => some (vi q)) (bI_f (fun q => h71 ⟨by omega, by have := q.2 i (by omega); omega⟩)), rfl⟩
set_option maxRecDepth 20000 in
theorem c_hasall_l {d : Nat} {σ : St} {b : Nat} {B : Bok} (hb : Bq b) (hB : BkC σ (b + 13) B) (hf : Wf B)  : ∀ (fu : Nat) {i : Nat} {v : Value}, B 2 - i < fu → i ≤ B 2 → (∀ s, s < i → ∀ j, j < ws B s → wd B s j < B 2) → Ev (d + 1) mX0_hasAllSortsItNames 2 [.ref b, vi i, v] [] σ (rt (vi (bC (Pall B))) σ) := by
  intro fu
  induction fu with
  | zero => intros; omega
  | succ fu ih =>
    intro i v hn h1 h2
    have h4 := hf.2.1
    refine ev_iload_n eX0_hasAllSortsItNames_2 rfl ?_
    refine ev_aload_n eX0_hasAllSortsItNames_3 rfl ?_
    refine ev_getr eX0_hasAllSortsItNames_4 fX0_9 (fcB hb) ?_
    refine ev_iconst eX0_hasAllSortsItNames_7 ?_
    refine ev_ialdv (2) eX0_hasAllSortsItNames_8 (akB hb) (by first | rfl | omega) (by omega) (hB _ (by omega)) ?_
    refine ev_icmp_ge 50 eX0_hasAllSortsItNames_9 rfl (by omega) (by omega) (fun h9 => ?_) (fun h9 => ?_)
    · skip
      refine ev_iconst eX0_hasAllSortsItNames_50 ?_
      refine ev_istore_n eX0_hasAllSortsItNames_51 (by decide) ?_
      exact c_hasall_l2 hb hB hf (fun s hs => h2 s (by omega)) 9 (i := 0) (by have := hf.2.2.1; omega) (by omega) (fun q hq => by omega)
    · skip
      refine ev_iconst eX0_hasAllSortsItNames_12 ?_
      refine ev_istore_n eX0_hasAllSortsItNames_13 (by decide) ?_
      refine c_hasall_in hb hB hf (i := i) (by omega) (fun hq => ?_) (fun hq => ⟨congrArg (fun q => some (vi q)) (bI_f hq), rfl⟩) 5 (j := 0) (by have := hf.2.2.2.1 i (by omega); omega) (by omega) (fun q hq => by omega)
      refine ev_iinc eX0_hasAllSortsItNames_44 rfl (by decide) ?_
      refine ev_goto 2 eX0_hasAllSortsItNames_47 rfl ?_
      refine ih (i := i + 1) (by omega) (by omega) (fun s hs => ?_)
      by_cases e : s = i
      · subst e; exact hq
      · exact h2 s (by omega)
set_option maxRecDepth 20000 in
theorem c_hasall {d : Nat} {σ : St} {b : Nat} {B : Bok} (hb : Bq b) (hB : BkC σ (b + 13) B) (hf : Wf B)  : Ct (d + 1) mX0_hasAllSortsItNames [.ref b] σ (rt (vi (bC (Pall B))) σ) := by
  refine ct_of hX0_hasAllSortsItNames (Nat.le_of_ble_eq_true rfl) ?_
  refine ev_iconst eX0_hasAllSortsItNames_0 ?_
  refine ev_istore_n eX0_hasAllSortsItNames_1 (by decide) ?_
  exact c_hasall_l hb hB hf 5 (i := 0) (by have := hf.2.1; omega) (by omega) (fun s hs => by omega)
