/-! the reference: its book, small methods -/
def pm (j : Nat) : Nat := if j = 0 then 2 else if j = 1 then 0 else if j = 2 then 1 else if j = 3 then 3 else if j < 12 then 32 + j else if (j - 12) % 8 = 0 then 4 + (j - 12) / 8 else if (j - 12) % 8 < 3 then 8 + 2 * ((j - 12) / 8) + ((j - 12) % 8 - 1) else if (j - 12) % 8 = 3 then 16 + (j - 12) / 8 else 20 + 4 * ((j - 12) / 8) + ((j - 12) % 8 - 4)
def mp (j : Nat) : Nat := if j = 2 then 0 else if j = 0 then 1 else if j = 1 then 2 else if j = 3 then 3 else if j < 8 then 12 + 8 * (j - 4) else if j < 16 then 12 + 8 * ((j - 8) / 2) + 1 + (j - 8) % 2 else if j < 20 then 12 + 8 * (j - 16) + 3 else if j < 36 then 12 + 8 * ((j - 20) / 4) + 4 + (j - 20) % 4 else j - 32
theorem mp_pm : ∀ j, j < 44 → mp (pm j) = j := by decide
theorem pm_lt : ∀ j, j < 44 → pm j < 44 := by decide
theorem pm_mp : ∀ j, j < 44 → pm (mp j) = j := by decide
theorem mp_lt : ∀ j, j < 44 → mp j < 44 := by decide
theorem pm_R : ∀ i, i < 8 → pm (4 + i) = 36 + i := by decide
theorem pm_k : ∀ s, s < 4 → pm (12 + 8 * s) = 4 + s := by decide
theorem pm_p : ∀ s, s < 4 → ∀ v, v < 2 → pm (12 + 8 * s + 1 + v) = 8 + 2 * s + v := by decide
theorem pm_w : ∀ s, s < 4 → pm (12 + 8 * s + 3) = 16 + s := by decide
theorem pm_l : ∀ s, s < 4 → ∀ i, i < 4 → pm (12 + 8 * s + 4 + i) = 20 + 4 * s + i := by decide
def MBk (σ : St) (c : Nat) (B : Bok) : Prop := ∀ j, j < 44 → σ c j = (B (pm j) : Int)
theorem MBk.S {σ : St} {c : Nat} {B : Bok} (h : MBk σ c B) : σ c 0 = (B 2 : Int) := h 0 (by omega)
theorem MBk.M {σ : St} {c : Nat} {B : Bok} (h : MBk σ c B) : σ c 1 = (B 0 : Int) := h 1 (by omega)
theorem MBk.K {σ : St} {c : Nat} {B : Bok} (h : MBk σ c B) : σ c 2 = (B 1 : Int) := h 2 (by omega)
theorem MBk.N {σ : St} {c : Nat} {B : Bok} (h : MBk σ c B) : σ c 3 = (B 3 : Int) := h 3 (by omega)
theorem MBk.R {σ : St} {c : Nat} {B : Bok} (h : MBk σ c B) {i : Nat} (hi : i < 8) : σ c (4 + i) = (rw_ B i : Int) := by rw [h _ (by omega), pm_R i hi]; rfl
theorem MBk.k {σ : St} {c : Nat} {B : Bok} (h : MBk σ c B) {s : Nat} (hs : s < 4) : σ c (12 + 8 * s) = (bk B s : Int) := by rw [h _ (by omega), pm_k s hs]; rfl
theorem MBk.p {σ : St} {c : Nat} {B : Bok} (h : MBk σ c B) {s v : Nat} (hs : s < 4) (hv : v < 2) : σ c (12 + 8 * s + 1 + v) = (pt B s v : Int) := by rw [h _ (by omega), pm_p s hs v hv]; rfl
theorem MBk.w {σ : St} {c : Nat} {B : Bok} (h : MBk σ c B) {s : Nat} (hs : s < 4) : σ c (12 + 8 * s + 3) = (ws B s : Int) := by rw [h _ (by omega), pm_w s hs]; rfl
theorem MBk.l {σ : St} {c : Nat} {B : Bok} (h : MBk σ c B) {s i : Nat} (hs : s < 4) (hi : i < 4) : σ c (12 + 8 * s + 4 + i) = (wd B s i : Int) := by rw [h _ (by omega), pm_l s hs i hi]; rfl
theorem MBk.up {σ : St} {c : Nat} {B : Bok} (h : MBk σ c B) {j x : Nat} (hj : j < 44) : MBk (up σ c j (x : Int)) c (upB B (pm j) x) := fun i hi => by
  by_cases e : i = j
  · subst e; rw [up_s, upB_s]
  · rw [up_n _ _ e, upB_n _ _ (fun q => e (by rw [← mp_pm i hi, q, mp_pm j hj])), h i hi]
theorem MBk.of {σ : St} {c : Nat} {B : Bok} (h : MBk σ c B) {τ : St} (e : τ c = σ c) : MBk τ c B := fun j hj => by rw [e]; exact h j hj
theorem bI_iff {P Q : Prop} {_ : Decidable P} {_ : Decidable Q} (h : P ↔ Q) : bI P = bI Q := by
  by_cases e : P
  · rw [bI_t e, bI_t (h.1 e)]
  · rw [bI_f e, bI_f (fun q => e (h.2 q))]
def Mq (c : Nat) : Prop := c = 49 ∨ c = 51
theorem akM {c : Nat} (h : Mq c) : ak c = some (1, 44) := by rcases h with rfl | rfl <;> rfl
theorem up_up (σ : St) (k j : Nat) (x y : Int) : up (up σ k j x) k j y = up σ k j y := by
  funext a
  by_cases e : a = k
  · subst e
    funext i
    by_cases e2 : i = j
    · subst e2; rw [up_s, up_s]
    · rw [up_n _ _ e2, up_n _ _ e2, up_n _ _ e2]
  · rw [up_o _ _ _ e, up_o _ _ _ e, up_o _ _ _ e]
set_option maxRecDepth 20000 in
theorem m_in {d : Nat} {σ : St} {a b c : Int} (ha : -9223372036854775808 ≤ a ∧ a ≤ 9223372036854775807) (hb : -9223372036854775808 ≤ b ∧ b ≤ 9223372036854775807) (hc : -9223372036854775808 ≤ c ∧ c ≤ 9223372036854775807) : Ct (d) mX12_in [vl a, vl b, vl c] σ (rt (vi (bI (b ≤ a ∧ a ≤ c))) σ) := by
  refine ct_of hX12_in (Nat.le_of_ble_eq_true rfl) ?_
  refine ev_lload_n eX12_in_0 rfl ?_
  refine ev_lload_n eX12_in_1 rfl ?_
  refine ev_lif_lt 17 eX12_in_2 eX12_in_3 rfl (by omega) (by omega) (fun h2 => ?_) (fun h2 => ?_)
  · skip
    refine ev_iconst eX12_in_17 ?_
    refine ev_zret eX12_in_18 rfl (by first | exact Or.inl rfl | exact Or.inr rfl | exact bI01 _) ?_
    exact ⟨congrArg (fun q => some (vi q)) (bI_f (by omega)), rfl⟩
  · skip
    refine ev_lload_n eX12_in_6 rfl ?_
    refine ev_lload eX12_in_7 rfl ?_
    refine ev_lif_gt 17 eX12_in_9 eX12_in_10 rfl (by omega) (by omega) (fun h9 => ?_) (fun h9 => ?_)
    · skip
      refine ev_iconst eX12_in_17 ?_
      refine ev_zret eX12_in_18 rfl (by first | exact Or.inl rfl | exact Or.inr rfl | exact bI01 _) ?_
      exact ⟨congrArg (fun q => some (vi q)) (bI_f (by omega)), rfl⟩
    · skip
      refine ev_iconst eX12_in_13 ?_
      refine ev_goto 18 eX12_in_14 rfl ?_
      refine ev_zret eX12_in_18 rfl (by first | exact Or.inl rfl | exact Or.inr rfl | exact bI01 _) ?_
      exact ⟨congrArg (fun q => some (vi q)) (bI_t (by omega)), rfl⟩
set_option maxRecDepth 20000 in
theorem m_isThere {d : Nat} {σ : St} {B : Bok} (hM : MBk σ 49 B) (hZ : Wf B)  : Ct (d) mX12_isThere [.ref 45] σ (rt (vi (bI (0 < B 2))) σ) := by
  refine ct_of hX12_isThere (Nat.le_of_ble_eq_true rfl) ?_
  have hb4 := hZ.2.1
  refine ev_aload_n eX12_isThere_0 rfl ?_
  refine ev_getr eX12_isThere_1 fX12_19 rfl ?_
  refine ev_iconst eX12_isThere_4 ?_
  refine ev_ialdv (0) eX12_isThere_5 rfl (by first | rfl | omega) (by omega) hM.S ?_
  refine ev_if_le 13 eX12_isThere_6 rfl (by omega) (fun h6 => ?_) (fun h6 => ?_)
  · skip
    refine ev_iconst eX12_isThere_13 ?_
    refine ev_zret eX12_isThere_14 rfl (by first | exact Or.inl rfl | exact Or.inr rfl | exact bI01 _) ?_
    exact ⟨congrArg (fun q => some (vi q)) (bI_f (by omega)), rfl⟩
  · skip
    refine ev_iconst eX12_isThere_9 ?_
    refine ev_goto 14 eX12_isThere_10 rfl ?_
    refine ev_zret eX12_isThere_14 rfl (by first | exact Or.inl rfl | exact Or.inr rfl | exact bI01 _) ?_
    exact ⟨congrArg (fun q => some (vi q)) (bI_t (by omega)), rfl⟩
set_option maxRecDepth 20000 in
theorem m_isSort {d : Nat} {σ : St} {B : Bok} (hM : MBk σ 49 B) (hZ : Wf B) {x : Int} (hx : -2147483648 ≤ x ∧ x ≤ 2147483647) : Ct (d + 1) mX12_isSort [.ref 45, vi x] σ (rt (vi (bI (0 ≤ x ∧ x < B 2))) σ) := by
  refine ct_of hX12_isSort (Nat.le_of_ble_eq_true rfl) ?_
  have hb4 := hZ.2.1
  refine ev_iload_n eX12_isSort_0 rfl ?_
  refine ev_i2l eX12_isSort_1 (by omega) ?_
  refine ev_lconst 0 eX12_isSort_2 rfl ?_
  refine ev_aload_n eX12_isSort_3 rfl ?_
  refine ev_getr eX12_isSort_4 fX12_19 rfl ?_
  refine ev_iconst eX12_isSort_7 ?_
  refine ev_ialdv (0) eX12_isSort_8 rfl (by first | rfl | omega) (by omega) hM.S ?_
  refine ev_iconst eX12_isSort_9 ?_
  refine ev_isub eX12_isSort_10 ?_
  refine ev_i2l eX12_isSort_11 (by omega) ?_
  refine ev_cS3 eX12_isSort_12 ⟨lX12_70, kX12_in⟩ rfl (m_in (a := x) (b := 0) (c := (B 2 : Int) - 1) (by omega) (by omega) (by omega)) ?_
  rintro _ _ ⟨rfl, rfl⟩
  refine ev_zret eX12_isSort_15 rfl (by first | exact Or.inl rfl | exact Or.inr rfl | exact bI01 _) ?_
  exact ⟨congrArg (fun q => some (vi q)) (bI_iff (by omega)), rfl⟩
set_option maxRecDepth 20000 in
theorem m_isRow {d : Nat} {σ : St} {x : Int} (hx : -2147483648 ≤ x ∧ x ≤ 2147483647) : Ct (d + 1) mX12_isRow [vi x] σ (rt (vi (bI (0 ≤ x ∧ x ≤ 7))) σ) := by
  refine ct_of hX12_isRow (Nat.le_of_ble_eq_true rfl) ?_
  refine ev_iload_n eX12_isRow_0 rfl ?_
  refine ev_i2l eX12_isRow_1 (by omega) ?_
  refine ev_lconst 0 eX12_isRow_2 rfl ?_
  refine ev_ldc2 eX12_isRow_3 qX12_68 ?_
  refine ev_cS3 eX12_isRow_6 ⟨lX12_70, kX12_in⟩ rfl (m_in (a := x) (b := 0) (c := 7) (by omega) (by omega) (by omega)) ?_
  rintro _ _ ⟨rfl, rfl⟩
  refine ev_zret eX12_isRow_9 rfl (by first | exact Or.inl rfl | exact Or.inr rfl | exact bI01 _) ?_
  exact ⟨rfl, rfl⟩
set_option maxRecDepth 20000 in
theorem m_finding {d : Nat} {σ : St} {x : Int} : Ct (d) mX12_finding [.ref 45, vi x] σ (rt (vi (-1000010 - x)) (up σ 45 0 x)) := by
  refine ct_of hX12_finding (Nat.le_of_ble_eq_true rfl) ?_
  refine ev_aload_n eX12_finding_0 rfl ?_
  refine ev_iload_n eX12_finding_1 rfl ?_
  refine ev_puti eX12_finding_2 pX12_63 rfl ?_
  refine ev_ldc eX12_finding_5 qX12_67 ?_
  refine ev_iload_n eX12_finding_7 rfl ?_
  refine ev_isub eX12_finding_8 ?_
  refine ev_iret eX12_finding_9 rfl ?_
  exact ⟨rfl, rfl⟩
set_option maxRecDepth 20000 in
theorem m_kindOf {d : Nat} {σ : St} {c : Nat} {B : Bok} (hc : Mq c) (hM : MBk σ c B) (hZ : Wf B) {s : Nat} (hs : s < 4) : Ct (d) mX12_kindOf [.ref c, vi s] σ (rt (vi (bk B s)) σ) := by
  refine ct_of hX12_kindOf (Nat.le_of_ble_eq_true rfl) ?_
  refine ev_aload_n eX12_kindOf_0 rfl ?_
  refine ev_bipush eX12_kindOf_1 rfl ?_
  refine ev_bipush eX12_kindOf_3 rfl ?_
  refine ev_iload_n eX12_kindOf_5 rfl ?_
  refine ev_imul eX12_kindOf_6 ?_
  refine ev_iadd eX12_kindOf_7 ?_
  refine ev_ialdv ((12 + (8 * s))) eX12_kindOf_8 (akM hc) (by first | rfl | omega) (by omega) (hM.k hs) ?_
  refine ev_iret eX12_kindOf_9 rfl ?_
  exact ⟨rfl, rfl⟩
set_option maxRecDepth 20000 in
theorem m_wordSize {d : Nat} {σ : St} {c : Nat} {B : Bok} (hc : Mq c) (hM : MBk σ c B) (hZ : Wf B) {s : Nat} (hs : s < 4) : Ct (d) mX12_wordSize [.ref c, vi s] σ (rt (vi (ws B s)) σ) := by
  refine ct_of hX12_wordSize (Nat.le_of_ble_eq_true rfl) ?_
  refine ev_aload_n eX12_wordSize_0 rfl ?_
  refine ev_bipush eX12_wordSize_1 rfl ?_
  refine ev_bipush eX12_wordSize_3 rfl ?_
  refine ev_iload_n eX12_wordSize_5 rfl ?_
  refine ev_imul eX12_wordSize_6 ?_
  refine ev_iadd eX12_wordSize_7 ?_
  refine ev_iconst eX12_wordSize_8 ?_
  refine ev_iadd eX12_wordSize_9 ?_
  refine ev_ialdv (((12 + (8 * s)) + 3)) eX12_wordSize_10 (akM hc) (by first | rfl | omega) (by omega) (hM.w hs) ?_
  refine ev_iret eX12_wordSize_11 rfl ?_
  exact ⟨rfl, rfl⟩
set_option maxRecDepth 20000 in
theorem m_lengthOf {d : Nat} {σ : St} {c : Nat} {B : Bok} (hc : Mq c) (hM : MBk σ c B) (hZ : Wf B) {s v : Nat} (hs : s < 4) (hv : v < 2) : Ct (d + 1) mX12_lengthOf [.ref c, vi s, vi v] σ (rt (vi (ln B s v)) σ) := by
  refine ct_of hX12_lengthOf (Nat.le_of_ble_eq_true rfl) ?_
  refine ev_aload_n eX12_lengthOf_0 rfl ?_
  refine ev_bipush eX12_lengthOf_1 rfl ?_
  refine ev_bipush eX12_lengthOf_3 rfl ?_
  refine ev_iload_n eX12_lengthOf_5 rfl ?_
  refine ev_imul eX12_lengthOf_6 ?_
  refine ev_iadd eX12_lengthOf_7 ?_
  refine ev_iconst eX12_lengthOf_8 ?_
  refine ev_iadd eX12_lengthOf_9 ?_
  refine ev_iload_n eX12_lengthOf_10 rfl ?_
  refine ev_iadd eX12_lengthOf_11 ?_
  refine ev_ialdv ((((12 + (8 * s)) + 1) + v)) eX12_lengthOf_12 (akM hc) (by first | rfl | omega) (by omega) (hM.p hs hv) ?_
  refine ev_aload_n eX12_lengthOf_13 rfl ?_
  refine ev_iload_n eX12_lengthOf_14 rfl ?_
  have hk5 := hZ.2.2.2.2.1 s hs
  have hp9 := hZ.2.2.2.2.2.1 s v hs hv
  refine ev_cS2 eX12_lengthOf_15 ⟨lX12_89, kX12_kindOf⟩ rfl (m_kindOf hc hM hZ hs) ?_
  rintro _ _ ⟨rfl, rfl⟩
  refine ev_iconst eX12_lengthOf_18 ?_
  refine ev_icmp_ne 26 eX12_lengthOf_19 rfl (by omega) (by omega) (fun h19 => ?_) (fun h19 => ?_)
  · skip
    refine ev_iconst eX12_lengthOf_26 ?_
    refine ev_imul eX12_lengthOf_27 ?_
    refine ev_iret eX12_lengthOf_28 rfl ?_
    exact ⟨congrArg (fun q => some (vi q)) (by unfold ln; rw [if_neg (by omega)]; omega), rfl⟩
  · skip
    refine ev_iconst eX12_lengthOf_22 ?_
    refine ev_goto 27 eX12_lengthOf_23 rfl ?_
    refine ev_imul eX12_lengthOf_27 ?_
    refine ev_iret eX12_lengthOf_28 rfl ?_
    exact ⟨congrArg (fun q => some (vi q)) (by unfold ln; rw [if_pos (by omega)]; omega), rfl⟩
set_option maxRecDepth 20000 in
theorem m_imageSize {d : Nat} {σ : St} {c : Nat} {B : Bok} (hc : Mq c) (hM : MBk σ c B) (hZ : Wf B) {s : Nat} (hs : s < 4) : Ct (d + 1) mX12_imageSize [.ref c, vi s] σ (rt (vi (im B s)) σ) := by
  refine ct_of hX12_imageSize (Nat.le_of_ble_eq_true rfl) ?_
  refine ev_aload_n eX12_imageSize_0 rfl ?_
  refine ev_iload_n eX12_imageSize_1 rfl ?_
  refine ev_cS2 eX12_imageSize_2 ⟨lX12_89, kX12_kindOf⟩ rfl (m_kindOf hc hM hZ hs) ?_
  rintro _ _ ⟨rfl, rfl⟩
  have hk5 := hZ.2.2.2.2.1 s hs
  refine ev_istore_n eX12_imageSize_5 (by decide) ?_
  refine ev_iload_n eX12_imageSize_6 rfl ?_
  refine ev_iconst eX12_imageSize_7 ?_
  refine ev_icmp_ne 15 eX12_imageSize_8 rfl (by omega) (by omega) (fun h8 => ?_) (fun h8 => ?_)
  · skip
    refine ev_iload_n eX12_imageSize_15 rfl ?_
    refine ev_iconst eX12_imageSize_16 ?_
    refine ev_icmp_ne 24 eX12_imageSize_17 rfl (by omega) (by omega) (fun h17 => ?_) (fun h17 => ?_)
    · skip
      refine ev_aload_n eX12_imageSize_24 rfl ?_
      refine ev_iload_n eX12_imageSize_25 rfl ?_
      refine ev_cS2 eX12_imageSize_26 ⟨lX12_93, kX12_wordSize⟩ rfl (m_wordSize hc hM hZ hs) ?_
      rintro _ _ ⟨rfl, rfl⟩
      refine ev_iret eX12_imageSize_29 rfl ?_
      exact ⟨congrArg (fun q => some (vi q)) (by unfold im; rw [if_neg (by omega), if_neg (by omega)]), rfl⟩
    · skip
      refine ev_iconst eX12_imageSize_20 ?_
      refine ev_goto 29 eX12_imageSize_21 rfl ?_
      refine ev_iret eX12_imageSize_29 rfl ?_
      exact ⟨congrArg (fun q => some (vi q)) (by unfold im; rw [if_neg (by omega), if_pos (by omega)]; rfl), rfl⟩
  · skip
    refine ev_iconst eX12_imageSize_11 ?_
    refine ev_goto 29 eX12_imageSize_12 rfl ?_
    refine ev_iret eX12_imageSize_29 rfl ?_
    exact ⟨congrArg (fun q => some (vi q)) (by unfold im; rw [if_pos (by omega)]; rfl), rfl⟩
set_option maxRecDepth 20000 in
theorem m_imageAt {d : Nat} {σ : St} {c : Nat} {B : Bok} (hc : Mq c) (hM : MBk σ c B) (hZ : Wf B) {s i : Nat} (hs : s < 4) (hi : i < im B s) : Ct (d + 1) mX12_imageAt [.ref c, vi s, vi i] σ (rt (vi (il B s i)) σ) := by
  refine ct_of hX12_imageAt (Nat.le_of_ble_eq_true rfl) ?_
  refine ev_aload_n eX12_imageAt_0 rfl ?_
  refine ev_iload_n eX12_imageAt_1 rfl ?_
  refine ev_cS2 eX12_imageAt_2 ⟨lX12_89, kX12_kindOf⟩ rfl (m_kindOf hc hM hZ hs) ?_
  rintro _ _ ⟨rfl, rfl⟩
  have hk5 := hZ.2.2.2.2.1 s hs
  have hw4 := hZ.2.2.2.1 s hs
  refine ev_istore_n eX12_imageAt_5 (by decide) ?_
  refine ev_bipush eX12_imageAt_6 rfl ?_
  refine ev_bipush eX12_imageAt_8 rfl ?_
  refine ev_iload_n eX12_imageAt_10 rfl ?_
  refine ev_imul eX12_imageAt_11 ?_
  refine ev_iadd eX12_imageAt_12 ?_
  refine ev_iconst eX12_imageAt_13 ?_
  refine ev_iadd eX12_imageAt_14 ?_
  refine ev_istore eX12_imageAt_15 (by decide) ?_
  refine ev_iload_n eX12_imageAt_17 rfl ?_
  refine ev_iconst eX12_imageAt_18 ?_
  refine ev_icmp_lt 26 eX12_imageAt_19 rfl (by omega) (by omega) (fun h19 => ?_) (fun h19 => ?_)
  · skip
    refine ev_iload_n eX12_imageAt_26 rfl ?_
    refine ev_iconst eX12_imageAt_27 ?_
    refine ev_icmp_ne 48 eX12_imageAt_28 rfl (by omega) (by omega) (fun h28 => ?_) (fun h28 => ?_)
    · skip
      refine ev_aload_n eX12_imageAt_48 rfl ?_
      refine ev_iload eX12_imageAt_49 rfl ?_
      refine ev_iload_n eX12_imageAt_51 rfl ?_
      refine ev_iadd eX12_imageAt_52 ?_
      have him : im B s = ws B s := by unfold im; rw [if_neg (by omega), if_neg (by omega)]
      refine ev_ialdv ((((12 + (8 * s)) + 4) + i)) eX12_imageAt_53 (akM hc) (by first | rfl | omega) (by omega) (hM.l hs (by omega)) ?_
      refine ev_iret eX12_imageAt_54 rfl ?_
      exact ⟨congrArg (fun q => some (vi q)) (by unfold il; rw [if_neg (by omega), if_neg (by omega)]), rfl⟩
    · skip
      refine ev_aload_n eX12_imageAt_31 rfl ?_
      refine ev_iload eX12_imageAt_32 rfl ?_
      refine ev_aload_n eX12_imageAt_34 rfl ?_
      refine ev_iload_n eX12_imageAt_35 rfl ?_
      have him : im B s = ws B s := by unfold im; rw [if_neg (by omega), if_neg (by omega)]
      refine ev_cS2 eX12_imageAt_36 ⟨lX12_93, kX12_wordSize⟩ rfl (m_wordSize hc hM hZ hs) ?_
      rintro _ _ ⟨rfl, rfl⟩
      refine ev_iadd eX12_imageAt_39 ?_
      refine ev_iconst eX12_imageAt_40 ?_
      refine ev_isub eX12_imageAt_41 ?_
      refine ev_iload_n eX12_imageAt_42 rfl ?_
      refine ev_isub eX12_imageAt_43 ?_
      refine ev_ialdv (12 + 8 * s + 4 + (ws B s - 1 - i)) eX12_imageAt_44 (akM hc) (by first | rfl | omega) (by omega) (hM.l hs (by omega)) ?_
      refine ev_goto 54 eX12_imageAt_45 rfl ?_
      refine ev_iret eX12_imageAt_54 rfl ?_
      exact ⟨congrArg (fun q => some (vi q)) (by unfold il; rw [if_neg (by omega), if_pos (by omega)]), rfl⟩
  · skip
    refine ev_iload_n eX12_imageAt_22 rfl ?_
    refine ev_goto 54 eX12_imageAt_23 rfl ?_
    refine ev_iret eX12_imageAt_54 rfl ?_
    exact ⟨congrArg (fun q => some (vi q)) (by unfold il; rw [if_pos (by omega)]), rfl⟩
theorem nb0 {P k : Nat} (h : ¬ P.testBit k = true) : P / 2 ^ k % 2 = 0 := by
  rcases Nat.mod_two_eq_zero_or_one (P / 2 ^ k) with q | q
  · exact q
  · exact absurd ((bit_div P k).2 q) h
theorem cb_t {P k : Nat} (h : P.testBit k = true) : cb P (k + 1) = cb P k + 1 := by
  show cb P k + P / 2 ^ k % 2 = _
  rw [(bit_div P k).1 h]
theorem cb_f {P k : Nat} (h : ¬ P.testBit k = true) : cb P (k + 1) = cb P k := by
  show cb P k + P / 2 ^ k % 2 = _
  rw [nb0 h]; rfl
theorem tb_sh {P k : Nat} (hP : P < 2147483648) (hk : k < 32) : iAnd (iShr (P : Int) (k : Int)) 1 = bI (P.testBit k = true) := by
  rw [iShr_n hP hk, show (1 : Int) = ((1 : Nat) : Int) from rfl, iAnd_n (Nat.lt_of_le_of_lt (Nat.div_le_self _ _) hP) (by decide), Nat.and_one_is_mod]
  by_cases e : P.testBit k = true
  · rw [bI_t e, (bit_div P k).1 e]; rfl
  · rw [bI_f e]
    rw [nb0 e]; rfl
set_option maxRecDepth 20000 in
theorem m_has {d : Nat} {σ : St} {P k : Nat} (hP : P < 2147483648) (hk : k < 32) : Ct (d) mX12_has [vi P, vi k] σ (rt (vi (bI (P.testBit k = true))) σ) := by
  refine ct_of hX12_has (Nat.le_of_ble_eq_true rfl) ?_
  refine ev_iload_n eX12_has_0 rfl ?_
  refine ev_iload_n eX12_has_1 rfl ?_
  refine ev_ishr eX12_has_2 ?_
  refine ev_iconst eX12_has_3 ?_
  refine ev_iand eX12_has_4 ?_
  refine ev_iconst eX12_has_5 ?_
  rw [tb_sh hP hk]
  have hb : bI (P.testBit k = true) = 0 ∨ bI (P.testBit k = true) = 1 := bI01 _
  refine ev_icmp_ne 13 eX12_has_6 rfl (by omega) (by omega) (fun h6 => ?_) (fun h6 => ?_)
  · skip
    refine ev_iconst eX12_has_13 ?_
    refine ev_zret eX12_has_14 rfl (by first | exact Or.inl rfl | exact Or.inr rfl | exact bI01 _) ?_
    exact ⟨congrArg (fun q => some (vi q)) (bI_f (fun e => h6 (bI_t e))), rfl⟩
  · skip
    refine ev_iconst eX12_has_9 ?_
    refine ev_goto 14 eX12_has_10 rfl ?_
    refine ev_zret eX12_has_14 rfl (by first | exact Or.inl rfl | exact Or.inr rfl | exact bI01 _) ?_
    exact ⟨congrArg (fun q => some (vi q)) (bI_t (Classical.byContradiction (fun e => by exact absurd (h6.symm.trans (bI_f e)) (by decide)))), rfl⟩
set_option maxRecDepth 20000 in
theorem m_sizeOf_l {d : Nat} {σ : St} {P : Nat} (hP : P < 65536) : ∀ (fu : Nat) {k : Nat}, 16 - k < fu → k ≤ 16 → Ev (d + 1) mX12_sizeOf 4 [vi P, vi (cb P k), vi k] [] σ (rt (vi (cb P 16)) σ) := by
  intro fu
  induction fu with
  | zero => intros; omega
  | succ fu ih =>
    intro k hm h1
    refine ev_iload_n eX12_sizeOf_4 rfl ?_
    refine ev_bipush eX12_sizeOf_5 rfl ?_
    refine ev_icmp_ge 32 eX12_sizeOf_7 rfl (by omega) (by omega) (fun h7 => ?_) (fun h7 => ?_)
    · skip
      refine ev_iload_n eX12_sizeOf_32 rfl ?_
      refine ev_iret eX12_sizeOf_33 rfl ?_
      exact ⟨congrArg (fun q => some (vi q)) (by rw [show k = 16 by omega]), rfl⟩
    · skip
      refine ev_iload_n eX12_sizeOf_10 rfl ?_
      refine ev_iload_n eX12_sizeOf_11 rfl ?_
      refine ev_iload_n eX12_sizeOf_12 rfl ?_
      refine ev_cS2 eX12_sizeOf_13 ⟨lX12_85, kX12_has⟩ rfl (m_has (P := P) (k := k) (by omega) (by omega)) ?_
      rintro _ _ ⟨rfl, rfl⟩
      refine ev_ifb_eq 23 eX12_sizeOf_16 rfl (fun hb => ?_) (fun hb => ?_)
      · skip
        refine ev_iconst eX12_sizeOf_23 ?_
        refine ev_iadd eX12_sizeOf_24 ?_
        refine ev_istore_n eX12_sizeOf_25 (by decide) ?_
        refine ev_iinc eX12_sizeOf_26 rfl (by decide) ?_
        refine ev_goto 4 eX12_sizeOf_29 rfl ?_
        first | (rw [show ((cb P k : Nat) : Int) + 1 = ((cb P (k + 1) : Nat) : Int) by rw [cb_t hb]; rfl]; exact ih (k := k + 1) (by omega) (by omega)) | (rw [show ((cb P k : Nat) : Int) + 0 = ((cb P (k + 1) : Nat) : Int) by rw [cb_f hb]; exact Int.add_zero _]; exact ih (k := k + 1) (by omega) (by omega))
      · skip
        refine ev_iconst eX12_sizeOf_19 ?_
        refine ev_goto 24 eX12_sizeOf_20 rfl ?_
        refine ev_iadd eX12_sizeOf_24 ?_
        refine ev_istore_n eX12_sizeOf_25 (by decide) ?_
        refine ev_iinc eX12_sizeOf_26 rfl (by decide) ?_
        refine ev_goto 4 eX12_sizeOf_29 rfl ?_
        first | (rw [show ((cb P k : Nat) : Int) + 1 = ((cb P (k + 1) : Nat) : Int) by rw [cb_t hb]; rfl]; exact ih (k := k + 1) (by omega) (by omega)) | (rw [show ((cb P k : Nat) : Int) + 0 = ((cb P (k + 1) : Nat) : Int) by rw [cb_f hb]; exact Int.add_zero _]; exact ih (k := k + 1) (by omega) (by omega))
set_option maxRecDepth 20000 in
theorem m_sizeOf {d : Nat} {σ : St} {P : Nat} (hP : P < 65536) : Ct (d + 1) mX12_sizeOf [vi P] σ (rt (vi (cb P 16)) σ) := by
  refine ct_of hX12_sizeOf (Nat.le_of_ble_eq_true rfl) ?_
  refine ev_iconst eX12_sizeOf_0 ?_
  refine ev_istore_n eX12_sizeOf_1 (by decide) ?_
  refine ev_iconst eX12_sizeOf_2 ?_
  refine ev_istore_n eX12_sizeOf_3 (by decide) ?_
  exact m_sizeOf_l hP 17 (k := 0) (by omega) (by omega)
set_option maxRecDepth 20000 in
theorem m_layThen_l {d : Nat} {σ : St} {B : Bok} (hM : MBk σ 49 B) : ∀ (fu : Nat) {i : Nat} {τ : St}, 44 - i < fu → i ≤ 44 → (∀ j, j < i → τ 51 j = (B (pm j) : Int)) → (∀ k, k ≠ 51 → τ k = σ k) → Ev (d) mX12_layThen 2 [.ref 45, vi i] [] τ (fun r τ => none = r ∧ MBk τ 51 B ∧ ∀ k, k ≠ 51 → τ k = σ k) := by
  intro fu
  induction fu with
  | zero => intros; omega
  | succ fu ih =>
    intro i τ hm h1 h2 h3
    refine ev_iload_n eX12_layThen_2 rfl ?_
    refine ev_bipush eX12_layThen_3 rfl ?_
    refine ev_icmp_ge 26 eX12_layThen_5 rfl (by omega) (by omega) (fun h5 => ?_) (fun h5 => ?_)
    · skip
      refine ev_ret eX12_layThen_26 rfl ?_
      exact ⟨rfl, fun j hj => h2 j (by omega), h3⟩
    · skip
      refine ev_aload_n eX12_layThen_8 rfl ?_
      refine ev_getr eX12_layThen_9 fX12_25 rfl ?_
      refine ev_iload_n eX12_layThen_12 rfl ?_
      refine ev_aload_n eX12_layThen_13 rfl ?_
      refine ev_getr eX12_layThen_14 fX12_19 rfl ?_
      refine ev_iload_n eX12_layThen_17 rfl ?_
      refine ev_ialdv (i) eX12_layThen_18 rfl (by first | rfl | omega) (by omega) (show τ 49 i = (B (pm i) : Int) by rw [h3 49 (by decide)]; exact hM i (by omega)) ?_
      refine ev_iast (i) eX12_layThen_19 rfl (by first | rfl | omega) (by omega) ?_
      refine ev_iinc eX12_layThen_20 rfl (by decide) ?_
      refine ev_goto 2 eX12_layThen_23 rfl ?_
      refine ih (i := i + 1) (by omega) (by omega) (fun j hj => ?_) (fun k hk => by rw [up_o _ _ _ hk]; exact h3 k hk)
      by_cases e : j = i
      · subst e; exact up_s _ _ _ _
      · rw [up_n _ _ e]; exact h2 j (by omega)
set_option maxRecDepth 20000 in
theorem m_layThen {d : Nat} {σ : St} {B : Bok} (hM : MBk σ 49 B) : Ct (d) mX12_layThen [.ref 45] σ (fun r τ => none = r ∧ MBk τ 51 B ∧ ∀ k, k ≠ 51 → τ k = σ k) := by
  refine ct_of hX12_layThen (Nat.le_of_ble_eq_true rfl) ?_
  refine ev_iconst eX12_layThen_0 ?_
  refine ev_istore_n eX12_layThen_1 (by decide) ?_
  exact m_layThen_l hM 45 (i := 0) (by omega) (by omega) (fun j hj => by omega) (fun _ _ => rfl)
