/-! a book's numbers: B, in the class's layout -/
abbrev Bok : Type := Nat → Nat
def BkC (σ : St) (c : Nat) (B : Bok) : Prop := ∀ j, j < 44 → σ c j = (B j : Int)
def bk (B : Bok) (s : Nat) : Nat := B (4 + s)
def pt (B : Bok) (s w : Nat) : Nat := B (8 + 2 * s + w)
def ws (B : Bok) (s : Nat) : Nat := B (16 + s)
def wd (B : Bok) (s i : Nat) : Nat := B (20 + 4 * s + i)
def rw_ (B : Bok) (i : Nat) : Nat := B (36 + i)
def im (B : Bok) (s : Nat) : Nat := if bk B s = 4 then 1 else if bk B s = 5 then 2 else ws B s
def il (B : Bok) (s i : Nat) : Nat := if bk B s = 4 ∨ bk B s = 5 then s else if bk B s = 2 then wd B s (ws B s - 1 - i) else wd B s i
def ln (B : Bok) (s w : Nat) : Nat := if bk B s = 3 then 2 * pt B s w else pt B s w
/-- an answer, and the state behind it -/
abbrev rt (v : Value) (σ' : St) : Option Value → St → Prop := fun r τ => some v = r ∧ σ' = τ
abbrev rv (σ' : St) : Option Value → St → Prop := fun r τ => none = r ∧ σ' = τ
/-- small enough: what a book may hold -/
def Sm (B : Bok) : Prop := ∀ j, j < 44 → B j ≤ 1000
theorem c_kindOf {d : Nat} {σ : St} {b : Nat} {B : Bok} (hb : Bq b) (hB : BkC σ (b + 13) B) (hm : Sm B) {s : Nat} (hs : s < 4) : Ct (d) mX0_kindOf [.ref b, vi s] σ (rt (vi (bk B s)) σ) := by
  refine ct_of hX0_kindOf (Nat.le_of_ble_eq_true rfl) ?_
  refine ev_aload_n eX0_kindOf_0 rfl ?_
  refine ev_getr eX0_kindOf_1 fX0_9 (fcB hb) ?_
  refine ev_iconst eX0_kindOf_4 ?_
  refine ev_iload_n eX0_kindOf_5 rfl ?_
  refine ev_iadd eX0_kindOf_6 ?_
  refine ev_ialdv ((4 + s)) eX0_kindOf_7 (akB hb) (by first | rfl | omega) (by omega) (hB _ (by omega)) ?_
  refine ev_iret eX0_kindOf_8 rfl ?_
  exact ⟨rfl, rfl⟩
theorem c_part {d : Nat} {σ : St} {b : Nat} {B : Bok} (hb : Bq b) (hB : BkC σ (b + 13) B) (hm : Sm B) {s w : Nat} (hs : s < 4) (hw : w < 2) : Ct (d) mX0_part [.ref b, vi s, vi w] σ (rt (vi (pt B s w)) σ) := by
  refine ct_of hX0_part (Nat.le_of_ble_eq_true rfl) ?_
  refine ev_aload_n eX0_part_0 rfl ?_
  refine ev_getr eX0_part_1 fX0_9 (fcB hb) ?_
  refine ev_bipush eX0_part_4 rfl ?_
  refine ev_iconst eX0_part_6 ?_
  refine ev_iload_n eX0_part_7 rfl ?_
  refine ev_imul eX0_part_8 ?_
  refine ev_iadd eX0_part_9 ?_
  refine ev_iload_n eX0_part_10 rfl ?_
  refine ev_iadd eX0_part_11 ?_
  refine ev_ialdv (((8 + (2 * s)) + w)) eX0_part_12 (akB hb) (by first | rfl | omega) (by omega) (hB _ (by omega)) ?_
  refine ev_iret eX0_part_13 rfl ?_
  exact ⟨rfl, rfl⟩
theorem c_wordSize {d : Nat} {σ : St} {b : Nat} {B : Bok} (hb : Bq b) (hB : BkC σ (b + 13) B) (hm : Sm B) {s : Nat} (hs : s < 4) : Ct (d) mX0_wordSize [.ref b, vi s] σ (rt (vi (ws B s)) σ) := by
  refine ct_of hX0_wordSize (Nat.le_of_ble_eq_true rfl) ?_
  refine ev_aload_n eX0_wordSize_0 rfl ?_
  refine ev_getr eX0_wordSize_1 fX0_9 (fcB hb) ?_
  refine ev_bipush eX0_wordSize_4 rfl ?_
  refine ev_iload_n eX0_wordSize_6 rfl ?_
  refine ev_iadd eX0_wordSize_7 ?_
  refine ev_ialdv ((16 + s)) eX0_wordSize_8 (akB hb) (by first | rfl | omega) (by omega) (hB _ (by omega)) ?_
  refine ev_iret eX0_wordSize_9 rfl ?_
  exact ⟨rfl, rfl⟩
theorem c_wordLetter {d : Nat} {σ : St} {b : Nat} {B : Bok} (hb : Bq b) (hB : BkC σ (b + 13) B) (hm : Sm B) {s i : Nat} (hs : s < 4) (hi : i < 4) : Ct (d) mX0_wordLetter [.ref b, vi s, vi i] σ (rt (vi (wd B s i)) σ) := by
  refine ct_of hX0_wordLetter (Nat.le_of_ble_eq_true rfl) ?_
  refine ev_aload_n eX0_wordLetter_0 rfl ?_
  refine ev_getr eX0_wordLetter_1 fX0_9 (fcB hb) ?_
  refine ev_bipush eX0_wordLetter_4 rfl ?_
  refine ev_iconst eX0_wordLetter_6 ?_
  refine ev_iload_n eX0_wordLetter_7 rfl ?_
  refine ev_imul eX0_wordLetter_8 ?_
  refine ev_iadd eX0_wordLetter_9 ?_
  refine ev_iload_n eX0_wordLetter_10 rfl ?_
  refine ev_iadd eX0_wordLetter_11 ?_
  refine ev_ialdv (((20 + (4 * s)) + i)) eX0_wordLetter_12 (akB hb) (by first | rfl | omega) (by omega) (hB _ (by omega)) ?_
  refine ev_iret eX0_wordLetter_13 rfl ?_
  exact ⟨rfl, rfl⟩
theorem c_law {d : Nat} {σ : St} {b : Nat} {B : Bok} (hb : Bq b) (hB : BkC σ (b + 13) B) (hm : Sm B) {s : Nat} (hs : s < 2) : Ct (d) mX0_law [.ref b, vi s] σ (rt (vi (B (0 + s))) σ) := by
  refine ct_of hX0_law (Nat.le_of_ble_eq_true rfl) ?_
  refine ev_aload_n eX0_law_0 rfl ?_
  refine ev_getr eX0_law_1 fX0_9 (fcB hb) ?_
  refine ev_iconst eX0_law_4 ?_
  refine ev_iload_n eX0_law_5 rfl ?_
  refine ev_iadd eX0_law_6 ?_
  refine ev_ialdv ((0 + s)) eX0_law_7 (akB hb) (by first | rfl | omega) (by omega) (hB _ (by omega)) ?_
  refine ev_iret eX0_law_8 rfl ?_
  exact ⟨rfl, rfl⟩
theorem c_sortCount {d : Nat} {σ : St} {b : Nat} {B : Bok} (hb : Bq b) (hB : BkC σ (b + 13) B) (hm : Sm B)  : Ct (d) mX0_sortCount [.ref b] σ (rt (vi (B 2)) σ) := by
  refine ct_of hX0_sortCount (Nat.le_of_ble_eq_true rfl) ?_
  refine ev_aload_n eX0_sortCount_0 rfl ?_
  refine ev_getr eX0_sortCount_1 fX0_9 (fcB hb) ?_
  refine ev_iconst eX0_sortCount_4 ?_
  refine ev_ialdv (2) eX0_sortCount_5 (akB hb) (by first | rfl | omega) (by omega) (hB _ (by omega)) ?_
  refine ev_iret eX0_sortCount_6 rfl ?_
  exact ⟨rfl, rfl⟩
theorem c_rowSize {d : Nat} {σ : St} {b : Nat} {B : Bok} (hb : Bq b) (hB : BkC σ (b + 13) B) (hm : Sm B)  : Ct (d) mX0_rowSize [.ref b] σ (rt (vi (B 3)) σ) := by
  refine ct_of hX0_rowSize (Nat.le_of_ble_eq_true rfl) ?_
  refine ev_aload_n eX0_rowSize_0 rfl ?_
  refine ev_getr eX0_rowSize_1 fX0_9 (fcB hb) ?_
  refine ev_iconst eX0_rowSize_4 ?_
  refine ev_ialdv (3) eX0_rowSize_5 (akB hb) (by first | rfl | omega) (by omega) (hB _ (by omega)) ?_
  refine ev_iret eX0_rowSize_6 rfl ?_
  exact ⟨rfl, rfl⟩
theorem c_rowLetter {d : Nat} {σ : St} {b : Nat} {B : Bok} (hb : Bq b) (hB : BkC σ (b + 13) B) (hm : Sm B) {i : Nat} (hi : i < 8) : Ct (d) mX0_rowLetter [.ref b, vi i] σ (rt (vi (rw_ B i)) σ) := by
  refine ct_of hX0_rowLetter (Nat.le_of_ble_eq_true rfl) ?_
  refine ev_aload_n eX0_rowLetter_0 rfl ?_
  refine ev_getr eX0_rowLetter_1 fX0_9 (fcB hb) ?_
  refine ev_bipush eX0_rowLetter_4 rfl ?_
  refine ev_iload_n eX0_rowLetter_6 rfl ?_
  refine ev_iadd eX0_rowLetter_7 ?_
  refine ev_ialdv ((36 + i)) eX0_rowLetter_8 (akB hb) (by first | rfl | omega) (by omega) (hB _ (by omega)) ?_
  refine ev_iret eX0_rowLetter_9 rfl ?_
  exact ⟨rfl, rfl⟩
theorem c_stands {d : Nat} {σ : St} {b : Nat} {B : Bok} (hb : Bq b) (hB : BkC σ (b + 13) B) (hm : Sm B)  : Ct (d) mX0_stands [.ref b] σ (rt (vi (bI (0 < B 2))) σ) := by
  refine ct_of hX0_stands (Nat.le_of_ble_eq_true rfl) ?_
  refine ev_aload_n eX0_stands_0 rfl ?_
  refine ev_getr eX0_stands_1 fX0_9 (fcB hb) ?_
  refine ev_iconst eX0_stands_4 ?_
  refine ev_ialdv (2) eX0_stands_5 (akB hb) (by first | rfl | omega) (by omega) (hB _ (by omega)) ?_
  have hm2 := hm 2 (by omega)
  refine ev_if_le 13 eX0_stands_6 rfl (by omega) (fun h6 => ?_) (fun h6 => ?_)
  · skip
    refine ev_iconst eX0_stands_13 ?_
    refine ev_zret eX0_stands_14 rfl (by first | exact Or.inl rfl | exact Or.inr rfl | exact bI01 _) ?_
    exact ⟨congrArg (fun q => some (vi q)) (bI_f (by omega)), rfl⟩
  · skip
    refine ev_iconst eX0_stands_9 ?_
    refine ev_goto 14 eX0_stands_10 rfl ?_
    refine ev_zret eX0_stands_14 rfl (by first | exact Or.inl rfl | exact Or.inr rfl | exact bI01 _) ?_
    exact ⟨congrArg (fun q => some (vi q)) (bI_t (by omega)), rfl⟩
theorem c_hasSort {d : Nat} {σ : St} {b : Nat} {B : Bok} (hb : Bq b) (hB : BkC σ (b + 13) B) (hm : Sm B) {x : Int} (hx : -2147483648 ≤ x ∧ x ≤ 2147483647) : Ct (d) mX0_hasSort [.ref b, vi x] σ (rt (vi (bI (0 ≤ x ∧ x < B 2))) σ) := by
  refine ct_of hX0_hasSort (Nat.le_of_ble_eq_true rfl) ?_
  refine ev_iload_n eX0_hasSort_0 rfl ?_
  have hm2 := hm 2 (by omega)
  refine ev_if_lt 18 eX0_hasSort_1 rfl (by omega) (fun h1 => ?_) (fun h1 => ?_)
  · skip
    refine ev_iconst eX0_hasSort_18 ?_
    refine ev_zret eX0_hasSort_19 rfl (by first | exact Or.inl rfl | exact Or.inr rfl | exact bI01 _) ?_
    exact ⟨congrArg (fun q => some (vi q)) (bI_f (by omega)), rfl⟩
  · skip
    refine ev_iload_n eX0_hasSort_4 rfl ?_
    refine ev_aload_n eX0_hasSort_5 rfl ?_
    refine ev_getr eX0_hasSort_6 fX0_9 (fcB hb) ?_
    refine ev_iconst eX0_hasSort_9 ?_
    refine ev_ialdv (2) eX0_hasSort_10 (akB hb) (by first | rfl | omega) (by omega) (hB _ (by omega)) ?_
    refine ev_icmp_ge 18 eX0_hasSort_11 rfl (by omega) (by omega) (fun h11 => ?_) (fun h11 => ?_)
    · skip
      refine ev_iconst eX0_hasSort_18 ?_
      refine ev_zret eX0_hasSort_19 rfl (by first | exact Or.inl rfl | exact Or.inr rfl | exact bI01 _) ?_
      exact ⟨congrArg (fun q => some (vi q)) (bI_f (by omega)), rfl⟩
    · skip
      refine ev_iconst eX0_hasSort_14 ?_
      refine ev_goto 19 eX0_hasSort_15 rfl ?_
      refine ev_zret eX0_hasSort_19 rfl (by first | exact Or.inl rfl | exact Or.inr rfl | exact bI01 _) ?_
      exact ⟨congrArg (fun q => some (vi q)) (bI_t (by omega)), rfl⟩
theorem c_lengthOf {d : Nat} {σ : St} {b : Nat} {B : Bok} (hb : Bq b) (hB : BkC σ (b + 13) B) (hm : Sm B) {s w : Nat} (hs : s < 4) (hw : w < 2) : Ct (d + 1) mX0_lengthOf [.ref b, vi s, vi w] σ (rt (vi (ln B s w)) σ) := by
  refine ct_of hX0_lengthOf (Nat.le_of_ble_eq_true rfl) ?_
  refine ev_aload_n eX0_lengthOf_0 rfl ?_
  refine ev_iload_n eX0_lengthOf_1 rfl ?_
  refine ev_cV1 eX0_lengthOf_2 ⟨lX0_23, kX0_kindOf⟩ (ocB hb) rfl (c_kindOf hb hB hm (by omega)) ?_
  rintro _ _ ⟨rfl, rfl⟩
  have hk := hm (4 + s) (by omega)
  have hk2 : bk B s ≤ 1000 := hk
  refine ev_iconst eX0_lengthOf_5 ?_
  refine ev_icmp_ne 20 eX0_lengthOf_6 rfl (by omega) (by omega) (fun h6 => ?_) (fun h6 => ?_)
  · skip
    refine ev_aload_n eX0_lengthOf_20 rfl ?_
    refine ev_iload_n eX0_lengthOf_21 rfl ?_
    refine ev_iload_n eX0_lengthOf_22 rfl ?_
    refine ev_cV2 eX0_lengthOf_23 ⟨lX0_29, kX0_part⟩ (ocB hb) rfl (c_part hb hB hm hs hw) ?_
    rintro _ _ ⟨rfl, rfl⟩
    refine ev_iret eX0_lengthOf_26 rfl ?_
    exact ⟨congrArg (fun q => some (vi q)) (by unfold ln; rw [if_neg (by omega)]), rfl⟩
  · skip
    refine ev_iconst eX0_lengthOf_9 ?_
    refine ev_aload_n eX0_lengthOf_10 rfl ?_
    refine ev_iload_n eX0_lengthOf_11 rfl ?_
    refine ev_iload_n eX0_lengthOf_12 rfl ?_
    refine ev_cV2 eX0_lengthOf_13 ⟨lX0_29, kX0_part⟩ (ocB hb) rfl (c_part hb hB hm hs hw) ?_
    rintro _ _ ⟨rfl, rfl⟩
    refine ev_imul eX0_lengthOf_16 ?_
    refine ev_goto 26 eX0_lengthOf_17 rfl ?_
    refine ev_iret eX0_lengthOf_26 rfl ?_
    exact ⟨congrArg (fun q => some (vi q)) (by unfold ln; rw [if_pos (by omega)]; push_cast; rfl), rfl⟩
theorem c_imageSize {d : Nat} {σ : St} {b : Nat} {B : Bok} (hb : Bq b) (hB : BkC σ (b + 13) B) (hm : Sm B) {s : Nat} (hs : s < 4) : Ct (d + 1) mX0_imageSize [.ref b, vi s] σ (rt (vi (im B s)) σ) := by
  refine ct_of hX0_imageSize (Nat.le_of_ble_eq_true rfl) ?_
  refine ev_aload_n eX0_imageSize_0 rfl ?_
  refine ev_iload_n eX0_imageSize_1 rfl ?_
  refine ev_cV1 eX0_imageSize_2 ⟨lX0_23, kX0_kindOf⟩ (ocB hb) rfl (c_kindOf hb hB hm (by omega)) ?_
  rintro _ _ ⟨rfl, rfl⟩
  have hk2 : bk B s ≤ 1000 := hm (4 + s) (by omega)
  refine ev_iconst eX0_imageSize_5 ?_
  refine ev_icmp_ne 11 eX0_imageSize_6 rfl (by omega) (by omega) (fun h6 => ?_) (fun h6 => ?_)
  · skip
    refine ev_aload_n eX0_imageSize_11 rfl ?_
    refine ev_iload_n eX0_imageSize_12 rfl ?_
    refine ev_cV1 eX0_imageSize_13 ⟨lX0_23, kX0_kindOf⟩ (ocB hb) rfl (c_kindOf hb hB hm (by omega)) ?_
    rintro _ _ ⟨rfl, rfl⟩
    refine ev_iconst eX0_imageSize_16 ?_
    refine ev_icmp_ne 22 eX0_imageSize_17 rfl (by omega) (by omega) (fun h17 => ?_) (fun h17 => ?_)
    · skip
      refine ev_aload_n eX0_imageSize_22 rfl ?_
      refine ev_iload_n eX0_imageSize_23 rfl ?_
      refine ev_cV1 eX0_imageSize_24 ⟨lX0_37, kX0_wordSize⟩ (ocB hb) rfl (c_wordSize hb hB hm hs) ?_
      rintro _ _ ⟨rfl, rfl⟩
      refine ev_iret eX0_imageSize_27 rfl ?_
      exact ⟨congrArg (fun q => some (vi q)) (by unfold im; rw [if_neg (by omega), if_neg (by omega)]), rfl⟩
    · skip
      refine ev_iconst eX0_imageSize_20 ?_
      refine ev_iret eX0_imageSize_21 rfl ?_
      exact ⟨congrArg (fun q => some (vi q)) (by unfold im; rw [if_neg (by omega), if_pos (by omega)]; rfl), rfl⟩
  · skip
    refine ev_iconst eX0_imageSize_9 ?_
    refine ev_iret eX0_imageSize_10 rfl ?_
    exact ⟨congrArg (fun q => some (vi q)) (by unfold im; rw [if_pos (by omega)]; rfl), rfl⟩
theorem c_imageLetter {d : Nat} {σ : St} {b : Nat} {B : Bok} (hb : Bq b) (hB : BkC σ (b + 13) B) (hm : Sm B) {s i : Nat} (hs : s < 4) (hi : i < im B s) (hw : ws B s ≤ 4) : Ct (d + 1) mX0_imageLetter [.ref b, vi s, vi i] σ (rt (vi (il B s i)) σ) := by
  refine ct_of hX0_imageLetter (Nat.le_of_ble_eq_true rfl) ?_
  refine ev_aload_n eX0_imageLetter_0 rfl ?_
  refine ev_iload_n eX0_imageLetter_1 rfl ?_
  refine ev_cV1 eX0_imageLetter_2 ⟨lX0_23, kX0_kindOf⟩ (ocB hb) rfl (c_kindOf hb hB hm (by omega)) ?_
  rintro _ _ ⟨rfl, rfl⟩
  have hk2 : bk B s ≤ 1000 := hm (4 + s) (by omega)
  unfold im at hi
  refine ev_istore_n eX0_imageLetter_5 (by decide) ?_
  refine ev_iload_n eX0_imageLetter_6 rfl ?_
  refine ev_iconst eX0_imageLetter_7 ?_
  refine ev_icmp_eq 16 eX0_imageLetter_8 rfl (by omega) (by omega) (fun h8 => ?_) (fun h8 => ?_)
  · skip
    refine ev_iload_n eX0_imageLetter_16 rfl ?_
    refine ev_iret eX0_imageLetter_17 rfl ?_
    exact ⟨congrArg (fun q => some (vi q)) (by unfold il; rw [if_pos (by omega)]), rfl⟩
  · skip
    refine ev_iload_n eX0_imageLetter_11 rfl ?_
    refine ev_iconst eX0_imageLetter_12 ?_
    refine ev_icmp_ne 18 eX0_imageLetter_13 rfl (by omega) (by omega) (fun h13 => ?_) (fun h13 => ?_)
    · skip
      rw [if_neg (by omega), if_neg (by omega)] at hi
      refine ev_aload_n eX0_imageLetter_18 rfl ?_
      refine ev_iload_n eX0_imageLetter_19 rfl ?_
      refine ev_iload_n eX0_imageLetter_20 rfl ?_
      refine ev_iconst eX0_imageLetter_21 ?_
      refine ev_icmp_ne 37 eX0_imageLetter_22 rfl (by omega) (by omega) (fun h22 => ?_) (fun h22 => ?_)
      · skip
        refine ev_iload_n eX0_imageLetter_37 rfl ?_
        refine ev_cV2 eX0_imageLetter_38 ⟨lX0_40, kX0_wordLetter⟩ (ocB hb) rfl (c_wordLetter hb hB hm hs (i := i) (by omega)) ?_
        rintro _ _ ⟨rfl, rfl⟩
        refine ev_iret eX0_imageLetter_41 rfl ?_
        exact ⟨congrArg (fun q => some (vi q)) (by unfold il; rw [if_neg (by omega), if_neg (by omega)]), rfl⟩
      · skip
        refine ev_aload_n eX0_imageLetter_25 rfl ?_
        refine ev_iload_n eX0_imageLetter_26 rfl ?_
        refine ev_cV1 eX0_imageLetter_27 ⟨lX0_37, kX0_wordSize⟩ (ocB hb) rfl (c_wordSize hb hB hm hs) ?_
        rintro _ _ ⟨rfl, rfl⟩
        refine ev_iconst eX0_imageLetter_30 ?_
        refine ev_isub eX0_imageLetter_31 ?_
        refine ev_iload_n eX0_imageLetter_32 rfl ?_
        refine ev_isub eX0_imageLetter_33 ?_
        refine ev_goto 38 eX0_imageLetter_34 rfl ?_
        rw [show ((ws B s : Int) - 1 - (i : Int)) = ((ws B s - 1 - i : Nat) : Int) by omega]
        refine ev_cV2 eX0_imageLetter_38 ⟨lX0_40, kX0_wordLetter⟩ (ocB hb) rfl (c_wordLetter hb hB hm hs (i := ws B s - 1 - i) (by omega)) ?_
        rintro _ _ ⟨rfl, rfl⟩
        refine ev_iret eX0_imageLetter_41 rfl ?_
        exact ⟨congrArg (fun q => some (vi q)) (by unfold il; rw [if_neg (by omega), if_pos (by omega)]), rfl⟩
    · skip
      refine ev_iload_n eX0_imageLetter_16 rfl ?_
      refine ev_iret eX0_imageLetter_17 rfl ?_
      exact ⟨congrArg (fun q => some (vi q)) (by unfold il; rw [if_pos (by omega)]), rfl⟩
