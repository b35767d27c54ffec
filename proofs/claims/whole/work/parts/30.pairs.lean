/-! Pairs: sets of bits -/
def orF (f : Nat → Nat) : Nat → Nat
  | 0 => 0
  | n + 1 => orF f n ||| 2 ^ f n
theorem orF_s (f : Nat → Nat) (n : Nat) : orF f (n + 1) = orF f n ||| 2 ^ f n := rfl
theorem p2_bit (a k : Nat) : (2 ^ a).testBit k = true ↔ a = k := by
  rw [Nat.testBit_two_pow]
  simp
theorem orF_bit (f : Nat → Nat) (n k : Nat) : (orF f n).testBit k = true ↔ ∃ i, i < n ∧ f i = k := by
  induction n with
  | zero => simp [orF]
  | succ n ih =>
    rw [orF_s, Nat.testBit_or, Bool.or_eq_true, ih, p2_bit]
    constructor
    · rintro (⟨i, h1, h2⟩ | h)
      · exact ⟨i, by omega, h2⟩
      · exact ⟨n, by omega, h⟩
    · rintro ⟨i, h1, h2⟩
      by_cases e : i = n
      · subst e; exact Or.inr h2
      · exact Or.inl ⟨i, by omega, h2⟩
theorem orF_lt {f : Nat → Nat} {n m : Nat} (h : ∀ i, i < n → f i < m) : orF f n < 2 ^ m := by
  induction n with
  | zero => exact Nat.two_pow_pos m
  | succ n ih => exact Nat.or_lt_two_pow (ih (fun i hi => h i (by omega))) (Nat.pow_lt_pow_right (by omega) (h n (by omega)))
theorem bit_div (x k : Nat) : x.testBit k = true ↔ x / 2 ^ k % 2 = 1 := by
  rw [Nat.testBit_eq_decide_div_mod_eq]
  simp
theorem and_p2 (x k : Nat) : (x &&& 2 ^ k) = 0 ↔ ¬ x.testBit k = true := by
  constructor
  · intro h q
    have := congrArg (fun z => z.testBit k) h
    simp [Nat.testBit_and, q] at this
  · intro h
    apply Nat.eq_of_testBit_eq
    intro i
    rw [Nat.testBit_and, Nat.zero_testBit]
    by_cases e : k = i
    · subst e
      simp [h]
    · rw [Nat.testBit_two_pow]
      simp [e]
theorem p2_lt {a n : Nat} (h : a < n) : 2 ^ a < 2 ^ n := Nat.pow_lt_pow_right (by omega) h
theorem p2_30 {a : Nat} (h : a < 31) : 2 ^ a < 2147483648 := Nat.pow_lt_pow_right (n := 31) (by omega) h
theorem sh1 {a : Nat} (h : a < 31) : iShl 1 (a : Int) = ((2 ^ a : Nat) : Int) := (iShl_n (a := 1) (by omega) (by rw [Nat.one_mul]; exact p2_30 h)).trans (by rw [Nat.one_mul])
theorem hasB {x k : Nat} (hx : x < 2147483648) (hk : k < 32) : iAnd (iShr (x : Int) (k : Int)) 1 = ((x / 2 ^ k % 2 : Nat) : Int) := by
  rw [iShr_n hx hk, show (1 : Int) = ((1 : Nat) : Int) from rfl, iAnd_n (by have := Nat.div_le_self x (2 ^ k); omega) (by omega), Nat.and_one_is_mod]
/-- a book that is there, as its letters' bits go -/
def fiL (B : Bok) (s : Nat) : Nat := orF (il B s) (im B s)
def wi (B : Bok) (s : Nat) : Nat := orF (fun i => 4 * il B s i + il B s (i + 1)) (im B s - 1)
def rdL (B : Bok) : Nat → Nat → Nat
  | 0, L => L
  | s + 1, L => if (rdL B s L).testBit s = true then rdL B s L ||| fiL B s else rdL B s L
def wiF (B : Bok) (L : Nat) : Nat → Nat
  | 0 => 0
  | s + 1 => if L.testBit s = true then wiF B L s ||| wi B s else wiF B L s
theorem rdL_t {B : Bok} {s L : Nat} (h : (rdL B s L).testBit s = true) : rdL B (s + 1) L = rdL B s L ||| fiL B s := if_pos h
theorem rdL_f {B : Bok} {s L : Nat} (h : ¬ (rdL B s L).testBit s = true) : rdL B (s + 1) L = rdL B s L := if_neg h
theorem wiF_t {B : Bok} {s L : Nat} (h : L.testBit s = true) : wiF B L (s + 1) = wiF B L s ||| wi B s := if_pos h
theorem wiF_f {B : Bok} {s L : Nat} (h : ¬ L.testBit s = true) : wiF B L (s + 1) = wiF B L s := if_neg h
def lst (B : Bok) (x : Nat) : Nat := il B x (im B x - 1)
def mtY (B : Bok) (P x : Nat) : Nat → Nat → Nat
  | 0, M => M
  | y + 1, M => if P.testBit (4 * x + y) = true then mtY B P x y M ||| 2 ^ (4 * lst B x + il B y 0) else mtY B P x y M
theorem mtY_t {B : Bok} {P x y M : Nat} (h : P.testBit (4 * x + y) = true) : mtY B P x (y + 1) M = mtY B P x y M ||| 2 ^ (4 * lst B x + il B y 0) := if_pos h
theorem mtY_f {B : Bok} {P x y M : Nat} (h : ¬ P.testBit (4 * x + y) = true) : mtY B P x (y + 1) M = mtY B P x y M := if_neg h
def mtX (B : Bok) (P : Nat) : Nat → Nat
  | 0 => 0
  | x + 1 => mtY B P x (B 2) (mtX B P x)
def itN {S : Type} (f : S → S) : Nat → S → S
  | 0, s => s
  | n + 1, s => itN f n (f s)
theorem itN_fix {S : Type} {f : S → S} {s : S} (h : f s = s) : ∀ n, itN f n s = s
  | 0 => rfl
  | n + 1 => by rw [itN, h]; exact itN_fix h n
def rpF (B : Bok) (P : Nat) : Nat → Nat
  | 0 => P
  | i + 1 => rpF B P i ||| 2 ^ (4 * rw_ B i + rw_ B (i + 1))
def mstep (B : Bok) (P : Nat) : Nat := P ||| mtX B P (B 2)
def lev (B : Bok) : Nat := itN (rdL B (B 2)) 4 (orF (rw_ B) (B 3))
def pr0 (B : Bok) : Nat := rpF B (wiF B (lev B) (B 2)) (B 3 - 1)
def prC (B : Bok) : Nat := itN (mstep B) 16 (pr0 B)
theorem fiL_lt {B : Bok} (h : Ok B) {s : Nat} (hs : s < B 2) : fiL B s < 16 := orF_lt (m := 4) (fun i hi => il_lt h.1 (by have := h.1.2.1; omega) hi)
theorem wi_lt {B : Bok} (h : Ok B) {s : Nat} (hs : s < B 2) : wi B s < 65536 := orF_lt (m := 16) (fun i hi => by
  have h1 := il_lt h.1 (s := s) (i := i) (by have := h.1.2.1; omega) (by omega)
  have h2 := il_lt h.1 (s := s) (i := i + 1) (by have := h.1.2.1; omega) (by omega)
  omega)
theorem rdL_lt {B : Bok} (h : Ok B) : ∀ (s L : Nat), s ≤ B 2 → L < 16 → rdL B s L < 16
  | 0, _, _, hL => hL
  | s + 1, L, hs, hL => by
    have := rdL_lt h s L (by omega) hL
    unfold rdL
    split
    · exact Nat.or_lt_two_pow (n := 4) this (fiL_lt h (by omega))
    · exact this
theorem wiF_lt {B : Bok} (h : Ok B) (L : Nat) : ∀ s, s ≤ B 2 → wiF B L s < 65536
  | 0, _ => by show 0 < 65536; decide
  | s + 1, hs => by
    have := wiF_lt h L s (by omega)
    unfold wiF
    split
    · exact Nat.or_lt_two_pow (n := 16) this (wi_lt h (by omega))
    · exact this
theorem pb_lt {B : Bok} (h : Ok B) {x y : Nat} (hx : x < B 2) (hy : y < B 2) : 4 * lst B x + il B y 0 < 16 := by
  have h1 := il_lt h.1 (s := x) (i := im B x - 1) (by have := h.1.2.1; omega) (by have := h.im1 hx; omega)
  have h2 := il_lt h.1 (s := y) (i := 0) (by have := h.1.2.1; omega) (by have := h.im1 hy; omega)
  unfold lst
  omega
theorem mtY_lt {B : Bok} (h : Ok B) {P x : Nat} (hx : x < B 2) : ∀ y M, y ≤ B 2 → M < 65536 → mtY B P x y M < 65536
  | 0, _, _, hM => hM
  | y + 1, M, hy, hM => by
    have := mtY_lt h (P := P) hx y M (by omega) hM
    unfold mtY
    split
    · exact Nat.or_lt_two_pow (n := 16) this (p2_lt (pb_lt h hx (by omega)))
    · exact this
theorem mtX_lt {B : Bok} (h : Ok B) (P : Nat) : ∀ x, x ≤ B 2 → mtX B P x < 65536
  | 0, _ => by show 0 < 65536; decide
  | x + 1, hx => mtY_lt h (by omega) _ _ (Nat.le_refl _) (mtX_lt h P x (by omega))
theorem rpF_lt {B : Bok} (h : Ok B) {P : Nat} (hP : P < 65536) : ∀ i, i ≤ B 3 - 1 → rpF B P i < 65536
  | 0, _ => hP
  | i + 1, hi => by
    have h1 := h.1.2.2.2.2.2.2.2.2.2 i (by have := h.1.2.2.1; omega)
    have h2 := h.1.2.2.2.2.2.2.2.2.2 (i + 1) (by have := h.1.2.2.1; omega)
    exact Nat.or_lt_two_pow (n := 16) (rpF_lt h hP i (by omega)) (p2_lt (n := 16) (by omega))
set_option maxRecDepth 20000 in
theorem c_bit {d : Nat} {σ : St} {x y : Nat} (hx : x < 4) (hy : y < 4) : Ct (d) mX7_bit [vi x, vi y] σ (rt (vi ((2 ^ (4 * x + y) : Nat) : Int)) σ) := by
  refine ct_of hX7_bit (Nat.le_of_ble_eq_true rfl) ?_
  refine ev_iconst eX7_bit_0 ?_
  refine ev_iconst eX7_bit_1 ?_
  refine ev_iload_n eX7_bit_2 rfl ?_
  refine ev_imul eX7_bit_3 ?_
  refine ev_iload_n eX7_bit_4 rfl ?_
  refine ev_iadd eX7_bit_5 ?_
  refine ev_ishl eX7_bit_6 ?_
  refine ev_iret eX7_bit_7 rfl ?_
  exact ⟨congrArg (fun q => some (vi q)) ((show iShl 1 (4 * (x : Int) + (y : Int)) = _ from by rw [show (4 * (x : Int) + (y : Int)) = ((4 * x + y : Nat) : Int) by omega]; exact sh1 (by omega)).symm), rfl⟩
set_option maxRecDepth 20000 in
theorem c_loi_l {d : Nat} {σ : St} {b : Nat} {B : Bok} (hb : Bq b) (hB : BkC σ (b + 13) B) (hO : Ok B) {s : Nat} (hs : s < B 2) : ∀ (fu : Nat) {i : Nat}, im B s - i < fu → i ≤ im B s → Ev (d + 2) mX7_lettersOfImage 4 [.ref b, vi s, vi (orF (il B s) i), vi i] [] σ (rt (vi (fiL B s)) σ) := by
  intro fu
  induction fu with
  | zero => intros; omega
  | succ fu ih =>
    intro i hn h1
    have hf := hO.1
    have h7 := hf.2.1
    have h8 := hf.2.2.1
    have h4 := im_le hf (s := s) (by omega)
    refine ev_iload_n eX7_lettersOfImage_4 rfl ?_
    refine ev_aload_n eX7_lettersOfImage_5 rfl ?_
    refine ev_iload_n eX7_lettersOfImage_6 rfl ?_
    refine ev_cV1 eX7_lettersOfImage_7 ⟨lX7_40, kX0_imageSize⟩ (ocB hb) rfl (c_imageSize hb hB hf.1 (s := s) (by omega)) ?_
    rintro _ _ ⟨rfl, rfl⟩
    refine ev_icmp_ge 30 eX7_lettersOfImage_10 rfl (by omega) (by omega) (fun h10 => ?_) (fun h10 => ?_)
    · skip
      refine ev_iload_n eX7_lettersOfImage_30 rfl ?_
      refine ev_iret eX7_lettersOfImage_31 rfl ?_
      exact ⟨congrArg (fun q => some (vi q)) (by rw [show i = im B s by omega]; rfl), rfl⟩
    · skip
      refine ev_iload_n eX7_lettersOfImage_13 rfl ?_
      refine ev_iconst eX7_lettersOfImage_14 ?_
      refine ev_aload_n eX7_lettersOfImage_15 rfl ?_
      refine ev_iload_n eX7_lettersOfImage_16 rfl ?_
      refine ev_iload_n eX7_lettersOfImage_17 rfl ?_
      refine ev_cV2 eX7_lettersOfImage_18 ⟨lX7_43, kX0_imageLetter⟩ (ocB hb) rfl (c_imageLetter hb hB hf.1 (s := s) (i := i) (by omega) (by omega) (hf.2.2.2.1 _ (by omega))) ?_
      rintro _ _ ⟨rfl, rfl⟩
      have hq1 := il_lt hf (s := s) (i := i) (by omega) (by omega)
      refine ev_ishl eX7_lettersOfImage_21 ?_
      refine ev_ior eX7_lettersOfImage_22 ?_
      have hx := orF_lt (f := il B s) (n := i) (m := 4) (fun q hq => il_lt hf (by omega) (by omega))
      rw [sh1 (by omega), iOr_n (by omega) (p2_30 (by omega))]
      refine ev_istore_n eX7_lettersOfImage_23 (by decide) ?_
      refine ev_iinc eX7_lettersOfImage_24 rfl (by decide) ?_
      refine ev_goto 4 eX7_lettersOfImage_27 rfl ?_
      exact ih (i := i + 1) (by omega) (by omega)
set_option maxRecDepth 20000 in
theorem c_loi {d : Nat} {σ : St} {b : Nat} {B : Bok} (hb : Bq b) (hB : BkC σ (b + 13) B) (hO : Ok B) {s : Nat} (hs : s < B 2) : Ct (d + 2) mX7_lettersOfImage [.ref b, vi s] σ (rt (vi (fiL B s)) σ) := by
  refine ct_of hX7_lettersOfImage (Nat.le_of_ble_eq_true rfl) ?_
  refine ev_iconst eX7_lettersOfImage_0 ?_
  refine ev_istore_n eX7_lettersOfImage_1 (by decide) ?_
  refine ev_iconst eX7_lettersOfImage_2 ?_
  refine ev_istore_n eX7_lettersOfImage_3 (by decide) ?_
  exact c_loi_l hb hB hO hs 5 (i := 0) (by have := im_le hO.1 (s := s) (by have := hO.1.2.1; omega); omega) (by omega)
set_option maxRecDepth 20000 in
theorem c_wi_l {d : Nat} {σ : St} {b : Nat} {B : Bok} (hb : Bq b) (hB : BkC σ (b + 13) B) (hO : Ok B) {s : Nat} (hs : s < B 2) : ∀ (fu : Nat) {i : Nat}, im B s - i < fu → i ≤ im B s - 1 → Ev (d + 2) mX7_withinImage 4 [.ref b, vi s, vi (orF (fun i => 4 * il B s i + il B s (i + 1)) i), vi i] [] σ (rt (vi (wi B s)) σ) := by
  intro fu
  induction fu with
  | zero => intros; omega
  | succ fu ih =>
    intro i hn h1
    have hf := hO.1
    have h7 := hf.2.1
    have h8 := hf.2.2.1
    have h4 := im_le hf (s := s) (by omega)
    have h5 := hO.im1 hs
    refine ev_iload_n eX7_withinImage_4 rfl ?_
    refine ev_iconst eX7_withinImage_5 ?_
    refine ev_iadd eX7_withinImage_6 ?_
    refine ev_aload_n eX7_withinImage_7 rfl ?_
    refine ev_iload_n eX7_withinImage_8 rfl ?_
    refine ev_cV1 eX7_withinImage_9 ⟨lX7_40, kX0_imageSize⟩ (ocB hb) rfl (c_imageSize hb hB hf.1 (s := s) (by omega)) ?_
    rintro _ _ ⟨rfl, rfl⟩
    refine ev_icmp_ge 41 eX7_withinImage_12 rfl (by omega) (by omega) (fun h12 => ?_) (fun h12 => ?_)
    · skip
      refine ev_iload_n eX7_withinImage_41 rfl ?_
      refine ev_iret eX7_withinImage_42 rfl ?_
      exact ⟨congrArg (fun q => some (vi q)) (by rw [show i = im B s - 1 by omega]; rfl), rfl⟩
    · skip
      refine ev_iload_n eX7_withinImage_15 rfl ?_
      refine ev_aload_n eX7_withinImage_16 rfl ?_
      refine ev_iload_n eX7_withinImage_17 rfl ?_
      refine ev_iload_n eX7_withinImage_18 rfl ?_
      refine ev_cV2 eX7_withinImage_19 ⟨lX7_43, kX0_imageLetter⟩ (ocB hb) rfl (c_imageLetter hb hB hf.1 (s := s) (i := i) (by omega) (by omega) (hf.2.2.2.1 _ (by omega))) ?_
      rintro _ _ ⟨rfl, rfl⟩
      have hq1 := il_lt hf (s := s) (i := i) (by omega) (by omega)
      refine ev_aload_n eX7_withinImage_22 rfl ?_
      refine ev_iload_n eX7_withinImage_23 rfl ?_
      refine ev_iload_n eX7_withinImage_24 rfl ?_
      refine ev_iconst eX7_withinImage_25 ?_
      refine ev_iadd eX7_withinImage_26 ?_
      refine ev_cV2 eX7_withinImage_27 ⟨lX7_43, kX0_imageLetter⟩ (ocB hb) rfl (c_imageLetter hb hB hf.1 (s := s) (i := i + 1) (by omega) (by omega) (hf.2.2.2.1 _ (by omega))) ?_
      rintro _ _ ⟨rfl, rfl⟩
      have hq5 := il_lt hf (s := s) (i := i + 1) (by omega) (by omega)
      refine ev_cS2 eX7_withinImage_30 ⟨lX7_27, kX7_bit⟩ rfl (c_bit hq1 hq5) ?_
      rintro _ _ ⟨rfl, rfl⟩
      refine ev_ior eX7_withinImage_33 ?_
      have hx := orF_lt (f := fun i => 4 * il B s i + il B s (i + 1)) (n := i) (m := 16) (fun q hq => by
        have z1 := il_lt hf (s := s) (i := q) (by omega) (by omega)
        have z2 := il_lt hf (s := s) (i := q + 1) (by omega) (by omega)
        omega)
      rw [iOr_n (by omega) (p2_30 (by omega))]
      refine ev_istore_n eX7_withinImage_34 (by decide) ?_
      refine ev_iinc eX7_withinImage_35 rfl (by decide) ?_
      refine ev_goto 4 eX7_withinImage_38 rfl ?_
      exact ih (i := i + 1) (by omega) (by omega)
set_option maxRecDepth 20000 in
theorem c_wi {d : Nat} {σ : St} {b : Nat} {B : Bok} (hb : Bq b) (hB : BkC σ (b + 13) B) (hO : Ok B) {s : Nat} (hs : s < B 2) : Ct (d + 2) mX7_withinImage [.ref b, vi s] σ (rt (vi (wi B s)) σ) := by
  refine ct_of hX7_withinImage (Nat.le_of_ble_eq_true rfl) ?_
  refine ev_iconst eX7_withinImage_0 ?_
  refine ev_istore_n eX7_withinImage_1 (by decide) ?_
  refine ev_iconst eX7_withinImage_2 ?_
  refine ev_istore_n eX7_withinImage_3 (by decide) ?_
  exact c_wi_l hb hB hO hs 5 (i := 0) (by have := im_le hO.1 (s := s) (by have := hO.1.2.1; omega); omega) (by omega)
set_option maxRecDepth 20000 in
theorem c_wis_l {d : Nat} {σ : St} {b : Nat} {B : Bok} (hb : Bq b) (hB : BkC σ (b + 13) B) (hO : Ok B) {L : Nat} (hL : L < 16) : ∀ (fu : Nat) {s : Nat}, B 2 - s < fu → s ≤ B 2 → Ev (d + 3) mX7_withinImages 4 [.ref b, vi L, vi (wiF B L s), vi s] [] σ (rt (vi (wiF B L (B 2))) σ) := by
  intro fu
  induction fu with
  | zero => intros; omega
  | succ fu ih =>
    intro s hn h1
    have hf := hO.1
    have h7 := hf.2.1
    have h8 := hf.2.2.1
    refine ev_iload_n eX7_withinImages_4 rfl ?_
    refine ev_aload_n eX7_withinImages_5 rfl ?_
    refine ev_cV0 eX7_withinImages_6 ⟨lX7_34, kX0_sortCount⟩ (ocB hb) rfl (c_sortCount hb hB hf.1) ?_
    rintro _ _ ⟨rfl, rfl⟩
    refine ev_icmp_ge 35 eX7_withinImages_9 rfl (by omega) (by omega) (fun h9 => ?_) (fun h9 => ?_)
    · skip
      refine ev_iload_n eX7_withinImages_35 rfl ?_
      refine ev_iret eX7_withinImages_36 rfl ?_
      exact ⟨congrArg (fun q => some (vi q)) (by rw [show s = B 2 by omega]), rfl⟩
    · skip
      refine ev_iload_n eX7_withinImages_12 rfl ?_
      refine ev_iload_n eX7_withinImages_13 rfl ?_
      refine ev_ishr eX7_withinImages_14 ?_
      refine ev_iconst eX7_withinImages_15 ?_
      refine ev_iand eX7_withinImages_16 ?_
      refine ev_iconst eX7_withinImages_17 ?_
      rw [hasB (by omega) (by omega)]
      refine ev_icmp_ne 29 eX7_withinImages_18 rfl (by omega) (by omega) (fun h18 => ?_) (fun h18 => ?_)
      · skip
        refine ev_iinc eX7_withinImages_29 rfl (by decide) ?_
        refine ev_goto 4 eX7_withinImages_32 rfl ?_
        have hbt := bit_div L s
        first | (rw [← wiF_f (B := B) (fun z => by have := hbt.mp z; omega)]; exact ih (s := s + 1) (by omega) (by omega)) | (rw [← wiF_t (B := B) (hbt.mpr (by omega))]; exact ih (s := s + 1) (by omega) (by omega))
      · skip
        refine ev_iload_n eX7_withinImages_21 rfl ?_
        refine ev_aload_n eX7_withinImages_22 rfl ?_
        refine ev_iload_n eX7_withinImages_23 rfl ?_
        refine ev_cS2 eX7_withinImages_24 ⟨lX7_46, kX7_withinImage⟩ rfl (c_wi hb hB hO (s := s) (by omega)) ?_
        rintro _ _ ⟨rfl, rfl⟩
        have hw := wi_lt hO (s := s) (by omega)
        have hx := wiF_lt hO L s (by omega)
        refine ev_ior eX7_withinImages_27 ?_
        rw [iOr_n (by omega) (by omega)]
        refine ev_istore_n eX7_withinImages_28 (by decide) ?_
        refine ev_iinc eX7_withinImages_29 rfl (by decide) ?_
        refine ev_goto 4 eX7_withinImages_32 rfl ?_
        have hbt := bit_div L s
        first | (rw [← wiF_f (B := B) (fun z => by have := hbt.mp z; omega)]; exact ih (s := s + 1) (by omega) (by omega)) | (rw [← wiF_t (B := B) (hbt.mpr (by omega))]; exact ih (s := s + 1) (by omega) (by omega))
set_option maxRecDepth 20000 in
theorem c_wis {d : Nat} {σ : St} {b : Nat} {B : Bok} (hb : Bq b) (hB : BkC σ (b + 13) B) (hO : Ok B) {L : Nat} (hL : L < 16) : Ct (d + 3) mX7_withinImages [.ref b, vi L] σ (rt (vi (wiF B L (B 2))) σ) := by
  refine ct_of hX7_withinImages (Nat.le_of_ble_eq_true rfl) ?_
  refine ev_iconst eX7_withinImages_0 ?_
  refine ev_istore_n eX7_withinImages_1 (by decide) ?_
  refine ev_iconst eX7_withinImages_2 ?_
  refine ev_istore_n eX7_withinImages_3 (by decide) ?_
  exact c_wis_l hb hB hO hL 5 (s := 0) (by have := hO.1.2.1; omega) (by omega)
set_option maxRecDepth 20000 in
theorem c_le_in {d : Nat} {σ : St} {b : Nat} {B : Bok} (hb : Bq b) (hB : BkC σ (b + 13) B) (hO : Ok B) {r L0 : Nat} (hL0 : L0 < 16) {post : Option Value → St → Prop} (hk : Ev (d + 3) mX7_lettersEver 68 [.ref b, vi (rdL B (B 2) L0), vi r, vi (B 2)] [] σ post) : ∀ (fu : Nat) {s : Nat}, B 2 - s < fu → s ≤ B 2 → Ev (d + 3) mX7_lettersEver 37 [.ref b, vi (rdL B s L0), vi r, vi s] [] σ (post) := by
  intro fu
  induction fu with
  | zero => intros; omega
  | succ fu ih =>
    intro s hn h1
    have hf := hO.1
    have h7 := hf.2.1
    have h8 := hf.2.2.1
    refine ev_iload_n eX7_lettersEver_37 rfl ?_
    refine ev_aload_n eX7_lettersEver_38 rfl ?_
    refine ev_cV0 eX7_lettersEver_39 ⟨lX7_34, kX0_sortCount⟩ (ocB hb) rfl (c_sortCount hb hB hf.1) ?_
    rintro _ _ ⟨rfl, rfl⟩
    refine ev_icmp_ge 68 eX7_lettersEver_42 rfl (by omega) (by omega) (fun h42 => ?_) (fun h42 => ?_)
    · skip
      obtain rfl : s = B 2 := by omega
      exact hk
    · skip
      refine ev_iload_n eX7_lettersEver_45 rfl ?_
      refine ev_iload_n eX7_lettersEver_46 rfl ?_
      refine ev_ishr eX7_lettersEver_47 ?_
      refine ev_iconst eX7_lettersEver_48 ?_
      refine ev_iand eX7_lettersEver_49 ?_
      refine ev_iconst eX7_lettersEver_50 ?_
      have hx := rdL_lt hO s L0 (by omega) hL0
      rw [hasB (by omega) (by omega)]
      refine ev_icmp_ne 62 eX7_lettersEver_51 rfl (by omega) (by omega) (fun h51 => ?_) (fun h51 => ?_)
      · skip
        refine ev_iinc eX7_lettersEver_62 rfl (by decide) ?_
        refine ev_goto 37 eX7_lettersEver_65 rfl ?_
        have hbt := bit_div (rdL B s L0) s
        first | (rw [← rdL_f (fun z => by have := hbt.mp z; omega)]; exact ih (s := s + 1) (by omega) (by omega)) | (rw [← rdL_t (hbt.mpr (by omega))]; exact ih (s := s + 1) (by omega) (by omega))
      · skip
        refine ev_iload_n eX7_lettersEver_54 rfl ?_
        refine ev_aload_n eX7_lettersEver_55 rfl ?_
        refine ev_iload_n eX7_lettersEver_56 rfl ?_
        refine ev_cS2 eX7_lettersEver_57 ⟨lX7_37, kX7_lettersOfImage⟩ rfl (c_loi hb hB hO (s := s) (by omega)) ?_
        rintro _ _ ⟨rfl, rfl⟩
        have hw := fiL_lt hO (s := s) (by omega)
        refine ev_ior eX7_lettersEver_60 ?_
        rw [iOr_n (by omega) (by omega)]
        refine ev_istore_n eX7_lettersEver_61 (by decide) ?_
        refine ev_iinc eX7_lettersEver_62 rfl (by decide) ?_
        refine ev_goto 37 eX7_lettersEver_65 rfl ?_
        have hbt := bit_div (rdL B s L0) s
        first | (rw [← rdL_f (fun z => by have := hbt.mp z; omega)]; exact ih (s := s + 1) (by omega) (by omega)) | (rw [← rdL_t (hbt.mpr (by omega))]; exact ih (s := s + 1) (by omega) (by omega))
set_option maxRecDepth 20000 in
theorem c_le_l {d : Nat} {σ : St} {b : Nat} {B : Bok} (hb : Bq b) (hB : BkC σ (b + 13) B) (hO : Ok B)  : ∀ (fu : Nat) {r L : Nat} {u : Value}, 4 - r < fu → r ≤ 4 → L < 16 → itN (rdL B (B 2)) (4 - r) L = lev B → Ev (d + 3) mX7_lettersEver 30 [.ref b, vi L, vi r, u] [] σ (rt (vi (lev B)) σ) := by
  intro fu
  induction fu with
  | zero => intros; omega
  | succ fu ih =>
    intro r L u hn h1 h2 h3
    have hf := hO.1
    have h7 := hf.2.1
    have h8 := hf.2.2.1
    refine ev_iload_n eX7_lettersEver_30 rfl ?_
    refine ev_iconst eX7_lettersEver_31 ?_
    refine ev_icmp_ge 74 eX7_lettersEver_32 rfl (by omega) (by omega) (fun h32 => ?_) (fun h32 => ?_)
    · skip
      refine ev_iload_n eX7_lettersEver_74 rfl ?_
      refine ev_iret eX7_lettersEver_75 rfl ?_
      exact ⟨congrArg (fun q => some (vi q)) (by rw [← h3, show 4 - r = 0 by omega]; rfl), rfl⟩
    · skip
      refine ev_iconst eX7_lettersEver_35 ?_
      refine ev_istore_n eX7_lettersEver_36 (by decide) ?_
      refine c_le_in hb hB hO (r := r) (L0 := L) h2 ?_ 5 (s := 0) (by omega) (by omega)
      refine ev_iinc eX7_lettersEver_68 rfl (by decide) ?_
      refine ev_goto 30 eX7_lettersEver_71 rfl ?_
      refine ih (r := r + 1) (L := rdL B (B 2) L) (by omega) (by omega) (rdL_lt hO _ _ (Nat.le_refl _) h2) ?_
      rw [← h3, show 4 - r = (4 - (r + 1)) + 1 by omega]
      rfl
set_option maxRecDepth 20000 in
theorem c_le_a {d : Nat} {σ : St} {b : Nat} {B : Bok} (hb : Bq b) (hB : BkC σ (b + 13) B) (hO : Ok B)  : ∀ (fu : Nat) {i : Nat}, B 3 - i < fu → i ≤ B 3 → Ev (d + 3) mX7_lettersEver 4 [.ref b, vi (orF (rw_ B) i), vi i, .null] [] σ (rt (vi (lev B)) σ) := by
  intro fu
  induction fu with
  | zero => intros; omega
  | succ fu ih =>
    intro i hn h1
    have hf := hO.1
    have h7 := hf.2.1
    have h8 := hf.2.2.1
    have hx := orF_lt (f := rw_ B) (n := i) (m := 4) (fun q hq => hf.2.2.2.2.2.2.2.2.2 q (by omega))
    refine ev_iload_n eX7_lettersEver_4 rfl ?_
    refine ev_aload_n eX7_lettersEver_5 rfl ?_
    refine ev_cV0 eX7_lettersEver_6 ⟨lX7_17, kX0_rowSize⟩ (ocB hb) rfl (c_rowSize hb hB hf.1) ?_
    rintro _ _ ⟨rfl, rfl⟩
    refine ev_icmp_ge 28 eX7_lettersEver_9 rfl (by omega) (by omega) (fun h9 => ?_) (fun h9 => ?_)
    · skip
      refine ev_iconst eX7_lettersEver_28 ?_
      refine ev_istore_n eX7_lettersEver_29 (by decide) ?_
      obtain rfl : i = B 3 := by omega
      exact c_le_l hb hB hO 5 (r := 0) (by omega) (by omega) (by omega) rfl
    · skip
      refine ev_iload_n eX7_lettersEver_12 rfl ?_
      refine ev_iconst eX7_lettersEver_13 ?_
      refine ev_aload_n eX7_lettersEver_14 rfl ?_
      refine ev_iload_n eX7_lettersEver_15 rfl ?_
      refine ev_cV1 eX7_lettersEver_16 ⟨lX7_23, kX0_rowLetter⟩ (ocB hb) rfl (c_rowLetter hb hB hf.1 (i := i) (by omega)) ?_
      rintro _ _ ⟨rfl, rfl⟩
      have hq := hf.2.2.2.2.2.2.2.2.2 i (by omega)
      refine ev_ishl eX7_lettersEver_19 ?_
      refine ev_ior eX7_lettersEver_20 ?_
      rw [sh1 (by omega), iOr_n (by omega) (p2_30 (by omega))]
      refine ev_istore_n eX7_lettersEver_21 (by decide) ?_
      refine ev_iinc eX7_lettersEver_22 rfl (by decide) ?_
      refine ev_goto 4 eX7_lettersEver_25 rfl ?_
      exact ih (i := i + 1) (by omega) (by omega)
set_option maxRecDepth 20000 in
theorem c_le {d : Nat} {σ : St} {b : Nat} {B : Bok} (hb : Bq b) (hB : BkC σ (b + 13) B) (hO : Ok B)  : Ct (d + 3) mX7_lettersEver [.ref b] σ (rt (vi (lev B)) σ) := by
  refine ct_of hX7_lettersEver (Nat.le_of_ble_eq_true rfl) ?_
  refine ev_iconst eX7_lettersEver_0 ?_
  refine ev_istore_n eX7_lettersEver_1 (by decide) ?_
  refine ev_iconst eX7_lettersEver_2 ?_
  refine ev_istore_n eX7_lettersEver_3 (by decide) ?_
  exact c_le_a hb hB hO 9 (i := 0) (by have := hO.1.2.2.1; omega) (by omega)
set_option maxRecDepth 20000 in
theorem c_wm_in {d : Nat} {σ : St} {b : Nat} {B : Bok} (hb : Bq b) (hB : BkC σ (b + 13) B) (hO : Ok B) {P x M0 : Nat} (hP : P < 65536) (hx : x < B 2) (hM : M0 < 65536) {post : Option Value → St → Prop} (hk : Ev (d + 2) mX7_whereImagesMeet 70 [.ref b, vi P, vi (mtY B P x (B 2) M0), vi x, vi (lst B x), vi (B 2)] [] σ post) : ∀ (fu : Nat) {q : Nat}, B 2 - q < fu → q ≤ B 2 → Ev (d + 2) mX7_whereImagesMeet 29 [.ref b, vi P, vi (mtY B P x q M0), vi x, vi (lst B x), vi q] [] σ (post) := by
  intro fu
  induction fu with
  | zero => intros; omega
  | succ fu ih =>
    intro q hn h1
    have hf := hO.1
    have h7 := hf.2.1
    have h8 := hf.2.2.1
    refine ev_iload eX7_whereImagesMeet_29 rfl ?_
    refine ev_aload_n eX7_whereImagesMeet_31 rfl ?_
    refine ev_cV0 eX7_whereImagesMeet_32 ⟨lX7_34, kX0_sortCount⟩ (ocB hb) rfl (c_sortCount hb hB hf.1) ?_
    rintro _ _ ⟨rfl, rfl⟩
    refine ev_icmp_ge 70 eX7_whereImagesMeet_35 rfl (by omega) (by omega) (fun h35 => ?_) (fun h35 => ?_)
    · skip
      obtain rfl : q = B 2 := by omega
      exact hk
    · skip
      refine ev_iload_n eX7_whereImagesMeet_38 rfl ?_
      refine ev_iload_n eX7_whereImagesMeet_39 rfl ?_
      refine ev_iload eX7_whereImagesMeet_40 rfl ?_
      refine ev_cS2 eX7_whereImagesMeet_42 ⟨lX7_27, kX7_bit⟩ rfl (c_bit (x := x) (y := q) (by omega) (by omega)) ?_
      rintro _ _ ⟨rfl, rfl⟩
      have h15 : 2 ^ (4 * x + q) < 2 ^ 16 := p2_lt (by omega)
      have hmx := mtY_lt hO (P := P) hx q M0 (by omega) hM
      have hl1 : lst B x < 4 := il_lt hf (s := x) (i := im B x - 1) (by omega) (by have := hO.im1 hx; omega)
      refine ev_iand eX7_whereImagesMeet_45 ?_
      rw [iAnd_n (by omega) (by omega)]
      have hA := Nat.and_lt_two_pow (n := 16) P h15
      refine ev_if_eq 64 eX7_whereImagesMeet_46 rfl (by omega) (fun h46 => ?_) (fun h46 => ?_)
      · skip
        refine ev_iinc eX7_whereImagesMeet_64 rfl (by decide) ?_
        refine ev_goto 29 eX7_whereImagesMeet_67 rfl ?_
        have hbt := and_p2 P (4 * x + q)
        first | (rw [← mtY_f (B := B) (hbt.mp (by omega))]; exact ih (q := q + 1) (by omega) (by omega)) | (rw [← mtY_t (B := B) (Classical.byContradiction (fun z => h46 (by rw [hbt.mpr z]; rfl)))]; exact ih (q := q + 1) (by omega) (by omega))
      · skip
        refine ev_iload_n eX7_whereImagesMeet_49 rfl ?_
        refine ev_iload eX7_whereImagesMeet_50 rfl ?_
        refine ev_aload_n eX7_whereImagesMeet_52 rfl ?_
        refine ev_iload eX7_whereImagesMeet_53 rfl ?_
        refine ev_iconst eX7_whereImagesMeet_55 ?_
        refine ev_cV2 eX7_whereImagesMeet_56 ⟨lX7_43, kX0_imageLetter⟩ (ocB hb) rfl (c_imageLetter hb hB hf.1 (s := q) (i := 0) (by omega) (by have := hO.im1 (s := q) (by omega); omega) (hf.2.2.2.1 _ (by omega))) ?_
        rintro _ _ ⟨rfl, rfl⟩
        have hq1 := il_lt hf (s := q) (i := 0) (by omega) (by have := hO.im1 (s := q) (by omega); omega)
        refine ev_cS2 eX7_whereImagesMeet_59 ⟨lX7_27, kX7_bit⟩ rfl (c_bit (x := lst B x) (y := il B q 0) hl1 hq1) ?_
        rintro _ _ ⟨rfl, rfl⟩
        refine ev_ior eX7_whereImagesMeet_62 ?_
        rw [iOr_n (by omega) (p2_30 (by omega))]
        refine ev_istore_n eX7_whereImagesMeet_63 (by decide) ?_
        refine ev_iinc eX7_whereImagesMeet_64 rfl (by decide) ?_
        refine ev_goto 29 eX7_whereImagesMeet_67 rfl ?_
        have hbt := and_p2 P (4 * x + q)
        first | (rw [← mtY_f (B := B) (hbt.mp (by omega))]; exact ih (q := q + 1) (by omega) (by omega)) | (rw [← mtY_t (B := B) (Classical.byContradiction (fun z => h46 (by rw [hbt.mpr z]; rfl)))]; exact ih (q := q + 1) (by omega) (by omega))
set_option maxRecDepth 20000 in
theorem c_wm_l {d : Nat} {σ : St} {b : Nat} {B : Bok} (hb : Bq b) (hB : BkC σ (b + 13) B) (hO : Ok B) {P : Nat} (hP : P < 65536) : ∀ (fu : Nat) {x : Nat} {u4 u5 : Value}, B 2 - x < fu → x ≤ B 2 → Ev (d + 2) mX7_whereImagesMeet 4 [.ref b, vi P, vi (mtX B P x), vi x, u4, u5] [] σ (rt (vi (mtX B P (B 2))) σ) := by
  intro fu
  induction fu with
  | zero => intros; omega
  | succ fu ih =>
    intro x u4 u5 hn h1
    have hf := hO.1
    have h7 := hf.2.1
    have h8 := hf.2.2.1
    refine ev_iload_n eX7_whereImagesMeet_4 rfl ?_
    refine ev_aload_n eX7_whereImagesMeet_5 rfl ?_
    refine ev_cV0 eX7_whereImagesMeet_6 ⟨lX7_34, kX0_sortCount⟩ (ocB hb) rfl (c_sortCount hb hB hf.1) ?_
    rintro _ _ ⟨rfl, rfl⟩
    refine ev_icmp_ge 76 eX7_whereImagesMeet_9 rfl (by omega) (by omega) (fun h9 => ?_) (fun h9 => ?_)
    · skip
      refine ev_iload_n eX7_whereImagesMeet_76 rfl ?_
      refine ev_iret eX7_whereImagesMeet_77 rfl ?_
      exact ⟨congrArg (fun q => some (vi q)) (by rw [show x = B 2 by omega]), rfl⟩
    · skip
      have hi1 := hO.im1 (s := x) (by omega)
      refine ev_aload_n eX7_whereImagesMeet_12 rfl ?_
      refine ev_iload_n eX7_whereImagesMeet_13 rfl ?_
      refine ev_aload_n eX7_whereImagesMeet_14 rfl ?_
      refine ev_iload_n eX7_whereImagesMeet_15 rfl ?_
      refine ev_cV1 eX7_whereImagesMeet_16 ⟨lX7_40, kX0_imageSize⟩ (ocB hb) rfl (c_imageSize hb hB hf.1 (s := x) (by omega)) ?_
      rintro _ _ ⟨rfl, rfl⟩
      refine ev_iconst eX7_whereImagesMeet_19 ?_
      refine ev_isub eX7_whereImagesMeet_20 ?_
      rw [show ((im B x : Int) - 1) = ((im B x - 1 : Nat) : Int) by omega]
      refine ev_cV2 eX7_whereImagesMeet_21 ⟨lX7_43, kX0_imageLetter⟩ (ocB hb) rfl (c_imageLetter hb hB hf.1 (s := x) (i := im B x - 1) (by omega) (by omega) (hf.2.2.2.1 _ (by omega))) ?_
      rintro _ _ ⟨rfl, rfl⟩
      refine ev_istore eX7_whereImagesMeet_24 (by decide) ?_
      refine ev_iconst eX7_whereImagesMeet_26 ?_
      refine ev_istore eX7_whereImagesMeet_27 (by decide) ?_
      refine c_wm_in hb hB hO (x := x) (M0 := mtX B P x) hP (by omega) (mtX_lt hO P x (by omega)) ?_ 5 (q := 0) (by omega) (by omega)
      refine ev_iinc eX7_whereImagesMeet_70 rfl (by decide) ?_
      refine ev_goto 4 eX7_whereImagesMeet_73 rfl ?_
      exact ih (x := x + 1) (by omega) (by omega)
set_option maxRecDepth 20000 in
theorem c_wm {d : Nat} {σ : St} {b : Nat} {B : Bok} (hb : Bq b) (hB : BkC σ (b + 13) B) (hO : Ok B) {P : Nat} (hP : P < 65536) : Ct (d + 2) mX7_whereImagesMeet [.ref b, vi P] σ (rt (vi (mtX B P (B 2))) σ) := by
  refine ct_of hX7_whereImagesMeet (Nat.le_of_ble_eq_true rfl) ?_
  refine ev_iconst eX7_whereImagesMeet_0 ?_
  refine ev_istore_n eX7_whereImagesMeet_1 (by decide) ?_
  refine ev_iconst eX7_whereImagesMeet_2 ?_
  refine ev_istore_n eX7_whereImagesMeet_3 (by decide) ?_
  exact c_wm_l hb hB hO hP 5 (x := 0) (by have := hO.1.2.1; omega) (by omega)
set_option maxRecDepth 20000 in
theorem c_in_l {d : Nat} {σ : St} {b : Nat} {B : Bok} (hb : Bq b) (hB : BkC σ (b + 13) B) (hO : Ok B)  : ∀ (fu : Nat) {r P : Nat} {u : Value}, 16 - r < fu → r ≤ 16 → P < 65536 → itN (mstep B) (16 - r) P = prC B → Ev (d + 3) mX7_in 47 [.ref b, vi P, vi r, u] [] σ (rt (vi (prC B)) σ) := by
  intro fu
  induction fu with
  | zero => intros; omega
  | succ fu ih =>
    intro r P u hn h1 h2 h3
    have hf := hO.1
    have h7 := hf.2.1
    have h8 := hf.2.2.1
    refine ev_iload_n eX7_in_47 rfl ?_
    refine ev_bipush eX7_in_48 rfl ?_
    refine ev_icmp_ge 76 eX7_in_50 rfl (by omega) (by omega) (fun h50 => ?_) (fun h50 => ?_)
    · skip
      refine ev_iload_n eX7_in_76 rfl ?_
      refine ev_iret eX7_in_77 rfl ?_
      exact ⟨congrArg (fun q => some (vi q)) (by rw [← h3, show 16 - r = 0 by omega]; rfl), rfl⟩
    · skip
      refine ev_iload_n eX7_in_53 rfl ?_
      refine ev_aload_n eX7_in_54 rfl ?_
      refine ev_iload_n eX7_in_55 rfl ?_
      refine ev_cS2 eX7_in_56 ⟨lX7_31, kX7_whereImagesMeet⟩ rfl (c_wm hb hB hO h2) ?_
      rintro _ _ ⟨rfl, rfl⟩
      have hm := mtX_lt hO P (B 2) (Nat.le_refl _)
      have hor : (P ||| mtX B P (B 2)) < 65536 := Nat.or_lt_two_pow (n := 16) h2 hm
      refine ev_ior eX7_in_59 ?_
      rw [iOr_n (by omega) (by omega)]
      refine ev_istore_n eX7_in_60 (by decide) ?_
      refine ev_iload_n eX7_in_61 rfl ?_
      refine ev_iload_n eX7_in_62 rfl ?_
      refine ev_icmp_ne 68 eX7_in_63 rfl (by omega) (by omega) (fun h63 => ?_) (fun h63 => ?_)
      · skip
        refine ev_iload_n eX7_in_68 rfl ?_
        refine ev_istore_n eX7_in_69 (by decide) ?_
        refine ev_iinc eX7_in_70 rfl (by decide) ?_
        refine ev_goto 47 eX7_in_73 rfl ?_
        refine ih (r := r + 1) (P := mstep B P) (by omega) (by omega) hor ?_
        rw [← h3, show 16 - r = (16 - (r + 1)) + 1 by omega]
        rfl
      · skip
        refine ev_iload_n eX7_in_66 rfl ?_
        refine ev_iret eX7_in_67 rfl ?_
        exact ⟨congrArg (fun q => some (vi q)) (by rw [← h3]; exact congrArg _ (itN_fix (f := mstep B) (show (P ||| mtX B P (B 2)) = P by omega) _)), rfl⟩
set_option maxRecDepth 20000 in
theorem c_in_a {d : Nat} {σ : St} {b : Nat} {B : Bok} (hb : Bq b) (hB : BkC σ (b + 13) B) (hO : Ok B)  : ∀ (fu : Nat) {i : Nat}, B 3 - i < fu → i ≤ B 3 - 1 → Ev (d + 3) mX7_in 11 [.ref b, vi (rpF B (wiF B (lev B) (B 2)) i), vi i, .null] [] σ (rt (vi (prC B)) σ) := by
  intro fu
  induction fu with
  | zero => intros; omega
  | succ fu ih =>
    intro i hn h1
    have hf := hO.1
    have h7 := hf.2.1
    have h8 := hf.2.2.1
    have h6 := hO.2.2.1
    have hx := rpF_lt hO (P := wiF B (lev B) (B 2)) (wiF_lt hO _ _ (Nat.le_refl _)) i (by omega)
    refine ev_iload_n eX7_in_11 rfl ?_
    refine ev_iconst eX7_in_12 ?_
    refine ev_iadd eX7_in_13 ?_
    refine ev_aload_n eX7_in_14 rfl ?_
    refine ev_cV0 eX7_in_15 ⟨lX7_17, kX0_rowSize⟩ (ocB hb) rfl (c_rowSize hb hB hf.1) ?_
    rintro _ _ ⟨rfl, rfl⟩
    refine ev_icmp_ge 45 eX7_in_18 rfl (by omega) (by omega) (fun h18 => ?_) (fun h18 => ?_)
    · skip
      refine ev_iconst eX7_in_45 ?_
      refine ev_istore_n eX7_in_46 (by decide) ?_
      obtain rfl : i = B 3 - 1 := by omega
      exact c_in_l hb hB hO 17 (r := 0) (by omega) (by omega) (by omega) rfl
    · skip
      refine ev_iload_n eX7_in_21 rfl ?_
      refine ev_aload_n eX7_in_22 rfl ?_
      refine ev_iload_n eX7_in_23 rfl ?_
      refine ev_cV1 eX7_in_24 ⟨lX7_23, kX0_rowLetter⟩ (ocB hb) rfl (c_rowLetter hb hB hf.1 (i := i) (by omega)) ?_
      rintro _ _ ⟨rfl, rfl⟩
      have hq1 := hf.2.2.2.2.2.2.2.2.2 i (by omega)
      refine ev_aload_n eX7_in_27 rfl ?_
      refine ev_iload_n eX7_in_28 rfl ?_
      refine ev_iconst eX7_in_29 ?_
      refine ev_iadd eX7_in_30 ?_
      refine ev_cV1 eX7_in_31 ⟨lX7_23, kX0_rowLetter⟩ (ocB hb) rfl (c_rowLetter hb hB hf.1 (i := i + 1) (by omega)) ?_
      rintro _ _ ⟨rfl, rfl⟩
      have hq2 := hf.2.2.2.2.2.2.2.2.2 (i + 1) (by omega)
      refine ev_cS2 eX7_in_34 ⟨lX7_27, kX7_bit⟩ rfl (c_bit hq1 hq2) ?_
      rintro _ _ ⟨rfl, rfl⟩
      refine ev_ior eX7_in_37 ?_
      rw [iOr_n (by omega) (p2_30 (by omega))]
      refine ev_istore_n eX7_in_38 (by decide) ?_
      refine ev_iinc eX7_in_39 rfl (by decide) ?_
      refine ev_goto 11 eX7_in_42 rfl ?_
      exact ih (i := i + 1) (by omega) (by omega)
theorem lev_lt {B : Bok} (h : Ok B) : lev B < 16 := by
  have h0 : orF (rw_ B) (B 3) < 16 := orF_lt (m := 4) (fun q hq => h.1.2.2.2.2.2.2.2.2.2 q (by have := h.1.2.2.1; omega))
  have key : ∀ n L, L < 16 → itN (rdL B (B 2)) n L < 16 := by
    intro n
    induction n with
    | zero => exact fun L hL => hL
    | succ n ih => exact fun L hL => ih _ (rdL_lt h _ _ (Nat.le_refl _) hL)
  exact key 4 _ h0
set_option maxRecDepth 20000 in
theorem c_pairs {d : Nat} {σ : St} {b : Nat} {B : Bok} (hb : Bq b) (hB : BkC σ (b + 13) B) (hO : Ok B)  : Ct (d + 4) mX7_in [.ref b] σ (rt (vi (prC B)) σ) := by
  refine ct_of hX7_in (Nat.le_of_ble_eq_true rfl) ?_
  refine ev_aload_n eX7_in_0 rfl ?_
  refine ev_aload_n eX7_in_1 rfl ?_
  refine ev_cS1 eX7_in_2 ⟨lX7_7, kX7_lettersEver⟩ rfl (c_le hb hB hO) ?_
  rintro _ _ ⟨rfl, rfl⟩
  refine ev_cS2 eX7_in_5 ⟨lX7_13, kX7_withinImages⟩ rfl (c_wis hb hB hO (lev_lt hO)) ?_
  rintro _ _ ⟨rfl, rfl⟩
  refine ev_istore_n eX7_in_8 (by decide) ?_
  refine ev_iconst eX7_in_9 ?_
  refine ev_istore_n eX7_in_10 (by decide) ?_
  exact c_in_a hb hB hO 9 (i := 0) (by have := hO.1.2.2.1; omega) (by omega)
