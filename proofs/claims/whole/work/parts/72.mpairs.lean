/-! pairs: the least closed set, two ways -/
def sub (P Q : Nat) : Prop := ∀ k, P.testBit k = true → Q.testBit k = true
theorem sub_r (P : Nat) : sub P P := fun _ h => h
theorem sub_t {P Q R : Nat} (h : sub P Q) (h2 : sub Q R) : sub P R := fun k z => h2 k (h k z)
theorem or_b {P Q k : Nat} : (P ||| Q).testBit k = true ↔ P.testBit k = true ∨ Q.testBit k = true := by rw [Nat.testBit_or, Bool.or_eq_true]
theorem sub_l (P Q : Nat) : sub P (P ||| Q) := fun _ h => or_b.2 (Or.inl h)
theorem sub_o {P Q R : Nat} (h : sub P R) (h2 : sub Q R) : sub (P ||| Q) R := fun k z => (or_b.1 z).elim (h k) (h2 k)
theorem sub_a {P Q : Nat} (h : sub P Q) (h2 : sub Q P) : P = Q := Nat.eq_of_testBit_eq (fun k => by
  have a := h k
  have b := h2 k
  generalize P.testBit k = x at *
  generalize Q.testBit k = y at *
  cases x <;> cases y <;> simp at *)
theorem sub_p {a Q : Nat} (h : Q.testBit a = true) : sub (2 ^ a) Q := fun k z => by
  have := (p2_bit a k).1 z
  subst this; exact h
theorem cb_sub {P Q : Nat} (h : sub P Q) : ∀ m, cb P m ≤ cb Q m
  | 0 => Nat.le_refl _
  | m + 1 => by
    have h1 := cb_sub h m
    by_cases e : P.testBit m = true
    · rw [cb_t e, cb_t (h m e)]; omega
    · rw [cb_f e]
      by_cases e2 : Q.testBit m = true
      · rw [cb_t e2]; omega
      · rw [cb_f e2]; omega
theorem cb_ls {P Q : Nat} (h : sub P Q) {k : Nat} (hq : Q.testBit k = true) (hp : ¬ P.testBit k = true) : ∀ m, k < m → cb P m < cb Q m
  | 0, hk => by omega
  | m + 1, hk => by
    by_cases e0 : k = m
    · subst e0
      rw [cb_f hp, cb_t hq]
      have := cb_sub h k
      omega
    · have h1 := cb_ls h hq hp m (by omega)
      by_cases e : P.testBit m = true
      · rw [cb_t e, cb_t (h m e)]; omega
      · rw [cb_f e]
        by_cases e2 : Q.testBit m = true
        · rw [cb_t e2]; omega
        · rw [cb_f e2]; omega
theorem cb_m (P : Nat) : ∀ m, cb P m ≤ m
  | 0 => Nat.le_refl _
  | m + 1 => by
    have := cb_m P m
    by_cases e : P.testBit m = true
    · rw [cb_t e]; omega
    · rw [cb_f e]; omega
theorem b_lt {P m k : Nat} (h : P < 2 ^ m) (hk : P.testBit k = true) : k < m := by
  rcases Nat.lt_or_ge k m with q | q
  · exact q
  · rw [Nat.testBit_lt_two_pow (Nat.lt_of_lt_of_le h (Nat.pow_le_pow_right (by omega) q))] at hk
    exact absurd hk (by decide)
theorem sub_ne {P Q m : Nat} (h : sub P Q) (hn : Q ≠ P) (hm : Q < 2 ^ m) : cb P m < cb Q m := by
  have : ∃ k, Q.testBit k = true ∧ ¬ P.testBit k = true := Classical.byContradiction (fun z => hn (sub_a (fun k hk => Classical.byContradiction (fun q => z ⟨k, hk, q⟩)) h))
  obtain ⟨k, h1, h2⟩ := this
  exact cb_ls h h1 h2 m (b_lt hm h1)
theorem fx {S : Type} {f : S → S} {I : S → Prop} {mu : S → Nat} {M : Nat} (hI : ∀ s, I s → I (f s)) (hM : ∀ s, I s → mu s ≤ M) (hs : ∀ s, I s → f s ≠ s → mu s < mu (f s)) : ∀ n s, I s → M ≤ mu s + n → f (itN f n s) = itN f n s
  | 0, s, h, hn => Classical.byContradiction (fun z => by
      have h1 := hs s h z
      have h2 := hM _ (hI s h)
      omega)
  | n + 1, s, h, hn => by
    by_cases e : f s = s
    · rw [itN_fix e]; exact e
    · show f (itN f n (f s)) = itN f n (f s)
      have h1 := hs s h e
      exact fx hI hM hs n (f s) (hI s h) (by omega)
theorem itN_inv {S : Type} {f : S → S} {I : S → Prop} (hI : ∀ s, I s → I (f s)) : ∀ n s, I s → I (itN f n s)
  | 0, _, h => h
  | n + 1, s, h => itN_inv hI n (f s) (hI s h)
theorem itN_s {S : Type} (f : S → S) : ∀ n s, itN f (n + 1) s = f (itN f n s)
  | 0, _ => rfl
  | n + 1, s => itN_s f n (f s)
def Clo (B : Bok) (L P : Nat) : Prop := (∀ i, i < B 3 → L.testBit (rw_ B i) = true) ∧ (∀ i, i + 1 < B 3 → P.testBit (4 * rw_ B i + rw_ B (i + 1)) = true) ∧ (∀ s, s < B 2 → L.testBit s = true → (∀ i, i < im B s → L.testBit (il B s i) = true) ∧ ∀ i, i + 1 < im B s → P.testBit (4 * il B s i + il B s (i + 1)) = true) ∧ ∀ x y, x < B 2 → y < B 2 → P.testBit (4 * x + y) = true → P.testBit (4 * lst B x + il B y 0) = true
theorem fiL_b (B : Bok) (s k : Nat) : (fiL B s).testBit k = true ↔ ∃ i, i < im B s ∧ il B s i = k := orF_bit _ _ _
theorem wi_b (B : Bok) (s k : Nat) : (wi B s).testBit k = true ↔ ∃ i, i < im B s - 1 ∧ 4 * il B s i + il B s (i + 1) = k := orF_bit _ _ _
theorem rpF_b (B : Bok) (P k : Nat) : ∀ n, (rpF B P n).testBit k = true ↔ P.testBit k = true ∨ ∃ i, i < n ∧ 4 * rw_ B i + rw_ B (i + 1) = k
  | 0 => ⟨Or.inl, fun h => h.elim id (fun ⟨i, hi, _⟩ => absurd hi (Nat.not_lt_zero i))⟩
  | n + 1 => by
    show (rpF B P n ||| 2 ^ (4 * rw_ B n + rw_ B (n + 1))).testBit k = true ↔ _
    rw [or_b, rpF_b B P k n, p2_bit]
    constructor
    · rintro ((h | ⟨i, hi, h⟩) | h)
      · exact Or.inl h
      · exact Or.inr ⟨i, by omega, h⟩
      · exact Or.inr ⟨n, by omega, h⟩
    · rintro (h | ⟨i, hi, h⟩)
      · exact Or.inl (Or.inl h)
      · by_cases e : i = n
        · subst e; exact Or.inr h
        · exact Or.inl (Or.inr ⟨i, by omega, h⟩)
-- the class's way
theorem rdL_sub (B : Bok) : ∀ s L, sub L (rdL B s L)
  | 0, L => sub_r L
  | s + 1, L => by
    by_cases h : (rdL B s L).testBit s = true
    · rw [rdL_t h]; exact sub_t (rdL_sub B s L) (sub_l _ _)
    · rw [rdL_f h]; exact rdL_sub B s L
theorem rdL_up (B : Bok) {s t L : Nat} (h : s ≤ t) : sub (rdL B s L) (rdL B t L) := by
  induction t with
  | zero => obtain rfl : s = 0 := by omega
            exact sub_r _
  | succ t ih =>
    by_cases e : s = t + 1
    · subst e; exact sub_r _
    · refine sub_t (ih (by omega)) ?_
      by_cases h : (rdL B t L).testBit t = true
      · rw [rdL_t h]; exact sub_l _ _
      · rw [rdL_f h]; exact sub_r _
theorem rdL_le {B : Bok} {L L' P' : Nat} (hC : Clo B L' P') (h : sub L L') : ∀ s, s ≤ B 2 → sub (rdL B s L) L'
  | 0, _ => h
  | s + 1, hs => by
    have ih := rdL_le hC h s (by omega)
    by_cases e : (rdL B s L).testBit s = true
    · rw [rdL_t e]
      refine sub_o ih (fun k hk => ?_)
      obtain ⟨i, hi, rfl⟩ := (fiL_b B s k).1 hk
      exact (hC.2.2.1 s (by omega) (ih s e)).1 i hi
    · rw [rdL_f e]; exact ih
theorem rdL_fx {B : Bok} {L : Nat} (h : rdL B (B 2) L = L) {s : Nat} (hs : s < B 2) (hb : L.testBit s = true) : sub (fiL B s) L := by
  have h1 : sub (rdL B (s + 1) L) L := by have := rdL_up B (L := L) (show s + 1 ≤ B 2 by omega); rw [h] at this; exact this
  have h2 : (rdL B s L).testBit s = true := rdL_sub B s L s hb
  rw [rdL_t h2] at h1
  exact fun k hk => h1 k (or_b.2 (Or.inr hk))
theorem mtY_b (B : Bok) (P x k : Nat) : ∀ y M, (mtY B P x y M).testBit k = true ↔ M.testBit k = true ∨ ∃ z, z < y ∧ P.testBit (4 * x + z) = true ∧ 4 * lst B x + il B z 0 = k
  | 0, M => ⟨Or.inl, fun h => h.elim id (fun ⟨i, hi, _⟩ => absurd hi (Nat.not_lt_zero i))⟩
  | y + 1, M => by
    have ih := mtY_b B P x k y M
    by_cases e : P.testBit (4 * x + y) = true
    · rw [mtY_t e, or_b, ih, p2_bit]
      constructor
      · rintro ((h | ⟨z, hz, h⟩) | h)
        · exact Or.inl h
        · exact Or.inr ⟨z, by omega, h⟩
        · exact Or.inr ⟨y, by omega, e, h⟩
      · rintro (h | ⟨z, hz, h, h2⟩)
        · exact Or.inl (Or.inl h)
        · by_cases e2 : z = y
          · subst e2; exact Or.inr h2
          · exact Or.inl (Or.inr ⟨z, by omega, h, h2⟩)
    · rw [mtY_f e, ih]
      constructor
      · rintro (h | ⟨z, hz, h⟩)
        · exact Or.inl h
        · exact Or.inr ⟨z, by omega, h⟩
      · rintro (h | ⟨z, hz, h, h2⟩)
        · exact Or.inl h
        · by_cases e2 : z = y
          · subst e2; exact absurd h e
          · exact Or.inr ⟨z, by omega, h, h2⟩
theorem mtX_b (B : Bok) (P k : Nat) : ∀ x, (mtX B P x).testBit k = true ↔ ∃ q z, q < x ∧ z < B 2 ∧ P.testBit (4 * q + z) = true ∧ 4 * lst B q + il B z 0 = k
  | 0 => ⟨fun h => absurd h (by show ¬ Nat.testBit 0 k = true; rw [Nat.zero_testBit]; decide), fun ⟨q, z, hq, _⟩ => absurd hq (Nat.not_lt_zero q)⟩
  | x + 1 => by
    show (mtY B P x (B 2) (mtX B P x)).testBit k = true ↔ _
    rw [mtY_b, mtX_b B P k x]
    constructor
    · rintro (⟨q, z, h1, h2, h3⟩ | ⟨z, h1, h2⟩)
      · exact ⟨q, z, by omega, h2, h3⟩
      · exact ⟨x, z, by omega, h1, h2⟩
    · rintro ⟨q, z, h1, h2, h3⟩
      by_cases e : q = x
      · subst e; exact Or.inr ⟨z, h2, h3⟩
      · exact Or.inl ⟨q, z, by omega, h2, h3⟩
theorem wiF_b (B : Bok) (L k : Nat) : ∀ s, (wiF B L s).testBit k = true ↔ ∃ q, q < s ∧ L.testBit q = true ∧ (wi B q).testBit k = true
  | 0 => ⟨fun h => absurd h (by show ¬ Nat.testBit 0 k = true; rw [Nat.zero_testBit]; decide), fun ⟨q, hq, _⟩ => absurd hq (Nat.not_lt_zero q)⟩
  | s + 1 => by
    have ih := wiF_b B L k s
    by_cases e : L.testBit s = true
    · rw [wiF_t e, or_b, ih]
      constructor
      · rintro (⟨q, h1, h2⟩ | h)
        · exact ⟨q, by omega, h2⟩
        · exact ⟨s, by omega, e, h⟩
      · rintro ⟨q, h1, h2, h3⟩
        by_cases e2 : q = s
        · subst e2; exact Or.inr h3
        · exact Or.inl ⟨q, by omega, h2, h3⟩
    · rw [wiF_f e, ih]
      constructor
      · rintro ⟨q, h1, h2⟩
        exact ⟨q, by omega, h2⟩
      · rintro ⟨q, h1, h2, h3⟩
        by_cases e2 : q = s
        · subst e2; exact absurd h2 e
        · exact ⟨q, by omega, h2, h3⟩
theorem lev_fx {B : Bok} (hO : Ok B) : rdL B (B 2) (lev B) = lev B := by
  refine fx (I := fun L => L < 16) (mu := fun L => cb L 4) (M := 4) (fun L h => rdL_lt hO (B 2) L (Nat.le_refl _) h) (fun L _ => cb_m L 4) (fun L h hn => sub_ne (rdL_sub B _ L) hn (rdL_lt hO (B 2) L (Nat.le_refl _) h)) 4 _ ?_ (by omega)
  exact orF_lt (m := 4) (fun i hi => by have := hO.2.2.2.1 i hi; have := hO.1.2.1; omega)
theorem lev_row {B : Bok} {i : Nat} (hi : i < B 3) : (lev B).testBit (rw_ B i) = true :=
  itN_inv (I := fun L => L.testBit (rw_ B i) = true) (fun L h => rdL_sub B _ L _ h) 4 _ ((orF_bit _ _ _).2 ⟨i, hi, rfl⟩)
theorem lev_le {B : Bok} {L P : Nat} (hC : Clo B L P) : sub (lev B) L :=
  itN_inv (I := fun Q => sub Q L) (fun Q h => rdL_le hC h _ (Nat.le_refl _)) 4 _ (fun k hk => by
    obtain ⟨i, hi, rfl⟩ := (orF_bit _ _ _).1 hk
    exact hC.1 i hi)
theorem pr0_lt {B : Bok} (hO : Ok B) : pr0 B < 65536 := rpF_lt hO (wiF_lt hO _ _ (Nat.le_refl _)) _ (Nat.le_refl _)
theorem ms_lt {B : Bok} (hO : Ok B) {P : Nat} (h : P < 65536) : mstep B P < 65536 := Nat.or_lt_two_pow (n := 16) h (mtX_lt hO P _ (Nat.le_refl _))
theorem prC_fx {B : Bok} (hO : Ok B) : mstep B (prC B) = prC B :=
  fx (I := fun P => P < 65536) (mu := fun P => cb P 16) (M := 16) (fun P h => ms_lt hO h) (fun P _ => cb_m P 16) (fun P h hn => sub_ne (sub_l _ _) hn (ms_lt hO h)) 16 _ (pr0_lt hO) (by omega)
theorem prC_p0 (B : Bok) : sub (pr0 B) (prC B) := itN_inv (I := fun P => sub (pr0 B) P) (fun P h => sub_t h (sub_l _ _)) 16 _ (sub_r _)
theorem prC_cl {B : Bok} (hO : Ok B) : Clo B (lev B) (prC B) := by
  refine ⟨fun i hi => lev_row hi, fun i hi => prC_p0 B _ ((rpF_b B _ _ _).2 (Or.inr ⟨i, by omega, rfl⟩)), fun s hs hb => ⟨fun i hi => rdL_fx (lev_fx hO) hs hb _ ((fiL_b B s _).2 ⟨i, hi, rfl⟩), fun i hi => prC_p0 B _ ((rpF_b B _ _ _).2 (Or.inl ((wiF_b B _ _ _).2 ⟨s, hs, hb, (wi_b B s _).2 ⟨i, by omega, rfl⟩⟩)))⟩, fun x y hx hy hb => ?_⟩
  have h : (mstep B (prC B)).testBit (4 * lst B x + il B y 0) = true := or_b.2 (Or.inr ((mtX_b B _ _ _).2 ⟨x, y, hx, hy, hb, rfl⟩))
  rw [prC_fx hO] at h
  exact h
theorem prC_le {B : Bok} {L P : Nat} (hC : Clo B L P) : sub (prC B) P := by
  refine itN_inv (I := fun Q => sub Q P) (fun Q h => sub_o h (fun k hk => ?_)) 16 _ (fun k hk => ?_)
  · obtain ⟨x, y, hx, hy, hb, rfl⟩ := (mtX_b B _ _ _).1 hk
    exact hC.2.2.2 x y hx hy (h _ hb)
  · rcases (rpF_b B _ _ _).1 hk with h | ⟨i, hi, rfl⟩
    · obtain ⟨s, hs, hb, h⟩ := (wiF_b B _ _ _).1 h
      obtain ⟨i, hi, rfl⟩ := (wi_b B s _).1 h
      exact (hC.2.2.1 s hs (lev_le hC _ hb)).2 i (by omega)
    · exact hC.2.1 i (by omega)
-- the reference's way
abbrev LPt : Type := Nat × Nat
def gS (B : Bok) : Nat → LPt → LPt
  | 0, q => q
  | s + 1, q => if (gS B s q).1.testBit s = true then ((gS B s q).1 ||| fiL B s, (gS B s q).2 ||| wi B s) else gS B s q
def gP (B : Bok) : Nat → Nat → Nat
  | 0, P => P
  | k + 1, P => if (gP B k P).testBit k = true then gP B k P ||| 2 ^ (4 * lst B (k / 4) + il B (k % 4) 0) else gP B k P
def gR (B : Bok) (q : LPt) : LPt := ((gS B (B 2) q).1, gP B 16 (gS B (B 2) q).2)
def g0 (B : Bok) : LPt := (orF (rw_ B) (B 3), rpF B 0 (B 3 - 1))
theorem gS_t {B : Bok} {s : Nat} {q : LPt} (h : (gS B s q).1.testBit s = true) : gS B (s + 1) q = ((gS B s q).1 ||| fiL B s, (gS B s q).2 ||| wi B s) := if_pos h
theorem gS_f {B : Bok} {s : Nat} {q : LPt} (h : ¬ (gS B s q).1.testBit s = true) : gS B (s + 1) q = gS B s q := if_neg h
theorem gP_t {B : Bok} {k P : Nat} (h : (gP B k P).testBit k = true) : gP B (k + 1) P = gP B k P ||| 2 ^ (4 * lst B (k / 4) + il B (k % 4) 0) := if_pos h
theorem gP_f {B : Bok} {k P : Nat} (h : ¬ (gP B k P).testBit k = true) : gP B (k + 1) P = gP B k P := if_neg h
def sub2 (q r : LPt) : Prop := sub q.1 r.1 ∧ sub q.2 r.2
theorem sub2_t {q r s : LPt} (h : sub2 q r) (h2 : sub2 r s) : sub2 q s := ⟨sub_t h.1 h2.1, sub_t h.2 h2.2⟩
theorem gS_st (B : Bok) (s : Nat) (q : LPt) : sub2 (gS B s q) (gS B (s + 1) q) := by
  by_cases h : (gS B s q).1.testBit s = true
  · rw [gS_t h]; exact ⟨sub_l _ _, sub_l _ _⟩
  · rw [gS_f h]; exact ⟨sub_r _, sub_r _⟩
theorem gS_up (B : Bok) {s t : Nat} (h : s ≤ t) (q : LPt) : sub2 (gS B s q) (gS B t q) := by
  induction t with
  | zero => obtain rfl : s = 0 := by omega
            exact ⟨sub_r _, sub_r _⟩
  | succ t ih =>
    by_cases e : s = t + 1
    · subst e; exact ⟨sub_r _, sub_r _⟩
    · exact sub2_t (ih (by omega)) (gS_st B t q)
theorem gP_st (B : Bok) (k P : Nat) : sub (gP B k P) (gP B (k + 1) P) := by
  by_cases h : (gP B k P).testBit k = true
  · rw [gP_t h]; exact sub_l _ _
  · rw [gP_f h]; exact sub_r _
theorem gP_up (B : Bok) {s t : Nat} (h : s ≤ t) (P : Nat) : sub (gP B s P) (gP B t P) := by
  induction t with
  | zero => obtain rfl : s = 0 := by omega
            exact sub_r _
  | succ t ih =>
    by_cases e : s = t + 1
    · subst e; exact sub_r _
    · exact sub_t (ih (by omega)) (gP_st B t P)
theorem gR_up (B : Bok) (q : LPt) : sub2 q (gR B q) := ⟨(gS_up B (Nat.zero_le (B 2)) q).1, sub_t (gS_up B (Nat.zero_le (B 2)) q).2 (gP_up B (Nat.zero_le 16) _)⟩
/-- letters and pairs are of sorts that are there -/
def LPi (B : Bok) (q : LPt) : Prop := (∀ k, q.1.testBit k = true → k < B 2) ∧ ∀ k, q.2.testBit k = true → k / 4 < B 2 ∧ k % 4 < B 2
theorem pk {B : Bok} (hO : Ok B) {x y : Nat} (hx : x < B 2) (hy : y < B 2) : (4 * x + y) / 4 < B 2 ∧ (4 * x + y) % 4 < B 2 := by
  have := hO.1.2.1
  omega
theorem lst_lt {B : Bok} (hO : Ok B) {x : Nat} (hx : x < B 2) : lst B x < B 2 := hO.il2 hx (by have := hO.im1 hx; omega)
theorem gS_i {B : Bok} (hO : Ok B) {q : LPt} (h : LPi B q) : ∀ s, s ≤ B 2 → LPi B (gS B s q)
  | 0, _ => h
  | s + 1, hs => by
    have ih := gS_i hO h s (by omega)
    by_cases e : (gS B s q).1.testBit s = true
    · rw [gS_t e]
      refine ⟨fun k hk => ?_, fun k hk => ?_⟩
      · rcases or_b.1 hk with z | z
        · exact ih.1 k z
        · obtain ⟨i, hi, rfl⟩ := (fiL_b B s k).1 z
          exact hO.il2 (by omega) hi
      · rcases or_b.1 hk with z | z
        · exact ih.2 k z
        · obtain ⟨i, hi, rfl⟩ := (wi_b B s k).1 z
          exact pk hO (hO.il2 (by omega) (by omega)) (hO.il2 (by omega) (by omega))
    · rw [gS_f e]; exact ih
theorem gP_i {B : Bok} (hO : Ok B) {P : Nat} (h : ∀ k, P.testBit k = true → k / 4 < B 2 ∧ k % 4 < B 2) : ∀ n k, (gP B n P).testBit k = true → k / 4 < B 2 ∧ k % 4 < B 2
  | 0, k, hk => h k hk
  | n + 1, k, hk => by
    by_cases e : (gP B n P).testBit n = true
    · rw [gP_t e] at hk
      rcases or_b.1 hk with z | z
      · exact gP_i hO h n k z
      · have h1 := gP_i hO h n n e
        have := (p2_bit _ _).1 z
        subst this
        exact pk hO (lst_lt hO h1.1) (hO.il2 h1.2 (by have := hO.im1 h1.2; omega))
    · rw [gP_f e] at hk; exact gP_i hO h n k hk
theorem gR_i {B : Bok} (hO : Ok B) {q : LPt} (h : LPi B q) : LPi B (gR B q) := ⟨(gS_i hO h _ (Nat.le_refl _)).1, fun k hk => gP_i hO (gS_i hO h _ (Nat.le_refl _)).2 16 k hk⟩
theorem LPi_lt {B : Bok} (hO : Ok B) {q : LPt} (h : LPi B q) : q.1 < 16 ∧ q.2 < 65536 := by
  have h4 := hO.1.2.1
  refine ⟨Nat.lt_pow_two_of_testBit (n := 4) _ (fun i hi => ?_), Nat.lt_pow_two_of_testBit (n := 16) _ (fun i hi => ?_)⟩
  · cases e : q.1.testBit i with
    | false => rfl
    | true => have := h.1 i e; omega
  · cases e : q.2.testBit i with
    | false => rfl
    | true => have := h.2 i e; omega
theorem g0_i {B : Bok} (hO : Ok B) : LPi B (g0 B) := by
  refine ⟨fun k hk => ?_, fun k hk => ?_⟩
  · obtain ⟨i, hi, rfl⟩ := (orF_bit _ _ _).1 hk
    exact hO.2.2.2.1 i hi
  · rcases (rpF_b B _ _ _).1 hk with h | ⟨i, hi, rfl⟩
    · rw [Nat.zero_testBit] at h; exact absurd h (by decide)
    · exact pk hO (hO.2.2.2.1 i (by omega)) (hO.2.2.2.1 (i + 1) (by omega))
def gF (B : Bok) : LPt := itN (gR B) 21 (g0 B)
theorem gF_i {B : Bok} (hO : Ok B) : LPi B (gF B) := itN_inv (I := LPi B) (fun q h => gR_i hO h) 21 _ (g0_i hO)
theorem gF_fx {B : Bok} (hO : Ok B) : gR B (gF B) = gF B := by
  refine fx (I := LPi B) (mu := fun q => cb q.1 4 + cb q.2 16) (M := 20) (fun q h => gR_i hO h) (fun q _ => by have h1 := cb_m q.1 4; have h2 := cb_m q.2 16; show cb q.1 4 + cb q.2 16 ≤ 20; omega) (fun q h hn => ?_) 21 _ (g0_i hO) (by omega)
  have hu := gR_up B q
  have hl := LPi_lt hO (gR_i hO h)
  have c1 := cb_sub hu.1 4
  have c2 := cb_sub hu.2 16
  show cb q.1 4 + cb q.2 16 < cb (gR B q).1 4 + cb (gR B q).2 16
  by_cases e : (gR B q).1 = q.1
  · have e2 : (gR B q).2 ≠ q.2 := fun z => hn (Prod.ext e z)
    have := sub_ne (m := 16) hu.2 e2 hl.2
    omega
  · have := sub_ne (m := 4) hu.1 e hl.1
    omega
theorem gF_0 (B : Bok) : sub2 (g0 B) (gF B) := itN_inv (I := fun q => sub2 (g0 B) q) (fun q h => sub2_t h (gR_up B q)) 21 _ ⟨sub_r _, sub_r _⟩
theorem gS_le {B : Bok} {L P : Nat} (hC : Clo B L P) {q : LPt} (h : sub2 q (L, P)) : ∀ s, s ≤ B 2 → sub2 (gS B s q) (L, P)
  | 0, _ => h
  | s + 1, hs => by
    have ih := gS_le hC h s (by omega)
    by_cases e : (gS B s q).1.testBit s = true
    · rw [gS_t e]
      have hc := hC.2.2.1 s (by omega) (ih.1 s e)
      refine ⟨sub_o ih.1 (fun k hk => ?_), sub_o ih.2 (fun k hk => ?_)⟩
      · obtain ⟨i, hi, rfl⟩ := (fiL_b B s k).1 hk
        exact hc.1 i hi
      · obtain ⟨i, hi, rfl⟩ := (wi_b B s k).1 hk
        exact hc.2 i (by omega)
    · rw [gS_f e]; exact ih
theorem gP_le {B : Bok} {L P : Nat} (hC : Clo B L P) {Q : Nat} (hQ : ∀ n k, (gP B n Q).testBit k = true → k / 4 < B 2 ∧ k % 4 < B 2) (h : sub Q P) : ∀ k, sub (gP B k Q) P
  | 0 => h
  | k + 1 => by
    have ih := gP_le hC hQ h k
    by_cases e : (gP B k Q).testBit k = true
    · rw [gP_t e]
      have h1 := hQ k k e
      exact sub_o ih (sub_p (hC.2.2.2 (k / 4) (k % 4) h1.1 h1.2 (by rw [show 4 * (k / 4) + k % 4 = k by omega]; exact ih k e)))
    · rw [gP_f e]; exact ih
theorem gF_le {B : Bok} (hO : Ok B) {L P : Nat} (hC : Clo B L P) : sub2 (gF B) (L, P) := by
  refine (itN_inv (I := fun q => LPi B q ∧ sub2 q (L, P)) (fun q h => ⟨gR_i hO h.1, ?_⟩) 21 _ ⟨g0_i hO, ⟨fun k hk => ?_, fun k hk => ?_⟩⟩).2
  · have h1 := gS_le hC h.2 _ (Nat.le_refl _)
    exact ⟨h1.1, gP_le hC (gP_i hO (gS_i hO h.1 _ (Nat.le_refl _)).2) h1.2 16⟩
  · obtain ⟨i, hi, rfl⟩ := (orF_bit _ _ _).1 hk
    exact hC.1 i hi
  · rcases (rpF_b B _ _ _).1 hk with h | ⟨i, hi, rfl⟩
    · rw [Nat.zero_testBit] at h; exact absurd h (by decide)
    · exact hC.2.1 i (by omega)
theorem gF_cl {B : Bok} (hO : Ok B) : Clo B (gF B).1 (gF B).2 := by
  have hfx := gF_fx hO
  have e1 : (gS B (B 2) (gF B)).1 = (gF B).1 := (congrArg Prod.fst hfx : (gR B (gF B)).1 = (gF B).1)
  have e2 : gP B 16 (gS B (B 2) (gF B)).2 = (gF B).2 := (congrArg Prod.snd hfx : (gR B (gF B)).2 = (gF B).2)
  have e3 : sub (gS B (B 2) (gF B)).2 (gF B).2 := by rw [← e2]; exact gP_up B (Nat.zero_le 16) _
  have hi := gF_i hO
  have h0 := gF_0 B
  refine ⟨fun i hi => h0.1 _ ((orF_bit _ _ _).2 ⟨i, hi, rfl⟩), fun i hi => h0.2 _ ((rpF_b B _ _ _).2 (Or.inr ⟨i, by omega, rfl⟩)), fun s hs hb => ?_, fun x y hx hy hb => ?_⟩
  · have hb1 : (gS B s (gF B)).1.testBit s = true := (gS_up B (Nat.zero_le s) (gF B)).1 s hb
    have hu := gS_up B (show s + 1 ≤ B 2 by omega) (gF B)
    rw [gS_t hb1] at hu
    refine ⟨fun i hi => ?_, fun i hi => ?_⟩
    · rw [← e1]
      exact hu.1 _ (or_b.2 (Or.inr ((fiL_b B s _).2 ⟨i, hi, rfl⟩)))
    · exact e3 _ (hu.2 _ (or_b.2 (Or.inr ((wi_b B s _).2 ⟨i, by omega, rfl⟩))))
  · have h4 := hO.1.2.1
    have hb1 : (gP B (4 * x + y) (gS B (B 2) (gF B)).2).testBit (4 * x + y) = true := gP_up B (Nat.zero_le _) _ _ ((gS_up B (Nat.zero_le (B 2)) (gF B)).2 _ hb)
    have hu := gP_up B (show 4 * x + y + 1 ≤ 16 by omega) (gS B (B 2) (gF B)).2
    rw [gP_t hb1, e2, show (4 * x + y) / 4 = x by omega, show (4 * x + y) % 4 = y by omega] at hu
    exact hu _ (or_b.2 (Or.inr ((p2_bit _ _).2 rfl)))
theorem gF_pr {B : Bok} (hO : Ok B) : (gF B).2 = prC B := sub_a (gF_le hO (prC_cl hO)).2 (prC_le (gF_cl hO))
