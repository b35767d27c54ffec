/-! the law: calls that change something -/
theorem R32_t (x : Int32) : R32 x.toInt := by
  have h1 := Int32.le_toInt x
  have h2 := Int32.toInt_lt x
  unfold R32
  omega
theorem kp_r {l v : Int} (h : R32 v) : R32 (kp l v) := by
  unfold kp
  split
  · exact R32_t _
  · split
    · exact R32_t _
    · exact h
theorem Ok_up {B : Bok} (h : Ok B) {j x : Nat} (hx : x ≤ bnd j) (hj : j < 2 ∨ 8 ≤ j ∧ j < 16) : Ok (upB B j x) := by
  have e : ∀ i, i ≠ j → upB B j x i = B i := fun i hi => upB_n _ _ hi
  refine ⟨Wf_up h.1 hx, by rw [e 2 (by omega)]; exact h.2.1, by rw [e 3 (by omega)]; exact h.2.2.1, fun i hi => ?_, fun s hs => ?_⟩
  · rw [e 3 (by omega)] at hi
    unfold rw_
    rw [e _ (by omega), e 2 (by omega)]
    exact h.2.2.2.1 i hi
  · rw [e 2 (by omega)] at hs
    obtain ⟨a, b, c⟩ := h.2.2.2.2 s hs
    have hs4 := h.1.2.1
    unfold bk ws wd at *
    rw [e (4 + s) (by omega), e (16 + s) (by omega), e 2 (by omega)]
    exact ⟨a, b, fun i hi => by rw [e _ (by omega)]; exact c i hi⟩
theorem Ok_wdB {B : Bok} (h : Ok B) {s n : Nat} {l : Nat → Nat} (hs : s < B 2) (h1 : 1 ≤ n) (h4 : n ≤ 4) (hl : ∀ i, i < n → l i < B 2) : Ok (wdB B s n l) := by
  have hB4 := h.1.2.1
  have e : ∀ i, i ≠ 16 + s → ¬ (20 + 4 * s ≤ i ∧ i < 20 + 4 * s + n) → wdB B s n l i = B i := fun i a b => by unfold wdB; rw [if_neg a, if_neg b]
  have ez : wdB B s n l (16 + s) = n := wdB_z B s n l
  have el : ∀ i, i < n → wdB B s n l (20 + 4 * s + i) = l i := fun i hi => by unfold wdB; rw [if_neg (by omega), if_pos (by omega), show 20 + 4 * s + i - (20 + 4 * s) = i by omega]
  refine ⟨Wf_of (fun j hj => ?_), by rw [e 2 (by omega) (by omega)]; exact h.2.1, by rw [e 3 (by omega) (by omega)]; exact h.2.2.1, fun i hi => ?_, fun q hq => ?_⟩
  · by_cases a : j = 16 + s
    · rw [a, ez, bnd_z (by omega)]; exact h4
    · by_cases b : 20 + 4 * s ≤ j ∧ j < 20 + 4 * s + n
      · obtain ⟨i, rfl⟩ : ∃ i, j = 20 + 4 * s + i := ⟨j - (20 + 4 * s), by omega⟩
        rw [el i (by omega), bnd_w (by omega) (by omega)]
        have := hl i (by omega)
        omega
      · rw [e j a b]; exact h.1.bn hj
  · rw [e 3 (by omega) (by omega)] at hi
    have h8 := h.1.2.2.1
    unfold rw_
    rw [e _ (by omega) (by omega), e 2 (by omega) (by omega)]
    exact h.2.2.2.1 i hi
  · rw [e 2 (by omega) (by omega)] at hq
    obtain ⟨a, b, c⟩ := h.2.2.2.2 q hq
    have hw4 := h.1.2.2.2.1 q (by omega)
    unfold bk ws wd at *
    rw [e (4 + q) (by omega) (by omega), e 2 (by omega) (by omega)]
    by_cases z : q = s
    · subst z
      rw [ez]
      exact ⟨a, h1, fun i hi => by rw [el i hi]; exact hl i hi⟩
    · rw [e (16 + q) (by omega) (by omega)]
      exact ⟨a, b, fun i hi => by rw [e _ (by omega) (by omega)]; exact c i hi⟩
theorem Ok_rwB {B : Bok} (h : Ok B) {n : Nat} {l : Nat → Nat} (h1 : 1 ≤ n) (h8 : n ≤ 8) (hl : ∀ i, i < n → l i < B 2) : Ok (rwB B n l) := by
  have hB4 := h.1.2.1
  have e : ∀ i, i ≠ 3 → ¬ (36 ≤ i ∧ i < 36 + n) → rwB B n l i = B i := fun i a b => by unfold rwB; rw [if_neg a, if_neg b]
  have ez : rwB B n l 3 = n := rwB_3 B n l
  have el : ∀ i, i < n → rwB B n l (36 + i) = l i := fun i hi => by unfold rwB; rw [if_neg (by omega), if_pos (by omega), show 36 + i - 36 = i by omega]
  refine ⟨Wf_of (fun j hj => ?_), by rw [e 2 (by omega) (by omega)]; exact h.2.1, by rw [ez]; exact h1, fun i hi => ?_, fun q hq => ?_⟩
  · by_cases a : j = 3
    · rw [a, ez]; exact h8
    · by_cases b : 36 ≤ j ∧ j < 36 + n
      · obtain ⟨i, rfl⟩ : ∃ i, j = 36 + i := ⟨j - 36, by omega⟩
        rw [el i (by omega), bnd_r (by omega)]
        have := hl i (by omega)
        omega
      · rw [e j a b]; exact h.1.bn hj
  · rw [ez] at hi
    unfold rw_
    rw [el i hi, e 2 (by omega) (by omega)]
    exact hl i hi
  · rw [e 2 (by omega) (by omega)] at hq
    obtain ⟨a, b, c⟩ := h.2.2.2.2 q hq
    have hw4 := h.1.2.2.2.1 q (by omega)
    unfold bk ws wd at *
    rw [e (4 + q) (by omega) (by omega), e 2 (by omega) (by omega), e (16 + q) (by omega) (by omega)]
    exact ⟨a, b, fun i hi => by rw [e _ (by omega) (by omega)]; exact c i hi⟩
theorem acN_ok {na : Nat} {Ac : Nat → Bok} {B : Bok} (h24 : na ≤ 24) (hB : Ok B) (hA : ∀ k, k < na → Ok (Ac k)) : ∀ k, k < naN na + 1 → Ok (acN na Ac B k) := by
  intro k hk
  have e : naN na = if na = 24 then 23 else na := rfl
  unfold acN
  split
  · exact hB
  · split
    · rename_i a b
      exact hA _ (by rw [e, if_pos b] at a hk; omega)
    · rename_i a b
      exact hA _ (by rw [e, if_neg b] at a hk; omega)
theorem lts_lt {sz : Nat → Nat} {it : Nat → Int} {B : Bok} {q n : Nat} (h : LtP sz it B q n) : ∀ i, i < n → lts it q i < B 2 := fun i hi => by
  have := h.2 i hi
  have := LtP_l h hi
  omega
theorem orb : ∀ m, m < 4 → ∀ x, x < 2 → (m ||| 2 ^ x) < 4 ∧ ∀ k, k < 2 → (m ||| 2 ^ x) / 2 ^ k % 2 = if k = x then 1 else m / 2 ^ k % 2 := by decide +kernel
theorem akT_le (k e : Nat) : (akT k e).length ≤ 16 := by
  unfold akT
  split <;> decide
theorem lvL_sp : ∀ (L : List Int) (n : Nat) (σ : St), σ 11 1 = (n : Int) → (lvL σ n L) 11 1 = ((n + L.length : Nat) : Int) ∧ (∀ j, j < n → (lvL σ n L) 44 j = σ 44 j) ∧ (∀ j, j < L.length → (lvL σ n L) 44 (n + j) = L.getD j 0) ∧ ∀ k, k ≠ 11 → k ≠ 44 → (lvL σ n L) k = σ k
  | [], n, σ, h => ⟨h, fun _ _ => rfl, fun j hj => absurd hj (Nat.not_lt_zero _), fun _ _ _ => rfl⟩
  | x :: r, n, σ, h => by
    have e1 : lvS σ n x 11 1 = ((n + 1 : Nat) : Int) := by unfold lvS; rw [up_s]; push_cast; rfl
    have e2 : ∀ j, lvS σ n x 44 j = if j = n then x else σ 44 j := fun j => by
      unfold lvS
      rw [up_o _ _ _ (by decide)]
      by_cases q : j = n
      · subst q; rw [up_s, if_pos rfl]
      · rw [up_n _ _ q, if_neg q]
    obtain ⟨a, b, c, d⟩ := lvL_sp r (n + 1) (lvS σ n x) e1
    show (lvL (lvS σ n x) (n + 1) r) 11 1 = _ ∧ (∀ j, j < n → (lvL (lvS σ n x) (n + 1) r) 44 j = _) ∧ (∀ j, j < (x :: r).length → (lvL (lvS σ n x) (n + 1) r) 44 (n + j) = _) ∧ ∀ k, k ≠ 11 → k ≠ 44 → (lvL (lvS σ n x) (n + 1) r) k = _
    refine ⟨by rw [a, List.length_cons, show n + 1 + r.length = n + (r.length + 1) by omega], fun j hj => by rw [b j (by omega), e2, if_neg (by omega)], fun j hj => ?_, fun k h1 h2 => ?_⟩
    · cases j with
      | zero =>
        show lvL (lvS σ n x) (n + 1) r 44 n = x
        rw [b n (by omega), e2, if_pos rfl]
      | succ j =>
        rw [show n + (j + 1) = n + 1 + j by omega, c j (by rw [List.length_cons] at hj; omega)]
        rfl
    · rw [d k h1 h2]; unfold lvS; rw [up_o _ _ _ h1, up_o _ _ _ h2]
theorem lvN_sp : ∀ (L : List Int) (n : Nat) (σ : St), σ 45 29 = (n : Int) → (lvN σ n L) 45 29 = ((n + L.length : Nat) : Int) ∧ (∀ j, j < n → (lvN σ n L) 62 j = σ 62 j) ∧ (∀ j, j < L.length → (lvN σ n L) 62 (n + j) = L.getD j 0) ∧ (∀ j, j ≠ 29 → (lvN σ n L) 45 j = σ 45 j) ∧ ∀ k, k ≠ 45 → k ≠ 62 → (lvN σ n L) k = σ k
  | [], n, σ, h => ⟨h, fun _ _ => rfl, fun j hj => absurd hj (Nat.not_lt_zero _), fun _ _ => rfl, fun _ _ _ => rfl⟩
  | x :: r, n, σ, h => by
    have e1 : lvM σ n x 45 29 = ((n + 1 : Nat) : Int) := lvM_n σ n x
    have e2 : ∀ j, lvM σ n x 62 j = if j = n then x else σ 62 j := fun j => by
      unfold lvM
      rw [up_o _ _ _ (by decide)]
      by_cases q : j = n
      · subst q; rw [up_s, if_pos rfl]
      · rw [up_n _ _ q, if_neg q]
    obtain ⟨a, b, c, f, d⟩ := lvN_sp r (n + 1) (lvM σ n x) e1
    show (lvN (lvM σ n x) (n + 1) r) 45 29 = _ ∧ (∀ j, j < n → (lvN (lvM σ n x) (n + 1) r) 62 j = _) ∧ (∀ j, j < (x :: r).length → (lvN (lvM σ n x) (n + 1) r) 62 (n + j) = _) ∧ (∀ j, j ≠ 29 → (lvN (lvM σ n x) (n + 1) r) 45 j = _) ∧ ∀ k, k ≠ 45 → k ≠ 62 → (lvN (lvM σ n x) (n + 1) r) k = _
    refine ⟨by rw [a, List.length_cons, show n + 1 + r.length = n + (r.length + 1) by omega], fun j hj => by rw [b j (by omega), e2, if_neg (by omega)], fun j hj => ?_, fun j hj => ?_, fun k h1 h2 => ?_⟩
    · cases j with
      | zero =>
        show lvN (lvM σ n x) (n + 1) r 62 n = x
        rw [b n (by omega), e2, if_pos rfl]
      | succ j =>
        rw [show n + (j + 1) = n + 1 + j by omega, c j (by rw [List.length_cons] at hj; omega)]
        rfl
    · rw [f j hj]; unfold lvM; rw [up_n _ _ hj, up_o _ _ _ (by decide)]
    · rw [d k h1 h2]; unfold lvM; rw [up_o _ _ _ h1, up_o _ _ _ h2]
theorem j_row {σ : St} (hI : Inv σ) {x l n : Int} (hx : -2147483648 ≤ x ∧ x ≤ 2147483647) (hl : -2147483648 ≤ l ∧ l ≤ 2147483647) (hn : -2147483648 ≤ n ∧ n ≤ 2147483647) : Jt mX11_row mX12_row [vi x, vi l, vi n] vi σ := by
  obtain ⟨la, sz, it, B, na, Ac, tp, tn, fl, su, mk, Im, nt, Tr, iC, iM, iP⟩ := hI
  by_cases q0 : ¬ (0 ≤ x ∧ x < 8 ∧ 0 ≤ l ∧ l ≤ 2 ∧ n ≤ 40)
  · refine Jq iC iM iP (v := (-1000001)) (su2 := su) (ct_imp (o_row iC.1 hx hl hn) (fun r τ h => ?_)) (fun τ iM => ct_imp (m_row iM.1 hx hl hn) (fun r χ h => ?_))
    · obtain ⟨rfl, rfl⟩ := h.1 q0
      exact ⟨rfl, CF_rf iC.2.2.2.2.2.1⟩
    · obtain ⟨rfl, rfl⟩ := h.1 q0
      exact ⟨rfl, MF_rf iM.2.2.2.2.2.1⟩
  by_cases q1 : (0 ≤ x ∧ x < 8 ∧ 0 ≤ l ∧ l ≤ 2) ∧ n < 0
  · refine Jq iC iM iP (v := (-1000010 - 4)) (su2 := 4) (ct_imp (o_row iC.1 hx hl hn) (fun r τ h => ?_)) (fun τ iM => ct_imp (m_row iM.1 hx hl hn) (fun r χ h => ?_))
    · obtain ⟨rfl, rfl⟩ := h.2.1 q1
      exact ⟨rfl, CF_st _ _⟩
    · obtain ⟨rfl, rfl⟩ := h.2.1 q1
      exact ⟨rfl, MF_st _ _⟩
  have q2 : (0 ≤ x ∧ x < 8 ∧ 0 ≤ l ∧ l ≤ 2) ∧ 0 ≤ n ∧ n ≤ 40 := by first | omega | grind
  refine Jm (v := n) (ct_imp (o_row iC.1 hx hl hn) (fun r τ h => h.2.2 q2)) (fun τ hp => have iM2 := iM.hi (τ := τ) (fun k hk => hp.2.2.2 k (by omega) (by omega) (by omega) (by omega)); ct_imp (m_row iM2.1 hx hl hn) (fun r χ h => h.2.2 q2)) (fun τ χ hp hq => ?_)
  · have iM2 := iM.hi (τ := τ) (fun k hk => hp.2.2.2 k (by omega) (by omega) (by omega) (by omega))
    have hlo : ∀ k, k < 45 → χ k = τ k := fun k hk => hq.2.2.2 k (by omega) (by omega) (by omega) (by omega)
    obtain ⟨c1, c2, c3, c4, c5, c6, c7, c8, c9, c10⟩ := id iC
    obtain ⟨m1, m2, m3, m4, m5, m6, m7, m8, m9, m10⟩ := id iM2
    have gC : ∀ k, k = 2 ∨ k = 6 ∨ k = 11 ∨ k = 15 ∨ k = 16 ∨ k = 19 ∨ k = 20 ∨ k = 44 → τ k = σ k := fun k hk => hp.2.2.2 k (by omega) (by omega) (by omega) (by omega)
    have e11 : τ 0 11 = σ 0 11 := hp.2.1
    have e12 : τ 0 12 = 0 := hp.2.2.1
    have gM : ∀ k, k = 49 ∨ k = 52 ∨ k = 55 ∨ k = 60 ∨ k = 61 ∨ k = 62 → χ k = τ k := fun k hk => hq.2.2.2 k (by omega) (by omega) (by omega) (by omega)
    have g45 : ∀ j, j = 8 ∨ j = 12 ∨ j = 19 ∨ j = 29 → χ 45 j = τ 45 j := fun j hj => hq.2.2.1 j (by omega)
    have e0 : χ 45 0 = 0 := hq.2.1
    have iC2 : IC τ (upF la x.toNat l) (upB sz x.toNat n.toNat) (zrow it x.toNat) B na Ac tp tn fl 0 mk Im nt Tr := ⟨hp.1, fun j hj => by rw [gC 16 (by omega)]; exact c2 j hj, c3.of (by rw [gC 6 (by omega)]) (by rw [gC 6 (by omega)]) (gC 19 (by omega)), ⟨by rw [gC 2 (by omega)]; exact c4.1, c4.2.1, fun i hi => by rw [gC 15 (by omega)]; exact c4.2.2 i hi⟩, by rw [e11]; exact c5, e12, by rw [gC 6 (by omega)]; exact c7, fun k hk hb j hj => by rw [gC 20 (by omega)]; exact c8 k hk hb j hj, by rw [gC 11 (by omega)]; exact c9, fun j hj => by rw [gC 44 (by omega)]; exact c10 j hj⟩
    have iM3 : IM χ (upF la x.toNat l) (upB sz x.toNat n.toNat) (zrow it x.toNat) B na Ac tp tn fl 0 mk Im nt Tr := ⟨hq.1, m2.of (gM 49 (by omega)), m3.of (g45 8 (by omega)) (gM 52 (by omega)), m4.of (g45 12 (by omega)) (gM 55 (by omega)), by rw [g45 19 (by omega)]; exact m5, e0, fun k hk => by rw [gM 60 (by omega)]; exact m7 k hk, fun k hk hb j hj => by rw [gM 61 (by omega)]; exact m8 k hk hb j hj, by rw [g45 29 (by omega)]; exact m9, fun j hj => by rw [gM 62 (by omega)]; exact m10 j hj⟩
    exact ⟨upF la x.toNat l, upB sz x.toNat n.toNat, zrow it x.toNat, B, na, Ac, tp, tn, fl, 0, mk, Im, nt, Tr, iC2.lo hlo, iM3, iP⟩
theorem j_set {σ : St} (hI : Inv σ) {x i v : Int} (hx : -2147483648 ≤ x ∧ x ≤ 2147483647) (hi : -2147483648 ≤ i ∧ i ≤ 2147483647) (hv : -2147483648 ≤ v ∧ v ≤ 2147483647) : Jt mX11_set mX12_set [vi x, vi i, vi v] vi σ := by
  obtain ⟨la, sz, it, B, na, Ac, tp, tn, fl, su, mk, Im, nt, Tr, iC, iM, iP⟩ := hI
  by_cases q0 : ¬ (0 ≤ x ∧ x < 8)
  · refine Jq iC iM iP (v := (-1000001)) (su2 := su) (ct_imp (o_set iC.1 hx hi hv) (fun r τ h => ?_)) (fun τ iM => ct_imp (m_set iM.1 hx hi hv) (fun r χ h => ?_))
    · obtain ⟨rfl, rfl⟩ := h.1 q0
      exact ⟨rfl, CF_rf iC.2.2.2.2.2.1⟩
    · obtain ⟨rfl, rfl⟩ := h.1 q0
      exact ⟨rfl, MF_rf iM.2.2.2.2.2.1⟩
  by_cases q1 : (0 ≤ x ∧ x < 8) ∧ la x.toNat = -1
  · refine Jq iC iM iP (v := (-1000010 - 1)) (su2 := 1) (ct_imp (o_set iC.1 hx hi hv) (fun r τ h => ?_)) (fun τ iM => ct_imp (m_set iM.1 hx hi hv) (fun r χ h => ?_))
    · obtain ⟨rfl, rfl⟩ := h.2.1 q1
      exact ⟨rfl, CF_st _ _⟩
    · obtain ⟨rfl, rfl⟩ := h.2.1 q1
      exact ⟨rfl, MF_st _ _⟩
  by_cases q2 : (0 ≤ x ∧ x < 8) ∧ la x.toNat ≠ -1 ∧ ¬ (0 ≤ i ∧ i < sz x.toNat)
  · refine Jq iC iM iP (v := (-1000010 - 2)) (su2 := 2) (ct_imp (o_set iC.1 hx hi hv) (fun r τ h => ?_)) (fun τ iM => ct_imp (m_set iM.1 hx hi hv) (fun r χ h => ?_))
    · obtain ⟨rfl, rfl⟩ := h.2.2.1 q2
      exact ⟨rfl, CF_st _ _⟩
    · obtain ⟨rfl, rfl⟩ := h.2.2.1 q2
      exact ⟨rfl, MF_st _ _⟩
  have q3 : (0 ≤ x ∧ x < 8) ∧ la x.toNat ≠ -1 ∧ (0 ≤ i ∧ i < sz x.toNat) := by first | omega | grind
  refine Jm (v := kp (la x.toNat) v) (ct_imp (o_set iC.1 hx hi hv) (fun r τ h => h.2.2.2 q3)) (fun τ hp => have iM2 := iM.hi (τ := τ) (fun k hk => by rw [← hp, up_o _ _ _ (by omega), up_o _ _ _ (by omega)]); ct_imp (m_set iM2.1 hx hi hv) (fun r χ h => h.2.2.2 q3)) (fun τ χ hp hq => ?_)
  · have iM2 := iM.hi (τ := τ) (fun k hk => by rw [← hp, up_o _ _ _ (by omega), up_o _ _ _ (by omega)])
    have hlo : ∀ k, k < 45 → χ k = τ k := fun k hk => by rw [← hq, up_o _ _ _ (by omega), up_o _ _ _ (by omega)]
    obtain ⟨c1, c2, c3, c4, c5, c6, c7, c8, c9, c10⟩ := id iC
    obtain ⟨m1, m2, m3, m4, m5, m6, m7, m8, m9, m10⟩ := id iM2
    have gC : ∀ k, k = 2 ∨ k = 6 ∨ k = 11 ∨ k = 15 ∨ k = 16 ∨ k = 19 ∨ k = 20 ∨ k = 44 → τ k = σ k := fun k hk => by rw [← hp, up_o _ _ _ (by omega), up_o _ _ _ (by omega)]
    have e11 : τ 0 11 = σ 0 11 := by rw [← hp, up_n _ _ (by decide), up_o _ _ _ (by decide)]
    have e12 : τ 0 12 = 0 := by rw [← hp, up_s]
    have gM : ∀ k, k = 49 ∨ k = 52 ∨ k = 55 ∨ k = 60 ∨ k = 61 ∨ k = 62 → χ k = τ k := fun k hk => by rw [← hq, up_o _ _ _ (by omega), up_o _ _ _ (by omega)]
    have g45 : ∀ j, j = 8 ∨ j = 12 ∨ j = 19 ∨ j = 29 → χ 45 j = τ 45 j := fun j hj => by rw [← hq, up_o _ _ _ (by decide), up_n _ _ (by omega)]
    have e0 : χ 45 0 = 0 := by rw [← hq, up_o _ _ _ (by decide), up_s]
    have iC2 : IC τ la sz (upF it (x.toNat * 40 + i.toNat) (kp (la x.toNat) v)) B na Ac tp tn fl 0 mk Im nt Tr := ⟨fun r hr => by
      obtain ⟨k1, k2, k3, k4, k5⟩ := c1 r hr
      rw [← hp, up_o _ _ _ (show 14 ≠ 0 by decide), up_o _ _ _ (show 14 ≠ 12 by decide), up_o _ _ _ (show 13 ≠ 0 by decide), up_o _ _ _ (show 13 ≠ 12 by decide), up_o _ _ _ (show 12 ≠ 0 by decide)]
      refine ⟨k1, k2, k3, k4, fun hl => ⟨(k5 hl).1, fun i2 hi2 => ?_⟩⟩
      by_cases e : r * 40 + i2 = x.toNat * 40 + i.toNat
      · rw [e, up_s, upF_s]; exact ⟨rfl, kp_r hv⟩
      · rw [up_n _ _ e, upF_n _ _ e]; exact (k5 hl).2 i2 hi2, fun j hj => by rw [gC 16 (by omega)]; exact c2 j hj, c3.of (by rw [gC 6 (by omega)]) (by rw [gC 6 (by omega)]) (gC 19 (by omega)), ⟨by rw [gC 2 (by omega)]; exact c4.1, c4.2.1, fun i hi => by rw [gC 15 (by omega)]; exact c4.2.2 i hi⟩, by rw [e11]; exact c5, e12, by rw [gC 6 (by omega)]; exact c7, fun k hk hb j hj => by rw [gC 20 (by omega)]; exact c8 k hk hb j hj, by rw [gC 11 (by omega)]; exact c9, fun j hj => by rw [gC 44 (by omega)]; exact c10 j hj⟩
    have iM3 : IM χ la sz (upF it (x.toNat * 40 + i.toNat) (kp (la x.toNat) v)) B na Ac tp tn fl 0 mk Im nt Tr := ⟨fun r hr => by
      obtain ⟨k1, k2, k3, k4, k5⟩ := m1 r hr
      rw [← hq, up_o _ _ _ (show 46 ≠ 48 by decide), up_o _ _ _ (show 46 ≠ 45 by decide), up_o _ _ _ (show 47 ≠ 48 by decide), up_o _ _ _ (show 47 ≠ 45 by decide)]
      refine ⟨k1, k2, k3, k4, fun hl => ⟨(k5 hl).1, fun i2 hi2 => ?_⟩⟩
      have hx8 : x.toNat < 8 := by omega
      by_cases e : r * 40 + i2 = x.toNat * 40 + i.toNat
      · rw [show 40 * r + i2 = 40 * x.toNat + i.toNat by omega, up_s, e, upF_s]; exact ⟨rfl, kp_r hv⟩
      · rw [up_n _ _ (by omega), upF_n _ _ e, up_o _ _ _ (by decide)]; exact (k5 hl).2 i2 hi2, m2.of (gM 49 (by omega)), m3.of (g45 8 (by omega)) (gM 52 (by omega)), m4.of (g45 12 (by omega)) (gM 55 (by omega)), by rw [g45 19 (by omega)]; exact m5, e0, fun k hk => by rw [gM 60 (by omega)]; exact m7 k hk, fun k hk hb j hj => by rw [gM 61 (by omega)]; exact m8 k hk hb j hj, by rw [g45 29 (by omega)]; exact m9, fun j hj => by rw [gM 62 (by omega)]; exact m10 j hj⟩
    exact ⟨la, sz, upF it (x.toNat * 40 + i.toNat) (kp (la x.toNat) v), B, na, Ac, tp, tn, fl, 0, mk, Im, nt, Tr, iC2.lo hlo, iM3, iP⟩
theorem j_drop {σ : St} (hI : Inv σ) {x : Int} (hx : -2147483648 ≤ x ∧ x ≤ 2147483647) : Jt mX11_drop mX12_drop [vi x] vi σ := by
  obtain ⟨la, sz, it, B, na, Ac, tp, tn, fl, su, mk, Im, nt, Tr, iC, iM, iP⟩ := hI
  by_cases q0 : ¬ (0 ≤ x ∧ x < 8)
  · refine Jq iC iM iP (v := (-1000001)) (su2 := su) (ct_imp (o_drop iC.1 hx) (fun r τ h => ?_)) (fun τ iM => ct_imp (m_drop iM.1 hx) (fun r χ h => ?_))
    · obtain ⟨rfl, rfl⟩ := h.1 q0
      exact ⟨rfl, CF_rf iC.2.2.2.2.2.1⟩
    · obtain ⟨rfl, rfl⟩ := h.1 q0
      exact ⟨rfl, MF_rf iM.2.2.2.2.2.1⟩
  by_cases q1 : (0 ≤ x ∧ x < 8) ∧ la x.toNat = -1
  · refine Jq iC iM iP (v := (-1000010 - 1)) (su2 := 1) (ct_imp (o_drop iC.1 hx) (fun r τ h => ?_)) (fun τ iM => ct_imp (m_drop iM.1 hx) (fun r χ h => ?_))
    · obtain ⟨rfl, rfl⟩ := h.2.1 q1
      exact ⟨rfl, CF_st _ _⟩
    · obtain ⟨rfl, rfl⟩ := h.2.1 q1
      exact ⟨rfl, MF_st _ _⟩
  have q2 : (0 ≤ x ∧ x < 8) ∧ la x.toNat ≠ -1 := by first | omega | grind
  refine Jm (v := (sz x.toNat : Int)) (ct_imp (o_drop iC.1 hx) (fun r τ h => h.2.2 q2)) (fun τ hp => have iM2 := iM.hi (τ := τ) (fun k hk => by rw [← hp, up_o _ _ _ (by omega), up_o _ _ _ (by omega), up_o _ _ _ (by omega)]); ct_imp (m_drop iM2.1 hx) (fun r χ h => h.2.2 q2)) (fun τ χ hp hq => ?_)
  · have iM2 := iM.hi (τ := τ) (fun k hk => by rw [← hp, up_o _ _ _ (by omega), up_o _ _ _ (by omega), up_o _ _ _ (by omega)])
    have hlo : ∀ k, k < 45 → χ k = τ k := fun k hk => by rw [← hq, up_o _ _ _ (by omega), up_o _ _ _ (by omega)]
    obtain ⟨c1, c2, c3, c4, c5, c6, c7, c8, c9, c10⟩ := id iC
    obtain ⟨m1, m2, m3, m4, m5, m6, m7, m8, m9, m10⟩ := id iM2
    have gC : ∀ k, k = 2 ∨ k = 6 ∨ k = 11 ∨ k = 15 ∨ k = 16 ∨ k = 19 ∨ k = 20 ∨ k = 44 → τ k = σ k := fun k hk => by rw [← hp, up_o _ _ _ (by omega), up_o _ _ _ (by omega), up_o _ _ _ (by omega)]
    have e11 : τ 0 11 = σ 0 11 := by rw [← hp, up_n _ _ (by decide), up_o _ _ _ (by decide), up_o _ _ _ (by decide)]
    have e12 : τ 0 12 = 0 := by rw [← hp, up_s]
    have gM : ∀ k, k = 49 ∨ k = 52 ∨ k = 55 ∨ k = 60 ∨ k = 61 ∨ k = 62 → χ k = τ k := fun k hk => by rw [← hq, up_o _ _ _ (by omega), up_o _ _ _ (by omega)]
    have g45 : ∀ j, j = 8 ∨ j = 12 ∨ j = 19 ∨ j = 29 → χ 45 j = τ 45 j := fun j hj => by rw [← hq, up_o _ _ _ (by decide), up_n _ _ (by omega)]
    have e0 : χ 45 0 = 0 := by rw [← hq, up_o _ _ _ (by decide), up_s]
    have iC2 : IC τ (upF la x.toNat (-1)) sz it B na Ac tp tn fl 0 mk Im nt Tr := ⟨fun r hr => by
      obtain ⟨k1, k2, k3, k4, k5⟩ := c1 r hr
      rw [← hp, up_o _ _ _ (show 14 ≠ 0 by decide), up_o _ _ _ (show 14 ≠ 13 by decide), up_o _ _ _ (show 13 ≠ 0 by decide), up_o _ _ _ (show 12 ≠ 0 by decide), up_o _ _ _ (show 12 ≠ 13 by decide), up_o _ _ _ (show 12 ≠ 14 by decide)]
      by_cases e : r = x.toNat
      · subst e
        rw [up_s, up_s, upF_s]
        exact ⟨rfl, by omega, by omega, k4, fun hl => absurd rfl hl⟩
      · rw [up_n _ _ e, up_n _ _ e, upF_n _ _ e, up_o _ _ _ (show 13 ≠ 14 by decide)]
        exact ⟨k1, k2, k3, k4, k5⟩, fun j hj => by rw [gC 16 (by omega)]; exact c2 j hj, c3.of (by rw [gC 6 (by omega)]) (by rw [gC 6 (by omega)]) (gC 19 (by omega)), ⟨by rw [gC 2 (by omega)]; exact c4.1, c4.2.1, fun i hi => by rw [gC 15 (by omega)]; exact c4.2.2 i hi⟩, by rw [e11]; exact c5, e12, by rw [gC 6 (by omega)]; exact c7, fun k hk hb j hj => by rw [gC 20 (by omega)]; exact c8 k hk hb j hj, by rw [gC 11 (by omega)]; exact c9, fun j hj => by rw [gC 44 (by omega)]; exact c10 j hj⟩
    have iM3 : IM χ (upF la x.toNat (-1)) sz it B na Ac tp tn fl 0 mk Im nt Tr := ⟨fun r hr => by
      obtain ⟨k1, k2, k3, k4, k5⟩ := m1 r hr
      rw [← hq, up_o _ _ _ (show 47 ≠ 46 by decide), up_o _ _ _ (show 47 ≠ 45 by decide), up_o _ _ _ (show 48 ≠ 46 by decide), up_o _ _ _ (show 48 ≠ 45 by decide)]
      by_cases e : r = x.toNat
      · subst e
        rw [up_s, upF_s]
        exact ⟨rfl, by omega, k3, k4, fun hl => absurd rfl hl⟩
      · rw [up_n _ _ e, upF_n _ _ e, up_o _ _ _ (by decide)]
        exact ⟨k1, k2, k3, k4, k5⟩, m2.of (gM 49 (by omega)), m3.of (g45 8 (by omega)) (gM 52 (by omega)), m4.of (g45 12 (by omega)) (gM 55 (by omega)), by rw [g45 19 (by omega)]; exact m5, e0, fun k hk => by rw [gM 60 (by omega)]; exact m7 k hk, fun k hk hb j hj => by rw [gM 61 (by omega)]; exact m8 k hk hb j hj, by rw [g45 29 (by omega)]; exact m9, fun j hj => by rw [gM 62 (by omega)]; exact m10 j hj⟩
    exact ⟨upF la x.toNat (-1), sz, it, B, na, Ac, tp, tn, fl, 0, mk, Im, nt, Tr, iC2.lo hlo, iM3, iP⟩
theorem j_copy {σ : St} (hI : Inv σ) {a i b j n : Int} (ha : -2147483648 ≤ a ∧ a ≤ 2147483647) (hi : -2147483648 ≤ i ∧ i ≤ 2147483647) (hb : -2147483648 ≤ b ∧ b ≤ 2147483647) (hj : -2147483648 ≤ j ∧ j ≤ 2147483647) (hn : -2147483648 ≤ n ∧ n ≤ 2147483647) : Jt mX11_copy mX12_copy [vi a, vi i, vi b, vi j, vi n] vi σ := by
  obtain ⟨la, sz, it, B, na, Ac, tp, tn, fl, su, mk, Im, nt, Tr, iC, iM, iP⟩ := hI
  by_cases q0 : ¬ ((0 ≤ a ∧ a < 8) ∧ (0 ≤ b ∧ b < 8))
  · refine Jq iC iM iP (v := (-1000001)) (su2 := su) (ct_imp (o_copy iC.1 ha hi hb hj hn) (fun r τ h => ?_)) (fun τ iM => ct_imp (m_copy iM.1 ha hi hb hj hn) (fun r χ h => ?_))
    · obtain ⟨rfl, rfl⟩ := h.1 q0
      exact ⟨rfl, CF_rf iC.2.2.2.2.2.1⟩
    · obtain ⟨rfl, rfl⟩ := h.1 q0
      exact ⟨rfl, MF_rf iM.2.2.2.2.2.1⟩
  by_cases q1 : ((0 ≤ a ∧ a < 8) ∧ (0 ≤ b ∧ b < 8)) ∧ (la a.toNat = -1 ∨ la b.toNat = -1)
  · refine Jq iC iM iP (v := (-1000010 - 1)) (su2 := 1) (ct_imp (o_copy iC.1 ha hi hb hj hn) (fun r τ h => ?_)) (fun τ iM => ct_imp (m_copy iM.1 ha hi hb hj hn) (fun r χ h => ?_))
    · obtain ⟨rfl, rfl⟩ := h.2.1 q1
      exact ⟨rfl, CF_st _ _⟩
    · obtain ⟨rfl, rfl⟩ := h.2.1 q1
      exact ⟨rfl, MF_st _ _⟩
  by_cases q2 : ((0 ≤ a ∧ a < 8) ∧ (0 ≤ b ∧ b < 8)) ∧ ¬ (la a.toNat = -1 ∨ la b.toNat = -1) ∧ la a.toNat ≠ la b.toNat
  · refine Jq iC iM iP (v := (-1000010 - 5)) (su2 := 5) (ct_imp (o_copy iC.1 ha hi hb hj hn) (fun r τ h => ?_)) (fun τ iM => ct_imp (m_copy iM.1 ha hi hb hj hn) (fun r χ h => ?_))
    · obtain ⟨rfl, rfl⟩ := h.2.2.1 q2
      exact ⟨rfl, CF_st _ _⟩
    · obtain ⟨rfl, rfl⟩ := h.2.2.1 q2
      exact ⟨rfl, MF_st _ _⟩
  by_cases q3 : ((0 ≤ a ∧ a < 8) ∧ (0 ≤ b ∧ b < 8)) ∧ ¬ (la a.toNat = -1 ∨ la b.toNat = -1) ∧ la a.toNat = la b.toNat ∧ ¬ ((0 ≤ i ∧ 0 ≤ n ∧ i + n ≤ sz a.toNat) ∧ (0 ≤ j ∧ j + n ≤ sz b.toNat))
  · refine Jq iC iM iP (v := (-1000010 - 2)) (su2 := 2) (ct_imp (o_copy iC.1 ha hi hb hj hn) (fun r τ h => ?_)) (fun τ iM => ct_imp (m_copy iM.1 ha hi hb hj hn) (fun r χ h => ?_))
    · obtain ⟨rfl, rfl⟩ := h.2.2.2.1 q3
      exact ⟨rfl, CF_st _ _⟩
    · obtain ⟨rfl, rfl⟩ := h.2.2.2.1 q3
      exact ⟨rfl, MF_st _ _⟩
  have q4 : ((0 ≤ a ∧ a < 8) ∧ (0 ≤ b ∧ b < 8)) ∧ ¬ (la a.toNat = -1 ∨ la b.toNat = -1) ∧ la a.toNat = la b.toNat ∧ ((0 ≤ i ∧ 0 ≤ n ∧ i + n ≤ sz a.toNat) ∧ (0 ≤ j ∧ j + n ≤ sz b.toNat)) := by first | omega | grind
  refine Jm (v := n) (ct_imp (o_copy iC.1 ha hi hb hj hn) (fun r τ h => h.2.2.2.2 q4)) (fun τ hp => have iM2 := iM.hi (τ := τ) (fun k hk => by rw [← hp, up_o _ _ _ (by omega), upA_n _ _ (by omega)]); ct_imp (m_copy iM2.1 ha hi hb hj hn) (fun r χ h => h.2.2.2.2 q4)) (fun τ χ hp hq => ?_)
  · have iM2 := iM.hi (τ := τ) (fun k hk => by rw [← hp, up_o _ _ _ (by omega), upA_n _ _ (by omega)])
    have hlo : ∀ k, k < 45 → χ k = τ k := fun k hk => hq.2.2.2 k (by omega) (by omega)
    obtain ⟨c1, c2, c3, c4, c5, c6, c7, c8, c9, c10⟩ := id iC
    obtain ⟨m1, m2, m3, m4, m5, m6, m7, m8, m9, m10⟩ := id iM2
    have gC : ∀ k, k = 2 ∨ k = 6 ∨ k = 11 ∨ k = 15 ∨ k = 16 ∨ k = 19 ∨ k = 20 ∨ k = 44 → τ k = σ k := fun k hk => by rw [← hp, up_o _ _ _ (by omega), upA_n _ _ (by omega)]
    have e11 : τ 0 11 = σ 0 11 := by rw [← hp, up_n _ _ (by decide), upA_n _ _ (by decide)]
    have e12 : τ 0 12 = 0 := by rw [← hp, up_s]
    have gM : ∀ k, k = 49 ∨ k = 52 ∨ k = 55 ∨ k = 60 ∨ k = 61 ∨ k = 62 → χ k = τ k := fun k hk => hq.2.2.2 k (by omega) (by omega)
    have g45 : ∀ j, j = 8 ∨ j = 12 ∨ j = 19 ∨ j = 29 → χ 45 j = τ 45 j := fun j hj => hq.2.2.1 j (by omega)
    have e0 : χ 45 0 = 0 := hq.2.1
    have iC2 : IC τ la sz (cpF it it (a.toNat * 40 + i.toNat) (b.toNat * 40 + j.toNat) n.toNat) B na Ac tp tn fl 0 mk Im nt Tr := ⟨fun r hr => by
      obtain ⟨k1, k2, k3, k4, k5⟩ := c1 r hr
      obtain ⟨a1, a2, a3, a4, a5⟩ := c1 a.toNat (by omega)
      obtain ⟨b1, b2, b3, b4, b5⟩ := c1 b.toNat (by omega)
      have e12v : τ 12 = cpF (σ 12) (σ 12) (a.toNat * 40 + i.toNat) (b.toNat * 40 + j.toNat) n.toNat := by rw [← hp, up_o _ _ _ (by decide), upA_s]
      rw [e12v, ← hp, up_o _ _ _ (show 14 ≠ 0 by decide), upA_n _ _ (show 14 ≠ 12 by decide), up_o _ _ _ (show 13 ≠ 0 by decide), upA_n _ _ (show 13 ≠ 12 by decide)]
      refine ⟨k1, k2, k3, k4, fun hl => ⟨(k5 hl).1, fun i2 hi2 => ?_⟩⟩
      by_cases e : b.toNat * 40 + j.toNat ≤ r * 40 + i2 ∧ r * 40 + i2 < b.toNat * 40 + j.toNat + n.toNat
      · rw [cpF_in e.1 e.2, cpF_in e.1 e.2]
        have h := (a5 (by omega)).2 (i.toNat + (r * 40 + i2 - (b.toNat * 40 + j.toNat))) (by omega)
        rw [show a.toNat * 40 + i.toNat + (r * 40 + i2 - (b.toNat * 40 + j.toNat)) = a.toNat * 40 + (i.toNat + (r * 40 + i2 - (b.toNat * 40 + j.toNat))) by omega]
        exact h
      · rw [cpF_out (by omega), cpF_out (by omega)]
        exact (k5 hl).2 i2 hi2, fun j hj => by rw [gC 16 (by omega)]; exact c2 j hj, c3.of (by rw [gC 6 (by omega)]) (by rw [gC 6 (by omega)]) (gC 19 (by omega)), ⟨by rw [gC 2 (by omega)]; exact c4.1, c4.2.1, fun i hi => by rw [gC 15 (by omega)]; exact c4.2.2 i hi⟩, by rw [e11]; exact c5, e12, by rw [gC 6 (by omega)]; exact c7, fun k hk hb j hj => by rw [gC 20 (by omega)]; exact c8 k hk hb j hj, by rw [gC 11 (by omega)]; exact c9, fun j hj => by rw [gC 44 (by omega)]; exact c10 j hj⟩
    have iM3 : IM χ la sz (cpF it it (a.toNat * 40 + i.toNat) (b.toNat * 40 + j.toNat) n.toNat) B na Ac tp tn fl 0 mk Im nt Tr := ⟨fun r hr => by
      obtain ⟨k1, k2, k3, k4, k5⟩ := m1 r hr
      obtain ⟨a1, a2, a3, a4, a5⟩ := m1 a.toNat (by omega)
      obtain ⟨b1, b2, b3, b4, b5⟩ := m1 b.toNat (by omega)
      rw [hq.1, hq.2.2.2 46 (by decide) (by decide), hq.2.2.2 47 (by decide) (by decide)]
      refine ⟨k1, k2, k3, k4, fun hl => ⟨(k5 hl).1, fun i2 hi2 => ?_⟩⟩
      by_cases e : b.toNat * 40 + j.toNat ≤ r * 40 + i2 ∧ r * 40 + i2 < b.toNat * 40 + j.toNat + n.toNat
      · rw [cpF_in (show 40 * b.toNat + j.toNat ≤ 40 * r + i2 by omega) (by omega), cpF_in e.1 e.2]
        have h := (a5 (by omega)).2 (i.toNat + (r * 40 + i2 - (b.toNat * 40 + j.toNat))) (by omega)
        rw [show a.toNat * 40 + i.toNat + (r * 40 + i2 - (b.toNat * 40 + j.toNat)) = a.toNat * 40 + (i.toNat + (r * 40 + i2 - (b.toNat * 40 + j.toNat))) by omega, show 40 * a.toNat + i.toNat + (40 * r + i2 - (40 * b.toNat + j.toNat)) = 40 * a.toNat + (i.toNat + (r * 40 + i2 - (b.toNat * 40 + j.toNat))) by omega]
        exact h
      · rw [cpF_out (by omega), cpF_out (by omega)]
        exact (k5 hl).2 i2 hi2, m2.of (gM 49 (by omega)), m3.of (g45 8 (by omega)) (gM 52 (by omega)), m4.of (g45 12 (by omega)) (gM 55 (by omega)), by rw [g45 19 (by omega)]; exact m5, e0, fun k hk => by rw [gM 60 (by omega)]; exact m7 k hk, fun k hk hb j hj => by rw [gM 61 (by omega)]; exact m8 k hk hb j hj, by rw [g45 29 (by omega)]; exact m9, fun j hj => by rw [gM 62 (by omega)]; exact m10 j hj⟩
    exact ⟨la, sz, cpF it it (a.toNat * 40 + i.toNat) (b.toNat * 40 + j.toNat) n.toNat, B, na, Ac, tp, tn, fl, 0, mk, Im, nt, Tr, iC2.lo hlo, iM3, iP⟩
