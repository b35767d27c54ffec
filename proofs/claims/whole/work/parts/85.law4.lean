/-! the law: tape, acts, images, asks -/
def imU (Im : Nat → Bok) (x : Nat) (B : Bok) : Nat → Bok := fun k => if k = x then B else Im k
theorem imU_s {Im : Nat → Bok} {x k : Nat} {B : Bok} (h : k = x) : imU Im x B k = B := if_pos h
theorem imU_n {Im : Nat → Bok} {x k : Nat} {B : Bok} (h : ¬ k = x) : imU Im x B k = Im k := if_neg h
theorem lvL_f {σ τ : St} {L : List Int} (h : lvL (up σ 11 1 0) 0 L = τ) : τ 11 1 = (L.length : Int) ∧ (∀ j, j < L.length → τ 44 j = L.getD j 0) ∧ ∀ k, k ≠ 11 → k ≠ 44 → τ k = σ k := by
  obtain ⟨a, b, c, d⟩ := lvL_sp L 0 (up σ 11 1 0) (up_s _ _ _ _)
  rw [h] at a c d
  exact ⟨by rw [a, Nat.zero_add], fun j hj => by have := c j hj; rwa [Nat.zero_add] at this, fun k h1 h2 => by rw [d k h1 h2, up_o _ _ _ h1]⟩
theorem lvN_f {σ τ : St} {L : List Int} (h : lvN (up σ 45 29 0) 0 L = τ) : τ 45 29 = (L.length : Int) ∧ (∀ j, j < L.length → τ 62 j = L.getD j 0) ∧ (∀ j, j ≠ 29 → τ 45 j = σ 45 j) ∧ ∀ k, k ≠ 45 → k ≠ 62 → τ k = σ k := by
  obtain ⟨a, b, c, f, d⟩ := lvN_sp L 0 (up σ 45 29 0) (up_s _ _ _ _)
  rw [h] at a c d f
  exact ⟨by rw [a, Nat.zero_add], fun j hj => by have := c j hj; rwa [Nat.zero_add] at this, fun j hj => by rw [f j hj, up_n _ _ hj], fun k h1 h2 => by rw [d k h1 h2, up_o _ _ _ h1]⟩
theorem j_feed {σ : St} (hI : Inv σ) {x : Int} (hx : -2147483648 ≤ x ∧ x ≤ 2147483647) : Jt mX11_feed mX12_feed [vi x] vi σ := by
  obtain ⟨la, sz, it, B, na, Ac, tp, tn, fl, su, mk, Im, nt, Tr, iC, iM, iP⟩ := hI
  by_cases q0 : ¬ (0 ≤ x ∧ x ≤ 255)
  · refine Jq iC iM iP (v := (-1000001)) (su2 := su) (ct_imp (o_feed iC.2.2.2.1.1 iC.2.2.2.1.2.1 hx) (fun r τ h => ?_)) (fun τ iM => ct_imp (m_feed iM.2.2.2.1.1 iC.2.2.2.1.2.1 hx) (fun r χ h => ?_))
    · obtain ⟨rfl, rfl⟩ := h.1 q0
      exact ⟨rfl, CF_rf iC.2.2.2.2.2.1⟩
    · obtain ⟨rfl, rfl⟩ := h.1 q0
      exact ⟨rfl, MF_rf iM.2.2.2.2.2.1⟩
  by_cases q1 : (0 ≤ x ∧ x ≤ 255) ∧ 120 ≤ tn
  · refine Jq iC iM iP (v := (-1000003)) (su2 := su) (ct_imp (o_feed iC.2.2.2.1.1 iC.2.2.2.1.2.1 hx) (fun r τ h => ?_)) (fun τ iM => ct_imp (m_feed iM.2.2.2.1.1 iC.2.2.2.1.2.1 hx) (fun r χ h => ?_))
    · obtain ⟨rfl, rfl⟩ := h.2.1 q1
      exact ⟨rfl, CF_rf iC.2.2.2.2.2.1⟩
    · obtain ⟨rfl, rfl⟩ := h.2.1 q1
      exact ⟨rfl, MF_rf iM.2.2.2.2.2.1⟩
  have q2 : (0 ≤ x ∧ x ≤ 255) ∧ tn < 120 := by first | omega | grind
  refine Jm (v := (tn : Int) + 1) (ct_imp (o_feed iC.2.2.2.1.1 iC.2.2.2.1.2.1 hx) (fun r τ h => h.2.2 q2)) (fun τ hp => have iM2 := iM.hi (τ := τ) (fun k hk => by rw [← hp, up_o _ _ _ (by omega), up_o _ _ _ (by omega)]); ct_imp (m_feed iM2.2.2.2.1.1 iC.2.2.2.1.2.1 hx) (fun r χ h => h.2.2 q2)) (fun τ χ hp hq => ?_)
  · have iM2 := iM.hi (τ := τ) (fun k hk => by rw [← hp, up_o _ _ _ (by omega), up_o _ _ _ (by omega)])
    have hlo : ∀ k, k < 45 → χ k = τ k := fun k hk => by rw [← hq, up_o _ _ _ (by omega), up_o _ _ _ (by omega)]
    obtain ⟨c1, c2, c3, c4, c5, c6, c7, c8, c9, c10⟩ := id iC
    obtain ⟨m1, m2, m3, m4, m5, m6, m7, m8, m9, m10⟩ := id iM2
    have gC : ∀ k, k = 6 ∨ k = 11 ∨ k = 12 ∨ k = 13 ∨ k = 14 ∨ k = 16 ∨ k = 19 ∨ k = 20 ∨ k = 44 → τ k = σ k := fun k hk => by rw [← hp, up_o _ _ _ (by omega), up_o _ _ _ (by omega)]
    have e11 : τ 0 11 = σ 0 11 := by rw [← hp, up_o _ _ _ (by omega), up_o _ _ _ (by omega)]
    have e12 : τ 0 12 = su := by rw [← hp, up_o _ _ _ (by decide), up_o _ _ _ (by decide)]; exact c6
    have gM : ∀ k, k = 46 ∨ k = 47 ∨ k = 48 ∨ k = 49 ∨ k = 52 ∨ k = 60 ∨ k = 61 ∨ k = 62 → χ k = τ k := fun k hk => by rw [← hq, up_o _ _ _ (by omega), up_o _ _ _ (by omega)]
    have g45 : ∀ j, j = 8 ∨ j = 19 ∨ j = 29 → χ 45 j = τ 45 j := fun j hj => by rw [← hq, up_n _ _ (by omega), up_o _ _ _ (by decide)]
    have e0 : χ 45 0 = su := by rw [← hq, up_n _ _ (by decide), up_o _ _ _ (by decide)]; exact m6
    have iC2 : IC τ la sz it B na Ac (upB tp tn x.toNat) (tn + 1) fl su mk Im nt Tr := ⟨fun r hr => by rw [gC 14 (by omega), gC 13 (by omega), gC 12 (by omega)]; exact c1 r hr, fun j hj => by rw [gC 16 (by omega)]; exact c2 j hj, c3.of (by rw [gC 6 (by omega)]) (by rw [gC 6 (by omega)]) (gC 19 (by omega)), ⟨by rw [← hp, up_s]; push_cast; rfl, by omega, fun i hi => by
      rw [← hp, up_o _ _ _ (by decide)]
      by_cases e : i = tn
      · rw [e, up_s, upB_s]; exact ⟨by omega, by omega⟩
      · rw [up_n _ _ e, upB_n _ _ e]; exact c4.2.2 i (by omega)⟩, by rw [e11]; exact c5, e12, by rw [gC 6 (by omega)]; exact c7, fun k hk hb j hj => by rw [gC 20 (by omega)]; exact c8 k hk hb j hj, by rw [gC 11 (by omega)]; exact c9, fun j hj => by rw [gC 44 (by omega)]; exact c10 j hj⟩
    have iM3 : IM χ la sz it B na Ac (upB tp tn x.toNat) (tn + 1) fl su mk Im nt Tr := ⟨m1.of (gM 46 (by omega)) (gM 47 (by omega)) (gM 48 (by omega)), m2.of (gM 49 (by omega)), m3.of (g45 8 (by omega)) (gM 52 (by omega)), ⟨by rw [← hq, up_s]; push_cast; rfl, by omega, fun i hi => by
      rw [← hq, up_o _ _ _ (by decide)]
      by_cases e : i = tn
      · rw [e, up_s, upB_s]; exact ⟨by omega, by omega⟩
      · rw [up_n _ _ e, upB_n _ _ e]; exact m4.2.2 i (by omega)⟩, by rw [g45 19 (by omega)]; exact m5, e0, fun k hk => by rw [gM 60 (by omega)]; exact m7 k hk, fun k hk hb j hj => by rw [gM 61 (by omega)]; exact m8 k hk hb j hj, by rw [g45 29 (by omega)]; exact m9, fun j hj => by rw [gM 62 (by omega)]; exact m10 j hj⟩
    exact ⟨la, sz, it, B, na, Ac, upB tp tn x.toNat, tn + 1, fl, su, mk, Im, nt, Tr, iC2.lo hlo, iM3, iP⟩
theorem j_undo {σ : St} (hI : Inv σ) : Jt mX11_undo mX12_undo [] vi σ := by
  obtain ⟨la, sz, it, B, na, Ac, tp, tn, fl, su, mk, Im, nt, Tr, iC, iM, iP⟩ := hI
  obtain ⟨od, a1, a2, a3, a4, a5⟩ := id iC.2.2.1
  by_cases q0 : na = 0
  · refine Jq iC iM iP (v := (-1000002)) (su2 := su) (ct_imp (o_undo a1 a2 a3 a4) (fun r τ h => ?_)) (fun τ iM => ct_imp (m_undo iM.2.2.1) (fun r χ h => ?_))
    · obtain ⟨rfl, rfl⟩ := h.1 q0
      exact ⟨rfl, CF_rf iC.2.2.2.2.2.1⟩
    · obtain ⟨rfl, rfl⟩ := h.1 q0
      exact ⟨rfl, MF_rf iM.2.2.2.2.2.1⟩
  have q1 : 1 ≤ na := by first | omega | grind
  refine Jm (v := ((na - 1 : Nat) : Int)) (ct_imp (o_undo a1 a2 a3 a4) (fun r τ h => h.2 q1)) (fun τ hp => have iM2 := iM.hi (τ := τ) (fun k hk => hp.2.2.2.2 k (by omega) (by omega)); ct_imp (m_undo iM2.2.2.1) (fun r χ h => h.2 q1)) (fun τ χ hp hq => ?_)
  · have iM2 := iM.hi (τ := τ) (fun k hk => hp.2.2.2.2 k (by omega) (by omega))
    have hlo : ∀ k, k < 45 → χ k = τ k := fun k hk => hq.2.2.2 k (by omega) (by omega)
    obtain ⟨c1, c2, c3, c4, c5, c6, c7, c8, c9, c10⟩ := id iC
    obtain ⟨m1, m2, m3, m4, m5, m6, m7, m8, m9, m10⟩ := id iM2
    have gC : ∀ k, k = 2 ∨ k = 11 ∨ k = 12 ∨ k = 13 ∨ k = 14 ∨ k = 15 ∨ k = 19 ∨ k = 20 ∨ k = 44 → τ k = σ k := fun k hk => hp.2.2.2.2 k (by omega) (by omega)
    have e11 : τ 0 11 = σ 0 11 := by rw [hp.2.2.2.2 0 (by decide) (by decide)]
    have e12 : τ 0 12 = su := by rw [hp.2.2.2.2 0 (by decide) (by decide)]; exact c6
    have gM : ∀ k, k = 46 ∨ k = 47 ∨ k = 48 ∨ k = 52 ∨ k = 55 ∨ k = 60 ∨ k = 61 ∨ k = 62 → χ k = τ k := fun k hk => hq.2.2.2 k (by omega) (by omega)
    have g45 : ∀ j, j = 12 ∨ j = 19 ∨ j = 29 → χ 45 j = τ 45 j := fun j hj => hq.2.2.1 j (by omega)
    have e0 : χ 45 0 = su := by rw [hq.2.2.1 0 (by decide)]; exact m6
    have iC2 : IC τ la sz it (Ac (na - 1)) (na - 1) Ac tp tn fl su mk Im nt Tr := ⟨fun r hr => by rw [gC 14 (by omega), gC 13 (by omega), gC 12 (by omega)]; exact c1 r hr, fun j hj => by rw [hp.2.2.2.1, cpF_in (by omega) (by omega), Nat.sub_zero]; exact a5 (na - 1) (by omega) j hj, ⟨od, hp.1, a2, hp.2.1, by omega, fun k hk j hj => by rw [hp.2.2.2.2 19 (by decide) (by decide)]; exact a5 k (by omega) j hj⟩, ⟨by rw [gC 2 (by omega)]; exact c4.1, c4.2.1, fun i hi => by rw [gC 15 (by omega)]; exact c4.2.2 i hi⟩, by rw [e11]; exact c5, e12, by rw [hp.2.2.1]; exact c7, fun k hk hb j hj => by rw [gC 20 (by omega)]; exact c8 k hk hb j hj, by rw [gC 11 (by omega)]; exact c9, fun j hj => by rw [gC 44 (by omega)]; exact c10 j hj⟩
    have iM3 : IM χ la sz it (Ac (na - 1)) (na - 1) Ac tp tn fl su mk Im nt Tr := ⟨m1.of (gM 46 (by omega)) (gM 47 (by omega)) (gM 48 (by omega)), hq.1, ⟨hq.2.1, by omega, fun k hk j hj => by rw [hq.2.2.2 52 (by decide) (by decide)]; exact m3.2.2 k (by omega) j hj⟩, m4.of (g45 12 (by omega)) (gM 55 (by omega)), by rw [g45 19 (by omega)]; exact m5, e0, fun k hk => by rw [gM 60 (by omega)]; exact m7 k hk, fun k hk hb j hj => by rw [gM 61 (by omega)]; exact m8 k hk hb j hj, by rw [g45 29 (by omega)]; exact m9, fun j hj => by rw [gM 62 (by omega)]; exact m10 j hj⟩
    exact ⟨la, sz, it, Ac (na - 1), na - 1, Ac, tp, tn, fl, su, mk, Im, nt, Tr, iC2.lo hlo, iM3, ⟨Or.inl (iP.2.1 (na - 1) (by omega)), fun k hk => iP.2.1 k (by omega), iP.2.2⟩⟩
theorem j_image {σ : St} (hI : Inv σ) {x : Int} (hx : -2147483648 ≤ x ∧ x ≤ 2147483647) : Jt mX11_image mX12_image [vi x] vi σ := by
  obtain ⟨la, sz, it, B, na, Ac, tp, tn, fl, su, mk, Im, nt, Tr, iC, iM, iP⟩ := hI
  by_cases q0 : ¬ (0 ≤ x ∧ x < 2)
  · refine Jq iC iM iP (v := (-1000001)) (su2 := su) (ct_imp (o_image iC.2.1 iP.1 iC.2.2.2.2.2.2.1 iP.2.2.2.1 hx) (fun r τ h => ?_)) (fun τ iM => ct_imp (m_image iM.2.1 iP.1 hx) (fun r χ h => ?_))
    · obtain ⟨rfl, rfl⟩ := h.1 q0
      exact ⟨rfl, CF_rf iC.2.2.2.2.2.1⟩
    · obtain ⟨rfl, rfl⟩ := h.1 q0
      exact ⟨rfl, MF_rf iM.2.2.2.2.2.1⟩
  by_cases q1 : (0 ≤ x ∧ x < 2) ∧ B 2 = 0
  · refine Jq iC iM iP (v := (-1000002)) (su2 := su) (ct_imp (o_image iC.2.1 iP.1 iC.2.2.2.2.2.2.1 iP.2.2.2.1 hx) (fun r τ h => ?_)) (fun τ iM => ct_imp (m_image iM.2.1 iP.1 hx) (fun r χ h => ?_))
    · obtain ⟨rfl, rfl⟩ := h.2.1 q1
      exact ⟨rfl, CF_rf iC.2.2.2.2.2.1⟩
    · obtain ⟨rfl, rfl⟩ := h.2.1 q1
      exact ⟨rfl, MF_rf iM.2.2.2.2.2.1⟩
  have q2 : (0 ≤ x ∧ x < 2) ∧ 0 < B 2 := by first | omega | grind
  refine Jm (v := 1) (ct_imp (o_image iC.2.1 iP.1 iC.2.2.2.2.2.2.1 iP.2.2.2.1 hx) (fun r τ h => h.2.2 q2)) (fun τ hp => have iM2 := iM.hi (τ := τ) (fun k hk => by rw [← hp, up_o _ _ _ (by omega), upA_n _ _ (by omega)]); ct_imp (m_image iM2.2.1 iP.1 hx) (fun r χ h => h.2.2 q2)) (fun τ χ hp hq => ?_)
  · have iM2 := iM.hi (τ := τ) (fun k hk => by rw [← hp, up_o _ _ _ (by omega), upA_n _ _ (by omega)])
    have hlo : ∀ k, k < 45 → χ k = τ k := fun k hk => hq.2.2 k (by omega) (by omega)
    obtain ⟨c1, c2, c3, c4, c5, c6, c7, c8, c9, c10⟩ := id iC
    obtain ⟨m1, m2, m3, m4, m5, m6, m7, m8, m9, m10⟩ := id iM2
    have gC : ∀ k, k = 2 ∨ k = 11 ∨ k = 12 ∨ k = 13 ∨ k = 14 ∨ k = 15 ∨ k = 16 ∨ k = 19 ∨ k = 44 → τ k = σ k := fun k hk => by rw [← hp, up_o _ _ _ (by omega), upA_n _ _ (by omega)]
    have e11 : τ 0 11 = σ 0 11 := by rw [← hp, up_o _ _ _ (by decide), upA_n _ _ (by decide)]
    have e12 : τ 0 12 = su := by rw [← hp, up_o _ _ _ (by decide), upA_n _ _ (by decide)]; exact c6
    have gM : ∀ k, k = 46 ∨ k = 47 ∨ k = 48 ∨ k = 49 ∨ k = 52 ∨ k = 55 ∨ k = 62 → χ k = τ k := fun k hk => hq.2.2 k (by omega) (by omega)
    have g45 : ∀ j, j = 8 ∨ j = 12 ∨ j = 19 ∨ j = 29 → χ 45 j = τ 45 j := fun j hj => by rw [hq.2.2 45 (by decide) (by decide)]
    have e0 : χ 45 0 = su := by rw [hq.2.2 45 (by decide) (by decide)]; exact m6
    obtain ⟨ob1, ob2⟩ := orb mk iP.2.2.2.1 x.toNat (by omega)
    have e20 : τ 20 = cpF (σ 16) (σ 20) 0 (x.toNat * 44) 44 := by rw [← hp, up_o _ _ _ (by decide), upA_s]
    have iC2 : IC τ la sz it B na Ac tp tn fl su (mk ||| 2 ^ x.toNat) (imU Im x.toNat B) nt Tr := ⟨fun r hr => by rw [gC 14 (by omega), gC 13 (by omega), gC 12 (by omega)]; exact c1 r hr, fun j hj => by rw [gC 16 (by omega)]; exact c2 j hj, c3.of (by rw [← hp, up_n _ _ (by decide), upA_n _ _ (by decide)]) (by rw [← hp, up_n _ _ (by decide), upA_n _ _ (by decide)]) (gC 19 (by omega)), ⟨by rw [gC 2 (by omega)]; exact c4.1, c4.2.1, fun i hi => by rw [gC 15 (by omega)]; exact c4.2.2 i hi⟩, by rw [e11]; exact c5, e12, by rw [← hp, up_s], fun k hk hb j hj => by
      rw [e20]
      rw [ob2 k hk] at hb
      by_cases e : k = x.toNat
      · rw [cpF_in (by omega) (by omega), imU_s e, show 0 + (k * 44 + j - x.toNat * 44) = j by omega]; exact c2 j hj
      · rw [cpF_out (by omega), imU_n e]; rw [if_neg e] at hb; exact c8 k hk hb j hj, by rw [gC 11 (by omega)]; exact c9, fun j hj => by rw [gC 44 (by omega)]; exact c10 j hj⟩
    have iM3 : IM χ la sz it B na Ac tp tn fl su (mk ||| 2 ^ x.toNat) (imU Im x.toNat B) nt Tr := ⟨m1.of (gM 46 (by omega)) (gM 47 (by omega)) (gM 48 (by omega)), m2.of (gM 49 (by omega)), m3.of (g45 8 (by omega)) (gM 52 (by omega)), m4.of (g45 12 (by omega)) (gM 55 (by omega)), by rw [g45 19 (by omega)]; exact m5, e0, fun k hk => by
      rw [hq.2.1, ob2 k hk]
      by_cases e : k = x.toNat
      · rw [if_pos e, e, upF_s]; rfl
      · rw [if_neg e, upF_n _ _ e]; exact m7 k hk, fun k hk hb j hj => by
      rw [hq.1]
      rw [ob2 k hk] at hb
      by_cases e : k = x.toNat
      · rw [if_pos (by omega), imU_s e, show 44 * k + j - 44 * x.toNat = j by omega]; exact m2 j hj
      · rw [if_neg (by omega), imU_n e]; rw [if_neg e] at hb; exact m8 k hk hb j hj, by rw [g45 29 (by omega)]; exact m9, fun j hj => by rw [gM 62 (by omega)]; exact m10 j hj⟩
    exact ⟨la, sz, it, B, na, Ac, tp, tn, fl, su, mk ||| 2 ^ x.toNat, imU Im x.toNat B, nt, Tr, iC2.lo hlo, iM3, ⟨iP.1, iP.2.1, fun k hk hb => by
      rw [ob2 k hk] at hb
      by_cases e : k = x.toNat
      · rw [imU_s e]; exact iP.1.ok q2.2
      · rw [imU_n e]; rw [if_neg e] at hb; exact iP.2.2.1 k hk hb, ob1, iP.2.2.2.2⟩⟩
theorem j_restore {σ : St} (hI : Inv σ) {x : Int} (hx : -2147483648 ≤ x ∧ x ≤ 2147483647) : Jt mX11_restore mX12_restore [vi x] vi σ := by
  obtain ⟨la, sz, it, B, na, Ac, tp, tn, fl, su, mk, Im, nt, Tr, iC, iM, iP⟩ := hI
  by_cases q0 : ¬ (0 ≤ x ∧ x < 2)
  · refine Jq iC iM iP (v := (-1000001)) (su2 := su) (ct_imp (o_restore iC.2.2.2.2.2.2.1 iP.2.2.2.1 hx) (fun r τ h => ?_)) (fun τ iM => ct_imp (m_restore iM.2.2.2.2.2.2.1 hx) (fun r χ h => ?_))
    · obtain ⟨rfl, rfl⟩ := h.1 q0
      exact ⟨rfl, CF_rf iC.2.2.2.2.2.1⟩
    · obtain ⟨rfl, rfl⟩ := h.1 q0
      exact ⟨rfl, MF_rf iM.2.2.2.2.2.1⟩
  by_cases q1 : (0 ≤ x ∧ x < 2) ∧ mk / 2 ^ x.toNat % 2 ≠ 1
  · refine Jq iC iM iP (v := (-1000002)) (su2 := su) (ct_imp (o_restore iC.2.2.2.2.2.2.1 iP.2.2.2.1 hx) (fun r τ h => ?_)) (fun τ iM => ct_imp (m_restore iM.2.2.2.2.2.2.1 hx) (fun r χ h => ?_))
    · obtain ⟨rfl, rfl⟩ := h.2.1 q1
      exact ⟨rfl, CF_rf iC.2.2.2.2.2.1⟩
    · obtain ⟨rfl, rfl⟩ := h.2.1 q1
      exact ⟨rfl, MF_rf iM.2.2.2.2.2.1⟩
  have q2 : (0 ≤ x ∧ x < 2) ∧ mk / 2 ^ x.toNat % 2 = 1 := by first | omega | grind
  refine Jm (v := 1) (ct_imp (o_restore iC.2.2.2.2.2.2.1 iP.2.2.2.1 hx) (fun r τ h => h.2.2 q2)) (fun τ hp => have iM2 := iM.hi (τ := τ) (fun k hk => by rw [← hp, up_o _ _ _ (by omega), up_o _ _ _ (by omega), upA_n _ _ (by omega)]); ct_imp (m_restore iM2.2.2.2.2.2.2.1 hx) (fun r χ h => h.2.2 q2)) (fun τ χ hp hq => ?_)
  · have iM2 := iM.hi (τ := τ) (fun k hk => by rw [← hp, up_o _ _ _ (by omega), up_o _ _ _ (by omega), upA_n _ _ (by omega)])
    have hlo : ∀ k, k < 45 → χ k = τ k := fun k hk => hq.2.2.2 k (by omega) (by omega)
    obtain ⟨c1, c2, c3, c4, c5, c6, c7, c8, c9, c10⟩ := id iC
    obtain ⟨m1, m2, m3, m4, m5, m6, m7, m8, m9, m10⟩ := id iM2
    have gC : ∀ k, k = 2 ∨ k = 11 ∨ k = 12 ∨ k = 13 ∨ k = 14 ∨ k = 15 ∨ k = 19 ∨ k = 20 ∨ k = 44 → τ k = σ k := fun k hk => by rw [← hp, up_o _ _ _ (by omega), up_o _ _ _ (by omega), upA_n _ _ (by omega)]
    have e11 : τ 0 11 = σ 0 11 := by rw [← hp, up_o _ _ _ (by decide), up_o _ _ _ (by decide), upA_n _ _ (by decide)]
    have e12 : τ 0 12 = su := by rw [← hp, up_o _ _ _ (by decide), up_o _ _ _ (by decide), upA_n _ _ (by decide)]; exact c6
    have gM : ∀ k, k = 46 ∨ k = 47 ∨ k = 48 ∨ k = 52 ∨ k = 55 ∨ k = 60 ∨ k = 61 ∨ k = 62 → χ k = τ k := fun k hk => hq.2.2.2 k (by omega) (by omega)
    have g45 : ∀ j, j = 12 ∨ j = 19 ∨ j = 29 → χ 45 j = τ 45 j := fun j hj => hq.2.2.1 j (by omega)
    have e0 : χ 45 0 = su := by rw [hq.2.2.1 0 (by decide)]; exact m6
    have iC2 : IC τ la sz it (Im x.toNat) 0 Ac tp tn fl su mk Im nt Tr := ⟨fun r hr => by rw [gC 14 (by omega), gC 13 (by omega), gC 12 (by omega)]; exact c1 r hr, fun j hj => by rw [← hp, up_o _ _ _ (by decide), up_o _ _ _ (by decide), upA_s, cpF_in (by omega) (by omega), Nat.sub_zero]; exact c8 x.toNat (by omega) q2.2 j hj, ⟨0, by rw [← hp, up_n _ _ (by decide), up_s]; rfl, by omega, by rw [← hp, up_s]; rfl, by omega, fun k hk => absurd hk (by omega)⟩, ⟨by rw [gC 2 (by omega)]; exact c4.1, c4.2.1, fun i hi => by rw [gC 15 (by omega)]; exact c4.2.2 i hi⟩, by rw [e11]; exact c5, e12, by rw [← hp, up_n _ _ (by decide), up_n _ _ (by decide), upA_n _ _ (by decide)]; exact c7, fun k hk hb j hj => by rw [gC 20 (by omega)]; exact c8 k hk hb j hj, by rw [gC 11 (by omega)]; exact c9, fun j hj => by rw [gC 44 (by omega)]; exact c10 j hj⟩
    have iM3 : IM χ la sz it (Im x.toNat) 0 Ac tp tn fl su mk Im nt Tr := ⟨m1.of (gM 46 (by omega)) (gM 47 (by omega)) (gM 48 (by omega)), fun j hj => by rw [hq.1 j hj]; exact m8 x.toNat (by omega) q2.2 j hj, ⟨hq.2.1, by omega, fun k hk => absurd hk (by omega)⟩, m4.of (g45 12 (by omega)) (gM 55 (by omega)), by rw [g45 19 (by omega)]; exact m5, e0, fun k hk => by rw [gM 60 (by omega)]; exact m7 k hk, fun k hk hb j hj => by rw [gM 61 (by omega)]; exact m8 k hk hb j hj, by rw [g45 29 (by omega)]; exact m9, fun j hj => by rw [gM 62 (by omega)]; exact m10 j hj⟩
    exact ⟨la, sz, it, Im x.toNat, 0, Ac, tp, tn, fl, su, mk, Im, nt, Tr, iC2.lo hlo, iM3, ⟨Or.inl (iP.2.2.1 x.toNat (by omega) q2.2), fun k hk => absurd hk (by omega), iP.2.2⟩⟩
theorem j_ask {σ : St} (hI : Inv σ) {x k : Int} (hx : -2147483648 ≤ x ∧ x ≤ 2147483647) (hk : -2147483648 ≤ k ∧ k ≤ 2147483647) : Jt mX11_ask mX12_ask [vi x, vi k] vi σ := by
  obtain ⟨la, sz, it, B, na, Ac, tp, tn, fl, su, mk, Im, nt, Tr, iC, iM, iP⟩ := hI
  by_cases q0 : ¬ ((0 ≤ x ∧ x < B 2) ∧ 0 ≤ k ∧ k ≤ 1)
  · refine Jq iC iM iP (v := (-1000001)) (su2 := su) (ct_imp (o_ask iC.2.1 iP.1 hx hk) (fun r τ h => ?_)) (fun τ iM => ct_imp (m_ask iM.2.1 iP.1 hx hk) (fun r χ h => ?_))
    · obtain ⟨rfl, rfl⟩ := h.1 q0
      exact ⟨rfl, CF_rf iC.2.2.2.2.2.1⟩
    · obtain ⟨rfl, rfl⟩ := h.1 q0
      exact ⟨rfl, MF_rf iM.2.2.2.2.2.1⟩
  have q1 : (0 ≤ x ∧ x < B 2) ∧ 0 ≤ k ∧ k ≤ 1 := by first | omega | grind
  refine Jm (v := akV (bk B x.toNat) x (pt B x.toNat 0) (ws B x.toNat) k.toNat) (ct_imp (o_ask iC.2.1 iP.1 hx hk) (fun r τ h => h.2 q1)) (fun τ hp => have iM2 := iM.hi (τ := τ) (fun k hk => (lvL_f hp).2.2 k (by omega) (by omega)); ct_imp (m_ask iM2.2.1 iP.1 hx hk) (fun r χ h => h.2 q1)) (fun τ χ hp hq => ?_)
  · have iM2 := iM.hi (τ := τ) (fun k hk => (lvL_f hp).2.2 k (by omega) (by omega))
    have hlo : ∀ k, k < 45 → χ k = τ k := fun k hk => (lvN_f hq).2.2.2 k (by omega) (by omega)
    obtain ⟨c1, c2, c3, c4, c5, c6, c7, c8, c9, c10⟩ := id iC
    obtain ⟨m1, m2, m3, m4, m5, m6, m7, m8, m9, m10⟩ := id iM2
    have gC : ∀ k, k = 2 ∨ k = 6 ∨ k = 12 ∨ k = 13 ∨ k = 14 ∨ k = 15 ∨ k = 16 ∨ k = 19 ∨ k = 20 → τ k = σ k := fun k hk => (lvL_f hp).2.2 k (by omega) (by omega)
    have e11 : τ 0 11 = σ 0 11 := by rw [(lvL_f hp).2.2 0 (by decide) (by decide)]
    have e12 : τ 0 12 = su := by rw [(lvL_f hp).2.2 0 (by decide) (by decide)]; exact c6
    have gM : ∀ k, k = 46 ∨ k = 47 ∨ k = 48 ∨ k = 49 ∨ k = 52 ∨ k = 55 ∨ k = 60 ∨ k = 61 → χ k = τ k := fun k hk => (lvN_f hq).2.2.2 k (by omega) (by omega)
    have g45 : ∀ j, j = 8 ∨ j = 12 ∨ j = 19 → χ 45 j = τ 45 j := fun j hj => (lvN_f hq).2.2.1 j (by omega)
    have e0 : χ 45 0 = su := by rw [(lvN_f hq).2.2.1 0 (by decide)]; exact m6
    have iC2 : IC τ la sz it B na Ac tp tn fl su mk Im ((akT (bk B x.toNat) k.toNat).length) (fun j => (akT (bk B x.toNat) k.toNat).getD j 0) := ⟨fun r hr => by rw [gC 14 (by omega), gC 13 (by omega), gC 12 (by omega)]; exact c1 r hr, fun j hj => by rw [gC 16 (by omega)]; exact c2 j hj, c3.of (by rw [gC 6 (by omega)]) (by rw [gC 6 (by omega)]) (gC 19 (by omega)), ⟨by rw [gC 2 (by omega)]; exact c4.1, c4.2.1, fun i hi => by rw [gC 15 (by omega)]; exact c4.2.2 i hi⟩, by rw [e11]; exact c5, e12, by rw [gC 6 (by omega)]; exact c7, fun k hk hb j hj => by rw [gC 20 (by omega)]; exact c8 k hk hb j hj, (lvL_f hp).1, (lvL_f hp).2.1⟩
    have iM3 : IM χ la sz it B na Ac tp tn fl su mk Im ((akT (bk B x.toNat) k.toNat).length) (fun j => (akT (bk B x.toNat) k.toNat).getD j 0) := ⟨m1.of (gM 46 (by omega)) (gM 47 (by omega)) (gM 48 (by omega)), m2.of (gM 49 (by omega)), m3.of (g45 8 (by omega)) (gM 52 (by omega)), m4.of (g45 12 (by omega)) (gM 55 (by omega)), by rw [g45 19 (by omega)]; exact m5, e0, fun k hk => by rw [gM 60 (by omega)]; exact m7 k hk, fun k hk hb j hj => by rw [gM 61 (by omega)]; exact m8 k hk hb j hj, (lvN_f hq).1, (lvN_f hq).2.1⟩
    exact ⟨la, sz, it, B, na, Ac, tp, tn, fl, su, mk, Im, (akT (bk B x.toNat) k.toNat).length, fun j => (akT (bk B x.toNat) k.toNat).getD j 0, iC2.lo hlo, iM3, ⟨iP.1, iP.2.1, iP.2.2.1, iP.2.2.2.1, akT_le _ _⟩⟩
theorem j_book {σ : St} (hI : Inv σ) : Jt mX11_book mX12_book [] vi σ := by
  obtain ⟨la, sz, it, B, na, Ac, tp, tn, fl, su, mk, Im, nt, Tr, iC, iM, iP⟩ := hI
  by_cases q0 : (sAll tp tn).1 ≠ 0
  · refine Jm (v := -1000100 - ((sAll tp tn).2.1 : Int)) (ct_imp (o_book iC.2.2.2.1) (fun r τ h => h.1 q0)) (fun τ hp => have iM2 := iM.hi (τ := τ) (fun k hk => hp.2.2.1 k (by omega) (by omega) (by omega)); ct_imp (m_book iM2.2.2.2.1) (fun r χ h => h.1 q0)) (fun τ χ hp hq => ?_)
    · have iM2 := iM.hi (τ := τ) (fun k hk => hp.2.2.1 k (by omega) (by omega) (by omega))
      have hlo : ∀ k, k < 45 → χ k = τ k := fun k hk => hq.2.2.2 k (by omega) (by omega)
      obtain ⟨c1, c2, c3, c4, c5, c6, c7, c8, c9, c10⟩ := id iC
      obtain ⟨m1, m2, m3, m4, m5, m6, m7, m8, m9, m10⟩ := id iM2
      have gC : ∀ k, k = 6 ∨ k = 11 ∨ k = 12 ∨ k = 13 ∨ k = 14 ∨ k = 15 ∨ k = 16 ∨ k = 19 ∨ k = 20 ∨ k = 44 → τ k = σ k := fun k hk => hp.2.2.1 k (by omega) (by omega) (by omega)
      have e11 : True := trivial
      have e12 : τ 0 12 = su := by rw [hp.2.2.2 12 (by decide)]; exact c6
      have gM : ∀ k, k = 46 ∨ k = 47 ∨ k = 48 ∨ k = 49 ∨ k = 52 ∨ k = 55 ∨ k = 60 ∨ k = 61 ∨ k = 62 → χ k = τ k := fun k hk => hq.2.2.2 k (by omega) (by omega)
      have g45 : ∀ j, j = 8 ∨ j = 29 → χ 45 j = τ 45 j := fun j hj => hq.2.2.1 j (by omega)
      have e0 : χ 45 0 = su := by rw [hq.2.2.1 0 (by omega)]; exact m6
      have iC2 : IC τ la sz it B na Ac tp 0 (((sAll tp tn).1 : Int)) su mk Im nt Tr := ⟨fun r hr => by rw [gC 14 (by omega), gC 13 (by omega), gC 12 (by omega)]; exact c1 r hr, fun j hj => by rw [gC 16 (by omega)]; exact c2 j hj, c3.of (by rw [gC 6 (by omega)]) (by rw [gC 6 (by omega)]) (gC 19 (by omega)), ⟨hp.1, by omega, fun i hi => absurd hi (by omega)⟩, hp.2.1, e12, by rw [gC 6 (by omega)]; exact c7, fun k hk hb j hj => by rw [gC 20 (by omega)]; exact c8 k hk hb j hj, by rw [gC 11 (by omega)]; exact c9, fun j hj => by rw [gC 44 (by omega)]; exact c10 j hj⟩
      have iM3 : IM χ la sz it B na Ac tp 0 (((sAll tp tn).1 : Int)) su mk Im nt Tr := ⟨m1.of (gM 46 (by omega)) (gM 47 (by omega)) (gM 48 (by omega)), m2.of (gM 49 (by omega)), m3.of (g45 8 (by omega)) (gM 52 (by omega)), ⟨hq.1, by omega, fun i hi => absurd hi (by omega)⟩, hq.2.1, e0, fun k hk => by rw [gM 60 (by omega)]; exact m7 k hk, fun k hk hb j hj => by rw [gM 61 (by omega)]; exact m8 k hk hb j hj, by rw [g45 29 (by omega)]; exact m9, fun j hj => by rw [gM 62 (by omega)]; exact m10 j hj⟩
      exact ⟨la, sz, it, B, na, Ac, tp, 0, ((sAll tp tn).1 : Int), su, mk, Im, nt, Tr, iC2.lo hlo, iM3, iP⟩
  have q1 : (sAll tp tn).1 = 0 := by first | omega | grind
  refine Jm (v := ((sAll tp tn).2.2 2 : Int)) (ct_imp (o_book iC.2.2.2.1) (fun r τ h => h.2 q1)) (fun τ hp => have iM2 := iM.hi (τ := τ) (fun k hk => hp.2.2.2.2.2.2 k (by omega) (by omega) (by omega) (by omega)); ct_imp (m_book iM2.2.2.2.1) (fun r χ h => h.2 q1)) (fun τ χ hp hq => ?_)
  · have iM2 := iM.hi (τ := τ) (fun k hk => hp.2.2.2.2.2.2 k (by omega) (by omega) (by omega) (by omega))
    have hlo : ∀ k, k < 45 → χ k = τ k := fun k hk => hq.2.2.2.2.2 k (by omega) (by omega) (by omega)
    obtain ⟨c1, c2, c3, c4, c5, c6, c7, c8, c9, c10⟩ := id iC
    obtain ⟨m1, m2, m3, m4, m5, m6, m7, m8, m9, m10⟩ := id iM2
    have gC : ∀ k, k = 11 ∨ k = 12 ∨ k = 13 ∨ k = 14 ∨ k = 15 ∨ k = 19 ∨ k = 20 ∨ k = 44 → τ k = σ k := fun k hk => hp.2.2.2.2.2.2 k (by omega) (by omega) (by omega) (by omega)
    have e11 : τ 0 11 = σ 0 11 := by rw [hp.2.2.2.2.2.2 0 (by decide) (by decide) (by decide) (by decide)]
    have e12 : τ 0 12 = su := by rw [hp.2.2.2.2.2.2 0 (by decide) (by decide) (by decide) (by decide)]; exact c6
    have gM : ∀ k, k = 46 ∨ k = 47 ∨ k = 48 ∨ k = 52 ∨ k = 55 ∨ k = 60 ∨ k = 61 ∨ k = 62 → χ k = τ k := fun k hk => hq.2.2.2.2.2 k (by omega) (by omega) (by omega)
    have g45 : ∀ j, j = 29 → χ 45 j = τ 45 j := fun j hj => hq.2.2.2.2.1 j (by omega) (by omega)
    have e0 : χ 45 0 = su := by rw [hq.2.2.2.2.1 0 (by decide) (by omega)]; exact m6
    have iC2 : IC τ la sz it ((sAll tp tn).2.2) 0 Ac tp 0 fl su mk Im nt Tr := ⟨fun r hr => by rw [gC 14 (by omega), gC 13 (by omega), gC 12 (by omega)]; exact c1 r hr, hp.2.1, ⟨0, hp.2.2.2.1, by omega, hp.2.2.2.2.1, by omega, fun k hk => absurd hk (by omega)⟩, ⟨hp.1, by omega, fun i hi => absurd hi (by omega)⟩, by rw [e11]; exact c5, e12, by rw [hp.2.2.2.2.2.1]; exact c7, fun k hk hb j hj => by rw [gC 20 (by omega)]; exact c8 k hk hb j hj, by rw [gC 11 (by omega)]; exact c9, fun j hj => by rw [gC 44 (by omega)]; exact c10 j hj⟩
    have iM3 : IM χ la sz it ((sAll tp tn).2.2) 0 Ac tp 0 fl su mk Im nt Tr := ⟨m1.of (gM 46 (by omega)) (gM 47 (by omega)) (gM 48 (by omega)), hq.2.2.2.1, ⟨hq.2.1, by omega, fun k hk => absurd hk (by omega)⟩, ⟨hq.1, by omega, fun i hi => absurd hi (by omega)⟩, by rw [hq.2.2.1]; exact m5, e0, fun k hk => by rw [gM 60 (by omega)]; exact m7 k hk, fun k hk hb j hj => by rw [gM 61 (by omega)]; exact m8 k hk hb j hj, by rw [g45 29 (by omega)]; exact m9, fun j hj => by rw [gM 62 (by omega)]; exact m10 j hj⟩
    exact ⟨la, sz, it, (sAll tp tn).2.2, 0, Ac, tp, 0, fl, su, mk, Im, nt, Tr, iC2.lo hlo, iM3, ⟨Or.inl hp.2.2.1, fun k hk => absurd hk (by omega), iP.2.2⟩⟩
