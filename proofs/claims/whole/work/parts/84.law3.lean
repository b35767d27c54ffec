/-! the law: calls that change the book -/
theorem Gr_0 (B : Bok) : (Gr B 0).length = B 3 := by
  show ((List.range (B 3)).map (rw_ B)).length = B 3
  rw [List.length_map, List.length_range]
theorem j_length {σ : St} (hI : Inv σ) {x e v : Int} (hx : -2147483648 ≤ x ∧ x ≤ 2147483647) (he : -2147483648 ≤ e ∧ e ≤ 2147483647) (hv : -2147483648 ≤ v ∧ v ≤ 2147483647) : Jt mX11_length mX12_length [vi x, vi e, vi v] vi σ := by
  obtain ⟨la, sz, it, B, na, Ac, tp, tn, fl, su, mk, Im, nt, Tr, iC, iM, iP⟩ := hI
  by_cases q0 : ¬ ((0 ≤ x ∧ x < B 2) ∧ (0 ≤ e ∧ e ≤ 1) ∧ 0 ≤ v ∧ v ≤ 9)
  · refine Jq iC iM iP (v := (-1000001)) (su2 := su) (ct_imp (o_length iC.2.1 iP.1 iC.2.2.1 hx he hv) (fun r τ h => ?_)) (fun τ iM => ct_imp (m_length iM.2.1 iP.1 iM.2.2.1 hx he hv) (fun r χ h => ?_))
    · obtain ⟨rfl, rfl⟩ := h.1 q0
      exact ⟨rfl, CF_rf iC.2.2.2.2.2.1⟩
    · obtain ⟨rfl, rfl⟩ := h.1 q0
      exact ⟨rfl, MF_rf iM.2.2.2.2.2.1⟩
  have q1 : (0 ≤ x ∧ x < B 2) ∧ (0 ≤ e ∧ e ≤ 1) ∧ 0 ≤ v ∧ v ≤ 9 := by first | omega | grind
  refine Jm (v := (pt B x.toNat e.toNat : Int)) (ct_imp (o_length iC.2.1 iP.1 iC.2.2.1 hx he hv) (fun r τ h => h.2 q1)) (fun τ hp => have iM2 := iM.hi (τ := τ) (fun k hk => hp.2.2.2 k (by omega) (by omega) (by omega)); ct_imp (m_length iM2.2.1 iP.1 iM2.2.2.1 hx he hv) (fun r χ h => h.2 q1)) (fun τ χ hp hq => ?_)
  · have iM2 := iM.hi (τ := τ) (fun k hk => hp.2.2.2 k (by omega) (by omega) (by omega))
    have hlo : ∀ k, k < 45 → χ k = τ k := fun k hk => hq.2.2.2.2 k (by omega) (by omega) (by omega)
    obtain ⟨c1, c2, c3, c4, c5, c6, c7, c8, c9, c10⟩ := id iC
    obtain ⟨m1, m2, m3, m4, m5, m6, m7, m8, m9, m10⟩ := id iM2
    have gC : ∀ k, k = 2 ∨ k = 11 ∨ k = 12 ∨ k = 13 ∨ k = 14 ∨ k = 15 ∨ k = 20 ∨ k = 44 → τ k = σ k := fun k hk => hp.2.2.2 k (by omega) (by omega) (by omega)
    have e11 : τ 0 11 = σ 0 11 := by rw [hp.2.2.2 0 (by decide) (by decide) (by decide)]
    have e12 : τ 0 12 = su := by rw [hp.2.2.2 0 (by decide) (by decide) (by decide)]; exact c6
    have gM : ∀ k, k = 46 ∨ k = 47 ∨ k = 48 ∨ k = 55 ∨ k = 60 ∨ k = 61 ∨ k = 62 → χ k = τ k := fun k hk => hq.2.2.2.2 k (by omega) (by omega) (by omega)
    have g45 : ∀ j, j = 12 ∨ j = 19 ∨ j = 29 → χ 45 j = τ 45 j := fun j hj => hq.2.2.2.1 j (by omega) (by omega)
    have e0 : χ 45 0 = su := by rw [hq.2.2.1]; exact m6
    have hOk : Ok B := iP.1.ok (by omega)
    have hOk2 : Ok (upB B (8 + 2 * x.toNat + e.toNat) v.toNat) := Ok_up hOk (by rw [bnd_p (by have := hOk.1.2.1; omega) (by omega)]; omega) (by have := hOk.1.2.1; omega)
    have iC2 : IC τ la sz it (upB B (8 + 2 * x.toNat + e.toNat) v.toNat) (naN na + 1) (acN na Ac B) tp tn fl su mk Im nt Tr := ⟨fun r hr => by rw [gC 14 (by omega), gC 13 (by omega), gC 12 (by omega)]; exact c1 r hr, hp.1, hp.2.1, ⟨by rw [gC 2 (by omega)]; exact c4.1, c4.2.1, fun i hi => by rw [gC 15 (by omega)]; exact c4.2.2 i hi⟩, by rw [e11]; exact c5, e12, by rw [hp.2.2.1]; exact c7, fun k hk hb j hj => by rw [gC 20 (by omega)]; exact c8 k hk hb j hj, by rw [gC 11 (by omega)]; exact c9, fun j hj => by rw [gC 44 (by omega)]; exact c10 j hj⟩
    have iM3 : IM χ la sz it (upB B (8 + 2 * x.toNat + e.toNat) v.toNat) (naN na + 1) (acN na Ac B) tp tn fl su mk Im nt Tr := ⟨m1.of (gM 46 (by omega)) (gM 47 (by omega)) (gM 48 (by omega)), hq.1, hq.2.1, m4.of (g45 12 (by omega)) (gM 55 (by omega)), by rw [g45 19 (by omega)]; exact m5, e0, fun k hk => by rw [gM 60 (by omega)]; exact m7 k hk, fun k hk hb j hj => by rw [gM 61 (by omega)]; exact m8 k hk hb j hj, by rw [g45 29 (by omega)]; exact m9, fun j hj => by rw [gM 62 (by omega)]; exact m10 j hj⟩
    exact ⟨la, sz, it, upB B (8 + 2 * x.toNat + e.toNat) v.toNat, naN na + 1, acN na Ac B, tp, tn, fl, su, mk, Im, nt, Tr, iC2.lo hlo, iM3, ⟨Or.inl hOk2, acN_ok iM2.2.2.1.2.1 hOk iP.2.1, iP.2.2⟩⟩
theorem j_become {σ : St} (hI : Inv σ) {x v : Int} (hx : -2147483648 ≤ x ∧ x ≤ 2147483647) (hv : -2147483648 ≤ v ∧ v ≤ 2147483647) : Jt mX11_become mX12_become [vi x, vi v] vi σ := by
  obtain ⟨la, sz, it, B, na, Ac, tp, tn, fl, su, mk, Im, nt, Tr, iC, iM, iP⟩ := hI
  by_cases q0 : ¬ ((0 ≤ x ∧ x < B 2) ∧ 1 ≤ v ∧ v ≤ 5)
  · refine Jq iC iM iP (v := (-1000001)) (su2 := su) (ct_imp (o_become iC.2.1 iP.1 iC.2.2.1 hx hv) (fun r τ h => ?_)) (fun τ iM => ct_imp (m_become iM.2.1 iP.1 iM.2.2.1 hx hv) (fun r χ h => ?_))
    · obtain ⟨rfl, rfl⟩ := h.1 q0
      exact ⟨rfl, CF_rf iC.2.2.2.2.2.1⟩
    · obtain ⟨rfl, rfl⟩ := h.1 q0
      exact ⟨rfl, MF_rf iM.2.2.2.2.2.1⟩
  by_cases q1 : ((0 ≤ x ∧ x < B 2) ∧ 1 ≤ v ∧ v ≤ 5) ∧ (bk B x.toNat : Int) = v
  · refine Jq iC iM iP (v := (-1000002)) (su2 := su) (ct_imp (o_become iC.2.1 iP.1 iC.2.2.1 hx hv) (fun r τ h => ?_)) (fun τ iM => ct_imp (m_become iM.2.1 iP.1 iM.2.2.1 hx hv) (fun r χ h => ?_))
    · obtain ⟨rfl, rfl⟩ := h.2.1 q1
      exact ⟨rfl, CF_rf iC.2.2.2.2.2.1⟩
    · obtain ⟨rfl, rfl⟩ := h.2.1 q1
      exact ⟨rfl, MF_rf iM.2.2.2.2.2.1⟩
  have q2 : ((0 ≤ x ∧ x < B 2) ∧ 1 ≤ v ∧ v ≤ 5) ∧ (bk B x.toNat : Int) ≠ v := by first | omega | grind
  refine Jm (v := (bk B x.toNat : Int)) (ct_imp (o_become iC.2.1 iP.1 iC.2.2.1 hx hv) (fun r τ h => h.2.2 q2)) (fun τ hp => have iM2 := iM.hi (τ := τ) (fun k hk => hp.2.2.2 k (by omega) (by omega) (by omega)); ct_imp (m_become iM2.2.1 iP.1 iM2.2.2.1 hx hv) (fun r χ h => h.2.2 q2)) (fun τ χ hp hq => ?_)
  · have iM2 := iM.hi (τ := τ) (fun k hk => hp.2.2.2 k (by omega) (by omega) (by omega))
    have hlo : ∀ k, k < 45 → χ k = τ k := fun k hk => hq.2.2.2.2 k (by omega) (by omega) (by omega)
    obtain ⟨c1, c2, c3, c4, c5, c6, c7, c8, c9, c10⟩ := id iC
    obtain ⟨m1, m2, m3, m4, m5, m6, m7, m8, m9, m10⟩ := id iM2
    have gC : ∀ k, k = 2 ∨ k = 11 ∨ k = 12 ∨ k = 13 ∨ k = 14 ∨ k = 15 ∨ k = 20 ∨ k = 44 → τ k = σ k := fun k hk => hp.2.2.2 k (by omega) (by omega) (by omega)
    have e11 : τ 0 11 = σ 0 11 := by rw [hp.2.2.2 0 (by decide) (by decide) (by decide)]
    have e12 : τ 0 12 = su := by rw [hp.2.2.2 0 (by decide) (by decide) (by decide)]; exact c6
    have gM : ∀ k, k = 46 ∨ k = 47 ∨ k = 48 ∨ k = 55 ∨ k = 60 ∨ k = 61 ∨ k = 62 → χ k = τ k := fun k hk => hq.2.2.2.2 k (by omega) (by omega) (by omega)
    have g45 : ∀ j, j = 12 ∨ j = 19 ∨ j = 29 → χ 45 j = τ 45 j := fun j hj => hq.2.2.2.1 j (by omega) (by omega)
    have e0 : χ 45 0 = su := by rw [hq.2.2.1]; exact m6
    have hOk : Ok B := iP.1.ok (by omega)
    have hOk2 : Ok (upB B (4 + x.toNat) v.toNat) := Ok_kind hOk (by have := hOk.1.2.1; omega) (by omega) (by omega)
    have iC2 : IC τ la sz it (upB B (4 + x.toNat) v.toNat) (naN na + 1) (acN na Ac B) tp tn fl su mk Im nt Tr := ⟨fun r hr => by rw [gC 14 (by omega), gC 13 (by omega), gC 12 (by omega)]; exact c1 r hr, hp.1, hp.2.1, ⟨by rw [gC 2 (by omega)]; exact c4.1, c4.2.1, fun i hi => by rw [gC 15 (by omega)]; exact c4.2.2 i hi⟩, by rw [e11]; exact c5, e12, by rw [hp.2.2.1]; exact c7, fun k hk hb j hj => by rw [gC 20 (by omega)]; exact c8 k hk hb j hj, by rw [gC 11 (by omega)]; exact c9, fun j hj => by rw [gC 44 (by omega)]; exact c10 j hj⟩
    have iM3 : IM χ la sz it (upB B (4 + x.toNat) v.toNat) (naN na + 1) (acN na Ac B) tp tn fl su mk Im nt Tr := ⟨m1.of (gM 46 (by omega)) (gM 47 (by omega)) (gM 48 (by omega)), hq.1, hq.2.1, m4.of (g45 12 (by omega)) (gM 55 (by omega)), by rw [g45 19 (by omega)]; exact m5, e0, fun k hk => by rw [gM 60 (by omega)]; exact m7 k hk, fun k hk hb j hj => by rw [gM 61 (by omega)]; exact m8 k hk hb j hj, by rw [g45 29 (by omega)]; exact m9, fun j hj => by rw [gM 62 (by omega)]; exact m10 j hj⟩
    exact ⟨la, sz, it, upB B (4 + x.toNat) v.toNat, naN na + 1, acN na Ac B, tp, tn, fl, su, mk, Im, nt, Tr, iC2.lo hlo, iM3, ⟨Or.inl hOk2, acN_ok iM2.2.2.1.2.1 hOk iP.2.1, iP.2.2⟩⟩
theorem j_root {σ : St} (hI : Inv σ) {e v : Int} (he : -2147483648 ≤ e ∧ e ≤ 2147483647) (hv : -2147483648 ≤ v ∧ v ≤ 2147483647) : Jt mX11_root mX12_root [vi e, vi v] vi σ := by
  obtain ⟨la, sz, it, B, na, Ac, tp, tn, fl, su, mk, Im, nt, Tr, iC, iM, iP⟩ := hI
  by_cases q0 : B 2 = 0
  · refine Jq iC iM iP (v := (-1000002)) (su2 := su) (ct_imp (o_root iC.2.1 iP.1 iC.2.2.1 he hv) (fun r τ h => ?_)) (fun τ iM => ct_imp (m_root iM.2.1 iP.1 iM.2.2.1 he hv) (fun r χ h => ?_))
    · obtain ⟨rfl, rfl⟩ := h.1 q0
      exact ⟨rfl, CF_rf iC.2.2.2.2.2.1⟩
    · obtain ⟨rfl, rfl⟩ := h.1 q0
      exact ⟨rfl, MF_rf iM.2.2.2.2.2.1⟩
  by_cases q1 : 0 < B 2 ∧ ¬ ((0 ≤ e ∧ e ≤ 1) ∧ e ≤ v ∧ v ≤ (if e = 0 then 3 else 9))
  · refine Jq iC iM iP (v := (-1000001)) (su2 := su) (ct_imp (o_root iC.2.1 iP.1 iC.2.2.1 he hv) (fun r τ h => ?_)) (fun τ iM => ct_imp (m_root iM.2.1 iP.1 iM.2.2.1 he hv) (fun r χ h => ?_))
    · obtain ⟨rfl, rfl⟩ := h.2.1 q1
      exact ⟨rfl, CF_rf iC.2.2.2.2.2.1⟩
    · obtain ⟨rfl, rfl⟩ := h.2.1 q1
      exact ⟨rfl, MF_rf iM.2.2.2.2.2.1⟩
  have q2 : 0 < B 2 ∧ (0 ≤ e ∧ e ≤ 1) ∧ e ≤ v ∧ v ≤ (if e = 0 then 3 else 9) := by first | omega | grind
  refine Jm (v := (B (0 + e.toNat) : Int)) (ct_imp (o_root iC.2.1 iP.1 iC.2.2.1 he hv) (fun r τ h => h.2.2 q2)) (fun τ hp => have iM2 := iM.hi (τ := τ) (fun k hk => hp.2.2.2 k (by omega) (by omega) (by omega)); ct_imp (m_root iM2.2.1 iP.1 iM2.2.2.1 he hv) (fun r χ h => h.2.2 q2)) (fun τ χ hp hq => ?_)
  · have iM2 := iM.hi (τ := τ) (fun k hk => hp.2.2.2 k (by omega) (by omega) (by omega))
    have hlo : ∀ k, k < 45 → χ k = τ k := fun k hk => hq.2.2.2.2 k (by omega) (by omega) (by omega)
    obtain ⟨c1, c2, c3, c4, c5, c6, c7, c8, c9, c10⟩ := id iC
    obtain ⟨m1, m2, m3, m4, m5, m6, m7, m8, m9, m10⟩ := id iM2
    have gC : ∀ k, k = 2 ∨ k = 11 ∨ k = 12 ∨ k = 13 ∨ k = 14 ∨ k = 15 ∨ k = 20 ∨ k = 44 → τ k = σ k := fun k hk => hp.2.2.2 k (by omega) (by omega) (by omega)
    have e11 : τ 0 11 = σ 0 11 := by rw [hp.2.2.2 0 (by decide) (by decide) (by decide)]
    have e12 : τ 0 12 = su := by rw [hp.2.2.2 0 (by decide) (by decide) (by decide)]; exact c6
    have gM : ∀ k, k = 46 ∨ k = 47 ∨ k = 48 ∨ k = 55 ∨ k = 60 ∨ k = 61 ∨ k = 62 → χ k = τ k := fun k hk => hq.2.2.2.2 k (by omega) (by omega) (by omega)
    have g45 : ∀ j, j = 12 ∨ j = 19 ∨ j = 29 → χ 45 j = τ 45 j := fun j hj => hq.2.2.2.1 j (by omega) (by omega)
    have e0 : χ 45 0 = su := by rw [hq.2.2.1]; exact m6
    have hOk : Ok B := iP.1.ok (by omega)
    have hOk2 : Ok (upB B (0 + e.toNat) v.toNat) := Ok_up hOk (by have h9 : bnd (0 + e.toNat) = 9 := (by unfold bnd; rw [if_pos (by omega)]); have := q2.2.2.2; rw [h9]; split at this <;> omega) (by omega)
    have iC2 : IC τ la sz it (upB B (0 + e.toNat) v.toNat) (naN na + 1) (acN na Ac B) tp tn fl su mk Im nt Tr := ⟨fun r hr => by rw [gC 14 (by omega), gC 13 (by omega), gC 12 (by omega)]; exact c1 r hr, hp.1, hp.2.1, ⟨by rw [gC 2 (by omega)]; exact c4.1, c4.2.1, fun i hi => by rw [gC 15 (by omega)]; exact c4.2.2 i hi⟩, by rw [e11]; exact c5, e12, by rw [hp.2.2.1]; exact c7, fun k hk hb j hj => by rw [gC 20 (by omega)]; exact c8 k hk hb j hj, by rw [gC 11 (by omega)]; exact c9, fun j hj => by rw [gC 44 (by omega)]; exact c10 j hj⟩
    have iM3 : IM χ la sz it (upB B (0 + e.toNat) v.toNat) (naN na + 1) (acN na Ac B) tp tn fl su mk Im nt Tr := ⟨m1.of (gM 46 (by omega)) (gM 47 (by omega)) (gM 48 (by omega)), hq.1, hq.2.1, m4.of (g45 12 (by omega)) (gM 55 (by omega)), by rw [g45 19 (by omega)]; exact m5, e0, fun k hk => by rw [gM 60 (by omega)]; exact m7 k hk, fun k hk hb j hj => by rw [gM 61 (by omega)]; exact m8 k hk hb j hj, by rw [g45 29 (by omega)]; exact m9, fun j hj => by rw [gM 62 (by omega)]; exact m10 j hj⟩
    exact ⟨la, sz, it, upB B (0 + e.toNat) v.toNat, naN na + 1, acN na Ac B, tp, tn, fl, su, mk, Im, nt, Tr, iC2.lo hlo, iM3, ⟨Or.inl hOk2, acN_ok iM2.2.2.1.2.1 hOk iP.2.1, iP.2.2⟩⟩
theorem j_word {σ : St} (hI : Inv σ) {x y n : Int} (hx : -2147483648 ≤ x ∧ x ≤ 2147483647) (hy : -2147483648 ≤ y ∧ y ≤ 2147483647) (hn : -2147483648 ≤ n ∧ n ≤ 2147483647) : Jt mX11_word mX12_word [vi x, vi y, vi n] vi σ := by
  obtain ⟨la, sz, it, B, na, Ac, tp, tn, fl, su, mk, Im, nt, Tr, iC, iM, iP⟩ := hI
  by_cases q0 : ¬ ((0 ≤ x ∧ x < B 2) ∧ (0 ≤ y ∧ y < 8) ∧ 1 ≤ n ∧ n ≤ 4)
  · refine Jq iC iM iP (v := (-1000001)) (su2 := su) (ct_imp (o_word iC.2.1 iP.1 iC.1 iC.2.2.1 hx hy hn) (fun r τ h => ?_)) (fun τ iM => ct_imp (m_word iM.2.1 iP.1 iM.1 iM.2.2.1 hx hy hn) (fun r χ h => ?_))
    · obtain ⟨rfl, rfl⟩ := h.1 q0
      exact ⟨rfl, CF_rf iC.2.2.2.2.2.1⟩
    · obtain ⟨rfl, rfl⟩ := h.1 q0
      exact ⟨rfl, MF_rf iM.2.2.2.2.2.1⟩
  by_cases q1 : ((0 ≤ x ∧ x < B 2) ∧ (0 ≤ y ∧ y < 8) ∧ 1 ≤ n ∧ n ≤ 4) ∧ lfn la sz it B y.toNat n.toNat ≠ 0
  · refine Jq iC iM iP (v := (-1000010 - lfn la sz it B y.toNat n.toNat)) (su2 := (lfn la sz it B y.toNat n.toNat)) (ct_imp (o_word iC.2.1 iP.1 iC.1 iC.2.2.1 hx hy hn) (fun r τ h => ?_)) (fun τ iM => ct_imp (m_word iM.2.1 iP.1 iM.1 iM.2.2.1 hx hy hn) (fun r χ h => ?_))
    · obtain ⟨rfl, rfl⟩ := h.2.1 q1
      exact ⟨rfl, CF_st _ _⟩
    · obtain ⟨rfl, rfl⟩ := h.2.1 q1
      exact ⟨rfl, MF_st _ _⟩
  have q2 : ((0 ≤ x ∧ x < B 2) ∧ (0 ≤ y ∧ y < 8) ∧ 1 ≤ n ∧ n ≤ 4) ∧ lfn la sz it B y.toNat n.toNat = 0 := by first | omega | grind
  refine Jm (v := (ws B x.toNat : Int)) (ct_imp (o_word iC.2.1 iP.1 iC.1 iC.2.2.1 hx hy hn) (fun r τ h => h.2.2 q2)) (fun τ hp => have iM2 := iM.hi (τ := τ) (fun k hk => hp.2.2.2.2.2 k (by omega) (by omega) (by omega) (by omega)); ct_imp (m_word iM2.2.1 iP.1 iM2.1 iM2.2.2.1 hx hy hn) (fun r χ h => h.2.2 q2)) (fun τ χ hp hq => ?_)
  · have iM2 := iM.hi (τ := τ) (fun k hk => hp.2.2.2.2.2 k (by omega) (by omega) (by omega) (by omega))
    have hlo : ∀ k, k < 45 → χ k = τ k := fun k hk => hq.2.2.2.2 k (by omega) (by omega) (by omega)
    obtain ⟨c1, c2, c3, c4, c5, c6, c7, c8, c9, c10⟩ := id iC
    obtain ⟨m1, m2, m3, m4, m5, m6, m7, m8, m9, m10⟩ := id iM2
    have gC : ∀ k, k = 2 ∨ k = 11 ∨ k = 12 ∨ k = 13 ∨ k = 14 ∨ k = 15 ∨ k = 20 ∨ k = 44 → τ k = σ k := fun k hk => hp.2.2.2.2.2 k (by omega) (by omega) (by omega) (by omega)
    have e11 : τ 0 11 = σ 0 11 := hp.2.2.2.1
    have e12 : τ 0 12 = 0 := hp.2.2.2.2.1
    have gM : ∀ k, k = 46 ∨ k = 47 ∨ k = 48 ∨ k = 55 ∨ k = 60 ∨ k = 61 ∨ k = 62 → χ k = τ k := fun k hk => hq.2.2.2.2 k (by omega) (by omega) (by omega)
    have g45 : ∀ j, j = 12 ∨ j = 19 ∨ j = 29 → χ 45 j = τ 45 j := fun j hj => hq.2.2.2.1 j (by omega) (by omega)
    have e0 : χ 45 0 = 0 := hq.2.2.1
    have hOk : Ok B := iP.1.ok (by omega)
    have hlp := (lfn_p q2.2).2
    have hOk2 : Ok (wdB B x.toNat n.toNat (lts it y.toNat)) := Ok_wdB hOk (by omega) (by omega) (by omega) (lts_lt hlp)
    have iC2 : IC τ la sz it (wdB B x.toNat n.toNat (lts it y.toNat)) (naN na + 1) (acN na Ac B) tp tn fl 0 mk Im nt Tr := ⟨fun r hr => by rw [gC 14 (by omega), gC 13 (by omega), gC 12 (by omega)]; exact c1 r hr, hp.1, hp.2.1, ⟨by rw [gC 2 (by omega)]; exact c4.1, c4.2.1, fun i hi => by rw [gC 15 (by omega)]; exact c4.2.2 i hi⟩, by rw [e11]; exact c5, e12, by rw [hp.2.2.1]; exact c7, fun k hk hb j hj => by rw [gC 20 (by omega)]; exact c8 k hk hb j hj, by rw [gC 11 (by omega)]; exact c9, fun j hj => by rw [gC 44 (by omega)]; exact c10 j hj⟩
    have iM3 : IM χ la sz it (wdB B x.toNat n.toNat (lts it y.toNat)) (naN na + 1) (acN na Ac B) tp tn fl 0 mk Im nt Tr := ⟨m1.of (gM 46 (by omega)) (gM 47 (by omega)) (gM 48 (by omega)), hq.1, hq.2.1, m4.of (g45 12 (by omega)) (gM 55 (by omega)), by rw [g45 19 (by omega)]; exact m5, e0, fun k hk => by rw [gM 60 (by omega)]; exact m7 k hk, fun k hk hb j hj => by rw [gM 61 (by omega)]; exact m8 k hk hb j hj, by rw [g45 29 (by omega)]; exact m9, fun j hj => by rw [gM 62 (by omega)]; exact m10 j hj⟩
    exact ⟨la, sz, it, wdB B x.toNat n.toNat (lts it y.toNat), naN na + 1, acN na Ac B, tp, tn, fl, 0, mk, Im, nt, Tr, iC2.lo hlo, iM3, ⟨Or.inl hOk2, acN_ok iM2.2.2.1.2.1 hOk iP.2.1, iP.2.2⟩⟩
theorem j_begin {σ : St} (hI : Inv σ) {y n : Int} (hy : -2147483648 ≤ y ∧ y ≤ 2147483647) (hn : -2147483648 ≤ n ∧ n ≤ 2147483647) : Jt mX11_begin mX12_begin [vi y, vi n] vi σ := by
  obtain ⟨la, sz, it, B, na, Ac, tp, tn, fl, su, mk, Im, nt, Tr, iC, iM, iP⟩ := hI
  by_cases q0 : B 2 = 0
  · refine Jq iC iM iP (v := (-1000002)) (su2 := su) (ct_imp (o_begin iC.2.1 iP.1 iC.1 iC.2.2.1 hy hn) (fun r τ h => ?_)) (fun τ iM => ct_imp (m_begin iM.2.1 iP.1 iM.1 iM.2.2.1 hy hn) (fun r χ h => ?_))
    · obtain ⟨rfl, rfl⟩ := h.1 q0
      exact ⟨rfl, CF_rf iC.2.2.2.2.2.1⟩
    · obtain ⟨rfl, rfl⟩ := h.1 q0
      exact ⟨rfl, MF_rf iM.2.2.2.2.2.1⟩
  by_cases q1 : 0 < B 2 ∧ ¬ ((0 ≤ y ∧ y < 8) ∧ 1 ≤ n ∧ n ≤ 8)
  · refine Jq iC iM iP (v := (-1000001)) (su2 := su) (ct_imp (o_begin iC.2.1 iP.1 iC.1 iC.2.2.1 hy hn) (fun r τ h => ?_)) (fun τ iM => ct_imp (m_begin iM.2.1 iP.1 iM.1 iM.2.2.1 hy hn) (fun r χ h => ?_))
    · obtain ⟨rfl, rfl⟩ := h.2.1 q1
      exact ⟨rfl, CF_rf iC.2.2.2.2.2.1⟩
    · obtain ⟨rfl, rfl⟩ := h.2.1 q1
      exact ⟨rfl, MF_rf iM.2.2.2.2.2.1⟩
  by_cases q2 : (0 < B 2 ∧ (0 ≤ y ∧ y < 8) ∧ 1 ≤ n ∧ n ≤ 8) ∧ lfn la sz it B y.toNat n.toNat ≠ 0
  · refine Jq iC iM iP (v := (-1000010 - lfn la sz it B y.toNat n.toNat)) (su2 := (lfn la sz it B y.toNat n.toNat)) (ct_imp (o_begin iC.2.1 iP.1 iC.1 iC.2.2.1 hy hn) (fun r τ h => ?_)) (fun τ iM => ct_imp (m_begin iM.2.1 iP.1 iM.1 iM.2.2.1 hy hn) (fun r χ h => ?_))
    · obtain ⟨rfl, rfl⟩ := h.2.2.1 q2
      exact ⟨rfl, CF_st _ _⟩
    · obtain ⟨rfl, rfl⟩ := h.2.2.1 q2
      exact ⟨rfl, MF_st _ _⟩
  have q3 : (0 < B 2 ∧ (0 ≤ y ∧ y < 8) ∧ 1 ≤ n ∧ n ≤ 8) ∧ lfn la sz it B y.toNat n.toNat = 0 := by first | omega | grind
  refine Jm (v := (B 3 : Int)) (ct_imp (o_begin iC.2.1 iP.1 iC.1 iC.2.2.1 hy hn) (fun r τ h => h.2.2.2 q3)) (fun τ hp => have iM2 := iM.hi (τ := τ) (fun k hk => hp.2.2.2.2.2 k (by omega) (by omega) (by omega) (by omega)); ct_imp (m_begin iM2.2.1 iP.1 iM2.1 iM2.2.2.1 hy hn) (fun r χ h => h.2.2.2 q3)) (fun τ χ hp hq => ?_)
  · have iM2 := iM.hi (τ := τ) (fun k hk => hp.2.2.2.2.2 k (by omega) (by omega) (by omega) (by omega))
    have hlo : ∀ k, k < 45 → χ k = τ k := fun k hk => hq.2.2.2.2 k (by omega) (by omega) (by omega)
    obtain ⟨c1, c2, c3, c4, c5, c6, c7, c8, c9, c10⟩ := id iC
    obtain ⟨m1, m2, m3, m4, m5, m6, m7, m8, m9, m10⟩ := id iM2
    have gC : ∀ k, k = 2 ∨ k = 11 ∨ k = 12 ∨ k = 13 ∨ k = 14 ∨ k = 15 ∨ k = 20 ∨ k = 44 → τ k = σ k := fun k hk => hp.2.2.2.2.2 k (by omega) (by omega) (by omega) (by omega)
    have e11 : τ 0 11 = σ 0 11 := hp.2.2.2.1
    have e12 : τ 0 12 = 0 := hp.2.2.2.2.1
    have gM : ∀ k, k = 46 ∨ k = 47 ∨ k = 48 ∨ k = 55 ∨ k = 60 ∨ k = 61 ∨ k = 62 → χ k = τ k := fun k hk => hq.2.2.2.2 k (by omega) (by omega) (by omega)
    have g45 : ∀ j, j = 12 ∨ j = 19 ∨ j = 29 → χ 45 j = τ 45 j := fun j hj => hq.2.2.2.1 j (by omega) (by omega)
    have e0 : χ 45 0 = 0 := hq.2.2.1
    have hOk : Ok B := iP.1.ok (by omega)
    have hlp := (lfn_p q3.2).2
    have hOk2 : Ok (rwB B n.toNat (lts it y.toNat)) := Ok_rwB hOk (by omega) (by omega) (lts_lt hlp)
    have iC2 : IC τ la sz it (rwB B n.toNat (lts it y.toNat)) (naN na + 1) (acN na Ac B) tp tn fl 0 mk Im nt Tr := ⟨fun r hr => by rw [gC 14 (by omega), gC 13 (by omega), gC 12 (by omega)]; exact c1 r hr, hp.1, hp.2.1, ⟨by rw [gC 2 (by omega)]; exact c4.1, c4.2.1, fun i hi => by rw [gC 15 (by omega)]; exact c4.2.2 i hi⟩, by rw [e11]; exact c5, e12, by rw [hp.2.2.1]; exact c7, fun k hk hb j hj => by rw [gC 20 (by omega)]; exact c8 k hk hb j hj, by rw [gC 11 (by omega)]; exact c9, fun j hj => by rw [gC 44 (by omega)]; exact c10 j hj⟩
    have iM3 : IM χ la sz it (rwB B n.toNat (lts it y.toNat)) (naN na + 1) (acN na Ac B) tp tn fl 0 mk Im nt Tr := ⟨m1.of (gM 46 (by omega)) (gM 47 (by omega)) (gM 48 (by omega)), hq.1, hq.2.1, m4.of (g45 12 (by omega)) (gM 55 (by omega)), by rw [g45 19 (by omega)]; exact m5, e0, fun k hk => by rw [gM 60 (by omega)]; exact m7 k hk, fun k hk hb j hj => by rw [gM 61 (by omega)]; exact m8 k hk hb j hj, by rw [g45 29 (by omega)]; exact m9, fun j hj => by rw [gM 62 (by omega)]; exact m10 j hj⟩
    exact ⟨la, sz, it, rwB B n.toNat (lts it y.toNat), naN na + 1, acN na Ac B, tp, tn, fl, 0, mk, Im, nt, Tr, iC2.lo hlo, iM3, ⟨Or.inl hOk2, acN_ok iM2.2.2.1.2.1 hOk iP.2.1, iP.2.2⟩⟩
theorem j_inflate {σ : St} (hI : Inv σ) : Jt mX11_inflate mX12_inflate [] vi σ := by
  obtain ⟨la, sz, it, B, na, Ac, tp, tn, fl, su, mk, Im, nt, Tr, iC, iM, iP⟩ := hI
  by_cases q0 : B 2 = 0
  · refine Jq iC iM iP (v := (-1000002)) (su2 := su) (ct_imp (o_inflate iC.2.1 iP.1 iC.2.2.1) (fun r τ h => ?_)) (fun τ iM => ct_imp (m_inflate iM.2.1 iP.1 iM.2.2.1) (fun r χ h => ?_))
    · obtain ⟨rfl, rfl⟩ := h.1 q0
      exact ⟨rfl, CF_rf iC.2.2.2.2.2.1⟩
    · obtain ⟨rfl, rfl⟩ := h.1 q0
      exact ⟨rfl, MF_rf iM.2.2.2.2.2.1⟩
  by_cases q1 : 0 < B 2 ∧ 8 < (Gr B 1).length
  · refine Jq iC iM iP (v := (-1000003)) (su2 := su) (ct_imp (o_inflate iC.2.1 iP.1 iC.2.2.1) (fun r τ h => ?_)) (fun τ iM => ct_imp (m_inflate iM.2.1 iP.1 iM.2.2.1) (fun r χ h => ?_))
    · obtain ⟨rfl, h3⟩ := h.2.1 q1
      exact ⟨rfl, fun k hk => h3 k (by unfold EsC at hk; omega), by rw [h3 0 (by omega)], by rw [h3 0 (by omega)]; exact iC.2.2.2.2.2.1⟩
    · obtain ⟨rfl, h3⟩ := h.2.1 q1
      exact ⟨rfl, fun k hk => h3 k (by unfold EsM at hk; omega) (by unfold EsM at hk; omega), fun j hj => by rw [h3 45 (by omega) (by omega)], by rw [h3 45 (by omega) (by omega)]; exact iM.2.2.2.2.2.1⟩
  have q2 : 0 < B 2 ∧ (Gr B 1).length ≤ 8 := by first | omega | grind
  refine Jm (v := ((Gr B 1).length : Int)) (ct_imp (o_inflate iC.2.1 iP.1 iC.2.2.1) (fun r τ h => h.2.2 q2)) (fun τ hp => have iM2 := iM.hi (τ := τ) (fun k hk => hp.2.2.2 k (by omega) (by omega) (by omega) (by omega)); ct_imp (m_inflate iM2.2.1 iP.1 iM2.2.2.1) (fun r χ h => h.2.2 q2)) (fun τ χ hp hq => ?_)
  · have iM2 := iM.hi (τ := τ) (fun k hk => hp.2.2.2 k (by omega) (by omega) (by omega) (by omega))
    have hlo : ∀ k, k < 45 → χ k = τ k := fun k hk => hq.2.2.2 k (by omega) (by omega) (by omega) (by omega) (by omega)
    obtain ⟨c1, c2, c3, c4, c5, c6, c7, c8, c9, c10⟩ := id iC
    obtain ⟨m1, m2, m3, m4, m5, m6, m7, m8, m9, m10⟩ := id iM2
    have gC : ∀ k, k = 2 ∨ k = 11 ∨ k = 12 ∨ k = 13 ∨ k = 14 ∨ k = 15 ∨ k = 20 ∨ k = 44 → τ k = σ k := fun k hk => hp.2.2.2 k (by omega) (by omega) (by omega) (by omega)
    have e11 : τ 0 11 = σ 0 11 := by rw [hp.2.2.2 0 (by omega) (by decide) (by decide) (by decide)]
    have e12 : τ 0 12 = su := by rw [hp.2.2.2 0 (by omega) (by decide) (by decide) (by decide)]; exact c6
    have gM : ∀ k, k = 46 ∨ k = 47 ∨ k = 48 ∨ k = 55 ∨ k = 60 ∨ k = 61 ∨ k = 62 → χ k = τ k := fun k hk => hq.2.2.2 k (by omega) (by omega) (by omega) (by omega) (by omega)
    have g45 : ∀ j, j = 12 ∨ j = 19 ∨ j = 29 → χ 45 j = τ 45 j := fun j hj => hq.2.2.1 j (by omega)
    have e0 : χ 45 0 = su := by rw [hq.2.2.1 0 (by decide)]; exact m6
    have hOk : Ok B := iP.1.ok (by omega)
    have hOk2 : Ok (rwB B (Gr B 1).length (g1L B)) := Ok_rwB hOk (Nat.le_trans hOk.2.2.1 (by have := Gr_mono hOk (m := 0) (n := 1) (by omega); rw [Gr_0] at this; exact this)) (by omega) (fun i hi => gr_lt hOk hi)
    have iC2 : IC τ la sz it (rwB B (Gr B 1).length (g1L B)) (naN na + 1) (acN na Ac B) tp tn fl su mk Im nt Tr := ⟨fun r hr => by rw [gC 14 (by omega), gC 13 (by omega), gC 12 (by omega)]; exact c1 r hr, hp.1, hp.2.1, ⟨by rw [gC 2 (by omega)]; exact c4.1, c4.2.1, fun i hi => by rw [gC 15 (by omega)]; exact c4.2.2 i hi⟩, by rw [e11]; exact c5, e12, by rw [hp.2.2.1]; exact c7, fun k hk hb j hj => by rw [gC 20 (by omega)]; exact c8 k hk hb j hj, by rw [gC 11 (by omega)]; exact c9, fun j hj => by rw [gC 44 (by omega)]; exact c10 j hj⟩
    have iM3 : IM χ la sz it (rwB B (Gr B 1).length (g1L B)) (naN na + 1) (acN na Ac B) tp tn fl su mk Im nt Tr := ⟨m1.of (gM 46 (by omega)) (gM 47 (by omega)) (gM 48 (by omega)), hq.1, hq.2.1, m4.of (g45 12 (by omega)) (gM 55 (by omega)), by rw [g45 19 (by omega)]; exact m5, e0, fun k hk => by rw [gM 60 (by omega)]; exact m7 k hk, fun k hk hb j hj => by rw [gM 61 (by omega)]; exact m8 k hk hb j hj, by rw [g45 29 (by omega)]; exact m9, fun j hj => by rw [gM 62 (by omega)]; exact m10 j hj⟩
    exact ⟨la, sz, it, rwB B (Gr B 1).length (g1L B), naN na + 1, acN na Ac B, tp, tn, fl, su, mk, Im, nt, Tr, iC2.lo hlo, iM3, ⟨Or.inl hOk2, acN_ok iM2.2.2.1.2.1 hOk iP.2.1, iP.2.2⟩⟩
