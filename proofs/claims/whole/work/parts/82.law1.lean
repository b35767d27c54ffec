/-! THE LAW: what holds between its calls -/
def IC (σ : St) (la : Nat → Int) (sz : Nat → Nat) (it : Nat → Int) (B : Bok) (na : Nat) (Ac : Nat → Bok) (tp : Nat → Nat) (tn : Nat) (fl su : Int) (mk : Nat) (Im : Nat → Bok) (nt : Nat) (Tr : Nat → Int) : Prop := RwsC σ la sz it ∧ BkC σ 16 B ∧ AcC σ na Ac ∧ TpC σ tp tn ∧ σ 0 11 = fl ∧ σ 0 12 = su ∧ σ 6 4 = (mk : Int) ∧ (∀ k, k < 2 → mk / 2 ^ k % 2 = 1 → ∀ j, j < 44 → σ 20 (k * 44 + j) = (Im k j : Int)) ∧ σ 11 1 = (nt : Int) ∧ ∀ j, j < nt → σ 44 j = Tr j
def IM (σ : St) (la : Nat → Int) (sz : Nat → Nat) (it : Nat → Int) (B : Bok) (na : Nat) (Ac : Nat → Bok) (tp : Nat → Nat) (tn : Nat) (fl su : Int) (mk : Nat) (Im : Nat → Bok) (nt : Nat) (Tr : Nat → Int) : Prop := MRw σ la sz it ∧ MBk σ 49 B ∧ MAc σ na Ac ∧ MTp σ tp tn ∧ σ 45 19 = fl ∧ σ 45 0 = su ∧ (∀ k, k < 2 → σ 60 k = ((mk / 2 ^ k % 2 : Nat) : Int)) ∧ (∀ k, k < 2 → mk / 2 ^ k % 2 = 1 → ∀ j, j < 44 → σ 61 (44 * k + j) = (Im k (pm j) : Int)) ∧ σ 45 29 = (nt : Int) ∧ ∀ j, j < nt → σ 62 j = Tr j
def IP (B : Bok) (na : Nat) (Ac : Nat → Bok) (mk : Nat) (Im : Nat → Bok) (nt : Nat) : Prop := OkZ B ∧ (∀ k, k < na → Ok (Ac k)) ∧ (∀ k, k < 2 → mk / 2 ^ k % 2 = 1 → Ok (Im k)) ∧ mk < 4 ∧ nt ≤ 16
def Inv (σ : St) : Prop := ∃ (la : Nat → Int) (sz : Nat → Nat) (it : Nat → Int) (B : Bok) (na : Nat) (Ac : Nat → Bok) (tp : Nat → Nat) (tn : Nat) (fl su : Int) (mk : Nat) (Im : Nat → Bok) (nt : Nat) (Tr : Nat → Int), IC σ la sz it B na Ac tp tn fl su mk Im nt Tr ∧ IM σ la sz it B na Ac tp tn fl su mk Im nt Tr ∧ IP B na Ac mk Im nt
def EsC (k : Nat) : Prop := k = 2 ∨ k = 6 ∨ k = 11 ∨ k = 12 ∨ k = 13 ∨ k = 14 ∨ k = 15 ∨ k = 16 ∨ k = 19 ∨ k = 20 ∨ k = 44
def EsM (k : Nat) : Prop := k = 46 ∨ k = 47 ∨ k = 48 ∨ k = 49 ∨ k = 52 ∨ k = 55 ∨ k = 60 ∨ k = 61 ∨ k = 62
theorem IC.of {σ τ : St} {la : Nat → Int} {sz : Nat → Nat} {it : Nat → Int} {B : Bok} {na : Nat} {Ac : Nat → Bok} {tp : Nat → Nat} {tn : Nat} {fl su : Int} {mk : Nat} {Im : Nat → Bok} {nt : Nat} {Tr : Nat → Int} (h : IC σ la sz it B na Ac tp tn fl su mk Im nt Tr) (e : ∀ k, EsC k → τ k = σ k) (e11 : τ 0 11 = σ 0 11) {su2 : Int} (e12 : τ 0 12 = su2) : IC τ la sz it B na Ac tp tn fl su2 mk Im nt Tr := by
  obtain ⟨c1, c2, c3, c4, c5, c6, c7, c8, c9, c10⟩ := h
  have g : ∀ k, EsC k → τ k = σ k := e
  refine ⟨fun r hr => ?_, fun j hj => ?_, c3.of ?_ ?_ ?_, ⟨?_, c4.2.1, fun i hi => ?_⟩, by rw [e11]; exact c5, e12, ?_, fun k hk hb j hj => ?_, ?_, fun j hj => ?_⟩
  · rw [g 14 (by unfold EsC; omega), g 13 (by unfold EsC; omega), g 12 (by unfold EsC; omega)]; exact c1 r hr
  · rw [g 16 (by unfold EsC; omega)]; exact c2 j hj
  · rw [g 6 (by unfold EsC; omega)]
  · rw [g 6 (by unfold EsC; omega)]
  · exact g 19 (by unfold EsC; omega)
  · rw [g 2 (by unfold EsC; omega)]; exact c4.1
  · rw [g 15 (by unfold EsC; omega)]; exact c4.2.2 i hi
  · rw [g 6 (by unfold EsC; omega)]; exact c7
  · rw [g 20 (by unfold EsC; omega)]; exact c8 k hk hb j hj
  · rw [g 11 (by unfold EsC; omega)]; exact c9
  · rw [g 44 (by unfold EsC; omega)]; exact c10 j hj
theorem IM.of {σ τ : St} {la : Nat → Int} {sz : Nat → Nat} {it : Nat → Int} {B : Bok} {na : Nat} {Ac : Nat → Bok} {tp : Nat → Nat} {tn : Nat} {fl su : Int} {mk : Nat} {Im : Nat → Bok} {nt : Nat} {Tr : Nat → Int} (h : IM σ la sz it B na Ac tp tn fl su mk Im nt Tr) (g : ∀ k, EsM k → τ k = σ k) (e45 : ∀ j, j = 8 ∨ j = 12 ∨ j = 19 ∨ j = 29 → τ 45 j = σ 45 j) {su2 : Int} (e0 : τ 45 0 = su2) : IM τ la sz it B na Ac tp tn fl su2 mk Im nt Tr := by
  obtain ⟨c1, c2, c3, c4, c5, c6, c7, c8, c9, c10⟩ := h
  refine ⟨c1.of (g 46 (by unfold EsM; omega)) (g 47 (by unfold EsM; omega)) (g 48 (by unfold EsM; omega)), c2.of (g 49 (by unfold EsM; omega)), c3.of (e45 8 (by omega)) (g 52 (by unfold EsM; omega)), c4.of (e45 12 (by omega)) (g 55 (by unfold EsM; omega)), by rw [e45 19 (by omega)]; exact c5, e0, fun k hk => ?_, fun k hk hb j hj => ?_, by rw [e45 29 (by omega)]; exact c9, fun j hj => ?_⟩
  · rw [g 60 (by unfold EsM; omega)]; exact c7 k hk
  · rw [g 61 (by unfold EsM; omega)]; exact c8 k hk hb j hj
  · rw [g 62 (by unfold EsM; omega)]; exact c10 j hj
theorem IM.hi {σ τ : St} {la : Nat → Int} {sz : Nat → Nat} {it : Nat → Int} {B : Bok} {na : Nat} {Ac : Nat → Bok} {tp : Nat → Nat} {tn : Nat} {fl su : Int} {mk : Nat} {Im : Nat → Bok} {nt : Nat} {Tr : Nat → Int} (h : IM σ la sz it B na Ac tp tn fl su mk Im nt Tr) (e : ∀ k, 45 ≤ k → τ k = σ k) : IM τ la sz it B na Ac tp tn fl su mk Im nt Tr := h.of (fun k hk => e k (by unfold EsM at hk; omega)) (fun j _ => by rw [e 45 (by omega)]) (by rw [e 45 (by omega)]; exact h.2.2.2.2.2.1)
theorem IC.lo {σ τ : St} {la : Nat → Int} {sz : Nat → Nat} {it : Nat → Int} {B : Bok} {na : Nat} {Ac : Nat → Bok} {tp : Nat → Nat} {tn : Nat} {fl su : Int} {mk : Nat} {Im : Nat → Bok} {nt : Nat} {Tr : Nat → Int} (h : IC σ la sz it B na Ac tp tn fl su mk Im nt Tr) (e : ∀ k, k < 45 → τ k = σ k) : IC τ la sz it B na Ac tp tn fl su mk Im nt Tr := h.of (fun k hk => e k (by unfold EsC at hk; omega)) (by rw [e 0 (by omega)]) (by rw [e 0 (by omega)]; exact h.2.2.2.2.2.1)
/-- what a call that only asks may change -/
def CF (σ τ : St) (su2 : Int) : Prop := (∀ k, EsC k ∨ 45 ≤ k → τ k = σ k) ∧ τ 0 11 = σ 0 11 ∧ τ 0 12 = su2
def MF (σ τ : St) (su2 : Int) : Prop := (∀ k, k < 45 ∨ EsM k → τ k = σ k) ∧ (∀ j, j = 8 ∨ j = 12 ∨ j = 19 ∨ j = 29 → τ 45 j = σ 45 j) ∧ τ 45 0 = su2
theorem CF_rf {σ : St} {su : Int} (h : σ 0 12 = su) : CF σ σ su := ⟨fun _ _ => rfl, rfl, h⟩
theorem CF_st (σ : St) (v : Int) : CF σ (up σ 0 12 v) v := ⟨fun k hk => up_o _ _ _ (by unfold EsC at hk; omega), up_n _ _ (by decide), up_s _ _ _ _⟩
theorem MF_rf {σ : St} {su : Int} (h : σ 45 0 = su) : MF σ σ su := ⟨fun _ _ => rfl, fun _ _ => rfl, h⟩
theorem MF_st (σ : St) (v : Int) : MF σ (up σ 45 0 v) v := ⟨fun k hk => up_o _ _ _ (by unfold EsM at hk; omega), fun j hj => up_n _ _ (by omega), up_s _ _ _ _⟩
/-- a call of both: one answer, and all holds again -/
def Jt (mo mm : Mth) (av : List Value) (f : Int → Value) (σ : St) : Prop := ∃ Po : Option Value → St → Prop, Ct 8 mo (.ref 0 :: av) σ Po ∧ ∀ r τ, Po r τ → ∃ X, r = some (f X) ∧ ∃ Pm : Option Value → St → Prop, Ct 8 mm (.ref 45 :: av) τ Pm ∧ ∀ r' χ, Pm r' χ → r' = some (f X) ∧ Inv χ
theorem Jm {mo mm : Mth} {av : List Value} {f : Int → Value} {σ : St} {v : Int} {P : St → Prop} {Q : St → St → Prop} (c1 : Ct 8 mo (.ref 0 :: av) σ (fun r τ => some (f v) = r ∧ P τ)) (k : ∀ τ, P τ → Ct 8 mm (.ref 45 :: av) τ (fun r χ => some (f v) = r ∧ Q τ χ)) (h : ∀ τ χ, P τ → Q τ χ → Inv χ) : Jt mo mm av f σ :=
  ⟨_, c1, fun r τ hp => ⟨v, hp.1.symm, _, k τ hp.2, fun r' χ hq => ⟨hq.1.symm, h τ χ hp.2 hq.2⟩⟩⟩
theorem Jq {mo mm : Mth} {av : List Value} {f : Int → Value} {σ : St} {la : Nat → Int} {sz : Nat → Nat} {it : Nat → Int} {B : Bok} {na : Nat} {Ac : Nat → Bok} {tp : Nat → Nat} {tn : Nat} {fl su : Int} {mk : Nat} {Im : Nat → Bok} {nt : Nat} {Tr : Nat → Int} (iC : IC σ la sz it B na Ac tp tn fl su mk Im nt Tr) (iM : IM σ la sz it B na Ac tp tn fl su mk Im nt Tr) (iP : IP B na Ac mk Im nt) {v su2 : Int} (c1 : Ct 8 mo (.ref 0 :: av) σ (fun r τ => some (f v) = r ∧ CF σ τ su2)) (k : ∀ τ, IM τ la sz it B na Ac tp tn fl su mk Im nt Tr → Ct 8 mm (.ref 45 :: av) τ (fun r χ => some (f v) = r ∧ MF τ χ su2)) : Jt mo mm av f σ :=
  Jm c1 (fun τ hp => k τ (iM.hi (fun k hk => hp.1 k (Or.inr hk)))) (fun τ χ hp hq => ⟨la, sz, it, B, na, Ac, tp, tn, fl, su2, mk, Im, nt, Tr, (iC.of (fun k hk => hp.1 k (Or.inl hk)) hp.2.1 hp.2.2).of (fun k hk => hq.1 k (Or.inl (by unfold EsC at hk; omega))) (by rw [hq.1 0 (Or.inl (by omega))]) (by rw [hq.1 0 (Or.inl (by omega))]; exact hp.2.2), (iM.hi (fun k hk => hp.1 k (Or.inr hk))).of (fun k hk => hq.1 k (Or.inr hk)) hq.2.1 hq.2.2, iP⟩)
theorem j_kind {σ : St} (hI : Inv σ) {x : Int} (hx : -2147483648 ≤ x ∧ x ≤ 2147483647) : Jt mX11_kind mX12_kind [vi x] vi σ := by
  obtain ⟨la, sz, it, B, na, Ac, tp, tn, fl, su, mk, Im, nt, Tr, iC, iM, iP⟩ := hI
  by_cases q0 : ¬ (0 ≤ x ∧ x < B 2)
  · refine Jq iC iM iP (v := (-1000001)) (su2 := su) (ct_imp (o_kind iC.2.1 iP.1 hx) (fun r τ h => ?_)) (fun τ iM => ct_imp (m_kind iM.2.1 iP.1 hx) (fun r χ h => ?_))
    · obtain ⟨rfl, rfl⟩ := h.1 q0
      exact ⟨rfl, CF_rf iC.2.2.2.2.2.1⟩
    · obtain ⟨rfl, rfl⟩ := h.1 q0
      exact ⟨rfl, MF_rf iM.2.2.2.2.2.1⟩
  have q1 : 0 ≤ x ∧ x < B 2 := by first | omega | grind
  refine Jq iC iM iP (v := (bk B x.toNat)) (su2 := su) (ct_imp (o_kind iC.2.1 iP.1 hx) (fun r τ h => ?_)) (fun τ iM => ct_imp (m_kind iM.2.1 iP.1 hx) (fun r χ h => ?_))
  · obtain ⟨rfl, rfl⟩ := h.2 q1
    exact ⟨rfl, CF_rf iC.2.2.2.2.2.1⟩
  · obtain ⟨rfl, rfl⟩ := h.2 q1
    exact ⟨rfl, MF_rf iM.2.2.2.2.2.1⟩
theorem j_letter {σ : St} (hI : Inv σ) {x : Int} (hx : -2147483648 ≤ x ∧ x ≤ 2147483647) : Jt mX11_letter mX12_letter [vi x] vi σ := by
  obtain ⟨la, sz, it, B, na, Ac, tp, tn, fl, su, mk, Im, nt, Tr, iC, iM, iP⟩ := hI
  by_cases q0 : B 2 = 0
  · refine Jq iC iM iP (v := (-1000002)) (su2 := su) (ct_imp (o_letter iC.2.1 iP.1 hx) (fun r τ h => ?_)) (fun τ iM => ct_imp (m_letter iM.2.1 iP.1 hx) (fun r χ h => ?_))
    · obtain ⟨rfl, rfl⟩ := h.1 q0
      exact ⟨rfl, CF_rf iC.2.2.2.2.2.1⟩
    · obtain ⟨rfl, rfl⟩ := h.1 q0
      exact ⟨rfl, MF_rf iM.2.2.2.2.2.1⟩
  by_cases q1 : 0 < B 2 ∧ x < 0
  · refine Jq iC iM iP (v := (-1000001)) (su2 := su) (ct_imp (o_letter iC.2.1 iP.1 hx) (fun r τ h => ?_)) (fun τ iM => ct_imp (m_letter iM.2.1 iP.1 hx) (fun r χ h => ?_))
    · obtain ⟨rfl, rfl⟩ := h.2.1 q1
      exact ⟨rfl, CF_rf iC.2.2.2.2.2.1⟩
    · obtain ⟨rfl, rfl⟩ := h.2.1 q1
      exact ⟨rfl, MF_rf iM.2.2.2.2.2.1⟩
  by_cases q2 : 0 < B 2 ∧ 0 ≤ x ∧ B 3 ≤ x
  · refine Jq iC iM iP (v := (-1000000)) (su2 := su) (ct_imp (o_letter iC.2.1 iP.1 hx) (fun r τ h => ?_)) (fun τ iM => ct_imp (m_letter iM.2.1 iP.1 hx) (fun r χ h => ?_))
    · obtain ⟨rfl, rfl⟩ := h.2.2.1 q2
      exact ⟨rfl, CF_rf iC.2.2.2.2.2.1⟩
    · obtain ⟨rfl, rfl⟩ := h.2.2.1 q2
      exact ⟨rfl, MF_rf iM.2.2.2.2.2.1⟩
  have q3 : 0 < B 2 ∧ 0 ≤ x ∧ x < B 3 := by first | omega | grind
  refine Jq iC iM iP (v := (rw_ B x.toNat)) (su2 := su) (ct_imp (o_letter iC.2.1 iP.1 hx) (fun r τ h => ?_)) (fun τ iM => ct_imp (m_letter iM.2.1 iP.1 hx) (fun r χ h => ?_))
  · obtain ⟨rfl, rfl⟩ := h.2.2.2 q3
    exact ⟨rfl, CF_rf iC.2.2.2.2.2.1⟩
  · obtain ⟨rfl, rfl⟩ := h.2.2.2 q3
    exact ⟨rfl, MF_rf iM.2.2.2.2.2.1⟩
theorem j_sort {σ : St} (hI : Inv σ) {x e : Int} (hx : -2147483648 ≤ x ∧ x ≤ 2147483647) (he : -2147483648 ≤ e ∧ e ≤ 2147483647) : Jt mX11_sort mX12_sort [vi x, vi e] vi σ := by
  obtain ⟨la, sz, it, B, na, Ac, tp, tn, fl, su, mk, Im, nt, Tr, iC, iM, iP⟩ := hI
  by_cases q0 : ¬ (0 ≤ x ∧ x < B 2)
  · refine Jq iC iM iP (v := (-1000001)) (su2 := su) (ct_imp (o_sort iC.2.1 iP.1 hx he) (fun r τ h => ?_)) (fun τ iM => ct_imp (m_sort iM.2.1 iP.1 hx he) (fun r χ h => ?_))
    · obtain ⟨rfl, rfl⟩ := h.1 q0
      exact ⟨rfl, CF_rf iC.2.2.2.2.2.1⟩
    · obtain ⟨rfl, rfl⟩ := h.1 q0
      exact ⟨rfl, MF_rf iM.2.2.2.2.2.1⟩
  have q1 : 0 ≤ x ∧ x < B 2 := by first | omega | grind
  refine Jq iC iM iP (v := (srt B x.toNat e)) (su2 := su) (ct_imp (o_sort iC.2.1 iP.1 hx he) (fun r τ h => ?_)) (fun τ iM => ct_imp (m_sort iM.2.1 iP.1 hx he) (fun r χ h => ?_))
  · obtain ⟨rfl, rfl⟩ := h.2 q1
    exact ⟨rfl, CF_rf iC.2.2.2.2.2.1⟩
  · obtain ⟨rfl, rfl⟩ := h.2 q1
    exact ⟨rfl, MF_rf iM.2.2.2.2.2.1⟩
theorem j_whole {σ : St} (hI : Inv σ) {x : Int} (hx : -2147483648 ≤ x ∧ x ≤ 2147483647) : Jt mX11_whole mX12_whole [vi x] vi σ := by
  obtain ⟨la, sz, it, B, na, Ac, tp, tn, fl, su, mk, Im, nt, Tr, iC, iM, iP⟩ := hI
  by_cases q0 : B 2 = 0
  · refine Jq iC iM iP (v := (-1000002)) (su2 := su) (ct_imp (o_whole iC.2.1 iP.1 hx) (fun r τ h => ?_)) (fun τ iM => ct_imp (m_whole iM.2.1 iP.1 hx) (fun r χ h => ?_))
    · obtain ⟨rfl, rfl⟩ := h.1 q0
      exact ⟨rfl, CF_rf iC.2.2.2.2.2.1⟩
    · obtain ⟨rfl, rfl⟩ := h.1 q0
      exact ⟨rfl, MF_rf iM.2.2.2.2.2.1⟩
  have q1 : 0 < B 2 := by first | omega | grind
  refine Jq iC iM iP (v := (whl B x)) (su2 := su) (ct_imp (o_whole iC.2.1 iP.1 hx) (fun r τ h => ?_)) (fun τ iM => ct_imp (m_whole iM.2.1 iP.1 hx) (fun r χ h => ?_))
  · obtain ⟨rfl, rfl⟩ := h.2 q1
    exact ⟨rfl, CF_rf iC.2.2.2.2.2.1⟩
  · obtain ⟨rfl, rfl⟩ := h.2 q1
    exact ⟨rfl, MF_rf iM.2.2.2.2.2.1⟩
theorem j_grown {σ : St} (hI : Inv σ) {n i : Int} (hn : -2147483648 ≤ n ∧ n ≤ 2147483647) (hi : -2147483648 ≤ i ∧ i ≤ 2147483647) : Jt mX11_grown mX12_grown [vi n, vi i] vi σ := by
  obtain ⟨la, sz, it, B, na, Ac, tp, tn, fl, su, mk, Im, nt, Tr, iC, iM, iP⟩ := hI
  by_cases q0 : B 2 = 0
  · refine Jq iC iM iP (v := (-1000002)) (su2 := su) (ct_imp (o_grown iC.2.1 iP.1 hn hi) (fun r τ h => ?_)) (fun τ iM => ct_imp (m_grown iM.2.1 iP.1 hn hi) (fun r χ h => ?_))
    · obtain ⟨rfl, rfl⟩ := h.1 q0
      exact ⟨rfl, CF_rf iC.2.2.2.2.2.1⟩
    · obtain ⟨rfl, rfl⟩ := h.1 q0
      exact ⟨rfl, MF_rf iM.2.2.2.2.2.1⟩
  by_cases q1 : 0 < B 2 ∧ ¬ ((0 ≤ n ∧ n ≤ 6) ∧ -1 ≤ i)
  · refine Jq iC iM iP (v := (-1000001)) (su2 := su) (ct_imp (o_grown iC.2.1 iP.1 hn hi) (fun r τ h => ?_)) (fun τ iM => ct_imp (m_grown iM.2.1 iP.1 hn hi) (fun r χ h => ?_))
    · obtain ⟨rfl, rfl⟩ := h.2.1 q1
      exact ⟨rfl, CF_rf iC.2.2.2.2.2.1⟩
    · obtain ⟨rfl, rfl⟩ := h.2.1 q1
      exact ⟨rfl, MF_rf iM.2.2.2.2.2.1⟩
  by_cases q2 : 0 < B 2 ∧ ((0 ≤ n ∧ n ≤ 6) ∧ -1 ≤ i) ∧ 300 < ((Gr B n.toNat).length : Int)
  · refine Jq iC iM iP (v := (-1000003)) (su2 := su) (ct_imp (o_grown iC.2.1 iP.1 hn hi) (fun r τ h => ?_)) (fun τ iM => ct_imp (m_grown iM.2.1 iP.1 hn hi) (fun r χ h => ?_))
    · obtain ⟨rfl, h3⟩ := h.2.2.1 q2
      exact ⟨rfl, fun k hk => h3 k (by unfold EsC at hk; omega), by rw [h3 0 (by omega)], by rw [h3 0 (by omega)]; exact iC.2.2.2.2.2.1⟩
    · obtain ⟨rfl, h3⟩ := h.2.2.1 q2
      exact ⟨rfl, fun k hk => h3 k (by unfold EsM at hk; omega) (by unfold EsM at hk; omega), fun j hj => by rw [h3 45 (by omega) (by omega)], by rw [h3 45 (by omega) (by omega)]; exact iM.2.2.2.2.2.1⟩
  have q3 : 0 < B 2 ∧ ((0 ≤ n ∧ n ≤ 6) ∧ -1 ≤ i) ∧ ((Gr B n.toNat).length : Int) ≤ 300 := by first | omega | grind
  refine Jq iC iM iP (v := (if i = -1 then ((Gr B n.toNat).length : Int) else if i < ((Gr B n.toNat).length : Int) then ((Gr B n.toNat).getD i.toNat 0 : Int) else -1000000)) (su2 := su) (ct_imp (o_grown iC.2.1 iP.1 hn hi) (fun r τ h => ?_)) (fun τ iM => ct_imp (m_grown iM.2.1 iP.1 hn hi) (fun r χ h => ?_))
  · obtain ⟨rfl, h3⟩ := h.2.2.2 q3
    exact ⟨rfl, fun k hk => h3 k (by unfold EsC at hk; omega), by rw [h3 0 (by omega)], by rw [h3 0 (by omega)]; exact iC.2.2.2.2.2.1⟩
  · obtain ⟨rfl, h3⟩ := h.2.2.2 q3
    exact ⟨rfl, fun k hk => h3 k (by unfold EsM at hk; omega) (by unfold EsM at hk; omega), fun j hj => by rw [h3 45 (by omega) (by omega)], by rw [h3 45 (by omega) (by omega)]; exact iM.2.2.2.2.2.1⟩
theorem j_origin {σ : St} (hI : Inv σ) {n i j : Int} (hn : -2147483648 ≤ n ∧ n ≤ 2147483647) (hi : -2147483648 ≤ i ∧ i ≤ 2147483647) (hj : -2147483648 ≤ j ∧ j ≤ 2147483647) : Jt mX11_origin mX12_origin [vi n, vi i, vi j] vi σ := by
  obtain ⟨la, sz, it, B, na, Ac, tp, tn, fl, su, mk, Im, nt, Tr, iC, iM, iP⟩ := hI
  by_cases q0 : B 2 = 0
  · refine Jq iC iM iP (v := (-1000002)) (su2 := su) (ct_imp (o_origin iC.2.1 iP.1 hn hi hj) (fun r τ h => ?_)) (fun τ iM => ct_imp (m_origin iM.2.1 iP.1 hn hi hj) (fun r χ h => ?_))
    · obtain ⟨rfl, rfl⟩ := h.1 q0
      exact ⟨rfl, CF_rf iC.2.2.2.2.2.1⟩
    · obtain ⟨rfl, rfl⟩ := h.1 q0
      exact ⟨rfl, MF_rf iM.2.2.2.2.2.1⟩
  by_cases q1 : 0 < B 2 ∧ ¬ (0 ≤ n ∧ n ≤ 6)
  · refine Jq iC iM iP (v := (-1000001)) (su2 := su) (ct_imp (o_origin iC.2.1 iP.1 hn hi hj) (fun r τ h => ?_)) (fun τ iM => ct_imp (m_origin iM.2.1 iP.1 hn hi hj) (fun r χ h => ?_))
    · obtain ⟨rfl, rfl⟩ := h.2.1 q1
      exact ⟨rfl, CF_rf iC.2.2.2.2.2.1⟩
    · obtain ⟨rfl, rfl⟩ := h.2.1 q1
      exact ⟨rfl, MF_rf iM.2.2.2.2.2.1⟩
  by_cases q2 : (0 < B 2 ∧ (0 ≤ n ∧ n ≤ 6)) ∧ 300 < ((Gr B n.toNat).length : Int)
  · refine Jq iC iM iP (v := (-1000003)) (su2 := su) (ct_imp (o_origin iC.2.1 iP.1 hn hi hj) (fun r τ h => ?_)) (fun τ iM => ct_imp (m_origin iM.2.1 iP.1 hn hi hj) (fun r χ h => ?_))
    · obtain ⟨rfl, h3⟩ := h.2.2.1 q2
      exact ⟨rfl, fun k hk => h3 k (by unfold EsC at hk; omega), by rw [h3 0 (by omega)], by rw [h3 0 (by omega)]; exact iC.2.2.2.2.2.1⟩
    · obtain ⟨rfl, h3⟩ := h.2.2.1 q2
      exact ⟨rfl, fun k hk => h3 k (by unfold EsM at hk; omega) (by unfold EsM at hk; omega), fun j hj => by rw [h3 45 (by omega) (by omega)], by rw [h3 45 (by omega) (by omega)]; exact iM.2.2.2.2.2.1⟩
  by_cases q3 : (0 < B 2 ∧ (0 ≤ n ∧ n ≤ 6)) ∧ ((Gr B n.toNat).length : Int) ≤ 300 ∧ ¬ ((0 ≤ i ∧ i < ((Gr B n.toNat).length : Int)) ∧ 0 ≤ j ∧ j ≤ n)
  · refine Jq iC iM iP (v := (-1000001)) (su2 := su) (ct_imp (o_origin iC.2.1 iP.1 hn hi hj) (fun r τ h => ?_)) (fun τ iM => ct_imp (m_origin iM.2.1 iP.1 hn hi hj) (fun r χ h => ?_))
    · obtain ⟨rfl, h3⟩ := h.2.2.2.1 q3
      exact ⟨rfl, fun k hk => h3 k (by unfold EsC at hk; omega), by rw [h3 0 (by omega)], by rw [h3 0 (by omega)]; exact iC.2.2.2.2.2.1⟩
    · obtain ⟨rfl, h3⟩ := h.2.2.2.1 q3
      exact ⟨rfl, fun k hk => h3 k (by unfold EsM at hk; omega) (by unfold EsM at hk; omega), fun j hj => by rw [h3 45 (by omega) (by omega)], by rw [h3 45 (by omega) (by omega)]; exact iM.2.2.2.2.2.1⟩
  have q4 : (0 < B 2 ∧ (0 ≤ n ∧ n ≤ 6)) ∧ ((Gr B n.toNat).length : Int) ≤ 300 ∧ ((0 ≤ i ∧ i < ((Gr B n.toNat).length : Int)) ∧ 0 ≤ j ∧ j ≤ n) := by first | omega | grind
  refine Jq iC iM iP (v := (anc B n.toNat i.toNat j.toNat)) (su2 := su) (ct_imp (o_origin iC.2.1 iP.1 hn hi hj) (fun r τ h => ?_)) (fun τ iM => ct_imp (m_origin iM.2.1 iP.1 hn hi hj) (fun r χ h => ?_))
  · obtain ⟨rfl, h3⟩ := h.2.2.2.2 q4
    exact ⟨rfl, fun k hk => h3 k (by unfold EsC at hk; omega), by rw [h3 0 (by omega)], by rw [h3 0 (by omega)]; exact iC.2.2.2.2.2.1⟩
  · obtain ⟨rfl, h3⟩ := h.2.2.2.2 q4
    exact ⟨rfl, fun k hk => h3 k (by unfold EsM at hk; omega) (by unfold EsM at hk; omega), fun j hj => by rw [h3 45 (by omega) (by omega)], by rw [h3 45 (by omega) (by omega)]; exact iM.2.2.2.2.2.1⟩
theorem j_place {σ : St} (hI : Inv σ) {n i e : Int} (hn : -2147483648 ≤ n ∧ n ≤ 2147483647) (hi : -2147483648 ≤ i ∧ i ≤ 2147483647) (he : -2147483648 ≤ e ∧ e ≤ 2147483647) : Jt mX11_place mX12_place [vi n, vi i, vi e] vl σ := by
  obtain ⟨la, sz, it, B, na, Ac, tp, tn, fl, su, mk, Im, nt, Tr, iC, iM, iP⟩ := hI
  by_cases q0 : B 2 = 0
  · refine Jq iC iM iP (v := (-1000002)) (su2 := su) (ct_imp (o_place iC.2.1 iP.1 hn hi he) (fun r τ h => ?_)) (fun τ iM => ct_imp (m_place iM.2.1 iP.1 hn hi he) (fun r χ h => ?_))
    · obtain ⟨rfl, rfl⟩ := h.1 q0
      exact ⟨rfl, CF_rf iC.2.2.2.2.2.1⟩
    · obtain ⟨rfl, rfl⟩ := h.1 q0
      exact ⟨rfl, MF_rf iM.2.2.2.2.2.1⟩
  by_cases q1 : 0 < B 2 ∧ ¬ ((0 ≤ n ∧ n ≤ 6) ∧ 0 ≤ i ∧ 0 ≤ e ∧ e ≤ 1)
  · refine Jq iC iM iP (v := (-1000001)) (su2 := su) (ct_imp (o_place iC.2.1 iP.1 hn hi he) (fun r τ h => ?_)) (fun τ iM => ct_imp (m_place iM.2.1 iP.1 hn hi he) (fun r χ h => ?_))
    · obtain ⟨rfl, rfl⟩ := h.2.1 q1
      exact ⟨rfl, CF_rf iC.2.2.2.2.2.1⟩
    · obtain ⟨rfl, rfl⟩ := h.2.1 q1
      exact ⟨rfl, MF_rf iM.2.2.2.2.2.1⟩
  by_cases q2 : 0 < B 2 ∧ ((0 ≤ n ∧ n ≤ 6) ∧ 0 ≤ i ∧ 0 ≤ e ∧ e ≤ 1) ∧ 300 < ((Gr B n.toNat).length : Int)
  · refine Jq iC iM iP (v := (-1000003)) (su2 := su) (ct_imp (o_place iC.2.1 iP.1 hn hi he) (fun r τ h => ?_)) (fun τ iM => ct_imp (m_place iM.2.1 iP.1 hn hi he) (fun r χ h => ?_))
    · obtain ⟨rfl, h3⟩ := h.2.2.1 q2
      exact ⟨rfl, fun k hk => h3 k (by unfold EsC at hk; omega), by rw [h3 0 (by omega)], by rw [h3 0 (by omega)]; exact iC.2.2.2.2.2.1⟩
    · obtain ⟨rfl, h3⟩ := h.2.2.1 q2
      exact ⟨rfl, fun k hk => h3 k (by unfold EsM at hk; omega) (by unfold EsM at hk; omega), fun j hj => by rw [h3 45 (by omega) (by omega)], by rw [h3 45 (by omega) (by omega)]; exact iM.2.2.2.2.2.1⟩
  by_cases q3 : 0 < B 2 ∧ ((0 ≤ n ∧ n ≤ 6) ∧ 0 ≤ i ∧ 0 ≤ e ∧ e ≤ 1) ∧ ((Gr B n.toNat).length : Int) ≤ 300 ∧ ((Gr B n.toNat).length : Int) ≤ i
  · refine Jq iC iM iP (v := (-1000000)) (su2 := su) (ct_imp (o_place iC.2.1 iP.1 hn hi he) (fun r τ h => ?_)) (fun τ iM => ct_imp (m_place iM.2.1 iP.1 hn hi he) (fun r χ h => ?_))
    · obtain ⟨rfl, h3⟩ := h.2.2.2.1 q3
      exact ⟨rfl, fun k hk => h3 k (by unfold EsC at hk; omega), by rw [h3 0 (by omega)], by rw [h3 0 (by omega)]; exact iC.2.2.2.2.2.1⟩
    · obtain ⟨rfl, h3⟩ := h.2.2.2.1 q3
      exact ⟨rfl, fun k hk => h3 k (by unfold EsM at hk; omega) (by unfold EsM at hk; omega), fun j hj => by rw [h3 45 (by omega) (by omega)], by rw [h3 45 (by omega) (by omega)]; exact iM.2.2.2.2.2.1⟩
  have q4 : 0 < B 2 ∧ ((0 ≤ n ∧ n ≤ 6) ∧ 0 ≤ i ∧ 0 ≤ e ∧ e ≤ 1) ∧ ((Gr B n.toNat).length : Int) ≤ 300 ∧ i < ((Gr B n.toNat).length : Int) := by first | omega | grind
  refine Jq iC iM iP (v := (pl B n.toNat e.toNat i.toNat)) (su2 := su) (ct_imp (o_place iC.2.1 iP.1 hn hi he) (fun r τ h => ?_)) (fun τ iM => ct_imp (m_place iM.2.1 iP.1 hn hi he) (fun r χ h => ?_))
  · obtain ⟨rfl, h3⟩ := h.2.2.2.2 q4
    exact ⟨rfl, fun k hk => h3 k (by unfold EsC at hk; omega), by rw [h3 0 (by omega)], by rw [h3 0 (by omega)]; exact iC.2.2.2.2.2.1⟩
  · obtain ⟨rfl, h3⟩ := h.2.2.2.2 q4
    exact ⟨rfl, fun k hk => h3 k (by unfold EsM at hk; omega) (by unfold EsM at hk; omega), fun j hj => by rw [h3 45 (by omega) (by omega)], by rw [h3 45 (by omega) (by omega)]; exact iM.2.2.2.2.2.1⟩
theorem j_numbers {σ : St} (hI : Inv σ) {x n : Int} (hx : -2147483648 ≤ x ∧ x ≤ 2147483647) (hn : -2147483648 ≤ n ∧ n ≤ 2147483647) : Jt mX11_numbers mX12_numbers [vi x, vi n] vl σ := by
  obtain ⟨la, sz, it, B, na, Ac, tp, tn, fl, su, mk, Im, nt, Tr, iC, iM, iP⟩ := hI
  by_cases q0 : ¬ ((0 ≤ x ∧ x < B 2) ∧ (0 ≤ n ∧ n ≤ 60))
  · refine Jq iC iM iP (v := (-1000001)) (su2 := su) (ct_imp (o_numbers iC.2.1 iP.1 hx hn) (fun r τ h => ?_)) (fun τ iM => ct_imp (m_numbers iM.2.1 iP.1 hx hn) (fun r χ h => ?_))
    · obtain ⟨rfl, rfl⟩ := h.1 q0
      exact ⟨rfl, CF_rf iC.2.2.2.2.2.1⟩
    · obtain ⟨rfl, rfl⟩ := h.1 q0
      exact ⟨rfl, MF_rf iM.2.2.2.2.2.1⟩
  by_cases q1 : ((0 ≤ x ∧ x < B 2) ∧ (0 ≤ n ∧ n ≤ 60)) ∧ ovr B n.toNat
  · refine Jq iC iM iP (v := (-1000016)) (su2 := 6) (ct_imp (o_numbers iC.2.1 iP.1 hx hn) (fun r τ h => ?_)) (fun τ iM => ct_imp (m_numbers iM.2.1 iP.1 hx hn) (fun r χ h => ?_))
    · obtain ⟨rfl, h1, h2, h3⟩ := h.2.1 q1
      exact ⟨rfl, fun k hk => h3 k (by unfold EsC at hk; omega) (by unfold EsC at hk; omega) (by unfold EsC at hk; omega) (by unfold EsC at hk; omega) (by unfold EsC at hk; omega), h1, h2⟩
    · obtain ⟨rfl, h1, h2, h3⟩ := h.2.1 q1
      exact ⟨rfl, fun k hk => h3 k (by unfold EsM at hk; omega) (by unfold EsM at hk; omega) (by unfold EsM at hk; omega), fun j hj => h2 j (by omega) (by omega), h1⟩
  have q2 : ((0 ≤ x ∧ x < B 2) ∧ (0 ≤ n ∧ n ≤ 60)) ∧ ¬ ovr B n.toNat := by first | omega | grind
  refine Jq iC iM iP (v := (nm B n.toNat x.toNat)) (su2 := 0) (ct_imp (o_numbers iC.2.1 iP.1 hx hn) (fun r τ h => ?_)) (fun τ iM => ct_imp (m_numbers iM.2.1 iP.1 hx hn) (fun r χ h => ?_))
  · obtain ⟨rfl, h1, h2, h3⟩ := h.2.2 q2
    exact ⟨rfl, fun k hk => h3 k (by unfold EsC at hk; omega) (by unfold EsC at hk; omega) (by unfold EsC at hk; omega) (by unfold EsC at hk; omega) (by unfold EsC at hk; omega), h1, h2⟩
  · obtain ⟨rfl, h1, h2, h3⟩ := h.2.2 q2
    exact ⟨rfl, fun k hk => h3 k (by unfold EsM at hk; omega) (by unfold EsM at hk; omega) (by unfold EsM at hk; omega), fun j hj => h2 j (by omega) (by omega), h1⟩
theorem j_all {σ : St} (hI : Inv σ) {n e : Int} (hn : -2147483648 ≤ n ∧ n ≤ 2147483647) (he : -2147483648 ≤ e ∧ e ≤ 2147483647) : Jt mX11_all mX12_all [vi n, vi e] vl σ := by
  obtain ⟨la, sz, it, B, na, Ac, tp, tn, fl, su, mk, Im, nt, Tr, iC, iM, iP⟩ := hI
  by_cases q0 : B 2 = 0
  · refine Jq iC iM iP (v := (-1000002)) (su2 := su) (ct_imp (o_all iC.2.1 iP.1 hn he) (fun r τ h => ?_)) (fun τ iM => ct_imp (m_all iM.2.1 iP.1 hn he) (fun r χ h => ?_))
    · obtain ⟨rfl, rfl⟩ := h.1 q0
      exact ⟨rfl, CF_rf iC.2.2.2.2.2.1⟩
    · obtain ⟨rfl, rfl⟩ := h.1 q0
      exact ⟨rfl, MF_rf iM.2.2.2.2.2.1⟩
  by_cases q1 : 0 < B 2 ∧ ¬ ((0 ≤ n ∧ n ≤ 60) ∧ 0 ≤ e ∧ e ≤ 1)
  · refine Jq iC iM iP (v := (-1000001)) (su2 := su) (ct_imp (o_all iC.2.1 iP.1 hn he) (fun r τ h => ?_)) (fun τ iM => ct_imp (m_all iM.2.1 iP.1 hn he) (fun r χ h => ?_))
    · obtain ⟨rfl, rfl⟩ := h.2.1 q1
      exact ⟨rfl, CF_rf iC.2.2.2.2.2.1⟩
    · obtain ⟨rfl, rfl⟩ := h.2.1 q1
      exact ⟨rfl, MF_rf iM.2.2.2.2.2.1⟩
  by_cases q2 : 0 < B 2 ∧ ((0 ≤ n ∧ n ≤ 60) ∧ 0 ≤ e ∧ e ≤ 1) ∧ (ovr B n.toNat ∨ MX < sumF (fun q => nm B n.toNat q * ln B q e.toNat) (B 2))
  · refine Jq iC iM iP (v := (-1000016)) (su2 := 6) (ct_imp (o_all iC.2.1 iP.1 hn he) (fun r τ h => ?_)) (fun τ iM => ct_imp (m_all iM.2.1 iP.1 hn he) (fun r χ h => ?_))
    · obtain ⟨rfl, h1, h2, h3⟩ := h.2.2.1 q2
      exact ⟨rfl, fun k hk => h3 k (by unfold EsC at hk; omega) (by unfold EsC at hk; omega) (by unfold EsC at hk; omega) (by unfold EsC at hk; omega) (by unfold EsC at hk; omega), h1, h2⟩
    · obtain ⟨rfl, h1, h2, h3⟩ := h.2.2.1 q2
      exact ⟨rfl, fun k hk => h3 k (by unfold EsM at hk; omega) (by unfold EsM at hk; omega) (by unfold EsM at hk; omega), fun j hj => h2 j (by omega) (by omega), h1⟩
  have q3 : 0 < B 2 ∧ ((0 ≤ n ∧ n ≤ 60) ∧ 0 ≤ e ∧ e ≤ 1) ∧ ¬ (ovr B n.toNat ∨ MX < sumF (fun q => nm B n.toNat q * ln B q e.toNat) (B 2)) := by first | omega | grind
  refine Jq iC iM iP (v := ((sumF (fun q => nm B n.toNat q * ln B q e.toNat) (B 2) : Nat) : Int)) (su2 := 0) (ct_imp (o_all iC.2.1 iP.1 hn he) (fun r τ h => ?_)) (fun τ iM => ct_imp (m_all iM.2.1 iP.1 hn he) (fun r χ h => ?_))
  · obtain ⟨rfl, h1, h2, h3⟩ := h.2.2.2 q3
    exact ⟨rfl, fun k hk => h3 k (by unfold EsC at hk; omega) (by unfold EsC at hk; omega) (by unfold EsC at hk; omega) (by unfold EsC at hk; omega) (by unfold EsC at hk; omega), h1, h2⟩
  · obtain ⟨rfl, h1, h2, h3⟩ := h.2.2.2 q3
    exact ⟨rfl, fun k hk => h3 k (by unfold EsM at hk; omega) (by unfold EsM at hk; omega) (by unfold EsM at hk; omega), fun j hj => h2 j (by omega) (by omega), h1⟩
theorem j_share {σ : St} (hI : Inv σ) {x n e : Int} (hx : -2147483648 ≤ x ∧ x ≤ 2147483647) (hn : -2147483648 ≤ n ∧ n ≤ 2147483647) (he : -2147483648 ≤ e ∧ e ≤ 2147483647) : Jt mX11_share mX12_share [vi x, vi n, vi e] vl σ := by
  obtain ⟨la, sz, it, B, na, Ac, tp, tn, fl, su, mk, Im, nt, Tr, iC, iM, iP⟩ := hI
  by_cases q0 : ¬ ((0 ≤ x ∧ x < B 2) ∧ (0 ≤ n ∧ n ≤ 60) ∧ 0 ≤ e ∧ e ≤ 1)
  · refine Jq iC iM iP (v := (-1000001)) (su2 := su) (ct_imp (o_share iC.2.1 iP.1 hx hn he) (fun r τ h => ?_)) (fun τ iM => ct_imp (m_share iM.2.1 iP.1 hx hn he) (fun r χ h => ?_))
    · obtain ⟨rfl, rfl⟩ := h.1 q0
      exact ⟨rfl, CF_rf iC.2.2.2.2.2.1⟩
    · obtain ⟨rfl, rfl⟩ := h.1 q0
      exact ⟨rfl, MF_rf iM.2.2.2.2.2.1⟩
  by_cases q1 : ((0 ≤ x ∧ x < B 2) ∧ (0 ≤ n ∧ n ≤ 60) ∧ 0 ≤ e ∧ e ≤ 1) ∧ (ovr B n.toNat ∨ MX < nmS B n.toNat)
  · refine Jq iC iM iP (v := (-1000016)) (su2 := 6) (ct_imp (o_share iC.2.1 iP.1 hx hn he) (fun r τ h => ?_)) (fun τ iM => ct_imp (m_share iM.2.1 iP.1 hx hn he) (fun r χ h => ?_))
    · obtain ⟨rfl, h1, h2, h3⟩ := h.2.1 q1
      exact ⟨rfl, fun k hk => h3 k (by unfold EsC at hk; omega) (by unfold EsC at hk; omega) (by unfold EsC at hk; omega) (by unfold EsC at hk; omega) (by unfold EsC at hk; omega), h1, h2⟩
    · obtain ⟨rfl, h1, h2, h3⟩ := h.2.1 q1
      exact ⟨rfl, fun k hk => h3 k (by unfold EsM at hk; omega) (by unfold EsM at hk; omega) (by unfold EsM at hk; omega), fun j hj => h2 j (by omega) (by omega), h1⟩
  have q2 : ((0 ≤ x ∧ x < B 2) ∧ (0 ≤ n ∧ n ≤ 60) ∧ 0 ≤ e ∧ e ≤ 1) ∧ ¬ (ovr B n.toNat ∨ MX < nmS B n.toNat) := by first | omega | grind
  refine Jq iC iM iP (v := (lowT (nm B n.toNat x.toNat) (nmS B n.toNat) e.toNat)) (su2 := 0) (ct_imp (o_share iC.2.1 iP.1 hx hn he) (fun r τ h => ?_)) (fun τ iM => ct_imp (m_share iM.2.1 iP.1 hx hn he) (fun r χ h => ?_))
  · obtain ⟨rfl, h1, h2, h3⟩ := h.2.2 q2
    exact ⟨rfl, fun k hk => h3 k (by unfold EsC at hk; omega) (by unfold EsC at hk; omega) (by unfold EsC at hk; omega) (by unfold EsC at hk; omega) (by unfold EsC at hk; omega), h1, h2⟩
  · obtain ⟨rfl, h1, h2, h3⟩ := h.2.2 q2
    exact ⟨rfl, fun k hk => h3 k (by unfold EsM at hk; omega) (by unfold EsM at hk; omega) (by unfold EsM at hk; omega), fun j hj => h2 j (by omega) (by omega), h1⟩
theorem j_lost {σ : St} (hI : Inv σ) {x v y e : Int} (hx : -2147483648 ≤ x ∧ x ≤ 2147483647) (hv : -2147483648 ≤ v ∧ v ≤ 2147483647) (hy : -2147483648 ≤ y ∧ y ≤ 2147483647) (he : -2147483648 ≤ e ∧ e ≤ 2147483647) : Jt mX11_lost mX12_lost [vi x, vi v, vi y, vi e] vl σ := by
  obtain ⟨la, sz, it, B, na, Ac, tp, tn, fl, su, mk, Im, nt, Tr, iC, iM, iP⟩ := hI
  by_cases q0 : ¬ ((0 ≤ x ∧ x < B 2) ∧ (0 ≤ v ∧ v ≤ 40) ∧ (0 ≤ y ∧ y ≤ 10) ∧ 0 ≤ e ∧ e ≤ 1)
  · refine Jq iC iM iP (v := (-1000001)) (su2 := su) (ct_imp (o_lost iC.2.1 iP.1 hx hv hy he) (fun r τ h => ?_)) (fun τ iM => ct_imp (m_lost iM.2.1 iP.1 hx hv hy he) (fun r χ h => ?_))
    · obtain ⟨rfl, rfl⟩ := h.1 q0
      exact ⟨rfl, CF_rf iC.2.2.2.2.2.1⟩
    · obtain ⟨rfl, rfl⟩ := h.1 q0
      exact ⟨rfl, MF_rf iM.2.2.2.2.2.1⟩
  have q1 : (0 ≤ x ∧ x < B 2) ∧ (0 ≤ v ∧ v ≤ 40) ∧ (0 ≤ y ∧ y ≤ 10) ∧ 0 ≤ e ∧ e ≤ 1 := by first | omega | grind
  refine Jq iC iM iP (v := (lowT (sumF (lsD B x.toNat y.toNat) (v.toNat + 1)) (10 ^ B 3) e.toNat)) (su2 := su) (ct_imp (o_lost iC.2.1 iP.1 hx hv hy he) (fun r τ h => ?_)) (fun τ iM => ct_imp (m_lost iM.2.1 iP.1 hx hv hy he) (fun r χ h => ?_))
  · obtain ⟨rfl, h3⟩ := h.2 q1
    exact ⟨rfl, fun k hk => h3 k (by unfold EsC at hk; omega) (by unfold EsC at hk; omega), by rw [h3 0 (by omega) (by omega)], by rw [h3 0 (by omega) (by omega)]; exact iC.2.2.2.2.2.1⟩
  · obtain ⟨rfl, rfl⟩ := h.2 q1
    exact ⟨rfl, MF_rf iM.2.2.2.2.2.1⟩
theorem j_sets {σ : St} (hI : Inv σ) {v e : Int} (hv : -2147483648 ≤ v ∧ v ≤ 2147483647) (he : -2147483648 ≤ e ∧ e ≤ 2147483647) : Jt mX11_sets mX12_sets [vi v, vi e] vi σ := by
  obtain ⟨la, sz, it, B, na, Ac, tp, tn, fl, su, mk, Im, nt, Tr, iC, iM, iP⟩ := hI
  by_cases q0 : B 2 = 0
  · refine Jq iC iM iP (v := (-1000002)) (su2 := su) (ct_imp (o_sets iC.2.1 iP.1 hv he) (fun r τ h => ?_)) (fun τ iM => ct_imp (m_sets iM.2.1 iP.1 hv he) (fun r χ h => ?_))
    · obtain ⟨rfl, rfl⟩ := h.1 q0
      exact ⟨rfl, CF_rf iC.2.2.2.2.2.1⟩
    · obtain ⟨rfl, rfl⟩ := h.1 q0
      exact ⟨rfl, MF_rf iM.2.2.2.2.2.1⟩
  by_cases q1 : 0 < B 2 ∧ ¬ ((0 ≤ v ∧ v ≤ 99) ∧ 0 ≤ e ∧ e ≤ 2)
  · refine Jq iC iM iP (v := (-1000001)) (su2 := su) (ct_imp (o_sets iC.2.1 iP.1 hv he) (fun r τ h => ?_)) (fun τ iM => ct_imp (m_sets iM.2.1 iP.1 hv he) (fun r χ h => ?_))
    · obtain ⟨rfl, rfl⟩ := h.2.1 q1
      exact ⟨rfl, CF_rf iC.2.2.2.2.2.1⟩
    · obtain ⟨rfl, rfl⟩ := h.2.1 q1
      exact ⟨rfl, MF_rf iM.2.2.2.2.2.1⟩
  have q2 : 0 < B 2 ∧ ((0 ≤ v ∧ v ≤ 99) ∧ 0 ≤ e ∧ e ≤ 2) := by first | omega | grind
  refine Jq iC iM iP (v := (setA B v.toNat e.toNat)) (su2 := su) (ct_imp (o_sets iC.2.1 iP.1 hv he) (fun r τ h => ?_)) (fun τ iM => ct_imp (m_sets iM.2.1 iP.1 hv he) (fun r χ h => ?_))
  · obtain ⟨rfl, rfl⟩ := h.2.2 q2
    exact ⟨rfl, CF_rf iC.2.2.2.2.2.1⟩
  · obtain ⟨rfl, rfl⟩ := h.2.2 q2
    exact ⟨rfl, MF_rf iM.2.2.2.2.2.1⟩
theorem j_quiet {σ : St} (hI : Inv σ) : Jt mX11_quiet mX12_quiet [] vi σ := by
  obtain ⟨la, sz, it, B, na, Ac, tp, tn, fl, su, mk, Im, nt, Tr, iC, iM, iP⟩ := hI
  by_cases q0 : B 2 = 0
  · refine Jq iC iM iP (v := (-1000002)) (su2 := su) (ct_imp (o_quiet iC.2.1 iP.1) (fun r τ h => ?_)) (fun τ iM => ct_imp (m_quiet iM.2.1 iP.1) (fun r χ h => ?_))
    · obtain ⟨rfl, rfl⟩ := h.1 q0
      exact ⟨rfl, CF_rf iC.2.2.2.2.2.1⟩
    · obtain ⟨rfl, rfl⟩ := h.1 q0
      exact ⟨rfl, MF_rf iM.2.2.2.2.2.1⟩
  have q1 : 0 < B 2 := by first | omega | grind
  refine Jq iC iM iP (v := (qtF B (B 3))) (su2 := su) (ct_imp (o_quiet iC.2.1 iP.1) (fun r τ h => ?_)) (fun τ iM => ct_imp (m_quiet iM.2.1 iP.1) (fun r χ h => ?_))
  · obtain ⟨rfl, h3⟩ := h.2 q1
    exact ⟨rfl, fun k hk => h3 k (by unfold EsC at hk; omega), by rw [h3 0 (by omega)], by rw [h3 0 (by omega)]; exact iC.2.2.2.2.2.1⟩
  · obtain ⟨rfl, h3⟩ := h.2 q1
    exact ⟨rfl, fun k hk => h3 k (by unfold EsM at hk; omega), fun j hj => by rw [h3 45 (by omega)], by rw [h3 45 (by omega)]; exact iM.2.2.2.2.2.1⟩
theorem j_drawn {σ : St} (hI : Inv σ) {n y e : Int} (hn : -2147483648 ≤ n ∧ n ≤ 2147483647) (hy : -2147483648 ≤ y ∧ y ≤ 2147483647) (he : -2147483648 ≤ e ∧ e ≤ 2147483647) : Jt mX11_drawn mX12_drawn [vi n, vi y, vi e] vi σ := by
  obtain ⟨la, sz, it, B, na, Ac, tp, tn, fl, su, mk, Im, nt, Tr, iC, iM, iP⟩ := hI
  by_cases q0 : B 2 = 0
  · refine Jq iC iM iP (v := (-1000002)) (su2 := su) (ct_imp (o_drawn iC.2.1 iP.1 hn hy he) (fun r τ h => ?_)) (fun τ iM => ct_imp (m_drawn iM.2.1 iP.1 hn hy he) (fun r χ h => ?_))
    · obtain ⟨rfl, rfl⟩ := h.1 q0
      exact ⟨rfl, CF_rf iC.2.2.2.2.2.1⟩
    · obtain ⟨rfl, rfl⟩ := h.1 q0
      exact ⟨rfl, MF_rf iM.2.2.2.2.2.1⟩
  by_cases q1 : 0 < B 2 ∧ ¬ ((0 ≤ n ∧ n ≤ 30) ∧ (1 ≤ y ∧ y ≤ 999999) ∧ 0 ≤ e ∧ e ≤ 1)
  · refine Jq iC iM iP (v := (-1000001)) (su2 := su) (ct_imp (o_drawn iC.2.1 iP.1 hn hy he) (fun r τ h => ?_)) (fun τ iM => ct_imp (m_drawn iM.2.1 iP.1 hn hy he) (fun r χ h => ?_))
    · obtain ⟨rfl, rfl⟩ := h.2.1 q1
      exact ⟨rfl, CF_rf iC.2.2.2.2.2.1⟩
    · obtain ⟨rfl, rfl⟩ := h.2.1 q1
      exact ⟨rfl, MF_rf iM.2.2.2.2.2.1⟩
  have q2 : 0 < B 2 ∧ ((0 ≤ n ∧ n ≤ 30) ∧ (1 ≤ y ∧ y ≤ 999999) ∧ 0 ≤ e ∧ e ≤ 1) := by first | omega | grind
  refine Jq iC iM iP (v := ((if e.toNat = 0 then (dr n.toNat y.toNat B 0 65535).1 else (dr n.toNat y.toNat B 0 65535).2 : Nat) : Int)) (su2 := su) (ct_imp (o_drawn iC.2.1 iP.1 hn hy he) (fun r τ h => ?_)) (fun τ iM => ct_imp (m_drawn iM.2.1 iP.1 hn hy he) (fun r χ h => ?_))
  · obtain ⟨rfl, h3⟩ := h.2.2 q2
    exact ⟨rfl, fun k hk => h3 k (by unfold EsC at hk; omega), by rw [h3 0 (by omega)], by rw [h3 0 (by omega)]; exact iC.2.2.2.2.2.1⟩
  · obtain ⟨rfl, h3⟩ := h.2.2 q2
    exact ⟨rfl, fun k hk => h3 k (by unfold EsM at hk; omega), fun j hj => by rw [h3 45 (by omega)], by rw [h3 45 (by omega)]; exact iM.2.2.2.2.2.1⟩
theorem j_who {σ : St} (hI : Inv σ) {x y e n z m : Int} (hx : -2147483648 ≤ x ∧ x ≤ 2147483647) (hy : -2147483648 ≤ y ∧ y ≤ 2147483647) (he : -2147483648 ≤ e ∧ e ≤ 2147483647) (hn : -2147483648 ≤ n ∧ n ≤ 2147483647) (hz : -2147483648 ≤ z ∧ z ≤ 2147483647) (hm : -2147483648 ≤ m ∧ m ≤ 2147483647) : Jt mX11_who mX12_who [vi x, vi y, vi e, vi n, vi z, vi m] vi σ := by
  obtain ⟨la, sz, it, B, na, Ac, tp, tn, fl, su, mk, Im, nt, Tr, iC, iM, iP⟩ := hI
  by_cases q0 : ¬ ((0 ≤ x ∧ x < B 2) ∧ (0 ≤ e ∧ e ≤ 2) ∧ (0 ≤ n ∧ n ≤ 6) ∧ (e = 1 → 0 ≤ y ∧ y < B 3) ∧ (e = 2 → 0 ≤ y ∧ y < ws B x.toNat) ∧ (0 ≤ z ∧ z < 8) ∧ 1 ≤ m ∧ m ≤ 40)
  · refine Jq iC iM iP (v := (-1000001)) (su2 := su) (ct_imp (o_who iC.2.1 iP.1 iC.1 hx hy he hn hz hm) (fun r τ h => ?_)) (fun τ iM => ct_imp (m_who iM.2.1 iP.1 iM.1 hx hy he hn hz hm) (fun r χ h => ?_))
    · obtain ⟨rfl, rfl⟩ := h.1 q0
      exact ⟨rfl, CF_rf iC.2.2.2.2.2.1⟩
    · obtain ⟨rfl, rfl⟩ := h.1 q0
      exact ⟨rfl, MF_rf iM.2.2.2.2.2.1⟩
  by_cases q1 : ((0 ≤ x ∧ x < B 2) ∧ (0 ≤ e ∧ e ≤ 2) ∧ (0 ≤ n ∧ n ≤ 6) ∧ (e = 1 → 0 ≤ y ∧ y < B 3) ∧ (e = 2 → 0 ≤ y ∧ y < ws B x.toNat) ∧ (0 ≤ z ∧ z < 8) ∧ 1 ≤ m ∧ m ≤ 40) ∧ la z.toNat = -1
  · refine Jq iC iM iP (v := (-1000010 - 1)) (su2 := 1) (ct_imp (o_who iC.2.1 iP.1 iC.1 hx hy he hn hz hm) (fun r τ h => ?_)) (fun τ iM => ct_imp (m_who iM.2.1 iP.1 iM.1 hx hy he hn hz hm) (fun r χ h => ?_))
    · obtain ⟨rfl, rfl⟩ := h.2.1 q1
      exact ⟨rfl, CF_st _ _⟩
    · obtain ⟨rfl, rfl⟩ := h.2.1 q1
      exact ⟨rfl, MF_st _ _⟩
  by_cases q2 : ((0 ≤ x ∧ x < B 2) ∧ (0 ≤ e ∧ e ≤ 2) ∧ (0 ≤ n ∧ n ≤ 6) ∧ (e = 1 → 0 ≤ y ∧ y < B 3) ∧ (e = 2 → 0 ≤ y ∧ y < ws B x.toNat) ∧ (0 ≤ z ∧ z < 8) ∧ 1 ≤ m ∧ m ≤ 40) ∧ la z.toNat ≠ -1 ∧ (sz z.toNat : Int) < m
  · refine Jq iC iM iP (v := (-1000010 - 2)) (su2 := 2) (ct_imp (o_who iC.2.1 iP.1 iC.1 hx hy he hn hz hm) (fun r τ h => ?_)) (fun τ iM => ct_imp (m_who iM.2.1 iP.1 iM.1 hx hy he hn hz hm) (fun r χ h => ?_))
    · obtain ⟨rfl, rfl⟩ := h.2.2.1 q2
      exact ⟨rfl, CF_st _ _⟩
    · obtain ⟨rfl, rfl⟩ := h.2.2.1 q2
      exact ⟨rfl, MF_st _ _⟩
  have q3 : ((0 ≤ x ∧ x < B 2) ∧ (0 ≤ e ∧ e ≤ 2) ∧ (0 ≤ n ∧ n ≤ 6) ∧ (e = 1 → 0 ≤ y ∧ y < B 3) ∧ (e = 2 → 0 ≤ y ∧ y < ws B x.toNat) ∧ (0 ≤ z ∧ z < 8) ∧ 1 ≤ m ∧ m ≤ 40) ∧ la z.toNat ≠ -1 ∧ m ≤ (sz z.toNat : Int) := by first | omega | grind
  refine Jq iC iM iP (v := (whR B it x.toNat y.toNat e.toNat n.toNat z.toNat m.toNat)) (su2 := 0) (ct_imp (o_who iC.2.1 iP.1 iC.1 hx hy he hn hz hm) (fun r τ h => ?_)) (fun τ iM => ct_imp (m_who iM.2.1 iP.1 iM.1 hx hy he hn hz hm) (fun r χ h => ?_))
  · obtain ⟨rfl, h1, h2, h3⟩ := h.2.2.2 q3
    exact ⟨rfl, fun k hk => h3 k (by unfold EsC at hk; omega) (by unfold EsC at hk; omega) (by unfold EsC at hk; omega), h1, h2⟩
  · obtain ⟨rfl, h1, h2, h3⟩ := h.2.2.2 q3
    exact ⟨rfl, fun k hk => h3 k (by unfold EsM at hk; omega) (by unfold EsM at hk; omega) (by unfold EsM at hk; omega) (by unfold EsM at hk; omega), fun j hj => h2 j (by omega), h1⟩
theorem j_fault {σ : St} (hI : Inv σ) : Jt mX11_fault mX12_fault [] vi σ := by
  obtain ⟨la, sz, it, B, na, Ac, tp, tn, fl, su, mk, Im, nt, Tr, iC, iM, iP⟩ := hI
  refine Jq iC iM iP (v := fl) (su2 := su) (ct_imp o_fault (fun r τ h => ?_)) (fun τ iM => ct_imp m_fault (fun r χ h => ?_))
  · obtain ⟨rfl, rfl⟩ := h
    exact ⟨by rw [iC.2.2.2.2.1], CF_rf iC.2.2.2.2.2.1⟩
  · obtain ⟨rfl, rfl⟩ := h
    exact ⟨by rw [iM.2.2.2.2.1], MF_rf iM.2.2.2.2.2.1⟩
theorem j_status {σ : St} (hI : Inv σ) : Jt mX11_status mX12_status [] vi σ := by
  obtain ⟨la, sz, it, B, na, Ac, tp, tn, fl, su, mk, Im, nt, Tr, iC, iM, iP⟩ := hI
  refine Jq iC iM iP (v := su) (su2 := su) (ct_imp o_status (fun r τ h => ?_)) (fun τ iM => ct_imp m_status (fun r χ h => ?_))
  · obtain ⟨rfl, rfl⟩ := h
    exact ⟨by rw [iC.2.2.2.2.2.1], CF_rf iC.2.2.2.2.2.1⟩
  · obtain ⟨rfl, rfl⟩ := h
    exact ⟨by rw [iM.2.2.2.2.2.1], MF_rf iM.2.2.2.2.2.1⟩
theorem j_trace {σ : St} (hI : Inv σ) {x : Int} (hx : -2147483648 ≤ x ∧ x ≤ 2147483647) : Jt mX11_trace mX12_trace [vi x] vi σ := by
  obtain ⟨la, sz, it, B, na, Ac, tp, tn, fl, su, mk, Im, nt, Tr, iC, iM, iP⟩ := hI
  by_cases q : 0 ≤ x ∧ x < nt
  · refine Jq iC iM iP (v := Tr x.toNat) (su2 := su) (ct_imp (o_trace iC.2.2.2.2.2.2.2.2.1 iP.2.2.2.2 hx) (fun r τ h => ?_)) (fun τ iM => ct_imp (m_trace iM.2.2.2.2.2.2.2.2.1 iP.2.2.2.2 hx) (fun r χ h => ?_))
    · obtain ⟨rfl, rfl⟩ := h.2 q
      exact ⟨by rw [iC.2.2.2.2.2.2.2.2.2 x.toNat (by omega)], CF_rf iC.2.2.2.2.2.1⟩
    · obtain ⟨rfl, rfl⟩ := h.2 q
      exact ⟨by rw [iM.2.2.2.2.2.2.2.2.2 x.toNat (by omega)], MF_rf iM.2.2.2.2.2.1⟩
  · refine Jq iC iM iP (v := -1000000) (su2 := su) (ct_imp (o_trace iC.2.2.2.2.2.2.2.2.1 iP.2.2.2.2 hx) (fun r τ h => ?_)) (fun τ iM => ct_imp (m_trace iM.2.2.2.2.2.2.2.2.1 iP.2.2.2.2 hx) (fun r χ h => ?_))
    · obtain ⟨rfl, rfl⟩ := h.1 q
      exact ⟨rfl, CF_rf iC.2.2.2.2.2.1⟩
    · obtain ⟨rfl, rfl⟩ := h.1 q
      exact ⟨rfl, MF_rf iM.2.2.2.2.2.1⟩
theorem j_count {σ : St} (hI : Inv σ) {x : Int} (hx : -2147483648 ≤ x ∧ x ≤ 2147483647) : Jt mX11_count mX12_count [vi x] vi σ := by
  obtain ⟨la, sz, it, B, na, Ac, tp, tn, fl, su, mk, Im, nt, Tr, iC, iM, iP⟩ := hI
  obtain ⟨od, a1, a2, a3, a4⟩ := id iC.2.2.1
  refine Jq iC iM iP (v := if x = 0 then (cntN la 8 : Int) else if x = 1 then (B 2 : Int) else if x = 2 then (B 3 : Int) else if x = 3 then (sumF (ws B) (B 2) : Int) else if x = 4 then (na : Int) else if x = 5 then (tn : Int) else -1000001) (su2 := su) (ct_imp (o_count iC.2.1 iP.1 iC.1 a3 iC.2.2.2.1.1 hx) (fun r τ h => ?_)) (fun τ iM => ct_imp (m_count iM.2.1 iP.1 iM.1 iM.2.2.1.1 iM.2.2.2.1.1 hx) (fun r χ h => ?_))
  · obtain ⟨rfl, rfl⟩ := h
    exact ⟨rfl, CF_rf iC.2.2.2.2.2.1⟩
  · obtain ⟨rfl, rfl⟩ := h
    exact ⟨rfl, MF_rf iM.2.2.2.2.2.1⟩
theorem j_as {σ : St} (hI : Inv σ) {x k : Int} (hx : -2147483648 ≤ x ∧ x ≤ 2147483647) (hk : -2147483648 ≤ k ∧ k ≤ 2147483647) : Jt mX11_as mX12_as [vi x, vi k] vi σ := by
  obtain ⟨la, sz, it, B, na, Ac, tp, tn, fl, su, mk, Im, nt, Tr, iC, iM, iP⟩ := hI
  by_cases q : (0 ≤ x ∧ x < B 2) ∧ 0 ≤ k ∧ k ≤ 5
  · by_cases q2 : isK (bk B x.toNat) k.toNat
    · refine Jq iC iM iP (v := x) (su2 := 0) (ct_imp (o_as iC.2.1 iP.1 hx hk) (fun r τ h => ?_)) (fun τ iM => ct_imp (m_as iM.2.1 iP.1 hx hk) (fun r χ h => ?_))
      · obtain ⟨rfl, rfl⟩ := (h.2 q).1 q2
        exact ⟨rfl, CF_st _ _⟩
      · obtain ⟨rfl, rfl⟩ := (h.2 q).1 q2
        exact ⟨rfl, MF_st _ _⟩
    · refine Jq iC iM iP (v := -1000010 - 3) (su2 := 3) (ct_imp (o_as iC.2.1 iP.1 hx hk) (fun r τ h => ?_)) (fun τ iM => ct_imp (m_as iM.2.1 iP.1 hx hk) (fun r χ h => ?_))
      · obtain ⟨rfl, rfl⟩ := (h.2 q).2 q2
        exact ⟨rfl, CF_st _ _⟩
      · obtain ⟨rfl, rfl⟩ := (h.2 q).2 q2
        exact ⟨rfl, MF_st _ _⟩
  · refine Jq iC iM iP (v := -1000001) (su2 := su) (ct_imp (o_as iC.2.1 iP.1 hx hk) (fun r τ h => ?_)) (fun τ iM => ct_imp (m_as iM.2.1 iP.1 hx hk) (fun r χ h => ?_))
    · obtain ⟨rfl, rfl⟩ := h.1 q
      exact ⟨rfl, CF_rf iC.2.2.2.2.2.1⟩
    · obtain ⟨rfl, rfl⟩ := h.1 q
      exact ⟨rfl, MF_rf iM.2.2.2.2.2.1⟩
theorem j_back {σ : St} (hI : Inv σ) {y n e : Int} (hy : -2147483648 ≤ y ∧ y ≤ 2147483647) (hn : -2147483648 ≤ n ∧ n ≤ 2147483647) (he : -2147483648 ≤ e ∧ e ≤ 2147483647) : Jt mX11_back mX12_back [vi y, vi n, vi e] vi σ := by
  obtain ⟨la, sz, it, B, na, Ac, tp, tn, fl, su, mk, Im, nt, Tr, iC, iM, iP⟩ := hI
  by_cases q0 : B 2 = 0
  · refine Jq iC iM iP (v := (-1000002)) (su2 := su) (ct_imp (o_back iC.2.1 iP.1 iC.1 hy hn he) (fun r τ h => ?_)) (fun τ iM => ct_imp (m_back iM.2.1 iP.1 iM.1 hy hn he) (fun r χ h => ?_))
    · obtain ⟨rfl, rfl⟩ := h.1 q0
      exact ⟨rfl, CF_rf iC.2.2.2.2.2.1⟩
    · obtain ⟨rfl, rfl⟩ := h.1 q0
      exact ⟨rfl, MF_rf iM.2.2.2.2.2.1⟩
  by_cases q1 : 0 < B 2 ∧ ¬ ((0 ≤ y ∧ y < 8) ∧ (1 ≤ n ∧ n ≤ 40) ∧ -1 ≤ e)
  · refine Jq iC iM iP (v := (-1000001)) (su2 := su) (ct_imp (o_back iC.2.1 iP.1 iC.1 hy hn he) (fun r τ h => ?_)) (fun τ iM => ct_imp (m_back iM.2.1 iP.1 iM.1 hy hn he) (fun r χ h => ?_))
    · obtain ⟨rfl, rfl⟩ := h.2.1 q1
      exact ⟨rfl, CF_rf iC.2.2.2.2.2.1⟩
    · obtain ⟨rfl, rfl⟩ := h.2.1 q1
      exact ⟨rfl, MF_rf iM.2.2.2.2.2.1⟩
  by_cases q2 : 0 < B 2 ∧ ((0 ≤ y ∧ y < 8) ∧ (1 ≤ n ∧ n ≤ 40) ∧ -1 ≤ e) ∧ lfn la sz it B y.toNat n.toNat ≠ 0
  · refine Jq iC iM iP (v := (-1000010 - lfn la sz it B y.toNat n.toNat)) (su2 := (lfn la sz it B y.toNat n.toNat)) (ct_imp (o_back iC.2.1 iP.1 iC.1 hy hn he) (fun r τ h => ?_)) (fun τ iM => ct_imp (m_back iM.2.1 iP.1 iM.1 hy hn he) (fun r χ h => ?_))
    · obtain ⟨rfl, rfl⟩ := h.2.2.1 q2
      exact ⟨rfl, CF_st _ _⟩
    · obtain ⟨rfl, rfl⟩ := h.2.2.1 q2
      exact ⟨rfl, MF_st _ _⟩
  have q3 : 0 < B 2 ∧ ((0 ≤ y ∧ y < 8) ∧ (1 ≤ n ∧ n ≤ 40) ∧ -1 ≤ e) ∧ lfn la sz it B y.toNat n.toNat = 0 := by first | omega | grind
  refine ⟨_, ct_imp (o_back iC.2.1 iP.1 iC.1 hy hn he) (fun r τ h => h.2.2.2 q3), fun r τ h => ?_⟩
  obtain ⟨F, f1, rfl, f2, f3, f4⟩ := h
  have cf : CF σ τ 0 := ⟨fun k hk => f4 k (by unfold EsC at hk; omega) (by unfold EsC at hk; omega) (by unfold EsC at hk; omega) (by unfold EsC at hk; omega), f2, f3⟩
  have iM2 := iM.hi (fun k hk => cf.1 k (Or.inr hk))
  refine ⟨_, rfl, _, ct_imp (m_back iM2.2.1 iP.1 iM2.1 hy hn he) (fun r χ h => h.2.2.2 q3), fun r' χ h => ?_⟩
  obtain ⟨g1, g2, g3, g4⟩ := h
  refine ⟨(g1 F f1).symm, la, sz, it, B, na, Ac, tp, tn, fl, 0, mk, Im, nt, Tr, (iC.of (fun k hk => cf.1 k (Or.inl hk)) cf.2.1 cf.2.2).lo (fun k hk => g4 k (by omega) (by omega) (by omega)), iM2.of (fun k hk => g4 k (by unfold EsM at hk; omega) (by unfold EsM at hk; omega) (by unfold EsM at hk; omega)) (fun j hj => g3 j (by omega)) g2, iP⟩
