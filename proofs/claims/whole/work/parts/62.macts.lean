/-! the reference: acts, findings, calls that change the book -/
def MAc (σ : St) (na : Nat) (Ac : Nat → Bok) : Prop := σ 45 8 = (na : Int) ∧ na ≤ 24 ∧ ∀ k, k < na → ∀ j, j < 44 → σ 52 (44 * k + j) = (Ac k (pm j) : Int)
theorem MAc.of {σ τ : St} {na : Nat} {Ac : Nat → Bok} (h : MAc σ na Ac) (e1 : τ 45 8 = σ 45 8) (e2 : τ 52 = σ 52) : MAc τ na Ac := ⟨by rw [e1]; exact h.1, h.2.1, fun k hk j hj => by rw [e2]; exact h.2.2 k hk j hj⟩
theorem MBk.cg {σ : St} {c : Nat} {B B' : Bok} (h : MBk σ c B) (e : ∀ j, j < 44 → B j = B' j) : MBk σ c B' := fun j hj => by rw [h j hj, e _ (pm_lt j hj)]
theorem mk_na {τ : St} {r : Nat → Int} {a : Nat} {B : Bok} {Ac : Nat → Bok} (h1 : ∀ q, τ 52 q = if 44 * a ≤ q ∧ q < 44 * a + 44 then (B (pm (q - 44 * a)) : Int) else r q) (h2 : τ 45 8 = ((a + 1 : Nat) : Int)) (ha : a < 24) (h3 : ∀ k, k < a → ∀ j, j < 44 → r (44 * k + j) = (Ac k (pm j) : Int)) : MAc τ (a + 1) (fun k => if k = a then B else Ac k) := by
  refine ⟨h2, ha, fun k hk j hj => ?_⟩
  rw [h1]
  show _ = (((if k = a then B else Ac k) (pm j) : Nat) : Int)
  by_cases e : k = a
  · subst e
    rw [if_pos (by omega), if_pos rfl, show 44 * k + j - 44 * k = j by omega]
  · rw [if_neg (by omega), if_neg e]
    exact h3 k (by omega) j hj
set_option maxRecDepth 20000 in
theorem m_keeps_b {d : Nat} {ρ : St} {B : Bok} (hM : MBk ρ 49 B) {a : Nat} (ha : a < 24) (hr : ρ 45 8 = (a : Int)) : ∀ (fu : Nat) {k : Nat} {τ : St}, 44 - k < fu → k ≤ 44 → (∀ q, τ 52 q = if 44 * a ≤ q ∧ q < 44 * a + k then (B (pm (q - 44 * a)) : Int) else ρ 52 q) → (∀ c, c ≠ 52 → τ c = ρ c) → Ev (d) mX12_keeps 51 [.ref 45, vi k] [] τ (fun r τ => none = r ∧ (∀ q, τ 52 q = if 44 * a ≤ q ∧ q < 44 * a + 44 then (B (pm (q - 44 * a)) : Int) else ρ 52 q) ∧ τ 45 8 = ((a + 1 : Nat) : Int) ∧ (∀ j, j ≠ 8 → τ 45 j = ρ 45 j) ∧ ∀ c, c ≠ 45 → c ≠ 52 → τ c = ρ c) := by
  intro fu
  induction fu with
  | zero => intros; omega
  | succ fu ih =>
    intro k τ hm h1 h2 h3
    refine ev_iload_n eX12_keeps_51 rfl ?_
    refine ev_bipush eX12_keeps_52 rfl ?_
    refine ev_icmp_ge 83 eX12_keeps_54 rfl (by omega) (by omega) (fun h54 => ?_) (fun h54 => ?_)
    · skip
      refine ev_aload_n eX12_keeps_83 rfl ?_
      refine ev_dup eX12_keeps_84 rfl ?_
      refine ev_getiv eX12_keeps_85 fX12_175 rfl (show τ 45 8 = (a : Int) by rw [h3 45 (by decide)]; exact hr) ?_
      refine ev_iconst eX12_keeps_88 ?_
      refine ev_iadd eX12_keeps_89 ?_
      refine ev_puti eX12_keeps_90 pX12_175 rfl ?_
      refine ev_ret eX12_keeps_93 rfl ?_
      refine ⟨rfl, fun q => ?_, ?_, fun j hj => ?_, fun c a1 a2 => ?_⟩
      · rw [up_o _ _ _ (by decide), h2 q, show k = 44 by omega]
      · rw [up_s]; rfl
      · rw [up_n _ _ hj, h3 45 (by decide)]
      · rw [up_o _ _ _ a1]; exact h3 c a2
    · skip
      refine ev_aload_n eX12_keeps_57 rfl ?_
      refine ev_getr eX12_keeps_58 fX12_28 rfl ?_
      refine ev_bipush eX12_keeps_61 rfl ?_
      refine ev_aload_n eX12_keeps_63 rfl ?_
      refine ev_getiv eX12_keeps_64 fX12_175 rfl (show τ 45 8 = (a : Int) by rw [h3 45 (by decide)]; exact hr) ?_
      refine ev_imul eX12_keeps_67 ?_
      refine ev_iload_n eX12_keeps_68 rfl ?_
      refine ev_iadd eX12_keeps_69 ?_
      refine ev_aload_n eX12_keeps_70 rfl ?_
      refine ev_getr eX12_keeps_71 fX12_19 rfl ?_
      refine ev_iload_n eX12_keeps_74 rfl ?_
      refine ev_ialdv (k) eX12_keeps_75 rfl (by first | rfl | omega) (by omega) (show τ 49 k = (B (pm k) : Int) by rw [h3 49 (by decide)]; exact hM k (by omega)) ?_
      refine ev_iast (((44 * a) + k)) eX12_keeps_76 rfl (by first | rfl | omega) (by omega) ?_
      refine ev_iinc eX12_keeps_77 rfl (by decide) ?_
      refine ev_goto 51 eX12_keeps_80 rfl ?_
      refine ih (k := k + 1) (by omega) (by omega) (fun q => ?_) (fun c hc => by rw [up_o _ _ _ hc]; exact h3 c hc)
      by_cases e : q = 44 * a + k
      · subst e
        rw [up_s, if_pos (by omega), show 44 * a + k - 44 * a = k by omega]
      · rw [up_n _ _ e, h2 q]
        by_cases e2 : 44 * a ≤ q ∧ q < 44 * a + k
        · rw [if_pos e2, if_pos (by omega)]
        · rw [if_neg e2, if_neg (by omega)]
set_option maxRecDepth 20000 in
theorem m_keeps_a {d : Nat} {σ : St} {B : Bok} (hM : MBk σ 49 B) {na : Nat} {Ac : Nat → Bok} (hA : MAc σ na Ac) (h24 : na = 24) : ∀ (fu : Nat) {k : Nat} {τ : St}, 1012 - k < fu → k ≤ 1012 → (∀ q, τ 52 q = if q < k then σ 52 (q + 44) else σ 52 q) → (∀ c, c ≠ 52 → τ c = σ c) → Ev (d) mX12_keeps 11 [.ref 45, vi k] [] τ (fun r τ => none = r ∧ MAc τ (naN na + 1) (acN na Ac B) ∧ (∀ j, j ≠ 8 → τ 45 j = σ 45 j) ∧ ∀ c, c ≠ 45 → c ≠ 52 → τ c = σ c) := by
  intro fu
  induction fu with
  | zero => intros; omega
  | succ fu ih =>
    intro k τ hm h1 h2 h3
    refine ev_iload_n eX12_keeps_11 rfl ?_
    refine ev_sipush eX12_keeps_12 rfl ?_
    refine ev_icmp_ge 39 eX12_keeps_15 rfl (by omega) (by omega) (fun h15 => ?_) (fun h15 => ?_)
    · skip
      refine ev_aload_n eX12_keeps_39 rfl ?_
      refine ev_dup eX12_keeps_40 rfl ?_
      refine ev_getiv eX12_keeps_41 fX12_175 rfl (show τ 45 8 = (24 : Int) by rw [h3 45 (by decide), hA.1, h24]; rfl) ?_
      refine ev_iconst eX12_keeps_44 ?_
      refine ev_isub eX12_keeps_45 ?_
      refine ev_puti eX12_keeps_46 pX12_175 rfl ?_
      refine ev_iconst eX12_keeps_49 ?_
      refine ev_istore_n eX12_keeps_50 (by decide) ?_
      subst h24
      refine ev_mono (fun r ν h => ?_) (m_keeps_b (ρ := up τ 45 8 (24 - 1)) (B := B) (fun j hj => by rw [up_o _ _ _ (by decide), h3 49 (by decide)]; exact hM j hj) (a := 23) (by omega) (by rw [up_s]; rfl) 45 (k := 0) (by omega) (by omega) (fun q => by rw [if_neg (by omega)]) (fun _ _ => rfl))
      obtain ⟨rfl, g1, g2, g3, g4⟩ := h
      have hac : acN 24 Ac B = fun k => if k = 23 then B else Ac (k + 1) := by
        funext k
        unfold acN
        rw [if_pos (show (24 : Nat) = 24 from rfl)]
        rfl
      rw [show naN 24 = 23 from rfl, hac]
      refine ⟨rfl, ?_, fun j hj => ?_, fun c a1 a2 => ?_⟩
      · exact mk_na (a := 23) (Ac := fun k => Ac (k + 1)) g1 g2 (by omega) (fun k hk j hj => by
          rw [up_o _ _ _ (by decide), h2, if_pos (by omega), show 44 * k + j + 44 = 44 * (k + 1) + j by omega]
          exact hA.2.2 (k + 1) (by omega) j hj)
      · rw [g3 j hj, up_n _ _ hj, h3 45 (by decide)]
      · rw [g4 c a1 a2, up_o _ _ _ a1, h3 c a2]
    · skip
      refine ev_aload_n eX12_keeps_18 rfl ?_
      refine ev_getr eX12_keeps_19 fX12_28 rfl ?_
      refine ev_iload_n eX12_keeps_22 rfl ?_
      refine ev_aload_n eX12_keeps_23 rfl ?_
      refine ev_getr eX12_keeps_24 fX12_28 rfl ?_
      refine ev_iload_n eX12_keeps_27 rfl ?_
      refine ev_bipush eX12_keeps_28 rfl ?_
      refine ev_iadd eX12_keeps_30 ?_
      refine ev_ialdv ((k + 44)) eX12_keeps_31 rfl (by first | rfl | omega) (by omega) (h2 _) ?_
      refine ev_iast (k) eX12_keeps_32 rfl (by first | rfl | omega) (by omega) ?_
      refine ev_iinc eX12_keeps_33 rfl (by decide) ?_
      refine ev_goto 11 eX12_keeps_36 rfl ?_
      rw [if_neg (by omega)]
      refine ih (k := k + 1) (by omega) (by omega) (fun q => ?_) (fun c hc => by rw [up_o _ _ _ hc]; exact h3 c hc)
      by_cases e : q = k
      · subst e
        rw [up_s, if_pos (by omega)]
      · rw [up_n _ _ e, h2 q]
        by_cases e2 : q < k
        · rw [if_pos e2, if_pos (by omega)]
        · rw [if_neg e2, if_neg (by omega)]
set_option maxRecDepth 20000 in
theorem m_keeps {d : Nat} {σ : St} {B : Bok} (hM : MBk σ 49 B) {na : Nat} {Ac : Nat → Bok} (hA : MAc σ na Ac)  : Ct (d) mX12_keeps [.ref 45] σ (fun r τ => none = r ∧ MAc τ (naN na + 1) (acN na Ac B) ∧ (∀ j, j ≠ 8 → τ 45 j = σ 45 j) ∧ ∀ c, c ≠ 45 → c ≠ 52 → τ c = σ c) := by
  refine ct_of hX12_keeps (Nat.le_of_ble_eq_true rfl) ?_
  have h24 := hA.2.1
  refine ev_aload_n eX12_keeps_0 rfl ?_
  refine ev_getiv eX12_keeps_1 fX12_175 rfl hA.1 ?_
  refine ev_bipush eX12_keeps_4 rfl ?_
  refine ev_icmp_ne 49 eX12_keeps_6 rfl (by omega) (by omega) (fun h6 => ?_) (fun h6 => ?_)
  · skip
    refine ev_iconst eX12_keeps_49 ?_
    refine ev_istore_n eX12_keeps_50 (by decide) ?_
    have hna : naN na = na := if_neg (by omega)
    have hac : acN na Ac B = fun k => if k = na then B else Ac k := by
      funext k
      unfold acN
      rw [hna, if_neg (show ¬ na = 24 by omega)]
    refine ev_mono (fun r ν h => ?_) (m_keeps_b (ρ := σ) (B := B) hM (a := na) (by omega) hA.1 45 (k := 0) (by omega) (by omega) (fun q => by rw [if_neg (by omega)]) (fun _ _ => rfl))
    obtain ⟨rfl, g1, g2, g3, g4⟩ := h
    rw [hna, hac]
    exact ⟨rfl, mk_na g1 g2 (by omega) (fun k hk j hj => hA.2.2 k hk j hj), g3, g4⟩
  · skip
    refine ev_iconst eX12_keeps_9 ?_
    refine ev_istore_n eX12_keeps_10 (by decide) ?_
    exact m_keeps_a hM hA (by omega) 1013 (k := 0) (by omega) (by omega) (fun q => by rw [if_neg (by omega)]) (fun _ _ => rfl)
set_option maxRecDepth 20000 in
theorem m_undo_l {d : Nat} {ρ : St} {a : Nat} {Ac : Nat → Bok} (ha : a < 24) (hr : ρ 45 8 = (a : Int)) (hA : ∀ j, j < 44 → ρ 52 (44 * a + j) = (Ac a (pm j) : Int)) : ∀ (fu : Nat) {k : Nat} {τ : St}, 44 - k < fu → k ≤ 44 → (∀ q, q < k → τ 49 q = (Ac a (pm q) : Int)) → (∀ c, c ≠ 49 → τ c = ρ c) → Ev (d) mX12_undo 22 [.ref 45, vi k] [] τ (fun r τ => some (vi a) = r ∧ (∀ q, q < 44 → τ 49 q = (Ac a (pm q) : Int)) ∧ ∀ c, c ≠ 49 → τ c = ρ c) := by
  intro fu
  induction fu with
  | zero => intros; omega
  | succ fu ih =>
    intro k τ hm h1 h2 h3
    refine ev_iload_n eX12_undo_22 rfl ?_
    refine ev_bipush eX12_undo_23 rfl ?_
    refine ev_icmp_ge 54 eX12_undo_25 rfl (by omega) (by omega) (fun h25 => ?_) (fun h25 => ?_)
    · skip
      refine ev_aload_n eX12_undo_54 rfl ?_
      refine ev_getiv eX12_undo_55 fX12_175 rfl (show τ 45 8 = (a : Int) by rw [h3 45 (by decide)]; exact hr) ?_
      refine ev_iret eX12_undo_58 rfl ?_
      exact ⟨rfl, fun q hq => h2 q (by omega), h3⟩
    · skip
      refine ev_aload_n eX12_undo_28 rfl ?_
      refine ev_getr eX12_undo_29 fX12_19 rfl ?_
      refine ev_iload_n eX12_undo_32 rfl ?_
      refine ev_aload_n eX12_undo_33 rfl ?_
      refine ev_getr eX12_undo_34 fX12_28 rfl ?_
      refine ev_bipush eX12_undo_37 rfl ?_
      refine ev_aload_n eX12_undo_39 rfl ?_
      refine ev_getiv eX12_undo_40 fX12_175 rfl (show τ 45 8 = (a : Int) by rw [h3 45 (by decide)]; exact hr) ?_
      refine ev_imul eX12_undo_43 ?_
      refine ev_iload_n eX12_undo_44 rfl ?_
      refine ev_iadd eX12_undo_45 ?_
      refine ev_ialdv (((44 * a) + k)) eX12_undo_46 rfl (by first | rfl | omega) (by omega) (show τ 52 (44 * a + k) = (Ac a (pm k) : Int) by rw [h3 52 (by decide)]; exact hA k (by omega)) ?_
      refine ev_iast (k) eX12_undo_47 rfl (by first | rfl | omega) (by omega) ?_
      refine ev_iinc eX12_undo_48 rfl (by decide) ?_
      refine ev_goto 22 eX12_undo_51 rfl ?_
      refine ih (k := k + 1) (by omega) (by omega) (fun q hq => ?_) (fun c hc => by rw [up_o _ _ _ hc]; exact h3 c hc)
      by_cases e : q = k
      · subst e; exact up_s _ _ _ _
      · rw [up_n _ _ e]; exact h2 q (by omega)
set_option maxRecDepth 20000 in
theorem m_undo {d : Nat} {σ : St} {na : Nat} {Ac : Nat → Bok} (hA : MAc σ na Ac)  : Ct (d) mX12_undo [.ref 45] σ (fun r τ => (na = 0 → some (vi (-1000002)) = r ∧ σ = τ) ∧ (1 ≤ na → some (vi ((na - 1 : Nat) : Int)) = r ∧ MBk τ 49 (Ac (na - 1)) ∧ τ 45 8 = ((na - 1 : Nat) : Int) ∧ (∀ j, j ≠ 8 → τ 45 j = σ 45 j) ∧ ∀ c, c ≠ 45 → c ≠ 49 → τ c = σ c)) := by
  refine ct_of hX12_undo (Nat.le_of_ble_eq_true rfl) ?_
  have h24 := hA.2.1
  refine ev_aload_n eX12_undo_0 rfl ?_
  refine ev_getiv eX12_undo_1 fX12_175 rfl hA.1 ?_
  refine ev_if_ne 10 eX12_undo_4 rfl (by omega) (fun h4 => ?_) (fun h4 => ?_)
  · skip
    refine ev_aload_n eX12_undo_10 rfl ?_
    refine ev_dup eX12_undo_11 rfl ?_
    refine ev_getiv eX12_undo_12 fX12_175 rfl hA.1 ?_
    refine ev_iconst eX12_undo_15 ?_
    refine ev_isub eX12_undo_16 ?_
    rw [show (na : Int) - 1 = ((na - 1 : Nat) : Int) by omega]
    refine ev_puti eX12_undo_17 pX12_175 rfl ?_
    refine ev_iconst eX12_undo_20 ?_
    refine ev_istore_n eX12_undo_21 (by decide) ?_
    refine ev_mono (fun r ν h => ?_) (m_undo_l (ρ := up σ 45 8 ((na - 1 : Nat) : Int)) (a := na - 1) (Ac := Ac) (by omega) (up_s _ _ _ _) (fun j hj => by rw [up_o _ _ _ (by decide)]; exact hA.2.2 (na - 1) (by omega) j hj) 45 (k := 0) (by omega) (by omega) (fun q hq => by omega) (fun _ _ => rfl))
    obtain ⟨rfl, g1, g2⟩ := h
    refine ⟨fun z => by omega, fun _ => ⟨rfl, g1, by rw [g2 45 (by decide), up_s], fun j hj => by rw [g2 45 (by decide), up_n _ _ hj], fun c a1 a2 => by rw [g2 c a2, up_o _ _ _ a1]⟩⟩
  · skip
    refine ev_ldc eX12_undo_7 qX12_178 ?_
    refine ev_iret eX12_undo_9 rfl ?_
    refine ⟨fun hc => ?_, fun hc => ?_⟩ <;> first | (exfalso; omega) | (exact ⟨rfl, rfl⟩)
set_option maxRecDepth 20000 in
theorem m_lacks {d : Nat} {σ : St} {la : Nat → Int} {sz : Nat → Nat} {it : Nat → Int} (hW : MRw σ la sz it) {q : Nat} (hq : q < 8) {n : Int} (hn : -2147483648 ≤ n ∧ n ≤ 2147483647) : Ct (d + 1) mX12_lacks [.ref 45, vi q, vi n] σ (fun r τ => (la q = -1 → some (vi (-1000010 - 1)) = r ∧ up σ 45 0 1 = τ) ∧ (la q ≠ -1 ∧ (sz q : Int) < n → some (vi (-1000010 - 2)) = r ∧ up σ 45 0 2 = τ) ∧ (la q ≠ -1 ∧ n ≤ (sz q : Int) → some (vi 0) = r ∧ up σ 45 0 0 = τ)) := by
  refine ct_of hX12_lacks (Nat.le_of_ble_eq_true rfl) ?_
  obtain ⟨k1, k2, k3, k4, k5⟩ := hW q hq
  refine ev_aload_n eX12_lacks_0 rfl ?_
  refine ev_iconst eX12_lacks_1 ?_
  refine ev_puti eX12_lacks_2 pX12_63 rfl ?_
  refine ev_aload_n eX12_lacks_5 rfl ?_
  refine ev_getr eX12_lacks_6 fX12_7 rfl ?_
  refine ev_iload_n eX12_lacks_9 rfl ?_
  refine ev_ialdv (q) eX12_lacks_10 rfl (by first | rfl | omega) (by omega) (show up σ 45 0 0 46 q = la q by rw [up_o _ _ _ (by decide)]; exact k1) ?_
  refine ev_if_ge 20 eX12_lacks_11 rfl (by omega) (fun h11 => ?_) (fun h11 => ?_)
  · skip
    refine ev_iload_n eX12_lacks_20 rfl ?_
    refine ev_aload_n eX12_lacks_21 rfl ?_
    refine ev_getr eX12_lacks_22 fX12_13 rfl ?_
    refine ev_iload_n eX12_lacks_25 rfl ?_
    refine ev_ialdv (q) eX12_lacks_26 rfl (by first | rfl | omega) (by omega) (show up σ 45 0 0 47 q = (sz q : Int) by rw [up_o _ _ _ (by decide)]; exact (k5 (by omega)).1) ?_
    refine ev_icmp_le 38 eX12_lacks_27 rfl (by omega) (by omega) (fun h27 => ?_) (fun h27 => ?_)
    · skip
      refine ev_iconst eX12_lacks_38 ?_
      refine ev_iret eX12_lacks_39 rfl ?_
      refine ⟨fun hc => ?_, fun hc => ?_, fun hc => ?_⟩ <;> first | (exfalso; omega) | (exact ⟨rfl, rfl⟩)
    · skip
      refine ev_aload_n eX12_lacks_30 rfl ?_
      refine ev_iconst eX12_lacks_31 ?_
      refine ev_cV1 eX12_lacks_32 ⟨lX12_81, kX12_finding⟩ rfl rfl m_finding ?_
      rintro _ _ ⟨rfl, rfl⟩
      refine ev_goto 39 eX12_lacks_35 rfl ?_
      refine ev_iret eX12_lacks_39 rfl ?_
      refine ⟨fun hc => ?_, fun hc => ?_, fun hc => ?_⟩ <;> first | (exfalso; omega) | (exact ⟨rfl, (up_up _ _ _ _ _).symm⟩)
  · skip
    refine ev_aload_n eX12_lacks_14 rfl ?_
    refine ev_iconst eX12_lacks_15 ?_
    refine ev_cV1 eX12_lacks_16 ⟨lX12_81, kX12_finding⟩ rfl rfl m_finding ?_
    rintro _ _ ⟨rfl, rfl⟩
    refine ev_iret eX12_lacks_19 rfl ?_
    refine ⟨fun hc => ?_, fun hc => ?_, fun hc => ?_⟩ <;> first | (exfalso; omega) | (exact ⟨rfl, (up_up _ _ _ _ _).symm⟩)
def LtQ (it : Nat → Int) (B : Bok) (q k : Nat) : Prop := ∀ i, i < k → 0 ≤ it (q * 40 + i) ∧ it (q * 40 + i) < B 2
theorem LtQ_s {it : Nat → Int} {B : Bok} {q k : Nat} (h : LtQ it B q k) (h2 : 0 ≤ it (q * 40 + k) ∧ it (q * 40 + k) < B 2) : LtQ it B q (k + 1) := fun i hi => by
  by_cases e : i = k
  · subst e; exact h2
  · exact h i (by omega)
theorem lq_1 {la : Nat → Int} {sz : Nat → Nat} {it : Nat → Int} {B : Bok} {q n : Nat} (h : la q = -1) : lfn la sz it B q n = 1 := if_pos h
theorem lq_0 {la : Nat → Int} {sz : Nat → Nat} {it : Nat → Int} {B : Bok} {q n : Nat} (h : la q ≠ -1) (h1 : n ≤ sz q) (h2 : LtQ it B q n) : lfn la sz it B q n = 0 := by unfold lfn; rw [if_neg h, if_pos ⟨h1, h2⟩]
theorem lq_2 {la : Nat → Int} {sz : Nat → Nat} {it : Nat → Int} {B : Bok} {q n : Nat} (h : la q ≠ -1) (h1 : ¬ (n ≤ sz q ∧ LtQ it B q n)) : lfn la sz it B q n = 2 := by unfold lfn; rw [if_neg h]; exact if_neg h1
set_option maxRecDepth 20000 in
theorem m_ll_l {d : Nat} {σ : St} {B : Bok} (hM : MBk σ 49 B) (hZ : Wf B) {la : Nat → Int} {sz : Nat → Nat} {it : Nat → Int} (hW : MRw σ la sz it) {q n : Nat} (hq : q < 8) (hl : la q ≠ -1) (hn : n ≤ sz q) : ∀ (fu : Nat) {k : Nat} {a : Int}, n - k < fu → k ≤ n → a = bC (LtQ it B q k) → Ev (d + 2) mX12_lacksLetters 13 [.ref 45, vi q, vi n, vi 0, vi a, vi k] [] (up σ 45 0 0) (fun r τ => (lfn la sz it B q n ≠ 0 → some (vi (-1000010 - lfn la sz it B q n)) = r ∧ up σ 45 0 (lfn la sz it B q n) = τ) ∧ (lfn la sz it B q n = 0 → some (vi 0) = r ∧ up σ 45 0 0 = τ)) := by
  intro fu
  induction fu with
  | zero => intros; omega
  | succ fu ih =>
    intro k a hm h1 ha
    subst ha
    obtain ⟨k1, k2, k3, k4, k5⟩ := hW q hq
    have k5 := k5 hl
    refine ev_iload eX12_lacksLetters_13 rfl ?_
    refine ev_iload_n eX12_lacksLetters_15 rfl ?_
    refine ev_icmp_ge 60 eX12_lacksLetters_16 rfl (by omega) (by omega) (fun h16 => ?_) (fun h16 => ?_)
    · skip
      refine ev_iload eX12_lacksLetters_60 rfl ?_
      refine ev_ifb_eq 69 eX12_lacksLetters_62 rfl (fun h62 => ?_) (fun h62 => ?_)
      · skip
        refine ev_aload_n eX12_lacksLetters_69 rfl ?_
        refine ev_iconst eX12_lacksLetters_70 ?_
        refine ev_cV1 eX12_lacksLetters_71 ⟨lX12_81, kX12_finding⟩ rfl rfl m_finding ?_
        rintro _ _ ⟨rfl, rfl⟩
        refine ev_iret eX12_lacksLetters_74 rfl ?_
        have e := lq_2 (B := B) (n := n) (it := it) (sz := sz) hl (fun z => h62 (show LtQ it B q k by rw [show k = n by omega]; exact z.2))
        rw [e]
        exact ⟨fun _ => ⟨rfl, (up_up _ _ _ _ _).symm⟩, fun z => absurd z (by decide)⟩
      · skip
        refine ev_iload_n eX12_lacksLetters_65 rfl ?_
        refine ev_goto 74 eX12_lacksLetters_66 rfl ?_
        refine ev_iret eX12_lacksLetters_74 rfl ?_
        have e := lq_0 (B := B) (n := n) hl hn (show LtQ it B q n by rw [show n = k by omega]; exact h62)
        rw [e]
        exact ⟨fun z => absurd rfl z, fun _ => ⟨rfl, rfl⟩⟩
    · skip
      refine ev_iload_n eX12_lacksLetters_19 rfl ?_
      refine ev_if_ne 60 eX12_lacksLetters_20 rfl (by omega) (fun h20 => False.elim (by omega)) (fun h20 => ?_)
      refine ev_iload eX12_lacksLetters_23 rfl ?_
      refine ev_ifb_eq 51 eX12_lacksLetters_25 rfl (fun h25 => ?_) (fun h25 => ?_)
      · skip
        refine ev_iconst eX12_lacksLetters_51 ?_
        refine ev_istore eX12_lacksLetters_52 (by decide) ?_
        refine ev_iinc eX12_lacksLetters_54 rfl (by decide) ?_
        refine ev_goto 13 eX12_lacksLetters_57 rfl ?_
        first | (exact ih (k := k + 1) (by omega) (by omega) (bI_t (LtQ_s h25 h44)).symm) | (exact ih (k := k + 1) (by omega) (by omega) (bI_f (fun z => h25 (fun i hi => z i (by omega)))).symm) | (exact ih (k := k + 1) (by omega) (by omega) (bI_f (fun z => h44 (z k (by omega)))).symm)
      · skip
        refine ev_aload_n eX12_lacksLetters_28 rfl ?_
        refine ev_aload_n eX12_lacksLetters_29 rfl ?_
        refine ev_getr eX12_lacksLetters_30 fX12_16 rfl ?_
        refine ev_bipush eX12_lacksLetters_33 rfl ?_
        refine ev_iload_n eX12_lacksLetters_35 rfl ?_
        refine ev_imul eX12_lacksLetters_36 ?_
        refine ev_iload eX12_lacksLetters_37 rfl ?_
        refine ev_iadd eX12_lacksLetters_39 ?_
        refine ev_ialdv (((40 * q) + k)) eX12_lacksLetters_40 rfl (by first | rfl | omega) (by omega) (show up σ 45 0 0 48 (40 * q + k) = it (q * 40 + k) by rw [up_o _ _ _ (by decide)]; exact (k5.2 k (by omega)).1) ?_
        refine ev_cV1 eX12_lacksLetters_41 ⟨lX12_182, kX12_isSort⟩ rfl rfl (m_isSort (B := B) (fun j hj => by rw [up_o _ _ _ (by decide)]; exact hM j hj) hZ (x := it (q * 40 + k)) (k5.2 k (by omega)).2) ?_
        rintro _ _ ⟨rfl, rfl⟩
        refine ev_ifb_eq 51 eX12_lacksLetters_44 rfl (fun h44 => ?_) (fun h44 => ?_)
        · skip
          refine ev_iconst eX12_lacksLetters_51 ?_
          refine ev_istore eX12_lacksLetters_52 (by decide) ?_
          refine ev_iinc eX12_lacksLetters_54 rfl (by decide) ?_
          refine ev_goto 13 eX12_lacksLetters_57 rfl ?_
          first | (exact ih (k := k + 1) (by omega) (by omega) (bI_t (LtQ_s h25 h44)).symm) | (exact ih (k := k + 1) (by omega) (by omega) (bI_f (fun z => h25 (fun i hi => z i (by omega)))).symm) | (exact ih (k := k + 1) (by omega) (by omega) (bI_f (fun z => h44 (z k (by omega)))).symm)
        · skip
          refine ev_iconst eX12_lacksLetters_47 ?_
          refine ev_goto 52 eX12_lacksLetters_48 rfl ?_
          refine ev_istore eX12_lacksLetters_52 (by decide) ?_
          refine ev_iinc eX12_lacksLetters_54 rfl (by decide) ?_
          refine ev_goto 13 eX12_lacksLetters_57 rfl ?_
          first | (exact ih (k := k + 1) (by omega) (by omega) (bI_t (LtQ_s h25 h44)).symm) | (exact ih (k := k + 1) (by omega) (by omega) (bI_f (fun z => h25 (fun i hi => z i (by omega)))).symm) | (exact ih (k := k + 1) (by omega) (by omega) (bI_f (fun z => h44 (z k (by omega)))).symm)
set_option maxRecDepth 20000 in
theorem m_ll_x {d : Nat} {σ τ : St} {q n : Nat} {x f : Int} (hf : f ≠ 0) (hx : -1000010 - f = x) (hr : 0 < f ∧ f < 100) (hn : n ≤ 40) : Ev (d + 2) mX12_lacksLetters 6 [.ref 45, vi q, vi n, .null, .null, .null] [vi x] τ (fun r ν => (f ≠ 0 → some (vi (-1000010 - f)) = r ∧ τ = ν) ∧ (f = 0 → some (vi 0) = r ∧ up σ 45 0 0 = ν)) := by
  refine ev_istore_n eX12_lacksLetters_6 (by decide) ?_
  refine ev_iconst eX12_lacksLetters_7 ?_
  refine ev_istore eX12_lacksLetters_8 (by decide) ?_
  refine ev_iconst eX12_lacksLetters_10 ?_
  refine ev_istore eX12_lacksLetters_11 (by decide) ?_
  refine ev_iload eX12_lacksLetters_13 rfl ?_
  refine ev_iload_n eX12_lacksLetters_15 rfl ?_
  refine ev_icmp_ge 60 eX12_lacksLetters_16 rfl (by omega) (by omega) (fun h16 => ?_) (fun h16 => ?_)
  · skip
    refine ev_iload eX12_lacksLetters_60 rfl ?_
    refine ev_if_eq 69 eX12_lacksLetters_62 rfl (by omega) (fun h62 => False.elim (by omega)) (fun h62 => ?_)
    refine ev_iload_n eX12_lacksLetters_65 rfl ?_
    refine ev_goto 74 eX12_lacksLetters_66 rfl ?_
    refine ev_iret eX12_lacksLetters_74 rfl ?_
    subst hx
    exact ⟨fun _ => ⟨rfl, rfl⟩, fun z => absurd z hf⟩
  · skip
    refine ev_iload_n eX12_lacksLetters_19 rfl ?_
    refine ev_if_ne 60 eX12_lacksLetters_20 rfl (by omega) (fun h20 => ?_) (fun h20 => False.elim (by omega))
    refine ev_iload eX12_lacksLetters_60 rfl ?_
    refine ev_if_eq 69 eX12_lacksLetters_62 rfl (by omega) (fun h62 => False.elim (by omega)) (fun h62 => ?_)
    refine ev_iload_n eX12_lacksLetters_65 rfl ?_
    refine ev_goto 74 eX12_lacksLetters_66 rfl ?_
    refine ev_iret eX12_lacksLetters_74 rfl ?_
    subst hx
    exact ⟨fun _ => ⟨rfl, rfl⟩, fun z => absurd z hf⟩
set_option maxRecDepth 20000 in
theorem m_lacksLetters {d : Nat} {σ : St} {B : Bok} (hM : MBk σ 49 B) (hZ : Wf B) {la : Nat → Int} {sz : Nat → Nat} {it : Nat → Int} (hW : MRw σ la sz it) {q n : Nat} (hq : q < 8) (hn : n ≤ 40) : Ct (d + 2) mX12_lacksLetters [.ref 45, vi q, vi n] σ (fun r τ => (lfn la sz it B q n ≠ 0 → some (vi (-1000010 - lfn la sz it B q n)) = r ∧ up σ 45 0 (lfn la sz it B q n) = τ) ∧ (lfn la sz it B q n = 0 → some (vi 0) = r ∧ up σ 45 0 0 = τ)) := by
  refine ct_of hX12_lacksLetters (Nat.le_of_ble_eq_true rfl) ?_
  refine ev_aload_n eX12_lacksLetters_0 rfl ?_
  refine ev_iload_n eX12_lacksLetters_1 rfl ?_
  refine ev_iload_n eX12_lacksLetters_2 rfl ?_
  refine ev_cV2 eX12_lacksLetters_3 ⟨lX12_179, kX12_lacks⟩ rfl rfl (m_lacks hW hq (n := (n : Int)) (by omega)) ?_
  rintro r τ ⟨g1, g2, g3⟩
  obtain ⟨k1, k2, k3, k4, k5⟩ := hW q hq
  by_cases e1 : la q = -1
  · obtain ⟨rfl, rfl⟩ := g1 e1
    have e := lq_1 (sz := sz) (it := it) (B := B) (n := n) e1
    rw [e]
    exact m_ll_x (by omega) (by omega) (by omega) hn
  by_cases e2 : (sz q : Int) < n
  · obtain ⟨rfl, rfl⟩ := g2 ⟨e1, e2⟩
    have e := lq_2 (sz := sz) (it := it) (B := B) (n := n) e1 (fun z => by omega)
    rw [e]
    exact m_ll_x (by omega) (by omega) (by omega) hn
  obtain ⟨rfl, rfl⟩ := g3 ⟨e1, by omega⟩
  refine ev_istore_n eX12_lacksLetters_6 (by decide) ?_
  refine ev_iconst eX12_lacksLetters_7 ?_
  refine ev_istore eX12_lacksLetters_8 (by decide) ?_
  refine ev_iconst eX12_lacksLetters_10 ?_
  refine ev_istore eX12_lacksLetters_11 (by decide) ?_
  exact m_ll_l hM hZ hW hq e1 (by omega) (n + 1) (k := 0) (by omega) (by omega) (bI_t (fun i hi => by omega)).symm
