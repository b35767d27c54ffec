/-! InflatedRows: who -/
/-- the row grown tells m items of a row -/
def tls (B : Bok) (it : Nat → Int) (n q m : Nat) : Prop := (Gr B n).length ≤ 300 ∧ m ≤ (Gr B n).length ∧ ∀ i, i < m → ((Gr B n).getD i 0 : Int) = it (q * 40 + i)
def whJ (s x e : Nat) : Nat := if e = 0 then 4 + s else if e = 1 then 36 + x else 20 + 4 * s + x
noncomputable def whF (B : Bok) (it : Nat → Int) (s x e n q m : Nat) : Nat → Nat → Nat
  | 0, _ => 0
  | k + 1, lo => @ite _ (tls (upB B (whJ s x e) (lo + k)) it n q m) (Classical.propDecidable _) (whF B it s x e n q m k lo ||| 2 ^ (lo + k)) (whF B it s x e n q m k lo)
theorem whF_t {B : Bok} {it : Nat → Int} {s x e n q m k lo : Nat} (h : tls (upB B (whJ s x e) (lo + k)) it n q m) : whF B it s x e n q m (k + 1) lo = whF B it s x e n q m k lo ||| 2 ^ (lo + k) := if_pos h
theorem whF_f {B : Bok} {it : Nat → Int} {s x e n q m k lo : Nat} (h : ¬ tls (upB B (whJ s x e) (lo + k)) it n q m) : whF B it s x e n q m (k + 1) lo = whF B it s x e n q m k lo := if_neg h
theorem whF_lt (B : Bok) (it : Nat → Int) (s x e n q m : Nat) : ∀ k lo, lo + k ≤ 6 → whF B it s x e n q m k lo < 64
  | 0, _, _ => by show 0 < 64; decide
  | k + 1, lo, h => by
    have h1 := whF_lt B it s x e n q m k lo (by omega)
    by_cases h2 : tls (upB B (whJ s x e) (lo + k)) it n q m
    · rw [whF_t h2]; exact Nat.or_lt_two_pow (n := 6) h1 (p2_lt (by omega))
    · rw [whF_f h2]; exact h1
theorem Ok_kind {B : Bok} (h : Ok B) {s v : Nat} (hs : s < 4) (hv : 1 ≤ v) (hv5 : v ≤ 5) : Ok (upB B (4 + s) v) := by
  obtain ⟨⟨w1, w2, w3, w4, w5, w6, w7, w8, w9, w10⟩, o1, o2, o3, o4⟩ := h
  have e2 : upB B (4 + s) v 2 = B 2 := upB_n _ _ (by omega)
  have e3 : upB B (4 + s) v 3 = B 3 := upB_n _ _ (by omega)
  have eb : ∀ q, bk (upB B (4 + s) v) q = if q = s then v else bk B q := fun q => by
    unfold bk upB
    by_cases e : q = s
    · rw [if_pos e, if_pos (by omega)]
    · rw [if_neg e, if_neg (by omega)]
  have ew : ∀ q, q < 4 → ws (upB B (4 + s) v) q = ws B q := fun q hq => upB_n _ _ (by omega)
  have ed : ∀ q j, q < 4 → j < 4 → wd (upB B (4 + s) v) q j = wd B q j := fun q j hq hj => upB_n _ _ (by omega)
  have er : ∀ q, rw_ (upB B (4 + s) v) q = rw_ B q := fun q => upB_n _ _ (by omega)
  refine ⟨⟨fun j hj => ?_, by rw [e2]; exact w2, by rw [e3]; exact w3, fun q hq => by rw [ew q hq]; exact w4 q hq, fun q hq => ?_, fun q e hq he => ?_, ?_, ?_, fun q j hq hj => by rw [ed q j hq hj]; exact w9 q j hq hj, fun q hq => by rw [er]; exact w10 q hq⟩, by rw [e2]; exact o1, by rw [e3]; exact o2, fun q hq => ?_, fun q hq => ?_⟩
  · unfold upB
    split
    · omega
    · exact w1 j hj
  · rw [eb]
    split
    · exact hv5
    · exact w5 q hq
  · have : pt (upB B (4 + s) v) q e = pt B q e := upB_n _ _ (by omega)
    rw [this]; exact w6 q e hq he
  · rw [upB_n _ _ (by omega)]; exact w7
  · rw [upB_n _ _ (by omega)]; exact w8
  · rw [e3] at hq
    rw [e2, er]
    exact o3 q hq
  · rw [e2] at hq
    have hq4 : q < 4 := by omega
    obtain ⟨a1, a2, a3⟩ := o4 q hq
    rw [eb, ew q hq4, e2]
    refine ⟨?_, a2, fun j hj => by rw [ed q j hq4 (by have := w4 q hq4; omega)]; exact a3 j hj⟩
    split
    · exact hv
    · exact a1
theorem Ok_word {B : Bok} (h : Ok B) {s i v : Nat} (hs : s < 4) (hi : i < 4) (hv : v < B 2) : Ok (upB B (20 + 4 * s + i) v) := by
  obtain ⟨⟨w1, w2, w3, w4, w5, w6, w7, w8, w9, w10⟩, o1, o2, o3, o4⟩ := h
  have e2 : upB B (20 + 4 * s + i) v 2 = B 2 := upB_n _ _ (by omega)
  have e3 : upB B (20 + 4 * s + i) v 3 = B 3 := upB_n _ _ (by omega)
  have eb : ∀ q, q < 4 → bk (upB B (20 + 4 * s + i) v) q = bk B q := fun q hq => upB_n _ _ (by omega)
  have ew : ∀ q, q < 4 → ws (upB B (20 + 4 * s + i) v) q = ws B q := fun q hq => upB_n _ _ (by omega)
  have ed : ∀ q j, q < 4 → j < 4 → wd (upB B (20 + 4 * s + i) v) q j = if q = s ∧ j = i then v else wd B q j := fun q j hq hj => by
    unfold wd upB
    by_cases e : q = s ∧ j = i
    · rw [if_pos e, if_pos (by omega)]
    · rw [if_neg e, if_neg (by omega)]
  have er : ∀ q, q < 8 → rw_ (upB B (20 + 4 * s + i) v) q = rw_ B q := fun q hq => upB_n _ _ (by omega)
  refine ⟨⟨fun j hj => ?_, by rw [e2]; exact w2, by rw [e3]; exact w3, fun q hq => by rw [ew q hq]; exact w4 q hq, fun q hq => by rw [eb q hq]; exact w5 q hq, fun q e hq he => ?_, ?_, ?_, fun q j hq hj => ?_, fun q hq => by rw [er q hq]; exact w10 q hq⟩, by rw [e2]; exact o1, by rw [e3]; exact o2, fun q hq => ?_, fun q hq => ?_⟩
  · unfold upB
    split
    · omega
    · exact w1 j hj
  · have : pt (upB B (20 + 4 * s + i) v) q e = pt B q e := upB_n _ _ (by omega)
    rw [this]; exact w6 q e hq he
  · rw [upB_n _ _ (by omega)]; exact w7
  · rw [upB_n _ _ (by omega)]; exact w8
  · rw [ed q j hq hj]
    split
    · omega
    · exact w9 q j hq hj
  · rw [e3] at hq
    rw [e2, er q (by omega)]
    exact o3 q hq
  · rw [e2] at hq
    have hq4 : q < 4 := by omega
    obtain ⟨a1, a2, a3⟩ := o4 q hq
    rw [eb q hq4, ew q hq4, e2]
    refine ⟨a1, a2, fun j hj => ?_⟩
    rw [ed q j hq4 (by have := w4 q hq4; omega)]
    split
    · exact hv
    · exact a3 j hj
theorem Ok_wh {B : Bok} (h : Ok B) {s x e v : Nat} (hs : s < B 2) (he : e < 3) (hx : (e = 1 → x < B 3) ∧ (e = 2 → x < ws B s)) (hv : (e = 0 → 1 ≤ v ∧ v ≤ 5) ∧ (e ≠ 0 → v < B 2)) : Ok (upB B (whJ s x e) v) := by
  have h4 := h.1.2.1
  unfold whJ
  rcases (show e = 0 ∨ e = 1 ∨ e = 2 by omega) with rfl | rfl | rfl
  · exact Ok_kind h (by omega) (hv.1 rfl).1 (hv.1 rfl).2
  · exact Ok_row h (by have := hx.1 rfl; have := h.1.2.2.1; omega) (hv.2 (by decide))
  · exact Ok_word h (by omega) (by have := hx.2 rfl; have := h.1.2.2.2.1 s (by omega); omega) (hv.2 (by decide))
set_option maxRecDepth 20000 in
theorem c_tt_l {d : Nat} {σ : St} {B : Bok} (hO : Ok B) {it : Nat → Int} {n q m : Nat} (hn : n ≤ 6) (hq : q < 8) (hm : m ≤ 40) (hit : ∀ i, i < m → σ 12 (q * 40 + i) = it (q * 40 + i) ∧ R32 (it (q * 40 + i))) (hG : Grw σ B n) (hml : m ≤ (Gr B n).length) : ∀ (fu : Nat) {i : Nat}, m - i < fu → i ≤ m → (∀ z, z < i → ((Gr B n).getD z 0 : Int) = it (q * 40 + z)) → Ev (d + 1) mX11_trialTells 32 [.ref 0, vi n, vi q, vi m, vi i] [] σ (rt (vi (bC (tls B it n q m))) σ) := by
  intro fu
  induction fu with
  | zero => intros; omega
  | succ fu ih =>
    intro i hf h1 h2
    have hgle := grw_le hG
    refine ev_iload eX11_trialTells_32 rfl ?_
    refine ev_iload_n eX11_trialTells_34 rfl ?_
    refine ev_icmp_ge 69 eX11_trialTells_35 rfl (by omega) (by omega) (fun h35 => ?_) (fun h35 => ?_)
    · skip
      refine ev_iconst eX11_trialTells_69 ?_
      refine ev_zret eX11_trialTells_70 rfl (by first | exact Or.inl rfl | exact Or.inr rfl | exact bI01 _) ?_
      exact ⟨congrArg (fun q => some (vi q)) (bI_t ⟨grw_le hG, hml, fun z hz => h2 z (by omega)⟩), rfl⟩
    · skip
      refine ev_aload_n eX11_trialTells_38 rfl ?_
      refine ev_getr eX11_trialTells_39 fX11_46 rfl ?_
      refine ev_iload_n eX11_trialTells_42 rfl ?_
      refine ev_iload eX11_trialTells_43 rfl ?_
      refine ev_cV2 eX11_trialTells_45 ⟨lX11_229, kX3_letterAt⟩ rfl rfl (c_letterAt (k := n) (i := i) (by omega) (by omega)) ?_
      rintro _ _ ⟨rfl, rfl⟩
      rw [grw_at hG (by omega)]
      have hgl := Gr_lt hO n ((Gr B n).getD i 0) (by rw [List.getD_eq_getElem?_getD, List.getElem?_eq_getElem (show i < (Gr B n).length by omega)]; exact List.getElem_mem _)
      have h4 := hO.1.2.1
      refine ev_aload_n eX11_trialTells_48 rfl ?_
      refine ev_getr eX11_trialTells_49 fX11_10 rfl ?_
      refine ev_iload_n eX11_trialTells_52 rfl ?_
      refine ev_iload eX11_trialTells_53 rfl ?_
      refine ev_cV2 eX11_trialTells_55 ⟨lX11_178, kX8_item⟩ rfl rfl (c_item (r := q) (i := i) hq (by omega)) ?_
      rintro _ _ ⟨rfl, rfl⟩
      rw [(hit i (by omega)).1]
      have hr := (hit i (by omega)).2
      unfold R32 at hr
      refine ev_icmp_eq 63 eX11_trialTells_58 rfl (by omega) (by omega) (fun h58 => ?_) (fun h58 => ?_)
      · skip
        refine ev_iinc eX11_trialTells_63 rfl (by decide) ?_
        refine ev_goto 32 eX11_trialTells_66 rfl ?_
        refine ih (i := i + 1) (by omega) (by omega) (fun z hz => ?_)
        by_cases e : z = i
        · subst e; exact h58
        · exact h2 z (by omega)
      · skip
        refine ev_iconst eX11_trialTells_61 ?_
        refine ev_zret eX11_trialTells_62 rfl (by first | exact Or.inl rfl | exact Or.inr rfl | exact bI01 _) ?_
        exact ⟨congrArg (fun q => some (vi q)) (bI_f (fun z => h58 (z.2.2 i (by omega)))), rfl⟩
set_option maxRecDepth 20000 in
theorem c_tt {d : Nat} {σ : St} {B : Bok} (hB : BkC σ 17 B) (hO : Ok B) {it : Nat → Int} {n q m : Nat} (hn : n ≤ 6) (hq : q < 8) (hm : m ≤ 40) (hit : ∀ i, i < m → σ 12 (q * 40 + i) = it (q * 40 + i) ∧ R32 (it (q * 40 + i)))  : Ct (d + 4) mX11_trialTells [.ref 0, vi n, vi q, vi m] σ (fun r τ => some (vi (bC (tls B it n q m))) = r ∧ ∀ k, k < 23 ∨ 38 ≤ k → τ k = σ k) := by
  refine ct_of hX11_trialTells (Nat.le_of_ble_eq_true rfl) ?_
  refine ev_aload_n eX11_trialTells_0 rfl ?_
  refine ev_getr eX11_trialTells_1 fX11_46 rfl ?_
  refine ev_aload_n eX11_trialTells_4 rfl ?_
  refine ev_getr eX11_trialTells_5 fX11_30 rfl ?_
  refine ev_iload_n eX11_trialTells_8 rfl ?_
  refine ev_cV2 eX11_trialTells_9 ⟨lX11_222, kX3_grow⟩ rfl rfl (c_grow Bq4 hB hO (n := n) hn) ?_
  rintro _ ξ ⟨q0, ⟨rfl, q1⟩ | ⟨rfl, q1⟩⟩
  · skip
    refine ev_if_eq 27 eX11_trialTells_12 rfl (by omega) (fun h12 => False.elim (by omega)) (fun h12 => ?_)
    refine ev_aload_n eX11_trialTells_15 rfl ?_
    refine ev_getr eX11_trialTells_16 fX11_46 rfl ?_
    refine ev_iload_n eX11_trialTells_19 rfl ?_
    refine ev_cV1 eX11_trialTells_20 ⟨lX11_226, kX3_sizeAt⟩ rfl rfl (c_sizeAt (k := n) (by omega)) ?_
    rintro _ _ ⟨rfl, rfl⟩
    rw [grw_z q1]
    have hgle := grw_le q1
    refine ev_iload_n eX11_trialTells_23 rfl ?_
    refine ev_icmp_ge 29 eX11_trialTells_24 rfl (by omega) (by omega) (fun h24 => ?_) (fun h24 => ?_)
    · skip
      refine ev_iconst eX11_trialTells_29 ?_
      refine ev_istore eX11_trialTells_30 (by decide) ?_
      refine ev_mono (fun r τ h => ?_) (c_tt_l (σ := ξ) hO hn hq hm (fun i hi => by rw [q0 12 (by decide)]; exact hit i hi) q1 (by omega) 41 (i := 0) (by omega) (by omega) (fun z hz => by omega))
      obtain ⟨rfl, rfl⟩ := h
      exact ⟨rfl, q0⟩
    · skip
      refine ev_iconst eX11_trialTells_27 ?_
      refine ev_zret eX11_trialTells_28 rfl (by first | exact Or.inl rfl | exact Or.inr rfl | exact bI01 _) ?_
      exact ⟨congrArg (fun q => some (vi q)) (bI_f (fun z => by have := z.2.1; omega)), q0⟩
  · skip
    refine ev_if_eq 27 eX11_trialTells_12 rfl (by omega) (fun h12 => ?_) (fun h12 => False.elim (by omega))
    refine ev_iconst eX11_trialTells_27 ?_
    refine ev_zret eX11_trialTells_28 rfl (by first | exact Or.inl rfl | exact Or.inr rfl | exact bI01 _) ?_
    exact ⟨congrArg (fun q => some (vi q)) (bI_f (fun z => by have := z.1; omega)), q0⟩
set_option maxRecDepth 20000 in
theorem c_btt_l {d : Nat} {σ : St} {B : Bok} (hB : BkC σ 16 B) (hZ : OkZ B) (hO : Ok B) {it : Nat → Int} {s x e n q m lo hi : Nat} {xi : Int} (hs : s < B 2) (he : e < 3) (hx : (e = 1 → x < B 3) ∧ (e = 2 → x < ws B s)) (hlo : lo = if e = 0 then 1 else 0) (hhi : hi = if e = 0 then 5 else B 2 - 1) (hxi : e ≠ 0 → xi = (x : Int)) (hn : n ≤ 6) (hq : q < 8) (hm : m ≤ 40) (hit : ∀ i, i < m → σ 12 (q * 40 + i) = it (q * 40 + i) ∧ R32 (it (q * 40 + i)))  : ∀ (fu : Nat) {k : Nat} {τ : St}, hi + 1 - (lo + k) < fu → lo + k ≤ hi + 1 → (∃ v0, True ∧ BkC τ 17 (upB B (whJ s x e) v0)) → (∀ k, (k < 23 ∨ 38 ≤ k) → k ≠ 17 → τ k = σ k) → Ev (d + 5) mX11_bitsThatTell 48 [.ref 0, vi s, vi xi, vi e, vi n, vi q, vi m, vi lo, vi hi, vi (whF B it s x e n q m k lo), vi ((lo : Int) + (k : Int))] [] τ (fun r τ => some (vi (whF B it s x e n q m (hi + 1 - lo) lo)) = r ∧ (∀ k, (k < 23 ∨ 38 ≤ k) → k ≠ 17 → τ k = σ k)) := by
  intro fu
  induction fu with
  | zero => intros; omega
  | succ fu ih =>
    intro k τ hf0 h1 h3 h9
    have hf := hZ.wf
    have h7 := hf.2.1
    have h8 := hf.2.2.1
    have hlh : lo ≤ 1 ∧ hi ≤ 5 := by
      rcases (show e = 0 ∨ e ≠ 0 by omega) with z | z
      · rw [if_pos z] at hlo hhi; omega
      · rw [if_neg z] at hlo hhi; omega
    have hwl : whF B it s x e n q m k lo < 64 := whF_lt B it s x e n q m k lo (by omega)
    refine ev_iload eX11_bitsThatTell_48 rfl ?_
    refine ev_iload eX11_bitsThatTell_50 rfl ?_
    refine ev_icmp_gt 128 eX11_bitsThatTell_52 rfl (by omega) (by omega) (fun h52 => ?_) (fun h52 => ?_)
    · skip
      refine ev_iload eX11_bitsThatTell_128 rfl ?_
      refine ev_iret eX11_bitsThatTell_130 rfl ?_
      rw [show k = hi + 1 - lo by omega]
      exact ⟨rfl, h9⟩
    · skip
      have hvv : (e = 0 → 1 ≤ lo + k ∧ lo + k ≤ 5) ∧ (e ≠ 0 → lo + k < B 2) := by
        have h2' := hO.2.1
        rcases (show e = 0 ∨ e ≠ 0 by omega) with z | z
        · rw [if_pos z] at hlo hhi; omega
        · rw [if_neg z] at hlo hhi; omega
      rcases (show e = 0 ∨ e = 1 ∨ e = 2 by omega) with rfl | rfl | rfl
      · skip
        refine ev_iload_n eX11_bitsThatTell_55 rfl ?_
        refine ev_if_ne 69 eX11_bitsThatTell_56 rfl (by omega) (fun h56 => False.elim (by omega)) (fun h56 => ?_)
        refine ev_aload_n eX11_bitsThatTell_59 rfl ?_
        refine ev_getr eX11_bitsThatTell_60 fX11_30 rfl ?_
        refine ev_iload_n eX11_bitsThatTell_63 rfl ?_
        refine ev_iload eX11_bitsThatTell_64 rfl ?_
        refine ev_cV2 eX11_bitsThatTell_66 ⟨lX11_194, kX0_setKind⟩ rfl rfl (c_setKind Bq4 (s := s) (by omega)) ?_
        rintro _ _ ⟨rfl, rfl⟩
        refine ev_iload_n eX11_bitsThatTell_69 rfl ?_
        refine ev_iconst eX11_bitsThatTell_70 ?_
        refine ev_icmp_ne 84 eX11_bitsThatTell_71 rfl (by omega) (by omega) (fun h71 => ?_) (fun h71 => False.elim (by omega))
        refine ev_iload_n eX11_bitsThatTell_84 rfl ?_
        refine ev_iconst eX11_bitsThatTell_85 ?_
        refine ev_icmp_ne 100 eX11_bitsThatTell_86 rfl (by omega) (by omega) (fun h86 => ?_) (fun h86 => False.elim (by omega))
        have hB4 : BkC (up τ 17 (whJ s x 0) ((lo + k : Nat) : Int)) 17 (upB B (whJ s x 0) (lo + k)) := fun j hj => by
          obtain ⟨v0, -, hv0⟩ := h3
          by_cases e2 : j = whJ s x 0
          · subst e2; rw [upB_s]; exact up_s _ _ _ _
          · rw [upB_n _ _ e2, up_n _ _ e2, hv0 j hj, upB_n _ _ e2]
        have hO4 := Ok_wh hO hs he hx hvv
        have hfr : ∀ z, (z < 23 ∨ 38 ≤ z) → z ≠ 17 → up τ 17 (whJ s x 0) ((lo + k : Nat) : Int) z = σ z := fun z a1 a2 => by rw [up_o _ _ _ a2]; exact h9 z a1 a2
        rw [show up τ (4 + 13) (4 + s) ((lo : Int) + (k : Int)) = up τ 17 (whJ s x 0) ((lo + k : Nat) : Int) from rfl]
        refine ev_aload_n eX11_bitsThatTell_100 rfl ?_
        refine ev_iload eX11_bitsThatTell_101 rfl ?_
        refine ev_iload eX11_bitsThatTell_103 rfl ?_
        refine ev_iload eX11_bitsThatTell_105 rfl ?_
        refine ev_cV3 eX11_bitsThatTell_107 ⟨lX11_394, kX11_trialTells⟩ rfl rfl (c_tt (B := upB B (whJ s x 0) (lo + k)) hB4 hO4 (it := it) (n := n) (q := q) (m := m) hn hq hm (fun i hi => by rw [hfr 12 (by decide) (by decide)]; exact hit i hi)) ?_
        rintro _ χ ⟨rfl, g⟩
        refine ev_ifb_eq 122 eX11_bitsThatTell_110 rfl (fun h110 => ?_) (fun h110 => ?_)
        · skip
          refine ev_iinc eX11_bitsThatTell_122 rfl (by decide) ?_
          refine ev_goto 48 eX11_bitsThatTell_125 rfl ?_
          first | (rw [← whF_f h110]; exact ih (k := k + 1) (by omega) (by omega) ⟨lo + k, trivial, fun j hj => by rw [g 17 (by decide)]; exact hB4 j hj⟩ (fun z a1 a2 => by rw [g z a1]; exact hfr z a1 a2)) | (rw [← whF_t h110]; exact ih (k := k + 1) (by omega) (by omega) ⟨lo + k, trivial, fun j hj => by rw [g 17 (by decide)]; exact hB4 j hj⟩ (fun z a1 a2 => by rw [g z a1]; exact hfr z a1 a2))
        · skip
          refine ev_iload eX11_bitsThatTell_113 rfl ?_
          refine ev_iconst eX11_bitsThatTell_115 ?_
          refine ev_iload eX11_bitsThatTell_116 rfl ?_
          refine ev_ishl eX11_bitsThatTell_118 ?_
          refine ev_ior eX11_bitsThatTell_119 ?_
          rw [show iShl 1 ((lo : Int) + (k : Int)) = ((2 ^ (lo + k) : Nat) : Int) from sh1 (a := lo + k) (by omega), iOr_n (by omega) (p2_30 (by omega))]
          refine ev_istore eX11_bitsThatTell_120 (by decide) ?_
          refine ev_iinc eX11_bitsThatTell_122 rfl (by decide) ?_
          refine ev_goto 48 eX11_bitsThatTell_125 rfl ?_
          first | (rw [← whF_f h110]; exact ih (k := k + 1) (by omega) (by omega) ⟨lo + k, trivial, fun j hj => by rw [g 17 (by decide)]; exact hB4 j hj⟩ (fun z a1 a2 => by rw [g z a1]; exact hfr z a1 a2)) | (rw [← whF_t h110]; exact ih (k := k + 1) (by omega) (by omega) ⟨lo + k, trivial, fun j hj => by rw [g 17 (by decide)]; exact hB4 j hj⟩ (fun z a1 a2 => by rw [g z a1]; exact hfr z a1 a2))
      · skip
        obtain rfl := hxi (by decide)
        refine ev_iload_n eX11_bitsThatTell_55 rfl ?_
        refine ev_if_ne 69 eX11_bitsThatTell_56 rfl (by omega) (fun h56 => ?_) (fun h56 => False.elim (by omega))
        refine ev_iload_n eX11_bitsThatTell_69 rfl ?_
        refine ev_iconst eX11_bitsThatTell_70 ?_
        refine ev_icmp_ne 84 eX11_bitsThatTell_71 rfl (by omega) (by omega) (fun h71 => False.elim (by omega)) (fun h71 => ?_)
        refine ev_aload_n eX11_bitsThatTell_74 rfl ?_
        refine ev_getr eX11_bitsThatTell_75 fX11_30 rfl ?_
        refine ev_iload_n eX11_bitsThatTell_78 rfl ?_
        refine ev_iload eX11_bitsThatTell_79 rfl ?_
        refine ev_cV2 eX11_bitsThatTell_81 ⟨lX11_388, kX0_setRowLetter⟩ rfl rfl (c_setRowLetter Bq4 (i := x) (by have := hx.1 rfl; omega)) ?_
        rintro _ _ ⟨rfl, rfl⟩
        refine ev_iload_n eX11_bitsThatTell_84 rfl ?_
        refine ev_iconst eX11_bitsThatTell_85 ?_
        refine ev_icmp_ne 100 eX11_bitsThatTell_86 rfl (by omega) (by omega) (fun h86 => ?_) (fun h86 => False.elim (by omega))
        have hB4 : BkC (up τ 17 (whJ s x 1) ((lo + k : Nat) : Int)) 17 (upB B (whJ s x 1) (lo + k)) := fun j hj => by
          obtain ⟨v0, -, hv0⟩ := h3
          by_cases e2 : j = whJ s x 1
          · subst e2; rw [upB_s]; exact up_s _ _ _ _
          · rw [upB_n _ _ e2, up_n _ _ e2, hv0 j hj, upB_n _ _ e2]
        have hO4 := Ok_wh hO hs he hx hvv
        have hfr : ∀ z, (z < 23 ∨ 38 ≤ z) → z ≠ 17 → up τ 17 (whJ s x 1) ((lo + k : Nat) : Int) z = σ z := fun z a1 a2 => by rw [up_o _ _ _ a2]; exact h9 z a1 a2
        rw [show up τ (4 + 13) (36 + x) ((lo : Int) + (k : Int)) = up τ 17 (whJ s x 1) ((lo + k : Nat) : Int) from rfl]
        refine ev_aload_n eX11_bitsThatTell_100 rfl ?_
        refine ev_iload eX11_bitsThatTell_101 rfl ?_
        refine ev_iload eX11_bitsThatTell_103 rfl ?_
        refine ev_iload eX11_bitsThatTell_105 rfl ?_
        refine ev_cV3 eX11_bitsThatTell_107 ⟨lX11_394, kX11_trialTells⟩ rfl rfl (c_tt (B := upB B (whJ s x 1) (lo + k)) hB4 hO4 (it := it) (n := n) (q := q) (m := m) hn hq hm (fun i hi => by rw [hfr 12 (by decide) (by decide)]; exact hit i hi)) ?_
        rintro _ χ ⟨rfl, g⟩
        refine ev_ifb_eq 122 eX11_bitsThatTell_110 rfl (fun h110 => ?_) (fun h110 => ?_)
        · skip
          refine ev_iinc eX11_bitsThatTell_122 rfl (by decide) ?_
          refine ev_goto 48 eX11_bitsThatTell_125 rfl ?_
          first | (rw [← whF_f h110]; exact ih (k := k + 1) (by omega) (by omega) ⟨lo + k, trivial, fun j hj => by rw [g 17 (by decide)]; exact hB4 j hj⟩ (fun z a1 a2 => by rw [g z a1]; exact hfr z a1 a2)) | (rw [← whF_t h110]; exact ih (k := k + 1) (by omega) (by omega) ⟨lo + k, trivial, fun j hj => by rw [g 17 (by decide)]; exact hB4 j hj⟩ (fun z a1 a2 => by rw [g z a1]; exact hfr z a1 a2))
        · skip
          refine ev_iload eX11_bitsThatTell_113 rfl ?_
          refine ev_iconst eX11_bitsThatTell_115 ?_
          refine ev_iload eX11_bitsThatTell_116 rfl ?_
          refine ev_ishl eX11_bitsThatTell_118 ?_
          refine ev_ior eX11_bitsThatTell_119 ?_
          rw [show iShl 1 ((lo : Int) + (k : Int)) = ((2 ^ (lo + k) : Nat) : Int) from sh1 (a := lo + k) (by omega), iOr_n (by omega) (p2_30 (by omega))]
          refine ev_istore eX11_bitsThatTell_120 (by decide) ?_
          refine ev_iinc eX11_bitsThatTell_122 rfl (by decide) ?_
          refine ev_goto 48 eX11_bitsThatTell_125 rfl ?_
          first | (rw [← whF_f h110]; exact ih (k := k + 1) (by omega) (by omega) ⟨lo + k, trivial, fun j hj => by rw [g 17 (by decide)]; exact hB4 j hj⟩ (fun z a1 a2 => by rw [g z a1]; exact hfr z a1 a2)) | (rw [← whF_t h110]; exact ih (k := k + 1) (by omega) (by omega) ⟨lo + k, trivial, fun j hj => by rw [g 17 (by decide)]; exact hB4 j hj⟩ (fun z a1 a2 => by rw [g z a1]; exact hfr z a1 a2))
      · skip
        obtain rfl := hxi (by decide)
        refine ev_iload_n eX11_bitsThatTell_55 rfl ?_
        refine ev_if_ne 69 eX11_bitsThatTell_56 rfl (by omega) (fun h56 => ?_) (fun h56 => False.elim (by omega))
        refine ev_iload_n eX11_bitsThatTell_69 rfl ?_
        refine ev_iconst eX11_bitsThatTell_70 ?_
        refine ev_icmp_ne 84 eX11_bitsThatTell_71 rfl (by omega) (by omega) (fun h71 => ?_) (fun h71 => False.elim (by omega))
        refine ev_iload_n eX11_bitsThatTell_84 rfl ?_
        refine ev_iconst eX11_bitsThatTell_85 ?_
        refine ev_icmp_ne 100 eX11_bitsThatTell_86 rfl (by omega) (by omega) (fun h86 => False.elim (by omega)) (fun h86 => ?_)
        refine ev_aload_n eX11_bitsThatTell_89 rfl ?_
        refine ev_getr eX11_bitsThatTell_90 fX11_30 rfl ?_
        refine ev_iload_n eX11_bitsThatTell_93 rfl ?_
        refine ev_iload_n eX11_bitsThatTell_94 rfl ?_
        refine ev_iload eX11_bitsThatTell_95 rfl ?_
        refine ev_cV3 eX11_bitsThatTell_97 ⟨lX11_391, kX0_setWordLetter⟩ rfl rfl (c_setWordLetter Bq4 (s := s) (i := x) (by omega) (by have := hx.2 rfl; have := hf.2.2.2.1 s (by omega); omega)) ?_
        rintro _ _ ⟨rfl, rfl⟩
        have hB4 : BkC (up τ 17 (whJ s x 2) ((lo + k : Nat) : Int)) 17 (upB B (whJ s x 2) (lo + k)) := fun j hj => by
          obtain ⟨v0, -, hv0⟩ := h3
          by_cases e2 : j = whJ s x 2
          · subst e2; rw [upB_s]; exact up_s _ _ _ _
          · rw [upB_n _ _ e2, up_n _ _ e2, hv0 j hj, upB_n _ _ e2]
        have hO4 := Ok_wh hO hs he hx hvv
        have hfr : ∀ z, (z < 23 ∨ 38 ≤ z) → z ≠ 17 → up τ 17 (whJ s x 2) ((lo + k : Nat) : Int) z = σ z := fun z a1 a2 => by rw [up_o _ _ _ a2]; exact h9 z a1 a2
        rw [show up τ (4 + 13) (20 + 4 * s + x) ((lo : Int) + (k : Int)) = up τ 17 (whJ s x 2) ((lo + k : Nat) : Int) from rfl]
        refine ev_aload_n eX11_bitsThatTell_100 rfl ?_
        refine ev_iload eX11_bitsThatTell_101 rfl ?_
        refine ev_iload eX11_bitsThatTell_103 rfl ?_
        refine ev_iload eX11_bitsThatTell_105 rfl ?_
        refine ev_cV3 eX11_bitsThatTell_107 ⟨lX11_394, kX11_trialTells⟩ rfl rfl (c_tt (B := upB B (whJ s x 2) (lo + k)) hB4 hO4 (it := it) (n := n) (q := q) (m := m) hn hq hm (fun i hi => by rw [hfr 12 (by decide) (by decide)]; exact hit i hi)) ?_
        rintro _ χ ⟨rfl, g⟩
        refine ev_ifb_eq 122 eX11_bitsThatTell_110 rfl (fun h110 => ?_) (fun h110 => ?_)
        · skip
          refine ev_iinc eX11_bitsThatTell_122 rfl (by decide) ?_
          refine ev_goto 48 eX11_bitsThatTell_125 rfl ?_
          first | (rw [← whF_f h110]; exact ih (k := k + 1) (by omega) (by omega) ⟨lo + k, trivial, fun j hj => by rw [g 17 (by decide)]; exact hB4 j hj⟩ (fun z a1 a2 => by rw [g z a1]; exact hfr z a1 a2)) | (rw [← whF_t h110]; exact ih (k := k + 1) (by omega) (by omega) ⟨lo + k, trivial, fun j hj => by rw [g 17 (by decide)]; exact hB4 j hj⟩ (fun z a1 a2 => by rw [g z a1]; exact hfr z a1 a2))
        · skip
          refine ev_iload eX11_bitsThatTell_113 rfl ?_
          refine ev_iconst eX11_bitsThatTell_115 ?_
          refine ev_iload eX11_bitsThatTell_116 rfl ?_
          refine ev_ishl eX11_bitsThatTell_118 ?_
          refine ev_ior eX11_bitsThatTell_119 ?_
          rw [show iShl 1 ((lo : Int) + (k : Int)) = ((2 ^ (lo + k) : Nat) : Int) from sh1 (a := lo + k) (by omega), iOr_n (by omega) (p2_30 (by omega))]
          refine ev_istore eX11_bitsThatTell_120 (by decide) ?_
          refine ev_iinc eX11_bitsThatTell_122 rfl (by decide) ?_
          refine ev_goto 48 eX11_bitsThatTell_125 rfl ?_
          first | (rw [← whF_f h110]; exact ih (k := k + 1) (by omega) (by omega) ⟨lo + k, trivial, fun j hj => by rw [g 17 (by decide)]; exact hB4 j hj⟩ (fun z a1 a2 => by rw [g z a1]; exact hfr z a1 a2)) | (rw [← whF_t h110]; exact ih (k := k + 1) (by omega) (by omega) ⟨lo + k, trivial, fun j hj => by rw [g 17 (by decide)]; exact hB4 j hj⟩ (fun z a1 a2 => by rw [g z a1]; exact hfr z a1 a2))
noncomputable def whR (B : Bok) (it : Nat → Int) (s x e n q m : Nat) : Nat := whF B it s x e n q m (if e = 0 then 5 else B 2) (if e = 0 then 1 else 0)
set_option maxRecDepth 20000 in
theorem c_btt {d : Nat} {σ : St} {B : Bok} (hB : BkC σ 16 B) (hZ : OkZ B) (hO : Ok B) {it : Nat → Int} {s x e n q m : Nat} {xi : Int} (hs : s < B 2) (he : e < 3) (hx : (e = 1 → x < B 3) ∧ (e = 2 → x < ws B s)) (hxi : e ≠ 0 → xi = (x : Int)) (hn : n ≤ 6) (hq : q < 8) (hm : m ≤ 40) (hit : ∀ i, i < m → σ 12 (q * 40 + i) = it (q * 40 + i) ∧ R32 (it (q * 40 + i)))  : Ct (d + 5) mX11_bitsThatTell [.ref 0, vi s, vi xi, vi e, vi n, vi q, vi m] σ (fun r τ => some (vi (whR B it s x e n q m)) = r ∧ (∀ k, (k < 23 ∨ 38 ≤ k) → k ≠ 17 → τ k = σ k)) := by
  refine ct_of hX11_bitsThatTell (Nat.le_of_ble_eq_true rfl) ?_
  have hf := hZ.wf
  have h7 := hf.2.1
  have h5 := hO.2.1
  refine ev_iload_n eX11_bitsThatTell_0 rfl ?_
  refine ev_if_ne 8 eX11_bitsThatTell_1 rfl (by omega) (fun h1 => ?_) (fun h1 => ?_)
  · skip
    refine ev_iconst eX11_bitsThatTell_8 ?_
    refine ev_istore eX11_bitsThatTell_9 (by decide) ?_
    refine ev_iload_n eX11_bitsThatTell_11 rfl ?_
    refine ev_if_ne 19 eX11_bitsThatTell_12 rfl (by omega) (fun h12 => ?_) (fun h12 => False.elim (by omega))
    refine ev_aload_n eX11_bitsThatTell_19 rfl ?_
    refine ev_getr eX11_bitsThatTell_20 fX11_26 rfl ?_
    refine ev_cV0 eX11_bitsThatTell_23 ⟨lX11_152, kX0_sortCount⟩ rfl rfl (c_sortCount Bq3 hB hf.1) ?_
    rintro _ _ ⟨rfl, rfl⟩
    refine ev_iconst eX11_bitsThatTell_26 ?_
    refine ev_isub eX11_bitsThatTell_27 ?_
    rw [show ((B 2 : Int) - 1) = ((B 2 - 1 : Nat) : Int) by omega]
    refine ev_istore eX11_bitsThatTell_28 (by decide) ?_
    refine ev_iconst eX11_bitsThatTell_30 ?_
    refine ev_istore eX11_bitsThatTell_31 (by decide) ?_
    refine ev_aload_n eX11_bitsThatTell_33 rfl ?_
    refine ev_getr eX11_bitsThatTell_34 fX11_30 rfl ?_
    refine ev_aload_n eX11_bitsThatTell_37 rfl ?_
    refine ev_getr eX11_bitsThatTell_38 fX11_26 rfl ?_
    refine ev_cV1 eX11_bitsThatTell_41 ⟨lX11_145, kX0_takeAll⟩ rfl rfl (c_takeAll Bq4 Bq3) ?_
    rintro _ _ ⟨rfl, rfl⟩
    refine ev_iload eX11_bitsThatTell_44 rfl ?_
    refine ev_istore eX11_bitsThatTell_46 (by decide) ?_
    refine ev_mono (fun r τ h => ?_) (c_btt_l hB hZ hO (it := it) (s := s) (x := x) (e := e) (n := n) (q := q) (m := m) (lo := 0) (hi := B 2 - 1) hs he hx (by rw [if_neg (by omega)]) (by rw [if_neg (by omega)]) hxi hn hq hm hit 7 (k := 0) (by omega) (by omega) ⟨B (whJ s x e), trivial, fun j hj => ?_⟩ (fun k a1 a2 => upA_n _ _ a2))
    · refine ⟨?_, h.2⟩
      rw [← h.1]
      unfold whR
      rw [if_neg (by omega), if_neg (by omega)]
      try exact congrArg (fun z => some (vi ((whF B it s x e n q m z 0 : Nat) : Int))) (by omega)
    · rw [show upA σ (4 + 13) (cpF (σ (3 + 13)) (σ (4 + 13)) 0 0 44) 17 j = σ 16 j by (show upA σ 17 _ 17 j = _); rw [upA_s, cpF_in (by omega) (by omega), Nat.sub_zero, Nat.zero_add], hB j hj]
      unfold upB
      split
      · rename_i e2; subst e2; rfl
      · rfl
  · skip
    refine ev_iconst eX11_bitsThatTell_4 ?_
    refine ev_goto 9 eX11_bitsThatTell_5 rfl ?_
    refine ev_istore eX11_bitsThatTell_9 (by decide) ?_
    refine ev_iload_n eX11_bitsThatTell_11 rfl ?_
    refine ev_if_ne 19 eX11_bitsThatTell_12 rfl (by omega) (fun h12 => False.elim (by omega)) (fun h12 => ?_)
    refine ev_iconst eX11_bitsThatTell_15 ?_
    refine ev_goto 28 eX11_bitsThatTell_16 rfl ?_
    refine ev_istore eX11_bitsThatTell_28 (by decide) ?_
    refine ev_iconst eX11_bitsThatTell_30 ?_
    refine ev_istore eX11_bitsThatTell_31 (by decide) ?_
    refine ev_aload_n eX11_bitsThatTell_33 rfl ?_
    refine ev_getr eX11_bitsThatTell_34 fX11_30 rfl ?_
    refine ev_aload_n eX11_bitsThatTell_37 rfl ?_
    refine ev_getr eX11_bitsThatTell_38 fX11_26 rfl ?_
    refine ev_cV1 eX11_bitsThatTell_41 ⟨lX11_145, kX0_takeAll⟩ rfl rfl (c_takeAll Bq4 Bq3) ?_
    rintro _ _ ⟨rfl, rfl⟩
    refine ev_iload eX11_bitsThatTell_44 rfl ?_
    refine ev_istore eX11_bitsThatTell_46 (by decide) ?_
    refine ev_mono (fun r τ h => ?_) (c_btt_l hB hZ hO (it := it) (s := s) (x := x) (e := e) (n := n) (q := q) (m := m) (lo := 1) (hi := 5) hs he hx (by rw [if_pos (by omega)]) (by rw [if_pos (by omega)]) hxi hn hq hm hit 7 (k := 0) (by omega) (by omega) ⟨B (whJ s x e), trivial, fun j hj => ?_⟩ (fun k a1 a2 => upA_n _ _ a2))
    · refine ⟨?_, h.2⟩
      rw [← h.1]
      unfold whR
      rw [if_pos (by omega), if_pos (by omega)]
      try exact congrArg (fun z => some (vi ((whF B it s x e n q m z 1 : Nat) : Int))) (by omega)
    · rw [show upA σ (4 + 13) (cpF (σ (3 + 13)) (σ (4 + 13)) 0 0 44) 17 j = σ 16 j by (show upA σ 17 _ 17 j = _); rw [upA_s, cpF_in (by omega) (by omega), Nat.sub_zero, Nat.zero_add], hB j hj]
      unfold upB
      split
      · rename_i e2; subst e2; rfl
      · rfl
set_option maxRecDepth 20000 in
theorem o_who {d : Nat} {σ : St} {B : Bok} (hB : BkC σ 16 B) (hZ : OkZ B) {la : Nat → Int} {sz : Nat → Nat} {it : Nat → Int} (hW : RwsC σ la sz it) {x y e n z m : Int} (hx : -2147483648 ≤ x ∧ x ≤ 2147483647) (hy : -2147483648 ≤ y ∧ y ≤ 2147483647) (he : -2147483648 ≤ e ∧ e ≤ 2147483647) (hn : -2147483648 ≤ n ∧ n ≤ 2147483647) (hz : -2147483648 ≤ z ∧ z ≤ 2147483647) (hm : -2147483648 ≤ m ∧ m ≤ 2147483647) : Ct (d + 6) mX11_who [.ref 0, vi x, vi y, vi e, vi n, vi z, vi m] σ (fun r τ => (¬ ((0 ≤ x ∧ x < B 2) ∧ (0 ≤ e ∧ e ≤ 2) ∧ (0 ≤ n ∧ n ≤ 6) ∧ (e = 1 → 0 ≤ y ∧ y < B 3) ∧ (e = 2 → 0 ≤ y ∧ y < ws B x.toNat) ∧ (0 ≤ z ∧ z < 8) ∧ 1 ≤ m ∧ m ≤ 40) → some (vi (-1000001)) = r ∧ σ = τ) ∧ (((0 ≤ x ∧ x < B 2) ∧ (0 ≤ e ∧ e ≤ 2) ∧ (0 ≤ n ∧ n ≤ 6) ∧ (e = 1 → 0 ≤ y ∧ y < B 3) ∧ (e = 2 → 0 ≤ y ∧ y < ws B x.toNat) ∧ (0 ≤ z ∧ z < 8) ∧ 1 ≤ m ∧ m ≤ 40) ∧ la z.toNat = -1 → some (vi (-1000010 - 1)) = r ∧ up σ 0 12 1 = τ) ∧ (((0 ≤ x ∧ x < B 2) ∧ (0 ≤ e ∧ e ≤ 2) ∧ (0 ≤ n ∧ n ≤ 6) ∧ (e = 1 → 0 ≤ y ∧ y < B 3) ∧ (e = 2 → 0 ≤ y ∧ y < ws B x.toNat) ∧ (0 ≤ z ∧ z < 8) ∧ 1 ≤ m ∧ m ≤ 40) ∧ la z.toNat ≠ -1 ∧ (sz z.toNat : Int) < m → some (vi (-1000010 - 2)) = r ∧ up σ 0 12 2 = τ) ∧ (((0 ≤ x ∧ x < B 2) ∧ (0 ≤ e ∧ e ≤ 2) ∧ (0 ≤ n ∧ n ≤ 6) ∧ (e = 1 → 0 ≤ y ∧ y < B 3) ∧ (e = 2 → 0 ≤ y ∧ y < ws B x.toNat) ∧ (0 ≤ z ∧ z < 8) ∧ 1 ≤ m ∧ m ≤ 40) ∧ la z.toNat ≠ -1 ∧ m ≤ (sz z.toNat : Int) → some (vi (whR B it x.toNat y.toNat e.toNat n.toNat z.toNat m.toNat)) = r ∧ τ 0 11 = σ 0 11 ∧ τ 0 12 = 0 ∧ ∀ k, (k < 23 ∨ 38 ≤ k) → k ≠ 17 → k ≠ 0 → τ k = σ k)) := by
  refine ct_of hX11_who (Nat.le_of_ble_eq_true rfl) ?_
  have hf := hZ.wf
  have h7 := hf.2.1
  have h8 := hf.2.2.1
  refine ev_aload_n eX11_who_0 rfl ?_
  refine ev_getr eX11_who_1 fX11_26 rfl ?_
  refine ev_iload_n eX11_who_4 rfl ?_
  refine ev_cV1 eX11_who_5 ⟨lX11_162, kX0_hasSort⟩ rfl rfl (c_hasSort Bq3 hB hf.1 (x := x) (by omega)) ?_
  rintro _ _ ⟨rfl, rfl⟩
  refine ev_ifb_eq 28 eX11_who_8 rfl (fun h8 => ?_) (fun h8 => ?_)
  · skip
    refine ev_ldc eX11_who_28 qX11_89 ?_
    refine ev_iret eX11_who_30 rfl ?_
    refine ⟨fun hc => ?_, fun hc => ?_, fun hc => ?_, fun hc => ?_⟩ <;> first | (exfalso; omega) | (exact ⟨rfl, rfl⟩)
  · skip
    refine ev_iload_n eX11_who_11 rfl ?_
    refine ev_if_lt 28 eX11_who_12 rfl (by omega) (fun h12 => ?_) (fun h12 => ?_)
    · skip
      refine ev_ldc eX11_who_28 qX11_89 ?_
      refine ev_iret eX11_who_30 rfl ?_
      refine ⟨fun hc => ?_, fun hc => ?_, fun hc => ?_, fun hc => ?_⟩ <;> first | (exfalso; omega) | (exact ⟨rfl, rfl⟩)
    · skip
      refine ev_iload_n eX11_who_15 rfl ?_
      refine ev_iconst eX11_who_16 ?_
      refine ev_icmp_gt 28 eX11_who_17 rfl (by omega) (by omega) (fun h17 => ?_) (fun h17 => ?_)
      · skip
        refine ev_ldc eX11_who_28 qX11_89 ?_
        refine ev_iret eX11_who_30 rfl ?_
        refine ⟨fun hc => ?_, fun hc => ?_, fun hc => ?_, fun hc => ?_⟩ <;> first | (exfalso; omega) | (exact ⟨rfl, rfl⟩)
      · skip
        refine ev_iload eX11_who_20 rfl ?_
        refine ev_cS1 eX11_who_22 ⟨lX11_245, kX3_isStep⟩ rfl (c_isStep (x := n) (by omega)) ?_
        rintro _ _ ⟨rfl, rfl⟩
        refine ev_ifb_ne 31 eX11_who_25 rfl (fun h25 => ?_) (fun h25 => ?_)
        · skip
          refine ev_iload_n eX11_who_31 rfl ?_
          refine ev_iconst eX11_who_32 ?_
          refine ev_icmp_ne 54 eX11_who_33 rfl (by omega) (by omega) (fun h33 => ?_) (fun h33 => ?_)
          · skip
            refine ev_iload_n eX11_who_54 rfl ?_
            refine ev_iconst eX11_who_55 ?_
            refine ev_icmp_ne 78 eX11_who_56 rfl (by omega) (by omega) (fun h56 => ?_) (fun h56 => ?_)
            · skip
              refine ev_iload eX11_who_78 rfl ?_
              refine ev_cS1 eX11_who_80 ⟨lX11_85, kX8_isRow⟩ rfl (c_isRow (x := z) (by omega)) ?_
              rintro _ _ ⟨rfl, rfl⟩
              refine ev_ifb_eq 99 eX11_who_83 rfl (fun h83 => ?_) (fun h83 => ?_)
              · skip
                refine ev_ldc eX11_who_99 qX11_89 ?_
                refine ev_iret eX11_who_101 rfl ?_
                refine ⟨fun hc => ?_, fun hc => ?_, fun hc => ?_, fun hc => ?_⟩ <;> first | (exfalso; omega) | (exact ⟨rfl, rfl⟩)
              · skip
                refine ev_iload eX11_who_86 rfl ?_
                refine ev_iconst eX11_who_88 ?_
                refine ev_icmp_lt 99 eX11_who_89 rfl (by omega) (by omega) (fun h89 => ?_) (fun h89 => ?_)
                · skip
                  refine ev_ldc eX11_who_99 qX11_89 ?_
                  refine ev_iret eX11_who_101 rfl ?_
                  refine ⟨fun hc => ?_, fun hc => ?_, fun hc => ?_, fun hc => ?_⟩ <;> first | (exfalso; omega) | (exact ⟨rfl, rfl⟩)
                · skip
                  refine ev_iload eX11_who_92 rfl ?_
                  refine ev_bipush eX11_who_94 rfl ?_
                  refine ev_icmp_le 102 eX11_who_96 rfl (by omega) (by omega) (fun h96 => ?_) (fun h96 => ?_)
                  · skip
                    have hO := hZ.ok (by omega)
                    obtain ⟨q, rfl⟩ : ∃ q : Nat, z = q := ⟨z.toNat, by omega⟩
                    rw [Int.toNat_natCast]
                    obtain ⟨k1, k2, k3, k4, k5⟩ := hW q (by omega)
                    refine ev_aload_n eX11_who_102 rfl ?_
                    refine ev_getr eX11_who_103 fX11_10 rfl ?_
                    refine ev_iload eX11_who_106 rfl ?_
                    refine ev_cV1 eX11_who_108 ⟨lX11_101, kX8_isMissing⟩ rfl rfl (c_isMissing hW.rw (r := q) (by omega)) ?_
                    rintro _ _ ⟨rfl, rfl⟩
                    refine ev_ifb_eq 120 eX11_who_111 rfl (fun h111 => ?_) (fun h111 => ?_)
                    · skip
                      obtain ⟨k6, k7⟩ := k5 (by omega)
                      refine ev_iload eX11_who_120 rfl ?_
                      refine ev_aload_n eX11_who_122 rfl ?_
                      refine ev_getr eX11_who_123 fX11_10 rfl ?_
                      refine ev_iload eX11_who_126 rfl ?_
                      refine ev_cV1 eX11_who_128 ⟨lX11_104, kX8_sizeOf⟩ rfl rfl (c_sizeOf (r := q) (by omega)) ?_
                      rintro _ _ ⟨rfl, rfl⟩
                      rw [k6]
                      refine ev_icmp_le 140 eX11_who_131 rfl (by omega) (by omega) (fun h131 => ?_) (fun h131 => ?_)
                      · skip
                        try (obtain ⟨s, rfl⟩ : ∃ q : Nat, x = q := ⟨x.toNat, by omega⟩)
                        obtain ⟨e1, rfl⟩ : ∃ q : Nat, e = q := ⟨e.toNat, by omega⟩
                        obtain ⟨n1, rfl⟩ : ∃ q : Nat, n = q := ⟨n.toNat, by omega⟩
                        obtain ⟨m1, rfl⟩ : ∃ q : Nat, m = q := ⟨m.toNat, by omega⟩
                        simp only [Int.toNat_natCast]
                        refine ev_aload_n eX11_who_140 rfl ?_
                        refine ev_aload_n eX11_who_141 rfl ?_
                        refine ev_iload_n eX11_who_142 rfl ?_
                        refine ev_iload_n eX11_who_143 rfl ?_
                        refine ev_iload_n eX11_who_144 rfl ?_
                        refine ev_iload eX11_who_145 rfl ?_
                        refine ev_iload eX11_who_147 rfl ?_
                        refine ev_iload eX11_who_149 rfl ?_
                        refine ev_cV6 eX11_who_151 ⟨lX11_315, kX11_bitsThatTell⟩ rfl rfl (c_btt hB hZ hO (it := it) (s := s) (x := y.toNat) (xi := y) (e := e1) (n := n1) (q := q) (m := m1) (by omega) (by omega) ⟨fun z => by omega, fun z => by omega⟩ (fun z => by omega) (by omega) (by omega) (by omega) (fun i hi => k7 i (by omega))) ?_
                        rintro _ χ ⟨rfl, g⟩
                        refine ev_cV1 eX11_who_154 ⟨lX11_98, kX11_unfound⟩ rfl rfl c_unfound ?_
                        rintro _ _ ⟨rfl, rfl⟩
                        refine ev_iret eX11_who_157 rfl ?_
                        refine ⟨fun hc => ?_, fun hc => ?_, fun hc => ?_, fun hc => ?_⟩ <;> first | (exfalso; omega) | skip
                        try exact ⟨rfl, by rw [up_n _ _ (by decide), g 0 (by decide) (by decide)], up_s _ _ _ _, fun k a1 a2 a3 => by rw [up_o _ _ _ a3]; exact g k a1 a2⟩
                      · skip
                        refine ev_aload_n eX11_who_134 rfl ?_
                        refine ev_iconst eX11_who_135 ?_
                        refine ev_cV1 eX11_who_136 ⟨lX11_90, kX11_found⟩ rfl rfl c_found ?_
                        rintro _ _ ⟨rfl, rfl⟩
                        refine ev_iret eX11_who_139 rfl ?_
                        refine ⟨fun hc => ?_, fun hc => ?_, fun hc => ?_, fun hc => ?_⟩ <;> first | (exfalso; omega) | (exact ⟨rfl, rfl⟩)
                    · skip
                      refine ev_aload_n eX11_who_114 rfl ?_
                      refine ev_iconst eX11_who_115 ?_
                      refine ev_cV1 eX11_who_116 ⟨lX11_90, kX11_found⟩ rfl rfl c_found ?_
                      rintro _ _ ⟨rfl, rfl⟩
                      refine ev_iret eX11_who_119 rfl ?_
                      refine ⟨fun hc => ?_, fun hc => ?_, fun hc => ?_, fun hc => ?_⟩ <;> first | (exfalso; omega) | (exact ⟨rfl, rfl⟩)
                  · skip
                    refine ev_ldc eX11_who_99 qX11_89 ?_
                    refine ev_iret eX11_who_101 rfl ?_
                    refine ⟨fun hc => ?_, fun hc => ?_, fun hc => ?_, fun hc => ?_⟩ <;> first | (exfalso; omega) | (exact ⟨rfl, rfl⟩)
            · skip
              refine ev_iload_n eX11_who_59 rfl ?_
              refine ev_if_lt 75 eX11_who_60 rfl (by omega) (fun h60 => ?_) (fun h60 => ?_)
              · skip
                refine ev_ldc eX11_who_75 qX11_89 ?_
                refine ev_iret eX11_who_77 rfl ?_
                refine ⟨fun hc => ?_, fun hc => ?_, fun hc => ?_, fun hc => ?_⟩ <;> first | (exfalso; omega) | (exact ⟨rfl, rfl⟩)
              · skip
                refine ev_iload_n eX11_who_63 rfl ?_
                refine ev_aload_n eX11_who_64 rfl ?_
                refine ev_getr eX11_who_65 fX11_26 rfl ?_
                refine ev_iload_n eX11_who_68 rfl ?_
                obtain ⟨s, rfl⟩ : ∃ q : Nat, x = q := ⟨x.toNat, by omega⟩
                rw [Int.toNat_natCast]
                refine ev_cV1 eX11_who_69 ⟨lX11_169, kX0_wordSize⟩ rfl rfl (c_wordSize Bq3 hB hf.1 (s := s) (by omega)) ?_
                rintro _ _ ⟨rfl, rfl⟩
                have hw4 := hf.2.2.2.1 s (by omega)
                refine ev_icmp_lt 78 eX11_who_72 rfl (by omega) (by omega) (fun h72 => ?_) (fun h72 => ?_)
                · skip
                  refine ev_iload eX11_who_78 rfl ?_
                  refine ev_cS1 eX11_who_80 ⟨lX11_85, kX8_isRow⟩ rfl (c_isRow (x := z) (by omega)) ?_
                  rintro _ _ ⟨rfl, rfl⟩
                  refine ev_ifb_eq 99 eX11_who_83 rfl (fun h83 => ?_) (fun h83 => ?_)
                  · skip
                    refine ev_ldc eX11_who_99 qX11_89 ?_
                    refine ev_iret eX11_who_101 rfl ?_
                    refine ⟨fun hc => ?_, fun hc => ?_, fun hc => ?_, fun hc => ?_⟩ <;> first | (exfalso; omega) | (exact ⟨rfl, rfl⟩)
                  · skip
                    refine ev_iload eX11_who_86 rfl ?_
                    refine ev_iconst eX11_who_88 ?_
                    refine ev_icmp_lt 99 eX11_who_89 rfl (by omega) (by omega) (fun h89 => ?_) (fun h89 => ?_)
                    · skip
                      refine ev_ldc eX11_who_99 qX11_89 ?_
                      refine ev_iret eX11_who_101 rfl ?_
                      refine ⟨fun hc => ?_, fun hc => ?_, fun hc => ?_, fun hc => ?_⟩ <;> first | (exfalso; omega) | (exact ⟨rfl, rfl⟩)
                    · skip
                      refine ev_iload eX11_who_92 rfl ?_
                      refine ev_bipush eX11_who_94 rfl ?_
                      refine ev_icmp_le 102 eX11_who_96 rfl (by omega) (by omega) (fun h96 => ?_) (fun h96 => ?_)
                      · skip
                        have hO := hZ.ok (by omega)
                        obtain ⟨q, rfl⟩ : ∃ q : Nat, z = q := ⟨z.toNat, by omega⟩
                        rw [Int.toNat_natCast]
                        obtain ⟨k1, k2, k3, k4, k5⟩ := hW q (by omega)
                        refine ev_aload_n eX11_who_102 rfl ?_
                        refine ev_getr eX11_who_103 fX11_10 rfl ?_
                        refine ev_iload eX11_who_106 rfl ?_
                        refine ev_cV1 eX11_who_108 ⟨lX11_101, kX8_isMissing⟩ rfl rfl (c_isMissing hW.rw (r := q) (by omega)) ?_
                        rintro _ _ ⟨rfl, rfl⟩
                        refine ev_ifb_eq 120 eX11_who_111 rfl (fun h111 => ?_) (fun h111 => ?_)
                        · skip
                          obtain ⟨k6, k7⟩ := k5 (by omega)
                          refine ev_iload eX11_who_120 rfl ?_
                          refine ev_aload_n eX11_who_122 rfl ?_
                          refine ev_getr eX11_who_123 fX11_10 rfl ?_
                          refine ev_iload eX11_who_126 rfl ?_
                          refine ev_cV1 eX11_who_128 ⟨lX11_104, kX8_sizeOf⟩ rfl rfl (c_sizeOf (r := q) (by omega)) ?_
                          rintro _ _ ⟨rfl, rfl⟩
                          rw [k6]
                          refine ev_icmp_le 140 eX11_who_131 rfl (by omega) (by omega) (fun h131 => ?_) (fun h131 => ?_)
                          · skip
                            try (obtain ⟨s, rfl⟩ : ∃ q : Nat, x = q := ⟨x.toNat, by omega⟩)
                            obtain ⟨e1, rfl⟩ : ∃ q : Nat, e = q := ⟨e.toNat, by omega⟩
                            obtain ⟨n1, rfl⟩ : ∃ q : Nat, n = q := ⟨n.toNat, by omega⟩
                            obtain ⟨m1, rfl⟩ : ∃ q : Nat, m = q := ⟨m.toNat, by omega⟩
                            simp only [Int.toNat_natCast]
                            refine ev_aload_n eX11_who_140 rfl ?_
                            refine ev_aload_n eX11_who_141 rfl ?_
                            refine ev_iload_n eX11_who_142 rfl ?_
                            refine ev_iload_n eX11_who_143 rfl ?_
                            refine ev_iload_n eX11_who_144 rfl ?_
                            refine ev_iload eX11_who_145 rfl ?_
                            refine ev_iload eX11_who_147 rfl ?_
                            refine ev_iload eX11_who_149 rfl ?_
                            refine ev_cV6 eX11_who_151 ⟨lX11_315, kX11_bitsThatTell⟩ rfl rfl (c_btt hB hZ hO (it := it) (s := s) (x := y.toNat) (xi := y) (e := e1) (n := n1) (q := q) (m := m1) (by omega) (by omega) ⟨fun z => by omega, fun z => by omega⟩ (fun z => by omega) (by omega) (by omega) (by omega) (fun i hi => k7 i (by omega))) ?_
                            rintro _ χ ⟨rfl, g⟩
                            refine ev_cV1 eX11_who_154 ⟨lX11_98, kX11_unfound⟩ rfl rfl c_unfound ?_
                            rintro _ _ ⟨rfl, rfl⟩
                            refine ev_iret eX11_who_157 rfl ?_
                            refine ⟨fun hc => ?_, fun hc => ?_, fun hc => ?_, fun hc => ?_⟩ <;> first | (exfalso; omega) | skip
                            try exact ⟨rfl, by rw [up_n _ _ (by decide), g 0 (by decide) (by decide)], up_s _ _ _ _, fun k a1 a2 a3 => by rw [up_o _ _ _ a3]; exact g k a1 a2⟩
                          · skip
                            refine ev_aload_n eX11_who_134 rfl ?_
                            refine ev_iconst eX11_who_135 ?_
                            refine ev_cV1 eX11_who_136 ⟨lX11_90, kX11_found⟩ rfl rfl c_found ?_
                            rintro _ _ ⟨rfl, rfl⟩
                            refine ev_iret eX11_who_139 rfl ?_
                            refine ⟨fun hc => ?_, fun hc => ?_, fun hc => ?_, fun hc => ?_⟩ <;> first | (exfalso; omega) | (exact ⟨rfl, rfl⟩)
                        · skip
                          refine ev_aload_n eX11_who_114 rfl ?_
                          refine ev_iconst eX11_who_115 ?_
                          refine ev_cV1 eX11_who_116 ⟨lX11_90, kX11_found⟩ rfl rfl c_found ?_
                          rintro _ _ ⟨rfl, rfl⟩
                          refine ev_iret eX11_who_119 rfl ?_
                          refine ⟨fun hc => ?_, fun hc => ?_, fun hc => ?_, fun hc => ?_⟩ <;> first | (exfalso; omega) | (exact ⟨rfl, rfl⟩)
                      · skip
                        refine ev_ldc eX11_who_99 qX11_89 ?_
                        refine ev_iret eX11_who_101 rfl ?_
                        refine ⟨fun hc => ?_, fun hc => ?_, fun hc => ?_, fun hc => ?_⟩ <;> first | (exfalso; omega) | (exact ⟨rfl, rfl⟩)
                · skip
                  refine ev_ldc eX11_who_75 qX11_89 ?_
                  refine ev_iret eX11_who_77 rfl ?_
                  refine ⟨fun hc => ?_, fun hc => ?_, fun hc => ?_, fun hc => ?_⟩ <;> first | (exfalso; omega) | (exact ⟨rfl, rfl⟩)
          · skip
            refine ev_iload_n eX11_who_36 rfl ?_
            refine ev_if_lt 51 eX11_who_37 rfl (by omega) (fun h37 => ?_) (fun h37 => ?_)
            · skip
              refine ev_ldc eX11_who_51 qX11_89 ?_
              refine ev_iret eX11_who_53 rfl ?_
              refine ⟨fun hc => ?_, fun hc => ?_, fun hc => ?_, fun hc => ?_⟩ <;> first | (exfalso; omega) | (exact ⟨rfl, rfl⟩)
            · skip
              refine ev_iload_n eX11_who_40 rfl ?_
              refine ev_aload_n eX11_who_41 rfl ?_
              refine ev_getr eX11_who_42 fX11_26 rfl ?_
              refine ev_cV0 eX11_who_45 ⟨lX11_213, kX0_rowSize⟩ rfl rfl (c_rowSize Bq3 hB hf.1) ?_
              rintro _ _ ⟨rfl, rfl⟩
              refine ev_icmp_lt 54 eX11_who_48 rfl (by omega) (by omega) (fun h48 => ?_) (fun h48 => ?_)
              · skip
                refine ev_iload_n eX11_who_54 rfl ?_
                refine ev_iconst eX11_who_55 ?_
                refine ev_icmp_ne 78 eX11_who_56 rfl (by omega) (by omega) (fun h56 => ?_) (fun h56 => ?_)
                · skip
                  refine ev_iload eX11_who_78 rfl ?_
                  refine ev_cS1 eX11_who_80 ⟨lX11_85, kX8_isRow⟩ rfl (c_isRow (x := z) (by omega)) ?_
                  rintro _ _ ⟨rfl, rfl⟩
                  refine ev_ifb_eq 99 eX11_who_83 rfl (fun h83 => ?_) (fun h83 => ?_)
                  · skip
                    refine ev_ldc eX11_who_99 qX11_89 ?_
                    refine ev_iret eX11_who_101 rfl ?_
                    refine ⟨fun hc => ?_, fun hc => ?_, fun hc => ?_, fun hc => ?_⟩ <;> first | (exfalso; omega) | (exact ⟨rfl, rfl⟩)
                  · skip
                    refine ev_iload eX11_who_86 rfl ?_
                    refine ev_iconst eX11_who_88 ?_
                    refine ev_icmp_lt 99 eX11_who_89 rfl (by omega) (by omega) (fun h89 => ?_) (fun h89 => ?_)
                    · skip
                      refine ev_ldc eX11_who_99 qX11_89 ?_
                      refine ev_iret eX11_who_101 rfl ?_
                      refine ⟨fun hc => ?_, fun hc => ?_, fun hc => ?_, fun hc => ?_⟩ <;> first | (exfalso; omega) | (exact ⟨rfl, rfl⟩)
                    · skip
                      refine ev_iload eX11_who_92 rfl ?_
                      refine ev_bipush eX11_who_94 rfl ?_
                      refine ev_icmp_le 102 eX11_who_96 rfl (by omega) (by omega) (fun h96 => ?_) (fun h96 => ?_)
                      · skip
                        have hO := hZ.ok (by omega)
                        obtain ⟨q, rfl⟩ : ∃ q : Nat, z = q := ⟨z.toNat, by omega⟩
                        rw [Int.toNat_natCast]
                        obtain ⟨k1, k2, k3, k4, k5⟩ := hW q (by omega)
                        refine ev_aload_n eX11_who_102 rfl ?_
                        refine ev_getr eX11_who_103 fX11_10 rfl ?_
                        refine ev_iload eX11_who_106 rfl ?_
                        refine ev_cV1 eX11_who_108 ⟨lX11_101, kX8_isMissing⟩ rfl rfl (c_isMissing hW.rw (r := q) (by omega)) ?_
                        rintro _ _ ⟨rfl, rfl⟩
                        refine ev_ifb_eq 120 eX11_who_111 rfl (fun h111 => ?_) (fun h111 => ?_)
                        · skip
                          obtain ⟨k6, k7⟩ := k5 (by omega)
                          refine ev_iload eX11_who_120 rfl ?_
                          refine ev_aload_n eX11_who_122 rfl ?_
                          refine ev_getr eX11_who_123 fX11_10 rfl ?_
                          refine ev_iload eX11_who_126 rfl ?_
                          refine ev_cV1 eX11_who_128 ⟨lX11_104, kX8_sizeOf⟩ rfl rfl (c_sizeOf (r := q) (by omega)) ?_
                          rintro _ _ ⟨rfl, rfl⟩
                          rw [k6]
                          refine ev_icmp_le 140 eX11_who_131 rfl (by omega) (by omega) (fun h131 => ?_) (fun h131 => ?_)
                          · skip
                            try (obtain ⟨s, rfl⟩ : ∃ q : Nat, x = q := ⟨x.toNat, by omega⟩)
                            obtain ⟨e1, rfl⟩ : ∃ q : Nat, e = q := ⟨e.toNat, by omega⟩
                            obtain ⟨n1, rfl⟩ : ∃ q : Nat, n = q := ⟨n.toNat, by omega⟩
                            obtain ⟨m1, rfl⟩ : ∃ q : Nat, m = q := ⟨m.toNat, by omega⟩
                            simp only [Int.toNat_natCast]
                            refine ev_aload_n eX11_who_140 rfl ?_
                            refine ev_aload_n eX11_who_141 rfl ?_
                            refine ev_iload_n eX11_who_142 rfl ?_
                            refine ev_iload_n eX11_who_143 rfl ?_
                            refine ev_iload_n eX11_who_144 rfl ?_
                            refine ev_iload eX11_who_145 rfl ?_
                            refine ev_iload eX11_who_147 rfl ?_
                            refine ev_iload eX11_who_149 rfl ?_
                            refine ev_cV6 eX11_who_151 ⟨lX11_315, kX11_bitsThatTell⟩ rfl rfl (c_btt hB hZ hO (it := it) (s := s) (x := y.toNat) (xi := y) (e := e1) (n := n1) (q := q) (m := m1) (by omega) (by omega) ⟨fun z => by omega, fun z => by omega⟩ (fun z => by omega) (by omega) (by omega) (by omega) (fun i hi => k7 i (by omega))) ?_
                            rintro _ χ ⟨rfl, g⟩
                            refine ev_cV1 eX11_who_154 ⟨lX11_98, kX11_unfound⟩ rfl rfl c_unfound ?_
                            rintro _ _ ⟨rfl, rfl⟩
                            refine ev_iret eX11_who_157 rfl ?_
                            refine ⟨fun hc => ?_, fun hc => ?_, fun hc => ?_, fun hc => ?_⟩ <;> first | (exfalso; omega) | skip
                            try exact ⟨rfl, by rw [up_n _ _ (by decide), g 0 (by decide) (by decide)], up_s _ _ _ _, fun k a1 a2 a3 => by rw [up_o _ _ _ a3]; exact g k a1 a2⟩
                          · skip
                            refine ev_aload_n eX11_who_134 rfl ?_
                            refine ev_iconst eX11_who_135 ?_
                            refine ev_cV1 eX11_who_136 ⟨lX11_90, kX11_found⟩ rfl rfl c_found ?_
                            rintro _ _ ⟨rfl, rfl⟩
                            refine ev_iret eX11_who_139 rfl ?_
                            refine ⟨fun hc => ?_, fun hc => ?_, fun hc => ?_, fun hc => ?_⟩ <;> first | (exfalso; omega) | (exact ⟨rfl, rfl⟩)
                        · skip
                          refine ev_aload_n eX11_who_114 rfl ?_
                          refine ev_iconst eX11_who_115 ?_
                          refine ev_cV1 eX11_who_116 ⟨lX11_90, kX11_found⟩ rfl rfl c_found ?_
                          rintro _ _ ⟨rfl, rfl⟩
                          refine ev_iret eX11_who_119 rfl ?_
                          refine ⟨fun hc => ?_, fun hc => ?_, fun hc => ?_, fun hc => ?_⟩ <;> first | (exfalso; omega) | (exact ⟨rfl, rfl⟩)
                      · skip
                        refine ev_ldc eX11_who_99 qX11_89 ?_
                        refine ev_iret eX11_who_101 rfl ?_
                        refine ⟨fun hc => ?_, fun hc => ?_, fun hc => ?_, fun hc => ?_⟩ <;> first | (exfalso; omega) | (exact ⟨rfl, rfl⟩)
                · skip
                  refine ev_iload_n eX11_who_59 rfl ?_
                  refine ev_if_lt 75 eX11_who_60 rfl (by omega) (fun h60 => ?_) (fun h60 => ?_)
                  · skip
                    refine ev_ldc eX11_who_75 qX11_89 ?_
                    refine ev_iret eX11_who_77 rfl ?_
                    refine ⟨fun hc => ?_, fun hc => ?_, fun hc => ?_, fun hc => ?_⟩ <;> first | (exfalso; omega) | (exact ⟨rfl, rfl⟩)
                  · skip
                    refine ev_iload_n eX11_who_63 rfl ?_
                    refine ev_aload_n eX11_who_64 rfl ?_
                    refine ev_getr eX11_who_65 fX11_26 rfl ?_
                    refine ev_iload_n eX11_who_68 rfl ?_
                    obtain ⟨s, rfl⟩ : ∃ q : Nat, x = q := ⟨x.toNat, by omega⟩
                    rw [Int.toNat_natCast]
                    refine ev_cV1 eX11_who_69 ⟨lX11_169, kX0_wordSize⟩ rfl rfl (c_wordSize Bq3 hB hf.1 (s := s) (by omega)) ?_
                    rintro _ _ ⟨rfl, rfl⟩
                    have hw4 := hf.2.2.2.1 s (by omega)
                    refine ev_icmp_lt 78 eX11_who_72 rfl (by omega) (by omega) (fun h72 => ?_) (fun h72 => ?_)
                    · skip
                      refine ev_iload eX11_who_78 rfl ?_
                      refine ev_cS1 eX11_who_80 ⟨lX11_85, kX8_isRow⟩ rfl (c_isRow (x := z) (by omega)) ?_
                      rintro _ _ ⟨rfl, rfl⟩
                      refine ev_ifb_eq 99 eX11_who_83 rfl (fun h83 => ?_) (fun h83 => ?_)
                      · skip
                        refine ev_ldc eX11_who_99 qX11_89 ?_
                        refine ev_iret eX11_who_101 rfl ?_
                        refine ⟨fun hc => ?_, fun hc => ?_, fun hc => ?_, fun hc => ?_⟩ <;> first | (exfalso; omega) | (exact ⟨rfl, rfl⟩)
                      · skip
                        refine ev_iload eX11_who_86 rfl ?_
                        refine ev_iconst eX11_who_88 ?_
                        refine ev_icmp_lt 99 eX11_who_89 rfl (by omega) (by omega) (fun h89 => ?_) (fun h89 => ?_)
                        · skip
                          refine ev_ldc eX11_who_99 qX11_89 ?_
                          refine ev_iret eX11_who_101 rfl ?_
                          refine ⟨fun hc => ?_, fun hc => ?_, fun hc => ?_, fun hc => ?_⟩ <;> first | (exfalso; omega) | (exact ⟨rfl, rfl⟩)
                        · skip
                          refine ev_iload eX11_who_92 rfl ?_
                          refine ev_bipush eX11_who_94 rfl ?_
                          refine ev_icmp_le 102 eX11_who_96 rfl (by omega) (by omega) (fun h96 => ?_) (fun h96 => ?_)
                          · skip
                            have hO := hZ.ok (by omega)
                            obtain ⟨q, rfl⟩ : ∃ q : Nat, z = q := ⟨z.toNat, by omega⟩
                            rw [Int.toNat_natCast]
                            obtain ⟨k1, k2, k3, k4, k5⟩ := hW q (by omega)
                            refine ev_aload_n eX11_who_102 rfl ?_
                            refine ev_getr eX11_who_103 fX11_10 rfl ?_
                            refine ev_iload eX11_who_106 rfl ?_
                            refine ev_cV1 eX11_who_108 ⟨lX11_101, kX8_isMissing⟩ rfl rfl (c_isMissing hW.rw (r := q) (by omega)) ?_
                            rintro _ _ ⟨rfl, rfl⟩
                            refine ev_ifb_eq 120 eX11_who_111 rfl (fun h111 => ?_) (fun h111 => ?_)
                            · skip
                              obtain ⟨k6, k7⟩ := k5 (by omega)
                              refine ev_iload eX11_who_120 rfl ?_
                              refine ev_aload_n eX11_who_122 rfl ?_
                              refine ev_getr eX11_who_123 fX11_10 rfl ?_
                              refine ev_iload eX11_who_126 rfl ?_
                              refine ev_cV1 eX11_who_128 ⟨lX11_104, kX8_sizeOf⟩ rfl rfl (c_sizeOf (r := q) (by omega)) ?_
                              rintro _ _ ⟨rfl, rfl⟩
                              rw [k6]
                              refine ev_icmp_le 140 eX11_who_131 rfl (by omega) (by omega) (fun h131 => ?_) (fun h131 => ?_)
                              · skip
                                try (obtain ⟨s, rfl⟩ : ∃ q : Nat, x = q := ⟨x.toNat, by omega⟩)
                                obtain ⟨e1, rfl⟩ : ∃ q : Nat, e = q := ⟨e.toNat, by omega⟩
                                obtain ⟨n1, rfl⟩ : ∃ q : Nat, n = q := ⟨n.toNat, by omega⟩
                                obtain ⟨m1, rfl⟩ : ∃ q : Nat, m = q := ⟨m.toNat, by omega⟩
                                simp only [Int.toNat_natCast]
                                refine ev_aload_n eX11_who_140 rfl ?_
                                refine ev_aload_n eX11_who_141 rfl ?_
                                refine ev_iload_n eX11_who_142 rfl ?_
                                refine ev_iload_n eX11_who_143 rfl ?_
                                refine ev_iload_n eX11_who_144 rfl ?_
                                refine ev_iload eX11_who_145 rfl ?_
                                refine ev_iload eX11_who_147 rfl ?_
                                refine ev_iload eX11_who_149 rfl ?_
                                refine ev_cV6 eX11_who_151 ⟨lX11_315, kX11_bitsThatTell⟩ rfl rfl (c_btt hB hZ hO (it := it) (s := s) (x := y.toNat) (xi := y) (e := e1) (n := n1) (q := q) (m := m1) (by omega) (by omega) ⟨fun z => by omega, fun z => by omega⟩ (fun z => by omega) (by omega) (by omega) (by omega) (fun i hi => k7 i (by omega))) ?_
                                rintro _ χ ⟨rfl, g⟩
                                refine ev_cV1 eX11_who_154 ⟨lX11_98, kX11_unfound⟩ rfl rfl c_unfound ?_
                                rintro _ _ ⟨rfl, rfl⟩
                                refine ev_iret eX11_who_157 rfl ?_
                                refine ⟨fun hc => ?_, fun hc => ?_, fun hc => ?_, fun hc => ?_⟩ <;> first | (exfalso; omega) | skip
                                try exact ⟨rfl, by rw [up_n _ _ (by decide), g 0 (by decide) (by decide)], up_s _ _ _ _, fun k a1 a2 a3 => by rw [up_o _ _ _ a3]; exact g k a1 a2⟩
                              · skip
                                refine ev_aload_n eX11_who_134 rfl ?_
                                refine ev_iconst eX11_who_135 ?_
                                refine ev_cV1 eX11_who_136 ⟨lX11_90, kX11_found⟩ rfl rfl c_found ?_
                                rintro _ _ ⟨rfl, rfl⟩
                                refine ev_iret eX11_who_139 rfl ?_
                                refine ⟨fun hc => ?_, fun hc => ?_, fun hc => ?_, fun hc => ?_⟩ <;> first | (exfalso; omega) | (exact ⟨rfl, rfl⟩)
                            · skip
                              refine ev_aload_n eX11_who_114 rfl ?_
                              refine ev_iconst eX11_who_115 ?_
                              refine ev_cV1 eX11_who_116 ⟨lX11_90, kX11_found⟩ rfl rfl c_found ?_
                              rintro _ _ ⟨rfl, rfl⟩
                              refine ev_iret eX11_who_119 rfl ?_
                              refine ⟨fun hc => ?_, fun hc => ?_, fun hc => ?_, fun hc => ?_⟩ <;> first | (exfalso; omega) | (exact ⟨rfl, rfl⟩)
                          · skip
                            refine ev_ldc eX11_who_99 qX11_89 ?_
                            refine ev_iret eX11_who_101 rfl ?_
                            refine ⟨fun hc => ?_, fun hc => ?_, fun hc => ?_, fun hc => ?_⟩ <;> first | (exfalso; omega) | (exact ⟨rfl, rfl⟩)
                    · skip
                      refine ev_ldc eX11_who_75 qX11_89 ?_
                      refine ev_iret eX11_who_77 rfl ?_
                      refine ⟨fun hc => ?_, fun hc => ?_, fun hc => ?_, fun hc => ?_⟩ <;> first | (exfalso; omega) | (exact ⟨rfl, rfl⟩)
              · skip
                refine ev_ldc eX11_who_51 qX11_89 ?_
                refine ev_iret eX11_who_53 rfl ?_
                refine ⟨fun hc => ?_, fun hc => ?_, fun hc => ?_, fun hc => ?_⟩ <;> first | (exfalso; omega) | (exact ⟨rfl, rfl⟩)
        · skip
          refine ev_ldc eX11_who_28 qX11_89 ?_
          refine ev_iret eX11_who_30 rfl ?_
          refine ⟨fun hc => ?_, fun hc => ?_, fun hc => ?_, fun hc => ?_⟩ <;> first | (exfalso; omega) | (exact ⟨rfl, rfl⟩)
