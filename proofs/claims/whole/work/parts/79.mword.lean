/-! the reference: words, sorts -/
def Lm (B : Bok) (m : Nat) : Prop := (∀ s, s < B 2 → ∀ i, i < ws B s → wd B s i < m) ∧ ∀ i, i < B 3 → rw_ B i < m
def Cap (B : Bok) : Prop := ∀ z, z < 4 → B (16 + z) ≤ 4
def TL (t : Int) (B : Bok) : Prop := Cap B ∧ ∃ T : Nat, t = (T : Int) ∧ T < 16 ∧ ∀ m, m ≤ 4 → (T < 2 ^ m ↔ Lm B m)
theorem or_16 : ∀ T, T < 16 → ∀ x, x < 4 → (T ||| 2 ^ x) < 16 ∧ ∀ m, m < 5 → ((T ||| 2 ^ x) < 2 ^ m ↔ T < 2 ^ m ∧ x < m) := by decide +kernel
theorem TL_or {T x : Nat} {B B' : Bok} (hT : T < 16) (h : ∀ m, m ≤ 4 → (T < 2 ^ m ↔ Lm B m)) (hx : x ≤ 3) (h2 : ∀ m, Lm B' m ↔ Lm B m ∧ x < m) (hc : Cap B') : TL ((T ||| 2 ^ x : Nat) : Int) B' := by
  obtain ⟨a, b⟩ := or_16 T hT x (by omega)
  exact ⟨hc, _, rfl, a, fun m hm => by rw [b m (by omega), h m hm, h2 m]⟩
theorem Lm_cg {B B' : Bok} {m : Nat} (h : ∀ i, i = 2 ∨ i = 3 ∨ 16 ≤ i → B' i = B i) : Lm B' m ↔ Lm B m := by
  unfold Lm ws wd rw_
  rw [h 2 (by omega), h 3 (by omega)]
  constructor
  · rintro ⟨a, b⟩
    exact ⟨fun s hs i hi => by have := a s hs i (by rw [h _ (by omega)]; exact hi); rwa [h _ (by omega)] at this, fun i hi => by have := b i hi; rwa [h _ (by omega)] at this⟩
  · rintro ⟨a, b⟩
    exact ⟨fun s hs i hi => by rw [h _ (by omega)]; exact a s hs i (by rw [h _ (by omega)] at hi; exact hi), fun i hi => by rw [h _ (by omega)]; exact b i hi⟩
theorem TL_cg {t : Int} {B B' : Bok} (h : TL t B) (e : ∀ m, Lm B' m ↔ Lm B m) (ec : ∀ z, z < 4 → B' (16 + z) = B (16 + z)) : TL t B' := by
  obtain ⟨hc, T, a, b, c⟩ := h
  exact ⟨fun z hz => by rw [ec z hz]; exact hc z hz, T, a, b, fun m hm => (c m hm).trans (e m).symm⟩
theorem Lm_n {B : Bok} {s x m : Nat} (h2 : B 2 = s) (hs : s < 4) (hz : B (16 + s) = 0) : Lm (upB (upB B 2 (s + 1)) (4 + s) x) m ↔ Lm B m := by
  have e : ∀ i, i ≠ 2 → (i = 3 ∨ 16 ≤ i) → upB (upB B 2 (s + 1)) (4 + s) x i = B i := fun i a b => by rw [upB_n _ _ (by omega), upB_n _ _ a]
  have e2 : upB (upB B 2 (s + 1)) (4 + s) x 2 = s + 1 := by rw [upB_n _ _ (by omega), upB_s]
  unfold Lm ws wd rw_
  rw [e2, e 3 (by omega) (by omega)]
  constructor
  · rintro ⟨a, b⟩
    exact ⟨fun z hz i hi => by have := a z (by omega) i (by rw [e _ (by omega) (by omega)]; exact hi); rwa [e _ (by omega) (by omega)] at this, fun i hi => by have := b i hi; rwa [e _ (by omega) (by omega)] at this⟩
  · rintro ⟨a, b⟩
    refine ⟨fun z hz2 i hi => ?_, fun i hi => by rw [e _ (by omega) (by omega)]; exact b i hi⟩
    rw [e _ (by omega) (by omega)] at hi ⊢
    by_cases q : z = s
    · subst q; omega
    · exact a z (by omega) i hi
theorem Lm_w {B : Bok} {s k x m : Nat} (h2 : B 2 = s + 1) (hs : s < 4) (hz : B (16 + s) = k) (hk : k < 4) (hcap : Cap B) : Lm (upB (upB B (20 + 4 * s + k) x) (16 + s) (k + 1)) m ↔ Lm B m ∧ x < m := by
  have e : ∀ i, i ≠ 16 + s → i ≠ 20 + 4 * s + k → upB (upB B (20 + 4 * s + k) x) (16 + s) (k + 1) i = B i := fun i a b => by rw [upB_n _ _ a, upB_n _ _ b]
  have e1 : upB (upB B (20 + 4 * s + k) x) (16 + s) (k + 1) (16 + s) = k + 1 := upB_s _ _ _
  have e2 : upB (upB B (20 + 4 * s + k) x) (16 + s) (k + 1) (20 + 4 * s + k) = x := by rw [upB_n _ _ (by omega), upB_s]
  unfold Lm ws wd rw_
  rw [e 2 (by omega) (by omega), e 3 (by omega) (by omega)]
  constructor
  · rintro ⟨a, b⟩
    refine ⟨⟨fun z hz2 i hi => ?_, fun i hi => by have := b i hi; rwa [e _ (by omega) (by omega)] at this⟩, ?_⟩
    · by_cases q : z = s
      · subst q
        have := a z hz2 i (by rw [e1]; omega)
        rwa [e _ (by omega) (by omega)] at this
      · by_cases q2 : 20 + 4 * z + i = 20 + 4 * s + k
        · have := hcap z (by omega)
          omega
        · have := a z hz2 i (by rw [e _ (by omega) (by omega)]; exact hi)
          rwa [e _ (by omega) q2] at this
    · have := a s (by omega) k (by rw [e1]; omega)
      rwa [e2] at this
  · rintro ⟨⟨a, b⟩, c⟩
    refine ⟨fun z hz2 i hi => ?_, fun i hi => by rw [e _ (by omega) (by omega)]; exact b i hi⟩
    by_cases q2 : 20 + 4 * z + i = 20 + 4 * s + k
    · rw [q2, e2]; exact c
    · rw [e _ (by omega) q2]
      by_cases q : z = s
      · subst q
        rw [e1] at hi
        exact a z hz2 i (by omega)
      · rw [e _ (by omega) (by omega)] at hi
        exact a z hz2 i hi
theorem Lm_r {B : Bok} {k x m : Nat} (h2 : B 2 ≤ 4) (hz : B 3 = k) (hk : k < 8) (hcap : Cap B) : Lm (upB (upB B (36 + k) x) 3 (k + 1)) m ↔ Lm B m ∧ x < m := by
  have e : ∀ i, i ≠ 3 → i ≠ 36 + k → upB (upB B (36 + k) x) 3 (k + 1) i = B i := fun i a b => by rw [upB_n _ _ a, upB_n _ _ b]
  have e1 : upB (upB B (36 + k) x) 3 (k + 1) 3 = k + 1 := upB_s _ _ _
  have e2 : upB (upB B (36 + k) x) 3 (k + 1) (36 + k) = x := by rw [upB_n _ _ (by omega), upB_s]
  unfold Lm ws wd rw_
  rw [e 2 (by omega) (by omega), e1, hz]
  constructor
  · rintro ⟨a, b⟩
    refine ⟨⟨fun z hz2 i hi => ?_, fun i hi => by have := b i (by omega); rwa [e _ (by omega) (by omega)] at this⟩, ?_⟩
    · have hc := hcap z (by omega)
      have := a z hz2 i (by rw [e _ (by omega) (by omega)]; exact hi)
      rwa [e _ (by omega) (by omega)] at this
    · have := b k (by omega)
      rwa [e2] at this
  · rintro ⟨⟨a, b⟩, c⟩
    refine ⟨fun z hz2 i hi => ?_, fun i hi => ?_⟩
    · have hc := hcap z (by omega)
      rw [e _ (by omega) (by omega)] at hi
      rw [e _ (by omega) (by omega)]
      exact a z hz2 i hi
    · by_cases q : i = k
      · subst q; rw [e2]; exact c
      · rw [e _ (by omega) (by omega)]; exact b i (by omega)
def Fr (X : Nat → Prop) (τ : St) (B : Bok) : Prop := ∀ j, j < 44 → ¬ X (pm j) → τ 50 j = (B (pm j) : Int)
def Fw (σ τ : St) : Prop := (∀ j, j < 13 ∨ 18 < j → j ≠ 20 → τ 45 j = σ 45 j) ∧ ∀ c, c ≠ 45 → c ≠ 50 → τ c = σ c
theorem Fw.rf (σ : St) : Fw σ σ := ⟨fun _ _ _ => rfl, fun _ _ _ => rfl⟩
theorem Fw.tr {σ τ χ : St} (h : Fw σ τ) (k : Fw τ χ) : Fw σ χ := ⟨fun j hj h2 => (k.1 j hj h2).trans (h.1 j hj h2), fun c hc h2 => (k.2 c hc h2).trans (h.2 c hc h2)⟩
theorem Fx.w {σ τ : St} (h : Fx σ τ) : Fw σ τ := ⟨fun j hj _ => h.1 j hj, fun c hc _ => h.2 c hc⟩
theorem Fw.st {σ τ : St} (h : Fw σ τ) {j : Nat} {x : Int} : Fw σ (up τ 50 j x) := ⟨fun i hi h2 => by rw [up_o _ _ _ (by decide)]; exact h.1 i hi h2, fun c hc h2 => by rw [up_o _ _ _ h2]; exact h.2 c hc h2⟩
theorem Fw.t20 {σ τ : St} (h : Fw σ τ) {x : Int} : Fw σ (up τ 45 20 x) := ⟨fun i hi h2 => by rw [up_n _ _ h2]; exact h.1 i hi h2, fun c hc h2 => by rw [up_o _ _ _ hc]; exact h.2 c hc h2⟩
theorem RM.t20 {τ : St} {tp : Nat → Nat} {n : Nat} {q : Ps} (h : RM τ tp n q) {x : Int} : RM (up τ 45 20 x) tp n q := by
  obtain ⟨h1, h2, h3, h4, h5, h6, h7⟩ := h
  exact ⟨h1.of (by rw [up_n _ _ (by decide)]) (up_o _ _ _ (by decide)), h2, h3, by rw [up_n _ _ (by decide)]; exact h4, by rw [up_n _ _ (by decide)]; exact h5, h6.cg (up_n _ _ (by decide)) (up_n _ _ (by decide)) (up_n _ _ (by decide)), fun z => by rw [up_n _ _ (by decide)]; exact h7 z⟩
theorem pm_inj {i j : Nat} (hi : i < 44) (hj : j < 44) (h : pm i = pm j) : i = j := by rw [← mp_pm i hi, h, mp_pm j hj]
theorem Fr.st {X : Nat → Prop} {τ : St} {B B' : Bok} (h : Fr X τ B) {J x : Nat} (hJ : J < 44) (h1 : B' (pm J) = x) {X' : Nat → Prop} (h2 : ∀ c, c ≠ pm J → ¬ X' c → ¬ X c ∧ B' c = B c) : Fr X' (up τ 50 J (x : Int)) B' := by
  intro j hj hx
  by_cases e : j = J
  · subst e; rw [up_s, h1]
  · obtain ⟨a, b⟩ := h2 (pm j) (fun z => e (pm_inj hj hJ z)) hx
    rw [up_n _ _ e, b]
    exact h j hj a
def Ou (L m : Nat) (σ τ : St) : Prop := ∀ j, ¬ (L ≤ j ∧ j < L + m) → τ 50 j = σ 50 j
theorem Fr.of {X : Nat → Prop} {τ τ' : St} {B : Bok} (h : Fr X τ B) (e : τ' 50 = τ 50) : Fr X τ' B := fun j hj hx => by rw [e]; exact h j hj hx
set_option maxRecDepth 20000 in
theorem m_rw_l {d : Nat} {ρ : St} {tp : Nat → Nat} {n : Nat} {R : Nat × Bok} {L most lb zc : Nat} (hm8 : most ≤ 8) (hL : L + most ≤ 44) (hpm : ∀ i, i < most → pm (L + i) = lb + i) {X : Nat → Prop} (hX : X zc) (hXn : ∀ i, i < most → ¬ X (pm (L + i))) {P : Bok → Prop} (hLm : ∀ (B : Bok) (k x : Nat), P B → Cap B → B zc = k → k < most → (∀ m, Lm (upB (upB B (lb + k) x) zc (k + 1)) m ↔ Lm B m ∧ x < m) ∧ P (upB (upB B (lb + k) x) zc (k + 1)) ∧ Cap (upB (upB B (lb + k) x) zc (k + 1)))  : ∀ (fu : Nat) {k a : Nat} {B : Bok} {τ : St}, most - k < fu → k ≤ most → RM τ tp n (0, a, B) → Fr X τ B → TL (τ 45 20) B → B zc = k → sTl tp n lb zc (most - k) k a B = R → P B → Fw ρ τ → Ou L most ρ τ → Ev (d + 2) mX12_readWord 39 [.ref 45, vi L, vi most, vi k] [] τ (fun r τ => ∃ k : Nat, some (vi k) = r ∧ k ≤ 8 ∧ RM τ tp n (0, R.1, R.2) ∧ Fw ρ τ ∧ Ou L most ρ τ ∧ Fr X τ R.2 ∧ TL (τ 45 20) R.2 ∧ R.2 zc = k ∧ P R.2) := by
  intro fu
  induction fu with
  | zero => intros; omega
  | succ fu ih =>
    intro k a B τ hm h1 h2 h3 h4 h5 h6 h8 h9 h11
    have hR := h2
    obtain ⟨hT, han, hq4, hft, hst, htk, hfa⟩ := id hR
    have hn := hT.2.1
    have hk := htk.2.1
    have hv := htk.1
    refine ev_aload_n eX12_readWord_39 rfl ?_
    refine ev_getiv eX12_readWord_40 fX12_112 rfl (gv 0 hft) ?_
    refine ev_if_ne 119 eX12_readWord_43 rfl (by omega) (fun h43 => False.elim (by omega)) (fun h43 => ?_)
    refine ev_iload_n eX12_readWord_46 rfl ?_
    refine ev_iload_n eX12_readWord_47 rfl ?_
    refine ev_icmp_ge 119 eX12_readWord_48 rfl (by omega) (by omega) (fun h48 => ?_) (fun h48 => ?_)
    · skip
      refine ev_iload_n eX12_readWord_119 rfl ?_
      refine ev_iret eX12_readWord_120 rfl ?_
      rw [show most - k = 0 by omega, show sTl tp n lb zc 0 k a B = (a, B) from rfl] at h6
      subst h6
      exact ⟨k, rfl, by omega, h2, h9, h11, h3, h4, h5, h8⟩
    · skip
      refine ev_aload_n eX12_readWord_51 rfl ?_
      refine ev_geti eX12_readWord_52 fX12_136 rfl ?_
      refine ev_iconst eX12_readWord_55 ?_
      refine ev_icmp_ne 119 eX12_readWord_56 rfl (by omega) (by omega) (fun h56 => ?_) (fun h56 => ?_)
      · skip
        refine ev_iload_n eX12_readWord_119 rfl ?_
        refine ev_iret eX12_readWord_120 rfl ?_
        rw [sTl_f (fun z => by have := (htk.tile.2 z).1; omega)] at h6
        subst h6
        exact ⟨k, rfl, by omega, h2, h9, h11, h3, h4, h5, h8⟩
      · skip
        refine ev_aload_n eX12_readWord_59 rfl ?_
        refine ev_geti eX12_readWord_60 fX12_125 rfl ?_
        refine ev_i2l eX12_readWord_63 (by omega) ?_
        refine ev_ldc2 eX12_readWord_64 qX12_128 ?_
        refine ev_ldc2 eX12_readWord_67 qX12_150 ?_
        refine ev_cS3 eX12_readWord_70 ⟨lX12_70, kX12_in⟩ rfl (m_in (a := (τ 45 16)) (b := 97) (c := 100) (by omega) (by omega) (by omega)) ?_
        rintro _ _ ⟨rfl, rfl⟩
        refine ev_ifb_eq 119 eX12_readWord_73 rfl (fun h73 => ?_) (fun h73 => ?_)
        · skip
          refine ev_iload_n eX12_readWord_119 rfl ?_
          refine ev_iret eX12_readWord_120 rfl ?_
          rw [sTl_f (fun z => h73 (htk.tile.2 z).2)] at h6
          subst h6
          exact ⟨k, rfl, by omega, h2, h9, h11, h3, h4, h5, h8⟩
        · skip
          have hti : isT tp n a := htk.tile.1 ⟨by omega, h73⟩
          obtain ⟨ti1, ti2⟩ := isT_tp hti
          have hlt := isT_lt hti
          have hnx := nx_t (tp := tp) hlt
          have hva : τ 45 16 = (tp a : Int) := (htk.nm.1 (by omega)).trans hnx
          obtain ⟨hcap, T0, hT1, hT2, hT3⟩ := id h4
          have hcu : τ 45 13 = ((a + 1 : Nat) : Int) ∧ a + 1 ≤ n := htk.c1 hnx (by omega) (by omega)
          obtain ⟨hl1, hl2, hl3⟩ := hLm B k (tp a - 97) h8 hcap h5 (by omega)
          refine ev_aload_n eX12_readWord_76 rfl ?_
          refine ev_getr eX12_readWord_77 fX12_22 rfl ?_
          refine ev_iload_n eX12_readWord_80 rfl ?_
          refine ev_iload_n eX12_readWord_81 rfl ?_
          refine ev_iadd eX12_readWord_82 ?_
          refine ev_aload_n eX12_readWord_83 rfl ?_
          refine ev_getiv eX12_readWord_84 fX12_125 rfl hva ?_
          refine ev_bipush eX12_readWord_87 rfl ?_
          refine ev_isub eX12_readWord_89 ?_
          refine ev_iast ((L + k)) eX12_readWord_90 rfl (by first | rfl | omega) (by omega) ?_
          refine ev_aload_n eX12_readWord_91 rfl ?_
          refine ev_dup eX12_readWord_92 rfl ?_
          refine ev_getiv eX12_readWord_93 fX12_152 rfl (gv (T0 : Int) (by rw [up_o _ _ _ (by decide)]; exact hT1)) ?_
          refine ev_iconst eX12_readWord_96 ?_
          refine ev_aload_n eX12_readWord_97 rfl ?_
          refine ev_getiv eX12_readWord_98 fX12_125 rfl (gv (tp a : Int) (by rw [up_o _ _ _ (by decide)]; exact hva)) ?_
          refine ev_bipush eX12_readWord_101 rfl ?_
          refine ev_isub eX12_readWord_103 ?_
          refine ev_ishl eX12_readWord_104 ?_
          refine ev_ior eX12_readWord_105 ?_
          rw [show (tp a : Int) - 97 = ((tp a - 97 : Nat) : Int) by omega, ior_p (by omega) (by omega)]
          refine ev_puti eX12_readWord_106 pX12_152 rfl ?_
          refine ev_iinc eX12_readWord_109 rfl (by decide) ?_
          refine ev_aload_n eX12_readWord_112 rfl ?_
          have hR2 := (h2.st (j := L + k) (x := ((tp a - 97 : Nat) : Int))).t20 (x := ((T0 ||| 2 ^ (tp a - 97) : Nat) : Int))
          refine ev_cV0 eX12_readWord_113 ⟨lX12_143, kX12_nextToken⟩ rfl rfl (m_nextToken hR2.1 (gv ((a + 1 : Nat) : Int) (by rw [up_n _ _ (by decide), up_o _ _ _ (by decide)]; exact hcu.1)) hcu.2) ?_
          rintro _ ξ ⟨rfl, n1, n2, n3, n4⟩
          refine ev_goto 39 eX12_readWord_116 rfl ?_
          refine ih (k := k + 1) (a := a + 1) (B := upB (upB B (lb + k) (tp a - 97)) zc (k + 1)) (by omega) (by omega) ((hR2.nt rfl hcu.2 n1 n2 n3 n4).q rfl rfl) ?_ ?_ (upB_s _ _ _) ?_ hl2 ((h9.st.t20).tr (Fx.nt n3 n4).w) (fun j hj => by rw [n4 50 (by decide), up_o _ _ _ (by decide), up_n _ _ (by omega)]; exact h11 j hj)
          · refine Fr.of ?_ ((n4 50 (by decide)).trans (up_o _ _ _ (by decide)))
            have hXk : lb + k ≠ zc := fun e => hXn k (by omega) (by rw [hpm k (by omega), e]; exact hX)
            exact h3.st (X' := X) (x := tp a - 97) (by omega) (by rw [hpm k (by omega), upB_n _ _ hXk, upB_s]) (fun c a1 a2 => ⟨a2, by rw [upB_n _ _ (fun (z : c = zc) => a2 (by rw [z]; exact hX)), upB_n _ _ (by rw [← hpm k (by omega)]; exact a1)]⟩)
          · rw [n3 20 (by decide) (by decide) (by decide) (by decide), up_s]
            exact TL_or hT2 hT3 ti2 hl1 hl3
          · rw [← h6, show most - k = (most - (k + 1)) + 1 by omega, sTl_t hti]
set_option maxRecDepth 20000 in
theorem m_readWord {d : Nat} {σ : St} {tp : Nat → Nat} {n : Nat} {q : Ps} (hR : RM σ tp n q) {L most lb zc : Nat} (hm8 : most ≤ 8) (hL : L + most ≤ 44) (hpm : ∀ i, i < most → pm (L + i) = lb + i) {X : Nat → Prop} (hX : X zc) (hXn : ∀ i, i < most → ¬ X (pm (L + i))) {P : Bok → Prop} (hLm : ∀ (B : Bok) (k x : Nat), P B → Cap B → B zc = k → k < most → (∀ m, Lm (upB (upB B (lb + k) x) zc (k + 1)) m ↔ Lm B m ∧ x < m) ∧ P (upB (upB B (lb + k) x) zc (k + 1)) ∧ Cap (upB (upB B (lb + k) x) zc (k + 1))) (hF : q.1 = 0 → Fr X σ q.2.2 ∧ TL (σ 45 20) q.2.2 ∧ q.2.2 zc = 0 ∧ P q.2.2) : Ct (d + 2) mX12_readWord [.ref 45, vi L, vi most] σ (fun r τ => ∃ k : Nat, some (vi k) = r ∧ k ≤ 8 ∧ RM τ tp n (sWord tp n lb zc most q) ∧ Fw σ τ ∧ Ou L most σ τ ∧ ((sWord tp n lb zc most q).1 = 0 → Fr X τ (sWord tp n lb zc most q).2.2 ∧ TL (τ 45 20) (sWord tp n lb zc most q).2.2 ∧ (sWord tp n lb zc most q).2.2 zc = k ∧ P (sWord tp n lb zc most q).2.2)) := by
  refine ct_of hX12_readWord (Nat.le_of_ble_eq_true rfl) ?_
  obtain ⟨hT, han, hq4, hft, hst, htk, hfa⟩ := id hR
  have hn := hT.2.1
  have hk := htk.2.1
  have hv := htk.1
  refine ev_iconst eX12_readWord_0 ?_
  refine ev_istore_n eX12_readWord_1 (by decide) ?_
  refine ev_aload_n eX12_readWord_2 rfl ?_
  refine ev_getiv eX12_readWord_3 fX12_112 rfl hft ?_
  refine ev_if_ne 39 eX12_readWord_6 rfl (by omega) (fun h6 => ?_) (fun h6 => ?_)
  · skip
    refine ev_aload_n eX12_readWord_39 rfl ?_
    refine ev_getiv eX12_readWord_40 fX12_112 rfl hft ?_
    refine ev_if_ne 119 eX12_readWord_43 rfl (by omega) (fun h43 => ?_) (fun h43 => False.elim (by omega))
    refine ev_iload_n eX12_readWord_119 rfl ?_
    refine ev_iret eX12_readWord_120 rfl ?_
    rw [sWord_f (by omega)]
    exact ⟨0, rfl, by omega, hR, Fw.rf _, fun _ _ => rfl, fun z => absurd z (by omega)⟩
  · skip
    refine ev_aload_n eX12_readWord_9 rfl ?_
    refine ev_geti eX12_readWord_10 fX12_136 rfl ?_
    refine ev_iconst eX12_readWord_13 ?_
    refine ev_icmp_ne 34 eX12_readWord_14 rfl (by omega) (by omega) (fun h14 => ?_) (fun h14 => ?_)
    · skip
      refine ev_aload_n eX12_readWord_34 rfl ?_
      refine ev_iconst eX12_readWord_35 ?_
      refine ev_cV1 eX12_readWord_36 ⟨lX12_139, kX12_bad⟩ rfl rfl (m_bad2 hR (k := 1) (by decide) (by decide)) ?_
      rintro _ τ ⟨rfl, r1, f1⟩
      have hn1 := sBad_n (k := 1) (q := q) (by decide)
      have hb4 := r1.2.2.1
      refine ev_aload_n eX12_readWord_39 rfl ?_
      refine ev_getiv eX12_readWord_40 fX12_112 rfl r1.2.2.2.1 ?_
      refine ev_if_ne 119 eX12_readWord_43 rfl (by omega) (fun h43 => ?_) (fun h43 => False.elim (by omega))
      refine ev_iload_n eX12_readWord_119 rfl ?_
      refine ev_iret eX12_readWord_120 rfl ?_
      rw [sBad_z (by omega)] at r1
      rw [sWord_n (by omega) (fun z => by have := (htk.tile.2 z).1; omega)]
      exact ⟨0, rfl, by omega, r1, f1.w, fun j _ => by rw [f1.2 50 (by decide)], fun z => absurd (show (1 : Nat) = 0 from z) (by decide)⟩
    · skip
      refine ev_aload_n eX12_readWord_17 rfl ?_
      refine ev_geti eX12_readWord_18 fX12_125 rfl ?_
      refine ev_i2l eX12_readWord_21 (by omega) ?_
      refine ev_ldc2 eX12_readWord_22 qX12_128 ?_
      refine ev_ldc2 eX12_readWord_25 qX12_150 ?_
      refine ev_cS3 eX12_readWord_28 ⟨lX12_70, kX12_in⟩ rfl (m_in (a := (σ 45 16)) (b := 97) (c := 100) (by omega) (by omega) (by omega)) ?_
      rintro _ _ ⟨rfl, rfl⟩
      refine ev_ifb_ne 39 eX12_readWord_31 rfl (fun h31 => ?_) (fun h31 => ?_)
      · skip
        have hti : isT tp n q.2.1 := htk.tile.1 ⟨by omega, h31⟩
        obtain ⟨g1, g2, g3, g4⟩ := hF (by omega)
        refine ev_mono (fun r τ h => ?_) (m_rw_l hm8 hL hpm hX hXn hLm (ρ := σ) (n := n) (R := sTl tp n lb zc most 0 q.2.1 q.2.2) (most + 1) (k := 0) (a := q.2.1) (B := q.2.2) (by omega) (by omega) (hR.q (by omega) rfl) g1 g2 g3 rfl g4 (Fw.rf _) (fun _ _ => rfl))
        obtain ⟨k, y1, y2, y3, y4, y9, y5, y6, y7, y8⟩ := h
        rw [sWord_t (by omega) hti]
        exact ⟨k, y1, y2, y3, y4, y9, fun _ => ⟨y5, y6, y7, y8⟩⟩
      · skip
        refine ev_aload_n eX12_readWord_34 rfl ?_
        refine ev_iconst eX12_readWord_35 ?_
        refine ev_cV1 eX12_readWord_36 ⟨lX12_139, kX12_bad⟩ rfl rfl (m_bad2 hR (k := 1) (by decide) (by decide)) ?_
        rintro _ τ ⟨rfl, r1, f1⟩
        have hn1 := sBad_n (k := 1) (q := q) (by decide)
        have hb4 := r1.2.2.1
        refine ev_aload_n eX12_readWord_39 rfl ?_
        refine ev_getiv eX12_readWord_40 fX12_112 rfl r1.2.2.2.1 ?_
        refine ev_if_ne 119 eX12_readWord_43 rfl (by omega) (fun h43 => ?_) (fun h43 => False.elim (by omega))
        refine ev_iload_n eX12_readWord_119 rfl ?_
        refine ev_iret eX12_readWord_120 rfl ?_
        rw [sBad_z (by omega)] at r1
        rw [sWord_n (by omega) (fun z => h31 (htk.tile.2 z).2)]
        exact ⟨0, rfl, by omega, r1, f1.w, fun j _ => by rw [f1.2 50 (by decide)], fun z => absurd (show (1 : Nat) = 0 from z) (by decide)⟩
