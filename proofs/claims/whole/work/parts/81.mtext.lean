/-! the reference: the text -/
def Sf (τ : St) (Q : Ps) : Prop := Q.1 = 0 → Fr (fun _ => False) τ Q.2.2 ∧ TL (τ 45 20) Q.2.2
theorem Sf.sign {τ τ' : St} {Q : Ps} (h : Sf τ Q) (f : Fx τ τ') {tp : Nat → Nat} {n : Nat} {x : Int} : Sf τ' (sByte tp n x Q) := by
  intro z
  obtain ⟨a, c⟩ := h (sByte_z z)
  rw [sByte_B]
  exact ⟨a.of (f.2 50 (by decide)), by rw [f.1 20 (by omega)]; exact c⟩
theorem Sf.num {τ τ' : St} {Q : Ps} (h : Sf τ Q) (f : Fx τ τ') {tp : Nat → Nat} {n lo hi j v J : Nat} (hJ : J < 44) (hp : pm J = j) (hj : j < 2) (hv : (sNum tp n lo hi j Q).1 = 0 → lo ≤ v ∧ v ≤ hi ∧ (sNum tp n lo hi j Q).2.2 = upB Q.2.2 j v) : Sf (up τ' 50 J (v : Int)) (sNum tp n lo hi j Q) := by
  intro z
  obtain ⟨a, c⟩ := h (sNum_z z)
  rw [(hv z).2.2]
  refine ⟨(a.of (f.2 50 (by decide))).st hJ (by rw [hp, upB_s]) (fun i a1 a2 => ⟨a2, upB_n _ _ (by rw [← hp]; exact a1)⟩), ?_⟩
  rw [up_o _ _ _ (by decide), f.1 20 (by omega)]
  exact TL_up c (by omega) (by omega) (by omega)
theorem Fr.wk {X X' : Nat → Prop} {τ : St} {B : Bok} (h : Fr X τ B) (e : ∀ c, ¬ X' c → ¬ X c) : Fr X' τ B := fun j hj hx => h j hj (e _ hx)
set_option maxRecDepth 20000 in
theorem m_bk_z {d : Nat} {σ : St} {post : Option Value → St → Prop} (hk : ∀ τ : St, (∀ j, j < 44 → τ 50 j = 0) → (∀ c, c ≠ 50 → τ c = σ c) → Ev (d) mX12_book 40 [.ref 45, vi ((44 : Nat) : Int)] [] τ post) : ∀ (fu : Nat) {k : Nat} {τ : St}, 44 - k < fu → k ≤ 44 → (∀ j, j < k → τ 50 j = 0) → (∀ c, c ≠ 50 → τ c = σ c) → Ev (d) mX12_book 21 [.ref 45, vi k] [] τ (post) := by
  intro fu
  induction fu with
  | zero => intros; omega
  | succ fu ih =>
    intro k τ hm h1 h2 h3
    refine ev_iload_n eX12_book_21 rfl ?_
    refine ev_bipush eX12_book_22 rfl ?_
    refine ev_icmp_ge 40 eX12_book_24 rfl (by omega) (by omega) (fun h24 => ?_) (fun h24 => ?_)
    · skip
      obtain rfl : k = 44 := by omega
      exact hk τ h2 h3
    · skip
      refine ev_aload_n eX12_book_27 rfl ?_
      refine ev_getr eX12_book_28 fX12_22 rfl ?_
      refine ev_iload_n eX12_book_31 rfl ?_
      refine ev_iconst eX12_book_32 ?_
      refine ev_iast (k) eX12_book_33 rfl (by first | rfl | omega) (by omega) ?_
      refine ev_iinc eX12_book_34 rfl (by decide) ?_
      refine ev_goto 21 eX12_book_37 rfl ?_
      refine ih (k := k + 1) (by omega) (by omega) (fun j hj => ?_) (fun c hc => by rw [up_o _ _ _ hc]; exact h3 c hc)
      by_cases e : j = k
      · subst e; exact up_s _ _ _ _
      · rw [up_n _ _ e]; exact h2 j (by omega)
set_option maxRecDepth 20000 in
theorem m_bk_r {d : Nat} {σ : St} {tp : Nat → Nat} {n : Nat} {q : Ps} (hR : RM σ tp n q) {u1 : Value} {post : Option Value → St → Prop} (hk9 : ∀ τ, RM τ tp n (sByte tp n 114 q) → Fx σ τ → Ev (d + 3) mX12_book 66 [.ref 45, u1] [] τ post) : Ev (d + 3) mX12_book 40 [.ref 45, u1] [] σ (post) := by
  obtain ⟨hT, han, hq4, hft, hst, htk, hfa⟩ := id hR
  have hn := hT.2.1
  have hk := htk.2.1
  have hv := htk.1
  refine ev_aload_n eX12_book_40 rfl ?_
  refine ev_aload_n eX12_book_41 rfl ?_
  refine ev_geti eX12_book_42 fX12_136 rfl ?_
  refine ev_iconst eX12_book_45 ?_
  refine ev_icmp_ne 62 eX12_book_46 rfl (by omega) (by omega) (fun h46 => ?_) (fun h46 => ?_)
  · skip
    refine ev_iconst eX12_book_62 ?_
    refine ev_cV1 eX12_book_63 ⟨lX12_146, kX12_must⟩ rfl rfl (m_must hR (z := 0) (Or.inl rfl) (c := 0) (fun _ z => absurd z (by decide))) ?_
    rintro _ τ ⟨rfl, r1, f1⟩
    rw [sMust_B0 (c := 114) (fun e => by have := (htk.name (x := 114) (by omega)).2 e; omega)] at r1
    exact hk9 τ r1 f1
  · skip
    refine ev_aload_n eX12_book_49 rfl ?_
    refine ev_geti eX12_book_50 fX12_125 rfl ?_
    refine ev_bipush eX12_book_53 rfl ?_
    refine ev_icmp_ne 62 eX12_book_55 rfl (by omega) (by omega) (fun h55 => ?_) (fun h55 => ?_)
    · skip
      refine ev_iconst eX12_book_62 ?_
      refine ev_cV1 eX12_book_63 ⟨lX12_146, kX12_must⟩ rfl rfl (m_must hR (z := 0) (Or.inl rfl) (c := 0) (fun _ z => absurd z (by decide))) ?_
      rintro _ τ ⟨rfl, r1, f1⟩
      rw [sMust_B0 (c := 114) (fun e => by have := (htk.name (x := 114) (by omega)).2 e; omega)] at r1
      exact hk9 τ r1 f1
    · skip
      have hx : nx tp n q.2.1 = 114 := (htk.name (by omega)).1 (by omega)
      refine ev_iconst eX12_book_58 ?_
      refine ev_goto 63 eX12_book_59 rfl ?_
      refine ev_cV1 eX12_book_63 ⟨lX12_146, kX12_must⟩ rfl rfl (m_must hR (z := 1) (Or.inr rfl) (c := q.2.1 + 1) (fun _ _ => htk.c1 hx (by omega) (by omega))) ?_
      rintro _ τ ⟨rfl, r1, f1⟩
      rw [sMust_B1 hx] at r1
      exact hk9 τ r1 f1
set_option maxRecDepth 20000 in
theorem m_bk_x {d : Nat} {σ : St} {tp : Nat → Nat} {n : Nat} {q : Ps} (hR : RM σ tp n q) {u1 : Value} {post : Option Value → St → Prop} (hk9 : ∀ τ, RM τ tp n (sByte tp n 120 q) → Fx σ τ → Ev (d + 3) mX12_book 174 [.ref 45, u1] [] τ post) : Ev (d + 3) mX12_book 148 [.ref 45, u1] [] σ (post) := by
  obtain ⟨hT, han, hq4, hft, hst, htk, hfa⟩ := id hR
  have hn := hT.2.1
  have hk := htk.2.1
  have hv := htk.1
  refine ev_aload_n eX12_book_148 rfl ?_
  refine ev_aload_n eX12_book_149 rfl ?_
  refine ev_geti eX12_book_150 fX12_136 rfl ?_
  refine ev_iconst eX12_book_153 ?_
  refine ev_icmp_ne 170 eX12_book_154 rfl (by omega) (by omega) (fun h154 => ?_) (fun h154 => ?_)
  · skip
    refine ev_iconst eX12_book_170 ?_
    refine ev_cV1 eX12_book_171 ⟨lX12_146, kX12_must⟩ rfl rfl (m_must hR (z := 0) (Or.inl rfl) (c := 0) (fun _ z => absurd z (by decide))) ?_
    rintro _ τ ⟨rfl, r1, f1⟩
    rw [sMust_B0 (c := 120) (fun e => by have := (htk.name (x := 120) (by omega)).2 e; omega)] at r1
    exact hk9 τ r1 f1
  · skip
    refine ev_aload_n eX12_book_157 rfl ?_
    refine ev_geti eX12_book_158 fX12_125 rfl ?_
    refine ev_bipush eX12_book_161 rfl ?_
    refine ev_icmp_ne 170 eX12_book_163 rfl (by omega) (by omega) (fun h163 => ?_) (fun h163 => ?_)
    · skip
      refine ev_iconst eX12_book_170 ?_
      refine ev_cV1 eX12_book_171 ⟨lX12_146, kX12_must⟩ rfl rfl (m_must hR (z := 0) (Or.inl rfl) (c := 0) (fun _ z => absurd z (by decide))) ?_
      rintro _ τ ⟨rfl, r1, f1⟩
      rw [sMust_B0 (c := 120) (fun e => by have := (htk.name (x := 120) (by omega)).2 e; omega)] at r1
      exact hk9 τ r1 f1
    · skip
      have hx : nx tp n q.2.1 = 120 := (htk.name (by omega)).1 (by omega)
      refine ev_iconst eX12_book_166 ?_
      refine ev_goto 171 eX12_book_167 rfl ?_
      refine ev_cV1 eX12_book_171 ⟨lX12_146, kX12_must⟩ rfl rfl (m_must hR (z := 1) (Or.inr rfl) (c := q.2.1 + 1) (fun _ _ => htk.c1 hx (by omega) (by omega))) ?_
      rintro _ τ ⟨rfl, r1, f1⟩
      rw [sMust_B1 hx] at r1
      exact hk9 τ r1 f1
set_option maxRecDepth 20000 in
theorem m_bk_s {d : Nat} {σ : St} {tp : Nat → Nat} {n : Nat} {R : Ps} {post : Option Value → St → Prop} (hk9 : ∀ (τ : St) (i : Nat), RM τ tp n R → (R.1 = 0 → Fr (fun _ => False) τ R.2.2 ∧ TL (τ 45 20) R.2.2 ∧ Cln R.2.2) → Fw σ τ → Ev (d + 5) mX12_book 148 [.ref 45, vi i] [] τ post) : ∀ (fu : Nat) {i : Nat} {q : Ps} {τ : St}, 5 - i < fu → i ≤ 5 → RM τ tp n q → (q.1 = 0 → Fr (fun _ => False) τ q.2.2 ∧ TL (τ 45 20) q.2.2 ∧ Cln q.2.2 ∧ q.2.2 2 = i) → sSs tp n (5 - i) i q = R → Fw σ τ → Ev (d + 5) mX12_book 105 [.ref 45, vi i] [] τ (post) := by
  intro fu
  induction fu with
  | zero => intros; omega
  | succ fu ih =>
    intro i q τ hm h1 h2 h3 h4 h5
    have hR := h2
    obtain ⟨hT, han, hq4, hft, hst, htk, hfa⟩ := id hR
    have hn := hT.2.1
    have hk := htk.2.1
    have hv := htk.1
    refine ev_iload_n eX12_book_105 rfl ?_
    refine ev_iconst eX12_book_106 ?_
    refine ev_icmp_gt 148 eX12_book_107 rfl (by omega) (by omega) (fun h107 => ?_) (fun h107 => ?_)
    · skip
      have hq1 : q.1 ≠ 0 := fun z => by have := (h3 z).2.2.1.2.2.1; have := (h3 z).2.2.2; omega
      rw [sSs_f hq1] at h4
      subst h4
      exact hk9 τ i h2 (fun z => absurd z hq1) h5
    · skip
      refine ev_aload_n eX12_book_110 rfl ?_
      refine ev_getiv eX12_book_111 fX12_112 rfl hft ?_
      refine ev_if_ne 148 eX12_book_114 rfl (by omega) (fun h114 => ?_) (fun h114 => ?_)
      · skip
        have hq1 : q.1 ≠ 0 := by omega
        rw [sSs_f hq1] at h4
        subst h4
        exact hk9 τ i h2 (fun z => absurd z hq1) h5
      · skip
        refine ev_iload_n eX12_book_117 rfl ?_
        refine ev_if_eq 138 eX12_book_118 rfl (by omega) (fun h118 => ?_) (fun h118 => ?_)
        · skip
          refine ev_aload_n eX12_book_138 rfl ?_
          have hq0 : q.1 = 0 := by omega
          refine ev_cV0 eX12_book_139 ⟨lX12_168, kX12_readSort⟩ rfl rfl (m_readSort h2 hq0 (h3 hq0).1 (h3 hq0).2.1 (h3 hq0).2.2.1) ?_
          rintro _ ξ ⟨rfl, s1, s2, s3⟩
          refine ev_iinc eX12_book_142 rfl (by decide) ?_
          refine ev_goto 105 eX12_book_145 rfl ?_
          refine ih (i := i + 1) (q := sSort tp n q) (by omega) (by omega) s1 (fun z => ?_) ?_ (h5.tr s2)
          · obtain ⟨c1, c2⟩ := sSort_cl (h3 hq0).2.2.1 z
            exact ⟨(s3 z).1, (s3 z).2, c1, by rw [c2, (h3 hq0).2.2.2]⟩
          · rw [← h4, show 5 - i = (5 - (i + 1)) + 1 by omega, sSs_s hq0 (fun z => by omega)]
        · skip
          refine ev_aload_n eX12_book_121 rfl ?_
          refine ev_geti eX12_book_122 fX12_136 rfl ?_
          refine ev_iconst eX12_book_125 ?_
          refine ev_icmp_ne 138 eX12_book_126 rfl (by omega) (by omega) (fun h126 => ?_) (fun h126 => ?_)
          · skip
            refine ev_aload_n eX12_book_138 rfl ?_
            have hq0 : q.1 = 0 := by omega
            refine ev_cV0 eX12_book_139 ⟨lX12_168, kX12_readSort⟩ rfl rfl (m_readSort h2 hq0 (h3 hq0).1 (h3 hq0).2.1 (h3 hq0).2.2.1) ?_
            rintro _ ξ ⟨rfl, s1, s2, s3⟩
            refine ev_iinc eX12_book_142 rfl (by decide) ?_
            refine ev_goto 105 eX12_book_145 rfl ?_
            refine ih (i := i + 1) (q := sSort tp n q) (by omega) (by omega) s1 (fun z => ?_) ?_ (h5.tr s2)
            · obtain ⟨c1, c2⟩ := sSort_cl (h3 hq0).2.2.1 z
              exact ⟨(s3 z).1, (s3 z).2, c1, by rw [c2, (h3 hq0).2.2.2]⟩
            · rw [← h4, show 5 - i = (5 - (i + 1)) + 1 by omega, sSs_s hq0 (fun z => by have := (htk.name (x := 120) (by omega)).2 z.2; omega)]
          · skip
            refine ev_aload_n eX12_book_129 rfl ?_
            refine ev_geti eX12_book_130 fX12_125 rfl ?_
            refine ev_bipush eX12_book_133 rfl ?_
            refine ev_icmp_eq 148 eX12_book_135 rfl (by omega) (by omega) (fun h135 => ?_) (fun h135 => ?_)
            · skip
              rw [show 5 - i = (4 - i) + 1 by omega, sSs_x (by omega) ⟨by omega, (htk.name (by omega)).1 (by omega)⟩] at h4
              subst h4
              exact hk9 τ i h2 (fun z => ⟨(h3 z).1, (h3 z).2.1, (h3 z).2.2.1⟩) h5
            · skip
              refine ev_aload_n eX12_book_138 rfl ?_
              have hq0 : q.1 = 0 := by omega
              refine ev_cV0 eX12_book_139 ⟨lX12_168, kX12_readSort⟩ rfl rfl (m_readSort h2 hq0 (h3 hq0).1 (h3 hq0).2.1 (h3 hq0).2.2.1) ?_
              rintro _ ξ ⟨rfl, s1, s2, s3⟩
              refine ev_iinc eX12_book_142 rfl (by decide) ?_
              refine ev_goto 105 eX12_book_145 rfl ?_
              refine ih (i := i + 1) (q := sSort tp n q) (by omega) (by omega) s1 (fun z => ?_) ?_ (h5.tr s2)
              · obtain ⟨c1, c2⟩ := sSort_cl (h3 hq0).2.2.1 z
                exact ⟨(s3 z).1, (s3 z).2, c1, by rw [c2, (h3 hq0).2.2.2]⟩
              · rw [← h4, show 5 - i = (5 - (i + 1)) + 1 by omega, sSs_s hq0 (fun z => by have := (htk.name (x := 120) (by omega)).2 z.2; omega)]
set_option maxRecDepth 20000 in
theorem m_bk_c {d : Nat} {σ : St}  : ∀ (fu : Nat) {k : Nat} {τ : St}, 44 - k < fu → k ≤ 44 → (∀ j, j < k → τ 49 j = σ 50 j) → (∀ c, c ≠ 49 → τ c = σ c) → Ev (d) mX12_book 274 [.ref 45, vi k] [] τ (fun r τ => some (vi (σ 50 0)) = r ∧ (∀ j, j < 44 → τ 49 j = σ 50 j) ∧ ∀ c, c ≠ 49 → τ c = σ c) := by
  intro fu
  induction fu with
  | zero => intros; omega
  | succ fu ih =>
    intro k τ hm h1 h2 h3
    refine ev_iload_n eX12_book_274 rfl ?_
    refine ev_bipush eX12_book_275 rfl ?_
    refine ev_icmp_ge 298 eX12_book_277 rfl (by omega) (by omega) (fun h277 => ?_) (fun h277 => ?_)
    · skip
      refine ev_aload_n eX12_book_298 rfl ?_
      refine ev_getr eX12_book_299 fX12_19 rfl ?_
      refine ev_iconst eX12_book_302 ?_
      refine ev_ialdv (0) eX12_book_303 rfl (by first | rfl | omega) (by omega) (gv (σ 50 0) (h2 0 (by omega))) ?_
      refine ev_iret eX12_book_304 rfl ?_
      exact ⟨rfl, fun j hj => h2 j (by omega), h3⟩
    · skip
      refine ev_aload_n eX12_book_280 rfl ?_
      refine ev_getr eX12_book_281 fX12_19 rfl ?_
      refine ev_iload_n eX12_book_284 rfl ?_
      refine ev_aload_n eX12_book_285 rfl ?_
      refine ev_getr eX12_book_286 fX12_22 rfl ?_
      refine ev_iload_n eX12_book_289 rfl ?_
      refine ev_ialdv (k) eX12_book_290 rfl (by first | rfl | omega) (by omega) (gv (σ 50 k) (by rw [h3 50 (by decide)])) ?_
      refine ev_iast (k) eX12_book_291 rfl (by first | rfl | omega) (by omega) ?_
      refine ev_iinc eX12_book_292 rfl (by decide) ?_
      refine ev_goto 274 eX12_book_295 rfl ?_
      refine ih (k := k + 1) (by omega) (by omega) (fun j hj => ?_) (fun c hc => by rw [up_o _ _ _ hc]; exact h3 c hc)
      by_cases e : j = k
      · subst e; exact up_s _ _ _ _
      · rw [up_n _ _ e]; exact h2 j (by omega)
set_option maxRecDepth 20000 in
theorem m_book {d : Nat} {σ : St} {tp : Nat → Nat} {n : Nat} (hT : MTp σ tp n) : Ct (d + 5) mX12_book [.ref 45] σ (fun r τ => ((sAll tp n).1 ≠ 0 → some (vi (-1000100 - ((sAll tp n).2.1 : Int))) = r ∧ τ 45 12 = 0 ∧ τ 45 19 = ((sAll tp n).1 : Int) ∧ (∀ j, j < 12 ∨ 20 < j → τ 45 j = σ 45 j) ∧ ∀ c, c ≠ 45 → c ≠ 50 → τ c = σ c) ∧ ((sAll tp n).1 = 0 → some (vi ((sAll tp n).2.2 2 : Int)) = r ∧ τ 45 12 = 0 ∧ τ 45 8 = 0 ∧ τ 45 19 = σ 45 19 ∧ MBk τ 49 (sAll tp n).2.2 ∧ (∀ j, j ≠ 8 → j < 12 ∨ 20 < j → τ 45 j = σ 45 j) ∧ ∀ c, c ≠ 45 → c ≠ 50 → c ≠ 49 → τ c = σ c)) := by
  refine ct_of hX12_book (Nat.le_of_ble_eq_true rfl) ?_
  have hn120 := hT.2.1
  refine ev_aload_n eX12_book_0 rfl ?_
  refine ev_iconst eX12_book_1 ?_
  refine ev_puti eX12_book_2 pX12_121 rfl ?_
  refine ev_aload_n eX12_book_5 rfl ?_
  refine ev_iconst eX12_book_6 ?_
  refine ev_puti eX12_book_7 pX12_112 rfl ?_
  refine ev_aload_n eX12_book_10 rfl ?_
  refine ev_iconst eX12_book_11 ?_
  refine ev_puti eX12_book_12 pX12_152 rfl ?_
  refine ev_aload_n eX12_book_15 rfl ?_
  refine ev_cV0 eX12_book_16 ⟨lX12_143, kX12_nextToken⟩ rfl rfl (m_nextToken (hT.of (by rw [up_n _ _ (by decide), up_n _ _ (by decide), up_n _ _ (by decide)]) (by rw [up_o _ _ _ (by decide), up_o _ _ _ (by decide), up_o _ _ _ (by decide)])) (a := 0) (gv ((0 : Nat) : Int) (by rw [up_n _ _ (by decide), up_n _ _ (by decide), up_s]; rfl)) (by omega)) ?_
  rintro _ ξ ⟨rfl, n1, n2, n3, n4⟩
  refine ev_iconst eX12_book_19 ?_
  refine ev_istore_n eX12_book_20 (by decide) ?_
  refine m_bk_z (σ := ξ) (fun τ0 z1 z2 => ?_) 45 (k := 0) (by omega) (by omega) (fun j hj => by omega) (fun _ _ => rfl)
  have e45 : τ0 45 = ξ 45 := z2 45 (by decide)
  have hR0 : RM τ0 tp n (0, 0, fun _ => 0) := ⟨hT.of (by rw [e45, n3 12 (by decide) (by decide) (by decide) (by decide), up_n _ _ (by decide), up_n _ _ (by decide), up_n _ _ (by decide)]) (by rw [z2 55 (by decide), n4 55 (by decide), up_o _ _ _ (by decide), up_o _ _ _ (by decide), up_o _ _ _ (by decide)]), Nat.zero_le _, Nat.zero_le _, by rw [e45, n3 17 (by decide) (by decide) (by decide) (by decide), up_n _ _ (by decide), up_s]; rfl, by rw [e45]; exact n1, by rw [e45]; exact n2, fun z => absurd rfl z⟩
  have g0 : Sf τ0 (0, 0, fun _ => 0) := fun _ => ⟨fun j hj _ => by rw [z1 j hj]; rfl, fun z _ => Nat.zero_le _, 0, by rw [e45, n3 20 (by decide) (by decide) (by decide) (by decide), up_s]; rfl, by decide, fun m _ => ⟨fun _ => ⟨fun s hs => absurd hs (Nat.not_lt_zero _), fun i hi => absurd hi (Nat.not_lt_zero _)⟩, fun _ => Nat.two_pow_pos m⟩⟩
  have fw0 : Fw σ τ0 := ⟨fun j hj h20 => by rw [e45, n3 j (by omega) (by omega) (by omega) (by omega), up_n _ _ h20, up_n _ _ (by omega), up_n _ _ (by omega)], fun c b1 b2 => by rw [z2 c b2, n4 c b1, up_o _ _ _ b1, up_o _ _ _ b1, up_o _ _ _ b1]⟩
  refine m_bk_r hR0 (fun τ1 r1 f1 => ?_)
  refine ev_aload_n eX12_book_66 rfl ?_
  refine ev_getr eX12_book_67 fX12_22 rfl ?_
  refine ev_iconst eX12_book_70 ?_
  refine ev_aload_n eX12_book_71 rfl ?_
  refine ev_iconst eX12_book_72 ?_
  refine ev_iconst eX12_book_73 ?_
  refine ev_cV2 eX12_book_74 ⟨lX12_158, kX12_figure⟩ rfl rfl (m_figure r1 (lo := 0) (hi := 3) (by omega) (by omega) 0) ?_
  rintro _ τ2 ⟨v2, rfl, r2, f2, y2, w2⟩
  refine ev_iast (1) eX12_book_77 rfl (by first | rfl | omega) (by omega) ?_
  have r2b := r2.st (j := 1) (x := (v2 : Int))
  refine ev_aload_n eX12_book_78 rfl ?_
  refine ev_bipush eX12_book_79 rfl ?_
  refine ev_cV1 eX12_book_81 ⟨lX12_162, kX12_mustSign⟩ rfl rfl (m_mustSign r2b (x := 44) (Or.inl rfl)) ?_
  rintro _ τ3 ⟨rfl, r3, f3⟩
  refine ev_aload_n eX12_book_84 rfl ?_
  refine ev_getr eX12_book_85 fX12_22 rfl ?_
  refine ev_iconst eX12_book_88 ?_
  refine ev_aload_n eX12_book_89 rfl ?_
  refine ev_iconst eX12_book_90 ?_
  refine ev_bipush eX12_book_91 rfl ?_
  refine ev_cV2 eX12_book_93 ⟨lX12_158, kX12_figure⟩ rfl rfl (m_figure r3 (lo := 1) (hi := 9) (by omega) (by omega) 1) ?_
  rintro _ τ4 ⟨v4, rfl, r4, f4, y4, w4⟩
  refine ev_iast (2) eX12_book_96 rfl (by first | rfl | omega) (by omega) ?_
  have r4b := r4.st (j := 2) (x := (v4 : Int))
  refine ev_aload_n eX12_book_97 rfl ?_
  refine ev_bipush eX12_book_98 rfl ?_
  refine ev_cV1 eX12_book_100 ⟨lX12_162, kX12_mustSign⟩ rfl rfl (m_mustSign r4b (x := 59) (Or.inr rfl)) ?_
  rintro _ τ5 ⟨rfl, r5, f5⟩
  refine ev_iconst eX12_book_103 ?_
  refine ev_istore_n eX12_book_104 (by decide) ?_
  have r5 : RM τ5 tp n (sLaw tp n (0, 0, fun _ => 0)) := r5
  have g5 : Sf τ5 (sLaw tp n (0, 0, fun _ => 0)) := ((((g0.sign f1).num f2 (J := 1) (by decide) rfl (by decide) w2).sign f3).num f4 (J := 2) (by decide) rfl (by decide) w4).sign f5
  refine m_bk_s (σ := τ5) (R := sSs tp n 5 0 (sLaw tp n (0, 0, fun _ => 0))) (fun τ6 i r6 g6 f6 => ?_) 6 (i := 0) (q := sLaw tp n (0, 0, fun _ => 0)) (by omega) (by omega) r5 (fun z => ⟨(g5 z).1, (g5 z).2, sLaw_cl tp n, sLaw_o tp n _ (by decide) (by decide)⟩) rfl (Fw.rf _)
  refine m_bk_x r6 (fun τ7 r7 f7 => ?_)
  refine ev_aload_n eX12_book_174 rfl ?_
  refine ev_getr eX12_book_175 fX12_22 rfl ?_
  refine ev_iconst eX12_book_178 ?_
  refine ev_aload_n eX12_book_179 rfl ?_
  refine ev_iconst eX12_book_180 ?_
  refine ev_bipush eX12_book_181 rfl ?_
  refine ev_cV2 eX12_book_183 ⟨lX12_165, kX12_readWord⟩ rfl rfl (m_readWord r7 (L := 4) (most := 8) (lb := 36) (zc := 3) (by omega) (by omega) (fun i hi => pm_R i hi) (X := fun c => c = 3) rfl (fun i hi z => by rw [pm_R i hi] at z; omega) (P := fun B => B 2 ≤ 4) (fun B k x hP hc hz hk => ⟨fun m => Lm_r hP hz hk hc, by show upB (upB B (36 + k) x) 3 (k + 1) 2 ≤ 4; rw [upB_n _ _ (by omega), upB_n _ _ (by omega)]; exact hP, fun z hz4 => by rw [upB_n _ _ (by omega), upB_n _ _ (by omega)]; exact hc z hz4⟩) (fun z => by
        obtain ⟨a1, a2, a3⟩ := g6 (sByte_z z)
        rw [sByte_B]
        exact ⟨(a1.of (f7.2 50 (by decide))).wk (fun _ _ z => z), by rw [f7.1 20 (by omega)]; exact a2, a3.1, a3.2.2.1⟩)) ?_
  rintro _ τ8 ⟨k8, rfl, y8, r8, f8, o8, g8⟩
  refine ev_iast (3) eX12_book_186 rfl (by first | rfl | omega) (by omega) ?_
  have r8b := r8.st (j := 3) (x := (k8 : Int))
  refine ev_aload_n eX12_book_187 rfl ?_
  refine ev_bipush eX12_book_188 rfl ?_
  refine ev_cV1 eX12_book_190 ⟨lX12_162, kX12_mustSign⟩ rfl rfl (m_mustSign r8b (x := 59) (Or.inr rfl)) ?_
  rintro _ τ9 ⟨rfl, r9, f9⟩
  have r9 : RM τ9 tp n (sBody tp n) := r9
  have g9 : (sBody tp n).1 = 0 → Fr (fun _ => False) τ9 (sBody tp n).2.2 ∧ TL (τ9 45 20) (sBody tp n).2.2 ∧ (sBody tp n).2.2 2 ≤ 4 := by
    intro z
    have z8 : (sWord tp n 36 3 8 (sByte tp n 120 (sSs tp n 5 0 (sLaw tp n (0, 0, fun _ => 0))))).1 = 0 := sByte_z z
    obtain ⟨a1, a2, a3, a4⟩ := g8 z8
    have eB : (sBody tp n).2.2 = (sWord tp n 36 3 8 (sByte tp n 120 (sSs tp n 5 0 (sLaw tp n (0, 0, fun _ => 0))))).2.2 := sByte_B _ _ _ _
    rw [eB]
    refine ⟨Fr.of ?_ (f9.2 50 (by decide)), ?_, a4⟩
    · exact a1.st (X' := fun _ => False) (by omega) a3 (fun i b1 _ => ⟨b1, rfl⟩)
    · rw [f9.1 20 (by omega), up_o _ _ _ (by decide)]; exact a2
  have fw9 : Fw σ τ9 := (((((((((fw0.tr f1.w).tr f2.w).st).tr f3.w).tr f4.w).st).tr f5.w).tr f6).tr f7.w).tr f8 |>.st |>.tr f9.w
  clear g8 r8 r7 g6 r6 g5
  generalize hQ9 : sBody tp n = Q9 at r9 g9
  have eA : sAll tp n = sEnd n Q9 := by rw [← hQ9]; rfl
  obtain ⟨hT9, han9, hq9, hft9, hst9, htk9, hfa9⟩ := id r9
  have hk9 := htk9.2.1
  refine ev_aload_n eX12_book_193 rfl ?_
  refine ev_getiv eX12_book_194 fX12_112 rfl hft9 ?_
  refine ev_if_ne 213 eX12_book_197 rfl (by omega) (fun h197 => ?_) (fun h197 => ?_)
  · skip
    refine ev_aload_n eX12_book_213 rfl ?_
    refine ev_getiv eX12_book_214 fX12_112 rfl hft9 ?_
    refine ev_if_ne 239 eX12_book_217 rfl (by omega) (fun h217 => ?_) (fun h217 => False.elim (by omega))
    refine ev_aload_n eX12_book_239 rfl ?_
    refine ev_iconst eX12_book_240 ?_
    refine ev_puti eX12_book_241 pX12_109 rfl ?_
    refine ev_aload_n eX12_book_244 rfl ?_
    refine ev_getiv eX12_book_245 fX12_112 rfl (gv ((Q9.1 : Int)) (by rw [up_n _ _ (by decide)]; exact hft9)) ?_
    refine ev_if_le 267 eX12_book_248 rfl (by omega) (fun h248 => False.elim (by omega)) (fun h248 => ?_)
    refine ev_aload_n eX12_book_251 rfl ?_
    refine ev_aload_n eX12_book_252 rfl ?_
    refine ev_getiv eX12_book_253 fX12_112 rfl (gv ((Q9.1 : Int)) (by rw [up_n _ _ (by decide)]; exact hft9)) ?_
    refine ev_puti eX12_book_256 pX12_171 rfl ?_
    refine ev_ldc eX12_book_259 qX12_174 ?_
    refine ev_aload_n eX12_book_261 rfl ?_
    refine ev_getiv eX12_book_262 fX12_118 rfl (gv ((Q9.2.1 : Int)) (by rw [up_n _ _ (by decide), up_n _ _ (by decide)]; exact (hfa9 (by omega)))) ?_
    refine ev_isub eX12_book_265 ?_
    refine ev_iret eX12_book_266 rfl ?_
    rw [eA, sEnd_f (by omega)]
    refine ⟨fun _ => ⟨rfl, by rw [up_n _ _ (by decide), up_s], up_s _ _ _ _, fun j hj => ?_, fun c b1 b2 => by rw [up_o _ _ _ b1, up_o _ _ _ b1]; exact (fw9).2 c b1 b2⟩, fun hc => absurd hc (by omega)⟩
    rw [up_n _ _ (by omega), up_n _ _ (by omega)]
    exact (fw9).1 j (by omega) (by omega)
  · skip
    refine ev_aload_n eX12_book_200 rfl ?_
    refine ev_geti eX12_book_201 fX12_136 rfl ?_
    refine ev_iconst eX12_book_204 ?_
    refine ev_icmp_eq 213 eX12_book_205 rfl (by omega) (by omega) (fun h205 => ?_) (fun h205 => ?_)
    · skip
      refine ev_aload_n eX12_book_213 rfl ?_
      refine ev_getiv eX12_book_214 fX12_112 rfl hft9 ?_
      refine ev_if_ne 239 eX12_book_217 rfl (by omega) (fun h217 => False.elim (by omega)) (fun h217 => ?_)
      refine ev_aload_n eX12_book_220 rfl ?_
      obtain ⟨gF, ⟨gcap, T0, gT1, gT2, gT3⟩, gB⟩ := g9 (by omega)
      have hdl := Nat.div_le_self T0 (2 ^ Q9.2.2 2)
      have hdv : T0 / 2 ^ Q9.2.2 2 = 0 ↔ T0 < 2 ^ Q9.2.2 2 := Nat.div_eq_zero_iff_lt (Nat.two_pow_pos _)
      have hdm := gT3 _ gB
      obtain ⟨D, hD⟩ : ∃ D, T0 / 2 ^ Q9.2.2 2 = D := ⟨_, rfl⟩
      rw [hD] at hdl hdv
      have hend : ¬ Q9.2.1 < n := htk9.fin.1 (by omega)
      refine ev_getiv eX12_book_221 fX12_152 rfl gT1 ?_
      refine ev_aload_n eX12_book_224 rfl ?_
      refine ev_getr eX12_book_225 fX12_22 rfl ?_
      refine ev_iconst eX12_book_228 ?_
      refine ev_ialdv (0) eX12_book_229 rfl (by first | rfl | omega) (by omega) (gv (Q9.2.2 2 : Int) (gF 0 (by omega) (fun z => z))) ?_
      refine ev_ishr eX12_book_230 ?_
      rw [iShr_n (by omega) (by omega), hD]
      refine ev_if_eq 239 eX12_book_231 rfl (by omega) (fun h231 => ?_) (fun h231 => ?_)
      · skip
        refine ev_aload_n eX12_book_239 rfl ?_
        refine ev_iconst eX12_book_240 ?_
        refine ev_puti eX12_book_241 pX12_109 rfl ?_
        refine ev_aload_n eX12_book_244 rfl ?_
        refine ev_getiv eX12_book_245 fX12_112 rfl (gv ((Q9.1 : Int)) (by rw [up_n _ _ (by decide)]; exact hft9)) ?_
        refine ev_if_le 267 eX12_book_248 rfl (by omega) (fun h248 => ?_) (fun h248 => False.elim (by omega))
        refine ev_aload_n eX12_book_267 rfl ?_
        refine ev_iconst eX12_book_268 ?_
        refine ev_puti eX12_book_269 pX12_175 rfl ?_
        refine ev_iconst eX12_book_272 ?_
        refine ev_istore_n eX12_book_273 (by decide) ?_
        refine ev_mono (fun r χ h => ?_) (m_bk_c (σ := up (up τ9 45 12 0) 45 8 0) 45 (k := 0) (by omega) (by omega) (fun j hj => by omega) (fun _ _ => rfl))
        rw [eA, sEnd_0 (by omega) hend (hdm.1 (hdv.1 (by omega)))]
        obtain ⟨rfl, c1, c2⟩ := h
        refine ⟨fun hc => absurd hc (by omega), fun _ => ⟨?_, by rw [c2 45 (by decide), up_n _ _ (by decide), up_s], by rw [c2 45 (by decide), up_s], ?_, fun j hj => ?_, fun j hj h2 => ?_, fun c b1 b2 b3 => ?_⟩⟩
        · rw [up_o _ _ _ (by decide), up_o _ _ _ (by decide), gF 0 (by omega) (fun z => z)]; rfl
        · rw [c2 45 (by decide), up_n _ _ (by decide), up_n _ _ (by decide)]; exact fw9.1 19 (by omega) (by decide)
        · rw [c1 j hj, up_o _ _ _ (by decide), up_o _ _ _ (by decide)]; exact gF j hj (fun z => z)
        · rw [c2 45 (by decide), up_n _ _ hj, up_n _ _ (by omega)]; exact fw9.1 j (by omega) (by omega)
        · rw [c2 c b3, up_o _ _ _ b1, up_o _ _ _ b1]; exact fw9.2 c b1 b2
      · skip
        refine ev_aload_n eX12_book_234 rfl ?_
        refine ev_iconst eX12_book_235 ?_
        refine ev_cV1 eX12_book_236 ⟨lX12_139, kX12_bad⟩ rfl rfl (m_bad2 r9 (k := 4) (by decide) (by decide)) ?_
        rintro _ τ10 ⟨rfl, r10, f10⟩
        rw [sBad_z (by omega)] at r10
        have hfa10 := r10.2.2.2.2.2.2 (show (4 : Nat) ≠ 0 by decide)
        refine ev_aload_n eX12_book_239 rfl ?_
        refine ev_iconst eX12_book_240 ?_
        refine ev_puti eX12_book_241 pX12_109 rfl ?_
        refine ev_aload_n eX12_book_244 rfl ?_
        refine ev_getiv eX12_book_245 fX12_112 rfl (gv (((4 : Nat) : Int)) (by rw [up_n _ _ (by decide)]; exact r10.2.2.2.1)) ?_
        refine ev_if_le 267 eX12_book_248 rfl (by omega) (fun h248 => False.elim (by omega)) (fun h248 => ?_)
        refine ev_aload_n eX12_book_251 rfl ?_
        refine ev_aload_n eX12_book_252 rfl ?_
        refine ev_getiv eX12_book_253 fX12_112 rfl (gv (((4 : Nat) : Int)) (by rw [up_n _ _ (by decide)]; exact r10.2.2.2.1)) ?_
        refine ev_puti eX12_book_256 pX12_171 rfl ?_
        refine ev_ldc eX12_book_259 qX12_174 ?_
        refine ev_aload_n eX12_book_261 rfl ?_
        refine ev_getiv eX12_book_262 fX12_118 rfl (gv ((Q9.2.1 : Int)) (by rw [up_n _ _ (by decide), up_n _ _ (by decide)]; exact hfa10)) ?_
        refine ev_isub eX12_book_265 ?_
        refine ev_iret eX12_book_266 rfl ?_
        rw [eA, sEnd_4 (by omega) hend (fun z => h231 (by have := hdv.2 (hdm.2 z); omega))]
        refine ⟨fun _ => ⟨rfl, by rw [up_n _ _ (by decide), up_s], up_s _ _ _ _, fun j hj => ?_, fun c b1 b2 => by rw [up_o _ _ _ b1, up_o _ _ _ b1]; exact ((fw9.tr f10.w)).2 c b1 b2⟩, fun hc => absurd (show (4 : Nat) = 0 from hc) (by decide)⟩
        rw [up_n _ _ (by omega), up_n _ _ (by omega)]
        exact ((fw9.tr f10.w)).1 j (by omega) (by omega)
    · skip
      refine ev_aload_n eX12_book_208 rfl ?_
      refine ev_iconst eX12_book_209 ?_
      refine ev_cV1 eX12_book_210 ⟨lX12_139, kX12_bad⟩ rfl rfl (m_bad2 r9 (k := 1) (by decide) (by decide)) ?_
      rintro _ τ10 ⟨rfl, r10, f10⟩
      rw [sBad_z (by omega)] at r10
      have hfa10 := r10.2.2.2.2.2.2 (show (1 : Nat) ≠ 0 by decide)
      refine ev_aload_n eX12_book_213 rfl ?_
      refine ev_getiv eX12_book_214 fX12_112 rfl r10.2.2.2.1 ?_
      refine ev_if_ne 239 eX12_book_217 rfl (by omega) (fun h217 => ?_) (fun h217 => False.elim (by omega))
      refine ev_aload_n eX12_book_239 rfl ?_
      refine ev_iconst eX12_book_240 ?_
      refine ev_puti eX12_book_241 pX12_109 rfl ?_
      refine ev_aload_n eX12_book_244 rfl ?_
      refine ev_getiv eX12_book_245 fX12_112 rfl (gv (((1 : Nat) : Int)) (by rw [up_n _ _ (by decide)]; exact r10.2.2.2.1)) ?_
      refine ev_if_le 267 eX12_book_248 rfl (by omega) (fun h248 => False.elim (by omega)) (fun h248 => ?_)
      refine ev_aload_n eX12_book_251 rfl ?_
      refine ev_aload_n eX12_book_252 rfl ?_
      refine ev_getiv eX12_book_253 fX12_112 rfl (gv (((1 : Nat) : Int)) (by rw [up_n _ _ (by decide)]; exact r10.2.2.2.1)) ?_
      refine ev_puti eX12_book_256 pX12_171 rfl ?_
      refine ev_ldc eX12_book_259 qX12_174 ?_
      refine ev_aload_n eX12_book_261 rfl ?_
      refine ev_getiv eX12_book_262 fX12_118 rfl (gv ((Q9.2.1 : Int)) (by rw [up_n _ _ (by decide), up_n _ _ (by decide)]; exact hfa10)) ?_
      refine ev_isub eX12_book_265 ?_
      refine ev_iret eX12_book_266 rfl ?_
      rw [eA, sEnd_1 (by omega) (Classical.byContradiction (fun z => h205 (htk9.fin.2 z)))]
      refine ⟨fun _ => ⟨rfl, by rw [up_n _ _ (by decide), up_s], up_s _ _ _ _, fun j hj => ?_, fun c b1 b2 => by rw [up_o _ _ _ b1, up_o _ _ _ b1]; exact ((fw9.tr f10.w)).2 c b1 b2⟩, fun hc => absurd (show (1 : Nat) = 0 from hc) (by decide)⟩
      rw [up_n _ _ (by omega), up_n _ _ (by omega)]
      exact ((fw9.tr f10.w)).1 j (by omega) (by omega)
