/-! the reference: ways back, their ends, the first -/
set_option maxRecDepth 20000 in
theorem m_lw_0 {d : Nat} {σ : St} {q n : Nat} (hn : n ≤ 40) {post : Option Value → St → Prop} (hk : ∀ (τ : St), (∀ j, j ≤ n → τ 58 j = bC (j = 0)) → (∀ j, j ≤ n → τ 59 j = bC (j = n)) → (∀ c, c ≠ 58 → c ≠ 59 → τ c = σ c) → Ev (d + 3) mX12_layWays 44 [.ref 45, vi q, vi n, vi ((n + 1 : Nat) : Int), .null, .null] [] τ post) : ∀ (fu : Nat) {i : Nat} {τ : St}, n + 1 - i < fu → i ≤ n + 1 → (∀ j, j < i → τ 58 j = bC (j = 0)) → (∀ j, j < i → τ 59 j = bC (j = n)) → (∀ c, c ≠ 58 → c ≠ 59 → τ c = σ c) → Ev (d + 3) mX12_layWays 2 [.ref 45, vi q, vi n, vi i, .null, .null] [] τ (post) := by
  intro fu
  induction fu with
  | zero => intros; omega
  | succ fu ih =>
    intro i τ hm h1 h2 h3 h4
    refine ev_iload_n eX12_layWays_2 rfl ?_
    refine ev_iload_n eX12_layWays_3 rfl ?_
    refine ev_icmp_gt 44 eX12_layWays_4 rfl (by omega) (by omega) (fun hpc4 => ?_) (fun hpc4 => ?_)
    · skip
      obtain rfl : i = n + 1 := by omega
      exact hk τ (fun j hj => h2 j (by omega)) (fun j hj => h3 j (by omega)) h4
    · skip
      refine ev_aload_n eX12_layWays_7 rfl ?_
      refine ev_getr eX12_layWays_8 fX12_47 rfl ?_
      refine ev_iload_n eX12_layWays_11 rfl ?_
      refine ev_iload_n eX12_layWays_12 rfl ?_
      refine ev_if_ne 20 eX12_layWays_13 rfl (by omega) (fun h13 => ?_) (fun h13 => ?_)
      · skip
        refine ev_iconst eX12_layWays_20 ?_
        refine ev_iast (i) eX12_layWays_21 rfl (by first | rfl | omega) (by omega) ?_
        refine ev_aload_n eX12_layWays_22 rfl ?_
        refine ev_getr eX12_layWays_23 fX12_50 rfl ?_
        refine ev_iload_n eX12_layWays_26 rfl ?_
        refine ev_iload_n eX12_layWays_27 rfl ?_
        refine ev_iload_n eX12_layWays_28 rfl ?_
        refine ev_icmp_ne 36 eX12_layWays_29 rfl (by omega) (by omega) (fun h29 => ?_) (fun h29 => ?_)
        · skip
          refine ev_iconst eX12_layWays_36 ?_
          refine ev_zast (i) eX12_layWays_37 rfl (by first | rfl | omega) (by omega) (by first | exact Or.inl rfl | exact Or.inr rfl | exact bI01 _) ?_
          refine ev_iinc eX12_layWays_38 rfl (by decide) ?_
          refine ev_goto 2 eX12_layWays_41 rfl ?_
          refine ih (i := i + 1) (by omega) (by omega) (fun j hj => ?_) (fun j hj => ?_) (fun c a1 a2 => by rw [up_o _ _ _ a2, up_o _ _ _ a1]; exact h4 c a1 a2)
          · rw [up_o _ _ _ (by decide)]
            by_cases e : j = i
            · subst e; rw [up_s]; first | exact (bI_t (by omega)).symm | exact (bI_f (by omega)).symm
            · rw [up_n _ _ e]; exact h2 j (by omega)
          · by_cases e : j = i
            · subst e; rw [up_s]; first | exact (bI_t (by omega)).symm | exact (bI_f (by omega)).symm
            · rw [up_n _ _ e, up_o _ _ _ (by decide)]; exact h3 j (by omega)
        · skip
          refine ev_iconst eX12_layWays_32 ?_
          refine ev_goto 37 eX12_layWays_33 rfl ?_
          refine ev_zast (i) eX12_layWays_37 rfl (by first | rfl | omega) (by omega) (by first | exact Or.inl rfl | exact Or.inr rfl | exact bI01 _) ?_
          refine ev_iinc eX12_layWays_38 rfl (by decide) ?_
          refine ev_goto 2 eX12_layWays_41 rfl ?_
          refine ih (i := i + 1) (by omega) (by omega) (fun j hj => ?_) (fun j hj => ?_) (fun c a1 a2 => by rw [up_o _ _ _ a2, up_o _ _ _ a1]; exact h4 c a1 a2)
          · rw [up_o _ _ _ (by decide)]
            by_cases e : j = i
            · subst e; rw [up_s]; first | exact (bI_t (by omega)).symm | exact (bI_f (by omega)).symm
            · rw [up_n _ _ e]; exact h2 j (by omega)
          · by_cases e : j = i
            · subst e; rw [up_s]; first | exact (bI_t (by omega)).symm | exact (bI_f (by omega)).symm
            · rw [up_n _ _ e, up_o _ _ _ (by decide)]; exact h3 j (by omega)
      · skip
        refine ev_iconst eX12_layWays_16 ?_
        refine ev_goto 21 eX12_layWays_17 rfl ?_
        refine ev_iast (i) eX12_layWays_21 rfl (by first | rfl | omega) (by omega) ?_
        refine ev_aload_n eX12_layWays_22 rfl ?_
        refine ev_getr eX12_layWays_23 fX12_50 rfl ?_
        refine ev_iload_n eX12_layWays_26 rfl ?_
        refine ev_iload_n eX12_layWays_27 rfl ?_
        refine ev_iload_n eX12_layWays_28 rfl ?_
        refine ev_icmp_ne 36 eX12_layWays_29 rfl (by omega) (by omega) (fun h29 => ?_) (fun h29 => ?_)
        · skip
          refine ev_iconst eX12_layWays_36 ?_
          refine ev_zast (i) eX12_layWays_37 rfl (by first | rfl | omega) (by omega) (by first | exact Or.inl rfl | exact Or.inr rfl | exact bI01 _) ?_
          refine ev_iinc eX12_layWays_38 rfl (by decide) ?_
          refine ev_goto 2 eX12_layWays_41 rfl ?_
          refine ih (i := i + 1) (by omega) (by omega) (fun j hj => ?_) (fun j hj => ?_) (fun c a1 a2 => by rw [up_o _ _ _ a2, up_o _ _ _ a1]; exact h4 c a1 a2)
          · rw [up_o _ _ _ (by decide)]
            by_cases e : j = i
            · subst e; rw [up_s]; first | exact (bI_t (by omega)).symm | exact (bI_f (by omega)).symm
            · rw [up_n _ _ e]; exact h2 j (by omega)
          · by_cases e : j = i
            · subst e; rw [up_s]; first | exact (bI_t (by omega)).symm | exact (bI_f (by omega)).symm
            · rw [up_n _ _ e, up_o _ _ _ (by decide)]; exact h3 j (by omega)
        · skip
          refine ev_iconst eX12_layWays_32 ?_
          refine ev_goto 37 eX12_layWays_33 rfl ?_
          refine ev_zast (i) eX12_layWays_37 rfl (by first | rfl | omega) (by omega) (by first | exact Or.inl rfl | exact Or.inr rfl | exact bI01 _) ?_
          refine ev_iinc eX12_layWays_38 rfl (by decide) ?_
          refine ev_goto 2 eX12_layWays_41 rfl ?_
          refine ih (i := i + 1) (by omega) (by omega) (fun j hj => ?_) (fun j hj => ?_) (fun c a1 a2 => by rw [up_o _ _ _ a2, up_o _ _ _ a1]; exact h4 c a1 a2)
          · rw [up_o _ _ _ (by decide)]
            by_cases e : j = i
            · subst e; rw [up_s]; first | exact (bI_t (by omega)).symm | exact (bI_f (by omega)).symm
            · rw [up_n _ _ e]; exact h2 j (by omega)
          · by_cases e : j = i
            · subst e; rw [up_s]; first | exact (bI_t (by omega)).symm | exact (bI_f (by omega)).symm
            · rw [up_n _ _ e, up_o _ _ _ (by decide)]; exact h3 j (by omega)
set_option maxRecDepth 20000 in
theorem m_lw_f {d : Nat} {σ : St} {B : Bok} (hM : MBk σ 49 B) (hO : Ok B) {l : Nat → Nat} {q n : Nat} (hq : q < 8) (hn : n ≤ 40) (hit : ∀ j, j < n → l j < 4 ∧ σ 48 (40 * q + j) = (l j : Int)) {N : Nat → Nat} {i : Nat} (hi : i < n) {post : Option Value → St → Prop} (hk : ∀ (τ : St) (u : Value), (∀ j, i < j → j ≤ n → τ 59 j = bC (0 < N j)) → τ 59 i = bC (∃ z, z < B 2 ∧ Gn B l n N i z) → (∀ j, j < i → τ 59 j = 0) → (∀ c, c ≠ 59 → τ c = σ c) → Ev (d + 3) mX12_layWays 228 [.ref 45, vi q, vi n, vi i, vi (B 2), u] [] τ post) : ∀ (fu : Nat) {s : Nat} {u5 : Value} {τ : St}, B 2 - s < fu → s ≤ B 2 → (∀ j, i < j → j ≤ n → τ 59 j = bC (0 < N j)) → τ 59 i = bC (∃ z, z < s ∧ Gn B l n N i z) → (∀ j, j < i → τ 59 j = 0) → (∀ c, c ≠ 59 → τ c = σ c) → Ev (d + 3) mX12_layWays 160 [.ref 45, vi q, vi n, vi i, vi s, u5] [] τ (post) := by
  intro fu
  induction fu with
  | zero => intros; omega
  | succ fu ih =>
    intro s u5 τ hm h1 h2 h3 h5 h4
    have hf := hO.1
    have h7 := hf.2.1
    have him := fun h => im_le hf (s := s) h
    refine ev_iload eX12_layWays_160 rfl ?_
    refine ev_aload_n eX12_layWays_162 rfl ?_
    refine ev_getr eX12_layWays_163 fX12_19 rfl ?_
    refine ev_iconst eX12_layWays_166 ?_
    refine ev_ialdv (0) eX12_layWays_167 rfl (by first | rfl | omega) (by omega) (show τ 49 0 = (B 2 : Int) by rw [h4 49 (by decide)]; exact hM.S) ?_
    refine ev_icmp_ge 228 eX12_layWays_168 rfl (by omega) (by omega) (fun h168 => ?_) (fun h168 => ?_)
    · skip
      obtain rfl : s = B 2 := by omega
      exact hk τ _ h2 h3 h5 h4
    · skip
      refine ev_aload_n eX12_layWays_171 rfl ?_
      refine ev_getr eX12_layWays_172 fX12_50 rfl ?_
      refine ev_iload_n eX12_layWays_175 rfl ?_
      refine ev_aload_n eX12_layWays_176 rfl ?_
      refine ev_getr eX12_layWays_177 fX12_50 rfl ?_
      refine ev_iload_n eX12_layWays_180 rfl ?_
      refine ev_zaldv (i) eX12_layWays_181 rfl (by first | rfl | omega) (by omega) h3 ?_
      refine ev_ifb_ne 216 eX12_layWays_182 rfl (fun h182 => ?_) (fun h182 => ?_)
      · skip
        refine ev_iconst eX12_layWays_216 ?_
        refine ev_goto 221 eX12_layWays_217 rfl ?_
        refine ev_zast (i) eX12_layWays_221 rfl (by first | rfl | omega) (by omega) (by first | exact Or.inl rfl | exact Or.inr rfl | exact bI01 _) ?_
        refine ev_iinc eX12_layWays_222 rfl (by decide) ?_
        refine ev_goto 160 eX12_layWays_225 rfl ?_
        refine ih (s := s + 1) (by omega) (by omega) (fun j a1 a2 => by rw [up_n _ _ (by omega)]; exact h2 j a1 a2) ?_ (fun j a1 => by rw [up_n _ _ (by omega)]; exact h5 j a1) (fun c a1 => by rw [up_o _ _ _ a1]; exact h4 c a1)
        rw [up_s]
        exact (bI_t (let ⟨z, a, b⟩ := h182; ⟨z, by omega, b⟩)).symm
      · skip
        have him1 := hO.im1 (s := s) (by omega)
        refine ev_aload_n eX12_layWays_185 rfl ?_
        refine ev_iload eX12_layWays_186 rfl ?_
        refine ev_iload_n eX12_layWays_188 rfl ?_
        refine ev_iload_n eX12_layWays_189 rfl ?_
        refine ev_iload_n eX12_layWays_190 rfl ?_
        refine ev_cV4 eX12_layWays_191 ⟨lX12_262, kX12_isImageAt⟩ rfl rfl (m_isImageAt (hM.of (h4 49 (by decide))) hO hq hn (fun j hj => ⟨(hit j hj).1, by rw [h4 48 (by decide)]; exact (hit j hj).2⟩) (s := s) (a := i) (by omega) (by omega)) ?_
        rintro _ _ ⟨rfl, rfl⟩
        refine ev_ifb_eq 220 eX12_layWays_194 rfl (fun hla => ?_) (fun hla => ?_)
        · skip
          refine ev_iconst eX12_layWays_220 ?_
          refine ev_zast (i) eX12_layWays_221 rfl (by first | rfl | omega) (by omega) (by first | exact Or.inl rfl | exact Or.inr rfl | exact bI01 _) ?_
          refine ev_iinc eX12_layWays_222 rfl (by decide) ?_
          refine ev_goto 160 eX12_layWays_225 rfl ?_
          refine ih (s := s + 1) (by omega) (by omega) (fun j a1 a2 => by rw [up_n _ _ (by omega)]; exact h2 j a1 a2) ?_ (fun j a1 => by rw [up_n _ _ (by omega)]; exact h5 j a1) (fun c a1 => by rw [up_o _ _ _ a1]; exact h4 c a1)
          rw [up_s]
          exact (bI_f (fun ⟨z, a, b⟩ => by
            by_cases e : z = s
            · subst e; exact hla b.1
            · exact h182 ⟨z, by omega, b⟩)).symm
        · skip
          have hle := hla.1
          refine ev_aload_n eX12_layWays_197 rfl ?_
          refine ev_getr eX12_layWays_198 fX12_50 rfl ?_
          refine ev_iload_n eX12_layWays_201 rfl ?_
          refine ev_aload_n eX12_layWays_202 rfl ?_
          refine ev_getr eX12_layWays_203 fX12_19 rfl ?_
          refine ev_iload eX12_layWays_206 rfl ?_
          refine ev_cS2 eX12_layWays_208 ⟨lX12_100, kX12_imageSize⟩ rfl (m_imageSize (Or.inl rfl) (hM.of (h4 49 (by decide))) hf (s := s) (by omega)) ?_
          rintro _ _ ⟨rfl, rfl⟩
          refine ev_iadd eX12_layWays_211 ?_
          refine ev_zaldv ((i + im B s)) eX12_layWays_212 rfl (by first | rfl | omega) (by omega) (h2 (i + im B s) (by omega) (by omega)) ?_
          refine ev_ifb_eq 220 eX12_layWays_213 rfl (fun h213 => ?_) (fun h213 => ?_)
          · skip
            refine ev_iconst eX12_layWays_220 ?_
            refine ev_zast (i) eX12_layWays_221 rfl (by first | rfl | omega) (by omega) (by first | exact Or.inl rfl | exact Or.inr rfl | exact bI01 _) ?_
            refine ev_iinc eX12_layWays_222 rfl (by decide) ?_
            refine ev_goto 160 eX12_layWays_225 rfl ?_
            refine ih (s := s + 1) (by omega) (by omega) (fun j a1 a2 => by rw [up_n _ _ (by omega)]; exact h2 j a1 a2) ?_ (fun j a1 => by rw [up_n _ _ (by omega)]; exact h5 j a1) (fun c a1 => by rw [up_o _ _ _ a1]; exact h4 c a1)
            rw [up_s]
            exact (bI_f (fun ⟨z, a, b⟩ => by
              by_cases e : z = s
              · subst e; exact h213 b.2
              · exact h182 ⟨z, by omega, b⟩)).symm
          · skip
            refine ev_iconst eX12_layWays_216 ?_
            refine ev_goto 221 eX12_layWays_217 rfl ?_
            refine ev_zast (i) eX12_layWays_221 rfl (by first | rfl | omega) (by omega) (by first | exact Or.inl rfl | exact Or.inr rfl | exact bI01 _) ?_
            refine ev_iinc eX12_layWays_222 rfl (by decide) ?_
            refine ev_goto 160 eX12_layWays_225 rfl ?_
            refine ih (s := s + 1) (by omega) (by omega) (fun j a1 a2 => by rw [up_n _ _ (by omega)]; exact h2 j a1 a2) ?_ (fun j a1 => by rw [up_n _ _ (by omega)]; exact h5 j a1) (fun c a1 => by rw [up_o _ _ _ a1]; exact h4 c a1)
            rw [up_s]
            exact (bI_t ⟨s, by omega, hla, h213⟩).symm
set_option maxRecDepth 20000 in
theorem m_lw_e {d : Nat} {σ : St} {B : Bok} (hM : MBk σ 49 B) (hO : Ok B) {l : Nat → Nat} {q n : Nat} (hq : q < 8) (hn : n ≤ 40) (hit : ∀ j, j < n → l j < 4 ∧ σ 48 (40 * q + j) = (l j : Int)) {N : Nat → Nat} (hN : Nw B l n N) : ∀ (fu : Nat) {k : Nat} {u4 u5 : Value} {τ : St}, k < fu → k ≤ n → (∀ j, k ≤ j → j ≤ n → τ 59 j = bC (0 < N j)) → (∀ j, j < k → τ 59 j = 0) → (∀ c, c ≠ 59 → τ c = σ c) → Ev (d + 3) mX12_layWays 153 [.ref 45, vi q, vi n, vi ((k : Int) - 1), u4, u5] [] τ (fun r τ => none = r ∧ (∀ j, j ≤ n → τ 59 j = bC (0 < N j)) ∧ (∀ c, c ≠ 59 → τ c = σ c)) := by
  intro fu
  induction fu with
  | zero => intros; omega
  | succ fu ih =>
    intro k u4 u5 τ hm h1 h2 h3 h4
    have hf := hO.1
    have h7 := hf.2.1
    refine ev_iload_n eX12_layWays_153 rfl ?_
    refine ev_if_lt 234 eX12_layWays_154 rfl (by omega) (fun h154 => ?_) (fun h154 => ?_)
    · skip
      refine ev_ret eX12_layWays_234 rfl ?_
      obtain rfl : k = 0 := by omega
      exact ⟨rfl, fun j hj => h2 j (by omega) hj, h4⟩
    · skip
      obtain ⟨i, rfl⟩ : ∃ i, k = i + 1 := ⟨k - 1, by omega⟩
      rw [show (((i + 1 : Nat) : Int) - 1) = (i : Int) by omega]
      have hi : i < n := by omega
      refine ev_iconst eX12_layWays_157 ?_
      refine ev_istore eX12_layWays_158 (by decide) ?_
      refine m_lw_f hM hO hq hn hit (N := N) (i := i) hi (fun τ u k1 k2 k3 k4 => ?_) 5 (s := 0) (by omega) (by omega) (fun j a1 a2 => h2 j (by omega) a2) ?_ (fun j a1 => h3 j (by omega)) h4
      rotate_left
      · rw [h3 i (by omega)]; exact (bI_f (fun ⟨z, a, b⟩ => by omega)).symm
      refine ev_iinc eX12_layWays_228 rfl (by decide) ?_
      refine ev_goto 153 eX12_layWays_231 rfl ?_
      refine ih (k := i) (by omega) (by omega) (fun j a1 a2 => ?_) k3 k4
      by_cases e : j = i
      · subst e; rw [k2]; exact bI_iff (N_p hN hi).symm
      · exact k1 j (by omega) a2
theorem bC0_min (j : Nat) : bC (j = 0) = ((min (if j = 0 then 1 else 0) CR : Nat) : Int) := by
  by_cases e : j = 0
  · exact (bI_t e).trans (by rw [if_pos e]; rfl)
  · exact (bI_f e).trans (by rw [if_neg e]; rfl)
set_option maxRecDepth 20000 in
theorem m_layWays {d : Nat} {σ : St} {B : Bok} (hM : MBk σ 49 B) (hO : Ok B) {l : Nat → Nat} {q n : Nat} (hq : q < 8) (hn : n ≤ 40) (hit : ∀ j, j < n → l j < 4 ∧ σ 48 (40 * q + j) = (l j : Int)) {N : Nat → Nat} (hN : Nw B l n N) : Ct (d + 3) mX12_layWays [.ref 45, vi q, vi n] σ (fun r τ => none = r ∧ τ 58 n = ((min (N 0) CR : Nat) : Int) ∧ (∀ j, j ≤ n → τ 59 j = bC (0 < N j)) ∧ ∀ c, c ≠ 58 → c ≠ 59 → τ c = σ c) := by
  refine ct_of hX12_layWays (Nat.le_of_ble_eq_true rfl) ?_
  have hf := hO.1
  have h7 := hf.2.1
  refine ev_iconst eX12_layWays_0 ?_
  refine ev_istore_n eX12_layWays_1 (by decide) ?_
  refine m_lw_0 hn (fun τ a1 a2 a3 => ?_) (n + 2) (i := 0) (by omega) (by omega) (fun j hj => by omega) (fun j hj => by omega) (fun _ _ _ => rfl)
  refine ev_iconst eX12_layWays_44 ?_
  refine ev_istore_n eX12_layWays_45 (by decide) ?_
  refine m_lw_i hM hO hq hn hit hN (fun τ2 U u4 u5 b1 b2 b3 b4 => ?_) (n + 1) (i := 0) (U := fun j => if j = 0 then 1 else 0) (by omega) (by omega) (fun j hj => by rw [a1 j hj]; exact bC0_min j) (by rw [Tw_0]; show 0 + 1 * N 0 = N 0; omega) a2 a3
  refine ev_iload_n eX12_layWays_149 rfl ?_
  refine ev_iconst eX12_layWays_150 ?_
  refine ev_isub eX12_layWays_151 ?_
  refine ev_istore_n eX12_layWays_152 (by decide) ?_
  refine ev_mono (fun r τ3 h => ⟨h.1, by rw [h.2.2 58 (by decide), b1 n (Nat.le_refl _), b2], h.2.1, fun c c1 c2 => by rw [h.2.2 c c2, b4 c c1 c2]⟩) (m_lw_e (σ := τ2) (hM.of (b4 49 (by decide) (by decide))) hO hq hn (fun j hj => ⟨(hit j hj).1, by rw [b4 48 (by decide) (by decide)]; exact (hit j hj).2⟩) hN (n + 1) (k := n) (by omega) (by omega) (fun j a1 a2 => ?_) (fun j a1 => ?_) (fun c _ => rfl))
  · obtain rfl : j = n := by omega
    rw [b3 j a2]
    exact (bI_t rfl).trans (bI_t (by rw [hN.1]; omega)).symm
  · rw [b3 j (by omega)]; exact bI_f (by omega)
def BsN (P : Nat → Prop) (M m : Nat) (b : Int) : Prop := (b = -1000000 ∧ ∀ q, m ≤ q → q < M → ¬ P q) ∨ ∃ s : Nat, m ≤ s ∧ s < M ∧ P s ∧ (∀ q, m ≤ q → q < s → ¬ P q) ∧ b = (s : Int)
noncomputable def fN (P : Nat → Prop) (M : Nat) : Int := if lm P M = -1 then -1000000 else lm P M
theorem BsN_0 {P : Nat → Prop} {M : Nat} {b : Int} (h : BsN P M 0 b) : b = fN P M := by
  unfold fN
  rcases h with ⟨rfl, h⟩ | ⟨s, _, h2, h3, h4, rfl⟩
  · rw [lm_n (fun q hq => h q (by omega) hq), if_pos rfl]
  · rw [lm_s h2 h3 (fun q hq => h4 q (by omega) hq), if_neg (by omega)]
theorem BsN_t {P : Nat → Prop} {M k : Nat} (h : P k) (hk : k < M) : BsN P M k (k : Int) := Or.inr ⟨k, Nat.le_refl _, hk, h, fun q a b => by omega, rfl⟩
theorem BsN_f {P : Nat → Prop} {M k : Nat} {b : Int} (h : ¬ P k) (hb : BsN P M (k + 1) b) : BsN P M k b := by
  rcases hb with ⟨rfl, hb⟩ | ⟨s, h1, h2, h3, h4, rfl⟩
  · refine Or.inl ⟨rfl, fun q a c => ?_⟩
    by_cases e : q = k
    · subst e; exact h
    · exact hb q (by omega) c
  · refine Or.inr ⟨s, by omega, h2, h3, fun q a c => ?_, rfl⟩
    by_cases e : q = k
    · subst e; exact h
    · exact h4 q (by omega) c
set_option maxRecDepth 20000 in
theorem m_fa_l {d : Nat} {σ : St} {B : Bok} (hM : MBk σ 49 B) (hO : Ok B) {l : Nat → Nat} {q n : Nat} (hq : q < 8) (hn : n ≤ 40) (hit : ∀ j, j < n → l j < 4 ∧ σ 48 (40 * q + j) = (l j : Int)) {N : Nat → Nat} (hE : ∀ j, j ≤ n → σ 59 j = bC (0 < N j)) {a : Nat} (ha : a ≤ n)  : ∀ (fu : Nat) {m : Nat} {b : Int}, m < fu → m ≤ B 2 → BsN (Gn B l n N a) (B 2) m b → Ev (d + 3) mX12_firstAt 14 [.ref 45, vi q, vi a, vi n, vi b, vi ((m : Int) - 1)] [] σ (rt (vi (fN (Gn B l n N a) (B 2))) σ) := by
  intro fu
  induction fu with
  | zero => intros; omega
  | succ fu ih =>
    intro m b hm h1 h2
    have hf := hO.1
    have h7 := hf.2.1
    refine ev_iload eX12_firstAt_14 rfl ?_
    refine ev_if_lt 65 eX12_firstAt_16 rfl (by omega) (fun h16 => ?_) (fun h16 => ?_)
    · skip
      refine ev_iload eX12_firstAt_65 rfl ?_
      refine ev_iret eX12_firstAt_67 rfl ?_
      obtain rfl : m = 0 := by omega
      exact ⟨congrArg (fun q => some (vi q)) (BsN_0 h2).symm, rfl⟩
    · skip
      obtain ⟨k, rfl⟩ : ∃ k, m = k + 1 := ⟨m - 1, by omega⟩
      rw [show (((k + 1 : Nat) : Int) - 1) = (k : Int) by omega]
      have him := im_le hf (s := k) (by omega)
      refine ev_aload_n eX12_firstAt_19 rfl ?_
      refine ev_iload eX12_firstAt_20 rfl ?_
      refine ev_iload_n eX12_firstAt_22 rfl ?_
      refine ev_iload_n eX12_firstAt_23 rfl ?_
      refine ev_iload_n eX12_firstAt_24 rfl ?_
      refine ev_cV4 eX12_firstAt_25 ⟨lX12_262, kX12_isImageAt⟩ rfl rfl (m_isImageAt hM hO hq hn hit (s := k) (a := a) (by omega) (by omega)) ?_
      rintro _ _ ⟨rfl, rfl⟩
      refine ev_ifb_eq 55 eX12_firstAt_28 rfl (fun h28 => ?_) (fun h28 => ?_)
      · skip
        refine ev_iload eX12_firstAt_55 rfl ?_
        refine ev_istore eX12_firstAt_57 (by decide) ?_
        refine ev_iinc eX12_firstAt_59 rfl (by decide) ?_
        refine ev_goto 14 eX12_firstAt_62 rfl ?_
        exact ih (m := k) (by omega) (by omega) (BsN_f (fun z => h28 z.1) h2)
      · skip
        have hle := h28.1
        refine ev_aload_n eX12_firstAt_31 rfl ?_
        refine ev_getr eX12_firstAt_32 fX12_50 rfl ?_
        refine ev_iload_n eX12_firstAt_35 rfl ?_
        refine ev_aload_n eX12_firstAt_36 rfl ?_
        refine ev_getr eX12_firstAt_37 fX12_19 rfl ?_
        refine ev_iload eX12_firstAt_40 rfl ?_
        refine ev_cS2 eX12_firstAt_42 ⟨lX12_100, kX12_imageSize⟩ rfl (m_imageSize (Or.inl rfl) hM hf (s := k) (by omega)) ?_
        rintro _ _ ⟨rfl, rfl⟩
        refine ev_iadd eX12_firstAt_45 ?_
        refine ev_zaldv ((a + im B k)) eX12_firstAt_46 rfl (by first | rfl | omega) (by omega) (hE (a + im B k) (by omega)) ?_
        refine ev_ifb_eq 55 eX12_firstAt_47 rfl (fun h47 => ?_) (fun h47 => ?_)
        · skip
          refine ev_iload eX12_firstAt_55 rfl ?_
          refine ev_istore eX12_firstAt_57 (by decide) ?_
          refine ev_iinc eX12_firstAt_59 rfl (by decide) ?_
          refine ev_goto 14 eX12_firstAt_62 rfl ?_
          exact ih (m := k) (by omega) (by omega) (BsN_f (fun z => h47 z.2) h2)
        · skip
          refine ev_iload eX12_firstAt_50 rfl ?_
          refine ev_goto 57 eX12_firstAt_52 rfl ?_
          refine ev_istore eX12_firstAt_57 (by decide) ?_
          refine ev_iinc eX12_firstAt_59 rfl (by decide) ?_
          refine ev_goto 14 eX12_firstAt_62 rfl ?_
          exact ih (m := k) (by omega) (by omega) (BsN_t ⟨h28, h47⟩ (by omega))
set_option maxRecDepth 20000 in
theorem m_firstAt {d : Nat} {σ : St} {B : Bok} (hM : MBk σ 49 B) (hO : Ok B) {l : Nat → Nat} {q n : Nat} (hq : q < 8) (hn : n ≤ 40) (hit : ∀ j, j < n → l j < 4 ∧ σ 48 (40 * q + j) = (l j : Int)) {N : Nat → Nat} (hE : ∀ j, j ≤ n → σ 59 j = bC (0 < N j)) {a : Nat} (ha : a ≤ n)  : Ct (d + 3) mX12_firstAt [.ref 45, vi q, vi a, vi n] σ (rt (vi (fN (Gn B l n N a) (B 2))) σ) := by
  refine ct_of hX12_firstAt (Nat.le_of_ble_eq_true rfl) ?_
  have hf := hO.1
  have h7 := hf.2.1
  refine ev_ldc eX12_firstAt_0 qX12_124 ?_
  refine ev_istore eX12_firstAt_2 (by decide) ?_
  refine ev_aload_n eX12_firstAt_4 rfl ?_
  refine ev_getr eX12_firstAt_5 fX12_19 rfl ?_
  refine ev_iconst eX12_firstAt_8 ?_
  refine ev_ialdv (0) eX12_firstAt_9 rfl (by first | rfl | omega) (by omega) hM.S ?_
  refine ev_iconst eX12_firstAt_10 ?_
  refine ev_isub eX12_firstAt_11 ?_
  refine ev_istore eX12_firstAt_12 (by decide) ?_
  exact m_fa_l hM hO hq hn hit hE ha (B 2 + 1) (m := B 2) (by omega) (by omega) (Or.inl ⟨rfl, fun q a b => by omega⟩)
theorem fN_c {B : Bok} {l : Nat → Nat} {n : Nat} {N : Nat → Nat} (hN : Nw B l n N) {a : Nat} (ha : a < n) (hp : 0 < N a) : ∃ s : Nat, s < B 2 ∧ Gn B l n N a s ∧ lm (Gd B l n N a) (B 2) = (s : Int) ∧ fN (Gn B l n N a) (B 2) = (s : Int) := by
  rcases lm_c (Gn B l n N a) (B 2) with ⟨s, s1, s2, s3, s4⟩ | ⟨s1, s2⟩
  · exact ⟨s, s1, s2, s4, by unfold fN; rw [s4, if_neg (by omega)]⟩
  · obtain ⟨s, z1, z2⟩ := (N_p hN ha).1 hp
    exact absurd z2 (s1 s z1)
theorem lf_n {B : Bok} {l : Nat → Nat} {n : Nat} {N : Nat → Nat} {a : Nat} (h : ¬ a < n) : ∀ k, lf B l n N k a = -1
  | 0 => by unfold lf; rw [if_neg h]
  | k + 1 => by unfold lf; rw [if_neg h]
theorem lf_0e {B : Bok} {l : Nat → Nat} {n : Nat} {N : Nat → Nat} {a : Nat} (h : a < n) {s : Nat} (e : lm (Gd B l n N a) (B 2) = (s : Int)) : lf B l n N 0 a = (s : Int) := by unfold lf; rw [if_pos h, e]
theorem lf_se {B : Bok} {l : Nat → Nat} {n : Nat} {N : Nat → Nat} {a : Nat} (h : a < n) {s : Nat} (e : lm (Gd B l n N a) (B 2) = (s : Int)) (k : Nat) : lf B l n N (k + 1) a = lf B l n N k (a + im B s) := by
  conv => lhs; unfold lf
  rw [if_pos h, e, if_neg (by omega), Int.toNat_natCast]
theorem lf_neg {B : Bok} {l : Nat → Nat} {n : Nat} {N : Nat → Nat} (hN : Nw B l n N) {a : Nat} (ha : a < n) (h : ¬ 0 < N a) : ∀ k, lf B l n N k a < 0 := by
  have e : lm (Gd B l n N a) (B 2) = -1 := lm_n (fun s hs z => h ((N_p hN ha).2 ⟨s, hs, z⟩))
  intro k
  cases k with
  | zero => unfold lf; rw [if_pos ha, e]; decide
  | succ k => unfold lf; rw [if_pos ha, e, if_pos (by decide)]; decide
theorem Gd_N {B : Bok} (hO : Ok B) {l : Nat → Nat} {n : Nat} {N F : Nat → Nat} (hN : Nw B l n N) (hF : Wy B l n F) (a : Nat) : Gd B l n F a = Gd B l n N a := funext (fun s => propext (by
  unfold Gd
  refine ⟨fun ⟨h1, h2⟩ => ⟨h1, ?_⟩, fun ⟨h1, h2⟩ => ⟨h1, ?_⟩⟩
  · rw [Wy_N hO hN hF n _ h1.1 (by omega)] at h2
    have := CRe
    omega
  · rw [Wy_N hO hN hF n _ h1.1 (by omega)]
    have := CRe
    omega))
theorem lf_N {B : Bok} (hO : Ok B) {l : Nat → Nat} {n : Nat} {N F : Nat → Nat} (hN : Nw B l n N) (hF : Wy B l n F) : ∀ k a, lf B l n F k a = lf B l n N k a
  | 0, a => by unfold lf; rw [Gd_N hO hN hF]
  | k + 1, a => by
    unfold lf
    rw [Gd_N hO hN hF, lf_N hO hN hF k]
theorem bkR_N {B : Bok} (hO : Ok B) {l : Nat → Nat} {n : Nat} {N F : Nat → Nat} (hN : Nw B l n N) (hF : Wy B l n F) (e : Int) : bkR B l n F e = if e = -1 then ((min (N 0) CR : Nat) : Int) else if lf B l n N e.toNat 0 < 0 then -1000000 else lf B l n N e.toNat 0 := by
  unfold bkR
  rw [Wy_N hO hN hF n 0 (by omega) (by omega), lf_N hO hN hF]
set_option maxRecDepth 20000 in
theorem m_bk_l {d : Nat} {σ : St} {B : Bok} (hM : MBk σ 49 B) (hO : Ok B) {l : Nat → Nat} {q n : Nat} (hq : q < 8) (hn : n ≤ 40) (hit : ∀ j, j < n → l j < 4 ∧ σ 48 (40 * q + j) = (l j : Int)) {N : Nat → Nat} (hN : Nw B l n N) (hE : ∀ j, j ≤ n → σ 59 j = bC (0 < N j)) {e : Nat} (he : e ≤ 2147483647) {u : Int} : ∀ (fu : Nat) {a k : Nat}, e - k < fu → k ≤ e → a ≤ n → 0 < N a → lf B l n N (e - k) a = lf B l n N e 0 → Ev (d + 4) mX12_back 96 [.ref 45, vi q, vi n, vi e, vi u, vi a, vi k] [] σ (rt (vi (if lf B l n N e 0 < 0 then -1000000 else lf B l n N e 0)) σ) := by
  intro fu
  induction fu with
  | zero => intros; omega
  | succ fu ih =>
    intro a k hm h1 h2 h3 h4
    have hf := hO.1
    have h7 := hf.2.1
    refine ev_iload eX12_back_96 rfl ?_
    refine ev_iload_n eX12_back_98 rfl ?_
    refine ev_icmp_ge 134 eX12_back_99 rfl (by omega) (by omega) (fun h99 => ?_) (fun h99 => ?_)
    · skip
      refine ev_iload eX12_back_134 rfl ?_
      refine ev_iload_n eX12_back_136 rfl ?_
      refine ev_icmp_ge 151 eX12_back_137 rfl (by omega) (by omega) (fun h137 => ?_) (fun h137 => ?_)
      · skip
        refine ev_ldc eX12_back_151 qX12_124 ?_
        refine ev_iret eX12_back_153 rfl ?_
        exact ⟨congrArg (fun q => some (vi q)) (if_pos (by rw [← h4, lf_n (by omega)]; decide)), rfl⟩
      · skip
        refine ev_aload_n eX12_back_140 rfl ?_
        refine ev_iload_n eX12_back_141 rfl ?_
        refine ev_iload eX12_back_142 rfl ?_
        refine ev_iload_n eX12_back_144 rfl ?_
        refine ev_cV3 eX12_back_145 ⟨lX12_273, kX12_firstAt⟩ rfl rfl (m_firstAt hM hO hq hn hit hE (a := a) (by omega)) ?_
        rintro _ _ ⟨rfl, rfl⟩
        obtain ⟨s, s1, s2, s3, s4⟩ := fN_c hN (a := a) (by omega) h3
        rw [s4]
        refine ev_goto 153 eX12_back_148 rfl ?_
        refine ev_iret eX12_back_153 rfl ?_
        have hz : lf B l n N e 0 = (s : Int) := by
          rw [← h4, show e - k = 0 by omega]; exact lf_0e (by omega) s3
        exact ⟨congrArg (fun q => some (vi q)) (by rw [hz, if_neg (by omega)]), rfl⟩
    · skip
      refine ev_iload eX12_back_102 rfl ?_
      refine ev_iload_n eX12_back_104 rfl ?_
      refine ev_icmp_ge 134 eX12_back_105 rfl (by omega) (by omega) (fun h105 => ?_) (fun h105 => ?_)
      · skip
        refine ev_iload eX12_back_134 rfl ?_
        refine ev_iload_n eX12_back_136 rfl ?_
        refine ev_icmp_ge 151 eX12_back_137 rfl (by omega) (by omega) (fun h137 => ?_) (fun h137 => False.elim (by omega))
        refine ev_ldc eX12_back_151 qX12_124 ?_
        refine ev_iret eX12_back_153 rfl ?_
        exact ⟨congrArg (fun q => some (vi q)) (if_pos (by rw [← h4, lf_n (by omega)]; decide)), rfl⟩
      · skip
        refine ev_iload eX12_back_108 rfl ?_
        refine ev_aload_n eX12_back_110 rfl ?_
        refine ev_getr eX12_back_111 fX12_19 rfl ?_
        refine ev_aload_n eX12_back_114 rfl ?_
        refine ev_iload_n eX12_back_115 rfl ?_
        refine ev_iload eX12_back_116 rfl ?_
        refine ev_iload_n eX12_back_118 rfl ?_
        refine ev_cV3 eX12_back_119 ⟨lX12_273, kX12_firstAt⟩ rfl rfl (m_firstAt hM hO hq hn hit hE (a := a) (by omega)) ?_
        rintro _ _ ⟨rfl, rfl⟩
        obtain ⟨s, s1, s2, s3, s4⟩ := fN_c hN (a := a) (by omega) h3
        rw [s4]
        refine ev_cS2 eX12_back_122 ⟨lX12_100, kX12_imageSize⟩ rfl (m_imageSize (Or.inl rfl) hM hf (s := s) (by omega)) ?_
        rintro _ _ ⟨rfl, rfl⟩
        refine ev_iadd eX12_back_125 ?_
        refine ev_istore eX12_back_126 (by decide) ?_
        refine ev_iinc eX12_back_128 rfl (by decide) ?_
        refine ev_goto 96 eX12_back_131 rfl ?_
        refine ih (a := a + im B s) (k := k + 1) (by omega) (by omega) s2.1.1 s2.2 ?_
        rw [← h4, show e - k = (e - (k + 1)) + 1 by omega]
        exact (lf_se (by omega) s3 _).symm
set_option maxRecDepth 20000 in
theorem m_back {d : Nat} {σ : St} {B : Bok} (hM : MBk σ 49 B) (hZ : OkZ B) {la : Nat → Int} {sz : Nat → Nat} {it : Nat → Int} (hW : MRw σ la sz it) {y n e : Int} (hy : -2147483648 ≤ y ∧ y ≤ 2147483647) (hn : -2147483648 ≤ n ∧ n ≤ 2147483647) (he : -2147483648 ≤ e ∧ e ≤ 2147483647) : Ct (d + 4) mX12_back [.ref 45, vi y, vi n, vi e] σ (fun r τ => (B 2 = 0 → some (vi (-1000002)) = r ∧ σ = τ) ∧ (0 < B 2 ∧ ¬ ((0 ≤ y ∧ y < 8) ∧ (1 ≤ n ∧ n ≤ 40) ∧ -1 ≤ e) → some (vi (-1000001)) = r ∧ σ = τ) ∧ (0 < B 2 ∧ ((0 ≤ y ∧ y < 8) ∧ (1 ≤ n ∧ n ≤ 40) ∧ -1 ≤ e) ∧ lfn la sz it B y.toNat n.toNat ≠ 0 → some (vi (-1000010 - lfn la sz it B y.toNat n.toNat)) = r ∧ up σ 45 0 (lfn la sz it B y.toNat n.toNat) = τ) ∧ (0 < B 2 ∧ ((0 ≤ y ∧ y < 8) ∧ (1 ≤ n ∧ n ≤ 40) ∧ -1 ≤ e) ∧ lfn la sz it B y.toNat n.toNat = 0 → (∀ F, Wy B (lts it y.toNat) n.toNat F → some (vi (bkR B (lts it y.toNat) n.toNat F e)) = r) ∧ τ 45 0 = 0 ∧ (∀ j, j ≠ 0 → τ 45 j = σ 45 j) ∧ ∀ c, c ≠ 45 → c ≠ 58 → c ≠ 59 → τ c = σ c)) := by
  refine ct_of hX12_back (Nat.le_of_ble_eq_true rfl) ?_
  have hf := hZ.wf
  have h7 := hf.2.1
  have h8 := hf.2.2.1
  refine ev_aload_n eX12_back_0 rfl ?_
  refine ev_cV0 eX12_back_1 ⟨lX12_197, kX12_isThere⟩ rfl rfl (m_isThere hM hZ.wf) ?_
  rintro _ _ ⟨rfl, rfl⟩
  refine ev_ifb_ne 10 eX12_back_4 rfl (fun h4 => ?_) (fun h4 => ?_)
  · skip
    refine ev_iload_n eX12_back_10 rfl ?_
    refine ev_cS1 eX12_back_11 ⟨lX12_74, kX12_isRow⟩ rfl (m_isRow (x := y) (by omega)) ?_
    rintro _ _ ⟨rfl, rfl⟩
    refine ev_ifb_eq 34 eX12_back_14 rfl (fun h14 => ?_) (fun h14 => ?_)
    · skip
      refine ev_ldc eX12_back_34 qX12_80 ?_
      refine ev_iret eX12_back_36 rfl ?_
      refine ⟨fun hc => ?_, fun hc => ?_, fun hc => ?_, fun hc => ?_⟩ <;> first | (exfalso; omega) | (exact ⟨rfl, rfl⟩)
    · skip
      refine ev_iload_n eX12_back_17 rfl ?_
      refine ev_i2l eX12_back_18 (by omega) ?_
      refine ev_lconst 1 eX12_back_19 rfl ?_
      refine ev_ldc2 eX12_back_20 qX12_267 ?_
      refine ev_cS3 eX12_back_23 ⟨lX12_70, kX12_in⟩ rfl (m_in (a := n) (b := 1) (c := 40) (by omega) (by omega) (by omega)) ?_
      rintro _ _ ⟨rfl, rfl⟩
      refine ev_ifb_eq 34 eX12_back_26 rfl (fun h26 => ?_) (fun h26 => ?_)
      · skip
        refine ev_ldc eX12_back_34 qX12_80 ?_
        refine ev_iret eX12_back_36 rfl ?_
        refine ⟨fun hc => ?_, fun hc => ?_, fun hc => ?_, fun hc => ?_⟩ <;> first | (exfalso; omega) | (exact ⟨rfl, rfl⟩)
      · skip
        refine ev_iload_n eX12_back_29 rfl ?_
        refine ev_iconst eX12_back_30 ?_
        refine ev_icmp_ge 37 eX12_back_31 rfl (by omega) (by omega) (fun h31 => ?_) (fun h31 => ?_)
        · skip
          have hO := hZ.ok (by omega)
          obtain ⟨y, rfl⟩ : ∃ q : Nat, y = q := ⟨y.toNat, by omega⟩
          obtain ⟨n, rfl⟩ : ∃ q : Nat, n = q := ⟨n.toNat, by omega⟩
          rw [Int.toNat_natCast, Int.toNat_natCast]
          refine ev_aload_n eX12_back_37 rfl ?_
          refine ev_iload_n eX12_back_38 rfl ?_
          refine ev_iload_n eX12_back_39 rfl ?_
          refine ev_cV2 eX12_back_40 ⟨lX12_187, kX12_lacksLetters⟩ rfl rfl (m_lacksLetters hM hf hW (q := y) (n := n) (by omega) (by omega)) ?_
          rintro r τ ⟨g1, g2⟩
          by_cases e0 : lfn la sz it B y n = 0
          rotate_left
          · obtain ⟨rfl, rfl⟩ := g1 e0
            have hr : lfn la sz it B y n = 1 ∨ lfn la sz it B y n = 2 ∨ lfn la sz it B y n = 0 := by unfold lfn; split; exact Or.inl rfl; split; exact Or.inr (Or.inr rfl); exact Or.inr (Or.inl rfl)
            refine ev_istore eX12_back_43 (by decide) ?_
            refine ev_iload eX12_back_45 rfl ?_
            refine ev_if_eq 53 eX12_back_47 rfl (by omega) (fun h47 => False.elim (by omega)) (fun h47 => ?_)
            refine ev_iload eX12_back_50 rfl ?_
            refine ev_iret eX12_back_52 rfl ?_
            refine ⟨fun hc => ?_, fun hc => ?_, fun hc => ?_, fun hc => ?_⟩ <;> first | (exfalso; omega) | exact ⟨rfl, rfl⟩
          obtain ⟨rfl, rfl⟩ := g2 e0
          obtain ⟨e1, e2⟩ := lfn_p e0
          have hM0 : MBk (up σ 45 0 0) 49 B := hM.of (up_o _ _ _ (by decide))
          obtain ⟨k1, k2, k3, k4, k5⟩ := hW y (by omega)
          obtain ⟨k6, k7⟩ := k5 e1
          obtain ⟨N, hN⟩ := Nw_ex hO (lts it y) n
          have hit : ∀ j, j < n → lts it y j < 4 ∧ (up σ 45 0 0) 48 (40 * y + j) = (lts it y j : Int) := fun j hj => ⟨by have := e2.2 j hj; have := LtP_l e2 hj; omega, by rw [up_o _ _ _ (by decide), (k7 j (by have := e2.1; omega)).1]; exact LtP_l e2 hj⟩
          refine ev_istore eX12_back_43 (by decide) ?_
          refine ev_iload eX12_back_45 rfl ?_
          refine ev_if_eq 53 eX12_back_47 rfl (by omega) (fun h47 => ?_) (fun h47 => False.elim (by omega))
          refine ev_aload_n eX12_back_53 rfl ?_
          refine ev_iload_n eX12_back_54 rfl ?_
          refine ev_iload_n eX12_back_55 rfl ?_
          refine ev_cV2 eX12_back_56 ⟨lX12_269, kX12_layWays⟩ rfl rfl (m_layWays hM0 hO (l := lts it y) (q := y) (n := n) (by omega) (by omega) hit hN) ?_
          rintro _ τ ⟨rfl, w1, w2, w3⟩
          refine ev_iload_n eX12_back_59 rfl ?_
          refine ev_iconst eX12_back_60 ?_
          refine ev_icmp_eq 73 eX12_back_61 rfl (by omega) (by omega) (fun h61 => ?_) (fun h61 => ?_)
          · skip
            refine ev_iload_n eX12_back_73 rfl ?_
            refine ev_iconst eX12_back_74 ?_
            refine ev_icmp_ne 87 eX12_back_75 rfl (by omega) (by omega) (fun h75 => False.elim (by omega)) (fun h75 => ?_)
            refine ev_aload_n eX12_back_78 rfl ?_
            refine ev_getr eX12_back_79 fX12_47 rfl ?_
            refine ev_iload_n eX12_back_82 rfl ?_
            refine ev_ialdv (n) eX12_back_83 rfl (by first | rfl | omega) (by omega) w1 ?_
            refine ev_goto 89 eX12_back_84 rfl ?_
            refine ev_iret eX12_back_89 rfl ?_
            refine ⟨fun hc => ?_, fun hc => ?_, fun hc => ?_, fun hc => ?_⟩ <;> first | (exfalso; omega) | skip
            exact ⟨fun F hF => congrArg (fun q => some (vi q)) ((bkR_N hO hN hF _).trans (if_pos (by omega))), by rw [w3 45 (by decide) (by decide), up_s], fun j hj => by rw [w3 45 (by decide) (by decide), up_n _ _ hj], fun c b1 b2 b3 => by rw [w3 c b2 b3, up_o _ _ _ b1]⟩
          · skip
            refine ev_aload_n eX12_back_64 rfl ?_
            refine ev_getr eX12_back_65 fX12_50 rfl ?_
            refine ev_iconst eX12_back_68 ?_
            refine ev_zaldv (0) eX12_back_69 rfl (by first | rfl | omega) (by omega) (w2 0 (by omega)) ?_
            refine ev_ifb_ne 90 eX12_back_70 rfl (fun h70 => ?_) (fun h70 => ?_)
            · skip
              obtain ⟨e1, rfl⟩ : ∃ q : Nat, e = q := ⟨e.toNat, by omega⟩
              refine ev_iconst eX12_back_90 ?_
              refine ev_istore eX12_back_91 (by decide) ?_
              refine ev_iconst eX12_back_93 ?_
              refine ev_istore eX12_back_94 (by decide) ?_
              refine ev_mono (fun r τ2 h => ?_) (m_bk_l (σ := τ) (hM0.of (w3 49 (by decide) (by decide))) hO (q := y) (by omega) (by omega) (fun j hj => ⟨(hit j hj).1, by rw [w3 48 (by decide) (by decide)]; exact (hit j hj).2⟩) hN w2 (e := e1) (by omega) (e1 + 1) (a := 0) (k := 0) (by omega) (by omega) (by omega) h70 (by rw [Nat.sub_zero]))
              obtain ⟨rfl, rfl⟩ := h
              refine ⟨fun hc => ?_, fun hc => ?_, fun hc => ?_, fun hc => ?_⟩ <;> first | (exfalso; omega) | skip
              exact ⟨fun F hF => congrArg (fun q => some (vi q)) ((bkR_N hO hN hF _).trans ((if_neg (by omega)).trans (by rw [Int.toNat_natCast]))), by rw [w3 45 (by decide) (by decide), up_s], fun j hj => by rw [w3 45 (by decide) (by decide), up_n _ _ hj], fun c b1 b2 b3 => by rw [w3 c b2 b3, up_o _ _ _ b1]⟩
            · skip
              refine ev_iload_n eX12_back_73 rfl ?_
              refine ev_iconst eX12_back_74 ?_
              refine ev_icmp_ne 87 eX12_back_75 rfl (by omega) (by omega) (fun h75 => ?_) (fun h75 => False.elim (by omega))
              refine ev_ldc eX12_back_87 qX12_124 ?_
              refine ev_iret eX12_back_89 rfl ?_
              refine ⟨fun hc => ?_, fun hc => ?_, fun hc => ?_, fun hc => ?_⟩ <;> first | (exfalso; omega) | skip
              exact ⟨fun F hF => congrArg (fun q => some (vi q)) ((bkR_N hO hN hF _).trans ((if_neg (by omega)).trans (if_pos (lf_neg hN (by omega) h70 _)))), by rw [w3 45 (by decide) (by decide), up_s], fun j hj => by rw [w3 45 (by decide) (by decide), up_n _ _ hj], fun c b1 b2 b3 => by rw [w3 c b2 b3, up_o _ _ _ b1]⟩
        · skip
          refine ev_ldc eX12_back_34 qX12_80 ?_
          refine ev_iret eX12_back_36 rfl ?_
          refine ⟨fun hc => ?_, fun hc => ?_, fun hc => ?_, fun hc => ?_⟩ <;> first | (exfalso; omega) | (exact ⟨rfl, rfl⟩)
  · skip
    refine ev_ldc eX12_back_7 qX12_178 ?_
    refine ev_iret eX12_back_9 rfl ?_
    refine ⟨fun hc => ?_, fun hc => ?_, fun hc => ?_, fun hc => ?_⟩ <;> first | (exfalso; omega) | (exact ⟨rfl, rfl⟩)
