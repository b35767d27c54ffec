/-! the reference: who -/
theorem iOr_z {a : Nat} (h : a < 2147483648) : iOr (a : Int) 0 = (a : Int) := (iOr_n h (by decide : 0 < 2147483648)).trans (by rw [Nat.or_zero])
set_option maxRecDepth 20000 in
theorem m_who_l {d : Nat} {σ : St} {B : Bok} (hM : MBk σ 49 B) (hO : Ok B) {it : Nat → Int} {s x e n q m lo K : Nat} {xi u7 : Int} (hs : s < B 2) (he : e < 3) (hx : (e = 1 → x < B 3) ∧ (e = 2 → x < ws B s)) (hxi : e ≠ 0 → xi = (x : Int)) (h0 : e = 0 → lo = 1 ∧ K = 5) (h1 : e ≠ 0 → lo = 0 ∧ K = B 2) (hq : q < 8) (hm40 : m ≤ 40) (hit : ∀ i, i < m → σ 48 (40 * q + i) = it (q * 40 + i) ∧ R32 (it (q * 40 + i))) (hn : n ≤ 6) (hm1 : 1 ≤ m) : ∀ (fu : Nat) {k : Nat} {τ : St}, K - k < fu → k ≤ K → (∀ c, c ≠ 51 → c ≠ 53 → c ≠ 54 → τ c = σ c) → Ev (d + 5) mX12_who 130 [.ref 45, vi s, vi xi, vi e, vi n, vi q, vi m, vi u7, vi (whF B it s x e n q m k lo), vi ((lo + k : Nat) : Int)] [] τ (fun r τ => some (vi (whF B it s x e n q m K lo)) = r ∧ ∀ c, c ≠ 51 → c ≠ 53 → c ≠ 54 → τ c = σ c) := by
  intro fu
  induction fu with
  | zero => intros; omega
  | succ fu ih =>
    intro k τ hm hk h2
    have hf := hO.1
    have h7 := hf.2.1
    have h8 := hf.2.2.1
    have hw4 := hf.2.2.2.1 s (by omega)
    have hwl := whF_lt B it s x e n q m k lo (by omega)
    refine ev_iload eX12_who_130 rfl ?_
    refine ev_iload_n eX12_who_132 rfl ?_
    refine ev_if_ne 141 eX12_who_133 rfl (by omega) (fun h133 => ?_) (fun h133 => ?_)
    · skip
      refine ev_aload_n eX12_who_141 rfl ?_
      refine ev_getr eX12_who_142 fX12_19 rfl ?_
      refine ev_iconst eX12_who_145 ?_
      refine ev_ialdv (0) eX12_who_146 rfl (by first | rfl | omega) (by omega) (show τ 49 0 = (B 2 : Int) by rw [h2 49 (by decide) (by decide) (by decide)]; exact hM.S) ?_
      refine ev_icmp_ge 229 eX12_who_147 rfl (by omega) (by omega) (fun h147 => ?_) (fun h147 => ?_)
      · skip
        refine ev_iload eX12_who_229 rfl ?_
        refine ev_iret eX12_who_231 rfl ?_
        exact ⟨congrArg (fun q => some (vi q)) (by rw [show k = K by omega]), h2⟩
      · skip
        have hO1 : Ok (upB B (whJ s x e) (lo + k)) := Ok_wh hO hs he hx ⟨fun z => by omega, fun z => by omega⟩
        refine ev_aload_n eX12_who_150 rfl ?_
        refine ev_cV0 eX12_who_151 ⟨lX12_277, kX12_layThen⟩ rfl rfl (m_layThen (hM.of (h2 49 (by decide) (by decide) (by decide)))) ?_
        rintro _ τ1 ⟨rfl, b1, b2⟩
        refine ev_aload_n eX12_who_154 rfl ?_
        refine ev_getr eX12_who_155 fX12_25 rfl ?_
        refine ev_iload_n eX12_who_158 rfl ?_
        refine ev_if_ne 172 eX12_who_159 rfl (by omega) (fun h159 => ?_) (fun h159 => ?_)
        · skip
          refine ev_iload_n eX12_who_172 rfl ?_
          refine ev_iconst eX12_who_173 ?_
          refine ev_icmp_ne 183 eX12_who_174 rfl (by omega) (by omega) (fun h174 => ?_) (fun h174 => ?_)
          · skip
            refine ev_bipush eX12_who_183 rfl ?_
            refine ev_bipush eX12_who_185 rfl ?_
            refine ev_iload_n eX12_who_187 rfl ?_
            refine ev_imul eX12_who_188 ?_
            refine ev_iadd eX12_who_189 ?_
            refine ev_iconst eX12_who_190 ?_
            refine ev_iadd eX12_who_191 ?_
            refine ev_iload_n eX12_who_192 rfl ?_
            refine ev_iadd eX12_who_193 ?_
            refine ev_iload eX12_who_194 rfl ?_
            refine ev_iast (12 + 8 * s + 4 + x) eX12_who_196 rfl (by have := hxi (by omega); omega) (by omega) ?_
            refine ev_iload eX12_who_197 rfl ?_
            refine ev_aload_n eX12_who_199 rfl ?_
            refine ev_iload eX12_who_200 rfl ?_
            refine ev_iload eX12_who_202 rfl ?_
            refine ev_iload eX12_who_204 rfl ?_
            have hB1 : MBk (up τ1 51 (12 + 8 * s + 4 + x) ((lo + k : Nat) : Int)) 51 (upB B (whJ s x e) (lo + k)) := by
              have := b1.up (j := 12 + 8 * s + 4 + x) (x := lo + k) (by omega)
              rw [pm_l s (by omega) x (by omega), show 20 + 4 * s + x = whJ s x e by unfold whJ; rw [if_neg (by omega), if_neg (by omega)]] at this
              exact this
            refine ev_cV3 eX12_who_206 ⟨lX12_280, kX12_isSo⟩ rfl rfl (m_isSo (B := upB B (whJ s x e) (lo + k)) hB1 hO1 (it := it) (n := n) (q := q) (m := m) hq hm40 (fun i hi => by rw [up_o _ _ _ (by decide), b2 48 (by decide), h2 48 (by decide) (by decide) (by decide)]; exact hit i hi) hn hm1) ?_
            rintro _ τ2 ⟨rfl, b3⟩
            refine ev_ifb_eq 219 eX12_who_209 rfl (fun htl => ?_) (fun htl => ?_)
            · skip
              refine ev_iconst eX12_who_219 ?_
              refine ev_ior eX12_who_220 ?_
              refine ev_istore eX12_who_221 (by decide) ?_
              refine ev_iinc eX12_who_223 rfl (by decide) ?_
              refine ev_goto 130 eX12_who_226 rfl ?_
              first | (rw [iOr_z (by omega), ← whF_f htl]; exact ih (k := k + 1) (by omega) (by omega) (fun c a1 a2 a3 => by rw [b3 c a2 a3, up_o _ _ _ a1, b2 c a1]; exact h2 c a1 a2 a3)) | (rw [show ((lo + k : Nat) : Int) = ((lo + k : Nat) : Int) from rfl, sh1 (by omega), iOr_n (by omega) (p2_30 (by omega)), ← whF_t htl]; exact ih (k := k + 1) (by omega) (by omega) (fun c a1 a2 a3 => by rw [b3 c a2 a3, up_o _ _ _ a1, b2 c a1]; exact h2 c a1 a2 a3))
            · skip
              refine ev_iconst eX12_who_212 ?_
              refine ev_iload eX12_who_213 rfl ?_
              refine ev_ishl eX12_who_215 ?_
              refine ev_goto 220 eX12_who_216 rfl ?_
              refine ev_ior eX12_who_220 ?_
              refine ev_istore eX12_who_221 (by decide) ?_
              refine ev_iinc eX12_who_223 rfl (by decide) ?_
              refine ev_goto 130 eX12_who_226 rfl ?_
              first | (rw [iOr_z (by omega), ← whF_f htl]; exact ih (k := k + 1) (by omega) (by omega) (fun c a1 a2 a3 => by rw [b3 c a2 a3, up_o _ _ _ a1, b2 c a1]; exact h2 c a1 a2 a3)) | (rw [show ((lo + k : Nat) : Int) = ((lo + k : Nat) : Int) from rfl, sh1 (by omega), iOr_n (by omega) (p2_30 (by omega)), ← whF_t htl]; exact ih (k := k + 1) (by omega) (by omega) (fun c a1 a2 a3 => by rw [b3 c a2 a3, up_o _ _ _ a1, b2 c a1]; exact h2 c a1 a2 a3))
          · skip
            refine ev_iconst eX12_who_177 ?_
            refine ev_iload_n eX12_who_178 rfl ?_
            refine ev_iadd eX12_who_179 ?_
            refine ev_goto 194 eX12_who_180 rfl ?_
            refine ev_iload eX12_who_194 rfl ?_
            refine ev_iast (4 + x) eX12_who_196 rfl (by have := hxi (by omega); omega) (by omega) ?_
            refine ev_iload eX12_who_197 rfl ?_
            refine ev_aload_n eX12_who_199 rfl ?_
            refine ev_iload eX12_who_200 rfl ?_
            refine ev_iload eX12_who_202 rfl ?_
            refine ev_iload eX12_who_204 rfl ?_
            have hB1 : MBk (up τ1 51 (4 + x) ((lo + k : Nat) : Int)) 51 (upB B (whJ s x e) (lo + k)) := by
              have := b1.up (j := 4 + x) (x := lo + k) (by omega)
              rw [pm_R x (by omega), show 36 + x = whJ s x e by unfold whJ; rw [if_neg (by omega), if_pos (by omega)]] at this
              exact this
            refine ev_cV3 eX12_who_206 ⟨lX12_280, kX12_isSo⟩ rfl rfl (m_isSo (B := upB B (whJ s x e) (lo + k)) hB1 hO1 (it := it) (n := n) (q := q) (m := m) hq hm40 (fun i hi => by rw [up_o _ _ _ (by decide), b2 48 (by decide), h2 48 (by decide) (by decide) (by decide)]; exact hit i hi) hn hm1) ?_
            rintro _ τ2 ⟨rfl, b3⟩
            refine ev_ifb_eq 219 eX12_who_209 rfl (fun htl => ?_) (fun htl => ?_)
            · skip
              refine ev_iconst eX12_who_219 ?_
              refine ev_ior eX12_who_220 ?_
              refine ev_istore eX12_who_221 (by decide) ?_
              refine ev_iinc eX12_who_223 rfl (by decide) ?_
              refine ev_goto 130 eX12_who_226 rfl ?_
              first | (rw [iOr_z (by omega), ← whF_f htl]; exact ih (k := k + 1) (by omega) (by omega) (fun c a1 a2 a3 => by rw [b3 c a2 a3, up_o _ _ _ a1, b2 c a1]; exact h2 c a1 a2 a3)) | (rw [show ((lo + k : Nat) : Int) = ((lo + k : Nat) : Int) from rfl, sh1 (by omega), iOr_n (by omega) (p2_30 (by omega)), ← whF_t htl]; exact ih (k := k + 1) (by omega) (by omega) (fun c a1 a2 a3 => by rw [b3 c a2 a3, up_o _ _ _ a1, b2 c a1]; exact h2 c a1 a2 a3))
            · skip
              refine ev_iconst eX12_who_212 ?_
              refine ev_iload eX12_who_213 rfl ?_
              refine ev_ishl eX12_who_215 ?_
              refine ev_goto 220 eX12_who_216 rfl ?_
              refine ev_ior eX12_who_220 ?_
              refine ev_istore eX12_who_221 (by decide) ?_
              refine ev_iinc eX12_who_223 rfl (by decide) ?_
              refine ev_goto 130 eX12_who_226 rfl ?_
              first | (rw [iOr_z (by omega), ← whF_f htl]; exact ih (k := k + 1) (by omega) (by omega) (fun c a1 a2 a3 => by rw [b3 c a2 a3, up_o _ _ _ a1, b2 c a1]; exact h2 c a1 a2 a3)) | (rw [show ((lo + k : Nat) : Int) = ((lo + k : Nat) : Int) from rfl, sh1 (by omega), iOr_n (by omega) (p2_30 (by omega)), ← whF_t htl]; exact ih (k := k + 1) (by omega) (by omega) (fun c a1 a2 a3 => by rw [b3 c a2 a3, up_o _ _ _ a1, b2 c a1]; exact h2 c a1 a2 a3))
        · skip
          refine ev_bipush eX12_who_162 rfl ?_
          refine ev_bipush eX12_who_164 rfl ?_
          refine ev_iload_n eX12_who_166 rfl ?_
          refine ev_imul eX12_who_167 ?_
          refine ev_iadd eX12_who_168 ?_
          refine ev_goto 194 eX12_who_169 rfl ?_
          refine ev_iload eX12_who_194 rfl ?_
          refine ev_iast (12 + 8 * s) eX12_who_196 rfl (by first | rfl | omega) (by omega) ?_
          refine ev_iload eX12_who_197 rfl ?_
          refine ev_aload_n eX12_who_199 rfl ?_
          refine ev_iload eX12_who_200 rfl ?_
          refine ev_iload eX12_who_202 rfl ?_
          refine ev_iload eX12_who_204 rfl ?_
          have hB1 : MBk (up τ1 51 (12 + 8 * s) ((lo + k : Nat) : Int)) 51 (upB B (whJ s x e) (lo + k)) := by
            have := b1.up (j := 12 + 8 * s) (x := lo + k) (by omega)
            rw [pm_k s (by omega), show 4 + s = whJ s x e by unfold whJ; rw [if_pos (by omega)]] at this
            exact this
          refine ev_cV3 eX12_who_206 ⟨lX12_280, kX12_isSo⟩ rfl rfl (m_isSo (B := upB B (whJ s x e) (lo + k)) hB1 hO1 (it := it) (n := n) (q := q) (m := m) hq hm40 (fun i hi => by rw [up_o _ _ _ (by decide), b2 48 (by decide), h2 48 (by decide) (by decide) (by decide)]; exact hit i hi) hn hm1) ?_
          rintro _ τ2 ⟨rfl, b3⟩
          refine ev_ifb_eq 219 eX12_who_209 rfl (fun htl => ?_) (fun htl => ?_)
          · skip
            refine ev_iconst eX12_who_219 ?_
            refine ev_ior eX12_who_220 ?_
            refine ev_istore eX12_who_221 (by decide) ?_
            refine ev_iinc eX12_who_223 rfl (by decide) ?_
            refine ev_goto 130 eX12_who_226 rfl ?_
            first | (rw [iOr_z (by omega), ← whF_f htl]; exact ih (k := k + 1) (by omega) (by omega) (fun c a1 a2 a3 => by rw [b3 c a2 a3, up_o _ _ _ a1, b2 c a1]; exact h2 c a1 a2 a3)) | (rw [show ((lo + k : Nat) : Int) = ((lo + k : Nat) : Int) from rfl, sh1 (by omega), iOr_n (by omega) (p2_30 (by omega)), ← whF_t htl]; exact ih (k := k + 1) (by omega) (by omega) (fun c a1 a2 a3 => by rw [b3 c a2 a3, up_o _ _ _ a1, b2 c a1]; exact h2 c a1 a2 a3))
          · skip
            refine ev_iconst eX12_who_212 ?_
            refine ev_iload eX12_who_213 rfl ?_
            refine ev_ishl eX12_who_215 ?_
            refine ev_goto 220 eX12_who_216 rfl ?_
            refine ev_ior eX12_who_220 ?_
            refine ev_istore eX12_who_221 (by decide) ?_
            refine ev_iinc eX12_who_223 rfl (by decide) ?_
            refine ev_goto 130 eX12_who_226 rfl ?_
            first | (rw [iOr_z (by omega), ← whF_f htl]; exact ih (k := k + 1) (by omega) (by omega) (fun c a1 a2 a3 => by rw [b3 c a2 a3, up_o _ _ _ a1, b2 c a1]; exact h2 c a1 a2 a3)) | (rw [show ((lo + k : Nat) : Int) = ((lo + k : Nat) : Int) from rfl, sh1 (by omega), iOr_n (by omega) (p2_30 (by omega)), ← whF_t htl]; exact ih (k := k + 1) (by omega) (by omega) (fun c a1 a2 a3 => by rw [b3 c a2 a3, up_o _ _ _ a1, b2 c a1]; exact h2 c a1 a2 a3))
    · skip
      refine ev_bipush eX12_who_136 rfl ?_
      refine ev_goto 147 eX12_who_138 rfl ?_
      refine ev_icmp_ge 229 eX12_who_147 rfl (by omega) (by omega) (fun h147 => ?_) (fun h147 => ?_)
      · skip
        refine ev_iload eX12_who_229 rfl ?_
        refine ev_iret eX12_who_231 rfl ?_
        exact ⟨congrArg (fun q => some (vi q)) (by rw [show k = K by omega]), h2⟩
      · skip
        have hO1 : Ok (upB B (whJ s x e) (lo + k)) := Ok_wh hO hs he hx ⟨fun z => by omega, fun z => by omega⟩
        refine ev_aload_n eX12_who_150 rfl ?_
        refine ev_cV0 eX12_who_151 ⟨lX12_277, kX12_layThen⟩ rfl rfl (m_layThen (hM.of (h2 49 (by decide) (by decide) (by decide)))) ?_
        rintro _ τ1 ⟨rfl, b1, b2⟩
        refine ev_aload_n eX12_who_154 rfl ?_
        refine ev_getr eX12_who_155 fX12_25 rfl ?_
        refine ev_iload_n eX12_who_158 rfl ?_
        refine ev_if_ne 172 eX12_who_159 rfl (by omega) (fun h159 => False.elim (by omega)) (fun h159 => ?_)
        refine ev_bipush eX12_who_162 rfl ?_
        refine ev_bipush eX12_who_164 rfl ?_
        refine ev_iload_n eX12_who_166 rfl ?_
        refine ev_imul eX12_who_167 ?_
        refine ev_iadd eX12_who_168 ?_
        refine ev_goto 194 eX12_who_169 rfl ?_
        refine ev_iload eX12_who_194 rfl ?_
        refine ev_iast (12 + 8 * s) eX12_who_196 rfl (by first | rfl | omega) (by omega) ?_
        refine ev_iload eX12_who_197 rfl ?_
        refine ev_aload_n eX12_who_199 rfl ?_
        refine ev_iload eX12_who_200 rfl ?_
        refine ev_iload eX12_who_202 rfl ?_
        refine ev_iload eX12_who_204 rfl ?_
        have hB1 : MBk (up τ1 51 (12 + 8 * s) ((lo + k : Nat) : Int)) 51 (upB B (whJ s x e) (lo + k)) := by
          have := b1.up (j := 12 + 8 * s) (x := lo + k) (by omega)
          rw [pm_k s (by omega), show 4 + s = whJ s x e by unfold whJ; rw [if_pos (by omega)]] at this
          exact this
        refine ev_cV3 eX12_who_206 ⟨lX12_280, kX12_isSo⟩ rfl rfl (m_isSo (B := upB B (whJ s x e) (lo + k)) hB1 hO1 (it := it) (n := n) (q := q) (m := m) hq hm40 (fun i hi => by rw [up_o _ _ _ (by decide), b2 48 (by decide), h2 48 (by decide) (by decide) (by decide)]; exact hit i hi) hn hm1) ?_
        rintro _ τ2 ⟨rfl, b3⟩
        refine ev_ifb_eq 219 eX12_who_209 rfl (fun htl => ?_) (fun htl => ?_)
        · skip
          refine ev_iconst eX12_who_219 ?_
          refine ev_ior eX12_who_220 ?_
          refine ev_istore eX12_who_221 (by decide) ?_
          refine ev_iinc eX12_who_223 rfl (by decide) ?_
          refine ev_goto 130 eX12_who_226 rfl ?_
          first | (rw [iOr_z (by omega), ← whF_f htl]; exact ih (k := k + 1) (by omega) (by omega) (fun c a1 a2 a3 => by rw [b3 c a2 a3, up_o _ _ _ a1, b2 c a1]; exact h2 c a1 a2 a3)) | (rw [show ((lo + k : Nat) : Int) = ((lo + k : Nat) : Int) from rfl, sh1 (by omega), iOr_n (by omega) (p2_30 (by omega)), ← whF_t htl]; exact ih (k := k + 1) (by omega) (by omega) (fun c a1 a2 a3 => by rw [b3 c a2 a3, up_o _ _ _ a1, b2 c a1]; exact h2 c a1 a2 a3))
        · skip
          refine ev_iconst eX12_who_212 ?_
          refine ev_iload eX12_who_213 rfl ?_
          refine ev_ishl eX12_who_215 ?_
          refine ev_goto 220 eX12_who_216 rfl ?_
          refine ev_ior eX12_who_220 ?_
          refine ev_istore eX12_who_221 (by decide) ?_
          refine ev_iinc eX12_who_223 rfl (by decide) ?_
          refine ev_goto 130 eX12_who_226 rfl ?_
          first | (rw [iOr_z (by omega), ← whF_f htl]; exact ih (k := k + 1) (by omega) (by omega) (fun c a1 a2 a3 => by rw [b3 c a2 a3, up_o _ _ _ a1, b2 c a1]; exact h2 c a1 a2 a3)) | (rw [show ((lo + k : Nat) : Int) = ((lo + k : Nat) : Int) from rfl, sh1 (by omega), iOr_n (by omega) (p2_30 (by omega)), ← whF_t htl]; exact ih (k := k + 1) (by omega) (by omega) (fun c a1 a2 a3 => by rw [b3 c a2 a3, up_o _ _ _ a1, b2 c a1]; exact h2 c a1 a2 a3))
set_option maxRecDepth 20000 in
theorem m_who {d : Nat} {σ : St} {B : Bok} (hM : MBk σ 49 B) (hZ : OkZ B) {la : Nat → Int} {sz : Nat → Nat} {it : Nat → Int} (hW : MRw σ la sz it) {x y e n z m : Int} (hx : -2147483648 ≤ x ∧ x ≤ 2147483647) (hy : -2147483648 ≤ y ∧ y ≤ 2147483647) (he : -2147483648 ≤ e ∧ e ≤ 2147483647) (hn : -2147483648 ≤ n ∧ n ≤ 2147483647) (hz : -2147483648 ≤ z ∧ z ≤ 2147483647) (hm : -2147483648 ≤ m ∧ m ≤ 2147483647) : Ct (d + 5) mX12_who [.ref 45, vi x, vi y, vi e, vi n, vi z, vi m] σ (fun r τ => (¬ ((0 ≤ x ∧ x < B 2) ∧ (0 ≤ e ∧ e ≤ 2) ∧ (0 ≤ n ∧ n ≤ 6) ∧ (e = 1 → 0 ≤ y ∧ y < B 3) ∧ (e = 2 → 0 ≤ y ∧ y < ws B x.toNat) ∧ (0 ≤ z ∧ z < 8) ∧ 1 ≤ m ∧ m ≤ 40) → some (vi (-1000001)) = r ∧ σ = τ) ∧ (((0 ≤ x ∧ x < B 2) ∧ (0 ≤ e ∧ e ≤ 2) ∧ (0 ≤ n ∧ n ≤ 6) ∧ (e = 1 → 0 ≤ y ∧ y < B 3) ∧ (e = 2 → 0 ≤ y ∧ y < ws B x.toNat) ∧ (0 ≤ z ∧ z < 8) ∧ 1 ≤ m ∧ m ≤ 40) ∧ la z.toNat = -1 → some (vi (-1000010 - 1)) = r ∧ up σ 45 0 1 = τ) ∧ (((0 ≤ x ∧ x < B 2) ∧ (0 ≤ e ∧ e ≤ 2) ∧ (0 ≤ n ∧ n ≤ 6) ∧ (e = 1 → 0 ≤ y ∧ y < B 3) ∧ (e = 2 → 0 ≤ y ∧ y < ws B x.toNat) ∧ (0 ≤ z ∧ z < 8) ∧ 1 ≤ m ∧ m ≤ 40) ∧ la z.toNat ≠ -1 ∧ (sz z.toNat : Int) < m → some (vi (-1000010 - 2)) = r ∧ up σ 45 0 2 = τ) ∧ (((0 ≤ x ∧ x < B 2) ∧ (0 ≤ e ∧ e ≤ 2) ∧ (0 ≤ n ∧ n ≤ 6) ∧ (e = 1 → 0 ≤ y ∧ y < B 3) ∧ (e = 2 → 0 ≤ y ∧ y < ws B x.toNat) ∧ (0 ≤ z ∧ z < 8) ∧ 1 ≤ m ∧ m ≤ 40) ∧ la z.toNat ≠ -1 ∧ m ≤ (sz z.toNat : Int) → some (vi (whR B it x.toNat y.toNat e.toNat n.toNat z.toNat m.toNat)) = r ∧ τ 45 0 = 0 ∧ (∀ j, j ≠ 0 → τ 45 j = σ 45 j) ∧ ∀ c, c ≠ 45 → c ≠ 51 → c ≠ 53 → c ≠ 54 → τ c = σ c)) := by
  refine ct_of hX12_who (Nat.le_of_ble_eq_true rfl) ?_
  have hf := hZ.wf
  have h7 := hf.2.1
  have h8 := hf.2.2.1
  refine ev_aload_n eX12_who_0 rfl ?_
  refine ev_iload_n eX12_who_1 rfl ?_
  refine ev_cV1 eX12_who_2 ⟨lX12_182, kX12_isSort⟩ rfl rfl (m_isSort hM hZ.wf (x := x) (by omega)) ?_
  rintro _ _ ⟨rfl, rfl⟩
  refine ev_ifb_eq 54 eX12_who_5 rfl (fun h5 => ?_) (fun h5 => ?_)
  · skip
    refine ev_ldc eX12_who_54 qX12_80 ?_
    refine ev_iret eX12_who_56 rfl ?_
    refine ⟨fun hc => ?_, fun hc => ?_, fun hc => ?_, fun hc => ?_⟩ <;> first | (exfalso; omega) | (exact ⟨rfl, rfl⟩)
  · skip
    refine ev_iload_n eX12_who_8 rfl ?_
    refine ev_i2l eX12_who_9 (by omega) ?_
    refine ev_lconst 0 eX12_who_10 rfl ?_
    refine ev_ldc2 eX12_who_11 qX12_78 ?_
    refine ev_cS3 eX12_who_14 ⟨lX12_70, kX12_in⟩ rfl (m_in (a := e) (b := 0) (c := 2) (by omega) (by omega) (by omega)) ?_
    rintro _ _ ⟨rfl, rfl⟩
    refine ev_ifb_eq 54 eX12_who_17 rfl (fun h17 => ?_) (fun h17 => ?_)
    · skip
      refine ev_ldc eX12_who_54 qX12_80 ?_
      refine ev_iret eX12_who_56 rfl ?_
      refine ⟨fun hc => ?_, fun hc => ?_, fun hc => ?_, fun hc => ?_⟩ <;> first | (exfalso; omega) | (exact ⟨rfl, rfl⟩)
    · skip
      refine ev_iload eX12_who_20 rfl ?_
      refine ev_i2l eX12_who_22 (by omega) ?_
      refine ev_lconst 0 eX12_who_23 rfl ?_
      refine ev_ldc2 eX12_who_24 qX12_216 ?_
      refine ev_cS3 eX12_who_27 ⟨lX12_70, kX12_in⟩ rfl (m_in (a := n) (b := 0) (c := 6) (by omega) (by omega) (by omega)) ?_
      rintro _ _ ⟨rfl, rfl⟩
      refine ev_ifb_eq 54 eX12_who_30 rfl (fun h30 => ?_) (fun h30 => ?_)
      · skip
        refine ev_ldc eX12_who_54 qX12_80 ?_
        refine ev_iret eX12_who_56 rfl ?_
        refine ⟨fun hc => ?_, fun hc => ?_, fun hc => ?_, fun hc => ?_⟩ <;> first | (exfalso; omega) | (exact ⟨rfl, rfl⟩)
      · skip
        refine ev_iload eX12_who_33 rfl ?_
        refine ev_cS1 eX12_who_35 ⟨lX12_74, kX12_isRow⟩ rfl (m_isRow (x := z) (by omega)) ?_
        rintro _ _ ⟨rfl, rfl⟩
        refine ev_ifb_eq 54 eX12_who_38 rfl (fun h38 => ?_) (fun h38 => ?_)
        · skip
          refine ev_ldc eX12_who_54 qX12_80 ?_
          refine ev_iret eX12_who_56 rfl ?_
          refine ⟨fun hc => ?_, fun hc => ?_, fun hc => ?_, fun hc => ?_⟩ <;> first | (exfalso; omega) | (exact ⟨rfl, rfl⟩)
        · skip
          refine ev_iload eX12_who_41 rfl ?_
          refine ev_i2l eX12_who_43 (by omega) ?_
          refine ev_lconst 1 eX12_who_44 rfl ?_
          refine ev_ldc2 eX12_who_45 qX12_267 ?_
          refine ev_cS3 eX12_who_48 ⟨lX12_70, kX12_in⟩ rfl (m_in (a := m) (b := 1) (c := 40) (by omega) (by omega) (by omega)) ?_
          rintro _ _ ⟨rfl, rfl⟩
          refine ev_ifb_ne 57 eX12_who_51 rfl (fun h51 => ?_) (fun h51 => ?_)
          · skip
            obtain ⟨x, rfl⟩ : ∃ q : Nat, x = q := ⟨x.toNat, by omega⟩
            obtain ⟨e, rfl⟩ : ∃ q : Nat, e = q := ⟨e.toNat, by omega⟩
            obtain ⟨n, rfl⟩ : ∃ q : Nat, n = q := ⟨n.toNat, by omega⟩
            obtain ⟨z, rfl⟩ : ∃ q : Nat, z = q := ⟨z.toNat, by omega⟩
            obtain ⟨m, rfl⟩ : ∃ q : Nat, m = q := ⟨m.toNat, by omega⟩
            rw [Int.toNat_natCast, Int.toNat_natCast, Int.toNat_natCast, Int.toNat_natCast, Int.toNat_natCast]
            have hw4 := hf.2.2.2.1 x (by omega)
            refine ev_iload_n eX12_who_57 rfl ?_
            refine ev_if_le 98 eX12_who_58 rfl (by omega) (fun h58 => ?_) (fun h58 => ?_)
            · skip
              refine ev_aload_n eX12_who_98 rfl ?_
              refine ev_iload eX12_who_99 rfl ?_
              refine ev_iload eX12_who_101 rfl ?_
              refine ev_cV2 eX12_who_103 ⟨lX12_179, kX12_lacks⟩ rfl rfl (m_lacks hW (q := z) (by omega) (n := (m : Int)) (by omega)) ?_
              rintro r τ ⟨g1, g2, g3⟩
              by_cases e1 : la z = -1
              · obtain ⟨rfl, rfl⟩ := g1 e1
                refine ev_istore eX12_who_106 (by decide) ?_
                refine ev_iload eX12_who_108 rfl ?_
                refine ev_if_eq 116 eX12_who_110 rfl (by omega) (fun h110 => False.elim (by omega)) (fun h110 => ?_)
                refine ev_iload eX12_who_113 rfl ?_
                refine ev_iret eX12_who_115 rfl ?_
                refine ⟨fun hc => ?_, fun hc => ?_, fun hc => ?_, fun hc => ?_⟩ <;> first | (exfalso; omega) | (exact ⟨rfl, rfl⟩)
              by_cases e2 : (sz z : Int) < m
              · obtain ⟨rfl, rfl⟩ := g2 ⟨e1, e2⟩
                refine ev_istore eX12_who_106 (by decide) ?_
                refine ev_iload eX12_who_108 rfl ?_
                refine ev_if_eq 116 eX12_who_110 rfl (by omega) (fun h110 => False.elim (by omega)) (fun h110 => ?_)
                refine ev_iload eX12_who_113 rfl ?_
                refine ev_iret eX12_who_115 rfl ?_
                refine ⟨fun hc => ?_, fun hc => ?_, fun hc => ?_, fun hc => ?_⟩ <;> first | (exfalso; omega) | (exact ⟨rfl, rfl⟩)
              obtain ⟨rfl, rfl⟩ := g3 ⟨e1, by omega⟩
              refine ev_istore eX12_who_106 (by decide) ?_
              refine ev_iload eX12_who_108 rfl ?_
              refine ev_if_eq 116 eX12_who_110 rfl (by omega) (fun h110 => ?_) (fun h110 => False.elim (by omega))
              refine ev_iconst eX12_who_116 ?_
              refine ev_istore eX12_who_117 (by decide) ?_
              refine ev_iload_n eX12_who_119 rfl ?_
              refine ev_if_ne 127 eX12_who_120 rfl (by omega) (fun h120 => ?_) (fun h120 => ?_)
              · skip
                refine ev_iconst eX12_who_127 ?_
                refine ev_istore eX12_who_128 (by decide) ?_
                refine ev_mono (fun r τ h => ?_) (m_who_l (hM.of (up_o _ _ _ (by decide))) (hZ.ok (by omega)) (it := it) (s := x) (x := y.toNat) (e := e) (n := n) (q := z) (m := m) (xi := y) (by omega) (by omega) ⟨fun q => by omega, fun q => by omega⟩ (fun q => by omega) (fun q => by omega) (fun q => by omega) (by omega) (by omega) (fun i hi => by rw [up_o _ _ _ (by decide)]; exact ((hW z (by omega)).2.2.2.2 e1).2 i (by omega)) (by omega) (by omega) 7 (k := 0) (lo := 0) (K := B 2) (by omega) (by omega) (fun _ _ _ _ => rfl))
                obtain ⟨rfl, g⟩ := h
                have ew : whR B it x y.toNat e n z m = whF B it x y.toNat e n z m (B 2) 0 := by unfold whR; rw [if_neg (show ¬ e = 0 by omega), if_neg (show ¬ e = 0 by omega)]
                rw [ew]
                refine ⟨fun hc => ?_, fun hc => ?_, fun hc => ?_, fun hc => ?_⟩ <;> first | (exfalso; omega) | (exact ⟨rfl, by rw [g 45 (by decide) (by decide) (by decide), up_s], fun j hj => by rw [g 45 (by decide) (by decide) (by decide), up_n _ _ hj], fun c a1 a2 a3 a4 => by rw [g c a2 a3 a4, up_o _ _ _ a1]⟩)
              · skip
                refine ev_iconst eX12_who_123 ?_
                refine ev_goto 128 eX12_who_124 rfl ?_
                refine ev_istore eX12_who_128 (by decide) ?_
                refine ev_mono (fun r τ h => ?_) (m_who_l (hM.of (up_o _ _ _ (by decide))) (hZ.ok (by omega)) (it := it) (s := x) (x := y.toNat) (e := e) (n := n) (q := z) (m := m) (xi := y) (by omega) (by omega) ⟨fun q => by omega, fun q => by omega⟩ (fun q => by omega) (fun q => by omega) (fun q => by omega) (by omega) (by omega) (fun i hi => by rw [up_o _ _ _ (by decide)]; exact ((hW z (by omega)).2.2.2.2 e1).2 i (by omega)) (by omega) (by omega) 7 (k := 0) (lo := 1) (K := 5) (by omega) (by omega) (fun _ _ _ _ => rfl))
                obtain ⟨rfl, g⟩ := h
                have ew : whR B it x y.toNat e n z m = whF B it x y.toNat e n z m (5) 1 := by unfold whR; rw [if_pos (show e = 0 by omega), if_pos (show e = 0 by omega)]
                rw [ew]
                refine ⟨fun hc => ?_, fun hc => ?_, fun hc => ?_, fun hc => ?_⟩ <;> first | (exfalso; omega) | (exact ⟨rfl, by rw [g 45 (by decide) (by decide) (by decide), up_s], fun j hj => by rw [g 45 (by decide) (by decide) (by decide), up_n _ _ hj], fun c a1 a2 a3 a4 => by rw [g c a2 a3 a4, up_o _ _ _ a1]⟩)
            · skip
              refine ev_iload_n eX12_who_61 rfl ?_
              refine ev_i2l eX12_who_62 (by omega) ?_
              refine ev_lconst 0 eX12_who_63 rfl ?_
              refine ev_iload_n eX12_who_64 rfl ?_
              refine ev_iconst eX12_who_65 ?_
              refine ev_icmp_ne 78 eX12_who_66 rfl (by omega) (by omega) (fun h66 => ?_) (fun h66 => ?_)
              · skip
                refine ev_aload_n eX12_who_78 rfl ?_
                refine ev_getr eX12_who_79 fX12_19 rfl ?_
                refine ev_iload_n eX12_who_82 rfl ?_
                refine ev_cS2 eX12_who_83 ⟨lX12_93, kX12_wordSize⟩ rfl (m_wordSize (Or.inl rfl) hM hf (s := x) (by omega)) ?_
                rintro _ _ ⟨rfl, rfl⟩
                refine ev_iconst eX12_who_86 ?_
                refine ev_isub eX12_who_87 ?_
                refine ev_i2l eX12_who_88 (by omega) ?_
                refine ev_cS3 eX12_who_89 ⟨lX12_70, kX12_in⟩ rfl (m_in (a := y) (b := 0) (c := (ws B x : Int) - 1) (by omega) (by omega) (by omega)) ?_
                rintro _ _ ⟨rfl, rfl⟩
                refine ev_ifb_ne 98 eX12_who_92 rfl (fun h92 => ?_) (fun h92 => ?_)
                · skip
                  refine ev_aload_n eX12_who_98 rfl ?_
                  refine ev_iload eX12_who_99 rfl ?_
                  refine ev_iload eX12_who_101 rfl ?_
                  refine ev_cV2 eX12_who_103 ⟨lX12_179, kX12_lacks⟩ rfl rfl (m_lacks hW (q := z) (by omega) (n := (m : Int)) (by omega)) ?_
                  rintro r τ ⟨g1, g2, g3⟩
                  by_cases e1 : la z = -1
                  · obtain ⟨rfl, rfl⟩ := g1 e1
                    refine ev_istore eX12_who_106 (by decide) ?_
                    refine ev_iload eX12_who_108 rfl ?_
                    refine ev_if_eq 116 eX12_who_110 rfl (by omega) (fun h110 => False.elim (by omega)) (fun h110 => ?_)
                    refine ev_iload eX12_who_113 rfl ?_
                    refine ev_iret eX12_who_115 rfl ?_
                    refine ⟨fun hc => ?_, fun hc => ?_, fun hc => ?_, fun hc => ?_⟩ <;> first | (exfalso; omega) | (exact ⟨rfl, rfl⟩)
                  by_cases e2 : (sz z : Int) < m
                  · obtain ⟨rfl, rfl⟩ := g2 ⟨e1, e2⟩
                    refine ev_istore eX12_who_106 (by decide) ?_
                    refine ev_iload eX12_who_108 rfl ?_
                    refine ev_if_eq 116 eX12_who_110 rfl (by omega) (fun h110 => False.elim (by omega)) (fun h110 => ?_)
                    refine ev_iload eX12_who_113 rfl ?_
                    refine ev_iret eX12_who_115 rfl ?_
                    refine ⟨fun hc => ?_, fun hc => ?_, fun hc => ?_, fun hc => ?_⟩ <;> first | (exfalso; omega) | (exact ⟨rfl, rfl⟩)
                  obtain ⟨rfl, rfl⟩ := g3 ⟨e1, by omega⟩
                  refine ev_istore eX12_who_106 (by decide) ?_
                  refine ev_iload eX12_who_108 rfl ?_
                  refine ev_if_eq 116 eX12_who_110 rfl (by omega) (fun h110 => ?_) (fun h110 => False.elim (by omega))
                  refine ev_iconst eX12_who_116 ?_
                  refine ev_istore eX12_who_117 (by decide) ?_
                  refine ev_iload_n eX12_who_119 rfl ?_
                  refine ev_if_ne 127 eX12_who_120 rfl (by omega) (fun h120 => ?_) (fun h120 => ?_)
                  · skip
                    refine ev_iconst eX12_who_127 ?_
                    refine ev_istore eX12_who_128 (by decide) ?_
                    refine ev_mono (fun r τ h => ?_) (m_who_l (hM.of (up_o _ _ _ (by decide))) (hZ.ok (by omega)) (it := it) (s := x) (x := y.toNat) (e := e) (n := n) (q := z) (m := m) (xi := y) (by omega) (by omega) ⟨fun q => by omega, fun q => by omega⟩ (fun q => by omega) (fun q => by omega) (fun q => by omega) (by omega) (by omega) (fun i hi => by rw [up_o _ _ _ (by decide)]; exact ((hW z (by omega)).2.2.2.2 e1).2 i (by omega)) (by omega) (by omega) 7 (k := 0) (lo := 0) (K := B 2) (by omega) (by omega) (fun _ _ _ _ => rfl))
                    obtain ⟨rfl, g⟩ := h
                    have ew : whR B it x y.toNat e n z m = whF B it x y.toNat e n z m (B 2) 0 := by unfold whR; rw [if_neg (show ¬ e = 0 by omega), if_neg (show ¬ e = 0 by omega)]
                    rw [ew]
                    refine ⟨fun hc => ?_, fun hc => ?_, fun hc => ?_, fun hc => ?_⟩ <;> first | (exfalso; omega) | (exact ⟨rfl, by rw [g 45 (by decide) (by decide) (by decide), up_s], fun j hj => by rw [g 45 (by decide) (by decide) (by decide), up_n _ _ hj], fun c a1 a2 a3 a4 => by rw [g c a2 a3 a4, up_o _ _ _ a1]⟩)
                  · skip
                    refine ev_iconst eX12_who_123 ?_
                    refine ev_goto 128 eX12_who_124 rfl ?_
                    refine ev_istore eX12_who_128 (by decide) ?_
                    refine ev_mono (fun r τ h => ?_) (m_who_l (hM.of (up_o _ _ _ (by decide))) (hZ.ok (by omega)) (it := it) (s := x) (x := y.toNat) (e := e) (n := n) (q := z) (m := m) (xi := y) (by omega) (by omega) ⟨fun q => by omega, fun q => by omega⟩ (fun q => by omega) (fun q => by omega) (fun q => by omega) (by omega) (by omega) (fun i hi => by rw [up_o _ _ _ (by decide)]; exact ((hW z (by omega)).2.2.2.2 e1).2 i (by omega)) (by omega) (by omega) 7 (k := 0) (lo := 1) (K := 5) (by omega) (by omega) (fun _ _ _ _ => rfl))
                    obtain ⟨rfl, g⟩ := h
                    have ew : whR B it x y.toNat e n z m = whF B it x y.toNat e n z m (5) 1 := by unfold whR; rw [if_pos (show e = 0 by omega), if_pos (show e = 0 by omega)]
                    rw [ew]
                    refine ⟨fun hc => ?_, fun hc => ?_, fun hc => ?_, fun hc => ?_⟩ <;> first | (exfalso; omega) | (exact ⟨rfl, by rw [g 45 (by decide) (by decide) (by decide), up_s], fun j hj => by rw [g 45 (by decide) (by decide) (by decide), up_n _ _ hj], fun c a1 a2 a3 a4 => by rw [g c a2 a3 a4, up_o _ _ _ a1]⟩)
                · skip
                  refine ev_ldc eX12_who_95 qX12_80 ?_
                  refine ev_iret eX12_who_97 rfl ?_
                  refine ⟨fun hc => ?_, fun hc => ?_, fun hc => ?_, fun hc => ?_⟩ <;> first | (exfalso; omega) | (exact ⟨rfl, rfl⟩)
              · skip
                refine ev_aload_n eX12_who_69 rfl ?_
                refine ev_getr eX12_who_70 fX12_19 rfl ?_
                refine ev_iconst eX12_who_73 ?_
                refine ev_ialdv (3) eX12_who_74 rfl (by first | rfl | omega) (by omega) hM.N ?_
                refine ev_goto 86 eX12_who_75 rfl ?_
                refine ev_iconst eX12_who_86 ?_
                refine ev_isub eX12_who_87 ?_
                refine ev_i2l eX12_who_88 (by omega) ?_
                refine ev_cS3 eX12_who_89 ⟨lX12_70, kX12_in⟩ rfl (m_in (a := y) (b := 0) (c := (B 3 : Int) - 1) (by omega) (by omega) (by omega)) ?_
                rintro _ _ ⟨rfl, rfl⟩
                refine ev_ifb_ne 98 eX12_who_92 rfl (fun h92 => ?_) (fun h92 => ?_)
                · skip
                  refine ev_aload_n eX12_who_98 rfl ?_
                  refine ev_iload eX12_who_99 rfl ?_
                  refine ev_iload eX12_who_101 rfl ?_
                  refine ev_cV2 eX12_who_103 ⟨lX12_179, kX12_lacks⟩ rfl rfl (m_lacks hW (q := z) (by omega) (n := (m : Int)) (by omega)) ?_
                  rintro r τ ⟨g1, g2, g3⟩
                  by_cases e1 : la z = -1
                  · obtain ⟨rfl, rfl⟩ := g1 e1
                    refine ev_istore eX12_who_106 (by decide) ?_
                    refine ev_iload eX12_who_108 rfl ?_
                    refine ev_if_eq 116 eX12_who_110 rfl (by omega) (fun h110 => False.elim (by omega)) (fun h110 => ?_)
                    refine ev_iload eX12_who_113 rfl ?_
                    refine ev_iret eX12_who_115 rfl ?_
                    refine ⟨fun hc => ?_, fun hc => ?_, fun hc => ?_, fun hc => ?_⟩ <;> first | (exfalso; omega) | (exact ⟨rfl, rfl⟩)
                  by_cases e2 : (sz z : Int) < m
                  · obtain ⟨rfl, rfl⟩ := g2 ⟨e1, e2⟩
                    refine ev_istore eX12_who_106 (by decide) ?_
                    refine ev_iload eX12_who_108 rfl ?_
                    refine ev_if_eq 116 eX12_who_110 rfl (by omega) (fun h110 => False.elim (by omega)) (fun h110 => ?_)
                    refine ev_iload eX12_who_113 rfl ?_
                    refine ev_iret eX12_who_115 rfl ?_
                    refine ⟨fun hc => ?_, fun hc => ?_, fun hc => ?_, fun hc => ?_⟩ <;> first | (exfalso; omega) | (exact ⟨rfl, rfl⟩)
                  obtain ⟨rfl, rfl⟩ := g3 ⟨e1, by omega⟩
                  refine ev_istore eX12_who_106 (by decide) ?_
                  refine ev_iload eX12_who_108 rfl ?_
                  refine ev_if_eq 116 eX12_who_110 rfl (by omega) (fun h110 => ?_) (fun h110 => False.elim (by omega))
                  refine ev_iconst eX12_who_116 ?_
                  refine ev_istore eX12_who_117 (by decide) ?_
                  refine ev_iload_n eX12_who_119 rfl ?_
                  refine ev_if_ne 127 eX12_who_120 rfl (by omega) (fun h120 => ?_) (fun h120 => ?_)
                  · skip
                    refine ev_iconst eX12_who_127 ?_
                    refine ev_istore eX12_who_128 (by decide) ?_
                    refine ev_mono (fun r τ h => ?_) (m_who_l (hM.of (up_o _ _ _ (by decide))) (hZ.ok (by omega)) (it := it) (s := x) (x := y.toNat) (e := e) (n := n) (q := z) (m := m) (xi := y) (by omega) (by omega) ⟨fun q => by omega, fun q => by omega⟩ (fun q => by omega) (fun q => by omega) (fun q => by omega) (by omega) (by omega) (fun i hi => by rw [up_o _ _ _ (by decide)]; exact ((hW z (by omega)).2.2.2.2 e1).2 i (by omega)) (by omega) (by omega) 7 (k := 0) (lo := 0) (K := B 2) (by omega) (by omega) (fun _ _ _ _ => rfl))
                    obtain ⟨rfl, g⟩ := h
                    have ew : whR B it x y.toNat e n z m = whF B it x y.toNat e n z m (B 2) 0 := by unfold whR; rw [if_neg (show ¬ e = 0 by omega), if_neg (show ¬ e = 0 by omega)]
                    rw [ew]
                    refine ⟨fun hc => ?_, fun hc => ?_, fun hc => ?_, fun hc => ?_⟩ <;> first | (exfalso; omega) | (exact ⟨rfl, by rw [g 45 (by decide) (by decide) (by decide), up_s], fun j hj => by rw [g 45 (by decide) (by decide) (by decide), up_n _ _ hj], fun c a1 a2 a3 a4 => by rw [g c a2 a3 a4, up_o _ _ _ a1]⟩)
                  · skip
                    refine ev_iconst eX12_who_123 ?_
                    refine ev_goto 128 eX12_who_124 rfl ?_
                    refine ev_istore eX12_who_128 (by decide) ?_
                    refine ev_mono (fun r τ h => ?_) (m_who_l (hM.of (up_o _ _ _ (by decide))) (hZ.ok (by omega)) (it := it) (s := x) (x := y.toNat) (e := e) (n := n) (q := z) (m := m) (xi := y) (by omega) (by omega) ⟨fun q => by omega, fun q => by omega⟩ (fun q => by omega) (fun q => by omega) (fun q => by omega) (by omega) (by omega) (fun i hi => by rw [up_o _ _ _ (by decide)]; exact ((hW z (by omega)).2.2.2.2 e1).2 i (by omega)) (by omega) (by omega) 7 (k := 0) (lo := 1) (K := 5) (by omega) (by omega) (fun _ _ _ _ => rfl))
                    obtain ⟨rfl, g⟩ := h
                    have ew : whR B it x y.toNat e n z m = whF B it x y.toNat e n z m (5) 1 := by unfold whR; rw [if_pos (show e = 0 by omega), if_pos (show e = 0 by omega)]
                    rw [ew]
                    refine ⟨fun hc => ?_, fun hc => ?_, fun hc => ?_, fun hc => ?_⟩ <;> first | (exfalso; omega) | (exact ⟨rfl, by rw [g 45 (by decide) (by decide) (by decide), up_s], fun j hj => by rw [g 45 (by decide) (by decide) (by decide), up_n _ _ hj], fun c a1 a2 a3 a4 => by rw [g c a2 a3 a4, up_o _ _ _ a1]⟩)
                · skip
                  refine ev_ldc eX12_who_95 qX12_80 ?_
                  refine ev_iret eX12_who_97 rfl ?_
                  refine ⟨fun hc => ?_, fun hc => ?_, fun hc => ?_, fun hc => ?_⟩ <;> first | (exfalso; omega) | (exact ⟨rfl, rfl⟩)
          · skip
            refine ev_ldc eX12_who_54 qX12_80 ?_
            refine ev_iret eX12_who_56 rfl ?_
            refine ⟨fun hc => ?_, fun hc => ?_, fun hc => ?_, fun hc => ?_⟩ <;> first | (exfalso; omega) | (exact ⟨rfl, rfl⟩)
