/-! the reference: tokens -/
theorem gv {x : Int} (y : Int) (h : x = y) : x = y := h
def Tk (tp : Nat → Nat) (n a : Nat) (k v c : Int) : Prop := (-1000000 ≤ v ∧ v ≤ 255) ∧ (0 ≤ k ∧ k ≤ 4) ∧ (n ≤ a → k = 1 ∧ c = (a : Int)) ∧ (a < n → ¬ isD tp n a → v = (tp a : Int) ∧ c = (a : Int) + 1 ∧ (97 ≤ tp a ∧ tp a ≤ 122 → k = 2) ∧ (tp a = 44 ∨ tp a = 59 → k = 4) ∧ (¬ (97 ≤ tp a ∧ tp a ≤ 122) ∧ ¬ (tp a = 44 ∨ tp a = 59) → k = 0)) ∧ (isD tp n a → c = (a : Int) + (figs tp n a : Int) ∧ (2 < figs tp n a → k = 0) ∧ (figs tp n a ≤ 2 → k = 3 ∧ v = (vl2 tp a (figs tp n a) : Int)))
theorem Tk.cg {tp : Nat → Nat} {n a : Nat} {k v c k' v' c' : Int} (h : Tk tp n a k v c) (e1 : k' = k) (e2 : v' = v) (e3 : c' = c) : Tk tp n a k' v' c' := by subst e1; subst e2; subst e3; exact h
theorem Tk_e {tp : Nat → Nat} {n a : Nat} (h : n ≤ a) : Tk tp n a 1 (-1000000) (a : Int) := ⟨by omega, by omega, fun _ => ⟨rfl, rfl⟩, fun h2 => absurd h2 (by omega), fun h2 => absurd h2.1 (by omega)⟩
theorem Tk_n {tp : Nat → Nat} {n a : Nat} {k : Int} (h : a < n) (hD : ¬ isD tp n a) (hb : tp a ≤ 255) (hk : 0 ≤ k ∧ k ≤ 4) (h1 : 97 ≤ tp a ∧ tp a ≤ 122 → k = 2) (h2 : tp a = 44 ∨ tp a = 59 → k = 4) (h3 : ¬ (97 ≤ tp a ∧ tp a ≤ 122) ∧ ¬ (tp a = 44 ∨ tp a = 59) → k = 0) : Tk tp n a k (tp a : Int) ((a : Int) + 1) := ⟨by omega, hk, fun z => absurd z (by omega), fun _ _ => ⟨rfl, rfl, h1, h2, h3⟩, fun z => absurd z hD⟩
theorem figs_1 {tp : Nat → Nat} {n a : Nat} (h : isD tp n a) : 1 ≤ figs tp n a := by
  have := (figs_c tp n a).2
  rcases Nat.eq_zero_or_pos (figs tp n a) with e | e
  · rw [e] at this; exact absurd h this
  · exact e
theorem figs_0 {tp : Nat → Nat} {n a : Nat} (h : ¬ isD tp n a) : figs tp n a = 0 := figs_eq (fun k hk => by omega) h
theorem Tk_d {tp : Nat → Nat} {n a f : Nat} {v : Int} (h1 : ∀ k, k < f → isD tp n (a + k)) (h2 : ¬ isD tp n (a + f)) (hf : 1 ≤ f) (hv : 0 ≤ v ∧ v ≤ 99) (hw : f ≤ 2 → v = (vl2 tp a f : Int)) {k : Int} (hk : k = if 2 < f then 0 else 3) {c : Int} (hc : c = (a : Int) + (f : Int)) : Tk tp n a k v c := by
  have e := figs_eq h1 h2
  have hD : isD tp n a := h1 0 hf
  refine ⟨by omega, by rw [hk]; split <;> omega, fun z => absurd z (by have := hD.1; omega), fun _ z => absurd hD z, fun _ => ?_⟩
  rw [e]
  exact ⟨hc, fun z => by rw [hk, if_pos z], fun z => ⟨by rw [hk, if_neg (by omega)], hw z⟩⟩
theorem nx_t {tp : Nat → Nat} {n a : Nat} (h : a < n) : nx tp n a = (tp a : Int) := if_pos h
theorem nx_e {tp : Nat → Nat} {n a : Nat} (h : n ≤ a) : nx tp n a = -1 := if_neg (by omega)
theorem Tk.cs {tp : Nat → Nat} {n a : Nat} {k v c : Int} (h : Tk tp n a k v c) : (n ≤ a ∧ nx tp n a = -1 ∧ figs tp n a = 0 ∧ k = 1 ∧ c = (a : Int)) ∨ (a < n ∧ nx tp n a = (tp a : Int) ∧ figs tp n a = 0 ∧ ¬ (48 ≤ tp a ∧ tp a ≤ 57) ∧ v = (tp a : Int) ∧ c = (a : Int) + 1 ∧ (97 ≤ tp a ∧ tp a ≤ 122 → k = 2) ∧ (tp a = 44 ∨ tp a = 59 → k = 4) ∧ (¬ (97 ≤ tp a ∧ tp a ≤ 122) ∧ ¬ (tp a = 44 ∨ tp a = 59) → k = 0)) ∨ (a < n ∧ nx tp n a = (tp a : Int) ∧ 1 ≤ figs tp n a ∧ (48 ≤ tp a ∧ tp a ≤ 57) ∧ c = (a : Int) + (figs tp n a : Int) ∧ (2 < figs tp n a → k = 0) ∧ (figs tp n a ≤ 2 → k = 3 ∧ v = (vl2 tp a (figs tp n a) : Int))) := by
  obtain ⟨h1, h2, h3, h4, h5⟩ := h
  by_cases hn : n ≤ a
  · exact Or.inl ⟨hn, nx_e hn, figs_0 (fun z => by have := z.1; omega), h3 hn⟩
  · by_cases hD : isD tp n a
    · exact Or.inr (Or.inr ⟨by omega, nx_t (by omega), figs_1 hD, hD.2, h5 hD⟩)
    · exact Or.inr (Or.inl ⟨by omega, nx_t (by omega), figs_0 hD, fun z => hD ⟨by omega, z⟩, h4 (by omega) hD⟩)
theorem Tk.name {tp : Nat → Nat} {n a : Nat} {k v c x : Int} (h : Tk tp n a k v c) (hx : 97 ≤ x ∧ x ≤ 122) : (k = 2 ∧ v = x) ↔ nx tp n a = x := by
  rcases h.cs with ⟨h1, h2, h3, h4, h5⟩ | ⟨h1, h2, h3, h4, h5, h6, h7, h8, h9⟩ | ⟨h1, h2, h3, h4, h5, h6, h7⟩ <;> omega
theorem Tk.sign {tp : Nat → Nat} {n a : Nat} {k v c x : Int} (h : Tk tp n a k v c) (hx : x = 44 ∨ x = 59) : (k = 4 ∧ v = x) ↔ nx tp n a = x := by
  rcases h.cs with ⟨h1, h2, h3, h4, h5⟩ | ⟨h1, h2, h3, h4, h5, h6, h7, h8, h9⟩ | ⟨h1, h2, h3, h4, h5, h6, h7⟩ <;> omega
theorem Tk.c1 {tp : Nat → Nat} {n a : Nat} {k v c x : Int} (h : Tk tp n a k v c) (e : nx tp n a = x) (h0 : 0 ≤ x) (hx : x < 48 ∨ 57 < x) : c = ((a + 1 : Nat) : Int) ∧ a + 1 ≤ n := by
  rcases h.cs with ⟨h1, h2, h3, h4, h5⟩ | ⟨h1, h2, h3, h4, h5, h6, h7, h8, h9⟩ | ⟨h1, h2, h3, h4, h5, h6, h7⟩ <;> omega
theorem Tk.num {tp : Nat → Nat} {n a : Nat} {k v c : Int} (h : Tk tp n a k v c) (e : k = 3) : ¬ (figs tp n a < 1 ∨ 2 < figs tp n a) ∧ v = (vl2 tp a (figs tp n a) : Int) ∧ c = ((a + figs tp n a : Nat) : Int) := by
  rcases h.cs with ⟨h1, h2, h3, h4, h5⟩ | ⟨h1, h2, h3, h4, h5, h6, h7, h8, h9⟩ | ⟨h1, h2, h3, h4, h5, h6, h7⟩ <;> omega
theorem Tk.nnum {tp : Nat → Nat} {n a : Nat} {k v c : Int} (h : Tk tp n a k v c) (e : k ≠ 3) : figs tp n a < 1 ∨ 2 < figs tp n a := by
  rcases h.cs with ⟨h1, h2, h3, h4, h5⟩ | ⟨h1, h2, h3, h4, h5, h6, h7, h8, h9⟩ | ⟨h1, h2, h3, h4, h5, h6, h7⟩ <;> omega
theorem Tk.fin {tp : Nat → Nat} {n a : Nat} {k v c : Int} (h : Tk tp n a k v c) : k = 1 ↔ ¬ a < n := by
  rcases h.cs with ⟨h1, h2, h3, h4, h5⟩ | ⟨h1, h2, h3, h4, h5, h6, h7, h8, h9⟩ | ⟨h1, h2, h3, h4, h5, h6, h7⟩ <;> omega
theorem Tk.tile {tp : Nat → Nat} {n a : Nat} {k v c : Int} (h : Tk tp n a k v c) : (k = 2 ∧ 97 ≤ v ∧ v ≤ 100) ↔ isT tp n a := by
  unfold isT
  rcases h.cs with ⟨h1, h2, h3, h4, h5⟩ | ⟨h1, h2, h3, h4, h5, h6, h7, h8, h9⟩ | ⟨h1, h2, h3, h4, h5, h6, h7⟩ <;> omega
theorem Tk.nm {tp : Nat → Nat} {n a : Nat} {k v c : Int} (h : Tk tp n a k v c) : (k = 2 → v = nx tp n a) ∧ (k ≠ 2 → ¬ (97 ≤ nx tp n a ∧ nx tp n a ≤ 122)) := by
  rcases h.cs with ⟨h1, h2, h3, h4, h5⟩ | ⟨h1, h2, h3, h4, h5, h6, h7, h8, h9⟩ | ⟨h1, h2, h3, h4, h5, h6, h7⟩ <;> omega
theorem toldN_o {x : Int} (h : ¬ (97 ≤ x ∧ x ≤ 122)) : toldN x = 0 := by
  unfold toldN
  repeat (first | omega | split)
theorem toldN_5 (x : Int) : toldN x ≤ 5 := by
  unfold toldN
  repeat (first | omega | split)
/-- what reading changes -/
def Fx (σ τ : St) : Prop := (∀ j, j < 13 ∨ 18 < j → τ 45 j = σ 45 j) ∧ ∀ c, c ≠ 45 → τ c = σ c
theorem Fx.rf (σ : St) : Fx σ σ := ⟨fun _ _ => rfl, fun _ _ => rfl⟩
theorem Fx.tr {σ τ χ : St} (h : Fx σ τ) (k : Fx τ χ) : Fx σ χ := ⟨fun j hj => (k.1 j hj).trans (h.1 j hj), fun c hc => (k.2 c hc).trans (h.2 c hc)⟩
def RM (τ : St) (tp : Nat → Nat) (n : Nat) (q : Ps) : Prop := MTp τ tp n ∧ q.2.1 ≤ n ∧ q.1 ≤ 4 ∧ τ 45 17 = (q.1 : Int) ∧ τ 45 14 = (q.2.1 : Int) ∧ Tk tp n q.2.1 (τ 45 15) (τ 45 16) (τ 45 13) ∧ (q.1 ≠ 0 → τ 45 18 = (q.2.1 : Int))
theorem MTp.of {σ τ : St} {tp : Nat → Nat} {n : Nat} (h : MTp σ tp n) (e1 : τ 45 12 = σ 45 12) (e2 : τ 55 = σ 55) : MTp τ tp n := ⟨by rw [e1]; exact h.1, h.2.1, fun i hi => by rw [e2]; exact h.2.2 i hi⟩
theorem RM.st {τ : St} {tp : Nat → Nat} {n : Nat} {q : Ps} (h : RM τ tp n q) {j : Nat} {x : Int} : RM (up τ 50 j x) tp n q := by
  obtain ⟨h1, h2, h3, h4, h5, h6, h7⟩ := h
  exact ⟨h1.of (by rw [up_o _ _ _ (by decide)]) (up_o _ _ _ (by decide)), h2, h3, by rw [up_o _ _ _ (by decide)]; exact h4, by rw [up_o _ _ _ (by decide)]; exact h5, by rw [up_o _ _ _ (by decide)]; exact h6, fun z => by rw [up_o _ _ _ (by decide)]; exact h7 z⟩
theorem RM.q {τ : St} {tp : Nat → Nat} {n : Nat} {q q' : Ps} (h : RM τ tp n q) (e1 : q.1 = q'.1) (e2 : q.2.1 = q'.2.1) : RM τ tp n q' := by
  unfold RM at h ⊢
  rw [e1, e2] at h
  exact h
set_option maxRecDepth 20000 in
theorem m_nt_l {d : Nat} {σ : St} {tp : Nat → Nat} {n : Nat} (hT : MTp σ tp n) {a : Nat} : ∀ (fu : Nat) {f : Nat} {v : Int} {τ : St}, n - (a + f) < fu → a + f ≤ n → τ 45 13 = ((a + f : Nat) : Int) → τ 45 14 = (a : Int) → τ 45 16 = v → 0 ≤ v ∧ v ≤ 99 → 1 ≤ f → (∀ k, k < f → isD tp n (a + k)) → (f ≤ 2 → v = (vl2 tp a f : Int)) → (∀ j, j ≠ 13 → j ≠ 14 → j ≠ 15 → j ≠ 16 → τ 45 j = σ 45 j) → (∀ c, c ≠ 45 → τ c = σ c) → Ev (d + 1) mX12_nextToken 165 [.ref 45] [] τ (fun r τ => none = r ∧ τ 45 14 = (a : Int) ∧ Tk tp n a (τ 45 15) (τ 45 16) (τ 45 13) ∧ (∀ j, j ≠ 13 → j ≠ 14 → j ≠ 15 → j ≠ 16 → τ 45 j = σ 45 j) ∧ ∀ c, c ≠ 45 → τ c = σ c) := by
  intro fu
  induction fu with
  | zero => intros; omega
  | succ fu ih =>
    intro f v τ hm h1 h2 h3 h4 h5 h6 h7 h10 h8 h9
    have hn := hT.2.1
    refine ev_aload_n eX12_nextToken_165 rfl ?_
    refine ev_getiv eX12_nextToken_166 fX12_121 rfl h2 ?_
    refine ev_aload_n eX12_nextToken_169 rfl ?_
    refine ev_getiv eX12_nextToken_170 fX12_109 rfl (gv (n : Int) (by rw [h8 12 (by decide) (by decide) (by decide) (by decide)]; exact hT.1)) ?_
    refine ev_icmp_ge 255 eX12_nextToken_173 rfl (by omega) (by omega) (fun h173 => ?_) (fun h173 => ?_)
    · skip
      refine ev_aload_n eX12_nextToken_255 rfl ?_
      refine ev_aload_n eX12_nextToken_256 rfl ?_
      refine ev_getiv eX12_nextToken_257 fX12_121 rfl h2 ?_
      refine ev_aload_n eX12_nextToken_260 rfl ?_
      refine ev_getiv eX12_nextToken_261 fX12_115 rfl h3 ?_
      refine ev_isub eX12_nextToken_264 ?_
      refine ev_iconst eX12_nextToken_265 ?_
      refine ev_icmp_le 273 eX12_nextToken_266 rfl (by omega) (by omega) (fun h266 => ?_) (fun h266 => ?_)
      · skip
        refine ev_iconst eX12_nextToken_273 ?_
        refine ev_puti eX12_nextToken_274 pX12_136 rfl ?_
        refine ev_ret eX12_nextToken_277 rfl ?_
        have hnd : ¬ isD tp n (a + f) := fun z => by have := z.1; omega
        have hTk := Tk_d (tp := tp) (n := n) (a := a) (f := f) (v := v) h7 hnd h6 h5 h10 (k := 3) (by rw [if_neg (by omega)]) (c := ((a + f : Nat) : Int)) (by push_cast; rfl)
        exact ⟨rfl, by rw [up_n _ _ (by decide)]; exact h3, hTk.cg (up_s _ _ _ _) (by rw [up_n _ _ (by decide)]; exact h4) (by rw [up_n _ _ (by decide)]; exact h2), fun j a1 a2 a3 a4 => by rw [up_n _ _ a3]; exact h8 j a1 a2 a3 a4, fun c hc => by rw [up_o _ _ _ hc]; exact h9 c hc⟩
      · skip
        refine ev_iconst eX12_nextToken_269 ?_
        refine ev_goto 274 eX12_nextToken_270 rfl ?_
        refine ev_puti eX12_nextToken_274 pX12_136 rfl ?_
        refine ev_ret eX12_nextToken_277 rfl ?_
        have hnd : ¬ isD tp n (a + f) := fun z => by have := z.1; omega
        have hTk := Tk_d (tp := tp) (n := n) (a := a) (f := f) (v := v) h7 hnd h6 h5 h10 (k := 0) (by rw [if_pos (by omega)]) (c := ((a + f : Nat) : Int)) (by push_cast; rfl)
        exact ⟨rfl, by rw [up_n _ _ (by decide)]; exact h3, hTk.cg (up_s _ _ _ _) (by rw [up_n _ _ (by decide)]; exact h4) (by rw [up_n _ _ (by decide)]; exact h2), fun j a1 a2 a3 a4 => by rw [up_n _ _ a3]; exact h8 j a1 a2 a3 a4, fun c hc => by rw [up_o _ _ _ hc]; exact h9 c hc⟩
    · skip
      have htp := (hT.2.2 (a + f) (by omega)).1
      refine ev_aload_n eX12_nextToken_176 rfl ?_
      refine ev_getr eX12_nextToken_177 fX12_37 rfl ?_
      refine ev_aload_n eX12_nextToken_180 rfl ?_
      refine ev_getiv eX12_nextToken_181 fX12_121 rfl h2 ?_
      refine ev_ialdv ((a + f)) eX12_nextToken_184 rfl (by first | rfl | omega) (by omega) (gv (tp (a + f) : Int) (by rw [h9 55 (by decide)]; exact (hT.2.2 (a + f) (by omega)).2)) ?_
      refine ev_i2l eX12_nextToken_185 (by omega) ?_
      refine ev_ldc2 eX12_nextToken_186 qX12_132 ?_
      refine ev_ldc2 eX12_nextToken_189 qX12_134 ?_
      refine ev_cS3 eX12_nextToken_192 ⟨lX12_70, kX12_in⟩ rfl (m_in (a := (tp (a + f) : Int)) (b := 48) (c := 57) (by omega) (by omega) (by omega)) ?_
      rintro _ _ ⟨rfl, rfl⟩
      refine ev_ifb_eq 255 eX12_nextToken_195 rfl (fun h195 => ?_) (fun h195 => ?_)
      · skip
        refine ev_aload_n eX12_nextToken_255 rfl ?_
        refine ev_aload_n eX12_nextToken_256 rfl ?_
        refine ev_getiv eX12_nextToken_257 fX12_121 rfl h2 ?_
        refine ev_aload_n eX12_nextToken_260 rfl ?_
        refine ev_getiv eX12_nextToken_261 fX12_115 rfl h3 ?_
        refine ev_isub eX12_nextToken_264 ?_
        refine ev_iconst eX12_nextToken_265 ?_
        refine ev_icmp_le 273 eX12_nextToken_266 rfl (by omega) (by omega) (fun h266 => ?_) (fun h266 => ?_)
        · skip
          refine ev_iconst eX12_nextToken_273 ?_
          refine ev_puti eX12_nextToken_274 pX12_136 rfl ?_
          refine ev_ret eX12_nextToken_277 rfl ?_
          have hnd : ¬ isD tp n (a + f) := fun z => h195 (by have := z.2; omega)
          have hTk := Tk_d (tp := tp) (n := n) (a := a) (f := f) (v := v) h7 hnd h6 h5 h10 (k := 3) (by rw [if_neg (by omega)]) (c := ((a + f : Nat) : Int)) (by push_cast; rfl)
          exact ⟨rfl, by rw [up_n _ _ (by decide)]; exact h3, hTk.cg (up_s _ _ _ _) (by rw [up_n _ _ (by decide)]; exact h4) (by rw [up_n _ _ (by decide)]; exact h2), fun j a1 a2 a3 a4 => by rw [up_n _ _ a3]; exact h8 j a1 a2 a3 a4, fun c hc => by rw [up_o _ _ _ hc]; exact h9 c hc⟩
        · skip
          refine ev_iconst eX12_nextToken_269 ?_
          refine ev_goto 274 eX12_nextToken_270 rfl ?_
          refine ev_puti eX12_nextToken_274 pX12_136 rfl ?_
          refine ev_ret eX12_nextToken_277 rfl ?_
          have hnd : ¬ isD tp n (a + f) := fun z => h195 (by have := z.2; omega)
          have hTk := Tk_d (tp := tp) (n := n) (a := a) (f := f) (v := v) h7 hnd h6 h5 h10 (k := 0) (by rw [if_pos (by omega)]) (c := ((a + f : Nat) : Int)) (by push_cast; rfl)
          exact ⟨rfl, by rw [up_n _ _ (by decide)]; exact h3, hTk.cg (up_s _ _ _ _) (by rw [up_n _ _ (by decide)]; exact h4) (by rw [up_n _ _ (by decide)]; exact h2), fun j a1 a2 a3 a4 => by rw [up_n _ _ a3]; exact h8 j a1 a2 a3 a4, fun c hc => by rw [up_o _ _ _ hc]; exact h9 c hc⟩
      · skip
        refine ev_aload_n eX12_nextToken_198 rfl ?_
        refine ev_aload_n eX12_nextToken_199 rfl ?_
        refine ev_getiv eX12_nextToken_200 fX12_121 rfl h2 ?_
        refine ev_aload_n eX12_nextToken_203 rfl ?_
        refine ev_getiv eX12_nextToken_204 fX12_115 rfl h3 ?_
        refine ev_isub eX12_nextToken_207 ?_
        refine ev_iconst eX12_nextToken_208 ?_
        refine ev_icmp_ge 235 eX12_nextToken_209 rfl (by omega) (by omega) (fun h209 => ?_) (fun h209 => ?_)
        · skip
          refine ev_aload_n eX12_nextToken_235 rfl ?_
          refine ev_getiv eX12_nextToken_236 fX12_125 rfl h4 ?_
          refine ev_puti eX12_nextToken_239 pX12_125 rfl ?_
          refine ev_aload_n eX12_nextToken_242 rfl ?_
          refine ev_dup eX12_nextToken_243 rfl ?_
          refine ev_getiv eX12_nextToken_244 fX12_121 rfl (gv ((a + f : Nat) : Int) (by rw [up_n _ _ (by decide)]; exact h2)) ?_
          refine ev_iconst eX12_nextToken_247 ?_
          refine ev_iadd eX12_nextToken_248 ?_
          refine ev_puti eX12_nextToken_249 pX12_121 rfl ?_
          refine ev_goto 165 eX12_nextToken_252 rfl ?_
          refine ih (f := f + 1) (v := v) (by omega) (by omega) (by rw [up_s]; push_cast; omega) (by rw [up_n _ _ (by decide), up_n _ _ (by decide)]; exact h3) (by rw [up_n _ _ (by decide), up_s]) ?_ (by omega) (fun k hk => ?_) ?_ (fun j a1 a2 a3 a4 => by rw [up_n _ _ a1, up_n _ _ a4]; exact h8 j a1 a2 a3 a4) (fun c hc => by rw [up_o _ _ _ hc, up_o _ _ _ hc]; exact h9 c hc)
          · exact h5
          · by_cases e : k = f
            · subst e; exact ⟨by omega, by omega⟩
            · exact h7 k (by omega)
          · intro z; omega
        · skip
          refine ev_bipush eX12_nextToken_212 rfl ?_
          refine ev_aload_n eX12_nextToken_214 rfl ?_
          refine ev_getiv eX12_nextToken_215 fX12_125 rfl h4 ?_
          refine ev_imul eX12_nextToken_218 ?_
          refine ev_aload_n eX12_nextToken_219 rfl ?_
          refine ev_getr eX12_nextToken_220 fX12_37 rfl ?_
          refine ev_aload_n eX12_nextToken_223 rfl ?_
          refine ev_getiv eX12_nextToken_224 fX12_121 rfl h2 ?_
          refine ev_ialdv ((a + f)) eX12_nextToken_227 rfl (by first | rfl | omega) (by omega) (gv (tp (a + f) : Int) (by rw [h9 55 (by decide)]; exact (hT.2.2 (a + f) (by omega)).2)) ?_
          refine ev_iadd eX12_nextToken_228 ?_
          refine ev_bipush eX12_nextToken_229 rfl ?_
          refine ev_isub eX12_nextToken_231 ?_
          refine ev_goto 239 eX12_nextToken_232 rfl ?_
          refine ev_puti eX12_nextToken_239 pX12_125 rfl ?_
          refine ev_aload_n eX12_nextToken_242 rfl ?_
          refine ev_dup eX12_nextToken_243 rfl ?_
          refine ev_getiv eX12_nextToken_244 fX12_121 rfl (gv ((a + f : Nat) : Int) (by rw [up_n _ _ (by decide)]; exact h2)) ?_
          refine ev_iconst eX12_nextToken_247 ?_
          refine ev_iadd eX12_nextToken_248 ?_
          refine ev_puti eX12_nextToken_249 pX12_121 rfl ?_
          refine ev_goto 165 eX12_nextToken_252 rfl ?_
          refine ih (f := f + 1) (v := 10 * v + (tp (a + f) : Int) - 48) (by omega) (by omega) (by rw [up_s]; push_cast; omega) (by rw [up_n _ _ (by decide), up_n _ _ (by decide)]; exact h3) (by rw [up_n _ _ (by decide), up_s]) ?_ (by omega) (fun k hk => ?_) ?_ (fun j a1 a2 a3 a4 => by rw [up_n _ _ a1, up_n _ _ a4]; exact h8 j a1 a2 a3 a4) (fun c hc => by rw [up_o _ _ _ hc, up_o _ _ _ hc]; exact h9 c hc)
          · obtain rfl : f = 1 := by omega
            have e1 := vl2_st (tp := tp) (a := a) (f := 1) (i := a + 1) rfl (by omega) (by omega)
            rw [← h10 (by omega)] at e1
            rw [e1]
            refine ⟨by omega, ?_⟩
            have := vl2_le (tp := tp) (n := n) (a := a) (f := 1 + 1) (fun k hk => by
              by_cases e : k = 1
              · subst e; exact ⟨by omega, by omega⟩
              · exact h7 k (by omega))
            omega
          · by_cases e : k = f
            · subst e; exact ⟨by omega, by omega⟩
            · exact h7 k (by omega)
          · intro z
            obtain rfl : f = 1 := by omega
            have e1 := vl2_st (tp := tp) (a := a) (f := 1) (i := a + 1) rfl (by omega) (by omega)
            rw [← h10 (by omega)] at e1
            exact e1
set_option maxRecDepth 20000 in
theorem m_nextToken {d : Nat} {σ : St} {tp : Nat → Nat} {n : Nat} (hT : MTp σ tp n) {a : Nat} (hc : σ 45 13 = (a : Int)) (han : a ≤ n) : Ct (d + 1) mX12_nextToken [.ref 45] σ (fun r τ => none = r ∧ τ 45 14 = (a : Int) ∧ Tk tp n a (τ 45 15) (τ 45 16) (τ 45 13) ∧ (∀ j, j ≠ 13 → j ≠ 14 → j ≠ 15 → j ≠ 16 → τ 45 j = σ 45 j) ∧ ∀ c, c ≠ 45 → τ c = σ c) := by
  refine ct_of hX12_nextToken (Nat.le_of_ble_eq_true rfl) ?_
  have hn := hT.2.1
  refine ev_aload_n eX12_nextToken_0 rfl ?_
  refine ev_aload_n eX12_nextToken_1 rfl ?_
  refine ev_getiv eX12_nextToken_2 fX12_121 rfl hc ?_
  refine ev_puti eX12_nextToken_5 pX12_115 rfl ?_
  refine ev_aload_n eX12_nextToken_8 rfl ?_
  refine ev_aload_n eX12_nextToken_9 rfl ?_
  refine ev_getiv eX12_nextToken_10 fX12_121 rfl (gv ((a : Int)) (by rw [up_n _ _ (by decide)]; exact hc)) ?_
  refine ev_aload_n eX12_nextToken_13 rfl ?_
  refine ev_getiv eX12_nextToken_14 fX12_109 rfl (gv ((n : Int)) (by rw [up_n _ _ (by decide)]; exact hT.1)) ?_
  refine ev_icmp_ge 32 eX12_nextToken_17 rfl (by omega) (by omega) (fun h17 => ?_) (fun h17 => ?_)
  · skip
    refine ev_ldc eX12_nextToken_32 qX12_124 ?_
    refine ev_puti eX12_nextToken_34 pX12_125 rfl ?_
    refine ev_aload_n eX12_nextToken_37 rfl ?_
    refine ev_aload_n eX12_nextToken_38 rfl ?_
    refine ev_getiv eX12_nextToken_39 fX12_121 rfl (gv ((a : Int)) (by rw [up_n _ _ (by decide), up_n _ _ (by decide)]; exact hc)) ?_
    refine ev_aload_n eX12_nextToken_42 rfl ?_
    refine ev_getiv eX12_nextToken_43 fX12_109 rfl (gv ((n : Int)) (by rw [up_n _ _ (by decide), up_n _ _ (by decide)]; exact hT.1)) ?_
    refine ev_icmp_ne 53 eX12_nextToken_46 rfl (by omega) (by omega) (fun h46 => False.elim (by omega)) (fun h46 => ?_)
    refine ev_iconst eX12_nextToken_49 ?_
    refine ev_goto 118 eX12_nextToken_50 rfl ?_
    refine ev_puti eX12_nextToken_118 pX12_136 rfl ?_
    refine ev_aload_n eX12_nextToken_121 rfl ?_
    refine ev_dup eX12_nextToken_122 rfl ?_
    refine ev_getiv eX12_nextToken_123 fX12_121 rfl (gv ((a : Int)) (by rw [up_n _ _ (by decide), up_n _ _ (by decide), up_n _ _ (by decide)]; exact hc)) ?_
    refine ev_aload_n eX12_nextToken_126 rfl ?_
    refine ev_getiv eX12_nextToken_127 fX12_121 rfl (gv ((a : Int)) (by rw [up_n _ _ (by decide), up_n _ _ (by decide), up_n _ _ (by decide)]; exact hc)) ?_
    refine ev_aload_n eX12_nextToken_130 rfl ?_
    refine ev_getiv eX12_nextToken_131 fX12_109 rfl (gv ((n : Int)) (by rw [up_n _ _ (by decide), up_n _ _ (by decide), up_n _ _ (by decide)]; exact hT.1)) ?_
    refine ev_icmp_ge 141 eX12_nextToken_134 rfl (by omega) (by omega) (fun h134 => ?_) (fun h134 => False.elim (by omega))
    refine ev_iconst eX12_nextToken_141 ?_
    refine ev_iadd eX12_nextToken_142 ?_
    refine ev_puti eX12_nextToken_143 pX12_121 rfl ?_
    refine ev_aload_n eX12_nextToken_146 rfl ?_
    refine ev_getiv eX12_nextToken_147 fX12_136 rfl (gv (1) (by rw [up_n _ _ (by decide), up_s])) ?_
    refine ev_iconst eX12_nextToken_150 ?_
    refine ev_icmp_ne 277 eX12_nextToken_151 rfl (by omega) (by omega) (fun h151 => ?_) (fun h151 => False.elim (by omega))
    refine ev_ret eX12_nextToken_277 rfl ?_
    exact ⟨rfl, by rw [up_n _ _ (by decide), up_n _ _ (by decide), up_n _ _ (by decide), up_s], (Tk_e (by omega)).cg (by rw [up_n _ _ (by decide), up_s]) (by rw [up_n _ _ (by decide), up_n _ _ (by decide), up_s]) (by rw [up_s]; omega), fun j a1 a2 a3 a4 => by rw [up_n _ _ a1, up_n _ _ a3, up_n _ _ a4, up_n _ _ a2], fun c hc => by rw [up_o _ _ _ hc, up_o _ _ _ hc, up_o _ _ _ hc, up_o _ _ _ hc]⟩
  · skip
    have htp := (hT.2.2 a (by omega)).1
    refine ev_aload_n eX12_nextToken_20 rfl ?_
    refine ev_getr eX12_nextToken_21 fX12_37 rfl ?_
    refine ev_aload_n eX12_nextToken_24 rfl ?_
    refine ev_getiv eX12_nextToken_25 fX12_121 rfl (gv ((a : Int)) (by rw [up_n _ _ (by decide)]; exact hc)) ?_
    refine ev_ialdv (a) eX12_nextToken_28 rfl (by first | rfl | omega) (by omega) (gv (tp a : Int) (by rw [up_o _ _ _ (by decide)]; exact (hT.2.2 a (by omega)).2)) ?_
    refine ev_goto 34 eX12_nextToken_29 rfl ?_
    refine ev_puti eX12_nextToken_34 pX12_125 rfl ?_
    refine ev_aload_n eX12_nextToken_37 rfl ?_
    refine ev_aload_n eX12_nextToken_38 rfl ?_
    refine ev_getiv eX12_nextToken_39 fX12_121 rfl (gv ((a : Int)) (by rw [up_n _ _ (by decide), up_n _ _ (by decide)]; exact hc)) ?_
    refine ev_aload_n eX12_nextToken_42 rfl ?_
    refine ev_getiv eX12_nextToken_43 fX12_109 rfl (gv ((n : Int)) (by rw [up_n _ _ (by decide), up_n _ _ (by decide)]; exact hT.1)) ?_
    refine ev_icmp_ne 53 eX12_nextToken_46 rfl (by omega) (by omega) (fun h46 => ?_) (fun h46 => False.elim (by omega))
    refine ev_aload_n eX12_nextToken_53 rfl ?_
    refine ev_getiv eX12_nextToken_54 fX12_125 rfl (gv ((tp a : Int)) (by rw [up_s])) ?_
    refine ev_i2l eX12_nextToken_57 (by omega) ?_
    refine ev_ldc2 eX12_nextToken_58 qX12_128 ?_
    refine ev_ldc2 eX12_nextToken_61 qX12_130 ?_
    refine ev_cS3 eX12_nextToken_64 ⟨lX12_70, kX12_in⟩ rfl (m_in (a := (tp a : Int)) (b := 97) (c := 122) (by omega) (by omega) (by omega)) ?_
    rintro _ _ ⟨rfl, rfl⟩
    refine ev_ifb_eq 74 eX12_nextToken_67 rfl (fun h67 => ?_) (fun h67 => ?_)
    · skip
      refine ev_aload_n eX12_nextToken_74 rfl ?_
      refine ev_getiv eX12_nextToken_75 fX12_125 rfl (gv ((tp a : Int)) (by rw [up_s])) ?_
      refine ev_i2l eX12_nextToken_78 (by omega) ?_
      refine ev_ldc2 eX12_nextToken_79 qX12_132 ?_
      refine ev_ldc2 eX12_nextToken_82 qX12_134 ?_
      refine ev_cS3 eX12_nextToken_85 ⟨lX12_70, kX12_in⟩ rfl (m_in (a := (tp a : Int)) (b := 48) (c := 57) (by omega) (by omega) (by omega)) ?_
      rintro _ _ ⟨rfl, rfl⟩
      refine ev_ifb_eq 95 eX12_nextToken_88 rfl (fun h88 => ?_) (fun h88 => ?_)
      · skip
        refine ev_aload_n eX12_nextToken_95 rfl ?_
        refine ev_getiv eX12_nextToken_96 fX12_125 rfl (gv ((tp a : Int)) (by rw [up_s])) ?_
        refine ev_bipush eX12_nextToken_99 rfl ?_
        refine ev_icmp_eq 113 eX12_nextToken_101 rfl (by omega) (by omega) (fun h101 => ?_) (fun h101 => ?_)
        · skip
          refine ev_iconst eX12_nextToken_113 ?_
          refine ev_goto 118 eX12_nextToken_114 rfl ?_
          refine ev_puti eX12_nextToken_118 pX12_136 rfl ?_
          refine ev_aload_n eX12_nextToken_121 rfl ?_
          refine ev_dup eX12_nextToken_122 rfl ?_
          refine ev_getiv eX12_nextToken_123 fX12_121 rfl (gv ((a : Int)) (by rw [up_n _ _ (by decide), up_n _ _ (by decide), up_n _ _ (by decide)]; exact hc)) ?_
          refine ev_aload_n eX12_nextToken_126 rfl ?_
          refine ev_getiv eX12_nextToken_127 fX12_121 rfl (gv ((a : Int)) (by rw [up_n _ _ (by decide), up_n _ _ (by decide), up_n _ _ (by decide)]; exact hc)) ?_
          refine ev_aload_n eX12_nextToken_130 rfl ?_
          refine ev_getiv eX12_nextToken_131 fX12_109 rfl (gv ((n : Int)) (by rw [up_n _ _ (by decide), up_n _ _ (by decide), up_n _ _ (by decide)]; exact hT.1)) ?_
          refine ev_icmp_ge 141 eX12_nextToken_134 rfl (by omega) (by omega) (fun h134 => False.elim (by omega)) (fun h134 => ?_)
          refine ev_iconst eX12_nextToken_137 ?_
          refine ev_goto 142 eX12_nextToken_138 rfl ?_
          refine ev_iadd eX12_nextToken_142 ?_
          refine ev_puti eX12_nextToken_143 pX12_121 rfl ?_
          refine ev_aload_n eX12_nextToken_146 rfl ?_
          refine ev_getiv eX12_nextToken_147 fX12_136 rfl (gv (4) (by rw [up_n _ _ (by decide), up_s])) ?_
          refine ev_iconst eX12_nextToken_150 ?_
          refine ev_icmp_ne 277 eX12_nextToken_151 rfl (by omega) (by omega) (fun h151 => ?_) (fun h151 => False.elim (by omega))
          refine ev_ret eX12_nextToken_277 rfl ?_
          exact ⟨rfl, by rw [up_n _ _ (by decide), up_n _ _ (by decide), up_n _ _ (by decide), up_s], (Tk_n (k := 4) (by omega) (fun z => by have := z.2; omega) htp (by omega) (by omega) (by omega) (by omega)).cg (by rw [up_n _ _ (by decide), up_s]) (by rw [up_n _ _ (by decide), up_n _ _ (by decide), up_s]) (up_s _ _ _ _), fun j a1 a2 a3 a4 => by rw [up_n _ _ a1, up_n _ _ a3, up_n _ _ a4, up_n _ _ a2], fun c hc => by rw [up_o _ _ _ hc, up_o _ _ _ hc, up_o _ _ _ hc, up_o _ _ _ hc]⟩
        · skip
          refine ev_aload_n eX12_nextToken_104 rfl ?_
          refine ev_getiv eX12_nextToken_105 fX12_125 rfl (gv ((tp a : Int)) (by rw [up_s])) ?_
          refine ev_bipush eX12_nextToken_108 rfl ?_
          refine ev_icmp_ne 117 eX12_nextToken_110 rfl (by omega) (by omega) (fun h110 => ?_) (fun h110 => ?_)
          · skip
            refine ev_iconst eX12_nextToken_117 ?_
            refine ev_puti eX12_nextToken_118 pX12_136 rfl ?_
            refine ev_aload_n eX12_nextToken_121 rfl ?_
            refine ev_dup eX12_nextToken_122 rfl ?_
            refine ev_getiv eX12_nextToken_123 fX12_121 rfl (gv ((a : Int)) (by rw [up_n _ _ (by decide), up_n _ _ (by decide), up_n _ _ (by decide)]; exact hc)) ?_
            refine ev_aload_n eX12_nextToken_126 rfl ?_
            refine ev_getiv eX12_nextToken_127 fX12_121 rfl (gv ((a : Int)) (by rw [up_n _ _ (by decide), up_n _ _ (by decide), up_n _ _ (by decide)]; exact hc)) ?_
            refine ev_aload_n eX12_nextToken_130 rfl ?_
            refine ev_getiv eX12_nextToken_131 fX12_109 rfl (gv ((n : Int)) (by rw [up_n _ _ (by decide), up_n _ _ (by decide), up_n _ _ (by decide)]; exact hT.1)) ?_
            refine ev_icmp_ge 141 eX12_nextToken_134 rfl (by omega) (by omega) (fun h134 => False.elim (by omega)) (fun h134 => ?_)
            refine ev_iconst eX12_nextToken_137 ?_
            refine ev_goto 142 eX12_nextToken_138 rfl ?_
            refine ev_iadd eX12_nextToken_142 ?_
            refine ev_puti eX12_nextToken_143 pX12_121 rfl ?_
            refine ev_aload_n eX12_nextToken_146 rfl ?_
            refine ev_getiv eX12_nextToken_147 fX12_136 rfl (gv (0) (by rw [up_n _ _ (by decide), up_s])) ?_
            refine ev_iconst eX12_nextToken_150 ?_
            refine ev_icmp_ne 277 eX12_nextToken_151 rfl (by omega) (by omega) (fun h151 => ?_) (fun h151 => False.elim (by omega))
            refine ev_ret eX12_nextToken_277 rfl ?_
            exact ⟨rfl, by rw [up_n _ _ (by decide), up_n _ _ (by decide), up_n _ _ (by decide), up_s], (Tk_n (k := 0) (by omega) (fun z => by have := z.2; omega) htp (by omega) (by omega) (by omega) (by omega)).cg (by rw [up_n _ _ (by decide), up_s]) (by rw [up_n _ _ (by decide), up_n _ _ (by decide), up_s]) (up_s _ _ _ _), fun j a1 a2 a3 a4 => by rw [up_n _ _ a1, up_n _ _ a3, up_n _ _ a4, up_n _ _ a2], fun c hc => by rw [up_o _ _ _ hc, up_o _ _ _ hc, up_o _ _ _ hc, up_o _ _ _ hc]⟩
          · skip
            refine ev_iconst eX12_nextToken_113 ?_
            refine ev_goto 118 eX12_nextToken_114 rfl ?_
            refine ev_puti eX12_nextToken_118 pX12_136 rfl ?_
            refine ev_aload_n eX12_nextToken_121 rfl ?_
            refine ev_dup eX12_nextToken_122 rfl ?_
            refine ev_getiv eX12_nextToken_123 fX12_121 rfl (gv ((a : Int)) (by rw [up_n _ _ (by decide), up_n _ _ (by decide), up_n _ _ (by decide)]; exact hc)) ?_
            refine ev_aload_n eX12_nextToken_126 rfl ?_
            refine ev_getiv eX12_nextToken_127 fX12_121 rfl (gv ((a : Int)) (by rw [up_n _ _ (by decide), up_n _ _ (by decide), up_n _ _ (by decide)]; exact hc)) ?_
            refine ev_aload_n eX12_nextToken_130 rfl ?_
            refine ev_getiv eX12_nextToken_131 fX12_109 rfl (gv ((n : Int)) (by rw [up_n _ _ (by decide), up_n _ _ (by decide), up_n _ _ (by decide)]; exact hT.1)) ?_
            refine ev_icmp_ge 141 eX12_nextToken_134 rfl (by omega) (by omega) (fun h134 => False.elim (by omega)) (fun h134 => ?_)
            refine ev_iconst eX12_nextToken_137 ?_
            refine ev_goto 142 eX12_nextToken_138 rfl ?_
            refine ev_iadd eX12_nextToken_142 ?_
            refine ev_puti eX12_nextToken_143 pX12_121 rfl ?_
            refine ev_aload_n eX12_nextToken_146 rfl ?_
            refine ev_getiv eX12_nextToken_147 fX12_136 rfl (gv (4) (by rw [up_n _ _ (by decide), up_s])) ?_
            refine ev_iconst eX12_nextToken_150 ?_
            refine ev_icmp_ne 277 eX12_nextToken_151 rfl (by omega) (by omega) (fun h151 => ?_) (fun h151 => False.elim (by omega))
            refine ev_ret eX12_nextToken_277 rfl ?_
            exact ⟨rfl, by rw [up_n _ _ (by decide), up_n _ _ (by decide), up_n _ _ (by decide), up_s], (Tk_n (k := 4) (by omega) (fun z => by have := z.2; omega) htp (by omega) (by omega) (by omega) (by omega)).cg (by rw [up_n _ _ (by decide), up_s]) (by rw [up_n _ _ (by decide), up_n _ _ (by decide), up_s]) (up_s _ _ _ _), fun j a1 a2 a3 a4 => by rw [up_n _ _ a1, up_n _ _ a3, up_n _ _ a4, up_n _ _ a2], fun c hc => by rw [up_o _ _ _ hc, up_o _ _ _ hc, up_o _ _ _ hc, up_o _ _ _ hc]⟩
      · skip
        refine ev_iconst eX12_nextToken_91 ?_
        refine ev_goto 118 eX12_nextToken_92 rfl ?_
        refine ev_puti eX12_nextToken_118 pX12_136 rfl ?_
        refine ev_aload_n eX12_nextToken_121 rfl ?_
        refine ev_dup eX12_nextToken_122 rfl ?_
        refine ev_getiv eX12_nextToken_123 fX12_121 rfl (gv ((a : Int)) (by rw [up_n _ _ (by decide), up_n _ _ (by decide), up_n _ _ (by decide)]; exact hc)) ?_
        refine ev_aload_n eX12_nextToken_126 rfl ?_
        refine ev_getiv eX12_nextToken_127 fX12_121 rfl (gv ((a : Int)) (by rw [up_n _ _ (by decide), up_n _ _ (by decide), up_n _ _ (by decide)]; exact hc)) ?_
        refine ev_aload_n eX12_nextToken_130 rfl ?_
        refine ev_getiv eX12_nextToken_131 fX12_109 rfl (gv ((n : Int)) (by rw [up_n _ _ (by decide), up_n _ _ (by decide), up_n _ _ (by decide)]; exact hT.1)) ?_
        refine ev_icmp_ge 141 eX12_nextToken_134 rfl (by omega) (by omega) (fun h134 => False.elim (by omega)) (fun h134 => ?_)
        refine ev_iconst eX12_nextToken_137 ?_
        refine ev_goto 142 eX12_nextToken_138 rfl ?_
        refine ev_iadd eX12_nextToken_142 ?_
        refine ev_puti eX12_nextToken_143 pX12_121 rfl ?_
        refine ev_aload_n eX12_nextToken_146 rfl ?_
        refine ev_getiv eX12_nextToken_147 fX12_136 rfl (gv (3) (by rw [up_n _ _ (by decide), up_s])) ?_
        refine ev_iconst eX12_nextToken_150 ?_
        refine ev_icmp_ne 277 eX12_nextToken_151 rfl (by omega) (by omega) (fun h151 => False.elim (by omega)) (fun h151 => ?_)
        refine ev_aload_n eX12_nextToken_154 rfl ?_
        refine ev_dup eX12_nextToken_155 rfl ?_
        refine ev_getiv eX12_nextToken_156 fX12_125 rfl (gv ((tp a : Int)) (by rw [up_n _ _ (by decide), up_n _ _ (by decide), up_s])) ?_
        refine ev_bipush eX12_nextToken_159 rfl ?_
        refine ev_isub eX12_nextToken_161 ?_
        refine ev_puti eX12_nextToken_162 pX12_125 rfl ?_
        refine m_nt_l hT (n + 1) (f := 1) (v := (tp a : Int) - 48) (by omega) (by omega) (by rw [up_n _ _ (by decide), up_s]; push_cast; rfl) (by rw [up_n _ _ (by decide), up_n _ _ (by decide), up_n _ _ (by decide), up_n _ _ (by decide), up_s]) (up_s _ _ _ _) (by omega) (by omega) (fun k hk => ?_) (fun _ => ?_) (fun j a1 a2 a3 a4 => by rw [up_n _ _ a4, up_n _ _ a1, up_n _ _ a3, up_n _ _ a4, up_n _ _ a2]) (fun c hc => by rw [up_o _ _ _ hc, up_o _ _ _ hc, up_o _ _ _ hc, up_o _ _ _ hc, up_o _ _ _ hc])
        · obtain rfl : k = 0 := by omega
          exact ⟨by omega, by show 48 ≤ tp a; omega, by show tp a ≤ 57; omega⟩
        · show _ = ((tp a - 48 : Nat) : Int)
          omega
    · skip
      refine ev_iconst eX12_nextToken_70 ?_
      refine ev_goto 118 eX12_nextToken_71 rfl ?_
      refine ev_puti eX12_nextToken_118 pX12_136 rfl ?_
      refine ev_aload_n eX12_nextToken_121 rfl ?_
      refine ev_dup eX12_nextToken_122 rfl ?_
      refine ev_getiv eX12_nextToken_123 fX12_121 rfl (gv ((a : Int)) (by rw [up_n _ _ (by decide), up_n _ _ (by decide), up_n _ _ (by decide)]; exact hc)) ?_
      refine ev_aload_n eX12_nextToken_126 rfl ?_
      refine ev_getiv eX12_nextToken_127 fX12_121 rfl (gv ((a : Int)) (by rw [up_n _ _ (by decide), up_n _ _ (by decide), up_n _ _ (by decide)]; exact hc)) ?_
      refine ev_aload_n eX12_nextToken_130 rfl ?_
      refine ev_getiv eX12_nextToken_131 fX12_109 rfl (gv ((n : Int)) (by rw [up_n _ _ (by decide), up_n _ _ (by decide), up_n _ _ (by decide)]; exact hT.1)) ?_
      refine ev_icmp_ge 141 eX12_nextToken_134 rfl (by omega) (by omega) (fun h134 => False.elim (by omega)) (fun h134 => ?_)
      refine ev_iconst eX12_nextToken_137 ?_
      refine ev_goto 142 eX12_nextToken_138 rfl ?_
      refine ev_iadd eX12_nextToken_142 ?_
      refine ev_puti eX12_nextToken_143 pX12_121 rfl ?_
      refine ev_aload_n eX12_nextToken_146 rfl ?_
      refine ev_getiv eX12_nextToken_147 fX12_136 rfl (gv (2) (by rw [up_n _ _ (by decide), up_s])) ?_
      refine ev_iconst eX12_nextToken_150 ?_
      refine ev_icmp_ne 277 eX12_nextToken_151 rfl (by omega) (by omega) (fun h151 => ?_) (fun h151 => False.elim (by omega))
      refine ev_ret eX12_nextToken_277 rfl ?_
      exact ⟨rfl, by rw [up_n _ _ (by decide), up_n _ _ (by decide), up_n _ _ (by decide), up_s], (Tk_n (k := 2) (by omega) (fun z => by have := z.2; omega) htp (by omega) (by omega) (by omega) (by omega)).cg (by rw [up_n _ _ (by decide), up_s]) (by rw [up_n _ _ (by decide), up_n _ _ (by decide), up_s]) (up_s _ _ _ _), fun j a1 a2 a3 a4 => by rw [up_n _ _ a1, up_n _ _ a3, up_n _ _ a4, up_n _ _ a2], fun c hc => by rw [up_o _ _ _ hc, up_o _ _ _ hc, up_o _ _ _ hc, up_o _ _ _ hc]⟩
