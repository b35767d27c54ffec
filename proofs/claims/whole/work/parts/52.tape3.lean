/-! Tape: sorts, the row, the whole text -/
theorem sByte_B (tp : Nat → Nat) (n : Nat) (c : Int) (q : Ps) : (sByte tp n c q).2.2 = q.2.2 := by
  unfold sByte
  split
  · rfl
  · split <;> rfl
def isT (tp : Nat → Nat) (n a : Nat) : Prop := 97 ≤ nx tp n a ∧ nx tp n a ≤ 100
theorem isT_lt {tp : Nat → Nat} {n a : Nat} (h : isT tp n a) : a < n := by
  unfold isT nx at h
  split at h
  · assumption
  · omega
theorem isT_tp {tp : Nat → Nat} {n a : Nat} (h : isT tp n a) : nx tp n a - 97 = ((tp a - 97 : Nat) : Int) ∧ tp a - 97 ≤ 3 := by
  have hl := isT_lt h
  unfold isT nx at h
  unfold nx
  rw [if_pos hl] at h ⊢
  omega
theorem sTl_t {tp : Nat → Nat} {n lb zc m k a : Nat} {B : Bok} (h : isT tp n a) : sTl tp n lb zc (m + 1) k a B = sTl tp n lb zc m (k + 1) (a + 1) (upB (upB B (lb + k) (tp a - 97)) zc (k + 1)) := if_pos h
theorem sTl_f {tp : Nat → Nat} {n lb zc m k a : Nat} {B : Bok} (h : ¬ isT tp n a) : sTl tp n lb zc m k a B = (a, B) := by
  cases m with
  | zero => rfl
  | succ m => exact if_neg h
theorem sWord_t {tp : Nat → Nat} {n lb zc m : Nat} {q : Ps} (h : q.1 = 0) (h2 : isT tp n q.2.1) : sWord tp n lb zc m q = (0, (sTl tp n lb zc m 0 q.2.1 q.2.2).1, (sTl tp n lb zc m 0 q.2.1 q.2.2).2) := by unfold sWord; rw [if_neg (by omega)]; exact if_pos h2
theorem sWord_n {tp : Nat → Nat} {n lb zc m : Nat} {q : Ps} (h : q.1 = 0) (h2 : ¬ isT tp n q.2.1) : sWord tp n lb zc m q = (1, q.2.1, q.2.2) := by unfold sWord; rw [if_neg (by omega)]; exact if_neg h2
theorem RdS_at {ρ τ : St} {tp : Nat → Nat} {n a : Nat} {B : Bok} (h : RdS ρ τ tp n (0, a, B)) (ha : a < n) : RdS ρ (up τ 2 2 ((a : Int) + 1)) tp n (0, a + 1, B) := by
  obtain ⟨h1, h2, h3, h4, h5, h6⟩ := h
  exact ⟨TpC_up h1 (by decide), by rw [up_s]; push_cast; rfl, by rw [up_n _ _ (by decide)]; exact h3, ha, fun z => ⟨fun j hj => by rw [up_o _ _ _ (by decide)]; exact (h5 z).1 j hj, (h5 z).2⟩, fun k a1 a2 => by rw [up_o _ _ _ a1]; exact h6 k a1 a2⟩
theorem RdS_fault {ρ τ : St} {tp : Nat → Nat} {n f : Nat} {q : Ps} (h : RdS ρ τ tp n q) (hf : f ≠ 0) : RdS ρ (up τ 2 3 (f : Int)) tp n (f, q.2.1, q.2.2) := by
  obtain ⟨h1, h2, h3, h4, h5, h6⟩ := h
  exact ⟨TpC_up h1 (by decide), by rw [up_n _ _ (by decide)]; exact h2, up_s _ _ _ _, h4, fun z => absurd z hf, fun k a1 a2 => by rw [up_o _ _ _ a1]; exact h6 k a1 a2⟩
theorem bnd_w {s i : Nat} (hs : s < 4) (hi : i < 4) : bnd (20 + 4 * s + i) = 3 := by unfold bnd; repeat (first | rw [if_pos (by omega)] | rw [if_neg (by omega)])
theorem bnd_z {s : Nat} (hs : s < 4) : bnd (16 + s) = 4 := by unfold bnd; repeat (first | rw [if_pos (by omega)] | rw [if_neg (by omega)])
theorem bnd_r {i : Nat} (hi : i < 8) : bnd (36 + i) = 3 := by unfold bnd; repeat (first | rw [if_pos (by omega)] | rw [if_neg (by omega)])
theorem bnd_k {s : Nat} (hs : s < 4) : bnd (4 + s) = 5 := by unfold bnd; repeat (first | rw [if_pos (by omega)] | rw [if_neg (by omega)])
theorem bnd_p {s v : Nat} (hs : s < 4) (hv : v < 2) : bnd (8 + 2 * s + v) = 9 := by unfold bnd; repeat (first | rw [if_pos (by omega)] | rw [if_neg (by omega)])
set_option maxRecDepth 20000 in
theorem c_tsl {d : Nat} {ρ : St} {tp : Nat → Nat} {n s a0 : Nat} {u2 u3 : Int} {R : Nat × Bok} {T0 : Prop} {post : Option Value → St → Prop} (hs : s < 4) (hk : ∀ (τ : St) (i a : Nat) (B : Bok), i ≤ 4 → RdS ρ τ tp n (0, a, B) → (a, B) = R → B (16 + s) = i → (0 < i → T0) → (i = 0 → ¬ isT tp n a ∧ a = a0) → Ev (d + 2) mX10_takeSort 131 [.ref 2, .ref 5, vi u2, vi s, vi i] [] τ post) : ∀ (fu : Nat) {i a : Nat} {B : Bok} {τ : St}, 4 - i < fu → i ≤ 4 → RdS ρ τ tp n (0, a, B) → sTl tp n (20 + 4 * s) (16 + s) (4 - i) i a B = R → B (16 + s) = i → (0 < i → T0) → (i = 0 → a = a0 ∧ (isT tp n a → T0)) → Ev (d + 2) mX10_takeSort 100 [.ref 2, .ref 5, vi u2, vi s, vi i] [] τ (post) := by
  intro fu
  induction fu with
  | zero => intros; omega
  | succ fu ih =>
    intro i a B τ hm h1 h2 h3 h4 h5 h6
    refine ev_iload eX10_takeSort_100 rfl ?_
    refine ev_iconst eX10_takeSort_102 ?_
    refine ev_icmp_ge 131 eX10_takeSort_103 rfl (by omega) (by omega) (fun hlt => ?_) (fun hlt => ?_)
    · skip
      exact hk τ i a B h1 h2 (by rw [← h3, show 4 - i = 0 by omega]; rfl) h4 h5 (fun z => by omega)
    · skip
      refine ev_aload_n eX10_takeSort_106 rfl ?_
      obtain ⟨hT, ha, hfz, han, hBk, hfr⟩ := id h2
      obtain ⟨hB, hWf⟩ := hBk rfl
      have hxr := nx_r (fun i hi => (hT.2.2 i hi).1) a
      refine ev_cV0 eX10_takeSort_107 ⟨lX10_67, kX10_next⟩ rfl rfl (c_tnext hT ha han) ?_
      rintro _ _ ⟨rfl, rfl⟩
      refine ev_cS1 eX10_takeSort_110 ⟨lX10_89, kX10_isTile⟩ rfl (c_isTile (x := nx tp n a) (by omega)) ?_
      rintro _ _ ⟨rfl, rfl⟩
      refine ev_ifb_eq 131 eX10_takeSort_113 rfl (fun hti => ?_) (fun hti => ?_)
      · skip
        exact hk τ i a B h1 h2 (by rw [← h3, sTl_f hti]) h4 h5 (fun z => ⟨hti, (h6 z).1⟩)
      · skip
        have hti : isT tp n a := hti
        obtain ⟨e1, e2⟩ := isT_tp hti
        refine ev_aload_n eX10_takeSort_116 rfl ?_
        refine ev_iload_n eX10_takeSort_117 rfl ?_
        refine ev_aload_n eX10_takeSort_118 rfl ?_
        refine ev_cV0 eX10_takeSort_119 ⟨lX10_92, kX10_nextTile⟩ rfl rfl (c_nextTile hT ha han) ?_
        rintro _ _ ⟨rfl, rfl⟩
        rw [e1]
        refine ev_cV2 eX10_takeSort_122 ⟨lX10_95, kX0_addToWord⟩ rfl rfl (c_addToWord Bq5 (s := s) (z := i) hs (show up τ 2 2 ((a : Int) + 1) 18 (16 + s) = (i : Int) by rw [up_o _ _ _ (by decide), hB _ (by omega)]; show ((B (16 + s) : Nat) : Int) = (i : Int); rw [h4]) (by omega)) ?_
        rintro _ _ ⟨rfl, rfl⟩
        refine ev_iinc eX10_takeSort_125 rfl (by decide) ?_
        refine ev_goto 100 eX10_takeSort_128 rfl ?_
        have hl := isT_lt hti
        refine ih (i := i + 1) (a := a + 1) (B := upB (upB B (20 + 4 * s + i) (tp a - 97)) (16 + s) (i + 1)) (by omega) (by omega) ?_ ?_ (upB_s _ _ _) (fun _ => ?_) (fun z => by omega)
        · exact RdS_set (x := i + 1) (RdS_set (x := tp a - 97) (RdS_at h2 hl) rfl (by rw [bnd_w hs (by omega)]; exact e2)) rfl (by rw [bnd_z hs]; omega)
        · rw [← h3, show 4 - i = (4 - (i + 1)) + 1 by omega, sTl_t hti]
        · rcases (show i = 0 ∨ 0 < i by omega) with z | z
          · exact (h6 z).2 hti
          · exact h5 z
set_option maxRecDepth 20000 in
theorem c_trl {d : Nat} {ρ : St} {tp : Nat → Nat} {n s a0 : Nat} {u2 u3 : Int} {R : Nat × Bok} {T0 : Prop} {post : Option Value → St → Prop} (hk : ∀ (τ : St) (i a : Nat) (B : Bok), i ≤ 8 → RdS ρ τ tp n (0, a, B) → (a, B) = R → B (3) = i → (0 < i → T0) → (i = 0 → ¬ isT tp n a ∧ a = a0) → Ev (d + 2) mX10_takeTheRow 43 [.ref 2, .ref 5, vi i] [] τ post) : ∀ (fu : Nat) {i a : Nat} {B : Bok} {τ : St}, 8 - i < fu → i ≤ 8 → RdS ρ τ tp n (0, a, B) → sTl tp n (36) (3) (8 - i) i a B = R → B (3) = i → (0 < i → T0) → (i = 0 → a = a0 ∧ (isT tp n a → T0)) → Ev (d + 2) mX10_takeTheRow 13 [.ref 2, .ref 5, vi i] [] τ (post) := by
  intro fu
  induction fu with
  | zero => intros; omega
  | succ fu ih =>
    intro i a B τ hm h1 h2 h3 h4 h5 h6
    refine ev_iload_n eX10_takeTheRow_13 rfl ?_
    refine ev_bipush eX10_takeTheRow_14 rfl ?_
    refine ev_icmp_ge 43 eX10_takeTheRow_16 rfl (by omega) (by omega) (fun hlt => ?_) (fun hlt => ?_)
    · skip
      exact hk τ i a B h1 h2 (by rw [← h3, show 8 - i = 0 by omega]; rfl) h4 h5 (fun z => by omega)
    · skip
      refine ev_aload_n eX10_takeTheRow_19 rfl ?_
      obtain ⟨hT, ha, hfz, han, hBk, hfr⟩ := id h2
      obtain ⟨hB, hWf⟩ := hBk rfl
      have hxr := nx_r (fun i hi => (hT.2.2 i hi).1) a
      refine ev_cV0 eX10_takeTheRow_20 ⟨lX10_67, kX10_next⟩ rfl rfl (c_tnext hT ha han) ?_
      rintro _ _ ⟨rfl, rfl⟩
      refine ev_cS1 eX10_takeTheRow_23 ⟨lX10_89, kX10_isTile⟩ rfl (c_isTile (x := nx tp n a) (by omega)) ?_
      rintro _ _ ⟨rfl, rfl⟩
      refine ev_ifb_eq 43 eX10_takeTheRow_26 rfl (fun hti => ?_) (fun hti => ?_)
      · skip
        exact hk τ i a B h1 h2 (by rw [← h3, sTl_f hti]) h4 h5 (fun z => ⟨hti, (h6 z).1⟩)
      · skip
        have hti : isT tp n a := hti
        obtain ⟨e1, e2⟩ := isT_tp hti
        refine ev_aload_n eX10_takeTheRow_29 rfl ?_
        refine ev_aload_n eX10_takeTheRow_30 rfl ?_
        refine ev_cV0 eX10_takeTheRow_31 ⟨lX10_92, kX10_nextTile⟩ rfl rfl (c_nextTile hT ha han) ?_
        rintro _ _ ⟨rfl, rfl⟩
        rw [e1]
        refine ev_cV1 eX10_takeTheRow_34 ⟨lX10_101, kX0_addToRow⟩ rfl rfl (c_addToRow Bq5 (z := i) (show up τ 2 2 ((a : Int) + 1) 18 3 = (i : Int) by rw [up_o _ _ _ (by decide), hB _ (by omega)]; show ((B 3 : Nat) : Int) = (i : Int); rw [h4]) (by omega)) ?_
        rintro _ _ ⟨rfl, rfl⟩
        refine ev_iinc eX10_takeTheRow_37 rfl (by decide) ?_
        refine ev_goto 13 eX10_takeTheRow_40 rfl ?_
        have hl := isT_lt hti
        refine ih (i := i + 1) (a := a + 1) (B := upB (upB B (36 + i) (tp a - 97)) (3) (i + 1)) (by omega) (by omega) ?_ ?_ (upB_s _ _ _) (fun _ => ?_) (fun z => by omega)
        · exact RdS_set (x := i + 1) (RdS_set (x := tp a - 97) (RdS_at h2 hl) rfl (by rw [bnd_r (by omega)]; exact e2)) rfl (by show i + 1 ≤ 8; omega)
        · rw [← h3, show 8 - i = (8 - (i + 1)) + 1 by omega, sTl_t hti]
        · rcases (show i = 0 ∨ 0 < i by omega) with z | z
          · exact (h6 z).2 hti
          · exact h5 z
