/-! ===== BEGIN words of one list among another's, by their places ===== -/
theorem goodIn_r {big : List Cond} (ws : List Cond) (ps : List Nat) (hp : ws = ps.filterMap (fun i => big[i]?)) (h : ws.all goodWord = true) : GoodIn big ws := by
  intro w hw
  have h1 := List.all_eq_true.mp h w hw
  rw [hp] at hw
  obtain ⟨i, -, hi⟩ := List.mem_filterMap.mp hw
  have hm : w ∈ big := by first | exact List.mem_of_getElem? hi | exact List.getElem?_mem hi
  exact ⟨hm, good_of_word h1⟩
theorem goodIn_app {big a b : List Cond} (ha : GoodIn big a) (hb : GoodIn big b) : GoodIn big (a ++ b) := fun w h => (List.mem_append.mp h).elim (ha w) (hb w)
theorem goodIn_ca {big a b : List Cond} {c : Cond} (ha : GoodIn big (c :: a)) (hb : GoodIn big b) : GoodIn big (c :: (a ++ b)) := fun w h => (List.mem_cons.mp h).elim (fun e => ha w (List.mem_cons.mpr (Or.inl e))) (fun h => (List.mem_append.mp h).elim (fun h => ha w (List.mem_cons.mpr (Or.inr h))) (hb w))
theorem goodIn_sub {big ws : List Cond} (hm : ∀ w ∈ ws, w ∈ big) (h : ws.all goodWord = true) : GoodIn big ws := fun w hw => ⟨hm w hw, good_of_word (List.all_eq_true.mp h w hw)⟩
/-! ===== END ===== -/

/-! ===== BEGIN new T[n][m]: the outer array a place, the inner ones among the pooled ===== -/
/-- f, but v at every address of l -/
def vr_up {α : Type} (f : Nat → α) (l : List Nat) (v : α) : Nat → α := fun a => if a ∈ l then v else f a
theorem vr_up_in {α : Type} {f : Nat → α} {l : List Nat} {v : α} {a : Nat} (h : a ∈ l) : vr_up f l v a = v := if_pos h
theorem vr_up_ne {α : Type} {f : Nat → α} {l : List Nat} {v : α} {a : Nat} (h : a ∉ l) : vr_up f l v a = f a := if_neg h
theorem vr_rows {L l : List Nat} {f : Nat → va_E} {e : va_E} (h : ∀ a, a ∈ l → a ∉ L) : va_pl L f ++ l.map (fun a => (a, e)) = va_pl (L ++ l) (vr_up f l e) := by
  unfold va_pl
  rw [List.map_append]
  congr 1
  · apply List.map_congr_left
    intro a ha
    rw [vr_up_ne (fun q => h a q ha)]
  · apply List.map_congr_left
    intro a ha
    rw [vr_up_in ha]
theorem vr_lay {X rows : va_W} {x : Nat × va_E} {pl : va_W} {D : va_G} {cl : List vw_C} {H : Heap} (hP : va_P D cl (((X ++ pl) ++ [x]) ++ rows) H) : va_P D cl ((X ++ [x]) ++ (pl ++ rows)) H := by
  rw [List.append_assoc (X ++ pl)] at hP
  have h := va_P.swap hP
  rw [← List.append_assoc X] at h
  have h2 := va_P.swap h
  rw [List.append_assoc (X ++ [x])] at h2
  exact h2
theorem vr_layD {X rows : va_W} {x : Nat × va_E} {pl : va_W} {A : Nat → Prop} (hD : va_D A (((X ++ pl) ++ [x]) ++ rows)) : va_D A ((X ++ [x]) ++ (pl ++ rows)) := by
  rw [List.append_assoc (X ++ pl)] at hD
  have h := va_D.swap hD
  rw [← List.append_assoc X] at h
  have h2 := va_D.swap h
  rw [List.append_assoc (X ++ [x])] at h2
  exact h2
theorem vr_outer (c : ClassId) (N h0 : Nat) : ∀ i : Nat, Jvm.Free.Multi.outerC c N h0 i = arrV c N (fun j => va_rf (if j < i then some (h0 + 1 + j) else none))
  | 0 => by
    show ({ cls := c, slots := Array.replicate N .null, vm := .none } : Cell) = _
    rw [arrV_new]
    refine congrArg (arrV c N) (funext fun j => ?_)
    simp [va_rf]
  | i + 1 => by
    show (Jvm.Free.Multi.outerC c N h0 i).setSlot i (.ref (h0 + 1 + i)) = _
    rw [vr_outer c N h0 i, arrV_store]
    refine congrArg (arrV c N) (funext fun j => ?_)
    by_cases e : j = i
    · subst e
      simp [updV, va_rf]
    · by_cases h : j < i
      · simp [updV, e, h, Nat.lt_succ_of_lt h]
      · simp [updV, e, h, show ¬ j < i + 1 by omega]
def va_AOA (t : FieldType) (U : State) : Prop := (Cond.arrayOver (.array t)).before #[] U = true
theorem va_AOA.use {t : FieldType} {A : Array Value} {U : State} (h : va_AOA t U) : (Cond.arrayOver (.array t)).before A U = true := h
section VGM
variable {p : Program} {l : Launch} {e : Env} {R : Room} {s : State} {m : MethodId} {args : Array Value} {below : List Frame} {meth : Method} {c : Code} {H : Heap} {locs : List Loc} {cells slots : Nat} {Q : State → Prop}
variable {cc : ByteArray} {pc : Nat} {ls : Array Slot} {rest : List Value} {D : va_G} {cl : List vw_C} {A : Nat → Prop} {a : Nat} {tys : List (ClassId × FieldType)} {ws : va_W} {H0 : Heap}
theorem va_mna {X : va_W} {L : List Nat} {f : Nat → va_E} {cc : ByteArray} (hexec : p.tables.exec = Jvm.exec) (hb : c.code = cc) {own : String} {index : Nat} {ty : FieldType} {cy : ClassId} (hown : s.vm.findClass own = some m.cls) (hclink : (Cond.classLink own index ("[" ++ (FieldType.array ty).toString)).before args s = true) (hover : va_AOA ty s) (harr : (Cond.arrayClass ty).before args s = true) (hcy : s.vm.findClass (FieldType.array ty).toString = some cy)
    (hK : va_K D cl tys s) (hP : va_P D cl (X ++ va_pl L f) H) (hD : va_D A (X ++ va_pl L f)) (hS : va_S A H0 H locs) (hA : ∀ q, H0.size ≤ q → A q) {n k : Int32} {N' K' : Nat} {z : vp_A} (hn : ¬ n < 0) (hk : ¬ k < 0) (hN : n.toNatClampNeg = N') (hM : k.toNatClampNeg = K')
    (hb1 : N' * 4 ≤ 536870912) (hb2 : K' * componentBytes ty ≤ 536870912) (hb3 : K' ≤ 536870912) (hdf : fits ty (defaultValue ty) = true) (hdd : (defaultValue ty).isDefault = true) (hcells : cells + (1 + N') ≤ R.cells) (hslots : slots + (N' + N' * K') ≤ R.slots) (hz : ∀ c : ClassId, Jvm.Free.Multi.innerC c K' (defaultValue ty) = vp_cell c z) (hdg : decode cc pc = .ok (.multianewarray index 2, 4))
    (kk : ∀ (q : Nat) (r : Nat → Nat) (cA : ClassId) (H1 : Heap), (∀ i j : Nat, i < N' → j < N' → r i = r j → i = j) → (∀ i : Nat, i < N' → r i ∉ L) → va_K D cl (tys ++ [(cA, .array ty)]) s →
      va_P D cl ((X ++ [(q, .inl (cA, N', .inr (.inr (.inr (.inr (fun i => if i < N' then some (r i) else none))))))]) ++ va_pl (L ++ (List.range N').map r) (vr_up f ((List.range N').map r) (.inl (cy, z)))) H1 → va_D A ((X ++ [(q, .inl (cA, N', .inr (.inr (.inr (.inr (fun i => if i < N' then some (r i) else none))))))]) ++ va_pl (L ++ (List.range N').map r) (vr_up f ((List.range N').map r) (.inl (cy, z)))) → va_S A H0 H1 locs →
      W p l e R s m args below meth c H1 locs (cells + 1 + N') (slots + N' + N' * K') Q (F0 m (pc + 4) ls (.ref q :: rest))) : W p l e R s m args below meth c H locs cells slots Q (F0 m pc ls (.int k :: .int n :: rest)) := by
  subst hN
  subst hM
  intro T hT Xs
  obtain ⟨vm₁, cA, comp, -, fA, fC, hO, -, X', step⟩ := Xs.multianewarray2F hexec hown hclink (va_AOA.use hover) harr (g := F0 m pc ls (.int k :: .int n :: rest)) rfl (by rw [hb]; exact hdg) rfl hn hk hb1 hb2 hb3 hdf hdd hcells hslots
  have ec : some cy = some comp := hcy.symm.trans fC
  cases ec
  generalize hF : Jvm.Free.Multi.fill (T.setVm vm₁) cA cy n.toNatClampNeg k.toNatClampNeg (defaultValue ty) n.toNatClampNeg = F at X' step
  have hTh : (T.setVm vm₁).heap = H := hT
  obtain ⟨f1, f2, -, -⟩ := Jvm.Free.Multi.fill_facts (T.setVm vm₁) cA cy n.toNatClampNeg k.toNatClampNeg (defaultValue ty) n.toNatClampNeg
  rw [hF, hTh] at f1 f2
  have hold : ∀ x : Nat, x < H.size → F.heap[x]? = H[x]? := fun x hx => by
    have := Jvm.Free.Multi.fill_old (T.setVm vm₁) cA cy n.toNatClampNeg k.toNatClampNeg (defaultValue ty) (a := x) (by rw [hTh]; exact hx) n.toNatClampNeg
    rw [hF, hTh] at this
    exact this
  have hrow : ∀ j : Nat, j < n.toNatClampNeg → F.heap[H.size + 1 + j]? = some (vp_cell cy z) := fun j hj => by
    have := Jvm.Free.Multi.fill_inner (T.setVm vm₁) cA cy n.toNatClampNeg k.toNatClampNeg (defaultValue ty) n.toNatClampNeg j hj
    rw [hF, hTh, hz] at this
    exact this
  have hout : Jvm.Free.Multi.outerC cA n.toNatClampNeg H.size n.toNatClampNeg = vp_cell cA (n.toNatClampNeg, .inr (.inr (.inr (.inr (fun i => if i < n.toNatClampNeg then some (H.size + 1 + i) else none))))) := by
    rw [vp_cell_q]
    exact vr_outer cA n.toNatClampNeg H.size n.toNatClampNeg
  rw [hout] at f2
  have hlt : ∀ a, a ∈ L → a < H.size := fun a ha => by
    obtain ⟨k9, hk9⟩ := va_pl_get (X := X) (f := f) ha
    exact (hP k9 _ hk9).lt
  have hnl : ∀ i : Nat, i < n.toNatClampNeg → H.size + 1 + i ∉ L := fun i _ h => by
    have := hlt _ h
    omega
  have hnm : ∀ a, a ∈ (List.range n.toNatClampNeg).map (fun i => H.size + 1 + i) → a ∉ L := fun a ha h => by
    obtain ⟨i, -, rfl⟩ := List.mem_map.mp ha
    have := hlt _ h
    omega
  have hP0 : va_P D cl (X ++ va_pl L f) F.heap := hP.kept (fun k9 x hx => hold x.1 ((hP k9 x hx).lt))
  have hP1 : va_P D cl ((X ++ va_pl L f) ++ [(H.size, .inl (cA, n.toNatClampNeg, .inr (.inr (.inr (.inr (fun i => if i < n.toNatClampNeg then some (H.size + 1 + i) else none))))))]) F.heap := hP0.app (fun k9 x hx => by
    have h0 : k9 < 1 := (List.getElem?_eq_some_iff.mp hx).1
    rw [show k9 = 0 by omega] at hx
    cases hx
    exact f2)
  have hP2 : va_P D cl (((X ++ va_pl L f) ++ [(H.size, .inl (cA, n.toNatClampNeg, .inr (.inr (.inr (.inr (fun i => if i < n.toNatClampNeg then some (H.size + 1 + i) else none))))))]) ++ ((List.range n.toNatClampNeg).map (fun i => H.size + 1 + i)).map (fun a => (a, .inl (cy, z)))) F.heap := hP1.app (fun k9 x hx => by
    obtain ⟨a, ha, rfl⟩ := List.mem_map.mp (List.mem_of_getElem? hx)
    obtain ⟨i, hi, rfl⟩ := List.mem_map.mp ha
    exact hrow i (List.mem_range.mp hi))
  have hD2 : va_D A (((X ++ va_pl L f) ++ [(H.size, .inl (cA, n.toNatClampNeg, .inr (.inr (.inr (.inr (fun i => if i < n.toNatClampNeg then some (H.size + 1 + i) else none))))))]) ++ ((List.range n.toNatClampNeg).map (fun i => H.size + 1 + i)).map (fun a => (a, .inl (cy, z)))) := by
    have hD1 := hD.push (e := .inl (cA, n.toNatClampNeg, .inr (.inr (.inr (.inr (fun i => if i < n.toNatClampNeg then some (H.size + 1 + i) else none)))))) hP rfl (hA _ hS.1)
    generalize hW1 : (X ++ va_pl L f) ++ [(H.size, .inl (cA, n.toNatClampNeg, .inr (.inr (.inr (.inr (fun i => if i < n.toNatClampNeg then some (H.size + 1 + i) else none))))))] = W1 at hD1 hP1 ⊢
    have hle : ∀ (k9 : Nat) (x : Nat × va_E), W1[k9]? = some x → x.1 ≤ H.size := fun k9 x hx => by
      rw [← hW1] at hx
      by_cases hl : k9 < (X ++ va_pl L f).length
      · rw [List.getElem?_append_left hl] at hx
        exact Nat.le_of_lt ((hP k9 x hx).lt)
      · rw [List.getElem?_append_right (by omega)] at hx
        have h0 : k9 - (X ++ va_pl L f).length < 1 := (List.getElem?_eq_some_iff.mp hx).1
        rw [show k9 - (X ++ va_pl L f).length = 0 by omega] at hx
        cases hx
        exact Nat.le_refl _
    have hr : ∀ (k9 : Nat) (x : Nat × va_E), (((List.range n.toNatClampNeg).map (fun i => H.size + 1 + i)).map (fun a => ((a, .inl (cy, z)) : Nat × va_E)))[k9]? = some x → x.1 = H.size + 1 + k9 := fun k9 x hx => by
      rw [List.getElem?_map, List.getElem?_map] at hx
      by_cases h9 : k9 < n.toNatClampNeg
      · rw [List.getElem?_range h9] at hx
        cases hx
        rfl
      · have hn0 : (List.range n.toNatClampNeg)[k9]? = none := List.getElem?_eq_none (by rw [List.length_range]; omega)
        rw [hn0] at hx
        cases hx
    refine ⟨fun i j x y hi hj hxy => ?_, fun k9 x hx => ?_⟩
    · by_cases h1 : i < W1.length <;> by_cases h2 : j < W1.length
      · rw [List.getElem?_append_left h1] at hi
        rw [List.getElem?_append_left h2] at hj
        exact hD1.1 i j x y hi hj hxy
      · rw [List.getElem?_append_left h1] at hi
        rw [List.getElem?_append_right (by omega)] at hj
        have := hle _ _ hi
        have := hr _ _ hj
        omega
      · rw [List.getElem?_append_right (by omega)] at hi
        rw [List.getElem?_append_left h2] at hj
        have := hle _ _ hj
        have := hr _ _ hi
        omega
      · rw [List.getElem?_append_right (by omega)] at hi hj
        have := hr _ _ hi
        have := hr _ _ hj
        omega
    · by_cases h1 : k9 < W1.length
      · rw [List.getElem?_append_left h1] at hx
        exact hD1.2 k9 x hx
      · rw [List.getElem?_append_right (by omega)] at hx
        have := hr _ _ hx
        exact hA _ (by have := hS.1; omega)
  have hAr : ArrOfT s cA (.array ty) := fun N9 z9 => by
    obtain ⟨-, k9, hk9, cm9, hkk9⟩ := (hO 0 0 0).1
    exact ⟨(fun q hq => by cases hq), k9, hk9, cm9, hkk9⟩
  have hK2 : va_K D cl (tys ++ [(cA, .array ty)]) s := ⟨hK.1, fun k9 x hx => by
    by_cases hl : k9 < tys.length
    · rw [List.getElem?_append_left hl] at hx
      exact hK.2 k9 x hx
    · rw [List.getElem?_append_right (by omega)] at hx
      have h0 : k9 - tys.length < 1 := (List.getElem?_eq_some_iff.mp hx).1
      rw [show k9 - tys.length = 0 by omega] at hx
      cases hx
      exact ⟨hAr, fA⟩⟩
  obtain ⟨t, a1, b1⟩ := kk H.size (fun i => H.size + 1 + i) cA F.heap (fun i j _ _ h => by have h9 : H.size + 1 + i = H.size + 1 + j := h; omega) hnl hK2 (by rw [← vr_rows hnm]; exact vr_lay hP2) (by rw [← vr_rows hnm]; exact vr_layD hD2) ⟨by rw [f1]; have := hS.1; omega, fun x h1 h2 => (hold x (Nat.lt_of_lt_of_le h1 hS.1)).trans (hS.2.1 x h1 h2), hS.2.2⟩ F rfl X'
  refine ⟨t, step t ?_, b1⟩
  have e : T.heap.size = H.size := by rw [hT]
  rw [e]
  exact a1
end VGM
/-! ===== END ===== -/

/-- an instruction, its length, the next place -/
def Nx (c : ByteArray) (pc : Nat) (i : Instr) (n pc2 : Nat) : Prop := decode c pc = .ok (i, n) ∧ pc + n = pc2
def RX0 : String := "InflatedRows$Book"
def TX0 : u_T := fun k => match k with
  | _ => ("InflatedRows$Book", "cells", "[I", true)
def tyX0 : Nat → FieldType := fun k => match k with
  | _ => .array .int
abbrev wsX00 : List Cond := u_ws RX0 TX0 1
theorem nmX0 : ∀ a, a < 1 → ∀ b, b < 1 → a ≠ b → (TX0 a).2.1 ≠ (TX0 b).2.1 := by decide +kernel
theorem tyX0_ok : ∀ k, k < 1 → parseFieldDescriptor (TX0 k).2.2.1 = some (tyX0 k) := by decide +kernel
abbrev cX0_init : ByteArray := prog_2_method_1_code
def yX0_init : MethodName := ⟨RX0, "<init>", "()V"⟩
abbrev cX0_clear : ByteArray := prog_2_method_2_code
def yX0_clear : MethodName := ⟨RX0, "clear", "()V"⟩
abbrev cX0_takeAll : ByteArray := prog_2_method_3_code
def yX0_takeAll : MethodName := ⟨RX0, "takeAll", "(LInflatedRows$Book;)V"⟩
abbrev cX0_takeAll_ : ByteArray := prog_2_method_4_code
def yX0_takeAll_ : MethodName := ⟨RX0, "takeAll", "([II)V"⟩
abbrev cX0_putAll : ByteArray := prog_2_method_5_code
def yX0_putAll : MethodName := ⟨RX0, "putAll", "([II)V"⟩
abbrev cX0_stands : ByteArray := prog_2_method_6_code
def yX0_stands : MethodName := ⟨RX0, "stands", "()Z"⟩
abbrev cX0_leastLaw : ByteArray := prog_2_method_7_code
def yX0_leastLaw : MethodName := ⟨RX0, "leastLaw", "(I)I"⟩
abbrev cX0_mostLaw : ByteArray := prog_2_method_8_code
def yX0_mostLaw : MethodName := ⟨RX0, "mostLaw", "(I)I"⟩
abbrev cX0_law : ByteArray := prog_2_method_9_code
def yX0_law : MethodName := ⟨RX0, "law", "(I)I"⟩
abbrev cX0_setLaw : ByteArray := prog_2_method_10_code
def yX0_setLaw : MethodName := ⟨RX0, "setLaw", "(II)V"⟩
abbrev cX0_sortCount : ByteArray := prog_2_method_11_code
def yX0_sortCount : MethodName := ⟨RX0, "sortCount", "()I"⟩
abbrev cX0_hasSort : ByteArray := prog_2_method_12_code
def yX0_hasSort : MethodName := ⟨RX0, "hasSort", "(I)Z"⟩
abbrev cX0_addSort : ByteArray := prog_2_method_13_code
def yX0_addSort : MethodName := ⟨RX0, "addSort", "(I)I"⟩
abbrev cX0_kindOf : ByteArray := prog_2_method_14_code
def yX0_kindOf : MethodName := ⟨RX0, "kindOf", "(I)I"⟩
abbrev cX0_setKind : ByteArray := prog_2_method_15_code
def yX0_setKind : MethodName := ⟨RX0, "setKind", "(II)V"⟩
abbrev cX0_part : ByteArray := prog_2_method_16_code
def yX0_part : MethodName := ⟨RX0, "part", "(II)I"⟩
abbrev cX0_setPart : ByteArray := prog_2_method_17_code
def yX0_setPart : MethodName := ⟨RX0, "setPart", "(III)V"⟩
abbrev cX0_lengthOf : ByteArray := prog_2_method_18_code
def yX0_lengthOf : MethodName := ⟨RX0, "lengthOf", "(II)I"⟩
abbrev cX0_wordSize : ByteArray := prog_2_method_19_code
def yX0_wordSize : MethodName := ⟨RX0, "wordSize", "(I)I"⟩
abbrev cX0_wordLetter : ByteArray := prog_2_method_20_code
def yX0_wordLetter : MethodName := ⟨RX0, "wordLetter", "(II)I"⟩
abbrev cX0_setWordLetter : ByteArray := prog_2_method_21_code
def yX0_setWordLetter : MethodName := ⟨RX0, "setWordLetter", "(III)V"⟩
abbrev cX0_clearWord : ByteArray := prog_2_method_22_code
def yX0_clearWord : MethodName := ⟨RX0, "clearWord", "(I)V"⟩
abbrev cX0_addToWord : ByteArray := prog_2_method_23_code
def yX0_addToWord : MethodName := ⟨RX0, "addToWord", "(II)V"⟩
abbrev cX0_imageSize : ByteArray := prog_2_method_24_code
def yX0_imageSize : MethodName := ⟨RX0, "imageSize", "(I)I"⟩
abbrev cX0_imageLetter : ByteArray := prog_2_method_25_code
def yX0_imageLetter : MethodName := ⟨RX0, "imageLetter", "(II)I"⟩
abbrev cX0_timesInImage : ByteArray := prog_2_method_26_code
def yX0_timesInImage : MethodName := ⟨RX0, "timesInImage", "(II)I"⟩
abbrev cX0_imageLength : ByteArray := prog_2_method_27_code
def yX0_imageLength : MethodName := ⟨RX0, "imageLength", "(II)I"⟩
abbrev cX0_scalesBy : ByteArray := prog_2_method_28_code
def yX0_scalesBy : MethodName := ⟨RX0, "scalesBy", "(II)Z"⟩
abbrev cX0_lettersOfWords : ByteArray := prog_2_method_29_code
def yX0_lettersOfWords : MethodName := ⟨RX0, "lettersOfWords", "()I"⟩
abbrev cX0_rowSize : ByteArray := prog_2_method_30_code
def yX0_rowSize : MethodName := ⟨RX0, "rowSize", "()I"⟩
abbrev cX0_rowLetter : ByteArray := prog_2_method_31_code
def yX0_rowLetter : MethodName := ⟨RX0, "rowLetter", "(I)I"⟩
abbrev cX0_setRowLetter : ByteArray := prog_2_method_32_code
def yX0_setRowLetter : MethodName := ⟨RX0, "setRowLetter", "(II)V"⟩
abbrev cX0_clearRow : ByteArray := prog_2_method_33_code
def yX0_clearRow : MethodName := ⟨RX0, "clearRow", "()V"⟩
abbrev cX0_addToRow : ByteArray := prog_2_method_34_code
def yX0_addToRow : MethodName := ⟨RX0, "addToRow", "(I)V"⟩
abbrev cX0_hasAllSortsItNames : ByteArray := prog_2_method_35_code
def yX0_hasAllSortsItNames : MethodName := ⟨RX0, "hasAllSortsItNames", "()Z"⟩
def RX1 : String := "InflatedRows$Checked"
def TX1 : u_T := fun k => match k with
  | _ => ("", "", "", false)
def tyX1 : Nat → FieldType := fun k => match k with
  | _ => .int
abbrev wsX10 : List Cond := u_ws RX1 TX1 0
theorem nmX1 : ∀ a, a < 0 → ∀ b, b < 0 → a ≠ b → (TX1 a).2.1 ≠ (TX1 b).2.1 := by decide +kernel
theorem tyX1_ok : ∀ k, k < 0 → parseFieldDescriptor (TX1 k).2.2.1 = some (tyX1 k) := by decide +kernel
abbrev cX1_plus : ByteArray := prog_3_method_2_code
def yX1_plus : MethodName := ⟨RX1, "plus", "(JJ)J"⟩
abbrev cX1_times : ByteArray := prog_3_method_3_code
def yX1_times : MethodName := ⟨RX1, "times", "(JI)J"⟩
abbrev cX1_partOfFraction : ByteArray := prog_3_method_4_code
def yX1_partOfFraction : MethodName := ⟨RX1, "partOfFraction", "(JJI)J"⟩
abbrev cX1_commonDivisor : ByteArray := prog_3_method_5_code
def yX1_commonDivisor : MethodName := ⟨RX1, "commonDivisor", "(JJ)J"⟩
def RX2 : String := "InflatedRows$Folding"
def TX2 : u_T := fun k => match k with
  | 0 => ("InflatedRows$Folding", "letters", "[I", true)
  | 1 => ("InflatedRows$Folding", "waysFrom", "[I", true)
  | _ => ("InflatedRows$Folding", "size", "I", false)
def tyX2 : Nat → FieldType := fun k => match k with
  | 0 => .array .int
  | 1 => .array .int
  | _ => .int
abbrev wsX20 : List Cond := u_ws RX2 TX2 3
theorem nmX2 : ∀ a, a < 3 → ∀ b, b < 3 → a ≠ b → (TX2 a).2.1 ≠ (TX2 b).2.1 := by decide +kernel
theorem tyX2_ok : ∀ k, k < 3 → parseFieldDescriptor (TX2 k).2.2.1 = some (tyX2 k) := by decide +kernel
abbrev cX2_init : ByteArray := prog_4_method_1_code
def yX2_init : MethodName := ⟨RX2, "<init>", "()V"⟩
abbrev cX2_clear : ByteArray := prog_4_method_2_code
def yX2_clear : MethodName := ⟨RX2, "clear", "()V"⟩
abbrev cX2_add : ByteArray := prog_4_method_3_code
def yX2_add : MethodName := ⟨RX2, "add", "(I)V"⟩
abbrev cX2_unfold : ByteArray := prog_4_method_4_code
def yX2_unfold : MethodName := ⟨RX2, "unfold", "(LInflatedRows$Book;)V"⟩
abbrev cX2_ways : ByteArray := prog_4_method_5_code
def yX2_ways : MethodName := ⟨RX2, "ways", "()I"⟩
abbrev cX2_letterOfFirst : ByteArray := prog_4_method_6_code
def yX2_letterOfFirst : MethodName := ⟨RX2, "letterOfFirst", "(LInflatedRows$Book;I)I"⟩
abbrev cX2_leastAt : ByteArray := prog_4_method_7_code
def yX2_leastAt : MethodName := ⟨RX2, "leastAt", "(LInflatedRows$Book;I)I"⟩
abbrev cX2_liesAt : ByteArray := prog_4_method_8_code
def yX2_liesAt : MethodName := ⟨RX2, "liesAt", "(LInflatedRows$Book;II)Z"⟩
def RX3 : String := "InflatedRows$Growth"
def TX3 : u_T := fun k => match k with
  | 0 => ("InflatedRows$Growth", "letters", "[[I", true)
  | 1 => ("InflatedRows$Growth", "parents", "[[I", true)
  | _ => ("InflatedRows$Growth", "sizes", "[I", true)
def tyX3 : Nat → FieldType := fun k => match k with
  | 0 => .array (.array .int)
  | 1 => .array (.array .int)
  | _ => .array .int
abbrev wsX30 : List Cond := u_ws RX3 TX3 3
theorem nmX3 : ∀ a, a < 3 → ∀ b, b < 3 → a ≠ b → (TX3 a).2.1 ≠ (TX3 b).2.1 := by decide +kernel
theorem tyX3_ok : ∀ k, k < 3 → parseFieldDescriptor (TX3 k).2.2.1 = some (tyX3 k) := by decide +kernel
abbrev cX3_init : ByteArray := prog_5_method_1_code
def yX3_init : MethodName := ⟨RX3, "<init>", "()V"⟩
abbrev cX3_isStep : ByteArray := prog_5_method_2_code
def yX3_isStep : MethodName := ⟨RX3, "isStep", "(I)Z"⟩
abbrev cX3_grow : ByteArray := prog_5_method_3_code
def yX3_grow : MethodName := ⟨RX3, "grow", "(LInflatedRows$Book;I)Z"⟩
abbrev cX3_growOnce : ByteArray := prog_5_method_4_code
def yX3_growOnce : MethodName := ⟨RX3, "growOnce", "(LInflatedRows$Book;I)Z"⟩
abbrev cX3_sizeAt : ByteArray := prog_5_method_5_code
def yX3_sizeAt : MethodName := ⟨RX3, "sizeAt", "(I)I"⟩
abbrev cX3_letterAt : ByteArray := prog_5_method_6_code
def yX3_letterAt : MethodName := ⟨RX3, "letterAt", "(II)I"⟩
abbrev cX3_ancestor : ByteArray := prog_5_method_7_code
def yX3_ancestor : MethodName := ⟨RX3, "ancestor", "(III)I"⟩
abbrev cX3_lengthAhead : ByteArray := prog_5_method_8_code
def yX3_lengthAhead : MethodName := ⟨RX3, "lengthAhead", "(LInflatedRows$Book;III)I"⟩
def RX4 : String := "InflatedRows$Kinds"
def TX4 : u_T := fun k => match k with
  | 0 => ("InflatedRows$Kinds", "traced", "[I", true)
  | _ => ("InflatedRows$Kinds", "bodies", "I", false)
def tyX4 : Nat → FieldType := fun k => match k with
  | 0 => .array .int
  | _ => .int
abbrev wsX40 : List Cond := u_ws RX4 TX4 2
theorem nmX4 : ∀ a, a < 2 → ∀ b, b < 2 → a ≠ b → (TX4 a).2.1 ≠ (TX4 b).2.1 := by decide +kernel
theorem tyX4_ok : ∀ k, k < 2 → parseFieldDescriptor (TX4 k).2.2.1 = some (tyX4 k) := by decide +kernel
abbrev cX4_init : ByteArray := prog_6_method_1_code
def yX4_init : MethodName := ⟨RX4, "<init>", "()V"⟩
abbrev cX4_isA : ByteArray := prog_6_method_2_code
def yX4_isA : MethodName := ⟨RX4, "isA", "(II)Z"⟩
abbrev cX4_toldBy : ByteArray := prog_6_method_3_code
def yX4_toldBy : MethodName := ⟨RX4, "toldBy", "(I)I"⟩
abbrev cX4_bodyCount : ByteArray := prog_6_method_4_code
def yX4_bodyCount : MethodName := ⟨RX4, "bodyCount", "()I"⟩
abbrev cX4_body : ByteArray := prog_6_method_5_code
def yX4_body : MethodName := ⟨RX4, "body", "(I)I"⟩
abbrev cX4_answer : ByteArray := prog_6_method_6_code
def yX4_answer : MethodName := ⟨RX4, "answer", "(LInflatedRows$Book;II)I"⟩
abbrev cX4_sizeBody : ByteArray := prog_6_method_7_code
def yX4_sizeBody : MethodName := ⟨RX4, "sizeBody", "(LInflatedRows$Book;I)I"⟩
abbrev cX4_markBody : ByteArray := prog_6_method_8_code
def yX4_markBody : MethodName := ⟨RX4, "markBody", "(LInflatedRows$Book;I)I"⟩
abbrev cX4_leave : ByteArray := prog_6_method_9_code
def yX4_leave : MethodName := ⟨RX4, "leave", "(I)V"⟩
abbrev cX4_give : ByteArray := prog_6_method_10_code
def yX4_give : MethodName := ⟨RX4, "give", "(LInflatedRows$Book;III)I"⟩
def RX5 : String := "InflatedRows$Losses"
def TX5 : u_T := fun k => match k with
  | 0 => ("InflatedRows$Losses", "casesOf", "[J", true)
  | _ => ("InflatedRows$Losses", "cases", "J", false)
def tyX5 : Nat → FieldType := fun k => match k with
  | 0 => .array .long
  | _ => .long
abbrev wsX50 : List Cond := u_ws RX5 TX5 2
theorem nmX5 : ∀ a, a < 2 → ∀ b, b < 2 → a ≠ b → (TX5 a).2.1 ≠ (TX5 b).2.1 := by decide +kernel
theorem tyX5_ok : ∀ k, k < 2 → parseFieldDescriptor (TX5 k).2.2.1 = some (tyX5 k) := by decide +kernel
abbrev cX5_init : ByteArray := prog_7_method_1_code
def yX5_init : MethodName := ⟨RX5, "<init>", "()V"⟩
abbrev cX5_spread : ByteArray := prog_7_method_2_code
def yX5_spread : MethodName := ⟨RX5, "spread", "(LInflatedRows$Book;II)V"⟩
abbrev cX5_addLetter : ByteArray := prog_7_method_3_code
def yX5_addLetter : MethodName := ⟨RX5, "addLetter", "(II)V"⟩
abbrev cX5_casesUpTo : ByteArray := prog_7_method_4_code
def yX5_casesUpTo : MethodName := ⟨RX5, "casesUpTo", "(I)J"⟩
abbrev cX5_cases : ByteArray := prog_7_method_5_code
def yX5_cases : MethodName := ⟨RX5, "cases", "()J"⟩
def RX6 : String := "InflatedRows$Memory"
def TX6 : u_T := fun k => match k with
  | 0 => ("InflatedRows$Memory", "acts", "[I", true)
  | 1 => ("InflatedRows$Memory", "images", "[I", true)
  | 2 => ("InflatedRows$Memory", "oldest", "I", false)
  | 3 => ("InflatedRows$Memory", "actCount", "I", false)
  | _ => ("InflatedRows$Memory", "imagesKept", "I", false)
def tyX6 : Nat → FieldType := fun k => match k with
  | 0 => .array .int
  | 1 => .array .int
  | 2 => .int
  | 3 => .int
  | _ => .int
abbrev wsX60 : List Cond := u_ws RX6 TX6 5
theorem nmX6 : ∀ a, a < 5 → ∀ b, b < 5 → a ≠ b → (TX6 a).2.1 ≠ (TX6 b).2.1 := by decide +kernel
theorem tyX6_ok : ∀ k, k < 5 → parseFieldDescriptor (TX6 k).2.2.1 = some (tyX6 k) := by decide +kernel
abbrev cX6_init : ByteArray := prog_8_method_1_code
def yX6_init : MethodName := ⟨RX6, "<init>", "()V"⟩
abbrev cX6_actCount : ByteArray := prog_8_method_2_code
def yX6_actCount : MethodName := ⟨RX6, "actCount", "()I"⟩
abbrev cX6_forgetActs : ByteArray := prog_8_method_3_code
def yX6_forgetActs : MethodName := ⟨RX6, "forgetActs", "()V"⟩
abbrev cX6_keepAct : ByteArray := prog_8_method_4_code
def yX6_keepAct : MethodName := ⟨RX6, "keepAct", "(LInflatedRows$Book;)V"⟩
abbrev cX6_takeBack : ByteArray := prog_8_method_5_code
def yX6_takeBack : MethodName := ⟨RX6, "takeBack", "(LInflatedRows$Book;)V"⟩
abbrev cX6_isImage : ByteArray := prog_8_method_6_code
def yX6_isImage : MethodName := ⟨RX6, "isImage", "(I)Z"⟩
abbrev cX6_hasImage : ByteArray := prog_8_method_7_code
def yX6_hasImage : MethodName := ⟨RX6, "hasImage", "(I)Z"⟩
abbrev cX6_keepImage : ByteArray := prog_8_method_8_code
def yX6_keepImage : MethodName := ⟨RX6, "keepImage", "(ILInflatedRows$Book;)V"⟩
abbrev cX6_bringImage : ByteArray := prog_8_method_9_code
def yX6_bringImage : MethodName := ⟨RX6, "bringImage", "(ILInflatedRows$Book;)V"⟩
def RX7 : String := "InflatedRows$Pairs"
def TX7 : u_T := fun k => match k with
  | _ => ("", "", "", false)
def tyX7 : Nat → FieldType := fun k => match k with
  | _ => .int
abbrev wsX70 : List Cond := u_ws RX7 TX7 0
theorem nmX7 : ∀ a, a < 0 → ∀ b, b < 0 → a ≠ b → (TX7 a).2.1 ≠ (TX7 b).2.1 := by decide +kernel
theorem tyX7_ok : ∀ k, k < 0 → parseFieldDescriptor (TX7 k).2.2.1 = some (tyX7 k) := by decide +kernel
abbrev cX7_in : ByteArray := prog_9_method_2_code
def yX7_in : MethodName := ⟨RX7, "in", "(LInflatedRows$Book;)I"⟩
abbrev cX7_bit : ByteArray := prog_9_method_3_code
def yX7_bit : MethodName := ⟨RX7, "bit", "(II)I"⟩
abbrev cX7_lettersEver : ByteArray := prog_9_method_4_code
def yX7_lettersEver : MethodName := ⟨RX7, "lettersEver", "(LInflatedRows$Book;)I"⟩
abbrev cX7_lettersOfImage : ByteArray := prog_9_method_5_code
def yX7_lettersOfImage : MethodName := ⟨RX7, "lettersOfImage", "(LInflatedRows$Book;I)I"⟩
abbrev cX7_withinImages : ByteArray := prog_9_method_6_code
def yX7_withinImages : MethodName := ⟨RX7, "withinImages", "(LInflatedRows$Book;I)I"⟩
abbrev cX7_withinImage : ByteArray := prog_9_method_7_code
def yX7_withinImage : MethodName := ⟨RX7, "withinImage", "(LInflatedRows$Book;I)I"⟩
abbrev cX7_whereImagesMeet : ByteArray := prog_9_method_8_code
def yX7_whereImagesMeet : MethodName := ⟨RX7, "whereImagesMeet", "(LInflatedRows$Book;I)I"⟩
def RX8 : String := "InflatedRows$Rows"
def TX8 : u_T := fun k => match k with
  | 0 => ("InflatedRows$Rows", "items", "[I", true)
  | 1 => ("InflatedRows$Rows", "sizes", "[I", true)
  | _ => ("InflatedRows$Rows", "lanes", "[I", true)
def tyX8 : Nat → FieldType := fun k => match k with
  | 0 => .array .int
  | 1 => .array .int
  | _ => .array .int
abbrev wsX80 : List Cond := u_ws RX8 TX8 3
theorem nmX8 : ∀ a, a < 3 → ∀ b, b < 3 → a ≠ b → (TX8 a).2.1 ≠ (TX8 b).2.1 := by decide +kernel
theorem tyX8_ok : ∀ k, k < 3 → parseFieldDescriptor (TX8 k).2.2.1 = some (tyX8 k) := by decide +kernel
abbrev cX8_init : ByteArray := prog_10_method_1_code
def yX8_init : MethodName := ⟨RX8, "<init>", "()V"⟩
abbrev cX8_isRow : ByteArray := prog_10_method_2_code
def yX8_isRow : MethodName := ⟨RX8, "isRow", "(I)Z"⟩
abbrev cX8_isMissing : ByteArray := prog_10_method_3_code
def yX8_isMissing : MethodName := ⟨RX8, "isMissing", "(I)Z"⟩
abbrev cX8_sizeOf : ByteArray := prog_10_method_4_code
def yX8_sizeOf : MethodName := ⟨RX8, "sizeOf", "(I)I"⟩
abbrev cX8_laneOf : ByteArray := prog_10_method_5_code
def yX8_laneOf : MethodName := ⟨RX8, "laneOf", "(I)I"⟩
abbrev cX8_item : ByteArray := prog_10_method_6_code
def yX8_item : MethodName := ⟨RX8, "item", "(II)I"⟩
abbrev cX8_make : ByteArray := prog_10_method_7_code
def yX8_make : MethodName := ⟨RX8, "make", "(III)V"⟩
abbrev cX8_forget : ByteArray := prog_10_method_8_code
def yX8_forget : MethodName := ⟨RX8, "forget", "(I)V"⟩
abbrev cX8_put : ByteArray := prog_10_method_9_code
def yX8_put : MethodName := ⟨RX8, "put", "(III)I"⟩
abbrev cX8_spans : ByteArray := prog_10_method_10_code
def yX8_spans : MethodName := ⟨RX8, "spans", "(III)Z"⟩
abbrev cX8_move : ByteArray := prog_10_method_11_code
def yX8_move : MethodName := ⟨RX8, "move", "(IIIII)V"⟩
abbrev cX8_howMany : ByteArray := prog_10_method_12_code
def yX8_howMany : MethodName := ⟨RX8, "howMany", "()I"⟩
def RX9 : String := "InflatedRows$Tally"
def TX9 : u_T := fun k => match k with
  | 0 => ("InflatedRows$Tally", "now", "[J", true)
  | 1 => ("InflatedRows$Tally", "next", "[J", true)
  | 2 => ("InflatedRows$Tally", "timesInImage", "[I", true)
  | _ => ("InflatedRows$Tally", "sorts", "I", false)
def tyX9 : Nat → FieldType := fun k => match k with
  | 0 => .array .long
  | 1 => .array .long
  | 2 => .array .int
  | _ => .int
abbrev wsX90 : List Cond := u_ws RX9 TX9 4
theorem nmX9 : ∀ a, a < 4 → ∀ b, b < 4 → a ≠ b → (TX9 a).2.1 ≠ (TX9 b).2.1 := by decide +kernel
theorem tyX9_ok : ∀ k, k < 4 → parseFieldDescriptor (TX9 k).2.2.1 = some (tyX9 k) := by decide +kernel
abbrev cX9_init : ByteArray := prog_11_method_1_code
def yX9_init : MethodName := ⟨RX9, "<init>", "()V"⟩
abbrev cX9_run : ByteArray := prog_11_method_2_code
def yX9_run : MethodName := ⟨RX9, "run", "(LInflatedRows$Book;I)Z"⟩
abbrev cX9_takeImages : ByteArray := prog_11_method_3_code
def yX9_takeImages : MethodName := ⟨RX9, "takeImages", "(LInflatedRows$Book;)V"⟩
abbrev cX9_runOnce : ByteArray := prog_11_method_4_code
def yX9_runOnce : MethodName := ⟨RX9, "runOnce", "()Z"⟩
abbrev cX9_of : ByteArray := prog_11_method_5_code
def yX9_of : MethodName := ⟨RX9, "of", "(I)J"⟩
abbrev cX9_sum : ByteArray := prog_11_method_6_code
def yX9_sum : MethodName := ⟨RX9, "sum", "()J"⟩
abbrev cX9_wholeLength : ByteArray := prog_11_method_7_code
def yX9_wholeLength : MethodName := ⟨RX9, "wholeLength", "(LInflatedRows$Book;I)J"⟩
def RX10 : String := "InflatedRows$Tape"
def TX10 : u_T := fun k => match k with
  | 0 => ("InflatedRows$Tape", "bytes", "[I", true)
  | 1 => ("InflatedRows$Tape", "size", "I", false)
  | 2 => ("InflatedRows$Tape", "at", "I", false)
  | 3 => ("InflatedRows$Tape", "number", "I", false)
  | _ => ("InflatedRows$Tape", "value", "I", false)
def tyX10 : Nat → FieldType := fun k => match k with
  | 0 => .array .int
  | 1 => .int
  | 2 => .int
  | 3 => .int
  | _ => .int
abbrev wsX100 : List Cond := u_ws RX10 TX10 5
theorem nmX10 : ∀ a, a < 5 → ∀ b, b < 5 → a ≠ b → (TX10 a).2.1 ≠ (TX10 b).2.1 := by decide +kernel
theorem tyX10_ok : ∀ k, k < 5 → parseFieldDescriptor (TX10 k).2.2.1 = some (tyX10 k) := by decide +kernel
abbrev cX10_init : ByteArray := prog_12_method_1_code
def yX10_init : MethodName := ⟨RX10, "<init>", "()V"⟩
abbrev cX10_size : ByteArray := prog_12_method_2_code
def yX10_size : MethodName := ⟨RX10, "size", "()I"⟩
abbrev cX10_add : ByteArray := prog_12_method_3_code
def yX10_add : MethodName := ⟨RX10, "add", "(I)V"⟩
abbrev cX10_clear : ByteArray := prog_12_method_4_code
def yX10_clear : MethodName := ⟨RX10, "clear", "()V"⟩
abbrev cX10_at : ByteArray := prog_12_method_5_code
def yX10_at : MethodName := ⟨RX10, "at", "()I"⟩
abbrev cX10_readInto : ByteArray := prog_12_method_6_code
def yX10_readInto : MethodName := ⟨RX10, "readInto", "(LInflatedRows$Book;)I"⟩
abbrev cX10_takeLaw : ByteArray := prog_12_method_7_code
def yX10_takeLaw : MethodName := ⟨RX10, "takeLaw", "(LInflatedRows$Book;)Z"⟩
abbrev cX10_takeSorts : ByteArray := prog_12_method_8_code
def yX10_takeSorts : MethodName := ⟨RX10, "takeSorts", "(LInflatedRows$Book;)Z"⟩
abbrev cX10_takeSort : ByteArray := prog_12_method_9_code
def yX10_takeSort : MethodName := ⟨RX10, "takeSort", "(LInflatedRows$Book;)Z"⟩
abbrev cX10_takeTheRow : ByteArray := prog_12_method_10_code
def yX10_takeTheRow : MethodName := ⟨RX10, "takeTheRow", "(LInflatedRows$Book;)Z"⟩
abbrev cX10_next : ByteArray := prog_12_method_11_code
def yX10_next : MethodName := ⟨RX10, "next", "()I"⟩
abbrev cX10_isTile : ByteArray := prog_12_method_12_code
def yX10_isTile : MethodName := ⟨RX10, "isTile", "(I)Z"⟩
abbrev cX10_nextTile : ByteArray := prog_12_method_13_code
def yX10_nextTile : MethodName := ⟨RX10, "nextTile", "()I"⟩
abbrev cX10_takeByte : ByteArray := prog_12_method_14_code
def yX10_takeByte : MethodName := ⟨RX10, "takeByte", "(I)Z"⟩
abbrev cX10_takeNumber : ByteArray := prog_12_method_15_code
def yX10_takeNumber : MethodName := ⟨RX10, "takeNumber", "(II)Z"⟩
abbrev cX10_leave : ByteArray := prog_12_method_16_code
def yX10_leave : MethodName := ⟨RX10, "leave", "(I)Z"⟩
def RX11 : String := "InflatedRows"
def TX11 : u_T := fun k => match k with
  | 0 => ("InflatedRows", "rows", "LInflatedRows$Rows;", true)
  | 1 => ("InflatedRows", "tape", "LInflatedRows$Tape;", true)
  | 2 => ("InflatedRows", "book", "LInflatedRows$Book;", true)
  | 3 => ("InflatedRows", "trial", "LInflatedRows$Book;", true)
  | 4 => ("InflatedRows", "draft", "LInflatedRows$Book;", true)
  | 5 => ("InflatedRows", "memory", "LInflatedRows$Memory;", true)
  | 6 => ("InflatedRows", "growth", "LInflatedRows$Growth;", true)
  | 7 => ("InflatedRows", "tally", "LInflatedRows$Tally;", true)
  | 8 => ("InflatedRows", "folding", "LInflatedRows$Folding;", true)
  | 9 => ("InflatedRows", "losses", "LInflatedRows$Losses;", true)
  | 10 => ("InflatedRows", "kinds", "LInflatedRows$Kinds;", true)
  | 11 => ("InflatedRows", "latestFault", "I", false)
  | _ => ("InflatedRows", "finding", "I", false)
def tyX11 : Nat → FieldType := fun k => match k with
  | 0 => .object "InflatedRows$Rows"
  | 1 => .object "InflatedRows$Tape"
  | 2 => .object "InflatedRows$Book"
  | 3 => .object "InflatedRows$Book"
  | 4 => .object "InflatedRows$Book"
  | 5 => .object "InflatedRows$Memory"
  | 6 => .object "InflatedRows$Growth"
  | 7 => .object "InflatedRows$Tally"
  | 8 => .object "InflatedRows$Folding"
  | 9 => .object "InflatedRows$Losses"
  | 10 => .object "InflatedRows$Kinds"
  | 11 => .int
  | _ => .int
abbrev wsX110 : List Cond := u_ws RX11 TX11 13
theorem nmX11 : ∀ a, a < 13 → ∀ b, b < 13 → a ≠ b → (TX11 a).2.1 ≠ (TX11 b).2.1 := by decide +kernel
theorem tyX11_ok : ∀ k, k < 13 → parseFieldDescriptor (TX11 k).2.2.1 = some (tyX11 k) := by decide +kernel
abbrev cX11_init : ByteArray := prog_1_method_1_code
def yX11_init : MethodName := ⟨RX11, "<init>", "()V"⟩
abbrev cX11_row : ByteArray := prog_1_method_2_code
def yX11_row : MethodName := ⟨RX11, "row", "(III)I"⟩
abbrev cX11_set : ByteArray := prog_1_method_3_code
def yX11_set : MethodName := ⟨RX11, "set", "(III)I"⟩
abbrev cX11_copy : ByteArray := prog_1_method_4_code
def yX11_copy : MethodName := ⟨RX11, "copy", "(IIIII)I"⟩
abbrev cX11_drop : ByteArray := prog_1_method_5_code
def yX11_drop : MethodName := ⟨RX11, "drop", "(I)I"⟩
abbrev cX11_feed : ByteArray := prog_1_method_6_code
def yX11_feed : MethodName := ⟨RX11, "feed", "(I)I"⟩
abbrev cX11_book : ByteArray := prog_1_method_7_code
def yX11_book : MethodName := ⟨RX11, "book", "()I"⟩
abbrev cX11_fault : ByteArray := prog_1_method_8_code
def yX11_fault : MethodName := ⟨RX11, "fault", "()I"⟩
abbrev cX11_undo : ByteArray := prog_1_method_9_code
def yX11_undo : MethodName := ⟨RX11, "undo", "()I"⟩
abbrev cX11_word : ByteArray := prog_1_method_10_code
def yX11_word : MethodName := ⟨RX11, "word", "(III)I"⟩
abbrev cX11_length : ByteArray := prog_1_method_11_code
def yX11_length : MethodName := ⟨RX11, "length", "(III)I"⟩
abbrev cX11_become : ByteArray := prog_1_method_12_code
def yX11_become : MethodName := ⟨RX11, "become", "(II)I"⟩
abbrev cX11_root : ByteArray := prog_1_method_13_code
def yX11_root : MethodName := ⟨RX11, "root", "(II)I"⟩
abbrev cX11_begin : ByteArray := prog_1_method_14_code
def yX11_begin : MethodName := ⟨RX11, "begin", "(II)I"⟩
abbrev cX11_inflate : ByteArray := prog_1_method_15_code
def yX11_inflate : MethodName := ⟨RX11, "inflate", "()I"⟩
abbrev cX11_sort : ByteArray := prog_1_method_16_code
def yX11_sort : MethodName := ⟨RX11, "sort", "(II)I"⟩
abbrev cX11_letter : ByteArray := prog_1_method_17_code
def yX11_letter : MethodName := ⟨RX11, "letter", "(I)I"⟩
abbrev cX11_grown : ByteArray := prog_1_method_18_code
def yX11_grown : MethodName := ⟨RX11, "grown", "(II)I"⟩
abbrev cX11_origin : ByteArray := prog_1_method_19_code
def yX11_origin : MethodName := ⟨RX11, "origin", "(III)I"⟩
abbrev cX11_place : ByteArray := prog_1_method_20_code
def yX11_place : MethodName := ⟨RX11, "place", "(III)J"⟩
abbrev cX11_numbers : ByteArray := prog_1_method_21_code
def yX11_numbers : MethodName := ⟨RX11, "numbers", "(II)J"⟩
abbrev cX11_share : ByteArray := prog_1_method_22_code
def yX11_share : MethodName := ⟨RX11, "share", "(III)J"⟩
abbrev cX11_all : ByteArray := prog_1_method_23_code
def yX11_all : MethodName := ⟨RX11, "all", "(II)J"⟩
abbrev cX11_whole : ByteArray := prog_1_method_24_code
def yX11_whole : MethodName := ⟨RX11, "whole", "(I)I"⟩
abbrev cX11_back : ByteArray := prog_1_method_25_code
def yX11_back : MethodName := ⟨RX11, "back", "(III)I"⟩
abbrev cX11_who : ByteArray := prog_1_method_26_code
def yX11_who : MethodName := ⟨RX11, "who", "(IIIIII)I"⟩
abbrev cX11_quiet : ByteArray := prog_1_method_27_code
def yX11_quiet : MethodName := ⟨RX11, "quiet", "()I"⟩
abbrev cX11_sets : ByteArray := prog_1_method_28_code
def yX11_sets : MethodName := ⟨RX11, "sets", "(II)I"⟩
abbrev cX11_lost : ByteArray := prog_1_method_29_code
def yX11_lost : MethodName := ⟨RX11, "lost", "(IIII)J"⟩
abbrev cX11_drawn : ByteArray := prog_1_method_30_code
def yX11_drawn : MethodName := ⟨RX11, "drawn", "(III)I"⟩
abbrev cX11_image : ByteArray := prog_1_method_31_code
def yX11_image : MethodName := ⟨RX11, "image", "(I)I"⟩
abbrev cX11_restore : ByteArray := prog_1_method_32_code
def yX11_restore : MethodName := ⟨RX11, "restore", "(I)I"⟩
abbrev cX11_kind : ByteArray := prog_1_method_33_code
def yX11_kind : MethodName := ⟨RX11, "kind", "(I)I"⟩
abbrev cX11_as : ByteArray := prog_1_method_34_code
def yX11_as : MethodName := ⟨RX11, "as", "(II)I"⟩
abbrev cX11_ask : ByteArray := prog_1_method_35_code
def yX11_ask : MethodName := ⟨RX11, "ask", "(II)I"⟩
abbrev cX11_trace : ByteArray := prog_1_method_36_code
def yX11_trace : MethodName := ⟨RX11, "trace", "(I)I"⟩
abbrev cX11_count : ByteArray := prog_1_method_37_code
def yX11_count : MethodName := ⟨RX11, "count", "(I)I"⟩
abbrev cX11_status : ByteArray := prog_1_method_38_code
def yX11_status : MethodName := ⟨RX11, "status", "()I"⟩
abbrev cX11_found : ByteArray := prog_1_method_39_code
def yX11_found : MethodName := ⟨RX11, "found", "(I)I"⟩
abbrev cX11_unfound : ByteArray := prog_1_method_40_code
def yX11_unfound : MethodName := ⟨RX11, "unfound", "(I)I"⟩
abbrev cX11_orOver : ByteArray := prog_1_method_41_code
def yX11_orOver : MethodName := ⟨RX11, "orOver", "(J)J"⟩
abbrev cX11_lettersFinding : ByteArray := prog_1_method_42_code
def yX11_lettersFinding : MethodName := ⟨RX11, "lettersFinding", "(II)I"⟩
abbrev cX11_wordLetterOrNone : ByteArray := prog_1_method_43_code
def yX11_wordLetterOrNone : MethodName := ⟨RX11, "wordLetterOrNone", "(II)I"⟩
abbrev cX11_imageLetterOrNone : ByteArray := prog_1_method_44_code
def yX11_imageLetterOrNone : MethodName := ⟨RX11, "imageLetterOrNone", "(II)I"⟩
abbrev cX11_scalePart : ByteArray := prog_1_method_45_code
def yX11_scalePart : MethodName := ⟨RX11, "scalePart", "(I)I"⟩
abbrev cX11_bitsThatTell : ByteArray := prog_1_method_46_code
def yX11_bitsThatTell : MethodName := ⟨RX11, "bitsThatTell", "(IIIIII)I"⟩
abbrev cX11_trialTells : ByteArray := prog_1_method_47_code
def yX11_trialTells : MethodName := ⟨RX11, "trialTells", "(III)Z"⟩
abbrev cX11_isQuiet : ByteArray := prog_1_method_48_code
def yX11_isQuiet : MethodName := ⟨RX11, "isQuiet", "(II)Z"⟩
abbrev cX11_weightOf : ByteArray := prog_1_method_49_code
def yX11_weightOf : MethodName := ⟨RX11, "weightOf", "(I)I"⟩
abbrev cX11_changeByDraw : ByteArray := prog_1_method_50_code
def yX11_changeByDraw : MethodName := ⟨RX11, "changeByDraw", "(J)V"⟩
def RX12 : String := "InflatedRowsModel"
def TX12 : u_T := fun k => match k with
  | 0 => ("InflatedRowsModel", "status", "I", false)
  | 1 => ("InflatedRowsModel", "lane", "[I", true)
  | 2 => ("InflatedRowsModel", "many", "[I", true)
  | 3 => ("InflatedRowsModel", "item", "[I", true)
  | 4 => ("InflatedRowsModel", "book", "[I", true)
  | 5 => ("InflatedRowsModel", "fresh", "[I", true)
  | 6 => ("InflatedRowsModel", "then", "[I", true)
  | 7 => ("InflatedRowsModel", "was", "[I", true)
  | 8 => ("InflatedRowsModel", "acts", "I", false)
  | 9 => ("InflatedRowsModel", "line", "[I", true)
  | 10 => ("InflatedRowsModel", "spare", "[I", true)
  | 11 => ("InflatedRowsModel", "tape", "[I", true)
  | 12 => ("InflatedRowsModel", "taped", "I", false)
  | 13 => ("InflatedRowsModel", "cursor", "I", false)
  | 14 => ("InflatedRowsModel", "start", "I", false)
  | 15 => ("InflatedRowsModel", "token", "I", false)
  | 16 => ("InflatedRowsModel", "value", "I", false)
  | 17 => ("InflatedRowsModel", "fault", "I", false)
  | 18 => ("InflatedRowsModel", "faultAt", "I", false)
  | 19 => ("InflatedRowsModel", "latest", "I", false)
  | 20 => ("InflatedRowsModel", "told", "I", false)
  | 21 => ("InflatedRowsModel", "number", "[J", true)
  | 22 => ("InflatedRowsModel", "next", "[J", true)
  | 23 => ("InflatedRowsModel", "isBeyond", "Z", false)
  | 24 => ("InflatedRowsModel", "ways", "[I", true)
  | 25 => ("InflatedRowsModel", "ends", "[Z", true)
  | 26 => ("InflatedRowsModel", "isKept", "[Z", true)
  | 27 => ("InflatedRowsModel", "kept", "[I", true)
  | 28 => ("InflatedRowsModel", "trace", "[I", true)
  | _ => ("InflatedRowsModel", "traced", "I", false)
def tyX12 : Nat → FieldType := fun k => match k with
  | 0 => .int
  | 1 => .array .int
  | 2 => .array .int
  | 3 => .array .int
  | 4 => .array .int
  | 5 => .array .int
  | 6 => .array .int
  | 7 => .array .int
  | 8 => .int
  | 9 => .array .int
  | 10 => .array .int
  | 11 => .array .int
  | 12 => .int
  | 13 => .int
  | 14 => .int
  | 15 => .int
  | 16 => .int
  | 17 => .int
  | 18 => .int
  | 19 => .int
  | 20 => .int
  | 21 => .array .long
  | 22 => .array .long
  | 23 => .boolean
  | 24 => .array .int
  | 25 => .array .boolean
  | 26 => .array .boolean
  | 27 => .array .int
  | 28 => .array .int
  | _ => .int
abbrev wsX120 : List Cond := u_ws RX12 TX12 30
theorem nmX12 : ∀ a, a < 30 → ∀ b, b < 30 → a ≠ b → (TX12 a).2.1 ≠ (TX12 b).2.1 := by decide +kernel
theorem tyX12_ok : ∀ k, k < 30 → parseFieldDescriptor (TX12 k).2.2.1 = some (tyX12 k) := by decide +kernel
abbrev cX12_init : ByteArray := prog_14_method_1_code
def yX12_init : MethodName := ⟨RX12, "<init>", "()V"⟩
abbrev cX12_in : ByteArray := prog_14_method_2_code
def yX12_in : MethodName := ⟨RX12, "in", "(JJJ)Z"⟩
abbrev cX12_finding : ByteArray := prog_14_method_3_code
def yX12_finding : MethodName := ⟨RX12, "finding", "(I)I"⟩
abbrev cX12_isRow : ByteArray := prog_14_method_4_code
def yX12_isRow : MethodName := ⟨RX12, "isRow", "(I)Z"⟩
abbrev cX12_row : ByteArray := prog_14_method_5_code
def yX12_row : MethodName := ⟨RX12, "row", "(III)I"⟩
abbrev cX12_set : ByteArray := prog_14_method_6_code
def yX12_set : MethodName := ⟨RX12, "set", "(III)I"⟩
abbrev cX12_copy : ByteArray := prog_14_method_7_code
def yX12_copy : MethodName := ⟨RX12, "copy", "(IIIII)I"⟩
abbrev cX12_drop : ByteArray := prog_14_method_8_code
def yX12_drop : MethodName := ⟨RX12, "drop", "(I)I"⟩
abbrev cX12_isThere : ByteArray := prog_14_method_9_code
def yX12_isThere : MethodName := ⟨RX12, "isThere", "()Z"⟩
abbrev cX12_isSort : ByteArray := prog_14_method_10_code
def yX12_isSort : MethodName := ⟨RX12, "isSort", "(I)Z"⟩
abbrev cX12_layThen : ByteArray := prog_14_method_11_code
def yX12_layThen : MethodName := ⟨RX12, "layThen", "()V"⟩
abbrev cX12_has : ByteArray := prog_14_method_12_code
def yX12_has : MethodName := ⟨RX12, "has", "(II)Z"⟩
abbrev cX12_sizeOf : ByteArray := prog_14_method_13_code
def yX12_sizeOf : MethodName := ⟨RX12, "sizeOf", "(I)I"⟩
abbrev cX12_kindOf : ByteArray := prog_14_method_14_code
def yX12_kindOf : MethodName := ⟨RX12, "kindOf", "([II)I"⟩
abbrev cX12_lengthOf : ByteArray := prog_14_method_15_code
def yX12_lengthOf : MethodName := ⟨RX12, "lengthOf", "([III)I"⟩
abbrev cX12_wordSize : ByteArray := prog_14_method_16_code
def yX12_wordSize : MethodName := ⟨RX12, "wordSize", "([II)I"⟩
abbrev cX12_imageSize : ByteArray := prog_14_method_17_code
def yX12_imageSize : MethodName := ⟨RX12, "imageSize", "([II)I"⟩
abbrev cX12_imageAt : ByteArray := prog_14_method_18_code
def yX12_imageAt : MethodName := ⟨RX12, "imageAt", "([III)I"⟩
abbrev cX12_layGrown : ByteArray := prog_14_method_19_code
def yX12_layGrown : MethodName := ⟨RX12, "layGrown", "([II)I"⟩
abbrev cX12_inflated : ByteArray := prog_14_method_20_code
def yX12_inflated : MethodName := ⟨RX12, "inflated", "([II)I"⟩
abbrev cX12_pairsOf : ByteArray := prog_14_method_21_code
def yX12_pairsOf : MethodName := ⟨RX12, "pairsOf", "([I)I"⟩
abbrev cX12_feed : ByteArray := prog_14_method_22_code
def yX12_feed : MethodName := ⟨RX12, "feed", "(I)I"⟩
abbrev cX12_bad : ByteArray := prog_14_method_23_code
def yX12_bad : MethodName := ⟨RX12, "bad", "(I)V"⟩
abbrev cX12_nextToken : ByteArray := prog_14_method_24_code
def yX12_nextToken : MethodName := ⟨RX12, "nextToken", "()V"⟩
abbrev cX12_must : ByteArray := prog_14_method_25_code
def yX12_must : MethodName := ⟨RX12, "must", "(Z)V"⟩
abbrev cX12_figure : ByteArray := prog_14_method_26_code
def yX12_figure : MethodName := ⟨RX12, "figure", "(II)I"⟩
abbrev cX12_mustSign : ByteArray := prog_14_method_27_code
def yX12_mustSign : MethodName := ⟨RX12, "mustSign", "(I)V"⟩
abbrev cX12_sortOf : ByteArray := prog_14_method_28_code
def yX12_sortOf : MethodName := ⟨RX12, "sortOf", "(I)I"⟩
abbrev cX12_readWord : ByteArray := prog_14_method_29_code
def yX12_readWord : MethodName := ⟨RX12, "readWord", "(II)I"⟩
abbrev cX12_readSort : ByteArray := prog_14_method_30_code
def yX12_readSort : MethodName := ⟨RX12, "readSort", "()V"⟩
abbrev cX12_book : ByteArray := prog_14_method_31_code
def yX12_book : MethodName := ⟨RX12, "book", "()I"⟩
abbrev cX12_fault : ByteArray := prog_14_method_32_code
def yX12_fault : MethodName := ⟨RX12, "fault", "()I"⟩
abbrev cX12_keeps : ByteArray := prog_14_method_33_code
def yX12_keeps : MethodName := ⟨RX12, "keeps", "()V"⟩
abbrev cX12_undo : ByteArray := prog_14_method_34_code
def yX12_undo : MethodName := ⟨RX12, "undo", "()I"⟩
abbrev cX12_lacks : ByteArray := prog_14_method_35_code
def yX12_lacks : MethodName := ⟨RX12, "lacks", "(II)I"⟩
abbrev cX12_lacksLetters : ByteArray := prog_14_method_36_code
def yX12_lacksLetters : MethodName := ⟨RX12, "lacksLetters", "(II)I"⟩
abbrev cX12_word : ByteArray := prog_14_method_37_code
def yX12_word : MethodName := ⟨RX12, "word", "(III)I"⟩
abbrev cX12_length : ByteArray := prog_14_method_38_code
def yX12_length : MethodName := ⟨RX12, "length", "(III)I"⟩
abbrev cX12_become : ByteArray := prog_14_method_39_code
def yX12_become : MethodName := ⟨RX12, "become", "(II)I"⟩
abbrev cX12_root : ByteArray := prog_14_method_40_code
def yX12_root : MethodName := ⟨RX12, "root", "(II)I"⟩
abbrev cX12_begin : ByteArray := prog_14_method_41_code
def yX12_begin : MethodName := ⟨RX12, "begin", "(II)I"⟩
abbrev cX12_inflate : ByteArray := prog_14_method_42_code
def yX12_inflate : MethodName := ⟨RX12, "inflate", "()I"⟩
abbrev cX12_sort : ByteArray := prog_14_method_43_code
def yX12_sort : MethodName := ⟨RX12, "sort", "(II)I"⟩
abbrev cX12_letter : ByteArray := prog_14_method_44_code
def yX12_letter : MethodName := ⟨RX12, "letter", "(I)I"⟩
abbrev cX12_grown : ByteArray := prog_14_method_45_code
def yX12_grown : MethodName := ⟨RX12, "grown", "(II)I"⟩
abbrev cX12_origin : ByteArray := prog_14_method_46_code
def yX12_origin : MethodName := ⟨RX12, "origin", "(III)I"⟩
abbrev cX12_place : ByteArray := prog_14_method_47_code
def yX12_place : MethodName := ⟨RX12, "place", "(III)J"⟩
abbrev cX12_plus : ByteArray := prog_14_method_48_code
def yX12_plus : MethodName := ⟨RX12, "plus", "(JJ)J"⟩
abbrev cX12_layNumbers : ByteArray := prog_14_method_49_code
def yX12_layNumbers : MethodName := ⟨RX12, "layNumbers", "(I)V"⟩
abbrev cX12_numbers : ByteArray := prog_14_method_50_code
def yX12_numbers : MethodName := ⟨RX12, "numbers", "(II)J"⟩
abbrev cX12_lowest : ByteArray := prog_14_method_51_code
def yX12_lowest : MethodName := ⟨RX12, "lowest", "(JJI)J"⟩
abbrev cX12_share : ByteArray := prog_14_method_52_code
def yX12_share : MethodName := ⟨RX12, "share", "(III)J"⟩
abbrev cX12_all : ByteArray := prog_14_method_53_code
def yX12_all : MethodName := ⟨RX12, "all", "(II)J"⟩
abbrev cX12_isScale : ByteArray := prog_14_method_54_code
def yX12_isScale : MethodName := ⟨RX12, "isScale", "(II)Z"⟩
abbrev cX12_scale : ByteArray := prog_14_method_55_code
def yX12_scale : MethodName := ⟨RX12, "scale", "()I"⟩
abbrev cX12_whole : ByteArray := prog_14_method_56_code
def yX12_whole : MethodName := ⟨RX12, "whole", "(I)I"⟩
abbrev cX12_isImageAt : ByteArray := prog_14_method_57_code
def yX12_isImageAt : MethodName := ⟨RX12, "isImageAt", "(IIII)Z"⟩
abbrev cX12_layWays : ByteArray := prog_14_method_58_code
def yX12_layWays : MethodName := ⟨RX12, "layWays", "(II)V"⟩
abbrev cX12_firstAt : ByteArray := prog_14_method_59_code
def yX12_firstAt : MethodName := ⟨RX12, "firstAt", "(III)I"⟩
abbrev cX12_back : ByteArray := prog_14_method_60_code
def yX12_back : MethodName := ⟨RX12, "back", "(III)I"⟩
abbrev cX12_isSo : ByteArray := prog_14_method_61_code
def yX12_isSo : MethodName := ⟨RX12, "isSo", "(III)Z"⟩
abbrev cX12_who : ByteArray := prog_14_method_62_code
def yX12_who : MethodName := ⟨RX12, "who", "(IIIIII)I"⟩
abbrev cX12_quiet : ByteArray := prog_14_method_63_code
def yX12_quiet : MethodName := ⟨RX12, "quiet", "()I"⟩
abbrev cX12_sets : ByteArray := prog_14_method_64_code
def yX12_sets : MethodName := ⟨RX12, "sets", "(II)I"⟩
abbrev cX12_oftenIn : ByteArray := prog_14_method_65_code
def yX12_oftenIn : MethodName := ⟨RX12, "oftenIn", "(II)I"⟩
abbrev cX12_lost : ByteArray := prog_14_method_66_code
def yX12_lost : MethodName := ⟨RX12, "lost", "(IIII)J"⟩
abbrev cX12_drawn : ByteArray := prog_14_method_67_code
def yX12_drawn : MethodName := ⟨RX12, "drawn", "(III)I"⟩
abbrev cX12_image : ByteArray := prog_14_method_68_code
def yX12_image : MethodName := ⟨RX12, "image", "(I)I"⟩
abbrev cX12_restore : ByteArray := prog_14_method_69_code
def yX12_restore : MethodName := ⟨RX12, "restore", "(I)I"⟩
abbrev cX12_isOf : ByteArray := prog_14_method_70_code
def yX12_isOf : MethodName := ⟨RX12, "isOf", "(II)Z"⟩
abbrev cX12_kind : ByteArray := prog_14_method_71_code
def yX12_kind : MethodName := ⟨RX12, "kind", "(I)I"⟩
abbrev cX12_as : ByteArray := prog_14_method_72_code
def yX12_as : MethodName := ⟨RX12, "as", "(II)I"⟩
abbrev cX12_began : ByteArray := prog_14_method_73_code
def yX12_began : MethodName := ⟨RX12, "began", "(I)V"⟩
abbrev cX12_lentSize : ByteArray := prog_14_method_74_code
def yX12_lentSize : MethodName := ⟨RX12, "lentSize", "(I)I"⟩
abbrev cX12_fixedSize : ByteArray := prog_14_method_75_code
def yX12_fixedSize : MethodName := ⟨RX12, "fixedSize", "(I)I"⟩
abbrev cX12_markOf : ByteArray := prog_14_method_76_code
def yX12_markOf : MethodName := ⟨RX12, "markOf", "(I)I"⟩
abbrev cX12_askedSize : ByteArray := prog_14_method_77_code
def yX12_askedSize : MethodName := ⟨RX12, "askedSize", "(I)I"⟩
abbrev cX12_ask : ByteArray := prog_14_method_78_code
def yX12_ask : MethodName := ⟨RX12, "ask", "(II)I"⟩
abbrev cX12_trace : ByteArray := prog_14_method_79_code
def yX12_trace : MethodName := ⟨RX12, "trace", "(I)I"⟩
abbrev cX12_lettersOfAll : ByteArray := prog_14_method_80_code
def yX12_lettersOfAll : MethodName := ⟨RX12, "lettersOfAll", "()I"⟩
abbrev cX12_count : ByteArray := prog_14_method_81_code
def yX12_count : MethodName := ⟨RX12, "count", "(I)I"⟩
abbrev cX12_status : ByteArray := prog_14_method_82_code
def yX12_status : MethodName := ⟨RX12, "status", "()I"⟩
def RJ6 : String := "java/lang/Integer"
def TJ6 : u_T := fun k => match k with
  | _ => ("", "", "", false)
def tyJ6 : Nat → FieldType := fun k => match k with
  | _ => .int
abbrev wsJ60 : List Cond := u_ws RJ6 TJ6 0
theorem nmJ6 : ∀ a, a < 0 → ∀ b, b < 0 → a ≠ b → (TJ6 a).2.1 ≠ (TJ6 b).2.1 := by decide +kernel
theorem tyJ6_ok : ∀ k, k < 0 → parseFieldDescriptor (TJ6 k).2.2.1 = some (tyJ6 k) := by decide +kernel
abbrev cJ6_bitCount_0f7a4 : ByteArray := prog_15_method_49_code
def yJ6_bitCount_0f7a4 : MethodName := ⟨RJ6, "bitCount", "(I)I"⟩
def RJ9 : String := "java/lang/Math"
def TJ9 : u_T := fun k => match k with
  | _ => ("", "", "", false)
def tyJ9 : Nat → FieldType := fun k => match k with
  | _ => .int
abbrev wsJ90 : List Cond := u_ws RJ9 TJ9 0
theorem nmJ9 : ∀ a, a < 0 → ∀ b, b < 0 → a ≠ b → (TJ9 a).2.1 ≠ (TJ9 b).2.1 := by decide +kernel
theorem tyJ9_ok : ∀ k, k < 0 → parseFieldDescriptor (TJ9 k).2.2.1 = some (tyJ9 k) := by decide +kernel
abbrev cJ9_min_7cf53 : ByteArray := prog_16_method_69_code
def yJ9_min_7cf53 : MethodName := ⟨RJ9, "min", "(II)I"⟩
def RJ10 : String := "java/lang/System"
def TJ10 : u_T := fun k => match k with
  | _ => ("", "", "", false)
def tyJ10 : Nat → FieldType := fun k => match k with
  | _ => .int
abbrev wsJ100 : List Cond := u_ws RJ10 TJ10 0
theorem nmJ10 : ∀ a, a < 0 → ∀ b, b < 0 → a ≠ b → (TJ10 a).2.1 ≠ (TJ10 b).2.1 := by decide +kernel
theorem tyJ10_ok : ∀ k, k < 0 → parseFieldDescriptor (TJ10 k).2.2.1 = some (tyJ10 k) := by decide +kernel
def RL : String := "InflatedRowsLaw"
abbrev cL_law : ByteArray := code
def yL_law : MethodName := ⟨RL, "law", "([I)Z"⟩
abbrev vwCl : List vw_C := [(RX0, TX0, 1), (RX2, TX2, 3), (RX3, TX3, 3), (RX4, TX4, 2), (RX5, TX5, 2), (RX6, TX6, 5), (RX8, TX8, 3), (RX9, TX9, 4), (RX10, TX10, 5), (RX11, TX11, 13), (RX12, TX12, 30)]
