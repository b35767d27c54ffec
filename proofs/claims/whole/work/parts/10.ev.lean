/-! THE PURE MACHINE: a state is numbers (cell, place); Ev: from this frame and this state the method comes to its end with post. -/
abbrev St : Type := Nat → Nat → Int
abbrev Mth : Type := String × MethodName × ByteArray × Nat × Option FieldType
abbrev Gw : Type := va_G × (Nat → ClassId) × (Nat → Nat)
def vi (e : Int) : Value := .int (Int32.ofInt e)
def vl (e : Int) : Value := .long (Int64.ofInt e)
/-- the cells: 0 an object (its kind, its fields: 0 int, 1 long, t + 2 the cell t), 1 ints, 2 longs, 3 booleans, 4 cells -/
def skl : List (Nat × Nat × List Nat) := [
  (0, 9, [3, 4, 5, 6, 7, 8, 9, 10, 11, 12, 13, 0, 0]),
  (0, 6, [14, 15, 16]),
  (0, 8, [17, 0, 0, 0, 0]),
  (0, 0, [18]),
  (0, 0, [19]),
  (0, 0, [20]),
  (0, 5, [21, 22, 0, 0, 0]),
  (0, 2, [23, 24, 25]),
  (0, 7, [40, 41, 42, 0]),
  (0, 1, [43, 44, 0]),
  (0, 4, [45, 1]),
  (0, 3, [46, 0]),
  (1, 320, []), (1, 8, []), (1, 8, []),
  (1, 120, []),
  (1, 44, []), (1, 44, []), (1, 44, []),
  (1, 1056, []), (1, 88, []),
  (4, 7, [24, 25, 26, 27, 28, 29, 30]), (4, 7, [31, 32, 33, 34, 35, 36, 37]), (1, 7, []),
  (1, 300, []), (1, 300, []), (1, 300, []), (1, 300, []), (1, 300, []), (1, 300, []), (1, 300, []),
  (1, 300, []), (1, 300, []), (1, 300, []), (1, 300, []), (1, 300, []), (1, 300, []), (1, 300, []),
  (2, 4, []), (2, 4, []), (1, 16, []),
  (1, 40, []), (1, 41, []),
  (2, 41, []),
  (1, 16, []),
  (0, 10, [0, 48, 49, 50, 51, 52, 53, 54, 0, 55, 56, 57, 0, 0, 0, 0, 0, 0, 0, 0, 0, 58, 59, 0, 60, 61, 62, 63, 64, 0]),
  (1, 8, []), (1, 8, []), (1, 320, []),
  (1, 44, []), (1, 44, []), (1, 44, []), (1, 1056, []),
  (1, 300, []), (1, 300, []), (1, 120, []),
  (2, 4, []), (2, 4, []),
  (1, 41, []), (3, 41, []), (3, 2, []), (1, 88, []), (1, 16, [])]
def NC : Nat := 63
def fc (k f : Nat) : Option (Nat × Nat) := match skl[k]? with
  | some (0, ci, fl) => (fl[f]?).map (fun c => (ci, c))
  | _ => none
def ak (k : Nat) : Option (Nat × Nat) := match skl[k]? with
  | some (t + 1, n, _) => some (t + 1, n)
  | _ => none
def fv (g : Gw) (σ : St) (k f c : Nat) : Value := match c with
  | 0 => vi (σ k f)
  | 1 => vl (σ k f)
  | t + 2 => .ref (g.2.2 t)
def el (g : Gw) (σ : St) (k : Nat) : va_E := match skl[k]? with
  | some (0, ci, fl) => .inr (ci, (fl.zipIdx).map (fun q => fv g σ k q.2 q.1))
  | some (1, n, _) => .inl (g.2.1 1, n, .inl (fun j => Int32.ofInt (σ k j)))
  | some (2, n, _) => .inl (g.2.1 2, n, .inr (.inl (fun j => Int64.ofInt (σ k j))))
  | some (3, n, _) => .inl (g.2.1 3, n, .inl (fun j => Int32.ofInt (σ k j)))
  | some (_, n, fl) => .inl (g.2.1 4, n, .inr (.inr (.inr (.inr (fun j => (fl[j]?).map g.2.2)))))
  | none => .inr (0, [])
def wl (g : Gw) (σ : St) : va_W := (List.range NC).map (fun k => (g.2.2 k, el g σ k))
def Ag (g : Gw) : Nat → Prop := fun q => ∃ k, k < NC ∧ q = g.2.2 k
def tyl (g : Gw) : List (ClassId × FieldType) := [(g.2.1 1, .int), (g.2.1 2, .long), (g.2.1 3, .boolean), (g.2.1 4, .array .int)]
def Ij (g : Gw) : Prop := ∀ i j, i < NC → j < NC → g.2.2 i = g.2.2 j → i = j
def upA (σ : St) (k : Nat) (h : Nat → Int) : St := fun a => if a = k then h else σ a
def upF (f : Nat → Int) (j : Nat) (x : Int) : Nat → Int := fun i => if i = j then x else f i
def up (σ : St) (k j : Nat) (x : Int) : St := upA σ k (upF (σ k) j x)
theorem upA_s (σ : St) (k : Nat) (h : Nat → Int) : upA σ k h k = h := by simp [upA]
theorem upA_n (σ : St) {k a : Nat} (h : Nat → Int) (e : a ≠ k) : upA σ k h a = σ a := by simp [upA, e]
theorem upF_s (f : Nat → Int) (j : Nat) (x : Int) : upF f j x j = x := by simp [upF]
theorem upF_n (f : Nat → Int) {j i : Nat} (x : Int) (e : i ≠ j) : upF f j x i = f i := by simp [upF, e]
theorem skl_lt {k : Nat} {q : Nat × Nat × List Nat} (h : skl[k]? = some q) : k < NC := (List.getElem?_eq_some_iff.mp h).1
theorem wl_at (g : Gw) (σ : St) {k : Nat} (h : k < NC) : (wl g σ)[k]? = some (g.2.2 k, el g σ k) := by
  rw [wl, List.getElem?_map, List.getElem?_range h]
  rfl
theorem wl_inv {g : Gw} {σ : St} {k : Nat} {q : Nat × va_E} (h : (wl g σ)[k]? = some q) : k < NC ∧ q = (g.2.2 k, el g σ k) := by
  have hk : k < NC := by
    have := (List.getElem?_eq_some_iff.mp h).1
    simpa [wl] using this
  rw [wl_at g σ hk] at h
  exact ⟨hk, (Option.some.inj h).symm⟩
theorem wl_D {g : Gw} (σ : St) (h : Ij g) : va_D (Ag g) (wl g σ) := by
  refine ⟨fun i j p q hi hj e => ?_, fun k q hk => ?_⟩
  · obtain ⟨h1, rfl⟩ := wl_inv hi
    obtain ⟨h2, rfl⟩ := wl_inv hj
    exact h i j h1 h2 e
  · obtain ⟨h1, rfl⟩ := wl_inv hk
    exact ⟨k, h1, rfl⟩
theorem el_congr {g : Gw} {σ τ : St} {k : Nat} (h : τ k = σ k) : el g τ k = el g σ k := by
  unfold el fv
  rw [h]
theorem wl_set {g : Gw} {σ : St} {k : Nat} {h : Nat → Int} (hk : k < NC) : (wl g σ).set k (g.2.2 k, el g (upA σ k h) k) = wl g (upA σ k h) := by
  apply List.ext_getElem?
  intro i
  by_cases e : i = k
  · subst e
    rw [List.getElem?_set_self (by simpa [wl] using hk), wl_at _ _ hk]
  · rw [List.getElem?_set_ne (Ne.symm e)]
    by_cases hi : i < NC
    · rw [wl_at _ _ hi, wl_at _ _ hi, el_congr (upA_n σ h e)]
    · rw [List.getElem?_eq_none (by simpa [wl] using Nat.le_of_not_lt hi), List.getElem?_eq_none (by simpa [wl] using Nat.le_of_not_lt hi)]
theorem fc_spec {k f ci c : Nat} (h : fc k f = some (ci, c)) : ∃ fl, skl[k]? = some (0, ci, fl) ∧ fl[f]? = some c := by
  unfold fc at h
  split at h
  · rename_i ci' fl hs
    obtain ⟨c', h1, h2⟩ := Option.map_eq_some_iff.mp h
    cases h2
    exact ⟨fl, hs, h1⟩
  · cases h
theorem ak_spec {k t n : Nat} (h : ak k = some (t, n)) : ∃ fl, skl[k]? = some (t, n, fl) ∧ t ≠ 0 := by
  unfold ak at h
  split at h
  · rename_i t' n' fl hs
    cases h
    exact ⟨fl, hs, by omega⟩
  · cases h
theorem el_obj {g : Gw} {σ : St} {k ci : Nat} {fl : List Nat} (h : skl[k]? = some (0, ci, fl)) : el g σ k = .inr (ci, (fl.zipIdx).map (fun q => fv g σ k q.2 q.1)) := by unfold el; rw [h]; rfl
theorem el_1 {g : Gw} {σ : St} {k n : Nat} {fl : List Nat} (h : skl[k]? = some (1, n, fl)) : el g σ k = .inl (g.2.1 1, n, .inl (fun j => Int32.ofInt (σ k j))) := by unfold el; rw [h]; rfl
theorem el_2 {g : Gw} {σ : St} {k n : Nat} {fl : List Nat} (h : skl[k]? = some (2, n, fl)) : el g σ k = .inl (g.2.1 2, n, .inr (.inl (fun j => Int64.ofInt (σ k j)))) := by unfold el; rw [h]; rfl
theorem el_3 {g : Gw} {σ : St} {k n : Nat} {fl : List Nat} (h : skl[k]? = some (3, n, fl)) : el g σ k = .inl (g.2.1 3, n, .inl (fun j => Int32.ofInt (σ k j))) := by unfold el; rw [h]; rfl
theorem el_4 {g : Gw} {σ : St} {k n : Nat} {fl : List Nat} (h : skl[k]? = some (4, n, fl)) : el g σ k = .inl (g.2.1 4, n, .inr (.inr (.inr (.inr (fun j => (fl[j]?).map g.2.2))))) := by unfold el; rw [h]; rfl
theorem fl_at {g : Gw} {σ : St} {k f c : Nat} {fl : List Nat} (h : fl[f]? = some c) : ((fl.zipIdx).map (fun q => fv g σ k q.2 q.1))[f]? = some (fv g σ k f c) := by
  rw [List.getElem?_map, List.getElem?_zipIdx, h]
  simp
/-- stack and locals, with the addresses -/
def cv (g : Gw) (v : Value) : Value := match v with
  | .ref k => .ref (g.2.2 k)
  | w => w
theorem cv_cat (g : Gw) (v : Value) : (cv g v).category = v.category := by cases v <;> rfl
def isNl : Value → Bool
  | .null => true
  | _ => false
theorem isNl_cv (g : Gw) (v : Value) : isNl (cv g v) = isNl v := by cases v <;> rfl
def Lh (g : Gw) (ls : Array Slot) (n : Nat) (lv : List Value) : Prop := ls.size = n ∧ lv_wf ls ∧ ∀ (i : Nat) (v : Value), lv[i]? = some v → isNl v = false → ls[i]? = some (.val (cv g v))
def prs (g : Gw) (lv : List Value) : List (Nat × Value) := (lv.zipIdx).filterMap (fun q => if isNl q.1 then none else some (q.2, cv g q.1))
theorem prs_mem {g : Gw} {lv : List Value} {i : Nat} {w : Value} : (i, w) ∈ prs g lv ↔ ∃ v, lv[i]? = some v ∧ isNl v = false ∧ w = cv g v := by
  unfold prs
  rw [List.mem_filterMap]
  constructor
  · rintro ⟨⟨v, j⟩, hm, h⟩
    by_cases hn : isNl v
    · simp [hn] at h
    · simp [hn] at h
      obtain ⟨rfl, rfl⟩ := h
      exact ⟨v, by rw [List.mem_zipIdx_iff_getElem?] at hm; exact hm, by simpa using hn, rfl⟩
  · rintro ⟨v, h1, h2, rfl⟩
    exact ⟨(v, i), by rw [List.mem_zipIdx_iff_getElem?]; exact h1, by simp [h2]⟩
theorem Lh.has {g : Gw} {ls : Array Slot} {n : Nat} {lv : List Value} (h : Lh g ls n lv) : lv_has ls n (prs g lv) := ⟨h.1, h.2.1, fun q hq => by
  obtain ⟨v, h1, h2, h3⟩ := prs_mem.mp (show (q.1, q.2) ∈ prs g lv from hq)
  rw [h3]
  exact h.2.2 q.1 v h1 h2⟩
theorem Lh.of {g : Gw} {ls : Array Slot} {n : Nat} {lv : List Value} {l : List (Nat × Value)} (h : lv_has ls n l) (hl : ∀ (i : Nat) (v : Value), lv[i]? = some v → isNl v = false → (i, cv g v) ∈ l) : Lh g ls n lv := ⟨h.1, h.2.1, fun i v h1 h2 => h.2.2 (i, cv g v) (hl i v h1 h2)⟩
/-- a store of one word, of two -/
def st1 (lv : List Value) (i : Nat) (v : Value) : List Value := lv.mapIdx (fun j w => if j = i then v else if j + 1 = i ∧ w.category = 2 then .null else w)
def st2 (lv : List Value) (i : Nat) (v : Value) : List Value := lv.mapIdx (fun j w => if j = i then v else if j = i + 1 then .null else if j + 1 = i ∧ w.category = 2 then .null else w)
theorem st1_mem {g : Gw} {lv : List Value} {i : Nat} {v : Value} (j : Nat) (w : Value) (h : (st1 lv i v)[j]? = some w) (hn : isNl w = false) : (j, cv g w) ∈ (i, cv g v) :: (prs g lv).filter (fun q => !(q.1 == i) && !(q.1 + 1 == i && q.2.category == 2)) := by
  unfold st1 at h
  rw [List.getElem?_mapIdx] at h
  obtain ⟨u, h1, h2⟩ := Option.map_eq_some_iff.mp h
  by_cases e : j = i
  · subst e
    simp at h2
    subst h2
    exact List.mem_cons_self
  · rw [if_neg e] at h2
    by_cases e2 : j + 1 = i ∧ u.category = 2
    · rw [if_pos e2] at h2
      subst h2
      cases hn
    · rw [if_neg e2] at h2
      subst h2
      refine List.mem_cons_of_mem _ (List.mem_filter.mpr ⟨prs_mem.mpr ⟨u, h1, hn, rfl⟩, ?_⟩)
      simp only [cv_cat, Bool.and_eq_true, Bool.not_eq_true', beq_eq_false_iff_ne, ne_eq, e, not_false_eq_true, true_and, Bool.and_eq_false_iff]
      by_cases e3 : j + 1 = i
      · exact Or.inr (fun h => e2 ⟨e3, h⟩)
      · exact Or.inl e3
theorem st2_mem {g : Gw} {lv : List Value} {i : Nat} {v : Value} (j : Nat) (w : Value) (h : (st2 lv i v)[j]? = some w) (hn : isNl w = false) : (j, cv g w) ∈ (i, cv g v) :: (prs g lv).filter (fun q => !(q.1 == i) && (!(q.1 == i + 1) && !(q.1 + 1 == i && q.2.category == 2))) := by
  unfold st2 at h
  rw [List.getElem?_mapIdx] at h
  obtain ⟨u, h1, h2⟩ := Option.map_eq_some_iff.mp h
  by_cases e : j = i
  · subst e
    simp at h2
    subst h2
    exact List.mem_cons_self
  · rw [if_neg e] at h2
    by_cases e1 : j = i + 1
    · rw [if_pos e1] at h2
      subst h2
      cases hn
    rw [if_neg e1] at h2
    by_cases e2 : j + 1 = i ∧ u.category = 2
    · rw [if_pos e2] at h2
      subst h2
      cases hn
    · rw [if_neg e2] at h2
      subst h2
      refine List.mem_cons_of_mem _ (List.mem_filter.mpr ⟨prs_mem.mpr ⟨u, h1, hn, rfl⟩, ?_⟩)
      simp only [cv_cat, Bool.and_eq_true, Bool.not_eq_true', beq_eq_false_iff_ne, ne_eq, e, e1, not_false_eq_true, true_and, Bool.and_eq_false_iff]
      by_cases e3 : j + 1 = i
      · exact Or.inr (fun h => e2 ⟨e3, h⟩)
      · exact Or.inl e3
