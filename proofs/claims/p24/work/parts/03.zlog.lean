/-! THE Z LOGIC: a method's walk over abstract cells. An abstract cell is named by a number; 'ad' says at which address it lies. -/
abbrev ZC : Type := (Nat × Nat × (Nat → Int32)) ⊕ ((Nat × List Value) ⊕ (Nat × (Nat → Option Nat)))
def zv (ad : Nat → Nat) (v : Value) : Value := match v with
  | .ref i => .ref (ad i)
  | v => v
def zce (cA : Nat → ClassId) (ad : Nat → Nat) (c : ZC) : va_E := match c with
  | .inl x => .inl (cA x.1, x.2.1, .inl x.2.2)
  | .inr (.inl x) => .inr (x.1, x.2.map (zv ad))
  | .inr (.inr x) => .inl (cA 3, x.1, .inr (.inr (.inr (.inr (fun j => (x.2 j).map ad)))))
def zW (cA : Nat → ClassId) (ad : Nat → Nat) (h : List ZC) : va_W := h.mapIdx (fun i c => (ad i, zce cA ad c))
def zT (cA : Nat → ClassId) : List (ClassId × FieldType) := [(cA 0, .int), (cA 1, .char), (cA 2, .boolean), (cA 3, .object RX0)]
theorem zW_get {cA : Nat → ClassId} {ad : Nat → Nat} {h : List ZC} {i : Nat} {c : ZC} (hi : h[i]? = some c) : (zW cA ad h)[i]? = some (ad i, zce cA ad c) := by
  simp [zW, hi]
theorem zW_inv {cA : Nat → ClassId} {ad : Nat → Nat} {h : List ZC} {i : Nat} {q : Nat × va_E} (hi : (zW cA ad h)[i]? = some q) : ∃ c, h[i]? = some c ∧ q = (ad i, zce cA ad c) := by
  simp only [zW, List.getElem?_mapIdx, Option.map_eq_some_iff] at hi
  obtain ⟨c, h1, h2⟩ := hi
  exact ⟨c, h1, h2.symm⟩
theorem zW_set {cA : Nat → ClassId} {ad : Nat → Nat} {h : List ZC} {i : Nat} (c : ZC) : (zW cA ad h).set i (ad i, zce cA ad c) = zW cA ad (h.set i c) := by
  apply List.ext_getElem?
  intro j
  simp only [zW, List.getElem?_set, List.getElem?_mapIdx, List.length_mapIdx]
  by_cases hj : i = j
  · subst hj
    by_cases hl : i < h.length <;> simp [hl]
  · simp [hj]
def zg {α : Type} : List α → Nat → Option α
  | [], _ => none
  | a :: _, 0 => some a
  | _ :: l, n + 1 => zg l n
theorem zg_eq {α : Type} : ∀ (l : List α) (n : Nat), zg l n = l[n]?
  | [], n => by simp [zg]
  | a :: l, 0 => by simp [zg]
  | a :: l, n + 1 => by simp [zg, zg_eq l n]
/-! locals -/
def zHas (ad : Nat → Nat) (la : Array Slot) (ls : List (Option Value)) : Prop := la.size = ls.length ∧ lv_wf la ∧ ∀ (i : Nat) (v : Value), ls[i]? = some (some v) → la[i]? = some (.val (zv ad v))
def zLs (ad : Nat → Nat) (ls : List (Option Value)) : List (Nat × Value) := ls.zipIdx.filterMap (fun q => q.1.map (fun v => (q.2, zv ad v)))
theorem zLs_mem {ad : Nat → Nat} {ls : List (Option Value)} {q : Nat × Value} : q ∈ zLs ad ls ↔ ∃ v, ls[q.1]? = some (some v) ∧ q.2 = zv ad v := by
  unfold zLs
  rw [List.mem_filterMap]
  constructor
  · rintro ⟨⟨o, i⟩, h1, h2⟩
    rw [List.mem_zipIdx_iff_getElem?] at h1
    cases o with
    | none => simp at h2
    | some v =>
      simp only [Option.map_some, Option.some.injEq] at h2
      subst h2
      exact ⟨v, h1, rfl⟩
  · rintro ⟨v, h1, h2⟩
    refine ⟨(some v, q.1), by rw [List.mem_zipIdx_iff_getElem?]; exact h1, ?_⟩
    simp only [Option.map_some, Option.some.injEq]
    rw [← h2]
theorem zHas_lv {ad : Nat → Nat} {la : Array Slot} {ls : List (Option Value)} (h : zHas ad la ls) : lv_has la ls.length (zLs ad ls) := by
  refine ⟨h.1, h.2.1, fun q hq => ?_⟩
  obtain ⟨v, h1, h2⟩ := zLs_mem.mp hq
  rw [h2]
  exact h.2.2 q.1 v h1
def zkl (ls : List (Option Value)) (i : Nat) : List (Option Value) := match i with
  | 0 => ls
  | j + 1 => match zg ls j with
    | some (some (.long _)) => ls.set j none
    | some (some (.double _)) => ls.set j none
    | _ => ls
def zst (ls : List (Option Value)) (i : Nat) (v : Value) : List (Option Value) := (zkl ls i).set i (some v)
def zst2 (ls : List (Option Value)) (i : Nat) (v : Value) : List (Option Value) := ((zkl ls i).set i (some v)).set (i + 1) none
theorem zkl_len (ls : List (Option Value)) (i : Nat) : (zkl ls i).length = ls.length := by
  cases i with
  | zero => rfl
  | succ j =>
    simp only [zkl]
    split <;> simp
theorem zst_len (ls : List (Option Value)) (i : Nat) (v : Value) : (zst ls i v).length = ls.length := by simp [zst, zkl_len]
theorem zst2_len (ls : List (Option Value)) (i : Nat) (v : Value) : (zst2 ls i v).length = ls.length := by simp [zst2, zkl_len]
theorem zkl_get {ls : List (Option Value)} {i j : Nat} {v : Value} (h : (zkl ls i)[j]? = some (some v)) : ls[j]? = some (some v) ∧ ¬ (j + 1 = i ∧ v.category = 2) := by
  cases i with
  | zero => exact ⟨h, fun q => by omega⟩
  | succ k =>
    simp only [zkl, zg_eq] at h
    split at h
    · rename_i x hx
      by_cases e : k = j
      · subst e
        rw [List.getElem?_set_self (List.getElem?_eq_some_iff.mp hx).1] at h
        simp at h
      · rw [List.getElem?_set_ne e] at h
        exact ⟨h, fun q => e (by omega)⟩
    · rename_i x hx
      by_cases e : k = j
      · subst e
        rw [List.getElem?_set_self (List.getElem?_eq_some_iff.mp hx).1] at h
        simp at h
      · rw [List.getElem?_set_ne e] at h
        exact ⟨h, fun q => e (by omega)⟩
    · rename_i h1 h2
      refine ⟨h, fun q => ?_⟩
      have e : j = k := by omega
      subst e
      cases v with
      | long x => exact h1 _ h
      | double x => exact h2 _ h
      | _ => simp [Value.category] at q
theorem zHas_st {ad : Nat → Nat} {la : Array Slot} {ls : List (Option Value)} {i : Nat} {v : Value}
    (h : lv_has la ls.length ((i, zv ad v) :: (zLs ad ls).filter (fun q => !(q.1 == i) && !(q.1 + 1 == i && q.2.category == 2)))) : zHas ad la (zst ls i v) := by
  refine ⟨by rw [zst_len]; exact h.1, h.2.1, fun j w hj => ?_⟩
  unfold zst at hj
  by_cases e : i = j
  · subst e
    by_cases hl : i < (zkl ls i).length
    · rw [List.getElem?_set_self hl] at hj
      cases hj
      exact h.2.2 (i, zv ad v) List.mem_cons_self
    · rw [List.getElem?_eq_none (by simp; omega)] at hj
      cases hj
  · rw [List.getElem?_set_ne e] at hj
    obtain ⟨h1, h2⟩ := zkl_get hj
    refine h.2.2 (j, zv ad w) (List.mem_cons_of_mem _ (List.mem_filter.mpr ⟨zLs_mem.mpr ⟨w, h1, rfl⟩, ?_⟩))
    have hc : (zv ad w).category = w.category := by cases w <;> rfl
    simp only [Bool.and_eq_true, Bool.not_eq_true', beq_eq_false_iff_ne, ne_eq, Bool.and_eq_false_iff]
    refine ⟨fun q => e q.symm, ?_⟩
    by_cases hh : j + 1 = i
    · right
      rw [hc]
      exact fun q => h2 ⟨hh, q⟩
    · left
      exact hh
theorem zHas_st2 {ad : Nat → Nat} {la : Array Slot} {ls : List (Option Value)} {i : Nat} {v : Value}
    (h : lv_has la ls.length ((i, zv ad v) :: (zLs ad ls).filter (fun q => !(q.1 == i) && (!(q.1 == i + 1) && !(q.1 + 1 == i && q.2.category == 2))))) : zHas ad la (zst2 ls i v) := by
  refine ⟨by rw [zst2_len]; exact h.1, h.2.1, fun j w hj => ?_⟩
  unfold zst2 at hj
  by_cases e2 : i + 1 = j
  · subst e2
    by_cases hl : i + 1 < ((zkl ls i).set i (some v)).length
    · rw [List.getElem?_set_self hl] at hj
      cases hj
    · rw [List.getElem?_eq_none (by simp at hl ⊢; omega)] at hj
      cases hj
  · rw [List.getElem?_set_ne e2] at hj
    by_cases e : i = j
    · subst e
      by_cases hl : i < (zkl ls i).length
      · rw [List.getElem?_set_self hl] at hj
        cases hj
        exact h.2.2 (i, zv ad v) List.mem_cons_self
      · rw [List.getElem?_eq_none (by simp; omega)] at hj
        cases hj
    · rw [List.getElem?_set_ne e] at hj
      obtain ⟨h1, h2⟩ := zkl_get hj
      refine h.2.2 (j, zv ad w) (List.mem_cons_of_mem _ (List.mem_filter.mpr ⟨zLs_mem.mpr ⟨w, h1, rfl⟩, ?_⟩))
      have hc : (zv ad w).category = w.category := by cases w <;> rfl
      simp only [Bool.and_eq_true, Bool.not_eq_true', beq_eq_false_iff_ne, ne_eq, Bool.and_eq_false_iff]
      refine ⟨fun q => e q.symm, fun q => e2 q.symm, ?_⟩
      by_cases hh : j + 1 = i
      · right
        rw [hc]
        exact fun q => h2 ⟨hh, q⟩
      · left
        exact hh
def zmk : List Bool → List (Option Value) → List (Option Value)
  | b :: bs, v :: vs => (match b with | true => v | false => none) :: zmk bs vs
  | _, vs => vs
theorem zmk_len : ∀ (bs : List Bool) (ls : List (Option Value)), (zmk bs ls).length = ls.length
  | [], ls => by cases ls <;> rfl
  | b :: bs, [] => rfl
  | b :: bs, v :: vs => by simp [zmk, zmk_len bs vs]
theorem zmk_get : ∀ (bs : List Bool) (ls : List (Option Value)) (i : Nat) (v : Value), (zmk bs ls)[i]? = some (some v) → ls[i]? = some (some v)
  | [], ls, i, v, h => by cases ls <;> exact h
  | b :: bs, [], i, v, h => h
  | b :: bs, w :: vs, 0, v, h => by
    cases b with
    | true => simpa [zmk] using h
    | false => simp [zmk] at h
  | b :: bs, w :: vs, i + 1, v, h => by
    simp only [zmk, List.getElem?_cons_succ] at h ⊢
    exact zmk_get bs vs i v h
theorem zHas_mk {ad : Nat → Nat} {la : Array Slot} {ls : List (Option Value)} (bs : List Bool) (h : zHas ad la ls) : zHas ad la (zmk bs ls) :=
  ⟨by rw [zmk_len]; exact h.1, h.2.1, fun i v hi => h.2.2 i v (zmk_get bs ls i v hi)⟩
/-- a method's first locals -/
def zargl : List Value → List (Option Value)
  | [] => []
  | .long x :: vs => some (.long x) :: none :: zargl vs
  | .double x :: vs => some (.double x) :: none :: zargl vs
  | v :: vs => some v :: zargl vs
def zarg (nL : Nat) (vs : List Value) : List (Option Value) := zargl vs ++ List.replicate (nL - (zargl vs).length) none
theorem zargl_get {ad : Nat → Nat} : ∀ (vs : List Value) (k i : Nat) (v : Value), (zargl vs)[i]? = some (some v) → (k + i, zv ad v) ∈ lv_args k (vs.map (zv ad))
  | [], k, i, v, h => by simp [zargl] at h
  | w :: vs, k, i, v, h => by
    have hc : (zv ad w).category = w.category := by cases w <;> rfl
    have two : ∀ (_ : w.category = 2) (_ : zargl (w :: vs) = some w :: none :: zargl vs), (k + i, zv ad v) ∈ lv_args k ((w :: vs).map (zv ad)) := by
      intro h2 he
      rw [he] at h
      simp only [List.map_cons, lv_args, hc, h2, if_true]
      match i, h with
      | 0, h => simp at h; subst h; exact List.mem_cons_self
      | 1, h => simp at h
      | i + 2, h =>
        simp only [List.getElem?_cons_succ] at h
        have := zargl_get (ad := ad) vs (k + 2) i v h
        rw [show k + (i + 2) = k + 2 + i by omega]
        exact List.mem_cons_of_mem _ this
    have one : ∀ (_ : ¬ w.category = 2) (_ : zargl (w :: vs) = some w :: zargl vs), (k + i, zv ad v) ∈ lv_args k ((w :: vs).map (zv ad)) := by
      intro h2 he
      rw [he] at h
      simp only [List.map_cons, lv_args, hc, h2, if_false]
      match i, h with
      | 0, h => simp at h; subst h; exact List.mem_cons_self
      | i + 1, h =>
        simp only [List.getElem?_cons_succ] at h
        have := zargl_get (ad := ad) vs (k + 1) i v h
        rw [show k + (i + 1) = k + 1 + i by omega]
        exact List.mem_cons_of_mem _ this
    cases w with
    | long x => exact two rfl rfl
    | double x => exact two rfl rfl
    | int x => exact one (by simp [Value.category]) rfl
    | float x => exact one (by simp [Value.category]) rfl
    | null => exact one (by simp [Value.category]) rfl
    | ref x => exact one (by simp [Value.category]) rfl
    | retAddr x => exact one (by simp [Value.category]) rfl
theorem zsl_cons (v : Value) (vs : List Value) : lg_sl (v :: vs) = (if v.category = 2 then [.val v, .second] else [.val v]) ++ lg_sl vs := rfl
theorem zargl_len (ad : Nat → Nat) : ∀ vs : List Value, (lg_sl (vs.map (zv ad))).length = (zargl vs).length
  | [] => rfl
  | w :: vs => by
    have ih := zargl_len ad vs
    rw [List.map_cons, zsl_cons, List.length_append, ih]
    cases w <;> simp [zargl, zv, Value.category] <;> omega
theorem zHas_arg {ad : Nat → Nat} {vs : List Value} {nL : Nat} (h : (zargl vs).length ≤ nL) :
    zHas ad ((lg_sl (vs.map (zv ad)) ++ List.replicate (nL - (lg_sl (vs.map (zv ad))).length) Slot.unset).toArray) (zarg nL vs) := by
  have e := lv_entry (vs.map (zv ad)) (n := nL) (by rw [zargl_len]; exact h)
  refine ⟨by rw [e.1]; simp [zarg]; omega, e.2.1, fun i v hi => ?_⟩
  unfold zarg at hi
  by_cases hl : i < (zargl vs).length
  · rw [List.getElem?_append_left hl] at hi
    have := e.2.2 _ (zargl_get (ad := ad) vs 0 i v hi)
    simpa using this
  · rw [List.getElem?_append_right (by omega), List.getElem?_replicate] at hi
    split at hi <;> simp at hi
