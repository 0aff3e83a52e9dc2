/-! ===== the memory of the two programs: places 0, 1 .. (in the order in which their cells are made), each of a kind and a length; a place's rows of ints, longs, references ===== -/
abbrev Mm : Type := Nat × (Nat → Nat × Nat) × (Nat → Nat → Int32) × (Nat → Nat → Int64) × (Nat → Nat → Option Nat)
def mN (u : Mm) : Nat := u.1
/-- kind and length: kinds 0 .. 9 objects of the classes, 10 int[], 11 long[], 12 boolean[], 13 Book[], 14 Text[], 99 none -/
def mK (u : Mm) (a : Nat) : Nat × Nat := if a < u.1 then u.2.1 a else (99, 0)
def mI (u : Mm) (a : Nat) : Nat → Int32 := u.2.2.1 a
def mL (u : Mm) (a : Nat) : Nat → Int64 := u.2.2.2.1 a
def mR (u : Mm) (a : Nat) : Nat → Option Nat := u.2.2.2.2 a
def wI (u : Mm) (a : Nat) (f : Nat → Int32) : Mm := (u.1, u.2.1, fun b => if b = a then f else u.2.2.1 b, u.2.2.2.1, u.2.2.2.2)
def wL (u : Mm) (a : Nat) (f : Nat → Int64) : Mm := (u.1, u.2.1, u.2.2.1, fun b => if b = a then f else u.2.2.2.1 b, u.2.2.2.2)
def wR (u : Mm) (a : Nat) (f : Nat → Option Nat) : Mm := (u.1, u.2.1, u.2.2.1, u.2.2.2.1, fun b => if b = a then f else u.2.2.2.2 b)
def wN (u : Mm) (k N : Nat) : Mm := (u.1 + 1, fun b => if b = u.1 then (k, N) else u.2.1 b, fun b => if b = u.1 then fun _ => 0 else u.2.2.1 b, fun b => if b = u.1 then fun _ => 0 else u.2.2.2.1 b, fun b => if b = u.1 then fun _ => none else u.2.2.2.2 b)
theorem mN_wI (u : Mm) (a : Nat) (f : Nat → Int32) : mN (wI u a f) = mN u := rfl
theorem mN_wL (u : Mm) (a : Nat) (f : Nat → Int64) : mN (wL u a f) = mN u := rfl
theorem mN_wR (u : Mm) (a : Nat) (f : Nat → Option Nat) : mN (wR u a f) = mN u := rfl
theorem mN_wN (u : Mm) (k N : Nat) : mN (wN u k N) = mN u + 1 := rfl
theorem mK_wI (u : Mm) (a : Nat) (f : Nat → Int32) : mK (wI u a f) = mK u := rfl
theorem mK_wL (u : Mm) (a : Nat) (f : Nat → Int64) : mK (wL u a f) = mK u := rfl
theorem mK_wR (u : Mm) (a : Nat) (f : Nat → Option Nat) : mK (wR u a f) = mK u := rfl
theorem mI_wI (u : Mm) (a : Nat) (f : Nat → Int32) (b : Nat) : mI (wI u a f) b = if b = a then f else mI u b := rfl
theorem mI_wL (u : Mm) (a : Nat) (f : Nat → Int64) : mI (wL u a f) = mI u := rfl
theorem mI_wR (u : Mm) (a : Nat) (f : Nat → Option Nat) : mI (wR u a f) = mI u := rfl
theorem mL_wI (u : Mm) (a : Nat) (f : Nat → Int32) : mL (wI u a f) = mL u := rfl
theorem mL_wL (u : Mm) (a : Nat) (f : Nat → Int64) (b : Nat) : mL (wL u a f) b = if b = a then f else mL u b := rfl
theorem mL_wR (u : Mm) (a : Nat) (f : Nat → Option Nat) : mL (wR u a f) = mL u := rfl
theorem mR_wI (u : Mm) (a : Nat) (f : Nat → Int32) : mR (wI u a f) = mR u := rfl
theorem mR_wL (u : Mm) (a : Nat) (f : Nat → Int64) : mR (wL u a f) = mR u := rfl
theorem mR_wR (u : Mm) (a : Nat) (f : Nat → Option Nat) (b : Nat) : mR (wR u a f) b = if b = a then f else mR u b := rfl
theorem mI_wN (u : Mm) (k N b : Nat) : mI (wN u k N) b = if b = mN u then fun _ => 0 else mI u b := rfl
theorem mL_wN (u : Mm) (k N b : Nat) : mL (wN u k N) b = if b = mN u then fun _ => 0 else mL u b := rfl
theorem mR_wN (u : Mm) (k N b : Nat) : mR (wN u k N) b = if b = mN u then fun _ => none else mR u b := rfl
theorem mK_wN (u : Mm) (k N b : Nat) : mK (wN u k N) b = if b = mN u then (k, N) else mK u b := by
  unfold mK wN mN
  by_cases h : b = u.1
  · simp [h]
  · by_cases h2 : b < u.1
    · simp [h, h2, Nat.lt_succ_of_lt h2]
    · have h3 : ¬ b < u.1 + 1 := by omega
      simp [h, h2, h3]
theorem mK_lt {u : Mm} {a k N : Nat} (h : mK u a = (k, N)) (hk : k ≠ 99) : a < mN u := by
  unfold mK at h
  by_cases h2 : a < u.1
  · exact h2
  · rw [if_neg h2] at h
    cases h
    exact absurd rfl hk
/-! values as the programs have them (a reference is a place) and as the machine has them (an address) -/
def cv (z : Nat) : Value → Value
  | .ref a => .ref (z + a)
  | v => v
theorem cv_cat (z : Nat) (v : Value) : (cv z v).category = v.category := by cases v <;> rfl
theorem cv_rf (z : Nat) (r : Option Nat) : cv z (va_rf r) = va_rf (r.map (fun a => z + a)) := by cases r <;> rfl
abbrev cvp (z : Nat) (q : Nat × Value) : Nat × Value := (q.1, cv z q.2)
theorem cv_args (z : Nat) : ∀ (vs : List Value) (i : Nat), lv_args i (vs.map (cv z)) = (lv_args i vs).map (cvp z)
  | [], _ => rfl
  | v :: vs, i => by
    show (i, cv z v) :: lv_args (if (cv z v).category = 2 then i + 2 else i + 1) (vs.map (cv z)) = (i, cv z v) :: (lv_args (if v.category = 2 then i + 2 else i + 1) vs).map (cvp z)
    rw [cv_cat, cv_args z vs]
theorem cv_lg (z : Nat) (vs : List Value) : (lg_sl (vs.map (cv z))).length = (lg_sl vs).length := by
  induction vs with
  | nil => rfl
  | cons v vs ih =>
    have e : ∀ ws : List Value, ∀ w : Value, lg_sl (w :: ws) = (if w.category = 2 then [.val w, .second] else [.val w]) ++ lg_sl ws := fun ws w => by simp [lg_sl]
    rw [List.map_cons, e, e, List.length_append, List.length_append, ih, cv_cat]
    by_cases h : v.category = 2 <;> simp [h]
theorem cv_sum (z : Nat) (vs : List Value) : ((vs.map (cv z)).map fun v => v.category).sum = (vs.map fun v => v.category).sum := by
  rw [List.map_map]
  congr 1
  apply List.map_congr_left
  intro v _
  exact cv_cat z v
def lget (l : List (Nat × Value)) (i : Nat) : Option Value := (l.find? (fun q => q.1 == i)).map Prod.snd
theorem lget_has {z nL i : Nat} {ls : Array Slot} {l : List (Nat × Value)} {v : Value} (h : lv_has ls nL (l.map (cvp z))) (hi : lget l i = some v) : ls[i]? = some (.val (cv z v)) := by
  unfold lget at hi
  obtain ⟨q, hq, rfl⟩ := Option.map_eq_some_iff.mp hi
  have hm := List.mem_of_find?_eq_some hq
  have hp := List.find?_some hq
  have e : q.1 = i := by simpa using hp
  rw [← e]
  exact h.2.2 (cvp z q) (List.mem_map.mpr ⟨q, hm, rfl⟩)
def lset (l : List (Nat × Value)) (i : Nat) (v : Value) : List (Nat × Value) := (i, v) :: l.filter (fun q => !(q.1 == i) && !(q.1 + 1 == i && q.2.category == 2))
def lset2 (l : List (Nat × Value)) (i : Nat) (v : Value) : List (Nat × Value) := (i, v) :: l.filter (fun q => !(q.1 == i) && (!(q.1 == i + 1) && !(q.1 + 1 == i && q.2.category == 2)))
theorem lset_cv (z : Nat) (l : List (Nat × Value)) (i : Nat) (v : Value) : (i, cv z v) :: (l.map (cvp z)).filter (fun q => !(q.1 == i) && !(q.1 + 1 == i && q.2.category == 2)) = (lset l i v).map (cvp z) := by
  unfold lset
  rw [List.map_cons, List.filter_map]
  congr 2
  apply List.filter_congr
  intro q _
  simp [cv_cat]
theorem lset2_cv (z : Nat) (l : List (Nat × Value)) (i : Nat) (v : Value) : (i, cv z v) :: (l.map (cvp z)).filter (fun q => !(q.1 == i) && (!(q.1 == i + 1) && !(q.1 + 1 == i && q.2.category == 2))) = (lset2 l i v).map (cvp z) := by
  unfold lset2
  rw [List.map_cons, List.filter_map]
  congr 2
  apply List.filter_congr
  intro q _
  simp [cv_cat]
/-! the classes -/
abbrev hwCl : List vw_C := [(RX0, TX0, 16), (RX1, TX1, 1), (RX2, TX2, 3), (RX3, TX3, 4), (RX4, TX4, 8), (RX5, TX5, 2), (RX6, TX6, 7), (RX7, TX7, 2), (RX8, TX8, 19), (RX9, TX9, 54)]
def fT (k : Nat) : Nat → FieldType := match k with
  | 0 => tyX0
  | 1 => tyX1
  | 2 => tyX2
  | 3 => tyX3
  | 4 => tyX4
  | 5 => tyX5
  | 6 => tyX6
  | 7 => tyX7
  | 8 => tyX8
  | _ => tyX9
/-- what a field of a type holds -/
def fvv (ty : FieldType) (x : Int32) (y : Int64) (r : Option Nat) : Value := match ty with
  | .long => .long y
  | .object _ => va_rf r
  | .array _ => va_rf r
  | _ => .int x
/-- what the elements of an array of a kind are -/
def eV (z : Nat) (u : Mm) (i k : Nat) : Nat → Value := fun j => if k = 11 then .long (mL u i j) else if k = 13 ∨ k = 14 then va_rf ((mR u i j).map (fun a => z + a)) else .int (mI u i j)
def oV (z : Nat) (u : Mm) (i k : Nat) : Nat → Value := fun j => fvv (fT k j) (mI u i j) (mL u i j) ((mR u i j).map (fun a => z + a))
abbrev hG : Type := Nat × va_G × (Nat → ClassId) × Nat × Nat
def hAt (g : hG) (u : Mm) (i : Nat) (H : Heap) : Prop :=
  if (mK u i).1 < 10 then t_OB (g.1 + i) (g.2.1.1 (mK u i).1) (mK u i).2 (g.2.1.2 (mK u i).1) H (oV g.1 u i (mK u i).1)
  else H[g.1 + i]? = some (arrV (g.2.2.1 (mK u i).1) (mK u i).2 (eV g.1 u i (mK u i).1))
def Rep (g : hG) (u : Mm) (H : Heap) : Prop := H.size = g.1 + mN u ∧ ∀ i, i < mN u → hAt g u i H
theorem Rep.obj {g : hG} {u : Mm} {H : Heap} {i k N : Nat} (h : Rep g u H) (hk : mK u i = (k, N)) (h10 : k < 10) : t_OB (g.1 + i) (g.2.1.1 k) N (g.2.1.2 k) H (oV g.1 u i k) := by
  have h1 := h.2 i (mK_lt hk (by omega))
  unfold hAt at h1
  rw [hk] at h1
  simpa [h10] using h1
theorem Rep.arr {g : hG} {u : Mm} {H : Heap} {i k N : Nat} (h : Rep g u H) (hk : mK u i = (k, N)) (h10 : ¬ k < 10) (h99 : k ≠ 99) : H[g.1 + i]? = some (arrV (g.2.2.1 k) N (eV g.1 u i k)) := by
  have h1 := h.2 i (mK_lt hk h99)
  unfold hAt at h1
  rw [hk] at h1
  simpa [h10] using h1
theorem hAt.kept {g : hG} {u v : Mm} {i : Nat} {H H1 : Heap} (h : hAt g u i H) (hH : H1[g.1 + i]? = H[g.1 + i]?) (hK : mK v i = mK u i) (hI : mI v i = mI u i) (hL : mL v i = mL u i) (hR : mR v i = mR u i) : hAt g v i H1 := by
  unfold hAt at h ⊢
  rw [hK]
  have e1 : ∀ k, oV g.1 v i k = oV g.1 u i k := fun k => by funext j; unfold oV; rw [hI, hL, hR]
  have e2 : ∀ k, eV g.1 v i k = eV g.1 u i k := fun k => by funext j; unfold eV; rw [hI, hL, hR]
  rw [e1, e2]
  by_cases hk : (mK u i).1 < 10
  · rw [if_pos hk] at h ⊢
    exact h.kept hH
  · rw [if_neg hk] at h ⊢
    rw [hH]
    exact h
/-- one place is written -/
theorem Rep.put {g : hG} {u v : Mm} {H H1 : Heap} {a : Nat} (h : Rep g u H) (hz : H1.size = H.size) (oq : ∀ q, q ≠ g.1 + a → H1[q]? = H[q]?) (hN : mN v = mN u) (ha : hAt g v a H1)
    (hK : ∀ i, i ≠ a → mK v i = mK u i) (hI : ∀ i, i ≠ a → mI v i = mI u i) (hL : ∀ i, i ≠ a → mL v i = mL u i) (hR : ∀ i, i ≠ a → mR v i = mR u i) : Rep g v H1 := by
  refine ⟨by rw [hz, hN]; exact h.1, fun i hi => ?_⟩
  by_cases e : i = a
  · rw [e]; exact ha
  · exact (h.2 i (by rw [← hN]; exact hi)).kept (oq _ (by omega)) (hK i e) (hI i e) (hL i e) (hR i e)
/-- a new place -/
theorem Rep.new {g : hG} {u : Mm} {H H1 : Heap} {k N : Nat} (h : Rep g u H) (hz : H1.size = g.1 + mN u + 1) (oq : ∀ q, q < g.1 + mN u → H1[q]? = H[q]?) (ha : hAt g (wN u k N) (mN u) H1) : Rep g (wN u k N) H1 := by
  refine ⟨by rw [hz, mN_wN]; omega, fun i hi => ?_⟩
  rw [mN_wN] at hi
  by_cases e : i = mN u
  · rw [e]; exact ha
  · have hl : i < mN u := by omega
    exact (h.2 i hl).kept (oq _ (by omega)) (by rw [mK_wN, if_neg e]) (by rw [mI_wN, if_neg e]) (by rw [mL_wN, if_neg e]) (by rw [mR_wN, if_neg e])
