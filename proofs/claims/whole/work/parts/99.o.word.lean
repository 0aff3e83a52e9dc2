/-! words -/
def offs : List Nat := [0, 6, 12, 18, 23, 30, 36, 41, 46, 49, 52, 55, 61, 64, 67, 71, 75, 80, 87, 92, 96, 101, 108, 115, 120, 124, 129, 134, 141]
def oAf (j : Nat) : Nat := offs.getD j 0
def lAf (j : Nat) : Nat := oAf (j + 1) - oAf j - 1
def hwB2 : List Int32 := [114, 101, 97, 100, 115, 32, 99, 111, 115, 116, 115, 32, 102, 101, 101, 100, 115, 32, 98, 97, 114, 115, 32, 97, 116, 116, 97, 99, 107, 32, 115, 104, 105, 102, 116, 32, 115, 104, 111, 119, 32, 112, 97, 115, 115, 32, 97, 116, 32, 98, 121, 32, 116, 111, 32, 116, 105, 109, 101, 115, 32, 105, 102, 32, 111, 114, 32, 97, 110, 100, 32, 110, 111, 116, 32, 115, 105, 100, 101, 32, 99, 111, 108, 117, 109, 110, 32, 108, 105, 110, 101, 32, 109, 101, 110, 32, 102, 111, 101, 115, 32, 115, 117, 112, 112, 108, 121, 32, 116, 101, 109, 112, 101, 114, 32, 115, 105, 103, 110, 32, 100, 97, 121, 32, 109, 111, 111, 100, 32, 100, 111, 110, 101, 32, 108, 97, 116, 101, 115, 116, 32]
set_option maxRecDepth 100000 in
theorem hwBy2 : hwBy = hwB2 := by decide +kernel
def chA (i : Nat) : Int32 := hwB2.getD i 0
set_option maxRecDepth 100000 in
theorem chA_by (i : Nat) : hwBy.getD i 0 = chA i := by rw [hwBy2]; rfl
set_option maxRecDepth 100000 in
theorem nm_ok : ∀ j, j < 28 → (1 ≤ lAf j ∧ lAf j ≤ 10 ∧ oAf j + lAf j + 1 = oAf (j + 1) ∧ oAf (j + 1) ≤ 141 ∧ chA (oAf j + lAf j) = 32) ∧ ∀ i, i < lAf j → ¬ chA (oAf j + i) = 32 ∧ 97 ≤ chA (oAf j + i) ∧ chA (oAf j + i) ≤ 122 := by decide +kernel
abbrev mt (T : Nat → Int32) (a b j : Nat) : Prop := b = a + lAf j ∧ ∀ i, i < lAf j → T (a + i) = chA (oAf j + i)
def enc (T : Nat → Int32) (a : Nat) : Nat → Int64
  | 0 => 0
  | i + 1 => if i < 10 then ((enc T a i * 32) + (Int32.toInt64 (T (a + i)))) - 96 else -1
set_option maxRecDepth 100000 in
theorem enc_s (T : Nat → Int32) (a i : Nat) : enc T a (i + 1) = if i < 10 then ((enc T a i * 32) + (Int32.toInt64 (T (a + i)))) - 96 else -1 := rfl
def eZ (d : Nat → Int) : Nat → Int
  | 0 => 0
  | i + 1 => eZ d i * 32 + d i
set_option maxRecDepth 100000 in
theorem eZ_s (d : Nat → Int) (i : Nat) : eZ d (i + 1) = eZ d i * 32 + d i := rfl
def bdZ : Nat → Int
  | 0 => 1
  | i + 1 => bdZ i * 32
set_option maxRecDepth 100000 in
theorem bdZ_s (i : Nat) : bdZ (i + 1) = bdZ i * 32 := rfl
set_option maxRecDepth 100000 in
theorem bdZ_9 : ∀ i, i < 10 → bdZ i ≤ 35184372088832 := by decide +kernel
set_option maxRecDepth 100000 in
theorem eZ_b {d : Nat → Int} : ∀ i, (∀ j, j < i → 1 ≤ d j ∧ d j ≤ 26) → 0 ≤ eZ d i ∧ eZ d i < bdZ i
  | 0, _ => ⟨Int.le_refl 0, by show (0 : Int) < 1; decide⟩
  | i + 1, h => by
    have ih := eZ_b i (fun j hj => h j (by omega))
    have hd := h i (by omega)
    rw [eZ_s, bdZ_s]
    exact ⟨by omega, by omega⟩
set_option maxRecDepth 100000 in
theorem enc_Z {T : Nat → Int32} {a : Nat} : ∀ i, i ≤ 10 → (∀ j, j < i → srt (T (a + j)) = 1) → (enc T a i).toInt = eZ (fun j => (T (a + j)).toInt - 96) i
  | 0, _, _ => by show (0 : Int64).toInt = 0; decide
  | i + 1, hi, h => by
    have dg : ∀ j, j < i + 1 → 1 ≤ (T (a + j)).toInt - 96 ∧ (T (a + j)).toInt - 96 ≤ 26 := by
      intro j hj
      obtain ⟨d, d1, d2, e⟩ := srt1 (h j hj)
      rw [e, nI_toInt (by omega)]
      omega
    have ih := enc_Z i (by omega) (fun j hj => h j (by omega))
    have b := eZ_b (d := fun j => (T (a + j)).toInt - 96) i (fun j hj => dg j (by omega))
    have p := bdZ_9 i (by omega)
    have hd := dg i (by omega)
    have e32 : (32 : Int64).toInt = 32 := by decide
    have e96 : (96 : Int64).toInt = 96 := by decide
    rw [enc_s, if_pos (by omega), eZ_s, Int64.toInt_sub, Int64.toInt_add, Int64.toInt_mul, ih, Int32.toInt_toInt64, e32, e96]
    rw [Int.bmod_eq_of_le (n := eZ (fun j => (T (a + j)).toInt - 96) i * 32) (by omega) (by omega), Int.bmod_eq_of_le (n := eZ (fun j => (T (a + j)).toInt - 96) i * 32 + _) (by omega) (by omega), Int.bmod_eq_of_le (by omega) (by omega)]
    omega
set_option maxRecDepth 100000 in
theorem enc_long {T : Nat → Int32} {a i : Nat} (h : 10 < i) : enc T a i = -1 := by
  obtain ⟨j, rfl⟩ : ∃ j, i = j + 1 := ⟨i - 1, by omega⟩
  rw [enc_s, if_neg (by omega)]
set_option maxRecDepth 100000 in
/-- equal codes, equal letters -/
theorem eZ_inj {d e : Nat → Int} : ∀ i j, (∀ x, x < i → 1 ≤ d x ∧ d x ≤ 26) → (∀ x, x < j → 1 ≤ e x ∧ e x ≤ 26) → eZ d i = eZ e j → i = j ∧ ∀ x, x < i → d x = e x
  | 0, 0, _, _, _ => ⟨rfl, fun x hx => absurd hx (by omega)⟩
  | 0, j + 1, _, he, h => by
    have b := (eZ_b j (fun x hx => he x (by omega))).1
    have hd := he j (by omega)
    rw [eZ_s] at h
    have h0 : eZ d 0 = 0 := rfl
    omega
  | i + 1, 0, hd, _, h => by
    have b := (eZ_b i (fun x hx => hd x (by omega))).1
    have hd := hd i (by omega)
    rw [eZ_s] at h
    have h0 : eZ e 0 = 0 := rfl
    omega
  | i + 1, j + 1, hd, he, h => by
    have d1 := hd i (by omega)
    have e1 := he j (by omega)
    rw [eZ_s, eZ_s] at h
    obtain ⟨a1, a2⟩ := eZ_inj i j (fun x hx => hd x (by omega)) (fun x hx => he x (by omega)) (by omega)
    refine ⟨by omega, fun x hx => ?_⟩
    by_cases z : x = i
    · subst z; subst a1; omega
    · exact a2 x (by omega)
set_option maxRecDepth 100000 in
theorem wd_Z : ∀ j, j < 28 → (wdc.getD j 0).toInt = eZ (fun i => (chA (oAf j + i)).toInt - 96) (lAf j) := by decide +kernel
set_option maxRecDepth 100000 in
theorem wd_mt1 {T ch : Nat → Int32} {a b l : Nat} (hlen : b - a ≤ 10) (dgc : ∀ i, i < l → 1 ≤ (ch i).toInt - 96 ∧ (ch i).toInt - 96 ≤ 26) (hab : a ≤ b) (h : ∀ i, i < b - a → srt (T (a + i)) = 1) (e2 : (enc T a (b - a)).toInt = eZ (fun i => (ch i).toInt - 96) l) : b = a + l ∧ ∀ i, i < l → T (a + i) = ch i := by
  rw [enc_Z (b - a) hlen h] at e2
  have dT : ∀ x, x < b - a → 1 ≤ (T (a + x)).toInt - 96 ∧ (T (a + x)).toInt - 96 ≤ 26 := by
    intro x hx
    obtain ⟨d, d1, d2, e⟩ := srt1 (h x hx)
    rw [e, nI_toInt (by omega)]
    omega
  obtain ⟨a1, a2⟩ := eZ_inj (d := fun j => (T (a + j)).toInt - 96) (e := fun i => (ch i).toInt - 96) (b - a) l dT dgc e2
  refine ⟨by omega, fun i hi => ?_⟩
  have q : (T (a + i)).toInt - 96 = (ch i).toInt - 96 := a2 i (by omega)
  exact Int32.toInt_inj.mp (by omega)
set_option maxRecDepth 100000 in
theorem wd_mt2 {T ch : Nat → Int32} {a b l : Nat} (hlen : ¬ b - a ≤ 10) (dgc : ∀ i, i < l → 1 ≤ (ch i).toInt - 96 ∧ (ch i).toInt - 96 ≤ 26) : ¬ (enc T a (b - a)).toInt = eZ (fun i => (ch i).toInt - 96) l := by
  intro e2
  have hb : 0 ≤ eZ (fun i => (ch i).toInt - 96) l := (eZ_b l dgc).1
  rw [← e2, enc_long (Nat.lt_of_not_le hlen)] at hb
  exact absurd hb (by decide)
set_option maxRecDepth 100000 in
theorem eZ_cg {d e : Nat → Int} : ∀ i, (∀ x, x < i → d x = e x) → eZ d i = eZ e i
  | 0, _ => rfl
  | i + 1, h => by rw [eZ_s, eZ_s, eZ_cg i (fun x hx => h x (by omega)), h i (by omega)]
set_option maxRecDepth 100000 in
theorem wd_mt3 {T ch : Nat → Int32} {a b l : Nat} (n2 : l ≤ 10) (h : ∀ i, i < b - a → srt (T (a + i)) = 1) (h1 : b = a + l) (h2 : ∀ i, i < l → T (a + i) = ch i) : (enc T a (b - a)).toInt = eZ (fun i => (ch i).toInt - 96) l := by
  have el : b - a = l := by omega
  rw [enc_Z (b - a) (by omega) h, el]
  exact eZ_cg l (fun x hx => by rw [h2 x hx])
set_option maxRecDepth 100000 in
theorem wd_mt0 {T ch : Nat → Int32} {code : Int64} {a b l : Nat} (n2 : l ≤ 10) (dgc : ∀ i, i < l → 1 ≤ (ch i).toInt - 96 ∧ (ch i).toInt - 96 ≤ 26) (hcode : code.toInt = eZ (fun i => (ch i).toInt - 96) l) (hab : a ≤ b) (h : ∀ i, i < b - a → srt (T (a + i)) = 1) : enc T a (b - a) = code ↔ (b = a + l ∧ ∀ i, i < l → T (a + i) = ch i) := by
  constructor
  · intro e
    have e2 := (congrArg Int64.toInt e).trans hcode
    by_cases z : b - a ≤ 10
    · exact wd_mt1 z dgc hab h e2
    · exact absurd e2 (wd_mt2 z dgc)
  · intro hh
    exact Int64.toInt_inj.mp ((wd_mt3 n2 h hh.1 hh.2).trans hcode.symm)
set_option maxRecDepth 100000 in
theorem dg_of {x : Int32} (c1 : 97 ≤ x) (c2 : x ≤ 122) : 1 ≤ x.toInt - 96 ∧ x.toInt - 96 ≤ 26 := by
  rw [Int32.le_iff_toInt_le] at c1 c2
  have e1 : (97 : Int32).toInt = 97 := by decide
  have e2 : (122 : Int32).toInt = 122 := by decide
  omega
set_option maxRecDepth 100000 in
theorem wd_mt {T : Nat → Int32} {a b j : Nat} (hj : j < 28) (hab : a ≤ b) (h : ∀ i, i < b - a → srt (T (a + i)) = 1) : enc T a (b - a) = wdc.getD j 0 ↔ mt T a b j :=
  wd_mt0 (ch := fun i => chA (oAf j + i)) (nm_ok j hj).1.2.1 (fun i hi => dg_of ((nm_ok j hj).2 i hi).2.1 ((nm_ok j hj).2 i hi).2.2) (wd_Z j hj) hab h
def wKg (T : Nat → Int32) (a b : Nat) : Nat → Nat → Int32
  | 0, _ => 284
  | r + 1, j => if mt T a b j then nI (256 + j) else wKg T a b r (j + 1)
