/-! ===== how both begin to read ===== -/
set_option maxRecDepth 100000 in
theorem nI_surj (x : Int32) : ∃ n, x = nI n := by
  refine ⟨x.toBitVec.toNat, ?_⟩
  unfold nI
  refine Int32.toBitVec_inj.mp ?_
  show x.toBitVec = BitVec.ofNat 32 x.toBitVec.toNat
  rw [BitVec.ofNat_toNat, BitVec.setWidth_eq]
/-- what the class's reading changes -/
def RdF (u u' : Mm) : Prop := mQ u' = mQ u ∧ mK u' = mK u ∧ mR u' = mR u ∧ mL u' = mL u ∧ ∀ a, a < 19 ∨ 28 < a → mI u' a = mI u a
set_option maxRecDepth 100000 in
theorem RdF_trans {u v w : Mm} (h : RdF u v) (k : RdF v w) : RdF u w := ⟨k.1.trans h.1, k.2.1.trans h.2.1, k.2.2.1.trans h.2.2.1, k.2.2.2.1.trans h.2.2.2.1, fun a ha => (k.2.2.2.2 a ha).trans (h.2.2.2.2 a ha)⟩
set_option maxRecDepth 100000 in
theorem RdF_cS {c c' : Mm} {k p L : Nat} {cd wt : Nat → Int32} (h : CrF c c') : RdF c (cS c' k p L cd wt) := by
  refine ⟨h.1, h.2.1, h.2.2.1, h.2.2.2.1, fun a ha => ?_⟩
  rw [← h.2.2.2.2.1 a (by omega) (by omega) (by omega) (by omega)]
  show (if a = 19 then _ else if a = 23 then _ else if a = 24 then cd else if a = 25 then wt else mI c' a) = _
  rw [if_neg (by omega), if_neg (by omega), if_neg (by omega), if_neg (by omega)]
def cIn (u : Mm) (x : Int32) : Mm := wI (wI u 19 (upd (upd (upd (upd (mI u 19) 6 x) 3 0) 4 0) 5 0)) 23 (upd (upd (mI u 23) 2 0) 6 0)
set_option maxRecDepth 100000 in
theorem c_readText {u : Mm} {T : Nat → Int32} {n : Nat} (hS : hSh u) (hu : ∀ i, i < n → mI u 42 i = T i) (hn : n ≤ 400) {q : Bool} {x : Int32} (hx : x = if q = true then 0 else 1) : ∃ cT, fX4_readText u 19 42 (nI n) x = rX4_readText_39 hwF (cS cT 0 0 0 (mI cT 24) (mI cT 25)) 19 1 (nI 0) ∧ LXc (tkOf T n) q cT ∧ mI cT 23 6 = nI 0 ∧ RdF u cT := by
  have hI : hSh (cIn u x) := hS
  have hu' : ∀ i, i < n → mI (cIn u x) 42 i = T i := hu
  have h19 : ∀ f, hSh (wI u 19 f) := fun _ => hS
  have h23 : ∀ f g, hSh (wI (wI u 19 f) 23 g) := fun _ _ => hS
  have k0 : kS (cIn u x) 0 (mI u 20) (mI u 21) (mI u 22) = cIn u x := by
    refine Prod.ext rfl (Prod.ext rfl (Prod.ext (funext fun b => ?_) (Prod.ext rfl rfl)))
    show (if b = 19 then upd (mI (cIn u x) 19) 3 (nI 0) else if b = 20 then mI u 20 else if b = 21 then mI u 21 else if b = 22 then mI u 22 else mI (cIn u x) b) = mI (cIn u x) b
    by_cases a1 : b = 19
    · subst a1; rw [if_pos rfl]; exact upd_id rfl
    · rw [if_neg a1]
      by_cases a2 : b = 20
      · subst a2; rfl
      · rw [if_neg a2]
        by_cases a3 : b = 21
        · subst a3; rfl
        · rw [if_neg a3]
          by_cases a4 : b = 22
          · subst a4; rfl
          · rw [if_neg a4]
  obtain ⟨KK, VV, PP, s1, s2⟩ := c_split (T := T) (c := cIn u x) hI hu' hn (N := 999999 - n) n 0 0 (mI u 20) (mI u 21) (mI u 22) (Nat.zero_le n) (by omega) rfl (Nat.zero_le _) (fun j hj => absurd hj (by omega))
  rw [k0, show 999999 - n + n + 1 = hwF by unfold hwF; omega] at s1
  refine ⟨kS (cIn u x) (tkM T n + 1) KK VV PP, ?_, ⟨hI, fun j hj => s2 j hj, hx⟩, rfl, ?_⟩
  · have e : cS (kS (cIn u x) (tkM T n + 1) KK VV PP) 0 0 0 (mI (kS (cIn u x) (tkM T n + 1) KK VV PP) 24) (mI (kS (cIn u x) (tkM T n + 1) KK VV PP) 25) = kS (cIn u x) (tkM T n + 1) KK VV PP := cS_self rfl rfl rfl
    rw [e]
    have o01 : ∀ {ρ : Type} {X : Option ρ}, oZ x X = X := by
      intro ρ X
      rw [hx]
      cases q
      · exact oZ1
      · exact oZ0
    have ec : wI (wI (wI (wI u 19 (upd (mI u 19) 6 x)) 19 (upd (mI (wI u 19 (upd (mI u 19) 6 x)) 19) 3 0)) 19 (upd (mI (wI (wI u 19 (upd (mI u 19) 6 x)) 19 (upd (mI (wI u 19 (upd (mI u 19) 6 x)) 19) 3 0)) 19) 4 0)) 19 (upd (mI (wI (wI (wI u 19 (upd (mI u 19) 6 x)) 19 (upd (mI (wI u 19 (upd (mI u 19) 6 x)) 19) 3 0)) 19 (upd (mI (wI (wI u 19 (upd (mI u 19) 6 x)) 19 (upd (mI (wI u 19 (upd (mI u 19) 6 x)) 19) 3 0)) 19) 4 0)) 19) 5 0) = wI u 19 (upd (upd (upd (upd (mI u 19) 6 x) 3 0) 4 0) 5 0) := by
      rw [wI_s, wI_s, wI_s]; rfl
    have cl : fX6_clear (wI u 19 (upd (upd (upd (upd (mI u 19) 6 x) 3 0) 4 0) 5 0)) 23 = some ((), cIn u x) := by
      unfold fX6_clear
      rw [oK_of (sh23 (h19 _)), oU_of, oK_of (sh23 (h23 _ _)), oU_of, wI_s]; rfl
    unfold fX4_readText
    rw [oK_of (sh19 hS), o01, oU_of, oK_of (sh19 (h19 _)), oU_of, oK_of (sh19 (show hSh (wI (wI u 19 (upd (mI u 19) 6 x)) 19 (upd (mI (wI u 19 (upd (mI u 19) 6 x)) 19) 3 0)) from hS)), oU_of, oK_of (sh19 (show hSh (wI (wI (wI u 19 (upd (mI u 19) 6 x)) 19 (upd (mI (wI u 19 (upd (mI u 19) 6 x)) 19) 3 0)) 19 (upd (mI (wI (wI u 19 (upd (mI u 19) 6 x)) 19 (upd (mI (wI u 19 (upd (mI u 19) 6 x)) 19) 3 0)) 19) 4 0)) from hS)), oU_of, ec, oK_of (sh19 (h19 _)), rf19_7 (h19 _), oNn_of, oR_of (sh23 (h19 _)), cl, oB_of, oR_of (sh19 hI)]
    unfold fX4_splitTape
    rw [show (0 : Int32) = nI 0 from rfl, s1, oB_of]
  · refine ⟨rfl, rfl, rfl, rfl, fun a ha => ?_⟩
    show (if a = 19 then _ else if a = 20 then KK else if a = 21 then VV else if a = 22 then PP else mI (cIn u x) a) = _
    rw [if_neg (by omega), if_neg (by omega), if_neg (by omega), if_neg (by omega)]
    unfold cIn
    rw [mI_wI, if_neg (by omega), mI_wI, if_neg (by omega)]
/-- what the reference's reading changes -/
def MdF (v v' : Mm) : Prop := mQ v' = mQ v ∧ mK v' = mK v ∧ mR v' = mR v ∧ (∀ a, a ≠ 45 → mL v' a = mL v a) ∧ (∀ a, a ≠ 45 → (a < 55 ∨ 59 < a) → a ≠ 69 → mI v' a = mI v a) ∧ (∀ j, j ∉ [13, 14, 15, 16, 18, 19, 20, 21, 23, 26, 29, 30] → mI v' 45 j = mI v 45 j)
set_option maxRecDepth 100000 in
theorem MdF_trans {u v w : Mm} (h : MdF u v) (k : MdF v w) : MdF u w := ⟨k.1.trans h.1, k.2.1.trans h.2.1, k.2.2.1.trans h.2.2.1, fun a ha => (k.2.2.2.1 a ha).trans (h.2.2.2.1 a ha), fun a h1 h2 h3 => (k.2.2.2.2.1 a h1 h2 h3).trans (h.2.2.2.2.1 a h1 h2 h3), fun j hj => (k.2.2.2.2.2 j hj).trans (h.2.2.2.2.2 j hj)⟩
set_option maxRecDepth 100000 in
theorem MdF_BFr {m m' : Mm} (h : BFr m m') : MdF m m' := ⟨h.1, h.2.1, h.2.2.1, fun a _ => by rw [h.2.2.2.1], fun a h1 h2 h3 => h.2.2.2.2.1 a h1 (by omega) h3, fun j hj => h.2.2.2.2.2 j (fun e => hj (by rw [e]; decide)) (fun e => hj (by rw [e]; decide)) (fun e => hj (by rw [e]; decide))⟩
set_option maxRecDepth 100000 in
theorem MdF_rS {t : Tk} {m : Mm} {k nc nl np no : Nat} {op ar pl pa : Nat → Int32} : MdF m (rS t m k nc nl np no op ar pl pa) := by
  refine ⟨rfl, rfl, rfl, fun a ha => ?_, fun a h1 h2 h3 => ?_, fun j hj => ?_⟩
  · show (if a = 45 then _ else mL m a) = _
    rw [if_neg ha]
  · show (if a = 45 then _ else if a = 56 then op else if a = 57 then ar else if a = 58 then pl else if a = 59 then pa else mI m a) = _
    rw [if_neg h1, if_neg (by omega), if_neg (by omega), if_neg (by omega), if_neg (by omega)]
  · show rF t (mI m 45) k nc nl np no j = _
    unfold rF
    rw [if_neg (fun e => hj (by rw [e]; decide)), if_neg (fun e => hj (by rw [e]; decide)), if_neg (fun e => hj (by rw [e]; decide)), if_neg (fun e => hj (by rw [e]; decide)), if_neg (fun e => hj (by rw [e]; decide)), if_neg (fun e => hj (by rw [e]; decide)), if_neg (fun e => hj (by rw [e]; decide))]
set_option maxRecDepth 100000 in
theorem rS_self {t : Tk} {v : Mm} {k nc nl np no : Nat} (h14 : mI v 45 14 = nI (tS t k)) (h15 : mI v 45 15 = nI (tE t k)) (h16 : mI v 45 16 = tO t k) (h23 : mI v 45 23 = nI nc) (h26 : mI v 45 26 = nI nl) (h29 : mI v 45 29 = nI np) (h30 : mI v 45 30 = nI no) (h17 : mL v 45 17 = tW t k) : rS t v k nc nl np no (mI v 56) (mI v 57) (mI v 58) (mI v 59) = v := by
  refine Prod.ext rfl (Prod.ext rfl (Prod.ext (funext fun b => ?_) (Prod.ext (funext fun b => ?_) rfl)))
  · show (if b = 45 then rF t (mI v 45) k nc nl np no else if b = 56 then mI v 56 else if b = 57 then mI v 57 else if b = 58 then mI v 58 else if b = 59 then mI v 59 else mI v b) = mI v b
    by_cases z : b = 45
    · subst z
      rw [if_pos rfl]
      funext j
      unfold rF
      by_cases c1 : j = 14
      · rw [if_pos c1, c1]; exact h14.symm
      · rw [if_neg c1]
        by_cases c2 : j = 15
        · rw [if_pos c2, c2]; exact h15.symm
        · rw [if_neg c2]
          by_cases c3 : j = 16
          · rw [if_pos c3, c3]; exact h16.symm
          · rw [if_neg c3]
            by_cases c4 : j = 23
            · rw [if_pos c4, c4]; exact h23.symm
            · rw [if_neg c4]
              by_cases c5 : j = 26
              · rw [if_pos c5, c5]; exact h26.symm
              · rw [if_neg c5]
                by_cases c6 : j = 29
                · rw [if_pos c6, c6]; exact h29.symm
                · rw [if_neg c6]
                  by_cases c7 : j = 30
                  · rw [if_pos c7, c7]; exact h30.symm
                  · rw [if_neg c7]
    · rw [if_neg z]
      by_cases c1 : b = 56
      · rw [if_pos c1, c1]
      · rw [if_neg c1]
        by_cases c2 : b = 57
        · rw [if_pos c2, c2]
        · rw [if_neg c2]
          by_cases c3 : b = 58
          · rw [if_pos c3, c3]
          · rw [if_neg c3]
            by_cases c4 : b = 59
            · rw [if_pos c4, c4]
            · rw [if_neg c4]
  · show (if b = 45 then vp_updL (mL v 45) 17 (tW t k) else mL v b) = mL v b
    by_cases z : b = 45
    · subst z
      rw [if_pos rfl]
      funext j
      by_cases y : j = 17
      · subst y; rw [pk_uLs]; exact h17.symm
      · rw [pk_uLn y]
    · rw [if_neg z]
set_option maxRecDepth 100000 in
theorem r_beginText {v : Mm} {T : Nat → Int32} {n : Nat} (h : Tap v T n) {q : Bool} {x : Int32} (hx : x = if q = true then 1 else 0) : ∃ vF np no, fX9_beginText v 45 x = some ((), rS (tkOf T n) vF 0 0 0 np no (mI vF 56) (mI vF 57) (mI vF 58) (mI vF 59)) ∧ MdF v vF ∧ Tap vF T n ∧ mI vF 45 20 = x ∧ mI vF 45 19 = 0 ∧ mI vF 45 18 = -1 ∧ mI vF 45 21 = nI 0 ∧ mI vF 45 13 = mI v 45 13 := by
  have hn := h.2.1
  obtain ⟨a, ha⟩ := nI_surj (mI v 45 14)
  obtain ⟨np, hnp⟩ := nI_surj (mI v 45 29)
  obtain ⟨no, hno⟩ := nI_surj (mI v 45 30)
  have hv : ∀ f, hSh (wI v 45 f) := fun _ => h.1
  have hB : Tap (wI v 45 (upd (upd (upd (upd (mI v 45) 20 x) 15 0) 19 0) 18 (-1))) T n := ⟨h.1, hn, h.2.2.1, h.2.2.2⟩
  have eB : nS (wI v 45 (upd (upd (upd (upd (mI v 45) 20 x) 15 0) 19 0) 18 (-1))) a 0 (mI v 45 16) (mL v 45 17) = wI v 45 (upd (upd (upd (upd (mI v 45) 20 x) 15 0) 19 0) 18 (-1)) := by
    refine Prod.ext rfl (Prod.ext rfl (Prod.ext (funext fun b => ?_) (Prod.ext (funext fun b => ?_) rfl)))
    · show (if b = 45 then (fun j => if j = 14 then nI a else if j = 15 then nI 0 else if j = 16 then mI v 45 16 else upd (upd (upd (upd (mI v 45) 20 x) 15 0) 19 0) 18 (-1) j) else if b = 45 then upd (upd (upd (upd (mI v 45) 20 x) 15 0) 19 0) 18 (-1) else mI v b) = if b = 45 then upd (upd (upd (upd (mI v 45) 20 x) 15 0) 19 0) 18 (-1) else mI v b
      by_cases z : b = 45
      · rw [if_pos z, if_pos z]
        funext j
        by_cases c1 : j = 14
        · subst c1; exact ha.symm
        · by_cases c2 : j = 15
          · subst c2; rfl
          · by_cases c3 : j = 16
            · subst c3; rfl
            · simp only [c1, c2, c3, if_false]
      · rw [if_neg z, if_neg z]
    · show (if b = 45 then vp_updL (mL v 45) 17 (mL v 45 17) else mL v b) = mL v b
      by_cases z : b = 45
      · subst z
        rw [if_pos rfl]
        funext j
        by_cases y : j = 17
        · subst y; rw [pk_uLs]
        · rw [pk_uLn y]
      · rw [if_neg z]
  have nx := r_nextN (a := a) (b := 0) (s := mI v 45 16) (w := mL v 45 17) hB (Nat.zero_le n)
  rw [eB] at nx
  have o01 : ∀ {ρ : Type} {X : Option ρ}, oZ x X = X := by
    intro ρ X
    rw [hx]
    cases q
    · exact oZ0
    · exact oZ1
  have eg : wI (wI (wI (wI v 45 (upd (mI v 45) 20 x)) 45 (upd (mI (wI v 45 (upd (mI v 45) 20 x)) 45) 15 0)) 45 (upd (mI (wI (wI v 45 (upd (mI v 45) 20 x)) 45 (upd (mI (wI v 45 (upd (mI v 45) 20 x)) 45) 15 0)) 45) 19 0)) 45 (upd (mI (wI (wI (wI v 45 (upd (mI v 45) 20 x)) 45 (upd (mI (wI v 45 (upd (mI v 45) 20 x)) 45) 15 0)) 45 (upd (mI (wI (wI v 45 (upd (mI v 45) 20 x)) 45 (upd (mI (wI v 45 (upd (mI v 45) 20 x)) 45) 15 0)) 45) 19 0)) 45) 18 (-1)) = wI v 45 (upd (upd (upd (upd (mI v 45) 20 x) 15 0) 19 0) 18 (-1)) := by
    rw [wI_s, wI_s, wI_s]; rfl
  have bg : fX9_begin (wI v 45 (upd (mI v 45) 20 x)) 45 = some ((), nS (wI v 45 (upd (upd (upd (upd (mI v 45) 20 x) 15 0) 19 0) 18 (-1))) (nxB T n 0) (if nxB T n 0 < n then tokE T n (nxB T n 0) else n) (oAt_ T n (nxB T n 0)) (wAt_ T n (nxB T n 0))) := by
    unfold fX9_begin
    rw [oK_of (sh45 (hv _)), oU_of, oK_of (sh45 (show hSh (wI (wI v 45 (upd (mI v 45) 20 x)) 45 (upd (mI (wI v 45 (upd (mI v 45) 20 x)) 45) 15 0)) from h.1)), oZ0, oU_of, oK_of (sh45 (show hSh (wI (wI (wI v 45 (upd (mI v 45) 20 x)) 45 (upd (mI (wI v 45 (upd (mI v 45) 20 x)) 45) 15 0)) 45 (upd (mI (wI (wI v 45 (upd (mI v 45) 20 x)) 45 (upd (mI (wI v 45 (upd (mI v 45) 20 x)) 45) 15 0)) 45) 19 0)) from h.1)), oU_of, eg, oR_of (sh45 (hv _)), nx, oB_of]
  have hE : ∃ E, E = nS (wI v 45 (upd (upd (upd (upd (mI v 45) 20 x) 15 0) 19 0) 18 (-1))) (nxB T n 0) (if nxB T n 0 < n then tokE T n (nxB T n 0) else n) (oAt_ T n (nxB T n 0)) (wAt_ T n (nxB T n 0)) := ⟨_, rfl⟩
  obtain ⟨E, eE⟩ := hE
  rw [← eE] at bg
  have sE : hSh E := by rw [eE]; exact h.1
  have s1 : ∀ f, hSh (wI E 45 f) := fun _ => sE
  have s2 : ∀ f g, hSh (wI (wI E 45 f) 45 g) := fun _ _ => sE
  have ev : wI (wI (wI E 45 (upd (mI E 45) 21 0)) 45 (upd (mI (wI E 45 (upd (mI E 45) 21 0)) 45) 23 0)) 45 (upd (mI (wI (wI E 45 (upd (mI E 45) 21 0)) 45 (upd (mI (wI E 45 (upd (mI E 45) 21 0)) 45) 23 0)) 45) 26 0) = wI E 45 (upd (upd (upd (mI E 45) 21 0) 23 0) 26 0) := by
    rw [wI_s, wI_s]; rfl
  have E45 : ∀ j, mI E 45 j = if j = 14 then nI (nxB T n 0) else if j = 15 then nI (if nxB T n 0 < n then tokE T n (nxB T n 0) else n) else if j = 16 then oAt_ T n (nxB T n 0) else upd (upd (upd (upd (mI v 45) 20 x) 15 0) 19 0) 18 (-1) j := fun j => by rw [eE]; rfl
  have Ea : ∀ a, a ≠ 45 → mI E a = mI v a := by
    intro a ha
    rw [eE]
    show (if a = 45 then _ else if a = 45 then _ else mI v a) = _
    rw [if_neg ha, if_neg ha]
  have El : ∀ a, a ≠ 45 → mL E a = mL v a := by
    intro a ha
    rw [eE]
    show (if a = 45 then _ else mL v a) = _
    rw [if_neg ha]
  have E17 : mL E 45 17 = wAt_ T n (nxB T n 0) := by rw [eE]; rfl
  refine ⟨wI E 45 (upd (upd (upd (mI E 45) 21 0) 23 0) 26 0), np, no, ?_, ⟨?_, ?_, ?_, fun a ha => El a ha, fun a h1 _ _ => ?_, fun j hj => ?_⟩, ⟨sE, hn, ?_, fun i hi => ?_⟩, ?_, ?_, ?_, ?_, ?_⟩
  · unfold fX9_beginText
    rw [oK_of (sh45 h.1), o01, oU_of, oR_of (sh45 (hv _)), bg, oB_of, oK_of (sh45 sE), oU_of, oK_of (sh45 (s1 _)), oU_of, oK_of (sh45 (s2 _ _)), oU_of, ev]
    refine congrArg (fun z => some ((), z)) (Eq.symm (rS_self (t := tkOf T n) (v := wI E 45 (upd (upd (upd (mI E 45) 21 0) 23 0) 26 0)) (k := 0) (nc := 0) (nl := 0) (np := np) (no := no) ?_ ?_ ?_ rfl rfl ?_ ?_ E17))
    · show mI E 45 14 = _; rw [E45]; rfl
    · show mI E 45 15 = _; rw [E45]; rfl
    · show mI E 45 16 = _; rw [E45]; rfl
    · show mI E 45 29 = _; rw [E45]; exact hnp
    · show mI E 45 30 = _; rw [E45]; exact hno
  · rw [eE]; rfl
  · rw [eE]; rfl
  · rw [eE]; rfl
  · rw [mI_wI, if_neg h1]; exact Ea a h1
  · show upd (upd (upd (mI E 45) 21 0) 23 0) 26 0 j = _
    rw [pk_un (fun e => hj (by rw [e]; decide)), pk_un (fun e => hj (by rw [e]; decide)), pk_un (fun e => hj (by rw [e]; decide)), E45, if_neg (fun e => hj (by rw [e]; decide)), if_neg (fun e => hj (by rw [e]; decide)), if_neg (fun e => hj (by rw [e]; decide)), pk_un (fun e => hj (by rw [e]; decide)), pk_un (fun e => hj (by rw [e]; decide)), pk_un (fun e => hj (by rw [e]; decide)), pk_un (fun e => hj (by rw [e]; decide))]
  · show mI E 45 13 = _; rw [E45]; exact h.2.2.1
  · rw [mI_wI, if_neg (by decide), Ea 54 (by decide)]; exact h.2.2.2 i hi
  · show mI E 45 20 = _; rw [E45]; rfl
  · show mI E 45 19 = _; rw [E45]; rfl
  · show mI E 45 18 = _; rw [E45]; rfl
  · rfl
  · show mI E 45 13 = _; rw [E45]; rfl
