/-! ===== the two readers' states: tokens, the class's reader, the reference's pile ===== -/
/-- how many tokens there are ahead of the end; of each its place, its end, its sort and worth (reference), its kind and value (class) -/
abbrev Tk : Type := Nat × (Nat → Nat) × (Nat → Nat) × (Nat → Int32) × (Nat → Int64) × (Nat → Int32) × (Nat → Int32)
def tM (t : Tk) : Nat := t.1
def tS (t : Tk) : Nat → Nat := t.2.1
def tE (t : Tk) : Nat → Nat := t.2.2.1
def tO (t : Tk) : Nat → Int32 := t.2.2.2.1
def tW (t : Tk) : Nat → Int64 := t.2.2.2.2.1
def tK (t : Tk) : Nat → Int32 := t.2.2.2.2.2.1
def tV (t : Tk) : Nat → Int32 := t.2.2.2.2.2.2
def cS (c : Mm) (k p L : Nat) (cd wt : Nat → Int32) : Mm := (c.1, c.2.1, fun b => if b = 19 then upd (upd (c.2.2.1 19) 4 (nI k)) 5 (nI p) else if b = 23 then upd (c.2.2.1 23) 2 (nI L) else if b = 24 then cd else if b = 25 then wt else c.2.2.1 b, c.2.2.2.1, c.2.2.2.2)
def rF (t : Tk) (f : Nat → Int32) (k nc nl np no : Nat) : Nat → Int32 := fun j => if j = 14 then nI (tS t k) else if j = 15 then nI (tE t k) else if j = 16 then tO t k else if j = 23 then nI nc else if j = 26 then nI nl else if j = 29 then nI np else if j = 30 then nI no else f j
def rS (t : Tk) (m : Mm) (k nc nl np no : Nat) (op ar pl pa : Nat → Int32) : Mm := (m.1, m.2.1, fun b => if b = 45 then rF t (m.2.2.1 45) k nc nl np no else if b = 56 then op else if b = 57 then ar else if b = 58 then pl else if b = 59 then pa else m.2.2.1 b, fun b => if b = 45 then vp_updL (m.2.2.2.1 45) 17 (tW t k) else m.2.2.2.1 b, m.2.2.2.2)
section
variable {t : Tk} {c m : Mm} {k p L nc nl np no : Nat} {cd wt op ar pl pa g : Nat → Int32}
set_option maxRecDepth 100000 in
theorem cS_here {k' : Nat} : wI (cS c k p L cd wt) 19 (upd (mI (cS c k p L cd wt) 19) 4 (nI k')) = cS c k' p L cd wt := by
  refine Prod.ext rfl (Prod.ext rfl (Prod.ext (funext fun b => ?_) (Prod.ext rfl rfl)))
  show (if b = 19 then upd (upd (upd (c.2.2.1 19) 4 (nI k)) 5 (nI p)) 4 (nI k') else if b = 19 then upd (upd (c.2.2.1 19) 4 (nI k)) 5 (nI p) else if b = 23 then upd (c.2.2.1 23) 2 (nI L) else if b = 24 then cd else if b = 25 then wt else c.2.2.1 b) = if b = 19 then upd (upd (c.2.2.1 19) 4 (nI k')) 5 (nI p) else if b = 23 then upd (c.2.2.1 23) 2 (nI L) else if b = 24 then cd else if b = 25 then wt else c.2.2.1 b
  by_cases h : b = 19
  · rw [if_pos h, if_pos h, upd_c (show (5 : Nat) ≠ 4 by decide), upd_s]
  · rw [if_neg h, if_neg h, if_neg h]
set_option maxRecDepth 100000 in
theorem cS_parts {p' : Nat} : wI (cS c k p L cd wt) 19 (upd (mI (cS c k p L cd wt) 19) 5 (nI p')) = cS c k p' L cd wt := by
  refine Prod.ext rfl (Prod.ext rfl (Prod.ext (funext fun b => ?_) (Prod.ext rfl rfl)))
  show (if b = 19 then upd (upd (upd (c.2.2.1 19) 4 (nI k)) 5 (nI p)) 5 (nI p') else if b = 19 then upd (upd (c.2.2.1 19) 4 (nI k)) 5 (nI p) else if b = 23 then upd (c.2.2.1 23) 2 (nI L) else if b = 24 then cd else if b = 25 then wt else c.2.2.1 b) = if b = 19 then upd (upd (c.2.2.1 19) 4 (nI k)) 5 (nI p') else if b = 23 then upd (c.2.2.1 23) 2 (nI L) else if b = 24 then cd else if b = 25 then wt else c.2.2.1 b
  by_cases h : b = 19
  · rw [if_pos h, if_pos h, upd_s]
  · rw [if_neg h, if_neg h, if_neg h]
set_option maxRecDepth 100000 in
theorem cS_len {L' : Nat} : wI (cS c k p L cd wt) 23 (upd (mI (cS c k p L cd wt) 23) 2 (nI L')) = cS c k p L' cd wt := by
  refine Prod.ext rfl (Prod.ext rfl (Prod.ext (funext fun b => ?_) (Prod.ext rfl rfl)))
  show (if b = 23 then upd (upd (c.2.2.1 23) 2 (nI L)) 2 (nI L') else if b = 19 then upd (upd (c.2.2.1 19) 4 (nI k)) 5 (nI p) else if b = 23 then upd (c.2.2.1 23) 2 (nI L) else if b = 24 then cd else if b = 25 then wt else c.2.2.1 b) = if b = 19 then upd (upd (c.2.2.1 19) 4 (nI k)) 5 (nI p) else if b = 23 then upd (c.2.2.1 23) 2 (nI L') else if b = 24 then cd else if b = 25 then wt else c.2.2.1 b
  by_cases h : b = 23
  · subst h; rw [if_pos rfl, if_neg (by decide), if_pos rfl, upd_s]
  · rw [if_neg h, if_neg h, if_neg h]
set_option maxRecDepth 100000 in
theorem cS_cd : wI (cS c k p L cd wt) 24 g = cS c k p L g wt := by
  refine Prod.ext rfl (Prod.ext rfl (Prod.ext (funext fun b => ?_) (Prod.ext rfl rfl)))
  show (if b = 24 then g else if b = 19 then upd (upd (c.2.2.1 19) 4 (nI k)) 5 (nI p) else if b = 23 then upd (c.2.2.1 23) 2 (nI L) else if b = 24 then cd else if b = 25 then wt else c.2.2.1 b) = if b = 19 then upd (upd (c.2.2.1 19) 4 (nI k)) 5 (nI p) else if b = 23 then upd (c.2.2.1 23) 2 (nI L) else if b = 24 then g else if b = 25 then wt else c.2.2.1 b
  by_cases h : b = 24
  · subst h; rfl
  · rw [if_neg h, if_neg h, if_neg h]
set_option maxRecDepth 100000 in
theorem cS_wt : wI (cS c k p L cd wt) 25 g = cS c k p L cd g := by
  refine Prod.ext rfl (Prod.ext rfl (Prod.ext (funext fun b => ?_) (Prod.ext rfl rfl)))
  show (if b = 25 then g else if b = 19 then upd (upd (c.2.2.1 19) 4 (nI k)) 5 (nI p) else if b = 23 then upd (c.2.2.1 23) 2 (nI L) else if b = 24 then cd else if b = 25 then wt else c.2.2.1 b) = if b = 19 then upd (upd (c.2.2.1 19) 4 (nI k)) 5 (nI p) else if b = 23 then upd (c.2.2.1 23) 2 (nI L) else if b = 24 then cd else if b = 25 then g else c.2.2.1 b
  by_cases h : b = 25
  · subst h; rfl
  · rw [if_neg h, if_neg h, if_neg h]
set_option maxRecDepth 100000 in
theorem cS_self (h4 : mI c 19 4 = nI k) (h5 : mI c 19 5 = nI p) (h2 : mI c 23 2 = nI L) : cS c k p L (mI c 24) (mI c 25) = c := by
  refine Prod.ext rfl (Prod.ext rfl (Prod.ext (funext fun b => ?_) (Prod.ext rfl rfl)))
  show (if b = 19 then upd (upd (c.2.2.1 19) 4 (nI k)) 5 (nI p) else if b = 23 then upd (c.2.2.1 23) 2 (nI L) else if b = 24 then mI c 24 else if b = 25 then mI c 25 else c.2.2.1 b) = c.2.2.1 b
  by_cases a1 : b = 19
  · subst a1; rw [if_pos rfl, upd_id (f := c.2.2.1 19) h4, upd_id (f := c.2.2.1 19) h5]
  · rw [if_neg a1]
    by_cases a2 : b = 23
    · subst a2; rw [if_pos rfl, upd_id (f := c.2.2.1 23) h2]
    · rw [if_neg a2]
      by_cases a3 : b = 24
      · subst a3; rw [if_pos rfl]; rfl
      · rw [if_neg a3]
        by_cases a4 : b = 25
        · subst a4; rw [if_pos rfl]; rfl
        · rw [if_neg a4]
set_option maxRecDepth 100000 in
/-- at 45 another row of the same kind is written -/
theorem rS_g {nc' nl' np' no' : Nat} (h : ∀ j, g j = rF t (m.2.2.1 45) k nc' nl' np' no' j) : wI (rS t m k nc nl np no op ar pl pa) 45 g = rS t m k nc' nl' np' no' op ar pl pa := by
  refine Prod.ext rfl (Prod.ext rfl (Prod.ext (funext fun b => ?_) (Prod.ext rfl rfl)))
  show (if b = 45 then g else if b = 45 then rF t (m.2.2.1 45) k nc nl np no else if b = 56 then op else if b = 57 then ar else if b = 58 then pl else if b = 59 then pa else m.2.2.1 b) = if b = 45 then rF t (m.2.2.1 45) k nc' nl' np' no' else if b = 56 then op else if b = 57 then ar else if b = 58 then pl else if b = 59 then pa else m.2.2.1 b
  by_cases a : b = 45
  · rw [if_pos a, if_pos a]; funext j; exact h j
  · rw [if_neg a, if_neg a, if_neg a]
set_option maxRecDepth 100000 in
theorem rS_nc {x : Nat} : wI (rS t m k nc nl np no op ar pl pa) 45 (upd (mI (rS t m k nc nl np no op ar pl pa) 45) 23 (nI x)) = rS t m k x nl np no op ar pl pa := by
  refine rS_g (fun j => ?_)
  show (if j = 23 then nI x else rF t (m.2.2.1 45) k nc nl np no j) = _
  unfold rF
  by_cases h : j = 23
  · subst h; rfl
  · simp only [h, if_false]
set_option maxRecDepth 100000 in
theorem rS_nl {x : Nat} : wI (rS t m k nc nl np no op ar pl pa) 45 (upd (mI (rS t m k nc nl np no op ar pl pa) 45) 26 (nI x)) = rS t m k nc x np no op ar pl pa := by
  refine rS_g (fun j => ?_)
  show (if j = 26 then nI x else rF t (m.2.2.1 45) k nc nl np no j) = _
  unfold rF
  by_cases h : j = 26
  · subst h; rfl
  · simp only [h, if_false]
set_option maxRecDepth 100000 in
theorem rS_np {x : Nat} : wI (rS t m k nc nl np no op ar pl pa) 45 (upd (mI (rS t m k nc nl np no op ar pl pa) 45) 29 (nI x)) = rS t m k nc nl x no op ar pl pa := by
  refine rS_g (fun j => ?_)
  show (if j = 29 then nI x else rF t (m.2.2.1 45) k nc nl np no j) = _
  unfold rF
  by_cases h : j = 29
  · subst h; rfl
  · simp only [h, if_false]
set_option maxRecDepth 100000 in
theorem rS_no {x : Nat} : wI (rS t m k nc nl np no op ar pl pa) 45 (upd (mI (rS t m k nc nl np no op ar pl pa) 45) 30 (nI x)) = rS t m k nc nl np x op ar pl pa := by
  refine rS_g (fun j => ?_)
  show (if j = 30 then nI x else rF t (m.2.2.1 45) k nc nl np no j) = _
  unfold rF
  by_cases h : j = 30
  · subst h; rfl
  · simp only [h, if_false]
set_option maxRecDepth 100000 in
theorem rS_op : wI (rS t m k nc nl np no op ar pl pa) 56 g = rS t m k nc nl np no g ar pl pa := by
  refine Prod.ext rfl (Prod.ext rfl (Prod.ext (funext fun b => ?_) (Prod.ext rfl rfl)))
  show (if b = 56 then g else if b = 45 then rF t (m.2.2.1 45) k nc nl np no else if b = 56 then op else if b = 57 then ar else if b = 58 then pl else if b = 59 then pa else m.2.2.1 b) = if b = 45 then rF t (m.2.2.1 45) k nc nl np no else if b = 56 then g else if b = 57 then ar else if b = 58 then pl else if b = 59 then pa else m.2.2.1 b
  by_cases h : b = 56
  · subst h; rfl
  · rw [if_neg h, if_neg h, if_neg h]
set_option maxRecDepth 100000 in
theorem rS_ar : wI (rS t m k nc nl np no op ar pl pa) 57 g = rS t m k nc nl np no op g pl pa := by
  refine Prod.ext rfl (Prod.ext rfl (Prod.ext (funext fun b => ?_) (Prod.ext rfl rfl)))
  show (if b = 57 then g else if b = 45 then rF t (m.2.2.1 45) k nc nl np no else if b = 56 then op else if b = 57 then ar else if b = 58 then pl else if b = 59 then pa else m.2.2.1 b) = if b = 45 then rF t (m.2.2.1 45) k nc nl np no else if b = 56 then op else if b = 57 then g else if b = 58 then pl else if b = 59 then pa else m.2.2.1 b
  by_cases h : b = 57
  · subst h; rfl
  · rw [if_neg h, if_neg h, if_neg h]
set_option maxRecDepth 100000 in
theorem rS_pl : wI (rS t m k nc nl np no op ar pl pa) 58 g = rS t m k nc nl np no op ar g pa := by
  refine Prod.ext rfl (Prod.ext rfl (Prod.ext (funext fun b => ?_) (Prod.ext rfl rfl)))
  show (if b = 58 then g else if b = 45 then rF t (m.2.2.1 45) k nc nl np no else if b = 56 then op else if b = 57 then ar else if b = 58 then pl else if b = 59 then pa else m.2.2.1 b) = if b = 45 then rF t (m.2.2.1 45) k nc nl np no else if b = 56 then op else if b = 57 then ar else if b = 58 then g else if b = 59 then pa else m.2.2.1 b
  by_cases h : b = 58
  · subst h; rfl
  · rw [if_neg h, if_neg h, if_neg h]
set_option maxRecDepth 100000 in
theorem rS_pa : wI (rS t m k nc nl np no op ar pl pa) 59 g = rS t m k nc nl np no op ar pl g := by
  refine Prod.ext rfl (Prod.ext rfl (Prod.ext (funext fun b => ?_) (Prod.ext rfl rfl)))
  show (if b = 59 then g else if b = 45 then rF t (m.2.2.1 45) k nc nl np no else if b = 56 then op else if b = 57 then ar else if b = 58 then pl else if b = 59 then pa else m.2.2.1 b) = if b = 45 then rF t (m.2.2.1 45) k nc nl np no else if b = 56 then op else if b = 57 then ar else if b = 58 then pl else if b = 59 then g else m.2.2.1 b
  by_cases h : b = 59
  · subst h; rfl
  · rw [if_neg h, if_neg h, if_neg h]
/-- the reference has found a fault -/
def mB (t : Tk) (m : Mm) (k : Nat) : Mm := wI m 45 (upd (upd (mI m 45) 19 1) 18 (nI (tS t k)))
set_option maxRecDepth 100000 in
theorem rS_bad : wI (wI (rS t m k nc nl np no op ar pl pa) 45 (upd (mI (rS t m k nc nl np no op ar pl pa) 45) 19 1)) 45 (upd (upd (mI (rS t m k nc nl np no op ar pl pa) 45) 19 1) 18 (nI (tS t k))) = rS t (mB t m k) k nc nl np no op ar pl pa := by
  rw [wI_s]
  refine Prod.ext rfl (Prod.ext rfl (Prod.ext (funext fun b => ?_) (Prod.ext rfl rfl)))
  show (if b = 45 then upd (upd (rF t (m.2.2.1 45) k nc nl np no) 19 1) 18 (nI (tS t k)) else if b = 45 then rF t (m.2.2.1 45) k nc nl np no else if b = 56 then op else if b = 57 then ar else if b = 58 then pl else if b = 59 then pa else m.2.2.1 b) = if b = 45 then rF t (upd (upd (mI m 45) 19 1) 18 (nI (tS t k))) k nc nl np no else if b = 56 then op else if b = 57 then ar else if b = 58 then pl else if b = 59 then pa else if b = 45 then upd (upd (mI m 45) 19 1) 18 (nI (tS t k)) else m.2.2.1 b
  by_cases a : b = 45
  · rw [if_pos a, if_pos a]
    funext j
    by_cases h1 : j = 18
    · subst h1; rfl
    · by_cases h2 : j = 19
      · subst h2; rfl
      · rw [pk_un h1, pk_un h2]
        unfold rF
        rw [pk_un h1, pk_un h2]
        rfl
  · rw [if_neg a, if_neg a, if_neg a, if_neg a]
end
