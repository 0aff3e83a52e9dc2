/-! ===== the law, open in the relation that keeps the two in step ===== -/
def hwS_0 (Rel : Mm → Prop) : Prop := ∀ (x1 : Int32) (x2 : Int32) (x3 : Int32), hwS Rel (fun u => fX8_men u 0 x1 x2 x3) (fun u => fX9_men u 45 x1 x2 x3)
def hwS_1 (Rel : Mm → Prop) : Prop := ∀ (x1 : Int32) (x2 : Int32), hwS Rel (fun u => fX8_at u 0 x1 x2) (fun u => fX9_at u 45 x1 x2)
def hwS_2 (Rel : Mm → Prop) : Prop := ∀ (x1 : Int32) (x2 : Int32), hwS Rel (fun u => fX8_of u 0 x1 x2) (fun u => fX9_of u 45 x1 x2)
def hwS_3 (Rel : Mm → Prop) : Prop := ∀ (x1 : Int32) (x2 : Int32) (x3 : Int32) (x4 : Int32), hwS Rel (fun u => fX8_sign u 0 x1 x2 x3 x4) (fun u => fX9_sign u 45 x1 x2 x3 x4)
def hwS_4 (Rel : Mm → Prop) : Prop := ∀ (x1 : Int32) (x2 : Int32) (x3 : Int32), hwS Rel (fun u => fX8_reads u 0 x1 x2 x3) (fun u => fX9_reads u 45 x1 x2 x3)
def hwS_5 (Rel : Mm → Prop) : Prop := ∀ (x1 : Int32) (x2 : Int32) (x3 : Int32) (x4 : Int32), hwS Rel (fun u => fX8_word u 0 x1 x2 x3 x4) (fun u => fX9_word u 45 x1 x2 x3 x4)
def hwS_6 (Rel : Mm → Prop) : Prop := ∀ (x1 : Int32) (x2 : Int32), hwS Rel (fun u => fX8_terms u 0 x1 x2) (fun u => fX9_terms u 45 x1 x2)
def hwS_7 (Rel : Mm → Prop) : Prop := ∀ (x1 : Int32) (x2 : Int32) (x3 : Int32) (x4 : Int32) (x5 : Int32), hwS Rel (fun u => fX8_feed u 0 x1 x2 x3 x4 x5) (fun u => fX9_feed u 45 x1 x2 x3 x4 x5)
def hwS_8 (Rel : Mm → Prop) : Prop := ∀ (x1 : Int32), hwS Rel (fun u => fX8_end u 0 x1) (fun u => fX9_end u 45 x1)
def hwS_9 (Rel : Mm → Prop) : Prop := hwS Rel (fun u => fX8_row u 0) (fun u => fX9_row u 45)
def hwS_10 (Rel : Mm → Prop) : Prop := hwS Rel (fun u => fX8_strokes u 0) (fun u => fX9_strokes u 45)
def hwS_11 (Rel : Mm → Prop) : Prop := hwS Rel (fun u => fX8_law u 0) (fun u => fX9_law u 45)
def hwS_12 (Rel : Mm → Prop) : Prop := hwS Rel (fun u => fX8_orders u 0) (fun u => fX9_orders u 45)
def hwS_13 (Rel : Mm → Prop) : Prop := hwS Rel (fun u => fX8_fault u 0) (fun u => fX9_fault u 45)
def hwS_14 (Rel : Mm → Prop) : Prop := hwS Rel (fun u => fX8_stopped u 0) (fun u => fX9_stopped u 45)
def hwS_15 (Rel : Mm → Prop) : Prop := ∀ (x1 : Int32), hwS Rel (fun u => fX8_force u 0 x1) (fun u => fX9_force u 45 x1)
def hwS_16 (Rel : Mm → Prop) : Prop := ∀ (x1 : Int32) (x2 : Int32), hwS Rel (fun u => fX8_attack u 0 x1 x2) (fun u => fX9_attack u 45 x1 x2)
def hwS_17 (Rel : Mm → Prop) : Prop := ∀ (x1 : Int32) (x2 : Int32) (x3 : Int32), hwS Rel (fun u => fX8_shift u 0 x1 x2 x3) (fun u => fX9_shift u 45 x1 x2 x3)
def hwS_18 (Rel : Mm → Prop) : Prop := ∀ (x1 : Int32) (x2 : Int32), hwS Rel (fun u => fX8_show u 0 x1 x2) (fun u => fX9_show u 45 x1 x2)
def hwS_19 (Rel : Mm → Prop) : Prop := hwS Rel (fun u => fX8_pass u 0) (fun u => fX9_pass u 45)
def hwS_20 (Rel : Mm → Prop) : Prop := hwS Rel (fun u => fX8_undo u 0) (fun u => fX9_undo u 45)
def hwS_21 (Rel : Mm → Prop) : Prop := ∀ (x1 : Int32), hwS Rel (fun u => fX8_treaty u 0 x1) (fun u => fX9_treaty u 45 x1)
def hwS_22 (Rel : Mm → Prop) : Prop := ∀ (x1 : Int32) (x2 : Int32), hwS Rel (fun u => fX8_hear u 0 x1 x2) (fun u => fX9_hear u 45 x1 x2)
def hwS_23 (Rel : Mm → Prop) : Prop := ∀ (x1 : Int32) (x2 : Int32), hwS Rel (fun u => fX8_tell u 0 x1 x2) (fun u => fX9_tell u 45 x1 x2)
def hwS_24 (Rel : Mm → Prop) : Prop := hwS Rel (fun u => fX8_forget u 0) (fun u => fX9_forget u 45)
def hwS_25 (Rel : Mm → Prop) : Prop := hwS Rel (fun u => fX8_probably u 0) (fun u => fX9_probably u 45)
def hwS_26 (Rel : Mm → Prop) : Prop := ∀ (x1 : Int32), hwS Rel (fun u => fX8_ask u 0 x1) (fun u => fX9_ask u 45 x1)
def hwS_27 (Rel : Mm → Prop) : Prop := ∀ (x1 : Int32) (x2 : Int32) (x3 : Int32), hwS Rel (fun u => fX8_chain u 0 x1 x2 x3) (fun u => fX9_chain u 45 x1 x2 x3)
def hwS_28 (Rel : Mm → Prop) : Prop := ∀ (x1 : Int32), hwS Rel (fun u => fX8_stilled u 0 x1) (fun u => fX9_stilled u 45 x1)
def hwS_29 (Rel : Mm → Prop) : Prop := ∀ (x1 : Int32) (x2 : Int32), hwS Rel (fun u => fX8_pushed u 0 x1 x2) (fun u => fX9_pushed u 45 x1 x2)
def hwS_30 (Rel : Mm → Prop) : Prop := ∀ (x1 : Int32), hwS Rel (fun u => fX8_level u 0 x1) (fun u => fX9_level u 45 x1)
def hwS_31 (Rel : Mm → Prop) : Prop := ∀ (x1 : Int32) (x2 : Int32), hwS Rel (fun u => fX8_posts u 0 x1 x2) (fun u => fX9_posts u 45 x1 x2)
def hwS_32 (Rel : Mm → Prop) : Prop := ∀ (x1 : Int32) (x2 : Int32) (x3 : Int32) (x4 : Int32), hwS Rel (fun u => fX8_way u 0 x1 x2 x3 x4) (fun u => fX9_way u 45 x1 x2 x3 x4)
def hwS_33 (Rel : Mm → Prop) : Prop := ∀ (x1 : Int32), hwS Rel (fun u => fX8_holds u 0 x1) (fun u => fX9_holds u 45 x1)
def hwS_34 (Rel : Mm → Prop) : Prop := hwS Rel (fun u => fX8_which u 0) (fun u => fX9_which u 45)
def hwS_35 (Rel : Mm → Prop) : Prop := ∀ (x1 : Int32), hwS Rel (fun u => fX8_compare u 0 x1) (fun u => fX9_compare u 45 x1)
def hwS_36 (Rel : Mm → Prop) : Prop := ∀ (x1 : Int32) (x2 : Int32), hwS Rel (fun u => fX8_decades u 0 x1 x2) (fun u => fX9_decades u 45 x1 x2)
def hwS_37 (Rel : Mm → Prop) : Prop := ∀ (x1 : Int32) (x2 : Int32), hwS Rel (fun u => fX8_drawn u 0 x1 x2) (fun u => fX9_drawn u 45 x1 x2)
def hwS_38 (Rel : Mm → Prop) : Prop := ∀ (x1 : Int32), hwS Rel (fun u => fX8_image u 0 x1) (fun u => fX9_image u 45 x1)
def hwS_39 (Rel : Mm → Prop) : Prop := ∀ (x1 : Int32), hwS Rel (fun u => fX8_back u 0 x1) (fun u => fX9_back u 45 x1)
def hwS_40 (Rel : Mm → Prop) : Prop := ∀ (x1 : Int32), hwS Rel (fun u => fX8_count u 0 x1) (fun u => fX9_count u 45 x1)
def hwS_41 (Rel : Mm → Prop) : Prop := hwS Rel (fun u => fX8_status u 0) (fun u => fX9_status u 45)
/-- all that is asked of the relation: its first state, and each call -/
def hwU0 : Mm := (0, fun _ => (99, 0), fun _ _ => 0, fun _ _ => 0, fun _ _ => none)
def hwInit (Rel : Mm → Prop) : Prop := ∃ u1 u2, fX8_init (wN hwU0 8 19) 0 = some ((), u1) ∧ mN u1 = 45 ∧ fX9_init (wN u1 9 54) 45 = some ((), u2) ∧ Rel u2
def hwAll (Rel : Mm → Prop) : Prop := hwS_0 Rel ∧ hwS_1 Rel ∧ hwS_2 Rel ∧ hwS_3 Rel ∧ hwS_4 Rel ∧ hwS_5 Rel ∧ hwS_6 Rel ∧ hwS_7 Rel ∧ hwS_8 Rel ∧ hwS_9 Rel ∧ hwS_10 Rel ∧ hwS_11 Rel ∧ hwS_12 Rel ∧ hwS_13 Rel ∧ hwS_14 Rel ∧ hwS_15 Rel ∧ hwS_16 Rel ∧ hwS_17 Rel ∧ hwS_18 Rel ∧ hwS_19 Rel ∧ hwS_20 Rel ∧ hwS_21 Rel ∧ hwS_22 Rel ∧ hwS_23 Rel ∧ hwS_24 Rel ∧ hwS_25 Rel ∧ hwS_26 Rel ∧ hwS_27 Rel ∧ hwS_28 Rel ∧ hwS_29 Rel ∧ hwS_30 Rel ∧ hwS_31 Rel ∧ hwS_32 Rel ∧ hwS_33 Rel ∧ hwS_34 Rel ∧ hwS_35 Rel ∧ hwS_36 Rel ∧ hwS_37 Rel ∧ hwS_38 Rel ∧ hwS_39 Rel ∧ hwS_40 Rel ∧ hwS_41 Rel
section LAWL
variable {p : Program} {lch : Launch} {e : Env} {s : State} {m : MethodId} {b : Nat} {below : List Frame} {meth : Method} {c : Code} {g : hG} {L : Nat} {xs : Nat → Int32}
theorem nI6 (k j : Nat) (v : Int32) (hv : v = nI j) : nI (6 * k) + v = nI (6 * k + j) := by rw [hv, nI_add]
set_option maxRecDepth 100000 in
set_option maxHeartbeats 4000000 in
theorem law_loop {Rel : Mm → Prop} (hR0 : ∀ u, Rel u → (mK u 0).1 = 8) (hall : hwAll Rel) (A : lAmb p s m #[Value.ref b] meth c g b L xs) : ∀ (n k : Nat), L < 6 * k + 6 * n → k ≤ 512 → lHead p lch e s m #[Value.ref b] below meth c g b k (lw_Z below #[Value.ref b] s) Rel 18 (nI (6 * k)) := by
  have hx := A.1
  have hb := A.2.1
  have hL := A.2.2.2.2.2.2.2.2.2.1
  have hr := A.2.2.2.2.2.2.2.2.2.2.1
  have hlocks := A.2.2.2.2.2.2.2.2.2.2.2
  have hg := A.2.2.2.2.2.2.2.2.1
  obtain ⟨hs0, hs1, hs2, hs3, hs4, hs5, hs6, hs7, hs8, hs9, hs10, hs11, hs12, hs13, hs14, hs15, hs16, hs17, hs18, hs19, hs20, hs21, hs22, hs23, hs24, hs25, hs26, hs27, hs28, hs29, hs30, hs31, hs32, hs33, hs34, hs35, hs36, hs37, hs38, hs39, hs40, hs41⟩ := hall
  intro n
  induction n with
  | zero =>
    intro k hn hk u H locs cells slots ls hc hsl hu I hl
    refine lv_iload_n hx hb dL_law_18 rfl (lv_at hl 3 rfl) ?_
    refine lv_aload_n hx hb dL_law_19 rfl (lv_at hl 0 rfl) ?_
    refine va_slen (A := fun q => g.1 ≤ q) hx hb A.2.2.2.2.2.2.1 (by rw [← hg]; exact A.2.2.2.2.2.2.2.1) (Nat.not_le.mpr A.2.2.2.2.2.2.2.1) (L_S A I) dL_law_20 ?_
    refine lv_bipush (v := 6) hx hb dL_law_21 (by decide) ?_
    refine lv_isub hx hb dL_law_23 ?_
    refine lv_icmp_gt (tgt := 1389) hx hb dL_law_24 (by decide) (fun _ => ?_) (fun h => ?_)
    · refine lv_iconst (v := 1) hx hb dL_law_1389 (by decide) ?_
      refine va_forget (fun q hq => by rw [← hg]; exact I.2.2 q hq) ?_
      refine W.widen (k := 600000) (n := 7302250) (by omega) (by omega) ?_
      exact lw_ret hx hb hr hlocks dL_law_1390
    · exfalso
      apply h
      rw [Int32.lt_iff_toInt_lt, show (6 : Int32) = nI 6 from rfl, show Int32.ofNat L = nI L from rfl, pk_sub_toInt (by omega) (by omega), nI_toInt (by omega)]
      omega
  | succ n ih =>
    intro k hn hk u H locs cells slots ls hc hsl hu I hl
    refine lv_iload_n hx hb dL_law_18 rfl (lv_at hl 3 rfl) ?_
    refine lv_aload_n hx hb dL_law_19 rfl (lv_at hl 0 rfl) ?_
    refine va_slen (A := fun q => g.1 ≤ q) hx hb A.2.2.2.2.2.2.1 (by rw [← hg]; exact A.2.2.2.2.2.2.2.1) (Nat.not_le.mpr A.2.2.2.2.2.2.2.1) (L_S A I) dL_law_20 ?_
    refine lv_bipush (v := 6) hx hb dL_law_21 (by decide) ?_
    refine lv_isub hx hb dL_law_23 ?_
    refine lv_icmp_gt (tgt := 1389) hx hb dL_law_24 (by decide) (fun _ => ?_) (fun h => ?_)
    · refine lv_iconst (v := 1) hx hb dL_law_1389 (by decide) ?_
      refine va_forget (fun q hq => by rw [← hg]; exact I.2.2 q hq) ?_
      refine W.widen (k := 600000) (n := 7302250) (by omega) (by omega) ?_
      exact lw_ret hx hb hr hlocks dL_law_1390
    have h6 : 6 * k + 6 ≤ L := by
      rw [Int32.lt_iff_toInt_lt, show (6 : Int32) = nI 6 from rfl, show Int32.ofNat L = nI L from rfl, pk_sub_toInt (by omega) (by omega), nI_toInt (by omega)] at h
      omega
    have hk5 : k < 512 := by omega
    have hi0 : vp_in (nI (6 * k)) L := vp_in_nI (by omega) (by omega)
    have hi1 : vp_in (nI (6 * k) + 1) L := by rw [nI6 k 1 1 rfl]; exact vp_in_nI (by omega) (by omega)
    have hi2 : vp_in (nI (6 * k) + 2) L := by rw [nI6 k 2 2 rfl]; exact vp_in_nI (by omega) (by omega)
    have hi3 : vp_in (nI (6 * k) + 3) L := by rw [nI6 k 3 3 rfl]; exact vp_in_nI (by omega) (by omega)
    have hi4 : vp_in (nI (6 * k) + 4) L := by rw [nI6 k 4 4 rfl]; exact vp_in_nI (by omega) (by omega)
    have hi5 : vp_in (nI (6 * k) + 5) L := by rw [nI6 k 5 5 rfl]; exact vp_in_nI (by omega) (by omega)
    refine lv_aload_n hx hb dL_law_27 rfl (lv_at hl 0 rfl) ?_
    refine lv_iload_n hx hb dL_law_28 rfl (lv_at hl 3 rfl) ?_
    refine L_ld A I hi0 dL_law_29 ?_
    refine lv_bipush (v := 63) hx hb dL_law_30 (by decide) ?_
    refine lv_iand hx hb dL_law_32 ?_
    have kn : lHead p lch e s m #[Value.ref b] below meth c g b (k + 1) (lw_Z below #[Value.ref b] s) Rel 1383 (nI (6 * k)) := by
      intro u H locs cells slots ls hc hsl hu I hl
      refine lv_iinc (v := nI (6 * (k + 1))) (lv' := [(3, .int (nI (6 * (k + 1)))), (0, .ref b), (1, .ref (g.1 + 0)), (2, .ref (g.1 + 45))]) hx hb dL_law_1383 hl (k := 3) rfl (by rw [show Int32.ofInt 6 = nI 6 from by decide +kernel, nI_add]; rfl) (by decide) rfl (fun ls hl => ?_)
      refine lv_goto (tgt := 18) hx hb dL_law_1386 (by decide) ?_
      exact ih (k + 1) (by omega) (by omega) u H locs cells slots ls hc hsl hu I (lv_sub hl [1, 2, 3, 0] rfl)
    obtain ⟨j, hj, ej⟩ := pk_andE (xs (nI (6 * k)).toNatClampNeg) (m := 63) 6 (by decide +kernel)
    rw [ej]
    by_cases hj0 : j = 0
    · subst hj0
      refine lv_tableIn (off := 183) (tgt := 216) hx hb dL_law_33 (by decide +kernel) (by decide +kernel) (by decide +kernel) (by decide) ?_
      exact L_0 hR0 hk5 A hi1 hi2 hi3 hs0 kn u H locs cells slots ls hc hsl hu I hl
    by_cases hj1 : j = 1
    · subst hj1
      refine lv_tableIn (off := 226) (tgt := 259) hx hb dL_law_33 (by decide +kernel) (by decide +kernel) (by decide +kernel) (by decide) ?_
      exact L_1 hR0 hk5 A hi1 hi2 hs1 kn u H locs cells slots ls hc hsl hu I hl
    by_cases hj2 : j = 2
    · subst hj2
      refine lv_tableIn (off := 259) (tgt := 292) hx hb dL_law_33 (by decide +kernel) (by decide +kernel) (by decide +kernel) (by decide) ?_
      exact L_2 hR0 hk5 A hi1 hi2 hs2 kn u H locs cells slots ls hc hsl hu I hl
    by_cases hj3 : j = 3
    · subst hj3
      refine lv_tableIn (off := 292) (tgt := 325) hx hb dL_law_33 (by decide +kernel) (by decide +kernel) (by decide +kernel) (by decide) ?_
      exact L_3 hR0 hk5 A hi1 hi2 hi3 hi4 hs3 kn u H locs cells slots ls hc hsl hu I hl
    by_cases hj4 : j = 4
    · subst hj4
      refine lv_tableIn (off := 345) (tgt := 378) hx hb dL_law_33 (by decide +kernel) (by decide +kernel) (by decide +kernel) (by decide) ?_
      exact L_4 hR0 hk5 A hi1 hi2 hi3 hs4 kn u H locs cells slots ls hc hsl hu I hl
    by_cases hj5 : j = 5
    · subst hj5
      refine lv_tableIn (off := 388) (tgt := 421) hx hb dL_law_33 (by decide +kernel) (by decide +kernel) (by decide +kernel) (by decide) ?_
      exact L_5 hR0 hk5 A hi1 hi2 hi3 hi4 hs5 kn u H locs cells slots ls hc hsl hu I hl
    by_cases hj6 : j = 6
    · subst hj6
      refine lv_tableIn (off := 441) (tgt := 474) hx hb dL_law_33 (by decide +kernel) (by decide +kernel) (by decide +kernel) (by decide) ?_
      exact L_6 hR0 hk5 A hi1 hi2 hs6 kn u H locs cells slots ls hc hsl hu I hl
    by_cases hj7 : j = 7
    · subst hj7
      refine lv_tableIn (off := 474) (tgt := 507) hx hb dL_law_33 (by decide +kernel) (by decide +kernel) (by decide +kernel) (by decide) ?_
      exact L_7 hR0 hk5 A hi1 hi2 hi3 hi4 hi5 hs7 kn u H locs cells slots ls hc hsl hu I hl
    by_cases hj8 : j = 8
    · subst hj8
      refine lv_tableIn (off := 537) (tgt := 570) hx hb dL_law_33 (by decide +kernel) (by decide +kernel) (by decide +kernel) (by decide) ?_
      exact L_8 hR0 hk5 A hi1 hs8 kn u H locs cells slots ls hc hsl hu I hl
    by_cases hj9 : j = 9
    · subst hj9
      refine lv_tableIn (off := 560) (tgt := 593) hx hb dL_law_33 (by decide +kernel) (by decide +kernel) (by decide +kernel) (by decide) ?_
      exact L_9 hR0 hk5 A hs9 kn u H locs cells slots ls hc hsl hu I hl
    by_cases hj10 : j = 10
    · subst hj10
      refine lv_tableIn (off := 573) (tgt := 606) hx hb dL_law_33 (by decide +kernel) (by decide +kernel) (by decide +kernel) (by decide) ?_
      exact L_10 hR0 hk5 A hs10 kn u H locs cells slots ls hc hsl hu I hl
    by_cases hj11 : j = 11
    · subst hj11
      refine lv_tableIn (off := 586) (tgt := 619) hx hb dL_law_33 (by decide +kernel) (by decide +kernel) (by decide +kernel) (by decide) ?_
      exact L_11 hR0 hk5 A hs11 kn u H locs cells slots ls hc hsl hu I hl
    by_cases hj12 : j = 12
    · subst hj12
      refine lv_tableIn (off := 599) (tgt := 632) hx hb dL_law_33 (by decide +kernel) (by decide +kernel) (by decide +kernel) (by decide) ?_
      exact L_12 hR0 hk5 A hs12 kn u H locs cells slots ls hc hsl hu I hl
    by_cases hj13 : j = 13
    · subst hj13
      refine lv_tableIn (off := 612) (tgt := 645) hx hb dL_law_33 (by decide +kernel) (by decide +kernel) (by decide +kernel) (by decide) ?_
      exact L_13 hR0 hk5 A hs13 kn u H locs cells slots ls hc hsl hu I hl
    by_cases hj14 : j = 14
    · subst hj14
      refine lv_tableIn (off := 625) (tgt := 658) hx hb dL_law_33 (by decide +kernel) (by decide +kernel) (by decide +kernel) (by decide) ?_
      exact L_14 hR0 hk5 A hs14 kn u H locs cells slots ls hc hsl hu I hl
    by_cases hj15 : j = 15
    · subst hj15
      refine lv_tableIn (off := 638) (tgt := 671) hx hb dL_law_33 (by decide +kernel) (by decide +kernel) (by decide +kernel) (by decide) ?_
      exact L_15 hR0 hk5 A hi1 hs15 kn u H locs cells slots ls hc hsl hu I hl
    by_cases hj16 : j = 16
    · subst hj16
      refine lv_tableIn (off := 661) (tgt := 694) hx hb dL_law_33 (by decide +kernel) (by decide +kernel) (by decide +kernel) (by decide) ?_
      exact L_16 hR0 hk5 A hi1 hi2 hs16 kn u H locs cells slots ls hc hsl hu I hl
    by_cases hj17 : j = 17
    · subst hj17
      refine lv_tableIn (off := 694) (tgt := 727) hx hb dL_law_33 (by decide +kernel) (by decide +kernel) (by decide +kernel) (by decide) ?_
      exact L_17 hR0 hk5 A hi1 hi2 hi3 hs17 kn u H locs cells slots ls hc hsl hu I hl
    by_cases hj18 : j = 18
    · subst hj18
      refine lv_tableIn (off := 737) (tgt := 770) hx hb dL_law_33 (by decide +kernel) (by decide +kernel) (by decide +kernel) (by decide) ?_
      exact L_18 hR0 hk5 A hi1 hi2 hs18 kn u H locs cells slots ls hc hsl hu I hl
    by_cases hj19 : j = 19
    · subst hj19
      refine lv_tableIn (off := 770) (tgt := 803) hx hb dL_law_33 (by decide +kernel) (by decide +kernel) (by decide +kernel) (by decide) ?_
      exact L_19 hR0 hk5 A hs19 kn u H locs cells slots ls hc hsl hu I hl
    by_cases hj20 : j = 20
    · subst hj20
      refine lv_tableIn (off := 783) (tgt := 816) hx hb dL_law_33 (by decide +kernel) (by decide +kernel) (by decide +kernel) (by decide) ?_
      exact L_20 hR0 hk5 A hs20 kn u H locs cells slots ls hc hsl hu I hl
    by_cases hj21 : j = 21
    · subst hj21
      refine lv_tableIn (off := 796) (tgt := 829) hx hb dL_law_33 (by decide +kernel) (by decide +kernel) (by decide +kernel) (by decide) ?_
      exact L_21 hR0 hk5 A hi1 hs21 kn u H locs cells slots ls hc hsl hu I hl
    by_cases hj22 : j = 22
    · subst hj22
      refine lv_tableIn (off := 819) (tgt := 852) hx hb dL_law_33 (by decide +kernel) (by decide +kernel) (by decide +kernel) (by decide) ?_
      exact L_22 hR0 hk5 A hi1 hi2 hs22 kn u H locs cells slots ls hc hsl hu I hl
    by_cases hj23 : j = 23
    · subst hj23
      refine lv_tableIn (off := 852) (tgt := 885) hx hb dL_law_33 (by decide +kernel) (by decide +kernel) (by decide +kernel) (by decide) ?_
      exact L_23 hR0 hk5 A hi1 hi2 hs23 kn u H locs cells slots ls hc hsl hu I hl
    by_cases hj24 : j = 24
    · subst hj24
      refine lv_tableIn (off := 885) (tgt := 918) hx hb dL_law_33 (by decide +kernel) (by decide +kernel) (by decide +kernel) (by decide) ?_
      exact L_24 hR0 hk5 A hs24 kn u H locs cells slots ls hc hsl hu I hl
    by_cases hj25 : j = 25
    · subst hj25
      refine lv_tableIn (off := 898) (tgt := 931) hx hb dL_law_33 (by decide +kernel) (by decide +kernel) (by decide +kernel) (by decide) ?_
      exact L_25 hR0 hk5 A hs25 kn u H locs cells slots ls hc hsl hu I hl
    by_cases hj26 : j = 26
    · subst hj26
      refine lv_tableIn (off := 911) (tgt := 944) hx hb dL_law_33 (by decide +kernel) (by decide +kernel) (by decide +kernel) (by decide) ?_
      exact L_26 hR0 hk5 A hi1 hs26 kn u H locs cells slots ls hc hsl hu I hl
    by_cases hj27 : j = 27
    · subst hj27
      refine lv_tableIn (off := 934) (tgt := 967) hx hb dL_law_33 (by decide +kernel) (by decide +kernel) (by decide +kernel) (by decide) ?_
      exact L_27 hR0 hk5 A hi1 hi2 hi3 hs27 kn u H locs cells slots ls hc hsl hu I hl
    by_cases hj28 : j = 28
    · subst hj28
      refine lv_tableIn (off := 977) (tgt := 1010) hx hb dL_law_33 (by decide +kernel) (by decide +kernel) (by decide +kernel) (by decide) ?_
      exact L_28 hR0 hk5 A hi1 hs28 kn u H locs cells slots ls hc hsl hu I hl
    by_cases hj29 : j = 29
    · subst hj29
      refine lv_tableIn (off := 1000) (tgt := 1033) hx hb dL_law_33 (by decide +kernel) (by decide +kernel) (by decide +kernel) (by decide) ?_
      exact L_29 hR0 hk5 A hi1 hi2 hs29 kn u H locs cells slots ls hc hsl hu I hl
    by_cases hj30 : j = 30
    · subst hj30
      refine lv_tableIn (off := 1033) (tgt := 1066) hx hb dL_law_33 (by decide +kernel) (by decide +kernel) (by decide +kernel) (by decide) ?_
      exact L_30 hR0 hk5 A hi1 hs30 kn u H locs cells slots ls hc hsl hu I hl
    by_cases hj31 : j = 31
    · subst hj31
      refine lv_tableIn (off := 1056) (tgt := 1089) hx hb dL_law_33 (by decide +kernel) (by decide +kernel) (by decide +kernel) (by decide) ?_
      exact L_31 hR0 hk5 A hi1 hi2 hs31 kn u H locs cells slots ls hc hsl hu I hl
    by_cases hj32 : j = 32
    · subst hj32
      refine lv_tableIn (off := 1089) (tgt := 1122) hx hb dL_law_33 (by decide +kernel) (by decide +kernel) (by decide +kernel) (by decide) ?_
      exact L_32 hR0 hk5 A hi1 hi2 hi3 hi4 hs32 kn u H locs cells slots ls hc hsl hu I hl
    by_cases hj33 : j = 33
    · subst hj33
      refine lv_tableIn (off := 1142) (tgt := 1175) hx hb dL_law_33 (by decide +kernel) (by decide +kernel) (by decide +kernel) (by decide) ?_
      exact L_33 hR0 hk5 A hi1 hs33 kn u H locs cells slots ls hc hsl hu I hl
    by_cases hj34 : j = 34
    · subst hj34
      refine lv_tableIn (off := 1166) (tgt := 1199) hx hb dL_law_33 (by decide +kernel) (by decide +kernel) (by decide +kernel) (by decide) ?_
      exact L_34 hR0 hk5 A hs34 kn u H locs cells slots ls hc hsl hu I hl
    by_cases hj35 : j = 35
    · subst hj35
      refine lv_tableIn (off := 1179) (tgt := 1212) hx hb dL_law_33 (by decide +kernel) (by decide +kernel) (by decide +kernel) (by decide) ?_
      exact L_35 hR0 hk5 A hi1 hs35 kn u H locs cells slots ls hc hsl hu I hl
    by_cases hj36 : j = 36
    · subst hj36
      refine lv_tableIn (off := 1202) (tgt := 1235) hx hb dL_law_33 (by decide +kernel) (by decide +kernel) (by decide +kernel) (by decide) ?_
      exact L_36 hR0 hk5 A hi1 hi2 hs36 kn u H locs cells slots ls hc hsl hu I hl
    by_cases hj37 : j = 37
    · subst hj37
      refine lv_tableIn (off := 1235) (tgt := 1268) hx hb dL_law_33 (by decide +kernel) (by decide +kernel) (by decide +kernel) (by decide) ?_
      exact L_37 hR0 hk5 A hi1 hi2 hs37 kn u H locs cells slots ls hc hsl hu I hl
    by_cases hj38 : j = 38
    · subst hj38
      refine lv_tableIn (off := 1268) (tgt := 1301) hx hb dL_law_33 (by decide +kernel) (by decide +kernel) (by decide +kernel) (by decide) ?_
      exact L_38 hR0 hk5 A hi1 hs38 kn u H locs cells slots ls hc hsl hu I hl
    by_cases hj39 : j = 39
    · subst hj39
      refine lv_tableIn (off := 1291) (tgt := 1324) hx hb dL_law_33 (by decide +kernel) (by decide +kernel) (by decide +kernel) (by decide) ?_
      exact L_39 hR0 hk5 A hi1 hs39 kn u H locs cells slots ls hc hsl hu I hl
    by_cases hj40 : j = 40
    · subst hj40
      refine lv_tableIn (off := 1314) (tgt := 1347) hx hb dL_law_33 (by decide +kernel) (by decide +kernel) (by decide +kernel) (by decide) ?_
      exact L_40 hR0 hk5 A hi1 hs40 kn u H locs cells slots ls hc hsl hu I hl
    by_cases hj41 : j = 41
    · subst hj41
      refine lv_tableIn (off := 1337) (tgt := 1370) hx hb dL_law_33 (by decide +kernel) (by decide +kernel) (by decide +kernel) (by decide) ?_
      exact L_41 hR0 hk5 A hs41 kn u H locs cells slots ls hc hsl hu I hl
    refine lv_tableOut (tgt := 1383) hx hb dL_law_33 (Or.inr (by rw [nI_toInt (by omega)]; omega)) (by decide) ?_
    exact kn u H locs cells slots ls (by omega) (by omega) hu I hl
end LAWL
