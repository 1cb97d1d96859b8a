/-! writing: what was put so far, and numbers in decimals -/
theorem bz_fit (b : Bool) : fits .boolean (.int (bz b)) = true := by cases b <;> rfl
/-- the result's bytes with what was put, if it is kept -/
def wrF (ks : Bool) (by0 : Nat → Int32) (ou : List Nat) : Nat → Int32 := fun j => if ks = true ∧ j < ou.length ∧ j < 131072 then sb_b (ou.getD j 0) else by0 j
theorem wrF_no {by0 : Nat → Int32} {ou : List Nat} (c : Nat) : wrF false by0 (ou ++ [c]) = wrF false by0 ou := by
  funext j; unfold wrF; rw [if_neg (fun h => by cases h.1), if_neg (fun h => by cases h.1)]
theorem wrF_big {ks : Bool} {by0 : Nat → Int32} {ou : List Nat} (c : Nat) (h : 131072 ≤ ou.length) : wrF ks by0 (ou ++ [c]) = wrF ks by0 ou := by
  funext j; unfold wrF
  by_cases q : ks = true ∧ j < ou.length ∧ j < 131072
  · rw [if_pos q, if_pos ⟨q.1, by rw [List.length_append]; omega, q.2.2⟩]
    simp [List.getD_eq_getElem?_getD, List.getElem?_append_left q.2.1]
  · rw [if_neg q, if_neg (fun z => q ⟨z.1, by omega, z.2.2⟩)]
theorem wrF_put {by0 : Nat → Int32} {ou : List Nat} (c : Nat) (h : ou.length < 131072) : upd (wrF true by0 ou) ou.length (vp_nar .byte (sb_b c)) = wrF true by0 (ou ++ [c]) := by
  have e : vp_nar .byte (sb_b c) = sb_b c := pk_vb _
  rw [e]
  funext j
  by_cases q : j = ou.length
  · subst q
    unfold wrF upd
    rw [if_pos rfl, if_pos ⟨rfl, by simp, h⟩]
    simp [List.getD_eq_getElem?_getD]
  · have e0 : upd (wrF true by0 ou) ou.length (sb_b c) j = wrF true by0 ou j := if_neg q
    rw [e0]
    by_cases q2 : j < ou.length
    · have e1 : wrF true by0 ou j = sb_b (ou.getD j 0) := if_pos ⟨rfl, q2, by omega⟩
      have e2 : wrF true by0 (ou ++ [c]) j = sb_b ((ou ++ [c]).getD j 0) := if_pos ⟨rfl, by rw [List.length_append]; omega, by omega⟩
      rw [e1, e2]
      simp [List.getD_eq_getElem?_getD, List.getElem?_append_left q2]
    · have e1 : wrF true by0 ou j = by0 j := if_neg (fun z => q2 z.2.1)
      have e2 : wrF true by0 (ou ++ [c]) j = by0 j := if_neg (fun z => by have := z.2.1; rw [List.length_append, List.length_singleton] at this; omega)
      rw [e1, e2]
/-- decimals from the place i - 1 down to lo, with the dot -/
def ndL (a dg lo : Nat) : Nat → List Nat
  | 0 => []
  | i + 1 => if i < lo then [] else (if i + 1 = dg then [46] else []) ++ [48 + a / 10 ^ i % 10] ++ ndL a dg lo i
theorem ndL_stop {a dg lo : Nat} : ∀ {w : Nat}, w ≤ lo → ndL a dg lo w = []
  | 0, _ => rfl
  | w + 1, h => if_pos (by omega)
theorem ndL_go {a dg lo i : Nat} (h : lo ≤ i) : ndL a dg lo (i + 1) = (if i + 1 = dg then [46] else []) ++ [48 + a / 10 ^ i % 10] ++ ndL a dg lo i := if_neg (by omega)
def nmA (a dg : Nat) : Nat → Nat → Nat
  | 0, u => u
  | m + 1, u => if u ≤ dg ∨ 0 < a / 10 ^ u then nmA a dg m (u + 1) else u
def lwA (a : Nat) : Nat → Nat → Nat
  | 0, l => l
  | m + 1, l => if a / 10 ^ l % 10 = 0 then lwA a m (l + 1) else l
def nmL (dg a : Nat) : List Nat := ndL a dg (lwA a dg 0) (nmA a dg 12 0)
def sgT (x : Int32) : List Nat := if x < 0 then [45] else []
theorem nmA_s {a dg u : Nat} (h : u < 12) (h2 : u ≤ dg ∨ 0 < a / 10 ^ u) : nmA a dg (12 - u) u = nmA a dg (12 - (u + 1)) (u + 1) := by
  rw [show 12 - u = (12 - (u + 1)) + 1 by omega]; exact if_pos h2
theorem nmA_d {a dg u : Nat} (h : u < 12) (h2 : ¬ (u ≤ dg ∨ 0 < a / 10 ^ u)) : nmA a dg (12 - u) u = u := by
  rw [show 12 - u = (12 - (u + 1)) + 1 by omega]; exact if_neg h2
theorem nmA_e {a dg u : Nat} (h : 12 ≤ u) : nmA a dg (12 - u) u = u := by rw [show 12 - u = 0 by omega]; rfl
theorem lwA_s {a dg l : Nat} (h : l < dg) (h2 : a / 10 ^ l % 10 = 0) : lwA a (dg - l) l = lwA a (dg - (l + 1)) (l + 1) := by
  rw [show dg - l = (dg - (l + 1)) + 1 by omega]; exact if_pos h2
theorem lwA_d {a dg l : Nat} (h : l < dg) (h2 : ¬ a / 10 ^ l % 10 = 0) : lwA a (dg - l) l = l := by
  rw [show dg - l = (dg - (l + 1)) + 1 by omega]; exact if_neg h2
theorem lwA_e {a dg l : Nat} (h : dg ≤ l) : lwA a (dg - l) l = l := by rw [show dg - l = 0 by omega]; rfl
theorem lt_w {w lo : Nat} (hw : w < 2 ^ 30) (hl : lo < 2 ^ 30) : nI w - nI 1 < nI lo ↔ w ≤ lo := by
  rw [Int32.lt_iff_toInt_lt, pk_sub_toInt hw (by decide), nI_toInt (by omega)]
  omega
theorem eq_w {i dg : Nat} (hi : i < 2 ^ 30) (hd : dg < 2 ^ 30) : nI i = nI dg - nI 1 ↔ i + 1 = dg := by
  rw [← Int32.toInt_inj, pk_sub_toInt hd (by decide), nI_toInt (by omega)]
  omega
theorem y_decI (i : Nat) : nI i + Int32.ofInt (-1) = nI i - nI 1 := by rw [Int32.sub_eq_add_neg, show -nI 1 = Int32.ofInt (-1) from by decide]
theorem nmL_len (dg a : Nat) : (nmL dg a).length ≤ 24 := by
  have h1 : ∀ lo i, (ndL a dg lo i).length ≤ 2 * i := by
    intro lo i
    induction i with
    | zero => exact Nat.le_refl _
    | succ i ih =>
      by_cases h : i < lo
      · rw [show ndL a dg lo (i + 1) = [] from if_pos h]; simp
      · rw [ndL_go (by omega)]
        simp only [List.length_append, List.length_singleton]
        split <;> simp only [List.length_singleton, List.length_nil] <;> omega
  have h2 : ∀ m u, u ≤ 12 → m + u ≤ 12 → nmA a dg m u ≤ 12 := by
    intro m
    induction m with
    | zero => intro u h _; exact h
    | succ m ih =>
      intro u h h3
      unfold nmA
      split
      · exact ih (u + 1) (by omega) (by omega)
      · exact h
  have h3 := h1 (lwA a dg 0) (nmA a dg 12 0)
  have h4 := h2 12 0 (by omega) (by omega)
  unfold nmL
  omega
theorem take_s {k i : Nat} (h : i < (wdL k).length) : (wdL k).take (i + 1) = (wdL k).take i ++ [wdC k i] := by
  rw [List.take_succ]
  unfold wdC
  simp [List.getD_eq_getElem?_getD, List.getElem?_eq_getElem h]
theorem neg_nle {a : Nat} (h : 0 < a) (h2 : a < 2 ^ 31) : ¬ 0 ≤ -nI a := by
  rw [Int32.le_iff_toInt_le, sb_negT h2, Int32.toInt_zero]
  omega
abbrev wT (G : gl) (h : Nat → Nat) (dg ln : Nat) (ks : Bool) (nx py : Nat) (fi : Bool) (by0 : Nat → Int32) (ou : List Nat) (de : Nat → Int32) (bt : Nat) (bk bn : Nat → Int32) : va_W := [(h 0, .inr (3, [.ref (h 1), .int (nI dg), .ref (h 2), .ref (h 3), .int (nI ln), .int (bz ks), .int (nI ou.length), .int (nI nx), .int (nI py), .int (bz fi)])), (h 1, .inl (gc G 1, 131072, .inl (wrF ks by0 ou))), (h 2, .inl (gc G 0, 12, .inl de)), (h 3, .inr (0, [.ref (h 4), .ref (h 5), .int (nI bt)])), (h 4, .inl (gc G 0, 54, .inl bk)), (h 5, .inl (gc G 0, 54, .inl bn))]

abbrev wU (G : gl) (h : Nat → Nat) (dg ln : Nat) (ks : Bool) (la nx py : Nat) (fi : Bool) (by1 : Nat → Int32) (de : Nat → Int32) (bt : Nat) (bk bn : Nat → Int32) : va_W := [(h 0, .inr (3, [.ref (h 1), .int (nI dg), .ref (h 2), .ref (h 3), .int (nI ln), .int (bz ks), .int (nI la), .int (nI nx), .int (nI py), .int (bz fi)])), (h 1, .inl (gc G 1, 131072, .inl by1)), (h 2, .inl (gc G 0, 12, .inl de)), (h 3, .inr (0, [.ref (h 4), .ref (h 5), .int (nI bt)])), (h 4, .inl (gc G 0, 54, .inl bk)), (h 5, .inl (gc G 0, 54, .inl bn))]

set_option maxHeartbeats 4000000 in
set_option maxRecDepth 100000 in
theorem c_T_putU (l : Launch) (G : gl) (h : Nat → Nat) (dg : Nat) (ln : Nat) (ks : Bool) (la : Nat) (nx : Nat) (py : Nat) (fi : Bool) (by1 : Nat → Int32) (de : Nat → Int32) (bt : Nat) (bk : Nat → Int32) (bn : Nat → Int32) (x : Nat) (hla : la + 1 < 2 ^ 30) : YC l G y_T_put k_T_put 2 (Option.none : Option FieldType) 0 0 [.ref (h 0), .int (nI x)] (wU G h dg ln ks la nx py fi by1 de bt bk bn) (fun v w => v = none ∧ w = wU G h dg ln ks (la + 1) nx py fi (if ks = true ∧ la < 131072 then upd by1 la (vp_nar .byte (sb_b x)) else by1) de bt bk bn) (fun _ _ => False) := by
  refine yc_of (by decide) ?_
  intro pg ev sx mm bl mt cd A C0 hP hD
  obtain ⟨hx, hb, hrt, hml, hown, hg, hlocks, hxt, hE, hK, hA, hmn⟩ := C0
  have hS : va_S A sx.heap sx.heap [] := va_S.rf
  have hl := lv_entry ([.ref (h 0), .int (nI x)]) (n := 2) (Nat.le_of_ble_eq_true rfl)
  rw [lg_entry_eq]
  generalize (lg_sl ([.ref (h 0), .int (nI x)]) ++ List.replicate (2 - (lg_sl ([.ref (h 0), .int (nI x)])).length) Slot.unset).toArray = ls at hl ⊢
  have hl : lv_has ls 2 [(0, .ref (h 0)), (1, .int (nI x))] := hl
  obtain ⟨H, hH⟩ : ∃ H, H = sx.heap := ⟨_, rfl⟩
  rw [← hH] at hP
  have hS : va_S A sx.heap H [] := by rw [hH]; exact hS
  suffices h9 : W pg l ev (yR 0 0) sx mm _ bl mt cd H [] 0 0 (yMQ bl G A _ _ _ _ sx) (F0 mm 0 ls []) by rw [hH] at h9; exact h9
  obtain ⟨locs, hlo⟩ : ∃ locs : List Loc, locs = [] := ⟨_, rfl⟩
  rw [← hlo] at hS ⊢
  refine lv_aload_n hx hb d_T_put_0 rfl (lv_at hl 0 rfl) ?_
  refine va_get (D := gD G) (ci := 3) (v := .int (bz ks)) (C := "WordShapes$Writer") (T := TT) (N := 10) hx hb hg iw_T hown hK hP 0 rfl rfl 5 (by decide) (hg _ tk_129) (fun _ h9 => h9) rfl d_T_put_1 ?_
  refine yy_if_eq (P := ks) (tgt := 27) hx hb d_T_put_4 (by decide) (fun c4 => ?_) (fun c4 => ?_)
  · skip
    refine lv_aload_n hx hb d_T_put_27 rfl (lv_at hl 0 rfl) ?_
    refine lv_dup hx hb d_T_put_28 rfl ?_
    refine va_get (D := gD G) (ci := 3) (v := .int (nI la)) (C := "WordShapes$Writer") (T := TT) (N := 10) hx hb hg iw_T hown hK hP 0 rfl rfl 6 (by decide) (hg _ tk_130) (fun _ h9 => h9) rfl d_T_put_29 ?_
    refine lv_iconst (v := nI 1) hx hb d_T_put_32 (by decide) ?_
    refine lv_iadd hx hb d_T_put_33 ?_
    refine y_eqi (nI_add _ _) ?_
    refine va_put (D := gD G) (ci := 3) (v := .int (nI (la + 1))) (ty := .int) (C := "WordShapes$Writer") (T := TT) (N := 10) hx hb hg iw_T ft_T fo_T nm_T hown hK hP hD hS 0 rfl rfl 6 (by decide) (hg _ tk_130) (fun _ h9 => h9) rfl (by decide +kernel) (rfl) (rfl) (Nat.le_of_ble_eq_true rfl) d_T_put_34 (fun H locs hP hD hS => ?_)
    have hP : va_P (gD G) vwC (wU G h dg ln ks (la + 1) nx py fi by1 de bt bk bn) H := hP
    have hD : va_D A (wU G h dg ln ks (la + 1) nx py fi by1 de bt bk bn) := hD
    exact yr_v (ws := wU G h dg ln ks (la + 1) nx py fi by1 de bt bk bn) hx hb hrt hlocks (⟨rfl, by first | rw [if_neg (fun y => by rw [c4] at y; exact absurd y.1 (by decide))] | rw [if_neg (fun y => by omega)] | rw [if_pos ⟨c4, c13⟩]⟩) rfl hK hP hD hS d_T_put_37
  · skip
    refine lv_aload_n hx hb d_T_put_7 rfl (lv_at hl 0 rfl) ?_
    refine va_get (D := gD G) (ci := 3) (v := .int (nI la)) (C := "WordShapes$Writer") (T := TT) (N := 10) hx hb hg iw_T hown hK hP 0 rfl rfl 6 (by decide) (hg _ tk_130) (fun _ h9 => h9) rfl d_T_put_8 ?_
    refine lv_ldc (v := nI 131072) hx hb hown (hg _ tk_120) d_T_put_11 ?_
    refine yn_icmp_ge (a := la) (b := 131072) (tgt := 27) hx hb d_T_put_13 (by decide) (by omega) (by omega) (fun c13 => ?_) (fun c13 => ?_)
    · skip
      refine lv_aload_n hx hb d_T_put_27 rfl (lv_at hl 0 rfl) ?_
      refine lv_dup hx hb d_T_put_28 rfl ?_
      refine va_get (D := gD G) (ci := 3) (v := .int (nI la)) (C := "WordShapes$Writer") (T := TT) (N := 10) hx hb hg iw_T hown hK hP 0 rfl rfl 6 (by decide) (hg _ tk_130) (fun _ h9 => h9) rfl d_T_put_29 ?_
      refine lv_iconst (v := nI 1) hx hb d_T_put_32 (by decide) ?_
      refine lv_iadd hx hb d_T_put_33 ?_
      refine y_eqi (nI_add _ _) ?_
      refine va_put (D := gD G) (ci := 3) (v := .int (nI (la + 1))) (ty := .int) (C := "WordShapes$Writer") (T := TT) (N := 10) hx hb hg iw_T ft_T fo_T nm_T hown hK hP hD hS 0 rfl rfl 6 (by decide) (hg _ tk_130) (fun _ h9 => h9) rfl (by decide +kernel) (rfl) (rfl) (Nat.le_of_ble_eq_true rfl) d_T_put_34 (fun H locs hP hD hS => ?_)
      have hP : va_P (gD G) vwC (wU G h dg ln ks (la + 1) nx py fi by1 de bt bk bn) H := hP
      have hD : va_D A (wU G h dg ln ks (la + 1) nx py fi by1 de bt bk bn) := hD
      exact yr_v (ws := wU G h dg ln ks (la + 1) nx py fi by1 de bt bk bn) hx hb hrt hlocks (⟨rfl, by first | rw [if_neg (fun y => by rw [c4] at y; exact absurd y.1 (by decide))] | rw [if_neg (fun y => by omega)] | rw [if_pos ⟨c4, c13⟩]⟩) rfl hK hP hD hS d_T_put_37
    · skip
      refine lv_aload_n hx hb d_T_put_16 rfl (lv_at hl 0 rfl) ?_
      refine va_get (D := gD G) (ci := 3) (v := .ref (h 1)) (C := "WordShapes$Writer") (T := TT) (N := 10) hx hb hg iw_T hown hK hP 0 rfl rfl 0 (by decide) (hg _ tk_123) (fun _ h9 => h9) rfl d_T_put_17 ?_
      refine lv_aload_n hx hb d_T_put_20 rfl (lv_at hl 0 rfl) ?_
      refine va_get (D := gD G) (ci := 3) (v := .int (nI la)) (C := "WordShapes$Writer") (T := TT) (N := 10) hx hb hg iw_T hown hK hP 0 rfl rfl 6 (by decide) (hg _ tk_130) (fun _ h9 => h9) rfl d_T_put_21 ?_
      refine lv_iload_n hx hb d_T_put_24 rfl (lv_at hl 1 rfl) ?_
      refine lv_i2b hx hb d_T_put_25 (v := (nI x).toInt8.toInt32) rfl ?_
      refine y_eqi (y := sb_b x) (rfl) ?_
      refine yn_bast hx hb hK hP hD hS 1 1 rfl rfl (j := la) (x := sb_b x) (f1 := upd by1 la (vp_nar .byte (sb_b x))) (rfl) (by omega) (by omega) d_T_put_26 (fun H locs hP hD hS => ?_)
      have hP : va_P (gD G) vwC (wU G h dg ln ks la nx py fi (upd by1 la (vp_nar .byte (sb_b x))) de bt bk bn) H := hP
      have hD : va_D A (wU G h dg ln ks la nx py fi (upd by1 la (vp_nar .byte (sb_b x))) de bt bk bn) := hD
      refine lv_aload_n hx hb d_T_put_27 rfl (lv_at hl 0 rfl) ?_
      refine lv_dup hx hb d_T_put_28 rfl ?_
      refine va_get (D := gD G) (ci := 3) (v := .int (nI la)) (C := "WordShapes$Writer") (T := TT) (N := 10) hx hb hg iw_T hown hK hP 0 rfl rfl 6 (by decide) (hg _ tk_130) (fun _ h9 => h9) rfl d_T_put_29 ?_
      refine lv_iconst (v := nI 1) hx hb d_T_put_32 (by decide) ?_
      refine lv_iadd hx hb d_T_put_33 ?_
      refine y_eqi (nI_add _ _) ?_
      refine va_put (D := gD G) (ci := 3) (v := .int (nI (la + 1))) (ty := .int) (C := "WordShapes$Writer") (T := TT) (N := 10) hx hb hg iw_T ft_T fo_T nm_T hown hK hP hD hS 0 rfl rfl 6 (by decide) (hg _ tk_130) (fun _ h9 => h9) rfl (by decide +kernel) (rfl) (rfl) (Nat.le_of_ble_eq_true rfl) d_T_put_34 (fun H locs hP hD hS => ?_)
      have hP : va_P (gD G) vwC (wU G h dg ln ks (la + 1) nx py fi (upd by1 la (vp_nar .byte (sb_b x))) de bt bk bn) H := hP
      have hD : va_D A (wU G h dg ln ks (la + 1) nx py fi (upd by1 la (vp_nar .byte (sb_b x))) de bt bk bn) := hD
      exact yr_v (ws := wU G h dg ln ks (la + 1) nx py fi (upd by1 la (vp_nar .byte (sb_b x))) de bt bk bn) hx hb hrt hlocks (⟨rfl, by first | rw [if_neg (fun y => by rw [c4] at y; exact absurd y.1 (by decide))] | rw [if_neg (fun y => by omega)] | rw [if_pos ⟨c4, c13⟩]⟩) rfl hK hP hD hS d_T_put_37
theorem c_T_put (l : Launch) (G : gl) (h : Nat → Nat) (dg ln : Nat) (ks : Bool) (nx py : Nat) (fi : Bool) (by0 : Nat → Int32) (ou : List Nat) (de : Nat → Int32) (bt : Nat) (bk bn : Nat → Int32) (x : Nat) (hou : ou.length + 1 < 2 ^ 30) : YC l G y_T_put k_T_put 2 (Option.none : Option FieldType) 0 0 [.ref (h 0), .int (nI x)] (wT G h dg ln ks nx py fi by0 ou de bt bk bn) (fun v w => v = none ∧ w = wT G h dg ln ks nx py fi by0 (ou ++ [x]) de bt bk bn) (fun _ _ => False) := by
  have e : (if ks = true ∧ ou.length < 131072 then upd (wrF ks by0 ou) ou.length (vp_nar .byte (sb_b x)) else wrF ks by0 ou) = wrF ks by0 (ou ++ [x]) := by
    cases ks with
    | false => rw [if_neg (fun z => by cases z.1), wrF_no]
    | true =>
      by_cases q : ou.length < 131072
      · rw [if_pos ⟨rfl, q⟩, wrF_put x q]
      · rw [if_neg (fun z => q z.2), wrF_big x (by omega)]
  have e2 : ou.length + 1 = (ou ++ [x]).length := by rw [List.length_append, List.length_singleton]
  have h9 := c_T_putU l G h dg ln ks ou.length nx py fi (wrF ks by0 ou) de bt bk bn x hou
  rw [e, e2] at h9
  exact h9

set_option maxHeartbeats 4000000 in
set_option maxRecDepth 100000 in
theorem c_T_layWord (l : Launch) (G : gl) (h : Nat → Nat) (dg : Nat) (ln : Nat) (ks : Bool) (nx : Nat) (py : Nat) (fi : Bool) (by0 : Nat → Int32) (ou : List Nat) (de : Nat → Int32) (bt : Nat) (bk : Nat → Int32) (bn : Nat → Int32) (sa : Nat) (sv : Nat) (k9 : Nat) (hou : ou.length + 20 < 2 ^ 30) (hS1 : ∀ (A : Nat → Prop) (U : State) (H : Heap), EV G A U H → ST1 sa sv (wdI k9) A U H) : YC l G y_T_layWord k_T_layWord 3 (Option.none : Option FieldType) 4 85 [.ref (h 0), .ref sa] (wT G h dg ln ks nx py fi by0 ou de bt bk bn) (fun v w => v = none ∧ w = wT G h dg ln ks nx py fi by0 (ou ++ wdL k9) de bt bk bn) (fun _ _ => False) := by
  refine yc_of (by decide) ?_
  intro pg ev sx mm bl mt cd A C0 hP hD
  obtain ⟨hx, hb, hrt, hml, hown, hg, hlocks, hxt, hE, hK, hA, hmn⟩ := C0
  have hS : va_S A sx.heap sx.heap [] := va_S.rf
  have hl := lv_entry ([.ref (h 0), .ref sa]) (n := 3) (Nat.le_of_ble_eq_true rfl)
  rw [lg_entry_eq]
  generalize (lg_sl ([.ref (h 0), .ref sa]) ++ List.replicate (3 - (lg_sl ([.ref (h 0), .ref sa])).length) Slot.unset).toArray = ls at hl ⊢
  have hl : lv_has ls 3 [(0, .ref (h 0)), (1, .ref sa)] := hl
  have hwl := wdL_len k9
  obtain ⟨H, hH⟩ : ∃ H, H = sx.heap := ⟨_, rfl⟩
  rw [← hH] at hP
  have hS : va_S A sx.heap H [] := by rw [hH]; exact hS
  suffices h9 : W pg l ev (yR 4 85) sx mm _ bl mt cd H [] 0 0 (yMQ bl G A _ _ _ _ sx) (F0 mm 0 ls []) by rw [hH] at h9; exact h9
  obtain ⟨locs, hlo⟩ : ∃ locs : List Loc, locs = [] := ⟨_, rfl⟩
  rw [← hlo] at hS ⊢
  have J2 : ∀ (n9 : Nat) (i : Nat) (hm9 : (wdL k9).length - i < n9) (hi1 : i ≤ (wdL k9).length) (H : Heap) (locs : List Loc) (ls : Array Slot), va_P (gD G) vwC (wT G h dg ln ks nx py fi by0 (ou ++ (wdL k9).take i) de bt bk bn) H → va_D A (wT G h dg ln ks nx py fi by0 (ou ++ (wdL k9).take i) de bt bk bn) → va_S A sx.heap H locs → lv_has ls 3 [(0, .ref (h 0)), (1, .ref sa), (2, .int (nI i))] → W pg l ev (yR 4 85) sx mm ([.ref (h 0), .ref sa] : List Value).toArray bl mt cd H locs 0 0 (yMQ bl G A (wT G h dg ln ks nx py fi by0 ou de bt bk bn).length (fun v w => v = none ∧ w = wT G h dg ln ks nx py fi by0 (ou ++ wdL k9) de bt bk bn) (fun _ _ => False) ([.ref (h 0), .ref sa] : List Value).toArray sx) (F0 mm 2 ls []) := by
    intro n9
    induction n9 with
    | zero => intro i hm9; exact absurd hm9 (Nat.not_lt_zero _)
    | succ n9 ih9 =>
      intro i hm9 hi1 H locs ls hP hD hS hl
      have hlen9 : (ou ++ (wdL k9).take i).length ≤ ou.length + 18 := by rw [List.length_append, List.length_take]; omega
      refine lv_iload_n hx hb d_T_layWord_2 rfl (lv_at hl 2 rfl) ?_
      refine lv_aload_n hx hb d_T_layWord_3 rfl (lv_at hl 1 rfl) ?_
      refine y_call (y_runV (As := []) (rest := [.int (nI i)]) hx hb hml hown (c_JString_length l G  sa sv k9 (hS1)) (gV (n := 0) hg tk_587 tk_400 tk_401 tk_14 tk_402 (by decide +kernel) ⟨Nat.le_of_ble_eq_true rfl, Nat.le_of_ble_eq_true rfl⟩) (str_recv (hS1 _ _ _ hE) hS) (y_pre hE hK hP hD hS hA [] rfl rfl) rfl rfl hl.1 rfl (lv_room (Nat.le_of_ble_eq_true rfl)) d_T_layWord_4 ⟨Nat.le_of_ble_eq_true rfl, Nat.le_of_ble_eq_true rfl⟩) hP hD hS hA [] rfl (fun _ _ _ _ _ _ hp => False.elim hp) (fun v9 w9 H locs hp hlw hP hD hS => ?_)
      obtain ⟨rfl, rfl⟩ := hp
      have hP : va_P (gD G) vwC (wT G h dg ln ks nx py fi by0 (ou ++ (wdL k9).take i) de bt bk bn) H := hP
      have hD : va_D A (wT G h dg ln ks nx py fi by0 (ou ++ (wdL k9).take i) de bt bk bn) := hD
      refine W.eq (g2 := F0 mm 7 ls [.int (nI ((wdL k9).length)), .int (nI i)]) rfl ?_
      refine yn_icmp_ge (a := i) (b := (wdL k9).length) (tgt := 25) hx hb d_T_layWord_7 (by decide) (by omega) (by omega) (fun c7 => ?_) (fun c7 => ?_)
      · skip
        rw [List.take_of_length_le (by omega)] at hP hD
        exact yr_v (ws := wT G h dg ln ks nx py fi by0 (ou ++ wdL k9) de bt bk bn) hx hb hrt hlocks (⟨rfl, rfl⟩) rfl hK hP hD hS d_T_layWord_25
      · skip
        refine lv_aload_n hx hb d_T_layWord_10 rfl (lv_at hl 0 rfl) ?_
        refine lv_aload_n hx hb d_T_layWord_11 rfl (lv_at hl 1 rfl) ?_
        refine lv_iload_n hx hb d_T_layWord_12 rfl (lv_at hl 2 rfl) ?_
        refine y_call (y_runV (As := [.int (nI i)]) (rest := [.ref (h 0)]) hx hb hml hown (c_JString_charAt l G  sa sv k9 i (hS1) (by omega)) (gV (n := 1) hg tk_588 tk_410 tk_411 tk_14 tk_412 (by decide +kernel) ⟨Nat.le_of_ble_eq_true rfl, Nat.le_of_ble_eq_true rfl⟩) (str_recv (hS1 _ _ _ hE) hS) (y_pre hE hK hP hD hS hA [] rfl rfl) rfl rfl hl.1 rfl (lv_room (Nat.le_of_ble_eq_true rfl)) d_T_layWord_13 ⟨Nat.le_of_ble_eq_true rfl, Nat.le_of_ble_eq_true rfl⟩) hP hD hS hA [] rfl (fun _ _ _ _ _ _ hp => False.elim hp) (fun v9 w9 H locs hp hlw hP hD hS => ?_)
        obtain ⟨rfl, rfl⟩ := hp
        have hP : va_P (gD G) vwC (wT G h dg ln ks nx py fi by0 (ou ++ (wdL k9).take i) de bt bk bn) H := hP
        have hD : va_D A (wT G h dg ln ks nx py fi by0 (ou ++ (wdL k9).take i) de bt bk bn) := hD
        refine W.eq (g2 := F0 mm 16 ls [.int (nI (wdC k9 i)), .ref (h 0)]) rfl ?_
        refine y_call (y_runV (As := [.int (nI (wdC k9 i))]) (rest := []) hx hb hml hown (c_T_put l G h dg ln ks nx py fi by0 (ou ++ (wdL k9).take i) de bt bk bn (wdC k9 i) (by omega)) (gV (n := 1) hg tk_572 tk_574 (gt_s 25 (by decide +kernel) (by decide +kernel)) tk_6 tk_575 (by decide +kernel) ⟨Nat.le_of_ble_eq_true rfl, Nat.le_of_ble_eq_true rfl⟩) (va_recv hK hP (ci := 3) (q0 := 0) rfl rfl) (y_pre hE hK hP hD hS hA [0, 1, 2, 3, 4, 5] rfl rfl) rfl rfl hl.1 rfl (lv_room (Nat.le_of_ble_eq_true rfl)) d_T_layWord_16 ⟨Nat.le_of_ble_eq_true rfl, Nat.le_of_ble_eq_true rfl⟩) hP hD hS hA [0, 1, 2, 3, 4, 5] rfl (fun _ _ _ _ _ _ hp => False.elim hp) (fun v9 w9 H locs hp hlw hP hD hS => ?_)
        obtain ⟨rfl, rfl⟩ := hp
        have hP : va_P (gD G) vwC (wT G h dg ln ks nx py fi by0 ((ou ++ (wdL k9).take i) ++ [(wdC k9 i)]) de bt bk bn) H := hP
        have hD : va_D A (wT G h dg ln ks nx py fi by0 ((ou ++ (wdL k9).take i) ++ [(wdC k9 i)]) de bt bk bn) := hD
        refine W.eq (g2 := F0 mm 19 ls []) rfl ?_
        rw [show ou ++ List.take i (wdL k9) ++ [wdC k9 i] = ou ++ List.take (i + 1) (wdL k9) by rw [take_s c7, List.append_assoc]] at hP hD
        refine lv_iinc (v := nI (i + 1)) (lv' := [(2, .int (nI (i + 1))), (0, .ref (h 0)), (1, .ref sa)]) hx hb d_T_layWord_19 hl (k := 2) rfl (y_inc _) (by decide) rfl (fun ls hl => ?_)
        refine lv_goto (tgt := 2) hx hb d_T_layWord_22 (by decide) ?_
        exact ih9 (i + 1) (by omega) (by omega) _ _ _ hP hD hS (lv_sub hl [1, 2, 0] (rfl))
  refine lv_iconst (v := nI 0) hx hb d_T_layWord_0 (by decide) ?_
  refine lv_istore_n (lv' := [(2, .int (nI 0)), (0, .ref (h 0)), (1, .ref sa)]) hx hb d_T_layWord_1 rfl hl (by decide) rfl (fun ls hl => ?_)
  rw [← show ou ++ (wdL k9).take 0 = ou by simp] at hP hD
  exact J2 _ 0 (Nat.lt_succ_self _) (by omega) _ _ _ hP hD hS (lv_sub hl [1, 2, 0] (rfl))
set_option maxHeartbeats 4000000 in
set_option maxRecDepth 100000 in
theorem c_T_layNumber (l : Launch) (G : gl) (h : Nat → Nat) (dg : Nat) (ln : Nat) (ks : Bool) (nx : Nat) (py : Nat) (fi : Bool) (by0 : Nat → Int32) (ou : List Nat) (de : Nat → Int32) (bt : Nat) (bk : Nat → Int32) (bn : Nat → Int32) (x : Int32) (a : Nat) (hou : ou.length + 30 < 2 ^ 30) (hdg : dg ≤ 3) (ha : a ≤ 1000000000) (hxa : x = nI a ∨ (x = -nI a ∧ 0 < a)) : YC l G y_T_layNumber k_T_layNumber 6 (Option.none : Option FieldType) 1 21 [.ref (h 0), .int x] (wT G h dg ln ks nx py fi by0 ou de bt bk bn) (fun v w => ∃ de9, v = none ∧ w = wT G h dg ln ks nx py fi by0 (ou ++ (sgT x ++ nmL dg a)) de9 bt bk bn) (fun _ _ => False) := by
  refine yc_of (by decide) ?_
  intro pg ev sx mm bl mt cd A C0 hP hD
  obtain ⟨hx, hb, hrt, hml, hown, hg, hlocks, hxt, hE, hK, hA, hmn⟩ := C0
  have hS : va_S A sx.heap sx.heap [] := va_S.rf
  have hl := lv_entry ([.ref (h 0), .int x]) (n := 6) (Nat.le_of_ble_eq_true rfl)
  rw [lg_entry_eq]
  generalize (lg_sl ([.ref (h 0), .int x]) ++ List.replicate (6 - (lg_sl ([.ref (h 0), .int x])).length) Slot.unset).toArray = ls at hl ⊢
  have hl : lv_has ls 6 [(0, .ref (h 0)), (1, .int x)] := hl
  have hx0 : 0 ≤ x → x = nI a := fun y => by rcases hxa with z | ⟨z, z2⟩; exact z; exact absurd y (by rw [z]; exact neg_nle z2 (by omega))
  have hx1 : ¬ 0 ≤ x → x = -nI a := fun y => by rcases hxa with z | ⟨z, z2⟩; exact absurd (by rw [z]; exact nI_pos' (by omega)) y; exact z
  obtain ⟨H, hH⟩ : ∃ H, H = sx.heap := ⟨_, rfl⟩
  rw [← hH] at hP
  have hS : va_S A sx.heap H [] := by rw [hH]; exact hS
  suffices h9 : W pg l ev (yR 1 21) sx mm _ bl mt cd H [] 0 0 (yMQ bl G A _ _ _ _ sx) (F0 mm 0 ls []) by rw [hH] at h9; exact h9
  obtain ⟨locs, hlo⟩ : ∃ locs : List Loc, locs = [] := ⟨_, rfl⟩
  rw [← hlo] at hS ⊢
  have J95 : ∀ (n9 : Nat) (w : Nat) (o2 : List Nat) (d2 : Nat → Int32) (hm9 : w < n9) (hd : ∀ i, i < nmA a dg 12 0 → d2 i = nI (a / 10 ^ i % 10)) (hw : w ≤ nmA a dg 12 0) (hu2 : nmA a dg 12 0 ≤ 12) (hl2 : lwA a dg 0 ≤ 3) (ho2 : o2.length + 2 * w ≤ ou.length + 26) (ho : o2 ++ ndL a dg (lwA a dg 0) w = ou ++ (sgT x ++ nmL dg a)) (H : Heap) (locs : List Loc) (ls : Array Slot), va_P (gD G) vwC (wT G h dg ln ks nx py fi by0 o2 d2 bt bk bn) H → va_D A (wT G h dg ln ks nx py fi by0 o2 d2 bt bk bn) → va_S A sx.heap H locs → lv_has ls 6 [(0, .ref (h 0)), (4, .int (nI (lwA a dg 0))), (5, .int (nI w - nI 1))] → W pg l ev (yR 1 21) sx mm ([.ref (h 0), .int x] : List Value).toArray bl mt cd H locs 0 0 (yMQ bl G A (wT G h dg ln ks nx py fi by0 ou de bt bk bn).length (fun v w => ∃ de9, v = none ∧ w = wT G h dg ln ks nx py fi by0 (ou ++ (sgT x ++ nmL dg a)) de9 bt bk bn) (fun _ _ => False) ([.ref (h 0), .int x] : List Value).toArray sx) (F0 mm 95 ls []) := by
    intro n9
    induction n9 with
    | zero => intro w o2 d2 hm9; exact absurd hm9 (Nat.not_lt_zero _)
    | succ n9 ih9 =>
      intro w o2 d2 hm9 hd hw hu2 hl2 ho2 ho H locs ls hP hD hS hl
      refine lv_iload hx hb d_T_layNumber_95 (lv_at hl 2 rfl) ?_
      refine lv_iload hx hb d_T_layNumber_97 (lv_at hl 1 rfl) ?_
      refine lv_icmp_lt (tgt := 139) hx hb d_T_layNumber_99 (by decide) (fun c99 => ?_) (fun c99 => ?_)
      · skip
        rw [lt_w (by omega) (by omega)] at c99
        rw [ndL_stop c99, List.append_nil] at ho
        rw [ho] at hP hD
        exact yr_v (ws := wT G h dg ln ks nx py fi by0 (ou ++ (sgT x ++ nmL dg a)) d2 bt bk bn) hx hb hrt hlocks (⟨_, rfl, rfl⟩) rfl hK hP hD hS d_T_layNumber_139
      · skip
        rw [lt_w (by omega) (by omega)] at c99
        obtain ⟨i, rfl⟩ : ∃ i, w = i + 1 := ⟨w - 1, by omega⟩
        have c99 : lwA a dg 0 ≤ i := by omega
        rw [show nI (i + 1) - nI 1 = nI i from nI_pred i] at hl
        refine lv_iload hx hb d_T_layNumber_102 (lv_at hl 2 rfl) ?_
        refine lv_aload_n hx hb d_T_layNumber_104 rfl (lv_at hl 0 rfl) ?_
        refine va_get (D := gD G) (ci := 3) (v := .int (nI dg)) (C := "WordShapes$Writer") (T := TT) (N := 10) hx hb hg iw_T hown hK hP 0 rfl rfl 1 (by decide) (hg _ tk_125) (fun _ h9 => h9) rfl d_T_layNumber_105 ?_
        refine lv_iconst (v := nI 1) hx hb d_T_layNumber_108 (by decide) ?_
        refine lv_isub hx hb d_T_layNumber_109 ?_
        refine y_eqi (y := nI dg - nI 1) (rfl) ?_
        refine lv_icmp_ne (tgt := 119) hx hb d_T_layNumber_110 (by decide) (fun c110 => ?_) (fun c110 => ?_)
        · skip
          rw [eq_w (by omega) (by omega)] at c110
          refine lv_aload_n hx hb d_T_layNumber_119 rfl (lv_at hl 0 rfl) ?_
          refine lv_bipush (v := nI 48) hx hb d_T_layNumber_120 (by decide) ?_
          refine lv_aload_n hx hb d_T_layNumber_122 rfl (lv_at hl 0 rfl) ?_
          refine va_get (D := gD G) (ci := 3) (v := .ref (h 2)) (C := "WordShapes$Writer") (T := TT) (N := 10) hx hb hg iw_T hown hK hP 0 rfl rfl 2 (by decide) (hg _ tk_126) (fun _ h9 => h9) rfl d_T_layNumber_123 ?_
          refine lv_iload hx hb d_T_layNumber_126 (lv_at hl 2 rfl) ?_
          refine yn_iald hx hb hK hP 2 0 rfl rfl (j := i) (x := nI (a / 10 ^ i % 10)) (hd i (by omega)) (by omega) (by omega) d_T_layNumber_128 ?_
          refine lv_iadd hx hb d_T_layNumber_129 ?_
          refine y_eqi (nI_add _ _) ?_
          refine y_call (y_runV (As := [.int (nI (48 + a / 10 ^ i % 10))]) (rest := []) hx hb hml hown (c_T_put l G h dg ln ks nx py fi by0 o2 d2 bt bk bn (48 + a / 10 ^ i % 10) (by first | omega | (simp only [List.length_append, List.length_singleton]; omega))) (gV (n := 1) hg tk_572 tk_574 (gt_s 25 (by decide +kernel) (by decide +kernel)) tk_6 tk_575 (by decide +kernel) ⟨Nat.le_of_ble_eq_true rfl, Nat.le_of_ble_eq_true rfl⟩) (va_recv hK hP (ci := 3) (q0 := 0) rfl rfl) (y_pre hE hK hP hD hS hA [0, 1, 2, 3, 4, 5] rfl rfl) rfl rfl hl.1 rfl (lv_room (Nat.le_of_ble_eq_true rfl)) d_T_layNumber_130 ⟨Nat.le_of_ble_eq_true rfl, Nat.le_of_ble_eq_true rfl⟩) hP hD hS hA [0, 1, 2, 3, 4, 5] rfl (fun _ _ _ _ _ _ hp => False.elim hp) (fun v9 w9 H locs hp hlw hP hD hS => ?_)
          obtain ⟨rfl, rfl⟩ := hp
          have hP : va_P (gD G) vwC (wT G h dg ln ks nx py fi by0 (o2 ++ [(48 + a / 10 ^ i % 10)]) d2 bt bk bn) H := hP
          have hD : va_D A (wT G h dg ln ks nx py fi by0 (o2 ++ [(48 + a / 10 ^ i % 10)]) d2 bt bk bn) := hD
          refine W.eq (g2 := F0 mm 133 ls []) rfl ?_
          refine lv_iinc (v := nI i - nI 1) (lv' := [(5, .int (nI i - nI 1)), (0, .ref (h 0)), (4, .int (nI (lwA a dg 0)))]) hx hb d_T_layNumber_133 hl (k := 2) rfl (y_decI i) (by decide) rfl (fun ls hl => ?_)
          refine lv_goto (tgt := 95) hx hb d_T_layNumber_136 (by decide) ?_
          exact ih9 i (o2 ++ [(48 + a / 10 ^ i % 10)]) d2 (by omega) (hd) (by omega) (hu2) (hl2) (by simp only [List.length_append, List.length_singleton]; omega) (by rw [← ho, ndL_go c99]; (first | rw [if_pos c110] | rw [if_neg c110]); simp only [List.append_assoc, List.nil_append]) _ _ _ hP hD hS (lv_sub hl [1, 2, 0] (rfl))
        · skip
          rw [eq_w (by omega) (by omega)] at c110
          refine lv_aload_n hx hb d_T_layNumber_113 rfl (lv_at hl 0 rfl) ?_
          refine lv_bipush (v := nI 46) hx hb d_T_layNumber_114 (by decide) ?_
          refine y_call (y_runV (As := [.int (nI 46)]) (rest := []) hx hb hml hown (c_T_put l G h dg ln ks nx py fi by0 o2 d2 bt bk bn 46 (by omega)) (gV (n := 1) hg tk_572 tk_574 (gt_s 25 (by decide +kernel) (by decide +kernel)) tk_6 tk_575 (by decide +kernel) ⟨Nat.le_of_ble_eq_true rfl, Nat.le_of_ble_eq_true rfl⟩) (va_recv hK hP (ci := 3) (q0 := 0) rfl rfl) (y_pre hE hK hP hD hS hA [0, 1, 2, 3, 4, 5] rfl rfl) rfl rfl hl.1 rfl (lv_room (Nat.le_of_ble_eq_true rfl)) d_T_layNumber_116 ⟨Nat.le_of_ble_eq_true rfl, Nat.le_of_ble_eq_true rfl⟩) hP hD hS hA [0, 1, 2, 3, 4, 5] rfl (fun _ _ _ _ _ _ hp => False.elim hp) (fun v9 w9 H locs hp hlw hP hD hS => ?_)
          obtain ⟨rfl, rfl⟩ := hp
          have hP : va_P (gD G) vwC (wT G h dg ln ks nx py fi by0 (o2 ++ [46]) d2 bt bk bn) H := hP
          have hD : va_D A (wT G h dg ln ks nx py fi by0 (o2 ++ [46]) d2 bt bk bn) := hD
          refine W.eq (g2 := F0 mm 119 ls []) rfl ?_
          refine lv_aload_n hx hb d_T_layNumber_119 rfl (lv_at hl 0 rfl) ?_
          refine lv_bipush (v := nI 48) hx hb d_T_layNumber_120 (by decide) ?_
          refine lv_aload_n hx hb d_T_layNumber_122 rfl (lv_at hl 0 rfl) ?_
          refine va_get (D := gD G) (ci := 3) (v := .ref (h 2)) (C := "WordShapes$Writer") (T := TT) (N := 10) hx hb hg iw_T hown hK hP 0 rfl rfl 2 (by decide) (hg _ tk_126) (fun _ h9 => h9) rfl d_T_layNumber_123 ?_
          refine lv_iload hx hb d_T_layNumber_126 (lv_at hl 2 rfl) ?_
          refine yn_iald hx hb hK hP 2 0 rfl rfl (j := i) (x := nI (a / 10 ^ i % 10)) (hd i (by omega)) (by omega) (by omega) d_T_layNumber_128 ?_
          refine lv_iadd hx hb d_T_layNumber_129 ?_
          refine y_eqi (nI_add _ _) ?_
          refine y_call (y_runV (As := [.int (nI (48 + a / 10 ^ i % 10))]) (rest := []) hx hb hml hown (c_T_put l G h dg ln ks nx py fi by0 (o2 ++ [46]) d2 bt bk bn (48 + a / 10 ^ i % 10) (by first | omega | (simp only [List.length_append, List.length_singleton]; omega))) (gV (n := 1) hg tk_572 tk_574 (gt_s 25 (by decide +kernel) (by decide +kernel)) tk_6 tk_575 (by decide +kernel) ⟨Nat.le_of_ble_eq_true rfl, Nat.le_of_ble_eq_true rfl⟩) (va_recv hK hP (ci := 3) (q0 := 0) rfl rfl) (y_pre hE hK hP hD hS hA [0, 1, 2, 3, 4, 5] rfl rfl) rfl rfl hl.1 rfl (lv_room (Nat.le_of_ble_eq_true rfl)) d_T_layNumber_130 ⟨Nat.le_of_ble_eq_true rfl, Nat.le_of_ble_eq_true rfl⟩) hP hD hS hA [0, 1, 2, 3, 4, 5] rfl (fun _ _ _ _ _ _ hp => False.elim hp) (fun v9 w9 H locs hp hlw hP hD hS => ?_)
          obtain ⟨rfl, rfl⟩ := hp
          have hP : va_P (gD G) vwC (wT G h dg ln ks nx py fi by0 ((o2 ++ [46]) ++ [(48 + a / 10 ^ i % 10)]) d2 bt bk bn) H := hP
          have hD : va_D A (wT G h dg ln ks nx py fi by0 ((o2 ++ [46]) ++ [(48 + a / 10 ^ i % 10)]) d2 bt bk bn) := hD
          refine W.eq (g2 := F0 mm 133 ls []) rfl ?_
          refine lv_iinc (v := nI i - nI 1) (lv' := [(5, .int (nI i - nI 1)), (0, .ref (h 0)), (4, .int (nI (lwA a dg 0)))]) hx hb d_T_layNumber_133 hl (k := 2) rfl (y_decI i) (by decide) rfl (fun ls hl => ?_)
          refine lv_goto (tgt := 95) hx hb d_T_layNumber_136 (by decide) ?_
          exact ih9 i ((o2 ++ [46]) ++ [(48 + a / 10 ^ i % 10)]) d2 (by omega) (hd) (by omega) (hu2) (hl2) (by simp only [List.length_append, List.length_singleton]; omega) (by rw [← ho, ndL_go c99]; (first | rw [if_pos c110] | rw [if_neg c110]); simp only [List.append_assoc, List.nil_append]) _ _ _ hP hD hS (lv_sub hl [1, 2, 0] (rfl))
  have J65 : ∀ (n9 : Nat) (lo : Nat) (d2 : Nat → Int32) (hm9 : dg - lo < n9) (hd : ∀ i, i < nmA a dg 12 0 → d2 i = nI (a / 10 ^ i % 10)) (hu1 : dg < nmA a dg 12 0) (hu2 : nmA a dg 12 0 ≤ 12) (hlo : lo ≤ dg) (hl9 : lwA a dg 0 = lwA a (dg - lo) lo) (H : Heap) (locs : List Loc) (ls : Array Slot), va_P (gD G) vwC (wT G h dg ln ks nx py fi by0 (ou ++ sgT x) d2 bt bk bn) H → va_D A (wT G h dg ln ks nx py fi by0 (ou ++ sgT x) d2 bt bk bn) → va_S A sx.heap H locs → lv_has ls 6 [(0, .ref (h 0)), (3, .int (nI (nmA a dg 12 0))), (4, .int (nI lo))] → W pg l ev (yR 1 21) sx mm ([.ref (h 0), .int x] : List Value).toArray bl mt cd H locs 0 0 (yMQ bl G A (wT G h dg ln ks nx py fi by0 ou de bt bk bn).length (fun v w => ∃ de9, v = none ∧ w = wT G h dg ln ks nx py fi by0 (ou ++ (sgT x ++ nmL dg a)) de9 bt bk bn) (fun _ _ => False) ([.ref (h 0), .int x] : List Value).toArray sx) (F0 mm 65 ls []) := by
    intro n9
    induction n9 with
    | zero => intro lo d2 hm9; exact absurd hm9 (Nat.not_lt_zero _)
    | succ n9 ih9 =>
      intro lo d2 hm9 hd hu1 hu2 hlo hl9 H locs ls hP hD hS hl
      refine lv_iload hx hb d_T_layNumber_65 (lv_at hl 2 rfl) ?_
      refine lv_aload_n hx hb d_T_layNumber_67 rfl (lv_at hl 0 rfl) ?_
      refine va_get (D := gD G) (ci := 3) (v := .int (nI dg)) (C := "WordShapes$Writer") (T := TT) (N := 10) hx hb hg iw_T hown hK hP 0 rfl rfl 1 (by decide) (hg _ tk_125) (fun _ h9 => h9) rfl d_T_layNumber_68 ?_
      refine yn_icmp_ge (a := lo) (b := dg) (tgt := 90) hx hb d_T_layNumber_71 (by decide) (by omega) (by omega) (fun c71 => ?_) (fun c71 => ?_)
      · skip
        have el : lwA a dg 0 = lo := hl9.trans (by first | exact lwA_e c71 | exact lwA_d (by omega) c81)
        rw [← el] at hl
        refine lv_iload_n hx hb d_T_layNumber_90 rfl (lv_at hl 1 rfl) ?_
        refine lv_iconst (v := nI 1) hx hb d_T_layNumber_91 (by decide) ?_
        refine lv_isub hx hb d_T_layNumber_92 ?_
        refine y_eqi (y := nI (nmA a dg 12 0) - nI 1) (rfl) ?_
        refine lv_istore (lv' := [(5, .int (nI (nmA a dg 12 0) - nI 1)), (0, .ref (h 0)), (3, .int (nI (nmA a dg 12 0))), (4, .int (nI (lwA a dg 0)))]) hx hb d_T_layNumber_93 hl (by decide) rfl (fun ls hl => ?_)
        exact J95 _ (nmA a dg 12 0) (ou ++ sgT x) d2 (Nat.lt_succ_self _) (hd) (by omega) (hu2) (by rw [el]; omega) (by rw [List.length_append]; have : (sgT x).length ≤ 1 := (by unfold sgT; split <;> decide); omega) (by rw [List.append_assoc]; rfl) _ _ _ hP hD hS (lv_sub hl [1, 3, 0] (rfl))
      · skip
        refine lv_aload_n hx hb d_T_layNumber_74 rfl (lv_at hl 0 rfl) ?_
        refine va_get (D := gD G) (ci := 3) (v := .ref (h 2)) (C := "WordShapes$Writer") (T := TT) (N := 10) hx hb hg iw_T hown hK hP 0 rfl rfl 2 (by decide) (hg _ tk_126) (fun _ h9 => h9) rfl d_T_layNumber_75 ?_
        refine lv_iload hx hb d_T_layNumber_78 (lv_at hl 2 rfl) ?_
        refine yn_iald hx hb hK hP 2 0 rfl rfl (j := lo) (x := nI (a / 10 ^ lo % 10)) (hd lo (by omega)) (by omega) (by omega) d_T_layNumber_80 ?_
        refine yn_if_ne (a := a / 10 ^ lo % 10) (tgt := 90) hx hb d_T_layNumber_81 (by decide) (by omega) (fun c81 => ?_) (fun c81 => ?_)
        · skip
          have el : lwA a dg 0 = lo := hl9.trans (by first | exact lwA_e c71 | exact lwA_d (by omega) c81)
          rw [← el] at hl
          refine lv_iload_n hx hb d_T_layNumber_90 rfl (lv_at hl 1 rfl) ?_
          refine lv_iconst (v := nI 1) hx hb d_T_layNumber_91 (by decide) ?_
          refine lv_isub hx hb d_T_layNumber_92 ?_
          refine y_eqi (y := nI (nmA a dg 12 0) - nI 1) (rfl) ?_
          refine lv_istore (lv' := [(5, .int (nI (nmA a dg 12 0) - nI 1)), (0, .ref (h 0)), (3, .int (nI (nmA a dg 12 0))), (4, .int (nI (lwA a dg 0)))]) hx hb d_T_layNumber_93 hl (by decide) rfl (fun ls hl => ?_)
          exact J95 _ (nmA a dg 12 0) (ou ++ sgT x) d2 (Nat.lt_succ_self _) (hd) (by omega) (hu2) (by rw [el]; omega) (by rw [List.length_append]; have : (sgT x).length ≤ 1 := (by unfold sgT; split <;> decide); omega) (by rw [List.append_assoc]; rfl) _ _ _ hP hD hS (lv_sub hl [1, 3, 0] (rfl))
        · skip
          refine lv_iinc (v := nI (lo + 1)) (lv' := [(4, .int (nI (lo + 1))), (0, .ref (h 0)), (3, .int (nI (nmA a dg 12 0)))]) hx hb d_T_layNumber_84 hl (k := 2) rfl (y_inc _) (by decide) rfl (fun ls hl => ?_)
          refine lv_goto (tgt := 65) hx hb d_T_layNumber_87 (by decide) ?_
          exact ih9 (lo + 1) d2 (by omega) (hd) (hu1) (hu2) (by omega) (hl9.trans (lwA_s c71 c81)) _ _ _ hP hD hS (lv_sub hl [1, 2, 0] (rfl))
  have J23 : ∀ (n9 : Nat) (u : Nat) (r : Nat) (d2 : Nat → Int32) (hm9 : 12 - u < n9) (hu : u ≤ 12) (hr9 : r = a / 10 ^ u) (hd : ∀ i, i < u → d2 i = nI (a / 10 ^ i % 10)) (hn : nmA a dg 12 0 = nmA a dg (12 - u) u) (H : Heap) (locs : List Loc) (ls : Array Slot), va_P (gD G) vwC (wT G h dg ln ks nx py fi by0 (ou ++ sgT x) d2 bt bk bn) H → va_D A (wT G h dg ln ks nx py fi by0 (ou ++ sgT x) d2 bt bk bn) → va_S A sx.heap H locs → lv_has ls 6 [(0, .ref (h 0)), (2, .int (nI r)), (3, .int (nI u))] → W pg l ev (yR 1 21) sx mm ([.ref (h 0), .int x] : List Value).toArray bl mt cd H locs 0 0 (yMQ bl G A (wT G h dg ln ks nx py fi by0 ou de bt bk bn).length (fun v w => ∃ de9, v = none ∧ w = wT G h dg ln ks nx py fi by0 (ou ++ (sgT x ++ nmL dg a)) de9 bt bk bn) (fun _ _ => False) ([.ref (h 0), .int x] : List Value).toArray sx) (F0 mm 23 ls []) := by
    intro n9
    induction n9 with
    | zero => intro u r d2 hm9; exact absurd hm9 (Nat.not_lt_zero _)
    | succ n9 ih9 =>
      intro u r d2 hm9 hu hr9 hd hn H locs ls hP hD hS hl
      have hr9b : r ≤ 1000000000 := by rw [hr9]; exact Nat.le_trans (Nat.div_le_self _ _) ha
      refine lv_iload_n hx hb d_T_layNumber_23 rfl (lv_at hl 2 rfl) ?_
      refine lv_bipush (v := nI 12) hx hb d_T_layNumber_24 (by decide) ?_
      refine yn_icmp_ge (a := u) (b := 12) (tgt := 62) hx hb d_T_layNumber_26 (by decide) (by omega) (by omega) (fun c26 => ?_) (fun c26 => ?_)
      · skip
        have eu : nmA a dg 12 0 = u := hn.trans (by first | exact nmA_e c26 | exact nmA_d (by omega) (fun y => by first | omega | (rcases y with y | y; omega; rw [← hr9] at y; omega)))
        have hu0 : dg < u := by first | omega
        rw [← eu] at hl
        refine lv_iconst (v := nI 0) hx hb d_T_layNumber_62 (by decide) ?_
        refine lv_istore (lv' := [(4, .int (nI 0)), (0, .ref (h 0)), (2, .int (nI r)), (3, .int (nI (nmA a dg 12 0)))]) hx hb d_T_layNumber_63 hl (by decide) rfl (fun ls hl => ?_)
        exact J65 _ 0 d2 (Nat.lt_succ_self _) (by rw [eu]; exact hd) (by omega) (by omega) (by omega) (rfl) _ _ _ hP hD hS (lv_sub hl [1, 3, 0] (rfl))
      · skip
        refine lv_iload_n hx hb d_T_layNumber_29 rfl (lv_at hl 2 rfl) ?_
        refine lv_aload_n hx hb d_T_layNumber_30 rfl (lv_at hl 0 rfl) ?_
        refine va_get (D := gD G) (ci := 3) (v := .int (nI dg)) (C := "WordShapes$Writer") (T := TT) (N := 10) hx hb hg iw_T hown hK hP 0 rfl rfl 1 (by decide) (hg _ tk_125) (fun _ h9 => h9) rfl d_T_layNumber_31 ?_
        refine yn_icmp_le (a := u) (b := dg) (tgt := 41) hx hb d_T_layNumber_34 (by decide) (by omega) (by omega) (fun c34 => ?_) (fun c34 => ?_)
        · skip
          refine lv_aload_n hx hb d_T_layNumber_41 rfl (lv_at hl 0 rfl) ?_
          refine va_get (D := gD G) (ci := 3) (v := .ref (h 2)) (C := "WordShapes$Writer") (T := TT) (N := 10) hx hb hg iw_T hown hK hP 0 rfl rfl 2 (by decide) (hg _ tk_126) (fun _ h9 => h9) rfl d_T_layNumber_42 ?_
          refine lv_iload_n hx hb d_T_layNumber_45 rfl (lv_at hl 2 rfl) ?_
          refine lv_iload_n hx hb d_T_layNumber_46 rfl (lv_at hl 1 rfl) ?_
          refine lv_bipush (v := nI 10) hx hb d_T_layNumber_47 (by decide) ?_
          refine lv_irem hx hb d_T_layNumber_49 (by decide) ?_
          refine y_eqi (y := nI (r % 10)) (pk_rem (by omega) (by decide) (by decide)) ?_
          refine yn_iast hx hb hK hP hD hS 2 0 rfl rfl (j := u) (x := nI (r % 10)) (f1 := upd d2 u (nI (r % 10))) (rfl) (by omega) (by omega) d_T_layNumber_50 (fun H locs hP hD hS => ?_)
          have hP : va_P (gD G) vwC (wT G h dg ln ks nx py fi by0 (ou ++ sgT x) (upd d2 u (nI (r % 10))) bt bk bn) H := hP
          have hD : va_D A (wT G h dg ln ks nx py fi by0 (ou ++ sgT x) (upd d2 u (nI (r % 10))) bt bk bn) := hD
          refine lv_iload_n hx hb d_T_layNumber_51 rfl (lv_at hl 1 rfl) ?_
          refine lv_bipush (v := nI 10) hx hb d_T_layNumber_52 (by decide) ?_
          refine lv_idiv hx hb d_T_layNumber_54 (by decide) ?_
          refine y_eqi (y := nI (r / 10)) (pk_div (by omega) (by decide) (by decide)) ?_
          refine lv_istore_n (lv' := [(2, .int (nI (r / 10))), (0, .ref (h 0)), (3, .int (nI u))]) hx hb d_T_layNumber_55 rfl hl (by decide) rfl (fun ls hl => ?_)
          refine lv_iinc (v := nI (u + 1)) (lv' := [(3, .int (nI (u + 1))), (2, .int (nI (r / 10))), (0, .ref (h 0))]) hx hb d_T_layNumber_56 hl (k := 2) rfl (y_inc _) (by decide) rfl (fun ls hl => ?_)
          refine lv_goto (tgt := 23) hx hb d_T_layNumber_59 (by decide) ?_
          exact ih9 (u + 1) (r / 10) (upd d2 u (nI (r % 10))) (by omega) (by omega) (by rw [hr9, Nat.div_div_eq_div_mul, Nat.pow_succ]) (fun i hi => by unfold upd; split; (next y => rw [y, hr9]); (next y => exact hd i (by omega))) (hn.trans (nmA_s c26 (by first | exact Or.inl c34 | exact Or.inr (by rw [← hr9]; exact c38)))) _ _ _ hP hD hS (lv_sub hl [2, 1, 0] (rfl))
        · skip
          refine lv_iload_n hx hb d_T_layNumber_37 rfl (lv_at hl 1 rfl) ?_
          refine yn_if_le (a := r) (tgt := 62) hx hb d_T_layNumber_38 (by decide) (by omega) (fun c38 => ?_) (fun c38 => ?_)
          · skip
            have eu : nmA a dg 12 0 = u := hn.trans (by first | exact nmA_e c26 | exact nmA_d (by omega) (fun y => by first | omega | (rcases y with y | y; omega; rw [← hr9] at y; omega)))
            have hu0 : dg < u := by first | omega
            rw [← eu] at hl
            refine lv_iconst (v := nI 0) hx hb d_T_layNumber_62 (by decide) ?_
            refine lv_istore (lv' := [(4, .int (nI 0)), (0, .ref (h 0)), (2, .int (nI r)), (3, .int (nI (nmA a dg 12 0)))]) hx hb d_T_layNumber_63 hl (by decide) rfl (fun ls hl => ?_)
            exact J65 _ 0 d2 (Nat.lt_succ_self _) (by rw [eu]; exact hd) (by omega) (by omega) (by omega) (rfl) _ _ _ hP hD hS (lv_sub hl [1, 3, 0] (rfl))
          · skip
            refine lv_aload_n hx hb d_T_layNumber_41 rfl (lv_at hl 0 rfl) ?_
            refine va_get (D := gD G) (ci := 3) (v := .ref (h 2)) (C := "WordShapes$Writer") (T := TT) (N := 10) hx hb hg iw_T hown hK hP 0 rfl rfl 2 (by decide) (hg _ tk_126) (fun _ h9 => h9) rfl d_T_layNumber_42 ?_
            refine lv_iload_n hx hb d_T_layNumber_45 rfl (lv_at hl 2 rfl) ?_
            refine lv_iload_n hx hb d_T_layNumber_46 rfl (lv_at hl 1 rfl) ?_
            refine lv_bipush (v := nI 10) hx hb d_T_layNumber_47 (by decide) ?_
            refine lv_irem hx hb d_T_layNumber_49 (by decide) ?_
            refine y_eqi (y := nI (r % 10)) (pk_rem (by omega) (by decide) (by decide)) ?_
            refine yn_iast hx hb hK hP hD hS 2 0 rfl rfl (j := u) (x := nI (r % 10)) (f1 := upd d2 u (nI (r % 10))) (rfl) (by omega) (by omega) d_T_layNumber_50 (fun H locs hP hD hS => ?_)
            have hP : va_P (gD G) vwC (wT G h dg ln ks nx py fi by0 (ou ++ sgT x) (upd d2 u (nI (r % 10))) bt bk bn) H := hP
            have hD : va_D A (wT G h dg ln ks nx py fi by0 (ou ++ sgT x) (upd d2 u (nI (r % 10))) bt bk bn) := hD
            refine lv_iload_n hx hb d_T_layNumber_51 rfl (lv_at hl 1 rfl) ?_
            refine lv_bipush (v := nI 10) hx hb d_T_layNumber_52 (by decide) ?_
            refine lv_idiv hx hb d_T_layNumber_54 (by decide) ?_
            refine y_eqi (y := nI (r / 10)) (pk_div (by omega) (by decide) (by decide)) ?_
            refine lv_istore_n (lv' := [(2, .int (nI (r / 10))), (0, .ref (h 0)), (3, .int (nI u))]) hx hb d_T_layNumber_55 rfl hl (by decide) rfl (fun ls hl => ?_)
            refine lv_iinc (v := nI (u + 1)) (lv' := [(3, .int (nI (u + 1))), (2, .int (nI (r / 10))), (0, .ref (h 0))]) hx hb d_T_layNumber_56 hl (k := 2) rfl (y_inc _) (by decide) rfl (fun ls hl => ?_)
            refine lv_goto (tgt := 23) hx hb d_T_layNumber_59 (by decide) ?_
            exact ih9 (u + 1) (r / 10) (upd d2 u (nI (r % 10))) (by omega) (by omega) (by rw [hr9, Nat.div_div_eq_div_mul, Nat.pow_succ]) (fun i hi => by unfold upd; split; (next y => rw [y, hr9]); (next y => exact hd i (by omega))) (hn.trans (nmA_s c26 (by first | exact Or.inl c34 | exact Or.inr (by rw [← hr9]; exact c38)))) _ _ _ hP hD hS (lv_sub hl [2, 1, 0] (rfl))
  have J20 : ∀   (H : Heap) (locs : List Loc) (ls : Array Slot), va_P (gD G) vwC (wT G h dg ln ks nx py fi by0 (ou ++ sgT x) de bt bk bn) H → va_D A (wT G h dg ln ks nx py fi by0 (ou ++ sgT x) de bt bk bn) → va_S A sx.heap H locs → lv_has ls 6 [(0, .ref (h 0))] → W pg l ev (yR 1 21) sx mm ([.ref (h 0), .int x] : List Value).toArray bl mt cd H locs 0 0 (yMQ bl G A (wT G h dg ln ks nx py fi by0 ou de bt bk bn).length (fun v w => ∃ de9, v = none ∧ w = wT G h dg ln ks nx py fi by0 (ou ++ (sgT x ++ nmL dg a)) de9 bt bk bn) (fun _ _ => False) ([.ref (h 0), .int x] : List Value).toArray sx) (F0 mm 20 ls [.int (nI a)]) := by
    intro   H locs ls hP hD hS hl
    refine lv_istore_n (lv' := [(2, .int (nI a)), (0, .ref (h 0))]) hx hb d_T_layNumber_20 rfl hl (by decide) rfl (fun ls hl => ?_)
    refine lv_iconst (v := nI 0) hx hb d_T_layNumber_21 (by decide) ?_
    refine lv_istore_n (lv' := [(3, .int (nI 0)), (2, .int (nI a)), (0, .ref (h 0))]) hx hb d_T_layNumber_22 rfl hl (by decide) rfl (fun ls hl => ?_)
    exact J23 _ 0 a de (Nat.lt_succ_self _) (by omega) (by rw [Nat.pow_zero, Nat.div_one]) (fun i hi => absurd hi (by omega)) (rfl) _ _ _ hP hD hS (lv_sub hl [2, 1, 0] (rfl))
  refine lv_iload_n hx hb d_T_layNumber_0 rfl (lv_at hl 1 rfl) ?_
  refine lv_if_ge (tgt := 10) hx hb d_T_layNumber_1 (by decide) (fun c1 => ?_) (fun c1 => ?_)
  · skip
    have e1 : sgT x = [] := if_neg (Int32.not_lt.mpr c1)
    rw [← List.append_nil ou, ← e1] at hP hD
    refine lv_iload_n hx hb d_T_layNumber_10 rfl (lv_at hl 1 rfl) ?_
    refine lv_if_ge (tgt := 19) hx hb d_T_layNumber_11 (by decide) (fun c11 => ?_) (fun c11 => ?_)
    · skip
      refine lv_iload_n hx hb d_T_layNumber_19 rfl (lv_at hl 1 rfl) ?_
      refine y_eqi (y := nI a) (hx0 c11) ?_
      exact J20   _ _ _ hP hD hS (lv_sub hl [0] (rfl))
    · skip
      refine lv_iload_n hx hb d_T_layNumber_14 rfl (lv_at hl 1 rfl) ?_
      refine lv_ineg hx hb d_T_layNumber_15 ?_
      refine y_eqi (y := nI a) (by rw [hx1 c11]; exact Int32.neg_neg) ?_
      refine lv_goto (tgt := 20) hx hb d_T_layNumber_16 (by decide) ?_
      exact J20   _ _ _ hP hD hS (lv_sub hl [0] (rfl))
  · skip
    have e1 : sgT x = [45] := if_pos (Int32.not_le.mp c1)
    refine lv_aload_n hx hb d_T_layNumber_4 rfl (lv_at hl 0 rfl) ?_
    refine lv_bipush (v := nI 45) hx hb d_T_layNumber_5 (by decide) ?_
    refine y_call (y_runV (As := [.int (nI 45)]) (rest := []) hx hb hml hown (c_T_put l G h dg ln ks nx py fi by0 ou de bt bk bn 45 (by omega)) (gV (n := 1) hg tk_572 tk_574 (gt_s 25 (by decide +kernel) (by decide +kernel)) tk_6 tk_575 (by decide +kernel) ⟨Nat.le_of_ble_eq_true rfl, Nat.le_of_ble_eq_true rfl⟩) (va_recv hK hP (ci := 3) (q0 := 0) rfl rfl) (y_pre hE hK hP hD hS hA [0, 1, 2, 3, 4, 5] rfl rfl) rfl rfl hl.1 rfl (lv_room (Nat.le_of_ble_eq_true rfl)) d_T_layNumber_7 ⟨Nat.le_of_ble_eq_true rfl, Nat.le_of_ble_eq_true rfl⟩) hP hD hS hA [0, 1, 2, 3, 4, 5] rfl (fun _ _ _ _ _ _ hp => False.elim hp) (fun v9 w9 H locs hp hlw hP hD hS => ?_)
    obtain ⟨rfl, rfl⟩ := hp
    have hP : va_P (gD G) vwC (wT G h dg ln ks nx py fi by0 (ou ++ [45]) de bt bk bn) H := hP
    have hD : va_D A (wT G h dg ln ks nx py fi by0 (ou ++ [45]) de bt bk bn) := hD
    refine W.eq (g2 := F0 mm 10 ls []) rfl ?_
    rw [← e1] at hP hD
    refine lv_iload_n hx hb d_T_layNumber_10 rfl (lv_at hl 1 rfl) ?_
    refine lv_if_ge (tgt := 19) hx hb d_T_layNumber_11 (by decide) (fun c11 => ?_) (fun c11 => ?_)
    · skip
      refine lv_iload_n hx hb d_T_layNumber_19 rfl (lv_at hl 1 rfl) ?_
      refine y_eqi (y := nI a) (hx0 c11) ?_
      exact J20   _ _ _ hP hD hS (lv_sub hl [0] (rfl))
    · skip
      refine lv_iload_n hx hb d_T_layNumber_14 rfl (lv_at hl 1 rfl) ?_
      refine lv_ineg hx hb d_T_layNumber_15 ?_
      refine y_eqi (y := nI a) (by rw [hx1 c11]; exact Int32.neg_neg) ?_
      refine lv_goto (tgt := 20) hx hb d_T_layNumber_16 (by decide) ?_
      exact J20   _ _ _ hP hD hS (lv_sub hl [0] (rfl))
