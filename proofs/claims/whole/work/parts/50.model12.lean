theorem wrB_nil (ou : Nat → Nat) : wrB ou [] = ou := by
  funext j; exact if_neg (fun z => Nat.not_lt_zero _ z.1)
theorem pw_le {j : Nat} (h : j ≤ 10) : pw j ≤ 1000000000 := by
  cases j with
  | zero => exact Nat.zero_le _
  | succ j => exact Nat.le_trans (Nat.pow_le_pow_right (n := 10) (by decide) (show j ≤ 9 by omega)) (by decide)
theorem nm_x (a dg e : Nat) : a / 10 ^ (dg + e + 1) = a / 10 ^ dg / 10 ^ e / 10 := by rw [wh_dig, Nat.div_div_eq_div_mul, ← Nat.pow_succ]
theorem nm_up {a dg e : Nat} (h : 9 < a / 10 ^ dg / 10 ^ e) : 0 < a / 10 ^ (dg + e + 1) := by rw [nm_x]; omega
theorem nm_no {a dg e : Nat} (h : a / 10 ^ dg / 10 ^ e ≤ 9) : ¬ 0 < a / 10 ^ (dg + e + 1) := by rw [nm_x]; omega
theorem fr_0 {a i : Nat} (h : a % 10 ^ i = 0) : frL a i = [] := by
  cases i with
  | zero => rfl
  | succ i => exact if_pos h
theorem ptsL_len (dg : Nat) (o : Nat → Int32) (py : Nat) : ∀ c, (ptsL dg o py c).length ≤ 53 * c
  | 0 => Nat.zero_le _
  | c + 1 => by
    have h1 := ptsL_len dg o py c
    have h2 := nmX_len dg (o (2 * (py + c)))
    have h3 := nmX_len dg (o (2 * (py + c) + 1))
    unfold ptsL ptT
    simp only [List.length_append, List.length_singleton]
    have h4 : (if c = 0 then [] else [44, 32] : List Nat).length ≤ 2 := by split <;> simp
    omega
theorem cpT_wrB (rs ou : Nat → Nat) {L : List Nat} (h : L.length ≤ 131072) : cpT (wrB ou L) rs L.length = wrB rs L := by
  funext j
  unfold cpT wrB
  by_cases q : j < L.length
  · rw [if_pos q, if_pos ⟨q, by omega⟩, if_pos ⟨q, by omega⟩]
  · rw [if_neg q, if_neg (fun z => q z.1)]
theorem y_inc2 (a b : Nat) (h : a + 2 = b) : nI a + Int32.ofInt 2 = nI b := by rw [show Int32.ofInt 2 = nI 2 from by decide, nI_add, h]

set_option maxHeartbeats 4000000 in
set_option maxRecDepth 100000 in
theorem c_M_put (l : Launch) (G : gl) (h : Nat → Nat) (dg : Nat) (mp : Nat) (ml : Nat) (th : Nat) (n : Nat) (t : Nat → Nat) (pl : Nat → Int32) (pn : Nat → Nat) (xy : Nat → Int32) (pt : Nat → Nat) (sz : Nat) (rs : Nat → Nat) (ou : Nat → Nat) (sl : Nat) (p : Nat) (fk : Nat) (fp : Nat) (va : Int32) (oa : Nat → Int32) (oc : Nat → Int32) (ok : Nat → Int32) (os : List Nat) (x : Nat) (hou : os.length + 1 < 2 ^ 30) : YC l G y_M_put k_M_put 2 (Option.none : Option FieldType) 0 0 [.ref (h 0), .int (nI x)] (wMW G h dg mp ml th n t pl pn xy pt sz rs ou sl p fk fp va oa oc ok os) (fun v w => v = none ∧ w = wMW G h dg mp ml th n t pl pn xy pt sz rs ou sl p fk fp va oa oc ok (os ++ [x])) (fun _ _ => False) := by
  refine yc_of (by decide) ?_
  intro pg ev sx mm bl mt cd A C0 hP hD
  obtain ⟨hx, hb, hrt, hml, hown, hg, hlocks, hxt, hE, hK, hA, hmn⟩ := C0
  have hS : va_S A sx.heap sx.heap [] := va_S.rf
  have hl := lv_entry ([.ref (h 0), .int (nI x)]) (n := 2) (Nat.le_of_ble_eq_true rfl)
  rw [lg_entry_eq]
  generalize (lg_sl ([.ref (h 0), .int (nI x)]) ++ List.replicate (2 - (lg_sl ([.ref (h 0), .int (nI x)])).length) Slot.unset).toArray = ls at hl ⊢
  have hl : lv_has ls 2 [(0, .ref (h 0)), (1, .int (nI x))] := hl
  obtain ⟨H, hH⟩ : ∃ H, H = sx.heap := ⟨_, rfl⟩
  rw [← hH] at hP
  have hS : va_S A sx.heap H [] := by rw [hH]; exact hS
  suffices h9 : W pg l ev (yR 0 0) sx mm _ bl mt cd H [] 0 0 (yMQ bl G A _ _ _ _ sx) (F0 mm 0 ls []) by rw [hH] at h9; exact h9
  obtain ⟨locs, hlo⟩ : ∃ locs : List Loc, locs = [] := ⟨_, rfl⟩
  rw [← hlo] at hS ⊢
  have hP : va_P (gD G) vwC (wM G h dg mp ml th n t pl pn xy pt sz rs (wrB ou os) os.length sl p fk fp va oa oc ok) H := hP
  have hD : va_D A (wM G h dg mp ml th n t pl pn xy pt sz rs (wrB ou os) os.length sl p fk fp va oa oc ok) := hD
  refine lv_aload_n hx hb d_M_put_0 rfl (lv_at hl 0 rfl) ?_
  refine va_get (D := gD G) (ci := 5) (v := .int (nI os.length)) (C := "WordShapesModel") (T := TM) (N := 24) hx hb hg iw_M hown hK hP 0 rfl rfl 15 (by decide) (hg _ tk_698) (fun _ h9 => h9) rfl d_M_put_1 ?_
  refine lv_ldc (v := nI 131072) hx hb hown (hg _ tk_682) d_M_put_4 ?_
  refine yn_icmp_ge (a := os.length) (b := 131072) (tgt := 19) hx hb d_M_put_6 (by decide) (by omega) (by omega) (fun c6 => ?_) (fun c6 => ?_)
  · skip
    refine lv_aload_n hx hb d_M_put_19 rfl (lv_at hl 0 rfl) ?_
    refine lv_dup hx hb d_M_put_20 rfl ?_
    refine va_get (D := gD G) (ci := 5) (v := .int (nI os.length)) (C := "WordShapesModel") (T := TM) (N := 24) hx hb hg iw_M hown hK hP 0 rfl rfl 15 (by decide) (hg _ tk_698) (fun _ h9 => h9) rfl d_M_put_21 ?_
    refine lv_iconst (v := nI 1) hx hb d_M_put_24 (by decide) ?_
    refine lv_iadd hx hb d_M_put_25 ?_
    refine y_eqi (nI_add _ _) ?_
    refine va_put (D := gD G) (ci := 5) (v := .int (nI (os.length + 1))) (ty := .int) (C := "WordShapesModel") (T := TM) (N := 24) hx hb hg iw_M ft_M fo_M nm_M hown hK hP hD hS 0 rfl rfl 15 (by decide) (hg _ tk_698) (fun _ h9 => h9) rfl (by decide +kernel) (rfl) (rfl) (Nat.le_of_ble_eq_true rfl) d_M_put_26 (fun H locs hP hD hS => ?_)
    have hP : va_P (gD G) vwC (wM G h dg mp ml th n t pl pn xy pt sz rs (wrB ou os) (os.length + 1) sl p fk fp va oa oc ok) H := hP
    have hD : va_D A (wM G h dg mp ml th n t pl pn xy pt sz rs (wrB ou os) (os.length + 1) sl p fk fp va oa oc ok) := hD
    rw [show os.length + 1 = (os ++ [x]).length by rw [List.length_append, List.length_singleton]] at hP hD
    first | rw [wrB_put x c6] at hP hD | rw [← wrB_big (ou := ou) x c6] at hP hD
    have hP : va_P (gD G) vwC (wMW G h dg mp ml th n t pl pn xy pt sz rs ou sl p fk fp va oa oc ok (os ++ [x])) H := hP
    have hD : va_D A (wMW G h dg mp ml th n t pl pn xy pt sz rs ou sl p fk fp va oa oc ok (os ++ [x])) := hD
    exact yr_v (ws := wMW G h dg mp ml th n t pl pn xy pt sz rs ou sl p fk fp va oa oc ok (os ++ [x])) hx hb hrt hlocks (⟨rfl, rfl⟩) rfl hK hP hD hS d_M_put_29
  · skip
    refine lv_aload_n hx hb d_M_put_9 rfl (lv_at hl 0 rfl) ?_
    refine va_get (D := gD G) (ci := 5) (v := .ref (h 9)) (C := "WordShapesModel") (T := TM) (N := 24) hx hb hg iw_M hown hK hP 0 rfl rfl 14 (by decide) (hg _ tk_697) (fun _ h9 => h9) rfl d_M_put_10 ?_
    refine lv_aload_n hx hb d_M_put_13 rfl (lv_at hl 0 rfl) ?_
    refine va_get (D := gD G) (ci := 5) (v := .int (nI os.length)) (C := "WordShapesModel") (T := TM) (N := 24) hx hb hg iw_M hown hK hP 0 rfl rfl 15 (by decide) (hg _ tk_698) (fun _ h9 => h9) rfl d_M_put_14 ?_
    refine lv_iload_n hx hb d_M_put_17 rfl (lv_at hl 1 rfl) ?_
    refine yn_iast hx hb hK hP hD hS 9 0 rfl rfl (j := os.length) (x := nI x) (f1 := fun i => nI ((va_up (wrB ou os) os.length x) i)) (vu_st _ _ _) (by omega) (by omega) d_M_put_18 (fun H locs hP hD hS => ?_)
    have hP : va_P (gD G) vwC (wM G h dg mp ml th n t pl pn xy pt sz rs (va_up (wrB ou os) os.length x) os.length sl p fk fp va oa oc ok) H := hP
    have hD : va_D A (wM G h dg mp ml th n t pl pn xy pt sz rs (va_up (wrB ou os) os.length x) os.length sl p fk fp va oa oc ok) := hD
    refine lv_aload_n hx hb d_M_put_19 rfl (lv_at hl 0 rfl) ?_
    refine lv_dup hx hb d_M_put_20 rfl ?_
    refine va_get (D := gD G) (ci := 5) (v := .int (nI os.length)) (C := "WordShapesModel") (T := TM) (N := 24) hx hb hg iw_M hown hK hP 0 rfl rfl 15 (by decide) (hg _ tk_698) (fun _ h9 => h9) rfl d_M_put_21 ?_
    refine lv_iconst (v := nI 1) hx hb d_M_put_24 (by decide) ?_
    refine lv_iadd hx hb d_M_put_25 ?_
    refine y_eqi (nI_add _ _) ?_
    refine va_put (D := gD G) (ci := 5) (v := .int (nI (os.length + 1))) (ty := .int) (C := "WordShapesModel") (T := TM) (N := 24) hx hb hg iw_M ft_M fo_M nm_M hown hK hP hD hS 0 rfl rfl 15 (by decide) (hg _ tk_698) (fun _ h9 => h9) rfl (by decide +kernel) (rfl) (rfl) (Nat.le_of_ble_eq_true rfl) d_M_put_26 (fun H locs hP hD hS => ?_)
    have hP : va_P (gD G) vwC (wM G h dg mp ml th n t pl pn xy pt sz rs (va_up (wrB ou os) os.length x) (os.length + 1) sl p fk fp va oa oc ok) H := hP
    have hD : va_D A (wM G h dg mp ml th n t pl pn xy pt sz rs (va_up (wrB ou os) os.length x) (os.length + 1) sl p fk fp va oa oc ok) := hD
    rw [show os.length + 1 = (os ++ [x]).length by rw [List.length_append, List.length_singleton]] at hP hD
    first | rw [wrB_put x c6] at hP hD | rw [← wrB_big (ou := ou) x c6] at hP hD
    have hP : va_P (gD G) vwC (wMW G h dg mp ml th n t pl pn xy pt sz rs ou sl p fk fp va oa oc ok (os ++ [x])) H := hP
    have hD : va_D A (wMW G h dg mp ml th n t pl pn xy pt sz rs ou sl p fk fp va oa oc ok (os ++ [x])) := hD
    exact yr_v (ws := wMW G h dg mp ml th n t pl pn xy pt sz rs ou sl p fk fp va oa oc ok (os ++ [x])) hx hb hrt hlocks (⟨rfl, rfl⟩) rfl hK hP hD hS d_M_put_29
set_option maxHeartbeats 4000000 in
set_option maxRecDepth 100000 in
theorem c_M_putWord (l : Launch) (G : gl) (h : Nat → Nat) (dg : Nat) (mp : Nat) (ml : Nat) (th : Nat) (n : Nat) (t : Nat → Nat) (pl : Nat → Int32) (pn : Nat → Nat) (xy : Nat → Int32) (pt : Nat → Nat) (sz : Nat) (rs : Nat → Nat) (ou : Nat → Nat) (sl : Nat) (p : Nat) (fk : Nat) (fp : Nat) (va : Int32) (oa : Nat → Int32) (oc : Nat → Int32) (ok : Nat → Int32) (os : List Nat) (wd : Nat) (hou : os.length + 20 < 2 ^ 30) (hw1 : 1 ≤ wd) (hw8 : wd ≤ 8) : YC l G y_M_putWord k_M_putWord 3 (Option.none : Option FieldType) 1 21 [.ref (h 0), .int (nI wd)] (wMW G h dg mp ml th n t pl pn xy pt sz rs ou sl p fk fp va oa oc ok os) (fun v w => v = none ∧ w = wMW G h dg mp ml th n t pl pn xy pt sz rs ou sl p fk fp va oa oc ok (os ++ wdL wd)) (fun _ _ => False) := by
  refine yc_of (by decide) ?_
  intro pg ev sx mm bl mt cd A C0 hP hD
  obtain ⟨hx, hb, hrt, hml, hown, hg, hlocks, hxt, hE, hK, hA, hmn⟩ := C0
  have hS : va_S A sx.heap sx.heap [] := va_S.rf
  have hl := lv_entry ([.ref (h 0), .int (nI wd)]) (n := 3) (Nat.le_of_ble_eq_true rfl)
  rw [lg_entry_eq]
  generalize (lg_sl ([.ref (h 0), .int (nI wd)]) ++ List.replicate (3 - (lg_sl ([.ref (h 0), .int (nI wd)])).length) Slot.unset).toArray = ls at hl ⊢
  have hl : lv_has ls 3 [(0, .ref (h 0)), (1, .int (nI wd))] := hl
  obtain ⟨hg1, hg2⟩ := bg_len wd hw1 hw8
  have hwl := wdL_len wd
  obtain ⟨H, hH⟩ : ∃ H, H = sx.heap := ⟨_, rfl⟩
  rw [← hH] at hP
  have hS : va_S A sx.heap H [] := by rw [hH]; exact hS
  suffices h9 : W pg l ev (yR 1 21) sx mm _ bl mt cd H [] 0 0 (yMQ bl G A _ _ _ _ sx) (F0 mm 0 ls []) by rw [hH] at h9; exact h9
  obtain ⟨locs, hlo⟩ : ∃ locs : List Loc, locs = [] := ⟨_, rfl⟩
  rw [← hlo] at hS ⊢
  have J7 : ∀ (n9 : Nat) (i : Nat) (hm9 : (wdL wd).length - i < n9) (hi : i ≤ (wdL wd).length) (H : Heap) (locs : List Loc) (ls : Array Slot), va_P (gD G) vwC (wMW G h dg mp ml th n t pl pn xy pt sz rs ou sl p fk fp va oa oc ok (os ++ (wdL wd).take i)) H → va_D A (wMW G h dg mp ml th n t pl pn xy pt sz rs ou sl p fk fp va oa oc ok (os ++ (wdL wd).take i)) → va_S A sx.heap H locs → lv_has ls 3 [(0, .ref (h 0)), (1, .int (nI wd)), (2, .int (nI (bgN wd + i)))] → W pg l ev (yR 1 21) sx mm ([.ref (h 0), .int (nI wd)] : List Value).toArray bl mt cd H locs 0 0 (yMQ bl G A (wMW G h dg mp ml th n t pl pn xy pt sz rs ou sl p fk fp va oa oc ok os).length (fun v w => v = none ∧ w = wMW G h dg mp ml th n t pl pn xy pt sz rs ou sl p fk fp va oa oc ok (os ++ wdL wd)) (fun _ _ => False) ([.ref (h 0), .int (nI wd)] : List Value).toArray sx) (F0 mm 7 ls []) := by
    intro n9
    induction n9 with
    | zero => intro i hm9; exact absurd hm9 (Nat.not_lt_zero _)
    | succ n9 ih9 =>
      intro i hm9 hi H locs ls hP hD hS hl
      refine lv_iload_n hx hb d_M_putWord_7 rfl (lv_at hl 2 rfl) ?_
      refine lv_aload_n hx hb d_M_putWord_8 rfl (lv_at hl 0 rfl) ?_
      refine va_get (D := gD G) (ci := 5) (v := .ref (h 2)) (C := "WordShapesModel") (T := TM) (N := 24) hx hb hg iw_M hown hK hP 0 rfl rfl 1 (by decide) (hg _ tk_684) (fun _ h9 => h9) rfl d_M_putWord_9 ?_
      refine lv_iload_n hx hb d_M_putWord_12 rfl (lv_at hl 1 rfl) ?_
      refine lv_iconst (v := nI 1) hx hb d_M_putWord_13 (by decide) ?_
      refine lv_iadd hx hb d_M_putWord_14 ?_
      refine y_eqi (nI_add _ _) ?_
      refine yn_iald hx hb hK hP 2 0 rfl rfl (j := wd + 1) (x := nI (bgN (wd + 1))) (rfl) (by omega) (by omega) d_M_putWord_15 ?_
      refine yn_icmp_ge (a := bgN wd + i) (b := bgN (wd + 1)) (tgt := 35) hx hb d_M_putWord_16 (by decide) (by omega) (by omega) (fun c16 => ?_) (fun c16 => ?_)
      · skip
        rw [List.take_of_length_le (by omega)] at hP hD
        have hP : va_P (gD G) vwC (wMW G h dg mp ml th n t pl pn xy pt sz rs ou sl p fk fp va oa oc ok (os ++ wdL wd)) H := hP
        have hD : va_D A (wMW G h dg mp ml th n t pl pn xy pt sz rs ou sl p fk fp va oa oc ok (os ++ wdL wd)) := hD
        exact yr_v (ws := wMW G h dg mp ml th n t pl pn xy pt sz rs ou sl p fk fp va oa oc ok (os ++ wdL wd)) hx hb hrt hlocks (⟨rfl, rfl⟩) rfl hK hP hD hS d_M_putWord_35
      · skip
        refine lv_aload_n hx hb d_M_putWord_19 rfl (lv_at hl 0 rfl) ?_
        refine lv_aload_n hx hb d_M_putWord_20 rfl (lv_at hl 0 rfl) ?_
        refine va_get (D := gD G) (ci := 5) (v := .ref (h 1)) (C := "WordShapesModel") (T := TM) (N := 24) hx hb hg iw_M hown hK hP 0 rfl rfl 0 (by decide) (hg _ tk_683) (fun _ h9 => h9) rfl d_M_putWord_21 ?_
        refine lv_iload_n hx hb d_M_putWord_24 rfl (lv_at hl 2 rfl) ?_
        refine yn_iald hx hb hK hP 1 0 rfl rfl (j := bgN wd + i) (x := nI (wdC wd i)) (congrArg nI (lt_wd wd hw1 hw8 i (by omega))) (by omega) (by omega) d_M_putWord_25 ?_
        refine y_callW (y_runV (As := [.int (nI (wdC wd i))]) (rest := []) hx hb hml hown (c_M_put l G h dg mp ml th n t pl pn xy pt sz rs ou sl p fk fp va oa oc ok (os ++ (wdL wd).take i) (wdC wd i) (by rw [List.length_append, List.length_take]; omega)) (gV (n := 1) hg tk_907 tk_909 (gt_s 56 (by decide +kernel) (by decide +kernel)) tk_7 tk_910 (by decide +kernel) ⟨Nat.le_of_ble_eq_true rfl, Nat.le_of_ble_eq_true rfl⟩) (va_recv hK hP (ci := 5) (q0 := 0) rfl rfl) (y_preW hE hK hP hD hS hA) rfl rfl hl.1 rfl (lv_room (Nat.le_of_ble_eq_true rfl)) d_M_putWord_26 ⟨Nat.le_of_ble_eq_true rfl, Nat.le_of_ble_eq_true rfl⟩) hD hS hA (fun _ _ _ _ _ _ hp => False.elim hp) (fun v9 w9 H locs hp hlw hP hD hS => ?_)
        obtain ⟨rfl, rfl⟩ := hp
        have hP : va_P (gD G) vwC (wMW G h dg mp ml th n t pl pn xy pt sz rs ou sl p fk fp va oa oc ok ((os ++ (wdL wd).take i) ++ [(wdC wd i)])) H := hP
        have hD : va_D A (wMW G h dg mp ml th n t pl pn xy pt sz rs ou sl p fk fp va oa oc ok ((os ++ (wdL wd).take i) ++ [(wdC wd i)])) := hD
        refine W.eq (g2 := F0 mm 29 ls []) rfl ?_
        rw [List.append_assoc, ← take_s (by omega)] at hP hD
        have hP : va_P (gD G) vwC (wMW G h dg mp ml th n t pl pn xy pt sz rs ou sl p fk fp va oa oc ok (os ++ (wdL wd).take (i + 1))) H := hP
        have hD : va_D A (wMW G h dg mp ml th n t pl pn xy pt sz rs ou sl p fk fp va oa oc ok (os ++ (wdL wd).take (i + 1))) := hD
        refine lv_iinc (v := nI (bgN wd + i + 1)) (lv' := [(2, .int (nI (bgN wd + i + 1))), (0, .ref (h 0)), (1, .int (nI wd))]) hx hb d_M_putWord_29 hl (k := 2) rfl (y_inc _) (by decide) rfl (fun ls hl => ?_)
        refine lv_goto (tgt := 7) hx hb d_M_putWord_32 (by decide) ?_
        exact ih9 (i + 1) (by omega) (by omega) _ _ _ hP hD hS (lv_sub hl [1, 2, 0] (rfl))
  refine lv_aload_n hx hb d_M_putWord_0 rfl (lv_at hl 0 rfl) ?_
  refine va_get (D := gD G) (ci := 5) (v := .ref (h 2)) (C := "WordShapesModel") (T := TM) (N := 24) hx hb hg iw_M hown hK hP 0 rfl rfl 1 (by decide) (hg _ tk_684) (fun _ h9 => h9) rfl d_M_putWord_1 ?_
  refine lv_iload_n hx hb d_M_putWord_4 rfl (lv_at hl 1 rfl) ?_
  refine yn_iald hx hb hK hP 2 0 rfl rfl (j := wd) (x := nI (bgN wd)) (rfl) (by omega) (by omega) d_M_putWord_5 ?_
  rw [← List.append_nil os] at hP hD
  have hP : va_P (gD G) vwC (wMW G h dg mp ml th n t pl pn xy pt sz rs ou sl p fk fp va oa oc ok (os ++ [])) H := hP
  have hD : va_D A (wMW G h dg mp ml th n t pl pn xy pt sz rs ou sl p fk fp va oa oc ok (os ++ [])) := hD
  refine lv_istore_n (lv' := [(2, .int (nI (bgN wd))), (0, .ref (h 0)), (1, .int (nI wd))]) hx hb d_M_putWord_6 rfl hl (by decide) rfl (fun ls hl => ?_)
  exact J7 _ 0 (Nat.lt_succ_self _) (by omega) _ _ _ hP hD hS (lv_sub hl [1, 2, 0] (rfl))
set_option maxHeartbeats 4000000 in
set_option maxRecDepth 100000 in
theorem c_M_ten (l : Launch) (G : gl)  (c : Nat) (hc : c ≤ 3) : YC l G y_M_ten k_M_ten 1 (Option.some FieldType.int) 0 0 [.int (nI c)] ([]) (fun v w => v = some (.int (nI (10 ^ c))) ∧ w = []) (fun _ _ => False) := by
  refine yc_of (by decide) ?_
  intro pg ev sx mm bl mt cd A C0 hP hD
  obtain ⟨hx, hb, hrt, hml, hown, hg, hlocks, hxt, hE, hK, hA, hmn⟩ := C0
  have hS : va_S A sx.heap sx.heap [] := va_S.rf
  have hl := lv_entry ([.int (nI c)]) (n := 1) (Nat.le_of_ble_eq_true rfl)
  rw [lg_entry_eq]
  generalize (lg_sl ([.int (nI c)]) ++ List.replicate (1 - (lg_sl ([.int (nI c)])).length) Slot.unset).toArray = ls at hl ⊢
  have hl : lv_has ls 1 [(0, .int (nI c))] := hl
  obtain ⟨H, hH⟩ : ∃ H, H = sx.heap := ⟨_, rfl⟩
  rw [← hH] at hP
  have hS : va_S A sx.heap H [] := by rw [hH]; exact hS
  suffices h9 : W pg l ev (yR 0 0) sx mm _ bl mt cd H [] 0 0 (yMQ bl G A _ _ _ _ sx) (F0 mm 0 ls []) by rw [hH] at h9; exact h9
  obtain ⟨locs, hlo⟩ : ∃ locs : List Loc, locs = [] := ⟨_, rfl⟩
  rw [← hlo] at hS ⊢
  refine lv_iload_n hx hb d_M_ten_0 rfl (lv_at hl 0 rfl) ?_
  refine yn_if_ne (a := c) (tgt := 8) hx hb d_M_ten_1 (by decide) (by omega) (fun c1 => ?_) (fun c1 => ?_)
  · skip
    refine lv_iload_n hx hb d_M_ten_8 rfl (lv_at hl 0 rfl) ?_
    refine lv_iconst (v := nI 1) hx hb d_M_ten_9 (by decide) ?_
    refine yn_icmp_ne (a := c) (b := 1) (tgt := 18) hx hb d_M_ten_10 (by decide) (by omega) (by omega) (fun c10 => ?_) (fun c10 => ?_)
    · skip
      refine lv_iload_n hx hb d_M_ten_18 rfl (lv_at hl 0 rfl) ?_
      refine lv_iconst (v := nI 2) hx hb d_M_ten_19 (by decide) ?_
      refine yn_icmp_ne (a := c) (b := 2) (tgt := 28) hx hb d_M_ten_20 (by decide) (by omega) (by omega) (fun c20 => ?_) (fun c20 => ?_)
      · skip
        refine lv_sipush (v := nI 1000) hx hb d_M_ten_28 (by decide) ?_
        exact yr_i (ws := []) hx hb hrt hlocks (⟨congrArg (fun z => some (Value.int (nI z))) (by rcases (show c = 0 ∨ c = 1 ∨ c = 2 ∨ c = 3 by omega) with y | y | y | y <;> rw [y] <;> first | rfl | omega), rfl⟩) rfl hK hP hD hS d_M_ten_31
      · skip
        refine lv_bipush (v := nI 100) hx hb d_M_ten_23 (by decide) ?_
        refine lv_goto (tgt := 31) hx hb d_M_ten_25 (by decide) ?_
        exact yr_i (ws := []) hx hb hrt hlocks (⟨congrArg (fun z => some (Value.int (nI z))) (by rcases (show c = 0 ∨ c = 1 ∨ c = 2 ∨ c = 3 by omega) with y | y | y | y <;> rw [y] <;> first | rfl | omega), rfl⟩) rfl hK hP hD hS d_M_ten_31
    · skip
      refine lv_bipush (v := nI 10) hx hb d_M_ten_13 (by decide) ?_
      refine lv_goto (tgt := 31) hx hb d_M_ten_15 (by decide) ?_
      exact yr_i (ws := []) hx hb hrt hlocks (⟨congrArg (fun z => some (Value.int (nI z))) (by rcases (show c = 0 ∨ c = 1 ∨ c = 2 ∨ c = 3 by omega) with y | y | y | y <;> rw [y] <;> first | rfl | omega), rfl⟩) rfl hK hP hD hS d_M_ten_31
  · skip
    refine lv_iconst (v := nI 1) hx hb d_M_ten_4 (by decide) ?_
    refine lv_goto (tgt := 31) hx hb d_M_ten_5 (by decide) ?_
    exact yr_i (ws := []) hx hb hrt hlocks (⟨congrArg (fun z => some (Value.int (nI z))) (by rcases (show c = 0 ∨ c = 1 ∨ c = 2 ∨ c = 3 by omega) with y | y | y | y <;> rw [y] <;> first | rfl | omega), rfl⟩) rfl hK hP hD hS d_M_ten_31
set_option maxHeartbeats 4000000 in
set_option maxRecDepth 100000 in
theorem c_M_putBetween (l : Launch) (G : gl) (h : Nat → Nat) (dg : Nat) (mp : Nat) (ml : Nat) (th : Nat) (n : Nat) (t : Nat → Nat) (pl : Nat → Int32) (pn : Nat → Nat) (xy : Nat → Int32) (pt : Nat → Nat) (sz : Nat) (rs : Nat → Nat) (ou : Nat → Nat) (sl : Nat) (p : Nat) (fk : Nat) (fp : Nat) (va : Int32) (oa : Nat → Int32) (oc : Nat → Int32) (ok : Nat → Int32) (os : List Nat)  (hou : os.length + 2 < 2 ^ 30) : YC l G y_M_putBetween k_M_putBetween 1 (Option.none : Option FieldType) 1 21 [.ref (h 0)] (wMW G h dg mp ml th n t pl pn xy pt sz rs ou sl p fk fp va oa oc ok os) (fun v w => v = none ∧ w = wMW G h dg mp ml th n t pl pn xy pt sz rs ou sl p fk fp va oa oc ok (os ++ [44, 32])) (fun _ _ => False) := by
  refine yc_of (by decide) ?_
  intro pg ev sx mm bl mt cd A C0 hP hD
  obtain ⟨hx, hb, hrt, hml, hown, hg, hlocks, hxt, hE, hK, hA, hmn⟩ := C0
  have hS : va_S A sx.heap sx.heap [] := va_S.rf
  have hl := lv_entry ([.ref (h 0)]) (n := 1) (Nat.le_of_ble_eq_true rfl)
  rw [lg_entry_eq]
  generalize (lg_sl ([.ref (h 0)]) ++ List.replicate (1 - (lg_sl ([.ref (h 0)])).length) Slot.unset).toArray = ls at hl ⊢
  have hl : lv_has ls 1 [(0, .ref (h 0))] := hl
  obtain ⟨H, hH⟩ : ∃ H, H = sx.heap := ⟨_, rfl⟩
  rw [← hH] at hP
  have hS : va_S A sx.heap H [] := by rw [hH]; exact hS
  suffices h9 : W pg l ev (yR 1 21) sx mm _ bl mt cd H [] 0 0 (yMQ bl G A _ _ _ _ sx) (F0 mm 0 ls []) by rw [hH] at h9; exact h9
  obtain ⟨locs, hlo⟩ : ∃ locs : List Loc, locs = [] := ⟨_, rfl⟩
  rw [← hlo] at hS ⊢
  refine lv_aload_n hx hb d_M_putBetween_0 rfl (lv_at hl 0 rfl) ?_
  refine lv_bipush (v := nI 44) hx hb d_M_putBetween_1 (by decide) ?_
  refine y_callW (y_runV (As := [.int (nI 44)]) (rest := []) hx hb hml hown (c_M_put l G h dg mp ml th n t pl pn xy pt sz rs ou sl p fk fp va oa oc ok os 44 (by omega)) (gV (n := 1) hg tk_907 tk_909 (gt_s 56 (by decide +kernel) (by decide +kernel)) tk_7 tk_910 (by decide +kernel) ⟨Nat.le_of_ble_eq_true rfl, Nat.le_of_ble_eq_true rfl⟩) (va_recv hK hP (ci := 5) (q0 := 0) rfl rfl) (y_preW hE hK hP hD hS hA) rfl rfl hl.1 rfl (lv_room (Nat.le_of_ble_eq_true rfl)) d_M_putBetween_3 ⟨Nat.le_of_ble_eq_true rfl, Nat.le_of_ble_eq_true rfl⟩) hD hS hA (fun _ _ _ _ _ _ hp => False.elim hp) (fun v9 w9 H locs hp hlw hP hD hS => ?_)
  obtain ⟨rfl, rfl⟩ := hp
  have hP : va_P (gD G) vwC (wMW G h dg mp ml th n t pl pn xy pt sz rs ou sl p fk fp va oa oc ok (os ++ [44])) H := hP
  have hD : va_D A (wMW G h dg mp ml th n t pl pn xy pt sz rs ou sl p fk fp va oa oc ok (os ++ [44])) := hD
  refine W.eq (g2 := F0 mm 6 ls []) rfl ?_
  refine lv_aload_n hx hb d_M_putBetween_6 rfl (lv_at hl 0 rfl) ?_
  refine lv_bipush (v := nI 32) hx hb d_M_putBetween_7 (by decide) ?_
  refine y_callW (y_runV (As := [.int (nI 32)]) (rest := []) hx hb hml hown (c_M_put l G h dg mp ml th n t pl pn xy pt sz rs ou sl p fk fp va oa oc ok (os ++ [44]) 32 (by rw [List.length_append, List.length_singleton]; omega)) (gV (n := 1) hg tk_907 tk_909 (gt_s 56 (by decide +kernel) (by decide +kernel)) tk_7 tk_910 (by decide +kernel) ⟨Nat.le_of_ble_eq_true rfl, Nat.le_of_ble_eq_true rfl⟩) (va_recv hK hP (ci := 5) (q0 := 0) rfl rfl) (y_preW hE hK hP hD hS hA) rfl rfl hl.1 rfl (lv_room (Nat.le_of_ble_eq_true rfl)) d_M_putBetween_9 ⟨Nat.le_of_ble_eq_true rfl, Nat.le_of_ble_eq_true rfl⟩) hD hS hA (fun _ _ _ _ _ _ hp => False.elim hp) (fun v9 w9 H locs hp hlw hP hD hS => ?_)
  obtain ⟨rfl, rfl⟩ := hp
  have hP : va_P (gD G) vwC (wMW G h dg mp ml th n t pl pn xy pt sz rs ou sl p fk fp va oa oc ok ((os ++ [44]) ++ [32])) H := hP
  have hD : va_D A (wMW G h dg mp ml th n t pl pn xy pt sz rs ou sl p fk fp va oa oc ok ((os ++ [44]) ++ [32])) := hD
  refine W.eq (g2 := F0 mm 12 ls []) rfl ?_
  rw [List.append_assoc] at hP hD
  have hP : va_P (gD G) vwC (wMW G h dg mp ml th n t pl pn xy pt sz rs ou sl p fk fp va oa oc ok (os ++ [44, 32])) H := hP
  have hD : va_D A (wMW G h dg mp ml th n t pl pn xy pt sz rs ou sl p fk fp va oa oc ok (os ++ [44, 32])) := hD
  exact yr_v (ws := wMW G h dg mp ml th n t pl pn xy pt sz rs ou sl p fk fp va oa oc ok (os ++ [44, 32])) hx hb hrt hlocks (⟨rfl, rfl⟩) rfl hK hP hD hS d_M_putBetween_12
