theorem It_0len {bt K m : Nat} {seg : List Int32} {zs : List (Int32 × Int32)} (h : It bt K m seg zs) : K = 0 → 2 * m ≤ seg.length := by
  refine It_ind (P := fun bt K m seg zs => K = 0 → 2 * m ≤ seg.length) ?_ ?_ ?_ ?_ ?_ h
  · exact fun _ _ _ => Nat.zero_le _
  · intro bt K m seg zs x y hK _ _ _ _ h7; omega
  · intro bt m c seg zs z _ _ _ _ _ _ h7; omega
  · intro bt K m c seg s zs z hK _ _ _ _ _ h7; omega
  · intro bt K m k c seg s zs z hK _ _ _ _ _ _ ih _ h7
    have := ih h7
    simp only [List.length_append, List.length_singleton]
    omega

set_option maxHeartbeats 4000000 in
set_option maxRecDepth 100000 in
theorem c_M_read (l : Launch) (G : gl) (h : Nat → Nat) (dg : Nat) (mp : Nat) (ml : Nat) (th : Nat) (n : Nat) (t : Nat → Nat) (pl : Nat → Int32) (pn : Nat → Nat) (xy : Nat → Int32) (pt : Nat → Nat) (sz : Nat) (rs : Nat → Nat) (ou : Nat → Nat) (wr : Nat) (sl : Nat) (p : Nat) (fk : Nat) (fp : Nat) (va : Int32) (oa : Nat → Int32) (oc : Nat → Int32) (ok : Nat → Int32) (s : Int32) (hn : n ≤ 65536) (ht : ∀ i, t i < 256) (hml : ml ≤ 4096) (hmp : mp ≤ 4096) (hdg : dg ≤ 3) : YC l G y_M_read k_M_read 3 (Option.some FieldType.int) 12 279 [.ref (h 0), .int s] (wM G h dg mp ml th n t pl pn xy pt sz rs ou wr sl p fk fp va oa oc ok) (fun v w => ((¬ ∃ j, j < 4 ∧ s = nI j) ∧ v = some (.int (nI 0)) ∧ w = wM G h dg mp ml 1 0 t pl pn xy pt sz rs ou wr sl p fk fp va oa oc ok) ∨ (∃ j q xs9 ys9 va9 oa9 oc9, (j < 4 ∧ s = nI j ∧ rdM t n dg mp ml oa oc = .inr (xs9, ys9)) ∧ v = some (.int (xs9.getD 0 0)) ∧ w = wM G h dg mp ml 0 0 t (plR pl j xs9) (va_up pn j xs9.length) (xyR xy j ys9) (va_up pt j ys9.length) sz rs ou wr j q 0 0 va9 oa9 oc9 ok) ∨ (∃ j a b q xs9 ys9 va9 oa9 oc9, (j < 4 ∧ s = nI j ∧ rdM t n dg mp ml oa oc = .inl (a, b)) ∧ v = some (.int (nI 0)) ∧ w = wM G h dg mp ml 2 0 t (plR pl j xs9) (va_up pn j 0) (xyR xy j ys9) (va_up pt j 0) sz rs ou wr j q a b va9 oa9 oc9 ok)) (fun _ _ => False) := by
  refine yc_of (by decide) ?_
  intro pg ev sx mm bl mt cd A C0 hP hD
  obtain ⟨hx, hb, hrt, hml, hown, hg, hlocks, hxt, hE, hK, hA, hmn⟩ := C0
  have hS : va_S A sx.heap sx.heap [] := va_S.rf
  have hl := lv_entry ([.ref (h 0), .int s]) (n := 3) (Nat.le_of_ble_eq_true rfl)
  rw [lg_entry_eq]
  generalize (lg_sl ([.ref (h 0), .int s]) ++ List.replicate (3 - (lg_sl ([.ref (h 0), .int s])).length) Slot.unset).toArray = ls at hl ⊢
  have hl : lv_has ls 3 [(0, .ref (h 0)), (1, .int s)] := hl
  obtain ⟨H, hH⟩ : ∃ H, H = sx.heap := ⟨_, rfl⟩
  rw [← hH] at hP
  have hS : va_S A sx.heap H [] := by rw [hH]; exact hS
  suffices h9 : W pg l ev (yR 12 279) sx mm _ bl mt cd H [] 0 0 (yMQ bl G A _ _ _ _ sx) (F0 mm 0 ls []) by rw [hH] at h9; exact h9
  obtain ⟨locs, hlo⟩ : ∃ locs : List Loc, locs = [] := ⟨_, rfl⟩
  rw [← hlo] at hS ⊢
  refine lv_aload_n hx hb d_M_read_0 rfl (lv_at hl 0 rfl) ?_
  refine lv_iconst (v := nI 0) hx hb d_M_read_1 (by decide) ?_
  refine va_put (D := gD G) (ci := 5) (v := .int (nI 0)) (ty := .int) (C := "WordShapesModel") (T := TM) (N := 24) hx hb hg iw_M ft_M fo_M nm_M hown hK hP hD hS 0 rfl rfl 2 (by decide) (hg _ tk_685) (fun _ h9 => h9) rfl (by decide +kernel) (rfl) (rfl) (Nat.le_of_ble_eq_true rfl) d_M_read_2 (fun H locs hP hD hS => ?_)
  have hP : va_P (gD G) vwC (wM G h dg mp ml 0 n t pl pn xy pt sz rs ou wr sl p fk fp va oa oc ok) H := hP
  have hD : va_D A (wM G h dg mp ml 0 n t pl pn xy pt sz rs ou wr sl p fk fp va oa oc ok) := hD
  refine lv_iload_n hx hb d_M_read_5 rfl (lv_at hl 1 rfl) ?_
  refine y_call (y_runS (As := [.int s]) (rest := []) hx hb hml hown (c_M_isSlot l G  s ) (gS (n := 1) hg tk_779 tk_780 tk_7 tk_781 (by decide +kernel) ⟨Nat.le_of_ble_eq_true rfl, Nat.le_of_ble_eq_true rfl⟩) (y_pre hE hK hP hD hS hA [] rfl rfl) rfl rfl hl.1 rfl (lv_room (Nat.le_of_ble_eq_true rfl)) d_M_read_6 ⟨Nat.le_of_ble_eq_true rfl, Nat.le_of_ble_eq_true rfl⟩) hP hD hS hA [] rfl (fun _ _ _ _ _ _ hp => False.elim hp) (fun v9 w9 H locs hp hlw hP hD hS => ?_)
  obtain ⟨rfl, rfl⟩ := hp
  have hP : va_P (gD G) vwC (wM G h dg mp ml 0 n t pl pn xy pt sz rs ou wr sl p fk fp va oa oc ok) H := hP
  have hD : va_D A (wM G h dg mp ml 0 n t pl pn xy pt sz rs ou wr sl p fk fp va oa oc ok) := hD
  refine W.eq (g2 := F0 mm 9 ls [.int (bz (decide (nI 0 ≤ s ∧ s ≤ nI 3)))]) rfl ?_
  refine yz_if_ne (P := nI 0 ≤ s ∧ s ≤ nI 3) (tgt := 23) hx hb d_M_read_9 (by decide) (fun c9 => ?_) (fun c9 => ?_)
  · skip
    obtain ⟨j, hj, rfl⟩ : ∃ j, j < 4 ∧ s = nI j := by obtain ⟨y, h1, h2⟩ := wi_n (by decide) c9; exact ⟨y, by omega, h2⟩
    refine lv_aload_n hx hb d_M_read_23 rfl (lv_at hl 0 rfl) ?_
    refine lv_iload_n hx hb d_M_read_24 rfl (lv_at hl 1 rfl) ?_
    refine va_put (D := gD G) (ci := 5) (v := .int (nI j)) (ty := .int) (C := "WordShapesModel") (T := TM) (N := 24) hx hb hg iw_M ft_M fo_M nm_M hown hK hP hD hS 0 rfl rfl 16 (by decide) (hg _ tk_699) (fun _ h9 => h9) rfl (by decide +kernel) (rfl) (rfl) (Nat.le_of_ble_eq_true rfl) d_M_read_25 (fun H locs hP hD hS => ?_)
    have hP : va_P (gD G) vwC (wM G h dg mp ml 0 n t pl pn xy pt sz rs ou wr j p fk fp va oa oc ok) H := hP
    have hD : va_D A (wM G h dg mp ml 0 n t pl pn xy pt sz rs ou wr j p fk fp va oa oc ok) := hD
    refine lv_aload_n hx hb d_M_read_28 rfl (lv_at hl 0 rfl) ?_
    refine lv_iconst (v := nI 0) hx hb d_M_read_29 (by decide) ?_
    refine va_put (D := gD G) (ci := 5) (v := .int (nI 0)) (ty := .int) (C := "WordShapesModel") (T := TM) (N := 24) hx hb hg iw_M ft_M fo_M nm_M hown hK hP hD hS 0 rfl rfl 17 (by decide) (hg _ tk_700) (fun _ h9 => h9) rfl (by decide +kernel) (rfl) (rfl) (Nat.le_of_ble_eq_true rfl) d_M_read_30 (fun H locs hP hD hS => ?_)
    have hP : va_P (gD G) vwC (wM G h dg mp ml 0 n t pl pn xy pt sz rs ou wr j 0 fk fp va oa oc ok) H := hP
    have hD : va_D A (wM G h dg mp ml 0 n t pl pn xy pt sz rs ou wr j 0 fk fp va oa oc ok) := hD
    refine lv_aload_n hx hb d_M_read_33 rfl (lv_at hl 0 rfl) ?_
    refine lv_iconst (v := nI 0) hx hb d_M_read_34 (by decide) ?_
    refine va_put (D := gD G) (ci := 5) (v := .int (nI 0)) (ty := .int) (C := "WordShapesModel") (T := TM) (N := 24) hx hb hg iw_M ft_M fo_M nm_M hown hK hP hD hS 0 rfl rfl 18 (by decide) (hg _ tk_701) (fun _ h9 => h9) rfl (by decide +kernel) (rfl) (rfl) (Nat.le_of_ble_eq_true rfl) d_M_read_35 (fun H locs hP hD hS => ?_)
    have hP : va_P (gD G) vwC (wM G h dg mp ml 0 n t pl pn xy pt sz rs ou wr j 0 0 fp va oa oc ok) H := hP
    have hD : va_D A (wM G h dg mp ml 0 n t pl pn xy pt sz rs ou wr j 0 0 fp va oa oc ok) := hD
    refine lv_aload_n hx hb d_M_read_38 rfl (lv_at hl 0 rfl) ?_
    refine lv_iconst (v := nI 0) hx hb d_M_read_39 (by decide) ?_
    refine va_put (D := gD G) (ci := 5) (v := .int (nI 0)) (ty := .int) (C := "WordShapesModel") (T := TM) (N := 24) hx hb hg iw_M ft_M fo_M nm_M hown hK hP hD hS 0 rfl rfl 19 (by decide) (hg _ tk_702) (fun _ h9 => h9) rfl (by decide +kernel) (rfl) (rfl) (Nat.le_of_ble_eq_true rfl) d_M_read_40 (fun H locs hP hD hS => ?_)
    have hP : va_P (gD G) vwC (wM G h dg mp ml 0 n t pl pn xy pt sz rs ou wr j 0 0 0 va oa oc ok) H := hP
    have hD : va_D A (wM G h dg mp ml 0 n t pl pn xy pt sz rs ou wr j 0 0 0 va oa oc ok) := hD
    refine lv_aload_n hx hb d_M_read_43 rfl (lv_at hl 0 rfl) ?_
    refine va_get (D := gD G) (ci := 5) (v := .ref (h 5)) (C := "WordShapesModel") (T := TM) (N := 24) hx hb hg iw_M hown hK hP 0 rfl rfl 9 (by decide) (hg _ tk_692) (fun _ h9 => h9) rfl d_M_read_44 ?_
    refine lv_iload_n hx hb d_M_read_47 rfl (lv_at hl 1 rfl) ?_
    refine lv_iconst (v := nI 0) hx hb d_M_read_48 (by decide) ?_
    refine yn_iast hx hb hK hP hD hS 5 0 rfl rfl (j := j) (x := nI 0) (f1 := fun i => nI ((va_up pn j 0) i)) (vu_st _ _ _) (by omega) (by omega) d_M_read_49 (fun H locs hP hD hS => ?_)
    have hP : va_P (gD G) vwC (wM G h dg mp ml 0 n t pl (va_up pn j 0) xy pt sz rs ou wr j 0 0 0 va oa oc ok) H := hP
    have hD : va_D A (wM G h dg mp ml 0 n t pl (va_up pn j 0) xy pt sz rs ou wr j 0 0 0 va oa oc ok) := hD
    refine lv_aload_n hx hb d_M_read_50 rfl (lv_at hl 0 rfl) ?_
    refine va_get (D := gD G) (ci := 5) (v := .ref (h 7)) (C := "WordShapesModel") (T := TM) (N := 24) hx hb hg iw_M hown hK hP 0 rfl rfl 11 (by decide) (hg _ tk_694) (fun _ h9 => h9) rfl d_M_read_51 ?_
    refine lv_iload_n hx hb d_M_read_54 rfl (lv_at hl 1 rfl) ?_
    refine lv_iconst (v := nI 0) hx hb d_M_read_55 (by decide) ?_
    refine yn_iast hx hb hK hP hD hS 7 0 rfl rfl (j := j) (x := nI 0) (f1 := fun i => nI ((va_up pt j 0) i)) (vu_st _ _ _) (by omega) (by omega) d_M_read_56 (fun H locs hP hD hS => ?_)
    have hP : va_P (gD G) vwC (wM G h dg mp ml 0 n t pl (va_up pn j 0) xy (va_up pt j 0) sz rs ou wr j 0 0 0 va oa oc ok) H := hP
    have hD : va_D A (wM G h dg mp ml 0 n t pl (va_up pn j 0) xy (va_up pt j 0) sz rs ou wr j 0 0 0 va oa oc ok) := hD
    rw [← plR_nil pl j, ← xyR_nil xy j] at hP hD
    have hP : va_P (gD G) vwC (wMR G h dg mp ml 0 n t pl pn xy pt sz rs ou wr j 0 0 0 va oa oc ok ([]) ([])) H := hP
    have hD : va_D A (wMR G h dg mp ml 0 n t pl pn xy pt sz rs ou wr j 0 0 0 va oa oc ok ([]) ([])) := hD
    refine lv_aload_n hx hb d_M_read_57 rfl (lv_at hl 0 rfl) ?_
    refine y_callW (y_runV (As := []) (rest := []) hx hb hml hown (c_M_readAll l G h dg mp ml 0 n t pl pn xy pt sz rs ou wr j 0 0 0 va oa oc ok ([]) ([])  (by omega) (by omega) (ht) (by omega) (by omega) (by omega) (Nat.zero_le _) (Nat.zero_le _) (by omega) (rfl)) (gV (n := 0) hg tk_782 tk_784 (gt_s 32 (by decide +kernel) (by decide +kernel)) tk_7 tk_785 (by decide +kernel) ⟨Nat.le_of_ble_eq_true rfl, Nat.le_of_ble_eq_true rfl⟩) (va_recv hK hP (ci := 5) (q0 := 0) rfl rfl) (y_preW hE hK hP hD hS hA) rfl rfl hl.1 rfl (lv_room (Nat.le_of_ble_eq_true rfl)) d_M_read_58 ⟨Nat.le_of_ble_eq_true rfl, Nat.le_of_ble_eq_true rfl⟩) hD hS hA (fun _ _ _ _ _ _ hp => False.elim hp) (fun v9 w9 H locs hp hlw hP hD hS => ?_)
    rcases hp with ⟨q_58, xs9_58, ys9_58, va9_58, oa9_58, oc9_58, hs_58, rfl, rfl⟩ | ⟨q_58, xs9_58, ys9_58, va9_58, oa9_58, oc9_58, hs_58, rfl, rfl⟩ | ⟨a_58, b_58, q_58, va9_58, xs9_58, ys9_58, oa9_58, oc9_58, hs_58, rfl, rfl⟩
    · skip
      have hP : va_P (gD G) vwC (wMR G h dg mp ml 0 n t pl pn xy pt sz rs ou wr j (rn blN t n q_58) 0 0 va9_58 oa9_58 oc9_58 ok xs9_58 ys9_58) H := hP
      have hD : va_D A (wMR G h dg mp ml 0 n t pl pn xy pt sz rs ou wr j (rn blN t n q_58) 0 0 va9_58 oa9_58 oc9_58 ok xs9_58 ys9_58) := hD
      refine W.eq (g2 := F0 mm 61 ls [.int (nI 1)]) rfl ?_
      have hrd : rdM t n dg mp ml oa oc = .inr (xs9_58, ys9_58) := by unfold rdM; rw [hs_58.1]; exact if_pos hs_58.2
      have hl2 := It_0len (rd_it hn (by omega) hrd).1 rfl
      refine lv_istore_n (lv' := [(2, .int (nI 1)), (0, .ref (h 0)), (1, .int (nI j))]) hx hb d_M_read_61 rfl hl (by decide) rfl (fun ls hl => ?_)
      refine lv_aload_n hx hb d_M_read_62 rfl (lv_at hl 1 rfl) ?_
      refine lv_iconst (v := nI 0) hx hb d_M_read_63 (by decide) ?_
      refine va_put (D := gD G) (ci := 5) (v := .int (nI 0)) (ty := .int) (C := "WordShapesModel") (T := TM) (N := 24) hx hb hg iw_M ft_M fo_M nm_M hown hK hP hD hS 0 rfl rfl 6 (by decide) (hg _ tk_689) (fun _ h9 => h9) rfl (by decide +kernel) (rfl) (rfl) (Nat.le_of_ble_eq_true rfl) d_M_read_64 (fun H locs hP hD hS => ?_)
      have hP : va_P (gD G) vwC (wMR G h dg mp ml 0 0 t pl pn xy pt sz rs ou wr j (rn blN t n q_58) 0 0 va9_58 oa9_58 oc9_58 ok xs9_58 ys9_58) H := hP
      have hD : va_D A (wMR G h dg mp ml 0 0 t pl pn xy pt sz rs ou wr j (rn blN t n q_58) 0 0 va9_58 oa9_58 oc9_58 ok xs9_58 ys9_58) := hD
      refine lv_iload_n hx hb d_M_read_67 rfl (lv_at hl 0 rfl) ?_
      refine yn_if_eq (a := 1) (tgt := 82) hx hb d_M_read_68 (by decide) (by omega) (fun c68 => ?_) (fun c68 => ?_)
      · skip
        exact absurd c68 (by decide)
      · skip
        refine lv_aload_n hx hb d_M_read_71 rfl (lv_at hl 1 rfl) ?_
        refine va_get (D := gD G) (ci := 5) (v := .ref (h 4)) (C := "WordShapesModel") (T := TM) (N := 24) hx hb hg iw_M hown hK hP 0 rfl rfl 8 (by decide) (hg _ tk_691) (fun _ h9 => h9) rfl d_M_read_72 ?_
        refine lv_sipush (v := nI 4096) hx hb d_M_read_75 (by decide) ?_
        refine lv_iload_n hx hb d_M_read_78 rfl (lv_at hl 2 rfl) ?_
        refine lv_imul hx hb d_M_read_79 ?_
        refine y_eqi (pk_mul _ _) ?_
        refine yn_iald hx hb hK hP 4 0 rfl rfl (j := 4096 * j) (x := xs9_58.getD 0 0) (plR_at (w := 0) (by omega) (by decide)) (by omega) (by omega) d_M_read_80 ?_
        exact yr_i (ws := wMR G h dg mp ml 0 0 t pl pn xy pt sz rs ou wr j (rn blN t n q_58) 0 0 va9_58 oa9_58 oc9_58 ok xs9_58 ys9_58) hx hb hrt hlocks (Or.inr (Or.inl ⟨j, _, _, _, _, _, _, ⟨hj, rfl, hrd⟩, rfl, rfl⟩)) rfl hK hP hD hS d_M_read_81
    · skip
      have hP : va_P (gD G) vwC (wMR G h dg mp ml 0 n t pl pn xy pt sz rs ou wr j (rn blN t n q_58) 8 (rn blN t n q_58) va9_58 oa9_58 oc9_58 ok xs9_58 ys9_58) H := hP
      have hD : va_D A (wMR G h dg mp ml 0 n t pl pn xy pt sz rs ou wr j (rn blN t n q_58) 8 (rn blN t n q_58) va9_58 oa9_58 oc9_58 ok xs9_58 ys9_58) := hD
      refine W.eq (g2 := F0 mm 61 ls [.int (nI 0)]) rfl ?_
      have hrd : rdM t n dg mp ml oa oc = .inl (8, rn blN t n q_58) := by unfold rdM; rw [hs_58.1]; exact if_neg hs_58.2
      refine lv_istore_n (lv' := [(2, .int (nI 0)), (0, .ref (h 0)), (1, .int (nI j))]) hx hb d_M_read_61 rfl hl (by decide) rfl (fun ls hl => ?_)
      refine lv_aload_n hx hb d_M_read_62 rfl (lv_at hl 1 rfl) ?_
      refine lv_iconst (v := nI 0) hx hb d_M_read_63 (by decide) ?_
      refine va_put (D := gD G) (ci := 5) (v := .int (nI 0)) (ty := .int) (C := "WordShapesModel") (T := TM) (N := 24) hx hb hg iw_M ft_M fo_M nm_M hown hK hP hD hS 0 rfl rfl 6 (by decide) (hg _ tk_689) (fun _ h9 => h9) rfl (by decide +kernel) (rfl) (rfl) (Nat.le_of_ble_eq_true rfl) d_M_read_64 (fun H locs hP hD hS => ?_)
      have hP : va_P (gD G) vwC (wMR G h dg mp ml 0 0 t pl pn xy pt sz rs ou wr j (rn blN t n q_58) 8 (rn blN t n q_58) va9_58 oa9_58 oc9_58 ok xs9_58 ys9_58) H := hP
      have hD : va_D A (wMR G h dg mp ml 0 0 t pl pn xy pt sz rs ou wr j (rn blN t n q_58) 8 (rn blN t n q_58) va9_58 oa9_58 oc9_58 ok xs9_58 ys9_58) := hD
      refine lv_iload_n hx hb d_M_read_67 rfl (lv_at hl 0 rfl) ?_
      refine yn_if_eq (a := 0) (tgt := 82) hx hb d_M_read_68 (by decide) (by omega) (fun c68 => ?_) (fun c68 => ?_)
      · skip
        have hP : va_P (gD G) vwC (wM G h dg mp ml 0 0 t (plR pl j xs9_58) (va_up pn j xs9_58.length) (xyR xy j ys9_58) (va_up pt j ys9_58.length) sz rs ou wr j (rn blN t n q_58) 8 (rn blN t n q_58) va9_58 oa9_58 oc9_58 ok) H := hP
        have hD : va_D A (wM G h dg mp ml 0 0 t (plR pl j xs9_58) (va_up pn j xs9_58.length) (xyR xy j ys9_58) (va_up pt j ys9_58.length) sz rs ou wr j (rn blN t n q_58) 8 (rn blN t n q_58) va9_58 oa9_58 oc9_58 ok) := hD
        refine lv_aload_n hx hb d_M_read_82 rfl (lv_at hl 1 rfl) ?_
        refine va_get (D := gD G) (ci := 5) (v := .ref (h 5)) (C := "WordShapesModel") (T := TM) (N := 24) hx hb hg iw_M hown hK hP 0 rfl rfl 9 (by decide) (hg _ tk_692) (fun _ h9 => h9) rfl d_M_read_83 ?_
        refine lv_iload_n hx hb d_M_read_86 rfl (lv_at hl 2 rfl) ?_
        refine lv_iconst (v := nI 0) hx hb d_M_read_87 (by decide) ?_
        refine yn_iast hx hb hK hP hD hS 5 0 rfl rfl (j := j) (x := nI 0) (f1 := fun i => nI ((va_up (va_up pn j xs9_58.length) j 0) i)) (vu_st _ _ _) (by omega) (by omega) d_M_read_88 (fun H locs hP hD hS => ?_)
        have hP : va_P (gD G) vwC (wM G h dg mp ml 0 0 t (plR pl j xs9_58) (va_up (va_up pn j xs9_58.length) j 0) (xyR xy j ys9_58) (va_up pt j ys9_58.length) sz rs ou wr j (rn blN t n q_58) 8 (rn blN t n q_58) va9_58 oa9_58 oc9_58 ok) H := hP
        have hD : va_D A (wM G h dg mp ml 0 0 t (plR pl j xs9_58) (va_up (va_up pn j xs9_58.length) j 0) (xyR xy j ys9_58) (va_up pt j ys9_58.length) sz rs ou wr j (rn blN t n q_58) 8 (rn blN t n q_58) va9_58 oa9_58 oc9_58 ok) := hD
        refine lv_aload_n hx hb d_M_read_89 rfl (lv_at hl 1 rfl) ?_
        refine va_get (D := gD G) (ci := 5) (v := .ref (h 7)) (C := "WordShapesModel") (T := TM) (N := 24) hx hb hg iw_M hown hK hP 0 rfl rfl 11 (by decide) (hg _ tk_694) (fun _ h9 => h9) rfl d_M_read_90 ?_
        refine lv_iload_n hx hb d_M_read_93 rfl (lv_at hl 2 rfl) ?_
        refine lv_iconst (v := nI 0) hx hb d_M_read_94 (by decide) ?_
        refine yn_iast hx hb hK hP hD hS 7 0 rfl rfl (j := j) (x := nI 0) (f1 := fun i => nI ((va_up (va_up pt j ys9_58.length) j 0) i)) (vu_st _ _ _) (by omega) (by omega) d_M_read_95 (fun H locs hP hD hS => ?_)
        have hP : va_P (gD G) vwC (wM G h dg mp ml 0 0 t (plR pl j xs9_58) (va_up (va_up pn j xs9_58.length) j 0) (xyR xy j ys9_58) (va_up (va_up pt j ys9_58.length) j 0) sz rs ou wr j (rn blN t n q_58) 8 (rn blN t n q_58) va9_58 oa9_58 oc9_58 ok) H := hP
        have hD : va_D A (wM G h dg mp ml 0 0 t (plR pl j xs9_58) (va_up (va_up pn j xs9_58.length) j 0) (xyR xy j ys9_58) (va_up (va_up pt j ys9_58.length) j 0) sz rs ou wr j (rn blN t n q_58) 8 (rn blN t n q_58) va9_58 oa9_58 oc9_58 ok) := hD
        refine lv_aload_n hx hb d_M_read_96 rfl (lv_at hl 1 rfl) ?_
        refine lv_iconst (v := nI 2) hx hb d_M_read_97 (by decide) ?_
        refine y_callW (y_runV (As := [.int (nI 2)]) (rest := []) hx hb hml hown (c_M_fail l G h dg mp ml 0 0 t (plR pl j xs9_58) (va_up (va_up pn j xs9_58.length) j 0) (xyR xy j ys9_58) (va_up (va_up pt j ys9_58.length) j 0) sz rs ou wr j (rn blN t n q_58) 8 (rn blN t n q_58) va9_58 oa9_58 oc9_58 ok 2 ) (gV (n := 1) hg tk_764 tk_766 (gt_s 31 (by decide +kernel) (by decide +kernel)) tk_7 tk_767 (by decide +kernel) ⟨Nat.le_of_ble_eq_true rfl, Nat.le_of_ble_eq_true rfl⟩) (va_recv hK hP (ci := 5) (q0 := 0) rfl rfl) (y_preW hE hK hP hD hS hA) rfl rfl hl.1 rfl (lv_room (Nat.le_of_ble_eq_true rfl)) d_M_read_98 ⟨Nat.le_of_ble_eq_true rfl, Nat.le_of_ble_eq_true rfl⟩) hD hS hA (fun _ _ _ _ _ _ hp => False.elim hp) (fun v9 w9 H locs hp hlw hP hD hS => ?_)
        obtain ⟨rfl, rfl⟩ := hp
        have hP : va_P (gD G) vwC (wM G h dg mp ml 2 0 t (plR pl j xs9_58) (va_up (va_up pn j xs9_58.length) j 0) (xyR xy j ys9_58) (va_up (va_up pt j ys9_58.length) j 0) sz rs ou wr j (rn blN t n q_58) 8 (rn blN t n q_58) va9_58 oa9_58 oc9_58 ok) H := hP
        have hD : va_D A (wM G h dg mp ml 2 0 t (plR pl j xs9_58) (va_up (va_up pn j xs9_58.length) j 0) (xyR xy j ys9_58) (va_up (va_up pt j ys9_58.length) j 0) sz rs ou wr j (rn blN t n q_58) 8 (rn blN t n q_58) va9_58 oa9_58 oc9_58 ok) := hD
        refine W.eq (g2 := F0 mm 101 ls [.int (nI 0)]) rfl ?_
        rw [vu_u, vu_u] at hP hD
        have hP : va_P (gD G) vwC (wM G h dg mp ml 2 0 t (plR pl j xs9_58) (va_up pn j 0) (xyR xy j ys9_58) (va_up pt j 0) sz rs ou wr j (rn blN t n q_58) 8 (rn blN t n q_58) va9_58 oa9_58 oc9_58 ok) H := hP
        have hD : va_D A (wM G h dg mp ml 2 0 t (plR pl j xs9_58) (va_up pn j 0) (xyR xy j ys9_58) (va_up pt j 0) sz rs ou wr j (rn blN t n q_58) 8 (rn blN t n q_58) va9_58 oa9_58 oc9_58 ok) := hD
        exact yr_i (ws := wM G h dg mp ml 2 0 t (plR pl j xs9_58) (va_up pn j 0) (xyR xy j ys9_58) (va_up pt j 0) sz rs ou wr j (rn blN t n q_58) 8 (rn blN t n q_58) va9_58 oa9_58 oc9_58 ok) hx hb hrt hlocks (Or.inr (Or.inr ⟨j, _, _, _, _, _, _, _, _, ⟨hj, rfl, hrd⟩, rfl, rfl⟩)) rfl hK hP hD hS d_M_read_101
      · skip
        exact absurd c68 (by decide)
    · skip
      have hP : va_P (gD G) vwC (wMR G h dg mp ml 0 n t pl pn xy pt sz rs ou wr j q_58 a_58 b_58 va9_58 oa9_58 oc9_58 ok xs9_58 ys9_58) H := hP
      have hD : va_D A (wMR G h dg mp ml 0 n t pl pn xy pt sz rs ou wr j q_58 a_58 b_58 va9_58 oa9_58 oc9_58 ok xs9_58 ys9_58) := hD
      refine W.eq (g2 := F0 mm 61 ls [.int (nI 0)]) rfl ?_
      have hrd : rdM t n dg mp ml oa oc = .inl (a_58, b_58) := by unfold rdM; rw [hs_58]
      refine lv_istore_n (lv' := [(2, .int (nI 0)), (0, .ref (h 0)), (1, .int (nI j))]) hx hb d_M_read_61 rfl hl (by decide) rfl (fun ls hl => ?_)
      refine lv_aload_n hx hb d_M_read_62 rfl (lv_at hl 1 rfl) ?_
      refine lv_iconst (v := nI 0) hx hb d_M_read_63 (by decide) ?_
      refine va_put (D := gD G) (ci := 5) (v := .int (nI 0)) (ty := .int) (C := "WordShapesModel") (T := TM) (N := 24) hx hb hg iw_M ft_M fo_M nm_M hown hK hP hD hS 0 rfl rfl 6 (by decide) (hg _ tk_689) (fun _ h9 => h9) rfl (by decide +kernel) (rfl) (rfl) (Nat.le_of_ble_eq_true rfl) d_M_read_64 (fun H locs hP hD hS => ?_)
      have hP : va_P (gD G) vwC (wMR G h dg mp ml 0 0 t pl pn xy pt sz rs ou wr j q_58 a_58 b_58 va9_58 oa9_58 oc9_58 ok xs9_58 ys9_58) H := hP
      have hD : va_D A (wMR G h dg mp ml 0 0 t pl pn xy pt sz rs ou wr j q_58 a_58 b_58 va9_58 oa9_58 oc9_58 ok xs9_58 ys9_58) := hD
      refine lv_iload_n hx hb d_M_read_67 rfl (lv_at hl 0 rfl) ?_
      refine yn_if_eq (a := 0) (tgt := 82) hx hb d_M_read_68 (by decide) (by omega) (fun c68 => ?_) (fun c68 => ?_)
      · skip
        have hP : va_P (gD G) vwC (wM G h dg mp ml 0 0 t (plR pl j xs9_58) (va_up pn j xs9_58.length) (xyR xy j ys9_58) (va_up pt j ys9_58.length) sz rs ou wr j q_58 a_58 b_58 va9_58 oa9_58 oc9_58 ok) H := hP
        have hD : va_D A (wM G h dg mp ml 0 0 t (plR pl j xs9_58) (va_up pn j xs9_58.length) (xyR xy j ys9_58) (va_up pt j ys9_58.length) sz rs ou wr j q_58 a_58 b_58 va9_58 oa9_58 oc9_58 ok) := hD
        refine lv_aload_n hx hb d_M_read_82 rfl (lv_at hl 1 rfl) ?_
        refine va_get (D := gD G) (ci := 5) (v := .ref (h 5)) (C := "WordShapesModel") (T := TM) (N := 24) hx hb hg iw_M hown hK hP 0 rfl rfl 9 (by decide) (hg _ tk_692) (fun _ h9 => h9) rfl d_M_read_83 ?_
        refine lv_iload_n hx hb d_M_read_86 rfl (lv_at hl 2 rfl) ?_
        refine lv_iconst (v := nI 0) hx hb d_M_read_87 (by decide) ?_
        refine yn_iast hx hb hK hP hD hS 5 0 rfl rfl (j := j) (x := nI 0) (f1 := fun i => nI ((va_up (va_up pn j xs9_58.length) j 0) i)) (vu_st _ _ _) (by omega) (by omega) d_M_read_88 (fun H locs hP hD hS => ?_)
        have hP : va_P (gD G) vwC (wM G h dg mp ml 0 0 t (plR pl j xs9_58) (va_up (va_up pn j xs9_58.length) j 0) (xyR xy j ys9_58) (va_up pt j ys9_58.length) sz rs ou wr j q_58 a_58 b_58 va9_58 oa9_58 oc9_58 ok) H := hP
        have hD : va_D A (wM G h dg mp ml 0 0 t (plR pl j xs9_58) (va_up (va_up pn j xs9_58.length) j 0) (xyR xy j ys9_58) (va_up pt j ys9_58.length) sz rs ou wr j q_58 a_58 b_58 va9_58 oa9_58 oc9_58 ok) := hD
        refine lv_aload_n hx hb d_M_read_89 rfl (lv_at hl 1 rfl) ?_
        refine va_get (D := gD G) (ci := 5) (v := .ref (h 7)) (C := "WordShapesModel") (T := TM) (N := 24) hx hb hg iw_M hown hK hP 0 rfl rfl 11 (by decide) (hg _ tk_694) (fun _ h9 => h9) rfl d_M_read_90 ?_
        refine lv_iload_n hx hb d_M_read_93 rfl (lv_at hl 2 rfl) ?_
        refine lv_iconst (v := nI 0) hx hb d_M_read_94 (by decide) ?_
        refine yn_iast hx hb hK hP hD hS 7 0 rfl rfl (j := j) (x := nI 0) (f1 := fun i => nI ((va_up (va_up pt j ys9_58.length) j 0) i)) (vu_st _ _ _) (by omega) (by omega) d_M_read_95 (fun H locs hP hD hS => ?_)
        have hP : va_P (gD G) vwC (wM G h dg mp ml 0 0 t (plR pl j xs9_58) (va_up (va_up pn j xs9_58.length) j 0) (xyR xy j ys9_58) (va_up (va_up pt j ys9_58.length) j 0) sz rs ou wr j q_58 a_58 b_58 va9_58 oa9_58 oc9_58 ok) H := hP
        have hD : va_D A (wM G h dg mp ml 0 0 t (plR pl j xs9_58) (va_up (va_up pn j xs9_58.length) j 0) (xyR xy j ys9_58) (va_up (va_up pt j ys9_58.length) j 0) sz rs ou wr j q_58 a_58 b_58 va9_58 oa9_58 oc9_58 ok) := hD
        refine lv_aload_n hx hb d_M_read_96 rfl (lv_at hl 1 rfl) ?_
        refine lv_iconst (v := nI 2) hx hb d_M_read_97 (by decide) ?_
        refine y_callW (y_runV (As := [.int (nI 2)]) (rest := []) hx hb hml hown (c_M_fail l G h dg mp ml 0 0 t (plR pl j xs9_58) (va_up (va_up pn j xs9_58.length) j 0) (xyR xy j ys9_58) (va_up (va_up pt j ys9_58.length) j 0) sz rs ou wr j q_58 a_58 b_58 va9_58 oa9_58 oc9_58 ok 2 ) (gV (n := 1) hg tk_764 tk_766 (gt_s 31 (by decide +kernel) (by decide +kernel)) tk_7 tk_767 (by decide +kernel) ⟨Nat.le_of_ble_eq_true rfl, Nat.le_of_ble_eq_true rfl⟩) (va_recv hK hP (ci := 5) (q0 := 0) rfl rfl) (y_preW hE hK hP hD hS hA) rfl rfl hl.1 rfl (lv_room (Nat.le_of_ble_eq_true rfl)) d_M_read_98 ⟨Nat.le_of_ble_eq_true rfl, Nat.le_of_ble_eq_true rfl⟩) hD hS hA (fun _ _ _ _ _ _ hp => False.elim hp) (fun v9 w9 H locs hp hlw hP hD hS => ?_)
        obtain ⟨rfl, rfl⟩ := hp
        have hP : va_P (gD G) vwC (wM G h dg mp ml 2 0 t (plR pl j xs9_58) (va_up (va_up pn j xs9_58.length) j 0) (xyR xy j ys9_58) (va_up (va_up pt j ys9_58.length) j 0) sz rs ou wr j q_58 a_58 b_58 va9_58 oa9_58 oc9_58 ok) H := hP
        have hD : va_D A (wM G h dg mp ml 2 0 t (plR pl j xs9_58) (va_up (va_up pn j xs9_58.length) j 0) (xyR xy j ys9_58) (va_up (va_up pt j ys9_58.length) j 0) sz rs ou wr j q_58 a_58 b_58 va9_58 oa9_58 oc9_58 ok) := hD
        refine W.eq (g2 := F0 mm 101 ls [.int (nI 0)]) rfl ?_
        rw [vu_u, vu_u] at hP hD
        have hP : va_P (gD G) vwC (wM G h dg mp ml 2 0 t (plR pl j xs9_58) (va_up pn j 0) (xyR xy j ys9_58) (va_up pt j 0) sz rs ou wr j q_58 a_58 b_58 va9_58 oa9_58 oc9_58 ok) H := hP
        have hD : va_D A (wM G h dg mp ml 2 0 t (plR pl j xs9_58) (va_up pn j 0) (xyR xy j ys9_58) (va_up pt j 0) sz rs ou wr j q_58 a_58 b_58 va9_58 oa9_58 oc9_58 ok) := hD
        exact yr_i (ws := wM G h dg mp ml 2 0 t (plR pl j xs9_58) (va_up pn j 0) (xyR xy j ys9_58) (va_up pt j 0) sz rs ou wr j q_58 a_58 b_58 va9_58 oa9_58 oc9_58 ok) hx hb hrt hlocks (Or.inr (Or.inr ⟨j, _, _, _, _, _, _, _, _, ⟨hj, rfl, hrd⟩, rfl, rfl⟩)) rfl hK hP hD hS d_M_read_101
      · skip
        exact absurd c68 (by decide)
  · skip
    refine lv_aload_n hx hb d_M_read_12 rfl (lv_at hl 0 rfl) ?_
    refine lv_iconst (v := nI 0) hx hb d_M_read_13 (by decide) ?_
    refine va_put (D := gD G) (ci := 5) (v := .int (nI 0)) (ty := .int) (C := "WordShapesModel") (T := TM) (N := 24) hx hb hg iw_M ft_M fo_M nm_M hown hK hP hD hS 0 rfl rfl 6 (by decide) (hg _ tk_689) (fun _ h9 => h9) rfl (by decide +kernel) (rfl) (rfl) (Nat.le_of_ble_eq_true rfl) d_M_read_14 (fun H locs hP hD hS => ?_)
    have hP : va_P (gD G) vwC (wM G h dg mp ml 0 0 t pl pn xy pt sz rs ou wr sl p fk fp va oa oc ok) H := hP
    have hD : va_D A (wM G h dg mp ml 0 0 t pl pn xy pt sz rs ou wr sl p fk fp va oa oc ok) := hD
    refine lv_aload_n hx hb d_M_read_17 rfl (lv_at hl 0 rfl) ?_
    refine lv_iconst (v := nI 1) hx hb d_M_read_18 (by decide) ?_
    refine y_callW (y_runV (As := [.int (nI 1)]) (rest := []) hx hb hml hown (c_M_fail l G h dg mp ml 0 0 t pl pn xy pt sz rs ou wr sl p fk fp va oa oc ok 1 ) (gV (n := 1) hg tk_764 tk_766 (gt_s 31 (by decide +kernel) (by decide +kernel)) tk_7 tk_767 (by decide +kernel) ⟨Nat.le_of_ble_eq_true rfl, Nat.le_of_ble_eq_true rfl⟩) (va_recv hK hP (ci := 5) (q0 := 0) rfl rfl) (y_preW hE hK hP hD hS hA) rfl rfl hl.1 rfl (lv_room (Nat.le_of_ble_eq_true rfl)) d_M_read_19 ⟨Nat.le_of_ble_eq_true rfl, Nat.le_of_ble_eq_true rfl⟩) hD hS hA (fun _ _ _ _ _ _ hp => False.elim hp) (fun v9 w9 H locs hp hlw hP hD hS => ?_)
    obtain ⟨rfl, rfl⟩ := hp
    have hP : va_P (gD G) vwC (wM G h dg mp ml 1 0 t pl pn xy pt sz rs ou wr sl p fk fp va oa oc ok) H := hP
    have hD : va_D A (wM G h dg mp ml 1 0 t pl pn xy pt sz rs ou wr sl p fk fp va oa oc ok) := hD
    refine W.eq (g2 := F0 mm 22 ls [.int (nI 0)]) rfl ?_
    exact yr_i (ws := wM G h dg mp ml 1 0 t pl pn xy pt sz rs ou wr sl p fk fp va oa oc ok) hx hb hrt hlocks (Or.inl ⟨fun y => by obtain ⟨j, h1, h2⟩ := y; rw [h2] at c9; exact c9 (wi_f (by decide) (by omega)), rfl, rfl⟩) rfl hK hP hD hS d_M_read_22
set_option maxHeartbeats 4000000 in
set_option maxRecDepth 100000 in
theorem c_M_same (l : Launch) (G : gl) (h : Nat → Nat) (dg : Nat) (mp : Nat) (ml : Nat) (th : Nat) (n : Nat) (t : Nat → Nat) (pl : Nat → Int32) (pn : Nat → Nat) (xy : Nat → Int32) (pt : Nat → Nat) (sz : Nat) (rs : Nat → Nat) (ou : Nat → Nat) (wr : Nat) (sl : Nat) (p : Nat) (fk : Nat) (fp : Nat) (va : Int32) (oa : Nat → Int32) (oc : Nat → Int32) (ok : Nat → Int32) (a : Int32) (b : Int32) (hpn : ∀ j, pn j ≤ 4096) (hpt : ∀ j, pt j ≤ 4096) : YC l G y_M_same k_M_same 5 (Option.some FieldType.boolean) 2 42 [.ref (h 0), .int a, .int b] (wM G h dg mp ml th n t pl pn xy pt sz rs ou wr sl p fk fp va oa oc ok) (fun v w => ((¬ ((∃ i, i < 4 ∧ a = nI i) ∧ ∃ j, j < 4 ∧ b = nI j)) ∧ v = some (.int (nI 0)) ∧ w = wM G h dg mp ml 1 n t pl pn xy pt sz rs ou wr sl p fk fp va oa oc ok) ∨ (∃ i j, (i < 4 ∧ a = nI i ∧ j < 4 ∧ b = nI j) ∧ v = some (.int (bz (decide (pn i = pn j ∧ pt i = pt j ∧ (∀ y, y < pn i → pl (4096 * i + y) = pl (4096 * j + y)) ∧ ∀ y, y < 2 * pt i → xy (8192 * i + y) = xy (8192 * j + y))))) ∧ w = wM G h dg mp ml 0 n t pl pn xy pt sz rs ou wr sl p fk fp va oa oc ok)) (fun _ _ => False) := by
  refine yc_of (by decide) ?_
  intro pg ev sx mm bl mt cd A C0 hP hD
  obtain ⟨hx, hb, hrt, hml, hown, hg, hlocks, hxt, hE, hK, hA, hmn⟩ := C0
  have hS : va_S A sx.heap sx.heap [] := va_S.rf
  have hl := lv_entry ([.ref (h 0), .int a, .int b]) (n := 5) (Nat.le_of_ble_eq_true rfl)
  rw [lg_entry_eq]
  generalize (lg_sl ([.ref (h 0), .int a, .int b]) ++ List.replicate (5 - (lg_sl ([.ref (h 0), .int a, .int b])).length) Slot.unset).toArray = ls at hl ⊢
  have hl : lv_has ls 5 [(0, .ref (h 0)), (1, .int a), (2, .int b)] := hl
  obtain ⟨H, hH⟩ : ∃ H, H = sx.heap := ⟨_, rfl⟩
  rw [← hH] at hP
  have hS : va_S A sx.heap H [] := by rw [hH]; exact hS
  suffices h9 : W pg l ev (yR 2 42) sx mm _ bl mt cd H [] 0 0 (yMQ bl G A _ _ _ _ sx) (F0 mm 0 ls []) by rw [hH] at h9; exact h9
  obtain ⟨locs, hlo⟩ : ∃ locs : List Loc, locs = [] := ⟨_, rfl⟩
  rw [← hlo] at hS ⊢
  have J131 : ∀ (n9 : Nat) (i : Nat) (j : Nat) (z : Bool) (k : Nat) (hm9 : 2 * pt i - k < n9) (hi : i < 4) (hj : j < 4) (ha9 : a = nI i) (hb9 : b = nI j) (hk : k ≤ 2 * pt i) (hz : z = decide (pn i = pn j ∧ pt i = pt j ∧ (∀ y, y < pn i → pl (4096 * i + y) = pl (4096 * j + y)) ∧ ∀ y, y < k → xy (8192 * i + y) = xy (8192 * j + y))) (H : Heap) (locs : List Loc) (ls : Array Slot), va_P (gD G) vwC (wM G h dg mp ml 0 n t pl pn xy pt sz rs ou wr sl p fk fp va oa oc ok) H → va_D A (wM G h dg mp ml 0 n t pl pn xy pt sz rs ou wr sl p fk fp va oa oc ok) → va_S A sx.heap H locs → lv_has ls 5 [(0, .ref (h 0)), (1, .int (nI i)), (2, .int (nI j)), (3, .int (bz z)), (4, .int (nI k))] → W pg l ev (yR 2 42) sx mm ([.ref (h 0), .int a, .int b] : List Value).toArray bl mt cd H locs 0 0 (yMQ bl G A (wM G h dg mp ml th n t pl pn xy pt sz rs ou wr sl p fk fp va oa oc ok).length (fun v w => ((¬ ((∃ i, i < 4 ∧ a = nI i) ∧ ∃ j, j < 4 ∧ b = nI j)) ∧ v = some (.int (nI 0)) ∧ w = wM G h dg mp ml 1 n t pl pn xy pt sz rs ou wr sl p fk fp va oa oc ok) ∨ (∃ i j, (i < 4 ∧ a = nI i ∧ j < 4 ∧ b = nI j) ∧ v = some (.int (bz (decide (pn i = pn j ∧ pt i = pt j ∧ (∀ y, y < pn i → pl (4096 * i + y) = pl (4096 * j + y)) ∧ ∀ y, y < 2 * pt i → xy (8192 * i + y) = xy (8192 * j + y))))) ∧ w = wM G h dg mp ml 0 n t pl pn xy pt sz rs ou wr sl p fk fp va oa oc ok)) (fun _ _ => False) ([.ref (h 0), .int a, .int b] : List Value).toArray sx) (F0 mm 131 ls []) := by
    intro n9
    induction n9 with
    | zero => intro i j z k hm9; exact absurd hm9 (Nat.not_lt_zero _)
    | succ n9 ih9 =>
      intro i j z k hm9 hi hj ha9 hb9 hk hz H locs ls hP hD hS hl
      have hpni := hpn i
      have hpnj := hpn j
      have hpti := hpt i
      have hptj := hpt j
      refine lv_iload hx hb d_M_same_131 (lv_at hl 4 rfl) ?_
      refine lv_iconst (v := nI 2) hx hb d_M_same_133 (by decide) ?_
      refine lv_aload_n hx hb d_M_same_134 rfl (lv_at hl 0 rfl) ?_
      refine va_get (D := gD G) (ci := 5) (v := .ref (h 7)) (C := "WordShapesModel") (T := TM) (N := 24) hx hb hg iw_M hown hK hP 0 rfl rfl 11 (by decide) (hg _ tk_694) (fun _ h9 => h9) rfl d_M_same_135 ?_
      refine lv_iload_n hx hb d_M_same_138 rfl (lv_at hl 1 rfl) ?_
      refine yn_iald hx hb hK hP 7 0 rfl rfl (j := i) (x := nI (pt i)) (rfl) (by omega) (by omega) d_M_same_139 ?_
      refine lv_imul hx hb d_M_same_140 ?_
      refine y_eqi (pk_mul _ _) ?_
      refine yn_icmp_ge (a := k) (b := 2 * (pt i)) (tgt := 189) hx hb d_M_same_141 (by decide) (by omega) (by omega) (fun c141 => ?_) (fun c141 => ?_)
      · skip
        have hzf : z = decide (pn i = pn j ∧ pt i = pt j ∧ (∀ y, y < pn i → pl (4096 * i + y) = pl (4096 * j + y)) ∧ ∀ y, y < 2 * pt i → xy (8192 * i + y) = xy (8192 * j + y)) := by first | exact c145.trans (decide_eq_false (fun y => of_decide_eq_false (hz.symm.trans c145) ⟨y.1, y.2.1, y.2.2.1, fun q h => y.2.2.2 q (by omega)⟩)).symm | exact hz.trans (decide_eq_decide.mpr ⟨fun y => ⟨y.1, y.2.1, y.2.2.1, fun q h => y.2.2.2 q (by omega)⟩, fun y => ⟨y.1, y.2.1, y.2.2.1, fun q h => y.2.2.2 q (by omega)⟩⟩)
        refine lv_iload_n hx hb d_M_same_189 rfl (lv_at hl 3 rfl) ?_
        exact yr_z (ws := wM G h dg mp ml 0 n t pl pn xy pt sz rs ou wr sl p fk fp va oa oc ok) hx hb hrt (bz_nar _) hlocks (Or.inr ⟨i, j, ⟨hi, ha9, hj, hb9⟩, congrArg (fun b => some (Value.int (bz b))) hzf, rfl⟩) rfl hK hP hD hS d_M_same_190
      · skip
        refine lv_iload_n hx hb d_M_same_144 rfl (lv_at hl 3 rfl) ?_
        refine yy_if_eq (P := z) (tgt := 189) hx hb d_M_same_145 (by decide) (fun c145 => ?_) (fun c145 => ?_)
        · skip
          have hzf : z = decide (pn i = pn j ∧ pt i = pt j ∧ (∀ y, y < pn i → pl (4096 * i + y) = pl (4096 * j + y)) ∧ ∀ y, y < 2 * pt i → xy (8192 * i + y) = xy (8192 * j + y)) := by first | exact c145.trans (decide_eq_false (fun y => of_decide_eq_false (hz.symm.trans c145) ⟨y.1, y.2.1, y.2.2.1, fun q h => y.2.2.2 q (by omega)⟩)).symm | exact hz.trans (decide_eq_decide.mpr ⟨fun y => ⟨y.1, y.2.1, y.2.2.1, fun q h => y.2.2.2 q (by omega)⟩, fun y => ⟨y.1, y.2.1, y.2.2.1, fun q h => y.2.2.2 q (by omega)⟩⟩)
          refine lv_iload_n hx hb d_M_same_189 rfl (lv_at hl 3 rfl) ?_
          exact yr_z (ws := wM G h dg mp ml 0 n t pl pn xy pt sz rs ou wr sl p fk fp va oa oc ok) hx hb hrt (bz_nar _) hlocks (Or.inr ⟨i, j, ⟨hi, ha9, hj, hb9⟩, congrArg (fun b => some (Value.int (bz b))) hzf, rfl⟩) rfl hK hP hD hS d_M_same_190
        · skip
          have hz9 := of_decide_eq_true (hz.symm.trans c145)
          refine lv_aload_n hx hb d_M_same_148 rfl (lv_at hl 0 rfl) ?_
          refine va_get (D := gD G) (ci := 5) (v := .ref (h 6)) (C := "WordShapesModel") (T := TM) (N := 24) hx hb hg iw_M hown hK hP 0 rfl rfl 10 (by decide) (hg _ tk_693) (fun _ h9 => h9) rfl d_M_same_149 ?_
          refine lv_sipush (v := nI 8192) hx hb d_M_same_152 (by decide) ?_
          refine lv_iload_n hx hb d_M_same_155 rfl (lv_at hl 1 rfl) ?_
          refine lv_imul hx hb d_M_same_156 ?_
          refine y_eqi (pk_mul _ _) ?_
          refine lv_iload hx hb d_M_same_157 (lv_at hl 4 rfl) ?_
          refine lv_iadd hx hb d_M_same_159 ?_
          refine y_eqi (nI_add _ _) ?_
          refine yn_iald hx hb hK hP 6 0 rfl rfl (j := 8192 * i + k) (x := xy (8192 * i + k)) (rfl) (by omega) (by omega) d_M_same_160 ?_
          refine lv_aload_n hx hb d_M_same_161 rfl (lv_at hl 0 rfl) ?_
          refine va_get (D := gD G) (ci := 5) (v := .ref (h 6)) (C := "WordShapesModel") (T := TM) (N := 24) hx hb hg iw_M hown hK hP 0 rfl rfl 10 (by decide) (hg _ tk_693) (fun _ h9 => h9) rfl d_M_same_162 ?_
          refine lv_sipush (v := nI 8192) hx hb d_M_same_165 (by decide) ?_
          refine lv_iload_n hx hb d_M_same_168 rfl (lv_at hl 2 rfl) ?_
          refine lv_imul hx hb d_M_same_169 ?_
          refine y_eqi (pk_mul _ _) ?_
          refine lv_iload hx hb d_M_same_170 (lv_at hl 4 rfl) ?_
          refine lv_iadd hx hb d_M_same_172 ?_
          refine y_eqi (nI_add _ _) ?_
          refine yn_iald hx hb hK hP 6 0 rfl rfl (j := 8192 * j + k) (x := xy (8192 * j + k)) (rfl) (by omega) (by omega) d_M_same_173 ?_
          refine lv_icmp_ne (tgt := 181) hx hb d_M_same_174 (by decide) (fun c174 => ?_) (fun c174 => ?_)
          · skip
            refine lv_iconst (v := nI 0) hx hb d_M_same_181 (by decide) ?_
            refine lv_istore_n (lv' := [(3, .int (nI 0)), (0, .ref (h 0)), (1, .int (nI i)), (2, .int (nI j)), (4, .int (nI k))]) hx hb d_M_same_182 rfl hl (by decide) rfl (fun ls hl => ?_)
            refine lv_iinc (v := nI (k + 1)) (lv' := [(4, .int (nI (k + 1))), (3, .int (nI 0)), (0, .ref (h 0)), (1, .int (nI i)), (2, .int (nI j))]) hx hb d_M_same_183 hl (k := 4) rfl (y_inc _) (by decide) rfl (fun ls hl => ?_)
            refine lv_goto (tgt := 131) hx hb d_M_same_186 (by decide) ?_
            exact ih9 i j false (k + 1) (by omega) (by omega) (by omega) (by first | exact ha9 | rfl) (by first | exact hb9 | rfl) (by omega) ((decide_eq_false (fun y => c174 (y.2.2.2 k (by omega)))).symm) _ _ _ hP hD hS (lv_sub hl [2, 3, 4, 1, 0] (rfl))
          · skip
            refine lv_iconst (v := nI 1) hx hb d_M_same_177 (by decide) ?_
            refine lv_goto (tgt := 182) hx hb d_M_same_178 (by decide) ?_
            refine lv_istore_n (lv' := [(3, .int (nI 1)), (0, .ref (h 0)), (1, .int (nI i)), (2, .int (nI j)), (4, .int (nI k))]) hx hb d_M_same_182 rfl hl (by decide) rfl (fun ls hl => ?_)
            refine lv_iinc (v := nI (k + 1)) (lv' := [(4, .int (nI (k + 1))), (3, .int (nI 1)), (0, .ref (h 0)), (1, .int (nI i)), (2, .int (nI j))]) hx hb d_M_same_183 hl (k := 4) rfl (y_inc _) (by decide) rfl (fun ls hl => ?_)
            refine lv_goto (tgt := 131) hx hb d_M_same_186 (by decide) ?_
            exact ih9 i j true (k + 1) (by omega) (by omega) (by omega) (by first | exact ha9 | rfl) (by first | exact hb9 | rfl) (by omega) ((decide_eq_true ⟨hz9.1, hz9.2.1, hz9.2.2.1, lt_s hz9.2.2.2 c174⟩).symm) _ _ _ hP hD hS (lv_sub hl [2, 3, 4, 1, 0] (rfl))
  have J72 : ∀ (n9 : Nat) (i : Nat) (j : Nat) (z : Bool) (k : Nat) (hm9 : pn i - k < n9) (hi : i < 4) (hj : j < 4) (ha9 : a = nI i) (hb9 : b = nI j) (hk : k ≤ pn i) (hz : z = decide (pn i = pn j ∧ pt i = pt j ∧ ∀ y, y < k → pl (4096 * i + y) = pl (4096 * j + y))) (H : Heap) (locs : List Loc) (ls : Array Slot), va_P (gD G) vwC (wM G h dg mp ml 0 n t pl pn xy pt sz rs ou wr sl p fk fp va oa oc ok) H → va_D A (wM G h dg mp ml 0 n t pl pn xy pt sz rs ou wr sl p fk fp va oa oc ok) → va_S A sx.heap H locs → lv_has ls 5 [(0, .ref (h 0)), (1, .int (nI i)), (2, .int (nI j)), (3, .int (bz z)), (4, .int (nI k))] → W pg l ev (yR 2 42) sx mm ([.ref (h 0), .int a, .int b] : List Value).toArray bl mt cd H locs 0 0 (yMQ bl G A (wM G h dg mp ml th n t pl pn xy pt sz rs ou wr sl p fk fp va oa oc ok).length (fun v w => ((¬ ((∃ i, i < 4 ∧ a = nI i) ∧ ∃ j, j < 4 ∧ b = nI j)) ∧ v = some (.int (nI 0)) ∧ w = wM G h dg mp ml 1 n t pl pn xy pt sz rs ou wr sl p fk fp va oa oc ok) ∨ (∃ i j, (i < 4 ∧ a = nI i ∧ j < 4 ∧ b = nI j) ∧ v = some (.int (bz (decide (pn i = pn j ∧ pt i = pt j ∧ (∀ y, y < pn i → pl (4096 * i + y) = pl (4096 * j + y)) ∧ ∀ y, y < 2 * pt i → xy (8192 * i + y) = xy (8192 * j + y))))) ∧ w = wM G h dg mp ml 0 n t pl pn xy pt sz rs ou wr sl p fk fp va oa oc ok)) (fun _ _ => False) ([.ref (h 0), .int a, .int b] : List Value).toArray sx) (F0 mm 72 ls []) := by
    intro n9
    induction n9 with
    | zero => intro i j z k hm9; exact absurd hm9 (Nat.not_lt_zero _)
    | succ n9 ih9 =>
      intro i j z k hm9 hi hj ha9 hb9 hk hz H locs ls hP hD hS hl
      have hpni := hpn i
      have hpnj := hpn j
      have hpti := hpt i
      have hptj := hpt j
      refine lv_iload hx hb d_M_same_72 (lv_at hl 4 rfl) ?_
      refine lv_aload_n hx hb d_M_same_74 rfl (lv_at hl 0 rfl) ?_
      refine va_get (D := gD G) (ci := 5) (v := .ref (h 5)) (C := "WordShapesModel") (T := TM) (N := 24) hx hb hg iw_M hown hK hP 0 rfl rfl 9 (by decide) (hg _ tk_692) (fun _ h9 => h9) rfl d_M_same_75 ?_
      refine lv_iload_n hx hb d_M_same_78 rfl (lv_at hl 1 rfl) ?_
      refine yn_iald hx hb hK hP 5 0 rfl rfl (j := i) (x := nI (pn i)) (rfl) (by omega) (by omega) d_M_same_79 ?_
      refine yn_icmp_ge (a := k) (b := pn i) (tgt := 128) hx hb d_M_same_80 (by decide) (by omega) (by omega) (fun c80 => ?_) (fun c80 => ?_)
      · skip
        refine lv_iconst (v := nI 0) hx hb d_M_same_128 (by decide) ?_
        refine lv_istore (lv' := [(4, .int (nI 0)), (0, .ref (h 0)), (1, .int (nI i)), (2, .int (nI j)), (3, .int (bz z))]) hx hb d_M_same_129 hl (by decide) rfl (fun ls hl => ?_)
        exact J131 _ i j z 0 (Nat.lt_succ_self _) (by omega) (by omega) (by first | exact ha9 | rfl) (by first | exact hb9 | rfl) (by omega) (by first | exact c84.trans (decide_eq_false (fun y => of_decide_eq_false (hz.symm.trans c84) ⟨y.1, y.2.1, fun q h => y.2.2.1 q (by omega)⟩)).symm | exact hz.trans (decide_eq_decide.mpr ⟨fun y => ⟨y.1, y.2.1, fun q h => y.2.2 q (by omega), fun q h => absurd h (Nat.not_lt_zero _)⟩, fun y => ⟨y.1, y.2.1, fun q h => y.2.2.1 q (by omega)⟩⟩)) _ _ _ hP hD hS (lv_sub hl [1, 2, 3, 4, 0] (rfl))
      · skip
        refine lv_iload_n hx hb d_M_same_83 rfl (lv_at hl 3 rfl) ?_
        refine yy_if_eq (P := z) (tgt := 128) hx hb d_M_same_84 (by decide) (fun c84 => ?_) (fun c84 => ?_)
        · skip
          refine lv_iconst (v := nI 0) hx hb d_M_same_128 (by decide) ?_
          refine lv_istore (lv' := [(4, .int (nI 0)), (0, .ref (h 0)), (1, .int (nI i)), (2, .int (nI j)), (3, .int (bz z))]) hx hb d_M_same_129 hl (by decide) rfl (fun ls hl => ?_)
          exact J131 _ i j z 0 (Nat.lt_succ_self _) (by omega) (by omega) (by first | exact ha9 | rfl) (by first | exact hb9 | rfl) (by omega) (by first | exact c84.trans (decide_eq_false (fun y => of_decide_eq_false (hz.symm.trans c84) ⟨y.1, y.2.1, fun q h => y.2.2.1 q (by omega)⟩)).symm | exact hz.trans (decide_eq_decide.mpr ⟨fun y => ⟨y.1, y.2.1, fun q h => y.2.2 q (by omega), fun q h => absurd h (Nat.not_lt_zero _)⟩, fun y => ⟨y.1, y.2.1, fun q h => y.2.2.1 q (by omega)⟩⟩)) _ _ _ hP hD hS (lv_sub hl [1, 2, 3, 4, 0] (rfl))
        · skip
          have hz9 := of_decide_eq_true (hz.symm.trans c84)
          refine lv_aload_n hx hb d_M_same_87 rfl (lv_at hl 0 rfl) ?_
          refine va_get (D := gD G) (ci := 5) (v := .ref (h 4)) (C := "WordShapesModel") (T := TM) (N := 24) hx hb hg iw_M hown hK hP 0 rfl rfl 8 (by decide) (hg _ tk_691) (fun _ h9 => h9) rfl d_M_same_88 ?_
          refine lv_sipush (v := nI 4096) hx hb d_M_same_91 (by decide) ?_
          refine lv_iload_n hx hb d_M_same_94 rfl (lv_at hl 1 rfl) ?_
          refine lv_imul hx hb d_M_same_95 ?_
          refine y_eqi (pk_mul _ _) ?_
          refine lv_iload hx hb d_M_same_96 (lv_at hl 4 rfl) ?_
          refine lv_iadd hx hb d_M_same_98 ?_
          refine y_eqi (nI_add _ _) ?_
          refine yn_iald hx hb hK hP 4 0 rfl rfl (j := 4096 * i + k) (x := pl (4096 * i + k)) (rfl) (by omega) (by omega) d_M_same_99 ?_
          refine lv_aload_n hx hb d_M_same_100 rfl (lv_at hl 0 rfl) ?_
          refine va_get (D := gD G) (ci := 5) (v := .ref (h 4)) (C := "WordShapesModel") (T := TM) (N := 24) hx hb hg iw_M hown hK hP 0 rfl rfl 8 (by decide) (hg _ tk_691) (fun _ h9 => h9) rfl d_M_same_101 ?_
          refine lv_sipush (v := nI 4096) hx hb d_M_same_104 (by decide) ?_
          refine lv_iload_n hx hb d_M_same_107 rfl (lv_at hl 2 rfl) ?_
          refine lv_imul hx hb d_M_same_108 ?_
          refine y_eqi (pk_mul _ _) ?_
          refine lv_iload hx hb d_M_same_109 (lv_at hl 4 rfl) ?_
          refine lv_iadd hx hb d_M_same_111 ?_
          refine y_eqi (nI_add _ _) ?_
          refine yn_iald hx hb hK hP 4 0 rfl rfl (j := 4096 * j + k) (x := pl (4096 * j + k)) (rfl) (by omega) (by omega) d_M_same_112 ?_
          refine lv_icmp_ne (tgt := 120) hx hb d_M_same_113 (by decide) (fun c113 => ?_) (fun c113 => ?_)
          · skip
            refine lv_iconst (v := nI 0) hx hb d_M_same_120 (by decide) ?_
            refine lv_istore_n (lv' := [(3, .int (nI 0)), (0, .ref (h 0)), (1, .int (nI i)), (2, .int (nI j)), (4, .int (nI k))]) hx hb d_M_same_121 rfl hl (by decide) rfl (fun ls hl => ?_)
            refine lv_iinc (v := nI (k + 1)) (lv' := [(4, .int (nI (k + 1))), (3, .int (nI 0)), (0, .ref (h 0)), (1, .int (nI i)), (2, .int (nI j))]) hx hb d_M_same_122 hl (k := 4) rfl (y_inc _) (by decide) rfl (fun ls hl => ?_)
            refine lv_goto (tgt := 72) hx hb d_M_same_125 (by decide) ?_
            exact ih9 i j false (k + 1) (by omega) (by omega) (by omega) (by first | exact ha9 | rfl) (by first | exact hb9 | rfl) (by omega) ((decide_eq_false (fun y => c113 (y.2.2 k (by omega)))).symm) _ _ _ hP hD hS (lv_sub hl [2, 3, 4, 1, 0] (rfl))
          · skip
            refine lv_iconst (v := nI 1) hx hb d_M_same_116 (by decide) ?_
            refine lv_goto (tgt := 121) hx hb d_M_same_117 (by decide) ?_
            refine lv_istore_n (lv' := [(3, .int (nI 1)), (0, .ref (h 0)), (1, .int (nI i)), (2, .int (nI j)), (4, .int (nI k))]) hx hb d_M_same_121 rfl hl (by decide) rfl (fun ls hl => ?_)
            refine lv_iinc (v := nI (k + 1)) (lv' := [(4, .int (nI (k + 1))), (3, .int (nI 1)), (0, .ref (h 0)), (1, .int (nI i)), (2, .int (nI j))]) hx hb d_M_same_122 hl (k := 4) rfl (y_inc _) (by decide) rfl (fun ls hl => ?_)
            refine lv_goto (tgt := 72) hx hb d_M_same_125 (by decide) ?_
            exact ih9 i j true (k + 1) (by omega) (by omega) (by omega) (by first | exact ha9 | rfl) (by first | exact hb9 | rfl) (by omega) ((decide_eq_true ⟨hz9.1, hz9.2.1, lt_s hz9.2.2 c113⟩).symm) _ _ _ hP hD hS (lv_sub hl [2, 3, 4, 1, 0] (rfl))
  refine lv_aload_n hx hb d_M_same_0 rfl (lv_at hl 0 rfl) ?_
  refine lv_iconst (v := nI 0) hx hb d_M_same_1 (by decide) ?_
  refine va_put (D := gD G) (ci := 5) (v := .int (nI 0)) (ty := .int) (C := "WordShapesModel") (T := TM) (N := 24) hx hb hg iw_M ft_M fo_M nm_M hown hK hP hD hS 0 rfl rfl 2 (by decide) (hg _ tk_685) (fun _ h9 => h9) rfl (by decide +kernel) (rfl) (rfl) (Nat.le_of_ble_eq_true rfl) d_M_same_2 (fun H locs hP hD hS => ?_)
  have hP : va_P (gD G) vwC (wM G h dg mp ml 0 n t pl pn xy pt sz rs ou wr sl p fk fp va oa oc ok) H := hP
  have hD : va_D A (wM G h dg mp ml 0 n t pl pn xy pt sz rs ou wr sl p fk fp va oa oc ok) := hD
  refine lv_iload_n hx hb d_M_same_5 rfl (lv_at hl 1 rfl) ?_
  refine y_call (y_runS (As := [.int a]) (rest := []) hx hb hml hown (c_M_isSlot l G  a ) (gS (n := 1) hg tk_779 tk_780 tk_7 tk_781 (by decide +kernel) ⟨Nat.le_of_ble_eq_true rfl, Nat.le_of_ble_eq_true rfl⟩) (y_pre hE hK hP hD hS hA [] rfl rfl) rfl rfl hl.1 rfl (lv_room (Nat.le_of_ble_eq_true rfl)) d_M_same_6 ⟨Nat.le_of_ble_eq_true rfl, Nat.le_of_ble_eq_true rfl⟩) hP hD hS hA [] rfl (fun _ _ _ _ _ _ hp => False.elim hp) (fun v9 w9 H locs hp hlw hP hD hS => ?_)
  obtain ⟨rfl, rfl⟩ := hp
  have hP : va_P (gD G) vwC (wM G h dg mp ml 0 n t pl pn xy pt sz rs ou wr sl p fk fp va oa oc ok) H := hP
  have hD : va_D A (wM G h dg mp ml 0 n t pl pn xy pt sz rs ou wr sl p fk fp va oa oc ok) := hD
  refine W.eq (g2 := F0 mm 9 ls [.int (bz (decide (nI 0 ≤ a ∧ a ≤ nI 3)))]) rfl ?_
  refine yz_if_eq (P := nI 0 ≤ a ∧ a ≤ nI 3) (tgt := 19) hx hb d_M_same_9 (by decide) (fun c9 => ?_) (fun c9 => ?_)
  · skip
    refine lv_aload_n hx hb d_M_same_19 rfl (lv_at hl 0 rfl) ?_
    refine lv_iconst (v := nI 1) hx hb d_M_same_20 (by decide) ?_
    refine y_callW (y_runV (As := [.int (nI 1)]) (rest := []) hx hb hml hown (c_M_fail l G h dg mp ml 0 n t pl pn xy pt sz rs ou wr sl p fk fp va oa oc ok 1 ) (gV (n := 1) hg tk_764 tk_766 (gt_s 31 (by decide +kernel) (by decide +kernel)) tk_7 tk_767 (by decide +kernel) ⟨Nat.le_of_ble_eq_true rfl, Nat.le_of_ble_eq_true rfl⟩) (va_recv hK hP (ci := 5) (q0 := 0) rfl rfl) (y_preW hE hK hP hD hS hA) rfl rfl hl.1 rfl (lv_room (Nat.le_of_ble_eq_true rfl)) d_M_same_21 ⟨Nat.le_of_ble_eq_true rfl, Nat.le_of_ble_eq_true rfl⟩) hD hS hA (fun _ _ _ _ _ _ hp => False.elim hp) (fun v9 w9 H locs hp hlw hP hD hS => ?_)
    obtain ⟨rfl, rfl⟩ := hp
    have hP : va_P (gD G) vwC (wM G h dg mp ml 1 n t pl pn xy pt sz rs ou wr sl p fk fp va oa oc ok) H := hP
    have hD : va_D A (wM G h dg mp ml 1 n t pl pn xy pt sz rs ou wr sl p fk fp va oa oc ok) := hD
    refine W.eq (g2 := F0 mm 24 ls [.int (nI 0)]) rfl ?_
    refine yn_if_le (a := 0) (tgt := 31) hx hb d_M_same_24 (by decide) (by omega) (fun c24 => ?_) (fun c24 => ?_)
    · skip
      refine lv_iconst (v := nI 0) hx hb d_M_same_31 (by decide) ?_
      exact yr_z (ws := wM G h dg mp ml 1 n t pl pn xy pt sz rs ou wr sl p fk fp va oa oc ok) hx hb hrt (rfl) hlocks (Or.inl ⟨fun y => by obtain ⟨⟨i2, h1, h2⟩, j2, h3, h4⟩ := y; first | (rw [h4] at c16; exact c16 (wi_f (by decide) (by omega))) | (rw [h2] at c9; exact c9 (wi_f (by decide) (by omega))), rfl, rfl⟩) rfl hK hP hD hS d_M_same_32
    · skip
      exact absurd c24 (by decide)
  · skip
    obtain ⟨i, hi, rfl⟩ : ∃ i, i < 4 ∧ a = nI i := by obtain ⟨y, h1, h2⟩ := wi_n (by decide) c9; exact ⟨y, by omega, h2⟩
    have hpni := hpn i
    have hpti := hpt i
    refine lv_iload_n hx hb d_M_same_12 rfl (lv_at hl 2 rfl) ?_
    refine y_call (y_runS (As := [.int b]) (rest := []) hx hb hml hown (c_M_isSlot l G  b ) (gS (n := 1) hg tk_779 tk_780 tk_7 tk_781 (by decide +kernel) ⟨Nat.le_of_ble_eq_true rfl, Nat.le_of_ble_eq_true rfl⟩) (y_pre hE hK hP hD hS hA [] rfl rfl) rfl rfl hl.1 rfl (lv_room (Nat.le_of_ble_eq_true rfl)) d_M_same_13 ⟨Nat.le_of_ble_eq_true rfl, Nat.le_of_ble_eq_true rfl⟩) hP hD hS hA [] rfl (fun _ _ _ _ _ _ hp => False.elim hp) (fun v9 w9 H locs hp hlw hP hD hS => ?_)
    obtain ⟨rfl, rfl⟩ := hp
    have hP : va_P (gD G) vwC (wM G h dg mp ml 0 n t pl pn xy pt sz rs ou wr sl p fk fp va oa oc ok) H := hP
    have hD : va_D A (wM G h dg mp ml 0 n t pl pn xy pt sz rs ou wr sl p fk fp va oa oc ok) := hD
    refine W.eq (g2 := F0 mm 16 ls [.int (bz (decide (nI 0 ≤ b ∧ b ≤ nI 3)))]) rfl ?_
    refine yz_if_ne (P := nI 0 ≤ b ∧ b ≤ nI 3) (tgt := 33) hx hb d_M_same_16 (by decide) (fun c16 => ?_) (fun c16 => ?_)
    · skip
      obtain ⟨j, hj, rfl⟩ : ∃ j, j < 4 ∧ b = nI j := by obtain ⟨y, h1, h2⟩ := wi_n (by decide) c16; exact ⟨y, by omega, h2⟩
      have hpnj := hpn j
      have hptj := hpt j
      refine lv_aload_n hx hb d_M_same_33 rfl (lv_at hl 0 rfl) ?_
      refine va_get (D := gD G) (ci := 5) (v := .ref (h 5)) (C := "WordShapesModel") (T := TM) (N := 24) hx hb hg iw_M hown hK hP 0 rfl rfl 9 (by decide) (hg _ tk_692) (fun _ h9 => h9) rfl d_M_same_34 ?_
      refine lv_iload_n hx hb d_M_same_37 rfl (lv_at hl 1 rfl) ?_
      refine yn_iald hx hb hK hP 5 0 rfl rfl (j := i) (x := nI (pn i)) (rfl) (by omega) (by omega) d_M_same_38 ?_
      refine lv_aload_n hx hb d_M_same_39 rfl (lv_at hl 0 rfl) ?_
      refine va_get (D := gD G) (ci := 5) (v := .ref (h 5)) (C := "WordShapesModel") (T := TM) (N := 24) hx hb hg iw_M hown hK hP 0 rfl rfl 9 (by decide) (hg _ tk_692) (fun _ h9 => h9) rfl d_M_same_40 ?_
      refine lv_iload_n hx hb d_M_same_43 rfl (lv_at hl 2 rfl) ?_
      refine yn_iald hx hb hK hP 5 0 rfl rfl (j := j) (x := nI (pn j)) (rfl) (by omega) (by omega) d_M_same_44 ?_
      refine yn_icmp_ne (a := pn i) (b := pn j) (tgt := 67) hx hb d_M_same_45 (by decide) (by omega) (by omega) (fun c45 => ?_) (fun c45 => ?_)
      · skip
        refine lv_iconst (v := nI 0) hx hb d_M_same_67 (by decide) ?_
        refine lv_istore_n (lv' := [(3, .int (nI 0)), (0, .ref (h 0)), (1, .int (nI i)), (2, .int (nI j))]) hx hb d_M_same_68 rfl hl (by decide) rfl (fun ls hl => ?_)
        refine lv_iconst (v := nI 0) hx hb d_M_same_69 (by decide) ?_
        refine lv_istore (lv' := [(4, .int (nI 0)), (3, .int (nI 0)), (0, .ref (h 0)), (1, .int (nI i)), (2, .int (nI j))]) hx hb d_M_same_70 hl (by decide) rfl (fun ls hl => ?_)
        exact J72 _ i j false 0 (Nat.lt_succ_self _) (by omega) (by omega) (by first | exact ha9 | rfl) (by first | exact hb9 | rfl) (by omega) ((decide_eq_false (fun y => by first | exact c45 y.1 | exact c60 y.2.1)).symm) _ _ _ hP hD hS (lv_sub hl [2, 3, 4, 1, 0] (rfl))
      · skip
        refine lv_aload_n hx hb d_M_same_48 rfl (lv_at hl 0 rfl) ?_
        refine va_get (D := gD G) (ci := 5) (v := .ref (h 7)) (C := "WordShapesModel") (T := TM) (N := 24) hx hb hg iw_M hown hK hP 0 rfl rfl 11 (by decide) (hg _ tk_694) (fun _ h9 => h9) rfl d_M_same_49 ?_
        refine lv_iload_n hx hb d_M_same_52 rfl (lv_at hl 1 rfl) ?_
        refine yn_iald hx hb hK hP 7 0 rfl rfl (j := i) (x := nI (pt i)) (rfl) (by omega) (by omega) d_M_same_53 ?_
        refine lv_aload_n hx hb d_M_same_54 rfl (lv_at hl 0 rfl) ?_
        refine va_get (D := gD G) (ci := 5) (v := .ref (h 7)) (C := "WordShapesModel") (T := TM) (N := 24) hx hb hg iw_M hown hK hP 0 rfl rfl 11 (by decide) (hg _ tk_694) (fun _ h9 => h9) rfl d_M_same_55 ?_
        refine lv_iload_n hx hb d_M_same_58 rfl (lv_at hl 2 rfl) ?_
        refine yn_iald hx hb hK hP 7 0 rfl rfl (j := j) (x := nI (pt j)) (rfl) (by omega) (by omega) d_M_same_59 ?_
        refine yn_icmp_ne (a := pt i) (b := pt j) (tgt := 67) hx hb d_M_same_60 (by decide) (by omega) (by omega) (fun c60 => ?_) (fun c60 => ?_)
        · skip
          refine lv_iconst (v := nI 0) hx hb d_M_same_67 (by decide) ?_
          refine lv_istore_n (lv' := [(3, .int (nI 0)), (0, .ref (h 0)), (1, .int (nI i)), (2, .int (nI j))]) hx hb d_M_same_68 rfl hl (by decide) rfl (fun ls hl => ?_)
          refine lv_iconst (v := nI 0) hx hb d_M_same_69 (by decide) ?_
          refine lv_istore (lv' := [(4, .int (nI 0)), (3, .int (nI 0)), (0, .ref (h 0)), (1, .int (nI i)), (2, .int (nI j))]) hx hb d_M_same_70 hl (by decide) rfl (fun ls hl => ?_)
          exact J72 _ i j false 0 (Nat.lt_succ_self _) (by omega) (by omega) (by first | exact ha9 | rfl) (by first | exact hb9 | rfl) (by omega) ((decide_eq_false (fun y => by first | exact c45 y.1 | exact c60 y.2.1)).symm) _ _ _ hP hD hS (lv_sub hl [2, 3, 4, 1, 0] (rfl))
        · skip
          refine lv_iconst (v := nI 1) hx hb d_M_same_63 (by decide) ?_
          refine lv_goto (tgt := 68) hx hb d_M_same_64 (by decide) ?_
          refine lv_istore_n (lv' := [(3, .int (nI 1)), (0, .ref (h 0)), (1, .int (nI i)), (2, .int (nI j))]) hx hb d_M_same_68 rfl hl (by decide) rfl (fun ls hl => ?_)
          refine lv_iconst (v := nI 0) hx hb d_M_same_69 (by decide) ?_
          refine lv_istore (lv' := [(4, .int (nI 0)), (3, .int (nI 1)), (0, .ref (h 0)), (1, .int (nI i)), (2, .int (nI j))]) hx hb d_M_same_70 hl (by decide) rfl (fun ls hl => ?_)
          exact J72 _ i j true 0 (Nat.lt_succ_self _) (by omega) (by omega) (by first | exact ha9 | rfl) (by first | exact hb9 | rfl) (by omega) ((decide_eq_true ⟨c45, c60, fun y h => absurd h (Nat.not_lt_zero _)⟩).symm) _ _ _ hP hD hS (lv_sub hl [2, 3, 4, 1, 0] (rfl))
    · skip
      refine lv_aload_n hx hb d_M_same_19 rfl (lv_at hl 0 rfl) ?_
      refine lv_iconst (v := nI 1) hx hb d_M_same_20 (by decide) ?_
      refine y_callW (y_runV (As := [.int (nI 1)]) (rest := []) hx hb hml hown (c_M_fail l G h dg mp ml 0 n t pl pn xy pt sz rs ou wr sl p fk fp va oa oc ok 1 ) (gV (n := 1) hg tk_764 tk_766 (gt_s 31 (by decide +kernel) (by decide +kernel)) tk_7 tk_767 (by decide +kernel) ⟨Nat.le_of_ble_eq_true rfl, Nat.le_of_ble_eq_true rfl⟩) (va_recv hK hP (ci := 5) (q0 := 0) rfl rfl) (y_preW hE hK hP hD hS hA) rfl rfl hl.1 rfl (lv_room (Nat.le_of_ble_eq_true rfl)) d_M_same_21 ⟨Nat.le_of_ble_eq_true rfl, Nat.le_of_ble_eq_true rfl⟩) hD hS hA (fun _ _ _ _ _ _ hp => False.elim hp) (fun v9 w9 H locs hp hlw hP hD hS => ?_)
      obtain ⟨rfl, rfl⟩ := hp
      have hP : va_P (gD G) vwC (wM G h dg mp ml 1 n t pl pn xy pt sz rs ou wr sl p fk fp va oa oc ok) H := hP
      have hD : va_D A (wM G h dg mp ml 1 n t pl pn xy pt sz rs ou wr sl p fk fp va oa oc ok) := hD
      refine W.eq (g2 := F0 mm 24 ls [.int (nI 0)]) rfl ?_
      refine yn_if_le (a := 0) (tgt := 31) hx hb d_M_same_24 (by decide) (by omega) (fun c24 => ?_) (fun c24 => ?_)
      · skip
        refine lv_iconst (v := nI 0) hx hb d_M_same_31 (by decide) ?_
        exact yr_z (ws := wM G h dg mp ml 1 n t pl pn xy pt sz rs ou wr sl p fk fp va oa oc ok) hx hb hrt (rfl) hlocks (Or.inl ⟨fun y => by obtain ⟨⟨i2, h1, h2⟩, j2, h3, h4⟩ := y; first | (rw [h4] at c16; exact c16 (wi_f (by decide) (by omega))) | (rw [h2] at c9; exact c9 (wi_f (by decide) (by omega))), rfl, rfl⟩) rfl hK hP hD hS d_M_same_32
      · skip
        exact absurd c24 (by decide)
