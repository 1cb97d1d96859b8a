set_option maxHeartbeats 4000000 in
set_option maxRecDepth 100000 in
theorem c_M_write (l : Launch) (G : gl) (h : Nat → Nat) (dg : Nat) (mp : Nat) (ml : Nat) (th : Nat) (n : Nat) (t : Nat → Nat) (pl : Nat → Int32) (pn : Nat → Nat) (xy : Nat → Int32) (pt : Nat → Nat) (sz : Nat) (rs : Nat → Nat) (ou : Nat → Nat) (wr : Nat) (sl : Nat) (p : Nat) (fk : Nat) (fp : Nat) (va : Int32) (oa : Nat → Int32) (oc : Nat → Int32) (ok : Nat → Int32) (s : Int32) (tx : Nat → List Nat) (hpn : ∀ j, pn j ≤ 4096) (hpt : ∀ j, pt j ≤ 4096) (hdg : dg ≤ 3) (hW : ∀ j, j < 4 → ¬ pn j = 0 → ∃ M nx9 py9 fi9 bt9 bk9 bn9 bk bn, wRm dg (pn j) (fun i => pl (4096 * j + i)) (pt j) (fun i => xy (8192 * j + i)) M ([], 0, 0, true, 0, upd bk 0 (nI 0), upd bn 0 (nI 1)) (tx j, nx9, py9, fi9, bt9, bk9, bn9)) : YC l G y_M_write k_M_write 3 (Option.some FieldType.int) 4 101 [.ref (h 0), .int s] (wM G h dg mp ml th n t pl pn xy pt sz rs ou wr sl p fk fp va oa oc ok) (fun v w => ((¬ ∃ j, j < 4 ∧ s = nI j) ∧ v = some (.int (nI 0)) ∧ w = wM G h dg mp ml 1 n t pl pn xy pt sz rs ou wr sl p fk fp va oa oc ok) ∨ (∃ j, (j < 4 ∧ s = nI j ∧ pn j = 0) ∧ v = some (.int (nI 0)) ∧ w = wM G h dg mp ml 2 n t pl pn xy pt sz rs ou wr sl p fk fp va oa oc ok) ∨ (∃ j oc9 ok9, (j < 4 ∧ s = nI j ∧ ¬ pn j = 0 ∧ 131072 < (tx j).length) ∧ v = some (.int (nI 0)) ∧ w = wM G h dg mp ml 3 n t pl pn xy pt sz rs (wrB ou (tx j)) ((tx j).length) sl p fk fp va oa oc9 ok9) ∨ (∃ j oc9 ok9, (j < 4 ∧ s = nI j ∧ ¬ pn j = 0 ∧ (tx j).length ≤ 131072) ∧ v = some (.int (nI ((tx j).length))) ∧ w = wM G h dg mp ml 0 n t pl pn xy pt ((tx j).length) (wrB rs (tx j)) (wrB ou (tx j)) ((tx j).length) sl p fk fp va oa oc9 ok9)) (fun _ _ => False) := by
  refine yc_of (by decide) ?_
  intro pg ev sx mm bl mt cd A C0 hP hD
  obtain ⟨hx, hb, hrt, hml, hown, hg, hlocks, hxt, hE, hK, hA, hmn⟩ := C0
  have hS : va_S A sx.heap sx.heap [] := va_S.rf
  have hl := lv_entry ([.ref (h 0), .int s]) (n := 3) (Nat.le_of_ble_eq_true rfl)
  rw [lg_entry_eq]
  generalize (lg_sl ([.ref (h 0), .int s]) ++ List.replicate (3 - (lg_sl ([.ref (h 0), .int s])).length) Slot.unset).toArray = ls at hl ⊢
  have hl : lv_has ls 3 [(0, .ref (h 0)), (1, .int s)] := hl
  obtain ⟨H, hH⟩ : ∃ H, H = sx.heap := ⟨_, rfl⟩
  rw [← hH] at hP
  have hS : va_S A sx.heap H [] := by rw [hH]; exact hS
  suffices h9 : W pg l ev (yR 4 101) sx mm _ bl mt cd H [] 0 0 (yMQ bl G A _ _ _ _ sx) (F0 mm 0 ls []) by rw [hH] at h9; exact h9
  obtain ⟨locs, hlo⟩ : ∃ locs : List Loc, locs = [] := ⟨_, rfl⟩
  rw [← hlo] at hS ⊢
  have J60 : ∀ (n9 : Nat) (j : Nat) (oc1 : Nat → Int32) (ok1 : Nat → Int32) (k : Nat) (hm9 : (tx j).length - k < n9) (hj : j < 4) (hsj : s = nI j) (hp0 : ¬ pn j = 0) (hk : k ≤ (tx j).length) (h13 : (tx j).length ≤ 131072) (H : Heap) (locs : List Loc) (ls : Array Slot), va_P (gD G) vwC (wM G h dg mp ml 0 n t pl pn xy pt sz (cpT (wrB ou (tx j)) rs k) (wrB ou (tx j)) ((tx j).length) sl p fk fp va oa oc1 ok1) H → va_D A (wM G h dg mp ml 0 n t pl pn xy pt sz (cpT (wrB ou (tx j)) rs k) (wrB ou (tx j)) ((tx j).length) sl p fk fp va oa oc1 ok1) → va_S A sx.heap H locs → lv_has ls 3 [(0, .ref (h 0)), (2, .int (nI k))] → W pg l ev (yR 4 101) sx mm ([.ref (h 0), .int s] : List Value).toArray bl mt cd H locs 0 0 (yMQ bl G A (wM G h dg mp ml th n t pl pn xy pt sz rs ou wr sl p fk fp va oa oc ok).length (fun v w => ((¬ ∃ j, j < 4 ∧ s = nI j) ∧ v = some (.int (nI 0)) ∧ w = wM G h dg mp ml 1 n t pl pn xy pt sz rs ou wr sl p fk fp va oa oc ok) ∨ (∃ j, (j < 4 ∧ s = nI j ∧ pn j = 0) ∧ v = some (.int (nI 0)) ∧ w = wM G h dg mp ml 2 n t pl pn xy pt sz rs ou wr sl p fk fp va oa oc ok) ∨ (∃ j oc9 ok9, (j < 4 ∧ s = nI j ∧ ¬ pn j = 0 ∧ 131072 < (tx j).length) ∧ v = some (.int (nI 0)) ∧ w = wM G h dg mp ml 3 n t pl pn xy pt sz rs (wrB ou (tx j)) ((tx j).length) sl p fk fp va oa oc9 ok9) ∨ (∃ j oc9 ok9, (j < 4 ∧ s = nI j ∧ ¬ pn j = 0 ∧ (tx j).length ≤ 131072) ∧ v = some (.int (nI ((tx j).length))) ∧ w = wM G h dg mp ml 0 n t pl pn xy pt ((tx j).length) (wrB rs (tx j)) (wrB ou (tx j)) ((tx j).length) sl p fk fp va oa oc9 ok9)) (fun _ _ => False) ([.ref (h 0), .int s] : List Value).toArray sx) (F0 mm 60 ls []) := by
    intro n9
    induction n9 with
    | zero => intro j oc1 ok1 k hm9; exact absurd hm9 (Nat.not_lt_zero _)
    | succ n9 ih9 =>
      intro j oc1 ok1 k hm9 hj hsj hp0 hk h13 H locs ls hP hD hS hl
      refine lv_iload_n hx hb d_M_write_60 rfl (lv_at hl 1 rfl) ?_
      refine lv_aload_n hx hb d_M_write_61 rfl (lv_at hl 0 rfl) ?_
      refine va_get (D := gD G) (ci := 5) (v := .int (nI ((tx j).length))) (C := "WordShapesModel") (T := TM) (N := 24) hx hb hg iw_M hown hK hP 0 rfl rfl 15 (by decide) (hg _ tk_698) (fun _ h9 => h9) rfl d_M_write_62 ?_
      refine yn_icmp_ge (a := k) (b := (tx j).length) (tgt := 86) hx hb d_M_write_65 (by decide) (by omega) (by omega) (fun c65 => ?_) (fun c65 => ?_)
      · skip
        refine lv_aload_n hx hb d_M_write_86 rfl (lv_at hl 0 rfl) ?_
        refine lv_aload_n hx hb d_M_write_87 rfl (lv_at hl 0 rfl) ?_
        refine va_get (D := gD G) (ci := 5) (v := .int (nI ((tx j).length))) (C := "WordShapesModel") (T := TM) (N := 24) hx hb hg iw_M hown hK hP 0 rfl rfl 15 (by decide) (hg _ tk_698) (fun _ h9 => h9) rfl d_M_write_88 ?_
        refine va_put (D := gD G) (ci := 5) (v := .int (nI ((tx j).length))) (ty := .int) (C := "WordShapesModel") (T := TM) (N := 24) hx hb hg iw_M ft_M fo_M nm_M hown hK hP hD hS 0 rfl rfl 12 (by decide) (hg _ tk_695) (fun _ h9 => h9) rfl (by decide +kernel) (rfl) (rfl) (Nat.le_of_ble_eq_true rfl) d_M_write_91 (fun H locs hP hD hS => ?_)
        have hP : va_P (gD G) vwC (wM G h dg mp ml 0 n t pl pn xy pt ((tx j).length) (cpT (wrB ou (tx j)) rs k) (wrB ou (tx j)) ((tx j).length) sl p fk fp va oa oc1 ok1) H := hP
        have hD : va_D A (wM G h dg mp ml 0 n t pl pn xy pt ((tx j).length) (cpT (wrB ou (tx j)) rs k) (wrB ou (tx j)) ((tx j).length) sl p fk fp va oa oc1 ok1) := hD
        refine lv_aload_n hx hb d_M_write_94 rfl (lv_at hl 0 rfl) ?_
        refine va_get (D := gD G) (ci := 5) (v := .int (nI ((tx j).length))) (C := "WordShapesModel") (T := TM) (N := 24) hx hb hg iw_M hown hK hP 0 rfl rfl 12 (by decide) (hg _ tk_695) (fun _ h9 => h9) rfl d_M_write_95 ?_
        obtain rfl : k = (tx j).length := by omega
        rw [cpT_wrB _ _ h13] at hP hD
        have hP : va_P (gD G) vwC (wM G h dg mp ml 0 n t pl pn xy pt ((tx j).length) (wrB rs (tx j)) (wrB ou (tx j)) ((tx j).length) sl p fk fp va oa oc1 ok1) H := hP
        have hD : va_D A (wM G h dg mp ml 0 n t pl pn xy pt ((tx j).length) (wrB rs (tx j)) (wrB ou (tx j)) ((tx j).length) sl p fk fp va oa oc1 ok1) := hD
        exact yr_i (ws := wM G h dg mp ml 0 n t pl pn xy pt ((tx j).length) (wrB rs (tx j)) (wrB ou (tx j)) ((tx j).length) sl p fk fp va oa oc1 ok1) hx hb hrt hlocks (Or.inr (Or.inr (Or.inr ⟨j, _, _, ⟨hj, hsj, hp0, h13⟩, rfl, rfl⟩))) rfl hK hP hD hS d_M_write_98
      · skip
        refine lv_aload_n hx hb d_M_write_68 rfl (lv_at hl 0 rfl) ?_
        refine va_get (D := gD G) (ci := 5) (v := .ref (h 8)) (C := "WordShapesModel") (T := TM) (N := 24) hx hb hg iw_M hown hK hP 0 rfl rfl 13 (by decide) (hg _ tk_696) (fun _ h9 => h9) rfl d_M_write_69 ?_
        refine lv_iload_n hx hb d_M_write_72 rfl (lv_at hl 1 rfl) ?_
        refine lv_aload_n hx hb d_M_write_73 rfl (lv_at hl 0 rfl) ?_
        refine va_get (D := gD G) (ci := 5) (v := .ref (h 9)) (C := "WordShapesModel") (T := TM) (N := 24) hx hb hg iw_M hown hK hP 0 rfl rfl 14 (by decide) (hg _ tk_697) (fun _ h9 => h9) rfl d_M_write_74 ?_
        refine lv_iload_n hx hb d_M_write_77 rfl (lv_at hl 1 rfl) ?_
        refine yn_iald hx hb hK hP 9 0 rfl rfl (j := k) (x := nI ((wrB ou (tx j)) k)) (rfl) (by omega) (by omega) d_M_write_78 ?_
        refine yn_iast hx hb hK hP hD hS 8 0 rfl rfl (j := k) (x := nI ((wrB ou (tx j)) k)) (f1 := fun i => nI ((cpT (wrB ou (tx j)) rs (k + 1)) i)) ((vu_st _ _ _).trans (by rw [cpT_s])) (by omega) (by omega) d_M_write_79 (fun H locs hP hD hS => ?_)
        have hP : va_P (gD G) vwC (wM G h dg mp ml 0 n t pl pn xy pt sz (cpT (wrB ou (tx j)) rs (k + 1)) (wrB ou (tx j)) ((tx j).length) sl p fk fp va oa oc1 ok1) H := hP
        have hD : va_D A (wM G h dg mp ml 0 n t pl pn xy pt sz (cpT (wrB ou (tx j)) rs (k + 1)) (wrB ou (tx j)) ((tx j).length) sl p fk fp va oa oc1 ok1) := hD
        refine lv_iinc (v := nI (k + 1)) (lv' := [(2, .int (nI (k + 1))), (0, .ref (h 0))]) hx hb d_M_write_80 hl (k := 1) rfl (y_inc _) (by decide) rfl (fun ls hl => ?_)
        refine lv_goto (tgt := 60) hx hb d_M_write_83 (by decide) ?_
        exact ih9 j oc1 ok1 (k + 1) (by omega) (hj) (by first | exact hsj | rfl) (by first | exact hp0 | exact c24) (by omega) (by omega) _ _ _ hP hD hS (lv_sub hl [1, 0] (rfl))
  refine lv_aload_n hx hb d_M_write_0 rfl (lv_at hl 0 rfl) ?_
  refine lv_iconst (v := nI 0) hx hb d_M_write_1 (by decide) ?_
  refine va_put (D := gD G) (ci := 5) (v := .int (nI 0)) (ty := .int) (C := "WordShapesModel") (T := TM) (N := 24) hx hb hg iw_M ft_M fo_M nm_M hown hK hP hD hS 0 rfl rfl 2 (by decide) (hg _ tk_685) (fun _ h9 => h9) rfl (by decide +kernel) (rfl) (rfl) (Nat.le_of_ble_eq_true rfl) d_M_write_2 (fun H locs hP hD hS => ?_)
  have hP : va_P (gD G) vwC (wM G h dg mp ml 0 n t pl pn xy pt sz rs ou wr sl p fk fp va oa oc ok) H := hP
  have hD : va_D A (wM G h dg mp ml 0 n t pl pn xy pt sz rs ou wr sl p fk fp va oa oc ok) := hD
  refine lv_iload_n hx hb d_M_write_5 rfl (lv_at hl 1 rfl) ?_
  refine y_call (y_runS (As := [.int s]) (rest := []) hx hb hml hown (c_M_isSlot l G  s ) (gS (n := 1) hg tk_779 tk_780 tk_7 tk_781 (by decide +kernel) ⟨Nat.le_of_ble_eq_true rfl, Nat.le_of_ble_eq_true rfl⟩) (y_pre hE hK hP hD hS hA [] rfl rfl) rfl rfl hl.1 rfl (lv_room (Nat.le_of_ble_eq_true rfl)) d_M_write_6 ⟨Nat.le_of_ble_eq_true rfl, Nat.le_of_ble_eq_true rfl⟩) hP hD hS hA [] rfl (fun _ _ _ _ _ _ hp => False.elim hp) (fun v9 w9 H locs hp hlw hP hD hS => ?_)
  obtain ⟨rfl, rfl⟩ := hp
  have hP : va_P (gD G) vwC (wM G h dg mp ml 0 n t pl pn xy pt sz rs ou wr sl p fk fp va oa oc ok) H := hP
  have hD : va_D A (wM G h dg mp ml 0 n t pl pn xy pt sz rs ou wr sl p fk fp va oa oc ok) := hD
  refine W.eq (g2 := F0 mm 9 ls [.int (bz (decide (nI 0 ≤ s ∧ s ≤ nI 3)))]) rfl ?_
  refine yz_if_ne (P := nI 0 ≤ s ∧ s ≤ nI 3) (tgt := 18) hx hb d_M_write_9 (by decide) (fun c9 => ?_) (fun c9 => ?_)
  · skip
    obtain ⟨j, hj, rfl⟩ : ∃ j, j < 4 ∧ s = nI j := by obtain ⟨y, h1, h2⟩ := wi_n (by decide) c9; exact ⟨y, by omega, h2⟩
    have hpnj := hpn j
    have hptj := hpt j
    refine lv_aload_n hx hb d_M_write_18 rfl (lv_at hl 0 rfl) ?_
    refine va_get (D := gD G) (ci := 5) (v := .ref (h 5)) (C := "WordShapesModel") (T := TM) (N := 24) hx hb hg iw_M hown hK hP 0 rfl rfl 9 (by decide) (hg _ tk_692) (fun _ h9 => h9) rfl d_M_write_19 ?_
    refine lv_iload_n hx hb d_M_write_22 rfl (lv_at hl 1 rfl) ?_
    refine yn_iald hx hb hK hP 5 0 rfl rfl (j := j) (x := nI (pn j)) (rfl) (by omega) (by omega) d_M_write_23 ?_
    refine yn_if_ne (a := pn j) (tgt := 33) hx hb d_M_write_24 (by decide) (by omega) (fun c24 => ?_) (fun c24 => ?_)
    · skip
      refine lv_aload_n hx hb d_M_write_33 rfl (lv_at hl 0 rfl) ?_
      refine lv_iconst (v := nI 0) hx hb d_M_write_34 (by decide) ?_
      refine va_put (D := gD G) (ci := 5) (v := .int (nI 0)) (ty := .int) (C := "WordShapesModel") (T := TM) (N := 24) hx hb hg iw_M ft_M fo_M nm_M hown hK hP hD hS 0 rfl rfl 15 (by decide) (hg _ tk_698) (fun _ h9 => h9) rfl (by decide +kernel) (rfl) (rfl) (Nat.le_of_ble_eq_true rfl) d_M_write_35 (fun H locs hP hD hS => ?_)
      have hP : va_P (gD G) vwC (wM G h dg mp ml 0 n t pl pn xy pt sz rs ou 0 sl p fk fp va oa oc ok) H := hP
      have hD : va_D A (wM G h dg mp ml 0 n t pl pn xy pt sz rs ou 0 sl p fk fp va oa oc ok) := hD
      obtain ⟨M, nx9, py9, fi9, bt9, bk9, bn9, bk, bn, hR⟩ := hW j hj c24
      rw [← wrB_nil ou] at hP hD
      have hP : va_P (gD G) vwC (wMW G h dg mp ml 0 n t pl pn xy pt sz rs ou sl p fk fp va oa oc ok ([])) H := hP
      have hD : va_D A (wMW G h dg mp ml 0 n t pl pn xy pt sz rs ou sl p fk fp va oa oc ok ([])) := hD
      refine lv_aload_n hx hb d_M_write_38 rfl (lv_at hl 0 rfl) ?_
      refine lv_iload_n hx hb d_M_write_39 rfl (lv_at hl 1 rfl) ?_
      refine y_callW (y_runV (As := [.int (nI j)]) (rest := []) hx hb hml hown (c_M_putAll l G h dg mp ml 0 n t pl pn xy pt sz rs ou sl p fk fp va oa oc ok ([]) j (pn j) (pt j) M (tx j, nx9, py9, fi9, bt9, bk9, bn9) (by omega) (by omega) (by omega) (hdg) (rfl) (po_0 hR)) (gV (n := 1) hg tk_899 tk_901 (gt_s 54 (by decide +kernel) (by decide +kernel)) tk_7 tk_902 (by decide +kernel) ⟨Nat.le_of_ble_eq_true rfl, Nat.le_of_ble_eq_true rfl⟩) (va_recv hK hP (ci := 5) (q0 := 0) rfl rfl) (y_preW hE hK hP hD hS hA) rfl rfl hl.1 rfl (lv_room (Nat.le_of_ble_eq_true rfl)) d_M_write_40 ⟨Nat.le_of_ble_eq_true rfl, Nat.le_of_ble_eq_true rfl⟩) hD hS hA (fun _ _ _ _ _ _ hp => False.elim hp) (fun v9 w9 H locs hp hlw hP hD hS => ?_)
      rcases hp with ⟨oc9_40, ok9_40, hs_40, rfl, rfl⟩
      · skip
        have hP : va_P (gD G) vwC (wMW G h dg mp ml 0 n t pl pn xy pt sz rs ou sl p fk fp va oa oc9_40 ok9_40 ((tx j, nx9, py9, fi9, bt9, bk9, bn9).1)) H := hP
        have hD : va_D A (wMW G h dg mp ml 0 n t pl pn xy pt sz rs ou sl p fk fp va oa oc9_40 ok9_40 ((tx j, nx9, py9, fi9, bt9, bk9, bn9).1)) := hD
        refine W.eq (g2 := F0 mm 43 ls []) rfl ?_
        have hs_40 : (tx j).length ≤ 500000 := hs_40
        have hP : va_P (gD G) vwC (wMW G h dg mp ml 0 n t pl pn xy pt sz rs ou sl p fk fp va oa oc9_40 ok9_40 (tx j)) H := hP
        have hD : va_D A (wMW G h dg mp ml 0 n t pl pn xy pt sz rs ou sl p fk fp va oa oc9_40 ok9_40 (tx j)) := hD
        have hP : va_P (gD G) vwC (wM G h dg mp ml 0 n t pl pn xy pt sz rs (wrB ou (tx j)) ((tx j).length) sl p fk fp va oa oc9_40 ok9_40) H := hP
        have hD : va_D A (wM G h dg mp ml 0 n t pl pn xy pt sz rs (wrB ou (tx j)) ((tx j).length) sl p fk fp va oa oc9_40 ok9_40) := hD
        refine lv_aload_n hx hb d_M_write_43 rfl (lv_at hl 0 rfl) ?_
        refine va_get (D := gD G) (ci := 5) (v := .int (nI ((tx j).length))) (C := "WordShapesModel") (T := TM) (N := 24) hx hb hg iw_M hown hK hP 0 rfl rfl 15 (by decide) (hg _ tk_698) (fun _ h9 => h9) rfl d_M_write_44 ?_
        refine lv_ldc (v := nI 131072) hx hb hown (hg _ tk_682) d_M_write_47 ?_
        refine yn_icmp_le (a := (tx j).length) (b := 131072) (tgt := 58) hx hb d_M_write_49 (by decide) (by omega) (by omega) (fun c49 => ?_) (fun c49 => ?_)
        · skip
          refine lv_iconst (v := nI 0) hx hb d_M_write_58 (by decide) ?_
          refine lv_istore_n (lv' := [(2, .int (nI 0)), (0, .ref (h 0)), (1, .int (nI j))]) hx hb d_M_write_59 rfl hl (by decide) rfl (fun ls hl => ?_)
          rw [← cpT_0 (wrB ou (tx j)) rs] at hP hD
          have hP : va_P (gD G) vwC (wM G h dg mp ml 0 n t pl pn xy pt sz (cpT (wrB ou (tx j)) rs 0) (wrB ou (tx j)) ((tx j).length) sl p fk fp va oa oc9_40 ok9_40) H := hP
          have hD : va_D A (wM G h dg mp ml 0 n t pl pn xy pt sz (cpT (wrB ou (tx j)) rs 0) (wrB ou (tx j)) ((tx j).length) sl p fk fp va oa oc9_40 ok9_40) := hD
          exact J60 _ j oc9_40 ok9_40 0 (Nat.lt_succ_self _) (hj) (by first | exact hsj | rfl) (by first | exact hp0 | exact c24) (by omega) (by omega) _ _ _ hP hD hS (lv_sub hl [1, 0] (rfl))
        · skip
          refine lv_aload_n hx hb d_M_write_52 rfl (lv_at hl 0 rfl) ?_
          refine lv_iconst (v := nI 3) hx hb d_M_write_53 (by decide) ?_
          refine y_callW (y_runV (As := [.int (nI 3)]) (rest := []) hx hb hml hown (c_M_fail l G h dg mp ml 0 n t pl pn xy pt sz rs (wrB ou (tx j)) ((tx j).length) sl p fk fp va oa oc9_40 ok9_40 3 ) (gV (n := 1) hg tk_764 tk_766 (gt_s 31 (by decide +kernel) (by decide +kernel)) tk_7 tk_767 (by decide +kernel) ⟨Nat.le_of_ble_eq_true rfl, Nat.le_of_ble_eq_true rfl⟩) (va_recv hK hP (ci := 5) (q0 := 0) rfl rfl) (y_preW hE hK hP hD hS hA) rfl rfl hl.1 rfl (lv_room (Nat.le_of_ble_eq_true rfl)) d_M_write_54 ⟨Nat.le_of_ble_eq_true rfl, Nat.le_of_ble_eq_true rfl⟩) hD hS hA (fun _ _ _ _ _ _ hp => False.elim hp) (fun v9 w9 H locs hp hlw hP hD hS => ?_)
          obtain ⟨rfl, rfl⟩ := hp
          have hP : va_P (gD G) vwC (wM G h dg mp ml 3 n t pl pn xy pt sz rs (wrB ou (tx j)) ((tx j).length) sl p fk fp va oa oc9_40 ok9_40) H := hP
          have hD : va_D A (wM G h dg mp ml 3 n t pl pn xy pt sz rs (wrB ou (tx j)) ((tx j).length) sl p fk fp va oa oc9_40 ok9_40) := hD
          refine W.eq (g2 := F0 mm 57 ls [.int (nI 0)]) rfl ?_
          exact yr_i (ws := wM G h dg mp ml 3 n t pl pn xy pt sz rs (wrB ou (tx j)) ((tx j).length) sl p fk fp va oa oc9_40 ok9_40) hx hb hrt hlocks (Or.inr (Or.inr (Or.inl ⟨j, _, _, ⟨hj, rfl, c24, c49⟩, rfl, rfl⟩))) rfl hK hP hD hS d_M_write_57
    · skip
      refine lv_aload_n hx hb d_M_write_27 rfl (lv_at hl 0 rfl) ?_
      refine lv_iconst (v := nI 2) hx hb d_M_write_28 (by decide) ?_
      refine y_callW (y_runV (As := [.int (nI 2)]) (rest := []) hx hb hml hown (c_M_fail l G h dg mp ml 0 n t pl pn xy pt sz rs ou wr sl p fk fp va oa oc ok 2 ) (gV (n := 1) hg tk_764 tk_766 (gt_s 31 (by decide +kernel) (by decide +kernel)) tk_7 tk_767 (by decide +kernel) ⟨Nat.le_of_ble_eq_true rfl, Nat.le_of_ble_eq_true rfl⟩) (va_recv hK hP (ci := 5) (q0 := 0) rfl rfl) (y_preW hE hK hP hD hS hA) rfl rfl hl.1 rfl (lv_room (Nat.le_of_ble_eq_true rfl)) d_M_write_29 ⟨Nat.le_of_ble_eq_true rfl, Nat.le_of_ble_eq_true rfl⟩) hD hS hA (fun _ _ _ _ _ _ hp => False.elim hp) (fun v9 w9 H locs hp hlw hP hD hS => ?_)
      obtain ⟨rfl, rfl⟩ := hp
      have hP : va_P (gD G) vwC (wM G h dg mp ml 2 n t pl pn xy pt sz rs ou wr sl p fk fp va oa oc ok) H := hP
      have hD : va_D A (wM G h dg mp ml 2 n t pl pn xy pt sz rs ou wr sl p fk fp va oa oc ok) := hD
      refine W.eq (g2 := F0 mm 32 ls [.int (nI 0)]) rfl ?_
      exact yr_i (ws := wM G h dg mp ml 2 n t pl pn xy pt sz rs ou wr sl p fk fp va oa oc ok) hx hb hrt hlocks (Or.inr (Or.inl ⟨j, ⟨hj, rfl, c24⟩, rfl, rfl⟩)) rfl hK hP hD hS d_M_write_32
  · skip
    refine lv_aload_n hx hb d_M_write_12 rfl (lv_at hl 0 rfl) ?_
    refine lv_iconst (v := nI 1) hx hb d_M_write_13 (by decide) ?_
    refine y_callW (y_runV (As := [.int (nI 1)]) (rest := []) hx hb hml hown (c_M_fail l G h dg mp ml 0 n t pl pn xy pt sz rs ou wr sl p fk fp va oa oc ok 1 ) (gV (n := 1) hg tk_764 tk_766 (gt_s 31 (by decide +kernel) (by decide +kernel)) tk_7 tk_767 (by decide +kernel) ⟨Nat.le_of_ble_eq_true rfl, Nat.le_of_ble_eq_true rfl⟩) (va_recv hK hP (ci := 5) (q0 := 0) rfl rfl) (y_preW hE hK hP hD hS hA) rfl rfl hl.1 rfl (lv_room (Nat.le_of_ble_eq_true rfl)) d_M_write_14 ⟨Nat.le_of_ble_eq_true rfl, Nat.le_of_ble_eq_true rfl⟩) hD hS hA (fun _ _ _ _ _ _ hp => False.elim hp) (fun v9 w9 H locs hp hlw hP hD hS => ?_)
    obtain ⟨rfl, rfl⟩ := hp
    have hP : va_P (gD G) vwC (wM G h dg mp ml 1 n t pl pn xy pt sz rs ou wr sl p fk fp va oa oc ok) H := hP
    have hD : va_D A (wM G h dg mp ml 1 n t pl pn xy pt sz rs ou wr sl p fk fp va oa oc ok) := hD
    refine W.eq (g2 := F0 mm 17 ls [.int (nI 0)]) rfl ?_
    exact yr_i (ws := wM G h dg mp ml 1 n t pl pn xy pt sz rs ou wr sl p fk fp va oa oc ok) hx hb hrt hlocks (Or.inl ⟨fun y => by obtain ⟨j, h1, h2⟩ := y; rw [h2] at c9; exact c9 (wi_f (by decide) (by omega)), rfl, rfl⟩) rfl hK hP hD hS d_M_write_17
