set_option maxHeartbeats 4000000 in
set_option maxRecDepth 100000 in
theorem c_M_putPoints (l : Launch) (G : gl) (h : Nat → Nat) (dg : Nat) (mp : Nat) (ml : Nat) (th : Nat) (n : Nat) (t : Nat → Nat) (pl : Nat → Int32) (pn : Nat → Nat) (xy : Nat → Int32) (pt : Nat → Nat) (sz : Nat) (rs : Nat → Nat) (ou : Nat → Nat) (sl : Nat) (p : Nat) (fk : Nat) (fp : Nat) (va : Int32) (oa : Nat → Int32) (oc : Nat → Int32) (ok : Nat → Int32) (os : List Nat) (s : Nat) (fr : Nat) (c : Nat) (hs4 : s < 4) (hfc : fr + c ≤ 4096) (hdg : dg ≤ 3) (hbd : ∀ j, j < c → (xy (8192 * s + 2 * (fr + j))).toInt.natAbs ≤ 1000000000 ∧ (xy (8192 * s + (2 * (fr + j) + 1))).toInt.natAbs ≤ 1000000000) (hou : os.length + 53 * c + 60 < 2 ^ 30) : YC l G y_M_putPoints k_M_putPoints 6 (Option.none : Option FieldType) 2 47 [.ref (h 0), .int (nI s), .int (nI fr), .int (nI c)] (wMW G h dg mp ml th n t pl pn xy pt sz rs ou sl p fk fp va oa oc ok os) (fun v w => v = none ∧ w = wMW G h dg mp ml th n t pl pn xy pt sz rs ou sl p fk fp va oa oc ok (os ++ ([40] ++ ptsL dg (fun j => xy (8192 * s + j)) fr c ++ [41]))) (fun _ _ => False) := by
  refine yc_of (by decide) ?_
  intro pg ev sx mm bl mt cd A C0 hP hD
  obtain ⟨hx, hb, hrt, hml, hown, hg, hlocks, hxt, hE, hK, hA, hmn⟩ := C0
  have hS : va_S A sx.heap sx.heap [] := va_S.rf
  have hl := lv_entry ([.ref (h 0), .int (nI s), .int (nI fr), .int (nI c)]) (n := 6) (Nat.le_of_ble_eq_true rfl)
  rw [lg_entry_eq]
  generalize (lg_sl ([.ref (h 0), .int (nI s), .int (nI fr), .int (nI c)]) ++ List.replicate (6 - (lg_sl ([.ref (h 0), .int (nI s), .int (nI fr), .int (nI c)])).length) Slot.unset).toArray = ls at hl ⊢
  have hl : lv_has ls 6 [(0, .ref (h 0)), (1, .int (nI s)), (2, .int (nI fr)), (3, .int (nI c))] := hl
  obtain ⟨H, hH⟩ : ∃ H, H = sx.heap := ⟨_, rfl⟩
  rw [← hH] at hP
  have hS : va_S A sx.heap H [] := by rw [hH]; exact hS
  suffices h9 : W pg l ev (yR 2 47) sx mm _ bl mt cd H [] 0 0 (yMQ bl G A _ _ _ _ sx) (F0 mm 0 ls []) by rw [hH] at h9; exact h9
  obtain ⟨locs, hlo⟩ : ∃ locs : List Loc, locs = [] := ⟨_, rfl⟩
  rw [← hlo] at hS ⊢
  have J9 : ∀ (n9 : Nat) (k : Nat) (hm9 : c - k < n9) (hk : k ≤ c) (H : Heap) (locs : List Loc) (ls : Array Slot), va_P (gD G) vwC (wMW G h dg mp ml th n t pl pn xy pt sz rs ou sl p fk fp va oa oc ok (os ++ [40] ++ ptsL dg (fun j => xy (8192 * s + j)) fr k)) H → va_D A (wMW G h dg mp ml th n t pl pn xy pt sz rs ou sl p fk fp va oa oc ok (os ++ [40] ++ ptsL dg (fun j => xy (8192 * s + j)) fr k)) → va_S A sx.heap H locs → lv_has ls 6 [(0, .ref (h 0)), (1, .int (nI s)), (2, .int (nI fr)), (3, .int (nI c)), (4, .int (nI k))] → W pg l ev (yR 2 47) sx mm ([.ref (h 0), .int (nI s), .int (nI fr), .int (nI c)] : List Value).toArray bl mt cd H locs 0 0 (yMQ bl G A (wMW G h dg mp ml th n t pl pn xy pt sz rs ou sl p fk fp va oa oc ok os).length (fun v w => v = none ∧ w = wMW G h dg mp ml th n t pl pn xy pt sz rs ou sl p fk fp va oa oc ok (os ++ ([40] ++ ptsL dg (fun j => xy (8192 * s + j)) fr c ++ [41]))) (fun _ _ => False) ([.ref (h 0), .int (nI s), .int (nI fr), .int (nI c)] : List Value).toArray sx) (F0 mm 9 ls []) := by
    intro n9
    induction n9 with
    | zero => intro k hm9; exact absurd hm9 (Nat.not_lt_zero _)
    | succ n9 ih9 =>
      intro k hm9 hk H locs ls hP hD hS hl
      have hpl := ptsL_len dg (fun j => xy (8192 * s + j)) fr k
      refine lv_iload hx hb d_M_putPoints_9 (lv_at hl 4 rfl) ?_
      refine lv_iload_n hx hb d_M_putPoints_11 rfl (lv_at hl 3 rfl) ?_
      refine yn_icmp_ge (a := k) (b := c) (tgt := 74) hx hb d_M_putPoints_12 (by decide) (by omega) (by omega) (fun c12 => ?_) (fun c12 => ?_)
      · skip
        refine lv_aload_n hx hb d_M_putPoints_74 rfl (lv_at hl 0 rfl) ?_
        refine lv_bipush (v := nI 41) hx hb d_M_putPoints_75 (by decide) ?_
        refine y_callW (y_runV (As := [.int (nI 41)]) (rest := []) hx hb hml hown (c_M_put l G h dg mp ml th n t pl pn xy pt sz rs ou sl p fk fp va oa oc ok (os ++ [40] ++ ptsL dg (fun j => xy (8192 * s + j)) fr k) 41 (by simp only [List.length_append, List.length_singleton, List.length_cons, List.length_nil]; omega)) (gV (n := 1) hg tk_907 tk_909 (gt_s 56 (by decide +kernel) (by decide +kernel)) tk_7 tk_910 (by decide +kernel) ⟨Nat.le_of_ble_eq_true rfl, Nat.le_of_ble_eq_true rfl⟩) (va_recv hK hP (ci := 5) (q0 := 0) rfl rfl) (y_preW hE hK hP hD hS hA) rfl rfl hl.1 rfl (lv_room (Nat.le_of_ble_eq_true rfl)) d_M_putPoints_77 ⟨Nat.le_of_ble_eq_true rfl, Nat.le_of_ble_eq_true rfl⟩) hD hS hA (fun _ _ _ _ _ _ hp => False.elim hp) (fun v9 w9 H locs hp hlw hP hD hS => ?_)
        obtain ⟨rfl, rfl⟩ := hp
        have hP : va_P (gD G) vwC (wMW G h dg mp ml th n t pl pn xy pt sz rs ou sl p fk fp va oa oc ok ((os ++ [40] ++ ptsL dg (fun j => xy (8192 * s + j)) fr k) ++ [41])) H := hP
        have hD : va_D A (wMW G h dg mp ml th n t pl pn xy pt sz rs ou sl p fk fp va oa oc ok ((os ++ [40] ++ ptsL dg (fun j => xy (8192 * s + j)) fr k) ++ [41])) := hD
        refine W.eq (g2 := F0 mm 80 ls []) rfl ?_
        obtain rfl : k = c := by omega
        rw [show os ++ [40] ++ ptsL dg (fun j => xy (8192 * s + j)) fr k ++ [41] = os ++ ([40] ++ ptsL dg (fun j => xy (8192 * s + j)) fr k ++ [41]) by simp only [List.append_assoc]] at hP hD
        have hP : va_P (gD G) vwC (wMW G h dg mp ml th n t pl pn xy pt sz rs ou sl p fk fp va oa oc ok (os ++ ([40] ++ ptsL dg (fun j => xy (8192 * s + j)) fr k ++ [41]))) H := hP
        have hD : va_D A (wMW G h dg mp ml th n t pl pn xy pt sz rs ou sl p fk fp va oa oc ok (os ++ ([40] ++ ptsL dg (fun j => xy (8192 * s + j)) fr k ++ [41]))) := hD
        exact yr_v (ws := wMW G h dg mp ml th n t pl pn xy pt sz rs ou sl p fk fp va oa oc ok (os ++ ([40] ++ ptsL dg (fun j => xy (8192 * s + j)) fr k ++ [41]))) hx hb hrt hlocks (⟨rfl, rfl⟩) rfl hK hP hD hS d_M_putPoints_80
      · skip
        have hb1 := (hbd k (by omega)).1
        have hb2 := (hbd k (by omega)).2
        have hx1 := nmX_len dg (xy (8192 * s + 2 * (fr + k)))
        refine lv_iconst (v := nI 2) hx hb d_M_putPoints_15 (by decide) ?_
        refine lv_sipush (v := nI 4096) hx hb d_M_putPoints_16 (by decide) ?_
        refine lv_iload_n hx hb d_M_putPoints_19 rfl (lv_at hl 1 rfl) ?_
        refine lv_imul hx hb d_M_putPoints_20 ?_
        refine y_eqi (pk_mul _ _) ?_
        refine lv_iload_n hx hb d_M_putPoints_21 rfl (lv_at hl 2 rfl) ?_
        refine lv_iadd hx hb d_M_putPoints_22 ?_
        refine y_eqi (nI_add _ _) ?_
        refine lv_iload hx hb d_M_putPoints_23 (lv_at hl 4 rfl) ?_
        refine lv_iadd hx hb d_M_putPoints_25 ?_
        refine y_eqi (nI_add _ _) ?_
        refine lv_imul hx hb d_M_putPoints_26 ?_
        refine y_eqi (pk_mul _ _) ?_
        refine lv_istore (lv' := [(5, .int (nI (2 * (4096 * s + fr + k)))), (0, .ref (h 0)), (1, .int (nI s)), (2, .int (nI fr)), (3, .int (nI c)), (4, .int (nI k))]) hx hb d_M_putPoints_27 hl (by decide) rfl (fun ls hl => ?_)
        refine lv_iload hx hb d_M_putPoints_29 (lv_at hl 5 rfl) ?_
        refine yn_if_le (a := k) (tgt := 38) hx hb d_M_putPoints_31 (by decide) (by omega) (fun c31 => ?_) (fun c31 => ?_)
        · skip
          refine lv_aload_n hx hb d_M_putPoints_38 rfl (lv_at hl 1 rfl) ?_
          refine lv_aload_n hx hb d_M_putPoints_39 rfl (lv_at hl 1 rfl) ?_
          refine va_get (D := gD G) (ci := 5) (v := .ref (h 6)) (C := "WordShapesModel") (T := TM) (N := 24) hx hb hg iw_M hown hK hP 0 rfl rfl 10 (by decide) (hg _ tk_693) (fun _ h9 => h9) rfl d_M_putPoints_40 ?_
          refine lv_iload hx hb d_M_putPoints_43 (lv_at hl 0 rfl) ?_
          refine yn_iald hx hb hK hP 6 0 rfl rfl (j := 2 * (4096 * s + fr + k)) (x := xy (8192 * s + 2 * (fr + k))) (congrArg xy (by omega)) (by omega) (by omega) d_M_putPoints_45 ?_
          refine y_callW (y_runV (As := [.int (xy (8192 * s + 2 * (fr + k)))]) (rest := []) hx hb hml hown (c_M_putNumber l G h dg mp ml th n t pl pn xy pt sz rs ou sl p fk fp va oa oc ok (os ++ [40] ++ ptsL dg (fun j => xy (8192 * s + j)) fr k) (xy (8192 * s + 2 * (fr + k))) (by simp only [List.length_append, List.length_singleton, List.length_cons, List.length_nil]; omega) (by omega) (hb1)) (gV (n := 1) hg tk_919 tk_921 (gt_s 59 (by decide +kernel) (by decide +kernel)) tk_7 tk_922 (by decide +kernel) ⟨Nat.le_of_ble_eq_true rfl, Nat.le_of_ble_eq_true rfl⟩) (va_recv hK hP (ci := 5) (q0 := 0) rfl rfl) (y_preW hE hK hP hD hS hA) rfl rfl hl.1 rfl (lv_room (Nat.le_of_ble_eq_true rfl)) d_M_putPoints_46 ⟨Nat.le_of_ble_eq_true rfl, Nat.le_of_ble_eq_true rfl⟩) hD hS hA (fun _ _ _ _ _ _ hp => False.elim hp) (fun v9 w9 H locs hp hlw hP hD hS => ?_)
          obtain ⟨rfl, rfl⟩ := hp
          have hP : va_P (gD G) vwC (wMW G h dg mp ml th n t pl pn xy pt sz rs ou sl p fk fp va oa oc ok ((os ++ [40] ++ ptsL dg (fun j => xy (8192 * s + j)) fr k) ++ nmX dg (xy (8192 * s + 2 * (fr + k))))) H := hP
          have hD : va_D A (wMW G h dg mp ml th n t pl pn xy pt sz rs ou sl p fk fp va oa oc ok ((os ++ [40] ++ ptsL dg (fun j => xy (8192 * s + j)) fr k) ++ nmX dg (xy (8192 * s + 2 * (fr + k))))) := hD
          refine W.eq (g2 := F0 mm 49 ls []) rfl ?_
          refine lv_aload_n hx hb d_M_putPoints_49 rfl (lv_at hl 1 rfl) ?_
          refine lv_bipush (v := nI 32) hx hb d_M_putPoints_50 (by decide) ?_
          refine y_callW (y_runV (As := [.int (nI 32)]) (rest := []) hx hb hml hown (c_M_put l G h dg mp ml th n t pl pn xy pt sz rs ou sl p fk fp va oa oc ok ((os ++ [40] ++ ptsL dg (fun j => xy (8192 * s + j)) fr k) ++ nmX dg (xy (8192 * s + 2 * (fr + k)))) 32 (by simp only [List.length_append, List.length_singleton, List.length_cons, List.length_nil]; omega)) (gV (n := 1) hg tk_907 tk_909 (gt_s 56 (by decide +kernel) (by decide +kernel)) tk_7 tk_910 (by decide +kernel) ⟨Nat.le_of_ble_eq_true rfl, Nat.le_of_ble_eq_true rfl⟩) (va_recv hK hP (ci := 5) (q0 := 0) rfl rfl) (y_preW hE hK hP hD hS hA) rfl rfl hl.1 rfl (lv_room (Nat.le_of_ble_eq_true rfl)) d_M_putPoints_52 ⟨Nat.le_of_ble_eq_true rfl, Nat.le_of_ble_eq_true rfl⟩) hD hS hA (fun _ _ _ _ _ _ hp => False.elim hp) (fun v9 w9 H locs hp hlw hP hD hS => ?_)
          obtain ⟨rfl, rfl⟩ := hp
          have hP : va_P (gD G) vwC (wMW G h dg mp ml th n t pl pn xy pt sz rs ou sl p fk fp va oa oc ok (((os ++ [40] ++ ptsL dg (fun j => xy (8192 * s + j)) fr k) ++ nmX dg (xy (8192 * s + 2 * (fr + k)))) ++ [32])) H := hP
          have hD : va_D A (wMW G h dg mp ml th n t pl pn xy pt sz rs ou sl p fk fp va oa oc ok (((os ++ [40] ++ ptsL dg (fun j => xy (8192 * s + j)) fr k) ++ nmX dg (xy (8192 * s + 2 * (fr + k)))) ++ [32])) := hD
          refine W.eq (g2 := F0 mm 55 ls []) rfl ?_
          refine lv_aload_n hx hb d_M_putPoints_55 rfl (lv_at hl 1 rfl) ?_
          refine lv_aload_n hx hb d_M_putPoints_56 rfl (lv_at hl 1 rfl) ?_
          refine va_get (D := gD G) (ci := 5) (v := .ref (h 6)) (C := "WordShapesModel") (T := TM) (N := 24) hx hb hg iw_M hown hK hP 0 rfl rfl 10 (by decide) (hg _ tk_693) (fun _ h9 => h9) rfl d_M_putPoints_57 ?_
          refine lv_iload hx hb d_M_putPoints_60 (lv_at hl 0 rfl) ?_
          refine lv_iconst (v := nI 1) hx hb d_M_putPoints_62 (by decide) ?_
          refine lv_iadd hx hb d_M_putPoints_63 ?_
          refine y_eqi (nI_add _ _) ?_
          refine yn_iald hx hb hK hP 6 0 rfl rfl (j := 2 * (4096 * s + fr + k) + 1) (x := xy (8192 * s + (2 * (fr + k) + 1))) (congrArg xy (by omega)) (by omega) (by omega) d_M_putPoints_64 ?_
          refine y_callW (y_runV (As := [.int (xy (8192 * s + (2 * (fr + k) + 1)))]) (rest := []) hx hb hml hown (c_M_putNumber l G h dg mp ml th n t pl pn xy pt sz rs ou sl p fk fp va oa oc ok (((os ++ [40] ++ ptsL dg (fun j => xy (8192 * s + j)) fr k) ++ nmX dg (xy (8192 * s + 2 * (fr + k)))) ++ [32]) (xy (8192 * s + (2 * (fr + k) + 1))) (by simp only [List.length_append, List.length_singleton, List.length_cons, List.length_nil]; omega) (by omega) (hb2)) (gV (n := 1) hg tk_919 tk_921 (gt_s 59 (by decide +kernel) (by decide +kernel)) tk_7 tk_922 (by decide +kernel) ⟨Nat.le_of_ble_eq_true rfl, Nat.le_of_ble_eq_true rfl⟩) (va_recv hK hP (ci := 5) (q0 := 0) rfl rfl) (y_preW hE hK hP hD hS hA) rfl rfl hl.1 rfl (lv_room (Nat.le_of_ble_eq_true rfl)) d_M_putPoints_65 ⟨Nat.le_of_ble_eq_true rfl, Nat.le_of_ble_eq_true rfl⟩) hD hS hA (fun _ _ _ _ _ _ hp => False.elim hp) (fun v9 w9 H locs hp hlw hP hD hS => ?_)
          obtain ⟨rfl, rfl⟩ := hp
          have hP : va_P (gD G) vwC (wMW G h dg mp ml th n t pl pn xy pt sz rs ou sl p fk fp va oa oc ok ((((os ++ [40] ++ ptsL dg (fun j => xy (8192 * s + j)) fr k) ++ nmX dg (xy (8192 * s + 2 * (fr + k)))) ++ [32]) ++ nmX dg (xy (8192 * s + (2 * (fr + k) + 1))))) H := hP
          have hD : va_D A (wMW G h dg mp ml th n t pl pn xy pt sz rs ou sl p fk fp va oa oc ok ((((os ++ [40] ++ ptsL dg (fun j => xy (8192 * s + j)) fr k) ++ nmX dg (xy (8192 * s + 2 * (fr + k)))) ++ [32]) ++ nmX dg (xy (8192 * s + (2 * (fr + k) + 1))))) := hD
          refine W.eq (g2 := F0 mm 68 ls []) rfl ?_
          have e9 : (((os ++ [40] ++ ptsL dg (fun j => xy (8192 * s + j)) fr k) ++ nmX dg (xy (8192 * s + 2 * (fr + k)))) ++ [32]) ++ nmX dg (xy (8192 * s + (2 * (fr + k) + 1))) = os ++ [40] ++ ptsL dg (fun j => xy (8192 * s + j)) fr (k + 1) := by show _ = os ++ [40] ++ (ptsL dg (fun j => xy (8192 * s + j)) fr k ++ ((if k = 0 then [] else [44, 32]) ++ ptT dg (fun j => xy (8192 * s + j)) (fr + k))); (first | rw [if_pos (show k = 0 by omega)] | rw [if_neg (show ¬ k = 0 by omega)]); unfold ptT; simp only [List.append_assoc, List.nil_append]
          rw [e9] at hP hD
          have hP : va_P (gD G) vwC (wMW G h dg mp ml th n t pl pn xy pt sz rs ou sl p fk fp va oa oc ok (os ++ [40] ++ ptsL dg (fun j => xy (8192 * s + j)) fr (k + 1))) H := hP
          have hD : va_D A (wMW G h dg mp ml th n t pl pn xy pt sz rs ou sl p fk fp va oa oc ok (os ++ [40] ++ ptsL dg (fun j => xy (8192 * s + j)) fr (k + 1))) := hD
          refine lv_iinc (v := nI (k + 1)) (lv' := [(4, .int (nI (k + 1))), (5, .int (nI (2 * (4096 * s + fr + k)))), (0, .ref (h 0)), (1, .int (nI s)), (2, .int (nI fr)), (3, .int (nI c))]) hx hb d_M_putPoints_68 hl (k := 5) rfl (y_inc _) (by decide) rfl (fun ls hl => ?_)
          refine lv_goto (tgt := 9) hx hb d_M_putPoints_71 (by decide) ?_
          exact ih9 (k + 1) (by omega) (by omega) _ _ _ hP hD hS (lv_sub hl [2, 3, 4, 5, 0] (rfl))
        · skip
          refine lv_aload_n hx hb d_M_putPoints_34 rfl (lv_at hl 1 rfl) ?_
          refine y_callW (y_runV (As := []) (rest := []) hx hb hml hown (c_M_putBetween l G h dg mp ml th n t pl pn xy pt sz rs ou sl p fk fp va oa oc ok (os ++ [40] ++ ptsL dg (fun j => xy (8192 * s + j)) fr k)  (by simp only [List.length_append, List.length_singleton, List.length_cons, List.length_nil]; omega)) (gV (n := 0) hg tk_915 tk_917 (gt_s 58 (by decide +kernel) (by decide +kernel)) tk_7 tk_918 (by decide +kernel) ⟨Nat.le_of_ble_eq_true rfl, Nat.le_of_ble_eq_true rfl⟩) (va_recv hK hP (ci := 5) (q0 := 0) rfl rfl) (y_preW hE hK hP hD hS hA) rfl rfl hl.1 rfl (lv_room (Nat.le_of_ble_eq_true rfl)) d_M_putPoints_35 ⟨Nat.le_of_ble_eq_true rfl, Nat.le_of_ble_eq_true rfl⟩) hD hS hA (fun _ _ _ _ _ _ hp => False.elim hp) (fun v9 w9 H locs hp hlw hP hD hS => ?_)
          obtain ⟨rfl, rfl⟩ := hp
          have hP : va_P (gD G) vwC (wMW G h dg mp ml th n t pl pn xy pt sz rs ou sl p fk fp va oa oc ok ((os ++ [40] ++ ptsL dg (fun j => xy (8192 * s + j)) fr k) ++ [44, 32])) H := hP
          have hD : va_D A (wMW G h dg mp ml th n t pl pn xy pt sz rs ou sl p fk fp va oa oc ok ((os ++ [40] ++ ptsL dg (fun j => xy (8192 * s + j)) fr k) ++ [44, 32])) := hD
          refine W.eq (g2 := F0 mm 38 ls []) rfl ?_
          refine lv_aload_n hx hb d_M_putPoints_38 rfl (lv_at hl 1 rfl) ?_
          refine lv_aload_n hx hb d_M_putPoints_39 rfl (lv_at hl 1 rfl) ?_
          refine va_get (D := gD G) (ci := 5) (v := .ref (h 6)) (C := "WordShapesModel") (T := TM) (N := 24) hx hb hg iw_M hown hK hP 0 rfl rfl 10 (by decide) (hg _ tk_693) (fun _ h9 => h9) rfl d_M_putPoints_40 ?_
          refine lv_iload hx hb d_M_putPoints_43 (lv_at hl 0 rfl) ?_
          refine yn_iald hx hb hK hP 6 0 rfl rfl (j := 2 * (4096 * s + fr + k)) (x := xy (8192 * s + 2 * (fr + k))) (congrArg xy (by omega)) (by omega) (by omega) d_M_putPoints_45 ?_
          refine y_callW (y_runV (As := [.int (xy (8192 * s + 2 * (fr + k)))]) (rest := []) hx hb hml hown (c_M_putNumber l G h dg mp ml th n t pl pn xy pt sz rs ou sl p fk fp va oa oc ok ((os ++ [40] ++ ptsL dg (fun j => xy (8192 * s + j)) fr k) ++ [44, 32]) (xy (8192 * s + 2 * (fr + k))) (by simp only [List.length_append, List.length_singleton, List.length_cons, List.length_nil]; omega) (by omega) (hb1)) (gV (n := 1) hg tk_919 tk_921 (gt_s 59 (by decide +kernel) (by decide +kernel)) tk_7 tk_922 (by decide +kernel) ⟨Nat.le_of_ble_eq_true rfl, Nat.le_of_ble_eq_true rfl⟩) (va_recv hK hP (ci := 5) (q0 := 0) rfl rfl) (y_preW hE hK hP hD hS hA) rfl rfl hl.1 rfl (lv_room (Nat.le_of_ble_eq_true rfl)) d_M_putPoints_46 ⟨Nat.le_of_ble_eq_true rfl, Nat.le_of_ble_eq_true rfl⟩) hD hS hA (fun _ _ _ _ _ _ hp => False.elim hp) (fun v9 w9 H locs hp hlw hP hD hS => ?_)
          obtain ⟨rfl, rfl⟩ := hp
          have hP : va_P (gD G) vwC (wMW G h dg mp ml th n t pl pn xy pt sz rs ou sl p fk fp va oa oc ok (((os ++ [40] ++ ptsL dg (fun j => xy (8192 * s + j)) fr k) ++ [44, 32]) ++ nmX dg (xy (8192 * s + 2 * (fr + k))))) H := hP
          have hD : va_D A (wMW G h dg mp ml th n t pl pn xy pt sz rs ou sl p fk fp va oa oc ok (((os ++ [40] ++ ptsL dg (fun j => xy (8192 * s + j)) fr k) ++ [44, 32]) ++ nmX dg (xy (8192 * s + 2 * (fr + k))))) := hD
          refine W.eq (g2 := F0 mm 49 ls []) rfl ?_
          refine lv_aload_n hx hb d_M_putPoints_49 rfl (lv_at hl 1 rfl) ?_
          refine lv_bipush (v := nI 32) hx hb d_M_putPoints_50 (by decide) ?_
          refine y_callW (y_runV (As := [.int (nI 32)]) (rest := []) hx hb hml hown (c_M_put l G h dg mp ml th n t pl pn xy pt sz rs ou sl p fk fp va oa oc ok (((os ++ [40] ++ ptsL dg (fun j => xy (8192 * s + j)) fr k) ++ [44, 32]) ++ nmX dg (xy (8192 * s + 2 * (fr + k)))) 32 (by simp only [List.length_append, List.length_singleton, List.length_cons, List.length_nil]; omega)) (gV (n := 1) hg tk_907 tk_909 (gt_s 56 (by decide +kernel) (by decide +kernel)) tk_7 tk_910 (by decide +kernel) ⟨Nat.le_of_ble_eq_true rfl, Nat.le_of_ble_eq_true rfl⟩) (va_recv hK hP (ci := 5) (q0 := 0) rfl rfl) (y_preW hE hK hP hD hS hA) rfl rfl hl.1 rfl (lv_room (Nat.le_of_ble_eq_true rfl)) d_M_putPoints_52 ⟨Nat.le_of_ble_eq_true rfl, Nat.le_of_ble_eq_true rfl⟩) hD hS hA (fun _ _ _ _ _ _ hp => False.elim hp) (fun v9 w9 H locs hp hlw hP hD hS => ?_)
          obtain ⟨rfl, rfl⟩ := hp
          have hP : va_P (gD G) vwC (wMW G h dg mp ml th n t pl pn xy pt sz rs ou sl p fk fp va oa oc ok ((((os ++ [40] ++ ptsL dg (fun j => xy (8192 * s + j)) fr k) ++ [44, 32]) ++ nmX dg (xy (8192 * s + 2 * (fr + k)))) ++ [32])) H := hP
          have hD : va_D A (wMW G h dg mp ml th n t pl pn xy pt sz rs ou sl p fk fp va oa oc ok ((((os ++ [40] ++ ptsL dg (fun j => xy (8192 * s + j)) fr k) ++ [44, 32]) ++ nmX dg (xy (8192 * s + 2 * (fr + k)))) ++ [32])) := hD
          refine W.eq (g2 := F0 mm 55 ls []) rfl ?_
          refine lv_aload_n hx hb d_M_putPoints_55 rfl (lv_at hl 1 rfl) ?_
          refine lv_aload_n hx hb d_M_putPoints_56 rfl (lv_at hl 1 rfl) ?_
          refine va_get (D := gD G) (ci := 5) (v := .ref (h 6)) (C := "WordShapesModel") (T := TM) (N := 24) hx hb hg iw_M hown hK hP 0 rfl rfl 10 (by decide) (hg _ tk_693) (fun _ h9 => h9) rfl d_M_putPoints_57 ?_
          refine lv_iload hx hb d_M_putPoints_60 (lv_at hl 0 rfl) ?_
          refine lv_iconst (v := nI 1) hx hb d_M_putPoints_62 (by decide) ?_
          refine lv_iadd hx hb d_M_putPoints_63 ?_
          refine y_eqi (nI_add _ _) ?_
          refine yn_iald hx hb hK hP 6 0 rfl rfl (j := 2 * (4096 * s + fr + k) + 1) (x := xy (8192 * s + (2 * (fr + k) + 1))) (congrArg xy (by omega)) (by omega) (by omega) d_M_putPoints_64 ?_
          refine y_callW (y_runV (As := [.int (xy (8192 * s + (2 * (fr + k) + 1)))]) (rest := []) hx hb hml hown (c_M_putNumber l G h dg mp ml th n t pl pn xy pt sz rs ou sl p fk fp va oa oc ok ((((os ++ [40] ++ ptsL dg (fun j => xy (8192 * s + j)) fr k) ++ [44, 32]) ++ nmX dg (xy (8192 * s + 2 * (fr + k)))) ++ [32]) (xy (8192 * s + (2 * (fr + k) + 1))) (by simp only [List.length_append, List.length_singleton, List.length_cons, List.length_nil]; omega) (by omega) (hb2)) (gV (n := 1) hg tk_919 tk_921 (gt_s 59 (by decide +kernel) (by decide +kernel)) tk_7 tk_922 (by decide +kernel) ⟨Nat.le_of_ble_eq_true rfl, Nat.le_of_ble_eq_true rfl⟩) (va_recv hK hP (ci := 5) (q0 := 0) rfl rfl) (y_preW hE hK hP hD hS hA) rfl rfl hl.1 rfl (lv_room (Nat.le_of_ble_eq_true rfl)) d_M_putPoints_65 ⟨Nat.le_of_ble_eq_true rfl, Nat.le_of_ble_eq_true rfl⟩) hD hS hA (fun _ _ _ _ _ _ hp => False.elim hp) (fun v9 w9 H locs hp hlw hP hD hS => ?_)
          obtain ⟨rfl, rfl⟩ := hp
          have hP : va_P (gD G) vwC (wMW G h dg mp ml th n t pl pn xy pt sz rs ou sl p fk fp va oa oc ok (((((os ++ [40] ++ ptsL dg (fun j => xy (8192 * s + j)) fr k) ++ [44, 32]) ++ nmX dg (xy (8192 * s + 2 * (fr + k)))) ++ [32]) ++ nmX dg (xy (8192 * s + (2 * (fr + k) + 1))))) H := hP
          have hD : va_D A (wMW G h dg mp ml th n t pl pn xy pt sz rs ou sl p fk fp va oa oc ok (((((os ++ [40] ++ ptsL dg (fun j => xy (8192 * s + j)) fr k) ++ [44, 32]) ++ nmX dg (xy (8192 * s + 2 * (fr + k)))) ++ [32]) ++ nmX dg (xy (8192 * s + (2 * (fr + k) + 1))))) := hD
          refine W.eq (g2 := F0 mm 68 ls []) rfl ?_
          have e9 : ((((os ++ [40] ++ ptsL dg (fun j => xy (8192 * s + j)) fr k) ++ [44, 32]) ++ nmX dg (xy (8192 * s + 2 * (fr + k)))) ++ [32]) ++ nmX dg (xy (8192 * s + (2 * (fr + k) + 1))) = os ++ [40] ++ ptsL dg (fun j => xy (8192 * s + j)) fr (k + 1) := by show _ = os ++ [40] ++ (ptsL dg (fun j => xy (8192 * s + j)) fr k ++ ((if k = 0 then [] else [44, 32]) ++ ptT dg (fun j => xy (8192 * s + j)) (fr + k))); (first | rw [if_pos (show k = 0 by omega)] | rw [if_neg (show ¬ k = 0 by omega)]); unfold ptT; simp only [List.append_assoc, List.nil_append]
          rw [e9] at hP hD
          have hP : va_P (gD G) vwC (wMW G h dg mp ml th n t pl pn xy pt sz rs ou sl p fk fp va oa oc ok (os ++ [40] ++ ptsL dg (fun j => xy (8192 * s + j)) fr (k + 1))) H := hP
          have hD : va_D A (wMW G h dg mp ml th n t pl pn xy pt sz rs ou sl p fk fp va oa oc ok (os ++ [40] ++ ptsL dg (fun j => xy (8192 * s + j)) fr (k + 1))) := hD
          refine lv_iinc (v := nI (k + 1)) (lv' := [(4, .int (nI (k + 1))), (5, .int (nI (2 * (4096 * s + fr + k)))), (0, .ref (h 0)), (1, .int (nI s)), (2, .int (nI fr)), (3, .int (nI c))]) hx hb d_M_putPoints_68 hl (k := 5) rfl (y_inc _) (by decide) rfl (fun ls hl => ?_)
          refine lv_goto (tgt := 9) hx hb d_M_putPoints_71 (by decide) ?_
          exact ih9 (k + 1) (by omega) (by omega) _ _ _ hP hD hS (lv_sub hl [2, 3, 4, 5, 0] (rfl))
  refine lv_aload_n hx hb d_M_putPoints_0 rfl (lv_at hl 0 rfl) ?_
  refine lv_bipush (v := nI 40) hx hb d_M_putPoints_1 (by decide) ?_
  refine y_callW (y_runV (As := [.int (nI 40)]) (rest := []) hx hb hml hown (c_M_put l G h dg mp ml th n t pl pn xy pt sz rs ou sl p fk fp va oa oc ok os 40 (by omega)) (gV (n := 1) hg tk_907 tk_909 (gt_s 56 (by decide +kernel) (by decide +kernel)) tk_7 tk_910 (by decide +kernel) ⟨Nat.le_of_ble_eq_true rfl, Nat.le_of_ble_eq_true rfl⟩) (va_recv hK hP (ci := 5) (q0 := 0) rfl rfl) (y_preW hE hK hP hD hS hA) rfl rfl hl.1 rfl (lv_room (Nat.le_of_ble_eq_true rfl)) d_M_putPoints_3 ⟨Nat.le_of_ble_eq_true rfl, Nat.le_of_ble_eq_true rfl⟩) hD hS hA (fun _ _ _ _ _ _ hp => False.elim hp) (fun v9 w9 H locs hp hlw hP hD hS => ?_)
  obtain ⟨rfl, rfl⟩ := hp
  have hP : va_P (gD G) vwC (wMW G h dg mp ml th n t pl pn xy pt sz rs ou sl p fk fp va oa oc ok (os ++ [40])) H := hP
  have hD : va_D A (wMW G h dg mp ml th n t pl pn xy pt sz rs ou sl p fk fp va oa oc ok (os ++ [40])) := hD
  refine W.eq (g2 := F0 mm 6 ls []) rfl ?_
  rw [← List.append_nil (os ++ [40])] at hP hD
  have hP : va_P (gD G) vwC (wMW G h dg mp ml th n t pl pn xy pt sz rs ou sl p fk fp va oa oc ok (os ++ [40] ++ ptsL dg (fun j => xy (8192 * s + j)) fr 0)) H := hP
  have hD : va_D A (wMW G h dg mp ml th n t pl pn xy pt sz rs ou sl p fk fp va oa oc ok (os ++ [40] ++ ptsL dg (fun j => xy (8192 * s + j)) fr 0)) := hD
  refine lv_iconst (v := nI 0) hx hb d_M_putPoints_6 (by decide) ?_
  refine lv_istore (lv' := [(4, .int (nI 0)), (0, .ref (h 0)), (1, .int (nI s)), (2, .int (nI fr)), (3, .int (nI c))]) hx hb d_M_putPoints_7 hl (by decide) rfl (fun ls hl => ?_)
  exact J9 _ 0 (Nat.lt_succ_self _) (by omega) _ _ _ hP hD hS (lv_sub hl [1, 2, 3, 4, 0] (rfl))
