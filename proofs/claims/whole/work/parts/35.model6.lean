set_option maxHeartbeats 4000000 in
set_option maxRecDepth 100000 in
theorem c_M_rings (l : Launch) (G : gl) (h : Nat → Nat) (dg : Nat) (mp : Nat) (ml : Nat) (th : Nat) (n : Nat) (t : Nat → Nat) (pl : Nat → Int32) (pn : Nat → Nat) (xy : Nat → Int32) (pt : Nat → Nat) (sz : Nat) (rs : Nat → Nat) (ou : Nat → Nat) (wr : Nat) (sl : Nat) (p : Nat) (fk : Nat) (fp : Nat) (va : Int32) (oa : Nat → Int32) (oc : Nat → Int32) (ok : Nat → Int32) (xs : List Int32) (ys : List (Int32 × Int32))  (hn : n ≤ 65536) (hp : p ≤ n) (ht : ∀ i, t i < 256) (hml : ml ≤ 4096) (hmp : mp ≤ 4096) (hsl : sl < 4) (hxs : xs.length ≤ ml) (hys : ys.length ≤ mp) (hdg : dg ≤ 3) : YC l G y_M_rings k_M_rings 5 (Option.some FieldType.int) 7 157 [.ref (h 0)] (wMR G h dg mp ml th n t pl pn xy pt sz rs ou wr sl p fk fp va oa oc ok xs ys) (fun v w => (∃ q m9 xs9 ys9 va9, (riM t n dg mp ml (n + 1) p 0 xs ys = .inr (q, m9, xs9, ys9)) ∧ v = some (.int (nI m9)) ∧ w = wMR G h dg mp ml th n t pl pn xy pt sz rs ou wr sl q fk fp va9 oa oc ok xs9 ys9) ∨ (∃ a b q va9 xs9 ys9, (riM t n dg mp ml (n + 1) p 0 xs ys = .inl (a, b)) ∧ v = some (.int (-1)) ∧ w = wMR G h dg mp ml th n t pl pn xy pt sz rs ou wr sl q a b va9 oa oc ok xs9 ys9)) (fun _ _ => False) := by
  refine yc_of (by decide) ?_
  intro pg ev sx mm bl mt cd A C0 hP hD
  obtain ⟨hx, hb, hrt, hml, hown, hg, hlocks, hxt, hE, hK, hA, hmn⟩ := C0
  have hS : va_S A sx.heap sx.heap [] := va_S.rf
  have hl := lv_entry ([.ref (h 0)]) (n := 5) (Nat.le_of_ble_eq_true rfl)
  rw [lg_entry_eq]
  generalize (lg_sl ([.ref (h 0)]) ++ List.replicate (5 - (lg_sl ([.ref (h 0)])).length) Slot.unset).toArray = ls at hl ⊢
  have hl : lv_has ls 5 [(0, .ref (h 0))] := hl
  obtain ⟨H, hH⟩ : ∃ H, H = sx.heap := ⟨_, rfl⟩
  rw [← hH] at hP
  have hS : va_S A sx.heap H [] := by rw [hH]; exact hS
  suffices h9 : W pg l ev (yR 7 157) sx mm _ bl mt cd H [] 0 0 (yMQ bl G A _ _ _ _ sx) (F0 mm 0 ls []) by rw [hH] at h9; exact h9
  obtain ⟨locs, hlo⟩ : ∃ locs : List Loc, locs = [] := ⟨_, rfl⟩
  rw [← hlo] at hS ⊢
  have J9 : ∀ (n9 : Nat) (F : Nat) (q : Nat) (m : Nat) (v1 : Int32) (x1 : List Int32) (y1 : List (Int32 × Int32)) (hm9 : n - q < n9) (hF : n + 1 ≤ q + F) (hq : q ≤ n) (hm : m ≤ q) (hx1 : x1.length ≤ ml) (hy1 : y1.length ≤ mp) (hS9 : riM t n dg mp ml (n + 1) p 0 xs ys = riM t n dg mp ml F q m x1 y1) (H : Heap) (locs : List Loc) (ls : Array Slot), va_P (gD G) vwC (wMR G h dg mp ml th n t pl pn xy pt sz rs ou wr sl q fk fp v1 oa oc ok x1 y1) H → va_D A (wMR G h dg mp ml th n t pl pn xy pt sz rs ou wr sl q fk fp v1 oa oc ok x1 y1) → va_S A sx.heap H locs → lv_has ls 5 [(0, .ref (h 0)), (1, .int (nI m))] → W pg l ev (yR 7 157) sx mm ([.ref (h 0)] : List Value).toArray bl mt cd H locs 0 0 (yMQ bl G A (wMR G h dg mp ml th n t pl pn xy pt sz rs ou wr sl p fk fp va oa oc ok xs ys).length (fun v w => (∃ q m9 xs9 ys9 va9, (riM t n dg mp ml (n + 1) p 0 xs ys = .inr (q, m9, xs9, ys9)) ∧ v = some (.int (nI m9)) ∧ w = wMR G h dg mp ml th n t pl pn xy pt sz rs ou wr sl q fk fp va9 oa oc ok xs9 ys9) ∨ (∃ a b q va9 xs9 ys9, (riM t n dg mp ml (n + 1) p 0 xs ys = .inl (a, b)) ∧ v = some (.int (-1)) ∧ w = wMR G h dg mp ml th n t pl pn xy pt sz rs ou wr sl q a b va9 oa oc ok xs9 ys9)) (fun _ _ => False) ([.ref (h 0)] : List Value).toArray sx) (F0 mm 9 ls []) := by
    intro n9
    induction n9 with
    | zero => intro F q m v1 x1 y1 hm9; exact absurd hm9 (Nat.not_lt_zero _)
    | succ n9 ih9 =>
      intro F q m v1 x1 y1 hm9 hF hq hm hx1 hy1 hS9 H locs ls hP hD hS hl
      obtain ⟨F, rfl⟩ : ∃ z, F = z + 1 := ⟨F - 1, by omega⟩
      have b1 := rn_ge (P := blN) (t := t) hq
      have b2 := rn_le (P := blN) (t := t) hq
      refine lv_aload_n hx hb d_M_rings_9 rfl (lv_at hl 0 rfl) ?_
      refine y_callW (y_runV (As := []) (rest := []) hx hb hml hown (c_M_pass l G h dg mp ml th n t pl pn xy pt sz rs ou wr sl q fk fp v1 oa oc ok x1 y1  (by omega) (by omega) (ht)) (gV (n := 0) hg tk_790 tk_792 (gt_s 34 (by decide +kernel) (by decide +kernel)) tk_7 tk_793 (by decide +kernel) ⟨Nat.le_of_ble_eq_true rfl, Nat.le_of_ble_eq_true rfl⟩) (va_recv hK hP (ci := 5) (q0 := 0) rfl rfl) (y_preW hE hK hP hD hS hA) rfl rfl hl.1 rfl (lv_room (Nat.le_of_ble_eq_true rfl)) d_M_rings_10 ⟨Nat.le_of_ble_eq_true rfl, Nat.le_of_ble_eq_true rfl⟩) hD hS hA (fun _ _ _ _ _ _ hp => False.elim hp) (fun v9 w9 H locs hp hlw hP hD hS => ?_)
      obtain ⟨rfl, rfl⟩ := hp
      have hP : va_P (gD G) vwC (wMR G h dg mp ml th n t pl pn xy pt sz rs ou wr sl (rn blN t n q) fk fp v1 oa oc ok x1 y1) H := hP
      have hD : va_D A (wMR G h dg mp ml th n t pl pn xy pt sz rs ou wr sl (rn blN t n q) fk fp v1 oa oc ok x1 y1) := hD
      refine W.eq (g2 := F0 mm 13 ls []) rfl ?_
      refine lv_aload_n hx hb d_M_rings_13 rfl (lv_at hl 0 rfl) ?_
      refine lv_iconst (v := nI 1) hx hb d_M_rings_14 (by decide) ?_
      refine lv_iconst (v := nI 0) hx hb d_M_rings_15 (by decide) ?_
      refine y_callW (y_runV (As := [.int (nI 1), .int (nI 0)]) (rest := []) hx hb hml hown (c_M_room l G h dg mp ml th n t pl pn xy pt sz rs ou wr sl (rn blN t n q) fk fp v1 oa oc ok x1 y1 1 0 (by omega) (by omega) (by omega) (by omega) (by omega) (by omega) (by omega)) (gV (n := 2) hg tk_825 tk_827 (gt_s 39 (by decide +kernel) (by decide +kernel)) tk_7 tk_828 (by decide +kernel) ⟨Nat.le_of_ble_eq_true rfl, Nat.le_of_ble_eq_true rfl⟩) (va_recv hK hP (ci := 5) (q0 := 0) rfl rfl) (y_preW hE hK hP hD hS hA) rfl rfl hl.1 rfl (lv_room (Nat.le_of_ble_eq_true rfl)) d_M_rings_16 ⟨Nat.le_of_ble_eq_true rfl, Nat.le_of_ble_eq_true rfl⟩) hD hS hA (fun _ _ _ _ _ _ hp => False.elim hp) (fun v9 w9 H locs hp hlw hP hD hS => ?_)
      obtain ⟨rfl, rfl⟩ := hp
      have hP : va_P (gD G) vwC (wMR G h dg mp ml th n t pl pn xy pt sz rs ou wr sl (rn blN t n q) fk fp v1 oa oc ok x1 y1) H := hP
      have hD : va_D A (wMR G h dg mp ml th n t pl pn xy pt sz rs ou wr sl (rn blN t n q) fk fp v1 oa oc ok x1 y1) := hD
      refine W.eq (g2 := F0 mm 19 ls [.int (bz (decide (x1.length + 1 ≤ ml ∧ y1.length + 0 ≤ mp)))]) rfl ?_
      refine yz_if_ne (P := x1.length + 1 ≤ ml ∧ y1.length + 0 ≤ mp) (tgt := 35) hx hb d_M_rings_19 (by decide) (fun c19 => ?_) (fun c19 => ?_)
      · skip
        refine lv_aload_n hx hb d_M_rings_35 rfl (lv_at hl 0 rfl) ?_
        refine lv_iconst (v := nI 0) hx hb d_M_rings_36 (by decide) ?_
        refine y_callW (y_runV (As := [.int (nI 0)]) (rest := []) hx hb hml hown (c_M_say l G h dg mp ml th n t pl pn xy pt sz rs ou wr sl (rn blN t n q) fk fp v1 oa oc ok x1 y1 (nI 0) (by omega) (by omega) (by omega) (by omega) (by omega) (by omega)) (gV (n := 1) hg tk_833 tk_835 (gt_s 41 (by decide +kernel) (by decide +kernel)) tk_7 tk_836 (by decide +kernel) ⟨Nat.le_of_ble_eq_true rfl, Nat.le_of_ble_eq_true rfl⟩) (va_recv hK hP (ci := 5) (q0 := 0) rfl rfl) (y_preW hE hK hP hD hS hA) rfl rfl hl.1 rfl (lv_room (Nat.le_of_ble_eq_true rfl)) d_M_rings_37 ⟨Nat.le_of_ble_eq_true rfl, Nat.le_of_ble_eq_true rfl⟩) hD hS hA (fun _ _ _ _ _ _ hp => False.elim hp) (fun v9 w9 H locs hp hlw hP hD hS => ?_)
        obtain ⟨rfl, rfl⟩ := hp
        have hP : va_P (gD G) vwC (wMR G h dg mp ml th n t pl pn xy pt sz rs ou wr sl (rn blN t n q) fk fp v1 oa oc ok (x1 ++ [(nI 0)]) y1) H := hP
        have hD : va_D A (wMR G h dg mp ml th n t pl pn xy pt sz rs ou wr sl (rn blN t n q) fk fp v1 oa oc ok (x1 ++ [(nI 0)]) y1) := hD
        refine W.eq (g2 := F0 mm 40 ls []) rfl ?_
        refine lv_aload_n hx hb d_M_rings_40 rfl (lv_at hl 0 rfl) ?_
        refine va_get (D := gD G) (ci := 5) (v := .ref (h 5)) (C := "WordShapesModel") (T := TM) (N := 24) hx hb hg iw_M hown hK hP 0 rfl rfl 9 (by decide) (hg _ tk_692) (fun _ h9 => h9) rfl d_M_rings_41 ?_
        refine lv_aload_n hx hb d_M_rings_44 rfl (lv_at hl 0 rfl) ?_
        refine va_get (D := gD G) (ci := 5) (v := .int (nI sl)) (C := "WordShapesModel") (T := TM) (N := 24) hx hb hg iw_M hown hK hP 0 rfl rfl 16 (by decide) (hg _ tk_699) (fun _ h9 => h9) rfl d_M_rings_45 ?_
        refine yn_iald hx hb hK hP 5 0 rfl rfl (j := sl) (x := nI ((x1 ++ [(nI 0)]).length)) (vu_n _ _ _) (by omega) (by omega) d_M_rings_48 ?_
        refine lv_iconst (v := nI 1) hx hb d_M_rings_49 (by decide) ?_
        refine lv_isub hx hb d_M_rings_50 ?_
        refine y_eqi (y := nI x1.length) ((pk_sub (by simp only [List.length_append, List.length_singleton, List.length_cons, List.length_nil, List.length_set]; omega)).trans (congrArg nI (by simp only [List.length_append, List.length_singleton, List.length_cons, List.length_nil, List.length_set]; omega))) ?_
        refine lv_istore_n (lv' := [(3, .int (nI x1.length)), (0, .ref (h 0)), (1, .int (nI m))]) hx hb d_M_rings_51 rfl hl (by decide) rfl (fun ls hl => ?_)
        refine lv_aload_n hx hb d_M_rings_52 rfl (lv_at hl 1 rfl) ?_
        refine lv_bipush (v := nI 40) hx hb d_M_rings_53 (by decide) ?_
        refine y_callW (y_runV (As := [.int (nI 40)]) (rest := []) hx hb hml hown (c_M_must l G h dg mp ml th n t pl pn xy pt sz rs ou wr sl (rn blN t n q) fk fp v1 oa oc ok (x1 ++ [(nI 0)]) y1 40 (by omega) (by omega) (ht) (by omega)) (gV (n := 1) hg tk_849 tk_851 (gt_s 45 (by decide +kernel) (by decide +kernel)) tk_7 tk_852 (by decide +kernel) ⟨Nat.le_of_ble_eq_true rfl, Nat.le_of_ble_eq_true rfl⟩) (va_recv hK hP (ci := 5) (q0 := 0) rfl rfl) (y_preW hE hK hP hD hS hA) rfl rfl hl.1 rfl (lv_room (Nat.le_of_ble_eq_true rfl)) d_M_rings_55 ⟨Nat.le_of_ble_eq_true rfl, Nat.le_of_ble_eq_true rfl⟩) hD hS hA (fun _ _ _ _ _ _ hp => False.elim hp) (fun v9 w9 H locs hp hlw hP hD hS => ?_)
        rcases hp with ⟨hs_55, rfl, rfl⟩ | ⟨hs_55, rfl, rfl⟩
        · skip
          have hP : va_P (gD G) vwC (wMR G h dg mp ml th n t pl pn xy pt sz rs ou wr sl (rn blN t n (rn blN t n q) + 1) fk fp v1 oa oc ok (x1 ++ [(nI 0)]) y1) H := hP
          have hD : va_D A (wMR G h dg mp ml th n t pl pn xy pt sz rs ou wr sl (rn blN t n (rn blN t n q) + 1) fk fp v1 oa oc ok (x1 ++ [(nI 0)]) y1) := hD
          refine W.eq (g2 := F0 mm 58 ls [.int (nI 1)]) rfl ?_
          rw [rn_id] at hs_55 hP hD
          have hP : va_P (gD G) vwC (wMR G h dg mp ml th n t pl pn xy pt sz rs ou wr sl (rn blN t n q + 1) fk fp v1 oa oc ok (x1 ++ [(nI 0)]) y1) H := hP
          have hD : va_D A (wMR G h dg mp ml th n t pl pn xy pt sz rs ou wr sl (rn blN t n q + 1) fk fp v1 oa oc ok (x1 ++ [(nI 0)]) y1) := hD
          have h40 := hr_lt hs_55 (by decide)
          refine yn_if_eq (a := 1) (tgt := 68) hx hb d_M_rings_58 (by decide) (by omega) (fun c58 => ?_) (fun c58 => ?_)
          · skip
            exact absurd c58 (by decide)
          · skip
            refine lv_aload_n hx hb d_M_rings_61 rfl (lv_at hl 1 rfl) ?_
            refine y_callW (y_runV (As := []) (rest := []) hx hb hml hown (c_M_coordinates l G h dg mp ml th n t pl pn xy pt sz rs ou wr sl (rn blN t n q + 1) fk fp v1 oa oc ok (x1 ++ [(nI 0)]) y1  (by omega) (by omega) (ht) (by omega) (by omega) (by omega) (by simp only [List.length_append, List.length_singleton, List.length_cons, List.length_nil, List.length_set]; omega) (by omega) (by omega)) (gV (n := 0) hg tk_853 tk_855 (gt_s 46 (by decide +kernel) (by decide +kernel)) tk_7 tk_856 (by decide +kernel) ⟨Nat.le_of_ble_eq_true rfl, Nat.le_of_ble_eq_true rfl⟩) (va_recv hK hP (ci := 5) (q0 := 0) rfl rfl) (y_preW hE hK hP hD hS hA) rfl rfl hl.1 rfl (lv_room (Nat.le_of_ble_eq_true rfl)) d_M_rings_62 ⟨Nat.le_of_ble_eq_true rfl, Nat.le_of_ble_eq_true rfl⟩) hD hS hA (fun _ _ _ _ _ _ hp => False.elim hp) (fun v9 w9 H locs hp hlw hP hD hS => ?_)
            rcases hp with ⟨q_62, m9_62, ys9_62, va9_62, hs_62, rfl, rfl⟩ | ⟨a_62, b_62, q_62, va9_62, ys9_62, hs_62, rfl, rfl⟩
            · skip
              have hP : va_P (gD G) vwC (wMR G h dg mp ml th n t pl pn xy pt sz rs ou wr sl q_62 fk fp va9_62 oa oc ok (x1 ++ [(nI 0)]) ys9_62) H := hP
              have hD : va_D A (wMR G h dg mp ml th n t pl pn xy pt sz rs ou wr sl q_62 fk fp va9_62 oa oc ok (x1 ++ [(nI 0)]) ys9_62) := hD
              refine W.eq (g2 := F0 mm 65 ls [.int (nI m9_62)]) rfl ?_
              have b3 := cos_bd _ _ _ _ (show rn blN t n q + 1 ≤ n by omega) hy1 hs_62
              refine lv_goto (tgt := 69) hx hb d_M_rings_65 (by decide) ?_
              refine lv_istore (lv' := [(4, .int (nI m9_62)), (3, .int (nI x1.length)), (0, .ref (h 0)), (1, .int (nI m))]) hx hb d_M_rings_69 hl (by decide) rfl (fun ls hl => ?_)
              refine lv_iload hx hb d_M_rings_71 (lv_at hl 0 rfl) ?_
              refine yn_if_ge (a := m9_62) (tgt := 78) hx hb d_M_rings_73 (by decide) (by omega) (fun c73 => ?_) (fun c73 => ?_)
              · skip
                refine lv_aload_n hx hb d_M_rings_78 rfl (lv_at hl 2 rfl) ?_
                refine lv_iload_n hx hb d_M_rings_79 rfl (lv_at hl 1 rfl) ?_
                refine lv_iload hx hb d_M_rings_80 (lv_at hl 0 rfl) ?_
                refine y_callW (y_runV (As := [.int (nI x1.length), .int (nI m9_62)]) (rest := []) hx hb hml hown (c_M_close l G h dg mp ml th n t pl pn xy pt sz rs ou wr sl q_62 fk fp va9_62 oa oc ok (x1 ++ [(nI 0)]) ys9_62 x1.length (nI m9_62) (by omega) (by omega) (by omega) (by simp only [List.length_append, List.length_singleton, List.length_cons, List.length_nil, List.length_set]; omega) (by omega) (by simp only [List.length_append, List.length_singleton, List.length_cons, List.length_nil, List.length_set]; omega)) (gV (n := 2) hg tk_883 tk_885 (gt_s 52 (by decide +kernel) (by decide +kernel)) tk_7 tk_886 (by decide +kernel) ⟨Nat.le_of_ble_eq_true rfl, Nat.le_of_ble_eq_true rfl⟩) (va_recv hK hP (ci := 5) (q0 := 0) rfl rfl) (y_preW hE hK hP hD hS hA) rfl rfl hl.1 rfl (lv_room (Nat.le_of_ble_eq_true rfl)) d_M_rings_82 ⟨Nat.le_of_ble_eq_true rfl, Nat.le_of_ble_eq_true rfl⟩) hD hS hA (fun _ _ _ _ _ _ hp => False.elim hp) (fun v9 w9 H locs hp hlw hP hD hS => ?_)
                obtain ⟨rfl, rfl⟩ := hp
                have hP : va_P (gD G) vwC (wMR G h dg mp ml th n t pl pn xy pt sz rs ou wr sl q_62 fk fp va9_62 oa oc ok ((x1 ++ [(nI 0)]).set x1.length (nI m9_62)) ys9_62) H := hP
                have hD : va_D A (wMR G h dg mp ml th n t pl pn xy pt sz rs ou wr sl q_62 fk fp va9_62 oa oc ok ((x1 ++ [(nI 0)]).set x1.length (nI m9_62)) ys9_62) := hD
                refine W.eq (g2 := F0 mm 85 ls []) rfl ?_
                rw [set_last] at hP hD
                have hP : va_P (gD G) vwC (wMR G h dg mp ml th n t pl pn xy pt sz rs ou wr sl q_62 fk fp va9_62 oa oc ok (x1 ++ [nI m9_62]) ys9_62) H := hP
                have hD : va_D A (wMR G h dg mp ml th n t pl pn xy pt sz rs ou wr sl q_62 fk fp va9_62 oa oc ok (x1 ++ [nI m9_62]) ys9_62) := hD
                have hrg : rgM t n dg mp ml q x1 y1 = .inr (q_62, x1 ++ [nI m9_62], ys9_62) := by unfold rgM; rw [if_pos c19.1, if_pos hs_55, hs_62]
                refine lv_iinc (v := nI (m + 1)) (lv' := [(1, .int (nI (m + 1))), (4, .int (nI m9_62)), (3, .int (nI x1.length)), (0, .ref (h 0))]) hx hb d_M_rings_85 hl (k := 3) rfl (y_inc _) (by decide) rfl (fun ls hl => ?_)
                refine lv_aload_n hx hb d_M_rings_88 rfl (lv_at hl 3 rfl) ?_
                refine y_callW (y_runV (As := []) (rest := []) hx hb hml hown (c_M_goesOn l G h dg mp ml th n t pl pn xy pt sz rs ou wr sl q_62 fk fp va9_62 oa oc ok (x1 ++ [nI m9_62]) ys9_62  (by omega) (by omega) (ht)) (gV (n := 0) hg tk_879 tk_881 (gt_s 51 (by decide +kernel) (by decide +kernel)) tk_7 tk_882 (by decide +kernel) ⟨Nat.le_of_ble_eq_true rfl, Nat.le_of_ble_eq_true rfl⟩) (va_recv hK hP (ci := 5) (q0 := 0) rfl rfl) (y_preW hE hK hP hD hS hA) rfl rfl hl.1 rfl (lv_room (Nat.le_of_ble_eq_true rfl)) d_M_rings_89 ⟨Nat.le_of_ble_eq_true rfl, Nat.le_of_ble_eq_true rfl⟩) hD hS hA (fun _ _ _ _ _ _ hp => False.elim hp) (fun v9 w9 H locs hp hlw hP hD hS => ?_)
                rcases hp with ⟨hs_89, rfl, rfl⟩ | ⟨hs_89, rfl, rfl⟩ | ⟨hs_89, rfl, rfl⟩
                · skip
                  have hP : va_P (gD G) vwC (wMR G h dg mp ml th n t pl pn xy pt sz rs ou wr sl (rn blN t n q_62 + 1) fk fp va9_62 oa oc ok (x1 ++ [nI m9_62]) ys9_62) H := hP
                  have hD : va_D A (wMR G h dg mp ml th n t pl pn xy pt sz rs ou wr sl (rn blN t n q_62 + 1) fk fp va9_62 oa oc ok (x1 ++ [nI m9_62]) ys9_62) := hD
                  refine W.eq (g2 := F0 mm 92 ls [.int (nI 1)]) rfl ?_
                  have b4 := goM_bd b3.2.1 (go_44 hs_89)
                  refine lv_istore_n (lv' := [(2, .int (nI 1)), (1, .int (nI (m + 1))), (4, .int (nI m9_62)), (3, .int (nI x1.length)), (0, .ref (h 0))]) hx hb d_M_rings_92 rfl hl (by decide) rfl (fun ls hl => ?_)
                  refine lv_goto (tgt := 4) hx hb d_M_rings_93 (by decide) ?_
                  refine lv_iload_n hx hb d_M_rings_4 rfl (lv_at hl 0 rfl) ?_
                  refine lv_iconst (v := nI 1) hx hb d_M_rings_5 (by decide) ?_
                  refine yn_icmp_ne (a := 1) (b := 1) (tgt := 96) hx hb d_M_rings_6 (by decide) (by omega) (by omega) (fun c6 => ?_) (fun c6 => ?_)
                  · skip
                    exact absurd c6 (by decide)
                  · skip
                    exact ih9 F (rn blN t n q_62 + 1) (m + 1) va9_62 (x1 ++ [nI m9_62]) ys9_62 (by omega) (by omega) (by omega) (by omega) (by simp only [List.length_append, List.length_singleton, List.length_cons, List.length_nil, List.length_set]; omega) (by omega) (hS9.trans (by rw [ri_s, hrg]; dsimp only; rw [go_44 hs_89])) _ _ _ hP hD hS (lv_sub hl [4, 1] (rfl))
                · skip
                  have hP : va_P (gD G) vwC (wMR G h dg mp ml th n t pl pn xy pt sz rs ou wr sl (rn blN t n q_62 + 1) fk fp va9_62 oa oc ok (x1 ++ [nI m9_62]) ys9_62) H := hP
                  have hD : va_D A (wMR G h dg mp ml th n t pl pn xy pt sz rs ou wr sl (rn blN t n q_62 + 1) fk fp va9_62 oa oc ok (x1 ++ [nI m9_62]) ys9_62) := hD
                  refine W.eq (g2 := F0 mm 92 ls [.int (nI 0)]) rfl ?_
                  have b4 := goM_bd b3.2.1 (go_41 hs_89)
                  refine lv_istore_n (lv' := [(2, .int (nI 0)), (1, .int (nI (m + 1))), (4, .int (nI m9_62)), (3, .int (nI x1.length)), (0, .ref (h 0))]) hx hb d_M_rings_92 rfl hl (by decide) rfl (fun ls hl => ?_)
                  refine lv_goto (tgt := 4) hx hb d_M_rings_93 (by decide) ?_
                  refine lv_iload_n hx hb d_M_rings_4 rfl (lv_at hl 0 rfl) ?_
                  refine lv_iconst (v := nI 1) hx hb d_M_rings_5 (by decide) ?_
                  refine yn_icmp_ne (a := 0) (b := 1) (tgt := 96) hx hb d_M_rings_6 (by decide) (by omega) (by omega) (fun c6 => ?_) (fun c6 => ?_)
                  · skip
                    refine lv_iload_n hx hb d_M_rings_96 rfl (lv_at hl 0 rfl) ?_
                    refine yn_if_ge (a := 0) (tgt := 104) hx hb d_M_rings_97 (by decide) (by omega) (fun c97 => ?_) (fun c97 => ?_)
                    · skip
                      refine lv_iload_n hx hb d_M_rings_104 rfl (lv_at hl 1 rfl) ?_
                      exact yr_i (ws := wMR G h dg mp ml th n t pl pn xy pt sz rs ou wr sl (rn blN t n q_62 + 1) fk fp va9_62 oa oc ok (x1 ++ [nI m9_62]) ys9_62) hx hb hrt hlocks (by first | exact Or.inl ⟨_, _, _, _, _, hS9.trans (by rw [ri_s, hrg]; dsimp only; rw [go_41 hs_89]), rfl, rfl⟩ | exact Or.inr ⟨_, _, _, _, _, _, hS9.trans (by rw [ri_s, hrg]; dsimp only; rw [go_xx hs_89]), rfl, rfl⟩) rfl hK hP hD hS d_M_rings_105
                    · skip
                      exact absurd c97 (by decide)
                  · skip
                    exact absurd c6 (by decide)
                · skip
                  have hP : va_P (gD G) vwC (wMR G h dg mp ml th n t pl pn xy pt sz rs ou wr sl (rn blN t n q_62) (uxp (hr t n (rn blN t n q_62))) (rn blN t n q_62) va9_62 oa oc ok (x1 ++ [nI m9_62]) ys9_62) H := hP
                  have hD : va_D A (wMR G h dg mp ml th n t pl pn xy pt sz rs ou wr sl (rn blN t n q_62) (uxp (hr t n (rn blN t n q_62))) (rn blN t n q_62) va9_62 oa oc ok (x1 ++ [nI m9_62]) ys9_62) := hD
                  refine W.eq (g2 := F0 mm 92 ls [.int (-1)]) rfl ?_
                  refine lv_istore_n (lv' := [(2, .int (-1)), (1, .int (nI (m + 1))), (4, .int (nI m9_62)), (3, .int (nI x1.length)), (0, .ref (h 0))]) hx hb d_M_rings_92 rfl hl (by decide) rfl (fun ls hl => ?_)
                  refine lv_goto (tgt := 4) hx hb d_M_rings_93 (by decide) ?_
                  refine lv_iload_n hx hb d_M_rings_4 rfl (lv_at hl 0 rfl) ?_
                  refine lv_iconst (v := nI 1) hx hb d_M_rings_5 (by decide) ?_
                  refine lv_icmp_ne (tgt := 96) hx hb d_M_rings_6 (by decide) (fun c6 => ?_) (fun c6 => ?_)
                  · skip
                    refine lv_iload_n hx hb d_M_rings_96 rfl (lv_at hl 0 rfl) ?_
                    refine lv_if_ge (tgt := 104) hx hb d_M_rings_97 (by decide) (fun c97 => ?_) (fun c97 => ?_)
                    · skip
                      exact absurd c97 (by decide)
                    · skip
                      refine lv_iconst (v := (-1)) hx hb d_M_rings_100 (by decide) ?_
                      refine lv_goto (tgt := 105) hx hb d_M_rings_101 (by decide) ?_
                      exact yr_i (ws := wMR G h dg mp ml th n t pl pn xy pt sz rs ou wr sl (rn blN t n q_62) (uxp (hr t n (rn blN t n q_62))) (rn blN t n q_62) va9_62 oa oc ok (x1 ++ [nI m9_62]) ys9_62) hx hb hrt hlocks (by first | exact Or.inl ⟨_, _, _, _, _, hS9.trans (by rw [ri_s, hrg]; dsimp only; rw [go_41 hs_89]), rfl, rfl⟩ | exact Or.inr ⟨_, _, _, _, _, _, hS9.trans (by rw [ri_s, hrg]; dsimp only; rw [go_xx hs_89]), rfl, rfl⟩) rfl hK hP hD hS d_M_rings_105
                  · skip
                    exact absurd c6 (by decide)
              · skip
                exact c73.elim
            · skip
              have hP : va_P (gD G) vwC (wMR G h dg mp ml th n t pl pn xy pt sz rs ou wr sl q_62 a_62 b_62 va9_62 oa oc ok (x1 ++ [(nI 0)]) ys9_62) H := hP
              have hD : va_D A (wMR G h dg mp ml th n t pl pn xy pt sz rs ou wr sl q_62 a_62 b_62 va9_62 oa oc ok (x1 ++ [(nI 0)]) ys9_62) := hD
              refine W.eq (g2 := F0 mm 65 ls [.int (-1)]) rfl ?_
              refine lv_goto (tgt := 69) hx hb d_M_rings_65 (by decide) ?_
              refine lv_istore (lv' := [(4, .int (-1)), (3, .int (nI x1.length)), (0, .ref (h 0)), (1, .int (nI m))]) hx hb d_M_rings_69 hl (by decide) rfl (fun ls hl => ?_)
              refine lv_iload hx hb d_M_rings_71 (lv_at hl 0 rfl) ?_
              refine lv_if_ge (tgt := 78) hx hb d_M_rings_73 (by decide) (fun c73 => ?_) (fun c73 => ?_)
              · skip
                exact absurd c73 (by decide)
              · skip
                refine lv_iconst (v := (-1)) hx hb d_M_rings_76 (by decide) ?_
                exact yr_i (ws := wMR G h dg mp ml th n t pl pn xy pt sz rs ou wr sl q_62 a_62 b_62 va9_62 oa oc ok (x1 ++ [(nI 0)]) ys9_62) hx hb hrt hlocks (by first | exact Or.inr ⟨_, _, _, _, _, _, hS9.trans (by rw [ri_s]; unfold rgM; rw [if_pos c19.1, if_pos hs_55, hs_62]), rfl, rfl⟩ | exact Or.inr ⟨_, _, _, _, _, _, hS9.trans (by rw [ri_s]; unfold rgM; rw [if_pos c19.1, if_neg hs_55]), rfl, rfl⟩) rfl hK hP hD hS d_M_rings_77
        · skip
          have hP : va_P (gD G) vwC (wMR G h dg mp ml th n t pl pn xy pt sz rs ou wr sl (rn blN t n (rn blN t n q)) (uxp (hr t n (rn blN t n (rn blN t n q)))) (rn blN t n (rn blN t n q)) v1 oa oc ok (x1 ++ [(nI 0)]) y1) H := hP
          have hD : va_D A (wMR G h dg mp ml th n t pl pn xy pt sz rs ou wr sl (rn blN t n (rn blN t n q)) (uxp (hr t n (rn blN t n (rn blN t n q)))) (rn blN t n (rn blN t n q)) v1 oa oc ok (x1 ++ [(nI 0)]) y1) := hD
          refine W.eq (g2 := F0 mm 58 ls [.int (nI 0)]) rfl ?_
          rw [rn_id] at hs_55 hP hD
          have hP : va_P (gD G) vwC (wMR G h dg mp ml th n t pl pn xy pt sz rs ou wr sl (rn blN t n q) (uxp (hr t n (rn blN t n q))) (rn blN t n q) v1 oa oc ok (x1 ++ [(nI 0)]) y1) H := hP
          have hD : va_D A (wMR G h dg mp ml th n t pl pn xy pt sz rs ou wr sl (rn blN t n q) (uxp (hr t n (rn blN t n q))) (rn blN t n q) v1 oa oc ok (x1 ++ [(nI 0)]) y1) := hD
          refine yn_if_eq (a := 0) (tgt := 68) hx hb d_M_rings_58 (by decide) (by omega) (fun c58 => ?_) (fun c58 => ?_)
          · skip
            refine lv_iconst (v := (-1)) hx hb d_M_rings_68 (by decide) ?_
            refine lv_istore (lv' := [(4, .int (-1)), (3, .int (nI x1.length)), (0, .ref (h 0)), (1, .int (nI m))]) hx hb d_M_rings_69 hl (by decide) rfl (fun ls hl => ?_)
            refine lv_iload hx hb d_M_rings_71 (lv_at hl 0 rfl) ?_
            refine lv_if_ge (tgt := 78) hx hb d_M_rings_73 (by decide) (fun c73 => ?_) (fun c73 => ?_)
            · skip
              exact absurd c73 (by decide)
            · skip
              refine lv_iconst (v := (-1)) hx hb d_M_rings_76 (by decide) ?_
              exact yr_i (ws := wMR G h dg mp ml th n t pl pn xy pt sz rs ou wr sl (rn blN t n q) (uxp (hr t n (rn blN t n q))) (rn blN t n q) v1 oa oc ok (x1 ++ [(nI 0)]) y1) hx hb hrt hlocks (by first | exact Or.inr ⟨_, _, _, _, _, _, hS9.trans (by rw [ri_s]; unfold rgM; rw [if_pos c19.1, if_pos hs_55, hs_62]), rfl, rfl⟩ | exact Or.inr ⟨_, _, _, _, _, _, hS9.trans (by rw [ri_s]; unfold rgM; rw [if_pos c19.1, if_neg hs_55]), rfl, rfl⟩) rfl hK hP hD hS d_M_rings_77
          · skip
            exact absurd c58 (by decide)
      · skip
        refine lv_aload_n hx hb d_M_rings_22 rfl (lv_at hl 0 rfl) ?_
        refine lv_bipush (v := nI 7) hx hb d_M_rings_23 (by decide) ?_
        refine lv_aload_n hx hb d_M_rings_25 rfl (lv_at hl 0 rfl) ?_
        refine va_get (D := gD G) (ci := 5) (v := .int (nI (rn blN t n q))) (C := "WordShapesModel") (T := TM) (N := 24) hx hb hg iw_M hown hK hP 0 rfl rfl 17 (by decide) (hg _ tk_700) (fun _ h9 => h9) rfl d_M_rings_26 ?_
        refine y_callW (y_runV (As := [.int (nI 7), .int (nI (rn blN t n q))]) (rest := []) hx hb hml hown (c_M_wrong l G h dg mp ml th n t pl pn xy pt sz rs ou wr sl (rn blN t n q) fk fp v1 oa oc ok x1 y1 7 (rn blN t n q) ) (gV (n := 2) hg tk_817 tk_819 (gt_s 37 (by decide +kernel) (by decide +kernel)) tk_7 tk_820 (by decide +kernel) ⟨Nat.le_of_ble_eq_true rfl, Nat.le_of_ble_eq_true rfl⟩) (va_recv hK hP (ci := 5) (q0 := 0) rfl rfl) (y_preW hE hK hP hD hS hA) rfl rfl hl.1 rfl (lv_room (Nat.le_of_ble_eq_true rfl)) d_M_rings_29 ⟨Nat.le_of_ble_eq_true rfl, Nat.le_of_ble_eq_true rfl⟩) hD hS hA (fun _ _ _ _ _ _ hp => False.elim hp) (fun v9 w9 H locs hp hlw hP hD hS => ?_)
        obtain ⟨rfl, rfl⟩ := hp
        have hP : va_P (gD G) vwC (wMR G h dg mp ml th n t pl pn xy pt sz rs ou wr sl (rn blN t n q) 7 (rn blN t n q) v1 oa oc ok x1 y1) H := hP
        have hD : va_D A (wMR G h dg mp ml th n t pl pn xy pt sz rs ou wr sl (rn blN t n q) 7 (rn blN t n q) v1 oa oc ok x1 y1) := hD
        refine W.eq (g2 := F0 mm 32 ls [.int (nI 0)]) rfl ?_
        refine lv_pop hx hb d_M_rings_32 rfl ?_
        refine lv_iconst (v := (-1)) hx hb d_M_rings_33 (by decide) ?_
        exact yr_i (ws := wMR G h dg mp ml th n t pl pn xy pt sz rs ou wr sl (rn blN t n q) 7 (rn blN t n q) v1 oa oc ok x1 y1) hx hb hrt hlocks (Or.inr ⟨_, _, _, _, _, _, hS9.trans (by rw [ri_s]; unfold rgM; rw [if_neg (fun y => c19 ⟨y, by omega⟩)]), rfl, rfl⟩) rfl hK hP hD hS d_M_rings_34
  refine lv_iconst (v := nI 0) hx hb d_M_rings_0 (by decide) ?_
  refine lv_istore_n (lv' := [(1, .int (nI 0)), (0, .ref (h 0))]) hx hb d_M_rings_1 rfl hl (by decide) rfl (fun ls hl => ?_)
  refine lv_iconst (v := nI 1) hx hb d_M_rings_2 (by decide) ?_
  refine lv_istore_n (lv' := [(2, .int (nI 1)), (1, .int (nI 0)), (0, .ref (h 0))]) hx hb d_M_rings_3 rfl hl (by decide) rfl (fun ls hl => ?_)
  refine lv_iload_n hx hb d_M_rings_4 rfl (lv_at hl 0 rfl) ?_
  refine lv_iconst (v := nI 1) hx hb d_M_rings_5 (by decide) ?_
  refine yn_icmp_ne (a := 1) (b := 1) (tgt := 96) hx hb d_M_rings_6 (by decide) (by omega) (by omega) (fun c6 => ?_) (fun c6 => ?_)
  · skip
    exact absurd c6 (by decide)
  · skip
    exact J9 _ (n + 1) p 0 va xs ys (Nat.lt_succ_self _) (by omega) (by omega) (by omega) (by omega) (by omega) (rfl) _ _ _ hP hD hS (lv_sub hl [2, 1] (rfl))
set_option maxHeartbeats 4000000 in
set_option maxRecDepth 100000 in
theorem c_M_simple (l : Launch) (G : gl) (h : Nat → Nat) (dg : Nat) (mp : Nat) (ml : Nat) (th : Nat) (n : Nat) (t : Nat → Nat) (pl : Nat → Int32) (pn : Nat → Nat) (xy : Nat → Int32) (pt : Nat → Nat) (sz : Nat) (rs : Nat → Nat) (ou : Nat → Nat) (wr : Nat) (sl : Nat) (p : Nat) (fk : Nat) (fp : Nat) (va : Int32) (oa : Nat → Int32) (oc : Nat → Int32) (ok : Nat → Int32) (xs : List Int32) (ys : List (Int32 × Int32)) (K : Nat) (hn : n ≤ 65536) (hp : p ≤ n) (ht : ∀ i, t i < 256) (hml : ml ≤ 4096) (hmp : mp ≤ 4096) (hsl : sl < 4) (hxs : xs.length ≤ ml) (hys : ys.length ≤ mp) (hdg : dg ≤ 3) (hK1 : 1 ≤ K) (hK3 : K ≤ 3) : YC l G y_M_simple k_M_simple 2 (Option.some FieldType.int) 8 181 [.ref (h 0), .int (nI K)] (wMR G h dg mp ml th n t pl pn xy pt sz rs ou wr sl p fk fp va oa oc ok xs ys) (fun v w => (∃ q m9 xs9 ys9 va9, (siM t n dg mp ml K p xs ys = .inr (q, m9, xs9, ys9)) ∧ v = some (.int (nI m9)) ∧ w = wMR G h dg mp ml th n t pl pn xy pt sz rs ou wr sl q fk fp va9 oa oc ok xs9 ys9) ∨ (∃ a b q va9 xs9 ys9, (siM t n dg mp ml K p xs ys = .inl (a, b)) ∧ v = some (.int (-1)) ∧ w = wMR G h dg mp ml th n t pl pn xy pt sz rs ou wr sl q a b va9 oa oc ok xs9 ys9)) (fun _ _ => False) := by
  refine yc_of (by decide) ?_
  intro pg ev sx mm bl mt cd A C0 hP hD
  obtain ⟨hx, hb, hrt, hml, hown, hg, hlocks, hxt, hE, hK, hA, hmn⟩ := C0
  have hS : va_S A sx.heap sx.heap [] := va_S.rf
  have hl := lv_entry ([.ref (h 0), .int (nI K)]) (n := 2) (Nat.le_of_ble_eq_true rfl)
  rw [lg_entry_eq]
  generalize (lg_sl ([.ref (h 0), .int (nI K)]) ++ List.replicate (2 - (lg_sl ([.ref (h 0), .int (nI K)])).length) Slot.unset).toArray = ls at hl ⊢
  have hl : lv_has ls 2 [(0, .ref (h 0)), (1, .int (nI K))] := hl
  obtain ⟨H, hH⟩ : ∃ H, H = sx.heap := ⟨_, rfl⟩
  rw [← hH] at hP
  have hS : va_S A sx.heap H [] := by rw [hH]; exact hS
  suffices h9 : W pg l ev (yR 8 181) sx mm _ bl mt cd H [] 0 0 (yMQ bl G A _ _ _ _ sx) (F0 mm 0 ls []) by rw [hH] at h9; exact h9
  obtain ⟨locs, hlo⟩ : ∃ locs : List Loc, locs = [] := ⟨_, rfl⟩
  rw [← hlo] at hS ⊢
  refine lv_iload_n hx hb d_M_simple_0 rfl (lv_at hl 1 rfl) ?_
  refine lv_iconst (v := nI 3) hx hb d_M_simple_1 (by decide) ?_
  refine yn_icmp_ne (a := K) (b := 3) (tgt := 10) hx hb d_M_simple_2 (by decide) (by omega) (by omega) (fun c2 => ?_) (fun c2 => ?_)
  · skip
    refine lv_iload_n hx hb d_M_simple_10 rfl (lv_at hl 1 rfl) ?_
    refine lv_iconst (v := nI 2) hx hb d_M_simple_11 (by decide) ?_
    refine yn_icmp_ne (a := K) (b := 2) (tgt := 20) hx hb d_M_simple_12 (by decide) (by omega) (by omega) (fun c12 => ?_) (fun c12 => ?_)
    · skip
      refine lv_aload_n hx hb d_M_simple_20 rfl (lv_at hl 0 rfl) ?_
      refine y_callW (y_runV (As := []) (rest := []) hx hb hml hown (c_M_coordinate l G h dg mp ml th n t pl pn xy pt sz rs ou wr sl p fk fp va oa oc ok xs ys  (by omega) (by omega) (ht) (by omega) (by omega) (by omega) (by omega) (by omega) (by omega)) (gV (n := 0) hg tk_857 tk_859 (gt_s 47 (by decide +kernel) (by decide +kernel)) tk_7 tk_860 (by decide +kernel) ⟨Nat.le_of_ble_eq_true rfl, Nat.le_of_ble_eq_true rfl⟩) (va_recv hK hP (ci := 5) (q0 := 0) rfl rfl) (y_preW hE hK hP hD hS hA) rfl rfl hl.1 rfl (lv_room (Nat.le_of_ble_eq_true rfl)) d_M_simple_21 ⟨Nat.le_of_ble_eq_true rfl, Nat.le_of_ble_eq_true rfl⟩) hD hS hA (fun _ _ _ _ _ _ hp => False.elim hp) (fun v9 w9 H locs hp hlw hP hD hS => ?_)
      rcases hp with ⟨q_21, ys9_21, va9_21, hs_21, rfl, rfl⟩ | ⟨a_21, b_21, q_21, va9_21, hs_21, rfl, rfl⟩
      · skip
        have hP : va_P (gD G) vwC (wMR G h dg mp ml th n t pl pn xy pt sz rs ou wr sl q_21 fk fp va9_21 oa oc ok xs ys9_21) H := hP
        have hD : va_D A (wMR G h dg mp ml th n t pl pn xy pt sz rs ou wr sl q_21 fk fp va9_21 oa oc ok xs ys9_21) := hD
        refine W.eq (g2 := F0 mm 24 ls [.int (nI 1)]) rfl ?_
        have b1 := cd_bd hp hs_21
        refine yn_if_eq (a := 1) (tgt := 40) hx hb d_M_simple_24 (by decide) (by omega) (fun c24 => ?_) (fun c24 => ?_)
        · skip
          exact absurd c24 (by decide)
        · skip
          refine lv_aload_n hx hb d_M_simple_27 rfl (lv_at hl 0 rfl) ?_
          refine lv_bipush (v := nI 41) hx hb d_M_simple_28 (by decide) ?_
          refine y_callW (y_runV (As := [.int (nI 41)]) (rest := []) hx hb hml hown (c_M_must l G h dg mp ml th n t pl pn xy pt sz rs ou wr sl q_21 fk fp va9_21 oa oc ok xs ys9_21 41 (by omega) (by omega) (ht) (by omega)) (gV (n := 1) hg tk_849 tk_851 (gt_s 45 (by decide +kernel) (by decide +kernel)) tk_7 tk_852 (by decide +kernel) ⟨Nat.le_of_ble_eq_true rfl, Nat.le_of_ble_eq_true rfl⟩) (va_recv hK hP (ci := 5) (q0 := 0) rfl rfl) (y_preW hE hK hP hD hS hA) rfl rfl hl.1 rfl (lv_room (Nat.le_of_ble_eq_true rfl)) d_M_simple_30 ⟨Nat.le_of_ble_eq_true rfl, Nat.le_of_ble_eq_true rfl⟩) hD hS hA (fun _ _ _ _ _ _ hp => False.elim hp) (fun v9 w9 H locs hp hlw hP hD hS => ?_)
          rcases hp with ⟨hs_30, rfl, rfl⟩ | ⟨hs_30, rfl, rfl⟩
          · skip
            have hP : va_P (gD G) vwC (wMR G h dg mp ml th n t pl pn xy pt sz rs ou wr sl (rn blN t n q_21 + 1) fk fp va9_21 oa oc ok xs ys9_21) H := hP
            have hD : va_D A (wMR G h dg mp ml th n t pl pn xy pt sz rs ou wr sl (rn blN t n q_21 + 1) fk fp va9_21 oa oc ok xs ys9_21) := hD
            refine W.eq (g2 := F0 mm 33 ls [.int (nI 1)]) rfl ?_
            refine yn_if_eq (a := 1) (tgt := 40) hx hb d_M_simple_33 (by decide) (by omega) (fun c33 => ?_) (fun c33 => ?_)
            · skip
              exact absurd c33 (by decide)
            · skip
              refine lv_iconst (v := nI 1) hx hb d_M_simple_36 (by decide) ?_
              refine lv_goto (tgt := 41) hx hb d_M_simple_37 (by decide) ?_
              exact yr_i (ws := wMR G h dg mp ml th n t pl pn xy pt sz rs ou wr sl (rn blN t n q_21 + 1) fk fp va9_21 oa oc ok xs ys9_21) hx hb hrt hlocks (by first | exact Or.inl ⟨_, _, _, _, _, by unfold siM; rw [if_neg c2, if_neg c12]; rw [hs_21]; dsimp only; rw [if_pos hs_30], rfl, rfl⟩ | exact Or.inr ⟨_, _, _, _, _, _, by unfold siM; rw [if_neg c2, if_neg c12]; rw [hs_21]; dsimp only; rw [if_neg hs_30], rfl, rfl⟩ | exact Or.inr ⟨_, _, _, _, _, _, by unfold siM; rw [if_neg c2, if_neg c12]; rw [hs_21], rfl, rfl⟩) rfl hK hP hD hS d_M_simple_41
          · skip
            have hP : va_P (gD G) vwC (wMR G h dg mp ml th n t pl pn xy pt sz rs ou wr sl (rn blN t n q_21) (uxp (hr t n (rn blN t n q_21))) (rn blN t n q_21) va9_21 oa oc ok xs ys9_21) H := hP
            have hD : va_D A (wMR G h dg mp ml th n t pl pn xy pt sz rs ou wr sl (rn blN t n q_21) (uxp (hr t n (rn blN t n q_21))) (rn blN t n q_21) va9_21 oa oc ok xs ys9_21) := hD
            refine W.eq (g2 := F0 mm 33 ls [.int (nI 0)]) rfl ?_
            refine yn_if_eq (a := 0) (tgt := 40) hx hb d_M_simple_33 (by decide) (by omega) (fun c33 => ?_) (fun c33 => ?_)
            · skip
              refine lv_iconst (v := (-1)) hx hb d_M_simple_40 (by decide) ?_
              exact yr_i (ws := wMR G h dg mp ml th n t pl pn xy pt sz rs ou wr sl (rn blN t n q_21) (uxp (hr t n (rn blN t n q_21))) (rn blN t n q_21) va9_21 oa oc ok xs ys9_21) hx hb hrt hlocks (by first | exact Or.inl ⟨_, _, _, _, _, by unfold siM; rw [if_neg c2, if_neg c12]; rw [hs_21]; dsimp only; rw [if_pos hs_30], rfl, rfl⟩ | exact Or.inr ⟨_, _, _, _, _, _, by unfold siM; rw [if_neg c2, if_neg c12]; rw [hs_21]; dsimp only; rw [if_neg hs_30], rfl, rfl⟩ | exact Or.inr ⟨_, _, _, _, _, _, by unfold siM; rw [if_neg c2, if_neg c12]; rw [hs_21], rfl, rfl⟩) rfl hK hP hD hS d_M_simple_41
            · skip
              exact absurd c33 (by decide)
      · skip
        have hP : va_P (gD G) vwC (wMR G h dg mp ml th n t pl pn xy pt sz rs ou wr sl q_21 a_21 b_21 va9_21 oa oc ok xs ys) H := hP
        have hD : va_D A (wMR G h dg mp ml th n t pl pn xy pt sz rs ou wr sl q_21 a_21 b_21 va9_21 oa oc ok xs ys) := hD
        refine W.eq (g2 := F0 mm 24 ls [.int (nI 0)]) rfl ?_
        refine yn_if_eq (a := 0) (tgt := 40) hx hb d_M_simple_24 (by decide) (by omega) (fun c24 => ?_) (fun c24 => ?_)
        · skip
          refine lv_iconst (v := (-1)) hx hb d_M_simple_40 (by decide) ?_
          exact yr_i (ws := wMR G h dg mp ml th n t pl pn xy pt sz rs ou wr sl q_21 a_21 b_21 va9_21 oa oc ok xs ys) hx hb hrt hlocks (by first | exact Or.inl ⟨_, _, _, _, _, by unfold siM; rw [if_neg c2, if_neg c12]; rw [hs_21]; dsimp only; rw [if_pos hs_30], rfl, rfl⟩ | exact Or.inr ⟨_, _, _, _, _, _, by unfold siM; rw [if_neg c2, if_neg c12]; rw [hs_21]; dsimp only; rw [if_neg hs_30], rfl, rfl⟩ | exact Or.inr ⟨_, _, _, _, _, _, by unfold siM; rw [if_neg c2, if_neg c12]; rw [hs_21], rfl, rfl⟩) rfl hK hP hD hS d_M_simple_41
        · skip
          exact absurd c24 (by decide)
    · skip
      refine lv_aload_n hx hb d_M_simple_15 rfl (lv_at hl 0 rfl) ?_
      refine y_callW (y_runV (As := []) (rest := []) hx hb hml hown (c_M_coordinates l G h dg mp ml th n t pl pn xy pt sz rs ou wr sl p fk fp va oa oc ok xs ys  (by omega) (by omega) (ht) (by omega) (by omega) (by omega) (by omega) (by omega) (by omega)) (gV (n := 0) hg tk_853 tk_855 (gt_s 46 (by decide +kernel) (by decide +kernel)) tk_7 tk_856 (by decide +kernel) ⟨Nat.le_of_ble_eq_true rfl, Nat.le_of_ble_eq_true rfl⟩) (va_recv hK hP (ci := 5) (q0 := 0) rfl rfl) (y_preW hE hK hP hD hS hA) rfl rfl hl.1 rfl (lv_room (Nat.le_of_ble_eq_true rfl)) d_M_simple_16 ⟨Nat.le_of_ble_eq_true rfl, Nat.le_of_ble_eq_true rfl⟩) hD hS hA (fun _ _ _ _ _ _ hp => False.elim hp) (fun v9 w9 H locs hp hlw hP hD hS => ?_)
      rcases hp with ⟨q_16, m9_16, ys9_16, va9_16, hs_16, rfl, rfl⟩ | ⟨a_16, b_16, q_16, va9_16, ys9_16, hs_16, rfl, rfl⟩
      · skip
        have hP : va_P (gD G) vwC (wMR G h dg mp ml th n t pl pn xy pt sz rs ou wr sl q_16 fk fp va9_16 oa oc ok xs ys9_16) H := hP
        have hD : va_D A (wMR G h dg mp ml th n t pl pn xy pt sz rs ou wr sl q_16 fk fp va9_16 oa oc ok xs ys9_16) := hD
        refine W.eq (g2 := F0 mm 19 ls [.int (nI m9_16)]) rfl ?_
        exact yr_i (ws := wMR G h dg mp ml th n t pl pn xy pt sz rs ou wr sl q_16 fk fp va9_16 oa oc ok xs ys9_16) hx hb hrt hlocks (by first | exact Or.inl ⟨_, _, _, _, _, by unfold siM; rw [if_neg c2, if_pos c12]; rw [hs_16], rfl, rfl⟩ | exact Or.inr ⟨_, _, _, _, _, _, by unfold siM; rw [if_neg c2, if_pos c12]; rw [hs_16], rfl, rfl⟩) rfl hK hP hD hS d_M_simple_19
      · skip
        have hP : va_P (gD G) vwC (wMR G h dg mp ml th n t pl pn xy pt sz rs ou wr sl q_16 a_16 b_16 va9_16 oa oc ok xs ys9_16) H := hP
        have hD : va_D A (wMR G h dg mp ml th n t pl pn xy pt sz rs ou wr sl q_16 a_16 b_16 va9_16 oa oc ok xs ys9_16) := hD
        refine W.eq (g2 := F0 mm 19 ls [.int (-1)]) rfl ?_
        exact yr_i (ws := wMR G h dg mp ml th n t pl pn xy pt sz rs ou wr sl q_16 a_16 b_16 va9_16 oa oc ok xs ys9_16) hx hb hrt hlocks (by first | exact Or.inl ⟨_, _, _, _, _, by unfold siM; rw [if_neg c2, if_pos c12]; rw [hs_16], rfl, rfl⟩ | exact Or.inr ⟨_, _, _, _, _, _, by unfold siM; rw [if_neg c2, if_pos c12]; rw [hs_16], rfl, rfl⟩) rfl hK hP hD hS d_M_simple_19
  · skip
    refine lv_aload_n hx hb d_M_simple_5 rfl (lv_at hl 0 rfl) ?_
    refine y_callW (y_runV (As := []) (rest := []) hx hb hml hown (c_M_rings l G h dg mp ml th n t pl pn xy pt sz rs ou wr sl p fk fp va oa oc ok xs ys  (by omega) (by omega) (ht) (by omega) (by omega) (by omega) (by omega) (by omega) (by omega)) (gV (n := 0) hg tk_845 tk_847 (gt_s 44 (by decide +kernel) (by decide +kernel)) tk_7 tk_848 (by decide +kernel) ⟨Nat.le_of_ble_eq_true rfl, Nat.le_of_ble_eq_true rfl⟩) (va_recv hK hP (ci := 5) (q0 := 0) rfl rfl) (y_preW hE hK hP hD hS hA) rfl rfl hl.1 rfl (lv_room (Nat.le_of_ble_eq_true rfl)) d_M_simple_6 ⟨Nat.le_of_ble_eq_true rfl, Nat.le_of_ble_eq_true rfl⟩) hD hS hA (fun _ _ _ _ _ _ hp => False.elim hp) (fun v9 w9 H locs hp hlw hP hD hS => ?_)
    rcases hp with ⟨q_6, m9_6, xs9_6, ys9_6, va9_6, hs_6, rfl, rfl⟩ | ⟨a_6, b_6, q_6, va9_6, xs9_6, ys9_6, hs_6, rfl, rfl⟩
    · skip
      have hP : va_P (gD G) vwC (wMR G h dg mp ml th n t pl pn xy pt sz rs ou wr sl q_6 fk fp va9_6 oa oc ok xs9_6 ys9_6) H := hP
      have hD : va_D A (wMR G h dg mp ml th n t pl pn xy pt sz rs ou wr sl q_6 fk fp va9_6 oa oc ok xs9_6 ys9_6) := hD
      refine W.eq (g2 := F0 mm 9 ls [.int (nI m9_6)]) rfl ?_
      exact yr_i (ws := wMR G h dg mp ml th n t pl pn xy pt sz rs ou wr sl q_6 fk fp va9_6 oa oc ok xs9_6 ys9_6) hx hb hrt hlocks (by first | exact Or.inl ⟨_, _, _, _, _, by unfold siM; rw [if_pos c2]; exact hs_6, rfl, rfl⟩ | exact Or.inr ⟨_, _, _, _, _, _, by unfold siM; rw [if_pos c2]; exact hs_6, rfl, rfl⟩) rfl hK hP hD hS d_M_simple_9
    · skip
      have hP : va_P (gD G) vwC (wMR G h dg mp ml th n t pl pn xy pt sz rs ou wr sl q_6 a_6 b_6 va9_6 oa oc ok xs9_6 ys9_6) H := hP
      have hD : va_D A (wMR G h dg mp ml th n t pl pn xy pt sz rs ou wr sl q_6 a_6 b_6 va9_6 oa oc ok xs9_6 ys9_6) := hD
      refine W.eq (g2 := F0 mm 9 ls [.int (-1)]) rfl ?_
      exact yr_i (ws := wMR G h dg mp ml th n t pl pn xy pt sz rs ou wr sl q_6 a_6 b_6 va9_6 oa oc ok xs9_6 ys9_6) hx hb hrt hlocks (by first | exact Or.inl ⟨_, _, _, _, _, by unfold siM; rw [if_pos c2]; exact hs_6, rfl, rfl⟩ | exact Or.inr ⟨_, _, _, _, _, _, by unfold siM; rw [if_pos c2]; exact hs_6, rfl, rfl⟩) rfl hK hP hD hS d_M_simple_9
set_option maxHeartbeats 4000000 in
set_option maxRecDepth 100000 in
theorem c_M_looked (l : Launch) (G : gl) (h : Nat → Nat) (dg : Nat) (mp : Nat) (ml : Nat) (th : Nat) (n : Nat) (t : Nat → Nat) (pl : Nat → Int32) (pn : Nat → Nat) (xy : Nat → Int32) (pt : Nat → Nat) (sz : Nat) (rs : Nat → Nat) (ou : Nat → Nat) (wr : Nat) (sl : Nat) (p : Nat) (fk : Nat) (fp : Nat) (va : Int32) (oa : Nat → Int32) (oc : Nat → Int32) (ok : Nat → Int32) (xs : List Int32) (ys : List (Int32 × Int32)) (bb : Bool) (hn : n ≤ 65536) (hp : p ≤ n) (ht : ∀ i, t i < 256) : YC l G y_M_looked k_M_looked 4 (Option.some FieldType.int) 4 82 [.ref (h 0), .int (bz bb)] (wMR G h dg mp ml th n t pl pn xy pt sz rs ou wr sl p fk fp va oa oc ok xs ys) (fun v w => (∃ q, (lkM t n bb p = .inr (0, q)) ∧ v = some (.int (nI 0)) ∧ w = wMR G h dg mp ml th n t pl pn xy pt sz rs ou wr sl q fk fp va oa oc ok xs ys) ∨ (∃ q, (lkM t n bb p = .inr (1, q)) ∧ v = some (.int (nI 1)) ∧ w = wMR G h dg mp ml th n t pl pn xy pt sz rs ou wr sl q fk fp va oa oc ok xs ys) ∨ (∃ q, (lkM t n bb p = .inr (2, q)) ∧ v = some (.int (nI 2)) ∧ w = wMR G h dg mp ml th n t pl pn xy pt sz rs ou wr sl q fk fp va oa oc ok xs ys) ∨ (∃ a b q, (lkM t n bb p = .inl (a, b)) ∧ v = some (.int (-1)) ∧ w = wMR G h dg mp ml th n t pl pn xy pt sz rs ou wr sl q a b va oa oc ok xs ys)) (fun _ _ => False) := by
  refine yc_of (by decide) ?_
  intro pg ev sx mm bl mt cd A C0 hP hD
  obtain ⟨hx, hb, hrt, hml, hown, hg, hlocks, hxt, hE, hK, hA, hmn⟩ := C0
  have hS : va_S A sx.heap sx.heap [] := va_S.rf
  have hl := lv_entry ([.ref (h 0), .int (bz bb)]) (n := 4) (Nat.le_of_ble_eq_true rfl)
  rw [lg_entry_eq]
  generalize (lg_sl ([.ref (h 0), .int (bz bb)]) ++ List.replicate (4 - (lg_sl ([.ref (h 0), .int (bz bb)])).length) Slot.unset).toArray = ls at hl ⊢
  have hl : lv_has ls 4 [(0, .ref (h 0)), (1, .int (bz bb))] := hl
  have b1 := rn_ge (P := blN) (t := t) (n := n) (p := p) hp
  have b2 := rn_le (P := blN) (t := t) (n := n) (p := p) hp
  obtain ⟨H, hH⟩ : ∃ H, H = sx.heap := ⟨_, rfl⟩
  rw [← hH] at hP
  have hS : va_S A sx.heap H [] := by rw [hH]; exact hS
  suffices h9 : W pg l ev (yR 4 82) sx mm _ bl mt cd H [] 0 0 (yMQ bl G A _ _ _ _ sx) (F0 mm 0 ls []) by rw [hH] at h9; exact h9
  obtain ⟨locs, hlo⟩ : ∃ locs : List Loc, locs = [] := ⟨_, rfl⟩
  rw [← hlo] at hS ⊢
  refine lv_aload_n hx hb d_M_looked_0 rfl (lv_at hl 0 rfl) ?_
  refine y_callW (y_runV (As := []) (rest := []) hx hb hml hown (c_M_pass l G h dg mp ml th n t pl pn xy pt sz rs ou wr sl p fk fp va oa oc ok xs ys  (by omega) (by omega) (ht)) (gV (n := 0) hg tk_790 tk_792 (gt_s 34 (by decide +kernel) (by decide +kernel)) tk_7 tk_793 (by decide +kernel) ⟨Nat.le_of_ble_eq_true rfl, Nat.le_of_ble_eq_true rfl⟩) (va_recv hK hP (ci := 5) (q0 := 0) rfl rfl) (y_preW hE hK hP hD hS hA) rfl rfl hl.1 rfl (lv_room (Nat.le_of_ble_eq_true rfl)) d_M_looked_1 ⟨Nat.le_of_ble_eq_true rfl, Nat.le_of_ble_eq_true rfl⟩) hD hS hA (fun _ _ _ _ _ _ hp => False.elim hp) (fun v9 w9 H locs hp hlw hP hD hS => ?_)
  obtain ⟨rfl, rfl⟩ := hp
  have hP : va_P (gD G) vwC (wMR G h dg mp ml th n t pl pn xy pt sz rs ou wr sl (rn blN t n p) fk fp va oa oc ok xs ys) H := hP
  have hD : va_D A (wMR G h dg mp ml th n t pl pn xy pt sz rs ou wr sl (rn blN t n p) fk fp va oa oc ok xs ys) := hD
  refine W.eq (g2 := F0 mm 4 ls []) rfl ?_
  refine lv_aload_n hx hb d_M_looked_4 rfl (lv_at hl 0 rfl) ?_
  refine y_callW (y_runV (As := []) (rest := []) hx hb hml hown (c_M_here l G h dg mp ml th n t pl pn xy pt sz rs ou wr sl (rn blN t n p) fk fp va oa oc ok xs ys  (by omega) (by omega) (ht)) (gV (n := 0) hg tk_797 tk_799 (gt_s 35 (by decide +kernel) (by decide +kernel)) tk_7 tk_800 (by decide +kernel) ⟨Nat.le_of_ble_eq_true rfl, Nat.le_of_ble_eq_true rfl⟩) (va_recv hK hP (ci := 5) (q0 := 0) rfl rfl) (y_preW hE hK hP hD hS hA) rfl rfl hl.1 rfl (lv_room (Nat.le_of_ble_eq_true rfl)) d_M_looked_5 ⟨Nat.le_of_ble_eq_true rfl, Nat.le_of_ble_eq_true rfl⟩) hD hS hA (fun _ _ _ _ _ _ hp => False.elim hp) (fun v9 w9 H locs hp hlw hP hD hS => ?_)
  obtain ⟨rfl, rfl⟩ := hp
  have hP : va_P (gD G) vwC (wMR G h dg mp ml th n t pl pn xy pt sz rs ou wr sl (rn blN t n p) fk fp va oa oc ok xs ys) H := hP
  have hD : va_D A (wMR G h dg mp ml th n t pl pn xy pt sz rs ou wr sl (rn blN t n p) fk fp va oa oc ok xs ys) := hD
  refine W.eq (g2 := F0 mm 8 ls [.int (toI (hr t n (rn blN t n p)))]) rfl ?_
  refine lv_istore_n (lv' := [(2, .int (toI (hr t n (rn blN t n p)))), (0, .ref (h 0)), (1, .int (bz bb))]) hx hb d_M_looked_8 rfl hl (by decide) rfl (fun ls hl => ?_)
  refine lv_iload_n hx hb d_M_looked_9 rfl (lv_at hl 0 rfl) ?_
  refine lv_bipush (v := nI 40) hx hb d_M_looked_10 (by decide) ?_
  refine yh_icmp_ne (a := hr t n (rn blN t n p)) (b := 40) (tgt := 27) hx hb d_M_looked_12 (by decide) (hr_le ht _ _) (by omega) (fun c12 => ?_) (fun c12 => ?_)
  · skip
    refine lv_iload_n hx hb d_M_looked_27 rfl (lv_at hl 2 rfl) ?_
    refine yy_if_eq (P := bb) (tgt := 53) hx hb d_M_looked_28 (by decide) (fun c28 => ?_) (fun c28 => ?_)
    · skip
      refine lv_iload_n hx hb d_M_looked_53 rfl (lv_at hl 0 rfl) ?_
      refine y_call (y_runS (As := [.int (toI (hr t n (rn blN t n p)))]) (rest := []) hx hb hml hown (c_M_isLetter l G  (toI (hr t n (rn blN t n p))) ) (gS (n := 1) hg tk_801 tk_802 tk_7 tk_803 (by decide +kernel) ⟨Nat.le_of_ble_eq_true rfl, Nat.le_of_ble_eq_true rfl⟩) (y_pre hE hK hP hD hS hA [] rfl rfl) rfl rfl hl.1 rfl (lv_room (Nat.le_of_ble_eq_true rfl)) d_M_looked_54 ⟨Nat.le_of_ble_eq_true rfl, Nat.le_of_ble_eq_true rfl⟩) hP hD hS hA [] rfl (fun _ _ _ _ _ _ hp => False.elim hp) (fun v9 w9 H locs hp hlw hP hD hS => ?_)
      obtain ⟨rfl, rfl⟩ := hp
      have hP : va_P (gD G) vwC (wMR G h dg mp ml th n t pl pn xy pt sz rs ou wr sl (rn blN t n p) fk fp va oa oc ok xs ys) H := hP
      have hD : va_D A (wMR G h dg mp ml th n t pl pn xy pt sz rs ou wr sl (rn blN t n p) fk fp va oa oc ok xs ys) := hD
      refine W.eq (g2 := F0 mm 57 ls [.int (bz (isLe (toI (hr t n (rn blN t n p)))))]) rfl ?_
      refine yy_if_ne (P := isLe (toI (hr t n (rn blN t n p)))) (tgt := 67) hx hb d_M_looked_57 (by decide) (fun c57 => ?_) (fun c57 => ?_)
      · skip
        rw [(ch_h _ (Nat.lt_succ_of_le (hr_le ht _ _))).2.1] at c57
        refine lv_aload_n hx hb d_M_looked_67 rfl (lv_at hl 1 rfl) ?_
        refine va_get (D := gD G) (ci := 5) (v := .int (nI (rn blN t n p))) (C := "WordShapesModel") (T := TM) (N := 24) hx hb hg iw_M hown hK hP 0 rfl rfl 17 (by decide) (hg _ tk_700) (fun _ h9 => h9) rfl d_M_looked_68 ?_
        refine lv_istore_n (lv' := [(3, .int (nI (rn blN t n p))), (2, .int (toI (hr t n (rn blN t n p)))), (0, .ref (h 0)), (1, .int (bz bb))]) hx hb d_M_looked_71 rfl hl (by decide) rfl (fun ls hl => ?_)
        refine lv_aload_n hx hb d_M_looked_72 rfl (lv_at hl 2 rfl) ?_
        refine y_callW (y_runV (As := []) (rest := []) hx hb hml hown (c_M_word l G h dg mp ml th n t pl pn xy pt sz rs ou wr sl (rn blN t n p) fk fp va oa oc ok xs ys  (by omega) (by omega) (ht)) (gV (n := 0) hg tk_821 tk_823 (gt_s 38 (by decide +kernel) (by decide +kernel)) tk_7 tk_824 (by decide +kernel) ⟨Nat.le_of_ble_eq_true rfl, Nat.le_of_ble_eq_true rfl⟩) (va_recv hK hP (ci := 5) (q0 := 0) rfl rfl) (y_preW hE hK hP hD hS hA) rfl rfl hl.1 rfl (lv_room (Nat.le_of_ble_eq_true rfl)) d_M_looked_73 ⟨Nat.le_of_ble_eq_true rfl, Nat.le_of_ble_eq_true rfl⟩) hD hS hA (fun _ _ _ _ _ _ hp => False.elim hp) (fun v9 w9 H locs hp hlw hP hD hS => ?_)
        obtain ⟨rfl, rfl⟩ := hp
        have hP : va_P (gD G) vwC (wMR G h dg mp ml th n t pl pn xy pt sz rs ou wr sl (rn leN t n (rn blN t n p)) fk fp va oa oc ok xs ys) H := hP
        have hD : va_D A (wMR G h dg mp ml th n t pl pn xy pt sz rs ou wr sl (rn leN t n (rn blN t n p)) fk fp va oa oc ok xs ys) := hD
        refine W.eq (g2 := F0 mm 76 ls [.int (nI (lsM t (rn blN t n p) (rn leN t n (rn blN t n p)) 8))]) rfl ?_
        have hls := lsM_le t (rn blN t n p) (rn leN t n (rn blN t n p)) 8
        refine lv_bipush (v := nI 8) hx hb d_M_looked_76 (by decide) ?_
        refine yn_icmp_ne (a := lsM t (rn blN t n p) (rn leN t n (rn blN t n p)) 8) (b := 8) (tgt := 83) hx hb d_M_looked_78 (by decide) (by omega) (by omega) (fun c78 => ?_) (fun c78 => ?_)
        · skip
          refine lv_aload_n hx hb d_M_looked_83 rfl (lv_at hl 2 rfl) ?_
          refine lv_iconst (v := nI 2) hx hb d_M_looked_84 (by decide) ?_
          refine lv_iload_n hx hb d_M_looked_85 rfl (lv_at hl 0 rfl) ?_
          refine y_callW (y_runV (As := [.int (nI 2), .int (nI (rn blN t n p))]) (rest := []) hx hb hml hown (c_M_wrong l G h dg mp ml th n t pl pn xy pt sz rs ou wr sl (rn leN t n (rn blN t n p)) fk fp va oa oc ok xs ys 2 (rn blN t n p) ) (gV (n := 2) hg tk_817 tk_819 (gt_s 37 (by decide +kernel) (by decide +kernel)) tk_7 tk_820 (by decide +kernel) ⟨Nat.le_of_ble_eq_true rfl, Nat.le_of_ble_eq_true rfl⟩) (va_recv hK hP (ci := 5) (q0 := 0) rfl rfl) (y_preW hE hK hP hD hS hA) rfl rfl hl.1 rfl (lv_room (Nat.le_of_ble_eq_true rfl)) d_M_looked_86 ⟨Nat.le_of_ble_eq_true rfl, Nat.le_of_ble_eq_true rfl⟩) hD hS hA (fun _ _ _ _ _ _ hp => False.elim hp) (fun v9 w9 H locs hp hlw hP hD hS => ?_)
          obtain ⟨rfl, rfl⟩ := hp
          have hP : va_P (gD G) vwC (wMR G h dg mp ml th n t pl pn xy pt sz rs ou wr sl (rn leN t n (rn blN t n p)) 2 (rn blN t n p) va oa oc ok xs ys) H := hP
          have hD : va_D A (wMR G h dg mp ml th n t pl pn xy pt sz rs ou wr sl (rn leN t n (rn blN t n p)) 2 (rn blN t n p) va oa oc ok xs ys) := hD
          refine W.eq (g2 := F0 mm 89 ls [.int (nI 0)]) rfl ?_
          refine lv_pop hx hb d_M_looked_89 rfl ?_
          refine lv_iconst (v := (-1)) hx hb d_M_looked_90 (by decide) ?_
          exact yr_i (ws := wMR G h dg mp ml th n t pl pn xy pt sz rs ou wr sl (rn leN t n (rn blN t n p)) 2 (rn blN t n p) va oa oc ok xs ys) hx hb hrt hlocks (Or.inr (Or.inr (Or.inr ⟨_, _, _, by unfold lkM; rw [if_neg c12, if_neg (fun y => by first | exact absurd y.1 (by rw [c28]; decide) | (have y2 := y.2; rw [ch_nu _ (Nat.lt_succ_of_le (hr_le ht _ _)), ← (ch_g _ (Nat.lt_succ_of_le (hr_le ht _ _))), ← (ch_h _ (Nat.lt_succ_of_le (hr_le ht _ _))).2.2.1, c35, c42, decide_eq_false c48] at y2; exact absurd y2 (by decide))), if_neg (by rw [c57]; decide), if_neg c78], rfl, rfl⟩))) rfl hK hP hD hS d_M_looked_91
        · skip
          refine lv_iconst (v := nI 0) hx hb d_M_looked_81 (by decide) ?_
          exact yr_i (ws := wMR G h dg mp ml th n t pl pn xy pt sz rs ou wr sl (rn leN t n (rn blN t n p)) fk fp va oa oc ok xs ys) hx hb hrt hlocks (Or.inl ⟨_, by unfold lkM; rw [if_neg c12, if_neg (fun y => by first | exact absurd y.1 (by rw [c28]; decide) | (have y2 := y.2; rw [ch_nu _ (Nat.lt_succ_of_le (hr_le ht _ _)), ← (ch_g _ (Nat.lt_succ_of_le (hr_le ht _ _))), ← (ch_h _ (Nat.lt_succ_of_le (hr_le ht _ _))).2.2.1, c35, c42, decide_eq_false c48] at y2; exact absurd y2 (by decide))), if_neg (by rw [c57]; decide), if_pos c78], rfl, rfl⟩) rfl hK hP hD hS d_M_looked_82
      · skip
        rw [(ch_h _ (Nat.lt_succ_of_le (hr_le ht _ _))).2.1] at c57
        refine lv_aload_n hx hb d_M_looked_60 rfl (lv_at hl 1 rfl) ?_
        refine y_callW (y_runV (As := []) (rest := []) hx hb hml hown (c_M_unexpected l G h dg mp ml th n t pl pn xy pt sz rs ou wr sl (rn blN t n p) fk fp va oa oc ok xs ys  (by omega) (by omega) (ht)) (gV (n := 0) hg tk_804 tk_806 (gt_s 36 (by decide +kernel) (by decide +kernel)) tk_7 tk_807 (by decide +kernel) ⟨Nat.le_of_ble_eq_true rfl, Nat.le_of_ble_eq_true rfl⟩) (va_recv hK hP (ci := 5) (q0 := 0) rfl rfl) (y_preW hE hK hP hD hS hA) rfl rfl hl.1 rfl (lv_room (Nat.le_of_ble_eq_true rfl)) d_M_looked_61 ⟨Nat.le_of_ble_eq_true rfl, Nat.le_of_ble_eq_true rfl⟩) hD hS hA (fun _ _ _ _ _ _ hp => False.elim hp) (fun v9 w9 H locs hp hlw hP hD hS => ?_)
        obtain ⟨rfl, rfl⟩ := hp
        have hP : va_P (gD G) vwC (wMR G h dg mp ml th n t pl pn xy pt sz rs ou wr sl (rn blN t n p) (uxp (hr t n (rn blN t n p))) (rn blN t n p) va oa oc ok xs ys) H := hP
        have hD : va_D A (wMR G h dg mp ml th n t pl pn xy pt sz rs ou wr sl (rn blN t n p) (uxp (hr t n (rn blN t n p))) (rn blN t n p) va oa oc ok xs ys) := hD
        refine W.eq (g2 := F0 mm 64 ls [.int (nI 0)]) rfl ?_
        refine lv_pop hx hb d_M_looked_64 rfl ?_
        refine lv_iconst (v := (-1)) hx hb d_M_looked_65 (by decide) ?_
        exact yr_i (ws := wMR G h dg mp ml th n t pl pn xy pt sz rs ou wr sl (rn blN t n p) (uxp (hr t n (rn blN t n p))) (rn blN t n p) va oa oc ok xs ys) hx hb hrt hlocks (Or.inr (Or.inr (Or.inr ⟨_, _, _, by unfold lkM; rw [if_neg c12, if_neg (fun y => by first | exact absurd y.1 (by rw [c28]; decide) | (have y2 := y.2; rw [ch_nu _ (Nat.lt_succ_of_le (hr_le ht _ _)), ← (ch_g _ (Nat.lt_succ_of_le (hr_le ht _ _))), ← (ch_h _ (Nat.lt_succ_of_le (hr_le ht _ _))).2.2.1, c35, c42, decide_eq_false c48] at y2; exact absurd y2 (by decide))), if_pos c57], rfl, rfl⟩))) rfl hK hP hD hS d_M_looked_66
    · skip
      refine lv_iload_n hx hb d_M_looked_31 rfl (lv_at hl 0 rfl) ?_
      refine y_call (y_runS (As := [.int (toI (hr t n (rn blN t n p)))]) (rest := []) hx hb hml hown (c_M_isSign l G  (toI (hr t n (rn blN t n p))) ) (gS (n := 1) hg tk_814 tk_815 tk_7 tk_816 (by decide +kernel) ⟨Nat.le_of_ble_eq_true rfl, Nat.le_of_ble_eq_true rfl⟩) (y_pre hE hK hP hD hS hA [] rfl rfl) rfl rfl hl.1 rfl (lv_room (Nat.le_of_ble_eq_true rfl)) d_M_looked_32 ⟨Nat.le_of_ble_eq_true rfl, Nat.le_of_ble_eq_true rfl⟩) hP hD hS hA [] rfl (fun _ _ _ _ _ _ hp => False.elim hp) (fun v9 w9 H locs hp hlw hP hD hS => ?_)
      obtain ⟨rfl, rfl⟩ := hp
      have hP : va_P (gD G) vwC (wMR G h dg mp ml th n t pl pn xy pt sz rs ou wr sl (rn blN t n p) fk fp va oa oc ok xs ys) H := hP
      have hD : va_D A (wMR G h dg mp ml th n t pl pn xy pt sz rs ou wr sl (rn blN t n p) fk fp va oa oc ok xs ys) := hD
      refine W.eq (g2 := F0 mm 35 ls [.int (bz (isSg (toI (hr t n (rn blN t n p)))))]) rfl ?_
      refine yy_if_ne (P := isSg (toI (hr t n (rn blN t n p)))) (tgt := 51) hx hb d_M_looked_35 (by decide) (fun c35 => ?_) (fun c35 => ?_)
      · skip
        refine lv_iconst (v := nI 2) hx hb d_M_looked_51 (by decide) ?_
        exact yr_i (ws := wMR G h dg mp ml th n t pl pn xy pt sz rs ou wr sl (rn blN t n p) fk fp va oa oc ok xs ys) hx hb hrt hlocks (Or.inr (Or.inr (Or.inl ⟨_, by unfold lkM; rw [if_neg c12, if_pos ⟨c28, (by rw [ch_nu _ (Nat.lt_succ_of_le (hr_le ht _ _))]; first | (rw [← (ch_g _ (Nat.lt_succ_of_le (hr_le ht _ _))), c35, Bool.true_or, Bool.true_or]) | (rw [← (ch_h _ (Nat.lt_succ_of_le (hr_le ht _ _))).2.2.1, c42, Bool.or_true, Bool.true_or]) | (rw [decide_eq_true c48, Bool.or_true]))⟩], rfl, rfl⟩))) rfl hK hP hD hS d_M_looked_52
      · skip
        refine lv_iload_n hx hb d_M_looked_38 rfl (lv_at hl 0 rfl) ?_
        refine y_call (y_runS (As := [.int (toI (hr t n (rn blN t n p)))]) (rest := []) hx hb hml hown (c_M_isDigit l G  (toI (hr t n (rn blN t n p))) ) (gS (n := 1) hg tk_811 tk_812 tk_7 tk_813 (by decide +kernel) ⟨Nat.le_of_ble_eq_true rfl, Nat.le_of_ble_eq_true rfl⟩) (y_pre hE hK hP hD hS hA [] rfl rfl) rfl rfl hl.1 rfl (lv_room (Nat.le_of_ble_eq_true rfl)) d_M_looked_39 ⟨Nat.le_of_ble_eq_true rfl, Nat.le_of_ble_eq_true rfl⟩) hP hD hS hA [] rfl (fun _ _ _ _ _ _ hp => False.elim hp) (fun v9 w9 H locs hp hlw hP hD hS => ?_)
        obtain ⟨rfl, rfl⟩ := hp
        have hP : va_P (gD G) vwC (wMR G h dg mp ml th n t pl pn xy pt sz rs ou wr sl (rn blN t n p) fk fp va oa oc ok xs ys) H := hP
        have hD : va_D A (wMR G h dg mp ml th n t pl pn xy pt sz rs ou wr sl (rn blN t n p) fk fp va oa oc ok xs ys) := hD
        refine W.eq (g2 := F0 mm 42 ls [.int (bz (isDi (toI (hr t n (rn blN t n p)))))]) rfl ?_
        refine yy_if_ne (P := isDi (toI (hr t n (rn blN t n p)))) (tgt := 51) hx hb d_M_looked_42 (by decide) (fun c42 => ?_) (fun c42 => ?_)
        · skip
          refine lv_iconst (v := nI 2) hx hb d_M_looked_51 (by decide) ?_
          exact yr_i (ws := wMR G h dg mp ml th n t pl pn xy pt sz rs ou wr sl (rn blN t n p) fk fp va oa oc ok xs ys) hx hb hrt hlocks (Or.inr (Or.inr (Or.inl ⟨_, by unfold lkM; rw [if_neg c12, if_pos ⟨c28, (by rw [ch_nu _ (Nat.lt_succ_of_le (hr_le ht _ _))]; first | (rw [← (ch_g _ (Nat.lt_succ_of_le (hr_le ht _ _))), c35, Bool.true_or, Bool.true_or]) | (rw [← (ch_h _ (Nat.lt_succ_of_le (hr_le ht _ _))).2.2.1, c42, Bool.or_true, Bool.true_or]) | (rw [decide_eq_true c48, Bool.or_true]))⟩], rfl, rfl⟩))) rfl hK hP hD hS d_M_looked_52
        · skip
          refine lv_iload_n hx hb d_M_looked_45 rfl (lv_at hl 0 rfl) ?_
          refine lv_bipush (v := nI 46) hx hb d_M_looked_46 (by decide) ?_
          refine yh_icmp_ne (a := hr t n (rn blN t n p)) (b := 46) (tgt := 53) hx hb d_M_looked_48 (by decide) (hr_le ht _ _) (by omega) (fun c48 => ?_) (fun c48 => ?_)
          · skip
            refine lv_iload_n hx hb d_M_looked_53 rfl (lv_at hl 0 rfl) ?_
            refine y_call (y_runS (As := [.int (toI (hr t n (rn blN t n p)))]) (rest := []) hx hb hml hown (c_M_isLetter l G  (toI (hr t n (rn blN t n p))) ) (gS (n := 1) hg tk_801 tk_802 tk_7 tk_803 (by decide +kernel) ⟨Nat.le_of_ble_eq_true rfl, Nat.le_of_ble_eq_true rfl⟩) (y_pre hE hK hP hD hS hA [] rfl rfl) rfl rfl hl.1 rfl (lv_room (Nat.le_of_ble_eq_true rfl)) d_M_looked_54 ⟨Nat.le_of_ble_eq_true rfl, Nat.le_of_ble_eq_true rfl⟩) hP hD hS hA [] rfl (fun _ _ _ _ _ _ hp => False.elim hp) (fun v9 w9 H locs hp hlw hP hD hS => ?_)
            obtain ⟨rfl, rfl⟩ := hp
            have hP : va_P (gD G) vwC (wMR G h dg mp ml th n t pl pn xy pt sz rs ou wr sl (rn blN t n p) fk fp va oa oc ok xs ys) H := hP
            have hD : va_D A (wMR G h dg mp ml th n t pl pn xy pt sz rs ou wr sl (rn blN t n p) fk fp va oa oc ok xs ys) := hD
            refine W.eq (g2 := F0 mm 57 ls [.int (bz (isLe (toI (hr t n (rn blN t n p)))))]) rfl ?_
            refine yy_if_ne (P := isLe (toI (hr t n (rn blN t n p)))) (tgt := 67) hx hb d_M_looked_57 (by decide) (fun c57 => ?_) (fun c57 => ?_)
            · skip
              rw [(ch_h _ (Nat.lt_succ_of_le (hr_le ht _ _))).2.1] at c57
              refine lv_aload_n hx hb d_M_looked_67 rfl (lv_at hl 1 rfl) ?_
              refine va_get (D := gD G) (ci := 5) (v := .int (nI (rn blN t n p))) (C := "WordShapesModel") (T := TM) (N := 24) hx hb hg iw_M hown hK hP 0 rfl rfl 17 (by decide) (hg _ tk_700) (fun _ h9 => h9) rfl d_M_looked_68 ?_
              refine lv_istore_n (lv' := [(3, .int (nI (rn blN t n p))), (2, .int (toI (hr t n (rn blN t n p)))), (0, .ref (h 0)), (1, .int (bz bb))]) hx hb d_M_looked_71 rfl hl (by decide) rfl (fun ls hl => ?_)
              refine lv_aload_n hx hb d_M_looked_72 rfl (lv_at hl 2 rfl) ?_
              refine y_callW (y_runV (As := []) (rest := []) hx hb hml hown (c_M_word l G h dg mp ml th n t pl pn xy pt sz rs ou wr sl (rn blN t n p) fk fp va oa oc ok xs ys  (by omega) (by omega) (ht)) (gV (n := 0) hg tk_821 tk_823 (gt_s 38 (by decide +kernel) (by decide +kernel)) tk_7 tk_824 (by decide +kernel) ⟨Nat.le_of_ble_eq_true rfl, Nat.le_of_ble_eq_true rfl⟩) (va_recv hK hP (ci := 5) (q0 := 0) rfl rfl) (y_preW hE hK hP hD hS hA) rfl rfl hl.1 rfl (lv_room (Nat.le_of_ble_eq_true rfl)) d_M_looked_73 ⟨Nat.le_of_ble_eq_true rfl, Nat.le_of_ble_eq_true rfl⟩) hD hS hA (fun _ _ _ _ _ _ hp => False.elim hp) (fun v9 w9 H locs hp hlw hP hD hS => ?_)
              obtain ⟨rfl, rfl⟩ := hp
              have hP : va_P (gD G) vwC (wMR G h dg mp ml th n t pl pn xy pt sz rs ou wr sl (rn leN t n (rn blN t n p)) fk fp va oa oc ok xs ys) H := hP
              have hD : va_D A (wMR G h dg mp ml th n t pl pn xy pt sz rs ou wr sl (rn leN t n (rn blN t n p)) fk fp va oa oc ok xs ys) := hD
              refine W.eq (g2 := F0 mm 76 ls [.int (nI (lsM t (rn blN t n p) (rn leN t n (rn blN t n p)) 8))]) rfl ?_
              have hls := lsM_le t (rn blN t n p) (rn leN t n (rn blN t n p)) 8
              refine lv_bipush (v := nI 8) hx hb d_M_looked_76 (by decide) ?_
              refine yn_icmp_ne (a := lsM t (rn blN t n p) (rn leN t n (rn blN t n p)) 8) (b := 8) (tgt := 83) hx hb d_M_looked_78 (by decide) (by omega) (by omega) (fun c78 => ?_) (fun c78 => ?_)
              · skip
                refine lv_aload_n hx hb d_M_looked_83 rfl (lv_at hl 2 rfl) ?_
                refine lv_iconst (v := nI 2) hx hb d_M_looked_84 (by decide) ?_
                refine lv_iload_n hx hb d_M_looked_85 rfl (lv_at hl 0 rfl) ?_
                refine y_callW (y_runV (As := [.int (nI 2), .int (nI (rn blN t n p))]) (rest := []) hx hb hml hown (c_M_wrong l G h dg mp ml th n t pl pn xy pt sz rs ou wr sl (rn leN t n (rn blN t n p)) fk fp va oa oc ok xs ys 2 (rn blN t n p) ) (gV (n := 2) hg tk_817 tk_819 (gt_s 37 (by decide +kernel) (by decide +kernel)) tk_7 tk_820 (by decide +kernel) ⟨Nat.le_of_ble_eq_true rfl, Nat.le_of_ble_eq_true rfl⟩) (va_recv hK hP (ci := 5) (q0 := 0) rfl rfl) (y_preW hE hK hP hD hS hA) rfl rfl hl.1 rfl (lv_room (Nat.le_of_ble_eq_true rfl)) d_M_looked_86 ⟨Nat.le_of_ble_eq_true rfl, Nat.le_of_ble_eq_true rfl⟩) hD hS hA (fun _ _ _ _ _ _ hp => False.elim hp) (fun v9 w9 H locs hp hlw hP hD hS => ?_)
                obtain ⟨rfl, rfl⟩ := hp
                have hP : va_P (gD G) vwC (wMR G h dg mp ml th n t pl pn xy pt sz rs ou wr sl (rn leN t n (rn blN t n p)) 2 (rn blN t n p) va oa oc ok xs ys) H := hP
                have hD : va_D A (wMR G h dg mp ml th n t pl pn xy pt sz rs ou wr sl (rn leN t n (rn blN t n p)) 2 (rn blN t n p) va oa oc ok xs ys) := hD
                refine W.eq (g2 := F0 mm 89 ls [.int (nI 0)]) rfl ?_
                refine lv_pop hx hb d_M_looked_89 rfl ?_
                refine lv_iconst (v := (-1)) hx hb d_M_looked_90 (by decide) ?_
                exact yr_i (ws := wMR G h dg mp ml th n t pl pn xy pt sz rs ou wr sl (rn leN t n (rn blN t n p)) 2 (rn blN t n p) va oa oc ok xs ys) hx hb hrt hlocks (Or.inr (Or.inr (Or.inr ⟨_, _, _, by unfold lkM; rw [if_neg c12, if_neg (fun y => by first | exact absurd y.1 (by rw [c28]; decide) | (have y2 := y.2; rw [ch_nu _ (Nat.lt_succ_of_le (hr_le ht _ _)), ← (ch_g _ (Nat.lt_succ_of_le (hr_le ht _ _))), ← (ch_h _ (Nat.lt_succ_of_le (hr_le ht _ _))).2.2.1, c35, c42, decide_eq_false c48] at y2; exact absurd y2 (by decide))), if_neg (by rw [c57]; decide), if_neg c78], rfl, rfl⟩))) rfl hK hP hD hS d_M_looked_91
              · skip
                refine lv_iconst (v := nI 0) hx hb d_M_looked_81 (by decide) ?_
                exact yr_i (ws := wMR G h dg mp ml th n t pl pn xy pt sz rs ou wr sl (rn leN t n (rn blN t n p)) fk fp va oa oc ok xs ys) hx hb hrt hlocks (Or.inl ⟨_, by unfold lkM; rw [if_neg c12, if_neg (fun y => by first | exact absurd y.1 (by rw [c28]; decide) | (have y2 := y.2; rw [ch_nu _ (Nat.lt_succ_of_le (hr_le ht _ _)), ← (ch_g _ (Nat.lt_succ_of_le (hr_le ht _ _))), ← (ch_h _ (Nat.lt_succ_of_le (hr_le ht _ _))).2.2.1, c35, c42, decide_eq_false c48] at y2; exact absurd y2 (by decide))), if_neg (by rw [c57]; decide), if_pos c78], rfl, rfl⟩) rfl hK hP hD hS d_M_looked_82
            · skip
              rw [(ch_h _ (Nat.lt_succ_of_le (hr_le ht _ _))).2.1] at c57
              refine lv_aload_n hx hb d_M_looked_60 rfl (lv_at hl 1 rfl) ?_
              refine y_callW (y_runV (As := []) (rest := []) hx hb hml hown (c_M_unexpected l G h dg mp ml th n t pl pn xy pt sz rs ou wr sl (rn blN t n p) fk fp va oa oc ok xs ys  (by omega) (by omega) (ht)) (gV (n := 0) hg tk_804 tk_806 (gt_s 36 (by decide +kernel) (by decide +kernel)) tk_7 tk_807 (by decide +kernel) ⟨Nat.le_of_ble_eq_true rfl, Nat.le_of_ble_eq_true rfl⟩) (va_recv hK hP (ci := 5) (q0 := 0) rfl rfl) (y_preW hE hK hP hD hS hA) rfl rfl hl.1 rfl (lv_room (Nat.le_of_ble_eq_true rfl)) d_M_looked_61 ⟨Nat.le_of_ble_eq_true rfl, Nat.le_of_ble_eq_true rfl⟩) hD hS hA (fun _ _ _ _ _ _ hp => False.elim hp) (fun v9 w9 H locs hp hlw hP hD hS => ?_)
              obtain ⟨rfl, rfl⟩ := hp
              have hP : va_P (gD G) vwC (wMR G h dg mp ml th n t pl pn xy pt sz rs ou wr sl (rn blN t n p) (uxp (hr t n (rn blN t n p))) (rn blN t n p) va oa oc ok xs ys) H := hP
              have hD : va_D A (wMR G h dg mp ml th n t pl pn xy pt sz rs ou wr sl (rn blN t n p) (uxp (hr t n (rn blN t n p))) (rn blN t n p) va oa oc ok xs ys) := hD
              refine W.eq (g2 := F0 mm 64 ls [.int (nI 0)]) rfl ?_
              refine lv_pop hx hb d_M_looked_64 rfl ?_
              refine lv_iconst (v := (-1)) hx hb d_M_looked_65 (by decide) ?_
              exact yr_i (ws := wMR G h dg mp ml th n t pl pn xy pt sz rs ou wr sl (rn blN t n p) (uxp (hr t n (rn blN t n p))) (rn blN t n p) va oa oc ok xs ys) hx hb hrt hlocks (Or.inr (Or.inr (Or.inr ⟨_, _, _, by unfold lkM; rw [if_neg c12, if_neg (fun y => by first | exact absurd y.1 (by rw [c28]; decide) | (have y2 := y.2; rw [ch_nu _ (Nat.lt_succ_of_le (hr_le ht _ _)), ← (ch_g _ (Nat.lt_succ_of_le (hr_le ht _ _))), ← (ch_h _ (Nat.lt_succ_of_le (hr_le ht _ _))).2.2.1, c35, c42, decide_eq_false c48] at y2; exact absurd y2 (by decide))), if_pos c57], rfl, rfl⟩))) rfl hK hP hD hS d_M_looked_66
          · skip
            refine lv_iconst (v := nI 2) hx hb d_M_looked_51 (by decide) ?_
            exact yr_i (ws := wMR G h dg mp ml th n t pl pn xy pt sz rs ou wr sl (rn blN t n p) fk fp va oa oc ok xs ys) hx hb hrt hlocks (Or.inr (Or.inr (Or.inl ⟨_, by unfold lkM; rw [if_neg c12, if_pos ⟨c28, (by rw [ch_nu _ (Nat.lt_succ_of_le (hr_le ht _ _))]; first | (rw [← (ch_g _ (Nat.lt_succ_of_le (hr_le ht _ _))), c35, Bool.true_or, Bool.true_or]) | (rw [← (ch_h _ (Nat.lt_succ_of_le (hr_le ht _ _))).2.2.1, c42, Bool.or_true, Bool.true_or]) | (rw [decide_eq_true c48, Bool.or_true]))⟩], rfl, rfl⟩))) rfl hK hP hD hS d_M_looked_52
  · skip
    have h9 := hr_lt c12 (by decide)
    refine lv_aload_n hx hb d_M_looked_15 rfl (lv_at hl 1 rfl) ?_
    refine lv_dup hx hb d_M_looked_16 rfl ?_
    refine va_get (D := gD G) (ci := 5) (v := .int (nI (rn blN t n p))) (C := "WordShapesModel") (T := TM) (N := 24) hx hb hg iw_M hown hK hP 0 rfl rfl 17 (by decide) (hg _ tk_700) (fun _ h9 => h9) rfl d_M_looked_17 ?_
    refine lv_iconst (v := nI 1) hx hb d_M_looked_20 (by decide) ?_
    refine lv_iadd hx hb d_M_looked_21 ?_
    refine y_eqi (nI_add _ _) ?_
    refine va_put (D := gD G) (ci := 5) (v := .int (nI (rn blN t n p + 1))) (ty := .int) (C := "WordShapesModel") (T := TM) (N := 24) hx hb hg iw_M ft_M fo_M nm_M hown hK hP hD hS 0 rfl rfl 17 (by decide) (hg _ tk_700) (fun _ h9 => h9) rfl (by decide +kernel) (rfl) (rfl) (Nat.le_of_ble_eq_true rfl) d_M_looked_22 (fun H locs hP hD hS => ?_)
    have hP : va_P (gD G) vwC (wMR G h dg mp ml th n t pl pn xy pt sz rs ou wr sl (rn blN t n p + 1) fk fp va oa oc ok xs ys) H := hP
    have hD : va_D A (wMR G h dg mp ml th n t pl pn xy pt sz rs ou wr sl (rn blN t n p + 1) fk fp va oa oc ok xs ys) := hD
    refine lv_iconst (v := nI 1) hx hb d_M_looked_25 (by decide) ?_
    exact yr_i (ws := wMR G h dg mp ml th n t pl pn xy pt sz rs ou wr sl (rn blN t n p + 1) fk fp va oa oc ok xs ys) hx hb hrt hlocks (Or.inr (Or.inl ⟨_, by unfold lkM; rw [if_pos c12], rfl, rfl⟩)) rfl hK hP hD hS d_M_looked_26
