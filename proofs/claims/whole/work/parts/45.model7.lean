set_option maxHeartbeats 4000000 in
set_option maxRecDepth 100000 in
theorem c_M_parts (l : Launch) (G : gl) (h : Nat → Nat) (dg : Nat) (mp : Nat) (ml : Nat) (th : Nat) (n : Nat) (t : Nat → Nat) (pl : Nat → Int32) (pn : Nat → Nat) (xy : Nat → Int32) (pt : Nat → Nat) (sz : Nat) (rs : Nat → Nat) (ou : Nat → Nat) (wr : Nat) (sl : Nat) (p : Nat) (fk : Nat) (fp : Nat) (va : Int32) (oa : Nat → Int32) (oc : Nat → Int32) (ok : Nat → Int32) (xs : List Int32) (ys : List (Int32 × Int32)) (K : Nat) (hn : n ≤ 65536) (hp : p ≤ n) (ht : ∀ i, t i < 256) (hml : ml ≤ 4096) (hmp : mp ≤ 4096) (hsl : sl < 4) (hxs : xs.length ≤ ml) (hys : ys.length ≤ mp) (hdg : dg ≤ 3) (hK4 : 4 ≤ K) (hK6 : K ≤ 6) : YC l G y_M_parts k_M_parts 7 (Option.some FieldType.int) 9 202 [.ref (h 0), .int (nI K)] (wMR G h dg mp ml th n t pl pn xy pt sz rs ou wr sl p fk fp va oa oc ok xs ys) (fun v w => (∃ q m9 xs9 ys9 va9, (paM t n dg mp ml K (n + 1) p 0 xs ys = .inr (q, m9, xs9, ys9)) ∧ v = some (.int (nI m9)) ∧ w = wMR G h dg mp ml th n t pl pn xy pt sz rs ou wr sl q fk fp va9 oa oc ok xs9 ys9) ∨ (∃ a b q va9 xs9 ys9, (paM t n dg mp ml K (n + 1) p 0 xs ys = .inl (a, b)) ∧ v = some (.int (-1)) ∧ w = wMR G h dg mp ml th n t pl pn xy pt sz rs ou wr sl q a b va9 oa oc ok xs9 ys9)) (fun _ _ => False) := by
  refine yc_of (by decide) ?_
  intro pg ev sx mm bl mt cd A C0 hP hD
  obtain ⟨hx, hb, hrt, hml, hown, hg, hlocks, hxt, hE, hK, hA, hmn⟩ := C0
  have hS : va_S A sx.heap sx.heap [] := va_S.rf
  have hl := lv_entry ([.ref (h 0), .int (nI K)]) (n := 7) (Nat.le_of_ble_eq_true rfl)
  rw [lg_entry_eq]
  generalize (lg_sl ([.ref (h 0), .int (nI K)]) ++ List.replicate (7 - (lg_sl ([.ref (h 0), .int (nI K)])).length) Slot.unset).toArray = ls at hl ⊢
  have hl : lv_has ls 7 [(0, .ref (h 0)), (1, .int (nI K))] := hl
  obtain ⟨H, hH⟩ : ∃ H, H = sx.heap := ⟨_, rfl⟩
  rw [← hH] at hP
  have hS : va_S A sx.heap H [] := by rw [hH]; exact hS
  suffices h9 : W pg l ev (yR 9 202) sx mm _ bl mt cd H [] 0 0 (yMQ bl G A _ _ _ _ sx) (F0 mm 0 ls []) by rw [hH] at h9; exact h9
  obtain ⟨locs, hlo⟩ : ∃ locs : List Loc, locs = [] := ⟨_, rfl⟩
  rw [← hlo] at hS ⊢
  have J9 : ∀ (n9 : Nat) (F : Nat) (q : Nat) (m : Nat) (v1 : Int32) (x1 : List Int32) (y1 : List (Int32 × Int32)) (hm9 : n - q < n9) (hF : n + 1 ≤ q + F) (hq : q ≤ n) (hm : m ≤ q) (hx1 : x1.length ≤ ml) (hy1 : y1.length ≤ mp) (hS9 : paM t n dg mp ml K (n + 1) p 0 xs ys = paM t n dg mp ml K F q m x1 y1) (H : Heap) (locs : List Loc) (ls : Array Slot), va_P (gD G) vwC (wMR G h dg mp ml th n t pl pn xy pt sz rs ou wr sl q fk fp v1 oa oc ok x1 y1) H → va_D A (wMR G h dg mp ml th n t pl pn xy pt sz rs ou wr sl q fk fp v1 oa oc ok x1 y1) → va_S A sx.heap H locs → lv_has ls 7 [(0, .ref (h 0)), (1, .int (nI K)), (2, .int (nI m))] → W pg l ev (yR 9 202) sx mm ([.ref (h 0), .int (nI K)] : List Value).toArray bl mt cd H locs 0 0 (yMQ bl G A (wMR G h dg mp ml th n t pl pn xy pt sz rs ou wr sl p fk fp va oa oc ok xs ys).length (fun v w => (∃ q m9 xs9 ys9 va9, (paM t n dg mp ml K (n + 1) p 0 xs ys = .inr (q, m9, xs9, ys9)) ∧ v = some (.int (nI m9)) ∧ w = wMR G h dg mp ml th n t pl pn xy pt sz rs ou wr sl q fk fp va9 oa oc ok xs9 ys9) ∨ (∃ a b q va9 xs9 ys9, (paM t n dg mp ml K (n + 1) p 0 xs ys = .inl (a, b)) ∧ v = some (.int (-1)) ∧ w = wMR G h dg mp ml th n t pl pn xy pt sz rs ou wr sl q a b va9 oa oc ok xs9 ys9)) (fun _ _ => False) ([.ref (h 0), .int (nI K)] : List Value).toArray sx) (F0 mm 9 ls []) := by
    intro n9
    induction n9 with
    | zero => intro F q m v1 x1 y1 hm9; exact absurd hm9 (Nat.not_lt_zero _)
    | succ n9 ih9 =>
      intro F q m v1 x1 y1 hm9 hF hq hm hx1 hy1 hS9 H locs ls hP hD hS hl
      obtain ⟨F, rfl⟩ : ∃ z, F = z + 1 := ⟨F - 1, by omega⟩
      have b1 := rn_ge (P := blN) (t := t) hq
      have b2 := rn_le (P := blN) (t := t) hq
      have hl2 : (x1 ++ [nI (K - 3)] ++ [nI 0]).length = x1.length + 2 := by simp
      refine lv_aload_n hx hb d_M_parts_9 rfl (lv_at hl 0 rfl) ?_
      refine y_callW (y_runV (As := []) (rest := []) hx hb hml hown (c_M_pass l G h dg mp ml th n t pl pn xy pt sz rs ou wr sl q fk fp v1 oa oc ok x1 y1  (by omega) (by omega) (ht)) (gV (n := 0) hg tk_790 tk_792 (gt_s 34 (by decide +kernel) (by decide +kernel)) tk_7 tk_793 (by decide +kernel) ⟨Nat.le_of_ble_eq_true rfl, Nat.le_of_ble_eq_true rfl⟩) (va_recv hK hP (ci := 5) (q0 := 0) rfl rfl) (y_preW hE hK hP hD hS hA) rfl rfl hl.1 rfl (lv_room (Nat.le_of_ble_eq_true rfl)) d_M_parts_10 ⟨Nat.le_of_ble_eq_true rfl, Nat.le_of_ble_eq_true rfl⟩) hD hS hA (fun _ _ _ _ _ _ hp => False.elim hp) (fun v9 w9 H locs hp hlw hP hD hS => ?_)
      obtain ⟨rfl, rfl⟩ := hp
      have hP : va_P (gD G) vwC (wMR G h dg mp ml th n t pl pn xy pt sz rs ou wr sl (rn blN t n q) fk fp v1 oa oc ok x1 y1) H := hP
      have hD : va_D A (wMR G h dg mp ml th n t pl pn xy pt sz rs ou wr sl (rn blN t n q) fk fp v1 oa oc ok x1 y1) := hD
      refine W.eq (g2 := F0 mm 13 ls []) rfl ?_
      refine lv_aload_n hx hb d_M_parts_13 rfl (lv_at hl 0 rfl) ?_
      refine lv_iconst (v := nI 2) hx hb d_M_parts_14 (by decide) ?_
      refine lv_iconst (v := nI 0) hx hb d_M_parts_15 (by decide) ?_
      refine y_callW (y_runV (As := [.int (nI 2), .int (nI 0)]) (rest := []) hx hb hml hown (c_M_room l G h dg mp ml th n t pl pn xy pt sz rs ou wr sl (rn blN t n q) fk fp v1 oa oc ok x1 y1 2 0 (by omega) (by omega) (by omega) (by omega) (by omega) (by omega) (by omega)) (gV (n := 2) hg tk_825 tk_827 (gt_s 39 (by decide +kernel) (by decide +kernel)) tk_7 tk_828 (by decide +kernel) ⟨Nat.le_of_ble_eq_true rfl, Nat.le_of_ble_eq_true rfl⟩) (va_recv hK hP (ci := 5) (q0 := 0) rfl rfl) (y_preW hE hK hP hD hS hA) rfl rfl hl.1 rfl (lv_room (Nat.le_of_ble_eq_true rfl)) d_M_parts_16 ⟨Nat.le_of_ble_eq_true rfl, Nat.le_of_ble_eq_true rfl⟩) hD hS hA (fun _ _ _ _ _ _ hp => False.elim hp) (fun v9 w9 H locs hp hlw hP hD hS => ?_)
      obtain ⟨rfl, rfl⟩ := hp
      have hP : va_P (gD G) vwC (wMR G h dg mp ml th n t pl pn xy pt sz rs ou wr sl (rn blN t n q) fk fp v1 oa oc ok x1 y1) H := hP
      have hD : va_D A (wMR G h dg mp ml th n t pl pn xy pt sz rs ou wr sl (rn blN t n q) fk fp v1 oa oc ok x1 y1) := hD
      refine W.eq (g2 := F0 mm 19 ls [.int (bz (decide (x1.length + 2 ≤ ml ∧ y1.length + 0 ≤ mp)))]) rfl ?_
      refine yz_if_ne (P := x1.length + 2 ≤ ml ∧ y1.length + 0 ≤ mp) (tgt := 35) hx hb d_M_parts_19 (by decide) (fun c19 => ?_) (fun c19 => ?_)
      · skip
        refine lv_aload_n hx hb d_M_parts_35 rfl (lv_at hl 0 rfl) ?_
        refine lv_iload_n hx hb d_M_parts_36 rfl (lv_at hl 1 rfl) ?_
        refine lv_iconst (v := nI 3) hx hb d_M_parts_37 (by decide) ?_
        refine lv_isub hx hb d_M_parts_38 ?_
        refine y_eqi (pk_sub (by omega)) ?_
        refine y_callW (y_runV (As := [.int (nI (K - 3))]) (rest := []) hx hb hml hown (c_M_open l G h dg mp ml th n t pl pn xy pt sz rs ou wr sl (rn blN t n q) fk fp v1 oa oc ok x1 y1 (nI (K - 3)) (by omega) (by omega) (by omega) (by omega) (by omega) (by omega)) (gV (n := 1) hg tk_829 tk_831 (gt_s 40 (by decide +kernel) (by decide +kernel)) tk_7 tk_832 (by decide +kernel) ⟨Nat.le_of_ble_eq_true rfl, Nat.le_of_ble_eq_true rfl⟩) (va_recv hK hP (ci := 5) (q0 := 0) rfl rfl) (y_preW hE hK hP hD hS hA) rfl rfl hl.1 rfl (lv_room (Nat.le_of_ble_eq_true rfl)) d_M_parts_39 ⟨Nat.le_of_ble_eq_true rfl, Nat.le_of_ble_eq_true rfl⟩) hD hS hA (fun _ _ _ _ _ _ hp => False.elim hp) (fun v9 w9 H locs hp hlw hP hD hS => ?_)
        obtain ⟨rfl, rfl⟩ := hp
        have hP : va_P (gD G) vwC (wMR G h dg mp ml th n t pl pn xy pt sz rs ou wr sl (rn blN t n q) fk fp v1 oa oc ok (x1 ++ [(nI (K - 3))] ++ [nI 0]) y1) H := hP
        have hD : va_D A (wMR G h dg mp ml th n t pl pn xy pt sz rs ou wr sl (rn blN t n q) fk fp v1 oa oc ok (x1 ++ [(nI (K - 3))] ++ [nI 0]) y1) := hD
        refine W.eq (g2 := F0 mm 42 ls [.int (nI (x1.length + 1))]) rfl ?_
        refine lv_istore (lv' := [(4, .int (nI (x1.length + 1))), (0, .ref (h 0)), (1, .int (nI K)), (2, .int (nI m))]) hx hb d_M_parts_42 hl (by decide) rfl (fun ls hl => ?_)
        refine lv_aload_n hx hb d_M_parts_44 rfl (lv_at hl 1 rfl) ?_
        refine lv_iload_n hx hb d_M_parts_45 rfl (lv_at hl 2 rfl) ?_
        refine lv_iconst (v := nI 4) hx hb d_M_parts_46 (by decide) ?_
        refine yn_icmp_ne (a := K) (b := 4) (tgt := 54) hx hb d_M_parts_47 (by decide) (by omega) (by omega) (fun c47 => ?_) (fun c47 => ?_)
        · skip
          refine lv_iconst (v := nI 0) hx hb d_M_parts_54 (by decide) ?_
          refine y_eqi (y := bz (decide (K = 4))) (bz_f c47) ?_
          refine y_callW (y_runV (As := [.int (bz (decide (K = 4)))]) (rest := []) hx hb hml hown (c_M_looked l G h dg mp ml th n t pl pn xy pt sz rs ou wr sl (rn blN t n q) fk fp v1 oa oc ok (x1 ++ [(nI (K - 3))] ++ [nI 0]) y1 (decide (K = 4)) (by omega) (by omega) (ht)) (gV (n := 1) hg tk_837 tk_839 (gt_s 42 (by decide +kernel) (by decide +kernel)) tk_7 tk_840 (by decide +kernel) ⟨Nat.le_of_ble_eq_true rfl, Nat.le_of_ble_eq_true rfl⟩) (va_recv hK hP (ci := 5) (q0 := 0) rfl rfl) (y_preW hE hK hP hD hS hA) rfl rfl hl.1 rfl (lv_room (Nat.le_of_ble_eq_true rfl)) d_M_parts_55 ⟨Nat.le_of_ble_eq_true rfl, Nat.le_of_ble_eq_true rfl⟩) hD hS hA (fun _ _ _ _ _ _ hp => False.elim hp) (fun v9 w9 H locs hp hlw hP hD hS => ?_)
          rcases hp with ⟨q_55, hs_55, rfl, rfl⟩ | ⟨q_55, hs_55, rfl, rfl⟩ | ⟨q_55, hs_55, rfl, rfl⟩ | ⟨a_55, b_55, q_55, hs_55, rfl, rfl⟩
          · skip
            have hP : va_P (gD G) vwC (wMR G h dg mp ml th n t pl pn xy pt sz rs ou wr sl q_55 fk fp v1 oa oc ok (x1 ++ [(nI (K - 3))] ++ [nI 0]) y1) H := hP
            have hD : va_D A (wMR G h dg mp ml th n t pl pn xy pt sz rs ou wr sl q_55 fk fp v1 oa oc ok (x1 ++ [(nI (K - 3))] ++ [nI 0]) y1) := hD
            refine W.eq (g2 := F0 mm 58 ls [.int (nI 0)]) rfl ?_
            have b3 := lk_bd b2 hs_55
            refine lv_istore (lv' := [(5, .int (nI 0)), (4, .int (nI (x1.length + 1))), (0, .ref (h 0)), (1, .int (nI K)), (2, .int (nI m))]) hx hb d_M_parts_58 hl (by decide) rfl (fun ls hl => ?_)
            refine lv_iload hx hb d_M_parts_60 (lv_at hl 0 rfl) ?_
            refine yn_if_ge (a := 0) (tgt := 67) hx hb d_M_parts_62 (by decide) (by omega) (fun c62 => ?_) (fun c62 => ?_)
            · skip
              refine lv_iload hx hb d_M_parts_67 (lv_at hl 0 rfl) ?_
              refine yn_if_ne (a := 0) (tgt := 76) hx hb d_M_parts_69 (by decide) (by omega) (fun c69 => ?_) (fun c69 => ?_)
              · skip
                exact absurd c69 (by decide)
              · skip
                refine lv_iconst (v := nI 0) hx hb d_M_parts_72 (by decide) ?_
                refine lv_goto (tgt := 104) hx hb d_M_parts_73 (by decide) ?_
                refine lv_istore (lv' := [(6, .int (nI 0)), (5, .int (nI 0)), (4, .int (nI (x1.length + 1))), (0, .ref (h 0)), (1, .int (nI K)), (2, .int (nI m))]) hx hb d_M_parts_104 hl (by decide) rfl (fun ls hl => ?_)
                refine lv_iload hx hb d_M_parts_106 (lv_at hl 0 rfl) ?_
                refine yn_if_ge (a := 0) (tgt := 113) hx hb d_M_parts_108 (by decide) (by omega) (fun c108 => ?_) (fun c108 => ?_)
                · skip
                  refine lv_aload_n hx hb d_M_parts_113 rfl (lv_at hl 3 rfl) ?_
                  refine lv_iload hx hb d_M_parts_114 (lv_at hl 2 rfl) ?_
                  refine lv_iload hx hb d_M_parts_116 (lv_at hl 0 rfl) ?_
                  refine y_callW (y_runV (As := [.int (nI (x1.length + 1)), .int (nI 0)]) (rest := []) hx hb hml hown (c_M_close l G h dg mp ml th n t pl pn xy pt sz rs ou wr sl q_55 fk fp v1 oa oc ok (x1 ++ [(nI (K - 3))] ++ [nI 0]) y1 (x1.length + 1) (nI 0) (by omega) (by omega) (by omega) (by first | omega | (simp only [List.length_append, List.length_singleton, List.length_cons, List.length_nil, List.length_set]; omega)) (by omega) (by first | omega | (simp only [List.length_append, List.length_singleton, List.length_cons, List.length_nil, List.length_set]; omega))) (gV (n := 2) hg tk_883 tk_885 (gt_s 52 (by decide +kernel) (by decide +kernel)) tk_7 tk_886 (by decide +kernel) ⟨Nat.le_of_ble_eq_true rfl, Nat.le_of_ble_eq_true rfl⟩) (va_recv hK hP (ci := 5) (q0 := 0) rfl rfl) (y_preW hE hK hP hD hS hA) rfl rfl hl.1 rfl (lv_room (Nat.le_of_ble_eq_true rfl)) d_M_parts_118 ⟨Nat.le_of_ble_eq_true rfl, Nat.le_of_ble_eq_true rfl⟩) hD hS hA (fun _ _ _ _ _ _ hp => False.elim hp) (fun v9 w9 H locs hp hlw hP hD hS => ?_)
                  obtain ⟨rfl, rfl⟩ := hp
                  have hP : va_P (gD G) vwC (wMR G h dg mp ml th n t pl pn xy pt sz rs ou wr sl q_55 fk fp v1 oa oc ok ((x1 ++ [(nI (K - 3))] ++ [nI 0]).set (x1.length + 1) (nI 0)) y1) H := hP
                  have hD : va_D A (wMR G h dg mp ml th n t pl pn xy pt sz rs ou wr sl q_55 fk fp v1 oa oc ok ((x1 ++ [(nI (K - 3))] ++ [nI 0]).set (x1.length + 1) (nI 0)) y1) := hD
                  refine W.eq (g2 := F0 mm 121 ls []) rfl ?_
                  have hpa : paI t n dg mp ml K q x1 y1 = .inr (q_55, (x1 ++ [(nI (K - 3))] ++ [nI 0]).set (x1.length + 1) (nI 0), y1) := by unfold paI; rw [if_pos c19.1, hs_55]; dsimp only; first | (rw [if_neg (by decide), if_pos rfl, hs_86]) | (rw [if_neg (by decide), if_neg (by decide), hs_93]) | rw [if_pos rfl]
                  have b6 := paI_bd hq hx1 hy1 hpa
                  refine lv_iinc (v := nI (m + 1)) (lv' := [(2, .int (nI (m + 1))), (6, .int (nI 0)), (5, .int (nI 0)), (4, .int (nI (x1.length + 1))), (0, .ref (h 0)), (1, .int (nI K))]) hx hb d_M_parts_121 hl (k := 5) rfl (y_inc _) (by decide) rfl (fun ls hl => ?_)
                  refine lv_aload_n hx hb d_M_parts_124 rfl (lv_at hl 4 rfl) ?_
                  refine y_callW (y_runV (As := []) (rest := []) hx hb hml hown (c_M_goesOn l G h dg mp ml th n t pl pn xy pt sz rs ou wr sl q_55 fk fp v1 oa oc ok ((x1 ++ [(nI (K - 3))] ++ [nI 0]).set (x1.length + 1) (nI 0)) y1  (by omega) (by omega) (ht)) (gV (n := 0) hg tk_879 tk_881 (gt_s 51 (by decide +kernel) (by decide +kernel)) tk_7 tk_882 (by decide +kernel) ⟨Nat.le_of_ble_eq_true rfl, Nat.le_of_ble_eq_true rfl⟩) (va_recv hK hP (ci := 5) (q0 := 0) rfl rfl) (y_preW hE hK hP hD hS hA) rfl rfl hl.1 rfl (lv_room (Nat.le_of_ble_eq_true rfl)) d_M_parts_125 ⟨Nat.le_of_ble_eq_true rfl, Nat.le_of_ble_eq_true rfl⟩) hD hS hA (fun _ _ _ _ _ _ hp => False.elim hp) (fun v9 w9 H locs hp hlw hP hD hS => ?_)
                  rcases hp with ⟨hs_125, rfl, rfl⟩ | ⟨hs_125, rfl, rfl⟩ | ⟨hs_125, rfl, rfl⟩
                  · skip
                    have hP : va_P (gD G) vwC (wMR G h dg mp ml th n t pl pn xy pt sz rs ou wr sl (rn blN t n q_55 + 1) fk fp v1 oa oc ok ((x1 ++ [(nI (K - 3))] ++ [nI 0]).set (x1.length + 1) (nI 0)) y1) H := hP
                    have hD : va_D A (wMR G h dg mp ml th n t pl pn xy pt sz rs ou wr sl (rn blN t n q_55 + 1) fk fp v1 oa oc ok ((x1 ++ [(nI (K - 3))] ++ [nI 0]).set (x1.length + 1) (nI 0)) y1) := hD
                    refine W.eq (g2 := F0 mm 128 ls [.int (nI 1)]) rfl ?_
                    have b7 := goM_bd b6.2.1 (go_44 hs_125)
                    refine lv_istore_n (lv' := [(3, .int (nI 1)), (2, .int (nI (m + 1))), (6, .int (nI 0)), (5, .int (nI 0)), (4, .int (nI (x1.length + 1))), (0, .ref (h 0)), (1, .int (nI K))]) hx hb d_M_parts_128 rfl hl (by decide) rfl (fun ls hl => ?_)
                    refine lv_goto (tgt := 4) hx hb d_M_parts_129 (by decide) ?_
                    refine lv_iload_n hx hb d_M_parts_4 rfl (lv_at hl 0 rfl) ?_
                    refine lv_iconst (v := nI 1) hx hb d_M_parts_5 (by decide) ?_
                    refine yn_icmp_ne (a := 1) (b := 1) (tgt := 132) hx hb d_M_parts_6 (by decide) (by omega) (by omega) (fun c6 => ?_) (fun c6 => ?_)
                    · skip
                      exact absurd c6 (by decide)
                    · skip
                      exact ih9 F (rn blN t n q_55 + 1) (m + 1) v1 ((x1 ++ [(nI (K - 3))] ++ [nI 0]).set (x1.length + 1) (nI 0)) y1 (by omega) (by omega) (by omega) (by omega) (by omega) (by omega) (hS9.trans (by rw [pa_s, hpa]; dsimp only; rw [go_44 hs_125])) _ _ _ hP hD hS (lv_sub hl [5, 6, 1] (rfl))
                  · skip
                    have hP : va_P (gD G) vwC (wMR G h dg mp ml th n t pl pn xy pt sz rs ou wr sl (rn blN t n q_55 + 1) fk fp v1 oa oc ok ((x1 ++ [(nI (K - 3))] ++ [nI 0]).set (x1.length + 1) (nI 0)) y1) H := hP
                    have hD : va_D A (wMR G h dg mp ml th n t pl pn xy pt sz rs ou wr sl (rn blN t n q_55 + 1) fk fp v1 oa oc ok ((x1 ++ [(nI (K - 3))] ++ [nI 0]).set (x1.length + 1) (nI 0)) y1) := hD
                    refine W.eq (g2 := F0 mm 128 ls [.int (nI 0)]) rfl ?_
                    have b7 := goM_bd b6.2.1 (go_41 hs_125)
                    refine lv_istore_n (lv' := [(3, .int (nI 0)), (2, .int (nI (m + 1))), (6, .int (nI 0)), (5, .int (nI 0)), (4, .int (nI (x1.length + 1))), (0, .ref (h 0)), (1, .int (nI K))]) hx hb d_M_parts_128 rfl hl (by decide) rfl (fun ls hl => ?_)
                    refine lv_goto (tgt := 4) hx hb d_M_parts_129 (by decide) ?_
                    refine lv_iload_n hx hb d_M_parts_4 rfl (lv_at hl 0 rfl) ?_
                    refine lv_iconst (v := nI 1) hx hb d_M_parts_5 (by decide) ?_
                    refine yn_icmp_ne (a := 0) (b := 1) (tgt := 132) hx hb d_M_parts_6 (by decide) (by omega) (by omega) (fun c6 => ?_) (fun c6 => ?_)
                    · skip
                      refine lv_iload_n hx hb d_M_parts_132 rfl (lv_at hl 0 rfl) ?_
                      refine yn_if_ge (a := 0) (tgt := 140) hx hb d_M_parts_133 (by decide) (by omega) (fun c133 => ?_) (fun c133 => ?_)
                      · skip
                        refine lv_iload_n hx hb d_M_parts_140 rfl (lv_at hl 1 rfl) ?_
                        exact yr_i (ws := wMR G h dg mp ml th n t pl pn xy pt sz rs ou wr sl (rn blN t n q_55 + 1) fk fp v1 oa oc ok ((x1 ++ [(nI (K - 3))] ++ [nI 0]).set (x1.length + 1) (nI 0)) y1) hx hb hrt hlocks (by first | exact Or.inl ⟨_, _, _, _, _, hS9.trans (by rw [pa_s, hpa]; dsimp only; rw [go_41 hs_125]), rfl, rfl⟩ | exact Or.inr ⟨_, _, _, _, _, _, hS9.trans (by rw [pa_s, hpa]; dsimp only; rw [go_xx hs_125]), rfl, rfl⟩) rfl hK hP hD hS d_M_parts_141
                      · skip
                        exact absurd c133 (by decide)
                    · skip
                      exact absurd c6 (by decide)
                  · skip
                    have hP : va_P (gD G) vwC (wMR G h dg mp ml th n t pl pn xy pt sz rs ou wr sl (rn blN t n q_55) (uxp (hr t n (rn blN t n q_55))) (rn blN t n q_55) v1 oa oc ok ((x1 ++ [(nI (K - 3))] ++ [nI 0]).set (x1.length + 1) (nI 0)) y1) H := hP
                    have hD : va_D A (wMR G h dg mp ml th n t pl pn xy pt sz rs ou wr sl (rn blN t n q_55) (uxp (hr t n (rn blN t n q_55))) (rn blN t n q_55) v1 oa oc ok ((x1 ++ [(nI (K - 3))] ++ [nI 0]).set (x1.length + 1) (nI 0)) y1) := hD
                    refine W.eq (g2 := F0 mm 128 ls [.int (-1)]) rfl ?_
                    refine lv_istore_n (lv' := [(3, .int (-1)), (2, .int (nI (m + 1))), (6, .int (nI 0)), (5, .int (nI 0)), (4, .int (nI (x1.length + 1))), (0, .ref (h 0)), (1, .int (nI K))]) hx hb d_M_parts_128 rfl hl (by decide) rfl (fun ls hl => ?_)
                    refine lv_goto (tgt := 4) hx hb d_M_parts_129 (by decide) ?_
                    refine lv_iload_n hx hb d_M_parts_4 rfl (lv_at hl 0 rfl) ?_
                    refine lv_iconst (v := nI 1) hx hb d_M_parts_5 (by decide) ?_
                    refine lv_icmp_ne (tgt := 132) hx hb d_M_parts_6 (by decide) (fun c6 => ?_) (fun c6 => ?_)
                    · skip
                      refine lv_iload_n hx hb d_M_parts_132 rfl (lv_at hl 0 rfl) ?_
                      refine lv_if_ge (tgt := 140) hx hb d_M_parts_133 (by decide) (fun c133 => ?_) (fun c133 => ?_)
                      · skip
                        exact absurd c133 (by decide)
                      · skip
                        refine lv_iconst (v := (-1)) hx hb d_M_parts_136 (by decide) ?_
                        refine lv_goto (tgt := 141) hx hb d_M_parts_137 (by decide) ?_
                        exact yr_i (ws := wMR G h dg mp ml th n t pl pn xy pt sz rs ou wr sl (rn blN t n q_55) (uxp (hr t n (rn blN t n q_55))) (rn blN t n q_55) v1 oa oc ok ((x1 ++ [(nI (K - 3))] ++ [nI 0]).set (x1.length + 1) (nI 0)) y1) hx hb hrt hlocks (by first | exact Or.inl ⟨_, _, _, _, _, hS9.trans (by rw [pa_s, hpa]; dsimp only; rw [go_41 hs_125]), rfl, rfl⟩ | exact Or.inr ⟨_, _, _, _, _, _, hS9.trans (by rw [pa_s, hpa]; dsimp only; rw [go_xx hs_125]), rfl, rfl⟩) rfl hK hP hD hS d_M_parts_141
                    · skip
                      exact absurd c6 (by decide)
                · skip
                  exact absurd c108 (by decide)
            · skip
              exact absurd c62 (by decide)
          · skip
            have hP : va_P (gD G) vwC (wMR G h dg mp ml th n t pl pn xy pt sz rs ou wr sl q_55 fk fp v1 oa oc ok (x1 ++ [(nI (K - 3))] ++ [nI 0]) y1) H := hP
            have hD : va_D A (wMR G h dg mp ml th n t pl pn xy pt sz rs ou wr sl q_55 fk fp v1 oa oc ok (x1 ++ [(nI (K - 3))] ++ [nI 0]) y1) := hD
            refine W.eq (g2 := F0 mm 58 ls [.int (nI 1)]) rfl ?_
            have b3 := lk_bd b2 hs_55
            refine lv_istore (lv' := [(5, .int (nI 1)), (4, .int (nI (x1.length + 1))), (0, .ref (h 0)), (1, .int (nI K)), (2, .int (nI m))]) hx hb d_M_parts_58 hl (by decide) rfl (fun ls hl => ?_)
            refine lv_iload hx hb d_M_parts_60 (lv_at hl 0 rfl) ?_
            refine yn_if_ge (a := 1) (tgt := 67) hx hb d_M_parts_62 (by decide) (by omega) (fun c62 => ?_) (fun c62 => ?_)
            · skip
              refine lv_iload hx hb d_M_parts_67 (lv_at hl 0 rfl) ?_
              refine yn_if_ne (a := 1) (tgt := 76) hx hb d_M_parts_69 (by decide) (by omega) (fun c69 => ?_) (fun c69 => ?_)
              · skip
                refine lv_iload hx hb d_M_parts_76 (lv_at hl 0 rfl) ?_
                refine lv_iconst (v := nI 1) hx hb d_M_parts_78 (by decide) ?_
                refine yn_icmp_ne (a := 1) (b := 1) (tgt := 92) hx hb d_M_parts_79 (by decide) (by omega) (by omega) (fun c79 => ?_) (fun c79 => ?_)
                · skip
                  exact absurd c79 (by decide)
                · skip
                  refine lv_aload_n hx hb d_M_parts_82 rfl (lv_at hl 2 rfl) ?_
                  refine lv_iload_n hx hb d_M_parts_83 rfl (lv_at hl 3 rfl) ?_
                  refine lv_iconst (v := nI 3) hx hb d_M_parts_84 (by decide) ?_
                  refine lv_isub hx hb d_M_parts_85 ?_
                  refine y_eqi (pk_sub (by omega)) ?_
                  refine y_callW (y_runV (As := [.int (nI (K - 3))]) (rest := []) hx hb hml hown (c_M_simple l G h dg mp ml th n t pl pn xy pt sz rs ou wr sl q_55 fk fp v1 oa oc ok (x1 ++ [(nI (K - 3))] ++ [nI 0]) y1 (K - 3) (by omega) (by omega) (ht) (by omega) (by omega) (by omega) (by first | omega | (simp only [List.length_append, List.length_singleton, List.length_cons, List.length_nil, List.length_set]; omega)) (by omega) (by omega) (by omega) (by omega)) (gV (n := 1) hg tk_841 tk_843 (gt_s 43 (by decide +kernel) (by decide +kernel)) tk_7 tk_844 (by decide +kernel) ⟨Nat.le_of_ble_eq_true rfl, Nat.le_of_ble_eq_true rfl⟩) (va_recv hK hP (ci := 5) (q0 := 0) rfl rfl) (y_preW hE hK hP hD hS hA) rfl rfl hl.1 rfl (lv_room (Nat.le_of_ble_eq_true rfl)) d_M_parts_86 ⟨Nat.le_of_ble_eq_true rfl, Nat.le_of_ble_eq_true rfl⟩) hD hS hA (fun _ _ _ _ _ _ hp => False.elim hp) (fun v9 w9 H locs hp hlw hP hD hS => ?_)
                  rcases hp with ⟨q_86, m9_86, xs9_86, ys9_86, va9_86, hs_86, rfl, rfl⟩ | ⟨a_86, b_86, q_86, va9_86, xs9_86, ys9_86, hs_86, rfl, rfl⟩
                  · skip
                    have hP : va_P (gD G) vwC (wMR G h dg mp ml th n t pl pn xy pt sz rs ou wr sl q_86 fk fp va9_86 oa oc ok xs9_86 ys9_86) H := hP
                    have hD : va_D A (wMR G h dg mp ml th n t pl pn xy pt sz rs ou wr sl q_86 fk fp va9_86 oa oc ok xs9_86 ys9_86) := hD
                    refine W.eq (g2 := F0 mm 89 ls [.int (nI m9_86)]) rfl ?_
                    have b5 := si_bd b3.2 (by rw [hl2]; omega) hy1 hs_86
                    rw [hl2] at b5
                    refine lv_goto (tgt := 104) hx hb d_M_parts_89 (by decide) ?_
                    refine lv_istore (lv' := [(6, .int (nI m9_86)), (5, .int (nI 1)), (4, .int (nI (x1.length + 1))), (0, .ref (h 0)), (1, .int (nI K)), (2, .int (nI m))]) hx hb d_M_parts_104 hl (by decide) rfl (fun ls hl => ?_)
                    refine lv_iload hx hb d_M_parts_106 (lv_at hl 0 rfl) ?_
                    refine yn_if_ge (a := m9_86) (tgt := 113) hx hb d_M_parts_108 (by decide) (by omega) (fun c108 => ?_) (fun c108 => ?_)
                    · skip
                      refine lv_aload_n hx hb d_M_parts_113 rfl (lv_at hl 3 rfl) ?_
                      refine lv_iload hx hb d_M_parts_114 (lv_at hl 2 rfl) ?_
                      refine lv_iload hx hb d_M_parts_116 (lv_at hl 0 rfl) ?_
                      refine y_callW (y_runV (As := [.int (nI (x1.length + 1)), .int (nI m9_86)]) (rest := []) hx hb hml hown (c_M_close l G h dg mp ml th n t pl pn xy pt sz rs ou wr sl q_86 fk fp va9_86 oa oc ok xs9_86 ys9_86 (x1.length + 1) (nI m9_86) (by omega) (by omega) (by omega) (by first | omega | (simp only [List.length_append, List.length_singleton, List.length_cons, List.length_nil, List.length_set]; omega)) (by omega) (by first | omega | (simp only [List.length_append, List.length_singleton, List.length_cons, List.length_nil, List.length_set]; omega))) (gV (n := 2) hg tk_883 tk_885 (gt_s 52 (by decide +kernel) (by decide +kernel)) tk_7 tk_886 (by decide +kernel) ⟨Nat.le_of_ble_eq_true rfl, Nat.le_of_ble_eq_true rfl⟩) (va_recv hK hP (ci := 5) (q0 := 0) rfl rfl) (y_preW hE hK hP hD hS hA) rfl rfl hl.1 rfl (lv_room (Nat.le_of_ble_eq_true rfl)) d_M_parts_118 ⟨Nat.le_of_ble_eq_true rfl, Nat.le_of_ble_eq_true rfl⟩) hD hS hA (fun _ _ _ _ _ _ hp => False.elim hp) (fun v9 w9 H locs hp hlw hP hD hS => ?_)
                      obtain ⟨rfl, rfl⟩ := hp
                      have hP : va_P (gD G) vwC (wMR G h dg mp ml th n t pl pn xy pt sz rs ou wr sl q_86 fk fp va9_86 oa oc ok (xs9_86.set (x1.length + 1) (nI m9_86)) ys9_86) H := hP
                      have hD : va_D A (wMR G h dg mp ml th n t pl pn xy pt sz rs ou wr sl q_86 fk fp va9_86 oa oc ok (xs9_86.set (x1.length + 1) (nI m9_86)) ys9_86) := hD
                      refine W.eq (g2 := F0 mm 121 ls []) rfl ?_
                      have hpa : paI t n dg mp ml K q x1 y1 = .inr (q_86, xs9_86.set (x1.length + 1) (nI m9_86), ys9_86) := by unfold paI; rw [if_pos c19.1, hs_55]; dsimp only; first | (rw [if_neg (by decide), if_pos rfl, hs_86]) | (rw [if_neg (by decide), if_neg (by decide), hs_93]) | rw [if_pos rfl]
                      have b6 := paI_bd hq hx1 hy1 hpa
                      refine lv_iinc (v := nI (m + 1)) (lv' := [(2, .int (nI (m + 1))), (6, .int (nI m9_86)), (5, .int (nI 1)), (4, .int (nI (x1.length + 1))), (0, .ref (h 0)), (1, .int (nI K))]) hx hb d_M_parts_121 hl (k := 5) rfl (y_inc _) (by decide) rfl (fun ls hl => ?_)
                      refine lv_aload_n hx hb d_M_parts_124 rfl (lv_at hl 4 rfl) ?_
                      refine y_callW (y_runV (As := []) (rest := []) hx hb hml hown (c_M_goesOn l G h dg mp ml th n t pl pn xy pt sz rs ou wr sl q_86 fk fp va9_86 oa oc ok (xs9_86.set (x1.length + 1) (nI m9_86)) ys9_86  (by omega) (by omega) (ht)) (gV (n := 0) hg tk_879 tk_881 (gt_s 51 (by decide +kernel) (by decide +kernel)) tk_7 tk_882 (by decide +kernel) ⟨Nat.le_of_ble_eq_true rfl, Nat.le_of_ble_eq_true rfl⟩) (va_recv hK hP (ci := 5) (q0 := 0) rfl rfl) (y_preW hE hK hP hD hS hA) rfl rfl hl.1 rfl (lv_room (Nat.le_of_ble_eq_true rfl)) d_M_parts_125 ⟨Nat.le_of_ble_eq_true rfl, Nat.le_of_ble_eq_true rfl⟩) hD hS hA (fun _ _ _ _ _ _ hp => False.elim hp) (fun v9 w9 H locs hp hlw hP hD hS => ?_)
                      rcases hp with ⟨hs_125, rfl, rfl⟩ | ⟨hs_125, rfl, rfl⟩ | ⟨hs_125, rfl, rfl⟩
                      · skip
                        have hP : va_P (gD G) vwC (wMR G h dg mp ml th n t pl pn xy pt sz rs ou wr sl (rn blN t n q_86 + 1) fk fp va9_86 oa oc ok (xs9_86.set (x1.length + 1) (nI m9_86)) ys9_86) H := hP
                        have hD : va_D A (wMR G h dg mp ml th n t pl pn xy pt sz rs ou wr sl (rn blN t n q_86 + 1) fk fp va9_86 oa oc ok (xs9_86.set (x1.length + 1) (nI m9_86)) ys9_86) := hD
                        refine W.eq (g2 := F0 mm 128 ls [.int (nI 1)]) rfl ?_
                        have b7 := goM_bd b6.2.1 (go_44 hs_125)
                        refine lv_istore_n (lv' := [(3, .int (nI 1)), (2, .int (nI (m + 1))), (6, .int (nI m9_86)), (5, .int (nI 1)), (4, .int (nI (x1.length + 1))), (0, .ref (h 0)), (1, .int (nI K))]) hx hb d_M_parts_128 rfl hl (by decide) rfl (fun ls hl => ?_)
                        refine lv_goto (tgt := 4) hx hb d_M_parts_129 (by decide) ?_
                        refine lv_iload_n hx hb d_M_parts_4 rfl (lv_at hl 0 rfl) ?_
                        refine lv_iconst (v := nI 1) hx hb d_M_parts_5 (by decide) ?_
                        refine yn_icmp_ne (a := 1) (b := 1) (tgt := 132) hx hb d_M_parts_6 (by decide) (by omega) (by omega) (fun c6 => ?_) (fun c6 => ?_)
                        · skip
                          exact absurd c6 (by decide)
                        · skip
                          exact ih9 F (rn blN t n q_86 + 1) (m + 1) va9_86 (xs9_86.set (x1.length + 1) (nI m9_86)) ys9_86 (by omega) (by omega) (by omega) (by omega) (by omega) (by omega) (hS9.trans (by rw [pa_s, hpa]; dsimp only; rw [go_44 hs_125])) _ _ _ hP hD hS (lv_sub hl [5, 6, 1] (rfl))
                      · skip
                        have hP : va_P (gD G) vwC (wMR G h dg mp ml th n t pl pn xy pt sz rs ou wr sl (rn blN t n q_86 + 1) fk fp va9_86 oa oc ok (xs9_86.set (x1.length + 1) (nI m9_86)) ys9_86) H := hP
                        have hD : va_D A (wMR G h dg mp ml th n t pl pn xy pt sz rs ou wr sl (rn blN t n q_86 + 1) fk fp va9_86 oa oc ok (xs9_86.set (x1.length + 1) (nI m9_86)) ys9_86) := hD
                        refine W.eq (g2 := F0 mm 128 ls [.int (nI 0)]) rfl ?_
                        have b7 := goM_bd b6.2.1 (go_41 hs_125)
                        refine lv_istore_n (lv' := [(3, .int (nI 0)), (2, .int (nI (m + 1))), (6, .int (nI m9_86)), (5, .int (nI 1)), (4, .int (nI (x1.length + 1))), (0, .ref (h 0)), (1, .int (nI K))]) hx hb d_M_parts_128 rfl hl (by decide) rfl (fun ls hl => ?_)
                        refine lv_goto (tgt := 4) hx hb d_M_parts_129 (by decide) ?_
                        refine lv_iload_n hx hb d_M_parts_4 rfl (lv_at hl 0 rfl) ?_
                        refine lv_iconst (v := nI 1) hx hb d_M_parts_5 (by decide) ?_
                        refine yn_icmp_ne (a := 0) (b := 1) (tgt := 132) hx hb d_M_parts_6 (by decide) (by omega) (by omega) (fun c6 => ?_) (fun c6 => ?_)
                        · skip
                          refine lv_iload_n hx hb d_M_parts_132 rfl (lv_at hl 0 rfl) ?_
                          refine yn_if_ge (a := 0) (tgt := 140) hx hb d_M_parts_133 (by decide) (by omega) (fun c133 => ?_) (fun c133 => ?_)
                          · skip
                            refine lv_iload_n hx hb d_M_parts_140 rfl (lv_at hl 1 rfl) ?_
                            exact yr_i (ws := wMR G h dg mp ml th n t pl pn xy pt sz rs ou wr sl (rn blN t n q_86 + 1) fk fp va9_86 oa oc ok (xs9_86.set (x1.length + 1) (nI m9_86)) ys9_86) hx hb hrt hlocks (by first | exact Or.inl ⟨_, _, _, _, _, hS9.trans (by rw [pa_s, hpa]; dsimp only; rw [go_41 hs_125]), rfl, rfl⟩ | exact Or.inr ⟨_, _, _, _, _, _, hS9.trans (by rw [pa_s, hpa]; dsimp only; rw [go_xx hs_125]), rfl, rfl⟩) rfl hK hP hD hS d_M_parts_141
                          · skip
                            exact absurd c133 (by decide)
                        · skip
                          exact absurd c6 (by decide)
                      · skip
                        have hP : va_P (gD G) vwC (wMR G h dg mp ml th n t pl pn xy pt sz rs ou wr sl (rn blN t n q_86) (uxp (hr t n (rn blN t n q_86))) (rn blN t n q_86) va9_86 oa oc ok (xs9_86.set (x1.length + 1) (nI m9_86)) ys9_86) H := hP
                        have hD : va_D A (wMR G h dg mp ml th n t pl pn xy pt sz rs ou wr sl (rn blN t n q_86) (uxp (hr t n (rn blN t n q_86))) (rn blN t n q_86) va9_86 oa oc ok (xs9_86.set (x1.length + 1) (nI m9_86)) ys9_86) := hD
                        refine W.eq (g2 := F0 mm 128 ls [.int (-1)]) rfl ?_
                        refine lv_istore_n (lv' := [(3, .int (-1)), (2, .int (nI (m + 1))), (6, .int (nI m9_86)), (5, .int (nI 1)), (4, .int (nI (x1.length + 1))), (0, .ref (h 0)), (1, .int (nI K))]) hx hb d_M_parts_128 rfl hl (by decide) rfl (fun ls hl => ?_)
                        refine lv_goto (tgt := 4) hx hb d_M_parts_129 (by decide) ?_
                        refine lv_iload_n hx hb d_M_parts_4 rfl (lv_at hl 0 rfl) ?_
                        refine lv_iconst (v := nI 1) hx hb d_M_parts_5 (by decide) ?_
                        refine lv_icmp_ne (tgt := 132) hx hb d_M_parts_6 (by decide) (fun c6 => ?_) (fun c6 => ?_)
                        · skip
                          refine lv_iload_n hx hb d_M_parts_132 rfl (lv_at hl 0 rfl) ?_
                          refine lv_if_ge (tgt := 140) hx hb d_M_parts_133 (by decide) (fun c133 => ?_) (fun c133 => ?_)
                          · skip
                            exact absurd c133 (by decide)
                          · skip
                            refine lv_iconst (v := (-1)) hx hb d_M_parts_136 (by decide) ?_
                            refine lv_goto (tgt := 141) hx hb d_M_parts_137 (by decide) ?_
                            exact yr_i (ws := wMR G h dg mp ml th n t pl pn xy pt sz rs ou wr sl (rn blN t n q_86) (uxp (hr t n (rn blN t n q_86))) (rn blN t n q_86) va9_86 oa oc ok (xs9_86.set (x1.length + 1) (nI m9_86)) ys9_86) hx hb hrt hlocks (by first | exact Or.inl ⟨_, _, _, _, _, hS9.trans (by rw [pa_s, hpa]; dsimp only; rw [go_41 hs_125]), rfl, rfl⟩ | exact Or.inr ⟨_, _, _, _, _, _, hS9.trans (by rw [pa_s, hpa]; dsimp only; rw [go_xx hs_125]), rfl, rfl⟩) rfl hK hP hD hS d_M_parts_141
                        · skip
                          exact absurd c6 (by decide)
                    · skip
                      exact c108.elim
                  · skip
                    have hP : va_P (gD G) vwC (wMR G h dg mp ml th n t pl pn xy pt sz rs ou wr sl q_86 a_86 b_86 va9_86 oa oc ok xs9_86 ys9_86) H := hP
                    have hD : va_D A (wMR G h dg mp ml th n t pl pn xy pt sz rs ou wr sl q_86 a_86 b_86 va9_86 oa oc ok xs9_86 ys9_86) := hD
                    refine W.eq (g2 := F0 mm 89 ls [.int (-1)]) rfl ?_
                    refine lv_goto (tgt := 104) hx hb d_M_parts_89 (by decide) ?_
                    refine lv_istore (lv' := [(6, .int (-1)), (5, .int (nI 1)), (4, .int (nI (x1.length + 1))), (0, .ref (h 0)), (1, .int (nI K)), (2, .int (nI m))]) hx hb d_M_parts_104 hl (by decide) rfl (fun ls hl => ?_)
                    refine lv_iload hx hb d_M_parts_106 (lv_at hl 0 rfl) ?_
                    refine lv_if_ge (tgt := 113) hx hb d_M_parts_108 (by decide) (fun c108 => ?_) (fun c108 => ?_)
                    · skip
                      exact absurd c108 (by decide)
                    · skip
                      refine lv_iconst (v := (-1)) hx hb d_M_parts_111 (by decide) ?_
                      exact yr_i (ws := wMR G h dg mp ml th n t pl pn xy pt sz rs ou wr sl q_86 a_86 b_86 va9_86 oa oc ok xs9_86 ys9_86) hx hb hrt hlocks (Or.inr ⟨_, _, _, _, _, _, hS9.trans (by rw [pa_s]; unfold paI; rw [if_pos c19.1, hs_55]; dsimp only; first | (rw [if_neg (by decide), if_pos rfl, hs_86]) | (rw [if_neg (by decide), if_neg (by decide), hs_93])), rfl, rfl⟩) rfl hK hP hD hS d_M_parts_112
              · skip
                exact absurd c69 (by decide)
            · skip
              exact absurd c62 (by decide)
          · skip
            have hP : va_P (gD G) vwC (wMR G h dg mp ml th n t pl pn xy pt sz rs ou wr sl q_55 fk fp v1 oa oc ok (x1 ++ [(nI (K - 3))] ++ [nI 0]) y1) H := hP
            have hD : va_D A (wMR G h dg mp ml th n t pl pn xy pt sz rs ou wr sl q_55 fk fp v1 oa oc ok (x1 ++ [(nI (K - 3))] ++ [nI 0]) y1) := hD
            refine W.eq (g2 := F0 mm 58 ls [.int (nI 2)]) rfl ?_
            have b3 := lk_bd b2 hs_55
            refine lv_istore (lv' := [(5, .int (nI 2)), (4, .int (nI (x1.length + 1))), (0, .ref (h 0)), (1, .int (nI K)), (2, .int (nI m))]) hx hb d_M_parts_58 hl (by decide) rfl (fun ls hl => ?_)
            refine lv_iload hx hb d_M_parts_60 (lv_at hl 0 rfl) ?_
            refine yn_if_ge (a := 2) (tgt := 67) hx hb d_M_parts_62 (by decide) (by omega) (fun c62 => ?_) (fun c62 => ?_)
            · skip
              refine lv_iload hx hb d_M_parts_67 (lv_at hl 0 rfl) ?_
              refine yn_if_ne (a := 2) (tgt := 76) hx hb d_M_parts_69 (by decide) (by omega) (fun c69 => ?_) (fun c69 => ?_)
              · skip
                refine lv_iload hx hb d_M_parts_76 (lv_at hl 0 rfl) ?_
                refine lv_iconst (v := nI 1) hx hb d_M_parts_78 (by decide) ?_
                refine yn_icmp_ne (a := 2) (b := 1) (tgt := 92) hx hb d_M_parts_79 (by decide) (by omega) (by omega) (fun c79 => ?_) (fun c79 => ?_)
                · skip
                  refine lv_aload_n hx hb d_M_parts_92 rfl (lv_at hl 2 rfl) ?_
                  refine y_callW (y_runV (As := []) (rest := []) hx hb hml hown (c_M_coordinate l G h dg mp ml th n t pl pn xy pt sz rs ou wr sl q_55 fk fp v1 oa oc ok (x1 ++ [(nI (K - 3))] ++ [nI 0]) y1  (by omega) (by omega) (ht) (by omega) (by omega) (by omega) (by first | omega | (simp only [List.length_append, List.length_singleton, List.length_cons, List.length_nil, List.length_set]; omega)) (by omega) (by omega)) (gV (n := 0) hg tk_857 tk_859 (gt_s 47 (by decide +kernel) (by decide +kernel)) tk_7 tk_860 (by decide +kernel) ⟨Nat.le_of_ble_eq_true rfl, Nat.le_of_ble_eq_true rfl⟩) (va_recv hK hP (ci := 5) (q0 := 0) rfl rfl) (y_preW hE hK hP hD hS hA) rfl rfl hl.1 rfl (lv_room (Nat.le_of_ble_eq_true rfl)) d_M_parts_93 ⟨Nat.le_of_ble_eq_true rfl, Nat.le_of_ble_eq_true rfl⟩) hD hS hA (fun _ _ _ _ _ _ hp => False.elim hp) (fun v9 w9 H locs hp hlw hP hD hS => ?_)
                  rcases hp with ⟨q_93, ys9_93, va9_93, hs_93, rfl, rfl⟩ | ⟨a_93, b_93, q_93, va9_93, hs_93, rfl, rfl⟩
                  · skip
                    have hP : va_P (gD G) vwC (wMR G h dg mp ml th n t pl pn xy pt sz rs ou wr sl q_93 fk fp va9_93 oa oc ok (x1 ++ [(nI (K - 3))] ++ [nI 0]) ys9_93) H := hP
                    have hD : va_D A (wMR G h dg mp ml th n t pl pn xy pt sz rs ou wr sl q_93 fk fp va9_93 oa oc ok (x1 ++ [(nI (K - 3))] ++ [nI 0]) ys9_93) := hD
                    refine W.eq (g2 := F0 mm 96 ls [.int (nI 1)]) rfl ?_
                    have b5 := cd_bd b3.2 hs_93
                    refine yn_if_eq (a := 1) (tgt := 103) hx hb d_M_parts_96 (by decide) (by omega) (fun c96 => ?_) (fun c96 => ?_)
                    · skip
                      exact absurd c96 (by decide)
                    · skip
                      refine lv_iconst (v := nI 1) hx hb d_M_parts_99 (by decide) ?_
                      refine lv_goto (tgt := 104) hx hb d_M_parts_100 (by decide) ?_
                      refine lv_istore (lv' := [(6, .int (nI 1)), (5, .int (nI 2)), (4, .int (nI (x1.length + 1))), (0, .ref (h 0)), (1, .int (nI K)), (2, .int (nI m))]) hx hb d_M_parts_104 hl (by decide) rfl (fun ls hl => ?_)
                      refine lv_iload hx hb d_M_parts_106 (lv_at hl 0 rfl) ?_
                      refine yn_if_ge (a := 1) (tgt := 113) hx hb d_M_parts_108 (by decide) (by omega) (fun c108 => ?_) (fun c108 => ?_)
                      · skip
                        refine lv_aload_n hx hb d_M_parts_113 rfl (lv_at hl 3 rfl) ?_
                        refine lv_iload hx hb d_M_parts_114 (lv_at hl 2 rfl) ?_
                        refine lv_iload hx hb d_M_parts_116 (lv_at hl 0 rfl) ?_
                        refine y_callW (y_runV (As := [.int (nI (x1.length + 1)), .int (nI 1)]) (rest := []) hx hb hml hown (c_M_close l G h dg mp ml th n t pl pn xy pt sz rs ou wr sl q_93 fk fp va9_93 oa oc ok (x1 ++ [(nI (K - 3))] ++ [nI 0]) ys9_93 (x1.length + 1) (nI 1) (by omega) (by omega) (by omega) (by first | omega | (simp only [List.length_append, List.length_singleton, List.length_cons, List.length_nil, List.length_set]; omega)) (by omega) (by first | omega | (simp only [List.length_append, List.length_singleton, List.length_cons, List.length_nil, List.length_set]; omega))) (gV (n := 2) hg tk_883 tk_885 (gt_s 52 (by decide +kernel) (by decide +kernel)) tk_7 tk_886 (by decide +kernel) ⟨Nat.le_of_ble_eq_true rfl, Nat.le_of_ble_eq_true rfl⟩) (va_recv hK hP (ci := 5) (q0 := 0) rfl rfl) (y_preW hE hK hP hD hS hA) rfl rfl hl.1 rfl (lv_room (Nat.le_of_ble_eq_true rfl)) d_M_parts_118 ⟨Nat.le_of_ble_eq_true rfl, Nat.le_of_ble_eq_true rfl⟩) hD hS hA (fun _ _ _ _ _ _ hp => False.elim hp) (fun v9 w9 H locs hp hlw hP hD hS => ?_)
                        obtain ⟨rfl, rfl⟩ := hp
                        have hP : va_P (gD G) vwC (wMR G h dg mp ml th n t pl pn xy pt sz rs ou wr sl q_93 fk fp va9_93 oa oc ok ((x1 ++ [(nI (K - 3))] ++ [nI 0]).set (x1.length + 1) (nI 1)) ys9_93) H := hP
                        have hD : va_D A (wMR G h dg mp ml th n t pl pn xy pt sz rs ou wr sl q_93 fk fp va9_93 oa oc ok ((x1 ++ [(nI (K - 3))] ++ [nI 0]).set (x1.length + 1) (nI 1)) ys9_93) := hD
                        refine W.eq (g2 := F0 mm 121 ls []) rfl ?_
                        have hpa : paI t n dg mp ml K q x1 y1 = .inr (q_93, (x1 ++ [(nI (K - 3))] ++ [nI 0]).set (x1.length + 1) (nI 1), ys9_93) := by unfold paI; rw [if_pos c19.1, hs_55]; dsimp only; first | (rw [if_neg (by decide), if_pos rfl, hs_86]) | (rw [if_neg (by decide), if_neg (by decide), hs_93]) | rw [if_pos rfl]
                        have b6 := paI_bd hq hx1 hy1 hpa
                        refine lv_iinc (v := nI (m + 1)) (lv' := [(2, .int (nI (m + 1))), (6, .int (nI 1)), (5, .int (nI 2)), (4, .int (nI (x1.length + 1))), (0, .ref (h 0)), (1, .int (nI K))]) hx hb d_M_parts_121 hl (k := 5) rfl (y_inc _) (by decide) rfl (fun ls hl => ?_)
                        refine lv_aload_n hx hb d_M_parts_124 rfl (lv_at hl 4 rfl) ?_
                        refine y_callW (y_runV (As := []) (rest := []) hx hb hml hown (c_M_goesOn l G h dg mp ml th n t pl pn xy pt sz rs ou wr sl q_93 fk fp va9_93 oa oc ok ((x1 ++ [(nI (K - 3))] ++ [nI 0]).set (x1.length + 1) (nI 1)) ys9_93  (by omega) (by omega) (ht)) (gV (n := 0) hg tk_879 tk_881 (gt_s 51 (by decide +kernel) (by decide +kernel)) tk_7 tk_882 (by decide +kernel) ⟨Nat.le_of_ble_eq_true rfl, Nat.le_of_ble_eq_true rfl⟩) (va_recv hK hP (ci := 5) (q0 := 0) rfl rfl) (y_preW hE hK hP hD hS hA) rfl rfl hl.1 rfl (lv_room (Nat.le_of_ble_eq_true rfl)) d_M_parts_125 ⟨Nat.le_of_ble_eq_true rfl, Nat.le_of_ble_eq_true rfl⟩) hD hS hA (fun _ _ _ _ _ _ hp => False.elim hp) (fun v9 w9 H locs hp hlw hP hD hS => ?_)
                        rcases hp with ⟨hs_125, rfl, rfl⟩ | ⟨hs_125, rfl, rfl⟩ | ⟨hs_125, rfl, rfl⟩
                        · skip
                          have hP : va_P (gD G) vwC (wMR G h dg mp ml th n t pl pn xy pt sz rs ou wr sl (rn blN t n q_93 + 1) fk fp va9_93 oa oc ok ((x1 ++ [(nI (K - 3))] ++ [nI 0]).set (x1.length + 1) (nI 1)) ys9_93) H := hP
                          have hD : va_D A (wMR G h dg mp ml th n t pl pn xy pt sz rs ou wr sl (rn blN t n q_93 + 1) fk fp va9_93 oa oc ok ((x1 ++ [(nI (K - 3))] ++ [nI 0]).set (x1.length + 1) (nI 1)) ys9_93) := hD
                          refine W.eq (g2 := F0 mm 128 ls [.int (nI 1)]) rfl ?_
                          have b7 := goM_bd b6.2.1 (go_44 hs_125)
                          refine lv_istore_n (lv' := [(3, .int (nI 1)), (2, .int (nI (m + 1))), (6, .int (nI 1)), (5, .int (nI 2)), (4, .int (nI (x1.length + 1))), (0, .ref (h 0)), (1, .int (nI K))]) hx hb d_M_parts_128 rfl hl (by decide) rfl (fun ls hl => ?_)
                          refine lv_goto (tgt := 4) hx hb d_M_parts_129 (by decide) ?_
                          refine lv_iload_n hx hb d_M_parts_4 rfl (lv_at hl 0 rfl) ?_
                          refine lv_iconst (v := nI 1) hx hb d_M_parts_5 (by decide) ?_
                          refine yn_icmp_ne (a := 1) (b := 1) (tgt := 132) hx hb d_M_parts_6 (by decide) (by omega) (by omega) (fun c6 => ?_) (fun c6 => ?_)
                          · skip
                            exact absurd c6 (by decide)
                          · skip
                            exact ih9 F (rn blN t n q_93 + 1) (m + 1) va9_93 ((x1 ++ [(nI (K - 3))] ++ [nI 0]).set (x1.length + 1) (nI 1)) ys9_93 (by omega) (by omega) (by omega) (by omega) (by omega) (by omega) (hS9.trans (by rw [pa_s, hpa]; dsimp only; rw [go_44 hs_125])) _ _ _ hP hD hS (lv_sub hl [5, 6, 1] (rfl))
                        · skip
                          have hP : va_P (gD G) vwC (wMR G h dg mp ml th n t pl pn xy pt sz rs ou wr sl (rn blN t n q_93 + 1) fk fp va9_93 oa oc ok ((x1 ++ [(nI (K - 3))] ++ [nI 0]).set (x1.length + 1) (nI 1)) ys9_93) H := hP
                          have hD : va_D A (wMR G h dg mp ml th n t pl pn xy pt sz rs ou wr sl (rn blN t n q_93 + 1) fk fp va9_93 oa oc ok ((x1 ++ [(nI (K - 3))] ++ [nI 0]).set (x1.length + 1) (nI 1)) ys9_93) := hD
                          refine W.eq (g2 := F0 mm 128 ls [.int (nI 0)]) rfl ?_
                          have b7 := goM_bd b6.2.1 (go_41 hs_125)
                          refine lv_istore_n (lv' := [(3, .int (nI 0)), (2, .int (nI (m + 1))), (6, .int (nI 1)), (5, .int (nI 2)), (4, .int (nI (x1.length + 1))), (0, .ref (h 0)), (1, .int (nI K))]) hx hb d_M_parts_128 rfl hl (by decide) rfl (fun ls hl => ?_)
                          refine lv_goto (tgt := 4) hx hb d_M_parts_129 (by decide) ?_
                          refine lv_iload_n hx hb d_M_parts_4 rfl (lv_at hl 0 rfl) ?_
                          refine lv_iconst (v := nI 1) hx hb d_M_parts_5 (by decide) ?_
                          refine yn_icmp_ne (a := 0) (b := 1) (tgt := 132) hx hb d_M_parts_6 (by decide) (by omega) (by omega) (fun c6 => ?_) (fun c6 => ?_)
                          · skip
                            refine lv_iload_n hx hb d_M_parts_132 rfl (lv_at hl 0 rfl) ?_
                            refine yn_if_ge (a := 0) (tgt := 140) hx hb d_M_parts_133 (by decide) (by omega) (fun c133 => ?_) (fun c133 => ?_)
                            · skip
                              refine lv_iload_n hx hb d_M_parts_140 rfl (lv_at hl 1 rfl) ?_
                              exact yr_i (ws := wMR G h dg mp ml th n t pl pn xy pt sz rs ou wr sl (rn blN t n q_93 + 1) fk fp va9_93 oa oc ok ((x1 ++ [(nI (K - 3))] ++ [nI 0]).set (x1.length + 1) (nI 1)) ys9_93) hx hb hrt hlocks (by first | exact Or.inl ⟨_, _, _, _, _, hS9.trans (by rw [pa_s, hpa]; dsimp only; rw [go_41 hs_125]), rfl, rfl⟩ | exact Or.inr ⟨_, _, _, _, _, _, hS9.trans (by rw [pa_s, hpa]; dsimp only; rw [go_xx hs_125]), rfl, rfl⟩) rfl hK hP hD hS d_M_parts_141
                            · skip
                              exact absurd c133 (by decide)
                          · skip
                            exact absurd c6 (by decide)
                        · skip
                          have hP : va_P (gD G) vwC (wMR G h dg mp ml th n t pl pn xy pt sz rs ou wr sl (rn blN t n q_93) (uxp (hr t n (rn blN t n q_93))) (rn blN t n q_93) va9_93 oa oc ok ((x1 ++ [(nI (K - 3))] ++ [nI 0]).set (x1.length + 1) (nI 1)) ys9_93) H := hP
                          have hD : va_D A (wMR G h dg mp ml th n t pl pn xy pt sz rs ou wr sl (rn blN t n q_93) (uxp (hr t n (rn blN t n q_93))) (rn blN t n q_93) va9_93 oa oc ok ((x1 ++ [(nI (K - 3))] ++ [nI 0]).set (x1.length + 1) (nI 1)) ys9_93) := hD
                          refine W.eq (g2 := F0 mm 128 ls [.int (-1)]) rfl ?_
                          refine lv_istore_n (lv' := [(3, .int (-1)), (2, .int (nI (m + 1))), (6, .int (nI 1)), (5, .int (nI 2)), (4, .int (nI (x1.length + 1))), (0, .ref (h 0)), (1, .int (nI K))]) hx hb d_M_parts_128 rfl hl (by decide) rfl (fun ls hl => ?_)
                          refine lv_goto (tgt := 4) hx hb d_M_parts_129 (by decide) ?_
                          refine lv_iload_n hx hb d_M_parts_4 rfl (lv_at hl 0 rfl) ?_
                          refine lv_iconst (v := nI 1) hx hb d_M_parts_5 (by decide) ?_
                          refine lv_icmp_ne (tgt := 132) hx hb d_M_parts_6 (by decide) (fun c6 => ?_) (fun c6 => ?_)
                          · skip
                            refine lv_iload_n hx hb d_M_parts_132 rfl (lv_at hl 0 rfl) ?_
                            refine lv_if_ge (tgt := 140) hx hb d_M_parts_133 (by decide) (fun c133 => ?_) (fun c133 => ?_)
                            · skip
                              exact absurd c133 (by decide)
                            · skip
                              refine lv_iconst (v := (-1)) hx hb d_M_parts_136 (by decide) ?_
                              refine lv_goto (tgt := 141) hx hb d_M_parts_137 (by decide) ?_
                              exact yr_i (ws := wMR G h dg mp ml th n t pl pn xy pt sz rs ou wr sl (rn blN t n q_93) (uxp (hr t n (rn blN t n q_93))) (rn blN t n q_93) va9_93 oa oc ok ((x1 ++ [(nI (K - 3))] ++ [nI 0]).set (x1.length + 1) (nI 1)) ys9_93) hx hb hrt hlocks (by first | exact Or.inl ⟨_, _, _, _, _, hS9.trans (by rw [pa_s, hpa]; dsimp only; rw [go_41 hs_125]), rfl, rfl⟩ | exact Or.inr ⟨_, _, _, _, _, _, hS9.trans (by rw [pa_s, hpa]; dsimp only; rw [go_xx hs_125]), rfl, rfl⟩) rfl hK hP hD hS d_M_parts_141
                          · skip
                            exact absurd c6 (by decide)
                      · skip
                        exact absurd c108 (by decide)
                  · skip
                    have hP : va_P (gD G) vwC (wMR G h dg mp ml th n t pl pn xy pt sz rs ou wr sl q_93 a_93 b_93 va9_93 oa oc ok (x1 ++ [(nI (K - 3))] ++ [nI 0]) y1) H := hP
                    have hD : va_D A (wMR G h dg mp ml th n t pl pn xy pt sz rs ou wr sl q_93 a_93 b_93 va9_93 oa oc ok (x1 ++ [(nI (K - 3))] ++ [nI 0]) y1) := hD
                    refine W.eq (g2 := F0 mm 96 ls [.int (nI 0)]) rfl ?_
                    refine yn_if_eq (a := 0) (tgt := 103) hx hb d_M_parts_96 (by decide) (by omega) (fun c96 => ?_) (fun c96 => ?_)
                    · skip
                      refine lv_iconst (v := (-1)) hx hb d_M_parts_103 (by decide) ?_
                      refine lv_istore (lv' := [(6, .int (-1)), (5, .int (nI 2)), (4, .int (nI (x1.length + 1))), (0, .ref (h 0)), (1, .int (nI K)), (2, .int (nI m))]) hx hb d_M_parts_104 hl (by decide) rfl (fun ls hl => ?_)
                      refine lv_iload hx hb d_M_parts_106 (lv_at hl 0 rfl) ?_
                      refine lv_if_ge (tgt := 113) hx hb d_M_parts_108 (by decide) (fun c108 => ?_) (fun c108 => ?_)
                      · skip
                        exact absurd c108 (by decide)
                      · skip
                        refine lv_iconst (v := (-1)) hx hb d_M_parts_111 (by decide) ?_
                        exact yr_i (ws := wMR G h dg mp ml th n t pl pn xy pt sz rs ou wr sl q_93 a_93 b_93 va9_93 oa oc ok (x1 ++ [(nI (K - 3))] ++ [nI 0]) y1) hx hb hrt hlocks (Or.inr ⟨_, _, _, _, _, _, hS9.trans (by rw [pa_s]; unfold paI; rw [if_pos c19.1, hs_55]; dsimp only; first | (rw [if_neg (by decide), if_pos rfl, hs_86]) | (rw [if_neg (by decide), if_neg (by decide), hs_93])), rfl, rfl⟩) rfl hK hP hD hS d_M_parts_112
                    · skip
                      exact absurd c96 (by decide)
                · skip
                  exact absurd c79 (by decide)
              · skip
                exact absurd c69 (by decide)
            · skip
              exact absurd c62 (by decide)
          · skip
            have hP : va_P (gD G) vwC (wMR G h dg mp ml th n t pl pn xy pt sz rs ou wr sl q_55 a_55 b_55 v1 oa oc ok (x1 ++ [(nI (K - 3))] ++ [nI 0]) y1) H := hP
            have hD : va_D A (wMR G h dg mp ml th n t pl pn xy pt sz rs ou wr sl q_55 a_55 b_55 v1 oa oc ok (x1 ++ [(nI (K - 3))] ++ [nI 0]) y1) := hD
            refine W.eq (g2 := F0 mm 58 ls [.int (-1)]) rfl ?_
            refine lv_istore (lv' := [(5, .int (-1)), (4, .int (nI (x1.length + 1))), (0, .ref (h 0)), (1, .int (nI K)), (2, .int (nI m))]) hx hb d_M_parts_58 hl (by decide) rfl (fun ls hl => ?_)
            refine lv_iload hx hb d_M_parts_60 (lv_at hl 0 rfl) ?_
            refine lv_if_ge (tgt := 67) hx hb d_M_parts_62 (by decide) (fun c62 => ?_) (fun c62 => ?_)
            · skip
              exact absurd c62 (by decide)
            · skip
              refine lv_iconst (v := (-1)) hx hb d_M_parts_65 (by decide) ?_
              exact yr_i (ws := wMR G h dg mp ml th n t pl pn xy pt sz rs ou wr sl q_55 a_55 b_55 v1 oa oc ok (x1 ++ [(nI (K - 3))] ++ [nI 0]) y1) hx hb hrt hlocks (Or.inr ⟨_, _, _, _, _, _, hS9.trans (by rw [pa_s]; unfold paI; rw [if_pos c19.1, hs_55]), rfl, rfl⟩) rfl hK hP hD hS d_M_parts_66
        · skip
          refine lv_iconst (v := nI 1) hx hb d_M_parts_50 (by decide) ?_
          refine lv_goto (tgt := 55) hx hb d_M_parts_51 (by decide) ?_
          refine y_eqi (y := bz (decide (K = 4))) (bz_t c47) ?_
          refine y_callW (y_runV (As := [.int (bz (decide (K = 4)))]) (rest := []) hx hb hml hown (c_M_looked l G h dg mp ml th n t pl pn xy pt sz rs ou wr sl (rn blN t n q) fk fp v1 oa oc ok (x1 ++ [(nI (K - 3))] ++ [nI 0]) y1 (decide (K = 4)) (by omega) (by omega) (ht)) (gV (n := 1) hg tk_837 tk_839 (gt_s 42 (by decide +kernel) (by decide +kernel)) tk_7 tk_840 (by decide +kernel) ⟨Nat.le_of_ble_eq_true rfl, Nat.le_of_ble_eq_true rfl⟩) (va_recv hK hP (ci := 5) (q0 := 0) rfl rfl) (y_preW hE hK hP hD hS hA) rfl rfl hl.1 rfl (lv_room (Nat.le_of_ble_eq_true rfl)) d_M_parts_55 ⟨Nat.le_of_ble_eq_true rfl, Nat.le_of_ble_eq_true rfl⟩) hD hS hA (fun _ _ _ _ _ _ hp => False.elim hp) (fun v9 w9 H locs hp hlw hP hD hS => ?_)
          rcases hp with ⟨q_55, hs_55, rfl, rfl⟩ | ⟨q_55, hs_55, rfl, rfl⟩ | ⟨q_55, hs_55, rfl, rfl⟩ | ⟨a_55, b_55, q_55, hs_55, rfl, rfl⟩
          · skip
            have hP : va_P (gD G) vwC (wMR G h dg mp ml th n t pl pn xy pt sz rs ou wr sl q_55 fk fp v1 oa oc ok (x1 ++ [(nI (K - 3))] ++ [nI 0]) y1) H := hP
            have hD : va_D A (wMR G h dg mp ml th n t pl pn xy pt sz rs ou wr sl q_55 fk fp v1 oa oc ok (x1 ++ [(nI (K - 3))] ++ [nI 0]) y1) := hD
            refine W.eq (g2 := F0 mm 58 ls [.int (nI 0)]) rfl ?_
            have b3 := lk_bd b2 hs_55
            refine lv_istore (lv' := [(5, .int (nI 0)), (4, .int (nI (x1.length + 1))), (0, .ref (h 0)), (1, .int (nI K)), (2, .int (nI m))]) hx hb d_M_parts_58 hl (by decide) rfl (fun ls hl => ?_)
            refine lv_iload hx hb d_M_parts_60 (lv_at hl 0 rfl) ?_
            refine yn_if_ge (a := 0) (tgt := 67) hx hb d_M_parts_62 (by decide) (by omega) (fun c62 => ?_) (fun c62 => ?_)
            · skip
              refine lv_iload hx hb d_M_parts_67 (lv_at hl 0 rfl) ?_
              refine yn_if_ne (a := 0) (tgt := 76) hx hb d_M_parts_69 (by decide) (by omega) (fun c69 => ?_) (fun c69 => ?_)
              · skip
                exact absurd c69 (by decide)
              · skip
                refine lv_iconst (v := nI 0) hx hb d_M_parts_72 (by decide) ?_
                refine lv_goto (tgt := 104) hx hb d_M_parts_73 (by decide) ?_
                refine lv_istore (lv' := [(6, .int (nI 0)), (5, .int (nI 0)), (4, .int (nI (x1.length + 1))), (0, .ref (h 0)), (1, .int (nI K)), (2, .int (nI m))]) hx hb d_M_parts_104 hl (by decide) rfl (fun ls hl => ?_)
                refine lv_iload hx hb d_M_parts_106 (lv_at hl 0 rfl) ?_
                refine yn_if_ge (a := 0) (tgt := 113) hx hb d_M_parts_108 (by decide) (by omega) (fun c108 => ?_) (fun c108 => ?_)
                · skip
                  refine lv_aload_n hx hb d_M_parts_113 rfl (lv_at hl 3 rfl) ?_
                  refine lv_iload hx hb d_M_parts_114 (lv_at hl 2 rfl) ?_
                  refine lv_iload hx hb d_M_parts_116 (lv_at hl 0 rfl) ?_
                  refine y_callW (y_runV (As := [.int (nI (x1.length + 1)), .int (nI 0)]) (rest := []) hx hb hml hown (c_M_close l G h dg mp ml th n t pl pn xy pt sz rs ou wr sl q_55 fk fp v1 oa oc ok (x1 ++ [(nI (K - 3))] ++ [nI 0]) y1 (x1.length + 1) (nI 0) (by omega) (by omega) (by omega) (by first | omega | (simp only [List.length_append, List.length_singleton, List.length_cons, List.length_nil, List.length_set]; omega)) (by omega) (by first | omega | (simp only [List.length_append, List.length_singleton, List.length_cons, List.length_nil, List.length_set]; omega))) (gV (n := 2) hg tk_883 tk_885 (gt_s 52 (by decide +kernel) (by decide +kernel)) tk_7 tk_886 (by decide +kernel) ⟨Nat.le_of_ble_eq_true rfl, Nat.le_of_ble_eq_true rfl⟩) (va_recv hK hP (ci := 5) (q0 := 0) rfl rfl) (y_preW hE hK hP hD hS hA) rfl rfl hl.1 rfl (lv_room (Nat.le_of_ble_eq_true rfl)) d_M_parts_118 ⟨Nat.le_of_ble_eq_true rfl, Nat.le_of_ble_eq_true rfl⟩) hD hS hA (fun _ _ _ _ _ _ hp => False.elim hp) (fun v9 w9 H locs hp hlw hP hD hS => ?_)
                  obtain ⟨rfl, rfl⟩ := hp
                  have hP : va_P (gD G) vwC (wMR G h dg mp ml th n t pl pn xy pt sz rs ou wr sl q_55 fk fp v1 oa oc ok ((x1 ++ [(nI (K - 3))] ++ [nI 0]).set (x1.length + 1) (nI 0)) y1) H := hP
                  have hD : va_D A (wMR G h dg mp ml th n t pl pn xy pt sz rs ou wr sl q_55 fk fp v1 oa oc ok ((x1 ++ [(nI (K - 3))] ++ [nI 0]).set (x1.length + 1) (nI 0)) y1) := hD
                  refine W.eq (g2 := F0 mm 121 ls []) rfl ?_
                  have hpa : paI t n dg mp ml K q x1 y1 = .inr (q_55, (x1 ++ [(nI (K - 3))] ++ [nI 0]).set (x1.length + 1) (nI 0), y1) := by unfold paI; rw [if_pos c19.1, hs_55]; dsimp only; first | (rw [if_neg (by decide), if_pos rfl, hs_86]) | (rw [if_neg (by decide), if_neg (by decide), hs_93]) | rw [if_pos rfl]
                  have b6 := paI_bd hq hx1 hy1 hpa
                  refine lv_iinc (v := nI (m + 1)) (lv' := [(2, .int (nI (m + 1))), (6, .int (nI 0)), (5, .int (nI 0)), (4, .int (nI (x1.length + 1))), (0, .ref (h 0)), (1, .int (nI K))]) hx hb d_M_parts_121 hl (k := 5) rfl (y_inc _) (by decide) rfl (fun ls hl => ?_)
                  refine lv_aload_n hx hb d_M_parts_124 rfl (lv_at hl 4 rfl) ?_
                  refine y_callW (y_runV (As := []) (rest := []) hx hb hml hown (c_M_goesOn l G h dg mp ml th n t pl pn xy pt sz rs ou wr sl q_55 fk fp v1 oa oc ok ((x1 ++ [(nI (K - 3))] ++ [nI 0]).set (x1.length + 1) (nI 0)) y1  (by omega) (by omega) (ht)) (gV (n := 0) hg tk_879 tk_881 (gt_s 51 (by decide +kernel) (by decide +kernel)) tk_7 tk_882 (by decide +kernel) ⟨Nat.le_of_ble_eq_true rfl, Nat.le_of_ble_eq_true rfl⟩) (va_recv hK hP (ci := 5) (q0 := 0) rfl rfl) (y_preW hE hK hP hD hS hA) rfl rfl hl.1 rfl (lv_room (Nat.le_of_ble_eq_true rfl)) d_M_parts_125 ⟨Nat.le_of_ble_eq_true rfl, Nat.le_of_ble_eq_true rfl⟩) hD hS hA (fun _ _ _ _ _ _ hp => False.elim hp) (fun v9 w9 H locs hp hlw hP hD hS => ?_)
                  rcases hp with ⟨hs_125, rfl, rfl⟩ | ⟨hs_125, rfl, rfl⟩ | ⟨hs_125, rfl, rfl⟩
                  · skip
                    have hP : va_P (gD G) vwC (wMR G h dg mp ml th n t pl pn xy pt sz rs ou wr sl (rn blN t n q_55 + 1) fk fp v1 oa oc ok ((x1 ++ [(nI (K - 3))] ++ [nI 0]).set (x1.length + 1) (nI 0)) y1) H := hP
                    have hD : va_D A (wMR G h dg mp ml th n t pl pn xy pt sz rs ou wr sl (rn blN t n q_55 + 1) fk fp v1 oa oc ok ((x1 ++ [(nI (K - 3))] ++ [nI 0]).set (x1.length + 1) (nI 0)) y1) := hD
                    refine W.eq (g2 := F0 mm 128 ls [.int (nI 1)]) rfl ?_
                    have b7 := goM_bd b6.2.1 (go_44 hs_125)
                    refine lv_istore_n (lv' := [(3, .int (nI 1)), (2, .int (nI (m + 1))), (6, .int (nI 0)), (5, .int (nI 0)), (4, .int (nI (x1.length + 1))), (0, .ref (h 0)), (1, .int (nI K))]) hx hb d_M_parts_128 rfl hl (by decide) rfl (fun ls hl => ?_)
                    refine lv_goto (tgt := 4) hx hb d_M_parts_129 (by decide) ?_
                    refine lv_iload_n hx hb d_M_parts_4 rfl (lv_at hl 0 rfl) ?_
                    refine lv_iconst (v := nI 1) hx hb d_M_parts_5 (by decide) ?_
                    refine yn_icmp_ne (a := 1) (b := 1) (tgt := 132) hx hb d_M_parts_6 (by decide) (by omega) (by omega) (fun c6 => ?_) (fun c6 => ?_)
                    · skip
                      exact absurd c6 (by decide)
                    · skip
                      exact ih9 F (rn blN t n q_55 + 1) (m + 1) v1 ((x1 ++ [(nI (K - 3))] ++ [nI 0]).set (x1.length + 1) (nI 0)) y1 (by omega) (by omega) (by omega) (by omega) (by omega) (by omega) (hS9.trans (by rw [pa_s, hpa]; dsimp only; rw [go_44 hs_125])) _ _ _ hP hD hS (lv_sub hl [5, 6, 1] (rfl))
                  · skip
                    have hP : va_P (gD G) vwC (wMR G h dg mp ml th n t pl pn xy pt sz rs ou wr sl (rn blN t n q_55 + 1) fk fp v1 oa oc ok ((x1 ++ [(nI (K - 3))] ++ [nI 0]).set (x1.length + 1) (nI 0)) y1) H := hP
                    have hD : va_D A (wMR G h dg mp ml th n t pl pn xy pt sz rs ou wr sl (rn blN t n q_55 + 1) fk fp v1 oa oc ok ((x1 ++ [(nI (K - 3))] ++ [nI 0]).set (x1.length + 1) (nI 0)) y1) := hD
                    refine W.eq (g2 := F0 mm 128 ls [.int (nI 0)]) rfl ?_
                    have b7 := goM_bd b6.2.1 (go_41 hs_125)
                    refine lv_istore_n (lv' := [(3, .int (nI 0)), (2, .int (nI (m + 1))), (6, .int (nI 0)), (5, .int (nI 0)), (4, .int (nI (x1.length + 1))), (0, .ref (h 0)), (1, .int (nI K))]) hx hb d_M_parts_128 rfl hl (by decide) rfl (fun ls hl => ?_)
                    refine lv_goto (tgt := 4) hx hb d_M_parts_129 (by decide) ?_
                    refine lv_iload_n hx hb d_M_parts_4 rfl (lv_at hl 0 rfl) ?_
                    refine lv_iconst (v := nI 1) hx hb d_M_parts_5 (by decide) ?_
                    refine yn_icmp_ne (a := 0) (b := 1) (tgt := 132) hx hb d_M_parts_6 (by decide) (by omega) (by omega) (fun c6 => ?_) (fun c6 => ?_)
                    · skip
                      refine lv_iload_n hx hb d_M_parts_132 rfl (lv_at hl 0 rfl) ?_
                      refine yn_if_ge (a := 0) (tgt := 140) hx hb d_M_parts_133 (by decide) (by omega) (fun c133 => ?_) (fun c133 => ?_)
                      · skip
                        refine lv_iload_n hx hb d_M_parts_140 rfl (lv_at hl 1 rfl) ?_
                        exact yr_i (ws := wMR G h dg mp ml th n t pl pn xy pt sz rs ou wr sl (rn blN t n q_55 + 1) fk fp v1 oa oc ok ((x1 ++ [(nI (K - 3))] ++ [nI 0]).set (x1.length + 1) (nI 0)) y1) hx hb hrt hlocks (by first | exact Or.inl ⟨_, _, _, _, _, hS9.trans (by rw [pa_s, hpa]; dsimp only; rw [go_41 hs_125]), rfl, rfl⟩ | exact Or.inr ⟨_, _, _, _, _, _, hS9.trans (by rw [pa_s, hpa]; dsimp only; rw [go_xx hs_125]), rfl, rfl⟩) rfl hK hP hD hS d_M_parts_141
                      · skip
                        exact absurd c133 (by decide)
                    · skip
                      exact absurd c6 (by decide)
                  · skip
                    have hP : va_P (gD G) vwC (wMR G h dg mp ml th n t pl pn xy pt sz rs ou wr sl (rn blN t n q_55) (uxp (hr t n (rn blN t n q_55))) (rn blN t n q_55) v1 oa oc ok ((x1 ++ [(nI (K - 3))] ++ [nI 0]).set (x1.length + 1) (nI 0)) y1) H := hP
                    have hD : va_D A (wMR G h dg mp ml th n t pl pn xy pt sz rs ou wr sl (rn blN t n q_55) (uxp (hr t n (rn blN t n q_55))) (rn blN t n q_55) v1 oa oc ok ((x1 ++ [(nI (K - 3))] ++ [nI 0]).set (x1.length + 1) (nI 0)) y1) := hD
                    refine W.eq (g2 := F0 mm 128 ls [.int (-1)]) rfl ?_
                    refine lv_istore_n (lv' := [(3, .int (-1)), (2, .int (nI (m + 1))), (6, .int (nI 0)), (5, .int (nI 0)), (4, .int (nI (x1.length + 1))), (0, .ref (h 0)), (1, .int (nI K))]) hx hb d_M_parts_128 rfl hl (by decide) rfl (fun ls hl => ?_)
                    refine lv_goto (tgt := 4) hx hb d_M_parts_129 (by decide) ?_
                    refine lv_iload_n hx hb d_M_parts_4 rfl (lv_at hl 0 rfl) ?_
                    refine lv_iconst (v := nI 1) hx hb d_M_parts_5 (by decide) ?_
                    refine lv_icmp_ne (tgt := 132) hx hb d_M_parts_6 (by decide) (fun c6 => ?_) (fun c6 => ?_)
                    · skip
                      refine lv_iload_n hx hb d_M_parts_132 rfl (lv_at hl 0 rfl) ?_
                      refine lv_if_ge (tgt := 140) hx hb d_M_parts_133 (by decide) (fun c133 => ?_) (fun c133 => ?_)
                      · skip
                        exact absurd c133 (by decide)
                      · skip
                        refine lv_iconst (v := (-1)) hx hb d_M_parts_136 (by decide) ?_
                        refine lv_goto (tgt := 141) hx hb d_M_parts_137 (by decide) ?_
                        exact yr_i (ws := wMR G h dg mp ml th n t pl pn xy pt sz rs ou wr sl (rn blN t n q_55) (uxp (hr t n (rn blN t n q_55))) (rn blN t n q_55) v1 oa oc ok ((x1 ++ [(nI (K - 3))] ++ [nI 0]).set (x1.length + 1) (nI 0)) y1) hx hb hrt hlocks (by first | exact Or.inl ⟨_, _, _, _, _, hS9.trans (by rw [pa_s, hpa]; dsimp only; rw [go_41 hs_125]), rfl, rfl⟩ | exact Or.inr ⟨_, _, _, _, _, _, hS9.trans (by rw [pa_s, hpa]; dsimp only; rw [go_xx hs_125]), rfl, rfl⟩) rfl hK hP hD hS d_M_parts_141
                    · skip
                      exact absurd c6 (by decide)
                · skip
                  exact absurd c108 (by decide)
            · skip
              exact absurd c62 (by decide)
          · skip
            have hP : va_P (gD G) vwC (wMR G h dg mp ml th n t pl pn xy pt sz rs ou wr sl q_55 fk fp v1 oa oc ok (x1 ++ [(nI (K - 3))] ++ [nI 0]) y1) H := hP
            have hD : va_D A (wMR G h dg mp ml th n t pl pn xy pt sz rs ou wr sl q_55 fk fp v1 oa oc ok (x1 ++ [(nI (K - 3))] ++ [nI 0]) y1) := hD
            refine W.eq (g2 := F0 mm 58 ls [.int (nI 1)]) rfl ?_
            have b3 := lk_bd b2 hs_55
            refine lv_istore (lv' := [(5, .int (nI 1)), (4, .int (nI (x1.length + 1))), (0, .ref (h 0)), (1, .int (nI K)), (2, .int (nI m))]) hx hb d_M_parts_58 hl (by decide) rfl (fun ls hl => ?_)
            refine lv_iload hx hb d_M_parts_60 (lv_at hl 0 rfl) ?_
            refine yn_if_ge (a := 1) (tgt := 67) hx hb d_M_parts_62 (by decide) (by omega) (fun c62 => ?_) (fun c62 => ?_)
            · skip
              refine lv_iload hx hb d_M_parts_67 (lv_at hl 0 rfl) ?_
              refine yn_if_ne (a := 1) (tgt := 76) hx hb d_M_parts_69 (by decide) (by omega) (fun c69 => ?_) (fun c69 => ?_)
              · skip
                refine lv_iload hx hb d_M_parts_76 (lv_at hl 0 rfl) ?_
                refine lv_iconst (v := nI 1) hx hb d_M_parts_78 (by decide) ?_
                refine yn_icmp_ne (a := 1) (b := 1) (tgt := 92) hx hb d_M_parts_79 (by decide) (by omega) (by omega) (fun c79 => ?_) (fun c79 => ?_)
                · skip
                  exact absurd c79 (by decide)
                · skip
                  refine lv_aload_n hx hb d_M_parts_82 rfl (lv_at hl 2 rfl) ?_
                  refine lv_iload_n hx hb d_M_parts_83 rfl (lv_at hl 3 rfl) ?_
                  refine lv_iconst (v := nI 3) hx hb d_M_parts_84 (by decide) ?_
                  refine lv_isub hx hb d_M_parts_85 ?_
                  refine y_eqi (pk_sub (by omega)) ?_
                  refine y_callW (y_runV (As := [.int (nI (K - 3))]) (rest := []) hx hb hml hown (c_M_simple l G h dg mp ml th n t pl pn xy pt sz rs ou wr sl q_55 fk fp v1 oa oc ok (x1 ++ [(nI (K - 3))] ++ [nI 0]) y1 (K - 3) (by omega) (by omega) (ht) (by omega) (by omega) (by omega) (by first | omega | (simp only [List.length_append, List.length_singleton, List.length_cons, List.length_nil, List.length_set]; omega)) (by omega) (by omega) (by omega) (by omega)) (gV (n := 1) hg tk_841 tk_843 (gt_s 43 (by decide +kernel) (by decide +kernel)) tk_7 tk_844 (by decide +kernel) ⟨Nat.le_of_ble_eq_true rfl, Nat.le_of_ble_eq_true rfl⟩) (va_recv hK hP (ci := 5) (q0 := 0) rfl rfl) (y_preW hE hK hP hD hS hA) rfl rfl hl.1 rfl (lv_room (Nat.le_of_ble_eq_true rfl)) d_M_parts_86 ⟨Nat.le_of_ble_eq_true rfl, Nat.le_of_ble_eq_true rfl⟩) hD hS hA (fun _ _ _ _ _ _ hp => False.elim hp) (fun v9 w9 H locs hp hlw hP hD hS => ?_)
                  rcases hp with ⟨q_86, m9_86, xs9_86, ys9_86, va9_86, hs_86, rfl, rfl⟩ | ⟨a_86, b_86, q_86, va9_86, xs9_86, ys9_86, hs_86, rfl, rfl⟩
                  · skip
                    have hP : va_P (gD G) vwC (wMR G h dg mp ml th n t pl pn xy pt sz rs ou wr sl q_86 fk fp va9_86 oa oc ok xs9_86 ys9_86) H := hP
                    have hD : va_D A (wMR G h dg mp ml th n t pl pn xy pt sz rs ou wr sl q_86 fk fp va9_86 oa oc ok xs9_86 ys9_86) := hD
                    refine W.eq (g2 := F0 mm 89 ls [.int (nI m9_86)]) rfl ?_
                    have b5 := si_bd b3.2 (by rw [hl2]; omega) hy1 hs_86
                    rw [hl2] at b5
                    refine lv_goto (tgt := 104) hx hb d_M_parts_89 (by decide) ?_
                    refine lv_istore (lv' := [(6, .int (nI m9_86)), (5, .int (nI 1)), (4, .int (nI (x1.length + 1))), (0, .ref (h 0)), (1, .int (nI K)), (2, .int (nI m))]) hx hb d_M_parts_104 hl (by decide) rfl (fun ls hl => ?_)
                    refine lv_iload hx hb d_M_parts_106 (lv_at hl 0 rfl) ?_
                    refine yn_if_ge (a := m9_86) (tgt := 113) hx hb d_M_parts_108 (by decide) (by omega) (fun c108 => ?_) (fun c108 => ?_)
                    · skip
                      refine lv_aload_n hx hb d_M_parts_113 rfl (lv_at hl 3 rfl) ?_
                      refine lv_iload hx hb d_M_parts_114 (lv_at hl 2 rfl) ?_
                      refine lv_iload hx hb d_M_parts_116 (lv_at hl 0 rfl) ?_
                      refine y_callW (y_runV (As := [.int (nI (x1.length + 1)), .int (nI m9_86)]) (rest := []) hx hb hml hown (c_M_close l G h dg mp ml th n t pl pn xy pt sz rs ou wr sl q_86 fk fp va9_86 oa oc ok xs9_86 ys9_86 (x1.length + 1) (nI m9_86) (by omega) (by omega) (by omega) (by first | omega | (simp only [List.length_append, List.length_singleton, List.length_cons, List.length_nil, List.length_set]; omega)) (by omega) (by first | omega | (simp only [List.length_append, List.length_singleton, List.length_cons, List.length_nil, List.length_set]; omega))) (gV (n := 2) hg tk_883 tk_885 (gt_s 52 (by decide +kernel) (by decide +kernel)) tk_7 tk_886 (by decide +kernel) ⟨Nat.le_of_ble_eq_true rfl, Nat.le_of_ble_eq_true rfl⟩) (va_recv hK hP (ci := 5) (q0 := 0) rfl rfl) (y_preW hE hK hP hD hS hA) rfl rfl hl.1 rfl (lv_room (Nat.le_of_ble_eq_true rfl)) d_M_parts_118 ⟨Nat.le_of_ble_eq_true rfl, Nat.le_of_ble_eq_true rfl⟩) hD hS hA (fun _ _ _ _ _ _ hp => False.elim hp) (fun v9 w9 H locs hp hlw hP hD hS => ?_)
                      obtain ⟨rfl, rfl⟩ := hp
                      have hP : va_P (gD G) vwC (wMR G h dg mp ml th n t pl pn xy pt sz rs ou wr sl q_86 fk fp va9_86 oa oc ok (xs9_86.set (x1.length + 1) (nI m9_86)) ys9_86) H := hP
                      have hD : va_D A (wMR G h dg mp ml th n t pl pn xy pt sz rs ou wr sl q_86 fk fp va9_86 oa oc ok (xs9_86.set (x1.length + 1) (nI m9_86)) ys9_86) := hD
                      refine W.eq (g2 := F0 mm 121 ls []) rfl ?_
                      have hpa : paI t n dg mp ml K q x1 y1 = .inr (q_86, xs9_86.set (x1.length + 1) (nI m9_86), ys9_86) := by unfold paI; rw [if_pos c19.1, hs_55]; dsimp only; first | (rw [if_neg (by decide), if_pos rfl, hs_86]) | (rw [if_neg (by decide), if_neg (by decide), hs_93]) | rw [if_pos rfl]
                      have b6 := paI_bd hq hx1 hy1 hpa
                      refine lv_iinc (v := nI (m + 1)) (lv' := [(2, .int (nI (m + 1))), (6, .int (nI m9_86)), (5, .int (nI 1)), (4, .int (nI (x1.length + 1))), (0, .ref (h 0)), (1, .int (nI K))]) hx hb d_M_parts_121 hl (k := 5) rfl (y_inc _) (by decide) rfl (fun ls hl => ?_)
                      refine lv_aload_n hx hb d_M_parts_124 rfl (lv_at hl 4 rfl) ?_
                      refine y_callW (y_runV (As := []) (rest := []) hx hb hml hown (c_M_goesOn l G h dg mp ml th n t pl pn xy pt sz rs ou wr sl q_86 fk fp va9_86 oa oc ok (xs9_86.set (x1.length + 1) (nI m9_86)) ys9_86  (by omega) (by omega) (ht)) (gV (n := 0) hg tk_879 tk_881 (gt_s 51 (by decide +kernel) (by decide +kernel)) tk_7 tk_882 (by decide +kernel) ⟨Nat.le_of_ble_eq_true rfl, Nat.le_of_ble_eq_true rfl⟩) (va_recv hK hP (ci := 5) (q0 := 0) rfl rfl) (y_preW hE hK hP hD hS hA) rfl rfl hl.1 rfl (lv_room (Nat.le_of_ble_eq_true rfl)) d_M_parts_125 ⟨Nat.le_of_ble_eq_true rfl, Nat.le_of_ble_eq_true rfl⟩) hD hS hA (fun _ _ _ _ _ _ hp => False.elim hp) (fun v9 w9 H locs hp hlw hP hD hS => ?_)
                      rcases hp with ⟨hs_125, rfl, rfl⟩ | ⟨hs_125, rfl, rfl⟩ | ⟨hs_125, rfl, rfl⟩
                      · skip
                        have hP : va_P (gD G) vwC (wMR G h dg mp ml th n t pl pn xy pt sz rs ou wr sl (rn blN t n q_86 + 1) fk fp va9_86 oa oc ok (xs9_86.set (x1.length + 1) (nI m9_86)) ys9_86) H := hP
                        have hD : va_D A (wMR G h dg mp ml th n t pl pn xy pt sz rs ou wr sl (rn blN t n q_86 + 1) fk fp va9_86 oa oc ok (xs9_86.set (x1.length + 1) (nI m9_86)) ys9_86) := hD
                        refine W.eq (g2 := F0 mm 128 ls [.int (nI 1)]) rfl ?_
                        have b7 := goM_bd b6.2.1 (go_44 hs_125)
                        refine lv_istore_n (lv' := [(3, .int (nI 1)), (2, .int (nI (m + 1))), (6, .int (nI m9_86)), (5, .int (nI 1)), (4, .int (nI (x1.length + 1))), (0, .ref (h 0)), (1, .int (nI K))]) hx hb d_M_parts_128 rfl hl (by decide) rfl (fun ls hl => ?_)
                        refine lv_goto (tgt := 4) hx hb d_M_parts_129 (by decide) ?_
                        refine lv_iload_n hx hb d_M_parts_4 rfl (lv_at hl 0 rfl) ?_
                        refine lv_iconst (v := nI 1) hx hb d_M_parts_5 (by decide) ?_
                        refine yn_icmp_ne (a := 1) (b := 1) (tgt := 132) hx hb d_M_parts_6 (by decide) (by omega) (by omega) (fun c6 => ?_) (fun c6 => ?_)
                        · skip
                          exact absurd c6 (by decide)
                        · skip
                          exact ih9 F (rn blN t n q_86 + 1) (m + 1) va9_86 (xs9_86.set (x1.length + 1) (nI m9_86)) ys9_86 (by omega) (by omega) (by omega) (by omega) (by omega) (by omega) (hS9.trans (by rw [pa_s, hpa]; dsimp only; rw [go_44 hs_125])) _ _ _ hP hD hS (lv_sub hl [5, 6, 1] (rfl))
                      · skip
                        have hP : va_P (gD G) vwC (wMR G h dg mp ml th n t pl pn xy pt sz rs ou wr sl (rn blN t n q_86 + 1) fk fp va9_86 oa oc ok (xs9_86.set (x1.length + 1) (nI m9_86)) ys9_86) H := hP
                        have hD : va_D A (wMR G h dg mp ml th n t pl pn xy pt sz rs ou wr sl (rn blN t n q_86 + 1) fk fp va9_86 oa oc ok (xs9_86.set (x1.length + 1) (nI m9_86)) ys9_86) := hD
                        refine W.eq (g2 := F0 mm 128 ls [.int (nI 0)]) rfl ?_
                        have b7 := goM_bd b6.2.1 (go_41 hs_125)
                        refine lv_istore_n (lv' := [(3, .int (nI 0)), (2, .int (nI (m + 1))), (6, .int (nI m9_86)), (5, .int (nI 1)), (4, .int (nI (x1.length + 1))), (0, .ref (h 0)), (1, .int (nI K))]) hx hb d_M_parts_128 rfl hl (by decide) rfl (fun ls hl => ?_)
                        refine lv_goto (tgt := 4) hx hb d_M_parts_129 (by decide) ?_
                        refine lv_iload_n hx hb d_M_parts_4 rfl (lv_at hl 0 rfl) ?_
                        refine lv_iconst (v := nI 1) hx hb d_M_parts_5 (by decide) ?_
                        refine yn_icmp_ne (a := 0) (b := 1) (tgt := 132) hx hb d_M_parts_6 (by decide) (by omega) (by omega) (fun c6 => ?_) (fun c6 => ?_)
                        · skip
                          refine lv_iload_n hx hb d_M_parts_132 rfl (lv_at hl 0 rfl) ?_
                          refine yn_if_ge (a := 0) (tgt := 140) hx hb d_M_parts_133 (by decide) (by omega) (fun c133 => ?_) (fun c133 => ?_)
                          · skip
                            refine lv_iload_n hx hb d_M_parts_140 rfl (lv_at hl 1 rfl) ?_
                            exact yr_i (ws := wMR G h dg mp ml th n t pl pn xy pt sz rs ou wr sl (rn blN t n q_86 + 1) fk fp va9_86 oa oc ok (xs9_86.set (x1.length + 1) (nI m9_86)) ys9_86) hx hb hrt hlocks (by first | exact Or.inl ⟨_, _, _, _, _, hS9.trans (by rw [pa_s, hpa]; dsimp only; rw [go_41 hs_125]), rfl, rfl⟩ | exact Or.inr ⟨_, _, _, _, _, _, hS9.trans (by rw [pa_s, hpa]; dsimp only; rw [go_xx hs_125]), rfl, rfl⟩) rfl hK hP hD hS d_M_parts_141
                          · skip
                            exact absurd c133 (by decide)
                        · skip
                          exact absurd c6 (by decide)
                      · skip
                        have hP : va_P (gD G) vwC (wMR G h dg mp ml th n t pl pn xy pt sz rs ou wr sl (rn blN t n q_86) (uxp (hr t n (rn blN t n q_86))) (rn blN t n q_86) va9_86 oa oc ok (xs9_86.set (x1.length + 1) (nI m9_86)) ys9_86) H := hP
                        have hD : va_D A (wMR G h dg mp ml th n t pl pn xy pt sz rs ou wr sl (rn blN t n q_86) (uxp (hr t n (rn blN t n q_86))) (rn blN t n q_86) va9_86 oa oc ok (xs9_86.set (x1.length + 1) (nI m9_86)) ys9_86) := hD
                        refine W.eq (g2 := F0 mm 128 ls [.int (-1)]) rfl ?_
                        refine lv_istore_n (lv' := [(3, .int (-1)), (2, .int (nI (m + 1))), (6, .int (nI m9_86)), (5, .int (nI 1)), (4, .int (nI (x1.length + 1))), (0, .ref (h 0)), (1, .int (nI K))]) hx hb d_M_parts_128 rfl hl (by decide) rfl (fun ls hl => ?_)
                        refine lv_goto (tgt := 4) hx hb d_M_parts_129 (by decide) ?_
                        refine lv_iload_n hx hb d_M_parts_4 rfl (lv_at hl 0 rfl) ?_
                        refine lv_iconst (v := nI 1) hx hb d_M_parts_5 (by decide) ?_
                        refine lv_icmp_ne (tgt := 132) hx hb d_M_parts_6 (by decide) (fun c6 => ?_) (fun c6 => ?_)
                        · skip
                          refine lv_iload_n hx hb d_M_parts_132 rfl (lv_at hl 0 rfl) ?_
                          refine lv_if_ge (tgt := 140) hx hb d_M_parts_133 (by decide) (fun c133 => ?_) (fun c133 => ?_)
                          · skip
                            exact absurd c133 (by decide)
                          · skip
                            refine lv_iconst (v := (-1)) hx hb d_M_parts_136 (by decide) ?_
                            refine lv_goto (tgt := 141) hx hb d_M_parts_137 (by decide) ?_
                            exact yr_i (ws := wMR G h dg mp ml th n t pl pn xy pt sz rs ou wr sl (rn blN t n q_86) (uxp (hr t n (rn blN t n q_86))) (rn blN t n q_86) va9_86 oa oc ok (xs9_86.set (x1.length + 1) (nI m9_86)) ys9_86) hx hb hrt hlocks (by first | exact Or.inl ⟨_, _, _, _, _, hS9.trans (by rw [pa_s, hpa]; dsimp only; rw [go_41 hs_125]), rfl, rfl⟩ | exact Or.inr ⟨_, _, _, _, _, _, hS9.trans (by rw [pa_s, hpa]; dsimp only; rw [go_xx hs_125]), rfl, rfl⟩) rfl hK hP hD hS d_M_parts_141
                        · skip
                          exact absurd c6 (by decide)
                    · skip
                      exact c108.elim
                  · skip
                    have hP : va_P (gD G) vwC (wMR G h dg mp ml th n t pl pn xy pt sz rs ou wr sl q_86 a_86 b_86 va9_86 oa oc ok xs9_86 ys9_86) H := hP
                    have hD : va_D A (wMR G h dg mp ml th n t pl pn xy pt sz rs ou wr sl q_86 a_86 b_86 va9_86 oa oc ok xs9_86 ys9_86) := hD
                    refine W.eq (g2 := F0 mm 89 ls [.int (-1)]) rfl ?_
                    refine lv_goto (tgt := 104) hx hb d_M_parts_89 (by decide) ?_
                    refine lv_istore (lv' := [(6, .int (-1)), (5, .int (nI 1)), (4, .int (nI (x1.length + 1))), (0, .ref (h 0)), (1, .int (nI K)), (2, .int (nI m))]) hx hb d_M_parts_104 hl (by decide) rfl (fun ls hl => ?_)
                    refine lv_iload hx hb d_M_parts_106 (lv_at hl 0 rfl) ?_
                    refine lv_if_ge (tgt := 113) hx hb d_M_parts_108 (by decide) (fun c108 => ?_) (fun c108 => ?_)
                    · skip
                      exact absurd c108 (by decide)
                    · skip
                      refine lv_iconst (v := (-1)) hx hb d_M_parts_111 (by decide) ?_
                      exact yr_i (ws := wMR G h dg mp ml th n t pl pn xy pt sz rs ou wr sl q_86 a_86 b_86 va9_86 oa oc ok xs9_86 ys9_86) hx hb hrt hlocks (Or.inr ⟨_, _, _, _, _, _, hS9.trans (by rw [pa_s]; unfold paI; rw [if_pos c19.1, hs_55]; dsimp only; first | (rw [if_neg (by decide), if_pos rfl, hs_86]) | (rw [if_neg (by decide), if_neg (by decide), hs_93])), rfl, rfl⟩) rfl hK hP hD hS d_M_parts_112
              · skip
                exact absurd c69 (by decide)
            · skip
              exact absurd c62 (by decide)
          · skip
            have hP : va_P (gD G) vwC (wMR G h dg mp ml th n t pl pn xy pt sz rs ou wr sl q_55 fk fp v1 oa oc ok (x1 ++ [(nI (K - 3))] ++ [nI 0]) y1) H := hP
            have hD : va_D A (wMR G h dg mp ml th n t pl pn xy pt sz rs ou wr sl q_55 fk fp v1 oa oc ok (x1 ++ [(nI (K - 3))] ++ [nI 0]) y1) := hD
            refine W.eq (g2 := F0 mm 58 ls [.int (nI 2)]) rfl ?_
            have b3 := lk_bd b2 hs_55
            refine lv_istore (lv' := [(5, .int (nI 2)), (4, .int (nI (x1.length + 1))), (0, .ref (h 0)), (1, .int (nI K)), (2, .int (nI m))]) hx hb d_M_parts_58 hl (by decide) rfl (fun ls hl => ?_)
            refine lv_iload hx hb d_M_parts_60 (lv_at hl 0 rfl) ?_
            refine yn_if_ge (a := 2) (tgt := 67) hx hb d_M_parts_62 (by decide) (by omega) (fun c62 => ?_) (fun c62 => ?_)
            · skip
              refine lv_iload hx hb d_M_parts_67 (lv_at hl 0 rfl) ?_
              refine yn_if_ne (a := 2) (tgt := 76) hx hb d_M_parts_69 (by decide) (by omega) (fun c69 => ?_) (fun c69 => ?_)
              · skip
                refine lv_iload hx hb d_M_parts_76 (lv_at hl 0 rfl) ?_
                refine lv_iconst (v := nI 1) hx hb d_M_parts_78 (by decide) ?_
                refine yn_icmp_ne (a := 2) (b := 1) (tgt := 92) hx hb d_M_parts_79 (by decide) (by omega) (by omega) (fun c79 => ?_) (fun c79 => ?_)
                · skip
                  refine lv_aload_n hx hb d_M_parts_92 rfl (lv_at hl 2 rfl) ?_
                  refine y_callW (y_runV (As := []) (rest := []) hx hb hml hown (c_M_coordinate l G h dg mp ml th n t pl pn xy pt sz rs ou wr sl q_55 fk fp v1 oa oc ok (x1 ++ [(nI (K - 3))] ++ [nI 0]) y1  (by omega) (by omega) (ht) (by omega) (by omega) (by omega) (by first | omega | (simp only [List.length_append, List.length_singleton, List.length_cons, List.length_nil, List.length_set]; omega)) (by omega) (by omega)) (gV (n := 0) hg tk_857 tk_859 (gt_s 47 (by decide +kernel) (by decide +kernel)) tk_7 tk_860 (by decide +kernel) ⟨Nat.le_of_ble_eq_true rfl, Nat.le_of_ble_eq_true rfl⟩) (va_recv hK hP (ci := 5) (q0 := 0) rfl rfl) (y_preW hE hK hP hD hS hA) rfl rfl hl.1 rfl (lv_room (Nat.le_of_ble_eq_true rfl)) d_M_parts_93 ⟨Nat.le_of_ble_eq_true rfl, Nat.le_of_ble_eq_true rfl⟩) hD hS hA (fun _ _ _ _ _ _ hp => False.elim hp) (fun v9 w9 H locs hp hlw hP hD hS => ?_)
                  rcases hp with ⟨q_93, ys9_93, va9_93, hs_93, rfl, rfl⟩ | ⟨a_93, b_93, q_93, va9_93, hs_93, rfl, rfl⟩
                  · skip
                    have hP : va_P (gD G) vwC (wMR G h dg mp ml th n t pl pn xy pt sz rs ou wr sl q_93 fk fp va9_93 oa oc ok (x1 ++ [(nI (K - 3))] ++ [nI 0]) ys9_93) H := hP
                    have hD : va_D A (wMR G h dg mp ml th n t pl pn xy pt sz rs ou wr sl q_93 fk fp va9_93 oa oc ok (x1 ++ [(nI (K - 3))] ++ [nI 0]) ys9_93) := hD
                    refine W.eq (g2 := F0 mm 96 ls [.int (nI 1)]) rfl ?_
                    have b5 := cd_bd b3.2 hs_93
                    refine yn_if_eq (a := 1) (tgt := 103) hx hb d_M_parts_96 (by decide) (by omega) (fun c96 => ?_) (fun c96 => ?_)
                    · skip
                      exact absurd c96 (by decide)
                    · skip
                      refine lv_iconst (v := nI 1) hx hb d_M_parts_99 (by decide) ?_
                      refine lv_goto (tgt := 104) hx hb d_M_parts_100 (by decide) ?_
                      refine lv_istore (lv' := [(6, .int (nI 1)), (5, .int (nI 2)), (4, .int (nI (x1.length + 1))), (0, .ref (h 0)), (1, .int (nI K)), (2, .int (nI m))]) hx hb d_M_parts_104 hl (by decide) rfl (fun ls hl => ?_)
                      refine lv_iload hx hb d_M_parts_106 (lv_at hl 0 rfl) ?_
                      refine yn_if_ge (a := 1) (tgt := 113) hx hb d_M_parts_108 (by decide) (by omega) (fun c108 => ?_) (fun c108 => ?_)
                      · skip
                        refine lv_aload_n hx hb d_M_parts_113 rfl (lv_at hl 3 rfl) ?_
                        refine lv_iload hx hb d_M_parts_114 (lv_at hl 2 rfl) ?_
                        refine lv_iload hx hb d_M_parts_116 (lv_at hl 0 rfl) ?_
                        refine y_callW (y_runV (As := [.int (nI (x1.length + 1)), .int (nI 1)]) (rest := []) hx hb hml hown (c_M_close l G h dg mp ml th n t pl pn xy pt sz rs ou wr sl q_93 fk fp va9_93 oa oc ok (x1 ++ [(nI (K - 3))] ++ [nI 0]) ys9_93 (x1.length + 1) (nI 1) (by omega) (by omega) (by omega) (by first | omega | (simp only [List.length_append, List.length_singleton, List.length_cons, List.length_nil, List.length_set]; omega)) (by omega) (by first | omega | (simp only [List.length_append, List.length_singleton, List.length_cons, List.length_nil, List.length_set]; omega))) (gV (n := 2) hg tk_883 tk_885 (gt_s 52 (by decide +kernel) (by decide +kernel)) tk_7 tk_886 (by decide +kernel) ⟨Nat.le_of_ble_eq_true rfl, Nat.le_of_ble_eq_true rfl⟩) (va_recv hK hP (ci := 5) (q0 := 0) rfl rfl) (y_preW hE hK hP hD hS hA) rfl rfl hl.1 rfl (lv_room (Nat.le_of_ble_eq_true rfl)) d_M_parts_118 ⟨Nat.le_of_ble_eq_true rfl, Nat.le_of_ble_eq_true rfl⟩) hD hS hA (fun _ _ _ _ _ _ hp => False.elim hp) (fun v9 w9 H locs hp hlw hP hD hS => ?_)
                        obtain ⟨rfl, rfl⟩ := hp
                        have hP : va_P (gD G) vwC (wMR G h dg mp ml th n t pl pn xy pt sz rs ou wr sl q_93 fk fp va9_93 oa oc ok ((x1 ++ [(nI (K - 3))] ++ [nI 0]).set (x1.length + 1) (nI 1)) ys9_93) H := hP
                        have hD : va_D A (wMR G h dg mp ml th n t pl pn xy pt sz rs ou wr sl q_93 fk fp va9_93 oa oc ok ((x1 ++ [(nI (K - 3))] ++ [nI 0]).set (x1.length + 1) (nI 1)) ys9_93) := hD
                        refine W.eq (g2 := F0 mm 121 ls []) rfl ?_
                        have hpa : paI t n dg mp ml K q x1 y1 = .inr (q_93, (x1 ++ [(nI (K - 3))] ++ [nI 0]).set (x1.length + 1) (nI 1), ys9_93) := by unfold paI; rw [if_pos c19.1, hs_55]; dsimp only; first | (rw [if_neg (by decide), if_pos rfl, hs_86]) | (rw [if_neg (by decide), if_neg (by decide), hs_93]) | rw [if_pos rfl]
                        have b6 := paI_bd hq hx1 hy1 hpa
                        refine lv_iinc (v := nI (m + 1)) (lv' := [(2, .int (nI (m + 1))), (6, .int (nI 1)), (5, .int (nI 2)), (4, .int (nI (x1.length + 1))), (0, .ref (h 0)), (1, .int (nI K))]) hx hb d_M_parts_121 hl (k := 5) rfl (y_inc _) (by decide) rfl (fun ls hl => ?_)
                        refine lv_aload_n hx hb d_M_parts_124 rfl (lv_at hl 4 rfl) ?_
                        refine y_callW (y_runV (As := []) (rest := []) hx hb hml hown (c_M_goesOn l G h dg mp ml th n t pl pn xy pt sz rs ou wr sl q_93 fk fp va9_93 oa oc ok ((x1 ++ [(nI (K - 3))] ++ [nI 0]).set (x1.length + 1) (nI 1)) ys9_93  (by omega) (by omega) (ht)) (gV (n := 0) hg tk_879 tk_881 (gt_s 51 (by decide +kernel) (by decide +kernel)) tk_7 tk_882 (by decide +kernel) ⟨Nat.le_of_ble_eq_true rfl, Nat.le_of_ble_eq_true rfl⟩) (va_recv hK hP (ci := 5) (q0 := 0) rfl rfl) (y_preW hE hK hP hD hS hA) rfl rfl hl.1 rfl (lv_room (Nat.le_of_ble_eq_true rfl)) d_M_parts_125 ⟨Nat.le_of_ble_eq_true rfl, Nat.le_of_ble_eq_true rfl⟩) hD hS hA (fun _ _ _ _ _ _ hp => False.elim hp) (fun v9 w9 H locs hp hlw hP hD hS => ?_)
                        rcases hp with ⟨hs_125, rfl, rfl⟩ | ⟨hs_125, rfl, rfl⟩ | ⟨hs_125, rfl, rfl⟩
                        · skip
                          have hP : va_P (gD G) vwC (wMR G h dg mp ml th n t pl pn xy pt sz rs ou wr sl (rn blN t n q_93 + 1) fk fp va9_93 oa oc ok ((x1 ++ [(nI (K - 3))] ++ [nI 0]).set (x1.length + 1) (nI 1)) ys9_93) H := hP
                          have hD : va_D A (wMR G h dg mp ml th n t pl pn xy pt sz rs ou wr sl (rn blN t n q_93 + 1) fk fp va9_93 oa oc ok ((x1 ++ [(nI (K - 3))] ++ [nI 0]).set (x1.length + 1) (nI 1)) ys9_93) := hD
                          refine W.eq (g2 := F0 mm 128 ls [.int (nI 1)]) rfl ?_
                          have b7 := goM_bd b6.2.1 (go_44 hs_125)
                          refine lv_istore_n (lv' := [(3, .int (nI 1)), (2, .int (nI (m + 1))), (6, .int (nI 1)), (5, .int (nI 2)), (4, .int (nI (x1.length + 1))), (0, .ref (h 0)), (1, .int (nI K))]) hx hb d_M_parts_128 rfl hl (by decide) rfl (fun ls hl => ?_)
                          refine lv_goto (tgt := 4) hx hb d_M_parts_129 (by decide) ?_
                          refine lv_iload_n hx hb d_M_parts_4 rfl (lv_at hl 0 rfl) ?_
                          refine lv_iconst (v := nI 1) hx hb d_M_parts_5 (by decide) ?_
                          refine yn_icmp_ne (a := 1) (b := 1) (tgt := 132) hx hb d_M_parts_6 (by decide) (by omega) (by omega) (fun c6 => ?_) (fun c6 => ?_)
                          · skip
                            exact absurd c6 (by decide)
                          · skip
                            exact ih9 F (rn blN t n q_93 + 1) (m + 1) va9_93 ((x1 ++ [(nI (K - 3))] ++ [nI 0]).set (x1.length + 1) (nI 1)) ys9_93 (by omega) (by omega) (by omega) (by omega) (by omega) (by omega) (hS9.trans (by rw [pa_s, hpa]; dsimp only; rw [go_44 hs_125])) _ _ _ hP hD hS (lv_sub hl [5, 6, 1] (rfl))
                        · skip
                          have hP : va_P (gD G) vwC (wMR G h dg mp ml th n t pl pn xy pt sz rs ou wr sl (rn blN t n q_93 + 1) fk fp va9_93 oa oc ok ((x1 ++ [(nI (K - 3))] ++ [nI 0]).set (x1.length + 1) (nI 1)) ys9_93) H := hP
                          have hD : va_D A (wMR G h dg mp ml th n t pl pn xy pt sz rs ou wr sl (rn blN t n q_93 + 1) fk fp va9_93 oa oc ok ((x1 ++ [(nI (K - 3))] ++ [nI 0]).set (x1.length + 1) (nI 1)) ys9_93) := hD
                          refine W.eq (g2 := F0 mm 128 ls [.int (nI 0)]) rfl ?_
                          have b7 := goM_bd b6.2.1 (go_41 hs_125)
                          refine lv_istore_n (lv' := [(3, .int (nI 0)), (2, .int (nI (m + 1))), (6, .int (nI 1)), (5, .int (nI 2)), (4, .int (nI (x1.length + 1))), (0, .ref (h 0)), (1, .int (nI K))]) hx hb d_M_parts_128 rfl hl (by decide) rfl (fun ls hl => ?_)
                          refine lv_goto (tgt := 4) hx hb d_M_parts_129 (by decide) ?_
                          refine lv_iload_n hx hb d_M_parts_4 rfl (lv_at hl 0 rfl) ?_
                          refine lv_iconst (v := nI 1) hx hb d_M_parts_5 (by decide) ?_
                          refine yn_icmp_ne (a := 0) (b := 1) (tgt := 132) hx hb d_M_parts_6 (by decide) (by omega) (by omega) (fun c6 => ?_) (fun c6 => ?_)
                          · skip
                            refine lv_iload_n hx hb d_M_parts_132 rfl (lv_at hl 0 rfl) ?_
                            refine yn_if_ge (a := 0) (tgt := 140) hx hb d_M_parts_133 (by decide) (by omega) (fun c133 => ?_) (fun c133 => ?_)
                            · skip
                              refine lv_iload_n hx hb d_M_parts_140 rfl (lv_at hl 1 rfl) ?_
                              exact yr_i (ws := wMR G h dg mp ml th n t pl pn xy pt sz rs ou wr sl (rn blN t n q_93 + 1) fk fp va9_93 oa oc ok ((x1 ++ [(nI (K - 3))] ++ [nI 0]).set (x1.length + 1) (nI 1)) ys9_93) hx hb hrt hlocks (by first | exact Or.inl ⟨_, _, _, _, _, hS9.trans (by rw [pa_s, hpa]; dsimp only; rw [go_41 hs_125]), rfl, rfl⟩ | exact Or.inr ⟨_, _, _, _, _, _, hS9.trans (by rw [pa_s, hpa]; dsimp only; rw [go_xx hs_125]), rfl, rfl⟩) rfl hK hP hD hS d_M_parts_141
                            · skip
                              exact absurd c133 (by decide)
                          · skip
                            exact absurd c6 (by decide)
                        · skip
                          have hP : va_P (gD G) vwC (wMR G h dg mp ml th n t pl pn xy pt sz rs ou wr sl (rn blN t n q_93) (uxp (hr t n (rn blN t n q_93))) (rn blN t n q_93) va9_93 oa oc ok ((x1 ++ [(nI (K - 3))] ++ [nI 0]).set (x1.length + 1) (nI 1)) ys9_93) H := hP
                          have hD : va_D A (wMR G h dg mp ml th n t pl pn xy pt sz rs ou wr sl (rn blN t n q_93) (uxp (hr t n (rn blN t n q_93))) (rn blN t n q_93) va9_93 oa oc ok ((x1 ++ [(nI (K - 3))] ++ [nI 0]).set (x1.length + 1) (nI 1)) ys9_93) := hD
                          refine W.eq (g2 := F0 mm 128 ls [.int (-1)]) rfl ?_
                          refine lv_istore_n (lv' := [(3, .int (-1)), (2, .int (nI (m + 1))), (6, .int (nI 1)), (5, .int (nI 2)), (4, .int (nI (x1.length + 1))), (0, .ref (h 0)), (1, .int (nI K))]) hx hb d_M_parts_128 rfl hl (by decide) rfl (fun ls hl => ?_)
                          refine lv_goto (tgt := 4) hx hb d_M_parts_129 (by decide) ?_
                          refine lv_iload_n hx hb d_M_parts_4 rfl (lv_at hl 0 rfl) ?_
                          refine lv_iconst (v := nI 1) hx hb d_M_parts_5 (by decide) ?_
                          refine lv_icmp_ne (tgt := 132) hx hb d_M_parts_6 (by decide) (fun c6 => ?_) (fun c6 => ?_)
                          · skip
                            refine lv_iload_n hx hb d_M_parts_132 rfl (lv_at hl 0 rfl) ?_
                            refine lv_if_ge (tgt := 140) hx hb d_M_parts_133 (by decide) (fun c133 => ?_) (fun c133 => ?_)
                            · skip
                              exact absurd c133 (by decide)
                            · skip
                              refine lv_iconst (v := (-1)) hx hb d_M_parts_136 (by decide) ?_
                              refine lv_goto (tgt := 141) hx hb d_M_parts_137 (by decide) ?_
                              exact yr_i (ws := wMR G h dg mp ml th n t pl pn xy pt sz rs ou wr sl (rn blN t n q_93) (uxp (hr t n (rn blN t n q_93))) (rn blN t n q_93) va9_93 oa oc ok ((x1 ++ [(nI (K - 3))] ++ [nI 0]).set (x1.length + 1) (nI 1)) ys9_93) hx hb hrt hlocks (by first | exact Or.inl ⟨_, _, _, _, _, hS9.trans (by rw [pa_s, hpa]; dsimp only; rw [go_41 hs_125]), rfl, rfl⟩ | exact Or.inr ⟨_, _, _, _, _, _, hS9.trans (by rw [pa_s, hpa]; dsimp only; rw [go_xx hs_125]), rfl, rfl⟩) rfl hK hP hD hS d_M_parts_141
                          · skip
                            exact absurd c6 (by decide)
                      · skip
                        exact absurd c108 (by decide)
                  · skip
                    have hP : va_P (gD G) vwC (wMR G h dg mp ml th n t pl pn xy pt sz rs ou wr sl q_93 a_93 b_93 va9_93 oa oc ok (x1 ++ [(nI (K - 3))] ++ [nI 0]) y1) H := hP
                    have hD : va_D A (wMR G h dg mp ml th n t pl pn xy pt sz rs ou wr sl q_93 a_93 b_93 va9_93 oa oc ok (x1 ++ [(nI (K - 3))] ++ [nI 0]) y1) := hD
                    refine W.eq (g2 := F0 mm 96 ls [.int (nI 0)]) rfl ?_
                    refine yn_if_eq (a := 0) (tgt := 103) hx hb d_M_parts_96 (by decide) (by omega) (fun c96 => ?_) (fun c96 => ?_)
                    · skip
                      refine lv_iconst (v := (-1)) hx hb d_M_parts_103 (by decide) ?_
                      refine lv_istore (lv' := [(6, .int (-1)), (5, .int (nI 2)), (4, .int (nI (x1.length + 1))), (0, .ref (h 0)), (1, .int (nI K)), (2, .int (nI m))]) hx hb d_M_parts_104 hl (by decide) rfl (fun ls hl => ?_)
                      refine lv_iload hx hb d_M_parts_106 (lv_at hl 0 rfl) ?_
                      refine lv_if_ge (tgt := 113) hx hb d_M_parts_108 (by decide) (fun c108 => ?_) (fun c108 => ?_)
                      · skip
                        exact absurd c108 (by decide)
                      · skip
                        refine lv_iconst (v := (-1)) hx hb d_M_parts_111 (by decide) ?_
                        exact yr_i (ws := wMR G h dg mp ml th n t pl pn xy pt sz rs ou wr sl q_93 a_93 b_93 va9_93 oa oc ok (x1 ++ [(nI (K - 3))] ++ [nI 0]) y1) hx hb hrt hlocks (Or.inr ⟨_, _, _, _, _, _, hS9.trans (by rw [pa_s]; unfold paI; rw [if_pos c19.1, hs_55]; dsimp only; first | (rw [if_neg (by decide), if_pos rfl, hs_86]) | (rw [if_neg (by decide), if_neg (by decide), hs_93])), rfl, rfl⟩) rfl hK hP hD hS d_M_parts_112
                    · skip
                      exact absurd c96 (by decide)
                · skip
                  exact absurd c79 (by decide)
              · skip
                exact absurd c69 (by decide)
            · skip
              exact absurd c62 (by decide)
          · skip
            have hP : va_P (gD G) vwC (wMR G h dg mp ml th n t pl pn xy pt sz rs ou wr sl q_55 a_55 b_55 v1 oa oc ok (x1 ++ [(nI (K - 3))] ++ [nI 0]) y1) H := hP
            have hD : va_D A (wMR G h dg mp ml th n t pl pn xy pt sz rs ou wr sl q_55 a_55 b_55 v1 oa oc ok (x1 ++ [(nI (K - 3))] ++ [nI 0]) y1) := hD
            refine W.eq (g2 := F0 mm 58 ls [.int (-1)]) rfl ?_
            refine lv_istore (lv' := [(5, .int (-1)), (4, .int (nI (x1.length + 1))), (0, .ref (h 0)), (1, .int (nI K)), (2, .int (nI m))]) hx hb d_M_parts_58 hl (by decide) rfl (fun ls hl => ?_)
            refine lv_iload hx hb d_M_parts_60 (lv_at hl 0 rfl) ?_
            refine lv_if_ge (tgt := 67) hx hb d_M_parts_62 (by decide) (fun c62 => ?_) (fun c62 => ?_)
            · skip
              exact absurd c62 (by decide)
            · skip
              refine lv_iconst (v := (-1)) hx hb d_M_parts_65 (by decide) ?_
              exact yr_i (ws := wMR G h dg mp ml th n t pl pn xy pt sz rs ou wr sl q_55 a_55 b_55 v1 oa oc ok (x1 ++ [(nI (K - 3))] ++ [nI 0]) y1) hx hb hrt hlocks (Or.inr ⟨_, _, _, _, _, _, hS9.trans (by rw [pa_s]; unfold paI; rw [if_pos c19.1, hs_55]), rfl, rfl⟩) rfl hK hP hD hS d_M_parts_66
      · skip
        refine lv_aload_n hx hb d_M_parts_22 rfl (lv_at hl 0 rfl) ?_
        refine lv_bipush (v := nI 7) hx hb d_M_parts_23 (by decide) ?_
        refine lv_aload_n hx hb d_M_parts_25 rfl (lv_at hl 0 rfl) ?_
        refine va_get (D := gD G) (ci := 5) (v := .int (nI (rn blN t n q))) (C := "WordShapesModel") (T := TM) (N := 24) hx hb hg iw_M hown hK hP 0 rfl rfl 17 (by decide) (hg _ tk_700) (fun _ h9 => h9) rfl d_M_parts_26 ?_
        refine y_callW (y_runV (As := [.int (nI 7), .int (nI (rn blN t n q))]) (rest := []) hx hb hml hown (c_M_wrong l G h dg mp ml th n t pl pn xy pt sz rs ou wr sl (rn blN t n q) fk fp v1 oa oc ok x1 y1 7 (rn blN t n q) ) (gV (n := 2) hg tk_817 tk_819 (gt_s 37 (by decide +kernel) (by decide +kernel)) tk_7 tk_820 (by decide +kernel) ⟨Nat.le_of_ble_eq_true rfl, Nat.le_of_ble_eq_true rfl⟩) (va_recv hK hP (ci := 5) (q0 := 0) rfl rfl) (y_preW hE hK hP hD hS hA) rfl rfl hl.1 rfl (lv_room (Nat.le_of_ble_eq_true rfl)) d_M_parts_29 ⟨Nat.le_of_ble_eq_true rfl, Nat.le_of_ble_eq_true rfl⟩) hD hS hA (fun _ _ _ _ _ _ hp => False.elim hp) (fun v9 w9 H locs hp hlw hP hD hS => ?_)
        obtain ⟨rfl, rfl⟩ := hp
        have hP : va_P (gD G) vwC (wMR G h dg mp ml th n t pl pn xy pt sz rs ou wr sl (rn blN t n q) 7 (rn blN t n q) v1 oa oc ok x1 y1) H := hP
        have hD : va_D A (wMR G h dg mp ml th n t pl pn xy pt sz rs ou wr sl (rn blN t n q) 7 (rn blN t n q) v1 oa oc ok x1 y1) := hD
        refine W.eq (g2 := F0 mm 32 ls [.int (nI 0)]) rfl ?_
        refine lv_pop hx hb d_M_parts_32 rfl ?_
        refine lv_iconst (v := (-1)) hx hb d_M_parts_33 (by decide) ?_
        exact yr_i (ws := wMR G h dg mp ml th n t pl pn xy pt sz rs ou wr sl (rn blN t n q) 7 (rn blN t n q) v1 oa oc ok x1 y1) hx hb hrt hlocks (Or.inr ⟨_, _, _, _, _, _, hS9.trans (by rw [pa_s]; unfold paI; rw [if_neg (fun y => c19 ⟨y, by omega⟩)]), rfl, rfl⟩) rfl hK hP hD hS d_M_parts_34
  refine lv_iconst (v := nI 0) hx hb d_M_parts_0 (by decide) ?_
  refine lv_istore_n (lv' := [(2, .int (nI 0)), (0, .ref (h 0)), (1, .int (nI K))]) hx hb d_M_parts_1 rfl hl (by decide) rfl (fun ls hl => ?_)
  refine lv_iconst (v := nI 1) hx hb d_M_parts_2 (by decide) ?_
  refine lv_istore_n (lv' := [(3, .int (nI 1)), (2, .int (nI 0)), (0, .ref (h 0)), (1, .int (nI K))]) hx hb d_M_parts_3 rfl hl (by decide) rfl (fun ls hl => ?_)
  refine lv_iload_n hx hb d_M_parts_4 rfl (lv_at hl 0 rfl) ?_
  refine lv_iconst (v := nI 1) hx hb d_M_parts_5 (by decide) ?_
  refine yn_icmp_ne (a := 1) (b := 1) (tgt := 132) hx hb d_M_parts_6 (by decide) (by omega) (by omega) (fun c6 => ?_) (fun c6 => ?_)
  · skip
    exact absurd c6 (by decide)
  · skip
    exact J9 _ (n + 1) p 0 va xs ys (Nat.lt_succ_self _) (by omega) (by omega) (by omega) (by omega) (by omega) (rfl) _ _ _ hP hD hS (lv_sub hl [2, 3, 1] (rfl))
