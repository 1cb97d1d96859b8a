set_option maxHeartbeats 4000000 in
set_option maxRecDepth 100000 in
theorem c_M_word (l : Launch) (G : gl) (h : Nat → Nat) (dg : Nat) (mp : Nat) (ml : Nat) (th : Nat) (n : Nat) (t : Nat → Nat) (pl : Nat → Int32) (pn : Nat → Nat) (xy : Nat → Int32) (pt : Nat → Nat) (sz : Nat) (rs : Nat → Nat) (ou : Nat → Nat) (wr : Nat) (sl : Nat) (p : Nat) (fk : Nat) (fp : Nat) (va : Int32) (oa : Nat → Int32) (oc : Nat → Int32) (ok : Nat → Int32) (xs : List Int32) (ys : List (Int32 × Int32))  (hn : n ≤ 65536) (hp : p ≤ n) (ht : ∀ i, t i < 256) : YC l G y_M_word k_M_word 7 (Option.some FieldType.int) 2 42 [.ref (h 0)] (wMR G h dg mp ml th n t pl pn xy pt sz rs ou wr sl p fk fp va oa oc ok xs ys) (fun v w => v = some (.int (nI (lsM t p (rn leN t n p) 8))) ∧ w = wMR G h dg mp ml th n t pl pn xy pt sz rs ou wr sl (rn leN t n p) fk fp va oa oc ok xs ys) (fun _ _ => False) := by
  refine yc_of (by decide) ?_
  intro pg ev sx mm bl mt cd A C0 hP hD
  obtain ⟨hx, hb, hrt, hml, hown, hg, hlocks, hxt, hE, hK, hA, hmn⟩ := C0
  have hS : va_S A sx.heap sx.heap [] := va_S.rf
  have hl := lv_entry ([.ref (h 0)]) (n := 7) (Nat.le_of_ble_eq_true rfl)
  rw [lg_entry_eq]
  generalize (lg_sl ([.ref (h 0)]) ++ List.replicate (7 - (lg_sl ([.ref (h 0)])).length) Slot.unset).toArray = ls at hl ⊢
  have hl : lv_has ls 7 [(0, .ref (h 0))] := hl
  have hl1 := rn_ge (P := leN) (t := t) (n := n) (p := p) hp
  have hl2 := rn_le (P := leN) (t := t) (n := n) (p := p) hp
  obtain ⟨H, hH⟩ : ∃ H, H = sx.heap := ⟨_, rfl⟩
  rw [← hH] at hP
  have hS : va_S A sx.heap H [] := by rw [hH]; exact hS
  suffices h9 : W pg l ev (yR 2 42) sx mm _ bl mt cd H [] 0 0 (yMQ bl G A _ _ _ _ sx) (F0 mm 0 ls []) by rw [hH] at h9; exact h9
  obtain ⟨locs, hlo⟩ : ∃ locs : List Loc, locs = [] := ⟨_, rfl⟩
  rw [← hlo] at hS ⊢
  have J32 : ∀ (n9 : Nat) (w : Nat) (fd : Nat) (hm9 : 9 - w < n9) (hw1 : 1 ≤ w) (hw2 : w ≤ 9) (hfd : fd = lsM t p (rn leN t n p) (w - 1)) (hf8 : fd ≤ 8) (H : Heap) (locs : List Loc) (ls : Array Slot), va_P (gD G) vwC (wMR G h dg mp ml th n t pl pn xy pt sz rs ou wr sl (rn leN t n p) fk fp va oa oc ok xs ys) H → va_D A (wMR G h dg mp ml th n t pl pn xy pt sz rs ou wr sl (rn leN t n p) fk fp va oa oc ok xs ys) → va_S A sx.heap H locs → lv_has ls 7 [(0, .ref (h 0)), (1, .int (nI p)), (2, .int (nI fd)), (3, .int (nI w))] → W pg l ev (yR 2 42) sx mm ([.ref (h 0)] : List Value).toArray bl mt cd H locs 0 0 (yMQ bl G A (wMR G h dg mp ml th n t pl pn xy pt sz rs ou wr sl p fk fp va oa oc ok xs ys).length (fun v w => v = some (.int (nI (lsM t p (rn leN t n p) 8))) ∧ w = wMR G h dg mp ml th n t pl pn xy pt sz rs ou wr sl (rn leN t n p) fk fp va oa oc ok xs ys) (fun _ _ => False) ([.ref (h 0)] : List Value).toArray sx) (F0 mm 32 ls []) := by
    intro n9
    induction n9 with
    | zero => intro w fd hm9; exact absurd hm9 (Nat.not_lt_zero _)
    | succ n9 ih9 =>
      intro w fd hm9 hw1 hw2 hfd hf8 H locs ls hP hD hS hl
      have J76 : ∀ (n9_76 : Nat) (z : Bool) (i : Nat) (hm9_76 : (wdL w).length - i < n9_76) (hw8 : w ≤ 8) (hi : i ≤ (wdL w).length) (hz : z = decide (rn leN t n p - p = (wdL w).length ∧ ∀ j, j < i → upN (t (p + j)) = wdC w j)) (H : Heap) (locs : List Loc) (ls : Array Slot), va_P (gD G) vwC (wMR G h dg mp ml th n t pl pn xy pt sz rs ou wr sl (rn leN t n p) fk fp va oa oc ok xs ys) H → va_D A (wMR G h dg mp ml th n t pl pn xy pt sz rs ou wr sl (rn leN t n p) fk fp va oa oc ok xs ys) → va_S A sx.heap H locs → lv_has ls 7 [(0, .ref (h 0)), (1, .int (nI p)), (2, .int (nI fd)), (3, .int (nI w)), (4, .int (nI ((wdL w).length))), (5, .int (bz z)), (6, .int (nI i))] → W pg l ev (yR 2 42) sx mm ([.ref (h 0)] : List Value).toArray bl mt cd H locs 0 0 (yMQ bl G A (wMR G h dg mp ml th n t pl pn xy pt sz rs ou wr sl p fk fp va oa oc ok xs ys).length (fun v w => v = some (.int (nI (lsM t p (rn leN t n p) 8))) ∧ w = wMR G h dg mp ml th n t pl pn xy pt sz rs ou wr sl (rn leN t n p) fk fp va oa oc ok xs ys) (fun _ _ => False) ([.ref (h 0)] : List Value).toArray sx) (F0 mm 76 ls []) := by
        intro n9_76
        induction n9_76 with
        | zero => intro z i hm9_76; exact absurd hm9_76 (Nat.not_lt_zero _)
        | succ n9_76 ih9_76 =>
          intro z i hm9_76 hw8 hi hz H locs ls hP hD hS hl
          have hwl := wdL_len w
          refine lv_iload hx hb d_M_word_76 (lv_at hl 6 rfl) ?_
          refine lv_iload hx hb d_M_word_78 (lv_at hl 4 rfl) ?_
          refine yn_icmp_ge (a := i) (b := (wdL w).length) (tgt := 130) hx hb d_M_word_80 (by decide) (by omega) (by omega) (fun c80 => ?_) (fun c80 => ?_)
          · skip
            have hWz : z = decide (wmP t p (rn leN t n p) w) := by rw [hz]; by_cases y : wmP t p (rn leN t n p) w; (rw [decide_eq_true y, decide_eq_true ⟨y.1, fun j hj => y.2 j (by omega)⟩]); (rw [decide_eq_false y, decide_eq_false (fun q => y ⟨q.1, fun j hj => by first | exact q.2 j (by omega) | exact absurd (decide_eq_true q) (by rw [← hz, c85]; decide)⟩)])
            refine lv_iload hx hb d_M_word_130 (lv_at hl 5 rfl) ?_
            refine yy_if_eq (P := z) (tgt := 139) hx hb d_M_word_132 (by decide) (fun c132 => ?_) (fun c132 => ?_)
            · skip
              have hWm : ¬ wmP t p (rn leN t n p) w := of_decide_eq_false (hWz.symm.trans c132)
              refine lv_iload_n hx hb d_M_word_139 rfl (lv_at hl 2 rfl) ?_
              refine lv_istore_n (lv' := [(2, .int (nI fd)), (0, .ref (h 0)), (1, .int (nI p)), (3, .int (nI w)), (4, .int (nI ((wdL w).length))), (5, .int (bz z)), (6, .int (nI i))]) hx hb d_M_word_140 rfl hl (by decide) rfl (fun ls hl => ?_)
              refine lv_iinc (v := nI (w + 1)) (lv' := [(3, .int (nI (w + 1))), (2, .int (nI fd)), (0, .ref (h 0)), (1, .int (nI p)), (4, .int (nI ((wdL w).length))), (5, .int (bz z)), (6, .int (nI i))]) hx hb d_M_word_141 hl (k := 3) rfl (y_inc _) (by decide) rfl (fun ls hl => ?_)
              refine lv_goto (tgt := 32) hx hb d_M_word_144 (by decide) ?_
              exact ih9 (w + 1) fd (by omega) (by omega) (by omega) (by rw [show w + 1 - 1 = (w - 1) + 1 by omega]; show _ = if wmP t p (rn leN t n p) (w - 1 + 1) then w - 1 + 1 else _; rw [show w - 1 + 1 = w by omega, ← hfd]; first | (rw [if_pos hWm]) | (rw [if_neg hWm])) (by omega) _ _ _ hP hD hS (lv_sub hl [2, 3, 1, 0] (rfl))
            · skip
              have hWm : wmP t p (rn leN t n p) w := of_decide_eq_true (hWz.symm.trans c132)
              refine lv_iload_n hx hb d_M_word_135 rfl (lv_at hl 3 rfl) ?_
              refine lv_goto (tgt := 140) hx hb d_M_word_136 (by decide) ?_
              refine lv_istore_n (lv' := [(2, .int (nI w)), (0, .ref (h 0)), (1, .int (nI p)), (3, .int (nI w)), (4, .int (nI ((wdL w).length))), (5, .int (bz z)), (6, .int (nI i))]) hx hb d_M_word_140 rfl hl (by decide) rfl (fun ls hl => ?_)
              refine lv_iinc (v := nI (w + 1)) (lv' := [(3, .int (nI (w + 1))), (2, .int (nI w)), (0, .ref (h 0)), (1, .int (nI p)), (4, .int (nI ((wdL w).length))), (5, .int (bz z)), (6, .int (nI i))]) hx hb d_M_word_141 hl (k := 3) rfl (y_inc _) (by decide) rfl (fun ls hl => ?_)
              refine lv_goto (tgt := 32) hx hb d_M_word_144 (by decide) ?_
              exact ih9 (w + 1) w (by omega) (by omega) (by omega) (by rw [show w + 1 - 1 = (w - 1) + 1 by omega]; show _ = if wmP t p (rn leN t n p) (w - 1 + 1) then w - 1 + 1 else _; rw [show w - 1 + 1 = w by omega, ← hfd]; first | (rw [if_pos hWm]) | (rw [if_neg hWm])) (by omega) _ _ _ hP hD hS (lv_sub hl [2, 3, 1, 0] (rfl))
          · skip
            refine lv_iload hx hb d_M_word_83 (lv_at hl 5 rfl) ?_
            refine yy_if_eq (P := z) (tgt := 130) hx hb d_M_word_85 (by decide) (fun c85 => ?_) (fun c85 => ?_)
            · skip
              have hWz : z = decide (wmP t p (rn leN t n p) w) := by rw [hz]; by_cases y : wmP t p (rn leN t n p) w; (rw [decide_eq_true y, decide_eq_true ⟨y.1, fun j hj => y.2 j (by omega)⟩]); (rw [decide_eq_false y, decide_eq_false (fun q => y ⟨q.1, fun j hj => by first | exact q.2 j (by omega) | exact absurd (decide_eq_true q) (by rw [← hz, c85]; decide)⟩)])
              refine lv_iload hx hb d_M_word_130 (lv_at hl 5 rfl) ?_
              refine yy_if_eq (P := z) (tgt := 139) hx hb d_M_word_132 (by decide) (fun c132 => ?_) (fun c132 => ?_)
              · skip
                have hWm : ¬ wmP t p (rn leN t n p) w := of_decide_eq_false (hWz.symm.trans c132)
                refine lv_iload_n hx hb d_M_word_139 rfl (lv_at hl 2 rfl) ?_
                refine lv_istore_n (lv' := [(2, .int (nI fd)), (0, .ref (h 0)), (1, .int (nI p)), (3, .int (nI w)), (4, .int (nI ((wdL w).length))), (5, .int (bz z)), (6, .int (nI i))]) hx hb d_M_word_140 rfl hl (by decide) rfl (fun ls hl => ?_)
                refine lv_iinc (v := nI (w + 1)) (lv' := [(3, .int (nI (w + 1))), (2, .int (nI fd)), (0, .ref (h 0)), (1, .int (nI p)), (4, .int (nI ((wdL w).length))), (5, .int (bz z)), (6, .int (nI i))]) hx hb d_M_word_141 hl (k := 3) rfl (y_inc _) (by decide) rfl (fun ls hl => ?_)
                refine lv_goto (tgt := 32) hx hb d_M_word_144 (by decide) ?_
                exact ih9 (w + 1) fd (by omega) (by omega) (by omega) (by rw [show w + 1 - 1 = (w - 1) + 1 by omega]; show _ = if wmP t p (rn leN t n p) (w - 1 + 1) then w - 1 + 1 else _; rw [show w - 1 + 1 = w by omega, ← hfd]; first | (rw [if_pos hWm]) | (rw [if_neg hWm])) (by omega) _ _ _ hP hD hS (lv_sub hl [2, 3, 1, 0] (rfl))
              · skip
                have hWm : wmP t p (rn leN t n p) w := of_decide_eq_true (hWz.symm.trans c132)
                refine lv_iload_n hx hb d_M_word_135 rfl (lv_at hl 3 rfl) ?_
                refine lv_goto (tgt := 140) hx hb d_M_word_136 (by decide) ?_
                refine lv_istore_n (lv' := [(2, .int (nI w)), (0, .ref (h 0)), (1, .int (nI p)), (3, .int (nI w)), (4, .int (nI ((wdL w).length))), (5, .int (bz z)), (6, .int (nI i))]) hx hb d_M_word_140 rfl hl (by decide) rfl (fun ls hl => ?_)
                refine lv_iinc (v := nI (w + 1)) (lv' := [(3, .int (nI (w + 1))), (2, .int (nI w)), (0, .ref (h 0)), (1, .int (nI p)), (4, .int (nI ((wdL w).length))), (5, .int (bz z)), (6, .int (nI i))]) hx hb d_M_word_141 hl (k := 3) rfl (y_inc _) (by decide) rfl (fun ls hl => ?_)
                refine lv_goto (tgt := 32) hx hb d_M_word_144 (by decide) ?_
                exact ih9 (w + 1) w (by omega) (by omega) (by omega) (by rw [show w + 1 - 1 = (w - 1) + 1 by omega]; show _ = if wmP t p (rn leN t n p) (w - 1 + 1) then w - 1 + 1 else _; rw [show w - 1 + 1 = w by omega, ← hfd]; first | (rw [if_pos hWm]) | (rw [if_neg hWm])) (by omega) _ _ _ hP hD hS (lv_sub hl [2, 3, 1, 0] (rfl))
            · skip
              obtain ⟨hg1, hg2⟩ := bg_len w hw1 hw8
              have hz9 : rn leN t n p - p = (wdL w).length ∧ ∀ j, j < i → upN (t (p + j)) = wdC w j := of_decide_eq_true (hz.symm.trans c85)
              have hle : leN (t (p + i)) = true := rn_all (n := n) (p := p) (by omega) (by omega)
              have hup := (up_n _ (ht (p + i)) hle).2
              have hwc := wdC_lt w i
              refine lv_aload_n hx hb d_M_word_88 rfl (lv_at hl 0 rfl) ?_
              refine va_get (D := gD G) (ci := 5) (v := .ref (h 3)) (C := "WordShapesModel") (T := TM) (N := 24) hx hb hg iw_M hown hK hP 0 rfl rfl 7 (by decide) (hg _ tk_690) (fun _ h9 => h9) rfl d_M_word_89 ?_
              refine lv_iload_n hx hb d_M_word_92 rfl (lv_at hl 1 rfl) ?_
              refine lv_iload hx hb d_M_word_93 (lv_at hl 6 rfl) ?_
              refine lv_iadd hx hb d_M_word_95 ?_
              refine y_eqi (nI_add _ _) ?_
              refine yn_iald hx hb hK hP 3 0 rfl rfl (j := p + i) (x := nI (t (p + i))) (rfl) (by omega) (by omega) d_M_word_96 ?_
              refine lv_bipush (v := nI 95) hx hb d_M_word_97 (by decide) ?_
              refine lv_iand hx hb d_M_word_99 ?_
              refine y_eqi (y := nI (upN (t (p + i)))) ((up_n _ (ht (p + i)) hle).1) ?_
              refine lv_aload_n hx hb d_M_word_100 rfl (lv_at hl 0 rfl) ?_
              refine va_get (D := gD G) (ci := 5) (v := .ref (h 1)) (C := "WordShapesModel") (T := TM) (N := 24) hx hb hg iw_M hown hK hP 0 rfl rfl 0 (by decide) (hg _ tk_683) (fun _ h9 => h9) rfl d_M_word_101 ?_
              refine lv_aload_n hx hb d_M_word_104 rfl (lv_at hl 0 rfl) ?_
              refine va_get (D := gD G) (ci := 5) (v := .ref (h 2)) (C := "WordShapesModel") (T := TM) (N := 24) hx hb hg iw_M hown hK hP 0 rfl rfl 1 (by decide) (hg _ tk_684) (fun _ h9 => h9) rfl d_M_word_105 ?_
              refine lv_iload_n hx hb d_M_word_108 rfl (lv_at hl 3 rfl) ?_
              refine yn_iald hx hb hK hP 2 0 rfl rfl (j := w) (x := nI (bgN w)) (rfl) (by omega) (by omega) d_M_word_109 ?_
              refine lv_iload hx hb d_M_word_110 (lv_at hl 6 rfl) ?_
              refine lv_iadd hx hb d_M_word_112 ?_
              refine y_eqi (nI_add _ _) ?_
              refine yn_iald hx hb hK hP 1 0 rfl rfl (j := bgN w + i) (x := nI (wdC w i)) (congrArg nI (lt_wd w hw1 hw8 i (by omega))) (by omega) (by omega) d_M_word_113 ?_
              refine yn_icmp_ne (a := upN (t (p + i))) (b := wdC w i) (tgt := 121) hx hb d_M_word_114 (by decide) (by omega) (by omega) (fun c114 => ?_) (fun c114 => ?_)
              · skip
                refine lv_iconst (v := nI 0) hx hb d_M_word_121 (by decide) ?_
                refine lv_istore (lv' := [(5, .int (nI 0)), (0, .ref (h 0)), (1, .int (nI p)), (2, .int (nI fd)), (3, .int (nI w)), (4, .int (nI ((wdL w).length))), (6, .int (nI i))]) hx hb d_M_word_122 hl (by decide) rfl (fun ls hl => ?_)
                refine lv_iinc (v := nI (i + 1)) (lv' := [(6, .int (nI (i + 1))), (5, .int (nI 0)), (0, .ref (h 0)), (1, .int (nI p)), (2, .int (nI fd)), (3, .int (nI w)), (4, .int (nI ((wdL w).length)))]) hx hb d_M_word_124 hl (k := 6) rfl (y_inc _) (by decide) rfl (fun ls hl => ?_)
                refine lv_goto (tgt := 76) hx hb d_M_word_127 (by decide) ?_
                exact ih9_76 false (i + 1) (by omega) (by omega) (by omega) ((decide_eq_false (fun y => c114 (y.2 i (by omega)))).symm) _ _ _ hP hD hS (lv_sub hl [2, 3, 4, 5, 6, 1, 0] (rfl))
              · skip
                refine lv_iconst (v := nI 1) hx hb d_M_word_117 (by decide) ?_
                refine lv_goto (tgt := 122) hx hb d_M_word_118 (by decide) ?_
                refine lv_istore (lv' := [(5, .int (nI 1)), (0, .ref (h 0)), (1, .int (nI p)), (2, .int (nI fd)), (3, .int (nI w)), (4, .int (nI ((wdL w).length))), (6, .int (nI i))]) hx hb d_M_word_122 hl (by decide) rfl (fun ls hl => ?_)
                refine lv_iinc (v := nI (i + 1)) (lv' := [(6, .int (nI (i + 1))), (5, .int (nI 1)), (0, .ref (h 0)), (1, .int (nI p)), (2, .int (nI fd)), (3, .int (nI w)), (4, .int (nI ((wdL w).length)))]) hx hb d_M_word_124 hl (k := 6) rfl (y_inc _) (by decide) rfl (fun ls hl => ?_)
                refine lv_goto (tgt := 76) hx hb d_M_word_127 (by decide) ?_
                exact ih9_76 true (i + 1) (by omega) (by omega) (by omega) ((decide_eq_true ⟨hz9.1, lt_s hz9.2 c114⟩).symm) _ _ _ hP hD hS (lv_sub hl [2, 3, 4, 5, 6, 1, 0] (rfl))
      refine lv_iload_n hx hb d_M_word_32 rfl (lv_at hl 3 rfl) ?_
      refine lv_bipush (v := nI 8) hx hb d_M_word_33 (by decide) ?_
      refine yn_icmp_gt (a := w) (b := 8) (tgt := 147) hx hb d_M_word_35 (by decide) (by omega) (by omega) (fun c35 => ?_) (fun c35 => ?_)
      · skip
        refine lv_iload_n hx hb d_M_word_147 rfl (lv_at hl 2 rfl) ?_
        exact yr_i (ws := wMR G h dg mp ml th n t pl pn xy pt sz rs ou wr sl (rn leN t n p) fk fp va oa oc ok xs ys) hx hb hrt hlocks (⟨by rw [hfd, show w - 1 = 8 by omega], rfl⟩) rfl hK hP hD hS d_M_word_148
      · skip
        obtain ⟨hg1, hg2⟩ := bg_len w hw1 (by omega)
        have hwl := wdL_len w
        refine lv_aload_n hx hb d_M_word_38 rfl (lv_at hl 0 rfl) ?_
        refine va_get (D := gD G) (ci := 5) (v := .ref (h 2)) (C := "WordShapesModel") (T := TM) (N := 24) hx hb hg iw_M hown hK hP 0 rfl rfl 1 (by decide) (hg _ tk_684) (fun _ h9 => h9) rfl d_M_word_39 ?_
        refine lv_iload_n hx hb d_M_word_42 rfl (lv_at hl 3 rfl) ?_
        refine lv_iconst (v := nI 1) hx hb d_M_word_43 (by decide) ?_
        refine lv_iadd hx hb d_M_word_44 ?_
        refine y_eqi (nI_add _ _) ?_
        refine yn_iald hx hb hK hP 2 0 rfl rfl (j := w + 1) (x := nI (bgN (w + 1))) (rfl) (by omega) (by omega) d_M_word_45 ?_
        refine lv_aload_n hx hb d_M_word_46 rfl (lv_at hl 0 rfl) ?_
        refine va_get (D := gD G) (ci := 5) (v := .ref (h 2)) (C := "WordShapesModel") (T := TM) (N := 24) hx hb hg iw_M hown hK hP 0 rfl rfl 1 (by decide) (hg _ tk_684) (fun _ h9 => h9) rfl d_M_word_47 ?_
        refine lv_iload_n hx hb d_M_word_50 rfl (lv_at hl 3 rfl) ?_
        refine yn_iald hx hb hK hP 2 0 rfl rfl (j := w) (x := nI (bgN w)) (rfl) (by omega) (by omega) d_M_word_51 ?_
        refine lv_isub hx hb d_M_word_52 ?_
        refine y_eqi (y := nI ((wdL w).length)) (by rw [hg1]; exact (pk_sub (by omega)).trans (congrArg nI (by omega))) ?_
        refine lv_istore (lv' := [(4, .int (nI ((wdL w).length))), (0, .ref (h 0)), (1, .int (nI p)), (2, .int (nI fd)), (3, .int (nI w))]) hx hb d_M_word_53 hl (by decide) rfl (fun ls hl => ?_)
        refine lv_iload hx hb d_M_word_55 (lv_at hl 0 rfl) ?_
        refine lv_aload_n hx hb d_M_word_57 rfl (lv_at hl 1 rfl) ?_
        refine va_get (D := gD G) (ci := 5) (v := .int (nI (rn leN t n p))) (C := "WordShapesModel") (T := TM) (N := 24) hx hb hg iw_M hown hK hP 0 rfl rfl 17 (by decide) (hg _ tk_700) (fun _ h9 => h9) rfl d_M_word_58 ?_
        refine lv_iload_n hx hb d_M_word_61 rfl (lv_at hl 2 rfl) ?_
        refine lv_isub hx hb d_M_word_62 ?_
        refine y_eqi (pk_sub (by omega)) ?_
        refine yn_icmp_ne (a := (wdL w).length) (b := rn leN t n p - p) (tgt := 70) hx hb d_M_word_63 (by decide) (by omega) (by omega) (fun c63 => ?_) (fun c63 => ?_)
        · skip
          refine lv_iconst (v := nI 0) hx hb d_M_word_70 (by decide) ?_
          refine lv_istore (lv' := [(5, .int (nI 0)), (4, .int (nI ((wdL w).length))), (0, .ref (h 0)), (1, .int (nI p)), (2, .int (nI fd)), (3, .int (nI w))]) hx hb d_M_word_71 hl (by decide) rfl (fun ls hl => ?_)
          refine lv_iconst (v := nI 0) hx hb d_M_word_73 (by decide) ?_
          refine lv_istore (lv' := [(6, .int (nI 0)), (5, .int (nI 0)), (4, .int (nI ((wdL w).length))), (0, .ref (h 0)), (1, .int (nI p)), (2, .int (nI fd)), (3, .int (nI w))]) hx hb d_M_word_74 hl (by decide) rfl (fun ls hl => ?_)
          exact J76 _ false 0 (Nat.lt_succ_self _) (by omega) (by omega) ((decide_eq_false (fun y => by omega)).symm) _ _ _ hP hD hS (lv_sub hl [3, 4, 5, 6, 2, 1, 0] (rfl))
        · skip
          refine lv_iconst (v := nI 1) hx hb d_M_word_66 (by decide) ?_
          refine lv_goto (tgt := 71) hx hb d_M_word_67 (by decide) ?_
          refine lv_istore (lv' := [(5, .int (nI 1)), (4, .int (nI ((wdL w).length))), (0, .ref (h 0)), (1, .int (nI p)), (2, .int (nI fd)), (3, .int (nI w))]) hx hb d_M_word_71 hl (by decide) rfl (fun ls hl => ?_)
          refine lv_iconst (v := nI 0) hx hb d_M_word_73 (by decide) ?_
          refine lv_istore (lv' := [(6, .int (nI 0)), (5, .int (nI 1)), (4, .int (nI ((wdL w).length))), (0, .ref (h 0)), (1, .int (nI p)), (2, .int (nI fd)), (3, .int (nI w))]) hx hb d_M_word_74 hl (by decide) rfl (fun ls hl => ?_)
          exact J76 _ true 0 (Nat.lt_succ_self _) (by omega) (by omega) ((decide_eq_true ⟨by omega, fun j hj => absurd hj (by omega)⟩).symm) _ _ _ hP hD hS (lv_sub hl [3, 4, 5, 6, 2, 1, 0] (rfl))
  have J5 : ∀ (n9 : Nat) (q : Nat) (hm9 : n - q < n9) (hq1 : p ≤ q) (hq2 : q ≤ n) (hq3 : rn leN t n q = rn leN t n p) (H : Heap) (locs : List Loc) (ls : Array Slot), va_P (gD G) vwC (wMR G h dg mp ml th n t pl pn xy pt sz rs ou wr sl q fk fp va oa oc ok xs ys) H → va_D A (wMR G h dg mp ml th n t pl pn xy pt sz rs ou wr sl q fk fp va oa oc ok xs ys) → va_S A sx.heap H locs → lv_has ls 7 [(0, .ref (h 0)), (1, .int (nI p))] → W pg l ev (yR 2 42) sx mm ([.ref (h 0)] : List Value).toArray bl mt cd H locs 0 0 (yMQ bl G A (wMR G h dg mp ml th n t pl pn xy pt sz rs ou wr sl p fk fp va oa oc ok xs ys).length (fun v w => v = some (.int (nI (lsM t p (rn leN t n p) 8))) ∧ w = wMR G h dg mp ml th n t pl pn xy pt sz rs ou wr sl (rn leN t n p) fk fp va oa oc ok xs ys) (fun _ _ => False) ([.ref (h 0)] : List Value).toArray sx) (F0 mm 5 ls []) := by
    intro n9
    induction n9 with
    | zero => intro q hm9; exact absurd hm9 (Nat.not_lt_zero _)
    | succ n9 ih9 =>
      intro q hm9 hq1 hq2 hq3 H locs ls hP hD hS hl
      refine lv_aload_n hx hb d_M_word_5 rfl (lv_at hl 0 rfl) ?_
      refine y_callW (y_runV (As := []) (rest := []) hx hb hml hown (c_M_here l G h dg mp ml th n t pl pn xy pt sz rs ou wr sl q fk fp va oa oc ok xs ys  (by omega) (by omega) (ht)) (gV (n := 0) hg tk_797 tk_799 (gt_s 35 (by decide +kernel) (by decide +kernel)) tk_7 tk_800 (by decide +kernel) ⟨Nat.le_of_ble_eq_true rfl, Nat.le_of_ble_eq_true rfl⟩) (va_recv hK hP (ci := 5) (q0 := 0) rfl rfl) (y_preW hE hK hP hD hS hA) rfl rfl hl.1 rfl (lv_room (Nat.le_of_ble_eq_true rfl)) d_M_word_6 ⟨Nat.le_of_ble_eq_true rfl, Nat.le_of_ble_eq_true rfl⟩) hD hS hA (fun _ _ _ _ _ _ hp => False.elim hp) (fun v9 w9 H locs hp hlw hP hD hS => ?_)
      obtain ⟨rfl, rfl⟩ := hp
      have hP : va_P (gD G) vwC (wMR G h dg mp ml th n t pl pn xy pt sz rs ou wr sl q fk fp va oa oc ok xs ys) H := hP
      have hD : va_D A (wMR G h dg mp ml th n t pl pn xy pt sz rs ou wr sl q fk fp va oa oc ok xs ys) := hD
      refine W.eq (g2 := F0 mm 9 ls [.int (toI (hr t n q))]) rfl ?_
      refine y_call (y_runS (As := [.int (toI (hr t n q))]) (rest := []) hx hb hml hown (c_M_isLetter l G  (toI (hr t n q)) ) (gS (n := 1) hg tk_801 tk_802 tk_7 tk_803 (by decide +kernel) ⟨Nat.le_of_ble_eq_true rfl, Nat.le_of_ble_eq_true rfl⟩) (y_pre hE hK hP hD hS hA [] rfl rfl) rfl rfl hl.1 rfl (lv_room (Nat.le_of_ble_eq_true rfl)) d_M_word_9 ⟨Nat.le_of_ble_eq_true rfl, Nat.le_of_ble_eq_true rfl⟩) hP hD hS hA [] rfl (fun _ _ _ _ _ _ hp => False.elim hp) (fun v9 w9 H locs hp hlw hP hD hS => ?_)
      obtain ⟨rfl, rfl⟩ := hp
      have hP : va_P (gD G) vwC (wMR G h dg mp ml th n t pl pn xy pt sz rs ou wr sl q fk fp va oa oc ok xs ys) H := hP
      have hD : va_D A (wMR G h dg mp ml th n t pl pn xy pt sz rs ou wr sl q fk fp va oa oc ok xs ys) := hD
      refine W.eq (g2 := F0 mm 12 ls [.int (bz (isLe (toI (hr t n q))))]) rfl ?_
      refine yy_if_eq (P := isLe (toI (hr t n q))) (tgt := 28) hx hb d_M_word_12 (by decide) (fun c12 => ?_) (fun c12 => ?_)
      · skip
        have e9 : q = rn leN t n p := by rw [← hq3]; exact (rn_stop (fun z => by rw [(ch_h _ (Nat.lt_succ_of_le (hr_le ht _ _))).2.1, show hr t n q = t q from if_pos z.1] at c12; rw [c12] at z; exact absurd z.2 (by decide))).symm
        rw [e9] at hP hD
        refine lv_iconst (v := nI 0) hx hb d_M_word_28 (by decide) ?_
        refine lv_istore_n (lv' := [(2, .int (nI 0)), (0, .ref (h 0)), (1, .int (nI p))]) hx hb d_M_word_29 rfl hl (by decide) rfl (fun ls hl => ?_)
        refine lv_iconst (v := nI 1) hx hb d_M_word_30 (by decide) ?_
        refine lv_istore_n (lv' := [(3, .int (nI 1)), (2, .int (nI 0)), (0, .ref (h 0)), (1, .int (nI p))]) hx hb d_M_word_31 rfl hl (by decide) rfl (fun ls hl => ?_)
        exact J32 _ 1 0 (Nat.lt_succ_self _) (by omega) (by omega) (rfl) (by omega) _ _ _ hP hD hS (lv_sub hl [2, 3, 1, 0] (rfl))
      · skip
        have h9 := c12
        rw [(ch_h _ (Nat.lt_succ_of_le (hr_le ht _ _))).2.1] at h9
        have h7 : q < n := by rcases Nat.lt_or_ge q n with y | y; exact y; exact absurd h9 (by unfold hr; rw [if_neg (by omega)]; decide)
        have h8 : leN (t q) = true := by rwa [show hr t n q = t q from if_pos h7] at h9
        refine lv_aload_n hx hb d_M_word_15 rfl (lv_at hl 0 rfl) ?_
        refine lv_dup hx hb d_M_word_16 rfl ?_
        refine va_get (D := gD G) (ci := 5) (v := .int (nI q)) (C := "WordShapesModel") (T := TM) (N := 24) hx hb hg iw_M hown hK hP 0 rfl rfl 17 (by decide) (hg _ tk_700) (fun _ h9 => h9) rfl d_M_word_17 ?_
        refine lv_iconst (v := nI 1) hx hb d_M_word_20 (by decide) ?_
        refine lv_iadd hx hb d_M_word_21 ?_
        refine y_eqi (nI_add _ _) ?_
        refine va_put (D := gD G) (ci := 5) (v := .int (nI (q + 1))) (ty := .int) (C := "WordShapesModel") (T := TM) (N := 24) hx hb hg iw_M ft_M fo_M nm_M hown hK hP hD hS 0 rfl rfl 17 (by decide) (hg _ tk_700) (fun _ h9 => h9) rfl (by decide +kernel) (rfl) (rfl) (Nat.le_of_ble_eq_true rfl) d_M_word_22 (fun H locs hP hD hS => ?_)
        have hP : va_P (gD G) vwC (wMR G h dg mp ml th n t pl pn xy pt sz rs ou wr sl (q + 1) fk fp va oa oc ok xs ys) H := hP
        have hD : va_D A (wMR G h dg mp ml th n t pl pn xy pt sz rs ou wr sl (q + 1) fk fp va oa oc ok xs ys) := hD
        refine lv_goto (tgt := 5) hx hb d_M_word_25 (by decide) ?_
        exact ih9 (q + 1) (by omega) (by omega) (by omega) ((rn_step h7 h8).symm.trans hq3) _ _ _ hP hD hS (lv_sub hl [0, 1] (rfl))
  refine lv_aload_n hx hb d_M_word_0 rfl (lv_at hl 0 rfl) ?_
  refine va_get (D := gD G) (ci := 5) (v := .int (nI p)) (C := "WordShapesModel") (T := TM) (N := 24) hx hb hg iw_M hown hK hP 0 rfl rfl 17 (by decide) (hg _ tk_700) (fun _ h9 => h9) rfl d_M_word_1 ?_
  refine lv_istore_n (lv' := [(1, .int (nI p)), (0, .ref (h 0))]) hx hb d_M_word_4 rfl hl (by decide) rfl (fun ls hl => ?_)
  exact J5 _ p (Nat.lt_succ_self _) (by omega) (by omega) (rfl) _ _ _ hP hD hS (lv_sub hl [1, 0] (rfl))
