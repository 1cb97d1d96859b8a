set_option maxHeartbeats 4000000 in
set_option maxRecDepth 100000 in
theorem c_M_readAll (l : Launch) (G : gl) (h : Nat → Nat) (dg : Nat) (mp : Nat) (ml : Nat) (th : Nat) (n : Nat) (t : Nat → Nat) (pl : Nat → Int32) (pn : Nat → Nat) (xy : Nat → Int32) (pt : Nat → Nat) (sz : Nat) (rs : Nat → Nat) (ou : Nat → Nat) (wr : Nat) (sl : Nat) (p : Nat) (fk : Nat) (fp : Nat) (va : Int32) (oa : Nat → Int32) (oc : Nat → Int32) (ok : Nat → Int32) (xs : List Int32) (ys : List (Int32 × Int32))  (hn : n ≤ 65536) (hp : p ≤ n) (ht : ∀ i, t i < 256) (hml : ml ≤ 4096) (hmp : mp ≤ 4096) (hsl : sl < 4) (hxs : xs.length ≤ ml) (hys : ys.length ≤ mp) (hdg : dg ≤ 3) (hfk : fk = 0) : YC l G y_M_readAll k_M_readAll 6 (Option.some FieldType.boolean) 11 254 [.ref (h 0)] (wMR G h dg mp ml th n t pl pn xy pt sz rs ou wr sl p fk fp va oa oc ok xs ys) (fun v w => (∃ q xs9 ys9 va9 oa9 oc9, (raM t n dg mp ml (n + 1) 0 p xs ys oa oc = .inr (q, xs9, ys9) ∧ rn blN t n q = n) ∧ v = some (.int (nI 1)) ∧ w = wMR G h dg mp ml th n t pl pn xy pt sz rs ou wr sl (rn blN t n q) fk fp va9 oa9 oc9 ok xs9 ys9) ∨ (∃ q xs9 ys9 va9 oa9 oc9, (raM t n dg mp ml (n + 1) 0 p xs ys oa oc = .inr (q, xs9, ys9) ∧ ¬ rn blN t n q = n) ∧ v = some (.int (nI 0)) ∧ w = wMR G h dg mp ml th n t pl pn xy pt sz rs ou wr sl (rn blN t n q) 8 (rn blN t n q) va9 oa9 oc9 ok xs9 ys9) ∨ (∃ a b q va9 xs9 ys9 oa9 oc9, (raM t n dg mp ml (n + 1) 0 p xs ys oa oc = .inl (a, b)) ∧ v = some (.int (nI 0)) ∧ w = wMR G h dg mp ml th n t pl pn xy pt sz rs ou wr sl q a b va9 oa9 oc9 ok xs9 ys9)) (fun _ _ => False) := by
  refine yc_of (by decide) ?_
  intro pg ev sx mm bl mt cd A C0 hP hD
  obtain ⟨hx, hb, hrt, hml, hown, hg, hlocks, hxt, hE, hK, hA, hmn⟩ := C0
  have hS : va_S A sx.heap sx.heap [] := va_S.rf
  have hl := lv_entry ([.ref (h 0)]) (n := 6) (Nat.le_of_ble_eq_true rfl)
  rw [lg_entry_eq]
  generalize (lg_sl ([.ref (h 0)]) ++ List.replicate (6 - (lg_sl ([.ref (h 0)])).length) Slot.unset).toArray = ls at hl ⊢
  have hl : lv_has ls 6 [(0, .ref (h 0))] := hl
  obtain ⟨H, hH⟩ : ∃ H, H = sx.heap := ⟨_, rfl⟩
  rw [← hH] at hP
  have hS : va_S A sx.heap H [] := by rw [hH]; exact hS
  suffices h9 : W pg l ev (yR 11 254) sx mm _ bl mt cd H [] 0 0 (yMQ bl G A _ _ _ _ sx) (F0 mm 0 ls []) by rw [hH] at h9; exact h9
  obtain ⟨locs, hlo⟩ : ∃ locs : List Loc, locs = [] := ⟨_, rfl⟩
  rw [← hlo] at hS ⊢
  have J8 : ∀ (n9 : Nat) (F : Nat) (d : Nat) (q : Nat) (v1 : Int32) (x1 : List Int32) (y1 : List (Int32 × Int32)) (oa1 : Nat → Int32) (oc1 : Nat → Int32) (hm9 : n - q < n9) (hF : n + 1 ≤ q + F) (hq : q ≤ n) (hd : d ≤ 50) (hx1 : x1.length ≤ ml) (hy1 : y1.length ≤ mp) (hO : ∀ i, i < d → ∃ w, w < x1.length ∧ oa1 i = nI w) (hS9 : raM t n dg mp ml (n + 1) 0 p xs ys oa oc = raM t n dg mp ml F d q x1 y1 oa1 oc1) (H : Heap) (locs : List Loc) (ls : Array Slot), va_P (gD G) vwC (wMR G h dg mp ml th n t pl pn xy pt sz rs ou wr sl q fk fp v1 oa1 oc1 ok x1 y1) H → va_D A (wMR G h dg mp ml th n t pl pn xy pt sz rs ou wr sl q fk fp v1 oa1 oc1 ok x1 y1) → va_S A sx.heap H locs → lv_has ls 6 [(0, .ref (h 0)), (1, .int (nI d))] → W pg l ev (yR 11 254) sx mm ([.ref (h 0)] : List Value).toArray bl mt cd H locs 0 0 (yMQ bl G A (wMR G h dg mp ml th n t pl pn xy pt sz rs ou wr sl p fk fp va oa oc ok xs ys).length (fun v w => (∃ q xs9 ys9 va9 oa9 oc9, (raM t n dg mp ml (n + 1) 0 p xs ys oa oc = .inr (q, xs9, ys9) ∧ rn blN t n q = n) ∧ v = some (.int (nI 1)) ∧ w = wMR G h dg mp ml th n t pl pn xy pt sz rs ou wr sl (rn blN t n q) fk fp va9 oa9 oc9 ok xs9 ys9) ∨ (∃ q xs9 ys9 va9 oa9 oc9, (raM t n dg mp ml (n + 1) 0 p xs ys oa oc = .inr (q, xs9, ys9) ∧ ¬ rn blN t n q = n) ∧ v = some (.int (nI 0)) ∧ w = wMR G h dg mp ml th n t pl pn xy pt sz rs ou wr sl (rn blN t n q) 8 (rn blN t n q) va9 oa9 oc9 ok xs9 ys9) ∨ (∃ a b q va9 xs9 ys9 oa9 oc9, (raM t n dg mp ml (n + 1) 0 p xs ys oa oc = .inl (a, b)) ∧ v = some (.int (nI 0)) ∧ w = wMR G h dg mp ml th n t pl pn xy pt sz rs ou wr sl q a b va9 oa9 oc9 ok xs9 ys9)) (fun _ _ => False) ([.ref (h 0)] : List Value).toArray sx) (F0 mm 8 ls []) := by
    intro n9
    induction n9 with
    | zero => intro F d q v1 x1 y1 oa1 oc1 hm9; exact absurd hm9 (Nat.not_lt_zero _)
    | succ n9 ih9 =>
      intro F d q v1 x1 y1 oa1 oc1 hm9 hF hq hd hx1 hy1 hO hS9 H locs ls hP hD hS hl
      obtain ⟨F, rfl⟩ : ∃ z, F = z + 1 := ⟨F - 1, by omega⟩
      have J39 : ∀ (n9_39 : Nat) (z : Nat) (q2 : Nat) (v2 : Int32) (x2 : List Int32) (y2 : List (Int32 × Int32)) (oc2 : Nat → Int32) (hm9_39 : z < n9_39) (hz : z ≤ 50) (hq2 : q < q2) (hq3 : q2 ≤ n) (hx2 : x2.length ≤ ml) (hy2 : y2.length ≤ mp) (hO2 : ∀ i, i < z → ∃ w, w < x2.length ∧ oa1 i = nI w) (hR : raM t n dg mp ml (n + 1) 0 p xs ys oa oc = raC t n dg mp ml F oa1 y2 (clM t n oa1 z q2 x2 oc2)) (H : Heap) (locs : List Loc) (ls : Array Slot), va_P (gD G) vwC (wMR G h dg mp ml th n t pl pn xy pt sz rs ou wr sl q2 fk fp v2 oa1 oc2 ok x2 y2) H → va_D A (wMR G h dg mp ml th n t pl pn xy pt sz rs ou wr sl q2 fk fp v2 oa1 oc2 ok x2 y2) → va_S A sx.heap H locs → lv_has ls 6 [(0, .ref (h 0)), (1, .int (nI z)), (4, .int (nI 1))] → W pg l ev (yR 11 254) sx mm ([.ref (h 0)] : List Value).toArray bl mt cd H locs 0 0 (yMQ bl G A (wMR G h dg mp ml th n t pl pn xy pt sz rs ou wr sl p fk fp va oa oc ok xs ys).length (fun v w => (∃ q xs9 ys9 va9 oa9 oc9, (raM t n dg mp ml (n + 1) 0 p xs ys oa oc = .inr (q, xs9, ys9) ∧ rn blN t n q = n) ∧ v = some (.int (nI 1)) ∧ w = wMR G h dg mp ml th n t pl pn xy pt sz rs ou wr sl (rn blN t n q) fk fp va9 oa9 oc9 ok xs9 ys9) ∨ (∃ q xs9 ys9 va9 oa9 oc9, (raM t n dg mp ml (n + 1) 0 p xs ys oa oc = .inr (q, xs9, ys9) ∧ ¬ rn blN t n q = n) ∧ v = some (.int (nI 0)) ∧ w = wMR G h dg mp ml th n t pl pn xy pt sz rs ou wr sl (rn blN t n q) 8 (rn blN t n q) va9 oa9 oc9 ok xs9 ys9) ∨ (∃ a b q va9 xs9 ys9 oa9 oc9, (raM t n dg mp ml (n + 1) 0 p xs ys oa oc = .inl (a, b)) ∧ v = some (.int (nI 0)) ∧ w = wMR G h dg mp ml th n t pl pn xy pt sz rs ou wr sl q a b va9 oa9 oc9 ok xs9 ys9)) (fun _ _ => False) ([.ref (h 0)] : List Value).toArray sx) (F0 mm 39 ls []) := by
        intro n9_39
        induction n9_39 with
        | zero => intro z q2 v2 x2 y2 oc2 hm9_39; exact absurd hm9_39 (Nat.not_lt_zero _)
        | succ n9_39 ih9_39 =>
          intro z q2 v2 x2 y2 oc2 hm9_39 hz hq2 hq3 hx2 hy2 hO2 hR H locs ls hP hD hS hl
          refine lv_iload_n hx hb d_M_readAll_39 rfl (lv_at hl 1 rfl) ?_
          refine yn_if_le (a := z) (tgt := 107) hx hb d_M_readAll_40 (by decide) (by omega) (fun c40 => ?_) (fun c40 => ?_)
          · skip
            obtain rfl : z = 0 := by omega
            have b3 := rn_le (P := blN) (t := t) hq3
            refine lv_iload hx hb d_M_readAll_107 (lv_at hl 2 rfl) ?_
            refine yn_if_ne (a := 1) (tgt := 116) hx hb d_M_readAll_109 (by decide) (by omega) (fun c109 => ?_) (fun c109 => ?_)
            · skip
              refine lv_iconst (v := nI 0) hx hb d_M_readAll_116 (by decide) ?_
              refine lv_istore_n (lv' := [(2, .int (nI 0)), (0, .ref (h 0)), (1, .int (nI 0)), (4, .int (nI 1))]) hx hb d_M_readAll_117 rfl hl (by decide) rfl (fun ls hl => ?_)
              refine lv_goto (tgt := 4) hx hb d_M_readAll_118 (by decide) ?_
              refine lv_iload_n hx hb d_M_readAll_4 rfl (lv_at hl 0 rfl) ?_
              refine yn_if_eq (a := 0) (tgt := 121) hx hb d_M_readAll_5 (by decide) (by omega) (fun c5 => ?_) (fun c5 => ?_)
              · skip
                refine lv_aload_n hx hb d_M_readAll_121 rfl (lv_at hl 1 rfl) ?_
                refine y_callW (y_runV (As := []) (rest := []) hx hb hml hown (c_M_pass l G h dg mp ml th n t pl pn xy pt sz rs ou wr sl q2 fk fp v2 oa1 oc2 ok x2 y2  (by omega) (by omega) (ht)) (gV (n := 0) hg tk_790 tk_792 (gt_s 34 (by decide +kernel) (by decide +kernel)) tk_7 tk_793 (by decide +kernel) ⟨Nat.le_of_ble_eq_true rfl, Nat.le_of_ble_eq_true rfl⟩) (va_recv hK hP (ci := 5) (q0 := 0) rfl rfl) (y_preW hE hK hP hD hS hA) rfl rfl hl.1 rfl (lv_room (Nat.le_of_ble_eq_true rfl)) d_M_readAll_122 ⟨Nat.le_of_ble_eq_true rfl, Nat.le_of_ble_eq_true rfl⟩) hD hS hA (fun _ _ _ _ _ _ hp => False.elim hp) (fun v9 w9 H locs hp hlw hP hD hS => ?_)
                obtain ⟨rfl, rfl⟩ := hp
                have hP : va_P (gD G) vwC (wMR G h dg mp ml th n t pl pn xy pt sz rs ou wr sl (rn blN t n q2) fk fp v2 oa1 oc2 ok x2 y2) H := hP
                have hD : va_D A (wMR G h dg mp ml th n t pl pn xy pt sz rs ou wr sl (rn blN t n q2) fk fp v2 oa1 oc2 ok x2 y2) := hD
                refine W.eq (g2 := F0 mm 125 ls []) rfl ?_
                refine lv_aload_n hx hb d_M_readAll_125 rfl (lv_at hl 1 rfl) ?_
                refine va_get (D := gD G) (ci := 5) (v := .int (nI (rn blN t n q2))) (C := "WordShapesModel") (T := TM) (N := 24) hx hb hg iw_M hown hK hP 0 rfl rfl 17 (by decide) (hg _ tk_700) (fun _ h9 => h9) rfl d_M_readAll_126 ?_
                refine lv_aload_n hx hb d_M_readAll_129 rfl (lv_at hl 1 rfl) ?_
                refine va_get (D := gD G) (ci := 5) (v := .int (nI n)) (C := "WordShapesModel") (T := TM) (N := 24) hx hb hg iw_M hown hK hP 0 rfl rfl 6 (by decide) (hg _ tk_689) (fun _ h9 => h9) rfl d_M_readAll_130 ?_
                refine yn_icmp_eq (a := rn blN t n q2) (b := n) (tgt := 149) hx hb d_M_readAll_133 (by decide) (by omega) (by omega) (fun c133 => ?_) (fun c133 => ?_)
                · skip
                  refine lv_iconst (v := nI 1) hx hb d_M_readAll_149 (by decide) ?_
                  refine lv_goto (tgt := 154) hx hb d_M_readAll_150 (by decide) ?_
                  exact yr_z (ws := wMR G h dg mp ml th n t pl pn xy pt sz rs ou wr sl (rn blN t n q2) fk fp v2 oa1 oc2 ok x2 y2) hx hb hrt (rfl) hlocks (by first | exact Or.inl ⟨_, _, _, _, _, _, ⟨hR, c133⟩, rfl, rfl⟩ | exact Or.inr (Or.inl ⟨_, _, _, _, _, _, ⟨hR, c133⟩, rfl, rfl⟩)) rfl hK hP hD hS d_M_readAll_154
                · skip
                  refine lv_aload_n hx hb d_M_readAll_136 rfl (lv_at hl 1 rfl) ?_
                  refine lv_bipush (v := nI 8) hx hb d_M_readAll_137 (by decide) ?_
                  refine lv_aload_n hx hb d_M_readAll_139 rfl (lv_at hl 1 rfl) ?_
                  refine va_get (D := gD G) (ci := 5) (v := .int (nI (rn blN t n q2))) (C := "WordShapesModel") (T := TM) (N := 24) hx hb hg iw_M hown hK hP 0 rfl rfl 17 (by decide) (hg _ tk_700) (fun _ h9 => h9) rfl d_M_readAll_140 ?_
                  refine y_callW (y_runV (As := [.int (nI 8), .int (nI (rn blN t n q2))]) (rest := []) hx hb hml hown (c_M_wrong l G h dg mp ml th n t pl pn xy pt sz rs ou wr sl (rn blN t n q2) fk fp v2 oa1 oc2 ok x2 y2 8 (rn blN t n q2) ) (gV (n := 2) hg tk_817 tk_819 (gt_s 37 (by decide +kernel) (by decide +kernel)) tk_7 tk_820 (by decide +kernel) ⟨Nat.le_of_ble_eq_true rfl, Nat.le_of_ble_eq_true rfl⟩) (va_recv hK hP (ci := 5) (q0 := 0) rfl rfl) (y_preW hE hK hP hD hS hA) rfl rfl hl.1 rfl (lv_room (Nat.le_of_ble_eq_true rfl)) d_M_readAll_143 ⟨Nat.le_of_ble_eq_true rfl, Nat.le_of_ble_eq_true rfl⟩) hD hS hA (fun _ _ _ _ _ _ hp => False.elim hp) (fun v9 w9 H locs hp hlw hP hD hS => ?_)
                  obtain ⟨rfl, rfl⟩ := hp
                  have hP : va_P (gD G) vwC (wMR G h dg mp ml th n t pl pn xy pt sz rs ou wr sl (rn blN t n q2) 8 (rn blN t n q2) v2 oa1 oc2 ok x2 y2) H := hP
                  have hD : va_D A (wMR G h dg mp ml th n t pl pn xy pt sz rs ou wr sl (rn blN t n q2) 8 (rn blN t n q2) v2 oa1 oc2 ok x2 y2) := hD
                  refine W.eq (g2 := F0 mm 146 ls [.int (nI 0)]) rfl ?_
                  refine yn_if_eq (a := 0) (tgt := 153) hx hb d_M_readAll_146 (by decide) (by omega) (fun c146 => ?_) (fun c146 => ?_)
                  · skip
                    refine lv_iconst (v := nI 0) hx hb d_M_readAll_153 (by decide) ?_
                    exact yr_z (ws := wMR G h dg mp ml th n t pl pn xy pt sz rs ou wr sl (rn blN t n q2) 8 (rn blN t n q2) v2 oa1 oc2 ok x2 y2) hx hb hrt (rfl) hlocks (by first | exact Or.inl ⟨_, _, _, _, _, _, ⟨hR, c133⟩, rfl, rfl⟩ | exact Or.inr (Or.inl ⟨_, _, _, _, _, _, ⟨hR, c133⟩, rfl, rfl⟩)) rfl hK hP hD hS d_M_readAll_154
                  · skip
                    exact absurd c146 (by decide)
              · skip
                exact absurd c5 (by decide)
            · skip
              exact absurd c109 (by decide)
          · skip
            obtain ⟨z, rfl⟩ : ∃ y, z = y + 1 := ⟨z - 1, by omega⟩
            refine lv_aload_n hx hb d_M_readAll_43 rfl (lv_at hl 0 rfl) ?_
            refine va_get (D := gD G) (ci := 5) (v := .ref (h 11)) (C := "WordShapesModel") (T := TM) (N := 24) hx hb hg iw_M hown hK hP 0 rfl rfl 22 (by decide) (hg _ tk_705) (fun _ h9 => h9) rfl d_M_readAll_44 ?_
            refine lv_iload_n hx hb d_M_readAll_47 rfl (lv_at hl 1 rfl) ?_
            refine lv_iconst (v := nI 1) hx hb d_M_readAll_48 (by decide) ?_
            refine lv_isub hx hb d_M_readAll_49 ?_
            refine y_eqi (y := nI z) ((pk_sub (by omega)).trans (congrArg nI (by omega))) ?_
            refine lv_dup2_11 hx hb d_M_readAll_50 rfl rfl ?_
            refine yn_iald hx hb hK hP 11 0 rfl rfl (j := z) (x := oc2 z) (rfl) (by omega) (by omega) d_M_readAll_51 ?_
            refine lv_iconst (v := nI 1) hx hb d_M_readAll_52 (by decide) ?_
            refine lv_iadd hx hb d_M_readAll_53 ?_
            refine y_eqi (y := oc2 z + nI 1) (rfl) ?_
            refine yn_iast hx hb hK hP hD hS 11 0 rfl rfl (j := z) (x := oc2 z + nI 1) (f1 := upd oc2 z (oc2 z + nI 1)) (rfl) (by omega) (by omega) d_M_readAll_54 (fun H locs hP hD hS => ?_)
            have hP : va_P (gD G) vwC (wMR G h dg mp ml th n t pl pn xy pt sz rs ou wr sl q2 fk fp v2 oa1 (upd oc2 z (oc2 z + nI 1)) ok x2 y2) H := hP
            have hD : va_D A (wMR G h dg mp ml th n t pl pn xy pt sz rs ou wr sl q2 fk fp v2 oa1 (upd oc2 z (oc2 z + nI 1)) ok x2 y2) := hD
            refine lv_aload_n hx hb d_M_readAll_55 rfl (lv_at hl 0 rfl) ?_
            refine y_callW (y_runV (As := []) (rest := []) hx hb hml hown (c_M_goesOn l G h dg mp ml th n t pl pn xy pt sz rs ou wr sl q2 fk fp v2 oa1 (upd oc2 z (oc2 z + nI 1)) ok x2 y2  (by omega) (by omega) (ht)) (gV (n := 0) hg tk_879 tk_881 (gt_s 51 (by decide +kernel) (by decide +kernel)) tk_7 tk_882 (by decide +kernel) ⟨Nat.le_of_ble_eq_true rfl, Nat.le_of_ble_eq_true rfl⟩) (va_recv hK hP (ci := 5) (q0 := 0) rfl rfl) (y_preW hE hK hP hD hS hA) rfl rfl hl.1 rfl (lv_room (Nat.le_of_ble_eq_true rfl)) d_M_readAll_56 ⟨Nat.le_of_ble_eq_true rfl, Nat.le_of_ble_eq_true rfl⟩) hD hS hA (fun _ _ _ _ _ _ hp => False.elim hp) (fun v9 w9 H locs hp hlw hP hD hS => ?_)
            rcases hp with ⟨hs_56, rfl, rfl⟩ | ⟨hs_56, rfl, rfl⟩ | ⟨hs_56, rfl, rfl⟩
            · skip
              have hP : va_P (gD G) vwC (wMR G h dg mp ml th n t pl pn xy pt sz rs ou wr sl (rn blN t n q2 + 1) fk fp v2 oa1 (upd oc2 z (oc2 z + nI 1)) ok x2 y2) H := hP
              have hD : va_D A (wMR G h dg mp ml th n t pl pn xy pt sz rs ou wr sl (rn blN t n q2 + 1) fk fp v2 oa1 (upd oc2 z (oc2 z + nI 1)) ok x2 y2) := hD
              refine W.eq (g2 := F0 mm 59 ls [.int (nI 1)]) rfl ?_
              have b2 := goM_bd hq3 (go_44 hs_56)
              refine lv_istore (lv' := [(5, .int (nI 1)), (0, .ref (h 0)), (1, .int (nI (z + 1))), (4, .int (nI 1))]) hx hb d_M_readAll_59 hl (by decide) rfl (fun ls hl => ?_)
              refine lv_iload hx hb d_M_readAll_61 (lv_at hl 0 rfl) ?_
              refine yn_if_ge (a := 1) (tgt := 68) hx hb d_M_readAll_63 (by decide) (by omega) (fun c63 => ?_) (fun c63 => ?_)
              · skip
                refine lv_iload hx hb d_M_readAll_68 (lv_at hl 0 rfl) ?_
                refine yn_if_ne (a := 1) (tgt := 77) hx hb d_M_readAll_70 (by decide) (by omega) (fun c70 => ?_) (fun c70 => ?_)
                · skip
                  refine lv_iconst (v := nI 0) hx hb d_M_readAll_77 (by decide) ?_
                  refine lv_istore (lv' := [(4, .int (nI 0)), (5, .int (nI 1)), (0, .ref (h 0)), (1, .int (nI (z + 1)))]) hx hb d_M_readAll_78 hl (by decide) rfl (fun ls hl => ?_)
                  refine lv_iload hx hb d_M_readAll_80 (lv_at hl 0 rfl) ?_
                  refine yn_if_eq (a := 0) (tgt := 104) hx hb d_M_readAll_82 (by decide) (by omega) (fun c82 => ?_) (fun c82 => ?_)
                  · skip
                    refine lv_goto (tgt := 34) hx hb d_M_readAll_104 (by decide) ?_
                    refine lv_iload hx hb d_M_readAll_34 (lv_at hl 0 rfl) ?_
                    refine yn_if_eq (a := 0) (tgt := 107) hx hb d_M_readAll_36 (by decide) (by omega) (fun c36 => ?_) (fun c36 => ?_)
                    · skip
                      refine lv_iload hx hb d_M_readAll_107 (lv_at hl 0 rfl) ?_
                      refine yn_if_ne (a := 0) (tgt := 116) hx hb d_M_readAll_109 (by decide) (by omega) (fun c109 => ?_) (fun c109 => ?_)
                      · skip
                        exact absurd c109 (by decide)
                      · skip
                        refine lv_iconst (v := nI 1) hx hb d_M_readAll_112 (by decide) ?_
                        refine lv_goto (tgt := 117) hx hb d_M_readAll_113 (by decide) ?_
                        refine lv_istore_n (lv' := [(2, .int (nI 1)), (4, .int (nI 0)), (5, .int (nI 1)), (0, .ref (h 0)), (1, .int (nI (z + 1)))]) hx hb d_M_readAll_117 rfl hl (by decide) rfl (fun ls hl => ?_)
                        refine lv_goto (tgt := 4) hx hb d_M_readAll_118 (by decide) ?_
                        refine lv_iload_n hx hb d_M_readAll_4 rfl (lv_at hl 0 rfl) ?_
                        refine yn_if_eq (a := 1) (tgt := 121) hx hb d_M_readAll_5 (by decide) (by omega) (fun c5 => ?_) (fun c5 => ?_)
                        · skip
                          exact absurd c5 (by decide)
                        · skip
                          exact ih9 F (z + 1) (rn blN t n q2 + 1) v2 x2 y2 oa1 (upd oc2 z (oc2 z + nI 1)) (by omega) (by omega) (by omega) (by omega) (by omega) (by omega) (fun i hi => hO2 i hi) (hR.trans (by rw [cl_s, go_44 hs_56]; rfl)) _ _ _ hP hD hS (lv_sub hl [3, 4] (rfl))
                    · skip
                      exact absurd c36 (by decide)
                  · skip
                    exact absurd c82 (by decide)
                · skip
                  exact absurd c70 (by decide)
              · skip
                exact absurd c63 (by decide)
            · skip
              have hP : va_P (gD G) vwC (wMR G h dg mp ml th n t pl pn xy pt sz rs ou wr sl (rn blN t n q2 + 1) fk fp v2 oa1 (upd oc2 z (oc2 z + nI 1)) ok x2 y2) H := hP
              have hD : va_D A (wMR G h dg mp ml th n t pl pn xy pt sz rs ou wr sl (rn blN t n q2 + 1) fk fp v2 oa1 (upd oc2 z (oc2 z + nI 1)) ok x2 y2) := hD
              refine W.eq (g2 := F0 mm 59 ls [.int (nI 0)]) rfl ?_
              have b2 := goM_bd hq3 (go_41 hs_56)
              refine lv_istore (lv' := [(5, .int (nI 0)), (0, .ref (h 0)), (1, .int (nI (z + 1))), (4, .int (nI 1))]) hx hb d_M_readAll_59 hl (by decide) rfl (fun ls hl => ?_)
              refine lv_iload hx hb d_M_readAll_61 (lv_at hl 0 rfl) ?_
              refine yn_if_ge (a := 0) (tgt := 68) hx hb d_M_readAll_63 (by decide) (by omega) (fun c63 => ?_) (fun c63 => ?_)
              · skip
                refine lv_iload hx hb d_M_readAll_68 (lv_at hl 0 rfl) ?_
                refine yn_if_ne (a := 0) (tgt := 77) hx hb d_M_readAll_70 (by decide) (by omega) (fun c70 => ?_) (fun c70 => ?_)
                · skip
                  exact absurd c70 (by decide)
                · skip
                  refine lv_iconst (v := nI 1) hx hb d_M_readAll_73 (by decide) ?_
                  refine lv_goto (tgt := 78) hx hb d_M_readAll_74 (by decide) ?_
                  refine lv_istore (lv' := [(4, .int (nI 1)), (5, .int (nI 0)), (0, .ref (h 0)), (1, .int (nI (z + 1)))]) hx hb d_M_readAll_78 hl (by decide) rfl (fun ls hl => ?_)
                  refine lv_iload hx hb d_M_readAll_80 (lv_at hl 0 rfl) ?_
                  refine yn_if_eq (a := 1) (tgt := 104) hx hb d_M_readAll_82 (by decide) (by omega) (fun c82 => ?_) (fun c82 => ?_)
                  · skip
                    exact absurd c82 (by decide)
                  · skip
                    refine lv_iinc (v := nI z) (lv' := [(1, .int (nI z)), (4, .int (nI 1)), (5, .int (nI 0)), (0, .ref (h 0))]) hx hb d_M_readAll_85 hl (k := 3) rfl ((y_dec (by omega)).trans (congrArg nI (by omega))) (by decide) rfl (fun ls hl => ?_)
                    obtain ⟨w, hw, ew⟩ := hO2 z (by omega)
                    refine lv_aload_n hx hb d_M_readAll_88 rfl (lv_at hl 3 rfl) ?_
                    refine lv_aload_n hx hb d_M_readAll_89 rfl (lv_at hl 3 rfl) ?_
                    refine va_get (D := gD G) (ci := 5) (v := .ref (h 10)) (C := "WordShapesModel") (T := TM) (N := 24) hx hb hg iw_M hown hK hP 0 rfl rfl 21 (by decide) (hg _ tk_704) (fun _ h9 => h9) rfl d_M_readAll_90 ?_
                    refine lv_iload_n hx hb d_M_readAll_93 rfl (lv_at hl 0 rfl) ?_
                    refine yn_iald hx hb hK hP 10 0 rfl rfl (j := z) (x := nI w) (ew) (by omega) (by omega) d_M_readAll_94 ?_
                    refine lv_aload_n hx hb d_M_readAll_95 rfl (lv_at hl 3 rfl) ?_
                    refine va_get (D := gD G) (ci := 5) (v := .ref (h 11)) (C := "WordShapesModel") (T := TM) (N := 24) hx hb hg iw_M hown hK hP 0 rfl rfl 22 (by decide) (hg _ tk_705) (fun _ h9 => h9) rfl d_M_readAll_96 ?_
                    refine lv_iload_n hx hb d_M_readAll_99 rfl (lv_at hl 0 rfl) ?_
                    refine yn_iald hx hb hK hP 11 0 rfl rfl (j := z) (x := oc2 z + nI 1) (upd_s _ _ _) (by omega) (by omega) d_M_readAll_100 ?_
                    refine y_callW (y_runV (As := [.int (nI w), .int (oc2 z + nI 1)]) (rest := []) hx hb hml hown (c_M_close l G h dg mp ml th n t pl pn xy pt sz rs ou wr sl (rn blN t n q2 + 1) fk fp v2 oa1 (upd oc2 z (oc2 z + nI 1)) ok x2 y2 w (oc2 z + nI 1) (by omega) (by omega) (by omega) (by omega) (by omega) (by omega)) (gV (n := 2) hg tk_883 tk_885 (gt_s 52 (by decide +kernel) (by decide +kernel)) tk_7 tk_886 (by decide +kernel) ⟨Nat.le_of_ble_eq_true rfl, Nat.le_of_ble_eq_true rfl⟩) (va_recv hK hP (ci := 5) (q0 := 0) rfl rfl) (y_preW hE hK hP hD hS hA) rfl rfl hl.1 rfl (lv_room (Nat.le_of_ble_eq_true rfl)) d_M_readAll_101 ⟨Nat.le_of_ble_eq_true rfl, Nat.le_of_ble_eq_true rfl⟩) hD hS hA (fun _ _ _ _ _ _ hp => False.elim hp) (fun v9 w9 H locs hp hlw hP hD hS => ?_)
                    obtain ⟨rfl, rfl⟩ := hp
                    have hP : va_P (gD G) vwC (wMR G h dg mp ml th n t pl pn xy pt sz rs ou wr sl (rn blN t n q2 + 1) fk fp v2 oa1 (upd oc2 z (oc2 z + nI 1)) ok (x2.set w (oc2 z + nI 1)) y2) H := hP
                    have hD : va_D A (wMR G h dg mp ml th n t pl pn xy pt sz rs ou wr sl (rn blN t n q2 + 1) fk fp v2 oa1 (upd oc2 z (oc2 z + nI 1)) ok (x2.set w (oc2 z + nI 1)) y2) := hD
                    refine W.eq (g2 := F0 mm 104 ls []) rfl ?_
                    refine lv_goto (tgt := 34) hx hb d_M_readAll_104 (by decide) ?_
                    refine lv_iload hx hb d_M_readAll_34 (lv_at hl 1 rfl) ?_
                    refine yn_if_eq (a := 1) (tgt := 107) hx hb d_M_readAll_36 (by decide) (by omega) (fun c36 => ?_) (fun c36 => ?_)
                    · skip
                      exact absurd c36 (by decide)
                    · skip
                      exact ih9_39 z (rn blN t n q2 + 1) v2 (x2.set w (oc2 z + nI 1)) y2 (upd oc2 z (oc2 z + nI 1)) (by omega) (by omega) (by omega) (by omega) (by rw [List.length_set]; omega) (by omega) (fun i hi => by obtain ⟨w, h1, h2⟩ := hO2 i (by omega); exact ⟨w, by rw [List.length_set]; exact h1, h2⟩) (hR.trans (by rw [cl_s, go_41 hs_56, ew, nI_clamp (by omega)])) _ _ _ hP hD hS (lv_sub hl [3, 0, 1] (rfl))
              · skip
                exact absurd c63 (by decide)
            · skip
              have hP : va_P (gD G) vwC (wMR G h dg mp ml th n t pl pn xy pt sz rs ou wr sl (rn blN t n q2) (uxp (hr t n (rn blN t n q2))) (rn blN t n q2) v2 oa1 (upd oc2 z (oc2 z + nI 1)) ok x2 y2) H := hP
              have hD : va_D A (wMR G h dg mp ml th n t pl pn xy pt sz rs ou wr sl (rn blN t n q2) (uxp (hr t n (rn blN t n q2))) (rn blN t n q2) v2 oa1 (upd oc2 z (oc2 z + nI 1)) ok x2 y2) := hD
              refine W.eq (g2 := F0 mm 59 ls [.int (-1)]) rfl ?_
              refine lv_istore (lv' := [(5, .int (-1)), (0, .ref (h 0)), (1, .int (nI (z + 1))), (4, .int (nI 1))]) hx hb d_M_readAll_59 hl (by decide) rfl (fun ls hl => ?_)
              refine lv_iload hx hb d_M_readAll_61 (lv_at hl 0 rfl) ?_
              refine lv_if_ge (tgt := 68) hx hb d_M_readAll_63 (by decide) (fun c63 => ?_) (fun c63 => ?_)
              · skip
                exact absurd c63 (by decide)
              · skip
                refine lv_iconst (v := nI 0) hx hb d_M_readAll_66 (by decide) ?_
                exact yr_z (ws := wMR G h dg mp ml th n t pl pn xy pt sz rs ou wr sl (rn blN t n q2) (uxp (hr t n (rn blN t n q2))) (rn blN t n q2) v2 oa1 (upd oc2 z (oc2 z + nI 1)) ok x2 y2) hx hb hrt (rfl) hlocks (Or.inr (Or.inr ⟨_, _, _, _, _, _, _, _, hR.trans (by rw [cl_s, go_xx hs_56]; rfl), rfl, rfl⟩)) rfl hK hP hD hS d_M_readAll_67
      refine lv_iload_n hx hb d_M_readAll_8 rfl (lv_at hl 1 rfl) ?_
      refine lv_istore_n (lv' := [(3, .int (nI d)), (0, .ref (h 0)), (1, .int (nI d))]) hx hb d_M_readAll_9 rfl hl (by decide) rfl (fun ls hl => ?_)
      refine lv_aload_n hx hb d_M_readAll_10 rfl (lv_at hl 1 rfl) ?_
      refine lv_iload_n hx hb d_M_readAll_11 rfl (lv_at hl 0 rfl) ?_
      refine y_callW (y_runV (As := [.int (nI d)]) (rest := []) hx hb hml hown (c_M_shape l G h dg mp ml th n t pl pn xy pt sz rs ou wr sl q fk fp v1 oa1 oc1 ok x1 y1 d (by omega) (by omega) (ht) (by omega) (by omega) (by omega) (by omega) (by omega) (by omega) (hfk) (by omega)) (gV (n := 1) hg tk_786 tk_788 (gt_s 33 (by decide +kernel) (by decide +kernel)) tk_7 tk_789 (by decide +kernel) ⟨Nat.le_of_ble_eq_true rfl, Nat.le_of_ble_eq_true rfl⟩) (va_recv hK hP (ci := 5) (q0 := 0) rfl rfl) (y_preW hE hK hP hD hS hA) rfl rfl hl.1 rfl (lv_room (Nat.le_of_ble_eq_true rfl)) d_M_readAll_12 ⟨Nat.le_of_ble_eq_true rfl, Nat.le_of_ble_eq_true rfl⟩) hD hS hA (fun _ _ _ _ _ _ hp => False.elim hp) (fun v9 w9 H locs hp hlw hP hD hS => ?_)
      rcases hp with ⟨q_12, xs9_12, ys9_12, va9_12, hs_12, rfl, rfl⟩ | ⟨q_12, w9_12, xs9_12, hs_12, rfl, rfl⟩ | ⟨a_12, b_12, q_12, va9_12, xs9_12, ys9_12, hs_12, rfl, rfl⟩
      · skip
        have hP : va_P (gD G) vwC (wMR G h dg mp ml th n t pl pn xy pt sz rs ou wr sl q_12 fk fp va9_12 oa1 oc1 ok xs9_12 ys9_12) H := hP
        have hD : va_D A (wMR G h dg mp ml th n t pl pn xy pt sz rs ou wr sl q_12 fk fp va9_12 oa1 oc1 ok xs9_12 ys9_12) := hD
        refine W.eq (g2 := F0 mm 15 ls [.int (nI d)]) rfl ?_
        have b1 := sh_bd hq hx1 hy1 hs_12
        refine lv_istore_n (lv' := [(1, .int (nI d)), (3, .int (nI d)), (0, .ref (h 0))]) hx hb d_M_readAll_15 rfl hl (by decide) rfl (fun ls hl => ?_)
        refine lv_iload_n hx hb d_M_readAll_16 rfl (lv_at hl 0 rfl) ?_
        refine yn_if_ge (a := d) (tgt := 22) hx hb d_M_readAll_17 (by decide) (by omega) (fun c17 => ?_) (fun c17 => ?_)
        · skip
          refine lv_iload_n hx hb d_M_readAll_22 rfl (lv_at hl 0 rfl) ?_
          refine lv_iload_n hx hb d_M_readAll_23 rfl (lv_at hl 1 rfl) ?_
          refine yn_icmp_ne (a := d) (b := d) (tgt := 31) hx hb d_M_readAll_24 (by decide) (by omega) (by omega) (fun c24 => ?_) (fun c24 => ?_)
          · skip
            exact absurd c24 (by omega)
          · skip
            refine lv_iconst (v := nI 1) hx hb d_M_readAll_27 (by decide) ?_
            refine lv_goto (tgt := 32) hx hb d_M_readAll_28 (by decide) ?_
            refine lv_istore (lv' := [(4, .int (nI 1)), (1, .int (nI d)), (3, .int (nI d)), (0, .ref (h 0))]) hx hb d_M_readAll_32 hl (by decide) rfl (fun ls hl => ?_)
            refine lv_iload hx hb d_M_readAll_34 (lv_at hl 0 rfl) ?_
            refine yn_if_eq (a := 1) (tgt := 107) hx hb d_M_readAll_36 (by decide) (by omega) (fun c36 => ?_) (fun c36 => ?_)
            · skip
              exact absurd c36 (by decide)
            · skip
              exact J39 _ d q_12 va9_12 xs9_12 ys9_12 oc1 (Nat.lt_succ_self _) (by omega) (by omega) (by omega) (by omega) (by omega) (fun i hi => by obtain ⟨w, h1, h2⟩ := hO i hi; exact ⟨w, by omega, h2⟩) (hS9.trans (by rw [ra_s, hs_12])) _ _ _ hP hD hS (lv_sub hl [3, 1, 0] (rfl))
        · skip
          exact c17.elim
      · skip
        have hP : va_P (gD G) vwC (wMR G h dg mp ml th n t pl pn xy pt sz rs ou wr sl q_12 fk fp v1 (upd oa1 d (nI w9_12)) (upd oc1 d (nI 0)) ok xs9_12 y1) H := hP
        have hD : va_D A (wMR G h dg mp ml th n t pl pn xy pt sz rs ou wr sl q_12 fk fp v1 (upd oa1 d (nI w9_12)) (upd oc1 d (nI 0)) ok xs9_12 y1) := hD
        refine W.eq (g2 := F0 mm 15 ls [.int (nI (d + 1))]) rfl ?_
        have b1 := sh_bd hq hx1 hy1 hs_12
        have b1w := b1.2.2.2.2.2.2 rfl
        refine lv_istore_n (lv' := [(1, .int (nI (d + 1))), (3, .int (nI d)), (0, .ref (h 0))]) hx hb d_M_readAll_15 rfl hl (by decide) rfl (fun ls hl => ?_)
        refine lv_iload_n hx hb d_M_readAll_16 rfl (lv_at hl 0 rfl) ?_
        refine yn_if_ge (a := d + 1) (tgt := 22) hx hb d_M_readAll_17 (by decide) (by omega) (fun c17 => ?_) (fun c17 => ?_)
        · skip
          refine lv_iload_n hx hb d_M_readAll_22 rfl (lv_at hl 0 rfl) ?_
          refine lv_iload_n hx hb d_M_readAll_23 rfl (lv_at hl 1 rfl) ?_
          refine yn_icmp_ne (a := d + 1) (b := d) (tgt := 31) hx hb d_M_readAll_24 (by decide) (by omega) (by omega) (fun c24 => ?_) (fun c24 => ?_)
          · skip
            refine lv_iconst (v := nI 0) hx hb d_M_readAll_31 (by decide) ?_
            refine lv_istore (lv' := [(4, .int (nI 0)), (1, .int (nI (d + 1))), (3, .int (nI d)), (0, .ref (h 0))]) hx hb d_M_readAll_32 hl (by decide) rfl (fun ls hl => ?_)
            refine lv_iload hx hb d_M_readAll_34 (lv_at hl 0 rfl) ?_
            refine yn_if_eq (a := 0) (tgt := 107) hx hb d_M_readAll_36 (by decide) (by omega) (fun c36 => ?_) (fun c36 => ?_)
            · skip
              refine lv_iload hx hb d_M_readAll_107 (lv_at hl 0 rfl) ?_
              refine yn_if_ne (a := 0) (tgt := 116) hx hb d_M_readAll_109 (by decide) (by omega) (fun c109 => ?_) (fun c109 => ?_)
              · skip
                exact absurd c109 (by decide)
              · skip
                refine lv_iconst (v := nI 1) hx hb d_M_readAll_112 (by decide) ?_
                refine lv_goto (tgt := 117) hx hb d_M_readAll_113 (by decide) ?_
                refine lv_istore_n (lv' := [(2, .int (nI 1)), (4, .int (nI 0)), (1, .int (nI (d + 1))), (3, .int (nI d)), (0, .ref (h 0))]) hx hb d_M_readAll_117 rfl hl (by decide) rfl (fun ls hl => ?_)
                refine lv_goto (tgt := 4) hx hb d_M_readAll_118 (by decide) ?_
                refine lv_iload_n hx hb d_M_readAll_4 rfl (lv_at hl 0 rfl) ?_
                refine yn_if_eq (a := 1) (tgt := 121) hx hb d_M_readAll_5 (by decide) (by omega) (fun c5 => ?_) (fun c5 => ?_)
                · skip
                  exact absurd c5 (by decide)
                · skip
                  exact ih9 F (d + 1) q_12 v1 xs9_12 y1 (upd oa1 d (nI w9_12)) (upd oc1 d (nI 0)) (by omega) (by omega) (by omega) (by omega) (by omega) (by omega) (fun i hi => by by_cases y : i = d; (exact ⟨w9_12, by omega, by rw [y]; exact upd_s _ _ _⟩); (obtain ⟨w, h1, h2⟩ := hO i (by omega); exact ⟨w, by omega, by rw [upd_o y]; exact h2⟩)) (hS9.trans (by rw [ra_s, hs_12])) _ _ _ hP hD hS (lv_sub hl [4, 2] (rfl))
            · skip
              exact absurd c36 (by decide)
          · skip
            exact absurd c24 (by omega)
        · skip
          exact c17.elim
      · skip
        have hP : va_P (gD G) vwC (wMR G h dg mp ml th n t pl pn xy pt sz rs ou wr sl q_12 a_12 b_12 va9_12 oa1 oc1 ok xs9_12 ys9_12) H := hP
        have hD : va_D A (wMR G h dg mp ml th n t pl pn xy pt sz rs ou wr sl q_12 a_12 b_12 va9_12 oa1 oc1 ok xs9_12 ys9_12) := hD
        refine W.eq (g2 := F0 mm 15 ls [.int (-1)]) rfl ?_
        refine lv_istore_n (lv' := [(1, .int (-1)), (3, .int (nI d)), (0, .ref (h 0))]) hx hb d_M_readAll_15 rfl hl (by decide) rfl (fun ls hl => ?_)
        refine lv_iload_n hx hb d_M_readAll_16 rfl (lv_at hl 0 rfl) ?_
        refine lv_if_ge (tgt := 22) hx hb d_M_readAll_17 (by decide) (fun c17 => ?_) (fun c17 => ?_)
        · skip
          exact absurd c17 (by decide)
        · skip
          refine lv_iconst (v := nI 0) hx hb d_M_readAll_20 (by decide) ?_
          exact yr_z (ws := wMR G h dg mp ml th n t pl pn xy pt sz rs ou wr sl q_12 a_12 b_12 va9_12 oa1 oc1 ok xs9_12 ys9_12) hx hb hrt (rfl) hlocks (Or.inr (Or.inr ⟨_, _, _, _, _, _, _, _, hS9.trans (by rw [ra_s, hs_12]), rfl, rfl⟩)) rfl hK hP hD hS d_M_readAll_21
  refine lv_iconst (v := nI 0) hx hb d_M_readAll_0 (by decide) ?_
  refine lv_istore_n (lv' := [(1, .int (nI 0)), (0, .ref (h 0))]) hx hb d_M_readAll_1 rfl hl (by decide) rfl (fun ls hl => ?_)
  refine lv_iconst (v := nI 1) hx hb d_M_readAll_2 (by decide) ?_
  refine lv_istore_n (lv' := [(2, .int (nI 1)), (1, .int (nI 0)), (0, .ref (h 0))]) hx hb d_M_readAll_3 rfl hl (by decide) rfl (fun ls hl => ?_)
  refine lv_iload_n hx hb d_M_readAll_4 rfl (lv_at hl 0 rfl) ?_
  refine yn_if_eq (a := 1) (tgt := 121) hx hb d_M_readAll_5 (by decide) (by omega) (fun c5 => ?_) (fun c5 => ?_)
  · skip
    exact absurd c5 (by decide)
  · skip
    exact J8 _ (n + 1) 0 p va xs ys oa oc (Nat.lt_succ_self _) (by omega) (by omega) (by omega) (by omega) (by omega) (fun i hi => absurd hi (Nat.not_lt_zero _)) (rfl) _ _ _ hP hD hS (lv_sub hl [2, 1] (rfl))
