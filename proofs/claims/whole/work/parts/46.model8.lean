set_option maxHeartbeats 4000000 in
set_option maxRecDepth 100000 in
theorem c_M_shape (l : Launch) (G : gl) (h : Nat → Nat) (dg : Nat) (mp : Nat) (ml : Nat) (th : Nat) (n : Nat) (t : Nat → Nat) (pl : Nat → Int32) (pn : Nat → Nat) (xy : Nat → Int32) (pt : Nat → Nat) (sz : Nat) (rs : Nat → Nat) (ou : Nat → Nat) (wr : Nat) (sl : Nat) (p : Nat) (fk : Nat) (fp : Nat) (va : Int32) (oa : Nat → Int32) (oc : Nat → Int32) (ok : Nat → Int32) (xs : List Int32) (ys : List (Int32 × Int32)) (d : Nat) (hn : n ≤ 65536) (hp : p ≤ n) (ht : ∀ i, t i < 256) (hml : ml ≤ 4096) (hmp : mp ≤ 4096) (hsl : sl < 4) (hxs : xs.length ≤ ml) (hys : ys.length ≤ mp) (hdg : dg ≤ 3) (hfk : fk = 0) (hd : d ≤ 50) : YC l G y_M_shape k_M_shape 7 (Option.some FieldType.int) 10 228 [.ref (h 0), .int (nI d)] (wMR G h dg mp ml th n t pl pn xy pt sz rs ou wr sl p fk fp va oa oc ok xs ys) (fun v w => (∃ q xs9 ys9 va9, (shM t n dg mp ml d p xs ys = .inr (false, q, 0, xs9, ys9)) ∧ v = some (.int (nI d)) ∧ w = wMR G h dg mp ml th n t pl pn xy pt sz rs ou wr sl q fk fp va9 oa oc ok xs9 ys9) ∨ (∃ q w9 xs9, (shM t n dg mp ml d p xs ys = .inr (true, q, w9, xs9, ys)) ∧ v = some (.int (nI (d + 1))) ∧ w = wMR G h dg mp ml th n t pl pn xy pt sz rs ou wr sl q fk fp va (upd oa d (nI w9)) (upd oc d (nI 0)) ok xs9 ys) ∨ (∃ a b q va9 xs9 ys9, (shM t n dg mp ml d p xs ys = .inl (a, b)) ∧ v = some (.int (-1)) ∧ w = wMR G h dg mp ml th n t pl pn xy pt sz rs ou wr sl q a b va9 oa oc ok xs9 ys9)) (fun _ _ => False) := by
  refine yc_of (by decide) ?_
  intro pg ev sx mm bl mt cd A C0 hP hD
  obtain ⟨hx, hb, hrt, hml, hown, hg, hlocks, hxt, hE, hK, hA, hmn⟩ := C0
  have hS : va_S A sx.heap sx.heap [] := va_S.rf
  have hl := lv_entry ([.ref (h 0), .int (nI d)]) (n := 7) (Nat.le_of_ble_eq_true rfl)
  rw [lg_entry_eq]
  generalize (lg_sl ([.ref (h 0), .int (nI d)]) ++ List.replicate (7 - (lg_sl ([.ref (h 0), .int (nI d)])).length) Slot.unset).toArray = ls at hl ⊢
  have hl : lv_has ls 7 [(0, .ref (h 0)), (1, .int (nI d))] := hl
  have b1 := rn_ge (P := blN) (t := t) (n := n) (p := p) hp
  have b2 := rn_le (P := blN) (t := t) (n := n) (p := p) hp
  have b3 := rn_ge (P := leN) (t := t) b2
  have b4 := rn_le (P := leN) (t := t) b2
  have b5 := rn_ge (P := blN) (t := t) b4
  have b6 := rn_le (P := blN) (t := t) b4
  obtain ⟨H, hH⟩ : ∃ H, H = sx.heap := ⟨_, rfl⟩
  rw [← hH] at hP
  have hS : va_S A sx.heap H [] := by rw [hH]; exact hS
  suffices h9 : W pg l ev (yR 10 228) sx mm _ bl mt cd H [] 0 0 (yMQ bl G A _ _ _ _ sx) (F0 mm 0 ls []) by rw [hH] at h9; exact h9
  obtain ⟨locs, hlo⟩ : ∃ locs : List Loc, locs = [] := ⟨_, rfl⟩
  rw [← hlo] at hS ⊢
  refine lv_aload_n hx hb d_M_shape_0 rfl (lv_at hl 0 rfl) ?_
  refine y_callW (y_runV (As := []) (rest := []) hx hb hml hown (c_M_pass l G h dg mp ml th n t pl pn xy pt sz rs ou wr sl p fk fp va oa oc ok xs ys  (by omega) (by omega) (ht)) (gV (n := 0) hg tk_790 tk_792 (gt_s 34 (by decide +kernel) (by decide +kernel)) tk_7 tk_793 (by decide +kernel) ⟨Nat.le_of_ble_eq_true rfl, Nat.le_of_ble_eq_true rfl⟩) (va_recv hK hP (ci := 5) (q0 := 0) rfl rfl) (y_preW hE hK hP hD hS hA) rfl rfl hl.1 rfl (lv_room (Nat.le_of_ble_eq_true rfl)) d_M_shape_1 ⟨Nat.le_of_ble_eq_true rfl, Nat.le_of_ble_eq_true rfl⟩) hD hS hA (fun _ _ _ _ _ _ hp => False.elim hp) (fun v9 w9 H locs hp hlw hP hD hS => ?_)
  obtain ⟨rfl, rfl⟩ := hp
  have hP : va_P (gD G) vwC (wMR G h dg mp ml th n t pl pn xy pt sz rs ou wr sl (rn blN t n p) fk fp va oa oc ok xs ys) H := hP
  have hD : va_D A (wMR G h dg mp ml th n t pl pn xy pt sz rs ou wr sl (rn blN t n p) fk fp va oa oc ok xs ys) := hD
  refine W.eq (g2 := F0 mm 4 ls []) rfl ?_
  refine lv_aload_n hx hb d_M_shape_4 rfl (lv_at hl 0 rfl) ?_
  refine va_get (D := gD G) (ci := 5) (v := .int (nI (rn blN t n p))) (C := "WordShapesModel") (T := TM) (N := 24) hx hb hg iw_M hown hK hP 0 rfl rfl 17 (by decide) (hg _ tk_700) (fun _ h9 => h9) rfl d_M_shape_5 ?_
  refine lv_istore_n (lv' := [(2, .int (nI (rn blN t n p))), (0, .ref (h 0)), (1, .int (nI d))]) hx hb d_M_shape_8 rfl hl (by decide) rfl (fun ls hl => ?_)
  refine lv_aload_n hx hb d_M_shape_9 rfl (lv_at hl 1 rfl) ?_
  refine y_callW (y_runV (As := []) (rest := []) hx hb hml hown (c_M_here l G h dg mp ml th n t pl pn xy pt sz rs ou wr sl (rn blN t n p) fk fp va oa oc ok xs ys  (by omega) (by omega) (ht)) (gV (n := 0) hg tk_797 tk_799 (gt_s 35 (by decide +kernel) (by decide +kernel)) tk_7 tk_800 (by decide +kernel) ⟨Nat.le_of_ble_eq_true rfl, Nat.le_of_ble_eq_true rfl⟩) (va_recv hK hP (ci := 5) (q0 := 0) rfl rfl) (y_preW hE hK hP hD hS hA) rfl rfl hl.1 rfl (lv_room (Nat.le_of_ble_eq_true rfl)) d_M_shape_10 ⟨Nat.le_of_ble_eq_true rfl, Nat.le_of_ble_eq_true rfl⟩) hD hS hA (fun _ _ _ _ _ _ hp => False.elim hp) (fun v9 w9 H locs hp hlw hP hD hS => ?_)
  obtain ⟨rfl, rfl⟩ := hp
  have hP : va_P (gD G) vwC (wMR G h dg mp ml th n t pl pn xy pt sz rs ou wr sl (rn blN t n p) fk fp va oa oc ok xs ys) H := hP
  have hD : va_D A (wMR G h dg mp ml th n t pl pn xy pt sz rs ou wr sl (rn blN t n p) fk fp va oa oc ok xs ys) := hD
  refine W.eq (g2 := F0 mm 13 ls [.int (toI (hr t n (rn blN t n p)))]) rfl ?_
  refine y_call (y_runS (As := [.int (toI (hr t n (rn blN t n p)))]) (rest := []) hx hb hml hown (c_M_isLetter l G  (toI (hr t n (rn blN t n p))) ) (gS (n := 1) hg tk_801 tk_802 tk_7 tk_803 (by decide +kernel) ⟨Nat.le_of_ble_eq_true rfl, Nat.le_of_ble_eq_true rfl⟩) (y_pre hE hK hP hD hS hA [] rfl rfl) rfl rfl hl.1 rfl (lv_room (Nat.le_of_ble_eq_true rfl)) d_M_shape_13 ⟨Nat.le_of_ble_eq_true rfl, Nat.le_of_ble_eq_true rfl⟩) hP hD hS hA [] rfl (fun _ _ _ _ _ _ hp => False.elim hp) (fun v9 w9 H locs hp hlw hP hD hS => ?_)
  obtain ⟨rfl, rfl⟩ := hp
  have hP : va_P (gD G) vwC (wMR G h dg mp ml th n t pl pn xy pt sz rs ou wr sl (rn blN t n p) fk fp va oa oc ok xs ys) H := hP
  have hD : va_D A (wMR G h dg mp ml th n t pl pn xy pt sz rs ou wr sl (rn blN t n p) fk fp va oa oc ok xs ys) := hD
  refine W.eq (g2 := F0 mm 16 ls [.int (bz (isLe (toI (hr t n (rn blN t n p)))))]) rfl ?_
  refine yy_if_ne (P := isLe (toI (hr t n (rn blN t n p)))) (tgt := 26) hx hb d_M_shape_16 (by decide) (fun c16 => ?_) (fun c16 => ?_)
  · skip
    rw [(ch_h _ (Nat.lt_succ_of_le (hr_le ht _ _))).2.1] at c16
    refine lv_aload_n hx hb d_M_shape_26 rfl (lv_at hl 1 rfl) ?_
    refine y_callW (y_runV (As := []) (rest := []) hx hb hml hown (c_M_word l G h dg mp ml th n t pl pn xy pt sz rs ou wr sl (rn blN t n p) fk fp va oa oc ok xs ys  (by omega) (by omega) (ht)) (gV (n := 0) hg tk_821 tk_823 (gt_s 38 (by decide +kernel) (by decide +kernel)) tk_7 tk_824 (by decide +kernel) ⟨Nat.le_of_ble_eq_true rfl, Nat.le_of_ble_eq_true rfl⟩) (va_recv hK hP (ci := 5) (q0 := 0) rfl rfl) (y_preW hE hK hP hD hS hA) rfl rfl hl.1 rfl (lv_room (Nat.le_of_ble_eq_true rfl)) d_M_shape_27 ⟨Nat.le_of_ble_eq_true rfl, Nat.le_of_ble_eq_true rfl⟩) hD hS hA (fun _ _ _ _ _ _ hp => False.elim hp) (fun v9 w9 H locs hp hlw hP hD hS => ?_)
    obtain ⟨rfl, rfl⟩ := hp
    have hP : va_P (gD G) vwC (wMR G h dg mp ml th n t pl pn xy pt sz rs ou wr sl (rn leN t n (rn blN t n p)) fk fp va oa oc ok xs ys) H := hP
    have hD : va_D A (wMR G h dg mp ml th n t pl pn xy pt sz rs ou wr sl (rn leN t n (rn blN t n p)) fk fp va oa oc ok xs ys) := hD
    refine W.eq (g2 := F0 mm 30 ls [.int (nI (lsM t (rn blN t n p) (rn leN t n (rn blN t n p)) 8))]) rfl ?_
    obtain ⟨k, hk⟩ : ∃ k, lsM t (rn blN t n p) (rn leN t n (rn blN t n p)) 8 = k := ⟨_, rfl⟩
    have hk8 : k ≤ 8 := hk ▸ lsM_le _ _ _ _
    rw [hk]
    have hl2 : (xs ++ [nI k] ++ [nI 0]).length = xs.length + 2 := by simp
    refine lv_istore_n (lv' := [(3, .int (nI k)), (2, .int (nI (rn blN t n p))), (0, .ref (h 0)), (1, .int (nI d))]) hx hb d_M_shape_30 rfl hl (by decide) rfl (fun ls hl => ?_)
    refine lv_iload_n hx hb d_M_shape_31 rfl (lv_at hl 0 rfl) ?_
    refine yn_if_eq (a := k) (tgt := 41) hx hb d_M_shape_32 (by decide) (by omega) (fun c32 => ?_) (fun c32 => ?_)
    · skip
      refine lv_aload_n hx hb d_M_shape_41 rfl (lv_at hl 2 rfl) ?_
      refine lv_iconst (v := nI 2) hx hb d_M_shape_42 (by decide) ?_
      refine lv_iload_n hx hb d_M_shape_43 rfl (lv_at hl 1 rfl) ?_
      refine y_callW (y_runV (As := [.int (nI 2), .int (nI (rn blN t n p))]) (rest := []) hx hb hml hown (c_M_wrong l G h dg mp ml th n t pl pn xy pt sz rs ou wr sl (rn leN t n (rn blN t n p)) fk fp va oa oc ok xs ys 2 (rn blN t n p) ) (gV (n := 2) hg tk_817 tk_819 (gt_s 37 (by decide +kernel) (by decide +kernel)) tk_7 tk_820 (by decide +kernel) ⟨Nat.le_of_ble_eq_true rfl, Nat.le_of_ble_eq_true rfl⟩) (va_recv hK hP (ci := 5) (q0 := 0) rfl rfl) (y_preW hE hK hP hD hS hA) rfl rfl hl.1 rfl (lv_room (Nat.le_of_ble_eq_true rfl)) d_M_shape_44 ⟨Nat.le_of_ble_eq_true rfl, Nat.le_of_ble_eq_true rfl⟩) hD hS hA (fun _ _ _ _ _ _ hp => False.elim hp) (fun v9 w9 H locs hp hlw hP hD hS => ?_)
      obtain ⟨rfl, rfl⟩ := hp
      have hP : va_P (gD G) vwC (wMR G h dg mp ml th n t pl pn xy pt sz rs ou wr sl (rn leN t n (rn blN t n p)) 2 (rn blN t n p) va oa oc ok xs ys) H := hP
      have hD : va_D A (wMR G h dg mp ml th n t pl pn xy pt sz rs ou wr sl (rn leN t n (rn blN t n p)) 2 (rn blN t n p) va oa oc ok xs ys) := hD
      refine W.eq (g2 := F0 mm 47 ls [.int (nI 0)]) rfl ?_
      refine lv_pop hx hb d_M_shape_47 rfl ?_
      refine lv_goto (tgt := 71) hx hb d_M_shape_48 (by decide) ?_
      refine lv_aload_n hx hb d_M_shape_71 rfl (lv_at hl 2 rfl) ?_
      refine va_get (D := gD G) (ci := 5) (v := .int (nI 2)) (C := "WordShapesModel") (T := TM) (N := 24) hx hb hg iw_M hown hK hP 0 rfl rfl 18 (by decide) (hg _ tk_701) (fun _ h9 => h9) rfl d_M_shape_72 ?_
      refine yn_if_le (a := 2) (tgt := 80) hx hb d_M_shape_75 (by decide) (by omega) (fun c75 => ?_) (fun c75 => ?_)
      · skip
        exact absurd c75 (by decide)
      · skip
        refine lv_iconst (v := (-1)) hx hb d_M_shape_78 (by decide) ?_
        exact yr_i (ws := wMR G h dg mp ml th n t pl pn xy pt sz rs ou wr sl (rn leN t n (rn blN t n p)) 2 (rn blN t n p) va oa oc ok xs ys) hx hb hrt hlocks (Or.inr (Or.inr ⟨_, _, _, _, _, _, by unfold shM kdM; rw [hk, if_neg (by rw [c16]; decide)]; first | rw [if_pos (Or.inl c32)] | rw [if_pos (Or.inr c38)] | rw [if_neg (fun y => y.elim c32 c38), if_pos ⟨c54, c60⟩], rfl, rfl⟩)) rfl hK hP hD hS d_M_shape_79
    · skip
      refine lv_iload_n hx hb d_M_shape_35 rfl (lv_at hl 0 rfl) ?_
      refine lv_bipush (v := nI 8) hx hb d_M_shape_36 (by decide) ?_
      refine yn_icmp_ne (a := k) (b := 8) (tgt := 51) hx hb d_M_shape_38 (by decide) (by omega) (by omega) (fun c38 => ?_) (fun c38 => ?_)
      · skip
        refine lv_iload_n hx hb d_M_shape_51 rfl (lv_at hl 0 rfl) ?_
        refine lv_bipush (v := nI 7) hx hb d_M_shape_52 (by decide) ?_
        refine yn_icmp_ne (a := k) (b := 7) (tgt := 71) hx hb d_M_shape_54 (by decide) (by omega) (by omega) (fun c54 => ?_) (fun c54 => ?_)
        · skip
          refine lv_aload_n hx hb d_M_shape_71 rfl (lv_at hl 2 rfl) ?_
          refine va_get (D := gD G) (ci := 5) (v := .int (nI fk)) (C := "WordShapesModel") (T := TM) (N := 24) hx hb hg iw_M hown hK hP 0 rfl rfl 18 (by decide) (hg _ tk_701) (fun _ h9 => h9) rfl d_M_shape_72 ?_
          refine yn_if_le (a := fk) (tgt := 80) hx hb d_M_shape_75 (by decide) (by omega) (fun c75 => ?_) (fun c75 => ?_)
          · skip
            have hkd : kdM t n d (rn blN t n p) = .inr k := by unfold kdM; rw [hk, if_neg (by rw [c16]; decide), if_neg (fun y => y.elim c32 c38), if_neg (fun y => by first | exact c54 y.1 | exact absurd y.2 (by omega))]
            have hsh : shM t n dg mp ml d p xs ys = shB t n dg mp ml k (rn leN t n (rn blN t n p)) xs ys := by unfold shM; rw [hkd]
            refine lv_aload_n hx hb d_M_shape_80 rfl (lv_at hl 2 rfl) ?_
            refine y_callW (y_runV (As := []) (rest := []) hx hb hml hown (c_M_pass l G h dg mp ml th n t pl pn xy pt sz rs ou wr sl (rn leN t n (rn blN t n p)) fk fp va oa oc ok xs ys  (by omega) (by omega) (ht)) (gV (n := 0) hg tk_790 tk_792 (gt_s 34 (by decide +kernel) (by decide +kernel)) tk_7 tk_793 (by decide +kernel) ⟨Nat.le_of_ble_eq_true rfl, Nat.le_of_ble_eq_true rfl⟩) (va_recv hK hP (ci := 5) (q0 := 0) rfl rfl) (y_preW hE hK hP hD hS hA) rfl rfl hl.1 rfl (lv_room (Nat.le_of_ble_eq_true rfl)) d_M_shape_81 ⟨Nat.le_of_ble_eq_true rfl, Nat.le_of_ble_eq_true rfl⟩) hD hS hA (fun _ _ _ _ _ _ hp => False.elim hp) (fun v9 w9 H locs hp hlw hP hD hS => ?_)
            obtain ⟨rfl, rfl⟩ := hp
            have hP : va_P (gD G) vwC (wMR G h dg mp ml th n t pl pn xy pt sz rs ou wr sl (rn blN t n (rn leN t n (rn blN t n p))) fk fp va oa oc ok xs ys) H := hP
            have hD : va_D A (wMR G h dg mp ml th n t pl pn xy pt sz rs ou wr sl (rn blN t n (rn leN t n (rn blN t n p))) fk fp va oa oc ok xs ys) := hD
            refine W.eq (g2 := F0 mm 84 ls []) rfl ?_
            refine lv_aload_n hx hb d_M_shape_84 rfl (lv_at hl 2 rfl) ?_
            refine lv_iconst (v := nI 2) hx hb d_M_shape_85 (by decide) ?_
            refine lv_iconst (v := nI 0) hx hb d_M_shape_86 (by decide) ?_
            refine y_callW (y_runV (As := [.int (nI 2), .int (nI 0)]) (rest := []) hx hb hml hown (c_M_room l G h dg mp ml th n t pl pn xy pt sz rs ou wr sl (rn blN t n (rn leN t n (rn blN t n p))) fk fp va oa oc ok xs ys 2 0 (by omega) (by omega) (by omega) (by omega) (by omega) (by omega) (by omega)) (gV (n := 2) hg tk_825 tk_827 (gt_s 39 (by decide +kernel) (by decide +kernel)) tk_7 tk_828 (by decide +kernel) ⟨Nat.le_of_ble_eq_true rfl, Nat.le_of_ble_eq_true rfl⟩) (va_recv hK hP (ci := 5) (q0 := 0) rfl rfl) (y_preW hE hK hP hD hS hA) rfl rfl hl.1 rfl (lv_room (Nat.le_of_ble_eq_true rfl)) d_M_shape_87 ⟨Nat.le_of_ble_eq_true rfl, Nat.le_of_ble_eq_true rfl⟩) hD hS hA (fun _ _ _ _ _ _ hp => False.elim hp) (fun v9 w9 H locs hp hlw hP hD hS => ?_)
            obtain ⟨rfl, rfl⟩ := hp
            have hP : va_P (gD G) vwC (wMR G h dg mp ml th n t pl pn xy pt sz rs ou wr sl (rn blN t n (rn leN t n (rn blN t n p))) fk fp va oa oc ok xs ys) H := hP
            have hD : va_D A (wMR G h dg mp ml th n t pl pn xy pt sz rs ou wr sl (rn blN t n (rn leN t n (rn blN t n p))) fk fp va oa oc ok xs ys) := hD
            refine W.eq (g2 := F0 mm 90 ls [.int (bz (decide (xs.length + 2 ≤ ml ∧ ys.length + 0 ≤ mp)))]) rfl ?_
            refine yz_if_ne (P := xs.length + 2 ≤ ml ∧ ys.length + 0 ≤ mp) (tgt := 104) hx hb d_M_shape_90 (by decide) (fun c90 => ?_) (fun c90 => ?_)
            · skip
              refine lv_aload_n hx hb d_M_shape_104 rfl (lv_at hl 2 rfl) ?_
              refine va_get (D := gD G) (ci := 5) (v := .int (nI fk)) (C := "WordShapesModel") (T := TM) (N := 24) hx hb hg iw_M hown hK hP 0 rfl rfl 18 (by decide) (hg _ tk_701) (fun _ h9 => h9) rfl d_M_shape_105 ?_
              refine yn_if_le (a := fk) (tgt := 115) hx hb d_M_shape_108 (by decide) (by omega) (fun c108 => ?_) (fun c108 => ?_)
              · skip
                refine lv_aload_n hx hb d_M_shape_115 rfl (lv_at hl 2 rfl) ?_
                refine lv_iload_n hx hb d_M_shape_116 rfl (lv_at hl 0 rfl) ?_
                refine y_callW (y_runV (As := [.int (nI k)]) (rest := []) hx hb hml hown (c_M_open l G h dg mp ml th n t pl pn xy pt sz rs ou wr sl (rn blN t n (rn leN t n (rn blN t n p))) fk fp va oa oc ok xs ys (nI k) (by omega) (by omega) (by omega) (by omega) (by omega) (by omega)) (gV (n := 1) hg tk_829 tk_831 (gt_s 40 (by decide +kernel) (by decide +kernel)) tk_7 tk_832 (by decide +kernel) ⟨Nat.le_of_ble_eq_true rfl, Nat.le_of_ble_eq_true rfl⟩) (va_recv hK hP (ci := 5) (q0 := 0) rfl rfl) (y_preW hE hK hP hD hS hA) rfl rfl hl.1 rfl (lv_room (Nat.le_of_ble_eq_true rfl)) d_M_shape_117 ⟨Nat.le_of_ble_eq_true rfl, Nat.le_of_ble_eq_true rfl⟩) hD hS hA (fun _ _ _ _ _ _ hp => False.elim hp) (fun v9 w9 H locs hp hlw hP hD hS => ?_)
                obtain ⟨rfl, rfl⟩ := hp
                have hP : va_P (gD G) vwC (wMR G h dg mp ml th n t pl pn xy pt sz rs ou wr sl (rn blN t n (rn leN t n (rn blN t n p))) fk fp va oa oc ok (xs ++ [(nI k)] ++ [nI 0]) ys) H := hP
                have hD : va_D A (wMR G h dg mp ml th n t pl pn xy pt sz rs ou wr sl (rn blN t n (rn leN t n (rn blN t n p))) fk fp va oa oc ok (xs ++ [(nI k)] ++ [nI 0]) ys) := hD
                refine W.eq (g2 := F0 mm 120 ls [.int (nI (xs.length + 1))]) rfl ?_
                refine lv_istore (lv' := [(4, .int (nI (xs.length + 1))), (3, .int (nI k)), (2, .int (nI (rn blN t n p))), (0, .ref (h 0)), (1, .int (nI d))]) hx hb d_M_shape_120 hl (by decide) rfl (fun ls hl => ?_)
                refine lv_aload_n hx hb d_M_shape_122 rfl (lv_at hl 3 rfl) ?_
                refine va_get (D := gD G) (ci := 5) (v := .int (nI fk)) (C := "WordShapesModel") (T := TM) (N := 24) hx hb hg iw_M hown hK hP 0 rfl rfl 18 (by decide) (hg _ tk_701) (fun _ h9 => h9) rfl d_M_shape_123 ?_
                refine yn_if_le (a := fk) (tgt := 133) hx hb d_M_shape_126 (by decide) (by omega) (fun c126 => ?_) (fun c126 => ?_)
                · skip
                  refine lv_aload_n hx hb d_M_shape_133 rfl (lv_at hl 3 rfl) ?_
                  refine lv_iconst (v := nI 0) hx hb d_M_shape_134 (by decide) ?_
                  refine y_eqi (y := bz false) (by decide) ?_
                  refine y_callW (y_runV (As := [.int (bz false)]) (rest := []) hx hb hml hown (c_M_looked l G h dg mp ml th n t pl pn xy pt sz rs ou wr sl (rn blN t n (rn leN t n (rn blN t n p))) fk fp va oa oc ok (xs ++ [(nI k)] ++ [nI 0]) ys false (by omega) (by omega) (ht)) (gV (n := 1) hg tk_837 tk_839 (gt_s 42 (by decide +kernel) (by decide +kernel)) tk_7 tk_840 (by decide +kernel) ⟨Nat.le_of_ble_eq_true rfl, Nat.le_of_ble_eq_true rfl⟩) (va_recv hK hP (ci := 5) (q0 := 0) rfl rfl) (y_preW hE hK hP hD hS hA) rfl rfl hl.1 rfl (lv_room (Nat.le_of_ble_eq_true rfl)) d_M_shape_135 ⟨Nat.le_of_ble_eq_true rfl, Nat.le_of_ble_eq_true rfl⟩) hD hS hA (fun _ _ _ _ _ _ hp => False.elim hp) (fun v9 w9 H locs hp hlw hP hD hS => ?_)
                  rcases hp with ⟨q_135, hs_135, rfl, rfl⟩ | ⟨q_135, hs_135, rfl, rfl⟩ | ⟨q_135, hs_135, rfl, rfl⟩ | ⟨a_135, b_135, q_135, hs_135, rfl, rfl⟩
                  · skip
                    have hP : va_P (gD G) vwC (wMR G h dg mp ml th n t pl pn xy pt sz rs ou wr sl q_135 fk fp va oa oc ok (xs ++ [(nI k)] ++ [nI 0]) ys) H := hP
                    have hD : va_D A (wMR G h dg mp ml th n t pl pn xy pt sz rs ou wr sl q_135 fk fp va oa oc ok (xs ++ [(nI k)] ++ [nI 0]) ys) := hD
                    refine W.eq (g2 := F0 mm 138 ls [.int (nI 0)]) rfl ?_
                    have b7 := lk_bd b6 hs_135
                    refine lv_istore (lv' := [(5, .int (nI 0)), (4, .int (nI (xs.length + 1))), (3, .int (nI k)), (2, .int (nI (rn blN t n p))), (0, .ref (h 0)), (1, .int (nI d))]) hx hb d_M_shape_138 hl (by decide) rfl (fun ls hl => ?_)
                    refine lv_iload hx hb d_M_shape_140 (lv_at hl 0 rfl) ?_
                    refine lv_iconst (v := nI 1) hx hb d_M_shape_142 (by decide) ?_
                    refine yn_icmp_ge (a := 0) (b := 1) (tgt := 157) hx hb d_M_shape_143 (by decide) (by omega) (by omega) (fun c143 => ?_) (fun c143 => ?_)
                    · skip
                      exact absurd c143 (by decide)
                    · skip
                      refine lv_iload hx hb d_M_shape_146 (lv_at hl 0 rfl) ?_
                      refine yn_if_ge (a := 0) (tgt := 155) hx hb d_M_shape_148 (by decide) (by omega) (fun c148 => ?_) (fun c148 => ?_)
                      · skip
                        refine lv_iload_n hx hb d_M_shape_155 rfl (lv_at hl 5 rfl) ?_
                        exact yr_i (ws := wMR G h dg mp ml th n t pl pn xy pt sz rs ou wr sl q_135 fk fp va oa oc ok (xs ++ [(nI k)] ++ [nI 0]) ys) hx hb hrt hlocks (by first | exact Or.inl ⟨_, _, _, _, hsh.trans (by unfold shB; rw [if_pos c90.1, hs_135]; dsimp only; rw [if_pos rfl]), rfl, rfl⟩ | exact Or.inr (Or.inr ⟨_, _, _, _, _, _, hsh.trans (by unfold shB; rw [if_pos c90.1, hs_135]), rfl, rfl⟩) | exact Or.inr (Or.inr ⟨_, _, _, _, _, _, hsh.trans (by unfold shB; rw [if_neg (fun y => c90 ⟨y, by omega⟩)]), rfl, rfl⟩)) rfl hK hP hD hS d_M_shape_156
                      · skip
                        exact absurd c148 (by decide)
                  · skip
                    have hP : va_P (gD G) vwC (wMR G h dg mp ml th n t pl pn xy pt sz rs ou wr sl q_135 fk fp va oa oc ok (xs ++ [(nI k)] ++ [nI 0]) ys) H := hP
                    have hD : va_D A (wMR G h dg mp ml th n t pl pn xy pt sz rs ou wr sl q_135 fk fp va oa oc ok (xs ++ [(nI k)] ++ [nI 0]) ys) := hD
                    refine W.eq (g2 := F0 mm 138 ls [.int (nI 1)]) rfl ?_
                    have b7 := lk_bd b6 hs_135
                    refine lv_istore (lv' := [(5, .int (nI 1)), (4, .int (nI (xs.length + 1))), (3, .int (nI k)), (2, .int (nI (rn blN t n p))), (0, .ref (h 0)), (1, .int (nI d))]) hx hb d_M_shape_138 hl (by decide) rfl (fun ls hl => ?_)
                    refine lv_iload hx hb d_M_shape_140 (lv_at hl 0 rfl) ?_
                    refine lv_iconst (v := nI 1) hx hb d_M_shape_142 (by decide) ?_
                    refine yn_icmp_ge (a := 1) (b := 1) (tgt := 157) hx hb d_M_shape_143 (by decide) (by omega) (by omega) (fun c143 => ?_) (fun c143 => ?_)
                    · skip
                      refine lv_iload_n hx hb d_M_shape_157 rfl (lv_at hl 2 rfl) ?_
                      refine lv_bipush (v := nI 7) hx hb d_M_shape_158 (by decide) ?_
                      refine yn_icmp_ne (a := k) (b := 7) (tgt := 182) hx hb d_M_shape_160 (by decide) (by omega) (by omega) (fun c160 => ?_) (fun c160 => ?_)
                      · skip
                        refine lv_iload_n hx hb d_M_shape_182 rfl (lv_at hl 2 rfl) ?_
                        refine lv_iconst (v := nI 4) hx hb d_M_shape_183 (by decide) ?_
                        refine yn_icmp_ge (a := k) (b := 4) (tgt := 195) hx hb d_M_shape_184 (by decide) (by omega) (by omega) (fun c184 => ?_) (fun c184 => ?_)
                        · skip
                          refine lv_aload_n hx hb d_M_shape_195 rfl (lv_at hl 4 rfl) ?_
                          refine lv_iload_n hx hb d_M_shape_196 rfl (lv_at hl 2 rfl) ?_
                          refine y_callW (y_runV (As := [.int (nI k)]) (rest := []) hx hb hml hown (c_M_parts l G h dg mp ml th n t pl pn xy pt sz rs ou wr sl q_135 fk fp va oa oc ok (xs ++ [(nI k)] ++ [nI 0]) ys k (by omega) (by omega) (ht) (by omega) (by omega) (by omega) (by first | omega | (simp only [List.length_append, List.length_singleton, List.length_cons, List.length_nil, List.length_set]; omega)) (by omega) (by omega) (by omega) (by omega)) (gV (n := 1) hg tk_887 tk_889 (gt_s 53 (by decide +kernel) (by decide +kernel)) tk_7 tk_890 (by decide +kernel) ⟨Nat.le_of_ble_eq_true rfl, Nat.le_of_ble_eq_true rfl⟩) (va_recv hK hP (ci := 5) (q0 := 0) rfl rfl) (y_preW hE hK hP hD hS hA) rfl rfl hl.1 rfl (lv_room (Nat.le_of_ble_eq_true rfl)) d_M_shape_197 ⟨Nat.le_of_ble_eq_true rfl, Nat.le_of_ble_eq_true rfl⟩) hD hS hA (fun _ _ _ _ _ _ hp => False.elim hp) (fun v9 w9 H locs hp hlw hP hD hS => ?_)
                          rcases hp with ⟨q_197, m9_197, xs9_197, ys9_197, va9_197, hs_197, rfl, rfl⟩ | ⟨a_197, b_197, q_197, va9_197, xs9_197, ys9_197, hs_197, rfl, rfl⟩
                          · skip
                            have hP : va_P (gD G) vwC (wMR G h dg mp ml th n t pl pn xy pt sz rs ou wr sl q_197 fk fp va9_197 oa oc ok xs9_197 ys9_197) H := hP
                            have hD : va_D A (wMR G h dg mp ml th n t pl pn xy pt sz rs ou wr sl q_197 fk fp va9_197 oa oc ok xs9_197 ys9_197) := hD
                            refine W.eq (g2 := F0 mm 200 ls [.int (nI m9_197)]) rfl ?_
                            have b8 := pa_bd _ _ _ _ _ b7.2 (by rw [hl2]; omega) hys hs_197
                            rw [hl2] at b8
                            refine lv_istore (lv' := [(6, .int (nI m9_197)), (5, .int (nI 1)), (4, .int (nI (xs.length + 1))), (3, .int (nI k)), (2, .int (nI (rn blN t n p))), (0, .ref (h 0)), (1, .int (nI d))]) hx hb d_M_shape_200 hl (by decide) rfl (fun ls hl => ?_)
                            refine lv_iload hx hb d_M_shape_202 (lv_at hl 0 rfl) ?_
                            refine yn_if_ge (a := m9_197) (tgt := 209) hx hb d_M_shape_204 (by decide) (by omega) (fun c204 => ?_) (fun c204 => ?_)
                            · skip
                              refine lv_aload_n hx hb d_M_shape_209 rfl (lv_at hl 5 rfl) ?_
                              refine lv_iload hx hb d_M_shape_210 (lv_at hl 2 rfl) ?_
                              refine lv_iload hx hb d_M_shape_212 (lv_at hl 0 rfl) ?_
                              refine y_callW (y_runV (As := [.int (nI (xs.length + 1)), .int (nI m9_197)]) (rest := []) hx hb hml hown (c_M_close l G h dg mp ml th n t pl pn xy pt sz rs ou wr sl q_197 fk fp va9_197 oa oc ok xs9_197 ys9_197 (xs.length + 1) (nI m9_197) (by omega) (by omega) (by omega) (by first | omega | (simp only [List.length_append, List.length_singleton, List.length_cons, List.length_nil, List.length_set]; omega)) (by omega) (by first | omega | (simp only [List.length_append, List.length_singleton, List.length_cons, List.length_nil, List.length_set]; omega))) (gV (n := 2) hg tk_883 tk_885 (gt_s 52 (by decide +kernel) (by decide +kernel)) tk_7 tk_886 (by decide +kernel) ⟨Nat.le_of_ble_eq_true rfl, Nat.le_of_ble_eq_true rfl⟩) (va_recv hK hP (ci := 5) (q0 := 0) rfl rfl) (y_preW hE hK hP hD hS hA) rfl rfl hl.1 rfl (lv_room (Nat.le_of_ble_eq_true rfl)) d_M_shape_214 ⟨Nat.le_of_ble_eq_true rfl, Nat.le_of_ble_eq_true rfl⟩) hD hS hA (fun _ _ _ _ _ _ hp => False.elim hp) (fun v9 w9 H locs hp hlw hP hD hS => ?_)
                              obtain ⟨rfl, rfl⟩ := hp
                              have hP : va_P (gD G) vwC (wMR G h dg mp ml th n t pl pn xy pt sz rs ou wr sl q_197 fk fp va9_197 oa oc ok (xs9_197.set (xs.length + 1) (nI m9_197)) ys9_197) H := hP
                              have hD : va_D A (wMR G h dg mp ml th n t pl pn xy pt sz rs ou wr sl q_197 fk fp va9_197 oa oc ok (xs9_197.set (xs.length + 1) (nI m9_197)) ys9_197) := hD
                              refine W.eq (g2 := F0 mm 217 ls []) rfl ?_
                              refine lv_iload_n hx hb d_M_shape_217 rfl (lv_at hl 6 rfl) ?_
                              exact yr_i (ws := wMR G h dg mp ml th n t pl pn xy pt sz rs ou wr sl q_197 fk fp va9_197 oa oc ok (xs9_197.set (xs.length + 1) (nI m9_197)) ys9_197) hx hb hrt hlocks (Or.inl ⟨_, _, _, _, hsh.trans (by unfold shB; rw [if_pos c90.1, hs_135]; dsimp only; rw [if_neg (by decide), if_neg c160]; unfold bdM; first | (rw [if_pos (by omega), hs_189]) | (rw [if_neg (by omega), hs_197])), rfl, rfl⟩) rfl hK hP hD hS d_M_shape_218
                            · skip
                              exact c204.elim
                          · skip
                            have hP : va_P (gD G) vwC (wMR G h dg mp ml th n t pl pn xy pt sz rs ou wr sl q_197 a_197 b_197 va9_197 oa oc ok xs9_197 ys9_197) H := hP
                            have hD : va_D A (wMR G h dg mp ml th n t pl pn xy pt sz rs ou wr sl q_197 a_197 b_197 va9_197 oa oc ok xs9_197 ys9_197) := hD
                            refine W.eq (g2 := F0 mm 200 ls [.int (-1)]) rfl ?_
                            refine lv_istore (lv' := [(6, .int (-1)), (5, .int (nI 1)), (4, .int (nI (xs.length + 1))), (3, .int (nI k)), (2, .int (nI (rn blN t n p))), (0, .ref (h 0)), (1, .int (nI d))]) hx hb d_M_shape_200 hl (by decide) rfl (fun ls hl => ?_)
                            refine lv_iload hx hb d_M_shape_202 (lv_at hl 0 rfl) ?_
                            refine lv_if_ge (tgt := 209) hx hb d_M_shape_204 (by decide) (fun c204 => ?_) (fun c204 => ?_)
                            · skip
                              exact absurd c204 (by decide)
                            · skip
                              refine lv_iconst (v := (-1)) hx hb d_M_shape_207 (by decide) ?_
                              exact yr_i (ws := wMR G h dg mp ml th n t pl pn xy pt sz rs ou wr sl q_197 a_197 b_197 va9_197 oa oc ok xs9_197 ys9_197) hx hb hrt hlocks (Or.inr (Or.inr ⟨_, _, _, _, _, _, hsh.trans (by unfold shB; rw [if_pos c90.1, hs_135]; dsimp only; rw [if_neg (by decide), if_neg c160]; unfold bdM; first | (rw [if_pos (by omega), hs_189]) | (rw [if_neg (by omega), hs_197])), rfl, rfl⟩)) rfl hK hP hD hS d_M_shape_208
                        · skip
                          refine lv_aload_n hx hb d_M_shape_187 rfl (lv_at hl 4 rfl) ?_
                          refine lv_iload_n hx hb d_M_shape_188 rfl (lv_at hl 2 rfl) ?_
                          refine y_callW (y_runV (As := [.int (nI k)]) (rest := []) hx hb hml hown (c_M_simple l G h dg mp ml th n t pl pn xy pt sz rs ou wr sl q_135 fk fp va oa oc ok (xs ++ [(nI k)] ++ [nI 0]) ys k (by omega) (by omega) (ht) (by omega) (by omega) (by omega) (by first | omega | (simp only [List.length_append, List.length_singleton, List.length_cons, List.length_nil, List.length_set]; omega)) (by omega) (by omega) (by omega) (by omega)) (gV (n := 1) hg tk_841 tk_843 (gt_s 43 (by decide +kernel) (by decide +kernel)) tk_7 tk_844 (by decide +kernel) ⟨Nat.le_of_ble_eq_true rfl, Nat.le_of_ble_eq_true rfl⟩) (va_recv hK hP (ci := 5) (q0 := 0) rfl rfl) (y_preW hE hK hP hD hS hA) rfl rfl hl.1 rfl (lv_room (Nat.le_of_ble_eq_true rfl)) d_M_shape_189 ⟨Nat.le_of_ble_eq_true rfl, Nat.le_of_ble_eq_true rfl⟩) hD hS hA (fun _ _ _ _ _ _ hp => False.elim hp) (fun v9 w9 H locs hp hlw hP hD hS => ?_)
                          rcases hp with ⟨q_189, m9_189, xs9_189, ys9_189, va9_189, hs_189, rfl, rfl⟩ | ⟨a_189, b_189, q_189, va9_189, xs9_189, ys9_189, hs_189, rfl, rfl⟩
                          · skip
                            have hP : va_P (gD G) vwC (wMR G h dg mp ml th n t pl pn xy pt sz rs ou wr sl q_189 fk fp va9_189 oa oc ok xs9_189 ys9_189) H := hP
                            have hD : va_D A (wMR G h dg mp ml th n t pl pn xy pt sz rs ou wr sl q_189 fk fp va9_189 oa oc ok xs9_189 ys9_189) := hD
                            refine W.eq (g2 := F0 mm 192 ls [.int (nI m9_189)]) rfl ?_
                            have b8 := si_bd b7.2 (by rw [hl2]; omega) hys hs_189
                            rw [hl2] at b8
                            refine lv_goto (tgt := 200) hx hb d_M_shape_192 (by decide) ?_
                            refine lv_istore (lv' := [(6, .int (nI m9_189)), (5, .int (nI 1)), (4, .int (nI (xs.length + 1))), (3, .int (nI k)), (2, .int (nI (rn blN t n p))), (0, .ref (h 0)), (1, .int (nI d))]) hx hb d_M_shape_200 hl (by decide) rfl (fun ls hl => ?_)
                            refine lv_iload hx hb d_M_shape_202 (lv_at hl 0 rfl) ?_
                            refine yn_if_ge (a := m9_189) (tgt := 209) hx hb d_M_shape_204 (by decide) (by omega) (fun c204 => ?_) (fun c204 => ?_)
                            · skip
                              refine lv_aload_n hx hb d_M_shape_209 rfl (lv_at hl 5 rfl) ?_
                              refine lv_iload hx hb d_M_shape_210 (lv_at hl 2 rfl) ?_
                              refine lv_iload hx hb d_M_shape_212 (lv_at hl 0 rfl) ?_
                              refine y_callW (y_runV (As := [.int (nI (xs.length + 1)), .int (nI m9_189)]) (rest := []) hx hb hml hown (c_M_close l G h dg mp ml th n t pl pn xy pt sz rs ou wr sl q_189 fk fp va9_189 oa oc ok xs9_189 ys9_189 (xs.length + 1) (nI m9_189) (by omega) (by omega) (by omega) (by first | omega | (simp only [List.length_append, List.length_singleton, List.length_cons, List.length_nil, List.length_set]; omega)) (by omega) (by first | omega | (simp only [List.length_append, List.length_singleton, List.length_cons, List.length_nil, List.length_set]; omega))) (gV (n := 2) hg tk_883 tk_885 (gt_s 52 (by decide +kernel) (by decide +kernel)) tk_7 tk_886 (by decide +kernel) ⟨Nat.le_of_ble_eq_true rfl, Nat.le_of_ble_eq_true rfl⟩) (va_recv hK hP (ci := 5) (q0 := 0) rfl rfl) (y_preW hE hK hP hD hS hA) rfl rfl hl.1 rfl (lv_room (Nat.le_of_ble_eq_true rfl)) d_M_shape_214 ⟨Nat.le_of_ble_eq_true rfl, Nat.le_of_ble_eq_true rfl⟩) hD hS hA (fun _ _ _ _ _ _ hp => False.elim hp) (fun v9 w9 H locs hp hlw hP hD hS => ?_)
                              obtain ⟨rfl, rfl⟩ := hp
                              have hP : va_P (gD G) vwC (wMR G h dg mp ml th n t pl pn xy pt sz rs ou wr sl q_189 fk fp va9_189 oa oc ok (xs9_189.set (xs.length + 1) (nI m9_189)) ys9_189) H := hP
                              have hD : va_D A (wMR G h dg mp ml th n t pl pn xy pt sz rs ou wr sl q_189 fk fp va9_189 oa oc ok (xs9_189.set (xs.length + 1) (nI m9_189)) ys9_189) := hD
                              refine W.eq (g2 := F0 mm 217 ls []) rfl ?_
                              refine lv_iload_n hx hb d_M_shape_217 rfl (lv_at hl 6 rfl) ?_
                              exact yr_i (ws := wMR G h dg mp ml th n t pl pn xy pt sz rs ou wr sl q_189 fk fp va9_189 oa oc ok (xs9_189.set (xs.length + 1) (nI m9_189)) ys9_189) hx hb hrt hlocks (Or.inl ⟨_, _, _, _, hsh.trans (by unfold shB; rw [if_pos c90.1, hs_135]; dsimp only; rw [if_neg (by decide), if_neg c160]; unfold bdM; first | (rw [if_pos (by omega), hs_189]) | (rw [if_neg (by omega), hs_197])), rfl, rfl⟩) rfl hK hP hD hS d_M_shape_218
                            · skip
                              exact c204.elim
                          · skip
                            have hP : va_P (gD G) vwC (wMR G h dg mp ml th n t pl pn xy pt sz rs ou wr sl q_189 a_189 b_189 va9_189 oa oc ok xs9_189 ys9_189) H := hP
                            have hD : va_D A (wMR G h dg mp ml th n t pl pn xy pt sz rs ou wr sl q_189 a_189 b_189 va9_189 oa oc ok xs9_189 ys9_189) := hD
                            refine W.eq (g2 := F0 mm 192 ls [.int (-1)]) rfl ?_
                            refine lv_goto (tgt := 200) hx hb d_M_shape_192 (by decide) ?_
                            refine lv_istore (lv' := [(6, .int (-1)), (5, .int (nI 1)), (4, .int (nI (xs.length + 1))), (3, .int (nI k)), (2, .int (nI (rn blN t n p))), (0, .ref (h 0)), (1, .int (nI d))]) hx hb d_M_shape_200 hl (by decide) rfl (fun ls hl => ?_)
                            refine lv_iload hx hb d_M_shape_202 (lv_at hl 0 rfl) ?_
                            refine lv_if_ge (tgt := 209) hx hb d_M_shape_204 (by decide) (fun c204 => ?_) (fun c204 => ?_)
                            · skip
                              exact absurd c204 (by decide)
                            · skip
                              refine lv_iconst (v := (-1)) hx hb d_M_shape_207 (by decide) ?_
                              exact yr_i (ws := wMR G h dg mp ml th n t pl pn xy pt sz rs ou wr sl q_189 a_189 b_189 va9_189 oa oc ok xs9_189 ys9_189) hx hb hrt hlocks (Or.inr (Or.inr ⟨_, _, _, _, _, _, hsh.trans (by unfold shB; rw [if_pos c90.1, hs_135]; dsimp only; rw [if_neg (by decide), if_neg c160]; unfold bdM; first | (rw [if_pos (by omega), hs_189]) | (rw [if_neg (by omega), hs_197])), rfl, rfl⟩)) rfl hK hP hD hS d_M_shape_208
                      · skip
                        refine lv_aload_n hx hb d_M_shape_163 rfl (lv_at hl 4 rfl) ?_
                        refine va_get (D := gD G) (ci := 5) (v := .ref (h 10)) (C := "WordShapesModel") (T := TM) (N := 24) hx hb hg iw_M hown hK hP 0 rfl rfl 21 (by decide) (hg _ tk_704) (fun _ h9 => h9) rfl d_M_shape_164 ?_
                        refine lv_iload_n hx hb d_M_shape_167 rfl (lv_at hl 5 rfl) ?_
                        refine lv_iload hx hb d_M_shape_168 (lv_at hl 1 rfl) ?_
                        refine yn_iast hx hb hK hP hD hS 10 0 rfl rfl (j := d) (x := nI (xs.length + 1)) (f1 := upd oa d (nI (xs.length + 1))) (rfl) (by omega) (by omega) d_M_shape_170 (fun H locs hP hD hS => ?_)
                        have hP : va_P (gD G) vwC (wMR G h dg mp ml th n t pl pn xy pt sz rs ou wr sl q_135 fk fp va (upd oa d (nI (xs.length + 1))) oc ok (xs ++ [(nI k)] ++ [nI 0]) ys) H := hP
                        have hD : va_D A (wMR G h dg mp ml th n t pl pn xy pt sz rs ou wr sl q_135 fk fp va (upd oa d (nI (xs.length + 1))) oc ok (xs ++ [(nI k)] ++ [nI 0]) ys) := hD
                        refine lv_aload_n hx hb d_M_shape_171 rfl (lv_at hl 4 rfl) ?_
                        refine va_get (D := gD G) (ci := 5) (v := .ref (h 11)) (C := "WordShapesModel") (T := TM) (N := 24) hx hb hg iw_M hown hK hP 0 rfl rfl 22 (by decide) (hg _ tk_705) (fun _ h9 => h9) rfl d_M_shape_172 ?_
                        refine lv_iload_n hx hb d_M_shape_175 rfl (lv_at hl 5 rfl) ?_
                        refine lv_iconst (v := nI 0) hx hb d_M_shape_176 (by decide) ?_
                        refine yn_iast hx hb hK hP hD hS 11 0 rfl rfl (j := d) (x := nI 0) (f1 := upd oc d (nI 0)) (rfl) (by omega) (by omega) d_M_shape_177 (fun H locs hP hD hS => ?_)
                        have hP : va_P (gD G) vwC (wMR G h dg mp ml th n t pl pn xy pt sz rs ou wr sl q_135 fk fp va (upd oa d (nI (xs.length + 1))) (upd oc d (nI 0)) ok (xs ++ [(nI k)] ++ [nI 0]) ys) H := hP
                        have hD : va_D A (wMR G h dg mp ml th n t pl pn xy pt sz rs ou wr sl q_135 fk fp va (upd oa d (nI (xs.length + 1))) (upd oc d (nI 0)) ok (xs ++ [(nI k)] ++ [nI 0]) ys) := hD
                        refine lv_iload_n hx hb d_M_shape_178 rfl (lv_at hl 5 rfl) ?_
                        refine lv_iconst (v := nI 1) hx hb d_M_shape_179 (by decide) ?_
                        refine lv_iadd hx hb d_M_shape_180 ?_
                        refine y_eqi (nI_add _ _) ?_
                        exact yr_i (ws := wMR G h dg mp ml th n t pl pn xy pt sz rs ou wr sl q_135 fk fp va (upd oa d (nI (xs.length + 1))) (upd oc d (nI 0)) ok (xs ++ [(nI k)] ++ [nI 0]) ys) hx hb hrt hlocks (Or.inr (Or.inl ⟨_, _, _, hsh.trans (by unfold shB; rw [if_pos c90.1, hs_135]; dsimp only; rw [if_neg (by decide), if_pos c160]), rfl, rfl⟩)) rfl hK hP hD hS d_M_shape_181
                    · skip
                      exact absurd c143 (by decide)
                  · skip
                    rcases lk_v hs_135 with y | y | y <;> first | exact absurd y (by decide) | exact absurd y.2 (by decide)
                  · skip
                    have hP : va_P (gD G) vwC (wMR G h dg mp ml th n t pl pn xy pt sz rs ou wr sl q_135 a_135 b_135 va oa oc ok (xs ++ [(nI k)] ++ [nI 0]) ys) H := hP
                    have hD : va_D A (wMR G h dg mp ml th n t pl pn xy pt sz rs ou wr sl q_135 a_135 b_135 va oa oc ok (xs ++ [(nI k)] ++ [nI 0]) ys) := hD
                    refine W.eq (g2 := F0 mm 138 ls [.int (-1)]) rfl ?_
                    refine lv_istore (lv' := [(5, .int (-1)), (4, .int (nI (xs.length + 1))), (3, .int (nI k)), (2, .int (nI (rn blN t n p))), (0, .ref (h 0)), (1, .int (nI d))]) hx hb d_M_shape_138 hl (by decide) rfl (fun ls hl => ?_)
                    refine lv_iload hx hb d_M_shape_140 (lv_at hl 0 rfl) ?_
                    refine lv_iconst (v := nI 1) hx hb d_M_shape_142 (by decide) ?_
                    refine lv_icmp_ge (tgt := 157) hx hb d_M_shape_143 (by decide) (fun c143 => ?_) (fun c143 => ?_)
                    · skip
                      exact absurd c143 (by decide)
                    · skip
                      refine lv_iload hx hb d_M_shape_146 (lv_at hl 0 rfl) ?_
                      refine lv_if_ge (tgt := 155) hx hb d_M_shape_148 (by decide) (fun c148 => ?_) (fun c148 => ?_)
                      · skip
                        exact absurd c148 (by decide)
                      · skip
                        refine lv_iconst (v := (-1)) hx hb d_M_shape_151 (by decide) ?_
                        refine lv_goto (tgt := 156) hx hb d_M_shape_152 (by decide) ?_
                        exact yr_i (ws := wMR G h dg mp ml th n t pl pn xy pt sz rs ou wr sl q_135 a_135 b_135 va oa oc ok (xs ++ [(nI k)] ++ [nI 0]) ys) hx hb hrt hlocks (by first | exact Or.inl ⟨_, _, _, _, hsh.trans (by unfold shB; rw [if_pos c90.1, hs_135]; dsimp only; rw [if_pos rfl]), rfl, rfl⟩ | exact Or.inr (Or.inr ⟨_, _, _, _, _, _, hsh.trans (by unfold shB; rw [if_pos c90.1, hs_135]), rfl, rfl⟩) | exact Or.inr (Or.inr ⟨_, _, _, _, _, _, hsh.trans (by unfold shB; rw [if_neg (fun y => c90 ⟨y, by omega⟩)]), rfl, rfl⟩)) rfl hK hP hD hS d_M_shape_156
                · skip
                  exact absurd c126 (by omega)
              · skip
                exact absurd c108 (by omega)
            · skip
              refine lv_aload_n hx hb d_M_shape_93 rfl (lv_at hl 2 rfl) ?_
              refine lv_bipush (v := nI 7) hx hb d_M_shape_94 (by decide) ?_
              refine lv_aload_n hx hb d_M_shape_96 rfl (lv_at hl 2 rfl) ?_
              refine va_get (D := gD G) (ci := 5) (v := .int (nI (rn blN t n (rn leN t n (rn blN t n p))))) (C := "WordShapesModel") (T := TM) (N := 24) hx hb hg iw_M hown hK hP 0 rfl rfl 17 (by decide) (hg _ tk_700) (fun _ h9 => h9) rfl d_M_shape_97 ?_
              refine y_callW (y_runV (As := [.int (nI 7), .int (nI (rn blN t n (rn leN t n (rn blN t n p))))]) (rest := []) hx hb hml hown (c_M_wrong l G h dg mp ml th n t pl pn xy pt sz rs ou wr sl (rn blN t n (rn leN t n (rn blN t n p))) fk fp va oa oc ok xs ys 7 (rn blN t n (rn leN t n (rn blN t n p))) ) (gV (n := 2) hg tk_817 tk_819 (gt_s 37 (by decide +kernel) (by decide +kernel)) tk_7 tk_820 (by decide +kernel) ⟨Nat.le_of_ble_eq_true rfl, Nat.le_of_ble_eq_true rfl⟩) (va_recv hK hP (ci := 5) (q0 := 0) rfl rfl) (y_preW hE hK hP hD hS hA) rfl rfl hl.1 rfl (lv_room (Nat.le_of_ble_eq_true rfl)) d_M_shape_100 ⟨Nat.le_of_ble_eq_true rfl, Nat.le_of_ble_eq_true rfl⟩) hD hS hA (fun _ _ _ _ _ _ hp => False.elim hp) (fun v9 w9 H locs hp hlw hP hD hS => ?_)
              obtain ⟨rfl, rfl⟩ := hp
              have hP : va_P (gD G) vwC (wMR G h dg mp ml th n t pl pn xy pt sz rs ou wr sl (rn blN t n (rn leN t n (rn blN t n p))) 7 (rn blN t n (rn leN t n (rn blN t n p))) va oa oc ok xs ys) H := hP
              have hD : va_D A (wMR G h dg mp ml th n t pl pn xy pt sz rs ou wr sl (rn blN t n (rn leN t n (rn blN t n p))) 7 (rn blN t n (rn leN t n (rn blN t n p))) va oa oc ok xs ys) := hD
              refine W.eq (g2 := F0 mm 103 ls [.int (nI 0)]) rfl ?_
              refine lv_pop hx hb d_M_shape_103 rfl ?_
              refine lv_aload_n hx hb d_M_shape_104 rfl (lv_at hl 2 rfl) ?_
              refine va_get (D := gD G) (ci := 5) (v := .int (nI 7)) (C := "WordShapesModel") (T := TM) (N := 24) hx hb hg iw_M hown hK hP 0 rfl rfl 18 (by decide) (hg _ tk_701) (fun _ h9 => h9) rfl d_M_shape_105 ?_
              refine yn_if_le (a := 7) (tgt := 115) hx hb d_M_shape_108 (by decide) (by omega) (fun c108 => ?_) (fun c108 => ?_)
              · skip
                exact absurd c108 (by decide)
              · skip
                refine lv_iconst (v := nI 0) hx hb d_M_shape_111 (by decide) ?_
                refine lv_goto (tgt := 120) hx hb d_M_shape_112 (by decide) ?_
                refine lv_istore (lv' := [(4, .int (nI 0)), (3, .int (nI k)), (2, .int (nI (rn blN t n p))), (0, .ref (h 0)), (1, .int (nI d))]) hx hb d_M_shape_120 hl (by decide) rfl (fun ls hl => ?_)
                refine lv_aload_n hx hb d_M_shape_122 rfl (lv_at hl 3 rfl) ?_
                refine va_get (D := gD G) (ci := 5) (v := .int (nI 7)) (C := "WordShapesModel") (T := TM) (N := 24) hx hb hg iw_M hown hK hP 0 rfl rfl 18 (by decide) (hg _ tk_701) (fun _ h9 => h9) rfl d_M_shape_123 ?_
                refine yn_if_le (a := 7) (tgt := 133) hx hb d_M_shape_126 (by decide) (by omega) (fun c126 => ?_) (fun c126 => ?_)
                · skip
                  exact absurd c126 (by decide)
                · skip
                  refine lv_iconst (v := (-1)) hx hb d_M_shape_129 (by decide) ?_
                  refine lv_goto (tgt := 138) hx hb d_M_shape_130 (by decide) ?_
                  refine lv_istore (lv' := [(5, .int (-1)), (4, .int (nI 0)), (3, .int (nI k)), (2, .int (nI (rn blN t n p))), (0, .ref (h 0)), (1, .int (nI d))]) hx hb d_M_shape_138 hl (by decide) rfl (fun ls hl => ?_)
                  refine lv_iload hx hb d_M_shape_140 (lv_at hl 0 rfl) ?_
                  refine lv_iconst (v := nI 1) hx hb d_M_shape_142 (by decide) ?_
                  refine lv_icmp_ge (tgt := 157) hx hb d_M_shape_143 (by decide) (fun c143 => ?_) (fun c143 => ?_)
                  · skip
                    exact absurd c143 (by decide)
                  · skip
                    refine lv_iload hx hb d_M_shape_146 (lv_at hl 0 rfl) ?_
                    refine lv_if_ge (tgt := 155) hx hb d_M_shape_148 (by decide) (fun c148 => ?_) (fun c148 => ?_)
                    · skip
                      exact absurd c148 (by decide)
                    · skip
                      refine lv_iconst (v := (-1)) hx hb d_M_shape_151 (by decide) ?_
                      refine lv_goto (tgt := 156) hx hb d_M_shape_152 (by decide) ?_
                      exact yr_i (ws := wMR G h dg mp ml th n t pl pn xy pt sz rs ou wr sl (rn blN t n (rn leN t n (rn blN t n p))) 7 (rn blN t n (rn leN t n (rn blN t n p))) va oa oc ok xs ys) hx hb hrt hlocks (by first | exact Or.inl ⟨_, _, _, _, hsh.trans (by unfold shB; rw [if_pos c90.1, hs_135]; dsimp only; rw [if_pos rfl]), rfl, rfl⟩ | exact Or.inr (Or.inr ⟨_, _, _, _, _, _, hsh.trans (by unfold shB; rw [if_pos c90.1, hs_135]), rfl, rfl⟩) | exact Or.inr (Or.inr ⟨_, _, _, _, _, _, hsh.trans (by unfold shB; rw [if_neg (fun y => c90 ⟨y, by omega⟩)]), rfl, rfl⟩)) rfl hK hP hD hS d_M_shape_156
          · skip
            exact absurd c75 (by omega)
        · skip
          refine lv_iload_n hx hb d_M_shape_57 rfl (lv_at hl 3 rfl) ?_
          refine lv_bipush (v := nI 50) hx hb d_M_shape_58 (by decide) ?_
          refine yn_icmp_lt (a := d) (b := 50) (tgt := 71) hx hb d_M_shape_60 (by decide) (by omega) (by omega) (fun c60 => ?_) (fun c60 => ?_)
          · skip
            refine lv_aload_n hx hb d_M_shape_71 rfl (lv_at hl 2 rfl) ?_
            refine va_get (D := gD G) (ci := 5) (v := .int (nI fk)) (C := "WordShapesModel") (T := TM) (N := 24) hx hb hg iw_M hown hK hP 0 rfl rfl 18 (by decide) (hg _ tk_701) (fun _ h9 => h9) rfl d_M_shape_72 ?_
            refine yn_if_le (a := fk) (tgt := 80) hx hb d_M_shape_75 (by decide) (by omega) (fun c75 => ?_) (fun c75 => ?_)
            · skip
              have hkd : kdM t n d (rn blN t n p) = .inr k := by unfold kdM; rw [hk, if_neg (by rw [c16]; decide), if_neg (fun y => y.elim c32 c38), if_neg (fun y => by first | exact c54 y.1 | exact absurd y.2 (by omega))]
              have hsh : shM t n dg mp ml d p xs ys = shB t n dg mp ml k (rn leN t n (rn blN t n p)) xs ys := by unfold shM; rw [hkd]
              refine lv_aload_n hx hb d_M_shape_80 rfl (lv_at hl 2 rfl) ?_
              refine y_callW (y_runV (As := []) (rest := []) hx hb hml hown (c_M_pass l G h dg mp ml th n t pl pn xy pt sz rs ou wr sl (rn leN t n (rn blN t n p)) fk fp va oa oc ok xs ys  (by omega) (by omega) (ht)) (gV (n := 0) hg tk_790 tk_792 (gt_s 34 (by decide +kernel) (by decide +kernel)) tk_7 tk_793 (by decide +kernel) ⟨Nat.le_of_ble_eq_true rfl, Nat.le_of_ble_eq_true rfl⟩) (va_recv hK hP (ci := 5) (q0 := 0) rfl rfl) (y_preW hE hK hP hD hS hA) rfl rfl hl.1 rfl (lv_room (Nat.le_of_ble_eq_true rfl)) d_M_shape_81 ⟨Nat.le_of_ble_eq_true rfl, Nat.le_of_ble_eq_true rfl⟩) hD hS hA (fun _ _ _ _ _ _ hp => False.elim hp) (fun v9 w9 H locs hp hlw hP hD hS => ?_)
              obtain ⟨rfl, rfl⟩ := hp
              have hP : va_P (gD G) vwC (wMR G h dg mp ml th n t pl pn xy pt sz rs ou wr sl (rn blN t n (rn leN t n (rn blN t n p))) fk fp va oa oc ok xs ys) H := hP
              have hD : va_D A (wMR G h dg mp ml th n t pl pn xy pt sz rs ou wr sl (rn blN t n (rn leN t n (rn blN t n p))) fk fp va oa oc ok xs ys) := hD
              refine W.eq (g2 := F0 mm 84 ls []) rfl ?_
              refine lv_aload_n hx hb d_M_shape_84 rfl (lv_at hl 2 rfl) ?_
              refine lv_iconst (v := nI 2) hx hb d_M_shape_85 (by decide) ?_
              refine lv_iconst (v := nI 0) hx hb d_M_shape_86 (by decide) ?_
              refine y_callW (y_runV (As := [.int (nI 2), .int (nI 0)]) (rest := []) hx hb hml hown (c_M_room l G h dg mp ml th n t pl pn xy pt sz rs ou wr sl (rn blN t n (rn leN t n (rn blN t n p))) fk fp va oa oc ok xs ys 2 0 (by omega) (by omega) (by omega) (by omega) (by omega) (by omega) (by omega)) (gV (n := 2) hg tk_825 tk_827 (gt_s 39 (by decide +kernel) (by decide +kernel)) tk_7 tk_828 (by decide +kernel) ⟨Nat.le_of_ble_eq_true rfl, Nat.le_of_ble_eq_true rfl⟩) (va_recv hK hP (ci := 5) (q0 := 0) rfl rfl) (y_preW hE hK hP hD hS hA) rfl rfl hl.1 rfl (lv_room (Nat.le_of_ble_eq_true rfl)) d_M_shape_87 ⟨Nat.le_of_ble_eq_true rfl, Nat.le_of_ble_eq_true rfl⟩) hD hS hA (fun _ _ _ _ _ _ hp => False.elim hp) (fun v9 w9 H locs hp hlw hP hD hS => ?_)
              obtain ⟨rfl, rfl⟩ := hp
              have hP : va_P (gD G) vwC (wMR G h dg mp ml th n t pl pn xy pt sz rs ou wr sl (rn blN t n (rn leN t n (rn blN t n p))) fk fp va oa oc ok xs ys) H := hP
              have hD : va_D A (wMR G h dg mp ml th n t pl pn xy pt sz rs ou wr sl (rn blN t n (rn leN t n (rn blN t n p))) fk fp va oa oc ok xs ys) := hD
              refine W.eq (g2 := F0 mm 90 ls [.int (bz (decide (xs.length + 2 ≤ ml ∧ ys.length + 0 ≤ mp)))]) rfl ?_
              refine yz_if_ne (P := xs.length + 2 ≤ ml ∧ ys.length + 0 ≤ mp) (tgt := 104) hx hb d_M_shape_90 (by decide) (fun c90 => ?_) (fun c90 => ?_)
              · skip
                refine lv_aload_n hx hb d_M_shape_104 rfl (lv_at hl 2 rfl) ?_
                refine va_get (D := gD G) (ci := 5) (v := .int (nI fk)) (C := "WordShapesModel") (T := TM) (N := 24) hx hb hg iw_M hown hK hP 0 rfl rfl 18 (by decide) (hg _ tk_701) (fun _ h9 => h9) rfl d_M_shape_105 ?_
                refine yn_if_le (a := fk) (tgt := 115) hx hb d_M_shape_108 (by decide) (by omega) (fun c108 => ?_) (fun c108 => ?_)
                · skip
                  refine lv_aload_n hx hb d_M_shape_115 rfl (lv_at hl 2 rfl) ?_
                  refine lv_iload_n hx hb d_M_shape_116 rfl (lv_at hl 0 rfl) ?_
                  refine y_callW (y_runV (As := [.int (nI k)]) (rest := []) hx hb hml hown (c_M_open l G h dg mp ml th n t pl pn xy pt sz rs ou wr sl (rn blN t n (rn leN t n (rn blN t n p))) fk fp va oa oc ok xs ys (nI k) (by omega) (by omega) (by omega) (by omega) (by omega) (by omega)) (gV (n := 1) hg tk_829 tk_831 (gt_s 40 (by decide +kernel) (by decide +kernel)) tk_7 tk_832 (by decide +kernel) ⟨Nat.le_of_ble_eq_true rfl, Nat.le_of_ble_eq_true rfl⟩) (va_recv hK hP (ci := 5) (q0 := 0) rfl rfl) (y_preW hE hK hP hD hS hA) rfl rfl hl.1 rfl (lv_room (Nat.le_of_ble_eq_true rfl)) d_M_shape_117 ⟨Nat.le_of_ble_eq_true rfl, Nat.le_of_ble_eq_true rfl⟩) hD hS hA (fun _ _ _ _ _ _ hp => False.elim hp) (fun v9 w9 H locs hp hlw hP hD hS => ?_)
                  obtain ⟨rfl, rfl⟩ := hp
                  have hP : va_P (gD G) vwC (wMR G h dg mp ml th n t pl pn xy pt sz rs ou wr sl (rn blN t n (rn leN t n (rn blN t n p))) fk fp va oa oc ok (xs ++ [(nI k)] ++ [nI 0]) ys) H := hP
                  have hD : va_D A (wMR G h dg mp ml th n t pl pn xy pt sz rs ou wr sl (rn blN t n (rn leN t n (rn blN t n p))) fk fp va oa oc ok (xs ++ [(nI k)] ++ [nI 0]) ys) := hD
                  refine W.eq (g2 := F0 mm 120 ls [.int (nI (xs.length + 1))]) rfl ?_
                  refine lv_istore (lv' := [(4, .int (nI (xs.length + 1))), (3, .int (nI k)), (2, .int (nI (rn blN t n p))), (0, .ref (h 0)), (1, .int (nI d))]) hx hb d_M_shape_120 hl (by decide) rfl (fun ls hl => ?_)
                  refine lv_aload_n hx hb d_M_shape_122 rfl (lv_at hl 3 rfl) ?_
                  refine va_get (D := gD G) (ci := 5) (v := .int (nI fk)) (C := "WordShapesModel") (T := TM) (N := 24) hx hb hg iw_M hown hK hP 0 rfl rfl 18 (by decide) (hg _ tk_701) (fun _ h9 => h9) rfl d_M_shape_123 ?_
                  refine yn_if_le (a := fk) (tgt := 133) hx hb d_M_shape_126 (by decide) (by omega) (fun c126 => ?_) (fun c126 => ?_)
                  · skip
                    refine lv_aload_n hx hb d_M_shape_133 rfl (lv_at hl 3 rfl) ?_
                    refine lv_iconst (v := nI 0) hx hb d_M_shape_134 (by decide) ?_
                    refine y_eqi (y := bz false) (by decide) ?_
                    refine y_callW (y_runV (As := [.int (bz false)]) (rest := []) hx hb hml hown (c_M_looked l G h dg mp ml th n t pl pn xy pt sz rs ou wr sl (rn blN t n (rn leN t n (rn blN t n p))) fk fp va oa oc ok (xs ++ [(nI k)] ++ [nI 0]) ys false (by omega) (by omega) (ht)) (gV (n := 1) hg tk_837 tk_839 (gt_s 42 (by decide +kernel) (by decide +kernel)) tk_7 tk_840 (by decide +kernel) ⟨Nat.le_of_ble_eq_true rfl, Nat.le_of_ble_eq_true rfl⟩) (va_recv hK hP (ci := 5) (q0 := 0) rfl rfl) (y_preW hE hK hP hD hS hA) rfl rfl hl.1 rfl (lv_room (Nat.le_of_ble_eq_true rfl)) d_M_shape_135 ⟨Nat.le_of_ble_eq_true rfl, Nat.le_of_ble_eq_true rfl⟩) hD hS hA (fun _ _ _ _ _ _ hp => False.elim hp) (fun v9 w9 H locs hp hlw hP hD hS => ?_)
                    rcases hp with ⟨q_135, hs_135, rfl, rfl⟩ | ⟨q_135, hs_135, rfl, rfl⟩ | ⟨q_135, hs_135, rfl, rfl⟩ | ⟨a_135, b_135, q_135, hs_135, rfl, rfl⟩
                    · skip
                      have hP : va_P (gD G) vwC (wMR G h dg mp ml th n t pl pn xy pt sz rs ou wr sl q_135 fk fp va oa oc ok (xs ++ [(nI k)] ++ [nI 0]) ys) H := hP
                      have hD : va_D A (wMR G h dg mp ml th n t pl pn xy pt sz rs ou wr sl q_135 fk fp va oa oc ok (xs ++ [(nI k)] ++ [nI 0]) ys) := hD
                      refine W.eq (g2 := F0 mm 138 ls [.int (nI 0)]) rfl ?_
                      have b7 := lk_bd b6 hs_135
                      refine lv_istore (lv' := [(5, .int (nI 0)), (4, .int (nI (xs.length + 1))), (3, .int (nI k)), (2, .int (nI (rn blN t n p))), (0, .ref (h 0)), (1, .int (nI d))]) hx hb d_M_shape_138 hl (by decide) rfl (fun ls hl => ?_)
                      refine lv_iload hx hb d_M_shape_140 (lv_at hl 0 rfl) ?_
                      refine lv_iconst (v := nI 1) hx hb d_M_shape_142 (by decide) ?_
                      refine yn_icmp_ge (a := 0) (b := 1) (tgt := 157) hx hb d_M_shape_143 (by decide) (by omega) (by omega) (fun c143 => ?_) (fun c143 => ?_)
                      · skip
                        exact absurd c143 (by decide)
                      · skip
                        refine lv_iload hx hb d_M_shape_146 (lv_at hl 0 rfl) ?_
                        refine yn_if_ge (a := 0) (tgt := 155) hx hb d_M_shape_148 (by decide) (by omega) (fun c148 => ?_) (fun c148 => ?_)
                        · skip
                          refine lv_iload_n hx hb d_M_shape_155 rfl (lv_at hl 5 rfl) ?_
                          exact yr_i (ws := wMR G h dg mp ml th n t pl pn xy pt sz rs ou wr sl q_135 fk fp va oa oc ok (xs ++ [(nI k)] ++ [nI 0]) ys) hx hb hrt hlocks (by first | exact Or.inl ⟨_, _, _, _, hsh.trans (by unfold shB; rw [if_pos c90.1, hs_135]; dsimp only; rw [if_pos rfl]), rfl, rfl⟩ | exact Or.inr (Or.inr ⟨_, _, _, _, _, _, hsh.trans (by unfold shB; rw [if_pos c90.1, hs_135]), rfl, rfl⟩) | exact Or.inr (Or.inr ⟨_, _, _, _, _, _, hsh.trans (by unfold shB; rw [if_neg (fun y => c90 ⟨y, by omega⟩)]), rfl, rfl⟩)) rfl hK hP hD hS d_M_shape_156
                        · skip
                          exact absurd c148 (by decide)
                    · skip
                      have hP : va_P (gD G) vwC (wMR G h dg mp ml th n t pl pn xy pt sz rs ou wr sl q_135 fk fp va oa oc ok (xs ++ [(nI k)] ++ [nI 0]) ys) H := hP
                      have hD : va_D A (wMR G h dg mp ml th n t pl pn xy pt sz rs ou wr sl q_135 fk fp va oa oc ok (xs ++ [(nI k)] ++ [nI 0]) ys) := hD
                      refine W.eq (g2 := F0 mm 138 ls [.int (nI 1)]) rfl ?_
                      have b7 := lk_bd b6 hs_135
                      refine lv_istore (lv' := [(5, .int (nI 1)), (4, .int (nI (xs.length + 1))), (3, .int (nI k)), (2, .int (nI (rn blN t n p))), (0, .ref (h 0)), (1, .int (nI d))]) hx hb d_M_shape_138 hl (by decide) rfl (fun ls hl => ?_)
                      refine lv_iload hx hb d_M_shape_140 (lv_at hl 0 rfl) ?_
                      refine lv_iconst (v := nI 1) hx hb d_M_shape_142 (by decide) ?_
                      refine yn_icmp_ge (a := 1) (b := 1) (tgt := 157) hx hb d_M_shape_143 (by decide) (by omega) (by omega) (fun c143 => ?_) (fun c143 => ?_)
                      · skip
                        refine lv_iload_n hx hb d_M_shape_157 rfl (lv_at hl 2 rfl) ?_
                        refine lv_bipush (v := nI 7) hx hb d_M_shape_158 (by decide) ?_
                        refine yn_icmp_ne (a := k) (b := 7) (tgt := 182) hx hb d_M_shape_160 (by decide) (by omega) (by omega) (fun c160 => ?_) (fun c160 => ?_)
                        · skip
                          refine lv_iload_n hx hb d_M_shape_182 rfl (lv_at hl 2 rfl) ?_
                          refine lv_iconst (v := nI 4) hx hb d_M_shape_183 (by decide) ?_
                          refine yn_icmp_ge (a := k) (b := 4) (tgt := 195) hx hb d_M_shape_184 (by decide) (by omega) (by omega) (fun c184 => ?_) (fun c184 => ?_)
                          · skip
                            refine lv_aload_n hx hb d_M_shape_195 rfl (lv_at hl 4 rfl) ?_
                            refine lv_iload_n hx hb d_M_shape_196 rfl (lv_at hl 2 rfl) ?_
                            refine y_callW (y_runV (As := [.int (nI k)]) (rest := []) hx hb hml hown (c_M_parts l G h dg mp ml th n t pl pn xy pt sz rs ou wr sl q_135 fk fp va oa oc ok (xs ++ [(nI k)] ++ [nI 0]) ys k (by omega) (by omega) (ht) (by omega) (by omega) (by omega) (by first | omega | (simp only [List.length_append, List.length_singleton, List.length_cons, List.length_nil, List.length_set]; omega)) (by omega) (by omega) (by omega) (by omega)) (gV (n := 1) hg tk_887 tk_889 (gt_s 53 (by decide +kernel) (by decide +kernel)) tk_7 tk_890 (by decide +kernel) ⟨Nat.le_of_ble_eq_true rfl, Nat.le_of_ble_eq_true rfl⟩) (va_recv hK hP (ci := 5) (q0 := 0) rfl rfl) (y_preW hE hK hP hD hS hA) rfl rfl hl.1 rfl (lv_room (Nat.le_of_ble_eq_true rfl)) d_M_shape_197 ⟨Nat.le_of_ble_eq_true rfl, Nat.le_of_ble_eq_true rfl⟩) hD hS hA (fun _ _ _ _ _ _ hp => False.elim hp) (fun v9 w9 H locs hp hlw hP hD hS => ?_)
                            rcases hp with ⟨q_197, m9_197, xs9_197, ys9_197, va9_197, hs_197, rfl, rfl⟩ | ⟨a_197, b_197, q_197, va9_197, xs9_197, ys9_197, hs_197, rfl, rfl⟩
                            · skip
                              have hP : va_P (gD G) vwC (wMR G h dg mp ml th n t pl pn xy pt sz rs ou wr sl q_197 fk fp va9_197 oa oc ok xs9_197 ys9_197) H := hP
                              have hD : va_D A (wMR G h dg mp ml th n t pl pn xy pt sz rs ou wr sl q_197 fk fp va9_197 oa oc ok xs9_197 ys9_197) := hD
                              refine W.eq (g2 := F0 mm 200 ls [.int (nI m9_197)]) rfl ?_
                              have b8 := pa_bd _ _ _ _ _ b7.2 (by rw [hl2]; omega) hys hs_197
                              rw [hl2] at b8
                              refine lv_istore (lv' := [(6, .int (nI m9_197)), (5, .int (nI 1)), (4, .int (nI (xs.length + 1))), (3, .int (nI k)), (2, .int (nI (rn blN t n p))), (0, .ref (h 0)), (1, .int (nI d))]) hx hb d_M_shape_200 hl (by decide) rfl (fun ls hl => ?_)
                              refine lv_iload hx hb d_M_shape_202 (lv_at hl 0 rfl) ?_
                              refine yn_if_ge (a := m9_197) (tgt := 209) hx hb d_M_shape_204 (by decide) (by omega) (fun c204 => ?_) (fun c204 => ?_)
                              · skip
                                refine lv_aload_n hx hb d_M_shape_209 rfl (lv_at hl 5 rfl) ?_
                                refine lv_iload hx hb d_M_shape_210 (lv_at hl 2 rfl) ?_
                                refine lv_iload hx hb d_M_shape_212 (lv_at hl 0 rfl) ?_
                                refine y_callW (y_runV (As := [.int (nI (xs.length + 1)), .int (nI m9_197)]) (rest := []) hx hb hml hown (c_M_close l G h dg mp ml th n t pl pn xy pt sz rs ou wr sl q_197 fk fp va9_197 oa oc ok xs9_197 ys9_197 (xs.length + 1) (nI m9_197) (by omega) (by omega) (by omega) (by first | omega | (simp only [List.length_append, List.length_singleton, List.length_cons, List.length_nil, List.length_set]; omega)) (by omega) (by first | omega | (simp only [List.length_append, List.length_singleton, List.length_cons, List.length_nil, List.length_set]; omega))) (gV (n := 2) hg tk_883 tk_885 (gt_s 52 (by decide +kernel) (by decide +kernel)) tk_7 tk_886 (by decide +kernel) ⟨Nat.le_of_ble_eq_true rfl, Nat.le_of_ble_eq_true rfl⟩) (va_recv hK hP (ci := 5) (q0 := 0) rfl rfl) (y_preW hE hK hP hD hS hA) rfl rfl hl.1 rfl (lv_room (Nat.le_of_ble_eq_true rfl)) d_M_shape_214 ⟨Nat.le_of_ble_eq_true rfl, Nat.le_of_ble_eq_true rfl⟩) hD hS hA (fun _ _ _ _ _ _ hp => False.elim hp) (fun v9 w9 H locs hp hlw hP hD hS => ?_)
                                obtain ⟨rfl, rfl⟩ := hp
                                have hP : va_P (gD G) vwC (wMR G h dg mp ml th n t pl pn xy pt sz rs ou wr sl q_197 fk fp va9_197 oa oc ok (xs9_197.set (xs.length + 1) (nI m9_197)) ys9_197) H := hP
                                have hD : va_D A (wMR G h dg mp ml th n t pl pn xy pt sz rs ou wr sl q_197 fk fp va9_197 oa oc ok (xs9_197.set (xs.length + 1) (nI m9_197)) ys9_197) := hD
                                refine W.eq (g2 := F0 mm 217 ls []) rfl ?_
                                refine lv_iload_n hx hb d_M_shape_217 rfl (lv_at hl 6 rfl) ?_
                                exact yr_i (ws := wMR G h dg mp ml th n t pl pn xy pt sz rs ou wr sl q_197 fk fp va9_197 oa oc ok (xs9_197.set (xs.length + 1) (nI m9_197)) ys9_197) hx hb hrt hlocks (Or.inl ⟨_, _, _, _, hsh.trans (by unfold shB; rw [if_pos c90.1, hs_135]; dsimp only; rw [if_neg (by decide), if_neg c160]; unfold bdM; first | (rw [if_pos (by omega), hs_189]) | (rw [if_neg (by omega), hs_197])), rfl, rfl⟩) rfl hK hP hD hS d_M_shape_218
                              · skip
                                exact c204.elim
                            · skip
                              have hP : va_P (gD G) vwC (wMR G h dg mp ml th n t pl pn xy pt sz rs ou wr sl q_197 a_197 b_197 va9_197 oa oc ok xs9_197 ys9_197) H := hP
                              have hD : va_D A (wMR G h dg mp ml th n t pl pn xy pt sz rs ou wr sl q_197 a_197 b_197 va9_197 oa oc ok xs9_197 ys9_197) := hD
                              refine W.eq (g2 := F0 mm 200 ls [.int (-1)]) rfl ?_
                              refine lv_istore (lv' := [(6, .int (-1)), (5, .int (nI 1)), (4, .int (nI (xs.length + 1))), (3, .int (nI k)), (2, .int (nI (rn blN t n p))), (0, .ref (h 0)), (1, .int (nI d))]) hx hb d_M_shape_200 hl (by decide) rfl (fun ls hl => ?_)
                              refine lv_iload hx hb d_M_shape_202 (lv_at hl 0 rfl) ?_
                              refine lv_if_ge (tgt := 209) hx hb d_M_shape_204 (by decide) (fun c204 => ?_) (fun c204 => ?_)
                              · skip
                                exact absurd c204 (by decide)
                              · skip
                                refine lv_iconst (v := (-1)) hx hb d_M_shape_207 (by decide) ?_
                                exact yr_i (ws := wMR G h dg mp ml th n t pl pn xy pt sz rs ou wr sl q_197 a_197 b_197 va9_197 oa oc ok xs9_197 ys9_197) hx hb hrt hlocks (Or.inr (Or.inr ⟨_, _, _, _, _, _, hsh.trans (by unfold shB; rw [if_pos c90.1, hs_135]; dsimp only; rw [if_neg (by decide), if_neg c160]; unfold bdM; first | (rw [if_pos (by omega), hs_189]) | (rw [if_neg (by omega), hs_197])), rfl, rfl⟩)) rfl hK hP hD hS d_M_shape_208
                          · skip
                            refine lv_aload_n hx hb d_M_shape_187 rfl (lv_at hl 4 rfl) ?_
                            refine lv_iload_n hx hb d_M_shape_188 rfl (lv_at hl 2 rfl) ?_
                            refine y_callW (y_runV (As := [.int (nI k)]) (rest := []) hx hb hml hown (c_M_simple l G h dg mp ml th n t pl pn xy pt sz rs ou wr sl q_135 fk fp va oa oc ok (xs ++ [(nI k)] ++ [nI 0]) ys k (by omega) (by omega) (ht) (by omega) (by omega) (by omega) (by first | omega | (simp only [List.length_append, List.length_singleton, List.length_cons, List.length_nil, List.length_set]; omega)) (by omega) (by omega) (by omega) (by omega)) (gV (n := 1) hg tk_841 tk_843 (gt_s 43 (by decide +kernel) (by decide +kernel)) tk_7 tk_844 (by decide +kernel) ⟨Nat.le_of_ble_eq_true rfl, Nat.le_of_ble_eq_true rfl⟩) (va_recv hK hP (ci := 5) (q0 := 0) rfl rfl) (y_preW hE hK hP hD hS hA) rfl rfl hl.1 rfl (lv_room (Nat.le_of_ble_eq_true rfl)) d_M_shape_189 ⟨Nat.le_of_ble_eq_true rfl, Nat.le_of_ble_eq_true rfl⟩) hD hS hA (fun _ _ _ _ _ _ hp => False.elim hp) (fun v9 w9 H locs hp hlw hP hD hS => ?_)
                            rcases hp with ⟨q_189, m9_189, xs9_189, ys9_189, va9_189, hs_189, rfl, rfl⟩ | ⟨a_189, b_189, q_189, va9_189, xs9_189, ys9_189, hs_189, rfl, rfl⟩
                            · skip
                              have hP : va_P (gD G) vwC (wMR G h dg mp ml th n t pl pn xy pt sz rs ou wr sl q_189 fk fp va9_189 oa oc ok xs9_189 ys9_189) H := hP
                              have hD : va_D A (wMR G h dg mp ml th n t pl pn xy pt sz rs ou wr sl q_189 fk fp va9_189 oa oc ok xs9_189 ys9_189) := hD
                              refine W.eq (g2 := F0 mm 192 ls [.int (nI m9_189)]) rfl ?_
                              have b8 := si_bd b7.2 (by rw [hl2]; omega) hys hs_189
                              rw [hl2] at b8
                              refine lv_goto (tgt := 200) hx hb d_M_shape_192 (by decide) ?_
                              refine lv_istore (lv' := [(6, .int (nI m9_189)), (5, .int (nI 1)), (4, .int (nI (xs.length + 1))), (3, .int (nI k)), (2, .int (nI (rn blN t n p))), (0, .ref (h 0)), (1, .int (nI d))]) hx hb d_M_shape_200 hl (by decide) rfl (fun ls hl => ?_)
                              refine lv_iload hx hb d_M_shape_202 (lv_at hl 0 rfl) ?_
                              refine yn_if_ge (a := m9_189) (tgt := 209) hx hb d_M_shape_204 (by decide) (by omega) (fun c204 => ?_) (fun c204 => ?_)
                              · skip
                                refine lv_aload_n hx hb d_M_shape_209 rfl (lv_at hl 5 rfl) ?_
                                refine lv_iload hx hb d_M_shape_210 (lv_at hl 2 rfl) ?_
                                refine lv_iload hx hb d_M_shape_212 (lv_at hl 0 rfl) ?_
                                refine y_callW (y_runV (As := [.int (nI (xs.length + 1)), .int (nI m9_189)]) (rest := []) hx hb hml hown (c_M_close l G h dg mp ml th n t pl pn xy pt sz rs ou wr sl q_189 fk fp va9_189 oa oc ok xs9_189 ys9_189 (xs.length + 1) (nI m9_189) (by omega) (by omega) (by omega) (by first | omega | (simp only [List.length_append, List.length_singleton, List.length_cons, List.length_nil, List.length_set]; omega)) (by omega) (by first | omega | (simp only [List.length_append, List.length_singleton, List.length_cons, List.length_nil, List.length_set]; omega))) (gV (n := 2) hg tk_883 tk_885 (gt_s 52 (by decide +kernel) (by decide +kernel)) tk_7 tk_886 (by decide +kernel) ⟨Nat.le_of_ble_eq_true rfl, Nat.le_of_ble_eq_true rfl⟩) (va_recv hK hP (ci := 5) (q0 := 0) rfl rfl) (y_preW hE hK hP hD hS hA) rfl rfl hl.1 rfl (lv_room (Nat.le_of_ble_eq_true rfl)) d_M_shape_214 ⟨Nat.le_of_ble_eq_true rfl, Nat.le_of_ble_eq_true rfl⟩) hD hS hA (fun _ _ _ _ _ _ hp => False.elim hp) (fun v9 w9 H locs hp hlw hP hD hS => ?_)
                                obtain ⟨rfl, rfl⟩ := hp
                                have hP : va_P (gD G) vwC (wMR G h dg mp ml th n t pl pn xy pt sz rs ou wr sl q_189 fk fp va9_189 oa oc ok (xs9_189.set (xs.length + 1) (nI m9_189)) ys9_189) H := hP
                                have hD : va_D A (wMR G h dg mp ml th n t pl pn xy pt sz rs ou wr sl q_189 fk fp va9_189 oa oc ok (xs9_189.set (xs.length + 1) (nI m9_189)) ys9_189) := hD
                                refine W.eq (g2 := F0 mm 217 ls []) rfl ?_
                                refine lv_iload_n hx hb d_M_shape_217 rfl (lv_at hl 6 rfl) ?_
                                exact yr_i (ws := wMR G h dg mp ml th n t pl pn xy pt sz rs ou wr sl q_189 fk fp va9_189 oa oc ok (xs9_189.set (xs.length + 1) (nI m9_189)) ys9_189) hx hb hrt hlocks (Or.inl ⟨_, _, _, _, hsh.trans (by unfold shB; rw [if_pos c90.1, hs_135]; dsimp only; rw [if_neg (by decide), if_neg c160]; unfold bdM; first | (rw [if_pos (by omega), hs_189]) | (rw [if_neg (by omega), hs_197])), rfl, rfl⟩) rfl hK hP hD hS d_M_shape_218
                              · skip
                                exact c204.elim
                            · skip
                              have hP : va_P (gD G) vwC (wMR G h dg mp ml th n t pl pn xy pt sz rs ou wr sl q_189 a_189 b_189 va9_189 oa oc ok xs9_189 ys9_189) H := hP
                              have hD : va_D A (wMR G h dg mp ml th n t pl pn xy pt sz rs ou wr sl q_189 a_189 b_189 va9_189 oa oc ok xs9_189 ys9_189) := hD
                              refine W.eq (g2 := F0 mm 192 ls [.int (-1)]) rfl ?_
                              refine lv_goto (tgt := 200) hx hb d_M_shape_192 (by decide) ?_
                              refine lv_istore (lv' := [(6, .int (-1)), (5, .int (nI 1)), (4, .int (nI (xs.length + 1))), (3, .int (nI k)), (2, .int (nI (rn blN t n p))), (0, .ref (h 0)), (1, .int (nI d))]) hx hb d_M_shape_200 hl (by decide) rfl (fun ls hl => ?_)
                              refine lv_iload hx hb d_M_shape_202 (lv_at hl 0 rfl) ?_
                              refine lv_if_ge (tgt := 209) hx hb d_M_shape_204 (by decide) (fun c204 => ?_) (fun c204 => ?_)
                              · skip
                                exact absurd c204 (by decide)
                              · skip
                                refine lv_iconst (v := (-1)) hx hb d_M_shape_207 (by decide) ?_
                                exact yr_i (ws := wMR G h dg mp ml th n t pl pn xy pt sz rs ou wr sl q_189 a_189 b_189 va9_189 oa oc ok xs9_189 ys9_189) hx hb hrt hlocks (Or.inr (Or.inr ⟨_, _, _, _, _, _, hsh.trans (by unfold shB; rw [if_pos c90.1, hs_135]; dsimp only; rw [if_neg (by decide), if_neg c160]; unfold bdM; first | (rw [if_pos (by omega), hs_189]) | (rw [if_neg (by omega), hs_197])), rfl, rfl⟩)) rfl hK hP hD hS d_M_shape_208
                        · skip
                          refine lv_aload_n hx hb d_M_shape_163 rfl (lv_at hl 4 rfl) ?_
                          refine va_get (D := gD G) (ci := 5) (v := .ref (h 10)) (C := "WordShapesModel") (T := TM) (N := 24) hx hb hg iw_M hown hK hP 0 rfl rfl 21 (by decide) (hg _ tk_704) (fun _ h9 => h9) rfl d_M_shape_164 ?_
                          refine lv_iload_n hx hb d_M_shape_167 rfl (lv_at hl 5 rfl) ?_
                          refine lv_iload hx hb d_M_shape_168 (lv_at hl 1 rfl) ?_
                          refine yn_iast hx hb hK hP hD hS 10 0 rfl rfl (j := d) (x := nI (xs.length + 1)) (f1 := upd oa d (nI (xs.length + 1))) (rfl) (by omega) (by omega) d_M_shape_170 (fun H locs hP hD hS => ?_)
                          have hP : va_P (gD G) vwC (wMR G h dg mp ml th n t pl pn xy pt sz rs ou wr sl q_135 fk fp va (upd oa d (nI (xs.length + 1))) oc ok (xs ++ [(nI k)] ++ [nI 0]) ys) H := hP
                          have hD : va_D A (wMR G h dg mp ml th n t pl pn xy pt sz rs ou wr sl q_135 fk fp va (upd oa d (nI (xs.length + 1))) oc ok (xs ++ [(nI k)] ++ [nI 0]) ys) := hD
                          refine lv_aload_n hx hb d_M_shape_171 rfl (lv_at hl 4 rfl) ?_
                          refine va_get (D := gD G) (ci := 5) (v := .ref (h 11)) (C := "WordShapesModel") (T := TM) (N := 24) hx hb hg iw_M hown hK hP 0 rfl rfl 22 (by decide) (hg _ tk_705) (fun _ h9 => h9) rfl d_M_shape_172 ?_
                          refine lv_iload_n hx hb d_M_shape_175 rfl (lv_at hl 5 rfl) ?_
                          refine lv_iconst (v := nI 0) hx hb d_M_shape_176 (by decide) ?_
                          refine yn_iast hx hb hK hP hD hS 11 0 rfl rfl (j := d) (x := nI 0) (f1 := upd oc d (nI 0)) (rfl) (by omega) (by omega) d_M_shape_177 (fun H locs hP hD hS => ?_)
                          have hP : va_P (gD G) vwC (wMR G h dg mp ml th n t pl pn xy pt sz rs ou wr sl q_135 fk fp va (upd oa d (nI (xs.length + 1))) (upd oc d (nI 0)) ok (xs ++ [(nI k)] ++ [nI 0]) ys) H := hP
                          have hD : va_D A (wMR G h dg mp ml th n t pl pn xy pt sz rs ou wr sl q_135 fk fp va (upd oa d (nI (xs.length + 1))) (upd oc d (nI 0)) ok (xs ++ [(nI k)] ++ [nI 0]) ys) := hD
                          refine lv_iload_n hx hb d_M_shape_178 rfl (lv_at hl 5 rfl) ?_
                          refine lv_iconst (v := nI 1) hx hb d_M_shape_179 (by decide) ?_
                          refine lv_iadd hx hb d_M_shape_180 ?_
                          refine y_eqi (nI_add _ _) ?_
                          exact yr_i (ws := wMR G h dg mp ml th n t pl pn xy pt sz rs ou wr sl q_135 fk fp va (upd oa d (nI (xs.length + 1))) (upd oc d (nI 0)) ok (xs ++ [(nI k)] ++ [nI 0]) ys) hx hb hrt hlocks (Or.inr (Or.inl ⟨_, _, _, hsh.trans (by unfold shB; rw [if_pos c90.1, hs_135]; dsimp only; rw [if_neg (by decide), if_pos c160]), rfl, rfl⟩)) rfl hK hP hD hS d_M_shape_181
                      · skip
                        exact absurd c143 (by decide)
                    · skip
                      rcases lk_v hs_135 with y | y | y <;> first | exact absurd y (by decide) | exact absurd y.2 (by decide)
                    · skip
                      have hP : va_P (gD G) vwC (wMR G h dg mp ml th n t pl pn xy pt sz rs ou wr sl q_135 a_135 b_135 va oa oc ok (xs ++ [(nI k)] ++ [nI 0]) ys) H := hP
                      have hD : va_D A (wMR G h dg mp ml th n t pl pn xy pt sz rs ou wr sl q_135 a_135 b_135 va oa oc ok (xs ++ [(nI k)] ++ [nI 0]) ys) := hD
                      refine W.eq (g2 := F0 mm 138 ls [.int (-1)]) rfl ?_
                      refine lv_istore (lv' := [(5, .int (-1)), (4, .int (nI (xs.length + 1))), (3, .int (nI k)), (2, .int (nI (rn blN t n p))), (0, .ref (h 0)), (1, .int (nI d))]) hx hb d_M_shape_138 hl (by decide) rfl (fun ls hl => ?_)
                      refine lv_iload hx hb d_M_shape_140 (lv_at hl 0 rfl) ?_
                      refine lv_iconst (v := nI 1) hx hb d_M_shape_142 (by decide) ?_
                      refine lv_icmp_ge (tgt := 157) hx hb d_M_shape_143 (by decide) (fun c143 => ?_) (fun c143 => ?_)
                      · skip
                        exact absurd c143 (by decide)
                      · skip
                        refine lv_iload hx hb d_M_shape_146 (lv_at hl 0 rfl) ?_
                        refine lv_if_ge (tgt := 155) hx hb d_M_shape_148 (by decide) (fun c148 => ?_) (fun c148 => ?_)
                        · skip
                          exact absurd c148 (by decide)
                        · skip
                          refine lv_iconst (v := (-1)) hx hb d_M_shape_151 (by decide) ?_
                          refine lv_goto (tgt := 156) hx hb d_M_shape_152 (by decide) ?_
                          exact yr_i (ws := wMR G h dg mp ml th n t pl pn xy pt sz rs ou wr sl q_135 a_135 b_135 va oa oc ok (xs ++ [(nI k)] ++ [nI 0]) ys) hx hb hrt hlocks (by first | exact Or.inl ⟨_, _, _, _, hsh.trans (by unfold shB; rw [if_pos c90.1, hs_135]; dsimp only; rw [if_pos rfl]), rfl, rfl⟩ | exact Or.inr (Or.inr ⟨_, _, _, _, _, _, hsh.trans (by unfold shB; rw [if_pos c90.1, hs_135]), rfl, rfl⟩) | exact Or.inr (Or.inr ⟨_, _, _, _, _, _, hsh.trans (by unfold shB; rw [if_neg (fun y => c90 ⟨y, by omega⟩)]), rfl, rfl⟩)) rfl hK hP hD hS d_M_shape_156
                  · skip
                    exact absurd c126 (by omega)
                · skip
                  exact absurd c108 (by omega)
              · skip
                refine lv_aload_n hx hb d_M_shape_93 rfl (lv_at hl 2 rfl) ?_
                refine lv_bipush (v := nI 7) hx hb d_M_shape_94 (by decide) ?_
                refine lv_aload_n hx hb d_M_shape_96 rfl (lv_at hl 2 rfl) ?_
                refine va_get (D := gD G) (ci := 5) (v := .int (nI (rn blN t n (rn leN t n (rn blN t n p))))) (C := "WordShapesModel") (T := TM) (N := 24) hx hb hg iw_M hown hK hP 0 rfl rfl 17 (by decide) (hg _ tk_700) (fun _ h9 => h9) rfl d_M_shape_97 ?_
                refine y_callW (y_runV (As := [.int (nI 7), .int (nI (rn blN t n (rn leN t n (rn blN t n p))))]) (rest := []) hx hb hml hown (c_M_wrong l G h dg mp ml th n t pl pn xy pt sz rs ou wr sl (rn blN t n (rn leN t n (rn blN t n p))) fk fp va oa oc ok xs ys 7 (rn blN t n (rn leN t n (rn blN t n p))) ) (gV (n := 2) hg tk_817 tk_819 (gt_s 37 (by decide +kernel) (by decide +kernel)) tk_7 tk_820 (by decide +kernel) ⟨Nat.le_of_ble_eq_true rfl, Nat.le_of_ble_eq_true rfl⟩) (va_recv hK hP (ci := 5) (q0 := 0) rfl rfl) (y_preW hE hK hP hD hS hA) rfl rfl hl.1 rfl (lv_room (Nat.le_of_ble_eq_true rfl)) d_M_shape_100 ⟨Nat.le_of_ble_eq_true rfl, Nat.le_of_ble_eq_true rfl⟩) hD hS hA (fun _ _ _ _ _ _ hp => False.elim hp) (fun v9 w9 H locs hp hlw hP hD hS => ?_)
                obtain ⟨rfl, rfl⟩ := hp
                have hP : va_P (gD G) vwC (wMR G h dg mp ml th n t pl pn xy pt sz rs ou wr sl (rn blN t n (rn leN t n (rn blN t n p))) 7 (rn blN t n (rn leN t n (rn blN t n p))) va oa oc ok xs ys) H := hP
                have hD : va_D A (wMR G h dg mp ml th n t pl pn xy pt sz rs ou wr sl (rn blN t n (rn leN t n (rn blN t n p))) 7 (rn blN t n (rn leN t n (rn blN t n p))) va oa oc ok xs ys) := hD
                refine W.eq (g2 := F0 mm 103 ls [.int (nI 0)]) rfl ?_
                refine lv_pop hx hb d_M_shape_103 rfl ?_
                refine lv_aload_n hx hb d_M_shape_104 rfl (lv_at hl 2 rfl) ?_
                refine va_get (D := gD G) (ci := 5) (v := .int (nI 7)) (C := "WordShapesModel") (T := TM) (N := 24) hx hb hg iw_M hown hK hP 0 rfl rfl 18 (by decide) (hg _ tk_701) (fun _ h9 => h9) rfl d_M_shape_105 ?_
                refine yn_if_le (a := 7) (tgt := 115) hx hb d_M_shape_108 (by decide) (by omega) (fun c108 => ?_) (fun c108 => ?_)
                · skip
                  exact absurd c108 (by decide)
                · skip
                  refine lv_iconst (v := nI 0) hx hb d_M_shape_111 (by decide) ?_
                  refine lv_goto (tgt := 120) hx hb d_M_shape_112 (by decide) ?_
                  refine lv_istore (lv' := [(4, .int (nI 0)), (3, .int (nI k)), (2, .int (nI (rn blN t n p))), (0, .ref (h 0)), (1, .int (nI d))]) hx hb d_M_shape_120 hl (by decide) rfl (fun ls hl => ?_)
                  refine lv_aload_n hx hb d_M_shape_122 rfl (lv_at hl 3 rfl) ?_
                  refine va_get (D := gD G) (ci := 5) (v := .int (nI 7)) (C := "WordShapesModel") (T := TM) (N := 24) hx hb hg iw_M hown hK hP 0 rfl rfl 18 (by decide) (hg _ tk_701) (fun _ h9 => h9) rfl d_M_shape_123 ?_
                  refine yn_if_le (a := 7) (tgt := 133) hx hb d_M_shape_126 (by decide) (by omega) (fun c126 => ?_) (fun c126 => ?_)
                  · skip
                    exact absurd c126 (by decide)
                  · skip
                    refine lv_iconst (v := (-1)) hx hb d_M_shape_129 (by decide) ?_
                    refine lv_goto (tgt := 138) hx hb d_M_shape_130 (by decide) ?_
                    refine lv_istore (lv' := [(5, .int (-1)), (4, .int (nI 0)), (3, .int (nI k)), (2, .int (nI (rn blN t n p))), (0, .ref (h 0)), (1, .int (nI d))]) hx hb d_M_shape_138 hl (by decide) rfl (fun ls hl => ?_)
                    refine lv_iload hx hb d_M_shape_140 (lv_at hl 0 rfl) ?_
                    refine lv_iconst (v := nI 1) hx hb d_M_shape_142 (by decide) ?_
                    refine lv_icmp_ge (tgt := 157) hx hb d_M_shape_143 (by decide) (fun c143 => ?_) (fun c143 => ?_)
                    · skip
                      exact absurd c143 (by decide)
                    · skip
                      refine lv_iload hx hb d_M_shape_146 (lv_at hl 0 rfl) ?_
                      refine lv_if_ge (tgt := 155) hx hb d_M_shape_148 (by decide) (fun c148 => ?_) (fun c148 => ?_)
                      · skip
                        exact absurd c148 (by decide)
                      · skip
                        refine lv_iconst (v := (-1)) hx hb d_M_shape_151 (by decide) ?_
                        refine lv_goto (tgt := 156) hx hb d_M_shape_152 (by decide) ?_
                        exact yr_i (ws := wMR G h dg mp ml th n t pl pn xy pt sz rs ou wr sl (rn blN t n (rn leN t n (rn blN t n p))) 7 (rn blN t n (rn leN t n (rn blN t n p))) va oa oc ok xs ys) hx hb hrt hlocks (by first | exact Or.inl ⟨_, _, _, _, hsh.trans (by unfold shB; rw [if_pos c90.1, hs_135]; dsimp only; rw [if_pos rfl]), rfl, rfl⟩ | exact Or.inr (Or.inr ⟨_, _, _, _, _, _, hsh.trans (by unfold shB; rw [if_pos c90.1, hs_135]), rfl, rfl⟩) | exact Or.inr (Or.inr ⟨_, _, _, _, _, _, hsh.trans (by unfold shB; rw [if_neg (fun y => c90 ⟨y, by omega⟩)]), rfl, rfl⟩)) rfl hK hP hD hS d_M_shape_156
            · skip
              exact absurd c75 (by omega)
          · skip
            refine lv_aload_n hx hb d_M_shape_63 rfl (lv_at hl 2 rfl) ?_
            refine lv_bipush (v := nI 6) hx hb d_M_shape_64 (by decide) ?_
            refine lv_iload_n hx hb d_M_shape_66 rfl (lv_at hl 1 rfl) ?_
            refine y_callW (y_runV (As := [.int (nI 6), .int (nI (rn blN t n p))]) (rest := []) hx hb hml hown (c_M_wrong l G h dg mp ml th n t pl pn xy pt sz rs ou wr sl (rn leN t n (rn blN t n p)) fk fp va oa oc ok xs ys 6 (rn blN t n p) ) (gV (n := 2) hg tk_817 tk_819 (gt_s 37 (by decide +kernel) (by decide +kernel)) tk_7 tk_820 (by decide +kernel) ⟨Nat.le_of_ble_eq_true rfl, Nat.le_of_ble_eq_true rfl⟩) (va_recv hK hP (ci := 5) (q0 := 0) rfl rfl) (y_preW hE hK hP hD hS hA) rfl rfl hl.1 rfl (lv_room (Nat.le_of_ble_eq_true rfl)) d_M_shape_67 ⟨Nat.le_of_ble_eq_true rfl, Nat.le_of_ble_eq_true rfl⟩) hD hS hA (fun _ _ _ _ _ _ hp => False.elim hp) (fun v9 w9 H locs hp hlw hP hD hS => ?_)
            obtain ⟨rfl, rfl⟩ := hp
            have hP : va_P (gD G) vwC (wMR G h dg mp ml th n t pl pn xy pt sz rs ou wr sl (rn leN t n (rn blN t n p)) 6 (rn blN t n p) va oa oc ok xs ys) H := hP
            have hD : va_D A (wMR G h dg mp ml th n t pl pn xy pt sz rs ou wr sl (rn leN t n (rn blN t n p)) 6 (rn blN t n p) va oa oc ok xs ys) := hD
            refine W.eq (g2 := F0 mm 70 ls [.int (nI 0)]) rfl ?_
            refine lv_pop hx hb d_M_shape_70 rfl ?_
            refine lv_aload_n hx hb d_M_shape_71 rfl (lv_at hl 2 rfl) ?_
            refine va_get (D := gD G) (ci := 5) (v := .int (nI 6)) (C := "WordShapesModel") (T := TM) (N := 24) hx hb hg iw_M hown hK hP 0 rfl rfl 18 (by decide) (hg _ tk_701) (fun _ h9 => h9) rfl d_M_shape_72 ?_
            refine yn_if_le (a := 6) (tgt := 80) hx hb d_M_shape_75 (by decide) (by omega) (fun c75 => ?_) (fun c75 => ?_)
            · skip
              exact absurd c75 (by decide)
            · skip
              refine lv_iconst (v := (-1)) hx hb d_M_shape_78 (by decide) ?_
              exact yr_i (ws := wMR G h dg mp ml th n t pl pn xy pt sz rs ou wr sl (rn leN t n (rn blN t n p)) 6 (rn blN t n p) va oa oc ok xs ys) hx hb hrt hlocks (Or.inr (Or.inr ⟨_, _, _, _, _, _, by unfold shM kdM; rw [hk, if_neg (by rw [c16]; decide)]; first | rw [if_pos (Or.inl c32)] | rw [if_pos (Or.inr c38)] | rw [if_neg (fun y => y.elim c32 c38), if_pos ⟨c54, c60⟩], rfl, rfl⟩)) rfl hK hP hD hS d_M_shape_79
      · skip
        refine lv_aload_n hx hb d_M_shape_41 rfl (lv_at hl 2 rfl) ?_
        refine lv_iconst (v := nI 2) hx hb d_M_shape_42 (by decide) ?_
        refine lv_iload_n hx hb d_M_shape_43 rfl (lv_at hl 1 rfl) ?_
        refine y_callW (y_runV (As := [.int (nI 2), .int (nI (rn blN t n p))]) (rest := []) hx hb hml hown (c_M_wrong l G h dg mp ml th n t pl pn xy pt sz rs ou wr sl (rn leN t n (rn blN t n p)) fk fp va oa oc ok xs ys 2 (rn blN t n p) ) (gV (n := 2) hg tk_817 tk_819 (gt_s 37 (by decide +kernel) (by decide +kernel)) tk_7 tk_820 (by decide +kernel) ⟨Nat.le_of_ble_eq_true rfl, Nat.le_of_ble_eq_true rfl⟩) (va_recv hK hP (ci := 5) (q0 := 0) rfl rfl) (y_preW hE hK hP hD hS hA) rfl rfl hl.1 rfl (lv_room (Nat.le_of_ble_eq_true rfl)) d_M_shape_44 ⟨Nat.le_of_ble_eq_true rfl, Nat.le_of_ble_eq_true rfl⟩) hD hS hA (fun _ _ _ _ _ _ hp => False.elim hp) (fun v9 w9 H locs hp hlw hP hD hS => ?_)
        obtain ⟨rfl, rfl⟩ := hp
        have hP : va_P (gD G) vwC (wMR G h dg mp ml th n t pl pn xy pt sz rs ou wr sl (rn leN t n (rn blN t n p)) 2 (rn blN t n p) va oa oc ok xs ys) H := hP
        have hD : va_D A (wMR G h dg mp ml th n t pl pn xy pt sz rs ou wr sl (rn leN t n (rn blN t n p)) 2 (rn blN t n p) va oa oc ok xs ys) := hD
        refine W.eq (g2 := F0 mm 47 ls [.int (nI 0)]) rfl ?_
        refine lv_pop hx hb d_M_shape_47 rfl ?_
        refine lv_goto (tgt := 71) hx hb d_M_shape_48 (by decide) ?_
        refine lv_aload_n hx hb d_M_shape_71 rfl (lv_at hl 2 rfl) ?_
        refine va_get (D := gD G) (ci := 5) (v := .int (nI 2)) (C := "WordShapesModel") (T := TM) (N := 24) hx hb hg iw_M hown hK hP 0 rfl rfl 18 (by decide) (hg _ tk_701) (fun _ h9 => h9) rfl d_M_shape_72 ?_
        refine yn_if_le (a := 2) (tgt := 80) hx hb d_M_shape_75 (by decide) (by omega) (fun c75 => ?_) (fun c75 => ?_)
        · skip
          exact absurd c75 (by decide)
        · skip
          refine lv_iconst (v := (-1)) hx hb d_M_shape_78 (by decide) ?_
          exact yr_i (ws := wMR G h dg mp ml th n t pl pn xy pt sz rs ou wr sl (rn leN t n (rn blN t n p)) 2 (rn blN t n p) va oa oc ok xs ys) hx hb hrt hlocks (Or.inr (Or.inr ⟨_, _, _, _, _, _, by unfold shM kdM; rw [hk, if_neg (by rw [c16]; decide)]; first | rw [if_pos (Or.inl c32)] | rw [if_pos (Or.inr c38)] | rw [if_neg (fun y => y.elim c32 c38), if_pos ⟨c54, c60⟩], rfl, rfl⟩)) rfl hK hP hD hS d_M_shape_79
  · skip
    rw [(ch_h _ (Nat.lt_succ_of_le (hr_le ht _ _))).2.1] at c16
    refine lv_aload_n hx hb d_M_shape_19 rfl (lv_at hl 1 rfl) ?_
    refine y_callW (y_runV (As := []) (rest := []) hx hb hml hown (c_M_unexpected l G h dg mp ml th n t pl pn xy pt sz rs ou wr sl (rn blN t n p) fk fp va oa oc ok xs ys  (by omega) (by omega) (ht)) (gV (n := 0) hg tk_804 tk_806 (gt_s 36 (by decide +kernel) (by decide +kernel)) tk_7 tk_807 (by decide +kernel) ⟨Nat.le_of_ble_eq_true rfl, Nat.le_of_ble_eq_true rfl⟩) (va_recv hK hP (ci := 5) (q0 := 0) rfl rfl) (y_preW hE hK hP hD hS hA) rfl rfl hl.1 rfl (lv_room (Nat.le_of_ble_eq_true rfl)) d_M_shape_20 ⟨Nat.le_of_ble_eq_true rfl, Nat.le_of_ble_eq_true rfl⟩) hD hS hA (fun _ _ _ _ _ _ hp => False.elim hp) (fun v9 w9 H locs hp hlw hP hD hS => ?_)
    obtain ⟨rfl, rfl⟩ := hp
    have hP : va_P (gD G) vwC (wMR G h dg mp ml th n t pl pn xy pt sz rs ou wr sl (rn blN t n p) (uxp (hr t n (rn blN t n p))) (rn blN t n p) va oa oc ok xs ys) H := hP
    have hD : va_D A (wMR G h dg mp ml th n t pl pn xy pt sz rs ou wr sl (rn blN t n p) (uxp (hr t n (rn blN t n p))) (rn blN t n p) va oa oc ok xs ys) := hD
    refine W.eq (g2 := F0 mm 23 ls [.int (nI 0)]) rfl ?_
    refine lv_pop hx hb d_M_shape_23 rfl ?_
    refine lv_iconst (v := (-1)) hx hb d_M_shape_24 (by decide) ?_
    exact yr_i (ws := wMR G h dg mp ml th n t pl pn xy pt sz rs ou wr sl (rn blN t n p) (uxp (hr t n (rn blN t n p))) (rn blN t n p) va oa oc ok xs ys) hx hb hrt hlocks (Or.inr (Or.inr ⟨_, _, _, _, _, _, by unfold shM kdM; rw [if_pos c16], rfl, rfl⟩)) rfl hK hP hD hS d_M_shape_25
