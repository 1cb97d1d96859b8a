set_option maxHeartbeats 4000000 in
set_option maxRecDepth 100000 in
theorem c_M_putNumber (l : Launch) (G : gl) (h : Nat → Nat) (dg : Nat) (mp : Nat) (ml : Nat) (th : Nat) (n : Nat) (t : Nat → Nat) (pl : Nat → Int32) (pn : Nat → Nat) (xy : Nat → Int32) (pt : Nat → Nat) (sz : Nat) (rs : Nat → Nat) (ou : Nat → Nat) (sl : Nat) (p : Nat) (fk : Nat) (fp : Nat) (va : Int32) (oa : Nat → Int32) (oc : Nat → Int32) (ok : Nat → Int32) (os : List Nat) (x : Int32) (hou : os.length + 30 < 2 ^ 30) (hdg : dg ≤ 3) (hxb : x.toInt.natAbs ≤ 1000000000) : YC l G y_M_putNumber k_M_putNumber 7 (Option.none : Option FieldType) 1 21 [.ref (h 0), .int x] (wMW G h dg mp ml th n t pl pn xy pt sz rs ou sl p fk fp va oa oc ok os) (fun v w => v = none ∧ w = wMW G h dg mp ml th n t pl pn xy pt sz rs ou sl p fk fp va oa oc ok (os ++ nmX dg x)) (fun _ _ => False) := by
  refine yc_of (by decide) ?_
  intro pg ev sx mm bl mt cd A C0 hP hD
  obtain ⟨hx, hb, hrt, hml, hown, hg, hlocks, hxt, hE, hK, hA, hmn⟩ := C0
  have hS : va_S A sx.heap sx.heap [] := va_S.rf
  have hl := lv_entry ([.ref (h 0), .int x]) (n := 7) (Nat.le_of_ble_eq_true rfl)
  rw [lg_entry_eq]
  generalize (lg_sl ([.ref (h 0), .int x]) ++ List.replicate (7 - (lg_sl ([.ref (h 0), .int x])).length) Slot.unset).toArray = ls at hl ⊢
  have hl : lv_has ls 7 [(0, .ref (h 0)), (1, .int x)] := hl
  obtain ⟨a, ea⟩ : ∃ a, x.toInt.natAbs = a := ⟨_, rfl⟩
  have hxa := abs_or hxb
  rw [ea] at hxb hxa
  have enm : nmX dg x = sgT x ++ nmL dg a := by unfold nmX; rw [ea]
  have hx0 : 0 ≤ x → x = nI a := fun y => by rcases hxa with z | ⟨z, z2⟩; exact z; exact absurd y (by rw [z]; exact neg_nle z2 (by omega))
  have hx1 : ¬ 0 ≤ x → x = -nI a := fun y => by rcases hxa with z | ⟨z, z2⟩; exact absurd (by rw [z]; exact nI_pos' (by omega)) y; exact z
  have hT : 1 ≤ 10 ^ dg ∧ 10 ^ dg ≤ 1000 := by rcases (show dg = 0 ∨ dg = 1 ∨ dg = 2 ∨ dg = 3 by omega) with y | y | y | y <;> rw [y] <;> decide
  have hW := Nat.div_le_self a (10 ^ dg)
  have hsg : (sgT x).length ≤ 1 := by unfold sgT; split <;> decide
  obtain ⟨H, hH⟩ : ∃ H, H = sx.heap := ⟨_, rfl⟩
  rw [← hH] at hP
  have hS : va_S A sx.heap H [] := by rw [hH]; exact hS
  suffices h9 : W pg l ev (yR 1 21) sx mm _ bl mt cd H [] 0 0 (yMQ bl G A _ _ _ _ sx) (F0 mm 0 ls []) by rw [hH] at h9; exact h9
  obtain ⟨locs, hlo⟩ : ∃ locs : List Loc, locs = [] := ⟨_, rfl⟩
  rw [← hlo] at hS ⊢
  have J120 : ∀ (n9 : Nat) (i : Nat) (os3 : List Nat) (hm9 : i < n9) (hi : i ≤ dg) (ho3 : os3 ++ frL a i = os ++ (sgT x ++ nmL dg a)) (hl3 : os3.length + i ≤ os.length + 20) (H : Heap) (locs : List Loc) (ls : Array Slot), va_P (gD G) vwC (wMW G h dg mp ml th n t pl pn xy pt sz rs ou sl p fk fp va oa oc ok os3) H → va_D A (wMW G h dg mp ml th n t pl pn xy pt sz rs ou sl p fk fp va oa oc ok os3) → va_S A sx.heap H locs → lv_has ls 7 [(0, .ref (h 0)), (5, .int (nI (a % 10 ^ i))), (6, .int (nI (pw i)))] → W pg l ev (yR 1 21) sx mm ([.ref (h 0), .int x] : List Value).toArray bl mt cd H locs 0 0 (yMQ bl G A (wMW G h dg mp ml th n t pl pn xy pt sz rs ou sl p fk fp va oa oc ok os).length (fun v w => v = none ∧ w = wMW G h dg mp ml th n t pl pn xy pt sz rs ou sl p fk fp va oa oc ok (os ++ nmX dg x)) (fun _ _ => False) ([.ref (h 0), .int x] : List Value).toArray sx) (F0 mm 120 ls []) := by
    intro n9
    induction n9 with
    | zero => intro i os3 hm9; exact absurd hm9 (Nat.not_lt_zero _)
    | succ n9 ih9 =>
      intro i os3 hm9 hi ho3 hl3 H locs ls hP hD hS hl
      have hpw := pw_le (show i ≤ 10 by omega)
      have hmi := Nat.mod_le a (10 ^ i)
      refine lv_iload hx hb d_M_putNumber_120 (lv_at hl 1 rfl) ?_
      refine yn_if_le (a := a % 10 ^ i) (tgt := 154) hx hb d_M_putNumber_122 (by decide) (by omega) (fun c122 => ?_) (fun c122 => ?_)
      · skip
        rw [fr_0 (by omega), List.append_nil] at ho3
        rw [ho3, ← enm] at hP hD
        have hP : va_P (gD G) vwC (wMW G h dg mp ml th n t pl pn xy pt sz rs ou sl p fk fp va oa oc ok (os ++ nmX dg x)) H := hP
        have hD : va_D A (wMW G h dg mp ml th n t pl pn xy pt sz rs ou sl p fk fp va oa oc ok (os ++ nmX dg x)) := hD
        exact yr_v (ws := wMW G h dg mp ml th n t pl pn xy pt sz rs ou sl p fk fp va oa oc ok (os ++ nmX dg x)) hx hb hrt hlocks (⟨rfl, rfl⟩) rfl hK hP hD hS d_M_putNumber_154
      · skip
        have hi0 : ¬ i = 0 := fun y => by rw [y, Nat.pow_zero, Nat.mod_one] at c122; omega
        obtain ⟨y, rfl⟩ : ∃ y, i = y + 1 := ⟨i - 1, by omega⟩
        rw [show pw (y + 1) = 10 ^ y from rfl] at hl
        have hpy := p10 y
        have hpw : 10 ^ y ≤ 1000000000 := hpw
        refine lv_aload_n hx hb d_M_putNumber_125 rfl (lv_at hl 0 rfl) ?_
        refine lv_bipush (v := nI 48) hx hb d_M_putNumber_126 (by decide) ?_
        refine lv_iload hx hb d_M_putNumber_128 (lv_at hl 1 rfl) ?_
        refine lv_iload hx hb d_M_putNumber_130 (lv_at hl 2 rfl) ?_
        refine lv_idiv hx hb d_M_putNumber_132 (fun z9 => by have := (eq0 (show 10 ^ y < 2 ^ 31 by omega)).mp z9; omega) ?_
        refine y_eqi (y := nI (a / 10 ^ y % 10)) ((pk_div (by omega) (by omega) (by omega)).trans (congrArg nI (fr_dig a y))) ?_
        refine lv_iadd hx hb d_M_putNumber_133 ?_
        refine y_eqi (nI_add _ _) ?_
        refine y_callW (y_runV (As := [.int (nI (48 + a / 10 ^ y % 10))]) (rest := []) hx hb hml hown (c_M_put l G h dg mp ml th n t pl pn xy pt sz rs ou sl p fk fp va oa oc ok os3 (48 + a / 10 ^ y % 10) (by omega)) (gV (n := 1) hg tk_907 tk_909 (gt_s 56 (by decide +kernel) (by decide +kernel)) tk_7 tk_910 (by decide +kernel) ⟨Nat.le_of_ble_eq_true rfl, Nat.le_of_ble_eq_true rfl⟩) (va_recv hK hP (ci := 5) (q0 := 0) rfl rfl) (y_preW hE hK hP hD hS hA) rfl rfl hl.1 rfl (lv_room (Nat.le_of_ble_eq_true rfl)) d_M_putNumber_134 ⟨Nat.le_of_ble_eq_true rfl, Nat.le_of_ble_eq_true rfl⟩) hD hS hA (fun _ _ _ _ _ _ hp => False.elim hp) (fun v9 w9 H locs hp hlw hP hD hS => ?_)
        obtain ⟨rfl, rfl⟩ := hp
        have hP : va_P (gD G) vwC (wMW G h dg mp ml th n t pl pn xy pt sz rs ou sl p fk fp va oa oc ok (os3 ++ [(48 + a / 10 ^ y % 10)])) H := hP
        have hD : va_D A (wMW G h dg mp ml th n t pl pn xy pt sz rs ou sl p fk fp va oa oc ok (os3 ++ [(48 + a / 10 ^ y % 10)])) := hD
        refine W.eq (g2 := F0 mm 137 ls []) rfl ?_
        refine lv_iload hx hb d_M_putNumber_137 (lv_at hl 1 rfl) ?_
        refine lv_iload hx hb d_M_putNumber_139 (lv_at hl 2 rfl) ?_
        refine lv_irem hx hb d_M_putNumber_141 (fun z9 => by have := (eq0 (show 10 ^ y < 2 ^ 31 by omega)).mp z9; omega) ?_
        refine y_eqi (y := nI (a % 10 ^ y)) ((pk_rem (by omega) (by omega) (by omega)).trans (congrArg nI (fr_mod a y))) ?_
        refine lv_istore (lv' := [(5, .int (nI (a % 10 ^ y))), (0, .ref (h 0)), (6, .int (nI (10 ^ y)))]) hx hb d_M_putNumber_142 hl (by decide) rfl (fun ls hl => ?_)
        refine lv_iload hx hb d_M_putNumber_144 (lv_at hl 2 rfl) ?_
        refine lv_bipush (v := nI 10) hx hb d_M_putNumber_146 (by decide) ?_
        refine lv_idiv hx hb d_M_putNumber_148 (by decide) ?_
        refine y_eqi (y := nI (pw y)) ((pk_div (by omega) (by decide) (by decide)).trans (congrArg nI (pw_10 y))) ?_
        refine lv_istore (lv' := [(6, .int (nI (pw y))), (5, .int (nI (a % 10 ^ y))), (0, .ref (h 0))]) hx hb d_M_putNumber_149 hl (by decide) rfl (fun ls hl => ?_)
        refine lv_goto (tgt := 120) hx hb d_M_putNumber_151 (by decide) ?_
        exact ih9 y (os3 ++ [(48 + a / 10 ^ y % 10)]) (by omega) (by omega) (by rw [← ho3]; show _ = os3 ++ (if a % 10 ^ (y + 1) = 0 then [] else [48 + a / 10 ^ y % 10] ++ frL a y); rw [if_neg (by omega), List.append_assoc]) (by first | omega | (rw [List.length_append, List.length_singleton]; omega)) _ _ _ hP hD hS (lv_sub hl [2, 1, 0] (rfl))
  have J57 : ∀ (n9 : Nat) (j : Nat) (os2 : List Nat) (hm9 : j < n9) (hj : j ≤ 10) (hU : dg ≤ nmA a dg 12 0) (ho : os2 ++ ndL a dg dg (dg + j) = os ++ sgT x ++ ndL a dg dg (nmA a dg 12 0)) (hl2 : os2.length + j ≤ os.length + 12) (H : Heap) (locs : List Loc) (ls : Array Slot), va_P (gD G) vwC (wMW G h dg mp ml th n t pl pn xy pt sz rs ou sl p fk fp va oa oc ok os2) H → va_D A (wMW G h dg mp ml th n t pl pn xy pt sz rs ou sl p fk fp va oa oc ok os2) → va_S A sx.heap H locs → lv_has ls 7 [(0, .ref (h 0)), (2, .int (nI a)), (3, .int (nI (a / 10 ^ dg))), (5, .int (nI (pw j)))] → W pg l ev (yR 1 21) sx mm ([.ref (h 0), .int x] : List Value).toArray bl mt cd H locs 0 0 (yMQ bl G A (wMW G h dg mp ml th n t pl pn xy pt sz rs ou sl p fk fp va oa oc ok os).length (fun v w => v = none ∧ w = wMW G h dg mp ml th n t pl pn xy pt sz rs ou sl p fk fp va oa oc ok (os ++ nmX dg x)) (fun _ _ => False) ([.ref (h 0), .int x] : List Value).toArray sx) (F0 mm 57 ls []) := by
    intro n9
    induction n9 with
    | zero => intro j os2 hm9; exact absurd hm9 (Nat.not_lt_zero _)
    | succ n9 ih9 =>
      intro j os2 hm9 hj hU ho hl2 H locs ls hP hD hS hl
      have hpw := pw_le hj
      refine lv_iload hx hb d_M_putNumber_57 (lv_at hl 3 rfl) ?_
      refine yn_if_le (a := pw j) (tgt := 86) hx hb d_M_putNumber_59 (by decide) (by omega) (fun c59 => ?_) (fun c59 => ?_)
      · skip
        have hj0 : j = 0 := by rcases Nat.eq_zero_or_pos j with y | y; exact y; exact absurd ((pw_0 j).mpr y) (by omega)
        rw [hj0, Nat.add_zero, ndL_stop (Nat.le_refl dg), List.append_nil] at ho
        have hmd := Nat.mod_le a (10 ^ dg)
        refine lv_iload_n hx hb d_M_putNumber_86 rfl (lv_at hl 1 rfl) ?_
        refine lv_aload_n hx hb d_M_putNumber_87 rfl (lv_at hl 0 rfl) ?_
        refine va_get (D := gD G) (ci := 5) (v := .int (nI dg)) (C := "WordShapesModel") (T := TM) (N := 24) hx hb hg iw_M hown hK hP 0 rfl rfl 3 (by decide) (hg _ tk_686) (fun _ h9 => h9) rfl d_M_putNumber_88 ?_
        refine y_call (y_runS (As := [.int (nI dg)]) (rest := [.int (nI a)]) hx hb hml hown (c_M_ten l G  dg (by omega)) (gS (n := 1) hg tk_923 tk_924 tk_7 tk_925 (by decide +kernel) ⟨Nat.le_of_ble_eq_true rfl, Nat.le_of_ble_eq_true rfl⟩) (y_pre hE hK hP hD hS hA [] rfl rfl) rfl rfl hl.1 rfl (lv_room (Nat.le_of_ble_eq_true rfl)) d_M_putNumber_91 ⟨Nat.le_of_ble_eq_true rfl, Nat.le_of_ble_eq_true rfl⟩) hP hD hS hA [] rfl (fun _ _ _ _ _ _ hp => False.elim hp) (fun v9 w9 H locs hp hlw hP hD hS => ?_)
        obtain ⟨rfl, rfl⟩ := hp
        have hP : va_P (gD G) vwC (wMW G h dg mp ml th n t pl pn xy pt sz rs ou sl p fk fp va oa oc ok os2) H := hP
        have hD : va_D A (wMW G h dg mp ml th n t pl pn xy pt sz rs ou sl p fk fp va oa oc ok os2) := hD
        refine W.eq (g2 := F0 mm 94 ls [.int (nI (10 ^ dg)), .int (nI a)]) rfl ?_
        refine lv_irem hx hb d_M_putNumber_94 (fun z9 => by have := (eq0 (show 10 ^ dg < 2 ^ 31 by omega)).mp z9; omega) ?_
        refine y_eqi (y := nI (a % 10 ^ dg)) (pk_rem (by omega) (by omega) (by omega)) ?_
        refine lv_istore (lv' := [(5, .int (nI (a % 10 ^ dg))), (0, .ref (h 0)), (2, .int (nI a)), (3, .int (nI (a / 10 ^ dg)))]) hx hb d_M_putNumber_95 hl (by decide) rfl (fun ls hl => ?_)
        refine lv_iload hx hb d_M_putNumber_97 (lv_at hl 0 rfl) ?_
        refine yn_if_le (a := a % 10 ^ dg) (tgt := 108) hx hb d_M_putNumber_99 (by decide) (by omega) (fun c99 => ?_) (fun c99 => ?_)
        · skip
          refine lv_aload_n hx hb d_M_putNumber_108 rfl (lv_at hl 1 rfl) ?_
          refine va_get (D := gD G) (ci := 5) (v := .int (nI dg)) (C := "WordShapesModel") (T := TM) (N := 24) hx hb hg iw_M hown hK hP 0 rfl rfl 3 (by decide) (hg _ tk_686) (fun _ h9 => h9) rfl d_M_putNumber_109 ?_
          refine y_call (y_runS (As := [.int (nI dg)]) (rest := []) hx hb hml hown (c_M_ten l G  dg (by omega)) (gS (n := 1) hg tk_923 tk_924 tk_7 tk_925 (by decide +kernel) ⟨Nat.le_of_ble_eq_true rfl, Nat.le_of_ble_eq_true rfl⟩) (y_pre hE hK hP hD hS hA [] rfl rfl) rfl rfl hl.1 rfl (lv_room (Nat.le_of_ble_eq_true rfl)) d_M_putNumber_112 ⟨Nat.le_of_ble_eq_true rfl, Nat.le_of_ble_eq_true rfl⟩) hP hD hS hA [] rfl (fun _ _ _ _ _ _ hp => False.elim hp) (fun v9 w9 H locs hp hlw hP hD hS => ?_)
          obtain ⟨rfl, rfl⟩ := hp
          have hP : va_P (gD G) vwC (wMW G h dg mp ml th n t pl pn xy pt sz rs ou sl p fk fp va oa oc ok os2) H := hP
          have hD : va_D A (wMW G h dg mp ml th n t pl pn xy pt sz rs ou sl p fk fp va oa oc ok os2) := hD
          refine W.eq (g2 := F0 mm 115 ls [.int (nI (10 ^ dg))]) rfl ?_
          refine lv_bipush (v := nI 10) hx hb d_M_putNumber_115 (by decide) ?_
          refine lv_idiv hx hb d_M_putNumber_117 (by decide) ?_
          refine y_eqi (y := nI (pw dg)) ((pk_div (by omega) (by decide) (by decide)).trans (congrArg nI (pw_10 dg))) ?_
          refine lv_istore (lv' := [(6, .int (nI (pw dg))), (5, .int (nI (a % 10 ^ dg))), (0, .ref (h 0)), (2, .int (nI a)), (3, .int (nI (a / 10 ^ dg)))]) hx hb d_M_putNumber_118 hl (by decide) rfl (fun ls hl => ?_)
          exact J120 _ dg os2 (Nat.lt_succ_self _) (by omega) (by rw [fr_0 (by omega), nm_eq hU, if_pos (by omega), ho]; simp only [List.append_assoc, List.append_nil]) (by first | omega | (rw [List.length_append, List.length_singleton]; omega)) _ _ _ hP hD hS (lv_sub hl [2, 1, 0] (rfl))
        · skip
          refine lv_aload_n hx hb d_M_putNumber_102 rfl (lv_at hl 1 rfl) ?_
          refine lv_bipush (v := nI 46) hx hb d_M_putNumber_103 (by decide) ?_
          refine y_callW (y_runV (As := [.int (nI 46)]) (rest := []) hx hb hml hown (c_M_put l G h dg mp ml th n t pl pn xy pt sz rs ou sl p fk fp va oa oc ok os2 46 (by omega)) (gV (n := 1) hg tk_907 tk_909 (gt_s 56 (by decide +kernel) (by decide +kernel)) tk_7 tk_910 (by decide +kernel) ⟨Nat.le_of_ble_eq_true rfl, Nat.le_of_ble_eq_true rfl⟩) (va_recv hK hP (ci := 5) (q0 := 0) rfl rfl) (y_preW hE hK hP hD hS hA) rfl rfl hl.1 rfl (lv_room (Nat.le_of_ble_eq_true rfl)) d_M_putNumber_105 ⟨Nat.le_of_ble_eq_true rfl, Nat.le_of_ble_eq_true rfl⟩) hD hS hA (fun _ _ _ _ _ _ hp => False.elim hp) (fun v9 w9 H locs hp hlw hP hD hS => ?_)
          obtain ⟨rfl, rfl⟩ := hp
          have hP : va_P (gD G) vwC (wMW G h dg mp ml th n t pl pn xy pt sz rs ou sl p fk fp va oa oc ok (os2 ++ [46])) H := hP
          have hD : va_D A (wMW G h dg mp ml th n t pl pn xy pt sz rs ou sl p fk fp va oa oc ok (os2 ++ [46])) := hD
          refine W.eq (g2 := F0 mm 108 ls []) rfl ?_
          refine lv_aload_n hx hb d_M_putNumber_108 rfl (lv_at hl 1 rfl) ?_
          refine va_get (D := gD G) (ci := 5) (v := .int (nI dg)) (C := "WordShapesModel") (T := TM) (N := 24) hx hb hg iw_M hown hK hP 0 rfl rfl 3 (by decide) (hg _ tk_686) (fun _ h9 => h9) rfl d_M_putNumber_109 ?_
          refine y_call (y_runS (As := [.int (nI dg)]) (rest := []) hx hb hml hown (c_M_ten l G  dg (by omega)) (gS (n := 1) hg tk_923 tk_924 tk_7 tk_925 (by decide +kernel) ⟨Nat.le_of_ble_eq_true rfl, Nat.le_of_ble_eq_true rfl⟩) (y_pre hE hK hP hD hS hA [] rfl rfl) rfl rfl hl.1 rfl (lv_room (Nat.le_of_ble_eq_true rfl)) d_M_putNumber_112 ⟨Nat.le_of_ble_eq_true rfl, Nat.le_of_ble_eq_true rfl⟩) hP hD hS hA [] rfl (fun _ _ _ _ _ _ hp => False.elim hp) (fun v9 w9 H locs hp hlw hP hD hS => ?_)
          obtain ⟨rfl, rfl⟩ := hp
          have hP : va_P (gD G) vwC (wMW G h dg mp ml th n t pl pn xy pt sz rs ou sl p fk fp va oa oc ok (os2 ++ [46])) H := hP
          have hD : va_D A (wMW G h dg mp ml th n t pl pn xy pt sz rs ou sl p fk fp va oa oc ok (os2 ++ [46])) := hD
          refine W.eq (g2 := F0 mm 115 ls [.int (nI (10 ^ dg))]) rfl ?_
          refine lv_bipush (v := nI 10) hx hb d_M_putNumber_115 (by decide) ?_
          refine lv_idiv hx hb d_M_putNumber_117 (by decide) ?_
          refine y_eqi (y := nI (pw dg)) ((pk_div (by omega) (by decide) (by decide)).trans (congrArg nI (pw_10 dg))) ?_
          refine lv_istore (lv' := [(6, .int (nI (pw dg))), (5, .int (nI (a % 10 ^ dg))), (0, .ref (h 0)), (2, .int (nI a)), (3, .int (nI (a / 10 ^ dg)))]) hx hb d_M_putNumber_118 hl (by decide) rfl (fun ls hl => ?_)
          exact J120 _ dg (os2 ++ [46]) (Nat.lt_succ_self _) (by omega) (by rw [nm_eq hU, if_neg (by omega), ho]; simp only [List.append_assoc]) (by first | omega | (rw [List.length_append, List.length_singleton]; omega)) _ _ _ hP hD hS (lv_sub hl [2, 1, 0] (rfl))
      · skip
        have hj0 : 0 < j := (pw_0 j).mp c59
        obtain ⟨i, rfl⟩ : ∃ i, j = i + 1 := ⟨j - 1, by omega⟩
        rw [show pw (i + 1) = 10 ^ i from rfl] at hl
        have hpi := p10 i
        have hpw : 10 ^ i ≤ 1000000000 := hpw
        have hWi := Nat.div_le_self (a / 10 ^ dg) (10 ^ i)
        refine lv_aload_n hx hb d_M_putNumber_62 rfl (lv_at hl 0 rfl) ?_
        refine lv_bipush (v := nI 48) hx hb d_M_putNumber_63 (by decide) ?_
        refine lv_iload_n hx hb d_M_putNumber_65 rfl (lv_at hl 2 rfl) ?_
        refine lv_iload hx hb d_M_putNumber_66 (lv_at hl 3 rfl) ?_
        refine lv_idiv hx hb d_M_putNumber_68 (fun z9 => by have := (eq0 (show 10 ^ i < 2 ^ 31 by omega)).mp z9; omega) ?_
        refine y_eqi (y := nI (a / 10 ^ dg / 10 ^ i)) (pk_div (by omega) (by omega) (by omega)) ?_
        refine lv_bipush (v := nI 10) hx hb d_M_putNumber_69 (by decide) ?_
        refine lv_irem hx hb d_M_putNumber_71 (by decide) ?_
        refine y_eqi (y := nI (a / 10 ^ dg / 10 ^ i % 10)) (pk_rem (by omega) (by decide) (by decide)) ?_
        refine lv_iadd hx hb d_M_putNumber_72 ?_
        refine y_eqi (nI_add _ _) ?_
        refine y_callW (y_runV (As := [.int (nI (48 + a / 10 ^ dg / 10 ^ i % 10))]) (rest := []) hx hb hml hown (c_M_put l G h dg mp ml th n t pl pn xy pt sz rs ou sl p fk fp va oa oc ok os2 (48 + a / 10 ^ dg / 10 ^ i % 10) (by omega)) (gV (n := 1) hg tk_907 tk_909 (gt_s 56 (by decide +kernel) (by decide +kernel)) tk_7 tk_910 (by decide +kernel) ⟨Nat.le_of_ble_eq_true rfl, Nat.le_of_ble_eq_true rfl⟩) (va_recv hK hP (ci := 5) (q0 := 0) rfl rfl) (y_preW hE hK hP hD hS hA) rfl rfl hl.1 rfl (lv_room (Nat.le_of_ble_eq_true rfl)) d_M_putNumber_73 ⟨Nat.le_of_ble_eq_true rfl, Nat.le_of_ble_eq_true rfl⟩) hD hS hA (fun _ _ _ _ _ _ hp => False.elim hp) (fun v9 w9 H locs hp hlw hP hD hS => ?_)
        obtain ⟨rfl, rfl⟩ := hp
        have hP : va_P (gD G) vwC (wMW G h dg mp ml th n t pl pn xy pt sz rs ou sl p fk fp va oa oc ok (os2 ++ [(48 + a / 10 ^ dg / 10 ^ i % 10)])) H := hP
        have hD : va_D A (wMW G h dg mp ml th n t pl pn xy pt sz rs ou sl p fk fp va oa oc ok (os2 ++ [(48 + a / 10 ^ dg / 10 ^ i % 10)])) := hD
        refine W.eq (g2 := F0 mm 76 ls []) rfl ?_
        refine lv_iload hx hb d_M_putNumber_76 (lv_at hl 3 rfl) ?_
        refine lv_bipush (v := nI 10) hx hb d_M_putNumber_78 (by decide) ?_
        refine lv_idiv hx hb d_M_putNumber_80 (by decide) ?_
        refine y_eqi (y := nI (pw i)) ((pk_div (by omega) (by decide) (by decide)).trans (congrArg nI (pw_10 i))) ?_
        refine lv_istore (lv' := [(5, .int (nI (pw i))), (0, .ref (h 0)), (2, .int (nI a)), (3, .int (nI (a / 10 ^ dg)))]) hx hb d_M_putNumber_81 hl (by decide) rfl (fun ls hl => ?_)
        refine lv_goto (tgt := 57) hx hb d_M_putNumber_83 (by decide) ?_
        exact ih9 i (os2 ++ [(48 + a / 10 ^ dg / 10 ^ i % 10)]) (by omega) (by omega) (hU) (by rw [← ho, show dg + (i + 1) = (dg + i) + 1 from rfl, ndL_go (by omega), if_neg (by omega), wh_dig]; simp only [List.append_assoc, List.nil_append]) (by rw [List.length_append, List.length_singleton]; omega) _ _ _ hP hD hS (lv_sub hl [1, 2, 3, 0] (rfl))
  have J34 : ∀ (n9 : Nat) (e : Nat) (hm9 : 10 - e < n9) (he : dg + e ≤ 9) (hn : nmA a dg 12 0 = nmA a dg (12 - (dg + e + 1)) (dg + e + 1)) (H : Heap) (locs : List Loc) (ls : Array Slot), va_P (gD G) vwC (wMW G h dg mp ml th n t pl pn xy pt sz rs ou sl p fk fp va oa oc ok (os ++ sgT x)) H → va_D A (wMW G h dg mp ml th n t pl pn xy pt sz rs ou sl p fk fp va oa oc ok (os ++ sgT x)) → va_S A sx.heap H locs → lv_has ls 7 [(0, .ref (h 0)), (2, .int (nI a)), (3, .int (nI (a / 10 ^ dg))), (4, .int (nI (10 ^ e)))] → W pg l ev (yR 1 21) sx mm ([.ref (h 0), .int x] : List Value).toArray bl mt cd H locs 0 0 (yMQ bl G A (wMW G h dg mp ml th n t pl pn xy pt sz rs ou sl p fk fp va oa oc ok os).length (fun v w => v = none ∧ w = wMW G h dg mp ml th n t pl pn xy pt sz rs ou sl p fk fp va oa oc ok (os ++ nmX dg x)) (fun _ _ => False) ([.ref (h 0), .int x] : List Value).toArray sx) (F0 mm 34 ls []) := by
    intro n9
    induction n9 with
    | zero => intro e hm9; exact absurd hm9 (Nat.not_lt_zero _)
    | succ n9 ih9 =>
      intro e hm9 he hn H locs ls hP hD hS hl
      have hE : 1 ≤ 10 ^ e ∧ 10 ^ e ≤ 1000000000 := ⟨p10 e, Nat.le_trans (Nat.pow_le_pow_right (n := 10) (by decide) (show e ≤ 9 by omega)) (by decide)⟩
      have hWe := Nat.div_le_self (a / 10 ^ dg) (10 ^ e)
      refine lv_iload_n hx hb d_M_putNumber_34 rfl (lv_at hl 2 rfl) ?_
      refine lv_iload hx hb d_M_putNumber_35 (lv_at hl 3 rfl) ?_
      refine lv_idiv hx hb d_M_putNumber_37 (fun z9 => by have := (eq0 (show 10 ^ e < 2 ^ 31 by omega)).mp z9; omega) ?_
      refine y_eqi (y := nI (a / 10 ^ dg / 10 ^ e)) (pk_div (by omega) (by omega) (by omega)) ?_
      refine lv_bipush (v := nI 9) hx hb d_M_putNumber_38 (by decide) ?_
      refine yn_icmp_le (a := a / 10 ^ dg / 10 ^ e) (b := 9) (tgt := 53) hx hb d_M_putNumber_40 (by decide) (by omega) (by omega) (fun c40 => ?_) (fun c40 => ?_)
      · skip
        have eU : nmA a dg 12 0 = dg + e + 1 := hn.trans (nmA_d (by omega) (fun y => by rcases y with y | y; omega; exact nm_no c40 y))
        refine lv_iload hx hb d_M_putNumber_53 (lv_at hl 3 rfl) ?_
        refine lv_istore (lv' := [(5, .int (nI (10 ^ e))), (0, .ref (h 0)), (2, .int (nI a)), (3, .int (nI (a / 10 ^ dg))), (4, .int (nI (10 ^ e)))]) hx hb d_M_putNumber_55 hl (by decide) rfl (fun ls hl => ?_)
        exact J57 _ (e + 1) (os ++ sgT x) (Nat.lt_succ_self _) (by omega) (by omega) (by rw [eU]; rfl) (by rw [List.length_append]; omega) _ _ _ hP hD hS (lv_sub hl [1, 2, 3, 0] (rfl))
      · skip
        refine lv_iload hx hb d_M_putNumber_43 (lv_at hl 3 rfl) ?_
        refine lv_bipush (v := nI 10) hx hb d_M_putNumber_45 (by decide) ?_
        refine lv_imul hx hb d_M_putNumber_47 ?_
        refine y_eqi (pk_mul _ _) ?_
        refine lv_istore (lv' := [(4, .int (nI ((10 ^ e) * 10))), (0, .ref (h 0)), (2, .int (nI a)), (3, .int (nI (a / 10 ^ dg)))]) hx hb d_M_putNumber_48 hl (by decide) rfl (fun ls hl => ?_)
        refine lv_goto (tgt := 34) hx hb d_M_putNumber_50 (by decide) ?_
        exact ih9 (e + 1) (by omega) (by rcases Nat.lt_or_ge (dg + e) 9 with y | y; omega; (have c9 := c40; rw [wh_dig, show dg + e = 9 by omega] at c9; omega)) (hn.trans (nmA_s (by omega) (Or.inr (nm_up c40)))) _ _ _ hP hD hS (lv_sub hl [1, 2, 3, 0] (rfl))
  have J21 : ∀   (H : Heap) (locs : List Loc) (ls : Array Slot), va_P (gD G) vwC (wMW G h dg mp ml th n t pl pn xy pt sz rs ou sl p fk fp va oa oc ok (os ++ sgT x)) H → va_D A (wMW G h dg mp ml th n t pl pn xy pt sz rs ou sl p fk fp va oa oc ok (os ++ sgT x)) → va_S A sx.heap H locs → lv_has ls 7 [(0, .ref (h 0)), (2, .int (nI a))] → W pg l ev (yR 1 21) sx mm ([.ref (h 0), .int x] : List Value).toArray bl mt cd H locs 0 0 (yMQ bl G A (wMW G h dg mp ml th n t pl pn xy pt sz rs ou sl p fk fp va oa oc ok os).length (fun v w => v = none ∧ w = wMW G h dg mp ml th n t pl pn xy pt sz rs ou sl p fk fp va oa oc ok (os ++ nmX dg x)) (fun _ _ => False) ([.ref (h 0), .int x] : List Value).toArray sx) (F0 mm 21 ls []) := by
    intro   H locs ls hP hD hS hl
    refine lv_iload_n hx hb d_M_putNumber_21 rfl (lv_at hl 1 rfl) ?_
    refine lv_aload_n hx hb d_M_putNumber_22 rfl (lv_at hl 0 rfl) ?_
    refine va_get (D := gD G) (ci := 5) (v := .int (nI dg)) (C := "WordShapesModel") (T := TM) (N := 24) hx hb hg iw_M hown hK hP 0 rfl rfl 3 (by decide) (hg _ tk_686) (fun _ h9 => h9) rfl d_M_putNumber_23 ?_
    refine y_call (y_runS (As := [.int (nI dg)]) (rest := [.int (nI a)]) hx hb hml hown (c_M_ten l G  dg (by omega)) (gS (n := 1) hg tk_923 tk_924 tk_7 tk_925 (by decide +kernel) ⟨Nat.le_of_ble_eq_true rfl, Nat.le_of_ble_eq_true rfl⟩) (y_pre hE hK hP hD hS hA [] rfl rfl) rfl rfl hl.1 rfl (lv_room (Nat.le_of_ble_eq_true rfl)) d_M_putNumber_26 ⟨Nat.le_of_ble_eq_true rfl, Nat.le_of_ble_eq_true rfl⟩) hP hD hS hA [] rfl (fun _ _ _ _ _ _ hp => False.elim hp) (fun v9 w9 H locs hp hlw hP hD hS => ?_)
    obtain ⟨rfl, rfl⟩ := hp
    have hP : va_P (gD G) vwC (wMW G h dg mp ml th n t pl pn xy pt sz rs ou sl p fk fp va oa oc ok (os ++ sgT x)) H := hP
    have hD : va_D A (wMW G h dg mp ml th n t pl pn xy pt sz rs ou sl p fk fp va oa oc ok (os ++ sgT x)) := hD
    refine W.eq (g2 := F0 mm 29 ls [.int (nI (10 ^ dg)), .int (nI a)]) rfl ?_
    refine lv_idiv hx hb d_M_putNumber_29 (fun z9 => by have := (eq0 (show 10 ^ dg < 2 ^ 31 by omega)).mp z9; omega) ?_
    refine y_eqi (y := nI (a / 10 ^ dg)) (pk_div (by omega) (by omega) (by omega)) ?_
    refine lv_istore_n (lv' := [(3, .int (nI (a / 10 ^ dg))), (0, .ref (h 0)), (2, .int (nI a))]) hx hb d_M_putNumber_30 rfl hl (by decide) rfl (fun ls hl => ?_)
    refine lv_iconst (v := nI 1) hx hb d_M_putNumber_31 (by decide) ?_
    refine lv_istore (lv' := [(4, .int (nI 1)), (3, .int (nI (a / 10 ^ dg))), (0, .ref (h 0)), (2, .int (nI a))]) hx hb d_M_putNumber_32 hl (by decide) rfl (fun ls hl => ?_)
    exact J34 _ 0 (Nat.lt_succ_self _) (by omega) (nmA_dg hdg) _ _ _ hP hD hS (lv_sub hl [2, 3, 1, 0] (rfl))
  have J11 : ∀   (H : Heap) (locs : List Loc) (ls : Array Slot), va_P (gD G) vwC (wMW G h dg mp ml th n t pl pn xy pt sz rs ou sl p fk fp va oa oc ok os) H → va_D A (wMW G h dg mp ml th n t pl pn xy pt sz rs ou sl p fk fp va oa oc ok os) → va_S A sx.heap H locs → lv_has ls 7 [(0, .ref (h 0)), (1, .int x), (2, .int (nI a))] → W pg l ev (yR 1 21) sx mm ([.ref (h 0), .int x] : List Value).toArray bl mt cd H locs 0 0 (yMQ bl G A (wMW G h dg mp ml th n t pl pn xy pt sz rs ou sl p fk fp va oa oc ok os).length (fun v w => v = none ∧ w = wMW G h dg mp ml th n t pl pn xy pt sz rs ou sl p fk fp va oa oc ok (os ++ nmX dg x)) (fun _ _ => False) ([.ref (h 0), .int x] : List Value).toArray sx) (F0 mm 11 ls []) := by
    intro   H locs ls hP hD hS hl
    refine lv_iload_n hx hb d_M_putNumber_11 rfl (lv_at hl 1 rfl) ?_
    refine lv_if_ge (tgt := 21) hx hb d_M_putNumber_12 (by decide) (fun c12 => ?_) (fun c12 => ?_)
    · skip
      have e1 : sgT x = [] := if_neg (Int32.not_lt.mpr c12)
      rw [← List.append_nil os, ← e1] at hP hD
      have hP : va_P (gD G) vwC (wMW G h dg mp ml th n t pl pn xy pt sz rs ou sl p fk fp va oa oc ok (os ++ sgT x)) H := hP
      have hD : va_D A (wMW G h dg mp ml th n t pl pn xy pt sz rs ou sl p fk fp va oa oc ok (os ++ sgT x)) := hD
      exact J21   _ _ _ hP hD hS (lv_sub hl [0, 2] (rfl))
    · skip
      have e1 : sgT x = [45] := if_pos (Int32.not_le.mp c12)
      refine lv_aload_n hx hb d_M_putNumber_15 rfl (lv_at hl 0 rfl) ?_
      refine lv_bipush (v := nI 45) hx hb d_M_putNumber_16 (by decide) ?_
      refine y_callW (y_runV (As := [.int (nI 45)]) (rest := []) hx hb hml hown (c_M_put l G h dg mp ml th n t pl pn xy pt sz rs ou sl p fk fp va oa oc ok os 45 (by omega)) (gV (n := 1) hg tk_907 tk_909 (gt_s 56 (by decide +kernel) (by decide +kernel)) tk_7 tk_910 (by decide +kernel) ⟨Nat.le_of_ble_eq_true rfl, Nat.le_of_ble_eq_true rfl⟩) (va_recv hK hP (ci := 5) (q0 := 0) rfl rfl) (y_preW hE hK hP hD hS hA) rfl rfl hl.1 rfl (lv_room (Nat.le_of_ble_eq_true rfl)) d_M_putNumber_18 ⟨Nat.le_of_ble_eq_true rfl, Nat.le_of_ble_eq_true rfl⟩) hD hS hA (fun _ _ _ _ _ _ hp => False.elim hp) (fun v9 w9 H locs hp hlw hP hD hS => ?_)
      obtain ⟨rfl, rfl⟩ := hp
      have hP : va_P (gD G) vwC (wMW G h dg mp ml th n t pl pn xy pt sz rs ou sl p fk fp va oa oc ok (os ++ [45])) H := hP
      have hD : va_D A (wMW G h dg mp ml th n t pl pn xy pt sz rs ou sl p fk fp va oa oc ok (os ++ [45])) := hD
      refine W.eq (g2 := F0 mm 21 ls []) rfl ?_
      rw [← e1] at hP hD
      have hP : va_P (gD G) vwC (wMW G h dg mp ml th n t pl pn xy pt sz rs ou sl p fk fp va oa oc ok (os ++ sgT x)) H := hP
      have hD : va_D A (wMW G h dg mp ml th n t pl pn xy pt sz rs ou sl p fk fp va oa oc ok (os ++ sgT x)) := hD
      exact J21   _ _ _ hP hD hS (lv_sub hl [0, 2] (rfl))
  refine lv_iload_n hx hb d_M_putNumber_0 rfl (lv_at hl 1 rfl) ?_
  refine lv_if_ge (tgt := 9) hx hb d_M_putNumber_1 (by decide) (fun c1 => ?_) (fun c1 => ?_)
  · skip
    refine lv_iload_n hx hb d_M_putNumber_9 rfl (lv_at hl 1 rfl) ?_
    refine y_eqi (y := nI a) (hx0 c1) ?_
    refine lv_istore_n (lv' := [(2, .int (nI a)), (0, .ref (h 0)), (1, .int x)]) hx hb d_M_putNumber_10 rfl hl (by decide) rfl (fun ls hl => ?_)
    exact J11   _ _ _ hP hD hS (lv_sub hl [1, 2, 0] (rfl))
  · skip
    refine lv_iload_n hx hb d_M_putNumber_4 rfl (lv_at hl 1 rfl) ?_
    refine lv_ineg hx hb d_M_putNumber_5 ?_
    refine y_eqi (y := nI a) (by rw [hx1 c1]; exact Int32.neg_neg) ?_
    refine lv_goto (tgt := 10) hx hb d_M_putNumber_6 (by decide) ?_
    refine lv_istore_n (lv' := [(2, .int (nI a)), (0, .ref (h 0)), (1, .int x)]) hx hb d_M_putNumber_10 rfl hl (by decide) rfl (fun ls hl => ?_)
    exact J11   _ _ _ hP hD hS (lv_sub hl [1, 2, 0] (rfl))
