/-! the reference's tape -/
theorem shr_byt (x s : Int32) (k : Nat) (hk : k = 24 ∨ k = 16 ∨ k = 8 ∨ k = 0) (hs : (s.toBitVec.smod 32).toNat = k) : (x >>> s) &&& nI 255 = nI (byt x k) := by
  rw [pk_and _ 8 (by decide)]
  apply congrArg nI
  unfold byt
  have h1 := pk_shr x s k hs
  have h2 : (x >>> s).toInt = if 2 * (x >>> s).toBitVec.toNat < 2 ^ 32 then ((x >>> s).toBitVec.toNat : Int) else ((x >>> s).toBitVec.toNat : Int) - (2 ^ 32 : Nat) := BitVec.toInt_eq_toNat_cond _
  have h3 : x.toInt = if 2 * x.toBitVec.toNat < 2 ^ 32 then (x.toBitVec.toNat : Int) else (x.toBitVec.toNat : Int) - (2 ^ 32 : Nat) := BitVec.toInt_eq_toNat_cond _
  have b1 := (x >>> s).toBitVec.isLt
  have b2 := x.toBitVec.isLt
  rw [Int.shiftRight_eq_div_pow] at h1
  generalize (x >>> s).toBitVec.toNat = N at *
  generalize x.toBitVec.toNat = Y at *
  generalize (x >>> s).toInt = i1 at *
  generalize x.toInt = i2 at *
  rcases hk with rfl | rfl | rfl | rfl <;> split at h2 <;> split at h3 <;> omega
theorem shr_b (x : Int32) (j : Nat) (hj : j = 24 ∨ j = 16 ∨ j = 8 ∨ j = 0) : (x >>> (nI j &&& 31)) &&& nI 255 = nI (byt x j) := by
  rcases hj with rfl | rfl | rfl | rfl <;> exact shr_byt x _ _ (by decide) (by decide)
def wd5 (a b c d e : Int32) (k : Nat) : Int32 := if k < 4 then a else if k < 8 then b else if k < 12 then c else if k < 16 then d else e
/-- so many bytes of the five -/
def fdk (t : Nat → Nat) (n : Nat) (a b c d e : Int32) : Nat → Nat → Nat
  | 0 => t
  | k + 1 => va_up (fdk t n a b c d e k) (n + k) (byt (wd5 a b c d e k) (24 - 8 * (k % 4)))
theorem fdk_20 (t : Nat → Nat) (n : Nat) (a b c d e : Int32) : fdk t n a b c d e 20 = fd4 (fd4 (fd4 (fd4 (fd4 t n a) (n + 4) b) (n + 8) c) (n + 12) d) (n + 16) e := rfl
theorem byt_lt (x : Int32) (s : Nat) : byt x s < 256 := Nat.mod_lt _ (by decide)
theorem fdk_lt {t : Nat → Nat} {n : Nat} {a b c d e : Int32} (ht : ∀ i, t i < 256) : ∀ k i, fdk t n a b c d e k i < 256
  | 0, i => ht i
  | k + 1, i => by
    show va_up _ _ _ i < 256
    unfold va_up
    split
    · exact byt_lt _ _
    · exact fdk_lt ht k i
theorem wi_n {x : Int32} {m : Nat} (hm : m < 2 ^ 31) (h : nI 0 ≤ x ∧ x ≤ nI m) : ∃ j, j ≤ m ∧ x = nI j := by
  have h1 := Int32.le_iff_toInt_le.mp h.1
  have h2 := Int32.le_iff_toInt_le.mp h.2
  rw [nI_toInt (by decide)] at h1
  rw [nI_toInt hm] at h2
  refine ⟨x.toInt.toNat, by omega, Int32.toInt_inj.mp ?_⟩
  rw [nI_toInt (by omega)]
  omega
theorem wi_f {j m : Nat} (hm : m < 2 ^ 31) (h : j ≤ m) : nI 0 ≤ nI j ∧ nI j ≤ nI m := ⟨nI_le (Nat.zero_le _) (by omega), nI_le h hm⟩
theorem wi_m {x : Int32} {c : Nat} (hc : c < 2 ^ 30) (h : nI 0 ≤ x ∧ x ≤ nI c - nI 1) : ∃ j, j < c ∧ x = nI j := by
  have h1 := Int32.le_iff_toInt_le.mp h.1
  have h2 := Int32.le_iff_toInt_le.mp h.2
  rw [nI_toInt (by decide)] at h1
  rw [pk_sub_toInt hc (by decide)] at h2
  refine ⟨x.toInt.toNat, by omega, Int32.toInt_inj.mp ?_⟩
  rw [nI_toInt (by omega)]
  omega
theorem wi_g {j c : Nat} (hc : c < 2 ^ 30) (h : j < c) : nI 0 ≤ nI j ∧ nI j ≤ nI c - nI 1 := by
  refine ⟨nI_le (Nat.zero_le _) (by omega), Int32.le_iff_toInt_le.mpr ?_⟩
  rw [pk_sub_toInt hc (by decide), nI_toInt (by omega)]
  omega
theorem cpT_s (f g : Nat → Nat) (m : Nat) : va_up (cpT f g m) m (f m) = cpT f g (m + 1) := by
  funext i
  unfold va_up cpT
  by_cases h : i = m
  · subst h
    rw [if_pos rfl, if_pos (by omega)]
  · rw [if_neg h]
    by_cases h2 : i < m
    · rw [if_pos h2, if_pos (by omega)]
    · rw [if_neg h2, if_neg (by omega)]
theorem cpT_0 (f g : Nat → Nat) : cpT f g 0 = g := by
  funext i; exact if_neg (Nat.not_lt_zero _)

set_option maxHeartbeats 4000000 in
set_option maxRecDepth 100000 in
theorem c_M_fail (l : Launch) (G : gl) (h : Nat → Nat) (dg : Nat) (mp : Nat) (ml : Nat) (th : Nat) (n : Nat) (t : Nat → Nat) (pl : Nat → Int32) (pn : Nat → Nat) (xy : Nat → Int32) (pt : Nat → Nat) (sz : Nat) (rs : Nat → Nat) (ou : Nat → Nat) (wr : Nat) (sl : Nat) (p : Nat) (fk : Nat) (fp : Nat) (va : Int32) (oa : Nat → Int32) (oc : Nat → Int32) (ok : Nat → Int32) (c : Nat)  : YC l G y_M_fail k_M_fail 2 (Option.some FieldType.int) 0 0 [.ref (h 0), .int (nI c)] (wM G h dg mp ml th n t pl pn xy pt sz rs ou wr sl p fk fp va oa oc ok) (fun v w => v = some (.int (nI 0)) ∧ w = wM G h dg mp ml c n t pl pn xy pt sz rs ou wr sl p fk fp va oa oc ok) (fun _ _ => False) := by
  refine yc_of (by decide) ?_
  intro pg ev sx mm bl mt cd A C0 hP hD
  obtain ⟨hx, hb, hrt, hml, hown, hg, hlocks, hxt, hE, hK, hA, hmn⟩ := C0
  have hS : va_S A sx.heap sx.heap [] := va_S.rf
  have hl := lv_entry ([.ref (h 0), .int (nI c)]) (n := 2) (Nat.le_of_ble_eq_true rfl)
  rw [lg_entry_eq]
  generalize (lg_sl ([.ref (h 0), .int (nI c)]) ++ List.replicate (2 - (lg_sl ([.ref (h 0), .int (nI c)])).length) Slot.unset).toArray = ls at hl ⊢
  have hl : lv_has ls 2 [(0, .ref (h 0)), (1, .int (nI c))] := hl
  obtain ⟨H, hH⟩ : ∃ H, H = sx.heap := ⟨_, rfl⟩
  rw [← hH] at hP
  have hS : va_S A sx.heap H [] := by rw [hH]; exact hS
  suffices h9 : W pg l ev (yR 0 0) sx mm _ bl mt cd H [] 0 0 (yMQ bl G A _ _ _ _ sx) (F0 mm 0 ls []) by rw [hH] at h9; exact h9
  obtain ⟨locs, hlo⟩ : ∃ locs : List Loc, locs = [] := ⟨_, rfl⟩
  rw [← hlo] at hS ⊢
  refine lv_aload_n hx hb d_M_fail_0 rfl (lv_at hl 0 rfl) ?_
  refine lv_iload_n hx hb d_M_fail_1 rfl (lv_at hl 1 rfl) ?_
  refine va_put (D := gD G) (ci := 5) (v := .int (nI c)) (ty := .int) (C := "WordShapesModel") (T := TM) (N := 24) hx hb hg iw_M ft_M fo_M nm_M hown hK hP hD hS 0 rfl rfl 2 (by decide) (hg _ tk_685) (fun _ h9 => h9) rfl (by decide +kernel) (rfl) (rfl) (Nat.le_of_ble_eq_true rfl) d_M_fail_2 (fun H locs hP hD hS => ?_)
  have hP : va_P (gD G) vwC (wM G h dg mp ml c n t pl pn xy pt sz rs ou wr sl p fk fp va oa oc ok) H := hP
  have hD : va_D A (wM G h dg mp ml c n t pl pn xy pt sz rs ou wr sl p fk fp va oa oc ok) := hD
  refine lv_iconst (v := nI 0) hx hb d_M_fail_5 (by decide) ?_
  exact yr_i (ws := wM G h dg mp ml c n t pl pn xy pt sz rs ou wr sl p fk fp va oa oc ok) hx hb hrt hlocks (⟨rfl, rfl⟩) rfl hK hP hD hS d_M_fail_6
set_option maxHeartbeats 4000000 in
set_option maxRecDepth 100000 in
theorem c_M_thrown (l : Launch) (G : gl) (h : Nat → Nat) (dg : Nat) (mp : Nat) (ml : Nat) (th : Nat) (n : Nat) (t : Nat → Nat) (pl : Nat → Int32) (pn : Nat → Nat) (xy : Nat → Int32) (pt : Nat → Nat) (sz : Nat) (rs : Nat → Nat) (ou : Nat → Nat) (wr : Nat) (sl : Nat) (p : Nat) (fk : Nat) (fp : Nat) (va : Int32) (oa : Nat → Int32) (oc : Nat → Int32) (ok : Nat → Int32)   : YC l G y_M_thrown k_M_thrown 1 (Option.some FieldType.int) 0 0 [.ref (h 0)] (wM G h dg mp ml th n t pl pn xy pt sz rs ou wr sl p fk fp va oa oc ok) (fun v w => v = some (.int (nI th)) ∧ w = wM G h dg mp ml th n t pl pn xy pt sz rs ou wr sl p fk fp va oa oc ok) (fun _ _ => False) := by
  refine yc_of (by decide) ?_
  intro pg ev sx mm bl mt cd A C0 hP hD
  obtain ⟨hx, hb, hrt, hml, hown, hg, hlocks, hxt, hE, hK, hA, hmn⟩ := C0
  have hS : va_S A sx.heap sx.heap [] := va_S.rf
  have hl := lv_entry ([.ref (h 0)]) (n := 1) (Nat.le_of_ble_eq_true rfl)
  rw [lg_entry_eq]
  generalize (lg_sl ([.ref (h 0)]) ++ List.replicate (1 - (lg_sl ([.ref (h 0)])).length) Slot.unset).toArray = ls at hl ⊢
  have hl : lv_has ls 1 [(0, .ref (h 0))] := hl
  obtain ⟨H, hH⟩ : ∃ H, H = sx.heap := ⟨_, rfl⟩
  rw [← hH] at hP
  have hS : va_S A sx.heap H [] := by rw [hH]; exact hS
  suffices h9 : W pg l ev (yR 0 0) sx mm _ bl mt cd H [] 0 0 (yMQ bl G A _ _ _ _ sx) (F0 mm 0 ls []) by rw [hH] at h9; exact h9
  obtain ⟨locs, hlo⟩ : ∃ locs : List Loc, locs = [] := ⟨_, rfl⟩
  rw [← hlo] at hS ⊢
  refine lv_aload_n hx hb d_M_thrown_0 rfl (lv_at hl 0 rfl) ?_
  refine va_get (D := gD G) (ci := 5) (v := .int (nI th)) (C := "WordShapesModel") (T := TM) (N := 24) hx hb hg iw_M hown hK hP 0 rfl rfl 2 (by decide) (hg _ tk_685) (fun _ h9 => h9) rfl d_M_thrown_1 ?_
  exact yr_i (ws := wM G h dg mp ml th n t pl pn xy pt sz rs ou wr sl p fk fp va oa oc ok) hx hb hrt hlocks (⟨rfl, rfl⟩) rfl hK hP hD hS d_M_thrown_4
set_option maxHeartbeats 4000000 in
set_option maxRecDepth 100000 in
theorem c_M_feed (l : Launch) (G : gl) (h : Nat → Nat) (dg : Nat) (mp : Nat) (ml : Nat) (th : Nat) (n : Nat) (t : Nat → Nat) (pl : Nat → Int32) (pn : Nat → Nat) (xy : Nat → Int32) (pt : Nat → Nat) (sz : Nat) (rs : Nat → Nat) (ou : Nat → Nat) (wr : Nat) (sl : Nat) (p : Nat) (fk : Nat) (fp : Nat) (va : Int32) (oa : Nat → Int32) (oc : Nat → Int32) (ok : Nat → Int32) (a : Int32) (b : Int32) (c : Int32) (d : Int32) (e : Int32) (hn : n ≤ 65536) : YC l G y_M_feed k_M_feed 8 (Option.some FieldType.int) 1 21 [.ref (h 0), .int a, .int b, .int c, .int d, .int e] (wM G h dg mp ml th n t pl pn xy pt sz rs ou wr sl p fk fp va oa oc ok) (fun v w => ((65536 < n + 20) ∧ v = some (.int (nI 0)) ∧ w = wM G h dg mp ml 1 n t pl pn xy pt sz rs ou wr sl p fk fp va oa oc ok) ∨ ((n + 20 ≤ 65536) ∧ v = some (.int (nI (n + 20))) ∧ w = wM G h dg mp ml 0 (n + 20) (fdk t n a b c d e 20) pl pn xy pt sz rs ou wr sl p fk fp va oa oc ok)) (fun _ _ => False) := by
  refine yc_of (by decide) ?_
  intro pg ev sx mm bl mt cd A C0 hP hD
  obtain ⟨hx, hb, hrt, hml, hown, hg, hlocks, hxt, hE, hK, hA, hmn⟩ := C0
  have hS : va_S A sx.heap sx.heap [] := va_S.rf
  have hl := lv_entry ([.ref (h 0), .int a, .int b, .int c, .int d, .int e]) (n := 8) (Nat.le_of_ble_eq_true rfl)
  rw [lg_entry_eq]
  generalize (lg_sl ([.ref (h 0), .int a, .int b, .int c, .int d, .int e]) ++ List.replicate (8 - (lg_sl ([.ref (h 0), .int a, .int b, .int c, .int d, .int e])).length) Slot.unset).toArray = ls at hl ⊢
  have hl : lv_has ls 8 [(0, .ref (h 0)), (1, .int a), (2, .int b), (3, .int c), (4, .int d), (5, .int e)] := hl
  obtain ⟨H, hH⟩ : ∃ H, H = sx.heap := ⟨_, rfl⟩
  rw [← hH] at hP
  have hS : va_S A sx.heap H [] := by rw [hH]; exact hS
  suffices h9 : W pg l ev (yR 1 21) sx mm _ bl mt cd H [] 0 0 (yMQ bl G A _ _ _ _ sx) (F0 mm 0 ls []) by rw [hH] at h9; exact h9
  obtain ⟨locs, hlo⟩ : ∃ locs : List Loc, locs = [] := ⟨_, rfl⟩
  rw [← hlo] at hS ⊢
  have J26 : ∀ (n9 : Nat) (k : Nat) (hm9 : 20 - k < n9) (hk : k ≤ 20) (hn2 : n + 20 ≤ 65536) (H : Heap) (locs : List Loc) (ls : Array Slot), va_P (gD G) vwC (wM G h dg mp ml 0 n (fdk t n a b c d e k) pl pn xy pt sz rs ou wr sl p fk fp va oa oc ok) H → va_D A (wM G h dg mp ml 0 n (fdk t n a b c d e k) pl pn xy pt sz rs ou wr sl p fk fp va oa oc ok) → va_S A sx.heap H locs → lv_has ls 8 [(0, .ref (h 0)), (1, .int a), (2, .int b), (3, .int c), (4, .int d), (5, .int e), (6, .int (nI k))] → W pg l ev (yR 1 21) sx mm ([.ref (h 0), .int a, .int b, .int c, .int d, .int e] : List Value).toArray bl mt cd H locs 0 0 (yMQ bl G A (wM G h dg mp ml th n t pl pn xy pt sz rs ou wr sl p fk fp va oa oc ok).length (fun v w => ((65536 < n + 20) ∧ v = some (.int (nI 0)) ∧ w = wM G h dg mp ml 1 n t pl pn xy pt sz rs ou wr sl p fk fp va oa oc ok) ∨ ((n + 20 ≤ 65536) ∧ v = some (.int (nI (n + 20))) ∧ w = wM G h dg mp ml 0 (n + 20) (fdk t n a b c d e 20) pl pn xy pt sz rs ou wr sl p fk fp va oa oc ok)) (fun _ _ => False) ([.ref (h 0), .int a, .int b, .int c, .int d, .int e] : List Value).toArray sx) (F0 mm 26 ls []) := by
    intro n9
    induction n9 with
    | zero => intro k hm9; exact absurd hm9 (Nat.not_lt_zero _)
    | succ n9 ih9 =>
      intro k hm9 hk hn2 H locs ls hP hD hS hl
      refine lv_iload hx hb d_M_feed_26 (lv_at hl 6 rfl) ?_
      refine lv_bipush (v := nI 20) hx hb d_M_feed_28 (by decide) ?_
      refine yn_icmp_ge (a := k) (b := 20) (tgt := 116) hx hb d_M_feed_30 (by decide) (by omega) (by omega) (fun c30 => ?_) (fun c30 => ?_)
      · skip
        obtain rfl : k = 20 := by omega
        refine lv_aload_n hx hb d_M_feed_116 rfl (lv_at hl 0 rfl) ?_
        refine lv_dup hx hb d_M_feed_117 rfl ?_
        refine va_get (D := gD G) (ci := 5) (v := .int (nI n)) (C := "WordShapesModel") (T := TM) (N := 24) hx hb hg iw_M hown hK hP 0 rfl rfl 6 (by decide) (hg _ tk_689) (fun _ h9 => h9) rfl d_M_feed_118 ?_
        refine lv_bipush (v := nI 20) hx hb d_M_feed_121 (by decide) ?_
        refine lv_iadd hx hb d_M_feed_123 ?_
        refine y_eqi (nI_add _ _) ?_
        refine va_put (D := gD G) (ci := 5) (v := .int (nI (n + 20))) (ty := .int) (C := "WordShapesModel") (T := TM) (N := 24) hx hb hg iw_M ft_M fo_M nm_M hown hK hP hD hS 0 rfl rfl 6 (by decide) (hg _ tk_689) (fun _ h9 => h9) rfl (by decide +kernel) (rfl) (rfl) (Nat.le_of_ble_eq_true rfl) d_M_feed_124 (fun H locs hP hD hS => ?_)
        have hP : va_P (gD G) vwC (wM G h dg mp ml 0 (n + 20) (fdk t n a b c d e 20) pl pn xy pt sz rs ou wr sl p fk fp va oa oc ok) H := hP
        have hD : va_D A (wM G h dg mp ml 0 (n + 20) (fdk t n a b c d e 20) pl pn xy pt sz rs ou wr sl p fk fp va oa oc ok) := hD
        refine lv_aload_n hx hb d_M_feed_127 rfl (lv_at hl 0 rfl) ?_
        refine va_get (D := gD G) (ci := 5) (v := .int (nI (n + 20))) (C := "WordShapesModel") (T := TM) (N := 24) hx hb hg iw_M hown hK hP 0 rfl rfl 6 (by decide) (hg _ tk_689) (fun _ h9 => h9) rfl d_M_feed_128 ?_
        exact yr_i (ws := wM G h dg mp ml 0 (n + 20) (fdk t n a b c d e 20) pl pn xy pt sz rs ou wr sl p fk fp va oa oc ok) hx hb hrt hlocks (Or.inr ⟨by omega, rfl, rfl⟩) rfl hK hP hD hS d_M_feed_131
      · skip
        refine lv_iload hx hb d_M_feed_33 (lv_at hl 6 rfl) ?_
        refine lv_iconst (v := nI 4) hx hb d_M_feed_35 (by decide) ?_
        refine yn_icmp_ge (a := k) (b := 4) (tgt := 43) hx hb d_M_feed_36 (by decide) (by omega) (by omega) (fun c36 => ?_) (fun c36 => ?_)
        · skip
          refine lv_iload hx hb d_M_feed_43 (lv_at hl 6 rfl) ?_
          refine lv_bipush (v := nI 8) hx hb d_M_feed_45 (by decide) ?_
          refine yn_icmp_ge (a := k) (b := 8) (tgt := 54) hx hb d_M_feed_47 (by decide) (by omega) (by omega) (fun c47 => ?_) (fun c47 => ?_)
          · skip
            refine lv_iload hx hb d_M_feed_54 (lv_at hl 6 rfl) ?_
            refine lv_bipush (v := nI 12) hx hb d_M_feed_56 (by decide) ?_
            refine yn_icmp_ge (a := k) (b := 12) (tgt := 65) hx hb d_M_feed_58 (by decide) (by omega) (by omega) (fun c58 => ?_) (fun c58 => ?_)
            · skip
              refine lv_iload hx hb d_M_feed_65 (lv_at hl 6 rfl) ?_
              refine lv_bipush (v := nI 16) hx hb d_M_feed_67 (by decide) ?_
              refine yn_icmp_ge (a := k) (b := 16) (tgt := 77) hx hb d_M_feed_69 (by decide) (by omega) (by omega) (fun c69 => ?_) (fun c69 => ?_)
              · skip
                refine lv_iload hx hb d_M_feed_77 (lv_at hl 5 rfl) ?_
                refine y_eqi (y := wd5 a b c d e k) (by unfold wd5; first | rw [if_pos (by omega)] | rw [if_neg (by omega), if_pos (by omega)] | rw [if_neg (by omega), if_neg (by omega), if_pos (by omega)] | rw [if_neg (by omega), if_neg (by omega), if_neg (by omega), if_pos (by omega)] | rw [if_neg (by omega), if_neg (by omega), if_neg (by omega), if_neg (by omega)]) ?_
                refine lv_istore (lv' := [(7, .int (wd5 a b c d e k)), (0, .ref (h 0)), (1, .int a), (2, .int b), (3, .int c), (4, .int d), (5, .int e), (6, .int (nI k))]) hx hb d_M_feed_79 hl (by decide) rfl (fun ls hl => ?_)
                refine lv_aload_n hx hb d_M_feed_81 rfl (lv_at hl 1 rfl) ?_
                refine va_get (D := gD G) (ci := 5) (v := .ref (h 3)) (C := "WordShapesModel") (T := TM) (N := 24) hx hb hg iw_M hown hK hP 0 rfl rfl 7 (by decide) (hg _ tk_690) (fun _ h9 => h9) rfl d_M_feed_82 ?_
                refine lv_aload_n hx hb d_M_feed_85 rfl (lv_at hl 1 rfl) ?_
                refine va_get (D := gD G) (ci := 5) (v := .int (nI n)) (C := "WordShapesModel") (T := TM) (N := 24) hx hb hg iw_M hown hK hP 0 rfl rfl 6 (by decide) (hg _ tk_689) (fun _ h9 => h9) rfl d_M_feed_86 ?_
                refine lv_iload hx hb d_M_feed_89 (lv_at hl 7 rfl) ?_
                refine lv_iadd hx hb d_M_feed_91 ?_
                refine y_eqi (nI_add _ _) ?_
                refine lv_iload hx hb d_M_feed_92 (lv_at hl 0 rfl) ?_
                refine lv_bipush (v := nI 24) hx hb d_M_feed_94 (by decide) ?_
                refine lv_bipush (v := nI 8) hx hb d_M_feed_96 (by decide) ?_
                refine lv_iload hx hb d_M_feed_98 (lv_at hl 7 rfl) ?_
                refine lv_iconst (v := nI 4) hx hb d_M_feed_100 (by decide) ?_
                refine lv_irem hx hb d_M_feed_101 (by decide) ?_
                refine y_eqi (y := nI (k % 4)) (pk_rem (by omega) (by decide) (by decide)) ?_
                refine lv_imul hx hb d_M_feed_102 ?_
                refine y_eqi (pk_mul _ _) ?_
                refine lv_isub hx hb d_M_feed_103 ?_
                refine y_eqi (pk_sub (by omega)) ?_
                refine lv_ishr hx hb d_M_feed_104 ?_
                refine lv_sipush (v := nI 255) hx hb d_M_feed_105 (by decide) ?_
                refine lv_iand hx hb d_M_feed_108 ?_
                refine y_eqi (y := nI (byt (wd5 a b c d e k) (24 - 8 * (k % 4)))) (shr_b _ _ (by omega)) ?_
                refine yn_iast hx hb hK hP hD hS 3 0 rfl rfl (j := n + k) (x := nI (byt (wd5 a b c d e k) (24 - 8 * (k % 4)))) (f1 := fun i => nI ((va_up (fdk t n a b c d e k) (n + k) (byt (wd5 a b c d e k) (24 - 8 * (k % 4)))) i)) (vu_st _ _ _) (by omega) (by omega) d_M_feed_109 (fun H locs hP hD hS => ?_)
                have hP : va_P (gD G) vwC (wM G h dg mp ml 0 n (va_up (fdk t n a b c d e k) (n + k) (byt (wd5 a b c d e k) (24 - 8 * (k % 4)))) pl pn xy pt sz rs ou wr sl p fk fp va oa oc ok) H := hP
                have hD : va_D A (wM G h dg mp ml 0 n (va_up (fdk t n a b c d e k) (n + k) (byt (wd5 a b c d e k) (24 - 8 * (k % 4)))) pl pn xy pt sz rs ou wr sl p fk fp va oa oc ok) := hD
                refine lv_iinc (v := nI (k + 1)) (lv' := [(6, .int (nI (k + 1))), (7, .int (wd5 a b c d e k)), (0, .ref (h 0)), (1, .int a), (2, .int b), (3, .int c), (4, .int d), (5, .int e)]) hx hb d_M_feed_110 hl (k := 7) rfl (y_inc _) (by decide) rfl (fun ls hl => ?_)
                refine lv_goto (tgt := 26) hx hb d_M_feed_113 (by decide) ?_
                exact ih9 (k + 1) (by omega) (by omega) (by omega) _ _ _ hP hD hS (lv_sub hl [2, 3, 4, 5, 6, 7, 0] (rfl))
              · skip
                refine lv_iload hx hb d_M_feed_72 (lv_at hl 4 rfl) ?_
                refine lv_goto (tgt := 79) hx hb d_M_feed_74 (by decide) ?_
                refine y_eqi (y := wd5 a b c d e k) (by unfold wd5; first | rw [if_pos (by omega)] | rw [if_neg (by omega), if_pos (by omega)] | rw [if_neg (by omega), if_neg (by omega), if_pos (by omega)] | rw [if_neg (by omega), if_neg (by omega), if_neg (by omega), if_pos (by omega)] | rw [if_neg (by omega), if_neg (by omega), if_neg (by omega), if_neg (by omega)]) ?_
                refine lv_istore (lv' := [(7, .int (wd5 a b c d e k)), (0, .ref (h 0)), (1, .int a), (2, .int b), (3, .int c), (4, .int d), (5, .int e), (6, .int (nI k))]) hx hb d_M_feed_79 hl (by decide) rfl (fun ls hl => ?_)
                refine lv_aload_n hx hb d_M_feed_81 rfl (lv_at hl 1 rfl) ?_
                refine va_get (D := gD G) (ci := 5) (v := .ref (h 3)) (C := "WordShapesModel") (T := TM) (N := 24) hx hb hg iw_M hown hK hP 0 rfl rfl 7 (by decide) (hg _ tk_690) (fun _ h9 => h9) rfl d_M_feed_82 ?_
                refine lv_aload_n hx hb d_M_feed_85 rfl (lv_at hl 1 rfl) ?_
                refine va_get (D := gD G) (ci := 5) (v := .int (nI n)) (C := "WordShapesModel") (T := TM) (N := 24) hx hb hg iw_M hown hK hP 0 rfl rfl 6 (by decide) (hg _ tk_689) (fun _ h9 => h9) rfl d_M_feed_86 ?_
                refine lv_iload hx hb d_M_feed_89 (lv_at hl 7 rfl) ?_
                refine lv_iadd hx hb d_M_feed_91 ?_
                refine y_eqi (nI_add _ _) ?_
                refine lv_iload hx hb d_M_feed_92 (lv_at hl 0 rfl) ?_
                refine lv_bipush (v := nI 24) hx hb d_M_feed_94 (by decide) ?_
                refine lv_bipush (v := nI 8) hx hb d_M_feed_96 (by decide) ?_
                refine lv_iload hx hb d_M_feed_98 (lv_at hl 7 rfl) ?_
                refine lv_iconst (v := nI 4) hx hb d_M_feed_100 (by decide) ?_
                refine lv_irem hx hb d_M_feed_101 (by decide) ?_
                refine y_eqi (y := nI (k % 4)) (pk_rem (by omega) (by decide) (by decide)) ?_
                refine lv_imul hx hb d_M_feed_102 ?_
                refine y_eqi (pk_mul _ _) ?_
                refine lv_isub hx hb d_M_feed_103 ?_
                refine y_eqi (pk_sub (by omega)) ?_
                refine lv_ishr hx hb d_M_feed_104 ?_
                refine lv_sipush (v := nI 255) hx hb d_M_feed_105 (by decide) ?_
                refine lv_iand hx hb d_M_feed_108 ?_
                refine y_eqi (y := nI (byt (wd5 a b c d e k) (24 - 8 * (k % 4)))) (shr_b _ _ (by omega)) ?_
                refine yn_iast hx hb hK hP hD hS 3 0 rfl rfl (j := n + k) (x := nI (byt (wd5 a b c d e k) (24 - 8 * (k % 4)))) (f1 := fun i => nI ((va_up (fdk t n a b c d e k) (n + k) (byt (wd5 a b c d e k) (24 - 8 * (k % 4)))) i)) (vu_st _ _ _) (by omega) (by omega) d_M_feed_109 (fun H locs hP hD hS => ?_)
                have hP : va_P (gD G) vwC (wM G h dg mp ml 0 n (va_up (fdk t n a b c d e k) (n + k) (byt (wd5 a b c d e k) (24 - 8 * (k % 4)))) pl pn xy pt sz rs ou wr sl p fk fp va oa oc ok) H := hP
                have hD : va_D A (wM G h dg mp ml 0 n (va_up (fdk t n a b c d e k) (n + k) (byt (wd5 a b c d e k) (24 - 8 * (k % 4)))) pl pn xy pt sz rs ou wr sl p fk fp va oa oc ok) := hD
                refine lv_iinc (v := nI (k + 1)) (lv' := [(6, .int (nI (k + 1))), (7, .int (wd5 a b c d e k)), (0, .ref (h 0)), (1, .int a), (2, .int b), (3, .int c), (4, .int d), (5, .int e)]) hx hb d_M_feed_110 hl (k := 7) rfl (y_inc _) (by decide) rfl (fun ls hl => ?_)
                refine lv_goto (tgt := 26) hx hb d_M_feed_113 (by decide) ?_
                exact ih9 (k + 1) (by omega) (by omega) (by omega) _ _ _ hP hD hS (lv_sub hl [2, 3, 4, 5, 6, 7, 0] (rfl))
            · skip
              refine lv_iload_n hx hb d_M_feed_61 rfl (lv_at hl 3 rfl) ?_
              refine lv_goto (tgt := 79) hx hb d_M_feed_62 (by decide) ?_
              refine y_eqi (y := wd5 a b c d e k) (by unfold wd5; first | rw [if_pos (by omega)] | rw [if_neg (by omega), if_pos (by omega)] | rw [if_neg (by omega), if_neg (by omega), if_pos (by omega)] | rw [if_neg (by omega), if_neg (by omega), if_neg (by omega), if_pos (by omega)] | rw [if_neg (by omega), if_neg (by omega), if_neg (by omega), if_neg (by omega)]) ?_
              refine lv_istore (lv' := [(7, .int (wd5 a b c d e k)), (0, .ref (h 0)), (1, .int a), (2, .int b), (3, .int c), (4, .int d), (5, .int e), (6, .int (nI k))]) hx hb d_M_feed_79 hl (by decide) rfl (fun ls hl => ?_)
              refine lv_aload_n hx hb d_M_feed_81 rfl (lv_at hl 1 rfl) ?_
              refine va_get (D := gD G) (ci := 5) (v := .ref (h 3)) (C := "WordShapesModel") (T := TM) (N := 24) hx hb hg iw_M hown hK hP 0 rfl rfl 7 (by decide) (hg _ tk_690) (fun _ h9 => h9) rfl d_M_feed_82 ?_
              refine lv_aload_n hx hb d_M_feed_85 rfl (lv_at hl 1 rfl) ?_
              refine va_get (D := gD G) (ci := 5) (v := .int (nI n)) (C := "WordShapesModel") (T := TM) (N := 24) hx hb hg iw_M hown hK hP 0 rfl rfl 6 (by decide) (hg _ tk_689) (fun _ h9 => h9) rfl d_M_feed_86 ?_
              refine lv_iload hx hb d_M_feed_89 (lv_at hl 7 rfl) ?_
              refine lv_iadd hx hb d_M_feed_91 ?_
              refine y_eqi (nI_add _ _) ?_
              refine lv_iload hx hb d_M_feed_92 (lv_at hl 0 rfl) ?_
              refine lv_bipush (v := nI 24) hx hb d_M_feed_94 (by decide) ?_
              refine lv_bipush (v := nI 8) hx hb d_M_feed_96 (by decide) ?_
              refine lv_iload hx hb d_M_feed_98 (lv_at hl 7 rfl) ?_
              refine lv_iconst (v := nI 4) hx hb d_M_feed_100 (by decide) ?_
              refine lv_irem hx hb d_M_feed_101 (by decide) ?_
              refine y_eqi (y := nI (k % 4)) (pk_rem (by omega) (by decide) (by decide)) ?_
              refine lv_imul hx hb d_M_feed_102 ?_
              refine y_eqi (pk_mul _ _) ?_
              refine lv_isub hx hb d_M_feed_103 ?_
              refine y_eqi (pk_sub (by omega)) ?_
              refine lv_ishr hx hb d_M_feed_104 ?_
              refine lv_sipush (v := nI 255) hx hb d_M_feed_105 (by decide) ?_
              refine lv_iand hx hb d_M_feed_108 ?_
              refine y_eqi (y := nI (byt (wd5 a b c d e k) (24 - 8 * (k % 4)))) (shr_b _ _ (by omega)) ?_
              refine yn_iast hx hb hK hP hD hS 3 0 rfl rfl (j := n + k) (x := nI (byt (wd5 a b c d e k) (24 - 8 * (k % 4)))) (f1 := fun i => nI ((va_up (fdk t n a b c d e k) (n + k) (byt (wd5 a b c d e k) (24 - 8 * (k % 4)))) i)) (vu_st _ _ _) (by omega) (by omega) d_M_feed_109 (fun H locs hP hD hS => ?_)
              have hP : va_P (gD G) vwC (wM G h dg mp ml 0 n (va_up (fdk t n a b c d e k) (n + k) (byt (wd5 a b c d e k) (24 - 8 * (k % 4)))) pl pn xy pt sz rs ou wr sl p fk fp va oa oc ok) H := hP
              have hD : va_D A (wM G h dg mp ml 0 n (va_up (fdk t n a b c d e k) (n + k) (byt (wd5 a b c d e k) (24 - 8 * (k % 4)))) pl pn xy pt sz rs ou wr sl p fk fp va oa oc ok) := hD
              refine lv_iinc (v := nI (k + 1)) (lv' := [(6, .int (nI (k + 1))), (7, .int (wd5 a b c d e k)), (0, .ref (h 0)), (1, .int a), (2, .int b), (3, .int c), (4, .int d), (5, .int e)]) hx hb d_M_feed_110 hl (k := 7) rfl (y_inc _) (by decide) rfl (fun ls hl => ?_)
              refine lv_goto (tgt := 26) hx hb d_M_feed_113 (by decide) ?_
              exact ih9 (k + 1) (by omega) (by omega) (by omega) _ _ _ hP hD hS (lv_sub hl [2, 3, 4, 5, 6, 7, 0] (rfl))
          · skip
            refine lv_iload_n hx hb d_M_feed_50 rfl (lv_at hl 2 rfl) ?_
            refine lv_goto (tgt := 79) hx hb d_M_feed_51 (by decide) ?_
            refine y_eqi (y := wd5 a b c d e k) (by unfold wd5; first | rw [if_pos (by omega)] | rw [if_neg (by omega), if_pos (by omega)] | rw [if_neg (by omega), if_neg (by omega), if_pos (by omega)] | rw [if_neg (by omega), if_neg (by omega), if_neg (by omega), if_pos (by omega)] | rw [if_neg (by omega), if_neg (by omega), if_neg (by omega), if_neg (by omega)]) ?_
            refine lv_istore (lv' := [(7, .int (wd5 a b c d e k)), (0, .ref (h 0)), (1, .int a), (2, .int b), (3, .int c), (4, .int d), (5, .int e), (6, .int (nI k))]) hx hb d_M_feed_79 hl (by decide) rfl (fun ls hl => ?_)
            refine lv_aload_n hx hb d_M_feed_81 rfl (lv_at hl 1 rfl) ?_
            refine va_get (D := gD G) (ci := 5) (v := .ref (h 3)) (C := "WordShapesModel") (T := TM) (N := 24) hx hb hg iw_M hown hK hP 0 rfl rfl 7 (by decide) (hg _ tk_690) (fun _ h9 => h9) rfl d_M_feed_82 ?_
            refine lv_aload_n hx hb d_M_feed_85 rfl (lv_at hl 1 rfl) ?_
            refine va_get (D := gD G) (ci := 5) (v := .int (nI n)) (C := "WordShapesModel") (T := TM) (N := 24) hx hb hg iw_M hown hK hP 0 rfl rfl 6 (by decide) (hg _ tk_689) (fun _ h9 => h9) rfl d_M_feed_86 ?_
            refine lv_iload hx hb d_M_feed_89 (lv_at hl 7 rfl) ?_
            refine lv_iadd hx hb d_M_feed_91 ?_
            refine y_eqi (nI_add _ _) ?_
            refine lv_iload hx hb d_M_feed_92 (lv_at hl 0 rfl) ?_
            refine lv_bipush (v := nI 24) hx hb d_M_feed_94 (by decide) ?_
            refine lv_bipush (v := nI 8) hx hb d_M_feed_96 (by decide) ?_
            refine lv_iload hx hb d_M_feed_98 (lv_at hl 7 rfl) ?_
            refine lv_iconst (v := nI 4) hx hb d_M_feed_100 (by decide) ?_
            refine lv_irem hx hb d_M_feed_101 (by decide) ?_
            refine y_eqi (y := nI (k % 4)) (pk_rem (by omega) (by decide) (by decide)) ?_
            refine lv_imul hx hb d_M_feed_102 ?_
            refine y_eqi (pk_mul _ _) ?_
            refine lv_isub hx hb d_M_feed_103 ?_
            refine y_eqi (pk_sub (by omega)) ?_
            refine lv_ishr hx hb d_M_feed_104 ?_
            refine lv_sipush (v := nI 255) hx hb d_M_feed_105 (by decide) ?_
            refine lv_iand hx hb d_M_feed_108 ?_
            refine y_eqi (y := nI (byt (wd5 a b c d e k) (24 - 8 * (k % 4)))) (shr_b _ _ (by omega)) ?_
            refine yn_iast hx hb hK hP hD hS 3 0 rfl rfl (j := n + k) (x := nI (byt (wd5 a b c d e k) (24 - 8 * (k % 4)))) (f1 := fun i => nI ((va_up (fdk t n a b c d e k) (n + k) (byt (wd5 a b c d e k) (24 - 8 * (k % 4)))) i)) (vu_st _ _ _) (by omega) (by omega) d_M_feed_109 (fun H locs hP hD hS => ?_)
            have hP : va_P (gD G) vwC (wM G h dg mp ml 0 n (va_up (fdk t n a b c d e k) (n + k) (byt (wd5 a b c d e k) (24 - 8 * (k % 4)))) pl pn xy pt sz rs ou wr sl p fk fp va oa oc ok) H := hP
            have hD : va_D A (wM G h dg mp ml 0 n (va_up (fdk t n a b c d e k) (n + k) (byt (wd5 a b c d e k) (24 - 8 * (k % 4)))) pl pn xy pt sz rs ou wr sl p fk fp va oa oc ok) := hD
            refine lv_iinc (v := nI (k + 1)) (lv' := [(6, .int (nI (k + 1))), (7, .int (wd5 a b c d e k)), (0, .ref (h 0)), (1, .int a), (2, .int b), (3, .int c), (4, .int d), (5, .int e)]) hx hb d_M_feed_110 hl (k := 7) rfl (y_inc _) (by decide) rfl (fun ls hl => ?_)
            refine lv_goto (tgt := 26) hx hb d_M_feed_113 (by decide) ?_
            exact ih9 (k + 1) (by omega) (by omega) (by omega) _ _ _ hP hD hS (lv_sub hl [2, 3, 4, 5, 6, 7, 0] (rfl))
        · skip
          refine lv_iload_n hx hb d_M_feed_39 rfl (lv_at hl 1 rfl) ?_
          refine lv_goto (tgt := 79) hx hb d_M_feed_40 (by decide) ?_
          refine y_eqi (y := wd5 a b c d e k) (by unfold wd5; first | rw [if_pos (by omega)] | rw [if_neg (by omega), if_pos (by omega)] | rw [if_neg (by omega), if_neg (by omega), if_pos (by omega)] | rw [if_neg (by omega), if_neg (by omega), if_neg (by omega), if_pos (by omega)] | rw [if_neg (by omega), if_neg (by omega), if_neg (by omega), if_neg (by omega)]) ?_
          refine lv_istore (lv' := [(7, .int (wd5 a b c d e k)), (0, .ref (h 0)), (1, .int a), (2, .int b), (3, .int c), (4, .int d), (5, .int e), (6, .int (nI k))]) hx hb d_M_feed_79 hl (by decide) rfl (fun ls hl => ?_)
          refine lv_aload_n hx hb d_M_feed_81 rfl (lv_at hl 1 rfl) ?_
          refine va_get (D := gD G) (ci := 5) (v := .ref (h 3)) (C := "WordShapesModel") (T := TM) (N := 24) hx hb hg iw_M hown hK hP 0 rfl rfl 7 (by decide) (hg _ tk_690) (fun _ h9 => h9) rfl d_M_feed_82 ?_
          refine lv_aload_n hx hb d_M_feed_85 rfl (lv_at hl 1 rfl) ?_
          refine va_get (D := gD G) (ci := 5) (v := .int (nI n)) (C := "WordShapesModel") (T := TM) (N := 24) hx hb hg iw_M hown hK hP 0 rfl rfl 6 (by decide) (hg _ tk_689) (fun _ h9 => h9) rfl d_M_feed_86 ?_
          refine lv_iload hx hb d_M_feed_89 (lv_at hl 7 rfl) ?_
          refine lv_iadd hx hb d_M_feed_91 ?_
          refine y_eqi (nI_add _ _) ?_
          refine lv_iload hx hb d_M_feed_92 (lv_at hl 0 rfl) ?_
          refine lv_bipush (v := nI 24) hx hb d_M_feed_94 (by decide) ?_
          refine lv_bipush (v := nI 8) hx hb d_M_feed_96 (by decide) ?_
          refine lv_iload hx hb d_M_feed_98 (lv_at hl 7 rfl) ?_
          refine lv_iconst (v := nI 4) hx hb d_M_feed_100 (by decide) ?_
          refine lv_irem hx hb d_M_feed_101 (by decide) ?_
          refine y_eqi (y := nI (k % 4)) (pk_rem (by omega) (by decide) (by decide)) ?_
          refine lv_imul hx hb d_M_feed_102 ?_
          refine y_eqi (pk_mul _ _) ?_
          refine lv_isub hx hb d_M_feed_103 ?_
          refine y_eqi (pk_sub (by omega)) ?_
          refine lv_ishr hx hb d_M_feed_104 ?_
          refine lv_sipush (v := nI 255) hx hb d_M_feed_105 (by decide) ?_
          refine lv_iand hx hb d_M_feed_108 ?_
          refine y_eqi (y := nI (byt (wd5 a b c d e k) (24 - 8 * (k % 4)))) (shr_b _ _ (by omega)) ?_
          refine yn_iast hx hb hK hP hD hS 3 0 rfl rfl (j := n + k) (x := nI (byt (wd5 a b c d e k) (24 - 8 * (k % 4)))) (f1 := fun i => nI ((va_up (fdk t n a b c d e k) (n + k) (byt (wd5 a b c d e k) (24 - 8 * (k % 4)))) i)) (vu_st _ _ _) (by omega) (by omega) d_M_feed_109 (fun H locs hP hD hS => ?_)
          have hP : va_P (gD G) vwC (wM G h dg mp ml 0 n (va_up (fdk t n a b c d e k) (n + k) (byt (wd5 a b c d e k) (24 - 8 * (k % 4)))) pl pn xy pt sz rs ou wr sl p fk fp va oa oc ok) H := hP
          have hD : va_D A (wM G h dg mp ml 0 n (va_up (fdk t n a b c d e k) (n + k) (byt (wd5 a b c d e k) (24 - 8 * (k % 4)))) pl pn xy pt sz rs ou wr sl p fk fp va oa oc ok) := hD
          refine lv_iinc (v := nI (k + 1)) (lv' := [(6, .int (nI (k + 1))), (7, .int (wd5 a b c d e k)), (0, .ref (h 0)), (1, .int a), (2, .int b), (3, .int c), (4, .int d), (5, .int e)]) hx hb d_M_feed_110 hl (k := 7) rfl (y_inc _) (by decide) rfl (fun ls hl => ?_)
          refine lv_goto (tgt := 26) hx hb d_M_feed_113 (by decide) ?_
          exact ih9 (k + 1) (by omega) (by omega) (by omega) _ _ _ hP hD hS (lv_sub hl [2, 3, 4, 5, 6, 7, 0] (rfl))
  refine lv_aload_n hx hb d_M_feed_0 rfl (lv_at hl 0 rfl) ?_
  refine lv_iconst (v := nI 0) hx hb d_M_feed_1 (by decide) ?_
  refine va_put (D := gD G) (ci := 5) (v := .int (nI 0)) (ty := .int) (C := "WordShapesModel") (T := TM) (N := 24) hx hb hg iw_M ft_M fo_M nm_M hown hK hP hD hS 0 rfl rfl 2 (by decide) (hg _ tk_685) (fun _ h9 => h9) rfl (by decide +kernel) (rfl) (rfl) (Nat.le_of_ble_eq_true rfl) d_M_feed_2 (fun H locs hP hD hS => ?_)
  have hP : va_P (gD G) vwC (wM G h dg mp ml 0 n t pl pn xy pt sz rs ou wr sl p fk fp va oa oc ok) H := hP
  have hD : va_D A (wM G h dg mp ml 0 n t pl pn xy pt sz rs ou wr sl p fk fp va oa oc ok) := hD
  refine lv_aload_n hx hb d_M_feed_5 rfl (lv_at hl 0 rfl) ?_
  refine va_get (D := gD G) (ci := 5) (v := .int (nI n)) (C := "WordShapesModel") (T := TM) (N := 24) hx hb hg iw_M hown hK hP 0 rfl rfl 6 (by decide) (hg _ tk_689) (fun _ h9 => h9) rfl d_M_feed_6 ?_
  refine lv_bipush (v := nI 20) hx hb d_M_feed_9 (by decide) ?_
  refine lv_iadd hx hb d_M_feed_11 ?_
  refine y_eqi (nI_add _ _) ?_
  refine lv_ldc (v := nI 65536) hx hb hown (hg _ tk_680) d_M_feed_12 ?_
  refine yn_icmp_le (a := n + 20) (b := 65536) (tgt := 23) hx hb d_M_feed_14 (by decide) (by omega) (by omega) (fun c14 => ?_) (fun c14 => ?_)
  · skip
    refine lv_iconst (v := nI 0) hx hb d_M_feed_23 (by decide) ?_
    refine lv_istore (lv' := [(6, .int (nI 0)), (0, .ref (h 0)), (1, .int a), (2, .int b), (3, .int c), (4, .int d), (5, .int e)]) hx hb d_M_feed_24 hl (by decide) rfl (fun ls hl => ?_)
    exact J26 _ 0 (Nat.lt_succ_self _) (by omega) (by omega) _ _ _ hP hD hS (lv_sub hl [1, 2, 3, 4, 5, 6, 0] (rfl))
  · skip
    refine lv_aload_n hx hb d_M_feed_17 rfl (lv_at hl 0 rfl) ?_
    refine lv_iconst (v := nI 1) hx hb d_M_feed_18 (by decide) ?_
    refine y_callW (y_runV (As := [.int (nI 1)]) (rest := []) hx hb hml hown (c_M_fail l G h dg mp ml 0 n t pl pn xy pt sz rs ou wr sl p fk fp va oa oc ok 1 ) (gV (n := 1) hg tk_764 tk_766 (gt_s 31 (by decide +kernel) (by decide +kernel)) tk_7 tk_767 (by decide +kernel) ⟨Nat.le_of_ble_eq_true rfl, Nat.le_of_ble_eq_true rfl⟩) (va_recv hK hP (ci := 5) (q0 := 0) rfl rfl) (y_preW hE hK hP hD hS hA) rfl rfl hl.1 rfl (lv_room (Nat.le_of_ble_eq_true rfl)) d_M_feed_19 ⟨Nat.le_of_ble_eq_true rfl, Nat.le_of_ble_eq_true rfl⟩) hD hS hA (fun _ _ _ _ _ _ hp => False.elim hp) (fun v9 w9 H locs hp hlw hP hD hS => ?_)
    obtain ⟨rfl, rfl⟩ := hp
    have hP : va_P (gD G) vwC (wM G h dg mp ml 1 n t pl pn xy pt sz rs ou wr sl p fk fp va oa oc ok) H := hP
    have hD : va_D A (wM G h dg mp ml 1 n t pl pn xy pt sz rs ou wr sl p fk fp va oa oc ok) := hD
    refine W.eq (g2 := F0 mm 22 ls [.int (nI 0)]) rfl ?_
    exact yr_i (ws := wM G h dg mp ml 1 n t pl pn xy pt sz rs ou wr sl p fk fp va oa oc ok) hx hb hrt hlocks (Or.inl ⟨by omega, rfl, rfl⟩) rfl hK hP hD hS d_M_feed_22
set_option maxHeartbeats 4000000 in
set_option maxRecDepth 100000 in
theorem c_M_end (l : Launch) (G : gl) (h : Nat → Nat) (dg : Nat) (mp : Nat) (ml : Nat) (th : Nat) (n : Nat) (t : Nat → Nat) (pl : Nat → Int32) (pn : Nat → Nat) (xy : Nat → Int32) (pt : Nat → Nat) (sz : Nat) (rs : Nat → Nat) (ou : Nat → Nat) (wr : Nat) (sl : Nat) (p : Nat) (fk : Nat) (fp : Nat) (va : Int32) (oa : Nat → Int32) (oc : Nat → Int32) (ok : Nat → Int32) (x : Int32) (hn : n ≤ 65536) : YC l G y_M_end k_M_end 2 (Option.some FieldType.int) 1 22 [.ref (h 0), .int x] (wM G h dg mp ml th n t pl pn xy pt sz rs ou wr sl p fk fp va oa oc ok) (fun v w => ((¬ ∃ j, j ≤ 20 ∧ x = nI j) ∧ v = some (.int (nI 0)) ∧ w = wM G h dg mp ml 1 n t pl pn xy pt sz rs ou wr sl p fk fp va oa oc ok) ∨ (((∃ j, j ≤ 20 ∧ x = nI j) ∧ n < 20) ∧ v = some (.int (nI 0)) ∧ w = wM G h dg mp ml 2 n t pl pn xy pt sz rs ou wr sl p fk fp va oa oc ok) ∨ (∃ j, (j ≤ 20 ∧ x = nI j ∧ 20 ≤ n) ∧ v = some (.int (nI (n - (20 - j)))) ∧ w = wM G h dg mp ml 0 (n - (20 - j)) t pl pn xy pt sz rs ou wr sl p fk fp va oa oc ok)) (fun _ _ => False) := by
  refine yc_of (by decide) ?_
  intro pg ev sx mm bl mt cd A C0 hP hD
  obtain ⟨hx, hb, hrt, hml, hown, hg, hlocks, hxt, hE, hK, hA, hmn⟩ := C0
  have hS : va_S A sx.heap sx.heap [] := va_S.rf
  have hl := lv_entry ([.ref (h 0), .int x]) (n := 2) (Nat.le_of_ble_eq_true rfl)
  rw [lg_entry_eq]
  generalize (lg_sl ([.ref (h 0), .int x]) ++ List.replicate (2 - (lg_sl ([.ref (h 0), .int x])).length) Slot.unset).toArray = ls at hl ⊢
  have hl : lv_has ls 2 [(0, .ref (h 0)), (1, .int x)] := hl
  obtain ⟨H, hH⟩ : ∃ H, H = sx.heap := ⟨_, rfl⟩
  rw [← hH] at hP
  have hS : va_S A sx.heap H [] := by rw [hH]; exact hS
  suffices h9 : W pg l ev (yR 1 22) sx mm _ bl mt cd H [] 0 0 (yMQ bl G A _ _ _ _ sx) (F0 mm 0 ls []) by rw [hH] at h9; exact h9
  obtain ⟨locs, hlo⟩ : ∃ locs : List Loc, locs = [] := ⟨_, rfl⟩
  rw [← hlo] at hS ⊢
  refine lv_aload_n hx hb d_M_end_0 rfl (lv_at hl 0 rfl) ?_
  refine lv_iconst (v := nI 0) hx hb d_M_end_1 (by decide) ?_
  refine va_put (D := gD G) (ci := 5) (v := .int (nI 0)) (ty := .int) (C := "WordShapesModel") (T := TM) (N := 24) hx hb hg iw_M ft_M fo_M nm_M hown hK hP hD hS 0 rfl rfl 2 (by decide) (hg _ tk_685) (fun _ h9 => h9) rfl (by decide +kernel) (rfl) (rfl) (Nat.le_of_ble_eq_true rfl) d_M_end_2 (fun H locs hP hD hS => ?_)
  have hP : va_P (gD G) vwC (wM G h dg mp ml 0 n t pl pn xy pt sz rs ou wr sl p fk fp va oa oc ok) H := hP
  have hD : va_D A (wM G h dg mp ml 0 n t pl pn xy pt sz rs ou wr sl p fk fp va oa oc ok) := hD
  refine lv_iload_n hx hb d_M_end_5 rfl (lv_at hl 1 rfl) ?_
  refine lv_iconst (v := nI 0) hx hb d_M_end_6 (by decide) ?_
  refine lv_bipush (v := nI 20) hx hb d_M_end_7 (by decide) ?_
  refine y_call (y_runS (As := [.int x, .int (nI 0), .int (nI 20)]) (rest := []) hx hb hml hown (c_M_within l G  x (nI 0) (nI 20) ) (gS (n := 3) hg tk_772 tk_773 tk_7 tk_774 (by decide +kernel) ⟨Nat.le_of_ble_eq_true rfl, Nat.le_of_ble_eq_true rfl⟩) (y_pre hE hK hP hD hS hA [] rfl rfl) rfl rfl hl.1 rfl (lv_room (Nat.le_of_ble_eq_true rfl)) d_M_end_9 ⟨Nat.le_of_ble_eq_true rfl, Nat.le_of_ble_eq_true rfl⟩) hP hD hS hA [] rfl (fun _ _ _ _ _ _ hp => False.elim hp) (fun v9 w9 H locs hp hlw hP hD hS => ?_)
  obtain ⟨rfl, rfl⟩ := hp
  have hP : va_P (gD G) vwC (wM G h dg mp ml 0 n t pl pn xy pt sz rs ou wr sl p fk fp va oa oc ok) H := hP
  have hD : va_D A (wM G h dg mp ml 0 n t pl pn xy pt sz rs ou wr sl p fk fp va oa oc ok) := hD
  refine W.eq (g2 := F0 mm 12 ls [.int (bz (decide ((nI 0) ≤ x ∧ x ≤ (nI 20))))]) rfl ?_
  refine yz_if_ne (P := (nI 0) ≤ x ∧ x ≤ (nI 20)) (tgt := 21) hx hb d_M_end_12 (by decide) (fun c12 => ?_) (fun c12 => ?_)
  · skip
    obtain ⟨j, hj, rfl⟩ := wi_n (by decide) c12
    refine lv_aload_n hx hb d_M_end_21 rfl (lv_at hl 0 rfl) ?_
    refine va_get (D := gD G) (ci := 5) (v := .int (nI n)) (C := "WordShapesModel") (T := TM) (N := 24) hx hb hg iw_M hown hK hP 0 rfl rfl 6 (by decide) (hg _ tk_689) (fun _ h9 => h9) rfl d_M_end_22 ?_
    refine lv_bipush (v := nI 20) hx hb d_M_end_25 (by decide) ?_
    refine yn_icmp_ge (a := n) (b := 20) (tgt := 36) hx hb d_M_end_27 (by decide) (by omega) (by omega) (fun c27 => ?_) (fun c27 => ?_)
    · skip
      refine lv_aload_n hx hb d_M_end_36 rfl (lv_at hl 0 rfl) ?_
      refine lv_dup hx hb d_M_end_37 rfl ?_
      refine va_get (D := gD G) (ci := 5) (v := .int (nI n)) (C := "WordShapesModel") (T := TM) (N := 24) hx hb hg iw_M hown hK hP 0 rfl rfl 6 (by decide) (hg _ tk_689) (fun _ h9 => h9) rfl d_M_end_38 ?_
      refine lv_bipush (v := nI 20) hx hb d_M_end_41 (by decide) ?_
      refine lv_iload_n hx hb d_M_end_43 rfl (lv_at hl 1 rfl) ?_
      refine lv_isub hx hb d_M_end_44 ?_
      refine y_eqi (pk_sub (by omega)) ?_
      refine lv_isub hx hb d_M_end_45 ?_
      refine y_eqi (pk_sub (by omega)) ?_
      refine va_put (D := gD G) (ci := 5) (v := .int (nI (n - (20 - j)))) (ty := .int) (C := "WordShapesModel") (T := TM) (N := 24) hx hb hg iw_M ft_M fo_M nm_M hown hK hP hD hS 0 rfl rfl 6 (by decide) (hg _ tk_689) (fun _ h9 => h9) rfl (by decide +kernel) (rfl) (rfl) (Nat.le_of_ble_eq_true rfl) d_M_end_46 (fun H locs hP hD hS => ?_)
      have hP : va_P (gD G) vwC (wM G h dg mp ml 0 (n - (20 - j)) t pl pn xy pt sz rs ou wr sl p fk fp va oa oc ok) H := hP
      have hD : va_D A (wM G h dg mp ml 0 (n - (20 - j)) t pl pn xy pt sz rs ou wr sl p fk fp va oa oc ok) := hD
      refine lv_aload_n hx hb d_M_end_49 rfl (lv_at hl 0 rfl) ?_
      refine va_get (D := gD G) (ci := 5) (v := .int (nI (n - (20 - j)))) (C := "WordShapesModel") (T := TM) (N := 24) hx hb hg iw_M hown hK hP 0 rfl rfl 6 (by decide) (hg _ tk_689) (fun _ h9 => h9) rfl d_M_end_50 ?_
      exact yr_i (ws := wM G h dg mp ml 0 (n - (20 - j)) t pl pn xy pt sz rs ou wr sl p fk fp va oa oc ok) hx hb hrt hlocks (Or.inr (Or.inr ⟨j, ⟨hj, rfl, by omega⟩, rfl, rfl⟩)) rfl hK hP hD hS d_M_end_53
    · skip
      refine lv_aload_n hx hb d_M_end_30 rfl (lv_at hl 0 rfl) ?_
      refine lv_iconst (v := nI 2) hx hb d_M_end_31 (by decide) ?_
      refine y_callW (y_runV (As := [.int (nI 2)]) (rest := []) hx hb hml hown (c_M_fail l G h dg mp ml 0 n t pl pn xy pt sz rs ou wr sl p fk fp va oa oc ok 2 ) (gV (n := 1) hg tk_764 tk_766 (gt_s 31 (by decide +kernel) (by decide +kernel)) tk_7 tk_767 (by decide +kernel) ⟨Nat.le_of_ble_eq_true rfl, Nat.le_of_ble_eq_true rfl⟩) (va_recv hK hP (ci := 5) (q0 := 0) rfl rfl) (y_preW hE hK hP hD hS hA) rfl rfl hl.1 rfl (lv_room (Nat.le_of_ble_eq_true rfl)) d_M_end_32 ⟨Nat.le_of_ble_eq_true rfl, Nat.le_of_ble_eq_true rfl⟩) hD hS hA (fun _ _ _ _ _ _ hp => False.elim hp) (fun v9 w9 H locs hp hlw hP hD hS => ?_)
      obtain ⟨rfl, rfl⟩ := hp
      have hP : va_P (gD G) vwC (wM G h dg mp ml 2 n t pl pn xy pt sz rs ou wr sl p fk fp va oa oc ok) H := hP
      have hD : va_D A (wM G h dg mp ml 2 n t pl pn xy pt sz rs ou wr sl p fk fp va oa oc ok) := hD
      refine W.eq (g2 := F0 mm 35 ls [.int (nI 0)]) rfl ?_
      exact yr_i (ws := wM G h dg mp ml 2 n t pl pn xy pt sz rs ou wr sl p fk fp va oa oc ok) hx hb hrt hlocks (Or.inr (Or.inl ⟨⟨⟨j, hj, rfl⟩, by omega⟩, rfl, rfl⟩)) rfl hK hP hD hS d_M_end_35
  · skip
    refine lv_aload_n hx hb d_M_end_15 rfl (lv_at hl 0 rfl) ?_
    refine lv_iconst (v := nI 1) hx hb d_M_end_16 (by decide) ?_
    refine y_callW (y_runV (As := [.int (nI 1)]) (rest := []) hx hb hml hown (c_M_fail l G h dg mp ml 0 n t pl pn xy pt sz rs ou wr sl p fk fp va oa oc ok 1 ) (gV (n := 1) hg tk_764 tk_766 (gt_s 31 (by decide +kernel) (by decide +kernel)) tk_7 tk_767 (by decide +kernel) ⟨Nat.le_of_ble_eq_true rfl, Nat.le_of_ble_eq_true rfl⟩) (va_recv hK hP (ci := 5) (q0 := 0) rfl rfl) (y_preW hE hK hP hD hS hA) rfl rfl hl.1 rfl (lv_room (Nat.le_of_ble_eq_true rfl)) d_M_end_17 ⟨Nat.le_of_ble_eq_true rfl, Nat.le_of_ble_eq_true rfl⟩) hD hS hA (fun _ _ _ _ _ _ hp => False.elim hp) (fun v9 w9 H locs hp hlw hP hD hS => ?_)
    obtain ⟨rfl, rfl⟩ := hp
    have hP : va_P (gD G) vwC (wM G h dg mp ml 1 n t pl pn xy pt sz rs ou wr sl p fk fp va oa oc ok) H := hP
    have hD : va_D A (wM G h dg mp ml 1 n t pl pn xy pt sz rs ou wr sl p fk fp va oa oc ok) := hD
    refine W.eq (g2 := F0 mm 20 ls [.int (nI 0)]) rfl ?_
    exact yr_i (ws := wM G h dg mp ml 1 n t pl pn xy pt sz rs ou wr sl p fk fp va oa oc ok) hx hb hrt hlocks (Or.inl ⟨fun y => by obtain ⟨j, h1, h2⟩ := y; rw [h2] at c12; exact c12 (wi_f (by decide) h1), rfl, rfl⟩) rfl hK hP hD hS d_M_end_20
set_option maxHeartbeats 4000000 in
set_option maxRecDepth 100000 in
theorem c_M_fault (l : Launch) (G : gl) (h : Nat → Nat) (dg : Nat) (mp : Nat) (ml : Nat) (th : Nat) (n : Nat) (t : Nat → Nat) (pl : Nat → Int32) (pn : Nat → Nat) (xy : Nat → Int32) (pt : Nat → Nat) (sz : Nat) (rs : Nat → Nat) (ou : Nat → Nat) (wr : Nat) (sl : Nat) (p : Nat) (fk : Nat) (fp : Nat) (va : Int32) (oa : Nat → Int32) (oc : Nat → Int32) (ok : Nat → Int32) (x : Int32)  : YC l G y_M_fault k_M_fault 2 (Option.some FieldType.int) 1 22 [.ref (h 0), .int x] (wM G h dg mp ml th n t pl pn xy pt sz rs ou wr sl p fk fp va oa oc ok) (fun v w => ((x = nI 0) ∧ v = some (.int (nI fk)) ∧ w = wM G h dg mp ml 0 n t pl pn xy pt sz rs ou wr sl p fk fp va oa oc ok) ∨ ((x = nI 1) ∧ v = some (.int (nI fp)) ∧ w = wM G h dg mp ml 0 n t pl pn xy pt sz rs ou wr sl p fk fp va oa oc ok) ∨ ((¬ (x = nI 0 ∨ x = nI 1)) ∧ v = some (.int (nI 0)) ∧ w = wM G h dg mp ml 1 n t pl pn xy pt sz rs ou wr sl p fk fp va oa oc ok)) (fun _ _ => False) := by
  refine yc_of (by decide) ?_
  intro pg ev sx mm bl mt cd A C0 hP hD
  obtain ⟨hx, hb, hrt, hml, hown, hg, hlocks, hxt, hE, hK, hA, hmn⟩ := C0
  have hS : va_S A sx.heap sx.heap [] := va_S.rf
  have hl := lv_entry ([.ref (h 0), .int x]) (n := 2) (Nat.le_of_ble_eq_true rfl)
  rw [lg_entry_eq]
  generalize (lg_sl ([.ref (h 0), .int x]) ++ List.replicate (2 - (lg_sl ([.ref (h 0), .int x])).length) Slot.unset).toArray = ls at hl ⊢
  have hl : lv_has ls 2 [(0, .ref (h 0)), (1, .int x)] := hl
  obtain ⟨H, hH⟩ : ∃ H, H = sx.heap := ⟨_, rfl⟩
  rw [← hH] at hP
  have hS : va_S A sx.heap H [] := by rw [hH]; exact hS
  suffices h9 : W pg l ev (yR 1 22) sx mm _ bl mt cd H [] 0 0 (yMQ bl G A _ _ _ _ sx) (F0 mm 0 ls []) by rw [hH] at h9; exact h9
  obtain ⟨locs, hlo⟩ : ∃ locs : List Loc, locs = [] := ⟨_, rfl⟩
  rw [← hlo] at hS ⊢
  refine lv_aload_n hx hb d_M_fault_0 rfl (lv_at hl 0 rfl) ?_
  refine lv_iconst (v := nI 0) hx hb d_M_fault_1 (by decide) ?_
  refine va_put (D := gD G) (ci := 5) (v := .int (nI 0)) (ty := .int) (C := "WordShapesModel") (T := TM) (N := 24) hx hb hg iw_M ft_M fo_M nm_M hown hK hP hD hS 0 rfl rfl 2 (by decide) (hg _ tk_685) (fun _ h9 => h9) rfl (by decide +kernel) (rfl) (rfl) (Nat.le_of_ble_eq_true rfl) d_M_fault_2 (fun H locs hP hD hS => ?_)
  have hP : va_P (gD G) vwC (wM G h dg mp ml 0 n t pl pn xy pt sz rs ou wr sl p fk fp va oa oc ok) H := hP
  have hD : va_D A (wM G h dg mp ml 0 n t pl pn xy pt sz rs ou wr sl p fk fp va oa oc ok) := hD
  refine lv_iload_n hx hb d_M_fault_5 rfl (lv_at hl 1 rfl) ?_
  refine lv_iconst (v := nI 0) hx hb d_M_fault_6 (by decide) ?_
  refine lv_iconst (v := nI 1) hx hb d_M_fault_7 (by decide) ?_
  refine y_call (y_runS (As := [.int x, .int (nI 0), .int (nI 1)]) (rest := []) hx hb hml hown (c_M_within l G  x (nI 0) (nI 1) ) (gS (n := 3) hg tk_772 tk_773 tk_7 tk_774 (by decide +kernel) ⟨Nat.le_of_ble_eq_true rfl, Nat.le_of_ble_eq_true rfl⟩) (y_pre hE hK hP hD hS hA [] rfl rfl) rfl rfl hl.1 rfl (lv_room (Nat.le_of_ble_eq_true rfl)) d_M_fault_8 ⟨Nat.le_of_ble_eq_true rfl, Nat.le_of_ble_eq_true rfl⟩) hP hD hS hA [] rfl (fun _ _ _ _ _ _ hp => False.elim hp) (fun v9 w9 H locs hp hlw hP hD hS => ?_)
  obtain ⟨rfl, rfl⟩ := hp
  have hP : va_P (gD G) vwC (wM G h dg mp ml 0 n t pl pn xy pt sz rs ou wr sl p fk fp va oa oc ok) H := hP
  have hD : va_D A (wM G h dg mp ml 0 n t pl pn xy pt sz rs ou wr sl p fk fp va oa oc ok) := hD
  refine W.eq (g2 := F0 mm 11 ls [.int (bz (decide ((nI 0) ≤ x ∧ x ≤ (nI 1))))]) rfl ?_
  refine yz_if_eq (P := (nI 0) ≤ x ∧ x ≤ (nI 1)) (tgt := 32) hx hb d_M_fault_11 (by decide) (fun c11 => ?_) (fun c11 => ?_)
  · skip
    refine lv_aload_n hx hb d_M_fault_32 rfl (lv_at hl 0 rfl) ?_
    refine lv_iconst (v := nI 1) hx hb d_M_fault_33 (by decide) ?_
    refine y_callW (y_runV (As := [.int (nI 1)]) (rest := []) hx hb hml hown (c_M_fail l G h dg mp ml 0 n t pl pn xy pt sz rs ou wr sl p fk fp va oa oc ok 1 ) (gV (n := 1) hg tk_764 tk_766 (gt_s 31 (by decide +kernel) (by decide +kernel)) tk_7 tk_767 (by decide +kernel) ⟨Nat.le_of_ble_eq_true rfl, Nat.le_of_ble_eq_true rfl⟩) (va_recv hK hP (ci := 5) (q0 := 0) rfl rfl) (y_preW hE hK hP hD hS hA) rfl rfl hl.1 rfl (lv_room (Nat.le_of_ble_eq_true rfl)) d_M_fault_34 ⟨Nat.le_of_ble_eq_true rfl, Nat.le_of_ble_eq_true rfl⟩) hD hS hA (fun _ _ _ _ _ _ hp => False.elim hp) (fun v9 w9 H locs hp hlw hP hD hS => ?_)
    obtain ⟨rfl, rfl⟩ := hp
    have hP : va_P (gD G) vwC (wM G h dg mp ml 1 n t pl pn xy pt sz rs ou wr sl p fk fp va oa oc ok) H := hP
    have hD : va_D A (wM G h dg mp ml 1 n t pl pn xy pt sz rs ou wr sl p fk fp va oa oc ok) := hD
    refine W.eq (g2 := F0 mm 37 ls [.int (nI 0)]) rfl ?_
    exact yr_i (ws := wM G h dg mp ml 1 n t pl pn xy pt sz rs ou wr sl p fk fp va oa oc ok) hx hb hrt hlocks (by first | exact Or.inl ⟨congrArg nI c15, rfl, rfl⟩ | exact Or.inr (Or.inl ⟨congrArg nI (by omega), rfl, rfl⟩) | exact Or.inr (Or.inr ⟨fun y => by rcases y with y | y <;> (rw [y] at c11; exact c11 (wi_f (by decide) (by decide))), rfl, rfl⟩)) rfl hK hP hD hS d_M_fault_37
  · skip
    obtain ⟨j, hj, rfl⟩ := wi_n (by decide) c11
    refine lv_iload_n hx hb d_M_fault_14 rfl (lv_at hl 1 rfl) ?_
    refine yn_if_ne (a := j) (tgt := 25) hx hb d_M_fault_15 (by decide) (by omega) (fun c15 => ?_) (fun c15 => ?_)
    · skip
      refine lv_aload_n hx hb d_M_fault_25 rfl (lv_at hl 0 rfl) ?_
      refine va_get (D := gD G) (ci := 5) (v := .int (nI fp)) (C := "WordShapesModel") (T := TM) (N := 24) hx hb hg iw_M hown hK hP 0 rfl rfl 19 (by decide) (hg _ tk_702) (fun _ h9 => h9) rfl d_M_fault_26 ?_
      refine lv_goto (tgt := 37) hx hb d_M_fault_29 (by decide) ?_
      exact yr_i (ws := wM G h dg mp ml 0 n t pl pn xy pt sz rs ou wr sl p fk fp va oa oc ok) hx hb hrt hlocks (by first | exact Or.inl ⟨congrArg nI c15, rfl, rfl⟩ | exact Or.inr (Or.inl ⟨congrArg nI (by omega), rfl, rfl⟩) | exact Or.inr (Or.inr ⟨fun y => by rcases y with y | y <;> (rw [y] at c11; exact c11 (wi_f (by decide) (by decide))), rfl, rfl⟩)) rfl hK hP hD hS d_M_fault_37
    · skip
      refine lv_aload_n hx hb d_M_fault_18 rfl (lv_at hl 0 rfl) ?_
      refine va_get (D := gD G) (ci := 5) (v := .int (nI fk)) (C := "WordShapesModel") (T := TM) (N := 24) hx hb hg iw_M hown hK hP 0 rfl rfl 18 (by decide) (hg _ tk_701) (fun _ h9 => h9) rfl d_M_fault_19 ?_
      refine lv_goto (tgt := 37) hx hb d_M_fault_22 (by decide) ?_
      exact yr_i (ws := wM G h dg mp ml 0 n t pl pn xy pt sz rs ou wr sl p fk fp va oa oc ok) hx hb hrt hlocks (by first | exact Or.inl ⟨congrArg nI c15, rfl, rfl⟩ | exact Or.inr (Or.inl ⟨congrArg nI (by omega), rfl, rfl⟩) | exact Or.inr (Or.inr ⟨fun y => by rcases y with y | y <;> (rw [y] at c11; exact c11 (wi_f (by decide) (by decide))), rfl, rfl⟩)) rfl hK hP hD hS d_M_fault_37
set_option maxHeartbeats 4000000 in
set_option maxRecDepth 100000 in
theorem c_M_again (l : Launch) (G : gl) (h : Nat → Nat) (dg : Nat) (mp : Nat) (ml : Nat) (th : Nat) (n : Nat) (t : Nat → Nat) (pl : Nat → Int32) (pn : Nat → Nat) (xy : Nat → Int32) (pt : Nat → Nat) (sz : Nat) (rs : Nat → Nat) (ou : Nat → Nat) (wr : Nat) (sl : Nat) (p : Nat) (fk : Nat) (fp : Nat) (va : Int32) (oa : Nat → Int32) (oc : Nat → Int32) (ok : Nat → Int32)  (hsz : sz ≤ 131072) : YC l G y_M_again k_M_again 2 (Option.some FieldType.int) 0 0 [.ref (h 0)] (wM G h dg mp ml th n t pl pn xy pt sz rs ou wr sl p fk fp va oa oc ok) (fun v w => v = some (.int (nI (min sz 65536))) ∧ w = wM G h dg mp ml 0 (min sz 65536) (cpT rs t (min sz 65536)) pl pn xy pt sz rs ou wr sl p fk fp va oa oc ok) (fun _ _ => False) := by
  refine yc_of (by decide) ?_
  intro pg ev sx mm bl mt cd A C0 hP hD
  obtain ⟨hx, hb, hrt, hml, hown, hg, hlocks, hxt, hE, hK, hA, hmn⟩ := C0
  have hS : va_S A sx.heap sx.heap [] := va_S.rf
  have hl := lv_entry ([.ref (h 0)]) (n := 2) (Nat.le_of_ble_eq_true rfl)
  rw [lg_entry_eq]
  generalize (lg_sl ([.ref (h 0)]) ++ List.replicate (2 - (lg_sl ([.ref (h 0)])).length) Slot.unset).toArray = ls at hl ⊢
  have hl : lv_has ls 2 [(0, .ref (h 0))] := hl
  obtain ⟨H, hH⟩ : ∃ H, H = sx.heap := ⟨_, rfl⟩
  rw [← hH] at hP
  have hS : va_S A sx.heap H [] := by rw [hH]; exact hS
  suffices h9 : W pg l ev (yR 0 0) sx mm _ bl mt cd H [] 0 0 (yMQ bl G A _ _ _ _ sx) (F0 mm 0 ls []) by rw [hH] at h9; exact h9
  obtain ⟨locs, hlo⟩ : ∃ locs : List Loc, locs = [] := ⟨_, rfl⟩
  rw [← hlo] at hS ⊢
  have J29 : ∀ (n9 : Nat) (k : Nat) (hm9 : min sz 65536 - k < n9) (hk : k ≤ min sz 65536) (H : Heap) (locs : List Loc) (ls : Array Slot), va_P (gD G) vwC (wM G h dg mp ml 0 (min sz 65536) (cpT rs t k) pl pn xy pt sz rs ou wr sl p fk fp va oa oc ok) H → va_D A (wM G h dg mp ml 0 (min sz 65536) (cpT rs t k) pl pn xy pt sz rs ou wr sl p fk fp va oa oc ok) → va_S A sx.heap H locs → lv_has ls 2 [(0, .ref (h 0)), (1, .int (nI k))] → W pg l ev (yR 0 0) sx mm ([.ref (h 0)] : List Value).toArray bl mt cd H locs 0 0 (yMQ bl G A (wM G h dg mp ml th n t pl pn xy pt sz rs ou wr sl p fk fp va oa oc ok).length (fun v w => v = some (.int (nI (min sz 65536))) ∧ w = wM G h dg mp ml 0 (min sz 65536) (cpT rs t (min sz 65536)) pl pn xy pt sz rs ou wr sl p fk fp va oa oc ok) (fun _ _ => False) ([.ref (h 0)] : List Value).toArray sx) (F0 mm 29 ls []) := by
    intro n9
    induction n9 with
    | zero => intro k hm9; exact absurd hm9 (Nat.not_lt_zero _)
    | succ n9 ih9 =>
      intro k hm9 hk H locs ls hP hD hS hl
      refine lv_iload_n hx hb d_M_again_29 rfl (lv_at hl 1 rfl) ?_
      refine lv_aload_n hx hb d_M_again_30 rfl (lv_at hl 0 rfl) ?_
      refine va_get (D := gD G) (ci := 5) (v := .int (nI (min sz 65536))) (C := "WordShapesModel") (T := TM) (N := 24) hx hb hg iw_M hown hK hP 0 rfl rfl 6 (by decide) (hg _ tk_689) (fun _ h9 => h9) rfl d_M_again_31 ?_
      refine yn_icmp_ge (a := k) (b := min sz 65536) (tgt := 55) hx hb d_M_again_34 (by decide) (by omega) (by omega) (fun c34 => ?_) (fun c34 => ?_)
      · skip
        obtain rfl : k = min sz 65536 := by omega
        refine lv_aload_n hx hb d_M_again_55 rfl (lv_at hl 0 rfl) ?_
        refine va_get (D := gD G) (ci := 5) (v := .int (nI (min sz 65536))) (C := "WordShapesModel") (T := TM) (N := 24) hx hb hg iw_M hown hK hP 0 rfl rfl 6 (by decide) (hg _ tk_689) (fun _ h9 => h9) rfl d_M_again_56 ?_
        exact yr_i (ws := wM G h dg mp ml 0 (min sz 65536) (cpT rs t (min sz 65536)) pl pn xy pt sz rs ou wr sl p fk fp va oa oc ok) hx hb hrt hlocks (⟨rfl, rfl⟩) rfl hK hP hD hS d_M_again_59
      · skip
        refine lv_aload_n hx hb d_M_again_37 rfl (lv_at hl 0 rfl) ?_
        refine va_get (D := gD G) (ci := 5) (v := .ref (h 3)) (C := "WordShapesModel") (T := TM) (N := 24) hx hb hg iw_M hown hK hP 0 rfl rfl 7 (by decide) (hg _ tk_690) (fun _ h9 => h9) rfl d_M_again_38 ?_
        refine lv_iload_n hx hb d_M_again_41 rfl (lv_at hl 1 rfl) ?_
        refine lv_aload_n hx hb d_M_again_42 rfl (lv_at hl 0 rfl) ?_
        refine va_get (D := gD G) (ci := 5) (v := .ref (h 8)) (C := "WordShapesModel") (T := TM) (N := 24) hx hb hg iw_M hown hK hP 0 rfl rfl 13 (by decide) (hg _ tk_696) (fun _ h9 => h9) rfl d_M_again_43 ?_
        refine lv_iload_n hx hb d_M_again_46 rfl (lv_at hl 1 rfl) ?_
        refine yn_iald hx hb hK hP 8 0 rfl rfl (j := k) (x := nI (rs k)) (rfl) (by omega) (by omega) d_M_again_47 ?_
        refine yn_iast hx hb hK hP hD hS 3 0 rfl rfl (j := k) (x := nI (rs k)) (f1 := fun i => nI ((cpT rs t (k + 1)) i)) ((vu_st _ _ _).trans (by rw [cpT_s])) (by omega) (by omega) d_M_again_48 (fun H locs hP hD hS => ?_)
        have hP : va_P (gD G) vwC (wM G h dg mp ml 0 (min sz 65536) (cpT rs t (k + 1)) pl pn xy pt sz rs ou wr sl p fk fp va oa oc ok) H := hP
        have hD : va_D A (wM G h dg mp ml 0 (min sz 65536) (cpT rs t (k + 1)) pl pn xy pt sz rs ou wr sl p fk fp va oa oc ok) := hD
        refine lv_iinc (v := nI (k + 1)) (lv' := [(1, .int (nI (k + 1))), (0, .ref (h 0))]) hx hb d_M_again_49 hl (k := 1) rfl (y_inc _) (by decide) rfl (fun ls hl => ?_)
        refine lv_goto (tgt := 29) hx hb d_M_again_52 (by decide) ?_
        exact ih9 (k + 1) (by omega) (by omega) _ _ _ hP hD hS (lv_sub hl [1, 0] (rfl))
  refine lv_aload_n hx hb d_M_again_0 rfl (lv_at hl 0 rfl) ?_
  refine lv_iconst (v := nI 0) hx hb d_M_again_1 (by decide) ?_
  refine va_put (D := gD G) (ci := 5) (v := .int (nI 0)) (ty := .int) (C := "WordShapesModel") (T := TM) (N := 24) hx hb hg iw_M ft_M fo_M nm_M hown hK hP hD hS 0 rfl rfl 2 (by decide) (hg _ tk_685) (fun _ h9 => h9) rfl (by decide +kernel) (rfl) (rfl) (Nat.le_of_ble_eq_true rfl) d_M_again_2 (fun H locs hP hD hS => ?_)
  have hP : va_P (gD G) vwC (wM G h dg mp ml 0 n t pl pn xy pt sz rs ou wr sl p fk fp va oa oc ok) H := hP
  have hD : va_D A (wM G h dg mp ml 0 n t pl pn xy pt sz rs ou wr sl p fk fp va oa oc ok) := hD
  refine lv_aload_n hx hb d_M_again_5 rfl (lv_at hl 0 rfl) ?_
  refine lv_aload_n hx hb d_M_again_6 rfl (lv_at hl 0 rfl) ?_
  refine va_get (D := gD G) (ci := 5) (v := .int (nI sz)) (C := "WordShapesModel") (T := TM) (N := 24) hx hb hg iw_M hown hK hP 0 rfl rfl 12 (by decide) (hg _ tk_695) (fun _ h9 => h9) rfl d_M_again_7 ?_
  refine lv_ldc (v := nI 65536) hx hb hown (hg _ tk_680) d_M_again_10 ?_
  refine yn_icmp_ge (a := sz) (b := 65536) (tgt := 22) hx hb d_M_again_12 (by decide) (by omega) (by omega) (fun c12 => ?_) (fun c12 => ?_)
  · skip
    refine lv_ldc (v := nI 65536) hx hb hown (hg _ tk_680) d_M_again_22 ?_
    refine y_eqi (y := nI (min sz 65536)) (congrArg nI (by omega)) ?_
    refine va_put (D := gD G) (ci := 5) (v := .int (nI (min sz 65536))) (ty := .int) (C := "WordShapesModel") (T := TM) (N := 24) hx hb hg iw_M ft_M fo_M nm_M hown hK hP hD hS 0 rfl rfl 6 (by decide) (hg _ tk_689) (fun _ h9 => h9) rfl (by decide +kernel) (rfl) (rfl) (Nat.le_of_ble_eq_true rfl) d_M_again_24 (fun H locs hP hD hS => ?_)
    have hP : va_P (gD G) vwC (wM G h dg mp ml 0 (min sz 65536) t pl pn xy pt sz rs ou wr sl p fk fp va oa oc ok) H := hP
    have hD : va_D A (wM G h dg mp ml 0 (min sz 65536) t pl pn xy pt sz rs ou wr sl p fk fp va oa oc ok) := hD
    rw [← cpT_0 rs t] at hP hD
    have hP : va_P (gD G) vwC (wM G h dg mp ml 0 (min sz 65536) (cpT rs t 0) pl pn xy pt sz rs ou wr sl p fk fp va oa oc ok) H := hP
    have hD : va_D A (wM G h dg mp ml 0 (min sz 65536) (cpT rs t 0) pl pn xy pt sz rs ou wr sl p fk fp va oa oc ok) := hD
    refine lv_iconst (v := nI 0) hx hb d_M_again_27 (by decide) ?_
    refine lv_istore_n (lv' := [(1, .int (nI 0)), (0, .ref (h 0))]) hx hb d_M_again_28 rfl hl (by decide) rfl (fun ls hl => ?_)
    exact J29 _ 0 (Nat.lt_succ_self _) (by omega) _ _ _ hP hD hS (lv_sub hl [1, 0] (rfl))
  · skip
    refine lv_aload_n hx hb d_M_again_15 rfl (lv_at hl 0 rfl) ?_
    refine va_get (D := gD G) (ci := 5) (v := .int (nI sz)) (C := "WordShapesModel") (T := TM) (N := 24) hx hb hg iw_M hown hK hP 0 rfl rfl 12 (by decide) (hg _ tk_695) (fun _ h9 => h9) rfl d_M_again_16 ?_
    refine lv_goto (tgt := 24) hx hb d_M_again_19 (by decide) ?_
    refine y_eqi (y := nI (min sz 65536)) (congrArg nI (by omega)) ?_
    refine va_put (D := gD G) (ci := 5) (v := .int (nI (min sz 65536))) (ty := .int) (C := "WordShapesModel") (T := TM) (N := 24) hx hb hg iw_M ft_M fo_M nm_M hown hK hP hD hS 0 rfl rfl 6 (by decide) (hg _ tk_689) (fun _ h9 => h9) rfl (by decide +kernel) (rfl) (rfl) (Nat.le_of_ble_eq_true rfl) d_M_again_24 (fun H locs hP hD hS => ?_)
    have hP : va_P (gD G) vwC (wM G h dg mp ml 0 (min sz 65536) t pl pn xy pt sz rs ou wr sl p fk fp va oa oc ok) H := hP
    have hD : va_D A (wM G h dg mp ml 0 (min sz 65536) t pl pn xy pt sz rs ou wr sl p fk fp va oa oc ok) := hD
    rw [← cpT_0 rs t] at hP hD
    have hP : va_P (gD G) vwC (wM G h dg mp ml 0 (min sz 65536) (cpT rs t 0) pl pn xy pt sz rs ou wr sl p fk fp va oa oc ok) H := hP
    have hD : va_D A (wM G h dg mp ml 0 (min sz 65536) (cpT rs t 0) pl pn xy pt sz rs ou wr sl p fk fp va oa oc ok) := hD
    refine lv_iconst (v := nI 0) hx hb d_M_again_27 (by decide) ?_
    refine lv_istore_n (lv' := [(1, .int (nI 0)), (0, .ref (h 0))]) hx hb d_M_again_28 rfl hl (by decide) rfl (fun ls hl => ?_)
    exact J29 _ 0 (Nat.lt_succ_self _) (by omega) _ _ _ hP hD hS (lv_sub hl [1, 0] (rfl))
set_option maxHeartbeats 4000000 in
set_option maxRecDepth 100000 in
theorem c_M_plan (l : Launch) (G : gl) (h : Nat → Nat) (dg : Nat) (mp : Nat) (ml : Nat) (th : Nat) (n : Nat) (t : Nat → Nat) (pl : Nat → Int32) (pn : Nat → Nat) (xy : Nat → Int32) (pt : Nat → Nat) (sz : Nat) (rs : Nat → Nat) (ou : Nat → Nat) (wr : Nat) (sl : Nat) (p : Nat) (fk : Nat) (fp : Nat) (va : Int32) (oa : Nat → Int32) (oc : Nat → Int32) (ok : Nat → Int32) (s : Int32) (i : Int32) (hpn : ∀ j, pn j ≤ 4096) (hpt : ∀ j, pt j ≤ 4096) : YC l G y_M_plan k_M_plan 3 (Option.some FieldType.int) 2 42 [.ref (h 0), .int s, .int i] (wM G h dg mp ml th n t pl pn xy pt sz rs ou wr sl p fk fp va oa oc ok) (fun v w => (∃ j q, (j < 4 ∧ s = nI j ∧ q < pn j ∧ i = nI q) ∧ v = some (.int (pl (4096 * j + q))) ∧ w = wM G h dg mp ml 0 n t pl pn xy pt sz rs ou wr sl p fk fp va oa oc ok) ∨ ((¬ ∃ j q, j < 4 ∧ s = nI j ∧ q < pn j ∧ i = nI q) ∧ v = some (.int (nI 0)) ∧ w = wM G h dg mp ml 1 n t pl pn xy pt sz rs ou wr sl p fk fp va oa oc ok)) (fun _ _ => False) := by
  refine yc_of (by decide) ?_
  intro pg ev sx mm bl mt cd A C0 hP hD
  obtain ⟨hx, hb, hrt, hml, hown, hg, hlocks, hxt, hE, hK, hA, hmn⟩ := C0
  have hS : va_S A sx.heap sx.heap [] := va_S.rf
  have hl := lv_entry ([.ref (h 0), .int s, .int i]) (n := 3) (Nat.le_of_ble_eq_true rfl)
  rw [lg_entry_eq]
  generalize (lg_sl ([.ref (h 0), .int s, .int i]) ++ List.replicate (3 - (lg_sl ([.ref (h 0), .int s, .int i])).length) Slot.unset).toArray = ls at hl ⊢
  have hl : lv_has ls 3 [(0, .ref (h 0)), (1, .int s), (2, .int i)] := hl
  obtain ⟨H, hH⟩ : ∃ H, H = sx.heap := ⟨_, rfl⟩
  rw [← hH] at hP
  have hS : va_S A sx.heap H [] := by rw [hH]; exact hS
  suffices h9 : W pg l ev (yR 2 42) sx mm _ bl mt cd H [] 0 0 (yMQ bl G A _ _ _ _ sx) (F0 mm 0 ls []) by rw [hH] at h9; exact h9
  obtain ⟨locs, hlo⟩ : ∃ locs : List Loc, locs = [] := ⟨_, rfl⟩
  rw [← hlo] at hS ⊢
  refine lv_aload_n hx hb d_M_plan_0 rfl (lv_at hl 0 rfl) ?_
  refine lv_iconst (v := nI 0) hx hb d_M_plan_1 (by decide) ?_
  refine va_put (D := gD G) (ci := 5) (v := .int (nI 0)) (ty := .int) (C := "WordShapesModel") (T := TM) (N := 24) hx hb hg iw_M ft_M fo_M nm_M hown hK hP hD hS 0 rfl rfl 2 (by decide) (hg _ tk_685) (fun _ h9 => h9) rfl (by decide +kernel) (rfl) (rfl) (Nat.le_of_ble_eq_true rfl) d_M_plan_2 (fun H locs hP hD hS => ?_)
  have hP : va_P (gD G) vwC (wM G h dg mp ml 0 n t pl pn xy pt sz rs ou wr sl p fk fp va oa oc ok) H := hP
  have hD : va_D A (wM G h dg mp ml 0 n t pl pn xy pt sz rs ou wr sl p fk fp va oa oc ok) := hD
  refine lv_iload_n hx hb d_M_plan_5 rfl (lv_at hl 1 rfl) ?_
  refine y_call (y_runS (As := [.int s]) (rest := []) hx hb hml hown (c_M_isSlot l G  s ) (gS (n := 1) hg tk_779 tk_780 tk_7 tk_781 (by decide +kernel) ⟨Nat.le_of_ble_eq_true rfl, Nat.le_of_ble_eq_true rfl⟩) (y_pre hE hK hP hD hS hA [] rfl rfl) rfl rfl hl.1 rfl (lv_room (Nat.le_of_ble_eq_true rfl)) d_M_plan_6 ⟨Nat.le_of_ble_eq_true rfl, Nat.le_of_ble_eq_true rfl⟩) hP hD hS hA [] rfl (fun _ _ _ _ _ _ hp => False.elim hp) (fun v9 w9 H locs hp hlw hP hD hS => ?_)
  obtain ⟨rfl, rfl⟩ := hp
  have hP : va_P (gD G) vwC (wM G h dg mp ml 0 n t pl pn xy pt sz rs ou wr sl p fk fp va oa oc ok) H := hP
  have hD : va_D A (wM G h dg mp ml 0 n t pl pn xy pt sz rs ou wr sl p fk fp va oa oc ok) := hD
  refine W.eq (g2 := F0 mm 9 ls [.int (bz (decide (nI 0 ≤ s ∧ s ≤ nI 3)))]) rfl ?_
  refine yz_if_eq (P := nI 0 ≤ s ∧ s ≤ nI 3) (tgt := 43) hx hb d_M_plan_9 (by decide) (fun c9 => ?_) (fun c9 => ?_)
  · skip
    refine lv_aload_n hx hb d_M_plan_43 rfl (lv_at hl 0 rfl) ?_
    refine lv_iconst (v := nI 1) hx hb d_M_plan_44 (by decide) ?_
    refine y_callW (y_runV (As := [.int (nI 1)]) (rest := []) hx hb hml hown (c_M_fail l G h dg mp ml 0 n t pl pn xy pt sz rs ou wr sl p fk fp va oa oc ok 1 ) (gV (n := 1) hg tk_764 tk_766 (gt_s 31 (by decide +kernel) (by decide +kernel)) tk_7 tk_767 (by decide +kernel) ⟨Nat.le_of_ble_eq_true rfl, Nat.le_of_ble_eq_true rfl⟩) (va_recv hK hP (ci := 5) (q0 := 0) rfl rfl) (y_preW hE hK hP hD hS hA) rfl rfl hl.1 rfl (lv_room (Nat.le_of_ble_eq_true rfl)) d_M_plan_45 ⟨Nat.le_of_ble_eq_true rfl, Nat.le_of_ble_eq_true rfl⟩) hD hS hA (fun _ _ _ _ _ _ hp => False.elim hp) (fun v9 w9 H locs hp hlw hP hD hS => ?_)
    obtain ⟨rfl, rfl⟩ := hp
    have hP : va_P (gD G) vwC (wM G h dg mp ml 1 n t pl pn xy pt sz rs ou wr sl p fk fp va oa oc ok) H := hP
    have hD : va_D A (wM G h dg mp ml 1 n t pl pn xy pt sz rs ou wr sl p fk fp va oa oc ok) := hD
    refine W.eq (g2 := F0 mm 48 ls [.int (nI 0)]) rfl ?_
    exact yr_i (ws := wM G h dg mp ml 1 n t pl pn xy pt sz rs ou wr sl p fk fp va oa oc ok) hx hb hrt hlocks (by first | exact Or.inl ⟨j, q, ⟨hj, rfl, hq, rfl⟩, rfl, rfl⟩ | exact Or.inr ⟨fun y => by obtain ⟨j2, q2, h1, h2, h3, h4⟩ := y; first | (have e9 : j = j2 := (nI_eq (by omega) (by omega)).mp h2; subst e9; rw [h4] at c25; exact c25 (wi_g (by omega) h3)) | (rw [h2] at c9; exact c9 (wi_f (by decide) (by omega))), rfl, rfl⟩) rfl hK hP hD hS d_M_plan_48
  · skip
    obtain ⟨j, hj, rfl⟩ : ∃ j, j < 4 ∧ s = nI j := by obtain ⟨y, h1, h2⟩ := wi_n (by decide) c9; exact ⟨y, by omega, h2⟩
    have hpnj := hpn j
    have hptj := hpt j
    refine lv_iload_n hx hb d_M_plan_12 rfl (lv_at hl 2 rfl) ?_
    refine lv_iconst (v := nI 0) hx hb d_M_plan_13 (by decide) ?_
    refine lv_aload_n hx hb d_M_plan_14 rfl (lv_at hl 0 rfl) ?_
    refine va_get (D := gD G) (ci := 5) (v := .ref (h 5)) (C := "WordShapesModel") (T := TM) (N := 24) hx hb hg iw_M hown hK hP 0 rfl rfl 9 (by decide) (hg _ tk_692) (fun _ h9 => h9) rfl d_M_plan_15 ?_
    refine lv_iload_n hx hb d_M_plan_18 rfl (lv_at hl 1 rfl) ?_
    refine yn_iald hx hb hK hP 5 0 rfl rfl (j := j) (x := nI (pn j)) (rfl) (by omega) (by omega) d_M_plan_19 ?_
    refine lv_iconst (v := nI 1) hx hb d_M_plan_20 (by decide) ?_
    refine lv_isub hx hb d_M_plan_21 ?_
    refine y_eqi (y := nI (pn j) - nI 1) (rfl) ?_
    refine y_call (y_runS (As := [.int i, .int (nI 0), .int (nI (pn j) - nI 1)]) (rest := []) hx hb hml hown (c_M_within l G  i (nI 0) (nI (pn j) - nI 1) ) (gS (n := 3) hg tk_772 tk_773 tk_7 tk_774 (by decide +kernel) ⟨Nat.le_of_ble_eq_true rfl, Nat.le_of_ble_eq_true rfl⟩) (y_pre hE hK hP hD hS hA [] rfl rfl) rfl rfl hl.1 rfl (lv_room (Nat.le_of_ble_eq_true rfl)) d_M_plan_22 ⟨Nat.le_of_ble_eq_true rfl, Nat.le_of_ble_eq_true rfl⟩) hP hD hS hA [] rfl (fun _ _ _ _ _ _ hp => False.elim hp) (fun v9 w9 H locs hp hlw hP hD hS => ?_)
    obtain ⟨rfl, rfl⟩ := hp
    have hP : va_P (gD G) vwC (wM G h dg mp ml 0 n t pl pn xy pt sz rs ou wr sl p fk fp va oa oc ok) H := hP
    have hD : va_D A (wM G h dg mp ml 0 n t pl pn xy pt sz rs ou wr sl p fk fp va oa oc ok) := hD
    refine W.eq (g2 := F0 mm 25 ls [.int (bz (decide ((nI 0) ≤ i ∧ i ≤ (nI (pn j) - nI 1))))]) rfl ?_
    refine yz_if_eq (P := (nI 0) ≤ i ∧ i ≤ (nI (pn j) - nI 1)) (tgt := 43) hx hb d_M_plan_25 (by decide) (fun c25 => ?_) (fun c25 => ?_)
    · skip
      refine lv_aload_n hx hb d_M_plan_43 rfl (lv_at hl 0 rfl) ?_
      refine lv_iconst (v := nI 1) hx hb d_M_plan_44 (by decide) ?_
      refine y_callW (y_runV (As := [.int (nI 1)]) (rest := []) hx hb hml hown (c_M_fail l G h dg mp ml 0 n t pl pn xy pt sz rs ou wr sl p fk fp va oa oc ok 1 ) (gV (n := 1) hg tk_764 tk_766 (gt_s 31 (by decide +kernel) (by decide +kernel)) tk_7 tk_767 (by decide +kernel) ⟨Nat.le_of_ble_eq_true rfl, Nat.le_of_ble_eq_true rfl⟩) (va_recv hK hP (ci := 5) (q0 := 0) rfl rfl) (y_preW hE hK hP hD hS hA) rfl rfl hl.1 rfl (lv_room (Nat.le_of_ble_eq_true rfl)) d_M_plan_45 ⟨Nat.le_of_ble_eq_true rfl, Nat.le_of_ble_eq_true rfl⟩) hD hS hA (fun _ _ _ _ _ _ hp => False.elim hp) (fun v9 w9 H locs hp hlw hP hD hS => ?_)
      obtain ⟨rfl, rfl⟩ := hp
      have hP : va_P (gD G) vwC (wM G h dg mp ml 1 n t pl pn xy pt sz rs ou wr sl p fk fp va oa oc ok) H := hP
      have hD : va_D A (wM G h dg mp ml 1 n t pl pn xy pt sz rs ou wr sl p fk fp va oa oc ok) := hD
      refine W.eq (g2 := F0 mm 48 ls [.int (nI 0)]) rfl ?_
      exact yr_i (ws := wM G h dg mp ml 1 n t pl pn xy pt sz rs ou wr sl p fk fp va oa oc ok) hx hb hrt hlocks (by first | exact Or.inl ⟨j, q, ⟨hj, rfl, hq, rfl⟩, rfl, rfl⟩ | exact Or.inr ⟨fun y => by obtain ⟨j2, q2, h1, h2, h3, h4⟩ := y; first | (have e9 : j = j2 := (nI_eq (by omega) (by omega)).mp h2; subst e9; rw [h4] at c25; exact c25 (wi_g (by omega) h3)) | (rw [h2] at c9; exact c9 (wi_f (by decide) (by omega))), rfl, rfl⟩) rfl hK hP hD hS d_M_plan_48
    · skip
      obtain ⟨q, hq, rfl⟩ := wi_m (by omega) c25
      refine lv_aload_n hx hb d_M_plan_28 rfl (lv_at hl 0 rfl) ?_
      refine va_get (D := gD G) (ci := 5) (v := .ref (h 4)) (C := "WordShapesModel") (T := TM) (N := 24) hx hb hg iw_M hown hK hP 0 rfl rfl 8 (by decide) (hg _ tk_691) (fun _ h9 => h9) rfl d_M_plan_29 ?_
      refine lv_sipush (v := nI 4096) hx hb d_M_plan_32 (by decide) ?_
      refine lv_iload_n hx hb d_M_plan_35 rfl (lv_at hl 1 rfl) ?_
      refine lv_imul hx hb d_M_plan_36 ?_
      refine y_eqi (pk_mul _ _) ?_
      refine lv_iload_n hx hb d_M_plan_37 rfl (lv_at hl 2 rfl) ?_
      refine lv_iadd hx hb d_M_plan_38 ?_
      refine y_eqi (nI_add _ _) ?_
      refine yn_iald hx hb hK hP 4 0 rfl rfl (j := 4096 * j + q) (x := pl (4096 * j + q)) (rfl) (by omega) (by omega) d_M_plan_39 ?_
      refine lv_goto (tgt := 48) hx hb d_M_plan_40 (by decide) ?_
      exact yr_i (ws := wM G h dg mp ml 0 n t pl pn xy pt sz rs ou wr sl p fk fp va oa oc ok) hx hb hrt hlocks (by first | exact Or.inl ⟨j, q, ⟨hj, rfl, hq, rfl⟩, rfl, rfl⟩ | exact Or.inr ⟨fun y => by obtain ⟨j2, q2, h1, h2, h3, h4⟩ := y; first | (have e9 : j = j2 := (nI_eq (by omega) (by omega)).mp h2; subst e9; rw [h4] at c25; exact c25 (wi_g (by omega) h3)) | (rw [h2] at c9; exact c9 (wi_f (by decide) (by omega))), rfl, rfl⟩) rfl hK hP hD hS d_M_plan_48
set_option maxHeartbeats 4000000 in
set_option maxRecDepth 100000 in
theorem c_M_ordinate (l : Launch) (G : gl) (h : Nat → Nat) (dg : Nat) (mp : Nat) (ml : Nat) (th : Nat) (n : Nat) (t : Nat → Nat) (pl : Nat → Int32) (pn : Nat → Nat) (xy : Nat → Int32) (pt : Nat → Nat) (sz : Nat) (rs : Nat → Nat) (ou : Nat → Nat) (wr : Nat) (sl : Nat) (p : Nat) (fk : Nat) (fp : Nat) (va : Int32) (oa : Nat → Int32) (oc : Nat → Int32) (ok : Nat → Int32) (s : Int32) (i : Int32) (x : Int32) (hpn : ∀ j, pn j ≤ 4096) (hpt : ∀ j, pt j ≤ 4096) : YC l G y_M_ordinate k_M_ordinate 4 (Option.some FieldType.int) 2 42 [.ref (h 0), .int s, .int i, .int x] (wM G h dg mp ml th n t pl pn xy pt sz rs ou wr sl p fk fp va oa oc ok) (fun v w => (∃ j q z, (j < 4 ∧ s = nI j ∧ q < pt j ∧ i = nI q ∧ z ≤ 1 ∧ x = nI z) ∧ v = some (.int (xy (8192 * j + (2 * q + z)))) ∧ w = wM G h dg mp ml 0 n t pl pn xy pt sz rs ou wr sl p fk fp va oa oc ok) ∨ ((¬ ∃ j q z, j < 4 ∧ s = nI j ∧ q < pt j ∧ i = nI q ∧ z ≤ 1 ∧ x = nI z) ∧ v = some (.int (nI 0)) ∧ w = wM G h dg mp ml 1 n t pl pn xy pt sz rs ou wr sl p fk fp va oa oc ok)) (fun _ _ => False) := by
  refine yc_of (by decide) ?_
  intro pg ev sx mm bl mt cd A C0 hP hD
  obtain ⟨hx, hb, hrt, hml, hown, hg, hlocks, hxt, hE, hK, hA, hmn⟩ := C0
  have hS : va_S A sx.heap sx.heap [] := va_S.rf
  have hl := lv_entry ([.ref (h 0), .int s, .int i, .int x]) (n := 4) (Nat.le_of_ble_eq_true rfl)
  rw [lg_entry_eq]
  generalize (lg_sl ([.ref (h 0), .int s, .int i, .int x]) ++ List.replicate (4 - (lg_sl ([.ref (h 0), .int s, .int i, .int x])).length) Slot.unset).toArray = ls at hl ⊢
  have hl : lv_has ls 4 [(0, .ref (h 0)), (1, .int s), (2, .int i), (3, .int x)] := hl
  obtain ⟨H, hH⟩ : ∃ H, H = sx.heap := ⟨_, rfl⟩
  rw [← hH] at hP
  have hS : va_S A sx.heap H [] := by rw [hH]; exact hS
  suffices h9 : W pg l ev (yR 2 42) sx mm _ bl mt cd H [] 0 0 (yMQ bl G A _ _ _ _ sx) (F0 mm 0 ls []) by rw [hH] at h9; exact h9
  obtain ⟨locs, hlo⟩ : ∃ locs : List Loc, locs = [] := ⟨_, rfl⟩
  rw [← hlo] at hS ⊢
  refine lv_aload_n hx hb d_M_ordinate_0 rfl (lv_at hl 0 rfl) ?_
  refine lv_iconst (v := nI 0) hx hb d_M_ordinate_1 (by decide) ?_
  refine va_put (D := gD G) (ci := 5) (v := .int (nI 0)) (ty := .int) (C := "WordShapesModel") (T := TM) (N := 24) hx hb hg iw_M ft_M fo_M nm_M hown hK hP hD hS 0 rfl rfl 2 (by decide) (hg _ tk_685) (fun _ h9 => h9) rfl (by decide +kernel) (rfl) (rfl) (Nat.le_of_ble_eq_true rfl) d_M_ordinate_2 (fun H locs hP hD hS => ?_)
  have hP : va_P (gD G) vwC (wM G h dg mp ml 0 n t pl pn xy pt sz rs ou wr sl p fk fp va oa oc ok) H := hP
  have hD : va_D A (wM G h dg mp ml 0 n t pl pn xy pt sz rs ou wr sl p fk fp va oa oc ok) := hD
  refine lv_iload_n hx hb d_M_ordinate_5 rfl (lv_at hl 1 rfl) ?_
  refine y_call (y_runS (As := [.int s]) (rest := []) hx hb hml hown (c_M_isSlot l G  s ) (gS (n := 1) hg tk_779 tk_780 tk_7 tk_781 (by decide +kernel) ⟨Nat.le_of_ble_eq_true rfl, Nat.le_of_ble_eq_true rfl⟩) (y_pre hE hK hP hD hS hA [] rfl rfl) rfl rfl hl.1 rfl (lv_room (Nat.le_of_ble_eq_true rfl)) d_M_ordinate_6 ⟨Nat.le_of_ble_eq_true rfl, Nat.le_of_ble_eq_true rfl⟩) hP hD hS hA [] rfl (fun _ _ _ _ _ _ hp => False.elim hp) (fun v9 w9 H locs hp hlw hP hD hS => ?_)
  obtain ⟨rfl, rfl⟩ := hp
  have hP : va_P (gD G) vwC (wM G h dg mp ml 0 n t pl pn xy pt sz rs ou wr sl p fk fp va oa oc ok) H := hP
  have hD : va_D A (wM G h dg mp ml 0 n t pl pn xy pt sz rs ou wr sl p fk fp va oa oc ok) := hD
  refine W.eq (g2 := F0 mm 9 ls [.int (bz (decide (nI 0 ≤ s ∧ s ≤ nI 3)))]) rfl ?_
  refine yz_if_eq (P := nI 0 ≤ s ∧ s ≤ nI 3) (tgt := 56) hx hb d_M_ordinate_9 (by decide) (fun c9 => ?_) (fun c9 => ?_)
  · skip
    refine lv_aload_n hx hb d_M_ordinate_56 rfl (lv_at hl 0 rfl) ?_
    refine lv_iconst (v := nI 1) hx hb d_M_ordinate_57 (by decide) ?_
    refine y_callW (y_runV (As := [.int (nI 1)]) (rest := []) hx hb hml hown (c_M_fail l G h dg mp ml 0 n t pl pn xy pt sz rs ou wr sl p fk fp va oa oc ok 1 ) (gV (n := 1) hg tk_764 tk_766 (gt_s 31 (by decide +kernel) (by decide +kernel)) tk_7 tk_767 (by decide +kernel) ⟨Nat.le_of_ble_eq_true rfl, Nat.le_of_ble_eq_true rfl⟩) (va_recv hK hP (ci := 5) (q0 := 0) rfl rfl) (y_preW hE hK hP hD hS hA) rfl rfl hl.1 rfl (lv_room (Nat.le_of_ble_eq_true rfl)) d_M_ordinate_58 ⟨Nat.le_of_ble_eq_true rfl, Nat.le_of_ble_eq_true rfl⟩) hD hS hA (fun _ _ _ _ _ _ hp => False.elim hp) (fun v9 w9 H locs hp hlw hP hD hS => ?_)
    obtain ⟨rfl, rfl⟩ := hp
    have hP : va_P (gD G) vwC (wM G h dg mp ml 1 n t pl pn xy pt sz rs ou wr sl p fk fp va oa oc ok) H := hP
    have hD : va_D A (wM G h dg mp ml 1 n t pl pn xy pt sz rs ou wr sl p fk fp va oa oc ok) := hD
    refine W.eq (g2 := F0 mm 61 ls [.int (nI 0)]) rfl ?_
    exact yr_i (ws := wM G h dg mp ml 1 n t pl pn xy pt sz rs ou wr sl p fk fp va oa oc ok) hx hb hrt hlocks (by first | exact Or.inl ⟨j, q, z, ⟨hj, rfl, hq, rfl, hz, rfl⟩, rfl, rfl⟩ | exact Or.inr ⟨fun y => by obtain ⟨j2, q2, z2, h1, h2, h3, h4, h5, h6⟩ := y; first | (rw [h6] at c34; exact c34 (wi_f (by decide) h5)) | (have e9 : j = j2 := (nI_eq (by omega) (by omega)).mp h2; subst e9; rw [h4] at c25; exact c25 (wi_g (by omega) h3)) | (rw [h2] at c9; exact c9 (wi_f (by decide) (by omega))), rfl, rfl⟩) rfl hK hP hD hS d_M_ordinate_61
  · skip
    obtain ⟨j, hj, rfl⟩ : ∃ j, j < 4 ∧ s = nI j := by obtain ⟨y, h1, h2⟩ := wi_n (by decide) c9; exact ⟨y, by omega, h2⟩
    have hpnj := hpn j
    have hptj := hpt j
    refine lv_iload_n hx hb d_M_ordinate_12 rfl (lv_at hl 2 rfl) ?_
    refine lv_iconst (v := nI 0) hx hb d_M_ordinate_13 (by decide) ?_
    refine lv_aload_n hx hb d_M_ordinate_14 rfl (lv_at hl 0 rfl) ?_
    refine va_get (D := gD G) (ci := 5) (v := .ref (h 7)) (C := "WordShapesModel") (T := TM) (N := 24) hx hb hg iw_M hown hK hP 0 rfl rfl 11 (by decide) (hg _ tk_694) (fun _ h9 => h9) rfl d_M_ordinate_15 ?_
    refine lv_iload_n hx hb d_M_ordinate_18 rfl (lv_at hl 1 rfl) ?_
    refine yn_iald hx hb hK hP 7 0 rfl rfl (j := j) (x := nI (pt j)) (rfl) (by omega) (by omega) d_M_ordinate_19 ?_
    refine lv_iconst (v := nI 1) hx hb d_M_ordinate_20 (by decide) ?_
    refine lv_isub hx hb d_M_ordinate_21 ?_
    refine y_eqi (y := nI (pt j) - nI 1) (rfl) ?_
    refine y_call (y_runS (As := [.int i, .int (nI 0), .int (nI (pt j) - nI 1)]) (rest := []) hx hb hml hown (c_M_within l G  i (nI 0) (nI (pt j) - nI 1) ) (gS (n := 3) hg tk_772 tk_773 tk_7 tk_774 (by decide +kernel) ⟨Nat.le_of_ble_eq_true rfl, Nat.le_of_ble_eq_true rfl⟩) (y_pre hE hK hP hD hS hA [] rfl rfl) rfl rfl hl.1 rfl (lv_room (Nat.le_of_ble_eq_true rfl)) d_M_ordinate_22 ⟨Nat.le_of_ble_eq_true rfl, Nat.le_of_ble_eq_true rfl⟩) hP hD hS hA [] rfl (fun _ _ _ _ _ _ hp => False.elim hp) (fun v9 w9 H locs hp hlw hP hD hS => ?_)
    obtain ⟨rfl, rfl⟩ := hp
    have hP : va_P (gD G) vwC (wM G h dg mp ml 0 n t pl pn xy pt sz rs ou wr sl p fk fp va oa oc ok) H := hP
    have hD : va_D A (wM G h dg mp ml 0 n t pl pn xy pt sz rs ou wr sl p fk fp va oa oc ok) := hD
    refine W.eq (g2 := F0 mm 25 ls [.int (bz (decide ((nI 0) ≤ i ∧ i ≤ (nI (pt j) - nI 1))))]) rfl ?_
    refine yz_if_eq (P := (nI 0) ≤ i ∧ i ≤ (nI (pt j) - nI 1)) (tgt := 56) hx hb d_M_ordinate_25 (by decide) (fun c25 => ?_) (fun c25 => ?_)
    · skip
      refine lv_aload_n hx hb d_M_ordinate_56 rfl (lv_at hl 0 rfl) ?_
      refine lv_iconst (v := nI 1) hx hb d_M_ordinate_57 (by decide) ?_
      refine y_callW (y_runV (As := [.int (nI 1)]) (rest := []) hx hb hml hown (c_M_fail l G h dg mp ml 0 n t pl pn xy pt sz rs ou wr sl p fk fp va oa oc ok 1 ) (gV (n := 1) hg tk_764 tk_766 (gt_s 31 (by decide +kernel) (by decide +kernel)) tk_7 tk_767 (by decide +kernel) ⟨Nat.le_of_ble_eq_true rfl, Nat.le_of_ble_eq_true rfl⟩) (va_recv hK hP (ci := 5) (q0 := 0) rfl rfl) (y_preW hE hK hP hD hS hA) rfl rfl hl.1 rfl (lv_room (Nat.le_of_ble_eq_true rfl)) d_M_ordinate_58 ⟨Nat.le_of_ble_eq_true rfl, Nat.le_of_ble_eq_true rfl⟩) hD hS hA (fun _ _ _ _ _ _ hp => False.elim hp) (fun v9 w9 H locs hp hlw hP hD hS => ?_)
      obtain ⟨rfl, rfl⟩ := hp
      have hP : va_P (gD G) vwC (wM G h dg mp ml 1 n t pl pn xy pt sz rs ou wr sl p fk fp va oa oc ok) H := hP
      have hD : va_D A (wM G h dg mp ml 1 n t pl pn xy pt sz rs ou wr sl p fk fp va oa oc ok) := hD
      refine W.eq (g2 := F0 mm 61 ls [.int (nI 0)]) rfl ?_
      exact yr_i (ws := wM G h dg mp ml 1 n t pl pn xy pt sz rs ou wr sl p fk fp va oa oc ok) hx hb hrt hlocks (by first | exact Or.inl ⟨j, q, z, ⟨hj, rfl, hq, rfl, hz, rfl⟩, rfl, rfl⟩ | exact Or.inr ⟨fun y => by obtain ⟨j2, q2, z2, h1, h2, h3, h4, h5, h6⟩ := y; first | (rw [h6] at c34; exact c34 (wi_f (by decide) h5)) | (have e9 : j = j2 := (nI_eq (by omega) (by omega)).mp h2; subst e9; rw [h4] at c25; exact c25 (wi_g (by omega) h3)) | (rw [h2] at c9; exact c9 (wi_f (by decide) (by omega))), rfl, rfl⟩) rfl hK hP hD hS d_M_ordinate_61
    · skip
      obtain ⟨q, hq, rfl⟩ := wi_m (by omega) c25
      refine lv_iload_n hx hb d_M_ordinate_28 rfl (lv_at hl 3 rfl) ?_
      refine lv_iconst (v := nI 0) hx hb d_M_ordinate_29 (by decide) ?_
      refine lv_iconst (v := nI 1) hx hb d_M_ordinate_30 (by decide) ?_
      refine y_call (y_runS (As := [.int x, .int (nI 0), .int (nI 1)]) (rest := []) hx hb hml hown (c_M_within l G  x (nI 0) (nI 1) ) (gS (n := 3) hg tk_772 tk_773 tk_7 tk_774 (by decide +kernel) ⟨Nat.le_of_ble_eq_true rfl, Nat.le_of_ble_eq_true rfl⟩) (y_pre hE hK hP hD hS hA [] rfl rfl) rfl rfl hl.1 rfl (lv_room (Nat.le_of_ble_eq_true rfl)) d_M_ordinate_31 ⟨Nat.le_of_ble_eq_true rfl, Nat.le_of_ble_eq_true rfl⟩) hP hD hS hA [] rfl (fun _ _ _ _ _ _ hp => False.elim hp) (fun v9 w9 H locs hp hlw hP hD hS => ?_)
      obtain ⟨rfl, rfl⟩ := hp
      have hP : va_P (gD G) vwC (wM G h dg mp ml 0 n t pl pn xy pt sz rs ou wr sl p fk fp va oa oc ok) H := hP
      have hD : va_D A (wM G h dg mp ml 0 n t pl pn xy pt sz rs ou wr sl p fk fp va oa oc ok) := hD
      refine W.eq (g2 := F0 mm 34 ls [.int (bz (decide ((nI 0) ≤ x ∧ x ≤ (nI 1))))]) rfl ?_
      refine yz_if_eq (P := (nI 0) ≤ x ∧ x ≤ (nI 1)) (tgt := 56) hx hb d_M_ordinate_34 (by decide) (fun c34 => ?_) (fun c34 => ?_)
      · skip
        refine lv_aload_n hx hb d_M_ordinate_56 rfl (lv_at hl 0 rfl) ?_
        refine lv_iconst (v := nI 1) hx hb d_M_ordinate_57 (by decide) ?_
        refine y_callW (y_runV (As := [.int (nI 1)]) (rest := []) hx hb hml hown (c_M_fail l G h dg mp ml 0 n t pl pn xy pt sz rs ou wr sl p fk fp va oa oc ok 1 ) (gV (n := 1) hg tk_764 tk_766 (gt_s 31 (by decide +kernel) (by decide +kernel)) tk_7 tk_767 (by decide +kernel) ⟨Nat.le_of_ble_eq_true rfl, Nat.le_of_ble_eq_true rfl⟩) (va_recv hK hP (ci := 5) (q0 := 0) rfl rfl) (y_preW hE hK hP hD hS hA) rfl rfl hl.1 rfl (lv_room (Nat.le_of_ble_eq_true rfl)) d_M_ordinate_58 ⟨Nat.le_of_ble_eq_true rfl, Nat.le_of_ble_eq_true rfl⟩) hD hS hA (fun _ _ _ _ _ _ hp => False.elim hp) (fun v9 w9 H locs hp hlw hP hD hS => ?_)
        obtain ⟨rfl, rfl⟩ := hp
        have hP : va_P (gD G) vwC (wM G h dg mp ml 1 n t pl pn xy pt sz rs ou wr sl p fk fp va oa oc ok) H := hP
        have hD : va_D A (wM G h dg mp ml 1 n t pl pn xy pt sz rs ou wr sl p fk fp va oa oc ok) := hD
        refine W.eq (g2 := F0 mm 61 ls [.int (nI 0)]) rfl ?_
        exact yr_i (ws := wM G h dg mp ml 1 n t pl pn xy pt sz rs ou wr sl p fk fp va oa oc ok) hx hb hrt hlocks (by first | exact Or.inl ⟨j, q, z, ⟨hj, rfl, hq, rfl, hz, rfl⟩, rfl, rfl⟩ | exact Or.inr ⟨fun y => by obtain ⟨j2, q2, z2, h1, h2, h3, h4, h5, h6⟩ := y; first | (rw [h6] at c34; exact c34 (wi_f (by decide) h5)) | (have e9 : j = j2 := (nI_eq (by omega) (by omega)).mp h2; subst e9; rw [h4] at c25; exact c25 (wi_g (by omega) h3)) | (rw [h2] at c9; exact c9 (wi_f (by decide) (by omega))), rfl, rfl⟩) rfl hK hP hD hS d_M_ordinate_61
      · skip
        obtain ⟨z, hz, rfl⟩ := wi_n (by decide) c34
        refine lv_aload_n hx hb d_M_ordinate_37 rfl (lv_at hl 0 rfl) ?_
        refine va_get (D := gD G) (ci := 5) (v := .ref (h 6)) (C := "WordShapesModel") (T := TM) (N := 24) hx hb hg iw_M hown hK hP 0 rfl rfl 10 (by decide) (hg _ tk_693) (fun _ h9 => h9) rfl d_M_ordinate_38 ?_
        refine lv_iconst (v := nI 2) hx hb d_M_ordinate_41 (by decide) ?_
        refine lv_sipush (v := nI 4096) hx hb d_M_ordinate_42 (by decide) ?_
        refine lv_iload_n hx hb d_M_ordinate_45 rfl (lv_at hl 1 rfl) ?_
        refine lv_imul hx hb d_M_ordinate_46 ?_
        refine y_eqi (pk_mul _ _) ?_
        refine lv_iload_n hx hb d_M_ordinate_47 rfl (lv_at hl 2 rfl) ?_
        refine lv_iadd hx hb d_M_ordinate_48 ?_
        refine y_eqi (nI_add _ _) ?_
        refine lv_imul hx hb d_M_ordinate_49 ?_
        refine y_eqi (pk_mul _ _) ?_
        refine lv_iload_n hx hb d_M_ordinate_50 rfl (lv_at hl 3 rfl) ?_
        refine lv_iadd hx hb d_M_ordinate_51 ?_
        refine y_eqi (nI_add _ _) ?_
        refine yn_iald hx hb hK hP 6 0 rfl rfl (j := 2 * (4096 * j + q) + z) (x := xy (8192 * j + (2 * q + z))) (congrArg xy (by omega)) (by omega) (by omega) d_M_ordinate_52 ?_
        refine lv_goto (tgt := 61) hx hb d_M_ordinate_53 (by decide) ?_
        exact yr_i (ws := wM G h dg mp ml 0 n t pl pn xy pt sz rs ou wr sl p fk fp va oa oc ok) hx hb hrt hlocks (by first | exact Or.inl ⟨j, q, z, ⟨hj, rfl, hq, rfl, hz, rfl⟩, rfl, rfl⟩ | exact Or.inr ⟨fun y => by obtain ⟨j2, q2, z2, h1, h2, h3, h4, h5, h6⟩ := y; first | (rw [h6] at c34; exact c34 (wi_f (by decide) h5)) | (have e9 : j = j2 := (nI_eq (by omega) (by omega)).mp h2; subst e9; rw [h4] at c25; exact c25 (wi_g (by omega) h3)) | (rw [h2] at c9; exact c9 (wi_f (by decide) (by omega))), rfl, rfl⟩) rfl hK hP hD hS d_M_ordinate_61
set_option maxHeartbeats 4000000 in
set_option maxRecDepth 100000 in
theorem c_M_byteAt (l : Launch) (G : gl) (h : Nat → Nat) (dg : Nat) (mp : Nat) (ml : Nat) (th : Nat) (n : Nat) (t : Nat → Nat) (pl : Nat → Int32) (pn : Nat → Nat) (xy : Nat → Int32) (pt : Nat → Nat) (sz : Nat) (rs : Nat → Nat) (ou : Nat → Nat) (wr : Nat) (sl : Nat) (p : Nat) (fk : Nat) (fp : Nat) (va : Int32) (oa : Nat → Int32) (oc : Nat → Int32) (ok : Nat → Int32) (i : Int32) (hsz : sz ≤ 131072) : YC l G y_M_byteAt k_M_byteAt 2 (Option.some FieldType.int) 1 22 [.ref (h 0), .int i] (wM G h dg mp ml th n t pl pn xy pt sz rs ou wr sl p fk fp va oa oc ok) (fun v w => (∃ q, (q < sz ∧ i = nI q) ∧ v = some (.int (nI (rs q))) ∧ w = wM G h dg mp ml 0 n t pl pn xy pt sz rs ou wr sl p fk fp va oa oc ok) ∨ ((¬ ∃ q, q < sz ∧ i = nI q) ∧ v = some (.int (nI 0)) ∧ w = wM G h dg mp ml 1 n t pl pn xy pt sz rs ou wr sl p fk fp va oa oc ok)) (fun _ _ => False) := by
  refine yc_of (by decide) ?_
  intro pg ev sx mm bl mt cd A C0 hP hD
  obtain ⟨hx, hb, hrt, hml, hown, hg, hlocks, hxt, hE, hK, hA, hmn⟩ := C0
  have hS : va_S A sx.heap sx.heap [] := va_S.rf
  have hl := lv_entry ([.ref (h 0), .int i]) (n := 2) (Nat.le_of_ble_eq_true rfl)
  rw [lg_entry_eq]
  generalize (lg_sl ([.ref (h 0), .int i]) ++ List.replicate (2 - (lg_sl ([.ref (h 0), .int i])).length) Slot.unset).toArray = ls at hl ⊢
  have hl : lv_has ls 2 [(0, .ref (h 0)), (1, .int i)] := hl
  obtain ⟨H, hH⟩ : ∃ H, H = sx.heap := ⟨_, rfl⟩
  rw [← hH] at hP
  have hS : va_S A sx.heap H [] := by rw [hH]; exact hS
  suffices h9 : W pg l ev (yR 1 22) sx mm _ bl mt cd H [] 0 0 (yMQ bl G A _ _ _ _ sx) (F0 mm 0 ls []) by rw [hH] at h9; exact h9
  obtain ⟨locs, hlo⟩ : ∃ locs : List Loc, locs = [] := ⟨_, rfl⟩
  rw [← hlo] at hS ⊢
  refine lv_aload_n hx hb d_M_byteAt_0 rfl (lv_at hl 0 rfl) ?_
  refine lv_iconst (v := nI 0) hx hb d_M_byteAt_1 (by decide) ?_
  refine va_put (D := gD G) (ci := 5) (v := .int (nI 0)) (ty := .int) (C := "WordShapesModel") (T := TM) (N := 24) hx hb hg iw_M ft_M fo_M nm_M hown hK hP hD hS 0 rfl rfl 2 (by decide) (hg _ tk_685) (fun _ h9 => h9) rfl (by decide +kernel) (rfl) (rfl) (Nat.le_of_ble_eq_true rfl) d_M_byteAt_2 (fun H locs hP hD hS => ?_)
  have hP : va_P (gD G) vwC (wM G h dg mp ml 0 n t pl pn xy pt sz rs ou wr sl p fk fp va oa oc ok) H := hP
  have hD : va_D A (wM G h dg mp ml 0 n t pl pn xy pt sz rs ou wr sl p fk fp va oa oc ok) := hD
  refine lv_iload_n hx hb d_M_byteAt_5 rfl (lv_at hl 1 rfl) ?_
  refine lv_iconst (v := nI 0) hx hb d_M_byteAt_6 (by decide) ?_
  refine lv_aload_n hx hb d_M_byteAt_7 rfl (lv_at hl 0 rfl) ?_
  refine va_get (D := gD G) (ci := 5) (v := .int (nI sz)) (C := "WordShapesModel") (T := TM) (N := 24) hx hb hg iw_M hown hK hP 0 rfl rfl 12 (by decide) (hg _ tk_695) (fun _ h9 => h9) rfl d_M_byteAt_8 ?_
  refine lv_iconst (v := nI 1) hx hb d_M_byteAt_11 (by decide) ?_
  refine lv_isub hx hb d_M_byteAt_12 ?_
  refine y_eqi (y := nI sz - nI 1) (rfl) ?_
  refine y_call (y_runS (As := [.int i, .int (nI 0), .int (nI sz - nI 1)]) (rest := []) hx hb hml hown (c_M_within l G  i (nI 0) (nI sz - nI 1) ) (gS (n := 3) hg tk_772 tk_773 tk_7 tk_774 (by decide +kernel) ⟨Nat.le_of_ble_eq_true rfl, Nat.le_of_ble_eq_true rfl⟩) (y_pre hE hK hP hD hS hA [] rfl rfl) rfl rfl hl.1 rfl (lv_room (Nat.le_of_ble_eq_true rfl)) d_M_byteAt_13 ⟨Nat.le_of_ble_eq_true rfl, Nat.le_of_ble_eq_true rfl⟩) hP hD hS hA [] rfl (fun _ _ _ _ _ _ hp => False.elim hp) (fun v9 w9 H locs hp hlw hP hD hS => ?_)
  obtain ⟨rfl, rfl⟩ := hp
  have hP : va_P (gD G) vwC (wM G h dg mp ml 0 n t pl pn xy pt sz rs ou wr sl p fk fp va oa oc ok) H := hP
  have hD : va_D A (wM G h dg mp ml 0 n t pl pn xy pt sz rs ou wr sl p fk fp va oa oc ok) := hD
  refine W.eq (g2 := F0 mm 16 ls [.int (bz (decide ((nI 0) ≤ i ∧ i ≤ (nI sz - nI 1))))]) rfl ?_
  refine yz_if_eq (P := (nI 0) ≤ i ∧ i ≤ (nI sz - nI 1)) (tgt := 28) hx hb d_M_byteAt_16 (by decide) (fun c16 => ?_) (fun c16 => ?_)
  · skip
    refine lv_aload_n hx hb d_M_byteAt_28 rfl (lv_at hl 0 rfl) ?_
    refine lv_iconst (v := nI 1) hx hb d_M_byteAt_29 (by decide) ?_
    refine y_callW (y_runV (As := [.int (nI 1)]) (rest := []) hx hb hml hown (c_M_fail l G h dg mp ml 0 n t pl pn xy pt sz rs ou wr sl p fk fp va oa oc ok 1 ) (gV (n := 1) hg tk_764 tk_766 (gt_s 31 (by decide +kernel) (by decide +kernel)) tk_7 tk_767 (by decide +kernel) ⟨Nat.le_of_ble_eq_true rfl, Nat.le_of_ble_eq_true rfl⟩) (va_recv hK hP (ci := 5) (q0 := 0) rfl rfl) (y_preW hE hK hP hD hS hA) rfl rfl hl.1 rfl (lv_room (Nat.le_of_ble_eq_true rfl)) d_M_byteAt_30 ⟨Nat.le_of_ble_eq_true rfl, Nat.le_of_ble_eq_true rfl⟩) hD hS hA (fun _ _ _ _ _ _ hp => False.elim hp) (fun v9 w9 H locs hp hlw hP hD hS => ?_)
    obtain ⟨rfl, rfl⟩ := hp
    have hP : va_P (gD G) vwC (wM G h dg mp ml 1 n t pl pn xy pt sz rs ou wr sl p fk fp va oa oc ok) H := hP
    have hD : va_D A (wM G h dg mp ml 1 n t pl pn xy pt sz rs ou wr sl p fk fp va oa oc ok) := hD
    refine W.eq (g2 := F0 mm 33 ls [.int (nI 0)]) rfl ?_
    exact yr_i (ws := wM G h dg mp ml 1 n t pl pn xy pt sz rs ou wr sl p fk fp va oa oc ok) hx hb hrt hlocks (by first | exact Or.inl ⟨q, ⟨hq, rfl⟩, rfl, rfl⟩ | exact Or.inr ⟨fun y => by obtain ⟨q2, h1, h2⟩ := y; rw [h2] at c16; exact c16 (wi_g (by omega) h1), rfl, rfl⟩) rfl hK hP hD hS d_M_byteAt_33
  · skip
    obtain ⟨q, hq, rfl⟩ := wi_m (by omega) c16
    refine lv_aload_n hx hb d_M_byteAt_19 rfl (lv_at hl 0 rfl) ?_
    refine va_get (D := gD G) (ci := 5) (v := .ref (h 8)) (C := "WordShapesModel") (T := TM) (N := 24) hx hb hg iw_M hown hK hP 0 rfl rfl 13 (by decide) (hg _ tk_696) (fun _ h9 => h9) rfl d_M_byteAt_20 ?_
    refine lv_iload_n hx hb d_M_byteAt_23 rfl (lv_at hl 1 rfl) ?_
    refine yn_iald hx hb hK hP 8 0 rfl rfl (j := q) (x := nI (rs q)) (rfl) (by omega) (by omega) d_M_byteAt_24 ?_
    refine lv_goto (tgt := 33) hx hb d_M_byteAt_25 (by decide) ?_
    exact yr_i (ws := wM G h dg mp ml 0 n t pl pn xy pt sz rs ou wr sl p fk fp va oa oc ok) hx hb hrt hlocks (by first | exact Or.inl ⟨q, ⟨hq, rfl⟩, rfl, rfl⟩ | exact Or.inr ⟨fun y => by obtain ⟨q2, h1, h2⟩ := y; rw [h2] at c16; exact c16 (wi_g (by omega) h1), rfl, rfl⟩) rfl hK hP hD hS d_M_byteAt_33
set_option maxHeartbeats 4000000 in
set_option maxRecDepth 100000 in
theorem c_M_count (l : Launch) (G : gl) (h : Nat → Nat) (dg : Nat) (mp : Nat) (ml : Nat) (th : Nat) (n : Nat) (t : Nat → Nat) (pl : Nat → Int32) (pn : Nat → Nat) (xy : Nat → Int32) (pt : Nat → Nat) (sz : Nat) (rs : Nat → Nat) (ou : Nat → Nat) (wr : Nat) (sl : Nat) (p : Nat) (fk : Nat) (fp : Nat) (va : Int32) (oa : Nat → Int32) (oc : Nat → Int32) (ok : Nat → Int32) (s : Int32) (x : Int32) (hpn : ∀ j, pn j ≤ 4096) (hpt : ∀ j, pt j ≤ 4096) : YC l G y_M_count k_M_count 3 (Option.some FieldType.int) 2 42 [.ref (h 0), .int s, .int x] (wM G h dg mp ml th n t pl pn xy pt sz rs ou wr sl p fk fp va oa oc ok) (fun v w => (∃ j, (j < 4 ∧ s = nI j ∧ x = nI 0) ∧ v = some (.int (nI (pn j))) ∧ w = wM G h dg mp ml 0 n t pl pn xy pt sz rs ou wr sl p fk fp va oa oc ok) ∨ (∃ j, (j < 4 ∧ s = nI j ∧ x = nI 1) ∧ v = some (.int (nI (pt j))) ∧ w = wM G h dg mp ml 0 n t pl pn xy pt sz rs ou wr sl p fk fp va oa oc ok) ∨ (∃ j, (j < 4 ∧ s = nI j ∧ x = nI 2) ∧ v = some (.int (nI n)) ∧ w = wM G h dg mp ml 0 n t pl pn xy pt sz rs ou wr sl p fk fp va oa oc ok) ∨ (∃ j, (j < 4 ∧ s = nI j ∧ x = nI 3) ∧ v = some (.int (nI sz)) ∧ w = wM G h dg mp ml 0 n t pl pn xy pt sz rs ou wr sl p fk fp va oa oc ok) ∨ ((¬ ((∃ j, j < 4 ∧ s = nI j) ∧ ∃ z, z ≤ 3 ∧ x = nI z)) ∧ v = some (.int (nI 0)) ∧ w = wM G h dg mp ml 1 n t pl pn xy pt sz rs ou wr sl p fk fp va oa oc ok)) (fun _ _ => False) := by
  refine yc_of (by decide) ?_
  intro pg ev sx mm bl mt cd A C0 hP hD
  obtain ⟨hx, hb, hrt, hml, hown, hg, hlocks, hxt, hE, hK, hA, hmn⟩ := C0
  have hS : va_S A sx.heap sx.heap [] := va_S.rf
  have hl := lv_entry ([.ref (h 0), .int s, .int x]) (n := 3) (Nat.le_of_ble_eq_true rfl)
  rw [lg_entry_eq]
  generalize (lg_sl ([.ref (h 0), .int s, .int x]) ++ List.replicate (3 - (lg_sl ([.ref (h 0), .int s, .int x])).length) Slot.unset).toArray = ls at hl ⊢
  have hl : lv_has ls 3 [(0, .ref (h 0)), (1, .int s), (2, .int x)] := hl
  obtain ⟨H, hH⟩ : ∃ H, H = sx.heap := ⟨_, rfl⟩
  rw [← hH] at hP
  have hS : va_S A sx.heap H [] := by rw [hH]; exact hS
  suffices h9 : W pg l ev (yR 2 42) sx mm _ bl mt cd H [] 0 0 (yMQ bl G A _ _ _ _ sx) (F0 mm 0 ls []) by rw [hH] at h9; exact h9
  obtain ⟨locs, hlo⟩ : ∃ locs : List Loc, locs = [] := ⟨_, rfl⟩
  rw [← hlo] at hS ⊢
  refine lv_aload_n hx hb d_M_count_0 rfl (lv_at hl 0 rfl) ?_
  refine lv_iconst (v := nI 0) hx hb d_M_count_1 (by decide) ?_
  refine va_put (D := gD G) (ci := 5) (v := .int (nI 0)) (ty := .int) (C := "WordShapesModel") (T := TM) (N := 24) hx hb hg iw_M ft_M fo_M nm_M hown hK hP hD hS 0 rfl rfl 2 (by decide) (hg _ tk_685) (fun _ h9 => h9) rfl (by decide +kernel) (rfl) (rfl) (Nat.le_of_ble_eq_true rfl) d_M_count_2 (fun H locs hP hD hS => ?_)
  have hP : va_P (gD G) vwC (wM G h dg mp ml 0 n t pl pn xy pt sz rs ou wr sl p fk fp va oa oc ok) H := hP
  have hD : va_D A (wM G h dg mp ml 0 n t pl pn xy pt sz rs ou wr sl p fk fp va oa oc ok) := hD
  refine lv_iload_n hx hb d_M_count_5 rfl (lv_at hl 1 rfl) ?_
  refine y_call (y_runS (As := [.int s]) (rest := []) hx hb hml hown (c_M_isSlot l G  s ) (gS (n := 1) hg tk_779 tk_780 tk_7 tk_781 (by decide +kernel) ⟨Nat.le_of_ble_eq_true rfl, Nat.le_of_ble_eq_true rfl⟩) (y_pre hE hK hP hD hS hA [] rfl rfl) rfl rfl hl.1 rfl (lv_room (Nat.le_of_ble_eq_true rfl)) d_M_count_6 ⟨Nat.le_of_ble_eq_true rfl, Nat.le_of_ble_eq_true rfl⟩) hP hD hS hA [] rfl (fun _ _ _ _ _ _ hp => False.elim hp) (fun v9 w9 H locs hp hlw hP hD hS => ?_)
  obtain ⟨rfl, rfl⟩ := hp
  have hP : va_P (gD G) vwC (wM G h dg mp ml 0 n t pl pn xy pt sz rs ou wr sl p fk fp va oa oc ok) H := hP
  have hD : va_D A (wM G h dg mp ml 0 n t pl pn xy pt sz rs ou wr sl p fk fp va oa oc ok) := hD
  refine W.eq (g2 := F0 mm 9 ls [.int (bz (decide (nI 0 ≤ s ∧ s ≤ nI 3)))]) rfl ?_
  refine yz_if_eq (P := nI 0 ≤ s ∧ s ≤ nI 3) (tgt := 21) hx hb d_M_count_9 (by decide) (fun c9 => ?_) (fun c9 => ?_)
  · skip
    refine lv_aload_n hx hb d_M_count_21 rfl (lv_at hl 0 rfl) ?_
    refine lv_iconst (v := nI 1) hx hb d_M_count_22 (by decide) ?_
    refine y_callW (y_runV (As := [.int (nI 1)]) (rest := []) hx hb hml hown (c_M_fail l G h dg mp ml 0 n t pl pn xy pt sz rs ou wr sl p fk fp va oa oc ok 1 ) (gV (n := 1) hg tk_764 tk_766 (gt_s 31 (by decide +kernel) (by decide +kernel)) tk_7 tk_767 (by decide +kernel) ⟨Nat.le_of_ble_eq_true rfl, Nat.le_of_ble_eq_true rfl⟩) (va_recv hK hP (ci := 5) (q0 := 0) rfl rfl) (y_preW hE hK hP hD hS hA) rfl rfl hl.1 rfl (lv_room (Nat.le_of_ble_eq_true rfl)) d_M_count_23 ⟨Nat.le_of_ble_eq_true rfl, Nat.le_of_ble_eq_true rfl⟩) hD hS hA (fun _ _ _ _ _ _ hp => False.elim hp) (fun v9 w9 H locs hp hlw hP hD hS => ?_)
    obtain ⟨rfl, rfl⟩ := hp
    have hP : va_P (gD G) vwC (wM G h dg mp ml 1 n t pl pn xy pt sz rs ou wr sl p fk fp va oa oc ok) H := hP
    have hD : va_D A (wM G h dg mp ml 1 n t pl pn xy pt sz rs ou wr sl p fk fp va oa oc ok) := hD
    refine W.eq (g2 := F0 mm 26 ls [.int (nI 0)]) rfl ?_
    exact yr_i (ws := wM G h dg mp ml 1 n t pl pn xy pt sz rs ou wr sl p fk fp va oa oc ok) hx hb hrt hlocks (Or.inr (Or.inr (Or.inr (Or.inr ⟨fun y => by obtain ⟨⟨j2, h1, h2⟩, z2, h3, h4⟩ := y; first | (rw [h4] at c18; exact c18 (wi_f (by decide) h3)) | (rw [h2] at c9; exact c9 (wi_f (by decide) (by omega))), rfl, rfl⟩)))) rfl hK hP hD hS d_M_count_26
  · skip
    obtain ⟨j, hj, rfl⟩ : ∃ j, j < 4 ∧ s = nI j := by obtain ⟨y, h1, h2⟩ := wi_n (by decide) c9; exact ⟨y, by omega, h2⟩
    have hpnj := hpn j
    have hptj := hpt j
    refine lv_iload_n hx hb d_M_count_12 rfl (lv_at hl 2 rfl) ?_
    refine lv_iconst (v := nI 0) hx hb d_M_count_13 (by decide) ?_
    refine lv_iconst (v := nI 3) hx hb d_M_count_14 (by decide) ?_
    refine y_call (y_runS (As := [.int x, .int (nI 0), .int (nI 3)]) (rest := []) hx hb hml hown (c_M_within l G  x (nI 0) (nI 3) ) (gS (n := 3) hg tk_772 tk_773 tk_7 tk_774 (by decide +kernel) ⟨Nat.le_of_ble_eq_true rfl, Nat.le_of_ble_eq_true rfl⟩) (y_pre hE hK hP hD hS hA [] rfl rfl) rfl rfl hl.1 rfl (lv_room (Nat.le_of_ble_eq_true rfl)) d_M_count_15 ⟨Nat.le_of_ble_eq_true rfl, Nat.le_of_ble_eq_true rfl⟩) hP hD hS hA [] rfl (fun _ _ _ _ _ _ hp => False.elim hp) (fun v9 w9 H locs hp hlw hP hD hS => ?_)
    obtain ⟨rfl, rfl⟩ := hp
    have hP : va_P (gD G) vwC (wM G h dg mp ml 0 n t pl pn xy pt sz rs ou wr sl p fk fp va oa oc ok) H := hP
    have hD : va_D A (wM G h dg mp ml 0 n t pl pn xy pt sz rs ou wr sl p fk fp va oa oc ok) := hD
    refine W.eq (g2 := F0 mm 18 ls [.int (bz (decide ((nI 0) ≤ x ∧ x ≤ (nI 3))))]) rfl ?_
    refine yz_if_ne (P := (nI 0) ≤ x ∧ x ≤ (nI 3)) (tgt := 27) hx hb d_M_count_18 (by decide) (fun c18 => ?_) (fun c18 => ?_)
    · skip
      obtain ⟨z, hz, rfl⟩ := wi_n (by decide) c18
      refine lv_iload_n hx hb d_M_count_27 rfl (lv_at hl 2 rfl) ?_
      refine yn_if_ne (a := z) (tgt := 40) hx hb d_M_count_28 (by decide) (by omega) (fun c28 => ?_) (fun c28 => ?_)
      · skip
        refine lv_iload_n hx hb d_M_count_40 rfl (lv_at hl 2 rfl) ?_
        refine lv_iconst (v := nI 1) hx hb d_M_count_41 (by decide) ?_
        refine yn_icmp_ne (a := z) (b := 1) (tgt := 54) hx hb d_M_count_42 (by decide) (by omega) (by omega) (fun c42 => ?_) (fun c42 => ?_)
        · skip
          refine lv_iload_n hx hb d_M_count_54 rfl (lv_at hl 2 rfl) ?_
          refine lv_iconst (v := nI 2) hx hb d_M_count_55 (by decide) ?_
          refine yn_icmp_ne (a := z) (b := 2) (tgt := 66) hx hb d_M_count_56 (by decide) (by omega) (by omega) (fun c56 => ?_) (fun c56 => ?_)
          · skip
            refine lv_aload_n hx hb d_M_count_66 rfl (lv_at hl 0 rfl) ?_
            refine va_get (D := gD G) (ci := 5) (v := .int (nI sz)) (C := "WordShapesModel") (T := TM) (N := 24) hx hb hg iw_M hown hK hP 0 rfl rfl 12 (by decide) (hg _ tk_695) (fun _ h9 => h9) rfl d_M_count_67 ?_
            exact yr_i (ws := wM G h dg mp ml 0 n t pl pn xy pt sz rs ou wr sl p fk fp va oa oc ok) hx hb hrt hlocks (by first | exact Or.inl ⟨j, ⟨hj, rfl, congrArg nI c28⟩, rfl, rfl⟩ | exact Or.inr (Or.inl ⟨j, ⟨hj, rfl, congrArg nI c42⟩, rfl, rfl⟩) | exact Or.inr (Or.inr (Or.inl ⟨j, ⟨hj, rfl, congrArg nI c56⟩, rfl, rfl⟩)) | exact Or.inr (Or.inr (Or.inr (Or.inl ⟨j, ⟨hj, rfl, congrArg nI (by omega)⟩, rfl, rfl⟩)))) rfl hK hP hD hS d_M_count_70
          · skip
            refine lv_aload_n hx hb d_M_count_59 rfl (lv_at hl 0 rfl) ?_
            refine va_get (D := gD G) (ci := 5) (v := .int (nI n)) (C := "WordShapesModel") (T := TM) (N := 24) hx hb hg iw_M hown hK hP 0 rfl rfl 6 (by decide) (hg _ tk_689) (fun _ h9 => h9) rfl d_M_count_60 ?_
            refine lv_goto (tgt := 70) hx hb d_M_count_63 (by decide) ?_
            exact yr_i (ws := wM G h dg mp ml 0 n t pl pn xy pt sz rs ou wr sl p fk fp va oa oc ok) hx hb hrt hlocks (by first | exact Or.inl ⟨j, ⟨hj, rfl, congrArg nI c28⟩, rfl, rfl⟩ | exact Or.inr (Or.inl ⟨j, ⟨hj, rfl, congrArg nI c42⟩, rfl, rfl⟩) | exact Or.inr (Or.inr (Or.inl ⟨j, ⟨hj, rfl, congrArg nI c56⟩, rfl, rfl⟩)) | exact Or.inr (Or.inr (Or.inr (Or.inl ⟨j, ⟨hj, rfl, congrArg nI (by omega)⟩, rfl, rfl⟩)))) rfl hK hP hD hS d_M_count_70
        · skip
          refine lv_aload_n hx hb d_M_count_45 rfl (lv_at hl 0 rfl) ?_
          refine va_get (D := gD G) (ci := 5) (v := .ref (h 7)) (C := "WordShapesModel") (T := TM) (N := 24) hx hb hg iw_M hown hK hP 0 rfl rfl 11 (by decide) (hg _ tk_694) (fun _ h9 => h9) rfl d_M_count_46 ?_
          refine lv_iload_n hx hb d_M_count_49 rfl (lv_at hl 1 rfl) ?_
          refine yn_iald hx hb hK hP 7 0 rfl rfl (j := j) (x := nI (pt j)) (rfl) (by omega) (by omega) d_M_count_50 ?_
          refine lv_goto (tgt := 70) hx hb d_M_count_51 (by decide) ?_
          exact yr_i (ws := wM G h dg mp ml 0 n t pl pn xy pt sz rs ou wr sl p fk fp va oa oc ok) hx hb hrt hlocks (by first | exact Or.inl ⟨j, ⟨hj, rfl, congrArg nI c28⟩, rfl, rfl⟩ | exact Or.inr (Or.inl ⟨j, ⟨hj, rfl, congrArg nI c42⟩, rfl, rfl⟩) | exact Or.inr (Or.inr (Or.inl ⟨j, ⟨hj, rfl, congrArg nI c56⟩, rfl, rfl⟩)) | exact Or.inr (Or.inr (Or.inr (Or.inl ⟨j, ⟨hj, rfl, congrArg nI (by omega)⟩, rfl, rfl⟩)))) rfl hK hP hD hS d_M_count_70
      · skip
        refine lv_aload_n hx hb d_M_count_31 rfl (lv_at hl 0 rfl) ?_
        refine va_get (D := gD G) (ci := 5) (v := .ref (h 5)) (C := "WordShapesModel") (T := TM) (N := 24) hx hb hg iw_M hown hK hP 0 rfl rfl 9 (by decide) (hg _ tk_692) (fun _ h9 => h9) rfl d_M_count_32 ?_
        refine lv_iload_n hx hb d_M_count_35 rfl (lv_at hl 1 rfl) ?_
        refine yn_iald hx hb hK hP 5 0 rfl rfl (j := j) (x := nI (pn j)) (rfl) (by omega) (by omega) d_M_count_36 ?_
        refine lv_goto (tgt := 70) hx hb d_M_count_37 (by decide) ?_
        exact yr_i (ws := wM G h dg mp ml 0 n t pl pn xy pt sz rs ou wr sl p fk fp va oa oc ok) hx hb hrt hlocks (by first | exact Or.inl ⟨j, ⟨hj, rfl, congrArg nI c28⟩, rfl, rfl⟩ | exact Or.inr (Or.inl ⟨j, ⟨hj, rfl, congrArg nI c42⟩, rfl, rfl⟩) | exact Or.inr (Or.inr (Or.inl ⟨j, ⟨hj, rfl, congrArg nI c56⟩, rfl, rfl⟩)) | exact Or.inr (Or.inr (Or.inr (Or.inl ⟨j, ⟨hj, rfl, congrArg nI (by omega)⟩, rfl, rfl⟩)))) rfl hK hP hD hS d_M_count_70
    · skip
      refine lv_aload_n hx hb d_M_count_21 rfl (lv_at hl 0 rfl) ?_
      refine lv_iconst (v := nI 1) hx hb d_M_count_22 (by decide) ?_
      refine y_callW (y_runV (As := [.int (nI 1)]) (rest := []) hx hb hml hown (c_M_fail l G h dg mp ml 0 n t pl pn xy pt sz rs ou wr sl p fk fp va oa oc ok 1 ) (gV (n := 1) hg tk_764 tk_766 (gt_s 31 (by decide +kernel) (by decide +kernel)) tk_7 tk_767 (by decide +kernel) ⟨Nat.le_of_ble_eq_true rfl, Nat.le_of_ble_eq_true rfl⟩) (va_recv hK hP (ci := 5) (q0 := 0) rfl rfl) (y_preW hE hK hP hD hS hA) rfl rfl hl.1 rfl (lv_room (Nat.le_of_ble_eq_true rfl)) d_M_count_23 ⟨Nat.le_of_ble_eq_true rfl, Nat.le_of_ble_eq_true rfl⟩) hD hS hA (fun _ _ _ _ _ _ hp => False.elim hp) (fun v9 w9 H locs hp hlw hP hD hS => ?_)
      obtain ⟨rfl, rfl⟩ := hp
      have hP : va_P (gD G) vwC (wM G h dg mp ml 1 n t pl pn xy pt sz rs ou wr sl p fk fp va oa oc ok) H := hP
      have hD : va_D A (wM G h dg mp ml 1 n t pl pn xy pt sz rs ou wr sl p fk fp va oa oc ok) := hD
      refine W.eq (g2 := F0 mm 26 ls [.int (nI 0)]) rfl ?_
      exact yr_i (ws := wM G h dg mp ml 1 n t pl pn xy pt sz rs ou wr sl p fk fp va oa oc ok) hx hb hrt hlocks (Or.inr (Or.inr (Or.inr (Or.inr ⟨fun y => by obtain ⟨⟨j2, h1, h2⟩, z2, h3, h4⟩ := y; first | (rw [h4] at c18; exact c18 (wi_f (by decide) h3)) | (rw [h2] at c9; exact c9 (wi_f (by decide) (by omega))), rfl, rfl⟩)))) rfl hK hP hD hS d_M_count_26
