/-! numbers in a text: where their parts end, and what they are worth -/
theorem ps_ge {t : Nat → Nat} {n p : Nat} : p ≤ ps t n p := by unfold ps; split <;> omega
theorem ps_le {t : Nat → Nat} {n p : Nat} (h : p ≤ n) : ps t n p ≤ n := by
  unfold ps
  by_cases q : p < n
  · split <;> omega
  · unfold hr sgN
    rw [if_neg q, if_neg (by decide)]
    exact h
/-- the exponent's digits, capped -/
def exE (t : Nat → Nat) : Nat → Nat → Nat → Nat
  | 0, _, e => e
  | m + 1, i, e => exE t m (i + 1) (min (10 * e + t i - 48) 1000000)
theorem exE_step {t : Nat → Nat} {b i e : Nat} (h : i < b) : exE t (b - i) i e = exE t (b - (i + 1)) (i + 1) (min (10 * e + t i - 48) 1000000) := by
  rw [show b - i = (b - (i + 1)) + 1 by omega]; rfl
theorem exE_done {t : Nat → Nat} {b i e : Nat} (h : b ≤ i) : exE t (b - i) i e = e := by rw [show b - i = 0 by omega]; rfl
def xE (t : Nat → Nat) (n p : Nat) : Int32 := if hr t n (p + 1) = 45 then -nI (exE t (rn diN t n (ps t n (p + 1)) - ps t n (p + 1)) (ps t n (p + 1)) 0) else nI (exE t (rn diN t n (ps t n (p + 1)) - ps t n (p + 1)) (ps t n (p + 1)) 0)
theorem minN {a b : Nat} (ha : a < 2 ^ 31) (hb : b < 2 ^ 31) : (if nI b < nI a then nI b else nI a) = nI (min a b) := by
  by_cases h : b < a
  · rw [if_pos (nI_lt h ha), Nat.min_eq_right (by omega)]
  · rw [if_neg (nI_nlt (by omega) hb), Nat.min_eq_left (by omega)]
theorem lN_neg (r : Nat) : (-lN r).toInt32 = -nI r := by rw [Int64.toInt32_neg, lN_i]
def n1 (t : Nat → Nat) (n p : Nat) : Nat := ps t n p
def n2 (t : Nat → Nat) (n p : Nat) : Nat := rn diN t n (n1 t n p)
def n4 (t : Nat → Nat) (n p : Nat) : Nat := if hr t n (n2 t n p) = 46 then rn diN t n (n2 t n p + 1) else n2 t n p
def nA (t : Nat → Nat) (n p : Nat) : Nat := if hr t n (n2 t n p) = 46 then (n2 t n p - n1 t n p) + (rn diN t n (n2 t n p + 1) - (n2 t n p + 1)) else n2 t n p - n1 t n p
abbrev nX (t : Nat → Nat) (n p : Nat) : Prop := hr t n (n4 t n p) = 101 ∨ hr t n (n4 t n p) = 69
abbrev nXb (t : Nat → Nat) (n p : Nat) : Prop := rn diN t n (ps t n (n4 t n p + 1)) = ps t n (n4 t n p + 1)
def n5 (t : Nat → Nat) (n p : Nat) : Nat := if nX t n p then rn diN t n (ps t n (n4 t n p + 1)) else n4 t n p
def nV (t : Nat → Nat) (n p : Nat) : Int32 := if nX t n p then xE t n (n4 t n p) else nI 0
def nW (t : Nat → Nat) (n dg p : Nat) : Int32 := (nI (n2 t n p - n1 t n p) + nV t n p) + nI dg
def nU (t : Nat → Nat) (n dg p : Nat) : Nat := exR t (n1 t n p) (n4 t n p) (nW t n dg p).toInt
/-- a number at p: what is wrong and where, or the place behind it and its value -/
def numR (t : Nat → Nat) (n dg p : Nat) : (Nat × Nat) ⊕ (Nat × Int32) :=
  if nuN (hr t n p) = false then .inl (uxp (hr t n p), p)
  else if nX t n p ∧ nXb t n p then .inl (4, p)
  else if nA t n p = 0 ∨ leN (hr t n (n5 t n p)) = true ∨ nuN (hr t n (n5 t n p)) = true then .inl (4, p)
  else if 1000000000 < nU t n dg p then .inl (5, p)
  else .inr (n5 t n p, if hr t n p = 45 then -nI (nU t n dg p) else nI (nU t n dg p))
theorem hr_lt {t : Nat → Nat} {n p k : Nat} (h : hr t n p = k) (hk : k < 256) : p < n := by
  unfold hr at h
  by_cases q : p < n
  · exact q
  · rw [if_neg q] at h; omega
theorem nn {t : Nat → Nat} {n p : Nat} (h : p ≤ n) : n1 t n p ≤ n2 t n p ∧ n2 t n p ≤ n4 t n p ∧ n4 t n p ≤ n ∧ p ≤ n1 t n p ∧ n1 t n p ≤ n := by
  have a1 : n1 t n p ≤ n := ps_le h
  have a2 : n1 t n p ≤ n2 t n p := rn_ge a1
  have a3 : n2 t n p ≤ n := rn_le a1
  have a5 : p ≤ n1 t n p := ps_ge
  refine ⟨a2, ?_, ?_, a5, a1⟩ <;> unfold n4
  · split
    · next q => exact Nat.le_trans (Nat.le_succ _) (rn_ge (hr_lt q (by decide)))
    · exact Nat.le_refl _
  · split
    · next q => exact rn_le (hr_lt q (by decide))
    · exact a3
theorem nx5 {t : Nat → Nat} {n p : Nat} (h : p ≤ n) : n4 t n p ≤ n5 t n p ∧ n5 t n p ≤ n := by
  have hh := nn (t := t) h
  unfold n5
  by_cases q : nX t n p
  · rw [if_pos q]
    have q1 : n4 t n p < n := by rcases q with q | q <;> exact hr_lt q (by decide)
    have q2 : ps t n (n4 t n p + 1) ≤ n := ps_le q1
    have q3 := ps_ge (t := t) (n := n) (p := n4 t n p + 1)
    have q4 := rn_ge (P := diN) (t := t) q2
    have q5 := rn_le (P := diN) (t := t) q2
    omega
  · rw [if_neg q]
    omega
theorem nA_le {t : Nat → Nat} {n p : Nat} (h : p ≤ n) : nA t n p ≤ n := by
  have hh := nn (t := t) h
  unfold nA
  by_cases q : hr t n (n2 t n p) = 46
  · rw [if_pos q]
    have := rn_le (P := diN) (t := t) (p := n2 t n p + 1) (hr_lt q (by decide))
    omega
  · rw [if_neg q]
    omega

set_option maxHeartbeats 4000000 in
set_option maxRecDepth 100000 in
theorem c_R_readExponent {l : Launch} (hlt : l.stackTraces = false) (G : gl) (h : Nat → Nat) (dg : Nat) (n : Nat) (p : Nat) (fk : Nat) (fp : Nat) (t : Nat → Nat) (np : Nat) (no : Nat) (k : Nat) (c : Nat) (f : Nat → Int32) (o : Nat → Int32) (bt : Nat) (bk : Nat → Int32) (bn : Nat → Int32) (b : Nat) (hn : n ≤ 65536) (hp : p < n) (ht : ∀ i, t i < 256) : YC l G y_R_readExponent k_R_readExponent 5 (Option.some FieldType.int) 7 112 [.ref (h 0), .int (nI b)] (wR G h dg n p fk fp t np no k c f o bt bk bn) (fun v w => (¬ rn diN t n (ps t n (p + 1)) = ps t n (p + 1)) ∧ v = some (.int (xE t n p)) ∧ w = wR G h dg n (rn diN t n (ps t n (p + 1))) fk fp t np no k c f o bt bk bn) (fun E w => (rn diN t n (ps t n (p + 1)) = ps t n (p + 1)) ∧ E = "java/lang/IllegalArgumentException" ∧ w = wR G h dg n (rn diN t n (ps t n (p + 1))) 4 b t np no k c f o bt bk bn) := by
  refine yc_of (by decide) ?_
  intro pg ev sx mm bl mt cd A C0 hP hD
  obtain ⟨hx, hb, hrt, hml, hown, hg, hlocks, hxt, hE, hK, hA, hmn⟩ := C0
  have hS : va_S A sx.heap sx.heap [] := va_S.rf
  have hl := lv_entry ([.ref (h 0), .int (nI b)]) (n := 5) (Nat.le_of_ble_eq_true rfl)
  rw [lg_entry_eq]
  generalize (lg_sl ([.ref (h 0), .int (nI b)]) ++ List.replicate (5 - (lg_sl ([.ref (h 0), .int (nI b)])).length) Slot.unset).toArray = ls at hl ⊢
  have hl : lv_has ls 5 [(0, .ref (h 0)), (1, .int (nI b))] := hl
  have hps1 := ps_le (t := t) (n := n) (p := p + 1) (by omega)
  have hps2 := ps_ge (t := t) (n := n) (p := p + 1)
  obtain ⟨H, hH⟩ : ∃ H, H = sx.heap := ⟨_, rfl⟩
  rw [← hH] at hP
  have hS : va_S A sx.heap H [] := by rw [hH]; exact hS
  suffices h9 : W pg l ev (yR 7 112) sx mm _ bl mt cd H [] 0 0 (yMQ bl G A _ _ _ _ sx) (F0 mm 0 ls []) by rw [hH] at h9; exact h9
  obtain ⟨locs, hlo⟩ : ∃ locs : List Loc, locs = [] := ⟨_, rfl⟩
  rw [← hlo] at hS ⊢
  have J37 : ∀ (n9 : Nat) (q : Nat) (e : Nat) (z : Bool) (hm9 : n - q < n9) (hz : z = decide (hr t n (p + 1) = 45)) (hq1 : ps t n (p + 1) ≤ q) (hq2 : q ≤ n) (he : e ≤ 1000000) (hq3 : rn diN t n q = rn diN t n (ps t n (p + 1))) (hq4 : exE t (rn diN t n (ps t n (p + 1)) - ps t n (p + 1)) (ps t n (p + 1)) 0 = exE t (rn diN t n (ps t n (p + 1)) - q) q e) (H : Heap) (locs : List Loc) (ls : Array Slot), va_P (gD G) vwC (wR G h dg n q fk fp t np no k c f o bt bk bn) H → va_D A (wR G h dg n q fk fp t np no k c f o bt bk bn) → va_S A sx.heap H locs → lv_has ls 5 [(0, .ref (h 0)), (1, .int (nI b)), (2, .int (bz z)), (3, .int (nI (ps t n (p + 1)))), (4, .int (nI e))] → W pg l ev (yR 7 112) sx mm ([.ref (h 0), .int (nI b)] : List Value).toArray bl mt cd H locs 0 0 (yMQ bl G A (wR G h dg n p fk fp t np no k c f o bt bk bn).length (fun v w => (¬ rn diN t n (ps t n (p + 1)) = ps t n (p + 1)) ∧ v = some (.int (xE t n p)) ∧ w = wR G h dg n (rn diN t n (ps t n (p + 1))) fk fp t np no k c f o bt bk bn) (fun E w => (rn diN t n (ps t n (p + 1)) = ps t n (p + 1)) ∧ E = "java/lang/IllegalArgumentException" ∧ w = wR G h dg n (rn diN t n (ps t n (p + 1))) 4 b t np no k c f o bt bk bn) ([.ref (h 0), .int (nI b)] : List Value).toArray sx) (F0 mm 37 ls []) := by
    intro n9
    induction n9 with
    | zero => intro q e z hm9; exact absurd hm9 (Nat.not_lt_zero _)
    | succ n9 ih9 =>
      intro q e z hm9 hz hq1 hq2 he hq3 hq4 H locs ls hP hD hS hl
      refine lv_aload_n hx hb d_R_readExponent_37 rfl (lv_at hl 0 rfl) ?_
      refine va_get (D := gD G) (ci := 1) (v := .int (nI q)) (C := "WordShapes$Reader") (T := TR) (N := 8) hx hb hg iw_R hown hK hP 0 rfl rfl 5 (by decide) (hg _ tk_92) (fun _ h9 => h9) rfl d_R_readExponent_38 ?_
      refine lv_aload_n hx hb d_R_readExponent_41 rfl (lv_at hl 0 rfl) ?_
      refine va_get (D := gD G) (ci := 1) (v := .int (nI n)) (C := "WordShapes$Reader") (T := TR) (N := 8) hx hb hg iw_R hown hK hP 0 rfl rfl 4 (by decide) (hg _ tk_91) (fun _ h9 => h9) rfl d_R_readExponent_42 ?_
      refine yn_icmp_ge (a := q) (b := n) (tgt := 101) hx hb d_R_readExponent_45 (by decide) (by omega) (by omega) (fun c45 => ?_) (fun c45 => ?_)
      · skip
        have e9 : q = rn diN t n (ps t n (p + 1)) := by rw [← hq3]; exact (rn_stop (fun y => by first | omega | (rw [c60] at y; exact absurd y.2 (by decide)))).symm
        rw [e9] at hP hD hq4
        refine lv_aload_n hx hb d_R_readExponent_101 rfl (lv_at hl 0 rfl) ?_
        refine va_get (D := gD G) (ci := 1) (v := .int (nI (rn diN t n (ps t n (p + 1))))) (C := "WordShapes$Reader") (T := TR) (N := 8) hx hb hg iw_R hown hK hP 0 rfl rfl 5 (by decide) (hg _ tk_92) (fun _ h9 => h9) rfl d_R_readExponent_102 ?_
        refine lv_iload_n hx hb d_R_readExponent_105 rfl (lv_at hl 3 rfl) ?_
        refine yn_icmp_ne (a := rn diN t n (ps t n (p + 1))) (b := ps t n (p + 1)) (tgt := 115) hx hb d_R_readExponent_106 (by decide) (by omega) (by omega) (fun c106 => ?_) (fun c106 => ?_)
        · skip
          refine lv_iload_n hx hb d_R_readExponent_115 rfl (lv_at hl 2 rfl) ?_
          refine yy_if_eq (P := z) (tgt := 125) hx hb d_R_readExponent_116 (by decide) (fun c116 => ?_) (fun c116 => ?_)
          · skip
            refine lv_iload hx hb d_R_readExponent_125 (lv_at hl 4 rfl) ?_
            exact yr_i (ws := wR G h dg n (rn diN t n (ps t n (p + 1))) fk fp t np no k c f o bt bk bn) hx hb hrt hlocks (⟨c106, by unfold xE; rw [hq4, exE_done (Nat.le_refl _)]; first | (rw [hz] at c116; rw [if_neg (of_decide_eq_false c116)]) | (rw [hz] at c116; rw [if_pos (of_decide_eq_true c116)]), rfl⟩) rfl hK hP hD hS d_R_readExponent_127
          · skip
            refine lv_iload hx hb d_R_readExponent_119 (lv_at hl 4 rfl) ?_
            refine lv_ineg hx hb d_R_readExponent_121 ?_
            refine y_eqi (y := -nI e) (rfl) ?_
            refine lv_goto (tgt := 127) hx hb d_R_readExponent_122 (by decide) ?_
            exact yr_i (ws := wR G h dg n (rn diN t n (ps t n (p + 1))) fk fp t np no k c f o bt bk bn) hx hb hrt hlocks (⟨c106, by unfold xE; rw [hq4, exE_done (Nat.le_refl _)]; first | (rw [hz] at c116; rw [if_neg (of_decide_eq_false c116)]) | (rw [hz] at c116; rw [if_pos (of_decide_eq_true c116)]), rfl⟩) rfl hK hP hD hS d_R_readExponent_127
        · skip
          refine lv_aload_n hx hb d_R_readExponent_109 rfl (lv_at hl 0 rfl) ?_
          refine lv_iconst (v := nI 4) hx hb d_R_readExponent_110 (by decide) ?_
          refine lv_iload_n hx hb d_R_readExponent_111 rfl (lv_at hl 1 rfl) ?_
          refine y_call (y_runV (As := [.int (nI 4), .int (nI b)]) (rest := []) hx hb hml hown (c_R_fail hlt G h dg n (rn diN t n (ps t n (p + 1))) fk fp t np no k c f o bt bk bn 4 b ) (gV (n := 2) hg tk_370 tk_372 (gt_s 8 (by decide +kernel) (by decide +kernel)) tk_4 tk_373 (by decide +kernel) ⟨Nat.le_of_ble_eq_true rfl, Nat.le_of_ble_eq_true rfl⟩) (va_recv hK hP (ci := 1) (q0 := 0) rfl rfl) (y_pre hE hK hP hD hS hA [0, 1, 2, 3, 4, 5, 6, 7] rfl rfl) rfl rfl hl.1 rfl (lv_room (Nat.le_of_ble_eq_true rfl)) d_R_readExponent_112 ⟨Nat.le_of_ble_eq_true rfl, Nat.le_of_ble_eq_true rfl⟩) hP hD hS hA [0, 1, 2, 3, 4, 5, 6, 7] rfl (fun E w q ce H locs hp hlw hP hD hS hq1 hq2 hq3 => ?_) (fun _ _ _ _ hp => False.elim hp)
          · skip
            obtain ⟨rfl, rfl⟩ := hp
            have hP : va_P (gD G) vwC (wR G h dg n (rn diN t n (ps t n (p + 1))) 4 b t np no k c f o bt bk bn) H := hP
            have hD : va_D A (wR G h dg n (rn diN t n (ps t n (p + 1))) 4 b t np no k c f o bt bk bn) := hD
            exact y_out (ws := wR G h dg n (rn diN t n (ps t n (p + 1))) 4 b t np no k c f o bt bk bn) hxt hlocks hq1 hq2 hq3 (⟨c106, rfl, rfl⟩) rfl hK hP hD hS
      · skip
        refine lv_aload_n hx hb d_R_readExponent_48 rfl (lv_at hl 0 rfl) ?_
        refine va_get (D := gD G) (ci := 1) (v := .ref (h 1)) (C := "WordShapes$Reader") (T := TR) (N := 8) hx hb hg iw_R hown hK hP 0 rfl rfl 0 (by decide) (hg _ tk_86) (fun _ h9 => h9) rfl d_R_readExponent_49 ?_
        refine lv_aload_n hx hb d_R_readExponent_52 rfl (lv_at hl 0 rfl) ?_
        refine va_get (D := gD G) (ci := 1) (v := .int (nI q)) (C := "WordShapes$Reader") (T := TR) (N := 8) hx hb hg iw_R hown hK hP 0 rfl rfl 5 (by decide) (hg _ tk_92) (fun _ h9 => h9) rfl d_R_readExponent_53 ?_
        refine yn_bald hx hb hK hP 1 1 rfl rfl (j := q) (x := sb_b (t q)) (rfl) (by omega) (by omega) d_R_readExponent_56 ?_
        refine y_call (y_runS (As := [.int (sb_b (t q))]) (rest := []) hx hb hml hown (c_R_isDigit l G  (sb_b (t q)) ) (gS (n := 1) hg tk_496 tk_497 tk_4 tk_498 (by decide +kernel) ⟨Nat.le_of_ble_eq_true rfl, Nat.le_of_ble_eq_true rfl⟩) (y_pre hE hK hP hD hS hA [] rfl rfl) rfl rfl hl.1 rfl (lv_room (Nat.le_of_ble_eq_true rfl)) d_R_readExponent_57 ⟨Nat.le_of_ble_eq_true rfl, Nat.le_of_ble_eq_true rfl⟩) hP hD hS hA [] rfl (fun _ _ _ _ _ _ hp => False.elim hp) (fun v w H locs hp hlw hP hD hS => ?_)
        obtain ⟨rfl, rfl⟩ := hp
        have hP : va_P (gD G) vwC (wR G h dg n q fk fp t np no k c f o bt bk bn) H := hP
        have hD : va_D A (wR G h dg n q fk fp t np no k c f o bt bk bn) := hD
        refine W.eq (g2 := F0 mm 60 ls [.int (bz (isDi (sb_b (t q))))]) rfl ?_
        refine yy_if_eq (P := isDi (sb_b (t q))) (tgt := 101) hx hb d_R_readExponent_60 (by decide) (fun c60 => ?_) (fun c60 => ?_)
        · skip
          rw [(ch_b _ (ht q)).2.2.1] at c60
          have e9 : q = rn diN t n (ps t n (p + 1)) := by rw [← hq3]; exact (rn_stop (fun y => by first | omega | (rw [c60] at y; exact absurd y.2 (by decide)))).symm
          rw [e9] at hP hD hq4
          refine lv_aload_n hx hb d_R_readExponent_101 rfl (lv_at hl 0 rfl) ?_
          refine va_get (D := gD G) (ci := 1) (v := .int (nI (rn diN t n (ps t n (p + 1))))) (C := "WordShapes$Reader") (T := TR) (N := 8) hx hb hg iw_R hown hK hP 0 rfl rfl 5 (by decide) (hg _ tk_92) (fun _ h9 => h9) rfl d_R_readExponent_102 ?_
          refine lv_iload_n hx hb d_R_readExponent_105 rfl (lv_at hl 3 rfl) ?_
          refine yn_icmp_ne (a := rn diN t n (ps t n (p + 1))) (b := ps t n (p + 1)) (tgt := 115) hx hb d_R_readExponent_106 (by decide) (by omega) (by omega) (fun c106 => ?_) (fun c106 => ?_)
          · skip
            refine lv_iload_n hx hb d_R_readExponent_115 rfl (lv_at hl 2 rfl) ?_
            refine yy_if_eq (P := z) (tgt := 125) hx hb d_R_readExponent_116 (by decide) (fun c116 => ?_) (fun c116 => ?_)
            · skip
              refine lv_iload hx hb d_R_readExponent_125 (lv_at hl 4 rfl) ?_
              exact yr_i (ws := wR G h dg n (rn diN t n (ps t n (p + 1))) fk fp t np no k c f o bt bk bn) hx hb hrt hlocks (⟨c106, by unfold xE; rw [hq4, exE_done (Nat.le_refl _)]; first | (rw [hz] at c116; rw [if_neg (of_decide_eq_false c116)]) | (rw [hz] at c116; rw [if_pos (of_decide_eq_true c116)]), rfl⟩) rfl hK hP hD hS d_R_readExponent_127
            · skip
              refine lv_iload hx hb d_R_readExponent_119 (lv_at hl 4 rfl) ?_
              refine lv_ineg hx hb d_R_readExponent_121 ?_
              refine y_eqi (y := -nI e) (rfl) ?_
              refine lv_goto (tgt := 127) hx hb d_R_readExponent_122 (by decide) ?_
              exact yr_i (ws := wR G h dg n (rn diN t n (ps t n (p + 1))) fk fp t np no k c f o bt bk bn) hx hb hrt hlocks (⟨c106, by unfold xE; rw [hq4, exE_done (Nat.le_refl _)]; first | (rw [hz] at c116; rw [if_neg (of_decide_eq_false c116)]) | (rw [hz] at c116; rw [if_pos (of_decide_eq_true c116)]), rfl⟩) rfl hK hP hD hS d_R_readExponent_127
          · skip
            refine lv_aload_n hx hb d_R_readExponent_109 rfl (lv_at hl 0 rfl) ?_
            refine lv_iconst (v := nI 4) hx hb d_R_readExponent_110 (by decide) ?_
            refine lv_iload_n hx hb d_R_readExponent_111 rfl (lv_at hl 1 rfl) ?_
            refine y_call (y_runV (As := [.int (nI 4), .int (nI b)]) (rest := []) hx hb hml hown (c_R_fail hlt G h dg n (rn diN t n (ps t n (p + 1))) fk fp t np no k c f o bt bk bn 4 b ) (gV (n := 2) hg tk_370 tk_372 (gt_s 8 (by decide +kernel) (by decide +kernel)) tk_4 tk_373 (by decide +kernel) ⟨Nat.le_of_ble_eq_true rfl, Nat.le_of_ble_eq_true rfl⟩) (va_recv hK hP (ci := 1) (q0 := 0) rfl rfl) (y_pre hE hK hP hD hS hA [0, 1, 2, 3, 4, 5, 6, 7] rfl rfl) rfl rfl hl.1 rfl (lv_room (Nat.le_of_ble_eq_true rfl)) d_R_readExponent_112 ⟨Nat.le_of_ble_eq_true rfl, Nat.le_of_ble_eq_true rfl⟩) hP hD hS hA [0, 1, 2, 3, 4, 5, 6, 7] rfl (fun E w q ce H locs hp hlw hP hD hS hq1 hq2 hq3 => ?_) (fun _ _ _ _ hp => False.elim hp)
            · skip
              obtain ⟨rfl, rfl⟩ := hp
              have hP : va_P (gD G) vwC (wR G h dg n (rn diN t n (ps t n (p + 1))) 4 b t np no k c f o bt bk bn) H := hP
              have hD : va_D A (wR G h dg n (rn diN t n (ps t n (p + 1))) 4 b t np no k c f o bt bk bn) := hD
              exact y_out (ws := wR G h dg n (rn diN t n (ps t n (p + 1))) 4 b t np no k c f o bt bk bn) hxt hlocks hq1 hq2 hq3 (⟨c106, rfl, rfl⟩) rfl hK hP hD hS
        · skip
          rw [(ch_b _ (ht q)).2.2.1] at c60
          have h48 := di_lo c60
          refine lv_bipush (v := nI 10) hx hb d_R_readExponent_63 (by decide) ?_
          refine lv_iload hx hb d_R_readExponent_65 (lv_at hl 4 rfl) ?_
          refine lv_imul hx hb d_R_readExponent_67 ?_
          refine y_eqi (pk_mul _ _) ?_
          refine lv_aload_n hx hb d_R_readExponent_68 rfl (lv_at hl 0 rfl) ?_
          refine va_get (D := gD G) (ci := 1) (v := .ref (h 1)) (C := "WordShapes$Reader") (T := TR) (N := 8) hx hb hg iw_R hown hK hP 0 rfl rfl 0 (by decide) (hg _ tk_86) (fun _ h9 => h9) rfl d_R_readExponent_69 ?_
          refine lv_aload_n hx hb d_R_readExponent_72 rfl (lv_at hl 0 rfl) ?_
          refine va_get (D := gD G) (ci := 1) (v := .int (nI q)) (C := "WordShapes$Reader") (T := TR) (N := 8) hx hb hg iw_R hown hK hP 0 rfl rfl 5 (by decide) (hg _ tk_92) (fun _ h9 => h9) rfl d_R_readExponent_73 ?_
          refine yn_bald hx hb hK hP 1 1 rfl rfl (j := q) (x := sb_b (t q)) (rfl) (by omega) (by omega) d_R_readExponent_76 ?_
          refine lv_iadd hx hb d_R_readExponent_77 ?_
          refine y_eqi (y := nI (10 * e + t q)) (by rw [(sb_dig _ (ht q) c60).2]; exact nI_add _ _) ?_
          refine lv_bipush (v := nI 48) hx hb d_R_readExponent_78 (by decide) ?_
          refine lv_isub hx hb d_R_readExponent_80 ?_
          refine y_eqi (pk_sub (by omega)) ?_
          refine lv_ldc (v := nI 1000000) hx hb hown (hg _ tk_503) d_R_readExponent_81 ?_
          refine va_mmin hx hb (hml.trans hl.1.symm) hown (hg _ tk_323) (hg _ tk_31) (hg _ tk_2) (hg _ tk_32) (Nat.le_of_ble_eq_true rfl) (Nat.le_of_ble_eq_true rfl) (Nat.le_of_ble_eq_true rfl) (Nat.le_of_ble_eq_true rfl) d_R_readExponent_83 ?_
          refine y_eqi (y := nI (min (10 * e + t q - 48) 1000000)) (minN (by omega) (by omega)) ?_
          refine lv_istore (lv' := [(4, .int (nI (min (10 * e + t q - 48) 1000000))), (0, .ref (h 0)), (1, .int (nI b)), (2, .int (bz z)), (3, .int (nI (ps t n (p + 1))))]) hx hb d_R_readExponent_86 hl (by decide) rfl (fun ls hl => ?_)
          refine lv_aload_n hx hb d_R_readExponent_88 rfl (lv_at hl 1 rfl) ?_
          refine lv_dup hx hb d_R_readExponent_89 rfl ?_
          refine va_get (D := gD G) (ci := 1) (v := .int (nI q)) (C := "WordShapes$Reader") (T := TR) (N := 8) hx hb hg iw_R hown hK hP 0 rfl rfl 5 (by decide) (hg _ tk_92) (fun _ h9 => h9) rfl d_R_readExponent_90 ?_
          refine lv_iconst (v := nI 1) hx hb d_R_readExponent_93 (by decide) ?_
          refine lv_iadd hx hb d_R_readExponent_94 ?_
          refine y_eqi (nI_add _ _) ?_
          refine va_put (D := gD G) (ci := 1) (v := .int (nI (q + 1))) (ty := .int) (C := "WordShapes$Reader") (T := TR) (N := 8) hx hb hg iw_R ft_R fo_R nm_R hown hK hP hD hS 0 rfl rfl 5 (by decide) (hg _ tk_92) (fun _ h9 => h9) rfl (by decide +kernel) (rfl) (rfl) (Nat.le_of_ble_eq_true rfl) d_R_readExponent_95 (fun H locs hP hD hS => ?_)
          have hP : va_P (gD G) vwC (wR G h dg n (q + 1) fk fp t np no k c f o bt bk bn) H := hP
          have hD : va_D A (wR G h dg n (q + 1) fk fp t np no k c f o bt bk bn) := hD
          refine lv_goto (tgt := 37) hx hb d_R_readExponent_98 (by decide) ?_
          exact ih9 (q + 1) (min (10 * e + t q - 48) 1000000) z (by omega) (hz) (by omega) (by omega) (by omega) ((rn_step (by omega) c60).symm.trans hq3) (hq4.trans (exE_step (by rw [← hq3, rn_step (by omega) c60]; exact rn_ge (by omega)))) _ _ _ hP hD hS (lv_sub hl [1, 2, 3, 4, 0] (rfl))
  have J24 : ∀ (z : Bool) (hz : z = decide (hr t n (p + 1) = 45)) (H : Heap) (locs : List Loc) (ls : Array Slot), va_P (gD G) vwC (wR G h dg n (p + 1) fk fp t np no k c f o bt bk bn) H → va_D A (wR G h dg n (p + 1) fk fp t np no k c f o bt bk bn) → va_S A sx.heap H locs → lv_has ls 5 [(0, .ref (h 0)), (1, .int (nI b))] → W pg l ev (yR 7 112) sx mm ([.ref (h 0), .int (nI b)] : List Value).toArray bl mt cd H locs 0 0 (yMQ bl G A (wR G h dg n p fk fp t np no k c f o bt bk bn).length (fun v w => (¬ rn diN t n (ps t n (p + 1)) = ps t n (p + 1)) ∧ v = some (.int (xE t n p)) ∧ w = wR G h dg n (rn diN t n (ps t n (p + 1))) fk fp t np no k c f o bt bk bn) (fun E w => (rn diN t n (ps t n (p + 1)) = ps t n (p + 1)) ∧ E = "java/lang/IllegalArgumentException" ∧ w = wR G h dg n (rn diN t n (ps t n (p + 1))) 4 b t np no k c f o bt bk bn) ([.ref (h 0), .int (nI b)] : List Value).toArray sx) (F0 mm 24 ls [.int (bz z)]) := by
    intro z hz H locs ls hP hD hS hl
    refine lv_istore_n (lv' := [(2, .int (bz z)), (0, .ref (h 0)), (1, .int (nI b))]) hx hb d_R_readExponent_24 rfl hl (by decide) rfl (fun ls hl => ?_)
    refine lv_aload_n hx hb d_R_readExponent_25 rfl (lv_at hl 1 rfl) ?_
    refine y_call (y_runV (As := []) (rest := []) hx hb hml hown (c_R_passSign l G h dg n (p + 1) fk fp t np no k c f o bt bk bn  (by omega) (by omega) (ht)) (gV (n := 0) hg tk_488 tk_490 (gt_s 18 (by decide +kernel) (by decide +kernel)) tk_4 tk_491 (by decide +kernel) ⟨Nat.le_of_ble_eq_true rfl, Nat.le_of_ble_eq_true rfl⟩) (va_recv hK hP (ci := 1) (q0 := 0) rfl rfl) (y_pre hE hK hP hD hS hA [0, 1, 2, 3, 4, 5, 6, 7] rfl rfl) rfl rfl hl.1 rfl (lv_room (Nat.le_of_ble_eq_true rfl)) d_R_readExponent_26 ⟨Nat.le_of_ble_eq_true rfl, Nat.le_of_ble_eq_true rfl⟩) hP hD hS hA [0, 1, 2, 3, 4, 5, 6, 7] rfl (fun _ _ _ _ _ _ hp => False.elim hp) (fun v w H locs hp hlw hP hD hS => ?_)
    obtain ⟨rfl, rfl⟩ := hp
    have hP : va_P (gD G) vwC (wR G h dg n (ps t n (p + 1)) fk fp t np no k c f o bt bk bn) H := hP
    have hD : va_D A (wR G h dg n (ps t n (p + 1)) fk fp t np no k c f o bt bk bn) := hD
    refine W.eq (g2 := F0 mm 29 ls []) rfl ?_
    refine lv_aload_n hx hb d_R_readExponent_29 rfl (lv_at hl 1 rfl) ?_
    refine va_get (D := gD G) (ci := 1) (v := .int (nI (ps t n (p + 1)))) (C := "WordShapes$Reader") (T := TR) (N := 8) hx hb hg iw_R hown hK hP 0 rfl rfl 5 (by decide) (hg _ tk_92) (fun _ h9 => h9) rfl d_R_readExponent_30 ?_
    refine lv_istore_n (lv' := [(3, .int (nI (ps t n (p + 1)))), (2, .int (bz z)), (0, .ref (h 0)), (1, .int (nI b))]) hx hb d_R_readExponent_33 rfl hl (by decide) rfl (fun ls hl => ?_)
    refine lv_iconst (v := nI 0) hx hb d_R_readExponent_34 (by decide) ?_
    refine lv_istore (lv' := [(4, .int (nI 0)), (3, .int (nI (ps t n (p + 1)))), (2, .int (bz z)), (0, .ref (h 0)), (1, .int (nI b))]) hx hb d_R_readExponent_35 hl (by decide) rfl (fun ls hl => ?_)
    exact J37 _ (ps t n (p + 1)) 0 z (Nat.lt_succ_self _) (hz) (Nat.le_refl _) (hps1) (by omega) (rfl) (rfl) _ _ _ hP hD hS (lv_sub hl [3, 4, 2, 1, 0] (rfl))
  refine lv_aload_n hx hb d_R_readExponent_0 rfl (lv_at hl 0 rfl) ?_
  refine lv_dup hx hb d_R_readExponent_1 rfl ?_
  refine va_get (D := gD G) (ci := 1) (v := .int (nI p)) (C := "WordShapes$Reader") (T := TR) (N := 8) hx hb hg iw_R hown hK hP 0 rfl rfl 5 (by decide) (hg _ tk_92) (fun _ h9 => h9) rfl d_R_readExponent_2 ?_
  refine lv_iconst (v := nI 1) hx hb d_R_readExponent_5 (by decide) ?_
  refine lv_iadd hx hb d_R_readExponent_6 ?_
  refine y_eqi (nI_add _ _) ?_
  refine va_put (D := gD G) (ci := 1) (v := .int (nI (p + 1))) (ty := .int) (C := "WordShapes$Reader") (T := TR) (N := 8) hx hb hg iw_R ft_R fo_R nm_R hown hK hP hD hS 0 rfl rfl 5 (by decide) (hg _ tk_92) (fun _ h9 => h9) rfl (by decide +kernel) (rfl) (rfl) (Nat.le_of_ble_eq_true rfl) d_R_readExponent_7 (fun H locs hP hD hS => ?_)
  have hP : va_P (gD G) vwC (wR G h dg n (p + 1) fk fp t np no k c f o bt bk bn) H := hP
  have hD : va_D A (wR G h dg n (p + 1) fk fp t np no k c f o bt bk bn) := hD
  refine lv_aload_n hx hb d_R_readExponent_10 rfl (lv_at hl 0 rfl) ?_
  refine y_call (y_runV (As := []) (rest := []) hx hb hml hown (c_R_here l G h dg n (p + 1) fk fp t np no k c f o bt bk bn  (by omega) (by omega) (ht)) (gV (n := 0) hg tk_356 tk_358 (gt_s 6 (by decide +kernel) (by decide +kernel)) tk_4 tk_359 (by decide +kernel) ⟨Nat.le_of_ble_eq_true rfl, Nat.le_of_ble_eq_true rfl⟩) (va_recv hK hP (ci := 1) (q0 := 0) rfl rfl) (y_pre hE hK hP hD hS hA [0, 1, 2, 3, 4, 5, 6, 7] rfl rfl) rfl rfl hl.1 rfl (lv_room (Nat.le_of_ble_eq_true rfl)) d_R_readExponent_11 ⟨Nat.le_of_ble_eq_true rfl, Nat.le_of_ble_eq_true rfl⟩) hP hD hS hA [0, 1, 2, 3, 4, 5, 6, 7] rfl (fun _ _ _ _ _ _ hp => False.elim hp) (fun v w H locs hp hlw hP hD hS => ?_)
  obtain ⟨rfl, rfl⟩ := hp
  have hP : va_P (gD G) vwC (wR G h dg n (p + 1) fk fp t np no k c f o bt bk bn) H := hP
  have hD : va_D A (wR G h dg n (p + 1) fk fp t np no k c f o bt bk bn) := hD
  refine W.eq (g2 := F0 mm 14 ls [.int (toI (hr t n (p + 1)))]) rfl ?_
  refine lv_bipush (v := nI 45) hx hb d_R_readExponent_14 (by decide) ?_
  refine yh_icmp_ne (a := hr t n (p + 1)) (b := 45) (tgt := 23) hx hb d_R_readExponent_16 (by decide) (hr_le ht _ _) (by omega) (fun c16 => ?_) (fun c16 => ?_)
  · skip
    refine lv_iconst (v := nI 0) hx hb d_R_readExponent_23 (by decide) ?_
    exact J24 false ((decide_eq_false c16).symm) _ _ _ hP hD hS (lv_sub hl [0, 1] (rfl))
  · skip
    refine lv_iconst (v := nI 1) hx hb d_R_readExponent_19 (by decide) ?_
    refine lv_goto (tgt := 24) hx hb d_R_readExponent_20 (by decide) ?_
    exact J24 true ((decide_eq_true c16).symm) _ _ _ hP hD hS (lv_sub hl [0, 1] (rfl))
set_option maxHeartbeats 4000000 in
set_option maxRecDepth 100000 in
theorem c_R_readNumber {l : Launch} (hlt : l.stackTraces = false) (G : gl) (h : Nat → Nat) (dg : Nat) (n : Nat) (p : Nat) (fk : Nat) (fp : Nat) (t : Nat → Nat) (np : Nat) (no : Nat) (k : Nat) (c : Nat) (f : Nat → Int32) (o : Nat → Int32) (bt : Nat) (bk : Nat → Int32) (bn : Nat → Int32)  (hn : n ≤ 65536) (hp : p ≤ n) (ht : ∀ i, t i < 256) : YC l G y_R_readNumber k_R_readNumber 10 (Option.some FieldType.int) 8 136 [.ref (h 0)] (wR G h dg n p fk fp t np no k c f o bt bk bn) (fun v w => ∃ q x, numR t n dg p = .inr (q, x) ∧ v = some (.int x) ∧ w = wR G h dg n q fk fp t np no k c f o bt bk bn) (fun E w => ∃ a b q, numR t n dg p = .inl (a, b) ∧ E = "java/lang/IllegalArgumentException" ∧ w = wR G h dg n q a b t np no k c f o bt bk bn) := by
  refine yc_of (by decide) ?_
  intro pg ev sx mm bl mt cd A C0 hP hD
  obtain ⟨hx, hb, hrt, hml, hown, hg, hlocks, hxt, hE, hK, hA, hmn⟩ := C0
  have hS : va_S A sx.heap sx.heap [] := va_S.rf
  have hl := lv_entry ([.ref (h 0)]) (n := 10) (Nat.le_of_ble_eq_true rfl)
  rw [lg_entry_eq]
  generalize (lg_sl ([.ref (h 0)]) ++ List.replicate (10 - (lg_sl ([.ref (h 0)])).length) Slot.unset).toArray = ls at hl ⊢
  have hl : lv_has ls 10 [(0, .ref (h 0))] := hl
  have hnn := nn (t := t) (n := n) (p := p) hp
  have hn5 := nx5 (t := t) (n := n) (p := p) hp
  obtain ⟨hn1, hn2, hn3, hn4, hn6⟩ := hnn
  obtain ⟨hn7, hn8⟩ := hn5
  have hnA := nA_le (t := t) (n := n) (p := p) hp
  obtain ⟨H, hH⟩ : ∃ H, H = sx.heap := ⟨_, rfl⟩
  rw [← hH] at hP
  have hS : va_S A sx.heap H [] := by rw [hH]; exact hS
  suffices h9 : W pg l ev (yR 8 136) sx mm _ bl mt cd H [] 0 0 (yMQ bl G A _ _ _ _ sx) (F0 mm 0 ls []) by rw [hH] at h9; exact h9
  obtain ⟨locs, hlo⟩ : ∃ locs : List Loc, locs = [] := ⟨_, rfl⟩
  rw [← hlo] at hS ⊢
  have J147 : ∀ (z : Bool) (hz : z = decide (hr t n p = 45)) (hnu : nuN (hr t n p) = true) (hxb : ¬ (nX t n p ∧ nXb t n p)) (hend : ¬ (nA t n p = 0 ∨ leN (hr t n (n5 t n p)) = true ∨ nuN (hr t n (n5 t n p)) = true)) (H : Heap) (locs : List Loc) (ls : Array Slot), va_P (gD G) vwC (wR G h dg n (n5 t n p) fk fp t np no k c f o bt bk bn) H → va_D A (wR G h dg n (n5 t n p) fk fp t np no k c f o bt bk bn) → va_S A sx.heap H locs → lv_has ls 10 [(0, .ref (h 0)), (1, .int (nI p)), (2, .int (bz z)), (3, .int (nI (n1 t n p))), (4, .int (nI (n2 t n p - n1 t n p))), (6, .int (nI (n4 t n p))), (7, .int (nV t n p))] → W pg l ev (yR 8 136) sx mm ([.ref (h 0)] : List Value).toArray bl mt cd H locs 0 0 (yMQ bl G A (wR G h dg n p fk fp t np no k c f o bt bk bn).length (fun v w => ∃ q x, numR t n dg p = .inr (q, x) ∧ v = some (.int x) ∧ w = wR G h dg n q fk fp t np no k c f o bt bk bn) (fun E w => ∃ a b q, numR t n dg p = .inl (a, b) ∧ E = "java/lang/IllegalArgumentException" ∧ w = wR G h dg n q a b t np no k c f o bt bk bn) ([.ref (h 0)] : List Value).toArray sx) (F0 mm 147 ls []) := by
    intro z hz hnu hxb hend H locs ls hP hD hS hl
    refine lv_aload_n hx hb d_R_readNumber_147 rfl (lv_at hl 0 rfl) ?_
    refine lv_iload_n hx hb d_R_readNumber_148 rfl (lv_at hl 3 rfl) ?_
    refine lv_iload hx hb d_R_readNumber_149 (lv_at hl 5 rfl) ?_
    refine lv_iload hx hb d_R_readNumber_151 (lv_at hl 4 rfl) ?_
    refine lv_iload hx hb d_R_readNumber_153 (lv_at hl 6 rfl) ?_
    refine lv_iadd hx hb d_R_readNumber_155 ?_
    refine lv_aload_n hx hb d_R_readNumber_156 rfl (lv_at hl 0 rfl) ?_
    refine va_get (D := gD G) (ci := 1) (v := .int (nI dg)) (C := "WordShapes$Reader") (T := TR) (N := 8) hx hb hg iw_R hown hK hP 0 rfl rfl 1 (by decide) (hg _ tk_87) (fun _ h9 => h9) rfl d_R_readNumber_157 ?_
    refine lv_iadd hx hb d_R_readNumber_160 ?_
    refine y_call (y_runV (As := [.int (nI (n1 t n p)), .int (nI (n4 t n p)), .int (((nI (n2 t n p - n1 t n p)) + (nV t n p)) + (nI dg))]) (rest := []) hx hb hml hown (c_R_roundedUnits l G h dg n (n5 t n p) fk fp t np no k c f o bt bk bn (n1 t n p) (n4 t n p) (((nI (n2 t n p - n1 t n p)) + (nV t n p)) + (nI dg)) (by omega) (by omega) (ht) (by omega) (by omega)) (gV (n := 3) hg tk_504 tk_506 (gt_s 21 (by decide +kernel) (by decide +kernel)) tk_4 tk_507 (by decide +kernel) ⟨Nat.le_of_ble_eq_true rfl, Nat.le_of_ble_eq_true rfl⟩) (va_recv hK hP (ci := 1) (q0 := 0) rfl rfl) (y_pre hE hK hP hD hS hA [0, 1, 2, 3, 4, 5, 6, 7] rfl rfl) rfl rfl hl.1 rfl (lv_room (Nat.le_of_ble_eq_true rfl)) d_R_readNumber_161 ⟨Nat.le_of_ble_eq_true rfl, Nat.le_of_ble_eq_true rfl⟩) hP hD hS hA [0, 1, 2, 3, 4, 5, 6, 7] rfl (fun _ _ _ _ _ _ hp => False.elim hp) (fun v w H locs hp hlw hP hD hS => ?_)
    obtain ⟨r_161, rfl, hr1_161, hr2_161, rfl⟩ := hp
    have hP : va_P (gD G) vwC (wR G h dg n (n5 t n p) fk fp t np no k c f o bt bk bn) H := hP
    have hD : va_D A (wR G h dg n (n5 t n p) fk fp t np no k c f o bt bk bn) := hD
    refine W.eq (g2 := F0 mm 164 ls [.long (lN r_161)]) rfl ?_
    refine lv_lstore (lv' := [(8, .long (lN r_161)), (0, .ref (h 0)), (1, .int (nI p)), (2, .int (bz z)), (3, .int (nI (n1 t n p))), (4, .int (nI (n2 t n p - n1 t n p))), (6, .int (nI (n4 t n p))), (7, .int (nV t n p))]) hx hb d_R_readNumber_164 hl (by decide) rfl (fun ls hl => ?_)
    refine lv_lload hx hb d_R_readNumber_166 (lv_at hl 0 rfl) ?_
    refine lv_ldc2 (v := lN 1000000000) hx hb hown (hg _ tk_511) d_R_readNumber_168 ?_
    refine yl_le (a := r_161) (b := 1000000000) (tgt := 181) hx hb d_R_readNumber_171 d_R_readNumber_172 (by decide) (by omega) (by omega) (fun c172 => ?_) (fun c172 => ?_)
    · skip
      refine lv_iload_n hx hb d_R_readNumber_181 rfl (lv_at hl 3 rfl) ?_
      refine yy_if_eq (P := z) (tgt := 191) hx hb d_R_readNumber_182 (by decide) (fun c182 => ?_) (fun c182 => ?_)
      · skip
        refine lv_lload hx hb d_R_readNumber_191 (lv_at hl 0 rfl) ?_
        refine lv_l2i hx hb d_R_readNumber_193 (v := (lN r_161).toInt32) rfl ?_
        refine y_eqi (y := nI r_161) (lN_i _) ?_
        exact yr_i (ws := wR G h dg n (n5 t n p) fk fp t np no k c f o bt bk bn) hx hb hrt hlocks (⟨_, _, by unfold numR; rw [if_neg (by rw [hnu]; decide), if_neg hxb, if_neg hend, if_neg (by have := hr1_161.2; unfold nU; unfold nW; omega)], by have h8 : r_161 = nU t n dg p := (by have h1 := hr1_161.1; have h2 := hr1_161.2; unfold nU; unfold nW; omega); rw [← h8]; first | (rw [hz] at c182; rw [if_neg (of_decide_eq_false c182)]) | (rw [hz] at c182; rw [if_pos (of_decide_eq_true c182)]), rfl⟩) rfl hK hP hD hS d_R_readNumber_194
      · skip
        refine lv_lload hx hb d_R_readNumber_185 (lv_at hl 0 rfl) ?_
        refine lv_lneg hx hb d_R_readNumber_187 ?_
        refine lv_goto (tgt := 193) hx hb d_R_readNumber_188 (by decide) ?_
        refine lv_l2i hx hb d_R_readNumber_193 (v := (-(lN r_161)).toInt32) rfl ?_
        refine y_eqi (y := -nI r_161) (lN_neg _) ?_
        exact yr_i (ws := wR G h dg n (n5 t n p) fk fp t np no k c f o bt bk bn) hx hb hrt hlocks (⟨_, _, by unfold numR; rw [if_neg (by rw [hnu]; decide), if_neg hxb, if_neg hend, if_neg (by have := hr1_161.2; unfold nU; unfold nW; omega)], by have h8 : r_161 = nU t n dg p := (by have h1 := hr1_161.1; have h2 := hr1_161.2; unfold nU; unfold nW; omega); rw [← h8]; first | (rw [hz] at c182; rw [if_neg (of_decide_eq_false c182)]) | (rw [hz] at c182; rw [if_pos (of_decide_eq_true c182)]), rfl⟩) rfl hK hP hD hS d_R_readNumber_194
    · skip
      refine lv_aload_n hx hb d_R_readNumber_175 rfl (lv_at hl 1 rfl) ?_
      refine lv_iconst (v := nI 5) hx hb d_R_readNumber_176 (by decide) ?_
      refine lv_iload_n hx hb d_R_readNumber_177 rfl (lv_at hl 2 rfl) ?_
      refine y_call (y_runV (As := [.int (nI 5), .int (nI p)]) (rest := []) hx hb hml hown (c_R_fail hlt G h dg n (n5 t n p) fk fp t np no k c f o bt bk bn 5 p ) (gV (n := 2) hg tk_370 tk_372 (gt_s 8 (by decide +kernel) (by decide +kernel)) tk_4 tk_373 (by decide +kernel) ⟨Nat.le_of_ble_eq_true rfl, Nat.le_of_ble_eq_true rfl⟩) (va_recv hK hP (ci := 1) (q0 := 0) rfl rfl) (y_pre hE hK hP hD hS hA [0, 1, 2, 3, 4, 5, 6, 7] rfl rfl) rfl rfl hl.1 rfl (lv_room (Nat.le_of_ble_eq_true rfl)) d_R_readNumber_178 ⟨Nat.le_of_ble_eq_true rfl, Nat.le_of_ble_eq_true rfl⟩) hP hD hS hA [0, 1, 2, 3, 4, 5, 6, 7] rfl (fun E w q ce H locs hp hlw hP hD hS hq1 hq2 hq3 => ?_) (fun _ _ _ _ hp => False.elim hp)
      · skip
        obtain ⟨rfl, rfl⟩ := hp
        have hP : va_P (gD G) vwC (wR G h dg n (n5 t n p) 5 p t np no k c f o bt bk bn) H := hP
        have hD : va_D A (wR G h dg n (n5 t n p) 5 p t np no k c f o bt bk bn) := hD
        exact y_out (ws := wR G h dg n (n5 t n p) 5 p t np no k c f o bt bk bn) hxt hlocks hq1 hq2 hq3 (⟨_, _, _, by unfold numR; rw [if_neg (by rw [hnu]; decide), if_neg hxb, if_neg hend, if_pos (by have := hr1_161.1; unfold nU; unfold nW; omega)], rfl, rfl⟩) rfl hK hP hD hS
  have J114 : ∀ (z : Bool) (hz : z = decide (hr t n p = 45)) (hnu : nuN (hr t n p) = true) (hxb : ¬ (nX t n p ∧ nXb t n p)) (H : Heap) (locs : List Loc) (ls : Array Slot), va_P (gD G) vwC (wR G h dg n (n5 t n p) fk fp t np no k c f o bt bk bn) H → va_D A (wR G h dg n (n5 t n p) fk fp t np no k c f o bt bk bn) → va_S A sx.heap H locs → lv_has ls 10 [(0, .ref (h 0)), (1, .int (nI p)), (2, .int (bz z)), (3, .int (nI (n1 t n p))), (4, .int (nI (n2 t n p - n1 t n p))), (5, .int (nI (nA t n p))), (6, .int (nI (n4 t n p)))] → W pg l ev (yR 8 136) sx mm ([.ref (h 0)] : List Value).toArray bl mt cd H locs 0 0 (yMQ bl G A (wR G h dg n p fk fp t np no k c f o bt bk bn).length (fun v w => ∃ q x, numR t n dg p = .inr (q, x) ∧ v = some (.int x) ∧ w = wR G h dg n q fk fp t np no k c f o bt bk bn) (fun E w => ∃ a b q, numR t n dg p = .inl (a, b) ∧ E = "java/lang/IllegalArgumentException" ∧ w = wR G h dg n q a b t np no k c f o bt bk bn) ([.ref (h 0)] : List Value).toArray sx) (F0 mm 114 ls [.int (nV t n p)]) := by
    intro z hz hnu hxb H locs ls hP hD hS hl
    refine lv_istore (lv' := [(7, .int (nV t n p)), (0, .ref (h 0)), (1, .int (nI p)), (2, .int (bz z)), (3, .int (nI (n1 t n p))), (4, .int (nI (n2 t n p - n1 t n p))), (5, .int (nI (nA t n p))), (6, .int (nI (n4 t n p)))]) hx hb d_R_readNumber_114 hl (by decide) rfl (fun ls hl => ?_)
    refine lv_iload hx hb d_R_readNumber_116 (lv_at hl 6 rfl) ?_
    refine yn_if_eq (a := nA t n p) (tgt := 141) hx hb d_R_readNumber_118 (by decide) (by omega) (fun c118 => ?_) (fun c118 => ?_)
    · skip
      refine lv_aload_n hx hb d_R_readNumber_141 rfl (lv_at hl 1 rfl) ?_
      refine lv_iconst (v := nI 4) hx hb d_R_readNumber_142 (by decide) ?_
      refine lv_iload_n hx hb d_R_readNumber_143 rfl (lv_at hl 2 rfl) ?_
      refine y_call (y_runV (As := [.int (nI 4), .int (nI p)]) (rest := []) hx hb hml hown (c_R_fail hlt G h dg n (n5 t n p) fk fp t np no k c f o bt bk bn 4 p ) (gV (n := 2) hg tk_370 tk_372 (gt_s 8 (by decide +kernel) (by decide +kernel)) tk_4 tk_373 (by decide +kernel) ⟨Nat.le_of_ble_eq_true rfl, Nat.le_of_ble_eq_true rfl⟩) (va_recv hK hP (ci := 1) (q0 := 0) rfl rfl) (y_pre hE hK hP hD hS hA [0, 1, 2, 3, 4, 5, 6, 7] rfl rfl) rfl rfl hl.1 rfl (lv_room (Nat.le_of_ble_eq_true rfl)) d_R_readNumber_144 ⟨Nat.le_of_ble_eq_true rfl, Nat.le_of_ble_eq_true rfl⟩) hP hD hS hA [0, 1, 2, 3, 4, 5, 6, 7] rfl (fun E w q ce H locs hp hlw hP hD hS hq1 hq2 hq3 => ?_) (fun _ _ _ _ hp => False.elim hp)
      · skip
        obtain ⟨rfl, rfl⟩ := hp
        have hP : va_P (gD G) vwC (wR G h dg n (n5 t n p) 4 p t np no k c f o bt bk bn) H := hP
        have hD : va_D A (wR G h dg n (n5 t n p) 4 p t np no k c f o bt bk bn) := hD
        exact y_out (ws := wR G h dg n (n5 t n p) 4 p t np no k c f o bt bk bn) hxt hlocks hq1 hq2 hq3 (⟨_, _, _, by unfold numR; rw [if_neg (by rw [hnu]; decide), if_neg hxb, if_pos (by first | exact Or.inl c118 | exact Or.inr (Or.inl ((ch_h _ (Nat.lt_succ_of_le (hr_le ht _ _))).2.1.symm.trans c128)) | exact Or.inr (Or.inr ((ch_h _ (Nat.lt_succ_of_le (hr_le ht _ _))).2.2.2.symm.trans c138)))], rfl, rfl⟩) rfl hK hP hD hS
    · skip
      refine lv_aload_n hx hb d_R_readNumber_121 rfl (lv_at hl 1 rfl) ?_
      refine y_call (y_runV (As := []) (rest := []) hx hb hml hown (c_R_here l G h dg n (n5 t n p) fk fp t np no k c f o bt bk bn  (by omega) (by omega) (ht)) (gV (n := 0) hg tk_356 tk_358 (gt_s 6 (by decide +kernel) (by decide +kernel)) tk_4 tk_359 (by decide +kernel) ⟨Nat.le_of_ble_eq_true rfl, Nat.le_of_ble_eq_true rfl⟩) (va_recv hK hP (ci := 1) (q0 := 0) rfl rfl) (y_pre hE hK hP hD hS hA [0, 1, 2, 3, 4, 5, 6, 7] rfl rfl) rfl rfl hl.1 rfl (lv_room (Nat.le_of_ble_eq_true rfl)) d_R_readNumber_122 ⟨Nat.le_of_ble_eq_true rfl, Nat.le_of_ble_eq_true rfl⟩) hP hD hS hA [0, 1, 2, 3, 4, 5, 6, 7] rfl (fun _ _ _ _ _ _ hp => False.elim hp) (fun v w H locs hp hlw hP hD hS => ?_)
      obtain ⟨rfl, rfl⟩ := hp
      have hP : va_P (gD G) vwC (wR G h dg n (n5 t n p) fk fp t np no k c f o bt bk bn) H := hP
      have hD : va_D A (wR G h dg n (n5 t n p) fk fp t np no k c f o bt bk bn) := hD
      refine W.eq (g2 := F0 mm 125 ls [.int (toI (hr t n (n5 t n p)))]) rfl ?_
      refine y_call (y_runS (As := [.int (toI (hr t n (n5 t n p)))]) (rest := []) hx hb hml hown (c_R_isLetter l G  (toI (hr t n (n5 t n p))) ) (gS (n := 1) hg tk_360 tk_361 tk_4 tk_362 (by decide +kernel) ⟨Nat.le_of_ble_eq_true rfl, Nat.le_of_ble_eq_true rfl⟩) (y_pre hE hK hP hD hS hA [] rfl rfl) rfl rfl hl.1 rfl (lv_room (Nat.le_of_ble_eq_true rfl)) d_R_readNumber_125 ⟨Nat.le_of_ble_eq_true rfl, Nat.le_of_ble_eq_true rfl⟩) hP hD hS hA [] rfl (fun _ _ _ _ _ _ hp => False.elim hp) (fun v w H locs hp hlw hP hD hS => ?_)
      obtain ⟨rfl, rfl⟩ := hp
      have hP : va_P (gD G) vwC (wR G h dg n (n5 t n p) fk fp t np no k c f o bt bk bn) H := hP
      have hD : va_D A (wR G h dg n (n5 t n p) fk fp t np no k c f o bt bk bn) := hD
      refine W.eq (g2 := F0 mm 128 ls [.int (bz (isLe (toI (hr t n (n5 t n p)))))]) rfl ?_
      refine yy_if_ne (P := isLe (toI (hr t n (n5 t n p)))) (tgt := 141) hx hb d_R_readNumber_128 (by decide) (fun c128 => ?_) (fun c128 => ?_)
      · skip
        refine lv_aload_n hx hb d_R_readNumber_141 rfl (lv_at hl 1 rfl) ?_
        refine lv_iconst (v := nI 4) hx hb d_R_readNumber_142 (by decide) ?_
        refine lv_iload_n hx hb d_R_readNumber_143 rfl (lv_at hl 2 rfl) ?_
        refine y_call (y_runV (As := [.int (nI 4), .int (nI p)]) (rest := []) hx hb hml hown (c_R_fail hlt G h dg n (n5 t n p) fk fp t np no k c f o bt bk bn 4 p ) (gV (n := 2) hg tk_370 tk_372 (gt_s 8 (by decide +kernel) (by decide +kernel)) tk_4 tk_373 (by decide +kernel) ⟨Nat.le_of_ble_eq_true rfl, Nat.le_of_ble_eq_true rfl⟩) (va_recv hK hP (ci := 1) (q0 := 0) rfl rfl) (y_pre hE hK hP hD hS hA [0, 1, 2, 3, 4, 5, 6, 7] rfl rfl) rfl rfl hl.1 rfl (lv_room (Nat.le_of_ble_eq_true rfl)) d_R_readNumber_144 ⟨Nat.le_of_ble_eq_true rfl, Nat.le_of_ble_eq_true rfl⟩) hP hD hS hA [0, 1, 2, 3, 4, 5, 6, 7] rfl (fun E w q ce H locs hp hlw hP hD hS hq1 hq2 hq3 => ?_) (fun _ _ _ _ hp => False.elim hp)
        · skip
          obtain ⟨rfl, rfl⟩ := hp
          have hP : va_P (gD G) vwC (wR G h dg n (n5 t n p) 4 p t np no k c f o bt bk bn) H := hP
          have hD : va_D A (wR G h dg n (n5 t n p) 4 p t np no k c f o bt bk bn) := hD
          exact y_out (ws := wR G h dg n (n5 t n p) 4 p t np no k c f o bt bk bn) hxt hlocks hq1 hq2 hq3 (⟨_, _, _, by unfold numR; rw [if_neg (by rw [hnu]; decide), if_neg hxb, if_pos (by first | exact Or.inl c118 | exact Or.inr (Or.inl ((ch_h _ (Nat.lt_succ_of_le (hr_le ht _ _))).2.1.symm.trans c128)) | exact Or.inr (Or.inr ((ch_h _ (Nat.lt_succ_of_le (hr_le ht _ _))).2.2.2.symm.trans c138)))], rfl, rfl⟩) rfl hK hP hD hS
      · skip
        refine lv_aload_n hx hb d_R_readNumber_131 rfl (lv_at hl 1 rfl) ?_
        refine y_call (y_runV (As := []) (rest := []) hx hb hml hown (c_R_here l G h dg n (n5 t n p) fk fp t np no k c f o bt bk bn  (by omega) (by omega) (ht)) (gV (n := 0) hg tk_356 tk_358 (gt_s 6 (by decide +kernel) (by decide +kernel)) tk_4 tk_359 (by decide +kernel) ⟨Nat.le_of_ble_eq_true rfl, Nat.le_of_ble_eq_true rfl⟩) (va_recv hK hP (ci := 1) (q0 := 0) rfl rfl) (y_pre hE hK hP hD hS hA [0, 1, 2, 3, 4, 5, 6, 7] rfl rfl) rfl rfl hl.1 rfl (lv_room (Nat.le_of_ble_eq_true rfl)) d_R_readNumber_132 ⟨Nat.le_of_ble_eq_true rfl, Nat.le_of_ble_eq_true rfl⟩) hP hD hS hA [0, 1, 2, 3, 4, 5, 6, 7] rfl (fun _ _ _ _ _ _ hp => False.elim hp) (fun v w H locs hp hlw hP hD hS => ?_)
        obtain ⟨rfl, rfl⟩ := hp
        have hP : va_P (gD G) vwC (wR G h dg n (n5 t n p) fk fp t np no k c f o bt bk bn) H := hP
        have hD : va_D A (wR G h dg n (n5 t n p) fk fp t np no k c f o bt bk bn) := hD
        refine W.eq (g2 := F0 mm 135 ls [.int (toI (hr t n (n5 t n p)))]) rfl ?_
        refine y_call (y_runS (As := [.int (toI (hr t n (n5 t n p)))]) (rest := []) hx hb hml hown (c_R_beginsNumber l G  (toI (hr t n (n5 t n p))) ) (gS (n := 1) hg tk_367 tk_368 tk_4 tk_369 (by decide +kernel) ⟨Nat.le_of_ble_eq_true rfl, Nat.le_of_ble_eq_true rfl⟩) (y_pre hE hK hP hD hS hA [] rfl rfl) rfl rfl hl.1 rfl (lv_room (Nat.le_of_ble_eq_true rfl)) d_R_readNumber_135 ⟨Nat.le_of_ble_eq_true rfl, Nat.le_of_ble_eq_true rfl⟩) hP hD hS hA [] rfl (fun _ _ _ _ _ _ hp => False.elim hp) (fun v w H locs hp hlw hP hD hS => ?_)
        obtain ⟨rfl, rfl⟩ := hp
        have hP : va_P (gD G) vwC (wR G h dg n (n5 t n p) fk fp t np no k c f o bt bk bn) H := hP
        have hD : va_D A (wR G h dg n (n5 t n p) fk fp t np no k c f o bt bk bn) := hD
        refine W.eq (g2 := F0 mm 138 ls [.int (bz (isNu (toI (hr t n (n5 t n p)))))]) rfl ?_
        refine yy_if_eq (P := isNu (toI (hr t n (n5 t n p)))) (tgt := 147) hx hb d_R_readNumber_138 (by decide) (fun c138 => ?_) (fun c138 => ?_)
        · skip
          exact J147 z (hz) (hnu) (hxb) (by rw [(ch_h _ (Nat.lt_succ_of_le (hr_le ht _ _))).2.1] at c128; rw [(ch_h _ (Nat.lt_succ_of_le (hr_le ht _ _))).2.2.2] at c138; intro y; rcases y with y | y | y <;> first | exact c118 y | (rw [c128] at y; exact absurd y (by decide)) | (rw [c138] at y; exact absurd y (by decide))) _ _ _ hP hD hS (lv_sub hl [1, 2, 3, 4, 5, 7, 0] (rfl))
        · skip
          refine lv_aload_n hx hb d_R_readNumber_141 rfl (lv_at hl 1 rfl) ?_
          refine lv_iconst (v := nI 4) hx hb d_R_readNumber_142 (by decide) ?_
          refine lv_iload_n hx hb d_R_readNumber_143 rfl (lv_at hl 2 rfl) ?_
          refine y_call (y_runV (As := [.int (nI 4), .int (nI p)]) (rest := []) hx hb hml hown (c_R_fail hlt G h dg n (n5 t n p) fk fp t np no k c f o bt bk bn 4 p ) (gV (n := 2) hg tk_370 tk_372 (gt_s 8 (by decide +kernel) (by decide +kernel)) tk_4 tk_373 (by decide +kernel) ⟨Nat.le_of_ble_eq_true rfl, Nat.le_of_ble_eq_true rfl⟩) (va_recv hK hP (ci := 1) (q0 := 0) rfl rfl) (y_pre hE hK hP hD hS hA [0, 1, 2, 3, 4, 5, 6, 7] rfl rfl) rfl rfl hl.1 rfl (lv_room (Nat.le_of_ble_eq_true rfl)) d_R_readNumber_144 ⟨Nat.le_of_ble_eq_true rfl, Nat.le_of_ble_eq_true rfl⟩) hP hD hS hA [0, 1, 2, 3, 4, 5, 6, 7] rfl (fun E w q ce H locs hp hlw hP hD hS hq1 hq2 hq3 => ?_) (fun _ _ _ _ hp => False.elim hp)
          · skip
            obtain ⟨rfl, rfl⟩ := hp
            have hP : va_P (gD G) vwC (wR G h dg n (n5 t n p) 4 p t np no k c f o bt bk bn) H := hP
            have hD : va_D A (wR G h dg n (n5 t n p) 4 p t np no k c f o bt bk bn) := hD
            exact y_out (ws := wR G h dg n (n5 t n p) 4 p t np no k c f o bt bk bn) hxt hlocks hq1 hq2 hq3 (⟨_, _, _, by unfold numR; rw [if_neg (by rw [hnu]; decide), if_neg hxb, if_pos (by first | exact Or.inl c118 | exact Or.inr (Or.inl ((ch_h _ (Nat.lt_succ_of_le (hr_le ht _ _))).2.1.symm.trans c128)) | exact Or.inr (Or.inr ((ch_h _ (Nat.lt_succ_of_le (hr_le ht _ _))).2.2.2.symm.trans c138)))], rfl, rfl⟩) rfl hK hP hD hS
  have J81 : ∀ (z : Bool) (hz : z = decide (hr t n p = 45)) (hnu : nuN (hr t n p) = true) (H : Heap) (locs : List Loc) (ls : Array Slot), va_P (gD G) vwC (wR G h dg n (n4 t n p) fk fp t np no k c f o bt bk bn) H → va_D A (wR G h dg n (n4 t n p) fk fp t np no k c f o bt bk bn) → va_S A sx.heap H locs → lv_has ls 10 [(0, .ref (h 0)), (1, .int (nI p)), (2, .int (bz z)), (3, .int (nI (n1 t n p))), (4, .int (nI (n2 t n p - n1 t n p))), (5, .int (nI (nA t n p)))] → W pg l ev (yR 8 136) sx mm ([.ref (h 0)] : List Value).toArray bl mt cd H locs 0 0 (yMQ bl G A (wR G h dg n p fk fp t np no k c f o bt bk bn).length (fun v w => ∃ q x, numR t n dg p = .inr (q, x) ∧ v = some (.int x) ∧ w = wR G h dg n q fk fp t np no k c f o bt bk bn) (fun E w => ∃ a b q, numR t n dg p = .inl (a, b) ∧ E = "java/lang/IllegalArgumentException" ∧ w = wR G h dg n q a b t np no k c f o bt bk bn) ([.ref (h 0)] : List Value).toArray sx) (F0 mm 81 ls []) := by
    intro z hz hnu H locs ls hP hD hS hl
    refine lv_aload_n hx hb d_R_readNumber_81 rfl (lv_at hl 0 rfl) ?_
    refine va_get (D := gD G) (ci := 1) (v := .int (nI (n4 t n p))) (C := "WordShapes$Reader") (T := TR) (N := 8) hx hb hg iw_R hown hK hP 0 rfl rfl 5 (by decide) (hg _ tk_92) (fun _ h9 => h9) rfl d_R_readNumber_82 ?_
    refine lv_istore (lv' := [(6, .int (nI (n4 t n p))), (0, .ref (h 0)), (1, .int (nI p)), (2, .int (bz z)), (3, .int (nI (n1 t n p))), (4, .int (nI (n2 t n p - n1 t n p))), (5, .int (nI (nA t n p)))]) hx hb d_R_readNumber_85 hl (by decide) rfl (fun ls hl => ?_)
    refine lv_aload_n hx hb d_R_readNumber_87 rfl (lv_at hl 1 rfl) ?_
    refine y_call (y_runV (As := []) (rest := []) hx hb hml hown (c_R_here l G h dg n (n4 t n p) fk fp t np no k c f o bt bk bn  (by omega) (by omega) (ht)) (gV (n := 0) hg tk_356 tk_358 (gt_s 6 (by decide +kernel) (by decide +kernel)) tk_4 tk_359 (by decide +kernel) ⟨Nat.le_of_ble_eq_true rfl, Nat.le_of_ble_eq_true rfl⟩) (va_recv hK hP (ci := 1) (q0 := 0) rfl rfl) (y_pre hE hK hP hD hS hA [0, 1, 2, 3, 4, 5, 6, 7] rfl rfl) rfl rfl hl.1 rfl (lv_room (Nat.le_of_ble_eq_true rfl)) d_R_readNumber_88 ⟨Nat.le_of_ble_eq_true rfl, Nat.le_of_ble_eq_true rfl⟩) hP hD hS hA [0, 1, 2, 3, 4, 5, 6, 7] rfl (fun _ _ _ _ _ _ hp => False.elim hp) (fun v w H locs hp hlw hP hD hS => ?_)
    obtain ⟨rfl, rfl⟩ := hp
    have hP : va_P (gD G) vwC (wR G h dg n (n4 t n p) fk fp t np no k c f o bt bk bn) H := hP
    have hD : va_D A (wR G h dg n (n4 t n p) fk fp t np no k c f o bt bk bn) := hD
    refine W.eq (g2 := F0 mm 91 ls [.int (toI (hr t n (n4 t n p)))]) rfl ?_
    refine lv_bipush (v := nI 101) hx hb d_R_readNumber_91 (by decide) ?_
    refine yh_icmp_eq (a := hr t n (n4 t n p)) (b := 101) (tgt := 105) hx hb d_R_readNumber_93 (by decide) (hr_le ht _ _) (by omega) (fun c93 => ?_) (fun c93 => ?_)
    · skip
      have hnx : nX t n p := by first | exact Or.inl c93 | exact Or.inr c102
      have h105 : n4 t n p < n := by rcases hnx with y | y <;> exact hr_lt y (by decide)
      refine lv_aload_n hx hb d_R_readNumber_105 rfl (lv_at hl 1 rfl) ?_
      refine lv_iload_n hx hb d_R_readNumber_106 rfl (lv_at hl 2 rfl) ?_
      refine y_call (y_runV (As := [.int (nI p)]) (rest := []) hx hb hml hown (c_R_readExponent hlt G h dg n (n4 t n p) fk fp t np no k c f o bt bk bn p (by omega) (by omega) (ht)) (gV (n := 1) hg tk_499 tk_501 (gt_s 20 (by decide +kernel) (by decide +kernel)) tk_4 tk_502 (by decide +kernel) ⟨Nat.le_of_ble_eq_true rfl, Nat.le_of_ble_eq_true rfl⟩) (va_recv hK hP (ci := 1) (q0 := 0) rfl rfl) (y_pre hE hK hP hD hS hA [0, 1, 2, 3, 4, 5, 6, 7] rfl rfl) rfl rfl hl.1 rfl (lv_room (Nat.le_of_ble_eq_true rfl)) d_R_readNumber_107 ⟨Nat.le_of_ble_eq_true rfl, Nat.le_of_ble_eq_true rfl⟩) hP hD hS hA [0, 1, 2, 3, 4, 5, 6, 7] rfl (fun E w q ce H locs hp hlw hP hD hS hq1 hq2 hq3 => ?_) (fun v w H locs hp hlw hP hD hS => ?_)
      · skip
        obtain ⟨hc_107, rfl, rfl⟩ := hp
        have hP : va_P (gD G) vwC (wR G h dg n (rn diN t n (ps t n ((n4 t n p) + 1))) 4 p t np no k c f o bt bk bn) H := hP
        have hD : va_D A (wR G h dg n (rn diN t n (ps t n ((n4 t n p) + 1))) 4 p t np no k c f o bt bk bn) := hD
        exact y_out (ws := wR G h dg n (rn diN t n (ps t n ((n4 t n p) + 1))) 4 p t np no k c f o bt bk bn) hxt hlocks hq1 hq2 hq3 (⟨_, _, _, by unfold numR; rw [if_neg (by rw [hnu]; decide), if_pos ⟨hnx, hc_107⟩], rfl, rfl⟩) rfl hK hP hD hS
      obtain ⟨hc_107, rfl, rfl⟩ := hp
      have hP : va_P (gD G) vwC (wR G h dg n (rn diN t n (ps t n ((n4 t n p) + 1))) fk fp t np no k c f o bt bk bn) H := hP
      have hD : va_D A (wR G h dg n (rn diN t n (ps t n ((n4 t n p) + 1))) fk fp t np no k c f o bt bk bn) := hD
      refine W.eq (g2 := F0 mm 110 ls [.int (xE t n (n4 t n p))]) rfl ?_
      have e5 : n5 t n p = rn diN t n (ps t n (n4 t n p + 1)) := if_pos hnx
      have eV : nV t n p = xE t n (n4 t n p) := if_pos hnx
      rw [← e5] at hP hD
      rw [← eV]
      refine lv_goto (tgt := 114) hx hb d_R_readNumber_110 (by decide) ?_
      exact J114 z (hz) (hnu) (by first | exact fun y => hc_107 y.2 | exact fun y => hnx y.1) _ _ _ hP hD hS (lv_sub hl [1, 2, 3, 4, 5, 6, 0] (rfl))
    · skip
      refine lv_aload_n hx hb d_R_readNumber_96 rfl (lv_at hl 1 rfl) ?_
      refine y_call (y_runV (As := []) (rest := []) hx hb hml hown (c_R_here l G h dg n (n4 t n p) fk fp t np no k c f o bt bk bn  (by omega) (by omega) (ht)) (gV (n := 0) hg tk_356 tk_358 (gt_s 6 (by decide +kernel) (by decide +kernel)) tk_4 tk_359 (by decide +kernel) ⟨Nat.le_of_ble_eq_true rfl, Nat.le_of_ble_eq_true rfl⟩) (va_recv hK hP (ci := 1) (q0 := 0) rfl rfl) (y_pre hE hK hP hD hS hA [0, 1, 2, 3, 4, 5, 6, 7] rfl rfl) rfl rfl hl.1 rfl (lv_room (Nat.le_of_ble_eq_true rfl)) d_R_readNumber_97 ⟨Nat.le_of_ble_eq_true rfl, Nat.le_of_ble_eq_true rfl⟩) hP hD hS hA [0, 1, 2, 3, 4, 5, 6, 7] rfl (fun _ _ _ _ _ _ hp => False.elim hp) (fun v w H locs hp hlw hP hD hS => ?_)
      obtain ⟨rfl, rfl⟩ := hp
      have hP : va_P (gD G) vwC (wR G h dg n (n4 t n p) fk fp t np no k c f o bt bk bn) H := hP
      have hD : va_D A (wR G h dg n (n4 t n p) fk fp t np no k c f o bt bk bn) := hD
      refine W.eq (g2 := F0 mm 100 ls [.int (toI (hr t n (n4 t n p)))]) rfl ?_
      refine lv_bipush (v := nI 69) hx hb d_R_readNumber_100 (by decide) ?_
      refine yh_icmp_ne (a := hr t n (n4 t n p)) (b := 69) (tgt := 113) hx hb d_R_readNumber_102 (by decide) (hr_le ht _ _) (by omega) (fun c102 => ?_) (fun c102 => ?_)
      · skip
        have hnx : ¬ nX t n p := fun y => y.elim c93 c102
        have e5 : n5 t n p = n4 t n p := if_neg hnx
        have eV : nV t n p = nI 0 := if_neg hnx
        rw [← e5] at hP hD
        refine lv_iconst (v := nI 0) hx hb d_R_readNumber_113 (by decide) ?_
        rw [← eV]
        exact J114 z (hz) (hnu) (by first | exact fun y => hc_107 y.2 | exact fun y => hnx y.1) _ _ _ hP hD hS (lv_sub hl [1, 2, 3, 4, 5, 6, 0] (rfl))
      · skip
        have hnx : nX t n p := by first | exact Or.inl c93 | exact Or.inr c102
        have h105 : n4 t n p < n := by rcases hnx with y | y <;> exact hr_lt y (by decide)
        refine lv_aload_n hx hb d_R_readNumber_105 rfl (lv_at hl 1 rfl) ?_
        refine lv_iload_n hx hb d_R_readNumber_106 rfl (lv_at hl 2 rfl) ?_
        refine y_call (y_runV (As := [.int (nI p)]) (rest := []) hx hb hml hown (c_R_readExponent hlt G h dg n (n4 t n p) fk fp t np no k c f o bt bk bn p (by omega) (by omega) (ht)) (gV (n := 1) hg tk_499 tk_501 (gt_s 20 (by decide +kernel) (by decide +kernel)) tk_4 tk_502 (by decide +kernel) ⟨Nat.le_of_ble_eq_true rfl, Nat.le_of_ble_eq_true rfl⟩) (va_recv hK hP (ci := 1) (q0 := 0) rfl rfl) (y_pre hE hK hP hD hS hA [0, 1, 2, 3, 4, 5, 6, 7] rfl rfl) rfl rfl hl.1 rfl (lv_room (Nat.le_of_ble_eq_true rfl)) d_R_readNumber_107 ⟨Nat.le_of_ble_eq_true rfl, Nat.le_of_ble_eq_true rfl⟩) hP hD hS hA [0, 1, 2, 3, 4, 5, 6, 7] rfl (fun E w q ce H locs hp hlw hP hD hS hq1 hq2 hq3 => ?_) (fun v w H locs hp hlw hP hD hS => ?_)
        · skip
          obtain ⟨hc_107, rfl, rfl⟩ := hp
          have hP : va_P (gD G) vwC (wR G h dg n (rn diN t n (ps t n ((n4 t n p) + 1))) 4 p t np no k c f o bt bk bn) H := hP
          have hD : va_D A (wR G h dg n (rn diN t n (ps t n ((n4 t n p) + 1))) 4 p t np no k c f o bt bk bn) := hD
          exact y_out (ws := wR G h dg n (rn diN t n (ps t n ((n4 t n p) + 1))) 4 p t np no k c f o bt bk bn) hxt hlocks hq1 hq2 hq3 (⟨_, _, _, by unfold numR; rw [if_neg (by rw [hnu]; decide), if_pos ⟨hnx, hc_107⟩], rfl, rfl⟩) rfl hK hP hD hS
        obtain ⟨hc_107, rfl, rfl⟩ := hp
        have hP : va_P (gD G) vwC (wR G h dg n (rn diN t n (ps t n ((n4 t n p) + 1))) fk fp t np no k c f o bt bk bn) H := hP
        have hD : va_D A (wR G h dg n (rn diN t n (ps t n ((n4 t n p) + 1))) fk fp t np no k c f o bt bk bn) := hD
        refine W.eq (g2 := F0 mm 110 ls [.int (xE t n (n4 t n p))]) rfl ?_
        have e5 : n5 t n p = rn diN t n (ps t n (n4 t n p + 1)) := if_pos hnx
        have eV : nV t n p = xE t n (n4 t n p) := if_pos hnx
        rw [← e5] at hP hD
        rw [← eV]
        refine lv_goto (tgt := 114) hx hb d_R_readNumber_110 (by decide) ?_
        exact J114 z (hz) (hnu) (by first | exact fun y => hc_107 y.2 | exact fun y => hnx y.1) _ _ _ hP hD hS (lv_sub hl [1, 2, 3, 4, 5, 6, 0] (rfl))
  have J33 : ∀ (z : Bool) (hz : z = decide (hr t n p = 45)) (hnu : nuN (hr t n p) = true) (H : Heap) (locs : List Loc) (ls : Array Slot), va_P (gD G) vwC (wR G h dg n p fk fp t np no k c f o bt bk bn) H → va_D A (wR G h dg n p fk fp t np no k c f o bt bk bn) → va_S A sx.heap H locs → lv_has ls 10 [(0, .ref (h 0)), (1, .int (nI p))] → W pg l ev (yR 8 136) sx mm ([.ref (h 0)] : List Value).toArray bl mt cd H locs 0 0 (yMQ bl G A (wR G h dg n p fk fp t np no k c f o bt bk bn).length (fun v w => ∃ q x, numR t n dg p = .inr (q, x) ∧ v = some (.int x) ∧ w = wR G h dg n q fk fp t np no k c f o bt bk bn) (fun E w => ∃ a b q, numR t n dg p = .inl (a, b) ∧ E = "java/lang/IllegalArgumentException" ∧ w = wR G h dg n q a b t np no k c f o bt bk bn) ([.ref (h 0)] : List Value).toArray sx) (F0 mm 33 ls [.int (bz z)]) := by
    intro z hz hnu H locs ls hP hD hS hl
    refine lv_istore_n (lv' := [(2, .int (bz z)), (0, .ref (h 0)), (1, .int (nI p))]) hx hb d_R_readNumber_33 rfl hl (by decide) rfl (fun ls hl => ?_)
    refine lv_aload_n hx hb d_R_readNumber_34 rfl (lv_at hl 1 rfl) ?_
    refine y_call (y_runV (As := []) (rest := []) hx hb hml hown (c_R_passSign l G h dg n p fk fp t np no k c f o bt bk bn  (by omega) (by omega) (ht)) (gV (n := 0) hg tk_488 tk_490 (gt_s 18 (by decide +kernel) (by decide +kernel)) tk_4 tk_491 (by decide +kernel) ⟨Nat.le_of_ble_eq_true rfl, Nat.le_of_ble_eq_true rfl⟩) (va_recv hK hP (ci := 1) (q0 := 0) rfl rfl) (y_pre hE hK hP hD hS hA [0, 1, 2, 3, 4, 5, 6, 7] rfl rfl) rfl rfl hl.1 rfl (lv_room (Nat.le_of_ble_eq_true rfl)) d_R_readNumber_35 ⟨Nat.le_of_ble_eq_true rfl, Nat.le_of_ble_eq_true rfl⟩) hP hD hS hA [0, 1, 2, 3, 4, 5, 6, 7] rfl (fun _ _ _ _ _ _ hp => False.elim hp) (fun v w H locs hp hlw hP hD hS => ?_)
    obtain ⟨rfl, rfl⟩ := hp
    have hP : va_P (gD G) vwC (wR G h dg n (ps t n p) fk fp t np no k c f o bt bk bn) H := hP
    have hD : va_D A (wR G h dg n (ps t n p) fk fp t np no k c f o bt bk bn) := hD
    refine W.eq (g2 := F0 mm 38 ls []) rfl ?_
    have hP : va_P (gD G) vwC (wR G h dg n (n1 t n p) fk fp t np no k c f o bt bk bn) H := hP
    have hD : va_D A (wR G h dg n (n1 t n p) fk fp t np no k c f o bt bk bn) := hD
    refine lv_aload_n hx hb d_R_readNumber_38 rfl (lv_at hl 1 rfl) ?_
    refine va_get (D := gD G) (ci := 1) (v := .int (nI (n1 t n p))) (C := "WordShapes$Reader") (T := TR) (N := 8) hx hb hg iw_R hown hK hP 0 rfl rfl 5 (by decide) (hg _ tk_92) (fun _ h9 => h9) rfl d_R_readNumber_39 ?_
    refine lv_istore_n (lv' := [(3, .int (nI (n1 t n p))), (2, .int (bz z)), (0, .ref (h 0)), (1, .int (nI p))]) hx hb d_R_readNumber_42 rfl hl (by decide) rfl (fun ls hl => ?_)
    refine lv_aload_n hx hb d_R_readNumber_43 rfl (lv_at hl 2 rfl) ?_
    refine y_call (y_runV (As := []) (rest := []) hx hb hml hown (c_R_passDigits l G h dg n (n1 t n p) fk fp t np no k c f o bt bk bn  (by omega) (by omega) (ht)) (gV (n := 0) hg tk_492 tk_494 (gt_s 19 (by decide +kernel) (by decide +kernel)) tk_4 tk_495 (by decide +kernel) ⟨Nat.le_of_ble_eq_true rfl, Nat.le_of_ble_eq_true rfl⟩) (va_recv hK hP (ci := 1) (q0 := 0) rfl rfl) (y_pre hE hK hP hD hS hA [0, 1, 2, 3, 4, 5, 6, 7] rfl rfl) rfl rfl hl.1 rfl (lv_room (Nat.le_of_ble_eq_true rfl)) d_R_readNumber_44 ⟨Nat.le_of_ble_eq_true rfl, Nat.le_of_ble_eq_true rfl⟩) hP hD hS hA [0, 1, 2, 3, 4, 5, 6, 7] rfl (fun _ _ _ _ _ _ hp => False.elim hp) (fun v w H locs hp hlw hP hD hS => ?_)
    obtain ⟨rfl, rfl⟩ := hp
    have hP : va_P (gD G) vwC (wR G h dg n (rn diN t n (n1 t n p)) fk fp t np no k c f o bt bk bn) H := hP
    have hD : va_D A (wR G h dg n (rn diN t n (n1 t n p)) fk fp t np no k c f o bt bk bn) := hD
    refine W.eq (g2 := F0 mm 47 ls [.int (nI (rn diN t n (n1 t n p) - (n1 t n p)))]) rfl ?_
    have hP : va_P (gD G) vwC (wR G h dg n (n2 t n p) fk fp t np no k c f o bt bk bn) H := hP
    have hD : va_D A (wR G h dg n (n2 t n p) fk fp t np no k c f o bt bk bn) := hD
    refine lv_istore (lv' := [(4, .int (nI (n2 t n p - n1 t n p))), (3, .int (nI (n1 t n p))), (2, .int (bz z)), (0, .ref (h 0)), (1, .int (nI p))]) hx hb d_R_readNumber_47 hl (by decide) rfl (fun ls hl => ?_)
    refine lv_iload hx hb d_R_readNumber_49 (lv_at hl 0 rfl) ?_
    refine lv_istore (lv' := [(5, .int (nI (n2 t n p - n1 t n p))), (4, .int (nI (n2 t n p - n1 t n p))), (3, .int (nI (n1 t n p))), (2, .int (bz z)), (0, .ref (h 0)), (1, .int (nI p))]) hx hb d_R_readNumber_51 hl (by decide) rfl (fun ls hl => ?_)
    refine lv_aload_n hx hb d_R_readNumber_53 rfl (lv_at hl 4 rfl) ?_
    refine y_call (y_runV (As := []) (rest := []) hx hb hml hown (c_R_here l G h dg n (n2 t n p) fk fp t np no k c f o bt bk bn  (by omega) (by omega) (ht)) (gV (n := 0) hg tk_356 tk_358 (gt_s 6 (by decide +kernel) (by decide +kernel)) tk_4 tk_359 (by decide +kernel) ⟨Nat.le_of_ble_eq_true rfl, Nat.le_of_ble_eq_true rfl⟩) (va_recv hK hP (ci := 1) (q0 := 0) rfl rfl) (y_pre hE hK hP hD hS hA [0, 1, 2, 3, 4, 5, 6, 7] rfl rfl) rfl rfl hl.1 rfl (lv_room (Nat.le_of_ble_eq_true rfl)) d_R_readNumber_54 ⟨Nat.le_of_ble_eq_true rfl, Nat.le_of_ble_eq_true rfl⟩) hP hD hS hA [0, 1, 2, 3, 4, 5, 6, 7] rfl (fun _ _ _ _ _ _ hp => False.elim hp) (fun v w H locs hp hlw hP hD hS => ?_)
    obtain ⟨rfl, rfl⟩ := hp
    have hP : va_P (gD G) vwC (wR G h dg n (n2 t n p) fk fp t np no k c f o bt bk bn) H := hP
    have hD : va_D A (wR G h dg n (n2 t n p) fk fp t np no k c f o bt bk bn) := hD
    refine W.eq (g2 := F0 mm 57 ls [.int (toI (hr t n (n2 t n p)))]) rfl ?_
    refine lv_bipush (v := nI 46) hx hb d_R_readNumber_57 (by decide) ?_
    refine yh_icmp_ne (a := hr t n (n2 t n p)) (b := 46) (tgt := 81) hx hb d_R_readNumber_59 (by decide) (hr_le ht _ _) (by omega) (fun c59 => ?_) (fun c59 => ?_)
    · skip
      have e4 : n4 t n p = n2 t n p := if_neg c59
      have eA : nA t n p = n2 t n p - n1 t n p := if_neg c59
      rw [← e4] at hP hD
      exact J81 z (hz) (hnu) _ _ _ hP hD hS (lv_sub hl [4, 5, 3, 2, 1, 0] (by rw [eA]; rfl))
    · skip
      have h59 := hr_lt c59 (by decide)
      refine lv_aload_n hx hb d_R_readNumber_62 rfl (lv_at hl 4 rfl) ?_
      refine lv_dup hx hb d_R_readNumber_63 rfl ?_
      refine va_get (D := gD G) (ci := 1) (v := .int (nI (n2 t n p))) (C := "WordShapes$Reader") (T := TR) (N := 8) hx hb hg iw_R hown hK hP 0 rfl rfl 5 (by decide) (hg _ tk_92) (fun _ h9 => h9) rfl d_R_readNumber_64 ?_
      refine lv_iconst (v := nI 1) hx hb d_R_readNumber_67 (by decide) ?_
      refine lv_iadd hx hb d_R_readNumber_68 ?_
      refine y_eqi (nI_add _ _) ?_
      refine va_put (D := gD G) (ci := 1) (v := .int (nI (n2 t n p + 1))) (ty := .int) (C := "WordShapes$Reader") (T := TR) (N := 8) hx hb hg iw_R ft_R fo_R nm_R hown hK hP hD hS 0 rfl rfl 5 (by decide) (hg _ tk_92) (fun _ h9 => h9) rfl (by decide +kernel) (rfl) (rfl) (Nat.le_of_ble_eq_true rfl) d_R_readNumber_69 (fun H locs hP hD hS => ?_)
      have hP : va_P (gD G) vwC (wR G h dg n (n2 t n p + 1) fk fp t np no k c f o bt bk bn) H := hP
      have hD : va_D A (wR G h dg n (n2 t n p + 1) fk fp t np no k c f o bt bk bn) := hD
      refine lv_iload hx hb d_R_readNumber_72 (lv_at hl 0 rfl) ?_
      refine lv_aload_n hx hb d_R_readNumber_74 rfl (lv_at hl 4 rfl) ?_
      refine y_call (y_runV (As := []) (rest := [.int (nI (n2 t n p - n1 t n p))]) hx hb hml hown (c_R_passDigits l G h dg n (n2 t n p + 1) fk fp t np no k c f o bt bk bn  (by omega) (by omega) (ht)) (gV (n := 0) hg tk_492 tk_494 (gt_s 19 (by decide +kernel) (by decide +kernel)) tk_4 tk_495 (by decide +kernel) ⟨Nat.le_of_ble_eq_true rfl, Nat.le_of_ble_eq_true rfl⟩) (va_recv hK hP (ci := 1) (q0 := 0) rfl rfl) (y_pre hE hK hP hD hS hA [0, 1, 2, 3, 4, 5, 6, 7] rfl rfl) rfl rfl hl.1 rfl (lv_room (Nat.le_of_ble_eq_true rfl)) d_R_readNumber_75 ⟨Nat.le_of_ble_eq_true rfl, Nat.le_of_ble_eq_true rfl⟩) hP hD hS hA [0, 1, 2, 3, 4, 5, 6, 7] rfl (fun _ _ _ _ _ _ hp => False.elim hp) (fun v w H locs hp hlw hP hD hS => ?_)
      obtain ⟨rfl, rfl⟩ := hp
      have hP : va_P (gD G) vwC (wR G h dg n (rn diN t n (n2 t n p + 1)) fk fp t np no k c f o bt bk bn) H := hP
      have hD : va_D A (wR G h dg n (rn diN t n (n2 t n p + 1)) fk fp t np no k c f o bt bk bn) := hD
      refine W.eq (g2 := F0 mm 78 ls [.int (nI (rn diN t n (n2 t n p + 1) - (n2 t n p + 1))), .int (nI (n2 t n p - n1 t n p))]) rfl ?_
      have e4 : n4 t n p = rn diN t n (n2 t n p + 1) := if_pos c59
      have eA : nA t n p = (n2 t n p - n1 t n p) + (rn diN t n (n2 t n p + 1) - (n2 t n p + 1)) := if_pos c59
      rw [← e4] at hP hD
      refine lv_iadd hx hb d_R_readNumber_78 ?_
      refine y_eqi (nI_add _ _) ?_
      refine lv_istore (lv' := [(5, .int (nI ((n2 t n p - n1 t n p) + (rn diN t n (n2 t n p + 1) - (n2 t n p + 1))))), (4, .int (nI (n2 t n p - n1 t n p))), (3, .int (nI (n1 t n p))), (2, .int (bz z)), (0, .ref (h 0)), (1, .int (nI p))]) hx hb d_R_readNumber_79 hl (by decide) rfl (fun ls hl => ?_)
      exact J81 z (hz) (hnu) _ _ _ hP hD hS (lv_sub hl [4, 5, 3, 2, 1, 0] (by rw [eA]; rfl))
  refine lv_aload_n hx hb d_R_readNumber_0 rfl (lv_at hl 0 rfl) ?_
  refine va_get (D := gD G) (ci := 1) (v := .int (nI p)) (C := "WordShapes$Reader") (T := TR) (N := 8) hx hb hg iw_R hown hK hP 0 rfl rfl 5 (by decide) (hg _ tk_92) (fun _ h9 => h9) rfl d_R_readNumber_1 ?_
  refine lv_istore_n (lv' := [(1, .int (nI p)), (0, .ref (h 0))]) hx hb d_R_readNumber_4 rfl hl (by decide) rfl (fun ls hl => ?_)
  refine lv_aload_n hx hb d_R_readNumber_5 rfl (lv_at hl 1 rfl) ?_
  refine y_call (y_runV (As := []) (rest := []) hx hb hml hown (c_R_here l G h dg n p fk fp t np no k c f o bt bk bn  (by omega) (by omega) (ht)) (gV (n := 0) hg tk_356 tk_358 (gt_s 6 (by decide +kernel) (by decide +kernel)) tk_4 tk_359 (by decide +kernel) ⟨Nat.le_of_ble_eq_true rfl, Nat.le_of_ble_eq_true rfl⟩) (va_recv hK hP (ci := 1) (q0 := 0) rfl rfl) (y_pre hE hK hP hD hS hA [0, 1, 2, 3, 4, 5, 6, 7] rfl rfl) rfl rfl hl.1 rfl (lv_room (Nat.le_of_ble_eq_true rfl)) d_R_readNumber_6 ⟨Nat.le_of_ble_eq_true rfl, Nat.le_of_ble_eq_true rfl⟩) hP hD hS hA [0, 1, 2, 3, 4, 5, 6, 7] rfl (fun _ _ _ _ _ _ hp => False.elim hp) (fun v w H locs hp hlw hP hD hS => ?_)
  obtain ⟨rfl, rfl⟩ := hp
  have hP : va_P (gD G) vwC (wR G h dg n p fk fp t np no k c f o bt bk bn) H := hP
  have hD : va_D A (wR G h dg n p fk fp t np no k c f o bt bk bn) := hD
  refine W.eq (g2 := F0 mm 9 ls [.int (toI (hr t n p))]) rfl ?_
  refine y_call (y_runS (As := [.int (toI (hr t n p))]) (rest := []) hx hb hml hown (c_R_beginsNumber l G  (toI (hr t n p)) ) (gS (n := 1) hg tk_367 tk_368 tk_4 tk_369 (by decide +kernel) ⟨Nat.le_of_ble_eq_true rfl, Nat.le_of_ble_eq_true rfl⟩) (y_pre hE hK hP hD hS hA [] rfl rfl) rfl rfl hl.1 rfl (lv_room (Nat.le_of_ble_eq_true rfl)) d_R_readNumber_9 ⟨Nat.le_of_ble_eq_true rfl, Nat.le_of_ble_eq_true rfl⟩) hP hD hS hA [] rfl (fun _ _ _ _ _ _ hp => False.elim hp) (fun v w H locs hp hlw hP hD hS => ?_)
  obtain ⟨rfl, rfl⟩ := hp
  have hP : va_P (gD G) vwC (wR G h dg n p fk fp t np no k c f o bt bk bn) H := hP
  have hD : va_D A (wR G h dg n p fk fp t np no k c f o bt bk bn) := hD
  refine W.eq (g2 := F0 mm 12 ls [.int (bz (isNu (toI (hr t n p))))]) rfl ?_
  refine yy_if_ne (P := isNu (toI (hr t n p))) (tgt := 19) hx hb d_R_readNumber_12 (by decide) (fun c12 => ?_) (fun c12 => ?_)
  · skip
    rw [(ch_h _ (Nat.lt_succ_of_le (hr_le ht _ _))).2.2.2] at c12
    refine lv_aload_n hx hb d_R_readNumber_19 rfl (lv_at hl 1 rfl) ?_
    refine y_call (y_runV (As := []) (rest := []) hx hb hml hown (c_R_here l G h dg n p fk fp t np no k c f o bt bk bn  (by omega) (by omega) (ht)) (gV (n := 0) hg tk_356 tk_358 (gt_s 6 (by decide +kernel) (by decide +kernel)) tk_4 tk_359 (by decide +kernel) ⟨Nat.le_of_ble_eq_true rfl, Nat.le_of_ble_eq_true rfl⟩) (va_recv hK hP (ci := 1) (q0 := 0) rfl rfl) (y_pre hE hK hP hD hS hA [0, 1, 2, 3, 4, 5, 6, 7] rfl rfl) rfl rfl hl.1 rfl (lv_room (Nat.le_of_ble_eq_true rfl)) d_R_readNumber_20 ⟨Nat.le_of_ble_eq_true rfl, Nat.le_of_ble_eq_true rfl⟩) hP hD hS hA [0, 1, 2, 3, 4, 5, 6, 7] rfl (fun _ _ _ _ _ _ hp => False.elim hp) (fun v w H locs hp hlw hP hD hS => ?_)
    obtain ⟨rfl, rfl⟩ := hp
    have hP : va_P (gD G) vwC (wR G h dg n p fk fp t np no k c f o bt bk bn) H := hP
    have hD : va_D A (wR G h dg n p fk fp t np no k c f o bt bk bn) := hD
    refine W.eq (g2 := F0 mm 23 ls [.int (toI (hr t n p))]) rfl ?_
    refine lv_bipush (v := nI 45) hx hb d_R_readNumber_23 (by decide) ?_
    refine yh_icmp_ne (a := hr t n p) (b := 45) (tgt := 32) hx hb d_R_readNumber_25 (by decide) (hr_le ht _ _) (by omega) (fun c25 => ?_) (fun c25 => ?_)
    · skip
      refine lv_iconst (v := nI 0) hx hb d_R_readNumber_32 (by decide) ?_
      exact J33 false ((decide_eq_false c25).symm) (c12) _ _ _ hP hD hS (lv_sub hl [1, 0] (rfl))
    · skip
      refine lv_iconst (v := nI 1) hx hb d_R_readNumber_28 (by decide) ?_
      refine lv_goto (tgt := 33) hx hb d_R_readNumber_29 (by decide) ?_
      exact J33 true ((decide_eq_true c25).symm) (c12) _ _ _ hP hD hS (lv_sub hl [1, 0] (rfl))
  · skip
    rw [(ch_h _ (Nat.lt_succ_of_le (hr_le ht _ _))).2.2.2] at c12
    refine lv_aload_n hx hb d_R_readNumber_15 rfl (lv_at hl 1 rfl) ?_
    refine y_call (y_runV (As := []) (rest := []) hx hb hml hown (c_R_failHere hlt G h dg n p fk fp t np no k c f o bt bk bn  (by omega) (by omega) (ht)) (gV (n := 0) hg tk_363 tk_365 (gt_s 7 (by decide +kernel) (by decide +kernel)) tk_4 tk_366 (by decide +kernel) ⟨Nat.le_of_ble_eq_true rfl, Nat.le_of_ble_eq_true rfl⟩) (va_recv hK hP (ci := 1) (q0 := 0) rfl rfl) (y_pre hE hK hP hD hS hA [0, 1, 2, 3, 4, 5, 6, 7] rfl rfl) rfl rfl hl.1 rfl (lv_room (Nat.le_of_ble_eq_true rfl)) d_R_readNumber_16 ⟨Nat.le_of_ble_eq_true rfl, Nat.le_of_ble_eq_true rfl⟩) hP hD hS hA [0, 1, 2, 3, 4, 5, 6, 7] rfl (fun E w q ce H locs hp hlw hP hD hS hq1 hq2 hq3 => ?_) (fun _ _ _ _ hp => False.elim hp)
    · skip
      obtain ⟨rfl, rfl⟩ := hp
      have hP : va_P (gD G) vwC (wR G h dg n p (uxp (hr t n p)) p t np no k c f o bt bk bn) H := hP
      have hD : va_D A (wR G h dg n p (uxp (hr t n p)) p t np no k c f o bt bk bn) := hD
      exact y_out (ws := wR G h dg n p (uxp (hr t n p)) p t np no k c f o bt bk bn) hxt hlocks hq1 hq2 hq3 (⟨_, _, _, by unfold numR; rw [if_pos c12], rfl, rfl⟩) rfl hK hP hD hS
