set_option maxHeartbeats 4000000 in
set_option maxRecDepth 100000 in
theorem c_R_tenfold (l : Launch) (G : gl)  (u : Nat) (hu : u < 2 ^ 59) : YC l G y_R_tenfold k_R_tenfold 2 (Option.some FieldType.long) 0 0 [.long (lN u)] ([]) (fun v w => v = some (.long (lN (tfU 1000000000 u))) ∧ w = []) (fun _ _ => False) := by
  refine yc_of (by decide) ?_
  intro pg ev sx mm bl mt cd A C0 hP hD
  obtain ⟨hx, hb, hrt, hml, hown, hg, hlocks, hxt, hE, hK, hA, hmn⟩ := C0
  have hS : va_S A sx.heap sx.heap [] := va_S.rf
  have hl := lv_entry ([.long (lN u)]) (n := 2) (Nat.le_of_ble_eq_true rfl)
  rw [lg_entry_eq]
  generalize (lg_sl ([.long (lN u)]) ++ List.replicate (2 - (lg_sl ([.long (lN u)])).length) Slot.unset).toArray = ls at hl ⊢
  have hl : lv_has ls 2 [(0, .long (lN u))] := hl
  obtain ⟨H, hH⟩ : ∃ H, H = sx.heap := ⟨_, rfl⟩
  rw [← hH] at hP
  have hS : va_S A sx.heap H [] := by rw [hH]; exact hS
  suffices h9 : W pg l ev (yR 0 0) sx mm _ bl mt cd H [] 0 0 (yMQ bl G A _ _ _ _ sx) (F0 mm 0 ls []) by rw [hH] at h9; exact h9
  obtain ⟨locs, hlo⟩ : ∃ locs : List Loc, locs = [] := ⟨_, rfl⟩
  rw [← hlo] at hS ⊢
  refine lv_lload_n hx hb d_R_tenfold_0 rfl (lv_at hl 0 rfl) ?_
  refine lv_ldc2 (v := lN 1000000000) hx hb hown (hg _ tk_511) d_R_tenfold_1 ?_
  refine yl_le (a := u) (b := 1000000000) (tgt := 12) hx hb d_R_tenfold_4 d_R_tenfold_5 (by decide) (by omega) (by omega) (fun c5 => ?_) (fun c5 => ?_)
  · skip
    refine lv_ldc2 (v := lN 10) hx hb hown (hg _ tk_512) d_R_tenfold_12 ?_
    refine lv_lload_n hx hb d_R_tenfold_15 rfl (lv_at hl 0 rfl) ?_
    refine lv_lmul hx hb d_R_tenfold_16 ?_
    refine y_eql (lN_mul _ _) ?_
    exact yr_l (ws := []) hx hb hrt hlocks (⟨by unfold tfU; first | rw [if_pos c5] | rw [if_neg (by omega)], rfl⟩) rfl hK hP hD hS d_R_tenfold_17
  · skip
    refine lv_lload_n hx hb d_R_tenfold_8 rfl (lv_at hl 0 rfl) ?_
    refine lv_goto (tgt := 17) hx hb d_R_tenfold_9 (by decide) ?_
    exact yr_l (ws := []) hx hb hrt hlocks (⟨by unfold tfU; first | rw [if_pos c5] | rw [if_neg (by omega)], rfl⟩) rfl hK hP hD hS d_R_tenfold_17
set_option maxHeartbeats 4000000 in
set_option maxRecDepth 100000 in
theorem c_R_roundedUnits (l : Launch) (G : gl) (h : Nat → Nat) (dg : Nat) (n : Nat) (p : Nat) (fk : Nat) (fp : Nat) (t : Nat → Nat) (np : Nat) (no : Nat) (k : Nat) (c : Nat) (f : Nat → Int32) (o : Nat → Int32) (bt : Nat) (bk : Nat → Int32) (bn : Nat → Int32) (a : Nat) (b : Nat) (wh : Int32) (hn : n ≤ 65536) (hp : p ≤ n) (ht : ∀ i, t i < 256) (hab : a ≤ b) (hb9 : b ≤ n) : YC l G y_R_roundedUnits k_R_roundedUnits 11 (Option.some FieldType.long) 1 21 [.ref (h 0), .int (nI a), .int (nI b), .int wh] (wR G h dg n p fk fp t np no k c f o bt bk bn) (fun v w => ∃ r, v = some (.long (lN r)) ∧ cpr 1000000000 (exR t a b wh.toInt) r ∧ r < 2 ^ 40 ∧ w = wR G h dg n p fk fp t np no k c f o bt bk bn) (fun _ _ => False) := by
  refine yc_of (by decide) ?_
  intro pg ev sx mm bl mt cd A C0 hP hD
  obtain ⟨hx, hb, hrt, hml, hown, hg, hlocks, hxt, hE, hK, hA, hmn⟩ := C0
  have hS : va_S A sx.heap sx.heap [] := va_S.rf
  have hl := lv_entry ([.ref (h 0), .int (nI a), .int (nI b), .int wh]) (n := 11) (Nat.le_of_ble_eq_true rfl)
  rw [lg_entry_eq]
  generalize (lg_sl ([.ref (h 0), .int (nI a), .int (nI b), .int wh]) ++ List.replicate (11 - (lg_sl ([.ref (h 0), .int (nI a), .int (nI b), .int wh])).length) Slot.unset).toArray = ls at hl ⊢
  have hl : lv_has ls 11 [(0, .ref (h 0)), (1, .int (nI a)), (2, .int (nI b)), (3, .int wh)] := hl
  obtain ⟨H, hH⟩ : ∃ H, H = sx.heap := ⟨_, rfl⟩
  rw [← hH] at hP
  have hS : va_S A sx.heap H [] := by rw [hH]; exact hS
  suffices h9 : W pg l ev (yR 1 21) sx mm _ bl mt cd H [] 0 0 (yMQ bl G A _ _ _ _ sx) (F0 mm 0 ls []) by rw [hH] at h9; exact h9
  obtain ⟨locs, hlo⟩ : ∃ locs : List Loc, locs = [] := ⟨_, rfl⟩
  rw [← hlo] at hS ⊢
  have J135 : ∀ (u : Nat) (sn : Nat) (te : Nat) (mo : Bool) (ue : Nat) (hte : te ≤ 9) (hu : u ≤ 11000000000) (hc : cpr 1000000000 (ue * 10 ^ (wh.toInt - sn).toNat) u) (hf : exF t wh.toInt (b - a) a 0 0 0 false = (ue, sn, te, mo)) (H : Heap) (locs : List Loc) (ls : Array Slot), va_P (gD G) vwC (wR G h dg n p fk fp t np no k c f o bt bk bn) H → va_D A (wR G h dg n p fk fp t np no k c f o bt bk bn) → va_S A sx.heap H locs → lv_has ls 11 [(4, .long (lN u)), (7, .int (nI te)), (8, .int (bz mo))] → W pg l ev (yR 1 21) sx mm ([.ref (h 0), .int (nI a), .int (nI b), .int wh] : List Value).toArray bl mt cd H locs 0 0 (yMQ bl G A (wR G h dg n p fk fp t np no k c f o bt bk bn).length (fun v w => ∃ r, v = some (.long (lN r)) ∧ cpr 1000000000 (exR t a b wh.toInt) r ∧ r < 2 ^ 40 ∧ w = wR G h dg n p fk fp t np no k c f o bt bk bn) (fun _ _ => False) ([.ref (h 0), .int (nI a), .int (nI b), .int wh] : List Value).toArray sx) (F0 mm 135 ls []) := by
    intro u sn te mo ue hte hu hc hf H locs ls hP hD hS hl
    refine lv_lload hx hb d_R_roundedUnits_135 (lv_at hl 0 rfl) ?_
    refine lv_lconst (v := lN 1) hx hb d_R_roundedUnits_137 (by decide) ?_
    refine lv_land hx hb d_R_roundedUnits_138 ?_
    refine y_eql (y := lN (u % 2)) (lN_a1 (by omega)) ?_
    refine lv_lconst (v := lN 1) hx hb d_R_roundedUnits_139 (by decide) ?_
    refine yl_ne (a := u % 2) (b := 1) (tgt := 148) hx hb d_R_roundedUnits_140 d_R_roundedUnits_141 (by decide) (by omega) (by omega) (fun c141 => ?_) (fun c141 => ?_)
    · skip
      refine lv_iconst (v := nI 0) hx hb d_R_roundedUnits_148 (by decide) ?_
      refine lv_istore (lv' := [(9, .int (nI 0)), (4, .long (lN u)), (7, .int (nI te)), (8, .int (bz mo))]) hx hb d_R_roundedUnits_149 hl (by decide) rfl (fun ls hl => ?_)
      refine lv_iload hx hb d_R_roundedUnits_151 (lv_at hl 2 rfl) ?_
      refine lv_iconst (v := nI 5) hx hb d_R_roundedUnits_153 (by decide) ?_
      refine yn_icmp_gt (a := te) (b := 5) (tgt := 173) hx hb d_R_roundedUnits_154 (by decide) (by omega) (by omega) (fun c154 => ?_) (fun c154 => ?_)
      · skip
        refine lv_lload hx hb d_R_roundedUnits_173 (lv_at hl 1 rfl) ?_
        refine lv_lconst (v := lN 1) hx hb d_R_roundedUnits_175 (by decide) ?_
        refine lv_ladd hx hb d_R_roundedUnits_176 ?_
        refine y_eql (lN_add _ _) ?_
        refine lv_goto (tgt := 182) hx hb d_R_roundedUnits_177 (by decide) ?_
        exact yr_l (ws := wR G h dg n p fk fp t np no k c f o bt bk bn) hx hb hrt hlocks (⟨_, rfl, by unfold exR; rw [hf]; have h8 := cpr_rnd te mo hc; first | exact absurd rfl c170 | (rw [show rndU u te mo = u + 1 from if_pos (by first | exact Or.inl c154 | exact Or.inr ⟨by omega, Or.inl c165⟩ | exact Or.inr ⟨by omega, Or.inr c141⟩)] at h8; exact h8) | (rw [show rndU u te mo = u from if_neg (fun z => by rcases z with z | ⟨z1, z2 | z2⟩ <;> first | omega | (rw [c165] at z2; exact absurd z2 (by decide)))] at h8; exact h8), by omega, rfl⟩) rfl hK hP hD hS d_R_roundedUnits_182
      · skip
        refine lv_iload hx hb d_R_roundedUnits_157 (lv_at hl 2 rfl) ?_
        refine lv_iconst (v := nI 5) hx hb d_R_roundedUnits_159 (by decide) ?_
        refine yn_icmp_ne (a := te) (b := 5) (tgt := 180) hx hb d_R_roundedUnits_160 (by decide) (by omega) (by omega) (fun c160 => ?_) (fun c160 => ?_)
        · skip
          refine lv_lload hx hb d_R_roundedUnits_180 (lv_at hl 1 rfl) ?_
          exact yr_l (ws := wR G h dg n p fk fp t np no k c f o bt bk bn) hx hb hrt hlocks (⟨_, rfl, by unfold exR; rw [hf]; have h8 := cpr_rnd te mo hc; first | exact absurd rfl c170 | (rw [show rndU u te mo = u + 1 from if_pos (by first | exact Or.inl c154 | exact Or.inr ⟨by omega, Or.inl c165⟩ | exact Or.inr ⟨by omega, Or.inr c141⟩)] at h8; exact h8) | (rw [show rndU u te mo = u from if_neg (fun z => by rcases z with z | ⟨z1, z2 | z2⟩ <;> first | omega | (rw [c165] at z2; exact absurd z2 (by decide)))] at h8; exact h8), by omega, rfl⟩) rfl hK hP hD hS d_R_roundedUnits_182
        · skip
          refine lv_iload hx hb d_R_roundedUnits_163 (lv_at hl 3 rfl) ?_
          refine yy_if_ne (P := mo) (tgt := 173) hx hb d_R_roundedUnits_165 (by decide) (fun c165 => ?_) (fun c165 => ?_)
          · skip
            refine lv_lload hx hb d_R_roundedUnits_173 (lv_at hl 1 rfl) ?_
            refine lv_lconst (v := lN 1) hx hb d_R_roundedUnits_175 (by decide) ?_
            refine lv_ladd hx hb d_R_roundedUnits_176 ?_
            refine y_eql (lN_add _ _) ?_
            refine lv_goto (tgt := 182) hx hb d_R_roundedUnits_177 (by decide) ?_
            exact yr_l (ws := wR G h dg n p fk fp t np no k c f o bt bk bn) hx hb hrt hlocks (⟨_, rfl, by unfold exR; rw [hf]; have h8 := cpr_rnd te mo hc; first | exact absurd rfl c170 | (rw [show rndU u te mo = u + 1 from if_pos (by first | exact Or.inl c154 | exact Or.inr ⟨by omega, Or.inl c165⟩ | exact Or.inr ⟨by omega, Or.inr c141⟩)] at h8; exact h8) | (rw [show rndU u te mo = u from if_neg (fun z => by rcases z with z | ⟨z1, z2 | z2⟩ <;> first | omega | (rw [c165] at z2; exact absurd z2 (by decide)))] at h8; exact h8), by omega, rfl⟩) rfl hK hP hD hS d_R_roundedUnits_182
          · skip
            refine lv_iload hx hb d_R_roundedUnits_168 (lv_at hl 0 rfl) ?_
            refine yn_if_eq (a := 0) (tgt := 180) hx hb d_R_roundedUnits_170 (by decide) (by omega) (fun c170 => ?_) (fun c170 => ?_)
            · skip
              refine lv_lload hx hb d_R_roundedUnits_180 (lv_at hl 1 rfl) ?_
              exact yr_l (ws := wR G h dg n p fk fp t np no k c f o bt bk bn) hx hb hrt hlocks (⟨_, rfl, by unfold exR; rw [hf]; have h8 := cpr_rnd te mo hc; first | exact absurd rfl c170 | (rw [show rndU u te mo = u + 1 from if_pos (by first | exact Or.inl c154 | exact Or.inr ⟨by omega, Or.inl c165⟩ | exact Or.inr ⟨by omega, Or.inr c141⟩)] at h8; exact h8) | (rw [show rndU u te mo = u from if_neg (fun z => by rcases z with z | ⟨z1, z2 | z2⟩ <;> first | omega | (rw [c165] at z2; exact absurd z2 (by decide)))] at h8; exact h8), by omega, rfl⟩) rfl hK hP hD hS d_R_roundedUnits_182
            · skip
              refine lv_lload hx hb d_R_roundedUnits_173 (lv_at hl 1 rfl) ?_
              refine lv_lconst (v := lN 1) hx hb d_R_roundedUnits_175 (by decide) ?_
              refine lv_ladd hx hb d_R_roundedUnits_176 ?_
              refine y_eql (lN_add _ _) ?_
              refine lv_goto (tgt := 182) hx hb d_R_roundedUnits_177 (by decide) ?_
              exact yr_l (ws := wR G h dg n p fk fp t np no k c f o bt bk bn) hx hb hrt hlocks (⟨_, rfl, by unfold exR; rw [hf]; have h8 := cpr_rnd te mo hc; first | exact absurd rfl c170 | (rw [show rndU u te mo = u + 1 from if_pos (by first | exact Or.inl c154 | exact Or.inr ⟨by omega, Or.inl c165⟩ | exact Or.inr ⟨by omega, Or.inr c141⟩)] at h8; exact h8) | (rw [show rndU u te mo = u from if_neg (fun z => by rcases z with z | ⟨z1, z2 | z2⟩ <;> first | omega | (rw [c165] at z2; exact absurd z2 (by decide)))] at h8; exact h8), by omega, rfl⟩) rfl hK hP hD hS d_R_roundedUnits_182
    · skip
      refine lv_iconst (v := nI 1) hx hb d_R_roundedUnits_144 (by decide) ?_
      refine lv_goto (tgt := 149) hx hb d_R_roundedUnits_145 (by decide) ?_
      refine lv_istore (lv' := [(9, .int (nI 1)), (4, .long (lN u)), (7, .int (nI te)), (8, .int (bz mo))]) hx hb d_R_roundedUnits_149 hl (by decide) rfl (fun ls hl => ?_)
      refine lv_iload hx hb d_R_roundedUnits_151 (lv_at hl 2 rfl) ?_
      refine lv_iconst (v := nI 5) hx hb d_R_roundedUnits_153 (by decide) ?_
      refine yn_icmp_gt (a := te) (b := 5) (tgt := 173) hx hb d_R_roundedUnits_154 (by decide) (by omega) (by omega) (fun c154 => ?_) (fun c154 => ?_)
      · skip
        refine lv_lload hx hb d_R_roundedUnits_173 (lv_at hl 1 rfl) ?_
        refine lv_lconst (v := lN 1) hx hb d_R_roundedUnits_175 (by decide) ?_
        refine lv_ladd hx hb d_R_roundedUnits_176 ?_
        refine y_eql (lN_add _ _) ?_
        refine lv_goto (tgt := 182) hx hb d_R_roundedUnits_177 (by decide) ?_
        exact yr_l (ws := wR G h dg n p fk fp t np no k c f o bt bk bn) hx hb hrt hlocks (⟨_, rfl, by unfold exR; rw [hf]; have h8 := cpr_rnd te mo hc; first | exact absurd rfl c170 | (rw [show rndU u te mo = u + 1 from if_pos (by first | exact Or.inl c154 | exact Or.inr ⟨by omega, Or.inl c165⟩ | exact Or.inr ⟨by omega, Or.inr c141⟩)] at h8; exact h8) | (rw [show rndU u te mo = u from if_neg (fun z => by rcases z with z | ⟨z1, z2 | z2⟩ <;> first | omega | (rw [c165] at z2; exact absurd z2 (by decide)))] at h8; exact h8), by omega, rfl⟩) rfl hK hP hD hS d_R_roundedUnits_182
      · skip
        refine lv_iload hx hb d_R_roundedUnits_157 (lv_at hl 2 rfl) ?_
        refine lv_iconst (v := nI 5) hx hb d_R_roundedUnits_159 (by decide) ?_
        refine yn_icmp_ne (a := te) (b := 5) (tgt := 180) hx hb d_R_roundedUnits_160 (by decide) (by omega) (by omega) (fun c160 => ?_) (fun c160 => ?_)
        · skip
          refine lv_lload hx hb d_R_roundedUnits_180 (lv_at hl 1 rfl) ?_
          exact yr_l (ws := wR G h dg n p fk fp t np no k c f o bt bk bn) hx hb hrt hlocks (⟨_, rfl, by unfold exR; rw [hf]; have h8 := cpr_rnd te mo hc; first | exact absurd rfl c170 | (rw [show rndU u te mo = u + 1 from if_pos (by first | exact Or.inl c154 | exact Or.inr ⟨by omega, Or.inl c165⟩ | exact Or.inr ⟨by omega, Or.inr c141⟩)] at h8; exact h8) | (rw [show rndU u te mo = u from if_neg (fun z => by rcases z with z | ⟨z1, z2 | z2⟩ <;> first | omega | (rw [c165] at z2; exact absurd z2 (by decide)))] at h8; exact h8), by omega, rfl⟩) rfl hK hP hD hS d_R_roundedUnits_182
        · skip
          refine lv_iload hx hb d_R_roundedUnits_163 (lv_at hl 3 rfl) ?_
          refine yy_if_ne (P := mo) (tgt := 173) hx hb d_R_roundedUnits_165 (by decide) (fun c165 => ?_) (fun c165 => ?_)
          · skip
            refine lv_lload hx hb d_R_roundedUnits_173 (lv_at hl 1 rfl) ?_
            refine lv_lconst (v := lN 1) hx hb d_R_roundedUnits_175 (by decide) ?_
            refine lv_ladd hx hb d_R_roundedUnits_176 ?_
            refine y_eql (lN_add _ _) ?_
            refine lv_goto (tgt := 182) hx hb d_R_roundedUnits_177 (by decide) ?_
            exact yr_l (ws := wR G h dg n p fk fp t np no k c f o bt bk bn) hx hb hrt hlocks (⟨_, rfl, by unfold exR; rw [hf]; have h8 := cpr_rnd te mo hc; first | exact absurd rfl c170 | (rw [show rndU u te mo = u + 1 from if_pos (by first | exact Or.inl c154 | exact Or.inr ⟨by omega, Or.inl c165⟩ | exact Or.inr ⟨by omega, Or.inr c141⟩)] at h8; exact h8) | (rw [show rndU u te mo = u from if_neg (fun z => by rcases z with z | ⟨z1, z2 | z2⟩ <;> first | omega | (rw [c165] at z2; exact absurd z2 (by decide)))] at h8; exact h8), by omega, rfl⟩) rfl hK hP hD hS d_R_roundedUnits_182
          · skip
            refine lv_iload hx hb d_R_roundedUnits_168 (lv_at hl 0 rfl) ?_
            refine yn_if_eq (a := 1) (tgt := 180) hx hb d_R_roundedUnits_170 (by decide) (by omega) (fun c170 => ?_) (fun c170 => ?_)
            · skip
              refine lv_lload hx hb d_R_roundedUnits_180 (lv_at hl 1 rfl) ?_
              exact yr_l (ws := wR G h dg n p fk fp t np no k c f o bt bk bn) hx hb hrt hlocks (⟨_, rfl, by unfold exR; rw [hf]; have h8 := cpr_rnd te mo hc; first | exact absurd rfl c170 | (rw [show rndU u te mo = u + 1 from if_pos (by first | exact Or.inl c154 | exact Or.inr ⟨by omega, Or.inl c165⟩ | exact Or.inr ⟨by omega, Or.inr c141⟩)] at h8; exact h8) | (rw [show rndU u te mo = u from if_neg (fun z => by rcases z with z | ⟨z1, z2 | z2⟩ <;> first | omega | (rw [c165] at z2; exact absurd z2 (by decide)))] at h8; exact h8), by omega, rfl⟩) rfl hK hP hD hS d_R_roundedUnits_182
            · skip
              refine lv_lload hx hb d_R_roundedUnits_173 (lv_at hl 1 rfl) ?_
              refine lv_lconst (v := lN 1) hx hb d_R_roundedUnits_175 (by decide) ?_
              refine lv_ladd hx hb d_R_roundedUnits_176 ?_
              refine y_eql (lN_add _ _) ?_
              refine lv_goto (tgt := 182) hx hb d_R_roundedUnits_177 (by decide) ?_
              exact yr_l (ws := wR G h dg n p fk fp t np no k c f o bt bk bn) hx hb hrt hlocks (⟨_, rfl, by unfold exR; rw [hf]; have h8 := cpr_rnd te mo hc; first | exact absurd rfl c170 | (rw [show rndU u te mo = u + 1 from if_pos (by first | exact Or.inl c154 | exact Or.inr ⟨by omega, Or.inl c165⟩ | exact Or.inr ⟨by omega, Or.inr c141⟩)] at h8; exact h8) | (rw [show rndU u te mo = u from if_neg (fun z => by rcases z with z | ⟨z1, z2 | z2⟩ <;> first | omega | (rw [c165] at z2; exact absurd z2 (by decide)))] at h8; exact h8), by omega, rfl⟩) rfl hK hP hD hS d_R_roundedUnits_182
  have J106 : ∀ (n9 : Nat) (j : Nat) (u : Nat) (sn : Nat) (te : Nat) (mo : Bool) (ue : Nat) (hm9 : 10 - j < n9) (hj : j ≤ 10) (hsn : sn ≤ 65536) (hte : te ≤ 9) (hu : u ≤ 11000000000) (hc : cpr 1000000000 (ue * 10 ^ j) u) (hjw : j ≤ (wh.toInt - sn).toNat) (hf : exF t wh.toInt (b - a) a 0 0 0 false = (ue, sn, te, mo)) (H : Heap) (locs : List Loc) (ls : Array Slot), va_P (gD G) vwC (wR G h dg n p fk fp t np no k c f o bt bk bn) H → va_D A (wR G h dg n p fk fp t np no k c f o bt bk bn) → va_S A sx.heap H locs → lv_has ls 11 [(0, .ref (h 0)), (1, .int (nI a)), (2, .int (nI b)), (3, .int wh), (4, .long (lN u)), (6, .int (nI sn)), (7, .int (nI te)), (8, .int (bz mo)), (9, .int (nI j))] → W pg l ev (yR 1 21) sx mm ([.ref (h 0), .int (nI a), .int (nI b), .int wh] : List Value).toArray bl mt cd H locs 0 0 (yMQ bl G A (wR G h dg n p fk fp t np no k c f o bt bk bn).length (fun v w => ∃ r, v = some (.long (lN r)) ∧ cpr 1000000000 (exR t a b wh.toInt) r ∧ r < 2 ^ 40 ∧ w = wR G h dg n p fk fp t np no k c f o bt bk bn) (fun _ _ => False) ([.ref (h 0), .int (nI a), .int (nI b), .int wh] : List Value).toArray sx) (F0 mm 106 ls []) := by
    intro n9
    induction n9 with
    | zero => intro j u sn te mo ue hm9; exact absurd hm9 (Nat.not_lt_zero _)
    | succ n9 ih9 =>
      intro j u sn te mo ue hm9 hj hsn hte hu hc hjw hf H locs ls hP hD hS hl
      refine lv_iload hx hb d_R_roundedUnits_106 (lv_at hl 8 rfl) ?_
      refine lv_bipush (v := nI 10) hx hb d_R_roundedUnits_108 (by decide) ?_
      refine yn_icmp_ge (a := j) (b := 10) (tgt := 135) hx hb d_R_roundedUnits_110 (by decide) (by omega) (by omega) (fun c110 => ?_) (fun c110 => ?_)
      · skip
        exact J135 u sn te mo ue (by omega) (by omega) (by first | exact cpr_pow (by rw [show j = 10 by omega] at hc; exact hc) (by omega) | (rw [show (wh.toInt - sn).toNat = j by omega]; exact hc)) (hf) _ _ _ hP hD hS (lv_sub hl [4, 6, 7] (rfl))
      · skip
        refine lv_iload hx hb d_R_roundedUnits_113 (lv_at hl 5 rfl) ?_
        refine lv_iload hx hb d_R_roundedUnits_115 (lv_at hl 8 rfl) ?_
        refine lv_iadd hx hb d_R_roundedUnits_117 ?_
        refine y_eqi (nI_add _ _) ?_
        refine lv_iload_n hx hb d_R_roundedUnits_118 rfl (lv_at hl 3 rfl) ?_
        refine lv_icmp_ge (tgt := 135) hx hb d_R_roundedUnits_119 (by decide) (fun c119 => ?_) (fun c119 => ?_)
        · skip
          rw [le_toI (by omega)] at c119
          exact J135 u sn te mo ue (by omega) (by omega) (by first | exact cpr_pow (by rw [show j = 10 by omega] at hc; exact hc) (by omega) | (rw [show (wh.toInt - sn).toNat = j by omega]; exact hc)) (hf) _ _ _ hP hD hS (lv_sub hl [4, 6, 7] (rfl))
        · skip
          rw [le_toI (by omega)] at c119
          refine lv_lload hx hb d_R_roundedUnits_122 (lv_at hl 4 rfl) ?_
          refine y_call (y_runS (As := [.long (lN u)]) (rest := []) hx hb hml hown (c_R_tenfold l G  u (by omega)) (gS (n := 1) hg tk_508 tk_509 tk_4 tk_510 (by decide +kernel) ⟨Nat.le_of_ble_eq_true rfl, Nat.le_of_ble_eq_true rfl⟩) (y_pre hE hK hP hD hS hA [] rfl rfl) rfl rfl hl.1 rfl (lv_room (Nat.le_of_ble_eq_true rfl)) d_R_roundedUnits_124 ⟨Nat.le_of_ble_eq_true rfl, Nat.le_of_ble_eq_true rfl⟩) hP hD hS hA [] rfl (fun _ _ _ _ _ _ hp => False.elim hp) (fun v w H locs hp hlw hP hD hS => ?_)
          obtain ⟨rfl, rfl⟩ := hp
          have hP : va_P (gD G) vwC (wR G h dg n p fk fp t np no k c f o bt bk bn) H := hP
          have hD : va_D A (wR G h dg n p fk fp t np no k c f o bt bk bn) := hD
          refine W.eq (g2 := F0 mm 127 ls [.long (lN (tfU 1000000000 u))]) rfl ?_
          refine lv_lstore (lv' := [(4, .long (lN (tfU 1000000000 u))), (0, .ref (h 0)), (1, .int (nI a)), (2, .int (nI b)), (3, .int wh), (6, .int (nI sn)), (7, .int (nI te)), (8, .int (bz mo)), (9, .int (nI j))]) hx hb d_R_roundedUnits_127 hl (by decide) rfl (fun ls hl => ?_)
          refine lv_iinc (v := nI (j + 1)) (lv' := [(9, .int (nI (j + 1))), (4, .long (lN (tfU 1000000000 u))), (0, .ref (h 0)), (1, .int (nI a)), (2, .int (nI b)), (3, .int wh), (6, .int (nI sn)), (7, .int (nI te)), (8, .int (bz mo))]) hx hb d_R_roundedUnits_129 hl (k := 8) rfl (y_inc _) (by decide) rfl (fun ls hl => ?_)
          refine lv_goto (tgt := 106) hx hb d_R_roundedUnits_132 (by decide) ?_
          exact ih9 (j + 1) (tfU 1000000000 u) sn te mo ue (by omega) (by omega) (by omega) (by omega) (by unfold tfU; split <;> omega) (by have := cpr_ten hc; rwa [show 10 * (ue * 10 ^ j) = ue * 10 ^ (j + 1) by rw [Nat.pow_succ, Nat.mul_comm 10, Nat.mul_assoc]] at this) (by omega) (hf) _ _ _ hP hD hS (lv_sub hl [2, 3, 4, 5, 1, 6, 7, 8, 0] (rfl))
  have J15 : ∀ (n9 : Nat) (i : Nat) (u : Nat) (sn : Nat) (te : Nat) (mo : Bool) (ue : Nat) (hm9 : b - i < n9) (hi1 : a ≤ i) (hi2 : i ≤ b) (hsn : sn ≤ i - a) (hte : te ≤ 9) (hu : u ≤ 10000000000 + 9 * (i - a)) (hc : cpr 1000000000 ue u) (hf : exF t wh.toInt (b - a) a 0 0 0 false = exF t wh.toInt (b - i) i ue sn te mo) (H : Heap) (locs : List Loc) (ls : Array Slot), va_P (gD G) vwC (wR G h dg n p fk fp t np no k c f o bt bk bn) H → va_D A (wR G h dg n p fk fp t np no k c f o bt bk bn) → va_S A sx.heap H locs → lv_has ls 11 [(0, .ref (h 0)), (1, .int (nI a)), (2, .int (nI b)), (3, .int wh), (4, .long (lN u)), (6, .int (nI sn)), (7, .int (nI te)), (8, .int (bz mo)), (9, .int (nI i))] → W pg l ev (yR 1 21) sx mm ([.ref (h 0), .int (nI a), .int (nI b), .int wh] : List Value).toArray bl mt cd H locs 0 0 (yMQ bl G A (wR G h dg n p fk fp t np no k c f o bt bk bn).length (fun v w => ∃ r, v = some (.long (lN r)) ∧ cpr 1000000000 (exR t a b wh.toInt) r ∧ r < 2 ^ 40 ∧ w = wR G h dg n p fk fp t np no k c f o bt bk bn) (fun _ _ => False) ([.ref (h 0), .int (nI a), .int (nI b), .int wh] : List Value).toArray sx) (F0 mm 15 ls []) := by
    intro n9
    induction n9 with
    | zero => intro i u sn te mo ue hm9; exact absurd hm9 (Nat.not_lt_zero _)
    | succ n9 ih9 =>
      intro i u sn te mo ue hm9 hi1 hi2 hsn hte hu hc hf H locs ls hP hD hS hl
      refine lv_iload hx hb d_R_roundedUnits_15 (lv_at hl 8 rfl) ?_
      refine lv_iload_n hx hb d_R_roundedUnits_17 rfl (lv_at hl 2 rfl) ?_
      refine yn_icmp_ge (a := i) (b := b) (tgt := 103) hx hb d_R_roundedUnits_18 (by decide) (by omega) (by omega) (fun c18 => ?_) (fun c18 => ?_)
      · skip
        refine lv_iconst (v := nI 0) hx hb d_R_roundedUnits_103 (by decide) ?_
        refine lv_istore (lv' := [(9, .int (nI 0)), (0, .ref (h 0)), (1, .int (nI a)), (2, .int (nI b)), (3, .int wh), (4, .long (lN u)), (6, .int (nI sn)), (7, .int (nI te)), (8, .int (bz mo))]) hx hb d_R_roundedUnits_104 hl (by decide) rfl (fun ls hl => ?_)
        exact J106 _ 0 u sn te mo ue (Nat.lt_succ_self _) (by omega) (by omega) (by omega) (by omega) (by rw [Nat.pow_zero, Nat.mul_one]; exact hc) (Nat.zero_le _) (hf.trans (exF_done c18)) _ _ _ hP hD hS (lv_sub hl [1, 2, 3, 4, 5, 6, 7, 8, 0] (rfl))
      · skip
        refine lv_aload_n hx hb d_R_roundedUnits_21 rfl (lv_at hl 0 rfl) ?_
        refine va_get (D := gD G) (ci := 1) (v := .ref (h 1)) (C := "WordShapes$Reader") (T := TR) (N := 8) hx hb hg iw_R hown hK hP 0 rfl rfl 0 (by decide) (hg _ tk_86) (fun _ h9 => h9) rfl d_R_roundedUnits_22 ?_
        refine lv_iload hx hb d_R_roundedUnits_25 (lv_at hl 8 rfl) ?_
        refine yn_bald hx hb hK hP 1 1 rfl rfl (j := i) (x := sb_b (t i)) (rfl) (by omega) (by omega) d_R_roundedUnits_27 ?_
        refine y_call (y_runS (As := [.int (sb_b (t i))]) (rest := []) hx hb hml hown (c_R_isDigit l G  (sb_b (t i)) ) (gS (n := 1) hg tk_496 tk_497 tk_4 tk_498 (by decide +kernel) ⟨Nat.le_of_ble_eq_true rfl, Nat.le_of_ble_eq_true rfl⟩) (y_pre hE hK hP hD hS hA [] rfl rfl) rfl rfl hl.1 rfl (lv_room (Nat.le_of_ble_eq_true rfl)) d_R_roundedUnits_28 ⟨Nat.le_of_ble_eq_true rfl, Nat.le_of_ble_eq_true rfl⟩) hP hD hS hA [] rfl (fun _ _ _ _ _ _ hp => False.elim hp) (fun v w H locs hp hlw hP hD hS => ?_)
        obtain ⟨rfl, rfl⟩ := hp
        have hP : va_P (gD G) vwC (wR G h dg n p fk fp t np no k c f o bt bk bn) H := hP
        have hD : va_D A (wR G h dg n p fk fp t np no k c f o bt bk bn) := hD
        refine W.eq (g2 := F0 mm 31 ls [.int (bz (isDi (sb_b (t i))))]) rfl ?_
        refine yy_if_eq (P := isDi (sb_b (t i))) (tgt := 97) hx hb d_R_roundedUnits_31 (by decide) (fun c31 => ?_) (fun c31 => ?_)
        · skip
          rw [(ch_b _ (ht i)).2.2.1] at c31
          refine lv_iinc (v := nI (i + 1)) (lv' := [(9, .int (nI (i + 1))), (0, .ref (h 0)), (1, .int (nI a)), (2, .int (nI b)), (3, .int wh), (4, .long (lN u)), (6, .int (nI sn)), (7, .int (nI te)), (8, .int (bz mo))]) hx hb d_R_roundedUnits_97 hl (k := 8) rfl (y_inc _) (by decide) rfl (fun ls hl => ?_)
          refine lv_goto (tgt := 15) hx hb d_R_roundedUnits_100 (by decide) ?_
          exact ih9 (i + 1) u sn te mo ue (by omega) (by omega) (by omega) (by omega) (by omega) (by omega) (hc) (hf.trans (exF_skip (a := a) c18 c31)) _ _ _ hP hD hS (lv_sub hl [1, 2, 3, 4, 5, 6, 7, 8, 0] (rfl))
        · skip
          rw [(ch_b _ (ht i)).2.2.1] at c31
          have h48 := di_lo c31
          refine lv_aload_n hx hb d_R_roundedUnits_34 rfl (lv_at hl 0 rfl) ?_
          refine va_get (D := gD G) (ci := 1) (v := .ref (h 1)) (C := "WordShapes$Reader") (T := TR) (N := 8) hx hb hg iw_R hown hK hP 0 rfl rfl 0 (by decide) (hg _ tk_86) (fun _ h9 => h9) rfl d_R_roundedUnits_35 ?_
          refine lv_iload hx hb d_R_roundedUnits_38 (lv_at hl 8 rfl) ?_
          refine yn_bald hx hb hK hP 1 1 rfl rfl (j := i) (x := sb_b (t i)) (rfl) (by omega) (by omega) d_R_roundedUnits_40 ?_
          refine lv_bipush (v := nI 48) hx hb d_R_roundedUnits_41 (by decide) ?_
          refine lv_isub hx hb d_R_roundedUnits_43 ?_
          refine y_eqi (y := nI (t i - 48)) ((sb_dig _ (ht i) c31).1) ?_
          refine lv_istore (lv' := [(10, .int (nI (t i - 48))), (0, .ref (h 0)), (1, .int (nI a)), (2, .int (nI b)), (3, .int wh), (4, .long (lN u)), (6, .int (nI sn)), (7, .int (nI te)), (8, .int (bz mo)), (9, .int (nI i))]) hx hb d_R_roundedUnits_44 hl (by decide) rfl (fun ls hl => ?_)
          refine lv_iload hx hb d_R_roundedUnits_46 (lv_at hl 6 rfl) ?_
          refine lv_iload_n hx hb d_R_roundedUnits_48 rfl (lv_at hl 4 rfl) ?_
          refine lv_icmp_ge (tgt := 66) hx hb d_R_roundedUnits_49 (by decide) (fun c49 => ?_) (fun c49 => ?_)
          · skip
            rw [le_toI (by omega)] at c49
            refine lv_iload hx hb d_R_roundedUnits_66 (lv_at hl 6 rfl) ?_
            refine lv_iload_n hx hb d_R_roundedUnits_68 rfl (lv_at hl 4 rfl) ?_
            refine lv_icmp_ne (tgt := 79) hx hb d_R_roundedUnits_69 (by decide) (fun c69 => ?_) (fun c69 => ?_)
            · skip
              rw [eq_toI (by omega)] at c69
              refine lv_iload hx hb d_R_roundedUnits_79 (lv_at hl 8 rfl) ?_
              refine lv_iload hx hb d_R_roundedUnits_81 (lv_at hl 0 rfl) ?_
              refine yn_if_eq (a := t i - 48) (tgt := 90) hx hb d_R_roundedUnits_83 (by decide) (by omega) (fun c83 => ?_) (fun c83 => ?_)
              · skip
                refine lv_iconst (v := nI 0) hx hb d_R_roundedUnits_90 (by decide) ?_
                refine lv_ior hx hb d_R_roundedUnits_91 ?_
                refine y_eqi (y := bz (mo || decide (t i ≠ 48))) (by rw [show decide (t i ≠ 48) = false from decide_eq_false (by have := di_lo c31; omega)]; exact bz_or mo false) ?_
                refine lv_istore (lv' := [(8, .int (bz (mo || decide (t i ≠ 48)))), (10, .int (nI (t i - 48))), (0, .ref (h 0)), (1, .int (nI a)), (2, .int (nI b)), (3, .int wh), (4, .long (lN u)), (6, .int (nI sn)), (7, .int (nI te)), (9, .int (nI i))]) hx hb d_R_roundedUnits_92 hl (by decide) rfl (fun ls hl => ?_)
                refine lv_iinc (v := nI (sn + 1)) (lv' := [(6, .int (nI (sn + 1))), (8, .int (bz (mo || decide (t i ≠ 48)))), (10, .int (nI (t i - 48))), (0, .ref (h 0)), (1, .int (nI a)), (2, .int (nI b)), (3, .int wh), (4, .long (lN u)), (7, .int (nI te)), (9, .int (nI i))]) hx hb d_R_roundedUnits_94 hl (k := 7) rfl (y_inc _) (by decide) rfl (fun ls hl => ?_)
                refine lv_iinc (v := nI (i + 1)) (lv' := [(9, .int (nI (i + 1))), (6, .int (nI (sn + 1))), (8, .int (bz (mo || decide (t i ≠ 48)))), (10, .int (nI (t i - 48))), (0, .ref (h 0)), (1, .int (nI a)), (2, .int (nI b)), (3, .int wh), (4, .long (lN u)), (7, .int (nI te))]) hx hb d_R_roundedUnits_97 hl (k := 9) rfl (y_inc _) (by decide) rfl (fun ls hl => ?_)
                refine lv_goto (tgt := 15) hx hb d_R_roundedUnits_100 (by decide) ?_
                exact ih9 (i + 1) u (sn + 1) te (mo || decide (t i ≠ 48)) ue (by omega) (by omega) (by omega) (by omega) (by have := di_lo c31; omega) (by omega) (hc) (hf.trans (exF_gt c18 c31 (by omega))) _ _ _ hP hD hS (lv_sub hl [4, 5, 6, 7, 8, 1, 9, 2, 0] (rfl))
              · skip
                refine lv_iconst (v := nI 1) hx hb d_R_roundedUnits_86 (by decide) ?_
                refine lv_goto (tgt := 91) hx hb d_R_roundedUnits_87 (by decide) ?_
                refine lv_ior hx hb d_R_roundedUnits_91 ?_
                refine y_eqi (y := bz (mo || decide (t i ≠ 48))) (by rw [show decide (t i ≠ 48) = true from decide_eq_true (by omega)]; exact bz_or mo true) ?_
                refine lv_istore (lv' := [(8, .int (bz (mo || decide (t i ≠ 48)))), (10, .int (nI (t i - 48))), (0, .ref (h 0)), (1, .int (nI a)), (2, .int (nI b)), (3, .int wh), (4, .long (lN u)), (6, .int (nI sn)), (7, .int (nI te)), (9, .int (nI i))]) hx hb d_R_roundedUnits_92 hl (by decide) rfl (fun ls hl => ?_)
                refine lv_iinc (v := nI (sn + 1)) (lv' := [(6, .int (nI (sn + 1))), (8, .int (bz (mo || decide (t i ≠ 48)))), (10, .int (nI (t i - 48))), (0, .ref (h 0)), (1, .int (nI a)), (2, .int (nI b)), (3, .int wh), (4, .long (lN u)), (7, .int (nI te)), (9, .int (nI i))]) hx hb d_R_roundedUnits_94 hl (k := 7) rfl (y_inc _) (by decide) rfl (fun ls hl => ?_)
                refine lv_iinc (v := nI (i + 1)) (lv' := [(9, .int (nI (i + 1))), (6, .int (nI (sn + 1))), (8, .int (bz (mo || decide (t i ≠ 48)))), (10, .int (nI (t i - 48))), (0, .ref (h 0)), (1, .int (nI a)), (2, .int (nI b)), (3, .int wh), (4, .long (lN u)), (7, .int (nI te))]) hx hb d_R_roundedUnits_97 hl (k := 9) rfl (y_inc _) (by decide) rfl (fun ls hl => ?_)
                refine lv_goto (tgt := 15) hx hb d_R_roundedUnits_100 (by decide) ?_
                exact ih9 (i + 1) u (sn + 1) te (mo || decide (t i ≠ 48)) ue (by omega) (by omega) (by omega) (by omega) (by have := di_lo c31; omega) (by omega) (hc) (hf.trans (exF_gt c18 c31 (by omega))) _ _ _ hP hD hS (lv_sub hl [4, 5, 6, 7, 8, 1, 9, 2, 0] (rfl))
            · skip
              rw [eq_toI (by omega)] at c69
              refine lv_iload hx hb d_R_roundedUnits_72 (lv_at hl 0 rfl) ?_
              refine lv_istore (lv' := [(7, .int (nI (t i - 48))), (10, .int (nI (t i - 48))), (0, .ref (h 0)), (1, .int (nI a)), (2, .int (nI b)), (3, .int wh), (4, .long (lN u)), (6, .int (nI sn)), (8, .int (bz mo)), (9, .int (nI i))]) hx hb d_R_roundedUnits_74 hl (by decide) rfl (fun ls hl => ?_)
              refine lv_goto (tgt := 94) hx hb d_R_roundedUnits_76 (by decide) ?_
              refine lv_iinc (v := nI (sn + 1)) (lv' := [(6, .int (nI (sn + 1))), (7, .int (nI (t i - 48))), (10, .int (nI (t i - 48))), (0, .ref (h 0)), (1, .int (nI a)), (2, .int (nI b)), (3, .int wh), (4, .long (lN u)), (8, .int (bz mo)), (9, .int (nI i))]) hx hb d_R_roundedUnits_94 hl (k := 7) rfl (y_inc _) (by decide) rfl (fun ls hl => ?_)
              refine lv_iinc (v := nI (i + 1)) (lv' := [(9, .int (nI (i + 1))), (6, .int (nI (sn + 1))), (7, .int (nI (t i - 48))), (10, .int (nI (t i - 48))), (0, .ref (h 0)), (1, .int (nI a)), (2, .int (nI b)), (3, .int wh), (4, .long (lN u)), (8, .int (bz mo))]) hx hb d_R_roundedUnits_97 hl (k := 9) rfl (y_inc _) (by decide) rfl (fun ls hl => ?_)
              refine lv_goto (tgt := 15) hx hb d_R_roundedUnits_100 (by decide) ?_
              exact ih9 (i + 1) u (sn + 1) (t i - 48) mo ue (by omega) (by omega) (by omega) (by omega) (by have := di_lo c31; omega) (by omega) (hc) (hf.trans (exF_eq c18 c31 c69)) _ _ _ hP hD hS (lv_sub hl [4, 5, 6, 7, 8, 1, 2, 9, 0] (rfl))
          · skip
            rw [le_toI (by omega)] at c49
            refine lv_lload hx hb d_R_roundedUnits_52 (lv_at hl 5 rfl) ?_
            refine y_call (y_runS (As := [.long (lN u)]) (rest := []) hx hb hml hown (c_R_tenfold l G  u (by omega)) (gS (n := 1) hg tk_508 tk_509 tk_4 tk_510 (by decide +kernel) ⟨Nat.le_of_ble_eq_true rfl, Nat.le_of_ble_eq_true rfl⟩) (y_pre hE hK hP hD hS hA [] rfl rfl) rfl rfl hl.1 rfl (lv_room (Nat.le_of_ble_eq_true rfl)) d_R_roundedUnits_54 ⟨Nat.le_of_ble_eq_true rfl, Nat.le_of_ble_eq_true rfl⟩) hP hD hS hA [] rfl (fun _ _ _ _ _ _ hp => False.elim hp) (fun v w H locs hp hlw hP hD hS => ?_)
            obtain ⟨rfl, rfl⟩ := hp
            have hP : va_P (gD G) vwC (wR G h dg n p fk fp t np no k c f o bt bk bn) H := hP
            have hD : va_D A (wR G h dg n p fk fp t np no k c f o bt bk bn) := hD
            refine W.eq (g2 := F0 mm 57 ls [.long (lN (tfU 1000000000 u))]) rfl ?_
            refine lv_iload hx hb d_R_roundedUnits_57 (lv_at hl 0 rfl) ?_
            refine lv_i2l hx hb d_R_roundedUnits_59 (v := (nI (t i - 48)).toInt64) rfl ?_
            refine y_eql (y := lN (t i - 48)) (i2lN (by have := ht i; omega)) ?_
            refine lv_ladd hx hb d_R_roundedUnits_60 ?_
            refine y_eql (lN_add _ _) ?_
            refine lv_lstore (lv' := [(4, .long (lN ((tfU 1000000000 u) + (t i - 48)))), (10, .int (nI (t i - 48))), (0, .ref (h 0)), (1, .int (nI a)), (2, .int (nI b)), (3, .int wh), (6, .int (nI sn)), (7, .int (nI te)), (8, .int (bz mo)), (9, .int (nI i))]) hx hb d_R_roundedUnits_61 hl (by decide) rfl (fun ls hl => ?_)
            refine lv_goto (tgt := 94) hx hb d_R_roundedUnits_63 (by decide) ?_
            refine lv_iinc (v := nI (sn + 1)) (lv' := [(6, .int (nI (sn + 1))), (4, .long (lN ((tfU 1000000000 u) + (t i - 48)))), (10, .int (nI (t i - 48))), (0, .ref (h 0)), (1, .int (nI a)), (2, .int (nI b)), (3, .int wh), (7, .int (nI te)), (8, .int (bz mo)), (9, .int (nI i))]) hx hb d_R_roundedUnits_94 hl (k := 6) rfl (y_inc _) (by decide) rfl (fun ls hl => ?_)
            refine lv_iinc (v := nI (i + 1)) (lv' := [(9, .int (nI (i + 1))), (6, .int (nI (sn + 1))), (4, .long (lN ((tfU 1000000000 u) + (t i - 48)))), (10, .int (nI (t i - 48))), (0, .ref (h 0)), (1, .int (nI a)), (2, .int (nI b)), (3, .int wh), (7, .int (nI te)), (8, .int (bz mo))]) hx hb d_R_roundedUnits_97 hl (k := 9) rfl (y_inc _) (by decide) rfl (fun ls hl => ?_)
            refine lv_goto (tgt := 15) hx hb d_R_roundedUnits_100 (by decide) ?_
            exact ih9 (i + 1) ((tfU 1000000000 u) + (t i - 48)) (sn + 1) te mo (10 * ue + (t i - 48)) (by omega) (by omega) (by omega) (by omega) (by have := di_lo c31; omega) (by have := di_lo c31; unfold tfU; split <;> omega) (cpr_step _ hc) (hf.trans (exF_lt c18 c31 (by omega))) _ _ _ hP hD hS (lv_sub hl [4, 5, 6, 7, 2, 1, 8, 9, 0] (rfl))
  refine lv_lconst (v := lN 0) hx hb d_R_roundedUnits_0 (by decide) ?_
  refine lv_lstore (lv' := [(4, .long (lN 0)), (0, .ref (h 0)), (1, .int (nI a)), (2, .int (nI b)), (3, .int wh)]) hx hb d_R_roundedUnits_1 hl (by decide) rfl (fun ls hl => ?_)
  refine lv_iconst (v := nI 0) hx hb d_R_roundedUnits_3 (by decide) ?_
  refine lv_istore (lv' := [(6, .int (nI 0)), (4, .long (lN 0)), (0, .ref (h 0)), (1, .int (nI a)), (2, .int (nI b)), (3, .int wh)]) hx hb d_R_roundedUnits_4 hl (by decide) rfl (fun ls hl => ?_)
  refine lv_iconst (v := nI 0) hx hb d_R_roundedUnits_6 (by decide) ?_
  refine lv_istore (lv' := [(7, .int (nI 0)), (6, .int (nI 0)), (4, .long (lN 0)), (0, .ref (h 0)), (1, .int (nI a)), (2, .int (nI b)), (3, .int wh)]) hx hb d_R_roundedUnits_7 hl (by decide) rfl (fun ls hl => ?_)
  refine lv_iconst (v := nI 0) hx hb d_R_roundedUnits_9 (by decide) ?_
  refine lv_istore (lv' := [(8, .int (nI 0)), (7, .int (nI 0)), (6, .int (nI 0)), (4, .long (lN 0)), (0, .ref (h 0)), (1, .int (nI a)), (2, .int (nI b)), (3, .int wh)]) hx hb d_R_roundedUnits_10 hl (by decide) rfl (fun ls hl => ?_)
  refine lv_iload_n hx hb d_R_roundedUnits_12 rfl (lv_at hl 5 rfl) ?_
  refine lv_istore (lv' := [(9, .int (nI a)), (8, .int (nI 0)), (7, .int (nI 0)), (6, .int (nI 0)), (4, .long (lN 0)), (0, .ref (h 0)), (1, .int (nI a)), (2, .int (nI b)), (3, .int wh)]) hx hb d_R_roundedUnits_13 hl (by decide) rfl (fun ls hl => ?_)
  exact J15 _ a 0 0 0 false 0 (Nat.lt_succ_self _) (by omega) (by omega) (by omega) (by omega) (by omega) (⟨fun _ => rfl, fun h => h⟩) (rfl) _ _ _ hP hD hS (lv_sub hl [5, 6, 7, 8, 4, 3, 2, 1, 0] (rfl))
