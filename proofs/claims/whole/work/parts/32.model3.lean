section YLong2
variable {p : Program} {l : Launch} {e : Env} {R : Room} {s : State} {m : MethodId} {args : Array Value} {below : List Frame} {meth : Method} {c : Code} {H : Heap} {locs : List Loc} {cells slots : Nat} {Q : State → Prop} {cc : ByteArray} {pc : Nat} {ls : Array Slot} {rest : List Value}
theorem lgI (a b : Int64) : lg_cmp a b = if b.toInt < a.toInt then 1 else if a.toInt = b.toInt then 0 else -1 := by
  unfold lg_cmp
  by_cases h : b.toInt < a.toInt
  · rw [if_pos (Int64.lt_iff_toInt_lt.mpr h), if_pos h]
  · rw [if_neg (fun q => h (Int64.lt_iff_toInt_lt.mp q)), if_neg h]
    by_cases h2 : a.toInt = b.toInt
    · rw [if_pos (Int64.toInt_inj.mp h2), if_pos h2]
    · rw [if_neg (fun q => h2 (by rw [q])), if_neg h2]
theorem yq_eq {a b : Int64} {off : Int} {tgt : Nat} (hexec : p.tables.exec = Jvm.exec) (hb0 : c.code = cc) (hdg : decode cc pc = .ok (.lcmp, 1)) (hdg2 : decode cc (pc + 1) = .ok (.ifCond .eq off, 3)) (ht : ((pc + 1 : Nat) : Int) + off = (tgt : Int)) (kt : a.toInt = b.toInt → W p l e R s m args below meth c H locs cells slots Q (F0 m tgt ls rest)) (kf : ¬ a.toInt = b.toInt → W p l e R s m args below meth c H locs cells slots Q (F0 m (pc + 1 + 3) ls rest)) : W p l e R s m args below meth c H locs cells slots Q (F0 m pc ls (.long b :: .long a :: rest)) := by
  refine W.lcmp hexec hb0 hdg ?_
  rw [lgI a b]
  refine lv_if_eq hexec hb0 hdg2 ht (fun h => kt ?_) (fun h => kf ?_) <;> (rcases Int.lt_trichotomy a.toInt b.toInt with q | q | q <;> (first | rw [if_neg (show ¬ b.toInt < a.toInt by omega), if_neg (show ¬ a.toInt = b.toInt by omega)] at h | rw [if_neg (show ¬ b.toInt < a.toInt by omega), if_pos q] at h | rw [if_pos q] at h) <;> first | omega | exact absurd h (by decide) | exact absurd (by decide) h)
theorem yq_ne {a b : Int64} {off : Int} {tgt : Nat} (hexec : p.tables.exec = Jvm.exec) (hb0 : c.code = cc) (hdg : decode cc pc = .ok (.lcmp, 1)) (hdg2 : decode cc (pc + 1) = .ok (.ifCond .ne off, 3)) (ht : ((pc + 1 : Nat) : Int) + off = (tgt : Int)) (kt : ¬ a.toInt = b.toInt → W p l e R s m args below meth c H locs cells slots Q (F0 m tgt ls rest)) (kf : a.toInt = b.toInt → W p l e R s m args below meth c H locs cells slots Q (F0 m (pc + 1 + 3) ls rest)) : W p l e R s m args below meth c H locs cells slots Q (F0 m pc ls (.long b :: .long a :: rest)) := by
  refine W.lcmp hexec hb0 hdg ?_
  rw [lgI a b]
  refine lv_if_ne hexec hb0 hdg2 ht (fun h => kt ?_) (fun h => kf ?_) <;> (rcases Int.lt_trichotomy a.toInt b.toInt with q | q | q <;> (first | rw [if_neg (show ¬ b.toInt < a.toInt by omega), if_neg (show ¬ a.toInt = b.toInt by omega)] at h | rw [if_neg (show ¬ b.toInt < a.toInt by omega), if_pos q] at h | rw [if_pos q] at h) <;> first | omega | exact absurd h (by decide) | exact absurd (by decide) h)
theorem yq_lt {a b : Int64} {off : Int} {tgt : Nat} (hexec : p.tables.exec = Jvm.exec) (hb0 : c.code = cc) (hdg : decode cc pc = .ok (.lcmp, 1)) (hdg2 : decode cc (pc + 1) = .ok (.ifCond .lt off, 3)) (ht : ((pc + 1 : Nat) : Int) + off = (tgt : Int)) (kt : a.toInt < b.toInt → W p l e R s m args below meth c H locs cells slots Q (F0 m tgt ls rest)) (kf : b.toInt ≤ a.toInt → W p l e R s m args below meth c H locs cells slots Q (F0 m (pc + 1 + 3) ls rest)) : W p l e R s m args below meth c H locs cells slots Q (F0 m pc ls (.long b :: .long a :: rest)) := by
  refine W.lcmp hexec hb0 hdg ?_
  rw [lgI a b]
  refine lv_if_lt hexec hb0 hdg2 ht (fun h => kt ?_) (fun h => kf ?_) <;> (rcases Int.lt_trichotomy a.toInt b.toInt with q | q | q <;> (first | rw [if_neg (show ¬ b.toInt < a.toInt by omega), if_neg (show ¬ a.toInt = b.toInt by omega)] at h | rw [if_neg (show ¬ b.toInt < a.toInt by omega), if_pos q] at h | rw [if_pos q] at h) <;> first | omega | exact absurd h (by decide) | exact absurd (by decide) h)
theorem yq_ge {a b : Int64} {off : Int} {tgt : Nat} (hexec : p.tables.exec = Jvm.exec) (hb0 : c.code = cc) (hdg : decode cc pc = .ok (.lcmp, 1)) (hdg2 : decode cc (pc + 1) = .ok (.ifCond .ge off, 3)) (ht : ((pc + 1 : Nat) : Int) + off = (tgt : Int)) (kt : b.toInt ≤ a.toInt → W p l e R s m args below meth c H locs cells slots Q (F0 m tgt ls rest)) (kf : a.toInt < b.toInt → W p l e R s m args below meth c H locs cells slots Q (F0 m (pc + 1 + 3) ls rest)) : W p l e R s m args below meth c H locs cells slots Q (F0 m pc ls (.long b :: .long a :: rest)) := by
  refine W.lcmp hexec hb0 hdg ?_
  rw [lgI a b]
  refine lv_if_ge hexec hb0 hdg2 ht (fun h => kt ?_) (fun h => kf ?_) <;> (rcases Int.lt_trichotomy a.toInt b.toInt with q | q | q <;> (first | rw [if_neg (show ¬ b.toInt < a.toInt by omega), if_neg (show ¬ a.toInt = b.toInt by omega)] at h | rw [if_neg (show ¬ b.toInt < a.toInt by omega), if_pos q] at h | rw [if_pos q] at h) <;> first | omega | exact absurd h (by decide) | exact absurd (by decide) h)
theorem yq_gt {a b : Int64} {off : Int} {tgt : Nat} (hexec : p.tables.exec = Jvm.exec) (hb0 : c.code = cc) (hdg : decode cc pc = .ok (.lcmp, 1)) (hdg2 : decode cc (pc + 1) = .ok (.ifCond .gt off, 3)) (ht : ((pc + 1 : Nat) : Int) + off = (tgt : Int)) (kt : b.toInt < a.toInt → W p l e R s m args below meth c H locs cells slots Q (F0 m tgt ls rest)) (kf : a.toInt ≤ b.toInt → W p l e R s m args below meth c H locs cells slots Q (F0 m (pc + 1 + 3) ls rest)) : W p l e R s m args below meth c H locs cells slots Q (F0 m pc ls (.long b :: .long a :: rest)) := by
  refine W.lcmp hexec hb0 hdg ?_
  rw [lgI a b]
  refine lv_if_gt hexec hb0 hdg2 ht (fun h => kt ?_) (fun h => kf ?_) <;> (rcases Int.lt_trichotomy a.toInt b.toInt with q | q | q <;> (first | rw [if_neg (show ¬ b.toInt < a.toInt by omega), if_neg (show ¬ a.toInt = b.toInt by omega)] at h | rw [if_neg (show ¬ b.toInt < a.toInt by omega), if_pos q] at h | rw [if_pos q] at h) <;> first | omega | exact absurd h (by decide) | exact absurd (by decide) h)
theorem yq_le {a b : Int64} {off : Int} {tgt : Nat} (hexec : p.tables.exec = Jvm.exec) (hb0 : c.code = cc) (hdg : decode cc pc = .ok (.lcmp, 1)) (hdg2 : decode cc (pc + 1) = .ok (.ifCond .le off, 3)) (ht : ((pc + 1 : Nat) : Int) + off = (tgt : Int)) (kt : a.toInt ≤ b.toInt → W p l e R s m args below meth c H locs cells slots Q (F0 m tgt ls rest)) (kf : b.toInt < a.toInt → W p l e R s m args below meth c H locs cells slots Q (F0 m (pc + 1 + 3) ls rest)) : W p l e R s m args below meth c H locs cells slots Q (F0 m pc ls (.long b :: .long a :: rest)) := by
  refine W.lcmp hexec hb0 hdg ?_
  rw [lgI a b]
  refine lv_if_le hexec hb0 hdg2 ht (fun h => kt ?_) (fun h => kf ?_) <;> (rcases Int.lt_trichotomy a.toInt b.toInt with q | q | q <;> (first | rw [if_neg (show ¬ b.toInt < a.toInt by omega), if_neg (show ¬ a.toInt = b.toInt by omega)] at h | rw [if_neg (show ¬ b.toInt < a.toInt by omega), if_pos q] at h | rw [if_pos q] at h) <;> first | omega | exact absurd h (by decide) | exact absurd (by decide) h)
end YLong2
theorem lN_T {a : Nat} (h : a < 2 ^ 63) : (lN a).toInt = (a : Int) := by
  show (Int64.ofNat a).toInt = _
  rw [Int64.toInt_ofNat_of_lt h]
/-- the reference's cap -/
def tgU (K u d : Nat) : Nat := if K < u then u else 10 * u + d
theorem cpr_st2 {K ue u : Nat} (d : Nat) (h : cpr K ue u) : cpr K (10 * ue + d) (tgU K u d) := by
  obtain ⟨h1, h2⟩ := h
  unfold tgU
  by_cases q : ue ≤ K
  · have := h1 q
    subst this
    rw [if_neg (by omega)]
    exact ⟨fun _ => rfl, fun h => h⟩
  · have := h2 (by omega)
    rw [if_pos this]
    exact ⟨fun h => by omega, fun _ => by omega⟩
theorem cpr_down {e r : Nat} (h : cpr 100000000000 e r) : cpr 1000000000 e r := by
  obtain ⟨h1, h2⟩ := h
  refine ⟨fun q => h1 (by omega), fun q => ?_⟩
  rcases Nat.lt_or_ge 100000000000 e with y | y
  · have := h2 y; omega
  · have := h1 y; omega
theorem pow_mono {ue j d : Nat} (h : j ≤ d) : ue * 10 ^ j ≤ ue * 10 ^ d := Nat.mul_le_mul_left _ (Nat.pow_le_pow_right (by decide) h)
theorem cpr_zero {K ue j d : Nat} (h : cpr K (ue * 10 ^ j) 0) : cpr K (ue * 10 ^ d) 0 := by
  have h0 : ue * 10 ^ j = 0 := by
    rcases Nat.lt_or_ge K (ue * 10 ^ j) with y | y
    · have := h.2 y; omega
    · exact (h.1 y).symm
  have h1 : ue = 0 := by
    rcases Nat.eq_zero_or_pos ue with y | y
    · exact y
    · have := Nat.mul_pos y (Nat.pow_pos (n := j) (show 0 < 10 by decide)); omega
  subst h1
  rw [Nat.zero_mul]
  exact ⟨fun _ => rfl, fun h => by omega⟩
theorem cpr_big {K ue j d u : Nat} (h : cpr K (ue * 10 ^ j) u) (hu : K < u) (hd : j ≤ d) : cpr K (ue * 10 ^ d) u := by
  have h0 : K < ue * 10 ^ j := by
    rcases Nat.lt_or_ge K (ue * 10 ^ j) with y | y
    · exact y
    · have := h.1 y; omega
  have := pow_mono (ue := ue) hd
  exact ⟨fun h => by omega, fun _ => hu⟩
/-! the two exponents, and that they are worth the same -/
def exG (t : Nat → Nat) : Nat → Nat → Nat → Nat
  | 0, _, e => e
  | m + 1, i, e => exG t m (i + 1) (if 10000000 < e then e else 10 * e + t i - 48)
theorem exG_step {t : Nat → Nat} {b i e : Nat} (h : i < b) : exG t (b - i) i e = exG t (b - (i + 1)) (i + 1) (if 10000000 < e then e else 10 * e + t i - 48) := by
  rw [show b - i = (b - (i + 1)) + 1 by omega]; rfl
theorem exG_done {t : Nat → Nat} {b i e : Nat} (h : b ≤ i) : exG t (b - i) i e = e := by rw [show b - i = 0 by omega]; rfl
def exRel (e1 e2 : Nat) : Prop := (e1 = e2 ∧ e1 ≤ 1000000) ∨ (e1 = 1000000 ∧ 1000000 ≤ e2)
theorem ex_rel (t : Nat → Nat) : ∀ (m i e1 e2 : Nat), (∀ j, i ≤ j → j < i + m → 48 ≤ t j ∧ t j ≤ 57) → exRel e1 e2 → e2 ≤ 100000009 → exRel (exE t m i e1) (exG t m i e2) ∧ exG t m i e2 ≤ 100000009
  | 0, i, e1, e2, _, h, hb => ⟨h, hb⟩
  | m + 1, i, e1, e2, hd, h, hb => by
    have h9 := hd i (Nat.le_refl _) (by omega)
    refine ex_rel t m (i + 1) _ _ (fun j h1 h2 => hd j (by omega) (by omega)) ?_ ?_
    · unfold exRel at h ⊢
      rcases h with ⟨rfl, h2⟩ | ⟨rfl, h2⟩
      · rw [if_neg (by omega)]
        rcases Nat.lt_or_ge 1000000 (10 * e1 + t i - 48) with y | y
        · exact Or.inr ⟨Nat.min_eq_right (by omega), by omega⟩
        · exact Or.inl ⟨Nat.min_eq_left y, by rw [Nat.min_eq_left y]; exact y⟩
      · refine Or.inr ⟨Nat.min_eq_right (by omega), ?_⟩
        split <;> omega
    · split <;> omega
theorem exF_neg (t : Nat → Nat) (W : Int) (hW : W < 0) : ∀ (m i u sn te : Nat) (mo : Bool), (exF t W m i u sn te mo).1 = u ∧ (exF t W m i u sn te mo).2.2.1 = te
  | 0, i, u, sn, te, mo => ⟨rfl, rfl⟩
  | m + 1, i, u, sn, te, mo => by
    unfold exF
    split
    · rw [if_neg (by omega), if_neg (by omega)]
      exact exF_neg t W hW m (i + 1) u (sn + 1) te _
    · exact exF_neg t W hW m (i + 1) u sn te mo
theorem exR_neg {t : Nat → Nat} {a b : Nat} {W : Int} (hW : W < 0) : exR t a b W = 0 := by
  unfold exR exQ
  obtain ⟨h1, h2⟩ := exF_neg t W hW (b - a) a 0 0 0 false
  rw [h1, h2, Nat.zero_mul]
  rfl
theorem exF_far (t : Nat → Nat) (W1 W2 : Int) : ∀ (m i u sn te : Nat) (mo : Bool), (sn + m : Nat) ≤ W1 → (sn + m : Nat) ≤ W2 → exF t W1 m i u sn te mo = exF t W2 m i u sn te mo ∧ (exF t W1 m i u sn te mo).2.1 ≤ sn + m ∧ (exF t W1 m i u sn te mo).2.2 = (te, mo)
  | 0, i, u, sn, te, mo, _, _ => ⟨rfl, Nat.le_refl _, rfl⟩
  | m + 1, i, u, sn, te, mo, h1, h2 => by
    unfold exF
    split
    · rw [if_pos (by omega), if_pos (by omega)]
      obtain ⟨a, b, c⟩ := exF_far t W1 W2 m (i + 1) (10 * u + (t i - 48)) (sn + 1) te mo (by omega) (by omega)
      exact ⟨a, by omega, c⟩
    · obtain ⟨a, b, c⟩ := exF_far t W1 W2 m (i + 1) u sn te mo (by omega) (by omega)
      exact ⟨a, by omega, c⟩
def agr (x y : Nat) : Prop := x = y ∨ (1000000000 < x ∧ 1000000000 < y)
theorem exR_far {t : Nat → Nat} {a b : Nat} {W1 W2 : Int} (h1 : ((b - a) + 10 : Nat) ≤ W1) (h2 : ((b - a) + 10 : Nat) ≤ W2) : agr (exR t a b W1) (exR t a b W2) := by
  obtain ⟨e1, e2, e3⟩ := exF_far t W1 W2 (b - a) a 0 0 0 false (by omega) (by omega)
  unfold exR exQ
  rw [← e1]
  generalize exF t W1 (b - a) a 0 0 0 false = r at e2 e3 ⊢
  obtain ⟨u, sn, te, mo⟩ := r
  dsimp only at e2 e3 ⊢
  cases e3
  have r0 : ∀ x, rndU x 0 false = x := fun x => if_neg (by omega)
  rw [r0, r0]
  rcases Nat.eq_zero_or_pos u with y | y
  · subst y; rw [Nat.zero_mul, Nat.zero_mul]; exact Or.inl rfl
  · have q1 : 10 ^ 10 ≤ 10 ^ (W1 - sn).toNat := Nat.pow_le_pow_right (by decide) (by omega)
    have q2 : 10 ^ 10 ≤ 10 ^ (W2 - sn).toNat := Nat.pow_le_pow_right (by decide) (by omega)
    have q3 := Nat.mul_le_mul_right (10 ^ (W1 - sn).toNat) (show 1 ≤ u from y)
    have q4 := Nat.mul_le_mul_right (10 ^ (W2 - sn).toNat) (show 1 ≤ u from y)
    exact Or.inr ⟨by omega, by omega⟩
/-- the reference's power -/
def nP (t : Nat → Nat) (n p : Nat) : Int := if nX t n p then (if hr t n (n4 t n p + 1) = 45 then -(exG t (n5 t n p - ps t n (n4 t n p + 1)) (ps t n (n4 t n p + 1)) 0 : Int) else (exG t (n5 t n p - ps t n (n4 t n p + 1)) (ps t n (n4 t n p + 1)) 0 : Int)) else 0
theorem nI_p3 {a e d : Nat} (ha : a ≤ 100000) (he : e ≤ 1000000) (hd : d ≤ 3) : ((nI a + nI e) + nI d).toInt = (a : Int) + e + d := by
  rw [nI_add, nI_add, nI_toInt (by omega)]; omega
theorem nI_m3 {a e d : Nat} (ha : a ≤ 100000) (he : e ≤ 1000000) (hd : d ≤ 3) : ((nI a + -nI e) + nI d).toInt = (a : Int) - e + d := by
  rw [Int32.add_assoc, Int32.add_comm (-nI e), ← Int32.add_assoc, nI_add, ← Int32.sub_eq_add_neg, pk_sub_toInt (by omega) (by omega)]; omega
theorem num_agr {t : Nat → Nat} {n dg p : Nat} (hn : n ≤ 65536) (hp : p ≤ n) (hdg : dg ≤ 3) : agr (nU t n dg p) (exR t (n1 t n p) (n4 t n p) ((n2 t n p - n1 t n p : Nat) + nP t n p + dg)) := by
  obtain ⟨a1, a2, a3, a4, a5⟩ := nn (t := t) hp
  unfold nU nW nV nP
  by_cases hx : nX t n p
  · rw [if_pos hx, if_pos hx]
    have q1 : n4 t n p < n := by rcases hx with q | q <;> exact hr_lt q (by decide)
    have q2 : ps t n (n4 t n p + 1) ≤ n := ps_le q1
    have e5 : n5 t n p = rn diN t n (ps t n (n4 t n p + 1)) := if_pos hx
    have hr9 := ex_rel t (rn diN t n (ps t n (n4 t n p + 1)) - ps t n (n4 t n p + 1)) (ps t n (n4 t n p + 1)) 0 0 (fun j h1 h2 => di_lo (rn_all (n := n) h1 (by have := rn_ge (P := diN) (t := t) q2; omega))) (Or.inl ⟨rfl, by omega⟩) (by omega)
    rw [e5]
    unfold xE
    generalize exE t (rn diN t n (ps t n (n4 t n p + 1)) - ps t n (n4 t n p + 1)) (ps t n (n4 t n p + 1)) 0 = e1 at hr9 ⊢
    generalize exG t (rn diN t n (ps t n (n4 t n p + 1)) - ps t n (n4 t n p + 1)) (ps t n (n4 t n p + 1)) 0 = e2 at hr9 ⊢
    obtain ⟨hr9, -⟩ := hr9
    by_cases hm : hr t n (n4 t n p + 1) = 45
    · rw [if_pos hm, if_pos hm]
      rcases hr9 with ⟨rfl, h2⟩ | ⟨rfl, h2⟩
      · rw [nI_m3 (by omega) h2 hdg]
        exact Or.inl rfl
      · rw [nI_m3 (by omega) (by omega) hdg, exR_neg (by omega), exR_neg (by omega)]
        exact Or.inl rfl
    · rw [if_neg hm, if_neg hm]
      rcases hr9 with ⟨rfl, h2⟩ | ⟨rfl, h2⟩
      · rw [nI_p3 (by omega) h2 hdg]
        exact Or.inl rfl
      · rw [nI_p3 (by omega) (by omega) hdg]
        exact exR_far (by omega) (by omega)
  · rw [if_neg hx, if_neg hx, nI_p3 (by omega) (by omega) hdg]
    exact Or.inl (by congr 1)
theorem n14_dig {t : Nat → Nat} {n p : Nat} (hp : p ≤ n) : ∀ i, n1 t n p ≤ i → i < n4 t n p → t i = 46 ∨ diN (t i) = true := by
  obtain ⟨a1, a2, a3, a4, a5⟩ := nn (t := t) hp
  intro i h1 h2
  rcases Nat.lt_or_ge i (n2 t n p) with y | y
  · exact Or.inr (rn_all (n := n) (p := n1 t n p) h1 y)
  · unfold n4 at h2
    by_cases h : hr t n (n2 t n p) = 46
    · rw [if_pos h] at h2
      rcases Nat.lt_or_ge (n2 t n p) i with z | z
      · exact Or.inr (rn_all (n := n) (p := n2 t n p + 1) z h2)
      · have e : i = n2 t n p := by omega
        subst e
        have := hr_lt h (by decide)
        rw [show hr t n (n2 t n p) = t (n2 t n p) from if_pos this] at h
        exact Or.inl h
    · rw [if_neg h] at h2; omega
theorem lN_W {w d : Nat} {pw : Int64} {P : Int} (hw : w ≤ 100000) (hd : d ≤ 3) (h : pw.toInt = P) (h1 : -200000000 ≤ P) (h2 : P ≤ 200000000) : ((lN w + pw) + lN d).toInt = w + P + d := by
  rw [Int64.toInt_add, Int64.toInt_add, lN_T (by omega), lN_T (by omega), h]
  rw [show ((w : Int) + P).bmod (2 ^ 64) = w + P from Int.bmod_eq_of_le (by omega) (by omega), Int.bmod_eq_of_le (by omega) (by omega)]
theorem lN_nT {e : Nat} (h : e < 2 ^ 62) : (-lN e).toInt = -(e : Int) := by
  rw [Int64.toInt_neg, lN_T (by omega), Int.bmod_eq_of_le (by omega) (by omega)]
theorem lN_l48 {a : Nat} (h : 48 ≤ a) : lN a - lN 48 = lN (a - 48) := lN_sub h


set_option maxHeartbeats 4000000 in
set_option maxRecDepth 100000 in
theorem c_M_rounded (l : Launch) (G : gl) (h : Nat → Nat) (dg : Nat) (mp : Nat) (ml : Nat) (th : Nat) (n : Nat) (t : Nat → Nat) (pl : Nat → Int32) (pn : Nat → Nat) (xy : Nat → Int32) (pt : Nat → Nat) (sz : Nat) (rs : Nat → Nat) (ou : Nat → Nat) (wr : Nat) (sl : Nat) (p : Nat) (fk : Nat) (fp : Nat) (va : Int32) (oa : Nat → Int32) (oc : Nat → Int32) (ok : Nat → Int32) (xs : List Int32) (ys : List (Int32 × Int32)) (a : Nat) (b : Nat) (W0 : Int64) (hn : n ≤ 65536) (hp : p ≤ n) (ht : ∀ i, t i < 256) (hab : a ≤ b) (hb9 : b ≤ n) (hdig : ∀ i, a ≤ i → i < b → t i = 46 ∨ diN (t i) = true) : YC l G y_M_rounded k_M_rounded 13 (Option.some FieldType.long) 0 0 [.ref (h 0), .int (nI a), .int (nI b), .long W0] (wMR G h dg mp ml th n t pl pn xy pt sz rs ou wr sl p fk fp va oa oc ok xs ys) (fun v w => ∃ r, v = some (.long (lN r)) ∧ cpr 1000000000 (exR t a b W0.toInt) r ∧ r < 2 ^ 42 ∧ w = wMR G h dg mp ml th n t pl pn xy pt sz rs ou wr sl p fk fp va oa oc ok xs ys) (fun _ _ => False) := by
  refine yc_of (by decide) ?_
  intro pg ev sx mm bl mt cd A C0 hP hD
  obtain ⟨hx, hb, hrt, hml, hown, hg, hlocks, hxt, hE, hK, hA, hmn⟩ := C0
  have hS : va_S A sx.heap sx.heap [] := va_S.rf
  have hl := lv_entry ([.ref (h 0), .int (nI a), .int (nI b), .long W0]) (n := 13) (Nat.le_of_ble_eq_true rfl)
  rw [lg_entry_eq]
  generalize (lg_sl ([.ref (h 0), .int (nI a), .int (nI b), .long W0]) ++ List.replicate (13 - (lg_sl ([.ref (h 0), .int (nI a), .int (nI b), .long W0])).length) Slot.unset).toArray = ls at hl ⊢
  have hl : lv_has ls 13 [(0, .ref (h 0)), (1, .int (nI a)), (2, .int (nI b)), (3, .long W0)] := hl
  obtain ⟨H, hH⟩ : ∃ H, H = sx.heap := ⟨_, rfl⟩
  rw [← hH] at hP
  have hS : va_S A sx.heap H [] := by rw [hH]; exact hS
  suffices h9 : W pg l ev (yR 0 0) sx mm _ bl mt cd H [] 0 0 (yMQ bl G A _ _ _ _ sx) (F0 mm 0 ls []) by rw [hH] at h9; exact h9
  obtain ⟨locs, hlo⟩ : ∃ locs : List Loc, locs = [] := ⟨_, rfl⟩
  rw [← hlo] at hS ⊢
  have J164 : ∀ (u : Nat) (sn : Nat) (te : Nat) (mo : Bool) (ue : Nat) (hte : te ≤ 9) (hu : u ≤ 1000000000009) (hc : cpr 100000000000 (ue * 10 ^ (W0.toInt - sn).toNat) u) (hf : exF t W0.toInt (b - a) a 0 0 0 false = (ue, sn, te, mo)) (hneg : W0.toInt < 0 → ue = 0 ∧ te = 0) (H : Heap) (locs : List Loc) (ls : Array Slot), va_P (gD G) vwC (wMR G h dg mp ml th n t pl pn xy pt sz rs ou wr sl p fk fp va oa oc ok xs ys) H → va_D A (wMR G h dg mp ml th n t pl pn xy pt sz rs ou wr sl p fk fp va oa oc ok xs ys) → va_S A sx.heap H locs → lv_has ls 13 [(0, .ref (h 0)), (3, .long W0), (5, .long (lN u)), (7, .int (nI te)), (8, .int (bz mo))] → W pg l ev (yR 0 0) sx mm ([.ref (h 0), .int (nI a), .int (nI b), .long W0] : List Value).toArray bl mt cd H locs 0 0 (yMQ bl G A (wMR G h dg mp ml th n t pl pn xy pt sz rs ou wr sl p fk fp va oa oc ok xs ys).length (fun v w => ∃ r, v = some (.long (lN r)) ∧ cpr 1000000000 (exR t a b W0.toInt) r ∧ r < 2 ^ 42 ∧ w = wMR G h dg mp ml th n t pl pn xy pt sz rs ou wr sl p fk fp va oa oc ok xs ys) (fun _ _ => False) ([.ref (h 0), .int (nI a), .int (nI b), .long W0] : List Value).toArray sx) (F0 mm 164 ls []) := by
    intro u sn te mo ue hte hu hc hf hneg H locs ls hP hD hS hl
    refine lv_lload_n hx hb d_M_rounded_164 rfl (lv_at hl 1 rfl) ?_
    refine lv_lconst (v := lN 0) hx hb d_M_rounded_165 (by decide) ?_
    refine yq_ge (a := W0) (b := lN 0) (tgt := 172) hx hb d_M_rounded_166 d_M_rounded_167 (by decide) (fun c167 => ?_) (fun c167 => ?_)
    · skip
      rw [show (lN 0).toInt = 0 by decide] at c167
      refine lv_iload hx hb d_M_rounded_172 (lv_at hl 3 rfl) ?_
      refine lv_iconst (v := nI 5) hx hb d_M_rounded_174 (by decide) ?_
      refine yn_icmp_gt (a := te) (b := 5) (tgt := 200) hx hb d_M_rounded_175 (by decide) (by omega) (by omega) (fun c175 => ?_) (fun c175 => ?_)
      · skip
        refine lv_lload hx hb d_M_rounded_200 (lv_at hl 2 rfl) ?_
        refine lv_lconst (v := lN 1) hx hb d_M_rounded_202 (by decide) ?_
        refine lv_ladd hx hb d_M_rounded_203 ?_
        refine y_eql (lN_add _ _) ?_
        refine lv_goto (tgt := 209) hx hb d_M_rounded_204 (by decide) ?_
        exact yr_l (ws := wMR G h dg mp ml th n t pl pn xy pt sz rs ou wr sl p fk fp va oa oc ok xs ys) hx hb hrt hlocks (⟨_, rfl, by refine cpr_down ?_; unfold exR; rw [hf]; have h8 := cpr_rnd te mo hc; first | (rw [show rndU u te mo = u + 1 from if_pos (by first | exact Or.inl c175 | exact Or.inr ⟨c181, Or.inl c186⟩ | exact Or.inr ⟨c181, Or.inr c197⟩)] at h8; exact h8) | (rw [show rndU u te mo = u from if_neg (fun z => by rcases z with z | ⟨z1, z2 | z2⟩ <;> first | omega | (rw [c186] at z2; exact absurd z2 (by decide)))] at h8; exact h8), by omega, rfl⟩) rfl hK hP hD hS d_M_rounded_209
      · skip
        refine lv_iload hx hb d_M_rounded_178 (lv_at hl 3 rfl) ?_
        refine lv_iconst (v := nI 5) hx hb d_M_rounded_180 (by decide) ?_
        refine yn_icmp_ne (a := te) (b := 5) (tgt := 207) hx hb d_M_rounded_181 (by decide) (by omega) (by omega) (fun c181 => ?_) (fun c181 => ?_)
        · skip
          refine lv_lload hx hb d_M_rounded_207 (lv_at hl 2 rfl) ?_
          exact yr_l (ws := wMR G h dg mp ml th n t pl pn xy pt sz rs ou wr sl p fk fp va oa oc ok xs ys) hx hb hrt hlocks (⟨_, rfl, by refine cpr_down ?_; unfold exR; rw [hf]; have h8 := cpr_rnd te mo hc; first | (rw [show rndU u te mo = u + 1 from if_pos (by first | exact Or.inl c175 | exact Or.inr ⟨c181, Or.inl c186⟩ | exact Or.inr ⟨c181, Or.inr c197⟩)] at h8; exact h8) | (rw [show rndU u te mo = u from if_neg (fun z => by rcases z with z | ⟨z1, z2 | z2⟩ <;> first | omega | (rw [c186] at z2; exact absurd z2 (by decide)))] at h8; exact h8), by omega, rfl⟩) rfl hK hP hD hS d_M_rounded_209
        · skip
          refine lv_iload hx hb d_M_rounded_184 (lv_at hl 4 rfl) ?_
          refine yy_if_ne (P := mo) (tgt := 200) hx hb d_M_rounded_186 (by decide) (fun c186 => ?_) (fun c186 => ?_)
          · skip
            refine lv_lload hx hb d_M_rounded_200 (lv_at hl 2 rfl) ?_
            refine lv_lconst (v := lN 1) hx hb d_M_rounded_202 (by decide) ?_
            refine lv_ladd hx hb d_M_rounded_203 ?_
            refine y_eql (lN_add _ _) ?_
            refine lv_goto (tgt := 209) hx hb d_M_rounded_204 (by decide) ?_
            exact yr_l (ws := wMR G h dg mp ml th n t pl pn xy pt sz rs ou wr sl p fk fp va oa oc ok xs ys) hx hb hrt hlocks (⟨_, rfl, by refine cpr_down ?_; unfold exR; rw [hf]; have h8 := cpr_rnd te mo hc; first | (rw [show rndU u te mo = u + 1 from if_pos (by first | exact Or.inl c175 | exact Or.inr ⟨c181, Or.inl c186⟩ | exact Or.inr ⟨c181, Or.inr c197⟩)] at h8; exact h8) | (rw [show rndU u te mo = u from if_neg (fun z => by rcases z with z | ⟨z1, z2 | z2⟩ <;> first | omega | (rw [c186] at z2; exact absurd z2 (by decide)))] at h8; exact h8), by omega, rfl⟩) rfl hK hP hD hS d_M_rounded_209
          · skip
            refine lv_lload hx hb d_M_rounded_189 (lv_at hl 2 rfl) ?_
            refine lv_ldc2 (v := lN 2) hx hb hown (hg _ tk_877) d_M_rounded_191 ?_
            refine lv_lrem hx hb d_M_rounded_194 (by decide) ?_
            refine y_eql (y := lN (u % 2)) (pk_lRem (by omega) (by decide) (by decide)) ?_
            refine lv_lconst (v := lN 1) hx hb d_M_rounded_195 (by decide) ?_
            refine yl_ne (a := u % 2) (b := 1) (tgt := 207) hx hb d_M_rounded_196 d_M_rounded_197 (by decide) (by omega) (by omega) (fun c197 => ?_) (fun c197 => ?_)
            · skip
              refine lv_lload hx hb d_M_rounded_207 (lv_at hl 2 rfl) ?_
              exact yr_l (ws := wMR G h dg mp ml th n t pl pn xy pt sz rs ou wr sl p fk fp va oa oc ok xs ys) hx hb hrt hlocks (⟨_, rfl, by refine cpr_down ?_; unfold exR; rw [hf]; have h8 := cpr_rnd te mo hc; first | (rw [show rndU u te mo = u + 1 from if_pos (by first | exact Or.inl c175 | exact Or.inr ⟨c181, Or.inl c186⟩ | exact Or.inr ⟨c181, Or.inr c197⟩)] at h8; exact h8) | (rw [show rndU u te mo = u from if_neg (fun z => by rcases z with z | ⟨z1, z2 | z2⟩ <;> first | omega | (rw [c186] at z2; exact absurd z2 (by decide)))] at h8; exact h8), by omega, rfl⟩) rfl hK hP hD hS d_M_rounded_209
            · skip
              refine lv_lload hx hb d_M_rounded_200 (lv_at hl 2 rfl) ?_
              refine lv_lconst (v := lN 1) hx hb d_M_rounded_202 (by decide) ?_
              refine lv_ladd hx hb d_M_rounded_203 ?_
              refine y_eql (lN_add _ _) ?_
              refine lv_goto (tgt := 209) hx hb d_M_rounded_204 (by decide) ?_
              exact yr_l (ws := wMR G h dg mp ml th n t pl pn xy pt sz rs ou wr sl p fk fp va oa oc ok xs ys) hx hb hrt hlocks (⟨_, rfl, by refine cpr_down ?_; unfold exR; rw [hf]; have h8 := cpr_rnd te mo hc; first | (rw [show rndU u te mo = u + 1 from if_pos (by first | exact Or.inl c175 | exact Or.inr ⟨c181, Or.inl c186⟩ | exact Or.inr ⟨c181, Or.inr c197⟩)] at h8; exact h8) | (rw [show rndU u te mo = u from if_neg (fun z => by rcases z with z | ⟨z1, z2 | z2⟩ <;> first | omega | (rw [c186] at z2; exact absurd z2 (by decide)))] at h8; exact h8), by omega, rfl⟩) rfl hK hP hD hS d_M_rounded_209
    · skip
      rw [show (lN 0).toInt = 0 by decide] at c167
      refine lv_lconst (v := lN 0) hx hb d_M_rounded_170 (by decide) ?_
      exact yr_l (ws := wMR G h dg mp ml th n t pl pn xy pt sz rs ou wr sl p fk fp va oa oc ok xs ys) hx hb hrt hlocks (⟨0, rfl, by rw [exR_neg c167]; exact ⟨fun _ => rfl, fun h => h⟩, by decide, rfl⟩) rfl hK hP hD hS d_M_rounded_171
  have J124 : ∀ (n9 : Nat) (j : Nat) (u : Nat) (sn : Nat) (te : Nat) (mo : Bool) (ue : Nat) (hm9 : 2000000000000 - u < n9) (hsn : sn ≤ 65536) (hj : j ≤ u) (hte : te ≤ 9) (hu : u ≤ 1000000000009) (hc : cpr 100000000000 (ue * 10 ^ j) u) (hjw : j ≤ (W0.toInt - sn).toNat) (hf : exF t W0.toInt (b - a) a 0 0 0 false = (ue, sn, te, mo)) (hneg : W0.toInt < 0 → ue = 0 ∧ te = 0) (H : Heap) (locs : List Loc) (ls : Array Slot), va_P (gD G) vwC (wMR G h dg mp ml th n t pl pn xy pt sz rs ou wr sl p fk fp va oa oc ok xs ys) H → va_D A (wMR G h dg mp ml th n t pl pn xy pt sz rs ou wr sl p fk fp va oa oc ok xs ys) → va_S A sx.heap H locs → lv_has ls 13 [(0, .ref (h 0)), (3, .long W0), (5, .long (lN u)), (7, .int (nI te)), (8, .int (bz mo)), (9, .long (lN (sn + j)))] → W pg l ev (yR 0 0) sx mm ([.ref (h 0), .int (nI a), .int (nI b), .long W0] : List Value).toArray bl mt cd H locs 0 0 (yMQ bl G A (wMR G h dg mp ml th n t pl pn xy pt sz rs ou wr sl p fk fp va oa oc ok xs ys).length (fun v w => ∃ r, v = some (.long (lN r)) ∧ cpr 1000000000 (exR t a b W0.toInt) r ∧ r < 2 ^ 42 ∧ w = wMR G h dg mp ml th n t pl pn xy pt sz rs ou wr sl p fk fp va oa oc ok xs ys) (fun _ _ => False) ([.ref (h 0), .int (nI a), .int (nI b), .long W0] : List Value).toArray sx) (F0 mm 124 ls []) := by
    intro n9
    induction n9 with
    | zero => intro j u sn te mo ue hm9; exact absurd hm9 (Nat.not_lt_zero _)
    | succ n9 ih9 =>
      intro j u sn te mo ue hm9 hsn hj hte hu hc hjw hf hneg H locs ls hP hD hS hl
      refine lv_lload hx hb d_M_rounded_124 (lv_at hl 5 rfl) ?_
      refine lv_lload_n hx hb d_M_rounded_126 rfl (lv_at hl 1 rfl) ?_
      refine yq_ge (a := lN (sn + j)) (b := W0) (tgt := 164) hx hb d_M_rounded_127 d_M_rounded_128 (by decide) (fun c128 => ?_) (fun c128 => ?_)
      · skip
        rw [lN_T (by omega)] at c128
        exact J164 u sn te mo ue (by omega) (by omega) (by first | (rw [show (W0.toInt - sn).toNat = j by omega]; exact hc) | exact cpr_big hc c144 hjw | (have y : u = 0 := (by omega); rw [y] at hc ⊢; exact cpr_zero hc)) (hf) (hneg) _ _ _ hP hD hS (lv_sub hl [0, 1, 2, 3, 4] (rfl))
      · skip
        rw [lN_T (by omega)] at c128
        refine lv_lload hx hb d_M_rounded_131 (lv_at hl 2 rfl) ?_
        refine lv_lconst (v := lN 0) hx hb d_M_rounded_133 (by decide) ?_
        refine yl_le (a := u) (b := 0) (tgt := 164) hx hb d_M_rounded_134 d_M_rounded_135 (by decide) (by omega) (by omega) (fun c135 => ?_) (fun c135 => ?_)
        · skip
          exact J164 u sn te mo ue (by omega) (by omega) (by first | (rw [show (W0.toInt - sn).toNat = j by omega]; exact hc) | exact cpr_big hc c144 hjw | (have y : u = 0 := (by omega); rw [y] at hc ⊢; exact cpr_zero hc)) (hf) (hneg) _ _ _ hP hD hS (lv_sub hl [0, 1, 2, 3, 4] (rfl))
        · skip
          refine lv_lload hx hb d_M_rounded_138 (lv_at hl 2 rfl) ?_
          refine lv_ldc2 (v := lN 100000000000) hx hb hown (hg _ tk_876) d_M_rounded_140 ?_
          refine yl_gt (a := u) (b := 100000000000) (tgt := 164) hx hb d_M_rounded_143 d_M_rounded_144 (by decide) (by omega) (by omega) (fun c144 => ?_) (fun c144 => ?_)
          · skip
            exact J164 u sn te mo ue (by omega) (by omega) (by first | (rw [show (W0.toInt - sn).toNat = j by omega]; exact hc) | exact cpr_big hc c144 hjw | (have y : u = 0 := (by omega); rw [y] at hc ⊢; exact cpr_zero hc)) (hf) (hneg) _ _ _ hP hD hS (lv_sub hl [0, 1, 2, 3, 4] (rfl))
          · skip
            refine lv_ldc2 (v := lN 10) hx hb hown (hg _ tk_870) d_M_rounded_147 ?_
            refine lv_lload hx hb d_M_rounded_150 (lv_at hl 2 rfl) ?_
            refine lv_lmul hx hb d_M_rounded_152 ?_
            refine y_eql (lN_mul _ _) ?_
            refine lv_lstore (lv' := [(5, .long (lN (10 * u))), (0, .ref (h 0)), (3, .long W0), (7, .int (nI te)), (8, .int (bz mo)), (9, .long (lN (sn + j)))]) hx hb d_M_rounded_153 hl (by decide) rfl (fun ls hl => ?_)
            refine lv_lload hx hb d_M_rounded_155 (lv_at hl 5 rfl) ?_
            refine lv_lconst (v := lN 1) hx hb d_M_rounded_157 (by decide) ?_
            refine lv_ladd hx hb d_M_rounded_158 ?_
            refine y_eql (lN_add _ _) ?_
            refine lv_lstore (lv' := [(9, .long (lN ((sn + j) + 1))), (5, .long (lN (10 * u))), (0, .ref (h 0)), (3, .long W0), (7, .int (nI te)), (8, .int (bz mo))]) hx hb d_M_rounded_159 hl (by decide) rfl (fun ls hl => ?_)
            refine lv_goto (tgt := 124) hx hb d_M_rounded_161 (by decide) ?_
            exact ih9 (j + 1) (10 * u) sn te mo ue (by omega) (by omega) (by omega) (by omega) (by omega) (by have := cpr_st2 0 hc; unfold tgU at this; rw [if_neg (by omega)] at this; rwa [show 10 * (ue * 10 ^ j) + 0 = ue * 10 ^ (j + 1) by rw [Nat.pow_succ, Nat.add_zero, Nat.mul_comm 10, Nat.mul_assoc]] at this) (by omega) (hf) (hneg) _ _ _ hP hD hS (lv_sub hl [2, 3, 1, 4, 5, 0] (rfl))
  have J15 : ∀ (n9 : Nat) (i : Nat) (u : Nat) (sn : Nat) (te : Nat) (mo : Bool) (ue : Nat) (hm9 : b - i < n9) (hi1 : a ≤ i) (hi2 : i ≤ b) (hsn : sn ≤ i - a) (hte : te ≤ 9) (hu : u ≤ 1000000000009) (hc : cpr 100000000000 ue u) (hf : exF t W0.toInt (b - a) a 0 0 0 false = exF t W0.toInt (b - i) i ue sn te mo) (hneg : W0.toInt < 0 → ue = 0 ∧ te = 0) (H : Heap) (locs : List Loc) (ls : Array Slot), va_P (gD G) vwC (wMR G h dg mp ml th n t pl pn xy pt sz rs ou wr sl p fk fp va oa oc ok xs ys) H → va_D A (wMR G h dg mp ml th n t pl pn xy pt sz rs ou wr sl p fk fp va oa oc ok xs ys) → va_S A sx.heap H locs → lv_has ls 13 [(0, .ref (h 0)), (1, .int (nI a)), (2, .int (nI b)), (3, .long W0), (5, .long (lN u)), (7, .int (nI te)), (8, .int (bz mo)), (9, .long (lN sn)), (11, .int (nI i))] → W pg l ev (yR 0 0) sx mm ([.ref (h 0), .int (nI a), .int (nI b), .long W0] : List Value).toArray bl mt cd H locs 0 0 (yMQ bl G A (wMR G h dg mp ml th n t pl pn xy pt sz rs ou wr sl p fk fp va oa oc ok xs ys).length (fun v w => ∃ r, v = some (.long (lN r)) ∧ cpr 1000000000 (exR t a b W0.toInt) r ∧ r < 2 ^ 42 ∧ w = wMR G h dg mp ml th n t pl pn xy pt sz rs ou wr sl p fk fp va oa oc ok xs ys) (fun _ _ => False) ([.ref (h 0), .int (nI a), .int (nI b), .long W0] : List Value).toArray sx) (F0 mm 15 ls []) := by
    intro n9
    induction n9 with
    | zero => intro i u sn te mo ue hm9; exact absurd hm9 (Nat.not_lt_zero _)
    | succ n9 ih9 =>
      intro i u sn te mo ue hm9 hi1 hi2 hsn hte hu hc hf hneg H locs ls hP hD hS hl
      refine lv_iload hx hb d_M_rounded_15 (lv_at hl 8 rfl) ?_
      refine lv_iload_n hx hb d_M_rounded_17 rfl (lv_at hl 2 rfl) ?_
      refine yn_icmp_ge (a := i) (b := b) (tgt := 124) hx hb d_M_rounded_18 (by decide) (by omega) (by omega) (fun c18 => ?_) (fun c18 => ?_)
      · skip
        exact J124 _ 0 u sn te mo ue (Nat.lt_succ_self _) (by omega) (by omega) (by omega) (by omega) (by rw [Nat.pow_zero, Nat.mul_one]; exact hc) (Nat.zero_le _) (hf.trans (exF_done c18)) (hneg) _ _ _ hP hD hS (lv_sub hl [0, 3, 4, 5, 6, 7] (rfl))
      · skip
        have hti := ht i
        refine lv_aload_n hx hb d_M_rounded_21 rfl (lv_at hl 0 rfl) ?_
        refine va_get (D := gD G) (ci := 5) (v := .ref (h 3)) (C := "WordShapesModel") (T := TM) (N := 24) hx hb hg iw_M hown hK hP 0 rfl rfl 7 (by decide) (hg _ tk_690) (fun _ h9 => h9) rfl d_M_rounded_22 ?_
        refine lv_iload hx hb d_M_rounded_25 (lv_at hl 8 rfl) ?_
        refine yn_iald hx hb hK hP 3 0 rfl rfl (j := i) (x := nI (t i)) (rfl) (by omega) (by omega) d_M_rounded_27 ?_
        refine lv_bipush (v := nI 46) hx hb d_M_rounded_28 (by decide) ?_
        refine yn_icmp_eq (a := t i) (b := 46) (tgt := 118) hx hb d_M_rounded_30 (by decide) (by omega) (by omega) (fun c30 => ?_) (fun c30 => ?_)
        · skip
          refine lv_iinc (v := nI (i + 1)) (lv' := [(11, .int (nI (i + 1))), (0, .ref (h 0)), (1, .int (nI a)), (2, .int (nI b)), (3, .long W0), (5, .long (lN u)), (7, .int (nI te)), (8, .int (bz mo)), (9, .long (lN sn))]) hx hb d_M_rounded_118 hl (k := 8) rfl (y_inc _) (by decide) rfl (fun ls hl => ?_)
          refine lv_goto (tgt := 15) hx hb d_M_rounded_121 (by decide) ?_
          exact ih9 (i + 1) u sn te mo ue (by omega) (by omega) (by omega) (by omega) (by omega) (by omega) (hc) (hf.trans (exF_skip (a := a) c18 (by rw [c30]; decide))) (hneg) _ _ _ hP hD hS (lv_sub hl [1, 2, 3, 4, 5, 6, 7, 8, 0] (rfl))
        · skip
          have hdi : diN (t i) = true := (hdig i hi1 c18).resolve_left c30
          have h48 := di_lo hdi
          refine lv_aload_n hx hb d_M_rounded_33 rfl (lv_at hl 0 rfl) ?_
          refine va_get (D := gD G) (ci := 5) (v := .ref (h 3)) (C := "WordShapesModel") (T := TM) (N := 24) hx hb hg iw_M hown hK hP 0 rfl rfl 7 (by decide) (hg _ tk_690) (fun _ h9 => h9) rfl d_M_rounded_34 ?_
          refine lv_iload hx hb d_M_rounded_37 (lv_at hl 8 rfl) ?_
          refine yn_iald hx hb hK hP 3 0 rfl rfl (j := i) (x := nI (t i)) (rfl) (by omega) (by omega) d_M_rounded_39 ?_
          refine lv_bipush (v := nI 48) hx hb d_M_rounded_40 (by decide) ?_
          refine lv_isub hx hb d_M_rounded_42 ?_
          refine y_eqi (y := nI (t i - 48)) (pk_sub (by omega)) ?_
          refine lv_istore (lv' := [(12, .int (nI (t i - 48))), (0, .ref (h 0)), (1, .int (nI a)), (2, .int (nI b)), (3, .long W0), (5, .long (lN u)), (7, .int (nI te)), (8, .int (bz mo)), (9, .long (lN sn)), (11, .int (nI i))]) hx hb d_M_rounded_43 hl (by decide) rfl (fun ls hl => ?_)
          refine lv_lload hx hb d_M_rounded_45 (lv_at hl 8 rfl) ?_
          refine lv_lload_n hx hb d_M_rounded_47 rfl (lv_at hl 4 rfl) ?_
          refine yq_ge (a := lN sn) (b := W0) (tgt := 81) hx hb d_M_rounded_48 d_M_rounded_49 (by decide) (fun c49 => ?_) (fun c49 => ?_)
          · skip
            rw [lN_T (by omega)] at c49
            refine lv_lload hx hb d_M_rounded_81 (lv_at hl 8 rfl) ?_
            refine lv_lload_n hx hb d_M_rounded_83 rfl (lv_at hl 4 rfl) ?_
            refine yq_ne (a := lN sn) (b := W0) (tgt := 95) hx hb d_M_rounded_84 d_M_rounded_85 (by decide) (fun c85 => ?_) (fun c85 => ?_)
            · skip
              rw [lN_T (by omega)] at c85
              refine lv_iload hx hb d_M_rounded_95 (lv_at hl 7 rfl) ?_
              refine yy_if_ne (P := mo) (tgt := 105) hx hb d_M_rounded_97 (by decide) (fun c97 => ?_) (fun c97 => ?_)
              · skip
                refine lv_iconst (v := nI 1) hx hb d_M_rounded_105 (by decide) ?_
                refine lv_goto (tgt := 110) hx hb d_M_rounded_106 (by decide) ?_
                refine lv_istore (lv' := [(8, .int (nI 1)), (12, .int (nI (t i - 48))), (0, .ref (h 0)), (1, .int (nI a)), (2, .int (nI b)), (3, .long W0), (5, .long (lN u)), (7, .int (nI te)), (9, .long (lN sn)), (11, .int (nI i))]) hx hb d_M_rounded_110 hl (by decide) rfl (fun ls hl => ?_)
                refine lv_lload hx hb d_M_rounded_112 (lv_at hl 8 rfl) ?_
                refine lv_lconst (v := lN 1) hx hb d_M_rounded_114 (by decide) ?_
                refine lv_ladd hx hb d_M_rounded_115 ?_
                refine y_eql (lN_add _ _) ?_
                refine lv_lstore (lv' := [(9, .long (lN (sn + 1))), (8, .int (nI 1)), (12, .int (nI (t i - 48))), (0, .ref (h 0)), (1, .int (nI a)), (2, .int (nI b)), (3, .long W0), (5, .long (lN u)), (7, .int (nI te)), (11, .int (nI i))]) hx hb d_M_rounded_116 hl (by decide) rfl (fun ls hl => ?_)
                refine lv_iinc (v := nI (i + 1)) (lv' := [(11, .int (nI (i + 1))), (9, .long (lN (sn + 1))), (8, .int (nI 1)), (12, .int (nI (t i - 48))), (0, .ref (h 0)), (1, .int (nI a)), (2, .int (nI b)), (3, .long W0), (5, .long (lN u)), (7, .int (nI te))]) hx hb d_M_rounded_118 hl (k := 9) rfl (y_inc _) (by decide) rfl (fun ls hl => ?_)
                refine lv_goto (tgt := 15) hx hb d_M_rounded_121 (by decide) ?_
                exact ih9 (i + 1) u (sn + 1) te true ue (by omega) (by omega) (by omega) (by omega) (by omega) (by omega) (hc) (hf.trans ((exF_gt c18 hdi (by omega)).trans (by first | (rw [c97, Bool.true_or]) | (rw [c97, decide_eq_true (show t i ≠ 48 by omega)]; rfl) | (rw [c97, decide_eq_false (show ¬ t i ≠ 48 by omega)]; rfl)))) (hneg) _ _ _ hP hD hS (lv_sub hl [4, 5, 6, 7, 8, 9, 2, 1, 0] (rfl))
              · skip
                refine lv_iload hx hb d_M_rounded_100 (lv_at hl 0 rfl) ?_
                refine yn_if_le (a := t i - 48) (tgt := 109) hx hb d_M_rounded_102 (by decide) (by omega) (fun c102 => ?_) (fun c102 => ?_)
                · skip
                  refine lv_iconst (v := nI 0) hx hb d_M_rounded_109 (by decide) ?_
                  refine lv_istore (lv' := [(8, .int (nI 0)), (12, .int (nI (t i - 48))), (0, .ref (h 0)), (1, .int (nI a)), (2, .int (nI b)), (3, .long W0), (5, .long (lN u)), (7, .int (nI te)), (9, .long (lN sn)), (11, .int (nI i))]) hx hb d_M_rounded_110 hl (by decide) rfl (fun ls hl => ?_)
                  refine lv_lload hx hb d_M_rounded_112 (lv_at hl 8 rfl) ?_
                  refine lv_lconst (v := lN 1) hx hb d_M_rounded_114 (by decide) ?_
                  refine lv_ladd hx hb d_M_rounded_115 ?_
                  refine y_eql (lN_add _ _) ?_
                  refine lv_lstore (lv' := [(9, .long (lN (sn + 1))), (8, .int (nI 0)), (12, .int (nI (t i - 48))), (0, .ref (h 0)), (1, .int (nI a)), (2, .int (nI b)), (3, .long W0), (5, .long (lN u)), (7, .int (nI te)), (11, .int (nI i))]) hx hb d_M_rounded_116 hl (by decide) rfl (fun ls hl => ?_)
                  refine lv_iinc (v := nI (i + 1)) (lv' := [(11, .int (nI (i + 1))), (9, .long (lN (sn + 1))), (8, .int (nI 0)), (12, .int (nI (t i - 48))), (0, .ref (h 0)), (1, .int (nI a)), (2, .int (nI b)), (3, .long W0), (5, .long (lN u)), (7, .int (nI te))]) hx hb d_M_rounded_118 hl (k := 9) rfl (y_inc _) (by decide) rfl (fun ls hl => ?_)
                  refine lv_goto (tgt := 15) hx hb d_M_rounded_121 (by decide) ?_
                  exact ih9 (i + 1) u (sn + 1) te false ue (by omega) (by omega) (by omega) (by omega) (by omega) (by omega) (hc) (hf.trans ((exF_gt c18 hdi (by omega)).trans (by first | (rw [c97, Bool.true_or]) | (rw [c97, decide_eq_true (show t i ≠ 48 by omega)]; rfl) | (rw [c97, decide_eq_false (show ¬ t i ≠ 48 by omega)]; rfl)))) (hneg) _ _ _ hP hD hS (lv_sub hl [4, 5, 6, 7, 8, 9, 2, 1, 0] (rfl))
                · skip
                  refine lv_iconst (v := nI 1) hx hb d_M_rounded_105 (by decide) ?_
                  refine lv_goto (tgt := 110) hx hb d_M_rounded_106 (by decide) ?_
                  refine lv_istore (lv' := [(8, .int (nI 1)), (12, .int (nI (t i - 48))), (0, .ref (h 0)), (1, .int (nI a)), (2, .int (nI b)), (3, .long W0), (5, .long (lN u)), (7, .int (nI te)), (9, .long (lN sn)), (11, .int (nI i))]) hx hb d_M_rounded_110 hl (by decide) rfl (fun ls hl => ?_)
                  refine lv_lload hx hb d_M_rounded_112 (lv_at hl 8 rfl) ?_
                  refine lv_lconst (v := lN 1) hx hb d_M_rounded_114 (by decide) ?_
                  refine lv_ladd hx hb d_M_rounded_115 ?_
                  refine y_eql (lN_add _ _) ?_
                  refine lv_lstore (lv' := [(9, .long (lN (sn + 1))), (8, .int (nI 1)), (12, .int (nI (t i - 48))), (0, .ref (h 0)), (1, .int (nI a)), (2, .int (nI b)), (3, .long W0), (5, .long (lN u)), (7, .int (nI te)), (11, .int (nI i))]) hx hb d_M_rounded_116 hl (by decide) rfl (fun ls hl => ?_)
                  refine lv_iinc (v := nI (i + 1)) (lv' := [(11, .int (nI (i + 1))), (9, .long (lN (sn + 1))), (8, .int (nI 1)), (12, .int (nI (t i - 48))), (0, .ref (h 0)), (1, .int (nI a)), (2, .int (nI b)), (3, .long W0), (5, .long (lN u)), (7, .int (nI te))]) hx hb d_M_rounded_118 hl (k := 9) rfl (y_inc _) (by decide) rfl (fun ls hl => ?_)
                  refine lv_goto (tgt := 15) hx hb d_M_rounded_121 (by decide) ?_
                  exact ih9 (i + 1) u (sn + 1) te true ue (by omega) (by omega) (by omega) (by omega) (by omega) (by omega) (hc) (hf.trans ((exF_gt c18 hdi (by omega)).trans (by first | (rw [c97, Bool.true_or]) | (rw [c97, decide_eq_true (show t i ≠ 48 by omega)]; rfl) | (rw [c97, decide_eq_false (show ¬ t i ≠ 48 by omega)]; rfl)))) (hneg) _ _ _ hP hD hS (lv_sub hl [4, 5, 6, 7, 8, 9, 2, 1, 0] (rfl))
            · skip
              rw [lN_T (by omega)] at c85
              refine lv_iload hx hb d_M_rounded_88 (lv_at hl 0 rfl) ?_
              refine lv_istore (lv' := [(7, .int (nI (t i - 48))), (12, .int (nI (t i - 48))), (0, .ref (h 0)), (1, .int (nI a)), (2, .int (nI b)), (3, .long W0), (5, .long (lN u)), (8, .int (bz mo)), (9, .long (lN sn)), (11, .int (nI i))]) hx hb d_M_rounded_90 hl (by decide) rfl (fun ls hl => ?_)
              refine lv_goto (tgt := 112) hx hb d_M_rounded_92 (by decide) ?_
              refine lv_lload hx hb d_M_rounded_112 (lv_at hl 8 rfl) ?_
              refine lv_lconst (v := lN 1) hx hb d_M_rounded_114 (by decide) ?_
              refine lv_ladd hx hb d_M_rounded_115 ?_
              refine y_eql (lN_add _ _) ?_
              refine lv_lstore (lv' := [(9, .long (lN (sn + 1))), (7, .int (nI (t i - 48))), (12, .int (nI (t i - 48))), (0, .ref (h 0)), (1, .int (nI a)), (2, .int (nI b)), (3, .long W0), (5, .long (lN u)), (8, .int (bz mo)), (11, .int (nI i))]) hx hb d_M_rounded_116 hl (by decide) rfl (fun ls hl => ?_)
              refine lv_iinc (v := nI (i + 1)) (lv' := [(11, .int (nI (i + 1))), (9, .long (lN (sn + 1))), (7, .int (nI (t i - 48))), (12, .int (nI (t i - 48))), (0, .ref (h 0)), (1, .int (nI a)), (2, .int (nI b)), (3, .long W0), (5, .long (lN u)), (8, .int (bz mo))]) hx hb d_M_rounded_118 hl (k := 9) rfl (y_inc _) (by decide) rfl (fun ls hl => ?_)
              refine lv_goto (tgt := 15) hx hb d_M_rounded_121 (by decide) ?_
              exact ih9 (i + 1) u (sn + 1) (t i - 48) mo ue (by omega) (by omega) (by omega) (by omega) (by omega) (by omega) (hc) (hf.trans (exF_eq c18 hdi (by omega))) (fun y => absurd y (by omega)) _ _ _ hP hD hS (lv_sub hl [4, 5, 6, 7, 8, 2, 9, 1, 0] (rfl))
          · skip
            rw [lN_T (by omega)] at c49
            refine lv_lload hx hb d_M_rounded_52 (lv_at hl 5 rfl) ?_
            refine lv_ldc2 (v := lN 100000000000) hx hb hown (hg _ tk_876) d_M_rounded_54 ?_
            refine yl_le (a := u) (b := 100000000000) (tgt := 66) hx hb d_M_rounded_57 d_M_rounded_58 (by decide) (by omega) (by omega) (fun c58 => ?_) (fun c58 => ?_)
            · skip
              refine lv_ldc2 (v := lN 10) hx hb hown (hg _ tk_870) d_M_rounded_66 ?_
              refine lv_lload hx hb d_M_rounded_69 (lv_at hl 5 rfl) ?_
              refine lv_lmul hx hb d_M_rounded_71 ?_
              refine y_eql (lN_mul _ _) ?_
              refine lv_iload hx hb d_M_rounded_72 (lv_at hl 0 rfl) ?_
              refine lv_i2l hx hb d_M_rounded_74 (v := (nI (t i - 48)).toInt64) rfl ?_
              refine y_eql (y := lN (t i - 48)) (i2lN (by have := ht i; omega)) ?_
              refine lv_ladd hx hb d_M_rounded_75 ?_
              refine y_eql (lN_add _ _) ?_
              refine lv_lstore (lv' := [(5, .long (lN ((10 * u) + (t i - 48)))), (12, .int (nI (t i - 48))), (0, .ref (h 0)), (1, .int (nI a)), (2, .int (nI b)), (3, .long W0), (7, .int (nI te)), (8, .int (bz mo)), (9, .long (lN sn)), (11, .int (nI i))]) hx hb d_M_rounded_76 hl (by decide) rfl (fun ls hl => ?_)
              refine lv_goto (tgt := 112) hx hb d_M_rounded_78 (by decide) ?_
              refine lv_lload hx hb d_M_rounded_112 (lv_at hl 8 rfl) ?_
              refine lv_lconst (v := lN 1) hx hb d_M_rounded_114 (by decide) ?_
              refine lv_ladd hx hb d_M_rounded_115 ?_
              refine y_eql (lN_add _ _) ?_
              refine lv_lstore (lv' := [(9, .long (lN (sn + 1))), (5, .long (lN ((10 * u) + (t i - 48)))), (12, .int (nI (t i - 48))), (0, .ref (h 0)), (1, .int (nI a)), (2, .int (nI b)), (3, .long W0), (7, .int (nI te)), (8, .int (bz mo)), (11, .int (nI i))]) hx hb d_M_rounded_116 hl (by decide) rfl (fun ls hl => ?_)
              refine lv_iinc (v := nI (i + 1)) (lv' := [(11, .int (nI (i + 1))), (9, .long (lN (sn + 1))), (5, .long (lN ((10 * u) + (t i - 48)))), (12, .int (nI (t i - 48))), (0, .ref (h 0)), (1, .int (nI a)), (2, .int (nI b)), (3, .long W0), (7, .int (nI te)), (8, .int (bz mo))]) hx hb d_M_rounded_118 hl (k := 9) rfl (y_inc _) (by decide) rfl (fun ls hl => ?_)
              refine lv_goto (tgt := 15) hx hb d_M_rounded_121 (by decide) ?_
              exact ih9 (i + 1) ((10 * u) + (t i - 48)) (sn + 1) te mo (10 * ue + (t i - 48)) (by omega) (by omega) (by omega) (by omega) (by omega) (by omega) (by have := cpr_st2 (t i - 48) hc; unfold tgU at this; first | (rw [if_pos c58] at this; exact this) | (rw [if_neg (by omega)] at this; exact this)) (hf.trans (exF_lt c18 hdi (by omega))) (fun y => absurd y (by omega)) _ _ _ hP hD hS (lv_sub hl [4, 5, 6, 7, 2, 8, 9, 1, 0] (rfl))
            · skip
              refine lv_lload hx hb d_M_rounded_61 (lv_at hl 5 rfl) ?_
              refine lv_goto (tgt := 76) hx hb d_M_rounded_63 (by decide) ?_
              refine lv_lstore (lv' := [(5, .long (lN u)), (12, .int (nI (t i - 48))), (0, .ref (h 0)), (1, .int (nI a)), (2, .int (nI b)), (3, .long W0), (7, .int (nI te)), (8, .int (bz mo)), (9, .long (lN sn)), (11, .int (nI i))]) hx hb d_M_rounded_76 hl (by decide) rfl (fun ls hl => ?_)
              refine lv_goto (tgt := 112) hx hb d_M_rounded_78 (by decide) ?_
              refine lv_lload hx hb d_M_rounded_112 (lv_at hl 8 rfl) ?_
              refine lv_lconst (v := lN 1) hx hb d_M_rounded_114 (by decide) ?_
              refine lv_ladd hx hb d_M_rounded_115 ?_
              refine y_eql (lN_add _ _) ?_
              refine lv_lstore (lv' := [(9, .long (lN (sn + 1))), (5, .long (lN u)), (12, .int (nI (t i - 48))), (0, .ref (h 0)), (1, .int (nI a)), (2, .int (nI b)), (3, .long W0), (7, .int (nI te)), (8, .int (bz mo)), (11, .int (nI i))]) hx hb d_M_rounded_116 hl (by decide) rfl (fun ls hl => ?_)
              refine lv_iinc (v := nI (i + 1)) (lv' := [(11, .int (nI (i + 1))), (9, .long (lN (sn + 1))), (5, .long (lN u)), (12, .int (nI (t i - 48))), (0, .ref (h 0)), (1, .int (nI a)), (2, .int (nI b)), (3, .long W0), (7, .int (nI te)), (8, .int (bz mo))]) hx hb d_M_rounded_118 hl (k := 9) rfl (y_inc _) (by decide) rfl (fun ls hl => ?_)
              refine lv_goto (tgt := 15) hx hb d_M_rounded_121 (by decide) ?_
              exact ih9 (i + 1) u (sn + 1) te mo (10 * ue + (t i - 48)) (by omega) (by omega) (by omega) (by omega) (by omega) (by omega) (by have := cpr_st2 (t i - 48) hc; unfold tgU at this; first | (rw [if_pos c58] at this; exact this) | (rw [if_neg (by omega)] at this; exact this)) (hf.trans (exF_lt c18 hdi (by omega))) (fun y => absurd y (by omega)) _ _ _ hP hD hS (lv_sub hl [4, 5, 6, 7, 2, 8, 9, 1, 0] (rfl))
  refine lv_lconst (v := lN 0) hx hb d_M_rounded_0 (by decide) ?_
  refine lv_lstore (lv' := [(5, .long (lN 0)), (0, .ref (h 0)), (1, .int (nI a)), (2, .int (nI b)), (3, .long W0)]) hx hb d_M_rounded_1 hl (by decide) rfl (fun ls hl => ?_)
  refine lv_iconst (v := nI 0) hx hb d_M_rounded_3 (by decide) ?_
  refine lv_istore (lv' := [(7, .int (nI 0)), (5, .long (lN 0)), (0, .ref (h 0)), (1, .int (nI a)), (2, .int (nI b)), (3, .long W0)]) hx hb d_M_rounded_4 hl (by decide) rfl (fun ls hl => ?_)
  refine lv_iconst (v := nI 0) hx hb d_M_rounded_6 (by decide) ?_
  refine lv_istore (lv' := [(8, .int (nI 0)), (7, .int (nI 0)), (5, .long (lN 0)), (0, .ref (h 0)), (1, .int (nI a)), (2, .int (nI b)), (3, .long W0)]) hx hb d_M_rounded_7 hl (by decide) rfl (fun ls hl => ?_)
  refine lv_lconst (v := lN 0) hx hb d_M_rounded_9 (by decide) ?_
  refine lv_lstore (lv' := [(9, .long (lN 0)), (8, .int (nI 0)), (7, .int (nI 0)), (5, .long (lN 0)), (0, .ref (h 0)), (1, .int (nI a)), (2, .int (nI b)), (3, .long W0)]) hx hb d_M_rounded_10 hl (by decide) rfl (fun ls hl => ?_)
  refine lv_iload_n hx hb d_M_rounded_12 rfl (lv_at hl 5 rfl) ?_
  refine lv_istore (lv' := [(11, .int (nI a)), (9, .long (lN 0)), (8, .int (nI 0)), (7, .int (nI 0)), (5, .long (lN 0)), (0, .ref (h 0)), (1, .int (nI a)), (2, .int (nI b)), (3, .long W0)]) hx hb d_M_rounded_13 hl (by decide) rfl (fun ls hl => ?_)
  exact J15 _ a 0 0 0 false 0 (Nat.lt_succ_self _) (by omega) (by omega) (by omega) (by omega) (by omega) (⟨fun _ => rfl, fun h => h⟩) (rfl) (fun _ => ⟨rfl, rfl⟩) _ _ _ hP hD hS (lv_sub hl [5, 6, 7, 8, 4, 3, 2, 1, 0] (rfl))
