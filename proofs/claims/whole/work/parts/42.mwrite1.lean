/-! the reference's writing: what was put, and its decimals -/
theorem wrB_put {ou : Nat → Nat} {os : List Nat} (c : Nat) (h : os.length < 131072) : va_up (wrB ou os) os.length c = wrB ou (os ++ [c]) := by
  funext j
  unfold va_up wrB
  rw [List.length_append, List.length_singleton]
  by_cases q : j = os.length
  · subst q
    rw [if_pos rfl, if_pos ⟨by omega, h⟩]
    simp [List.getD_eq_getElem?_getD]
  · rw [if_neg q]
    by_cases q2 : j < os.length
    · rw [if_pos ⟨q2, by omega⟩, if_pos ⟨by omega, by omega⟩]
      simp [List.getD_eq_getElem?_getD, List.getElem?_append_left q2]
    · rw [if_neg (fun z => q2 z.1), if_neg (fun z => by omega)]
theorem wrB_big {ou : Nat → Nat} {os : List Nat} (c : Nat) (h : 131072 ≤ os.length) : wrB ou (os ++ [c]) = wrB ou os := by
  funext j
  unfold wrB
  rw [List.length_append, List.length_singleton]
  by_cases q : j < os.length ∧ j < 131072
  · rw [if_pos q, if_pos ⟨by omega, q.2⟩]
    simp [List.getD_eq_getElem?_getD, List.getElem?_append_left q.1]
  · rw [if_neg q, if_neg (fun z => q ⟨by omega, z.2⟩)]
abbrev wMW (G : gl) (h : Nat → Nat) (dg mp ml th n : Nat) (t : Nat → Nat) (pl : Nat → Int32) (pn : Nat → Nat) (xy : Nat → Int32) (pt : Nat → Nat) (sz : Nat) (rs ou : Nat → Nat) (sl p fk fp : Nat) (va : Int32) (oa oc ok : Nat → Int32) (os : List Nat) : va_W :=
  wM G h dg mp ml th n t pl pn xy pt sz rs (wrB ou os) os.length sl p fk fp va oa oc ok
def pw : Nat → Nat
  | 0 => 0
  | j + 1 => 10 ^ j
theorem pw_10 (j : Nat) : pw (j + 1) / 10 = pw j := by
  cases j with
  | zero => rfl
  | succ j =>
    show 10 ^ (j + 1) / 10 = 10 ^ j
    rw [Nat.pow_succ, Nat.mul_div_cancel _ (by decide)]
theorem p10 (j : Nat) : 1 ≤ 10 ^ j := Nat.pow_le_pow_right (n := 10) (i := 0) (by decide) (Nat.zero_le j)
theorem pw_0 (j : Nat) : 0 < pw j ↔ 0 < j := by
  cases j with
  | zero => exact Iff.rfl
  | succ j => exact ⟨fun _ => Nat.succ_pos _, fun _ => p10 j⟩
theorem wh_dig (a dg i : Nat) : a / 10 ^ dg / 10 ^ i = a / 10 ^ (dg + i) := by rw [Nat.div_div_eq_div_mul, ← Nat.pow_add]
theorem nmA_dg {a dg : Nat} (h : dg ≤ 3) : nmA a dg 12 0 = nmA a dg (12 - (dg + 1)) (dg + 1) := by
  have g : ∀ u, u ≤ dg + 1 → nmA a dg 12 0 = nmA a dg (12 - u) u := by
    intro u
    induction u with
    | zero => intro _; rfl
    | succ u ih => intro hu; rw [ih (by omega)]; exact nmA_s (by omega) (Or.inl (by omega))
  exact g _ (Nat.le_refl _)
theorem lw_s (a : Nat) : ∀ m l, a % 10 ^ l = 0 → l ≤ lwA a m l ∧ lwA a m l ≤ l + m ∧ a % 10 ^ lwA a m l = 0 ∧ (lwA a m l < l + m → ¬ a / 10 ^ lwA a m l % 10 = 0)
  | 0, l, h => ⟨Nat.le_refl _, Nat.le_refl _, h, fun z => absurd z (Nat.lt_irrefl _)⟩
  | m + 1, l, h => by
    unfold lwA
    by_cases q : a / 10 ^ l % 10 = 0
    · rw [if_pos q]
      have h2 : a % 10 ^ (l + 1) = 0 := by rw [Nat.pow_succ, Nat.mod_mul, h, q]; rfl
      have h3 := lw_s a m (l + 1) h2
      exact ⟨by omega, by omega, h3.2.2.1, fun z => h3.2.2.2 (by omega)⟩
    · rw [if_neg q]
      exact ⟨Nat.le_refl _, by omega, h, fun _ => q⟩
theorem lw_p (a dg i : Nat) (hi : i ≤ dg) : a % 10 ^ i = 0 ↔ i ≤ lwA a dg 0 := by
  have h := lw_s a dg 0 (by rw [Nat.pow_zero, Nat.mod_one])
  constructor
  · intro h1
    refine Nat.le_of_not_lt fun q => ?_
    have h2 : a % 10 ^ (lwA a dg 0 + 1) = 0 := Nat.mod_eq_zero_of_dvd (Nat.dvd_trans (Nat.pow_dvd_pow 10 q) (Nat.dvd_of_mod_eq_zero h1))
    rw [Nat.pow_succ, Nat.mod_mul, h.2.2.1, Nat.zero_add] at h2
    have h3 := p10 (lwA a dg 0)
    rcases Nat.mul_eq_zero.mp h2 with z | z
    · omega
    · exact h.2.2.2 (by omega) z
  · intro h1
    exact Nat.mod_eq_zero_of_dvd (Nat.dvd_trans (Nat.pow_dvd_pow 10 h1) (Nat.dvd_of_mod_eq_zero h.2.2.1))
theorem nd_split (a dg lo : Nat) (h : lo ≤ dg) : ∀ j, ndL a dg lo (dg + j) = ndL a dg dg (dg + j) ++ ndL a dg lo dg
  | 0 => by
    rw [Nat.add_zero, ndL_stop (Nat.le_refl dg), List.nil_append]
  | j + 1 => by
    rw [show dg + (j + 1) = (dg + j) + 1 by omega, ndL_go (show lo ≤ dg + j by omega), ndL_go (show dg ≤ dg + j by omega), nd_split a dg lo h j]
    simp only [List.append_assoc]
/-- the decimals behind the dot, from the place i - 1 on, up to the last that is not 0 -/
def frL (a : Nat) : Nat → List Nat
  | 0 => []
  | i + 1 => if a % 10 ^ (i + 1) = 0 then [] else [48 + a / 10 ^ i % 10] ++ frL a i
theorem nd_fr (a dg : Nat) : ∀ i, i < dg → ndL a dg (lwA a dg 0) i = frL a i
  | 0, _ => rfl
  | i + 1, h => by
    have h1 := lw_p a dg (i + 1) (by omega)
    unfold frL
    by_cases q : a % 10 ^ (i + 1) = 0
    · rw [if_pos q, ndL_stop (h1.mp q)]
    · rw [if_neg q, ndL_go (Nat.le_of_not_lt fun z => q (h1.mpr z)), if_neg (by omega), nd_fr a dg i (by omega), List.nil_append]
theorem nd_dot (a dg : Nat) : ndL a dg (lwA a dg 0) dg = if a % 10 ^ dg = 0 then [] else [46] ++ frL a dg := by
  cases dg with
  | zero => rw [if_pos (by rw [Nat.pow_zero, Nat.mod_one])]; rfl
  | succ d =>
    have h1 := lw_p a (d + 1) (d + 1) (Nat.le_refl _)
    unfold frL
    by_cases q : a % 10 ^ (d + 1) = 0
    · rw [if_pos q, ndL_stop (h1.mp q)]
    · rw [if_neg q, if_neg q, ndL_go (Nat.le_of_not_lt fun z => q (h1.mpr z)), if_pos rfl, nd_fr a (d + 1) d (by omega), List.append_assoc]
theorem nm_eq {a dg : Nat} (h : dg ≤ nmA a dg 12 0) : nmL dg a = ndL a dg dg (nmA a dg 12 0) ++ (if a % 10 ^ dg = 0 then [] else [46] ++ frL a dg) := by
  have h1 := lw_s a dg 0 (by rw [Nat.pow_zero, Nat.mod_one])
  unfold nmL
  rw [← nd_dot]
  have := nd_split a dg (lwA a dg 0) (by omega) (nmA a dg 12 0 - dg)
  rw [show dg + (nmA a dg 12 0 - dg) = nmA a dg 12 0 by omega] at this
  exact this
theorem fr_dig (a i : Nat) : a % 10 ^ (i + 1) / 10 ^ i = a / 10 ^ i % 10 := by rw [Nat.pow_succ, Nat.mod_mul_right_div_self]
theorem fr_mod (a i : Nat) : a % 10 ^ (i + 1) % 10 ^ i = a % 10 ^ i := Nat.mod_mod_of_dvd _ (Nat.pow_dvd_pow 10 (Nat.le_succ i))
/-- so many points, one behind the other -/
def ptsL (dg : Nat) (o : Nat → Int32) (py : Nat) : Nat → List Nat
  | 0 => []
  | c + 1 => ptsL dg o py c ++ ((if c = 0 then [] else [44, 32]) ++ ptT dg o (py + c))
