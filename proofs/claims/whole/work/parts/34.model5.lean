/-! reading as the reference does it -/
section MS
variable (t : Nat → Nat) (n dg mp ml : Nat)
def goM (p : Nat) : (Nat × Nat) ⊕ (Bool × Nat) := if hr t n (rn blN t n p) = 44 then .inr (true, rn blN t n p + 1) else if hr t n (rn blN t n p) = 41 then .inr (false, rn blN t n p + 1) else .inl (uxp (hr t n (rn blN t n p)), rn blN t n p)
def cdM (p : Nat) (ys : List (Int32 × Int32)) : (Nat × Nat) ⊕ (Nat × List (Int32 × Int32)) :=
  if ys.length + 1 ≤ mp then match numR t n dg (rn blN t n p) with
    | .inl e => .inl e
    | .inr (q, x) => match numR t n dg (rn blN t n q) with
      | .inl e => .inl e
      | .inr (q2, y) => .inr (q2, ys ++ [(x, y)])
  else .inl (7, rn blN t n p)
def cosM : Nat → Nat → Nat → List (Int32 × Int32) → (Nat × Nat) ⊕ (Nat × Nat × List (Int32 × Int32))
  | 0, _, _, _ => .inl (0, 0)
  | F + 1, p, m, ys => match cdM t n dg mp p ys with
    | .inl e => .inl e
    | .inr (q, ys') => match goM t n q with
      | .inl e => .inl e
      | .inr (true, q2) => cosM F q2 (m + 1) ys'
      | .inr (false, q2) => .inr (q2, m + 1, ys')
/-- a ring -/
def rgM (p : Nat) (xs : List Int32) (ys : List (Int32 × Int32)) : (Nat × Nat) ⊕ (Nat × List Int32 × List (Int32 × Int32)) :=
  if xs.length + 1 ≤ ml then
    if hr t n (rn blN t n p) = 40 then match cosM t n dg mp (n + 1) (rn blN t n p + 1) 0 ys with
      | .inl e => .inl e
      | .inr (q, c, ys') => .inr (q, xs ++ [nI c], ys')
    else .inl (uxp (hr t n (rn blN t n p)), rn blN t n p)
  else .inl (7, rn blN t n p)
def riM : Nat → Nat → Nat → List Int32 → List (Int32 × Int32) → (Nat × Nat) ⊕ (Nat × Nat × List Int32 × List (Int32 × Int32))
  | 0, _, _, _, _ => .inl (0, 0)
  | F + 1, p, m, xs, ys => match rgM t n dg mp ml p xs ys with
    | .inl e => .inl e
    | .inr (q, xs', ys') => match goM t n q with
      | .inl e => .inl e
      | .inr (true, q2) => riM F q2 (m + 1) xs' ys'
      | .inr (false, q2) => .inr (q2, m + 1, xs', ys')
def siM (K p : Nat) (xs : List Int32) (ys : List (Int32 × Int32)) : (Nat × Nat) ⊕ (Nat × Nat × List Int32 × List (Int32 × Int32)) :=
  if K = 3 then riM t n dg mp ml (n + 1) p 0 xs ys
  else if K = 2 then match cosM t n dg mp (n + 1) p 0 ys with
    | .inl e => .inl e
    | .inr (q, m, ys') => .inr (q, m, xs, ys')
  else match cdM t n dg mp p ys with
    | .inl e => .inl e
    | .inr (q, ys') => if hr t n (rn blN t n q) = 41 then .inr (rn blN t n q + 1, 1, xs, ys') else .inl (uxp (hr t n (rn blN t n q)), rn blN t n q)
def lkM (b : Bool) (p : Nat) : (Nat × Nat) ⊕ (Nat × Nat) :=
  if hr t n (rn blN t n p) = 40 then .inr (1, rn blN t n p + 1)
  else if b = true ∧ nuN (hr t n (rn blN t n p)) = true then .inr (2, rn blN t n p)
  else if leN (hr t n (rn blN t n p)) = false then .inl (uxp (hr t n (rn blN t n p)), rn blN t n p)
  else if lsM t (rn blN t n p) (rn leN t n (rn blN t n p)) 8 = 8 then .inr (0, rn leN t n (rn blN t n p)) else .inl (2, rn blN t n p)
/-- a part -/
def paI (K p : Nat) (xs : List Int32) (ys : List (Int32 × Int32)) : (Nat × Nat) ⊕ (Nat × List Int32 × List (Int32 × Int32)) :=
  if xs.length + 2 ≤ ml then match lkM t n (decide (K = 4)) (rn blN t n p) with
    | .inl e => .inl e
    | .inr (v, q) => if v = 0 then .inr (q, (xs ++ [nI (K - 3)] ++ [nI 0]).set (xs.length + 1) (nI 0), ys)
      else if v = 1 then match siM t n dg mp ml (K - 3) q (xs ++ [nI (K - 3)] ++ [nI 0]) ys with
        | .inl e => .inl e
        | .inr (q', c, xs', ys') => .inr (q', xs'.set (xs.length + 1) (nI c), ys')
      else match cdM t n dg mp q ys with
        | .inl e => .inl e
        | .inr (q', ys') => .inr (q', (xs ++ [nI (K - 3)] ++ [nI 0]).set (xs.length + 1) (nI 1), ys')
  else .inl (7, rn blN t n p)
def paM (K : Nat) : Nat → Nat → Nat → List Int32 → List (Int32 × Int32) → (Nat × Nat) ⊕ (Nat × Nat × List Int32 × List (Int32 × Int32))
  | 0, _, _, _, _ => .inl (0, 0)
  | F + 1, p, m, xs, ys => match paI t n dg mp ml K p xs ys with
    | .inl e => .inl e
    | .inr (q, xs', ys') => match goM t n q with
      | .inl e => .inl e
      | .inr (true, q2) => paM K F q2 (m + 1) xs' ys'
      | .inr (false, q2) => .inr (q2, m + 1, xs', ys')
/-- what a shape that has a bracket holds -/
def bdM (k q : Nat) (xs : List Int32) (ys : List (Int32 × Int32)) := if k < 4 then siM t n dg mp ml k q xs ys else paM t n dg mp ml k (n + 1) q 0 xs ys
/-- the kind of a shape: what is wrong -/
def kdM (d p : Nat) : (Nat × Nat) ⊕ Nat :=
  if leN (hr t n p) = false then .inl (uxp (hr t n p), p)
  else if lsM t p (rn leN t n p) 8 = 0 ∨ lsM t p (rn leN t n p) 8 = 8 then .inl (2, p)
  else if lsM t p (rn leN t n p) 8 = 7 ∧ 50 ≤ d then .inl (6, p)
  else .inr (lsM t p (rn leN t n p) 8)
/-- behind a shape's word, which ends at e -/
def shB (k e : Nat) (xs : List Int32) (ys : List (Int32 × Int32)) : (Nat × Nat) ⊕ (Bool × Nat × Nat × List Int32 × List (Int32 × Int32)) :=
  if xs.length + 2 ≤ ml then match lkM t n false (rn blN t n e) with
    | .inl e => .inl e
    | .inr (v, q) => if v = 0 then .inr (false, q, 0, xs ++ [nI k] ++ [nI 0], ys) else if k = 7 then .inr (true, q, xs.length + 1, xs ++ [nI k] ++ [nI 0], ys) else match bdM t n dg mp ml k q (xs ++ [nI k] ++ [nI 0]) ys with
      | .inl e => .inl e
      | .inr (q', c, xs', ys') => .inr (false, q', 0, xs'.set (xs.length + 1) (nI c), ys')
  else .inl (7, rn blN t n e)
def shM (d p : Nat) (xs : List Int32) (ys : List (Int32 × Int32)) : (Nat × Nat) ⊕ (Bool × Nat × Nat × List Int32 × List (Int32 × Int32)) :=
  match kdM t n d (rn blN t n p) with
  | .inl e => .inl e
  | .inr k => shB t n dg mp ml k (rn leN t n (rn blN t n p)) xs ys
def clM (oa : Nat → Int32) : Nat → Nat → List Int32 → (Nat → Int32) → (Nat × Nat) ⊕ (Bool × Nat × Nat × List Int32 × (Nat → Int32))
  | 0, p, xs, oc => .inr (false, 0, p, xs, oc)
  | d + 1, p, xs, oc => match goM t n p with
    | .inl e => .inl e
    | .inr (true, q) => .inr (true, d + 1, q, xs, upd oc d (oc d + nI 1))
    | .inr (false, q) => clM oa d q (xs.set (oa d).toNatClampNeg (oc d + nI 1)) (upd oc d (oc d + nI 1))
def raM : Nat → Nat → Nat → List Int32 → List (Int32 × Int32) → (Nat → Int32) → (Nat → Int32) → (Nat × Nat) ⊕ (Nat × List Int32 × List (Int32 × Int32))
  | 0, _, _, _, _, _, _ => .inl (0, 0)
  | F + 1, d, p, xs, ys, oa, oc => match shM t n dg mp ml d p xs ys with
    | .inl e => .inl e
    | .inr (true, q, w, xs', ys') => raM F (d + 1) q xs' ys' (upd oa d (nI w)) (upd oc d (nI 0))
    | .inr (false, q, _, xs', ys') => match clM t n oa d q xs' oc with
      | .inl e => .inl e
      | .inr (true, d', q2, xs2, oc2) => raM F d' q2 xs2 ys' oa oc2
      | .inr (false, _, q2, xs2, _) => .inr (q2, xs2, ys')
def rdM (oa oc : Nat → Int32) : (Nat × Nat) ⊕ (List Int32 × List (Int32 × Int32)) := match raM t n dg mp ml (n + 1) 0 0 [] [] oa oc with
  | .inl e => .inl e
  | .inr (q, xs, ys) => if rn blN t n q = n then .inr (xs, ys) else .inl (8, rn blN t n q)
end MS
theorem cos_s (t : Nat → Nat) (n dg mp F p m : Nat) (ys : List (Int32 × Int32)) : cosM t n dg mp (F + 1) p m ys = match cdM t n dg mp p ys with
    | .inl e => .inl e
    | .inr (q, ys') => match goM t n q with
      | .inl e => .inl e
      | .inr (true, q2) => cosM t n dg mp F q2 (m + 1) ys'
      | .inr (false, q2) => .inr (q2, m + 1, ys') := rfl
theorem ri_s (t : Nat → Nat) (n dg mp ml F p m : Nat) (xs : List Int32) (ys : List (Int32 × Int32)) : riM t n dg mp ml (F + 1) p m xs ys = match rgM t n dg mp ml p xs ys with
    | .inl e => .inl e
    | .inr (q, xs', ys') => match goM t n q with
      | .inl e => .inl e
      | .inr (true, q2) => riM t n dg mp ml F q2 (m + 1) xs' ys'
      | .inr (false, q2) => .inr (q2, m + 1, xs', ys') := rfl
theorem pa_s (t : Nat → Nat) (n dg mp ml K F p m : Nat) (xs : List Int32) (ys : List (Int32 × Int32)) : paM t n dg mp ml K (F + 1) p m xs ys = match paI t n dg mp ml K p xs ys with
    | .inl e => .inl e
    | .inr (q, xs', ys') => match goM t n q with
      | .inl e => .inl e
      | .inr (true, q2) => paM t n dg mp ml K F q2 (m + 1) xs' ys'
      | .inr (false, q2) => .inr (q2, m + 1, xs', ys') := rfl
section MSl
variable {t : Nat → Nat} {n dg mp ml : Nat} {p q m F K : Nat} {xs xs' : List Int32} {ys ys' : List (Int32 × Int32)} {e : Nat × Nat}
theorem go_44 (h : hr t n (rn blN t n p) = 44) : goM t n p = .inr (true, rn blN t n p + 1) := if_pos h
theorem go_41 (h : hr t n (rn blN t n p) = 41) : goM t n p = .inr (false, rn blN t n p + 1) := by unfold goM; rw [if_neg (by omega), if_pos h]
theorem go_xx (h : ¬ hr t n (rn blN t n p) = 44 ∧ ¬ hr t n (rn blN t n p) = 41) : goM t n p = .inl (uxp (hr t n (rn blN t n p)), rn blN t n p) := by unfold goM; rw [if_neg h.1, if_neg h.2]
theorem goM_bd {b : Bool} (hp : p ≤ n) (h : goM t n p = .inr (b, q)) : p < q ∧ q ≤ n := by
  have b1 := rn_ge (P := blN) (t := t) hp
  unfold goM at h
  split at h
  · next h1 => have := hr_lt h1 (by decide); cases h; omega
  · split at h
    · next h1 => have := hr_lt h1 (by decide); cases h; omega
    · cases h
theorem cd_bd (hp : p ≤ n) (h : cdM t n dg mp p ys = .inr (q, ys')) : p < q ∧ q ≤ n ∧ ys'.length = ys.length + 1 ∧ ys.length + 1 ≤ mp := by
  have b1 := rn_ge (P := blN) (t := t) hp
  have b2 := rn_le (P := blN) (t := t) hp
  unfold cdM at h
  split at h
  · next h0 =>
    cases h1 : numR t n dg (rn blN t n p) with
    | inl e => rw [h1] at h; cases h
    | inr r =>
      obtain ⟨q1, x⟩ := r
      rw [h1] at h
      have b3 := num_bd b2 h1
      have b4 := rn_ge (P := blN) (t := t) b3.2
      have b5 := rn_le (P := blN) (t := t) b3.2
      cases h2 : numR t n dg (rn blN t n q1) with
      | inl e => simp only [h2] at h; cases h
      | inr r =>
        obtain ⟨q2, y⟩ := r
        simp only [h2] at h
        have b6 := num_bd b5 h2
        cases h
        exact ⟨by omega, by omega, by rw [List.length_append, List.length_singleton], h0⟩
  · cases h
theorem cos_bd : ∀ (F p m : Nat) (ys : List (Int32 × Int32)) {q m' : Nat} {ys' : List (Int32 × Int32)}, p ≤ n → ys.length ≤ mp → cosM t n dg mp F p m ys = .inr (q, m', ys') → p < q ∧ q ≤ n ∧ ys.length + 1 ≤ ys'.length ∧ ys'.length ≤ mp ∧ m + 1 ≤ m' ∧ m' ≤ m + (q - p)
  | 0, p, m, ys, q, m', ys', _, _, h => by cases h
  | F + 1, p, m, ys, q, m', ys', hp, hy, h => by
    unfold cosM at h
    cases h1 : cdM t n dg mp p ys with
    | inl e => rw [h1] at h; cases h
    | inr r =>
      obtain ⟨q1, ys1⟩ := r
      rw [h1] at h
      have b1 := cd_bd hp h1
      cases h2 : goM t n q1 with
      | inl e => simp only [h2] at h; cases h
      | inr r =>
        obtain ⟨b, q2⟩ := r
        have b2 := goM_bd b1.2.1 h2
        cases b with
        | true =>
          simp only [h2] at h
          have b3 := cos_bd F q2 (m + 1) ys1 b2.2 (by omega) h
          omega
        | false =>
          simp only [h2] at h
          cases h
          omega
theorem rg_bd (hp : p ≤ n) (hy : ys.length ≤ mp) (h : rgM t n dg mp ml p xs ys = .inr (q, xs', ys')) : p < q ∧ q ≤ n ∧ xs'.length = xs.length + 1 ∧ xs.length + 1 ≤ ml ∧ ys.length ≤ ys'.length ∧ ys'.length ≤ mp := by
  have b1 := rn_ge (P := blN) (t := t) hp
  unfold rgM at h
  split at h
  · next h0 =>
    split at h
    · next h4 =>
      have b2 := hr_lt h4 (by decide)
      cases h1 : cosM t n dg mp (n + 1) (rn blN t n p + 1) 0 ys with
      | inl e => rw [h1] at h; cases h
      | inr r =>
        obtain ⟨q1, c, ys1⟩ := r
        rw [h1] at h
        have b3 := cos_bd _ _ _ _ (show rn blN t n p + 1 ≤ n by omega) hy h1
        cases h
        exact ⟨by omega, by omega, by rw [List.length_append, List.length_singleton], h0, by omega, by omega⟩
    · cases h
  · cases h
theorem ri_bd : ∀ (F p m : Nat) (xs : List Int32) (ys : List (Int32 × Int32)) {q m' : Nat} {xs' : List Int32} {ys' : List (Int32 × Int32)}, p ≤ n → xs.length ≤ ml → ys.length ≤ mp → riM t n dg mp ml F p m xs ys = .inr (q, m', xs', ys') → p < q ∧ q ≤ n ∧ xs.length ≤ xs'.length ∧ xs'.length ≤ ml ∧ ys.length ≤ ys'.length ∧ ys'.length ≤ mp ∧ m + 1 ≤ m' ∧ m' ≤ m + (q - p)
  | 0, p, m, xs, ys, q, m', xs', ys', _, _, _, h => by cases h
  | F + 1, p, m, xs, ys, q, m', xs', ys', hp, hx, hy, h => by
    unfold riM at h
    cases h1 : rgM t n dg mp ml p xs ys with
    | inl e => rw [h1] at h; cases h
    | inr r =>
      obtain ⟨q1, xs1, ys1⟩ := r
      rw [h1] at h
      have b1 := rg_bd hp hy h1
      cases h2 : goM t n q1 with
      | inl e => simp only [h2] at h; cases h
      | inr r =>
        obtain ⟨b, q2⟩ := r
        have b2 := goM_bd b1.2.1 h2
        cases b with
        | true =>
          simp only [h2] at h
          have b3 := ri_bd F q2 (m + 1) xs1 ys1 b2.2 (by omega) (by omega) h
          omega
        | false =>
          simp only [h2] at h
          cases h
          omega
theorem si_bd {m' : Nat} (hp : p ≤ n) (hx : xs.length ≤ ml) (hy : ys.length ≤ mp) (h : siM t n dg mp ml K p xs ys = .inr (q, m', xs', ys')) : p < q ∧ q ≤ n ∧ xs.length ≤ xs'.length ∧ xs'.length ≤ ml ∧ ys.length ≤ ys'.length ∧ ys'.length ≤ mp ∧ 1 ≤ m' ∧ m' ≤ n := by
  unfold siM at h
  split at h
  · have := ri_bd _ _ _ _ _ hp hx hy h; omega
  · split at h
    · cases h1 : cosM t n dg mp (n + 1) p 0 ys with
      | inl e => rw [h1] at h; cases h
      | inr r =>
        obtain ⟨q1, c, ys1⟩ := r
        rw [h1] at h
        have := cos_bd _ _ _ _ hp hy h1
        cases h
        omega
    · cases h1 : cdM t n dg mp p ys with
      | inl e => rw [h1] at h; cases h
      | inr r =>
        obtain ⟨q1, ys1⟩ := r
        rw [h1] at h
        have b1 := cd_bd hp h1
        have b2 := rn_ge (P := blN) (t := t) b1.2.1
        dsimp only at h
        split at h
        · next h4 => have := hr_lt h4 (by decide); cases h; omega
        · cases h
theorem lk_bd {b : Bool} {v : Nat} (hp : p ≤ n) (h : lkM t n b p = .inr (v, q)) : p ≤ q ∧ q ≤ n := by
  have b1 := rn_ge (P := blN) (t := t) hp
  have b2 := rn_le (P := blN) (t := t) hp
  have b3 := rn_ge (P := leN) (t := t) b2
  have b4 := rn_le (P := leN) (t := t) b2
  unfold lkM at h
  split at h
  · next h4 => have := hr_lt h4 (by decide); cases h; omega
  · split at h
    · cases h; omega
    · split at h
      · cases h
      · split at h
        · cases h; omega
        · cases h
end MSl
theorem set_last (xs : List Int32) (a b : Int32) : (xs ++ [a]).set xs.length b = xs ++ [b] := by
  rw [List.set_append_right _ _ (Nat.le_refl _), Nat.sub_self]; rfl
theorem lsM_le (t : Nat → Nat) (a b : Nat) : ∀ w, lsM t a b w ≤ w
  | 0 => Nat.le_refl _
  | w + 1 => by unfold lsM; split; exact Nat.le_refl _; exact Nat.le_succ_of_le (lsM_le t a b w)

set_option maxHeartbeats 4000000 in
set_option maxRecDepth 100000 in
theorem c_M_coordinate (l : Launch) (G : gl) (h : Nat → Nat) (dg : Nat) (mp : Nat) (ml : Nat) (th : Nat) (n : Nat) (t : Nat → Nat) (pl : Nat → Int32) (pn : Nat → Nat) (xy : Nat → Int32) (pt : Nat → Nat) (sz : Nat) (rs : Nat → Nat) (ou : Nat → Nat) (wr : Nat) (sl : Nat) (p : Nat) (fk : Nat) (fp : Nat) (va : Int32) (oa : Nat → Int32) (oc : Nat → Int32) (ok : Nat → Int32) (xs : List Int32) (ys : List (Int32 × Int32))  (hn : n ≤ 65536) (hp : p ≤ n) (ht : ∀ i, t i < 256) (hml : ml ≤ 4096) (hmp : mp ≤ 4096) (hsl : sl < 4) (hxs : xs.length ≤ ml) (hys : ys.length ≤ mp) (hdg : dg ≤ 3) : YC l G y_M_coordinate k_M_coordinate 3 (Option.some FieldType.boolean) 5 113 [.ref (h 0)] (wMR G h dg mp ml th n t pl pn xy pt sz rs ou wr sl p fk fp va oa oc ok xs ys) (fun v w => (∃ q ys9 va9, (cdM t n dg mp p ys = .inr (q, ys9)) ∧ v = some (.int (nI 1)) ∧ w = wMR G h dg mp ml th n t pl pn xy pt sz rs ou wr sl q fk fp va9 oa oc ok xs ys9) ∨ (∃ a b q va9, (cdM t n dg mp p ys = .inl (a, b)) ∧ v = some (.int (nI 0)) ∧ w = wMR G h dg mp ml th n t pl pn xy pt sz rs ou wr sl q a b va9 oa oc ok xs ys)) (fun _ _ => False) := by
  refine yc_of (by decide) ?_
  intro pg ev sx mm bl mt cd A C0 hP hD
  obtain ⟨hx, hb, hrt, hml, hown, hg, hlocks, hxt, hE, hK, hA, hmn⟩ := C0
  have hS : va_S A sx.heap sx.heap [] := va_S.rf
  have hl := lv_entry ([.ref (h 0)]) (n := 3) (Nat.le_of_ble_eq_true rfl)
  rw [lg_entry_eq]
  generalize (lg_sl ([.ref (h 0)]) ++ List.replicate (3 - (lg_sl ([.ref (h 0)])).length) Slot.unset).toArray = ls at hl ⊢
  have hl : lv_has ls 3 [(0, .ref (h 0))] := hl
  have b1 := rn_ge (P := blN) (t := t) (n := n) (p := p) hp
  have b2 := rn_le (P := blN) (t := t) (n := n) (p := p) hp
  have hid : rn blN t n (rn blN t n p) = rn blN t n p := rn_id
  obtain ⟨H, hH⟩ : ∃ H, H = sx.heap := ⟨_, rfl⟩
  rw [← hH] at hP
  have hS : va_S A sx.heap H [] := by rw [hH]; exact hS
  suffices h9 : W pg l ev (yR 5 113) sx mm _ bl mt cd H [] 0 0 (yMQ bl G A _ _ _ _ sx) (F0 mm 0 ls []) by rw [hH] at h9; exact h9
  obtain ⟨locs, hlo⟩ : ∃ locs : List Loc, locs = [] := ⟨_, rfl⟩
  rw [← hlo] at hS ⊢
  refine lv_aload_n hx hb d_M_coordinate_0 rfl (lv_at hl 0 rfl) ?_
  refine y_callW (y_runV (As := []) (rest := []) hx hb hml hown (c_M_pass l G h dg mp ml th n t pl pn xy pt sz rs ou wr sl p fk fp va oa oc ok xs ys  (by omega) (by omega) (ht)) (gV (n := 0) hg tk_790 tk_792 (gt_s 34 (by decide +kernel) (by decide +kernel)) tk_7 tk_793 (by decide +kernel) ⟨Nat.le_of_ble_eq_true rfl, Nat.le_of_ble_eq_true rfl⟩) (va_recv hK hP (ci := 5) (q0 := 0) rfl rfl) (y_preW hE hK hP hD hS hA) rfl rfl hl.1 rfl (lv_room (Nat.le_of_ble_eq_true rfl)) d_M_coordinate_1 ⟨Nat.le_of_ble_eq_true rfl, Nat.le_of_ble_eq_true rfl⟩) hD hS hA (fun _ _ _ _ _ _ hp => False.elim hp) (fun v9 w9 H locs hp hlw hP hD hS => ?_)
  obtain ⟨rfl, rfl⟩ := hp
  have hP : va_P (gD G) vwC (wMR G h dg mp ml th n t pl pn xy pt sz rs ou wr sl (rn blN t n p) fk fp va oa oc ok xs ys) H := hP
  have hD : va_D A (wMR G h dg mp ml th n t pl pn xy pt sz rs ou wr sl (rn blN t n p) fk fp va oa oc ok xs ys) := hD
  refine W.eq (g2 := F0 mm 4 ls []) rfl ?_
  refine lv_aload_n hx hb d_M_coordinate_4 rfl (lv_at hl 0 rfl) ?_
  refine lv_iconst (v := nI 0) hx hb d_M_coordinate_5 (by decide) ?_
  refine lv_iconst (v := nI 1) hx hb d_M_coordinate_6 (by decide) ?_
  refine y_callW (y_runV (As := [.int (nI 0), .int (nI 1)]) (rest := []) hx hb hml hown (c_M_room l G h dg mp ml th n t pl pn xy pt sz rs ou wr sl (rn blN t n p) fk fp va oa oc ok xs ys 0 1 (by omega) (by omega) (by omega) (by omega) (by omega) (by omega) (by omega)) (gV (n := 2) hg tk_825 tk_827 (gt_s 39 (by decide +kernel) (by decide +kernel)) tk_7 tk_828 (by decide +kernel) ⟨Nat.le_of_ble_eq_true rfl, Nat.le_of_ble_eq_true rfl⟩) (va_recv hK hP (ci := 5) (q0 := 0) rfl rfl) (y_preW hE hK hP hD hS hA) rfl rfl hl.1 rfl (lv_room (Nat.le_of_ble_eq_true rfl)) d_M_coordinate_7 ⟨Nat.le_of_ble_eq_true rfl, Nat.le_of_ble_eq_true rfl⟩) hD hS hA (fun _ _ _ _ _ _ hp => False.elim hp) (fun v9 w9 H locs hp hlw hP hD hS => ?_)
  obtain ⟨rfl, rfl⟩ := hp
  have hP : va_P (gD G) vwC (wMR G h dg mp ml th n t pl pn xy pt sz rs ou wr sl (rn blN t n p) fk fp va oa oc ok xs ys) H := hP
  have hD : va_D A (wMR G h dg mp ml th n t pl pn xy pt sz rs ou wr sl (rn blN t n p) fk fp va oa oc ok xs ys) := hD
  refine W.eq (g2 := F0 mm 10 ls [.int (bz (decide (xs.length + 0 ≤ ml ∧ ys.length + 1 ≤ mp)))]) rfl ?_
  refine yz_if_ne (P := xs.length + 0 ≤ ml ∧ ys.length + 1 ≤ mp) (tgt := 24) hx hb d_M_coordinate_10 (by decide) (fun c10 => ?_) (fun c10 => ?_)
  · skip
    refine lv_aload_n hx hb d_M_coordinate_24 rfl (lv_at hl 0 rfl) ?_
    refine y_callW (y_runV (As := []) (rest := []) hx hb hml hown (c_M_number l G h dg mp ml th n t pl pn xy pt sz rs ou wr sl (rn blN t n p) fk fp va oa oc ok xs ys  (by omega) (by omega) (ht) (by omega)) (gV (n := 0) hg tk_861 tk_863 (gt_s 48 (by decide +kernel) (by decide +kernel)) tk_7 tk_864 (by decide +kernel) ⟨Nat.le_of_ble_eq_true rfl, Nat.le_of_ble_eq_true rfl⟩) (va_recv hK hP (ci := 5) (q0 := 0) rfl rfl) (y_preW hE hK hP hD hS hA) rfl rfl hl.1 rfl (lv_room (Nat.le_of_ble_eq_true rfl)) d_M_coordinate_25 ⟨Nat.le_of_ble_eq_true rfl, Nat.le_of_ble_eq_true rfl⟩) hD hS hA (fun _ _ _ _ _ _ hp => False.elim hp) (fun v9 w9 H locs hp hlw hP hD hS => ?_)
    rcases hp with ⟨q_25, x_25, hs_25, rfl, rfl⟩ | ⟨a_25, b_25, q_25, hs_25, rfl, rfl⟩
    · skip
      have hP : va_P (gD G) vwC (wMR G h dg mp ml th n t pl pn xy pt sz rs ou wr sl q_25 fk fp x_25 oa oc ok xs ys) H := hP
      have hD : va_D A (wMR G h dg mp ml th n t pl pn xy pt sz rs ou wr sl q_25 fk fp x_25 oa oc ok xs ys) := hD
      refine W.eq (g2 := F0 mm 28 ls [.int (nI 1)]) rfl ?_
      rw [hid] at hs_25
      have b3 := num_bd b2 hs_25
      have b4 := rn_ge (P := blN) (t := t) b3.2
      have b5 := rn_le (P := blN) (t := t) b3.2
      refine yn_if_ne (a := 1) (tgt := 33) hx hb d_M_coordinate_28 (by decide) (by omega) (fun c28 => ?_) (fun c28 => ?_)
      · skip
        refine lv_aload_n hx hb d_M_coordinate_33 rfl (lv_at hl 0 rfl) ?_
        refine va_get (D := gD G) (ci := 5) (v := .int x_25) (C := "WordShapesModel") (T := TM) (N := 24) hx hb hg iw_M hown hK hP 0 rfl rfl 20 (by decide) (hg _ tk_703) (fun _ h9 => h9) rfl d_M_coordinate_34 ?_
        refine lv_istore_n (lv' := [(1, .int x_25), (0, .ref (h 0))]) hx hb d_M_coordinate_37 rfl hl (by decide) rfl (fun ls hl => ?_)
        refine lv_aload_n hx hb d_M_coordinate_38 rfl (lv_at hl 1 rfl) ?_
        refine y_callW (y_runV (As := []) (rest := []) hx hb hml hown (c_M_number l G h dg mp ml th n t pl pn xy pt sz rs ou wr sl q_25 fk fp x_25 oa oc ok xs ys  (by omega) (by omega) (ht) (by omega)) (gV (n := 0) hg tk_861 tk_863 (gt_s 48 (by decide +kernel) (by decide +kernel)) tk_7 tk_864 (by decide +kernel) ⟨Nat.le_of_ble_eq_true rfl, Nat.le_of_ble_eq_true rfl⟩) (va_recv hK hP (ci := 5) (q0 := 0) rfl rfl) (y_preW hE hK hP hD hS hA) rfl rfl hl.1 rfl (lv_room (Nat.le_of_ble_eq_true rfl)) d_M_coordinate_39 ⟨Nat.le_of_ble_eq_true rfl, Nat.le_of_ble_eq_true rfl⟩) hD hS hA (fun _ _ _ _ _ _ hp => False.elim hp) (fun v9 w9 H locs hp hlw hP hD hS => ?_)
        rcases hp with ⟨q_39, x_39, hs_39, rfl, rfl⟩ | ⟨a_39, b_39, q_39, hs_39, rfl, rfl⟩
        · skip
          have hP : va_P (gD G) vwC (wMR G h dg mp ml th n t pl pn xy pt sz rs ou wr sl q_39 fk fp x_39 oa oc ok xs ys) H := hP
          have hD : va_D A (wMR G h dg mp ml th n t pl pn xy pt sz rs ou wr sl q_39 fk fp x_39 oa oc ok xs ys) := hD
          refine W.eq (g2 := F0 mm 42 ls [.int (nI 1)]) rfl ?_
          have b6 := num_bd b5 hs_39
          refine yn_if_ne (a := 1) (tgt := 47) hx hb d_M_coordinate_42 (by decide) (by omega) (fun c42 => ?_) (fun c42 => ?_)
          · skip
            have hP : va_P (gD G) vwC (wM G h dg mp ml th n t (plR pl sl xs) (va_up pn sl xs.length) (xyR xy sl ys) (va_up pt sl ys.length) sz rs ou wr sl q_39 fk fp x_39 oa oc ok) H := hP
            have hD : va_D A (wM G h dg mp ml th n t (plR pl sl xs) (va_up pn sl xs.length) (xyR xy sl ys) (va_up pt sl ys.length) sz rs ou wr sl q_39 fk fp x_39 oa oc ok) := hD
            refine lv_iconst (v := nI 2) hx hb d_M_coordinate_47 (by decide) ?_
            refine lv_sipush (v := nI 4096) hx hb d_M_coordinate_48 (by decide) ?_
            refine lv_aload_n hx hb d_M_coordinate_51 rfl (lv_at hl 1 rfl) ?_
            refine va_get (D := gD G) (ci := 5) (v := .int (nI sl)) (C := "WordShapesModel") (T := TM) (N := 24) hx hb hg iw_M hown hK hP 0 rfl rfl 16 (by decide) (hg _ tk_699) (fun _ h9 => h9) rfl d_M_coordinate_52 ?_
            refine lv_imul hx hb d_M_coordinate_55 ?_
            refine y_eqi (pk_mul _ _) ?_
            refine lv_aload_n hx hb d_M_coordinate_56 rfl (lv_at hl 1 rfl) ?_
            refine va_get (D := gD G) (ci := 5) (v := .ref (h 7)) (C := "WordShapesModel") (T := TM) (N := 24) hx hb hg iw_M hown hK hP 0 rfl rfl 11 (by decide) (hg _ tk_694) (fun _ h9 => h9) rfl d_M_coordinate_57 ?_
            refine lv_aload_n hx hb d_M_coordinate_60 rfl (lv_at hl 1 rfl) ?_
            refine va_get (D := gD G) (ci := 5) (v := .int (nI sl)) (C := "WordShapesModel") (T := TM) (N := 24) hx hb hg iw_M hown hK hP 0 rfl rfl 16 (by decide) (hg _ tk_699) (fun _ h9 => h9) rfl d_M_coordinate_61 ?_
            refine yn_iald hx hb hK hP 7 0 rfl rfl (j := sl) (x := nI ys.length) (vu_n _ _ _) (by omega) (by omega) d_M_coordinate_64 ?_
            refine lv_iadd hx hb d_M_coordinate_65 ?_
            refine y_eqi (nI_add _ _) ?_
            refine lv_imul hx hb d_M_coordinate_66 ?_
            refine y_eqi (pk_mul _ _) ?_
            refine lv_istore_n (lv' := [(2, .int (nI (2 * (4096 * sl + ys.length)))), (1, .int x_25), (0, .ref (h 0))]) hx hb d_M_coordinate_67 rfl hl (by decide) rfl (fun ls hl => ?_)
            refine lv_aload_n hx hb d_M_coordinate_68 rfl (lv_at hl 2 rfl) ?_
            refine va_get (D := gD G) (ci := 5) (v := .ref (h 6)) (C := "WordShapesModel") (T := TM) (N := 24) hx hb hg iw_M hown hK hP 0 rfl rfl 10 (by decide) (hg _ tk_693) (fun _ h9 => h9) rfl d_M_coordinate_69 ?_
            refine lv_iload_n hx hb d_M_coordinate_72 rfl (lv_at hl 0 rfl) ?_
            refine lv_iload_n hx hb d_M_coordinate_73 rfl (lv_at hl 1 rfl) ?_
            refine yn_iast hx hb hK hP hD hS 6 0 rfl rfl (j := 2 * (4096 * sl + ys.length)) (x := x_25) (f1 := upd (xyR xy sl ys) (2 * (4096 * sl + ys.length)) x_25) (rfl) (by omega) (by omega) d_M_coordinate_74 (fun H locs hP hD hS => ?_)
            have hP : va_P (gD G) vwC (wM G h dg mp ml th n t (plR pl sl xs) (va_up pn sl xs.length) (upd (xyR xy sl ys) (2 * (4096 * sl + ys.length)) x_25) (va_up pt sl ys.length) sz rs ou wr sl q_39 fk fp x_39 oa oc ok) H := hP
            have hD : va_D A (wM G h dg mp ml th n t (plR pl sl xs) (va_up pn sl xs.length) (upd (xyR xy sl ys) (2 * (4096 * sl + ys.length)) x_25) (va_up pt sl ys.length) sz rs ou wr sl q_39 fk fp x_39 oa oc ok) := hD
            refine lv_aload_n hx hb d_M_coordinate_75 rfl (lv_at hl 2 rfl) ?_
            refine va_get (D := gD G) (ci := 5) (v := .ref (h 6)) (C := "WordShapesModel") (T := TM) (N := 24) hx hb hg iw_M hown hK hP 0 rfl rfl 10 (by decide) (hg _ tk_693) (fun _ h9 => h9) rfl d_M_coordinate_76 ?_
            refine lv_iload_n hx hb d_M_coordinate_79 rfl (lv_at hl 0 rfl) ?_
            refine lv_iconst (v := nI 1) hx hb d_M_coordinate_80 (by decide) ?_
            refine lv_iadd hx hb d_M_coordinate_81 ?_
            refine y_eqi (nI_add _ _) ?_
            refine lv_aload_n hx hb d_M_coordinate_82 rfl (lv_at hl 2 rfl) ?_
            refine va_get (D := gD G) (ci := 5) (v := .int x_39) (C := "WordShapesModel") (T := TM) (N := 24) hx hb hg iw_M hown hK hP 0 rfl rfl 20 (by decide) (hg _ tk_703) (fun _ h9 => h9) rfl d_M_coordinate_83 ?_
            refine yn_iast hx hb hK hP hD hS 6 0 rfl rfl (j := 2 * (4096 * sl + ys.length) + 1) (x := x_39) (f1 := upd (upd (xyR xy sl ys) (2 * (4096 * sl + ys.length)) x_25) (2 * (4096 * sl + ys.length) + 1) x_39) (rfl) (by omega) (by omega) d_M_coordinate_86 (fun H locs hP hD hS => ?_)
            have hP : va_P (gD G) vwC (wM G h dg mp ml th n t (plR pl sl xs) (va_up pn sl xs.length) (upd (upd (xyR xy sl ys) (2 * (4096 * sl + ys.length)) x_25) (2 * (4096 * sl + ys.length) + 1) x_39) (va_up pt sl ys.length) sz rs ou wr sl q_39 fk fp x_39 oa oc ok) H := hP
            have hD : va_D A (wM G h dg mp ml th n t (plR pl sl xs) (va_up pn sl xs.length) (upd (upd (xyR xy sl ys) (2 * (4096 * sl + ys.length)) x_25) (2 * (4096 * sl + ys.length) + 1) x_39) (va_up pt sl ys.length) sz rs ou wr sl q_39 fk fp x_39 oa oc ok) := hD
            refine lv_aload_n hx hb d_M_coordinate_87 rfl (lv_at hl 2 rfl) ?_
            refine va_get (D := gD G) (ci := 5) (v := .ref (h 7)) (C := "WordShapesModel") (T := TM) (N := 24) hx hb hg iw_M hown hK hP 0 rfl rfl 11 (by decide) (hg _ tk_694) (fun _ h9 => h9) rfl d_M_coordinate_88 ?_
            refine lv_aload_n hx hb d_M_coordinate_91 rfl (lv_at hl 2 rfl) ?_
            refine va_get (D := gD G) (ci := 5) (v := .int (nI sl)) (C := "WordShapesModel") (T := TM) (N := 24) hx hb hg iw_M hown hK hP 0 rfl rfl 16 (by decide) (hg _ tk_699) (fun _ h9 => h9) rfl d_M_coordinate_92 ?_
            refine lv_dup2_11 hx hb d_M_coordinate_95 rfl rfl ?_
            refine yn_iald hx hb hK hP 7 0 rfl rfl (j := sl) (x := nI ys.length) (vu_n _ _ _) (by omega) (by omega) d_M_coordinate_96 ?_
            refine lv_iconst (v := nI 1) hx hb d_M_coordinate_97 (by decide) ?_
            refine lv_iadd hx hb d_M_coordinate_98 ?_
            refine y_eqi (nI_add _ _) ?_
            refine yn_iast hx hb hK hP hD hS 7 0 rfl rfl (j := sl) (x := nI (ys.length + 1)) (f1 := fun i => nI ((va_up (va_up pt sl ys.length) sl (ys.length + 1)) i)) (vu_st _ _ _) (by omega) (by omega) d_M_coordinate_99 (fun H locs hP hD hS => ?_)
            have hP : va_P (gD G) vwC (wM G h dg mp ml th n t (plR pl sl xs) (va_up pn sl xs.length) (upd (upd (xyR xy sl ys) (2 * (4096 * sl + ys.length)) x_25) (2 * (4096 * sl + ys.length) + 1) x_39) (va_up (va_up pt sl ys.length) sl (ys.length + 1)) sz rs ou wr sl q_39 fk fp x_39 oa oc ok) H := hP
            have hD : va_D A (wM G h dg mp ml th n t (plR pl sl xs) (va_up pn sl xs.length) (upd (upd (xyR xy sl ys) (2 * (4096 * sl + ys.length)) x_25) (2 * (4096 * sl + ys.length) + 1) x_39) (va_up (va_up pt sl ys.length) sl (ys.length + 1)) sz rs ou wr sl q_39 fk fp x_39 oa oc ok) := hD
            refine lv_iconst (v := nI 1) hx hb d_M_coordinate_100 (by decide) ?_
            rw [xyR_add _ _ _ _ _ (by omega), show va_up (va_up pt sl ys.length) sl (ys.length + 1) = va_up pt sl (ys ++ [(x_25, x_39)]).length by rw [vu_u, List.length_append, List.length_singleton]] at hP hD
            have hP : va_P (gD G) vwC (wMR G h dg mp ml th n t pl pn xy pt sz rs ou wr sl q_39 fk fp x_39 oa oc ok xs (ys ++ [(x_25, x_39)])) H := hP
            have hD : va_D A (wMR G h dg mp ml th n t pl pn xy pt sz rs ou wr sl q_39 fk fp x_39 oa oc ok xs (ys ++ [(x_25, x_39)])) := hD
            exact yr_z (ws := wMR G h dg mp ml th n t pl pn xy pt sz rs ou wr sl q_39 fk fp x_39 oa oc ok xs (ys ++ [(x_25, x_39)])) hx hb hrt (rfl) hlocks (Or.inl ⟨_, _, _, by unfold cdM; rw [if_pos c10.2]; rw [hs_25]; dsimp only; rw [hs_39], rfl, rfl⟩) rfl hK hP hD hS d_M_coordinate_101
          · skip
            exact absurd c42 (by decide)
        · skip
          have hP : va_P (gD G) vwC (wMR G h dg mp ml th n t pl pn xy pt sz rs ou wr sl q_39 a_39 b_39 x_25 oa oc ok xs ys) H := hP
          have hD : va_D A (wMR G h dg mp ml th n t pl pn xy pt sz rs ou wr sl q_39 a_39 b_39 x_25 oa oc ok xs ys) := hD
          refine W.eq (g2 := F0 mm 42 ls [.int (nI 0)]) rfl ?_
          refine yn_if_ne (a := 0) (tgt := 47) hx hb d_M_coordinate_42 (by decide) (by omega) (fun c42 => ?_) (fun c42 => ?_)
          · skip
            exact absurd c42 (by decide)
          · skip
            refine lv_iconst (v := nI 0) hx hb d_M_coordinate_45 (by decide) ?_
            exact yr_z (ws := wMR G h dg mp ml th n t pl pn xy pt sz rs ou wr sl q_39 a_39 b_39 x_25 oa oc ok xs ys) hx hb hrt (rfl) hlocks (Or.inr ⟨_, _, _, _, by unfold cdM; rw [if_pos c10.2]; rw [hs_25]; dsimp only; rw [hs_39], rfl, rfl⟩) rfl hK hP hD hS d_M_coordinate_46
      · skip
        exact absurd c28 (by decide)
    · skip
      have hP : va_P (gD G) vwC (wMR G h dg mp ml th n t pl pn xy pt sz rs ou wr sl q_25 a_25 b_25 va oa oc ok xs ys) H := hP
      have hD : va_D A (wMR G h dg mp ml th n t pl pn xy pt sz rs ou wr sl q_25 a_25 b_25 va oa oc ok xs ys) := hD
      refine W.eq (g2 := F0 mm 28 ls [.int (nI 0)]) rfl ?_
      rw [hid] at hs_25
      refine yn_if_ne (a := 0) (tgt := 33) hx hb d_M_coordinate_28 (by decide) (by omega) (fun c28 => ?_) (fun c28 => ?_)
      · skip
        exact absurd c28 (by decide)
      · skip
        refine lv_iconst (v := nI 0) hx hb d_M_coordinate_31 (by decide) ?_
        exact yr_z (ws := wMR G h dg mp ml th n t pl pn xy pt sz rs ou wr sl q_25 a_25 b_25 va oa oc ok xs ys) hx hb hrt (rfl) hlocks (Or.inr ⟨_, _, _, _, by unfold cdM; rw [if_pos c10.2]; rw [hs_25], rfl, rfl⟩) rfl hK hP hD hS d_M_coordinate_32
  · skip
    refine lv_aload_n hx hb d_M_coordinate_13 rfl (lv_at hl 0 rfl) ?_
    refine lv_bipush (v := nI 7) hx hb d_M_coordinate_14 (by decide) ?_
    refine lv_aload_n hx hb d_M_coordinate_16 rfl (lv_at hl 0 rfl) ?_
    refine va_get (D := gD G) (ci := 5) (v := .int (nI (rn blN t n p))) (C := "WordShapesModel") (T := TM) (N := 24) hx hb hg iw_M hown hK hP 0 rfl rfl 17 (by decide) (hg _ tk_700) (fun _ h9 => h9) rfl d_M_coordinate_17 ?_
    refine y_callW (y_runV (As := [.int (nI 7), .int (nI (rn blN t n p))]) (rest := []) hx hb hml hown (c_M_wrong l G h dg mp ml th n t pl pn xy pt sz rs ou wr sl (rn blN t n p) fk fp va oa oc ok xs ys 7 (rn blN t n p) ) (gV (n := 2) hg tk_817 tk_819 (gt_s 37 (by decide +kernel) (by decide +kernel)) tk_7 tk_820 (by decide +kernel) ⟨Nat.le_of_ble_eq_true rfl, Nat.le_of_ble_eq_true rfl⟩) (va_recv hK hP (ci := 5) (q0 := 0) rfl rfl) (y_preW hE hK hP hD hS hA) rfl rfl hl.1 rfl (lv_room (Nat.le_of_ble_eq_true rfl)) d_M_coordinate_20 ⟨Nat.le_of_ble_eq_true rfl, Nat.le_of_ble_eq_true rfl⟩) hD hS hA (fun _ _ _ _ _ _ hp => False.elim hp) (fun v9 w9 H locs hp hlw hP hD hS => ?_)
    obtain ⟨rfl, rfl⟩ := hp
    have hP : va_P (gD G) vwC (wMR G h dg mp ml th n t pl pn xy pt sz rs ou wr sl (rn blN t n p) 7 (rn blN t n p) va oa oc ok xs ys) H := hP
    have hD : va_D A (wMR G h dg mp ml th n t pl pn xy pt sz rs ou wr sl (rn blN t n p) 7 (rn blN t n p) va oa oc ok xs ys) := hD
    refine W.eq (g2 := F0 mm 23 ls [.int (nI 0)]) rfl ?_
    exact yr_z (ws := wMR G h dg mp ml th n t pl pn xy pt sz rs ou wr sl (rn blN t n p) 7 (rn blN t n p) va oa oc ok xs ys) hx hb hrt (rfl) hlocks (Or.inr ⟨_, _, _, _, by unfold cdM; rw [if_neg (fun y => c10 ⟨by omega, y⟩)], rfl, rfl⟩) rfl hK hP hD hS d_M_coordinate_23
set_option maxHeartbeats 4000000 in
set_option maxRecDepth 100000 in
theorem c_M_coordinates (l : Launch) (G : gl) (h : Nat → Nat) (dg : Nat) (mp : Nat) (ml : Nat) (th : Nat) (n : Nat) (t : Nat → Nat) (pl : Nat → Int32) (pn : Nat → Nat) (xy : Nat → Int32) (pt : Nat → Nat) (sz : Nat) (rs : Nat → Nat) (ou : Nat → Nat) (wr : Nat) (sl : Nat) (p : Nat) (fk : Nat) (fp : Nat) (va : Int32) (oa : Nat → Int32) (oc : Nat → Int32) (ok : Nat → Int32) (xs : List Int32) (ys : List (Int32 × Int32))  (hn : n ≤ 65536) (hp : p ≤ n) (ht : ∀ i, t i < 256) (hml : ml ≤ 4096) (hmp : mp ≤ 4096) (hsl : sl < 4) (hxs : xs.length ≤ ml) (hys : ys.length ≤ mp) (hdg : dg ≤ 3) : YC l G y_M_coordinates k_M_coordinates 3 (Option.some FieldType.int) 6 135 [.ref (h 0)] (wMR G h dg mp ml th n t pl pn xy pt sz rs ou wr sl p fk fp va oa oc ok xs ys) (fun v w => (∃ q m9 ys9 va9, (cosM t n dg mp (n + 1) p 0 ys = .inr (q, m9, ys9)) ∧ v = some (.int (nI m9)) ∧ w = wMR G h dg mp ml th n t pl pn xy pt sz rs ou wr sl q fk fp va9 oa oc ok xs ys9) ∨ (∃ a b q va9 ys9, (cosM t n dg mp (n + 1) p 0 ys = .inl (a, b)) ∧ v = some (.int (-1)) ∧ w = wMR G h dg mp ml th n t pl pn xy pt sz rs ou wr sl q a b va9 oa oc ok xs ys9)) (fun _ _ => False) := by
  refine yc_of (by decide) ?_
  intro pg ev sx mm bl mt cd A C0 hP hD
  obtain ⟨hx, hb, hrt, hml, hown, hg, hlocks, hxt, hE, hK, hA, hmn⟩ := C0
  have hS : va_S A sx.heap sx.heap [] := va_S.rf
  have hl := lv_entry ([.ref (h 0)]) (n := 3) (Nat.le_of_ble_eq_true rfl)
  rw [lg_entry_eq]
  generalize (lg_sl ([.ref (h 0)]) ++ List.replicate (3 - (lg_sl ([.ref (h 0)])).length) Slot.unset).toArray = ls at hl ⊢
  have hl : lv_has ls 3 [(0, .ref (h 0))] := hl
  obtain ⟨H, hH⟩ : ∃ H, H = sx.heap := ⟨_, rfl⟩
  rw [← hH] at hP
  have hS : va_S A sx.heap H [] := by rw [hH]; exact hS
  suffices h9 : W pg l ev (yR 6 135) sx mm _ bl mt cd H [] 0 0 (yMQ bl G A _ _ _ _ sx) (F0 mm 0 ls []) by rw [hH] at h9; exact h9
  obtain ⟨locs, hlo⟩ : ∃ locs : List Loc, locs = [] := ⟨_, rfl⟩
  rw [← hlo] at hS ⊢
  have J9 : ∀ (n9 : Nat) (F : Nat) (q : Nat) (m : Nat) (v1 : Int32) (y1 : List (Int32 × Int32)) (hm9 : n - q < n9) (hF : n + 1 ≤ q + F) (hq : q ≤ n) (hm : m ≤ q) (hy1 : y1.length ≤ mp) (hS9 : cosM t n dg mp (n + 1) p 0 ys = cosM t n dg mp F q m y1) (H : Heap) (locs : List Loc) (ls : Array Slot), va_P (gD G) vwC (wMR G h dg mp ml th n t pl pn xy pt sz rs ou wr sl q fk fp v1 oa oc ok xs y1) H → va_D A (wMR G h dg mp ml th n t pl pn xy pt sz rs ou wr sl q fk fp v1 oa oc ok xs y1) → va_S A sx.heap H locs → lv_has ls 3 [(0, .ref (h 0)), (1, .int (nI m))] → W pg l ev (yR 6 135) sx mm ([.ref (h 0)] : List Value).toArray bl mt cd H locs 0 0 (yMQ bl G A (wMR G h dg mp ml th n t pl pn xy pt sz rs ou wr sl p fk fp va oa oc ok xs ys).length (fun v w => (∃ q m9 ys9 va9, (cosM t n dg mp (n + 1) p 0 ys = .inr (q, m9, ys9)) ∧ v = some (.int (nI m9)) ∧ w = wMR G h dg mp ml th n t pl pn xy pt sz rs ou wr sl q fk fp va9 oa oc ok xs ys9) ∨ (∃ a b q va9 ys9, (cosM t n dg mp (n + 1) p 0 ys = .inl (a, b)) ∧ v = some (.int (-1)) ∧ w = wMR G h dg mp ml th n t pl pn xy pt sz rs ou wr sl q a b va9 oa oc ok xs ys9)) (fun _ _ => False) ([.ref (h 0)] : List Value).toArray sx) (F0 mm 9 ls []) := by
    intro n9
    induction n9 with
    | zero => intro F q m v1 y1 hm9; exact absurd hm9 (Nat.not_lt_zero _)
    | succ n9 ih9 =>
      intro F q m v1 y1 hm9 hF hq hm hy1 hS9 H locs ls hP hD hS hl
      obtain ⟨F, rfl⟩ : ∃ z, F = z + 1 := ⟨F - 1, by omega⟩
      refine lv_aload_n hx hb d_M_coordinates_9 rfl (lv_at hl 0 rfl) ?_
      refine y_callW (y_runV (As := []) (rest := []) hx hb hml hown (c_M_coordinate l G h dg mp ml th n t pl pn xy pt sz rs ou wr sl q fk fp v1 oa oc ok xs y1  (by omega) (by omega) (ht) (by omega) (by omega) (by omega) (by omega) (by omega) (by omega)) (gV (n := 0) hg tk_857 tk_859 (gt_s 47 (by decide +kernel) (by decide +kernel)) tk_7 tk_860 (by decide +kernel) ⟨Nat.le_of_ble_eq_true rfl, Nat.le_of_ble_eq_true rfl⟩) (va_recv hK hP (ci := 5) (q0 := 0) rfl rfl) (y_preW hE hK hP hD hS hA) rfl rfl hl.1 rfl (lv_room (Nat.le_of_ble_eq_true rfl)) d_M_coordinates_10 ⟨Nat.le_of_ble_eq_true rfl, Nat.le_of_ble_eq_true rfl⟩) hD hS hA (fun _ _ _ _ _ _ hp => False.elim hp) (fun v9 w9 H locs hp hlw hP hD hS => ?_)
      rcases hp with ⟨q_10, ys9_10, va9_10, hs_10, rfl, rfl⟩ | ⟨a_10, b_10, q_10, va9_10, hs_10, rfl, rfl⟩
      · skip
        have hP : va_P (gD G) vwC (wMR G h dg mp ml th n t pl pn xy pt sz rs ou wr sl q_10 fk fp va9_10 oa oc ok xs ys9_10) H := hP
        have hD : va_D A (wMR G h dg mp ml th n t pl pn xy pt sz rs ou wr sl q_10 fk fp va9_10 oa oc ok xs ys9_10) := hD
        refine W.eq (g2 := F0 mm 13 ls [.int (nI 1)]) rfl ?_
        have b1 := cd_bd hq hs_10
        refine yn_if_ne (a := 1) (tgt := 18) hx hb d_M_coordinates_13 (by decide) (by omega) (fun c13 => ?_) (fun c13 => ?_)
        · skip
          refine lv_iinc (v := nI (m + 1)) (lv' := [(1, .int (nI (m + 1))), (0, .ref (h 0))]) hx hb d_M_coordinates_18 hl (k := 1) rfl (y_inc _) (by decide) rfl (fun ls hl => ?_)
          refine lv_aload_n hx hb d_M_coordinates_21 rfl (lv_at hl 1 rfl) ?_
          refine y_callW (y_runV (As := []) (rest := []) hx hb hml hown (c_M_goesOn l G h dg mp ml th n t pl pn xy pt sz rs ou wr sl q_10 fk fp va9_10 oa oc ok xs ys9_10  (by omega) (by omega) (ht)) (gV (n := 0) hg tk_879 tk_881 (gt_s 51 (by decide +kernel) (by decide +kernel)) tk_7 tk_882 (by decide +kernel) ⟨Nat.le_of_ble_eq_true rfl, Nat.le_of_ble_eq_true rfl⟩) (va_recv hK hP (ci := 5) (q0 := 0) rfl rfl) (y_preW hE hK hP hD hS hA) rfl rfl hl.1 rfl (lv_room (Nat.le_of_ble_eq_true rfl)) d_M_coordinates_22 ⟨Nat.le_of_ble_eq_true rfl, Nat.le_of_ble_eq_true rfl⟩) hD hS hA (fun _ _ _ _ _ _ hp => False.elim hp) (fun v9 w9 H locs hp hlw hP hD hS => ?_)
          rcases hp with ⟨hs_22, rfl, rfl⟩ | ⟨hs_22, rfl, rfl⟩ | ⟨hs_22, rfl, rfl⟩
          · skip
            have hP : va_P (gD G) vwC (wMR G h dg mp ml th n t pl pn xy pt sz rs ou wr sl (rn blN t n q_10 + 1) fk fp va9_10 oa oc ok xs ys9_10) H := hP
            have hD : va_D A (wMR G h dg mp ml th n t pl pn xy pt sz rs ou wr sl (rn blN t n q_10 + 1) fk fp va9_10 oa oc ok xs ys9_10) := hD
            refine W.eq (g2 := F0 mm 25 ls [.int (nI 1)]) rfl ?_
            have b2 := goM_bd b1.2.1 (go_44 hs_22)
            refine lv_istore_n (lv' := [(2, .int (nI 1)), (1, .int (nI (m + 1))), (0, .ref (h 0))]) hx hb d_M_coordinates_25 rfl hl (by decide) rfl (fun ls hl => ?_)
            refine lv_goto (tgt := 4) hx hb d_M_coordinates_26 (by decide) ?_
            refine lv_iload_n hx hb d_M_coordinates_4 rfl (lv_at hl 0 rfl) ?_
            refine lv_iconst (v := nI 1) hx hb d_M_coordinates_5 (by decide) ?_
            refine yn_icmp_ne (a := 1) (b := 1) (tgt := 29) hx hb d_M_coordinates_6 (by decide) (by omega) (by omega) (fun c6 => ?_) (fun c6 => ?_)
            · skip
              exact absurd c6 (by decide)
            · skip
              exact ih9 F (rn blN t n q_10 + 1) (m + 1) va9_10 ys9_10 (by omega) (by omega) (by omega) (by omega) (by omega) (hS9.trans (by rw [cos_s, hs_10]; dsimp only; rw [go_44 hs_22])) _ _ _ hP hD hS (lv_sub hl [2, 1] (rfl))
          · skip
            have hP : va_P (gD G) vwC (wMR G h dg mp ml th n t pl pn xy pt sz rs ou wr sl (rn blN t n q_10 + 1) fk fp va9_10 oa oc ok xs ys9_10) H := hP
            have hD : va_D A (wMR G h dg mp ml th n t pl pn xy pt sz rs ou wr sl (rn blN t n q_10 + 1) fk fp va9_10 oa oc ok xs ys9_10) := hD
            refine W.eq (g2 := F0 mm 25 ls [.int (nI 0)]) rfl ?_
            have b2 := goM_bd b1.2.1 (go_41 hs_22)
            refine lv_istore_n (lv' := [(2, .int (nI 0)), (1, .int (nI (m + 1))), (0, .ref (h 0))]) hx hb d_M_coordinates_25 rfl hl (by decide) rfl (fun ls hl => ?_)
            refine lv_goto (tgt := 4) hx hb d_M_coordinates_26 (by decide) ?_
            refine lv_iload_n hx hb d_M_coordinates_4 rfl (lv_at hl 0 rfl) ?_
            refine lv_iconst (v := nI 1) hx hb d_M_coordinates_5 (by decide) ?_
            refine yn_icmp_ne (a := 0) (b := 1) (tgt := 29) hx hb d_M_coordinates_6 (by decide) (by omega) (by omega) (fun c6 => ?_) (fun c6 => ?_)
            · skip
              refine lv_iload_n hx hb d_M_coordinates_29 rfl (lv_at hl 0 rfl) ?_
              refine yn_if_ge (a := 0) (tgt := 37) hx hb d_M_coordinates_30 (by decide) (by omega) (fun c30 => ?_) (fun c30 => ?_)
              · skip
                refine lv_iload_n hx hb d_M_coordinates_37 rfl (lv_at hl 1 rfl) ?_
                exact yr_i (ws := wMR G h dg mp ml th n t pl pn xy pt sz rs ou wr sl (rn blN t n q_10 + 1) fk fp va9_10 oa oc ok xs ys9_10) hx hb hrt hlocks (by first | exact Or.inl ⟨_, _, _, _, hS9.trans (by rw [cos_s, hs_10]; dsimp only; rw [go_41 hs_22]), rfl, rfl⟩ | exact Or.inr ⟨_, _, _, _, _, hS9.trans (by rw [cos_s, hs_10]; dsimp only; rw [go_xx hs_22]), rfl, rfl⟩) rfl hK hP hD hS d_M_coordinates_38
              · skip
                exact absurd c30 (by decide)
            · skip
              exact absurd c6 (by decide)
          · skip
            have hP : va_P (gD G) vwC (wMR G h dg mp ml th n t pl pn xy pt sz rs ou wr sl (rn blN t n q_10) (uxp (hr t n (rn blN t n q_10))) (rn blN t n q_10) va9_10 oa oc ok xs ys9_10) H := hP
            have hD : va_D A (wMR G h dg mp ml th n t pl pn xy pt sz rs ou wr sl (rn blN t n q_10) (uxp (hr t n (rn blN t n q_10))) (rn blN t n q_10) va9_10 oa oc ok xs ys9_10) := hD
            refine W.eq (g2 := F0 mm 25 ls [.int (-1)]) rfl ?_
            refine lv_istore_n (lv' := [(2, .int (-1)), (1, .int (nI (m + 1))), (0, .ref (h 0))]) hx hb d_M_coordinates_25 rfl hl (by decide) rfl (fun ls hl => ?_)
            refine lv_goto (tgt := 4) hx hb d_M_coordinates_26 (by decide) ?_
            refine lv_iload_n hx hb d_M_coordinates_4 rfl (lv_at hl 0 rfl) ?_
            refine lv_iconst (v := nI 1) hx hb d_M_coordinates_5 (by decide) ?_
            refine lv_icmp_ne (tgt := 29) hx hb d_M_coordinates_6 (by decide) (fun c6 => ?_) (fun c6 => ?_)
            · skip
              refine lv_iload_n hx hb d_M_coordinates_29 rfl (lv_at hl 0 rfl) ?_
              refine lv_if_ge (tgt := 37) hx hb d_M_coordinates_30 (by decide) (fun c30 => ?_) (fun c30 => ?_)
              · skip
                exact absurd c30 (by decide)
              · skip
                refine lv_iconst (v := (-1)) hx hb d_M_coordinates_33 (by decide) ?_
                refine lv_goto (tgt := 38) hx hb d_M_coordinates_34 (by decide) ?_
                exact yr_i (ws := wMR G h dg mp ml th n t pl pn xy pt sz rs ou wr sl (rn blN t n q_10) (uxp (hr t n (rn blN t n q_10))) (rn blN t n q_10) va9_10 oa oc ok xs ys9_10) hx hb hrt hlocks (by first | exact Or.inl ⟨_, _, _, _, hS9.trans (by rw [cos_s, hs_10]; dsimp only; rw [go_41 hs_22]), rfl, rfl⟩ | exact Or.inr ⟨_, _, _, _, _, hS9.trans (by rw [cos_s, hs_10]; dsimp only; rw [go_xx hs_22]), rfl, rfl⟩) rfl hK hP hD hS d_M_coordinates_38
            · skip
              exact absurd c6 (by decide)
        · skip
          exact absurd c13 (by decide)
      · skip
        have hP : va_P (gD G) vwC (wMR G h dg mp ml th n t pl pn xy pt sz rs ou wr sl q_10 a_10 b_10 va9_10 oa oc ok xs y1) H := hP
        have hD : va_D A (wMR G h dg mp ml th n t pl pn xy pt sz rs ou wr sl q_10 a_10 b_10 va9_10 oa oc ok xs y1) := hD
        refine W.eq (g2 := F0 mm 13 ls [.int (nI 0)]) rfl ?_
        refine yn_if_ne (a := 0) (tgt := 18) hx hb d_M_coordinates_13 (by decide) (by omega) (fun c13 => ?_) (fun c13 => ?_)
        · skip
          exact absurd c13 (by decide)
        · skip
          refine lv_iconst (v := (-1)) hx hb d_M_coordinates_16 (by decide) ?_
          exact yr_i (ws := wMR G h dg mp ml th n t pl pn xy pt sz rs ou wr sl q_10 a_10 b_10 va9_10 oa oc ok xs y1) hx hb hrt hlocks (Or.inr ⟨_, _, _, _, _, hS9.trans (by rw [cos_s, hs_10]), rfl, rfl⟩) rfl hK hP hD hS d_M_coordinates_17
  refine lv_iconst (v := nI 0) hx hb d_M_coordinates_0 (by decide) ?_
  refine lv_istore_n (lv' := [(1, .int (nI 0)), (0, .ref (h 0))]) hx hb d_M_coordinates_1 rfl hl (by decide) rfl (fun ls hl => ?_)
  refine lv_iconst (v := nI 1) hx hb d_M_coordinates_2 (by decide) ?_
  refine lv_istore_n (lv' := [(2, .int (nI 1)), (1, .int (nI 0)), (0, .ref (h 0))]) hx hb d_M_coordinates_3 rfl hl (by decide) rfl (fun ls hl => ?_)
  refine lv_iload_n hx hb d_M_coordinates_4 rfl (lv_at hl 0 rfl) ?_
  refine lv_iconst (v := nI 1) hx hb d_M_coordinates_5 (by decide) ?_
  refine yn_icmp_ne (a := 1) (b := 1) (tgt := 29) hx hb d_M_coordinates_6 (by decide) (by omega) (by omega) (fun c6 => ?_) (fun c6 => ?_)
  · skip
    exact absurd c6 (by decide)
  · skip
    exact J9 _ (n + 1) p 0 va ys (Nat.lt_succ_self _) (by omega) (by omega) (by omega) (by omega) (rfl) _ _ _ hP hD hS (lv_sub hl [2, 1] (rfl))
