/-- a truth value as the machine has it -/
def bz (b : Bool) : Int32 := if b then 1 else 0
theorem bz_t {P : Prop} [Decidable P] (h : P) : nI 1 = bz (decide P) := by rw [decide_eq_true h]; rfl
theorem bz_f {P : Prop} [Decidable P] (h : ¬ P) : nI 0 = bz (decide P) := by rw [decide_eq_false h]; rfl
theorem bz_n0 {P : Prop} [Decidable P] (h : P) : ¬ bz (decide P) = 0 := by rw [decide_eq_true h]; decide

/-- the byte at the place, 256 at the end; as the machine has it -/
def toI (c : Nat) : Int32 := if c = 256 then -1 else nI c
def hr (t : Nat → Nat) (n p : Nat) : Nat := if p < n then t p else 256
theorem hr_le {t : Nat → Nat} (ht : ∀ i, t i < 256) (n p : Nat) : hr t n p ≤ 256 := by unfold hr; split; exact Nat.le_of_lt (ht p); exact Nat.le_refl _
theorem toI_eq {a b : Nat} (ha : a ≤ 256) (hb : b < 256) : toI a = nI b ↔ a = b := by
  unfold toI
  by_cases h : a = 256
  · rw [if_pos h]
    refine ⟨fun q => ?_, fun q => by omega⟩
    have := congrArg Int32.toInt q
    rw [nI_toInt (by omega)] at this
    have h2 : (-1 : Int32).toInt = -1 := by decide
    omega
  · rw [if_neg h]
    exact nI_eq (by omega) (by omega)
theorem toI_end {a : Nat} (ha : a ≤ 256) : toI a = -1 ↔ a = 256 := by
  unfold toI
  by_cases h : a = 256
  · rw [if_pos h]; exact ⟨fun _ => h, fun _ => rfl⟩
  · rw [if_neg h]
    refine ⟨fun q => ?_, fun q => absurd q h⟩
    have := congrArg Int32.toInt q
    rw [nI_toInt (by omega)] at this
    have h2 : (-1 : Int32).toInt = -1 := by decide
    omega
theorem sb_eqA : ∀ a, a < 256 → ∀ b, b < 128 → (sb_b a = nI b ↔ a = b) := by decide +kernel
theorem sb_eqN {a b : Nat} (ha : a < 256) (hb : b < 128) : sb_b a = nI b ↔ a = b := sb_eqA a ha b hb
def isBl (b : Int32) : Bool := decide (b = nI 32 ∨ b = nI 9 ∨ b = nI 10 ∨ b = nI 13)
def isLe (b : Int32) : Bool := decide ((nI 65 ≤ b ∧ b ≤ nI 90) ∨ (nI 97 ≤ b ∧ b ≤ nI 122))
def isDi (b : Int32) : Bool := decide (nI 48 ≤ b ∧ b ≤ nI 57)
def isNu (b : Int32) : Bool := decide ((nI 48 ≤ b ∧ b ≤ nI 57) ∨ b = nI 43 ∨ b = nI 45 ∨ b = nI 46)
def blN (c : Nat) : Bool := decide (c = 32 ∨ c = 9 ∨ c = 10 ∨ c = 13)
def leN (c : Nat) : Bool := decide ((65 ≤ c ∧ c ≤ 90) ∨ (97 ≤ c ∧ c ≤ 122))
def diN (c : Nat) : Bool := decide (48 ≤ c ∧ c ≤ 57)
def nuN (c : Nat) : Bool := decide ((48 ≤ c ∧ c ≤ 57) ∨ c = 43 ∨ c = 45 ∨ c = 46)
theorem ch_b : ∀ c, c < 256 → isBl (sb_b c) = blN c ∧ isLe (sb_b c) = leN c ∧ isDi (sb_b c) = diN c ∧ isNu (sb_b c) = nuN c := by decide +kernel
theorem ch_h : ∀ c, c < 257 → isBl (toI c) = blN c ∧ isLe (toI c) = leN c ∧ isDi (toI c) = diN c ∧ isNu (toI c) = nuN c := by decide +kernel
/-- the end of a run of bytes of a kind -/
def rnA (P : Nat → Bool) (t : Nat → Nat) (n : Nat) : Nat → Nat → Nat
  | 0, p => p
  | m + 1, p => if p < n ∧ P (t p) = true then rnA P t n m (p + 1) else p
def rn (P : Nat → Bool) (t : Nat → Nat) (n p : Nat) : Nat := rnA P t n (n - p) p
theorem rn_step {P : Nat → Bool} {t : Nat → Nat} {n p : Nat} (h : p < n) (hP : P (t p) = true) : rn P t n p = rn P t n (p + 1) := by
  unfold rn
  rw [show n - p = (n - (p + 1)) + 1 by omega]
  simp only [rnA]
  rw [if_pos ⟨h, hP⟩]
theorem rn_stop {P : Nat → Bool} {t : Nat → Nat} {n p : Nat} (h : ¬ (p < n ∧ P (t p) = true)) : rn P t n p = p := by
  unfold rn
  cases n - p with
  | zero => rfl
  | succ m => simp only [rnA]; rw [if_neg h]
theorem rn_bd (P : Nat → Bool) (t : Nat → Nat) (n : Nat) : ∀ (d p : Nat), n - p = d → p ≤ n → p ≤ rn P t n p ∧ rn P t n p ≤ n := by
  intro d
  induction d with
  | zero =>
    intro p h1 h2
    rw [rn_stop (fun q => by omega)]
    exact ⟨Nat.le_refl _, h2⟩
  | succ d ih =>
    intro p h1 h2
    by_cases h : p < n ∧ P (t p) = true
    · rw [rn_step h.1 h.2]
      obtain ⟨a, b⟩ := ih (p + 1) (by omega) (by omega)
      exact ⟨by omega, b⟩
    · rw [rn_stop h]
      exact ⟨Nat.le_refl _, h2⟩
theorem rn_ge {P : Nat → Bool} {t : Nat → Nat} {n p : Nat} (h : p ≤ n) : p ≤ rn P t n p := (rn_bd P t n _ p rfl h).1
theorem rn_le {P : Nat → Bool} {t : Nat → Nat} {n p : Nat} (h : p ≤ n) : rn P t n p ≤ n := (rn_bd P t n _ p rfl h).2
theorem rn_end {P : Nat → Bool} {t : Nat → Nat} {n p : Nat} : ¬ (rn P t n p < n ∧ P (t (rn P t n p)) = true) := by
  suffices h : ∀ (d p : Nat), n - p = d → ¬ (rn P t n p < n ∧ P (t (rn P t n p)) = true) from h _ p rfl
  intro d
  induction d with
  | zero => intro p h1; rw [rn_stop (fun q => by omega)]; omega
  | succ d ih =>
    intro p h1
    by_cases h : p < n ∧ P (t p) = true
    · rw [rn_step h.1 h.2]; exact ih (p + 1) (by omega)
    · rw [rn_stop h]; exact h
/-- behind a sign, if there is one -/
def sgN (c : Nat) : Bool := decide (c = 43 ∨ c = 45)
def ps (t : Nat → Nat) (n p : Nat) : Nat := if sgN (hr t n p) then p + 1 else p
/-- what is told of a byte that can't stand there -/
def uxp (c : Nat) : Nat := if c = 256 ∨ leN c = true ∨ nuN c = true ∨ c = 40 ∨ c = 41 ∨ c = 44 then 3 else 1

section YRows
variable {p : Program} {l : Launch} {e : Env} {R : Room} {s : State} {m : MethodId} {args : Array Value} {below : List Frame} {meth : Method} {c : Code} {H : Heap} {locs : List Loc} {cells slots : Nat} {Q : State → Prop} {cc : ByteArray} {pc : Nat} {ls : Array Slot} {rest : List Value}
theorem y_eqi {x y : Int32} (h : x = y) (k : W p l e R s m args below meth c H locs cells slots Q (F0 m pc ls (.int y :: rest))) : W p l e R s m args below meth c H locs cells slots Q (F0 m pc ls (.int x :: rest)) := h ▸ k
theorem y_eql {x y : Int64} (h : x = y) (k : W p l e R s m args below meth c H locs cells slots Q (F0 m pc ls (.long y :: rest))) : W p l e R s m args below meth c H locs cells slots Q (F0 m pc ls (.long x :: rest)) := h ▸ k
theorem yn_icmp_eq {a b : Nat} {off : Int} {tgt : Nat} (hexec : p.tables.exec = Jvm.exec) (hb0 : c.code = cc) (hdg : decode cc pc = .ok (.if_icmp .eq off, 3)) (ht : (pc : Int) + off = (tgt : Int)) (ha : a < 2 ^ 31) (hb : b < 2 ^ 31) (kt : a = b → W p l e R s m args below meth c H locs cells slots Q (F0 m tgt ls rest)) (kf : ¬ a = b → W p l e R s m args below meth c H locs cells slots Q (F0 m (pc + 3) ls rest)) : W p l e R s m args below meth c H locs cells slots Q (F0 m pc ls (.int (nI b) :: .int (nI a) :: rest)) :=
  lv_icmp_eq hexec hb0 hdg ht (fun h => kt ((nI_eq ha hb).mp h)) (fun h => kf (fun q => h (by rw [q])))
theorem yn_icmp_ne {a b : Nat} {off : Int} {tgt : Nat} (hexec : p.tables.exec = Jvm.exec) (hb0 : c.code = cc) (hdg : decode cc pc = .ok (.if_icmp .ne off, 3)) (ht : (pc : Int) + off = (tgt : Int)) (ha : a < 2 ^ 31) (hb : b < 2 ^ 31) (kt : ¬ a = b → W p l e R s m args below meth c H locs cells slots Q (F0 m tgt ls rest)) (kf : a = b → W p l e R s m args below meth c H locs cells slots Q (F0 m (pc + 3) ls rest)) : W p l e R s m args below meth c H locs cells slots Q (F0 m pc ls (.int (nI b) :: .int (nI a) :: rest)) :=
  lv_icmp_ne hexec hb0 hdg ht (fun h => kt (fun q => h (by rw [q]))) (fun h => kf ((nI_eq ha hb).mp h))
theorem yn_icmp_lt {a b : Nat} {off : Int} {tgt : Nat} (hexec : p.tables.exec = Jvm.exec) (hb0 : c.code = cc) (hdg : decode cc pc = .ok (.if_icmp .lt off, 3)) (ht : (pc : Int) + off = (tgt : Int)) (ha : a < 2 ^ 31) (hb : b < 2 ^ 31) (kt : a < b → W p l e R s m args below meth c H locs cells slots Q (F0 m tgt ls rest)) (kf : b ≤ a → W p l e R s m args below meth c H locs cells slots Q (F0 m (pc + 3) ls rest)) : W p l e R s m args below meth c H locs cells slots Q (F0 m pc ls (.int (nI b) :: .int (nI a) :: rest)) :=
  lv_icmp_lt hexec hb0 hdg ht (fun h => kt ((nI_ltI ha hb).mp h)) (fun h => kf (Nat.not_lt.mp fun q => h (nI_lt q hb)))
theorem yn_icmp_ge {a b : Nat} {off : Int} {tgt : Nat} (hexec : p.tables.exec = Jvm.exec) (hb0 : c.code = cc) (hdg : decode cc pc = .ok (.if_icmp .ge off, 3)) (ht : (pc : Int) + off = (tgt : Int)) (ha : a < 2 ^ 31) (hb : b < 2 ^ 31) (kt : b ≤ a → W p l e R s m args below meth c H locs cells slots Q (F0 m tgt ls rest)) (kf : a < b → W p l e R s m args below meth c H locs cells slots Q (F0 m (pc + 3) ls rest)) : W p l e R s m args below meth c H locs cells slots Q (F0 m pc ls (.int (nI b) :: .int (nI a) :: rest)) :=
  lv_icmp_ge hexec hb0 hdg ht (fun h => kt ((nI_leI hb ha).mp h)) (fun h => kf (Nat.not_le.mp fun q => h (nI_le q ha)))
theorem yn_icmp_gt {a b : Nat} {off : Int} {tgt : Nat} (hexec : p.tables.exec = Jvm.exec) (hb0 : c.code = cc) (hdg : decode cc pc = .ok (.if_icmp .gt off, 3)) (ht : (pc : Int) + off = (tgt : Int)) (ha : a < 2 ^ 31) (hb : b < 2 ^ 31) (kt : b < a → W p l e R s m args below meth c H locs cells slots Q (F0 m tgt ls rest)) (kf : a ≤ b → W p l e R s m args below meth c H locs cells slots Q (F0 m (pc + 3) ls rest)) : W p l e R s m args below meth c H locs cells slots Q (F0 m pc ls (.int (nI b) :: .int (nI a) :: rest)) :=
  lv_icmp_gt hexec hb0 hdg ht (fun h => kt ((nI_ltI hb ha).mp h)) (fun h => kf (Nat.not_lt.mp fun q => h (nI_lt q ha)))
theorem yn_icmp_le {a b : Nat} {off : Int} {tgt : Nat} (hexec : p.tables.exec = Jvm.exec) (hb0 : c.code = cc) (hdg : decode cc pc = .ok (.if_icmp .le off, 3)) (ht : (pc : Int) + off = (tgt : Int)) (ha : a < 2 ^ 31) (hb : b < 2 ^ 31) (kt : a ≤ b → W p l e R s m args below meth c H locs cells slots Q (F0 m tgt ls rest)) (kf : b < a → W p l e R s m args below meth c H locs cells slots Q (F0 m (pc + 3) ls rest)) : W p l e R s m args below meth c H locs cells slots Q (F0 m pc ls (.int (nI b) :: .int (nI a) :: rest)) :=
  lv_icmp_le hexec hb0 hdg ht (fun h => kt ((nI_leI ha hb).mp h)) (fun h => kf (Nat.not_le.mp fun q => h (nI_le q hb)))
theorem yn_if_eq {a : Nat} {off : Int} {tgt : Nat} (hexec : p.tables.exec = Jvm.exec) (hb0 : c.code = cc) (hdg : decode cc pc = .ok (.ifCond .eq off, 3)) (ht : (pc : Int) + off = (tgt : Int)) (ha : a < 2 ^ 31) (kt : a = 0 → W p l e R s m args below meth c H locs cells slots Q (F0 m tgt ls rest)) (kf : ¬ a = 0 → W p l e R s m args below meth c H locs cells slots Q (F0 m (pc + 3) ls rest)) : W p l e R s m args below meth c H locs cells slots Q (F0 m pc ls (.int (nI a) :: rest)) :=
  lv_if_eq hexec hb0 hdg ht (fun h => kt (Classical.byContradiction fun q => nI_ne0 (Nat.pos_of_ne_zero q) ha h)) (fun h => kf (fun q => h (by rw [q]; rfl)))
theorem yn_if_ne {a : Nat} {off : Int} {tgt : Nat} (hexec : p.tables.exec = Jvm.exec) (hb0 : c.code = cc) (hdg : decode cc pc = .ok (.ifCond .ne off, 3)) (ht : (pc : Int) + off = (tgt : Int)) (ha : a < 2 ^ 31) (kt : ¬ a = 0 → W p l e R s m args below meth c H locs cells slots Q (F0 m tgt ls rest)) (kf : a = 0 → W p l e R s m args below meth c H locs cells slots Q (F0 m (pc + 3) ls rest)) : W p l e R s m args below meth c H locs cells slots Q (F0 m pc ls (.int (nI a) :: rest)) :=
  lv_if_ne hexec hb0 hdg ht (fun h => kt (fun q => h (by rw [q]; rfl))) (fun h => kf (Classical.byContradiction fun q => nI_ne0 (Nat.pos_of_ne_zero q) ha h))
theorem yn_if_lt {a : Nat} {off : Int} {tgt : Nat} (hexec : p.tables.exec = Jvm.exec) (hb0 : c.code = cc) (hdg : decode cc pc = .ok (.ifCond .lt off, 3)) (ht : (pc : Int) + off = (tgt : Int)) (ha : a < 2 ^ 31) (kt : False → W p l e R s m args below meth c H locs cells slots Q (F0 m tgt ls rest)) (kf : True → W p l e R s m args below meth c H locs cells slots Q (F0 m (pc + 3) ls rest)) : W p l e R s m args below meth c H locs cells slots Q (F0 m pc ls (.int (nI a) :: rest)) :=
  lv_if_lt hexec hb0 hdg ht (fun h => (nI_pos ha h).elim) (fun _ => kf trivial)
theorem yn_if_ge {a : Nat} {off : Int} {tgt : Nat} (hexec : p.tables.exec = Jvm.exec) (hb0 : c.code = cc) (hdg : decode cc pc = .ok (.ifCond .ge off, 3)) (ht : (pc : Int) + off = (tgt : Int)) (ha : a < 2 ^ 31) (kt : True → W p l e R s m args below meth c H locs cells slots Q (F0 m tgt ls rest)) (kf : False → W p l e R s m args below meth c H locs cells slots Q (F0 m (pc + 3) ls rest)) : W p l e R s m args below meth c H locs cells slots Q (F0 m pc ls (.int (nI a) :: rest)) :=
  lv_if_ge hexec hb0 hdg ht (fun _ => kt trivial) (fun h => (h (nI_pos' ha)).elim)
theorem yn_if_gt {a : Nat} {off : Int} {tgt : Nat} (hexec : p.tables.exec = Jvm.exec) (hb0 : c.code = cc) (hdg : decode cc pc = .ok (.ifCond .gt off, 3)) (ht : (pc : Int) + off = (tgt : Int)) (ha : a < 2 ^ 31) (kt : 0 < a → W p l e R s m args below meth c H locs cells slots Q (F0 m tgt ls rest)) (kf : a = 0 → W p l e R s m args below meth c H locs cells slots Q (F0 m (pc + 3) ls rest)) : W p l e R s m args below meth c H locs cells slots Q (F0 m pc ls (.int (nI a) :: rest)) :=
  lv_if_gt hexec hb0 hdg ht (fun h => kt (Nat.pos_of_ne_zero fun q => absurd h (by rw [q]; decide))) (fun h => kf (Classical.byContradiction fun q => h (nI_lt (a := 0) (Nat.pos_of_ne_zero q) ha)))
theorem yn_if_le {a : Nat} {off : Int} {tgt : Nat} (hexec : p.tables.exec = Jvm.exec) (hb0 : c.code = cc) (hdg : decode cc pc = .ok (.ifCond .le off, 3)) (ht : (pc : Int) + off = (tgt : Int)) (ha : a < 2 ^ 31) (kt : a = 0 → W p l e R s m args below meth c H locs cells slots Q (F0 m tgt ls rest)) (kf : 0 < a → W p l e R s m args below meth c H locs cells slots Q (F0 m (pc + 3) ls rest)) : W p l e R s m args below meth c H locs cells slots Q (F0 m pc ls (.int (nI a) :: rest)) :=
  lv_if_le hexec hb0 hdg ht (fun h => kt (Classical.byContradiction fun q => nI_nle (Nat.pos_of_ne_zero q) ha h)) (fun h => kf (Nat.pos_of_ne_zero fun q => h (by rw [q]; decide)))
theorem yz_if_eq {P : Prop} [Decidable P] {off : Int} {tgt : Nat} (hexec : p.tables.exec = Jvm.exec) (hb0 : c.code = cc) (hdg : decode cc pc = .ok (.ifCond .eq off, 3)) (ht : (pc : Int) + off = (tgt : Int)) (kt : ¬ P → W p l e R s m args below meth c H locs cells slots Q (F0 m tgt ls rest)) (kf : P → W p l e R s m args below meth c H locs cells slots Q (F0 m (pc + 3) ls rest)) : W p l e R s m args below meth c H locs cells slots Q (F0 m pc ls (.int (bz (decide P)) :: rest)) :=
  lv_if_eq hexec hb0 hdg ht (fun h => kt (fun q => bz_n0 q h)) (fun h => kf (Classical.byContradiction fun q => h (bz_f q).symm))
theorem yz_if_ne {P : Prop} [Decidable P] {off : Int} {tgt : Nat} (hexec : p.tables.exec = Jvm.exec) (hb0 : c.code = cc) (hdg : decode cc pc = .ok (.ifCond .ne off, 3)) (ht : (pc : Int) + off = (tgt : Int)) (kt : P → W p l e R s m args below meth c H locs cells slots Q (F0 m tgt ls rest)) (kf : ¬ P → W p l e R s m args below meth c H locs cells slots Q (F0 m (pc + 3) ls rest)) : W p l e R s m args below meth c H locs cells slots Q (F0 m pc ls (.int (bz (decide P)) :: rest)) :=
  lv_if_ne hexec hb0 hdg ht (fun h => kt (Classical.byContradiction fun q => h (bz_f q).symm)) (fun h => kf (fun q => bz_n0 q h))
theorem yy_if_eq {P : Bool} {off : Int} {tgt : Nat} (hexec : p.tables.exec = Jvm.exec) (hb0 : c.code = cc) (hdg : decode cc pc = .ok (.ifCond .eq off, 3)) (ht : (pc : Int) + off = (tgt : Int)) (kt : P = false → W p l e R s m args below meth c H locs cells slots Q (F0 m tgt ls rest)) (kf : P = true → W p l e R s m args below meth c H locs cells slots Q (F0 m (pc + 3) ls rest)) : W p l e R s m args below meth c H locs cells slots Q (F0 m pc ls (.int (bz P) :: rest)) := by
  refine lv_if_eq hexec hb0 hdg ht (fun h => kt ?_) (fun h => kf ?_) <;> (cases P <;> first | rfl | exact absurd h (by decide) | exact absurd (by decide) h)
theorem yy_if_ne {P : Bool} {off : Int} {tgt : Nat} (hexec : p.tables.exec = Jvm.exec) (hb0 : c.code = cc) (hdg : decode cc pc = .ok (.ifCond .ne off, 3)) (ht : (pc : Int) + off = (tgt : Int)) (kt : P = true → W p l e R s m args below meth c H locs cells slots Q (F0 m tgt ls rest)) (kf : P = false → W p l e R s m args below meth c H locs cells slots Q (F0 m (pc + 3) ls rest)) : W p l e R s m args below meth c H locs cells slots Q (F0 m pc ls (.int (bz P) :: rest)) := by
  refine lv_if_ne hexec hb0 hdg ht (fun h => kt ?_) (fun h => kf ?_) <;> (cases P <;> first | rfl | exact absurd h (by decide) | exact absurd (by decide) h)
theorem yh_icmp_eq {a b : Nat} {off : Int} {tgt : Nat} (hexec : p.tables.exec = Jvm.exec) (hb0 : c.code = cc) (hdg : decode cc pc = .ok (.if_icmp .eq off, 3)) (ht : (pc : Int) + off = (tgt : Int)) (ha : a ≤ 256) (hb : b < 256) (kt : a = b → W p l e R s m args below meth c H locs cells slots Q (F0 m tgt ls rest)) (kf : ¬ a = b → W p l e R s m args below meth c H locs cells slots Q (F0 m (pc + 3) ls rest)) : W p l e R s m args below meth c H locs cells slots Q (F0 m pc ls (.int (nI b) :: .int (toI a) :: rest)) :=
  lv_icmp_eq hexec hb0 hdg ht (fun h => kt ((toI_eq ha hb).mp h)) (fun h => kf (fun q => h ((toI_eq ha hb).mpr q)))
theorem yb_icmp_eq {a b : Nat} {off : Int} {tgt : Nat} (hexec : p.tables.exec = Jvm.exec) (hb0 : c.code = cc) (hdg : decode cc pc = .ok (.if_icmp .eq off, 3)) (ht : (pc : Int) + off = (tgt : Int)) (ha : a < 256) (hb : b < 128) (kt : a = b → W p l e R s m args below meth c H locs cells slots Q (F0 m tgt ls rest)) (kf : ¬ a = b → W p l e R s m args below meth c H locs cells slots Q (F0 m (pc + 3) ls rest)) : W p l e R s m args below meth c H locs cells slots Q (F0 m pc ls (.int (nI b) :: .int (sb_b a) :: rest)) :=
  lv_icmp_eq hexec hb0 hdg ht (fun h => kt ((sb_eqN ha hb).mp h)) (fun h => kf (fun q => h ((sb_eqN ha hb).mpr q)))
theorem ye_icmp_eq {a : Nat} {off : Int} {tgt : Nat} (hexec : p.tables.exec = Jvm.exec) (hb0 : c.code = cc) (hdg : decode cc pc = .ok (.if_icmp .eq off, 3)) (ht : (pc : Int) + off = (tgt : Int)) (ha : a ≤ 256) (kt : a = 256 → W p l e R s m args below meth c H locs cells slots Q (F0 m tgt ls rest)) (kf : ¬ a = 256 → W p l e R s m args below meth c H locs cells slots Q (F0 m (pc + 3) ls rest)) : W p l e R s m args below meth c H locs cells slots Q (F0 m pc ls (.int (-1) :: .int (toI a) :: rest)) :=
  lv_icmp_eq hexec hb0 hdg ht (fun h => kt ((toI_end ha).mp h)) (fun h => kf (fun q => h ((toI_end ha).mpr q)))
theorem yh_icmp_ne {a b : Nat} {off : Int} {tgt : Nat} (hexec : p.tables.exec = Jvm.exec) (hb0 : c.code = cc) (hdg : decode cc pc = .ok (.if_icmp .ne off, 3)) (ht : (pc : Int) + off = (tgt : Int)) (ha : a ≤ 256) (hb : b < 256) (kt : ¬ a = b → W p l e R s m args below meth c H locs cells slots Q (F0 m tgt ls rest)) (kf : a = b → W p l e R s m args below meth c H locs cells slots Q (F0 m (pc + 3) ls rest)) : W p l e R s m args below meth c H locs cells slots Q (F0 m pc ls (.int (nI b) :: .int (toI a) :: rest)) :=
  lv_icmp_ne hexec hb0 hdg ht (fun h => kt (fun q => h ((toI_eq ha hb).mpr q))) (fun h => kf ((toI_eq ha hb).mp h))
theorem yb_icmp_ne {a b : Nat} {off : Int} {tgt : Nat} (hexec : p.tables.exec = Jvm.exec) (hb0 : c.code = cc) (hdg : decode cc pc = .ok (.if_icmp .ne off, 3)) (ht : (pc : Int) + off = (tgt : Int)) (ha : a < 256) (hb : b < 128) (kt : ¬ a = b → W p l e R s m args below meth c H locs cells slots Q (F0 m tgt ls rest)) (kf : a = b → W p l e R s m args below meth c H locs cells slots Q (F0 m (pc + 3) ls rest)) : W p l e R s m args below meth c H locs cells slots Q (F0 m pc ls (.int (nI b) :: .int (sb_b a) :: rest)) :=
  lv_icmp_ne hexec hb0 hdg ht (fun h => kt (fun q => h ((sb_eqN ha hb).mpr q))) (fun h => kf ((sb_eqN ha hb).mp h))
theorem ye_icmp_ne {a : Nat} {off : Int} {tgt : Nat} (hexec : p.tables.exec = Jvm.exec) (hb0 : c.code = cc) (hdg : decode cc pc = .ok (.if_icmp .ne off, 3)) (ht : (pc : Int) + off = (tgt : Int)) (ha : a ≤ 256) (kt : ¬ a = 256 → W p l e R s m args below meth c H locs cells slots Q (F0 m tgt ls rest)) (kf : a = 256 → W p l e R s m args below meth c H locs cells slots Q (F0 m (pc + 3) ls rest)) : W p l e R s m args below meth c H locs cells slots Q (F0 m pc ls (.int (-1) :: .int (toI a) :: rest)) :=
  lv_icmp_ne hexec hb0 hdg ht (fun h => kt (fun q => h ((toI_end ha).mpr q))) (fun h => kf ((toI_end ha).mp h))
variable {D : va_G} {cl : List vw_C} {A : Nat → Prop} {a : Nat} {tys : List (ClassId × FieldType)} {ws : va_W} {H0 : Heap}
theorem yn_iald (hexec : p.tables.exec = Jvm.exec) (hb : c.code = cc) (hK : va_K D cl tys s) (hP : va_P D cl ws H) (q0 t0 : Nat) {cA : ClassId} {n : Nat} {f : Nat → Int32} (ha : ws[q0]? = some (a, .inl (cA, n, .inl f))) (ht : tys[t0]? = some (cA, .int)) {j : Nat} {x : Int32} (hx : f j = x) (hj : j < n) (hn : n < 2 ^ 31) (hdg : decode cc pc = .ok (.iaload, 1)) (kk : W p l e R s m args below meth c H locs cells slots Q (F0 m (pc + 1) ls (.int x :: rest))) : W p l e R s m args below meth c H locs cells slots Q (F0 m pc ls (.int (nI j) :: .ref a :: rest)) := by
  refine va_iald hexec hb hK hP q0 t0 ha ht (vp_in_nI hj hn) hdg ?_
  rw [nI_clamp (Nat.lt_trans hj hn), hx]
  exact kk
theorem yn_iast (hexec : p.tables.exec = Jvm.exec) (hb : c.code = cc) (hK : va_K D cl tys s) (hP : va_P D cl ws H) (hD : va_D A ws) (hS : va_S A H0 H locs) (q0 t0 : Nat) {cA : ClassId} {n : Nat} {f f1 : Nat → Int32} (ha : ws[q0]? = some (a, .inl (cA, n, .inl f))) (ht : tys[t0]? = some (cA, .int)) {j : Nat} {x : Int32} (hf : upd f j x = f1) (hj : j < n) (hn : n < 2 ^ 31) (hdg : decode cc pc = .ok (.iastore, 1)) (kk : ∀ (H1 : Heap) (locs1 : List Loc), va_P D cl (ws.set q0 (a, .inl (cA, n, .inl f1))) H1 → va_D A (ws.set q0 (a, .inl (cA, n, .inl f1))) → va_S A H0 H1 locs1 → W p l e R s m args below meth c H1 locs1 cells slots Q (F0 m (pc + 1) ls rest)) : W p l e R s m args below meth c H locs cells slots Q (F0 m pc ls (.int x :: .int (nI j) :: .ref a :: rest)) := by
  refine va_iast hexec hb hK hP hD hS q0 t0 ha ht (vp_in_nI hj hn) hdg ?_
  rw [nI_clamp (Nat.lt_trans hj hn), hf]
  exact kk
theorem yn_bald (hexec : p.tables.exec = Jvm.exec) (hb : c.code = cc) (hK : va_K D cl tys s) (hP : va_P D cl ws H) (q0 t0 : Nat) {cA : ClassId} {n : Nat} {f : Nat → Int32} (ha : ws[q0]? = some (a, .inl (cA, n, .inl f))) (ht : tys[t0]? = some (cA, .byte)) {j : Nat} {x : Int32} (hx : f j = x) (hj : j < n) (hn : n < 2 ^ 31) (hdg : decode cc pc = .ok (.baload, 1)) (kk : W p l e R s m args below meth c H locs cells slots Q (F0 m (pc + 1) ls (.int x :: rest))) : W p l e R s m args below meth c H locs cells slots Q (F0 m pc ls (.int (nI j) :: .ref a :: rest)) := by
  refine va_bald hexec hb hK hP q0 t0 ha ht (vp_in_nI hj hn) hdg ?_
  rw [nI_clamp (Nat.lt_trans hj hn), hx]
  exact kk
theorem yn_bast (hexec : p.tables.exec = Jvm.exec) (hb : c.code = cc) (hK : va_K D cl tys s) (hP : va_P D cl ws H) (hD : va_D A ws) (hS : va_S A H0 H locs) (q0 t0 : Nat) {cA : ClassId} {n : Nat} {f f1 : Nat → Int32} (ha : ws[q0]? = some (a, .inl (cA, n, .inl f))) (ht : tys[t0]? = some (cA, .byte)) {j : Nat} {x : Int32} (hf : upd f j (vp_nar .byte x) = f1) (hj : j < n) (hn : n < 2 ^ 31) (hdg : decode cc pc = .ok (.bastore, 1)) (kk : ∀ (H1 : Heap) (locs1 : List Loc), va_P D cl (ws.set q0 (a, .inl (cA, n, .inl f1))) H1 → va_D A (ws.set q0 (a, .inl (cA, n, .inl f1))) → va_S A H0 H1 locs1 → W p l e R s m args below meth c H1 locs1 cells slots Q (F0 m (pc + 1) ls rest)) : W p l e R s m args below meth c H locs cells slots Q (F0 m pc ls (.int x :: .int (nI j) :: .ref a :: rest)) := by
  refine va_bast hexec hb hK hP hD hS q0 t0 ha ht (vp_in_nI hj hn) hdg ?_
  rw [nI_clamp (Nat.lt_trans hj hn), hf]
  exact kk
end YRows
theorem y_inc (a : Nat) : nI a + Int32.ofInt 1 = nI (a + 1) := nI_1 a
theorem y_dec {a : Nat} (h : 0 < a) : nI a + Int32.ofInt (-1) = nI (a - 1) := sb_m1 h
theorem y_decS {a : Nat} (h : 1 ≤ a) : nI a - nI 1 = nI (a - 1) := pk_sub h
/-- the words of a virtual call of a method of class C -/
theorem gV {own C : String} {index maxL n fr lo : Nat} {y : MethodName} {bytes : ByteArray} {ret : Option FieldType} {R : Room} {s : State} {args : Array Value} (hg : ∀ w ∈ GT, w.before args s = true) (h1 : Cond.methodLink own index y ∈ GT) (h2 : Cond.instanceMethod y ∈ GT) (h3 : Cond.selects C y y ∈ GT) (h4 : Cond.initialized y.cls ∈ GT) (h5 : Cond.code y bytes maxL ret ∈ GT)
    (hd : y.cls ≠ "java/lang/invoke/MethodHandle" ∧ y.cls ≠ "java/lang/invoke/VarHandle" ∧ (parseMethodDescriptor y.desc).map (fun d => d.parameters.length) = some n) (hR : fr + 1 ≤ R.frames ∧ 8 + (maxL + 11) + lo ≤ R.locals) : YB R s args own index y bytes maxL ret fr lo n ∧ (Cond.instanceMethod y).before args s = true ∧ (Cond.selects C y y).before args s = true := by
  have hG : GoodIn GT (Cond.code y bytes maxL ret :: GT) := fun w hw => (List.mem_cons.mp hw).elim (fun e => by rw [e]; exact gt_in _ h5) (gt_in w)
  exact ⟨callB_of n hg hG rfl rfl rfl (hg _ h4) (hg _ h1) hd hR, hg _ h2, hg _ h3⟩
theorem gS {own : String} {index maxL n fr lo : Nat} {y : MethodName} {bytes : ByteArray} {ret : Option FieldType} {R : Room} {s : State} {args : Array Value} (hg : ∀ w ∈ GT, w.before args s = true) (h1 : Cond.methodLink own index y ∈ GT) (h2 : Cond.static y ∈ GT) (h4 : Cond.initialized y.cls ∈ GT) (h5 : Cond.code y bytes maxL ret ∈ GT)
    (hd : y.cls ≠ "java/lang/invoke/MethodHandle" ∧ y.cls ≠ "java/lang/invoke/VarHandle" ∧ (parseMethodDescriptor y.desc).map (fun d => d.parameters.length) = some n) (hR : fr + 1 ≤ R.frames ∧ 8 + (maxL + 11) + lo ≤ R.locals) : YB R s args own index y bytes maxL ret fr lo n ∧ (Cond.static y).before args s = true := by
  have hG : GoodIn GT (Cond.code y bytes maxL ret :: GT) := fun w hw => (List.mem_cons.mp hw).elim (fun e => by rw [e]; exact gt_in _ h5) (gt_in w)
  exact ⟨callB_of n hg hG rfl rfl rfl (hg _ h4) (hg _ h1) hd hR, hg _ h2⟩
theorem gSN {own host : String} {index maxL n fr lo : Nat} {y : MethodName} {bytes : ByteArray} {ret : Option FieldType} {R : Room} {s : State} {args : Array Value} (hg : ∀ w ∈ GT, w.before args s = true) (h1 : va_Nw (.methodLinkNest own index y host) s) (h2 : Cond.static y ∈ GT) (h4 : Cond.initialized y.cls ∈ GT) (h5 : Cond.code y bytes maxL ret ∈ GT)
    (hd : y.cls ≠ "java/lang/invoke/MethodHandle" ∧ y.cls ≠ "java/lang/invoke/VarHandle" ∧ (parseMethodDescriptor y.desc).map (fun d => d.parameters.length) = some n) (hR : fr + 1 ≤ R.frames ∧ 8 + (maxL + 11) + lo ≤ R.locals) : YN R s args own index host y bytes maxL ret fr lo n := by
  have hG : GoodIn GT (Cond.code y bytes maxL ret :: GT) := fun w hw => (List.mem_cons.mp hw).elim (fun e => by rw [e]; exact gt_in _ h5) (gt_in w)
  refine ⟨hR.1, hR.2, pay_in hg hG, hg _ h5, hg _ h4, ⟨hd.1, hd.2.1⟩, fun sig h => ?_, va_Nw.use rfl h1, hg _ h2⟩
  have h2 := hd.2.2
  rw [h] at h2
  exact (Option.some.inj h2).symm
/-- the worlds: a Shape, Brackets, the Reader with its text, draft and brackets -/
abbrev wS (G : gl) (h : Nat → Nat) (np no : Nat) (k c : Nat) (f o : Nat → Int32) : va_W := [(h 0, .inr (2, [.ref (h 1), .ref (h 2), .int (nI k), .int (nI c)])), (h 1, .inl (gc G 0, np, .inl f)), (h 2, .inl (gc G 0, no, .inl o))]
abbrev wSS (G : gl) (h u : Nat → Nat) (np no : Nat) (k c : Nat) (f o : Nat → Int32) (k2 c2 : Nat) (f2 o2 : Nat → Int32) : va_W := [(h 0, .inr (2, [.ref (h 1), .ref (h 2), .int (nI k), .int (nI c)])), (h 1, .inl (gc G 0, np, .inl f)), (h 2, .inl (gc G 0, no, .inl o)), (u 0, .inr (2, [.ref (u 1), .ref (u 2), .int (nI k2), .int (nI c2)])), (u 1, .inl (gc G 0, np, .inl f2)), (u 2, .inl (gc G 0, no, .inl o2))]
abbrev wR (G : gl) (h : Nat → Nat) (dg n p fk fp : Nat) (t : Nat → Nat) (np no k c : Nat) (f o : Nat → Int32) (bt : Nat) (bk bn : Nat → Int32) : va_W := [(h 0, .inr (1, [.ref (h 1), .int (nI dg), .ref (h 2), .ref (h 5), .int (nI n), .int (nI p), .int (nI fk), .int (nI fp)])), (h 1, .inl (gc G 1, 65536, .inl (fun i => sb_b (t i)))), (h 2, .inr (2, [.ref (h 3), .ref (h 4), .int (nI k), .int (nI c)])), (h 3, .inl (gc G 0, np, .inl f)), (h 4, .inl (gc G 0, no, .inl o)), (h 5, .inr (0, [.ref (h 6), .ref (h 7), .int (nI bt)])), (h 6, .inl (gc G 0, 54, .inl bk)), (h 7, .inl (gc G 0, 54, .inl bn))]
abbrev wB (G : gl) (h : Nat → Nat) (t : Nat) (f g : Nat → Int32) : va_W := [(h 0, .inr (0, [.ref (h 1), .ref (h 2), .int (nI t)])), (h 1, .inl (gc G 0, 54, .inl f)), (h 2, .inl (gc G 0, 54, .inl g))]
/-! numbers: exact rounding, and the class's and the reference's caps -/
/-- the digits between two places, W of them whole units: units, digits seen, the first behind them, whether any later one is not 0 -/
def exF (t : Nat → Nat) (W : Int) : Nat → Nat → Nat → Nat → Nat → Bool → Nat × Nat × Nat × Bool
  | 0, _, u, sn, te, mo => (u, sn, te, mo)
  | m + 1, i, u, sn, te, mo => if diN (t i) = true then (if (sn : Int) < W then exF t W m (i + 1) (10 * u + (t i - 48)) (sn + 1) te mo else if (sn : Int) = W then exF t W m (i + 1) u (sn + 1) (t i - 48) mo else exF t W m (i + 1) u (sn + 1) te (mo || decide (t i ≠ 48))) else exF t W m (i + 1) u sn te mo
def rndU (u te : Nat) (mo : Bool) : Nat := if te > 5 ∨ (te = 5 ∧ (mo = true ∨ u % 2 = 1)) then u + 1 else u
def exQ (W : Int) (s : Nat × Nat × Nat × Bool) : Nat := rndU (s.1 * 10 ^ (W - s.2.1).toNat) s.2.2.1 s.2.2.2
def exR (t : Nat → Nat) (a b : Nat) (W : Int) : Nat := exQ W (exF t W (b - a) a 0 0 0 false)
/-- the same up to the cap, or both beyond it -/
def cpr (K ue u : Nat) : Prop := (ue ≤ K → u = ue) ∧ (K < ue → K < u)
def tfU (K u : Nat) : Nat := if K < u then u else 10 * u
theorem cpr_step {K ue u : Nat} (d : Nat) (h : cpr K ue u) : cpr K (10 * ue + d) (tfU K u + d) := by
  obtain ⟨h1, h2⟩ := h
  unfold tfU
  by_cases q : ue ≤ K
  · have := h1 q
    subst this
    rw [if_neg (by omega)]
    exact ⟨fun _ => rfl, fun h => h⟩
  · have := h2 (by omega)
    rw [if_pos this]
    exact ⟨fun h => by omega, fun _ => by omega⟩
theorem cpr_ten {K ue u : Nat} (h : cpr K ue u) : cpr K (10 * ue) (tfU K u) := cpr_step 0 h
theorem cpr_rnd {K ue u : Nat} (te : Nat) (mo : Bool) (h : cpr K ue u) : cpr K (rndU ue te mo) (rndU u te mo) := by
  obtain ⟨h1, h2⟩ := h
  by_cases q : ue ≤ K
  · rw [h1 q]
    exact ⟨fun _ => rfl, fun h => h⟩
  · have := h2 (by omega)
    have a1 : ue ≤ rndU ue te mo := by unfold rndU; split <;> omega
    have a2 : u ≤ rndU u te mo := by unfold rndU; split <;> omega
    exact ⟨fun h => by omega, fun _ => by omega⟩
theorem cpr_pow {ue u : Nat} {d : Nat} (h : cpr 1000000000 (ue * 10 ^ 10) u) (hd : 10 ≤ d) : cpr 1000000000 (ue * 10 ^ d) u := by
  obtain ⟨h1, h2⟩ := h
  by_cases q : ue = 0
  · subst q
    rw [Nat.zero_mul] at h1 h2 ⊢
    exact ⟨h1, h2⟩
  · have a1 : 10 ^ 10 ≤ 10 ^ d := Nat.pow_le_pow_right (by decide) hd
    have a2 : 1 * 10 ^ d ≤ ue * 10 ^ d := Nat.mul_le_mul_right _ (by omega)
    have a3 : 1 * 10 ^ 10 ≤ ue * 10 ^ 10 := Nat.mul_le_mul_right _ (by omega)
    have a4 := h2 (by omega)
    exact ⟨fun h => by omega, fun _ => a4⟩
theorem exF_skip {t : Nat → Nat} {W : Int} {a b i u sn te : Nat} {mo : Bool} (h : i < b) (hd : diN (t i) = false) : exF t W (b - i) i u sn te mo = exF t W (b - (i + 1)) (i + 1) u sn te mo := by
  rw [show b - i = (b - (i + 1)) + 1 by omega]
  simp only [exF, hd, if_false, Bool.false_eq_true]
theorem exF_lt {t : Nat → Nat} {W : Int} {b i u sn te : Nat} {mo : Bool} (h : i < b) (hd : diN (t i) = true) (hw : (sn : Int) < W) : exF t W (b - i) i u sn te mo = exF t W (b - (i + 1)) (i + 1) (10 * u + (t i - 48)) (sn + 1) te mo := by
  rw [show b - i = (b - (i + 1)) + 1 by omega]
  simp only [exF, hd, if_true, if_pos hw]
theorem exF_eq {t : Nat → Nat} {W : Int} {b i u sn te : Nat} {mo : Bool} (h : i < b) (hd : diN (t i) = true) (hw : (sn : Int) = W) : exF t W (b - i) i u sn te mo = exF t W (b - (i + 1)) (i + 1) u (sn + 1) (t i - 48) mo := by
  rw [show b - i = (b - (i + 1)) + 1 by omega]
  simp only [exF, hd, if_true]
  rw [if_neg (by omega), if_pos hw]
theorem exF_gt {t : Nat → Nat} {W : Int} {b i u sn te : Nat} {mo : Bool} (h : i < b) (hd : diN (t i) = true) (hw : W < (sn : Int)) : exF t W (b - i) i u sn te mo = exF t W (b - (i + 1)) (i + 1) u (sn + 1) te (mo || decide (t i ≠ 48)) := by
  rw [show b - i = (b - (i + 1)) + 1 by omega]
  simp only [exF, hd, if_true]
  rw [if_neg (by omega), if_neg (by omega)]
theorem exF_done {t : Nat → Nat} {W : Int} {b i u sn te : Nat} {mo : Bool} (h : b ≤ i) : exF t W (b - i) i u sn te mo = (u, sn, te, mo) := by
  rw [show b - i = 0 by omega]; rfl
theorem lN_a1 {n : Nat} (hn : n < 2 ^ 64) : lN n &&& lN 1 = lN (n % 2) := by
  apply Int64.toBitVec_inj.mp
  rw [Int64.toBitVec_and]
  show BitVec.ofNat 64 n &&& BitVec.ofNat 64 1 = BitVec.ofNat 64 (n % 2)
  apply BitVec.eq_of_toNat_eq
  rw [BitVec.toNat_and, BitVec.toNat_ofNat, BitVec.toNat_ofNat, BitVec.toNat_ofNat, Nat.mod_eq_of_lt hn, Nat.mod_eq_of_lt (show 1 < 2 ^ 64 by decide), Nat.and_one_is_mod, Nat.mod_eq_of_lt (show n % 2 < 2 ^ 64 by omega)]
theorem lgN {a b : Nat} (ha : a < 2 ^ 63) (hb : b < 2 ^ 63) : lg_cmp (lN a) (lN b) = if b < a then 1 else if a = b then 0 else -1 := by
  unfold lg_cmp
  by_cases h : b < a
  · rw [if_pos ((pk_lLT hb ha).mpr h), if_pos h]
  · rw [if_neg (fun q => h ((pk_lLT hb ha).mp q)), if_neg h]
    by_cases h2 : a = b
    · rw [if_pos ((pk_lEQ ha hb).mpr h2), if_pos h2]
    · rw [if_neg (fun q => h2 ((pk_lEQ ha hb).mp q)), if_neg h2]
theorem di_lo {c : Nat} (h : diN c = true) : 48 ≤ c ∧ c ≤ 57 := of_decide_eq_true h
theorem sb_dig : ∀ c, c < 256 → diN c = true → sb_b c - nI 48 = nI (c - 48) ∧ sb_b c = nI c := by decide +kernel
theorem le_toI {a : Nat} {w : Int32} (ha : a < 2 ^ 31) : w ≤ nI a ↔ w.toInt ≤ (a : Int) := by rw [Int32.le_iff_toInt_le, nI_toInt ha]
theorem eq_toI {a : Nat} {w : Int32} (ha : a < 2 ^ 31) : nI a = w ↔ (a : Int) = w.toInt := by rw [← Int32.toInt_inj, nI_toInt ha]
theorem bz_or (a b : Bool) : bz a ||| bz b = bz (a || b) := by cases a <;> cases b <;> decide
theorem i2lN {a : Nat} (h : a < 2 ^ 31) : (nI a).toInt64 = lN a := nI_l h

section YLong
variable {p : Program} {l : Launch} {e : Env} {R : Room} {s : State} {m : MethodId} {args : Array Value} {below : List Frame} {meth : Method} {c : Code} {H : Heap} {locs : List Loc} {cells slots : Nat} {Q : State → Prop} {cc : ByteArray} {pc : Nat} {ls : Array Slot} {rest : List Value}
theorem yl_eq {a b : Nat} {off : Int} {tgt : Nat} (hexec : p.tables.exec = Jvm.exec) (hb0 : c.code = cc) (hdg : decode cc pc = .ok (.lcmp, 1)) (hdg2 : decode cc (pc + 1) = .ok (.ifCond .eq off, 3)) (ht : ((pc + 1 : Nat) : Int) + off = (tgt : Int)) (ha : a < 2 ^ 63) (hb : b < 2 ^ 63) (kt : a = b → W p l e R s m args below meth c H locs cells slots Q (F0 m tgt ls rest)) (kf : ¬ a = b → W p l e R s m args below meth c H locs cells slots Q (F0 m (pc + 1 + 3) ls rest)) : W p l e R s m args below meth c H locs cells slots Q (F0 m pc ls (.long (lN b) :: .long (lN a) :: rest)) := by
  refine W.lcmp hexec hb0 hdg ?_
  rw [lgN ha hb]
  refine lv_if_eq hexec hb0 hdg2 ht (fun h => kt ?_) (fun h => kf ?_) <;> (rcases Nat.lt_trichotomy a b with q | q | q <;> (first | rw [if_neg (show ¬ b < a by omega), if_neg (show ¬ a = b by omega)] at h | rw [if_neg (show ¬ b < a by omega), if_pos q] at h | rw [if_pos q] at h) <;> first | omega | exact absurd h (by decide) | exact absurd (by decide) h)
theorem yl_ne {a b : Nat} {off : Int} {tgt : Nat} (hexec : p.tables.exec = Jvm.exec) (hb0 : c.code = cc) (hdg : decode cc pc = .ok (.lcmp, 1)) (hdg2 : decode cc (pc + 1) = .ok (.ifCond .ne off, 3)) (ht : ((pc + 1 : Nat) : Int) + off = (tgt : Int)) (ha : a < 2 ^ 63) (hb : b < 2 ^ 63) (kt : ¬ a = b → W p l e R s m args below meth c H locs cells slots Q (F0 m tgt ls rest)) (kf : a = b → W p l e R s m args below meth c H locs cells slots Q (F0 m (pc + 1 + 3) ls rest)) : W p l e R s m args below meth c H locs cells slots Q (F0 m pc ls (.long (lN b) :: .long (lN a) :: rest)) := by
  refine W.lcmp hexec hb0 hdg ?_
  rw [lgN ha hb]
  refine lv_if_ne hexec hb0 hdg2 ht (fun h => kt ?_) (fun h => kf ?_) <;> (rcases Nat.lt_trichotomy a b with q | q | q <;> (first | rw [if_neg (show ¬ b < a by omega), if_neg (show ¬ a = b by omega)] at h | rw [if_neg (show ¬ b < a by omega), if_pos q] at h | rw [if_pos q] at h) <;> first | omega | exact absurd h (by decide) | exact absurd (by decide) h)
theorem yl_lt {a b : Nat} {off : Int} {tgt : Nat} (hexec : p.tables.exec = Jvm.exec) (hb0 : c.code = cc) (hdg : decode cc pc = .ok (.lcmp, 1)) (hdg2 : decode cc (pc + 1) = .ok (.ifCond .lt off, 3)) (ht : ((pc + 1 : Nat) : Int) + off = (tgt : Int)) (ha : a < 2 ^ 63) (hb : b < 2 ^ 63) (kt : a < b → W p l e R s m args below meth c H locs cells slots Q (F0 m tgt ls rest)) (kf : b ≤ a → W p l e R s m args below meth c H locs cells slots Q (F0 m (pc + 1 + 3) ls rest)) : W p l e R s m args below meth c H locs cells slots Q (F0 m pc ls (.long (lN b) :: .long (lN a) :: rest)) := by
  refine W.lcmp hexec hb0 hdg ?_
  rw [lgN ha hb]
  refine lv_if_lt hexec hb0 hdg2 ht (fun h => kt ?_) (fun h => kf ?_) <;> (rcases Nat.lt_trichotomy a b with q | q | q <;> (first | rw [if_neg (show ¬ b < a by omega), if_neg (show ¬ a = b by omega)] at h | rw [if_neg (show ¬ b < a by omega), if_pos q] at h | rw [if_pos q] at h) <;> first | omega | exact absurd h (by decide) | exact absurd (by decide) h)
theorem yl_ge {a b : Nat} {off : Int} {tgt : Nat} (hexec : p.tables.exec = Jvm.exec) (hb0 : c.code = cc) (hdg : decode cc pc = .ok (.lcmp, 1)) (hdg2 : decode cc (pc + 1) = .ok (.ifCond .ge off, 3)) (ht : ((pc + 1 : Nat) : Int) + off = (tgt : Int)) (ha : a < 2 ^ 63) (hb : b < 2 ^ 63) (kt : b ≤ a → W p l e R s m args below meth c H locs cells slots Q (F0 m tgt ls rest)) (kf : a < b → W p l e R s m args below meth c H locs cells slots Q (F0 m (pc + 1 + 3) ls rest)) : W p l e R s m args below meth c H locs cells slots Q (F0 m pc ls (.long (lN b) :: .long (lN a) :: rest)) := by
  refine W.lcmp hexec hb0 hdg ?_
  rw [lgN ha hb]
  refine lv_if_ge hexec hb0 hdg2 ht (fun h => kt ?_) (fun h => kf ?_) <;> (rcases Nat.lt_trichotomy a b with q | q | q <;> (first | rw [if_neg (show ¬ b < a by omega), if_neg (show ¬ a = b by omega)] at h | rw [if_neg (show ¬ b < a by omega), if_pos q] at h | rw [if_pos q] at h) <;> first | omega | exact absurd h (by decide) | exact absurd (by decide) h)
theorem yl_gt {a b : Nat} {off : Int} {tgt : Nat} (hexec : p.tables.exec = Jvm.exec) (hb0 : c.code = cc) (hdg : decode cc pc = .ok (.lcmp, 1)) (hdg2 : decode cc (pc + 1) = .ok (.ifCond .gt off, 3)) (ht : ((pc + 1 : Nat) : Int) + off = (tgt : Int)) (ha : a < 2 ^ 63) (hb : b < 2 ^ 63) (kt : b < a → W p l e R s m args below meth c H locs cells slots Q (F0 m tgt ls rest)) (kf : a ≤ b → W p l e R s m args below meth c H locs cells slots Q (F0 m (pc + 1 + 3) ls rest)) : W p l e R s m args below meth c H locs cells slots Q (F0 m pc ls (.long (lN b) :: .long (lN a) :: rest)) := by
  refine W.lcmp hexec hb0 hdg ?_
  rw [lgN ha hb]
  refine lv_if_gt hexec hb0 hdg2 ht (fun h => kt ?_) (fun h => kf ?_) <;> (rcases Nat.lt_trichotomy a b with q | q | q <;> (first | rw [if_neg (show ¬ b < a by omega), if_neg (show ¬ a = b by omega)] at h | rw [if_neg (show ¬ b < a by omega), if_pos q] at h | rw [if_pos q] at h) <;> first | omega | exact absurd h (by decide) | exact absurd (by decide) h)
theorem yl_le {a b : Nat} {off : Int} {tgt : Nat} (hexec : p.tables.exec = Jvm.exec) (hb0 : c.code = cc) (hdg : decode cc pc = .ok (.lcmp, 1)) (hdg2 : decode cc (pc + 1) = .ok (.ifCond .le off, 3)) (ht : ((pc + 1 : Nat) : Int) + off = (tgt : Int)) (ha : a < 2 ^ 63) (hb : b < 2 ^ 63) (kt : a ≤ b → W p l e R s m args below meth c H locs cells slots Q (F0 m tgt ls rest)) (kf : b < a → W p l e R s m args below meth c H locs cells slots Q (F0 m (pc + 1 + 3) ls rest)) : W p l e R s m args below meth c H locs cells slots Q (F0 m pc ls (.long (lN b) :: .long (lN a) :: rest)) := by
  refine W.lcmp hexec hb0 hdg ?_
  rw [lgN ha hb]
  refine lv_if_le hexec hb0 hdg2 ht (fun h => kt ?_) (fun h => kf ?_) <;> (rcases Nat.lt_trichotomy a b with q | q | q <;> (first | rw [if_neg (show ¬ b < a by omega), if_neg (show ¬ a = b by omega)] at h | rw [if_neg (show ¬ b < a by omega), if_pos q] at h | rw [if_pos q] at h) <;> first | omega | exact absurd h (by decide) | exact absurd (by decide) h)
end YLong
