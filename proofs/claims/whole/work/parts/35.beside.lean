/-! what stands on one shelf -/
def hasB (P : Nat → Bool) : Nat → Bool
  | 0 => false
  | i + 1 => hasB P i || P i
theorem hasB_f {P : Nat → Bool} : ∀ {n : Nat}, (hasB P n = false) ↔ ∀ k, k < n → P k = false
  | 0 => ⟨fun _ k hk => absurd hk (by omega), fun _ => rfl⟩
  | n + 1 => by
    unfold hasB
    rw [Bool.or_eq_false_iff, hasB_f]
    constructor
    · intro h k hk
      by_cases e : k = n
      · subst e; exact h.2
      · exact h.1 k (by omega)
    · intro h
      exact ⟨fun k hk => h k (by omega), h n (by omega)⟩
def mixw : Bool → Bool → Nat
  | false, false => 0
  | true, false => 1
  | false, true => 2
  | true, true => 3
theorem mixw1 (a b : Bool) : nI (mixw a b) ||| nI 1 = nI (mixw true b) := by cases a <;> cases b <;> decide
theorem mixw2 (a b : Bool) : nI (mixw a b) ||| nI 2 = nI (mixw a true) := by cases a <;> cases b <;> decide
theorem mixw3 (a b : Bool) : (nI (mixw a b) = nI 3) = ((a && b) = true) := by
  apply propext
  cases a <;> cases b <;> decide
abbrev nh (T : Nat → Nat) (x : Nat) : Nat → Bool := fun p => x.testBit p && !decide (T p = 2)
abbrev yh (T : Nat → Nat) (x : Nat) : Nat → Bool := fun p => x.testBit p && decide (T p = 2)
def stn (W T : Nat → Nat) (sh n x : Nat) : Bool := decide (wsum W x n ≤ sh) && !(hasB (nh T x) n && hasB (yh T x) n)
theorem q_stand {n x sh : Nat} {g T : Nat → Nat} {s td : Nat → Int32} (hn : n ≤ 7) (h0 : td 0 = nI n) (h2 : td 2 = nI sh) (hT : ∀ j, j < n → T j ≤ 2 ∧ td (26 + j) = nI (T j)) (hx : x < 128) (hs : ∀ x, x < 49 → s x = nI (g x)) (hw : wsum (tot g) x n ≤ 420) (hsh : sh < 1000) : f_X8_stand td s (nI x) = some (bI (stn (tot g) T sh n x)) := by
  unfold f_X8_stand
  simp only [L0, L1, L2, L3, L4, L5, L6, L7, L8, L9, L10, L11, L12, L13, L19, L20, L26, L31, L32, L33, L48, L49, L50, L51, L57, L59, L60, L61, L98, L99, L100, L108, L112, L115, L127, L128, L200, L201, L255, L256, L257, L400, L401, L420, L459, L999, L1000, L5940]
  refine lup (fun q f => f_X8_stand_L7 td s (nI x) f (nI (wsum (tot g) x q)) (nI (mixw (hasB (nh T x) q) (hasB (yh T x) q))) (nI q)) n _ (fun q f hq => ?_) (fun f => ?_) 0 FU (by omega) (fu (by omega))
  · have hTq := hT q hq
    show f_X8_stand_B7 _ _ _ _ _ _ _ = _
    unfold f_X8_stand_B7 f_X8_isHail
    simp only [L0, L1, L2, L3, L4, L5, L6, L7, L8, L9, L10, L11, L12, L13, L19, L20, L26, L31, L32, L33, L48, L49, L50, L51, L57, L59, L60, L61, L98, L99, L100, L108, L112, L115, L127, L128, L200, L201, L255, L256, L257, L400, L401, L420, L459, L999, L1000, L5940]
    rw [qck (by omega) (by omega), qcl (by omega), h0, if_neg (nI_ge hq (by omega)), q_full hs (by omega), qbd]
    simp only [nI_add, mixw1, mixw2]
    rw [qck (show 26 + q < 33 by omega) (by omega), qcl (by omega), hTq.2]
    simp only [tb1 (show q < 8 by omega) (show x < 2147483648 by omega)]
    have e1 : wsum (tot g) x (q + 1) = wsum (tot g) x q + (if x.testBit q = true then tot g q else 0) := rfl
    have e2 : hasB (nh T x) (q + 1) = (hasB (nh T x) q || (x.testBit q && !decide (T q = 2))) := rfl
    have e3 : hasB (yh T x) (q + 1) = (hasB (yh T x) q || (x.testBit q && decide (T q = 2))) := rfl
    rw [e1, e2, e3]
    by_cases c : x.testBit q = true
    · rw [if_pos c, if_pos c, c]
      by_cases c2 : T q = 2
      · rw [if_pos (show nI (T q) = nI 2 by rw [c2]), qbd, if_neg (show ¬ nI 1 = nI 0 by decide), decide_eq_true c2]
        simp only [Bool.not_true, Bool.and_false, Bool.or_false, Bool.and_true, Bool.or_true]
      · rw [if_neg (show ¬ nI (T q) = nI 2 by rw [nI_eq (by omega) (by omega)]; exact c2), qbd, if_pos (show nI 0 = nI 0 from rfl), decide_eq_false c2]
        simp only [Bool.not_false, Bool.and_false, Bool.or_false, Bool.and_true, Bool.or_true]
    · rw [if_neg c, if_neg c, Bool.eq_false_iff.2 c]
      simp only [Bool.false_and, Bool.or_false, Nat.add_zero]
  · show f_X8_stand_B7 _ _ _ _ _ _ _ = _
    unfold f_X8_stand_B7 f_X8_stand_J60
    simp only [L0, L1, L2, L3, L4, L5, L6, L7, L8, L9, L10, L11, L12, L13, L19, L20, L26, L31, L32, L33, L48, L49, L50, L51, L57, L59, L60, L61, L98, L99, L100, L108, L112, L115, L127, L128, L200, L201, L255, L256, L257, L400, L401, L420, L459, L999, L1000, L5940]
    rw [qck (by omega) (by omega), qcl (by omega), h0, if_pos (nI_le (Nat.le_refl _) (by omega)), qck (by omega) (by omega), qcl (by omega), h2]
    simp only [mixw3]
    unfold stn
    by_cases c : wsum (tot g) x n ≤ sh
    · rw [if_neg (nI_nlt c (by omega)), decide_eq_true c]
      cases (hasB (nh T x) n && hasB (yh T x) n) <;> rfl
    · rw [if_pos (nI_lt (by omega) (by omega)), decide_eq_false c]
      rfl
theorem and_z {n x : Nat} {P : Nat → Bool} : (x &&& orb P n = 0) ↔ hasB (fun p => x.testBit p && P p) n = false := by
  rw [hasB_f]
  constructor
  · intro h k hk
    have := congrArg (fun y => Nat.testBit y k) h
    simp only [Nat.testBit_and, orb_bit, Nat.zero_testBit, hk, decide_true, Bool.true_and] at this
    exact this
  · intro h
    apply Nat.eq_of_testBit_eq
    intro i
    rw [Nat.testBit_and, orb_bit, Nat.zero_testBit]
    by_cases c : i < n
    · rw [decide_eq_true c, Bool.true_and]; exact h i c
    · rw [decide_eq_false c]; simp
theorem and_x {n x : Nat} {P : Nat → Bool} (hx : x < 2 ^ n) : (x &&& orb P n = x) ↔ hasB (fun p => x.testBit p && !P p) n = false := by
  rw [hasB_f]
  constructor
  · intro h k hk
    have := congrArg (fun y => Nat.testBit y k) h
    simp only [Nat.testBit_and, orb_bit, hk, decide_true, Bool.true_and] at this
    show (x.testBit k && !P k) = false
    cases h1 : x.testBit k <;> cases h2 : P k <;> simp_all
  · intro h
    apply Nat.eq_of_testBit_eq
    intro i
    rw [Nat.testBit_and, orb_bit]
    by_cases c : i < n
    · have := h i c
      rw [decide_eq_true c, Bool.true_and]
      cases h1 : x.testBit i <;> cases h2 : P i <;> simp_all
    · rw [decide_eq_false c, Nat.testBit_lt_two_pow (Nat.lt_of_lt_of_le hx (Nat.pow_le_pow_right (by omega) (by omega)))]; simp
theorem anb_z {n x : Nat} {P : Nat → Bool} (hx : x < 2 ^ n) (h7 : x < 128) : (anb x (orb P n) = 0) ↔ hasB (fun p => x.testBit p && !P p) n = false := by
  rw [hasB_f]
  constructor
  · intro h k hk
    have := congrArg (fun y => Nat.testBit y k) h
    simp only [anb_bit _ h7, orb_bit, hk, decide_true, Bool.true_and, Nat.zero_testBit] at this
    exact this
  · intro h
    apply Nat.eq_of_testBit_eq
    intro i
    rw [anb_bit _ h7, orb_bit, Nat.zero_testBit]
    by_cases c : i < n
    · rw [decide_eq_true c, Bool.true_and]; exact h i c
    · rw [Nat.testBit_lt_two_pow (Nat.lt_of_lt_of_le hx (Nat.pow_le_pow_right (by omega) (by omega)))]; simp
theorem q_fits {n x sh : Nat} {W T : Nat → Nat} {w : Nat → Int32} (hn : n ≤ 7) (hx : x < 2 ^ n) (hw : wsum W x n ≤ 420) (hsh : sh < 1000) (e : w x = nI (wsum W x n)) : f_X5_fitsOneShelf (nI sh) (nI (orb (fun p => decide (T p = 2)) n)) w (nI x) = some (bI (stn W T sh n x)) := by
  have h7 : x < 128 := Nat.lt_of_lt_of_le hx (p2 hn)
  have ha : x &&& orb (fun p => decide (T p = 2)) n ≤ x := Nat.and_le_left
  unfold f_X5_fitsOneShelf stn
  simp only [L0, L1, L2, L3, L4, L5, L6, L7, L8, L9, L10, L11, L12, L13, L19, L20, L26, L31, L32, L33, L48, L49, L50, L51, L57, L59, L60, L61, L98, L99, L100, L108, L112, L115, L127, L128, L200, L201, L255, L256, L257, L400, L401, L420, L459, L999, L1000, L5940]
  rw [qck h7 (by omega), qcl (by omega), e, fa_and]
  simp only [qeq (show x &&& orb (fun p => decide (T p = 2)) n < 2147483648 by omega) (show 0 < 2147483648 by omega), qeq (show x &&& orb (fun p => decide (T p = 2)) n < 2147483648 by omega) (show x < 2147483648 by omega), and_z, and_x hx]
  by_cases c : wsum W x n ≤ sh
  · rw [if_neg (nI_nlt c (by omega)), decide_eq_true c]
    show (if hasB (yh T x) n = false then _ else if hasB (nh T x) n = false then _ else _) = _
    cases hasB (nh T x) n <;> cases hasB (yh T x) n <;> rfl
  · rw [if_pos (nI_lt (by omega) (by omega)), decide_eq_false c]
    rfl
def unf (W : Nat → Nat) (x n : Nat) : Bool := hasB (fun p => x.testBit p && !decide (0 < W p)) n
theorem q_filled {n x : Nat} {W : Nat → Nat} (hn : n ≤ 7) (hx : x < 2 ^ n) : f_X5_isFilled (nI (orb (fun p => decide (0 < W p)) n)) (nI x) = some (bI (!unf W x n)) := by
  have h7 : x < 128 := Nat.lt_of_lt_of_le hx (p2 hn)
  have := anb_lt (orb (fun p => decide (0 < W p)) n) h7
  unfold f_X5_isFilled unf
  simp only [L0, L1, L2, L3, L4, L5, L6, L7, L8, L9, L10, L11, L12, L13, L19, L20, L26, L31, L32, L33, L48, L49, L50, L51, L57, L59, L60, L61, L98, L99, L100, L108, L112, L115, L127, L128, L200, L201, L255, L256, L257, L400, L401, L420, L459, L999, L1000, L5940]
  rw [q_anb _ h7]
  simp only [qeq (show anb x (orb (fun p => decide (0 < W p)) n) < 2147483648 by omega) (show 0 < 2147483648 by omega), anb_z hx h7]
  cases hasB (fun p => x.testBit p && !decide (0 < W p)) n <;> rfl
theorem q_bsd {n x : Nat} {g : Nat → Nat} {s td : Nat → Int32} {m : Int32} {k : Int32 → Int32 → Option Int32} {b : Bool} (hn : n ≤ 7) (h0 : td 0 = nI n) (hx : x < 128) (hs : ∀ x, x < 49 → s x = nI (g x)) (hg : ∀ p, p < n → tot g p ≤ 420) : f_X8_beside_L54 td s m (nI x) k FU (bI b) (nI 0) = f_X8_beside_J101 m (nI x) k (bI (b && !unf (tot g) x n)) := by
  have e0 : b = (b && !unf (tot g) x 0) := by cases b <;> rfl
  conv => lhs; rw [e0]
  refine lup (fun q f => f_X8_beside_L54 td s m (nI x) k f (bI (b && !unf (tot g) x q)) (nI q)) n _ (fun q f hq => ?_) (fun f => ?_) 0 FU (by omega) (fu (by omega))
  · have hgq := hg q hq
    show f_X8_beside_B54 _ _ _ _ _ _ _ _ = _
    unfold f_X8_beside_B54
    simp only [L0, L1, L2, L3, L4, L5, L6, L7, L8, L9, L10, L11, L12, L13, L19, L20, L26, L31, L32, L33, L48, L49, L50, L51, L57, L59, L60, L61, L98, L99, L100, L108, L112, L115, L127, L128, L200, L201, L255, L256, L257, L400, L401, L420, L459, L999, L1000, L5940]
    rw [qck (by omega) (by omega), qcl (by omega), h0, if_neg (nI_ge hq (by omega)), q_full hs (by omega), qbd, nI_add]
    simp only [tb0 (show q < 8 by omega) (show x < 2147483648 by omega), bI_0]
    have e2 : unf (tot g) x (q + 1) = (unf (tot g) x q || (x.testBit q && !decide (0 < tot g q))) := rfl
    rw [e2]
    by_cases c : (b && !unf (tot g) x q) = false
    · rw [if_pos c]
      have : (b && !(unf (tot g) x q || (x.testBit q && !decide (0 < tot g q)))) = false := by
        revert c
        cases b <;> cases unf (tot g) x q <;> simp
      rw [this]; rfl
    · rw [if_neg c]
      have hb : b = true := by revert c; cases b <;> simp
      have hu : unf (tot g) x q = false := by revert c; cases b <;> cases unf (tot g) x q <;> simp
      rw [hb, hu]
      cases c3 : x.testBit q with
      | false => rw [if_pos rfl]; rfl
      | true =>
        rw [if_neg (by decide)]
        by_cases c4 : 0 < tot g q
        · rw [if_neg (by rw [nI_leI (by omega) (by omega)]; omega), decide_eq_true c4]; rfl
        · rw [if_pos (nI_le (by omega) (by omega)), decide_eq_false c4]; rfl
  · show f_X8_beside_B54 _ _ _ _ _ _ _ _ = _
    unfold f_X8_beside_B54
    simp only [L0, L1, L2, L3, L4, L5, L6, L7, L8, L9, L10, L11, L12, L13, L19, L20, L26, L31, L32, L33, L48, L49, L50, L51, L57, L59, L60, L61, L98, L99, L100, L108, L112, L115, L127, L128, L200, L201, L255, L256, L257, L400, L401, L420, L459, L999, L1000, L5940]
    rw [qck (by omega) (by omega), qcl (by omega), h0, if_pos (nI_le (Nat.le_refl _) (by omega))]
def mo : Nat → Int32
  | 0 => -nI 9
  | k + 1 => nI k
theorem pc_pos {x p : Nat} (hp : p < 7) (h : x.testBit p = true) : 1 ≤ pc x := by
  rw [Nat.testBit_eq_decide_div_mod_eq] at h
  have h1 : x / 2 ^ p % 2 = 1 := by simpa using h
  have := sm_el (fun k => x / 2 ^ k % 2) hp
  show 1 ≤ sm (fun k => x / 2 ^ k % 2) 7
  have e : (fun k => x / 2 ^ k % 2) p = 1 := h1
  omega
def okb (W T : Nat → Nat) (sh n p x : Nat) : Bool := (x.testBit p && stn W T sh n x) && !unf W x n
def nxb (ok : Bool) (c k : Nat) : Nat := match ok with
  | true => if c < k then k else c
  | false => c
theorem tot_all {n : Nat} {g : Nat → Nat} (hv : vg n g) (hn : n ≤ 7) : ∀ x, wsum (tot g) x n ≤ 420 := fun x => by
  have h1 := wsum_le (W := tot g) x n
  have h2 : sm (tot g) n ≤ sm (tot g) 7 := sm_mono _ hn
  have h3 := sm_rows g 7
  have h4 : sm (tot g) 7 = sm (fun p => sm (fun q => g (7 * p + q)) 7) 7 := rfl
  have := hv.1
  rw [show (7 * 7 : Nat) = 49 from rfl] at h3
  omega
theorem bes_m {n x p sh c : Nat} {g T : Nat → Nat} {s td : Nat → Int32} {k : Int32 → Int32 → Option Int32} (hn : n ≤ 7) (hp : p < n) (h0 : td 0 = nI n) (h2 : td 2 = nI sh) (hT : ∀ j, j < n → T j ≤ 2 ∧ td (26 + j) = nI (T j)) (hx : x < 2 ^ n) (hs : ∀ x, x < 49 → s x = nI (g x)) (hv : vg n g) (hsh : sh < 1000) (hc : c ≤ 7) : f_X8_beside_B15 td s (nI p) k (mo c) (nI x) = k (mo (nxb (okb (tot g) T sh n p x) c (pc x))) (nI (x + 1)) := by
  have h128 := p2 hn
  have hw := tot_all hv hn
  have hg : ∀ p, p < n → tot g p ≤ 420 := fun p hp2 => Nat.le_trans (tot_le (by omega)) hv.1
  have pl := pc_le x
  have J : ∀ b, f_X8_beside_J101 (mo c) (nI x) k (bI b) = if b = false then k (mo c) (nI (x + 1)) else if nI (pc x) - nI 1 ≤ mo c then k (mo c) (nI (x + 1)) else k (nI (pc x) - nI 1) (nI (x + 1)) := by
    intro b
    unfold f_X8_beside_J101
    simp only [L0, L1, L2, L3, L4, L5, L6, L7, L8, L9, L10, L11, L12, L13, L19, L20, L26, L31, L32, L33, L48, L49, L50, L51, L57, L59, L60, L61, L98, L99, L100, L108, L112, L115, L127, L128, L200, L201, L255, L256, L257, L400, L401, L420, L459, L999, L1000, L5940, bI_0]
    rw [q_ones (by omega), qbd, qbd, nI_add]
  unfold f_X8_beside_B15
  simp only [L0, L1, L2, L3, L4, L5, L6, L7, L8, L9, L10, L11, L12, L13, L19, L20, L26, L31, L32, L33, L48, L49, L50, L51, L57, L59, L60, L61, L98, L99, L100, L108, L112, L115, L127, L128, L200, L201, L255, L256, L257, L400, L401, L420, L459, L999, L1000, L5940]
  rw [qck (by omega) (by omega), qcl (by omega), h0, shl1 n (by omega), if_neg (nI_ge hx (by omega)), q_stand hn h0 h2 hT (by omega) hs (hw x) hsh, qbd]
  simp only [tb1 (show p < 8 by omega) (show x < 2147483648 by omega)]
  have F : f_X8_beside_L54 td s (mo c) (nI x) k FU (nI 0) (nI 0) = f_X8_beside_J101 (mo c) (nI x) k (bI (false && !unf (tot g) x n)) := q_bsd (b := false) hn h0 (by omega) hs hg
  have G : f_X8_beside_L54 td s (mo c) (nI x) k FU (nI 1) (nI 0) = f_X8_beside_J101 (mo c) (nI x) k (bI (true && !unf (tot g) x n)) := q_bsd (b := true) hn h0 (by omega) hs hg
  rw [F, G]
  simp only [J]
  unfold okb
  cases c1 : x.testBit p with
  | false => rfl
  | true =>
    have p1 := pc_pos (show p < 7 by omega) c1
    cases stn (tot g) T sh n x with
    | false => rfl
    | true =>
      rw [if_pos (show true = true from rfl), if_neg (show ¬ bI true = nI 0 by decide)]
      cases unf (tot g) x n with
      | true => rfl
      | false =>
        rw [if_neg (by decide), qsub p1]
        show _ = k (mo (if c < pc x then pc x else c)) _
        cases c with
        | zero =>
          rw [if_neg (show ¬ nI (pc x - 1) ≤ mo 0 by
            show ¬ nI (pc x - 1) ≤ -nI 9
            rw [Int32.le_iff_toInt_le, nI_toInt (by omega)]
            have : (-nI 9 : Int32).toInt = -9 := by decide
            omega), if_pos (by omega)]
          obtain ⟨z, hz⟩ : ∃ z, pc x = z + 1 := ⟨pc x - 1, by omega⟩
          rw [hz]; rfl
        | succ c =>
          by_cases c2 : c + 1 < pc x
          · rw [if_neg (show ¬ nI (pc x - 1) ≤ mo (c + 1) by show ¬ nI (pc x - 1) ≤ nI c; rw [nI_leI (by omega) (by omega)]; omega), if_pos c2]
            obtain ⟨z, hz⟩ : ∃ z, pc x = z + 1 := ⟨pc x - 1, by omega⟩
            rw [hz]; rfl
          · rw [if_pos (show nI (pc x - 1) ≤ mo (c + 1) from nI_le (a := pc x - 1) (b := c) (by omega) (by omega)), if_neg c2]
theorem bes_c {n x p sh c : Nat} {W T : Nat → Nat} {w : Nat → Int32} {k : Int32 → Int32 → Option Int32} (hn : n ≤ 7) (hp : p < n) (hx : x < 2 ^ n) (hw : wsum W x n ≤ 420) (hsh : sh < 1000) (e : w x = nI (wsum W x n)) (hc : c ≤ 7) : f_X5_mostBeside_B4 (nI (2 ^ n)) (nI sh) (nI (orb (fun p => decide (T p = 2)) n)) (nI (orb (fun p => decide (0 < W p)) n)) w (nI p) k (nI c) (nI x) = k (nI (nxb (okb W T sh n p x) c (pc x))) (nI (x + 1)) := by
  have h128 := p2 hn
  have pl := pc_le x
  unfold f_X5_mostBeside_B4 f_X5_mostBeside_J26
  simp only [L0, L1, L2, L3, L4, L5, L6, L7, L8, L9, L10, L11, L12, L13, L19, L20, L26, L31, L32, L33, L48, L49, L50, L51, L57, L59, L60, L61, L98, L99, L100, L108, L112, L115, L127, L128, L200, L201, L255, L256, L257, L400, L401, L420, L459, L999, L1000, L5940]
  rw [if_neg (nI_ge hx (by omega)), q_filled hn hx, q_fits hn hx hw hsh e, q_bc x (by omega)]
  simp only [qbd, tb1 (show p < 8 by omega) (show x < 2147483648 by omega), nI_add, bI_0, if_neg (show ¬ nI 1 = nI 0 by decide), if_true]
  unfold okb
  cases x.testBit p with
  | false => rfl
  | true =>
    rw [if_pos rfl]
    cases unf W x n with
    | true => cases stn W T sh n x <;> rfl
    | false =>
      rw [if_neg (by decide)]
      cases stn W T sh n x with
      | false => rfl
      | true =>
        rw [if_neg (by decide)]
        show _ = k (nI (if c < pc x then pc x else c)) _
        by_cases c2 : c < pc x
        · rw [if_pos (nI_lt c2 (by omega)), if_pos c2]
        · rw [if_neg (nI_nlt (by omega) (by omega)), if_neg c2]
theorem nxb_le {b : Bool} {c k : Nat} (hc : c ≤ 7) (hk : k ≤ 7) : nxb b c k ≤ 7 := by
  cases b with
  | false => exact hc
  | true =>
    show (if c < k then k else c) ≤ 7
    by_cases h : c < k
    · rw [if_pos h]; exact hk
    · rw [if_neg h]; exact hc
theorem sim_beside {n : Nat} {Y K T : Nat → Nat} {le sh : Nat} {hp hl hs : Int32} {hy hk ht hb td : Nat → Int32} (h : RH n Y K T le sh hp hl hs hy hk ht hb td) {g : Nat → Nat} {a b : Nat} {sp : Nat → Int32} {spr lo' : Int32} {s : Nat → Int32} (hR : RS n g a b sp spr lo' s 0) (zs zh zl zf : Int32) (zw : Nat → Int32) (v1 : Int32) : ∃ o1 o2, f_X7_beside hp hs zs zh zl zf ht zw sp v1 = some o1 ∧ f_X8_beside td s v1 = some o2 ∧ o1.1 = o2 := by
  obtain ⟨hn, hle, hsh, rfl, e0, rfl, e1l, rfl, e2l, hj, -⟩ := h
  obtain ⟨w1, w2, w3, w4, w5, w6, w7a, w7b⟩ := hR.get0
  unfold f_X7_beside f_X8_beside
  simp only [L0, L1, L2, L3, L4, L5, L6, L7, L8, L9, L10, L11, L12, L13, L19, L20, L26, L31, L32, L33, L48, L49, L50, L51, L57, L59, L60, L61, L98, L99, L100, L108, L112, L115, L127, L128, L200, L201, L255, L256, L257, L400, L401, L420, L459, L999, L1000, L5940]
  rcases pan_cases v1 hn e0 with ⟨e1, e2⟩ | ⟨p, hpn, rfl, e1, e2⟩
  · rw [e1, e2]
    simp (disch := omega) only [L0, L1, L2, L3, L4, L5, L6, L7, L8, L9, L10, L11, L12, L13, L19, L20, L26, L31, L32, L33, L48, L49, L50, L51, L57, L59, L60, L61, L98, L99, L100, L108, L112, L115, L127, L128, L200, L201, L255, L256, L257, L400, L401, L420, L459, L999, L1000, L5940, nI_add, pk_mul, qle, qlt, qeq, qcl, qck, qbd, qsub, if_pos, if_neg]
    exact ⟨_, _, rfl, rfl, rfl⟩
  obtain ⟨w, q1, q2⟩ := q_weigh (wt0 := zw) (shf := nI sh) (T := T) hn w7a w1 (fun j hj2 => ⟨(hj j hj2).2.2.1, (hj j hj2).2.2.2.2.2.2.2.1⟩)
  have h128 := p2 hn
  have hw := tot_all w1 hn
  have hT : ∀ j, j < n → T j ≤ 2 ∧ td (26 + j) = nI (T j) := fun j hj2 => ⟨(hj j hj2).2.2.1, (hj j hj2).2.2.2.2.2.2.2.2⟩
  have key : ∀ d x f1 f2 c, x + d = 2 ^ n → d < f1 → d < f2 → c ≤ 7 → ∃ c', c' ≤ 7 ∧
      f_X5_mostBeside_L4 (nI (2 ^ n)) (nI sh) (nI (orb (fun p => decide (T p = 2)) n)) (nI (orb (fun p => decide (0 < tot g p)) n)) w (nI p) f1 (nI c) (nI x) = f_X5_mostBeside_J64 (nI c') ∧ f_X8_beside_L15 td s (nI p) f2 (mo c) (nI x) = some (mo c') := by
    intro d
    induction d with
    | zero =>
      intro x f1 f2 c hx hf1 hf2 hc
      obtain ⟨f1, rfl⟩ : ∃ k, f1 = k + 1 := ⟨f1 - 1, by omega⟩
      obtain ⟨f2, rfl⟩ : ∃ k, f2 = k + 1 := ⟨f2 - 1, by omega⟩
      refine ⟨c, hc, ?_, ?_⟩
      · show f_X5_mostBeside_B4 _ _ _ _ _ _ _ _ _ = _
        unfold f_X5_mostBeside_B4
        rw [if_pos (nI_le (by omega) (by omega))]
      · show f_X8_beside_B15 _ _ _ _ _ _ = _
        unfold f_X8_beside_B15
        simp only [L0, L1, L2, L3, L4, L5, L6, L7, L8, L9, L10, L11, L12, L13, L19, L20, L26, L31, L32, L33, L48, L49, L50, L51, L57, L59, L60, L61, L98, L99, L100, L108, L112, L115, L127, L128, L200, L201, L255, L256, L257, L400, L401, L420, L459, L999, L1000, L5940]
        rw [qck (by omega) (by omega), qcl (by omega), e0, shl1 n (by omega), if_pos (nI_le (by omega) (by omega))]
    | succ d ih =>
      intro x f1 f2 c hx hf1 hf2 hc
      obtain ⟨f1, rfl⟩ : ∃ k, f1 = k + 1 := ⟨f1 - 1, by omega⟩
      obtain ⟨f2, rfl⟩ : ∃ k, f2 = k + 1 := ⟨f2 - 1, by omega⟩
      have hxn : x < 2 ^ n := by omega
      show ∃ c', _ ∧ f_X5_mostBeside_B4 _ _ _ _ _ _ _ _ _ = _ ∧ f_X8_beside_B15 _ _ _ _ _ _ = _
      rw [bes_c hn hpn hxn (hw x) (by omega) (q2 x hxn) hc, bes_m hn hpn e0 e2l hT hxn w7b w1 (by omega) hc]
      exact ih (x + 1) f1 f2 _ (by omega) (by omega) (by omega) (nxb_le hc (pc_le x))
  have hpos : 0 < 2 ^ n := Nat.two_pow_pos n
  have hstep : f_X8_beside_L15 td s (nI p) FU (-nI 9) (nI 0) = f_X8_beside_L15 td s (nI p) 999 (mo 0) (nI 1) := by
    show f_X8_beside_B15 td s (nI p) (f_X8_beside_L15 td s (nI p) 999) (mo 0) (nI 0) = _
    rw [bes_m hn hpn e0 e2l hT hpos w7b w1 (by omega) (by omega)]
    have : okb (tot g) T sh n p 0 = false := by
      unfold okb
      rw [Nat.zero_testBit]
      rfl
    rw [this]
    rfl
  obtain ⟨c', u0, u1, u2⟩ := key (2 ^ n - 1) 1 FU 999 0 (by omega) (fu (by omega)) (by omega) (by omega)
  have u1' : f_X5_mostBeside (nI (2 ^ n)) (nI sh) (nI (orb (fun p => decide (T p = 2)) n)) (nI (orb (fun p => decide (0 < tot g p)) n)) w (nI p) = f_X5_mostBeside_J64 (nI c') := u1
  have fin : f_X5_mostBeside_J64 (nI c') = some (mo c') := by
    unfold f_X5_mostBeside_J64
    simp only [L0, L1, L2, L3, L4, L5, L6, L7, L8, L9, L10, L11, L12, L13, L19, L20, L26, L31, L32, L33, L48, L49, L50, L51, L57, L59, L60, L61, L98, L99, L100, L108, L112, L115, L127, L128, L200, L201, L255, L256, L257, L400, L401, L420, L459, L999, L1000, L5940]
    cases c' with
    | zero => rfl
    | succ z => rw [if_neg (by rw [nI_eq (by omega) (by omega)]; omega), qsub (by omega)]; rfl
  rw [e1, e2, q1, hstep, u2]
  simp only [qbd, if_neg (show ¬ nI 1 = nI 0 by decide), u1', fin]
  exact ⟨_, _, rfl, rfl, rfl⟩
