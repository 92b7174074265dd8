/-! sets of pans, as bits -/
theorem tb1 {x k : Nat} (hk : k < 8) (hx : x < 2147483648) : (nI x >>> (nI k &&& nI 31) &&& nI 1 = nI 1) = (x.testBit k = true) := by
  rw [shr1 hk hx, Nat.testBit_eq_decide_div_mod_eq, qeq (by omega) (by omega)]
  simp
theorem tb0 {x k : Nat} (hk : k < 8) (hx : x < 2147483648) : (nI x >>> (nI k &&& nI 31) &&& nI 1 = nI 0) = (x.testBit k = false) := by
  rw [shr1 hk hx, Nat.testBit_eq_decide_div_mod_eq, qeq (by omega) (by omega)]
  simp
/-- a without b -/
def anb (a b : Nat) : Nat := a &&& (b ^^^ 127)
theorem t127 (i : Nat) : (127 : Nat).testBit i = decide (i < 7) := by
  have := Nat.testBit_two_pow_sub_one 7 i
  simpa using this
theorem tb_big {a i : Nat} (h : a < 128) (hi : 7 ≤ i) : a.testBit i = false := Nat.testBit_lt_two_pow (Nat.lt_of_lt_of_le (show a < 2 ^ 7 from h) (Nat.pow_le_pow_right (by omega) hi))
theorem anb_bit {a : Nat} (b : Nat) (h : a < 128) (i : Nat) : (anb a b).testBit i = (a.testBit i && !b.testBit i) := by
  unfold anb
  rw [Nat.testBit_and, Nat.testBit_xor, t127]
  by_cases c : i < 7
  · simp [c]
  · rw [tb_big h (by omega)]; simp
theorem anb_lt {a : Nat} (b : Nat) (h : a < 128) : anb a b < 128 := Nat.lt_of_le_of_lt Nat.and_le_left h
theorem q_anb {a : Nat} (b : Nat) (h : a < 128) : nI a &&& (nI b ^^^ -nI 1) = nI (anb a b) := by
  apply Int32.toBitVec_inj.1
  show BitVec.ofNat 32 a &&& (BitVec.ofNat 32 b ^^^ (-nI 1 : Int32).toBitVec) = BitVec.ofNat 32 (anb a b)
  rw [show (-nI 1 : Int32).toBitVec = BitVec.allOnes 32 by decide]
  apply BitVec.eq_of_getLsbD_eq
  intro i hi
  rw [BitVec.getLsbD_and, BitVec.getLsbD_xor, BitVec.getLsbD_allOnes, BitVec.getLsbD_ofNat, BitVec.getLsbD_ofNat, BitVec.getLsbD_ofNat, anb_bit b h, decide_eq_true hi, Bool.true_and, Bool.true_and, Bool.true_and, Bool.xor_true]
theorem q_bc : ∀ x, x < 128 → f_J6_bitCount_0f7a4 (nI x) = some (nI (pc x)) := by decide +kernel
theorem q_left {a : Nat} (b : Nat) (h : a < 128) : f_X5_countLeft (nI a) (nI b) = some (nI (pc (anb a b))) := by
  unfold f_X5_countLeft
  simp only [L0, L1, L2, L3, L4, L5, L6, L7, L8, L9, L10, L11, L12, L13, L19, L20, L26, L31, L32, L33, L48, L49, L50, L51, L57, L59, L60, L61, L98, L99, L100, L108, L112, L115, L127, L128, L200, L201, L255, L256, L257, L400, L401, L420, L459, L999, L1000, L5940]
  rw [q_anb b h, q_bc _ (anb_lt b h), qbd]
theorem pc_le (x : Nat) : pc x ≤ 7 := by
  have : pc x ≤ sm (fun _ => 1) 7 := sm_le (fun k _ => by omega)
  exact this
def wsum (W : Nat → Nat) (x n : Nat) : Nat := sm (fun p => if x.testBit p = true then W p else 0) n
theorem wsum_le {W : Nat → Nat} (x n : Nat) : wsum W x n ≤ sm W n := sm_le (fun p _ => by
  by_cases c : x.testBit p = true
  · rw [if_pos c]; exact Nat.le_refl _
  · rw [if_neg c]; exact Nat.zero_le _)
theorem wsum_lo {W : Nat → Nat} {x p : Nat} (h : x < 2 ^ p) : wsum W x (p + 1) = wsum W x p := by
  show wsum W x p + (if x.testBit p = true then W p else 0) = _
  rw [if_neg (by rw [Nat.testBit_lt_two_pow h]; decide)]
  rfl
theorem wsum_hi {W : Nat → Nat} {x p : Nat} (h : x < 2 ^ p) : wsum W (2 ^ p + x) (p + 1) = wsum W x p + W p := by
  show wsum W (2 ^ p + x) p + (if (2 ^ p + x).testBit p = true then W p else 0) = _
  rw [if_pos (by rw [Nat.testBit_two_pow_add_eq, Nat.testBit_lt_two_pow h]; rfl)]
  congr 1
  exact sm_cong (fun q hq => by rw [Nat.testBit_two_pow_add_gt hq])
theorem p2 {n : Nat} (h : n ≤ 7) : 2 ^ n ≤ 128 := Nat.pow_le_pow_right (show 0 < 2 by omega) h
theorem q_hail {n : Nat} {T : Nat → Nat} {ht : Nat → Int32} (hn : n ≤ 7) (hT : ∀ j, j < n → T j ≤ 2 ∧ ht j = nI (T j)) : f_X2_hailPans (nI n) ht = some (nI (orb (fun p => decide (T p = 2)) n)) := by
  unfold f_X2_hailPans
  simp only [L0, L1, L2, L3, L4, L5, L6, L7, L8, L9, L10, L11, L12, L13, L19, L20, L26, L31, L32, L33, L48, L49, L50, L51, L57, L59, L60, L61, L98, L99, L100, L108, L112, L115, L127, L128, L200, L201, L255, L256, L257, L400, L401, L420, L459, L999, L1000, L5940]
  refine lup (fun q f => f_X2_hailPans_L4 (nI n) ht f (nI (orb (fun p => decide (T p = 2)) q)) (nI q)) n _ (fun q f hq => ?_) (fun f => ?_) 0 FU (by omega) (fu (by omega))
  · have hTq := hT q hq
    show f_X2_hailPans_B4 _ _ _ _ _ = _
    unfold f_X2_hailPans_B4
    simp only [L0, L1, L2, L3, L4, L5, L6, L7, L8, L9, L10, L11, L12, L13, L19, L20, L26, L31, L32, L33, L48, L49, L50, L51, L57, L59, L60, L61, L98, L99, L100, L108, L112, L115, L127, L128, L200, L201, L255, L256, L257, L400, L401, L420, L459, L999, L1000, L5940]
    rw [if_neg (nI_ge hq (by omega)), qck (show q < 7 by omega) (by omega), qcl (by omega), hTq.2, nI_add, shl1 q (by omega), fa_or]
    show _ = f_X2_hailPans_L4 _ _ _ (nI (match decide (T q = 2) with
      | true => orb (fun p => decide (T p = 2)) q ||| 2 ^ q
      | false => orb (fun p => decide (T p = 2)) q)) _
    by_cases c : T q = 2
    · rw [if_pos (by rw [c]), decide_eq_true c]
    · rw [if_neg (by rw [nI_eq (by omega) (by omega)]; exact c), decide_eq_false c]
  · show f_X2_hailPans_B4 _ _ _ _ _ = _
    unfold f_X2_hailPans_B4
    rw [if_pos (nI_le (Nat.le_refl _) (by omega))]
theorem q_weigh {n : Nat} {g T : Nat → Nat} {sp ht wt0 : Nat → Int32} {shf : Int32} (hn : n ≤ 7) (hs : ∀ x, x < 49 → sp x = nI (g x)) (hv : vg n g) (hT : ∀ j, j < n → T j ≤ 2 ∧ ht j = nI (T j)) :
    ∃ w, f_X5_weigh (nI n) shf ht wt0 sp = some (nI (2 ^ n), shf, nI (orb (fun p => decide (T p = 2)) n), nI (orb (fun p => decide (0 < tot g p)) n), w) ∧ ∀ x, x < 2 ^ n → w x = nI (wsum (tot g) x n) := by
  unfold f_X5_weigh
  simp only [L0, L1, L2, L3, L4, L5, L6, L7, L8, L9, L10, L11, L12, L13, L19, L20, L26, L31, L32, L33, L48, L49, L50, L51, L57, L59, L60, L61, L98, L99, L100, L108, L112, L115, L127, L128, L200, L201, L255, L256, L257, L400, L401, L420, L459, L999, L1000, L5940]
  rw [q_hail hn hT, qbd, qck (by omega) (by omega), qcl (by omega)]
  generalize hhl : nI (orb (fun p => decide (T p = 2)) n) = hl
  have key : ∀ d p f (w : Nat → Int32), p + d = n → d < f → (∀ x, x < 2 ^ p → w x = nI (wsum (tot g) x p)) →
      ∃ w', f_X5_weigh_L35 (nI n) sp shf hl f (nI p) (nI (2 ^ p)) (nI (orb (fun p => decide (0 < tot g p)) p)) w = some (nI (2 ^ n), shf, hl, nI (orb (fun p => decide (0 < tot g p)) n), w') ∧ ∀ x, x < 2 ^ n → w' x = nI (wsum (tot g) x n) := by
    intro d
    induction d with
    | zero =>
      intro p f w hp hf hw
      obtain ⟨f, rfl⟩ : ∃ k, f = k + 1 := ⟨f - 1, by omega⟩
      have hp : p = n := by omega
      subst hp
      refine ⟨w, ?_, hw⟩
      show f_X5_weigh_B35 _ _ _ _ _ _ _ _ _ = _
      unfold f_X5_weigh_B35
      rw [if_pos (nI_le (Nat.le_refl _) (by omega))]
    | succ d ih =>
      intro p f w hp hf hw
      obtain ⟨f, rfl⟩ : ∃ k, f = k + 1 := ⟨f - 1, by omega⟩
      have hpn : p < n := by omega
      have hTp : tot g p ≤ 420 := Nat.le_trans (tot_le (by omega)) hv.1
      have h2p : 2 ^ p + 2 ^ p ≤ 128 := by
        have := p2 (show p + 1 ≤ 7 by omega)
        rw [Nat.pow_succ] at this
        omega
      have inner : ∀ d2 x f2 (w2 : Nat → Int32), x + d2 = 2 ^ p → d2 < f2 → (∀ y, y < 2 ^ p → w2 y = nI (wsum (tot g) y p)) → (∀ y, y < x → w2 (2 ^ p + y) = nI (wsum (tot g) y p + tot g p)) →
          ∃ w', (∀ y, y < 2 ^ (p + 1) → w' y = nI (wsum (tot g) y (p + 1))) ∧ f_X5_weigh_L53 (nI p) (nI (2 ^ p)) (nI (orb (fun p => decide (0 < tot g p)) p)) (f_X5_weigh_L35 (nI n) sp shf hl f) (nI (tot g p)) f2 (nI x) w2 = f_X5_weigh_L35 (nI n) sp shf hl f (nI (p + 1)) (nI (2 ^ (p + 1))) (nI (orb (fun p => decide (0 < tot g p)) (p + 1))) w' := by
        intro d2
        induction d2 with
        | zero =>
          intro x f2 w2 hx hf2 h1 h2
          obtain ⟨f2, rfl⟩ : ∃ k, f2 = k + 1 := ⟨f2 - 1, by omega⟩
          refine ⟨w2, fun y hy => ?_, ?_⟩
          · rw [Nat.pow_succ] at hy
            by_cases c : y < 2 ^ p
            · rw [wsum_lo c]; exact h1 y c
            · obtain ⟨z, rfl⟩ : ∃ z, y = 2 ^ p + z := ⟨y - 2 ^ p, by omega⟩
              rw [wsum_hi (show z < 2 ^ p by omega)]
              exact h2 z (by omega)
          · show f_X5_weigh_B53 _ _ _ _ _ _ _ _ = _
            unfold f_X5_weigh_B53 f_X5_weigh_J90 f_X5_weigh_J108
            simp only [L0, L1, L2, L3, L4, L5, L6, L7, L8, L9, L10, L11, L12, L13, L19, L20, L26, L31, L32, L33, L48, L49, L50, L51, L57, L59, L60, L61, L98, L99, L100, L108, L112, L115, L127, L128, L200, L201, L255, L256, L257, L400, L401, L420, L459, L999, L1000, L5940]
            rw [if_pos (nI_le (by omega) (by omega)), nI_add, pk_mul, fa_or, Nat.pow_succ]
            show _ = f_X5_weigh_L35 _ _ _ _ _ _ _ (nI (match decide (0 < tot g p) with
              | true => orb (fun p => decide (0 < tot g p)) p ||| 2 ^ p
              | false => orb (fun p => decide (0 < tot g p)) p)) _
            by_cases c : 0 < tot g p
            · rw [if_neg (by rw [nI_leI (by omega) (by omega)]; omega), decide_eq_true c]
            · rw [if_pos (by rw [nI_leI (by omega) (by omega)]; omega), decide_eq_false c]
        | succ d2 ih2 =>
          intro x f2 w2 hx hf2 h1 h2
          obtain ⟨f2, rfl⟩ : ∃ k, f2 = k + 1 := ⟨f2 - 1, by omega⟩
          show ∃ w', _ ∧ f_X5_weigh_B53 _ _ _ _ _ _ _ _ = _
          unfold f_X5_weigh_B53
          simp only [L0, L1, L2, L3, L4, L5, L6, L7, L8, L9, L10, L11, L12, L13, L19, L20, L26, L31, L32, L33, L48, L49, L50, L51, L57, L59, L60, L61, L98, L99, L100, L108, L112, L115, L127, L128, L200, L201, L255, L256, L257, L400, L401, L420, L459, L999, L1000, L5940]
          rw [if_neg (nI_ge (show x < 2 ^ p by omega) (by omega)), nI_add, nI_add, qck (show x < 128 by omega) (by omega), qck (show 2 ^ p + x < 128 by omega) (by omega), qcl (by omega), qcl (by omega), h1 x (by omega), nI_add]
          refine ih2 (x + 1) f2 _ (by omega) (by omega) (fun y hy => ?_) (fun y hy => ?_)
          · rw [qu_n (by omega)]; exact h1 y hy
          · by_cases e : y = x
            · subst e; rw [qu_s]
            · rw [qu_n (by omega)]; exact h2 y (by omega)
      obtain ⟨w', u1, u2⟩ := inner (2 ^ p) 0 FU w (by omega) (fu (by omega)) hw (fun y hy => absurd hy (by omega))
      obtain ⟨w'', u3, u4⟩ := ih (p + 1) f w' (by omega) (by omega) u1
      refine ⟨w'', ?_, u4⟩
      show f_X5_weigh_B35 _ _ _ _ _ _ _ _ _ = _
      unfold f_X5_weigh_B35
      simp only [L0, L1, L2, L3, L4, L5, L6, L7, L8, L9, L10, L11, L12, L13, L19, L20, L26, L31, L32, L33, L48, L49, L50, L51, L57, L59, L60, L61, L98, L99, L100, L108, L112, L115, L127, L128, L200, L201, L255, L256, L257, L400, L401, L420, L459, L999, L1000, L5940]
      rw [if_neg (nI_ge hpn (by omega)), q_inPan hs hn (by omega) (vg_z hv (by omega)), qbd, u2, u3]
  exact key n 0 FU (upd wt0 0 (nI 0)) (by omega) (fu (by omega)) (fun x hx => by
    rw [show x = 0 by omega, qu_s]
    rfl)
/-! fires -/
theorem q_fsum {n x m : Nat} {g : Nat → Nat} {s td : Nat → Int32} {v3 v4 v5 : Int32} {k35 : Int32 → Int32 → Int32 → Int32 → Option Int32} (hn : n ≤ 7) (h0 : td 0 = nI n) (hx : x < 128) (hs : ∀ x, x < 49 → s x = nI (g x)) :
    f_X8_fire_L54 td s v3 v4 v5 (nI x) (nI m) k35 FU (nI 0) (nI 0) = f_X8_fire_J97 td s v3 v4 v5 (nI x) (nI m) k35 (nI (wsum (tot g) x n)) := by
  refine lup (fun q f => f_X8_fire_L54 td s v3 v4 v5 (nI x) (nI m) k35 f (nI (wsum (tot g) x q)) (nI q)) n _ (fun q f hq => ?_) (fun f => ?_) 0 FU (by omega) (fu (by omega))
  · show f_X8_fire_B54 _ _ _ _ _ _ _ _ _ _ _ = _
    unfold f_X8_fire_B54
    simp only [L0, L1, L2, L3, L4, L5, L6, L7, L8, L9, L10, L11, L12, L13, L19, L20, L26, L31, L32, L33, L48, L49, L50, L51, L57, L59, L60, L61, L98, L99, L100, L108, L112, L115, L127, L128, L200, L201, L255, L256, L257, L400, L401, L420, L459, L999, L1000, L5940]
    rw [qck (by omega) (by omega), qcl (by omega), h0, if_neg (nI_ge hq (by omega)), q_full hs (by omega), qbd, nI_add, nI_add, nI_add]
    simp only [tb1 (show q < 8 by omega) (show x < 2147483648 by omega)]
    have e1 : wsum (tot g) x (q + 1) = wsum (tot g) x q + (if x.testBit q = true then tot g q else 0) := rfl
    rw [e1]
    by_cases c : x.testBit q = true
    · rw [if_pos c, if_pos c]
    · rw [if_neg c, if_neg c]
  · show f_X8_fire_B54 _ _ _ _ _ _ _ _ _ _ _ = _
    unfold f_X8_fire_B54
    simp only [L0, L1, L2, L3, L4, L5, L6, L7, L8, L9, L10, L11, L12, L13, L19, L20, L26, L31, L32, L33, L48, L49, L50, L51, L57, L59, L60, L61, L98, L99, L100, L108, L112, L115, L127, L128, L200, L201, L255, L256, L257, L400, L401, L420, L459, L999, L1000, L5940]
    rw [qck (by omega) (by omega), qcl (by omega), h0, if_pos (nI_le (Nat.le_refl _) (by omega))]
def most (rb : Nat) : Option Nat → Int32
  | none => -nI 9
  | some x => nI (pc (anb rb x))
theorem sim_fire {n : Nat} {Y K T : Nat → Nat} {le sh : Nat} {hp hl hs : Int32} {hy hk ht hb td : Nat → Int32} (h : RH n Y K T le sh hp hl hs hy hk ht hb td) {g : Nat → Nat} {a b : Nat} {sp : Nat → Int32} {spr lo' : Int32} {s : Nat → Int32} (hR : RS n g a b sp spr lo' s 0) (zs zh zl zf : Int32) (zw : Nat → Int32) (v1 v2 : Int32) : ∃ o1 o2, f_X7_fire zs zh zl zf hp hl hs ht zw sp hk hb v1 v2 = some o1 ∧ f_X8_fire td s v1 v2 = some o2 ∧ o1.1 = o2 := by
  obtain ⟨o, ho, hbo⟩ := h.srt
  obtain ⟨hn, hle, hsh, rfl, e0, rfl, e1l, rfl, e2l, hj, -⟩ := h
  obtain ⟨w1, w2, w3, w4, w5, w6, w7a, w7b⟩ := hR.get0
  unfold f_X7_fire f_X8_fire
  simp only [L0, L1, L2, L3, L4, L5, L6, L7, L8, L9, L10, L11, L12, L13, L19, L20, L26, L31, L32, L33, L48, L49, L50, L51, L57, L59, L60, L61, L98, L99, L100, L108, L112, L115, L127, L128, L200, L201, L255, L256, L257, L400, L401, L420, L459, L999, L1000, L5940]
  rcases in_cases v1 (a := 1) (b := 400) (by omega) (by omega) with ⟨e1, e2⟩ | ⟨m, hm1, hm2, rfl, e1, e2⟩
  · rw [e1, e2]
    simp (disch := omega) only [L0, L1, L2, L3, L4, L5, L6, L7, L8, L9, L10, L11, L12, L13, L19, L20, L26, L31, L32, L33, L48, L49, L50, L51, L57, L59, L60, L61, L98, L99, L100, L108, L112, L115, L127, L128, L200, L201, L255, L256, L257, L400, L401, L420, L459, L999, L1000, L5940, nI_add, pk_mul, qle, qlt, qeq, qcl, qck, qbd, qsub, if_pos, if_neg]
    exact ⟨_, _, rfl, rfl, rfl⟩
  rw [e1, e2]
  rcases in_cases v2 (a := 0) (b := 1) (by omega) (by omega) with ⟨e3, e4⟩ | ⟨v, -, hv2, rfl, e3, e4⟩
  · rw [e3, e4]
    simp (disch := omega) only [L0, L1, L2, L3, L4, L5, L6, L7, L8, L9, L10, L11, L12, L13, L19, L20, L26, L31, L32, L33, L48, L49, L50, L51, L57, L59, L60, L61, L98, L99, L100, L108, L112, L115, L127, L128, L200, L201, L255, L256, L257, L400, L401, L420, L459, L999, L1000, L5940, nI_add, pk_mul, qle, qlt, qeq, qcl, qck, qbd, qsub, if_pos, if_neg]
    exact ⟨_, _, rfl, rfl, rfl⟩
  obtain ⟨w, q1, q2⟩ := q_weigh (wt0 := zw) (shf := nI sh) (T := T) hn w7a w1 (fun j hj2 => ⟨(hj j hj2).2.2.1, (hj j hj2).2.2.2.2.2.2.2.1⟩)
  have h128 := p2 hn
  have hrb := orb_lt7 (rdb le g) hn
  have hsm : ∀ x, wsum (tot g) x n ≤ 420 := fun x => by
    have h1 := wsum_le (W := tot g) x n
    have h2 : sm (tot g) n ≤ sm (tot g) 7 := sm_mono _ hn
    have h3 := sm_rows g 7
    have h4 : sm (tot g) 7 = sm (fun p => sm (fun q => g (7 * p + q)) 7) 7 := rfl
    have := w1.1
    rw [show (7 * 7 : Nat) = 49 from rfl] at h3
    omega
  have h2n : nI 1 <<< (nI n &&& nI 31) = nI (2 ^ n) := shl1 n (by omega)
  have hBl : ∀ x y, x < 2 ^ n → y < 2 ^ n → f_X5_isBetterFire w (nI x) (nI y) (nI (orb (rdb le g) n)) = some (bI (decide (pc (anb (orb (rdb le g) n) y) < pc (anb (orb (rdb le g) n) x) ∨ (pc (anb (orb (rdb le g) n) x) = pc (anb (orb (rdb le g) n) y) ∧ wsum (tot g) x n < wsum (tot g) y n)))) := by
    intro x y hx hy
    have p1 := pc_le (anb (orb (rdb le g) n) x)
    have p2' := pc_le (anb (orb (rdb le g) n) y)
    have s1 := hsm x
    have s2 := hsm y
    have hlt : (nI 0 < nI (pc (anb (orb (rdb le g) n) x)) - nI (pc (anb (orb (rdb le g) n) y))) = (pc (anb (orb (rdb le g) n) y) < pc (anb (orb (rdb le g) n) x)) := by
      apply propext
      rw [Int32.lt_iff_toInt_lt, pk_sub_toInt (by omega) (by omega), nI_toInt (by omega)]
      omega
    have heq : (nI (pc (anb (orb (rdb le g) n) x)) - nI (pc (anb (orb (rdb le g) n) y)) = nI 0) = (pc (anb (orb (rdb le g) n) x) = pc (anb (orb (rdb le g) n) y)) := by
      apply propext
      rw [← Int32.toInt_inj, pk_sub_toInt (by omega) (by omega), nI_toInt (by omega)]
      omega
    unfold f_X5_isBetterFire
    simp only [L0, L1, L2, L3, L4, L5, L6, L7, L8, L9, L10, L11, L12, L13, L19, L20, L26, L31, L32, L33, L48, L49, L50, L51, L57, L59, L60, L61, L98, L99, L100, L108, L112, L115, L127, L128, L200, L201, L255, L256, L257, L400, L401, L420, L459, L999, L1000, L5940]
    rw [q_left x hrb, qbd, q_left y hrb, qbd, qck (show x < 128 by omega) (by omega), qck (show y < 128 by omega) (by omega), qcl (by omega), qcl (by omega), q2 x hx, q2 y hy]
    simp only [hlt, heq]
    by_cases c1 : pc (anb (orb (rdb le g) n) y) < pc (anb (orb (rdb le g) n) x)
    · rw [if_pos c1, decide_eq_true (Or.inl c1)]; rfl
    · rw [if_neg c1]
      by_cases c2 : pc (anb (orb (rdb le g) n) x) = pc (anb (orb (rdb le g) n) y)
      · rw [if_pos c2]
        by_cases c3 : wsum (tot g) x n < wsum (tot g) y n
        · rw [if_neg (by rw [nI_leI (by omega) (by omega)]; omega), decide_eq_true (Or.inr ⟨c2, c3⟩)]; rfl
        · rw [if_pos (nI_le (by omega) (by omega)), decide_eq_false (by omega)]; rfl
      · rw [if_neg c2, decide_eq_false (by omega)]; rfl
  have key : ∀ d x f1 f2 (B : Option Nat), x + d = 2 ^ n → d < f1 → d < f2 → (∀ y, B = some y → y < 2 ^ n) → ∀ lst : Int32, (∀ y, B = some y → lst = nI (wsum (tot g) y n)) →
      ∃ B' : Option Nat, (∀ y, B' = some y → y < 2 ^ n) ∧ f_X5_bestFire_L6 (nI (2 ^ n)) w (nI m) (nI (orb (rdb le g) n)) f1 (fo B) (nI x) = some (fo B') ∧ f_X8_fire_L35 td s (nI m) (nI v) f2 (fo B) (most (orb (rdb le g) n) B) lst (nI x) = (if nI v = nI 0 then some (fo B') else some (most (orb (rdb le g) n) B')) := by
    intro d
    induction d with
    | zero =>
      intro x f1 f2 B hx hf1 hf2 hB lst hl
      obtain ⟨f1, rfl⟩ : ∃ k, f1 = k + 1 := ⟨f1 - 1, by omega⟩
      obtain ⟨f2, rfl⟩ : ∃ k, f2 = k + 1 := ⟨f2 - 1, by omega⟩
      refine ⟨B, hB, ?_, ?_⟩
      · show f_X5_bestFire_B6 _ _ _ _ _ _ _ = _
        unfold f_X5_bestFire_B6
        rw [if_pos (nI_le (by omega) (by omega))]
      · show f_X8_fire_B35 _ _ _ _ _ _ _ _ _ = _
        unfold f_X8_fire_B35
        simp only [L0, L1, L2, L3, L4, L5, L6, L7, L8, L9, L10, L11, L12, L13, L19, L20, L26, L31, L32, L33, L48, L49, L50, L51, L57, L59, L60, L61, L98, L99, L100, L108, L112, L115, L127, L128, L200, L201, L255, L256, L257, L400, L401, L420, L459, L999, L1000, L5940]
        rw [qck (by omega) (by omega), qcl (by omega), e0, h2n, if_pos (nI_le (by omega) (by omega))]
    | succ d ih =>
      intro x f1 f2 B hx hf1 hf2 hB lst hl
      obtain ⟨f1, rfl⟩ : ∃ k, f1 = k + 1 := ⟨f1 - 1, by omega⟩
      obtain ⟨f2, rfl⟩ : ∃ k, f2 = k + 1 := ⟨f2 - 1, by omega⟩
      have hxn : x < 2 ^ n := by omega
      have sx := hsm x
      have px := pc_le (anb (orb (rdb le g) n) x)
      have E0 : f_X8_fire_J149 (fo B) (most (orb (rdb le g) n) B) lst (nI x) (f_X8_fire_L35 td s (nI m) (nI v) f2) (nI (wsum (tot g) x n)) (nI (pc (anb (orb (rdb le g) n) x))) (nI 0) = f_X8_fire_L35 td s (nI m) (nI v) f2 (fo B) (most (orb (rdb le g) n) B) lst (nI (x + 1)) := by
        unfold f_X8_fire_J149 f_X8_fire_J162 f_X8_fire_J175
        simp only [L0, L1, L2, L3, L4, L5, L6, L7, L8, L9, L10, L11, L12, L13, L19, L20, L26, L31, L32, L33, L48, L49, L50, L51, L57, L59, L60, L61, L98, L99, L100, L108, L112, L115, L127, L128, L200, L201, L255, L256, L257, L400, L401, L420, L459, L999, L1000, L5940]
        rw [if_pos trivial, if_pos trivial, if_pos trivial, nI_add]
      have E1 : f_X8_fire_J149 (fo B) (most (orb (rdb le g) n) B) lst (nI x) (f_X8_fire_L35 td s (nI m) (nI v) f2) (nI (wsum (tot g) x n)) (nI (pc (anb (orb (rdb le g) n) x))) (nI 1) = f_X8_fire_L35 td s (nI m) (nI v) f2 (fo (some x)) (most (orb (rdb le g) n) (some x)) (nI (wsum (tot g) x n)) (nI (x + 1)) := by
        unfold f_X8_fire_J149 f_X8_fire_J162 f_X8_fire_J175
        simp only [L0, L1, L2, L3, L4, L5, L6, L7, L8, L9, L10, L11, L12, L13, L19, L20, L26, L31, L32, L33, L48, L49, L50, L51, L57, L59, L60, L61, L98, L99, L100, L108, L112, L115, L127, L128, L200, L201, L255, L256, L257, L400, L401, L420, L459, L999, L1000, L5940]
        rw [if_neg (show ¬ nI 1 = nI 0 by decide), if_neg (show ¬ nI 1 = nI 0 by decide), if_neg (show ¬ nI 1 = nI 0 by decide), nI_add]
        rfl
      have keepB := ih (x + 1) f1 f2 B (by omega) (by omega) (by omega) hB lst hl
      have takeX := ih (x + 1) f1 f2 (some x) (by omega) (by omega) (by omega) (fun y e => by cases e; exact hxn) (nI (wsum (tot g) x n)) (fun y e => by cases e; rfl)
      show ∃ B', _ ∧ f_X5_bestFire_B6 _ _ _ _ _ _ _ = _ ∧ f_X8_fire_B35 _ _ _ _ _ _ _ _ _ = _
      unfold f_X5_bestFire_B6 f_X8_fire_B35
      simp only [L0, L1, L2, L3, L4, L5, L6, L7, L8, L9, L10, L11, L12, L13, L19, L20, L26, L31, L32, L33, L48, L49, L50, L51, L57, L59, L60, L61, L98, L99, L100, L108, L112, L115, L127, L128, L200, L201, L255, L256, L257, L400, L401, L420, L459, L999, L1000, L5940]
      rw [if_neg (nI_ge hxn (by omega)), qck (show x < 128 by omega) (by omega), qcl (by omega), q2 x hxn, qck (show 0 < 33 by omega) (by omega), qcl (by omega), e0, h2n, if_neg (nI_ge hxn (by omega)), q_fsum (g := g) hn e0 (by omega) w7b, nI_add]
      unfold f_X8_fire_J97
      simp only [L0, L1, L2, L3, L4, L5, L6, L7, L8, L9, L10, L11, L12, L13, L19, L20, L26, L31, L32, L33, L48, L49, L50, L51, L57, L59, L60, L61, L98, L99, L100, L108, L112, L115, L127, L128, L200, L201, L255, L256, L257, L400, L401, L420, L459, L999, L1000, L5940]
      rw [q_allRead hn e0 hle.2 e1l w7b w1, qbd, q_anb x hrb, q_ones (by have := anb_lt x hrb; omega), qbd, E0, E1]
      by_cases c1 : wsum (tot g) x n < m
      · rw [if_pos (nI_lt c1 (by omega)), if_pos (nI_lt c1 (by omega))]
        exact keepB
      rw [if_neg (nI_nlt (by omega) (by omega)), if_neg (nI_nlt (by omega) (by omega))]
      cases B with
      | none =>
        rw [if_pos (show fo none = -nI 9 from rfl), if_pos (show fo none = -nI 9 from rfl)]
        exact takeX
      | some y =>
        have hyn := hB y rfl
        have py := pc_le (anb (orb (rdb le g) n) y)
        have sy := hsm y
        rw [if_neg (show ¬ fo (some y) = -nI 9 from m9ne y (by omega)), if_neg (show ¬ fo (some y) = -nI 9 from m9ne y (by omega)), hl y rfl]
        show ∃ B', _ ∧ bd (f_X5_isBetterFire w (nI x) (nI y) (nI (orb (rdb le g) n))) _ = _ ∧ (if nI (pc (anb (orb (rdb le g) n) y)) < nI (pc (anb (orb (rdb le g) n) x)) then _ else if nI (pc (anb (orb (rdb le g) n) x)) = nI (pc (anb (orb (rdb le g) n) y)) then _ else _) = _
        rw [hl y rfl] at keepB
        rw [hBl x y hxn hyn, qbd]
        by_cases c2 : pc (anb (orb (rdb le g) n) y) < pc (anb (orb (rdb le g) n) x)
        · rw [decide_eq_true (Or.inl c2), if_neg (show ¬ bI true = nI 0 by decide), if_pos (nI_lt c2 (by omega))]
          exact takeX
        · have d2 : ¬ nI (pc (anb (orb (rdb le g) n) y)) < nI (pc (anb (orb (rdb le g) n) x)) := nI_nlt (by omega) (by omega)
          rw [if_neg d2]
          by_cases c3 : pc (anb (orb (rdb le g) n) x) = pc (anb (orb (rdb le g) n) y)
          · have d3 : nI (pc (anb (orb (rdb le g) n) x)) = nI (pc (anb (orb (rdb le g) n) y)) := by rw [c3]
            rw [if_pos d3]
            by_cases c4 : wsum (tot g) x n < wsum (tot g) y n
            · have d4 : ¬ nI (wsum (tot g) y n) ≤ nI (wsum (tot g) x n) := by rw [nI_leI (by omega) (by omega)]; omega
              rw [decide_eq_true (Or.inr ⟨c3, c4⟩), if_neg (show ¬ bI true = nI 0 by decide), if_neg d4]
              exact takeX
            · have d4 : nI (wsum (tot g) y n) ≤ nI (wsum (tot g) x n) := nI_le (by omega) (by omega)
              rw [decide_eq_false (by omega), if_pos (show bI false = nI 0 from rfl), if_pos d4]
              exact keepB
          · have d3 : ¬ nI (pc (anb (orb (rdb le g) n) x)) = nI (pc (anb (orb (rdb le g) n) y)) := by rw [nI_eq (by omega) (by omega)]; exact c3
            rw [if_neg d3, decide_eq_false (by omega), if_pos (show bI false = nI 0 from rfl)]
            exact keepB
  have hstep : f_X8_fire_L35 td s (nI m) (nI v) FU (-nI 9) (-nI 9) (nI 0) (nI 0) = f_X8_fire_L35 td s (nI m) (nI v) 999 (-nI 9) (-nI 9) (nI 0) (nI 1) := by
    show f_X8_fire_B35 _ _ _ _ _ _ _ _ _ = _
    unfold f_X8_fire_B35
    simp only [L0, L1, L2, L3, L4, L5, L6, L7, L8, L9, L10, L11, L12, L13, L19, L20, L26, L31, L32, L33, L48, L49, L50, L51, L57, L59, L60, L61, L98, L99, L100, L108, L112, L115, L127, L128, L200, L201, L255, L256, L257, L400, L401, L420, L459, L999, L1000, L5940]
    have hz : wsum (tot g) 0 n = 0 := sm_z (fun p _ => if_neg (by rw [Nat.zero_testBit]; decide))
    have hpos : 0 < 2 ^ n := Nat.two_pow_pos n
    rw [qck (by omega) (by omega), qcl (by omega), e0, h2n, if_neg (nI_ge hpos (by omega)), q_fsum (g := g) hn e0 (by omega) w7b, hz]
    unfold f_X8_fire_J97 f_X8_fire_J149 f_X8_fire_J162 f_X8_fire_J175
    simp only [L0, L1, L2, L3, L4, L5, L6, L7, L8, L9, L10, L11, L12, L13, L19, L20, L26, L31, L32, L33, L48, L49, L50, L51, L57, L59, L60, L61, L98, L99, L100, L108, L112, L115, L127, L128, L200, L201, L255, L256, L257, L400, L401, L420, L459, L999, L1000, L5940]
    rw [q_allRead hn e0 hle.2 e1l w7b w1, qbd, q_anb 0 hrb, q_ones (by have := anb_lt 0 hrb; omega), qbd, if_pos (nI_lt (show 0 < m by omega) (by omega)), if_pos trivial, if_pos trivial, if_pos trivial, nI_add]
  obtain ⟨B', u0, u1, u2⟩ := key (2 ^ n - 1) 1 FU 999 none (by have := Nat.two_pow_pos n; omega) (fu (by omega)) (by omega) (fun y e => by cases e) (nI 0) (fun y e => by cases e)
  have u2' : f_X8_fire_L35 td s (nI m) (nI v) 999 (-nI 9) (-nI 9) (nI 0) (nI 1) = _ := u2
  have u1' : f_X5_bestFire (nI (2 ^ n)) w (nI m) (nI (orb (rdb le g) n)) = some (fo B') := u1
  rw [e3, e4, q1, q_readable (K := K) hn hle.2 ho hbo (fun p hp2 => (hj p hp2).2.2.2.2.2.1) w7a w1, hstep, u2']
  simp only [qbd, if_neg (show ¬ nI 1 = nI 0 by decide), u1']
  cases B' with
  | none =>
    rw [if_pos (show fo none = -nI 9 from rfl)]
    by_cases c : nI v = nI 0
    · rw [if_pos c]; exact ⟨_, _, rfl, rfl, rfl⟩
    · rw [if_neg c]; exact ⟨_, _, rfl, rfl, rfl⟩
  | some y =>
    have hyn := u0 y rfl
    rw [if_neg (show ¬ fo (some y) = -nI 9 from m9ne y (by omega))]
    by_cases c : nI v = nI 0
    · rw [if_pos c, if_pos c]; exact ⟨_, _, rfl, rfl, rfl⟩
    · rw [if_neg c, if_neg c]
      have := q_left (b := y) hrb
      have e : f_X5_countLeft (nI (orb (rdb le g) n)) (fo (some y)) = some (nI (pc (anb (orb (rdb le g) n) y))) := this
      rw [e]
      exact ⟨_, _, rfl, rfl, rfl⟩
