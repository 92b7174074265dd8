/-! the two tables -/
theorem spec_up {W T F : Nat → Nat} {sh n x m : Nat} (hx : x < 128) (hx0 : 0 < x) (h : spec W T F sh n x) (hm : isMn 99 (fun i => (sub i x ∧ stn W T sh n i = true) ∧ F (anb x i) < 99) (fun i => F (anb x i) + 1) m) : ∃ F', (∀ y, y < x → F' y = F y) ∧ F' x = m ∧ spec W T F' sh n (x + 1) := by
  refine ⟨fun y => if y = x then m else F y, fun y hy => if_neg (by omega), if_pos rfl, ?_, ?_⟩
  · show (if 0 = x then m else F 0) = 0
    rw [if_neg (by omega)]
    exact h.1
  · intro y hy0 hy
    have e : ∀ i, sub i y → (if anb y i = x then m else F (anb y i)) = F (anb y i) := fun i hi => by
      have := anb_less (show y < 128 by omega) hi
      rw [if_neg (by omega)]
    have base : isMn 99 (fun i => (sub i y ∧ stn W T sh n i = true) ∧ F (anb y i) < 99) (fun i => F (anb y i) + 1) (if y = x then m else F y) := by
      by_cases c : y = x
      · subst c; rw [if_pos rfl]; exact hm
      · rw [if_neg c]; exact h.2 y hy0 (by omega)
    obtain ⟨b1, b2, b3⟩ := base
    refine ⟨b1, fun i hi => ?_, ?_⟩
    · have e2 := e i hi.1.1
      have hi2 : (if anb y i = x then m else F (anb y i)) < 99 := hi.2
      show (if y = x then m else F y) ≤ (if anb y i = x then m else F (anb y i)) + 1
      rw [e2] at hi2 ⊢
      exact b2 i ⟨hi.1, hi2⟩
    · rcases b3 with u | ⟨i, hi, u⟩
      · exact Or.inl u
      · refine Or.inr ⟨i, ⟨hi.1, ?_⟩, ?_⟩
        · show (if anb y i = x then m else F (anb y i)) < 99
          rw [e i hi.1.1]; exact hi.2
        · show (if anb y i = x then m else F (anb y i)) + 1 = (if y = x then m else F y)
          rw [e i hi.1.1]; exact u
theorem spec_99 {W T F : Nat → Nat} {sh n x y : Nat} (h : spec W T F sh n x) (hy : y < x) : F y ≤ 99 := by
  by_cases c : y = 0
  · subst c; rw [h.1]; omega
  · exact (h.2 y (by omega) hy).1
theorem q_tab {n sh : Nat} {g T : Nat → Nat} {s td few0 : Nat → Int32} {al : Int32} (hn : n ≤ 7) (h0 : td 0 = nI n) (h2 : td 2 = nI sh) (hT : ∀ j, j < n → T j ≤ 2 ∧ td (26 + j) = nI (T j)) (hs : ∀ x, x < 49 → s x = nI (g x)) (hv : vg n g) (hsh : sh < 1000) : ∃ F few, spec (tot g) T F sh n (2 ^ n) ∧ (∀ y, y < 2 ^ n → few y = nI (F y)) ∧ f_X8_shelves_L40 td s al FU (nI 0) few0 = f_X8_shelves_J178 al few := by
  have h128 := p2 hn
  have key : ∀ d x f (F : Nat → Nat) (few : Nat → Int32), x + d = 2 ^ n → d < f → 0 < x → spec (tot g) T F sh n x → (∀ y, y < x → few y = nI (F y)) → ∃ F few', spec (tot g) T F sh n (2 ^ n) ∧ (∀ y, y < 2 ^ n → few' y = nI (F y)) ∧ f_X8_shelves_L40 td s al f (nI x) few = f_X8_shelves_J178 al few' := by
    intro d
    induction d with
    | zero =>
      intro x f F few hx hf hx0 hS hF
      obtain ⟨f, rfl⟩ : ∃ k, f = k + 1 := ⟨f - 1, by omega⟩
      have e : x = 2 ^ n := by omega
      refine ⟨F, few, by rw [← e]; exact hS, fun y hy => hF y (by omega), ?_⟩
      show f_X8_shelves_B40 _ _ _ _ _ _ = _
      unfold f_X8_shelves_B40
      simp only [L0, L1, L2, L3, L4, L5, L6, L7, L8, L9, L10, L11, L12, L13, L19, L20, L26, L31, L32, L33, L48, L49, L50, L51, L57, L59, L60, L61, L98, L99, L100, L108, L112, L115, L127, L128, L200, L201, L255, L256, L257, L400, L401, L420, L459, L999, L1000, L5940]
      rw [qck (by omega) (by omega), qcl (by omega), h0, shl1 n (by omega), if_pos (nI_le (by omega) (by omega))]
    | succ d ih =>
      intro x f F few hx hf hx0 hS hF
      obtain ⟨f, rfl⟩ : ∃ k, f = k + 1 := ⟨f - 1, by omega⟩
      have hxn : x < 2 ^ n := by omega
      obtain ⟨m, few', m1, m2, m3, m4⟩ := q_row (few := upd few x (nI 99)) (k := f_X8_shelves_L40 td s al f) hn h0 h2 hT hxn hx0 hs hv hsh (fun y hy => ⟨by rw [qu_n (by omega)]; exact hF y hy, spec_99 hS hy⟩) (by rw [qu_s])
      obtain ⟨F', f1, f2, f3⟩ := spec_up (by omega) hx0 hS m1
      show ∃ F few', _ ∧ _ ∧ f_X8_shelves_B40 _ _ _ _ _ _ = _
      unfold f_X8_shelves_B40
      simp only [L0, L1, L2, L3, L4, L5, L6, L7, L8, L9, L10, L11, L12, L13, L19, L20, L26, L31, L32, L33, L48, L49, L50, L51, L57, L59, L60, L61, L98, L99, L100, L108, L112, L115, L127, L128, L200, L201, L255, L256, L257, L400, L401, L420, L459, L999, L1000, L5940]
      rw [qck (show 0 < 33 by omega) (by omega), qcl (show 0 < 2147483648 by omega), h0, shl1 n (by omega), if_neg (nI_ge hxn (by omega)), if_neg (show ¬ nI x = nI 0 by rw [nI_eq (by omega) (by omega)]; omega), qck (show x < 128 by omega) (by omega), qcl (show x < 2147483648 by omega), m4]
      refine ih (x + 1) f F' few' (by omega) (by omega) (by omega) f3 (fun y hy => ?_)
      by_cases c : y = x
      · subst c; rw [f2]; exact m3
      · rw [f1 y (by omega)]; exact m2 y (by omega)
  have hpos : 0 < 2 ^ n := Nat.two_pow_pos n
  have hstep : f_X8_shelves_L40 td s al FU (nI 0) few0 = f_X8_shelves_L40 td s al 999 (nI 1) (upd few0 0 (nI 0)) := by
    show f_X8_shelves_B40 _ _ _ _ _ _ = _
    unfold f_X8_shelves_B40
    simp only [L0, L1, L2, L3, L4, L5, L6, L7, L8, L9, L10, L11, L12, L13, L19, L20, L26, L31, L32, L33, L48, L49, L50, L51, L57, L59, L60, L61, L98, L99, L100, L108, L112, L115, L127, L128, L200, L201, L255, L256, L257, L400, L401, L420, L459, L999, L1000, L5940]
    rw [qck (show 0 < 33 by omega) (by omega), qcl (show 0 < 2147483648 by omega), h0, shl1 n (by omega), if_neg (nI_ge hpos (by omega)), if_pos trivial, qck (show 0 < 128 by omega) (by omega)]
    show f_X8_shelves_B70 _ _ _ _ _ _ _ = _
    unfold f_X8_shelves_B70
    simp only [L0, L1, L2, L3, L4, L5, L6, L7, L8, L9, L10, L11, L12, L13, L19, L20, L26, L31, L32, L33, L48, L49, L50, L51, L57, L59, L60, L61, L98, L99, L100, L108, L112, L115, L127, L128, L200, L201, L255, L256, L257, L400, L401, L420, L459, L999, L1000, L5940]
    rw [if_pos (nI_lt (by omega) (by omega)), nI_add]
  rw [hstep]
  refine key (2 ^ n - 1) 1 999 (fun _ => 0) _ (by omega) (by omega) (by omega) ⟨rfl, fun y h1 h2 => absurd h2 (by omega)⟩ (fun y hy => ?_)
  rw [show y = 0 by omega, qu_s]
theorem wsum_bit {W : Nat → Nat} {x p n : Nat} (hp : p < n) (h : x.testBit p = true) : W p ≤ wsum W x n := by
  have := sm_el (fun p => if x.testBit p = true then W p else 0) hp
  rw [if_pos h] at this
  exact this
theorem wsum_one {W : Nat → Nat} {p n : Nat} (hp : p < n) : wsum W (2 ^ p) n = W p := by
  unfold wsum
  rw [← sm_ind W hp]
  refine sm_cong (fun k _ => ?_)
  rw [Nat.testBit_two_pow]
  by_cases c : k = p
  · subst c; rw [if_pos (by simp), if_pos rfl]
  · rw [if_neg (by simp; omega), if_neg c]
theorem stn_le {W T : Nat → Nat} {sh n x : Nat} (h : stn W T sh n x = true) : wsum W x n ≤ sh := by
  unfold stn at h
  rw [Bool.and_eq_true] at h
  exact of_decide_eq_true h.1
theorem stn_one {W T : Nat → Nat} {sh n p : Nat} (hp : p < n) (h : W p ≤ sh) : stn W T sh n (2 ^ p) = true := by
  unfold stn
  rw [wsum_one hp, decide_eq_true h, Bool.true_and]
  have aux : ∀ b : Bool, T p = 2 ∨ ¬ T p = 2 → (hasB (nh T (2 ^ p)) n && hasB (yh T (2 ^ p)) n) = false := by
    intro _ c
    rcases c with c | c
    · have : hasB (nh T (2 ^ p)) n = false := hasB_f.2 (fun k hk => by
        show ((2 ^ p).testBit k && !decide (T k = 2)) = false
        rw [Nat.testBit_two_pow]
        by_cases e : p = k
        · subst e; rw [decide_eq_true c]; simp
        · rw [decide_eq_false e]; rfl)
      rw [this]; rfl
    · have : hasB (yh T (2 ^ p)) n = false := hasB_f.2 (fun k hk => by
        show ((2 ^ p).testBit k && decide (T k = 2)) = false
        rw [Nat.testBit_two_pow]
        by_cases e : p = k
        · subst e; rw [decide_eq_false c]; simp
        · rw [decide_eq_false e]; rfl)
      rw [this]; simp
  rw [aux true (Decidable.em _)]
  rfl
theorem few_no {W T F : Nat → Nat} {sh n p : Nat} (hn : n ≤ 7) (hp : p < n) (hW : sh < W p) (h : spec W T F sh n (2 ^ n)) : ∀ y, y < 2 ^ n → y.testBit p = true → F y = 99 := by
  have h128 := p2 hn
  intro y
  induction y using Nat.strongRecOn with
  | _ y ih =>
    intro hy hb
    have y0 : 0 < y := by
      by_cases c : y = 0
      · subst c; rw [Nat.zero_testBit] at hb; exact absurd hb (by decide)
      · omega
    rcases (h.2 y y0 hy).2.2 with u | ⟨i, hi, -⟩
    · exact u
    · exfalso
      have hl := anb_less (show y < 128 by omega) hi.1.1
      have hib : i.testBit p = false := by
        cases c : i.testBit p with
        | false => rfl
        | true =>
          have := wsum_bit (W := W) hp c
          have := stn_le hi.1.2
          omega
      have := ih (anb y i) hl (by omega) (by rw [anb_bit _ (by omega), hb, hib]; rfl)
      have h9 : F (anb y i) < 99 := hi.2
      omega
theorem pc_less : ∀ y, y < 128 → ∀ k, k < 7 → y.testBit k = true → pc (anb y (2 ^ k)) + 1 = pc y := by decide +kernel
theorem has_bit : ∀ y, y < 128 → 0 < y → ∃ k, k < 7 ∧ y.testBit k = true := by decide +kernel
theorem few_yes {W T F : Nat → Nat} {sh n : Nat} (hn : n ≤ 7) (hW : ∀ p, p < n → W p ≤ sh) (h : spec W T F sh n (2 ^ n)) : ∀ y, y < 2 ^ n → F y ≤ pc y := by
  have h128 := p2 hn
  intro y
  induction y using Nat.strongRecOn with
  | _ y ih =>
    intro hy
    by_cases c : y = 0
    · subst c; rw [h.1]; exact Nat.zero_le _
    · obtain ⟨k, hk, hb⟩ := has_bit y (by omega) (by omega)
      have hkn : k < n := by
        by_cases e : k < n
        · exact e
        · rw [Nat.testBit_lt_two_pow (Nat.lt_of_lt_of_le hy (Nat.pow_le_pow_right (by omega) (by omega)))] at hb
          exact absurd hb (by decide)
      have hs : sub (2 ^ k) y := by
        refine ⟨Nat.two_pow_pos k, ?_⟩
        apply Nat.eq_of_testBit_eq
        intro i
        rw [Nat.testBit_and, Nat.testBit_two_pow]
        by_cases e : k = i
        · subst e; rw [hb]; simp
        · rw [decide_eq_false e]; rfl
      have hl := anb_less (show y < 128 by omega) hs
      have i1 := ih _ hl (by omega)
      have i2 := pc_less y (by omega) k hk hb
      have i3 := pc_le (anb y (2 ^ k))
      have := (h.2 y (by omega) hy).2.1 (2 ^ k) ⟨⟨hs, stn_one hkn (hW k hkn)⟩, by omega⟩
      have e : (fun i => F (anb y i) + 1) (2 ^ k) = F (anb y (2 ^ k)) + 1 := rfl
      omega
theorem q_all2 {n : Nat} {g : Nat → Nat} {s td few : Nat → Int32} (hn : n ≤ 7) (h0 : td 0 = nI n) (hs : ∀ x, x < 49 → s x = nI (g x)) (hg : ∀ p, p < n → tot g p ≤ 420) : f_X8_shelves td s few = f_X8_shelves_L40 td s (nI (orb (fun p => decide (0 < tot g p)) n)) FU (nI 0) few := by
  unfold f_X8_shelves
  simp only [L0, L1, L2, L3, L4, L5, L6, L7, L8, L9, L10, L11, L12, L13, L19, L20, L26, L31, L32, L33, L48, L49, L50, L51, L57, L59, L60, L61, L98, L99, L100, L108, L112, L115, L127, L128, L200, L201, L255, L256, L257, L400, L401, L420, L459, L999, L1000, L5940]
  refine lup (fun q f => f_X8_shelves_L4 td s few f (nI (orb (fun p => decide (0 < tot g p)) q)) (nI q)) n _ (fun q f hq => ?_) (fun f => ?_) 0 FU (by omega) (fu (by omega))
  · have hgq := hg q hq
    show f_X8_shelves_B4 _ _ _ _ _ _ = _
    unfold f_X8_shelves_B4
    simp only [L0, L1, L2, L3, L4, L5, L6, L7, L8, L9, L10, L11, L12, L13, L19, L20, L26, L31, L32, L33, L48, L49, L50, L51, L57, L59, L60, L61, L98, L99, L100, L108, L112, L115, L127, L128, L200, L201, L255, L256, L257, L400, L401, L420, L459, L999, L1000, L5940]
    rw [qck (by omega) (by omega), qcl (by omega), h0, if_neg (nI_ge hq (by omega)), q_full hs (by omega), qbd, nI_add, shl1 q (by omega), fa_or, fa_or, Nat.or_zero]
    show _ = f_X8_shelves_L4 _ _ _ _ (nI (match decide (0 < tot g q) with
      | true => orb (fun p => decide (0 < tot g p)) q ||| 2 ^ q
      | false => orb (fun p => decide (0 < tot g p)) q)) _
    by_cases c : 0 < tot g q
    · rw [if_neg (by rw [nI_leI (by omega) (by omega)]; omega), decide_eq_true c]
    · rw [if_pos (nI_le (by omega) (by omega)), decide_eq_false c]
  · show f_X8_shelves_B4 _ _ _ _ _ _ = _
    unfold f_X8_shelves_B4
    simp only [L0, L1, L2, L3, L4, L5, L6, L7, L8, L9, L10, L11, L12, L13, L19, L20, L26, L31, L32, L33, L48, L49, L50, L51, L57, L59, L60, L61, L98, L99, L100, L108, L112, L115, L127, L128, L200, L201, L255, L256, L257, L400, L401, L420, L459, L999, L1000, L5940]
    rw [qck (by omega) (by omega), qcl (by omega), h0, if_pos (nI_le (Nat.le_refl _) (by omega))]
theorem q_single {n sh : Nat} {W : Nat → Nat} {w few : Nat → Int32} {hl fl : Int32} (hn : n ≤ 7) (hw : ∀ p, p < n → W p ≤ 420) (hsh : sh < 1000) (e : ∀ x, x < 2 ^ n → w x = nI (wsum W x n)) : ((∃ p, p < n ∧ sh < W p) ∧ f_X5_fewestShelves (nI (2 ^ n)) (nI sh) hl fl w few = some (-nI 9, few)) ∨ ((∀ p, p < n → W p ≤ sh) ∧ f_X5_fewestShelves (nI (2 ^ n)) (nI sh) hl fl w few = f_X5_fewestShelves_J33 (nI (2 ^ n)) (nI sh) hl fl w few) := by
  have h128 := p2 hn
  have key : ∀ d p f, p + d = n → d < f → (∀ q, q < p → W q ≤ sh) → ((∃ p, p < n ∧ sh < W p) ∧ f_X5_fewestShelves_L2 (nI (2 ^ n)) (nI sh) hl fl w few f (nI (2 ^ p)) = some (-nI 9, few)) ∨ ((∀ p, p < n → W p ≤ sh) ∧ f_X5_fewestShelves_L2 (nI (2 ^ n)) (nI sh) hl fl w few f (nI (2 ^ p)) = f_X5_fewestShelves_J33 (nI (2 ^ n)) (nI sh) hl fl w few) := by
    intro d
    induction d with
    | zero =>
      intro p f hp hf hq
      obtain ⟨f, rfl⟩ : ∃ k, f = k + 1 := ⟨f - 1, by omega⟩
      have : p = n := by omega
      subst this
      refine Or.inr ⟨hq, ?_⟩
      show f_X5_fewestShelves_B2 _ _ _ _ _ _ _ _ = _
      unfold f_X5_fewestShelves_B2
      rw [if_pos (nI_le (Nat.le_refl _) (by omega))]
    | succ d ih =>
      intro p f hp hf hq
      obtain ⟨f, rfl⟩ : ∃ k, f = k + 1 := ⟨f - 1, by omega⟩
      have hpn : p < n := by omega
      have hlt : 2 ^ p < 2 ^ n := Nat.pow_lt_pow_right (by omega) hpn
      have hwp := hw p hpn
      have red : f_X5_fewestShelves_L2 (nI (2 ^ n)) (nI sh) hl fl w few (f + 1) (nI (2 ^ p)) = if nI (W p) ≤ nI sh then f_X5_fewestShelves_L2 (nI (2 ^ n)) (nI sh) hl fl w few f (nI (2 ^ (p + 1))) else some (-nI 9, few) := by
        show f_X5_fewestShelves_B2 _ _ _ _ _ _ _ _ = _
        unfold f_X5_fewestShelves_B2
        simp only [L0, L1, L2, L3, L4, L5, L6, L7, L8, L9, L10, L11, L12, L13, L19, L20, L26, L31, L32, L33, L48, L49, L50, L51, L57, L59, L60, L61, L98, L99, L100, L108, L112, L115, L127, L128, L200, L201, L255, L256, L257, L400, L401, L420, L459, L999, L1000, L5940]
        rw [if_neg (nI_ge hlt (by omega)), qck (show 2 ^ p < 128 by omega) (by omega), qcl (by omega), e _ hlt, wsum_one hpn, pk_mul, Nat.pow_succ]
      rw [red]
      by_cases c : W p ≤ sh
      · rw [if_pos (nI_le c (by omega))]
        refine ih (p + 1) f (by omega) (by omega) (fun q hq2 => ?_)
        by_cases e2 : q = p
        · subst e2; exact c
        · exact hq q (by omega)
      · rw [if_neg (by rw [nI_leI (by omega) (by omega)]; exact c)]
        exact Or.inl ⟨⟨p, hpn, by omega⟩, rfl⟩
  exact key n 0 FU (by omega) (fu (by omega)) (fun q hq => absurd hq (by omega))
theorem sub_fill {i x y : Nat} (h : sub i x) (hx : x &&& y = x) : anb x i &&& y = anb x i := by
  unfold anb
  rw [Nat.and_assoc, Nat.and_comm (i ^^^ 127) y, ← Nat.and_assoc, hx]
theorem sim_shelves {n : Nat} {Y K T : Nat → Nat} {le sh : Nat} {hp hl hs : Int32} {hy hk ht hb td : Nat → Int32} (h : RH n Y K T le sh hp hl hs hy hk ht hb td) {g : Nat → Nat} {a b : Nat} {sp : Nat → Int32} {spr lo' : Int32} {s : Nat → Int32} (hR : RS n g a b sp spr lo' s 0) (zw zf mf : Nat → Int32) : ∃ o1 o2, f_X7_shelves hp hs ht zw sp zf = some o1 ∧ f_X8_shelves td s mf = some o2 ∧ o1.1 = o2.1 := by
  obtain ⟨hn, hle, hsh, rfl, e0, rfl, e1l, rfl, e2l, hj, -⟩ := h
  obtain ⟨w1, w2, w3, w4, w5, w6, w7a, w7b⟩ := hR.get0
  have h128 := p2 hn
  have hpos : 0 < 2 ^ n := Nat.two_pow_pos n
  obtain ⟨w, q1, q2⟩ := q_weigh (wt0 := zw) (shf := nI sh) (T := T) hn w7a w1 (fun j hj2 => ⟨(hj j hj2).2.2.1, (hj j hj2).2.2.2.2.2.2.2.1⟩)
  have hw := tot_all w1 hn
  have hg : ∀ p, p < n → tot g p ≤ 420 := fun p hp2 => Nat.le_trans (tot_le (by omega)) w1.1
  have hT : ∀ j, j < n → T j ≤ 2 ∧ td (26 + j) = nI (T j) := fun j hj2 => ⟨(hj j hj2).2.2.1, (hj j hj2).2.2.2.2.2.2.2.2⟩
  have hfl := orb_lt (fun p => decide (0 < tot g p)) n
  obtain ⟨F, few, f1, f2, f3⟩ := q_tab (few0 := mf) (al := nI (orb (fun p => decide (0 < tot g p)) n)) hn e0 e2l hT w7b w1 (by omega)
  have f9 := spec_99 f1 hfl
  rw [q_all2 hn e0 w7b hg, f3]
  unfold f_X7_shelves f_X8_shelves_J178
  simp only [L0, L1, L2, L3, L4, L5, L6, L7, L8, L9, L10, L11, L12, L13, L19, L20, L26, L31, L32, L33, L48, L49, L50, L51, L57, L59, L60, L61, L98, L99, L100, L108, L112, L115, L127, L128, L200, L201, L255, L256, L257, L400, L401, L420, L459, L999, L1000, L5940]
  rw [q1, qbd, qck (show orb (fun p => decide (0 < tot g p)) n < 128 by omega) (by omega), qcl (by omega), f2 _ hfl]
  rcases q_single (few := zf) (hl := nI (orb (fun p => decide (T p = 2)) n)) (fl := nI (orb (fun p => decide (0 < tot g p)) n)) hn hg (show sh < 1000 by omega) q2 with ⟨⟨p, hpn, hps⟩, u⟩ | ⟨hall, u⟩
  · have : F (orb (fun p => decide (0 < tot g p)) n) = 99 := few_no hn hpn hps f1 _ hfl (by
      rw [orb_bit, decide_eq_true hpn, decide_eq_true (show 0 < tot g p by omega)]; rfl)
    rw [u, this, if_pos (show nI 99 = nI 99 from rfl)]
    exact ⟨_, _, rfl, rfl, rfl⟩
  · have hpc := few_yes hn hall f1
    have cls : ∀ d x f (fw : Nat → Int32), x + d = 2 ^ n → d < f → 0 < x → (∀ y, y < x → y &&& orb (fun p => decide (0 < tot g p)) n = y → fw y = nI (F y)) → ∃ fw', (∀ y, y < 2 ^ n → y &&& orb (fun p => decide (0 < tot g p)) n = y → fw' y = nI (F y)) ∧ f_X5_fewestShelves_L42 (nI (2 ^ n)) (nI sh) (nI (orb (fun p => decide (T p = 2)) n)) (nI (orb (fun p => decide (0 < tot g p)) n)) w f (nI x) fw = some (fw' (orb (fun p => decide (0 < tot g p)) n), fw') := by
      intro d
      induction d with
      | zero =>
        intro x f fw hx hf hx0 hF
        obtain ⟨f, rfl⟩ : ∃ k, f = k + 1 := ⟨f - 1, by omega⟩
        refine ⟨fw, fun y hy => hF y (by omega), ?_⟩
        show f_X5_fewestShelves_B42 _ _ _ _ _ _ _ _ = _
        unfold f_X5_fewestShelves_B42
        rw [if_pos (nI_le (by omega) (by omega)), qck (show orb (fun p => decide (0 < tot g p)) n < 128 by omega) (by omega), qcl (by omega)]
      | succ d ih =>
        intro x f fw hx hf hx0 hF
        obtain ⟨f, rfl⟩ : ∃ k, f = k + 1 := ⟨f - 1, by omega⟩
        have hxn : x < 2 ^ n := by omega
        show ∃ fw', _ ∧ f_X5_fewestShelves_B42 _ _ _ _ _ _ _ _ = _
        unfold f_X5_fewestShelves_B42
        simp only [L0, L1, L2, L3, L4, L5, L6, L7, L8, L9, L10, L11, L12, L13, L19, L20, L26, L31, L32, L33, L48, L49, L50, L51, L57, L59, L60, L61, L98, L99, L100, L108, L112, L115, L127, L128, L200, L201, L255, L256, L257, L400, L401, L420, L459, L999, L1000, L5940]
        rw [if_neg (nI_ge hxn (by omega)), q_filled hn hxn, qbd, nI_add]
        have hfi : (x &&& orb (fun p => decide (0 < tot g p)) n = x) ↔ unf (tot g) x n = false := and_x hxn
        cases c : unf (tot g) x n with
        | true =>
          rw [if_pos (show bI (!true) = nI 0 from rfl)]
          refine ih (x + 1) f fw (by omega) (by omega) (by omega) (fun y hy hyf => ?_)
          by_cases e : y = x
          · subst e
            rw [hfi, c] at hyf
            exact absurd hyf (by decide)
          · exact hF y (by omega) hyf
        | false =>
          rw [if_neg (show ¬ bI (!false) = nI 0 by decide)]
          have hxf := hfi.2 c
          obtain ⟨m, m1, m2⟩ := q_few (few := fw) (F := F) (T := T) hn hxn hw (show sh < 1000 by omega) q2 (fun i hi => by
            have := anb_less (show x < 128 by omega) hi
            exact ⟨hF _ this (sub_fill hi hxf), spec_99 f1 (by omega)⟩)
          rw [m2, qbd, qck (show x < 128 by omega) (by omega), qcl (by omega)]
          have hmF : m = F x := by
            obtain ⟨a1, a2, a3⟩ := m1
            obtain ⟨b1, b2, b3⟩ := f1.2 x hx0 hxn
            have h7 := hpc x hxn
            have h7' := pc_le x
            apply Nat.le_antisymm
            · rcases b3 with v | ⟨i, v, e⟩
              · omega
              · have := a2 i v.1
                omega
            · rcases a3 with v | ⟨i, v, e⟩
              · omega
              · have h8 := anb_less (show x < 128 by omega) v.1
                have h9 := hpc (anb x i) (by omega)
                have h10 := pc_le (anb x i)
                have := b2 i ⟨v, by omega⟩
                omega
          refine ih (x + 1) f _ (by omega) (by omega) (by omega) (fun y hy hyf => ?_)
          by_cases e : y = x
          · subst e
            rw [qu_s, hmF]
          · rw [qu_n (by omega)]; exact hF y (by omega) hyf
    obtain ⟨fw', v1, v2⟩ := cls (2 ^ n - 1) 1 FU (upd zf 0 (nI 0)) (by omega) (fu (by omega)) (by omega) (fun y hy _ => by
      rw [show y = 0 by omega, qu_s, f1.1])
    have v3 := v1 _ hfl (Nat.and_self _)
    have h7 := hpc _ hfl
    have h7' := pc_le (orb (fun p => decide (0 < tot g p)) n)
    have j : f_X5_fewestShelves_J33 (nI (2 ^ n)) (nI sh) (nI (orb (fun p => decide (T p = 2)) n)) (nI (orb (fun p => decide (0 < tot g p)) n)) w zf = some (fw' (orb (fun p => decide (0 < tot g p)) n), fw') := v2
    rw [u, j, qbd, v3, if_neg (show ¬ nI (F (orb (fun p => decide (0 < tot g p)) n)) = nI 99 by rw [nI_eq (by omega) (by omega)]; omega), qck (show orb (fun p => decide (0 < tot g p)) n < 128 by omega) (by omega)]
    exact ⟨_, _, rfl, rfl, rfl⟩
