/-! the fewest shelves -/
def isMn (b : Nat) (P : Nat → Prop) (v : Nat → Nat) (m : Nat) : Prop := m ≤ b ∧ (∀ i, P i → m ≤ v i) ∧ (m = b ∨ ∃ i, P i ∧ v i = m)
theorem isMn_more {b : Nat} {P Q : Nat → Prop} {v : Nat → Nat} {m x : Nat} (h : isMn b P v m) (hQ : ∀ i, Q i ↔ (P i ∨ i = x)) : isMn b Q v (if v x < m then v x else m) := by
  obtain ⟨h1, h2, h3⟩ := h
  by_cases c : v x < m
  · rw [if_pos c]
    refine ⟨by omega, fun i hi => ?_, Or.inr ⟨x, (hQ x).2 (Or.inr rfl), rfl⟩⟩
    rcases (hQ i).1 hi with u | rfl
    · have := h2 i u; omega
    · exact Nat.le_refl _
  · rw [if_neg c]
    refine ⟨h1, fun i hi => ?_, ?_⟩
    · rcases (hQ i).1 hi with u | rfl
      · exact h2 i u
      · omega
    · rcases h3 with u | ⟨i, u, e⟩
      · exact Or.inl u
      · exact Or.inr ⟨i, (hQ i).2 (Or.inl u), e⟩
theorem isMn_same {b : Nat} {P Q : Nat → Prop} {v : Nat → Nat} {m : Nat} (h : isMn b P v m) (hQ : ∀ i, Q i ↔ P i) : isMn b Q v m := by
  obtain ⟨h1, h2, h3⟩ := h
  refine ⟨h1, fun i hi => h2 i ((hQ i).1 hi), ?_⟩
  rcases h3 with u | ⟨i, u, e⟩
  · exact Or.inl u
  · exact Or.inr ⟨i, (hQ i).2 u, e⟩
def sub (i x : Nat) : Prop := 0 < i ∧ i &&& x = i
theorem sub_le {i x : Nat} (h : sub i x) : i ≤ x := by
  have := Nat.and_le_right (n := i) (m := x)
  rw [h.2] at this
  exact this
theorem sub_anb {i x : Nat} (hi : i < 128) : (anb i x = 0) ↔ i &&& x = i := by
  constructor
  · intro h
    apply Nat.eq_of_testBit_eq
    intro k
    have := congrArg (fun y => Nat.testBit y k) h
    simp only [anb_bit _ hi, Nat.zero_testBit] at this
    rw [Nat.testBit_and]
    revert this
    cases i.testBit k <;> cases x.testBit k <;> simp
  · intro h
    apply Nat.eq_of_testBit_eq
    intro k
    have := congrArg (fun y => Nat.testBit y k) h
    simp only [Nat.testBit_and] at this
    rw [anb_bit _ hi, Nat.zero_testBit]
    revert this
    cases i.testBit k <;> cases x.testBit k <;> simp
theorem sub_bit {i x k : Nat} (h : sub i x) (hk : i.testBit k = true) : x.testBit k = true := by
  have := congrArg (fun y => Nat.testBit y k) h.2
  simp only [Nat.testBit_and, hk, Bool.true_and] at this
  exact this
theorem fa_xor (a b : Nat) : nI a ^^^ nI b = nI (a ^^^ b) := by
  apply Int32.toBitVec_inj.1
  show BitVec.ofNat 32 a ^^^ BitVec.ofNat 32 b = BitVec.ofNat 32 (a ^^^ b)
  apply BitVec.eq_of_getLsbD_eq
  intro i hi
  simp [hi]
theorem xor_anb {i x : Nat} (hx : x < 128) (h : sub i x) : x ^^^ i = anb x i := by
  apply Nat.eq_of_testBit_eq
  intro k
  rw [Nat.testBit_xor, anb_bit _ hx]
  cases h1 : i.testBit k with
  | true => rw [sub_bit h h1]; rfl
  | false => simp
theorem anb_less {i x : Nat} (hx : x < 128) (h : sub i x) : anb x i < x := by
  have h1 : anb x i ≤ x := Nat.and_le_left
  by_cases e : anb x i = x
  · exfalso
    have : i = 0 := by
      apply Nat.eq_of_testBit_eq
      intro k
      rw [Nat.zero_testBit]
      cases h1 : i.testBit k with
      | false => rfl
      | true =>
        have h2 := sub_bit h h1
        have h3 := congrArg (fun y => Nat.testBit y k) e
        simp only [anb_bit _ hx, h1, h2] at h3
        exact absurd h3 (by decide)
    have := h.1
    omega
  · omega
theorem next_sub : ∀ (s p y : Nat), p &&& s = p → y &&& s = y → y < p → y ≤ (p - 1) &&& s := by
  intro s
  induction s using Nat.strongRecOn with
  | _ s ih =>
    intro p y hp hy hlt
    by_cases h0 : s = 0
    · subst h0
      rw [Nat.and_zero] at hp
      omega
    have a1 : (p &&& s) / 2 = p / 2 &&& s / 2 := Nat.and_div_two
    have a2 : (y &&& s) / 2 = y / 2 &&& s / 2 := Nat.and_div_two
    have a3 : ((p - 1) &&& s) / 2 = (p - 1) / 2 &&& s / 2 := Nat.and_div_two
    rw [hp] at a1
    rw [hy] at a2
    have b2 : y % 2 ≤ s % 2 := by
      have := Nat.testBit_and y s 0
      rw [hy, Nat.testBit_zero, Nat.testBit_zero] at this
      by_cases c : y % 2 = 1
      · by_cases c2 : s % 2 = 1
        · omega
        · rw [decide_eq_true c, decide_eq_false c2] at this
          exact absurd this (by decide)
      · omega
    by_cases c : p % 2 = 1
    · have e : (p - 1) / 2 = p / 2 := by omega
      rw [e, ← a1] at a3
      omega
    · have e : (p - 1) / 2 = p / 2 - 1 := by omega
      have := ih (s / 2) (by omega) (p / 2) (y / 2) a1.symm a2.symm (by omega)
      rw [← e, ← a3] at this
      have b3 : ((p - 1) &&& s) % 2 = s % 2 := by
        have := Nat.testBit_and (p - 1) s 0
        simp only [Nat.testBit_zero] at this
        have e1 : (p - 1) % 2 = 1 := by omega
        rw [decide_eq_true e1, Bool.true_and] at this
        have := decide_eq_decide.1 this
        omega
      omega
theorem q_few {n x sh : Nat} {W T F : Nat → Nat} {w few : Nat → Int32} (hn : n ≤ 7) (hx : x < 2 ^ n) (hw : ∀ x, wsum W x n ≤ 420) (hsh : sh < 1000) (e : ∀ x, x < 2 ^ n → w x = nI (wsum W x n)) (hF : ∀ i, sub i x → few (anb x i) = nI (F (anb x i)) ∧ F (anb x i) ≤ 99) : ∃ m, isMn 7 (fun i => sub i x ∧ stn W T sh n i = true) (fun i => F (anb x i) + 1) m ∧ f_X5_fewestFor (nI sh) (nI (orb (fun p => decide (T p = 2)) n)) w few (nI x) = some (nI m) := by
  have h128 := p2 hn
  have key : ∀ p f m, (p = 0 ∨ sub p x) → p < f → isMn 7 (fun i => (sub i x ∧ stn W T sh n i = true) ∧ p < i) (fun i => F (anb x i) + 1) m → ∃ m', isMn 7 (fun i => sub i x ∧ stn W T sh n i = true) (fun i => F (anb x i) + 1) m' ∧ f_X5_fewestFor_L5 (nI sh) (nI (orb (fun p => decide (T p = 2)) n)) w few (nI x) f (nI m) (nI p) = some (nI m') := by
    intro p
    induction p using Nat.strongRecOn with
    | _ p ih =>
      intro f m hp hf hm
      obtain ⟨f, rfl⟩ : ∃ k, f = k + 1 := ⟨f - 1, by omega⟩
      show ∃ m', _ ∧ f_X5_fewestFor_B5 _ _ _ _ _ _ _ _ = _
      unfold f_X5_fewestFor_B5 f_X5_fewestFor_J32
      simp only [L0, L1, L2, L3, L4, L5, L6, L7, L8, L9, L10, L11, L12, L13, L19, L20, L26, L31, L32, L33, L48, L49, L50, L51, L57, L59, L60, L61, L98, L99, L100, L108, L112, L115, L127, L128, L200, L201, L255, L256, L257, L400, L401, L420, L459, L999, L1000, L5940]
      by_cases c0 : p = 0
      · subst c0
        rw [if_pos (nI_le (Nat.le_refl _) (by omega))]
        exact ⟨m, isMn_same hm (fun i => ⟨fun u => ⟨u, u.1.1⟩, fun u => u.1⟩), rfl⟩
      have hs : sub p x := hp.resolve_left c0
      have hpx := sub_le hs
      have ha := anb_less (show x < 128 by omega) hs
      obtain ⟨f1, f2⟩ := hF p hs
      have hm7 := hm.1
      rw [if_neg (by rw [nI_leI (by omega) (by omega)]; omega), q_fits hn (show p < 2 ^ n by omega) (hw p) hsh (e p (by omega)), qbd, fa_xor, xor_anb (by omega) hs, qck (show anb x p < 128 by omega) (by omega), qcl (by omega), f1, nI_add, qsub (show 1 ≤ p by omega), fa_and]
      have hle : (p - 1) &&& x ≤ p - 1 := Nat.and_le_left
      have hs2 : (p - 1) &&& x = 0 ∨ sub ((p - 1) &&& x) x := by
        by_cases z : (p - 1) &&& x = 0
        · exact Or.inl z
        · exact Or.inr ⟨by omega, by rw [Nat.and_assoc, Nat.and_self]⟩
      have hgap : ∀ i, sub i x → ((p - 1) &&& x < i ↔ (p < i ∨ i = p)) := by
        intro i hi
        constructor
        · intro h
          by_cases c : i < p
          · have := next_sub x p i hs.2 hi.2 c
            omega
          · omega
        · intro h; omega
      cases c1 : stn W T sh n p with
      | false =>
        rw [if_pos (show bI false = nI 0 from rfl)]
        refine ih _ (by omega) f m hs2 (by omega) (isMn_same hm (fun i => ⟨fun u => ⟨u.1, ?_⟩, fun u => ⟨u.1, (hgap i u.1.1).2 (Or.inl u.2)⟩⟩))
        rcases (hgap i u.1.1).1 u.2 with h | h
        · exact h
        · exfalso
          have := u.1.2
          rw [h, c1] at this
          exact absurd this (by decide)
      | true =>
        rw [if_neg (show ¬ bI true = nI 0 by decide)]
        have e2 : (if nI (F (anb x p) + 1) < nI m then nI (F (anb x p) + 1) else nI m) = nI (if F (anb x p) + 1 < m then F (anb x p) + 1 else m) := by
          by_cases c : F (anb x p) + 1 < m
          · rw [if_pos (nI_lt c (by omega)), if_pos c]
          · rw [if_neg (nI_nlt (by omega) (by omega)), if_neg c]
        rw [e2]
        refine ih _ (by omega) f _ hs2 (by omega) (isMn_more (x := p) hm (fun i => ⟨fun u => ?_, fun u => ?_⟩))
        · rcases (hgap i u.1.1).1 u.2 with h | h
          · exact Or.inl ⟨u.1, h⟩
          · exact Or.inr h
        · rcases u with u | u
          · exact ⟨u.1, (hgap i u.1.1).2 (Or.inl u.2)⟩
          · subst u
            exact ⟨⟨hs, c1⟩, (hgap _ hs).2 (Or.inr rfl)⟩
  unfold f_X5_fewestFor
  simp only [L0, L1, L2, L3, L4, L5, L6, L7, L8, L9, L10, L11, L12, L13, L19, L20, L26, L31, L32, L33, L48, L49, L50, L51, L57, L59, L60, L61, L98, L99, L100, L108, L112, L115, L127, L128, L200, L201, L255, L256, L257, L400, L401, L420, L459, L999, L1000, L5940]
  refine key x FU 7 ?_ (fu (by omega)) ⟨Nat.le_refl _, fun i hi => ?_, Or.inl rfl⟩
  · by_cases z : x = 0
    · exact Or.inl z
    · exact Or.inr ⟨by omega, Nat.and_self x⟩
  · exact absurd (sub_le hi.1.1) (by have := hi.2; omega)
/-- what the model's table holds below x -/
def spec (W T F : Nat → Nat) (sh n x : Nat) : Prop := F 0 = 0 ∧ ∀ y, 0 < y → y < x → isMn 99 (fun i => (sub i y ∧ stn W T sh n i = true) ∧ F (anb y i) < 99) (fun i => F (anb y i) + 1) (F y)
theorem q_row {n x sh : Nat} {g T F : Nat → Nat} {s td few : Nat → Int32} {k : Int32 → (Nat → Int32) → Option (Int32 × (Nat → Int32))} (hn : n ≤ 7) (h0 : td 0 = nI n) (h2 : td 2 = nI sh) (hT : ∀ j, j < n → T j ≤ 2 ∧ td (26 + j) = nI (T j)) (hx : x < 2 ^ n) (hx0 : 0 < x) (hs : ∀ x, x < 49 → s x = nI (g x)) (hv : vg n g) (hsh : sh < 1000) (hF : ∀ y, y < x → few y = nI (F y) ∧ F y ≤ 99) (hx9 : few x = nI 99) : ∃ m few', isMn 99 (fun i => (sub i x ∧ stn (tot g) T sh n i = true) ∧ F (anb x i) < 99) (fun i => F (anb x i) + 1) m ∧ (∀ y, y < x → few' y = nI (F y)) ∧ few' x = nI m ∧ f_X8_shelves_L70 td s (nI x) k FU (nI 1) few = k (nI (x + 1)) few' := by
  have h128 := p2 hn
  have hw := tot_all hv hn
  have key : ∀ d i f m (few : Nat → Int32), i + d = x + 1 → d < f → 0 < i → (∀ y, y < x → few y = nI (F y)) → few x = nI m → isMn 99 (fun j => ((sub j x ∧ stn (tot g) T sh n j = true) ∧ F (anb x j) < 99) ∧ j < i) (fun i => F (anb x i) + 1) m → ∃ m few', isMn 99 (fun i => (sub i x ∧ stn (tot g) T sh n i = true) ∧ F (anb x i) < 99) (fun i => F (anb x i) + 1) m ∧ (∀ y, y < x → few' y = nI (F y)) ∧ few' x = nI m ∧ f_X8_shelves_L70 td s (nI x) k f (nI i) few = k (nI (x + 1)) few' := by
    intro d
    induction d with
    | zero =>
      intro i f m few hi hf hi0 h1 h3 hm
      obtain ⟨f, rfl⟩ : ∃ k, f = k + 1 := ⟨f - 1, by omega⟩
      refine ⟨m, few, isMn_same hm (fun j => ⟨fun u => ⟨u, by have := sub_le u.1.1; omega⟩, fun u => u.1⟩), h1, h3, ?_⟩
      show f_X8_shelves_B70 _ _ _ _ _ _ _ = _
      unfold f_X8_shelves_B70
      simp only [L0, L1, L2, L3, L4, L5, L6, L7, L8, L9, L10, L11, L12, L13, L19, L20, L26, L31, L32, L33, L48, L49, L50, L51, L57, L59, L60, L61, L98, L99, L100, L108, L112, L115, L127, L128, L200, L201, L255, L256, L257, L400, L401, L420, L459, L999, L1000, L5940]
      rw [if_pos (nI_lt (by omega) (by omega)), nI_add]
    | succ d ih =>
      intro i f m few hi hf hi0 h1 h3 hm
      obtain ⟨f, rfl⟩ : ∃ k, f = k + 1 := ⟨f - 1, by omega⟩
      have hxx : x < 128 := by omega
      have hii : i < 128 := by omega
      have hm9 := hm.1
      have ha0 : anb x i ≤ x := Nat.and_le_left
      have hi8 := anb_lt x hii
      have skip : (¬ ((sub i x ∧ stn (tot g) T sh n i = true) ∧ F (anb x i) < 99)) → ∃ m few', isMn 99 (fun i => (sub i x ∧ stn (tot g) T sh n i = true) ∧ F (anb x i) < 99) (fun i => F (anb x i) + 1) m ∧ (∀ y, y < x → few' y = nI (F y)) ∧ few' x = nI m ∧ f_X8_shelves_J111 (nI x) (nI i) few (f_X8_shelves_L70 td s (nI x) k f) (nI 0) = k (nI (x + 1)) few' := by
        intro hno
        unfold f_X8_shelves_J111 f_X8_shelves_J159
        simp only [L0, L1, L2, L3, L4, L5, L6, L7, L8, L9, L10, L11, L12, L13, L19, L20, L26, L31, L32, L33, L48, L49, L50, L51, L57, L59, L60, L61, L98, L99, L100, L108, L112, L115, L127, L128, L200, L201, L255, L256, L257, L400, L401, L420, L459, L999, L1000, L5940]
        rw [if_pos trivial, qck hxx (by omega), qck hxx (by omega), qcl (by omega), nI_add]
        refine ih (i + 1) f m _ (by omega) (by omega) (by omega) (fun y hy => ?_) ?_ (isMn_same hm (fun j => ⟨fun u => ⟨u.1, ?_⟩, fun u => ⟨u.1, by omega⟩⟩))
        · rw [qu_n (by omega)]; exact h1 y hy
        · rw [qu_s]; exact h3
        · have hj := u.2
          by_cases e : j = i
          · subst e; exact absurd u.1 hno
          · omega
      show ∃ m few', _ ∧ _ ∧ _ ∧ f_X8_shelves_B70 _ _ _ _ _ _ _ = _
      unfold f_X8_shelves_B70
      simp only [L0, L1, L2, L3, L4, L5, L6, L7, L8, L9, L10, L11, L12, L13, L19, L20, L26, L31, L32, L33, L48, L49, L50, L51, L57, L59, L60, L61, L98, L99, L100, L108, L112, L115, L127, L128, L200, L201, L255, L256, L257, L400, L401, L420, L459, L999, L1000, L5940]
      rw [if_neg (nI_nlt (by omega) (by omega)), q_anb x hii, q_anb i hxx, q_stand hn h0 h2 hT (by omega) hs (hw i) hsh, qbd]
      simp only [qeq (show anb i x < 2147483648 by omega) (show 0 < 2147483648 by omega), sub_anb hii, bI_0]
      by_cases c1 : i &&& x = i
      · have hsb : sub i x := ⟨hi0, c1⟩
        have hal := anb_less hxx hsb
        have hFi := (hF (anb x i) hal).2
        rw [if_pos c1, qck (show anb x i < 128 by omega) (by omega), qcl (by omega), h1 _ hal]
        by_cases c2 : 99 ≤ F (anb x i)
        · rw [if_pos (nI_le c2 (by omega))]
          exact skip (fun u => by omega)
        · rw [if_neg (by rw [nI_leI (by omega) (by omega)]; exact c2)]
          cases c3 : stn (tot g) T sh n i with
          | false =>
            rw [if_pos rfl]
            exact skip (fun u => by rw [c3] at u; exact absurd u.1.2 (by decide))
          | true =>
            rw [if_neg (by decide)]
            have hall : ∀ j, ((sub j x ∧ stn (tot g) T sh n j = true) ∧ F (anb x j) < 99) ∧ j < i + 1 ↔ (((sub j x ∧ stn (tot g) T sh n j = true) ∧ F (anb x j) < 99) ∧ j < i) ∨ j = i := by
              intro j
              constructor
              · intro u
                by_cases e : j = i
                · exact Or.inr e
                · exact Or.inl ⟨u.1, by omega⟩
              · intro u
                rcases u with u | u
                · exact ⟨u.1, by omega⟩
                · subst u
                  exact ⟨⟨⟨hsb, c3⟩, by omega⟩, by omega⟩
            have mm := isMn_more (x := i) hm hall
            unfold f_X8_shelves_J111 f_X8_shelves_J159
            simp only [L0, L1, L2, L3, L4, L5, L6, L7, L8, L9, L10, L11, L12, L13, L19, L20, L26, L31, L32, L33, L48, L49, L50, L51, L57, L59, L60, L61, L98, L99, L100, L108, L112, L115, L127, L128, L200, L201, L255, L256, L257, L400, L401, L420, L459, L999, L1000, L5940]
            rw [if_neg (show ¬ nI 1 = nI 0 by decide), q_anb i hxx, qck (show anb x i < 128 by omega) (by omega), qck hxx (by omega), qck hxx (by omega), qck (show anb x i < 128 by omega) (by omega), qck hxx (by omega), qcl (show anb x i < 2147483648 by omega), qcl (show x < 2147483648 by omega), h1 _ hal, h3, nI_add, nI_add]
            by_cases c4 : F (anb x i) + 1 < m
            · rw [if_neg (by rw [nI_leI (by omega) (by omega)]; omega), qck hxx (by omega)]
              rw [if_pos c4] at mm
              refine ih (i + 1) f (F (anb x i) + 1) _ (by omega) (by omega) (by omega) (fun y hy => ?_) ?_ mm
              · rw [qu_n (by omega)]; exact h1 y hy
              · rw [qu_s]
            · rw [if_pos (nI_le (by omega) (by omega))]
              rw [if_neg c4] at mm
              refine ih (i + 1) f m _ (by omega) (by omega) (by omega) (fun y hy => ?_) ?_ mm
              · rw [qu_n (by omega)]; exact h1 y hy
              · rw [qu_s]
      · rw [if_neg c1]
        exact skip (fun u => c1 u.1.1.2)
  exact key x 1 FU 99 few (by omega) (fu (by omega)) (by omega) (fun y hy => (hF y hy).1) hx9 ⟨Nat.le_refl _, fun i hi => absurd hi.1.1.1.1 (by have := hi.2; omega), Or.inl rfl⟩
