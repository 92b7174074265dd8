/-! letters and tokens -/
def dig (l : Nat) : Bool := decide (48 ≤ l ∧ l ≤ 57)
theorem q_dig6 {l : Nat} (h : l < 256) : f_X6_isDigit (nI l) = some (bI (dig l)) := by
  unfold f_X6_isDigit dig
  simp only [L0, L1, L2, L3, L4, L5, L6, L7, L8, L9, L10, L11, L12, L13, L19, L20, L26, L31, L32, L33, L48, L49, L50, L51, L57, L59, L60, L61, L98, L99, L100, L108, L112, L115, L127, L128, L200, L201, L255, L256, L257, L400, L401, L420, L459, L999, L1000, L5940]
  by_cases c1 : l < 48
  · rw [if_pos (nI_lt c1 (by omega)), decide_eq_false (by omega)]; rfl
  · rw [if_neg (nI_nlt (by omega) (by omega))]
    by_cases c2 : 57 < l
    · rw [if_pos (nI_lt c2 (by omega)), decide_eq_false (by omega)]; rfl
    · rw [if_neg (nI_nlt (by omega) (by omega)), decide_eq_true (by omega)]; rfl
theorem q_dig8 {l : Nat} (h : l < 256) : f_X8_isDigit (nI l) = some (bI (dig l)) := by
  unfold f_X8_isDigit f_X8_in dig
  simp only [L0, L1, L2, L3, L4, L5, L6, L7, L8, L9, L10, L11, L12, L13, L19, L20, L26, L31, L32, L33, L48, L49, L50, L51, L57, L59, L60, L61, L98, L99, L100, L108, L112, L115, L127, L128, L200, L201, L255, L256, L257, L400, L401, L420, L459, L999, L1000, L5940]
  by_cases c1 : l < 48
  · rw [if_pos (nI_lt c1 (by omega)), decide_eq_false (by omega)]; rfl
  · rw [if_neg (nI_nlt (by omega) (by omega))]
    by_cases c2 : 57 < l
    · rw [if_pos (nI_lt c2 (by omega)), decide_eq_false (by omega)]; rfl
    · rw [if_neg (nI_nlt (by omega) (by omega)), decide_eq_true (by omega)]; rfl
theorem q_dig8n : f_X8_isDigit (-nI 1) = some (nI 0) := by decide
abbrev ltr (c : Nat → Nat) (len : Nat) (tx mx : Nat → Int32) : Prop := ∀ j, j < len → c j < 256 ∧ tx j = nI (c j) ∧ mx j = nI (c j)
theorem q_la {c : Nat → Nat} {len p : Nat} {tx mx : Nat → Int32} (h : ltr c len tx mx) (hl : len ≤ 200) (hp : p < len) : f_X8_letterAt (nI len) mx (nI p) = some (nI (c p)) := by
  unfold f_X8_letterAt
  rw [if_neg (nI_ge hp (by omega)), qck (by omega) (by omega), qcl (by omega), (h p hp).2.2]
theorem q_lae {len : Nat} {mx : Nat → Int32} (hl : len ≤ 200) : f_X8_letterAt (nI len) mx (nI len) = some (-nI 1) := by
  unfold f_X8_letterAt
  rw [if_pos (nI_le (Nat.le_refl _) (by omega))]
  rfl
/-- the class's number beside the reference's -/
def numb (v w : Nat) : Prop := (v = w ∧ w ≤ 99) ∨ (v = 100 ∧ 100 ≤ w ∧ w ≤ 1000)
/-- the state of the two readers after the first digit -/
def dst (d0 : Nat) (z : Int32) (v w : Nat) : Prop := (d0 ≠ 48 ∧ z = nI 0 ∧ 1 ≤ w ∧ numb v w) ∨ (d0 = 48 ∧ z = nI 0 ∧ v = 0 ∧ w = 0) ∨ (d0 = 48 ∧ z = nI 1 ∧ v ≤ 100 ∧ w = 1000)
theorem min100 {a b : Nat} (hb : b ≤ a) (ha : a < 10000) : (if nI a - nI b < nI 100 then nI a - nI b else nI 100) = nI (if a - b < 100 then a - b else 100) := by
  rw [qsub hb]
  by_cases c : a - b < 100
  · rw [if_pos (nI_lt c (by omega)), if_pos c]
  · rw [if_neg (nI_nlt (by omega) (by omega)), if_neg c]
theorem dloop {c : Nat → Nat} {len st : Nat} {tx mx : Nat → Int32} (h : ltr c len tx mx) (hl : len ≤ 200) (hst : st < len) : ∀ d p f1 f2 v z w, p + d = len → d < f1 → d < f2 → st < p → dst (c st) z v w → ∃ p' v' w', p' ≤ len ∧ numb v' w' ∧ f_X6_digits_L4 (nI len) (nI st) tx f1 (nI v) z (nI p) = some (nI v', nI p') ∧ f_X8_token_L141 (nI len) mx (nI (c st)) (nI 2) (nI st) f2 (nI p) (nI w) = some (nI p', nI 2, nI st, nI w') := by
  have fin : ∀ v z w p, dst (c st) z v w → ∃ v' w', numb v' w' ∧ (if z = nI 0 then some (nI v, nI p) else some (nI 100, nI p)) = some (nI v', nI p) ∧ w' = w := by
    intro v z w p hd
    rcases hd with ⟨_, rfl, _, hn⟩ | ⟨_, rfl, rfl, rfl⟩ | ⟨_, rfl, _, rfl⟩
    · exact ⟨v, w, hn, if_pos rfl, rfl⟩
    · exact ⟨0, 0, Or.inl ⟨rfl, by omega⟩, if_pos rfl, rfl⟩
    · exact ⟨100, 1000, Or.inr ⟨rfl, by omega, by omega⟩, if_neg (by decide), rfl⟩
  intro d
  induction d with
  | zero =>
    intro p f1 f2 v z w hp hf1 hf2 hsp hd
    obtain ⟨f1, rfl⟩ : ∃ k, f1 = k + 1 := ⟨f1 - 1, by omega⟩
    obtain ⟨f2, rfl⟩ : ∃ k, f2 = k + 1 := ⟨f2 - 1, by omega⟩
    have e : p = len := by omega
    subst e
    obtain ⟨v', w', n1, n2, n3⟩ := fin v z w p hd
    refine ⟨p, v', w', Nat.le_refl _, n1, ?_, ?_⟩
    · show f_X6_digits_B4 _ _ _ _ _ _ _ = _
      unfold f_X6_digits_B4
      simp only [L0, L1, L2, L3, L4, L5, L6, L7, L8, L9, L10, L11, L12, L13, L19, L20, L26, L31, L32, L33, L48, L49, L50, L51, L57, L59, L60, L61, L98, L99, L100, L108, L112, L115, L127, L128, L200, L201, L255, L256, L257, L400, L401, L420, L459, L999, L1000, L5940]
      rw [if_pos (nI_le (Nat.le_refl _) (by omega))]
      exact n2
    · show f_X8_token_B141 _ _ _ _ _ _ _ _ = _
      unfold f_X8_token_B141
      rw [q_lae hl, qbd, q_dig8n, qbd, L0, if_pos rfl, n3]
  | succ d ih =>
    intro p f1 f2 v z w hp hf1 hf2 hsp hd
    obtain ⟨f1, rfl⟩ : ∃ k, f1 = k + 1 := ⟨f1 - 1, by omega⟩
    obtain ⟨f2, rfl⟩ : ∃ k, f2 = k + 1 := ⟨f2 - 1, by omega⟩
    have hpl : p < len := by omega
    obtain ⟨h1, h2, h3⟩ := h p hpl
    obtain ⟨s1, -, -⟩ := h st hst
    show ∃ p' v' w', _ ∧ _ ∧ f_X6_digits_B4 _ _ _ _ _ _ _ = _ ∧ f_X8_token_B141 _ _ _ _ _ _ _ _ = _
    unfold f_X6_digits_B4 f_X8_token_B141
    rw [L0, L100, L48, L99, L1000, L10, if_neg (nI_ge hpl (by omega)), qck (show p < 200 by omega) (by omega), qcl (show p < 2147483648 by omega), h2, q_dig6 h1, q_la h hl hpl, qbd, qbd, q_dig8 h1, qbd]
    cases c0 : dig (c p) with
    | false =>
      rw [if_pos (show bI false = nI 0 from rfl), if_pos (show bI false = nI 0 from rfl)]
      obtain ⟨v', w', n1, n2, n3⟩ := fin v z w p hd
      exact ⟨p, v', w', by omega, n1, n2, by rw [n3]⟩
    | true =>
      have c1 : 48 ≤ c p ∧ c p ≤ 57 := of_decide_eq_true c0
      have J6 : ∀ s0 : Int32, v ≤ 100 → f_X6_digits_J54 tx (nI v) (nI p) (f_X6_digits_L4 (nI len) (nI st) tx f1) s0 = f_X6_digits_L4 (nI len) (nI st) tx f1 (nI (if v * 10 + c p - 48 < 100 then v * 10 + c p - 48 else 100)) s0 (nI (p + 1)) := by
        intro s0 hv
        unfold f_X6_digits_J54
        rw [qck (show p < 200 by omega) (by omega), qcl (by omega), h2, L10, L48, L100, L1, pk_mul, nI_add, nI_add, min100 (by omega) (by omega)]
      have J8 : ∀ s1 : Int32, f_X8_token_J197 (nI p) (f_X8_token_L141 (nI len) mx (nI (c st)) (nI 2) (nI st) f2) s1 = f_X8_token_L141 (nI len) mx (nI (c st)) (nI 2) (nI st) f2 (nI (p + 1)) s1 := by
        intro s1
        unfold f_X8_token_J197
        rw [L1, nI_add]
      rw [if_neg (show ¬ bI true = nI 0 by decide), if_neg (show ¬ bI true = nI 0 by decide), J8, J8, qck (show p < 200 by omega) (by omega), h3]
      rcases hd with ⟨k1, rfl, k2, hn⟩ | ⟨k1, rfl, rfl, rfl⟩ | ⟨k1, rfl, k2, rfl⟩
      · have hv : 1 ≤ v ∧ v ≤ 100 := by
          rcases hn with u | u <;> omega
        have hw : w ≤ 1000 := by
          rcases hn with u | u <;> omega
        rw [if_pos rfl, if_neg (show ¬ nI v = nI 0 by rw [nI_eq (by omega) (by omega)]; omega), J6 _ hv.2, if_neg (show ¬ nI (c st) = nI 48 by rw [nI_eq (by omega) (by omega)]; exact k1)]
        rcases hn with ⟨e1, e2⟩ | ⟨e1, e2, e3⟩
        · subst e1
          rw [if_pos (nI_le e2 (by omega)), pk_mul, nI_add, qsub (by omega)]
          refine ih (p + 1) f1 f2 _ _ _ (by omega) (by omega) (by omega) (by omega) (Or.inl ⟨k1, rfl, by omega, ?_⟩)
          by_cases c2 : v * 10 + c p - 48 < 100
          · rw [if_pos c2]; exact Or.inl ⟨by omega, by omega⟩
          · rw [if_neg c2]; exact Or.inr ⟨rfl, by omega, by omega⟩
        · subst e1
          rw [if_neg (show ¬ nI w ≤ nI 99 by rw [nI_leI (by omega) (by omega)]; omega), if_neg (show ¬ 100 * 10 + c p - 48 < 100 by omega)]
          exact ih (p + 1) f1 f2 _ _ _ (by omega) (by omega) (by omega) (by omega) (Or.inl ⟨k1, rfl, by omega, Or.inr ⟨rfl, by omega, by omega⟩⟩)
      · rw [if_pos (show nI 0 = nI 0 from rfl), if_pos (show nI 0 = nI 0 from rfl), if_neg (show ¬ nI p ≤ nI st by rw [nI_leI (by omega) (by omega)]; omega), L1, J6 _ (by omega), if_pos (show nI (c st) = nI 48 by rw [k1])]
        refine ih (p + 1) f1 f2 _ _ 1000 (by omega) (by omega) (by omega) (by omega) (Or.inr (Or.inr ⟨k1, rfl, ?_, rfl⟩))
        by_cases c2 : 0 * 10 + c p - 48 < 100
        · rw [if_pos c2]; omega
        · rw [if_neg c2]; omega
      · rw [if_neg (show ¬ nI 1 = nI 0 by decide), L1, J6 _ k2, if_pos (show nI (c st) = nI 48 by rw [k1])]
        refine ih (p + 1) f1 f2 _ _ 1000 (by omega) (by omega) (by omega) (by omega) (Or.inr (Or.inr ⟨k1, rfl, ?_, rfl⟩))
        by_cases c2 : v * 10 + c p - 48 < 100
        · rw [if_pos c2]; omega
        · rw [if_neg c2]; omega
/-! one token -/
def srtOf (l : Nat) : Nat := if l = 112 then 1 else if l = 108 then 1 else if l = 115 then 1 else if l = 59 then 3 else 4
theorem srtOf_2 (l : Nat) : srtOf l ≠ 2 ∧ srtOf l ≠ 0 ∧ srtOf l ≤ 4 := by
  unfold srtOf
  by_cases c1 : l = 112
  · rw [if_pos c1]; omega
  rw [if_neg c1]
  by_cases c2 : l = 108
  · rw [if_pos c2]; omega
  rw [if_neg c2]
  by_cases c3 : l = 115
  · rw [if_pos c3]; omega
  rw [if_neg c3]
  by_cases c4 : l = 59
  · rw [if_pos c4]; omega
  rw [if_neg c4]
  omega
def tokd (len : Nat) (num : Int32) (x y : Option (Int32 × Int32 × Int32 × Int32)) : Prop :=
  (x = some (nI len, nI 257, nI len, num) ∧ y = some (nI len, nI 0, nI len, -nI 1)) ∨
  (∃ l st, l < 256 ∧ st < len ∧ x = some (nI (st + 1), nI l, nI st, num) ∧ y = some (nI (st + 1), nI (srtOf l), nI st, nI l)) ∨
  (∃ p' st v w, p' ≤ len ∧ st < len ∧ numb v w ∧ x = some (nI p', nI 256, nI st, nI v) ∧ y = some (nI p', nI 2, nI st, nI w))
theorem tokJ {c : Nat → Nat} {len p : Nat} {tx mx : Nat → Int32} (h : ltr c len tx mx) (hl : len ≤ 200) (hp : p ≤ len) (num : Int32) : tokd len num (f_X6_step_J38 (nI len) num tx (nI p)) (f_X8_token_J26 (nI len) mx (nI p)) := by
  by_cases e : p = len
  · subst e
    refine Or.inl ⟨?_, ?_⟩
    · unfold f_X6_step_J38
      rw [if_neg (nI_nlt (Nat.le_refl _) (by omega))]
      rfl
    · unfold f_X8_token_J26
      rw [q_lae hl, qbd, if_neg (by decide)]
      unfold f_X8_token_J96 f_X8_token_J121
      rw [if_pos (by rfl), if_neg (by decide), L0, nI_add, Nat.add_zero]
  have hpl : p < len := by omega
  obtain ⟨h1, h2, h3⟩ := h p hpl
  unfold f_X6_step_J38 f_X8_token_J26
  rw [if_pos (nI_lt hpl (by omega)), qck (show p < 200 by omega) (by omega), qcl (show p < 2147483648 by omega), h2, q_dig6 h1, qbd, q_la h hl hpl, qbd, q_dig8 h1, qbd, L0, L112, L108, L115, L59, L1, L3, L4, L2, L256, if_pos (nI_le (Nat.zero_le _) (by omega))]
  have M : ∀ s, s ≠ 0 → s ≠ 2 → s ≤ 4 → f_X8_token_J96 (nI len) mx (nI (c p)) (nI p) (nI p) (nI s) = some (nI (p + 1), nI s, nI p, nI (c p)) := by
    intro s s0 s2 s4
    unfold f_X8_token_J96 f_X8_token_J121
    rw [L0, L2, L1, if_neg (show ¬ nI s = nI 0 by rw [nI_eq (by omega) (by omega)]; exact s0), if_neg (show ¬ nI s = nI 2 by rw [nI_eq (by omega) (by omega)]; exact s2), nI_add]
  cases c0 : dig (c p) with
  | false =>
    refine Or.inr (Or.inl ⟨c p, p, h1, hpl, ?_, ?_⟩)
    · rw [if_pos (show bI false = nI 0 from rfl), qck (show p < 200 by omega) (by omega), nI_add]
    · rw [M 1 (by omega) (by omega) (by omega), M 3 (by omega) (by omega) (by omega), M 4 (by omega) (by omega) (by omega), if_pos (show bI false = nI 0 from rfl)]
      unfold srtOf
      by_cases c1 : c p = 112
      · rw [if_pos (show nI (c p) = nI 112 by rw [c1]), if_pos c1]
      rw [if_neg (show ¬ nI (c p) = nI 112 by rw [nI_eq (by omega) (by omega)]; exact c1), if_neg c1]
      by_cases c2 : c p = 108
      · rw [if_pos (show nI (c p) = nI 108 by rw [c2]), if_pos c2]
      rw [if_neg (show ¬ nI (c p) = nI 108 by rw [nI_eq (by omega) (by omega)]; exact c2), if_neg c2]
      by_cases c3 : c p = 115
      · rw [if_pos (show nI (c p) = nI 115 by rw [c3]), if_pos c3]
      rw [if_neg (show ¬ nI (c p) = nI 115 by rw [nI_eq (by omega) (by omega)]; exact c3), if_neg c3]
      by_cases c4 : c p = 59
      · rw [if_pos (show nI (c p) = nI 59 by rw [c4]), if_pos c4]
      rw [if_neg (show ¬ nI (c p) = nI 59 by rw [nI_eq (by omega) (by omega)]; exact c4), if_neg c4]
  | true =>
    have c1 : 48 ≤ c p ∧ c p ≤ 57 := of_decide_eq_true c0
    have hd : dst (c p) (nI 0) (c p - 48) (c p - 48) := by
      by_cases k : c p = 48
      · exact Or.inr (Or.inl ⟨k, rfl, by omega, by omega⟩)
      · exact Or.inl ⟨k, rfl, by omega, Or.inl ⟨rfl, by omega⟩⟩
    obtain ⟨p', v', w', n1, n2, n3, n4⟩ := dloop h hl hpl (len - (p + 1)) (p + 1) 999 FU _ _ _ (by omega) (by omega) (fu (by omega)) (by omega) hd
    have D : f_X6_digits (nI len) (nI p) (nI p) tx = some (nI v', nI p') := by
      rw [← n3]
      unfold f_X6_digits
      show f_X6_digits_B4 _ _ _ (f_X6_digits_L4 (nI len) (nI p) tx 999) _ _ _ = _
      unfold f_X6_digits_B4 f_X6_digits_J54
      rw [L0, L100, L48, L10, L1, if_neg (nI_ge hpl (by omega)), qck (show p < 200 by omega) (by omega), qcl (show p < 2147483648 by omega), h2, q_dig6 h1, qbd, c0, if_neg (show ¬ bI true = nI 0 by decide), if_pos (show nI 0 = nI 0 from rfl), if_pos (show nI 0 = nI 0 from rfl), if_pos (nI_le (Nat.le_refl _) (by omega)), qck (show p < 200 by omega) (by omega), pk_mul, nI_add, nI_add, min100 (by omega) (by omega), if_pos (show 0 * 10 + c p - 48 < 100 by omega), show 0 * 10 + c p - 48 = c p - 48 by omega]
    refine Or.inr (Or.inr ⟨p', p, v', w', n1, hpl, n2, ?_, ?_⟩)
    · rw [if_neg (show ¬ bI true = nI 0 by decide), D, qbd]
    · rw [if_neg (show ¬ nI (c p) = nI 112 by rw [nI_eq (by omega) (by omega)]; omega), if_neg (show ¬ nI (c p) = nI 108 by rw [nI_eq (by omega) (by omega)]; omega), if_neg (show ¬ nI (c p) = nI 115 by rw [nI_eq (by omega) (by omega)]; omega), if_neg (show ¬ bI true = nI 0 by decide)]
      unfold f_X8_token_J96 f_X8_token_J121
      rw [L0, L1, L2, L48, if_neg (show ¬ nI 2 = nI 0 by decide), if_pos (show nI 2 = nI 2 from rfl), nI_add, qsub (by omega), n4]
theorem tokB {c : Nat → Nat} {len p : Nat} {tx mx : Nat → Int32} (h : ltr c len tx mx) (hl : len ≤ 200) (hp : p ≤ len) (num : Int32) {k1 k2 : Int32 → Option (Int32 × Int32 × Int32 × Int32)} (hk : p < len → tokd len num (k1 (nI (p + 1))) (k2 (nI (p + 1)))) : tokd len num (f_X6_step_B0 (nI len) num tx k1 (nI p)) (f_X8_token_B0 (nI len) mx k2 (nI p)) := by
  have hJ := tokJ h hl hp num
  unfold f_X6_step_B0 f_X8_token_B0
  by_cases e : p = len
  · subst e
    rw [if_pos (nI_le (Nat.le_refl _) (by omega)), q_lae hl, qbd, if_neg (by decide)]
    exact hJ
  have hpl : p < len := by omega
  obtain ⟨h1, h2, h3⟩ := h p hpl
  rw [if_neg (nI_ge hpl (by omega)), qck (show p < 200 by omega) (by omega), qcl (by omega), h2, q_la h hl hpl, qbd, L1, nI_add]
  by_cases e2 : nI (c p) = 32
  · rw [if_pos e2, if_pos e2]; exact hk hpl
  · rw [if_neg e2, if_neg e2]; exact hJ
theorem tokL {c : Nat → Nat} {len : Nat} {tx mx : Nat → Int32} (h : ltr c len tx mx) (hl : len ≤ 200) (num : Int32) : ∀ d p f1 f2, p + d = len → d < f1 → d < f2 → tokd len num (f_X6_step_L0 (nI len) num tx f1 (nI p)) (f_X8_token_L0 (nI len) mx f2 (nI p))
  | 0, p, f1 + 1, f2 + 1, hp, _, _ => tokB h hl (by omega) num (fun hpl => absurd hpl (by omega))
  | d + 1, p, f1 + 1, f2 + 1, hp, h1, h2 => tokB h hl (by omega) num (fun _ => tokL h hl num d (p + 1) f1 f2 (by omega) (by omega) (by omega))
theorem tok {c : Nat → Nat} {len p : Nat} {tx mx : Nat → Int32} (h : ltr c len tx mx) (hl : len ≤ 200) (hp : p ≤ len) (num : Int32) : tokd len num (f_X6_step (nI len) (nI p) num tx) (f_X8_token (nI len) (nI p) mx) :=
  tokB (k1 := f_X6_step_L0 (nI len) num tx FU) (k2 := f_X8_token_L0 (nI len) mx FU) h hl hp num (fun _ => tokL h hl num (len - (p + 1)) (p + 1) FU FU (by omega) (fu (by omega)) (fu (by omega)))
