theorem q_tells {n : Nat} {S : Nat → Nat} {m td0 s0 kp0 : Nat → Int32} (hn : n ≤ 7) (hm0 : m 0 = nI n) (hS : ∀ j, j < n → m (12 + j) = nI (S j)) : ∃ td s kp, f_X8_tells m td0 s0 kp0 = some (nI 0, nI 0, td, s, kp) ∧ (∀ j, j < 33 → td j = m j) ∧ (∀ x, x < 49 → s x = nI (dia S n x)) ∧ s 49 = nI 0 ∧ s 50 = nI 0 ∧ kp 0 = nI 0 ∧ kp 1 = nI 0 := by
  have three : ∀ td, (∀ j, j < 33 → td j = m j) → ∀ d p f (a : Nat → Int32), p + d = n → d < f → (∀ x, x < 49 → a x = nI (dia S p x)) → a 49 = nI 0 → a 50 = nI 0 → ∃ s kp, f_X8_tells_L49 kp0 td f (nI p) a = some (nI 0, nI 0, td, s, kp) ∧ (∀ x, x < 49 → s x = nI (dia S n x)) ∧ s 49 = nI 0 ∧ s 50 = nI 0 ∧ kp 0 = nI 0 ∧ kp 1 = nI 0 := by
    intro td htd d
    induction d with
    | zero =>
      intro p f a hp hf ha h9 h5
      obtain ⟨f, rfl⟩ : ∃ k, f = k + 1 := ⟨f - 1, by omega⟩
      have e : p = n := by omega
      subst e
      refine ⟨a, upd (upd kp0 0 (nI 0)) 1 (nI 0), ?_, ha, h9, h5, ?_, qu_s⟩
      · show f_X8_tells_B49 _ _ _ _ _ = _
        unfold f_X8_tells_B49 f_X8_tells_J83
        rw [L0, L1, qck (show 0 < 33 by omega) (by omega), qcl (show 0 < 2147483648 by omega), htd 0 (by omega), hm0, if_pos (nI_le (Nat.le_refl _) (by omega)), qck (show 0 < 2 by omega) (by omega), qck (show 1 < 2 by omega) (by omega), qcl (show 1 < 2147483648 by omega)]
      · rw [qu_n (by omega), qu_s]
    | succ d ih =>
      intro p f a hp hf ha h9 h5
      obtain ⟨f, rfl⟩ : ∃ k, f = k + 1 := ⟨f - 1, by omega⟩
      have hpn : p < n := by omega
      obtain ⟨s, kp, e1, e2⟩ := ih (p + 1) f (upd a (8 * p) (nI (S p))) (by omega) (by omega) (fun x hx => by
        by_cases c : x = 8 * p
        · subst c
          rw [qu_s]
          unfold dia
          rw [if_pos (by omega), show (8 * p) / 8 = p by omega]
        · rw [qu_n c, ha x hx]
          unfold dia
          by_cases c1 : x % 8 = 0 ∧ x / 8 < p
          · rw [if_pos c1, if_pos (by omega)]
          · rw [if_neg c1, if_neg (by omega)]) (by rw [qu_n (by omega)]; exact h9) (by rw [qu_n (by omega)]; exact h5)
      refine ⟨s, kp, ?_, e2⟩
      show f_X8_tells_B49 _ _ _ _ _ = _
      unfold f_X8_tells_B49
      rw [L0, L12, L8, L1, qck (show 0 < 33 by omega) (by omega), qcl (show 0 < 2147483648 by omega), htd 0 (by omega), hm0, if_neg (nI_ge hpn (by omega)), pk_mul, nI_add, nI_add, qck (show 12 + p < 33 by omega) (by omega), qck (show 8 * p < 51 by omega) (by omega), qcl (by omega), qcl (by omega), htd (12 + p) (by omega), hS p hpn]
      exact e1
  have two : ∀ td, (∀ j, j < 33 → td j = m j) → ∀ d p f (a : Nat → Int32), p + d = 51 → d < f → (∀ x, x < p → a x = nI 0) → ∃ s kp, f_X8_tells_L28 kp0 td f (nI p) a = some (nI 0, nI 0, td, s, kp) ∧ (∀ x, x < 49 → s x = nI (dia S n x)) ∧ s 49 = nI 0 ∧ s 50 = nI 0 ∧ kp 0 = nI 0 ∧ kp 1 = nI 0 := by
    intro td htd d
    induction d with
    | zero =>
      intro p f a hp hf ha
      obtain ⟨f, rfl⟩ : ∃ k, f = k + 1 := ⟨f - 1, by omega⟩
      obtain ⟨s, kp, e1, e2⟩ := three td htd n 0 FU a (by omega) (fu (by omega)) (fun x hx => by
        rw [ha x (by omega)]
        unfold dia
        rw [if_neg (by omega)]) (ha 49 (by omega)) (ha 50 (by omega))
      refine ⟨s, kp, ?_, e2⟩
      show f_X8_tells_B28 _ _ _ _ _ = _
      unfold f_X8_tells_B28
      rw [L51, if_pos (nI_le (by omega) (by omega))]
      exact e1
    | succ d ih =>
      intro p f a hp hf ha
      obtain ⟨f, rfl⟩ : ∃ k, f = k + 1 := ⟨f - 1, by omega⟩
      obtain ⟨s, kp, e1, e2⟩ := ih (p + 1) f (upd a p (nI 0)) (by omega) (by omega) (fun x hx => by
        by_cases c : x = p
        · subst c; rw [qu_s]
        · rw [qu_n c]; exact ha x (by omega))
      refine ⟨s, kp, ?_, e2⟩
      show f_X8_tells_B28 _ _ _ _ _ = _
      unfold f_X8_tells_B28
      rw [L51, if_neg (nI_ge (show p < 51 by omega) (by omega)), qck (show p < 51 by omega) (by omega), qcl (by omega), L1, nI_add, L0]
      exact e1
  have one : ∀ d p f (a : Nat → Int32), p + d = 33 → d < f → (∀ x, x < p → a x = m x) → ∃ td s kp, f_X8_tells_L2 m s0 kp0 f (nI p) a = some (nI 0, nI 0, td, s, kp) ∧ (∀ j, j < 33 → td j = m j) ∧ (∀ x, x < 49 → s x = nI (dia S n x)) ∧ s 49 = nI 0 ∧ s 50 = nI 0 ∧ kp 0 = nI 0 ∧ kp 1 = nI 0 := by
    intro d
    induction d with
    | zero =>
      intro p f a hp hf ha
      obtain ⟨f, rfl⟩ : ∃ k, f = k + 1 := ⟨f - 1, by omega⟩
      have ha' : ∀ j, j < 33 → a j = m j := fun j hj => ha j (by omega)
      obtain ⟨s, kp, e1, e2⟩ := two a ha' 51 0 FU s0 (by omega) (fu (by omega)) (fun x hx => absurd hx (by omega))
      refine ⟨a, s, kp, ?_, ha', e2⟩
      show f_X8_tells_B2 _ _ _ _ _ _ = _
      unfold f_X8_tells_B2
      rw [L33, if_pos (nI_le (by omega) (by omega))]
      exact e1
    | succ d ih =>
      intro p f a hp hf ha
      obtain ⟨f, rfl⟩ : ∃ k, f = k + 1 := ⟨f - 1, by omega⟩
      obtain ⟨td, s, kp, e1, e2⟩ := ih (p + 1) f (upd a p (m p)) (by omega) (by omega) (fun x hx => by
        by_cases c : x = p
        · subst c; rw [qu_s]
        · rw [qu_n c]; exact ha x (by omega))
      refine ⟨td, s, kp, ?_, e2⟩
      show f_X8_tells_B2 _ _ _ _ _ _ = _
      unfold f_X8_tells_B2
      rw [L33, if_neg (nI_ge (show p < 33 by omega) (by omega)), qck (show p < 33 by omega) (by omega), qck (show p < 33 by omega) (by omega), qcl (by omega), L1, nI_add]
      exact e1
  exact one 33 0 FU td0 (by omega) (fu (by omega)) (fun x hx => absurd hx (by omega))
