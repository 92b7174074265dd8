/-! a house told -/
theorem q_bec {dp dl ds : Int32} {y1 y2 s1 s2 k1 k2 t1 t2 b1 b2 : Nat → Int32} : ∃ y s k t b, f_X2_become dp dl ds y1 y2 s1 s2 k1 k2 t1 t2 b1 b2 = some (dp, dl, ds, y, s, k, t, b) ∧ ∀ j, j < 7 → y j = y1 j ∧ s j = s1 j ∧ k j = k1 j ∧ t j = t1 j ∧ b j = b1 j := by
  have key : ∀ d p f (y s k t b : Nat → Int32), p + d = 7 → d < f → (∀ j, j < p → y j = y1 j ∧ s j = s1 j ∧ k j = k1 j ∧ t j = t1 j ∧ b j = b1 j) → ∃ y' s' k' t' b', f_X2_become_L26 y1 s1 k1 t1 b1 dp dl ds f (nI p) y s k t b = some (dp, dl, ds, y', s', k', t', b') ∧ ∀ j, j < 7 → y' j = y1 j ∧ s' j = s1 j ∧ k' j = k1 j ∧ t' j = t1 j ∧ b' j = b1 j := by
    intro d
    induction d with
    | zero =>
      intro p f y s k t b hp hf hh
      obtain ⟨f, rfl⟩ : ∃ k, f = k + 1 := ⟨f - 1, by omega⟩
      refine ⟨y, s, k, t, b, ?_, fun j hj => hh j (by omega)⟩
      show f_X2_become_B26 _ _ _ _ _ _ _ _ _ _ _ _ _ _ _ = _
      unfold f_X2_become_B26
      rw [L7, if_pos (nI_le (by omega) (by omega))]
    | succ d ih =>
      intro p f y s k t b hp hf hh
      obtain ⟨f, rfl⟩ : ∃ k, f = k + 1 := ⟨f - 1, by omega⟩
      have hp7 : p < 7 := by omega
      have e := ih (p + 1) f (upd y p (y1 p)) (upd s p (s1 p)) (upd k p (k1 p)) (upd t p (t1 p)) (upd b p (b1 p)) (by omega) (by omega) (fun j hj => by
        by_cases c : j = p
        · subst c; rw [qu_s, qu_s, qu_s, qu_s, qu_s]; exact ⟨rfl, rfl, rfl, rfl, rfl⟩
        · rw [qu_n c, qu_n c, qu_n c, qu_n c, qu_n c]; exact hh j (by omega))
      obtain ⟨y', s', k', t', b', e1, e2⟩ := e
      refine ⟨y', s', k', t', b', ?_, e2⟩
      show f_X2_become_B26 _ _ _ _ _ _ _ _ _ _ _ _ _ _ _ = _
      unfold f_X2_become_B26
      rw [L7, if_neg (nI_ge hp7 (by omega)), ck_t (qix hp7 (by omega)), ck_t (qix hp7 (by omega)), ck_t (qix hp7 (by omega)), ck_t (qix hp7 (by omega)), ck_t (qix hp7 (by omega)), ck_t (qix hp7 (by omega)), ck_t (qix hp7 (by omega)), ck_t (qix hp7 (by omega)), ck_t (qix hp7 (by omega)), ck_t (qix hp7 (by omega)), qcl (by omega), L1, nI_add]
      exact e1
  exact key 7 0 FU y2 s2 k2 t2 b2 (by omega) (fu (by omega)) (fun j hj => absurd hj (by omega))
/-- what is told: its spoons on the diagonal -/
def dia (S : Nat → Nat) (n x : Nat) : Nat := if x % 8 = 0 ∧ x / 8 < n then S (x / 8) else 0
theorem q_fill {n : Nat} {S : Nat → Nat} {sp ss : Nat → Int32} (hn : n ≤ 7) (hS : ∀ j, j < n → ss j = nI (S j)) : ∃ sp', f_X4_fill sp (nI n) ss = some (nI 0, nI 0, sp') ∧ ∀ x, x < 49 → sp' x = nI (dia S n x) := by
  have two : ∀ d p f (a : Nat → Int32), p + d = n → d < f → (∀ x, x < 49 → a x = nI (dia S p x)) → ∃ sp', f_X4_fill_L33 (nI n) ss (nI 0) (nI 0) f (nI p) a = some (nI 0, nI 0, sp') ∧ ∀ x, x < 49 → sp' x = nI (dia S n x) := by
    intro d
    induction d with
    | zero =>
      intro p f a hp hf ha
      obtain ⟨f, rfl⟩ : ∃ k, f = k + 1 := ⟨f - 1, by omega⟩
      have e : p = n := by omega
      subst e
      refine ⟨a, ?_, ha⟩
      show f_X4_fill_B33 _ _ _ _ _ _ _ = _
      unfold f_X4_fill_B33
      rw [if_pos (nI_le (Nat.le_refl _) (by omega))]
    | succ d ih =>
      intro p f a hp hf ha
      obtain ⟨f, rfl⟩ : ∃ k, f = k + 1 := ⟨f - 1, by omega⟩
      have hpn : p < n := by omega
      obtain ⟨sp', e1, e2⟩ := ih (p + 1) f (upd a (p * 7 + p) (nI (S p))) (by omega) (by omega) (fun x hx => by
        by_cases c : x = p * 7 + p
        · subst c
          rw [qu_s]
          unfold dia
          rw [if_pos (by omega), show (p * 7 + p) / 8 = p by omega]
        · rw [qu_n c, ha x hx]
          unfold dia
          by_cases c1 : x % 8 = 0 ∧ x / 8 < p
          · rw [if_pos c1, if_pos (by omega)]
          · rw [if_neg c1, if_neg (by omega)])
      refine ⟨sp', ?_, e2⟩
      show f_X4_fill_B33 _ _ _ _ _ _ _ = _
      unfold f_X4_fill_B33 f_X4_at
      rw [if_neg (nI_ge hpn (by omega)), qbd, L7, L1, pk_mul, nI_add, nI_add, qck (show p < 7 by omega) (by omega), qck (show p * 7 + p < 49 by omega) (by omega), qcl (by omega), qcl (by omega), hS p hpn]
      exact e1
  have one : ∀ d p f (a : Nat → Int32), p + d = 49 → d < f → (∀ x, x < p → a x = nI 0) → ∃ sp', f_X4_fill_L12 (nI n) ss (nI 0) (nI 0) f (nI p) a = some (nI 0, nI 0, sp') ∧ ∀ x, x < 49 → sp' x = nI (dia S n x) := by
    intro d
    induction d with
    | zero =>
      intro p f a hp hf ha
      obtain ⟨f, rfl⟩ : ∃ k, f = k + 1 := ⟨f - 1, by omega⟩
      have := two n 0 FU a (by omega) (fu (by omega)) (fun x hx => by
        rw [ha x (by omega)]
        unfold dia
        rw [if_neg (by omega)])
      obtain ⟨sp', e1, e2⟩ := this
      refine ⟨sp', ?_, e2⟩
      show f_X4_fill_B12 _ _ _ _ _ _ _ = _
      unfold f_X4_fill_B12
      rw [L49, if_pos (nI_le (by omega) (by omega))]
      exact e1
    | succ d ih =>
      intro p f a hp hf ha
      obtain ⟨f, rfl⟩ : ∃ k, f = k + 1 := ⟨f - 1, by omega⟩
      obtain ⟨sp', e1, e2⟩ := ih (p + 1) f (upd a p (nI 0)) (by omega) (by omega) (fun x hx => by
        by_cases c : x = p
        · subst c; rw [qu_s]
        · rw [qu_n c]; exact ha x (by omega))
      refine ⟨sp', ?_, e2⟩
      show f_X4_fill_B12 _ _ _ _ _ _ _ = _
      unfold f_X4_fill_B12
      rw [L49, if_neg (nI_ge (show p < 49 by omega) (by omega)), qck (show p < 49 by omega) (by omega), qcl (by omega), L1, nI_add, L0]
      exact e1
  exact one 49 0 FU sp (by omega) (fu (by omega)) (fun x hx => absurd hx (by omega))
theorem dia_vg {n : Nat} {S : Nat → Nat} (hn : n ≤ 7) (hS : ∀ j, j < n → S j ≤ 60) : vg n (dia S n) := by
  refine ⟨?_, fun p q hp hq hh => ?_⟩
  · have h3 := sm_rows (dia S n) 7
    rw [show (7 * 7 : Nat) = 49 from rfl] at h3
    rw [h3]
    have h4 : sm (fun p => sm (fun q => dia S n (7 * p + q)) 7) 7 ≤ sm (fun _ => 60) 7 := sm_le (fun p hp => by
      have e : sm (fun q => dia S n (7 * p + q)) 7 = sm (fun x => if x = p then (fun _ => if p < n then S p else 0) x else 0) 7 := sm_cong (fun q hq => by
        unfold dia
        by_cases c : q = p
        · subst c
          rw [if_pos rfl]
          by_cases c2 : q < n
          · rw [if_pos (by omega), if_pos c2, show (7 * q + q) / 8 = q by omega]
          · rw [if_neg (by omega), if_neg c2]
        · rw [if_neg (by omega), if_neg c])
      rw [e, sm_ind _ hp]
      by_cases c : p < n
      · rw [if_pos c]; exact hS p c
      · rw [if_neg c]; omega)
    have h5 : sm (fun _ => 60) 7 = 420 := rfl
    omega
  · unfold dia
    rw [if_neg (by omega)]
