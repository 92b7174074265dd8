/-! a number at its place -/
theorem num_sim {c : Nat → Nat} {len p lo hi slot : Nat} {tx mx m : Nat → Int32} (h : ltr c len tx mx) (hl : len ≤ 200) (hp : p ≤ len) (hlo : lo ≤ hi) (hhi : hi ≤ 99) (hs : slot < 33) (num : Int32) :
    (∃ p' st w, p' ≤ len ∧ lo ≤ w ∧ w ≤ hi ∧ f_X6_readNumber (nI len) (nI p) num tx (nI lo) (nI hi) = some (nI 1, nI p', nI 256, nI st, nI w) ∧ f_X8_number (nI len) (nI p) mx m (nI slot) (nI lo) (nI hi) = some (nI 1, nI p', nI 2, nI st, nI w, upd m slot (nI w))) ∨
    (∃ st a b d a' b' d' m', st ≤ len ∧ f_X6_readNumber (nI len) (nI p) num tx (nI lo) (nI hi) = some (nI 0, a, b, nI st, d) ∧ f_X8_number (nI len) (nI p) mx m (nI slot) (nI lo) (nI hi) = some (nI 0, a', b', nI st, d', m')) := by
  unfold f_X6_readNumber f_X8_number f_X8_in
  rw [L256, L0, L1, L2]
  rcases tok h hl hp num with ⟨x, y⟩ | ⟨l, st, l1, l2, x, y⟩ | ⟨p', st, v, w, k1, k2, k3, x, y⟩
  · right
    rw [x, y, qbd, qbd, qck hs (by omega)]
    exact ⟨len, _, _, _, _, _, _, _, Nat.le_refl _, if_neg (show ¬ nI 257 = nI 256 by decide), if_neg (show ¬ nI 0 = nI 2 by decide)⟩
  · right
    have := srtOf_2 l
    rw [x, y, qbd, qbd, qck hs (by omega)]
    exact ⟨st, _, _, _, _, _, _, _, by omega, if_neg (show ¬ nI l = nI 256 by rw [nI_eq (by omega) (by omega)]; omega), if_neg (show ¬ nI (srtOf l) = nI 2 by rw [nI_eq (by omega) (by omega)]; omega)⟩
  · have hv : v ≤ 100 ∧ w ≤ 1000 := by rcases k3 with u | u <;> omega
    rw [x, y, qbd, qbd, qck hs (by omega), qcl (by omega)]
    dsimp only
    rw [if_pos (show nI 256 = nI 256 from rfl), if_pos (show nI 2 = nI 2 from rfl)]
    by_cases c1 : w < lo
    · have c2 : v < lo := by rcases k3 with u | u <;> omega
      right
      rw [if_pos (nI_lt c2 (by omega)), if_pos (nI_lt c1 (by omega)), qbd, if_pos (show nI 0 = nI 0 from rfl)]
      exact ⟨st, _, _, _, _, _, _, _, by omega, rfl, rfl⟩
    · have c2 : ¬ v < lo := by rcases k3 with u | u <;> omega
      rw [if_neg (show ¬ nI v < nI lo from nI_nlt (by omega) (by omega)), if_neg (show ¬ nI w < nI lo from nI_nlt (by omega) (by omega))]
      by_cases c3 : hi < w
      · have c4 : hi < v := by rcases k3 with u | u <;> omega
        right
        rw [if_pos (nI_lt c4 (by omega)), if_pos (nI_lt c3 (by omega)), qbd, if_pos (show nI 0 = nI 0 from rfl)]
        exact ⟨st, _, _, _, _, _, _, _, by omega, rfl, rfl⟩
      · have c4 : v = w := by rcases k3 with u | u <;> omega
        subst c4
        left
        rw [if_neg (show ¬ nI hi < nI v from nI_nlt (by omega) (by omega)), if_neg (show ¬ nI hi < nI v from nI_nlt (by omega) (by omega)), qbd, if_neg (show ¬ nI 1 = nI 0 by decide)]
        exact ⟨p', st, v, k1, by omega, by omega, rfl, rfl⟩
/-! a further pan, in its place by age -/
theorem q_app {n y : Nat} {Y : Nat → Nat} {ys ba : Nat → Int32} (ss ks ts : Nat → Int32) (hn : n < 7) (hY : ∀ j, j < n → Y j ≤ 99 ∧ ys j = nI (Y j)) (hB : RB n Y ba) (hy : y ≤ 99) (v2 v3 v4 : Int32) : ∃ ba', f_X2_append (nI n) ys ss ks ts ba (nI y) v2 v3 v4 = some (nI 1, nI (n + 1), upd ys n (nI y), upd ss n v2, upd ks n v3, upd ts n v4, ba') ∧ RB (n + 1) (fun j => if j = n then y else Y j) ba' := by
  obtain ⟨o, ho, hs⟩ := hB
  have fin : ∀ k (b : Nat → Int32), k ≤ n → (∀ i, i < k → b i = nI (o i)) → (∀ i, k ≤ i → i < n → b (i + 1) = nI (o i)) → (∀ i, k ≤ i → i < n → y < Y (o i)) → (∀ i, i < k → Y (o i) ≤ y) → ∃ ba', f_X2_append_J103 (nI n) (nI k) (upd ys n (nI y)) (upd ss n v2) (upd ks n v3) (upd ts n v4) b = some (nI 1, nI (n + 1), upd ys n (nI y), upd ss n v2, upd ks n v3, upd ts n v4, ba') ∧ RB (n + 1) (fun j => if j = n then y else Y j) ba' := by
    intro k b hk b1 b2 b3 b4
    unfold f_X2_append_J103
    rw [qck (show k < 7 by omega) (by omega), qcl (by omega), L1, nI_add]
    refine ⟨_, rfl, fun i => if i < k then o i else if i = k then n else o (i - 1), fun i hi => ?_, fun i j hij hj => ?_⟩
    · show upd b k (nI n) i = nI (if i < k then o i else if i = k then n else o (i - 1)) ∧ (if i < k then o i else if i = k then n else o (i - 1)) < n + 1
      by_cases c1 : i < k
      · have := ho i (by omega)
        rw [qu_n (by omega), b1 i c1, if_pos c1]
        exact ⟨rfl, by omega⟩
      · by_cases c2 : i = k
        · subst c2
          rw [qu_s, if_neg c1, if_pos rfl]
          exact ⟨rfl, by omega⟩
        · have := ho (i - 1) (by omega)
          have e := b2 (i - 1) (by omega) (by omega)
          rw [show i - 1 + 1 = i by omega] at e
          rw [qu_n c2, if_neg c1, if_neg c2, e]
          exact ⟨rfl, by omega⟩
    · have val : ∀ x, x < n → (if x = n then y else Y x) = Y x := fun x hx => if_neg (by omega)
      have lift : ∀ x z, x < n → z < n → old Y x z → old (fun j => if j = n then y else Y j) x z := by
        intro x z hx hz u
        show (if x = n then y else Y x) < (if z = n then y else Y z) ∨ ((if x = n then y else Y x) = (if z = n then y else Y z) ∧ x < z)
        rw [val x hx, val z hz]
        exact u
      show old (fun j => if j = n then y else Y j) (if i < k then o i else if i = k then n else o (i - 1)) (if j < k then o j else if j = k then n else o (j - 1))
      by_cases i1 : i < k
      · rw [if_pos i1]
        have oi := (ho i (by omega)).2
        by_cases j1 : j < k
        · rw [if_pos j1]
          exact lift _ _ oi (ho j (by omega)).2 (hs i j hij (by omega))
        · rw [if_neg j1]
          by_cases j2 : j = k
          · rw [if_pos j2]
            show (if o i = n then y else Y (o i)) < (if n = n then y else Y n) ∨ ((if o i = n then y else Y (o i)) = (if n = n then y else Y n) ∧ o i < n)
            rw [val _ oi, if_pos rfl]
            have := b4 i i1
            omega
          · rw [if_neg j2]
            exact lift _ _ oi (ho (j - 1) (by omega)).2 (hs i (j - 1) (by omega) (by omega))
      · rw [if_neg i1, if_neg (show ¬ j < k by omega), if_neg (show ¬ j = k by omega)]
        have oj := (ho (j - 1) (by omega)).2
        by_cases i2 : i = k
        · rw [if_pos i2]
          show (if n = n then y else Y n) < (if o (j - 1) = n then y else Y (o (j - 1))) ∨ ((if n = n then y else Y n) = (if o (j - 1) = n then y else Y (o (j - 1))) ∧ n < o (j - 1))
          rw [val _ oj, if_pos rfl]
          exact Or.inl (b3 (j - 1) (by omega) (by omega))
        · rw [if_neg i2]
          exact lift _ _ (ho (i - 1) (by omega)).2 oj (hs (i - 1) (j - 1) (by omega) (by omega))
  have key : ∀ k f (b : Nat → Int32), k < f → k ≤ n → (∀ i, i < k → b i = nI (o i)) → (∀ i, k ≤ i → i < n → b (i + 1) = nI (o i)) → (∀ i, k ≤ i → i < n → y < Y (o i)) → ∃ ba', f_X2_append_L58 (nI n) (nI y) (upd ys n (nI y)) (upd ss n v2) (upd ks n v3) (upd ts n v4) f (nI k) b = some (nI 1, nI (n + 1), upd ys n (nI y), upd ss n v2, upd ks n v3, upd ts n v4, ba') ∧ RB (n + 1) (fun j => if j = n then y else Y j) ba' := by
    intro k
    induction k with
    | zero =>
      intro f b hf hk b1 b2 b3
      obtain ⟨f, rfl⟩ : ∃ k, f = k + 1 := ⟨f - 1, by omega⟩
      show ∃ ba', f_X2_append_B58 _ _ _ _ _ _ _ _ _ = _ ∧ _
      unfold f_X2_append_B58
      rw [L0, if_pos (nI_le (Nat.le_refl _) (by omega))]
      exact fin 0 b (by omega) b1 b2 b3 (fun i hi => absurd hi (by omega))
    | succ k ih =>
      intro f b hf hk b1 b2 b3
      obtain ⟨f, rfl⟩ : ∃ k, f = k + 1 := ⟨f - 1, by omega⟩
      have ok := (ho k (by omega)).2
      obtain ⟨y1, y2⟩ := hY (o k) ok
      show ∃ ba', f_X2_append_B58 _ _ _ _ _ _ _ _ _ = _ ∧ _
      unfold f_X2_append_B58
      rw [L0, L1, if_neg (show ¬ nI (k + 1) ≤ nI 0 by rw [nI_leI (by omega) (by omega)]; omega), qsub (show 1 ≤ k + 1 by omega), show k + 1 - 1 = k by omega, show nI (k + 1) + (-nI 1) = nI k from dnI_s (k + 1), qck (show k < 7 by omega) (by omega), qck (show k < 7 by omega) (by omega), qcl (show k < 2147483648 by omega), b1 k (by omega), qck (show o k < 7 by omega) (by omega), qck (show k + 1 < 7 by omega) (by omega), qcl (show o k < 2147483648 by omega), qcl (show k + 1 < 2147483648 by omega), qu_n (show o k ≠ n by omega), y2]
      by_cases cy : Y (o k) ≤ y
      · rw [if_pos (nI_le cy (by omega))]
        refine fin (k + 1) b hk b1 b2 b3 (fun i hi => ?_)
        by_cases e : i = k
        · subst e; exact cy
        · have := hs i k (by omega) (by omega)
          rcases this with u | u <;> omega
      · rw [if_neg (show ¬ nI (Y (o k)) ≤ nI y by rw [nI_leI (by omega) (by omega)]; exact cy)]
        refine ih f _ (by omega) (by omega) (fun i hi => ?_) (fun i h1 h2 => ?_) (fun i h1 h2 => ?_)
        · rw [qu_n (by omega)]; exact b1 i (by omega)
        · by_cases e : i = k
          · subst e; rw [qu_s]
          · rw [qu_n (by omega)]; exact b2 i (by omega) h2
        · by_cases e : i = k
          · subst e; omega
          · exact b3 i (by omega) h2
  unfold f_X2_append
  rw [L7, if_pos (nI_lt hn (by omega)), qck hn (by omega), qck hn (by omega), qck hn (by omega), qck hn (by omega), qcl (by omega)]
  exact key n FU ba (fu (by omega)) (Nat.le_refl _) (fun i hi => (ho i hi).1) (fun i h1 h2 => absurd h2 (by omega)) (fun i h1 h2 => absurd h2 (by omega))
