theorem first_cong {Y : Nat → Nat} {n : Nat} {r r' : Nat → Nat} {y : Nat} (h : ∀ q, q < n → r q = r' q) (hf : first Y n r y) : first Y n r' y := ⟨hf.1, by rw [← h y hf.1]; exact hf.2.1, fun x hx h0 => hf.2.2 x hx (by rw [h x hx]; exact h0)⟩
theorem rs_step {n : Nat} {Y o : Nat → Nat} (ho : srt n Y o) {r : Nat → Nat} {j y : Nat} (h : first Y n (rs Y n j r) y) {q : Nat} (hq : q < n) : rs Y n (j + 1) r q = if q = y then rs Y n j r y - 1 else rs Y n j r q := by
  rw [← rs_rs ho r 1 j hq, rs_1 h hq]
def PP (Y : Nat → Nat) (n a b p t : Nat) (g : Nat → Nat) : Nat → Nat := fun x => if x / 7 = p ∧ x % 7 < n then rs Y n a (fun q => g (7 * p + q)) (x % 7) else if x / 7 = t ∧ x % 7 < n then g x + (g (7 * p + x % 7) - rs Y n b (fun q => g (7 * p + q)) (x % 7)) else g x
theorem PP_pour (Y : Nat → Nat) (n k p t : Nat) (g : Nat → Nat) : PP Y n k k p t g = pour Y n k p t g := rfl
theorem PP_in (Y : Nat → Nat) {n : Nat} (a b p t : Nat) (g : Nat → Nat) (hn : n ≤ 7) {q : Nat} (hq : q < n) : PP Y n a b p t g (7 * p + q) = rs Y n a (fun q => g (7 * p + q)) q := by
  unfold PP
  rw [if_pos (by omega), show (7 * p + q) % 7 = q by omega]
theorem PP_to (Y : Nat → Nat) {n : Nat} (a b : Nat) {p t : Nat} (g : Nat → Nat) (hn : n ≤ 7) (hpt : p ≠ t) {q : Nat} (hq : q < n) : PP Y n a b p t g (7 * t + q) = g (7 * t + q) + (g (7 * p + q) - rs Y n b (fun q => g (7 * p + q)) q) := by
  unfold PP
  rw [if_neg (by omega), if_pos (by omega), show (7 * t + q) % 7 = q by omega]
theorem PP_out (Y : Nat → Nat) {n : Nat} (a b p t : Nat) (g : Nat → Nat) {x : Nat} (h : ¬ (x / 7 = p ∧ x % 7 < n)) (h2 : ¬ (x / 7 = t ∧ x % 7 < n)) : PP Y n a b p t g x = g x := by
  unfold PP
  rw [if_neg h, if_neg h2]
theorem PP_dec {n : Nat} {Y o : Nat → Nat} (ho : srt n Y o) (hn : n ≤ 7) {a b p t y : Nat} {g : Nat → Nat} (hpt : p ≠ t) (h : first Y n (rs Y n a (fun q => g (7 * p + q))) y) (x : Nat) : PP Y n (a + 1) b p t g x = if x = 7 * p + y then PP Y n a b p t g (7 * p + y) - 1 else PP Y n a b p t g x := by
  have hy := h.1
  by_cases c : x / 7 = p ∧ x % 7 < n
  · have ex : x = 7 * p + x % 7 := by omega
    rw [ex, PP_in Y _ _ p t g hn c.2, PP_in Y _ _ p t g hn c.2, PP_in Y _ _ p t g hn hy, rs_step ho h c.2]
    by_cases e : x % 7 = y
    · rw [if_pos e, if_pos (by omega)]
    · rw [if_neg e, if_neg (by omega)]
  · rw [if_neg (by omega)]
    by_cases c2 : x / 7 = t ∧ x % 7 < n
    · have ex : x = 7 * t + x % 7 := by omega
      rw [ex, PP_to Y _ _ g hn hpt c2.2, PP_to Y _ _ g hn hpt c2.2]
    · rw [PP_out Y _ _ p t g c c2, PP_out Y _ _ p t g c c2]
theorem PP_inc {n : Nat} {Y o : Nat → Nat} (ho : srt n Y o) (hn : n ≤ 7) {a b p t y : Nat} {g : Nat → Nat} (hpt : p ≠ t) (h : first Y n (rs Y n b (fun q => g (7 * p + q))) y) (x : Nat) : PP Y n a (b + 1) p t g x = if x = 7 * t + y then PP Y n a b p t g (7 * t + y) + 1 else PP Y n a b p t g x := by
  have hy := h.1
  by_cases c : x / 7 = p ∧ x % 7 < n
  · have ex : x = 7 * p + x % 7 := by omega
    rw [if_neg (by omega), ex, PP_in Y _ _ p t g hn c.2, PP_in Y _ _ p t g hn c.2]
  · by_cases c2 : x / 7 = t ∧ x % 7 < n
    · have ex : x = 7 * t + x % 7 := by omega
      rw [ex, PP_to Y _ _ g hn hpt c2.2, PP_to Y _ _ g hn hpt c2.2, PP_to Y _ _ g hn hpt hy, rs_step ho h c2.2]
      by_cases e : x % 7 = y
      · rw [if_pos e, if_pos (by omega), e]
        have h1 := rs_le Y n b (fun q => g (7 * p + q)) y
        have h2 := h.2.1
        try dsimp only at h1
        omega
      · rw [if_neg e, if_neg (by omega)]
    · rw [if_neg (by omega), PP_out Y _ _ p t g c c2, PP_out Y _ _ p t g c c2]
theorem gone_step {n : Nat} {Y o : Nat → Nat} (ho : srt n Y o) (hn : n ≤ 7) {j p y : Nat} {g : Nat → Nat} (h : first Y n (rs Y n j (fun q => g (7 * p + q))) y) (x : Nat) : gone Y n (j + 1) p g x = if x = 7 * p + y then gone Y n j p g (7 * p + y) - 1 else gone Y n j p g x := by
  have hy := h.1
  by_cases c : x / 7 = p ∧ x % 7 < n
  · have ex : x = 7 * p + x % 7 := by omega
    rw [ex, gone_in Y _ p g hn c.2, gone_in Y _ p g hn c.2, gone_in Y _ p g hn hy, rs_step ho h c.2]
    by_cases e : x % 7 = y
    · rw [if_pos e, if_pos (by omega)]
    · rw [if_neg e, if_neg (by omega)]
  · rw [if_neg (by omega), gone_out Y _ p g c, gone_out Y _ p g c]
theorem gone_0 (Y : Nat → Nat) (n p : Nat) (g : Nat → Nat) (x : Nat) : gone Y n 0 p g x = g x := by
  unfold gone
  by_cases c : x / 7 = p ∧ x % 7 < n
  · rw [if_pos c, rs_0]
    try dsimp only
    congr 1
    omega
  · rw [if_neg c]
theorem rs_min {n : Nat} {Y o : Nat → Nat} (ho : srt n Y o) (r : Nat → Nat) (k : Nat) {q : Nat} (hq : q < n) : rs Y n (min k (sm r n)) r q = rs Y n k r q := by
  rcases Nat.le_total k (sm r n) with h | h
  · rw [Nat.min_eq_left h]
  · rw [Nat.min_eq_right h, rs_big ho r h hq, rs_big ho r (Nat.le_refl _) hq]
theorem gone_min {n : Nat} {Y o : Nat → Nat} (ho : srt n Y o) (k p : Nat) (g : Nat → Nat) (x : Nat) : gone Y n (min k (sm (fun q => g (7 * p + q)) n)) p g x = gone Y n k p g x := by
  unfold gone
  by_cases c : x / 7 = p ∧ x % 7 < n
  · rw [if_pos c, if_pos c, rs_min ho _ k c.2]
  · rw [if_neg c, if_neg c]
theorem pour_min {n : Nat} {Y o : Nat → Nat} (ho : srt n Y o) (k p t : Nat) (g : Nat → Nat) (x : Nat) : pour Y n (min k (sm (fun q => g (7 * p + q)) n)) p t g x = pour Y n k p t g x := by
  unfold pour
  by_cases c : x / 7 = p ∧ x % 7 < n
  · rw [if_pos c, if_pos c, rs_min ho _ k c.2]
  · rw [if_neg c, if_neg c]
    by_cases c2 : x / 7 = t ∧ x % 7 < n
    · rw [if_pos c2, if_pos c2, rs_min ho _ k c2.2]
    · rw [if_neg c2, if_neg c2]
theorem goes_end {td s : Nat → Int32} {v1 v2 v3 j : Int32} {f : Nat} : f_X8_goes_L18 td v1 v2 v3 (f + 1) j (-nI 1) s = some (j, s) := by
  show f_X8_goes_B18 _ _ _ _ _ _ _ _ = _
  unfold f_X8_goes_B18
  simp only [L0, L1, L2, L3, L4, L5, L6, L7, L8, L9, L10, L11, L12, L13, L19, L20, L26, L31, L32, L33, L48, L49, L50, L51, L57, L59, L60, L61, L98, L99, L100, L108, L112, L115, L127, L128, L200, L201, L255, L256, L257, L400, L401, L420, L459, L999, L1000, L5940]
  rw [if_pos m1lt]
theorem goes_gone {n k p b : Nat} {Y o g : Nat → Nat} {s td : Nat → Int32} (hn : n ≤ 7) (hp : p < 7) (ho : srt n Y o) (hY : ∀ j, j < n → Y j ≤ 99 ∧ td (5 + j) = nI (Y j)) (hz : ∀ q, n ≤ q → q < 7 → g (7 * p + q) = 0) (hg : ∀ x, x < 49 → g x ≤ 420) (ht : sm (fun q => g (7 * p + q)) n ≤ 420) (hk : k < 1000000) (hs : ∀ x, x < 49 → s x = nI (g x)) (h50 : s 50 = nI b) :
    ∃ s', f_X8_goes s td (nI p) (nI k) (-1) = some (nI (min k (sm (fun q => g (7 * p + q)) n)), s') ∧ (∀ x, x < 49 → s' x = nI (gone Y n k p g x)) ∧ s' 50 = nI (b + min k (sm (fun q => g (7 * p + q)) n)) ∧ s' 49 = s 49 := by
  have hgz : ∀ j q, n ≤ q → q < 7 → gone Y n j p g (7 * p + q) = 0 := fun j q h1 h2 => by rw [gone_out Y j p g (by omega)]; exact hz q h1 h2
  have hgb : ∀ j x, x < 49 → gone Y n j p g x < 1000000 := fun j x hx => by
    unfold gone
    by_cases c : x / 7 = p ∧ x % 7 < n
    · rw [if_pos c]
      have h1 := rs_le Y n j (fun q => g (7 * p + q)) (x % 7)
      have h2 := hg (7 * p + x % 7) (by omega)
      try dsimp only at h1
      omega
    · rw [if_neg c]
      have := hg x hx
      omega
  have hsum : ∀ j, sm (fun q => gone Y n j p g (7 * p + q)) n = sm (fun q => g (7 * p + q)) n - j := fun j => by
    rw [sm_cong (f := fun q => gone Y n j p g (7 * p + q)) (g := rs Y n j (fun q => g (7 * p + q))) (fun q hq => gone_in Y j p g hn hq)]
    exact rs_sm ho _ j
  have hfst : ∀ j y, first Y n (fun q => gone Y n j p g (7 * p + q)) y → first Y n (rs Y n j (fun q => g (7 * p + q))) y := fun j y h => first_cong (fun q hq => gone_in Y j p g hn hq) h
  generalize hm : min k (sm (fun q => g (7 * p + q)) n) = m
  have key : ∀ d j f y (s1 : Nat → Int32), j + d + 1 = m → d + 1 < f → y < 7 → (∀ x, x < 49 → s1 x = nI (gone Y n (j + 1) p g x)) → s1 50 = nI (b + j) → s1 49 = s 49 →
      ∃ s', f_X8_goes_L18 td (nI p) (nI k) (-nI 1) f (nI j) (nI y) s1 = some (nI m, s') ∧ (∀ x, x < 49 → s' x = nI (gone Y n m p g x)) ∧ s' 50 = nI (b + m) ∧ s' 49 = s 49 := by
    intro d
    induction d with
    | zero =>
      intro j f y s1 hj hf hy h1 h2 h3
      obtain ⟨f, rfl⟩ : ∃ k, f = k + 1 + 1 := ⟨f - 2, by omega⟩
      show ∃ s', f_X8_goes_B18 _ _ _ _ _ _ _ _ = _ ∧ _
      unfold f_X8_goes_B18 f_X8_goes_J57
      simp only [L0, L1, L2, L3, L4, L5, L6, L7, L8, L9, L10, L11, L12, L13, L19, L20, L26, L31, L32, L33, L48, L49, L50, L51, L57, L59, L60, L61, L98, L99, L100, L108, L112, L115, L127, L128, L200, L201, L255, L256, L257, L400, L401, L420, L459, L999, L1000, L5940]
      rw [if_neg (nI_nlt (Nat.zero_le _) (by omega)), if_pos m1lt, qck (by omega) (by omega), qck (by omega) (by omega), qcl (by omega), h2, nI_add, nI_add, show j + 1 = m by omega]
      have h4 : ∀ x, x < 49 → upd s1 50 (nI (b + j + 1)) x = nI (gone Y n m p g x) := fun x hx => by rw [qu_n (by omega), h1 x hx, show j + 1 = m by omega]
      have h5 : upd s1 50 (nI (b + j + 1)) 50 = nI (b + m) := by rw [qu_s, show b + j + 1 = b + m by omega]
      have h6 : upd s1 50 (nI (b + j + 1)) 49 = s 49 := by rw [qu_n (by omega), h3]
      by_cases hc : k ≤ m
      · rw [if_pos (nI_le hc (by omega)), goes_end]
        exact ⟨_, rfl, h4, h5, h6⟩
      · rw [if_neg (by rw [nI_leI (by omega) (by omega)]; exact hc)]
        rcases takes_ok hn hp h4 (hgb m) hY (hgz m) with ⟨-, e⟩ | ⟨y', hy', -⟩
        · rw [e, qbd, goes_end]
          exact ⟨_, rfl, h4, h5, h6⟩
        · exfalso
          have e1 := hsum m
          have e2 := sm_el (fun q => gone Y n m p g (7 * p + q)) hy'.1
          have e3 := hy'.2.1
          try dsimp only at e2 e3
          omega
    | succ d ih =>
      intro j f y s1 hj hf hy h1 h2 h3
      obtain ⟨f, rfl⟩ : ∃ k, f = k + 1 := ⟨f - 1, by omega⟩
      show ∃ s', f_X8_goes_B18 _ _ _ _ _ _ _ _ = _ ∧ _
      unfold f_X8_goes_B18 f_X8_goes_J57
      simp only [L0, L1, L2, L3, L4, L5, L6, L7, L8, L9, L10, L11, L12, L13, L19, L20, L26, L31, L32, L33, L48, L49, L50, L51, L57, L59, L60, L61, L98, L99, L100, L108, L112, L115, L127, L128, L200, L201, L255, L256, L257, L400, L401, L420, L459, L999, L1000, L5940]
      rw [if_neg (nI_nlt (Nat.zero_le _) (by omega)), if_pos m1lt, qck (by omega) (by omega), qck (by omega) (by omega), qcl (by omega), h2, nI_add, nI_add]
      have h4 : ∀ x, x < 49 → upd s1 50 (nI (b + j + 1)) x = nI (gone Y n (j + 1) p g x) := fun x hx => by rw [qu_n (by omega), h1 x hx]
      rw [if_neg (by rw [nI_leI (by omega) (by omega)]; omega)]
      rcases takes_ok hn hp h4 (hgb (j + 1)) hY (hgz (j + 1)) with ⟨e0, -⟩ | ⟨y', hy', e⟩
      · exfalso
        rw [hsum] at e0
        omega
      · rw [e, qbd]
        dsimp only
        have hyn := hy'.1
        refine ih (j + 1) f y' _ (by omega) (by omega) (by omega) (fun x hx => ?_) ?_ ?_
        · rw [gone_step ho hn (hfst (j + 1) y' hy') x]
          by_cases ex : x = 7 * p + y'
          · rw [if_pos ex, ex, qu_s]
          · rw [if_neg ex, qu_n ex]
            exact h4 x hx
        · rw [qu_n (by omega), qu_s]
          rfl
        · rw [qu_n (by omega), qu_n (by omega), h3]
  unfold f_X8_goes
  simp only [L0, L1, L2, L3, L4, L5, L6, L7, L8, L9, L10, L11, L12, L13, L19, L20, L26, L31, L32, L33, L48, L49, L50, L51, L57, L59, L60, L61, L98, L99, L100, L108, L112, L115, L127, L128, L200, L201, L255, L256, L257, L400, L401, L420, L459, L999, L1000, L5940]
  by_cases h0 : m = 0
  · subst h0
    by_cases hc : k = 0
    · subst hc
      rw [if_pos (nI_le (Nat.le_refl _) (by omega)), show FU = 999 + 1 from rfl, goes_end]
      exact ⟨s, rfl, fun x hx => by rw [gone_0]; exact hs x hx, h50, rfl⟩
    · rw [if_neg (by rw [nI_leI (by omega) (by omega)]; omega)]
      rcases takes_ok hn hp hs (fun x hx => by have := hg x hx; omega) hY hz with ⟨e0, e⟩ | ⟨y', hy', -⟩
      · rw [e, qbd, show FU = 999 + 1 from rfl, goes_end]
        refine ⟨s, rfl, fun x hx => ?_, h50, rfl⟩
        rw [← gone_min ho k p g x, hm, gone_0]
        exact hs x hx
      · exfalso
        have e2 := sm_el (fun q => g (7 * p + q)) hy'.1
        have e3 := hy'.2.1
        try dsimp only at e2 e3
        omega
  · rw [if_neg (by rw [nI_leI (by omega) (by omega)]; omega)]
    rcases takes_ok hn hp hs (fun x hx => by have := hg x hx; omega) hY hz with ⟨e0, -⟩ | ⟨y', hy', e⟩
    · exfalso; omega
    · rw [e, qbd]
      have hyn := hy'.1
      obtain ⟨s', w1, w2, w3, w4⟩ := key (m - 1) 0 FU y' (upd s (7 * p + y') (nI (g (7 * p + y') - 1))) (by omega) (fu (by omega)) (by omega) (fun x hx => by
        rw [gone_step ho hn (first_cong (fun q hq => (rs_0 Y n _ q).symm) hy') x, gone_0, gone_0]
        by_cases ex : x = 7 * p + y'
        · rw [if_pos ex, ex, qu_s]
        · rw [if_neg ex, qu_n ex]
          exact hs x hx) (by rw [qu_n (by omega), h50]; rfl) (by rw [qu_n (by omega)])
      refine ⟨s', w1, fun x hx => ?_, w3, w4⟩
      rw [w2 x hx, ← gone_min ho k p g x, hm]
