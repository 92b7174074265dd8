theorem goes_pour {n k p t : Nat} {Y o g : Nat → Nat} {s td : Nat → Int32} (hn : n ≤ 7) (hp : p < 7) (htt : t < 7) (hpt : p ≠ t) (ho : srt n Y o) (hY : ∀ j, j < n → Y j ≤ 99 ∧ td (5 + j) = nI (Y j)) (hz : ∀ q, n ≤ q → q < 7 → g (7 * p + q) = 0) (hg : ∀ x, x < 49 → g x ≤ 420) (ht : sm (fun q => g (7 * p + q)) n ≤ 420) (hk : k < 1000000) (hk1 : 1 ≤ k) (h1k : 1 ≤ sm (fun q => g (7 * p + q)) n) (hs : ∀ x, x < 49 → s x = nI (g x)) :
    ∃ s', f_X8_goes s td (nI p) (nI k) (nI t) = some (nI (min k (sm (fun q => g (7 * p + q)) n)), s') ∧ (∀ x, x < 49 → s' x = nI (pour Y n k p t g x)) ∧ s' 50 = s 50 ∧ s' 49 = s 49 := by
  have hgz : ∀ a b q, n ≤ q → q < 7 → PP Y n a b p t g (7 * p + q) = 0 := fun a b q h1 h2 => by rw [PP_out Y a b p t g (by omega) (by omega)]; exact hz q h1 h2
  have hgb : ∀ a b x, x < 49 → PP Y n a b p t g x < 1000000 := fun a b x hx => by
    unfold PP
    by_cases c : x / 7 = p ∧ x % 7 < n
    · rw [if_pos c]
      have h1 := rs_le Y n a (fun q => g (7 * p + q)) (x % 7)
      have h2 := hg (7 * p + x % 7) (by omega)
      try dsimp only at h1
      omega
    · rw [if_neg c]
      have h2 := hg (7 * p + x % 7) (by omega)
      have := hg x hx
      by_cases c2 : x / 7 = t ∧ x % 7 < n
      · rw [if_pos c2]; omega
      · rw [if_neg c2]; omega
  have hsum : ∀ a b, sm (fun q => PP Y n a b p t g (7 * p + q)) n = sm (fun q => g (7 * p + q)) n - a := fun a b => by
    rw [sm_cong (f := fun q => PP Y n a b p t g (7 * p + q)) (g := rs Y n a (fun q => g (7 * p + q))) (fun q hq => PP_in Y a b p t g hn hq)]
    exact rs_sm ho _ a
  have hfst : ∀ a b y, first Y n (fun q => PP Y n a b p t g (7 * p + q)) y → first Y n (rs Y n a (fun q => g (7 * p + q))) y := fun a b y h => first_cong (fun q hq => PP_in Y a b p t g hn hq) h
  generalize hm : min k (sm (fun q => g (7 * p + q)) n) = m
  have key : ∀ d j f y (s1 : Nat → Int32), j + d + 1 = m → d + 1 < f → first Y n (rs Y n j (fun q => g (7 * p + q))) y → (∀ x, x < 49 → s1 x = nI (PP Y n (j + 1) j p t g x)) → s1 50 = s 50 → s1 49 = s 49 →
      ∃ s', f_X8_goes_L18 td (nI p) (nI k) (nI t) f (nI j) (nI y) s1 = some (nI m, s') ∧ (∀ x, x < 49 → s' x = nI (PP Y n m m p t g x)) ∧ s' 50 = s 50 ∧ s' 49 = s 49 := by
    intro d
    induction d with
    | zero =>
      intro j f y s1 hj hf hfy h1 h2 h3
      obtain ⟨f, rfl⟩ : ∃ k, f = k + 1 + 1 := ⟨f - 2, by omega⟩
      have hy := hfy.1
      have hx : 7 * t + y < 49 := by omega
      show ∃ s', f_X8_goes_B18 _ _ _ _ _ _ _ _ = _ ∧ _
      unfold f_X8_goes_B18 f_X8_goes_J57
      simp only [L0, L1, L2, L3, L4, L5, L6, L7, L8, L9, L10, L11, L12, L13, L19, L20, L26, L31, L32, L33, L48, L49, L50, L51, L57, L59, L60, L61, L98, L99, L100, L108, L112, L115, L127, L128, L200, L201, L255, L256, L257, L400, L401, L420, L459, L999, L1000, L5940]
      rw [if_neg (nI_nlt (Nat.zero_le _) (by omega)), if_neg (nI_nlt (Nat.zero_le _) (by omega)), pk_mul, nI_add, qck (by omega) (by omega), qck (by omega) (by omega), qcl (by omega), h1 _ hx, nI_add, nI_add, show j + 1 = m by omega]
      have h4 : ∀ x, x < 49 → upd s1 (7 * t + y) (nI (PP Y n m j p t g (7 * t + y) + 1)) x = nI (PP Y n m m p t g x) := fun x hx => by
        have e := PP_inc ho hn (a := m) hpt hfy x
        rw [show j + 1 = m by omega] at e
        rw [e]
        by_cases ex : x = 7 * t + y
        · rw [if_pos ex, ex, qu_s]
        · rw [if_neg ex, qu_n ex, h1 x hx, show j + 1 = m by omega]
      have h5 : upd s1 (7 * t + y) (nI (PP Y n m j p t g (7 * t + y) + 1)) 50 = s 50 := by rw [qu_n (by omega), h2]
      have h6 : upd s1 (7 * t + y) (nI (PP Y n m j p t g (7 * t + y) + 1)) 49 = s 49 := by rw [qu_n (by omega), h3]
      by_cases hc : k ≤ m
      · rw [if_pos (nI_le hc (by omega)), goes_end]
        exact ⟨_, rfl, h4, h5, h6⟩
      · rw [if_neg (by rw [nI_leI (by omega) (by omega)]; exact hc)]
        rcases takes_ok hn hp h4 (hgb m m) hY (hgz m m) with ⟨-, e⟩ | ⟨y', hy', -⟩
        · rw [e, qbd, goes_end]
          exact ⟨_, rfl, h4, h5, h6⟩
        · exfalso
          have e1 := hsum m m
          have e2 := sm_el (fun q => PP Y n m m p t g (7 * p + q)) hy'.1
          have e3 := hy'.2.1
          try dsimp only at e2 e3
          omega
    | succ d ih =>
      intro j f y s1 hj hf hfy h1 h2 h3
      obtain ⟨f, rfl⟩ : ∃ k, f = k + 1 := ⟨f - 1, by omega⟩
      have hy := hfy.1
      have hx : 7 * t + y < 49 := by omega
      show ∃ s', f_X8_goes_B18 _ _ _ _ _ _ _ _ = _ ∧ _
      unfold f_X8_goes_B18 f_X8_goes_J57
      simp only [L0, L1, L2, L3, L4, L5, L6, L7, L8, L9, L10, L11, L12, L13, L19, L20, L26, L31, L32, L33, L48, L49, L50, L51, L57, L59, L60, L61, L98, L99, L100, L108, L112, L115, L127, L128, L200, L201, L255, L256, L257, L400, L401, L420, L459, L999, L1000, L5940]
      rw [if_neg (nI_nlt (Nat.zero_le _) (by omega)), if_neg (nI_nlt (Nat.zero_le _) (by omega)), pk_mul, nI_add, qck (by omega) (by omega), qck (by omega) (by omega), qcl (by omega), h1 _ hx, nI_add, nI_add]
      have h4 : ∀ x, x < 49 → upd s1 (7 * t + y) (nI (PP Y n (j + 1) j p t g (7 * t + y) + 1)) x = nI (PP Y n (j + 1) (j + 1) p t g x) := fun x hx => by
        rw [PP_inc ho hn (a := j + 1) hpt hfy x]
        by_cases ex : x = 7 * t + y
        · rw [if_pos ex, ex, qu_s]
        · rw [if_neg ex, qu_n ex, h1 x hx]
      rw [if_neg (by rw [nI_leI (by omega) (by omega)]; omega)]
      rcases takes_ok hn hp h4 (hgb (j + 1) (j + 1)) hY (hgz (j + 1) (j + 1)) with ⟨e0, -⟩ | ⟨y', hy', e⟩
      · exfalso
        rw [hsum] at e0
        omega
      · rw [e, qbd]
        dsimp only
        have hyn := hy'.1
        refine ih (j + 1) f y' _ (by omega) (by omega) (hfst _ _ y' hy') (fun x hx => ?_) ?_ ?_
        · rw [PP_dec ho hn hpt (hfst _ _ y' hy') x]
          by_cases ex : x = 7 * p + y'
          · rw [if_pos ex, ex, qu_s]
          · rw [if_neg ex, qu_n ex]
            exact h4 x hx
        · rw [qu_n (by omega), qu_n (by omega), h2]
        · rw [qu_n (by omega), qu_n (by omega), h3]
  unfold f_X8_goes
  simp only [L0, L1, L2, L3, L4, L5, L6, L7, L8, L9, L10, L11, L12, L13, L19, L20, L26, L31, L32, L33, L48, L49, L50, L51, L57, L59, L60, L61, L98, L99, L100, L108, L112, L115, L127, L128, L200, L201, L255, L256, L257, L400, L401, L420, L459, L999, L1000, L5940]
  have hm1 : 1 ≤ m := by omega
  rw [if_neg (by rw [nI_leI (by omega) (by omega)]; omega)]
  rcases takes_ok hn hp hs (fun x hx => by have := hg x hx; omega) hY hz with ⟨e0, -⟩ | ⟨y', hy', e⟩
  · exfalso; omega
  · rw [e, qbd]
    dsimp only
    have hyn := hy'.1
    have hf0 : first Y n (rs Y n 0 (fun q => g (7 * p + q))) y' := first_cong (fun q hq => (rs_0 Y n _ q).symm) hy'
    have P0 : ∀ x, PP Y n 0 0 p t g x = g x := fun x => by
      unfold PP
      by_cases c : x / 7 = p ∧ x % 7 < n
      · rw [if_pos c, rs_0]
        try dsimp only
        congr 1
        omega
      · rw [if_neg c, rs_0]
        by_cases c2 : x / 7 = t ∧ x % 7 < n
        · rw [if_pos c2]
          try dsimp only
          omega
        · rw [if_neg c2]
    obtain ⟨s', w1, w2, w3, w4⟩ := key (m - 1) 0 FU y' (upd s (7 * p + y') (nI (g (7 * p + y') - 1))) (by omega) (fu (by omega)) hf0 (fun x hx => by
      rw [PP_dec ho hn hpt hf0 x, P0, P0]
      by_cases ex : x = 7 * p + y'
      · rw [if_pos ex, ex, qu_s]
      · rw [if_neg ex, qu_n ex]
        exact hs x hx) (by rw [qu_n (by omega)]) (by rw [qu_n (by omega)])
    refine ⟨s', w1, fun x hx => ?_, w3, w4⟩
    rw [w2 x hx, ← pour_min ho k p t g x, hm]
    rfl
/-! nothing comes from nothing -/
theorem sm_rows (f : Nat → Nat) : ∀ m, sm f (7 * m) = sm (fun p => sm (fun q => f (7 * p + q)) 7) m
  | 0 => rfl
  | m + 1 => by
    rw [show 7 * (m + 1) = 7 * m + 7 by omega, sm_split, sm_rows f m]
    rfl
theorem tot_le {g : Nat → Nat} {p : Nat} (hp : p < 7) : tot g p ≤ sm g 49 := by
  rw [show (49 : Nat) = 7 * 7 from rfl, sm_rows]
  exact sm_el (fun p => sm (fun q => g (7 * p + q)) 7) hp
theorem tot_n {n : Nat} {g : Nat → Nat} {p : Nat} (hn : n ≤ 7) (hz : ∀ q, n ≤ q → q < 7 → g (7 * p + q) = 0) : sm (fun q => g (7 * p + q)) n = tot g p := (sm_ext _ hn hz).symm
theorem vg_le {n : Nat} {g : Nat → Nat} (h : vg n g) {x : Nat} (hx : x < 49) : g x ≤ 420 := Nat.le_trans (sm_el g hx) h.1
theorem vg_z {n : Nat} {g : Nat → Nat} (h : vg n g) {p : Nat} (hp : p < 7) : ∀ q, n ≤ q → q < 7 → g (7 * p + q) = 0 := fun q h1 h2 => h.2 p q hp h2 (Or.inr h1)
theorem gone_le (Y : Nat → Nat) (n k p : Nat) (g : Nat → Nat) (x : Nat) : gone Y n k p g x ≤ g x := by
  unfold gone
  by_cases c : x / 7 = p ∧ x % 7 < n
  · rw [if_pos c]
    have h1 := rs_le Y n k (fun q => g (7 * p + q)) (x % 7)
    rw [show 7 * p + x % 7 = x by omega] at h1
    exact h1
  · rw [if_neg c]; exact Nat.le_refl _
theorem vg_gone {n : Nat} {g : Nat → Nat} (h : vg n g) (Y : Nat → Nat) (k p : Nat) : vg n (gone Y n k p g) := by
  refine ⟨Nat.le_trans (sm_le (fun x _ => gone_le Y n k p g x)) h.1, fun a b ha hb hab => ?_⟩
  have h1 := gone_le Y n k p g (7 * a + b)
  have h2 := h.2 a b ha hb hab
  omega
theorem vg_pour {n : Nat} {g : Nat → Nat} (h : vg n g) (Y : Nat → Nat) (k : Nat) {p t : Nat} (hn : n ≤ 7) (hp : p < n) (ht : t < n) (hpt : p ≠ t) : vg n (pour Y n k p t g) := by
  have hr : ∀ a, a < 7 → sm (fun q => pour Y n k p t g (7 * a + q)) 7 = sm (fun q => gone Y n k p g (7 * a + q)) 7 + (if a = t then sm (fun q => if q < n then g (7 * p + q) - rs Y n k (fun q => g (7 * p + q)) q else 0) 7 else 0) := by
    intro a ha
    by_cases ea : a = t
    · subst ea
      rw [if_pos rfl, ← sm_add]
      apply sm_cong
      intro q hq
      by_cases c : q < n
      · rw [pour_to Y k g hn hpt c, gone_out Y k p g (by omega), if_pos c]
      · rw [pour_out Y k p a g (by omega) (by omega), gone_out Y k p g (by omega), if_neg c]; rfl
    · rw [if_neg ea, Nat.add_zero]
      apply sm_cong
      intro q hq
      by_cases c : a = p ∧ q < n
      · obtain ⟨rfl, c2⟩ := c
        rw [pour_in Y k a t g hn c2, gone_in Y k a g hn c2]
      · rw [pour_out Y k p t g (by omega) (by omega), gone_out Y k p g (by omega)]
  have hr2 : ∀ a, a < 7 → sm (fun q => g (7 * a + q)) 7 = sm (fun q => gone Y n k p g (7 * a + q)) 7 + (if a = p then sm (fun q => if q < n then g (7 * p + q) - rs Y n k (fun q => g (7 * p + q)) q else 0) 7 else 0) := by
    intro a ha
    by_cases ea : a = p
    · subst ea
      rw [if_pos rfl, ← sm_add]
      apply sm_cong
      intro q hq
      by_cases c : q < n
      · have h1 := rs_le Y n k (fun q => g (7 * a + q)) q
        rw [gone_in Y k a g hn c, if_pos c]
        try dsimp only at h1
        omega
      · rw [gone_out Y k a g (by omega), if_neg c]; rfl
    · rw [if_neg ea, Nat.add_zero]
      apply sm_cong
      intro q hq
      rw [gone_out Y k p g (by omega)]
  refine ⟨?_, fun a b ha hb hab => ?_⟩
  · have e1 : sm (pour Y n k p t g) 49 = sm (fun a => sm (fun q => gone Y n k p g (7 * a + q)) 7) 7 + sm (fun a => if a = t then sm (fun q => if q < n then g (7 * p + q) - rs Y n k (fun q => g (7 * p + q)) q else 0) 7 else 0) 7 := by
      rw [show (49 : Nat) = 7 * 7 from rfl, sm_rows, sm_cong hr, sm_add]
    have e2 : sm g 49 = sm (fun a => sm (fun q => gone Y n k p g (7 * a + q)) 7) 7 + sm (fun a => if a = p then sm (fun q => if q < n then g (7 * p + q) - rs Y n k (fun q => g (7 * p + q)) q else 0) 7 else 0) 7 := by
      rw [show (49 : Nat) = 7 * 7 from rfl, sm_rows, sm_cong hr2, sm_add]
    rw [sm_ind (fun _ => sm (fun q => if q < n then g (7 * p + q) - rs Y n k (fun q => g (7 * p + q)) q else 0) 7) (show t < 7 by omega)] at e1
    rw [sm_ind (fun _ => sm (fun q => if q < n then g (7 * p + q) - rs Y n k (fun q => g (7 * p + q)) q else 0) 7) (show p < 7 by omega)] at e2
    have := h.1
    omega
  · have h2 := h.2 a b ha hb hab
    rcases hab with c | c
    · rw [pour_out Y k p t g (by omega) (by omega), h2]
    · rw [pour_out Y k p t g (by omega) (by omega), h2]
/-! what is done -/
theorem RH.srt {n : Nat} {Y K T : Nat → Nat} {le sh : Nat} {hp hl hs : Int32} {hy hk ht hb td : Nat → Int32} (h : RH n Y K T le sh hp hl hs hy hk ht hb td) : ∃ o, srt n Y o ∧ ∀ i, i < n → hb i = nI (o i) := by
  obtain ⟨-, -, -, -, -, -, -, -, -, -, o, h1, h2⟩ := h
  exact ⟨o, ⟨fun i hi => (h1 i hi).2, h2⟩, fun i hi => (h1 i hi).1⟩
theorem RS.mk0 {n : Nat} {g : Nat → Nat} {a b : Nat} {sp : Nat → Int32} {spr lo : Int32} {s : Nat → Int32} (h1 : vg n g) (h2 : a ≤ 999) (h3 : spr = nI a) (h4 : s 49 = nI a) (h5 : lo = nI b) (h6 : s 50 = nI b) (h7 : ∀ x, x < 49 → sp x = nI (g x)) (h8 : ∀ x, x < 49 → s x = nI (g x)) : RS n g a b sp spr lo s 0 :=
  ⟨h1, h2, h3, by rw [Nat.zero_add]; exact h4, h5, by rw [Nat.zero_add]; exact h6, fun x hx => ⟨h7 x hx, by rw [Nat.zero_add]; exact h8 x hx⟩⟩
theorem RS.get0 {n : Nat} {g : Nat → Nat} {a b : Nat} {sp : Nat → Int32} {spr lo : Int32} {s : Nat → Int32} (h : RS n g a b sp spr lo s 0) : vg n g ∧ a ≤ 999 ∧ spr = nI a ∧ s 49 = nI a ∧ lo = nI b ∧ s 50 = nI b ∧ (∀ x, x < 49 → sp x = nI (g x)) ∧ ∀ x, x < 49 → s x = nI (g x) := by
  obtain ⟨w1, w2, w3, w4, w5, w6, w7⟩ := h
  rw [Nat.zero_add] at w4 w6
  exact ⟨w1, w2, w3, w4, w5, w6, fun x hx => (w7 x hx).1, fun x hx => by have := (w7 x hx).2; rw [Nat.zero_add] at this; exact this⟩
theorem sim_uses {n : Nat} {Y K T : Nat → Nat} {le sh : Nat} {hp hl hs : Int32} {hy hk ht hb td : Nat → Int32} (h : RH n Y K T le sh hp hl hs hy hk ht hb td) {kn nx : Int32} {rspr rlo : Nat → Int32} {rsp : Nat → Nat → Int32} {mk : Int32} {past : Nat → Int32} (hh : RHi n kn nx rspr rlo rsp mk past) {g : Nat → Nat} {a b : Nat} {sp : Nat → Int32} {spr lo : Int32} {s : Nat → Int32} (hR : RS n g a b sp spr lo s 0) (v1 v2 : Int32) :
    ∃ o1 o2, f_X7_uses hp spr lo sp kn nx rspr rlo rsp hb v1 v2 = some o1 ∧ f_X8_uses mk td s past v1 v2 = some o2 ∧ o1.1 = o2.1 ∧ RHi n o1.2.2.2.1 o1.2.2.2.2.1 o1.2.2.2.2.2.1 o1.2.2.2.2.2.2.1 o1.2.2.2.2.2.2.2 o2.2.1 o2.2.2.2 ∧ ∃ g' a' b', RS n g' a' b' o1.2.2.1 spr o1.2.1 o2.2.2.1 0 := by
  obtain ⟨o, ho, hbo⟩ := h.srt
  obtain ⟨hn, -, -, rfl, e0, -, -, -, -, hj, -⟩ := h
  unfold f_X7_uses f_X8_uses
  simp only [L0, L1, L2, L3, L4, L5, L6, L7, L8, L9, L10, L11, L12, L13, L19, L20, L26, L31, L32, L33, L48, L49, L50, L51, L57, L59, L60, L61, L98, L99, L100, L108, L112, L115, L127, L128, L200, L201, L255, L256, L257, L400, L401, L420, L459, L999, L1000, L5940]
  rcases pan_cases v1 hn e0 with ⟨e1, e2⟩ | ⟨p, hpn, rfl, e1, e2⟩
  · rw [e1, e2]
    simp (disch := omega) only [L0, L1, L2, L3, L4, L5, L6, L7, L8, L9, L10, L11, L12, L13, L19, L20, L26, L31, L32, L33, L48, L49, L50, L51, L57, L59, L60, L61, L98, L99, L100, L108, L112, L115, L127, L128, L200, L201, L255, L256, L257, L400, L401, L420, L459, L999, L1000, L5940, nI_add, pk_mul, qle, qlt, qeq, qcl, qck, qbd, qsub, if_pos, if_neg]
    exact ⟨_, _, rfl, rfl, rfl, hh, g, a, b, hR⟩
  rw [e1, e2]
  rcases in_cases v2 (a := 1) (b := 99) (by omega) (by omega) with ⟨e3, e4⟩ | ⟨k, hk1, hk2, rfl, e3, e4⟩
  · rw [e3, e4]
    simp (disch := omega) only [L0, L1, L2, L3, L4, L5, L6, L7, L8, L9, L10, L11, L12, L13, L19, L20, L26, L31, L32, L33, L48, L49, L50, L51, L57, L59, L60, L61, L98, L99, L100, L108, L112, L115, L127, L128, L200, L201, L255, L256, L257, L400, L401, L420, L459, L999, L1000, L5940, nI_add, pk_mul, qle, qlt, qeq, qcl, qck, qbd, qsub, if_pos, if_neg]
    exact ⟨_, _, rfl, rfl, rfl, hh, g, a, b, hR⟩
  rw [e3, e4]
  have hR0 := hR
  obtain ⟨w1, w2, w3, w4, w5, w6, w7a, w7b⟩ := hR.get0
  have hz := vg_z w1 (show p < 7 by omega)
  have hT := tot_n hn hz
  have hTb : tot g p ≤ 420 := Nat.le_trans (tot_le (by omega)) w1.1
  rw [q_inPan w7a hn (by omega) hz, q_full w7b (by omega)]
  by_cases h0 : tot g p = 0
  · rw [h0]
    simp (disch := omega) only [L0, L1, L2, L3, L4, L5, L6, L7, L8, L9, L10, L11, L12, L13, L19, L20, L26, L31, L32, L33, L48, L49, L50, L51, L57, L59, L60, L61, L98, L99, L100, L108, L112, L115, L127, L128, L200, L201, L255, L256, L257, L400, L401, L420, L459, L999, L1000, L5940, nI_add, pk_mul, qle, qlt, qeq, qcl, qck, qbd, qsub, if_pos, if_neg]
    exact ⟨_, _, rfl, rfl, rfl, hh, g, a, b, hR0⟩
  obtain ⟨o1, o2, r1, r2, r3⟩ := sim_remember hh hR0
  obtain ⟨sp', t1, t2⟩ := take_gone (b := b) (k := k) hn (show p < 7 by omega) ho hbo (by omega) (fun x hx => by have := vg_le w1 hx; omega) w7a
  obtain ⟨s', t3, t4, t5, t6⟩ := goes_gone (b := b) (k := k) hn (show p < 7 by omega) ho (fun j hj2 => ⟨(hj j hj2).1, (hj j hj2).2.2.2.2.1⟩) hz (fun x hx => vg_le w1 hx) (by omega) (by omega) w7b w6
  simp only [L0, L1, L2, L3, L4, L5, L6, L7, L8, L9, L10, L11, L12, L13, L19, L20, L26, L31, L32, L33, L48, L49, L50, L51, L57, L59, L60, L61, L98, L99, L100, L108, L112, L115, L127, L128, L200, L201, L255, L256, L257, L400, L401, L420, L459, L999, L1000, L5940] at t1 t3
  rw [r1, r2, w5, t1, t3]
  simp (disch := omega) only [L0, L1, L2, L3, L4, L5, L6, L7, L8, L9, L10, L11, L12, L13, L19, L20, L26, L31, L32, L33, L48, L49, L50, L51, L57, L59, L60, L61, L98, L99, L100, L108, L112, L115, L127, L128, L200, L201, L255, L256, L257, L400, L401, L420, L459, L999, L1000, L5940, nI_add, pk_mul, qle, qlt, qeq, qcl, qck, qbd, qsub, if_pos, if_neg]
  exact ⟨_, _, rfl, rfl, rfl, r3, gone Y n k p g, a, b + min k (sm (fun q => g (7 * p + q)) n), RS.mk0 (vg_gone w1 Y k p) w2 w3 (t6.trans w4) rfl t5 t2 t4⟩
theorem sim_pours {n : Nat} {Y K T : Nat → Nat} {le sh : Nat} {hp hl hs : Int32} {hy hk ht hb td : Nat → Int32} (h : RH n Y K T le sh hp hl hs hy hk ht hb td) {kn nx : Int32} {rspr rlo : Nat → Int32} {rsp : Nat → Nat → Int32} {mk : Int32} {past : Nat → Int32} (hh : RHi n kn nx rspr rlo rsp mk past) {g : Nat → Nat} {a b : Nat} {sp : Nat → Int32} {spr lo : Int32} {s : Nat → Int32} (hR : RS n g a b sp spr lo s 0) (v1 v2 v3 : Int32) :
    ∃ o1 o2, f_X7_pours hp spr lo sp kn nx rspr rlo rsp hb v1 v2 v3 = some o1 ∧ f_X8_pours mk td s past v1 v2 v3 = some o2 ∧ o1.1 = o2.1 ∧ RHi n o1.2.2.2.1 o1.2.2.2.2.1 o1.2.2.2.2.2.1 o1.2.2.2.2.2.2.1 o1.2.2.2.2.2.2.2 o2.2.1 o2.2.2.2 ∧ ∃ g' a' b', RS n g' a' b' o1.2.2.1 spr o1.2.1 o2.2.2.1 0 := by
  obtain ⟨o, ho, hbo⟩ := h.srt
  obtain ⟨hn, -, -, rfl, e0, -, -, -, -, hj, -⟩ := h
  unfold f_X7_pours f_X8_pours
  simp only [L0, L1, L2, L3, L4, L5, L6, L7, L8, L9, L10, L11, L12, L13, L19, L20, L26, L31, L32, L33, L48, L49, L50, L51, L57, L59, L60, L61, L98, L99, L100, L108, L112, L115, L127, L128, L200, L201, L255, L256, L257, L400, L401, L420, L459, L999, L1000, L5940]
  rcases pan_cases v1 hn e0 with ⟨e1, e2⟩ | ⟨p, hpn, rfl, e1, e2⟩
  · rw [e1, e2]
    simp (disch := omega) only [L0, L1, L2, L3, L4, L5, L6, L7, L8, L9, L10, L11, L12, L13, L19, L20, L26, L31, L32, L33, L48, L49, L50, L51, L57, L59, L60, L61, L98, L99, L100, L108, L112, L115, L127, L128, L200, L201, L255, L256, L257, L400, L401, L420, L459, L999, L1000, L5940, nI_add, pk_mul, qle, qlt, qeq, qcl, qck, qbd, qsub, if_pos, if_neg]
    exact ⟨_, _, rfl, rfl, rfl, hh, g, a, b, hR⟩
  rw [e1, e2]
  rcases pan_cases v2 hn e0 with ⟨e5, e6⟩ | ⟨t, htn, rfl, e5, e6⟩
  · rw [e5, e6]
    simp (disch := omega) only [L0, L1, L2, L3, L4, L5, L6, L7, L8, L9, L10, L11, L12, L13, L19, L20, L26, L31, L32, L33, L48, L49, L50, L51, L57, L59, L60, L61, L98, L99, L100, L108, L112, L115, L127, L128, L200, L201, L255, L256, L257, L400, L401, L420, L459, L999, L1000, L5940, nI_add, pk_mul, qle, qlt, qeq, qcl, qck, qbd, qsub, if_pos, if_neg]
    exact ⟨_, _, rfl, rfl, rfl, hh, g, a, b, hR⟩
  rw [e5, e6]
  by_cases hpt : p = t
  · subst hpt
    rw [if_pos (rfl : nI p = nI p)]
    simp (disch := omega) only [L0, L1, L2, L3, L4, L5, L6, L7, L8, L9, L10, L11, L12, L13, L19, L20, L26, L31, L32, L33, L48, L49, L50, L51, L57, L59, L60, L61, L98, L99, L100, L108, L112, L115, L127, L128, L200, L201, L255, L256, L257, L400, L401, L420, L459, L999, L1000, L5940, nI_add, pk_mul, qle, qlt, qeq, qcl, qck, qbd, qsub, if_pos, if_neg]
    exact ⟨_, _, rfl, rfl, rfl, hh, g, a, b, hR⟩
  rcases in_cases v3 (a := 1) (b := 99) (by omega) (by omega) with ⟨e3, e4⟩ | ⟨k, hk1, hk2, rfl, e3, e4⟩
  · rw [e3, e4]
    simp (disch := omega) only [L0, L1, L2, L3, L4, L5, L6, L7, L8, L9, L10, L11, L12, L13, L19, L20, L26, L31, L32, L33, L48, L49, L50, L51, L57, L59, L60, L61, L98, L99, L100, L108, L112, L115, L127, L128, L200, L201, L255, L256, L257, L400, L401, L420, L459, L999, L1000, L5940, nI_add, pk_mul, qle, qlt, qeq, qcl, qck, qbd, qsub, if_pos, if_neg]
    exact ⟨_, _, rfl, rfl, rfl, hh, g, a, b, hR⟩
  rw [e3, e4]
  have hR0 := hR
  obtain ⟨w1, w2, w3, w4, w5, w6, w7a, w7b⟩ := hR.get0
  have hz := vg_z w1 (show p < 7 by omega)
  have hT := tot_n hn hz
  have hTb : tot g p ≤ 420 := Nat.le_trans (tot_le (by omega)) w1.1
  rw [q_inPan w7a hn (by omega) hz, q_full w7b (by omega)]
  by_cases h0 : tot g p = 0
  · rw [h0]
    simp (disch := omega) only [L0, L1, L2, L3, L4, L5, L6, L7, L8, L9, L10, L11, L12, L13, L19, L20, L26, L31, L32, L33, L48, L49, L50, L51, L57, L59, L60, L61, L98, L99, L100, L108, L112, L115, L127, L128, L200, L201, L255, L256, L257, L400, L401, L420, L459, L999, L1000, L5940, nI_add, pk_mul, qle, qlt, qeq, qcl, qck, qbd, qsub, if_pos, if_neg]
    exact ⟨_, _, rfl, rfl, rfl, hh, g, a, b, hR0⟩
  obtain ⟨o1, o2, r1, r2, r3⟩ := sim_remember hh hR0
  obtain ⟨sp', t1, t2⟩ := take_pour (lo := lo) (k := k) hn (show p < 7 by omega) (show t < 7 by omega) hpt ho hbo (by omega) (fun x hx => by have := vg_le w1 hx; omega) w7a
  obtain ⟨s', t3, t4, t5, t6⟩ := goes_pour (k := k) hn (show p < 7 by omega) (show t < 7 by omega) hpt ho (fun j hj2 => ⟨(hj j hj2).1, (hj j hj2).2.2.2.2.1⟩) hz (fun x hx => vg_le w1 hx) (by omega) (by omega) hk1 (by omega) w7b
  rw [r1, r2, t1, t3]
  simp (disch := omega) only [L0, L1, L2, L3, L4, L5, L6, L7, L8, L9, L10, L11, L12, L13, L19, L20, L26, L31, L32, L33, L48, L49, L50, L51, L57, L59, L60, L61, L98, L99, L100, L108, L112, L115, L127, L128, L200, L201, L255, L256, L257, L400, L401, L420, L459, L999, L1000, L5940, nI_add, pk_mul, qle, qlt, qeq, qcl, qck, qbd, qsub, if_pos, if_neg]
  exact ⟨_, _, rfl, rfl, rfl, r3, pour Y n k p t g, a, b, RS.mk0 (vg_pour w1 Y k hn hpn htn hpt) w2 w3 (t6.trans w4) w5 (t5.trans w6) t2 t4⟩
theorem sim_splits {n : Nat} {Y K T : Nat → Nat} {le sh : Nat} {hp hl hs : Int32} {hy hk ht hb td : Nat → Int32} (h : RH n Y K T le sh hp hl hs hy hk ht hb td) {kn nx : Int32} {rspr rlo : Nat → Int32} {rsp : Nat → Nat → Int32} {mk : Int32} {past : Nat → Int32} (hh : RHi n kn nx rspr rlo rsp mk past) {g : Nat → Nat} {a b : Nat} {sp : Nat → Int32} {spr lo : Int32} {s : Nat → Int32} (hR : RS n g a b sp spr lo s 0) (v1 : Int32) :
    ∃ o1 o2, f_X7_splits hp spr lo sp kn nx rspr rlo rsp hb v1 = some o1 ∧ f_X8_splits mk td s past v1 = some o2 ∧ o1.1 = o2.1 ∧ RHi n o1.2.2.2.1 o1.2.2.2.2.1 o1.2.2.2.2.2.1 o1.2.2.2.2.2.2.1 o1.2.2.2.2.2.2.2 o2.2.1 o2.2.2.2 ∧ ∃ g' a' b', RS n g' a' b' o1.2.2.1 spr o1.2.1 o2.2.2.1 0 := by
  obtain ⟨o, ho, hbo⟩ := h.srt
  obtain ⟨hn, -, -, rfl, e0, -, -, -, -, hj, -⟩ := h
  unfold f_X7_splits f_X8_splits
  simp only [L0, L1, L2, L3, L4, L5, L6, L7, L8, L9, L10, L11, L12, L13, L19, L20, L26, L31, L32, L33, L48, L49, L50, L51, L57, L59, L60, L61, L98, L99, L100, L108, L112, L115, L127, L128, L200, L201, L255, L256, L257, L400, L401, L420, L459, L999, L1000, L5940]
  rcases pan_cases v1 hn e0 with ⟨e1, e2⟩ | ⟨p, hpn, rfl, e1, e2⟩
  · rw [e1, e2]
    simp (disch := omega) only [L0, L1, L2, L3, L4, L5, L6, L7, L8, L9, L10, L11, L12, L13, L19, L20, L26, L31, L32, L33, L48, L49, L50, L51, L57, L59, L60, L61, L98, L99, L100, L108, L112, L115, L127, L128, L200, L201, L255, L256, L257, L400, L401, L420, L459, L999, L1000, L5940, nI_add, pk_mul, qle, qlt, qeq, qcl, qck, qbd, qsub, if_pos, if_neg]
    exact ⟨_, _, rfl, rfl, rfl, hh, g, a, b, hR⟩
  rw [e1, e2]
  have hR0 := hR
  obtain ⟨w1, w2, w3, w4, w5, w6, w7a, w7b⟩ := hR.get0
  have hz := vg_z w1 (show p < 7 by omega)
  have hT := tot_n hn hz
  have hTb : tot g p ≤ 420 := Nat.le_trans (tot_le (by omega)) w1.1
  rw [q_inPan w7a hn (by omega) hz, q_full w7b (by omega)]
  by_cases h0 : tot g p = 0
  · rw [h0]
    simp (disch := omega) only [L0, L1, L2, L3, L4, L5, L6, L7, L8, L9, L10, L11, L12, L13, L19, L20, L26, L31, L32, L33, L48, L49, L50, L51, L57, L59, L60, L61, L98, L99, L100, L108, L112, L115, L127, L128, L200, L201, L255, L256, L257, L400, L401, L420, L459, L999, L1000, L5940, nI_add, pk_mul, qle, qlt, qeq, qcl, qck, qbd, qsub, if_pos, if_neg]
    exact ⟨_, _, rfl, rfl, rfl, hh, g, a, b, hR0⟩
  obtain ⟨o1, o2, r1, r2, r3⟩ := sim_remember hh hR0
  obtain ⟨sp', t1, t2⟩ := take_gone (b := b) (k := tot g p) hn (show p < 7 by omega) ho hbo (by omega) (fun x hx => by have := vg_le w1 hx; omega) w7a
  obtain ⟨s', t3, t4, t5, t6⟩ := goes_gone (b := b) (k := tot g p) hn (show p < 7 by omega) ho (fun j hj2 => ⟨(hj j hj2).1, (hj j hj2).2.2.2.2.1⟩) hz (fun x hx => vg_le w1 hx) (by omega) (by omega) w7b w6
  simp only [L0, L1, L2, L3, L4, L5, L6, L7, L8, L9, L10, L11, L12, L13, L19, L20, L26, L31, L32, L33, L48, L49, L50, L51, L57, L59, L60, L61, L98, L99, L100, L108, L112, L115, L127, L128, L200, L201, L255, L256, L257, L400, L401, L420, L459, L999, L1000, L5940] at t1 t3
  rw [r1, r2, w5]
  simp (disch := omega) only [L0, L1, L2, L3, L4, L5, L6, L7, L8, L9, L10, L11, L12, L13, L19, L20, L26, L31, L32, L33, L48, L49, L50, L51, L57, L59, L60, L61, L98, L99, L100, L108, L112, L115, L127, L128, L200, L201, L255, L256, L257, L400, L401, L420, L459, L999, L1000, L5940, nI_add, pk_mul, qle, qlt, qeq, qcl, qck, qbd, qsub, if_pos, if_neg]
  rw [t1, t3]
  simp (disch := omega) only [L0, L1, L2, L3, L4, L5, L6, L7, L8, L9, L10, L11, L12, L13, L19, L20, L26, L31, L32, L33, L48, L49, L50, L51, L57, L59, L60, L61, L98, L99, L100, L108, L112, L115, L127, L128, L200, L201, L255, L256, L257, L400, L401, L420, L459, L999, L1000, L5940, nI_add, pk_mul, qle, qlt, qeq, qcl, qck, qbd, qsub, if_pos, if_neg]
  exact ⟨_, _, rfl, rfl, rfl, r3, gone Y n (tot g p) p g, a, b + min (tot g p) (sm (fun q => g (7 * p + q)) n), RS.mk0 (vg_gone w1 Y _ p) w2 w3 (t6.trans w4) rfl t5 t2 t4⟩
/-! springs -/
def SG (Y K : Nat → Nat) (n : Nat) : Nat → (Nat → Nat) → Nat → Nat
  | 0, g => g
  | i + 1, g => gone Y n (K i) i (SG Y K n i g)
def SC (Y K : Nat → Nat) (n : Nat) (g : Nat → Nat) (i : Nat) : Nat := sm (fun j => min (K j) (sm (fun q => SG Y K n j g (7 * j + q)) n)) i
theorem vg_SG {n : Nat} {g : Nat → Nat} (h : vg n g) (Y K : Nat → Nat) : ∀ i, vg n (SG Y K n i g)
  | 0 => h
  | i + 1 => vg_gone (vg_SG h Y K i) Y (K i) i
theorem SG_row (Y K : Nat → Nat) {n : Nat} (hn : n ≤ 7) (g : Nat → Nat) {p q : Nat} (hp : p < n) (hq : q < n) : ∀ i, SG Y K n i g (7 * p + q) = if p < i then rs Y n (K p) (fun q => g (7 * p + q)) q else g (7 * p + q)
  | 0 => by rw [if_neg (by omega)]; rfl
  | i + 1 => by
    show gone Y n (K i) i (SG Y K n i g) (7 * p + q) = _
    by_cases e : p = i
    · subst e
      rw [gone_in Y _ p _ hn hq, if_pos (by omega)]
      apply rs_cong _ hq
      intro x hx
      rw [SG_row Y K hn g hp hx p, if_neg (by omega)]
    · rw [gone_out Y _ i _ (by omega), SG_row Y K hn g hp hq i]
      by_cases c : p < i
      · rw [if_pos c, if_pos (by omega)]
      · rw [if_neg c, if_neg (by omega)]
theorem q_passSpring {n b : Nat} {spr : Int32} {Y K o g : Nat → Nat} {hk hb sp : Nat → Int32} (hn : n ≤ 7) (ho : srt n Y o) (hbo : ∀ i, i < n → hb i = nI (o i)) (hK : ∀ j, j < n → K j ≤ 9 ∧ hk j = nI (K j)) (hv : vg n g) (hs : ∀ x, x < 49 → sp x = nI (g x)) :
    ∃ sp', f_X4_passSpring spr (nI b) (nI n) hk hb sp = some (nI (SC Y K n g n), spr + nI 1, nI (b + SC Y K n g n), sp') ∧ ∀ x, x < 49 → sp' x = nI (SG Y K n n g x) := by
  unfold f_X4_passSpring
  simp only [L0, L1, L2, L3, L4, L5, L6, L7, L8, L9, L10, L11, L12, L13, L19, L20, L26, L31, L32, L33, L48, L49, L50, L51, L57, L59, L60, L61, L98, L99, L100, L108, L112, L115, L127, L128, L200, L201, L255, L256, L257, L400, L401, L420, L459, L999, L1000, L5940]
  have key : ∀ d i f (sp : Nat → Int32), i + d = n → d < f → (∀ x, x < 49 → sp x = nI (SG Y K n i g x)) →
      ∃ sp', f_X4_passSpring_L4 spr (nI n) hk hb f (nI (SC Y K n g i)) (nI i) (nI (b + SC Y K n g i)) sp = some (nI (SC Y K n g n), spr + nI 1, nI (b + SC Y K n g n), sp') ∧ ∀ x, x < 49 → sp' x = nI (SG Y K n n g x) := by
    intro d
    induction d with
    | zero =>
      intro i f sp hi hf h1
      obtain ⟨f, rfl⟩ : ∃ k, f = k + 1 := ⟨f - 1, by omega⟩
      have hi : i = n := by omega
      subst hi
      refine ⟨sp, ?_, h1⟩
      show f_X4_passSpring_B4 _ _ _ _ _ _ _ _ _ = _
      unfold f_X4_passSpring_B4 f_X4_passSpring_J39
      simp only [L0, L1, L2, L3, L4, L5, L6, L7, L8, L9, L10, L11, L12, L13, L19, L20, L26, L31, L32, L33, L48, L49, L50, L51, L57, L59, L60, L61, L98, L99, L100, L108, L112, L115, L127, L128, L200, L201, L255, L256, L257, L400, L401, L420, L459, L999, L1000, L5940]
      rw [if_pos (nI_le (Nat.le_refl _) (by omega))]
    | succ d ih =>
      intro i f sp hi hf h1
      obtain ⟨f, rfl⟩ : ∃ k, f = k + 1 := ⟨f - 1, by omega⟩
      have hvi := vg_SG hv Y K i
      have hKi := hK i (by omega)
      obtain ⟨sp', t1, t2⟩ := take_gone (b := b + SC Y K n g i) (k := K i) hn (show i < 7 by omega) ho hbo (by omega) (fun x hx => by have := vg_le hvi hx; omega) h1
      simp only [L0, L1, L2, L3, L4, L5, L6, L7, L8, L9, L10, L11, L12, L13, L19, L20, L26, L31, L32, L33, L48, L49, L50, L51, L57, L59, L60, L61, L98, L99, L100, L108, L112, L115, L127, L128, L200, L201, L255, L256, L257, L400, L401, L420, L459, L999, L1000, L5940] at t1
      show ∃ sp', f_X4_passSpring_B4 _ _ _ _ _ _ _ _ _ = _ ∧ _
      unfold f_X4_passSpring_B4
      simp only [L0, L1, L2, L3, L4, L5, L6, L7, L8, L9, L10, L11, L12, L13, L19, L20, L26, L31, L32, L33, L48, L49, L50, L51, L57, L59, L60, L61, L98, L99, L100, L108, L112, L115, L127, L128, L200, L201, L255, L256, L257, L400, L401, L420, L459, L999, L1000, L5940]
      rw [if_neg (nI_ge (show i < n by omega) (by omega)), qck (show i < 7 by omega) (by omega), qcl (by omega), hKi.2, t1, qbd, nI_add, nI_add]
      dsimp only
      rw [Nat.add_assoc]
      exact ih (i + 1) f sp' (by omega) (by omega) t2
  exact key n 0 FU sp (by omega) (fu (by omega)) hs
theorem q_springs {n a b : Nat} {Y K o g : Nat → Nat} {s td : Nat → Int32} (hn : n ≤ 7) (ho : srt n Y o) (h0 : td 0 = nI n) (hY : ∀ j, j < n → Y j ≤ 99 ∧ td (5 + j) = nI (Y j)) (hK : ∀ j, j < n → K j ≤ 9 ∧ td (19 + j) = nI (K j)) (hv : vg n g) (hs : ∀ x, x < 49 → s x = nI (g x)) (h49 : s 49 = nI a) (h50 : s 50 = nI b) :
    ∃ s', f_X8_springs td s = some (nI (SC Y K n g n), s') ∧ (∀ x, x < 49 → s' x = nI (SG Y K n n g x)) ∧ s' 49 = nI (a + 1) ∧ s' 50 = nI (b + SC Y K n g n) := by
  unfold f_X8_springs
  simp only [L0, L1, L2, L3, L4, L5, L6, L7, L8, L9, L10, L11, L12, L13, L19, L20, L26, L31, L32, L33, L48, L49, L50, L51, L57, L59, L60, L61, L98, L99, L100, L108, L112, L115, L127, L128, L200, L201, L255, L256, L257, L400, L401, L420, L459, L999, L1000, L5940]
  have key : ∀ d i f (s : Nat → Int32), i + d = n → d < f → (∀ x, x < 49 → s x = nI (SG Y K n i g x)) → s 49 = nI a → s 50 = nI (b + SC Y K n g i) →
      ∃ s', f_X8_springs_L4 td f (nI (SC Y K n g i)) (nI i) s = some (nI (SC Y K n g n), s') ∧ (∀ x, x < 49 → s' x = nI (SG Y K n n g x)) ∧ s' 49 = nI (a + 1) ∧ s' 50 = nI (b + SC Y K n g n) := by
    intro d
    induction d with
    | zero =>
      intro i f s hi hf h1 h2 h3
      obtain ⟨f, rfl⟩ : ∃ k, f = k + 1 := ⟨f - 1, by omega⟩
      have hi : i = n := by omega
      subst hi
      show ∃ s', f_X8_springs_B4 _ _ _ _ _ = _ ∧ _
      unfold f_X8_springs_B4 f_X8_springs_J38
      simp only [L0, L1, L2, L3, L4, L5, L6, L7, L8, L9, L10, L11, L12, L13, L19, L20, L26, L31, L32, L33, L48, L49, L50, L51, L57, L59, L60, L61, L98, L99, L100, L108, L112, L115, L127, L128, L200, L201, L255, L256, L257, L400, L401, L420, L459, L999, L1000, L5940]
      rw [qck (by omega) (by omega), qcl (by omega), h0, if_pos (nI_le (Nat.le_refl _) (by omega)), qck (by omega) (by omega), qck (by omega) (by omega), qcl (by omega), h2, nI_add]
      refine ⟨_, rfl, fun x hx => ?_, qu_s, ?_⟩
      · rw [qu_n (by omega)]; exact h1 x hx
      · rw [qu_n (by omega)]; exact h3
    | succ d ih =>
      intro i f s hi hf h1 h2 h3
      obtain ⟨f, rfl⟩ : ∃ k, f = k + 1 := ⟨f - 1, by omega⟩
      have hvi := vg_SG hv Y K i
      have hKi := hK i (by omega)
      have hz := vg_z hvi (show i < 7 by omega)
      have hT := tot_n hn hz
      have hTb : tot (SG Y K n i g) i ≤ 420 := Nat.le_trans (tot_le (by omega)) hvi.1
      obtain ⟨s', t3, t4, t5, t6⟩ := goes_gone (b := b + SC Y K n g i) (k := K i) hn (show i < 7 by omega) ho hY hz (fun x hx => vg_le hvi hx) (by omega) (by omega) h1 h3
      simp only [L0, L1, L2, L3, L4, L5, L6, L7, L8, L9, L10, L11, L12, L13, L19, L20, L26, L31, L32, L33, L48, L49, L50, L51, L57, L59, L60, L61, L98, L99, L100, L108, L112, L115, L127, L128, L200, L201, L255, L256, L257, L400, L401, L420, L459, L999, L1000, L5940] at t3
      show ∃ s', f_X8_springs_B4 _ _ _ _ _ = _ ∧ _
      unfold f_X8_springs_B4
      simp only [L0, L1, L2, L3, L4, L5, L6, L7, L8, L9, L10, L11, L12, L13, L19, L20, L26, L31, L32, L33, L48, L49, L50, L51, L57, L59, L60, L61, L98, L99, L100, L108, L112, L115, L127, L128, L200, L201, L255, L256, L257, L400, L401, L420, L459, L999, L1000, L5940]
      rw [qck (by omega) (by omega), qcl (by omega), h0, if_neg (nI_ge (show i < n by omega) (by omega)), nI_add, qck (by omega) (by omega), qcl (by omega), hKi.2, t3, qbd, nI_add, nI_add]
      dsimp only
      refine ih (i + 1) f s' (by omega) (by omega) t4 (t6.trans h2) ?_
      rw [t5, Nat.add_assoc]
      rfl
  exact key n 0 FU s (by omega) (fu (by omega)) hs h49 h50
theorem sim_spring {n : Nat} {Y K T : Nat → Nat} {le sh : Nat} {hp hl hs : Int32} {hy hk ht hb td : Nat → Int32} (h : RH n Y K T le sh hp hl hs hy hk ht hb td) {kn nx : Int32} {rspr rlo : Nat → Int32} {rsp : Nat → Nat → Int32} {mk : Int32} {past : Nat → Int32} (hh : RHi n kn nx rspr rlo rsp mk past) {g : Nat → Nat} {a b : Nat} {sp : Nat → Int32} {spr lo : Int32} {s : Nat → Int32} (hR : RS n g a b sp spr lo s 0) :
    ∃ o1 o2, f_X7_spring spr lo kn nx rspr rlo rsp sp hp hk hb = some o1 ∧ f_X8_spring mk s past td = some o2 ∧ o1.1 = o2.1 ∧ RHi n o1.2.2.2.1 o1.2.2.2.2.1 o1.2.2.2.2.2.1 o1.2.2.2.2.2.2.1 o1.2.2.2.2.2.2.2.1 o2.2.1 o2.2.2.2 ∧ ∃ g' a' b', RS n g' a' b' o1.2.2.2.2.2.2.2.2 o1.2.1 o1.2.2.1 o2.2.2.1 0 := by
  obtain ⟨o, ho, hbo⟩ := h.srt
  obtain ⟨hn, -, -, rfl, e0, -, -, -, -, hj, -⟩ := h
  have hR0 := hR
  obtain ⟨w1, w2, w3, w4, w5, w6, w7a, w7b⟩ := hR.get0
  unfold f_X7_spring f_X8_spring
  simp only [L0, L1, L2, L3, L4, L5, L6, L7, L8, L9, L10, L11, L12, L13, L19, L20, L26, L31, L32, L33, L48, L49, L50, L51, L57, L59, L60, L61, L98, L99, L100, L108, L112, L115, L127, L128, L200, L201, L255, L256, L257, L400, L401, L420, L459, L999, L1000, L5940]
  rw [qck (by omega) (by omega), qcl (by omega), w4, w3, w5]
  by_cases c : a = 999
  · subst c
    simp (disch := omega) only [L0, L1, L2, L3, L4, L5, L6, L7, L8, L9, L10, L11, L12, L13, L19, L20, L26, L31, L32, L33, L48, L49, L50, L51, L57, L59, L60, L61, L98, L99, L100, L108, L112, L115, L127, L128, L200, L201, L255, L256, L257, L400, L401, L420, L459, L999, L1000, L5940, nI_add, pk_mul, qle, qlt, qeq, qcl, qck, qbd, qsub, if_pos, if_neg]
    exact ⟨_, _, rfl, rfl, rfl, hh, g, 999, b, RS.mk0 w1 w2 rfl w4 rfl w6 w7a w7b⟩
  · obtain ⟨o1, o2, r1, r2, r3⟩ := sim_remember hh hR0
    rw [w3, w5] at r1
    obtain ⟨sp', t1, t2⟩ := q_passSpring (b := b) (spr := nI a) (Y := Y) (K := K) hn ho hbo (fun j hj2 => ⟨(hj j hj2).2.1, (hj j hj2).2.2.2.2.2.1⟩) w1 w7a
    obtain ⟨s', t3, t4, t5, t6⟩ := q_springs (Y := Y) (K := K) hn ho e0 (fun j hj2 => ⟨(hj j hj2).1, (hj j hj2).2.2.2.2.1⟩) (fun j hj2 => ⟨(hj j hj2).2.1, (hj j hj2).2.2.2.2.2.2.1⟩) w1 w7b w4 w6
    rw [r1, r2, t1, t3]
    simp (disch := omega) only [L0, L1, L2, L3, L4, L5, L6, L7, L8, L9, L10, L11, L12, L13, L19, L20, L26, L31, L32, L33, L48, L49, L50, L51, L57, L59, L60, L61, L98, L99, L100, L108, L112, L115, L127, L128, L200, L201, L255, L256, L257, L400, L401, L420, L459, L999, L1000, L5940, nI_add, pk_mul, qle, qlt, qeq, qcl, qck, qbd, qsub, if_pos, if_neg]
    exact ⟨_, _, rfl, rfl, rfl, r3, SG Y K n n g, a + 1, b + SC Y K n g n, RS.mk0 (vg_SG w1 Y K n) (by omega) rfl t5 rfl t6 t2 t4⟩
